/-! THE REFERENCE: a macro's lines -/
section
variable {d : Nat} {S : zS} {r r1 : zR} {c : zD} {g : zG}
set_option maxRecDepth 10000 in
set_option maxHeartbeats 2000000 in
theorem C_X8_call {dd : Nat} {q : zMa} (h : REL c g r) (ht : iL g = none → g.1.2.2.2.1 = g.1.1) (hb : r.1 11 = 0) (hs : g.2.1 < 20) (hx : eqx [46, 47, 48, 49] [229, 205 + g.2.1, 180 + g.2.1] r r1) (hAR : AR r1 g.2.1 g.2.2.2.2 (gat c.2.2.2.1)) (h229 : ∀ j, j ≠ g.2.1 → r1.2.1 229 j = r.2.1 229 j) (hd : g.2.2.2.1[dd]? = some q) (hm : g.1.2.2.1 ≤ 65536) (hnp : ¬ q.2.2.1.length < (gat c.2.2.2.1).length) : Rc (d + 1) mX8_call [.ref 165, .int (nI dd)] (RS S r1) (stX S c r (cMac c g q)) := by
  have h9 := h
  obtain ⟨h1, ⟨a, h2, h2'⟩, h3, h4, h5, h6, h7, h8, -, -, h11⟩ := h9
  have nA : ∀ x, x < 180 ∨ 229 < x → x ∉ [229, 205 + g.2.1, 180 + g.2.1] := fun x hx z => by
    rcases List.mem_cons.mp z with z | z
    · omega
    · rcases List.mem_cons.mp z with z | z
      · omega
      · have := List.mem_singleton.mp z; omega
  obtain ⟨m1, m2, m3, m4, m5, m6, m7, m8, m9⟩ := h11.2.2 dd q hd
  have hdl : dd < g.2.2.2.1.length := (List.getElem?_eq_some_iff.mp hd).1
  have hml := h11.2.1
  have e1 : cMac c g q = (((q.2.1.2.2.1, g.1.2.1, g.1.2.2.1 + 1, g.1.2.2.2), g.2.1 + 1, va_up g.2.2.1 g.2.1 (6, (q.2.1.2.2.1, q.2.1.2.2.2, g.1.1, g.1.2.2.2.1), (g.2.2.1 g.2.1).2.2.1, g.1.2.2.1, some q, g.2.2.2.2, gat c.2.2.2.1), g.2.2.2), 0) := by
    unfold cMac
    rw [if_neg (by omega), if_neg hnp]
  rw [e1]
  refine Rc.of ?_
  refine r_aload_n dX8_call_0 (by first | rfl | assumption) ?_
  refine r_bp (6) dX8_call_1 rfl ?_
  refine r_aload_n dX8_call_3 (by first | rfl | assumption) ?_
  refine r8_get dX8_call_4 zf_X8_84 rfl ?_
  refine r_iload_n dX8_call_7 (by first | rfl | assumption) ?_
  refine r8_iald dX8_call_8 (by decide) (rfl) (by first | assumption | exact (show _ < 65536 by omega) | exact (show _ < 1100 by omega) | exact (show _ < 24 by omega) | exact (show _ < 2100 by omega) | exact (show _ < 6600 by omega) | exact (show _ < 1110 by omega)) ?_
  rw [(hx.2 235 (nA 235 (by omega))).1, m7]
  refine r_aload_n dX8_call_9 (by first | rfl | assumption) ?_
  refine r8_get dX8_call_10 zf_X8_87 rfl ?_
  refine r_iload_n dX8_call_13 (by first | rfl | assumption) ?_
  refine r8_iald dX8_call_14 (by decide) (rfl) (by first | assumption | exact (show _ < 65536 by omega) | exact (show _ < 1100 by omega) | exact (show _ < 24 by omega) | exact (show _ < 2100 by omega) | exact (show _ < 6600 by omega) | exact (show _ < 1110 by omega)) ?_
  refine r_callV3 dX8_call_15 zm_X8_265 RS_o rfl (Nat.le_of_ble_eq_true rfl) (Nat.le_of_ble_eq_true rfl) (C_X8_enter (f := g.2.1) ((hx.1 19 (by decide)).trans h7) (by omega)) (fun v S9 hv => ?_)
  obtain ⟨rfl, r2, rfl, hE⟩ := hv
  refine r_aload_n dX8_call_18 (by first | rfl | assumption) ?_
  refine r8_get dX8_call_19 zf_X8_139 rfl ?_
  refine r_ic (1) dX8_call_22 rfl ?_
  rw [hE.2.1]
  refine r_isub dX8_call_23 ?_
  rw [nI_p1]
  refine r_istore_n dX8_call_24 (by decide) (by first | assumption | exact z_c1_i (by first | rfl | assumption) | exact z_c1_r (by first | rfl | assumption) | exact z_c1_n (by first | rfl | assumption) | exact z_c1_c (by first | rfl | assumption) | exact z_c1_0 (by first | rfl | assumption)) ?_
  refine r_aload_n dX8_call_25 (by first | rfl | assumption) ?_
  refine r8_get dX8_call_26 zf_X8_46 rfl ?_
  refine r_iload_n dX8_call_29 (by first | rfl | assumption) ?_
  refine r_iload_n dX8_call_30 (by first | rfl | assumption) ?_
  refine r8_iast dX8_call_31 (by decide) (rfl) (by first | assumption | exact (show _ < 65536 by omega) | exact (show _ < 1100 by omega) | exact (show _ < 24 by omega) | exact (show _ < 2100 by omega) | exact (show _ < 6600 by omega) | exact (show _ < 1110 by omega)) ?_
  refine r_aload_n dX8_call_32 (by first | rfl | assumption) ?_
  refine r8_get dX8_call_33 zf_X8_49 rfl ?_
  refine r_iload_n dX8_call_36 (by first | rfl | assumption) ?_
  refine r_aload_n dX8_call_37 (by first | rfl | assumption) ?_
  refine r8_get dX8_call_38 zf_X8_269 rfl ?_
  simp only [rA_1]
  rw [hE.1.1 10 (by decide), hx.1 10 (by decide), h5]
  refine r8_iast dX8_call_41 (by decide) (rfl) (by first | assumption | exact (show _ < 65536 by omega) | exact (show _ < 1100 by omega) | exact (show _ < 24 by omega) | exact (show _ < 2100 by omega) | exact (show _ < 6600 by omega) | exact (show _ < 1110 by omega)) ?_
  refine r_aload_n dX8_call_42 (by first | rfl | assumption) ?_
  refine r8_get dX8_call_43 zf_X8_40 rfl ?_
  refine r_iload_n dX8_call_46 (by first | rfl | assumption) ?_
  refine r_ic (1) dX8_call_47 rfl ?_
  refine r8_iast dX8_call_48 (by decide) (rfl) (by first | assumption | exact (show _ < 65536 by omega) | exact (show _ < 1100 by omega) | exact (show _ < 24 by omega) | exact (show _ < 2100 by omega) | exact (show _ < 6600 by omega) | exact (show _ < 1110 by omega)) ?_
  refine r_aload_n dX8_call_49 (by first | rfl | assumption) ?_
  refine r_dup dX8_call_50 rfl ?_
  refine r8_get dX8_call_51 zf_X8_269 rfl ?_
  refine r_ic (1) dX8_call_54 rfl ?_
  simp only [rA_1]
  rw [hE.1.1 10 (by decide), hx.1 10 (by decide), h5]
  refine r_iadd dX8_call_55 ?_
  rw [nI_1]
  refine r8_put dX8_call_56 zf_X8_269 (Nat.le_of_ble_eq_true rfl) rfl (⟨rfl, rfl⟩) ?_
  refine r_aload_n dX8_call_59 (by first | rfl | assumption) ?_
  refine r_aload_n dX8_call_60 (by first | rfl | assumption) ?_
  refine r8_get dX8_call_61 zf_X8_78 rfl ?_
  refine r_iload_n dX8_call_64 (by first | rfl | assumption) ?_
  refine r8_iald dX8_call_65 (by decide) (rfl) (by first | assumption | exact (show _ < 65536 by omega) | exact (show _ < 1100 by omega) | exact (show _ < 24 by omega) | exact (show _ < 2100 by omega) | exact (show _ < 6600 by omega) | exact (show _ < 1110 by omega)) ?_
  have kE : ∀ x, 230 ≤ x → x ≤ 235 → r2.2.1 x = r.2.1 x := fun x h1 h2 => (hE.1.2 x (fun z => by simp only [List.mem_cons, List.not_mem_nil, or_false] at z; omega)).1.trans (hx.2 x (nA x (by omega))).1
  rw [show (rF (rA (rA (rA r2 176 g.2.1 (nI dd)) 177 g.2.1 (nI g.1.2.2.1)) 174 g.2.1 1) 10 (nI (g.1.2.2.1 + 1))).2.1 233 dd = nI (lo c.2.1 q.2.1.2.2.1) by
    show (rA (rA (rA r2 176 g.2.1 (nI dd)) 177 g.2.1 (nI g.1.2.2.1)) 174 g.2.1 1).2.1 233 dd = _
    rw [rA_o (by decide), rA_o (by decide), rA_o (by decide), kE 233 (by decide) (by decide)]
    exact m5]
  refine r8_put dX8_call_66 zf_X8_186 (Nat.le_of_ble_eq_true rfl) rfl (⟨rfl, rfl⟩) ?_
  refine r_aload_n dX8_call_69 (by first | rfl | assumption) ?_
  refine r_aload_n dX8_call_70 (by first | rfl | assumption) ?_
  refine r8_get dX8_call_71 zf_X8_81 rfl ?_
  refine r_iload_n dX8_call_74 (by first | rfl | assumption) ?_
  refine r8_iald dX8_call_75 (by decide) (rfl) (by first | assumption | exact (show _ < 65536 by omega) | exact (show _ < 1100 by omega) | exact (show _ < 24 by omega) | exact (show _ < 2100 by omega) | exact (show _ < 6600 by omega) | exact (show _ < 1110 by omega)) ?_
  rw [show (rF (rF (rA (rA (rA r2 176 g.2.1 (nI dd)) 177 g.2.1 (nI g.1.2.2.1)) 174 g.2.1 1) 10 (nI (g.1.2.2.1 + 1))) 5 (nI (lo c.2.1 q.2.1.2.2.1))).2.1 234 dd = nI q.2.1.2.2.1 by
    show (rA (rA (rA r2 176 g.2.1 (nI dd)) 177 g.2.1 (nI g.1.2.2.1)) 174 g.2.1 1).2.1 234 dd = _
    rw [rA_o (by decide), rA_o (by decide), rA_o (by decide), kE 234 (by decide) (by decide)]
    exact m6]
  refine r8_put dX8_call_76 zf_X8_136 (Nat.le_of_ble_eq_true rfl) rfl (⟨rfl, rfl⟩) ?_
  generalize hrr : rF (rF (rF (rA (rA (rA r2 176 g.2.1 (nI dd)) 177 g.2.1 (nI g.1.2.2.1)) 174 g.2.1 1) 10 (nI (g.1.2.2.1 + 1))) 5 (nI (lo c.2.1 q.2.1.2.2.1))) 6 (nI q.2.1.2.2.1) = r3
  have f3 : ∀ x, x ≠ 5 → x ≠ 6 → x ≠ 10 → x ≠ 19 → x < 46 → r3.1 x = r.1 x := by
    intro x a1 a2 a3 a4 a5
    rw [← hrr]
    show va_up (va_up (va_up r2.1 10 _) 5 _) 6 _ x = _
    rw [va_up_ne _ _ a2, va_up_ne _ _ a1, va_up_ne _ _ a3, hE.1.1 x (fun z => a4 (List.mem_singleton.mp z)), hx.1 x (fun z => by simp only [List.mem_cons, List.not_mem_nil, or_false] at z; omega)]
  have a3 : ∀ x, r3.2.1 x = (rA (rA (rA r2 176 g.2.1 (nI dd)) 177 g.2.1 (nI g.1.2.2.1)) 174 g.2.1 1).2.1 x := fun x => by rw [← hrr]; rfl
  have aj : ∀ x j, j ≠ g.2.1 → r3.2.1 x j = r1.2.1 x j := fun x j hj => by rw [a3, rA_j hj, rA_j hj, rA_j hj]; exact hE.2.2.1 x j hj
  have ao : ∀ x, 179 ≤ x → r3.2.1 x = r1.2.1 x := fun x hx => by
    rw [a3, rA_o (by omega), rA_o (by omega), rA_o (by omega)]
    exact (hE.1.2 x (fun z => by simp only [List.mem_cons, List.not_mem_nil, or_false] at z; omega)).1
  have af : ∀ x, x ≠ 174 → x ≠ 176 → x ≠ 177 → r3.2.1 x = r2.2.1 x := fun x h1 h2 h3 => by rw [a3, rA_o h1, rA_o h3, rA_o h2]
  have vv : r3.2.2 = r2.2.2 := by rw [← hrr]; rfl
  have e167 : r3.2.1 167 = r.2.1 167 := by
    rw [af 167 (by decide) (by decide) (by decide)]
    exact (hE.1.2 167 (by decide)).1.trans (hx.2 167 (nA 167 (by omega))).1
  have hkp : kept r r3 := ⟨f3 3 (by decide) (by decide) (by decide) (by decide) (by decide), f3 15 (by decide) (by decide) (by decide) (by decide) (by decide), f3 16 (by decide) (by decide) (by decide) (by decide) (by decide), f3 0 (by decide) (by decide) (by decide) (by decide) (by decide), by rw [af 166 (by decide) (by decide) (by decide)]; exact (hE.1.2 166 (by decide)).1.trans (hx.2 166 (nA 166 (by omega))).1, by rw [vv]; exact (hE.1.2 241 (by decide)).2.trans (hx.2 241 (nA 241 (by omega))).2⟩
  refine r_return dX8_call_79 rfl ⟨rfl, r3, rfl, hkp, Or.inl ⟨rfl, (f3 11 (by decide) (by decide) (by decide) (by decide) (by decide)).trans hb, Or.inl ?_⟩⟩
  have hus : va_up g.2.2.1 g.2.1 ((6, (q.2.1.2.2.1, q.2.1.2.2.2, g.1.1, g.1.2.2.2.1), (g.2.2.1 g.2.1).2.2.1, g.1.2.2.1, some q, g.2.2.2.2, gat c.2.2.2.1) : zPt) g.2.1 = _ := va_up_self _ _ _
  refine h.op (r' := r3) (q := (6, (q.2.1.2.2.1, q.2.1.2.2.2, g.1.1, g.1.2.2.2.1), (g.2.2.1 g.2.1).2.2.1, g.1.2.2.1, some q, g.2.2.2.2, gat c.2.2.2.1)) (p := q.2.1.2.2.1) (m := g.1.2.2.1 + 1) hs ⟨(f3 4 (by decide) (by decide) (by decide) (by decide) (by decide)).trans h1.1, h1.2.1, by rw [e167]; exact h1.2.2⟩ ⟨lo c.2.1 q.2.1.2.2.1, by rw [← hrr]; rfl, atL_lo (by omega) h1.2.1⟩ (by rw [← hrr]; rfl) ((f3 9 (by decide) (by decide) (by decide) (by decide) (by decide)).trans h4) (by rw [← hrr]; rfl) ((f3 14 (by decide) (by decide) (by decide) (by decide) (by decide)).trans h6) (by rw [← hrr]; exact hE.2.1) (fun j hj => ?_) ?_ (fun _ hz => ?_) ?_
  · refine ⟨fun k k1 k2 => (aj k j (by omega)).trans (by rw [(hx.2 k (nA k (by omega))).1]), (aj 229 j (by omega)).trans (h229 j (by omega)), ?_, ?_⟩
    · rw [ao _ (by omega)]
      exact (hx.2 _ (fun z => by simp only [List.mem_cons, List.not_mem_nil, or_false] at z; omega)).1
    · rw [ao _ (by omega)]
      exact (hx.2 _ (fun z => by simp only [List.mem_cons, List.not_mem_nil, or_false] at z; omega)).1
  · refine Or.inr (Or.inr ?_)
    unfold kdG
    generalize hpp : va_up g.2.2.1 g.2.1 ((6, (q.2.1.2.2.1, q.2.1.2.2.2, g.1.1, g.1.2.2.2.1), (g.2.2.1 g.2.1).2.2.1, g.1.2.2.1, some q, g.2.2.2.2, gat c.2.2.2.1) : zPt) = pp at hus
    show (pp g.2.1).1 = 6 ∧ _ ∧ _ = nI (lo c.2.1 (pp g.2.1).2.1.2.1) ∧ (pp g.2.1).2.1.2.1 < cnt c ∧ (∃ a, _ = nI a ∧ atL c.2.1 (pp g.2.1).2.1.2.2.1 a) ∧ _ = nI (pp g.2.1).2.1.2.2.1 ∧ (∃ q, (pp g.2.1).2.2.2.2.1 = some q ∧ ∃ dd, g.2.2.2.1[dd]? = some q ∧ r3.2.1 176 g.2.1 = nI dd) ∧ _ = nI (pp g.2.1).2.2.2.1 ∧ (pp g.2.1).2.2.2.1 ≤ 65536 ∧ AR r3 g.2.1 (pp g.2.1).2.2.2.2.2.1 (pp g.2.1).2.2.2.2.2.2
    rw [hus]
    refine ⟨rfl, ?_, ?_, m9, ⟨a, ?_, h2'⟩, ?_, ⟨q, rfl, dd, hd, ?_⟩, ?_, hm, ?_⟩
    · rw [af 169 (by decide) (by decide) (by decide)]; exact hE.2.2.2.1
    · rw [af 170 (by decide) (by decide) (by decide)]; exact hE.2.2.2.2.1
    · rw [af 172 (by decide) (by decide) (by decide), hE.2.2.2.2.2.2.1, hx.1 5 (by decide)]; exact h2
    · rw [af 173 (by decide) (by decide) (by decide), hE.2.2.2.2.2.2.2.1, hx.1 6 (by decide)]; exact h3
    · rw [a3, rA_o (by decide), rA_o (by decide), rA_at]
    · rw [a3, rA_o (by decide), rA_at]
    · unfold AR
      rw [ao 229 (by decide), ao (205 + g.2.1) (by omega), ao (180 + g.2.1) (by omega)]
      exact hAR
  · rw [af 175 (by decide) (by decide) (by decide), hE.2.2.2.2.2.2.2.2.1, hx.1 6 (by decide), h3]
    rw [ht (ouL_iL hz)]
  · exact h11.mv (f3 33 (by decide) (by decide) (by decide) (by decide) (by decide)) (fun x k1 k2 => (ao x (by omega)).trans (hx.2 x (nA x (by omega))).1)
end
