/-! THE REFERENCE AND THE CLASS: what is the same in both -/
def FR (c : zD) (g : zG) (r : zR) (j : Nat) : Prop :=
  ((kdG g j = 1 ∨ kdG g j = 2) ∧ r.2.1 169 j = 1 ∧ r.2.1 178 j = bI (decide (kdG g j = 2))) ∨
  (kdG g j = 4 ∧ r.2.1 169 j = 4 ∧ r.2.1 170 j = nI (lo c.2.1 (g.2.2.1 j).2.1.2.1) ∧ r.2.1 171 j = nI (g.2.2.1 j).2.1.2.2.1 ∧ r.2.1 172 j = nI (lo c.2.1 (g.2.2.1 j).2.1.1) ∧ r.2.1 173 j = nI (g.2.2.1 j).2.1.1 ∧ r.2.1 174 j = (g.2.2.1 j).2.2.1 ∧ (g.2.2.1 j).2.1.2.1 < cnt c ∧ (g.2.2.1 j).2.1.2.2.1 = (g.2.2.1 j).2.1.2.1 + 1 ∧ (g.2.2.1 j).2.1.1 < (g.2.2.1 j).2.1.2.1) ∨
  (kdG g j = 6 ∧ r.2.1 169 j = 6 ∧ r.2.1 170 j = nI (lo c.2.1 (g.2.2.1 j).2.1.2.1) ∧ (g.2.2.1 j).2.1.2.1 < cnt c ∧ (∃ a, r.2.1 172 j = nI a ∧ atL c.2.1 (g.2.2.1 j).2.1.2.2.1 a) ∧ r.2.1 173 j = nI (g.2.2.1 j).2.1.2.2.1 ∧ (∃ q, (g.2.2.1 j).2.2.2.2.1 = some q ∧ ∃ dd, g.2.2.2.1[dd]? = some q ∧ r.2.1 176 j = nI dd) ∧ r.2.1 177 j = nI (g.2.2.1 j).2.2.2.1 ∧ (g.2.2.1 j).2.2.2.1 ≤ 65536 ∧ AR r j (g.2.2.1 j).2.2.2.2.2.1 (g.2.2.1 j).2.2.2.2.2.2)
def REL (c : zD) (g : zG) (r : zR) : Prop := TP r c.2.1 ∧ (∃ a, r.1 5 = nI a ∧ atL c.2.1 g.1.1 a) ∧ r.1 6 = nI g.1.1 ∧ r.1 9 = nI g.1.2.1 ∧ r.1 10 = nI g.1.2.2.1 ∧ r.1 14 = 0 ∧ r.1 19 = nI g.2.1 ∧ g.2.1 ≤ 20 ∧ (∀ j, j < g.2.1 → FR c g r j) ∧ (∀ j, ouL (kdG g) g.2.1 = some j → r.2.1 175 j = nI g.1.2.2.2.1) ∧ MS r c.2.1 g.2.2.2.1
/-- a frame's rows are the same -/
def fre (r r' : zR) (j : Nat) : Prop := (∀ k, 169 ≤ k → k ≤ 178 → r'.2.1 k j = r.2.1 k j) ∧ r'.2.1 229 j = r.2.1 229 j ∧ r'.2.1 (205 + j) = r.2.1 (205 + j) ∧ r'.2.1 (180 + j) = r.2.1 (180 + j)
section
variable {c : zD} {g g' : zG} {r r' : zR} {F A : List Nat}
theorem FR.mv {j : Nat} (h : FR c g r j) (hf : fre r r' j) (hp : g'.2.2.1 j = g.2.2.1 j) (hm : ∀ (d : Nat) (q : zMa), g.2.2.2.1[d]? = some q → g'.2.2.2.1[d]? = some q) : FR c g' r' j := by
  obtain ⟨f1, f2, f3, f4⟩ := hf
  have e : kdG g' j = kdG g j := by show (g'.2.2.1 j).1 = (g.2.2.1 j).1; rw [hp]
  unfold FR
  rw [e, hp, f1 169 (by decide) (by decide), f1 178 (by decide) (by decide), f1 170 (by decide) (by decide), f1 171 (by decide) (by decide), f1 172 (by decide) (by decide), f1 173 (by decide) (by decide), f1 174 (by decide) (by decide), f1 176 (by decide) (by decide), f1 177 (by decide) (by decide)]
  rcases h with h | h | ⟨h1, h2, h3, h4, h5, h6, ⟨q, h7, dd, h8, h9⟩, h10, h11, h12⟩
  · exact Or.inl h
  · exact Or.inr (Or.inl h)
  · refine Or.inr (Or.inr ⟨h1, h2, h3, h4, h5, h6, ⟨q, h7, dd, hm dd q h8, h9⟩, h10, h11, ?_⟩)
    unfold AR
    rw [f2, f3, f4]
    exact h12
theorem REL.fk (h : REL c g r) : FK (kdG g) r g.2.1 := ⟨fun j hj => by
  rcases h.2.2.2.2.2.2.2.2.1 j hj with ⟨h1, h2, -⟩ | ⟨h1, h2, -⟩ | ⟨h1, h2, -⟩
  · exact Or.inl ⟨h1, h2⟩
  · exact Or.inr (Or.inl ⟨h1, h2⟩)
  · exact Or.inr (Or.inr ⟨h1, h2⟩), h.2.2.2.2.2.2.2.1, h.2.2.2.2.2.2.1⟩
theorem MS.mv {src : List Nat} {mas : List zMa} (h : MS r src mas) (h1 : r'.1 33 = r.1 33) (h2 : ∀ k, 230 ≤ k → k ≤ 235 → r'.2.1 k = r.2.1 k) : MS r' src mas := by
  refine ⟨h1.trans h.1, h.2.1, fun d q hq => ?_⟩
  have := h.2.2 d q hq
  unfold MR at this ⊢
  rw [h2 230 (by decide) (by decide), h2 231 (by decide) (by decide), h2 232 (by decide) (by decide), h2 233 (by decide) (by decide), h2 234 (by decide) (by decide), h2 235 (by decide) (by decide)]
  exact this
theorem fre.of (k : eqx F A r r') (hA : ∀ x ∈ A, x < 169 ∨ 236 ≤ x) {j : Nat} (hj : j < 24) : fre r r' j := by
  have h : ∀ x, 169 ≤ x → x < 236 → r'.2.1 x = r.2.1 x := fun x h1 h2 => (k.2 x (fun z => by have := hA x z; omega)).1
  exact ⟨fun x h1 h2 => by rw [h x (by omega) (by omega)], by rw [h 229 (by decide) (by decide)], h _ (by omega) (by omega), h _ (by omega) (by omega)⟩
/-- nothing that both have has changed -/
theorem REL.mv (h : REL c g r) (k : eqx F A r r') (hF : ∀ x ∈ F, x ∉ [4, 5, 6, 9, 10, 14, 19, 33]) (hA : ∀ x ∈ A, x = 166 ∨ x = 168 ∨ 236 ≤ x) : REL c g r' := by
  obtain ⟨h1, h2, h3, h4, h5, h6, h7, h8, h9, h10, h11⟩ := h
  have hf : ∀ x, x ∈ [4, 5, 6, 9, 10, 14, 19, 33] → r'.1 x = r.1 x := fun x hx => k.1 x (fun z => hF x z hx)
  have ha : ∀ x, 167 ≤ x → x ≠ 168 → x < 236 → r'.2.1 x = r.2.1 x := fun x a b e => (k.2 x (fun z => by have := hA x z; omega)).1
  refine ⟨⟨(hf 4 (by decide)).trans h1.1, h1.2.1, by rw [ha 167 (by decide) (by decide) (by decide)]; exact h1.2.2⟩, by rw [hf 5 (by decide)]; exact h2, (hf 6 (by decide)).trans h3, (hf 9 (by decide)).trans h4, (hf 10 (by decide)).trans h5, (hf 14 (by decide)).trans h6, (hf 19 (by decide)).trans h7, h8, fun j hj => (h9 j hj).mv (fre.of k (fun x hx => by have := hA x hx; omega) (by omega)) rfl (fun d q z => z), fun j hj => by rw [ha 175 (by decide) (by decide) (by decide)]; exact h10 j hj, h11.mv (hf 33 (by decide)) (fun x a b => ha x (by omega) (by omega) (by omega))⟩
theorem REL.ow (h : REL c g r) (ht : iL g = none → g.1.2.2.2.1 = g.1.1) : own (kdG g) r g.2.1 = nI g.1.2.2.2.1 := by
  unfold own
  cases hq : ouL (kdG g) g.2.1 with
  | some j => exact h.2.2.2.2.2.2.2.2.2.1 j hq
  | none =>
    have hn : iL g = none := by
      cases hz : iL g with
      | none => rfl
      | some j =>
        exfalso
        have hj := inL_lt _ _ hz
        have : ∀ n, ouL (kdG g) n = none → ∀ i, i < n → hasL (kdG g i) = false := by
          intro n
          induction n with
          | zero => intro _ i hi; omega
          | succ n ih =>
            intro h0 i hi
            rw [ouL_s] at h0
            cases ho : ouL (kdG g) n with
            | some z => rw [ho] at h0; cases h0
            | none =>
              rw [ho] at h0
              have h0 : (if hasL (kdG g n) = true then some n else none) = none := h0
              split at h0
              · cases h0
              · next w =>
                by_cases e : i = n
                · rw [e]; exact Bool.eq_false_iff.mpr w
                · exact ih ho i (by omega)
        rw [this _ hq j hj.1] at hj
        cases hj.2
    show r.1 6 = _
    rw [h.2.2.1, ht hn]
end
section
variable {d : Nat} {S : zS} {r : zR} {f : Nat}
/-- a frame is entered -/
def ENT (r r' : zR) (f : Nat) (w s l : Int32) : Prop := eqx [19] [169, 170, 171, 172, 173, 175, 178] r r' ∧ r'.1 19 = nI (f + 1) ∧ (∀ k j, j ≠ f → r'.2.1 k j = r.2.1 k j) ∧ r'.2.1 169 f = w ∧ r'.2.1 170 f = s ∧ r'.2.1 171 f = l ∧ r'.2.1 172 f = r.1 5 ∧ r'.2.1 173 f = r.1 6 ∧ r'.2.1 175 f = r.1 6 ∧ r'.2.1 178 f = 0
theorem rA_1 {r : zR} {c k : Nat} {v : Int32} : (rA r c k v).1 = r.1 := rfl
theorem rA_j {r : zR} {c k j x : Nat} {v : Int32} (h : j ≠ k) : (rA r c k v).2.1 x j = r.2.1 x j := by
  by_cases e : x = c
  · subst e; exact rA_ne h
  · rw [rA_o e]
set_option maxRecDepth 10000 in
theorem C_X8_enter {w s l : Int32} (h : r.1 19 = nI f) (hf : f < 24) : Rc d mX8_enter [.ref 165, .int w, .int s, .int l] (RS S r) (fun v S1 => v = none ∧ ∃ r', S1 = RS S r' ∧ ENT r r' f w s l) := by
  refine Rc.of ?_
  refine r_aload_n dX8_enter_0 (by first | rfl | assumption) ?_
  refine r8_get dX8_enter_1 zf_X8_139 rfl ?_
  rw [h]
  refine r_istore dX8_enter_4 (by decide) (by first | assumption | exact z_c1_i (by first | rfl | assumption) | exact z_c1_r (by first | rfl | assumption) | exact z_c1_n (by first | rfl | assumption) | exact z_c1_c (by first | rfl | assumption) | exact z_c1_0 (by first | rfl | assumption)) ?_
  refine r_aload_n dX8_enter_6 (by first | rfl | assumption) ?_
  refine r8_get dX8_enter_7 zf_X8_24 rfl ?_
  refine r_iload dX8_enter_10 (by first | rfl | assumption) ?_
  refine r_iload_n dX8_enter_12 (by first | rfl | assumption) ?_
  refine r8_iast dX8_enter_13 (by decide) (rfl) (by first | assumption | exact (show _ < 65536 by omega) | exact (show _ < 1100 by omega) | exact (show _ < 24 by omega) | exact (show _ < 2100 by omega) | exact (show _ < 6600 by omega) | exact (show _ < 1110 by omega)) ?_
  refine r_aload_n dX8_enter_14 (by first | rfl | assumption) ?_
  refine r8_get dX8_enter_15 zf_X8_28 rfl ?_
  refine r_iload dX8_enter_18 (by first | rfl | assumption) ?_
  refine r_iload_n dX8_enter_20 (by first | rfl | assumption) ?_
  refine r8_iast dX8_enter_21 (by decide) (rfl) (by first | assumption | exact (show _ < 65536 by omega) | exact (show _ < 1100 by omega) | exact (show _ < 24 by omega) | exact (show _ < 2100 by omega) | exact (show _ < 6600 by omega) | exact (show _ < 1110 by omega)) ?_
  refine r_aload_n dX8_enter_22 (by first | rfl | assumption) ?_
  refine r8_get dX8_enter_23 zf_X8_31 rfl ?_
  refine r_iload dX8_enter_26 (by first | rfl | assumption) ?_
  refine r_iload_n dX8_enter_28 (by first | rfl | assumption) ?_
  refine r8_iast dX8_enter_29 (by decide) (rfl) (by first | assumption | exact (show _ < 65536 by omega) | exact (show _ < 1100 by omega) | exact (show _ < 24 by omega) | exact (show _ < 2100 by omega) | exact (show _ < 6600 by omega) | exact (show _ < 1110 by omega)) ?_
  refine r_aload_n dX8_enter_30 (by first | rfl | assumption) ?_
  refine r8_get dX8_enter_31 zf_X8_34 rfl ?_
  refine r_iload dX8_enter_34 (by first | rfl | assumption) ?_
  refine r_aload_n dX8_enter_36 (by first | rfl | assumption) ?_
  refine r8_get dX8_enter_37 zf_X8_186 rfl ?_
  refine r8_iast dX8_enter_40 (by decide) (rfl) (by first | assumption | exact (show _ < 65536 by omega) | exact (show _ < 1100 by omega) | exact (show _ < 24 by omega) | exact (show _ < 2100 by omega) | exact (show _ < 6600 by omega) | exact (show _ < 1110 by omega)) ?_
  refine r_aload_n dX8_enter_41 (by first | rfl | assumption) ?_
  refine r8_get dX8_enter_42 zf_X8_37 rfl ?_
  refine r_iload dX8_enter_45 (by first | rfl | assumption) ?_
  refine r_aload_n dX8_enter_47 (by first | rfl | assumption) ?_
  refine r8_get dX8_enter_48 zf_X8_136 rfl ?_
  refine r8_iast dX8_enter_51 (by decide) (rfl) (by first | assumption | exact (show _ < 65536 by omega) | exact (show _ < 1100 by omega) | exact (show _ < 24 by omega) | exact (show _ < 2100 by omega) | exact (show _ < 6600 by omega) | exact (show _ < 1110 by omega)) ?_
  refine r_aload_n dX8_enter_52 (by first | rfl | assumption) ?_
  refine r8_get dX8_enter_53 zf_X8_43 rfl ?_
  refine r_iload dX8_enter_56 (by first | rfl | assumption) ?_
  refine r_aload_n dX8_enter_58 (by first | rfl | assumption) ?_
  refine r8_get dX8_enter_59 zf_X8_136 rfl ?_
  refine r8_iast dX8_enter_62 (by decide) (rfl) (by first | assumption | exact (show _ < 65536 by omega) | exact (show _ < 1100 by omega) | exact (show _ < 24 by omega) | exact (show _ < 2100 by omega) | exact (show _ < 6600 by omega) | exact (show _ < 1110 by omega)) ?_
  refine r_aload_n dX8_enter_63 (by first | rfl | assumption) ?_
  refine r8_get dX8_enter_64 zf_X8_52 rfl ?_
  refine r_iload dX8_enter_67 (by first | rfl | assumption) ?_
  refine r_ic (0) dX8_enter_69 rfl ?_
  refine r8_zast dX8_enter_70 (by decide) (rfl) (by first | assumption | exact (show _ < 65536 by omega) | exact (show _ < 1100 by omega) | exact (show _ < 24 by omega) | exact (show _ < 2100 by omega) | exact (show _ < 6600 by omega) | exact (show _ < 1110 by omega)) rfl ?_
  refine r_aload_n dX8_enter_71 (by first | rfl | assumption) ?_
  refine r_dup dX8_enter_72 rfl ?_
  refine r8_get dX8_enter_73 zf_X8_139 rfl ?_
  refine r_ic (1) dX8_enter_76 rfl ?_
  simp only [rA_1]
  rw [h]
  refine r_iadd dX8_enter_77 ?_
  rw [nI_1]
  refine r8_put dX8_enter_78 zf_X8_139 (Nat.le_of_ble_eq_true rfl) rfl (⟨rfl, rfl⟩) ?_
  refine r_return dX8_enter_81 rfl ⟨rfl, _, rfl, ?_⟩
  refine ⟨(((((((eqx.a (by decide)).tr (eqx.a (by decide))).tr (eqx.a (by decide))).tr (eqx.a (by decide))).tr (eqx.a (by decide))).tr (eqx.a (by decide))).tr (eqx.a (by decide))).tr (eqx.f (by decide)), rfl, fun k j hj => ?_, ?_, ?_, ?_, ?_, ?_, ?_, ?_⟩
  · show (rA (rA (rA (rA (rA (rA (rA r 169 f w) 170 f s) 171 f l) 172 f (r.1 5)) 173 f (r.1 6)) 175 f (r.1 6)) 178 f 0).2.1 k j = _
    rw [rA_j hj, rA_j hj, rA_j hj, rA_j hj, rA_j hj, rA_j hj, rA_j hj]
  · show (rA (rA (rA (rA (rA (rA (rA r 169 f w) 170 f s) 171 f l) 172 f (r.1 5)) 173 f (r.1 6)) 175 f (r.1 6)) 178 f 0).2.1 169 f = _
    rw [rA_o (by decide), rA_o (by decide), rA_o (by decide), rA_o (by decide), rA_o (by decide), rA_o (by decide), rA_at]
  · show (rA (rA (rA (rA (rA (rA (rA r 169 f w) 170 f s) 171 f l) 172 f (r.1 5)) 173 f (r.1 6)) 175 f (r.1 6)) 178 f 0).2.1 170 f = _
    rw [rA_o (by decide), rA_o (by decide), rA_o (by decide), rA_o (by decide), rA_o (by decide), rA_at]
  · show (rA (rA (rA (rA (rA (rA (rA r 169 f w) 170 f s) 171 f l) 172 f (r.1 5)) 173 f (r.1 6)) 175 f (r.1 6)) 178 f 0).2.1 171 f = _
    rw [rA_o (by decide), rA_o (by decide), rA_o (by decide), rA_o (by decide), rA_at]
  · show (rA (rA (rA (rA (rA (rA (rA r 169 f w) 170 f s) 171 f l) 172 f (r.1 5)) 173 f (r.1 6)) 175 f (r.1 6)) 178 f 0).2.1 172 f = _
    rw [rA_o (by decide), rA_o (by decide), rA_o (by decide), rA_at]
  · show (rA (rA (rA (rA (rA (rA (rA r 169 f w) 170 f s) 171 f l) 172 f (r.1 5)) 173 f (r.1 6)) 175 f (r.1 6)) 178 f 0).2.1 173 f = _
    rw [rA_o (by decide), rA_o (by decide), rA_at]
  · show (rA (rA (rA (rA (rA (rA (rA r 169 f w) 170 f s) 171 f l) 172 f (r.1 5)) 173 f (r.1 6)) 175 f (r.1 6)) 178 f 0).2.1 175 f = _
    rw [rA_o (by decide), rA_at]
  · show (rA (rA (rA (rA (rA (rA (rA r 169 f w) 170 f s) 171 f l) 172 f (r.1 5)) 173 f (r.1 6)) 175 f (r.1 6)) 178 f 0).2.1 178 f = _
    rw [rA_at]
theorem C_X8_goBehind : Rc d mX8_goBehind [.ref 165] (RS S r) (fun v S1 => v = none ∧ S1 = RS S (rF (rF r 5 (r.1 49)) 6 (r.1 47))) := by
  refine Rc.of ?_
  refine r_aload_n dX8_goBehind_0 (by first | rfl | assumption) ?_
  refine r_aload_n dX8_goBehind_1 (by first | rfl | assumption) ?_
  refine r8_get dX8_goBehind_2 zf_X8_180 rfl ?_
  refine r8_put dX8_goBehind_5 zf_X8_186 (Nat.le_of_ble_eq_true rfl) rfl (⟨rfl, rfl⟩) ?_
  refine r_aload_n dX8_goBehind_8 (by first | rfl | assumption) ?_
  refine r_aload_n dX8_goBehind_9 (by first | rfl | assumption) ?_
  refine r8_get dX8_goBehind_10 zf_X8_174 rfl ?_
  refine r8_put dX8_goBehind_13 zf_X8_136 (Nat.le_of_ble_eq_true rfl) rfl (⟨rfl, rfl⟩) ?_
  refine r_return dX8_goBehind_16 rfl ⟨rfl, rfl⟩
end
