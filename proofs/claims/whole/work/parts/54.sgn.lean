/-! THE REFERENCE: what its tokens are; a macro by its name -/
/-- what the reference has of a macro -/
def MR (r : zR) (src : List Nat) (d : Nat) (q : zMa) : Prop := r.2.1 230 d = nI q.2.1.1 ∧ r.2.1 231 d = nI q.2.1.2.1 ∧ q.2.1.1 + q.2.1.2.1 ≤ src.length ∧ (∃ p, r.2.1 232 d = nI p ∧ PL src p q.2.2.1) ∧ r.2.1 233 d = nI (lo src q.2.1.2.2.1) ∧ r.2.1 234 d = nI q.2.1.2.2.1 ∧ r.2.1 235 d = nI (lo src q.2.1.2.2.2) ∧ q.2.1.2.2.1 ≤ q.2.1.2.2.2 ∧ q.2.1.2.2.2 < (lnz src).length
def MS (r : zR) (src : List Nat) (mas : List zMa) : Prop := r.1 33 = nI mas.length ∧ mas.length ≤ 512 ∧ ∀ d q, mas[d]? = some q → MR r src d q
theorem i64_inj {x y : Int32} (h : x.toInt64 = y.toInt64) : x = y := by
  have := congrArg Int64.toInt32 h
  rw [Int32.toInt32_toInt64, Int32.toInt32_toInt64] at this
  exact this
theorem tkm_sg {xs : List Nat} {t : zT} {w : Int32} {v : Int64} {c : Nat} (h : tkm xs t w v) (hc : c = 40 ∨ c = 41 ∨ c = 44 ∨ c = 91 ∨ c = 93) : (w = 4 ∧ v = (nI c).toInt64) ↔ t.1 = nI c := by
  have hc2 : nI c ≠ 1 ∧ nI c ≠ 2 ∧ nI c ≠ 3 ∧ nI c ≠ 60 ∧ nI c ≠ 62 ∧ (256 : Int64) ≠ (nI c).toInt64 ∧ (257 : Int64) ≠ (nI c).toInt64 := by rcases hc with rfl | rfl | rfl | rfl | rfl <;> decide
  rcases h with ⟨h1, rfl, h3⟩ | ⟨h1, rfl, h3⟩ | ⟨h1, rfl⟩ | ⟨h1, rfl, h3⟩
  · constructor
    · exact fun z => absurd z.1 (by decide)
    · exact fun z => absurd (h1.symm.trans z).symm hc2.1
  · constructor
    · exact fun z => absurd z.1 (by decide)
    · exact fun z => absurd (h1.symm.trans z).symm hc2.2.1
  · constructor
    · exact fun z => absurd z.1 (by decide)
    · exact fun z => absurd (h1.symm.trans z).symm hc2.2.2.1
  · by_cases q1 : t.1 = 60
    · rw [if_pos q1] at h3
      constructor
      · exact fun z => absurd (h3.symm.trans z.2) hc2.2.2.2.2.2.1
      · exact fun z => absurd (q1.symm.trans z).symm hc2.2.2.2.1
    · rw [if_neg q1] at h3
      by_cases q2 : t.1 = 62
      · rw [if_pos q2] at h3
        constructor
        · exact fun z => absurd (h3.symm.trans z.2) hc2.2.2.2.2.2.2
        · exact fun z => absurd (q2.symm.trans z).symm hc2.2.2.2.2.1
      · rw [if_neg q2] at h3
        constructor
        · exact fun z => i64_inj (h3.symm.trans z.2)
        · exact fun z => ⟨rfl, by rw [h3, z]⟩
theorem tkm_1 {xs : List Nat} {t : zT} {w : Int32} {v : Int64} (h : tkm xs t w v) : w = 1 ↔ t.1 = 1 := by
  rcases h with ⟨h1, rfl, h3⟩ | ⟨h1, rfl, h3⟩ | ⟨h1, rfl⟩ | ⟨h1, rfl, h3⟩
  · exact ⟨fun _ => h1, fun _ => rfl⟩
  · rw [h1]
  · rw [h1]
  · exact ⟨fun z => absurd z (by decide), fun z => absurd (z ▸ h1) (by decide)⟩
theorem tkm_2 {xs : List Nat} {t : zT} {w : Int32} {v : Int64} (h : tkm xs t w v) : w = 2 ↔ t.1 = 2 := by
  rcases h with ⟨h1, rfl, h3⟩ | ⟨h1, rfl, h3⟩ | ⟨h1, rfl⟩ | ⟨h1, rfl, h3⟩
  · rw [h1]
  · exact ⟨fun _ => h1, fun _ => rfl⟩
  · rw [h1]
  · exact ⟨fun z => absurd z (by decide), fun z => absurd (z ▸ h1) (by decide)⟩
theorem getD_out {ts : List zT} {i : Nat} (h : ts.length ≤ i) : ts.getD i t0 = t0 := by
  rw [List.getD_eq_getElem?_getD, List.getElem?_eq_none h]
  rfl
section
variable {d : Nat} {S : zS} {r : zR} {xs src : List Nat} {ts : List zT} {mas : List zMa} {t : Nat}
theorem C_X8_isSign {c : Nat} (h : TK r xs ts) (ht : t ≤ 1040) (hc : c = 40 ∨ c = 41 ∨ c = 44 ∨ c = 91 ∨ c = 93) : Rc d mX8_isSign [.ref 165, .int (nI t), .int (nI c)] (RS S r) (fun v S1 => S1 = RS S r ∧ v = some (.int (bI (decide ((ts.getD t t0).1 = nI c))))) := by
  have := h.2.1
  have hc0 : t0.1 ≠ nI c := by rcases hc with rfl | rfl | rfl | rfl | rfl <;> decide
  refine Rc.of ?_
  have l34 : ¬ (ts.getD t t0).1 = nI c → ∀ L : Nat → Option Value, Ru d mX8_isSign 34 L [] (RS S r) (z_en mX8_isSign (fun v S1 => S1 = RS S r ∧ v = some (.int (bI (decide ((ts.getD t t0).1 = nI c)))))) := by
    intro q L
    refine r_ic (0) dX8_isSign_34 rfl ?_
    refine r_ireturn dX8_isSign_35 _ rfl rfl ⟨rfl, by rw [decide_eq_false q]; rfl⟩
  refine r_iload_n dX8_isSign_0 (by first | rfl | assumption) ?_
  refine r_aload_n dX8_isSign_1 (by first | rfl | assumption) ?_
  refine r8_get dX8_isSign_2 zf_X8_215 rfl ?_
  rw [h.1]
  by_cases q0 : ts.length ≤ t
  · refine r_icmp_ge_t (tgt := 34) dX8_isSign_5 (by decide) (nI_le q0 (by omega)) ?_
    exact l34 (by rw [getD_out q0]; exact hc0) _
  refine r_icmp_ge_f (tgt := 34) dX8_isSign_5 (by decide) (nI_ge (a := t) (b := ts.length) (by omega) (by omega)) ?_
  have hm := tkm_sg (h.2.2 t (by omega)).2.2 hc
  refine r_aload_n dX8_isSign_8 (by first | rfl | assumption) ?_
  refine r8_get dX8_isSign_9 zf_X8_90 rfl ?_
  refine r_iload_n dX8_isSign_12 (by first | rfl | assumption) ?_
  refine r8_iald dX8_isSign_13 (by decide) (rfl) (by first | assumption | exact (show _ < 65536 by omega) | exact (show _ < 1100 by omega) | exact (show _ < 24 by omega) | exact (show _ < 2100 by omega) | exact (show _ < 6600 by omega) | exact (show _ < 1110 by omega)) ?_
  refine r_ic (4) dX8_isSign_14 rfl ?_
  by_cases q1 : r.2.1 237 t = 4
  · refine r_icmp_ne_f (tgt := 34) dX8_isSign_15 (by decide) (q1) ?_
    refine r_aload_n dX8_isSign_18 (by first | rfl | assumption) ?_
    refine r8_get dX8_isSign_19 zf_X8_99 rfl ?_
    refine r_iload_n dX8_isSign_22 (by first | rfl | assumption) ?_
    refine r8_lald dX8_isSign_23 (by first | assumption | omega) ?_
    refine r_iload_n dX8_isSign_24 (by first | rfl | assumption) ?_
    refine r_i2l dX8_isSign_25 ?_
    refine r_lcmp dX8_isSign_26 ?_
    by_cases q2 : r.2.2 240 t = (nI c).toInt64
    · refine r_if_ne_f (tgt := 34) dX8_isSign_27 (by decide) (lcmp_0.mpr q2) ?_
      refine r_ic (1) dX8_isSign_30 rfl ?_
      refine r_goto (tgt := 35) dX8_isSign_31 (by decide) ?_
      refine r_ireturn dX8_isSign_35 _ rfl rfl ⟨rfl, by rw [decide_eq_true (hm.mp ⟨q1, q2⟩)]; rfl⟩
    · refine r_if_ne_t (tgt := 34) dX8_isSign_27 (by decide) (fun z => q2 (lcmp_0.mp z)) ?_
      exact l34 (fun z => q2 (hm.mpr z).2) _
  · refine r_icmp_ne_t (tgt := 34) dX8_isSign_15 (by decide) (q1) ?_
    exact l34 (fun z => q1 (hm.mpr z).1) _
theorem C_X8_isName (h : TK r xs ts) (ht : t ≤ 1040) : Rc d mX8_isName [.ref 165, .int (nI t)] (RS S r) (fun v S1 => S1 = RS S r ∧ v = some (.int (bI (decide ((ts.getD t t0).1 = 1))))) := by
  have := h.2.1
  refine Rc.of ?_
  have l22 : ¬ (ts.getD t t0).1 = 1 → ∀ L : Nat → Option Value, Ru d mX8_isName 22 L [] (RS S r) (z_en mX8_isName (fun v S1 => S1 = RS S r ∧ v = some (.int (bI (decide ((ts.getD t t0).1 = 1)))))) := by
    intro q L
    refine r_ic (0) dX8_isName_22 rfl ?_
    refine r_ireturn dX8_isName_23 _ rfl rfl ⟨rfl, by rw [decide_eq_false q]; rfl⟩
  refine r_iload_n dX8_isName_0 (by first | rfl | assumption) ?_
  refine r_aload_n dX8_isName_1 (by first | rfl | assumption) ?_
  refine r8_get dX8_isName_2 zf_X8_215 rfl ?_
  rw [h.1]
  by_cases q0 : ts.length ≤ t
  · refine r_icmp_ge_t (tgt := 22) dX8_isName_5 (by decide) (nI_le q0 (by omega)) ?_
    exact l22 (by rw [getD_out q0]; decide) _
  refine r_icmp_ge_f (tgt := 22) dX8_isName_5 (by decide) (nI_ge (a := t) (b := ts.length) (by omega) (by omega)) ?_
  have hm := tkm_1 (h.2.2 t (by omega)).2.2
  refine r_aload_n dX8_isName_8 (by first | rfl | assumption) ?_
  refine r8_get dX8_isName_9 zf_X8_90 rfl ?_
  refine r_iload_n dX8_isName_12 (by first | rfl | assumption) ?_
  refine r8_iald dX8_isName_13 (by decide) (rfl) (by first | assumption | exact (show _ < 65536 by omega) | exact (show _ < 1100 by omega) | exact (show _ < 24 by omega) | exact (show _ < 2100 by omega) | exact (show _ < 6600 by omega) | exact (show _ < 1110 by omega)) ?_
  refine r_ic (1) dX8_isName_14 rfl ?_
  by_cases q1 : r.2.1 237 t = 1
  · refine r_icmp_ne_f (tgt := 22) dX8_isName_15 (by decide) (q1) ?_
    refine r_ic (1) dX8_isName_18 rfl ?_
    refine r_goto (tgt := 23) dX8_isName_19 (by decide) ?_
    refine r_ireturn dX8_isName_23 _ rfl rfl ⟨rfl, by rw [decide_eq_true (hm.mp q1)]; rfl⟩
  · refine r_icmp_ne_t (tgt := 22) dX8_isName_15 (by decide) (q1) ?_
    exact l22 (fun z => q1 (hm.mpr z)) _
/-- behind a search for a macro -/
def mnP (S : zS) (r : zR) (mas : List zMa) (R : Option zMa) (v : Option Value) (S1 : zS) : Prop := S1 = RS S r ∧ match R with
  | none => v = some (.int (-1))
  | some q => ∃ dd, mas[dd]? = some q ∧ v = some (.int (nI dd))
set_option maxRecDepth 10000 in
set_option maxHeartbeats 2000000 in
theorem C_X8_macroNamed (h : TP r src) (hL : LN r xs) (hl : xs.length ≤ 1024) (hT : TK r xs ts) (hM : MS r src mas) (ht : t ≤ 1030) (hse : t < ts.length → (ts.getD t t0).2.1 ≤ (ts.getD t t0).2.2.1 ∧ (ts.getD t t0).2.2.1 ≤ xs.length) : Rc (d + 1) mX8_macroNamed [.ref 165, .int (nI t)] (RS S r) (mnP S r mas (if (ts.getD t t0).1 = 1 then mas.find? (mNm src xs (ts.getD t t0).2.1 ((ts.getD t t0).2.2.1 - (ts.getD t t0).2.1)) else none)) := by
  have hTP := h
  obtain ⟨h1, h2, h3⟩ := h
  have hml := hM.2.1
  generalize hR : (if (ts.getD t t0).1 = 1 then mas.find? (mNm src xs (ts.getD t t0).2.1 ((ts.getD t t0).2.2.1 - (ts.getD t t0).2.1)) else none) = R
  have none_ : R = none → ∀ L : Nat → Option Value, Ru (d + 1) mX8_macroNamed 112 L [] (RS S r) (z_en mX8_macroNamed (mnP S r mas R)) := by
    intro e L
    refine r_ic (-1) dX8_macroNamed_112 rfl ?_
    refine r_ireturn dX8_macroNamed_113 _ rfl rfl ⟨rfl, by rw [e]⟩
  have loop : ∀ (l : List zMa) (dd : Nat) (L : Nat → Option Value), mas.drop dd = l → dd ≤ mas.length → (if (ts.getD t t0).1 = 1 then l.find? (mNm src xs (ts.getD t t0).2.1 ((ts.getD t t0).2.2.1 - (ts.getD t t0).2.1)) else none) = R → L 0 = some (.ref 165) → L 1 = some (.int (nI t)) → L 2 = some (.int (nI dd)) → z_c1 (L 3) → Ru (d + 1) mX8_macroNamed 2 L [] (RS S r) (z_en mX8_macroNamed (mnP S r mas R)) := by
    intro l
    induction l with
    | nil =>
      intro dd L hd hdl hr l0 l1 l2 l3
      have hle : mas.length ≤ dd := List.drop_eq_nil_iff.mp hd
      refine r_iload_n dX8_macroNamed_2 (by first | rfl | assumption) ?_
      refine r_aload_n dX8_macroNamed_3 (by first | rfl | assumption) ?_
      refine r8_get dX8_macroNamed_4 zf_X8_245 rfl ?_
      rw [hM.1]
      refine r_icmp_ge_t (tgt := 112) dX8_macroNamed_7 (by decide) (nI_le hle (by omega)) ?_
      refine none_ ?_ L
      rw [← hr]
      split <;> rfl
    | cons q l ih =>
      intro dd L hd hdl hr l0 l1 l2 l3
      have hq : mas[dd]? = some q := by
        have : (mas.drop dd)[0]? = some q := by rw [hd]; rfl
        rw [List.getElem?_drop, Nat.add_zero] at this
        exact this
      have hlt : dd < mas.length := (List.getElem?_eq_some_iff.mp hq).1
      have hd2 : mas.drop (dd + 1) = l := by
        have : (mas.drop dd).drop 1 = l := by rw [hd]; rfl
        rw [List.drop_drop] at this
        exact this
      obtain ⟨m1, m2, m3, -⟩ := hM.2.2 dd q hq
      refine r_iload_n dX8_macroNamed_2 (by first | rfl | assumption) ?_
      refine r_aload_n dX8_macroNamed_3 (by first | rfl | assumption) ?_
      refine r8_get dX8_macroNamed_4 zf_X8_245 rfl ?_
      rw [hM.1]
      refine r_icmp_ge_f (tgt := 112) dX8_macroNamed_7 (by decide) (nI_ge (a := dd) (b := mas.length) hlt (by omega)) ?_
      refine r_aload_n dX8_macroNamed_10 (by first | rfl | assumption) ?_
      refine r_iload_n dX8_macroNamed_11 (by first | rfl | assumption) ?_
      refine r_callV1 dX8_macroNamed_12 zm_X8_248 RS_o rfl (Nat.le_of_ble_eq_true rfl) (Nat.le_of_ble_eq_true rfl) (C_X8_isName hT (by omega)) (fun v S9 hv => ?_)
      obtain ⟨rfl, rfl⟩ := hv
      by_cases q1 : (ts.getD t t0).1 = 1
      · rw [decide_eq_true q1]
        refine r_if_eq_f (tgt := 112) dX8_macroNamed_15 (by decide) (show ¬ (1 : Int32) = 0 by decide) ?_
        have htl : t < ts.length := by
          rcases Nat.lt_or_ge t ts.length with z | z
          · exact z
          · rw [getD_out z] at q1; exact absurd q1 (by decide)
        have hTt := hT.2.2 t htl
        have hse := hse htl
        generalize htq : ts.getD t t0 = tq at hTt hse q1 hr ⊢
        rw [if_pos q1, List.find?_cons] at hr
        generalize hln : tq.2.2.1 - tq.2.1 = ln at hTt hr
        -- behind the comparison
        have l100 : ∀ (s : Bool) (L : Nat → Option Value), s = mNm src xs tq.2.1 ln q → L 0 = some (.ref 165) → L 1 = some (.int (nI t)) → L 2 = some (.int (nI dd)) → L 3 = some (.int (bI s)) → Ru (d + 1) mX8_macroNamed 100 L [] (RS S r) (z_en mX8_macroNamed (mnP S r mas R)) := by
          intro s L hs l0 l1 l2 l3
          refine r_iload_n dX8_macroNamed_100 (by first | rfl | assumption) ?_
          cases s with
          | true =>
            refine r_if_eq_f (tgt := 106) dX8_macroNamed_101 (by decide) (show ¬ (1 : Int32) = 0 by decide) ?_
            refine r_iload_n dX8_macroNamed_104 (by first | rfl | assumption) ?_
            refine r_ireturn dX8_macroNamed_105 _ rfl rfl ⟨rfl, ?_⟩
            rw [← hs] at hr
            rw [← hr]
            exact ⟨dd, hq, rfl⟩
          | false =>
            refine r_if_eq_t (tgt := 106) dX8_macroNamed_101 (by decide) (rfl) ?_
            rw [← hs] at hr
            refine r_inc (nI (dd + 1)) dX8_macroNamed_106 (by first | rfl | assumption) (by decide) (by first | exact z_c1_i (by first | rfl | assumption) | exact z_c1_r (by first | rfl | assumption) | exact z_c1_n (by first | rfl | assumption) | exact z_c1_c (by first | rfl | assumption) | exact z_c1_0 (by first | rfl | assumption)) (nI_1 _) ?_
            refine r_goto (tgt := 2) dX8_macroNamed_109 (by decide) ?_
            refine ih (dd + 1) _ hd2 hlt ?_ l0 l1 rfl (z_c1_i (L := z_s1 L 2 _) (i := 3) l3)
            rw [if_pos (by rw [htq]; exact q1), htq, hln]
            exact hr
        have hmn : mNm src xs tq.2.1 ln q = decide (q.2.1.2.1 = ln ∧ ∀ j, j < ln → src.getD (q.2.1.1 + j) 0 = xs.getD (tq.2.1 + j) 0) := by
          unfold mNm sam eqs
          by_cases z : q.2.1.2.1 = ln
          · rw [decide_eq_true z, decide_eq_true (show q.2.1.1 + ln ≤ src.length by omega), decide_eq_true (show tq.2.1 + ln ≤ xs.length by omega)]
            simp [z]
          · simp [z]
        have l42 : ∀ (m3 j : Nat) (s : Bool) (L : Nat → Option Value), ln - j = m3 → j ≤ ln → s = decide (q.2.1.2.1 = ln ∧ ∀ j', j' < j → src.getD (q.2.1.1 + j') 0 = xs.getD (tq.2.1 + j') 0) → L 0 = some (.ref 165) → L 1 = some (.int (nI t)) → L 2 = some (.int (nI dd)) → L 3 = some (.int (bI s)) → L 4 = some (.int (nI j)) → Ru (d + 1) mX8_macroNamed 42 L [] (RS S r) (z_en mX8_macroNamed (mnP S r mas R)) := by
          intro m3
          induction m3 with
          | zero =>
            intro j s L hj hjn hs l0 l1 l2 l3 l4
            have : j = ln := by omega
            subst this
            refine r_iload dX8_macroNamed_42 (by first | rfl | assumption) ?_
            refine r_aload_n dX8_macroNamed_44 (by first | rfl | assumption) ?_
            refine r8_get dX8_macroNamed_45 zf_X8_96 rfl ?_
            refine r_iload_n dX8_macroNamed_48 (by first | rfl | assumption) ?_
            refine r8_iald dX8_macroNamed_49 (by decide) (rfl) (by first | assumption | exact (show _ < 65536 by omega) | exact (show _ < 1100 by omega) | exact (show _ < 24 by omega) | exact (show _ < 2100 by omega) | exact (show _ < 6600 by omega) | exact (show _ < 1110 by omega)) ?_
            rw [hTt.2.1]
            refine r_icmp_ge_t (tgt := 100) dX8_macroNamed_50 (by decide) (nI_le (a := j) (b := j) (Nat.le_refl _) (by omega)) ?_
            exact l100 s L (by rw [hmn]; exact hs) l0 l1 l2 l3
          | succ m3 ih3 =>
            intro j s L hj hjn hs l0 l1 l2 l3 l4
            refine r_iload dX8_macroNamed_42 (by first | rfl | assumption) ?_
            refine r_aload_n dX8_macroNamed_44 (by first | rfl | assumption) ?_
            refine r8_get dX8_macroNamed_45 zf_X8_96 rfl ?_
            refine r_iload_n dX8_macroNamed_48 (by first | rfl | assumption) ?_
            refine r8_iald dX8_macroNamed_49 (by decide) (rfl) (by first | assumption | exact (show _ < 65536 by omega) | exact (show _ < 1100 by omega) | exact (show _ < 24 by omega) | exact (show _ < 2100 by omega) | exact (show _ < 6600 by omega) | exact (show _ < 1110 by omega)) ?_
            rw [hTt.2.1]
            refine r_icmp_ge_f (tgt := 100) dX8_macroNamed_50 (by decide) (nI_ge (a := j) (b := ln) (by omega) (by omega)) ?_
            refine r_iload_n dX8_macroNamed_53 (by first | rfl | assumption) ?_
            cases hs9 : s with
            | false =>
              refine r_if_eq_t (tgt := 100) dX8_macroNamed_54 (by decide) (rfl) ?_
              rw [hs9] at hs l3
              refine l100 false L ?_ l0 l1 l2 l3
              rw [hmn]
              exact (decide_eq_false (fun z => of_decide_eq_false hs.symm ⟨z.1, fun j' hj' => z.2 j' (by omega)⟩)).symm
            | true =>
              refine r_if_eq_f (tgt := 100) dX8_macroNamed_54 (by decide) (show ¬ (1 : Int32) = 0 by decide) ?_
              rw [hs9] at hs
              have hs := of_decide_eq_true hs.symm
              have hy1 := h3 (q.2.1.1 + j) (by omega)
              have hy2 := hL.at hl (k := tq.2.1 + j) (by omega)
              refine r_aload_n dX8_macroNamed_57 (by first | rfl | assumption) ?_
              refine r8_get dX8_macroNamed_58 zf_X8_14 rfl ?_
              refine r_aload_n dX8_macroNamed_61 (by first | rfl | assumption) ?_
              refine r8_get dX8_macroNamed_62 zf_X8_69 rfl ?_
              refine r_iload_n dX8_macroNamed_65 (by first | rfl | assumption) ?_
              refine r8_iald dX8_macroNamed_66 (by decide) (rfl) (by first | assumption | exact (show _ < 65536 by omega) | exact (show _ < 1100 by omega) | exact (show _ < 24 by omega) | exact (show _ < 2100 by omega) | exact (show _ < 6600 by omega) | exact (show _ < 1110 by omega)) ?_
              rw [m1]
              refine r_iload dX8_macroNamed_67 (by first | rfl | assumption) ?_
              refine r_iadd dX8_macroNamed_69 ?_
              rw [nI_add]
              refine r8_bald dX8_macroNamed_70 (by decide) (rfl) (by first | assumption | exact (show _ < 65536 by omega) | exact (show _ < 1100 by omega) | exact (show _ < 24 by omega) | exact (show _ < 2100 by omega) | exact (show _ < 6600 by omega) | exact (show _ < 1110 by omega)) ?_
              rw [hy1.2]
              refine r_aload_n dX8_macroNamed_71 (by first | rfl | assumption) ?_
              refine r8_get dX8_macroNamed_72 zf_X8_21 rfl ?_
              refine r_aload_n dX8_macroNamed_75 (by first | rfl | assumption) ?_
              refine r8_get dX8_macroNamed_76 zf_X8_93 rfl ?_
              refine r_iload_n dX8_macroNamed_79 (by first | rfl | assumption) ?_
              refine r8_iald dX8_macroNamed_80 (by decide) (rfl) (by first | assumption | exact (show _ < 65536 by omega) | exact (show _ < 1100 by omega) | exact (show _ < 24 by omega) | exact (show _ < 2100 by omega) | exact (show _ < 6600 by omega) | exact (show _ < 1110 by omega)) ?_
              rw [hTt.1]
              refine r_iload dX8_macroNamed_81 (by first | rfl | assumption) ?_
              refine r_iadd dX8_macroNamed_83 ?_
              rw [nI_add]
              refine r8_bald dX8_macroNamed_84 (by decide) (rfl) (by first | assumption | exact (show _ < 65536 by omega) | exact (show _ < 1100 by omega) | exact (show _ < 24 by omega) | exact (show _ < 2100 by omega) | exact (show _ < 6600 by omega) | exact (show _ < 1110 by omega)) ?_
              rw [hy2.2]
              by_cases q6 : src.getD (q.2.1.1 + j) 0 = xs.getD (tq.2.1 + j) 0
              · refine r_icmp_ne_f (tgt := 92) dX8_macroNamed_85 (by decide) (by rw [q6]) ?_
                refine r_ic (1) dX8_macroNamed_88 rfl ?_
                refine r_goto (tgt := 93) dX8_macroNamed_89 (by decide) ?_
                refine r_istore_n dX8_macroNamed_93 (by decide) (by first | exact z_c1_i (by first | rfl | assumption) | exact z_c1_r (by first | rfl | assumption) | exact z_c1_n (by first | rfl | assumption) | exact z_c1_c (by first | rfl | assumption) | exact z_c1_0 (by first | rfl | assumption)) ?_
                refine r_inc (nI (j + 1)) dX8_macroNamed_94 (by first | rfl | assumption) (by decide) (by first | exact z_c1_i (by first | rfl | assumption) | exact z_c1_r (by first | rfl | assumption) | exact z_c1_n (by first | rfl | assumption) | exact z_c1_c (by first | rfl | assumption) | exact z_c1_0 (by first | rfl | assumption)) (nI_1 _) ?_
                refine r_goto (tgt := 42) dX8_macroNamed_97 (by decide) ?_
                refine ih3 (j + 1) true _ (by omega) (by omega) ?_ l0 l1 l2 rfl rfl
                refine (decide_eq_true ⟨hs.1, fun j' hj' => ?_⟩).symm
                by_cases e : j' = j
                · rw [e]; exact q6
                · exact hs.2 j' (by omega)
              · refine r_icmp_ne_t (tgt := 92) dX8_macroNamed_85 (by decide) (fun z => q6 ((sb_inj hy1.1 hy2.1).mp z)) ?_
                refine r_ic (0) dX8_macroNamed_92 rfl ?_
                refine r_istore_n dX8_macroNamed_93 (by decide) (by first | exact z_c1_i (by first | rfl | assumption) | exact z_c1_r (by first | rfl | assumption) | exact z_c1_n (by first | rfl | assumption) | exact z_c1_c (by first | rfl | assumption) | exact z_c1_0 (by first | rfl | assumption)) ?_
                refine r_inc (nI (j + 1)) dX8_macroNamed_94 (by first | rfl | assumption) (by decide) (by first | exact z_c1_i (by first | rfl | assumption) | exact z_c1_r (by first | rfl | assumption) | exact z_c1_n (by first | rfl | assumption) | exact z_c1_c (by first | rfl | assumption) | exact z_c1_0 (by first | rfl | assumption)) (nI_1 _) ?_
                refine r_goto (tgt := 42) dX8_macroNamed_97 (by decide) ?_
                refine ih3 (j + 1) false _ (by omega) (by omega) ?_ l0 l1 l2 rfl rfl
                exact (decide_eq_false (fun z => q6 (z.2 j (Nat.lt_succ_self _)))).symm
        refine r_aload_n dX8_macroNamed_18 (by first | rfl | assumption) ?_
        refine r8_get dX8_macroNamed_19 zf_X8_72 rfl ?_
        refine r_iload_n dX8_macroNamed_22 (by first | rfl | assumption) ?_
        refine r8_iald dX8_macroNamed_23 (by decide) (rfl) (by first | assumption | exact (show _ < 65536 by omega) | exact (show _ < 1100 by omega) | exact (show _ < 24 by omega) | exact (show _ < 2100 by omega) | exact (show _ < 6600 by omega) | exact (show _ < 1110 by omega)) ?_
        refine r_aload_n dX8_macroNamed_24 (by first | rfl | assumption) ?_
        refine r8_get dX8_macroNamed_25 zf_X8_96 rfl ?_
        refine r_iload_n dX8_macroNamed_28 (by first | rfl | assumption) ?_
        refine r8_iald dX8_macroNamed_29 (by decide) (rfl) (by first | assumption | exact (show _ < 65536 by omega) | exact (show _ < 1100 by omega) | exact (show _ < 24 by omega) | exact (show _ < 2100 by omega) | exact (show _ < 6600 by omega) | exact (show _ < 1110 by omega)) ?_
        rw [m2, hTt.2.1]
        by_cases q4 : q.2.1.2.1 = ln
        · refine r_icmp_ne_f (tgt := 37) dX8_macroNamed_30 (by decide) (by rw [q4]) ?_
          refine r_ic (1) dX8_macroNamed_33 rfl ?_
          refine r_goto (tgt := 38) dX8_macroNamed_34 (by decide) ?_
          refine r_istore_n dX8_macroNamed_38 (by decide) (by first | exact z_c1_i (by first | rfl | assumption) | exact z_c1_r (by first | rfl | assumption) | exact z_c1_n (by first | rfl | assumption) | exact z_c1_c (by first | rfl | assumption) | exact z_c1_0 (by first | rfl | assumption)) ?_
          refine r_ic (0) dX8_macroNamed_39 rfl ?_
          refine r_istore dX8_macroNamed_40 (by decide) (by first | exact z_c1_i (by first | rfl | assumption) | exact z_c1_r (by first | rfl | assumption) | exact z_c1_n (by first | rfl | assumption) | exact z_c1_c (by first | rfl | assumption) | exact z_c1_0 (by first | rfl | assumption)) ?_
          exact l42 ln 0 true _ (Nat.sub_zero _) (Nat.zero_le _) (decide_eq_true ⟨q4, fun j' hj' => by omega⟩).symm l0 l1 l2 rfl rfl
        · refine r_icmp_ne_t (tgt := 37) dX8_macroNamed_30 (by decide) (fun z => q4 ((nI_eq (by omega) (by omega)).mp z)) ?_
          refine r_ic (0) dX8_macroNamed_37 rfl ?_
          refine r_istore_n dX8_macroNamed_38 (by decide) (by first | exact z_c1_i (by first | rfl | assumption) | exact z_c1_r (by first | rfl | assumption) | exact z_c1_n (by first | rfl | assumption) | exact z_c1_c (by first | rfl | assumption) | exact z_c1_0 (by first | rfl | assumption)) ?_
          refine r_ic (0) dX8_macroNamed_39 rfl ?_
          refine r_istore dX8_macroNamed_40 (by decide) (by first | exact z_c1_i (by first | rfl | assumption) | exact z_c1_r (by first | rfl | assumption) | exact z_c1_n (by first | rfl | assumption) | exact z_c1_c (by first | rfl | assumption) | exact z_c1_0 (by first | rfl | assumption)) ?_
          exact l42 ln 0 false _ (Nat.sub_zero _) (Nat.zero_le _) (decide_eq_false (fun z => q4 z.1)).symm l0 l1 l2 rfl rfl
      · rw [decide_eq_false q1]
        refine r_if_eq_t (tgt := 112) dX8_macroNamed_15 (by decide) (rfl) ?_
        rw [if_neg q1] at hr
        exact none_ hr.symm L
  refine Rc.of ?_
  refine r_ic (0) dX8_macroNamed_0 rfl ?_
  refine r_istore_n dX8_macroNamed_1 (by decide) (by first | exact z_c1_i (by first | rfl | assumption) | exact z_c1_r (by first | rfl | assumption) | exact z_c1_n (by first | rfl | assumption) | exact z_c1_c (by first | rfl | assumption) | exact z_c1_0 (by first | rfl | assumption)) ?_
  exact loop mas 0 _ rfl (Nat.zero_le _) hR rfl rfl rfl (z_c1_0 rfl)
end
