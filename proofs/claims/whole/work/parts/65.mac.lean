/-! THE REFERENCE: a macro's heading -/
def Rk (ts : List zT) (k : Nat) : Bool := hdL ts (ts.length - k) k && (decide (ts.length ≤ k) || decide (ts.length % 2 = 1))
theorem rk_out {ts : List zT} {k : Nat} (h : ts.length ≤ k) : Rk ts k = true := by
  unfold Rk
  rw [show ts.length - k = 0 by omega, decide_eq_true h]
  rfl
theorem rk_step {ts : List zT} {k : Nat} (hk : k % 2 = 0) (h : k < ts.length) : Rk ts k = (decide ((ts.getD k t0).1 = 1) && (decide (k + 1 = ts.length) || (decide ((ts.getD (k + 1) t0).1 = 44) && decide (k + 2 < ts.length))) && Rk ts (k + 2)) := by
  unfold Rk
  obtain ⟨p, hp⟩ : ∃ p, ts.length - k = p + 1 := ⟨ts.length - k - 1, by omega⟩
  rw [hp, hdL_s, if_pos hk, decide_eq_false (show ¬ ts.length ≤ k by omega), Bool.false_or]
  by_cases q : k + 1 = ts.length
  · have : p = 0 := by omega
    subst this
    rw [decide_eq_true q, show ts.length - (k + 2) = 0 by omega, decide_eq_true (show ts.length ≤ k + 2 by omega), decide_eq_true (show ts.length % 2 = 1 by omega)]
    simp [hdL]
  · obtain ⟨p', rfl⟩ : ∃ p', p = p' + 1 := ⟨p - 1, by omega⟩
    rw [hdL_s, if_neg (show ¬ (k + 1) % 2 = 0 by omega), decide_eq_false q, Bool.false_or, show ts.length - (k + 2) = p' by omega]
    by_cases q2 : k + 2 < ts.length
    · rw [decide_eq_true q2, decide_eq_false (show ¬ ts.length ≤ k + 2 by omega)]
      simp [Bool.and_assoc]
    · have : p' = 0 := by omega
      subst this
      rw [decide_eq_false q2, decide_eq_false (show ¬ ts.length % 2 = 1 by omega)]
      simp
theorem rk_hdg {ts : List zT} : (decide ((ts.getD 1 t0).1 = 1) && Rk ts 2) = hdg ts := by
  unfold Rk hdg
  by_cases q : 2 < ts.length
  · rw [decide_eq_false (show ¬ ts.length ≤ 2 by omega), decide_eq_true q]
    by_cases q2 : ts.length % 2 = 0
    · rw [decide_eq_true q2, decide_eq_false (show ¬ ts.length % 2 = 1 by omega)]
      simp
    · rw [decide_eq_false q2, decide_eq_true (show ts.length % 2 = 1 by omega)]
      simp
  · rw [decide_eq_true (show ts.length ≤ 2 by omega), decide_eq_false q]
    simp
section
variable {d : Nat} {S : zS} {r : zR} {c : zD} {g : zG} {xs : List Nat} {ts : List zT}
set_option maxRecDepth 10000 in
set_option maxHeartbeats 1000000 in
/-- names parted by commas -/
theorem mac_loop {r1 : zR} {P : Option Value → zS → Prop} (hT : TK r1 xs ts) (hl : ts.length ≤ 1025) (K : ∀ L : Nat → Option Value, L 0 = some (.ref 165) → z_c1 (L 1) → L 2 = some (.int (bI (hdg ts))) → Ru (d + 1) mX8_macro 106 L [] (RS S r1) (z_en mX8_macro P)) : ∀ (m k : Nat) (s : Bool) (L : Nat → Option Value), ts.length - k ≤ m → k % 2 = 0 → k ≤ 1030 → (s && Rk ts k) = hdg ts → L 0 = some (.ref 165) → L 1 = some (.int (nI k)) → L 2 = some (.int (bI s)) → Ru (d + 1) mX8_macro 42 L [] (RS S r1) (z_en mX8_macro P) := by
  intro m
  have fin : ∀ (k : Nat) (s : Bool) (L : Nat → Option Value), (s = false ∨ ts.length ≤ k) → k ≤ 1030 → (s && Rk ts k) = hdg ts → L 0 = some (.ref 165) → L 1 = some (.int (nI k)) → L 2 = some (.int (bI s)) → Ru (d + 1) mX8_macro 42 L [] (RS S r1) (z_en mX8_macro P) := by
    intro k s L hs hk he l0 l1 l2
    have e : s = hdg ts := by
      rcases hs with rfl | hs
      · exact he
      · rw [rk_out hs, Bool.and_true] at he
        exact he
    refine r_iload_n dX8_macro_42 (by first | rfl | assumption) ?_
    cases hs9 : s with
    | false =>
      refine r_if_eq_t (tgt := 106) dX8_macro_43 (by decide) (rfl) ?_
      exact K L l0 (z_c1_i l1) (by rw [← e]; exact l2)
    | true =>
      have hs := hs.resolve_left (by rw [hs9]; exact Bool.noConfusion)
      refine r_if_eq_f (tgt := 106) dX8_macro_43 (by decide) (show ¬ (1 : Int32) = 0 by decide) ?_
      refine r_iload_n dX8_macro_46 (by first | rfl | assumption) ?_
      refine r_aload_n dX8_macro_47 (by first | rfl | assumption) ?_
      refine r8_get dX8_macro_48 zf_X8_215 rfl ?_
      rw [hT.1]
      refine r_icmp_ge_t (tgt := 106) dX8_macro_51 (by decide) (nI_le hs (by omega)) ?_
      exact K L l0 (z_c1_i l1) (by rw [← e]; exact l2)
  induction m with
  | zero =>
    intro k s L hm hk2 hk he l0 l1 l2
    exact fin k s L (Or.inr (by omega)) hk he l0 l1 l2
  | succ m ih =>
    intro k s L hm hk2 hk he l0 l1 l2
    by_cases q0 : s = false ∨ ts.length ≤ k
    · exact fin k s L q0 hk he l0 l1 l2
    have hs : s = true := Bool.not_eq_false _ |>.mp (fun z => q0 (Or.inl z))
    have hkl : k < ts.length := Nat.lt_of_not_le (fun z => q0 (Or.inr z))
    subst hs
    rw [Bool.true_and, rk_step hk2 hkl] at he
    have l99 : ∀ (s : Bool) (L : Nat → Option Value), s = (decide ((ts.getD k t0).1 = 1) && (decide (k + 1 = ts.length) || (decide ((ts.getD (k + 1) t0).1 = 44) && decide (k + 2 < ts.length)))) → L 0 = some (.ref 165) → L 1 = some (.int (nI k)) → Ru (d + 1) mX8_macro 99 L [.int (bI s)] (RS S r1) (z_en mX8_macro P) := by
      intro s L hs l0 l1
      rw [← hs] at he
      refine r_istore_n dX8_macro_99 (by decide) (by first | assumption | exact z_c1_i (by first | rfl | assumption) | exact z_c1_r (by first | rfl | assumption) | exact z_c1_n (by first | rfl | assumption) | exact z_c1_c (by first | rfl | assumption) | exact z_c1_0 (by first | rfl | assumption)) ?_
      refine r_inc (nI (k + 2)) dX8_macro_100 (by first | rfl | assumption) (by decide) (by first | assumption | exact z_c1_i (by first | rfl | assumption) | exact z_c1_r (by first | rfl | assumption) | exact z_c1_n (by first | rfl | assumption) | exact z_c1_c (by first | rfl | assumption) | exact z_c1_0 (by first | rfl | assumption)) (nI_add k 2) ?_
      refine r_goto (tgt := 42) dX8_macro_103 (by decide) ?_
      exact ih (k + 2) s _ (by omega) (by omega) (by omega) he l0 rfl rfl
    refine r_iload_n dX8_macro_42 (by first | rfl | assumption) ?_
    refine r_if_eq_f (tgt := 106) dX8_macro_43 (by decide) (show ¬ (1 : Int32) = 0 by decide) ?_
    refine r_iload_n dX8_macro_46 (by first | rfl | assumption) ?_
    refine r_aload_n dX8_macro_47 (by first | rfl | assumption) ?_
    refine r8_get dX8_macro_48 zf_X8_215 rfl ?_
    rw [hT.1]
    refine r_icmp_ge_f (tgt := 106) dX8_macro_51 (by decide) (nI_ge (a := k) (b := ts.length) hkl (by omega)) ?_
    refine r_aload_n dX8_macro_54 (by first | rfl | assumption) ?_
    refine r_iload_n dX8_macro_55 (by first | rfl | assumption) ?_
    refine r_callV1 dX8_macro_56 zm_X8_248 RS_o rfl (Nat.le_of_ble_eq_true rfl) (Nat.le_of_ble_eq_true rfl) (C_X8_isName hT (show k ≤ 1040 by omega)) (fun v S9 hv => ?_)
    obtain ⟨rfl, rfl⟩ := hv
    by_cases q1 : (ts.getD k t0).1 = 1
    · rw [decide_eq_true q1] at l99 ⊢
      refine r_if_eq_f (tgt := 98) dX8_macro_59 (by decide) (show ¬ (1 : Int32) = 0 by decide) ?_
      refine r_iload_n dX8_macro_62 (by first | rfl | assumption) ?_
      refine r_ic (1) dX8_macro_63 rfl ?_
      refine r_iadd dX8_macro_64 ?_
      rw [nI_1]
      refine r_aload_n dX8_macro_65 (by first | rfl | assumption) ?_
      refine r8_get dX8_macro_66 zf_X8_215 rfl ?_
      rw [hT.1]
      by_cases q2 : k + 1 = ts.length
      · rw [decide_eq_true q2] at l99
        refine r_icmp_eq_t (tgt := 94) dX8_macro_69 (by decide) (by rw [q2]) ?_
        refine r_ic (1) dX8_macro_94 rfl ?_
        refine r_goto (tgt := 99) dX8_macro_95 (by decide) ?_
        exact l99 true L rfl l0 l1
      · rw [decide_eq_false q2] at l99
        refine r_icmp_eq_f (tgt := 94) dX8_macro_69 (by decide) (fun z => q2 ((nI_eq (by omega) (by omega)).mp z)) ?_
        refine r_aload_n dX8_macro_72 (by first | rfl | assumption) ?_
        refine r_iload_n dX8_macro_73 (by first | rfl | assumption) ?_
        refine r_ic (1) dX8_macro_74 rfl ?_
        refine r_iadd dX8_macro_75 ?_
        rw [nI_1]
        refine r_bp (44) dX8_macro_76 rfl ?_
        refine r_callV2 dX8_macro_78 zm_X8_261 RS_o rfl (Nat.le_of_ble_eq_true rfl) (Nat.le_of_ble_eq_true rfl) (C_X8_isSign (c := 44) hT (show k + 1 ≤ 1040 by omega) (by decide)) (fun v S9 hv => ?_)
        obtain ⟨rfl, rfl⟩ := hv
        by_cases q3 : (ts.getD (k + 1) t0).1 = 44
        · rw [decide_eq_true q3] at l99
          rw [decide_eq_true (show (ts.getD (k + 1) t0).1 = nI 44 from q3)]
          refine r_if_eq_f (tgt := 98) dX8_macro_81 (by decide) (show ¬ (1 : Int32) = 0 by decide) ?_
          refine r_iload_n dX8_macro_84 (by first | rfl | assumption) ?_
          refine r_ic (2) dX8_macro_85 rfl ?_
          refine r_iadd dX8_macro_86 ?_
          rw [show (nI k + 2 : Int32) = nI (k + 2) from nI_add k 2]
          refine r_aload_n dX8_macro_87 (by first | rfl | assumption) ?_
          refine r8_get dX8_macro_88 zf_X8_215 rfl ?_
          rw [hT.1]
          by_cases q4 : k + 2 < ts.length
          · rw [decide_eq_true q4] at l99
            refine r_icmp_ge_f (tgt := 98) dX8_macro_91 (by decide) (nI_ge (a := k + 2) (b := ts.length) q4 (by omega)) ?_
            refine r_ic (1) dX8_macro_94 rfl ?_
            refine r_goto (tgt := 99) dX8_macro_95 (by decide) ?_
            exact l99 true L rfl l0 l1
          · rw [decide_eq_false q4] at l99
            refine r_icmp_ge_t (tgt := 98) dX8_macro_91 (by decide) (nI_le (a := ts.length) (b := k + 2) (by omega) (by omega)) ?_
            refine r_ic (0) dX8_macro_98 rfl ?_
            exact l99 false L rfl l0 l1
        · rw [decide_eq_false q3] at l99
          rw [decide_eq_false (show ¬ (ts.getD (k + 1) t0).1 = nI 44 from q3)]
          refine r_if_eq_t (tgt := 98) dX8_macro_81 (by decide) (rfl) ?_
          refine r_ic (0) dX8_macro_98 rfl ?_
          exact l99 false L rfl l0 l1
    · rw [decide_eq_false q1] at l99 ⊢
      refine r_if_eq_t (tgt := 98) dX8_macro_59 (by decide) (rfl) ?_
      refine r_ic (0) dX8_macro_98 rfl ?_
      exact l99 false L rfl l0 l1
end
