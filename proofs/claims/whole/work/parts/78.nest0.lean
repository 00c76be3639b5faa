section
variable {d : Nat} {S : zS} {E : zE} {lB lI : List Nat} {B C : Nat}
/-- a part as it is made -/
def pt0 (a : Nat) : zC := .inr (5, [.int 0, .int 0, .int 0, .int 0, .int 0, .int 0, .int 0, .null, .ref (a + 1), .ref (a + 3), .ref (a + 5)])
/-- k parts stand behind the array at a -/
def ptsK (S0 S : zS) (E0 E : zE) (a k : Nat) : Prop := S.1 = a + 1 + 7 * k ∧ S.2.1 = S0.2.1 + 20 + 50 * k ∧ (∃ g, S.2.2 a = .inl (.object "MacroReader$Part", 20, .inr (.inr (.inr (.inr g)))) ∧ ∀ j, j < k → g j = some (a + 1 + 7 * j)) ∧ (∀ j, j < k → S.2.2 (a + 1 + 7 * j) = pt0 (a + 1 + 7 * j) ∧ E.1 (a + 2 + 7 * j) = some (1024, []) ∧ E.2.1 (a + 4 + 7 * j) = some (1025, []) ∧ E.2.1 (a + 6 + 7 * j) = some (1025, [])) ∧ ∀ j, j < a → E.1 j = E0.1 j ∧ E.2.1 j = E0.2.1 j
def pB : Nat := 50 + pot 1024 16 + 2 * potI 1025 8
def pC : Nat := 7 + cpt 1024 16 + 2 * cpt 1025 8
theorem zl_X3_9 : Cond.classLink RX3 9 "MacroReader$Part" ∈ z_tb ∧ Cond.arrayOver (.object "MacroReader$Part") ∈ tables_1 := ⟨List.mem_filter.mpr ⟨by decide +kernel, rfl⟩, by decide +kernel⟩
set_option maxRecDepth 10000 in
set_option maxHeartbeats 2000000 in
theorem C_X3_init {t : Nat} (ht : S.2.2 t = .inr (4, [.null, .int 0])) (htl : t < S.1) (hV : Vw S E lB lI B C) : Rc (d + 3) mX3_init [.ref t] S (fun v S1 => v = none ∧ S1.2.2 t = .inr (4, [.ref S.1, .int 0]) ∧ (∀ j, j < S.1 → j ≠ t → S1.2.2 j = S.2.2 j) ∧ ∃ E1 lB1 lI1, ptsK S S1 E E1 S.1 20 ∧ Vw S1 E1 lB1 lI1 (B + 20 + 20 * pB) (C + 1 + 20 * pC)) := by
  have loop : ∀ (n k : Nat) (T : zS) (E1 : zE) (lB1 lI1 : List Nat) (L : Nat → Option Value), k + n = 20 → T.2.2 t = .inr (4, [.ref S.1, .int 0]) → (∀ j, j < S.1 → j ≠ t → T.2.2 j = S.2.2 j) → ptsK S T E E1 S.1 k → Vw T E1 lB1 lI1 (B + 20 + k * pB) (C + 1 + k * pC) → L 0 = some (.ref t) → L 1 = some (.int (nI k)) → Ru (d + 3) mX3_init 15 L [] T (z_en mX3_init (fun v S1 => v = none ∧ S1.2.2 t = .inr (4, [.ref S.1, .int 0]) ∧ (∀ j, j < S.1 → j ≠ t → S1.2.2 j = S.2.2 j) ∧ ∃ E1 lB1 lI1, ptsK S S1 E E1 S.1 20 ∧ Vw S1 E1 lB1 lI1 (B + 20 + 20 * pB) (C + 1 + 20 * pC))) := by
    intro n
    induction n with
    | zero =>
      intro k T E1 lB1 lI1 L hk c1 c2 c3 c4 l0 l1
      obtain ⟨p1, p2, ⟨g, p3, p3'⟩, p4, p5⟩ := id c3
      have e20 : k = 20 := hk
      refine r_iload_n dX3_init_15 (by first | rfl | assumption) ?_
      refine r_aload_n dX3_init_16 (by first | rfl | assumption) ?_
      refine r_getf dX3_init_17 zf_X3_11 (by first | assumption | exact z_put_self) rfl ?_
      refine r_alen dX3_init_20 (by assumption) ?_
      refine r_icmp_ge_t (tgt := 43) dX3_init_21 (by decide) (nI_le (a := 20) (b := k) (by omega) (by omega)) ?_
      refine r_return dX3_init_43 rfl ⟨rfl, c1, c2, E1, lB1, lI1, by rw [e20] at c3; exact c3, by rw [e20] at c4; exact c4⟩
    | succ n ih =>
      intro k T E1 lB1 lI1 L hk c1 c2 c3 c4 l0 l1
      obtain ⟨p1, p2, ⟨g, p3, p3'⟩, p4, p5⟩ := id c3
      refine r_iload_n dX3_init_15 (by first | rfl | assumption) ?_
      refine r_aload_n dX3_init_16 (by first | rfl | assumption) ?_
      refine r_getf dX3_init_17 zf_X3_11 (by first | assumption | exact z_put_self) rfl ?_
      refine r_alen dX3_init_20 (by assumption) ?_
      refine r_icmp_ge_f (tgt := 43) dX3_init_21 (by decide) (nI_ge (a := k) (b := 20) (by omega) (by decide)) ?_
      refine r_aload_n dX3_init_24 (by first | rfl | assumption) ?_
      refine r_getf dX3_init_25 zf_X3_11 (by first | assumption | exact z_put_self) rfl ?_
      refine r_iload_n dX3_init_28 (by first | rfl | assumption) ?_
      refine r_new dX3_init_29 zn_X3_9 ?_
      refine r_dup dX3_init_32 rfl ?_
      have hVm := c4.more (S1 := z_new T (.inr (5, [.int 0, .int 0, .int 0, .int 0, .int 0, .int 0, .int 0, .null, .null, .null, .null])) 11) (a := 1) (b := 11) rfl rfl (fun j hj _ => va_up_ne _ _ (Nat.ne_of_lt hj))
      refine r_callIN0 dX3_init_33 zm_X3_17 (Nat.le_of_ble_eq_true rfl) (Nat.le_of_ble_eq_true rfl) (C_X4_init (S := z_new T (.inr (5, [.int 0, .int 0, .int 0, .int 0, .int 0, .int 0, .int 0, .null, .null, .null, .null])) 11) (t := T.1) (va_up_self _ _ _) (Nat.lt_succ_self _) hVm) (fun v U hv => ?_)
      obtain ⟨rfl, u1, u2, u3, u4, lB2, lI2, hW⟩ := hv
      have u1 : U.1 = T.1 + 1 + 6 := u1
      have u2 : U.2.1 = T.2.1 + 11 + 39 := u2
      have u4 : ∀ j, j < T.1 → U.2.2 j = T.2.2 j := fun j hj => (u4 j (show j < T.1 + 1 by omega) (Nat.ne_of_lt hj)).trans (va_up_ne _ _ (Nat.ne_of_lt hj))
      have hUa := (u4 S.1 (by omega)).trans p3
      refine r_aast (r := (RX4, TX4, 11)) dX3_init_36 hUa (vp_in_nI (show k < 20 by omega) (by decide)) u3 rfl ?_
      refine r_inc (nI (k + 1)) dX3_init_37 (by first | rfl | assumption) (by decide) (by first | assumption | exact z_c1_i (by first | rfl | assumption) | exact z_c1_r (by first | rfl | assumption) | exact z_c1_n (by first | rfl | assumption) | exact z_c1_c (by first | rfl | assumption) | exact z_c1_0 (by first | rfl | assumption)) (nI_1 _) ?_
      refine r_goto (tgt := 15) dX3_init_40 (by decide) ?_
      have hW : Vw U (eI (eI (eB E1 (T.1 + 1) (1024, []) (T.1 + 2, 16)) (T.1 + 3) (1025, []) (T.1 + 4, 8)) (T.1 + 5) (1025, []) (T.1 + 6, 8)) lB2 lI2 _ _ := hW
      refine ih (k + 1) _ (eI (eI (eB E1 (T.1 + 1) (1024, []) (T.1 + 2, 16)) (T.1 + 3) (1025, []) (T.1 + 4, 8)) (T.1 + 5) (1025, []) (T.1 + 6, 8)) lB2 lI2 _ (by omega) ?_ ?_ ⟨?_, ?_, ⟨_, va_up_self _ _ _, ?_⟩, ?_, ?_⟩ ?_ l0 rfl
      · exact (va_up_ne _ _ (Nat.ne_of_lt htl)).trans ((u4 t (by omega)).trans c1)
      · exact fun j hj hn => (va_up_ne _ _ (Nat.ne_of_lt hj)).trans ((u4 j (by omega)).trans (c2 j hj hn))
      · show U.1 = _; omega
      · show U.2.1 = _; omega
      · intro j hj
        rw [nI_clamp (by omega)]
        by_cases e : j = k
        · rw [e, va_up_self, ← p1]
        · rw [va_up_ne _ _ e]; exact p3' j (by omega)
      · intro j hj
        by_cases e : j = k
        · subst e
          rw [← p1]
          refine ⟨(va_up_ne _ _ (by omega)).trans u3, ?_, ?_, ?_⟩
          · show va_up E1.1 (T.1 + 1) (some (1024, [])) (S.1 + 2 + 7 * j) = _
            rw [show S.1 + 2 + 7 * j = T.1 + 1 by omega]; exact va_up_self _ _ _
          · show va_up (va_up E1.2.1 (T.1 + 3) (some (1025, []))) (T.1 + 5) (some (1025, [])) (S.1 + 4 + 7 * j) = _
            rw [show S.1 + 4 + 7 * j = T.1 + 3 by omega, va_up_ne _ _ (by omega)]; exact va_up_self _ _ _
          · show va_up (va_up E1.2.1 (T.1 + 3) (some (1025, []))) (T.1 + 5) (some (1025, [])) (S.1 + 6 + 7 * j) = _
            rw [show S.1 + 6 + 7 * j = T.1 + 5 by omega]; exact va_up_self _ _ _
        · obtain ⟨q1, q2, q3, q4⟩ := p4 j (by omega)
          refine ⟨(va_up_ne _ _ (by omega)).trans ((u4 _ (by omega)).trans q1), ?_, ?_, ?_⟩
          · show va_up E1.1 (T.1 + 1) (some (1024, [])) (S.1 + 2 + 7 * j) = _
            rw [va_up_ne _ _ (by omega)]; exact q2
          · show va_up (va_up E1.2.1 (T.1 + 3) (some (1025, []))) (T.1 + 5) (some (1025, [])) (S.1 + 4 + 7 * j) = _
            rw [va_up_ne _ _ (by omega), va_up_ne _ _ (by omega)]; exact q3
          · show va_up (va_up E1.2.1 (T.1 + 3) (some (1025, []))) (T.1 + 5) (some (1025, [])) (S.1 + 6 + 7 * j) = _
            rw [va_up_ne _ _ (by omega), va_up_ne _ _ (by omega)]; exact q4
      · intro j hj
        show va_up E1.1 (T.1 + 1) (some (1024, [])) j = _ ∧ va_up (va_up E1.2.1 (T.1 + 3) (some (1025, []))) (T.1 + 5) (some (1025, [])) j = _
        rw [va_up_ne _ _ (by omega), va_up_ne _ _ (by omega), va_up_ne _ _ (by omega)]
        exact p5 j hj
      · have hX := hW.put (x := S.1) (c := .inl (.object "MacroReader$Part", 20, .inr (.inr (.inr (.inr (va_up g (nI k).toNatClampNeg (some T.1))))))) (hW.rawA hUa (by simp) (by simp))
        have eB9 : B + 20 + k * pB + 11 + (3 + 16) + pot 1024 16 + 10 + potI 1025 8 + 10 + potI 1025 8 = B + 20 + (k + 1) * pB := by rw [Nat.succ_mul]; unfold pB; omega
        have eC9 : C + 1 + k * pC + 1 + 2 + cpt 1024 16 + 2 + cpt 1025 8 + 2 + cpt 1025 8 = C + 1 + (k + 1) * pC := by rw [Nat.succ_mul]; unfold pC; omega
        rw [eB9, eC9] at hX
        exact hX
  refine Rc.of ?_
  refine r_aload_n dX3_init_0 (by first | rfl | assumption) ?_
  refine r_objInit dX3_init_1 zo_X3_3 (by decide) ?_
  refine r_aload_n dX3_init_4 (by first | rfl | assumption) ?_
  refine r_bp (20) dX3_init_5 rfl ?_
  refine r_anewq (C9 := "MacroReader$Part") (N := 20) dX3_init_7 zl_X3_9 (by decide) rfl (by decide) ?_
  refine r_putF dX3_init_10 zF_X3_11 (z_new_old ht htl) (Nat.le_of_ble_eq_true rfl) ⟨rfl, rfl⟩ rfl ?_
  refine r_ic (0) dX3_init_13 rfl ?_
  refine r_istore_n dX3_init_14 (by decide) (by first | assumption | exact z_c1_i (by first | rfl | assumption) | exact z_c1_r (by first | rfl | assumption) | exact z_c1_n (by first | rfl | assumption) | exact z_c1_c (by first | rfl | assumption) | exact z_c1_0 (by first | rfl | assumption)) ?_
  have hVm := hV.more (S1 := z_new S (.inl (.object "MacroReader$Part", 20, .inr (.inr (.inr (.inr (fun _ => none)))))) 20) (a := 1) (b := 20) rfl rfl (fun j hj _ => va_up_ne _ _ (Nat.ne_of_lt hj))
  have hX := hVm.put (x := t) (c := .inr (4, [.ref S.1, .int 0])) (hVm.raw (z_new_old ht htl) (by decide) (by decide))
  refine loop 20 0 _ E lB lI _ rfl (va_up_self _ _ _) (fun j hj hn => (va_up_ne _ _ hn).trans (va_up_ne _ _ (Nat.ne_of_lt hj))) ⟨rfl, rfl, ⟨_, (va_up_ne _ _ (Nat.ne_of_gt htl)).trans z_new_at, fun j hj => absurd hj (Nat.not_lt_zero _)⟩, fun j hj => absurd hj (Nat.not_lt_zero _), fun j hj => ⟨rfl, rfl⟩⟩ ?_ rfl rfl
  rw [Nat.zero_mul, Nat.zero_mul]
  exact hX
end
