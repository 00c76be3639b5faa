section
variable {d : Nat} {S : zS} {E : zE} {lB lI : List Nat} {B C : Nat}
set_option maxRecDepth 10000 in
set_option maxHeartbeats 1000000 in
theorem C_X5_init {t : Nat} (ht : S.2.2 t = .inr (6, [.null, .null, .null, .null])) (htl : t < S.1) (hV : Vw S E lB lI B C) : Rc (d + 2) mX5_init [.ref t] S (fun v S1 => v = none ∧ S1.1 = S.1 + 8 ∧ S1.2.1 = S.2.1 + 289 ∧ S1.2.2 t = .inr (6, [.ref (S.1 + 0), .ref (S.1 + 2), .ref (S.1 + 4), .ref (S.1 + 6)]) ∧ (∀ j, j < S.1 → j ≠ t → S1.2.2 j = S.2.2 j) ∧ ∃ lB1 lI1, Vw S1 (eB (eI (eI (eI (E) (S.1 + 0) (65536, []) (S.1 + 1, 8)) (S.1 + 2) (65536, []) (S.1 + 3, 8)) (S.1 + 4) (65536, []) (S.1 + 5, 8)) (S.1 + 6) (65536, []) (S.1 + 7, 256)) lB1 lI1 (B + 10 + potI 65536 8 + 10 + potI 65536 8 + 10 + potI 65536 8 + (3 + 256) + pot 65536 256) (C + 2 + cpt 65536 8 + 2 + cpt 65536 8 + 2 + cpt 65536 8 + 2 + cpt 65536 256)) := by
  refine Rc.of ?_
  refine r_aload_n dX5_init_0 (by first | rfl | assumption) ?_
  refine r_objInit dX5_init_1 zo_X5_3 (by decide) ?_
  refine r_aload_n dX5_init_4 (by first | rfl | assumption) ?_
  refine r_new dX5_init_5 zn_X5_9 ?_
  refine r_dup dX5_init_8 rfl ?_
  refine r_callIN0 dX5_init_9 zm_X5_11 (Nat.le_of_ble_eq_true rfl) (Nat.le_of_ble_eq_true rfl) (C_X1_init (S := z_new S (.inr (2, [.null, .int 0])) 2) (b := S.1) (va_up_self _ _ _) (Nat.lt_succ_self _)) (fun v U0 hv => ?_)
  obtain ⟨rfl, hI0⟩ := hv
  have q0 := nwI hI0
  have hW0 := VI (bnd := 65536) hV (by decide) q0.1 q0.2.1 q0.2.2.1 q0.2.2.2
  have hu0 := (q0.2.2.2 t htl).trans ht
  refine r_putF dX5_init_12 zF_X5_12 (by first | assumption | exact z_put_self) (Nat.le_of_ble_eq_true rfl) ⟨rfl, rfl⟩ rfl ?_
  show Ru _ _ _ _ _ (z_put U0 t (.inr (6, [.ref (S.1 + 0), .null, .null, .null]))) _
  have hX0 := hW0.put (x := t) (c := .inr (6, [.ref (S.1 + 0), .null, .null, .null])) (hW0.raw hu0 (by decide) (by decide))
  have ht1 : (z_put U0 t (.inr (6, [.ref (S.1 + 0), .null, .null, .null]))).2.2 t = .inr (6, [.ref (S.1 + 0), .null, .null, .null]) := z_put_self
  have e1 : (z_put U0 t (.inr (6, [.ref (S.1 + 0), .null, .null, .null]))).1 = S.1 + 2 := q0.2.1
  have s1 : (z_put U0 t (.inr (6, [.ref (S.1 + 0), .null, .null, .null]))).2.1 = S.2.1 + 10 := q0.2.2.1
  have o1 : ∀ j, j < S.1 → j ≠ t → (z_put U0 t (.inr (6, [.ref (S.1 + 0), .null, .null, .null]))).2.2 j = S.2.2 j := fun j hj hn => (z_put_ne hn).trans (q0.2.2.2 j hj)
  generalize z_put U0 t (.inr (6, [.ref (S.1 + 0), .null, .null, .null])) = T1 at hX0 ht1 e1 s1 o1 ⊢
  refine r_aload_n dX5_init_15 (by first | rfl | assumption) ?_
  refine r_new dX5_init_16 zn_X5_9 ?_
  refine r_dup dX5_init_19 rfl ?_
  refine r_callIN0 dX5_init_20 zm_X5_11 (Nat.le_of_ble_eq_true rfl) (Nat.le_of_ble_eq_true rfl) (C_X1_init (S := z_new T1 (.inr (2, [.null, .int 0])) 2) (b := T1.1) (va_up_self _ _ _) (Nat.lt_succ_self _)) (fun v U1 hv => ?_)
  obtain ⟨rfl, hI1⟩ := hv
  have q1 := nwI hI1
  have hW1 := VI (bnd := 65536) hX0 (by decide) q1.1 q1.2.1 q1.2.2.1 q1.2.2.2
  have hu1 := (q1.2.2.2 t (by omega)).trans ht1
  refine r_putF dX5_init_23 zF_X5_18 (by first | assumption | exact z_put_self) (Nat.le_of_ble_eq_true rfl) ⟨rfl, rfl⟩ rfl ?_
  rw [e1]
  show Ru _ _ _ _ _ (z_put U1 t (.inr (6, [.ref (S.1 + 0), .ref (S.1 + 2), .null, .null]))) _
  have hX1 := hW1.put (x := t) (c := .inr (6, [.ref (S.1 + 0), .ref (S.1 + 2), .null, .null])) (hW1.raw hu1 (by decide) (by decide))
  have ht2 : (z_put U1 t (.inr (6, [.ref (S.1 + 0), .ref (S.1 + 2), .null, .null]))).2.2 t = .inr (6, [.ref (S.1 + 0), .ref (S.1 + 2), .null, .null]) := z_put_self
  have e2 : (z_put U1 t (.inr (6, [.ref (S.1 + 0), .ref (S.1 + 2), .null, .null]))).1 = S.1 + 4 := by show U1.1 = _; rw [q1.2.1, e1]
  have s2 : (z_put U1 t (.inr (6, [.ref (S.1 + 0), .ref (S.1 + 2), .null, .null]))).2.1 = S.2.1 + 20 := by show U1.2.1 = _; rw [q1.2.2.1, s1]
  have o2 : ∀ j, j < S.1 → j ≠ t → (z_put U1 t (.inr (6, [.ref (S.1 + 0), .ref (S.1 + 2), .null, .null]))).2.2 j = S.2.2 j := fun j hj hn => (z_put_ne hn).trans ((q1.2.2.2 j (by omega)).trans (o1 j hj hn))
  rw [e1] at hX1
  generalize z_put U1 t (.inr (6, [.ref (S.1 + 0), .ref (S.1 + 2), .null, .null])) = T2 at hX1 ht2 e2 s2 o2 ⊢
  refine r_aload_n dX5_init_26 (by first | rfl | assumption) ?_
  refine r_new dX5_init_27 zn_X5_9 ?_
  refine r_dup dX5_init_30 rfl ?_
  refine r_callIN0 dX5_init_31 zm_X5_11 (Nat.le_of_ble_eq_true rfl) (Nat.le_of_ble_eq_true rfl) (C_X1_init (S := z_new T2 (.inr (2, [.null, .int 0])) 2) (b := T2.1) (va_up_self _ _ _) (Nat.lt_succ_self _)) (fun v U2 hv => ?_)
  obtain ⟨rfl, hI2⟩ := hv
  have q2 := nwI hI2
  have hW2 := VI (bnd := 65536) hX1 (by decide) q2.1 q2.2.1 q2.2.2.1 q2.2.2.2
  have hu2 := (q2.2.2.2 t (by omega)).trans ht2
  refine r_putF dX5_init_34 zF_X5_21 (by first | assumption | exact z_put_self) (Nat.le_of_ble_eq_true rfl) ⟨rfl, rfl⟩ rfl ?_
  rw [e2]
  show Ru _ _ _ _ _ (z_put U2 t (.inr (6, [.ref (S.1 + 0), .ref (S.1 + 2), .ref (S.1 + 4), .null]))) _
  have hX2 := hW2.put (x := t) (c := .inr (6, [.ref (S.1 + 0), .ref (S.1 + 2), .ref (S.1 + 4), .null])) (hW2.raw hu2 (by decide) (by decide))
  have ht3 : (z_put U2 t (.inr (6, [.ref (S.1 + 0), .ref (S.1 + 2), .ref (S.1 + 4), .null]))).2.2 t = .inr (6, [.ref (S.1 + 0), .ref (S.1 + 2), .ref (S.1 + 4), .null]) := z_put_self
  have e3 : (z_put U2 t (.inr (6, [.ref (S.1 + 0), .ref (S.1 + 2), .ref (S.1 + 4), .null]))).1 = S.1 + 6 := by show U2.1 = _; rw [q2.2.1, e2]
  have s3 : (z_put U2 t (.inr (6, [.ref (S.1 + 0), .ref (S.1 + 2), .ref (S.1 + 4), .null]))).2.1 = S.2.1 + 30 := by show U2.2.1 = _; rw [q2.2.2.1, s2]
  have o3 : ∀ j, j < S.1 → j ≠ t → (z_put U2 t (.inr (6, [.ref (S.1 + 0), .ref (S.1 + 2), .ref (S.1 + 4), .null]))).2.2 j = S.2.2 j := fun j hj hn => (z_put_ne hn).trans ((q2.2.2.2 j (by omega)).trans (o2 j hj hn))
  rw [e2] at hX2
  generalize z_put U2 t (.inr (6, [.ref (S.1 + 0), .ref (S.1 + 2), .ref (S.1 + 4), .null])) = T3 at hX2 ht3 e3 s3 o3 ⊢
  refine r_aload_n dX5_init_37 (by first | rfl | assumption) ?_
  refine r_new dX5_init_38 zn_X5_24 ?_
  refine r_dup dX5_init_41 rfl ?_
  refine r_sp (256) dX5_init_42 rfl ?_
  refine r_ldc dX5_init_45 zk_X5_26 ?_
  refine r_callI2 dX5_init_47 zm_X5_27 (Nat.le_of_ble_eq_true rfl) (Nat.le_of_ble_eq_true rfl) (C_X0_init (S := z_new T3 (.inr (1, [.int 0, .null, .int 0])) 3) (b := T3.1) (f := 256) (l := 65536) (va_up_self _ _ _) (Nat.lt_succ_self _) (by decide) (by decide)) (fun v U3 hv => ?_)
  obtain ⟨rfl, hI3⟩ := hv
  have q3 := nwB hI3
  have hW3 := VB hX2 q3.1 q3.2.1 q3.2.2.1 q3.2.2.2
  have hu3 := (q3.2.2.2 t (by omega)).trans ht3
  refine r_putf dX5_init_50 zf_X5_30 (by first | assumption | exact z_put_self) (Nat.le_of_ble_eq_true rfl) ⟨rfl, rfl⟩ ?_
  rw [e3]
  show Ru _ _ _ _ _ (z_put U3 t (.inr (6, [.ref (S.1 + 0), .ref (S.1 + 2), .ref (S.1 + 4), .ref (S.1 + 6)]))) _
  have hX3 := hW3.put (x := t) (c := .inr (6, [.ref (S.1 + 0), .ref (S.1 + 2), .ref (S.1 + 4), .ref (S.1 + 6)])) (hW3.raw hu3 (by decide) (by decide))
  have ht4 : (z_put U3 t (.inr (6, [.ref (S.1 + 0), .ref (S.1 + 2), .ref (S.1 + 4), .ref (S.1 + 6)]))).2.2 t = .inr (6, [.ref (S.1 + 0), .ref (S.1 + 2), .ref (S.1 + 4), .ref (S.1 + 6)]) := z_put_self
  have e4 : (z_put U3 t (.inr (6, [.ref (S.1 + 0), .ref (S.1 + 2), .ref (S.1 + 4), .ref (S.1 + 6)]))).1 = S.1 + 8 := by show U3.1 = _; rw [q3.2.1, e3]
  have s4 : (z_put U3 t (.inr (6, [.ref (S.1 + 0), .ref (S.1 + 2), .ref (S.1 + 4), .ref (S.1 + 6)]))).2.1 = S.2.1 + 289 := by show U3.2.1 = _; rw [q3.2.2.1, s3]
  have o4 : ∀ j, j < S.1 → j ≠ t → (z_put U3 t (.inr (6, [.ref (S.1 + 0), .ref (S.1 + 2), .ref (S.1 + 4), .ref (S.1 + 6)]))).2.2 j = S.2.2 j := fun j hj hn => (z_put_ne hn).trans ((q3.2.2.2 j (by omega)).trans (o3 j hj hn))
  rw [e3] at hX3
  generalize z_put U3 t (.inr (6, [.ref (S.1 + 0), .ref (S.1 + 2), .ref (S.1 + 4), .ref (S.1 + 6)])) = T4 at hX3 ht4 e4 s4 o4 ⊢
  refine r_return dX5_init_53 rfl ⟨rfl, e4, s4, ht4, o4, _, _, hX3⟩
set_option maxRecDepth 10000 in
set_option maxHeartbeats 1000000 in
theorem C_X4_init {t : Nat} (ht : S.2.2 t = .inr (5, [.int 0, .int 0, .int 0, .int 0, .int 0, .int 0, .int 0, .null, .null, .null, .null])) (htl : t < S.1) (hV : Vw S E lB lI B C) : Rc (d + 2) mX4_init [.ref t] S (fun v S1 => v = none ∧ S1.1 = S.1 + 6 ∧ S1.2.1 = S.2.1 + 39 ∧ S1.2.2 t = .inr (5, [.int 0, .int 0, .int 0, .int 0, .int 0, .int 0, .int 0, .null, .ref (S.1 + 0), .ref (S.1 + 2), .ref (S.1 + 4)]) ∧ (∀ j, j < S.1 → j ≠ t → S1.2.2 j = S.2.2 j) ∧ ∃ lB1 lI1, Vw S1 (eI (eI (eB (E) (S.1 + 0) (1024, []) (S.1 + 1, 16)) (S.1 + 2) (1025, []) (S.1 + 3, 8)) (S.1 + 4) (1025, []) (S.1 + 5, 8)) lB1 lI1 (B + (3 + 16) + pot 1024 16 + 10 + potI 1025 8 + 10 + potI 1025 8) (C + 2 + cpt 1024 16 + 2 + cpt 1025 8 + 2 + cpt 1025 8)) := by
  refine Rc.of ?_
  refine r_aload_n dX4_init_0 (by first | rfl | assumption) ?_
  refine r_objInit dX4_init_1 zo_X4_3 (by decide) ?_
  refine r_aload_n dX4_init_4 (by first | rfl | assumption) ?_
  refine r_new dX4_init_5 zn_X4_9 ?_
  refine r_dup dX4_init_8 rfl ?_
  refine r_bp (16) dX4_init_9 rfl ?_
  refine r_sp (1024) dX4_init_11 rfl ?_
  refine r_callI2 dX4_init_14 zm_X4_11 (Nat.le_of_ble_eq_true rfl) (Nat.le_of_ble_eq_true rfl) (C_X0_init (S := z_new S (.inr (1, [.int 0, .null, .int 0])) 3) (b := S.1) (f := 16) (l := 1024) (va_up_self _ _ _) (Nat.lt_succ_self _) (by decide) (by decide)) (fun v U0 hv => ?_)
  obtain ⟨rfl, hI0⟩ := hv
  have q0 := nwB hI0
  have hW0 := VB hV q0.1 q0.2.1 q0.2.2.1 q0.2.2.2
  have hu0 := (q0.2.2.2 t htl).trans ht
  refine r_putF dX4_init_17 zF_X4_14 (by first | assumption | exact z_put_self) (Nat.le_of_ble_eq_true rfl) ⟨rfl, rfl⟩ rfl ?_
  show Ru _ _ _ _ _ (z_put U0 t (.inr (5, [.int 0, .int 0, .int 0, .int 0, .int 0, .int 0, .int 0, .null, .ref (S.1 + 0), .null, .null]))) _
  have hX0 := hW0.put (x := t) (c := .inr (5, [.int 0, .int 0, .int 0, .int 0, .int 0, .int 0, .int 0, .null, .ref (S.1 + 0), .null, .null])) (hW0.raw hu0 (by decide) (by decide))
  have ht1 : (z_put U0 t (.inr (5, [.int 0, .int 0, .int 0, .int 0, .int 0, .int 0, .int 0, .null, .ref (S.1 + 0), .null, .null]))).2.2 t = .inr (5, [.int 0, .int 0, .int 0, .int 0, .int 0, .int 0, .int 0, .null, .ref (S.1 + 0), .null, .null]) := z_put_self
  have e1 : (z_put U0 t (.inr (5, [.int 0, .int 0, .int 0, .int 0, .int 0, .int 0, .int 0, .null, .ref (S.1 + 0), .null, .null]))).1 = S.1 + 2 := q0.2.1
  have s1 : (z_put U0 t (.inr (5, [.int 0, .int 0, .int 0, .int 0, .int 0, .int 0, .int 0, .null, .ref (S.1 + 0), .null, .null]))).2.1 = S.2.1 + 19 := q0.2.2.1
  have o1 : ∀ j, j < S.1 → j ≠ t → (z_put U0 t (.inr (5, [.int 0, .int 0, .int 0, .int 0, .int 0, .int 0, .int 0, .null, .ref (S.1 + 0), .null, .null]))).2.2 j = S.2.2 j := fun j hj hn => (z_put_ne hn).trans (q0.2.2.2 j hj)
  generalize z_put U0 t (.inr (5, [.int 0, .int 0, .int 0, .int 0, .int 0, .int 0, .int 0, .null, .ref (S.1 + 0), .null, .null])) = T1 at hX0 ht1 e1 s1 o1 ⊢
  refine r_aload_n dX4_init_20 (by first | rfl | assumption) ?_
  refine r_new dX4_init_21 zn_X4_20 ?_
  refine r_dup dX4_init_24 rfl ?_
  refine r_callIN0 dX4_init_25 zm_X4_22 (Nat.le_of_ble_eq_true rfl) (Nat.le_of_ble_eq_true rfl) (C_X1_init (S := z_new T1 (.inr (2, [.null, .int 0])) 2) (b := T1.1) (va_up_self _ _ _) (Nat.lt_succ_self _)) (fun v U1 hv => ?_)
  obtain ⟨rfl, hI1⟩ := hv
  have q1 := nwI hI1
  have hW1 := VI (bnd := 1025) hX0 (by decide) q1.1 q1.2.1 q1.2.2.1 q1.2.2.2
  have hu1 := (q1.2.2.2 t (by omega)).trans ht1
  refine r_putF dX4_init_28 zF_X4_23 (by first | assumption | exact z_put_self) (Nat.le_of_ble_eq_true rfl) ⟨rfl, rfl⟩ rfl ?_
  rw [e1]
  show Ru _ _ _ _ _ (z_put U1 t (.inr (5, [.int 0, .int 0, .int 0, .int 0, .int 0, .int 0, .int 0, .null, .ref (S.1 + 0), .ref (S.1 + 2), .null]))) _
  have hX1 := hW1.put (x := t) (c := .inr (5, [.int 0, .int 0, .int 0, .int 0, .int 0, .int 0, .int 0, .null, .ref (S.1 + 0), .ref (S.1 + 2), .null])) (hW1.raw hu1 (by decide) (by decide))
  have ht2 : (z_put U1 t (.inr (5, [.int 0, .int 0, .int 0, .int 0, .int 0, .int 0, .int 0, .null, .ref (S.1 + 0), .ref (S.1 + 2), .null]))).2.2 t = .inr (5, [.int 0, .int 0, .int 0, .int 0, .int 0, .int 0, .int 0, .null, .ref (S.1 + 0), .ref (S.1 + 2), .null]) := z_put_self
  have e2 : (z_put U1 t (.inr (5, [.int 0, .int 0, .int 0, .int 0, .int 0, .int 0, .int 0, .null, .ref (S.1 + 0), .ref (S.1 + 2), .null]))).1 = S.1 + 4 := by show U1.1 = _; rw [q1.2.1, e1]
  have s2 : (z_put U1 t (.inr (5, [.int 0, .int 0, .int 0, .int 0, .int 0, .int 0, .int 0, .null, .ref (S.1 + 0), .ref (S.1 + 2), .null]))).2.1 = S.2.1 + 29 := by show U1.2.1 = _; rw [q1.2.2.1, s1]
  have o2 : ∀ j, j < S.1 → j ≠ t → (z_put U1 t (.inr (5, [.int 0, .int 0, .int 0, .int 0, .int 0, .int 0, .int 0, .null, .ref (S.1 + 0), .ref (S.1 + 2), .null]))).2.2 j = S.2.2 j := fun j hj hn => (z_put_ne hn).trans ((q1.2.2.2 j (by omega)).trans (o1 j hj hn))
  rw [e1] at hX1
  generalize z_put U1 t (.inr (5, [.int 0, .int 0, .int 0, .int 0, .int 0, .int 0, .int 0, .null, .ref (S.1 + 0), .ref (S.1 + 2), .null])) = T2 at hX1 ht2 e2 s2 o2 ⊢
  refine r_aload_n dX4_init_31 (by first | rfl | assumption) ?_
  refine r_new dX4_init_32 zn_X4_20 ?_
  refine r_dup dX4_init_35 rfl ?_
  refine r_callIN0 dX4_init_36 zm_X4_22 (Nat.le_of_ble_eq_true rfl) (Nat.le_of_ble_eq_true rfl) (C_X1_init (S := z_new T2 (.inr (2, [.null, .int 0])) 2) (b := T2.1) (va_up_self _ _ _) (Nat.lt_succ_self _)) (fun v U2 hv => ?_)
  obtain ⟨rfl, hI2⟩ := hv
  have q2 := nwI hI2
  have hW2 := VI (bnd := 1025) hX1 (by decide) q2.1 q2.2.1 q2.2.2.1 q2.2.2.2
  have hu2 := (q2.2.2.2 t (by omega)).trans ht2
  refine r_putF dX4_init_39 zF_X4_27 (by first | assumption | exact z_put_self) (Nat.le_of_ble_eq_true rfl) ⟨rfl, rfl⟩ rfl ?_
  rw [e2]
  show Ru _ _ _ _ _ (z_put U2 t (.inr (5, [.int 0, .int 0, .int 0, .int 0, .int 0, .int 0, .int 0, .null, .ref (S.1 + 0), .ref (S.1 + 2), .ref (S.1 + 4)]))) _
  have hX2 := hW2.put (x := t) (c := .inr (5, [.int 0, .int 0, .int 0, .int 0, .int 0, .int 0, .int 0, .null, .ref (S.1 + 0), .ref (S.1 + 2), .ref (S.1 + 4)])) (hW2.raw hu2 (by decide) (by decide))
  have ht3 : (z_put U2 t (.inr (5, [.int 0, .int 0, .int 0, .int 0, .int 0, .int 0, .int 0, .null, .ref (S.1 + 0), .ref (S.1 + 2), .ref (S.1 + 4)]))).2.2 t = .inr (5, [.int 0, .int 0, .int 0, .int 0, .int 0, .int 0, .int 0, .null, .ref (S.1 + 0), .ref (S.1 + 2), .ref (S.1 + 4)]) := z_put_self
  have e3 : (z_put U2 t (.inr (5, [.int 0, .int 0, .int 0, .int 0, .int 0, .int 0, .int 0, .null, .ref (S.1 + 0), .ref (S.1 + 2), .ref (S.1 + 4)]))).1 = S.1 + 6 := by show U2.1 = _; rw [q2.2.1, e2]
  have s3 : (z_put U2 t (.inr (5, [.int 0, .int 0, .int 0, .int 0, .int 0, .int 0, .int 0, .null, .ref (S.1 + 0), .ref (S.1 + 2), .ref (S.1 + 4)]))).2.1 = S.2.1 + 39 := by show U2.2.1 = _; rw [q2.2.2.1, s2]
  have o3 : ∀ j, j < S.1 → j ≠ t → (z_put U2 t (.inr (5, [.int 0, .int 0, .int 0, .int 0, .int 0, .int 0, .int 0, .null, .ref (S.1 + 0), .ref (S.1 + 2), .ref (S.1 + 4)]))).2.2 j = S.2.2 j := fun j hj hn => (z_put_ne hn).trans ((q2.2.2.2 j (by omega)).trans (o2 j hj hn))
  rw [e2] at hX2
  generalize z_put U2 t (.inr (5, [.int 0, .int 0, .int 0, .int 0, .int 0, .int 0, .int 0, .null, .ref (S.1 + 0), .ref (S.1 + 2), .ref (S.1 + 4)])) = T3 at hX2 ht3 e3 s3 o3 ⊢
  refine r_return dX4_init_42 rfl ⟨rfl, e3, s3, ht3, o3, _, _, hX2⟩
end
