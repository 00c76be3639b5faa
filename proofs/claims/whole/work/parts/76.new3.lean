section
variable {d : Nat} {S : zS} {E : zE} {lB lI : List Nat} {B C : Nat}
/-- where an Ints is made and told to a field -/
theorem nwI {S1 : zS} (hI : isI S1 S.1 (z_new S (.inr (2, [.null, .int 0])) 2).1 8 [] ∧ S1.1 = (z_new S (.inr (2, [.null, .int 0])) 2).1 + 1 ∧ S1.2.1 = (z_new S (.inr (2, [.null, .int 0])) 2).2.1 + 8 ∧ ∀ j, j < (z_new S (.inr (2, [.null, .int 0])) 2).1 → j ≠ S.1 → S1.2.2 j = (z_new S (.inr (2, [.null, .int 0])) 2).2.2 j) : isI S1 S.1 (S.1 + 1) 8 [] ∧ S1.1 = S.1 + 2 ∧ S1.2.1 = S.2.1 + 10 ∧ ∀ j, j < S.1 → S1.2.2 j = S.2.2 j := ⟨hI.1, hI.2.1, hI.2.2.1, fun j hj => (hI.2.2.2 j (show j < S.1 + 1 by omega) (by omega)).trans (va_up_ne _ _ (by omega))⟩
theorem nwB {S1 : zS} {f l : Nat} (hI : isB S1 S.1 (z_new S (.inr (1, [.int 0, .null, .int 0])) 3).1 f l [] ∧ S1.1 = (z_new S (.inr (1, [.int 0, .null, .int 0])) 3).1 + 1 ∧ S1.2.1 = (z_new S (.inr (1, [.int 0, .null, .int 0])) 3).2.1 + f ∧ fr (z_new S (.inr (1, [.int 0, .null, .int 0])) 3) S1 [S.1]) : isB S1 S.1 (S.1 + 1) f l [] ∧ S1.1 = S.1 + 2 ∧ S1.2.1 = S.2.1 + (3 + f) ∧ ∀ j, j < S.1 → S1.2.2 j = S.2.2 j := ⟨hI.1, hI.2.1, by rw [hI.2.2.1]; show S.2.1 + 3 + f = _; omega, fun j hj => (hI.2.2.2.2.2 j (show j < S.1 + 1 by omega) (fun z => by have := List.mem_singleton.mp z; omega)).trans (va_up_ne _ _ (by omega))⟩
set_option maxRecDepth 10000 in
set_option maxHeartbeats 1000000 in
theorem C_X6_init {t b : Nat} (ht : S.2.2 t = .inr (7, [.null, .null, .null, .null, .int 0, .long 0, .long 0])) (htl : t < S.1) (hV : Vw S E lB lI B C) : Rc (d + 2) mX6_init [.ref t, .ref b] S (fun v S1 => v = none ∧ S1.1 = S.1 + 6 ∧ S1.2.1 = S.2.1 + 30 ∧ S1.2.2 t = .inr (7, tF b S.1 (S.1 + 2) (S.1 + 4) 0 0 0) ∧ (∀ j, j < S.1 → j ≠ t → S1.2.2 j = S.2.2 j) ∧ ∃ lB1 lI1, Vw S1 (eI (eI (eI E S.1 (1025, []) (S.1 + 1, 8)) (S.1 + 2) (1025, []) (S.1 + 3, 8)) (S.1 + 4) (1025, []) (S.1 + 5, 8)) lB1 lI1 (B + 3 * (10 + potI 1025 8)) (C + 3 * (2 + cpt 1025 8))) := by
  refine Rc.of ?_
  refine r_aload_n dX6_init_0 (by first | rfl | assumption) ?_
  refine r_objInit dX6_init_1 zo_X6_3 (by decide) ?_
  refine r_aload_n dX6_init_4 (by first | rfl | assumption) ?_
  refine r_new dX6_init_5 zn_X6_9 ?_
  refine r_dup dX6_init_8 rfl ?_
  refine r_callIN0 dX6_init_9 zm_X6_11 (Nat.le_of_ble_eq_true rfl) (Nat.le_of_ble_eq_true rfl) (C_X1_init (S := z_new S (.inr (2, [.null, .int 0])) 2) (b := S.1) (va_up_self _ _ _) (Nat.lt_succ_self _)) (fun v U0 hv => ?_)
  obtain ⟨rfl, hI0⟩ := hv
  have q0 := nwI hI0
  have hW0 := VI (bnd := 1025) hV (by decide) q0.1 q0.2.1 q0.2.2.1 q0.2.2.2
  have hu0 := (q0.2.2.2 t htl).trans ht
  refine r_putF dX6_init_12 zF_X6_12 (by first | assumption | exact z_put_self) (Nat.le_of_ble_eq_true rfl) ⟨rfl, rfl⟩ rfl ?_
  show Ru _ _ _ _ _ (z_put U0 t (.inr (7, [.null, .ref S.1, .null, .null, .int 0, .long 0, .long 0]))) _
  have hX0 := hW0.put (x := t) (c := .inr (7, [.null, .ref S.1, .null, .null, .int 0, .long 0, .long 0])) (hW0.raw hu0 (by decide) (by decide))
  have ht1 : (z_put U0 t (.inr (7, [.null, .ref S.1, .null, .null, .int 0, .long 0, .long 0]))).2.2 t = .inr (7, [.null, .ref S.1, .null, .null, .int 0, .long 0, .long 0]) := z_put_self
  have e1 : (z_put U0 t (.inr (7, [.null, .ref S.1, .null, .null, .int 0, .long 0, .long 0]))).1 = S.1 + 2 := q0.2.1
  have s1 : (z_put U0 t (.inr (7, [.null, .ref S.1, .null, .null, .int 0, .long 0, .long 0]))).2.1 = S.2.1 + 10 := q0.2.2.1
  have o1 : ∀ j, j < S.1 → j ≠ t → (z_put U0 t (.inr (7, [.null, .ref S.1, .null, .null, .int 0, .long 0, .long 0]))).2.2 j = S.2.2 j := fun j hj hn => (z_put_ne hn).trans (q0.2.2.2 j hj)
  generalize z_put U0 t (.inr (7, [.null, .ref S.1, .null, .null, .int 0, .long 0, .long 0])) = T1 at hX0 ht1 e1 s1 o1 ⊢
  refine r_aload_n dX6_init_15 (by first | rfl | assumption) ?_
  refine r_new dX6_init_16 zn_X6_9 ?_
  refine r_dup dX6_init_19 rfl ?_
  refine r_callIN0 dX6_init_20 zm_X6_11 (Nat.le_of_ble_eq_true rfl) (Nat.le_of_ble_eq_true rfl) (C_X1_init (S := z_new T1 (.inr (2, [.null, .int 0])) 2) (b := T1.1) (va_up_self _ _ _) (Nat.lt_succ_self _)) (fun v U1 hv => ?_)
  obtain ⟨rfl, hI1⟩ := hv
  have q1 := nwI hI1
  have hW1 := VI (bnd := 1025) hX0 (by decide) q1.1 q1.2.1 q1.2.2.1 q1.2.2.2
  have hu1 := (q1.2.2.2 t (by omega)).trans ht1
  refine r_putF dX6_init_23 zF_X6_18 (by first | assumption | exact z_put_self) (Nat.le_of_ble_eq_true rfl) ⟨rfl, rfl⟩ rfl ?_
  rw [e1]
  show Ru _ _ _ _ _ (z_put U1 t (.inr (7, [.null, .ref S.1, .ref (S.1 + 2), .null, .int 0, .long 0, .long 0]))) _
  have hX1 := hW1.put (x := t) (c := .inr (7, [.null, .ref S.1, .ref (S.1 + 2), .null, .int 0, .long 0, .long 0])) (hW1.raw hu1 (by decide) (by decide))
  have ht2 : (z_put U1 t (.inr (7, [.null, .ref S.1, .ref (S.1 + 2), .null, .int 0, .long 0, .long 0]))).2.2 t = .inr (7, [.null, .ref S.1, .ref (S.1 + 2), .null, .int 0, .long 0, .long 0]) := z_put_self
  have e2 : (z_put U1 t (.inr (7, [.null, .ref S.1, .ref (S.1 + 2), .null, .int 0, .long 0, .long 0]))).1 = S.1 + 4 := by show U1.1 = _; rw [q1.2.1, e1]
  have s2 : (z_put U1 t (.inr (7, [.null, .ref S.1, .ref (S.1 + 2), .null, .int 0, .long 0, .long 0]))).2.1 = S.2.1 + 20 := by show U1.2.1 = _; rw [q1.2.2.1, s1]
  have o2 : ∀ j, j < S.1 → j ≠ t → (z_put U1 t (.inr (7, [.null, .ref S.1, .ref (S.1 + 2), .null, .int 0, .long 0, .long 0]))).2.2 j = S.2.2 j := fun j hj hn => (z_put_ne hn).trans ((q1.2.2.2 j (by omega)).trans (o1 j hj hn))
  rw [e1] at hX1
  generalize z_put U1 t (.inr (7, [.null, .ref S.1, .ref (S.1 + 2), .null, .int 0, .long 0, .long 0])) = T2 at hX1 ht2 e2 s2 o2 ⊢
  refine r_aload_n dX6_init_26 (by first | rfl | assumption) ?_
  refine r_new dX6_init_27 zn_X6_9 ?_
  refine r_dup dX6_init_30 rfl ?_
  refine r_callIN0 dX6_init_31 zm_X6_11 (Nat.le_of_ble_eq_true rfl) (Nat.le_of_ble_eq_true rfl) (C_X1_init (S := z_new T2 (.inr (2, [.null, .int 0])) 2) (b := T2.1) (va_up_self _ _ _) (Nat.lt_succ_self _)) (fun v U2 hv => ?_)
  obtain ⟨rfl, hI2⟩ := hv
  have q2 := nwI hI2
  have hW2 := VI (bnd := 1025) hX1 (by decide) q2.1 q2.2.1 q2.2.2.1 q2.2.2.2
  have hu2 := (q2.2.2.2 t (by omega)).trans ht2
  refine r_putF dX6_init_34 zF_X6_21 (by first | assumption | exact z_put_self) (Nat.le_of_ble_eq_true rfl) ⟨rfl, rfl⟩ rfl ?_
  rw [e2]
  show Ru _ _ _ _ _ (z_put U2 t (.inr (7, [.null, .ref S.1, .ref (S.1 + 2), .ref (S.1 + 4), .int 0, .long 0, .long 0]))) _
  have hX2 := hW2.put (x := t) (c := .inr (7, [.null, .ref S.1, .ref (S.1 + 2), .ref (S.1 + 4), .int 0, .long 0, .long 0])) (hW2.raw hu2 (by decide) (by decide))
  have ht3 : (z_put U2 t (.inr (7, [.null, .ref S.1, .ref (S.1 + 2), .ref (S.1 + 4), .int 0, .long 0, .long 0]))).2.2 t = .inr (7, [.null, .ref S.1, .ref (S.1 + 2), .ref (S.1 + 4), .int 0, .long 0, .long 0]) := z_put_self
  have e3 : (z_put U2 t (.inr (7, [.null, .ref S.1, .ref (S.1 + 2), .ref (S.1 + 4), .int 0, .long 0, .long 0]))).1 = S.1 + 6 := by show U2.1 = _; rw [q2.2.1, e2]
  have s3 : (z_put U2 t (.inr (7, [.null, .ref S.1, .ref (S.1 + 2), .ref (S.1 + 4), .int 0, .long 0, .long 0]))).2.1 = S.2.1 + 30 := by show U2.2.1 = _; rw [q2.2.2.1, s2]
  have o3 : ∀ j, j < S.1 → j ≠ t → (z_put U2 t (.inr (7, [.null, .ref S.1, .ref (S.1 + 2), .ref (S.1 + 4), .int 0, .long 0, .long 0]))).2.2 j = S.2.2 j := fun j hj hn => (z_put_ne hn).trans ((q2.2.2.2 j (by omega)).trans (o2 j hj hn))
  rw [e2] at hX2
  generalize z_put U2 t (.inr (7, [.null, .ref S.1, .ref (S.1 + 2), .ref (S.1 + 4), .int 0, .long 0, .long 0])) = T3 at hX2 ht3 e3 s3 o3 ⊢
  refine r_aload_n dX6_init_37 (by first | rfl | assumption) ?_
  refine r_aload_n dX6_init_38 (by first | rfl | assumption) ?_
  refine r_putF dX6_init_39 zF_X6_24 (by first | assumption | exact z_put_self) (Nat.le_of_ble_eq_true rfl) ⟨rfl, rfl⟩ rfl ?_
  have hX := hX2.put (x := t) (c := .inr (7, tF b S.1 (S.1 + 2) (S.1 + 4) 0 0 0)) (hX2.raw ht3 (by decide) (by decide))
  have eB9 : B + 10 + potI 1025 8 + 10 + potI 1025 8 + 10 + potI 1025 8 = B + 3 * (10 + potI 1025 8) := by omega
  have eC9 : C + 2 + cpt 1025 8 + 2 + cpt 1025 8 + 2 + cpt 1025 8 = C + 3 * (2 + cpt 1025 8) := by omega
  rw [eB9, eC9] at hX
  refine r_return dX6_init_42 rfl ⟨rfl, e3, s3, z_put_self, fun j hj hn => (z_put_ne hn).trans (o3 j hj hn), _, _, hX⟩
end
