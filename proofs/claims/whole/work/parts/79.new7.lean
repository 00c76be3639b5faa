/-! THE READER'S CONSTRUCTOR, at the numbers that the law's run gives -/
def zE0 : zE := (fun _ => none, fun _ => none, fun _ => (0, 0), fun _ => (0, 0))
def S00 : zS := (1, 0, fun _ => .inr (0, []))
def dX7 : List Value := [.null, .null, .null, .null, .null, .null, .int 0, .int 0, .int 0, .int 0, .int 0, .int 0, .int 0]
def p00 : zPt := (0, (0, 0, 0, 0), 0, 0, none, [], [])
def c00 : zD := ((9, 163), [], [], [], (0, 0, 0), (false, false), (0, .retAddr 50, 0))
def g00 : zG := ((0, 0, 0, 0, 0), 0, fun _ => p00, [], [])
theorem Vw00 : Vw (z_new S00 (.inr (8, dX7)) 13) zE0 [] [] 13 2 := ⟨fun o lim xs h => (by cases h), fun o b xs h => (by cases h), fun o1 _ h => absurd rfl h, fun o1 _ h => absurd rfl h, List.nodup_nil, List.nodup_nil, Nat.le_of_ble_eq_true rfl, Nat.le_of_ble_eq_true rfl⟩
section
variable {d : Nat}
set_option maxRecDepth 20000 in
set_option maxHeartbeats 4000000 in
theorem C_X7_init : Rc (d + 4) mX7_init [.ref 1] (z_new S00 (.inr (8, dX7)) 13) (fun v S1 => v = none ∧ S1.1 = 165 ∧ XR S1 c00 g00 ∧ ∃ E lB lI B C, Vw S1 E lB lI B C ∧ XE E c00 g00 ∧ B ≤ 2200000 ∧ C ≤ 400000) := by
  refine Rc.of ?_
  have h0 : (z_new S00 (.inr (8, dX7)) 13).2.2 1 = .inr (8, dX7) := rfl
  have e0 : (z_new S00 (.inr (8, dX7)) 13).1 = 2 := rfl
  have hV0 := Vw00
  generalize z_new S00 (.inr (8, dX7)) 13 = T0 at h0 e0 hV0 ⊢
  unfold dX7 at h0
  refine r_aload_n dX7_init_0 (by first | rfl | assumption) ?_
  refine r_objInit dX7_init_1 zo_X7_1 (by decide) ?_
  refine r_aload_n dX7_init_4 (by first | rfl | assumption) ?_
  refine r_new dX7_init_5 zn_X7_7 ?_
  refine r_dup dX7_init_8 rfl ?_
  rw [e0]
  have n0 : (z_new T0 (.inr (6, [.null, .null, .null, .null])) 4).1 = 3 := by show T0.1 + 1 = 3; rw [e0]
  have k0 : (z_new T0 (.inr (6, [.null, .null, .null, .null])) 4).2.2 2 = .inr (6, [.null, .null, .null, .null]) := by have h := @z_new_at T0 4 (.inr (6, [.null, .null, .null, .null])); rw [e0] at h; exact h
  have w0 : ∀ j, j < 2 → (z_new T0 (.inr (6, [.null, .null, .null, .null])) 4).2.2 j = T0.2.2 j := fun j hj => va_up_ne _ _ (by rw [e0]; omega)
  have q0 : (z_new T0 (.inr (6, [.null, .null, .null, .null])) 4).2.1 = T0.2.1 + 4 := rfl
  have hM0 := hV0.more (S1 := z_new T0 (.inr (6, [.null, .null, .null, .null])) 4) (a := 1) (b := 4) rfl rfl (fun j hj _ => va_up_ne _ _ (Nat.ne_of_lt hj))
  generalize z_new T0 (.inr (6, [.null, .null, .null, .null])) 4 = N0 at n0 k0 w0 q0 hM0 ⊢
  refine r_callIN0 dX7_init_9 zm_X7_9 (Nat.le_of_ble_eq_true rfl) (Nat.le_of_ble_eq_true rfl) (C_X5_init (S := N0) (t := 2) k0 (by rw [n0]; decide) hM0) (fun v U0 hv => ?_)
  obtain ⟨rfl, a1, a2, a3, a4, lB9, lI9, hW⟩ := hv
  rw [n0] at a1 a3 a4 hW
  have hr0 : U0.2.2 1 = .inr (8, [.null, .null, .null, .null, .null, .null, .int 0, .int 0, .int 0, .int 0, .int 0, .int 0, .int 0]) := (a4 1 (by decide) (by decide)).trans ((w0 1 (by decide)).trans h0)
  refine r_putF dX7_init_12 zF_X7_10 (by first | assumption | exact z_put_self) (Nat.le_of_ble_eq_true rfl) ⟨rfl, rfl⟩ rfl ?_
  show Ru _ _ _ _ _ (z_put U0 1 (.inr (8, [.ref 2, .null, .null, .null, .null, .null, .int 0, .int 0, .int 0, .int 0, .int 0, .int 0, .int 0]))) _
  have hX0 := hW.put (x := 1) (c := .inr (8, [.ref 2, .null, .null, .null, .null, .null, .int 0, .int 0, .int 0, .int 0, .int 0, .int 0, .int 0])) (hW.raw hr0 (by decide) (by decide))
  have h1 : (z_put U0 1 (.inr (8, [.ref 2, .null, .null, .null, .null, .null, .int 0, .int 0, .int 0, .int 0, .int 0, .int 0, .int 0]))).2.2 1 = .inr (8, [.ref 2, .null, .null, .null, .null, .null, .int 0, .int 0, .int 0, .int 0, .int 0, .int 0, .int 0]) := z_put_self
  have e1 : (z_put U0 1 (.inr (8, [.ref 2, .null, .null, .null, .null, .null, .int 0, .int 0, .int 0, .int 0, .int 0, .int 0, .int 0]))).1 = 11 := a1
  have o1 : ∀ j, j < 2 → j ≠ 1 → (z_put U0 1 (.inr (8, [.ref 2, .null, .null, .null, .null, .null, .int 0, .int 0, .int 0, .int 0, .int 0, .int 0, .int 0]))).2.2 j = T0.2.2 j := fun j hj hn => (z_put_ne hn).trans ((a4 j (by omega) (by omega)).trans (w0 j hj))
  have f1 : (z_put U0 1 (.inr (8, [.ref 2, .null, .null, .null, .null, .null, .int 0, .int 0, .int 0, .int 0, .int 0, .int 0, .int 0]))).2.2 2 = .inr (6, [.ref 3, .ref 5, .ref 7, .ref 9]) := (z_put_ne (by decide)).trans a3
  generalize z_put U0 1 (.inr (8, [.ref 2, .null, .null, .null, .null, .null, .int 0, .int 0, .int 0, .int 0, .int 0, .int 0, .int 0])) = T1 at hX0 h1 e1 o1 f1 ⊢
  have hV1 := hX0
  refine r_aload_n dX7_init_15 (by first | rfl | assumption) ?_
  refine r_new dX7_init_16 zn_X7_16 ?_
  refine r_dup dX7_init_19 rfl ?_
  rw [e1]
  have n1 : (z_new T1 (.inr (1, [.int 0, .null, .int 0])) 3).1 = 12 := by show T1.1 + 1 = 12; rw [e1]
  have k1 : (z_new T1 (.inr (1, [.int 0, .null, .int 0])) 3).2.2 11 = .inr (1, [.int 0, .null, .int 0]) := by have h := @z_new_at T1 3 (.inr (1, [.int 0, .null, .int 0])); rw [e1] at h; exact h
  have w1 : ∀ j, j < 11 → (z_new T1 (.inr (1, [.int 0, .null, .int 0])) 3).2.2 j = T1.2.2 j := fun j hj => va_up_ne _ _ (by rw [e1]; omega)
  have q1 : (z_new T1 (.inr (1, [.int 0, .null, .int 0])) 3).2.1 = T1.2.1 + 3 := rfl
  have hM1 := hV1.more (S1 := z_new T1 (.inr (1, [.int 0, .null, .int 0])) 3) (a := 1) (b := 3) rfl rfl (fun j hj _ => va_up_ne _ _ (Nat.ne_of_lt hj))
  generalize z_new T1 (.inr (1, [.int 0, .null, .int 0])) 3 = N1 at n1 k1 w1 q1 hM1 ⊢
  refine r_sp (1024) dX7_init_20 rfl ?_
  refine r_sp (1024) dX7_init_23 rfl ?_
  refine r_callI2 dX7_init_26 zm_X7_18 (Nat.le_of_ble_eq_true rfl) (Nat.le_of_ble_eq_true rfl) (C_X0_init (S := N1) (b := 11) (f := 1024) (l := 1024) k1 (by rw [n1]; decide) (by decide) (by decide)) (fun v U1 hv => ?_)
  obtain ⟨rfl, a0, a1, a2, a4⟩ := hv
  rw [n1] at a0 a1
  have a4 : ∀ j, j < 12 → j ≠ 11 → U1.2.2 j = N1.2.2 j := fun j hj hn => a4.2.2 j (by rw [n1]; exact hj) (fun z => hn (List.mem_singleton.mp z))
  have hW := hV1.newB (S1 := U1) (o := 11) (r := 12) (f := 1024) (lim := 1024) (a := 2) (b := 1027) (by rw [a1, e1]) (by rw [a2, q1, Nat.add_assoc]) (fun j hj _ => by rw [e1] at hj; exact (a4 j (by omega) (by omega)).trans (w1 j hj)) a0 (by rw [e1]; decide) (by rw [e1]; decide) (by rw [a1]; decide) (by rw [a1]; decide)
  have hr1 : U1.2.2 1 = .inr (8, [.ref 2, .null, .null, .null, .null, .null, .int 0, .int 0, .int 0, .int 0, .int 0, .int 0, .int 0]) := (a4 1 (by decide) (by decide)).trans ((w1 1 (by decide)).trans h1)
  refine r_putF dX7_init_29 zF_X7_21 (by first | assumption | exact z_put_self) (Nat.le_of_ble_eq_true rfl) ⟨rfl, rfl⟩ rfl ?_
  show Ru _ _ _ _ _ (z_put U1 1 (.inr (8, [.ref 2, .ref 11, .null, .null, .null, .null, .int 0, .int 0, .int 0, .int 0, .int 0, .int 0, .int 0]))) _
  have hX1 := hW.put (x := 1) (c := .inr (8, [.ref 2, .ref 11, .null, .null, .null, .null, .int 0, .int 0, .int 0, .int 0, .int 0, .int 0, .int 0])) (hW.raw hr1 (by decide) (by decide))
  have h2 : (z_put U1 1 (.inr (8, [.ref 2, .ref 11, .null, .null, .null, .null, .int 0, .int 0, .int 0, .int 0, .int 0, .int 0, .int 0]))).2.2 1 = .inr (8, [.ref 2, .ref 11, .null, .null, .null, .null, .int 0, .int 0, .int 0, .int 0, .int 0, .int 0, .int 0]) := z_put_self
  have e2 : (z_put U1 1 (.inr (8, [.ref 2, .ref 11, .null, .null, .null, .null, .int 0, .int 0, .int 0, .int 0, .int 0, .int 0, .int 0]))).1 = 13 := a1
  have o2 : ∀ j, j < 11 → j ≠ 1 → (z_put U1 1 (.inr (8, [.ref 2, .ref 11, .null, .null, .null, .null, .int 0, .int 0, .int 0, .int 0, .int 0, .int 0, .int 0]))).2.2 j = T1.2.2 j := fun j hj hn => (z_put_ne hn).trans ((a4 j (by omega) (by omega)).trans (w1 j hj))
  generalize z_put U1 1 (.inr (8, [.ref 2, .ref 11, .null, .null, .null, .null, .int 0, .int 0, .int 0, .int 0, .int 0, .int 0, .int 0])) = T2 at hX1 h2 e2 o2 ⊢
  have hV2 := hX1
  refine r_aload_n dX7_init_32 (by first | rfl | assumption) ?_
  refine r_new dX7_init_33 zn_X7_25 ?_
  refine r_dup dX7_init_36 rfl ?_
  rw [e2]
  have n2 : (z_new T2 (.inr (7, [.null, .null, .null, .null, .int 0, .long 0, .long 0])) 7).1 = 14 := by show T2.1 + 1 = 14; rw [e2]
  have k2 : (z_new T2 (.inr (7, [.null, .null, .null, .null, .int 0, .long 0, .long 0])) 7).2.2 13 = .inr (7, [.null, .null, .null, .null, .int 0, .long 0, .long 0]) := by have h := @z_new_at T2 7 (.inr (7, [.null, .null, .null, .null, .int 0, .long 0, .long 0])); rw [e2] at h; exact h
  have w2 : ∀ j, j < 13 → (z_new T2 (.inr (7, [.null, .null, .null, .null, .int 0, .long 0, .long 0])) 7).2.2 j = T2.2.2 j := fun j hj => va_up_ne _ _ (by rw [e2]; omega)
  have q2 : (z_new T2 (.inr (7, [.null, .null, .null, .null, .int 0, .long 0, .long 0])) 7).2.1 = T2.2.1 + 7 := rfl
  have hM2 := hV2.more (S1 := z_new T2 (.inr (7, [.null, .null, .null, .null, .int 0, .long 0, .long 0])) 7) (a := 1) (b := 7) rfl rfl (fun j hj _ => va_up_ne _ _ (Nat.ne_of_lt hj))
  generalize z_new T2 (.inr (7, [.null, .null, .null, .null, .int 0, .long 0, .long 0])) 7 = N2 at n2 k2 w2 q2 hM2 ⊢
  refine r_aload_n dX7_init_37 (by first | rfl | assumption) ?_
  refine r_getf dX7_init_38 zf_X7_21 ((by first | exact (w2 1 (by decide)).trans h2)) rfl ?_
  refine r_callI1 dX7_init_41 zm_X7_27 (Nat.le_of_ble_eq_true rfl) (Nat.le_of_ble_eq_true rfl) (C_X6_init (S := N2) (t := 13) (b := 11) k2 (by rw [n2]; decide) hM2) (fun v U2 hv => ?_)
  obtain ⟨rfl, a1, a2, a3, a4, lB9, lI9, hW⟩ := hv
  rw [n2] at a1 a3 a4 hW
  have hr2 : U2.2.2 1 = .inr (8, [.ref 2, .ref 11, .null, .null, .null, .null, .int 0, .int 0, .int 0, .int 0, .int 0, .int 0, .int 0]) := (a4 1 (by decide) (by decide)).trans ((w2 1 (by decide)).trans h2)
  refine r_putF dX7_init_44 zF_X7_30 (by first | assumption | exact z_put_self) (Nat.le_of_ble_eq_true rfl) ⟨rfl, rfl⟩ rfl ?_
  show Ru _ _ _ _ _ (z_put U2 1 (.inr (8, [.ref 2, .ref 11, .ref 13, .null, .null, .null, .int 0, .int 0, .int 0, .int 0, .int 0, .int 0, .int 0]))) _
  have hX2 := hW.put (x := 1) (c := .inr (8, [.ref 2, .ref 11, .ref 13, .null, .null, .null, .int 0, .int 0, .int 0, .int 0, .int 0, .int 0, .int 0])) (hW.raw hr2 (by decide) (by decide))
  have h3 : (z_put U2 1 (.inr (8, [.ref 2, .ref 11, .ref 13, .null, .null, .null, .int 0, .int 0, .int 0, .int 0, .int 0, .int 0, .int 0]))).2.2 1 = .inr (8, [.ref 2, .ref 11, .ref 13, .null, .null, .null, .int 0, .int 0, .int 0, .int 0, .int 0, .int 0, .int 0]) := z_put_self
  have e3 : (z_put U2 1 (.inr (8, [.ref 2, .ref 11, .ref 13, .null, .null, .null, .int 0, .int 0, .int 0, .int 0, .int 0, .int 0, .int 0]))).1 = 20 := a1
  have o3 : ∀ j, j < 13 → j ≠ 1 → (z_put U2 1 (.inr (8, [.ref 2, .ref 11, .ref 13, .null, .null, .null, .int 0, .int 0, .int 0, .int 0, .int 0, .int 0, .int 0]))).2.2 j = T2.2.2 j := fun j hj hn => (z_put_ne hn).trans ((a4 j (by omega) (by omega)).trans (w2 j hj))
  have f3 : (z_put U2 1 (.inr (8, [.ref 2, .ref 11, .ref 13, .null, .null, .null, .int 0, .int 0, .int 0, .int 0, .int 0, .int 0, .int 0]))).2.2 13 = .inr (7, tF 11 14 16 18 0 0 0) := (z_put_ne (by decide)).trans a3
  generalize z_put U2 1 (.inr (8, [.ref 2, .ref 11, .ref 13, .null, .null, .null, .int 0, .int 0, .int 0, .int 0, .int 0, .int 0, .int 0])) = T3 at hX2 h3 e3 o3 f3 ⊢
  have hV3 := hX2
  refine r_aload_n dX7_init_47 (by first | rfl | assumption) ?_
  refine r_new dX7_init_48 zn_X7_34 ?_
  refine r_dup dX7_init_51 rfl ?_
  rw [e3]
  have n3 : (z_new T3 (.inr (4, [.null, .int 0])) 2).1 = 21 := by show T3.1 + 1 = 21; rw [e3]
  have k3 : (z_new T3 (.inr (4, [.null, .int 0])) 2).2.2 20 = .inr (4, [.null, .int 0]) := by have h := @z_new_at T3 2 (.inr (4, [.null, .int 0])); rw [e3] at h; exact h
  have w3 : ∀ j, j < 20 → (z_new T3 (.inr (4, [.null, .int 0])) 2).2.2 j = T3.2.2 j := fun j hj => va_up_ne _ _ (by rw [e3]; omega)
  have q3 : (z_new T3 (.inr (4, [.null, .int 0])) 2).2.1 = T3.2.1 + 2 := rfl
  have hM3 := hV3.more (S1 := z_new T3 (.inr (4, [.null, .int 0])) 2) (a := 1) (b := 2) rfl rfl (fun j hj _ => va_up_ne _ _ (Nat.ne_of_lt hj))
  generalize z_new T3 (.inr (4, [.null, .int 0])) 2 = N3 at n3 k3 w3 q3 hM3 ⊢
  refine r_callI0 dX7_init_52 zm_X7_36 (Nat.le_of_ble_eq_true rfl) (Nat.le_of_ble_eq_true rfl) (C_X3_init (S := N3) (t := 20) k3 (by rw [n3]; decide) hM3) (fun v U3 hv => ?_)
  obtain ⟨rfl, a3, a4, E9, lB9, lI9, aP, hW⟩ := hv
  rw [n3] at a3 a4 aP
  have a1 : U3.1 = 162 := aP.1
  have hr3 : U3.2.2 1 = .inr (8, [.ref 2, .ref 11, .ref 13, .null, .null, .null, .int 0, .int 0, .int 0, .int 0, .int 0, .int 0, .int 0]) := (a4 1 (by decide) (by decide)).trans ((w3 1 (by decide)).trans h3)
  refine r_putF dX7_init_55 zF_X7_37 (by first | assumption | exact z_put_self) (Nat.le_of_ble_eq_true rfl) ⟨rfl, rfl⟩ rfl ?_
  show Ru _ _ _ _ _ (z_put U3 1 (.inr (8, [.ref 2, .ref 11, .ref 13, .ref 20, .null, .null, .int 0, .int 0, .int 0, .int 0, .int 0, .int 0, .int 0]))) _
  have hX3 := hW.put (x := 1) (c := .inr (8, [.ref 2, .ref 11, .ref 13, .ref 20, .null, .null, .int 0, .int 0, .int 0, .int 0, .int 0, .int 0, .int 0])) (hW.raw hr3 (by decide) (by decide))
  have h4 : (z_put U3 1 (.inr (8, [.ref 2, .ref 11, .ref 13, .ref 20, .null, .null, .int 0, .int 0, .int 0, .int 0, .int 0, .int 0, .int 0]))).2.2 1 = .inr (8, [.ref 2, .ref 11, .ref 13, .ref 20, .null, .null, .int 0, .int 0, .int 0, .int 0, .int 0, .int 0, .int 0]) := z_put_self
  have e4 : (z_put U3 1 (.inr (8, [.ref 2, .ref 11, .ref 13, .ref 20, .null, .null, .int 0, .int 0, .int 0, .int 0, .int 0, .int 0, .int 0]))).1 = 162 := a1
  have o4 : ∀ j, j < 20 → j ≠ 1 → (z_put U3 1 (.inr (8, [.ref 2, .ref 11, .ref 13, .ref 20, .null, .null, .int 0, .int 0, .int 0, .int 0, .int 0, .int 0, .int 0]))).2.2 j = T3.2.2 j := fun j hj hn => (z_put_ne hn).trans ((a4 j (by omega) (by omega)).trans (w3 j hj))
  have f4 : (z_put U3 1 (.inr (8, [.ref 2, .ref 11, .ref 13, .ref 20, .null, .null, .int 0, .int 0, .int 0, .int 0, .int 0, .int 0, .int 0]))).2.2 20 = .inr (4, [.ref 21, .int 0]) := (z_put_ne (by decide)).trans a3
  have aA : ∃ g, (z_put U3 1 (.inr (8, [.ref 2, .ref 11, .ref 13, .ref 20, .null, .null, .int 0, .int 0, .int 0, .int 0, .int 0, .int 0, .int 0]))).2.2 21 = .inl (.object "MacroReader$Part", 20, .inr (.inr (.inr (.inr g)))) ∧ ∀ j, j < 20 → g j = some (ptN j) := by obtain ⟨g, q1, q2⟩ := aP.2.2.1; exact ⟨g, (z_put_ne (by decide)).trans q1, q2⟩
  have aQ : ∀ j, j < 20 → (z_put U3 1 (.inr (8, [.ref 2, .ref 11, .ref 13, .ref 20, .null, .null, .int 0, .int 0, .int 0, .int 0, .int 0, .int 0, .int 0]))).2.2 (ptN j) = pcl p00 j := fun j hj => by
    have q := (aP.2.2.2.1 j hj).1
    refine (z_put_ne (by unfold ptN; omega)).trans (q.trans ?_)
    show pt0 (21 + 1 + 7 * j) = _
    unfold pt0 pcl p00 pF
    rw [show 21 + 1 + 7 * j + 1 = 23 + 7 * j by omega, show 21 + 1 + 7 * j + 3 = 25 + 7 * j by omega, show 21 + 1 + 7 * j + 5 = 27 + 7 * j by omega]
    rfl
  have aE := fun j hj => (aP.2.2.2.1 j hj).2
  have aF := aP.2.2.2.2
  generalize z_put U3 1 (.inr (8, [.ref 2, .ref 11, .ref 13, .ref 20, .null, .null, .int 0, .int 0, .int 0, .int 0, .int 0, .int 0, .int 0])) = T4 at hX3 h4 e4 o4 f4 aA aQ ⊢
  have hV4 := hX3
  refine r_aload_n dX7_init_58 (by first | rfl | assumption) ?_
  refine r_new dX7_init_59 zn_X7_41 ?_
  refine r_dup dX7_init_62 rfl ?_
  rw [e4]
  have n4 : (z_new T4 (.inr (0, [.int 0, .null, .int 0])) 3).1 = 163 := by show T4.1 + 1 = 163; rw [e4]
  have k4 : (z_new T4 (.inr (0, [.int 0, .null, .int 0])) 3).2.2 162 = .inr (0, [.int 0, .null, .int 0]) := by have h := @z_new_at T4 3 (.inr (0, [.int 0, .null, .int 0])); rw [e4] at h; exact h
  have w4 : ∀ j, j < 162 → (z_new T4 (.inr (0, [.int 0, .null, .int 0])) 3).2.2 j = T4.2.2 j := fun j hj => va_up_ne _ _ (by rw [e4]; omega)
  have q4 : (z_new T4 (.inr (0, [.int 0, .null, .int 0])) 3).2.1 = T4.2.1 + 3 := rfl
  have hM4 := hV4.more (S1 := z_new T4 (.inr (0, [.int 0, .null, .int 0])) 3) (a := 1) (b := 3) rfl rfl (fun j hj _ => va_up_ne _ _ (Nat.ne_of_lt hj))
  generalize z_new T4 (.inr (0, [.int 0, .null, .int 0])) 3 = N4 at n4 k4 w4 q4 hM4 ⊢
  refine r_callI0 dX7_init_63 zm_X7_43 (Nat.le_of_ble_eq_true rfl) (Nat.le_of_ble_eq_true rfl) (C_al_init (S := N4) (al := 162) k4) (fun v U4 hv => ?_)
  obtain ⟨rfl, hU4⟩ := hv
  have a1 : U4.1 = 163 := by rw [hU4]; exact n4
  have a3 : U4.2.2 162 = .inr (0, [.int 0, .retAddr 50, .int 0]) := by rw [hU4]; exact z_put_self
  have a4 : ∀ j, j < 163 → j ≠ 162 → U4.2.2 j = N4.2.2 j := fun j hj hn => by rw [hU4]; exact va_up_ne _ _ hn
  have hW := hM4.put (x := 162) (c := .inr (0, [.int 0, .retAddr 50, .int 0])) (hM4.raw k4 (by decide) (by decide))
  rw [← hU4] at hW
  have hr4 : U4.2.2 1 = .inr (8, [.ref 2, .ref 11, .ref 13, .ref 20, .null, .null, .int 0, .int 0, .int 0, .int 0, .int 0, .int 0, .int 0]) := (a4 1 (by decide) (by decide)).trans ((w4 1 (by decide)).trans h4)
  refine r_putF dX7_init_66 zF_X7_44 (by first | assumption | exact z_put_self) (Nat.le_of_ble_eq_true rfl) ⟨rfl, rfl⟩ rfl ?_
  show Ru _ _ _ _ _ (z_put U4 1 (.inr (8, [.ref 2, .ref 11, .ref 13, .ref 20, .ref 162, .null, .int 0, .int 0, .int 0, .int 0, .int 0, .int 0, .int 0]))) _
  have hX4 := hW.put (x := 1) (c := .inr (8, [.ref 2, .ref 11, .ref 13, .ref 20, .ref 162, .null, .int 0, .int 0, .int 0, .int 0, .int 0, .int 0, .int 0])) (hW.raw hr4 (by decide) (by decide))
  have h5 : (z_put U4 1 (.inr (8, [.ref 2, .ref 11, .ref 13, .ref 20, .ref 162, .null, .int 0, .int 0, .int 0, .int 0, .int 0, .int 0, .int 0]))).2.2 1 = .inr (8, [.ref 2, .ref 11, .ref 13, .ref 20, .ref 162, .null, .int 0, .int 0, .int 0, .int 0, .int 0, .int 0, .int 0]) := z_put_self
  have e5 : (z_put U4 1 (.inr (8, [.ref 2, .ref 11, .ref 13, .ref 20, .ref 162, .null, .int 0, .int 0, .int 0, .int 0, .int 0, .int 0, .int 0]))).1 = 163 := a1
  have o5 : ∀ j, j < 162 → j ≠ 1 → (z_put U4 1 (.inr (8, [.ref 2, .ref 11, .ref 13, .ref 20, .ref 162, .null, .int 0, .int 0, .int 0, .int 0, .int 0, .int 0, .int 0]))).2.2 j = T4.2.2 j := fun j hj hn => (z_put_ne hn).trans ((a4 j (by omega) (by omega)).trans (w4 j hj))
  have f5 : (z_put U4 1 (.inr (8, [.ref 2, .ref 11, .ref 13, .ref 20, .ref 162, .null, .int 0, .int 0, .int 0, .int 0, .int 0, .int 0, .int 0]))).2.2 162 = .inr (0, [.int 0, .retAddr 50, .int 0]) := (z_put_ne (by decide)).trans a3
  generalize z_put U4 1 (.inr (8, [.ref 2, .ref 11, .ref 13, .ref 20, .ref 162, .null, .int 0, .int 0, .int 0, .int 0, .int 0, .int 0, .int 0])) = T5 at hX4 h5 e5 o5 f5 ⊢
  have hV5 := hX4
  refine r_aload_n dX7_init_69 (by first | rfl | assumption) ?_
  refine r_new dX7_init_70 zn_X7_16 ?_
  refine r_dup dX7_init_73 rfl ?_
  rw [e5]
  have n5 : (z_new T5 (.inr (1, [.int 0, .null, .int 0])) 3).1 = 164 := by show T5.1 + 1 = 164; rw [e5]
  have k5 : (z_new T5 (.inr (1, [.int 0, .null, .int 0])) 3).2.2 163 = .inr (1, [.int 0, .null, .int 0]) := by have h := @z_new_at T5 3 (.inr (1, [.int 0, .null, .int 0])); rw [e5] at h; exact h
  have w5 : ∀ j, j < 163 → (z_new T5 (.inr (1, [.int 0, .null, .int 0])) 3).2.2 j = T5.2.2 j := fun j hj => va_up_ne _ _ (by rw [e5]; omega)
  have q5 : (z_new T5 (.inr (1, [.int 0, .null, .int 0])) 3).2.1 = T5.2.1 + 3 := rfl
  have hM5 := hV5.more (S1 := z_new T5 (.inr (1, [.int 0, .null, .int 0])) 3) (a := 1) (b := 3) rfl rfl (fun j hj _ => va_up_ne _ _ (Nat.ne_of_lt hj))
  generalize z_new T5 (.inr (1, [.int 0, .null, .int 0])) 3 = N5 at n5 k5 w5 q5 hM5 ⊢
  refine r_sp (256) dX7_init_74 rfl ?_
  refine r_ldc dX7_init_77 zk_X7_48 ?_
  refine r_callI2 dX7_init_79 zm_X7_18 (Nat.le_of_ble_eq_true rfl) (Nat.le_of_ble_eq_true rfl) (C_X0_init (S := N5) (b := 163) (f := 256) (l := 65536) k5 (by rw [n5]; decide) (by decide) (by decide)) (fun v U5 hv => ?_)
  obtain ⟨rfl, a0, a1, a2, a4⟩ := hv
  rw [n5] at a0 a1
  have a4 : ∀ j, j < 164 → j ≠ 163 → U5.2.2 j = N5.2.2 j := fun j hj hn => a4.2.2 j (by rw [n5]; exact hj) (fun z => hn (List.mem_singleton.mp z))
  have hW := hV5.newB (S1 := U5) (o := 163) (r := 164) (f := 256) (lim := 65536) (a := 2) (b := 259) (by rw [a1, e5]) (by rw [a2, q5, Nat.add_assoc]) (fun j hj _ => by rw [e5] at hj; exact (a4 j (by omega) (by omega)).trans (w5 j hj)) a0 (by rw [e5]; decide) (by rw [e5]; decide) (by rw [a1]; decide) (by rw [a1]; decide)
  have hr5 : U5.2.2 1 = .inr (8, [.ref 2, .ref 11, .ref 13, .ref 20, .ref 162, .null, .int 0, .int 0, .int 0, .int 0, .int 0, .int 0, .int 0]) := (a4 1 (by decide) (by decide)).trans ((w5 1 (by decide)).trans h5)
  refine r_putf dX7_init_82 zf_X7_49 (by first | assumption | exact z_put_self) (Nat.le_of_ble_eq_true rfl) ⟨rfl, rfl⟩ ?_
  show Ru _ _ _ _ _ (z_put U5 1 (.inr (8, [.ref 2, .ref 11, .ref 13, .ref 20, .ref 162, .ref 163, .int 0, .int 0, .int 0, .int 0, .int 0, .int 0, .int 0]))) _
  have hX5 := hW.put (x := 1) (c := .inr (8, [.ref 2, .ref 11, .ref 13, .ref 20, .ref 162, .ref 163, .int 0, .int 0, .int 0, .int 0, .int 0, .int 0, .int 0])) (hW.raw hr5 (by decide) (by decide))
  have h6 : (z_put U5 1 (.inr (8, [.ref 2, .ref 11, .ref 13, .ref 20, .ref 162, .ref 163, .int 0, .int 0, .int 0, .int 0, .int 0, .int 0, .int 0]))).2.2 1 = .inr (8, [.ref 2, .ref 11, .ref 13, .ref 20, .ref 162, .ref 163, .int 0, .int 0, .int 0, .int 0, .int 0, .int 0, .int 0]) := z_put_self
  have e6 : (z_put U5 1 (.inr (8, [.ref 2, .ref 11, .ref 13, .ref 20, .ref 162, .ref 163, .int 0, .int 0, .int 0, .int 0, .int 0, .int 0, .int 0]))).1 = 165 := a1
  have o6 : ∀ j, j < 163 → j ≠ 1 → (z_put U5 1 (.inr (8, [.ref 2, .ref 11, .ref 13, .ref 20, .ref 162, .ref 163, .int 0, .int 0, .int 0, .int 0, .int 0, .int 0, .int 0]))).2.2 j = T5.2.2 j := fun j hj hn => (z_put_ne hn).trans ((a4 j (by omega) (by omega)).trans (w5 j hj))
  generalize z_put U5 1 (.inr (8, [.ref 2, .ref 11, .ref 13, .ref 20, .ref 162, .ref 163, .int 0, .int 0, .int 0, .int 0, .int 0, .int 0, .int 0])) = T6 at hX5 h6 e6 o6 ⊢
  have hV6 := hX5
  refine r_return dX7_init_85 rfl ⟨rfl, e6, ⟨h6, ?_, ?_, ⟨?_, ?_, Nat.zero_le _⟩, ?_, ⟨?_, Nat.zero_le _, by decide, Or.inl ⟨rfl, rfl⟩⟩, fun q hq => (by cases hq)⟩, _, _, _, _, _, hV6, ?_, ?_, ?_⟩
  · exact (o6 2 (by decide) (by decide)).trans ((o5 2 (by decide) (by decide)).trans ((o4 2 (by decide) (by decide)).trans ((o3 2 (by decide) (by decide)).trans ((o2 2 (by decide) (by decide)).trans f1))))
  · exact (o6 13 (by decide) (by decide)).trans ((o5 13 (by decide) (by decide)).trans ((o4 13 (by decide) (by decide)).trans f3))
  · exact (o6 20 (by decide) (by decide)).trans ((o5 20 (by decide) (by decide)).trans f4)
  · obtain ⟨g, q1, q2⟩ := aA
    exact ⟨g, (o6 21 (by decide) (by decide)).trans ((o5 21 (by decide) (by decide)).trans q1), q2⟩
  · intro j hj
    have := ptN_lt hj
    exact (o6 _ (by unfold ptN; omega) (by omega)).trans ((o5 _ (by unfold ptN; omega) (by omega)).trans (aQ j hj))
  · exact (o6 162 (by decide) (by decide)).trans f5
  · have x9 : va_up E9.1 163 (some (65536, [])) 9 = some (65536, []) := (va_up_ne _ _ (by decide)).trans ((aF 9 (by decide)).1.trans rfl)
    have x163 : va_up E9.1 163 (some (65536, ([] : List Nat))) 163 = some (65536, []) := va_up_self _ _ _
    have x11 : va_up E9.1 163 (some (65536, [])) 11 = some (1024, []) := (va_up_ne _ _ (by decide)).trans ((aF 11 (by decide)).1.trans rfl)
    have xp : ∀ j, j < 20 → va_up E9.1 163 (some (65536, [])) (23 + 7 * j) = some (1024, []) := fun j hj => (va_up_ne _ _ (by omega)).trans (aE j hj).1
    exact ⟨Or.inl ⟨rfl, rfl⟩, x9, x163, x11, (aF 3 (by decide)).2.trans rfl, (aF 5 (by decide)).2.trans rfl, (aF 7 (by decide)).2.trans rfl, ⟨(aF 14 (by decide)).2.trans rfl, (aF 16 (by decide)).2.trans rfl, (aF 18 (by decide)).2.trans rfl⟩, fun j hj => ⟨xp j hj, (aE j hj).2.1, (aE j hj).2.2⟩, fun q hq => (by cases hq)⟩
  · exact Nat.le_of_ble_eq_true rfl
  · exact Nat.le_of_ble_eq_true rfl
end
