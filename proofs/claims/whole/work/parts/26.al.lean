/-! java.util.ArrayList, as the class uses it: constant 50 is the empty row that it begins with -/
def isA (S : zS) (al : Nat) (mc : Int32) (ev : Value) (cap : Nat) (ms : List Nat) : Prop := S.2.2 al = .inr (0, [.int mc, ev, .int (nI ms.length)]) ∧ ms.length ≤ cap ∧ cap ≤ 2 ^ 20 ∧ ((ev = .retAddr 50 ∧ cap = 0) ∨ ∃ (ea : Nat) (g : Nat → Option Nat), ev = .ref ea ∧ 10 ≤ cap ∧ ea < S.1 ∧ S.2.2 ea = .inl (.object "java/lang/Object", cap, .inr (.inr (.inr (.inr g)))) ∧ ∀ j, j < ms.length → g j = some (ms.getD j 0))
/-- the cells of a list -/
def aCl (ev : Value) (al j : Nat) : Prop := j = al ∨ ev = .ref j
theorem sub9 (a b : Int32) : a + b - a = b := by
  apply Int32.toBitVec_inj.mp
  rw [Int32.toBitVec_sub, Int32.toBitVec_add]
  bv_omega
theorem shr9 {n : Nat} (h : n < 2 ^ 30) : (nI n >>> ((1 : Int32) &&& 31) : Int32) = nI (n / 2) := by
  apply Int32.toBitVec_inj.mp
  rw [Int32.toBitVec_shiftRight]
  have e1 : ((1 : Int32) &&& 31).toBitVec.smod 32 = 1#32 := by decide
  rw [e1]
  show (BitVec.ofNat 32 n).sshiftRight (1#32).toNat = BitVec.ofNat 32 (n / 2)
  rw [BitVec.sshiftRight_eq_of_msb_false (by rw [BitVec.msb_eq_false_iff_two_mul_lt, BitVec.toNat_ofNat, Nat.mod_eq_of_lt (by omega)]; omega)]
  apply BitVec.eq_of_toNat_eq
  simp only [BitVec.toNat_ushiftRight, BitVec.toNat_ofNat]
  rw [Nat.mod_eq_of_lt (show n < 2 ^ 32 by omega), Nat.mod_eq_of_lt (show n / 2 < 2 ^ 32 by omega)]
  exact Nat.shiftRight_eq_div_pow n 1
theorem gD_mem {l : List Nat} {j : Nat} (h : j < l.length) : l.getD j 0 ∈ l := by
  rw [List.getD_eq_getElem?_getD, List.getElem?_eq_getElem h]
  exact List.getElem_mem h
section
variable {d : Nat} {S : zS} {al cap : Nat} {mc : Int32} {ev : Value} {ms : List Nat}
theorem C_al_size (h : isA S al mc ev cap ms) : Rc d mJx4a65c_size_8abf5 [.ref al] S (fun v S1 => S1 = S ∧ v = some (.int (nI ms.length))) := by
  have h1 := h.1
  refine Rc.of ?_
  refine r_aload_n dJx4a65c_size_8abf5_0 (by first | rfl | assumption) ?_
  refine r_getf dJx4a65c_size_8abf5_1 zf_Jx4a65c_48 (by first | assumption | exact z_put_self) rfl ?_
  refine r_ireturn dJx4a65c_size_8abf5_4 _ rfl rfl ⟨rfl, rfl⟩
theorem C_chk0 {i n : Nat} (hi : i < n) (hn : n < 2 ^ 31) : Rc d mJ3_checkIndex_8e157 [.int (nI i), .int (nI n), .null] S (fun v S1 => S1 = S ∧ v = some (.int (nI i))) := by
  refine Rc.of ?_
  refine r_iload_n dJ3_checkIndex_8e157_0 (by first | rfl | assumption) ?_
  refine r_if_lt_f (tgt := 9) dJ3_checkIndex_8e157_1 (by decide) (nI_pos (by omega)) ?_
  refine r_iload_n dJ3_checkIndex_8e157_4 (by first | rfl | assumption) ?_
  refine r_iload_n dJ3_checkIndex_8e157_5 (by first | rfl | assumption) ?_
  refine r_icmp_lt_t (tgt := 16) dJ3_checkIndex_8e157_6 (by decide) (nI_lt hi hn) ?_
  refine r_iload_n dJ3_checkIndex_8e157_16 (by first | rfl | assumption) ?_
  refine r_ireturn dJ3_checkIndex_8e157_17 _ rfl rfl ⟨rfl, rfl⟩
theorem C_chk1 {i n : Nat} (hi : i < n) (hn : n < 2 ^ 31) : Rc (d + 1) mJ15_checkIndex_7cf53 [.int (nI i), .int (nI n)] S (fun v S1 => S1 = S ∧ v = some (.int (nI i))) := by
  refine Rc.of ?_
  refine r_iload_n dJ15_checkIndex_7cf53_0 (by first | rfl | assumption) ?_
  refine r_iload_n dJ15_checkIndex_7cf53_1 (by first | rfl | assumption) ?_
  refine r_aconst dJ15_checkIndex_7cf53_2 ?_
  refine r_callS3 dJ15_checkIndex_7cf53_3 zm_J15_105 (Nat.le_of_ble_eq_true rfl) (Nat.le_of_ble_eq_true rfl) (C_chk0 hi hn) (fun v S1 hv => ?_)
  obtain ⟨rfl, rfl⟩ := hv
  refine r_ireturn dJ15_checkIndex_7cf53_6 _ rfl rfl ⟨rfl, rfl⟩
theorem C_al_get {i : Nat} (h : isA S al mc ev cap ms) (hi : i < ms.length) : Rc (d + 2) mJx4a65c_get_915e3 [.ref al, .int (nI i)] S (fun v S1 => S1 = S ∧ v = some (.ref (ms.getD i 0))) := by
  have h1 := h.1
  obtain ⟨-, h2, h3, ⟨-, hc⟩ | ⟨ea, g, rfl, h4, h5, h6, h7⟩⟩ := h
  · omega
  refine Rc.of ?_
  refine r_iload_n dJx4a65c_get_915e3_0 (by first | rfl | assumption) ?_
  refine r_aload_n dJx4a65c_get_915e3_1 (by first | rfl | assumption) ?_
  refine r_getf dJx4a65c_get_915e3_2 zf_Jx4a65c_48 (by first | assumption | exact z_put_self) rfl ?_
  refine r_callS2 dJx4a65c_get_915e3_5 zm_Jx4a65c_118 (Nat.le_of_ble_eq_true rfl) (Nat.le_of_ble_eq_true rfl) (C_chk1 hi (by omega)) (fun v S1 hv => ?_)
  obtain ⟨rfl, rfl⟩ := hv
  refine r_pop dJx4a65c_get_915e3_8 rfl ?_
  refine r_aload_n dJx4a65c_get_915e3_9 (by first | rfl | assumption) ?_
  refine r_iload_n dJx4a65c_get_915e3_10 (by first | rfl | assumption) ?_
  have hel : Rc (d + 1) mJx4a65c_elementData_915e3 [.ref al, .int (nI i)] S1 (fun v S2 => S2 = S1 ∧ v = some (.ref (ms.getD i 0))) := by
    refine Rc.of ?_
    refine r_aload_n dJx4a65c_elementData_915e3_0 (by first | rfl | assumption) ?_
    refine r_getf dJx4a65c_elementData_915e3_1 zf_Jx4a65c_9 (by first | assumption | exact z_put_self) rfl ?_
    refine r_iload_n dJx4a65c_elementData_915e3_4 (by first | rfl | assumption) ?_
    refine r_aald dJx4a65c_elementData_915e3_5 (by assumption) (vp_in_nI (show i < cap by omega) (by omega)) rfl ?_
    rw [show va_rf (g (nI i).toNatClampNeg) = .ref (ms.getD i 0) by rw [nI_clamp (by omega), h7 i hi]; rfl]
    refine r_areturn dJx4a65c_elementData_915e3_6 _ rfl (by first | exact Or.inl ⟨_, rfl⟩ | exact Or.inr ⟨_, rfl⟩) (by first | exact Or.inr (Or.inl ⟨_, rfl⟩) | exact Or.inl rfl | exact Or.inr (Or.inr ⟨_, rfl⟩)) ⟨rfl, rfl⟩
  refine r_callV1 dJx4a65c_get_915e3_11 zm_Jx4a65c_123 (by assumption) rfl (Nat.le_of_ble_eq_true rfl) (Nat.le_of_ble_eq_true rfl) (hel) (fun v S2 hv => ?_)
  obtain ⟨rfl, rfl⟩ := hv
  refine r_areturn dJx4a65c_get_915e3_14 _ rfl (by first | exact Or.inl ⟨_, rfl⟩ | exact Or.inr ⟨_, rfl⟩) (by first | exact Or.inr (Or.inl ⟨_, rfl⟩) | exact Or.inl rfl | exact Or.inr (Or.inr ⟨_, rfl⟩)) ⟨rfl, rfl⟩
/-- what add may make: a larger row -/
def alN (c : Nat) : Nat := if c = 0 then 10 else c + c / 2
theorem C_absc : Rc (d + 1) mJxa1e45_init_da8c8 [.ref al] S (fun v S1 => v = none ∧ S1 = S) := by
  refine Rc.of ?_
  refine r_aload_n dJxa1e45_init_da8c8_0 (by first | rfl | assumption) ?_
  refine r_objInit dJxa1e45_init_da8c8_1 zo_Jxa1e45_1 (by decide) ?_
  refine r_return dJxa1e45_init_da8c8_4 rfl ⟨rfl, rfl⟩
theorem C_absl {v1 v2 : Value} {v0 : Int32} (h : S.2.2 al = .inr (0, [.int v0, v1, v2])) : Rc (d + 2) mJxc12de_init_da8c8 [.ref al] S (fun v S1 => v = none ∧ S1 = z_put S al (.inr (0, [.int 0, v1, v2]))) := by
  refine Rc.of ?_
  refine r_aload_n dJxc12de_init_da8c8_0 (by first | rfl | assumption) ?_
  refine r_callI0 dJxc12de_init_da8c8_1 zm_Jxc12de_1 (Nat.le_of_ble_eq_true rfl) (Nat.le_of_ble_eq_true rfl) (C_absc) (fun v S1 hv => ?_)
  obtain ⟨rfl, rfl⟩ := hv
  refine r_aload_n dJxc12de_init_da8c8_4 (by first | rfl | assumption) ?_
  refine r_ic (0) dJxc12de_init_da8c8_5 rfl ?_
  refine r_pfm dJxc12de_init_da8c8_6 zl_Jxc12de_7 h (Nat.le_of_ble_eq_true rfl) ?_
  refine r_return dJxc12de_init_da8c8_9 rfl ⟨rfl, rfl⟩
theorem C_al_init (h : S.2.2 al = .inr (0, [.int 0, .null, .int 0])) : Rc (d + 3) mJx4a65c_init_da8c8 [.ref al] S (fun v S1 => v = none ∧ S1 = z_put S al (.inr (0, [.int 0, .retAddr 50, .int 0]))) := by
  refine Rc.of ?_
  refine r_aload_n dJx4a65c_init_da8c8_0 (by first | rfl | assumption) ?_
  refine r_callI0 dJx4a65c_init_da8c8_1 zm_Jx4a65c_1 (Nat.le_of_ble_eq_true rfl) (Nat.le_of_ble_eq_true rfl) (C_absl h) (fun v S1 hv => ?_)
  obtain ⟨rfl, rfl⟩ := hv
  refine r_aload_n dJx4a65c_init_da8c8_4 (by first | rfl | assumption) ?_
  refine r_gsD dJx4a65c_init_da8c8_5 zl_Jx4a65c_39 ?_
  refine r_putS dJx4a65c_init_da8c8_8 zf_Jx4a65c_9 (va_up_self _ _ _) (Nat.le_of_ble_eq_true rfl) (Or.inl ⟨_, rfl⟩) ?_
  rw [z_put_put]
  refine r_return dJx4a65c_init_da8c8_11 rfl ⟨rfl, rfl⟩
set_option maxHeartbeats 1000000 in
theorem C_al_clear (h : isA S al mc ev cap ms) (hal : al < S.1) : Rc (d + 2) mJx4a65c_clear_da8c8 [.ref al] S (fun v S1 => v = none ∧ ∃ mc', isA S1 al mc' ev cap [] ∧ S1.1 = S.1 ∧ S1.2.1 = S.2.1 ∧ ∀ j, ¬ aCl ev al j → S1.2.2 j = S.2.2 j) := by
  have h1 := h.1
  have h4 := h.2.2.2
  have loop : ∀ (k i : Nat) (S2 : zS) (L : Nat → Option Value), i + k = ms.length → S2.2.2 al = .inr (0, [.int (mc + 1), ev, .int 0]) → S2.1 = S.1 → S2.2.1 = S.2.1 → (∀ j, ¬ aCl ev al j → S2.2.2 j = S.2.2 j) → (∀ ea, ev = .ref ea → ∃ g, S2.2.2 ea = .inl (.object "java/lang/Object", cap, .inr (.inr (.inr (.inr g))))) → (k = 0 ∨ ∃ ea, ev = .ref ea ∧ L 1 = some (.ref ea) ∧ ms.length ≤ cap) → L 2 = some (.int (nI ms.length)) → L 3 = some (.int (nI i)) → Ru (d + 2) mJx4a65c_clear_da8c8 27 L [] S2 (z_en mJx4a65c_clear_da8c8 (fun v S1 => v = none ∧ ∃ mc', isA S1 al mc' ev cap [] ∧ S1.1 = S.1 ∧ S1.2.1 = S.2.1 ∧ ∀ j, ¬ aCl ev al j → S1.2.2 j = S.2.2 j)) := by
    intro k
    have hml : ms.length < 2 ^ 31 := by have := h.2.1; have := h.2.2.1; omega
    induction k with
    | zero =>
      intro i S2 L hi c1 c2 c3 c4 c5 c6 l2 l3
      refine r_iload_n dJx4a65c_clear_da8c8_27 (by first | rfl | assumption) ?_
      refine r_iload_n dJx4a65c_clear_da8c8_28 (by first | rfl | assumption) ?_
      refine r_icmp_ge_t (tgt := 42) dJx4a65c_clear_da8c8_29 (by decide) (nI_le (a := ms.length) (b := i) (by omega) (by omega)) ?_
      refine r_return dJx4a65c_clear_da8c8_42 rfl ⟨rfl, mc + 1, ⟨c1, Nat.zero_le _, h.2.2.1, ?_⟩, c2, c3, c4⟩
      rcases h4 with q | ⟨ea, g, rfl, q1, q2, q3, -⟩
      · exact Or.inl q
      · obtain ⟨g2, q5⟩ := c5 ea rfl
        exact Or.inr ⟨ea, g2, rfl, q1, by rw [c2]; exact q2, q5, fun j hj => absurd hj (Nat.not_lt_zero _)⟩
    | succ k ih =>
      intro i S2 L hi c1 c2 c3 c4 c5 c6 l2 l3
      rcases c6 with c6 | ⟨ea, rfl, l1, hcp⟩
      · cases c6
      obtain ⟨g2, q5⟩ := c5 ea rfl
      have hne : al ≠ ea := fun q => by rw [← q, c1] at q5; cases q5
      refine r_iload_n dJx4a65c_clear_da8c8_27 (by first | rfl | assumption) ?_
      refine r_iload_n dJx4a65c_clear_da8c8_28 (by first | rfl | assumption) ?_
      refine r_icmp_ge_f (tgt := 42) dJx4a65c_clear_da8c8_29 (by decide) (nI_ge (a := i) (b := ms.length) (by omega) hml) ?_
      refine r_aload_n dJx4a65c_clear_da8c8_32 (by first | rfl | assumption) ?_
      refine r_iload_n dJx4a65c_clear_da8c8_33 (by first | rfl | assumption) ?_
      refine r_aconst dJx4a65c_clear_da8c8_34 ?_
      refine r_aastN dJx4a65c_clear_da8c8_35 q5 (vp_in_nI (show i < cap by omega) (by have := h.2.2.1; omega)) ?_
      refine r_inc (nI (i + 1)) dJx4a65c_clear_da8c8_36 (by first | rfl | assumption) (by decide) (by first | assumption | exact z_c1_i (by first | rfl | assumption) | exact z_c1_r (by first | rfl | assumption) | exact z_c1_n (by first | rfl | assumption) | exact z_c1_c (by first | rfl | assumption) | exact z_c1_0 (by first | rfl | assumption)) (nI_1 _) ?_
      refine r_goto (tgt := 27) dJx4a65c_clear_da8c8_39 (by decide) ?_
      refine ih (i + 1) _ _ (by omega) ((va_up_ne _ _ hne).trans c1) c2 c3 (fun j hj => (va_up_ne _ _ (fun q => hj (Or.inr (by rw [q])))).trans (c4 j hj)) (fun ea2 he => ?_) (Or.inr ⟨ea, rfl, l1, hcp⟩) l2 rfl
      cases he
      exact ⟨_, va_up_self _ _ _⟩
  refine Rc.of ?_
  refine r_aload_n dJx4a65c_clear_da8c8_0 (by first | rfl | assumption) ?_
  refine r_dup dJx4a65c_clear_da8c8_1 rfl ?_
  refine r_gfm dJx4a65c_clear_da8c8_2 zl_Jx4a65c_63 h1 rfl ?_
  refine r_ic (1) dJx4a65c_clear_da8c8_5 rfl ?_
  refine r_iadd dJx4a65c_clear_da8c8_6 ?_
  refine r_pfm dJx4a65c_clear_da8c8_7 zl_Jx4a65c_63 h1 (Nat.le_of_ble_eq_true rfl) ?_
  have e1 : (z_put S al (.inr (0, [.int (mc + 1), ev, .int (nI ms.length)]))).2.2 al = .inr (0, [.int (mc + 1), ev, .int (nI ms.length)]) := va_up_self _ _ _
  have e2 : ∀ j, j ≠ al → (z_put S al (.inr (0, [.int (mc + 1), ev, .int (nI ms.length)]))).2.2 j = S.2.2 j := fun j hj => va_up_ne _ _ hj
  have e3 : (z_put S al (.inr (0, [.int (mc + 1), ev, .int (nI ms.length)]))).1 = S.1 ∧ (z_put S al (.inr (0, [.int (mc + 1), ev, .int (nI ms.length)]))).2.1 = S.2.1 := ⟨rfl, rfl⟩
  show Ru (d + 2) mJx4a65c_clear_da8c8 10 _ _ (z_put S al (.inr (0, [.int (mc + 1), ev, .int (nI ms.length)]))) _
  generalize z_put S al (.inr (0, [.int (mc + 1), ev, .int (nI ms.length)])) = S2 at e1 e2 e3 ⊢
  rcases h4 with ⟨rfl, hc⟩ | ⟨ea, g, rfl, q1, q2, q3, -⟩
  · have hm0 : ms.length = 0 := by have := h.2.1; omega
    refine r_aload_n dJx4a65c_clear_da8c8_10 (by first | rfl | assumption) ?_
    refine r_getf dJx4a65c_clear_da8c8_11 zf_Jx4a65c_9 (by first | assumption | exact z_put_self) rfl ?_
    refine r_astore_nS dJx4a65c_clear_da8c8_14 (by decide) (by first | assumption | exact z_c1_r (by first | rfl | assumption)) ?_
    refine r_aload_n dJx4a65c_clear_da8c8_15 (by first | rfl | assumption) ?_
    refine r_getf dJx4a65c_clear_da8c8_16 zf_Jx4a65c_48 (by first | assumption | exact z_put_self) rfl ?_
    refine r_istore_n dJx4a65c_clear_da8c8_19 (by decide) (by first | assumption | exact z_c1_i (by first | rfl | assumption) | exact z_c1_r (by first | rfl | assumption) | exact z_c1_n (by first | rfl | assumption) | exact z_c1_c (by first | rfl | assumption) | exact z_c1_0 (by first | rfl | assumption)) ?_
    refine r_aload_n dJx4a65c_clear_da8c8_20 (by first | rfl | assumption) ?_
    refine r_ic (0) dJx4a65c_clear_da8c8_21 rfl ?_
    refine r_dup_x1 dJx4a65c_clear_da8c8_22 rfl rfl ?_
    refine r_putf dJx4a65c_clear_da8c8_23 zf_Jx4a65c_48 (by first | assumption | exact z_put_self) (Nat.le_of_ble_eq_true rfl) ⟨rfl, rfl⟩ ?_
    refine r_istore_n dJx4a65c_clear_da8c8_26 (by decide) (by first | assumption | exact z_c1_i (by first | rfl | assumption) | exact z_c1_r (by first | rfl | assumption) | exact z_c1_n (by first | rfl | assumption) | exact z_c1_c (by first | rfl | assumption) | exact z_c1_0 (by first | rfl | assumption)) ?_
    exact loop 0 0 _ _ (by omega) (va_up_self _ _ _) e3.1 e3.2 (fun j hj => (va_up_ne _ _ (fun q => hj (Or.inl q))).trans (e2 j (fun q => hj (Or.inl q)))) (fun ea he => by cases he) (Or.inl rfl) rfl rfl
  · have hne : ea ≠ al := fun q => by rw [q, h1] at q3; cases q3
    refine r_aload_n dJx4a65c_clear_da8c8_10 (by first | rfl | assumption) ?_
    refine r_getf dJx4a65c_clear_da8c8_11 zf_Jx4a65c_9 (by first | assumption | exact z_put_self) rfl ?_
    refine r_astore_n dJx4a65c_clear_da8c8_14 (by decide) (by first | assumption | exact z_c1_i (by first | rfl | assumption) | exact z_c1_r (by first | rfl | assumption) | exact z_c1_n (by first | rfl | assumption) | exact z_c1_c (by first | rfl | assumption) | exact z_c1_0 (by first | rfl | assumption)) ?_
    refine r_aload_n dJx4a65c_clear_da8c8_15 (by first | rfl | assumption) ?_
    refine r_getf dJx4a65c_clear_da8c8_16 zf_Jx4a65c_48 (by first | assumption | exact z_put_self) rfl ?_
    refine r_istore_n dJx4a65c_clear_da8c8_19 (by decide) (by first | assumption | exact z_c1_i (by first | rfl | assumption) | exact z_c1_r (by first | rfl | assumption) | exact z_c1_n (by first | rfl | assumption) | exact z_c1_c (by first | rfl | assumption) | exact z_c1_0 (by first | rfl | assumption)) ?_
    refine r_aload_n dJx4a65c_clear_da8c8_20 (by first | rfl | assumption) ?_
    refine r_ic (0) dJx4a65c_clear_da8c8_21 rfl ?_
    refine r_dup_x1 dJx4a65c_clear_da8c8_22 rfl rfl ?_
    refine r_putf dJx4a65c_clear_da8c8_23 zf_Jx4a65c_48 (by first | assumption | exact z_put_self) (Nat.le_of_ble_eq_true rfl) ⟨rfl, rfl⟩ ?_
    refine r_istore_n dJx4a65c_clear_da8c8_26 (by decide) (by first | assumption | exact z_c1_i (by first | rfl | assumption) | exact z_c1_r (by first | rfl | assumption) | exact z_c1_n (by first | rfl | assumption) | exact z_c1_c (by first | rfl | assumption) | exact z_c1_0 (by first | rfl | assumption)) ?_
    exact loop ms.length 0 _ _ (by omega) (va_up_self _ _ _) e3.1 e3.2 (fun j hj => (va_up_ne _ _ (fun q => hj (Or.inl q))).trans (e2 j (fun q => hj (Or.inl q)))) (fun ea2 he => by cases he; exact ⟨g, (va_up_ne _ _ hne).trans ((e2 ea hne).trans q3)⟩) (Or.inr ⟨ea, rfl, rfl, h.2.1⟩) rfl rfl
/-- Arrays.copyOf of a row of Macros -/
theorem C_copyQ {i n N : Nat} {g : Nat → Option Nat} (h : S.2.2 i = .inl (.object "java/lang/Object", n, .inr (.inr (.inr (.inr g))))) (hi : i < S.1) (hN : n < N ∧ N < 2 ^ 26) (hm : ∀ x y, x < n → g x = some y → y < S.1 ∧ ∃ fs, S.2.2 y = .inr (3, fs)) : Rc (d + 2) mJ7_copyOf_1904c [.ref i, .int (nI N)] S (fun v S1 => S1 = z_new S (.inl (.object "java/lang/Object", N, .inr (.inr (.inr (.inr (va_cpy g (fun _ => none) 0 0 n)))))) N ∧ v = some (.ref S.1)) := by
  have h0 : Rc (d + 1) mJ7_copyOf_6403c [.ref i, .int (nI N), .retAddr 51] S (fun v S1 => S1 = z_new S (.inl (.object "java/lang/Object", N, .inr (.inr (.inr (.inr (va_cpy g (fun _ => none) 0 0 n)))))) N ∧ v = some (.ref S.1)) := by
    refine Rc.of ?_
    refine r_aload_nS dJ7_copyOf_6403c_0 (by first | rfl | assumption) ?_
    refine r_ldcM dJ7_copyOf_6403c_1 zl_J7_110 ?_
    refine r_acN (tgt := 13) dJ7_copyOf_6403c_3 (by decide) ?_
    refine r_iload_n dJ7_copyOf_6403c_6 (by first | rfl | assumption) ?_
    refine r_anewq (N := N) dJ7_copyOf_6403c_7 zl_J7_2 (nI_pos (by omega)) (nI_clamp (by omega)) (by omega) ?_
    have h2 := z_new_old (k := N) (c := .inl (.object "java/lang/Object", N, .inr (.inr (.inr (.inr (fun _ => none)))))) h hi
    refine r_goto (tgt := 24) dJ7_copyOf_6403c_10 (by decide) ?_
    refine r_astore_n dJ7_copyOf_6403c_24 (by decide) (by first | assumption | exact z_c1_i (by first | rfl | assumption) | exact z_c1_r (by first | rfl | assumption) | exact z_c1_n (by first | rfl | assumption) | exact z_c1_c (by first | rfl | assumption) | exact z_c1_0 (by first | rfl | assumption)) ?_
    refine r_aload_n dJ7_copyOf_6403c_25 (by first | rfl | assumption) ?_
    refine r_ic (0) dJ7_copyOf_6403c_26 rfl ?_
    refine r_aload_n dJ7_copyOf_6403c_27 (by first | rfl | assumption) ?_
    refine r_ic (0) dJ7_copyOf_6403c_28 rfl ?_
    refine r_aload_n dJ7_copyOf_6403c_29 (by first | rfl | assumption) ?_
    refine r_alen dJ7_copyOf_6403c_30 (by assumption) ?_
    refine r_iload_n dJ7_copyOf_6403c_31 (by first | rfl | assumption) ?_
    refine r_mmin dJ7_copyOf_6403c_32 zo_J7_304 (by simp [Value.category]) ?_
    rw [show (if (nI N : Int32) < Int32.ofNat (n, (Sum.inr (.inr (.inr (.inr g))) : (Nat → Int32) ⊕ (Nat → Int64) ⊕ (Nat → UInt32) ⊕ (Nat → UInt64) ⊕ (Nat → Option Nat))).1 then nI N else Int32.ofNat (n, (Sum.inr (.inr (.inr (.inr g))) : (Nat → Int32) ⊕ (Nat → Int64) ⊕ (Nat → UInt32) ⊕ (Nat → UInt64) ⊕ (Nat → Option Nat))).1) = nI n from nI_min hN.1 (by omega)]
    refine r_acpQ dJ7_copyOf_6403c_35 zl_J7_150 h2 z_new_at ⟨Nat.le_refl _, Nat.le_of_lt hN.1, by omega⟩ (by simp) (fun x y hx hy => ?_) ?_
    · obtain ⟨k1, fs, k2⟩ := hm x y hx hy
      exact ⟨fs, z_new_old k2 k1⟩
    rw [z_new_put]
    refine r_aload_n dJ7_copyOf_6403c_38 (by first | rfl | assumption) ?_
    refine r_areturn dJ7_copyOf_6403c_39 _ rfl (by first | exact Or.inl ⟨_, rfl⟩ | exact Or.inr ⟨_, rfl⟩) (by first | exact Or.inr (Or.inl ⟨_, rfl⟩) | exact Or.inl rfl | exact Or.inr (Or.inr ⟨_, rfl⟩)) ⟨rfl, rfl⟩
  refine Rc.of ?_
  refine r_aload_n dJ7_copyOf_1904c_0 (by first | rfl | assumption) ?_
  refine r_iload_n dJ7_copyOf_1904c_1 (by first | rfl | assumption) ?_
  refine r_aload_n dJ7_copyOf_1904c_2 (by first | rfl | assumption) ?_
  refine r_getC dJ7_copyOf_1904c_3 zl_J7_86 h (by simp [Value.category]) ?_
  refine r_callS3 dJ7_copyOf_1904c_6 zm_J7_300 (Nat.le_of_ble_eq_true rfl) (Nat.le_of_ble_eq_true rfl) (h0) (fun v S1 hv => ?_)
  obtain ⟨rfl, rfl⟩ := hv
  refine r_areturn dJ7_copyOf_1904c_9 _ rfl (by first | exact Or.inl ⟨_, rfl⟩ | exact Or.inr ⟨_, rfl⟩) (by first | exact Or.inr (Or.inl ⟨_, rfl⟩) | exact Or.inl rfl | exact Or.inr (Or.inr ⟨_, rfl⟩)) ⟨rfl, rfl⟩
/-- newLength, far from its end -/
theorem C_newLen {a b c : Nat} (ha : a ≤ 2 ^ 20) (hb : b ≤ 2 ^ 20) (hc : c ≤ 2 ^ 20) (h0 : 0 < b) (hbc : b ≤ c ∨ c = 0) (hr : Nat) (hrr : hr = a + (if c < b then b else c)) : Rc (d + 1) mJ8_newLength_cabcc [.int (nI a), .int (nI b), .int (nI c)] S (fun v S1 => S1 = S ∧ v = some (.int (nI hr))) := by
  refine Rc.of ?_
  refine r_iload_n dJ8_newLength_cabcc_0 (by first | rfl | assumption) ?_
  refine r_iload_n dJ8_newLength_cabcc_1 (by first | rfl | assumption) ?_
  refine r_iload_n dJ8_newLength_cabcc_2 (by first | rfl | assumption) ?_
  refine r_mmax dJ8_newLength_cabcc_3 zo_J8_194 (by simp [Value.category]) ?_
  rw [show (if (nI b : Int32) < nI c then nI c else nI b) = nI (if c < b then b else c) by
    by_cases q : c < b
    · rw [if_pos q, if_neg (nI_nlt (Nat.le_of_lt q) (by omega))]
    · rw [if_neg q]
      by_cases q2 : b < c
      · rw [if_pos (nI_lt q2 (by omega))]
      · rw [if_neg (nI_nlt (by omega) (by omega)), show b = c by omega]]
  refine r_iadd dJ8_newLength_cabcc_6 ?_
  rw [nI_add, ← hrr]
  have hp : 0 < hr ∧ hr ≤ 2 ^ 21 := by split at hrr <;> omega
  refine r_istore_n dJ8_newLength_cabcc_7 (by decide) (by first | assumption | exact z_c1_i (by first | rfl | assumption) | exact z_c1_r (by first | rfl | assumption) | exact z_c1_n (by first | rfl | assumption) | exact z_c1_c (by first | rfl | assumption) | exact z_c1_0 (by first | rfl | assumption)) ?_
  refine r_ic (0) dJ8_newLength_cabcc_8 rfl ?_
  refine r_iload_n dJ8_newLength_cabcc_9 (by first | rfl | assumption) ?_
  refine r_icmp_ge_f (tgt := 21) dJ8_newLength_cabcc_10 (by decide) (nI_nle hp.1 (by omega)) ?_
  refine r_iload_n dJ8_newLength_cabcc_13 (by first | rfl | assumption) ?_
  refine r_ldc dJ8_newLength_cabcc_14 zk_J8_200 ?_
  refine r_icmp_gt_f (tgt := 21) dJ8_newLength_cabcc_16 (by decide) (fun q => absurd q (nI_nlt (a := 2147483639) (b := hr) (by omega) (by decide))) ?_
  refine r_iload_n dJ8_newLength_cabcc_19 (by first | rfl | assumption) ?_
  refine r_ireturn dJ8_newLength_cabcc_20 _ rfl rfl ⟨rfl, rfl⟩
set_option maxHeartbeats 1000000 in
/-- a larger row -/
theorem C_al_grow (h : isA S al mc ev cap ms) (hl : ms.length = cap) (hal : al < S.1) (hcap : cap ≤ 2 ^ 18) (hm : ∀ y ∈ ms, y < S.1 ∧ ∃ fs, S.2.2 y = .inr (3, fs)) : Rc (d + 4) mJx4a65c_grow_d5877 [.ref al] S (fun v S1 => v = some (.ref S.1) ∧ ∃ g, S1 = z_put (z_new S (.inl (.object "java/lang/Object", alN cap, .inr (.inr (.inr (.inr g))))) (alN cap)) al (.inr (0, [.int mc, .ref S.1, .int (nI ms.length)])) ∧ ∀ j, j < ms.length → g j = some (ms.getD j 0)) := by
  have h1 := h.1
  have hg : Rc (d + 3) mJx4a65c_grow_92f84 [.ref al, .int (nI (cap + 1))] S (fun v S1 => v = some (.ref S.1) ∧ ∃ g, S1 = z_put (z_new S (.inl (.object "java/lang/Object", alN cap, .inr (.inr (.inr (.inr g))))) (alN cap)) al (.inr (0, [.int mc, .ref S.1, .int (nI ms.length)])) ∧ ∀ j, j < ms.length → g j = some (ms.getD j 0)) := by
    refine Rc.of ?_
    rcases h.2.2.2 with ⟨rfl, hc⟩ | ⟨ea, g, rfl, q1, q2, q3, q4⟩
    · subst hc
      have hm0 : ms.length = 0 := hl
      refine r_aload_n dJx4a65c_grow_92f84_0 (by first | rfl | assumption) ?_
      refine r_getf dJx4a65c_grow_92f84_1 zf_Jx4a65c_9 (by first | assumption | exact z_put_self) rfl ?_
      refine r_alD dJx4a65c_grow_92f84_4 ?_
      refine r_istore_n dJx4a65c_grow_92f84_5 (by decide) (by first | assumption | exact z_c1_i (by first | rfl | assumption) | exact z_c1_r (by first | rfl | assumption) | exact z_c1_n (by first | rfl | assumption) | exact z_c1_c (by first | rfl | assumption) | exact z_c1_0 (by first | rfl | assumption)) ?_
      refine r_iload_n dJx4a65c_grow_92f84_6 (by first | rfl | assumption) ?_
      refine r_if_gt_f (tgt := 20) dJx4a65c_grow_92f84_7 (by decide) (show ¬ (0 : Int32) < 0 by decide) ?_
      refine r_aload_n dJx4a65c_grow_92f84_10 (by first | rfl | assumption) ?_
      refine r_getf dJx4a65c_grow_92f84_11 zf_Jx4a65c_9 (by first | assumption | exact z_put_self) rfl ?_
      refine r_gsD dJx4a65c_grow_92f84_14 zl_Jx4a65c_39 ?_
      refine r_acE (tgt := 45) dJx4a65c_grow_92f84_17 (by decide) ?_
      refine r_aload_n dJx4a65c_grow_92f84_45 (by first | rfl | assumption) ?_
      refine r_bp (10) dJx4a65c_grow_92f84_46 rfl ?_
      refine r_iload_n dJx4a65c_grow_92f84_48 (by first | rfl | assumption) ?_
      refine r_mmax dJx4a65c_grow_92f84_49 zo_Jx4a65c_79 (by simp [Value.category]) ?_
      rw [show (if (10 : Int32) < nI (0 + 1) then nI (0 + 1) else 10) = nI 10 from rfl]
      refine r_anewq (N := 10) dJx4a65c_grow_92f84_52 zl_Jx4a65c_7 (by decide) rfl (by decide) ?_
      refine r_dup_x1 dJx4a65c_grow_92f84_55 rfl rfl ?_
      refine r_putf dJx4a65c_grow_92f84_56 zf_Jx4a65c_9 (z_new_old h1 hal) (Nat.le_of_ble_eq_true rfl) ⟨rfl, rfl⟩ ?_
      refine r_areturn dJx4a65c_grow_92f84_59 _ rfl (by first | exact Or.inl ⟨_, rfl⟩ | exact Or.inr ⟨_, rfl⟩) (by first | exact Or.inr (Or.inl ⟨_, rfl⟩) | exact Or.inl rfl | exact Or.inr (Or.inr ⟨_, rfl⟩)) ⟨rfl, _, rfl, fun j hj => absurd hj (by omega)⟩
    · refine r_aload_n dJx4a65c_grow_92f84_0 (by first | rfl | assumption) ?_
      refine r_getf dJx4a65c_grow_92f84_1 zf_Jx4a65c_9 (by first | assumption | exact z_put_self) rfl ?_
      refine r_alen dJx4a65c_grow_92f84_4 (by assumption) ?_
      refine r_istore_n dJx4a65c_grow_92f84_5 (by decide) (by first | assumption | exact z_c1_i (by first | rfl | assumption) | exact z_c1_r (by first | rfl | assumption) | exact z_c1_n (by first | rfl | assumption) | exact z_c1_c (by first | rfl | assumption) | exact z_c1_0 (by first | rfl | assumption)) ?_
      refine r_iload_n dJx4a65c_grow_92f84_6 (by first | rfl | assumption) ?_
      rw [show (Int32.ofNat (cap, (Sum.inr (.inr (.inr (.inr g))) : (Nat → Int32) ⊕ (Nat → Int64) ⊕ (Nat → UInt32) ⊕ (Nat → UInt64) ⊕ (Nat → Option Nat))).1) = nI cap from rfl]
      refine r_if_gt_t (tgt := 20) dJx4a65c_grow_92f84_7 (by decide) (nI_lt (a := 0) (show 0 < cap by omega) (by omega)) ?_
      refine r_iload_n dJx4a65c_grow_92f84_20 (by first | rfl | assumption) ?_
      refine r_iload_n dJx4a65c_grow_92f84_21 (by first | rfl | assumption) ?_
      refine r_iload_n dJx4a65c_grow_92f84_22 (by first | rfl | assumption) ?_
      refine r_isub dJx4a65c_grow_92f84_23 ?_
      rw [show (nI (cap + 1) - nI cap : Int32) = nI 1 by rw [← nI_add]; exact sub9 _ _]
      refine r_iload_n dJx4a65c_grow_92f84_24 (by first | rfl | assumption) ?_
      refine r_ic (1) dJx4a65c_grow_92f84_25 rfl ?_
      refine r_ishr dJx4a65c_grow_92f84_26 ?_
      rw [show (nI cap >>> ((1 : Int32) &&& 31) : Int32) = nI (cap / 2) from shr9 (by omega)]
      refine r_callS3 dJx4a65c_grow_92f84_27 zm_Jx4a65c_73 (Nat.le_of_ble_eq_true rfl) (Nat.le_of_ble_eq_true rfl) (C_newLen (by omega) (by omega) (by omega) (by decide) (Or.inl (by omega)) (alN cap) (by unfold alN; rw [if_neg (by omega), if_neg (by omega)])) (fun v S1 hv => ?_)
      obtain ⟨rfl, rfl⟩ := hv
      have hA : cap < alN cap ∧ alN cap < 2 ^ 26 := by unfold alN; rw [if_neg (by omega)]; omega
      refine r_istore_n dJx4a65c_grow_92f84_30 (by decide) (by first | assumption | exact z_c1_i (by first | rfl | assumption) | exact z_c1_r (by first | rfl | assumption) | exact z_c1_n (by first | rfl | assumption) | exact z_c1_c (by first | rfl | assumption) | exact z_c1_0 (by first | rfl | assumption)) ?_
      refine r_aload_n dJx4a65c_grow_92f84_31 (by first | rfl | assumption) ?_
      refine r_aload_n dJx4a65c_grow_92f84_32 (by first | rfl | assumption) ?_
      refine r_getf dJx4a65c_grow_92f84_33 zf_Jx4a65c_9 (by first | assumption | exact z_put_self) rfl ?_
      refine r_iload_n dJx4a65c_grow_92f84_36 (by first | rfl | assumption) ?_
      refine r_callS2 dJx4a65c_grow_92f84_37 zm_Jx4a65c_66 (Nat.le_of_ble_eq_true rfl) (Nat.le_of_ble_eq_true rfl) (C_copyQ q3 q2 hA (fun x y hx hy => hm y ?_)) (fun v S2 hv => ?_)
      · rw [q4 x (by omega)] at hy
        cases hy
        exact gD_mem (by omega)
      obtain ⟨rfl, rfl⟩ := hv
      refine r_dup_x1 dJx4a65c_grow_92f84_40 rfl rfl ?_
      refine r_putf dJx4a65c_grow_92f84_41 zf_Jx4a65c_9 (z_new_old h1 hal) (Nat.le_of_ble_eq_true rfl) ⟨rfl, rfl⟩ ?_
      refine r_areturn dJx4a65c_grow_92f84_44 _ rfl (by first | exact Or.inl ⟨_, rfl⟩ | exact Or.inr ⟨_, rfl⟩) (by first | exact Or.inr (Or.inl ⟨_, rfl⟩) | exact Or.inl rfl | exact Or.inr (Or.inr ⟨_, rfl⟩)) ⟨rfl, _, rfl, fun j hj => ?_⟩
      rw [pk_cpy_in (Nat.zero_le _) (by omega)]
      simpa using q4 j hj
  refine Rc.of ?_
  refine r_aload_n dJx4a65c_grow_d5877_0 (by first | rfl | assumption) ?_
  refine r_aload_n dJx4a65c_grow_d5877_1 (by first | rfl | assumption) ?_
  refine r_getf dJx4a65c_grow_d5877_2 zf_Jx4a65c_48 (by first | assumption | exact z_put_self) rfl ?_
  refine r_ic (1) dJx4a65c_grow_d5877_5 rfl ?_
  refine r_iadd dJx4a65c_grow_d5877_6 ?_
  rw [nI_1, show nI (ms.length + 1) = nI (cap + 1) by rw [hl]]
  refine r_callV1 dJx4a65c_grow_d5877_7 zm_Jx4a65c_69 (by assumption) rfl (Nat.le_of_ble_eq_true rfl) (Nat.le_of_ble_eq_true rfl) (hg) (fun v S1 hv => ?_)
  obtain ⟨rfl, hv⟩ := hv
  refine r_areturn dJx4a65c_grow_d5877_10 _ rfl (by first | exact Or.inl ⟨_, rfl⟩ | exact Or.inr ⟨_, rfl⟩) (by first | exact Or.inr (Or.inl ⟨_, rfl⟩) | exact Or.inl rfl | exact Or.inr (Or.inr ⟨_, rfl⟩)) ⟨rfl, hv⟩
set_option maxHeartbeats 1000000 in
theorem C_al_add {q : Nat} {fs : List Value} (h : isA S al mc ev cap ms) (hq : S.2.2 q = .inr (3, fs)) (hql : q < S.1) (hl : ms.length < 65536) (hal : al < S.1) (hcap : cap ≤ 2 ^ 18) (hm : ∀ y ∈ ms, y < S.1 ∧ ∃ fs, S.2.2 y = .inr (3, fs)) : Rc (d + 6) mJx4a65c_add_9ea2d [.ref al, .ref q] S (fun v S1 => v = some (.int 1) ∧ ∃ mc' ev' cap', isA S1 al mc' ev' cap' (ms ++ [q]) ∧ (∀ j, j < S.1 → ¬ aCl ev al j → S1.2.2 j = S.2.2 j) ∧ ((cap' = cap ∧ ev' = ev ∧ S1.1 = S.1 ∧ S1.2.1 = S.2.1) ∨ (ms.length = cap ∧ cap' = alN cap ∧ ev' = .ref S.1 ∧ S1.1 = S.1 + 1 ∧ S1.2.1 = S.2.1 + alN cap))) := by
  have h1 := h.1
  have hqa : q ≠ al := fun z => by rw [z, h1] at hq; cases hq
  -- from the store on
  have K : ∀ (S3 : zS) (ea cap' : Nat) (g : Nat → Option Nat) (L : Nat → Option Value), S3.2.2 al = .inr (0, [.int (mc + 1), .ref ea, .int (nI ms.length)]) → S3.2.2 ea = .inl (.object "java/lang/Object", cap', .inr (.inr (.inr (.inr g)))) → (∀ j, j < ms.length → g j = some (ms.getD j 0)) → ms.length < cap' → 10 ≤ cap' → cap' ≤ 2 ^ 20 → ea < S3.1 → S3.2.2 q = .inr (3, fs) → L 0 = some (.ref al) → L 1 = some (.ref q) → L 2 = some (.ref ea) → L 3 = some (.int (nI ms.length)) → (∀ j, j < S.1 → ¬ aCl ev al j → j ≠ ea → S3.2.2 j = S.2.2 j) → (ev = .ref ea ∨ S.1 ≤ ea) → ((cap' = cap ∧ .ref ea = ev ∧ S3.1 = S.1 ∧ S3.2.1 = S.2.1) ∨ (ms.length = cap ∧ cap' = alN cap ∧ ea = S.1 ∧ S3.1 = S.1 + 1 ∧ S3.2.1 = S.2.1 + alN cap)) → Ru (d + 5) mJx4a65c_add_72be8 11 L [] S3 (z_en mJx4a65c_add_72be8 (fun v S1 => v = none ∧ ∃ mc' ev' cap', isA S1 al mc' ev' cap' (ms ++ [q]) ∧ (∀ j, j < S.1 → ¬ aCl ev al j → S1.2.2 j = S.2.2 j) ∧ ((cap' = cap ∧ ev' = ev ∧ S1.1 = S.1 ∧ S1.2.1 = S.2.1) ∨ (ms.length = cap ∧ cap' = alN cap ∧ ev' = .ref S.1 ∧ S1.1 = S.1 + 1 ∧ S1.2.1 = S.2.1 + alN cap)))) := by
    intro S3 ea cap' g L c1 c2 c3 c4 c5 c6 c7 c8 l0 l1 l2 l3 c9 c10 c11
    have hne : al ≠ ea := fun z => by rw [← z, c1] at c2; cases c2
    refine r_aload_n dJx4a65c_add_72be8_11 (by first | rfl | assumption) ?_
    refine r_iload_n dJx4a65c_add_72be8_12 (by first | rfl | assumption) ?_
    refine r_aload_n dJx4a65c_add_72be8_13 (by first | rfl | assumption) ?_
    refine r_aastO dJx4a65c_add_72be8_14 c2 (vp_in_nI c4 (by omega)) c8 ?_
    refine r_aload_n dJx4a65c_add_72be8_15 (by first | rfl | assumption) ?_
    refine r_iload_n dJx4a65c_add_72be8_16 (by first | rfl | assumption) ?_
    refine r_ic (1) dJx4a65c_add_72be8_17 rfl ?_
    refine r_iadd dJx4a65c_add_72be8_18 ?_
    rw [nI_1]
    refine r_putf dJx4a65c_add_72be8_19 zf_Jx4a65c_48 ((va_up_ne _ _ hne).trans c1) (Nat.le_of_ble_eq_true rfl) ⟨rfl, rfl⟩ ?_
    refine r_return dJx4a65c_add_72be8_22 rfl ⟨rfl, mc + 1, .ref ea, cap', ⟨?_, ?_, c6, Or.inr ⟨ea, va_up g (nI ms.length).toNatClampNeg (some q), rfl, c5, c7, (va_up_ne _ _ (Ne.symm hne)).trans (va_up_self _ _ _), fun j hj => ?_⟩⟩, fun j hj hn => ?_, ?_⟩
    · refine (va_up_self _ _ _).trans ?_
      rw [List.length_append]
      rfl
    · rw [List.length_append]; exact c4
    · rw [List.length_append] at hj
      have hj : j < ms.length + 1 := hj
      rw [nI_clamp (by omega)]
      by_cases e : j = ms.length
      · rw [e, va_up_self, List.getD_eq_getElem?_getD, List.getElem?_append_right (Nat.le_refl _), Nat.sub_self]
        rfl
      · rw [va_up_ne _ _ e, c3 j (by omega), List.getD_eq_getElem?_getD, List.getD_eq_getElem?_getD, List.getElem?_append_left (by omega)]
    · have n1 : j ≠ al := fun z => hn (Or.inl z)
      have n2 : j ≠ ea := fun z => by
        rcases c10 with c10 | c10
        · exact hn (Or.inr (by rw [z]; exact c10))
        · omega
      exact (va_up_ne _ _ n1).trans ((va_up_ne _ _ n2).trans (c9 j hj hn n2))
    · rcases c11 with ⟨a1, a2, a3, a4⟩ | ⟨a1, a2, a3, a4, a5⟩
      · exact Or.inl ⟨a1, a2, a3, a4⟩
      · exact Or.inr ⟨a1, a2, by rw [a3], a4, a5⟩
  refine Rc.of ?_
  refine r_aload_n dJx4a65c_add_9ea2d_0 (by first | rfl | assumption) ?_
  refine r_dup dJx4a65c_add_9ea2d_1 rfl ?_
  refine r_gfm dJx4a65c_add_9ea2d_2 zl_Jx4a65c_63 h1 rfl ?_
  refine r_ic (1) dJx4a65c_add_9ea2d_5 rfl ?_
  refine r_iadd dJx4a65c_add_9ea2d_6 ?_
  refine r_pfm dJx4a65c_add_9ea2d_7 zl_Jx4a65c_63 h1 (Nat.le_of_ble_eq_true rfl) ?_
  have e1 : (z_put S al (.inr (0, [.int (mc + 1), ev, .int (nI ms.length)]))).2.2 al = .inr (0, [.int (mc + 1), ev, .int (nI ms.length)]) := va_up_self _ _ _
  have e2 : ∀ j, j ≠ al → (z_put S al (.inr (0, [.int (mc + 1), ev, .int (nI ms.length)]))).2.2 j = S.2.2 j := fun j hj => va_up_ne _ _ hj
  have e3 : (z_put S al (.inr (0, [.int (mc + 1), ev, .int (nI ms.length)]))).1 = S.1 ∧ (z_put S al (.inr (0, [.int (mc + 1), ev, .int (nI ms.length)]))).2.1 = S.2.1 := ⟨rfl, rfl⟩
  show Ru (d + 6) mJx4a65c_add_9ea2d 10 _ _ (z_put S al (.inr (0, [.int (mc + 1), ev, .int (nI ms.length)]))) _
  generalize z_put S al (.inr (0, [.int (mc + 1), ev, .int (nI ms.length)])) = S2 at e1 e2 e3 ⊢
  have hA2 : isA S2 al (mc + 1) ev cap ms := by
    refine ⟨e1, h.2.1, h.2.2.1, ?_⟩
    rcases h.2.2.2 with z | ⟨ea, g, rfl, q1, q2, q3, q4⟩
    · exact Or.inl z
    · exact Or.inr ⟨ea, g, rfl, q1, by rw [e3.1]; exact q2, (e2 ea (fun z => by rw [z, h1] at q3; cases q3)).trans q3, q4⟩
  have hm2 : ∀ y ∈ ms, y < S2.1 ∧ ∃ fs, S2.2.2 y = .inr (3, fs) := fun y hy => by
    obtain ⟨k1, fs9, k2⟩ := hm y hy
    exact ⟨by rw [e3.1]; exact k1, fs9, (e2 y (fun z => by rw [z, h1] at k2; cases k2)).trans k2⟩
  have hq2 : S2.2.2 q = .inr (3, fs) := (e2 q hqa).trans hq
  have hadd : Rc (d + 5) mJx4a65c_add_72be8 [.ref al, .ref q, ev, .int (nI ms.length)] S2 (fun v S1 => v = none ∧ ∃ mc' ev' cap', isA S1 al mc' ev' cap' (ms ++ [q]) ∧ (∀ j, j < S.1 → ¬ aCl ev al j → S1.2.2 j = S.2.2 j) ∧ ((cap' = cap ∧ ev' = ev ∧ S1.1 = S.1 ∧ S1.2.1 = S.2.1) ∨ (ms.length = cap ∧ cap' = alN cap ∧ ev' = .ref S.1 ∧ S1.1 = S.1 + 1 ∧ S1.2.1 = S.2.1 + alN cap))) := by
    refine Rc.of ?_
    -- it grows
    have gr : ∀ L : Nat → Option Value, ms.length = cap → L 0 = some (.ref al) → L 1 = some (.ref q) → L 3 = some (.int (nI ms.length)) → z_c1 (L (2 - 1)) → Ru (d + 5) mJx4a65c_add_72be8 6 L [] S2 (z_en mJx4a65c_add_72be8 (fun v S1 => v = none ∧ ∃ mc' ev' cap', isA S1 al mc' ev' cap' (ms ++ [q]) ∧ (∀ j, j < S.1 → ¬ aCl ev al j → S1.2.2 j = S.2.2 j) ∧ ((cap' = cap ∧ ev' = ev ∧ S1.1 = S.1 ∧ S1.2.1 = S.2.1) ∨ (ms.length = cap ∧ cap' = alN cap ∧ ev' = .ref S.1 ∧ S1.1 = S.1 + 1 ∧ S1.2.1 = S.2.1 + alN cap)))) := by
      intro L hl0 l0 l1 l3 hz
      refine r_aload_n dJx4a65c_add_72be8_6 (by first | rfl | assumption) ?_
      refine r_callV0 dJx4a65c_add_72be8_7 zm_Jx4a65c_129 (by assumption) rfl (Nat.le_of_ble_eq_true rfl) (Nat.le_of_ble_eq_true rfl) (C_al_grow hA2 hl0 (by rw [e3.1]; exact hal) hcap hm2) (fun v S3 hv => ?_)
      obtain ⟨rfl, g, rfl, hg⟩ := hv
      have hA : cap < alN cap ∧ 10 ≤ alN cap ∧ alN cap ≤ 2 ^ 20 := by
        unfold alN
        rcases h.2.2.2 with ⟨-, z⟩ | ⟨ea, g, -, z, -⟩
        · rw [z]; decide
        · rw [if_neg (by omega)]; omega
      have n1 : S2.1 ≠ al := fun z => by omega
      refine r_astore_n dJx4a65c_add_72be8_10 (by decide) hz ?_
      refine K _ S2.1 (alN cap) g _ (va_up_self _ _ _) ((va_up_ne _ _ n1).trans z_new_at) hg (by omega) hA.2.1 hA.2.2 (Nat.lt_succ_self _) ((va_up_ne _ _ hqa).trans (z_new_old hq2 (by rw [e3.1]; exact hql))) l0 l1 rfl l3 (fun j hj hn _ => ?_) (Or.inr (Nat.le_of_eq e3.1.symm)) (Or.inr ⟨hl0, rfl, e3.1, by rw [← e3.1]; rfl, by rw [← e3.2]; rfl⟩)
      have n2 : j ≠ al := fun z => hn (Or.inl z)
      exact (va_up_ne _ _ n2).trans ((va_up_ne _ _ (by rw [e3.1]; omega)).trans (e2 j n2))
    rcases h.2.2.2 with ⟨rfl, hc⟩ | ⟨ea, g, rfl, q1, q2, q3, q4⟩
    · subst hc
      have hm0 : ms.length = 0 := by have := h.2.1; omega
      refine r_iload_n dJx4a65c_add_72be8_0 (by first | rfl | assumption) ?_
      refine r_aload_nS dJx4a65c_add_72be8_1 (by first | rfl | assumption) ?_
      refine r_alD dJx4a65c_add_72be8_2 ?_
      refine r_icmp_ne_f (tgt := 11) dJx4a65c_add_72be8_3 (by decide) (by rw [hm0]; rfl) ?_
      exact gr _ hm0 rfl rfl rfl (z_c1_r rfl)
    · have n3 : ea ≠ al := fun z => by rw [z, h1] at q3; cases q3
      have q5 := (e2 ea n3).trans q3
      refine r_iload_n dJx4a65c_add_72be8_0 (by first | rfl | assumption) ?_
      refine r_aload_n dJx4a65c_add_72be8_1 (by first | rfl | assumption) ?_
      refine r_alen dJx4a65c_add_72be8_2 (by assumption) ?_
      rw [show (Int32.ofNat (cap, (Sum.inr (.inr (.inr (.inr g))) : (Nat → Int32) ⊕ (Nat → Int64) ⊕ (Nat → UInt32) ⊕ (Nat → UInt64) ⊕ (Nat → Option Nat))).1) = nI cap from rfl]
      by_cases e : ms.length = cap
      · refine r_icmp_ne_f (tgt := 11) dJx4a65c_add_72be8_3 (by decide) (by rw [e]) ?_
        exact gr _ e rfl rfl rfl (z_c1_r rfl)
      · have hlt : ms.length < cap := by have := h.2.1; omega
        refine r_icmp_ne_t (tgt := 11) dJx4a65c_add_72be8_3 (by decide) (fun z => absurd (nI_lt hlt (by omega)) (by rw [z]; exact Int32.lt_irrefl)) ?_
        exact K S2 ea cap g _ e1 q5 q4 hlt q1 h.2.2.1 (by rw [e3.1]; exact q2) hq2 rfl rfl rfl rfl (fun j _ hn _ => e2 j (fun z => hn (Or.inl z))) (Or.inl rfl) (Or.inl ⟨rfl, rfl, e3.1, e3.2⟩)
  refine r_aload_n dJx4a65c_add_9ea2d_10 (by first | rfl | assumption) ?_
  refine r_aload_n dJx4a65c_add_9ea2d_11 (by first | rfl | assumption) ?_
  refine r_aload_n dJx4a65c_add_9ea2d_12 (by first | rfl | assumption) ?_
  refine r_getf dJx4a65c_add_9ea2d_13 zf_Jx4a65c_9 (by first | assumption | exact z_put_self) rfl ?_
  refine r_aload_n dJx4a65c_add_9ea2d_16 (by first | rfl | assumption) ?_
  refine r_getf dJx4a65c_add_9ea2d_17 zf_Jx4a65c_48 (by first | assumption | exact z_put_self) rfl ?_
  refine r_callV3 dJx4a65c_add_9ea2d_20 zm_Jx4a65c_131 e1 rfl (by show (lg_sl [Value.ref al, Value.ref q, ev, Value.int (nI ms.length)]).length ≤ 4; rcases hA2.2.2.2 with ⟨z, -⟩ | ⟨z, -, z2, -⟩; rw [z]; exact Nat.le_of_ble_eq_true rfl; rw [z2]; exact Nat.le_of_ble_eq_true rfl) (Nat.le_of_ble_eq_true rfl) hadd (fun v S3 hv => ?_)
  obtain ⟨rfl, hv⟩ := hv
  refine r_ic (1) dJx4a65c_add_9ea2d_23 rfl ?_
  refine r_ireturn dJx4a65c_add_9ea2d_24 _ rfl rfl ⟨rfl, hv⟩
end
