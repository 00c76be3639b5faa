/-! java.util.ArrayList, as the class uses it: constant 50 is the empty row that it begins with -/
def isA (S : zS) (al : Nat) (mc : Int32) (ev : Value) (cap : Nat) (ms : List Nat) : Prop := S.2.2 al = .inr (0, [.int mc, ev, .int (nI ms.length)]) ∧ ms.length ≤ cap ∧ cap ≤ 2 ^ 20 ∧ ((ev = .retAddr 50 ∧ cap = 0) ∨ ∃ (ea : Nat) (g : Nat → Option Nat), ev = .ref ea ∧ 10 ≤ cap ∧ ea < S.1 ∧ S.2.2 ea = .inl (.object "java/lang/Object", cap, .inr (.inr (.inr (.inr g)))) ∧ ∀ j, j < ms.length → g j = some (ms.getD j 0))
/-- the cells of a list -/
def aCl (ev : Value) (al j : Nat) : Prop := j = al ∨ ev = .ref j
section
variable {d : Nat} {S : zS} {al cap : Nat} {mc : Int32} {ev : Value} {ms : List Nat}
theorem C_al_size (h : isA S al mc ev cap ms) : Rc d mJx4a65c_size_8abf5 [.ref al] S (fun v S1 => S1 = S ∧ v = some (.int (nI ms.length))) := by
  have h1 := h.1
  refine Rc.of ?_
  refine r_aload_n dJx4a65c_size_8abf5_0 (by first | rfl | assumption) ?_
  refine r_getf dJx4a65c_size_8abf5_1 zf_Jx4a65c_48 (by assumption) rfl ?_
  refine r_ireturn dJx4a65c_size_8abf5_4 _ rfl rfl ⟨rfl, rfl⟩
theorem C_chk0 {i n : Nat} (hi : i < n) (hn : n < 2 ^ 31) : Rc d mJ3_checkIndex_8e157 [.int (nI i), .int (nI n), .null] S (fun v S1 => S1 = S ∧ v = some (.int (nI i))) := by
  refine Rc.of ?_
  refine r_iload_n dJ3_checkIndex_8e157_0 (by first | rfl | assumption) ?_
  refine r_if_lt_f (tgt := 9) dJ3_checkIndex_8e157_1 (by decide) (nI_pos (by omega)) ?_
  refine r_iload_n dJ3_checkIndex_8e157_4 (by first | rfl | assumption) ?_
  refine r_iload_n dJ3_checkIndex_8e157_5 (by first | rfl | assumption) ?_
  refine r_icmp_lt_t (tgt := 16) dJ3_checkIndex_8e157_6 (by decide) (nI_lt hi hn) ?_
  refine r_iload_n dJ3_checkIndex_8e157_16 (by first | rfl | assumption) ?_
  refine r_ireturn dJ3_checkIndex_8e157_17 _ rfl rfl ⟨rfl, rfl⟩
theorem C_chk1 {i n : Nat} (hi : i < n) (hn : n < 2 ^ 31) : Rc (d + 1) mJ15_checkIndex_7cf53 [.int (nI i), .int (nI n)] S (fun v S1 => S1 = S ∧ v = some (.int (nI i))) := by
  refine Rc.of ?_
  refine r_iload_n dJ15_checkIndex_7cf53_0 (by first | rfl | assumption) ?_
  refine r_iload_n dJ15_checkIndex_7cf53_1 (by first | rfl | assumption) ?_
  refine r_aconst dJ15_checkIndex_7cf53_2 ?_
  refine r_callS3 dJ15_checkIndex_7cf53_3 zm_J15_105 (Nat.le_of_ble_eq_true rfl) (Nat.le_of_ble_eq_true rfl) (C_chk0 hi hn) (fun v S1 hv => ?_)
  obtain ⟨rfl, rfl⟩ := hv
  refine r_ireturn dJ15_checkIndex_7cf53_6 _ rfl rfl ⟨rfl, rfl⟩
theorem C_al_get {i : Nat} (h : isA S al mc ev cap ms) (hi : i < ms.length) : Rc (d + 2) mJx4a65c_get_915e3 [.ref al, .int (nI i)] S (fun v S1 => S1 = S ∧ v = some (.ref (ms.getD i 0))) := by
  have h1 := h.1
  obtain ⟨-, h2, h3, ⟨-, hc⟩ | ⟨ea, g, rfl, h4, h5, h6, h7⟩⟩ := h
  · omega
  refine Rc.of ?_
  refine r_iload_n dJx4a65c_get_915e3_0 (by first | rfl | assumption) ?_
  refine r_aload_n dJx4a65c_get_915e3_1 (by first | rfl | assumption) ?_
  refine r_getf dJx4a65c_get_915e3_2 zf_Jx4a65c_48 (by assumption) rfl ?_
  refine r_callS2 dJx4a65c_get_915e3_5 zm_Jx4a65c_118 (Nat.le_of_ble_eq_true rfl) (Nat.le_of_ble_eq_true rfl) (C_chk1 hi (by omega)) (fun v S1 hv => ?_)
  obtain ⟨rfl, rfl⟩ := hv
  refine r_pop dJx4a65c_get_915e3_8 rfl ?_
  refine r_aload_n dJx4a65c_get_915e3_9 (by first | rfl | assumption) ?_
  refine r_iload_n dJx4a65c_get_915e3_10 (by first | rfl | assumption) ?_
  have hel : Rc (d + 1) mJx4a65c_elementData_915e3 [.ref al, .int (nI i)] S1 (fun v S2 => S2 = S1 ∧ v = some (.ref (ms.getD i 0))) := by
    refine Rc.of ?_
    refine r_aload_n dJx4a65c_elementData_915e3_0 (by first | rfl | assumption) ?_
    refine r_getf dJx4a65c_elementData_915e3_1 zf_Jx4a65c_9 (by assumption) rfl ?_
    refine r_iload_n dJx4a65c_elementData_915e3_4 (by first | rfl | assumption) ?_
    refine r_aald dJx4a65c_elementData_915e3_5 (by assumption) (vp_in_nI (show i < cap by omega) (by omega)) rfl ?_
    rw [show va_rf (g (nI i).toNatClampNeg) = .ref (ms.getD i 0) by rw [nI_clamp (by omega), h7 i hi]; rfl]
    refine r_areturn dJx4a65c_elementData_915e3_6 _ rfl (by first | exact Or.inl ⟨_, rfl⟩ | exact Or.inr ⟨_, rfl⟩) (by first | exact Or.inr (Or.inl ⟨_, rfl⟩) | exact Or.inl rfl | exact Or.inr (Or.inr ⟨_, rfl⟩)) ⟨rfl, rfl⟩
  refine r_callV1 dJx4a65c_get_915e3_11 zm_Jx4a65c_123 (by assumption) rfl (Nat.le_of_ble_eq_true rfl) (Nat.le_of_ble_eq_true rfl) (hel) (fun v S2 hv => ?_)
  obtain ⟨rfl, rfl⟩ := hv
  refine r_areturn dJx4a65c_get_915e3_14 _ rfl (by first | exact Or.inl ⟨_, rfl⟩ | exact Or.inr ⟨_, rfl⟩) (by first | exact Or.inr (Or.inl ⟨_, rfl⟩) | exact Or.inl rfl | exact Or.inr (Or.inr ⟨_, rfl⟩)) ⟨rfl, rfl⟩
/-- what add may make: a larger row -/
def alN (c : Nat) : Nat := if c = 0 then 10 else c + c / 2
theorem C_al_add {q ci : Nat} {fs : List Value} (h : isA S al mc ev cap ms) (hq : S.2.2 q = .inr (ci, fs)) (hl : ms.length < 65536) (hal : al < S.1) (hcap : cap ≤ 2 ^ 18) : Rc (d + 6) mJx4a65c_add_9ea2d [.ref al, .ref q] S (fun v S1 => v = some (.int 1) ∧ ∃ mc' ev' cap', isA S1 al mc' ev' cap' (ms ++ [q]) ∧ (∀ j, j < S.1 → ¬ aCl ev al j → S1.2.2 j = S.2.2 j) ∧ ((cap' = cap ∧ ev' = ev ∧ S1.1 = S.1 ∧ S1.2.1 = S.2.1) ∨ (ms.length = cap ∧ cap' = alN cap ∧ ev' = .ref S.1 ∧ S1.1 = S.1 + 1 ∧ S1.2.1 = S.2.1 + alN cap))) := by
  sorry
theorem C_al_clear (h : isA S al mc ev cap ms) (hal : al < S.1) : Rc (d + 2) mJx4a65c_clear_da8c8 [.ref al] S (fun v S1 => v = none ∧ ∃ mc', isA S1 al mc' ev cap [] ∧ S1.1 = S.1 ∧ S1.2.1 = S.2.1 ∧ ∀ j, ¬ aCl ev al j → S1.2.2 j = S.2.2 j) := by
  sorry
theorem C_al_init (h : S.2.2 al = .inr (0, [.int 0, .null, .int 0])) : Rc (d + 3) mJx4a65c_init_da8c8 [.ref al] S (fun v S1 => v = none ∧ S1 = z_put S al (.inr (0, [.int 0, .retAddr 50, .int 0]))) := by
  sorry
end
