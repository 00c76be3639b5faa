/-! the kinds of bytes, as the class and the reference ask for them (of an int), and of a byte's number (256: there is none) -/
def bI (b : Bool) : Int32 := if b then 1 else 0
theorem bI_n (b : Bool) : narrow .boolean (.int (bI b)) = .int (bI b) := by cases b <;> rfl
theorem bI_0 {b : Bool} : bI b = 0 ↔ b = false := by cases b <;> decide
def fBl (x : Int32) : Bool := decide (x = 9) || decide (x = 32)
def fDg (x : Int32) : Bool := !decide (x < 48) && !decide (57 < x)
def fLt (x : Int32) : Bool := (!decide (x < 97) && decide (x ≤ 122)) || (!decide (x < 65) && decide (x ≤ 90)) || decide (x = 95) || decide (x = 46)
def fNm (x : Int32) : Bool := fLt x || fDg x
def fPr (x : Int32) : Bool := !decide (x < 32) && !decide (126 < x)
def fHx (x : Int32) : Int32 := if fDg x then x - 48 else if !decide (x < 97) && !decide (102 < x) then x - 97 + 10 else if !decide (x < 65) && !decide (70 < x) then x - 65 + 10 else 99
theorem C_X7_isBlank {d : Nat} {S : zS} {x : Int32} : Rc d mX7_isBlank [.int x] S (fun v S1 => S1 = S ∧ v = some (.int (bI (fBl x)))) := by
  refine Rc.of ?_
  refine r_iload_n dX7_isBlank_0 (by first | rfl | assumption) ?_
  refine r_bp (9) dX7_isBlank_1 rfl ?_
  refine r_icmp_eq (tgt := 12) dX7_isBlank_3 (by decide) (fun c3 => ?_) (fun c3 => ?_)
  · refine r_ic (1) dX7_isBlank_12 rfl ?_
    refine r_goto (tgt := 17) dX7_isBlank_13 (by decide) ?_
    refine r_ireturn dX7_isBlank_17 _ rfl rfl ⟨rfl, by simp [bI, fBl, *]⟩
  · refine r_iload_n dX7_isBlank_6 (by first | rfl | assumption) ?_
    refine r_bp (32) dX7_isBlank_7 rfl ?_
    refine r_icmp_ne (tgt := 16) dX7_isBlank_9 (by decide) (fun c9 => ?_) (fun c9 => ?_)
    · refine r_ic (0) dX7_isBlank_16 rfl ?_
      refine r_ireturn dX7_isBlank_17 _ rfl rfl ⟨rfl, by simp [bI, fBl, *]⟩
    · refine r_ic (1) dX7_isBlank_12 rfl ?_
      refine r_goto (tgt := 17) dX7_isBlank_13 (by decide) ?_
      refine r_ireturn dX7_isBlank_17 _ rfl rfl ⟨rfl, by simp [bI, fBl, *]⟩
theorem C_X7_isDigit {d : Nat} {S : zS} {x : Int32} : Rc d mX7_isDigit [.int x] S (fun v S1 => S1 = S ∧ v = some (.int (bI (fDg x)))) := by
  refine Rc.of ?_
  refine r_iload_n dX7_isDigit_0 (by first | rfl | assumption) ?_
  refine r_bp (48) dX7_isDigit_1 rfl ?_
  refine r_icmp_lt (tgt := 16) dX7_isDigit_3 (by decide) (fun c3 => ?_) (fun c3 => ?_)
  · refine r_ic (0) dX7_isDigit_16 rfl ?_
    refine r_ireturn dX7_isDigit_17 _ rfl rfl ⟨rfl, by simp [bI, fDg, *]⟩
  · refine r_iload_n dX7_isDigit_6 (by first | rfl | assumption) ?_
    refine r_bp (57) dX7_isDigit_7 rfl ?_
    refine r_icmp_gt (tgt := 16) dX7_isDigit_9 (by decide) (fun c9 => ?_) (fun c9 => ?_)
    · refine r_ic (0) dX7_isDigit_16 rfl ?_
      refine r_ireturn dX7_isDigit_17 _ rfl rfl ⟨rfl, by simp [bI, fDg, *]⟩
    · refine r_ic (1) dX7_isDigit_12 rfl ?_
      refine r_goto (tgt := 17) dX7_isDigit_13 (by decide) ?_
      refine r_ireturn dX7_isDigit_17 _ rfl rfl ⟨rfl, by simp [bI, fDg, *]⟩
theorem C_X7_isNameByte {d : Nat} {S : zS} {x : Int32} : Rc (d + 1) mX7_isNameByte [.int x] S (fun v S1 => S1 = S ∧ v = some (.int (bI (fNm x)))) := by
  refine Rc.of ?_
  refine r_iload_n dX7_isNameByte_0 (by first | rfl | assumption) ?_
  refine r_bp (97) dX7_isNameByte_1 rfl ?_
  refine r_icmp_lt (tgt := 12) dX7_isNameByte_3 (by decide) (fun c3 => ?_) (fun c3 => ?_)
  · refine r_iload_n dX7_isNameByte_12 (by first | rfl | assumption) ?_
    refine r_bp (65) dX7_isNameByte_13 rfl ?_
    refine r_icmp_lt (tgt := 24) dX7_isNameByte_15 (by decide) (fun c15 => ?_) (fun c15 => ?_)
    · refine r_iload_n dX7_isNameByte_24 (by first | rfl | assumption) ?_
      refine r_callS1 dX7_isNameByte_25 zm_X7_316 (Nat.le_of_ble_eq_true rfl) (Nat.le_of_ble_eq_true rfl) (C_X7_isDigit) (fun r S1 hr => ?_)
      obtain ⟨rfl, rfl⟩ := hr
      refine r_if_ne (tgt := 43) dX7_isNameByte_28 (by decide) (fun c28 => ?_) (fun c28 => ?_)
      · refine r_ic (1) dX7_isNameByte_43 rfl ?_
        refine r_goto (tgt := 48) dX7_isNameByte_44 (by decide) ?_
        refine r_ireturn dX7_isNameByte_48 _ rfl rfl ⟨rfl, by simp_all [bI, fNm, fLt]⟩
      · refine r_iload_n dX7_isNameByte_31 (by first | rfl | assumption) ?_
        refine r_bp (95) dX7_isNameByte_32 rfl ?_
        refine r_icmp_eq (tgt := 43) dX7_isNameByte_34 (by decide) (fun c34 => ?_) (fun c34 => ?_)
        · refine r_ic (1) dX7_isNameByte_43 rfl ?_
          refine r_goto (tgt := 48) dX7_isNameByte_44 (by decide) ?_
          refine r_ireturn dX7_isNameByte_48 _ rfl rfl ⟨rfl, by simp_all [bI, fNm, fLt]⟩
        · refine r_iload_n dX7_isNameByte_37 (by first | rfl | assumption) ?_
          refine r_bp (46) dX7_isNameByte_38 rfl ?_
          refine r_icmp_ne (tgt := 47) dX7_isNameByte_40 (by decide) (fun c40 => ?_) (fun c40 => ?_)
          · refine r_ic (0) dX7_isNameByte_47 rfl ?_
            refine r_ireturn dX7_isNameByte_48 _ rfl rfl ⟨rfl, by simp_all [bI, fNm, fLt]⟩
          · refine r_ic (1) dX7_isNameByte_43 rfl ?_
            refine r_goto (tgt := 48) dX7_isNameByte_44 (by decide) ?_
            refine r_ireturn dX7_isNameByte_48 _ rfl rfl ⟨rfl, by simp_all [bI, fNm, fLt]⟩
    · refine r_iload_n dX7_isNameByte_18 (by first | rfl | assumption) ?_
      refine r_bp (90) dX7_isNameByte_19 rfl ?_
      refine r_icmp_le (tgt := 43) dX7_isNameByte_21 (by decide) (fun c21 => ?_) (fun c21 => ?_)
      · refine r_ic (1) dX7_isNameByte_43 rfl ?_
        refine r_goto (tgt := 48) dX7_isNameByte_44 (by decide) ?_
        refine r_ireturn dX7_isNameByte_48 _ rfl rfl ⟨rfl, by simp_all [bI, fNm, fLt]⟩
      · refine r_iload_n dX7_isNameByte_24 (by first | rfl | assumption) ?_
        refine r_callS1 dX7_isNameByte_25 zm_X7_316 (Nat.le_of_ble_eq_true rfl) (Nat.le_of_ble_eq_true rfl) (C_X7_isDigit) (fun r S1 hr => ?_)
        obtain ⟨rfl, rfl⟩ := hr
        refine r_if_ne (tgt := 43) dX7_isNameByte_28 (by decide) (fun c28 => ?_) (fun c28 => ?_)
        · refine r_ic (1) dX7_isNameByte_43 rfl ?_
          refine r_goto (tgt := 48) dX7_isNameByte_44 (by decide) ?_
          refine r_ireturn dX7_isNameByte_48 _ rfl rfl ⟨rfl, by simp_all [bI, fNm, fLt]⟩
        · refine r_iload_n dX7_isNameByte_31 (by first | rfl | assumption) ?_
          refine r_bp (95) dX7_isNameByte_32 rfl ?_
          refine r_icmp_eq (tgt := 43) dX7_isNameByte_34 (by decide) (fun c34 => ?_) (fun c34 => ?_)
          · refine r_ic (1) dX7_isNameByte_43 rfl ?_
            refine r_goto (tgt := 48) dX7_isNameByte_44 (by decide) ?_
            refine r_ireturn dX7_isNameByte_48 _ rfl rfl ⟨rfl, by simp_all [bI, fNm, fLt]⟩
          · refine r_iload_n dX7_isNameByte_37 (by first | rfl | assumption) ?_
            refine r_bp (46) dX7_isNameByte_38 rfl ?_
            refine r_icmp_ne (tgt := 47) dX7_isNameByte_40 (by decide) (fun c40 => ?_) (fun c40 => ?_)
            · refine r_ic (0) dX7_isNameByte_47 rfl ?_
              refine r_ireturn dX7_isNameByte_48 _ rfl rfl ⟨rfl, by simp_all [bI, fNm, fLt]⟩
            · refine r_ic (1) dX7_isNameByte_43 rfl ?_
              refine r_goto (tgt := 48) dX7_isNameByte_44 (by decide) ?_
              refine r_ireturn dX7_isNameByte_48 _ rfl rfl ⟨rfl, by simp_all [bI, fNm, fLt]⟩
  · refine r_iload_n dX7_isNameByte_6 (by first | rfl | assumption) ?_
    refine r_bp (122) dX7_isNameByte_7 rfl ?_
    refine r_icmp_le (tgt := 43) dX7_isNameByte_9 (by decide) (fun c9 => ?_) (fun c9 => ?_)
    · refine r_ic (1) dX7_isNameByte_43 rfl ?_
      refine r_goto (tgt := 48) dX7_isNameByte_44 (by decide) ?_
      refine r_ireturn dX7_isNameByte_48 _ rfl rfl ⟨rfl, by simp_all [bI, fNm, fLt]⟩
    · refine r_iload_n dX7_isNameByte_12 (by first | rfl | assumption) ?_
      refine r_bp (65) dX7_isNameByte_13 rfl ?_
      refine r_icmp_lt (tgt := 24) dX7_isNameByte_15 (by decide) (fun c15 => ?_) (fun c15 => ?_)
      · refine r_iload_n dX7_isNameByte_24 (by first | rfl | assumption) ?_
        refine r_callS1 dX7_isNameByte_25 zm_X7_316 (Nat.le_of_ble_eq_true rfl) (Nat.le_of_ble_eq_true rfl) (C_X7_isDigit) (fun r S1 hr => ?_)
        obtain ⟨rfl, rfl⟩ := hr
        refine r_if_ne (tgt := 43) dX7_isNameByte_28 (by decide) (fun c28 => ?_) (fun c28 => ?_)
        · refine r_ic (1) dX7_isNameByte_43 rfl ?_
          refine r_goto (tgt := 48) dX7_isNameByte_44 (by decide) ?_
          refine r_ireturn dX7_isNameByte_48 _ rfl rfl ⟨rfl, by simp_all [bI, fNm, fLt]⟩
        · refine r_iload_n dX7_isNameByte_31 (by first | rfl | assumption) ?_
          refine r_bp (95) dX7_isNameByte_32 rfl ?_
          refine r_icmp_eq (tgt := 43) dX7_isNameByte_34 (by decide) (fun c34 => ?_) (fun c34 => ?_)
          · refine r_ic (1) dX7_isNameByte_43 rfl ?_
            refine r_goto (tgt := 48) dX7_isNameByte_44 (by decide) ?_
            refine r_ireturn dX7_isNameByte_48 _ rfl rfl ⟨rfl, by simp_all [bI, fNm, fLt]⟩
          · refine r_iload_n dX7_isNameByte_37 (by first | rfl | assumption) ?_
            refine r_bp (46) dX7_isNameByte_38 rfl ?_
            refine r_icmp_ne (tgt := 47) dX7_isNameByte_40 (by decide) (fun c40 => ?_) (fun c40 => ?_)
            · refine r_ic (0) dX7_isNameByte_47 rfl ?_
              refine r_ireturn dX7_isNameByte_48 _ rfl rfl ⟨rfl, by simp_all [bI, fNm, fLt]⟩
            · refine r_ic (1) dX7_isNameByte_43 rfl ?_
              refine r_goto (tgt := 48) dX7_isNameByte_44 (by decide) ?_
              refine r_ireturn dX7_isNameByte_48 _ rfl rfl ⟨rfl, by simp_all [bI, fNm, fLt]⟩
      · refine r_iload_n dX7_isNameByte_18 (by first | rfl | assumption) ?_
        refine r_bp (90) dX7_isNameByte_19 rfl ?_
        refine r_icmp_le (tgt := 43) dX7_isNameByte_21 (by decide) (fun c21 => ?_) (fun c21 => ?_)
        · refine r_ic (1) dX7_isNameByte_43 rfl ?_
          refine r_goto (tgt := 48) dX7_isNameByte_44 (by decide) ?_
          refine r_ireturn dX7_isNameByte_48 _ rfl rfl ⟨rfl, by simp_all [bI, fNm, fLt]⟩
        · refine r_iload_n dX7_isNameByte_24 (by first | rfl | assumption) ?_
          refine r_callS1 dX7_isNameByte_25 zm_X7_316 (Nat.le_of_ble_eq_true rfl) (Nat.le_of_ble_eq_true rfl) (C_X7_isDigit) (fun r S1 hr => ?_)
          obtain ⟨rfl, rfl⟩ := hr
          refine r_if_ne (tgt := 43) dX7_isNameByte_28 (by decide) (fun c28 => ?_) (fun c28 => ?_)
          · refine r_ic (1) dX7_isNameByte_43 rfl ?_
            refine r_goto (tgt := 48) dX7_isNameByte_44 (by decide) ?_
            refine r_ireturn dX7_isNameByte_48 _ rfl rfl ⟨rfl, by simp_all [bI, fNm, fLt]⟩
          · refine r_iload_n dX7_isNameByte_31 (by first | rfl | assumption) ?_
            refine r_bp (95) dX7_isNameByte_32 rfl ?_
            refine r_icmp_eq (tgt := 43) dX7_isNameByte_34 (by decide) (fun c34 => ?_) (fun c34 => ?_)
            · refine r_ic (1) dX7_isNameByte_43 rfl ?_
              refine r_goto (tgt := 48) dX7_isNameByte_44 (by decide) ?_
              refine r_ireturn dX7_isNameByte_48 _ rfl rfl ⟨rfl, by simp_all [bI, fNm, fLt]⟩
            · refine r_iload_n dX7_isNameByte_37 (by first | rfl | assumption) ?_
              refine r_bp (46) dX7_isNameByte_38 rfl ?_
              refine r_icmp_ne (tgt := 47) dX7_isNameByte_40 (by decide) (fun c40 => ?_) (fun c40 => ?_)
              · refine r_ic (0) dX7_isNameByte_47 rfl ?_
                refine r_ireturn dX7_isNameByte_48 _ rfl rfl ⟨rfl, by simp_all [bI, fNm, fLt]⟩
              · refine r_ic (1) dX7_isNameByte_43 rfl ?_
                refine r_goto (tgt := 48) dX7_isNameByte_44 (by decide) ?_
                refine r_ireturn dX7_isNameByte_48 _ rfl rfl ⟨rfl, by simp_all [bI, fNm, fLt]⟩
theorem C_X7_isPrintable {d : Nat} {S : zS} {x : Int32} : Rc d mX7_isPrintable [.int x] S (fun v S1 => S1 = S ∧ v = some (.int (bI (fPr x)))) := by
  refine Rc.of ?_
  refine r_iload_n dX7_isPrintable_0 (by first | rfl | assumption) ?_
  refine r_bp (32) dX7_isPrintable_1 rfl ?_
  refine r_icmp_lt (tgt := 16) dX7_isPrintable_3 (by decide) (fun c3 => ?_) (fun c3 => ?_)
  · refine r_ic (0) dX7_isPrintable_16 rfl ?_
    refine r_ireturn dX7_isPrintable_17 _ rfl rfl ⟨rfl, by simp [bI, fPr, *]⟩
  · refine r_iload_n dX7_isPrintable_6 (by first | rfl | assumption) ?_
    refine r_bp (126) dX7_isPrintable_7 rfl ?_
    refine r_icmp_gt (tgt := 16) dX7_isPrintable_9 (by decide) (fun c9 => ?_) (fun c9 => ?_)
    · refine r_ic (0) dX7_isPrintable_16 rfl ?_
      refine r_ireturn dX7_isPrintable_17 _ rfl rfl ⟨rfl, by simp [bI, fPr, *]⟩
    · refine r_ic (1) dX7_isPrintable_12 rfl ?_
      refine r_goto (tgt := 17) dX7_isPrintable_13 (by decide) ?_
      refine r_ireturn dX7_isPrintable_17 _ rfl rfl ⟨rfl, by simp [bI, fPr, *]⟩
theorem C_X7_digitIn {d : Nat} {S : zS} {b x : Int32} (hb : b = 2 ∨ b = 10 ∨ b = 16) : Rc (d + 1) mX7_digitIn [.int b, .int x] S (fun v S1 => S1 = S ∧ v = some (.int (if fHx x < b then fHx x else -1))) := by
  refine Rc.of ?_
  have hb9 : ¬ (99 : Int32) < b ∧ (-1 : Int32) < b := by rcases hb with rfl | rfl | rfl <;> decide
  refine r_ic (-1) dX7_digitIn_0 rfl ?_
  refine r_istore_n dX7_digitIn_1 (by decide) (by first | exact z_c1_i (by first | rfl | assumption) | exact z_c1_r (by first | rfl | assumption) | exact z_c1_n (by first | rfl | assumption) | exact z_c1_c (by first | rfl | assumption) | exact z_c1_0 (by first | rfl | assumption)) ?_
  refine r_iload_n dX7_digitIn_2 (by first | rfl | assumption) ?_
  refine r_callS1 dX7_digitIn_3 zm_X7_316 (Nat.le_of_ble_eq_true rfl) (Nat.le_of_ble_eq_true rfl) (C_X7_isDigit) (fun r S1 hr => ?_)
  obtain ⟨rfl, rfl⟩ := hr
  refine r_if_eq (tgt := 17) dX7_digitIn_6 (by decide) (fun c6 => ?_) (fun c6 => ?_)
  · refine r_iload_n dX7_digitIn_17 (by first | rfl | assumption) ?_
    refine r_bp (97) dX7_digitIn_18 rfl ?_
    refine r_icmp_lt (tgt := 40) dX7_digitIn_20 (by decide) (fun c20 => ?_) (fun c20 => ?_)
    · refine r_iload_n dX7_digitIn_40 (by first | rfl | assumption) ?_
      refine r_bp (65) dX7_digitIn_41 rfl ?_
      refine r_icmp_lt (tgt := 60) dX7_digitIn_43 (by decide) (fun c43 => ?_) (fun c43 => ?_)
      · refine r_iload_n dX7_digitIn_60 (by first | rfl | assumption) ?_
        refine r_iload_n dX7_digitIn_61 (by first | rfl | assumption) ?_
        refine r_icmp_ge (tgt := 69) dX7_digitIn_62 (by decide) (fun c62 => ?_) (fun c62 => ?_)
        · refine r_ic (-1) dX7_digitIn_69 rfl ?_
          refine r_ireturn dX7_digitIn_70 _ rfl rfl ⟨rfl, by simp_all [fHx, bI] <;> (intro q; exact absurd q (Int32.not_lt.mpr c62))⟩
        · refine r_iload_n dX7_digitIn_65 (by first | rfl | assumption) ?_
          refine r_goto (tgt := 70) dX7_digitIn_66 (by decide) ?_
          refine r_ireturn dX7_digitIn_70 _ rfl rfl ⟨rfl, by simp_all [fHx, bI] <;> (intro q; exact absurd q (Int32.not_lt.mpr c62))⟩
      · refine r_iload_n dX7_digitIn_46 (by first | rfl | assumption) ?_
        refine r_bp (70) dX7_digitIn_47 rfl ?_
        refine r_icmp_gt (tgt := 60) dX7_digitIn_49 (by decide) (fun c49 => ?_) (fun c49 => ?_)
        · refine r_iload_n dX7_digitIn_60 (by first | rfl | assumption) ?_
          refine r_iload_n dX7_digitIn_61 (by first | rfl | assumption) ?_
          refine r_icmp_ge (tgt := 69) dX7_digitIn_62 (by decide) (fun c62 => ?_) (fun c62 => ?_)
          · refine r_ic (-1) dX7_digitIn_69 rfl ?_
            refine r_ireturn dX7_digitIn_70 _ rfl rfl ⟨rfl, by simp_all [fHx, bI] <;> (intro q; exact absurd q (Int32.not_lt.mpr c62))⟩
          · refine r_iload_n dX7_digitIn_65 (by first | rfl | assumption) ?_
            refine r_goto (tgt := 70) dX7_digitIn_66 (by decide) ?_
            refine r_ireturn dX7_digitIn_70 _ rfl rfl ⟨rfl, by simp_all [fHx, bI] <;> (intro q; exact absurd q (Int32.not_lt.mpr c62))⟩
        · refine r_iload_n dX7_digitIn_52 (by first | rfl | assumption) ?_
          refine r_bp (65) dX7_digitIn_53 rfl ?_
          refine r_isub dX7_digitIn_55 ?_
          refine r_bp (10) dX7_digitIn_56 rfl ?_
          refine r_iadd dX7_digitIn_58 ?_
          refine r_istore_n dX7_digitIn_59 (by decide) (by first | exact z_c1_i (by first | rfl | assumption) | exact z_c1_r (by first | rfl | assumption) | exact z_c1_n (by first | rfl | assumption) | exact z_c1_c (by first | rfl | assumption) | exact z_c1_0 (by first | rfl | assumption)) ?_
          refine r_iload_n dX7_digitIn_60 (by first | rfl | assumption) ?_
          refine r_iload_n dX7_digitIn_61 (by first | rfl | assumption) ?_
          refine r_icmp_ge (tgt := 69) dX7_digitIn_62 (by decide) (fun c62 => ?_) (fun c62 => ?_)
          · refine r_ic (-1) dX7_digitIn_69 rfl ?_
            refine r_ireturn dX7_digitIn_70 _ rfl rfl ⟨rfl, by simp_all [fHx, bI] <;> (intro q; exact absurd q (Int32.not_lt.mpr c62))⟩
          · refine r_iload_n dX7_digitIn_65 (by first | rfl | assumption) ?_
            refine r_goto (tgt := 70) dX7_digitIn_66 (by decide) ?_
            refine r_ireturn dX7_digitIn_70 _ rfl rfl ⟨rfl, by simp_all [fHx, bI] <;> (intro q; exact absurd q (Int32.not_lt.mpr c62))⟩
    · refine r_iload_n dX7_digitIn_23 (by first | rfl | assumption) ?_
      refine r_bp (102) dX7_digitIn_24 rfl ?_
      refine r_icmp_gt (tgt := 40) dX7_digitIn_26 (by decide) (fun c26 => ?_) (fun c26 => ?_)
      · refine r_iload_n dX7_digitIn_40 (by first | rfl | assumption) ?_
        refine r_bp (65) dX7_digitIn_41 rfl ?_
        refine r_icmp_lt (tgt := 60) dX7_digitIn_43 (by decide) (fun c43 => ?_) (fun c43 => ?_)
        · refine r_iload_n dX7_digitIn_60 (by first | rfl | assumption) ?_
          refine r_iload_n dX7_digitIn_61 (by first | rfl | assumption) ?_
          refine r_icmp_ge (tgt := 69) dX7_digitIn_62 (by decide) (fun c62 => ?_) (fun c62 => ?_)
          · refine r_ic (-1) dX7_digitIn_69 rfl ?_
            refine r_ireturn dX7_digitIn_70 _ rfl rfl ⟨rfl, by simp_all [fHx, bI] <;> (intro q; exact absurd q (Int32.not_lt.mpr c62))⟩
          · refine r_iload_n dX7_digitIn_65 (by first | rfl | assumption) ?_
            refine r_goto (tgt := 70) dX7_digitIn_66 (by decide) ?_
            refine r_ireturn dX7_digitIn_70 _ rfl rfl ⟨rfl, by simp_all [fHx, bI] <;> (intro q; exact absurd q (Int32.not_lt.mpr c62))⟩
        · refine r_iload_n dX7_digitIn_46 (by first | rfl | assumption) ?_
          refine r_bp (70) dX7_digitIn_47 rfl ?_
          refine r_icmp_gt (tgt := 60) dX7_digitIn_49 (by decide) (fun c49 => ?_) (fun c49 => ?_)
          · refine r_iload_n dX7_digitIn_60 (by first | rfl | assumption) ?_
            refine r_iload_n dX7_digitIn_61 (by first | rfl | assumption) ?_
            refine r_icmp_ge (tgt := 69) dX7_digitIn_62 (by decide) (fun c62 => ?_) (fun c62 => ?_)
            · refine r_ic (-1) dX7_digitIn_69 rfl ?_
              refine r_ireturn dX7_digitIn_70 _ rfl rfl ⟨rfl, by simp_all [fHx, bI] <;> (intro q; exact absurd q (Int32.not_lt.mpr c62))⟩
            · refine r_iload_n dX7_digitIn_65 (by first | rfl | assumption) ?_
              refine r_goto (tgt := 70) dX7_digitIn_66 (by decide) ?_
              refine r_ireturn dX7_digitIn_70 _ rfl rfl ⟨rfl, by simp_all [fHx, bI] <;> (intro q; exact absurd q (Int32.not_lt.mpr c62))⟩
          · refine r_iload_n dX7_digitIn_52 (by first | rfl | assumption) ?_
            refine r_bp (65) dX7_digitIn_53 rfl ?_
            refine r_isub dX7_digitIn_55 ?_
            refine r_bp (10) dX7_digitIn_56 rfl ?_
            refine r_iadd dX7_digitIn_58 ?_
            refine r_istore_n dX7_digitIn_59 (by decide) (by first | exact z_c1_i (by first | rfl | assumption) | exact z_c1_r (by first | rfl | assumption) | exact z_c1_n (by first | rfl | assumption) | exact z_c1_c (by first | rfl | assumption) | exact z_c1_0 (by first | rfl | assumption)) ?_
            refine r_iload_n dX7_digitIn_60 (by first | rfl | assumption) ?_
            refine r_iload_n dX7_digitIn_61 (by first | rfl | assumption) ?_
            refine r_icmp_ge (tgt := 69) dX7_digitIn_62 (by decide) (fun c62 => ?_) (fun c62 => ?_)
            · refine r_ic (-1) dX7_digitIn_69 rfl ?_
              refine r_ireturn dX7_digitIn_70 _ rfl rfl ⟨rfl, by simp_all [fHx, bI] <;> (intro q; exact absurd q (Int32.not_lt.mpr c62))⟩
            · refine r_iload_n dX7_digitIn_65 (by first | rfl | assumption) ?_
              refine r_goto (tgt := 70) dX7_digitIn_66 (by decide) ?_
              refine r_ireturn dX7_digitIn_70 _ rfl rfl ⟨rfl, by simp_all [fHx, bI] <;> (intro q; exact absurd q (Int32.not_lt.mpr c62))⟩
      · refine r_iload_n dX7_digitIn_29 (by first | rfl | assumption) ?_
        refine r_bp (97) dX7_digitIn_30 rfl ?_
        refine r_isub dX7_digitIn_32 ?_
        refine r_bp (10) dX7_digitIn_33 rfl ?_
        refine r_iadd dX7_digitIn_35 ?_
        refine r_istore_n dX7_digitIn_36 (by decide) (by first | exact z_c1_i (by first | rfl | assumption) | exact z_c1_r (by first | rfl | assumption) | exact z_c1_n (by first | rfl | assumption) | exact z_c1_c (by first | rfl | assumption) | exact z_c1_0 (by first | rfl | assumption)) ?_
        refine r_goto (tgt := 60) dX7_digitIn_37 (by decide) ?_
        refine r_iload_n dX7_digitIn_60 (by first | rfl | assumption) ?_
        refine r_iload_n dX7_digitIn_61 (by first | rfl | assumption) ?_
        refine r_icmp_ge (tgt := 69) dX7_digitIn_62 (by decide) (fun c62 => ?_) (fun c62 => ?_)
        · refine r_ic (-1) dX7_digitIn_69 rfl ?_
          refine r_ireturn dX7_digitIn_70 _ rfl rfl ⟨rfl, by simp_all [fHx, bI] <;> (intro q; exact absurd q (Int32.not_lt.mpr c62))⟩
        · refine r_iload_n dX7_digitIn_65 (by first | rfl | assumption) ?_
          refine r_goto (tgt := 70) dX7_digitIn_66 (by decide) ?_
          refine r_ireturn dX7_digitIn_70 _ rfl rfl ⟨rfl, by simp_all [fHx, bI] <;> (intro q; exact absurd q (Int32.not_lt.mpr c62))⟩
  · refine r_iload_n dX7_digitIn_9 (by first | rfl | assumption) ?_
    refine r_bp (48) dX7_digitIn_10 rfl ?_
    refine r_isub dX7_digitIn_12 ?_
    refine r_istore_n dX7_digitIn_13 (by decide) (by first | exact z_c1_i (by first | rfl | assumption) | exact z_c1_r (by first | rfl | assumption) | exact z_c1_n (by first | rfl | assumption) | exact z_c1_c (by first | rfl | assumption) | exact z_c1_0 (by first | rfl | assumption)) ?_
    refine r_goto (tgt := 60) dX7_digitIn_14 (by decide) ?_
    refine r_iload_n dX7_digitIn_60 (by first | rfl | assumption) ?_
    refine r_iload_n dX7_digitIn_61 (by first | rfl | assumption) ?_
    refine r_icmp_ge (tgt := 69) dX7_digitIn_62 (by decide) (fun c62 => ?_) (fun c62 => ?_)
    · refine r_ic (-1) dX7_digitIn_69 rfl ?_
      refine r_ireturn dX7_digitIn_70 _ rfl rfl ⟨rfl, by simp_all [fHx, bI] <;> (intro q; exact absurd q (Int32.not_lt.mpr c62))⟩
    · refine r_iload_n dX7_digitIn_65 (by first | rfl | assumption) ?_
      refine r_goto (tgt := 70) dX7_digitIn_66 (by decide) ?_
      refine r_ireturn dX7_digitIn_70 _ rfl rfl ⟨rfl, by simp_all [fHx, bI] <;> (intro q; exact absurd q (Int32.not_lt.mpr c62))⟩
theorem C_X8_isLetter {d : Nat} {S : zS} {x : Int32} : Rc d mX8_isLetter [.int x] S (fun v S1 => S1 = S ∧ v = some (.int (bI (fLt x)))) := by
  refine Rc.of ?_
  refine r_iload_n dX8_isLetter_0 (by first | rfl | assumption) ?_
  refine r_bp (97) dX8_isLetter_1 rfl ?_
  refine r_icmp_lt (tgt := 12) dX8_isLetter_3 (by decide) (fun c3 => ?_) (fun c3 => ?_)
  · refine r_iload_n dX8_isLetter_12 (by first | rfl | assumption) ?_
    refine r_bp (65) dX8_isLetter_13 rfl ?_
    refine r_icmp_lt (tgt := 24) dX8_isLetter_15 (by decide) (fun c15 => ?_) (fun c15 => ?_)
    · refine r_iload_n dX8_isLetter_24 (by first | rfl | assumption) ?_
      refine r_bp (95) dX8_isLetter_25 rfl ?_
      refine r_icmp_eq (tgt := 36) dX8_isLetter_27 (by decide) (fun c27 => ?_) (fun c27 => ?_)
      · refine r_ic (1) dX8_isLetter_36 rfl ?_
        refine r_goto (tgt := 41) dX8_isLetter_37 (by decide) ?_
        refine r_ireturn dX8_isLetter_41 _ rfl rfl ⟨rfl, by simp_all [bI, fLt]⟩
      · refine r_iload_n dX8_isLetter_30 (by first | rfl | assumption) ?_
        refine r_bp (46) dX8_isLetter_31 rfl ?_
        refine r_icmp_ne (tgt := 40) dX8_isLetter_33 (by decide) (fun c33 => ?_) (fun c33 => ?_)
        · refine r_ic (0) dX8_isLetter_40 rfl ?_
          refine r_ireturn dX8_isLetter_41 _ rfl rfl ⟨rfl, by simp_all [bI, fLt]⟩
        · refine r_ic (1) dX8_isLetter_36 rfl ?_
          refine r_goto (tgt := 41) dX8_isLetter_37 (by decide) ?_
          refine r_ireturn dX8_isLetter_41 _ rfl rfl ⟨rfl, by simp_all [bI, fLt]⟩
    · refine r_iload_n dX8_isLetter_18 (by first | rfl | assumption) ?_
      refine r_bp (90) dX8_isLetter_19 rfl ?_
      refine r_icmp_le (tgt := 36) dX8_isLetter_21 (by decide) (fun c21 => ?_) (fun c21 => ?_)
      · refine r_ic (1) dX8_isLetter_36 rfl ?_
        refine r_goto (tgt := 41) dX8_isLetter_37 (by decide) ?_
        refine r_ireturn dX8_isLetter_41 _ rfl rfl ⟨rfl, by simp_all [bI, fLt]⟩
      · refine r_iload_n dX8_isLetter_24 (by first | rfl | assumption) ?_
        refine r_bp (95) dX8_isLetter_25 rfl ?_
        refine r_icmp_eq (tgt := 36) dX8_isLetter_27 (by decide) (fun c27 => ?_) (fun c27 => ?_)
        · refine r_ic (1) dX8_isLetter_36 rfl ?_
          refine r_goto (tgt := 41) dX8_isLetter_37 (by decide) ?_
          refine r_ireturn dX8_isLetter_41 _ rfl rfl ⟨rfl, by simp_all [bI, fLt]⟩
        · refine r_iload_n dX8_isLetter_30 (by first | rfl | assumption) ?_
          refine r_bp (46) dX8_isLetter_31 rfl ?_
          refine r_icmp_ne (tgt := 40) dX8_isLetter_33 (by decide) (fun c33 => ?_) (fun c33 => ?_)
          · refine r_ic (0) dX8_isLetter_40 rfl ?_
            refine r_ireturn dX8_isLetter_41 _ rfl rfl ⟨rfl, by simp_all [bI, fLt]⟩
          · refine r_ic (1) dX8_isLetter_36 rfl ?_
            refine r_goto (tgt := 41) dX8_isLetter_37 (by decide) ?_
            refine r_ireturn dX8_isLetter_41 _ rfl rfl ⟨rfl, by simp_all [bI, fLt]⟩
  · refine r_iload_n dX8_isLetter_6 (by first | rfl | assumption) ?_
    refine r_bp (122) dX8_isLetter_7 rfl ?_
    refine r_icmp_le (tgt := 36) dX8_isLetter_9 (by decide) (fun c9 => ?_) (fun c9 => ?_)
    · refine r_ic (1) dX8_isLetter_36 rfl ?_
      refine r_goto (tgt := 41) dX8_isLetter_37 (by decide) ?_
      refine r_ireturn dX8_isLetter_41 _ rfl rfl ⟨rfl, by simp_all [bI, fLt]⟩
    · refine r_iload_n dX8_isLetter_12 (by first | rfl | assumption) ?_
      refine r_bp (65) dX8_isLetter_13 rfl ?_
      refine r_icmp_lt (tgt := 24) dX8_isLetter_15 (by decide) (fun c15 => ?_) (fun c15 => ?_)
      · refine r_iload_n dX8_isLetter_24 (by first | rfl | assumption) ?_
        refine r_bp (95) dX8_isLetter_25 rfl ?_
        refine r_icmp_eq (tgt := 36) dX8_isLetter_27 (by decide) (fun c27 => ?_) (fun c27 => ?_)
        · refine r_ic (1) dX8_isLetter_36 rfl ?_
          refine r_goto (tgt := 41) dX8_isLetter_37 (by decide) ?_
          refine r_ireturn dX8_isLetter_41 _ rfl rfl ⟨rfl, by simp_all [bI, fLt]⟩
        · refine r_iload_n dX8_isLetter_30 (by first | rfl | assumption) ?_
          refine r_bp (46) dX8_isLetter_31 rfl ?_
          refine r_icmp_ne (tgt := 40) dX8_isLetter_33 (by decide) (fun c33 => ?_) (fun c33 => ?_)
          · refine r_ic (0) dX8_isLetter_40 rfl ?_
            refine r_ireturn dX8_isLetter_41 _ rfl rfl ⟨rfl, by simp_all [bI, fLt]⟩
          · refine r_ic (1) dX8_isLetter_36 rfl ?_
            refine r_goto (tgt := 41) dX8_isLetter_37 (by decide) ?_
            refine r_ireturn dX8_isLetter_41 _ rfl rfl ⟨rfl, by simp_all [bI, fLt]⟩
      · refine r_iload_n dX8_isLetter_18 (by first | rfl | assumption) ?_
        refine r_bp (90) dX8_isLetter_19 rfl ?_
        refine r_icmp_le (tgt := 36) dX8_isLetter_21 (by decide) (fun c21 => ?_) (fun c21 => ?_)
        · refine r_ic (1) dX8_isLetter_36 rfl ?_
          refine r_goto (tgt := 41) dX8_isLetter_37 (by decide) ?_
          refine r_ireturn dX8_isLetter_41 _ rfl rfl ⟨rfl, by simp_all [bI, fLt]⟩
        · refine r_iload_n dX8_isLetter_24 (by first | rfl | assumption) ?_
          refine r_bp (95) dX8_isLetter_25 rfl ?_
          refine r_icmp_eq (tgt := 36) dX8_isLetter_27 (by decide) (fun c27 => ?_) (fun c27 => ?_)
          · refine r_ic (1) dX8_isLetter_36 rfl ?_
            refine r_goto (tgt := 41) dX8_isLetter_37 (by decide) ?_
            refine r_ireturn dX8_isLetter_41 _ rfl rfl ⟨rfl, by simp_all [bI, fLt]⟩
          · refine r_iload_n dX8_isLetter_30 (by first | rfl | assumption) ?_
            refine r_bp (46) dX8_isLetter_31 rfl ?_
            refine r_icmp_ne (tgt := 40) dX8_isLetter_33 (by decide) (fun c33 => ?_) (fun c33 => ?_)
            · refine r_ic (0) dX8_isLetter_40 rfl ?_
              refine r_ireturn dX8_isLetter_41 _ rfl rfl ⟨rfl, by simp_all [bI, fLt]⟩
            · refine r_ic (1) dX8_isLetter_36 rfl ?_
              refine r_goto (tgt := 41) dX8_isLetter_37 (by decide) ?_
              refine r_ireturn dX8_isLetter_41 _ rfl rfl ⟨rfl, by simp_all [bI, fLt]⟩
theorem C_X8_isDigit {d : Nat} {S : zS} {x : Int32} : Rc d mX8_isDigit [.int x] S (fun v S1 => S1 = S ∧ v = some (.int (bI (fDg x)))) := by
  refine Rc.of ?_
  refine r_iload_n dX8_isDigit_0 (by first | rfl | assumption) ?_
  refine r_bp (48) dX8_isDigit_1 rfl ?_
  refine r_icmp_lt (tgt := 16) dX8_isDigit_3 (by decide) (fun c3 => ?_) (fun c3 => ?_)
  · refine r_ic (0) dX8_isDigit_16 rfl ?_
    refine r_ireturn dX8_isDigit_17 _ rfl rfl ⟨rfl, by simp [bI, fDg, *]⟩
  · refine r_iload_n dX8_isDigit_6 (by first | rfl | assumption) ?_
    refine r_bp (57) dX8_isDigit_7 rfl ?_
    refine r_icmp_gt (tgt := 16) dX8_isDigit_9 (by decide) (fun c9 => ?_) (fun c9 => ?_)
    · refine r_ic (0) dX8_isDigit_16 rfl ?_
      refine r_ireturn dX8_isDigit_17 _ rfl rfl ⟨rfl, by simp [bI, fDg, *]⟩
    · refine r_ic (1) dX8_isDigit_12 rfl ?_
      refine r_goto (tgt := 17) dX8_isDigit_13 (by decide) ?_
      refine r_ireturn dX8_isDigit_17 _ rfl rfl ⟨rfl, by simp [bI, fDg, *]⟩
theorem C_X8_isNamed {d : Nat} {S : zS} {x : Int32} : Rc (d + 1) mX8_isNamed [.int x] S (fun v S1 => S1 = S ∧ v = some (.int (bI (fNm x)))) := by
  refine Rc.of ?_
  refine r_iload_n dX8_isNamed_0 (by first | rfl | assumption) ?_
  refine r_callS1 dX8_isNamed_1 zm_X8_110 (Nat.le_of_ble_eq_true rfl) (Nat.le_of_ble_eq_true rfl) (C_X8_isLetter) (fun r S1 hr => ?_)
  obtain ⟨rfl, rfl⟩ := hr
  refine r_if_ne (tgt := 14) dX8_isNamed_4 (by decide) (fun c4 => ?_) (fun c4 => ?_)
  · refine r_ic (1) dX8_isNamed_14 rfl ?_
    refine r_goto (tgt := 19) dX8_isNamed_15 (by decide) ?_
    refine r_ireturn dX8_isNamed_19 _ rfl rfl ⟨rfl, by simp_all [bI, fNm]⟩
  · refine r_iload_n dX8_isNamed_7 (by first | rfl | assumption) ?_
    refine r_callS1 dX8_isNamed_8 zm_X8_114 (Nat.le_of_ble_eq_true rfl) (Nat.le_of_ble_eq_true rfl) (C_X8_isDigit) (fun r S1 hr => ?_)
    obtain ⟨rfl, rfl⟩ := hr
    refine r_if_eq (tgt := 18) dX8_isNamed_11 (by decide) (fun c11 => ?_) (fun c11 => ?_)
    · refine r_ic (0) dX8_isNamed_18 rfl ?_
      refine r_ireturn dX8_isNamed_19 _ rfl rfl ⟨rfl, by simp_all [bI, fNm]⟩
    · refine r_ic (1) dX8_isNamed_14 rfl ?_
      refine r_goto (tgt := 19) dX8_isNamed_15 (by decide) ?_
      refine r_ireturn dX8_isNamed_19 _ rfl rfl ⟨rfl, by simp_all [bI, fNm]⟩
theorem C_X8_digitOf {d : Nat} {S : zS} {x : Int32} : Rc (d + 1) mX8_digitOf [.int x] S (fun v S1 => S1 = S ∧ v = some (.int (fHx x))) := by
  refine Rc.of ?_
  refine r_iload_n dX8_digitOf_0 (by first | rfl | assumption) ?_
  refine r_callS1 dX8_digitOf_1 zm_X8_114 (Nat.le_of_ble_eq_true rfl) (Nat.le_of_ble_eq_true rfl) (C_X8_isDigit) (fun r S1 hr => ?_)
  obtain ⟨rfl, rfl⟩ := hr
  refine r_if_eq (tgt := 14) dX8_digitOf_4 (by decide) (fun c4 => ?_) (fun c4 => ?_)
  · refine r_iload_n dX8_digitOf_14 (by first | rfl | assumption) ?_
    refine r_bp (97) dX8_digitOf_15 rfl ?_
    refine r_icmp_lt (tgt := 36) dX8_digitOf_17 (by decide) (fun c17 => ?_) (fun c17 => ?_)
    · refine r_iload_n dX8_digitOf_36 (by first | rfl | assumption) ?_
      refine r_bp (65) dX8_digitOf_37 rfl ?_
      refine r_icmp_lt (tgt := 58) dX8_digitOf_39 (by decide) (fun c39 => ?_) (fun c39 => ?_)
      · refine r_bp (99) dX8_digitOf_58 rfl ?_
        refine r_ireturn dX8_digitOf_60 _ rfl rfl ⟨rfl, by simp_all [fHx, bI]⟩
      · refine r_iload_n dX8_digitOf_42 (by first | rfl | assumption) ?_
        refine r_bp (70) dX8_digitOf_43 rfl ?_
        refine r_icmp_gt (tgt := 58) dX8_digitOf_45 (by decide) (fun c45 => ?_) (fun c45 => ?_)
        · refine r_bp (99) dX8_digitOf_58 rfl ?_
          refine r_ireturn dX8_digitOf_60 _ rfl rfl ⟨rfl, by simp_all [fHx, bI]⟩
        · refine r_iload_n dX8_digitOf_48 (by first | rfl | assumption) ?_
          refine r_bp (65) dX8_digitOf_49 rfl ?_
          refine r_isub dX8_digitOf_51 ?_
          refine r_bp (10) dX8_digitOf_52 rfl ?_
          refine r_iadd dX8_digitOf_54 ?_
          refine r_goto (tgt := 60) dX8_digitOf_55 (by decide) ?_
          refine r_ireturn dX8_digitOf_60 _ rfl rfl ⟨rfl, by simp_all [fHx, bI]⟩
    · refine r_iload_n dX8_digitOf_20 (by first | rfl | assumption) ?_
      refine r_bp (102) dX8_digitOf_21 rfl ?_
      refine r_icmp_gt (tgt := 36) dX8_digitOf_23 (by decide) (fun c23 => ?_) (fun c23 => ?_)
      · refine r_iload_n dX8_digitOf_36 (by first | rfl | assumption) ?_
        refine r_bp (65) dX8_digitOf_37 rfl ?_
        refine r_icmp_lt (tgt := 58) dX8_digitOf_39 (by decide) (fun c39 => ?_) (fun c39 => ?_)
        · refine r_bp (99) dX8_digitOf_58 rfl ?_
          refine r_ireturn dX8_digitOf_60 _ rfl rfl ⟨rfl, by simp_all [fHx, bI]⟩
        · refine r_iload_n dX8_digitOf_42 (by first | rfl | assumption) ?_
          refine r_bp (70) dX8_digitOf_43 rfl ?_
          refine r_icmp_gt (tgt := 58) dX8_digitOf_45 (by decide) (fun c45 => ?_) (fun c45 => ?_)
          · refine r_bp (99) dX8_digitOf_58 rfl ?_
            refine r_ireturn dX8_digitOf_60 _ rfl rfl ⟨rfl, by simp_all [fHx, bI]⟩
          · refine r_iload_n dX8_digitOf_48 (by first | rfl | assumption) ?_
            refine r_bp (65) dX8_digitOf_49 rfl ?_
            refine r_isub dX8_digitOf_51 ?_
            refine r_bp (10) dX8_digitOf_52 rfl ?_
            refine r_iadd dX8_digitOf_54 ?_
            refine r_goto (tgt := 60) dX8_digitOf_55 (by decide) ?_
            refine r_ireturn dX8_digitOf_60 _ rfl rfl ⟨rfl, by simp_all [fHx, bI]⟩
      · refine r_iload_n dX8_digitOf_26 (by first | rfl | assumption) ?_
        refine r_bp (97) dX8_digitOf_27 rfl ?_
        refine r_isub dX8_digitOf_29 ?_
        refine r_bp (10) dX8_digitOf_30 rfl ?_
        refine r_iadd dX8_digitOf_32 ?_
        refine r_goto (tgt := 60) dX8_digitOf_33 (by decide) ?_
        refine r_ireturn dX8_digitOf_60 _ rfl rfl ⟨rfl, by simp_all [fHx, bI]⟩
  · refine r_iload_n dX8_digitOf_7 (by first | rfl | assumption) ?_
    refine r_bp (48) dX8_digitOf_8 rfl ?_
    refine r_isub dX8_digitOf_10 ?_
    refine r_goto (tgt := 60) dX8_digitOf_11 (by decide) ?_
    refine r_ireturn dX8_digitOf_60 _ rfl rfl ⟨rfl, by simp_all [fHx, bI]⟩
