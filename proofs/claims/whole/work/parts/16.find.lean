/-- the end that belongs to a word, or its else: of the next k lines from 'at' on, with op begun ones open -/
def fnd (ws : List Nat) (en bg : Nat) (cnt oe : Bool) : Nat → Nat → Nat → Option Nat
  | 0, _, _ => none
  | k + 1, i, op => if op = 0 ∧ (ws.getD i 0 = en ∨ (oe = true ∧ ws.getD i 0 = 2)) then some i else fnd ws en bg cnt oe k (i + 1) (if ws.getD i 0 = en then op - 1 else if cnt = true ∧ ws.getD i 0 = bg then op + 1 else op)
def fnz (ws : List Nat) (fr to bg : Nat) (oe : Bool) : Option Nat := fnd ws (endW bg) bg (decide (bg ≠ 6)) oe (to - fr) fr 0
def oI (r : Option Nat) : Int32 := match r with
  | some n => nI n
  | none => -1
theorem iAt_map {ws : List Nat} {i : Nat} (h : ws.length < 2 ^ 31) (hi : i < 2 ^ 31) : iAt (ws.map nI) (nI i) = nI (ws.getD i 0) := by
  by_cases q : i < ws.length
  · rw [iAt_in (by rw [List.length_map]; exact q) (by rw [List.length_map]; exact h), List.getD_eq_getElem?_getD, List.getD_eq_getElem?_getD, List.getElem?_map, List.getElem?_eq_getElem q]
    rfl
  · rw [iAt_out (by rw [List.length_map]; omega) hi, List.getD_eq_getElem?_getD, List.getElem?_eq_none (by omega)]
    rfl
set_option maxRecDepth 10000 in
set_option maxHeartbeats 2000000 in
theorem C_X5_find {d : Nat} {S : zS} {E : zE} {lB lI : List Nat} {B C src s e w b fr to bg bnd : Nat} {ws : List Nat} {oe : Bool} (h : isS S src s e w b) (hV : Vw S E lB lI B C) (hw : E.2.1 w = some (bnd, ws.map nI)) (hww : ∀ i, ws.getD i 0 < 8) (hbg : bg = 1 ∨ bg = 4 ∨ bg = 6) (hfr : fr ≤ 65537) (hto : to ≤ 65537) : Rc (d + 1) mX5_find [.ref src, .int (nI fr), .int (nI to), .int (nI bg), .int (bI oe)] S (fun v S1 => S1 = S ∧ v = some (.int (oI (fnz ws fr to bg oe)))) := by
  have h : S.2.2 src = .inr (6, [.ref s, .ref e, .ref w, .ref b]) := h
  have kw := (hV.i hw).1
  have hwl : ws.length ≤ 65536 := by
    have k := hV.i hw
    have := k.2.2.2.1
    rw [List.length_map] at this
    omega
  have kw1 := kw.1
  have hen : endW bg < 8 := by rcases hbg with rfl | rfl | rfl <;> decide
  refine Rc.of ?_
  have loop : ∀ (k i op : Nat) (L : Nat → Option Value), to - i = k → i ≤ 65537 → op ≤ i → fnd ws (endW bg) bg (decide (bg ≠ 6)) oe k i op = fnz ws fr to bg oe → L 0 = some (.ref src) → L 1 = some (.int (nI fr)) → L 2 = some (.int (nI to)) → L 3 = some (.int (nI bg)) → L 4 = some (.int (bI oe)) → L 5 = some (.int (nI (endW bg))) → L 6 = some (.int (bI (decide (bg ≠ 6)))) → L 7 = some (.int (nI op)) → L 8 = some (.int (nI i)) → Ru (d + 1) mX5_find 25 L [] S (z_en mX5_find (fun v S1 => S1 = S ∧ v = some (.int (oI (fnz ws fr to bg oe))))) := by
    intro k
    induction k with
    | zero =>
      intro i op L hk hi hop hs l0 l1 l2 l3 l4 l5 l6 l7 l8
      refine r_iload dX5_find_25 (by first | rfl | assumption) ?_
      refine r_iload_n dX5_find_27 (by first | rfl | assumption) ?_
      refine r_icmp_ge_t (tgt := 101) dX5_find_28 (by decide) (nI_le (show to ≤ i by omega) (by omega)) ?_
      refine r_ic (-1) dX5_find_101 rfl ?_
      refine r_ireturn dX5_find_102 _ rfl rfl ⟨rfl, by rw [← hs]; rfl⟩
    | succ k ih =>
      intro i op L hk hi hop hs l0 l1 l2 l3 l4 l5 l6 l7 l8
      refine r_iload dX5_find_25 (by first | rfl | assumption) ?_
      refine r_iload_n dX5_find_27 (by first | rfl | assumption) ?_
      refine r_icmp_ge_f (tgt := 101) dX5_find_28 (by decide) (nI_ge (show i < to by omega) (by omega)) ?_
      refine r_aload_n dX5_find_31 (by first | rfl | assumption) ?_
      refine r_getf dX5_find_32 zf_X5_21 (by assumption) rfl ?_
      refine r_iload dX5_find_35 (by first | rfl | assumption) ?_
      refine r_callV1 dX5_find_37 zm_X5_63 (by assumption) rfl (Nat.le_of_ble_eq_true rfl) (Nat.le_of_ble_eq_true rfl) (C_X1_at kw) (fun v S9 hv => ?_)
      obtain ⟨rfl, rfl⟩ := hv
      rw [iAt_map (by omega) (by omega)]
      have hwi := hww i
      refine r_istore dX5_find_40 (by decide) (by first | exact z_c1_i (by first | rfl | assumption) | exact z_c1_r (by first | rfl | assumption) | exact z_c1_n (by first | rfl | assumption) | exact z_c1_c (by first | rfl | assumption) | exact z_c1_0 (by first | rfl | assumption)) ?_
      generalize hL9 : z_s1 L 9 (Value.int (nI (ws.getD i 0))) = L9
      have m0 : L9 0 = some (.ref src) := by rw [← hL9]; exact l0
      have m1 : L9 1 = some (.int (nI fr)) := by rw [← hL9]; exact l1
      have m2 : L9 2 = some (.int (nI to)) := by rw [← hL9]; exact l2
      have m3 : L9 3 = some (.int (nI bg)) := by rw [← hL9]; exact l3
      have m4 : L9 4 = some (.int (bI oe)) := by rw [← hL9]; exact l4
      have m5 : L9 5 = some (.int (nI (endW bg))) := by rw [← hL9]; exact l5
      have m6 : L9 6 = some (.int (bI (decide (bg ≠ 6)))) := by rw [← hL9]; exact l6
      have m7 : L9 7 = some (.int (nI op)) := by rw [← hL9]; exact l7
      have m8 : L9 8 = some (.int (nI i)) := by rw [← hL9]; exact l8
      have m9 : L9 9 = some (.int (nI (ws.getD i 0))) := by rw [← hL9]; rfl
      clear hL9
      unfold fnd at hs
      have hlow : bg < 8 := by omega
      have N : ¬ (op = 0 ∧ (ws.getD i 0 = endW bg ∨ (oe = true ∧ ws.getD i 0 = 2))) → Ru (d + 1) mX5_find 68 L9 [] S9 (z_en mX5_find (fun v S1 => S1 = S9 ∧ v = some (.int (oI (fnz ws fr to bg oe))))) := by
        intro hc
        rw [if_neg hc] at hs
        refine r_iload dX5_find_68 (by first | rfl | assumption) ?_
        refine r_iload dX5_find_70 (by first | rfl | assumption) ?_
        by_cases q1 : ws.getD i 0 = endW bg
        · rw [if_pos q1] at hs
          have hop0 : op ≠ 0 := fun e => hc ⟨e, Or.inl q1⟩
          obtain ⟨o2, rfl⟩ : ∃ o2, op = o2 + 1 := ⟨op - 1, by omega⟩
          refine r_icmp_ne_f (tgt := 81) dX5_find_72 (by decide) (by rw [q1]) ?_
          refine r_inc (nI o2) dX5_find_75 (by first | rfl | assumption) (by decide) (by first | exact z_c1_i (by first | rfl | assumption) | exact z_c1_r (by first | rfl | assumption) | exact z_c1_n (by first | rfl | assumption) | exact z_c1_c (by first | rfl | assumption) | exact z_c1_0 (by first | rfl | assumption)) (pk_m1 o2) ?_
          refine r_goto (tgt := 95) dX5_find_78 (by decide) ?_
          refine r_inc (nI (i + 1)) dX5_find_95 (by first | rfl | assumption) (by decide) (by first | exact z_c1_i (by first | rfl | assumption) | exact z_c1_r (by first | rfl | assumption) | exact z_c1_n (by first | rfl | assumption) | exact z_c1_c (by first | rfl | assumption) | exact z_c1_0 (by first | rfl | assumption)) (nI_1 i) ?_
          refine r_goto (tgt := 25) dX5_find_98 (by decide) ?_
          exact ih (i + 1) o2 _ (by omega) (by omega) (by omega) hs m0 m1 m2 m3 m4 m5 m6 rfl rfl
        · rw [if_neg q1] at hs
          refine r_icmp_ne_t (tgt := 81) dX5_find_72 (by decide) (fun q => q1 ((nI_eq (by omega) (by omega)).mp q)) ?_
          refine r_iload dX5_find_81 (by first | rfl | assumption) ?_
          by_cases q2 : decide (bg ≠ 6) = true
          · refine r_if_eq_f (tgt := 95) dX5_find_83 (by decide) (by rw [q2]; decide) ?_
            refine r_iload dX5_find_86 (by first | rfl | assumption) ?_
            refine r_iload_n dX5_find_88 (by first | rfl | assumption) ?_
            by_cases q3 : ws.getD i 0 = bg
            · rw [if_pos ⟨q2, q3⟩] at hs
              refine r_icmp_ne_f (tgt := 95) dX5_find_89 (by decide) (by rw [q3]) ?_
              refine r_inc (nI (op + 1)) dX5_find_92 (by first | rfl | assumption) (by decide) (by first | exact z_c1_i (by first | rfl | assumption) | exact z_c1_r (by first | rfl | assumption) | exact z_c1_n (by first | rfl | assumption) | exact z_c1_c (by first | rfl | assumption) | exact z_c1_0 (by first | rfl | assumption)) (nI_1 op) ?_
              refine r_inc (nI (i + 1)) dX5_find_95 (by first | rfl | assumption) (by decide) (by first | exact z_c1_i (by first | rfl | assumption) | exact z_c1_r (by first | rfl | assumption) | exact z_c1_n (by first | rfl | assumption) | exact z_c1_c (by first | rfl | assumption) | exact z_c1_0 (by first | rfl | assumption)) (nI_1 i) ?_
              refine r_goto (tgt := 25) dX5_find_98 (by decide) ?_
              exact ih (i + 1) (op + 1) _ (by omega) (by omega) (by omega) hs m0 m1 m2 m3 m4 m5 m6 rfl rfl
            · rw [if_neg (fun q => q3 q.2)] at hs
              refine r_icmp_ne_t (tgt := 95) dX5_find_89 (by decide) (fun q => q3 ((nI_eq (by omega) (by omega)).mp q)) ?_
              refine r_inc (nI (i + 1)) dX5_find_95 (by first | rfl | assumption) (by decide) (by first | exact z_c1_i (by first | rfl | assumption) | exact z_c1_r (by first | rfl | assumption) | exact z_c1_n (by first | rfl | assumption) | exact z_c1_c (by first | rfl | assumption) | exact z_c1_0 (by first | rfl | assumption)) (nI_1 i) ?_
              refine r_goto (tgt := 25) dX5_find_98 (by decide) ?_
              exact ih (i + 1) op _ (by omega) (by omega) (by omega) hs m0 m1 m2 m3 m4 m5 m6 m7 rfl
          · rw [if_neg (fun q => q2 q.1)] at hs
            refine r_if_eq_t (tgt := 95) dX5_find_83 (by decide) (by rw [Bool.eq_false_iff.mpr q2]; rfl) ?_
            refine r_inc (nI (i + 1)) dX5_find_95 (by first | rfl | assumption) (by decide) (by first | exact z_c1_i (by first | rfl | assumption) | exact z_c1_r (by first | rfl | assumption) | exact z_c1_n (by first | rfl | assumption) | exact z_c1_c (by first | rfl | assumption) | exact z_c1_0 (by first | rfl | assumption)) (nI_1 i) ?_
            refine r_goto (tgt := 25) dX5_find_98 (by decide) ?_
            exact ih (i + 1) op _ (by omega) (by omega) (by omega) hs m0 m1 m2 m3 m4 m5 m6 m7 rfl
      refine r_iload dX5_find_42 (by first | rfl | assumption) ?_
      by_cases q0 : op = 0
      · refine r_if_ne_f (tgt := 68) dX5_find_44 (by decide) (by rw [q0]; rfl) ?_
        refine r_iload dX5_find_47 (by first | rfl | assumption) ?_
        refine r_iload dX5_find_49 (by first | rfl | assumption) ?_
        by_cases q1 : ws.getD i 0 = endW bg
        · rw [if_pos ⟨q0, Or.inl q1⟩] at hs
          refine r_icmp_eq_t (tgt := 65) dX5_find_51 (by decide) (by rw [q1]) ?_
          refine r_iload dX5_find_65 (by first | rfl | assumption) ?_
          refine r_ireturn dX5_find_67 _ rfl rfl ⟨rfl, by rw [← hs]; rfl⟩
        · refine r_icmp_eq_f (tgt := 65) dX5_find_51 (by decide) (fun q => q1 ((nI_eq (by omega) (by omega)).mp q)) ?_
          refine r_iload dX5_find_54 (by first | rfl | assumption) ?_
          by_cases q2 : oe = true
          · refine r_if_eq_f (tgt := 68) dX5_find_56 (by decide) (by rw [q2]; decide) ?_
            refine r_iload dX5_find_59 (by first | rfl | assumption) ?_
            refine r_ic (2) dX5_find_61 rfl ?_
            by_cases q3 : ws.getD i 0 = 2
            · rw [if_pos ⟨q0, Or.inr ⟨q2, q3⟩⟩] at hs
              refine r_icmp_ne_f (tgt := 68) dX5_find_62 (by decide) (by rw [q3]; rfl) ?_
              refine r_iload dX5_find_65 (by first | rfl | assumption) ?_
              refine r_ireturn dX5_find_67 _ rfl rfl ⟨rfl, by rw [← hs]; rfl⟩
            · refine r_icmp_ne_t (tgt := 68) dX5_find_62 (by decide) (fun q => q3 ((nI_eq (by omega) (by decide)).mp q)) ?_
              exact N (fun q => q.2.elim q1 (fun q => q3 q.2))
          · refine r_if_eq_t (tgt := 68) dX5_find_56 (by decide) (by rw [Bool.eq_false_iff.mpr q2]; rfl) ?_
            exact N (fun q => q.2.elim q1 (fun q => q2 q.1))
      · refine r_if_ne_t (tgt := 68) dX5_find_44 (by decide) (nI_ne0 (by omega) (by omega)) ?_
        exact N (fun q => q0 q.1)
  refine r_iload_n dX5_find_0 (by first | rfl | assumption) ?_
  refine r_callSN1 dX5_find_1 zm_X5_64 (Nat.le_of_ble_eq_true rfl) (Nat.le_of_ble_eq_true rfl) (C_X7_endWord hbg) (fun v S9 hv => ?_)
  obtain ⟨rfl, rfl⟩ := hv
  refine r_istore dX5_find_4 (by decide) (by first | exact z_c1_i (by first | rfl | assumption) | exact z_c1_r (by first | rfl | assumption) | exact z_c1_n (by first | rfl | assumption) | exact z_c1_c (by first | rfl | assumption) | exact z_c1_0 (by first | rfl | assumption)) ?_
  refine r_iload_n dX5_find_6 (by first | rfl | assumption) ?_
  refine r_bp (6) dX5_find_7 rfl ?_
  by_cases q : bg = 6
  · refine r_icmp_eq_t (tgt := 16) dX5_find_9 (by decide) (by rw [q]; rfl) ?_
    refine r_ic (0) dX5_find_16 rfl ?_
    refine r_istore dX5_find_17 (by decide) (by first | exact z_c1_i (by first | rfl | assumption) | exact z_c1_r (by first | rfl | assumption) | exact z_c1_n (by first | rfl | assumption) | exact z_c1_c (by first | rfl | assumption) | exact z_c1_0 (by first | rfl | assumption)) ?_
    refine r_ic (0) dX5_find_19 rfl ?_
    refine r_istore dX5_find_20 (by decide) (by first | exact z_c1_i (by first | rfl | assumption) | exact z_c1_r (by first | rfl | assumption) | exact z_c1_n (by first | rfl | assumption) | exact z_c1_c (by first | rfl | assumption) | exact z_c1_0 (by first | rfl | assumption)) ?_
    refine r_iload_n dX5_find_22 (by first | rfl | assumption) ?_
    refine r_istore dX5_find_23 (by decide) (by first | exact z_c1_i (by first | rfl | assumption) | exact z_c1_r (by first | rfl | assumption) | exact z_c1_n (by first | rfl | assumption) | exact z_c1_c (by first | rfl | assumption) | exact z_c1_0 (by first | rfl | assumption)) ?_
    exact loop _ fr 0 _ rfl hfr (Nat.zero_le _) rfl rfl rfl rfl rfl rfl rfl (by rw [q]; rfl) rfl rfl
  · refine r_icmp_eq_f (tgt := 16) dX5_find_9 (by decide) (fun q9 => q ((nI_eq (by omega) (by decide)).mp q9)) ?_
    refine r_ic (1) dX5_find_12 rfl ?_
    refine r_goto (tgt := 17) dX5_find_13 (by decide) ?_
    refine r_istore dX5_find_17 (by decide) (by first | exact z_c1_i (by first | rfl | assumption) | exact z_c1_r (by first | rfl | assumption) | exact z_c1_n (by first | rfl | assumption) | exact z_c1_c (by first | rfl | assumption) | exact z_c1_0 (by first | rfl | assumption)) ?_
    refine r_ic (0) dX5_find_19 rfl ?_
    refine r_istore dX5_find_20 (by decide) (by first | exact z_c1_i (by first | rfl | assumption) | exact z_c1_r (by first | rfl | assumption) | exact z_c1_n (by first | rfl | assumption) | exact z_c1_c (by first | rfl | assumption) | exact z_c1_0 (by first | rfl | assumption)) ?_
    refine r_iload_n dX5_find_22 (by first | rfl | assumption) ?_
    refine r_istore dX5_find_23 (by decide) (by first | exact z_c1_i (by first | rfl | assumption) | exact z_c1_r (by first | rfl | assumption) | exact z_c1_n (by first | rfl | assumption) | exact z_c1_c (by first | rfl | assumption) | exact z_c1_0 (by first | rfl | assumption)) ?_
    exact loop _ fr 0 _ rfl hfr (Nat.zero_le _) rfl rfl rfl rfl rfl rfl rfl (by rw [decide_eq_true q]; rfl) rfl rfl
