/-! a macro's places: the longest that fits, of equal ones the first -/
def plA (xs : List Nat) (a en : Nat) : List (Nat × Nat) → Nat → Option Nat → Nat → Option Nat
  | [], _, best, _ => best
  | p :: r, i, best, bl => if bl < p.2 ∧ a + p.2 ≤ en ∧ sam xs p.1 xs a p.2 = true then plA xs a en r (i + 1) (some i) p.2 else plA xs a en r (i + 1) best bl
theorem plA_s {xs : List Nat} {a en : Nat} {p : Nat × Nat} {r : List (Nat × Nat)} {i : Nat} {best : Option Nat} {bl : Nat} : plA xs a en (p :: r) i best bl = if bl < p.2 ∧ a + p.2 ≤ en ∧ sam xs p.1 xs a p.2 = true then plA xs a en r (i + 1) (some i) p.2 else plA xs a en r (i + 1) best bl := rfl
theorem iAt_mapf {α : Type} {f : α → Nat} {l : List α} {i : Nat} {x : α} (hl : l.length < 2 ^ 31) (h : l[i]? = some x) : iAt (l.map fun q => nI (f q)) (nI i) = nI (f x) := by
  have hi := (List.getElem?_eq_some_iff.mp h).1
  rw [iAt_in (by rw [List.length_map]; exact hi) (by rw [List.length_map]; exact hl), List.getD_eq_getElem?_getD, List.getElem?_map, h]
  rfl
section
variable {d : Nat} {S : zS} {E : zE} {lB lI : List Nat} {B C m s l b lim b1 b2 a en : Nat} {v0 v1 v2 v3 : Value} {xs : List Nat} {ps : List (Nat × Nat)} {is : List Int32}
theorem C_X2_places (hm : S.2.2 m = .inr (3, [v0, v1, v2, v3, .ref s, .ref l])) (hV : Vw S E lB lI B C) (hs : E.2.1 s = some (b1, is)) : Rc (d + 1) mX2_places [.ref m] S (fun v S1 => S1 = S ∧ v = some (.int (nI is.length))) := by
  have q := (hV.i hs).1
  have q1 := q.1
  refine Rc.of ?_
  refine r_aload_n dX2_places_0 (by first | rfl | assumption) ?_
  refine r_getf dX2_places_1 zf_X2_10 (by assumption) rfl ?_
  refine r_callV0 dX2_places_4 zm_X2_49 (by assumption) rfl (Nat.le_of_ble_eq_true rfl) (Nat.le_of_ble_eq_true rfl) (C_X1_size q) (fun v S1 hr => ?_)
  obtain ⟨rfl, rfl⟩ := hr
  refine r_ireturn dX2_places_7 _ rfl rfl ⟨rfl, rfl⟩
theorem C_X2_placeLength {x : Int32} (hm : S.2.2 m = .inr (3, [v0, v1, v2, v3, .ref s, .ref l])) (hV : Vw S E lB lI B C) (hs : E.2.1 l = some (b1, is)) : Rc (d + 1) mX2_placeLength [.ref m, .int x] S (fun v S1 => S1 = S ∧ v = some (.int (iAt is x))) := by
  have q := (hV.i hs).1
  have q1 := q.1
  refine Rc.of ?_
  refine r_aload_n dX2_placeLength_0 (by first | rfl | assumption) ?_
  refine r_getf dX2_placeLength_1 zf_X2_16 (by assumption) rfl ?_
  refine r_iload_n dX2_placeLength_4 (by first | rfl | assumption) ?_
  refine r_callV1 dX2_placeLength_5 zm_X2_52 (by assumption) rfl (Nat.le_of_ble_eq_true rfl) (Nat.le_of_ble_eq_true rfl) (C_X1_at q) (fun v S1 hr => ?_)
  obtain ⟨rfl, rfl⟩ := hr
  refine r_ireturn dX2_placeLength_8 _ rfl rfl ⟨rfl, rfl⟩
set_option maxRecDepth 10000 in
set_option maxHeartbeats 1000000 in
theorem C_X2_placeAt (hm : S.2.2 m = .inr (3, [v0, v1, v2, v3, .ref s, .ref l])) (hV : Vw S E lB lI B C) (hs : E.2.1 s = some (b1, ps.map fun q => nI q.1)) (hl : E.2.1 l = some (b2, ps.map fun q => nI q.2)) (hb : E.1 b = some (lim, xs)) (hps : ∀ q ∈ ps, q.1 ≤ 65536 ∧ q.2 ≤ 65536) (ha : a ≤ 65536) (hen : en ≤ 65536) : Rc (d + 2) mX2_placeAt [.ref m, .ref b, .int (nI a), .int (nI en)] S (fun v S1 => S1 = S ∧ v = some (.int (oI (plA xs a en ps 0 none 0)))) := by
  have qs := (hV.i hs).1
  have ql := (hV.i hl).1
  have kb := (hV.b hb).1
  have qs1 := qs.1
  have ql1 := ql.1
  have kb1 := kb.1
  have hpl : ps.length ≤ 65536 := by
    have k := hV.i hs
    have := k.2.2.2.1
    rw [List.length_map] at this
    omega
  refine Rc.of ?_
  have loop : ∀ (r : List (Nat × Nat)) (i : Nat) (best : Option Nat) (bl : Nat) (L : Nat → Option Value), ps.drop i = r → i ≤ ps.length → bl ≤ 65536 → plA xs a en r i best bl = plA xs a en ps 0 none 0 → L 0 = some (.ref m) → L 1 = some (.ref b) → L 2 = some (.int (nI a)) → L 3 = some (.int (nI en)) → L 4 = some (.int (oI best)) → L 5 = some (.int (nI bl)) → L 6 = some (.int (nI i)) → Ru (d + 2) mX2_placeAt 9 L [] S (z_en mX2_placeAt (fun v S1 => S1 = S ∧ v = some (.int (oI (plA xs a en ps 0 none 0))))) := by
    intro r
    induction r with
    | nil =>
      intro i best bl L hd hi hbl hp l0 l1 l2 l3 l4 l5 l6
      have hi2 : ps.length ≤ i := by rw [← List.drop_eq_nil_iff]; exact hd
      refine r_iload dX2_placeAt_9 (by first | rfl | assumption) ?_
      refine r_aload_n dX2_placeAt_11 (by first | rfl | assumption) ?_
      refine r_getf dX2_placeAt_12 zf_X2_10 (by assumption) rfl ?_
      refine r_callV0 dX2_placeAt_15 zm_X2_49 (by assumption) rfl (Nat.le_of_ble_eq_true rfl) (Nat.le_of_ble_eq_true rfl) (C_X1_size qs) (fun v S9 hv => ?_)
      obtain ⟨hS9, rfl⟩ := hv
      subst hS9
      refine r_icmp_ge_t (tgt := 81) dX2_placeAt_18 (by decide) (nI_le (show (ps.map fun q => nI q.1).length ≤ i by rw [List.length_map]; exact hi2) (by omega)) ?_
      refine r_iload dX2_placeAt_81 (by first | rfl | assumption) ?_
      refine r_ireturn dX2_placeAt_83 _ rfl rfl ⟨rfl, by rw [← hp]; rfl⟩
    | cons p r ih =>
      intro i best bl L hd hi hbl hp l0 l1 l2 l3 l4 l5 l6
      have hi2 : i < ps.length := by
        rcases Nat.lt_or_ge i ps.length with z | z
        · exact z
        · rw [List.drop_eq_nil_iff.mpr z] at hd; cases hd
      have hpi : ps[i]? = some p := by
        rw [List.drop_eq_getElem_cons hi2] at hd
        rw [List.getElem?_eq_getElem hi2]
        exact congrArg some (List.cons.inj hd).1
      have hdr : ps.drop (i + 1) = r := by
        rw [List.drop_eq_getElem_cons hi2] at hd
        exact (List.cons.inj hd).2
      have hp9 := hps p (List.mem_of_getElem? hpi)
      rw [plA_s] at hp
      refine r_iload dX2_placeAt_9 (by first | rfl | assumption) ?_
      refine r_aload_n dX2_placeAt_11 (by first | rfl | assumption) ?_
      refine r_getf dX2_placeAt_12 zf_X2_10 (by assumption) rfl ?_
      refine r_callV0 dX2_placeAt_15 zm_X2_49 (by assumption) rfl (Nat.le_of_ble_eq_true rfl) (Nat.le_of_ble_eq_true rfl) (C_X1_size qs) (fun v S9 hv => ?_)
      obtain ⟨hS9, rfl⟩ := hv
      subst hS9
      refine r_icmp_ge_f (tgt := 81) dX2_placeAt_18 (by decide) (nI_ge (show i < (ps.map fun q => nI q.1).length by rw [List.length_map]; exact hi2) (by rw [List.length_map]; omega)) ?_
      refine r_aload_n dX2_placeAt_21 (by first | rfl | assumption) ?_
      refine r_getf dX2_placeAt_22 zf_X2_16 (by assumption) rfl ?_
      refine r_iload dX2_placeAt_25 (by first | rfl | assumption) ?_
      refine r_callV1 dX2_placeAt_27 zm_X2_52 (by assumption) rfl (Nat.le_of_ble_eq_true rfl) (Nat.le_of_ble_eq_true rfl) (C_X1_at ql) (fun v S9 hv => ?_)
      obtain ⟨hS9, rfl⟩ := hv
      subst hS9
      rw [iAt_mapf (by omega) hpi]
      refine r_istore dX2_placeAt_30 (by decide) (by first | exact z_c1_i (by first | rfl | assumption) | exact z_c1_r (by first | rfl | assumption) | exact z_c1_n (by first | rfl | assumption) | exact z_c1_c (by first | rfl | assumption) | exact z_c1_0 (by first | rfl | assumption)) ?_
      refine r_iload dX2_placeAt_32 (by first | rfl | assumption) ?_
      refine r_iload dX2_placeAt_34 (by first | rfl | assumption) ?_
      generalize hL9 : z_s1 L 7 (Value.int (nI p.2)) = L9
      have m0 : L9 0 = some (.ref m) := by rw [← hL9]; exact l0
      have m1 : L9 1 = some (.ref b) := by rw [← hL9]; exact l1
      have m2 : L9 2 = some (.int (nI a)) := by rw [← hL9]; exact l2
      have m3 : L9 3 = some (.int (nI en)) := by rw [← hL9]; exact l3
      have m4 : L9 4 = some (.int (oI best)) := by rw [← hL9]; exact l4
      have m5 : L9 5 = some (.int (nI bl)) := by rw [← hL9]; exact l5
      have m6 : L9 6 = some (.int (nI i)) := by rw [← hL9]; exact l6
      have m7 : L9 7 = some (.int (nI p.2)) := by rw [← hL9]; rfl
      clear hL9
      have no : ¬ (bl < p.2 ∧ a + p.2 ≤ en ∧ sam xs p.1 xs a p.2 = true) → Ru (d + 2) mX2_placeAt 75 L9 [] S9 (z_en mX2_placeAt (fun v S1 => S1 = S9 ∧ v = some (.int (oI (plA xs a en ps 0 none 0))))) := by
        intro q
        rw [if_neg q] at hp
        refine r_inc (nI (i + 1)) dX2_placeAt_75 (by first | rfl | assumption) (by decide) (by first | exact z_c1_i (by first | rfl | assumption) | exact z_c1_r (by first | rfl | assumption) | exact z_c1_n (by first | rfl | assumption) | exact z_c1_c (by first | rfl | assumption) | exact z_c1_0 (by first | rfl | assumption)) (nI_1 i) ?_
        refine r_goto (tgt := 9) dX2_placeAt_78 (by decide) ?_
        exact ih (i + 1) best bl _ hdr (by omega) hbl hp m0 m1 m2 m3 m4 m5 rfl
      by_cases q1 : bl < p.2
      · refine r_icmp_le_f (tgt := 75) dX2_placeAt_36 (by decide) (nI_ge q1 (by omega)) ?_
        refine r_iload_n dX2_placeAt_39 (by first | rfl | assumption) ?_
        refine r_iload dX2_placeAt_40 (by first | rfl | assumption) ?_
        refine r_iadd dX2_placeAt_42 ?_
        rw [nI_add]
        refine r_iload_n dX2_placeAt_43 (by first | rfl | assumption) ?_
        by_cases q2 : a + p.2 ≤ en
        · refine r_icmp_gt_f (tgt := 75) dX2_placeAt_44 (by decide) (nI_nlt q2 (by omega)) ?_
          refine r_aload_n dX2_placeAt_47 (by first | rfl | assumption) ?_
          refine r_aload_n dX2_placeAt_48 (by first | rfl | assumption) ?_
          refine r_getf dX2_placeAt_49 zf_X2_10 (by assumption) rfl ?_
          refine r_iload dX2_placeAt_52 (by first | rfl | assumption) ?_
          refine r_callV1 dX2_placeAt_54 zm_X2_52 (by assumption) rfl (Nat.le_of_ble_eq_true rfl) (Nat.le_of_ble_eq_true rfl) (C_X1_at qs) (fun v S9 hv => ?_)
          obtain ⟨hS9, rfl⟩ := hv
          subst hS9
          rw [iAt_mapf (by omega) hpi]
          refine r_iload dX2_placeAt_57 (by first | rfl | assumption) ?_
          refine r_aload_n dX2_placeAt_59 (by first | rfl | assumption) ?_
          refine r_iload_n dX2_placeAt_60 (by first | rfl | assumption) ?_
          refine r_callV4 dX2_placeAt_61 zm_X2_55 (by assumption) rfl (Nat.le_of_ble_eq_true rfl) (Nat.le_of_ble_eq_true rfl) (C_X0_isSame kb kb (show p.1 < 2 ^ 20 by omega) (show p.2 < 2 ^ 20 by omega) (show a < 2 ^ 20 by omega)) (fun v S9 hv => ?_)
          obtain ⟨hS9, rfl⟩ := hv
          subst hS9
          by_cases q3 : sam xs p.1 xs a p.2 = true
          · refine r_if_eq_f (tgt := 75) dX2_placeAt_64 (by decide) (by rw [q3]; decide) ?_
            rw [if_pos ⟨q1, q2, q3⟩] at hp
            refine r_iload dX2_placeAt_67 (by first | rfl | assumption) ?_
            refine r_istore dX2_placeAt_69 (by decide) (by first | exact z_c1_i (by first | rfl | assumption) | exact z_c1_r (by first | rfl | assumption) | exact z_c1_n (by first | rfl | assumption) | exact z_c1_c (by first | rfl | assumption) | exact z_c1_0 (by first | rfl | assumption)) ?_
            refine r_iload dX2_placeAt_71 (by first | rfl | assumption) ?_
            refine r_istore dX2_placeAt_73 (by decide) (by first | exact z_c1_i (by first | rfl | assumption) | exact z_c1_r (by first | rfl | assumption) | exact z_c1_n (by first | rfl | assumption) | exact z_c1_c (by first | rfl | assumption) | exact z_c1_0 (by first | rfl | assumption)) ?_
            refine r_inc (nI (i + 1)) dX2_placeAt_75 (by first | rfl | assumption) (by decide) (by first | exact z_c1_i (by first | rfl | assumption) | exact z_c1_r (by first | rfl | assumption) | exact z_c1_n (by first | rfl | assumption) | exact z_c1_c (by first | rfl | assumption) | exact z_c1_0 (by first | rfl | assumption)) (nI_1 i) ?_
            refine r_goto (tgt := 9) dX2_placeAt_78 (by decide) ?_
            exact ih (i + 1) (some i) p.2 _ hdr (by omega) hp9.2 hp m0 m1 m2 m3 rfl rfl rfl
          · refine r_if_eq_t (tgt := 75) dX2_placeAt_64 (by decide) (by rw [Bool.eq_false_iff.mpr q3]; rfl) ?_
            exact no (fun z => q3 z.2.2)
        · refine r_icmp_gt_t (tgt := 75) dX2_placeAt_44 (by decide) (nI_lt (show en < a + p.2 by omega) (by omega)) ?_
          exact no (fun z => q2 z.2.1)
      · refine r_icmp_le_t (tgt := 75) dX2_placeAt_36 (by decide) (nI_le (show p.2 ≤ bl by omega) (by omega)) ?_
        exact no (fun z => q1 z.1)
  refine r_ic (-1) dX2_placeAt_0 rfl ?_
  refine r_istore dX2_placeAt_1 (by decide) (by first | exact z_c1_i (by first | rfl | assumption) | exact z_c1_r (by first | rfl | assumption) | exact z_c1_n (by first | rfl | assumption) | exact z_c1_c (by first | rfl | assumption) | exact z_c1_0 (by first | rfl | assumption)) ?_
  refine r_ic (0) dX2_placeAt_3 rfl ?_
  refine r_istore dX2_placeAt_4 (by decide) (by first | exact z_c1_i (by first | rfl | assumption) | exact z_c1_r (by first | rfl | assumption) | exact z_c1_n (by first | rfl | assumption) | exact z_c1_c (by first | rfl | assumption) | exact z_c1_0 (by first | rfl | assumption)) ?_
  refine r_ic (0) dX2_placeAt_6 rfl ?_
  refine r_istore dX2_placeAt_7 (by decide) (by first | exact z_c1_i (by first | rfl | assumption) | exact z_c1_r (by first | rfl | assumption) | exact z_c1_n (by first | rfl | assumption) | exact z_c1_c (by first | rfl | assumption) | exact z_c1_0 (by first | rfl | assumption)) ?_
  exact loop ps 0 none 0 _ rfl (Nat.zero_le _) (Nat.zero_le _) rfl rfl rfl rfl rfl rfl rfl rfl
end
/-! NEST: an array of 20 parts pt 0 .. pt 19, sz of them open; kd: their kinds -/
def isN (S : zS) (n pa sz : Nat) (pt : Nat → Nat) : Prop := S.2.2 n = .inr (4, [.ref pa, .int (nI sz)]) ∧ (∃ g, S.2.2 pa = .inl (.object "MacroReader$Part", 20, .inr (.inr (.inr (.inr g)))) ∧ ∀ j, j < 20 → g j = some (pt j)) ∧ sz ≤ 20
def nAt (pt : Nat → Nat) (x : Int32) : Value := if x < 0 then .null else if 20 ≤ x then .null else .ref (pt x.toNatClampNeg)
theorem nAt_in {pt : Nat → Nat} {j : Nat} (h : j < 20) : nAt pt (nI j) = .ref (pt j) := by
  unfold nAt
  rw [if_neg (nI_pos (by omega)), if_neg (show ¬ (20 : Int32) ≤ nI j from nI_ge (b := 20) h (by decide)), nI_clamp (by omega)]
theorem nAt_20 {pt : Nat → Nat} : nAt pt (nI 20) = .null := rfl
theorem nAt_m1 {pt : Nat → Nat} : nAt pt (-1) = .null := rfl
/-- the innermost of the first i parts that has lines; that is a macro's -/
def hasL (x : Int32) : Bool := decide (x = 4) || decide (x = 6)
def inL (kd : Nat → Int32) : Nat → Option Nat
  | 0 => none
  | i + 1 => if hasL (kd i) = true then some i else inL kd i
def inM (kd : Nat → Int32) : Nat → Option Nat
  | 0 => none
  | i + 1 => if kd i = 6 then some i else inM kd i
def oV (pt : Nat → Nat) (r : Option Nat) : Value := match r with
  | some j => .ref (pt j)
  | none => .null
section
variable {d : Nat} {S : zS} {n pa sz : Nat} {pt : Nat → Nat} {kd : Nat → Int32}
theorem C_X4_hasLines {p : Nat} {x : Int32} {fs : List Value} (h : S.2.2 p = .inr (5, .int x :: fs)) : Rc d mX4_hasLines [.ref p] S (fun v S1 => S1 = S ∧ v = some (.int (bI (hasL x)))) := by
  refine Rc.of ?_
  refine r_aload_n dX4_hasLines_0 (by first | rfl | assumption) ?_
  refine r_getf dX4_hasLines_1 zf_X4_30 (by assumption) rfl ?_
  refine r_ic (4) dX4_hasLines_4 rfl ?_
  refine r_icmp_eq (tgt := 17) dX4_hasLines_5 (by decide) (fun c5 => ?_) (fun c5 => ?_)
  · refine r_ic (1) dX4_hasLines_17 rfl ?_
    refine r_goto (tgt := 22) dX4_hasLines_18 (by decide) ?_
    refine r_ireturn dX4_hasLines_22 _ rfl rfl ⟨rfl, by simp_all [hasL, bI]⟩
  · refine r_aload_n dX4_hasLines_8 (by first | rfl | assumption) ?_
    refine r_getf dX4_hasLines_9 zf_X4_30 (by assumption) rfl ?_
    refine r_bp (6) dX4_hasLines_12 rfl ?_
    refine r_icmp_ne (tgt := 21) dX4_hasLines_14 (by decide) (fun c14 => ?_) (fun c14 => ?_)
    · refine r_ic (0) dX4_hasLines_21 rfl ?_
      refine r_ireturn dX4_hasLines_22 _ rfl rfl ⟨rfl, by simp_all [hasL, bI]⟩
    · refine r_ic (1) dX4_hasLines_17 rfl ?_
      refine r_goto (tgt := 22) dX4_hasLines_18 (by decide) ?_
      refine r_ireturn dX4_hasLines_22 _ rfl rfl ⟨rfl, by simp_all [hasL, bI]⟩
theorem C_X3_size (h : isN S n pa sz pt) : Rc d mX3_size [.ref n] S (fun v S1 => S1 = S ∧ v = some (.int (nI sz))) := by
  have h1 := h.1
  refine Rc.of ?_
  refine r_aload_n dX3_size_0 (by first | rfl | assumption) ?_
  refine r_getf dX3_size_1 zf_X3_18 (by assumption) rfl ?_
  refine r_ireturn dX3_size_4 _ rfl rfl ⟨rfl, rfl⟩
theorem C_X3_clear (h : isN S n pa sz pt) : Rc d mX3_clear [.ref n] S (fun v S1 => v = none ∧ S1 = z_put S n (.inr (4, [.ref pa, .int (nI 0)]))) := by
  have h1 := h.1
  refine Rc.of ?_
  refine r_aload_n dX3_clear_0 (by first | rfl | assumption) ?_
  refine r_ic (0) dX3_clear_1 rfl ?_
  refine r_putf dX3_clear_2 zf_X3_18 (by assumption) (Nat.le_of_ble_eq_true rfl) ⟨rfl, rfl⟩ ?_
  refine r_return dX3_clear_5 rfl ⟨rfl, rfl⟩
theorem C_X3_isFull (h : isN S n pa sz pt) : Rc d mX3_isFull [.ref n] S (fun v S1 => S1 = S ∧ v = some (.int (bI (decide (sz = 20))))) := by
  have h1 := h.1
  obtain ⟨g, h2, h3⟩ := h.2.1
  have h4 := h.2.2
  refine Rc.of ?_
  refine r_aload_n dX3_isFull_0 (by first | rfl | assumption) ?_
  refine r_getf dX3_isFull_1 zf_X3_18 (by assumption) rfl ?_
  refine r_aload_n dX3_isFull_4 (by first | rfl | assumption) ?_
  refine r_getf dX3_isFull_5 zf_X3_11 (by assumption) rfl ?_
  refine r_alen dX3_isFull_8 (by assumption) ?_
  by_cases q : sz = 20
  · refine r_icmp_lt_f (tgt := 16) dX3_isFull_9 (by decide) (by rw [q]; exact nI_nlt (a := 20) (b := 20) (Nat.le_refl _) (by decide)) ?_
    refine r_ic (1) dX3_isFull_12 rfl ?_
    refine r_goto (tgt := 17) dX3_isFull_13 (by decide) ?_
    refine r_ireturn dX3_isFull_17 _ rfl rfl ⟨rfl, by rw [decide_eq_true q]; rfl⟩
  · refine r_icmp_lt_t (tgt := 16) dX3_isFull_9 (by decide) (nI_lt (b := 20) (show sz < 20 by omega) (by decide)) ?_
    refine r_ic (0) dX3_isFull_16 rfl ?_
    refine r_ireturn dX3_isFull_17 _ rfl rfl ⟨rfl, by rw [decide_eq_false q]; rfl⟩
theorem C_X3_at {x : Int32} (h : isN S n pa sz pt) : Rc d mX3_at [.ref n, .int x] S (fun v S1 => S1 = S ∧ v = some (nAt pt x)) := by
  have h1 := h.1
  obtain ⟨g, h2, h3⟩ := h.2.1
  refine Rc.of ?_
  refine r_iload_n dX3_at_0 (by first | rfl | assumption) ?_
  refine r_if_lt (tgt := 22) dX3_at_1 (by decide) (fun c1 => ?_) (fun c1 => ?_)
  · refine r_aconst dX3_at_22 ?_
    refine r_areturn dX3_at_23 _ rfl (by first | exact Or.inl ⟨_, rfl⟩ | exact Or.inr ⟨_, rfl⟩) (by first | exact Or.inr (Or.inl ⟨_, rfl⟩) | exact Or.inl rfl | exact Or.inr (Or.inr ⟨_, rfl⟩)) ⟨rfl, by unfold nAt; rw [if_pos c1]⟩
  · refine r_iload_n dX3_at_4 (by first | rfl | assumption) ?_
    refine r_aload_n dX3_at_5 (by first | rfl | assumption) ?_
    refine r_getf dX3_at_6 zf_X3_11 (by assumption) rfl ?_
    refine r_alen dX3_at_9 (by assumption) ?_
    refine r_icmp_ge (tgt := 22) dX3_at_10 (by decide) (fun c10 => ?_) (fun c10 => ?_)
    · refine r_aconst dX3_at_22 ?_
      refine r_areturn dX3_at_23 _ rfl (by first | exact Or.inl ⟨_, rfl⟩ | exact Or.inr ⟨_, rfl⟩) (by first | exact Or.inr (Or.inl ⟨_, rfl⟩) | exact Or.inl rfl | exact Or.inr (Or.inr ⟨_, rfl⟩)) ⟨rfl, by unfold nAt; rw [if_neg c1, if_pos (show (20 : Int32) ≤ x from c10)]⟩
    · obtain ⟨j, hj, rfl⟩ : ∃ j : Nat, j < 20 ∧ x = nI j := by
        rcases pk_ix x (n := 20) (by decide) with q | q | q
        · exact absurd q c1
        · exact absurd q c10
        · exact q
      refine r_aload_n dX3_at_13 (by first | rfl | assumption) ?_
      refine r_getf dX3_at_14 zf_X3_11 (by assumption) rfl ?_
      refine r_iload_n dX3_at_17 (by first | rfl | assumption) ?_
      refine r_aald dX3_at_18 (by assumption) (vp_in_nI hj (by decide)) rfl ?_
      refine r_goto (tgt := 23) dX3_at_19 (by decide) ?_
      rw [show va_rf (g (nI j).toNatClampNeg) = .ref (pt j) by rw [nI_clamp (by omega), h3 j hj]; rfl]
      refine r_areturn dX3_at_23 _ rfl (by first | exact Or.inl ⟨_, rfl⟩ | exact Or.inr ⟨_, rfl⟩) (by first | exact Or.inr (Or.inl ⟨_, rfl⟩) | exact Or.inl rfl | exact Or.inr (Or.inr ⟨_, rfl⟩)) ⟨rfl, by rw [nAt_in hj]⟩
theorem C_X3_spare (h : isN S n pa sz pt) : Rc (d + 1) mX3_spare [.ref n] S (fun v S1 => S1 = S ∧ v = some (nAt pt (nI sz))) := by
  have h1 := h.1
  refine Rc.of ?_
  refine r_aload_n dX3_spare_0 (by first | rfl | assumption) ?_
  refine r_aload_n dX3_spare_1 (by first | rfl | assumption) ?_
  refine r_getf dX3_spare_2 zf_X3_18 (by assumption) rfl ?_
  refine r_callV1 dX3_spare_5 zm_X3_22 (by assumption) rfl (Nat.le_of_ble_eq_true rfl) (Nat.le_of_ble_eq_true rfl) (C_X3_at h) (fun v S1 hv => ?_)
  obtain ⟨rfl, rfl⟩ := hv
  refine r_areturn dX3_spare_8 _ rfl (Or.inl ⟨_, rfl⟩) ?_ ⟨rfl, rfl⟩
  unfold nAt
  split
  · exact Or.inl rfl
  · split
    · exact Or.inl rfl
    · exact Or.inr (Or.inl ⟨_, rfl⟩)
theorem C_X3_top (h : isN S n pa sz pt) : Rc (d + 1) mX3_top [.ref n] S (fun v S1 => S1 = S ∧ v = some (nAt pt (nI sz - 1))) := by
  have h1 := h.1
  refine Rc.of ?_
  refine r_aload_n dX3_top_0 (by first | rfl | assumption) ?_
  refine r_aload_n dX3_top_1 (by first | rfl | assumption) ?_
  refine r_getf dX3_top_2 zf_X3_18 (by assumption) rfl ?_
  refine r_ic (1) dX3_top_5 rfl ?_
  refine r_isub dX3_top_6 ?_
  refine r_callV1 dX3_top_7 zm_X3_22 (by assumption) rfl (Nat.le_of_ble_eq_true rfl) (Nat.le_of_ble_eq_true rfl) (C_X3_at h) (fun v S1 hv => ?_)
  obtain ⟨rfl, rfl⟩ := hv
  refine r_areturn dX3_top_10 _ rfl (Or.inl ⟨_, rfl⟩) ?_ ⟨rfl, rfl⟩
  unfold nAt
  split
  · exact Or.inl rfl
  · split
    · exact Or.inl rfl
    · exact Or.inr (Or.inl ⟨_, rfl⟩)
def kdA (kd : Nat → Int32) : Nat → Int32
  | 0 => 0
  | i + 1 => kd i
theorem nI_p1 {k : Nat} : nI (k + 1) - 1 = nI k := by
  rw [← nI_1]
  exact Int32.add_sub_cancel _ _
theorem dec1 (x : Int32) : x + Int32.ofInt (-1) = x - 1 := by rw [Int32.sub_eq_add_neg]; rfl
theorem C_X3_topKind (h : isN S n pa sz pt) (hk : ∀ j, j < 20 → ∃ fs, S.2.2 (pt j) = .inr (5, .int (kd j) :: fs)) : Rc (d + 2) mX3_topKind [.ref n] S (fun v S1 => S1 = S ∧ v = some (.int (kdA kd sz))) := by
  have h1 := h.1
  refine Rc.of ?_
  refine r_aload_n dX3_topKind_0 (by first | rfl | assumption) ?_
  refine r_callV0 dX3_topKind_1 zm_X3_29 (by assumption) rfl (Nat.le_of_ble_eq_true rfl) (Nat.le_of_ble_eq_true rfl) (C_X3_top h) (fun v S1 hv => ?_)
  obtain ⟨rfl, rfl⟩ := hv
  cases sz with
  | zero =>
    rw [show nAt pt (nI 0 - 1) = .null from rfl]
    refine r_astore_nN dX3_topKind_4 (by decide) (by first | exact z_c1_i (by first | rfl | assumption) | exact z_c1_r (by first | rfl | assumption) | exact z_c1_n (by first | rfl | assumption) | exact z_c1_c (by first | rfl | assumption) | exact z_c1_0 (by first | rfl | assumption)) ?_
    refine r_aload_nN dX3_topKind_5 (by first | rfl | assumption) ?_
    refine r_ifnonnullN dX3_topKind_6 ?_
    refine r_ic (0) dX3_topKind_9 rfl ?_
    refine r_goto (tgt := 17) dX3_topKind_10 (by decide) ?_
    refine r_ireturn dX3_topKind_17 _ rfl rfl ⟨rfl, rfl⟩
  | succ k =>
    have hk2 : k < 20 := h.2.2
    rw [nI_p1, nAt_in hk2]
    obtain ⟨fs, hf⟩ := hk k hk2
    refine r_astore_n dX3_topKind_4 (by decide) (by first | exact z_c1_i (by first | rfl | assumption) | exact z_c1_r (by first | rfl | assumption) | exact z_c1_n (by first | rfl | assumption) | exact z_c1_c (by first | rfl | assumption) | exact z_c1_0 (by first | rfl | assumption)) ?_
    refine r_aload_n dX3_topKind_5 (by first | rfl | assumption) ?_
    refine r_ifnonnull (tgt := 13) dX3_topKind_6 (by decide) ?_
    refine r_aload_n dX3_topKind_13 (by first | rfl | assumption) ?_
    refine r_getf dX3_topKind_14 zf_X3_26 (by assumption) rfl ?_
    refine r_ireturn dX3_topKind_17 _ rfl rfl ⟨rfl, rfl⟩
theorem C_X3_close (h : isN S n pa sz pt) : Rc d mX3_close [.ref n] S (fun v S1 => v = none ∧ S1 = z_put S n (.inr (4, [.ref pa, .int (nI (sz - 1))]))) := by
  have h1 := h.1
  have h4 := h.2.2
  refine Rc.of ?_
  refine r_aload_n dX3_close_0 (by first | rfl | assumption) ?_
  refine r_getf dX3_close_1 zf_X3_18 (by assumption) rfl ?_
  cases sz with
  | zero =>
    refine r_if_le_t (tgt := 17) dX3_close_4 (by decide) (by decide) ?_
    refine r_return dX3_close_17 rfl ⟨rfl, ?_⟩
    unfold z_put
    rw [← h1]
    have : va_up S.2.2 n (S.2.2 n) = S.2.2 := by
      funext j
      unfold va_up
      split
      · next e => rw [e]
      · rfl
    rw [this]
  | succ k =>
    refine r_if_le_f (tgt := 17) dX3_close_4 (by decide) (show ¬ nI (k + 1) ≤ nI 0 from nI_ge (Nat.succ_pos k) (by omega)) ?_
    refine r_aload_n dX3_close_7 (by first | rfl | assumption) ?_
    refine r_dup dX3_close_8 rfl ?_
    refine r_getf dX3_close_9 zf_X3_18 (by assumption) rfl ?_
    refine r_ic (1) dX3_close_12 rfl ?_
    refine r_isub dX3_close_13 ?_
    rw [nI_p1]
    refine r_putf dX3_close_14 zf_X3_18 (by assumption) (Nat.le_of_ble_eq_true rfl) ⟨rfl, rfl⟩ ?_
    refine r_return dX3_close_17 rfl ⟨rfl, rfl⟩
theorem C_X3_open {x k : Int32} {fs : List Value} (h : isN S n pa sz pt) (hs : sz < 20) (hp : S.2.2 (pt sz) = .inr (5, .int k :: fs)) (hl : fs.length = 10) : Rc (d + 1) mX3_open [.ref n, .int x] S (fun v S1 => v = some (.ref (pt sz)) ∧ S1 = z_put (z_put S (pt sz) (.inr (5, .int x :: fs))) n (.inr (4, [.ref pa, .int (nI (sz + 1))]))) := by
  have h1 := h.1
  refine Rc.of ?_
  refine r_aload_n dX3_open_0 (by first | rfl | assumption) ?_
  refine r_aload_n dX3_open_1 (by first | rfl | assumption) ?_
  refine r_getf dX3_open_2 zf_X3_18 (by assumption) rfl ?_
  refine r_callV1 dX3_open_5 zm_X3_22 (by assumption) rfl (Nat.le_of_ble_eq_true rfl) (Nat.le_of_ble_eq_true rfl) (C_X3_at h) (fun v S1 hv => ?_)
  obtain ⟨rfl, rfl⟩ := hv
  rw [nAt_in hs]
  refine r_astore_n dX3_open_8 (by decide) (by first | exact z_c1_i (by first | rfl | assumption) | exact z_c1_r (by first | rfl | assumption) | exact z_c1_n (by first | rfl | assumption) | exact z_c1_c (by first | rfl | assumption) | exact z_c1_0 (by first | rfl | assumption)) ?_
  refine r_aload_n dX3_open_9 (by first | rfl | assumption) ?_
  refine r_ifnull dX3_open_10 ?_
  have hne : n ≠ pt sz := fun e => by rw [← e, h1] at hp; cases hp
  have h2 : (z_put S1 (pt sz) (.inr (5, .int x :: fs))).2.2 n = .inr (4, [.ref pa, .int (nI sz)]) := (va_up_ne _ _ hne).trans h1
  refine r_aload_n dX3_open_13 (by first | rfl | assumption) ?_
  refine r_iload_n dX3_open_14 (by first | rfl | assumption) ?_
  refine r_putf dX3_open_15 zf_X3_26 (by assumption) (Nat.le_of_ble_eq_true rfl) ⟨rfl, rfl⟩ ?_
  refine r_aload_n dX3_open_18 (by first | rfl | assumption) ?_
  refine r_dup dX3_open_19 rfl ?_
  refine r_getf dX3_open_20 zf_X3_18 (by assumption) rfl ?_
  refine r_ic (1) dX3_open_23 rfl ?_
  refine r_iadd dX3_open_24 ?_
  rw [nI_1]
  refine r_putf dX3_open_25 zf_X3_18 (by assumption) (Nat.le_of_ble_eq_true rfl) ⟨rfl, rfl⟩ ?_
  refine r_aload_n dX3_open_28 (by first | rfl | assumption) ?_
  refine r_areturn dX3_open_29 _ rfl (by first | exact Or.inl ⟨_, rfl⟩ | exact Or.inr ⟨_, rfl⟩) (by first | exact Or.inr (Or.inl ⟨_, rfl⟩) | exact Or.inl rfl | exact Or.inr (Or.inr ⟨_, rfl⟩)) ⟨rfl, rfl⟩
set_option maxRecDepth 10000 in
theorem C_X3_innermostLines (h : isN S n pa sz pt) (hk : ∀ j, j < 20 → ∃ fs, S.2.2 (pt j) = .inr (5, .int (kd j) :: fs)) : Rc (d + 1) mX3_innermostLines [.ref n] S (fun v S1 => S1 = S ∧ v = some (oV pt (inL kd sz))) := by
  have h1 := h.1
  have h4 := h.2.2
  refine Rc.of ?_
  have loop : ∀ (k : Nat) (L : Nat → Option Value), k ≤ sz → inL kd k = inL kd sz → L 0 = some (.ref n) → L 1 = some (.int (nI k - 1)) → Ru (d + 1) mX3_innermostLines 7 L [] S (z_en mX3_innermostLines (fun v S1 => S1 = S ∧ v = some (oV pt (inL kd sz)))) := by
    intro k
    induction k with
    | zero =>
      intro L hkz hi l0 l1
      refine r_iload_n dX3_innermostLines_7 (by first | rfl | assumption) ?_
      refine r_if_lt_t (tgt := 36) dX3_innermostLines_8 (by decide) (show nI 0 - 1 < 0 by decide) ?_
      refine r_aconst dX3_innermostLines_36 ?_
      refine r_areturn dX3_innermostLines_37 _ rfl (by first | exact Or.inl ⟨_, rfl⟩ | exact Or.inr ⟨_, rfl⟩) (by first | exact Or.inr (Or.inl ⟨_, rfl⟩) | exact Or.inl rfl | exact Or.inr (Or.inr ⟨_, rfl⟩)) ⟨rfl, by rw [← hi]; rfl⟩
    | succ k ih =>
      intro L hkz hi l0 l1
      rw [nI_p1] at l1
      have hk2 : k < 20 := by omega
      obtain ⟨fs, hf⟩ := hk k hk2
      have hst : inL kd (k + 1) = if hasL (kd k) = true then some k else inL kd k := rfl
      rw [hst] at hi
      refine r_iload_n dX3_innermostLines_7 (by first | rfl | assumption) ?_
      refine r_if_lt_f (tgt := 36) dX3_innermostLines_8 (by decide) (nI_pos (by omega)) ?_
      refine r_aload_n dX3_innermostLines_11 (by first | rfl | assumption) ?_
      refine r_iload_n dX3_innermostLines_12 (by first | rfl | assumption) ?_
      refine r_callV1 dX3_innermostLines_13 zm_X3_22 (by assumption) rfl (Nat.le_of_ble_eq_true rfl) (Nat.le_of_ble_eq_true rfl) (C_X3_at h) (fun v S9 hv => ?_)
      obtain ⟨hS9, rfl⟩ := hv
      subst hS9
      rw [nAt_in hk2]
      refine r_astore_n dX3_innermostLines_16 (by decide) (by first | exact z_c1_i (by first | rfl | assumption) | exact z_c1_r (by first | rfl | assumption) | exact z_c1_n (by first | rfl | assumption) | exact z_c1_c (by first | rfl | assumption) | exact z_c1_0 (by first | rfl | assumption)) ?_
      refine r_aload_n dX3_innermostLines_17 (by first | rfl | assumption) ?_
      refine r_ifnull dX3_innermostLines_18 ?_
      refine r_aload_n dX3_innermostLines_21 (by first | rfl | assumption) ?_
      refine r_callV0 dX3_innermostLines_22 zm_X3_33 (by assumption) rfl (Nat.le_of_ble_eq_true rfl) (Nat.le_of_ble_eq_true rfl) (C_X4_hasLines hf) (fun v S9 hv => ?_)
      obtain ⟨hS9, rfl⟩ := hv
      subst hS9
      by_cases q : hasL (kd k) = true
      · rw [if_pos q] at hi
        refine r_if_eq_f (tgt := 30) dX3_innermostLines_25 (by decide) (by rw [q]; decide) ?_
        refine r_aload_n dX3_innermostLines_28 (by first | rfl | assumption) ?_
        refine r_areturn dX3_innermostLines_29 _ rfl (by first | exact Or.inl ⟨_, rfl⟩ | exact Or.inr ⟨_, rfl⟩) (by first | exact Or.inr (Or.inl ⟨_, rfl⟩) | exact Or.inl rfl | exact Or.inr (Or.inr ⟨_, rfl⟩)) ⟨rfl, by rw [← hi]; rfl⟩
      · rw [if_neg q] at hi
        refine r_if_eq_t (tgt := 30) dX3_innermostLines_25 (by decide) (by rw [Bool.eq_false_iff.mpr q]; rfl) ?_
        refine r_inc (nI k - 1) dX3_innermostLines_30 (by first | rfl | assumption) (by decide) (by first | exact z_c1_i (by first | rfl | assumption) | exact z_c1_r (by first | rfl | assumption) | exact z_c1_n (by first | rfl | assumption) | exact z_c1_c (by first | rfl | assumption) | exact z_c1_0 (by first | rfl | assumption)) (dec1 _) ?_
        refine r_goto (tgt := 7) dX3_innermostLines_33 (by decide) ?_
        exact ih _ (by omega) hi l0 rfl
  refine r_aload_n dX3_innermostLines_0 (by first | rfl | assumption) ?_
  refine r_getf dX3_innermostLines_1 zf_X3_18 (by assumption) rfl ?_
  refine r_ic (1) dX3_innermostLines_4 rfl ?_
  refine r_isub dX3_innermostLines_5 ?_
  refine r_istore_n dX3_innermostLines_6 (by decide) (by first | exact z_c1_i (by first | rfl | assumption) | exact z_c1_r (by first | rfl | assumption) | exact z_c1_n (by first | rfl | assumption) | exact z_c1_c (by first | rfl | assumption) | exact z_c1_0 (by first | rfl | assumption)) ?_
  exact loop sz _ (Nat.le_refl _) rfl rfl rfl
set_option maxRecDepth 10000 in
theorem C_X3_innermostMacro (h : isN S n pa sz pt) (hk : ∀ j, j < 20 → ∃ fs, S.2.2 (pt j) = .inr (5, .int (kd j) :: fs)) : Rc (d + 1) mX3_innermostMacro [.ref n] S (fun v S1 => S1 = S ∧ v = some (oV pt (inM kd sz))) := by
  have h1 := h.1
  have h4 := h.2.2
  refine Rc.of ?_
  have loop : ∀ (k : Nat) (L : Nat → Option Value), k ≤ sz → inM kd k = inM kd sz → L 0 = some (.ref n) → L 1 = some (.int (nI k - 1)) → Ru (d + 1) mX3_innermostMacro 7 L [] S (z_en mX3_innermostMacro (fun v S1 => S1 = S ∧ v = some (oV pt (inM kd sz)))) := by
    intro k
    induction k with
    | zero =>
      intro L hkz hi l0 l1
      refine r_iload_n dX3_innermostMacro_7 (by first | rfl | assumption) ?_
      refine r_if_lt_t (tgt := 38) dX3_innermostMacro_8 (by decide) (show nI 0 - 1 < 0 by decide) ?_
      refine r_aconst dX3_innermostMacro_38 ?_
      refine r_areturn dX3_innermostMacro_39 _ rfl (by first | exact Or.inl ⟨_, rfl⟩ | exact Or.inr ⟨_, rfl⟩) (by first | exact Or.inr (Or.inl ⟨_, rfl⟩) | exact Or.inl rfl | exact Or.inr (Or.inr ⟨_, rfl⟩)) ⟨rfl, by rw [← hi]; rfl⟩
    | succ k ih =>
      intro L hkz hi l0 l1
      rw [nI_p1] at l1
      have hk2 : k < 20 := by omega
      obtain ⟨fs, hf⟩ := hk k hk2
      have hst : inM kd (k + 1) = if kd k = 6 then some k else inM kd k := rfl
      rw [hst] at hi
      refine r_iload_n dX3_innermostMacro_7 (by first | rfl | assumption) ?_
      refine r_if_lt_f (tgt := 38) dX3_innermostMacro_8 (by decide) (nI_pos (by omega)) ?_
      refine r_aload_n dX3_innermostMacro_11 (by first | rfl | assumption) ?_
      refine r_iload_n dX3_innermostMacro_12 (by first | rfl | assumption) ?_
      refine r_callV1 dX3_innermostMacro_13 zm_X3_22 (by assumption) rfl (Nat.le_of_ble_eq_true rfl) (Nat.le_of_ble_eq_true rfl) (C_X3_at h) (fun v S9 hv => ?_)
      obtain ⟨hS9, rfl⟩ := hv
      subst hS9
      rw [nAt_in hk2]
      refine r_astore_n dX3_innermostMacro_16 (by decide) (by first | exact z_c1_i (by first | rfl | assumption) | exact z_c1_r (by first | rfl | assumption) | exact z_c1_n (by first | rfl | assumption) | exact z_c1_c (by first | rfl | assumption) | exact z_c1_0 (by first | rfl | assumption)) ?_
      refine r_aload_n dX3_innermostMacro_17 (by first | rfl | assumption) ?_
      refine r_ifnull dX3_innermostMacro_18 ?_
      refine r_aload_n dX3_innermostMacro_21 (by first | rfl | assumption) ?_
      refine r_getf dX3_innermostMacro_22 zf_X3_26 (by assumption) rfl ?_
      refine r_bp (6) dX3_innermostMacro_25 rfl ?_
      by_cases q : kd k = 6
      · rw [if_pos q] at hi
        refine r_icmp_ne_f (tgt := 32) dX3_innermostMacro_27 (by decide) (q) ?_
        refine r_aload_n dX3_innermostMacro_30 (by first | rfl | assumption) ?_
        refine r_areturn dX3_innermostMacro_31 _ rfl (by first | exact Or.inl ⟨_, rfl⟩ | exact Or.inr ⟨_, rfl⟩) (by first | exact Or.inr (Or.inl ⟨_, rfl⟩) | exact Or.inl rfl | exact Or.inr (Or.inr ⟨_, rfl⟩)) ⟨rfl, by rw [← hi]; rfl⟩
      · rw [if_neg q] at hi
        refine r_icmp_ne_t (tgt := 32) dX3_innermostMacro_27 (by decide) (q) ?_
        refine r_inc (nI k - 1) dX3_innermostMacro_32 (by first | rfl | assumption) (by decide) (by first | exact z_c1_i (by first | rfl | assumption) | exact z_c1_r (by first | rfl | assumption) | exact z_c1_n (by first | rfl | assumption) | exact z_c1_c (by first | rfl | assumption) | exact z_c1_0 (by first | rfl | assumption)) (dec1 _) ?_
        refine r_goto (tgt := 7) dX3_innermostMacro_35 (by decide) ?_
        exact ih _ (by omega) hi l0 rfl
  refine r_aload_n dX3_innermostMacro_0 (by first | rfl | assumption) ?_
  refine r_getf dX3_innermostMacro_1 zf_X3_18 (by assumption) rfl ?_
  refine r_ic (1) dX3_innermostMacro_4 rfl ?_
  refine r_isub dX3_innermostMacro_5 ?_
  refine r_istore_n dX3_innermostMacro_6 (by decide) (by first | exact z_c1_i (by first | rfl | assumption) | exact z_c1_r (by first | rfl | assumption) | exact z_c1_n (by first | rfl | assumption) | exact z_c1_c (by first | rfl | assumption) | exact z_c1_0 (by first | rfl | assumption)) ?_
  exact loop sz _ (Nat.le_refl _) rfl rfl rfl
end
