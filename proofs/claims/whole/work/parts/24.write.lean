/-! PART: a macro's line, written with everything replaced -/
def wrA (src : List Nat) (a en sn : Nat) (ps : List (Nat × Nat)) (gv : List Nat) (gs : List (Nat × Nat)) : List Nat × Nat := if src.getD a 0 ≠ 92 then ([src.getD a 0], 1) else if a + 1 < en ∧ src.getD (a + 1) 0 = 64 then (dgk sn 9 false, 2) else match plA src (a + 1) en ps 0 none 0 with
  | none => ([92], 1)
  | some i => (seg gv (gs.getD i (0, 0)).1 (gs.getD i (0, 0)).2, 1 + (ps.getD i (0, 0)).2)
theorem iAt_gD {α : Type} {f : α → Nat} {l : List α} {i : Nat} {d0 : α} (hl : l.length < 2 ^ 31) (hi : i < 2 ^ 31) (h0 : f d0 = 0) : iAt (l.map fun q => nI (f q)) (nI i) = nI (f (l.getD i d0)) := by
  rcases Nat.lt_or_ge i l.length with q | q
  · exact iAt_mapf hl (getD_some q)
  · rw [iAt_out (by rw [List.length_map]; exact q) hi, List.getD_eq_getElem?_getD, List.getElem?_eq_none q]
    show (0 : Int32) = nI (f d0)
    rw [h0]
    rfl
theorem iAt_gD1 {l : List (Nat × Nat)} {i : Nat} (hl : l.length ≤ 65536) (hi : i ≤ 65536) : iAt (l.map fun q => nI q.1) (nI i) = nI (l.getD i (0, 0)).1 := by
  have h := iAt_gD (f := fun q : Nat × Nat => q.1) (l := l) (i := i) (d0 := (0, 0)) (by omega) (by omega) rfl
  exact h
theorem iAt_gD2 {l : List (Nat × Nat)} {i : Nat} (hl : l.length ≤ 65536) (hi : i ≤ 65536) : iAt (l.map fun q => nI q.2) (nI i) = nI (l.getD i (0, 0)).2 := by
  have h := iAt_gD (f := fun q : Nat × Nat => q.2) (l := l) (i := i) (d0 := (0, 0)) (by omega) (by omega) rfl
  exact h
theorem plA_lt {xs : List Nat} {a en j : Nat} : ∀ (r : List (Nat × Nat)) (i : Nat) (best : Option Nat) (bl : Nat), (∀ q, best = some q → q < i) → plA xs a en r i best bl = some j → j < i + r.length
  | [], i, best, bl, hb, h => by
    have := hb j h
    simpa using this
  | p :: r, i, best, bl, hb, h => by
    rw [plA_s] at h
    rw [List.length_cons]
    split at h
    · have := plA_lt r (i + 1) (some i) p.2 (fun q hq => by cases hq; omega) h
      omega
    · have := plA_lt r (i + 1) best bl (fun q hq => by have := hb q hq; omega) h
      omega
theorem Vw.byte {S : zS} {E : zE} {lB lI : List Nat} {B C o lim : Nat} {xs : List Nat} (h : Vw S E lB lI B C) (ho : E.1 o = some (lim, xs)) {i : Nat} (hi : i < xs.length) : xs.getD i 0 < 256 := by
  obtain ⟨g, -, hg⟩ := (h.b ho).1.2.1
  exact (hg i hi).1
theorem Vw.bl {S : zS} {E : zE} {lB lI : List Nat} {B C o lim : Nat} {xs : List Nat} (h : Vw S E lB lI B C) (ho : E.1 o = some (lim, xs)) : xs.length ≤ lim ∧ lim ≤ 65536 := by
  have k := (h.b ho).1
  exact ⟨k.2.2.2.1, k.2.2.2.2.2⟩
theorem Vw.il {S : zS} {E : zE} {lB lI : List Nat} {B C o bnd : Nat} {xs : List Int32} (h : Vw S E lB lI B C) (ho : E.2.1 o = some (bnd, xs)) : xs.length ≤ bnd ∧ bnd ≤ 65536 := by
  have k := h.i ho
  exact ⟨k.2.2.2.1, k.2.2.2.2.1⟩
theorem take_app {xs ws : List Nat} {lim : Nat} (h : (xs ++ ws).length ≤ lim) : (xs ++ ws).take lim = xs ++ ws := List.take_of_length_le h
section
variable {d : Nat} {S : zS} {E : zE} {lB lI : List Nat} {B C p m ms ml g s e sb ib lims lim b1 b2 b3 b4 a en sn : Nat} {k0 fr0 to0 bk0 ln0 tl0 : Int32} {w0 w1 w2 w3 : Value} {src xs gv : List Nat} {ps gs : List (Nat × Nat)}
/-- append, by what the view says -/
theorem V_append1 {c : Nat} (hc : c < 256) (hV : Vw S E lB lI B C) (hib : E.1 ib = some (lim, xs)) : Rc (d + 3) mX0_append [.ref ib, .int (nI c)] S (fun v S1 => v = some (.int (bI (decide ((xs ++ [c]).length ≤ lim)))) ∧ vQ S E lB lI B C [] S1 (va_up E.1 ib (some (lim, (xs ++ [c]).take lim))) E.2.1) := by
  refine (V_X0_append hV hib).mono ?_
  have hl1 : (xs ++ [c]).length = xs.length + 1 := by rw [List.length_append, List.length_singleton]
  rintro v S1 (⟨h1, rfl, rc, hP⟩ | ⟨h1, rfl, rfl⟩)
  · rw [ob_nI hc] at hP
    refine ⟨?_, _, hP, ?_, rfl⟩
    · rw [decide_eq_true (show (xs ++ [c]).length ≤ lim by omega)]
      rfl
    · rw [take_app (show (xs ++ [c]).length ≤ lim by omega)]
      rfl
  · refine ⟨?_, E, vP.rf hV, ?_, rfl⟩
    · rw [decide_eq_false (show ¬ (xs ++ [c]).length ≤ lim by omega)]
      rfl
    · rw [List.take_append_of_le_length (by omega), List.take_of_length_le (by omega), ← hib]
      funext x
      by_cases q : x = ib
      · subst q; exact (va_up_self _ _ _).symm
      · exact (va_up_ne _ _ q).symm
def wrPost (S : zS) (E : zE) (lB lI : List Nat) (B C ib lim : Nat) (xs : List Nat) (w : List Nat × Nat) (v : Option Value) (S1 : zS) : Prop := v = some (.int (if (xs ++ w.1).length ≤ lim then nI w.2 else 0)) ∧ vQ S E lB lI B C [] S1 (va_up E.1 ib (some (lim, (xs ++ w.1).take lim))) E.2.1
set_option maxRecDepth 10000 in
set_option maxHeartbeats 1000000 in
theorem V_X4_writeAt (hp : S.2.2 p = .inr (5, pF k0 fr0 to0 bk0 ln0 tl0 (nI sn) (.ref m) g s e)) (hl : p < S.1) (hm : S.2.2 m = .inr (3, [w0, w1, w2, w3, .ref ms, .ref ml])) (hml : m < S.1) (hV : Vw S E lB lI B C) (hms : E.2.1 ms = some (b1, ps.map fun q => nI q.1)) (hmv : E.2.1 ml = some (b2, ps.map fun q => nI q.2)) (hsb : E.1 sb = some (lims, src)) (hib : E.1 ib = some (lim, xs)) (hg : E.1 g = some (1024, gv)) (hs : E.2.1 s = some (b3, gs.map fun q => nI q.1)) (he : E.2.1 e = some (b4, gs.map fun q => nI q.2)) (ng : g ≠ ib) (hps : ∀ q ∈ ps, q.1 ≤ 65536 ∧ q.2 ≤ 65536) (hgs : ∀ q ∈ gs, q.1 ≤ 65536 ∧ q.2 ≤ gv.length) (hsn : sn < 2 ^ 30) (ha : a < en) (hen : en ≤ src.length) : Rc (d + 5) mX4_writeAt [.ref p, .ref sb, .int (nI a), .int (nI en), .ref ib] S (wrPost S E lB lI B C ib lim xs (wrA src a en sn ps gv gs)) := by
  have hp0 : S.2.2 p = .inr (5, [.int k0, .int fr0, .int to0, .int bk0, .int ln0, .int tl0, .int (nI sn), .ref m, .ref g, .ref s, .ref e]) := hp
  have ksb := (hV.b hsb).1
  have ksb1 := ksb.1
  have hsl := hV.bl hsb
  have cib := (hV.b hib).1.1
  have qs := (hV.i hs).1
  have qs1 := qs.1
  have qe := (hV.i he).1
  have qe1 := qe.1
  have c256 := hV.byte hsb (show a < src.length by omega)
  have hgl : gs.length ≤ 65536 := by have := hV.il hs; rw [List.length_map] at this; omega
  have hpl : ps.length ≤ 65536 := by have := hV.il hms; rw [List.length_map] at this; omega
  refine Rc.of ?_
  refine r_aload_n dX4_writeAt_0 (by first | rfl | assumption) ?_
  refine r_iload_n dX4_writeAt_1 (by first | rfl | assumption) ?_
  refine r_callV1 dX4_writeAt_2 zm_X4_94 (by assumption) rfl (Nat.le_of_ble_eq_true rfl) (Nat.le_of_ble_eq_true rfl) (C_X0_at ksb) (fun v S9 hv => ?_)
  obtain ⟨hS9, rfl⟩ := hv
  subst hS9
  rw [bAt_in (show a < src.length by omega) (by omega)]
  refine r_istore dX4_writeAt_5 (by decide) (by first | exact z_c1_i (by first | rfl | assumption) | exact z_c1_r (by first | rfl | assumption) | exact z_c1_n (by first | rfl | assumption) | exact z_c1_c (by first | rfl | assumption) | exact z_c1_0 (by first | rfl | assumption)) ?_
  refine r_iload dX4_writeAt_7 (by first | rfl | assumption) ?_
  refine r_bp (92) dX4_writeAt_9 rfl ?_
  by_cases q1 : src.getD a 0 ≠ 92
  · have hw : wrA src a en sn ps gv gs = ([src.getD a 0], 1) := if_pos q1
    rw [hw]
    refine r_icmp_eq_f (tgt := 30) dX4_writeAt_11 (by decide) (fun z => q1 (by have := congrArg Int32.toNatClampNeg z; rw [nI_clamp (by omega)] at this; exact this)) ?_
    refine r_aload dX4_writeAt_14 (by first | rfl | assumption) ?_
    refine r_iload dX4_writeAt_16 (by first | rfl | assumption) ?_
    refine r_callV1 dX4_writeAt_18 zm_X4_97 (by assumption) rfl (Nat.le_of_ble_eq_true rfl) (Nat.le_of_ble_eq_true rfl) (V_append1 c256 hV hib) (fun v S1 hv => ?_)
    obtain ⟨rfl, hQ⟩ := hv
    by_cases q : (xs ++ [src.getD a 0]).length ≤ lim
    · refine r_if_eq_f (tgt := 28) dX4_writeAt_21 (by decide) (by rw [decide_eq_true q]; decide) ?_
      refine r_ic (1) dX4_writeAt_24 rfl ?_
      refine r_goto (tgt := 29) dX4_writeAt_25 (by decide) ?_
      refine r_ireturn dX4_writeAt_29 _ rfl rfl ⟨by rw [if_pos q]; rfl, hQ⟩
    · refine r_if_eq_t (tgt := 28) dX4_writeAt_21 (by decide) (by rw [decide_eq_false q]; rfl) ?_
      refine r_ic (0) dX4_writeAt_28 rfl ?_
      refine r_ireturn dX4_writeAt_29 _ rfl rfl ⟨by rw [if_neg q], hQ⟩
  have q1' : src.getD a 0 = 92 := Decidable.not_not.mp q1
  refine r_icmp_eq_t (tgt := 30) dX4_writeAt_11 (by decide) (by rw [q1']; rfl) ?_
  have slow : ¬ (a + 1 < en ∧ src.getD (a + 1) 0 = 64) → ∀ L : Nat → Option Value, L 0 = some (.ref p) → L 1 = some (.ref sb) → L 2 = some (.int (nI a)) → L 3 = some (.int (nI en)) → L 4 = some (.ref ib) → L 5 = some (.int (nI (src.getD a 0))) → Ru (d + 5) mX4_writeAt 67 L [] S9 (z_en mX4_writeAt (wrPost S9 E lB lI B C ib lim xs (wrA src a en sn ps gv gs))) := by
    intro q2 L l0 l1 l2 l3 l4 l5
    refine r_aload_n dX4_writeAt_67 (by first | rfl | assumption) ?_
    refine r_getf dX4_writeAt_68 zf_X4_46 (by assumption) rfl ?_
    refine r_ifnonnull (tgt := 78) dX4_writeAt_71 (by decide) ?_
    refine r_aload_n dX4_writeAt_78 (by first | rfl | assumption) ?_
    refine r_getf dX4_writeAt_79 zf_X4_46 (by assumption) rfl ?_
    refine r_aload_n dX4_writeAt_82 (by first | rfl | assumption) ?_
    refine r_iload_n dX4_writeAt_83 (by first | rfl | assumption) ?_
    refine r_ic (1) dX4_writeAt_84 rfl ?_
    refine r_iadd dX4_writeAt_85 ?_
    rw [nI_1]
    refine r_iload_n dX4_writeAt_86 (by first | rfl | assumption) ?_
    refine r_callV3 dX4_writeAt_87 zm_X4_107 (by assumption) rfl (Nat.le_of_ble_eq_true rfl) (Nat.le_of_ble_eq_true rfl) (C_X2_placeAt hm hV hms hmv hsb hps (show a + 1 ≤ 65536 by omega) (show en ≤ 65536 by omega)) (fun v S8 hv => ?_)
    obtain ⟨hS8, rfl⟩ := hv
    subst hS8
    refine r_istore dX4_writeAt_90 (by decide) (by first | exact z_c1_i (by first | rfl | assumption) | exact z_c1_r (by first | rfl | assumption) | exact z_c1_n (by first | rfl | assumption) | exact z_c1_c (by first | rfl | assumption) | exact z_c1_0 (by first | rfl | assumption)) ?_
    refine r_iload dX4_writeAt_92 (by first | rfl | assumption) ?_
    have hw : wrA src a en sn ps gv gs = match plA src (a + 1) en ps 0 none 0 with
      | none => ([92], 1)
      | some i => (seg gv (gs.getD i (0, 0)).1 (gs.getD i (0, 0)).2, 1 + (ps.getD i (0, 0)).2) := by
      unfold wrA
      rw [if_neg q1, if_neg q2]
    cases hpa : plA src (a + 1) en ps 0 none 0 with
    | none =>
      rw [hpa] at hw
      have hw : wrA src a en sn ps gv gs = ([92], 1) := hw
      rw [hw]
      refine r_if_ge_f (tgt := 113) dX4_writeAt_94 (by decide) (show ¬ (0 : Int32) ≤ -1 by decide) ?_
      refine r_aload dX4_writeAt_97 (by first | rfl | assumption) ?_
      refine r_iload dX4_writeAt_99 (by first | rfl | assumption) ?_
      refine r_callV1 dX4_writeAt_101 zm_X4_97 (by assumption) rfl (Nat.le_of_ble_eq_true rfl) (Nat.le_of_ble_eq_true rfl) (V_append1 c256 hV hib) (fun v S1 hv => ?_)
      obtain ⟨rfl, hQ⟩ := hv
      rw [q1'] at hQ ⊢
      by_cases q : (xs ++ [92]).length ≤ lim
      · refine r_if_eq_f (tgt := 111) dX4_writeAt_104 (by decide) (by rw [decide_eq_true q]; decide) ?_
        refine r_ic (1) dX4_writeAt_107 rfl ?_
        refine r_goto (tgt := 112) dX4_writeAt_108 (by decide) ?_
        refine r_ireturn dX4_writeAt_112 _ rfl rfl ⟨by rw [if_pos q]; rfl, hQ⟩
      · refine r_if_eq_t (tgt := 111) dX4_writeAt_104 (by decide) (by rw [decide_eq_false q]; rfl) ?_
        refine r_ic (0) dX4_writeAt_111 rfl ?_
        refine r_ireturn dX4_writeAt_112 _ rfl rfl ⟨by rw [if_neg q], hQ⟩
    | some i =>
      rw [hpa] at hw
      have hw : wrA src a en sn ps gv gs = (seg gv (gs.getD i (0, 0)).1 (gs.getD i (0, 0)).2, 1 + (ps.getD i (0, 0)).2) := hw
      have hi : i < ps.length := by
        have := plA_lt _ _ _ _ (fun q hq => by cases hq) hpa
        omega
      rw [hw]
      rw [show oI (some i) = nI i from rfl]
      refine r_if_ge_t (tgt := 113) dX4_writeAt_94 (by decide) (show nI 0 ≤ nI i from nI_le (Nat.zero_le _) (by omega)) ?_
      refine r_aload dX4_writeAt_113 (by first | rfl | assumption) ?_
      refine r_aload_n dX4_writeAt_115 (by first | rfl | assumption) ?_
      refine r_getf dX4_writeAt_116 zf_X4_14 (by assumption) rfl ?_
      refine r_aload_n dX4_writeAt_119 (by first | rfl | assumption) ?_
      refine r_getf dX4_writeAt_120 zf_X4_23 (by assumption) rfl ?_
      refine r_iload dX4_writeAt_123 (by first | rfl | assumption) ?_
      refine r_callV1 dX4_writeAt_125 zm_X4_111 (by assumption) rfl (Nat.le_of_ble_eq_true rfl) (Nat.le_of_ble_eq_true rfl) (C_X1_at qs) (fun v S8 hv => ?_)
      obtain ⟨hS8, rfl⟩ := hv
      subst hS8
      rw [iAt_gD1 (l := gs) (by omega) (by omega)]
      refine r_aload_n dX4_writeAt_128 (by first | rfl | assumption) ?_
      refine r_getf dX4_writeAt_129 zf_X4_27 (by assumption) rfl ?_
      refine r_iload dX4_writeAt_132 (by first | rfl | assumption) ?_
      refine r_callV1 dX4_writeAt_134 zm_X4_111 (by assumption) rfl (Nat.le_of_ble_eq_true rfl) (Nat.le_of_ble_eq_true rfl) (C_X1_at qe) (fun v S8 hv => ?_)
      obtain ⟨hS8, rfl⟩ := hv
      subst hS8
      rw [iAt_gD2 (l := gs) (by omega) (by omega)]
      have hgi : (gs.getD i (0, 0)).1 ≤ 65536 ∧ (gs.getD i (0, 0)).2 ≤ gv.length := by
        rcases Nat.lt_or_ge i gs.length with z | z
        · exact hgs _ (List.mem_of_getElem? (getD_some z))
        · rw [List.getD_eq_getElem?_getD, List.getElem?_eq_none z]
          exact ⟨Nat.zero_le _, Nat.zero_le _⟩
      refine r_callV3 dX4_writeAt_137 zm_X4_57 (by assumption) rfl (Nat.le_of_ble_eq_true rfl) (Nat.le_of_ble_eq_true rfl) (V_X0_appendPart hV hib hg ng hgi.2 hgi.1) (fun v S1 hv => ?_)
      obtain ⟨rfl, rc, hP⟩ := hv
      have p1 := hP.raw hV hp0 (by decide) (by decide) hl (by simp)
      have m1 := hP.raw hV hm (by decide) (by decide) hml (by simp)
      by_cases q : (xs ++ seg gv (gs.getD i (0, 0)).1 (gs.getD i (0, 0)).2).length ≤ lim
      · refine r_if_eq_f (tgt := 157) dX4_writeAt_140 (by decide) (by rw [decide_eq_true q]; decide) ?_
        refine r_ic (1) dX4_writeAt_143 rfl ?_
        refine r_aload_n dX4_writeAt_144 (by first | rfl | assumption) ?_
        refine r_getf dX4_writeAt_145 zf_X4_46 (by assumption) rfl ?_
        refine r_iload dX4_writeAt_148 (by first | rfl | assumption) ?_
        refine r_callV1 dX4_writeAt_150 zm_X4_112 (by assumption) rfl (Nat.le_of_ble_eq_true rfl) (Nat.le_of_ble_eq_true rfl) (C_X2_placeLength m1 hP.1 hmv) (fun v S8 hv => ?_)
        obtain ⟨hS8, rfl⟩ := hv
        subst hS8
        rw [iAt_gD2 (l := ps) (by omega) (by omega)]
        refine r_iadd dX4_writeAt_153 ?_
        rw [show (1 : Int32) = nI 1 from rfl, nI_add]
        refine r_goto (tgt := 158) dX4_writeAt_154 (by decide) ?_
        refine r_ireturn dX4_writeAt_158 _ rfl rfl ⟨by rw [if_pos q], _, hP, rfl, rfl⟩
      · refine r_if_eq_t (tgt := 157) dX4_writeAt_140 (by decide) (by rw [decide_eq_false q]; rfl) ?_
        refine r_ic (0) dX4_writeAt_157 rfl ?_
        refine r_ireturn dX4_writeAt_158 _ rfl rfl ⟨by rw [if_neg q], _, hP, rfl, rfl⟩
  refine r_iload_n dX4_writeAt_30 (by first | rfl | assumption) ?_
  refine r_ic (1) dX4_writeAt_31 rfl ?_
  refine r_iadd dX4_writeAt_32 ?_
  rw [nI_1]
  refine r_iload_n dX4_writeAt_33 (by first | rfl | assumption) ?_
  by_cases q2 : a + 1 < en
  · refine r_icmp_ge_f (tgt := 67) dX4_writeAt_34 (by decide) (nI_ge q2 (by omega)) ?_
    refine r_aload_n dX4_writeAt_37 (by first | rfl | assumption) ?_
    refine r_iload_n dX4_writeAt_38 (by first | rfl | assumption) ?_
    refine r_ic (1) dX4_writeAt_39 rfl ?_
    refine r_iadd dX4_writeAt_40 ?_
    rw [nI_1]
    refine r_callV1 dX4_writeAt_41 zm_X4_94 (by assumption) rfl (Nat.le_of_ble_eq_true rfl) (Nat.le_of_ble_eq_true rfl) (C_X0_at ksb) (fun v S8 hv => ?_)
    obtain ⟨hS8, rfl⟩ := hv
    subst hS8
    rw [bAt_in (show a + 1 < src.length by omega) (by omega)]
    refine r_bp (64) dX4_writeAt_44 rfl ?_
    have d256 := hV.byte hsb (show a + 1 < src.length by omega)
    by_cases q3 : src.getD (a + 1) 0 = 64
    · have hw : wrA src a en sn ps gv gs = (dgk sn 9 false, 2) := by
        unfold wrA
        rw [if_neg q1, if_pos ⟨q2, q3⟩]
      rw [hw]
      refine r_icmp_ne_f (tgt := 67) dX4_writeAt_46 (by decide) (by rw [q3]; rfl) ?_
      refine r_aload dX4_writeAt_49 (by first | rfl | assumption) ?_
      refine r_aload_n dX4_writeAt_51 (by first | rfl | assumption) ?_
      refine r_getf dX4_writeAt_52 zf_X4_101 (by assumption) rfl ?_
      refine r_callV1 dX4_writeAt_55 zm_X4_104 (by assumption) rfl (Nat.le_of_ble_eq_true rfl) (Nat.le_of_ble_eq_true rfl) (V_X0_appendDecimal hV hib hsn) (fun v S1 hv => ?_)
      obtain ⟨rfl, rc, hP⟩ := hv
      by_cases q : (xs ++ dgk sn 9 false).length ≤ lim
      · refine r_if_eq_f (tgt := 65) dX4_writeAt_58 (by decide) (by rw [decide_eq_true q]; decide) ?_
        refine r_ic (2) dX4_writeAt_61 rfl ?_
        refine r_goto (tgt := 66) dX4_writeAt_62 (by decide) ?_
        refine r_ireturn dX4_writeAt_66 _ rfl rfl ⟨by rw [if_pos q]; rfl, _, hP, rfl, rfl⟩
      · refine r_if_eq_t (tgt := 65) dX4_writeAt_58 (by decide) (by rw [decide_eq_false q]; rfl) ?_
        refine r_ic (0) dX4_writeAt_65 rfl ?_
        refine r_ireturn dX4_writeAt_66 _ rfl rfl ⟨by rw [if_neg q], _, hP, rfl, rfl⟩
    · refine r_icmp_ne_t (tgt := 67) dX4_writeAt_46 (by decide) (fun z => q3 (by have := congrArg Int32.toNatClampNeg z; rw [nI_clamp (by omega)] at this; exact this)) ?_
      exact slow (fun z => q3 z.2) _ rfl rfl rfl rfl rfl rfl
  · refine r_icmp_ge_t (tgt := 67) dX4_writeAt_34 (by decide) (nI_le (show en ≤ a + 1 by omega) (by omega)) ?_
    exact slow (fun z => q2 z.1) _ rfl rfl rfl rfl rfl rfl
def wrF (src : List Nat) (en sn : Nat) (ps : List (Nat × Nat)) (gv : List Nat) (gs : List (Nat × Nat)) (lim : Nat) : Nat → Nat → List Nat → Option (List Nat)
  | 0, _, xs => some xs
  | n + 1, a, xs => if a < en then (if (xs ++ (wrA src a en sn ps gv gs).1).length ≤ lim then wrF src en sn ps gv gs lim n (a + (wrA src a en sn ps gv gs).2) (xs ++ (wrA src a en sn ps gv gs).1) else none) else some xs
theorem wrF_s {src : List Nat} {en sn lim n a : Nat} {ps : List (Nat × Nat)} {gv : List Nat} {gs : List (Nat × Nat)} {xs : List Nat} : wrF src en sn ps gv gs lim (n + 1) a xs = if a < en then (if (xs ++ (wrA src a en sn ps gv gs).1).length ≤ lim then wrF src en sn ps gv gs lim n (a + (wrA src a en sn ps gv gs).2) (xs ++ (wrA src a en sn ps gv gs).1) else none) else some xs := rfl
theorem wrA_k {src : List Nat} {a en sn : Nat} {ps : List (Nat × Nat)} {gv : List Nat} {gs : List (Nat × Nat)} (hps : ∀ q ∈ ps, q.1 ≤ 65536 ∧ q.2 ≤ 65536) : 1 ≤ (wrA src a en sn ps gv gs).2 ∧ (wrA src a en sn ps gv gs).2 ≤ 65537 := by
  unfold wrA
  split
  · show 1 ≤ 1 ∧ 1 ≤ 65537
    omega
  · split
    · show 1 ≤ 2 ∧ 2 ≤ 65537
      omega
    · cases hpa : plA src (a + 1) en ps 0 none 0 with
      | none =>
        show 1 ≤ 1 ∧ 1 ≤ 65537
        omega
      | some i =>
        have hi : i < ps.length := by
          have := plA_lt _ _ _ _ (fun q hq => by cases hq) hpa
          omega
        have := hps _ (List.mem_of_getElem? (getD_some (d0 := (0, 0)) hi))
        show 1 ≤ 1 + (ps.getD i (0, 0)).2 ∧ 1 + (ps.getD i (0, 0)).2 ≤ 65537
        omega
set_option maxRecDepth 10000 in
set_option maxHeartbeats 1000000 in
theorem V_X4_write (hp : S.2.2 p = .inr (5, pF k0 fr0 to0 bk0 ln0 tl0 (nI sn) (.ref m) g s e)) (hl : p < S.1) (hm : S.2.2 m = .inr (3, [w0, w1, w2, w3, .ref ms, .ref ml])) (hml : m < S.1) (hV : Vw S E lB lI B C) (hms : E.2.1 ms = some (b1, ps.map fun q => nI q.1)) (hmv : E.2.1 ml = some (b2, ps.map fun q => nI q.2)) (hsb : E.1 sb = some (lims, src)) (hib : E.1 ib = some (lim, xs)) (hg : E.1 g = some (1024, gv)) (hs : E.2.1 s = some (b3, gs.map fun q => nI q.1)) (he : E.2.1 e = some (b4, gs.map fun q => nI q.2)) (ng : g ≠ ib) (nsb : sb ≠ ib) (hps : ∀ q ∈ ps, q.1 ≤ 65536 ∧ q.2 ≤ 65536) (hgs : ∀ q ∈ gs, q.1 ≤ 65536 ∧ q.2 ≤ gv.length) (hsn : sn < 2 ^ 30) (ha : a ≤ en) (hen : en ≤ src.length) : Rc (d + 6) mX4_write [.ref p, .ref sb, .int (nI a), .int (nI en), .ref ib] S (fun v S1 => (∃ ys, wrF src en sn ps gv gs lim (en - a) a xs = some ys ∧ v = some (.int 1) ∧ vQ S E lB lI B C [] S1 (va_up E.1 ib (some (lim, ys))) E.2.1) ∨ (wrF src en sn ps gv gs lim (en - a) a xs = none ∧ v = some (.int 0) ∧ ∃ ys, vQ S E lB lI B C [] S1 (va_up E.1 ib (some (lim, ys))) E.2.1)) := by
  have hsl := hV.bl hsb
  refine Rc.of ?_
  have loop : ∀ (n u a1 : Nat) (ys : List Nat) (L : Nat → Option Value) (S1 : zS) (E1 : zE), u + n = en → u ≤ a1 → a1 ≤ 2 ^ 20 → wrF src en sn ps gv gs lim n a1 ys = wrF src en sn ps gv gs lim (en - a) a xs → vP S E lB lI B C [] S1 E1 → E1.1 = va_up E.1 ib (some (lim, ys)) → E1.2.1 = E.2.1 → L 0 = some (.ref p) → L 1 = some (.ref sb) → L 3 = some (.int (nI en)) → L 4 = some (.ref ib) → L 5 = some (.int (nI a1)) → L 6 = some (.int (nI u)) → Ru (d + 6) mX4_write 6 L [] S1 (z_en mX4_write (fun v S1 => (∃ ys, wrF src en sn ps gv gs lim (en - a) a xs = some ys ∧ v = some (.int 1) ∧ vQ S E lB lI B C [] S1 (va_up E.1 ib (some (lim, ys))) E.2.1) ∨ (wrF src en sn ps gv gs lim (en - a) a xs = none ∧ v = some (.int 0) ∧ ∃ ys, vQ S E lB lI B C [] S1 (va_up E.1 ib (some (lim, ys))) E.2.1))) := by
    intro n
    induction n with
    | zero =>
      intro u a1 ys L S1 E1 hun hua ha1 hw hP e1 e2 l0 l1 l3 l4 l5 l6
      refine r_iload dX4_write_6 (by first | rfl | assumption) ?_
      refine r_iload_n dX4_write_8 (by first | rfl | assumption) ?_
      refine r_icmp_ge_t (tgt := 50) dX4_write_9 (by decide) (nI_le (show en ≤ u by omega) (by omega)) ?_
      refine r_ic (1) dX4_write_50 rfl ?_
      refine r_ireturn dX4_write_51 _ rfl rfl (Or.inl ⟨ys, hw.symm, rfl, E1, hP, e1, e2⟩)
    | succ n ih =>
      intro u a1 ys L S1 E1 hun hua ha1 hw hP e1 e2 l0 l1 l3 l4 l5 l6
      rw [wrF_s] at hw
      refine r_iload dX4_write_6 (by first | rfl | assumption) ?_
      refine r_iload_n dX4_write_8 (by first | rfl | assumption) ?_
      refine r_icmp_ge_f (tgt := 50) dX4_write_9 (by decide) (nI_ge (show u < en by omega) (by omega)) ?_
      refine r_iload dX4_write_12 (by first | rfl | assumption) ?_
      refine r_iload_n dX4_write_14 (by first | rfl | assumption) ?_
      by_cases q : a1 < en
      · rw [if_pos q] at hw
        refine r_icmp_ge_f (tgt := 50) dX4_write_15 (by decide) (nI_ge q (by omega)) ?_
        refine r_aload_n dX4_write_18 (by first | rfl | assumption) ?_
        refine r_aload_n dX4_write_19 (by first | rfl | assumption) ?_
        refine r_iload dX4_write_20 (by first | rfl | assumption) ?_
        refine r_iload_n dX4_write_22 (by first | rfl | assumption) ?_
        refine r_aload dX4_write_23 (by first | rfl | assumption) ?_
        have p1 := hP.raw hV hp (by decide) (by decide) hl (by simp)
        have m1 := hP.raw hV hm (by decide) (by decide) hml (by simp)
        have hk := wrA_k (src := src) (a := a1) (en := en) (sn := sn) (gv := gv) (gs := gs) hps
        refine r_callV4 dX4_write_25 zm_X4_90 (by assumption) rfl (Nat.le_of_ble_eq_true rfl) (Nat.le_of_ble_eq_true rfl) (V_X4_writeAt p1 (hP.lt hl) m1 (hP.lt hml) hP.1 (by rw [e2]; exact hms) (by rw [e2]; exact hmv) (by rw [e1, va_up_ne _ _ nsb]; exact hsb) (by rw [e1]; exact va_up_self _ _ _) (by rw [e1, va_up_ne _ _ ng]; exact hg) (by rw [e2]; exact hs) (by rw [e2]; exact he) ng hps hgs hsn q hen) (fun v S2 hv => ?_)
        obtain ⟨rfl, E2, hP2, e3, e4⟩ := hv
        rw [e1, up2] at e3
        rw [e2] at e4
        generalize wrA src a1 en sn ps gv gs = w at hw hk e3
        by_cases q2 : (ys ++ w.1).length ≤ lim
        · rw [if_pos q2] at hw ⊢
          rw [take_app q2] at e3
          refine r_istore dX4_write_28 (by decide) (by first | exact z_c1_i (by first | rfl | assumption) | exact z_c1_r (by first | rfl | assumption) | exact z_c1_n (by first | rfl | assumption) | exact z_c1_c (by first | rfl | assumption) | exact z_c1_0 (by first | rfl | assumption)) ?_
          refine r_iload dX4_write_30 (by first | rfl | assumption) ?_
          refine r_if_ne_t (tgt := 37) dX4_write_32 (by decide) (show ¬ nI w.2 = nI 0 from fun z => by have := congrArg Int32.toNatClampNeg z; rw [nI_clamp (by omega), nI_clamp (by omega)] at this; omega) ?_
          refine r_iload dX4_write_37 (by first | rfl | assumption) ?_
          refine r_iload dX4_write_39 (by first | rfl | assumption) ?_
          refine r_iadd dX4_write_41 ?_
          rw [nI_add]
          refine r_istore dX4_write_42 (by decide) (by first | exact z_c1_i (by first | rfl | assumption) | exact z_c1_r (by first | rfl | assumption) | exact z_c1_n (by first | rfl | assumption) | exact z_c1_c (by first | rfl | assumption) | exact z_c1_0 (by first | rfl | assumption)) ?_
          refine r_inc (nI (u + 1)) dX4_write_44 (by first | rfl | assumption) (by decide) (by first | exact z_c1_i (by first | rfl | assumption) | exact z_c1_r (by first | rfl | assumption) | exact z_c1_n (by first | rfl | assumption) | exact z_c1_c (by first | rfl | assumption) | exact z_c1_0 (by first | rfl | assumption)) (nI_1 u) ?_
          refine r_goto (tgt := 6) dX4_write_47 (by decide) ?_
          exact ih (u + 1) (a1 + w.2) (ys ++ w.1) _ S2 E2 (by omega) (by omega) (by omega) hw (hP.tr hP2) e3 e4 l0 l1 l3 l4 rfl rfl
        · rw [if_neg q2] at hw ⊢
          refine r_istore dX4_write_28 (by decide) (by first | exact z_c1_i (by first | rfl | assumption) | exact z_c1_r (by first | rfl | assumption) | exact z_c1_n (by first | rfl | assumption) | exact z_c1_c (by first | rfl | assumption) | exact z_c1_0 (by first | rfl | assumption)) ?_
          refine r_iload dX4_write_30 (by first | rfl | assumption) ?_
          refine r_if_ne_f (tgt := 37) dX4_write_32 (by decide) (rfl) ?_
          refine r_ic (0) dX4_write_35 rfl ?_
          refine r_ireturn dX4_write_36 _ rfl rfl (Or.inr ⟨hw.symm, rfl, _, E2, hP.tr hP2, e3, e4⟩)
      · rw [if_neg q] at hw
        refine r_icmp_ge_t (tgt := 50) dX4_write_15 (by decide) (nI_le (show en ≤ a1 by omega) (by omega)) ?_
        refine r_ic (1) dX4_write_50 rfl ?_
        refine r_ireturn dX4_write_51 _ rfl rfl (Or.inl ⟨ys, hw.symm, rfl, E1, hP, e1, e2⟩)
  refine r_iload_n dX4_write_0 (by first | rfl | assumption) ?_
  refine r_istore dX4_write_1 (by decide) (by first | exact z_c1_i (by first | rfl | assumption) | exact z_c1_r (by first | rfl | assumption) | exact z_c1_n (by first | rfl | assumption) | exact z_c1_c (by first | rfl | assumption) | exact z_c1_0 (by first | rfl | assumption)) ?_
  refine r_iload_n dX4_write_3 (by first | rfl | assumption) ?_
  refine r_istore dX4_write_4 (by decide) (by first | exact z_c1_i (by first | rfl | assumption) | exact z_c1_r (by first | rfl | assumption) | exact z_c1_n (by first | rfl | assumption) | exact z_c1_c (by first | rfl | assumption) | exact z_c1_0 (by first | rfl | assumption)) ?_
  refine loop (en - a) a a xs _ S E (by omega) (Nat.le_refl _) (by omega) rfl (vP.rf hV) ?_ rfl rfl rfl rfl rfl rfl rfl
  rw [← hib]
  funext x
  by_cases q : x = ib
  · subst q; exact (va_up_self _ _ _).symm
  · exact (va_up_ne _ _ q).symm
end
