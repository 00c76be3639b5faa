theorem nuL_le {xs : List Nat} {bs : Int32} : ∀ (n k : Nat) (v : Int64) (f : Bool), k ≤ (nuL xs bs n k v f).1 ∧ (nuL xs bs n k v f).1 ≤ k + n
  | 0, k, v, f => ⟨Nat.le_refl _, Nat.le_refl _⟩
  | n + 1, k, v, f => by
    rw [nuL_s]
    split
    · exact ⟨Nat.le_refl _, Nat.le_add_right _ _⟩
    · have := nuL_le (xs := xs) (bs := bs) n (k + 1) (v * bs.toInt64 + (dgt bs (ch xs k)).toInt64) (f && hrm bs v (dgt bs (ch xs k)))
      omega
theorem txF_le {xs : List Nat} : ∀ (n k j : Nat), txF xs n k = some j → k < j ∧ j ≤ xs.length
  | 0, _, _, h => by cases h
  | n + 1, k, j, h => by
    rw [txF_s] at h
    split at h
    · next q =>
      cases h
      rcases Nat.lt_or_ge k xs.length with z | z
      · omega
      · rw [ch_out z] at q
        exact absurd q (by decide)
    · cases hq : chB xs k 34 with
      | none => rw [hq] at h; cases h
      | some q =>
        rw [hq] at h
        have h1 := chB_lt (j := q.1) (c := q.2) hq
        have h2 := txF_le n q.1 j h
        omega
theorem skN_gt {xs : List Nat} {i : Nat} (hi : i < xs.length) (h : fNm (ch xs i) = true) : i < skN xs i := by
  unfold skN
  rw [show xs.length - i = (xs.length - i - 1) + 1 by omega]
  have hc : ch xs i = nI (xs.getD i 0) := if_pos hi
  rw [hc] at h
  show i < (if fNm (nI (xs.getD i 0)) = true then skp _ _ (i + 1) else i)
  rw [if_pos h]
  have := (skp_le (fun k => fNm (nI (xs.getD k 0))) (xs.length - i - 1) (i + 1)).1
  omega
theorem tk_lt {xs : List Nat} {i : Nat} {kd : Int32} {j : Nat} {ov : Option Int64} (h : tk xs i = some (kd, j, ov)) (hi : i < xs.length) (hl : xs.length ≤ 65536) (hb : xs.getD i 0 < 256) : i < j ∧ j ≤ xs.length := by
  unfold tk at h
  split at h
  · split at h
    · next q1 q2 =>
      cases h
      have h1 := nuL_le (xs := xs) (bs := bsN xs i) (xs.length - fsN xs i) (fsN xs i) 0 true
      have h2 : fsN xs i < (num xs i).1 := by
        unfold numOk at q2
        simp only [Bool.and_eq_true, decide_eq_true_eq] at q2
        exact q2.2.1
      have h3 : i ≤ fsN xs i := by unfold fsN; split <;> omega
      unfold num at h2 ⊢
      omega
    · cases h
  · split at h
    · next q1 q2 =>
      split at h
      · cases h
        exact ⟨skN_gt hi q2, (skN_le (Nat.le_of_lt hi)).2⟩
      · cases h
    · split at h
      · cases hq : chB xs (i + 1) 39 with
        | none => rw [hq] at h; cases h
        | some q =>
          rw [hq] at h
          have h1 := chB_lt (j := q.1) (c := q.2) hq
          have h : (if ch xs q.1 = 39 ∧ fNm (ch xs (q.1 + 1)) = false then some ((2 : Int32), q.1 + 1, some q.2.toInt64) else none) = some (kd, j, ov) := h
          split at h
          · next q2 =>
            cases h
            rcases Nat.lt_or_ge q.1 xs.length with z | z
            · omega
            · rw [ch_out z] at q2
              exact absurd q2.1 (by decide)
          · cases h
      · split at h
        · cases hq : txF xs xs.length (i + 1) with
          | none => rw [hq] at h; cases h
          | some q =>
            rw [hq] at h
            have h1 := txF_le _ _ _ hq
            cases h
            omega
        · cases hq : sgn xs i (xs.getD i 0) with
          | none => rw [hq] at h; cases h
          | some q =>
            rw [hq] at h
            cases h
            unfold sgn at hq
            split at hq
            · cases hq; omega
            · split at hq
              · split at hq
                · next q3 =>
                  cases hq
                  rcases Nat.lt_or_ge (i + 1) xs.length with z | z
                  · omega
                  · rw [ch_out z] at q3
                    have := nI_pos (n := xs.getD i 0) (by omega)
                    rw [← q3] at this
                    exact absurd (by decide) this
                · cases hq
              · cases hq
theorem tk_kd {xs : List Nat} {i : Nat} {kd : Int32} {j : Nat} {ov : Option Int64} (h : tk xs i = some (kd, j, ov)) (hi : i < xs.length) (hb : xs.getD i 0 < 256) : kd ≠ -1 := by
  unfold tk at h
  split at h
  · split at h
    · cases h; decide
    · cases h
  · split at h
    · split at h
      · cases h; decide
      · cases h
    · split at h
      · cases hq : chB xs (i + 1) 39 with
        | none => rw [hq] at h; cases h
        | some q =>
          rw [hq] at h
          have h : (if ch xs q.1 = 39 ∧ fNm (ch xs (q.1 + 1)) = false then some ((2 : Int32), q.1 + 1, some q.2.toInt64) else none) = some (kd, j, ov) := h
          split at h
          · cases h; decide
          · cases h
      · split at h
        · cases hq : txF xs xs.length (i + 1) with
          | none => rw [hq] at h; cases h
          | some q => rw [hq] at h; cases h; decide
        · cases hq : sgn xs i (xs.getD i 0) with
          | none => rw [hq] at h; cases h
          | some q =>
            rw [hq] at h
            cases h
            intro e
            have hc : ch xs i = nI (xs.getD i 0) := if_pos hi
            have := nI_pos (n := xs.getD i 0) (by omega)
            rw [← hc, e] at this
            exact absurd (by decide) this
/-- the tokens from i on: kind, start, end, value -/
def tkF (xs : List Nat) : Nat → Nat → Option (List (Int32 × Nat × Nat × Option Int64))
  | 0, _ => some []
  | n + 1, i => if xs.length ≤ i ∨ ch xs i = 59 then some [] else match tk xs i with
    | none => none
    | some q => match tkF xs n (skB xs q.2.1) with
      | none => none
      | some ts => some ((q.1, i, q.2.1, q.2.2) :: ts)
theorem tkF_s {xs : List Nat} {n i : Nat} : tkF xs (n + 1) i = if xs.length ≤ i ∨ ch xs i = 59 then some [] else match tk xs i with
    | none => none
    | some q => match tkF xs n (skB xs q.2.1) with
      | none => none
      | some ts => some ((q.1, i, q.2.1, q.2.2) :: ts) := rfl
def tks (xs : List Nat) : Option (List (Int32 × Nat × Nat × Option Int64)) := tkF xs xs.length (skB xs 0)
abbrev zT : Type := Int32 × Nat × Nat × Option Int64
def ivT (iv : Nat → Option (Nat × List Int32)) (k s e bnd : Nat) (ts : List zT) : Nat → Option (Nat × List Int32) := va_up (va_up (va_up iv k (some (bnd, ts.map fun q => q.1))) s (some (bnd, ts.map fun q => nI q.2.1))) e (some (bnd, ts.map fun q => nI q.2.2.1))
section
variable {iv : Nat → Option (Nat × List Int32)} {k s e bnd : Nat} {ts : List zT}
theorem ivT_k (n1 : s ≠ k) (n2 : e ≠ k) : ivT iv k s e bnd ts k = some (bnd, ts.map fun q => q.1) := by
  unfold ivT
  rw [va_up_ne _ _ n2.symm, va_up_ne _ _ n1.symm, va_up_self]
theorem ivT_s (n3 : e ≠ s) : ivT iv k s e bnd ts s = some (bnd, ts.map fun q => nI q.2.1) := by
  unfold ivT
  rw [va_up_ne _ _ n3.symm, va_up_self]
theorem ivT_e : ivT iv k s e bnd ts e = some (bnd, ts.map fun q => nI q.2.2.1) := va_up_self _ _ _
theorem ivT_else {x : Nat} (h1 : x ≠ k) (h2 : x ≠ s) (h3 : x ≠ e) : ivT iv k s e bnd ts x = iv x := by
  unfold ivT
  rw [va_up_ne _ _ h3, va_up_ne _ _ h2, va_up_ne _ _ h1]
theorem ivT_add {q : zT} : va_up (va_up (va_up (ivT iv k s e bnd ts) k (some (bnd, (ts.map fun q => q.1) ++ [q.1]))) s (some (bnd, (ts.map fun q => nI q.2.1) ++ [nI q.2.1]))) e (some (bnd, (ts.map fun q => nI q.2.2.1) ++ [nI q.2.2.1])) = ivT iv k s e bnd (ts ++ [q]) := by
  funext x
  by_cases hw : x = e
  · subst hw; simp [ivT, va_up]
  · by_cases he : x = s
    · subst he; simp [ivT, va_up, hw]
    · by_cases hs : x = k
      · subst hs; simp [ivT, va_up, hw, he]
      · simp [ivT, va_up, hw, he, hs]
end
/-- the second token's value, where it is a number -/
def secOk (ts : List zT) (sec : Int64) : Prop := ∀ q, ts[1]? = some q → ∀ x, q.2.2.2 = some x → sec = x
/-- behind takeAll -/
def taPost (S : zS) (E : zE) (lB lI : List Nat) (B C t b k s e bnd : Nat) (xs : List Nat) (v : Option Value) (S1 : zS) : Prop := ∃ (ts : List zT) (stop : Int32) (val sec : Int64), S1.2.2 t = .inr (7, tF b k s e stop val sec) ∧ vQ S E lB lI B C [t] S1 E.1 (ivT E.2.1 k s e bnd ts) ∧ ((tks xs = none ∧ v = some (.int 0)) ∨ (tks xs = some ts ∧ v = some (.int 1) ∧ secOk ts sec))
set_option maxRecDepth 10000 in
set_option maxHeartbeats 2000000 in
theorem V_X6_takeAll {d : Nat} {S : zS} {E : zE} {lB lI : List Nat} {B C t b k s e lim bnd : Nat} {stop : Int32} {val sec : Int64} {xs : List Nat} {l1 l2 l3 : List Int32} (ht : S.2.2 t = .inr (7, tF b k s e stop val sec)) (hl : t < S.1) (hV : Vw S E lB lI B C) (hb : E.1 b = some (lim, xs)) (hk : E.2.1 k = some (bnd, l1)) (hs : E.2.1 s = some (bnd, l2)) (he : E.2.1 e = some (bnd, l3)) (n1 : s ≠ k) (n2 : e ≠ k) (n3 : e ≠ s) (hbnd : xs.length ≤ bnd) : Rc (d + 4) mX6_takeAll [.ref t] S (taPost S E lB lI B C t b k s e bnd xs) := by
  have hX : t ∈ [t] := List.mem_singleton.mpr rfl
  have kb0 := (hV.b hb).1
  have hxl : xs.length ≤ 65536 := Nat.le_trans kb0.2.2.2.1 kb0.2.2.2.2.2
  have h256 : ∀ i, i < xs.length → xs.getD i 0 < 256 := by
    obtain ⟨-, ⟨g, -, h8⟩, -⟩ := kb0
    exact fun i hi => (h8 i hi).1
  refine Rc.of ?_
  have loop : ∀ (n turn i : Nat) (S2 : zS) (E2 : zE) (ts : List zT) (stop : Int32) (val sec : Int64) (L : Nat → Option Value), n + turn = xs.length → i ≤ xs.length → ts.length = turn → S2.2.2 t = .inr (7, tF b k s e stop val sec) → vP S E lB lI B C [t] S2 E2 → E2.1 = E.1 → E2.2.1 = ivT E.2.1 k s e bnd ts → secOk ts sec → (match tkF xs n i with | none => none | some r => some (ts ++ r)) = tks xs → L 0 = some (.ref t) → L 1 = some (.int (nI i)) → L 2 = some (.int (nI turn)) → Ru (d + 4) mX6_takeAll 32 L [] S2 (z_en mX6_takeAll (taPost S E lB lI B C t b k s e bnd xs)) := by
    intro n
    induction n with
    | zero =>
      intro turn i S2 E2 ts stop val sec L hn hi hlen ht2 hP hb2 hi2 hsec htk g0 g1 g2
      have kb := (hP.1.b (o := b) (lim := lim) (xs := xs) (by rw [hb2]; exact hb)).1
      have kb1 := kb.1
      refine r_iload_n dX6_takeAll_32 (by first | rfl | assumption) ?_
      refine r_aload_n dX6_takeAll_33 (by first | rfl | assumption) ?_
      refine r_getf dX6_takeAll_34 zf_X6_24 (by assumption) rfl ?_
      refine r_callV0 dX6_takeAll_37 zm_X6_48 (by assumption) rfl (Nat.le_of_ble_eq_true rfl) (Nat.le_of_ble_eq_true rfl) (C_X0_size kb) (fun v S9 hv => ?_)
      obtain ⟨hS9, rfl⟩ := hv
      subst hS9
      refine r_icmp_ge_t (tgt := 146) dX6_takeAll_40 (by decide) (nI_le (show xs.length ≤ turn by omega) (by omega)) ?_
      refine r_ic (1) dX6_takeAll_146 rfl ?_
      have htk : some (ts ++ []) = tks xs := htk
      rw [List.append_nil] at htk
      refine r_ireturn dX6_takeAll_147 _ rfl rfl ⟨ts, stop, val, sec, ht2, ⟨E2, hP, hb2, hi2⟩, Or.inr ⟨htk.symm, rfl, hsec⟩⟩
    | succ n ih =>
      intro turn i S2 E2 ts stop val sec L hn hi hlen ht2 hP hb2 hi2 hsec htk g0 g1 g2
      have hbE : E2.1 b = some (lim, xs) := by rw [hb2]; exact hb
      have kb := (hP.1.b hbE).1
      have kb1 := kb.1
      rw [tkF_s] at htk
      have ok : (xs.length ≤ i ∨ ch xs i = 59) → Ru (d + 4) mX6_takeAll 67 L [] S2 (z_en mX6_takeAll (taPost S E lB lI B C t b k s e bnd xs)) := by
        intro q
        rw [if_pos q] at htk
        have htk : some (ts ++ []) = tks xs := htk
        rw [List.append_nil] at htk
        refine r_ic (1) dX6_takeAll_67 rfl ?_
        refine r_ireturn dX6_takeAll_68 _ rfl rfl ⟨ts, stop, val, sec, ht2, ⟨E2, hP, hb2, hi2⟩, Or.inr ⟨htk.symm, rfl, hsec⟩⟩
      refine r_iload_n dX6_takeAll_32 (by first | rfl | assumption) ?_
      refine r_aload_n dX6_takeAll_33 (by first | rfl | assumption) ?_
      refine r_getf dX6_takeAll_34 zf_X6_24 (by assumption) rfl ?_
      refine r_callV0 dX6_takeAll_37 zm_X6_48 (by assumption) rfl (Nat.le_of_ble_eq_true rfl) (Nat.le_of_ble_eq_true rfl) (C_X0_size kb) (fun v S9 hv => ?_)
      obtain ⟨hS9, rfl⟩ := hv
      subst hS9
      refine r_icmp_ge_f (tgt := 146) dX6_takeAll_40 (by decide) (nI_ge (show turn < xs.length by omega) (by omega)) ?_
      refine r_iload_n dX6_takeAll_43 (by first | rfl | assumption) ?_
      refine r_aload_n dX6_takeAll_44 (by first | rfl | assumption) ?_
      refine r_getf dX6_takeAll_45 zf_X6_24 (by assumption) rfl ?_
      refine r_callV0 dX6_takeAll_48 zm_X6_48 (by assumption) rfl (Nat.le_of_ble_eq_true rfl) (Nat.le_of_ble_eq_true rfl) (C_X0_size kb) (fun v S9 hv => ?_)
      obtain ⟨hS9, rfl⟩ := hv
      subst hS9
      by_cases q1 : xs.length ≤ i
      · refine r_icmp_ge_t (tgt := 67) dX6_takeAll_51 (by decide) (nI_le q1 (by omega)) ?_
        exact ok (Or.inl q1)
      · refine r_icmp_ge_f (tgt := 67) dX6_takeAll_51 (by decide) (nI_ge (show i < xs.length by omega) (by omega)) ?_
        refine r_aload_n dX6_takeAll_54 (by first | rfl | assumption) ?_
        refine r_getf dX6_takeAll_55 zf_X6_24 (by assumption) rfl ?_
        refine r_iload_n dX6_takeAll_58 (by first | rfl | assumption) ?_
        refine r_callV1 dX6_takeAll_59 zm_X6_49 (by assumption) rfl (Nat.le_of_ble_eq_true rfl) (Nat.le_of_ble_eq_true rfl) (C_X0_at kb) (fun v S9 hv => ?_)
        obtain ⟨hS9, rfl⟩ := hv
        subst hS9
        rw [bAt_ch (by omega) (by omega)]
        refine r_bp (59) dX6_takeAll_62 rfl ?_
        by_cases q2 : ch xs i = 59
        · refine r_icmp_ne_f (tgt := 69) dX6_takeAll_64 (by decide) (q2) ?_
          exact ok (Or.inr q2)
        · clear ok
          rw [if_neg (fun z => z.elim q1 q2)] at htk
          refine r_icmp_ne_t (tgt := 69) dX6_takeAll_64 (by decide) (q2) ?_
          refine r_aload_n dX6_takeAll_69 (by first | rfl | assumption) ?_
          refine r_iload_n dX6_takeAll_70 (by first | rfl | assumption) ?_
          refine r_callV1 dX6_takeAll_71 zm_X6_50 (by assumption) rfl (Nat.le_of_ble_eq_true rfl) (Nat.le_of_ble_eq_true rfl) (C_X6_take ht2 hP.1 hbE (show i < xs.length by omega)) (fun v S3 hv => ?_)
          rcases hv with ⟨e0, rfl, stop3, val3, rfl⟩ | ⟨kd, j, ov, val3, e0, rfl, rfl, hov⟩
          · rw [e0] at htk
            refine r_istore_n dX6_takeAll_74 (by decide) (by first | exact z_c1_i (by first | rfl | assumption) | exact z_c1_r (by first | rfl | assumption) | exact z_c1_n (by first | rfl | assumption) | exact z_c1_c (by first | rfl | assumption) | exact z_c1_0 (by first | rfl | assumption)) ?_
            refine r_iload_n dX6_takeAll_75 (by first | rfl | assumption) ?_
            refine r_ic (-1) dX6_takeAll_76 rfl ?_
            refine r_icmp_ne_f (tgt := 82) dX6_takeAll_77 (by decide) (rfl) ?_
            refine r_ic (0) dX6_takeAll_80 rfl ?_
            refine r_ireturn dX6_takeAll_81 _ rfl rfl ⟨ts, stop3, val3, sec, va_up_self _ _ _, ⟨E2, hP.tr (vP.put hP.1 (hP.1.raw ht2 (by decide) (by decide)) hX), hb2, hi2⟩, Or.inl ⟨htk.symm, rfl⟩⟩
          · rw [e0] at htk
            have hj := tk_lt e0 (by omega) hxl (h256 i (by omega))
            have hP3 := hP.tr (vP.put (c := .inr (7, tF b k s e (nI j) val3 sec)) hP.1 (hP.1.raw ht2 (by decide) (by decide)) hX)
            have ht3 : (z_put S9 t (.inr (7, tF b k s e (nI j) val3 sec))).2.2 t = .inr (7, tF b k s e (nI j) val3 sec) := va_up_self _ _ _
            generalize z_put S9 t (.inr (7, tF b k s e (nI j) val3 sec)) = S3 at hP3 ht3 ⊢
            have hkd := tk_kd e0 (by omega) (h256 i (by omega))
            refine r_istore_n dX6_takeAll_74 (by decide) (by first | exact z_c1_i (by first | rfl | assumption) | exact z_c1_r (by first | rfl | assumption) | exact z_c1_n (by first | rfl | assumption) | exact z_c1_c (by first | rfl | assumption) | exact z_c1_0 (by first | rfl | assumption)) ?_
            refine r_iload_n dX6_takeAll_75 (by first | rfl | assumption) ?_
            refine r_ic (-1) dX6_takeAll_76 rfl ?_
            refine r_icmp_ne_t (tgt := 82) dX6_takeAll_77 (by decide) (hkd) ?_
            have hk3 : E2.2.1 k = some (bnd, ts.map fun q => q.1) := by rw [hi2]; exact ivT_k n1 n2
            have kk := (hP3.1.i hk3).1
            have kk1 := kk.1
            refine r_aload_n dX6_takeAll_82 (by first | rfl | assumption) ?_
            refine r_getf dX6_takeAll_83 zf_X6_12 (by assumption) rfl ?_
            refine r_callV0 dX6_takeAll_86 zm_X6_28 (by assumption) rfl (Nat.le_of_ble_eq_true rfl) (Nat.le_of_ble_eq_true rfl) (C_X1_size kk) (fun v S9 hv => ?_)
            obtain ⟨hS9, rfl⟩ := hv
            subst hS9
            rw [List.length_map, hlen]
            generalize hL9 : z_s1 L 3 (Value.int kd) = L9
            have m0 : L9 0 = some (.ref t) := by rw [← hL9]; exact g0
            have m1 : L9 1 = some (.int (nI i)) := by rw [← hL9]; exact g1
            have m2 : L9 2 = some (.int (nI turn)) := by rw [← hL9]; exact g2
            have m3 : L9 3 = some (.int kd) := by rw [← hL9]; rfl
            have hL9 := hL9
            show Ru (d + 4) mX6_takeAll _ (z_s1 L 3 (Value.int kd)) _ _ _
            rw [hL9]
            clear hL9
            have cont : ∀ (S4 : zS) (sec4 : Int64), S4.2.2 t = .inr (7, tF b k s e (nI j) val3 sec4) → vP S E lB lI B C [t] S4 E2 → secOk (ts ++ [(kd, i, j, ov)]) sec4 → Ru (d + 4) mX6_takeAll 101 L9 [] S4 (z_en mX6_takeAll (taPost S E lB lI B C t b k s e bnd xs)) := by
              intro S4 sec4 ht4 hP4 hsec4
              have hl4 := hP4.lt hl
              have c1 := (hP4.1.i hk3).1.1
              refine r_aload_n dX6_takeAll_101 (by first | rfl | assumption) ?_
              refine r_getf dX6_takeAll_102 zf_X6_12 (by assumption) rfl ?_
              refine r_iload_n dX6_takeAll_105 (by first | rfl | assumption) ?_
              refine r_callV1 dX6_takeAll_106 zm_X6_56 (by assumption) rfl (Nat.le_of_ble_eq_true rfl) (Nat.le_of_ble_eq_true rfl) (V_X1_add hP4.1 hk3 (show (ts.map fun q => q.1).length < bnd by rw [List.length_map]; omega)) (fun v S5 hv => ?_)
              obtain ⟨rfl, rc5, hQ5⟩ := hv
              have ht5 := hQ5.raw hP4.1 ht4 (by decide) (by decide) hl4 (by simp)
              have hl5 := hQ5.lt hl4
              have hs5 : (eI E2 k (bnd, (ts.map fun q => q.1) ++ [kd]) rc5).2.1 s = some (bnd, ts.map fun q => nI q.2.1) := (va_up_ne _ _ n1).trans (by rw [hi2]; exact ivT_s n3)
              have c2 := (hQ5.1.i hs5).1.1
              refine r_aload_n dX6_takeAll_109 (by first | rfl | assumption) ?_
              refine r_getf dX6_takeAll_110 zf_X6_18 (by assumption) rfl ?_
              refine r_iload_n dX6_takeAll_113 (by first | rfl | assumption) ?_
              refine r_callV1 dX6_takeAll_114 zm_X6_56 (by assumption) rfl (Nat.le_of_ble_eq_true rfl) (Nat.le_of_ble_eq_true rfl) (V_X1_add hQ5.1 hs5 (show (ts.map fun q => nI q.2.1).length < bnd by rw [List.length_map]; omega)) (fun v S6 hv => ?_)
              obtain ⟨rfl, rc6, hQ6⟩ := hv
              have ht6 := hQ6.raw hQ5.1 ht5 (by decide) (by decide) hl5 (by simp)
              have hl6 := hQ6.lt hl5
              have he6 : (eI (eI E2 k (bnd, (ts.map fun q => q.1) ++ [kd]) rc5) s (bnd, (ts.map fun q => nI q.2.1) ++ [nI i]) rc6).2.1 e = some (bnd, ts.map fun q => nI q.2.2.1) := (va_up_ne _ _ n3).trans ((va_up_ne _ _ n2).trans (by rw [hi2]; exact ivT_e))
              have c3 := (hQ6.1.i he6).1.1
              refine r_aload_n dX6_takeAll_117 (by first | rfl | assumption) ?_
              refine r_getf dX6_takeAll_118 zf_X6_21 (by assumption) rfl ?_
              refine r_aload_n dX6_takeAll_121 (by first | rfl | assumption) ?_
              refine r_getf dX6_takeAll_122 zf_X6_60 (by assumption) rfl ?_
              refine r_callV1 dX6_takeAll_125 zm_X6_56 (by assumption) rfl (Nat.le_of_ble_eq_true rfl) (Nat.le_of_ble_eq_true rfl) (V_X1_add hQ6.1 he6 (show (ts.map fun q => nI q.2.2.1).length < bnd by rw [List.length_map]; omega)) (fun v S7 hv => ?_)
              obtain ⟨rfl, rc7, hQ7⟩ := hv
              have ht7 := hQ7.raw hQ6.1 ht6 (by decide) (by decide) hl6 (by simp)
              have kb7 := (hQ7.1.b (o := b) (lim := lim) (xs := xs) hbE).1
              have kb71 := kb7.1
              refine r_aload_n dX6_takeAll_128 (by first | rfl | assumption) ?_
              refine r_getf dX6_takeAll_129 zf_X6_24 (by assumption) rfl ?_
              refine r_aload_n dX6_takeAll_132 (by first | rfl | assumption) ?_
              refine r_getf dX6_takeAll_133 zf_X6_60 (by assumption) rfl ?_
              refine r_callV1 dX6_takeAll_136 zm_X6_43 (by assumption) rfl (Nat.le_of_ble_eq_true rfl) (Nat.le_of_ble_eq_true rfl) (C_X0_behindBlanks kb7 (show j < 2 ^ 20 by omega)) (fun v S8 hv => ?_)
              obtain ⟨hS8, rfl⟩ := hv
              subst hS8
              have hsk := skB_le hj.2
              refine r_istore_n dX6_takeAll_139 (by decide) (by first | exact z_c1_i (by first | rfl | assumption) | exact z_c1_r (by first | rfl | assumption) | exact z_c1_n (by first | rfl | assumption) | exact z_c1_c (by first | rfl | assumption) | exact z_c1_0 (by first | rfl | assumption)) ?_
              refine r_inc (nI (turn + 1)) dX6_takeAll_140 (by first | rfl | assumption) (by decide) (by first | exact z_c1_i (by first | rfl | assumption) | exact z_c1_r (by first | rfl | assumption) | exact z_c1_n (by first | rfl | assumption) | exact z_c1_c (by first | rfl | assumption) | exact z_c1_0 (by first | rfl | assumption)) (nI_1 turn) ?_
              refine r_goto (tgt := 32) dX6_takeAll_143 (by decide) ?_
              refine ih (turn + 1) (skB xs j) S8 _ (ts ++ [(kd, i, j, ov)]) (nI j) val3 sec4 _ (by omega) hsk.2 (by rw [List.length_append, List.length_singleton, hlen]) ht7 (((hP4.tr hQ5.nil).tr hQ6.nil).tr hQ7.nil) hb2 ?_ hsec4 ?_ m0 rfl rfl
              · show va_up (va_up (va_up E2.2.1 k _) s _) e _ = _
                rw [hi2]
                exact ivT_add (q := (kd, i, j, ov))
              · rw [← htk]
                show _ = (match (match tkF xs n (skB xs j) with | none => none | some ts => some ((kd, i, j, ov) :: ts)) with | none => none | some r => some (ts ++ r))
                cases tkF xs n (skB xs j) with
                | none => rfl
                | some r => show some ((ts ++ [(kd, i, j, ov)]) ++ r) = some (ts ++ ((kd, i, j, ov) :: r)); rw [List.append_assoc]; rfl
            refine r_ic (1) dX6_takeAll_89 rfl ?_
            by_cases q3 : turn = 1
            · refine r_icmp_ne_f (tgt := 101) dX6_takeAll_90 (by decide) (by rw [q3]; rfl) ?_
              refine r_aload_n dX6_takeAll_93 (by first | rfl | assumption) ?_
              refine r_aload_n dX6_takeAll_94 (by first | rfl | assumption) ?_
              refine r_getf dX6_takeAll_95 zf_X6_53 (by assumption) rfl ?_
              refine r_putf dX6_takeAll_98 zf_X6_36 (by assumption) (Nat.le_of_ble_eq_true rfl) ⟨rfl, rfl⟩ ?_
              have hraw3 := hP3.1.raw ht3 (by decide) (by decide)
              refine cont _ val3 (va_up_self _ _ _) (hP3.tr (vP.put hP3.1 hraw3 hX)) ?_
              intro q hq x hx
              rw [List.getElem?_append_right (by omega), hlen, q3] at hq
              cases hq
              exact hov x hx
            · refine r_icmp_ne_t (tgt := 101) dX6_takeAll_90 (by decide) (fun z => q3 ((nI_eq (b := 1) (by omega) (by decide)).mp z)) ?_
              refine cont _ sec ht3 hP3 ?_
              intro q hq x hx
              by_cases q4 : turn = 0
              · rw [List.getElem?_append_right (by omega), hlen, q4] at hq
                cases hq
              · rw [List.getElem?_append_left (by omega)] at hq
                exact hsec q hq x hx
  have c1 := (hV.i hk).1.1
  refine r_aload_n dX6_takeAll_0 (by first | rfl | assumption) ?_
  refine r_getf dX6_takeAll_1 zf_X6_12 (by assumption) rfl ?_
  refine r_callV0 dX6_takeAll_4 zm_X6_40 (by assumption) rfl (Nat.le_of_ble_eq_true rfl) (Nat.le_of_ble_eq_true rfl) (V_X1_clear hV hk) (fun v S1 hv => ?_)
  obtain ⟨rfl, rc1, hQ1⟩ := hv
  have ht1 := hQ1.raw hV ht (by decide) (by decide) hl (by simp)
  have hs1 : (eI E k (bnd, []) rc1).2.1 s = some (bnd, l2) := (va_up_ne _ _ n1).trans hs
  have he1 : (eI E k (bnd, []) rc1).2.1 e = some (bnd, l3) := (va_up_ne _ _ n2).trans he
  have hl1 := hQ1.lt hl
  have c2 := (hQ1.1.i hs1).1.1
  refine r_aload_n dX6_takeAll_7 (by first | rfl | assumption) ?_
  refine r_getf dX6_takeAll_8 zf_X6_18 (by assumption) rfl ?_
  refine r_callV0 dX6_takeAll_11 zm_X6_40 (by assumption) rfl (Nat.le_of_ble_eq_true rfl) (Nat.le_of_ble_eq_true rfl) (V_X1_clear hQ1.1 hs1) (fun v S2 hv => ?_)
  obtain ⟨rfl, rc2, hQ2⟩ := hv
  have ht2 := hQ2.raw hQ1.1 ht1 (by decide) (by decide) hl1 (by simp)
  have he2 : (eI (eI E k (bnd, []) rc1) s (bnd, []) rc2).2.1 e = some (bnd, l3) := (va_up_ne _ _ n3).trans he1
  have hl2 := hQ2.lt hl1
  have c3 := (hQ2.1.i he2).1.1
  refine r_aload_n dX6_takeAll_14 (by first | rfl | assumption) ?_
  refine r_getf dX6_takeAll_15 zf_X6_21 (by assumption) rfl ?_
  refine r_callV0 dX6_takeAll_18 zm_X6_40 (by assumption) rfl (Nat.le_of_ble_eq_true rfl) (Nat.le_of_ble_eq_true rfl) (V_X1_clear hQ2.1 he2) (fun v S3 hv => ?_)
  obtain ⟨rfl, rc3, hQ3⟩ := hv
  have ht3 := hQ3.raw hQ2.1 ht2 (by decide) (by decide) hl2 (by simp)
  have kb := (hQ3.1.b (o := b) (lim := lim) (xs := xs) hb).1
  have kb1 := kb.1
  refine r_aload_n dX6_takeAll_21 (by first | rfl | assumption) ?_
  refine r_getf dX6_takeAll_22 zf_X6_24 (by assumption) rfl ?_
  refine r_ic (0) dX6_takeAll_25 rfl ?_
  refine r_callV1 dX6_takeAll_26 zm_X6_43 (by assumption) rfl (Nat.le_of_ble_eq_true rfl) (Nat.le_of_ble_eq_true rfl) (C_X0_behindBlanks (a := 0) kb (by decide)) (fun v S4 hv => ?_)
  obtain ⟨hS4, rfl⟩ := hv
  subst hS4
  have hsk := skB_le (Nat.zero_le xs.length)
  refine r_istore_n dX6_takeAll_29 (by decide) (by first | exact z_c1_i (by first | rfl | assumption) | exact z_c1_r (by first | rfl | assumption) | exact z_c1_n (by first | rfl | assumption) | exact z_c1_c (by first | rfl | assumption) | exact z_c1_0 (by first | rfl | assumption)) ?_
  refine r_ic (0) dX6_takeAll_30 rfl ?_
  refine r_istore_n dX6_takeAll_31 (by decide) (by first | exact z_c1_i (by first | rfl | assumption) | exact z_c1_r (by first | rfl | assumption) | exact z_c1_n (by first | rfl | assumption) | exact z_c1_c (by first | rfl | assumption) | exact z_c1_0 (by first | rfl | assumption)) ?_
  refine loop xs.length 0 (skB xs 0) S4 _ [] stop val sec _ (by omega) hsk.2 rfl ht3 ((hQ1.nil.tr hQ2.nil).tr hQ3.nil) rfl ?_ (fun q hq => by cases hq) ?_ rfl rfl rfl
  · funext x
    simp [eI, ivT]
  · unfold tks
    cases tkF xs xs.length (skB xs 0) <;> rfl
section
variable {d : Nat} {S : zS} {E : zE} {lB lI : List Nat} {B C t b k s e bnd : Nat} {stop : Int32} {val sec : Int64} {is : List Int32}
theorem C_X6_count (ht : S.2.2 t = .inr (7, tF b k s e stop val sec)) (hV : Vw S E lB lI B C) (hk : E.2.1 k = some (bnd, is)) : Rc (d + 1) mX6_count [.ref t] S (fun v S1 => S1 = S ∧ v = some (.int (nI is.length))) := by
  have q := (hV.i hk).1
  have q1 := q.1
  refine Rc.of ?_
  refine r_aload_n dX6_count_0 (by first | rfl | assumption) ?_
  refine r_getf dX6_count_1 zf_X6_12 (by assumption) rfl ?_
  refine r_callV0 dX6_count_4 zm_X6_28 (by assumption) rfl (Nat.le_of_ble_eq_true rfl) (Nat.le_of_ble_eq_true rfl) (C_X1_size q) (fun v S1 hr => ?_)
  obtain ⟨rfl, rfl⟩ := hr
  refine r_ireturn dX6_count_7 _ rfl rfl ⟨rfl, rfl⟩
theorem C_X6_kind {x : Int32} (ht : S.2.2 t = .inr (7, tF b k s e stop val sec)) (hV : Vw S E lB lI B C) (hk : E.2.1 k = some (bnd, is)) : Rc (d + 1) mX6_kind [.ref t, .int x] S (fun v S1 => S1 = S ∧ v = some (.int (iAt is x))) := by
  have q := (hV.i hk).1
  have q1 := q.1
  refine Rc.of ?_
  refine r_aload_n dX6_kind_0 (by first | rfl | assumption) ?_
  refine r_getf dX6_kind_1 zf_X6_12 (by assumption) rfl ?_
  refine r_iload_n dX6_kind_4 (by first | rfl | assumption) ?_
  refine r_callV1 dX6_kind_5 zm_X6_32 (by assumption) rfl (Nat.le_of_ble_eq_true rfl) (Nat.le_of_ble_eq_true rfl) (C_X1_at q) (fun v S1 hr => ?_)
  obtain ⟨rfl, rfl⟩ := hr
  refine r_ireturn dX6_kind_8 _ rfl rfl ⟨rfl, rfl⟩
theorem C_X6_start {x : Int32} (ht : S.2.2 t = .inr (7, tF b k s e stop val sec)) (hV : Vw S E lB lI B C) (hk : E.2.1 s = some (bnd, is)) : Rc (d + 1) mX6_start [.ref t, .int x] S (fun v S1 => S1 = S ∧ v = some (.int (iAt is x))) := by
  have q := (hV.i hk).1
  have q1 := q.1
  refine Rc.of ?_
  refine r_aload_n dX6_start_0 (by first | rfl | assumption) ?_
  refine r_getf dX6_start_1 zf_X6_18 (by assumption) rfl ?_
  refine r_iload_n dX6_start_4 (by first | rfl | assumption) ?_
  refine r_callV1 dX6_start_5 zm_X6_32 (by assumption) rfl (Nat.le_of_ble_eq_true rfl) (Nat.le_of_ble_eq_true rfl) (C_X1_at q) (fun v S1 hr => ?_)
  obtain ⟨rfl, rfl⟩ := hr
  refine r_ireturn dX6_start_8 _ rfl rfl ⟨rfl, rfl⟩
theorem C_X6_end {x : Int32} (ht : S.2.2 t = .inr (7, tF b k s e stop val sec)) (hV : Vw S E lB lI B C) (hk : E.2.1 e = some (bnd, is)) : Rc (d + 1) mX6_end [.ref t, .int x] S (fun v S1 => S1 = S ∧ v = some (.int (iAt is x))) := by
  have q := (hV.i hk).1
  have q1 := q.1
  refine Rc.of ?_
  refine r_aload_n dX6_end_0 (by first | rfl | assumption) ?_
  refine r_getf dX6_end_1 zf_X6_21 (by assumption) rfl ?_
  refine r_iload_n dX6_end_4 (by first | rfl | assumption) ?_
  refine r_callV1 dX6_end_5 zm_X6_32 (by assumption) rfl (Nat.le_of_ble_eq_true rfl) (Nat.le_of_ble_eq_true rfl) (C_X1_at q) (fun v S1 hr => ?_)
  obtain ⟨rfl, rfl⟩ := hr
  refine r_ireturn dX6_end_8 _ rfl rfl ⟨rfl, rfl⟩
theorem C_X6_second (ht : S.2.2 t = .inr (7, tF b k s e stop val sec)) : Rc d mX6_second [.ref t] S (fun v S1 => S1 = S ∧ v = some (.long sec)) := by
  refine Rc.of ?_
  refine r_aload_n dX6_second_0 (by first | rfl | assumption) ?_
  refine r_getf dX6_second_1 zf_X6_36 (by assumption) rfl ?_
  refine r_lreturn dX6_second_4 rfl ⟨rfl, rfl⟩
end
