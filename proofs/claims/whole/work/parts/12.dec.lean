/-! a number's digits: from exponent k on; bg: digits stand ahead already -/
def dgk (n : Nat) : Nat → Bool → List Nat
  | 0, _ => [48 + n % 10]
  | k + 1, bg => if bg || decide (n / 10 ^ (k + 1) % 10 ≠ 0) then (48 + n / 10 ^ (k + 1) % 10) :: dgk n k true else dgk n k false
theorem dgk_u (n k : Nat) (bg : Bool) : dgk n k bg = if bg || decide (n / 10 ^ k % 10 ≠ 0) || decide (k = 0) then (48 + n / 10 ^ k % 10) :: (match k with | 0 => [] | j + 1 => dgk n j true) else (match k with | 0 => [] | j + 1 => dgk n j false) := by
  cases k with
  | zero => simp [dgk]
  | succ k => simp [dgk]
set_option maxRecDepth 10000 in
set_option maxHeartbeats 2000000 in
theorem C_X0_appendDecimal {d : Nat} {S : zS} {b r cap lim n : Nat} {xs : List Nat} (h : isB S b r cap lim xs) (hb : b < S.1) (hr : r < S.1) (hn : n < 2 ^ 30) : Rc (d + 4) mX0_appendDecimal [.ref b, .int (nI n)] S (apPost S b r cap lim xs (dgk n 9 false)) := by
  have hlim : lim ≤ 65536 := h.2.2.2.2.2
  refine Rc.of ?_
  have body : ∀ (u : Nat) (bg : Bool) (S2 : zS) (r2 cp2 : Nat) (ds : List Nat) (L : Nat → Option Value), 1 ≤ u → u ≤ 10 ^ 9 → isB S2 b r2 cp2 lim ((xs ++ ds).take lim) → b < S2.1 → gB S S2 b r cap lim r2 cp2 → L 0 = some (.ref b) → L 1 = some (.int (nI n)) → L 2 = some (.int (bI bg)) → L 3 = some (.int (bI (decide ((xs ++ ds).length ≤ lim)))) → L 4 = some (.int (nI u)) → (∀ (bg1 : Bool) (S3 : zS) (r3 cp3 : Nat) (ds1 : List Nat) (L1 : Nat → Option Value), bg1 = (bg || decide (n / u % 10 ≠ 0) || decide (u = 1)) → ds1 = (if bg1 then ds ++ [48 + n / u % 10] else ds) → isB S3 b r3 cp3 lim ((xs ++ ds1).take lim) → b < S3.1 → gB S S3 b r cap lim r3 cp3 → L1 0 = some (.ref b) → L1 1 = some (.int (nI n)) → L1 2 = some (.int (bI bg1)) → L1 3 = some (.int (bI (decide ((xs ++ ds1).length ≤ lim)))) → L1 4 = some (.int (nI u)) → Ru (d + 4) mX0_appendDecimal 69 L1 [] S3 (z_en mX0_appendDecimal (apPost S b r cap lim xs (dgk n 9 false)))) → Ru (d + 4) mX0_appendDecimal 8 L [] S2 (z_en mX0_appendDecimal (apPost S b r cap lim xs (dgk n 9 false))) := by
    intro u bg S2 r2 cp2 ds L hu1 hu2 hB hb2 hg l0 l1 l2 l3 l4 K
    have hbb := hB.1
    refine r_iload dX0_appendDecimal_8 (by first | rfl | assumption) ?_
    refine r_if_le_f (tgt := 79) dX0_appendDecimal_10 (by decide) (nI_nle (by omega) (by omega)) ?_
    have e0 : nI n / nI u = nI (n / u) := pk_div (by omega) (by omega) (by omega)
    have e1 : nI (n / u) - nI (n / u) / 10 * 10 = nI (n / u % 10) := pk_rem (a := n / u) (d := 10) (by have := Nat.div_le_self n u; omega) (by decide) (by decide)
    refine r_iload_n dX0_appendDecimal_13 (by first | rfl | assumption) ?_
    refine r_iload dX0_appendDecimal_14 (by first | rfl | assumption) ?_
    refine r_idiv dX0_appendDecimal_16 (fun q => nI_ne0 (n := u) (by omega) (by omega) q) ?_
    rw [e0]
    refine r_bp (10) dX0_appendDecimal_17 rfl ?_
    refine r_irem dX0_appendDecimal_19 (by decide) ?_
    rw [e1]
    refine r_istore dX0_appendDecimal_20 (by decide) (by first | exact z_c1_i (by first | rfl | assumption) | exact z_c1_r (by first | rfl | assumption) | exact z_c1_n (by first | rfl | assumption) | exact z_c1_c (by first | rfl | assumption) | exact z_c1_0 (by first | rfl | assumption)) ?_
    have hdg : n / u % 10 < 10 := Nat.mod_lt _ (by decide)
    generalize hL9 : z_s1 L 5 (Value.int (nI (n / u % 10))) = L9
    have m0 : L9 0 = some (.ref b) := by rw [← hL9]; exact l0
    have m1 : L9 1 = some (.int (nI n)) := by rw [← hL9]; exact l1
    have m2 : L9 2 = some (.int (bI bg)) := by rw [← hL9]; exact l2
    have m3 : L9 3 = some (.int (bI (decide ((xs ++ ds).length ≤ lim)))) := by rw [← hL9]; exact l3
    have m4 : L9 4 = some (.int (nI u)) := by rw [← hL9]; exact l4
    have m5 : L9 5 = some (.int (nI (n / u % 10))) := by rw [← hL9]; rfl
    have J : ∀ bg1 : Bool, bg1 = (bg || decide (n / u % 10 ≠ 0) || decide (u = 1)) → Ru (d + 4) mX0_appendDecimal 42 L9 [.int (bI bg1)] S2 (z_en mX0_appendDecimal (apPost S b r cap lim xs (dgk n 9 false))) := by
      intro bg1 hbg
      refine r_istore_n dX0_appendDecimal_42 (by decide) (by first | exact z_c1_i (by first | rfl | assumption) | exact z_c1_r (by first | rfl | assumption) | exact z_c1_n (by first | rfl | assumption) | exact z_c1_c (by first | rfl | assumption) | exact z_c1_0 (by first | rfl | assumption)) ?_
      refine r_iload_n dX0_appendDecimal_43 (by first | rfl | assumption) ?_
      by_cases q : bg1 = true
      · subst q
        refine r_if_eq_f (tgt := 69) dX0_appendDecimal_44 (by decide) (by decide) ?_
        refine r_aload_n dX0_appendDecimal_47 (by first | rfl | assumption) ?_
        refine r_bp (48) dX0_appendDecimal_48 rfl ?_
        refine r_iload dX0_appendDecimal_50 (by first | rfl | assumption) ?_
        refine r_iadd dX0_appendDecimal_52 ?_
        have e2 : (48 : Int32) + nI (n / u % 10) = nI (48 + n / u % 10) := nI_add 48 _
        rw [e2]
        have hr2 : r2 < S2.1 := hg.2.2.1
        refine r_callV1 dX0_appendDecimal_53 zm_X0_39 (by assumption) rfl (Nat.le_of_ble_eq_true rfl) (Nat.le_of_ble_eq_true rfl) (C_X0_append hB ⟨hb2, hr2⟩) (fun v S3 hv => ?_)
        rw [ob_nI (by omega)] at hv
        have F : ∀ (S3 : zS) (r3 cp3 : Nat) (x : Bool), isB S3 b r3 cp3 lim ((xs ++ (ds ++ [48 + n / u % 10])).take lim) → b < S3.1 → gB S S3 b r cap lim r3 cp3 → x = decide ((xs ++ (ds ++ [48 + n / u % 10])).length ≤ lim) → Ru (d + 4) mX0_appendDecimal 68 (z_s1 L9 2 (Value.int (bI true))) [.int (bI x)] S3 (z_en mX0_appendDecimal (apPost S b r cap lim xs (dgk n 9 false))) := by
          intro S3 r3 cp3 x hB3 hb3 hg3 hx
          refine r_istore_n dX0_appendDecimal_68 (by decide) (by first | exact z_c1_i (by first | rfl | assumption) | exact z_c1_r (by first | rfl | assumption) | exact z_c1_n (by first | rfl | assumption) | exact z_c1_c (by first | rfl | assumption) | exact z_c1_0 (by first | rfl | assumption)) ?_
          refine K true S3 r3 cp3 (ds ++ [48 + n / u % 10]) _ hbg (by rw [if_pos rfl]) hB3 hb3 hg3 m0 m1 rfl ?_ m4
          rw [← hx]
          rfl
        rcases hv.use hb2 hr2 with ⟨hroom, rfl, r3, cp3, hB3, hg3⟩ | ⟨hfull, rfl, rfl⟩
        · have hlt : (xs ++ ds).length < lim := by
            rw [List.length_take] at hroom
            omega
          refine r_if_eq_f (tgt := 67) dX0_appendDecimal_56 (by decide) (by decide) ?_
          rw [decide_eq_true (Nat.le_of_lt hlt)] at m3
          refine r_iload_n dX0_appendDecimal_59 (x := bI true) m3 ?_
          refine r_if_eq_f (tgt := 67) dX0_appendDecimal_60 (by decide) (by decide) ?_
          refine r_ic (1) dX0_appendDecimal_63 rfl ?_
          refine r_goto (tgt := 68) dX0_appendDecimal_64 (by decide) ?_
          refine F S3 r3 cp3 true ?_ (Nat.lt_of_lt_of_le hb2 hg3.1.1) (hg.tr hg3) ?_
          · rw [List.take_of_length_le (Nat.le_of_lt hlt)] at hB3
            rw [← List.append_assoc, List.take_of_length_le (by rw [List.length_append, List.length_singleton]; omega)]
            exact hB3
          · rw [decide_eq_true (by rw [← List.append_assoc, List.length_append, List.length_singleton]; omega)]
        · have hge : lim ≤ (xs ++ ds).length := by
            rw [List.length_take] at hfull
            omega
          refine r_if_eq_t (tgt := 67) dX0_appendDecimal_56 (by decide) (by decide) ?_
          refine r_ic (0) dX0_appendDecimal_67 rfl ?_
          refine F S3 r2 cp2 false ?_ hb2 hg ?_
          · rw [← List.append_assoc, List.take_append_of_le_length hge]
            exact hB
          · rw [decide_eq_false (by rw [← List.append_assoc, List.length_append, List.length_singleton]; omega)]
      · have q : bg1 = false := Bool.eq_false_iff.mpr q
        subst q
        refine r_if_eq_t (tgt := 69) dX0_appendDecimal_44 (by decide) (by decide) ?_
        exact K false S2 r2 cp2 ds _ hbg (by rw [if_neg (by decide)]) hB hb2 hg m0 m1 rfl m3 m4
    refine r_iload_n dX0_appendDecimal_22 (by first | rfl | assumption) ?_
    refine r_if_ne (tgt := 37) dX0_appendDecimal_23 (by decide) (fun c23 => ?_) (fun c23 => ?_)
    · have q : bg = true := by cases bg; exact absurd rfl c23; rfl
      refine r_ic (1) dX0_appendDecimal_37 rfl ?_
      refine r_goto (tgt := 42) dX0_appendDecimal_38 (by decide) ?_
      exact J true (by rw [q]; rfl)
    · have q : bg = false := by rw [bI_0] at c23; exact c23
      refine r_iload dX0_appendDecimal_26 (by first | rfl | assumption) ?_
      refine r_if_ne (tgt := 37) dX0_appendDecimal_28 (by decide) (fun c28 => ?_) (fun c28 => ?_)
      · have q2 : n / u % 10 ≠ 0 := fun e => c28 (by rw [e]; rfl)
        refine r_ic (1) dX0_appendDecimal_37 rfl ?_
        refine r_goto (tgt := 42) dX0_appendDecimal_38 (by decide) ?_
        exact J true (by rw [decide_eq_true q2, Bool.or_true]; rfl)
      · have q2 : n / u % 10 = 0 := (nI_eq (by omega) (by decide)).mp c28
        refine r_iload dX0_appendDecimal_31 (by first | rfl | assumption) ?_
        refine r_ic (1) dX0_appendDecimal_33 rfl ?_
        refine r_icmp_ne (tgt := 41) dX0_appendDecimal_34 (by decide) (fun c34 => ?_) (fun c34 => ?_)
        · have q3 : ¬ u = 1 := fun e => c34 (by rw [e]; rfl)
          refine r_ic (0) dX0_appendDecimal_41 rfl ?_
          exact J false (by rw [q, decide_eq_false q3, decide_eq_false (by omega)]; rfl)
        · have q3 : u = 1 := (nI_eq (by omega) (by decide)).mp c34
          refine r_ic (1) dX0_appendDecimal_37 rfl ?_
          refine r_goto (tgt := 42) dX0_appendDecimal_38 (by decide) ?_
          exact J true (by rw [decide_eq_true q3, Bool.or_true])
  have loop : ∀ (k : Nat) (bg : Bool) (S2 : zS) (r2 cp2 : Nat) (ds : List Nat) (L : Nat → Option Value), k ≤ 9 → isB S2 b r2 cp2 lim ((xs ++ ds).take lim) → b < S2.1 → gB S S2 b r cap lim r2 cp2 → ds ++ dgk n k bg = dgk n 9 false → L 0 = some (.ref b) → L 1 = some (.int (nI n)) → L 2 = some (.int (bI bg)) → L 3 = some (.int (bI (decide ((xs ++ ds).length ≤ lim)))) → L 4 = some (.int (nI (10 ^ k))) → Ru (d + 4) mX0_appendDecimal 8 L [] S2 (z_en mX0_appendDecimal (apPost S b r cap lim xs (dgk n 9 false))) := by
    intro k
    induction k with
    | zero =>
      intro bg S2 r2 cp2 ds L hk hB hb2 hg hds l0 l1 l2 l3 l4
      refine body (10 ^ 0) bg S2 r2 cp2 ds L (by decide) (by decide) hB hb2 hg l0 l1 l2 l3 l4 ?_
      intro bg1 S3 r3 cp3 ds1 L1 hbg hds1 hB3 hb3 hg3 m0 m1 m2 m3 m4
      rw [dgk_u] at hds
      have q : bg1 = true := by rw [hbg]; simp
      rw [if_pos (by simp)] at hds
      rw [if_pos q] at hds1
      have hds : ds1 = dgk n 9 false := by rw [hds1]; exact hds
      refine r_iload dX0_appendDecimal_69 (by first | rfl | assumption) ?_
      refine r_bp (10) dX0_appendDecimal_71 rfl ?_
      refine r_idiv dX0_appendDecimal_73 (by decide) ?_
      refine r_istore dX0_appendDecimal_74 (by decide) (by first | exact z_c1_i (by first | rfl | assumption) | exact z_c1_r (by first | rfl | assumption) | exact z_c1_n (by first | rfl | assumption) | exact z_c1_c (by first | rfl | assumption) | exact z_c1_0 (by first | rfl | assumption)) ?_
      refine r_goto (tgt := 8) dX0_appendDecimal_76 (by decide) ?_
      refine r_iload dX0_appendDecimal_8 rfl ?_
      refine r_if_le_t (tgt := 79) dX0_appendDecimal_10 (by decide) (by decide) ?_
      refine r_iload_n dX0_appendDecimal_79 (x := bI (decide ((xs ++ ds1).length ≤ lim))) m3 ?_
      refine r_ireturn dX0_appendDecimal_80 _ rfl (bI_n _) ⟨?_, r3, cp3, ?_, hg3⟩
      · rw [hds]
      · rw [← hds]; exact hB3
    | succ k ih =>
      intro bg S2 r2 cp2 ds L hk hB hb2 hg hds l0 l1 l2 l3 l4
      have hp : 10 ^ (k + 1) ≤ 10 ^ 9 := Nat.pow_le_pow_right (by decide) hk
      have hp1 : 10 ^ (k + 1) = 10 ^ k * 10 := Nat.pow_succ ..
      have hp2 : 1 ≤ 10 ^ k := Nat.pow_pos (n := k) (show 0 < 10 by decide)
      refine body (10 ^ (k + 1)) bg S2 r2 cp2 ds L (by omega) hp hB hb2 hg l0 l1 l2 l3 l4 ?_
      intro bg1 S3 r3 cp3 ds1 L1 hbg hds1 hB3 hb3 hg3 m0 m1 m2 m3 m4
      have e9 : decide (10 ^ (k + 1) = 1) = false := decide_eq_false (by omega)
      rw [e9, Bool.or_false] at hbg
      have e3 : nI (10 ^ (k + 1)) / 10 = nI (10 ^ k) := by
        have := pk_div (a := 10 ^ (k + 1)) (d := 10) (by omega) (by decide) (by decide)
        rw [show (nI 10) = 10 from rfl] at this
        rw [this, hp1, Nat.mul_div_cancel _ (by decide)]
      refine r_iload dX0_appendDecimal_69 (by first | rfl | assumption) ?_
      refine r_bp (10) dX0_appendDecimal_71 rfl ?_
      refine r_idiv dX0_appendDecimal_73 (by decide) ?_
      rw [e3]
      refine r_istore dX0_appendDecimal_74 (by decide) (by first | exact z_c1_i (by first | rfl | assumption) | exact z_c1_r (by first | rfl | assumption) | exact z_c1_n (by first | rfl | assumption) | exact z_c1_c (by first | rfl | assumption) | exact z_c1_0 (by first | rfl | assumption)) ?_
      refine r_goto (tgt := 8) dX0_appendDecimal_76 (by decide) ?_
      refine ih bg1 S3 r3 cp3 ds1 _ (by omega) hB3 hb3 hg3 ?_ m0 m1 m2 m3 rfl
      rw [← hds, dgk_u n (k + 1) bg, show decide (k + 1 = 0) = false from rfl, Bool.or_false, ← hbg, hds1]
      cases bg1
      · simp
      · simp
  refine r_ic (0) dX0_appendDecimal_0 rfl ?_
  refine r_istore_n dX0_appendDecimal_1 (by decide) (by first | exact z_c1_i (by first | rfl | assumption) | exact z_c1_r (by first | rfl | assumption) | exact z_c1_n (by first | rfl | assumption) | exact z_c1_c (by first | rfl | assumption) | exact z_c1_0 (by first | rfl | assumption)) ?_
  refine r_ic (1) dX0_appendDecimal_2 rfl ?_
  refine r_istore_n dX0_appendDecimal_3 (by decide) (by first | exact z_c1_i (by first | rfl | assumption) | exact z_c1_r (by first | rfl | assumption) | exact z_c1_n (by first | rfl | assumption) | exact z_c1_c (by first | rfl | assumption) | exact z_c1_0 (by first | rfl | assumption)) ?_
  refine r_ldc dX0_appendDecimal_4 zk_X0_43 ?_
  refine r_istore dX0_appendDecimal_6 (by decide) (by first | exact z_c1_i (by first | rfl | assumption) | exact z_c1_r (by first | rfl | assumption) | exact z_c1_n (by first | rfl | assumption) | exact z_c1_c (by first | rfl | assumption) | exact z_c1_0 (by first | rfl | assumption)) ?_
  exact loop 9 false S r cap [] _ (Nat.le_refl _) (by rw [List.append_nil, List.take_of_length_le h.2.2.2.1]; exact h) hb (gB.rf hr) rfl rfl rfl rfl (by rw [List.append_nil, decide_eq_true h.2.2.2.1]; rfl) rfl
