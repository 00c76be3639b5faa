/-! THE REFERENCE: words -/
set_option maxRecDepth 100000 in
theorem sbx : ∀ b, b < 256 → fNm (sb_b b) = fNm (nI b) ∧ fDg (sb_b b) = fDg (nI b) ∧ fLt (sb_b b) = fLt (nI b) ∧ fBl (sb_b b) = fBl (nI b) ∧ fPr (sb_b b) = fPr (nI b) ∧ fHx (sb_b b) = fHx (nI b) := by decide +kernel
theorem sb_is {b c : Nat} (hb : b < 256) (hc : c < 128) : sb_b b = nI c ↔ b = c := by
  rw [← sb_low c hc]
  exact sb_inj hb (by omega)
theorem gE_D {l : List Nat} {j : Nat} (h : j < l.length) : l[j] = l.getD j 0 := by
  rw [List.getD_eq_getElem?_getD, List.getElem?_eq_getElem h]
  rfl
theorem seg_snoc {xs : List Nat} {a i : Nat} (h : a ≤ i) (hi : i < xs.length) : seg xs a (i + 1) = seg xs a i ++ [xs.getD i 0] := by
  apply List.ext_getElem
  · rw [List.length_append, seg_len (by omega), seg_len (by omega)]
    show i + 1 - a = i - a + 1
    omega
  · intro j h1 h2
    have h3 : j < i + 1 - a := by rw [seg_len (by omega)] at h1; exact h1
    rw [gE_D h1, gE_D h2, seg_getD (by omega)]
    by_cases q : j < i - a
    · rw [gD_l (by rw [seg_len (by omega)]; exact q), seg_getD q]
    · rw [gD_r (by rw [seg_len (by omega)]; omega), seg_len (by omega), show j - (i - a) = 0 by omega, show a + j = i by omega]
      rfl
def pkS (v : Int64) (b : Nat) : Int64 := (v <<< ((8 : Int32).toInt64 &&& 63)) ||| (sb_b b).toInt64
def pkI (l : List Nat) : Int64 := l.foldl pkS 0
theorem pkI_snoc {l : List Nat} {b : Nat} : pkI (l ++ [b]) = pkS (pkI l) b := by
  unfold pkI
  rw [List.foldl_append]
  rfl
/-- where a name that begins at k, ahead of e, ends -/
def nmE (xs : List Nat) (k e : Nat) : Nat := skp (fun j => fNm (nI (xs.getD j 0))) (e - k) k
def pkV (l : List Nat) : Int64 := if fDg (nI (l.getD 0 0)) = true then 0 else if 8 < l.length then -1 else pkI l
theorem C_X8_wordOf {d : Nat} {S : zS} {v : Int64} : Rc d mX8_wordOf [.long v] S (fun u S1 => S1 = S ∧ u = some (.int (if v = 26982 then 1 else if v = 1701606245 then 2 else if v = 435643771238 then 3 else if v = 1919250548 then 4 else if v = 1701733490 then 5 else if v = 469785342575 then 6 else if v = 1701733485 then 7 else -1))) := by
  refine Rc.of ?_
  refine r_lload_n dX8_wordOf_0 (by first | rfl | assumption) ?_
  refine r_ldc2 dX8_wordOf_1 zk_X8_122 ?_
  refine r_lcmp dX8_wordOf_4 ?_
  refine r_if_ne (tgt := 12) dX8_wordOf_5 (by decide) (fun c5 => ?_) (fun c5 => ?_)
  · refine r_lload_n dX8_wordOf_12 (by first | rfl | assumption) ?_
    refine r_ldc2 dX8_wordOf_13 zk_X8_124 ?_
    refine r_lcmp dX8_wordOf_16 ?_
    refine r_if_ne (tgt := 24) dX8_wordOf_17 (by decide) (fun c17 => ?_) (fun c17 => ?_)
    · refine r_lload_n dX8_wordOf_24 (by first | rfl | assumption) ?_
      refine r_ldc2 dX8_wordOf_25 zk_X8_126 ?_
      refine r_lcmp dX8_wordOf_28 ?_
      refine r_if_ne (tgt := 36) dX8_wordOf_29 (by decide) (fun c29 => ?_) (fun c29 => ?_)
      · refine r_lload_n dX8_wordOf_36 (by first | rfl | assumption) ?_
        refine r_ldc2 dX8_wordOf_37 zk_X8_128 ?_
        refine r_lcmp dX8_wordOf_40 ?_
        refine r_if_ne (tgt := 48) dX8_wordOf_41 (by decide) (fun c41 => ?_) (fun c41 => ?_)
        · refine r_lload_n dX8_wordOf_48 (by first | rfl | assumption) ?_
          refine r_ldc2 dX8_wordOf_49 zk_X8_130 ?_
          refine r_lcmp dX8_wordOf_52 ?_
          refine r_if_ne (tgt := 60) dX8_wordOf_53 (by decide) (fun c53 => ?_) (fun c53 => ?_)
          · refine r_lload_n dX8_wordOf_60 (by first | rfl | assumption) ?_
            refine r_ldc2 dX8_wordOf_61 zk_X8_132 ?_
            refine r_lcmp dX8_wordOf_64 ?_
            refine r_if_ne (tgt := 73) dX8_wordOf_65 (by decide) (fun c65 => ?_) (fun c65 => ?_)
            · refine r_lload_n dX8_wordOf_73 (by first | rfl | assumption) ?_
              refine r_ldc2 dX8_wordOf_74 zk_X8_134 ?_
              refine r_lcmp dX8_wordOf_77 ?_
              refine r_if_ne (tgt := 86) dX8_wordOf_78 (by decide) (fun c78 => ?_) (fun c78 => ?_)
              · refine r_ic (-1) dX8_wordOf_86 rfl ?_
                refine r_ireturn dX8_wordOf_87 _ rfl rfl ⟨rfl, by simp_all [lcmp_0]⟩
              · refine r_bp (7) dX8_wordOf_81 rfl ?_
                refine r_goto (tgt := 87) dX8_wordOf_83 (by decide) ?_
                refine r_ireturn dX8_wordOf_87 _ rfl rfl ⟨rfl, by simp_all [lcmp_0]⟩
            · refine r_bp (6) dX8_wordOf_68 rfl ?_
              refine r_goto (tgt := 87) dX8_wordOf_70 (by decide) ?_
              refine r_ireturn dX8_wordOf_87 _ rfl rfl ⟨rfl, by simp_all [lcmp_0]⟩
          · refine r_ic (5) dX8_wordOf_56 rfl ?_
            refine r_goto (tgt := 87) dX8_wordOf_57 (by decide) ?_
            refine r_ireturn dX8_wordOf_87 _ rfl rfl ⟨rfl, by simp_all [lcmp_0]⟩
        · refine r_ic (4) dX8_wordOf_44 rfl ?_
          refine r_goto (tgt := 87) dX8_wordOf_45 (by decide) ?_
          refine r_ireturn dX8_wordOf_87 _ rfl rfl ⟨rfl, by simp_all [lcmp_0]⟩
      · refine r_ic (3) dX8_wordOf_32 rfl ?_
        refine r_goto (tgt := 87) dX8_wordOf_33 (by decide) ?_
        refine r_ireturn dX8_wordOf_87 _ rfl rfl ⟨rfl, by simp_all [lcmp_0]⟩
    · refine r_ic (2) dX8_wordOf_20 rfl ?_
      refine r_goto (tgt := 87) dX8_wordOf_21 (by decide) ?_
      refine r_ireturn dX8_wordOf_87 _ rfl rfl ⟨rfl, by simp_all [lcmp_0]⟩
  · refine r_ic (1) dX8_wordOf_8 rfl ?_
    refine r_goto (tgt := 87) dX8_wordOf_9 (by decide) ?_
    refine r_ireturn dX8_wordOf_87 _ rfl rfl ⟨rfl, by simp_all [lcmp_0]⟩
section
variable {d : Nat} {S : zS} {r : zR} {xs : List Nat} {k e c : Nat}
set_option maxRecDepth 10000 in
theorem C_X8_packed (hc : c = 167 ∨ c = 168) (hb : byB (r.2.1 c) xs) (hl : xs.length ≤ aLn c) (hk : k ≤ e) (he : e ≤ xs.length) : Rc (d + 2) mX8_packed [.ref c, .int (nI k), .int (nI e)] (RS S r) (fun v S1 => S1 = RS S r ∧ v = some (.long (pkV (seg xs k (nmE xs k e))))) := by
  have hc1 : isAr c := by rcases hc with rfl | rfl <;> decide
  have hc2 : aTy c = .byte := by rcases hc with rfl | rfl <;> rfl
  have hl2 := aLn_le c
  have loop : ∀ (m i : Nat) (L : Nat → Option Value), e - i = m → k ≤ i → i ≤ e → skp (fun j => fNm (nI (xs.getD j 0))) m i = nmE xs k e → (k < i → fDg (nI (xs.getD k 0)) = false) → L 0 = some (.ref c) → L 1 = some (.int (nI k)) → L 2 = some (.int (nI e)) → L 3 = some (.long (pkI (seg xs k i))) → L 4 = none → L 5 = some (.int (nI (i - k))) → L 6 = some (.int (nI i)) → Ru (d + 2) mX8_packed 8 L [] (RS S r) (z_en mX8_packed (fun v S1 => S1 = RS S r ∧ v = some (.long (pkV (seg xs k (nmE xs k e)))))) := by
    intro m
    have fin : ∀ (i : Nat) (L : Nat → Option Value), k ≤ i → i ≤ e → i = nmE xs k e → (k < i → fDg (nI (xs.getD k 0)) = false) → L 3 = some (.long (pkI (seg xs k i))) → L 5 = some (.int (nI (i - k))) → Ru (d + 2) mX8_packed 61 L [] (RS S r) (z_en mX8_packed (fun v S1 => S1 = RS S r ∧ v = some (.long (pkV (seg xs k (nmE xs k e)))))) := by
      intro i L h1 h2 h3 h4 l3 l5
      have hln : (seg xs k i).length = i - k := seg_len (by omega)
      have hd0 : fDg (nI ((seg xs k i).getD 0 0)) = false := by
        by_cases q : k < i
        · rw [seg_getD (by omega)]
          exact h4 q
        · rw [seg_nil (by omega)]
          rfl
      refine r_iload dX8_packed_61 (by first | rfl | assumption) ?_
      refine r_bp (8) dX8_packed_63 rfl ?_
      by_cases q : 8 < i - k
      · refine r_icmp_le_f (tgt := 74) dX8_packed_65 (by decide) (show ¬ nI (i - k) ≤ nI 8 from nI_ge q (by omega)) ?_
        refine r_ldc2 dX8_packed_68 zk_X8_120 ?_
        refine r_goto (tgt := 75) dX8_packed_71 (by decide) ?_
        refine r_lreturn dX8_packed_75 rfl ⟨rfl, ?_⟩
        rw [← h3]
        unfold pkV
        rw [hd0, hln, if_neg Bool.false_ne_true, if_pos q]
      · refine r_icmp_le_t (tgt := 74) dX8_packed_65 (by decide) (show nI (i - k) ≤ nI 8 from nI_le (by omega) (by decide)) ?_
        refine r_lload_n dX8_packed_74 (by first | rfl | assumption) ?_
        refine r_lreturn dX8_packed_75 rfl ⟨rfl, ?_⟩
        rw [← h3]
        unfold pkV
        rw [hd0, hln, if_neg Bool.false_ne_true, if_neg q]
    induction m with
    | zero =>
      intro i L hm h1 h2 hs hd l0 l1 l2 l3 l4 l5 l6
      refine r_iload dX8_packed_8 (by first | rfl | assumption) ?_
      refine r_iload_n dX8_packed_10 (by first | rfl | assumption) ?_
      refine r_icmp_ge_t (tgt := 61) dX8_packed_11 (by decide) (show nI e ≤ nI i from nI_le (by omega) (by omega)) ?_
      exact fin i _ h1 h2 hs hd l3 l5
    | succ m ih =>
      intro i L hm h1 h2 hs hd l0 l1 l2 l3 l4 l5 l6
      have hi : i < xs.length := by omega
      have hx := hb i hi
      have hsb := sbx _ hx.1
      refine r_iload dX8_packed_8 (by first | rfl | assumption) ?_
      refine r_iload_n dX8_packed_10 (by first | rfl | assumption) ?_
      refine r_icmp_ge_f (tgt := 61) dX8_packed_11 (by decide) (show ¬ nI e ≤ nI i from nI_ge (by omega) (by omega)) ?_
      refine r_aload_n dX8_packed_14 (by first | rfl | assumption) ?_
      refine r_iload dX8_packed_15 (by first | rfl | assumption) ?_
      refine r8_bald dX8_packed_17 (hc1) (hc2) (by omega) ?_
      rw [hx.2]
      refine r_callS1 dX8_packed_18 zm_X8_117 (Nat.le_of_ble_eq_true rfl) (Nat.le_of_ble_eq_true rfl) (C_X8_isNamed) (fun v S9 hv => ?_)
      obtain ⟨rfl, rfl⟩ := hv
      rw [hsb.1]
      have hs1 : (if fNm (nI (xs.getD i 0)) = true then skp (fun j => fNm (nI (xs.getD j 0))) m (i + 1) else i) = nmE xs k e := hs
      by_cases q : fNm (nI (xs.getD i 0)) = true
      · rw [q]
        rw [if_pos q] at hs1
        refine r_if_eq_f (tgt := 61) dX8_packed_21 (by decide) (show ¬ (1 : Int32) = 0 by decide) ?_
        refine r_iload dX8_packed_24 (by first | rfl | assumption) ?_
        have l41 : fDg (nI (xs.getD k 0)) = false → Ru (d + 2) mX8_packed 41 L [] (RS S r) (z_en mX8_packed (fun v S1 => S1 = RS S r ∧ v = some (.long (pkV (seg xs k (nmE xs k e)))))) := by
          intro q2
          refine r_lload_n dX8_packed_41 (by first | rfl | assumption) ?_
          refine r_bp (8) dX8_packed_42 rfl ?_
          refine r_lshl dX8_packed_44 ?_
          refine r_aload_n dX8_packed_45 (by first | rfl | assumption) ?_
          refine r_iload dX8_packed_46 (by first | rfl | assumption) ?_
          refine r8_bald dX8_packed_48 (hc1) (hc2) (by omega) ?_
          rw [hx.2]
          refine r_i2l dX8_packed_49 ?_
          refine r_lor dX8_packed_50 ?_
          refine r_lstore_n dX8_packed_51 (by decide) (by first | exact z_c1_i (by first | rfl | assumption) | exact z_c1_r (by first | rfl | assumption) | exact z_c1_n (by first | rfl | assumption) | exact z_c1_c (by first | rfl | assumption) | exact z_c1_0 (by first | rfl | assumption)) ?_
          refine r_inc (nI (i - k + 1)) dX8_packed_52 (by first | rfl | assumption) (by decide) (by first | exact z_c1_i (by first | rfl | assumption) | exact z_c1_r (by first | rfl | assumption) | exact z_c1_n (by first | rfl | assumption) | exact z_c1_c (by first | rfl | assumption) | exact z_c1_0 (by first | rfl | assumption)) (nI_1 _) ?_
          refine r_inc (nI (i + 1)) dX8_packed_55 (by first | rfl | assumption) (by decide) (by first | exact z_c1_i (by first | rfl | assumption) | exact z_c1_r (by first | rfl | assumption) | exact z_c1_n (by first | rfl | assumption) | exact z_c1_c (by first | rfl | assumption) | exact z_c1_0 (by first | rfl | assumption)) (nI_1 _) ?_
          refine r_goto (tgt := 8) dX8_packed_58 (by decide) ?_
          refine ih (i + 1) _ (by omega) (by omega) (by omega) hs1 (fun _ => q2) l0 l1 l2 ?_ rfl ?_ rfl
          · show some (Value.long (pkS (pkI (seg xs k i)) (xs.getD i 0))) = _
            rw [seg_snoc h1 hi, pkI_snoc]
          · show some (Value.int (nI (i - k + 1))) = _
            rw [show i + 1 - k = i - k + 1 by omega]
        by_cases q1 : i = k
        · refine r_if_ne_f (tgt := 41) dX8_packed_26 (by decide) (show nI (i - k) = nI 0 by rw [show i - k = 0 by omega]) ?_
          refine r_aload_n dX8_packed_29 (by first | rfl | assumption) ?_
          refine r_iload dX8_packed_30 (by first | rfl | assumption) ?_
          refine r8_bald dX8_packed_32 (hc1) (hc2) (by omega) ?_
          rw [hx.2]
          refine r_callS1 dX8_packed_33 zm_X8_114 (Nat.le_of_ble_eq_true rfl) (Nat.le_of_ble_eq_true rfl) (C_X8_isDigit) (fun v S9 hv => ?_)
          obtain ⟨rfl, rfl⟩ := hv
          rw [hsb.2.1]
          by_cases q2 : fDg (nI (xs.getD i 0)) = true
          · rw [q2]
            refine r_if_eq_f (tgt := 41) dX8_packed_36 (by decide) (show ¬ (1 : Int32) = 0 by decide) ?_
            refine r_lc (0) dX8_packed_39 rfl ?_
            refine r_lreturn dX8_packed_40 rfl ⟨rfl, ?_⟩
            have hle := skp_le (fun j => fNm (nI (xs.getD j 0))) m (i + 1)
            rw [hs1] at hle
            unfold pkV
            rw [seg_getD (by omega), Nat.add_zero, ← q1, if_pos q2]
          · have q2 := Bool.eq_false_iff.mpr q2
            rw [q2]
            refine r_if_eq_t (tgt := 41) dX8_packed_36 (by decide) (rfl) ?_
            exact l41 (by rw [← q1]; exact q2)
        · refine r_if_ne_t (tgt := 41) dX8_packed_26 (by decide) (show ¬ nI (i - k) = nI 0 from fun z => by have := (nI_eq (by omega) (by decide)).mp z; omega) ?_
          exact l41 (hd (by omega))
      · have q' := Bool.eq_false_iff.mpr q
        rw [q']
        rw [if_neg q] at hs1
        refine r_if_eq_t (tgt := 61) dX8_packed_21 (by decide) (rfl) ?_
        exact fin i _ h1 h2 hs1 hd l3 l5
  refine Rc.of ?_
  refine r_lc (0) dX8_packed_0 rfl ?_
  refine r_lstore_n dX8_packed_1 (by decide) (by first | exact z_c1_i (by first | rfl | assumption) | exact z_c1_r (by first | rfl | assumption) | exact z_c1_n (by first | rfl | assumption) | exact z_c1_c (by first | rfl | assumption) | exact z_c1_0 (by first | rfl | assumption)) ?_
  refine r_ic (0) dX8_packed_2 rfl ?_
  refine r_istore dX8_packed_3 (by decide) (by first | exact z_c1_i (by first | rfl | assumption) | exact z_c1_r (by first | rfl | assumption) | exact z_c1_n (by first | rfl | assumption) | exact z_c1_c (by first | rfl | assumption) | exact z_c1_0 (by first | rfl | assumption)) ?_
  refine r_iload_n dX8_packed_5 (by first | rfl | assumption) ?_
  refine r_istore dX8_packed_6 (by decide) (by first | exact z_c1_i (by first | rfl | assumption) | exact z_c1_r (by first | rfl | assumption) | exact z_c1_n (by first | rfl | assumption) | exact z_c1_c (by first | rfl | assumption) | exact z_c1_0 (by first | rfl | assumption)) ?_
  refine loop (e - k) k _ rfl (Nat.le_refl _) hk rfl (fun z => absurd z (Nat.lt_irrefl _)) rfl rfl rfl ?_ rfl ?_ rfl
  · rw [seg_nil (Nat.le_refl _)]
    rfl
  · rw [Nat.sub_self]
    rfl
end
