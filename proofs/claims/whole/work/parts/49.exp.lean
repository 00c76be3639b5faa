/-! THE REFERENCE: how many places; a line as it is read -/
section
variable {d : Nat} {S : zS} {r : zR} {xs : List Nat} {p dd : Nat} {ps : List (Nat × Nat)}
theorem nmE_no {k e : Nat} (h : e ≤ k ∨ fNm (nI (xs.getD k 0)) = false) : nmE xs k e = k := by
  unfold nmE
  cases hm : e - k with
  | zero => rfl
  | succ m =>
    rcases h with h | h
    · omega
    · show (if fNm (nI (xs.getD k 0)) = true then _ else k) = k
      rw [h]
      rfl
theorem nmE_yes {k e : Nat} (h : k < e) (hn : fNm (nI (xs.getD k 0)) = true) : nmE xs k e = nmE xs (k + 1) e := by
  unfold nmE
  rw [show e - k = (e - (k + 1)) + 1 by omega]
  show (if fNm (nI (xs.getD k 0)) = true then _ else k) = _
  rw [if_pos hn]
theorem prs_end {stop m k : Nat} (h : stop ≤ k ∨ xs.getD k 0 = 59) : prs xs stop m k = [] := by
  cases m with
  | zero => rfl
  | succ m => exact if_pos h
set_option maxRecDepth 10000 in
set_option maxHeartbeats 1000000 in
theorem C_X8_parametersOf (h : TP r xs) (hd : dd < 6600) (hp : r.2.1 232 dd = nI p) (hP : PL xs p ps) : Rc (d + 2) mX8_parametersOf [.ref 165, .int (nI dd)] (RS S r) (fun v S1 => S1 = RS S r ∧ v = some (.int (nI ps.length))) := by
  have h9 := h
  obtain ⟨h1, h2, h3⟩ := h
  obtain ⟨p1, p2, p3, p4, p5⟩ := hP
  have hst := eol_le (xs := xs) p3
  generalize hstop : eol xs p = stop at p2 p4 p5 hst
  have loop : ∀ (q m k n : Nat) (L : Nat → Option Value), stop - k = q → q ≤ m → 1 ≤ k → k ≤ stop → n + (prs xs stop m (if fNm (nI (xs.getD (k - 1) 0)) = true then nmE xs k stop else k)).length = ps.length → L 0 = some (.ref 165) → L 1 = some (.int (nI dd)) → L 2 = some (.int (nI k)) → L 3 = some (.int (nI stop)) → L 4 = some (.int (nI n)) → Ru (d + 2) mX8_parametersOf 16 L [] (RS S r) (z_en mX8_parametersOf (fun v S1 => S1 = RS S r ∧ v = some (.int (nI ps.length)))) := by
    intro q
    have fin : ∀ (m k n : Nat) (L : Nat → Option Value), (stop ≤ k ∨ xs.getD k 0 = 59) → n + (prs xs stop m (if fNm (nI (xs.getD (k - 1) 0)) = true then nmE xs k stop else k)).length = ps.length → L 4 = some (.int (nI n)) → Ru (d + 2) mX8_parametersOf 67 L [] (RS S r) (z_en mX8_parametersOf (fun v S1 => S1 = RS S r ∧ v = some (.int (nI ps.length)))) := by
      intro m k n L hk hn l4
      have e : nmE xs k stop = k := nmE_no (hk.imp id (fun z => by rw [z]; rfl))
      rw [e] at hn
      have e2 : prs xs stop m (if fNm (nI (xs.getD (k - 1) 0)) = true then k else k) = [] := by
        split <;> exact prs_end hk
      rw [e2] at hn
      refine r_iload dX8_parametersOf_67 (by first | rfl | assumption) ?_
      refine r_ireturn dX8_parametersOf_69 _ rfl rfl ⟨rfl, by rw [← hn]; rfl⟩
    induction q with
    | zero =>
      intro m k n L hq hm hk1 hk hn l0 l1 l2 l3 l4
      refine r_iload_n dX8_parametersOf_16 (by first | rfl | assumption) ?_
      refine r_iload_n dX8_parametersOf_17 (by first | rfl | assumption) ?_
      refine r_icmp_ge_t (tgt := 67) dX8_parametersOf_18 (by decide) (nI_le (a := stop) (b := k) (by omega) (by omega)) ?_
      exact fin m k n L (Or.inl (by omega)) hn l4
    | succ q ih =>
      intro m k n L hq hm hk1 hk hn l0 l1 l2 l3 l4
      have hx := h3 k (by omega)
      have hx1 := h3 (k - 1) (by omega)
      refine r_iload_n dX8_parametersOf_16 (by first | rfl | assumption) ?_
      refine r_iload_n dX8_parametersOf_17 (by first | rfl | assumption) ?_
      refine r_icmp_ge_f (tgt := 67) dX8_parametersOf_18 (by decide) (nI_ge (a := k) (b := stop) (by omega) (by omega)) ?_
      refine r_aload_n dX8_parametersOf_21 (by first | rfl | assumption) ?_
      refine r8_get dX8_parametersOf_22 zf_X8_14 rfl ?_
      refine r_iload_n dX8_parametersOf_25 (by first | rfl | assumption) ?_
      refine r8_bald dX8_parametersOf_26 (by decide) (rfl) (by first | assumption | exact (show _ < 65536 by omega) | exact (show _ < 1100 by omega) | exact (show _ < 24 by omega) | exact (show _ < 2100 by omega) | exact (show _ < 6600 by omega) | exact (show _ < 1110 by omega)) ?_
      rw [hx.2]
      refine r_bp (59) dX8_parametersOf_27 rfl ?_
      by_cases q2 : xs.getD k 0 = 59
      · refine r_icmp_eq_t (tgt := 67) dX8_parametersOf_29 (by decide) ((sb_is hx.1 (by decide)).mpr q2) ?_
        exact fin m k n L (Or.inr q2) hn l4
      refine r_icmp_eq_f (tgt := 67) dX8_parametersOf_29 (by decide) (fun z => q2 ((sb_is hx.1 (c := 59) (by decide)).mp z)) ?_
      obtain ⟨m', rfl⟩ : ∃ m', m = m' + 1 := ⟨m - 1, by omega⟩
      have e1 : prs xs stop (m' + 1) k = if fNm (nI (xs.getD k 0)) = false then prs xs stop m' (k + 1) else (k, nmE xs k stop - k) :: prs xs stop m' (nmE xs k stop) := if_neg (fun z => z.elim (by omega) q2)
      refine r_aload_n dX8_parametersOf_32 (by first | rfl | assumption) ?_
      refine r8_get dX8_parametersOf_33 zf_X8_14 rfl ?_
      refine r_iload_n dX8_parametersOf_36 (by first | rfl | assumption) ?_
      refine r8_bald dX8_parametersOf_37 (by decide) (rfl) (by first | assumption | exact (show _ < 65536 by omega) | exact (show _ < 1100 by omega) | exact (show _ < 24 by omega) | exact (show _ < 2100 by omega) | exact (show _ < 6600 by omega) | exact (show _ < 1110 by omega)) ?_
      rw [hx.2]
      refine r_callS1 dX8_parametersOf_38 zm_X8_117 (Nat.le_of_ble_eq_true rfl) (Nat.le_of_ble_eq_true rfl) (C_X8_isNamed) (fun v S9 hv => ?_)
      obtain ⟨rfl, rfl⟩ := hv
      rw [(sbx _ hx.1).1]
      have l61 : ∀ (m n : Nat) (L : Nat → Option Value), q ≤ m → n + (prs xs stop m (if fNm (nI (xs.getD k 0)) = true then nmE xs (k + 1) stop else k + 1)).length = ps.length → L 0 = some (.ref 165) → L 1 = some (.int (nI dd)) → L 2 = some (.int (nI k)) → L 3 = some (.int (nI stop)) → L 4 = some (.int (nI n)) → Ru (d + 2) mX8_parametersOf 61 L [] (RS S r) (z_en mX8_parametersOf (fun v S1 => S1 = RS S r ∧ v = some (.int (nI ps.length)))) := by
        intro m n L hm hn l0 l1 l2 l3 l4
        refine r_inc (nI (k + 1)) dX8_parametersOf_61 (by first | rfl | assumption) (by decide) (by first | exact z_c1_i (by first | rfl | assumption) | exact z_c1_r (by first | rfl | assumption) | exact z_c1_n (by first | rfl | assumption) | exact z_c1_c (by first | rfl | assumption) | exact z_c1_0 (by first | rfl | assumption)) (nI_1 _) ?_
        refine r_goto (tgt := 16) dX8_parametersOf_64 (by decide) ?_
        exact ih m (k + 1) n _ (by omega) hm (by omega) (by omega) (by rw [Nat.add_sub_cancel]; exact hn) l0 l1 rfl l3 l4
      by_cases q3 : fNm (nI (xs.getD k 0)) = true
      · rw [q3]
        refine r_if_eq_f (tgt := 61) dX8_parametersOf_41 (by decide) (show ¬ (1 : Int32) = 0 by decide) ?_
        refine r_aload_n dX8_parametersOf_44 (by first | rfl | assumption) ?_
        refine r8_get dX8_parametersOf_45 zf_X8_14 rfl ?_
        refine r_iload_n dX8_parametersOf_48 (by first | rfl | assumption) ?_
        refine r_ic (1) dX8_parametersOf_49 rfl ?_
        refine r_isub dX8_parametersOf_50 ?_
        rw [show (nI k - 1 : Int32) = nI (k - 1) from nI_sub hk1]
        refine r8_bald dX8_parametersOf_51 (by decide) (rfl) (by first | assumption | exact (show _ < 65536 by omega) | exact (show _ < 1100 by omega) | exact (show _ < 24 by omega) | exact (show _ < 2100 by omega) | exact (show _ < 6600 by omega) | exact (show _ < 1110 by omega)) ?_
        rw [hx1.2]
        refine r_callS1 dX8_parametersOf_52 zm_X8_117 (Nat.le_of_ble_eq_true rfl) (Nat.le_of_ble_eq_true rfl) (C_X8_isNamed) (fun v S9 hv => ?_)
        obtain ⟨rfl, rfl⟩ := hv
        rw [(sbx _ hx1.1).1]
        have e5 := nmE_yes (xs := xs) (k := k) (e := stop) (by omega) q3
        rw [if_neg (by rw [q3]; exact Bool.noConfusion)] at e1
        by_cases q4 : fNm (nI (xs.getD (k - 1) 0)) = true
        · rw [q4]
          refine r_if_ne_t (tgt := 61) dX8_parametersOf_55 (by decide) (show ¬ (1 : Int32) = 0 by decide) ?_
          rw [if_pos q4, e5] at hn
          exact l61 (m' + 1) n L (by omega) (by rw [if_pos q3]; exact hn) l0 l1 l2 l3 l4
        · rw [Bool.eq_false_iff.mpr q4]
          refine r_if_ne_f (tgt := 61) dX8_parametersOf_55 (by decide) (rfl) ?_
          rw [if_neg q4, e1, List.length_cons] at hn
          refine r_inc (nI (n + 1)) dX8_parametersOf_58 (by first | rfl | assumption) (by decide) (by first | exact z_c1_i (by first | rfl | assumption) | exact z_c1_r (by first | rfl | assumption) | exact z_c1_n (by first | rfl | assumption) | exact z_c1_c (by first | rfl | assumption) | exact z_c1_0 (by first | rfl | assumption)) (nI_1 _) ?_
          exact l61 m' (n + 1) _ (by omega) (by rw [if_pos q3, ← e5]; omega) l0 l1 l2 l3 rfl
      · have q3' := Bool.eq_false_iff.mpr q3
        rw [q3']
        refine r_if_eq_t (tgt := 61) dX8_parametersOf_41 (by decide) (rfl) ?_
        have e6 : nmE xs k stop = k := nmE_no (Or.inr q3')
        rw [e6] at hn
        have e7 : (if fNm (nI (xs.getD (k - 1) 0)) = true then k else k) = k := by split <;> rfl
        rw [e7, e1, if_pos q3'] at hn
        exact l61 m' n L (by omega) (by rw [if_neg q3]; exact hn) l0 l1 l2 l3 l4
  refine Rc.of ?_
  refine r_aload_n dX8_parametersOf_0 (by first | rfl | assumption) ?_
  refine r8_get dX8_parametersOf_1 zf_X8_75 rfl ?_
  refine r_iload_n dX8_parametersOf_4 (by first | rfl | assumption) ?_
  refine r8_iald dX8_parametersOf_5 (by decide) (rfl) (by first | assumption | exact (show _ < 65536 by omega) | exact (show _ < 1100 by omega) | exact (show _ < 24 by omega) | exact (show _ < 2100 by omega) | exact (show _ < 6600 by omega) | exact (show _ < 1110 by omega)) ?_
  rw [hp]
  refine r_istore_n dX8_parametersOf_6 (by decide) (by first | exact z_c1_i (by first | rfl | assumption) | exact z_c1_r (by first | rfl | assumption) | exact z_c1_n (by first | rfl | assumption) | exact z_c1_c (by first | rfl | assumption) | exact z_c1_0 (by first | rfl | assumption)) ?_
  refine r_aload_n dX8_parametersOf_7 (by first | rfl | assumption) ?_
  refine r_iload_n dX8_parametersOf_8 (by first | rfl | assumption) ?_
  refine r_callV1 dX8_parametersOf_9 zm_X8_163 RS_o rfl (Nat.le_of_ble_eq_true rfl) (Nat.le_of_ble_eq_true rfl) (C_X8_endOfLine h9 (show p ≤ 2000 by omega)) (fun v S9 hv => ?_)
  obtain ⟨rfl, rfl⟩ := hv
  rw [hstop]
  refine r_istore_n dX8_parametersOf_12 (by decide) (by first | exact z_c1_i (by first | rfl | assumption) | exact z_c1_r (by first | rfl | assumption) | exact z_c1_n (by first | rfl | assumption) | exact z_c1_c (by first | rfl | assumption) | exact z_c1_0 (by first | rfl | assumption)) ?_
  refine r_ic (0) dX8_parametersOf_13 rfl ?_
  refine r_istore dX8_parametersOf_14 (by decide) (by first | exact z_c1_i (by first | rfl | assumption) | exact z_c1_r (by first | rfl | assumption) | exact z_c1_n (by first | rfl | assumption) | exact z_c1_c (by first | rfl | assumption) | exact z_c1_0 (by first | rfl | assumption)) ?_
  refine loop (stop - p) (stop - p) p 0 _ rfl (Nat.le_refl _) p1 p2 ?_ rfl rfl rfl rfl rfl
  have e : nmE xs p stop = p := nmE_no (by by_cases q : p < stop; exact Or.inr (p5 q); exact Or.inl (by omega))
  rw [e, Nat.zero_add]
  have e7 : (if fNm (nI (xs.getD (p - 1) 0)) = true then p else p) = p := by split <;> rfl
  rw [e7, p4]
end
theorem take_sn {l : List Nat} {k : Nat} (h : k < l.length) : l.take (k + 1) = l.take k ++ [l.getD k 0] := by
  rw [List.take_add_one, List.getElem?_eq_getElem h, gE_D h]
  rfl
def wrG (W : Nat → List Nat × Nat) (en lim : Nat) : Nat → Nat → List Nat → Option (List Nat)
  | 0, _, xs => some xs
  | n + 1, a, xs => if a < en then (if (xs ++ (W a).1).length ≤ lim then wrG W en lim n (a + (W a).2) (xs ++ (W a).1) else none) else some xs
theorem wrF_G {src : List Nat} {en sn lim : Nat} {ps : List (Nat × Nat)} {gv : List Nat} {gs : List (Nat × Nat)} : ∀ (n a : Nat) (xs : List Nat), wrF src en sn ps gv gs lim n a xs = wrG (fun a => wrA src a en sn ps gv gs) en lim n a xs
  | 0, _, _ => rfl
  | n + 1, a, xs => by
    rw [wrF_s]
    show _ = if a < en then (if (xs ++ (wrA src a en sn ps gv gs).1).length ≤ lim then wrG (fun a => wrA src a en sn ps gv gs) en lim n (a + (wrA src a en sn ps gv gs).2) (xs ++ (wrA src a en sn ps gv gs).1) else none) else some xs
    rw [wrF_G n]
theorem seg_G {src : List Nat} {en lim : Nat} (hen : en ≤ src.length) : ∀ (n a : Nat) (xs : List Nat), en - a = n → a ≤ en → (xs ++ seg src a en).length ≤ lim → wrG (fun a => ([src.getD a 0], 1)) en lim n a xs = some (xs ++ seg src a en)
  | 0, a, xs, h1, h2, h3 => by
    rw [seg_nil (by omega), List.append_nil]
    rfl
  | n + 1, a, xs, h1, h2, h3 => by
    have e : xs ++ seg src a en = (xs ++ [src.getD a 0]) ++ seg src (a + 1) en := by
      rw [seg_cons (by omega) (by omega), List.append_assoc]
      rfl
    show (if a < en then (if (xs ++ [src.getD a 0]).length ≤ lim then wrG _ en lim n (a + 1) (xs ++ [src.getD a 0]) else none) else some xs) = _
    rw [e] at h3 ⊢
    rw [if_pos (by omega), if_pos (by rw [List.length_append] at h3; omega), seg_G hen n (a + 1) _ (by omega) (by omega) h3]
/-- what was given for a macro's places -/
def AR (r : zR) (j : Nat) (gv : List Nat) (gs : List (Nat × Nat)) : Prop := r.2.1 229 j = nI gs.length ∧ gs.length ≤ 1040 ∧ ∀ i, i < gs.length → ∃ a b, r.2.1 (205 + j) (2 * i) = nI a ∧ r.2.1 (205 + j) (2 * i + 1) = nI b ∧ a ≤ b ∧ b ≤ 1100 ∧ b - a = (seg gv (gs.getD i (0, 0)).1 (gs.getD i (0, 0)).2).length ∧ ∀ k, k < b - a → (seg gv (gs.getD i (0, 0)).1 (gs.getD i (0, 0)).2).getD k 0 < 256 ∧ r.2.1 (180 + j) (a + k) = sb_b ((seg gv (gs.getD i (0, 0)).1 (gs.getD i (0, 0)).2).getD k 0)
theorem plA_ok {xs : List Nat} {a en i : Nat} {P : Nat → Prop} : ∀ (l : List (Nat × Nat)) (ps : List (Nat × Nat)) (k : Nat) (best : Option Nat) (bl : Nat), ps.drop k = l → (∀ q, best = some q → P q) → (∀ q, q < ps.length → 0 < (ps.getD q (0, 0)).2 → a + (ps.getD q (0, 0)).2 ≤ en → sam xs (ps.getD q (0, 0)).1 xs a (ps.getD q (0, 0)).2 = true → P q) → plA xs a en l k best bl = some i → P i
  | [], ps, k, best, bl, hd, hb, hP, h => hb i h
  | p :: l, ps, k, best, bl, hd, hb, hP, h => by
    have hk : ps[k]? = some p := by
      have : (ps.drop k)[0]? = some p := by rw [hd]; rfl
      rw [List.getElem?_drop, Nat.add_zero] at this
      exact this
    have hk2 : ps.getD k (0, 0) = p := by rw [List.getD_eq_getElem?_getD, hk]; rfl
    have hk3 : k < ps.length := (List.getElem?_eq_some_iff.mp hk).1
    have hd2 : ps.drop (k + 1) = l := by
      have : (ps.drop k).drop 1 = l := by rw [hd]; rfl
      rw [List.drop_drop] at this
      exact this
    rw [plA_s] at h
    split at h
    · next q => exact plA_ok l ps (k + 1) (some k) p.2 hd2 (fun q' hq' => by cases hq'; exact hP k hk3 (by rw [hk2]; omega) (by rw [hk2]; exact q.2.1) (by rw [hk2]; exact q.2.2)) hP h
    · exact plA_ok l ps (k + 1) best bl hd2 hb hP h
theorem prs_nm {xs : List Nat} {stop : Nat} : ∀ (m k : Nat), ∀ q ∈ prs xs stop m k, fNm (nI (xs.getD q.1 0)) = true
  | 0, k, q, hq => by cases hq
  | m + 1, k, q, hq => by
    have hq : q ∈ if stop ≤ k ∨ xs.getD k 0 = 59 then [] else if fNm (nI (xs.getD k 0)) = false then prs xs stop m (k + 1) else (k, nmE xs k stop - k) :: prs xs stop m (nmE xs k stop) := hq
    split at hq
    · cases hq
    · split at hq
      · exact prs_nm m (k + 1) q hq
      · next z =>
        rcases List.mem_cons.mp hq with rfl | w
        · exact Bool.not_eq_false _ |>.mp z
        · exact prs_nm m _ q w
/-- behind a line's expansion -/
def exP (S : zS) (r : zR) (ow : Int32) (R : Option (List Nat)) (v : Option Value) (S1 : zS) : Prop := v = none ∧ ∃ r', S1 = RS S r' ∧ match R with
  | some ys => eqx [18, 46] [168] r r' ∧ LN r' ys ∧ ys.length ≤ 1024
  | none => eqx [18, 46, 11, 12] [168] r r' ∧ r'.1 11 = 5 ∧ r'.1 12 = ow
/-- what a macro's frame holds -/
def MF (r : zR) (xs : List Nat) (j sn : Nat) (ps : List (Nat × Nat)) (gv : List Nat) (gs : List (Nat × Nat)) : Prop := (∃ dd p, r.2.1 176 j = nI dd ∧ dd < 6600 ∧ r.2.1 232 dd = nI p ∧ PL xs p ps) ∧ r.2.1 177 j = nI sn ∧ sn ≤ 65536 ∧ AR r j gv gs ∧ ps.length ≤ 512
section
variable {d : Nat} {S : zS} {r : zR} {xs : List Nat} {kd : Nat → Int32} {n ls le sn : Nat} {ps gs : List (Nat × Nat)} {gv : List Nat}
set_option maxRecDepth 10000 in
set_option maxHeartbeats 4000000 in
theorem C_X8_expand (h : TP r xs) (hk : FK kd r n) (h7 : r.1 7 = nI ls) (h8 : r.1 8 = nI le) (hl1 : ls ≤ le) (hl2 : le ≤ xs.length) (hbad : r.1 11 = 0) (hm : ∀ j, inM kd n = some j → j < 20 ∧ MF r xs j sn ps gv gs) : Rc (d + 3) mX8_expand [.ref 165] (RS S r) (exP S r (own kd r n) (wrG (fun a => match inM kd n with
    | none => ([xs.getD a 0], 1)
    | some _ => wrA xs a le sn ps gv gs) le 1024 (le - ls) ls [])) := by
  have hT := h
  obtain ⟨h1, h2, h3⟩ := h
  have hk20 := hk.2.1
  generalize hW : (fun a => match inM kd n with
    | none => ([xs.getD a 0], 1)
    | some _ => wrA xs a le sn ps gv gs) = W
  generalize hF : wrG W le 1024 (le - ls) ls [] = F
  have loop : ∀ (m a : Nat) (ys : List Nat) (r1 : zR) (L : Nat → Option Value), le - a ≤ m → a ≤ le → wrG W le 1024 m a ys = F → ys.length ≤ 1024 → LN r1 ys → eqx [18, 46] [168] r r1 → L 0 = some (.ref 165) → L 1 = some (.int (oI (inM kd n))) → L 2 = some (.int (nI a)) → z_c1 (L 3) → z_c1 (L 4) → Ru (d + 3) mX8_expand 36 L [] (RS S r1) (z_en mX8_expand (exP S r (own kd r n) F)) := by
    intro m
    induction m with
    | zero =>
      intro a ys r1 L hm1 ha hw hy hL hx l0 l1 l2 l3 l4
      have hw : some ys = F := hw
      refine r_iload_n dX8_expand_36 (by first | rfl | assumption) ?_
      refine r_aload_n dX8_expand_37 (by first | rfl | assumption) ?_
      refine r8_get dX8_expand_38 zf_X8_196 rfl ?_
      rw [hx.1 8 (by decide), h8]
      refine r_icmp_ge_t (tgt := 242) dX8_expand_41 (by decide) (nI_le (a := le) (b := a) (by omega) (by omega)) ?_
      refine r_return dX8_expand_242 rfl ⟨rfl, r1, rfl, by rw [← hw]; exact ⟨hx, hL, hy⟩⟩
    | succ m ih =>
      intro a ys r1 L hm1 ha hw hy hL hx l0 l1 l2 l3 l4
      have hw2 : (if a < le then (if (ys ++ (W a).1).length ≤ 1024 then wrG W le 1024 m (a + (W a).2) (ys ++ (W a).1) else none) else some ys) = F := hw
      refine r_iload_n dX8_expand_36 (by first | rfl | assumption) ?_
      refine r_aload_n dX8_expand_37 (by first | rfl | assumption) ?_
      refine r8_get dX8_expand_38 zf_X8_196 rfl ?_
      rw [hx.1 8 (by decide), h8]
      by_cases q0 : le ≤ a
      · refine r_icmp_ge_t (tgt := 242) dX8_expand_41 (by decide) (nI_le (a := le) (b := a) q0 (by omega)) ?_
        rw [if_neg (by omega)] at hw2
        refine r_return dX8_expand_242 rfl ⟨rfl, r1, rfl, by rw [← hw2]; exact ⟨hx, hL, hy⟩⟩
      refine r_icmp_ge_f (tgt := 242) dX8_expand_41 (by decide) (nI_ge (a := a) (b := le) (by omega) (by omega)) ?_
      rw [if_pos (by omega)] at hw2
      have hT1 := hT.mv hx (by decide) (by decide)
      have hax := hT1.2.2 a (by omega)
      have hWa : W a = match inM kd n with
        | none => ([xs.getD a 0], 1)
        | some _ => wrA xs a le sn ps gv gs := by rw [← hW]
      -- a step's end
      have l223 : ∀ (r2 : zR) (L : Nat → Option Value), LN r2 (ys ++ (W a).1) → eqx [18, 46] [168] r r2 → a + (W a).2 ≤ le → 1 ≤ (W a).2 → L 0 = some (.ref 165) → L 1 = some (.int (oI (inM kd n))) → L 2 = some (.int (nI (a + (W a).2))) → z_c1 (L 3) → z_c1 (L 4) → Ru (d + 3) mX8_expand 223 L [] (RS S r2) (z_en mX8_expand (exP S r (own kd r n) F)) := by
        intro r2 L hL2 hx2 ha2 ha3 l0 l1 l2 l3 l4
        have := hL2.2.1
        refine r_aload_n dX8_expand_223 (by first | rfl | assumption) ?_
        refine r8_get dX8_expand_224 zf_X8_199 rfl ?_
        refine r_sp (1024) dX8_expand_227 rfl ?_
        rw [hL2.1]
        by_cases q : (ys ++ (W a).1).length ≤ 1024
        · rw [if_pos q] at hw2
          refine r_icmp_le_t (tgt := 239) dX8_expand_230 (by decide) (nI_le (b := 1024) q (by decide)) ?_
          refine r_goto (tgt := 36) dX8_expand_239 (by decide) ?_
          exact ih _ _ r2 L (by omega) ha2 hw2 q hL2 hx2 l0 l1 l2 l3 l4
        · rw [if_neg q] at hw2
          refine r_icmp_le_f (tgt := 239) dX8_expand_230 (by decide) (nI_ge (a := 1024) (by omega) (by omega)) ?_
          refine r_aload_n dX8_expand_233 (by first | rfl | assumption) ?_
          refine r_ic (5) dX8_expand_234 rfl ?_
          have hk2 := hk.mv hx2 (by decide) (by decide)
          refine r_callV1 dX8_expand_235 zm_X8_189 RS_o rfl (Nat.le_of_ble_eq_true rfl) (Nat.le_of_ble_eq_true rfl) (C_X8_fail (k := 5) hk2) (fun v S9 hv => ?_)
          obtain ⟨rfl, rfl⟩ := hv
          rw [if_pos ((hx2.1 11 (by decide)).trans hbad)]
          refine r_return dX8_expand_238 rfl ⟨rfl, _, rfl, ?_⟩
          rw [← hw2]
          refine ⟨((hx2.mono (by decide) (by decide)).tr (eqx.f (by decide))).tr (eqx.f (by decide)), rfl, ?_⟩
          show own kd r2 n = own kd r n
          unfold own
          rw [hx2.1 6 (by decide), (hx2.2 175 (by decide)).1]
      -- the byte itself
      have l215 : ∀ (r2 : zR) (L : Nat → Option Value), LN r2 ys → eqx [18, 46] [168] r r2 → W a = ([xs.getD a 0], 1) → L 0 = some (.ref 165) → L 1 = some (.int (oI (inM kd n))) → L 2 = some (.int (nI a)) → L 3 = some (.int (sb_b (xs.getD a 0))) → z_c1 (L 4) → Ru (d + 3) mX8_expand 215 L [] (RS S r2) (z_en mX8_expand (exP S r (own kd r n) F)) := by
        intro r2 L hL2 hx2 hWa l0 l1 l2 l3 l4
        refine r_aload_n dX8_expand_215 (by first | rfl | assumption) ?_
        refine r_iload_n dX8_expand_216 (by first | rfl | assumption) ?_
        refine r_callV1 dX8_expand_217 zm_X8_202 RS_o rfl (Nat.le_of_ble_eq_true rfl) (Nat.le_of_ble_eq_true rfl) (C_X8_append hL2 hax.1 (by omega) (sb_sb _)) (fun u S9 hv => ?_)
        obtain ⟨rfl, r3, rfl, hx3, hL3⟩ := hv
        refine r_inc (nI (a + 1)) dX8_expand_220 (by first | rfl | assumption) (by decide) (by first | exact z_c1_i (by first | rfl | assumption) | exact z_c1_r (by first | rfl | assumption) | exact z_c1_n (by first | rfl | assumption) | exact z_c1_c (by first | rfl | assumption) | exact z_c1_0 (by first | rfl | assumption)) (nI_1 _) ?_
        refine l223 r3 _ (by rw [hWa]; exact hL3) (hx2.tr (hx3.mono (by decide) (by decide))) (by rw [hWa]; show a + 1 ≤ le; omega) (by rw [hWa]; exact Nat.le_refl _) l0 l1 (by rw [hWa]; rfl) (z_c1_i (L := z_s1 L 2 _) (i := 3) l3) l4
      refine r_aload_n dX8_expand_44 (by first | rfl | assumption) ?_
      refine r8_get dX8_expand_45 zf_X8_14 rfl ?_
      refine r_iload_n dX8_expand_48 (by first | rfl | assumption) ?_
      refine r8_bald dX8_expand_49 (by decide) (rfl) (by first | assumption | exact (show _ < 65536 by omega) | exact (show _ < 1100 by omega) | exact (show _ < 24 by omega) | exact (show _ < 2100 by omega) | exact (show _ < 6600 by omega) | exact (show _ < 1110 by omega)) ?_
      rw [hax.2]
      refine r_istore_n dX8_expand_50 (by decide) (by first | exact z_c1_i (by first | rfl | assumption) | exact z_c1_r (by first | rfl | assumption) | exact z_c1_n (by first | rfl | assumption) | exact z_c1_c (by first | rfl | assumption) | exact z_c1_0 (by first | rfl | assumption)) ?_
      refine r_iload_n dX8_expand_51 (by first | rfl | assumption) ?_
      cases hj : inM kd n with
      | none =>
        rw [hj] at hWa l1
        refine r_if_lt_t (tgt := 81) dX8_expand_52 (by decide) (show (-1 : Int32) < 0 by decide) ?_
        refine r_ic (0) dX8_expand_81 rfl ?_
        refine r_istore dX8_expand_82 (by decide) (by first | exact z_c1_i (by first | rfl | assumption) | exact z_c1_r (by first | rfl | assumption) | exact z_c1_n (by first | rfl | assumption) | exact z_c1_c (by first | rfl | assumption) | exact z_c1_0 (by first | rfl | assumption)) ?_
        refine r_iload dX8_expand_84 (by first | rfl | assumption) ?_
        refine r_if_le_t (tgt := 166) dX8_expand_86 (by decide) (show (0 : Int32) ≤ 0 by decide) ?_
        refine r_iload_n dX8_expand_166 (by first | rfl | assumption) ?_
        refine r_if_lt_t (tgt := 215) dX8_expand_167 (by decide) (show (-1 : Int32) < 0 by decide) ?_
        exact l215 r1 _ hL hx hWa l0 (by rw [hj]; exact l1) l2 rfl (z_c1_i rfl)
      | some j =>
        obtain ⟨hj20, ⟨dd, p, hdd, hdd2, hp, hPL⟩, hsn, hsn2, hAR, hps⟩ := hm j hj
        have hWa2 : W a = wrA xs a le sn ps gv gs := by rw [hWa, hj]
        unfold wrA at hWa2
        rw [hj] at l1
        have l1' : L 1 = some (.int (nI j)) := l1
        refine r_if_lt_f (tgt := 81) dX8_expand_52 (by decide) (fun z => absurd z (Int32.not_lt.mpr (show nI 0 ≤ nI j from nI_le (Nat.zero_le _) (by omega)))) ?_
        refine r_iload_n dX8_expand_55 (by first | rfl | assumption) ?_
        refine r_bp (92) dX8_expand_56 rfl ?_
        by_cases q1 : xs.getD a 0 = 92
        · refine r_icmp_ne_f (tgt := 81) dX8_expand_58 (by decide) ((sb_is hax.1 (by decide)).mpr q1) ?_
          rw [if_neg (fun z => z q1)] at hWa2
          refine r_aload_n dX8_expand_61 (by first | rfl | assumption) ?_
          refine r_aload_n dX8_expand_62 (by first | rfl | assumption) ?_
          refine r8_get dX8_expand_63 zf_X8_46 rfl ?_
          refine r_iload_n dX8_expand_66 (by first | rfl | assumption) ?_
          refine r8_iald dX8_expand_67 (by decide) (rfl) (by first | assumption | exact (show _ < 65536 by omega) | exact (show _ < 1100 by omega) | exact (show _ < 24 by omega) | exact (show _ < 2100 by omega) | exact (show _ < 6600 by omega) | exact (show _ < 1110 by omega)) ?_
          rw [(hx.2 176 (by decide)).1, hdd]
          refine r_iload_n dX8_expand_68 (by first | rfl | assumption) ?_
          refine r_ic (1) dX8_expand_69 rfl ?_
          refine r_iadd dX8_expand_70 ?_
          rw [nI_1]
          refine r_aload_n dX8_expand_71 (by first | rfl | assumption) ?_
          refine r8_get dX8_expand_72 zf_X8_196 rfl ?_
          rw [hx.1 8 (by decide), h8]
          refine r_callV3 dX8_expand_75 zm_X8_208 RS_o rfl (Nat.le_of_ble_eq_true rfl) (Nat.le_of_ble_eq_true rfl) (C_X8_parameterAt hT1 hdd2 (by rw [(hx.2 232 (by decide)).1]; exact hp) hPL (show a + 1 ≤ le by omega) hl2) (fun v S9 hv => ?_)
          obtain ⟨r2, rfl, hx2, hv⟩ := hv
          have hx2' : eqx [18, 46] [168] r r2 := hx.tr (hx2.mono (by decide) (by decide))
          have hL2 : LN r2 ys := hL.mv hx2 (by decide) (by decide)
          cases hR : plA xs (a + 1) le ps 0 none 0 with
          | none =>
            rw [hR] at hv hWa2
            have hv : v = some (.int 0) := hv
            subst hv
            refine r_goto (tgt := 82) dX8_expand_78 (by decide) ?_
            refine r_istore dX8_expand_82 (by decide) (by first | exact z_c1_i (by first | rfl | assumption) | exact z_c1_r (by first | rfl | assumption) | exact z_c1_n (by first | rfl | assumption) | exact z_c1_c (by first | rfl | assumption) | exact z_c1_0 (by first | rfl | assumption)) ?_
            refine r_iload dX8_expand_84 (by first | rfl | assumption) ?_
            refine r_if_le_t (tgt := 166) dX8_expand_86 (by decide) (show (0 : Int32) ≤ 0 by decide) ?_
            refine r_iload_n dX8_expand_166 (by first | rfl | assumption) ?_
            refine r_if_lt_f (tgt := 215) dX8_expand_167 (by decide) (fun z => absurd z (Int32.not_lt.mpr (show nI 0 ≤ nI j from nI_le (Nat.zero_le _) (by omega)))) ?_
            refine r_iload_n dX8_expand_170 (by first | rfl | assumption) ?_
            refine r_bp (92) dX8_expand_171 rfl ?_
            refine r_icmp_ne_f (tgt := 215) dX8_expand_173 (by decide) ((sb_is hax.1 (by decide)).mpr q1) ?_
            refine r_iload_n dX8_expand_176 (by first | rfl | assumption) ?_
            refine r_ic (1) dX8_expand_177 rfl ?_
            refine r_iadd dX8_expand_178 ?_
            rw [nI_1]
            refine r_aload_n dX8_expand_179 (by first | rfl | assumption) ?_
            refine r8_get dX8_expand_180 zf_X8_196 rfl ?_
            rw [hx2'.1 8 (by decide), h8]
            by_cases q2 : a + 1 < le
            · refine r_icmp_ge_f (tgt := 215) dX8_expand_183 (by decide) (nI_ge (a := a + 1) (b := le) q2 (by omega)) ?_
              have hT2 := hT.mv hx2' (by decide) (by decide)
              have hbx := hT2.2.2 (a + 1) (by omega)
              refine r_aload_n dX8_expand_186 (by first | rfl | assumption) ?_
              refine r8_get dX8_expand_187 zf_X8_14 rfl ?_
              refine r_iload_n dX8_expand_190 (by first | rfl | assumption) ?_
              refine r_ic (1) dX8_expand_191 rfl ?_
              refine r_iadd dX8_expand_192 ?_
              rw [nI_1]
              refine r8_bald dX8_expand_193 (by decide) (rfl) (by first | assumption | exact (show _ < 65536 by omega) | exact (show _ < 1100 by omega) | exact (show _ < 24 by omega) | exact (show _ < 2100 by omega) | exact (show _ < 6600 by omega) | exact (show _ < 1110 by omega)) ?_
              rw [hbx.2]
              refine r_bp (64) dX8_expand_194 rfl ?_
              by_cases q3 : xs.getD (a + 1) 0 = 64
              · refine r_icmp_ne_f (tgt := 215) dX8_expand_196 (by decide) ((sb_is hbx.1 (by decide)).mpr q3) ?_
                rw [if_pos ⟨q2, q3⟩] at hWa2
                refine r_aload_n dX8_expand_199 (by first | rfl | assumption) ?_
                refine r_aload_n dX8_expand_200 (by first | rfl | assumption) ?_
                refine r8_get dX8_expand_201 zf_X8_49 rfl ?_
                refine r_iload_n dX8_expand_204 (by first | rfl | assumption) ?_
                refine r8_iald dX8_expand_205 (by decide) (rfl) (by first | assumption | exact (show _ < 65536 by omega) | exact (show _ < 1100 by omega) | exact (show _ < 24 by omega) | exact (show _ < 2100 by omega) | exact (show _ < 6600 by omega) | exact (show _ < 1110 by omega)) ?_
                rw [(hx2'.2 177 (by decide)).1, hsn]
                refine r_callV1 dX8_expand_206 zm_X8_212 RS_o rfl (Nat.le_of_ble_eq_true rfl) (Nat.le_of_ble_eq_true rfl) (C_X8_appendNumber hL2 (by omega) hsn2) (fun u S9 hv => ?_)
                obtain ⟨rfl, r3, rfl, hx3, hL3⟩ := hv
                refine r_inc (nI (a + 2)) dX8_expand_209 (by first | rfl | assumption) (by decide) (by first | exact z_c1_i (by first | rfl | assumption) | exact z_c1_r (by first | rfl | assumption) | exact z_c1_n (by first | rfl | assumption) | exact z_c1_c (by first | rfl | assumption) | exact z_c1_0 (by first | rfl | assumption)) (nI_add a 2) ?_
                refine r_goto (tgt := 223) dX8_expand_212 (by decide) ?_
                refine l223 r3 _ (by rw [hWa2]; exact hL3) (hx2'.tr (hx3.mono (by decide) (by decide))) (by rw [hWa2]; show a + 2 ≤ le; omega) (by rw [hWa2]; show 1 ≤ 2; decide) l0 (by rw [hj]; exact l1) (by rw [hWa2]; rfl) (z_c1_i rfl) (z_c1_i rfl)
              · refine r_icmp_ne_t (tgt := 215) dX8_expand_196 (by decide) (fun z => q3 ((sb_is hbx.1 (c := 64) (by decide)).mp z)) ?_
                rw [if_neg (fun z => q3 z.2)] at hWa2
                exact l215 r2 _ hL2 hx2' (by rw [hWa2, q1]) l0 (by rw [hj]; exact l1) l2 rfl (z_c1_i rfl)
            · refine r_icmp_ge_t (tgt := 215) dX8_expand_183 (by decide) (nI_le (a := le) (b := a + 1) (by omega) (by omega)) ?_
              rw [if_neg (fun z => q2 z.1)] at hWa2
              exact l215 r2 _ hL2 hx2' (by rw [hWa2, q1]) l0 (by rw [hj]; exact l1) l2 rfl (z_c1_i rfl)
          | some i =>
            rw [hR] at hv hWa2
            obtain ⟨rfl, hfd⟩ := hv
            have hok : i < ps.length ∧ 0 < (ps.getD i (0, 0)).2 ∧ a + 1 + (ps.getD i (0, 0)).2 ≤ le ∧ sam xs (ps.getD i (0, 0)).1 xs (a + 1) (ps.getD i (0, 0)).2 = true := plA_ok (P := fun i => i < ps.length ∧ 0 < (ps.getD i (0, 0)).2 ∧ a + 1 + (ps.getD i (0, 0)).2 ≤ le ∧ sam xs (ps.getD i (0, 0)).1 xs (a + 1) (ps.getD i (0, 0)).2 = true) ps ps 0 none 0 rfl (fun q hq => by cases hq) (fun q w1 w2 w3 w4 => ⟨w1, w2, w3, w4⟩) hR
            have hn64 : ¬ (a + 1 < le ∧ xs.getD (a + 1) 0 = 64) := by
              intro z
              have hmem : ps.getD i (0, 0) ∈ ps := List.mem_of_getElem? (getD_some (d0 := (0, 0)) hok.1)
              have hnm : fNm (nI (xs.getD (ps.getD i (0, 0)).1 0)) = true := prs_nm _ _ _ (by rw [hPL.2.2.2.1]; exact hmem)
              have hsa := hok.2.2.2
              unfold sam eqs at hsa
              simp only [Bool.and_eq_true, decide_eq_true_eq] at hsa
              have h00 := hsa.2 0 hok.2.1
              rw [Nat.add_zero, Nat.add_zero] at h00
              rw [h00, z.2] at hnm
              cases hnm
            rw [if_neg hn64] at hWa2
            have hWa3 : W a = (seg gv (gs.getD i (0, 0)).1 (gs.getD i (0, 0)).2, 1 + (ps.getD i (0, 0)).2) := hWa2
            generalize hpn : (ps.getD i (0, 0)).2 = pn at hok hWa3
            refine r_goto (tgt := 82) dX8_expand_78 (by decide) ?_
            refine r_istore dX8_expand_82 (by decide) (by first | exact z_c1_i (by first | rfl | assumption) | exact z_c1_r (by first | rfl | assumption) | exact z_c1_n (by first | rfl | assumption) | exact z_c1_c (by first | rfl | assumption) | exact z_c1_0 (by first | rfl | assumption)) ?_
            refine r_iload dX8_expand_84 (by first | rfl | assumption) ?_
            refine r_if_le_f (tgt := 166) dX8_expand_86 (by decide) (nI_nle hok.2.1 (by omega)) ?_
            have har1 : ∀ (r3 : zR), eqx [18, 46] [168] r r3 → r3.2.1 (205 + j) = r.2.1 (205 + j) := fun r3 hx3 => (hx3.2 (205 + j) (fun z => by have := List.mem_singleton.mp z; omega)).1
            have har2 : ∀ (r3 : zR), eqx [18, 46] [168] r r3 → r3.2.1 (180 + j) = r.2.1 (180 + j) := fun r3 hx3 => (hx3.2 (180 + j) (fun z => by have := List.mem_singleton.mp z; omega)).1
            have hc1 : isAr (205 + j) := by unfold isAr; omega
            have hc2 : aTy (205 + j) = .int := by unfold aTy; rw [if_neg (by omega), if_neg (by omega), if_neg (by omega)]
            have hc3 : aLn (205 + j) = 2100 := by unfold aLn; rw [if_neg (by omega), if_neg (by omega), if_neg (by omega), if_neg (by omega), if_pos (by omega)]
            have hc4 : isAr (180 + j) := by unfold isAr; omega
            have hc5 : aTy (180 + j) = .byte := by unfold aTy; rw [if_neg (by omega), if_neg (by omega), if_pos (by omega)]
            have hc6 : aLn (180 + j) = 1100 := by unfold aLn; rw [if_neg (by omega), if_neg (by omega), if_neg (by omega), if_pos (by omega)]
            refine r_aload_n dX8_expand_89 (by first | rfl | assumption) ?_
            refine r8_get dX8_expand_90 zf_X8_63 rfl ?_
            refine r_iload_n dX8_expand_93 (by first | rfl | assumption) ?_
            refine r8_aaldI dX8_expand_94 ((by omega)) ?_
            refine r_ic (2) dX8_expand_95 rfl ?_
            refine r_aload_n dX8_expand_96 (by first | rfl | assumption) ?_
            refine r8_get dX8_expand_97 zf_X8_171 rfl ?_
            refine r_imul dX8_expand_100 ?_
            rw [hfd, show (2 : Int32) * nI i = nI (2 * i) from pk_mul 2 i]
            refine r8_iald dX8_expand_101 (hc1) (hc2) (by rw [hc3]; omega) ?_
            rw [har1 r2 hx2']
            refine r_istore dX8_expand_102 (by decide) (by first | exact z_c1_i (by first | rfl | assumption) | exact z_c1_r (by first | rfl | assumption) | exact z_c1_n (by first | rfl | assumption) | exact z_c1_c (by first | rfl | assumption) | exact z_c1_0 (by first | rfl | assumption)) ?_
            -- behind what is given
            have l156 : ∀ (r3 : zR) (L : Nat → Option Value), LN r3 (ys ++ (W a).1) → eqx [18, 46] [168] r r3 → L 0 = some (.ref 165) → L 1 = some (.int (oI (some j))) → L 2 = some (.int (nI a)) → z_c1 (L 3) → L 4 = some (.int (nI pn)) → Ru (d + 3) mX8_expand 156 L [] (RS S r3) (z_en mX8_expand (exP S r (own kd r n) F)) := by
              intro r3 L hL3 hx3 l0 l1 l2 l3 l4
              refine r_iload_n dX8_expand_156 (by first | rfl | assumption) ?_
              refine r_iload dX8_expand_157 (by first | rfl | assumption) ?_
              refine r_ic (1) dX8_expand_159 rfl ?_
              refine r_iadd dX8_expand_160 ?_
              rw [nI_1]
              refine r_iadd dX8_expand_161 ?_
              rw [nI_add]
              refine r_istore_n dX8_expand_162 (by decide) (by first | exact z_c1_i (by first | rfl | assumption) | exact z_c1_r (by first | rfl | assumption) | exact z_c1_n (by first | rfl | assumption) | exact z_c1_c (by first | rfl | assumption) | exact z_c1_0 (by first | rfl | assumption)) ?_
              refine r_goto (tgt := 223) dX8_expand_163 (by decide) ?_
              refine l223 r3 _ hL3 hx3 (by rw [hWa3]; show a + (1 + pn) ≤ le; omega) (by rw [hWa3]; show 1 ≤ 1 + pn; omega) l0 (by rw [hj]; exact l1) (by rw [hWa3]; show some (Value.int (nI (a + (pn + 1)))) = some (Value.int (nI (a + (1 + pn)))); rw [Nat.add_comm 1 pn]) l3 (z_c1_i l4)
            by_cases q4 : i < gs.length
            · obtain ⟨ga, gb, g1, g2, g3, g4, g5, g6⟩ := hAR.2.2 i q4
              rw [g1]
              have l104 : ∀ (m2 k2 : Nat) (r3 : zR) (L : Nat → Option Value), gb - ga - k2 = m2 → k2 ≤ gb - ga → LN r3 (ys ++ (seg gv (gs.getD i (0, 0)).1 (gs.getD i (0, 0)).2).take k2) → eqx [18, 46] [168] r r3 → r3.1 46 = nI i → L 0 = some (.ref 165) → L 1 = some (.int (nI j)) → L 2 = some (.int (nI a)) → z_c1 (L 3) → L 4 = some (.int (nI pn)) → L 5 = some (.int (nI (ga + k2))) → Ru (d + 3) mX8_expand 104 L [] (RS S r3) (z_en mX8_expand (exP S r (own kd r n) F)) := by
                intro m2
                have head : ∀ (k2 : Nat) (r3 : zR) (L : Nat → Option Value), k2 ≤ gb - ga → eqx [18, 46] [168] r r3 → r3.1 46 = nI i → L 0 = some (.ref 165) → L 1 = some (.int (nI j)) → L 5 = some (.int (nI (ga + k2))) → (gb - ga ≤ k2 → Ru (d + 3) mX8_expand 156 L [] (RS S r3) (z_en mX8_expand (exP S r (own kd r n) F))) → (k2 < gb - ga → Ru (d + 3) mX8_expand 137 L [] (RS S r3) (z_en mX8_expand (exP S r (own kd r n) F))) → Ru (d + 3) mX8_expand 104 L [] (RS S r3) (z_en mX8_expand (exP S r (own kd r n) F)) := by
                  intro k2 r3 L hk2 hx3 hf3 l0 l1 l5 K1 K2
                  refine r_iload dX8_expand_104 (by first | rfl | assumption) ?_
                  refine r_aload_n dX8_expand_106 (by first | rfl | assumption) ?_
                  refine r8_get dX8_expand_107 zf_X8_63 rfl ?_
                  refine r_iload_n dX8_expand_110 (by first | rfl | assumption) ?_
                  refine r8_aaldI dX8_expand_111 ((by omega)) ?_
                  refine r_ic (2) dX8_expand_112 rfl ?_
                  refine r_aload_n dX8_expand_113 (by first | rfl | assumption) ?_
                  refine r8_get dX8_expand_114 zf_X8_171 rfl ?_
                  refine r_imul dX8_expand_117 ?_
                  rw [hf3, show (2 : Int32) * nI i = nI (2 * i) from pk_mul 2 i]
                  refine r_ic (1) dX8_expand_118 rfl ?_
                  refine r_iadd dX8_expand_119 ?_
                  rw [nI_1]
                  refine r8_iald dX8_expand_120 (hc1) (hc2) (by rw [hc3]; omega) ?_
                  rw [har1 r3 hx3, g2]
                  by_cases q5 : gb - ga ≤ k2
                  · refine r_icmp_ge_t (tgt := 156) dX8_expand_121 (by decide) (nI_le (a := gb) (b := ga + k2) (by omega) (by omega)) ?_
                    exact K1 q5
                  · refine r_icmp_ge_f (tgt := 156) dX8_expand_121 (by decide) (nI_ge (a := ga + k2) (b := gb) (by omega) (by omega)) ?_
                    refine r_aload_n dX8_expand_124 (by first | rfl | assumption) ?_
                    refine r8_get dX8_expand_125 zf_X8_171 rfl ?_
                    refine r_aload_n dX8_expand_128 (by first | rfl | assumption) ?_
                    refine r8_get dX8_expand_129 zf_X8_66 rfl ?_
                    refine r_iload_n dX8_expand_132 (by first | rfl | assumption) ?_
                    refine r8_iald dX8_expand_133 (by decide) (rfl) (by first | assumption | exact (show _ < 65536 by omega) | exact (show _ < 1100 by omega) | exact (show _ < 24 by omega) | exact (show _ < 2100 by omega) | exact (show _ < 6600 by omega) | exact (show _ < 1110 by omega)) ?_
                    rw [hf3, (hx3.2 229 (by decide)).1, hAR.1]
                    refine r_icmp_ge_f (tgt := 156) dX8_expand_134 (by decide) (nI_ge (a := i) (b := gs.length) q4 (by have := hAR.2.1; omega)) ?_
                    exact K2 (by omega)
                induction m2 with
                | zero =>
                  intro k2 r3 L hm2 hk2 hL3 hx3 hf3 l0 l1 l2 l3 l4 l5
                  refine head k2 r3 L hk2 hx3 hf3 l0 l1 l5 (fun _ => ?_) (fun z => by omega)
                  refine l156 r3 L ?_ hx3 l0 l1 l2 l3 l4
                  rw [hWa3]
                  rw [List.take_of_length_le (by omega)] at hL3
                  exact hL3
                | succ m2 ih2 =>
                  intro k2 r3 L hm2 hk2 hL3 hx3 hf3 l0 l1 l2 l3 l4 l5
                  refine head k2 r3 L hk2 hx3 hf3 l0 l1 l5 (fun z => by omega) (fun q5 => ?_)
                  have gk := g6 k2 q5
                  refine r_aload_n dX8_expand_137 (by first | rfl | assumption) ?_
                  refine r_aload_n dX8_expand_138 (by first | rfl | assumption) ?_
                  refine r8_get dX8_expand_139 zf_X8_58 rfl ?_
                  refine r_iload_n dX8_expand_142 (by first | rfl | assumption) ?_
                  refine r8_aaldB dX8_expand_143 ((by omega)) ?_
                  refine r_iload dX8_expand_144 (by first | rfl | assumption) ?_
                  refine r8_bald dX8_expand_146 (hc4) (hc5) (by rw [hc6]; omega) ?_
                  rw [har2 r3 hx3, gk.2]
                  refine r_callV1 dX8_expand_147 zm_X8_202 RS_o rfl (Nat.le_of_ble_eq_true rfl) (Nat.le_of_ble_eq_true rfl) (C_X8_append hL3 gk.1 (by rw [List.length_append, List.length_take]; omega) (sb_sb _)) (fun u S9 hv => ?_)
                  obtain ⟨rfl, r4, rfl, hx4, hL4⟩ := hv
                  have hx4' := hx3.tr (hx4.mono (F2 := [18, 46]) (A2 := [168]) (by decide) (by decide))
                  refine r_inc (nI (ga + k2 + 1)) dX8_expand_150 (by first | rfl | assumption) (by decide) (by first | exact z_c1_i (by first | rfl | assumption) | exact z_c1_r (by first | rfl | assumption) | exact z_c1_n (by first | rfl | assumption) | exact z_c1_c (by first | rfl | assumption) | exact z_c1_0 (by first | rfl | assumption)) (nI_1 _) ?_
                  refine r_goto (tgt := 104) dX8_expand_153 (by decide) ?_
                  refine ih2 (k2 + 1) r4 _ (by omega) (by omega) ?_ hx4' ((hx4.1 46 (by decide)).trans hf3) l0 l1 l2 l3 l4 rfl
                  rw [List.append_assoc] at hL4
                  rw [take_sn (by omega)]
                  exact hL4
              refine l104 (gb - ga) 0 r2 _ (Nat.sub_zero _) (Nat.zero_le _) ?_ hx2' hfd l0 l1' l2 (z_c1_i rfl) rfl rfl
              rw [List.take_zero, List.append_nil]
              exact hL2
            · have e0 : gs.getD i (0, 0) = (0, 0) := by rw [List.getD_eq_getElem?_getD, List.getElem?_eq_none (by omega)]; rfl
              have hL5 : LN r2 (ys ++ (W a).1) := by
                rw [hWa3, e0]
                show LN r2 (ys ++ seg gv 0 0)
                rw [seg_nil (Nat.le_refl _), List.append_nil]
                exact hL2
              refine r_iload dX8_expand_104 (by first | rfl | assumption) ?_
              refine r_aload_n dX8_expand_106 (by first | rfl | assumption) ?_
              refine r8_get dX8_expand_107 zf_X8_63 rfl ?_
              refine r_iload_n dX8_expand_110 (by first | rfl | assumption) ?_
              refine r8_aaldI dX8_expand_111 ((by omega)) ?_
              refine r_ic (2) dX8_expand_112 rfl ?_
              refine r_aload_n dX8_expand_113 (by first | rfl | assumption) ?_
              refine r8_get dX8_expand_114 zf_X8_171 rfl ?_
              refine r_imul dX8_expand_117 ?_
              rw [hfd, show (2 : Int32) * nI i = nI (2 * i) from pk_mul 2 i]
              refine r_ic (1) dX8_expand_118 rfl ?_
              refine r_iadd dX8_expand_119 ?_
              rw [nI_1]
              refine r8_iald dX8_expand_120 (hc1) (hc2) (by rw [hc3]; omega) ?_
              refine r_icmp_ge (tgt := 156) dX8_expand_121 (by decide) (fun c121 => ?_) (fun c121 => ?_)
              · exact l156 r2 _ hL5 hx2' l0 l1 l2 (z_c1_i rfl) rfl
              · refine r_aload_n dX8_expand_124 (by first | rfl | assumption) ?_
                refine r8_get dX8_expand_125 zf_X8_171 rfl ?_
                refine r_aload_n dX8_expand_128 (by first | rfl | assumption) ?_
                refine r8_get dX8_expand_129 zf_X8_66 rfl ?_
                refine r_iload_n dX8_expand_132 (by first | rfl | assumption) ?_
                refine r8_iald dX8_expand_133 (by decide) (rfl) (by first | assumption | exact (show _ < 65536 by omega) | exact (show _ < 1100 by omega) | exact (show _ < 24 by omega) | exact (show _ < 2100 by omega) | exact (show _ < 6600 by omega) | exact (show _ < 1110 by omega)) ?_
                rw [hfd, (hx2'.2 229 (by decide)).1, hAR.1]
                refine r_icmp_ge_t (tgt := 156) dX8_expand_134 (by decide) (nI_le (a := gs.length) (b := i) (by omega) (by omega)) ?_
                exact l156 r2 _ hL5 hx2' l0 l1 l2 (z_c1_i rfl) rfl
        · refine r_icmp_ne_t (tgt := 81) dX8_expand_58 (by decide) (fun z => q1 ((sb_is hax.1 (c := 92) (by decide)).mp z)) ?_
          rw [if_pos q1] at hWa2
          refine r_ic (0) dX8_expand_81 rfl ?_
          refine r_istore dX8_expand_82 (by decide) (by first | exact z_c1_i (by first | rfl | assumption) | exact z_c1_r (by first | rfl | assumption) | exact z_c1_n (by first | rfl | assumption) | exact z_c1_c (by first | rfl | assumption) | exact z_c1_0 (by first | rfl | assumption)) ?_
          refine r_iload dX8_expand_84 (by first | rfl | assumption) ?_
          refine r_if_le_t (tgt := 166) dX8_expand_86 (by decide) (show (0 : Int32) ≤ 0 by decide) ?_
          refine r_iload_n dX8_expand_166 (by first | rfl | assumption) ?_
          refine r_if_lt_f (tgt := 215) dX8_expand_167 (by decide) (fun z => absurd z (Int32.not_lt.mpr (show nI 0 ≤ nI j from nI_le (Nat.zero_le _) (by omega)))) ?_
          refine r_iload_n dX8_expand_170 (by first | rfl | assumption) ?_
          refine r_bp (92) dX8_expand_171 rfl ?_
          refine r_icmp_ne_t (tgt := 215) dX8_expand_173 (by decide) (fun z => q1 ((sb_is hax.1 (c := 92) (by decide)).mp z)) ?_
          exact l215 r1 _ hL hx hWa2 l0 (by rw [hj]; exact l1) l2 rfl (z_c1_i rfl)
  refine Rc.of ?_
  refine r_aload_n dX8_expand_0 (by first | rfl | assumption) ?_
  refine r_ic (0) dX8_expand_1 rfl ?_
  refine r8_put dX8_expand_2 zf_X8_199 (Nat.le_of_ble_eq_true rfl) rfl (⟨rfl, rfl⟩) ?_
  refine r_aload_n dX8_expand_5 (by first | rfl | assumption) ?_
  refine r8_get dX8_expand_6 zf_X8_196 rfl ?_
  refine r_aload_n dX8_expand_9 (by first | rfl | assumption) ?_
  refine r8_get dX8_expand_10 zf_X8_193 rfl ?_
  rw [show (rF r 18 0).1 8 = nI le from h8, show (rF r 18 0).1 7 = nI ls from h7]
  refine r_isub dX8_expand_13 ?_
  rw [nI_sub hl1]
  refine r_sp (1024) dX8_expand_14 rfl ?_
  refine r_icmp_le_t (tgt := 26) dX8_expand_17 (by decide) (nI_le (a := le - ls) (b := 1024) (by omega) (by decide)) ?_
  have hk2 : FK kd (rF r 18 0) n := hk.mv (eqx.f (F := [18]) (A := []) (by decide)) (by decide) (by decide)
  refine r_aload_n dX8_expand_26 (by first | rfl | assumption) ?_
  refine r_callV0 dX8_expand_27 zm_X8_205 RS_o rfl (Nat.le_of_ble_eq_true rfl) (Nat.le_of_ble_eq_true rfl) (C_X8_macroFrame hk2) (fun v S9 hv => ?_)
  obtain ⟨rfl, rfl⟩ := hv
  refine r_istore_n dX8_expand_30 (by decide) (by first | exact z_c1_i (by first | rfl | assumption) | exact z_c1_r (by first | rfl | assumption) | exact z_c1_n (by first | rfl | assumption) | exact z_c1_c (by first | rfl | assumption) | exact z_c1_0 (by first | rfl | assumption)) ?_
  refine r_aload_n dX8_expand_31 (by first | rfl | assumption) ?_
  refine r8_get dX8_expand_32 zf_X8_193 rfl ?_
  refine r_istore_n dX8_expand_35 (by decide) (by first | exact z_c1_i (by first | rfl | assumption) | exact z_c1_r (by first | rfl | assumption) | exact z_c1_n (by first | rfl | assumption) | exact z_c1_c (by first | rfl | assumption) | exact z_c1_0 (by first | rfl | assumption)) ?_
  rw [show (rF r 18 0).1 7 = nI ls from h7]
  refine loop (le - ls) ls [] (rF r 18 0) _ (Nat.le_refl _) hl1 hF (by decide) ⟨rfl, by decide, fun k hk => by cases hk⟩ (eqx.f (by decide)) rfl rfl rfl (z_c1_0 rfl) (z_c1_0 rfl)
end
