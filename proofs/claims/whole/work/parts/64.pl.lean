/-! a macro's heading: its places, as both find them -/
theorem tk_1 {xs : List Nat} {i : Nat} {j : Nat} {ov : Option Int64} (h : tk xs i = some (1, j, ov)) (hi : i < xs.length) (hb : xs.getD i 0 < 256) : j = skN xs i ∧ fNm (nI (xs.getD i 0)) = true := by
  unfold tk at h
  split at h
  · split at h
    · cases h
    · cases h
  · split at h
    · next q =>
      split at h
      · cases h
        rw [ch_in hi] at q
        exact ⟨rfl, q⟩
      · cases h
    · split at h
      · cases hq : chB xs (i + 1) 39 with
        | none => rw [hq] at h; cases h
        | some q =>
          rw [hq] at h
          have h : (if ch xs q.1 = 39 ∧ fNm (ch xs (q.1 + 1)) = false then some ((2 : Int32), q.1 + 1, some q.2.toInt64) else none) = some (1, j, ov) := h
          split at h <;> cases h
      · split at h
        · cases hq : txF xs xs.length (i + 1) with
          | none => rw [hq] at h; cases h
          | some z =>
            rw [hq] at h
            have h : some ((3 : Int32), z, (none : Option Int64)) = some (1, j, ov) := h
            cases h
        · cases hq : sgn xs i (xs.getD i 0) with
          | none => rw [hq] at h; cases h
          | some z =>
            rw [hq] at h
            have h : some (ch xs i, z, (none : Option Int64)) = some (1, j, ov) := h
            have h1 : ch xs i = 1 := congrArg (fun q => (q.getD (0, 0, none)).1) h
            rw [ch_in hi] at h1
            have h3 : xs.getD i 0 = 1 := (nI_eq (b := 1) (by omega) (by decide)).mp h1
            rw [h3] at hq
            cases hq
theorem tk_c44 {xs : List Nat} {i : Nat} {j : Nat} {ov : Option Int64} (h : tk xs i = some (44, j, ov)) (hi : i < xs.length) (hb : xs.getD i 0 < 256) : xs.getD i 0 = 44 := by
  unfold tk at h
  split at h
  · split at h
    · cases h
    · cases h
  · split at h
    · split at h
      · cases h
      · cases h
    · split at h
      · cases hq : chB xs (i + 1) 39 with
        | none => rw [hq] at h; cases h
        | some q =>
          rw [hq] at h
          have h : (if ch xs q.1 = 39 ∧ fNm (ch xs (q.1 + 1)) = false then some ((2 : Int32), q.1 + 1, some q.2.toInt64) else none) = some (44, j, ov) := h
          split at h <;> cases h
      · split at h
        · cases hq : txF xs xs.length (i + 1) with
          | none => rw [hq] at h; cases h
          | some z =>
            rw [hq] at h
            have h : some ((3 : Int32), z, (none : Option Int64)) = some (44, j, ov) := h
            cases h
        · cases hq : sgn xs i (xs.getD i 0) with
          | none => rw [hq] at h; cases h
          | some z =>
            rw [hq] at h
            have h : some (ch xs i, z, (none : Option Int64)) = some (44, j, ov) := h
            have h1 : ch xs i = 44 := congrArg (fun q => (q.getD (0, 0, none)).1) h
            rw [ch_in hi] at h1
            exact (nI_eq (b := 44) (by omega) (by decide)).mp h1
/-- where the tokens end -/
theorem tkF_end {xs : List Nat} (hl : xs.length ≤ 65536) (hb : ∀ k, k < xs.length → xs.getD k 0 < 256) : ∀ (n i : Nat) (ts : List zT), tkF xs n i = some ts → xs.length - i ≤ n → (ts = [] → xs.length ≤ i ∨ ch xs i = 59) ∧ (ts ≠ [] → xs.length ≤ skB xs (tle ts) ∨ ch xs (skB xs (tle ts)) = 59)
  | 0, i, ts, h, hn => by
    have h : some ([] : List zT) = some ts := h
    cases h
    exact ⟨fun _ => Or.inl (by omega), fun z => absurd rfl z⟩
  | n + 1, i, ts, h, hn => by
    rw [tkF_s] at h
    split at h
    · next z =>
      cases h
      exact ⟨fun _ => z, fun z => absurd rfl z⟩
    · next z =>
      cases hq : tk xs i with
      | none => rw [hq] at h; cases h
      | some q =>
        rw [hq] at h
        have hi : i < xs.length := Nat.lt_of_not_le (fun w => z (Or.inl w))
        have hlt := tk_lt (kd := q.1) (j := q.2.1) (ov := q.2.2) hq hi hl (hb i hi)
        have hsk := skB_le (xs := xs) (i := q.2.1) hlt.2
        have h : (match tkF xs n (skB xs q.2.1) with
          | none => none
          | some ts => some ((q.1, i, q.2.1, q.2.2) :: ts)) = some ts := h
        cases hq2 : tkF xs n (skB xs q.2.1) with
        | none => rw [hq2] at h; cases h
        | some t2 =>
          rw [hq2] at h
          cases h
          have ih := tkF_end hl hb n _ t2 hq2 (by omega)
          refine ⟨fun z => (by cases z), fun _ => ?_⟩
          cases t2 with
          | nil => exact ih.1 rfl
          | cons a t2 =>
            have e : tle ((q.1, i, q.2.1, q.2.2) :: a :: t2) = tle (a :: t2) := by
              unfold tle
              rw [List.getLast?_cons_cons]
            rw [e]
            exact ih.2 (fun z => by cases z)
section
variable {xs : List Nat} {ts : List zT}
theorem prs_fu {stop : Nat} : ∀ (m m' k : Nat), stop - k ≤ m → stop - k ≤ m' → prs xs stop m k = prs xs stop m' k
  | 0, m', k, h1, h2 => by rw [prs_end (Or.inl (by omega)), prs_end (Or.inl (by omega))]
  | m + 1, 0, k, h1, h2 => by rw [prs_end (Or.inl (by omega)), prs_end (Or.inl (by omega))]
  | m + 1, m' + 1, k, h1, h2 => by
    show (if stop ≤ k ∨ xs.getD k 0 = 59 then [] else if fNm (nI (xs.getD k 0)) = false then prs xs stop m (k + 1) else (k, nmE xs k stop - k) :: prs xs stop m (nmE xs k stop)) = (if stop ≤ k ∨ xs.getD k 0 = 59 then [] else if fNm (nI (xs.getD k 0)) = false then prs xs stop m' (k + 1) else (k, nmE xs k stop - k) :: prs xs stop m' (nmE xs k stop))
    by_cases q : stop ≤ k ∨ xs.getD k 0 = 59
    · rw [if_pos q, if_pos q]
    · rw [if_neg q, if_neg q]
      have hk : k < stop := Nat.lt_of_not_le (fun z => q (Or.inl z))
      by_cases q2 : fNm (nI (xs.getD k 0)) = false
      · rw [if_pos q2, if_pos q2, prs_fu m m' (k + 1) (by omega) (by omega)]
      · rw [if_neg q2, if_neg q2]
        have := nmE_gt (xs := xs) hk (Bool.not_eq_false _ |>.mp q2)
        rw [prs_fu m m' _ (by omega) (by omega)]
set_option maxRecDepth 100000 in
theorem bl_no : ∀ b, b < 256 → fBl (nI b) = true → fNm (nI b) = false ∧ b ≠ 59 := by decide +kernel
/-- blanks are gone over -/
theorem prs_bl (hb : ∀ k, k < xs.length → xs.getD k 0 < 256) : ∀ (n m k : Nat), xs.length - k = n → xs.length - k ≤ m → k ≤ xs.length → prs xs xs.length m k = prs xs xs.length m (skB xs k)
  | 0, m, k, h1, h2, h3 => by rw [skB_no (Or.inl (by omega))]
  | n + 1, m, k, h1, h2, h3 => by
    by_cases q : fBl (nI (xs.getD k 0)) = true
    · rw [skB_bl (by omega) q, ← prs_bl hb n m (k + 1) (by omega) (by omega) (by omega)]
      have hn := bl_no _ (hb k (by omega)) q
      obtain ⟨m', rfl⟩ : ∃ m', m = m' + 1 := ⟨m - 1, by omega⟩
      show (if xs.length ≤ k ∨ xs.getD k 0 = 59 then [] else if fNm (nI (xs.getD k 0)) = false then prs xs xs.length m' (k + 1) else _) = _
      rw [if_neg (fun z => z.elim (by omega) hn.2), if_pos hn.1]
      exact prs_fu _ _ _ (by omega) (by omega)
    · rw [skB_no (Or.inr (Bool.eq_false_iff.mpr q))]
/-- the places from a token on -/
theorem prs_ts {i0 : Nat} (hl : xs.length ≤ 1024) (hb : ∀ k, k < xs.length → xs.getD k 0 < 256) (hOK : tsOK xs i0 ts) (hend : ts ≠ [] → xs.length ≤ skB xs (tle ts) ∨ ch xs (skB xs (tle ts)) = 59) : ∀ (n i m : Nat), ts.length - i ≤ n → 1 ≤ i → i % 2 = 0 → i ≤ ts.length + 1 → hdL ts (ts.length - i) i = true → (i < ts.length → ts.length % 2 = 1) → i - 1 < ts.length → xs.length - (ts.getD (i - 1) t0).2.2.1 ≤ m → prs xs xs.length m (ts.getD (i - 1) t0).2.2.1 = mpL ts 0 n i := by
  intro n
  have hfin : ∀ (j m : Nat), j + 1 = ts.length → xs.length - (ts.getD j t0).2.2.1 ≤ m → prs xs xs.length m (ts.getD j t0).2.2.1 = [] := by
    intro j m hj hm
    have he := en_le hOK hl hb 0 j (by omega)
    have hle : tle ts = (ts.getD j t0).2.2.1 := by rw [tle_get (by omega), show ts.length - 1 = j by omega]
    have h1 := hend (fun z => by rw [z] at hj; cases hj)
    rw [hle] at h1
    rw [prs_bl hb _ m _ rfl hm he.2.1]
    refine prs_end ?_
    rcases h1 with z | z
    · exact Or.inl z
    · rcases Nat.lt_or_ge (skB xs (ts.getD j t0).2.2.1) xs.length with w | w
      · rw [ch_in w] at z
        exact Or.inr ((nI_eq (b := 59) (by have := hb _ w; omega) (by decide)).mp z)
      · exact Or.inl w
  induction n with
  | zero =>
    intro i m hn h1 h2 h3 hd hodd hi hm
    have e : mpL ts 0 0 i = [] := rfl
    rw [e]
    exact hfin (i - 1) m (by omega) hm
  | succ n ih =>
    intro i m hn h1 h2 h3 hd hodd hi hm
    rw [mpL_s]
    by_cases q : i < ts.length
    · rw [if_pos q, Nat.zero_add]
      have he1 := en_le hOK hl hb 0 (i - 1) (by omega)
      have he := en_le hOK hl hb 0 i q
      have hg := tsOK_get ts i0 i hOK q
      have hg1 := (tsOK_get ts i0 (i - 1) hOK hi).2.2.1 (by omega)
      rw [show i - 1 + 1 = i by omega] at hg1
      obtain ⟨p, hp⟩ : ∃ p, ts.length - i = p + 1 := ⟨ts.length - i - 1, by omega⟩
      rw [hp, hdL_s, if_pos h2] at hd
      simp only [Bool.and_eq_true, decide_eq_true_eq] at hd
      rw [hd.1] at hg
      have h1' := tk_1 hg.1 hg.2.1 (hb _ hg.2.1)
      have hnm : nmE xs (ts.getD i t0).2.1 xs.length = (ts.getD i t0).2.2.1 := h1'.1.symm
      have hne : xs.getD (ts.getD i t0).2.1 0 ≠ 59 := fun z => by rw [z] at h1'; cases h1'.2
      rw [prs_bl hb _ m _ rfl hm he1.2.1, ← hg1]
      have hskm : xs.length - (ts.getD i t0).2.1 ≤ m := by
        have := skB_le (xs := xs) (i := (ts.getD (i - 1) t0).2.2.1) he1.2.1
        omega
      obtain ⟨m', rfl⟩ : ∃ m', m = m' + 1 := ⟨m - 1, by omega⟩
      show (if xs.length ≤ (ts.getD i t0).2.1 ∨ xs.getD (ts.getD i t0).2.1 0 = 59 then [] else if fNm (nI (xs.getD (ts.getD i t0).2.1 0)) = false then _ else ((ts.getD i t0).2.1, nmE xs (ts.getD i t0).2.1 xs.length - (ts.getD i t0).2.1) :: prs xs xs.length m' (nmE xs (ts.getD i t0).2.1 xs.length)) = _
      rw [if_neg (fun z => z.elim (by omega) hne), if_neg (by rw [h1'.2]; exact Bool.noConfusion), hnm]
      congr 1
      by_cases q2 : i + 1 < ts.length
      · obtain ⟨p', rfl⟩ : ∃ p', p = p' + 1 := ⟨p - 1, by omega⟩
        have hd2 := hd.2
        rw [hdL_s, if_neg (by omega)] at hd2
        simp only [Bool.and_eq_true, decide_eq_true_eq] at hd2
        have hg2 := tsOK_get ts i0 (i + 1) hOK q2
        have hgs := hg.2.2.1 q2
        rw [hd2.1] at hg2
        have e44 := tk_44 hg2.1 hg2.2.1 (hb _ hg2.2.1)
        have c44 := tk_c44 hg2.1 hg2.2.1 (hb _ hg2.2.1)
        have he2 := en_le hOK hl hb 0 (i + 1) q2
        have hsk2 := skB_le (xs := xs) (i := (ts.getD i t0).2.2.1) he.2.1
        rw [prs_bl hb _ m' _ rfl (by omega) he.2.1, ← hgs]
        obtain ⟨m2, rfl⟩ : ∃ m2, m' = m2 + 1 := ⟨m' - 1, by omega⟩
        show (if xs.length ≤ (ts.getD (i + 1) t0).2.1 ∨ xs.getD (ts.getD (i + 1) t0).2.1 0 = 59 then [] else if fNm (nI (xs.getD (ts.getD (i + 1) t0).2.1 0)) = false then prs xs xs.length m2 ((ts.getD (i + 1) t0).2.1 + 1) else _) = _
        rw [if_neg (fun z => z.elim (by omega) (fun w => by rw [c44] at w; cases w)), if_pos (by rw [c44]; rfl), ← e44]
        have := ih (i + 2) m2 (by omega) (by omega) (by omega) (by omega) (by rw [show ts.length - (i + 2) = p' by omega]; exact hd2.2) (fun _ => hodd q) (by omega) (by show xs.length - (ts.getD (i + 1) t0).2.2.1 ≤ m2; omega)
        exact this
      · rw [hfin i m' (by omega) (by omega)]
        cases n with
        | zero => rfl
        | succ n => rw [mpL_s, if_neg (by omega)]
    · rw [if_neg q]
      exact hfin (i - 1) m (by omega) hm
theorem mpL_off {off : Nat} : ∀ (n i : Nat), mpL ts off n i = (mpL ts 0 n i).map fun q => (off + q.1, q.2)
  | 0, _ => rfl
  | n + 1, i => by
    rw [mpL_s, mpL_s]
    split
    · rw [mpL_off n (i + 2), List.map_cons, Nat.zero_add]
    · rfl
/-- the same in the source -/
theorem prs_off {src : List Nat} {ls le : Nat} (he : le ≤ src.length) (hxs : xs = seg src ls le) (hls : ls ≤ le) : ∀ (m k : Nat), k ≤ xs.length → prs src le m (ls + k) = (prs xs xs.length m k).map fun q => (ls + q.1, q.2)
  | 0, k, _ => rfl
  | m + 1, k, hk => by
    have hlen : xs.length = le - ls := by rw [hxs, seg_len he]
    have hg : ∀ j, j < xs.length → xs.getD j 0 = src.getD (ls + j) 0 := fun j hj => by rw [hxs, seg_getD (by omega)]
    have hnm : nmE src (ls + k) le = ls + nmE xs k xs.length := by
      unfold nmE
      rw [show le - (ls + k) = xs.length - k by omega]
      have : ∀ (n k : Nat), k + n ≤ xs.length → skp (fun j => fNm (nI (src.getD j 0))) n (ls + k) = ls + skp (fun j => fNm (nI (xs.getD j 0))) n k := by
        intro n
        induction n with
        | zero => intro k _; rfl
        | succ n ih =>
          intro k hk
          show (if fNm (nI (src.getD (ls + k) 0)) = true then skp _ n (ls + k + 1) else ls + k) = ls + (if fNm (nI (xs.getD k 0)) = true then skp _ n (k + 1) else k)
          rw [hg k (by omega)]
          split
          · exact ih (k + 1) (by omega)
          · rfl
      exact this _ k (by omega)
    show (if le ≤ ls + k ∨ src.getD (ls + k) 0 = 59 then [] else if fNm (nI (src.getD (ls + k) 0)) = false then prs src le m (ls + k + 1) else (ls + k, nmE src (ls + k) le - (ls + k)) :: prs src le m (nmE src (ls + k) le)) = (if xs.length ≤ k ∨ xs.getD k 0 = 59 then [] else if fNm (nI (xs.getD k 0)) = false then prs xs xs.length m (k + 1) else (k, nmE xs k xs.length - k) :: prs xs xs.length m (nmE xs k xs.length)).map fun q => (ls + q.1, q.2)
    by_cases q0 : xs.length ≤ k
    · rw [if_pos (Or.inl (by omega)), if_pos (Or.inl q0)]
      rfl
    · rw [← hg k (by omega)]
      by_cases q1 : xs.getD k 0 = 59
      · rw [if_pos (Or.inr q1), if_pos (Or.inr q1)]
        rfl
      · rw [if_neg (show ¬ (le ≤ ls + k ∨ xs.getD k 0 = 59) from fun z => z.elim (by omega) q1), if_neg (show ¬ (xs.length ≤ k ∨ xs.getD k 0 = 59) from fun z => z.elim q0 q1)]
        by_cases q2 : fNm (nI (xs.getD k 0)) = false
        · rw [if_pos q2, if_pos q2]
          exact prs_off he hxs hls m (k + 1) (by omega)
        · rw [if_neg q2, if_neg q2, hnm, List.map_cons]
          have := nmE_gt (xs := xs) (k := k) (e := xs.length) (by omega) (Bool.not_eq_false _ |>.mp q2)
          rw [prs_off he hxs hls m _ this.2, show ls + nmE xs k xs.length - (ls + k) = nmE xs k xs.length - k by omega]
theorem hd_PL {src : List Nat} {ls : Nat} (hsl : src.length ≤ 512) (hls : ls ≤ src.length) (hxs : xs = seg src ls (eol src ls)) (hb : ∀ k, k < xs.length → xs.getD k 0 < 256) (hts : tks xs = some ts) (hh : hdg ts = true) : PL src (ls + (ts.getD 1 t0).2.2.1) (mPl ts ls) ∧ 2 ≤ ts.length ∧ ls + (ts.getD 1 t0).2.2.1 ≤ eol src ls ∧ (ts.getD 1 t0).2.1 < (ts.getD 1 t0).2.2.1 := by
  have hee := eol_le hls
  have hlen : xs.length = eol src ls - ls := by rw [hxs, seg_len hee.2]
  have h2 := hdg_2 hh
  have hOK := tkF_OK _ _ _ hts
  have hend := (tkF_end (by omega) hb _ _ _ hts (by have := skB_le (xs := xs) (i := 0) (Nat.zero_le _); omega)).2
  have hg := tsOK_get ts _ 1 hOK (by omega)
  have he := en_le hOK (by omega) hb 0 1 (by omega)
  unfold hdg at hh
  simp only [Bool.and_eq_true, decide_eq_true_eq, Bool.not_eq_true'] at hh
  have hodd : 2 < ts.length → ts.length % 2 = 1 := by
    intro z
    have := hh.1.2
    rw [decide_eq_true z, Bool.true_and] at this
    have := of_decide_eq_false this
    omega
  have hp := prs_ts (by omega) hb hOK hend ts.length 2 (xs.length - (ts.getD 1 t0).2.2.1) (by omega) (by decide) (by decide) (by omega) hh.2 hodd (by omega) (Nat.le_refl _)
  have hp : prs xs xs.length (xs.length - (ts.getD 1 t0).2.2.1) (ts.getD 1 t0).2.2.1 = mpL ts 0 ts.length 2 := hp
  rw [hh.1.1] at hg
  have h1' := tk_1 hg.1 hg.2.1 (hb _ hg.2.1)
  have heol : eol src (ls + (ts.getD 1 t0).2.2.1) = eol src ls := by
    have hst := skp_stop (p := fun j => decide (src.getD j 0 ≠ 10)) (src.length - ls) ls
    refine skp_is _ _ (by omega) (by omega) (fun j a b => hst.1 j (by omega) b) ?_
    rcases hst.2 with z | z
    · exact Or.inl (by show eol src ls = _; unfold eol; omega)
    · exact Or.inr z
  refine ⟨⟨by omega, by rw [heol]; omega, by omega, ?_, fun z => ?_⟩, h2, by omega, he.1⟩
  · rw [heol, show eol src ls - (ls + (ts.getD 1 t0).2.2.1) = xs.length - (ts.getD 1 t0).2.2.1 by omega, prs_off hee.2 hxs hee.1 _ _ he.2.1, hp]
    exact (mpL_off _ _).symm
  · rw [heol] at z
    have hst := (skp_stop (p := fun j => fNm (nI (xs.getD j 0))) (xs.length - (ts.getD 1 t0).2.1) (ts.getD 1 t0).2.1).2
    rcases hst with w | w
    · exfalso
      have h9 : skN xs (ts.getD 1 t0).2.1 = (ts.getD 1 t0).2.1 + (xs.length - (ts.getD 1 t0).2.1) := w
      rw [← h1'.1] at h9
      omega
    · have w : fNm (nI (xs.getD (skN xs (ts.getD 1 t0).2.1) 0)) = false := w
      rw [← h1'.1, hxs, seg_getD (by omega)] at w
      exact w
end
