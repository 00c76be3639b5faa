/-! THE REFERENCE: what is given for a macro's places -/
def tsOK (xs : List Nat) : Nat → List zT → Prop
  | _, [] => True
  | i, q :: l => q.2.1 = i ∧ tk xs i = some (q.1, q.2.2.1, q.2.2.2) ∧ i < xs.length ∧ tsOK xs (skB xs q.2.2.1) l
theorem tkF_OK {xs : List Nat} : ∀ (n i : Nat) (ts : List zT), tkF xs n i = some ts → tsOK xs i ts
  | 0, i, ts, h => by
    have h : some ([] : List zT) = some ts := h
    cases h
    trivial
  | n + 1, i, ts, h => by
    rw [tkF_s] at h
    split at h
    · cases h
      trivial
    · next z =>
      cases hq : tk xs i with
      | none => rw [hq] at h; cases h
      | some q =>
        rw [hq] at h
        have h : (match tkF xs n (skB xs q.2.1) with
          | none => none
          | some ts => some ((q.1, i, q.2.1, q.2.2) :: ts)) = some ts := h
        cases hq2 : tkF xs n (skB xs q.2.1) with
        | none => rw [hq2] at h; cases h
        | some t2 =>
          rw [hq2] at h
          cases h
          exact ⟨rfl, hq, Nat.lt_of_not_le (fun w => z (Or.inl w)), tkF_OK n _ t2 hq2⟩
theorem tsOK_get {xs : List Nat} : ∀ (ts : List zT) (i j : Nat), tsOK xs i ts → j < ts.length → tk xs (ts.getD j t0).2.1 = some ((ts.getD j t0).1, (ts.getD j t0).2.2.1, (ts.getD j t0).2.2.2) ∧ (ts.getD j t0).2.1 < xs.length ∧ (j + 1 < ts.length → (ts.getD (j + 1) t0).2.1 = skB xs (ts.getD j t0).2.2.1) ∧ (j = 0 → (ts.getD j t0).2.1 = i)
  | [], i, j, h, hj => by cases hj
  | q :: l, i, 0, h, hj => by
    obtain ⟨h1, h2, h3, h4⟩ := h
    refine ⟨by show tk xs q.2.1 = some (q.1, q.2.2.1, q.2.2.2); rw [h1]; exact h2, by show q.2.1 < _; omega, fun z => ?_, fun _ => h1⟩
    cases l with
    | nil => exact absurd z (Nat.lt_irrefl _)
    | cons a l => exact h4.1
  | q :: l, i, j + 1, h, hj => by
    have ih := tsOK_get l _ j h.2.2.2 (Nat.lt_of_succ_lt_succ hj)
    exact ⟨ih.1, ih.2.1, fun z => ih.2.2.1 (Nat.lt_of_succ_lt_succ z), fun z => absurd z (Nat.succ_ne_zero _)⟩
/-- where a token begins; behind the last one: what stands there -/
def stT (xs : List Nat) (ts : List zT) (j : Nat) : Nat := if j < ts.length then (ts.getD j t0).2.1 else skB xs (tle ts)
theorem tle_get {ts : List zT} (h : 0 < ts.length) : tle ts = (ts.getD (ts.length - 1) t0).2.2.1 := by
  unfold tle
  rw [List.getLast?_eq_getElem?, getD_some (d0 := t0) (by omega)]
theorem stT_s {xs : List Nat} {ts : List zT} {i j : Nat} (h : tsOK xs i ts) (hj : j < ts.length) : stT xs ts (j + 1) = skB xs (ts.getD j t0).2.2.1 := by
  unfold stT
  by_cases q : j + 1 < ts.length
  · rw [if_pos q]
    exact (tsOK_get ts i j h hj).2.2.1 q
  · rw [if_neg q, tle_get (by omega), show ts.length - 1 = j by omega]
set_option maxRecDepth 100000 in
theorem nbl : ∀ b, b < 256 → fBl (nI b) = true → fDg (nI b) = false ∧ fNm (nI b) = false ∧ ¬ nI b = 39 ∧ ¬ nI b = 34 ∧ ¬ b ∈ sgL ∧ ¬ (b = 60 ∨ b = 62) := by decide +kernel
theorem tk_nb {xs : List Nat} {k : Nat} {q : Int32 × Nat × Option Int64} (hk : k < xs.length) (hb : xs.getD k 0 < 256) (h : tk xs k = some q) : fBl (nI (xs.getD k 0)) = false := by
  cases z : fBl (nI (xs.getD k 0)) with
  | false => rfl
  | true =>
    exfalso
    obtain ⟨h1, h2, h3, h4, h5, h6⟩ := nbl _ hb z
    unfold tk sgn at h
    rw [ch_in hk, if_neg (by rw [h1]; exact Bool.false_ne_true), if_neg (by rw [h2]; exact Bool.false_ne_true), if_neg h3, if_neg h4, if_neg h5, if_neg h6] at h
    cases h
set_option maxRecDepth 100000 in
theorem nm_nb : ∀ b, b < 256 → fNm (nI b) = true → fBl (nI b) = false := by decide +kernel
theorem sg_nb : ∀ b ∈ sgL, fBl (nI b) = false := by decide
set_option maxRecDepth 100000 in
theorem bl_99 : ∀ b, b < 256 → fBl (nI b) = true → fHx (nI b) = 99 := by decide +kernel
theorem nuL_last {xs : List Nat} {bs : Int32} : ∀ (n k : Nat) (v : Int64) (f : Bool), k < (nuL xs bs n k v f).1 → ¬ dgt bs (ch xs ((nuL xs bs n k v f).1 - 1)) < 0
  | 0, k, v, f, h => absurd h (Nat.lt_irrefl _)
  | n + 1, k, v, f, h => by
    rw [nuL_s] at h ⊢
    split at h
    · exact absurd h (Nat.lt_irrefl _)
    · next q =>
      rw [if_neg q]
      have hle := nuL_le (xs := xs) (bs := bs) n (k + 1) (v * bs.toInt64 + (dgt bs (ch xs k)).toInt64) (f && hrm bs v (dgt bs (ch xs k)))
      by_cases e : k + 1 < (nuL xs bs n (k + 1) (v * bs.toInt64 + (dgt bs (ch xs k)).toInt64) (f && hrm bs v (dgt bs (ch xs k)))).1
      · exact nuL_last n (k + 1) _ _ e
      · rw [show (nuL xs bs n (k + 1) (v * bs.toInt64 + (dgt bs (ch xs k)).toInt64) (f && hrm bs v (dgt bs (ch xs k)))).1 - 1 = k by omega]
        exact q
theorem txF_last {xs : List Nat} : ∀ (n k j : Nat), txF xs n k = some j → 0 < j ∧ ch xs (j - 1) = 34
  | 0, k, j, h => by cases h
  | n + 1, k, j, h => by
    rw [txF_s] at h
    split at h
    · next q =>
      cases h
      exact ⟨Nat.succ_pos _, q⟩
    · cases hc : chB xs k 34 with
      | none => rw [hc] at h; cases h
      | some z =>
        rw [hc] at h
        exact txF_last n z.1 j h
/-- a token's last byte is no blank -/
theorem tk_end {xs : List Nat} {i : Nat} {kd : Int32} {j : Nat} {ov : Option Int64} (h : tk xs i = some (kd, j, ov)) (hi : i < xs.length) (hl : xs.length ≤ 65536) (hb : ∀ k, k < xs.length → xs.getD k 0 < 256) : fBl (nI (xs.getD (j - 1) 0)) = false := by
  have hlt := tk_lt h hi hl (hb i hi)
  have hbj := hb (j - 1) (by omega)
  have ecj := ch_in (xs := xs) (k := j - 1) (by omega)
  unfold tk at h
  split at h
  · split at h
    · next q1 q2 =>
      cases h
      have h2 : fsN xs i < (num xs i).1 := by
        unfold numOk at q2
        simp only [Bool.and_eq_true, decide_eq_true_eq] at q2
        exact q2.2.1
      have h3 := nuL_last (xs := xs) (bs := bsN xs i) (xs.length - fsN xs i) (fsN xs i) 0 true h2
      have h3 : ¬ dgt (bsN xs i) (ch xs ((num xs i).1 - 1)) < 0 := h3
      rw [ecj] at h3
      cases z : fBl (nI (xs.getD ((num xs i).1 - 1) 0)) with
      | false => rfl
      | true =>
        exfalso
        apply h3
        have h4 := bl_99 _ hbj z
        unfold dgt
        rw [h4]
        rcases bsN_3 xs i with e | e | e <;> rw [e] <;> decide
    · cases h
  · split at h
    · next q1 q2 =>
      split at h
      · cases h
        have := (skp_stop (p := fun j => fNm (nI (xs.getD j 0))) (xs.length - i) i).1 (skN xs i - 1) (by omega) (by show skN xs i - 1 < skN xs i; omega)
        exact nm_nb _ hbj this
      · cases h
    · split at h
      · cases hq : chB xs (i + 1) 39 with
        | none => rw [hq] at h; cases h
        | some q =>
          rw [hq] at h
          have h : (if ch xs q.1 = 39 ∧ fNm (ch xs (q.1 + 1)) = false then some ((2 : Int32), q.1 + 1, some q.2.toInt64) else none) = some (kd, j, ov) := h
          split at h
          · next q2 =>
            cases h
            have e : ch xs (q.1 + 1 - 1) = 39 := q2.1
            rw [ecj] at e
            rw [e]
            rfl
          · cases h
      · split at h
        · cases hq : txF xs xs.length (i + 1) with
          | none => rw [hq] at h; cases h
          | some z =>
            rw [hq] at h
            have h : some ((3 : Int32), z, (none : Option Int64)) = some (kd, j, ov) := h
            cases h
            have e := (txF_last _ _ _ hq).2
            rw [ecj] at e
            rw [e]
            rfl
        · cases hq : sgn xs i (xs.getD i 0) with
          | none => rw [hq] at h; cases h
          | some z =>
            rw [hq] at h
            have h : some (ch xs i, z, (none : Option Int64)) = some (kd, j, ov) := h
            cases h
            unfold sgn at hq
            split at hq
            · next q =>
              cases hq
              exact sg_nb _ q
            · split at hq
              · next q =>
                split at hq
                · next q2 =>
                  cases hq
                  have e : ch xs (i + 2 - 1) = nI (xs.getD i 0) := q2
                  rw [ecj] at e
                  rw [e]
                  rcases q with q | q <;> rw [q] <;> rfl
                · cases hq
              · cases hq
theorem tk_44 {xs : List Nat} {i : Nat} {j : Nat} {ov : Option Int64} (h : tk xs i = some (44, j, ov)) (hi : i < xs.length) (hb : xs.getD i 0 < 256) : j = i + 1 := by
  unfold tk at h
  split at h
  · split at h
    · cases h
    · cases h
  · split at h
    · split at h
      · cases h
      · cases h
    · split at h
      · cases hq : chB xs (i + 1) 39 with
        | none => rw [hq] at h; cases h
        | some q =>
          rw [hq] at h
          have h : (if ch xs q.1 = 39 ∧ fNm (ch xs (q.1 + 1)) = false then some ((2 : Int32), q.1 + 1, some q.2.toInt64) else none) = some (44, j, ov) := h
          split at h <;> cases h
      · split at h
        · cases hq : txF xs xs.length (i + 1) with
          | none => rw [hq] at h; cases h
          | some z =>
            rw [hq] at h
            have h : some ((3 : Int32), z, (none : Option Int64)) = some (44, j, ov) := h
            cases h
        · cases hq : sgn xs i (xs.getD i 0) with
          | none => rw [hq] at h; cases h
          | some z =>
            rw [hq] at h
            have h : some (ch xs i, z, (none : Option Int64)) = some (44, j, ov) := h
            have h1 : ch xs i = 44 := congrArg (fun q => (q.getD (0, 0, none)).1) h
            have h2 : z = j := congrArg (fun q => (q.getD (0, 0, none)).2.1) h
            rw [ch_in hi] at h1
            have h3 : xs.getD i 0 = 44 := (nI_eq (b := 44) (by omega) (by decide)).mp h1
            rw [h3] at hq
            unfold sgn at hq
            rw [if_pos (by decide)] at hq
            cases hq
            exact h2.symm
