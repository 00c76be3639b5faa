/-! words, and their numbers -/
def pkN (l : List Nat) : Nat := l.foldl (fun v b => v * 256 + b) 0
set_option maxRecDepth 100000 in
theorem b64 : ∀ b, b < 128 → (nI b).toInt64.toBitVec = BitVec.ofNat 64 b := by decide +kernel
theorem or_add {n b : Nat} (hb : b < 256) : (BitVec.ofNat 64 n <<< 8#64) ||| BitVec.ofNat 64 b = BitVec.ofNat 64 (n * 256 + b) := by
  apply BitVec.eq_of_toNat_eq
  have e : (BitVec.ofNat 64 n <<< 8#64).toNat = (n % 2 ^ 56) <<< 8 := by
    show (BitVec.ofNat 64 n <<< 8).toNat = _
    rw [BitVec.toNat_shiftLeft, BitVec.toNat_ofNat, Nat.shiftLeft_eq, Nat.shiftLeft_eq]
    omega
  rw [BitVec.toNat_or, e, BitVec.toNat_ofNat, BitVec.toNat_ofNat, Nat.mod_eq_of_lt (show b < 2 ^ 64 by omega), ← Nat.shiftLeft_add_eq_or_of_lt (show b < 2 ^ 8 from hb), Nat.shiftLeft_eq]
  omega
theorem pkS_n {n b : Nat} (hb : b < 128) : pkS (Int64.ofNat n) b = Int64.ofNat (n * 256 + b) := by
  unfold pkS
  rw [sb_low b hb]
  apply Int64.toBitVec_inj.mp
  rw [Int64.toBitVec_or, Int64.toBitVec_shiftLeft, show ((8 : Int32).toInt64 &&& 63).toBitVec.smod 64 = 8#64 by decide, b64 b hb]
  exact or_add (by omega)
theorem pkI_n {l : List Nat} (h : ∀ b ∈ l, b < 128) : pkI l = Int64.ofNat (pkN l) := by
  have : ∀ (l : List Nat) (n : Nat), (∀ b ∈ l, b < 128) → l.foldl pkS (Int64.ofNat n) = Int64.ofNat (l.foldl (fun v b => v * 256 + b) n) := by
    intro l
    induction l with
    | nil => intro n _; rfl
    | cons a l ih =>
      intro n h
      show l.foldl pkS (pkS (Int64.ofNat n) a) = _
      rw [pkS_n (h a List.mem_cons_self), ih _ (fun b hb => h b (List.mem_cons_of_mem _ hb))]
      rfl
  exact this l 0 h
theorem pkN_snoc {l : List Nat} {b : Nat} : pkN (l ++ [b]) = pkN l * 256 + b := by
  unfold pkN
  rw [List.foldl_append]
  rfl
theorem pkN_lt {l : List Nat} : ∀ (n : Nat), l.length ≤ n → (∀ b ∈ l, b < 128) → pkN l < 256 ^ n := by
  intro n
  induction n generalizing l with
  | zero =>
    intro h _
    rw [List.length_eq_zero_iff.mp (Nat.le_zero.mp h)]
    exact Nat.lt_succ_self _
  | succ n ih =>
    intro h hb
    rcases List.eq_nil_or_concat l with rfl | ⟨m, b, rfl⟩
    · exact Nat.pow_pos (by decide)
    · rw [List.concat_eq_append] at h hb ⊢
      rw [pkN_snoc]
      have h1 := ih (l := m) (by rw [List.length_append] at h; have : m.length + 1 ≤ n + 1 := h; omega) (fun x hx => hb x (List.mem_append.mpr (Or.inl hx)))
      have h2 := hb b (List.mem_append.mpr (Or.inr (List.mem_singleton.mpr rfl)))
      rw [Nat.pow_succ]
      omega
theorem pkN_inj : ∀ (n : Nat) (l m : List Nat), l.length ≤ n → (∀ b ∈ l, 0 < b ∧ b < 128) → (∀ b ∈ m, 0 < b ∧ b < 128) → pkN l = pkN m → l = m := by
  intro n
  induction n with
  | zero =>
    intro l m h _ hm he
    rw [List.length_eq_zero_iff.mp (Nat.le_zero.mp h)] at he ⊢
    rcases List.eq_nil_or_concat m with rfl | ⟨m, b, rfl⟩
    · rfl
    · rw [List.concat_eq_append] at he hm
      rw [pkN_snoc] at he
      have h2 := hm b (List.mem_append.mpr (Or.inr (List.mem_singleton.mpr rfl)))
      have he : 0 = pkN m * 256 + b := he
      omega
  | succ n ih =>
    intro l m h hl hm he
    rcases List.eq_nil_or_concat l with rfl | ⟨l, a, rfl⟩
    · rcases List.eq_nil_or_concat m with rfl | ⟨m, b, rfl⟩
      · rfl
      · rw [List.concat_eq_append] at he hm
        rw [pkN_snoc] at he
        have h2 := hm b (List.mem_append.mpr (Or.inr (List.mem_singleton.mpr rfl)))
        have he : 0 = pkN m * 256 + b := he
        omega
    · rw [List.concat_eq_append] at he hl h ⊢
      rw [pkN_snoc] at he
      have h1 := hl a (List.mem_append.mpr (Or.inr (List.mem_singleton.mpr rfl)))
      rcases List.eq_nil_or_concat m with rfl | ⟨m, b, rfl⟩
      · have he : pkN l * 256 + a = 0 := he
        omega
      · rw [List.concat_eq_append] at he hm ⊢
        rw [pkN_snoc] at he
        have h2 := hm b (List.mem_append.mpr (Or.inr (List.mem_singleton.mpr rfl)))
        rw [ih l m (by rw [List.length_append] at h; have : l.length + 1 ≤ n + 1 := h; omega) (fun x hx => hl x (List.mem_append.mpr (Or.inl hx))) (fun x hx => hm x (List.mem_append.mpr (Or.inl hx))) (by omega), show a = b by omega]
theorem pk_is {l m : List Nat} (hl : l.length ≤ 8) (hm : m.length ≤ 7) (h1 : ∀ b ∈ l, 0 < b ∧ b < 128) (h2 : ∀ b ∈ m, 0 < b ∧ b < 128) : pkI l = Int64.ofNat (pkN m) ↔ l = m := by
  constructor
  · intro h
    rw [pkI_n (fun b hb => (h1 b hb).2)] at h
    have h3 := pkN_lt 8 hl (fun b hb => (h1 b hb).2)
    have h4 := pkN_lt 8 (Nat.le_trans hm (by decide)) (fun b hb => (h2 b hb).2)
    have h5 : (Int64.ofNat (pkN l)).toBitVec.toNat = (Int64.ofNat (pkN m)).toBitVec.toNat := by rw [h]
    have h5 : (BitVec.ofNat 64 (pkN l)).toNat = (BitVec.ofNat 64 (pkN m)).toNat := h5
    rw [BitVec.toNat_ofNat, BitVec.toNat_ofNat, Nat.mod_eq_of_lt (show pkN l < 2 ^ 64 from h3), Nat.mod_eq_of_lt (show pkN m < 2 ^ 64 from h4)] at h5
    exact pkN_inj _ l m (Nat.le_refl _) h1 h2 h5
  · rintro rfl
    exact pkI_n (fun b hb => (h1 b hb).2)
/-- a word's number as the reference has it -/
def wI (w : Nat) : Int32 := if w = 0 then -1 else nI w
set_option maxRecDepth 100000 in
theorem fNm_b : ∀ b, b < 256 → fNm (nI b) = true → 0 < b ∧ b < 128 := by decide +kernel
theorem wd_pk {l : List Nat} (hn : ∀ b ∈ l, b < 256 ∧ fNm (nI b) = true) : (if pkV l = 26982 then 1 else if pkV l = 1701606245 then 2 else if pkV l = 435643771238 then 3 else if pkV l = 1919250548 then 4 else if pkV l = 1701733490 then 5 else if pkV l = 469785342575 then 6 else if pkV l = 1701733485 then 7 else -1) = wI (wd l) := by
  have h1 : ∀ b ∈ l, 0 < b ∧ b < 128 := fun b hb => fNm_b b (hn b hb).1 (hn b hb).2
  have hne : ∀ w, w < 7 → (8 < l.length ∨ fDg (nI (l.getD 0 0)) = true) → l ≠ z_sb w := by
    intro w hw hq e
    have : ∀ w, w < 7 → ¬ (8 < (z_sb w).length ∨ fDg (nI ((z_sb w).getD 0 0)) = true) := by decide
    exact this w hw (e ▸ hq)
  by_cases q : 8 < l.length ∨ fDg (nI (l.getD 0 0)) = true
  · have hv : pkV l = 0 ∨ pkV l = -1 := by
      unfold pkV
      by_cases q1 : fDg (nI (l.getD 0 0)) = true
      · rw [if_pos q1]; exact Or.inl rfl
      · rw [if_neg q1, if_pos (q.resolve_right q1)]; exact Or.inr rfl
    have hw : wd l = 0 := by
      unfold wd
      simp [wdF, hne 0 (by decide) q, hne 1 (by decide) q, hne 2 (by decide) q, hne 3 (by decide) q, hne 4 (by decide) q, hne 5 (by decide) q, hne 6 (by decide) q]
    rw [hw]
    rcases hv with hv | hv <;> rw [hv] <;> rfl
  · have q1 : l.length ≤ 8 := Nat.le_of_not_lt (fun z => q (Or.inl z))
    have q2 : ¬ fDg (nI (l.getD 0 0)) = true := fun z => q (Or.inr z)
    have hv : pkV l = pkI l := by unfold pkV; rw [if_neg q2, if_neg (by omega)]
    have key : ∀ w (K : Int64), w < 7 → K = Int64.ofNat (pkN (z_sb w)) → (pkV l = K ↔ l = z_sb w) := by
      intro w K hw hK
      rw [hv, hK]
      have h7 : ∀ w, w < 7 → (z_sb w).length ≤ 7 ∧ ∀ b ∈ z_sb w, 0 < b ∧ b < 128 := by decide
      exact pk_is q1 (h7 w hw).1 h1 (h7 w hw).2
    have k0 := key 0 26982 (by decide) (by decide)
    have k1 := key 1 1701606245 (by decide) (by decide)
    have k2 := key 2 435643771238 (by decide) (by decide)
    have k3 := key 3 1919250548 (by decide) (by decide)
    have k4 := key 4 1701733490 (by decide) (by decide)
    have k5 := key 5 469785342575 (by decide) (by decide)
    have k6 := key 6 1701733485 (by decide) (by decide)
    have e : wd l = if l = z_sb 0 then 1 else if l = z_sb 1 then 2 else if l = z_sb 2 then 3 else if l = z_sb 3 then 4 else if l = z_sb 4 then 5 else if l = z_sb 5 then 6 else if l = z_sb 6 then 7 else 0 := rfl
    rw [e]
    by_cases c0 : l = z_sb 0
    · rw [if_pos (k0.mpr c0), if_pos c0]; rfl
    rw [if_neg (fun z => c0 (k0.mp z)), if_neg c0]
    by_cases c1 : l = z_sb 1
    · rw [if_pos (k1.mpr c1), if_pos c1]; rfl
    rw [if_neg (fun z => c1 (k1.mp z)), if_neg c1]
    by_cases c2 : l = z_sb 2
    · rw [if_pos (k2.mpr c2), if_pos c2]; rfl
    rw [if_neg (fun z => c2 (k2.mp z)), if_neg c2]
    by_cases c3 : l = z_sb 3
    · rw [if_pos (k3.mpr c3), if_pos c3]; rfl
    rw [if_neg (fun z => c3 (k3.mp z)), if_neg c3]
    by_cases c4 : l = z_sb 4
    · rw [if_pos (k4.mpr c4), if_pos c4]; rfl
    rw [if_neg (fun z => c4 (k4.mp z)), if_neg c4]
    by_cases c5 : l = z_sb 5
    · rw [if_pos (k5.mpr c5), if_pos c5]; rfl
    rw [if_neg (fun z => c5 (k5.mp z)), if_neg c5]
    by_cases c6 : l = z_sb 6
    · rw [if_pos (k6.mpr c6), if_pos c6]; rfl
    rw [if_neg (fun z => c6 (k6.mp z)), if_neg c6]
    rfl
theorem C_X8_word {d : Nat} {S : zS} {l : List Nat} (hn : ∀ b ∈ l, b < 256 ∧ fNm (nI b) = true) : Rc d mX8_wordOf [.long (pkV l)] S (fun u S1 => S1 = S ∧ u = some (.int (wI (wd l)))) := by
  rw [← wd_pk hn]
  exact C_X8_wordOf
