/-! THE READER: what holds between its steps -/
def lmN (c : zD) (g : zG) (n : Nat) : Nat := match inL (kdG g) n with
  | none => cnt c
  | some j => (g.2.2.1 j).2.1.2.1
def ouL (kd : Nat → Int32) : Nat → Option Nat
  | 0 => none
  | n + 1 => match ouL kd n with
    | some j => some j
    | none => if hasL (kd n) = true then some n else none
/-- where the source's own lines go on -/
def spN (g : zG) : Nat := match ouL (kdG g) g.2.1 with
  | none => g.1.1
  | some j => (g.2.2.1 j).2.1.2.2.1
def ptOk (c : zD) (g : zG) (j : Nat) : Prop := hasL (kdG g j) = true → (g.2.2.1 j).2.1.1 ≤ (g.2.2.1 j).2.1.2.1 ∧ (g.2.2.1 j).2.1.2.1 ≤ cnt c ∧ (g.2.2.1 j).2.1.2.2.1 ≤ lmN c g j ∧ (kdG g j = 4 → (g.2.2.1 j).2.1.1 < (g.2.2.1 j).2.1.2.1) ∧ (g.2.2.1 j).2.1.2.2.2 = g.1.2.2.2.1
def WF (c : zD) (g : zG) : Prop := g.1.1 ≤ lim7 c g ∧ (∀ j, j < g.2.1 → ptOk c g j) ∧ pOk c g ∧ (∀ q ∈ g.2.2.2.1, q.2.1.2.2.1 ≤ q.2.1.2.2.2 ∧ q.2.1.2.2.2 ≤ cnt c ∧ q.2.2.1.length ≤ 255) ∧ (g.1.2.2.1 ≤ g.1.2.1 ∧ g.1.2.1 ≤ 65536) ∧ 2 * g.2.2.2.1.length ≤ spN g ∧ g.1.2.2.2.2 = 0 ∧ c.2.1.length ≤ 512
theorem inL_cg {k1 k2 : Nat → Int32} : ∀ n, (∀ j, j < n → k1 j = k2 j) → inL k1 n = inL k2 n
  | 0, _ => rfl
  | n + 1, h => by
    show (if hasL (k1 n) = true then some n else inL k1 n) = (if hasL (k2 n) = true then some n else inL k2 n)
    rw [h n (Nat.lt_succ_self _), inL_cg n (fun j hj => h j (Nat.lt_succ_of_lt hj))]
theorem ouL_cg {k1 k2 : Nat → Int32} : ∀ n, (∀ j, j < n → k1 j = k2 j) → ouL k1 n = ouL k2 n
  | 0, _ => rfl
  | n + 1, h => by
    unfold ouL
    rw [h n (Nat.lt_succ_self _), ouL_cg n (fun j hj => h j (Nat.lt_succ_of_lt hj))]
theorem inL_none {kd : Nat → Int32} : ∀ n, inL kd n = none → ∀ j, j < n → hasL (kd j) = false
  | 0, _, j, hj => by omega
  | n + 1, h, j, hj => by
    have h : (if hasL (kd n) = true then some n else inL kd n) = none := h
    split at h
    · cases h
    · next q =>
      rcases Nat.lt_or_ge j n with z | z
      · exact inL_none n h j z
      · rw [show j = n by omega]
        exact Bool.eq_false_iff.mpr q
theorem ouL_of {kd : Nat → Int32} : ∀ n, (∀ j, j < n → hasL (kd j) = false) → ouL kd n = none
  | 0, _ => rfl
  | n + 1, h => by
    unfold ouL
    rw [ouL_of n (fun j hj => h j (Nat.lt_succ_of_lt hj)), h n (Nat.lt_succ_self _)]
    rfl
theorem ouL_some {kd : Nat → Int32} : ∀ n j, ouL kd n = some j → j < n ∧ hasL (kd j) = true
  | 0, _, h => by cases h
  | n + 1, j, h => by
    unfold ouL at h
    cases hq : ouL kd n with
    | some i =>
      rw [hq] at h
      cases h
      have := ouL_some n _ hq
      exact ⟨by omega, this.2⟩
    | none =>
      rw [hq] at h
      have h : (if hasL (kd n) = true then some n else none) = some j := h
      split at h
      · next z => cases h; exact ⟨Nat.lt_succ_self _, z⟩
      · cases h
theorem ouL_none {kd : Nat → Int32} {n : Nat} (h : inL kd n = none) : ouL kd n = none := ouL_of n (inL_none n h)
theorem ouL_s {kd : Nat → Int32} {n : Nat} : ouL kd (n + 1) = match ouL kd n with
    | some j => some j
    | none => if hasL (kd n) = true then some n else none := rfl
theorem inL_s {kd : Nat → Int32} {n : Nat} : inL kd (n + 1) = if hasL (kd n) = true then some n else inL kd n := rfl
/-- the parts below n are the same, but for their turns -/
def ag (g g' : zG) (n : Nat) : Prop := ∀ j, j < n → (g'.2.2.1 j).1 = (g.2.2.1 j).1 ∧ (g'.2.2.1 j).2.1 = (g.2.2.1 j).2.1 ∧ (g'.2.2.1 j).2.2.2 = (g.2.2.1 j).2.2.2
section
variable {c : zD} {g g' : zG} {n : Nat}
theorem ag.lm (h : ag g g' n) {m : Nat} (hm : m ≤ n) : lmN c g' m = lmN c g m := by
  unfold lmN
  rw [inL_cg (k1 := kdG g') (k2 := kdG g) m (fun j hj => (h j (by omega)).1)]
  cases hq : inL (kdG g) m with
  | none => rfl
  | some j =>
    have := inL_lt _ _ hq
    show (g'.2.2.1 j).2.1.2.1 = (g.2.2.1 j).2.1.2.1
    rw [(h j (by omega)).2.1]
theorem ag.pt (h : ag g g' n) (ht : g'.1.2.2.2.1 = g.1.2.2.2.1) {j : Nat} (hj : j < n) (k : ptOk c g j) : ptOk c g' j := by
  have e1 : kdG g' j = kdG g j := (h j hj).1
  have e2 := (h j hj).2.1
  intro q
  rw [e1] at q
  have := k q
  rw [e1, e2, h.lm (Nat.le_of_lt hj), ht]
  exact this
theorem lm_cnt (hp : ∀ j, j < n → ptOk c g j) : lmN c g n ≤ cnt c := by
  unfold lmN
  cases hq : inL (kdG g) n with
  | none => exact Nat.le_refl _
  | some j =>
    have := inL_lt _ _ hq
    exact (hp j this.1 this.2).2.1
theorem WF.lim (h : WF c g) : lim7 c g ≤ cnt c := lm_cnt h.2.1
theorem WF.sp (h : WF c g) : spN g ≤ cnt c := by
  unfold spN
  cases hq : ouL (kdG g) g.2.1 with
  | none => exact Nat.le_trans h.1 h.lim
  | some j =>
    have := ouL_some _ _ hq
    exact Nat.le_trans (h.2.1 j this.1 this.2).2.2.1 (lm_cnt (fun i hi => h.2.1 i (by omega)))
/-- parts end, or none begins -/
theorem WF.of (h : WF c g) (hn : n ≤ g.2.1) (ha : ag g g' n) (hs : g'.2.1 = n) (ht : g'.1.2.2.2.1 = g.1.2.2.2.1) (hm : g'.2.2.2.1 = g.2.2.2.1) (hp : g'.1.1 ≤ lmN c g n) (hq : spN g ≤ spN g') (hl : g'.1.2.2.1 ≤ g'.1.2.1 ∧ g'.1.2.1 ≤ 65536) (hf : g'.1.2.2.2.2 = 0) : WF c g' := by
  obtain ⟨h1, h2, h3, h4, h5, h6, h7, h8⟩ := h
  refine ⟨?_, fun j hj => ha.pt ht (by omega) (h2 j (by omega)), ⟨by rw [hm]; exact h3.1, fun j hj hk => ?_⟩, by rw [hm]; exact h4, hl, by rw [hm]; omega, hf, h8⟩
  · show g'.1.1 ≤ lmN c g' g'.2.1
    rw [hs, ha.lm (Nat.le_refl _)]
    exact hp
  · obtain ⟨a1, a2, a3⟩ := ha j (by omega)
    rw [a1] at hk
    have := h3.2 j (by omega) hk
    rw [hm, a3]
    exact this
/-- a part begins -/
theorem WF.on (h : WF c g) (ha : ag g g' g.2.1) (hs : g'.2.1 = g.2.1 + 1) (ht : g'.1.2.2.2.1 = g.1.2.2.2.1) (hm : g'.2.2.2.1 = g.2.2.2.1) (hp : g'.1.1 ≤ lim7 c g') (hk : ptOk c g' g.2.1) (hk2 : (g'.2.2.1 g.2.1).1 = 6 → (∃ q, (g'.2.2.1 g.2.1).2.2.2.2.1 = some q ∧ q ∈ g.2.2.2.1) ∧ (g'.2.2.1 g.2.1).2.2.2.1 < 2 ^ 30 ∧ ∀ z ∈ (g'.2.2.1 g.2.1).2.2.2.2.2.2, z.1 ≤ 65536 ∧ z.2 ≤ (g'.2.2.1 g.2.1).2.2.2.2.2.1.length) (hq : spN g ≤ spN g') (hl : g'.1.2.2.1 ≤ g'.1.2.1 ∧ g'.1.2.1 ≤ 65536) (hf : g'.1.2.2.2.2 = 0) : WF c g' := by
  obtain ⟨h1, h2, h3, h4, h5, h6, h7, h8⟩ := h
  refine ⟨hp, fun j hj => ?_, ⟨by rw [hm]; exact h3.1, fun j hj hk' => ?_⟩, by rw [hm]; exact h4, hl, by rw [hm]; omega, hf, h8⟩
  · rcases Nat.lt_or_ge j g.2.1 with z | z
    · exact ha.pt ht z (h2 j z)
    · rw [show j = g.2.1 by omega]
      exact hk
  · rcases Nat.lt_or_ge j g.2.1 with z | z
    · obtain ⟨a1, a2, a3⟩ := ha j z
      rw [a1] at hk'
      have := h3.2 j z hk'
      rw [hm, a3]
      exact this
    · rw [show j = g.2.1 by omega] at hk' ⊢
      rw [hm]
      exact hk2 hk'
theorem ag.rf (hp : g'.2.2.1 = g.2.2.1) : ag g g' n := fun j _ => by rw [hp]; exact ⟨rfl, rfl, rfl⟩
theorem ag.up {j : Nat} {q : zPt} (hp : g'.2.2.1 = va_up g.2.2.1 j q) (hj : n ≤ j) : ag g g' n := fun i hi => by rw [hp, va_up_ne _ _ (by omega)]; exact ⟨rfl, rfl, rfl⟩
theorem ag.ou (h : ag g g' n) {m : Nat} (hm : m ≤ n) : ouL (kdG g') m = ouL (kdG g) m := ouL_cg m (fun j hj => (h j (by omega)).1)
theorem WF.pos {p : Nat} (h : WF c g) (h1 : g.1.1 ≤ p) (h2 : p ≤ lim7 c g) : WF c (gPos g p) := by
  refine h.of (n := g.2.1) (Nat.le_refl _) (ag.rf rfl) rfl rfl rfl h2 ?_ h.2.2.2.2.1 h.2.2.2.2.2.2.1
  unfold spN
  show _ ≤ match ouL (kdG g) g.2.1 with
    | none => p
    | some j => (g.2.2.1 j).2.1.2.2.1
  cases ouL (kdG g) g.2.1 with
  | none => exact h1
  | some j => exact Nat.le_refl _
theorem WF.op {k : Int32} (h : WF c g) (hk : hasL k = false) : WF c (gOp g k) := by
  have ha : ag g (gOp g k) g.2.1 := ag.up rfl (Nat.le_refl _)
  have hkd : kdG (gOp g k) g.2.1 = k := by
    show (va_up g.2.2.1 g.2.1 (k, (g.2.2.1 g.2.1).2) g.2.1).1 = k
    rw [va_up_self]
  refine h.on ha rfl rfl rfl ?_ (fun q => ?_) (fun q => ?_) ?_ h.2.2.2.2.1 h.2.2.2.2.2.2.1
  · show g.1.1 ≤ lmN c (gOp g k) (g.2.1 + 1)
    have e : lmN c (gOp g k) (g.2.1 + 1) = lmN c (gOp g k) g.2.1 := by
      unfold lmN
      rw [inL_s, hkd, if_neg (by rw [hk]; exact Bool.false_ne_true)]
    rw [e, ha.lm (Nat.le_refl _)]
    exact h.1
  · rw [hkd, hk] at q
    cases q
  · have q : kdG (gOp g k) g.2.1 = 6 := q
    rw [hkd] at q
    rw [q] at hk
    cases hk
  · unfold spN
    show _ ≤ match ouL (kdG (gOp g k)) (g.2.1 + 1) with
      | none => g.1.1
      | some j => ((gOp g k).2.2.1 j).2.1.2.2.1
    rw [ouL_s, ha.ou (Nat.le_refl _)]
    cases hq : ouL (kdG g) g.2.1 with
    | none =>
      show _ ≤ match (if hasL (kdG (gOp g k) g.2.1) = true then some g.2.1 else none) with
        | none => g.1.1
        | some j => ((gOp g k).2.2.1 j).2.1.2.2.1
      rw [hkd, hk]
      exact Nat.le_refl _
    | some j =>
      have := ouL_some _ _ hq
      show _ ≤ ((gOp g k).2.2.1 j).2.1.2.2.1
      rw [(ha j this.1).2.1]
      exact Nat.le_refl _
theorem WF.cl (h : WF c g) (hk : hasL (kdA (kdG g) g.2.1) = false) (h0 : 0 < g.2.1) : WF c (gCl g) := by
  obtain ⟨k, e⟩ : ∃ k, g.2.1 = k + 1 := ⟨g.2.1 - 1, by omega⟩
  have hk : hasL (kdG g k) = false := by rw [e] at hk; exact hk
  have e2 : (gCl g).2.1 = k := by show g.2.1 - 1 = k; omega
  refine h.of (n := k) (by omega) (ag.rf rfl) e2 rfl rfl ?_ ?_ h.2.2.2.2.1 h.2.2.2.2.2.2.1
  · have := h.1
    have this : g.1.1 ≤ lmN c g g.2.1 := this
    rw [e] at this
    unfold lmN at this
    rw [inL_s, if_neg (by rw [hk]; exact Bool.false_ne_true)] at this
    exact this
  · unfold spN
    rw [e2, e, ouL_s, (ag.rf rfl : ag g (gCl g) k).ou (Nat.le_refl _)]
    cases hq : ouL (kdG g) k with
    | none =>
      show (match (if hasL (kdG g k) = true then some k else none) with
        | none => g.1.1
        | some j => (g.2.2.1 j).2.1.2.2.1) ≤ g.1.1
      rw [hk]
      exact Nat.le_refl _
    | some j => exact Nat.le_refl _
/-- lines begin -/
theorem WF.ln {q : zPt} {p m : Nat} (h : WF c g) (hk : hasL q.1 = true) (hm : g.1.2.2.1 ≤ m ∧ m ≤ g.1.2.1) (h1 : q.2.1.1 ≤ q.2.1.2.1 ∧ q.2.1.2.1 ≤ cnt c) (hb : g.1.1 ≤ q.2.1.2.2.1 ∧ q.2.1.2.2.1 ≤ lim7 c g) (h4 : q.1 = 4 → q.2.1.1 < q.2.1.2.1) (ht : q.2.1.2.2.2 = g.1.2.2.2.1) (hp : p ≤ q.2.1.2.1) (hk2 : q.1 = 6 → (∃ z, q.2.2.2.2.1 = some z ∧ z ∈ g.2.2.2.1) ∧ q.2.2.2.1 < 2 ^ 30 ∧ ∀ z ∈ q.2.2.2.2.2.2, z.1 ≤ 65536 ∧ z.2 ≤ q.2.2.2.2.2.1.length) : WF c ((p, g.1.2.1, m, g.1.2.2.2), g.2.1 + 1, va_up g.2.2.1 g.2.1 q, g.2.2.2) := by
  have ha : ag g ((p, g.1.2.1, m, g.1.2.2.2), g.2.1 + 1, va_up g.2.2.1 g.2.1 q, g.2.2.2) g.2.1 := ag.up rfl (Nat.le_refl _)
  have hs : va_up g.2.2.1 g.2.1 q g.2.1 = q := va_up_self _ _ _
  have hkd : kdG ((p, g.1.2.1, m, g.1.2.2.2), g.2.1 + 1, va_up g.2.2.1 g.2.1 q, g.2.2.2) g.2.1 = q.1 := congrArg (fun z : zPt => z.1) hs
  refine h.on ha rfl rfl rfl ?_ (fun z => ?_) (fun z => ?_) ?_ ⟨hm.2, h.2.2.2.2.1.2⟩ h.2.2.2.2.2.2.1
  · show p ≤ lmN c ((p, g.1.2.1, m, g.1.2.2.2), g.2.1 + 1, va_up g.2.2.1 g.2.1 q, g.2.2.2) (g.2.1 + 1)
    unfold lmN
    rw [inL_s, hkd, if_pos hk]
    show p ≤ (va_up g.2.2.1 g.2.1 q g.2.1).2.1.2.1
    rw [hs]
    exact hp
  · rw [hkd, ha.lm (Nat.le_refl _)]
    show (va_up g.2.2.1 g.2.1 q g.2.1).2.1.1 ≤ (va_up g.2.2.1 g.2.1 q g.2.1).2.1.2.1 ∧ (va_up g.2.2.1 g.2.1 q g.2.1).2.1.2.1 ≤ cnt c ∧ (va_up g.2.2.1 g.2.1 q g.2.1).2.1.2.2.1 ≤ _ ∧ (_ → (va_up g.2.2.1 g.2.1 q g.2.1).2.1.1 < (va_up g.2.2.1 g.2.1 q g.2.1).2.1.2.1) ∧ (va_up g.2.2.1 g.2.1 q g.2.1).2.1.2.2.2 = _
    rw [hs]
    exact ⟨h1.1, h1.2, hb.2, h4, ht⟩
  · have z : (va_up g.2.2.1 g.2.1 q g.2.1).1 = 6 := z
    rw [hs] at z
    show (∃ z, (va_up g.2.2.1 g.2.1 q g.2.1).2.2.2.2.1 = some z ∧ _) ∧ (va_up g.2.2.1 g.2.1 q g.2.1).2.2.2.1 < _ ∧ ∀ z ∈ (va_up g.2.2.1 g.2.1 q g.2.1).2.2.2.2.2.2, z.1 ≤ 65536 ∧ z.2 ≤ (va_up g.2.2.1 g.2.1 q g.2.1).2.2.2.2.2.1.length
    rw [hs]
    exact hk2 z
  · unfold spN
    show _ ≤ match ouL (kdG ((p, g.1.2.1, m, g.1.2.2.2), g.2.1 + 1, va_up g.2.2.1 g.2.1 q, g.2.2.2)) (g.2.1 + 1) with
      | none => p
      | some j => (va_up g.2.2.1 g.2.1 q j).2.1.2.2.1
    rw [ouL_s, ha.ou (Nat.le_refl _)]
    cases hq : ouL (kdG g) g.2.1 with
    | none =>
      show g.1.1 ≤ match (if hasL (kdG ((p, g.1.2.1, m, g.1.2.2.2), g.2.1 + 1, va_up g.2.2.1 g.2.1 q, g.2.2.2) g.2.1) = true then some g.2.1 else none) with
        | none => p
        | some j => (va_up g.2.2.1 g.2.1 q j).2.1.2.2.1
      rw [hkd, if_pos hk]
      show g.1.1 ≤ (va_up g.2.2.1 g.2.1 q g.2.1).2.1.2.2.1
      rw [hs]
      exact hb.1
    | some j =>
      have := ouL_some _ _ hq
      show _ ≤ (va_up g.2.2.1 g.2.1 q j).2.1.2.2.1
      rw [va_up_ne _ _ (by omega)]
      exact Nat.le_refl _
end
