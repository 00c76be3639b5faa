/-! THE CLASS AS A WHOLE: the cells have the numbers that the constructor gives them: 1 the reader, 2 its source (3, 5, 7 the lines' rows; 9 and 163 the two rows of bytes, exchanged), 11 the line that is read, 13 its tokens (14, 16, 18), 20 the nest (21 its array; 22 + 7 j the parts, each with 23 + 7 j, 25 + 7 j, 27 + 7 j), 162 the list of macros; from 165 on N cells that are not the class's, and hold Z -/
abbrev zMa : Type := Nat × (Nat × Nat × Nat × Nat) × List (Nat × Nat) × Nat × Nat
def mV (r : Option zMa) : Value := match r with
  | some q => .ref q.1
  | none => .null
abbrev zPt : Type := Int32 × (Nat × Nat × Nat × Nat) × Int32 × Nat × Option zMa × List Nat × List (Nat × Nat)
/-- (position, linesRead, macrosRead, toldLine, faultKind), how many parts are open, the parts, the macros, the line that is read -/
abbrev zG : Type := (Nat × Nat × Nat × Nat × Nat) × Nat × (Nat → zPt) × List zMa × List Nat
/-- which row is the source's and which the text's, the source, the text, the tokens, the tokens' numbers, (reading, plain), the list's row -/
abbrev zD : Type := (Nat × Nat) × List Nat × List Nat × List zT × (Int32 × Int64 × Int64) × (Bool × Bool) × (Int32 × Value × Nat)
def ptN (j : Nat) : Nat := 22 + 7 * j
def pcl (q : zPt) (j : Nat) : zC := .inr (5, pF q.1 (nI q.2.1.1) (nI q.2.1.2.1) (nI q.2.1.2.2.1) (nI q.2.1.2.2.2) q.2.2.1 (nI q.2.2.2.1) (mV q.2.2.2.2.1) (23 + 7 * j) (25 + 7 * j) (27 + 7 * j))
def mcl (q : zMa) : zC := .inr (3, [.int (nI q.2.1.1), .int (nI q.2.1.2.1), .int (nI q.2.1.2.2.1), .int (nI q.2.1.2.2.2), .ref q.2.2.2.1, .ref q.2.2.2.2])
def xcl (c : zD) (g : zG) : zC := .inr (8, [.ref 2, .ref 11, .ref 13, .ref 20, .ref 162, .ref c.1.2, .int (nI g.1.1), .int (nI g.1.2.1), .int (nI g.1.2.2.1), .int (nI g.1.2.2.2.1), .int (nI g.1.2.2.2.2), .int (bI c.2.2.2.2.2.1.1), .int (bI c.2.2.2.2.2.1.2)])
def XR (S : zS) (c : zD) (g : zG) : Prop := S.2.2 1 = xcl c g ∧ S.2.2 2 = .inr (6, [.ref 3, .ref 5, .ref 7, .ref c.1.1]) ∧ S.2.2 13 = .inr (7, tF 11 14 16 18 c.2.2.2.2.1.1 c.2.2.2.2.1.2.1 c.2.2.2.2.1.2.2) ∧ isN S 20 21 g.2.1 ptN ∧ (∀ j, j < 20 → S.2.2 (ptN j) = pcl (g.2.2.1 j) j) ∧ isA S 162 c.2.2.2.2.2.2.1 c.2.2.2.2.2.2.2.1 c.2.2.2.2.2.2.2.2 (g.2.2.2.1.map fun q => q.1) ∧ ∀ q ∈ g.2.2.2.1, S.2.2 q.1 = mcl q ∧ q.1 < S.1 ∧ 165 ≤ q.1
def XE (E : zE) (c : zD) (g : zG) : Prop := ((c.1.1 = 9 ∧ c.1.2 = 163) ∨ (c.1.1 = 163 ∧ c.1.2 = 9)) ∧ E.1 c.1.1 = some (65536, c.2.1) ∧ E.1 c.1.2 = some (65536, c.2.2.1) ∧ E.1 11 = some (1024, g.2.2.2.2) ∧
  E.2.1 3 = some (65536, (lnz c.2.1).map fun q => nI q.1) ∧ E.2.1 5 = some (65536, (lnz c.2.1).map fun q => nI q.2) ∧ E.2.1 7 = some (65536, (lnz c.2.1).map fun q => nI (lw c.2.1 q.1)) ∧
  (E.2.1 14 = some (1025, c.2.2.2.1.map fun q => q.1) ∧ E.2.1 16 = some (1025, c.2.2.2.1.map fun q => nI q.2.1) ∧ E.2.1 18 = some (1025, c.2.2.2.1.map fun q => nI q.2.2.1)) ∧
  (∀ j, j < 20 → E.1 (23 + 7 * j) = some (1024, (g.2.2.1 j).2.2.2.2.2.1) ∧ E.2.1 (25 + 7 * j) = some (1025, (g.2.2.1 j).2.2.2.2.2.2.map fun q => nI q.1) ∧ E.2.1 (27 + 7 * j) = some (1025, (g.2.2.1 j).2.2.2.2.2.2.map fun q => nI q.2)) ∧
  ∀ q ∈ g.2.2.2.1, (∃ b, E.2.1 q.2.2.2.1 = some (b, q.2.2.1.map fun z => nI z.1)) ∧ (∃ b, E.2.1 q.2.2.2.2 = some (b, q.2.2.1.map fun z => nI z.2)) ∧ 165 ≤ q.2.2.2.1 ∧ 165 ≤ q.2.2.2.2
def XZ (S : zS) (E : zE) (Z : Nat → zC) (N : Nat) (c : zD) (g : zG) : Prop := 165 + N ≤ S.1 ∧ (∀ x : Nat, c.2.2.2.2.2.2.2.1 = .ref x → 165 ≤ x) ∧ ∀ j, 165 ≤ j → j < 165 + N → S.2.2 j = Z j ∧ ¬ inV E j ∧ c.2.2.2.2.2.2.2.1 ≠ .ref j ∧ ∀ q ∈ g.2.2.2.1, q.1 ≠ j
def XI (S : zS) (E : zE) (lB lI : List Nat) (B C : Nat) (Z : Nat → zC) (N : Nat) (c : zD) (g : zG) : Prop := Vw S E lB lI B C ∧ XR S c g ∧ XE E c g ∧ XZ S E Z N c g
section
variable {S S1 : zS} {E E1 : zE} {lB lI : List Nat} {B C N : Nat} {Z : Nat → zC} {c : zD} {g : zG}
theorem XI.x0 (h : XI S E lB lI B C Z N c g) : S.2.2 1 = .inr (8, [.ref 2, .ref 11, .ref 13, .ref 20, .ref 162, .ref c.1.2, .int (nI g.1.1), .int (nI g.1.2.1), .int (nI g.1.2.2.1), .int (nI g.1.2.2.2.1), .int (nI g.1.2.2.2.2), .int (bI c.2.2.2.2.2.1.1), .int (bI c.2.2.2.2.2.1.2)]) := h.2.1.1
theorem XI.s0 (h : XI S E lB lI B C Z N c g) : isS S 2 3 5 7 c.1.1 := h.2.1.2.1
theorem XI.t0 (h : XI S E lB lI B C Z N c g) : S.2.2 13 = .inr (7, tF 11 14 16 18 c.2.2.2.2.1.1 c.2.2.2.2.1.2.1 c.2.2.2.2.1.2.2) := h.2.1.2.2.1
theorem XI.n0 (h : XI S E lB lI B C Z N c g) : isN S 20 21 g.2.1 ptN := h.2.1.2.2.2.1
theorem XI.p0 (h : XI S E lB lI B C Z N c g) : ∀ j, j < 20 → S.2.2 (ptN j) = pcl (g.2.2.1 j) j := h.2.1.2.2.2.2.1
theorem XI.a0 (h : XI S E lB lI B C Z N c g) : isA S 162 c.2.2.2.2.2.2.1 c.2.2.2.2.2.2.2.1 c.2.2.2.2.2.2.2.2 (g.2.2.2.1.map fun q => q.1) := h.2.1.2.2.2.2.2.1
theorem XI.m0 (h : XI S E lB lI B C Z N c g) : ∀ q ∈ g.2.2.2.1, S.2.2 q.1 = mcl q ∧ q.1 < S.1 ∧ 165 ≤ q.1 := h.2.1.2.2.2.2.2.2
theorem XI.l0 (h : XI S E lB lI B C Z N c g) : 165 ≤ S.1 := Nat.le_trans (Nat.le_add_right _ _) h.2.2.2.1
theorem XI.kd (h : XI S E lB lI B C Z N c g) : ∀ j, j < 20 → ∃ fs, S.2.2 (ptN j) = .inr (5, .int (g.2.2.1 j).1 :: fs) := fun j hj => ⟨_, h.p0 j hj⟩
/-- what the cells hold that a change leaves: all but those of X -/
theorem XI.keep {X : List Nat} (h : XI S E lB lI B C Z N c g) (hP : vP S E lB lI B C X S1 E1) {x ci : Nat} {fs : List Value} (hx : S.2.2 x = .inr (ci, fs)) (h1 : ci ≠ 1) (h2 : ci ≠ 2) (hl : x < S.1) (hX : x ∉ X) : S1.2.2 x = .inr (ci, fs) := hP.raw h.1 hx h1 h2 hl hX
/-- arrays of objects are not the view's -/
theorem XI.keepA {X : List Nat} (hV : Vw S E lB lI B C) (hP : vP S E lB lI B C X S1 E1) {x : Nat} {ty : FieldType} {a : vp_A} (hx : S.2.2 x = .inl (ty, a)) (h1 : ty ≠ .byte) (h2 : ty ≠ .int) (hl : x < S.1) (hX : x ∉ X) : S1.2.2 x = .inl (ty, a) := (hP.2.2.2.1 x hl (hV.rawA hx h1 h2) hX).trans hx
theorem isN.keep {X : List Nat} {n pa sz : Nat} {pt : Nat → Nat} (hV : Vw S E lB lI B C) (hP : vP S E lB lI B C X S1 E1) (h : isN S n pa sz pt) (l1 : n < S.1) (l2 : pa < S.1) (h1 : n ∉ X) (h2 : pa ∉ X) : isN S1 n pa sz pt := by
  obtain ⟨k1, ⟨gg, k2, k3⟩, k4⟩ := h
  exact ⟨hP.raw hV k1 (by decide) (by decide) l1 h1, ⟨gg, XI.keepA hV hP k2 (by simp) (by simp) l2 h2, k3⟩, k4⟩
theorem isA.keep {X : List Nat} {al cap : Nat} {mc : Int32} {ev : Value} {ms : List Nat} (hV : Vw S E lB lI B C) (hP : vP S E lB lI B C X S1 E1) (h : isA S al mc ev cap ms) (l1 : al < S.1) (h1 : al ∉ X) (h2 : ∀ x ∈ X, ev ≠ .ref x) : isA S1 al mc ev cap ms := by
  obtain ⟨k1, k2, k3, k4⟩ := h
  refine ⟨hP.raw hV k1 (by decide) (by decide) l1 h1, k2, k3, ?_⟩
  rcases k4 with k4 | ⟨ea, gg, rfl, k5, k6, k7, k8⟩
  · exact Or.inl k4
  · exact Or.inr ⟨ea, gg, rfl, k5, Nat.lt_of_lt_of_le k6 hP.2.1, XI.keepA hV hP k7 (by simp) (by simp) k6 (fun q => h2 ea q rfl), k8⟩
theorem z_put_self {S : zS} {i : Nat} {c : zC} : (z_put S i c).2.2 i = c := va_up_self _ _ _
theorem z_put_ne {S : zS} {i j : Nat} {c : zC} (h : j ≠ i) : (z_put S i c).2.2 j = S.2.2 j := va_up_ne _ _ h
theorem XZ.mv {X : List Nat} {c1 : zD} {g1 : zG} (h : XZ S E Z N c g) (hP : vP S E lB lI B C X S1 E1) (hX : ∀ x ∈ X, x < 165) (he : c1.2.2.2.2.2.2.2.1 = c.2.2.2.2.2.2.2.1) (hm : g1.2.2.2.1 = g.2.2.2.1) : XZ S1 E1 Z N c1 g1 := by
  obtain ⟨h1, h2, h3⟩ := h
  refine ⟨Nat.le_trans h1 hP.2.1, by rw [he]; exact h2, fun j k1 k2 => ?_⟩
  obtain ⟨q1, q2, q3, q4⟩ := h3 j k1 k2
  refine ⟨(hP.2.2.2.1 j (Nat.lt_of_lt_of_le k2 h1) q2 (fun z => by have := hX j z; omega)).trans q1, fun z => q2 (hP.2.2.2.2 j (Nat.lt_of_lt_of_le k2 h1) z), by rw [he]; exact q3, by rw [hm]; exact q4⟩
theorem ptN_lt {j : Nat} (h : j < 20) : ptN j < 165 ∧ ptN j ≠ 1 ∧ ptN j ≠ 2 ∧ ptN j ≠ 13 ∧ ptN j ≠ 20 ∧ ptN j ≠ 21 ∧ ptN j ≠ 162 := by
  unfold ptN
  omega
theorem ptN_inj {i j : Nat} (h : ptN i = ptN j) : i = j := by
  unfold ptN at h
  omega
/-- what is kept where the cells of X change (each below 165) -/
theorem XI.cl {X : List Nat} (h : XI S E lB lI B C Z N c g) (hP : vP S E lB lI B C X S1 E1) (hX : ∀ x ∈ X, x < 165) : (1 ∉ X → S1.2.2 1 = xcl c g) ∧ (2 ∉ X → S1.2.2 2 = .inr (6, [.ref 3, .ref 5, .ref 7, .ref c.1.1])) ∧ (13 ∉ X → S1.2.2 13 = .inr (7, tF 11 14 16 18 c.2.2.2.2.1.1 c.2.2.2.2.1.2.1 c.2.2.2.2.1.2.2)) ∧ (20 ∉ X → 21 ∉ X → isN S1 20 21 g.2.1 ptN) ∧ (∀ j, j < 20 → ptN j ∉ X → S1.2.2 (ptN j) = pcl (g.2.2.1 j) j) ∧ (162 ∉ X → isA S1 162 c.2.2.2.2.2.2.1 c.2.2.2.2.2.2.2.1 c.2.2.2.2.2.2.2.2 (g.2.2.2.1.map fun q => q.1)) ∧ ∀ q ∈ g.2.2.2.1, S1.2.2 q.1 = mcl q ∧ q.1 < S1.1 ∧ 165 ≤ q.1 := by
  have hl := h.l0
  refine ⟨fun z => hP.raw h.1 h.x0 (by decide) (by decide) (by omega) z, fun z => hP.raw h.1 h.2.1.2.1 (by decide) (by decide) (by omega) z, fun z => hP.raw h.1 h.t0 (by decide) (by decide) (by omega) z, fun z1 z2 => h.n0.keep h.1 hP (by omega) (by omega) z1 z2, fun j hj z => ?_, fun z => h.a0.keep h.1 hP (by omega) z (fun x hx e => ?_), fun q hq => ?_⟩
  · have := ptN_lt hj
    exact hP.raw h.1 (h.p0 j hj) (by decide) (by decide) (by omega) z
  · exact absurd (hX x hx) (Nat.not_lt.mpr (h.2.2.2.2.1 x e))
  · obtain ⟨k1, k2, k3⟩ := h.m0 q hq
    exact ⟨hP.raw h.1 k1 (by decide) (by decide) k2 (fun z => by have := hX _ z; omega), hP.lt k2, k3⟩
/-- the reader's own numbers change -/
theorem XI.x {rp : Bool × Bool} {sc : Nat × Nat × Nat × Nat × Nat} (h : XI S E lB lI B C Z N c g) : XI (z_put S 1 (xcl (c.1, c.2.1, c.2.2.1, c.2.2.2.1, c.2.2.2.2.1, rp, c.2.2.2.2.2.2) (sc, g.2))) E lB lI B C Z N (c.1, c.2.1, c.2.2.1, c.2.2.2.1, c.2.2.2.2.1, rp, c.2.2.2.2.2.2) (sc, g.2) := by
  have hP : vP S E lB lI B C [1] (z_put S 1 (xcl (c.1, c.2.1, c.2.2.1, c.2.2.2.1, c.2.2.2.2.1, rp, c.2.2.2.2.2.2) (sc, g.2))) E := vP.put h.1 (h.1.raw h.x0 (by decide) (by decide)) (List.mem_singleton.mpr rfl)
  have hX : ∀ x ∈ [1], x < 165 := by decide
  obtain ⟨k1, k2, k3, k4, k5, k6, k7⟩ := h.cl hP hX
  exact ⟨hP.1, ⟨z_put_self, k2 (by decide), k3 (by decide), k4 (by decide) (by decide), fun j hj => k5 j hj (fun z => (ptN_lt hj).2.1 (List.mem_singleton.mp z)), k6 (by decide), k7⟩, h.2.2.1, h.2.2.2.mv hP hX rfl rfl⟩
/-- how many parts are open changes -/
theorem XI.n {sz : Nat} (h : XI S E lB lI B C Z N c g) (hs : sz ≤ 20) : XI (z_put S 20 (.inr (4, [.ref 21, .int (nI sz)]))) E lB lI B C Z N c (g.1, sz, g.2.2) := by
  have hP : vP S E lB lI B C [20] (z_put S 20 (.inr (4, [.ref 21, .int (nI sz)]))) E := vP.put h.1 (h.1.raw h.n0.1 (by decide) (by decide)) (List.mem_singleton.mpr rfl)
  have hX : ∀ x ∈ [20], x < 165 := by decide
  obtain ⟨k1, k2, k3, k4, k5, k6, k7⟩ := h.cl hP hX
  obtain ⟨gg, k8, k9⟩ := h.n0.2.1
  exact ⟨hP.1, ⟨k1 (by decide), k2 (by decide), k3 (by decide), ⟨z_put_self, ⟨gg, (z_put_ne (by decide)).trans k8, k9⟩, hs⟩, fun j hj => k5 j hj (fun z => (ptN_lt hj).2.2.2.2.1 (List.mem_singleton.mp z)), k6 (by decide), k7⟩, h.2.2.1, h.2.2.2.mv hP hX rfl rfl⟩
/-- a part's numbers change -/
theorem XI.p {j : Nat} {q : zPt} (h : XI S E lB lI B C Z N c g) (hj : j < 20) (hq : q.2.2.2.2.2 = (g.2.2.1 j).2.2.2.2.2) : XI (z_put S (ptN j) (pcl q j)) E lB lI B C Z N c (g.1, g.2.1, va_up g.2.2.1 j q, g.2.2.2) := by
  have hP : vP S E lB lI B C [ptN j] (z_put S (ptN j) (pcl q j)) E := vP.put h.1 (h.1.raw (h.p0 j hj) (by decide) (by decide)) (List.mem_singleton.mpr rfl)
  have hj9 := ptN_lt hj
  have hX : ∀ x ∈ [ptN j], x < 165 := fun x hx => by rw [List.mem_singleton.mp hx]; exact hj9.1
  have hn : ∀ x, x ≠ ptN j → x ∉ [ptN j] := fun x hx z => hx (List.mem_singleton.mp z)
  obtain ⟨k1, k2, k3, k4, k5, k6, k7⟩ := h.cl hP hX
  refine ⟨hP.1, ⟨k1 (hn _ (by omega)), k2 (hn _ (by omega)), k3 (hn _ (by omega)), k4 (hn _ (by omega)) (hn _ (by omega)), fun i hi => ?_, k6 (hn _ (by omega)), k7⟩, ?_, h.2.2.2.mv hP hX rfl rfl⟩
  · by_cases e : i = j
    · subst e
      rw [show (g.1, g.2.1, va_up g.2.2.1 i q, g.2.2.2).2.2.1 i = q from va_up_self _ _ _]
      exact va_up_self _ _ _
    · rw [show (g.1, g.2.1, va_up g.2.2.1 j q, g.2.2.2).2.2.1 i = g.2.2.1 i from va_up_ne _ _ e]
      exact k5 i hi (hn _ (fun z => e (ptN_inj z)))
  · obtain ⟨e1, e2, e3, e4, e5, e6, e7, e8, e9, e10⟩ := h.2.2.1
    refine ⟨e1, e2, e3, e4, e5, e6, e7, e8, fun i hi => ?_, e10⟩
    by_cases e : i = j
    · subst e
      rw [show (g.1, g.2.1, va_up g.2.2.1 i q, g.2.2.2).2.2.1 i = q from va_up_self _ _ _, hq]
      exact e9 i hi
    · rw [show (g.1, g.2.1, va_up g.2.2.1 j q, g.2.2.2).2.2.1 i = g.2.2.1 i from va_up_ne _ _ e]
      exact e9 i hi
/-- the line that is read changes -/
theorem XI.rd {ys : List Nat} (h : XI S E lB lI B C Z N c g) (hP : vP S E lB lI B C [] S1 E1) (h1 : E1.1 = va_up E.1 11 (some (1024, ys))) (h2 : E1.2.1 = E.2.1) : XI S1 E1 lB lI B C Z N c (g.1, g.2.1, g.2.2.1, g.2.2.2.1, ys) := by
  have hX : ∀ x ∈ ([] : List Nat), x < 165 := fun x hx => by cases hx
  obtain ⟨k1, k2, k3, k4, k5, k6, k7⟩ := h.cl hP hX
  have hn : ∀ x, x ∉ ([] : List Nat) := fun x hx => by cases hx
  refine ⟨hP.1, ⟨k1 (hn _), k2 (hn _), k3 (hn _), k4 (hn _) (hn _), fun j hj => k5 j hj (hn _), k6 (hn _), k7⟩, ?_, h.2.2.2.mv hP hX rfl rfl⟩
  obtain ⟨e1, e2, e3, e4, e5, e6, e7, e8, e9, e10⟩ := h.2.2.1
  have q1 : c.1.1 ≠ 11 ∧ c.1.2 ≠ 11 := by omega
  refine ⟨e1, by rw [h1, va_up_ne _ _ q1.1]; exact e2, by rw [h1, va_up_ne _ _ q1.2]; exact e3, by rw [h1]; exact va_up_self _ _ _, by rw [h2]; exact e5, by rw [h2]; exact e6, by rw [h2]; exact e7, by rw [h2]; exact e8, fun j hj => ?_, by rw [h2]; exact e10⟩
  rw [h1, h2, va_up_ne _ _ (show 23 + 7 * j ≠ 11 by omega)]
  exact e9 j hj
/-- the tokens change -/
theorem XI.tk {ts : List zT} {sv : Int32 × Int64 × Int64} (h : XI S E lB lI B C Z N c g) (hP : vP S E lB lI B C [13] S1 E1) (ht : S1.2.2 13 = .inr (7, tF 11 14 16 18 sv.1 sv.2.1 sv.2.2)) (h1 : E1.1 = E.1) (h2 : E1.2.1 = ivT E.2.1 14 16 18 1025 ts) : XI S1 E1 lB lI B C Z N (c.1, c.2.1, c.2.2.1, ts, sv, c.2.2.2.2.2) g := by
  have hX : ∀ x ∈ [13], x < 165 := by decide
  obtain ⟨k1, k2, k3, k4, k5, k6, k7⟩ := h.cl hP hX
  refine ⟨hP.1, ⟨k1 (by decide), k2 (by decide), ht, k4 (by decide) (by decide), fun j hj => k5 j hj (fun z => (ptN_lt hj).2.2.2.1 (List.mem_singleton.mp z)), k6 (by decide), k7⟩, ?_, h.2.2.2.mv hP hX rfl rfl⟩
  obtain ⟨e1, e2, e3, e4, e5, e6, e7, e8, e9, e10⟩ := h.2.2.1
  have q : ∀ x, x ≠ 14 → x ≠ 16 → x ≠ 18 → E1.2.1 x = E.2.1 x := fun x a1 a2 a3 => by rw [h2]; exact ivT_else a1 a2 a3
  refine ⟨e1, by rw [h1]; exact e2, by rw [h1]; exact e3, by rw [h1]; exact e4, by rw [q 3 (by decide) (by decide) (by decide)]; exact e5, by rw [q 5 (by decide) (by decide) (by decide)]; exact e6, by rw [q 7 (by decide) (by decide) (by decide)]; exact e7, ⟨by rw [h2]; exact ivT_k (by decide) (by decide), by rw [h2]; exact ivT_s (by decide), by rw [h2]; exact ivT_e⟩, fun j hj => ?_, fun q9 hq => ?_⟩
  · rw [h1, q (25 + 7 * j) (by omega) (by omega) (by omega), q (27 + 7 * j) (by omega) (by omega) (by omega)]
    exact e9 j hj
  · obtain ⟨a1, a2, a3, a4⟩ := e10 q9 hq
    rw [q q9.2.2.2.1 (by omega) (by omega) (by omega), q q9.2.2.2.2 (by omega) (by omega) (by omega)]
    exact ⟨a1, a2, a3, a4⟩
/-- a part takes what is given -/
theorem XI.ga {j : Nat} {q : zPt} (h : XI S E lB lI B C Z N c g) (hj : j < 20) (hP : vP S E lB lI B C [ptN j] S1 E1) (hp : S1.2.2 (ptN j) = pcl q j) (h1 : E1.1 = va_up E.1 (23 + 7 * j) (some (1024, q.2.2.2.2.2.1))) (h2 : E1.2.1 = ivP E.2.1 (25 + 7 * j) (27 + 7 * j) 1025 q.2.2.2.2.2.2) : XI S1 E1 lB lI B C Z N c (g.1, g.2.1, va_up g.2.2.1 j q, g.2.2.2) := by
  have hj9 := ptN_lt hj
  have hX : ∀ x ∈ [ptN j], x < 165 := fun x hx => by rw [List.mem_singleton.mp hx]; exact hj9.1
  have hn : ∀ x, x ≠ ptN j → x ∉ [ptN j] := fun x hx z => hx (List.mem_singleton.mp z)
  obtain ⟨k1, k2, k3, k4, k5, k6, k7⟩ := h.cl hP hX
  refine ⟨hP.1, ⟨k1 (hn _ (by omega)), k2 (hn _ (by omega)), k3 (hn _ (by omega)), k4 (hn _ (by omega)) (hn _ (by omega)), fun i hi => ?_, k6 (hn _ (by omega)), k7⟩, ?_, h.2.2.2.mv hP hX rfl rfl⟩
  · by_cases e : i = j
    · subst e
      rw [show (g.1, g.2.1, va_up g.2.2.1 i q, g.2.2.2).2.2.1 i = q from va_up_self _ _ _]
      exact hp
    · rw [show (g.1, g.2.1, va_up g.2.2.1 j q, g.2.2.2).2.2.1 i = g.2.2.1 i from va_up_ne _ _ e]
      exact k5 i hi (hn _ (fun z => e (ptN_inj z)))
  obtain ⟨e1, e2, e3, e4, e5, e6, e7, e8, e9, e10⟩ := h.2.2.1
  have qb : ∀ x, x ≠ 23 + 7 * j → E1.1 x = E.1 x := fun x a => by rw [h1]; exact va_up_ne _ _ a
  have qi : ∀ x, x ≠ 25 + 7 * j → x ≠ 27 + 7 * j → E1.2.1 x = E.2.1 x := fun x a1 a2 => by rw [h2]; exact ivP_else a1 a2
  refine ⟨e1, by rw [qb _ (by omega)]; exact e2, by rw [qb _ (by omega)]; exact e3, by rw [qb _ (by omega)]; exact e4, by rw [qi _ (by omega) (by omega)]; exact e5, by rw [qi _ (by omega) (by omega)]; exact e6, by rw [qi _ (by omega) (by omega)]; exact e7, ⟨by rw [qi _ (by omega) (by omega)]; exact e8.1, by rw [qi _ (by omega) (by omega)]; exact e8.2.1, by rw [qi _ (by omega) (by omega)]; exact e8.2.2⟩, fun i hi => ?_, fun q9 hq => ?_⟩
  · by_cases e : i = j
    · subst e
      rw [show (g.1, g.2.1, va_up g.2.2.1 i q, g.2.2.2).2.2.1 i = q from va_up_self _ _ _]
      exact ⟨by rw [h1]; exact va_up_self _ _ _, by rw [h2]; exact ivP_s (by omega), by rw [h2]; exact ivP_e⟩
    · rw [show (g.1, g.2.1, va_up g.2.2.1 j q, g.2.2.2).2.2.1 i = g.2.2.1 i from va_up_ne _ _ e, qb _ (by omega), qi _ (by omega) (by omega), qi _ (by omega) (by omega)]
      exact e9 i hi
  · obtain ⟨a1, a2, a3, a4⟩ := e10 q9 hq
    rw [qi q9.2.2.2.1 (by omega) (by omega), qi q9.2.2.2.2 (by omega) (by omega)]
    exact ⟨a1, a2, a3, a4⟩
end
