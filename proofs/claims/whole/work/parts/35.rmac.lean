/-! THE READER: a macro's heading -/
def off7 (c : zD) (g : zG) : Nat := (ln7 c (g.1.1 - 1)).1
def nMa (c : zD) (g : zG) (o : Nat) (ce : Nat × Nat × Nat) : zMa := (ce.1, (off7 c g + (c.2.2.2.1.getD 1 t0).2.1, (c.2.2.2.1.getD 1 t0).2.2.1 - (c.2.2.2.1.getD 1 t0).2.1, g.1.1, o), mPl c.2.2.2.1 (off7 c g), ce.2.1, ce.2.2)
def cDef (c : zD) (g : zG) (ce : Nat × Nat × Nat) : zG × Nat := if (iL g).isSome = true then (gFl g 6, 2) else if (c.2.2.2.1.getD 1 t0).1 = 1 ∧ tkn c g 1 = true then (gFl g 3, 2) else if hdg c.2.2.2.1 = false then (gFl g 1, 2) else match fz c g 6 false with
  | none => (gUn c g, 2)
  | some o => (((o + 1, g.1.2), g.2.1, g.2.2.1, g.2.2.2.1 ++ [nMa c g o ce], g.2.2.2.2), 0)
/-- what macros cost -/
def kS : List zMa → Nat
  | [] => 0
  | q :: l => 26 + 2 * potI q.2.2.1.length 8 + kS l
def kC : List zMa → Nat
  | [] => 0
  | q :: l => 5 + 2 * cpt q.2.2.1.length 8 + kC l
theorem kS_app (l : List zMa) (q : zMa) : kS (l ++ [q]) = kS l + (26 + 2 * potI q.2.2.1.length 8) := by
  induction l with
  | nil => show 26 + 2 * potI q.2.2.1.length 8 + 0 = 0 + _; omega
  | cons a l ih => show 26 + 2 * potI a.2.2.1.length 8 + kS (l ++ [q]) = 26 + 2 * potI a.2.2.1.length 8 + kS l + _; rw [ih]; omega
theorem kC_app (l : List zMa) (q : zMa) : kC (l ++ [q]) = kC l + (5 + 2 * cpt q.2.2.1.length 8) := by
  induction l with
  | nil => show 5 + 2 * cpt q.2.2.1.length 8 + 0 = 0 + _; omega
  | cons a l ih => show 5 + 2 * cpt a.2.2.1.length 8 + kC (l ++ [q]) = 5 + 2 * cpt a.2.2.1.length 8 + kC l + _; rw [ih]; omega
/-- the class, with what it may cost -/
def XJ (S : zS) (Z : Nat → zC) (N : Nat) (c : zD) (g : zG) (B0 C0 : Nat) : Prop := ∃ E lB lI B C, XI S E lB lI B C Z N c g ∧ c.2.2.2.2.2.2.2.2 ≤ 767 ∧ B + 4 * (768 - c.2.2.2.2.2.2.2.2) ≤ B0 + kS g.2.2.2.1 ∧ C + (768 - c.2.2.2.2.2.2.2.2) ≤ C0 + kC g.2.2.2.1
def cLa (c : zD) (la : Int32 × Value × Nat) : zD := (c.1, c.2.1, c.2.2.1, c.2.2.2.1, c.2.2.2.2.1, c.2.2.2.2.2.1, la)
/-- the tokens lie in the line -/
def tOk (c : zD) (g : zG) : Prop := ∀ i, i < c.2.2.2.1.length → (c.2.2.2.1.getD i t0).2.1 ≤ (c.2.2.2.1.getD i t0).2.2.1 ∧ (c.2.2.2.1.getD i t0).2.2.1 ≤ g.2.2.2.2.length
section
variable {d : Nat} {S : zS} {E : zE} {lB lI : List Nat} {B C N B0 C0 : Nat} {Z : Nat → zC} {c : zD} {g : zG}
theorem hdg_2 {ts : List zT} (h : hdg ts = true) : 2 ≤ ts.length := by
  unfold hdg at h
  simp only [Bool.and_eq_true, decide_eq_true_eq] at h
  rcases Nat.lt_or_ge 1 ts.length with q | q
  · exact q
  · have h1 := h.1.1
    rw [List.getD_eq_getElem?_getD, List.getElem?_eq_none q] at h1
    exact absurd h1 (by decide)
theorem fz_cnt (h : iL g = none) {bg : Nat} {oe : Bool} : fz c g bg oe = fnz (wsO c.2.1) g.1.1 (cnt c) bg oe := by
  unfold fz lim7
  rw [h]
/-- a macro comes into the list -/
theorem XI.addM {S1 S2 : zS} {E1 : zE} {lB1 lI1 : List Nat} {B1 C1 o cap' : Nat} {mc' : Int32} {ev' : Value} {ce : Nat × Nat × Nat} (h : XI S E lB lI B C Z N c g) (hce : ce = (S.1, S.1 + 1, S.1 + 3)) (hm : S1.2.2 S.1 = mcl (nMa c g o ce)) (hV1 : Vw S1 E1 lB1 lI1 B1 C1) (hF : FrV (z_new S (.inr (3, [.int 0, .int 0, .int 0, .int 0, .null, .null])) 6) S1 E E1 [S.1]) (eb : E1.1 = E.1) (ei : E1.2.1 = ivP E.2.1 (S.1 + 1) (S.1 + 3) (nMa c g o ce).2.2.1.length (nMa c g o ce).2.2.1) (hA : isA S2 162 mc' ev' cap' ((g.2.2.2.1.map fun q => q.1) ++ [S.1])) (hfr : ∀ j, j < S1.1 → ¬ aCl c.2.2.2.2.2.2.2.1 162 j → S2.2.2 j = S1.2.2 j)
    (hgr : (cap' = c.2.2.2.2.2.2.2.2 ∧ ev' = c.2.2.2.2.2.2.2.1 ∧ S2.1 = S1.1 ∧ S2.2.1 = S1.2.1) ∨ (ev' = .ref S1.1 ∧ S2.1 = S1.1 + 1 ∧ S2.2.1 = S1.2.1 + alN c.2.2.2.2.2.2.2.2)) : XI S2 E1 lB1 lI1 (B1 + (S2.2.1 - S1.2.1)) (C1 + (S2.1 - S1.1)) Z N (cLa c (mc', ev', cap')) (g.1, g.2.1, g.2.2.1, g.2.2.2.1 ++ [nMa c g o ce], g.2.2.2.2) := by
  have hl0 := h.l0
  have hl1 : S.1 + 1 ≤ S1.1 := hF.1
  have hl2 : S1.1 ≤ S2.1 := by rcases hgr with q | q <;> omega
  have hls : S1.2.1 ≤ S2.2.1 := by rcases hgr with q | q <;> omega
  have hev : ∀ x, x < 165 → x ≠ 162 → ¬ aCl c.2.2.2.2.2.2.2.1 162 x := fun x hx hn z => by
    rcases z with z | z
    · exact hn z
    · have := h.2.2.2.2.1 x z; omega
  -- a raw cell of the class stays
  have keep : ∀ x ci fs, S.2.2 x = .inr (ci, fs) → ci ≠ 1 → ci ≠ 2 → x < S.1 → ¬ aCl c.2.2.2.2.2.2.2.1 162 x → S2.2.2 x = .inr (ci, fs) := by
    intro x ci fs hx n1 n2 hxl hn
    rw [hfr x (by omega) hn, hF.2.2.1 x (show x < S.1 + 1 by omega) (h.1.raw hx n1 n2) (fun z => by have := List.mem_singleton.mp z; omega)]
    exact (va_up_ne _ _ (Nat.ne_of_lt hxl)).trans hx
  have keepA : ∀ x ty a, S.2.2 x = .inl (ty, a) → ty ≠ .byte → ty ≠ .int → x < S.1 → ¬ aCl c.2.2.2.2.2.2.2.1 162 x → S2.2.2 x = .inl (ty, a) := by
    intro x ty a hx n1 n2 hxl hn
    rw [hfr x (by omega) hn, hF.2.2.1 x (show x < S.1 + 1 by omega) (h.1.rawA hx n1 n2) (fun z => by have := List.mem_singleton.mp z; omega)]
    exact (va_up_ne _ _ (Nat.ne_of_lt hxl)).trans hx
  -- the list's cells are not the view's
  have hnv : ∀ j, inV E1 j → ¬ aCl c.2.2.2.2.2.2.2.1 162 j := by
    intro j hj z
    have ha := h.a0
    have key : ∀ x, x < S.1 → ¬ inV E x → ¬ inV E1 x := fun x hx hn q => hn (hF.2.2.2 x (show x < S.1 + 1 by omega) q)
    rcases z with rfl | z
    · exact key 162 (by omega) (h.1.raw ha.1 (by decide) (by decide)) hj
    · rcases ha.2.2.2 with ⟨q, -⟩ | ⟨ea, gg, q, -, q2, q3, -⟩
      · rw [z] at q; cases q
      · rw [z] at q
        cases q
        exact key j q2 (h.1.rawA q3 (by simp) (by simp)) hj
  have hmq : ¬ aCl c.2.2.2.2.2.2.2.1 162 S.1 := fun z => by
    rcases z with z | z
    · omega
    · rcases h.a0.2.2.2 with ⟨q, -⟩ | ⟨ea, gg, q, -, q2, q3, -⟩
      · rw [z] at q; cases q
      · rw [z] at q; cases q; omega
  have hmm : ∀ q ∈ g.2.2.2.1, ¬ aCl c.2.2.2.2.2.2.2.1 162 q.1 := fun q hq z => by
    obtain ⟨k1, k2, k3⟩ := h.m0 q hq
    rcases z with z | z
    · omega
    · rcases h.a0.2.2.2 with ⟨w, -⟩ | ⟨ea, gg, w, -, w2, w3, -⟩
      · rw [z] at w; cases w
      · rw [z] at w; cases w; rw [k1] at w3; cases w3
  refine ⟨hV1.more (by omega) (by omega) (fun j hj hv => hfr j hj (hnv j hv)), ⟨keep 1 _ _ h.x0 (by decide) (by decide) (by omega) (hev 1 (by decide) (by decide)), keep 2 _ _ h.2.1.2.1 (by decide) (by decide) (by omega) (hev 2 (by decide) (by decide)), keep 13 _ _ h.t0 (by decide) (by decide) (by omega) (hev 13 (by decide) (by decide)), ?_, fun j hj => ?_, ?_, fun q hq => ?_⟩, ?_, ?_, ?_, fun j hj1 hj2 => ?_⟩
  · obtain ⟨k1, ⟨gg, k2, k3⟩, k4⟩ := h.n0
    exact ⟨keep 20 _ _ k1 (by decide) (by decide) (by omega) (hev 20 (by decide) (by decide)), ⟨gg, keepA 21 _ _ k2 (by simp) (by simp) (by omega) (hev 21 (by decide) (by decide)), k3⟩, k4⟩
  · have := ptN_lt hj
    exact keep _ _ _ (h.p0 j hj) (by decide) (by decide) (by omega) (hev _ this.1 this.2.2.2.2.2.2)
  · rw [List.map_append]
    have : (nMa c g o ce).1 = S.1 := by rw [hce]; rfl
    show isA S2 162 mc' ev' cap' ((g.2.2.2.1.map fun q => q.1) ++ [(nMa c g o ce).1])
    rw [this]
    exact hA
  · rcases List.mem_append.mp hq with z | z
    · obtain ⟨k1, k2, k3⟩ := h.m0 q z
      exact ⟨keep _ _ _ k1 (by decide) (by decide) k2 (hmm q z), by omega, k3⟩
    · have z := List.mem_singleton.mp z
      have e : q.1 = S.1 := by rw [z, hce]; rfl
      refine ⟨?_, by omega, by omega⟩
      rw [e, hfr S.1 (by omega) hmq, hm, z]
  · obtain ⟨e1, e2, e3, e4, e5, e6, e7, e8, e9, e10⟩ := h.2.2.1
    have qi : ∀ x, x < S.1 → E1.2.1 x = E.2.1 x := fun x hx => by rw [ei]; exact ivP_else (by omega) (by omega)
    refine ⟨e1, by rw [eb]; exact e2, by rw [eb]; exact e3, by rw [eb]; exact e4, by rw [qi _ (by omega)]; exact e5, by rw [qi _ (by omega)]; exact e6, by rw [qi _ (by omega)]; exact e7, ⟨by rw [qi _ (by omega)]; exact e8.1, by rw [qi _ (by omega)]; exact e8.2.1, by rw [qi _ (by omega)]; exact e8.2.2⟩, fun j hj => ?_, fun q hq => ?_⟩
    · rw [eb, qi _ (by omega), qi _ (by omega)]
      exact e9 j hj
    · rcases List.mem_append.mp hq with z | z
      · obtain ⟨⟨b1, a1⟩, ⟨b2, a2⟩, a3, a4⟩ := e10 q z
        rw [qi _ (h.1.i a1).2.1, qi _ (h.1.i a2).2.1]
        exact ⟨⟨b1, a1⟩, ⟨b2, a2⟩, a3, a4⟩
      · have z := List.mem_singleton.mp z
        have w1 : q.2.2.2.1 = S.1 + 1 := by rw [z, hce]; rfl
        have w2 : q.2.2.2.2 = S.1 + 3 := by rw [z, hce]; rfl
        rw [w1, w2, ei, ← z]
        exact ⟨⟨_, ivP_s (by omega)⟩, ⟨_, ivP_e⟩, by omega, by omega⟩
  · have := h.2.2.2.1
    omega
  · show ∀ x : Nat, ev' = .ref x → 165 ≤ x
    intro x hx
    rcases hgr with ⟨-, q, -⟩ | ⟨q, -⟩
    · rw [q] at hx
      exact h.2.2.2.2.1 x hx
    · rw [q] at hx
      cases hx
      omega
  · obtain ⟨q1, q2, q3, q4⟩ := h.2.2.2.2.2 j hj1 hj2
    have hlz := h.2.2.2.1
    have hjn : ¬ aCl c.2.2.2.2.2.2.2.1 162 j := fun z => by
      rcases z with z | z
      · omega
      · exact q3 z
    refine ⟨?_, fun z => q2 (hF.2.2.2 j (show j < S.1 + 1 by omega) z), ?_, fun q hq => ?_⟩
    · rw [hfr j (by omega) hjn, hF.2.2.1 j (show j < S.1 + 1 by omega) q2 (fun z => by have := List.mem_singleton.mp z; omega)]
      exact (va_up_ne _ _ (show j ≠ S.1 by omega)).trans q1
    · show ev' ≠ .ref j
      rcases hgr with ⟨-, q, -⟩ | ⟨q, -⟩
      · rw [q]; exact q3
      · rw [q]
        intro z
        cases z
        omega
    · rcases List.mem_append.mp hq with z | z
      · exact q4 q z
      · have z := List.mem_singleton.mp z
        have e : q.1 = S.1 := by rw [z, hce]; rfl
        omega
end
