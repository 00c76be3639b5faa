/-! THE REFERENCE AND THE CLASS: frames come and go -/
section
variable {c : zD} {g g' : zG} {r r' : zR}
theorem ouL_iL (h : ouL (kdG g) g.2.1 = none) : iL g = none := by
  cases hj : iL g with
  | none => rfl
  | some j =>
    exfalso
    have hj2 := inL_lt _ _ hj
    have : ∀ n, ouL (kdG g) n = none → ∀ i, i < n → hasL (kdG g i) = false := by
      intro n
      induction n with
      | zero => intro _ i hi; omega
      | succ n ih =>
        intro h0 i hi
        rw [ouL_s] at h0
        cases ho9 : ouL (kdG g) n with
        | some z => rw [ho9] at h0; cases h0
        | none =>
          rw [ho9] at h0
          have h0 : (if hasL (kdG g n) = true then some n else none) = none := h0
          split at h0
          · cases h0
          · next w =>
            by_cases e : i = n
            · rw [e]; exact Bool.eq_false_iff.mpr w
            · exact ih ho9 i (by omega)
    rw [this _ h j hj2.1] at hj2
    cases hj2.2
theorem ouL_up {kd : Nat → Int32} {j : Nat} : ∀ (m n : Nat), ouL kd n = some j → ouL kd (n + m) = some j
  | 0, n, h => h
  | m + 1, n, h => by
    have ih := ouL_up m n h
    show ouL kd (n + m + 1) = some j
    rw [ouL_s, ih]
/-- fewer are open -/
theorem REL.sz {n : Nat} (h : REL c g r) (hn : n ≤ g.2.1) (hx : eqx [19] [] r r') (h19 : r'.1 19 = nI n) : REL c (gSz g n) r' := by
  obtain ⟨h1, h2, h3, h4, h5, h6, h7, h8, h9, h10, h11⟩ := h
  refine ⟨h1.mv hx (by decide) (by decide), by rw [hx.1 5 (by decide)]; exact h2, (hx.1 6 (by decide)).trans h3, (hx.1 9 (by decide)).trans h4, (hx.1 10 (by decide)).trans h5, (hx.1 14 (by decide)).trans h6, h19, Nat.le_trans hn h8, fun j hj => (h9 j (Nat.lt_of_lt_of_le hj hn)).mv (fre.of hx (fun x hx => by cases hx) (by have : j < n := hj; omega)) rfl (fun _ _ z => z), fun j hj => ?_, h11.mv (hx.1 33 (by decide)) (fun x _ _ => (hx.2 x List.not_mem_nil).1)⟩
  rw [(hx.2 175 (by decide)).1]
  refine h10 j ?_
  have := ouL_up (g.2.1 - n) n hj
  rw [show n + (g.2.1 - n) = g.2.1 by omega] at this
  exact this
/-- the place changes -/
theorem REL.at {p a : Nat} (h : REL c g r) (hx : eqx [5, 6] [] r r') (h5 : r'.1 5 = nI a) (ha : atL c.2.1 p a) (h6 : r'.1 6 = nI p) : REL c (gPos g p) r' := by
  obtain ⟨k1, k2, k3, k4, k5, k6, k7, k8, k9, k10, k11⟩ := h
  exact ⟨k1.mv hx (by decide) (by decide), ⟨a, h5, ha⟩, h6, (hx.1 9 (by decide)).trans k4, (hx.1 10 (by decide)).trans k5, (hx.1 14 (by decide)).trans k6, (hx.1 19 (by decide)).trans k7, k8, fun j hj => (k9 j hj).mv (fre.of hx (fun x hx => by cases hx) (by have : j < g.2.1 := hj; omega)) rfl (fun _ _ z => z), fun j hj => by rw [(hx.2 175 (by decide)).1]; exact k10 j hj, k11.mv (hx.1 33 (by decide)) (fun x _ _ => (hx.2 x List.not_mem_nil).1)⟩
/-- one more is open -/
theorem REL.op {q : zPt} {p m : Nat} (h : REL c g r) (hs : g.2.1 < 20) (k1 : TP r' c.2.1) (k2 : ∃ a, r'.1 5 = nI a ∧ atL c.2.1 p a) (k3 : r'.1 6 = nI p) (k4 : r'.1 9 = nI g.1.2.1) (k5 : r'.1 10 = nI m) (k6 : r'.1 14 = 0) (k7 : r'.1 19 = nI (g.2.1 + 1)) (k8 : ∀ j, j < g.2.1 → fre r r' j) (k9 : FR c ((p, g.1.2.1, m, g.1.2.2.2), g.2.1 + 1, va_up g.2.2.1 g.2.1 q, g.2.2.2) r' g.2.1) (k10 : hasL q.1 = true → ouL (kdG g) g.2.1 = none → r'.2.1 175 g.2.1 = nI g.1.2.2.2.1) (k11 : MS r' c.2.1 g.2.2.2.1) : REL c ((p, g.1.2.1, m, g.1.2.2.2), g.2.1 + 1, va_up g.2.2.1 g.2.1 q, g.2.2.2) r' := by
  obtain ⟨h1, h2, h3, h4, h5, h6, h7, h8, h9, h10, h11⟩ := h
  have ha : ag g ((p, g.1.2.1, m, g.1.2.2.2), g.2.1 + 1, va_up g.2.2.1 g.2.1 q, g.2.2.2) g.2.1 := ag.up rfl (Nat.le_refl _)
  have hkd : kdG ((p, g.1.2.1, m, g.1.2.2.2), g.2.1 + 1, va_up g.2.2.1 g.2.1 q, g.2.2.2) g.2.1 = q.1 := congrArg (fun z : zPt => z.1) (va_up_self g.2.2.1 g.2.1 q)
  refine ⟨k1, k2, k3, k4, k5, k6, k7, hs, fun j hj => ?_, fun j hj => ?_, k11⟩
  · have hj : j < g.2.1 + 1 := hj
    by_cases e : j = g.2.1
    · rw [e]; exact k9
    · exact (h9 j (by omega)).mv (k8 j (by omega)) (va_up_ne _ _ e) (fun _ _ z => z)
  · have hj : ouL (kdG ((p, g.1.2.1, m, g.1.2.2.2), g.2.1 + 1, va_up g.2.2.1 g.2.1 q, g.2.2.2)) (g.2.1 + 1) = some j := hj
    rw [ouL_s, ha.ou (Nat.le_refl _)] at hj
    cases ho : ouL (kdG g) g.2.1 with
    | some i =>
      rw [ho] at hj
      cases hj
      have := ouL_some _ _ ho
      rw [(k8 j this.1).1 175 (by decide) (by decide)]
      exact h10 j ho
    | none =>
      rw [ho] at hj
      have hj : (if hasL (kdG ((p, g.1.2.1, m, g.1.2.2.2), g.2.1 + 1, va_up g.2.2.1 g.2.1 q, g.2.2.2) g.2.1) = true then some g.2.1 else none) = some j := hj
      split at hj
      · next w =>
        cases hj
        rw [hkd] at w
        exact k10 w ho
      · cases hj
theorem ENT.fre {f : Nat} {w s l : Int32} (h : ENT r r' f w s l) {j : Nat} (hj : j ≠ f) (hj2 : j < 24) : fre r r' j := by
  have hm : ∀ x, 180 ≤ x → x ∉ [169, 170, 171, 172, 173, 175, 178] := fun x hx z => by
    simp only [List.mem_cons, List.not_mem_nil, or_false] at z
    omega
  exact ⟨fun k _ _ => h.2.2.1 k j hj, h.2.2.1 229 j hj, (h.1.2 _ (hm _ (by omega))).1, (h.1.2 _ (hm _ (by omega))).1⟩
theorem ENT.ms {f : Nat} {w s l : Int32} {src : List Nat} {mas : List zMa} (h : ENT r r' f w s l) (k : MS r src mas) : MS r' src mas := k.mv (h.1.1 33 (by decide)) (fun x h1 h2 => (h.1.2 x (fun z => by simp only [List.mem_cons, List.not_mem_nil, or_false] at z; omega)).1)
/-- a condition is opened -/
theorem REL.opIf {k : Int32} {s l : Int32} (h : REL c g r) (hs : g.2.1 < 20) (hE : ENT r r' g.2.1 1 s l) (hk : k = 1) : REL c (gOp g k) r' := by
  have h9 := h
  obtain ⟨h1, h2, h3, h4, h5, h6, h7, h8, -, -, h11⟩ := h9
  have hkd : kdG ((g.1.1, g.1.2.1, g.1.2.2.1, g.1.2.2.2), g.2.1 + 1, va_up g.2.2.1 g.2.1 (k, (g.2.2.1 g.2.1).2), g.2.2.2) g.2.1 = k := congrArg (fun z : zPt => z.1) (va_up_self g.2.2.1 g.2.1 _)
  refine h.op (q := (k, (g.2.2.1 g.2.1).2)) (p := g.1.1) (m := g.1.2.2.1) hs (h1.mv hE.1 (by decide) (by decide)) (by rw [hE.1.1 5 (by decide)]; exact h2) ((hE.1.1 6 (by decide)).trans h3) ((hE.1.1 9 (by decide)).trans h4) ((hE.1.1 10 (by decide)).trans h5) ((hE.1.1 14 (by decide)).trans h6) hE.2.1 (fun j hj => hE.fre (by omega) (by omega)) ?_ (fun z => by rw [hk] at z; cases z) (hE.ms h11)
  refine Or.inl ⟨?_, hE.2.2.2.1, ?_⟩
  · rw [hkd]; exact Or.inl hk
  · rw [hkd, hk]; exact hE.2.2.2.2.2.2.2.2.2
theorem REL.opElse {s l : Int32} (h : REL c g r) (hs : g.2.1 < 20) (hE : ENT r r' g.2.1 1 s l) : REL c (gOp g 2) (rA r' 178 g.2.1 1) := by
  have h9 := h
  obtain ⟨h1, h2, h3, h4, h5, h6, h7, h8, -, -, h11⟩ := h9
  have hkd : kdG ((g.1.1, g.1.2.1, g.1.2.2.1, g.1.2.2.2), g.2.1 + 1, va_up g.2.2.1 g.2.1 (2, (g.2.2.1 g.2.1).2), g.2.2.2) g.2.1 = 2 := congrArg (fun z : zPt => z.1) (va_up_self g.2.2.1 g.2.1 _)
  have hx : eqx [19] [169, 170, 171, 172, 173, 175, 178] r (rA r' 178 g.2.1 1) := hE.1.tr (eqx.a (by decide))
  refine h.op (q := (2, (g.2.2.1 g.2.1).2)) (p := g.1.1) (m := g.1.2.2.1) hs (h1.mv hx (by decide) (by decide)) (by rw [hx.1 5 (by decide)]; exact h2) ((hx.1 6 (by decide)).trans h3) ((hx.1 9 (by decide)).trans h4) ((hx.1 10 (by decide)).trans h5) ((hx.1 14 (by decide)).trans h6) hE.2.1 (fun j hj => ?_) ?_ (fun z => by cases z) ?_
  · have := hE.fre (j := j) (by omega) (by omega)
    exact ⟨fun k h1 h2 => (rA_j (by omega)).trans (this.1 k h1 h2), (rA_j (by omega)).trans this.2.1, (rA_o (by omega)).trans this.2.2.1, (rA_o (by omega)).trans this.2.2.2⟩
  · refine Or.inl ⟨?_, ?_, ?_⟩
    · rw [hkd]; exact Or.inr rfl
    · rw [rA_o (by decide)]; exact hE.2.2.2.1
    · rw [hkd, rA_at]; rfl
  · exact (hE.ms h11).mv rfl (fun x _ _ => rA_o (by omega))
/-- lines are gone round -/
theorem REL.opRept {o : Nat} {v : Int32} (h : REL c g r) (ht : iL g = none → g.1.2.2.2.1 = g.1.1) (hs : g.2.1 < 20) (hE : ENT r r' g.2.1 4 (nI (lo c.2.1 o)) (nI (o + 1))) (ho : g.1.1 < o) (ho2 : o < cnt c) : REL c (gSz (gPt g g.2.1 (4, (g.1.1, o, o + 1, g.1.2.2.2.1), v, (g.2.2.1 g.2.1).2.2.2)) (g.2.1 + 1)) (rA r' 174 g.2.1 v) := by
  have h9 := h
  obtain ⟨h1, ⟨a, h2, h2'⟩, h3, h4, h5, h6, h7, h8, -, -, h11⟩ := h9
  have hx : eqx [19] [169, 170, 171, 172, 173, 174, 175, 178] r (rA r' 174 g.2.1 v) := (hE.1.mono (fun _ z => z) (by decide)).tr (eqx.a (by decide))
  have ea := h2'.2.2.1 (show g.1.1 < (lnz c.2.1).length by unfold cnt at ho2; omega)
  refine h.op (q := (4, (g.1.1, o, o + 1, g.1.2.2.2.1), v, (g.2.2.1 g.2.1).2.2.2)) (p := g.1.1) (m := g.1.2.2.1) hs (h1.mv hx (by decide) (by decide)) ⟨a, (hx.1 5 (by decide)).trans h2, h2'⟩ ((hx.1 6 (by decide)).trans h3) ((hx.1 9 (by decide)).trans h4) ((hx.1 10 (by decide)).trans h5) ((hx.1 14 (by decide)).trans h6) hE.2.1 (fun j hj => ?_) ?_ (fun _ hz => ?_) ?_
  · have := hE.fre (j := j) (by omega) (by omega)
    exact ⟨fun k h1 h2 => (rA_j (by omega)).trans (this.1 k h1 h2), (rA_j (by omega)).trans this.2.1, (rA_o (by omega)).trans this.2.2.1, (rA_o (by omega)).trans this.2.2.2⟩
  · have hs : va_up g.2.2.1 g.2.1 ((4, (g.1.1, o, o + 1, g.1.2.2.2.1), v, (g.2.2.1 g.2.1).2.2.2) : zPt) g.2.1 = _ := va_up_self _ _ _
    refine Or.inr (Or.inl ?_)
    unfold kdG
    show (va_up g.2.2.1 g.2.1 ((4, (g.1.1, o, o + 1, g.1.2.2.2.1), v, (g.2.2.1 g.2.1).2.2.2) : zPt) g.2.1).1 = 4 ∧ _ ∧ _ = nI (lo c.2.1 (va_up g.2.2.1 g.2.1 ((4, (g.1.1, o, o + 1, g.1.2.2.2.1), v, (g.2.2.1 g.2.1).2.2.2) : zPt) g.2.1).2.1.2.1) ∧ _ = nI (va_up g.2.2.1 g.2.1 ((4, (g.1.1, o, o + 1, g.1.2.2.2.1), v, (g.2.2.1 g.2.1).2.2.2) : zPt) g.2.1).2.1.2.2.1 ∧ _ = nI (lo c.2.1 (va_up g.2.2.1 g.2.1 ((4, (g.1.1, o, o + 1, g.1.2.2.2.1), v, (g.2.2.1 g.2.1).2.2.2) : zPt) g.2.1).2.1.1) ∧ _ = nI (va_up g.2.2.1 g.2.1 ((4, (g.1.1, o, o + 1, g.1.2.2.2.1), v, (g.2.2.1 g.2.1).2.2.2) : zPt) g.2.1).2.1.1 ∧ _ = (va_up g.2.2.1 g.2.1 ((4, (g.1.1, o, o + 1, g.1.2.2.2.1), v, (g.2.2.1 g.2.1).2.2.2) : zPt) g.2.1).2.2.1 ∧ (va_up g.2.2.1 g.2.1 ((4, (g.1.1, o, o + 1, g.1.2.2.2.1), v, (g.2.2.1 g.2.1).2.2.2) : zPt) g.2.1).2.1.2.1 < cnt c ∧ (va_up g.2.2.1 g.2.1 ((4, (g.1.1, o, o + 1, g.1.2.2.2.1), v, (g.2.2.1 g.2.1).2.2.2) : zPt) g.2.1).2.1.2.2.1 = (va_up g.2.2.1 g.2.1 ((4, (g.1.1, o, o + 1, g.1.2.2.2.1), v, (g.2.2.1 g.2.1).2.2.2) : zPt) g.2.1).2.1.2.1 + 1 ∧ (va_up g.2.2.1 g.2.1 ((4, (g.1.1, o, o + 1, g.1.2.2.2.1), v, (g.2.2.1 g.2.1).2.2.2) : zPt) g.2.1).2.1.1 < (va_up g.2.2.1 g.2.1 ((4, (g.1.1, o, o + 1, g.1.2.2.2.1), v, (g.2.2.1 g.2.1).2.2.2) : zPt) g.2.1).2.1.2.1
    rw [hs]
    refine ⟨rfl, (by rw [rA_o (by decide)]; exact hE.2.2.2.1), (by rw [rA_o (by decide)]; exact hE.2.2.2.2.1), (by rw [rA_o (by decide)]; exact hE.2.2.2.2.2.1), ?_, ?_, rA_at, ho2, rfl, ho⟩
    · rw [rA_o (by decide), hE.2.2.2.2.2.2.1, h2, ea]
    · rw [rA_o (by decide), hE.2.2.2.2.2.2.2.1, h3]
  · rw [rA_o (by decide), hE.2.2.2.2.2.2.2.2.1, h3]
    have hn : iL g = none := by
      cases hj : iL g with
      | none => rfl
      | some j =>
        exfalso
        have hj2 := inL_lt _ _ hj
        have : ∀ n, ouL (kdG g) n = none → ∀ i, i < n → hasL (kdG g i) = false := by
          intro n
          induction n with
          | zero => intro _ i hi; omega
          | succ n ih =>
            intro h0 i hi
            rw [ouL_s] at h0
            cases ho9 : ouL (kdG g) n with
            | some z => rw [ho9] at h0; cases h0
            | none =>
              rw [ho9] at h0
              have h0 : (if hasL (kdG g n) = true then some n else none) = none := h0
              split at h0
              · cases h0
              · next w =>
                by_cases e : i = n
                · rw [e]; exact Bool.eq_false_iff.mpr w
                · exact ih ho9 i (by omega)
        rw [this _ hz j hj2.1] at hj2
        cases hj2.2
    rw [ht hn]
  · exact (hE.ms h11).mv rfl (fun x _ _ => rA_o (by omega))
end
