/-! THE REFERENCE: to the next line -/
section
variable {d : Nat} {S : zS} {r : zR} {c : zD} {g : zG}
/-- behind nextLine: a line of the class's is at hand, or the reading ends -/
def nlP (N : Nat) (S : zS) (r : zR) (c : zD) (c1 : zD) (g1 : zG) (out : Nat) (v : Option Value) (S1 : zS) : Prop := ∃ r', S1 = RS S r' ∧ kept r r' ∧ ((v = some (.int 1) ∧ ∃ g2, WF c g2 ∧ g2.1.1 < lim7 c g2 ∧ (∃ m, m ≤ N ∧ rnR m c g2 c1 g1 out) ∧ REL c (gPos g2 (g2.1.1 + 1)) r' ∧ r'.1 7 = nI (lo c.2.1 g2.1.1) ∧ r'.1 8 = nI (eol c.2.1 (lo c.2.1 g2.1.1)) ∧ r'.1 11 = 0) ∨ (v = some (.int 0) ∧ out = 2 ∧ (DN c1 g1 r' ∨ (g1.1.2.2.2.2 = 0 ∧ r'.1 11 = 0 ∧ r'.1 19 = 0 ∧ r'.1 14 = 0))))
theorem cEnd_rd : (cEnd c g).1.2.2.2.2 = g.2.2.2.2 := by
  unfold cEnd; repeat' split
  all_goals rfl
theorem FR.tu {j : Nat} {t : Int32} (h : FR c g r j) (hk : kdG g j = 4) : FR c (gPt g j ((g.2.2.1 j).1, (g.2.2.1 j).2.1, t, (g.2.2.1 j).2.2.2)) (rA r 174 j t) j := by
  have hs : va_up g.2.2.1 j ((g.2.2.1 j).1, (g.2.2.1 j).2.1, t, (g.2.2.1 j).2.2.2) j = _ := va_up_self _ _ _
  have hk' : kdG (gPt g j ((g.2.2.1 j).1, (g.2.2.1 j).2.1, t, (g.2.2.1 j).2.2.2)) j = 4 := by
    show (va_up g.2.2.1 j ((g.2.2.1 j).1, (g.2.2.1 j).2.1, t, (g.2.2.1 j).2.2.2) j).1 = 4
    rw [hs]; exact hk
  rcases h with ⟨z, -⟩ | h | ⟨z, -⟩
  · rw [hk] at z; rcases z with z | z <;> exact absurd z (by decide)
  · obtain ⟨h1, h2, h3, h4, h5, h6, h7, h8, h9, h10⟩ := h
    refine Or.inr (Or.inl ⟨hk', ?_⟩)
    show (rA r 174 j t).2.1 169 j = 4 ∧ (rA r 174 j t).2.1 170 j = nI (lo c.2.1 (va_up g.2.2.1 j ((g.2.2.1 j).1, (g.2.2.1 j).2.1, t, (g.2.2.1 j).2.2.2) j).2.1.2.1) ∧ (rA r 174 j t).2.1 171 j = nI (va_up g.2.2.1 j ((g.2.2.1 j).1, (g.2.2.1 j).2.1, t, (g.2.2.1 j).2.2.2) j).2.1.2.2.1 ∧ (rA r 174 j t).2.1 172 j = nI (lo c.2.1 (va_up g.2.2.1 j ((g.2.2.1 j).1, (g.2.2.1 j).2.1, t, (g.2.2.1 j).2.2.2) j).2.1.1) ∧ (rA r 174 j t).2.1 173 j = nI (va_up g.2.2.1 j ((g.2.2.1 j).1, (g.2.2.1 j).2.1, t, (g.2.2.1 j).2.2.2) j).2.1.1 ∧ (rA r 174 j t).2.1 174 j = (va_up g.2.2.1 j ((g.2.2.1 j).1, (g.2.2.1 j).2.1, t, (g.2.2.1 j).2.2.2) j).2.2.1 ∧ (va_up g.2.2.1 j ((g.2.2.1 j).1, (g.2.2.1 j).2.1, t, (g.2.2.1 j).2.2.2) j).2.1.2.1 < cnt c ∧ (va_up g.2.2.1 j ((g.2.2.1 j).1, (g.2.2.1 j).2.1, t, (g.2.2.1 j).2.2.2) j).2.1.2.2.1 = (va_up g.2.2.1 j ((g.2.2.1 j).1, (g.2.2.1 j).2.1, t, (g.2.2.1 j).2.2.2) j).2.1.2.1 + 1 ∧ (va_up g.2.2.1 j ((g.2.2.1 j).1, (g.2.2.1 j).2.1, t, (g.2.2.1 j).2.2.2) j).2.1.1 < (va_up g.2.2.1 j ((g.2.2.1 j).1, (g.2.2.1 j).2.1, t, (g.2.2.1 j).2.2.2) j).2.1.2.1
    rw [hs, rA_o (by decide), rA_o (by decide), rA_o (by decide), rA_o (by decide), rA_o (by decide), rA_at]
    exact ⟨h2, h3, h4, h5, h6, rfl, h8, h9, h10⟩
  · rw [hk] at z; exact absurd z (by decide)
/-- one turn less -/
theorem REL.tu {j : Nat} {t : Int32} (h : REL c g r) (hj : j < g.2.1) (hk : kdG g j = 4) : REL c (gPt g j ((g.2.2.1 j).1, (g.2.2.1 j).2.1, t, (g.2.2.1 j).2.2.2)) (rA r 174 j t) := by
  have h9' := h
  obtain ⟨h1, h2, h3, h4, h5, h6, h7, h8, h9, h10, h11⟩ := h9'
  have ekd : kdG (gPt g j ((g.2.2.1 j).1, (g.2.2.1 j).2.1, t, (g.2.2.1 j).2.2.2)) = kdG g := by
    funext i
    show (va_up g.2.2.1 j ((g.2.2.1 j).1, (g.2.2.1 j).2.1, t, (g.2.2.1 j).2.2.2) i).1 = (g.2.2.1 i).1
    by_cases e : i = j
    · rw [e, va_up_self]
    · rw [va_up_ne _ _ e]
  refine ⟨⟨h1.1, h1.2.1, by rw [rA_o (by decide)]; exact h1.2.2⟩, h2, h3, h4, h5, h6, h7, h8, fun i hi => ?_, fun i hi => ?_, h11.mv rfl (fun x _ _ => rA_o (by omega))⟩
  · by_cases e : i = j
    · subst e
      exact (h9 i hj).tu hk
    · have hi : i < g.2.1 := hi
      exact (h9 i hi).mv ⟨fun k _ _ => rA_j e, rA_j e, rA_o (by omega), rA_o (by omega)⟩ (va_up_ne _ _ e) (fun _ _ z => z)
  · rw [ekd] at hi
    rw [rA_o (by decide)]
    exact h10 i hi
/-- a frame's turns don't count once it is gone -/
theorem REL.dr {j : Nat} {t : Int32} (h : REL c g r) (hj : g.2.1 ≤ j) : REL c g (rA r 174 j t) := h.fr (fun _ _ => rfl) (rA_o (by decide)) (fun i hi => ⟨fun k _ _ => rA_j (by omega), rA_j (by omega), rA_o (by have := h.2.2.2.2.2.2.2.1; omega), rA_o (by have := h.2.2.2.2.2.2.2.1; omega)⟩) (fun k _ _ => rA_o (by omega))
theorem FR.pt {j k : Nat} {q : zPt} (h : FR c g r j) (hj : j ≠ k) : FR c (gPt g k q) r j := h.mv ⟨fun _ _ _ => rfl, rfl, rfl, rfl⟩ (va_up_ne _ _ hj) (fun _ _ z => z)
/-- what the class keeps of a part that is gone -/
theorem REL.gone {k : Nat} {q : zPt} (h : REL c g r) (hk : g.2.1 ≤ k) : REL c (gPt g k q) r := by
  obtain ⟨h1, h2, h3, h4, h5, h6, h7, h8, h9, h10, h11⟩ := h
  refine ⟨h1, h2, h3, h4, h5, h6, h7, h8, fun j hj => (h9 j hj).pt (by have : j < g.2.1 := hj; omega), fun j hj => h10 j ?_, h11⟩
  have hj : ouL (kdG (gPt g k q)) g.2.1 = some j := hj
  rw [ouL_cg (k1 := kdG (gPt g k q)) (k2 := kdG g) g.2.1 (fun i hi => by show (va_up g.2.2.1 k q i).1 = _; rw [va_up_ne _ _ (by omega)]; rfl)] at hj
  exact hj
end
