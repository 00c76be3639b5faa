/-! WHAT A CONSTRUCTOR MAKES: an Ints, a Bytes, in the view -/
section
variable {S S2 : zS} {E : zE} {lB lI : List Nat} {B C : Nat}
theorem VI {bnd : Nat} (h : Vw S E lB lI B C) (hb : bnd ≤ 65536) (hI : isI S2 S.1 (S.1 + 1) 8 []) (h1 : S2.1 = S.1 + 2) (h2 : S2.2.1 = S.2.1 + 10) (h3 : ∀ j, j < S.1 → S2.2.2 j = S.2.2 j) : Vw S2 (eI E S.1 (bnd, []) (S.1 + 1, 8)) (lB.filter fun o => (E.1 o).isSome) (S.1 :: lI.filter fun o => (E.2.1 o).isSome) (B + 10 + potI bnd 8) (C + 2 + cpt bnd 8) := h.newI h1 h2 (fun j hj _ => h3 j hj) hI hb (Nat.le_refl _) (Nat.le_succ _) (by omega) (by omega)
theorem VB {lim f : Nat} (h : Vw S E lB lI B C) (hI : isB S2 S.1 (S.1 + 1) f lim []) (h1 : S2.1 = S.1 + 2) (h2 : S2.2.1 = S.2.1 + (3 + f)) (h3 : ∀ j, j < S.1 → S2.2.2 j = S.2.2 j) : Vw S2 (eB E S.1 (lim, []) (S.1 + 1, f)) (S.1 :: lB.filter fun o => (E.1 o).isSome) (lI.filter fun o => (E.2.1 o).isSome) (B + (3 + f) + pot lim f) (C + 2 + cpt lim f) := h.newB h1 h2 (fun j hj _ => h3 j hj) hI (Nat.le_refl _) (Nat.le_succ _) (by omega) (by omega)
end
