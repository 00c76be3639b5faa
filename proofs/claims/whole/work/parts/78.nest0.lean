section
variable {d : Nat} {S : zS} {E : zE} {lB lI : List Nat} {B C : Nat}
/-- a part as it is made -/
def pt0 (a : Nat) : zC := .inr (5, [.int 0, .int 0, .int 0, .int 0, .int 0, .int 0, .int 0, .null, .ref (a + 1), .ref (a + 3), .ref (a + 5)])
/-- k parts stand behind the array at a -/
def ptsK (S0 S : zS) (E0 E : zE) (a k : Nat) : Prop := S.1 = a + 1 + 7 * k ∧ S.2.1 = S0.2.1 + 20 + 50 * k ∧ (∃ g, S.2.2 a = .inl (.object "MacroReader$Part", 20, .inr (.inr (.inr (.inr g)))) ∧ ∀ j, j < k → g j = some (a + 1 + 7 * j)) ∧ (∀ j, j < k → S.2.2 (a + 1 + 7 * j) = pt0 (a + 1 + 7 * j) ∧ E.1 (a + 2 + 7 * j) = some (1024, []) ∧ E.2.1 (a + 4 + 7 * j) = some (1025, []) ∧ E.2.1 (a + 6 + 7 * j) = some (1025, [])) ∧ (∀ j, j < a → E.1 j = E0.1 j ∧ E.2.1 j = E0.2.1 j) ∧ ∀ j, a + 1 + 7 * k ≤ j → E.1 j = none ∧ E.2.1 j = none
end
