/-! NEW OBJECTS come into the view -/
theorem sm_filter {f : Nat → Nat} {p : Nat → Bool} : ∀ (l : List Nat), (∀ x ∈ l, p x = false → f x = 0) → sm f (l.filter p) = sm f l
  | [], _ => rfl
  | o :: l, h => by
    have ih := sm_filter l (fun x hx => h x (List.mem_cons_of_mem _ hx))
    rw [List.filter_cons]
    split
    · show f o + sm f (l.filter p) = f o + sm f l
      rw [ih]
    · next q =>
      show sm f (l.filter p) = f o + sm f l
      rw [ih, h o List.mem_cons_self (Bool.not_eq_true _ |>.mp q), Nat.zero_add]
section
variable {S S1 : zS} {E : zE} {lB lI : List Nat} {B C : Nat}
/-- lists without what the view doesn't hold -/
theorem Vw.trim (h : Vw S E lB lI B C) : Vw S E (lB.filter fun o => (E.1 o).isSome) (lI.filter fun o => (E.2.1 o).isSome) B C := by
  obtain ⟨h1, h2, h3, h4, h5, h6, h7, h8⟩ := h
  have q1 : ∀ f : Nat → Nat, (∀ x, E.1 x = none → f x = 0) → sm f (lB.filter fun o => (E.1 o).isSome) = sm f lB := fun f hf => sm_filter _ (fun x _ hx => hf x (by simpa using hx))
  have q2 : ∀ f : Nat → Nat, (∀ x, E.2.1 x = none → f x = 0) → sm f (lI.filter fun o => (E.2.1 o).isSome) = sm f lI := fun f hf => sm_filter _ (fun x _ hx => hf x (by simpa using hx))
  refine ⟨fun o lim xs ho => ?_, fun o bnd xs ho => ?_, h3, h4, List.Pairwise.sublist List.filter_sublist h5, List.Pairwise.sublist List.filter_sublist h6, ?_, ?_⟩
  · obtain ⟨a, b, c, d⟩ := h1 o lim xs ho
    exact ⟨a, b, c, List.mem_filter.mpr ⟨d, by rw [ho]; rfl⟩⟩
  · obtain ⟨a, b, c, d, e, f⟩ := h2 o bnd xs ho
    exact ⟨a, b, c, d, e, List.mem_filter.mpr ⟨f, by rw [ho]; rfl⟩⟩
  · rw [q1 _ (fun x hx => by unfold vpB; rw [hx]), q2 _ (fun x hx => by unfold vpI; rw [hx])]
    exact h7
  · rw [q1 _ (fun x hx => by unfold vcB; rw [hx]), q2 _ (fun x hx => by unfold vcI; rw [hx])]
    exact h8
theorem Vw.lt (h : Vw S E lB lI B C) {j : Nat} (hj : inV E j) : j < S.1 := by
  rcases hj with ⟨o, ho, e⟩ | ⟨o, ho, e⟩
  · obtain ⟨q, hq⟩ := Option.ne_none_iff_exists'.mp ho
    have := h.b (o := o) (lim := q.1) (xs := q.2) hq
    rcases e with e | e <;> omega
  · obtain ⟨q, hq⟩ := Option.ne_none_iff_exists'.mp ho
    have := h.i (o := o) (bnd := q.1) (xs := q.2) hq
    rcases e with e | e <;> omega
/-- other cells come -/
theorem Vw.more {a b : Nat} (h : Vw S E lB lI B C) (h1 : S1.1 = S.1 + a) (h2 : S1.2.1 = S.2.1 + b) (h3 : ∀ j, j < S.1 → inV E j → S1.2.2 j = S.2.2 j) : Vw S1 E lB lI (B + b) (C + a) := by
  have h3 : ∀ j, inV E j → S1.2.2 j = S.2.2 j := fun j hj => h3 j (h.lt hj) hj
  refine ⟨fun o lim xs ho => ?_, fun o bnd xs ho => ?_, h.2.2.1, h.2.2.2.1, h.2.2.2.2.1, h.2.2.2.2.2.1, by have := h.2.2.2.2.2.2.1; omega, by have := h.2.2.2.2.2.2.2; omega⟩
  · obtain ⟨⟨k1, ⟨g, k2, k3⟩, k4⟩, k5, k6, k7⟩ := h.1 o lim xs ho
    exact ⟨⟨(h3 _ (Or.inl ⟨o, by rw [ho]; simp, Or.inl rfl⟩)).trans k1, ⟨g, (h3 _ (Or.inl ⟨o, by rw [ho]; simp, Or.inr rfl⟩)).trans k2, k3⟩, k4⟩, by omega, by omega, k7⟩
  · obtain ⟨⟨k1, ⟨g, k2, k3⟩, k4⟩, k5, k6, k7⟩ := h.2.1 o bnd xs ho
    exact ⟨⟨(h3 _ (Or.inr ⟨o, by rw [ho]; simp, Or.inl rfl⟩)).trans k1, ⟨g, (h3 _ (Or.inr ⟨o, by rw [ho]; simp, Or.inr rfl⟩)).trans k2, k3⟩, k4⟩, by omega, by omega, k7⟩
theorem Vw.no (h : Vw S E lB lI B C) {o : Nat} (ho : S.1 ≤ o) : E.1 o = none ∧ E.2.1 o = none := by
  constructor
  · cases hq : E.1 o with
    | none => rfl
    | some q => have := (h.b (o := o) (lim := q.1) (xs := q.2) hq).2.1; omega
  · cases hq : E.2.1 o with
    | none => rfl
    | some q => have := (h.i (o := o) (bnd := q.1) (xs := q.2) hq).2.1; omega
/-- a Bytes more -/
theorem Vw.newB {o r f lim a b : Nat} (h : Vw S E lB lI B C) (h1 : S1.1 = S.1 + a) (h2 : S1.2.1 = S.2.1 + b) (h3 : ∀ j, j < S.1 → inV E j → S1.2.2 j = S.2.2 j) (hB : isB S1 o r f lim []) (ho : S.1 ≤ o) (hr : S.1 ≤ r) (ho2 : o < S1.1) (hr2 : r < S1.1) : Vw S1 (eB E o (lim, []) (r, f)) (o :: lB.filter fun o => (E.1 o).isSome) (lI.filter fun o => (E.2.1 o).isSome) (B + b + pot lim f) (C + a + cpt lim f) := by
  obtain ⟨k1, k2, k3, k4, k5, k6, k7, k8⟩ := (h.trim).more h1 h2 h3
  have hno := h.no ho
  have e1 : ∀ x, x ≠ o → (eB E o (lim, []) (r, f)).1 x = E.1 x := fun x hx => va_up_ne _ _ hx
  have e2 : ∀ x, x ≠ o → (eB E o (lim, []) (r, f)).2.2.1 x = E.2.2.1 x := fun x hx => va_up_ne _ _ hx
  have e3 : (eB E o (lim, []) (r, f)).1 o = some (lim, []) := va_up_self _ _ _
  have e4 : (eB E o (lim, []) (r, f)).2.2.1 o = (r, f) := va_up_self _ _ _
  have hnr : ∀ x, E.1 x ≠ none → (E.2.2.1 x).1 ≠ r := fun x hx e => by
    obtain ⟨q, hq⟩ := Option.ne_none_iff_exists'.mp hx
    have := (h.b (o := x) (lim := q.1) (xs := q.2) hq).2.2.1
    omega
  have hml : o ∉ lB.filter fun o => (E.1 o).isSome := fun z => by
    have := (List.mem_filter.mp z).2
    rw [hno.1] at this
    cases this
  have hsm : ∀ (F G : Nat → Nat), (∀ x, x ≠ o → F x = G x) → sm F (lB.filter fun o => (E.1 o).isSome) = sm G (lB.filter fun o => (E.1 o).isSome) := fun F G hx => sm_eq _ (fun x hm => hx x (fun e => hml (e ▸ hm)))
  refine ⟨fun x l2 x2 hx => ?_, k2, fun x y hx hy he => ?_, k4, List.nodup_cons.mpr ⟨hml, k5⟩, k6, ?_, ?_⟩
  · by_cases q : x = o
    · subst q
      rw [e3] at hx
      cases hx
      rw [e4]
      exact ⟨hB, ho2, hr2, List.mem_cons_self⟩
    · rw [e1 x q] at hx
      rw [e2 x q]
      obtain ⟨a1, a2, a3, a4⟩ := k1 x l2 x2 hx
      exact ⟨a1, a2, a3, List.mem_cons_of_mem _ a4⟩
  · by_cases q : x = o
    · by_cases q2 : y = o
      · rw [q, q2]
      · subst q
        rw [e4, e2 y q2] at he
        rw [e1 y q2] at hy
        exact absurd he.symm (hnr y hy)
    · by_cases q2 : y = o
      · subst q2
        rw [e4, e2 x q] at he
        rw [e1 x q] at hx
        exact absurd he (hnr x hx)
      · rw [e1 x q] at hx
        rw [e1 y q2] at hy
        rw [e2 x q, e2 y q2] at he
        exact k3 x y hx hy he
  · show S1.2.1 + (vpB (eB E o (lim, []) (r, f)) o + sm (vpB (eB E o (lim, []) (r, f))) (lB.filter fun o => (E.1 o).isSome)) + sm (vpI E) (lI.filter fun o => (E.2.1 o).isSome) ≤ B + b + pot lim f
    rw [hsm (vpB (eB E o (lim, []) (r, f))) (vpB E) (fun x hx => by unfold vpB; rw [e1 x hx, e2 x hx]), show vpB (eB E o (lim, []) (r, f)) o = pot lim f by unfold vpB; rw [e3, e4]]
    omega
  · show S1.1 + (vcB (eB E o (lim, []) (r, f)) o + sm (vcB (eB E o (lim, []) (r, f))) (lB.filter fun o => (E.1 o).isSome)) + sm (vcI E) (lI.filter fun o => (E.2.1 o).isSome) ≤ C + a + cpt lim f
    rw [hsm (vcB (eB E o (lim, []) (r, f))) (vcB E) (fun x hx => by unfold vcB; rw [e1 x hx, e2 x hx]), show vcB (eB E o (lim, []) (r, f)) o = cpt lim f by unfold vcB; rw [e3, e4]]
    omega
/-- an Ints more -/
theorem Vw.newI {o r f bnd a b : Nat} (h : Vw S E lB lI B C) (h1 : S1.1 = S.1 + a) (h2 : S1.2.1 = S.2.1 + b) (h3 : ∀ j, j < S.1 → inV E j → S1.2.2 j = S.2.2 j) (hB : isI S1 o r f []) (hb : bnd ≤ 65536) (ho : S.1 ≤ o) (hr : S.1 ≤ r) (ho2 : o < S1.1) (hr2 : r < S1.1) : Vw S1 (eI E o (bnd, []) (r, f)) (lB.filter fun o => (E.1 o).isSome) (o :: lI.filter fun o => (E.2.1 o).isSome) (B + b + potI bnd f) (C + a + cpt bnd f) := by
  obtain ⟨k1, k2, k3, k4, k5, k6, k7, k8⟩ := (h.trim).more h1 h2 h3
  have hno := h.no ho
  have e1 : ∀ x, x ≠ o → (eI E o (bnd, []) (r, f)).2.1 x = E.2.1 x := fun x hx => va_up_ne _ _ hx
  have e2 : ∀ x, x ≠ o → (eI E o (bnd, []) (r, f)).2.2.2 x = E.2.2.2 x := fun x hx => va_up_ne _ _ hx
  have e3 : (eI E o (bnd, []) (r, f)).2.1 o = some (bnd, []) := va_up_self _ _ _
  have e4 : (eI E o (bnd, []) (r, f)).2.2.2 o = (r, f) := va_up_self _ _ _
  have hnr : ∀ x, E.2.1 x ≠ none → (E.2.2.2 x).1 ≠ r := fun x hx e => by
    obtain ⟨q, hq⟩ := Option.ne_none_iff_exists'.mp hx
    have := (h.i (o := x) (bnd := q.1) (xs := q.2) hq).2.2.1
    omega
  have hml : o ∉ lI.filter fun o => (E.2.1 o).isSome := fun z => by
    have := (List.mem_filter.mp z).2
    rw [hno.2] at this
    cases this
  have hsm : ∀ (F G : Nat → Nat), (∀ x, x ≠ o → F x = G x) → sm F (lI.filter fun o => (E.2.1 o).isSome) = sm G (lI.filter fun o => (E.2.1 o).isSome) := fun F G hx => sm_eq _ (fun x hm => hx x (fun e => hml (e ▸ hm)))
  refine ⟨k1, fun x l2 x2 hx => ?_, k3, fun x y hx hy he => ?_, k5, List.nodup_cons.mpr ⟨hml, k6⟩, ?_, ?_⟩
  · by_cases q : x = o
    · subst q
      rw [e3] at hx
      cases hx
      rw [e4]
      exact ⟨hB, ho2, hr2, Nat.zero_le _, hb, List.mem_cons_self⟩
    · rw [e1 x q] at hx
      rw [e2 x q]
      obtain ⟨a1, a2, a3, a4, a5, a6⟩ := k2 x l2 x2 hx
      exact ⟨a1, a2, a3, a4, a5, List.mem_cons_of_mem _ a6⟩
  · by_cases q : x = o
    · by_cases q2 : y = o
      · rw [q, q2]
      · subst q
        rw [e4, e2 y q2] at he
        rw [e1 y q2] at hy
        exact absurd he.symm (hnr y hy)
    · by_cases q2 : y = o
      · subst q2
        rw [e4, e2 x q] at he
        rw [e1 x q] at hx
        exact absurd he (hnr x hx)
      · rw [e1 x q] at hx
        rw [e1 y q2] at hy
        rw [e2 x q, e2 y q2] at he
        exact k4 x y hx hy he
  · show S1.2.1 + sm (vpB E) (lB.filter fun o => (E.1 o).isSome) + (vpI (eI E o (bnd, []) (r, f)) o + sm (vpI (eI E o (bnd, []) (r, f))) (lI.filter fun o => (E.2.1 o).isSome)) ≤ B + b + potI bnd f
    rw [hsm (vpI (eI E o (bnd, []) (r, f))) (vpI E) (fun x hx => by unfold vpI; rw [e1 x hx, e2 x hx]), show vpI (eI E o (bnd, []) (r, f)) o = potI bnd f by unfold vpI; rw [e3, e4]]
    omega
  · show S1.1 + sm (vcB E) (lB.filter fun o => (E.1 o).isSome) + (vcI (eI E o (bnd, []) (r, f)) o + sm (vcI (eI E o (bnd, []) (r, f))) (lI.filter fun o => (E.2.1 o).isSome)) ≤ C + a + cpt bnd f
    rw [hsm (vcI (eI E o (bnd, []) (r, f))) (vcI E) (fun x hx => by unfold vcI; rw [e1 x hx, e2 x hx]), show vcI (eI E o (bnd, []) (r, f)) o = cpt bnd f by unfold vcI; rw [e3, e4]]
    omega
theorem FrV.newB {o r f lim : Nat} {X : List Nat} (h0 : S.1 ≤ S1.1 ∧ S.2.1 ≤ S1.2.1) (h3 : ∀ j, j < S.1 → j ∉ X → S1.2.2 j = S.2.2 j) (ho : S.1 ≤ o) (hr : S.1 ≤ r) : FrV S S1 E (eB E o (lim, []) (r, f)) X := by
  refine ⟨h0.1, h0.2, fun j hj _ hx => h3 j hj hx, fun j hj hq => ?_⟩
  rcases hq with ⟨x, hx, e⟩ | q
  · by_cases q : x = o
    · subst q
      rw [show (eB E x (lim, []) (r, f)).2.2.1 x = (r, f) from va_up_self _ _ _] at e
      have e : j = x ∨ j = r := e
      omega
    · rw [show (eB E o (lim, []) (r, f)).1 x = E.1 x from va_up_ne _ _ q] at hx
      rw [show (eB E o (lim, []) (r, f)).2.2.1 x = E.2.2.1 x from va_up_ne _ _ q] at e
      exact Or.inl ⟨x, hx, e⟩
  · exact Or.inr q
theorem FrV.newI {o r f bnd : Nat} {X : List Nat} (h0 : S.1 ≤ S1.1 ∧ S.2.1 ≤ S1.2.1) (h3 : ∀ j, j < S.1 → j ∉ X → S1.2.2 j = S.2.2 j) (ho : S.1 ≤ o) (hr : S.1 ≤ r) : FrV S S1 E (eI E o (bnd, []) (r, f)) X := by
  refine ⟨h0.1, h0.2, fun j hj _ hx => h3 j hj hx, fun j hj hq => ?_⟩
  rcases hq with q | ⟨x, hx, e⟩
  · exact Or.inl q
  · by_cases q : x = o
    · subst q
      rw [show (eI E x (bnd, []) (r, f)).2.2.2 x = (r, f) from va_up_self _ _ _] at e
      have e : j = x ∨ j = r := e
      omega
    · rw [show (eI E o (bnd, []) (r, f)).2.1 x = E.2.1 x from va_up_ne _ _ q] at hx
      rw [show (eI E o (bnd, []) (r, f)).2.2.2 x = E.2.2.2 x from va_up_ne _ _ q] at e
      exact Or.inr ⟨x, hx, e⟩
theorem FrV.more {X : List Nat} (h0 : S.1 ≤ S1.1 ∧ S.2.1 ≤ S1.2.1) (h3 : ∀ j, j < S.1 → j ∉ X → S1.2.2 j = S.2.2 j) : FrV S S1 E E X := ⟨h0.1, h0.2, fun j hj _ hx => h3 j hj hx, fun j hj hq => hq⟩
theorem C_X1_init {d b : Nat} (hb : S.2.2 b = .inr (2, [.null, .int 0])) (hbl : b < S.1) : Rc (d + 1) mX1_init [.ref b] S (fun v S1 => v = none ∧ isI S1 b S.1 8 [] ∧ S1.1 = S.1 + 1 ∧ S1.2.1 = S.2.1 + 8 ∧ ∀ j, j < S.1 → j ≠ b → S1.2.2 j = S.2.2 j) := by
  refine Rc.of ?_
  have hb2 : (z_new S (.inl (.int, 8, .inl (fun _ => 0))) 8).2.2 b = .inr (2, [.null, .int 0]) := (va_up_ne _ _ (Nat.ne_of_lt hbl)).trans hb
  refine r_aload_n dX1_init_0 (by first | rfl | assumption) ?_
  refine r_objInit dX1_init_1 zo_X1_1 (by decide) ?_
  refine r_aload_n dX1_init_4 (by first | rfl | assumption) ?_
  refine r_bp (8) dX1_init_5 rfl ?_
  refine r_newi dX1_init_7 (by decide) rfl (by decide) z_ac_int ?_
  refine r_putf dX1_init_9 zf_X1_7 (by assumption) (Nat.le_of_ble_eq_true rfl) ⟨rfl, rfl⟩ ?_
  refine r_return dX1_init_12 rfl ⟨rfl, ⟨z_put_self, ⟨fun _ => 0, (z_put_ne (Nat.ne_of_gt hbl)).trans (va_up_self _ _ _), fun k hk => by cases hk⟩, Nat.zero_le _, by decide⟩, rfl, rfl, fun j hj hn => (z_put_ne hn).trans (va_up_ne _ _ (Nat.ne_of_lt hj))⟩
end
