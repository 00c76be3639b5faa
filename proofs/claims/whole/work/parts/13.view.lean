/-! ALL Bytes AND Ints AT ONCE: E says of each number what it is (a Bytes of a limit, with bytes; an Ints of a bound, with ints), and where its row is, of how many places; what rows may still grow is paid ahead (B slots, C cells) -/
abbrev zE : Type := (Nat → Option (Nat × List Nat)) × (Nat → Option (Nat × List Int32)) × (Nat → Nat × Nat) × (Nat → Nat × Nat)
def inV (E : zE) (j : Nat) : Prop := (∃ o, E.1 o ≠ none ∧ (j = o ∨ j = (E.2.2.1 o).1)) ∨ ∃ o, E.2.1 o ≠ none ∧ (j = o ∨ j = (E.2.2.2 o).1)
def potI (N c : Nat) : Nat := if N ≤ c then 0 else 6 * N + 24 - 2 * c
def vpB (E : zE) (o : Nat) : Nat := match E.1 o with
  | some q => pot q.1 (E.2.2.1 o).2
  | none => 0
def vcB (E : zE) (o : Nat) : Nat := match E.1 o with
  | some q => cpt q.1 (E.2.2.1 o).2
  | none => 0
def vpI (E : zE) (o : Nat) : Nat := match E.2.1 o with
  | some q => potI q.1 (E.2.2.2 o).2
  | none => 0
def vcI (E : zE) (o : Nat) : Nat := match E.2.1 o with
  | some q => cpt q.1 (E.2.2.2 o).2
  | none => 0
def sm (f : Nat → Nat) : List Nat → Nat
  | [] => 0
  | o :: l => f o + sm f l
theorem sm_eq {f g : Nat → Nat} : ∀ (l : List Nat), (∀ x ∈ l, f x = g x) → sm f l = sm g l
  | [], _ => rfl
  | o :: l, h => by
    unfold sm
    rw [h o List.mem_cons_self, sm_eq l (fun x hx => h x (List.mem_cons_of_mem _ hx))]
theorem sm_up {f g : Nat → Nat} {o : Nat} : ∀ (l : List Nat), l.Nodup → o ∈ l → (∀ x, x ≠ o → g x = f x) → sm g l + f o = sm f l + g o
  | [], _, h, _ => by cases h
  | a :: l, hn, h, hx => by
    unfold sm
    rw [List.nodup_cons] at hn
    by_cases e : a = o
    · subst e
      rw [sm_eq (f := g) (g := f) l (fun x hm => hx x (fun q => hn.1 (q ▸ hm)))]
      omega
    · have h1 : o ∈ l := by
        rcases List.mem_cons.mp h with q | q
        · exact absurd q.symm e
        · exact q
      have := sm_up l hn.2 h1 hx
      rw [hx a e]
      omega
def Vw (S : zS) (E : zE) (lB lI : List Nat) (B C : Nat) : Prop :=
  (∀ o lim xs, E.1 o = some (lim, xs) → isB S o (E.2.2.1 o).1 (E.2.2.1 o).2 lim xs ∧ o < S.1 ∧ (E.2.2.1 o).1 < S.1 ∧ o ∈ lB) ∧
  (∀ o bnd xs, E.2.1 o = some (bnd, xs) → isI S o (E.2.2.2 o).1 (E.2.2.2 o).2 xs ∧ o < S.1 ∧ (E.2.2.2 o).1 < S.1 ∧ xs.length ≤ bnd ∧ bnd ≤ 65536 ∧ o ∈ lI) ∧
  (∀ o1 o2, E.1 o1 ≠ none → E.1 o2 ≠ none → (E.2.2.1 o1).1 = (E.2.2.1 o2).1 → o1 = o2) ∧ (∀ o1 o2, E.2.1 o1 ≠ none → E.2.1 o2 ≠ none → (E.2.2.2 o1).1 = (E.2.2.2 o2).1 → o1 = o2) ∧ lB.Nodup ∧ lI.Nodup ∧
  S.2.1 + sm (vpB E) lB + sm (vpI E) lI ≤ B ∧ S.1 + sm (vcB E) lB + sm (vcI E) lI ≤ C
/-- nothing else changed but what the view speaks of, and the cells of X -/
def FrV (S S1 : zS) (E E1 : zE) (X : List Nat) : Prop := S.1 ≤ S1.1 ∧ S.2.1 ≤ S1.2.1 ∧ (∀ j, j < S.1 → ¬ inV E j → j ∉ X → S1.2.2 j = S.2.2 j) ∧ ∀ j, j < S.1 → inV E1 j → inV E j
theorem FrV.rf {S : zS} {E : zE} {X : List Nat} : FrV S S E E X := ⟨Nat.le_refl _, Nat.le_refl _, fun _ _ _ _ => rfl, fun _ _ h => h⟩
theorem FrV.tr {S S1 S2 : zS} {E E1 E2 : zE} {X : List Nat} (h : FrV S S1 E E1 X) (k : FrV S1 S2 E1 E2 X) : FrV S S2 E E2 X := by
  obtain ⟨h1, h2, h3, h4⟩ := h
  obtain ⟨k1, k2, k3, k4⟩ := k
  exact ⟨Nat.le_trans h1 k1, Nat.le_trans h2 k2, fun j hj hn hx => (k3 j (Nat.lt_of_lt_of_le hj h1) (fun q => hn (h4 j hj q)) hx).trans (h3 j hj hn hx), fun j hj hq => h4 j hj (k4 j (Nat.lt_of_lt_of_le hj h1) hq)⟩
theorem FrV.mono {S S1 : zS} {E E1 : zE} {X Y : List Nat} (h : FrV S S1 E E1 X) (hs : ∀ x ∈ X, x ∈ Y) : FrV S S1 E E1 Y := ⟨h.1, h.2.1, fun j hj hn hy => h.2.2.1 j hj hn (fun q => hy (hs j q)), h.2.2.2⟩
/-- the view doesn't see a change elsewhere -/
theorem Vw.else {S S1 : zS} {E : zE} {lB lI : List Nat} {B C : Nat} (h : Vw S E lB lI B C) (h1 : S1.1 = S.1) (h2 : S1.2.1 = S.2.1) (h3 : ∀ j, inV E j → S1.2.2 j = S.2.2 j) : Vw S1 E lB lI B C := by
  refine ⟨fun o lim xs ho => ?_, fun o bnd xs ho => ?_, h.2.2.1, h.2.2.2.1, h.2.2.2.2.1, h.2.2.2.2.2.1, by rw [h2]; exact h.2.2.2.2.2.2.1, by rw [h1]; exact h.2.2.2.2.2.2.2⟩
  · obtain ⟨⟨k1, ⟨g, k2, k3⟩, k4⟩, k5⟩ := h.1 o lim xs ho
    rw [h1]
    exact ⟨⟨(h3 _ (Or.inl ⟨o, by rw [ho]; simp, Or.inl rfl⟩)).trans k1, ⟨g, (h3 _ (Or.inl ⟨o, by rw [ho]; simp, Or.inr rfl⟩)).trans k2, k3⟩, k4⟩, k5⟩
  · obtain ⟨⟨k1, ⟨g, k2, k3⟩, k4⟩, k5⟩ := h.2.1 o bnd xs ho
    rw [h1]
    exact ⟨⟨(h3 _ (Or.inr ⟨o, by rw [ho]; simp, Or.inl rfl⟩)).trans k1, ⟨g, (h3 _ (Or.inr ⟨o, by rw [ho]; simp, Or.inr rfl⟩)).trans k2, k3⟩, k4⟩, k5⟩
theorem Vw.put {S : zS} {E : zE} {lB lI : List Nat} {B C x : Nat} {c : zC} (h : Vw S E lB lI B C) (hx : ¬ inV E x) : Vw (z_put S x c) E lB lI B C := h.else rfl rfl (fun j hj => va_up_ne _ _ (fun e => hx (e ▸ hj)))
theorem FrV.put {S : zS} {E : zE} {x : Nat} {c : zC} {X : List Nat} (hx : x ∈ X) : FrV S (z_put S x c) E E X := ⟨Nat.le_refl _, Nat.le_refl _, fun j _ _ hn => va_up_ne _ _ (fun e => hn (e ▸ hx)), fun _ _ h => h⟩
theorem Vw.b {S : zS} {E : zE} {lB lI : List Nat} {B C o lim : Nat} {xs : List Nat} (h : Vw S E lB lI B C) (ho : E.1 o = some (lim, xs)) : isB S o (E.2.2.1 o).1 (E.2.2.1 o).2 lim xs ∧ o < S.1 ∧ (E.2.2.1 o).1 < S.1 ∧ o ∈ lB := h.1 o lim xs ho
theorem Vw.i {S : zS} {E : zE} {lB lI : List Nat} {B C o bnd : Nat} {xs : List Int32} (h : Vw S E lB lI B C) (ho : E.2.1 o = some (bnd, xs)) : isI S o (E.2.2.2 o).1 (E.2.2.2 o).2 xs ∧ o < S.1 ∧ (E.2.2.2 o).1 < S.1 ∧ xs.length ≤ bnd ∧ bnd ≤ 65536 ∧ o ∈ lI := h.2.1 o bnd xs ho
/-- a cell that is neither a Bytes nor an Ints nor a row of theirs -/
theorem Vw.raw {S : zS} {E : zE} {lB lI : List Nat} {B C x ci : Nat} {fs : List Value} (h : Vw S E lB lI B C) (hx : S.2.2 x = .inr (ci, fs)) (h1 : ci ≠ 1) (h2 : ci ≠ 2) : ¬ inV E x := by
  rintro (⟨o, ho, e⟩ | ⟨o, ho, e⟩)
  · obtain ⟨⟨lim, xs⟩, hq⟩ := Option.ne_none_iff_exists'.mp ho
    obtain ⟨⟨hb, ⟨g, hr, -⟩, -⟩, -⟩ := h.b hq
    rcases e with rfl | rfl
    · rw [hx] at hb; cases hb; exact h1 rfl
    · rw [hx] at hr; cases hr
  · obtain ⟨⟨lim, xs⟩, hq⟩ := Option.ne_none_iff_exists'.mp ho
    obtain ⟨⟨hb, ⟨g, hr, -⟩, -⟩, -⟩ := h.i hq
    rcases e with rfl | rfl
    · rw [hx] at hb; cases hb; exact h2 rfl
    · rw [hx] at hr; cases hr
theorem Vw.rawA {S : zS} {E : zE} {lB lI : List Nat} {B C x : Nat} {ty : FieldType} {a : vp_A} (h : Vw S E lB lI B C) (hx : S.2.2 x = .inl (ty, a)) (h1 : ty ≠ .byte) (h2 : ty ≠ .int) : ¬ inV E x := by
  rintro (⟨o, ho, e⟩ | ⟨o, ho, e⟩)
  · obtain ⟨⟨lim, xs⟩, hq⟩ := Option.ne_none_iff_exists'.mp ho
    obtain ⟨⟨hb, ⟨g, hr, -⟩, -⟩, -⟩ := h.b hq
    rcases e with rfl | rfl
    · rw [hx] at hb; cases hb
    · rw [hx] at hr; cases hr; exact h1 rfl
  · obtain ⟨⟨lim, xs⟩, hq⟩ := Option.ne_none_iff_exists'.mp ho
    obtain ⟨⟨hb, ⟨g, hr, -⟩, -⟩, -⟩ := h.i hq
    rcases e with rfl | rfl
    · rw [hx] at hb; cases hb
    · rw [hx] at hr; cases hr; exact h2 rfl
def eB (E : zE) (o : Nat) (q : Nat × List Nat) (rc : Nat × Nat) : zE := (va_up E.1 o (some q), E.2.1, va_up E.2.2.1 o rc, E.2.2.2)
def eI (E : zE) (o : Nat) (q : Nat × List Int32) (rc : Nat × Nat) : zE := (E.1, va_up E.2.1 o (some q), E.2.2.1, va_up E.2.2.2 o rc)
set_option maxHeartbeats 1000000 in
theorem Vw.setB {S S1 : zS} {E : zE} {lB lI : List Nat} {B C o lim r1 cp : Nat} {xs ys : List Nat} (h : Vw S E lB lI B C) (ho : E.1 o = some (lim, xs)) (hB : isB S1 o r1 cp lim ys) (hg : gB S S1 o (E.2.2.1 o).1 (E.2.2.1 o).2 lim r1 cp) : Vw S1 (eB E o (lim, ys) (r1, cp)) lB lI B C ∧ FrV S S1 E (eB E o (lim, ys) (r1, cp)) [] := by
  obtain ⟨hbb, hob, hrb, hlb⟩ := h.b ho
  obtain ⟨f0, f1, f2, f3, f4⟩ := id hg
  have hne := hbb.ne
  have hcell := hbb.1
  obtain ⟨gg, hrow, -⟩ := hbb.2.1
  have hW : ∀ x, x < S.1 → x ≠ o → x ≠ (E.2.2.1 o).1 → S1.2.2 x = S.2.2 x := fun x hx a b => f0.2.2 x hx (by simp; exact ⟨a, b⟩)
  have oth : ∀ o2 q2, o2 ≠ o → E.1 o2 = some q2 → isB S1 o2 (E.2.2.1 o2).1 (E.2.2.1 o2).2 q2.1 q2.2 ∧ o2 < S1.1 ∧ (E.2.2.1 o2).1 < S1.1 ∧ o2 ∈ lB := by
    intro o2 q2 hn h2
    obtain ⟨k1, k2, k3, k4⟩ := h.b (o := o2) (lim := q2.1) (xs := q2.2) h2
    obtain ⟨g2, hrow2, -⟩ := k1.2.1
    refine ⟨k1.keep f0 k2 k3 ?_ ?_, Nat.lt_of_lt_of_le k2 f0.1, Nat.lt_of_lt_of_le k3 f0.1, k4⟩
    · simp only [List.mem_cons, List.not_mem_nil, or_false, not_or]
      refine ⟨hn, fun e => ?_⟩
      have := k1.1
      rw [e, hrow] at this
      cases this
    · simp only [List.mem_cons, List.not_mem_nil, or_false, not_or]
      refine ⟨fun e => ?_, fun e => hn (h.2.2.1 o2 o (by rw [h2]; simp) (by rw [ho]; simp) e)⟩
      rw [e, hcell] at hrow2
      cases hrow2
  have othI : ∀ o2 q2, E.2.1 o2 = some q2 → isI S1 o2 (E.2.2.2 o2).1 (E.2.2.2 o2).2 q2.2 ∧ o2 < S1.1 ∧ (E.2.2.2 o2).1 < S1.1 ∧ q2.2.length ≤ q2.1 ∧ q2.1 ≤ 65536 ∧ o2 ∈ lI := by
    intro o2 q2 h2
    obtain ⟨k1, k2, k3, k4⟩ := h.i (o := o2) (bnd := q2.1) (xs := q2.2) h2
    obtain ⟨g2, hrow2, -⟩ := k1.2.1
    refine ⟨k1.keep f0 k2 k3 ?_ ?_, Nat.lt_of_lt_of_le k2 f0.1, Nat.lt_of_lt_of_le k3 f0.1, k4⟩
    · simp only [List.mem_cons, List.not_mem_nil, or_false, not_or]
      refine ⟨fun e => ?_, fun e => ?_⟩
      · have := k1.1
        rw [e, hcell] at this
        cases this
      · have := k1.1
        rw [e, hrow] at this
        cases this
    · simp only [List.mem_cons, List.not_mem_nil, or_false, not_or]
      refine ⟨fun e => ?_, fun e => ?_⟩
      · rw [e, hcell] at hrow2
        cases hrow2
      · rw [e, hrow] at hrow2
        cases hrow2
  have e1 : ∀ x, x ≠ o → (eB E o (lim, ys) (r1, cp)).1 x = E.1 x := fun x hx => va_up_ne _ _ hx
  have e2 : ∀ x, x ≠ o → (eB E o (lim, ys) (r1, cp)).2.2.1 x = E.2.2.1 x := fun x hx => va_up_ne _ _ hx
  have e3 : (eB E o (lim, ys) (r1, cp)).1 o = some (lim, ys) := va_up_self _ _ _
  have e4 : (eB E o (lim, ys) (r1, cp)).2.2.1 o = (r1, cp) := va_up_self _ _ _
  have inj : ∀ o2, o2 ≠ o → E.1 o2 ≠ none → (E.2.2.1 o2).1 ≠ r1 := by
    intro o2 hn h2 e
    obtain ⟨q2, hq2⟩ := Option.ne_none_iff_exists'.mp h2
    have k3 := (h.b (o := o2) (lim := q2.1) (xs := q2.2) hq2).2.2.1
    rcases f1 with q | q
    · exact hn (h.2.2.1 o2 o h2 (by rw [ho]; simp) (e.trans q))
    · omega
  refine ⟨⟨?_, ?_, ?_, h.2.2.2.1, h.2.2.2.2.1, h.2.2.2.2.2.1, ?_, ?_⟩, f0.1, f0.2.1, ?_, ?_⟩
  · intro o2 l2 x2 h2
    by_cases e : o2 = o
    · subst e
      rw [e3] at h2
      cases h2
      rw [e4]
      exact ⟨hB, Nat.lt_of_lt_of_le hob f0.1, f2, hlb⟩
    · rw [e1 o2 e] at h2
      rw [e2 o2 e]
      exact oth o2 (l2, x2) e h2
  · intro o2 l2 x2 h2
    exact othI o2 (l2, x2) h2
  · intro o1 o2 h1 h2 he
    by_cases q1 : o1 = o
    · by_cases q2 : o2 = o
      · rw [q1, q2]
      · subst q1
        rw [e4, e2 o2 q2] at he
        rw [e1 o2 q2] at h2
        exact absurd he.symm (inj o2 q2 h2)
    · by_cases q2 : o2 = o
      · subst q2
        rw [e4, e2 o1 q1] at he
        rw [e1 o1 q1] at h1
        exact absurd he (inj o1 q1 h1)
      · rw [e1 o1 q1] at h1
        rw [e1 o2 q2] at h2
        rw [e2 o1 q1, e2 o2 q2] at he
        exact h.2.2.1 o1 o2 h1 h2 he
  · have s1 := sm_up (f := vpB E) (g := vpB (eB E o (lim, ys) (r1, cp))) lB h.2.2.2.2.1 hlb (fun x hx => by unfold vpB; rw [e1 x hx, e2 x hx])
    have s2 : vpB E o = pot lim (E.2.2.1 o).2 := by unfold vpB; rw [ho]
    have s3 : vpB (eB E o (lim, ys) (r1, cp)) o = pot lim cp := by unfold vpB; rw [e3, e4]
    have s4 : sm (vpI (eB E o (lim, ys) (r1, cp))) lI = sm (vpI E) lI := rfl
    have s5 := h.2.2.2.2.2.2.1
    omega
  · have s1 := sm_up (f := vcB E) (g := vcB (eB E o (lim, ys) (r1, cp))) lB h.2.2.2.2.1 hlb (fun x hx => by unfold vcB; rw [e1 x hx, e2 x hx])
    have s2 : vcB E o = cpt lim (E.2.2.1 o).2 := by unfold vcB; rw [ho]
    have s3 : vcB (eB E o (lim, ys) (r1, cp)) o = cpt lim cp := by unfold vcB; rw [e3, e4]
    have s4 : sm (vcI (eB E o (lim, ys) (r1, cp))) lI = sm (vcI E) lI := rfl
    have s5 := h.2.2.2.2.2.2.2
    omega
  · intro j hj hn _
    refine hW j hj (fun e => hn (Or.inl ⟨o, by rw [ho]; simp, Or.inl e⟩)) (fun e => hn (Or.inl ⟨o, by rw [ho]; simp, Or.inr e⟩))
  · intro j hj hq
    rcases hq with ⟨o2, h2, e⟩ | ⟨o2, h2, e⟩
    · by_cases q : o2 = o
      · subst q
        refine Or.inl ⟨o2, by rw [ho]; simp, ?_⟩
        rcases e with e | e
        · exact Or.inl e
        · rw [e4] at e
          rcases f1 with q | q
          · exact Or.inr (e.trans q)
          · have : j = r1 := e
            omega
      · rw [e1 o2 q] at h2
        rw [e2 o2 q] at e
        exact Or.inl ⟨o2, h2, e⟩
    · exact Or.inr ⟨o2, h2, e⟩
/-- an Ints' row grows likewise -/
def gI (S S1 : zS) (b r cap bnd r1 cp : Nat) : Prop := fr S S1 [b, r] ∧ (r1 = r ∨ S.1 ≤ r1) ∧ r1 < S1.1 ∧ S1.2.1 + potI bnd cp ≤ S.2.1 + potI bnd cap ∧ S1.1 + cpt bnd cp ≤ S.1 + cpt bnd cap
set_option maxHeartbeats 1000000 in
theorem Vw.setI {S S1 : zS} {E : zE} {lB lI : List Nat} {B C o bnd r1 cp : Nat} {xs ys : List Int32} (h : Vw S E lB lI B C) (ho : E.2.1 o = some (bnd, xs)) (hB : isI S1 o r1 cp ys) (hly : ys.length ≤ bnd) (hg : gI S S1 o (E.2.2.2 o).1 (E.2.2.2 o).2 bnd r1 cp) : Vw S1 (eI E o (bnd, ys) (r1, cp)) lB lI B C ∧ FrV S S1 E (eI E o (bnd, ys) (r1, cp)) [] := by
  obtain ⟨hbb, hob, hrb, hlx, hbn, hlb⟩ := h.i ho
  obtain ⟨f0, f1, f2, f3, f4⟩ := id hg
  have hne := hbb.ne
  have hcell := hbb.1
  obtain ⟨gg, hrow, -⟩ := hbb.2.1
  have hW : ∀ x, x < S.1 → x ≠ o → x ≠ (E.2.2.2 o).1 → S1.2.2 x = S.2.2 x := fun x hx a b => f0.2.2 x hx (by simp; exact ⟨a, b⟩)
  have oth : ∀ o2 q2, o2 ≠ o → E.2.1 o2 = some q2 → isI S1 o2 (E.2.2.2 o2).1 (E.2.2.2 o2).2 q2.2 ∧ o2 < S1.1 ∧ (E.2.2.2 o2).1 < S1.1 ∧ q2.2.length ≤ q2.1 ∧ q2.1 ≤ 65536 ∧ o2 ∈ lI := by
    intro o2 q2 hn h2
    obtain ⟨k1, k2, k3, k4⟩ := h.i (o := o2) (bnd := q2.1) (xs := q2.2) h2
    obtain ⟨g2, hrow2, -⟩ := k1.2.1
    refine ⟨k1.keep f0 k2 k3 ?_ ?_, Nat.lt_of_lt_of_le k2 f0.1, Nat.lt_of_lt_of_le k3 f0.1, k4⟩
    · simp only [List.mem_cons, List.not_mem_nil, or_false, not_or]
      refine ⟨hn, fun e => ?_⟩
      have := k1.1
      rw [e, hrow] at this
      cases this
    · simp only [List.mem_cons, List.not_mem_nil, or_false, not_or]
      refine ⟨fun e => ?_, fun e => hn (h.2.2.2.1 o2 o (by rw [h2]; simp) (by rw [ho]; simp) e)⟩
      rw [e, hcell] at hrow2
      cases hrow2
  have othI : ∀ o2 q2, E.1 o2 = some q2 → isB S1 o2 (E.2.2.1 o2).1 (E.2.2.1 o2).2 q2.1 q2.2 ∧ o2 < S1.1 ∧ (E.2.2.1 o2).1 < S1.1 ∧ o2 ∈ lB := by
    intro o2 q2 h2
    obtain ⟨k1, k2, k3, k4⟩ := h.b (o := o2) (lim := q2.1) (xs := q2.2) h2
    obtain ⟨g2, hrow2, -⟩ := k1.2.1
    refine ⟨k1.keep f0 k2 k3 ?_ ?_, Nat.lt_of_lt_of_le k2 f0.1, Nat.lt_of_lt_of_le k3 f0.1, k4⟩
    · simp only [List.mem_cons, List.not_mem_nil, or_false, not_or]
      refine ⟨fun e => ?_, fun e => ?_⟩
      · have := k1.1
        rw [e, hcell] at this
        cases this
      · have := k1.1
        rw [e, hrow] at this
        cases this
    · simp only [List.mem_cons, List.not_mem_nil, or_false, not_or]
      refine ⟨fun e => ?_, fun e => ?_⟩
      · rw [e, hcell] at hrow2
        cases hrow2
      · rw [e, hrow] at hrow2
        cases hrow2
  have e1 : ∀ x, x ≠ o → (eI E o (bnd, ys) (r1, cp)).2.1 x = E.2.1 x := fun x hx => va_up_ne _ _ hx
  have e2 : ∀ x, x ≠ o → (eI E o (bnd, ys) (r1, cp)).2.2.2 x = E.2.2.2 x := fun x hx => va_up_ne _ _ hx
  have e3 : (eI E o (bnd, ys) (r1, cp)).2.1 o = some (bnd, ys) := va_up_self _ _ _
  have e4 : (eI E o (bnd, ys) (r1, cp)).2.2.2 o = (r1, cp) := va_up_self _ _ _
  have inj : ∀ o2, o2 ≠ o → E.2.1 o2 ≠ none → (E.2.2.2 o2).1 ≠ r1 := by
    intro o2 hn h2 e
    obtain ⟨q2, hq2⟩ := Option.ne_none_iff_exists'.mp h2
    have k3 := (h.i (o := o2) (bnd := q2.1) (xs := q2.2) hq2).2.2.1
    rcases f1 with q | q
    · exact hn (h.2.2.2.1 o2 o h2 (by rw [ho]; simp) (e.trans q))
    · omega
  refine ⟨⟨?_, ?_, h.2.2.1, ?_, h.2.2.2.2.1, h.2.2.2.2.2.1, ?_, ?_⟩, f0.1, f0.2.1, ?_, ?_⟩
  · intro o2 l2 x2 h2
    exact othI o2 (l2, x2) h2
  · intro o2 l2 x2 h2
    by_cases e : o2 = o
    · subst e
      rw [e3] at h2
      cases h2
      rw [e4]
      exact ⟨hB, Nat.lt_of_lt_of_le hob f0.1, f2, hly, hbn, hlb⟩
    · rw [e1 o2 e] at h2
      rw [e2 o2 e]
      exact oth o2 (l2, x2) e h2
  · intro o1 o2 h1 h2 he
    by_cases q1 : o1 = o
    · by_cases q2 : o2 = o
      · rw [q1, q2]
      · subst q1
        rw [e4, e2 o2 q2] at he
        rw [e1 o2 q2] at h2
        exact absurd he.symm (inj o2 q2 h2)
    · by_cases q2 : o2 = o
      · subst q2
        rw [e4, e2 o1 q1] at he
        rw [e1 o1 q1] at h1
        exact absurd he (inj o1 q1 h1)
      · rw [e1 o1 q1] at h1
        rw [e1 o2 q2] at h2
        rw [e2 o1 q1, e2 o2 q2] at he
        exact h.2.2.2.1 o1 o2 h1 h2 he
  · have s1 := sm_up (f := vpI E) (g := vpI (eI E o (bnd, ys) (r1, cp))) lI h.2.2.2.2.2.1 hlb (fun x hx => by unfold vpI; rw [e1 x hx, e2 x hx])
    have s2 : vpI E o = potI bnd (E.2.2.2 o).2 := by unfold vpI; rw [ho]
    have s3 : vpI (eI E o (bnd, ys) (r1, cp)) o = potI bnd cp := by unfold vpI; rw [e3, e4]
    have s4 : sm (vpB (eI E o (bnd, ys) (r1, cp))) lB = sm (vpB E) lB := rfl
    have s5 := h.2.2.2.2.2.2.1
    omega
  · have s1 := sm_up (f := vcI E) (g := vcI (eI E o (bnd, ys) (r1, cp))) lI h.2.2.2.2.2.1 hlb (fun x hx => by unfold vcI; rw [e1 x hx, e2 x hx])
    have s2 : vcI E o = cpt bnd (E.2.2.2 o).2 := by unfold vcI; rw [ho]
    have s3 : vcI (eI E o (bnd, ys) (r1, cp)) o = cpt bnd cp := by unfold vcI; rw [e3, e4]
    have s4 : sm (vcB (eI E o (bnd, ys) (r1, cp))) lB = sm (vcB E) lB := rfl
    have s5 := h.2.2.2.2.2.2.2
    omega
  · intro j hj hn _
    refine hW j hj (fun e => hn (Or.inr ⟨o, by rw [ho]; simp, Or.inl e⟩)) (fun e => hn (Or.inr ⟨o, by rw [ho]; simp, Or.inr e⟩))
  · intro j hj hq
    rcases hq with ⟨o2, h2, e⟩ | ⟨o2, h2, e⟩
    · exact Or.inl ⟨o2, h2, e⟩
    · by_cases q : o2 = o
      · subst q
        refine Or.inr ⟨o2, by rw [ho]; simp, ?_⟩
        rcases e with e | e
        · exact Or.inl e
        · rw [e4] at e
          rcases f1 with q | q
          · exact Or.inr (e.trans q)
          · have : j = r1 := e
            omega
      · rw [e1 o2 q] at h2
        rw [e2 o2 q] at e
        exact Or.inr ⟨o2, h2, e⟩
theorem fr.two {S S1 : zS} {b r : Nat} (h : fr S S1 [b]) : fr S S1 [b, r] := ⟨h.1, h.2.1, fun j hj hn => h.2.2 j hj (fun q => hn (by rw [List.mem_singleton.mp q]; exact List.mem_cons_self))⟩
/-- behind a method: the view goes on, nothing else but X changed -/
def vP (S : zS) (E : zE) (lB lI : List Nat) (B C : Nat) (X : List Nat) (S1 : zS) (E1 : zE) : Prop := Vw S1 E1 lB lI B C ∧ FrV S S1 E E1 X
section
variable {d : Nat} {S : zS} {E : zE} {lB lI : List Nat} {B C o lim bnd : Nat} {xs : List Nat} {is : List Int32}
theorem V_X0_clear (h : Vw S E lB lI B C) (ho : E.1 o = some (lim, xs)) : Rc d mX0_clear [.ref o] S (fun v S1 => v = none ∧ ∃ rc, vP S E lB lI B C [] S1 (eB E o (lim, []) rc)) := by
  obtain ⟨k1, k2, k3, k4⟩ := h.b ho
  refine (C_X0_clear k1).mono ?_
  rintro v S1 ⟨hv, hB, e1, e2, hf⟩
  exact ⟨hv, (_, _), h.setB ho hB ⟨hf.two, Or.inl rfl, by omega, by omega, by omega⟩⟩
theorem V_X0_append {y : Int32} (h : Vw S E lB lI B C) (ho : E.1 o = some (lim, xs)) : Rc (d + 3) mX0_append [.ref o, .int y] S (fun v S1 => (xs.length < lim ∧ v = some (.int 1) ∧ ∃ rc, vP S E lB lI B C [] S1 (eB E o (lim, xs ++ [ob y]) rc)) ∨ (xs.length = lim ∧ v = some (.int 0) ∧ S1 = S)) := by
  obtain ⟨k1, k2, k3, k4⟩ := h.b ho
  refine (C_X0_append k1 ⟨k2, k3⟩).mono ?_
  intro v S1 hv
  rcases hv.use k2 k3 with ⟨q1, q2, r1, cp, q3, q4⟩ | q
  · exact Or.inl ⟨q1, q2, (r1, cp), h.setB ho q3 q4⟩
  · exact Or.inr q
theorem V_ne {q limq : Nat} {ys : List Nat} (h : Vw S E lB lI B C) (ho : E.1 o = some (lim, xs)) (hq : E.1 q = some (limq, ys)) (hne : q ≠ o) : q ≠ o ∧ q ≠ (E.2.2.1 o).1 ∧ (E.2.2.1 q).1 ≠ o ∧ (E.2.2.1 q).1 ≠ (E.2.2.1 o).1 := by
  obtain ⟨k1, -⟩ := h.b ho
  obtain ⟨j1, -⟩ := h.b hq
  obtain ⟨g, kr, -⟩ := k1.2.1
  obtain ⟨g', jr, -⟩ := j1.2.1
  refine ⟨hne, fun e => ?_, fun e => ?_, fun e => hne (h.2.2.1 q o (by rw [hq]; simp) (by rw [ho]; simp) e)⟩
  · have := j1.1
    rw [e, kr] at this
    cases this
  · rw [e, k1.1] at jr
    cases jr
theorem V_X0_appendPart {q limq a e : Nat} {ys : List Nat} (h : Vw S E lB lI B C) (ho : E.1 o = some (lim, xs)) (hq : E.1 q = some (limq, ys)) (hne : q ≠ o) (he : e ≤ ys.length) (ha : a ≤ 65536) : Rc (d + 4) mX0_appendPart [.ref o, .ref q, .int (nI a), .int (nI e)] S (fun v S1 => v = some (.int (bI (decide ((xs ++ seg ys a e).length ≤ lim)))) ∧ ∃ rc, vP S E lB lI B C [] S1 (eB E o (lim, (xs ++ seg ys a e).take lim) rc)) := by
  obtain ⟨k1, k2, k3, k4⟩ := h.b ho
  obtain ⟨j1, j2, j3, j4⟩ := h.b hq
  refine (C_X0_appendPart k1 k2 k3 j1 j2 j3 (V_ne h ho hq hne) he ha).mono ?_
  rintro v S1 ⟨q1, r1, cp, q2, q3⟩
  exact ⟨q1, (r1, cp), h.setB ho q2 q3⟩
theorem V_X0_appendDecimal {n : Nat} (h : Vw S E lB lI B C) (ho : E.1 o = some (lim, xs)) (hn : n < 2 ^ 30) : Rc (d + 4) mX0_appendDecimal [.ref o, .int (nI n)] S (fun v S1 => v = some (.int (bI (decide ((xs ++ dgk n 9 false).length ≤ lim)))) ∧ ∃ rc, vP S E lB lI B C [] S1 (eB E o (lim, (xs ++ dgk n 9 false).take lim) rc)) := by
  obtain ⟨k1, k2, k3, k4⟩ := h.b ho
  refine (C_X0_appendDecimal k1 k2 k3 hn).mono ?_
  rintro v S1 ⟨q1, r1, cp, q2, q3⟩
  exact ⟨q1, (r1, cp), h.setB ho q2 q3⟩
theorem V_X1_clear (h : Vw S E lB lI B C) (ho : E.2.1 o = some (bnd, is)) : Rc d mX1_clear [.ref o] S (fun v S1 => v = none ∧ ∃ rc, vP S E lB lI B C [] S1 (eI E o (bnd, []) rc)) := by
  obtain ⟨k1, k2, k3, k4⟩ := h.i ho
  refine (C_X1_clear k1).mono ?_
  rintro v S1 ⟨hv, hB, e1, e2, hf⟩
  exact ⟨hv, (_, _), h.setI ho hB (Nat.zero_le _) ⟨hf.two, Or.inl rfl, by omega, by omega, by omega⟩⟩
theorem V_X1_add {y : Int32} (h : Vw S E lB lI B C) (ho : E.2.1 o = some (bnd, is)) (hlt : is.length < bnd) : Rc (d + 3) mX1_add [.ref o, .int y] S (fun v S1 => v = none ∧ ∃ rc, vP S E lB lI B C [] S1 (eI E o (bnd, is ++ [y]) rc)) := by
  obtain ⟨k1, k2, k3, k4, k5, k6⟩ := h.i ho
  refine (C_X1_add k1 ⟨k2, k3⟩ (by omega)).mono ?_
  rintro v S1 ⟨q1, r1, cp, q2, q3, q4⟩
  refine ⟨q1, (r1, cp), h.setI ho q2 (by rw [List.length_append, List.length_singleton]; omega) ⟨q3, ?_⟩⟩
  rcases q4 with ⟨rfl, rfl, e1, e2⟩ | ⟨rfl, rfl, hc, e1, e2⟩
  · exact ⟨Or.inl rfl, by omega, by omega, by omega⟩
  · refine ⟨Or.inr (Nat.le_refl _), by omega, ?_, ?_⟩
    · rw [e2]; unfold potI; split <;> split <;> omega
    · rw [e1]; unfold cpt; split <;> split <;> omega
end
