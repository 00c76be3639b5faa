/-! HOW MANY MACROS THERE MAY BE, AND WHAT THEY COST; the reference's cells beside the class's -/
def MB (c : zD) (g : zG) : Prop := 2 * g.2.2.2.1.length ≤ c.2.1.length ∧ ∀ q ∈ g.2.2.2.1, q.2.2.1.length ≤ 255
section
variable {S S1 : zS} {E : zE} {lB lI : List Nat} {B C N B0 C0 : Nat} {Z : Nat → zC} {c c1 : zD} {g g1 : zG} {r r' : zR} {out : Nat}
theorem WF.mb (h : WF c g) : MB c g := by
  have h1 := h.sp
  have h2 := cnt_len (c := c)
  have h3 := h.2.2.2.2.2.1
  exact ⟨by omega, fun q hq => (h.2.2.2.1 q hq).2.2⟩
theorem cRun_ma {ce : Nat × Nat × Nat} : (cRun c g ce).2 = 2 → (cRun c g ce).1.2.2.2.1 = g.2.2.2.1 := by
  unfold cRun
  split
  · exact fun _ => rfl
  split
  · unfold cObey
    repeat' split
    · unfold cIf; repeat' split
      all_goals first | exact fun _ => rfl | exact fun h => absurd (show (0 : Nat) = 2 from h) (by decide)
    · unfold cElse; repeat' split
      all_goals first | exact fun _ => rfl | exact fun h => absurd (show (0 : Nat) = 2 from h) (by decide)
    · unfold cEndif; repeat' split
      all_goals first | exact fun _ => rfl | exact fun h => absurd (show (0 : Nat) = 2 from h) (by decide)
    · unfold cRept; repeat' split
      all_goals first | exact fun _ => rfl | exact fun h => absurd (show (0 : Nat) = 2 from h) (by decide)
    · unfold cDef; repeat' split
      all_goals first | exact fun _ => rfl | exact fun h => absurd (show (0 : Nat) = 2 from h) (by decide)
    · exact fun _ => rfl
  split
  · exact fun _ => rfl
  · unfold cMac; repeat' split
    all_goals first | exact fun _ => rfl | exact fun h => absurd (show (0 : Nat) = 2 from h) (by decide)
theorem stR_ma (hs : stR c g c1 g1 2) : g1.2.2.2.1 = g.2.2.2.1 := by
  rcases hs with ⟨hp, hs⟩ | ⟨hp, he, rfl⟩
  · rcases hs with ⟨-, rfl, -, -⟩ | ⟨-, -, ⟨ys, rfl⟩, -, -⟩ | ⟨-, r, -, -, rfl, -, -⟩ | ⟨hl, r, ts, sv, ce, la, hf, htk, hsec, he, rfl⟩
    · rfl
    · rfl
    · rfl
    · have e1 : g1 = (cRun (cTk c ts sv) (gRd (gLn c g) r) ce).1 := congrArg Prod.fst he
      have e2 : 2 = (cRun (cTk c ts sv) (gRd (gLn c g) r) ce).2 := congrArg Prod.snd he
      rw [e1]
      exact cRun_ma e2.symm
  · have e1 : g1 = (cEnd c1 g).1 := congrArg Prod.fst he
    rw [e1]
    unfold cEnd; repeat' split
    all_goals rfl
theorem rn_mb : ∀ (n : Nat) (c : zD) (g : zG), rnR n c g c1 g1 out → WF c g → MB c1 g1
  | 0, _, _, h, _ => by cases h
  | n + 1, c, g, h, hw => by
    obtain ⟨c2, g2, o, hs, hb, hn⟩ := h
    by_cases ho : o = 2
    · subst ho
      rcases hn with ⟨-, rfl, rfl, -⟩ | ⟨z, -⟩
      · have := hw.mb
        unfold MB at this ⊢
        rw [stR_ma hs, (stR_c hs).2.2.1]
        exact this
      · cases z
    · have hw2 := (stR_wf hw hs hb ho).1
      rcases hn with ⟨-, rfl, rfl, -⟩ | ⟨-, hn⟩
      · exact hw2.mb
      · exact rn_mb n c2 g2 hn hw2
theorem kS_le : ∀ l : List zMa, (∀ q ∈ l, q.2.2.1.length ≤ 255) → kS l ≤ 3102 * l.length ∧ kC l ≤ 499 * l.length
  | [], _ => ⟨Nat.le_refl _, Nat.le_refl _⟩
  | q :: l, h => by
    have ih := kS_le l (fun x hx => h x (List.mem_cons_of_mem _ hx))
    have h1 := h q List.mem_cons_self
    have h2 : potI q.2.2.1.length 8 ≤ 1538 := by unfold potI; split <;> omega
    have h3 : cpt q.2.2.1.length 8 ≤ 247 := by unfold cpt; split <;> omega
    rw [List.length_cons]
    show 26 + 2 * potI q.2.2.1.length 8 + kS l ≤ _ ∧ 5 + 2 * cpt q.2.2.1.length 8 + kC l ≤ _
    omega
theorem MB.k (h : MB c g) : kS g.2.2.2.1 ≤ 1551 * c.2.1.length ∧ kC g.2.2.2.1 ≤ 250 * c.2.1.length := by
  have := kS_le _ h.2
  have := h.1
  omega
theorem XI.rs (h : XI S E lB lI B C (rC r) 77 c g) : S = RS S r := RS_of (S := S) (T := S.2.2) (fun j a b => (h.2.2.2.2.2 j a (by omega)).1) (fun _ _ => rfl)
theorem XI.rs2 (h : XI S E lB lI B C (rC r) 77 c g) : XI (RS S r') E lB lI B C (rC r') 77 c g := by
  have hz := h.2.2.2.2.2
  have lo : ∀ j, j < 165 → (RS S r').2.2 j = S.2.2 j := fun j hj => RS_out (by omega)
  have ot : ∀ j, (∀ i, 165 ≤ i → i < 165 + 77 → j ≠ i) → (RS S r').2.2 j = S.2.2 j := fun j hj => RS_out (fun z => hj j z.1 (by omega) rfl)
  refine ⟨h.1.else rfl rfl (fun j hj => ot j (fun i a b e => (hz i a b).2.1 (e ▸ hj))), ⟨(lo 1 (by decide)).trans h.2.1.1, (lo 2 (by decide)).trans h.2.1.2.1, (lo 13 (by decide)).trans h.t0, ?_, fun j hj => (lo _ (ptN_lt hj).1).trans (h.p0 j hj), ?_, fun q hq => ?_⟩, h.2.2.1, h.2.2.2.1, h.2.2.2.2.1, fun j a b => ⟨RS_in ⟨a, by omega⟩, (hz j a b).2.1, (hz j a b).2.2⟩⟩
  · obtain ⟨k1, ⟨gg, k2, k3⟩, k4⟩ := h.n0
    exact ⟨(lo 20 (by decide)).trans k1, ⟨gg, (lo 21 (by decide)).trans k2, k3⟩, k4⟩
  · obtain ⟨k1, k2, k3, k4⟩ := h.a0
    refine ⟨(lo 162 (by decide)).trans k1, k2, k3, ?_⟩
    rcases k4 with k4 | ⟨ea, gg, q, k5, k6, k7, k8⟩
    · exact Or.inl k4
    · exact Or.inr ⟨ea, gg, q, k5, k6, (ot ea (fun i a b e => (hz i a b).2.2.1 (by rw [q, e]))).trans k7, k8⟩
  · obtain ⟨k1, k2, k3⟩ := h.m0 q hq
    exact ⟨(ot q.1 (fun i a b => (hz i a b).2.2.2 q hq)).trans k1, k2, k3⟩
theorem XJ.rs (h : XJ S (rC r) 77 c g B0 C0) : S = RS S r := by
  obtain ⟨E, lB, lI, B, C, h, -⟩ := h
  exact h.rs
theorem XJ.rs2 (h : XJ S (rC r) 77 c g B0 C0) : XJ (RS S r') (rC r') 77 c g B0 C0 := by
  obtain ⟨E, lB, lI, B, C, h, h2⟩ := h
  exact ⟨E, lB, lI, B, C, h.rs2, h2⟩
theorem XJ.sz (h : XJ S Z N c g B0 C0) (hm : MB c g) : S.1 ≤ C0 + 250 * c.2.1.length ∧ S.2.1 ≤ B0 + 1551 * c.2.1.length := by
  obtain ⟨E, lB, lI, B, C, h, h2, h3, h4⟩ := h
  have h5 := h.1.2.2.2.2.2.2.1
  have h6 := h.1.2.2.2.2.2.2.2
  have := hm.k
  omega
/-- what both are to each other behind k calls -/
def IV (k X Y : Nat) (S : zS) : Prop := ∃ (c : zD) (g : zG) (r : zR) (past B0 C0 : Nat), XJ S (rC r) 77 c g B0 C0 ∧ OR c g r ∧ MB c g ∧ past + c.2.1.length + c.2.2.1.length ≤ 8 * k ∧ B0 ≤ 2500000 + 1551 * past ∧ C0 ≤ 401000 + 250 * past ∧ X ≤ k ∧ Y ≤ 6 * k
theorem IV.bd {k X Y : Nat} (h : IV k X Y S) (hk : k ≤ 65) : S.1 - 1 + X ≤ 600128 ∧ S.2.1 + Y ≤ 7301098 := by
  obtain ⟨c, g, r, past, B0, C0, h1, h2, h3, h4, h5, h6, h7, h8⟩ := h
  have := h1.sz h3
  omega
end
