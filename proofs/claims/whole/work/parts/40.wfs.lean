/-! THE READER: its steps keep what holds -/
def sOk (c : zD) (g : zG) (r : zG × Nat) : Prop := r.2 ≠ 2 → WF c r.1 ∧ r.1.2.1 ≤ g.2.1 + 1 ∧ r.1.1.2.1 = g.1.2.1
section
variable {c : zD} {g : zG}
theorem sOk.no {r : zG} : sOk c g (r, 2) := fun z => absurd rfl z
theorem sIf (h : WF c g) : sOk c g (cIf c g) := by
  unfold cIf
  repeat' split
  all_goals first | exact sOk.no | skip
  · exact fun _ => ⟨h.op rfl, Nat.le_refl _, rfl⟩
  · next o ho _ =>
    have := fz_lt ho
    have h2 := h.pos (p := o + 1) (by omega) this.2
    exact fun _ => ⟨h2.op rfl, Nat.le_refl _, rfl⟩
  · next o ho _ =>
    have := fz_lt ho
    exact fun _ => ⟨h.pos (p := o + 1) (by omega) this.2, Nat.le_succ _, rfl⟩
theorem kdA_pos {kd : Nat → Int32} {n : Nat} {k : Int32} (h : kdA kd n = k) (h0 : k ≠ 0) : 0 < n := by
  rcases Nat.eq_zero_or_pos n with rfl | z
  · exact absurd h.symm h0
  · exact z
theorem sElse (h : WF c g) : sOk c g (cElse c g) := by
  unfold cElse
  repeat' split
  all_goals first | exact sOk.no | skip
  next h1 _ _ _ o ho =>
    have hk : kdA (kdG g) g.2.1 = 1 := Classical.not_not.mp h1
    have := fz_lt ho
    have h2 := h.pos (p := o + 1) (by omega) this.2
    refine fun _ => ⟨h2.cl ?_ (kdA_pos hk (by decide)), by show g.2.1 - 1 ≤ _; omega, rfl⟩
    show hasL (kdA (kdG g) g.2.1) = false
    rw [hk]
    rfl
theorem sEndif (h : WF c g) : sOk c g (cEndif c g) := by
  unfold cEndif
  repeat' split
  all_goals first | exact sOk.no | skip
  next h1 _ =>
    have hk : kdA (kdG g) g.2.1 = 1 ∨ kdA (kdG g) g.2.1 = 2 := by
      by_cases z : kdA (kdG g) g.2.1 = 1
      · exact Or.inl z
      · exact Or.inr (Classical.byContradiction fun z2 => h1 ⟨z, z2⟩)
    refine fun _ => ⟨h.cl ?_ ?_, by show g.2.1 - 1 ≤ _; omega, rfl⟩
    · rcases hk with z | z <;> rw [z] <;> rfl
    · rcases hk with z | z
      · exact kdA_pos z (by decide)
      · exact kdA_pos z (by decide)
theorem sRept (h : WF c g) : sOk c g (cRept c g) := by
  have hl := h.lim
  unfold cRept
  repeat' split
  all_goals first | exact sOk.no | skip
  · next o ho hq =>
    have := fz_lt ho
    refine fun _ => ⟨?_, Nat.le_refl _, rfl⟩
    exact h.ln (q := (4, (g.1.1, o, o + 1, g.1.2.2.2.1), (sec7 c).toInt32, (g.2.2.1 g.2.1).2.2.2)) (p := g.1.1) (m := g.1.2.2.1) rfl ⟨Nat.le_refl _, h.2.2.2.2.1.1⟩ ⟨this.1, by show o ≤ _; omega⟩ ⟨by show g.1.1 ≤ o + 1; omega, this.2⟩ (fun _ => hq.2) rfl this.1 (fun z => absurd z (show (4 : Int32) ≠ 6 by decide))
  · next o ho _ =>
    have := fz_lt ho
    exact fun _ => ⟨h.pos (p := o + 1) (by omega) this.2, Nat.le_succ _, rfl⟩
theorem gaS_ok {ts : List zT} {P : Nat × Nat → Prop} (hP : ∀ f b, b ≤ ts.length → P (kp ts f b)) : ∀ (n i f dp : Nat) (gs : List (Nat × Nat)), i + n ≤ ts.length → (∀ z ∈ gs, P z) → ∀ z ∈ gaS ts n i f dp gs, P z
  | 0, i, f, dp, gs, h1, h2, z, hz => by
    have hz : z ∈ gs ++ [kp ts f ts.length] := hz
    rcases List.mem_append.mp hz with q | q
    · exact h2 z q
    · rw [List.mem_singleton.mp q]
      exact hP _ _ (Nat.le_refl _)
  | n + 1, i, f, dp, gs, h1, h2, z, hz => by
    rw [gaS_s] at hz
    have h3 : ∀ z ∈ gs ++ [kp ts f i], P z := fun z hz => by
      rcases List.mem_append.mp hz with q | q
      · exact h2 z q
      · rw [List.mem_singleton.mp q]
        exact hP _ _ (by omega)
    repeat' split at hz
    · exact gaS_ok hP n _ _ _ _ (by omega) h3 z hz
    · exact gaS_ok hP n _ _ _ _ (by omega) h2 z hz
    · exact gaS_ok hP n _ _ _ _ (by omega) h2 z hz
    · exact gaS_ok hP n _ _ _ _ (by omega) h2 z hz
theorem gat_ok (ht : tOk c g) (hr : g.2.2.2.2.length ≤ 1024) : ∀ z ∈ gat c.2.2.2.1, z.1 ≤ 65536 ∧ z.2 ≤ g.2.2.2.2.length := by
  intro z hz
  unfold gat at hz
  split at hz
  · cases hz
  · next q =>
    refine gaS_ok (P := fun z => z.1 ≤ 65536 ∧ z.2 ≤ g.2.2.2.2.length) (fun f b hb => ?_) _ _ _ _ _ (by omega) (fun z hz => by cases hz) z hz
    unfold kp
    split
    · next q =>
      have h1 := ht f (by omega)
      have h2 := ht (b - 1) (by omega)
      exact ⟨by show (c.2.2.2.1.getD f t0).2.1 ≤ _; omega, h2.2⟩
    · exact ⟨Nat.zero_le _, Nat.zero_le _⟩
theorem sMac {q : zMa} (h : WF c g) (hq : q ∈ g.2.2.2.1) (ht : tOk c g) (hr : g.2.2.2.2.length ≤ 1024) (hm : g.1.2.2.1 < g.1.2.1) : sOk c g (cMac c g q) := by
  have hk := h.2.2.2.1 q hq
  have hl := h.2.2.2.2.1
  unfold cMac
  repeat' split
  all_goals first | exact sOk.no | skip
  refine fun _ => ⟨?_, Nat.le_refl _, rfl⟩
  exact h.ln (q := (6, (q.2.1.2.2.1, q.2.1.2.2.2, g.1.1, g.1.2.2.2.1), (g.2.2.1 g.2.1).2.2.1, g.1.2.2.1, some q, g.2.2.2.2, gat c.2.2.2.1)) (p := q.2.1.2.2.1) (m := g.1.2.2.1 + 1) rfl ⟨Nat.le_succ _, hm⟩ ⟨hk.1, hk.2.1⟩ ⟨Nat.le_refl _, h.1⟩ (fun z => absurd z (show (6 : Int32) ≠ 4 by decide)) rfl hk.1 (fun _ => ⟨⟨q, rfl, hq⟩, by show g.1.2.2.1 < _; omega, gat_ok ht hr⟩)
theorem mpL_len2 {ts : List zT} {off : Nat} : ∀ (n i : Nat), 2 * (mpL ts off n i).length + i ≤ ts.length + 1 ∨ mpL ts off n i = []
  | 0, i => Or.inr rfl
  | n + 1, i => by
    rw [mpL_s]
    split
    · next q =>
      left
      rw [List.length_cons]
      rcases mpL_len2 (ts := ts) (off := off) n (i + 2) with z | z
      · omega
      · rw [z]
        show 2 * (0 + 1) + i ≤ _
        omega
    · exact Or.inr rfl
theorem mPl_len {ts : List zT} {off : Nat} (h : ts.length ≤ 512) : (mPl ts off).length ≤ 255 := by
  rcases mpL_len2 (ts := ts) (off := off) ts.length 2 with z | z
  · show (mpL ts off ts.length 2).length ≤ 255
    omega
  · show (mpL ts off ts.length 2).length ≤ 255
    rw [z]
    exact Nat.zero_le _
theorem mpL_ok {ts : List zT} {off : Nat} {P : Nat × Nat → Prop} (hP : ∀ i, i < ts.length → P (off + (ts.getD i t0).2.1, (ts.getD i t0).2.2.1 - (ts.getD i t0).2.1)) : ∀ (n i : Nat), ∀ z ∈ mpL ts off n i, P z
  | 0, i, z, hz => by cases hz
  | n + 1, i, z, hz => by
    rw [mpL_s] at hz
    split at hz
    · next q =>
      rcases List.mem_cons.mp hz with rfl | w
      · exact hP i q
      · exact mpL_ok hP n (i + 2) z w
    · cases hz
theorem sDef {ce : Nat × Nat × Nat} (h : WF c g) (ht : tOk c g) (hr : g.2.2.2.2.length ≤ 1024) (hts : iL g = none → c.2.2.2.1.length ≤ 512) (hsp : iL g = none → 2 * g.2.2.2.1.length + 1 ≤ g.1.1) (hpo : 1 ≤ g.1.1 ∧ g.1.1 ≤ cnt c) : sOk c g (cDef c g ce) := by
  unfold cDef
  split
  · exact sOk.no
  next h0 =>
  split
  · exact sOk.no
  split
  · exact sOk.no
  next hhd =>
  split
  · exact sOk.no
  next o ho =>
  have hil : iL g = none := by
    cases hq : iL g with
    | none => rfl
    | some j => exact absurd (by rw [hq]; rfl) h0
  have hol := fz_lt ho
  have hlm : lim7 c g = cnt c := by unfold lim7; rw [hil]
  rw [hlm] at hol
  have hou := ouL_none (kd := kdG g) (n := g.2.1) hil
  have h2t := hdg_2 (Bool.not_eq_false _ |>.mp hhd)
  have hoff : off7 c g ≤ 512 := by
    have := ln7_ok (c := c) (i := g.1.1 - 1) (by omega)
    have := h.2.2.2.2.2.2.2
    unfold off7
    omega
  have h1 := ht 1 (by omega)
  obtain ⟨k1, k2, k3, k4, k5, k6, k7, k8⟩ := h
  refine fun _ => ⟨⟨?_, fun j hj z => ?_, ⟨fun q hq => ?_, fun j hj z => ?_⟩, fun q hq => ?_, k5, ?_, k7, k8⟩, Nat.le_succ _, rfl⟩
  · show o + 1 ≤ lmN c g g.2.1
    have : lmN c g g.2.1 = cnt c := hlm
    omega
  · exact k2 j hj z
  · have hq : q ∈ g.2.2.2.1 ++ [nMa c g o ce] := hq
    rcases List.mem_append.mp hq with w | w
    · exact k3.1 q w
    · rw [List.mem_singleton.mp w]
      refine ⟨by show off7 c g + (c.2.2.2.1.getD 1 t0).2.1 ≤ _; omega, by show (c.2.2.2.1.getD 1 t0).2.2.1 - (c.2.2.2.1.getD 1 t0).2.1 ≤ _; omega, ?_⟩
      refine mpL_ok (P := fun z => z.1 ≤ 65536 ∧ z.2 ≤ 65536) (fun i hi => ?_) _ _
      have := ht i hi
      exact ⟨by show off7 c g + _ ≤ _; omega, by show _ - _ ≤ _; omega⟩
  · obtain ⟨⟨q, a1, a2⟩, a3⟩ := k3.2 j hj z
    exact ⟨⟨q, a1, List.mem_append.mpr (Or.inl a2)⟩, a3⟩
  · have hq : q ∈ g.2.2.2.1 ++ [nMa c g o ce] := hq
    rcases List.mem_append.mp hq with w | w
    · exact k4 q w
    · rw [List.mem_singleton.mp w]
      exact ⟨hol.1, by show o ≤ _; omega, mPl_len (hts hil)⟩
  · show 2 * (g.2.2.2.1 ++ [nMa c g o ce]).length ≤ match ouL (kdG g) g.2.1 with
      | none => o + 1
      | some j => (g.2.2.1 j).2.1.2.2.1
    rw [hou, List.length_append]
    show 2 * (g.2.2.2.1.length + 1) ≤ o + 1
    have := hsp hil
    omega
/-- how much may still come -/
def phi (c : zD) (g : zG) : Nat := 4 * (65537 - g.1.2.1) + 2 * g.2.1 + if g.1.1 < lim7 c g then 0 else 1
theorem sEnd (h : WF c g) (hp : ¬ g.1.1 < lim7 c g) (ho : (cEnd c g).2 ≠ 2) : WF c (cEnd c g).1 ∧ phi c (cEnd c g).1 < phi c g := by
  unfold cEnd at ho ⊢
  split at ho
  · exact absurd rfl ho
  next h0 =>
  rw [if_neg h0]
  obtain ⟨k, hk⟩ : ∃ k, g.2.1 = k + 1 := ⟨g.2.1 - 1, by omega⟩
  rw [show g.2.1 - 1 = k by omega] at ho ⊢
  split at ho
  · split at ho
    · exact absurd rfl ho
    · exact absurd rfl ho
  next h1 =>
  rw [if_neg h1]
  have h1 : hasL (kdG g k) = true := Bool.not_eq_false _ |>.mp h1
  have hpt := h.2.1 k (by omega) h1
  have hf : phi c g = 4 * (65537 - g.1.2.1) + 2 * g.2.1 + 1 := by unfold phi; rw [if_neg hp]
  have hil : inL (kdG g) g.2.1 = some k := by rw [hk, inL_s, if_pos h1]
  have hlm : lim7 c g = (g.2.2.1 k).2.1.2.1 := by unfold lim7 iL; rw [hil]
  split
  · next hr =>
    generalize hq : ((g.2.2.1 k).1, (g.2.2.1 k).2.1, (g.2.2.1 k).2.2.1 - 1, (g.2.2.1 k).2.2.2) = q
    have q1 : q.1 = (g.2.2.1 k).1 := by rw [← hq]
    have q2 : q.2.1 = (g.2.2.1 k).2.1 := by rw [← hq]
    have q3 : q.2.2.2 = (g.2.2.1 k).2.2.2 := by rw [← hq]
    have ha : ag g (gPos (gPt g k q) (g.2.2.1 k).2.1.1) g.2.1 := fun j hj => by
      show (va_up g.2.2.1 k q j).1 = _ ∧ (va_up g.2.2.1 k q j).2.1 = _ ∧ (va_up g.2.2.1 k q j).2.2.2 = _
      by_cases e : j = k
      · subst e
        rw [va_up_self]
        exact ⟨q1, q2, q3⟩
      · rw [va_up_ne _ _ e]
        exact ⟨rfl, rfl, rfl⟩
    have hlm2 : lim7 c (gPos (gPt g k q) (g.2.2.1 k).2.1.1) = (g.2.2.1 k).2.1.2.1 := (ha.lm (c := c) (Nat.le_refl _)).trans hlm
    have hlt := hpt.2.2.2.1 hr.1
    refine ⟨h.of (n := g.2.1) (Nat.le_refl _) ha rfl rfl rfl ?_ ?_ h.2.2.2.2.1 h.2.2.2.2.2.2.1, ?_⟩
    · show (g.2.2.1 k).2.1.1 ≤ lim7 c g
      rw [hlm]
      exact hpt.1
    · unfold spN
      show _ ≤ match ouL (kdG (gPos (gPt g k q) (g.2.2.1 k).2.1.1)) g.2.1 with
        | none => (g.2.2.1 k).2.1.1
        | some j => (va_up g.2.2.1 k q j).2.1.2.2.1
      rw [ha.ou (Nat.le_refl _)]
      cases hz : ouL (kdG g) g.2.1 with
      | none =>
        exfalso
        rw [hk, ouL_s] at hz
        cases hw : ouL (kdG g) k with
        | some i => rw [hw] at hz; cases hz
        | none =>
          rw [hw] at hz
          have hz : (if hasL (kdG g k) = true then some k else none) = none := hz
          rw [if_pos h1] at hz
          cases hz
      | some j =>
        show (g.2.2.1 j).2.1.2.2.1 ≤ (va_up g.2.2.1 k q j).2.1.2.2.1
        by_cases e : j = k
        · subst e
          rw [va_up_self, q2]
          exact Nat.le_refl _
        · rw [va_up_ne _ _ e]
          exact Nat.le_refl _
    · rw [hf]
      unfold phi
      rw [hlm2]
      show 4 * (65537 - g.1.2.1) + 2 * g.2.1 + (if (g.2.2.1 k).2.1.1 < (g.2.2.1 k).2.1.2.1 then 0 else 1) < _
      rw [if_pos hlt]
      omega
  · generalize hq : ((g.2.2.1 k).1, (g.2.2.1 k).2.1, (g.2.2.1 k).2.2.1 - 1, (g.2.2.1 k).2.2.2) = q
    have ha : ag g (gCl (gPos (gPt g k q) (g.2.2.1 k).2.1.2.2.1)) k := ag.up rfl (Nat.le_refl _)
    have e2 : (gCl (gPos (gPt g k q) (g.2.2.1 k).2.1.2.2.1)).2.1 = k := by show g.2.1 - 1 = k; omega
    refine ⟨h.of (n := k) (by omega) ha e2 rfl rfl hpt.2.2.1 ?_ h.2.2.2.2.1 h.2.2.2.2.2.2.1, ?_⟩
    · unfold spN
      rw [e2, ha.ou (Nat.le_refl _), hk, ouL_s]
      cases hz : ouL (kdG g) k with
      | none =>
        show (match (if hasL (kdG g k) = true then some k else none) with
          | none => g.1.1
          | some j => (g.2.2.1 j).2.1.2.2.1) ≤ (g.2.2.1 k).2.1.2.2.1
        rw [if_pos h1]
        exact Nat.le_refl _
      | some j =>
        have := ouL_some _ _ hz
        show (g.2.2.1 j).2.1.2.2.1 ≤ (va_up g.2.2.1 k q j).2.1.2.2.1
        rw [va_up_ne _ _ (by omega)]
        exact Nat.le_refl _
    · rw [hf]
      unfold phi
      rw [e2]
      show 4 * (65537 - g.1.2.1) + 2 * k + _ < _
      split <;> omega
theorem WF.nx (h : WF c g) (hp : g.1.1 < lim7 c g) (hl : g.1.2.1 + 1 ≤ 65536) : WF c (gLn c g) := by
  obtain ⟨k1, k2, k3, k4, k5, k6, k7, k8⟩ := h
  refine ⟨hp, fun j hj z => ?_, k3, k4, ⟨by show g.1.2.2.1 ≤ g.1.2.1 + 1; omega, hl⟩, ?_, k7, k8⟩
  · obtain ⟨a1, a2, a3, a4, a5⟩ := k2 j hj z
    refine ⟨a1, a2, a3, a4, ?_⟩
    show (g.2.2.1 j).2.1.2.2.2 = match iL g with
      | none => g.1.1 + 1
      | some j => (g.2.2.1 j).2.1.2.2.2
    cases hq : iL g with
    | none => exact absurd z (by rw [show hasL (kdG (gLn c g) j) = false from inL_none _ hq j hj]; exact Bool.false_ne_true)
    | some i =>
      have := inL_lt _ _ hq
      show _ = (g.2.2.1 i).2.1.2.2.2
      rw [a5, (k2 i this.1 this.2).2.2.2.2]
  · refine Nat.le_trans k6 ?_
    show spN g ≤ match ouL (kdG g) g.2.1 with
      | none => g.1.1 + 1
      | some j => (g.2.2.1 j).2.1.2.2.1
    unfold spN
    cases ouL (kdG g) g.2.1 with
    | none => exact Nat.le_succ _
    | some j => exact Nat.le_refl _
theorem iM_none (h : iL g = none) : iM g = none := by
  cases hq : iM g with
  | none => rfl
  | some j =>
    have := inM_lt _ _ hq
    have h2 := inL_none _ h j this.1
    rw [this.2] at h2
    cases h2
theorem cDef_rd {ce : Nat × Nat × Nat} : (cDef c g ce).1.2.2.2.2 = g.2.2.2.2 := by
  unfold cDef
  repeat' split
  all_goals rfl
theorem cRun_rd {ce : Nat × Nat × Nat} : (cRun c g ce).1.2.2.2.2 = g.2.2.2.2 := by
  unfold cRun
  split
  · rfl
  split
  · unfold cObey
    repeat' split
    · unfold cIf; repeat' split
      all_goals rfl
    · unfold cElse; repeat' split
      all_goals rfl
    · unfold cEndif; repeat' split
      all_goals rfl
    · unfold cRept; repeat' split
      all_goals rfl
    · exact cDef_rd
    · rfl
  split
  · rfl
  · unfold cMac; repeat' split
    all_goals rfl
/-- a step of the reader's loop -/
def stR (c : zD) (g : zG) (c1 : zD) (g1 : zG) (out : Nat) : Prop := (g.1.1 < lim7 c g ∧ lnR c g c1 g1 out) ∨ (¬ g.1.1 < lim7 c g ∧ (g1, out) = cEnd c g ∧ c1 = c)
theorem sRun {ce : Nat × Nat × Nat} (h : WF c g) (ht : tOk c g) (hr : g.2.2.2.2.length ≤ 1024) (hm : g.1.2.2.1 < g.1.2.1) (hts : iL g = none → c.2.2.2.1.length ≤ 512) (hsp : iL g = none → 2 * g.2.2.2.1.length + 1 ≤ g.1.1) (hpo : 1 ≤ g.1.1 ∧ g.1.1 ≤ cnt c) : sOk c g (cRun c g ce) := by
  unfold cRun
  split
  · exact fun _ => ⟨h, Nat.le_succ _, rfl⟩
  split
  · unfold cObey
    repeat' split
    · exact sIf h
    · exact sElse h
    · exact sEndif h
    · exact sRept h
    · exact sDef h ht hr hts hsp hpo
    · exact sOk.no
  split
  · exact fun _ => ⟨h, Nat.le_succ _, rfl⟩
  · next q hq => exact sMac h (mFd_mem hq) ht hr hm
theorem stR_wf {c1 : zD} {g1 : zG} {out : Nat} (h : WF c g) (hs : stR c g c1 g1 out) (hb : g1.2.2.2.2.length ≤ 1024 ∧ ∀ i, i < g1.2.2.2.2.length → g1.2.2.2.2.getD i 0 < 256) (ho : out ≠ 2) : WF c1 g1 ∧ phi c1 g1 < phi c g := by
  have hlim := h.lim
  rcases hs with ⟨hp, hs⟩ | ⟨hp, he, rfl⟩
  · rcases hs with ⟨-, -, z, -⟩ | ⟨-, -, -, z, -⟩ | ⟨-, r, -, -, -, z, -⟩ | ⟨hl, r, ts, sv, ce, la, hf, htk, hsec, he, rfl⟩
    · exact absurd z ho
    · exact absurd z ho
    · exact absurd z ho
    have h1 := h.nx hp hl
    have e1 : g1 = (cRun (cTk c ts sv) (gRd (gLn c g) r) ce).1 := congrArg Prod.fst he
    have e2 : out = (cRun (cTk c ts sv) (gRd (gLn c g) r) ce).2 := congrArg Prod.snd he
    have er : g1.2.2.2.2 = r := by rw [e1, cRun_rd]; rfl
    rw [er] at hb
    have hto := tkF_ok (xs := r) (by omega) hb.2 _ _ _ htk
    have ht : tOk (cTk c ts sv) (gRd (gLn c g) r) := by
      intro i hi
      have := hto.2 _ (List.mem_of_getElem? (getD_some (d0 := t0) hi))
      exact ⟨Nat.le_of_lt this.1, this.2⟩
    have hil : iL (gRd (gLn c g) r) = iL g := rfl
    have hk : sOk (cTk c ts sv) (gRd (gLn c g) r) (cRun (cTk c ts sv) (gRd (gLn c g) r) ce) := by
      refine sRun (c := cTk c ts sv) h1 ht hb.1 ?_ ?_ ?_ ⟨Nat.succ_le_succ (Nat.zero_le _), by show g.1.1 + 1 ≤ cnt c; omega⟩
      · show g.1.2.2.1 < g.1.2.1 + 1
        have := h.2.2.2.2.1.1
        omega
      · intro z
        rw [hil] at z
        show ts.length ≤ 512
        have hrl : r.length ≤ 512 := by
          unfold fil at hf
          rw [iM_none z] at hf
          split at hf
          · cases hf
          · have hf := Option.some.inj hf
            have := ln7_ok (c := c) (i := g.1.1) (by omega)
            have h8 := h.2.2.2.2.2.2.2
            rw [← hf, seg_len this.2]
            omega
        exact Nat.le_trans hto.1 hrl
      · intro z
        rw [hil] at z
        have h6 := h.2.2.2.2.2.1
        unfold spN at h6
        rw [ouL_none (kd := kdG g) (n := g.2.1) z] at h6
        show 2 * g.2.2.2.1.length + 1 ≤ g.1.1 + 1
        exact Nat.succ_le_succ h6
    obtain ⟨a1, a2, a3⟩ := hk (by rw [← e2]; exact ho)
    rw [← e1] at a1 a2 a3
    refine ⟨a1, ?_⟩
    have a2 : g1.2.1 ≤ g.2.1 + 1 := a2
    have a3 : g1.1.2.1 = g.1.2.1 + 1 := a3
    unfold phi
    rw [if_pos hp, a3]
    split <;> omega
  · have e1 : g1 = (cEnd c1 g).1 := congrArg Prod.fst he
    have e2 : out = (cEnd c1 g).2 := congrArg Prod.snd he
    rw [e1]
    exact sEnd h hp (by rw [← e2]; exact ho)
end
