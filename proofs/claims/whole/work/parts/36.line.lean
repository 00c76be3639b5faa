/-! THE READER: a line -/
def cObey (c : zD) (g : zG) (w : Nat) (ce : Nat × Nat × Nat) : zG × Nat := if w = 1 then cIf c g else if w = 2 then cElse c g else if w = 3 then cEndif c g else if w = 4 then cRept c g else if w = 6 then cDef c g ce else (gFl g 6, 2)
def gLn (c : zD) (g : zG) : zG := ((g.1.1 + 1, g.1.2.1 + 1, g.1.2.2.1, (match iL g with
  | none => g.1.1 + 1
  | some j => (g.2.2.1 j).2.1.2.2.2), g.1.2.2.2.2), g.2)
def w7 (c : zD) (g : zG) : Nat := wd (seg g.2.2.2.2 (c.2.2.2.1.getD 0 t0).2.1 (c.2.2.2.1.getD 0 t0).2.2.1)
def cRun (c : zD) (g : zG) (ce : Nat × Nat × Nat) : zG × Nat := if (c.2.2.2.1.getD 0 t0).1 ≠ 1 then (g, 1) else if w7 c g ≠ 0 then cObey c g (w7 c g) ce else match mFd c g 0 with
  | none => (g, 1)
  | some q => cMac c g q
def cTk (c : zD) (ts : List zT) (sv : Int32 × Int64 × Int64) : zD := (c.1, c.2.1, c.2.2.1, ts, sv, c.2.2.2.2.2)
/-- a line is read -/
def lnR (c : zD) (g : zG) (c1 : zD) (g1 : zG) (out : Nat) : Prop :=
  (65536 < g.1.2.1 + 1 ∧ g1 = gFl (gLn c g) 5 ∧ out = 2 ∧ c1 = c) ∨
  (g.1.2.1 + 1 ≤ 65536 ∧ fil c g g.1.1 = none ∧ (∃ ys, g1 = gFl (gRd (gLn c g) ys) 5) ∧ out = 2 ∧ c1 = c) ∨
  (g.1.2.1 + 1 ≤ 65536 ∧ ∃ r, fil c g g.1.1 = some r ∧ tks r = none ∧ g1 = gFl (gRd (gLn c g) r) 1 ∧ out = 2 ∧ ∃ ts sv, c1 = cTk c ts sv) ∨
  (g.1.2.1 + 1 ≤ 65536 ∧ ∃ r ts sv ce la, fil c g g.1.1 = some r ∧ tks r = some ts ∧ secOk ts sv.2.2 ∧ (g1, out) = cRun (cTk c ts sv) (gRd (gLn c g) r) ce ∧ c1 = cLa (cTk c ts sv) la)
theorem tkF_ok {xs : List Nat} (hl : xs.length ≤ 65536) (hb : ∀ i, i < xs.length → xs.getD i 0 < 256) : ∀ (n i : Nat) (ts : List zT), tkF xs n i = some ts → ts.length ≤ n ∧ ∀ q ∈ ts, q.2.1 < q.2.2.1 ∧ q.2.2.1 ≤ xs.length
  | 0, i, ts, h => by
    have h : some ([] : List zT) = some ts := h
    cases h
    exact ⟨Nat.le_refl _, fun q hq => by cases hq⟩
  | n + 1, i, ts, h => by
    rw [tkF_s] at h
    split at h
    · cases h
      exact ⟨Nat.zero_le _, fun q hq => by cases hq⟩
    · next z =>
      cases hq : tk xs i with
      | none => rw [hq] at h; cases h
      | some q =>
        rw [hq] at h
        have hi : i < xs.length := by
          rcases Nat.lt_or_ge i xs.length with w | w
          · exact w
          · exact absurd (Or.inl w) z
        have h1 := tk_lt (kd := q.1) (j := q.2.1) (ov := q.2.2) hq hi hl (hb i hi)
        have h : (match tkF xs n (skB xs q.2.1) with
          | none => none
          | some ts => some ((q.1, i, q.2.1, q.2.2) :: ts)) = some ts := h
        cases hq2 : tkF xs n (skB xs q.2.1) with
        | none => rw [hq2] at h; cases h
        | some t2 =>
          rw [hq2] at h
          cases h
          have ih := tkF_ok hl hb n _ t2 hq2
          refine ⟨by rw [List.length_cons]; omega, fun w hw => ?_⟩
          rcases List.mem_cons.mp hw with rfl | hw
          · exact h1
          · exact ih.2 w hw
section
variable {d : Nat} {S : zS} {E : zE} {lB lI : List Nat} {B C N B0 C0 : Nat} {Z : Nat → zC} {c : zD} {g : zG}
theorem tOk_of (h : XI S E lB lI B C Z N c g) (ht : tks g.2.2.2.2 = some c.2.2.2.1) : tOk c g := by
  have hl := h.1.bl h.2.2.1.2.2.2.1
  have := tkF_ok (xs := g.2.2.2.2) (by omega) (fun i hi => h.1.byte h.2.2.1.2.2.2.1 hi) _ _ _ ht
  intro i hi
  have := this.2 _ (List.mem_of_getElem? (getD_some (d0 := t0) hi))
  omega
theorem stM_of {r : zG × Nat} {rr : Nat × Nat × Nat → zG × Nat} {v : Option Value} {S1 : zS} (hcap : c.2.2.2.2.2.2.2.2 ≤ 767) (hB : B + 4 * (768 - c.2.2.2.2.2.2.2.2) ≤ B0 + kS g.2.2.2.1) (hC : C + (768 - c.2.2.2.2.2.2.2.2) ≤ C0 + kC g.2.2.2.1) (h : stP lB lI B C Z N c r v S1) (he : ∀ ce, rr ce = r) (hm : r.1.2.2.2.1 = g.2.2.2.1) : stM Z N c B0 C0 rr v S1 := by
  obtain ⟨h1, E1, h2⟩ := h
  exact ⟨(0, 0, 0), c.2.2.2.2.2.2, by rw [he]; exact h1, by rw [he]; exact ⟨E1, lB, lI, B, C, h2, hcap, by rw [hm]; exact hB, by rw [hm]; exact hC⟩⟩
theorem cIf_m : (cIf c g).1.2.2.2.1 = g.2.2.2.1 := by
  unfold cIf
  repeat' split
  all_goals rfl
theorem cElse_m : (cElse c g).1.2.2.2.1 = g.2.2.2.1 := by
  unfold cElse
  repeat' split
  all_goals rfl
theorem cEndif_m : (cEndif c g).1.2.2.2.1 = g.2.2.2.1 := by
  unfold cEndif
  repeat' split
  all_goals rfl
theorem cRept_m : (cRept c g).1.2.2.2.1 = g.2.2.2.1 := by
  unfold cRept
  repeat' split
  all_goals rfl
theorem cMac_m {q : zMa} : (cMac c g q).1.2.2.2.1 = g.2.2.2.1 := by
  unfold cMac
  repeat' split
  all_goals rfl
theorem cEnd_m : (cEnd c g).1.2.2.2.1 = g.2.2.2.1 := by
  unfold cEnd
  repeat' split
  all_goals rfl
set_option maxRecDepth 10000 in
set_option maxHeartbeats 1000000 in
theorem C_X7_obey {w : Nat} (hw : w < 8) (hw0 : w ≠ 0) (h : XI S E lB lI B C Z N c g) (ho : gOk c g) (hcap : c.2.2.2.2.2.2.2.2 ≤ 767) (hB : B + 4 * (768 - c.2.2.2.2.2.2.2.2) ≤ B0 + kS g.2.2.2.1) (hC : C + (768 - c.2.2.2.2.2.2.2.2) ≤ C0 + kC g.2.2.2.1) (htk : tOk c g) (hpo : 1 ≤ g.1.1 ∧ g.1.1 ≤ cnt c) (hms : ∀ q ∈ g.2.2.2.1, q.2.1.1 ≤ 65536 ∧ q.2.1.2.1 ≤ 65536) (hnm : g.2.2.2.1.length < 512) : Rc (d + 9) mX7_obey [.ref 1, .int (nI w)] S (stM Z N c B0 C0 (cObey c g w)) := by
  have hx := h.x0
  refine Rc.of ?_
  refine r_iload_n dX7_obey_0 (by first | rfl | assumption) ?_
  have l65 : w = 5 ∨ w = 7 → Ru (d + 9) mX7_obey 65 (z_lf (lv_args 0 [.ref 1, .int (nI w)])) [] S (z_en mX7_obey (stM Z N c B0 C0 (cObey c g w))) := by
    intro q
    have e : ∀ ce, cObey c g w ce = (gFl g 6, 2) := fun ce => by rcases q with rfl | rfl <;> rfl
    refine r_aload_n dX7_obey_65 (by first | rfl | assumption) ?_
    refine r_bp (6) dX7_obey_66 rfl ?_
    refine r_callV1 dX7_obey_68 zm_X7_132 (by assumption) rfl (Nat.le_of_ble_eq_true rfl) (Nat.le_of_ble_eq_true rfl) (C_X7_tell (k := 6) h) (fun v S8 hv => ?_)
    obtain ⟨rfl, h3⟩ := hv
    refine r_ireturn dX7_obey_71 _ rfl rfl (stM_of hcap hB hC (r := (gFl g 6, 2)) ⟨rfl, E, h3⟩ e rfl)
  have hw' : w = 1 ∨ w = 2 ∨ w = 3 ∨ w = 4 ∨ w = 5 ∨ w = 6 ∨ w = 7 := by omega
  rcases hw' with rfl | rfl | rfl | rfl | rfl | rfl | rfl
  · refine r_tableIn (tgt := 40) dX7_obey_1 (by decide) (by decide) rfl (by decide) ?_
    refine r_aload_n dX7_obey_40 (by first | rfl | assumption) ?_
    refine r_callV0 dX7_obey_41 zm_X7_180 (by assumption) rfl (Nat.le_of_ble_eq_true rfl) (Nat.le_of_ble_eq_true rfl) (C_X7_readIf h ho) (fun v S8 hv => ?_)
    have hv1 := hv.1
    subst hv1
    refine r_ireturn dX7_obey_44 _ rfl rfl (stM_of hcap hB hC hv (fun _ => rfl) cIf_m)
  · refine r_tableIn (tgt := 45) dX7_obey_1 (by decide) (by decide) rfl (by decide) ?_
    refine r_aload_n dX7_obey_45 (by first | rfl | assumption) ?_
    refine r_callV0 dX7_obey_46 zm_X7_183 (by assumption) rfl (Nat.le_of_ble_eq_true rfl) (Nat.le_of_ble_eq_true rfl) (C_X7_readElse h ho) (fun v S8 hv => ?_)
    have hv1 := hv.1
    subst hv1
    refine r_ireturn dX7_obey_49 _ rfl rfl (stM_of hcap hB hC hv (fun _ => rfl) cElse_m)
  · refine r_tableIn (tgt := 50) dX7_obey_1 (by decide) (by decide) rfl (by decide) ?_
    refine r_aload_n dX7_obey_50 (by first | rfl | assumption) ?_
    refine r_callV0 dX7_obey_51 zm_X7_186 (by assumption) rfl (Nat.le_of_ble_eq_true rfl) (Nat.le_of_ble_eq_true rfl) (C_X7_readEndif h) (fun v S8 hv => ?_)
    have hv1 := hv.1
    subst hv1
    refine r_ireturn dX7_obey_54 _ rfl rfl (stM_of hcap hB hC hv (fun _ => rfl) cEndif_m)
  · refine r_tableIn (tgt := 55) dX7_obey_1 (by decide) (by decide) rfl (by decide) ?_
    refine r_aload_n dX7_obey_55 (by first | rfl | assumption) ?_
    refine r_callV0 dX7_obey_56 zm_X7_189 (by assumption) rfl (Nat.le_of_ble_eq_true rfl) (Nat.le_of_ble_eq_true rfl) (C_X7_readRept h ho) (fun v S8 hv => ?_)
    have hv1 := hv.1
    subst hv1
    refine r_ireturn dX7_obey_59 _ rfl rfl (stM_of hcap hB hC hv (fun _ => rfl) cRept_m)
  · refine r_tableIn (tgt := 65) dX7_obey_1 (by decide) (by decide) rfl (by decide) ?_
    exact l65 (Or.inl rfl)
  · refine r_tableIn (tgt := 60) dX7_obey_1 (by decide) (by decide) rfl (by decide) ?_
    refine r_aload_n dX7_obey_60 (by first | rfl | assumption) ?_
    refine r_callV0 dX7_obey_61 zm_X7_192 (by assumption) rfl (Nat.le_of_ble_eq_true rfl) (Nat.le_of_ble_eq_true rfl) (C_X7_readMacro h ho hcap hB hC htk hpo hms hnm) (fun v S8 hv => ?_)
    obtain ⟨ce, la, rfl, h4⟩ := hv
    refine r_ireturn dX7_obey_64 _ rfl rfl ⟨ce, la, rfl, h4⟩
  · refine r_tableOut (tgt := 65) dX7_obey_1 (by decide) (by decide) ?_
    exact l65 (Or.inr rfl)
end
