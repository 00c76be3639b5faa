/-! A MACRO IS MADE -/
def mpL (ts : List zT) (off : Nat) : Nat → Nat → List (Nat × Nat)
  | 0, _ => []
  | n + 1, i => if i < ts.length then (off + (ts.getD i t0).2.1, (ts.getD i t0).2.2.1 - (ts.getD i t0).2.1) :: mpL ts off n (i + 2) else []
theorem mpL_s {ts : List zT} {off n i : Nat} : mpL ts off (n + 1) i = if i < ts.length then (off + (ts.getD i t0).2.1, (ts.getD i t0).2.2.1 - (ts.getD i t0).2.1) :: mpL ts off n (i + 2) else [] := rfl
def mPl (ts : List zT) (off : Nat) : List (Nat × Nat) := mpL ts off ts.length 2
theorem mpL_len {ts : List zT} {off : Nat} : ∀ (n i : Nat), (mpL ts off n i).length ≤ n
  | 0, _ => Nat.le_refl _
  | n + 1, i => by
    rw [mpL_s]
    split
    · rw [List.length_cons]
      exact Nat.succ_le_succ (mpL_len n (i + 2))
    · exact Nat.zero_le _
section
variable {d : Nat} {S : zS} {E : zE} {lB lI : List Nat} {B C m t tb tk1 tst te b1 b2 b3 off fr to : Nat} {stop : Int32} {val sec : Int64} {ts : List zT}
set_option maxRecDepth 10000 in
set_option maxHeartbeats 2000000 in
theorem V_X2_init (hm : S.2.2 m = .inr (3, [.int 0, .int 0, .int 0, .int 0, .null, .null])) (hml : m < S.1) (ht : S.2.2 t = .inr (7, tF tb tk1 tst te stop val sec)) (htl : t < S.1) (hV : Vw S E lB lI B C) (hk : E.2.1 tk1 = some (b1, ts.map fun q => q.1)) (hs : E.2.1 tst = some (b2, ts.map fun q => nI q.2.1)) (he : E.2.1 te = some (b3, ts.map fun q => nI q.2.2.1)) (h2 : 2 ≤ ts.length) (hts : ts.length ≤ 1025) (hse : ∀ i, i < ts.length → (ts.getD i t0).2.1 ≤ (ts.getD i t0).2.2.1 ∧ (ts.getD i t0).2.2.1 ≤ 65536) (hoff : off ≤ 65536) : Rc (d + 5) mX2_init [.ref m, .ref t, .int (nI off), .int (nI fr), .int (nI to)] S (fun v S1 => v = none ∧ S1.2.2 m = mcl (m, (off + (ts.getD 1 t0).2.1, (ts.getD 1 t0).2.2.1 - (ts.getD 1 t0).2.1, fr, to), mPl ts off, S.1, S.1 + 2) ∧ ∃ E1 lB1 lI1, Vw S1 E1 lB1 lI1 (B + 20 + 2 * potI (mPl ts off).length 8) (C + 4 + 2 * cpt (mPl ts off).length 8) ∧ FrV S S1 E E1 [m] ∧ E1.1 = E.1 ∧ E1.2.1 = ivP E.2.1 S.1 (S.1 + 2) (mPl ts off).length (mPl ts off)) := by
  have hbn : (mPl ts off).length ≤ 65536 := by have := mpL_len (ts := ts) (off := off) ts.length 2; unfold mPl; omega
  have nk : ∀ x q, E.2.1 x = some q → x < S.1 := fun x q hq => (hV.i (o := x) (bnd := q.1) (xs := q.2) hq).2.1
  have nk1 := nk _ _ hk
  have ns1 := nk _ _ hs
  have ne1 := nk _ _ he
  refine Rc.of ?_
  refine r_aload_n dX2_init_0 (by first | rfl | assumption) ?_
  refine r_objInit dX2_init_1 zo_X2_1 (by decide) ?_
  refine r_aload_n dX2_init_4 (by first | rfl | assumption) ?_
  refine r_new dX2_init_5 zn_X2_7 ?_
  refine r_dup dX2_init_8 rfl ?_
  -- the first Ints
  have hb1 : (z_new S (.inr (2, [.null, .int 0])) 2).2.2 S.1 = .inr (2, [.null, .int 0]) := va_up_self _ _ _
  have hfr1 : ∀ j, j < S.1 → (z_new S (.inr (2, [.null, .int 0])) 2).2.2 j = S.2.2 j := fun j hj => va_up_ne _ _ (Nat.ne_of_lt hj)
  have hz1 : (z_new S (.inr (2, [.null, .int 0])) 2).1 = S.1 + 1 ∧ (z_new S (.inr (2, [.null, .int 0])) 2).2.1 = S.2.1 + 2 := ⟨rfl, rfl⟩
  show Ru _ _ _ _ _ (z_new S (.inr (2, [.null, .int 0])) 2) _
  generalize z_new S (.inr (2, [.null, .int 0])) 2 = S1 at hb1 hfr1 hz1 ⊢
  refine r_callIN0 dX2_init_9 zm_X2_9 (Nat.le_of_ble_eq_true rfl) (Nat.le_of_ble_eq_true rfl) (C_X1_init hb1 (by omega)) (fun v S2 hv => ?_)
  obtain ⟨rfl, hI1, hz2, hz3, hfr2⟩ := hv
  rw [hz1.1] at hI1
  have hq1 : ∀ j, j < S.1 → S2.2.2 j = S.2.2 j := fun j hj => (hfr2 j (by omega) (by omega)).trans (hfr1 j hj)
  have hV1 := hV.newI (S1 := S2) (a := 2) (b := 10) (bnd := (mPl ts off).length) (by omega) (by omega) (fun j hj _ => hq1 j hj) hI1 hbn (Nat.le_refl _) (Nat.le_succ _) (by omega) (by omega)
  have hF1 : FrV S S2 E (eI E S.1 ((mPl ts off).length, []) (S.1 + 1, 8)) [m] := FrV.newI ⟨by omega, by omega⟩ (fun j hj _ => hq1 j hj) (Nat.le_refl _) (Nat.le_succ _)
  have hm1 := (hq1 m hml).trans hm
  have ht1 := (hq1 t htl).trans ht
  refine r_putF dX2_init_12 zF_X2_10 (by assumption) (Nat.le_of_ble_eq_true rfl) ⟨rfl, rfl⟩ rfl ?_
  have hV2 := hV1.put (c := .inr (3, [.int 0, .int 0, .int 0, .int 0, .ref S.1, .null])) (hV1.raw hm1 (by decide) (by decide))
  have hF2 := hF1.tr (FrV.put (S := S2) (E := eI E S.1 ((mPl ts off).length, []) (S.1 + 1, 8)) (x := m) (c := .inr (3, [.int 0, .int 0, .int 0, .int 0, .ref S.1, .null])) (List.mem_singleton.mpr rfl))
  have hm2 : (z_put S2 m (.inr (3, [.int 0, .int 0, .int 0, .int 0, .ref S.1, .null]))).2.2 m = .inr (3, [.int 0, .int 0, .int 0, .int 0, .ref S.1, .null]) := z_put_self
  have ht2 : (z_put S2 m (.inr (3, [.int 0, .int 0, .int 0, .int 0, .ref S.1, .null]))).2.2 t = .inr (7, tF tb tk1 tst te stop val sec) := (z_put_ne (fun q => by rw [q, hm] at ht; cases ht)).trans ht1
  have hz4 : (z_put S2 m (.inr (3, [.int 0, .int 0, .int 0, .int 0, .ref S.1, .null]))).1 = S.1 + 2 ∧ (z_put S2 m (.inr (3, [.int 0, .int 0, .int 0, .int 0, .ref S.1, .null]))).2.1 = S.2.1 + 10 := ⟨by show S2.1 = _; omega, by show S2.2.1 = _; omega⟩
  show Ru _ _ _ _ _ (z_put S2 m (.inr (3, [.int 0, .int 0, .int 0, .int 0, .ref S.1, .null]))) _
  generalize z_put S2 m (.inr (3, [.int 0, .int 0, .int 0, .int 0, .ref S.1, .null])) = S3 at hV2 hF2 hm2 ht2 hz4 ⊢
  generalize hE1 : eI E S.1 ((mPl ts off).length, []) (S.1 + 1, 8) = E1 at hV2 hF2
  have e1 : E1.1 = E.1 := by rw [← hE1]; rfl
  have e1i : E1.2.1 = va_up E.2.1 S.1 (some ((mPl ts off).length, [])) := by rw [← hE1]; rfl
  clear hE1 hV1 hF1 hI1 hfr2 hfr1 hb1 hq1 hm1 ht1
  -- the second
  refine r_aload_n dX2_init_15 (by first | rfl | assumption) ?_
  refine r_new dX2_init_16 zn_X2_7 ?_
  refine r_dup dX2_init_19 rfl ?_
  have hb1 : (z_new S3 (.inr (2, [.null, .int 0])) 2).2.2 S3.1 = .inr (2, [.null, .int 0]) := va_up_self _ _ _
  have hfr1 : ∀ j, j < S3.1 → (z_new S3 (.inr (2, [.null, .int 0])) 2).2.2 j = S3.2.2 j := fun j hj => va_up_ne _ _ (Nat.ne_of_lt hj)
  have hz1 : (z_new S3 (.inr (2, [.null, .int 0])) 2).1 = S3.1 + 1 ∧ (z_new S3 (.inr (2, [.null, .int 0])) 2).2.1 = S3.2.1 + 2 := ⟨rfl, rfl⟩
  show Ru _ _ _ _ _ (z_new S3 (.inr (2, [.null, .int 0])) 2) _
  generalize z_new S3 (.inr (2, [.null, .int 0])) 2 = S4 at hb1 hfr1 hz1 ⊢
  refine r_callIN0 dX2_init_20 zm_X2_9 (Nat.le_of_ble_eq_true rfl) (Nat.le_of_ble_eq_true rfl) (C_X1_init hb1 (by omega)) (fun v S5 hv => ?_)
  obtain ⟨rfl, hI1, hz5, hz6, hfr2⟩ := hv
  rw [hz1.1] at hI1
  have hq1 : ∀ j, j < S3.1 → S5.2.2 j = S3.2.2 j := fun j hj => (hfr2 j (by omega) (by omega)).trans (hfr1 j hj)
  have hV3 := hV2.newI (S1 := S5) (a := 2) (b := 10) (bnd := (mPl ts off).length) (by omega) (by omega) (fun j hj _ => hq1 j hj) hI1 hbn (Nat.le_refl _) (Nat.le_succ _) (by omega) (by omega)
  have hF3 : FrV S3 S5 E1 (eI E1 S3.1 ((mPl ts off).length, []) (S3.1 + 1, 8)) [m] := FrV.newI ⟨by omega, by omega⟩ (fun j hj _ => hq1 j hj) (Nat.le_refl _) (Nat.le_succ _)
  have hm3 := (hq1 m (by omega)).trans hm2
  have ht3 := (hq1 t (by omega)).trans ht2
  refine r_putF dX2_init_23 zF_X2_16 (by assumption) (Nat.le_of_ble_eq_true rfl) ⟨rfl, rfl⟩ rfl ?_
  have hV4 := hV3.put (c := .inr (3, [.int 0, .int 0, .int 0, .int 0, .ref S.1, .ref S3.1])) (hV3.raw hm3 (by decide) (by decide))
  have hF4 := (hF2.tr hF3).tr (FrV.put (S := S5) (E := eI E1 S3.1 ((mPl ts off).length, []) (S3.1 + 1, 8)) (x := m) (c := .inr (3, [.int 0, .int 0, .int 0, .int 0, .ref S.1, .ref S3.1])) (List.mem_singleton.mpr rfl))
  have hm4 : (z_put S5 m (.inr (3, [.int 0, .int 0, .int 0, .int 0, .ref S.1, .ref S3.1]))).2.2 m = .inr (3, [.int 0, .int 0, .int 0, .int 0, .ref S.1, .ref S3.1]) := z_put_self
  have ht4 : (z_put S5 m (.inr (3, [.int 0, .int 0, .int 0, .int 0, .ref S.1, .ref S3.1]))).2.2 t = .inr (7, tF tb tk1 tst te stop val sec) := (z_put_ne (fun q => by rw [q, hm] at ht; cases ht)).trans ht3
  have hz7 : (z_put S5 m (.inr (3, [.int 0, .int 0, .int 0, .int 0, .ref S.1, .ref S3.1]))).1 = S.1 + 4 := by show S5.1 = _; omega
  show Ru _ _ _ _ _ (z_put S5 m (.inr (3, [.int 0, .int 0, .int 0, .int 0, .ref S.1, .ref S3.1]))) _
  generalize z_put S5 m (.inr (3, [.int 0, .int 0, .int 0, .int 0, .ref S.1, .ref S3.1])) = S6 at hV4 hF4 hm4 ht4 hz7 ⊢
  rw [hz4.1] at hV4 hF4 hm4
  generalize hE2 : eI E1 (S.1 + 2) ((mPl ts off).length, []) (S.1 + 2 + 1, 8) = E2 at hV4 hF4
  have e2 : E2.1 = E.1 := by rw [← hE2]; exact e1
  have e2i : E2.2.1 = ivP E.2.1 S.1 (S.1 + 2) (mPl ts off).length [] := by rw [← hE2]; show va_up E1.2.1 _ _ = _; rw [e1i]; rfl
  clear hE2 hV3 hF3 hI1 hfr2 hfr1 hb1 hq1 hm3 ht3 hV2 hF2 hm2 ht2 hz1 hz2 hz3 hz5 hz6 hz4 e1 e1i
  have hoth : ∀ x q, E.2.1 x = some q → ∀ gs, ivP E.2.1 S.1 (S.1 + 2) (mPl ts off).length gs x = some q := fun x q hq gs => by
    have := nk x q hq
    rw [ivP_else (by omega) (by omega)]
    exact hq
  have hkE : E2.2.1 tk1 = some (b1, ts.map fun q => q.1) := by rw [e2i]; exact hoth _ _ hk _
  have hsE : E2.2.1 tst = some (b2, ts.map fun q => nI q.2.1) := by rw [e2i]; exact hoth _ _ hs _
  have heE : E2.2.1 te = some (b3, ts.map fun q => nI q.2.2.1) := by rw [e2i]; exact hoth _ _ he _
  have a1 : iAt (ts.map fun q => nI q.2.1) 1 = nI (ts.getD 1 t0).2.1 := iAt_mapf (i := 1) (by omega) (getD_some (by omega))
  have a2 : iAt (ts.map fun q => nI q.2.2.1) 1 = nI (ts.getD 1 t0).2.2.1 := iAt_mapf (i := 1) (by omega) (getD_some (by omega))
  generalize hlB : (((lB.filter fun o => (E.1 o).isSome).filter fun o => (E1.1 o).isSome)) = lB1 at hV4
  generalize hlI : ((S.1 + 2) :: ((S.1 :: (lI.filter fun o => (E.2.1 o).isSome)).filter fun o => (E1.2.1 o).isSome)) = lI1 at hV4
  have hV4 : Vw S6 E2 lB1 lI1 (B + 20 + 2 * potI (mPl ts off).length 8) (C + 4 + 2 * cpt (mPl ts off).length 8) := by
    have ee1 : B + 10 + potI (mPl ts off).length 8 + 10 + potI (mPl ts off).length 8 = B + 20 + 2 * potI (mPl ts off).length 8 := by omega
    have ee2 : C + 2 + cpt (mPl ts off).length 8 + 2 + cpt (mPl ts off).length 8 = C + 4 + 2 * cpt (mPl ts off).length 8 := by omega
    rw [← ee1, ← ee2]
    exact hV4
  clear hlB hlI
  have putm : ∀ (S9 : zS) (vs vs' : List Value), S9.2.2 m = .inr (3, vs) → Vw S9 E2 lB1 lI1 (B + 20 + 2 * potI (mPl ts off).length 8) (C + 4 + 2 * cpt (mPl ts off).length 8) → FrV S S9 E E2 [m] → S9.2.2 t = .inr (7, tF tb tk1 tst te stop val sec) → Vw (z_put S9 m (.inr (3, vs'))) E2 lB1 lI1 (B + 20 + 2 * potI (mPl ts off).length 8) (C + 4 + 2 * cpt (mPl ts off).length 8) ∧ FrV S (z_put S9 m (.inr (3, vs'))) E E2 [m] ∧ (z_put S9 m (.inr (3, vs'))).2.2 m = .inr (3, vs') ∧ (z_put S9 m (.inr (3, vs'))).2.2 t = .inr (7, tF tb tk1 tst te stop val sec) ∧ (z_put S9 m (.inr (3, vs'))).1 = S9.1 := by
    intro S9 vs vs' q1 q2 q3 q4
    exact ⟨q2.put (q2.raw q1 (by decide) (by decide)), q3.tr (FrV.put (List.mem_singleton.mpr rfl)), z_put_self, (z_put_ne (fun q => by rw [q, hm] at ht; cases ht)).trans q4, rfl⟩
  have a1 : iAt (ts.map fun q => nI q.2.1) 1 = nI (ts.getD 1 t0).2.1 := iAt_mapf (i := 1) (by omega) (getD_some (by omega))
  have a2 : iAt (ts.map fun q => nI q.2.2.1) 1 = nI (ts.getD 1 t0).2.2.1 := iAt_mapf (i := 1) (by omega) (getD_some (by omega))
  refine r_aload_n dX2_init_26 (by first | rfl | assumption) ?_
  refine r_iload_n dX2_init_27 (by first | rfl | assumption) ?_
  refine r_aload_n dX2_init_28 (by first | rfl | assumption) ?_
  refine r_ic (1) dX2_init_29 rfl ?_
  refine r_callV1 dX2_init_30 zm_X2_19 (by assumption) rfl (Nat.le_of_ble_eq_true rfl) (Nat.le_of_ble_eq_true rfl) (C_X6_start ht4 hV4 hsE) (fun v S9 hv => ?_)
  obtain ⟨hS9, rfl⟩ := hv
  subst hS9
  rw [a1]
  refine r_iadd dX2_init_33 ?_
  rw [nI_add]
  refine r_putF dX2_init_34 zF_X2_25 (by assumption) (Nat.le_of_ble_eq_true rfl) ⟨rfl, rfl⟩ rfl ?_
  obtain ⟨hV5, hF5, hm5, ht5, hz5⟩ := putm S9 _ [.int (nI (off + (ts.getD 1 t0).2.1)), .int 0, .int 0, .int 0, .ref S.1, .ref (S.1 + 2)] hm4 hV4 hF4 ht4
  show Ru _ _ _ _ _ (z_put S9 m (.inr (3, [.int (nI (off + (ts.getD 1 t0).2.1)), .int 0, .int 0, .int 0, .ref S.1, .ref (S.1 + 2)]))) _
  generalize z_put S9 m (.inr (3, [.int (nI (off + (ts.getD 1 t0).2.1)), .int 0, .int 0, .int 0, .ref S.1, .ref (S.1 + 2)])) = S7 at hV5 hF5 hm5 ht5 hz5 ⊢
  refine r_aload_n dX2_init_37 (by first | rfl | assumption) ?_
  refine r_aload_n dX2_init_38 (by first | rfl | assumption) ?_
  refine r_ic (1) dX2_init_39 rfl ?_
  refine r_callV1 dX2_init_40 zm_X2_29 (by assumption) rfl (Nat.le_of_ble_eq_true rfl) (Nat.le_of_ble_eq_true rfl) (C_X6_end ht5 hV5 heE) (fun v S8 hv => ?_)
  obtain ⟨hS8, rfl⟩ := hv
  subst hS8
  rw [a2]
  refine r_aload_n dX2_init_43 (by first | rfl | assumption) ?_
  refine r_ic (1) dX2_init_44 rfl ?_
  refine r_callV1 dX2_init_45 zm_X2_19 (by assumption) rfl (Nat.le_of_ble_eq_true rfl) (Nat.le_of_ble_eq_true rfl) (C_X6_start ht5 hV5 hsE) (fun v S7 hv => ?_)
  obtain ⟨hS7, rfl⟩ := hv
  subst hS7
  rw [a1]
  refine r_isub dX2_init_48 ?_
  rw [nI_sub (hse 1 (by omega)).1]
  refine r_putF dX2_init_49 zF_X2_32 (by assumption) (Nat.le_of_ble_eq_true rfl) ⟨rfl, rfl⟩ rfl ?_
  obtain ⟨hV6, hF6, hm6, ht6, hz6⟩ := putm S7 _ [.int (nI (off + (ts.getD 1 t0).2.1)), .int (nI ((ts.getD 1 t0).2.2.1 - (ts.getD 1 t0).2.1)), .int 0, .int 0, .ref S.1, .ref (S.1 + 2)] hm5 hV5 hF5 ht5
  show Ru _ _ _ _ _ (z_put S7 m (.inr (3, [.int (nI (off + (ts.getD 1 t0).2.1)), .int (nI ((ts.getD 1 t0).2.2.1 - (ts.getD 1 t0).2.1)), .int 0, .int 0, .ref S.1, .ref (S.1 + 2)]))) _
  generalize z_put S7 m (.inr (3, [.int (nI (off + (ts.getD 1 t0).2.1)), .int (nI ((ts.getD 1 t0).2.2.1 - (ts.getD 1 t0).2.1)), .int 0, .int 0, .ref S.1, .ref (S.1 + 2)])) = S8 at hV6 hF6 hm6 ht6 hz6 ⊢
  refine r_aload_n dX2_init_52 (by first | rfl | assumption) ?_
  refine r_iload_n dX2_init_53 (by first | rfl | assumption) ?_
  refine r_putF dX2_init_54 zF_X2_35 (by assumption) (Nat.le_of_ble_eq_true rfl) ⟨rfl, rfl⟩ rfl ?_
  obtain ⟨hV7, hF7, hm7, ht7, hz8⟩ := putm S8 _ [.int (nI (off + (ts.getD 1 t0).2.1)), .int (nI ((ts.getD 1 t0).2.2.1 - (ts.getD 1 t0).2.1)), .int (nI fr), .int 0, .ref S.1, .ref (S.1 + 2)] hm6 hV6 hF6 ht6
  show Ru _ _ _ _ _ (z_put S8 m (.inr (3, [.int (nI (off + (ts.getD 1 t0).2.1)), .int (nI ((ts.getD 1 t0).2.2.1 - (ts.getD 1 t0).2.1)), .int (nI fr), .int 0, .ref S.1, .ref (S.1 + 2)]))) _
  generalize z_put S8 m (.inr (3, [.int (nI (off + (ts.getD 1 t0).2.1)), .int (nI ((ts.getD 1 t0).2.2.1 - (ts.getD 1 t0).2.1)), .int (nI fr), .int 0, .ref S.1, .ref (S.1 + 2)])) = S10 at hV7 hF7 hm7 ht7 hz8 ⊢
  refine r_aload_n dX2_init_57 (by first | rfl | assumption) ?_
  refine r_iload dX2_init_58 (by first | rfl | assumption) ?_
  refine r_putF dX2_init_60 zF_X2_38 (by assumption) (Nat.le_of_ble_eq_true rfl) ⟨rfl, rfl⟩ rfl ?_
  obtain ⟨hV8, hF8, hm8, ht8, hz9⟩ := putm S10 _ [.int (nI (off + (ts.getD 1 t0).2.1)), .int (nI ((ts.getD 1 t0).2.2.1 - (ts.getD 1 t0).2.1)), .int (nI fr), .int (nI to), .ref S.1, .ref (S.1 + 2)] hm7 hV7 hF7 ht7
  show Ru _ _ _ _ _ (z_put S10 m (.inr (3, [.int (nI (off + (ts.getD 1 t0).2.1)), .int (nI ((ts.getD 1 t0).2.2.1 - (ts.getD 1 t0).2.1)), .int (nI fr), .int (nI to), .ref S.1, .ref (S.1 + 2)]))) _
  generalize z_put S10 m (.inr (3, [.int (nI (off + (ts.getD 1 t0).2.1)), .int (nI ((ts.getD 1 t0).2.2.1 - (ts.getD 1 t0).2.1)), .int (nI fr), .int (nI to), .ref S.1, .ref (S.1 + 2)])) = S11 at hV8 hF8 hm8 ht8 hz9 ⊢
  have hz : S11.1 = S.1 + 4 := by omega
  generalize hBB : B + 20 + 2 * potI (mPl ts off).length 8 = BB at hV8
  generalize hCC : C + 4 + 2 * cpt (mPl ts off).length 8 = CC at hV8
  have loop : ∀ (n i : Nat) (gs : List (Nat × Nat)) (L : Nat → Option Value) (S5 : zS) (E5 : zE), ts.length ≤ i + 2 * n → gs ++ mpL ts off n i = mPl ts off → i ≤ 1026 → vP S11 E2 lB1 lI1 BB CC [] S5 E5 → E5.1 = E2.1 → E5.2.1 = ivP E.2.1 S.1 (S.1 + 2) (mPl ts off).length gs → L 0 = some (.ref m) → L 1 = some (.ref t) → L 2 = some (.int (nI off)) → L 4 = some (.int (nI to)) → L 5 = some (.int (nI i)) → Ru (d + 5) mX2_init 66 L [] S5 (z_en mX2_init (fun v S1 => v = none ∧ S1.2.2 m = mcl (m, (off + (ts.getD 1 t0).2.1, (ts.getD 1 t0).2.2.1 - (ts.getD 1 t0).2.1, fr, to), mPl ts off, S.1, S.1 + 2) ∧ ∃ E1 lB1 lI1, Vw S1 E1 lB1 lI1 BB CC ∧ FrV S S1 E E1 [m] ∧ E1.1 = E.1 ∧ E1.2.1 = ivP E.2.1 S.1 (S.1 + 2) (mPl ts off).length (mPl ts off))) := by
    intro n
    induction n with
    | zero =>
      intro i gs L S5 E5 hi hg hi2 hP hb hii l0 l1 l2 l4 l5
      have hg : gs ++ [] = mPl ts off := hg
      rw [List.append_nil] at hg
      have hm9 := hP.raw hV8 hm8 (by decide) (by decide) (by omega) (by simp)
      have ht9 := hP.raw hV8 ht8 (by decide) (by decide) (by omega) (by simp)
      have hk9 : E5.2.1 tk1 = some (b1, ts.map fun q => q.1) := by rw [hii]; exact hoth _ _ hk _
      refine r_iload dX2_init_66 (by first | rfl | assumption) ?_
      refine r_aload_n dX2_init_68 (by first | rfl | assumption) ?_
      refine r_callV0 dX2_init_69 zm_X2_41 (by assumption) rfl (Nat.le_of_ble_eq_true rfl) (Nat.le_of_ble_eq_true rfl) (C_X6_count ht9 hP.1 hk9) (fun v S9 hv => ?_)
      obtain ⟨hS9, rfl⟩ := hv
      subst hS9
      rw [List.length_map]
      refine r_icmp_ge_t (tgt := 116) dX2_init_72 (by decide) (nI_le (show ts.length ≤ i by omega) (by omega)) ?_
      refine r_return dX2_init_116 rfl ⟨rfl, hm9, E5, lB1, lI1, hP.1, hF8.tr (hP.2.mono (fun _ q => by cases q)), hb.trans e2, by rw [hii, hg]⟩
    | succ n ih =>
      intro i gs L S5 E5 hi hg hi2 hP hb hii l0 l1 l2 l4 l5
      rw [mpL_s] at hg
      have hm9 := hP.raw hV8 hm8 (by decide) (by decide) (by omega) (by simp)
      have ht9 := hP.raw hV8 ht8 (by decide) (by decide) (by omega) (by simp)
      have hk9 : E5.2.1 tk1 = some (b1, ts.map fun q => q.1) := by rw [hii]; exact hoth _ _ hk _
      refine r_iload dX2_init_66 (by first | rfl | assumption) ?_
      refine r_aload_n dX2_init_68 (by first | rfl | assumption) ?_
      refine r_callV0 dX2_init_69 zm_X2_41 (by assumption) rfl (Nat.le_of_ble_eq_true rfl) (Nat.le_of_ble_eq_true rfl) (C_X6_count ht9 hP.1 hk9) (fun v S9 hv => ?_)
      obtain ⟨hS9, rfl⟩ := hv
      subst hS9
      rw [List.length_map]
      by_cases q : i < ts.length
      · rw [if_pos q] at hg
        have hlen := congrArg List.length hg
        rw [List.length_append, List.length_cons] at hlen
        have hse9 := hse i q
        have hs9 : E5.2.1 tst = some (b2, ts.map fun q => nI q.2.1) := by rw [hii]; exact hoth _ _ hs _
        have he9 : E5.2.1 te = some (b3, ts.map fun q => nI q.2.2.1) := by rw [hii]; exact hoth _ _ he _
        have hA : E5.2.1 S.1 = some ((mPl ts off).length, gs.map fun q => nI q.1) := by rw [hii]; exact ivP_s (by omega)
        have hBq : E5.2.1 (S.1 + 2) = some ((mPl ts off).length, gs.map fun q => nI q.2) := by rw [hii]; exact ivP_e
        have cA := (hP.1.i hA).1.1
        have a3 : iAt (ts.map fun q => nI q.2.1) (nI i) = nI (ts.getD i t0).2.1 := iAt_mapf (by omega) (getD_some q)
        have a4 : iAt (ts.map fun q => nI q.2.2.1) (nI i) = nI (ts.getD i t0).2.2.1 := iAt_mapf (by omega) (getD_some q)
        refine r_icmp_ge_f (tgt := 116) dX2_init_72 (by decide) (nI_ge q (by omega)) ?_
        refine r_aload_n dX2_init_75 (by first | rfl | assumption) ?_
        refine r_getf dX2_init_76 zf_X2_10 (by assumption) rfl ?_
        refine r_iload_n dX2_init_79 (by first | rfl | assumption) ?_
        refine r_aload_n dX2_init_80 (by first | rfl | assumption) ?_
        refine r_iload dX2_init_81 (by first | rfl | assumption) ?_
        refine r_callV1 dX2_init_83 zm_X2_19 (by assumption) rfl (Nat.le_of_ble_eq_true rfl) (Nat.le_of_ble_eq_true rfl) (C_X6_start ht9 hP.1 hs9) (fun v S8 hv => ?_)
        obtain ⟨hS8, rfl⟩ := hv
        subst hS8
        rw [a3]
        refine r_iadd dX2_init_86 ?_
        rw [nI_add]
        refine r_callV1 dX2_init_87 zm_X2_45 (by assumption) rfl (Nat.le_of_ble_eq_true rfl) (Nat.le_of_ble_eq_true rfl) (V_X1_add hP.1 hA (by rw [List.length_map]; omega)) (fun v S1 hv => ?_)
        obtain ⟨rfl, rc1, hP1⟩ := hv
        have hm10 := hP1.raw hP.1 hm9 (by decide) (by decide) (hP.lt (by omega)) (by simp)
        have ht10 := hP1.raw hP.1 ht9 (by decide) (by decide) (hP.lt (by omega)) (by simp)
        have up1 : ∀ x, x ≠ S.1 → (eI E5 S.1 ((mPl ts off).length, (gs.map fun q => nI q.1) ++ [nI (off + (ts.getD i t0).2.1)]) rc1).2.1 x = E5.2.1 x := fun x hx => va_up_ne _ _ hx
        have hB2 := (up1 (S.1 + 2) (by omega)).trans hBq
        have hs10 := (up1 tst (by omega)).trans hs9
        have he10 := (up1 te (by omega)).trans he9
        have cB := (hP1.1.i hB2).1.1
        refine r_aload_n dX2_init_90 (by first | rfl | assumption) ?_
        refine r_getf dX2_init_91 zf_X2_16 (by assumption) rfl ?_
        refine r_aload_n dX2_init_94 (by first | rfl | assumption) ?_
        refine r_iload dX2_init_95 (by first | rfl | assumption) ?_
        refine r_callV1 dX2_init_97 zm_X2_29 (by assumption) rfl (Nat.le_of_ble_eq_true rfl) (Nat.le_of_ble_eq_true rfl) (C_X6_end ht10 hP1.1 he10) (fun v S8 hv => ?_)
        obtain ⟨hS8, rfl⟩ := hv
        subst hS8
        rw [a4]
        refine r_aload_n dX2_init_100 (by first | rfl | assumption) ?_
        refine r_iload dX2_init_101 (by first | rfl | assumption) ?_
        refine r_callV1 dX2_init_103 zm_X2_19 (by assumption) rfl (Nat.le_of_ble_eq_true rfl) (Nat.le_of_ble_eq_true rfl) (C_X6_start ht10 hP1.1 hs10) (fun v S7 hv => ?_)
        obtain ⟨hS7, rfl⟩ := hv
        subst hS7
        rw [a3]
        refine r_isub dX2_init_106 ?_
        rw [nI_sub hse9.1]
        refine r_callV1 dX2_init_107 zm_X2_45 (by assumption) rfl (Nat.le_of_ble_eq_true rfl) (Nat.le_of_ble_eq_true rfl) (V_X1_add hP1.1 hB2 (by rw [List.length_map]; omega)) (fun v S2 hv => ?_)
        obtain ⟨rfl, rc2, hP2⟩ := hv
        refine r_inc (nI (i + 2)) dX2_init_110 (by first | rfl | assumption) (by decide) (by first | exact z_c1_i (by first | rfl | assumption) | exact z_c1_r (by first | rfl | assumption) | exact z_c1_n (by first | rfl | assumption) | exact z_c1_c (by first | rfl | assumption) | exact z_c1_0 (by first | rfl | assumption)) (nI_add i 2) ?_
        refine r_goto (tgt := 66) dX2_init_113 (by decide) ?_
        refine ih (i + 2) (gs ++ [(off + (ts.getD i t0).2.1, (ts.getD i t0).2.2.1 - (ts.getD i t0).2.1)]) _ S2 _ (by omega) (by rw [List.append_assoc]; exact hg) (by omega) ((hP.tr hP1).tr hP2) hb ?_ l0 l1 l2 l4 rfl
        show va_up (va_up E5.2.1 S.1 _) (S.1 + 2) _ = _
        rw [hii]
        exact ivP_add (q := (off + (ts.getD i t0).2.1, (ts.getD i t0).2.2.1 - (ts.getD i t0).2.1))
      · rw [if_neg q, List.append_nil] at hg
        refine r_icmp_ge_t (tgt := 116) dX2_init_72 (by decide) (nI_le (show ts.length ≤ i by omega) (by omega)) ?_
        refine r_return dX2_init_116 rfl ⟨rfl, hm9, E5, lB1, lI1, hP.1, hF8.tr (hP.2.mono (fun _ q => by cases q)), hb.trans e2, by rw [hii, hg]⟩
  refine r_ic (2) dX2_init_63 rfl ?_
  refine r_istore dX2_init_64 (by decide) (by first | exact z_c1_i (by first | rfl | assumption) | exact z_c1_r (by first | rfl | assumption) | exact z_c1_n (by first | rfl | assumption) | exact z_c1_c (by first | rfl | assumption) | exact z_c1_0 (by first | rfl | assumption)) ?_
  exact loop ts.length 2 [] _ S11 E2 (by omega) rfl (by decide) (vP.rf hV8) rfl e2i rfl rfl rfl rfl rfl
end
