/-! THE LAW FROM ITS ENTRY -/
section
variable {G : Nat → Nat → Nat → zL → List Value → zS → Prop} {Ln : Nat} {sx : Nat → Int32}
theorem OR00 : OR c00 g00 r00 := ⟨⟨rfl, Nat.zero_le _, fun j hj => (by cases hj)⟩, rfl, by decide, rfl, fun z => (by cases z), fun _ => ⟨rfl, rfl, fun _ => rfl, fun z => absurd rfl z⟩, fun z => (by cases z), fun _ => rfl⟩
set_option maxRecDepth 10000 in
set_option maxHeartbeats 4000000 in
theorem law_start (hG : LG G) (hLn : Ln ≤ 256)
    (hSl : ∀ (X Y pc : Nat) (L : Nat → Option Value) (st : List Value) (S : zS), decode mL_law.2.1 pc = .ok (.arraylength, 1) → LU G X Y (pc + 1) L (.int (nI Ln) :: st) S → LU G X Y pc L (.retAddr 60 :: st) S)
    (hSd : ∀ (X Y pc j : Nat) (L : Nat → Option Value) (st : List Value) (S : zS), decode mL_law.2.1 pc = .ok (.iaload, 1) → j < Ln → LU G X Y (pc + 1) L (.int (sx j) :: st) S → LU G X Y pc L (.int (nI j) :: .retAddr 60 :: st) S)
    (hEnd : ∀ (X Y : Nat) (L : Nat → Option Value) (S : zS), S.1 - 1 + X ≤ 600128 → S.2.1 + Y ≤ 7301098 → LU G X Y 277 L [.int 1] S)
    (hNA : NA G) (hNB : NB G) : LU G 0 0 0 (z_lf [(0, .retAddr 60)]) [] S00 := by
  refine l_new hG dL_law_0 zn_L_8 ?_
  refine l_dup hG dL_law_3 rfl ?_
  show LU G 0 0 _ _ [.ref 1, .ref 1] (z_new S00 (.inr (8, dX7)) 13)
  refine l_callI0 hG dL_law_4 zm_L_15 (Nat.le_of_ble_eq_true rfl) (Nat.le_of_ble_eq_true rfl) (C_X7_init (d := 9)) (fun v S1 hv => ?_)
  obtain ⟨rfl, e1, hXR, E, lB, lI, B, C, hV, hXE, hB, hC⟩ := hv
  refine l_astore_n hG dL_law_7 (by decide) (by first | assumption | exact z_c1_i (by first | rfl | assumption) | exact z_c1_r (by first | rfl | assumption) | exact z_c1_n (by first | rfl | assumption) | exact z_c1_c (by first | rfl | assumption) | exact z_c1_0 (by first | rfl | assumption)) ?_
  refine l_new hG dL_law_8 zn_L_16 ?_
  refine l_dup hG dL_law_11 rfl ?_
  rw [e1]
  show LU G 0 0 _ _ [.ref 165, .ref 165] (z_new S1 (.inr (9, dX8)) 50)
  have k5 : (z_new S1 (.inr (9, dX8)) 50).2.2 165 = .inr (9, dX8) := by have h := @z_new_at S1 50 (.inr (9, dX8)); rw [e1] at h; exact h
  have n5 : (z_new S1 (.inr (9, dX8)) 50).1 = 166 := by show S1.1 + 1 = _; rw [e1]
  have s5 : (z_new S1 (.inr (9, dX8)) 50).2.1 = S1.2.1 + 50 := rfl
  have o5 : ∀ j, j < 165 → (z_new S1 (.inr (9, dX8)) 50).2.2 j = S1.2.2 j := fun j hj => va_up_ne _ _ (by rw [e1]; omega)
  generalize z_new S1 (.inr (9, dX8)) 50 = S2 at k5 n5 s5 o5 ⊢
  refine l_callI0 hG dL_law_12 zm_L_18 (Nat.le_of_ble_eq_true rfl) (Nat.le_of_ble_eq_true rfl) (C_X8_init (d := 12) k5 n5) (fun v S3 hv => ?_)
  obtain ⟨rfl, i1, i2, i3, i4, i5⟩ := hv
  refine l_astore_n hG dL_law_15 (by decide) (by first | assumption | exact z_c1_i (by first | rfl | assumption) | exact z_c1_r (by first | rfl | assumption) | exact z_c1_n (by first | rfl | assumption) | exact z_c1_c (by first | rfl | assumption) | exact z_c1_0 (by first | rfl | assumption)) ?_
  refine l_ic hG (1) dL_law_16 rfl ?_
  refine l_newl hG (N := 1) dL_law_17 (by decide) rfl (by decide) z_ac_long ?_
  rw [i1]
  have k6 : (z_new S3 (.inl (.long, 1, .inr (.inl (fun _ => 0)))) 1).2.2 241 = rC r00 241 := by have h := @z_new_at S3 1 (.inl (.long, 1, .inr (.inl (fun _ => 0)))); rw [i1] at h; exact h
  have n6 : (z_new S3 (.inl (.long, 1, .inr (.inl (fun _ => 0)))) 1).1 = 242 := by show S3.1 + 1 = _; rw [i1]
  have s6 : (z_new S3 (.inl (.long, 1, .inr (.inl (fun _ => 0)))) 1).2.1 = S1.2.1 + 259975 := by show S3.2.1 + 1 = _; omega
  have o6 : ∀ j, j < 241 → (z_new S3 (.inl (.long, 1, .inr (.inl (fun _ => 0)))) 1).2.2 j = S3.2.2 j := fun j hj => va_up_ne _ _ (by rw [i1]; omega)
  generalize z_new S3 (.inl (.long, 1, .inr (.inl (fun _ => 0)))) 1 = S4 at k6 n6 s6 o6 ⊢
  refine l_astore_n hG dL_law_19 (by decide) (by first | assumption | exact z_c1_i (by first | rfl | assumption) | exact z_c1_r (by first | rfl | assumption) | exact z_c1_n (by first | rfl | assumption) | exact z_c1_c (by first | rfl | assumption) | exact z_c1_0 (by first | rfl | assumption)) ?_
  refine l_ic hG (0) dL_law_20 rfl ?_
  refine l_istore hG dL_law_21 (by decide) (by first | assumption | exact z_c1_i (by first | rfl | assumption) | exact z_c1_r (by first | rfl | assumption) | exact z_c1_n (by first | rfl | assumption) | exact z_c1_c (by first | rfl | assumption) | exact z_c1_0 (by first | rfl | assumption)) ?_
  have lo : ∀ j, j < 165 → S4.2.2 j = S1.2.2 j := fun j hj => (o6 j (by omega)).trans ((i4 j hj).trans (o5 j hj))
  have hi : ∀ j, 165 ≤ j → j < 165 + 77 → S4.2.2 j = rC r00 j := fun j a b => by
    by_cases q1 : j = 241
    · rw [q1]; exact k6
    · refine (o6 j (by omega)).trans ?_
      by_cases q2 : j = 165
      · rw [q2]; exact i3
      · exact i5 j (by omega) (by omega)
  have hV4 : Vw S4 E lB lI (B + 259975) (C + 77) := hV.more (by rw [n6, e1]) s6 (fun j hj _ => lo j (by omega))
  have hZ : XZ S4 E (rC r00) 77 c00 g00 := ⟨by rw [n6]; decide, fun x hx => (by cases hx), fun j a b => ⟨hi j a b, fun z => (by have := hV.lt z; omega), fun z => (by cases z), fun q hq => (by cases hq)⟩⟩
  have hXR4 : XR S4 c00 g00 := by
    obtain ⟨a1, a2, a3, ⟨a4, ⟨gg, a5, a6⟩, a7⟩, a8, ⟨a9, a10, a11, a12⟩, a13⟩ := hXR
    exact ⟨(lo 1 (by decide)).trans a1, (lo 2 (by decide)).trans a2, (lo 13 (by decide)).trans a3, ⟨(lo 20 (by decide)).trans a4, ⟨gg, (lo 21 (by decide)).trans a5, a6⟩, a7⟩, fun j hj => (lo _ (ptN_lt hj).1).trans (a8 j hj), ⟨(lo 162 (by decide)).trans a9, a10, a11, Or.inl ⟨rfl, rfl⟩⟩, fun q hq => (by cases hq)⟩
  have hI : IV 0 0 0 S4 := ⟨c00, g00, r00, 0, B + 259975 + 3072, C + 77 + 768, ⟨E, lB, lI, B + 259975, C + 77, ⟨hV4, hXR4, hXE, hZ⟩, by decide, by show B + 259975 + 4 * (768 - 0) ≤ B + 259975 + 3072 + 0; omega, by show C + 77 + (768 - 0) ≤ C + 77 + 768 + 0; omega⟩, OR00, ⟨Nat.zero_le _, fun q hq => (by cases hq)⟩, Nat.zero_le _, by omega, by omega, Nat.zero_le _, Nat.zero_le _⟩
  exact law_loop hG hLn hSl hSd hEnd hNA hNB 64 0 0 0 _ S4 (by omega) (by omega) ⟨rfl, rfl, rfl, rfl, rfl⟩ hI
end
abbrev gFl0 : List Cond := flatC (Jvm.Cond.and given_1 narrow_1)
def gTm (i : Nat) : Term := .string "MacroReader" (z_ix i)
def gLen : List Nat := z_sx.map (fun q => q.2.length)
def gByt : List (List Int32) := z_sx.map (fun q => q.2.map nI)
theorem gs_ex : ∀ i, i < 8 → Cond.exactly (gTm i) "java/lang/String" ∈ gFl0 := by decide +kernel
theorem gs_co : ∀ i, i < 7 → Cond.eq (.field (gTm i) "java/lang/String" "coder" "B") (.int 0) ∈ gFl0 := by decide +kernel
theorem gs_ar : ∀ i, i < 7 → Cond.arrayOf (.field (gTm i) "java/lang/String" "value" "[B") .byte ∈ gFl0 := by decide +kernel
theorem gs_le : ∀ i, i < 7 → Cond.eq (.length (.field (gTm i) "java/lang/String" "value" "[B")) (.int (Int32.ofNat (gLen.getD i 0))) ∈ gFl0 := by decide +kernel
theorem gs_el : ∀ i, i < 7 → ∀ j, j < gLen.getD i 0 → Cond.eq (.elem (.field (gTm i) "java/lang/String" "value" "[B") (.int (Int32.ofNat j))) (.int ((gByt.getD i []).getD j 0)) ∈ gFl0 := by decide +kernel
theorem gs_ne : ∀ i, i < 7 → ∀ j, j < 7 → i ≠ j → Cond.not (Cond.eq (gTm i) (gTm j)) ∈ gFl0 ∨ Cond.not (Cond.eq (gTm j) (gTm i)) ∈ gFl0 := by decide +kernel
theorem gs_tb : ∀ k, k < 8 → Cond.stringRef "MacroReader" (z_ix k) (z_tx k) ∈ lw_tbl := by decide +kernel
theorem gs_len : ∀ i, i < 7 → gLen.getD i 0 = (z_sb i).length := by decide
theorem gs_byt (i j : Nat) : (gByt.getD i []).getD j 0 = nI ((z_sb i).getD j 0) := by
  unfold gByt z_sb
  have e1 : (z_sx.map (fun q => q.2.map nI)).getD i [] = ((z_sx.getD i (0, [])).2).map nI := by
    rw [List.getD_eq_getElem?_getD, List.getD_eq_getElem?_getD, List.getElem?_map]
    cases z_sx[i]? <;> rfl
  rw [e1]
  generalize (z_sx.getD i (0, [])).2 = M
  rw [List.getD_eq_getElem?_getD, List.getD_eq_getElem?_getD, List.getElem?_map]
  cases M[j]? <;> rfl
theorem gs_st : (Cond.laysStatic "java/lang/String" "COMPACT_STRINGS" "Z" ∈ lw_tbl ∧ Cond.initialized "java/lang/String" ∈ lw_tbl ∧ Cond.eq (.static "java/lang/String" "COMPACT_STRINGS" "Z") (.int 1) ∈ gFl0) ∧
    (Cond.laysStatic "java/util/ArrayList" "DEFAULTCAPACITY_EMPTY_ELEMENTDATA" "[Ljava/lang/Object;" ∈ lw_tbl ∧ Cond.initialized "java/util/ArrayList" ∈ lw_tbl ∧ Cond.arrayOf (.static "java/util/ArrayList" "DEFAULTCAPACITY_EMPTY_ELEMENTDATA" "[Ljava/lang/Object;") (.object "java/lang/Object") ∈ gFl0 ∧ Cond.eq (.length (.static "java/util/ArrayList" "DEFAULTCAPACITY_EMPTY_ELEMENTDATA" "[Ljava/lang/Object;")) (.int 0) ∈ gFl0) ∧
    (Cond.laysStatic "jdk/internal/util/Preconditions" "SIOOBE_FORMATTER" "Ljava/util/function/BiFunction;" ∈ lw_tbl ∧ Cond.initialized "jdk/internal/util/Preconditions" ∈ lw_tbl ∧ Cond.isRef (.static "jdk/internal/util/Preconditions" "SIOOBE_FORMATTER" "Ljava/util/function/BiFunction;") ∈ gFl0) ∧
    Cond.isRef (.mirror "[Ljava/lang/Object;") ∈ gFl0 ∧
    (Cond.laysStatic Bundle.tN "UNASSIGNED_STACK" Bundle.steD ∈ lw_tbl ∧ Cond.initialized Bundle.tN ∈ lw_tbl ∧ Cond.isRef (.static Bundle.tN "UNASSIGNED_STACK" Bundle.steD) ∈ gFl0) ∧
    (Cond.laysStatic Bundle.tN "SUPPRESSED_SENTINEL" Bundle.listD ∈ lw_tbl ∧ Cond.isRef (.static Bundle.tN "SUPPRESSED_SENTINEL" Bundle.listD) ∈ gFl0) := by decide +kernel
/-- what the Statement gives of the start -/
theorem gv_start {s : State} {b : Nat} (hts : ∀ w ∈ lw_tbl, w.before #[Value.ref b] s = true) (hg : (Jvm.Cond.and given_1 narrow_1).before #[Value.ref b] s = true) : ∃ kA : Nat → Nat, kA 60 = b ∧ z_Gv kA (fun q => s.heap.size ≤ q) s := by
  have hf : ∀ w ∈ gFl0, w.before #[Value.ref b] s = true := flat_of_before _ hg
  have hA : ∀ a : Nat, a < s.heap.size → ¬ (fun q : Nat => s.heap.size ≤ q) a := fun a h => Nat.not_le.mpr h
  obtain ⟨⟨c1, c2, c3⟩, ⟨d1, d2, d3, d4⟩, ⟨f1, f2, f3⟩, m1, ⟨u1, u2, u3⟩, ⟨v1, v2⟩⟩ := gs_st
  obtain ⟨adK, adV, hSt, hEv⟩ := vk_Sof (args := #[Value.ref b]) (s := s) (N := 7) (tm := gTm) (len := gLen) (byt := gByt) (A := fun q => s.heap.size ≤ q) (by decide) (fun i hi => hf _ (gs_ex i (by omega))) (fun i hi => hf _ (gs_co i hi)) (fun i hi => hf _ (gs_ar i hi)) (fun i hi => hf _ (gs_le i hi)) (fun i hi j hj => hf _ (gs_el i hi j hj)) (fun i j hi hj hn => by
    rcases gs_ne i hi j hj hn with h | h
    · exact Or.inl (hf _ h)
    · exact Or.inr (hf _ h)) hA
  obtain ⟨a7, -, -, -, e7, -⟩ := Cond.exactly_spec (args := #[Value.ref b]) (first := s) (o := none) (s := s) (idx := []) (t := gTm 7) (cls := "java/lang/String") (hf _ (gs_ex 7 (by decide)))
  obtain ⟨t50, e50, hT50⟩ := va_Tof (f := fun _ => .null) (A := fun q => s.heap.size ≤ q) (N := 0) (by decide) (hf _ d3) (va_eqt (hf _ d4)) (fun j hj => absurd hj (Nat.not_lt_zero _)) hA
  obtain ⟨mi, hMi⟩ := va_Mi.of (hf _ m1)
  obtain ⟨t52, h52⟩ : ∃ t52 : Nat, va_Z "jdk/internal/util/Preconditions" "SIOOBE_FORMATTER" "Ljava/util/function/BiFunction;" .null (fun q => s.heap.size ≤ q) s s.heap ∨ va_Z "jdk/internal/util/Preconditions" "SIOOBE_FORMATTER" "Ljava/util/function/BiFunction;" (.ref t52) (fun q => s.heap.size ≤ q) s s.heap := by
    rcases va_Zqof (hts _ f1) (hts _ f2) (hf _ f3) hA with h | ⟨t, h⟩
    · exact ⟨0, Or.inl h⟩
    · exact ⟨t, Or.inr h⟩
  have tb : ∀ w ∈ tables_1, w ∈ lw_tbl := fun w h => List.mem_append_right _ h
  refine ⟨fun k => if k = 60 then b else if k = 50 then t50 else if k = 51 then mi else if k = 52 then t52 else if k = 7 then a7 else if k < 7 then adK k else adV (k - 100), rfl, fun k hk => ?_, fun k hk => ?_, va_Zof (hts _ c1) (hts _ c2) (va_eqi (hf _ c3)) hA, va_Zref (hts _ d1) (hts _ d2) e50 hA, hT50, h52, hMi, fun C9 h => va_AO.of (hts _ (tb _ h)), fun ty h => hts _ (tb _ h), fun w hw => ?_, vx_Zqof (hts _ u1) (hts _ u2) (hf _ u3) hA, vx_Zqof (hts _ v1) (hts _ u2) (hf _ v2) hA⟩
  · refine vk_R.of (A := #[Value.ref b]) (hts _ (gs_tb k hk)) ?_
    by_cases q : k = 7
    · subst q; exact e7
    · have h7 : k < 7 := by omega
      show _ = some (Value.ref (if k = 60 then b else if k = 50 then t50 else if k = 51 then mi else if k = 52 then t52 else if k = 7 then a7 else if k < 7 then adK k else adV (k - 100)))
      rw [if_neg (by omega), if_neg (by omega), if_neg (by omega), if_neg (by omega), if_neg q, if_pos h7]
      exact hEv k h7
  · have x1 : (if k = 60 then b else if k = 50 then t50 else if k = 51 then mi else if k = 52 then t52 else if k = 7 then a7 else if k < 7 then adK k else adV (k - 100)) = adK k := by
      rw [if_neg (by omega), if_neg (by omega), if_neg (by omega), if_neg (by omega), if_neg (by omega), if_pos hk]
    have x2 : (if 100 + k = 60 then b else if 100 + k = 50 then t50 else if 100 + k = 51 then mi else if 100 + k = 52 then t52 else if 100 + k = 7 then a7 else if 100 + k < 7 then adK (100 + k) else adV (100 + k - 100)) = adV k := by
      rw [if_neg (by omega), if_neg (by omega), if_neg (by omega), if_neg (by omega), if_neg (by omega), if_neg (by omega), Nat.add_sub_cancel_left]
    have h := hSt.1 k hk
    rw [gs_len k hk] at h
    have x3 : (fun j => Value.int ((gByt.getD k []).getD j 0)) = fun j => Value.int (nI ((z_sb k).getD j 0)) := by funext j; rw [gs_byt]
    rw [x3] at h
    simp only [x1, x2]
    exact h
  · have hn := (List.mem_filter.mp hw).2
    have h8 := hts w (tb w (List.mem_filter.mp hw).1)
    cases w <;> first | exact va_Nw.of rfl h8 | (exfalso; simp [z_isX] at hn; done)
theorem gs_in : ∀ q ∈ vwCl, Cond.instantiable q.1 q.2.2 ∈ z_tb := by decide +kernel
theorem whole_start {p : Program} {e : Env} {s : State} {m : MethodId} {below : List Frame} {meth : Method} {c : Code} (l : Launch) (hl : l.stackTraces = false) {b L : Nat} {xs : Nat → Int32} (hL : L ≤ 256) (C0 : lw_At p s m meth c b L xs) : W p l e room_1 s m #[Value.ref b] below meth c s.heap [] 0 0 (lw_Z below #[Value.ref b] s) (entryFrame m ([Value.ref b] : List Value).toArray 7) := by
  obtain ⟨hx, hb, hr, hml, hown, hts, hX, hbl, hlocks, hgv⟩ := C0
  obtain ⟨kA, hk60, hGv⟩ := gv_start hts hgv
  have htz : ∀ w ∈ z_tb, w.before #[Value.ref b] s = true := fun w hw => hts w (List.mem_filter.mp hw).1
  have hnb : ∀ w ∈ z_nb, va_Nw w s := fun w hw => by
    have hn := (List.mem_filter.mp hw).2
    have h8 := hts w (List.mem_append_right _ (List.mem_filter.mp hw).1)
    cases w <;> first | exact va_Nw.of rfl h8 | (exfalso; simp [z_isN] at hn; done)
  have hD0 : ∀ k : Nat, ∃ dd : ClassId × (Nat → Nat), ∀ q : vw_C, vwCl[k]? = some q → u_Kn s q.1 q.2.1 q.2.2 dd.1 dd.2 := fun k => by
    cases hq : vwCl[k]? with
    | none => exact ⟨(0, fun _ => 0), fun q h => by cases h⟩
    | some q =>
      obtain ⟨c0, iS, h⟩ := u_known (C := q.1) (T := q.2.1) (N := q.2.2) (n := q.2.2) htz (z_cls_in hq) (htz _ (gs_in q (List.mem_of_getElem? hq)))
      exact ⟨(c0, iS), fun q' h' => by cases h'; exact h⟩
  obtain ⟨dd, hdd⟩ := Classical.axiomOfChoice hD0
  have C : z_Cx (fun k => (dd k).1, fun k => (dd k).2) (fun ty => (s.vm.findClass ("[" ++ ty.toString)).getD 0) 14 mL_law p room_1 s m #[Value.ref b] meth c (fun q => s.heap.size ≤ q) kA :=
    ⟨hx, hb, hr, hml, hown, htz, hnb, hlocks, fun h => absurd h (by decide), by decide, by decide, fun k q hq => hdd k q hq, fun ty k h => by show (s.vm.findClass ("[" ++ ty.toString)).getD 0 = k; rw [h]; rfl, fun q h => h, hGv⟩
  have hG := LW_G (l := l) (e := e) (below := below) C
  have h0 := law_start hG hL (LW_sl C hX hbl hk60) (LW_sd C hL hX hbl hk60) (LW_end C) (LW_NA C) (LW_NB hl C) [(0, .retAddr 60)] (z_lf_mem _)
  have hle := lv_entry ([Value.ref b] : List Value) (n := 7) (Nat.le_of_ble_eq_true rfl)
  rw [lg_entry_eq]
  generalize (lg_sl ([Value.ref b] : List Value) ++ List.replicate (7 - (lg_sl ([Value.ref b] : List Value)).length) Slot.unset).toArray = ls at hle ⊢
  refine h0.2 (fun _ => 0, kA) s.heap [] ls rfl ⟨fun k q h => (by cases h), ⟨fun i j p q h => (by cases h), fun k q h => (by cases h)⟩, ⟨Nat.zero_lt_one, fun i hi v hv => (by cases hv)⟩, fun i hi ty a h => (by cases h)⟩ ⟨va_S.rf, ?_, fun q hq => (by cases hq with | head => trivial | tail _ h => cases h), fun v hv => (by cases hv)⟩
  show lv_has ls 7 [(0, .ref (kA 60))]
  rw [hk60]
  exact hle
