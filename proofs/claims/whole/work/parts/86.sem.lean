/-! THE CLAIM OUT OF ONE WALK OF THE LAW'S BODY. Your part is whole_start (and what it stands on); all else here is the same for every law, but numbers. -/
def R_law : String := "MacroReaderLaw"
def lw_P (b : Addr) (xs : List Int32) (args : Array Value) (s : State) : Prop := args = #[.ref b] ∧ s.IntsAt b xs ∧ xs.length ≤ 256 ∧ (Jvm.Cond.and given_1 narrow_1).before args s = true
def lw_Q (_ : Array Value) (s : State) (o : Outcome) (t : State) : Prop := o = .returned (some (.int 1)) ∧ Framed s o t [] 600128 7301098
def lw_Z (below : List Frame) (a : Array Value) (s : State) : State → Prop := fun t => ∃ o, t.status = .running ∧ Ended t below o ∧ lw_Q a s o t
/-- the law's own end, with 1 on the stack, nothing written that was there before, its room as the claim has it -/
theorem lw_ret {p : Program} {l : Launch} {e : Env} {s : State} {m : MethodId} {below : List Frame} {meth : Method} {c : Code} {b : Nat} (hx : p.tables.exec = Jvm.exec) (hb : c.code = code) (hr : meth.sig.returnType = ret) (hlocks : meth.locks = false) {pc : Nat} {H : Heap} {ls : Array Slot} (hdg : decode code pc = .ok (.ireturn, 1)) : W p l e room_1 s m #[Value.ref b] below meth c H [] 600128 7301098 (lw_Z below #[Value.ref b] s) (F0 m pc ls [.int 1]) := by
  intro T hT X
  obtain ⟨fs, hret, hrun, hended, hW, hframe⟩ := X.leave (v := some (.int 1)) (hlocks := hlocks) (fun h => by rw [hr] at h; cases h)
  have hmeth' : T.vm.method? m = some meth := X.method'
  refine ⟨T.setFrames fs, ?_, .returned (some (.int 1)), hrun, hended, rfl, ⟨_, rfl⟩, hW, hframe⟩
  jvm_step X.here [X.here.top, hx, hb, hdg, hmeth', hr, ret, narrow_b1]
  (try refine ⟨rfl, ?_⟩); (try refine ⟨rfl, ?_⟩)
  first | (intro acts; rw [hret _ acts rfl rfl rfl]) | rw [hret _ _ rfl rfl rfl]
  exact Steps.refl _
/-- what holds at the law's entry: the machine, the code, the tables' words (any of lw_tbl by 'hts w (by decide +kernel)'), the script of L ints xs at the cell b, what the Statement gives of the start (any of its parts by flat_of_before) -/
def lw_At (p : Program) (s : State) (m : MethodId) (meth : Method) (c : Code) (b L : Nat) (xs : Nat → Int32) : Prop :=
  p.tables.exec = Jvm.exec ∧ c.code = code ∧ meth.sig.returnType = ret ∧ c.maxLocals = 7 ∧ s.vm.findClass R_law = some m.cls ∧ (∀ w ∈ lw_tbl, w.before #[Value.ref b] s = true) ∧ va_X b L xs s s.heap ∧ b < s.heap.size ∧ meth.locks = false ∧ (Jvm.Cond.and given_1 narrow_1).before #[Value.ref b] s = true
def z_wW (M : zM) (hh : List (Nat × Nat × Nat × Nat)) : List Cond := Cond.codeWith M.1 M.2.1 M.2.2.1 M.2.2.2 hh :: z_tb
theorem z_metW {hh : List (Nat × Nat × Nat × Nat)} {l : Launch} {D : va_G} {cA : FieldType → ClassId} {ad : zA} {d : Nat} {M : zM} {as st' : List Value} {lv' : zL} {S S1 : zS} {pc' sz : Nat} {r : Option Value} (h : z_Sem l D d M 0 (lv_args 0 as) [] S (pc', lv', st', S1)) (hrt : z_rt M pc' st' r) (hok : ∀ v ∈ as, z_ok S.1 v) (hfit : (lg_sl as).length ≤ M.2.2.1) (hpl : plainName M.1.cls = true) :
    Met l M.1 (z_wW M hh) (z_rm d (S1.1 - S.1) (S1.2.1 - S.2.1)) (va_Pc (as.map (z_tr ad)) (z_Wd D cA ad S sz)) (z_Qc D cA ad S S1 sz r) (S1.1 - S.1) (S1.2.1 - S.2.1) (va_A (z_ws ad cA S) sz) := by
  refine va_MetW (hh := hh) (cc := M.2.1) (maxL := M.2.2.1) (ret := M.2.2.2) hpl rfl ?_
  intro p e s m args below meth c s₁ B hml hv
  obtain ⟨rfl, hsz, I, hnw, hkn, hcA, hgv⟩ := hv
  have hts := atoms_spec (ws := z_wW M hh) B.pre
  have hr := B.returns
  have hlocks := B.notSynchronized
  subst hsz
  have C : z_Cx D cA d M p (z_rm d (S1.1 - S.1) (S1.2.1 - S.2.1)) s m ((as.map (z_tr ad)).toArray) meth c (va_A (z_ws ad cA S) s.heap.size) ad.2 :=
    ⟨B.exec, B.bytes, hr, hml, findClass_of_methodNamed B.named, fun w hw => hts w (List.mem_cons_of_mem _ hw), hnw, hlocks, fun hn => (name_of_methodNamed B.named B.method).1.trans hn, Nat.le_refl _, Nat.le_refl _, hkn, hcA, fun q hq => Or.inr hq, hgv⟩
  have hl := lv_entry (as.map (z_tr ad)) (n := M.2.2.1) (by rw [z_sl]; exact hfit)
  rw [lg_entry_eq]
  generalize (lg_sl (as.map (z_tr ad)) ++ List.replicate (M.2.2.1 - (lg_sl (as.map (z_tr ad))).length) Slot.unset).toArray = ls at hl ⊢
  rw [z_args] at hl
  refine h.2 p e _ s m _ below meth c cA _ ad s.heap [] ls 0 0 _ C I ⟨va_S.rf, hl, z_args_ok as 0 hok, fun v hv => by cases hv⟩ (by show 0 + (S1.1 - S.1) ≤ S1.1 - S.1; omega) (by show 0 + (S1.2.1 - S.2.1) ≤ S1.2.1 - S.2.1; omega) (fun ad' H' locs' ls' ha I' F' => ?_)
  show W p l e _ s m _ below meth c H' locs' (0 + (S1.1 - S.1)) (0 + (S1.2.1 - S.2.1)) _ (F0 m pc' ls' (st'.map (z_tr ad')))
  rw [Nat.zero_add, Nat.zero_add]
  have hq : ∀ t : State, t.heap = H' → s.WarmedH t.vm → (∀ v ∈ r, z_ok S1.1 v) → z_Qc D cA ad S S1 s.heap.size r ((as.map (z_tr ad)).toArray) s (.returned (r.map (z_tr ad'))) t := fun t ht hW hrk => ⟨ad', ha, rfl, hrk, by rw [ht]; exact z_In_mv hW.alike I', F'.1.F ht⟩
  have hst := F'.2.2.2
  rcases hrt with ⟨hd, hM, rfl, rfl⟩ | ⟨hd, x, ty, hM, hn, rfl, rfl⟩ | ⟨hd, x, hM, rfl, rfl⟩ | ⟨hd, v, rt, hM, ht1, hv, rfl, rfl⟩
  · exact W.vret B.exec B.bytes (hr.trans hM) (fun t ht hW => hq t ht hW (fun v h => by cases h)) F'.1.2.2 hd
  · exact W.zret (ty := ty) B.exec B.bytes (hr.trans hM) hn (fun t ht hW => hq t ht hW (fun v h => by cases h; trivial)) F'.1.2.2 hd
  · exact W.lret B.exec B.bytes (hr.trans hM) (fun t ht hW => hq t ht hW (fun v h => by cases h; trivial)) F'.1.2.2 hd
  · exact W.aret (v := z_tr ad' v) (rt := rt) B.exec B.bytes (hr.trans hM) ht1 (by rcases hv with rfl | ⟨a, rfl⟩ | ⟨a, rfl⟩; exact Or.inl rfl; exact Or.inr ⟨_, rfl⟩; exact Or.inr ⟨_, rfl⟩) (fun t ht hW => hq t ht hW (fun u h => by cases h; exact hst _ List.mem_cons_self)) F'.1.2.2 hd
/-! THE LAW'S WALK OVER THE MACHINE -/
def LW (p : Program) (l : Launch) (e : Env) (s : State) (m : MethodId) (b : Nat) (below : List Frame) (meth : Method) (c : Code) (D : va_G) (cA : FieldType → ClassId) (kA : Nat → Nat) : Nat → Nat → Nat → zL → List Value → zS → Prop := fun X Y pc lv st S =>
  (S.1 - 1 + X ≤ 600128 ∧ S.2.1 + Y ≤ 7301098) ∧ ∀ (ad : zA) (H : Heap) (locs : List Loc) (ls : Array Slot), ad.2 = kA → z_In D cA ad S s (fun q => s.heap.size ≤ q) H → z_Fr mL_law ad (fun q => s.heap.size ≤ q) S lv st s H locs ls → W p l e room_1 s m #[Value.ref b] below meth c H locs (S.1 - 1 + X) (S.2.1 + Y) (lw_Z below #[Value.ref b] s) (F0 m pc ls (st.map (z_tr ad)))
theorem z_In_kp {D : va_G} {cA : FieldType → ClassId} {ad : zA} {S : zS} {s : State} {A : Nat → Prop} {H H1 : Heap} (I : z_In D cA ad S s A H) (hk : ∀ q : Nat, q < H.size → H1[q]? = H[q]?) : z_In D cA ad S s A H1 := ⟨I.1.kept (fun k x hx => hk x.1 ((I.1 k x hx).lt)), I.2.1, I.2.2.1, I.2.2.2⟩
theorem z_sub {D : va_G} {cA : FieldType → ClassId} {ad : zA} {S : zS} {s : State} {A : Nat → Prop} {H : Heap} {locs : List Loc} (hA : ∀ q, s.heap.size ≤ q → A q) (I : z_In D cA ad S s A H) (hS : va_S A s.heap H locs) : ∀ q, va_A (z_ws ad cA S) H.size q → A q := by
  intro q hq
  rcases hq with ⟨j, e9, h⟩ | h
  · exact I.2.1.2 j _ h
  · exact hA q (Nat.le_trans hS.1 h)
section
variable {p : Program} {l : Launch} {e : Env} {s : State} {m : MethodId} {b Ln : Nat} {sx : Nat → Int32} {below : List Frame} {meth : Method} {c : Code} {D : va_G} {cA : FieldType → ClassId} {kA : Nat → Nat}
theorem LW_G (C : z_Cx D cA 14 mL_law p room_1 s m #[Value.ref b] meth c (fun q => s.heap.size ≤ q) kA) : LG (LW p l e s m b below meth c D cA kA) := by
  intro X Y pc lv st S o hEx k
  obtain ⟨⟨g1, g2⟩, hS⟩ := hEx (z_Sem l D) (z_sound l D)
  have k1 := k.1.1
  have k2 := k.1.2
  refine ⟨⟨by omega, by omega⟩, fun ad H locs ls hk I F => ?_⟩
  have h0 := I.2.2.1.1
  refine hS p e room_1 s m _ below meth c cA _ ad H locs ls (S.1 - 1 + X) (S.2.1 + Y) _ (by rw [hk]; exact C) I F ?_ ?_ (fun ad' H' locs' ls' ha I' F' => ?_)
  · show S.1 - 1 + X + (o.2.2.2.1 - S.1) ≤ 600128
    omega
  · show S.2.1 + Y + (o.2.2.2.2.1 - S.2.1) ≤ 7301098
    omega
  · have w := k.2 ad' H' locs' ls' (ha.2.trans hk) I' F'
    rw [show S.1 - 1 + X + (o.2.2.2.1 - S.1) = o.2.2.2.1 - 1 + X by omega, show S.2.1 + Y + (o.2.2.2.2.1 - S.2.1) = o.2.2.2.2.1 + Y by omega]
    exact w
theorem LW_sl (C : z_Cx D cA 14 mL_law p room_1 s m #[Value.ref b] meth c (fun q => s.heap.size ≤ q) kA) (hX : va_X b Ln sx s s.heap) (hbl : b < s.heap.size) (hk60 : kA 60 = b) (X Y pc : Nat) (L : Nat → Option Value) (st : List Value) (S : zS) (hd : decode mL_law.2.1 pc = .ok (.arraylength, 1)) (k : LU (LW p l e s m b below meth c D cA kA) X Y (pc + 1) L (.int (nI Ln) :: st) S) : LU (LW p l e s m b below meth c D cA kA) X Y pc L (.retAddr 60 :: st) S := by
  intro lv hl
  have k := k lv hl
  refine ⟨k.1, fun ad H locs ls hk I F => ?_⟩
  have w := k.2 ad H locs ls hk I ⟨F.1, F.2.1, F.2.2.1, by have h9 := F.2.2.2; simp only [List.forall_mem_cons, z_ok_int, true_and] at h9 ⊢; exact h9.2⟩
  have hb2 : z_tr ad (.retAddr 60) = .ref b := by show Value.ref (ad.2 60) = _; rw [hk, hk60]
  show W p l e room_1 s m _ below meth c H locs _ _ _ (F0 m pc ls (z_tr ad (.retAddr 60) :: st.map (z_tr ad)))
  rw [hb2]
  exact va_slen C.1 C.2.1 hX hbl (Nat.not_le.mpr hbl) F.1 hd w
theorem LW_sd (C : z_Cx D cA 14 mL_law p room_1 s m #[Value.ref b] meth c (fun q => s.heap.size ≤ q) kA) (hLn : Ln ≤ 256) (hX : va_X b Ln sx s s.heap) (hbl : b < s.heap.size) (hk60 : kA 60 = b) (X Y pc j : Nat) (L : Nat → Option Value) (st : List Value) (S : zS) (hd : decode mL_law.2.1 pc = .ok (.iaload, 1)) (hj : j < Ln) (k : LU (LW p l e s m b below meth c D cA kA) X Y (pc + 1) L (.int (sx j) :: st) S) : LU (LW p l e s m b below meth c D cA kA) X Y pc L (.int (nI j) :: .retAddr 60 :: st) S := by
  intro lv hl
  have k := k lv hl
  refine ⟨k.1, fun ad H locs ls hk I F => ?_⟩
  have w := k.2 ad H locs ls hk I ⟨F.1, F.2.1, F.2.2.1, by have h9 := F.2.2.2; simp only [List.forall_mem_cons, z_ok_int, true_and] at h9 ⊢; exact h9.2⟩
  have hb2 : z_tr ad (.retAddr 60) = .ref b := by show Value.ref (ad.2 60) = _; rw [hk, hk60]
  show W p l e room_1 s m _ below meth c H locs _ _ _ (F0 m pc ls (.int (nI j) :: z_tr ad (.retAddr 60) :: st.map (z_tr ad)))
  rw [hb2]
  exact va_sld C.1 C.2.1 hX hbl (Nat.not_le.mpr hbl) F.1 (vp_in_nI hj (by omega)) hd (by rw [nI_clamp (by omega)]; exact w)
theorem LW_end (C : z_Cx D cA 14 mL_law p room_1 s m #[Value.ref b] meth c (fun q => s.heap.size ≤ q) kA) (X Y : Nat) (L : Nat → Option Value) (S : zS) (h1 : S.1 - 1 + X ≤ 600128) (h2 : S.2.1 + Y ≤ 7301098) : LU (LW p l e s m b below meth c D cA kA) X Y 277 L [.int 1] S := by
  intro lv hl
  refine ⟨⟨h1, h2⟩, fun ad H locs ls hk I F => ?_⟩
  exact va_forget (fun q hq => F.1.2.2 q hq) (W.widen (k := 600128) (n := 7301098) h1 h2 (lw_ret C.1 C.2.1 C.2.2.1 C.2.2.2.2.2.2.2.1 dL_law_277))
/-- behind a call that used x cells and y slots beside the store -/
theorem LW_ret {X Y x y pc : Nat} {lv : zL} {st : List Value} {S S1 : zS} {r : Option Value} {ad : zA} {H : Heap} {locs : List Loc} {ls : Array Slot} {g : JFrame} {a9 : Array Value} (hk : ad.2 = kA)
    (hg : g = F0 m pc ls g.stack) (C : z_Cx D cA 14 mL_law p room_1 s m #[Value.ref b] meth c (fun q => s.heap.size ≤ q) kA) (I : z_In D cA ad S s (fun q => s.heap.size ≤ q) H) (hS : va_S (fun q => s.heap.size ≤ q) s.heap H locs) (hl : lv_has ls mL_law.2.2.1 (z_lt ad lv)) (hlok : ∀ q ∈ lv, z_ok S.1 q.2) (hst : ∀ v ∈ st, z_ok S.1 v) (hgr : S.1 ≤ S1.1 ∧ S.2.1 ≤ S1.2.1)
    (hr : va_Run p l e room_1 s m #[Value.ref b] below meth c H locs (S.1 - 1 + X) (S.2.1 + Y) (S1.1 - S.1 + x) (S1.2.1 - S.2.1 + y) g (st.map (z_tr ad)) (z_Qc D cA ad S S1 H.size r a9) (va_A (z_ws ad cA S) H.size)) (k : LW p l e s m b below meth c D cA kA (X + x) (Y + y) (pc + 3) lv (r.toList ++ st) S1) : W p l e room_1 s m #[Value.ref b] below meth c H locs (S.1 - 1 + X) (S.2.1 + Y) (lw_Z below #[Value.ref b] s) g := by
  intro T hT X9
  obtain ⟨v, st₀, t, T', L, h0, X', hL, e1, e2, ⟨ad', ha, hv, hrk, I1, hz, hkp⟩, stp⟩ := hr T hT X9
  cases hv
  rw [h0] at hz hkp
  have h0 := I.2.2.1.1
  have hsub := z_sub (fun q h => h) I hS
  have hal : s.vm.Alike t.vm := by rw [← e2]; exact X'.warmed.alike
  have I2 : z_In D cA ad' S1 s (fun q => s.heap.size ≤ q) T'.heap := by rw [e1]; exact z_In_A (z_In_mv hal.symm I1) hsub
  have hS2 : va_S (fun q => s.heap.size ≤ q) s.heap T'.heap (locs ++ L) := ⟨Nat.le_trans hS.1 (by rw [e1]; exact hz), fun q h1 h2 => by rw [e1, hkp q (Nat.lt_of_lt_of_le h1 hS.1) (fun z => h2 (hsub q z))]; exact hS.2.1 q h1 h2, fun q hq => by
      rcases List.mem_append.mp hq with h | h
      · exact hS.2.2 q h
      · exact hsub _ (hL q h)⟩
  have est : (r.toList ++ st).map (z_tr ad') = (r.map (z_tr ad')).toList ++ st.map (z_tr ad) := by
    rw [List.map_append, z_trs_new ha hst]
    cases r <;> rfl
  have hok2 : ∀ v ∈ r.toList ++ st, z_ok S1.1 v := fun v hv => by
    rcases List.mem_append.mp hv with h | h
    · exact hrk v (by cases r with | none => cases h | some u => have h9 : v = u := (by simpa using h); subst h9; rfl)
    · exact z_ok_mono hgr.1 (hst v h)
  have w := k.2 ad' T'.heap (locs ++ L) ls (ha.2.trans hk) I2 ⟨hS2, by rw [z_lt_new ha hlok]; exact hl, fun q hq => z_ok_mono hgr.1 (hlok q hq), hok2⟩
  rw [est] at w
  rw [show S.1 - 1 + X + (S1.1 - S.1 + x) = S1.1 - 1 + (X + x) by omega, show S.2.1 + Y + (S1.2.1 - S.2.1 + y) = S1.2.1 + (Y + y) by omega] at X'
  obtain ⟨t2, a1, b1⟩ := w T' rfl X'
  refine ⟨t2, stp t2 ?_, b1⟩
  rw [hg]
  exact a1
end
theorem z_nx1 : Cond.codeWith mL_next.1 mL_next.2.1 mL_next.2.2.1 mL_next.2.2.2 [(0, 8, 11, 13)] ∈ z_tb := List.mem_filter.mpr ⟨by decide +kernel, rfl⟩
theorem z_nx2 : Cond.methodLink RL 30 mL_next.1 ∈ z_tb := List.mem_filter.mpr ⟨by decide +kernel, rfl⟩
theorem z_nx3 : Cond.static mL_next.1 ∈ z_tb := List.mem_filter.mpr ⟨by decide +kernel, rfl⟩
theorem z_nx4 : Cond.initialized mL_next.1.cls ∈ z_tb := List.mem_filter.mpr ⟨by decide +kernel, rfl⟩
theorem z_nxG : GoodIn z_tb (va_wsS RL 30 mL_next.1 (z_wW mL_next [(0, 8, 11, 13)])) := by
  have hz : ∀ w, w ∈ z_tb → w ∈ z_tb ∧ ((w.onTables && w.keeps) = true ∨ ∃ ty, w = .arrayClass ty) := fun w h => ⟨h, good_of_word (List.mem_filter.mp h).2⟩
  intro w hw
  unfold va_wsS z_wW at hw
  simp only [List.cons_append, List.nil_append, List.mem_cons] at hw
  rcases hw with rfl | rfl | rfl | rfl | h
  · exact hz _ z_nx2
  · exact hz _ z_nx3
  · exact hz _ z_nx4
  · exact hz _ z_nx1
  · exact hz _ h
theorem z_th1 : Cond.classLink RX7 105 "java/lang/IllegalArgumentException" ∈ z_tb := List.mem_filter.mpr ⟨by decide +kernel, rfl⟩
theorem z_th2 : Cond.initialized "java/lang/IllegalArgumentException" ∈ z_tb := List.mem_filter.mpr ⟨by decide +kernel, rfl⟩
theorem z_th3 : ∀ w ∈ vx_atS RX7 109 "java/lang/IllegalArgumentException" ["java/lang/RuntimeException", "java/lang/Exception"], w ∈ z_tb ∨ w ∈ z_xb := by decide +kernel
theorem z_th4 : ∀ w ∈ Cond.classLink RX7 105 "java/lang/IllegalArgumentException" :: Cond.initialized "java/lang/IllegalArgumentException" :: vx_atS RX7 109 "java/lang/IllegalArgumentException" ["java/lang/RuntimeException", "java/lang/Exception"], vx_ot w = true := by decide +kernel
theorem z_th5 : Cond.classLink RL 13 "java/lang/IllegalArgumentException" ∈ z_tb := List.mem_filter.mpr ⟨by decide +kernel, rfl⟩
theorem z_th6 : Cond.castable "java/lang/IllegalArgumentException" "java/lang/IllegalArgumentException" ∈ z_xb := List.mem_filter.mpr ⟨by decide +kernel, rfl⟩
/-- what holds where the class's next has thrown -/
def z_XC (D : va_G) (cA : FieldType → ClassId) (ad : zA) (S S1 : zS) (sz : Nat) : String → State → State → Prop := fun E st t => E = "java/lang/IllegalArgumentException" ∧ ∃ ad' : zA, z_ag S.1 ad' ad ∧ z_In D cA ad' S1 t (va_A (z_ws ad cA S) sz) t.heap ∧ va_F (va_A (z_ws ad cA S) sz) st t
def z_rx (d mc ms : Nat) : Room := { frames := d, cells := mc + 1, slots := ms + 6, locals := 40 * d }
set_option maxRecDepth 10000 in
theorem z_thr {l : Launch} (hlf : l.stackTraces = false) {D : va_G} {cA : FieldType → ClassId} {ad : zA} {lv1 : zL} {S S1 : zS} {sz : Nat} (h : z_Sem l D 12 mX7_next 0 (lv_args 0 [.ref 1]) [] S (105, lv1, [], S1)) (hok : ∀ v ∈ [Value.ref 1], z_ok S.1 v) :
    vx_Met l mX7_next.1 (z_w mX7_next) (z_rx 12 (S1.1 - S.1) (S1.2.1 - S.2.1)) (va_Pc ([Value.ref 1].map (z_tr ad)) (z_Wd D cA ad S sz)) (fun _ _ _ _ => False) (z_XC D cA ad S S1 sz) (S1.1 - S.1 + 1) (S1.2.1 - S.2.1 + 6) (va_A (z_ws ad cA S) sz) := by
  refine vx_ofW (cc := mX7_next.2.1) (maxL := mX7_next.2.2.1) (ret := mX7_next.2.2.2) (by decide) rfl ?_
  intro p e s m args below meth c s₁ B hml hex hv
  obtain ⟨rfl, hsz, I, hnw, hkn, hcA, hgv⟩ := hv
  have hts := atoms_spec (ws := z_w mX7_next) B.pre
  have hr := B.returns
  have hlocks := B.notSynchronized
  subst hsz
  have C : z_Cx D cA 12 mX7_next p (z_rx 12 (S1.1 - S.1) (S1.2.1 - S.2.1)) s m (([Value.ref 1].map (z_tr ad)).toArray) meth c (va_A (z_ws ad cA S) s.heap.size) ad.2 :=
    ⟨B.exec, B.bytes, hr, hml, findClass_of_methodNamed B.named, fun w hw => hts w (List.mem_cons_of_mem _ hw), hnw, hlocks, fun hn => (name_of_methodNamed B.named B.method).1.trans hn, Nat.le_refl _, Nat.le_refl _, hkn, hcA, fun q hq => Or.inr hq, hgv⟩
  have hl := lv_entry ([Value.ref 1].map (z_tr ad)) (n := mX7_next.2.2.1) (by rw [z_sl]; exact Nat.le_of_ble_eq_true rfl)
  rw [lg_entry_eq]
  generalize (lg_sl ([Value.ref 1].map (z_tr ad)) ++ List.replicate (mX7_next.2.2.1 - (lg_sl ([Value.ref 1].map (z_tr ad))).length) Slot.unset).toArray = ls at hl ⊢
  rw [z_args] at hl
  refine h.2 p e _ s m _ below meth c cA _ ad s.heap [] ls 0 0 _ C I ⟨va_S.rf, hl, z_args_ok _ 0 hok, fun v hv => by cases hv⟩ (by show 0 + (S1.1 - S.1) ≤ S1.1 - S.1 + 1; omega) (by show 0 + (S1.2.1 - S.2.1) ≤ S1.2.1 - S.2.1 + 6; omega) (fun ad' H' locs' ls' ha I' F' => ?_)
  show W p l e _ s m _ below meth c H' locs' (0 + (S1.1 - S.1)) (0 + (S1.2.1 - S.2.1)) _ (F0 m 105 ls' [])
  refine vx_throwS (A := va_A (z_ws ad cA S) s.heap.size) (own := RX7) (cls := "java/lang/IllegalArgumentException") (text := "the source has a fault") (names := ["java/lang/RuntimeException", "java/lang/Exception"]) (ik := 105) (is := 107) (ic := 109) (sa := ad.2 7) B.exec B.bytes hlf C.2.2.2.2.1 (by decide +kernel) (by decide +kernel) (C.2.2.2.2.2.1 _ z_th1) (C.2.2.2.2.2.1 _ z_th2) (hgv.1 7 (by decide)) (fun w hw => ?_) z_th4 hgv.2.2.2.2.2.2.2.2.2.2.1 hgv.2.2.2.2.2.2.2.2.2.2.2 F'.1 (F'.2.1.1.trans C.2.2.2.1.symm) dX7_next_105 dX7_next_108 dX7_next_109 dX7_next_111 dX7_next_114 (fun x hx => (hex x hx).elim) (by show 2 + 3 < 12; decide) (Nat.le_of_ble_eq_true rfl) (by show 0 + (S1.1 - S.1) + 1 ≤ S1.1 - S.1 + 1; omega) (by show 0 + (S1.2.1 - S.2.1) + 6 ≤ S1.2.1 - S.2.1 + 6; omega) hlocks (fun t hal hsz hk => ?_) (fun z hz => F'.1.2.2 z hz) (by omega) (by omega)
  · rcases z_th3 w hw with h9 | h9
    · exact C.2.2.2.2.2.1 _ h9
    · have h8 := hgv.2.2.2.2.2.2.2.2.2.1 w h9
      have hn := (List.mem_filter.mp h9).2
      cases w <;> first | exact va_Nw.use rfl h8 | (exfalso; simp [z_isX] at hn; done)
  · refine ⟨rfl, ad', ha, z_In_mv hal (z_In_kp I' hk), Nat.le_trans F'.1.1 hsz, fun q h1 h2 => ?_⟩
    rw [hk q (Nat.lt_of_lt_of_le h1 F'.1.1)]
    exact F'.1.2.1 q h1 h2
section
variable {p : Program} {l : Launch} {e : Env} {s : State} {m : MethodId} {b : Nat} {below : List Frame} {meth : Method} {c : Code} {D : va_G} {cA : FieldType → ClassId} {kA : Nat → Nat}
set_option maxRecDepth 10000 in
set_option maxHeartbeats 1000000 in
theorem LW_NA (C : z_Cx D cA 14 mL_law p room_1 s m #[Value.ref b] meth c (fun q => s.heap.size ≤ q) kA) : NA (LW p l e s m b below meth c D cA kA) := by
  intro X Y L S o v f hEx hrt hx h241 k lv hl
  have k := k lv hl
  have hx : ∃ fs, S.2.2 1 = .inr (8, fs) := by
    rcases hx with h | h
    · exact ⟨_, h⟩
    · exact h
  obtain ⟨fs, hx⟩ := hx
  obtain ⟨⟨p9, l9, st9, S9⟩, hE9, q1, q2, q3⟩ : ∃ o9 : zO, z_Ex 13 mL_next 0 (lv_args 0 [.ref 1, .ref 241]) [] S o9 ∧ o9.1 = 15 ∧ o9.2.2.1 = [.int 0] ∧ o9.2.2.2 = z_put o.2.2.2 241 (.inl (.long, 1, .inr (.inl (vp_updL f 0 v.toInt64)))) := by
    have hR : Ru 13 mL_next 0 (z_lf (lv_args 0 [.ref 1, .ref 241])) [] S (fun pc st S9 => pc = 15 ∧ st = [.int 0] ∧ S9 = z_put o.2.2.2 241 (.inl (.long, 1, .inr (.inl (vp_updL f 0 v.toInt64))))) := by
      have hRc : Rc 12 mX7_next [.ref 1] S (fun r S1 => r = some (.int v) ∧ S1 = o.2.2.2) := ⟨o, some (.int v), hEx, hrt, rfl, rfl⟩
      refine r_aload_n dL_next_0 rfl ?_
      refine r_ic 0 dL_next_1 rfl ?_
      refine r_aload_n dL_next_2 rfl ?_
      refine r_callV0 dL_next_3 zm_L_7 hx rfl (Nat.le_of_ble_eq_true rfl) (Nat.le_of_ble_eq_true rfl) hRc (fun r S1 hr => ?_)
      obtain ⟨rfl, rfl⟩ := hr
      refine r_i2l dL_next_6 ?_
      refine r_last dL_next_7 h241 (vp_in_nI (n := 0) (by decide) (by decide)) ?_
      refine r_goto (tgt := 14) dL_next_8 (by decide) ?_
      refine r_ic 0 dL_next_14 rfl ?_
      exact Ru.here ⟨rfl, rfl, rfl⟩
    obtain ⟨o9, h1, h2⟩ := hR (lv_args 0 [.ref 1, .ref 241]) (z_lf_mem _)
    exact ⟨o9, h1, h2⟩
  have q1 : p9 = 15 := q1
  have q2 : st9 = [.int 0] := q2
  have q3 : S9 = _ := q3
  subst q1
  subst q2
  have hSm := hE9 (z_Sem l D) (z_sound l D)
  have hgr : S.1 ≤ S9.1 ∧ S.2.1 ≤ S9.2.1 := hSm.1
  rw [← q3] at k
  have k1 : S9.1 - 1 + X ≤ 600128 := k.1.1
  have k2 : S9.2.1 + Y ≤ 7301098 := k.1.2
  refine ⟨⟨by omega, by omega⟩, fun ad H locs ls hk I F => ?_⟩
  have hst := F.2.2.2
  simp only [List.forall_mem_cons] at hst
  have h0 := I.2.2.1.1
  have hM := z_metW (hh := [(0, 8, 11, 13)]) (cA := cA) (ad := ad) (sz := H.size) hSm (Or.inr (Or.inl ⟨dL_next_15, 0, .int, rfl, rfl, rfl, rfl⟩)) (fun v hv => by
    simp only [List.mem_cons, List.not_mem_nil, or_false] at hv
    rcases hv with rfl | rfl
    · exact hst.2.1
    · exact hst.1) (Nat.le_of_ble_eq_true rfl) (by decide)
  have Ck : z_Cx D cA 14 mL_law p room_1 s m #[Value.ref b] meth c (fun q => s.heap.size ≤ q) ad.2 := by rw [hk]; exact C
  have hT := C.2.2.2.2.2.1
  refine LW_ret (x := 0) (y := 0) (S1 := S9) (r := some (.int 0)) (st := []) (g := F0 m 164 ls [.ref (ad.1 241), .ref (ad.1 1)]) (a9 := ([Value.ref (ad.1 1), Value.ref (ad.1 241)] : List Value).toArray) hk rfl C I F.1 F.2.1 F.2.2.1 (fun v hv => by cases hv) hgr ?_ k
  refine vx_runSW (As := [Value.ref (ad.1 1), Value.ref (ad.1 241)]) (rest := []) (own := RL) (cc := mL_law.2.1) (nL := 7) (hh := [(0, 8, 11, 13)]) ⟨C.1, C.2.1, C.2.2.2.1, C.2.2.2.2.1, hT⟩ hM (vx_cwSW 2 hT z_nxG rfl rfl rfl ⟨by decide, by decide, by decide +kernel⟩ ⟨Nat.le_of_ble_eq_true rfl, Nat.le_of_ble_eq_true rfl⟩) ⟨z_blind, fun U hU hW => ⟨rfl, z_wd Ck I F.1 U hU hW⟩⟩ rfl rfl F.2.1.1 rfl (Nat.le_of_ble_eq_true rfl) dL_law_164 ⟨?_, ?_⟩
  · show S.1 - 1 + X + (S9.1 - S.1 + 0) ≤ 600128
    omega
  · show S.2.1 + Y + (S9.2.1 - S.2.1 + 0) ≤ 7301098
    omega
set_option maxRecDepth 10000 in
set_option maxHeartbeats 1000000 in
theorem LW_NB (hlf : l.stackTraces = false) (C : z_Cx D cA 14 mL_law p room_1 s m #[Value.ref b] meth c (fun q => s.heap.size ≤ q) kA) : NB (LW p l e s m b below meth c D cA kA) := by
  intro X Y L S lv1 S1 hEx hx k lv hl
  have k := k lv hl
  obtain ⟨fs, hx⟩ := hx
  have hX7 := hEx (z_Sem l D) (z_sound l D)
  have hgr : S.1 ≤ S1.1 ∧ S.2.1 ≤ S1.2.1 := hX7.1
  have hE3 : z_Ex 13 mL_next 0 (lv_args 0 [.ref 1, .ref 241]) [] S (3, lv_args 0 [.ref 1, .ref 241], [.ref 1, .int 0, .ref 241], S) := by
    refine zr_aload_n (x := 241) dL_next_0 (by simp [lv_args, Value.category]) ?_
    refine zr_iconst dL_next_1 ?_
    refine zr_aload_n (x := 1) dL_next_2 (by simp [lv_args, Value.category]) ?_
    exact zr_refl
  have hS3 := hE3 (z_Sem l D) (z_sound l D)
  have k1 := k.1.1
  have k2 := k.1.2
  refine ⟨⟨by omega, by omega⟩, fun ad H locs ls hk I F => ?_⟩
  have hst := F.2.2.2
  simp only [List.forall_mem_cons] at hst
  have h0 := I.2.2.1.1
  have Ck : z_Cx D cA 14 mL_law p room_1 s m #[Value.ref b] meth c (fun q => s.heap.size ≤ q) ad.2 := by rw [hk]; exact C
  have hT := C.2.2.2.2.2.1
  have hM : ∀ sz, Met l mL_next.1 (z_wW mL_next [(0, 8, 11, 13)]) (z_rx 13 (S1.1 - S.1) (S1.2.1 - S.2.1)) (va_Pc ([Value.ref 1, Value.ref 241].map (z_tr ad)) (z_Wd D cA ad S sz)) (z_Qc D cA ad S S1 sz (some (.int 1))) (S1.1 - S.1 + 1) (S1.2.1 - S.2.1 + 6) (va_A (z_ws ad cA S) sz) := by
    intro sz
    refine va_MetW (hh := [(0, 8, 11, 13)]) (cc := mL_next.2.1) (maxL := mL_next.2.2.1) (ret := mL_next.2.2.2) (by decide) rfl ?_
    intro p e s m args below meth c s₁ B hml hv
    obtain ⟨rfl, hsz, I, hnw, hkn, hcA, hgv⟩ := hv
    have hts := atoms_spec (ws := z_wW mL_next [(0, 8, 11, 13)]) B.pre
    have hr := B.returns
    have hlocks := B.notSynchronized
    have htab := vx_table (x := mL_next.1) B (hts _ List.mem_cons_self)
    subst hsz
    have C : z_Cx D cA 13 mL_next p (z_rx 13 (S1.1 - S.1) (S1.2.1 - S.2.1)) s m (([Value.ref 1, Value.ref 241].map (z_tr ad)).toArray) meth c (va_A (z_ws ad cA S) s.heap.size) ad.2 :=
      ⟨B.exec, B.bytes, hr, hml, findClass_of_methodNamed B.named, fun w hw => hts w (List.mem_cons_of_mem _ hw), hnw, hlocks, fun hn => (name_of_methodNamed B.named B.method).1.trans hn, Nat.le_refl _, Nat.le_refl _, hkn, hcA, fun q hq => Or.inr hq, hgv⟩
    have hT := C.2.2.2.2.2.1
    have hl := lv_entry ([Value.ref 1, Value.ref 241].map (z_tr ad)) (n := mL_next.2.2.1) (by rw [z_sl]; exact Nat.le_of_ble_eq_true rfl)
    rw [lg_entry_eq]
    generalize (lg_sl ([Value.ref 1, Value.ref 241].map (z_tr ad)) ++ List.replicate (mL_next.2.2.1 - (lg_sl ([Value.ref 1, Value.ref 241].map (z_tr ad))).length) Slot.unset).toArray = ls at hl ⊢
    rw [z_args] at hl
    have hoks : ∀ v ∈ [Value.ref 1, Value.ref 241], z_ok S.1 v := fun v hv => by
      simp only [List.mem_cons, List.not_mem_nil, or_false] at hv
      rcases hv with rfl | rfl
      · exact hst.2.1
      · exact hst.1
    refine hS3.2 p e _ s m _ below meth c cA _ ad s.heap [] ls 0 0 _ C I ⟨va_S.rf, hl, z_args_ok _ 0 hoks, fun v hv => by cases hv⟩ (by show 0 + (S.1 - S.1) ≤ S1.1 - S.1 + 1; omega) (by show 0 + (S.2.1 - S.2.1) ≤ S1.2.1 - S.2.1 + 6; omega) (fun ad1 H1 locs1 ls1 ha1 I1 F1 => ?_)
    have C1 : z_Cx D cA 13 mL_next p (z_rx 13 (S1.1 - S.1) (S1.2.1 - S.2.1)) s m (([Value.ref 1, Value.ref 241].map (z_tr ad)).toArray) meth c (va_A (z_ws ad cA S) s.heap.size) ad1.2 := by rw [ha1.2]; exact C
    show W p l e _ s m _ below meth c H1 locs1 (0 + (S.1 - S.1)) (0 + (S.2.1 - S.2.1)) _ (F0 m 3 ls1 [.ref (ad1.1 1), .int 0, .ref (ad1.1 241)])
    rw [Nat.sub_self, Nat.sub_self]
    have hMx := z_thr hlf (cA := cA) (ad := ad1) (sz := H1.size) hX7 (fun v hv => by
      simp only [List.mem_cons, List.not_mem_nil, or_false] at hv
      subst hv
      exact hst.2.1)
    obtain ⟨hcode, hini, hdsc, hmx, hpl, hkd⟩ := zm_L_7
    have he := z_ws_get (ad := ad1) (cA := cA) hst.2.1
    rw [hx] at he
    have he : (z_ws ad1 cA S)[1 - 1]? = some (ad1.1 1, .inr (8, fs.map (z_tr ad1))) := he
    have hrec := va_recv (z_K C1) I1.1 (q := (RX7, TX7, 13)) rfl he
    have hrun := vx_runV (C := mX7_next.1.cls) (b := ad1.1 1) (As := []) (rest := [.int 0, .ref (ad1.1 241)]) (g := F0 m 3 ls1 [.ref (ad1.1 1), .int 0, .ref (ad1.1 241)]) (H := H1) (locs := locs1) (cells := 0 + 0) (slots := 0 + 0) (R := z_rx 13 (S1.1 - S.1) (S1.2.1 - S.2.1)) (e := e) (below := below) (meth := meth) (own := RL) (cc := mL_next.2.1) (nL := 3) ⟨C1.1, C1.2.1, C1.2.2.2.1, C1.2.2.2.2.1, hT⟩ hMx ⟨callB_of 0 hT (z_good hcode) rfl rfl rfl (hT _ hini) (hT _ hkd.1) hdsc ⟨Nat.le_of_ble_eq_true rfl, Nat.le_of_ble_eq_true rfl⟩, hT _ hkd.2.1, hT _ hkd.2.2⟩ ⟨z_blind, hrec, fun U hU hW => ⟨rfl, z_wd C1 I1 F1.1 U hU hW⟩⟩ rfl rfl F1.2.1.1 rfl (Nat.le_of_ble_eq_true rfl) dL_next_3 ⟨by show 0 + 0 + (S1.1 - S.1 + 1) ≤ S1.1 - S.1 + 1; omega, by show 0 + 0 + (S1.2.1 - S.2.1 + 6) ≤ S1.2.1 - S.2.1 + 6; omega⟩
    intro T hTh X9
    rcases hrun T hTh X9 with ⟨v, st₀, t, T', L, h9, X', hL, e1, e2, hfalse, -⟩ | ⟨q, st₀, t, T', L, E, ce, h9, X', hL, e1, e2, hXC, hce, hcv, hcl, stp⟩
    · exact hfalse.elim
    · obtain ⟨rfl, ad', ha, I2, hz, hkp⟩ := hXC
      rw [h9] at hz hkp
      have hsub := z_sub C1.2.2.2.2.2.2.2.2.2.2.2.2.2.1 I1 F1.1
      have hal : s.vm.Alike t.vm := by rw [← e2]; exact X'.warmed.alike
      have hloc : ∀ z ∈ locs1 ++ L, va_A (z_ws ad cA S) s.heap.size z.base := fun z hz => by
        rcases List.mem_append.mp hz with h | h
        · exact F1.1.2.2 z h
        · exact hsub _ (hL z h)
      rw [Nat.zero_add, Nat.zero_add] at X'
      have hW : vx_W p l e (z_rx 13 (S1.1 - S.1) (S1.2.1 - S.2.1)) s m (([Value.ref 1, Value.ref 241].map (z_tr ad)).toArray) below meth c T'.heap (locs1 ++ L) (S1.1 - S.1 + 1) (S1.2.1 - S.2.1 + 6) (MQ below (z_Qc D cA ad S S1 s.heap.size (some (.int 1))) (([Value.ref 1, Value.ref 241].map (z_tr ad)).toArray) s (S1.1 - S.1 + 1) (S1.2.1 - S.2.1 + 6) (va_A (z_ws ad cA S) s.heap.size)) (F0 m 3 ls1 [.int 0, .ref (ad1.1 241)]) q := by
        refine vx_catch (own := RL) (name := "java/lang/IllegalArgumentException") (E := "java/lang/IllegalArgumentException") (ce := ce) C1.2.2.2.2.1 [] ⟨0, 8, 11, 13⟩ [] (by rw [htab]; rfl) (fun z hz => by cases hz) (by decide) (by decide) (hT _ z_th5) (va_Nw.use rfl (hgv.2.2.2.2.2.2.2.2.2.1 _ z_th6)) (by rw [e1]; exact hce) hcv hcl ?_
        refine lv_astore_n (nL := 3) B.exec B.bytes dL_next_11 rfl F1.2.1 (by decide) rfl (fun ls2 _ => ?_)
        refine lv_iconst B.exec B.bytes dL_next_12 rfl ?_
        refine W.iret B.exec B.bytes hr (fun t9 ht9 hW9 => ?_) hloc dL_next_13
        refine ⟨ad', z_ag_tr ha ha1 (Nat.le_refl _), rfl, fun v hv => by cases hv; trivial, ?_, ?_⟩
        · rw [ht9, e1]
          exact z_In_mv (hal.symm.trans hW9.alike) (z_In_A I2 hsub)
        · refine ⟨by rw [ht9, e1]; exact Nat.le_trans F1.1.1 hz, fun q9 h1 h2 => ?_⟩
          rw [ht9, e1, hkp q9 (Nat.lt_of_lt_of_le h1 F1.1.1) (fun z => h2 (hsub q9 z))]
          exact F1.1.2.1 q9 h1 h2
      obtain ⟨t2, a1, b1⟩ := hW T' rfl X'
      exact ⟨t2, stp.trans a1, b1⟩
  refine LW_ret (x := 1) (y := 6) (S1 := S1) (r := some (.int 1)) (st := []) (g := F0 m 164 ls [.ref (ad.1 241), .ref (ad.1 1)]) (a9 := ([Value.ref (ad.1 1), Value.ref (ad.1 241)] : List Value).toArray) hk rfl C I F.1 F.2.1 F.2.2.1 (fun v hv => by cases hv) hgr ?_ k
  refine vx_runSW (As := [Value.ref (ad.1 1), Value.ref (ad.1 241)]) (rest := []) (own := RL) (cc := mL_law.2.1) (nL := 7) (hh := [(0, 8, 11, 13)]) ⟨C.1, C.2.1, C.2.2.2.1, C.2.2.2.2.1, hT⟩ (hM H.size) (vx_cwSW 2 hT z_nxG rfl rfl rfl ⟨by decide, by decide, by decide +kernel⟩ ⟨Nat.le_of_ble_eq_true rfl, Nat.le_of_ble_eq_true rfl⟩) ⟨z_blind, fun U hU hW => ⟨rfl, z_wd Ck I F.1 U hU hW⟩⟩ rfl rfl F.2.1.1 rfl (Nat.le_of_ble_eq_true rfl) dL_law_164 ⟨?_, ?_⟩
  · show S.1 - 1 + X + (S1.1 - S.1 + 1) ≤ 600128
    omega
  · show S.2.1 + Y + (S1.2.1 - S.2.1 + 6) ≤ 7301098
    omega
end
