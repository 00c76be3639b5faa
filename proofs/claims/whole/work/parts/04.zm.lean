
/-! THE PURE MACHINE. A cell has a number; a store is (how many cells, how many slots in all, each cell). 'z_Ex d M pc lv st S o': from that place of method M, with d frames of room, the run comes to the place o. It is the least relation closed under the rows zk_..; z_sound: the rows hold of the machine. -/
/-- where the cells lie, and where the constants (.retAddr k) lie -/
abbrev zA : Type := (Nat → Nat) × (Nat → Nat)
def z_ag (n : Nat) (ad' ad : zA) : Prop := (∀ i, i < n → ad'.1 i = ad.1 i) ∧ ad'.2 = ad.2
def z_up (ad : zA) (n q : Nat) : zA := (va_up ad.1 n q, ad.2)
theorem z_ag_up {ad : zA} {n q : Nat} : z_ag n (z_up ad n q) ad := ⟨fun _ h => va_up_ne _ _ (Nat.ne_of_lt h), rfl⟩
theorem z_ag_rf {ad : zA} {n : Nat} : z_ag n ad ad := ⟨fun _ _ => rfl, rfl⟩
theorem z_ag_tr {a b c : zA} {n k : Nat} (h1 : z_ag k a b) (h2 : z_ag n b c) (h : n ≤ k) : z_ag n a c := ⟨fun i hi => (h1.1 i (Nat.lt_of_lt_of_le hi h)).trans (h2.1 i hi), h1.2.trans h2.2⟩
def z_tr (ad : zA) (v : Value) : Value := match v with
  | .ref i => .ref (ad.1 i)
  | .retAddr k => .ref (ad.2 k)
  | w => w
def z_ok (n : Nat) (v : Value) : Prop := match v with
  | .ref i => i < n
  | _ => True
def z_trA (ad : zA) (a : vp_A) : vp_A := match a with
  | (n, .inr (.inr (.inr (.inr g)))) => (n, .inr (.inr (.inr (.inr (fun k => (g k).map ad.1)))))
  | b => b
def z_okA (n : Nat) (a : vp_A) : Prop := match a with
  | (_, .inr (.inr (.inr (.inr g)))) => ∀ k i, g k = some i → i < n
  | _ => True
def z_trC (ad : zA) (cA : FieldType → ClassId) (c : zC) : va_E := match c with
  | .inl (ty, a) => .inl (cA ty, z_trA ad a)
  | .inr (ci, fs) => .inr (ci, fs.map (z_tr ad))
def z_okC (n : Nat) (c : zC) : Prop := match c with
  | .inl (_, a) => z_okA n a
  | .inr (_, fs) => ∀ v ∈ fs, z_ok n v
def z_ws (ad : zA) (cA : FieldType → ClassId) (S : zS) : va_W := (List.range S.1).map fun i => (ad.1 i, z_trC ad cA (S.2.2 i))
def z_put (S : zS) (i : Nat) (c : zC) : zS := (S.1, S.2.1, va_up S.2.2 i c)
def z_new (S : zS) (c : zC) (k : Nat) : zS := (S.1 + 1, S.2.1 + k, va_up S.2.2 S.1 c)
def z_lt (ad : zA) (lv : zL) : zL := lv.map fun q => (q.1, z_tr ad q.2)
theorem z_ok_int {n : Nat} {x : Int32} : z_ok n (.int x) ↔ True := Iff.rfl
theorem z_ok_long {n : Nat} {x : Int64} : z_ok n (.long x) ↔ True := Iff.rfl
theorem z_ok_null {n : Nat} : z_ok n .null ↔ True := Iff.rfl
theorem z_ok_ref {n i : Nat} : z_ok n (.ref i) ↔ i < n := Iff.rfl
theorem z_ok_mono {n k : Nat} (h : n ≤ k) {v : Value} (hv : z_ok n v) : z_ok k v := by
  cases v <;> first | trivial | exact Nat.lt_of_lt_of_le hv h
theorem z_tr_new {ad ad' : zA} {n : Nat} (h : z_ag n ad' ad) {v : Value} (hv : z_ok n v) : z_tr ad' v = z_tr ad v := by
  cases v <;> first | rfl | exact congrArg Value.ref (h.1 _ hv) | exact congrArg Value.ref (congrFun h.2 _)
theorem z_trs_new {ad ad' : zA} {n : Nat} (h : z_ag n ad' ad) {st : List Value} (hv : ∀ v ∈ st, z_ok n v) : st.map (z_tr ad') = st.map (z_tr ad) := List.map_congr_left fun v hm => z_tr_new h (hv v hm)
theorem z_lt_new {ad ad' : zA} {n : Nat} (h : z_ag n ad' ad) {lv : zL} (hv : ∀ q ∈ lv, z_ok n q.2) : z_lt ad' lv = z_lt ad lv := List.map_congr_left fun q hm => by rw [z_tr_new h (hv q hm)]
theorem z_okC_mono {n k : Nat} (h : n ≤ k) {c : zC} (hc : z_okC n c) : z_okC k c := by
  rcases c with ⟨ty, m, g | g | g | g | g⟩ | ⟨ci, fs⟩ <;> first | trivial | exact fun j i e => Nat.lt_of_lt_of_le (hc j i e) h | exact fun v hv => z_ok_mono h (hc v hv)
theorem z_trC_new {ad ad' : zA} {n : Nat} (h : z_ag n ad' ad) {cA : FieldType → ClassId} {c : zC} (hc : z_okC n c) : z_trC ad' cA c = z_trC ad cA c := by
  rcases c with ⟨ty, m, g | g | g | g | g⟩ | ⟨ci, fs⟩
  · rfl
  · rfl
  · rfl
  · rfl
  · show (Sum.inl (cA ty, (m, .inr (.inr (.inr (.inr (fun k => (g k).map ad'.1)))))) : va_E) = .inl (cA ty, (m, .inr (.inr (.inr (.inr (fun k => (g k).map ad.1))))))
    have e : (fun k => (g k).map ad'.1) = (fun k => (g k).map ad.1) := by
      funext k
      cases hk : g k with
      | none => rfl
      | some i => exact congrArg some (h.1 i (hc k i hk))
    rw [e]
  · show (Sum.inr (ci, fs.map (z_tr ad')) : va_E) = .inr (ci, fs.map (z_tr ad))
    rw [z_trs_new h hc]
theorem z_ws_get {ad : zA} {cA : FieldType → ClassId} {S : zS} {i : Nat} (h : i < S.1) : (z_ws ad cA S)[i]? = some (ad.1 i, z_trC ad cA (S.2.2 i)) := by
  simp [z_ws, h]
theorem z_ws_at {ad : zA} {cA : FieldType → ClassId} {S : zS} {k : Nat} {q : Nat × va_E} (h : (z_ws ad cA S)[k]? = some q) : k < S.1 ∧ q = (ad.1 k, z_trC ad cA (S.2.2 k)) := by
  have hk : k < S.1 := by
    have := (List.getElem?_eq_some_iff.mp h).1
    simpa [z_ws] using this
  rw [z_ws_get hk] at h
  exact ⟨hk, (Option.some.inj h).symm⟩
theorem z_ws_set {ad : zA} {cA : FieldType → ClassId} {S : zS} {i : Nat} {c : zC} : (z_ws ad cA S).set i (ad.1 i, z_trC ad cA c) = z_ws ad cA (z_put S i c) := by
  apply List.ext_getElem?
  intro j
  by_cases hj : j < S.1
  · rw [z_ws_get (S := z_put S i c) hj]
    by_cases e : i = j
    · subst e
      rw [List.getElem?_set_self (by simpa [z_ws] using hj)]
      simp [z_put, va_up]
    · rw [List.getElem?_set_ne e, z_ws_get hj]
      simp [z_put, va_up, Ne.symm e]
  · rw [List.getElem?_eq_none (by simpa [z_ws] using Nat.le_of_not_lt hj), List.getElem?_eq_none (by simpa [z_ws, z_put] using Nat.le_of_not_lt hj)]
theorem z_ws_new {ad : zA} {cA : FieldType → ClassId} {S : zS} {c : zC} {k q : Nat} (hok : ∀ i, i < S.1 → z_okC S.1 (S.2.2 i)) : z_ws ad cA S ++ [(q, z_trC (z_up ad S.1 q) cA c)] = z_ws (z_up ad S.1 q) cA (z_new S c k) := by
  have hn : z_ag S.1 (z_up ad S.1 q) ad := z_ag_up
  show _ = (List.range (S.1 + 1)).map _
  rw [List.range_succ, List.map_append]
  congr 1
  · apply List.map_congr_left
    intro i hi
    have hi' : i < S.1 := List.mem_range.mp hi
    show _ = ((z_up ad S.1 q).1 i, z_trC (z_up ad S.1 q) cA (va_up S.2.2 S.1 c i))
    rw [hn.1 i hi']
    show _ = (ad.1 i, z_trC (z_up ad S.1 q) cA (va_up S.2.2 S.1 c i))
    rw [va_up_ne _ _ (Nat.ne_of_lt hi'), z_trC_new hn (hok i hi')]
  · show _ = [(va_up ad.1 S.1 q S.1, z_trC (z_up ad S.1 q) cA (va_up S.2.2 S.1 c S.1))]
    rw [va_up_self, va_up_self]
def z_Cx (D : va_G) (cA : FieldType → ClassId) (d : Nat) (M : zM) (p : Program) (R : Room) (s : State) (m : MethodId) (args : Array Value) (meth : Method) (c : Code) (A : Nat → Prop) : Prop :=
  p.tables.exec = Jvm.exec ∧ c.code = M.2.1 ∧ meth.sig.returnType = M.2.2.2 ∧ c.maxLocals = M.2.2.1 ∧ s.vm.findClass M.1.cls = some m.cls ∧ (∀ w ∈ z_tb, w.before args s = true) ∧ (∀ w ∈ z_nb, va_Nw w s) ∧ meth.locks = false ∧ (M.1.name = "<init>" → meth.name = "<init>") ∧ R.frames = d ∧ R.locals = 40 * d ∧
  (∀ (k : Nat) (q : vw_C), vwCl[k]? = some q → u_Kn s q.1 q.2.1 q.2.2 (D.1 k) (D.2 k)) ∧ (∀ (ty : FieldType) (k : ClassId), s.vm.findClass ("[" ++ ty.toString) = some k → cA ty = k) ∧ ∀ q, s.heap.size ≤ q → A q
def z_In (D : va_G) (cA : FieldType → ClassId) (ad : zA) (S : zS) (s : State) (A : Nat → Prop) (H : Heap) : Prop :=
  va_P D vwCl (z_ws ad cA S) H ∧ va_D A (z_ws ad cA S) ∧ (∀ i, i < S.1 → z_okC S.1 (S.2.2 i)) ∧ ∀ i, i < S.1 → ∀ (ty : FieldType) (a : vp_A), S.2.2 i = .inl (ty, a) → ArrOfT s (cA ty) ty ∧ va_RA s (cA ty) ty
def z_Fr (M : zM) (ad : zA) (A : Nat → Prop) (S : zS) (lv : zL) (st : List Value) (s : State) (H : Heap) (locs : List Loc) (ls : Array Slot) : Prop :=
  va_S A s.heap H locs ∧ lv_has ls M.2.2.1 (z_lt ad lv) ∧ (∀ q ∈ lv, z_ok S.1 q.2) ∧ ∀ v ∈ st, z_ok S.1 v
def z_Sem (l : Launch) (D : va_G) : zX := fun d M pc lv st S o => (S.1 ≤ o.2.2.2.1 ∧ S.2.1 ≤ o.2.2.2.2.1) ∧
  ∀ (p : Program) (e : Env) (R : Room) (s : State) (m : MethodId) (args : Array Value) (below : List Frame) (meth : Method) (c : Code) (cA : FieldType → ClassId) (A : Nat → Prop) (ad : zA) (H : Heap) (locs : List Loc) (ls : Array Slot) (cells slots : Nat) (Q : State → Prop),
    z_Cx D cA d M p R s m args meth c A → z_In D cA ad S s A H → z_Fr M ad A S lv st s H locs ls → cells + (o.2.2.2.1 - S.1) ≤ R.cells → slots + (o.2.2.2.2.1 - S.2.1) ≤ R.slots →
    (∀ (ad' : zA) (H' : Heap) (locs' : List Loc) (ls' : Array Slot), z_ag S.1 ad' ad → z_In D cA ad' o.2.2.2 s A H' → z_Fr M ad' A o.2.2.2 o.2.1 o.2.2.1 s H' locs' ls' → W p l e R s m args below meth c H' locs' (cells + (o.2.2.2.1 - S.1)) (slots + (o.2.2.2.2.1 - S.2.1)) Q (F0 m o.1 ls' (o.2.2.1.map (z_tr ad')))) →
    W p l e R s m args below meth c H locs cells slots Q (F0 m pc ls (st.map (z_tr ad)))
/-- a step that changes neither the cells nor the locals -/
theorem z_loc {l : Launch} {D : va_G} {d : Nat} {M : zM} {pc pc' : Nat} {lv : zL} {st st' : List Value} {S : zS} {o : zO} (h : z_Sem l D d M pc' lv st' S o) (hok : ∀ n, (∀ q ∈ lv, z_ok n q.2) → (∀ v ∈ st, z_ok n v) → ∀ v ∈ st', z_ok n v)
    (hw : ∀ {p : Program} {e : Env} {R : Room} {s : State} {m : MethodId} {args : Array Value} {below : List Frame} {meth : Method} {c : Code} {cA : FieldType → ClassId} {A : Nat → Prop} {ad : zA} {H : Heap} {locs : List Loc} {ls : Array Slot} {cells slots : Nat} {Q : State → Prop}, z_Cx D cA d M p R s m args meth c A → lv_has ls M.2.2.1 (z_lt ad lv) → cells ≤ R.cells → slots ≤ R.slots → W p l e R s m args below meth c H locs cells slots Q (F0 m pc' ls (st'.map (z_tr ad))) → W p l e R s m args below meth c H locs cells slots Q (F0 m pc ls (st.map (z_tr ad)))) : z_Sem l D d M pc lv st S o :=
  ⟨h.1, fun p e R s m args below meth c cA A ad H locs ls cells slots Q C I F hc hs k => hw C F.2.1 (Nat.le_trans (Nat.le_add_right _ _) hc) (Nat.le_trans (Nat.le_add_right _ _) hs) (h.2 p e R s m args below meth c cA A ad H locs ls cells slots Q C I ⟨F.1, F.2.1, F.2.2.1, hok _ F.2.2.1 F.2.2.2⟩ hc hs k)⟩
/-- a step that changes the locals -/
theorem z_sto {l : Launch} {D : va_G} {d : Nat} {M : zM} {pc pc' : Nat} {lv lv' : zL} {st st' : List Value} {S : zS} {o : zO} (h : z_Sem l D d M pc' lv' st' S o) (hok : ∀ n, (∀ q ∈ lv, z_ok n q.2) → (∀ v ∈ st, z_ok n v) → (∀ q ∈ lv', z_ok n q.2) ∧ ∀ v ∈ st', z_ok n v)
    (hw : ∀ {p : Program} {e : Env} {R : Room} {s : State} {m : MethodId} {args : Array Value} {below : List Frame} {meth : Method} {c : Code} {cA : FieldType → ClassId} {A : Nat → Prop} {ad : zA} {H : Heap} {locs : List Loc} {ls : Array Slot} {cells slots : Nat} {Q : State → Prop}, z_Cx D cA d M p R s m args meth c A → lv_has ls M.2.2.1 (z_lt ad lv) → (∀ ls' : Array Slot, lv_has ls' M.2.2.1 (z_lt ad lv') → W p l e R s m args below meth c H locs cells slots Q (F0 m pc' ls' (st'.map (z_tr ad)))) → W p l e R s m args below meth c H locs cells slots Q (F0 m pc ls (st.map (z_tr ad)))) : z_Sem l D d M pc lv st S o :=
  ⟨h.1, fun p e R s m args below meth c cA A ad H locs ls cells slots Q C I F hc hs k => hw C F.2.1 (fun ls' hl => h.2 p e R s m args below meth c cA A ad H locs ls' cells slots Q C I ⟨F.1, hl, (hok _ F.2.2.1 F.2.2.2).1, (hok _ F.2.2.1 F.2.2.2).2⟩ hc hs k)⟩
/-- a step that branches -/
theorem z_br {l : Launch} {D : va_G} {d : Nat} {M : zM} {pc pc1 pc2 : Nat} {lv : zL} {st st' : List Value} {S : zS} {o : zO} {b : Prop} (h1 : b → z_Sem l D d M pc1 lv st' S o) (h2 : ¬ b → z_Sem l D d M pc2 lv st' S o) (hok : ∀ n, (∀ v ∈ st, z_ok n v) → ∀ v ∈ st', z_ok n v)
    (hw : ∀ {p : Program} {e : Env} {R : Room} {s : State} {m : MethodId} {args : Array Value} {below : List Frame} {meth : Method} {c : Code} {cA : FieldType → ClassId} {A : Nat → Prop} {ad : zA} {H : Heap} {locs : List Loc} {ls : Array Slot} {cells slots : Nat} {Q : State → Prop}, z_Cx D cA d M p R s m args meth c A → (b → W p l e R s m args below meth c H locs cells slots Q (F0 m pc1 ls (st'.map (z_tr ad)))) → (¬ b → W p l e R s m args below meth c H locs cells slots Q (F0 m pc2 ls (st'.map (z_tr ad)))) → W p l e R s m args below meth c H locs cells slots Q (F0 m pc ls (st.map (z_tr ad)))) : z_Sem l D d M pc lv st S o :=
  ⟨by by_cases hb : b; exact (h1 hb).1; exact (h2 hb).1, fun p e R s m args below meth c cA A ad H locs ls cells slots Q C I F hc hs k => hw C (fun hb => (h1 hb).2 p e R s m args below meth c cA A ad H locs ls cells slots Q C I ⟨F.1, F.2.1, F.2.2.1, hok _ F.2.2.2⟩ hc hs k) (fun hb => (h2 hb).2 p e R s m args below meth c cA A ad H locs ls cells slots Q C I ⟨F.1, F.2.1, F.2.2.1, hok _ F.2.2.2⟩ hc hs k)⟩
theorem z_lt_mem {ad : zA} {lv : zL} {i : Nat} {v : Value} (h : (i, v) ∈ lv) : (i, z_tr ad v) ∈ z_lt ad lv := List.mem_map.mpr ⟨(i, v), h, rfl⟩
theorem z_ld {ls : Array Slot} {nL : Nat} {ad : zA} {lv : zL} {i : Nat} {v : Value} (hl : lv_has ls nL (z_lt ad lv)) (h : (i, v) ∈ lv) : ls[i]? = some (.val (z_tr ad v)) := hl.2.2 (i, z_tr ad v) (z_lt_mem h)
theorem z_cat {ad : zA} (v : Value) : (z_tr ad v).category = v.category := by cases v <;> rfl
def z_k1 (i : Nat) (lv : zL) : zL := lv.filter (fun q => !(q.1 == i) && !(q.1 + 1 == i && q.2.category == 2))
def z_k2 (i : Nat) (lv : zL) : zL := lv.filter (fun q => !(q.1 == i) && (!(q.1 == i + 1) && !(q.1 + 1 == i && q.2.category == 2)))
theorem z_k1_lt {ad : zA} {i : Nat} {lv : zL} : (z_lt ad lv).filter (fun q => !(q.1 == i) && !(q.1 + 1 == i && q.2.category == 2)) = z_lt ad (z_k1 i lv) := by
  unfold z_lt z_k1
  rw [List.filter_map]
  congr 1
  apply List.filter_congr
  intro q _
  simp [z_cat]
theorem z_k2_lt {ad : zA} {i : Nat} {lv : zL} : (z_lt ad lv).filter (fun q => !(q.1 == i) && (!(q.1 == i + 1) && !(q.1 + 1 == i && q.2.category == 2))) = z_lt ad (z_k2 i lv) := by
  unfold z_lt z_k2
  rw [List.filter_map]
  congr 1
  apply List.filter_congr
  intro q _
  simp [z_cat]
theorem z_k1_ok {n i : Nat} {lv : zL} (h : ∀ q ∈ lv, z_ok n q.2) : ∀ q ∈ z_k1 i lv, z_ok n q.2 := fun q hq => h q (List.mem_filter.mp hq).1
theorem z_k2_ok {n i : Nat} {lv : zL} (h : ∀ q ∈ lv, z_ok n q.2) : ∀ q ∈ z_k2 i lv, z_ok n q.2 := fun q hq => h q (List.mem_filter.mp hq).1

theorem z_cls_ok {ci : Nat} {r : vw_C} (h : vwCl[ci]? = some r) : z_clB r = true := List.all_eq_true.mp z_cl_B r (List.mem_of_getElem? h)
theorem z_cls_in {ci : Nat} {r : vw_C} (h : vwCl[ci]? = some r) : ∀ w ∈ u_ws r.1 r.2.1 r.2.2, w ∈ z_tb := by
  have h1 := z_cls_ok h
  simp only [z_clB, Bool.and_eq_true] at h1
  intro w hw
  exact of_decide_eq_true (List.all_eq_true.mp h1.2 w hw)
theorem z_cls_nm {ci : Nat} {r : vw_C} (h : vwCl[ci]? = some r) : ∀ a, a < r.2.2 → ∀ b, b < r.2.2 → a ≠ b → (r.2.1 a).2.1 ≠ (r.2.1 b).2.1 := by
  have h1 := z_cls_ok h
  simp only [z_clB, Bool.and_eq_true] at h1
  intro a ha b hb hne
  have h2 := List.all_eq_true.mp (List.all_eq_true.mp h1.1.2 a (List.mem_range.mpr ha)) b (List.mem_range.mpr hb)
  simp only [Bool.or_eq_true, decide_eq_true_eq] at h2
  exact h2.resolve_left hne
def z_ft (r : vw_C) (k : Nat) : FieldType := (parseFieldDescriptor (r.2.1 k).2.2.1).getD .int
theorem z_cls_ty {ci : Nat} {r : vw_C} (h : vwCl[ci]? = some r) : ∀ k, k < r.2.2 → parseFieldDescriptor (r.2.1 k).2.2.1 = some (z_ft r k) := by
  have h1 := z_cls_ok h
  simp only [z_clB, Bool.and_eq_true] at h1
  intro k hk
  have h2 := List.all_eq_true.mp h1.1.1 k (List.mem_range.mpr hk)
  unfold z_ft
  cases hp : parseFieldDescriptor (r.2.1 k).2.2.1 with
  | none => rw [hp] at h2; cases h2
  | some t => rfl
theorem z_narrow {ad : zA} {ty : FieldType} {v : Value} (h : narrow ty v = v) : narrow ty (z_tr ad v) = z_tr ad v := by
  cases v <;> first | exact h | (cases ty <;> rfl)
theorem z_fits {ad : zA} {ty : FieldType} {v : Value} (h : fits ty v = true) : fits ty (z_tr ad v) = true := by
  cases v <;> first | exact h | (cases ty <;> first | rfl | exact h)
theorem z_rf {ad : zA} (r : Option Nat) : z_tr ad (va_rf r) = va_rf (r.map ad.1) := by cases r <;> rfl
/-- the cells of a store, one of them changed -/
theorem z_In_put {D : va_G} {cA : FieldType → ClassId} {ad : zA} {S : zS} {s : State} {A : Nat → Prop} {H H1 : Heap} {i : Nat} {c : zC} (I : z_In D cA ad S s A H) (hP : va_P D vwCl ((z_ws ad cA S).set i (ad.1 i, z_trC ad cA c)) H1) (hD : va_D A ((z_ws ad cA S).set i (ad.1 i, z_trC ad cA c))) (hok : z_okC S.1 c) (hty : ∀ ty a, c = .inl (ty, a) → ArrOfT s (cA ty) ty ∧ va_RA s (cA ty) ty) : z_In D cA ad (z_put S i c) s A H1 := by
  rw [z_ws_set] at hP hD
  refine ⟨hP, hD, fun j hj => ?_, fun j hj ty a he => ?_⟩
  · show z_okC S.1 (va_up S.2.2 i c j)
    by_cases e : j = i
    · subst e; rw [va_up_self]; exact hok
    · rw [va_up_ne _ _ e]; exact I.2.2.1 j hj
  · have he : va_up S.2.2 i c j = .inl (ty, a) := he
    by_cases e : j = i
    · subst e; rw [va_up_self] at he; exact hty ty a he
    · rw [va_up_ne _ _ e] at he; exact I.2.2.2 j hj ty a he
/-- a cell more -/
theorem z_In_new {D : va_G} {cA : FieldType → ClassId} {ad : zA} {S : zS} {s : State} {A : Nat → Prop} {H H1 : Heap} {c : zC} {k q : Nat} (I : z_In D cA ad S s A H) (hP : va_P D vwCl (z_ws ad cA S ++ [(q, z_trC (z_up ad S.1 q) cA c)]) H1) (hD : va_D A (z_ws ad cA S ++ [(q, z_trC (z_up ad S.1 q) cA c)])) (hok : z_okC (S.1 + 1) c) (hty : ∀ ty a, c = .inl (ty, a) → ArrOfT s (cA ty) ty ∧ va_RA s (cA ty) ty) : z_In D cA (z_up ad S.1 q) (z_new S c k) s A H1 := by
  rw [z_ws_new (k := k) I.2.2.1] at hP hD
  refine ⟨hP, hD, fun j hj => ?_, fun j hj ty a he => ?_⟩
  · show z_okC (S.1 + 1) (va_up S.2.2 S.1 c j)
    have hj : j < S.1 + 1 := hj
    by_cases e : j = S.1
    · subst e; rw [va_up_self]; exact hok
    · rw [va_up_ne _ _ e]; exact z_okC_mono (Nat.le_succ _) (I.2.2.1 j (by omega))
  · have he : va_up S.2.2 S.1 c j = .inl (ty, a) := he
    have hj : j < S.1 + 1 := hj
    by_cases e : j = S.1
    · subst e; rw [va_up_self] at he; exact hty ty a he
    · rw [va_up_ne _ _ e] at he; exact I.2.2.2 j (by omega) ty a he
theorem z_Fr_put {M : zM} {ad : zA} {A : Nat → Prop} {S : zS} {lv : zL} {st st' : List Value} {s : State} {H H1 : Heap} {locs locs1 : List Loc} {ls : Array Slot} {i : Nat} {c : zC} (F : z_Fr M ad A S lv st s H locs ls) (hS : va_S A s.heap H1 locs1) (hst : ∀ v ∈ st', z_ok S.1 v) : z_Fr M ad A (z_put S i c) lv st' s H1 locs1 ls := ⟨hS, F.2.1, F.2.2.1, hst⟩
theorem z_Fr_new {M : zM} {ad : zA} {A : Nat → Prop} {S : zS} {lv : zL} {st st' : List Value} {s : State} {H H1 : Heap} {locs locs1 : List Loc} {ls : Array Slot} {q k : Nat} {c : zC} (F : z_Fr M ad A S lv st s H locs ls) (hS : va_S A s.heap H1 locs1) (hst : ∀ v ∈ st', z_ok (S.1 + 1) v) : z_Fr M (z_up ad S.1 q) A (z_new S c k) lv st' s H1 locs1 ls :=
  ⟨hS, by rw [z_lt_new z_ag_up F.2.2.1]; exact F.2.1, fun q hq => z_ok_mono (Nat.le_succ _) (F.2.2.1 q hq), hst⟩
theorem z_K {D : va_G} {cA : FieldType → ClassId} {d : Nat} {M : zM} {p : Program} {R : Room} {s : State} {m : MethodId} {args : Array Value} {meth : Method} {c : Code} {A : Nat → Prop} (C : z_Cx D cA d M p R s m args meth c A) : va_K D vwCl [] s := ⟨C.2.2.2.2.2.2.2.2.2.2.2.1, fun k q h => by simp at h⟩
theorem z_K1 {D : va_G} {cA : FieldType → ClassId} {d : Nat} {M : zM} {p : Program} {R : Room} {s : State} {m : MethodId} {args : Array Value} {meth : Method} {c : Code} {A : Nat → Prop} (C : z_Cx D cA d M p R s m args meth c A) {ty : FieldType} (h : ArrOfT s (cA ty) ty ∧ va_RA s (cA ty) ty) : va_K D vwCl [(cA ty, ty)] s := ⟨C.2.2.2.2.2.2.2.2.2.2.2.1, fun k q hq => by
  have hz : k < 1 := (List.getElem?_eq_some_iff.mp hq).1
  rw [show k = 0 by omega] at hq
  cases hq
  exact h⟩
/-- the semantics at a step that puts a cell -/
theorem z_stp {l : Launch} {D : va_G} {d : Nat} {M : zM} {pc pc' : Nat} {lv : zL} {st st' : List Value} {S : zS} {o : zO} {i : Nat} {c' : zC} (h : z_Sem l D d M pc' lv st' (z_put S i c') o) (hok : ∀ n, (∀ v ∈ st, z_ok n v) → ∀ v ∈ st', z_ok n v)
    (hw : ∀ {p : Program} {e : Env} {R : Room} {s : State} {m : MethodId} {args : Array Value} {below : List Frame} {meth : Method} {c : Code} {cA : FieldType → ClassId} {A : Nat → Prop} {ad : zA} {H : Heap} {locs : List Loc} {ls : Array Slot} {cells slots : Nat} {Q : State → Prop}, z_Cx D cA d M p R s m args meth c A → z_In D cA ad S s A H → z_Fr M ad A S lv st s H locs ls → (∀ (H1 : Heap) (locs1 : List Loc), z_In D cA ad (z_put S i c') s A H1 → va_S A s.heap H1 locs1 → W p l e R s m args below meth c H1 locs1 cells slots Q (F0 m pc' ls (st'.map (z_tr ad)))) → W p l e R s m args below meth c H locs cells slots Q (F0 m pc ls (st.map (z_tr ad)))) : z_Sem l D d M pc lv st S o :=
  ⟨h.1, fun p e R s m args below meth c cA A ad H locs ls cells slots Q C I F hc hs k => hw C I F (fun H1 locs1 I1 hS => h.2 p e R s m args below meth c cA A ad H1 locs1 ls cells slots Q C I1 (z_Fr_put F hS (hok _ F.2.2.2)) hc hs (fun ad' H' locs' ls' ha I' F' => k ad' H' locs' ls' ha I' F'))⟩
/-- at a step that makes a cell -/
theorem z_stn {l : Launch} {D : va_G} {d : Nat} {M : zM} {pc pc' : Nat} {lv : zL} {st st' : List Value} {S : zS} {o : zO} {n9 : Nat} {c' : zC} (h : z_Sem l D d M pc' lv st' (z_new S c' n9) o) (hok : (∀ v ∈ st, z_ok S.1 v) → ∀ v ∈ st', z_ok (S.1 + 1) v)
    (hw : ∀ {p : Program} {e : Env} {R : Room} {s : State} {m : MethodId} {args : Array Value} {below : List Frame} {meth : Method} {c : Code} {cA : FieldType → ClassId} {A : Nat → Prop} {ad : zA} {H : Heap} {locs : List Loc} {ls : Array Slot} {cells slots : Nat} {Q : State → Prop}, z_Cx D cA d M p R s m args meth c A → z_In D cA ad S s A H → z_Fr M ad A S lv st s H locs ls → cells + 1 ≤ R.cells → slots + n9 ≤ R.slots → (∀ (q : Nat) (H1 : Heap), z_In D cA (z_up ad S.1 q) (z_new S c' n9) s A H1 → va_S A s.heap H1 locs → W p l e R s m args below meth c H1 locs (cells + 1) (slots + n9) Q (F0 m pc' ls (st'.map (z_tr (z_up ad S.1 q))))) → W p l e R s m args below meth c H locs cells slots Q (F0 m pc ls (st.map (z_tr ad)))) : z_Sem l D d M pc lv st S o := by
  have h1 : S.1 + 1 ≤ o.2.2.2.1 := h.1.1
  have h2 : S.2.1 + n9 ≤ o.2.2.2.2.1 := h.1.2
  refine ⟨⟨by omega, by omega⟩, fun p e R s m args below meth c cA A ad H locs ls cells slots Q C I F hc hs k => hw C I F (by omega) (by omega) (fun q H1 I1 hS => ?_)⟩
  have e1 : cells + 1 + (o.2.2.2.1 - (S.1 + 1)) = cells + (o.2.2.2.1 - S.1) := by omega
  have e2 : slots + n9 + (o.2.2.2.2.1 - (S.2.1 + n9)) = slots + (o.2.2.2.2.1 - S.2.1) := by omega
  refine h.2 p e R s m args below meth c cA A _ H1 locs ls (cells + 1) (slots + n9) Q C I1 (z_Fr_new F hS (hok F.2.2.2)) (by show cells + 1 + (o.2.2.2.1 - (S.1 + 1)) ≤ _; omega) (by show slots + n9 + (o.2.2.2.2.1 - (S.2.1 + n9)) ≤ _; omega) (fun ad' H' locs' ls' ha I' F' => ?_)
  have w := k ad' H' locs' ls' (z_ag_tr ha z_ag_up (Nat.le_succ _)) I' F'
  show W p l e R s m args below meth c H' locs' (cells + 1 + (o.2.2.2.1 - (S.1 + 1))) (slots + n9 + (o.2.2.2.2.1 - (S.2.1 + n9))) Q _
  rw [e1, e2]
  exact w

theorem z_oi1 : Cond.instanceMethod Lib.objectInit ∈ z_tb := List.mem_filter.mpr ⟨by decide +kernel, rfl⟩
theorem z_oi2 : Cond.code Lib.objectInit ⟨#[0xb1]⟩ 1 none ∈ z_tb := List.mem_filter.mpr ⟨by decide +kernel, rfl⟩
theorem z_mm_max1 : Cond.static Lib.Math.max.name ∈ z_tb := List.mem_filter.mpr ⟨by decide +kernel, rfl⟩
theorem z_mm_max2 : Cond.initialized "java/lang/Math" ∈ z_tb := List.mem_filter.mpr ⟨by decide +kernel, rfl⟩
theorem z_mm_max3 : Cond.code Lib.Math.max.name Lib.Math.max.code 2 (some .int) ∈ z_tb := List.mem_filter.mpr ⟨by decide +kernel, rfl⟩
theorem z_mm_min1 : Cond.static Lib.Math.min.name ∈ z_tb := List.mem_filter.mpr ⟨by decide +kernel, rfl⟩
theorem z_mm_min2 : Cond.initialized "java/lang/Math" ∈ z_tb := List.mem_filter.mpr ⟨by decide +kernel, rfl⟩
theorem z_mm_min3 : Cond.code Lib.Math.min.name Lib.Math.min.code 2 (some .int) ∈ z_tb := List.mem_filter.mpr ⟨by decide +kernel, rfl⟩
/-- the texts that are constants: entry of MacroReader's pool, bytes -/
def z_sx : List (Nat × List Nat) := [(302, [105, 102]), (304, [101, 108, 115, 101]), (306, [101, 110, 100, 105, 102]), (308, [114, 101, 112, 116]), (310, [101, 110, 100, 114]), (312, [109, 97, 99, 114, 111]), (314, [101, 110, 100, 109])]
def z_sb (k : Nat) : List Nat := (z_sx.getD k (0, [])).2

theorem z_In_mv {D : va_G} {cA : FieldType → ClassId} {ad : zA} {S : zS} {u U : State} {A : Nat → Prop} {H : Heap} (hvm : u.vm.Alike U.vm) (I : z_In D cA ad S u A H) : z_In D cA ad S U A H := ⟨I.1, I.2.1, I.2.2.1, fun i hi ty a he => ⟨arrOfT_moved hvm (I.2.2.2 i hi ty a he).1, (I.2.2.2 i hi ty a he).2.moved hvm⟩⟩
theorem z_In_A {D : va_G} {cA : FieldType → ClassId} {ad : zA} {S : zS} {s : State} {A A' : Nat → Prop} {H : Heap} (I : z_In D cA ad S s A H) (h : ∀ q, A q → A' q) : z_In D cA ad S s A' H := ⟨I.1, I.2.1.weaken (fun _ q _ hq => h _ hq), I.2.2.1, I.2.2.2⟩
/-- what a callee is given -/
def z_Wd (D : va_G) (cA : FieldType → ClassId) (ad : zA) (S : zS) (sz : Nat) (U : State) : Prop := U.heap.size = sz ∧ z_In D cA ad S U (va_A (z_ws ad cA S) sz) U.heap ∧ (∀ w ∈ z_nb, va_Nw w U) ∧ (∀ (k : Nat) (q : vw_C), vwCl[k]? = some q → u_Kn U q.1 q.2.1 q.2.2 (D.1 k) (D.2 k)) ∧ ∀ (ty : FieldType) (k : ClassId), U.vm.findClass ("[" ++ ty.toString) = some k → cA ty = k
def z_w (M : zM) : List Cond := Cond.code M.1 M.2.1 M.2.2.1 M.2.2.2 :: z_tb
def z_rm (d mc ms : Nat) : Room := { frames := d, cells := mc, slots := ms, locals := 40 * d }
def z_Qc (D : va_G) (cA : FieldType → ClassId) (ad : zA) (S S1 : zS) (sz : Nat) (r : Option Value) : Array Value → State → Outcome → State → Prop := fun _ st oc t => ∃ ad' : zA, z_ag S.1 ad' ad ∧ oc = .returned (r.map (z_tr ad')) ∧ (∀ v ∈ r, z_ok S1.1 v) ∧ z_In D cA ad' S1 t (va_A (z_ws ad cA S) sz) t.heap ∧ va_F (va_A (z_ws ad cA S) sz) st t
/-- a method's end, with its answer -/
def z_rt (M : zM) (pc : Nat) (st : List Value) (r : Option Value) : Prop := (decode M.2.1 pc = .ok (.return_, 1) ∧ M.2.2.2 = none ∧ st = [] ∧ r = none) ∨ (decode M.2.1 pc = .ok (.ireturn, 1) ∧ ∃ (x : Int32) (ty : FieldType), M.2.2.2 = some ty ∧ narrow ty (.int x) = .int x ∧ st = [.int x] ∧ r = some (.int x)) ∨ (decode M.2.1 pc = .ok (.lreturn, 1) ∧ ∃ x : Int64, M.2.2.2 = some .long ∧ st = [.long x] ∧ r = some (.long x)) ∨ (decode M.2.1 pc = .ok (.areturn, 1) ∧ ∃ (v : Value) (rt : FieldType), M.2.2.2 = some rt ∧ ((∃ n, rt = .object n) ∨ ∃ t, rt = .array t) ∧ (v = .null ∨ (∃ a, v = .ref a) ∨ ∃ k, v = .retAddr k) ∧ st = [v] ∧ r = some v)
theorem z_args {ad : zA} : ∀ (as : List Value) (i : Nat), lv_args i (as.map (z_tr ad)) = z_lt ad (lv_args i as)
  | [], _ => rfl
  | v :: as, i => by
    show (i, z_tr ad v) :: lv_args (if (z_tr ad v).category = 2 then i + 2 else i + 1) (as.map (z_tr ad)) = (i, z_tr ad v) :: z_lt ad (lv_args (if v.category = 2 then i + 2 else i + 1) as)
    rw [z_cat, z_args as]
theorem z_args_ok {n : Nat} : ∀ (as : List Value) (i : Nat), (∀ v ∈ as, z_ok n v) → ∀ q ∈ lv_args i as, z_ok n q.2
  | [], _, _ => fun q h => by cases h
  | v :: as, i, h => fun q hq => by
    rcases List.mem_cons.mp hq with rfl | hq
    · exact h v List.mem_cons_self
    · exact z_args_ok as _ (fun u hu => h u (List.mem_cons_of_mem _ hu)) q hq
theorem z_sl {ad : zA} (as : List Value) : (lg_sl (as.map (z_tr ad))).length = (lg_sl as).length := by
  induction as with
  | nil => rfl
  | cons v as ih =>
    simp only [lg_sl, List.map_cons, List.flatMap_cons, List.length_append, z_cat] at ih ⊢
    rw [ih]
    congr 1
    by_cases h : v.category = 2 <;> simp [h]
theorem z_met {l : Launch} {D : va_G} {cA : FieldType → ClassId} {ad : zA} {d : Nat} {M : zM} {as st' : List Value} {lv' : zL} {S S1 : zS} {pc' sz : Nat} {r : Option Value} (h : z_Sem l D d M 0 (lv_args 0 as) [] S (pc', lv', st', S1)) (hrt : z_rt M pc' st' r) (hok : ∀ v ∈ as, z_ok S.1 v) (hfit : (lg_sl as).length ≤ M.2.2.1) (hpl : plainName M.1.cls = true) :
    Met l M.1 (z_w M) (z_rm d (S1.1 - S.1) (S1.2.1 - S.2.1)) (va_Pc (as.map (z_tr ad)) (z_Wd D cA ad S sz)) (z_Qc D cA ad S S1 sz r) (S1.1 - S.1) (S1.2.1 - S.2.1) (va_A (z_ws ad cA S) sz) := by
  refine Met.ofW (cc := M.2.1) (maxL := M.2.2.1) (ret := M.2.2.2) hpl rfl ?_
  intro p e s m args below meth c s₁ B hml hv
  obtain ⟨rfl, hsz, I, hnw, hkn, hcA⟩ := hv
  have hts := atoms_spec (ws := z_w M) B.pre
  have hr := B.returns
  have hlocks := B.notSynchronized
  subst hsz
  have C : z_Cx D cA d M p (z_rm d (S1.1 - S.1) (S1.2.1 - S.2.1)) s m ((as.map (z_tr ad)).toArray) meth c (va_A (z_ws ad cA S) s.heap.size) :=
    ⟨B.exec, B.bytes, hr, hml, findClass_of_methodNamed B.named, fun w hw => hts w (List.mem_cons_of_mem _ hw), hnw, hlocks, fun hn => (name_of_methodNamed B.named B.method).1.trans hn, rfl, rfl, hkn, hcA, fun q hq => Or.inr hq⟩
  have hl := lv_entry (as.map (z_tr ad)) (n := M.2.2.1) (by rw [z_sl]; exact hfit)
  rw [lg_entry_eq]
  generalize (lg_sl (as.map (z_tr ad)) ++ List.replicate (M.2.2.1 - (lg_sl (as.map (z_tr ad))).length) Slot.unset).toArray = ls at hl ⊢
  rw [z_args] at hl
  refine h.2 p e _ s m _ below meth c cA _ ad s.heap [] ls 0 0 _ C I ⟨va_S.rf, hl, z_args_ok as 0 hok, fun v hv => by cases hv⟩ (by show 0 + (S1.1 - S.1) ≤ S1.1 - S.1; omega) (by show 0 + (S1.2.1 - S.2.1) ≤ S1.2.1 - S.2.1; omega) (fun ad' H' locs' ls' ha I' F' => ?_)
  show W p l e _ s m _ below meth c H' locs' (0 + (S1.1 - S.1)) (0 + (S1.2.1 - S.2.1)) _ (F0 m pc' ls' (st'.map (z_tr ad')))
  rw [Nat.zero_add, Nat.zero_add]
  have hq : ∀ t : State, t.heap = H' → s.WarmedH t.vm → (∀ v ∈ r, z_ok S1.1 v) → z_Qc D cA ad S S1 s.heap.size r ((as.map (z_tr ad)).toArray) s (.returned (r.map (z_tr ad'))) t := fun t ht hW hrk => ⟨ad', ha, rfl, hrk, by rw [ht]; exact z_In_mv hW.alike I', F'.1.F ht⟩
  have hst := F'.2.2.2
  rcases hrt with ⟨hd, hM, rfl, rfl⟩ | ⟨hd, x, ty, hM, hn, rfl, rfl⟩ | ⟨hd, x, hM, rfl, rfl⟩ | ⟨hd, v, rt, hM, ht1, hv, rfl, rfl⟩
  · exact W.vret B.exec B.bytes (hr.trans hM) (fun t ht hW => hq t ht hW (fun v h => by cases h)) F'.1.2.2 hd
  · exact W.zret (ty := ty) B.exec B.bytes (hr.trans hM) hn (fun t ht hW => hq t ht hW (fun v h => by cases h; trivial)) F'.1.2.2 hd
  · exact W.lret B.exec B.bytes (hr.trans hM) (fun t ht hW => hq t ht hW (fun v h => by cases h; trivial)) F'.1.2.2 hd
  · exact W.aret (v := z_tr ad' v) (rt := rt) B.exec B.bytes (hr.trans hM) ht1 (by rcases hv with rfl | ⟨a, rfl⟩ | ⟨a, rfl⟩; exact Or.inl rfl; exact Or.inr ⟨_, rfl⟩; exact Or.inr ⟨_, rfl⟩) (fun t ht hW => hq t ht hW (fun u h => by cases h; exact hst _ List.mem_cons_self)) F'.1.2.2 hd
theorem z_blind {D : va_G} {cA : FieldType → ClassId} {ad : zA} {S : zS} {sz : Nat} {av : List Value} : FrameBlind (va_Pc av (z_Wd D cA ad S sz)) := by
  intro a U g mk ⟨h0, h1, h2, h3, h4, h5⟩
  refine ⟨h0, h1, z_In_mv (u := U) (U := U.calling g mk a) (Vm.Alike.refl U.vm) h2, fun w hw => va_Nw.same (u := U) ?_ rfl (h3 w hw), fun k q hq => u_Kn_moved (u := U) (U := U.calling g mk a) (Vm.Alike.refl U.vm) (h4 k q hq), h5⟩
  have hn := (List.mem_filter.mp hw).2
  cases w <;> first | rfl | (exfalso; simp [z_isN] at hn; done)
theorem z_wd {D : va_G} {cA : FieldType → ClassId} {d : Nat} {M : zM} {p : Program} {R : Room} {s : State} {m : MethodId} {args : Array Value} {meth : Method} {c : Code} {A : Nat → Prop} {ad : zA} {S : zS} {H : Heap} (C : z_Cx D cA d M p R s m args meth c A) (I : z_In D cA ad S s A H) : ∀ U : State, U.heap = H → s.WarmedH U.vm → z_Wd D cA ad S H.size U := by
  intro U hU hW
  refine ⟨by rw [hU], ?_, fun w hw => ?_, fun k q hq => u_Kn_moved hW.alike (C.2.2.2.2.2.2.2.2.2.2.2.1 k q hq), fun ty k hk => C.2.2.2.2.2.2.2.2.2.2.2.2.1 ty k (by rw [hW.alike.findClass] at hk; exact hk)⟩
  · rw [hU]
    exact ⟨I.1, I.2.1.self, I.2.2.1, (z_In_mv hW.alike I).2.2.2⟩
  · have hn := (List.mem_filter.mp hw).2
    have h9 := C.2.2.2.2.2.2.1 w hw
    cases w <;> first | exact va_Nw.warmM hW h9 | exact va_Nw.warmF hW h9 | (exfalso; simp [z_isN] at hn; done)
theorem z_good {M : zM} (h : Cond.code M.1 M.2.1 M.2.2.1 M.2.2.2 ∈ z_tb) : GoodIn z_tb (z_w M) := by
  intro w hw
  have h1 : w ∈ z_tb := by
    rcases List.mem_cons.mp hw with rfl | h9
    · exact h
    · exact h9
  exact ⟨h1, good_of_word (List.mem_filter.mp h1).2⟩
/-- behind a call: the run goes on -/
theorem z_ret {l : Launch} {D : va_G} {d : Nat} {M : zM} {pc : Nat} {lv : zL} {st : List Value} {S S1 : zS} {o : zO} {r : Option Value} {p : Program} {e : Env} {R : Room} {s : State} {m : MethodId} {args : Array Value} {below : List Frame} {meth : Method} {c : Code} {cA : FieldType → ClassId} {A : Nat → Prop} {ad : zA} {H : Heap} {locs : List Loc} {ls : Array Slot} {cells slots : Nat} {Q : State → Prop} {g : JFrame} {a9 : Array Value}
    (hg : g = F0 m pc ls g.stack) (C : z_Cx D cA d M p R s m args meth c A) (I : z_In D cA ad S s A H) (hS : va_S A s.heap H locs) (hl : lv_has ls M.2.2.1 (z_lt ad lv)) (hlok : ∀ q ∈ lv, z_ok S.1 q.2) (hst : ∀ v ∈ st, z_ok S.1 v) (hgr : S.1 ≤ S1.1 ∧ S.2.1 ≤ S1.2.1)
    (hr : va_Run p l e R s m args below meth c H locs cells slots (S1.1 - S.1) (S1.2.1 - S.2.1) g (st.map (z_tr ad)) (z_Qc D cA ad S S1 H.size r a9) (va_A (z_ws ad cA S) H.size)) (k : z_Sem l D d M (pc + 3) lv (r.toList ++ st) S1 o) (hc : cells + (o.2.2.2.1 - S.1) ≤ R.cells) (hs : slots + (o.2.2.2.2.1 - S.2.1) ≤ R.slots)
    (K : ∀ (ad' : zA) (H' : Heap) (locs' : List Loc) (ls' : Array Slot), z_ag S.1 ad' ad → z_In D cA ad' o.2.2.2 s A H' → z_Fr M ad' A o.2.2.2 o.2.1 o.2.2.1 s H' locs' ls' → W p l e R s m args below meth c H' locs' (cells + (o.2.2.2.1 - S.1)) (slots + (o.2.2.2.2.1 - S.2.1)) Q (F0 m o.1 ls' (o.2.2.1.map (z_tr ad')))) : W p l e R s m args below meth c H locs cells slots Q g := by
  intro T hT X
  obtain ⟨v, st₀, t, T', L, h0, X', hL, e1, e2, ⟨ad', ha, hv, hrk, I1, hz, hkp⟩, stp⟩ := hr T hT X
  cases hv
  rw [h0] at hz hkp
  have hk1 := k.1
  have hsub : ∀ q, va_A (z_ws ad cA S) H.size q → A q := by
    intro q hq
    rcases hq with ⟨j, e9, h⟩ | h
    · exact I.2.1.2 j _ h
    · exact C.2.2.2.2.2.2.2.2.2.2.2.2.2 q (Nat.le_trans hS.1 h)
  have hal : s.vm.Alike t.vm := by rw [← e2]; exact X'.warmed.alike
  have I2 : z_In D cA ad' S1 s A T'.heap := by rw [e1]; exact z_In_A (z_In_mv hal.symm I1) hsub
  have hS2 : va_S A s.heap T'.heap (locs ++ L) := ⟨Nat.le_trans hS.1 (by rw [e1]; exact hz), fun q h1 h2 => by rw [e1, hkp q (Nat.lt_of_lt_of_le h1 hS.1) (fun z => h2 (hsub q z))]; exact hS.2.1 q h1 h2, fun q hq => by
      rcases List.mem_append.mp hq with h | h
      · exact hS.2.2 q h
      · exact hsub _ (hL q h)⟩
  have est : (r.toList ++ st).map (z_tr ad') = (r.map (z_tr ad')).toList ++ st.map (z_tr ad) := by
    rw [List.map_append, z_trs_new ha hst]
    cases r <;> rfl
  have hok2 : ∀ v ∈ r.toList ++ st, z_ok S1.1 v := fun v hv => by
    rcases List.mem_append.mp hv with h | h
    · exact hrk v (by cases r with | none => cases h | some u => have h9 : v = u := (by simpa using h); subst h9; rfl)
    · exact z_ok_mono hgr.1 (hst v h)
  have w := k.2 p e R s m args below meth c cA A ad' T'.heap (locs ++ L) ls (cells + (S1.1 - S.1)) (slots + (S1.2.1 - S.2.1)) Q C I2 ⟨hS2, by rw [z_lt_new ha hlok]; exact hl, fun q hq => z_ok_mono hgr.1 (hlok q hq), hok2⟩ (by omega) (by omega) (fun ad2 H2 locs2 ls2 ha2 I3 F3 => by
    have w9 := K ad2 H2 locs2 ls2 (z_ag_tr ha2 ha hgr.1) I3 F3
    have q1 : cells + (S1.1 - S.1) + (o.2.2.2.1 - S1.1) = cells + (o.2.2.2.1 - S.1) := by omega
    have q2 : slots + (S1.2.1 - S.2.1) + (o.2.2.2.2.1 - S1.2.1) = slots + (o.2.2.2.2.1 - S.2.1) := by omega
    rw [q1, q2]
    exact w9)
  rw [est] at w
  obtain ⟨t2, a1, b1⟩ := w T' rfl X'
  refine ⟨t2, stp t2 ?_, b1⟩
  rw [hg]
  exact a1

def zk_iconst (X : zX) : Prop := ∀ (d : Nat) (M : zM) (pc : Nat) (lv : zL) (st : List Value) (S : zS) (o : zO) (n : Int), decode M.2.1 pc = .ok (.iconst n, 1) → (X d M (pc + 1) lv (.int (Int32.ofInt n) :: st) S o) → X d M pc lv (st) S o
def zk_bipush (X : zX) : Prop := ∀ (d : Nat) (M : zM) (pc : Nat) (lv : zL) (st : List Value) (S : zS) (o : zO) (n : Int), decode M.2.1 pc = .ok (.bipush n, 2) → (X d M (pc + 2) lv (.int (Int8.ofInt n).toInt32 :: st) S o) → X d M pc lv (st) S o
def zk_sipush (X : zX) : Prop := ∀ (d : Nat) (M : zM) (pc : Nat) (lv : zL) (st : List Value) (S : zS) (o : zO) (n : Int), decode M.2.1 pc = .ok (.sipush n, 3) → (X d M (pc + 3) lv (.int (Int16.ofInt n).toInt32 :: st) S o) → X d M pc lv (st) S o
def zk_lconst (X : zX) : Prop := ∀ (d : Nat) (M : zM) (pc : Nat) (lv : zL) (st : List Value) (S : zS) (o : zO) (n : Fin 2), decode M.2.1 pc = .ok (.lconst n, 1) → (X d M (pc + 1) lv (.long (Int64.ofNat (n : Nat)) :: st) S o) → X d M pc lv (st) S o
def zk_aconst (X : zX) : Prop := ∀ (d : Nat) (M : zM) (pc : Nat) (lv : zL) (st : List Value) (S : zS) (o : zO) , decode M.2.1 pc = .ok (.aconst_null, 1) → (X d M (pc + 1) lv (.null :: st) S o) → X d M pc lv (st) S o
def zk_iload_n (X : zX) : Prop := ∀ (d : Nat) (M : zM) (pc : Nat) (lv : zL) (st : List Value) (S : zS) (o : zO) (j : Fin 4) (x : Int32), decode M.2.1 pc = .ok (.iload_n j, 1) → (((j : Nat), Value.int x) ∈ lv) → (X d M (pc + 1) lv (.int x :: st) S o) → X d M pc lv (st) S o
def zk_iload (X : zX) : Prop := ∀ (d : Nat) (M : zM) (pc : Nat) (lv : zL) (st : List Value) (S : zS) (o : zO) (i : Nat) (x : Int32), decode M.2.1 pc = .ok (.iload i, 2) → ((i, Value.int x) ∈ lv) → (X d M (pc + 2) lv (.int x :: st) S o) → X d M pc lv (st) S o
def zk_lload_n (X : zX) : Prop := ∀ (d : Nat) (M : zM) (pc : Nat) (lv : zL) (st : List Value) (S : zS) (o : zO) (j : Fin 4) (x : Int64), decode M.2.1 pc = .ok (.lload_n j, 1) → (((j : Nat), Value.long x) ∈ lv) → (X d M (pc + 1) lv (.long x :: st) S o) → X d M pc lv (st) S o
def zk_lload (X : zX) : Prop := ∀ (d : Nat) (M : zM) (pc : Nat) (lv : zL) (st : List Value) (S : zS) (o : zO) (i : Nat) (x : Int64), decode M.2.1 pc = .ok (.lload i, 2) → ((i, Value.long x) ∈ lv) → (X d M (pc + 2) lv (.long x :: st) S o) → X d M pc lv (st) S o
def zk_aload_n (X : zX) : Prop := ∀ (d : Nat) (M : zM) (pc : Nat) (lv : zL) (st : List Value) (S : zS) (o : zO) (j : Fin 4) (x : Nat), decode M.2.1 pc = .ok (.aload_n j, 1) → (((j : Nat), Value.ref x) ∈ lv) → (X d M (pc + 1) lv (.ref x :: st) S o) → X d M pc lv (st) S o
def zk_aload (X : zX) : Prop := ∀ (d : Nat) (M : zM) (pc : Nat) (lv : zL) (st : List Value) (S : zS) (o : zO) (i : Nat) (x : Nat), decode M.2.1 pc = .ok (.aload i, 2) → ((i, Value.ref x) ∈ lv) → (X d M (pc + 2) lv (.ref x :: st) S o) → X d M pc lv (st) S o
def zk_aload_nN (X : zX) : Prop := ∀ (d : Nat) (M : zM) (pc : Nat) (lv : zL) (st : List Value) (S : zS) (o : zO) (j : Fin 4), decode M.2.1 pc = .ok (.aload_n j, 1) → (((j : Nat), Value.null) ∈ lv) → (X d M (pc + 1) lv (.null :: st) S o) → X d M pc lv (st) S o
def zk_aloadN (X : zX) : Prop := ∀ (d : Nat) (M : zM) (pc : Nat) (lv : zL) (st : List Value) (S : zS) (o : zO) (i : Nat), decode M.2.1 pc = .ok (.aload i, 2) → ((i, Value.null) ∈ lv) → (X d M (pc + 2) lv (.null :: st) S o) → X d M pc lv (st) S o
def zk_aload_nS (X : zX) : Prop := ∀ (d : Nat) (M : zM) (pc : Nat) (lv : zL) (st : List Value) (S : zS) (o : zO) (j : Fin 4) (x : Nat), decode M.2.1 pc = .ok (.aload_n j, 1) → (((j : Nat), Value.retAddr x) ∈ lv) → (X d M (pc + 1) lv (.retAddr x :: st) S o) → X d M pc lv (st) S o
def zk_aloadS (X : zX) : Prop := ∀ (d : Nat) (M : zM) (pc : Nat) (lv : zL) (st : List Value) (S : zS) (o : zO) (i : Nat) (x : Nat), decode M.2.1 pc = .ok (.aload i, 2) → ((i, Value.retAddr x) ∈ lv) → (X d M (pc + 2) lv (.retAddr x :: st) S o) → X d M pc lv (st) S o
def zk_istore_n (X : zX) : Prop := ∀ (d : Nat) (M : zM) (pc : Nat) (lv : zL) (st : List Value) (S : zS) (o : zO) (j : Fin 4) (x : Int32), decode M.2.1 pc = .ok (.istore_n j, 1) → ((j : Nat) < M.2.2.1) → (X d M (pc + 1) (((j : Nat), Value.int x) :: z_k1 ((j : Nat)) lv) (st) S o) → X d M pc lv (.int x :: st) S o
def zk_istore (X : zX) : Prop := ∀ (d : Nat) (M : zM) (pc : Nat) (lv : zL) (st : List Value) (S : zS) (o : zO) (i : Nat) (x : Int32), decode M.2.1 pc = .ok (.istore i, 2) → (i < M.2.2.1) → (X d M (pc + 2) ((i, Value.int x) :: z_k1 (i) lv) (st) S o) → X d M pc lv (.int x :: st) S o
def zk_lstore_n (X : zX) : Prop := ∀ (d : Nat) (M : zM) (pc : Nat) (lv : zL) (st : List Value) (S : zS) (o : zO) (j : Fin 4) (x : Int64), decode M.2.1 pc = .ok (.lstore_n j, 1) → ((j : Nat) + 1 < M.2.2.1) → (X d M (pc + 1) (((j : Nat), Value.long x) :: z_k2 ((j : Nat)) lv) (st) S o) → X d M pc lv (.long x :: st) S o
def zk_lstore (X : zX) : Prop := ∀ (d : Nat) (M : zM) (pc : Nat) (lv : zL) (st : List Value) (S : zS) (o : zO) (i : Nat) (x : Int64), decode M.2.1 pc = .ok (.lstore i, 2) → (i + 1 < M.2.2.1) → (X d M (pc + 2) ((i, Value.long x) :: z_k2 (i) lv) (st) S o) → X d M pc lv (.long x :: st) S o
def zk_astore_n (X : zX) : Prop := ∀ (d : Nat) (M : zM) (pc : Nat) (lv : zL) (st : List Value) (S : zS) (o : zO) (j : Fin 4) (x : Nat), decode M.2.1 pc = .ok (.astore_n j, 1) → ((j : Nat) < M.2.2.1) → (X d M (pc + 1) (((j : Nat), Value.ref x) :: z_k1 ((j : Nat)) lv) (st) S o) → X d M pc lv (.ref x :: st) S o
def zk_astore (X : zX) : Prop := ∀ (d : Nat) (M : zM) (pc : Nat) (lv : zL) (st : List Value) (S : zS) (o : zO) (i : Nat) (x : Nat), decode M.2.1 pc = .ok (.astore i, 2) → (i < M.2.2.1) → (X d M (pc + 2) ((i, Value.ref x) :: z_k1 (i) lv) (st) S o) → X d M pc lv (.ref x :: st) S o
def zk_astore_nS (X : zX) : Prop := ∀ (d : Nat) (M : zM) (pc : Nat) (lv : zL) (st : List Value) (S : zS) (o : zO) (j : Fin 4) (x : Nat), decode M.2.1 pc = .ok (.astore_n j, 1) → ((j : Nat) < M.2.2.1) → (X d M (pc + 1) (((j : Nat), Value.retAddr x) :: z_k1 ((j : Nat)) lv) (st) S o) → X d M pc lv (.retAddr x :: st) S o
def zk_astoreS (X : zX) : Prop := ∀ (d : Nat) (M : zM) (pc : Nat) (lv : zL) (st : List Value) (S : zS) (o : zO) (i : Nat) (x : Nat), decode M.2.1 pc = .ok (.astore i, 2) → (i < M.2.2.1) → (X d M (pc + 2) ((i, Value.retAddr x) :: z_k1 (i) lv) (st) S o) → X d M pc lv (.retAddr x :: st) S o
def zk_astore_nN (X : zX) : Prop := ∀ (d : Nat) (M : zM) (pc : Nat) (lv : zL) (st : List Value) (S : zS) (o : zO) (j : Fin 4), decode M.2.1 pc = .ok (.astore_n j, 1) → ((j : Nat) < M.2.2.1) → (X d M (pc + 1) (((j : Nat), Value.null) :: z_k1 ((j : Nat)) lv) (st) S o) → X d M pc lv (.null :: st) S o
def zk_astoreN (X : zX) : Prop := ∀ (d : Nat) (M : zM) (pc : Nat) (lv : zL) (st : List Value) (S : zS) (o : zO) (i : Nat), decode M.2.1 pc = .ok (.astore i, 2) → (i < M.2.2.1) → (X d M (pc + 2) ((i, Value.null) :: z_k1 (i) lv) (st) S o) → X d M pc lv (.null :: st) S o
def zk_iinc (X : zX) : Prop := ∀ (d : Nat) (M : zM) (pc : Nat) (lv : zL) (st : List Value) (S : zS) (o : zO) (i : Nat) (n : Int) (x : Int32), decode M.2.1 pc = .ok (.iinc i n, 3) → ((i, Value.int x) ∈ lv) → (i < M.2.2.1) → (X d M (pc + 3) ((i, Value.int (x + Int32.ofInt n)) :: z_k1 i lv) (st) S o) → X d M pc lv (st) S o
def zk_iadd (X : zX) : Prop := ∀ (d : Nat) (M : zM) (pc : Nat) (lv : zL) (st : List Value) (S : zS) (o : zO) (x y : Int32), decode M.2.1 pc = .ok (.iadd, 1) → (X d M (pc + 1) lv (.int (x + y) :: st) S o) → X d M pc lv (.int y :: .int x :: st) S o
def zk_isub (X : zX) : Prop := ∀ (d : Nat) (M : zM) (pc : Nat) (lv : zL) (st : List Value) (S : zS) (o : zO) (x y : Int32), decode M.2.1 pc = .ok (.isub, 1) → (X d M (pc + 1) lv (.int (x - y) :: st) S o) → X d M pc lv (.int y :: .int x :: st) S o
def zk_imul (X : zX) : Prop := ∀ (d : Nat) (M : zM) (pc : Nat) (lv : zL) (st : List Value) (S : zS) (o : zO) (x y : Int32), decode M.2.1 pc = .ok (.imul, 1) → (X d M (pc + 1) lv (.int (x * y) :: st) S o) → X d M pc lv (.int y :: .int x :: st) S o
def zk_iand (X : zX) : Prop := ∀ (d : Nat) (M : zM) (pc : Nat) (lv : zL) (st : List Value) (S : zS) (o : zO) (x y : Int32), decode M.2.1 pc = .ok (.iand, 1) → (X d M (pc + 1) lv (.int (x &&& y) :: st) S o) → X d M pc lv (.int y :: .int x :: st) S o
def zk_ior (X : zX) : Prop := ∀ (d : Nat) (M : zM) (pc : Nat) (lv : zL) (st : List Value) (S : zS) (o : zO) (x y : Int32), decode M.2.1 pc = .ok (.ior, 1) → (X d M (pc + 1) lv (.int (x ||| y) :: st) S o) → X d M pc lv (.int y :: .int x :: st) S o
def zk_ixor (X : zX) : Prop := ∀ (d : Nat) (M : zM) (pc : Nat) (lv : zL) (st : List Value) (S : zS) (o : zO) (x y : Int32), decode M.2.1 pc = .ok (.ixor, 1) → (X d M (pc + 1) lv (.int (x ^^^ y) :: st) S o) → X d M pc lv (.int y :: .int x :: st) S o
def zk_ishl (X : zX) : Prop := ∀ (d : Nat) (M : zM) (pc : Nat) (lv : zL) (st : List Value) (S : zS) (o : zO) (x y : Int32), decode M.2.1 pc = .ok (.ishl, 1) → (X d M (pc + 1) lv (.int (x <<< (y &&& 31)) :: st) S o) → X d M pc lv (.int y :: .int x :: st) S o
def zk_ishr (X : zX) : Prop := ∀ (d : Nat) (M : zM) (pc : Nat) (lv : zL) (st : List Value) (S : zS) (o : zO) (x y : Int32), decode M.2.1 pc = .ok (.ishr, 1) → (X d M (pc + 1) lv (.int (x >>> (y &&& 31)) :: st) S o) → X d M pc lv (.int y :: .int x :: st) S o
def zk_idiv (X : zX) : Prop := ∀ (d : Nat) (M : zM) (pc : Nat) (lv : zL) (st : List Value) (S : zS) (o : zO) (x y : Int32), decode M.2.1 pc = .ok (.idiv, 1) → (¬ y = 0) → (X d M (pc + 1) lv (.int (x / y) :: st) S o) → X d M pc lv (.int y :: .int x :: st) S o
def zk_irem (X : zX) : Prop := ∀ (d : Nat) (M : zM) (pc : Nat) (lv : zL) (st : List Value) (S : zS) (o : zO) (x y : Int32), decode M.2.1 pc = .ok (.irem, 1) → (¬ y = 0) → (X d M (pc + 1) lv (.int (x - x / y * y) :: st) S o) → X d M pc lv (.int y :: .int x :: st) S o
def zk_ladd (X : zX) : Prop := ∀ (d : Nat) (M : zM) (pc : Nat) (lv : zL) (st : List Value) (S : zS) (o : zO) (x y : Int64), decode M.2.1 pc = .ok (.ladd, 1) → (X d M (pc + 1) lv (.long (x + y) :: st) S o) → X d M pc lv (.long y :: .long x :: st) S o
def zk_lsub (X : zX) : Prop := ∀ (d : Nat) (M : zM) (pc : Nat) (lv : zL) (st : List Value) (S : zS) (o : zO) (x y : Int64), decode M.2.1 pc = .ok (.lsub, 1) → (X d M (pc + 1) lv (.long (x - y) :: st) S o) → X d M pc lv (.long y :: .long x :: st) S o
def zk_lmul (X : zX) : Prop := ∀ (d : Nat) (M : zM) (pc : Nat) (lv : zL) (st : List Value) (S : zS) (o : zO) (x y : Int64), decode M.2.1 pc = .ok (.lmul, 1) → (X d M (pc + 1) lv (.long (x * y) :: st) S o) → X d M pc lv (.long y :: .long x :: st) S o
def zk_land (X : zX) : Prop := ∀ (d : Nat) (M : zM) (pc : Nat) (lv : zL) (st : List Value) (S : zS) (o : zO) (x y : Int64), decode M.2.1 pc = .ok (.land, 1) → (X d M (pc + 1) lv (.long (x &&& y) :: st) S o) → X d M pc lv (.long y :: .long x :: st) S o
def zk_lor (X : zX) : Prop := ∀ (d : Nat) (M : zM) (pc : Nat) (lv : zL) (st : List Value) (S : zS) (o : zO) (x y : Int64), decode M.2.1 pc = .ok (.lor, 1) → (X d M (pc + 1) lv (.long (x ||| y) :: st) S o) → X d M pc lv (.long y :: .long x :: st) S o
def zk_lxor (X : zX) : Prop := ∀ (d : Nat) (M : zM) (pc : Nat) (lv : zL) (st : List Value) (S : zS) (o : zO) (x y : Int64), decode M.2.1 pc = .ok (.lxor, 1) → (X d M (pc + 1) lv (.long (x ^^^ y) :: st) S o) → X d M pc lv (.long y :: .long x :: st) S o
def zk_ineg (X : zX) : Prop := ∀ (d : Nat) (M : zM) (pc : Nat) (lv : zL) (st : List Value) (S : zS) (o : zO) (x : Int32), decode M.2.1 pc = .ok (.ineg, 1) → (X d M (pc + 1) lv (.int (-x) :: st) S o) → X d M pc lv (.int x :: st) S o
def zk_iushr (X : zX) : Prop := ∀ (d : Nat) (M : zM) (pc : Nat) (lv : zL) (st : List Value) (S : zS) (o : zO) (x y : Int32), decode M.2.1 pc = .ok (.iushr, 1) → (X d M (pc + 1) lv (.int (x.toUInt32 >>> (y.toUInt32 &&& Int32.toUInt32 31)).toInt32 :: st) S o) → X d M pc lv (.int y :: .int x :: st) S o
def zk_lushr (X : zX) : Prop := ∀ (d : Nat) (M : zM) (pc : Nat) (lv : zL) (st : List Value) (S : zS) (o : zO) (x : Int64) (y : Int32), decode M.2.1 pc = .ok (.lushr, 1) → (X d M (pc + 1) lv (.long (x.toUInt64 >>> (y.toInt64.toUInt64 &&& Int64.toUInt64 63)).toInt64 :: st) S o) → X d M pc lv (.int y :: .long x :: st) S o
def zk_lshl (X : zX) : Prop := ∀ (d : Nat) (M : zM) (pc : Nat) (lv : zL) (st : List Value) (S : zS) (o : zO) (x : Int64) (y : Int32), decode M.2.1 pc = .ok (.lshl, 1) → (X d M (pc + 1) lv (.long (x <<< (y.toInt64 &&& 63)) :: st) S o) → X d M pc lv (.int y :: .long x :: st) S o
def zk_lshr (X : zX) : Prop := ∀ (d : Nat) (M : zM) (pc : Nat) (lv : zL) (st : List Value) (S : zS) (o : zO) (x : Int64) (y : Int32), decode M.2.1 pc = .ok (.lshr, 1) → (X d M (pc + 1) lv (.long (x >>> (y.toInt64 &&& 63)) :: st) S o) → X d M pc lv (.int y :: .long x :: st) S o
def zk_i2l (X : zX) : Prop := ∀ (d : Nat) (M : zM) (pc : Nat) (lv : zL) (st : List Value) (S : zS) (o : zO) (x : Int32), decode M.2.1 pc = .ok (.i2l, 1) → (X d M (pc + 1) lv (.long x.toInt64 :: st) S o) → X d M pc lv (.int x :: st) S o
def zk_l2i (X : zX) : Prop := ∀ (d : Nat) (M : zM) (pc : Nat) (lv : zL) (st : List Value) (S : zS) (o : zO) (x : Int64), decode M.2.1 pc = .ok (.l2i, 1) → (X d M (pc + 1) lv (.int x.toInt32 :: st) S o) → X d M pc lv (.long x :: st) S o
def zk_i2b (X : zX) : Prop := ∀ (d : Nat) (M : zM) (pc : Nat) (lv : zL) (st : List Value) (S : zS) (o : zO) (x : Int32), decode M.2.1 pc = .ok (.i2b, 1) → (X d M (pc + 1) lv (.int x.toInt8.toInt32 :: st) S o) → X d M pc lv (.int x :: st) S o
def zk_i2c (X : zX) : Prop := ∀ (d : Nat) (M : zM) (pc : Nat) (lv : zL) (st : List Value) (S : zS) (o : zO) (x : Int32), decode M.2.1 pc = .ok (.i2c, 1) → (X d M (pc + 1) lv (.int (x.toUInt32 % 65536).toInt32 :: st) S o) → X d M pc lv (.int x :: st) S o
def zk_dup (X : zX) : Prop := ∀ (d : Nat) (M : zM) (pc : Nat) (lv : zL) (st : List Value) (S : zS) (o : zO) (v : Value), decode M.2.1 pc = .ok (.dup, 1) → (v.category = 1) → (X d M (pc + 1) lv (v :: v :: st) S o) → X d M pc lv (v :: st) S o
def zk_pop (X : zX) : Prop := ∀ (d : Nat) (M : zM) (pc : Nat) (lv : zL) (st : List Value) (S : zS) (o : zO) (v : Value), decode M.2.1 pc = .ok (.pop, 1) → (v.category = 1) → (X d M (pc + 1) lv (st) S o) → X d M pc lv (v :: st) S o
def zk_dup2 (X : zX) : Prop := ∀ (d : Nat) (M : zM) (pc : Nat) (lv : zL) (st : List Value) (S : zS) (o : zO) (v u : Value), decode M.2.1 pc = .ok (.dup2, 1) → (v.category = 1) → (u.category = 1) → (X d M (pc + 1) lv (v :: u :: v :: u :: st) S o) → X d M pc lv (v :: u :: st) S o
def zk_if_eq (X : zX) : Prop := ∀ (d : Nat) (M : zM) (pc : Nat) (lv : zL) (st : List Value) (S : zS) (o : zO) (x : Int32) (off : Int) (tgt : Nat), decode M.2.1 pc = .ok (.ifCond .eq off, 3) → ((pc : Int) + off = (tgt : Int)) → ((x = 0) → X d M (tgt) lv (st) S o) → ((¬ x = 0) → X d M (pc + 3) lv (st) S o) → X d M pc lv (.int x :: st) S o
def zk_icmp_eq (X : zX) : Prop := ∀ (d : Nat) (M : zM) (pc : Nat) (lv : zL) (st : List Value) (S : zS) (o : zO) (x y : Int32) (off : Int) (tgt : Nat), decode M.2.1 pc = .ok (.if_icmp .eq off, 3) → ((pc : Int) + off = (tgt : Int)) → ((x = y) → X d M (tgt) lv (st) S o) → ((¬ x = y) → X d M (pc + 3) lv (st) S o) → X d M pc lv (.int y :: .int x :: st) S o
def zk_if_ne (X : zX) : Prop := ∀ (d : Nat) (M : zM) (pc : Nat) (lv : zL) (st : List Value) (S : zS) (o : zO) (x : Int32) (off : Int) (tgt : Nat), decode M.2.1 pc = .ok (.ifCond .ne off, 3) → ((pc : Int) + off = (tgt : Int)) → ((¬ x = 0) → X d M (tgt) lv (st) S o) → ((x = 0) → X d M (pc + 3) lv (st) S o) → X d M pc lv (.int x :: st) S o
def zk_icmp_ne (X : zX) : Prop := ∀ (d : Nat) (M : zM) (pc : Nat) (lv : zL) (st : List Value) (S : zS) (o : zO) (x y : Int32) (off : Int) (tgt : Nat), decode M.2.1 pc = .ok (.if_icmp .ne off, 3) → ((pc : Int) + off = (tgt : Int)) → ((¬ x = y) → X d M (tgt) lv (st) S o) → ((x = y) → X d M (pc + 3) lv (st) S o) → X d M pc lv (.int y :: .int x :: st) S o
def zk_if_lt (X : zX) : Prop := ∀ (d : Nat) (M : zM) (pc : Nat) (lv : zL) (st : List Value) (S : zS) (o : zO) (x : Int32) (off : Int) (tgt : Nat), decode M.2.1 pc = .ok (.ifCond .lt off, 3) → ((pc : Int) + off = (tgt : Int)) → ((x < 0) → X d M (tgt) lv (st) S o) → ((¬ x < 0) → X d M (pc + 3) lv (st) S o) → X d M pc lv (.int x :: st) S o
def zk_icmp_lt (X : zX) : Prop := ∀ (d : Nat) (M : zM) (pc : Nat) (lv : zL) (st : List Value) (S : zS) (o : zO) (x y : Int32) (off : Int) (tgt : Nat), decode M.2.1 pc = .ok (.if_icmp .lt off, 3) → ((pc : Int) + off = (tgt : Int)) → ((x < y) → X d M (tgt) lv (st) S o) → ((¬ x < y) → X d M (pc + 3) lv (st) S o) → X d M pc lv (.int y :: .int x :: st) S o
def zk_if_ge (X : zX) : Prop := ∀ (d : Nat) (M : zM) (pc : Nat) (lv : zL) (st : List Value) (S : zS) (o : zO) (x : Int32) (off : Int) (tgt : Nat), decode M.2.1 pc = .ok (.ifCond .ge off, 3) → ((pc : Int) + off = (tgt : Int)) → ((0 ≤ x) → X d M (tgt) lv (st) S o) → ((¬ 0 ≤ x) → X d M (pc + 3) lv (st) S o) → X d M pc lv (.int x :: st) S o
def zk_icmp_ge (X : zX) : Prop := ∀ (d : Nat) (M : zM) (pc : Nat) (lv : zL) (st : List Value) (S : zS) (o : zO) (x y : Int32) (off : Int) (tgt : Nat), decode M.2.1 pc = .ok (.if_icmp .ge off, 3) → ((pc : Int) + off = (tgt : Int)) → ((y ≤ x) → X d M (tgt) lv (st) S o) → ((¬ y ≤ x) → X d M (pc + 3) lv (st) S o) → X d M pc lv (.int y :: .int x :: st) S o
def zk_if_gt (X : zX) : Prop := ∀ (d : Nat) (M : zM) (pc : Nat) (lv : zL) (st : List Value) (S : zS) (o : zO) (x : Int32) (off : Int) (tgt : Nat), decode M.2.1 pc = .ok (.ifCond .gt off, 3) → ((pc : Int) + off = (tgt : Int)) → ((0 < x) → X d M (tgt) lv (st) S o) → ((¬ 0 < x) → X d M (pc + 3) lv (st) S o) → X d M pc lv (.int x :: st) S o
def zk_icmp_gt (X : zX) : Prop := ∀ (d : Nat) (M : zM) (pc : Nat) (lv : zL) (st : List Value) (S : zS) (o : zO) (x y : Int32) (off : Int) (tgt : Nat), decode M.2.1 pc = .ok (.if_icmp .gt off, 3) → ((pc : Int) + off = (tgt : Int)) → ((y < x) → X d M (tgt) lv (st) S o) → ((¬ y < x) → X d M (pc + 3) lv (st) S o) → X d M pc lv (.int y :: .int x :: st) S o
def zk_if_le (X : zX) : Prop := ∀ (d : Nat) (M : zM) (pc : Nat) (lv : zL) (st : List Value) (S : zS) (o : zO) (x : Int32) (off : Int) (tgt : Nat), decode M.2.1 pc = .ok (.ifCond .le off, 3) → ((pc : Int) + off = (tgt : Int)) → ((x ≤ 0) → X d M (tgt) lv (st) S o) → ((¬ x ≤ 0) → X d M (pc + 3) lv (st) S o) → X d M pc lv (.int x :: st) S o
def zk_icmp_le (X : zX) : Prop := ∀ (d : Nat) (M : zM) (pc : Nat) (lv : zL) (st : List Value) (S : zS) (o : zO) (x y : Int32) (off : Int) (tgt : Nat), decode M.2.1 pc = .ok (.if_icmp .le off, 3) → ((pc : Int) + off = (tgt : Int)) → ((x ≤ y) → X d M (tgt) lv (st) S o) → ((¬ x ≤ y) → X d M (pc + 3) lv (st) S o) → X d M pc lv (.int y :: .int x :: st) S o
def zk_goto (X : zX) : Prop := ∀ (d : Nat) (M : zM) (pc : Nat) (lv : zL) (st : List Value) (S : zS) (o : zO) (off : Int) (tgt : Nat), decode M.2.1 pc = .ok (.goto off, 3) → ((pc : Int) + off = (tgt : Int)) → (X d M (tgt) lv (st) S o) → X d M pc lv (st) S o
def zk_ifnull (X : zX) : Prop := ∀ (d : Nat) (M : zM) (pc : Nat) (lv : zL) (st : List Value) (S : zS) (o : zO) (x : Nat) (off : Int), decode M.2.1 pc = .ok (.ifnull off, 3) → (X d M (pc + 3) lv (st) S o) → X d M pc lv (.ref x :: st) S o
def zk_ifnullN (X : zX) : Prop := ∀ (d : Nat) (M : zM) (pc : Nat) (lv : zL) (st : List Value) (S : zS) (o : zO) (off : Int) (tgt : Nat), decode M.2.1 pc = .ok (.ifnull off, 3) → ((pc : Int) + off = (tgt : Int)) → (X d M (tgt) lv (st) S o) → X d M pc lv (.null :: st) S o
def zk_ifnonnull (X : zX) : Prop := ∀ (d : Nat) (M : zM) (pc : Nat) (lv : zL) (st : List Value) (S : zS) (o : zO) (x : Nat) (off : Int) (tgt : Nat), decode M.2.1 pc = .ok (.ifnonnull off, 3) → ((pc : Int) + off = (tgt : Int)) → (X d M (tgt) lv (st) S o) → X d M pc lv (.ref x :: st) S o
def zk_ifnonnullN (X : zX) : Prop := ∀ (d : Nat) (M : zM) (pc : Nat) (lv : zL) (st : List Value) (S : zS) (o : zO) (off : Int), decode M.2.1 pc = .ok (.ifnonnull off, 3) → (X d M (pc + 3) lv (st) S o) → X d M pc lv (.null :: st) S o
def zk_lookup (X : zX) : Prop := ∀ (d : Nat) (M : zM) (pc : Nat) (lv : zL) (st : List Value) (S : zS) (o : zO) (x : Int32) (dflt off : Int) (ps : Array (Int × Int)) (len tgt : Nat), decode M.2.1 pc = .ok (.lookupswitch dflt ps, len) → ((ps.toList.zip (ps.toList.drop 1)).all (fun (a, next) => a.1 < next.1) = true) → (Op.lookupswitch.offset ps.toList dflt x.toInt = off) → ((pc : Int) + off = (tgt : Int)) → (X d M (tgt) lv (st) S o) → X d M pc lv (.int x :: st) S o
def zk_tableIn (X : zX) : Prop := ∀ (d : Nat) (M : zM) (pc : Nat) (lv : zL) (st : List Value) (S : zS) (o : zO) (x : Int32) (dflt lo hi off : Int) (offs : Array Int) (len tgt : Nat), decode M.2.1 pc = .ok (.tableswitch dflt lo hi offs, len) → (¬ x.toInt < lo) → (¬ hi < x.toInt) → (offs[(x.toInt - lo).toNat]? = some off) → ((pc : Int) + off = (tgt : Int)) → (X d M (tgt) lv (st) S o) → X d M pc lv (.int x :: st) S o
def zk_tableOut (X : zX) : Prop := ∀ (d : Nat) (M : zM) (pc : Nat) (lv : zL) (st : List Value) (S : zS) (o : zO) (x : Int32) (dflt lo hi : Int) (offs : Array Int) (len tgt : Nat), decode M.2.1 pc = .ok (.tableswitch dflt lo hi offs, len) → (x.toInt < lo ∨ hi < x.toInt) → ((pc : Int) + dflt = (tgt : Int)) → (X d M (tgt) lv (st) S o) → X d M pc lv (.int x :: st) S o
def zk_getf (X : zX) : Prop := ∀ (d : Nat) (M : zM) (pc : Nat) (lv : zL) (st : List Value) (S : zS) (o : zO) (idx i ci j : Nat) (ty : FieldType) (fin : Bool) (fs : List Value) (v : Value), decode M.2.1 pc = .ok (.getfield idx, 3) → (z_fOK M.1.cls idx ci j ty fin) → (S.2.2 i = .inr (ci, fs)) → (fs[j]? = some v) → (X d M (pc + 3) lv (v :: st) S o) → X d M pc lv (.ref i :: st) S o
def zk_putf (X : zX) : Prop := ∀ (d : Nat) (M : zM) (pc : Nat) (lv : zL) (st : List Value) (S : zS) (o : zO) (idx i ci j : Nat) (ty : FieldType) (fs : List Value) (v : Value), decode M.2.1 pc = .ok (.putfield idx, 3) → (z_fOK M.1.cls idx ci j ty false) → (S.2.2 i = .inr (ci, fs)) → (j < fs.length) → (narrow ty v = v ∧ fits ty v = true) → (X d M (pc + 3) lv (st) (z_put S i (.inr (ci, fs.set j v))) o) → X d M pc lv (v :: .ref i :: st) S o
def zk_putF (X : zX) : Prop := ∀ (d : Nat) (M : zM) (pc : Nat) (lv : zL) (st : List Value) (S : zS) (o : zO) (idx i ci j : Nat) (ty : FieldType) (fs : List Value) (v : Value), decode M.2.1 pc = .ok (.putfield idx, 3) → (z_fO1 M.1.cls idx ci j ty) → (S.2.2 i = .inr (ci, fs)) → (j < fs.length) → (narrow ty v = v ∧ fits ty v = true) → (M.1.name = "<init>") → (X d M (pc + 3) lv (st) (z_put S i (.inr (ci, fs.set j v))) o) → X d M pc lv (v :: .ref i :: st) S o
def zk_bald (X : zX) : Prop := ∀ (d : Nat) (M : zM) (pc : Nat) (lv : zL) (st : List Value) (S : zS) (o : zO) (i n : Nat) (x : Int32) (g : Nat → Int32), decode M.2.1 pc = .ok (.baload, 1) → (S.2.2 i = .inl (.byte, n, .inl g)) → (vp_in x n) → (X d M (pc + 1) lv (.int (g x.toNatClampNeg) :: st) S o) → X d M pc lv (.int x :: .ref i :: st) S o
def zk_zald (X : zX) : Prop := ∀ (d : Nat) (M : zM) (pc : Nat) (lv : zL) (st : List Value) (S : zS) (o : zO) (i n : Nat) (x : Int32) (g : Nat → Int32), decode M.2.1 pc = .ok (.baload, 1) → (S.2.2 i = .inl (.boolean, n, .inl g)) → (vp_in x n) → (X d M (pc + 1) lv (.int (g x.toNatClampNeg) :: st) S o) → X d M pc lv (.int x :: .ref i :: st) S o
def zk_iald (X : zX) : Prop := ∀ (d : Nat) (M : zM) (pc : Nat) (lv : zL) (st : List Value) (S : zS) (o : zO) (i n : Nat) (x : Int32) (g : Nat → Int32), decode M.2.1 pc = .ok (.iaload, 1) → (S.2.2 i = .inl (.int, n, .inl g)) → (vp_in x n) → (X d M (pc + 1) lv (.int (g x.toNatClampNeg) :: st) S o) → X d M pc lv (.int x :: .ref i :: st) S o
def zk_lald (X : zX) : Prop := ∀ (d : Nat) (M : zM) (pc : Nat) (lv : zL) (st : List Value) (S : zS) (o : zO) (i n : Nat) (x : Int32) (g : Nat → Int64), decode M.2.1 pc = .ok (.laload, 1) → (S.2.2 i = .inl (.long, n, .inr (.inl g))) → (vp_in x n) → (X d M (pc + 1) lv (.long (g x.toNatClampNeg) :: st) S o) → X d M pc lv (.int x :: .ref i :: st) S o
def zk_aald (X : zX) : Prop := ∀ (d : Nat) (M : zM) (pc : Nat) (lv : zL) (st : List Value) (S : zS) (o : zO) (i n : Nat) (x : Int32) (ty : FieldType) (g : Nat → Option Nat), decode M.2.1 pc = .ok (.aaload, 1) → (S.2.2 i = .inl (ty, n, .inr (.inr (.inr (.inr g))))) → (vp_in x n) → (ty.isReference = true) → (X d M (pc + 1) lv (va_rf (g x.toNatClampNeg) :: st) S o) → X d M pc lv (.int x :: .ref i :: st) S o
def zk_bast (X : zX) : Prop := ∀ (d : Nat) (M : zM) (pc : Nat) (lv : zL) (st : List Value) (S : zS) (o : zO) (i n : Nat) (x : Int32) (g : Nat → Int32) (y : Int32), decode M.2.1 pc = .ok (.bastore, 1) → (S.2.2 i = .inl (.byte, n, .inl g)) → (vp_in x n) → (X d M (pc + 1) lv (st) (z_put S i (.inl (.byte, n, .inl (upd g x.toNatClampNeg (vp_nar .byte y))))) o) → X d M pc lv (.int y :: .int x :: .ref i :: st) S o
def zk_zast (X : zX) : Prop := ∀ (d : Nat) (M : zM) (pc : Nat) (lv : zL) (st : List Value) (S : zS) (o : zO) (i n : Nat) (x : Int32) (g : Nat → Int32) (y : Int32), decode M.2.1 pc = .ok (.bastore, 1) → (S.2.2 i = .inl (.boolean, n, .inl g)) → (vp_in x n) → (X d M (pc + 1) lv (st) (z_put S i (.inl (.boolean, n, .inl (upd g x.toNatClampNeg (vp_nar .boolean y))))) o) → X d M pc lv (.int y :: .int x :: .ref i :: st) S o
def zk_iast (X : zX) : Prop := ∀ (d : Nat) (M : zM) (pc : Nat) (lv : zL) (st : List Value) (S : zS) (o : zO) (i n : Nat) (x : Int32) (g : Nat → Int32) (y : Int32), decode M.2.1 pc = .ok (.iastore, 1) → (S.2.2 i = .inl (.int, n, .inl g)) → (vp_in x n) → (X d M (pc + 1) lv (st) (z_put S i (.inl (.int, n, .inl (upd g x.toNatClampNeg y)))) o) → X d M pc lv (.int y :: .int x :: .ref i :: st) S o
def zk_last (X : zX) : Prop := ∀ (d : Nat) (M : zM) (pc : Nat) (lv : zL) (st : List Value) (S : zS) (o : zO) (i n : Nat) (x : Int32) (g : Nat → Int64) (y : Int64), decode M.2.1 pc = .ok (.lastore, 1) → (S.2.2 i = .inl (.long, n, .inr (.inl g))) → (vp_in x n) → (X d M (pc + 1) lv (st) (z_put S i (.inl (.long, n, .inr (.inl (vp_updL g x.toNatClampNeg y))))) o) → X d M pc lv (.long y :: .int x :: .ref i :: st) S o
def zk_aast (X : zX) : Prop := ∀ (d : Nat) (M : zM) (pc : Nat) (lv : zL) (st : List Value) (S : zS) (o : zO) (i n j ci : Nat) (x : Int32) (r : vw_C) (g : Nat → Option Nat) (vs : List Value), decode M.2.1 pc = .ok (.aastore, 1) → (S.2.2 i = .inl (.object r.1, n, .inr (.inr (.inr (.inr g))))) → (vp_in x n) → (S.2.2 j = .inr (ci, vs)) → (vwCl[ci]? = some r) → (X d M (pc + 1) lv (st) (z_put S i (.inl (.object r.1, n, .inr (.inr (.inr (.inr (va_up g x.toNatClampNeg (some j)))))))) o) → X d M pc lv (.ref j :: .int x :: .ref i :: st) S o
def zk_alen (X : zX) : Prop := ∀ (d : Nat) (M : zM) (pc : Nat) (lv : zL) (st : List Value) (S : zS) (o : zO) (i : Nat) (ty : FieldType) (a : vp_A), decode M.2.1 pc = .ok (.arraylength, 1) → (S.2.2 i = .inl (ty, a)) → (X d M (pc + 1) lv (.int (Int32.ofNat a.1) :: st) S o) → X d M pc lv (.ref i :: st) S o
def zk_new (X : zX) : Prop := ∀ (d : Nat) (M : zM) (pc : Nat) (lv : zL) (st : List Value) (S : zS) (o : zO) (idx ci n : Nat) (fs : List Value), decode M.2.1 pc = .ok (.new idx, 3) → (z_nOK M.1.cls idx ci n fs) → (X d M (pc + 3) lv (.ref S.1 :: st) (z_new S (.inr (ci, fs)) n) o) → X d M pc lv (st) S o
def zk_newi (X : zX) : Prop := ∀ (d : Nat) (M : zM) (pc : Nat) (lv : zL) (st : List Value) (S : zS) (o : zO) (n : Int32) (N : Nat), decode M.2.1 pc = .ok (.newarray .int, 2) → (¬ n < 0) → (n.toNatClampNeg = N) → (N * componentBytes .int ≤ 536870912) → (Cond.arrayClass .int ∈ z_tb) → (X d M (pc + 2) lv (.ref S.1 :: st) (z_new S (.inl (.int, N, .inl (fun _ => 0))) N) o) → X d M pc lv (.int n :: st) S o
def zk_newb (X : zX) : Prop := ∀ (d : Nat) (M : zM) (pc : Nat) (lv : zL) (st : List Value) (S : zS) (o : zO) (n : Int32) (N : Nat), decode M.2.1 pc = .ok (.newarray .byte, 2) → (¬ n < 0) → (n.toNatClampNeg = N) → (N * componentBytes .byte ≤ 536870912) → (Cond.arrayClass .byte ∈ z_tb) → (X d M (pc + 2) lv (.ref S.1 :: st) (z_new S (.inl (.byte, N, .inl (fun _ => 0))) N) o) → X d M pc lv (.int n :: st) S o
def zk_newz (X : zX) : Prop := ∀ (d : Nat) (M : zM) (pc : Nat) (lv : zL) (st : List Value) (S : zS) (o : zO) (n : Int32) (N : Nat), decode M.2.1 pc = .ok (.newarray .boolean, 2) → (¬ n < 0) → (n.toNatClampNeg = N) → (N * componentBytes .boolean ≤ 536870912) → (Cond.arrayClass .boolean ∈ z_tb) → (X d M (pc + 2) lv (.ref S.1 :: st) (z_new S (.inl (.boolean, N, .inl (fun _ => 0))) N) o) → X d M pc lv (.int n :: st) S o
def zk_newl (X : zX) : Prop := ∀ (d : Nat) (M : zM) (pc : Nat) (lv : zL) (st : List Value) (S : zS) (o : zO) (n : Int32) (N : Nat), decode M.2.1 pc = .ok (.newarray .long, 2) → (¬ n < 0) → (n.toNatClampNeg = N) → (N * componentBytes .long ≤ 536870912) → (Cond.arrayClass .long ∈ z_tb) → (X d M (pc + 2) lv (.ref S.1 :: st) (z_new S (.inl (.long, N, .inr (.inl (fun _ => 0)))) N) o) → X d M pc lv (.int n :: st) S o
def zk_ldc (X : zX) : Prop := ∀ (d : Nat) (M : zM) (pc : Nat) (lv : zL) (st : List Value) (S : zS) (o : zO) (idx : Nat) (v : Int32), decode M.2.1 pc = .ok (.ldc idx, 2) → (Cond.constant M.1.cls idx v ∈ z_tb) → (X d M (pc + 2) lv (.int v :: st) S o) → X d M pc lv (st) S o
def zk_ldcw (X : zX) : Prop := ∀ (d : Nat) (M : zM) (pc : Nat) (lv : zL) (st : List Value) (S : zS) (o : zO) (idx : Nat) (v : Int32), decode M.2.1 pc = .ok (.ldc_w idx, 3) → (Cond.constant M.1.cls idx v ∈ z_tb) → (X d M (pc + 3) lv (.int v :: st) S o) → X d M pc lv (st) S o
def zk_ldc2 (X : zX) : Prop := ∀ (d : Nat) (M : zM) (pc : Nat) (lv : zL) (st : List Value) (S : zS) (o : zO) (idx : Nat) (v : Int64), decode M.2.1 pc = .ok (.ldc2_w idx, 3) → (Cond.constantLong M.1.cls idx v ∈ z_tb) → (X d M (pc + 3) lv (.long v :: st) S o) → X d M pc lv (st) S o
def zk_lcmp (X : zX) : Prop := ∀ (d : Nat) (M : zM) (pc : Nat) (lv : zL) (st : List Value) (S : zS) (o : zO) (x y : Int64), decode M.2.1 pc = .ok (.lcmp, 1) → (X d M (pc + 1) lv (.int (lg_cmp x y) :: st) S o) → X d M pc lv (.long y :: .long x :: st) S o
def zk_dup_x1 (X : zX) : Prop := ∀ (d : Nat) (M : zM) (pc : Nat) (lv : zL) (st : List Value) (S : zS) (o : zO) (v u : Value), decode M.2.1 pc = .ok (.dup_x1, 1) → (v.category = 1) → (u.category = 1) → (X d M (pc + 1) lv (v :: u :: v :: st) S o) → X d M pc lv (v :: u :: st) S o
def zk_objInit (X : zX) : Prop := ∀ (d : Nat) (M : zM) (pc : Nat) (lv : zL) (st : List Value) (S : zS) (o : zO) (idx i : Nat), decode M.2.1 pc = .ok (.invokespecial idx, 3) → (Cond.methodLink M.1.cls idx Lib.objectInit ∈ z_tb) → ((st.map Value.category).sum ≤ 8) → (X (d + 1) M (pc + 3) lv (st) S o) → X (d + 1) M pc lv (.ref i :: st) S o
def zk_mmax (X : zX) : Prop := ∀ (d : Nat) (M : zM) (pc : Nat) (lv : zL) (st : List Value) (S : zS) (o : zO) (idx : Nat) (x y : Int32), decode M.2.1 pc = .ok (.invokestatic idx, 3) → (Cond.methodLink M.1.cls idx Lib.Math.max.name ∈ z_tb) → ((st.map Value.category).sum ≤ 8) → (X (d + 1) M (pc + 3) lv (.int (if x < y then y else x) :: st) S o) → X (d + 1) M pc lv (.int y :: .int x :: st) S o
def zk_mmin (X : zX) : Prop := ∀ (d : Nat) (M : zM) (pc : Nat) (lv : zL) (st : List Value) (S : zS) (o : zO) (idx : Nat) (x y : Int32), decode M.2.1 pc = .ok (.invokestatic idx, 3) → (Cond.methodLink M.1.cls idx Lib.Math.min.name ∈ z_tb) → ((st.map Value.category).sum ≤ 8) → (X (d + 1) M (pc + 3) lv (.int (if y < x then y else x) :: st) S o) → X (d + 1) M pc lv (.int y :: .int x :: st) S o
def zk_cast (X : zX) : Prop := ∀ (d : Nat) (M : zM) (pc : Nat) (lv : zL) (st : List Value) (S : zS) (o : zO) (idx i ci n : Nat) (fs fs0 : List Value), decode M.2.1 pc = .ok (.checkcast idx, 3) → (z_nOK M.1.cls idx ci n fs0) → (S.2.2 i = .inr (ci, fs)) → (X d M (pc + 3) lv (.ref i :: st) S o) → X d M pc lv (.ref i :: st) S o
def zk_castN (X : zX) : Prop := ∀ (d : Nat) (M : zM) (pc : Nat) (lv : zL) (st : List Value) (S : zS) (o : zO) (idx : Nat), decode M.2.1 pc = .ok (.checkcast idx, 3) → (X d M (pc + 3) lv (.null :: st) S o) → X d M pc lv (.null :: st) S o
def zk_aastN (X : zX) : Prop := ∀ (d : Nat) (M : zM) (pc : Nat) (lv : zL) (st : List Value) (S : zS) (o : zO) (i n : Nat) (x : Int32) (C9 : String) (g : Nat → Option Nat), decode M.2.1 pc = .ok (.aastore, 1) → (S.2.2 i = .inl (.object C9, n, .inr (.inr (.inr (.inr g))))) → (vp_in x n) → (X d M (pc + 1) lv (st) (z_put S i (.inl (.object C9, n, .inr (.inr (.inr (.inr (va_up g x.toNatClampNeg none))))))) o) → X d M pc lv (.null :: .int x :: .ref i :: st) S o
def zk_anewq (X : zX) : Prop := ∀ (d : Nat) (M : zM) (pc : Nat) (lv : zL) (st : List Value) (S : zS) (o : zO) (idx : Nat) (C9 : String) (n : Int32) (N : Nat), decode M.2.1 pc = .ok (.anewarray idx, 3) → (Cond.classLink M.1.cls idx C9 ∈ z_tb ∧ Cond.arrayOver (.object C9) ∈ tables_1) → (¬ n < 0) → (n.toNatClampNeg = N) → (N * 4 ≤ 536870912) → (X d M (pc + 3) lv (.ref S.1 :: st) (z_new S (.inl (.object C9, N, .inr (.inr (.inr (.inr (fun _ => none)))))) N) o) → X d M pc lv (.int n :: st) S o
def zk_ldcS (X : zX) : Prop := ∀ (d : Nat) (M : zM) (pc : Nat) (lv : zL) (st : List Value) (S : zS) (o : zO) (idx k9 : Nat), decode M.2.1 pc = .ok (.ldc_w idx, 3) → (M.1.cls = "MacroReader" ∧ (z_sx[k9]?).map (fun q => q.1) = some idx) → (X d M (pc + 3) lv (.retAddr k9 :: st) S o) → X d M pc lv (st) S o
def zk_slen (X : zX) : Prop := ∀ (d : Nat) (M : zM) (pc : Nat) (lv : zL) (st : List Value) (S : zS) (o : zO) (idx k9 : Nat), decode M.2.1 pc = .ok (.invokevirtual idx, 3) → (Cond.methodLink M.1.cls idx yJ0_length_8abf5 ∈ z_tb) → (k9 < 7) → ((st.map Value.category).sum ≤ 8) → (X (d + 2) M (pc + 3) lv (.int (nI (z_sb k9).length) :: st) S o) → X (d + 2) M pc lv (.retAddr k9 :: st) S o
def zk_schar (X : zX) : Prop := ∀ (d : Nat) (M : zM) (pc : Nat) (lv : zL) (st : List Value) (S : zS) (o : zO) (idx k9 j : Nat), decode M.2.1 pc = .ok (.invokevirtual idx, 3) → (Cond.methodLink M.1.cls idx yJ0_charAt_5068e ∈ z_tb) → (k9 < 7) → (j < (z_sb k9).length) → ((st.map Value.category).sum ≤ 8) → (X (d + 5) M (pc + 3) lv (.int (nI ((z_sb k9).getD j 0)) :: st) S o) → X (d + 5) M pc lv (.int (nI j) :: .retAddr k9 :: st) S o
def zk_copyB (X : zX) : Prop := ∀ (d : Nat) (M : zM) (pc : Nat) (lv : zL) (st : List Value) (S : zS) (o : zO) (idx i n N : Nat) (g : Nat → Int32), decode M.2.1 pc = .ok (.invokestatic idx, 3) → (Cond.methodLink M.1.cls idx yJ7_copyOf_9075b ∈ z_tb) → (S.2.2 i = .inl (.byte, n, .inl g)) → (n < N ∧ N < 2 ^ 28) → ((st.map Value.category).sum ≤ 8) → (X (d + 3) M (pc + 3) lv (.ref S.1 :: st) (z_new S (.inl (.byte, N, .inl (va_cpy g (fun _ => 0) 0 0 n))) N) o) → X (d + 3) M pc lv (.int (nI N) :: .ref i :: st) S o
def zk_copyI (X : zX) : Prop := ∀ (d : Nat) (M : zM) (pc : Nat) (lv : zL) (st : List Value) (S : zS) (o : zO) (idx i n N : Nat) (g : Nat → Int32), decode M.2.1 pc = .ok (.invokestatic idx, 3) → (Cond.methodLink M.1.cls idx yJ7_copyOf_59c91 ∈ z_tb) → (S.2.2 i = .inl (.int, n, .inl g)) → (n < N ∧ N < 2 ^ 26) → ((st.map Value.category).sum ≤ 8) → (X (d + 3) M (pc + 3) lv (.ref S.1 :: st) (z_new S (.inl (.int, N, .inl (va_cpy g (fun _ => 0) 0 0 n))) N) o) → X (d + 3) M pc lv (.int (nI N) :: .ref i :: st) S o
def zk_cmpU (X : zX) : Prop := ∀ (d : Nat) (M : zM) (pc : Nat) (lv : zL) (st : List Value) (S : zS) (o : zO) (idx : Nat) (x y : Int64), decode M.2.1 pc = .ok (.invokestatic idx, 3) → (Cond.methodLink M.1.cls idx yJ13_compareUnsigned_74951 ∈ z_tb) → ((st.map Value.category).sum ≤ 8) → (X (d + 3) M (pc + 3) lv (.int (lg_cmp (x + (-9223372036854775808)) (y + (-9223372036854775808))) :: st) S o) → X (d + 3) M pc lv (.long y :: .long x :: st) S o
def zk_callS (X : zX) : Prop := ∀ (d : Nat) (M : zM) (pc : Nat) (lv : zL) (st : List Value) (S : zS) (o : zO) (idx n : Nat) (M1 : zM) (as st1 : List Value) (lv1 : zL) (S1 : zS) (pc1 : Nat) (r : Option Value), decode M.2.1 pc = .ok (.invokestatic idx, 3) → (z_mOK M.1.cls idx 2 n M1) → (as.length = n) → ((lg_sl as).length ≤ M1.2.2.1) → ((st.map Value.category).sum ≤ 8) → (z_rt M1 pc1 st1 r) → X d M1 0 (lv_args 0 as) [] S (pc1, lv1, st1, S1) → X (d + 1) M (pc + 3) lv (r.toList ++ st) S1 o → X (d + 1) M pc lv (as.reverse ++ st) S o
def zk_callSN (X : zX) : Prop := ∀ (d : Nat) (M : zM) (pc : Nat) (lv : zL) (st : List Value) (S : zS) (o : zO) (idx n : Nat) (M1 : zM) (as st1 : List Value) (lv1 : zL) (S1 : zS) (pc1 : Nat) (r : Option Value), decode M.2.1 pc = .ok (.invokestatic idx, 3) → (z_mOK M.1.cls idx 3 n M1) → (as.length = n) → ((lg_sl as).length ≤ M1.2.2.1) → ((st.map Value.category).sum ≤ 8) → (z_rt M1 pc1 st1 r) → X d M1 0 (lv_args 0 as) [] S (pc1, lv1, st1, S1) → X (d + 1) M (pc + 3) lv (r.toList ++ st) S1 o → X (d + 1) M pc lv (as.reverse ++ st) S o
def zk_callV (X : zX) : Prop := ∀ (d : Nat) (M : zM) (pc : Nat) (lv : zL) (st : List Value) (S : zS) (o : zO) (idx n : Nat) (M1 : zM) (as st1 : List Value) (lv1 : zL) (S1 : zS) (pc1 : Nat) (r : Option Value) (b ci : Nat) (fs : List Value), decode M.2.1 pc = .ok (.invokevirtual idx, 3) → (z_mOK M.1.cls idx 0 n M1) → (as.length = n) → ((lg_sl (.ref b :: as)).length ≤ M1.2.2.1) → ((st.map Value.category).sum ≤ 8) → (z_rt M1 pc1 st1 r) → (S.2.2 b = .inr (ci, fs)) → ((vwCl[ci]?).map (fun q => q.1) = some M1.1.cls) → X d M1 0 (lv_args 0 (.ref b :: as)) [] S (pc1, lv1, st1, S1) → X (d + 1) M (pc + 3) lv (r.toList ++ st) S1 o → X (d + 1) M pc lv (as.reverse ++ .ref b :: st) S o
def zk_callI (X : zX) : Prop := ∀ (d : Nat) (M : zM) (pc : Nat) (lv : zL) (st : List Value) (S : zS) (o : zO) (idx n : Nat) (M1 : zM) (as st1 : List Value) (lv1 : zL) (S1 : zS) (pc1 : Nat) (r : Option Value) (b : Nat), decode M.2.1 pc = .ok (.invokespecial idx, 3) → (z_mOK M.1.cls idx 4 n M1) → (as.length = n) → ((lg_sl (.ref b :: as)).length ≤ M1.2.2.1) → ((st.map Value.category).sum ≤ 8) → (z_rt M1 pc1 st1 r) → X d M1 0 (lv_args 0 (.ref b :: as)) [] S (pc1, lv1, st1, S1) → X (d + 1) M (pc + 3) lv (r.toList ++ st) S1 o → X (d + 1) M pc lv (as.reverse ++ .ref b :: st) S o
def zk_callIN (X : zX) : Prop := ∀ (d : Nat) (M : zM) (pc : Nat) (lv : zL) (st : List Value) (S : zS) (o : zO) (idx n : Nat) (M1 : zM) (as st1 : List Value) (lv1 : zL) (S1 : zS) (pc1 : Nat) (r : Option Value) (b : Nat), decode M.2.1 pc = .ok (.invokespecial idx, 3) → (z_mOK M.1.cls idx 5 n M1) → (as.length = n) → ((lg_sl (.ref b :: as)).length ≤ M1.2.2.1) → ((st.map Value.category).sum ≤ 8) → (z_rt M1 pc1 st1 r) → X d M1 0 (lv_args 0 (.ref b :: as)) [] S (pc1, lv1, st1, S1) → X (d + 1) M (pc + 3) lv (r.toList ++ st) S1 o → X (d + 1) M pc lv (as.reverse ++ .ref b :: st) S o
def z_Cl (X : zX) : Prop := (∀ (d : Nat) (M : zM) (pc : Nat) (lv : zL) (st : List Value) (S : zS), X d M pc lv st S (pc, lv, st, S)) ∧ zk_iconst X ∧ zk_bipush X ∧ zk_sipush X ∧ zk_lconst X ∧ zk_aconst X ∧ zk_iload_n X ∧ zk_iload X ∧ zk_lload_n X ∧ zk_lload X ∧ zk_aload_n X ∧ zk_aload X ∧ zk_aload_nN X ∧ zk_aloadN X ∧ zk_aload_nS X ∧ zk_aloadS X ∧ zk_istore_n X ∧ zk_istore X ∧ zk_lstore_n X ∧ zk_lstore X ∧ zk_astore_n X ∧ zk_astore X ∧ zk_astore_nS X ∧ zk_astoreS X ∧ zk_astore_nN X ∧ zk_astoreN X ∧ zk_iinc X ∧ zk_iadd X ∧ zk_isub X ∧ zk_imul X ∧ zk_iand X ∧ zk_ior X ∧ zk_ixor X ∧ zk_ishl X ∧ zk_ishr X ∧ zk_idiv X ∧ zk_irem X ∧ zk_ladd X ∧ zk_lsub X ∧ zk_lmul X ∧ zk_land X ∧ zk_lor X ∧ zk_lxor X ∧ zk_ineg X ∧ zk_iushr X ∧ zk_lushr X ∧ zk_lshl X ∧ zk_lshr X ∧ zk_i2l X ∧ zk_l2i X ∧ zk_i2b X ∧ zk_i2c X ∧ zk_dup X ∧ zk_pop X ∧ zk_dup2 X ∧ zk_if_eq X ∧ zk_icmp_eq X ∧ zk_if_ne X ∧ zk_icmp_ne X ∧ zk_if_lt X ∧ zk_icmp_lt X ∧ zk_if_ge X ∧ zk_icmp_ge X ∧ zk_if_gt X ∧ zk_icmp_gt X ∧ zk_if_le X ∧ zk_icmp_le X ∧ zk_goto X ∧ zk_ifnull X ∧ zk_ifnullN X ∧ zk_ifnonnull X ∧ zk_ifnonnullN X ∧ zk_lookup X ∧ zk_tableIn X ∧ zk_tableOut X ∧ zk_getf X ∧ zk_putf X ∧ zk_putF X ∧ zk_bald X ∧ zk_zald X ∧ zk_iald X ∧ zk_lald X ∧ zk_aald X ∧ zk_bast X ∧ zk_zast X ∧ zk_iast X ∧ zk_last X ∧ zk_aast X ∧ zk_alen X ∧ zk_new X ∧ zk_newi X ∧ zk_newb X ∧ zk_newz X ∧ zk_newl X ∧ zk_ldc X ∧ zk_ldcw X ∧ zk_ldc2 X ∧ zk_lcmp X ∧ zk_dup_x1 X ∧ zk_objInit X ∧ zk_mmax X ∧ zk_mmin X ∧ zk_cast X ∧ zk_castN X ∧ zk_aastN X ∧ zk_anewq X ∧ zk_ldcS X ∧ zk_slen X ∧ zk_schar X ∧ zk_copyB X ∧ zk_copyI X ∧ zk_cmpU X ∧ zk_callS X ∧ zk_callSN X ∧ zk_callV X ∧ zk_callI X ∧ zk_callIN X
def z_Ex : zX := fun d M pc lv st S o => ∀ X : zX, z_Cl X → X d M pc lv st S o
theorem zr_refl {d : Nat} {M : zM} {pc : Nat} {lv : zL} {st : List Value} {S : zS} : z_Ex d M pc lv st S (pc, lv, st, S) := fun X hX => hX.1 d M pc lv st S
theorem zr_iconst {d : Nat} {M : zM} {pc : Nat} {lv : zL} {st : List Value} {S : zS} {o : zO} {n : Int} (hd : decode M.2.1 pc = .ok (.iconst n, 1))  (k0 : z_Ex d M (pc + 1) lv (.int (Int32.ofInt n) :: st) S o) : z_Ex d M pc lv (st) S o := fun X hX => hX.2.1 d M pc lv st S o n hd  (k0 X hX)
theorem zr_bipush {d : Nat} {M : zM} {pc : Nat} {lv : zL} {st : List Value} {S : zS} {o : zO} {n : Int} (hd : decode M.2.1 pc = .ok (.bipush n, 2))  (k0 : z_Ex d M (pc + 2) lv (.int (Int8.ofInt n).toInt32 :: st) S o) : z_Ex d M pc lv (st) S o := fun X hX => hX.2.2.1 d M pc lv st S o n hd  (k0 X hX)
theorem zr_sipush {d : Nat} {M : zM} {pc : Nat} {lv : zL} {st : List Value} {S : zS} {o : zO} {n : Int} (hd : decode M.2.1 pc = .ok (.sipush n, 3))  (k0 : z_Ex d M (pc + 3) lv (.int (Int16.ofInt n).toInt32 :: st) S o) : z_Ex d M pc lv (st) S o := fun X hX => hX.2.2.2.1 d M pc lv st S o n hd  (k0 X hX)
theorem zr_lconst {d : Nat} {M : zM} {pc : Nat} {lv : zL} {st : List Value} {S : zS} {o : zO} {n : Fin 2} (hd : decode M.2.1 pc = .ok (.lconst n, 1))  (k0 : z_Ex d M (pc + 1) lv (.long (Int64.ofNat (n : Nat)) :: st) S o) : z_Ex d M pc lv (st) S o := fun X hX => hX.2.2.2.2.1 d M pc lv st S o n hd  (k0 X hX)
theorem zr_aconst {d : Nat} {M : zM} {pc : Nat} {lv : zL} {st : List Value} {S : zS} {o : zO}  (hd : decode M.2.1 pc = .ok (.aconst_null, 1))  (k0 : z_Ex d M (pc + 1) lv (.null :: st) S o) : z_Ex d M pc lv (st) S o := fun X hX => hX.2.2.2.2.2.1 d M pc lv st S o  hd  (k0 X hX)
theorem zr_iload_n {d : Nat} {M : zM} {pc : Nat} {lv : zL} {st : List Value} {S : zS} {o : zO} {j : Fin 4} {x : Int32} (hd : decode M.2.1 pc = .ok (.iload_n j, 1)) (h0 : ((j : Nat), Value.int x) ∈ lv) (k0 : z_Ex d M (pc + 1) lv (.int x :: st) S o) : z_Ex d M pc lv (st) S o := fun X hX => hX.2.2.2.2.2.2.1 d M pc lv st S o j x hd h0 (k0 X hX)
theorem zr_iload {d : Nat} {M : zM} {pc : Nat} {lv : zL} {st : List Value} {S : zS} {o : zO} {i : Nat} {x : Int32} (hd : decode M.2.1 pc = .ok (.iload i, 2)) (h0 : (i, Value.int x) ∈ lv) (k0 : z_Ex d M (pc + 2) lv (.int x :: st) S o) : z_Ex d M pc lv (st) S o := fun X hX => hX.2.2.2.2.2.2.2.1 d M pc lv st S o i x hd h0 (k0 X hX)
theorem zr_lload_n {d : Nat} {M : zM} {pc : Nat} {lv : zL} {st : List Value} {S : zS} {o : zO} {j : Fin 4} {x : Int64} (hd : decode M.2.1 pc = .ok (.lload_n j, 1)) (h0 : ((j : Nat), Value.long x) ∈ lv) (k0 : z_Ex d M (pc + 1) lv (.long x :: st) S o) : z_Ex d M pc lv (st) S o := fun X hX => hX.2.2.2.2.2.2.2.2.1 d M pc lv st S o j x hd h0 (k0 X hX)
theorem zr_lload {d : Nat} {M : zM} {pc : Nat} {lv : zL} {st : List Value} {S : zS} {o : zO} {i : Nat} {x : Int64} (hd : decode M.2.1 pc = .ok (.lload i, 2)) (h0 : (i, Value.long x) ∈ lv) (k0 : z_Ex d M (pc + 2) lv (.long x :: st) S o) : z_Ex d M pc lv (st) S o := fun X hX => hX.2.2.2.2.2.2.2.2.2.1 d M pc lv st S o i x hd h0 (k0 X hX)
theorem zr_aload_n {d : Nat} {M : zM} {pc : Nat} {lv : zL} {st : List Value} {S : zS} {o : zO} {j : Fin 4} {x : Nat} (hd : decode M.2.1 pc = .ok (.aload_n j, 1)) (h0 : ((j : Nat), Value.ref x) ∈ lv) (k0 : z_Ex d M (pc + 1) lv (.ref x :: st) S o) : z_Ex d M pc lv (st) S o := fun X hX => hX.2.2.2.2.2.2.2.2.2.2.1 d M pc lv st S o j x hd h0 (k0 X hX)
theorem zr_aload {d : Nat} {M : zM} {pc : Nat} {lv : zL} {st : List Value} {S : zS} {o : zO} {i : Nat} {x : Nat} (hd : decode M.2.1 pc = .ok (.aload i, 2)) (h0 : (i, Value.ref x) ∈ lv) (k0 : z_Ex d M (pc + 2) lv (.ref x :: st) S o) : z_Ex d M pc lv (st) S o := fun X hX => hX.2.2.2.2.2.2.2.2.2.2.2.1 d M pc lv st S o i x hd h0 (k0 X hX)
theorem zr_aload_nN {d : Nat} {M : zM} {pc : Nat} {lv : zL} {st : List Value} {S : zS} {o : zO} {j : Fin 4} (hd : decode M.2.1 pc = .ok (.aload_n j, 1)) (h0 : ((j : Nat), Value.null) ∈ lv) (k0 : z_Ex d M (pc + 1) lv (.null :: st) S o) : z_Ex d M pc lv (st) S o := fun X hX => hX.2.2.2.2.2.2.2.2.2.2.2.2.1 d M pc lv st S o j hd h0 (k0 X hX)
theorem zr_aloadN {d : Nat} {M : zM} {pc : Nat} {lv : zL} {st : List Value} {S : zS} {o : zO} {i : Nat} (hd : decode M.2.1 pc = .ok (.aload i, 2)) (h0 : (i, Value.null) ∈ lv) (k0 : z_Ex d M (pc + 2) lv (.null :: st) S o) : z_Ex d M pc lv (st) S o := fun X hX => hX.2.2.2.2.2.2.2.2.2.2.2.2.2.1 d M pc lv st S o i hd h0 (k0 X hX)
theorem zr_aload_nS {d : Nat} {M : zM} {pc : Nat} {lv : zL} {st : List Value} {S : zS} {o : zO} {j : Fin 4} {x : Nat} (hd : decode M.2.1 pc = .ok (.aload_n j, 1)) (h0 : ((j : Nat), Value.retAddr x) ∈ lv) (k0 : z_Ex d M (pc + 1) lv (.retAddr x :: st) S o) : z_Ex d M pc lv (st) S o := fun X hX => hX.2.2.2.2.2.2.2.2.2.2.2.2.2.2.1 d M pc lv st S o j x hd h0 (k0 X hX)
theorem zr_aloadS {d : Nat} {M : zM} {pc : Nat} {lv : zL} {st : List Value} {S : zS} {o : zO} {i : Nat} {x : Nat} (hd : decode M.2.1 pc = .ok (.aload i, 2)) (h0 : (i, Value.retAddr x) ∈ lv) (k0 : z_Ex d M (pc + 2) lv (.retAddr x :: st) S o) : z_Ex d M pc lv (st) S o := fun X hX => hX.2.2.2.2.2.2.2.2.2.2.2.2.2.2.2.1 d M pc lv st S o i x hd h0 (k0 X hX)
theorem zr_istore_n {d : Nat} {M : zM} {pc : Nat} {lv : zL} {st : List Value} {S : zS} {o : zO} {j : Fin 4} {x : Int32} (hd : decode M.2.1 pc = .ok (.istore_n j, 1)) (h0 : (j : Nat) < M.2.2.1) (k0 : z_Ex d M (pc + 1) (((j : Nat), Value.int x) :: z_k1 ((j : Nat)) lv) (st) S o) : z_Ex d M pc lv (.int x :: st) S o := fun X hX => hX.2.2.2.2.2.2.2.2.2.2.2.2.2.2.2.2.1 d M pc lv st S o j x hd h0 (k0 X hX)
theorem zr_istore {d : Nat} {M : zM} {pc : Nat} {lv : zL} {st : List Value} {S : zS} {o : zO} {i : Nat} {x : Int32} (hd : decode M.2.1 pc = .ok (.istore i, 2)) (h0 : i < M.2.2.1) (k0 : z_Ex d M (pc + 2) ((i, Value.int x) :: z_k1 (i) lv) (st) S o) : z_Ex d M pc lv (.int x :: st) S o := fun X hX => hX.2.2.2.2.2.2.2.2.2.2.2.2.2.2.2.2.2.1 d M pc lv st S o i x hd h0 (k0 X hX)
theorem zr_lstore_n {d : Nat} {M : zM} {pc : Nat} {lv : zL} {st : List Value} {S : zS} {o : zO} {j : Fin 4} {x : Int64} (hd : decode M.2.1 pc = .ok (.lstore_n j, 1)) (h0 : (j : Nat) + 1 < M.2.2.1) (k0 : z_Ex d M (pc + 1) (((j : Nat), Value.long x) :: z_k2 ((j : Nat)) lv) (st) S o) : z_Ex d M pc lv (.long x :: st) S o := fun X hX => hX.2.2.2.2.2.2.2.2.2.2.2.2.2.2.2.2.2.2.1 d M pc lv st S o j x hd h0 (k0 X hX)
theorem zr_lstore {d : Nat} {M : zM} {pc : Nat} {lv : zL} {st : List Value} {S : zS} {o : zO} {i : Nat} {x : Int64} (hd : decode M.2.1 pc = .ok (.lstore i, 2)) (h0 : i + 1 < M.2.2.1) (k0 : z_Ex d M (pc + 2) ((i, Value.long x) :: z_k2 (i) lv) (st) S o) : z_Ex d M pc lv (.long x :: st) S o := fun X hX => hX.2.2.2.2.2.2.2.2.2.2.2.2.2.2.2.2.2.2.2.1 d M pc lv st S o i x hd h0 (k0 X hX)
theorem zr_astore_n {d : Nat} {M : zM} {pc : Nat} {lv : zL} {st : List Value} {S : zS} {o : zO} {j : Fin 4} {x : Nat} (hd : decode M.2.1 pc = .ok (.astore_n j, 1)) (h0 : (j : Nat) < M.2.2.1) (k0 : z_Ex d M (pc + 1) (((j : Nat), Value.ref x) :: z_k1 ((j : Nat)) lv) (st) S o) : z_Ex d M pc lv (.ref x :: st) S o := fun X hX => hX.2.2.2.2.2.2.2.2.2.2.2.2.2.2.2.2.2.2.2.2.1 d M pc lv st S o j x hd h0 (k0 X hX)
theorem zr_astore {d : Nat} {M : zM} {pc : Nat} {lv : zL} {st : List Value} {S : zS} {o : zO} {i : Nat} {x : Nat} (hd : decode M.2.1 pc = .ok (.astore i, 2)) (h0 : i < M.2.2.1) (k0 : z_Ex d M (pc + 2) ((i, Value.ref x) :: z_k1 (i) lv) (st) S o) : z_Ex d M pc lv (.ref x :: st) S o := fun X hX => hX.2.2.2.2.2.2.2.2.2.2.2.2.2.2.2.2.2.2.2.2.2.1 d M pc lv st S o i x hd h0 (k0 X hX)
theorem zr_astore_nS {d : Nat} {M : zM} {pc : Nat} {lv : zL} {st : List Value} {S : zS} {o : zO} {j : Fin 4} {x : Nat} (hd : decode M.2.1 pc = .ok (.astore_n j, 1)) (h0 : (j : Nat) < M.2.2.1) (k0 : z_Ex d M (pc + 1) (((j : Nat), Value.retAddr x) :: z_k1 ((j : Nat)) lv) (st) S o) : z_Ex d M pc lv (.retAddr x :: st) S o := fun X hX => hX.2.2.2.2.2.2.2.2.2.2.2.2.2.2.2.2.2.2.2.2.2.2.1 d M pc lv st S o j x hd h0 (k0 X hX)
theorem zr_astoreS {d : Nat} {M : zM} {pc : Nat} {lv : zL} {st : List Value} {S : zS} {o : zO} {i : Nat} {x : Nat} (hd : decode M.2.1 pc = .ok (.astore i, 2)) (h0 : i < M.2.2.1) (k0 : z_Ex d M (pc + 2) ((i, Value.retAddr x) :: z_k1 (i) lv) (st) S o) : z_Ex d M pc lv (.retAddr x :: st) S o := fun X hX => hX.2.2.2.2.2.2.2.2.2.2.2.2.2.2.2.2.2.2.2.2.2.2.2.1 d M pc lv st S o i x hd h0 (k0 X hX)
theorem zr_astore_nN {d : Nat} {M : zM} {pc : Nat} {lv : zL} {st : List Value} {S : zS} {o : zO} {j : Fin 4} (hd : decode M.2.1 pc = .ok (.astore_n j, 1)) (h0 : (j : Nat) < M.2.2.1) (k0 : z_Ex d M (pc + 1) (((j : Nat), Value.null) :: z_k1 ((j : Nat)) lv) (st) S o) : z_Ex d M pc lv (.null :: st) S o := fun X hX => hX.2.2.2.2.2.2.2.2.2.2.2.2.2.2.2.2.2.2.2.2.2.2.2.2.1 d M pc lv st S o j hd h0 (k0 X hX)
theorem zr_astoreN {d : Nat} {M : zM} {pc : Nat} {lv : zL} {st : List Value} {S : zS} {o : zO} {i : Nat} (hd : decode M.2.1 pc = .ok (.astore i, 2)) (h0 : i < M.2.2.1) (k0 : z_Ex d M (pc + 2) ((i, Value.null) :: z_k1 (i) lv) (st) S o) : z_Ex d M pc lv (.null :: st) S o := fun X hX => hX.2.2.2.2.2.2.2.2.2.2.2.2.2.2.2.2.2.2.2.2.2.2.2.2.2.1 d M pc lv st S o i hd h0 (k0 X hX)
theorem zr_iinc {d : Nat} {M : zM} {pc : Nat} {lv : zL} {st : List Value} {S : zS} {o : zO} {i : Nat} {n : Int} {x : Int32} (hd : decode M.2.1 pc = .ok (.iinc i n, 3)) (h0 : (i, Value.int x) ∈ lv) (h1 : i < M.2.2.1) (k0 : z_Ex d M (pc + 3) ((i, Value.int (x + Int32.ofInt n)) :: z_k1 i lv) (st) S o) : z_Ex d M pc lv (st) S o := fun X hX => hX.2.2.2.2.2.2.2.2.2.2.2.2.2.2.2.2.2.2.2.2.2.2.2.2.2.2.1 d M pc lv st S o i n x hd h0 h1 (k0 X hX)
theorem zr_iadd {d : Nat} {M : zM} {pc : Nat} {lv : zL} {st : List Value} {S : zS} {o : zO} {x y : Int32} (hd : decode M.2.1 pc = .ok (.iadd, 1))  (k0 : z_Ex d M (pc + 1) lv (.int (x + y) :: st) S o) : z_Ex d M pc lv (.int y :: .int x :: st) S o := fun X hX => hX.2.2.2.2.2.2.2.2.2.2.2.2.2.2.2.2.2.2.2.2.2.2.2.2.2.2.2.1 d M pc lv st S o x y hd  (k0 X hX)
theorem zr_isub {d : Nat} {M : zM} {pc : Nat} {lv : zL} {st : List Value} {S : zS} {o : zO} {x y : Int32} (hd : decode M.2.1 pc = .ok (.isub, 1))  (k0 : z_Ex d M (pc + 1) lv (.int (x - y) :: st) S o) : z_Ex d M pc lv (.int y :: .int x :: st) S o := fun X hX => hX.2.2.2.2.2.2.2.2.2.2.2.2.2.2.2.2.2.2.2.2.2.2.2.2.2.2.2.2.1 d M pc lv st S o x y hd  (k0 X hX)
theorem zr_imul {d : Nat} {M : zM} {pc : Nat} {lv : zL} {st : List Value} {S : zS} {o : zO} {x y : Int32} (hd : decode M.2.1 pc = .ok (.imul, 1))  (k0 : z_Ex d M (pc + 1) lv (.int (x * y) :: st) S o) : z_Ex d M pc lv (.int y :: .int x :: st) S o := fun X hX => hX.2.2.2.2.2.2.2.2.2.2.2.2.2.2.2.2.2.2.2.2.2.2.2.2.2.2.2.2.2.1 d M pc lv st S o x y hd  (k0 X hX)
theorem zr_iand {d : Nat} {M : zM} {pc : Nat} {lv : zL} {st : List Value} {S : zS} {o : zO} {x y : Int32} (hd : decode M.2.1 pc = .ok (.iand, 1))  (k0 : z_Ex d M (pc + 1) lv (.int (x &&& y) :: st) S o) : z_Ex d M pc lv (.int y :: .int x :: st) S o := fun X hX => hX.2.2.2.2.2.2.2.2.2.2.2.2.2.2.2.2.2.2.2.2.2.2.2.2.2.2.2.2.2.2.1 d M pc lv st S o x y hd  (k0 X hX)
theorem zr_ior {d : Nat} {M : zM} {pc : Nat} {lv : zL} {st : List Value} {S : zS} {o : zO} {x y : Int32} (hd : decode M.2.1 pc = .ok (.ior, 1))  (k0 : z_Ex d M (pc + 1) lv (.int (x ||| y) :: st) S o) : z_Ex d M pc lv (.int y :: .int x :: st) S o := fun X hX => hX.2.2.2.2.2.2.2.2.2.2.2.2.2.2.2.2.2.2.2.2.2.2.2.2.2.2.2.2.2.2.2.1 d M pc lv st S o x y hd  (k0 X hX)
theorem zr_ixor {d : Nat} {M : zM} {pc : Nat} {lv : zL} {st : List Value} {S : zS} {o : zO} {x y : Int32} (hd : decode M.2.1 pc = .ok (.ixor, 1))  (k0 : z_Ex d M (pc + 1) lv (.int (x ^^^ y) :: st) S o) : z_Ex d M pc lv (.int y :: .int x :: st) S o := fun X hX => hX.2.2.2.2.2.2.2.2.2.2.2.2.2.2.2.2.2.2.2.2.2.2.2.2.2.2.2.2.2.2.2.2.1 d M pc lv st S o x y hd  (k0 X hX)
theorem zr_ishl {d : Nat} {M : zM} {pc : Nat} {lv : zL} {st : List Value} {S : zS} {o : zO} {x y : Int32} (hd : decode M.2.1 pc = .ok (.ishl, 1))  (k0 : z_Ex d M (pc + 1) lv (.int (x <<< (y &&& 31)) :: st) S o) : z_Ex d M pc lv (.int y :: .int x :: st) S o := fun X hX => hX.2.2.2.2.2.2.2.2.2.2.2.2.2.2.2.2.2.2.2.2.2.2.2.2.2.2.2.2.2.2.2.2.2.1 d M pc lv st S o x y hd  (k0 X hX)
theorem zr_ishr {d : Nat} {M : zM} {pc : Nat} {lv : zL} {st : List Value} {S : zS} {o : zO} {x y : Int32} (hd : decode M.2.1 pc = .ok (.ishr, 1))  (k0 : z_Ex d M (pc + 1) lv (.int (x >>> (y &&& 31)) :: st) S o) : z_Ex d M pc lv (.int y :: .int x :: st) S o := fun X hX => hX.2.2.2.2.2.2.2.2.2.2.2.2.2.2.2.2.2.2.2.2.2.2.2.2.2.2.2.2.2.2.2.2.2.2.1 d M pc lv st S o x y hd  (k0 X hX)
theorem zr_idiv {d : Nat} {M : zM} {pc : Nat} {lv : zL} {st : List Value} {S : zS} {o : zO} {x y : Int32} (hd : decode M.2.1 pc = .ok (.idiv, 1)) (h0 : ¬ y = 0) (k0 : z_Ex d M (pc + 1) lv (.int (x / y) :: st) S o) : z_Ex d M pc lv (.int y :: .int x :: st) S o := fun X hX => hX.2.2.2.2.2.2.2.2.2.2.2.2.2.2.2.2.2.2.2.2.2.2.2.2.2.2.2.2.2.2.2.2.2.2.2.1 d M pc lv st S o x y hd h0 (k0 X hX)
theorem zr_irem {d : Nat} {M : zM} {pc : Nat} {lv : zL} {st : List Value} {S : zS} {o : zO} {x y : Int32} (hd : decode M.2.1 pc = .ok (.irem, 1)) (h0 : ¬ y = 0) (k0 : z_Ex d M (pc + 1) lv (.int (x - x / y * y) :: st) S o) : z_Ex d M pc lv (.int y :: .int x :: st) S o := fun X hX => hX.2.2.2.2.2.2.2.2.2.2.2.2.2.2.2.2.2.2.2.2.2.2.2.2.2.2.2.2.2.2.2.2.2.2.2.2.1 d M pc lv st S o x y hd h0 (k0 X hX)
theorem zr_ladd {d : Nat} {M : zM} {pc : Nat} {lv : zL} {st : List Value} {S : zS} {o : zO} {x y : Int64} (hd : decode M.2.1 pc = .ok (.ladd, 1))  (k0 : z_Ex d M (pc + 1) lv (.long (x + y) :: st) S o) : z_Ex d M pc lv (.long y :: .long x :: st) S o := fun X hX => hX.2.2.2.2.2.2.2.2.2.2.2.2.2.2.2.2.2.2.2.2.2.2.2.2.2.2.2.2.2.2.2.2.2.2.2.2.2.1 d M pc lv st S o x y hd  (k0 X hX)
theorem zr_lsub {d : Nat} {M : zM} {pc : Nat} {lv : zL} {st : List Value} {S : zS} {o : zO} {x y : Int64} (hd : decode M.2.1 pc = .ok (.lsub, 1))  (k0 : z_Ex d M (pc + 1) lv (.long (x - y) :: st) S o) : z_Ex d M pc lv (.long y :: .long x :: st) S o := fun X hX => hX.2.2.2.2.2.2.2.2.2.2.2.2.2.2.2.2.2.2.2.2.2.2.2.2.2.2.2.2.2.2.2.2.2.2.2.2.2.2.1 d M pc lv st S o x y hd  (k0 X hX)
theorem zr_lmul {d : Nat} {M : zM} {pc : Nat} {lv : zL} {st : List Value} {S : zS} {o : zO} {x y : Int64} (hd : decode M.2.1 pc = .ok (.lmul, 1))  (k0 : z_Ex d M (pc + 1) lv (.long (x * y) :: st) S o) : z_Ex d M pc lv (.long y :: .long x :: st) S o := fun X hX => hX.2.2.2.2.2.2.2.2.2.2.2.2.2.2.2.2.2.2.2.2.2.2.2.2.2.2.2.2.2.2.2.2.2.2.2.2.2.2.2.1 d M pc lv st S o x y hd  (k0 X hX)
theorem zr_land {d : Nat} {M : zM} {pc : Nat} {lv : zL} {st : List Value} {S : zS} {o : zO} {x y : Int64} (hd : decode M.2.1 pc = .ok (.land, 1))  (k0 : z_Ex d M (pc + 1) lv (.long (x &&& y) :: st) S o) : z_Ex d M pc lv (.long y :: .long x :: st) S o := fun X hX => hX.2.2.2.2.2.2.2.2.2.2.2.2.2.2.2.2.2.2.2.2.2.2.2.2.2.2.2.2.2.2.2.2.2.2.2.2.2.2.2.2.1 d M pc lv st S o x y hd  (k0 X hX)
theorem zr_lor {d : Nat} {M : zM} {pc : Nat} {lv : zL} {st : List Value} {S : zS} {o : zO} {x y : Int64} (hd : decode M.2.1 pc = .ok (.lor, 1))  (k0 : z_Ex d M (pc + 1) lv (.long (x ||| y) :: st) S o) : z_Ex d M pc lv (.long y :: .long x :: st) S o := fun X hX => hX.2.2.2.2.2.2.2.2.2.2.2.2.2.2.2.2.2.2.2.2.2.2.2.2.2.2.2.2.2.2.2.2.2.2.2.2.2.2.2.2.2.1 d M pc lv st S o x y hd  (k0 X hX)
theorem zr_lxor {d : Nat} {M : zM} {pc : Nat} {lv : zL} {st : List Value} {S : zS} {o : zO} {x y : Int64} (hd : decode M.2.1 pc = .ok (.lxor, 1))  (k0 : z_Ex d M (pc + 1) lv (.long (x ^^^ y) :: st) S o) : z_Ex d M pc lv (.long y :: .long x :: st) S o := fun X hX => hX.2.2.2.2.2.2.2.2.2.2.2.2.2.2.2.2.2.2.2.2.2.2.2.2.2.2.2.2.2.2.2.2.2.2.2.2.2.2.2.2.2.2.1 d M pc lv st S o x y hd  (k0 X hX)
theorem zr_ineg {d : Nat} {M : zM} {pc : Nat} {lv : zL} {st : List Value} {S : zS} {o : zO} {x : Int32} (hd : decode M.2.1 pc = .ok (.ineg, 1))  (k0 : z_Ex d M (pc + 1) lv (.int (-x) :: st) S o) : z_Ex d M pc lv (.int x :: st) S o := fun X hX => hX.2.2.2.2.2.2.2.2.2.2.2.2.2.2.2.2.2.2.2.2.2.2.2.2.2.2.2.2.2.2.2.2.2.2.2.2.2.2.2.2.2.2.2.1 d M pc lv st S o x hd  (k0 X hX)
theorem zr_iushr {d : Nat} {M : zM} {pc : Nat} {lv : zL} {st : List Value} {S : zS} {o : zO} {x y : Int32} (hd : decode M.2.1 pc = .ok (.iushr, 1))  (k0 : z_Ex d M (pc + 1) lv (.int (x.toUInt32 >>> (y.toUInt32 &&& Int32.toUInt32 31)).toInt32 :: st) S o) : z_Ex d M pc lv (.int y :: .int x :: st) S o := fun X hX => hX.2.2.2.2.2.2.2.2.2.2.2.2.2.2.2.2.2.2.2.2.2.2.2.2.2.2.2.2.2.2.2.2.2.2.2.2.2.2.2.2.2.2.2.2.1 d M pc lv st S o x y hd  (k0 X hX)
theorem zr_lushr {d : Nat} {M : zM} {pc : Nat} {lv : zL} {st : List Value} {S : zS} {o : zO} {x : Int64} {y : Int32} (hd : decode M.2.1 pc = .ok (.lushr, 1))  (k0 : z_Ex d M (pc + 1) lv (.long (x.toUInt64 >>> (y.toInt64.toUInt64 &&& Int64.toUInt64 63)).toInt64 :: st) S o) : z_Ex d M pc lv (.int y :: .long x :: st) S o := fun X hX => hX.2.2.2.2.2.2.2.2.2.2.2.2.2.2.2.2.2.2.2.2.2.2.2.2.2.2.2.2.2.2.2.2.2.2.2.2.2.2.2.2.2.2.2.2.2.1 d M pc lv st S o x y hd  (k0 X hX)
theorem zr_lshl {d : Nat} {M : zM} {pc : Nat} {lv : zL} {st : List Value} {S : zS} {o : zO} {x : Int64} {y : Int32} (hd : decode M.2.1 pc = .ok (.lshl, 1))  (k0 : z_Ex d M (pc + 1) lv (.long (x <<< (y.toInt64 &&& 63)) :: st) S o) : z_Ex d M pc lv (.int y :: .long x :: st) S o := fun X hX => hX.2.2.2.2.2.2.2.2.2.2.2.2.2.2.2.2.2.2.2.2.2.2.2.2.2.2.2.2.2.2.2.2.2.2.2.2.2.2.2.2.2.2.2.2.2.2.1 d M pc lv st S o x y hd  (k0 X hX)
theorem zr_lshr {d : Nat} {M : zM} {pc : Nat} {lv : zL} {st : List Value} {S : zS} {o : zO} {x : Int64} {y : Int32} (hd : decode M.2.1 pc = .ok (.lshr, 1))  (k0 : z_Ex d M (pc + 1) lv (.long (x >>> (y.toInt64 &&& 63)) :: st) S o) : z_Ex d M pc lv (.int y :: .long x :: st) S o := fun X hX => hX.2.2.2.2.2.2.2.2.2.2.2.2.2.2.2.2.2.2.2.2.2.2.2.2.2.2.2.2.2.2.2.2.2.2.2.2.2.2.2.2.2.2.2.2.2.2.2.1 d M pc lv st S o x y hd  (k0 X hX)
theorem zr_i2l {d : Nat} {M : zM} {pc : Nat} {lv : zL} {st : List Value} {S : zS} {o : zO} {x : Int32} (hd : decode M.2.1 pc = .ok (.i2l, 1))  (k0 : z_Ex d M (pc + 1) lv (.long x.toInt64 :: st) S o) : z_Ex d M pc lv (.int x :: st) S o := fun X hX => hX.2.2.2.2.2.2.2.2.2.2.2.2.2.2.2.2.2.2.2.2.2.2.2.2.2.2.2.2.2.2.2.2.2.2.2.2.2.2.2.2.2.2.2.2.2.2.2.2.1 d M pc lv st S o x hd  (k0 X hX)
theorem zr_l2i {d : Nat} {M : zM} {pc : Nat} {lv : zL} {st : List Value} {S : zS} {o : zO} {x : Int64} (hd : decode M.2.1 pc = .ok (.l2i, 1))  (k0 : z_Ex d M (pc + 1) lv (.int x.toInt32 :: st) S o) : z_Ex d M pc lv (.long x :: st) S o := fun X hX => hX.2.2.2.2.2.2.2.2.2.2.2.2.2.2.2.2.2.2.2.2.2.2.2.2.2.2.2.2.2.2.2.2.2.2.2.2.2.2.2.2.2.2.2.2.2.2.2.2.2.1 d M pc lv st S o x hd  (k0 X hX)
theorem zr_i2b {d : Nat} {M : zM} {pc : Nat} {lv : zL} {st : List Value} {S : zS} {o : zO} {x : Int32} (hd : decode M.2.1 pc = .ok (.i2b, 1))  (k0 : z_Ex d M (pc + 1) lv (.int x.toInt8.toInt32 :: st) S o) : z_Ex d M pc lv (.int x :: st) S o := fun X hX => hX.2.2.2.2.2.2.2.2.2.2.2.2.2.2.2.2.2.2.2.2.2.2.2.2.2.2.2.2.2.2.2.2.2.2.2.2.2.2.2.2.2.2.2.2.2.2.2.2.2.2.1 d M pc lv st S o x hd  (k0 X hX)
theorem zr_i2c {d : Nat} {M : zM} {pc : Nat} {lv : zL} {st : List Value} {S : zS} {o : zO} {x : Int32} (hd : decode M.2.1 pc = .ok (.i2c, 1))  (k0 : z_Ex d M (pc + 1) lv (.int (x.toUInt32 % 65536).toInt32 :: st) S o) : z_Ex d M pc lv (.int x :: st) S o := fun X hX => hX.2.2.2.2.2.2.2.2.2.2.2.2.2.2.2.2.2.2.2.2.2.2.2.2.2.2.2.2.2.2.2.2.2.2.2.2.2.2.2.2.2.2.2.2.2.2.2.2.2.2.2.1 d M pc lv st S o x hd  (k0 X hX)
theorem zr_dup {d : Nat} {M : zM} {pc : Nat} {lv : zL} {st : List Value} {S : zS} {o : zO} {v : Value} (hd : decode M.2.1 pc = .ok (.dup, 1)) (h0 : v.category = 1) (k0 : z_Ex d M (pc + 1) lv (v :: v :: st) S o) : z_Ex d M pc lv (v :: st) S o := fun X hX => hX.2.2.2.2.2.2.2.2.2.2.2.2.2.2.2.2.2.2.2.2.2.2.2.2.2.2.2.2.2.2.2.2.2.2.2.2.2.2.2.2.2.2.2.2.2.2.2.2.2.2.2.2.1 d M pc lv st S o v hd h0 (k0 X hX)
theorem zr_pop {d : Nat} {M : zM} {pc : Nat} {lv : zL} {st : List Value} {S : zS} {o : zO} {v : Value} (hd : decode M.2.1 pc = .ok (.pop, 1)) (h0 : v.category = 1) (k0 : z_Ex d M (pc + 1) lv (st) S o) : z_Ex d M pc lv (v :: st) S o := fun X hX => hX.2.2.2.2.2.2.2.2.2.2.2.2.2.2.2.2.2.2.2.2.2.2.2.2.2.2.2.2.2.2.2.2.2.2.2.2.2.2.2.2.2.2.2.2.2.2.2.2.2.2.2.2.2.1 d M pc lv st S o v hd h0 (k0 X hX)
theorem zr_dup2 {d : Nat} {M : zM} {pc : Nat} {lv : zL} {st : List Value} {S : zS} {o : zO} {v u : Value} (hd : decode M.2.1 pc = .ok (.dup2, 1)) (h0 : v.category = 1) (h1 : u.category = 1) (k0 : z_Ex d M (pc + 1) lv (v :: u :: v :: u :: st) S o) : z_Ex d M pc lv (v :: u :: st) S o := fun X hX => hX.2.2.2.2.2.2.2.2.2.2.2.2.2.2.2.2.2.2.2.2.2.2.2.2.2.2.2.2.2.2.2.2.2.2.2.2.2.2.2.2.2.2.2.2.2.2.2.2.2.2.2.2.2.2.1 d M pc lv st S o v u hd h0 h1 (k0 X hX)
theorem zr_if_eq {d : Nat} {M : zM} {pc : Nat} {lv : zL} {st : List Value} {S : zS} {o : zO} {x : Int32} {off : Int} {tgt : Nat} (hd : decode M.2.1 pc = .ok (.ifCond .eq off, 3)) (h0 : (pc : Int) + off = (tgt : Int)) (k0 : (x = 0) → z_Ex d M (tgt) lv (st) S o) (k1 : (¬ x = 0) → z_Ex d M (pc + 3) lv (st) S o) : z_Ex d M pc lv (.int x :: st) S o := fun X hX => hX.2.2.2.2.2.2.2.2.2.2.2.2.2.2.2.2.2.2.2.2.2.2.2.2.2.2.2.2.2.2.2.2.2.2.2.2.2.2.2.2.2.2.2.2.2.2.2.2.2.2.2.2.2.2.2.1 d M pc lv st S o x off tgt hd h0 (fun hb => k0 hb X hX) (fun hb => k1 hb X hX)
theorem zr_icmp_eq {d : Nat} {M : zM} {pc : Nat} {lv : zL} {st : List Value} {S : zS} {o : zO} {x y : Int32} {off : Int} {tgt : Nat} (hd : decode M.2.1 pc = .ok (.if_icmp .eq off, 3)) (h0 : (pc : Int) + off = (tgt : Int)) (k0 : (x = y) → z_Ex d M (tgt) lv (st) S o) (k1 : (¬ x = y) → z_Ex d M (pc + 3) lv (st) S o) : z_Ex d M pc lv (.int y :: .int x :: st) S o := fun X hX => hX.2.2.2.2.2.2.2.2.2.2.2.2.2.2.2.2.2.2.2.2.2.2.2.2.2.2.2.2.2.2.2.2.2.2.2.2.2.2.2.2.2.2.2.2.2.2.2.2.2.2.2.2.2.2.2.2.1 d M pc lv st S o x y off tgt hd h0 (fun hb => k0 hb X hX) (fun hb => k1 hb X hX)
theorem zr_if_ne {d : Nat} {M : zM} {pc : Nat} {lv : zL} {st : List Value} {S : zS} {o : zO} {x : Int32} {off : Int} {tgt : Nat} (hd : decode M.2.1 pc = .ok (.ifCond .ne off, 3)) (h0 : (pc : Int) + off = (tgt : Int)) (k0 : (¬ x = 0) → z_Ex d M (tgt) lv (st) S o) (k1 : (x = 0) → z_Ex d M (pc + 3) lv (st) S o) : z_Ex d M pc lv (.int x :: st) S o := fun X hX => hX.2.2.2.2.2.2.2.2.2.2.2.2.2.2.2.2.2.2.2.2.2.2.2.2.2.2.2.2.2.2.2.2.2.2.2.2.2.2.2.2.2.2.2.2.2.2.2.2.2.2.2.2.2.2.2.2.2.1 d M pc lv st S o x off tgt hd h0 (fun hb => k0 hb X hX) (fun hb => k1 hb X hX)
theorem zr_icmp_ne {d : Nat} {M : zM} {pc : Nat} {lv : zL} {st : List Value} {S : zS} {o : zO} {x y : Int32} {off : Int} {tgt : Nat} (hd : decode M.2.1 pc = .ok (.if_icmp .ne off, 3)) (h0 : (pc : Int) + off = (tgt : Int)) (k0 : (¬ x = y) → z_Ex d M (tgt) lv (st) S o) (k1 : (x = y) → z_Ex d M (pc + 3) lv (st) S o) : z_Ex d M pc lv (.int y :: .int x :: st) S o := fun X hX => hX.2.2.2.2.2.2.2.2.2.2.2.2.2.2.2.2.2.2.2.2.2.2.2.2.2.2.2.2.2.2.2.2.2.2.2.2.2.2.2.2.2.2.2.2.2.2.2.2.2.2.2.2.2.2.2.2.2.2.1 d M pc lv st S o x y off tgt hd h0 (fun hb => k0 hb X hX) (fun hb => k1 hb X hX)
theorem zr_if_lt {d : Nat} {M : zM} {pc : Nat} {lv : zL} {st : List Value} {S : zS} {o : zO} {x : Int32} {off : Int} {tgt : Nat} (hd : decode M.2.1 pc = .ok (.ifCond .lt off, 3)) (h0 : (pc : Int) + off = (tgt : Int)) (k0 : (x < 0) → z_Ex d M (tgt) lv (st) S o) (k1 : (¬ x < 0) → z_Ex d M (pc + 3) lv (st) S o) : z_Ex d M pc lv (.int x :: st) S o := fun X hX => hX.2.2.2.2.2.2.2.2.2.2.2.2.2.2.2.2.2.2.2.2.2.2.2.2.2.2.2.2.2.2.2.2.2.2.2.2.2.2.2.2.2.2.2.2.2.2.2.2.2.2.2.2.2.2.2.2.2.2.2.1 d M pc lv st S o x off tgt hd h0 (fun hb => k0 hb X hX) (fun hb => k1 hb X hX)
theorem zr_icmp_lt {d : Nat} {M : zM} {pc : Nat} {lv : zL} {st : List Value} {S : zS} {o : zO} {x y : Int32} {off : Int} {tgt : Nat} (hd : decode M.2.1 pc = .ok (.if_icmp .lt off, 3)) (h0 : (pc : Int) + off = (tgt : Int)) (k0 : (x < y) → z_Ex d M (tgt) lv (st) S o) (k1 : (¬ x < y) → z_Ex d M (pc + 3) lv (st) S o) : z_Ex d M pc lv (.int y :: .int x :: st) S o := fun X hX => hX.2.2.2.2.2.2.2.2.2.2.2.2.2.2.2.2.2.2.2.2.2.2.2.2.2.2.2.2.2.2.2.2.2.2.2.2.2.2.2.2.2.2.2.2.2.2.2.2.2.2.2.2.2.2.2.2.2.2.2.2.1 d M pc lv st S o x y off tgt hd h0 (fun hb => k0 hb X hX) (fun hb => k1 hb X hX)
theorem zr_if_ge {d : Nat} {M : zM} {pc : Nat} {lv : zL} {st : List Value} {S : zS} {o : zO} {x : Int32} {off : Int} {tgt : Nat} (hd : decode M.2.1 pc = .ok (.ifCond .ge off, 3)) (h0 : (pc : Int) + off = (tgt : Int)) (k0 : (0 ≤ x) → z_Ex d M (tgt) lv (st) S o) (k1 : (¬ 0 ≤ x) → z_Ex d M (pc + 3) lv (st) S o) : z_Ex d M pc lv (.int x :: st) S o := fun X hX => hX.2.2.2.2.2.2.2.2.2.2.2.2.2.2.2.2.2.2.2.2.2.2.2.2.2.2.2.2.2.2.2.2.2.2.2.2.2.2.2.2.2.2.2.2.2.2.2.2.2.2.2.2.2.2.2.2.2.2.2.2.2.1 d M pc lv st S o x off tgt hd h0 (fun hb => k0 hb X hX) (fun hb => k1 hb X hX)
theorem zr_icmp_ge {d : Nat} {M : zM} {pc : Nat} {lv : zL} {st : List Value} {S : zS} {o : zO} {x y : Int32} {off : Int} {tgt : Nat} (hd : decode M.2.1 pc = .ok (.if_icmp .ge off, 3)) (h0 : (pc : Int) + off = (tgt : Int)) (k0 : (y ≤ x) → z_Ex d M (tgt) lv (st) S o) (k1 : (¬ y ≤ x) → z_Ex d M (pc + 3) lv (st) S o) : z_Ex d M pc lv (.int y :: .int x :: st) S o := fun X hX => hX.2.2.2.2.2.2.2.2.2.2.2.2.2.2.2.2.2.2.2.2.2.2.2.2.2.2.2.2.2.2.2.2.2.2.2.2.2.2.2.2.2.2.2.2.2.2.2.2.2.2.2.2.2.2.2.2.2.2.2.2.2.2.1 d M pc lv st S o x y off tgt hd h0 (fun hb => k0 hb X hX) (fun hb => k1 hb X hX)
theorem zr_if_gt {d : Nat} {M : zM} {pc : Nat} {lv : zL} {st : List Value} {S : zS} {o : zO} {x : Int32} {off : Int} {tgt : Nat} (hd : decode M.2.1 pc = .ok (.ifCond .gt off, 3)) (h0 : (pc : Int) + off = (tgt : Int)) (k0 : (0 < x) → z_Ex d M (tgt) lv (st) S o) (k1 : (¬ 0 < x) → z_Ex d M (pc + 3) lv (st) S o) : z_Ex d M pc lv (.int x :: st) S o := fun X hX => hX.2.2.2.2.2.2.2.2.2.2.2.2.2.2.2.2.2.2.2.2.2.2.2.2.2.2.2.2.2.2.2.2.2.2.2.2.2.2.2.2.2.2.2.2.2.2.2.2.2.2.2.2.2.2.2.2.2.2.2.2.2.2.2.1 d M pc lv st S o x off tgt hd h0 (fun hb => k0 hb X hX) (fun hb => k1 hb X hX)
theorem zr_icmp_gt {d : Nat} {M : zM} {pc : Nat} {lv : zL} {st : List Value} {S : zS} {o : zO} {x y : Int32} {off : Int} {tgt : Nat} (hd : decode M.2.1 pc = .ok (.if_icmp .gt off, 3)) (h0 : (pc : Int) + off = (tgt : Int)) (k0 : (y < x) → z_Ex d M (tgt) lv (st) S o) (k1 : (¬ y < x) → z_Ex d M (pc + 3) lv (st) S o) : z_Ex d M pc lv (.int y :: .int x :: st) S o := fun X hX => hX.2.2.2.2.2.2.2.2.2.2.2.2.2.2.2.2.2.2.2.2.2.2.2.2.2.2.2.2.2.2.2.2.2.2.2.2.2.2.2.2.2.2.2.2.2.2.2.2.2.2.2.2.2.2.2.2.2.2.2.2.2.2.2.2.1 d M pc lv st S o x y off tgt hd h0 (fun hb => k0 hb X hX) (fun hb => k1 hb X hX)
theorem zr_if_le {d : Nat} {M : zM} {pc : Nat} {lv : zL} {st : List Value} {S : zS} {o : zO} {x : Int32} {off : Int} {tgt : Nat} (hd : decode M.2.1 pc = .ok (.ifCond .le off, 3)) (h0 : (pc : Int) + off = (tgt : Int)) (k0 : (x ≤ 0) → z_Ex d M (tgt) lv (st) S o) (k1 : (¬ x ≤ 0) → z_Ex d M (pc + 3) lv (st) S o) : z_Ex d M pc lv (.int x :: st) S o := fun X hX => hX.2.2.2.2.2.2.2.2.2.2.2.2.2.2.2.2.2.2.2.2.2.2.2.2.2.2.2.2.2.2.2.2.2.2.2.2.2.2.2.2.2.2.2.2.2.2.2.2.2.2.2.2.2.2.2.2.2.2.2.2.2.2.2.2.2.1 d M pc lv st S o x off tgt hd h0 (fun hb => k0 hb X hX) (fun hb => k1 hb X hX)
theorem zr_icmp_le {d : Nat} {M : zM} {pc : Nat} {lv : zL} {st : List Value} {S : zS} {o : zO} {x y : Int32} {off : Int} {tgt : Nat} (hd : decode M.2.1 pc = .ok (.if_icmp .le off, 3)) (h0 : (pc : Int) + off = (tgt : Int)) (k0 : (x ≤ y) → z_Ex d M (tgt) lv (st) S o) (k1 : (¬ x ≤ y) → z_Ex d M (pc + 3) lv (st) S o) : z_Ex d M pc lv (.int y :: .int x :: st) S o := fun X hX => hX.2.2.2.2.2.2.2.2.2.2.2.2.2.2.2.2.2.2.2.2.2.2.2.2.2.2.2.2.2.2.2.2.2.2.2.2.2.2.2.2.2.2.2.2.2.2.2.2.2.2.2.2.2.2.2.2.2.2.2.2.2.2.2.2.2.2.1 d M pc lv st S o x y off tgt hd h0 (fun hb => k0 hb X hX) (fun hb => k1 hb X hX)
theorem zr_goto {d : Nat} {M : zM} {pc : Nat} {lv : zL} {st : List Value} {S : zS} {o : zO} {off : Int} {tgt : Nat} (hd : decode M.2.1 pc = .ok (.goto off, 3)) (h0 : (pc : Int) + off = (tgt : Int)) (k0 : z_Ex d M (tgt) lv (st) S o) : z_Ex d M pc lv (st) S o := fun X hX => hX.2.2.2.2.2.2.2.2.2.2.2.2.2.2.2.2.2.2.2.2.2.2.2.2.2.2.2.2.2.2.2.2.2.2.2.2.2.2.2.2.2.2.2.2.2.2.2.2.2.2.2.2.2.2.2.2.2.2.2.2.2.2.2.2.2.2.2.1 d M pc lv st S o off tgt hd h0 (k0 X hX)
theorem zr_ifnull {d : Nat} {M : zM} {pc : Nat} {lv : zL} {st : List Value} {S : zS} {o : zO} {x : Nat} {off : Int} (hd : decode M.2.1 pc = .ok (.ifnull off, 3))  (k0 : z_Ex d M (pc + 3) lv (st) S o) : z_Ex d M pc lv (.ref x :: st) S o := fun X hX => hX.2.2.2.2.2.2.2.2.2.2.2.2.2.2.2.2.2.2.2.2.2.2.2.2.2.2.2.2.2.2.2.2.2.2.2.2.2.2.2.2.2.2.2.2.2.2.2.2.2.2.2.2.2.2.2.2.2.2.2.2.2.2.2.2.2.2.2.2.1 d M pc lv st S o x off hd  (k0 X hX)
theorem zr_ifnullN {d : Nat} {M : zM} {pc : Nat} {lv : zL} {st : List Value} {S : zS} {o : zO} {off : Int} {tgt : Nat} (hd : decode M.2.1 pc = .ok (.ifnull off, 3)) (h0 : (pc : Int) + off = (tgt : Int)) (k0 : z_Ex d M (tgt) lv (st) S o) : z_Ex d M pc lv (.null :: st) S o := fun X hX => hX.2.2.2.2.2.2.2.2.2.2.2.2.2.2.2.2.2.2.2.2.2.2.2.2.2.2.2.2.2.2.2.2.2.2.2.2.2.2.2.2.2.2.2.2.2.2.2.2.2.2.2.2.2.2.2.2.2.2.2.2.2.2.2.2.2.2.2.2.2.1 d M pc lv st S o off tgt hd h0 (k0 X hX)
theorem zr_ifnonnull {d : Nat} {M : zM} {pc : Nat} {lv : zL} {st : List Value} {S : zS} {o : zO} {x : Nat} {off : Int} {tgt : Nat} (hd : decode M.2.1 pc = .ok (.ifnonnull off, 3)) (h0 : (pc : Int) + off = (tgt : Int)) (k0 : z_Ex d M (tgt) lv (st) S o) : z_Ex d M pc lv (.ref x :: st) S o := fun X hX => hX.2.2.2.2.2.2.2.2.2.2.2.2.2.2.2.2.2.2.2.2.2.2.2.2.2.2.2.2.2.2.2.2.2.2.2.2.2.2.2.2.2.2.2.2.2.2.2.2.2.2.2.2.2.2.2.2.2.2.2.2.2.2.2.2.2.2.2.2.2.2.1 d M pc lv st S o x off tgt hd h0 (k0 X hX)
theorem zr_ifnonnullN {d : Nat} {M : zM} {pc : Nat} {lv : zL} {st : List Value} {S : zS} {o : zO} {off : Int} (hd : decode M.2.1 pc = .ok (.ifnonnull off, 3))  (k0 : z_Ex d M (pc + 3) lv (st) S o) : z_Ex d M pc lv (.null :: st) S o := fun X hX => hX.2.2.2.2.2.2.2.2.2.2.2.2.2.2.2.2.2.2.2.2.2.2.2.2.2.2.2.2.2.2.2.2.2.2.2.2.2.2.2.2.2.2.2.2.2.2.2.2.2.2.2.2.2.2.2.2.2.2.2.2.2.2.2.2.2.2.2.2.2.2.2.1 d M pc lv st S o off hd  (k0 X hX)
theorem zr_lookup {d : Nat} {M : zM} {pc : Nat} {lv : zL} {st : List Value} {S : zS} {o : zO} {x : Int32} {dflt off : Int} {ps : Array (Int × Int)} {len tgt : Nat} (hd : decode M.2.1 pc = .ok (.lookupswitch dflt ps, len)) (h0 : (ps.toList.zip (ps.toList.drop 1)).all (fun (a, next) => a.1 < next.1) = true) (h1 : Op.lookupswitch.offset ps.toList dflt x.toInt = off) (h2 : (pc : Int) + off = (tgt : Int)) (k0 : z_Ex d M (tgt) lv (st) S o) : z_Ex d M pc lv (.int x :: st) S o := fun X hX => hX.2.2.2.2.2.2.2.2.2.2.2.2.2.2.2.2.2.2.2.2.2.2.2.2.2.2.2.2.2.2.2.2.2.2.2.2.2.2.2.2.2.2.2.2.2.2.2.2.2.2.2.2.2.2.2.2.2.2.2.2.2.2.2.2.2.2.2.2.2.2.2.2.1 d M pc lv st S o x dflt off ps len tgt hd h0 h1 h2 (k0 X hX)
theorem zr_tableIn {d : Nat} {M : zM} {pc : Nat} {lv : zL} {st : List Value} {S : zS} {o : zO} {x : Int32} {dflt lo hi off : Int} {offs : Array Int} {len tgt : Nat} (hd : decode M.2.1 pc = .ok (.tableswitch dflt lo hi offs, len)) (h0 : ¬ x.toInt < lo) (h1 : ¬ hi < x.toInt) (h2 : offs[(x.toInt - lo).toNat]? = some off) (h3 : (pc : Int) + off = (tgt : Int)) (k0 : z_Ex d M (tgt) lv (st) S o) : z_Ex d M pc lv (.int x :: st) S o := fun X hX => hX.2.2.2.2.2.2.2.2.2.2.2.2.2.2.2.2.2.2.2.2.2.2.2.2.2.2.2.2.2.2.2.2.2.2.2.2.2.2.2.2.2.2.2.2.2.2.2.2.2.2.2.2.2.2.2.2.2.2.2.2.2.2.2.2.2.2.2.2.2.2.2.2.2.1 d M pc lv st S o x dflt lo hi off offs len tgt hd h0 h1 h2 h3 (k0 X hX)
theorem zr_tableOut {d : Nat} {M : zM} {pc : Nat} {lv : zL} {st : List Value} {S : zS} {o : zO} {x : Int32} {dflt lo hi : Int} {offs : Array Int} {len tgt : Nat} (hd : decode M.2.1 pc = .ok (.tableswitch dflt lo hi offs, len)) (h0 : x.toInt < lo ∨ hi < x.toInt) (h1 : (pc : Int) + dflt = (tgt : Int)) (k0 : z_Ex d M (tgt) lv (st) S o) : z_Ex d M pc lv (.int x :: st) S o := fun X hX => hX.2.2.2.2.2.2.2.2.2.2.2.2.2.2.2.2.2.2.2.2.2.2.2.2.2.2.2.2.2.2.2.2.2.2.2.2.2.2.2.2.2.2.2.2.2.2.2.2.2.2.2.2.2.2.2.2.2.2.2.2.2.2.2.2.2.2.2.2.2.2.2.2.2.2.1 d M pc lv st S o x dflt lo hi offs len tgt hd h0 h1 (k0 X hX)
theorem zr_getf {d : Nat} {M : zM} {pc : Nat} {lv : zL} {st : List Value} {S : zS} {o : zO} {idx i ci j : Nat} {ty : FieldType} {fin : Bool} {fs : List Value} {v : Value} (hd : decode M.2.1 pc = .ok (.getfield idx, 3)) (h0 : z_fOK M.1.cls idx ci j ty fin) (h1 : S.2.2 i = .inr (ci, fs)) (h2 : fs[j]? = some v) (k0 : z_Ex d M (pc + 3) lv (v :: st) S o) : z_Ex d M pc lv (.ref i :: st) S o := fun X hX => hX.2.2.2.2.2.2.2.2.2.2.2.2.2.2.2.2.2.2.2.2.2.2.2.2.2.2.2.2.2.2.2.2.2.2.2.2.2.2.2.2.2.2.2.2.2.2.2.2.2.2.2.2.2.2.2.2.2.2.2.2.2.2.2.2.2.2.2.2.2.2.2.2.2.2.2.1 d M pc lv st S o idx i ci j ty fin fs v hd h0 h1 h2 (k0 X hX)
theorem zr_putf {d : Nat} {M : zM} {pc : Nat} {lv : zL} {st : List Value} {S : zS} {o : zO} {idx i ci j : Nat} {ty : FieldType} {fs : List Value} {v : Value} (hd : decode M.2.1 pc = .ok (.putfield idx, 3)) (h0 : z_fOK M.1.cls idx ci j ty false) (h1 : S.2.2 i = .inr (ci, fs)) (h2 : j < fs.length) (h3 : narrow ty v = v ∧ fits ty v = true) (k0 : z_Ex d M (pc + 3) lv (st) (z_put S i (.inr (ci, fs.set j v))) o) : z_Ex d M pc lv (v :: .ref i :: st) S o := fun X hX => hX.2.2.2.2.2.2.2.2.2.2.2.2.2.2.2.2.2.2.2.2.2.2.2.2.2.2.2.2.2.2.2.2.2.2.2.2.2.2.2.2.2.2.2.2.2.2.2.2.2.2.2.2.2.2.2.2.2.2.2.2.2.2.2.2.2.2.2.2.2.2.2.2.2.2.2.2.1 d M pc lv st S o idx i ci j ty fs v hd h0 h1 h2 h3 (k0 X hX)
theorem zr_putF {d : Nat} {M : zM} {pc : Nat} {lv : zL} {st : List Value} {S : zS} {o : zO} {idx i ci j : Nat} {ty : FieldType} {fs : List Value} {v : Value} (hd : decode M.2.1 pc = .ok (.putfield idx, 3)) (h0 : z_fO1 M.1.cls idx ci j ty) (h1 : S.2.2 i = .inr (ci, fs)) (h2 : j < fs.length) (h3 : narrow ty v = v ∧ fits ty v = true) (h4 : M.1.name = "<init>") (k0 : z_Ex d M (pc + 3) lv (st) (z_put S i (.inr (ci, fs.set j v))) o) : z_Ex d M pc lv (v :: .ref i :: st) S o := fun X hX => hX.2.2.2.2.2.2.2.2.2.2.2.2.2.2.2.2.2.2.2.2.2.2.2.2.2.2.2.2.2.2.2.2.2.2.2.2.2.2.2.2.2.2.2.2.2.2.2.2.2.2.2.2.2.2.2.2.2.2.2.2.2.2.2.2.2.2.2.2.2.2.2.2.2.2.2.2.2.1 d M pc lv st S o idx i ci j ty fs v hd h0 h1 h2 h3 h4 (k0 X hX)
theorem zr_bald {d : Nat} {M : zM} {pc : Nat} {lv : zL} {st : List Value} {S : zS} {o : zO} {i n : Nat} {x : Int32} {g : Nat → Int32} (hd : decode M.2.1 pc = .ok (.baload, 1)) (h0 : S.2.2 i = .inl (.byte, n, .inl g)) (h1 : vp_in x n) (k0 : z_Ex d M (pc + 1) lv (.int (g x.toNatClampNeg) :: st) S o) : z_Ex d M pc lv (.int x :: .ref i :: st) S o := fun X hX => hX.2.2.2.2.2.2.2.2.2.2.2.2.2.2.2.2.2.2.2.2.2.2.2.2.2.2.2.2.2.2.2.2.2.2.2.2.2.2.2.2.2.2.2.2.2.2.2.2.2.2.2.2.2.2.2.2.2.2.2.2.2.2.2.2.2.2.2.2.2.2.2.2.2.2.2.2.2.2.1 d M pc lv st S o i n x g hd h0 h1 (k0 X hX)
theorem zr_zald {d : Nat} {M : zM} {pc : Nat} {lv : zL} {st : List Value} {S : zS} {o : zO} {i n : Nat} {x : Int32} {g : Nat → Int32} (hd : decode M.2.1 pc = .ok (.baload, 1)) (h0 : S.2.2 i = .inl (.boolean, n, .inl g)) (h1 : vp_in x n) (k0 : z_Ex d M (pc + 1) lv (.int (g x.toNatClampNeg) :: st) S o) : z_Ex d M pc lv (.int x :: .ref i :: st) S o := fun X hX => hX.2.2.2.2.2.2.2.2.2.2.2.2.2.2.2.2.2.2.2.2.2.2.2.2.2.2.2.2.2.2.2.2.2.2.2.2.2.2.2.2.2.2.2.2.2.2.2.2.2.2.2.2.2.2.2.2.2.2.2.2.2.2.2.2.2.2.2.2.2.2.2.2.2.2.2.2.2.2.2.1 d M pc lv st S o i n x g hd h0 h1 (k0 X hX)
theorem zr_iald {d : Nat} {M : zM} {pc : Nat} {lv : zL} {st : List Value} {S : zS} {o : zO} {i n : Nat} {x : Int32} {g : Nat → Int32} (hd : decode M.2.1 pc = .ok (.iaload, 1)) (h0 : S.2.2 i = .inl (.int, n, .inl g)) (h1 : vp_in x n) (k0 : z_Ex d M (pc + 1) lv (.int (g x.toNatClampNeg) :: st) S o) : z_Ex d M pc lv (.int x :: .ref i :: st) S o := fun X hX => hX.2.2.2.2.2.2.2.2.2.2.2.2.2.2.2.2.2.2.2.2.2.2.2.2.2.2.2.2.2.2.2.2.2.2.2.2.2.2.2.2.2.2.2.2.2.2.2.2.2.2.2.2.2.2.2.2.2.2.2.2.2.2.2.2.2.2.2.2.2.2.2.2.2.2.2.2.2.2.2.2.1 d M pc lv st S o i n x g hd h0 h1 (k0 X hX)
theorem zr_lald {d : Nat} {M : zM} {pc : Nat} {lv : zL} {st : List Value} {S : zS} {o : zO} {i n : Nat} {x : Int32} {g : Nat → Int64} (hd : decode M.2.1 pc = .ok (.laload, 1)) (h0 : S.2.2 i = .inl (.long, n, .inr (.inl g))) (h1 : vp_in x n) (k0 : z_Ex d M (pc + 1) lv (.long (g x.toNatClampNeg) :: st) S o) : z_Ex d M pc lv (.int x :: .ref i :: st) S o := fun X hX => hX.2.2.2.2.2.2.2.2.2.2.2.2.2.2.2.2.2.2.2.2.2.2.2.2.2.2.2.2.2.2.2.2.2.2.2.2.2.2.2.2.2.2.2.2.2.2.2.2.2.2.2.2.2.2.2.2.2.2.2.2.2.2.2.2.2.2.2.2.2.2.2.2.2.2.2.2.2.2.2.2.2.1 d M pc lv st S o i n x g hd h0 h1 (k0 X hX)
theorem zr_aald {d : Nat} {M : zM} {pc : Nat} {lv : zL} {st : List Value} {S : zS} {o : zO} {i n : Nat} {x : Int32} {ty : FieldType} {g : Nat → Option Nat} (hd : decode M.2.1 pc = .ok (.aaload, 1)) (h0 : S.2.2 i = .inl (ty, n, .inr (.inr (.inr (.inr g))))) (h1 : vp_in x n) (h2 : ty.isReference = true) (k0 : z_Ex d M (pc + 1) lv (va_rf (g x.toNatClampNeg) :: st) S o) : z_Ex d M pc lv (.int x :: .ref i :: st) S o := fun X hX => hX.2.2.2.2.2.2.2.2.2.2.2.2.2.2.2.2.2.2.2.2.2.2.2.2.2.2.2.2.2.2.2.2.2.2.2.2.2.2.2.2.2.2.2.2.2.2.2.2.2.2.2.2.2.2.2.2.2.2.2.2.2.2.2.2.2.2.2.2.2.2.2.2.2.2.2.2.2.2.2.2.2.2.1 d M pc lv st S o i n x ty g hd h0 h1 h2 (k0 X hX)
theorem zr_bast {d : Nat} {M : zM} {pc : Nat} {lv : zL} {st : List Value} {S : zS} {o : zO} {i n : Nat} {x : Int32} {g : Nat → Int32} {y : Int32} (hd : decode M.2.1 pc = .ok (.bastore, 1)) (h0 : S.2.2 i = .inl (.byte, n, .inl g)) (h1 : vp_in x n) (k0 : z_Ex d M (pc + 1) lv (st) (z_put S i (.inl (.byte, n, .inl (upd g x.toNatClampNeg (vp_nar .byte y))))) o) : z_Ex d M pc lv (.int y :: .int x :: .ref i :: st) S o := fun X hX => hX.2.2.2.2.2.2.2.2.2.2.2.2.2.2.2.2.2.2.2.2.2.2.2.2.2.2.2.2.2.2.2.2.2.2.2.2.2.2.2.2.2.2.2.2.2.2.2.2.2.2.2.2.2.2.2.2.2.2.2.2.2.2.2.2.2.2.2.2.2.2.2.2.2.2.2.2.2.2.2.2.2.2.2.1 d M pc lv st S o i n x g y hd h0 h1 (k0 X hX)
theorem zr_zast {d : Nat} {M : zM} {pc : Nat} {lv : zL} {st : List Value} {S : zS} {o : zO} {i n : Nat} {x : Int32} {g : Nat → Int32} {y : Int32} (hd : decode M.2.1 pc = .ok (.bastore, 1)) (h0 : S.2.2 i = .inl (.boolean, n, .inl g)) (h1 : vp_in x n) (k0 : z_Ex d M (pc + 1) lv (st) (z_put S i (.inl (.boolean, n, .inl (upd g x.toNatClampNeg (vp_nar .boolean y))))) o) : z_Ex d M pc lv (.int y :: .int x :: .ref i :: st) S o := fun X hX => hX.2.2.2.2.2.2.2.2.2.2.2.2.2.2.2.2.2.2.2.2.2.2.2.2.2.2.2.2.2.2.2.2.2.2.2.2.2.2.2.2.2.2.2.2.2.2.2.2.2.2.2.2.2.2.2.2.2.2.2.2.2.2.2.2.2.2.2.2.2.2.2.2.2.2.2.2.2.2.2.2.2.2.2.2.1 d M pc lv st S o i n x g y hd h0 h1 (k0 X hX)
theorem zr_iast {d : Nat} {M : zM} {pc : Nat} {lv : zL} {st : List Value} {S : zS} {o : zO} {i n : Nat} {x : Int32} {g : Nat → Int32} {y : Int32} (hd : decode M.2.1 pc = .ok (.iastore, 1)) (h0 : S.2.2 i = .inl (.int, n, .inl g)) (h1 : vp_in x n) (k0 : z_Ex d M (pc + 1) lv (st) (z_put S i (.inl (.int, n, .inl (upd g x.toNatClampNeg y)))) o) : z_Ex d M pc lv (.int y :: .int x :: .ref i :: st) S o := fun X hX => hX.2.2.2.2.2.2.2.2.2.2.2.2.2.2.2.2.2.2.2.2.2.2.2.2.2.2.2.2.2.2.2.2.2.2.2.2.2.2.2.2.2.2.2.2.2.2.2.2.2.2.2.2.2.2.2.2.2.2.2.2.2.2.2.2.2.2.2.2.2.2.2.2.2.2.2.2.2.2.2.2.2.2.2.2.2.1 d M pc lv st S o i n x g y hd h0 h1 (k0 X hX)
theorem zr_last {d : Nat} {M : zM} {pc : Nat} {lv : zL} {st : List Value} {S : zS} {o : zO} {i n : Nat} {x : Int32} {g : Nat → Int64} {y : Int64} (hd : decode M.2.1 pc = .ok (.lastore, 1)) (h0 : S.2.2 i = .inl (.long, n, .inr (.inl g))) (h1 : vp_in x n) (k0 : z_Ex d M (pc + 1) lv (st) (z_put S i (.inl (.long, n, .inr (.inl (vp_updL g x.toNatClampNeg y))))) o) : z_Ex d M pc lv (.long y :: .int x :: .ref i :: st) S o := fun X hX => hX.2.2.2.2.2.2.2.2.2.2.2.2.2.2.2.2.2.2.2.2.2.2.2.2.2.2.2.2.2.2.2.2.2.2.2.2.2.2.2.2.2.2.2.2.2.2.2.2.2.2.2.2.2.2.2.2.2.2.2.2.2.2.2.2.2.2.2.2.2.2.2.2.2.2.2.2.2.2.2.2.2.2.2.2.2.2.1 d M pc lv st S o i n x g y hd h0 h1 (k0 X hX)
theorem zr_aast {d : Nat} {M : zM} {pc : Nat} {lv : zL} {st : List Value} {S : zS} {o : zO} {i n j ci : Nat} {x : Int32} {r : vw_C} {g : Nat → Option Nat} {vs : List Value} (hd : decode M.2.1 pc = .ok (.aastore, 1)) (h0 : S.2.2 i = .inl (.object r.1, n, .inr (.inr (.inr (.inr g))))) (h1 : vp_in x n) (h2 : S.2.2 j = .inr (ci, vs)) (h3 : vwCl[ci]? = some r) (k0 : z_Ex d M (pc + 1) lv (st) (z_put S i (.inl (.object r.1, n, .inr (.inr (.inr (.inr (va_up g x.toNatClampNeg (some j)))))))) o) : z_Ex d M pc lv (.ref j :: .int x :: .ref i :: st) S o := fun X hX => hX.2.2.2.2.2.2.2.2.2.2.2.2.2.2.2.2.2.2.2.2.2.2.2.2.2.2.2.2.2.2.2.2.2.2.2.2.2.2.2.2.2.2.2.2.2.2.2.2.2.2.2.2.2.2.2.2.2.2.2.2.2.2.2.2.2.2.2.2.2.2.2.2.2.2.2.2.2.2.2.2.2.2.2.2.2.2.2.1 d M pc lv st S o i n j ci x r g vs hd h0 h1 h2 h3 (k0 X hX)
theorem zr_alen {d : Nat} {M : zM} {pc : Nat} {lv : zL} {st : List Value} {S : zS} {o : zO} {i : Nat} {ty : FieldType} {a : vp_A} (hd : decode M.2.1 pc = .ok (.arraylength, 1)) (h0 : S.2.2 i = .inl (ty, a)) (k0 : z_Ex d M (pc + 1) lv (.int (Int32.ofNat a.1) :: st) S o) : z_Ex d M pc lv (.ref i :: st) S o := fun X hX => hX.2.2.2.2.2.2.2.2.2.2.2.2.2.2.2.2.2.2.2.2.2.2.2.2.2.2.2.2.2.2.2.2.2.2.2.2.2.2.2.2.2.2.2.2.2.2.2.2.2.2.2.2.2.2.2.2.2.2.2.2.2.2.2.2.2.2.2.2.2.2.2.2.2.2.2.2.2.2.2.2.2.2.2.2.2.2.2.2.1 d M pc lv st S o i ty a hd h0 (k0 X hX)
theorem zr_new {d : Nat} {M : zM} {pc : Nat} {lv : zL} {st : List Value} {S : zS} {o : zO} {idx ci n : Nat} {fs : List Value} (hd : decode M.2.1 pc = .ok (.new idx, 3)) (h0 : z_nOK M.1.cls idx ci n fs) (k0 : z_Ex d M (pc + 3) lv (.ref S.1 :: st) (z_new S (.inr (ci, fs)) n) o) : z_Ex d M pc lv (st) S o := fun X hX => hX.2.2.2.2.2.2.2.2.2.2.2.2.2.2.2.2.2.2.2.2.2.2.2.2.2.2.2.2.2.2.2.2.2.2.2.2.2.2.2.2.2.2.2.2.2.2.2.2.2.2.2.2.2.2.2.2.2.2.2.2.2.2.2.2.2.2.2.2.2.2.2.2.2.2.2.2.2.2.2.2.2.2.2.2.2.2.2.2.2.1 d M pc lv st S o idx ci n fs hd h0 (k0 X hX)
theorem zr_newi {d : Nat} {M : zM} {pc : Nat} {lv : zL} {st : List Value} {S : zS} {o : zO} {n : Int32} {N : Nat} (hd : decode M.2.1 pc = .ok (.newarray .int, 2)) (h0 : ¬ n < 0) (h1 : n.toNatClampNeg = N) (h2 : N * componentBytes .int ≤ 536870912) (h3 : Cond.arrayClass .int ∈ z_tb) (k0 : z_Ex d M (pc + 2) lv (.ref S.1 :: st) (z_new S (.inl (.int, N, .inl (fun _ => 0))) N) o) : z_Ex d M pc lv (.int n :: st) S o := fun X hX => hX.2.2.2.2.2.2.2.2.2.2.2.2.2.2.2.2.2.2.2.2.2.2.2.2.2.2.2.2.2.2.2.2.2.2.2.2.2.2.2.2.2.2.2.2.2.2.2.2.2.2.2.2.2.2.2.2.2.2.2.2.2.2.2.2.2.2.2.2.2.2.2.2.2.2.2.2.2.2.2.2.2.2.2.2.2.2.2.2.2.2.1 d M pc lv st S o n N hd h0 h1 h2 h3 (k0 X hX)
theorem zr_newb {d : Nat} {M : zM} {pc : Nat} {lv : zL} {st : List Value} {S : zS} {o : zO} {n : Int32} {N : Nat} (hd : decode M.2.1 pc = .ok (.newarray .byte, 2)) (h0 : ¬ n < 0) (h1 : n.toNatClampNeg = N) (h2 : N * componentBytes .byte ≤ 536870912) (h3 : Cond.arrayClass .byte ∈ z_tb) (k0 : z_Ex d M (pc + 2) lv (.ref S.1 :: st) (z_new S (.inl (.byte, N, .inl (fun _ => 0))) N) o) : z_Ex d M pc lv (.int n :: st) S o := fun X hX => hX.2.2.2.2.2.2.2.2.2.2.2.2.2.2.2.2.2.2.2.2.2.2.2.2.2.2.2.2.2.2.2.2.2.2.2.2.2.2.2.2.2.2.2.2.2.2.2.2.2.2.2.2.2.2.2.2.2.2.2.2.2.2.2.2.2.2.2.2.2.2.2.2.2.2.2.2.2.2.2.2.2.2.2.2.2.2.2.2.2.2.2.1 d M pc lv st S o n N hd h0 h1 h2 h3 (k0 X hX)
theorem zr_newz {d : Nat} {M : zM} {pc : Nat} {lv : zL} {st : List Value} {S : zS} {o : zO} {n : Int32} {N : Nat} (hd : decode M.2.1 pc = .ok (.newarray .boolean, 2)) (h0 : ¬ n < 0) (h1 : n.toNatClampNeg = N) (h2 : N * componentBytes .boolean ≤ 536870912) (h3 : Cond.arrayClass .boolean ∈ z_tb) (k0 : z_Ex d M (pc + 2) lv (.ref S.1 :: st) (z_new S (.inl (.boolean, N, .inl (fun _ => 0))) N) o) : z_Ex d M pc lv (.int n :: st) S o := fun X hX => hX.2.2.2.2.2.2.2.2.2.2.2.2.2.2.2.2.2.2.2.2.2.2.2.2.2.2.2.2.2.2.2.2.2.2.2.2.2.2.2.2.2.2.2.2.2.2.2.2.2.2.2.2.2.2.2.2.2.2.2.2.2.2.2.2.2.2.2.2.2.2.2.2.2.2.2.2.2.2.2.2.2.2.2.2.2.2.2.2.2.2.2.2.1 d M pc lv st S o n N hd h0 h1 h2 h3 (k0 X hX)
theorem zr_newl {d : Nat} {M : zM} {pc : Nat} {lv : zL} {st : List Value} {S : zS} {o : zO} {n : Int32} {N : Nat} (hd : decode M.2.1 pc = .ok (.newarray .long, 2)) (h0 : ¬ n < 0) (h1 : n.toNatClampNeg = N) (h2 : N * componentBytes .long ≤ 536870912) (h3 : Cond.arrayClass .long ∈ z_tb) (k0 : z_Ex d M (pc + 2) lv (.ref S.1 :: st) (z_new S (.inl (.long, N, .inr (.inl (fun _ => 0)))) N) o) : z_Ex d M pc lv (.int n :: st) S o := fun X hX => hX.2.2.2.2.2.2.2.2.2.2.2.2.2.2.2.2.2.2.2.2.2.2.2.2.2.2.2.2.2.2.2.2.2.2.2.2.2.2.2.2.2.2.2.2.2.2.2.2.2.2.2.2.2.2.2.2.2.2.2.2.2.2.2.2.2.2.2.2.2.2.2.2.2.2.2.2.2.2.2.2.2.2.2.2.2.2.2.2.2.2.2.2.2.1 d M pc lv st S o n N hd h0 h1 h2 h3 (k0 X hX)
theorem zr_ldc {d : Nat} {M : zM} {pc : Nat} {lv : zL} {st : List Value} {S : zS} {o : zO} {idx : Nat} {v : Int32} (hd : decode M.2.1 pc = .ok (.ldc idx, 2)) (h0 : Cond.constant M.1.cls idx v ∈ z_tb) (k0 : z_Ex d M (pc + 2) lv (.int v :: st) S o) : z_Ex d M pc lv (st) S o := fun X hX => hX.2.2.2.2.2.2.2.2.2.2.2.2.2.2.2.2.2.2.2.2.2.2.2.2.2.2.2.2.2.2.2.2.2.2.2.2.2.2.2.2.2.2.2.2.2.2.2.2.2.2.2.2.2.2.2.2.2.2.2.2.2.2.2.2.2.2.2.2.2.2.2.2.2.2.2.2.2.2.2.2.2.2.2.2.2.2.2.2.2.2.2.2.2.2.1 d M pc lv st S o idx v hd h0 (k0 X hX)
theorem zr_ldcw {d : Nat} {M : zM} {pc : Nat} {lv : zL} {st : List Value} {S : zS} {o : zO} {idx : Nat} {v : Int32} (hd : decode M.2.1 pc = .ok (.ldc_w idx, 3)) (h0 : Cond.constant M.1.cls idx v ∈ z_tb) (k0 : z_Ex d M (pc + 3) lv (.int v :: st) S o) : z_Ex d M pc lv (st) S o := fun X hX => hX.2.2.2.2.2.2.2.2.2.2.2.2.2.2.2.2.2.2.2.2.2.2.2.2.2.2.2.2.2.2.2.2.2.2.2.2.2.2.2.2.2.2.2.2.2.2.2.2.2.2.2.2.2.2.2.2.2.2.2.2.2.2.2.2.2.2.2.2.2.2.2.2.2.2.2.2.2.2.2.2.2.2.2.2.2.2.2.2.2.2.2.2.2.2.2.1 d M pc lv st S o idx v hd h0 (k0 X hX)
theorem zr_ldc2 {d : Nat} {M : zM} {pc : Nat} {lv : zL} {st : List Value} {S : zS} {o : zO} {idx : Nat} {v : Int64} (hd : decode M.2.1 pc = .ok (.ldc2_w idx, 3)) (h0 : Cond.constantLong M.1.cls idx v ∈ z_tb) (k0 : z_Ex d M (pc + 3) lv (.long v :: st) S o) : z_Ex d M pc lv (st) S o := fun X hX => hX.2.2.2.2.2.2.2.2.2.2.2.2.2.2.2.2.2.2.2.2.2.2.2.2.2.2.2.2.2.2.2.2.2.2.2.2.2.2.2.2.2.2.2.2.2.2.2.2.2.2.2.2.2.2.2.2.2.2.2.2.2.2.2.2.2.2.2.2.2.2.2.2.2.2.2.2.2.2.2.2.2.2.2.2.2.2.2.2.2.2.2.2.2.2.2.2.1 d M pc lv st S o idx v hd h0 (k0 X hX)
theorem zr_lcmp {d : Nat} {M : zM} {pc : Nat} {lv : zL} {st : List Value} {S : zS} {o : zO} {x y : Int64} (hd : decode M.2.1 pc = .ok (.lcmp, 1))  (k0 : z_Ex d M (pc + 1) lv (.int (lg_cmp x y) :: st) S o) : z_Ex d M pc lv (.long y :: .long x :: st) S o := fun X hX => hX.2.2.2.2.2.2.2.2.2.2.2.2.2.2.2.2.2.2.2.2.2.2.2.2.2.2.2.2.2.2.2.2.2.2.2.2.2.2.2.2.2.2.2.2.2.2.2.2.2.2.2.2.2.2.2.2.2.2.2.2.2.2.2.2.2.2.2.2.2.2.2.2.2.2.2.2.2.2.2.2.2.2.2.2.2.2.2.2.2.2.2.2.2.2.2.2.2.1 d M pc lv st S o x y hd  (k0 X hX)
theorem zr_dup_x1 {d : Nat} {M : zM} {pc : Nat} {lv : zL} {st : List Value} {S : zS} {o : zO} {v u : Value} (hd : decode M.2.1 pc = .ok (.dup_x1, 1)) (h0 : v.category = 1) (h1 : u.category = 1) (k0 : z_Ex d M (pc + 1) lv (v :: u :: v :: st) S o) : z_Ex d M pc lv (v :: u :: st) S o := fun X hX => hX.2.2.2.2.2.2.2.2.2.2.2.2.2.2.2.2.2.2.2.2.2.2.2.2.2.2.2.2.2.2.2.2.2.2.2.2.2.2.2.2.2.2.2.2.2.2.2.2.2.2.2.2.2.2.2.2.2.2.2.2.2.2.2.2.2.2.2.2.2.2.2.2.2.2.2.2.2.2.2.2.2.2.2.2.2.2.2.2.2.2.2.2.2.2.2.2.2.2.1 d M pc lv st S o v u hd h0 h1 (k0 X hX)
theorem zr_objInit {d : Nat} {M : zM} {pc : Nat} {lv : zL} {st : List Value} {S : zS} {o : zO} {idx i : Nat} (hd : decode M.2.1 pc = .ok (.invokespecial idx, 3)) (h0 : Cond.methodLink M.1.cls idx Lib.objectInit ∈ z_tb) (h1 : (st.map Value.category).sum ≤ 8) (k0 : z_Ex (d + 1) M (pc + 3) lv (st) S o) : z_Ex (d + 1) M pc lv (.ref i :: st) S o := fun X hX => hX.2.2.2.2.2.2.2.2.2.2.2.2.2.2.2.2.2.2.2.2.2.2.2.2.2.2.2.2.2.2.2.2.2.2.2.2.2.2.2.2.2.2.2.2.2.2.2.2.2.2.2.2.2.2.2.2.2.2.2.2.2.2.2.2.2.2.2.2.2.2.2.2.2.2.2.2.2.2.2.2.2.2.2.2.2.2.2.2.2.2.2.2.2.2.2.2.2.2.2.1 d M pc lv st S o idx i hd h0 h1 (k0 X hX)
theorem zr_mmax {d : Nat} {M : zM} {pc : Nat} {lv : zL} {st : List Value} {S : zS} {o : zO} {idx : Nat} {x y : Int32} (hd : decode M.2.1 pc = .ok (.invokestatic idx, 3)) (h0 : Cond.methodLink M.1.cls idx Lib.Math.max.name ∈ z_tb) (h1 : (st.map Value.category).sum ≤ 8) (k0 : z_Ex (d + 1) M (pc + 3) lv (.int (if x < y then y else x) :: st) S o) : z_Ex (d + 1) M pc lv (.int y :: .int x :: st) S o := fun X hX => hX.2.2.2.2.2.2.2.2.2.2.2.2.2.2.2.2.2.2.2.2.2.2.2.2.2.2.2.2.2.2.2.2.2.2.2.2.2.2.2.2.2.2.2.2.2.2.2.2.2.2.2.2.2.2.2.2.2.2.2.2.2.2.2.2.2.2.2.2.2.2.2.2.2.2.2.2.2.2.2.2.2.2.2.2.2.2.2.2.2.2.2.2.2.2.2.2.2.2.2.2.1 d M pc lv st S o idx x y hd h0 h1 (k0 X hX)
theorem zr_mmin {d : Nat} {M : zM} {pc : Nat} {lv : zL} {st : List Value} {S : zS} {o : zO} {idx : Nat} {x y : Int32} (hd : decode M.2.1 pc = .ok (.invokestatic idx, 3)) (h0 : Cond.methodLink M.1.cls idx Lib.Math.min.name ∈ z_tb) (h1 : (st.map Value.category).sum ≤ 8) (k0 : z_Ex (d + 1) M (pc + 3) lv (.int (if y < x then y else x) :: st) S o) : z_Ex (d + 1) M pc lv (.int y :: .int x :: st) S o := fun X hX => hX.2.2.2.2.2.2.2.2.2.2.2.2.2.2.2.2.2.2.2.2.2.2.2.2.2.2.2.2.2.2.2.2.2.2.2.2.2.2.2.2.2.2.2.2.2.2.2.2.2.2.2.2.2.2.2.2.2.2.2.2.2.2.2.2.2.2.2.2.2.2.2.2.2.2.2.2.2.2.2.2.2.2.2.2.2.2.2.2.2.2.2.2.2.2.2.2.2.2.2.2.2.1 d M pc lv st S o idx x y hd h0 h1 (k0 X hX)
theorem zr_cast {d : Nat} {M : zM} {pc : Nat} {lv : zL} {st : List Value} {S : zS} {o : zO} {idx i ci n : Nat} {fs fs0 : List Value} (hd : decode M.2.1 pc = .ok (.checkcast idx, 3)) (h0 : z_nOK M.1.cls idx ci n fs0) (h1 : S.2.2 i = .inr (ci, fs)) (k0 : z_Ex d M (pc + 3) lv (.ref i :: st) S o) : z_Ex d M pc lv (.ref i :: st) S o := fun X hX => hX.2.2.2.2.2.2.2.2.2.2.2.2.2.2.2.2.2.2.2.2.2.2.2.2.2.2.2.2.2.2.2.2.2.2.2.2.2.2.2.2.2.2.2.2.2.2.2.2.2.2.2.2.2.2.2.2.2.2.2.2.2.2.2.2.2.2.2.2.2.2.2.2.2.2.2.2.2.2.2.2.2.2.2.2.2.2.2.2.2.2.2.2.2.2.2.2.2.2.2.2.2.2.1 d M pc lv st S o idx i ci n fs fs0 hd h0 h1 (k0 X hX)
theorem zr_castN {d : Nat} {M : zM} {pc : Nat} {lv : zL} {st : List Value} {S : zS} {o : zO} {idx : Nat} (hd : decode M.2.1 pc = .ok (.checkcast idx, 3))  (k0 : z_Ex d M (pc + 3) lv (.null :: st) S o) : z_Ex d M pc lv (.null :: st) S o := fun X hX => hX.2.2.2.2.2.2.2.2.2.2.2.2.2.2.2.2.2.2.2.2.2.2.2.2.2.2.2.2.2.2.2.2.2.2.2.2.2.2.2.2.2.2.2.2.2.2.2.2.2.2.2.2.2.2.2.2.2.2.2.2.2.2.2.2.2.2.2.2.2.2.2.2.2.2.2.2.2.2.2.2.2.2.2.2.2.2.2.2.2.2.2.2.2.2.2.2.2.2.2.2.2.2.2.1 d M pc lv st S o idx hd  (k0 X hX)
theorem zr_aastN {d : Nat} {M : zM} {pc : Nat} {lv : zL} {st : List Value} {S : zS} {o : zO} {i n : Nat} {x : Int32} {C9 : String} {g : Nat → Option Nat} (hd : decode M.2.1 pc = .ok (.aastore, 1)) (h0 : S.2.2 i = .inl (.object C9, n, .inr (.inr (.inr (.inr g))))) (h1 : vp_in x n) (k0 : z_Ex d M (pc + 1) lv (st) (z_put S i (.inl (.object C9, n, .inr (.inr (.inr (.inr (va_up g x.toNatClampNeg none))))))) o) : z_Ex d M pc lv (.null :: .int x :: .ref i :: st) S o := fun X hX => hX.2.2.2.2.2.2.2.2.2.2.2.2.2.2.2.2.2.2.2.2.2.2.2.2.2.2.2.2.2.2.2.2.2.2.2.2.2.2.2.2.2.2.2.2.2.2.2.2.2.2.2.2.2.2.2.2.2.2.2.2.2.2.2.2.2.2.2.2.2.2.2.2.2.2.2.2.2.2.2.2.2.2.2.2.2.2.2.2.2.2.2.2.2.2.2.2.2.2.2.2.2.2.2.2.1 d M pc lv st S o i n x C9 g hd h0 h1 (k0 X hX)
theorem zr_anewq {d : Nat} {M : zM} {pc : Nat} {lv : zL} {st : List Value} {S : zS} {o : zO} {idx : Nat} {C9 : String} {n : Int32} {N : Nat} (hd : decode M.2.1 pc = .ok (.anewarray idx, 3)) (h0 : Cond.classLink M.1.cls idx C9 ∈ z_tb ∧ Cond.arrayOver (.object C9) ∈ tables_1) (h1 : ¬ n < 0) (h2 : n.toNatClampNeg = N) (h3 : N * 4 ≤ 536870912) (k0 : z_Ex d M (pc + 3) lv (.ref S.1 :: st) (z_new S (.inl (.object C9, N, .inr (.inr (.inr (.inr (fun _ => none)))))) N) o) : z_Ex d M pc lv (.int n :: st) S o := fun X hX => hX.2.2.2.2.2.2.2.2.2.2.2.2.2.2.2.2.2.2.2.2.2.2.2.2.2.2.2.2.2.2.2.2.2.2.2.2.2.2.2.2.2.2.2.2.2.2.2.2.2.2.2.2.2.2.2.2.2.2.2.2.2.2.2.2.2.2.2.2.2.2.2.2.2.2.2.2.2.2.2.2.2.2.2.2.2.2.2.2.2.2.2.2.2.2.2.2.2.2.2.2.2.2.2.2.2.1 d M pc lv st S o idx C9 n N hd h0 h1 h2 h3 (k0 X hX)
theorem zr_ldcS {d : Nat} {M : zM} {pc : Nat} {lv : zL} {st : List Value} {S : zS} {o : zO} {idx k9 : Nat} (hd : decode M.2.1 pc = .ok (.ldc_w idx, 3)) (h0 : M.1.cls = "MacroReader" ∧ (z_sx[k9]?).map (fun q => q.1) = some idx) (k0 : z_Ex d M (pc + 3) lv (.retAddr k9 :: st) S o) : z_Ex d M pc lv (st) S o := fun X hX => hX.2.2.2.2.2.2.2.2.2.2.2.2.2.2.2.2.2.2.2.2.2.2.2.2.2.2.2.2.2.2.2.2.2.2.2.2.2.2.2.2.2.2.2.2.2.2.2.2.2.2.2.2.2.2.2.2.2.2.2.2.2.2.2.2.2.2.2.2.2.2.2.2.2.2.2.2.2.2.2.2.2.2.2.2.2.2.2.2.2.2.2.2.2.2.2.2.2.2.2.2.2.2.2.2.2.2.1 d M pc lv st S o idx k9 hd h0 (k0 X hX)
theorem zr_slen {d : Nat} {M : zM} {pc : Nat} {lv : zL} {st : List Value} {S : zS} {o : zO} {idx k9 : Nat} (hd : decode M.2.1 pc = .ok (.invokevirtual idx, 3)) (h0 : Cond.methodLink M.1.cls idx yJ0_length_8abf5 ∈ z_tb) (h1 : k9 < 7) (h2 : (st.map Value.category).sum ≤ 8) (k0 : z_Ex (d + 2) M (pc + 3) lv (.int (nI (z_sb k9).length) :: st) S o) : z_Ex (d + 2) M pc lv (.retAddr k9 :: st) S o := fun X hX => hX.2.2.2.2.2.2.2.2.2.2.2.2.2.2.2.2.2.2.2.2.2.2.2.2.2.2.2.2.2.2.2.2.2.2.2.2.2.2.2.2.2.2.2.2.2.2.2.2.2.2.2.2.2.2.2.2.2.2.2.2.2.2.2.2.2.2.2.2.2.2.2.2.2.2.2.2.2.2.2.2.2.2.2.2.2.2.2.2.2.2.2.2.2.2.2.2.2.2.2.2.2.2.2.2.2.2.2.1 d M pc lv st S o idx k9 hd h0 h1 h2 (k0 X hX)
theorem zr_schar {d : Nat} {M : zM} {pc : Nat} {lv : zL} {st : List Value} {S : zS} {o : zO} {idx k9 j : Nat} (hd : decode M.2.1 pc = .ok (.invokevirtual idx, 3)) (h0 : Cond.methodLink M.1.cls idx yJ0_charAt_5068e ∈ z_tb) (h1 : k9 < 7) (h2 : j < (z_sb k9).length) (h3 : (st.map Value.category).sum ≤ 8) (k0 : z_Ex (d + 5) M (pc + 3) lv (.int (nI ((z_sb k9).getD j 0)) :: st) S o) : z_Ex (d + 5) M pc lv (.int (nI j) :: .retAddr k9 :: st) S o := fun X hX => hX.2.2.2.2.2.2.2.2.2.2.2.2.2.2.2.2.2.2.2.2.2.2.2.2.2.2.2.2.2.2.2.2.2.2.2.2.2.2.2.2.2.2.2.2.2.2.2.2.2.2.2.2.2.2.2.2.2.2.2.2.2.2.2.2.2.2.2.2.2.2.2.2.2.2.2.2.2.2.2.2.2.2.2.2.2.2.2.2.2.2.2.2.2.2.2.2.2.2.2.2.2.2.2.2.2.2.2.2.1 d M pc lv st S o idx k9 j hd h0 h1 h2 h3 (k0 X hX)
theorem zr_copyB {d : Nat} {M : zM} {pc : Nat} {lv : zL} {st : List Value} {S : zS} {o : zO} {idx i n N : Nat} {g : Nat → Int32} (hd : decode M.2.1 pc = .ok (.invokestatic idx, 3)) (h0 : Cond.methodLink M.1.cls idx yJ7_copyOf_9075b ∈ z_tb) (h1 : S.2.2 i = .inl (.byte, n, .inl g)) (h2 : n < N ∧ N < 2 ^ 28) (h3 : (st.map Value.category).sum ≤ 8) (k0 : z_Ex (d + 3) M (pc + 3) lv (.ref S.1 :: st) (z_new S (.inl (.byte, N, .inl (va_cpy g (fun _ => 0) 0 0 n))) N) o) : z_Ex (d + 3) M pc lv (.int (nI N) :: .ref i :: st) S o := fun X hX => hX.2.2.2.2.2.2.2.2.2.2.2.2.2.2.2.2.2.2.2.2.2.2.2.2.2.2.2.2.2.2.2.2.2.2.2.2.2.2.2.2.2.2.2.2.2.2.2.2.2.2.2.2.2.2.2.2.2.2.2.2.2.2.2.2.2.2.2.2.2.2.2.2.2.2.2.2.2.2.2.2.2.2.2.2.2.2.2.2.2.2.2.2.2.2.2.2.2.2.2.2.2.2.2.2.2.2.2.2.2.1 d M pc lv st S o idx i n N g hd h0 h1 h2 h3 (k0 X hX)
theorem zr_copyI {d : Nat} {M : zM} {pc : Nat} {lv : zL} {st : List Value} {S : zS} {o : zO} {idx i n N : Nat} {g : Nat → Int32} (hd : decode M.2.1 pc = .ok (.invokestatic idx, 3)) (h0 : Cond.methodLink M.1.cls idx yJ7_copyOf_59c91 ∈ z_tb) (h1 : S.2.2 i = .inl (.int, n, .inl g)) (h2 : n < N ∧ N < 2 ^ 26) (h3 : (st.map Value.category).sum ≤ 8) (k0 : z_Ex (d + 3) M (pc + 3) lv (.ref S.1 :: st) (z_new S (.inl (.int, N, .inl (va_cpy g (fun _ => 0) 0 0 n))) N) o) : z_Ex (d + 3) M pc lv (.int (nI N) :: .ref i :: st) S o := fun X hX => hX.2.2.2.2.2.2.2.2.2.2.2.2.2.2.2.2.2.2.2.2.2.2.2.2.2.2.2.2.2.2.2.2.2.2.2.2.2.2.2.2.2.2.2.2.2.2.2.2.2.2.2.2.2.2.2.2.2.2.2.2.2.2.2.2.2.2.2.2.2.2.2.2.2.2.2.2.2.2.2.2.2.2.2.2.2.2.2.2.2.2.2.2.2.2.2.2.2.2.2.2.2.2.2.2.2.2.2.2.2.2.1 d M pc lv st S o idx i n N g hd h0 h1 h2 h3 (k0 X hX)
theorem zr_cmpU {d : Nat} {M : zM} {pc : Nat} {lv : zL} {st : List Value} {S : zS} {o : zO} {idx : Nat} {x y : Int64} (hd : decode M.2.1 pc = .ok (.invokestatic idx, 3)) (h0 : Cond.methodLink M.1.cls idx yJ13_compareUnsigned_74951 ∈ z_tb) (h1 : (st.map Value.category).sum ≤ 8) (k0 : z_Ex (d + 3) M (pc + 3) lv (.int (lg_cmp (x + (-9223372036854775808)) (y + (-9223372036854775808))) :: st) S o) : z_Ex (d + 3) M pc lv (.long y :: .long x :: st) S o := fun X hX => hX.2.2.2.2.2.2.2.2.2.2.2.2.2.2.2.2.2.2.2.2.2.2.2.2.2.2.2.2.2.2.2.2.2.2.2.2.2.2.2.2.2.2.2.2.2.2.2.2.2.2.2.2.2.2.2.2.2.2.2.2.2.2.2.2.2.2.2.2.2.2.2.2.2.2.2.2.2.2.2.2.2.2.2.2.2.2.2.2.2.2.2.2.2.2.2.2.2.2.2.2.2.2.2.2.2.2.2.2.2.2.2.1 d M pc lv st S o idx x y hd h0 h1 (k0 X hX)
theorem zr_callS {d : Nat} {M : zM} {pc : Nat} {lv : zL} {st : List Value} {S : zS} {o : zO} {idx n : Nat} {M1 : zM} {as st1 : List Value} {lv1 : zL} {S1 : zS} {pc1 : Nat} {r : Option Value} (hd : decode M.2.1 pc = .ok (.invokestatic idx, 3)) (h0 : z_mOK M.1.cls idx 2 n M1) (h1 : as.length = n) (h2 : (lg_sl as).length ≤ M1.2.2.1) (h3 : (st.map Value.category).sum ≤ 8) (h4 : z_rt M1 pc1 st1 r) (k0 : z_Ex d M1 0 (lv_args 0 as) [] S (pc1, lv1, st1, S1)) (k1 : z_Ex (d + 1) M (pc + 3) lv (r.toList ++ st) S1 o) : z_Ex (d + 1) M pc lv (as.reverse ++ st) S o := fun X hX => hX.2.2.2.2.2.2.2.2.2.2.2.2.2.2.2.2.2.2.2.2.2.2.2.2.2.2.2.2.2.2.2.2.2.2.2.2.2.2.2.2.2.2.2.2.2.2.2.2.2.2.2.2.2.2.2.2.2.2.2.2.2.2.2.2.2.2.2.2.2.2.2.2.2.2.2.2.2.2.2.2.2.2.2.2.2.2.2.2.2.2.2.2.2.2.2.2.2.2.2.2.2.2.2.2.2.2.2.2.2.2.2.2.1 d M pc lv st S o idx n M1 as st1 lv1 S1 pc1 r hd h0 h1 h2 h3 h4 (k0 X hX) (k1 X hX)
theorem zr_callSN {d : Nat} {M : zM} {pc : Nat} {lv : zL} {st : List Value} {S : zS} {o : zO} {idx n : Nat} {M1 : zM} {as st1 : List Value} {lv1 : zL} {S1 : zS} {pc1 : Nat} {r : Option Value} (hd : decode M.2.1 pc = .ok (.invokestatic idx, 3)) (h0 : z_mOK M.1.cls idx 3 n M1) (h1 : as.length = n) (h2 : (lg_sl as).length ≤ M1.2.2.1) (h3 : (st.map Value.category).sum ≤ 8) (h4 : z_rt M1 pc1 st1 r) (k0 : z_Ex d M1 0 (lv_args 0 as) [] S (pc1, lv1, st1, S1)) (k1 : z_Ex (d + 1) M (pc + 3) lv (r.toList ++ st) S1 o) : z_Ex (d + 1) M pc lv (as.reverse ++ st) S o := fun X hX => hX.2.2.2.2.2.2.2.2.2.2.2.2.2.2.2.2.2.2.2.2.2.2.2.2.2.2.2.2.2.2.2.2.2.2.2.2.2.2.2.2.2.2.2.2.2.2.2.2.2.2.2.2.2.2.2.2.2.2.2.2.2.2.2.2.2.2.2.2.2.2.2.2.2.2.2.2.2.2.2.2.2.2.2.2.2.2.2.2.2.2.2.2.2.2.2.2.2.2.2.2.2.2.2.2.2.2.2.2.2.2.2.2.2.1 d M pc lv st S o idx n M1 as st1 lv1 S1 pc1 r hd h0 h1 h2 h3 h4 (k0 X hX) (k1 X hX)
theorem zr_callV {d : Nat} {M : zM} {pc : Nat} {lv : zL} {st : List Value} {S : zS} {o : zO} {idx n : Nat} {M1 : zM} {as st1 : List Value} {lv1 : zL} {S1 : zS} {pc1 : Nat} {r : Option Value} {b ci : Nat} {fs : List Value} (hd : decode M.2.1 pc = .ok (.invokevirtual idx, 3)) (h0 : z_mOK M.1.cls idx 0 n M1) (h1 : as.length = n) (h2 : (lg_sl (.ref b :: as)).length ≤ M1.2.2.1) (h3 : (st.map Value.category).sum ≤ 8) (h4 : z_rt M1 pc1 st1 r) (h5 : S.2.2 b = .inr (ci, fs)) (h6 : (vwCl[ci]?).map (fun q => q.1) = some M1.1.cls) (k0 : z_Ex d M1 0 (lv_args 0 (.ref b :: as)) [] S (pc1, lv1, st1, S1)) (k1 : z_Ex (d + 1) M (pc + 3) lv (r.toList ++ st) S1 o) : z_Ex (d + 1) M pc lv (as.reverse ++ .ref b :: st) S o := fun X hX => hX.2.2.2.2.2.2.2.2.2.2.2.2.2.2.2.2.2.2.2.2.2.2.2.2.2.2.2.2.2.2.2.2.2.2.2.2.2.2.2.2.2.2.2.2.2.2.2.2.2.2.2.2.2.2.2.2.2.2.2.2.2.2.2.2.2.2.2.2.2.2.2.2.2.2.2.2.2.2.2.2.2.2.2.2.2.2.2.2.2.2.2.2.2.2.2.2.2.2.2.2.2.2.2.2.2.2.2.2.2.2.2.2.2.2.1 d M pc lv st S o idx n M1 as st1 lv1 S1 pc1 r b ci fs hd h0 h1 h2 h3 h4 h5 h6 (k0 X hX) (k1 X hX)
theorem zr_callI {d : Nat} {M : zM} {pc : Nat} {lv : zL} {st : List Value} {S : zS} {o : zO} {idx n : Nat} {M1 : zM} {as st1 : List Value} {lv1 : zL} {S1 : zS} {pc1 : Nat} {r : Option Value} {b : Nat} (hd : decode M.2.1 pc = .ok (.invokespecial idx, 3)) (h0 : z_mOK M.1.cls idx 4 n M1) (h1 : as.length = n) (h2 : (lg_sl (.ref b :: as)).length ≤ M1.2.2.1) (h3 : (st.map Value.category).sum ≤ 8) (h4 : z_rt M1 pc1 st1 r) (k0 : z_Ex d M1 0 (lv_args 0 (.ref b :: as)) [] S (pc1, lv1, st1, S1)) (k1 : z_Ex (d + 1) M (pc + 3) lv (r.toList ++ st) S1 o) : z_Ex (d + 1) M pc lv (as.reverse ++ .ref b :: st) S o := fun X hX => hX.2.2.2.2.2.2.2.2.2.2.2.2.2.2.2.2.2.2.2.2.2.2.2.2.2.2.2.2.2.2.2.2.2.2.2.2.2.2.2.2.2.2.2.2.2.2.2.2.2.2.2.2.2.2.2.2.2.2.2.2.2.2.2.2.2.2.2.2.2.2.2.2.2.2.2.2.2.2.2.2.2.2.2.2.2.2.2.2.2.2.2.2.2.2.2.2.2.2.2.2.2.2.2.2.2.2.2.2.2.2.2.2.2.2.2.1 d M pc lv st S o idx n M1 as st1 lv1 S1 pc1 r b hd h0 h1 h2 h3 h4 (k0 X hX) (k1 X hX)
theorem zr_callIN {d : Nat} {M : zM} {pc : Nat} {lv : zL} {st : List Value} {S : zS} {o : zO} {idx n : Nat} {M1 : zM} {as st1 : List Value} {lv1 : zL} {S1 : zS} {pc1 : Nat} {r : Option Value} {b : Nat} (hd : decode M.2.1 pc = .ok (.invokespecial idx, 3)) (h0 : z_mOK M.1.cls idx 5 n M1) (h1 : as.length = n) (h2 : (lg_sl (.ref b :: as)).length ≤ M1.2.2.1) (h3 : (st.map Value.category).sum ≤ 8) (h4 : z_rt M1 pc1 st1 r) (k0 : z_Ex d M1 0 (lv_args 0 (.ref b :: as)) [] S (pc1, lv1, st1, S1)) (k1 : z_Ex (d + 1) M (pc + 3) lv (r.toList ++ st) S1 o) : z_Ex (d + 1) M pc lv (as.reverse ++ .ref b :: st) S o := fun X hX => hX.2.2.2.2.2.2.2.2.2.2.2.2.2.2.2.2.2.2.2.2.2.2.2.2.2.2.2.2.2.2.2.2.2.2.2.2.2.2.2.2.2.2.2.2.2.2.2.2.2.2.2.2.2.2.2.2.2.2.2.2.2.2.2.2.2.2.2.2.2.2.2.2.2.2.2.2.2.2.2.2.2.2.2.2.2.2.2.2.2.2.2.2.2.2.2.2.2.2.2.2.2.2.2.2.2.2.2.2.2.2.2.2.2.2.2.2 d M pc lv st S o idx n M1 as st1 lv1 S1 pc1 r b hd h0 h1 h2 h3 h4 (k0 X hX) (k1 X hX)
theorem zs_iconst (l : Launch) (D : va_G) : zk_iconst (z_Sem l D) := by
  intro d M pc lv st S o n hd  k
  exact z_loc k (fun n hl h => by simp only [List.forall_mem_cons, z_ok_int, z_ok_long, z_ok_null, true_and] at h ⊢; first | exact h | exact h.2 | exact h.2.2 | simp_all) (fun C hl hc hs w => lv_iconst C.1 C.2.1 hd rfl w)
theorem zs_bipush (l : Launch) (D : va_G) : zk_bipush (z_Sem l D) := by
  intro d M pc lv st S o n hd  k
  exact z_loc k (fun n hl h => by simp only [List.forall_mem_cons, z_ok_int, z_ok_long, z_ok_null, true_and] at h ⊢; first | exact h | exact h.2 | exact h.2.2 | simp_all) (fun C hl hc hs w => lv_bipush C.1 C.2.1 hd rfl w)
theorem zs_sipush (l : Launch) (D : va_G) : zk_sipush (z_Sem l D) := by
  intro d M pc lv st S o n hd  k
  exact z_loc k (fun n hl h => by simp only [List.forall_mem_cons, z_ok_int, z_ok_long, z_ok_null, true_and] at h ⊢; first | exact h | exact h.2 | exact h.2.2 | simp_all) (fun C hl hc hs w => lv_sipush C.1 C.2.1 hd rfl w)
theorem zs_lconst (l : Launch) (D : va_G) : zk_lconst (z_Sem l D) := by
  intro d M pc lv st S o n hd  k
  exact z_loc k (fun n hl h => by simp only [List.forall_mem_cons, z_ok_int, z_ok_long, z_ok_null, true_and] at h ⊢; first | exact h | exact h.2 | exact h.2.2 | simp_all) (fun C hl hc hs w => lv_lconst C.1 C.2.1 hd rfl w)
theorem zs_aconst (l : Launch) (D : va_G) : zk_aconst (z_Sem l D) := by
  intro d M pc lv st S o  hd  k
  exact z_loc k (fun n hl h => by simp only [List.forall_mem_cons, z_ok_int, z_ok_long, z_ok_null, true_and] at h ⊢; first | exact h | exact h.2 | exact h.2.2 | simp_all) (fun C hl hc hs w => lv_null C.1 C.2.1 hd w)
theorem zs_iload_n (l : Launch) (D : va_G) : zk_iload_n (z_Sem l D) := by
  intro d M pc lv st S o j x hd hm k
  exact z_loc k (fun n hl h => by simp only [List.forall_mem_cons]; exact ⟨hl _ hm, h⟩) (fun C hl hc hs w => lv_iload_n C.1 C.2.1 hd rfl (z_ld hl hm) w)
theorem zs_iload (l : Launch) (D : va_G) : zk_iload (z_Sem l D) := by
  intro d M pc lv st S o i x hd hm k
  exact z_loc k (fun n hl h => by simp only [List.forall_mem_cons]; exact ⟨hl _ hm, h⟩) (fun C hl hc hs w => lv_iload C.1 C.2.1 hd (z_ld hl hm) w)
theorem zs_lload_n (l : Launch) (D : va_G) : zk_lload_n (z_Sem l D) := by
  intro d M pc lv st S o j x hd hm k
  exact z_loc k (fun n hl h => by simp only [List.forall_mem_cons]; exact ⟨hl _ hm, h⟩) (fun C hl hc hs w => lv_lload_n C.1 C.2.1 hd rfl (z_ld hl hm) w)
theorem zs_lload (l : Launch) (D : va_G) : zk_lload (z_Sem l D) := by
  intro d M pc lv st S o i x hd hm k
  exact z_loc k (fun n hl h => by simp only [List.forall_mem_cons]; exact ⟨hl _ hm, h⟩) (fun C hl hc hs w => lv_lload C.1 C.2.1 hd (z_ld hl hm) w)
theorem zs_aload_n (l : Launch) (D : va_G) : zk_aload_n (z_Sem l D) := by
  intro d M pc lv st S o j x hd hm k
  exact z_loc k (fun n hl h => by simp only [List.forall_mem_cons]; exact ⟨hl _ hm, h⟩) (fun C hl hc hs w => lv_aload_n C.1 C.2.1 hd rfl (z_ld hl hm) w)
theorem zs_aload (l : Launch) (D : va_G) : zk_aload (z_Sem l D) := by
  intro d M pc lv st S o i x hd hm k
  exact z_loc k (fun n hl h => by simp only [List.forall_mem_cons]; exact ⟨hl _ hm, h⟩) (fun C hl hc hs w => lv_aload C.1 C.2.1 hd (z_ld hl hm) w)
theorem zs_aload_nN (l : Launch) (D : va_G) : zk_aload_nN (z_Sem l D) := by
  intro d M pc lv st S o j hd hm k
  exact z_loc k (fun n hl h => by simp only [List.forall_mem_cons]; exact ⟨hl _ hm, h⟩) (fun C hl hc hs w => lv_aload_nN C.1 C.2.1 hd rfl (z_ld hl hm) w)
theorem zs_aloadN (l : Launch) (D : va_G) : zk_aloadN (z_Sem l D) := by
  intro d M pc lv st S o i hd hm k
  exact z_loc k (fun n hl h => by simp only [List.forall_mem_cons]; exact ⟨hl _ hm, h⟩) (fun C hl hc hs w => lv_aloadN C.1 C.2.1 hd (z_ld hl hm) w)
theorem zs_aload_nS (l : Launch) (D : va_G) : zk_aload_nS (z_Sem l D) := by
  intro d M pc lv st S o j x hd hm k
  exact z_loc k (fun n hl h => by simp only [List.forall_mem_cons]; exact ⟨hl _ hm, h⟩) (fun C hl hc hs w => lv_aload_n C.1 C.2.1 hd rfl (z_ld hl hm) w)
theorem zs_aloadS (l : Launch) (D : va_G) : zk_aloadS (z_Sem l D) := by
  intro d M pc lv st S o i x hd hm k
  exact z_loc k (fun n hl h => by simp only [List.forall_mem_cons]; exact ⟨hl _ hm, h⟩) (fun C hl hc hs w => lv_aload C.1 C.2.1 hd (z_ld hl hm) w)
theorem zs_istore_n (l : Launch) (D : va_G) : zk_istore_n (z_Sem l D) := by
  intro d M pc lv st S o j x hd hm k
  exact z_sto k (fun n hl h => by simp only [List.forall_mem_cons] at h ⊢; exact ⟨⟨h.1, z_k1_ok hl⟩, h.2⟩) (fun {p e R s m args below meth c cA A ad H locs ls cells slots Q} C hl w => lv_istore_n C.1 C.2.1 hd rfl hl hm (by rw [z_k1_lt]; rfl) w)
theorem zs_istore (l : Launch) (D : va_G) : zk_istore (z_Sem l D) := by
  intro d M pc lv st S o i x hd hm k
  exact z_sto k (fun n hl h => by simp only [List.forall_mem_cons] at h ⊢; exact ⟨⟨h.1, z_k1_ok hl⟩, h.2⟩) (fun {p e R s m args below meth c cA A ad H locs ls cells slots Q} C hl w => lv_istore C.1 C.2.1 hd hl hm (by rw [z_k1_lt]; rfl) w)
theorem zs_lstore_n (l : Launch) (D : va_G) : zk_lstore_n (z_Sem l D) := by
  intro d M pc lv st S o j x hd hm k
  exact z_sto k (fun n hl h => by simp only [List.forall_mem_cons] at h ⊢; exact ⟨⟨h.1, z_k2_ok hl⟩, h.2⟩) (fun {p e R s m args below meth c cA A ad H locs ls cells slots Q} C hl w => lv_lstore_n C.1 C.2.1 hd rfl hl hm (by rw [z_k2_lt]; rfl) w)
theorem zs_lstore (l : Launch) (D : va_G) : zk_lstore (z_Sem l D) := by
  intro d M pc lv st S o i x hd hm k
  exact z_sto k (fun n hl h => by simp only [List.forall_mem_cons] at h ⊢; exact ⟨⟨h.1, z_k2_ok hl⟩, h.2⟩) (fun {p e R s m args below meth c cA A ad H locs ls cells slots Q} C hl w => lv_lstore C.1 C.2.1 hd hl hm (by rw [z_k2_lt]; rfl) w)
theorem zs_astore_n (l : Launch) (D : va_G) : zk_astore_n (z_Sem l D) := by
  intro d M pc lv st S o j x hd hm k
  exact z_sto k (fun n hl h => by simp only [List.forall_mem_cons] at h ⊢; exact ⟨⟨h.1, z_k1_ok hl⟩, h.2⟩) (fun {p e R s m args below meth c cA A ad H locs ls cells slots Q} C hl w => lv_astore_n C.1 C.2.1 hd rfl hl hm (by rw [z_k1_lt]; rfl) w)
theorem zs_astore (l : Launch) (D : va_G) : zk_astore (z_Sem l D) := by
  intro d M pc lv st S o i x hd hm k
  exact z_sto k (fun n hl h => by simp only [List.forall_mem_cons] at h ⊢; exact ⟨⟨h.1, z_k1_ok hl⟩, h.2⟩) (fun {p e R s m args below meth c cA A ad H locs ls cells slots Q} C hl w => lv_astore C.1 C.2.1 hd hl hm (by rw [z_k1_lt]; rfl) w)
theorem zs_astore_nS (l : Launch) (D : va_G) : zk_astore_nS (z_Sem l D) := by
  intro d M pc lv st S o j x hd hm k
  exact z_sto k (fun n hl h => by simp only [List.forall_mem_cons] at h ⊢; exact ⟨⟨h.1, z_k1_ok hl⟩, h.2⟩) (fun {p e R s m args below meth c cA A ad H locs ls cells slots Q} C hl w => lv_astore_n C.1 C.2.1 hd rfl hl hm (by rw [z_k1_lt]; rfl) w)
theorem zs_astoreS (l : Launch) (D : va_G) : zk_astoreS (z_Sem l D) := by
  intro d M pc lv st S o i x hd hm k
  exact z_sto k (fun n hl h => by simp only [List.forall_mem_cons] at h ⊢; exact ⟨⟨h.1, z_k1_ok hl⟩, h.2⟩) (fun {p e R s m args below meth c cA A ad H locs ls cells slots Q} C hl w => lv_astore C.1 C.2.1 hd hl hm (by rw [z_k1_lt]; rfl) w)
theorem zs_astore_nN (l : Launch) (D : va_G) : zk_astore_nN (z_Sem l D) := by
  intro d M pc lv st S o j hd hm k
  exact z_sto k (fun n hl h => by simp only [List.forall_mem_cons] at h ⊢; exact ⟨⟨h.1, z_k1_ok hl⟩, h.2⟩) (fun {p e R s m args below meth c cA A ad H locs ls cells slots Q} C hl w => lv_astore_nN C.1 C.2.1 hd rfl hl hm (by rw [z_k1_lt]; rfl) w)
theorem zs_astoreN (l : Launch) (D : va_G) : zk_astoreN (z_Sem l D) := by
  intro d M pc lv st S o i hd hm k
  exact z_sto k (fun n hl h => by simp only [List.forall_mem_cons] at h ⊢; exact ⟨⟨h.1, z_k1_ok hl⟩, h.2⟩) (fun {p e R s m args below meth c cA A ad H locs ls cells slots Q} C hl w => lv_astoreN C.1 C.2.1 hd hl hm (by rw [z_k1_lt]; rfl) w)
theorem zs_iinc (l : Launch) (D : va_G) : zk_iinc (z_Sem l D) := by
  intro d M pc lv st S o i n x hd hm hm1 k
  obtain ⟨q, hq⟩ := List.getElem?_of_mem hm
  exact z_sto k (fun n hl h => by simp only [List.forall_mem_cons]; exact ⟨⟨trivial, z_k1_ok hl⟩, h⟩) (fun {p e R s m args below meth c cA A ad H locs ls cells slots Q} C hl w => lv_iinc (k := q) (x := x) C.1 C.2.1 hd hl (by unfold z_lt; rw [List.getElem?_map, hq]; rfl) rfl hm1 (by rw [z_k1_lt]; rfl) w)
theorem zs_iadd (l : Launch) (D : va_G) : zk_iadd (z_Sem l D) := by
  intro d M pc lv st S o x y hd  k
  exact z_loc k (fun n hl h => by simp only [List.forall_mem_cons, z_ok_int, z_ok_long, z_ok_null, true_and] at h ⊢; first | exact h | exact h.2 | exact h.2.2 | simp_all) (fun C hl hc hs w => lv_iadd C.1 C.2.1 hd w)
theorem zs_isub (l : Launch) (D : va_G) : zk_isub (z_Sem l D) := by
  intro d M pc lv st S o x y hd  k
  exact z_loc k (fun n hl h => by simp only [List.forall_mem_cons, z_ok_int, z_ok_long, z_ok_null, true_and] at h ⊢; first | exact h | exact h.2 | exact h.2.2 | simp_all) (fun C hl hc hs w => lv_isub C.1 C.2.1 hd w)
theorem zs_imul (l : Launch) (D : va_G) : zk_imul (z_Sem l D) := by
  intro d M pc lv st S o x y hd  k
  exact z_loc k (fun n hl h => by simp only [List.forall_mem_cons, z_ok_int, z_ok_long, z_ok_null, true_and] at h ⊢; first | exact h | exact h.2 | exact h.2.2 | simp_all) (fun C hl hc hs w => lv_imul C.1 C.2.1 hd w)
theorem zs_iand (l : Launch) (D : va_G) : zk_iand (z_Sem l D) := by
  intro d M pc lv st S o x y hd  k
  exact z_loc k (fun n hl h => by simp only [List.forall_mem_cons, z_ok_int, z_ok_long, z_ok_null, true_and] at h ⊢; first | exact h | exact h.2 | exact h.2.2 | simp_all) (fun C hl hc hs w => lv_iand C.1 C.2.1 hd w)
theorem zs_ior (l : Launch) (D : va_G) : zk_ior (z_Sem l D) := by
  intro d M pc lv st S o x y hd  k
  exact z_loc k (fun n hl h => by simp only [List.forall_mem_cons, z_ok_int, z_ok_long, z_ok_null, true_and] at h ⊢; first | exact h | exact h.2 | exact h.2.2 | simp_all) (fun C hl hc hs w => lv_ior C.1 C.2.1 hd w)
theorem zs_ixor (l : Launch) (D : va_G) : zk_ixor (z_Sem l D) := by
  intro d M pc lv st S o x y hd  k
  exact z_loc k (fun n hl h => by simp only [List.forall_mem_cons, z_ok_int, z_ok_long, z_ok_null, true_and] at h ⊢; first | exact h | exact h.2 | exact h.2.2 | simp_all) (fun C hl hc hs w => lv_ixor C.1 C.2.1 hd w)
theorem zs_ishl (l : Launch) (D : va_G) : zk_ishl (z_Sem l D) := by
  intro d M pc lv st S o x y hd  k
  exact z_loc k (fun n hl h => by simp only [List.forall_mem_cons, z_ok_int, z_ok_long, z_ok_null, true_and] at h ⊢; first | exact h | exact h.2 | exact h.2.2 | simp_all) (fun C hl hc hs w => lv_ishl C.1 C.2.1 hd w)
theorem zs_ishr (l : Launch) (D : va_G) : zk_ishr (z_Sem l D) := by
  intro d M pc lv st S o x y hd  k
  exact z_loc k (fun n hl h => by simp only [List.forall_mem_cons, z_ok_int, z_ok_long, z_ok_null, true_and] at h ⊢; first | exact h | exact h.2 | exact h.2.2 | simp_all) (fun C hl hc hs w => lv_ishr C.1 C.2.1 hd w)
theorem zs_idiv (l : Launch) (D : va_G) : zk_idiv (z_Sem l D) := by
  intro d M pc lv st S o x y hd hm k
  exact z_loc k (fun n hl h => by simp only [List.forall_mem_cons, z_ok_int, z_ok_long, z_ok_null, true_and] at h ⊢; first | exact h | exact h.2 | exact h.2.2 | simp_all) (fun C hl hc hs w => lv_idiv C.1 C.2.1 hd hm w)
theorem zs_irem (l : Launch) (D : va_G) : zk_irem (z_Sem l D) := by
  intro d M pc lv st S o x y hd hm k
  exact z_loc k (fun n hl h => by simp only [List.forall_mem_cons, z_ok_int, z_ok_long, z_ok_null, true_and] at h ⊢; first | exact h | exact h.2 | exact h.2.2 | simp_all) (fun C hl hc hs w => lv_irem C.1 C.2.1 hd hm w)
theorem zs_ladd (l : Launch) (D : va_G) : zk_ladd (z_Sem l D) := by
  intro d M pc lv st S o x y hd  k
  exact z_loc k (fun n hl h => by simp only [List.forall_mem_cons, z_ok_int, z_ok_long, z_ok_null, true_and] at h ⊢; first | exact h | exact h.2 | exact h.2.2 | simp_all) (fun C hl hc hs w => lv_ladd C.1 C.2.1 hd w)
theorem zs_lsub (l : Launch) (D : va_G) : zk_lsub (z_Sem l D) := by
  intro d M pc lv st S o x y hd  k
  exact z_loc k (fun n hl h => by simp only [List.forall_mem_cons, z_ok_int, z_ok_long, z_ok_null, true_and] at h ⊢; first | exact h | exact h.2 | exact h.2.2 | simp_all) (fun C hl hc hs w => lv_lsub C.1 C.2.1 hd w)
theorem zs_lmul (l : Launch) (D : va_G) : zk_lmul (z_Sem l D) := by
  intro d M pc lv st S o x y hd  k
  exact z_loc k (fun n hl h => by simp only [List.forall_mem_cons, z_ok_int, z_ok_long, z_ok_null, true_and] at h ⊢; first | exact h | exact h.2 | exact h.2.2 | simp_all) (fun C hl hc hs w => lv_lmul C.1 C.2.1 hd w)
theorem zs_land (l : Launch) (D : va_G) : zk_land (z_Sem l D) := by
  intro d M pc lv st S o x y hd  k
  exact z_loc k (fun n hl h => by simp only [List.forall_mem_cons, z_ok_int, z_ok_long, z_ok_null, true_and] at h ⊢; first | exact h | exact h.2 | exact h.2.2 | simp_all) (fun C hl hc hs w => lv_land C.1 C.2.1 hd w)
theorem zs_lor (l : Launch) (D : va_G) : zk_lor (z_Sem l D) := by
  intro d M pc lv st S o x y hd  k
  exact z_loc k (fun n hl h => by simp only [List.forall_mem_cons, z_ok_int, z_ok_long, z_ok_null, true_and] at h ⊢; first | exact h | exact h.2 | exact h.2.2 | simp_all) (fun C hl hc hs w => lv_lor C.1 C.2.1 hd w)
theorem zs_lxor (l : Launch) (D : va_G) : zk_lxor (z_Sem l D) := by
  intro d M pc lv st S o x y hd  k
  exact z_loc k (fun n hl h => by simp only [List.forall_mem_cons, z_ok_int, z_ok_long, z_ok_null, true_and] at h ⊢; first | exact h | exact h.2 | exact h.2.2 | simp_all) (fun C hl hc hs w => lv_lxor C.1 C.2.1 hd w)
theorem zs_ineg (l : Launch) (D : va_G) : zk_ineg (z_Sem l D) := by
  intro d M pc lv st S o x hd  k
  exact z_loc k (fun n hl h => by simp only [List.forall_mem_cons, z_ok_int, z_ok_long, z_ok_null, true_and] at h ⊢; first | exact h | exact h.2 | exact h.2.2 | simp_all) (fun C hl hc hs w => lv_ineg C.1 C.2.1 hd w)
theorem zs_iushr (l : Launch) (D : va_G) : zk_iushr (z_Sem l D) := by
  intro d M pc lv st S o x y hd  k
  exact z_loc k (fun n hl h => by simp only [List.forall_mem_cons, z_ok_int, z_ok_long, z_ok_null, true_and] at h ⊢; first | exact h | exact h.2 | exact h.2.2 | simp_all) (fun C hl hc hs w => lv_iushr C.1 C.2.1 hd rfl w)
theorem zs_lushr (l : Launch) (D : va_G) : zk_lushr (z_Sem l D) := by
  intro d M pc lv st S o x y hd  k
  exact z_loc k (fun n hl h => by simp only [List.forall_mem_cons, z_ok_int, z_ok_long, z_ok_null, true_and] at h ⊢; first | exact h | exact h.2 | exact h.2.2 | simp_all) (fun C hl hc hs w => lv_lushr C.1 C.2.1 hd rfl w)
theorem zs_lshl (l : Launch) (D : va_G) : zk_lshl (z_Sem l D) := by
  intro d M pc lv st S o x y hd  k
  exact z_loc k (fun n hl h => by simp only [List.forall_mem_cons, z_ok_int, z_ok_long, z_ok_null, true_and] at h ⊢; first | exact h | exact h.2 | exact h.2.2 | simp_all) (fun C hl hc hs w => lv_lshl C.1 C.2.1 hd rfl w)
theorem zs_lshr (l : Launch) (D : va_G) : zk_lshr (z_Sem l D) := by
  intro d M pc lv st S o x y hd  k
  exact z_loc k (fun n hl h => by simp only [List.forall_mem_cons, z_ok_int, z_ok_long, z_ok_null, true_and] at h ⊢; first | exact h | exact h.2 | exact h.2.2 | simp_all) (fun C hl hc hs w => lv_lshr C.1 C.2.1 hd rfl w)
theorem zs_i2l (l : Launch) (D : va_G) : zk_i2l (z_Sem l D) := by
  intro d M pc lv st S o x hd  k
  exact z_loc k (fun n hl h => by simp only [List.forall_mem_cons, z_ok_int, z_ok_long, z_ok_null, true_and] at h ⊢; first | exact h | exact h.2 | exact h.2.2 | simp_all) (fun C hl hc hs w => lv_i2l C.1 C.2.1 hd rfl w)
theorem zs_l2i (l : Launch) (D : va_G) : zk_l2i (z_Sem l D) := by
  intro d M pc lv st S o x hd  k
  exact z_loc k (fun n hl h => by simp only [List.forall_mem_cons, z_ok_int, z_ok_long, z_ok_null, true_and] at h ⊢; first | exact h | exact h.2 | exact h.2.2 | simp_all) (fun C hl hc hs w => lv_l2i C.1 C.2.1 hd rfl w)
theorem zs_i2b (l : Launch) (D : va_G) : zk_i2b (z_Sem l D) := by
  intro d M pc lv st S o x hd  k
  exact z_loc k (fun n hl h => by simp only [List.forall_mem_cons, z_ok_int, z_ok_long, z_ok_null, true_and] at h ⊢; first | exact h | exact h.2 | exact h.2.2 | simp_all) (fun C hl hc hs w => lv_i2b C.1 C.2.1 hd rfl w)
theorem zs_i2c (l : Launch) (D : va_G) : zk_i2c (z_Sem l D) := by
  intro d M pc lv st S o x hd  k
  exact z_loc k (fun n hl h => by simp only [List.forall_mem_cons, z_ok_int, z_ok_long, z_ok_null, true_and] at h ⊢; first | exact h | exact h.2 | exact h.2.2 | simp_all) (fun C hl hc hs w => lv_i2c C.1 C.2.1 hd rfl w)
theorem zs_dup (l : Launch) (D : va_G) : zk_dup (z_Sem l D) := by
  intro d M pc lv st S o v hd hm k
  exact z_loc k (fun n hl h => by simp only [List.forall_mem_cons] at h ⊢; first | exact h.2 | exact ⟨h.1, h⟩ | exact ⟨h.1, h.2.1, h⟩) (fun C hl hc hs w => lv_dup C.1 C.2.1 hd ((z_cat v).trans hm) w)
theorem zs_pop (l : Launch) (D : va_G) : zk_pop (z_Sem l D) := by
  intro d M pc lv st S o v hd hm k
  exact z_loc k (fun n hl h => by simp only [List.forall_mem_cons] at h ⊢; first | exact h.2 | exact ⟨h.1, h⟩ | exact ⟨h.1, h.2.1, h⟩) (fun C hl hc hs w => lv_pop C.1 C.2.1 hd ((z_cat v).trans hm) w)
theorem zs_dup2 (l : Launch) (D : va_G) : zk_dup2 (z_Sem l D) := by
  intro d M pc lv st S o v u hd hm hm1 k
  exact z_loc k (fun n hl h => by simp only [List.forall_mem_cons] at h ⊢; first | exact h.2 | exact ⟨h.1, h⟩ | exact ⟨h.1, h.2.1, h⟩) (fun C hl hc hs w => lv_dup2_11 C.1 C.2.1 hd ((z_cat v).trans hm) ((z_cat u).trans hm1) w)
theorem zs_if_eq (l : Launch) (D : va_G) : zk_if_eq (z_Sem l D) := by
  intro d M pc lv st S o x off tgt hd hm k k2
  exact z_br k k2 (fun n h => by simp only [List.forall_mem_cons, z_ok_int, z_ok_long, z_ok_null, true_and] at h ⊢; first | exact h | exact h.2 | exact h.2.2 | simp_all) (fun C w1 w2 => lv_if_eq C.1 C.2.1 hd hm w1 w2)
theorem zs_icmp_eq (l : Launch) (D : va_G) : zk_icmp_eq (z_Sem l D) := by
  intro d M pc lv st S o x y off tgt hd hm k k2
  exact z_br k k2 (fun n h => by simp only [List.forall_mem_cons, z_ok_int, z_ok_long, z_ok_null, true_and] at h ⊢; first | exact h | exact h.2 | exact h.2.2 | simp_all) (fun C w1 w2 => lv_icmp_eq C.1 C.2.1 hd hm w1 w2)
theorem zs_if_ne (l : Launch) (D : va_G) : zk_if_ne (z_Sem l D) := by
  intro d M pc lv st S o x off tgt hd hm k k2
  exact z_br k2 k (fun n h => by simp only [List.forall_mem_cons, z_ok_int, z_ok_long, z_ok_null, true_and] at h ⊢; first | exact h | exact h.2 | exact h.2.2 | simp_all) (fun C w1 w2 => lv_if_ne C.1 C.2.1 hd hm w2 w1)
theorem zs_icmp_ne (l : Launch) (D : va_G) : zk_icmp_ne (z_Sem l D) := by
  intro d M pc lv st S o x y off tgt hd hm k k2
  exact z_br k2 k (fun n h => by simp only [List.forall_mem_cons, z_ok_int, z_ok_long, z_ok_null, true_and] at h ⊢; first | exact h | exact h.2 | exact h.2.2 | simp_all) (fun C w1 w2 => lv_icmp_ne C.1 C.2.1 hd hm w2 w1)
theorem zs_if_lt (l : Launch) (D : va_G) : zk_if_lt (z_Sem l D) := by
  intro d M pc lv st S o x off tgt hd hm k k2
  exact z_br k k2 (fun n h => by simp only [List.forall_mem_cons, z_ok_int, z_ok_long, z_ok_null, true_and] at h ⊢; first | exact h | exact h.2 | exact h.2.2 | simp_all) (fun C w1 w2 => lv_if_lt C.1 C.2.1 hd hm w1 w2)
theorem zs_icmp_lt (l : Launch) (D : va_G) : zk_icmp_lt (z_Sem l D) := by
  intro d M pc lv st S o x y off tgt hd hm k k2
  exact z_br k k2 (fun n h => by simp only [List.forall_mem_cons, z_ok_int, z_ok_long, z_ok_null, true_and] at h ⊢; first | exact h | exact h.2 | exact h.2.2 | simp_all) (fun C w1 w2 => lv_icmp_lt C.1 C.2.1 hd hm w1 w2)
theorem zs_if_ge (l : Launch) (D : va_G) : zk_if_ge (z_Sem l D) := by
  intro d M pc lv st S o x off tgt hd hm k k2
  exact z_br k k2 (fun n h => by simp only [List.forall_mem_cons, z_ok_int, z_ok_long, z_ok_null, true_and] at h ⊢; first | exact h | exact h.2 | exact h.2.2 | simp_all) (fun C w1 w2 => lv_if_ge C.1 C.2.1 hd hm w1 w2)
theorem zs_icmp_ge (l : Launch) (D : va_G) : zk_icmp_ge (z_Sem l D) := by
  intro d M pc lv st S o x y off tgt hd hm k k2
  exact z_br k k2 (fun n h => by simp only [List.forall_mem_cons, z_ok_int, z_ok_long, z_ok_null, true_and] at h ⊢; first | exact h | exact h.2 | exact h.2.2 | simp_all) (fun C w1 w2 => lv_icmp_ge C.1 C.2.1 hd hm w1 w2)
theorem zs_if_gt (l : Launch) (D : va_G) : zk_if_gt (z_Sem l D) := by
  intro d M pc lv st S o x off tgt hd hm k k2
  exact z_br k k2 (fun n h => by simp only [List.forall_mem_cons, z_ok_int, z_ok_long, z_ok_null, true_and] at h ⊢; first | exact h | exact h.2 | exact h.2.2 | simp_all) (fun C w1 w2 => lv_if_gt C.1 C.2.1 hd hm w1 w2)
theorem zs_icmp_gt (l : Launch) (D : va_G) : zk_icmp_gt (z_Sem l D) := by
  intro d M pc lv st S o x y off tgt hd hm k k2
  exact z_br k k2 (fun n h => by simp only [List.forall_mem_cons, z_ok_int, z_ok_long, z_ok_null, true_and] at h ⊢; first | exact h | exact h.2 | exact h.2.2 | simp_all) (fun C w1 w2 => lv_icmp_gt C.1 C.2.1 hd hm w1 w2)
theorem zs_if_le (l : Launch) (D : va_G) : zk_if_le (z_Sem l D) := by
  intro d M pc lv st S o x off tgt hd hm k k2
  exact z_br k k2 (fun n h => by simp only [List.forall_mem_cons, z_ok_int, z_ok_long, z_ok_null, true_and] at h ⊢; first | exact h | exact h.2 | exact h.2.2 | simp_all) (fun C w1 w2 => lv_if_le C.1 C.2.1 hd hm w1 w2)
theorem zs_icmp_le (l : Launch) (D : va_G) : zk_icmp_le (z_Sem l D) := by
  intro d M pc lv st S o x y off tgt hd hm k k2
  exact z_br k k2 (fun n h => by simp only [List.forall_mem_cons, z_ok_int, z_ok_long, z_ok_null, true_and] at h ⊢; first | exact h | exact h.2 | exact h.2.2 | simp_all) (fun C w1 w2 => lv_icmp_le C.1 C.2.1 hd hm w1 w2)
theorem zs_goto (l : Launch) (D : va_G) : zk_goto (z_Sem l D) := by
  intro d M pc lv st S o off tgt hd hm k
  exact z_loc k (fun n hl h => h) (fun C hl hc hs w => lv_goto C.1 C.2.1 hd hm w)
theorem zs_ifnull (l : Launch) (D : va_G) : zk_ifnull (z_Sem l D) := by
  intro d M pc lv st S o x off hd  k
  exact z_loc k (fun n hl h => by simp only [List.forall_mem_cons, z_ok_int, z_ok_long, z_ok_null, true_and] at h ⊢; first | exact h | exact h.2 | exact h.2.2 | simp_all) (fun C hl hc hs w => lv_ifnull C.1 C.2.1 hd w)
theorem zs_ifnullN (l : Launch) (D : va_G) : zk_ifnullN (z_Sem l D) := by
  intro d M pc lv st S o off tgt hd hm k
  exact z_loc k (fun n hl h => by simp only [List.forall_mem_cons, z_ok_int, z_ok_long, z_ok_null, true_and] at h ⊢; first | exact h | exact h.2 | exact h.2.2 | simp_all) (fun C hl hc hs w => lv_ifnullN C.1 C.2.1 hd hm w)
theorem zs_ifnonnull (l : Launch) (D : va_G) : zk_ifnonnull (z_Sem l D) := by
  intro d M pc lv st S o x off tgt hd hm k
  exact z_loc k (fun n hl h => by simp only [List.forall_mem_cons, z_ok_int, z_ok_long, z_ok_null, true_and] at h ⊢; first | exact h | exact h.2 | exact h.2.2 | simp_all) (fun C hl hc hs w => lv_ifnonnull C.1 C.2.1 hd hm w)
theorem zs_ifnonnullN (l : Launch) (D : va_G) : zk_ifnonnullN (z_Sem l D) := by
  intro d M pc lv st S o off hd  k
  exact z_loc k (fun n hl h => by simp only [List.forall_mem_cons, z_ok_int, z_ok_long, z_ok_null, true_and] at h ⊢; first | exact h | exact h.2 | exact h.2.2 | simp_all) (fun C hl hc hs w => lv_ifnonnullN C.1 C.2.1 hd w)
theorem zs_lookup (l : Launch) (D : va_G) : zk_lookup (z_Sem l D) := by
  intro d M pc lv st S o x dflt off ps len tgt hd hm hm1 hm2 k
  exact z_loc k (fun n hl h => by simp only [List.forall_mem_cons, z_ok_int, z_ok_long, z_ok_null, true_and] at h ⊢; first | exact h | exact h.2 | exact h.2.2 | simp_all) (fun C hl hc hs w => lv_lookup C.1 C.2.1 hd hm hm1 hm2 w)
theorem zs_tableIn (l : Launch) (D : va_G) : zk_tableIn (z_Sem l D) := by
  intro d M pc lv st S o x dflt lo hi off offs len tgt hd hm hm1 hm2 hm3 k
  exact z_loc k (fun n hl h => by simp only [List.forall_mem_cons, z_ok_int, z_ok_long, z_ok_null, true_and] at h ⊢; first | exact h | exact h.2 | exact h.2.2 | simp_all) (fun C hl hc hs w => lv_tableIn C.1 C.2.1 hd hm hm1 hm2 hm3 w)
theorem zs_tableOut (l : Launch) (D : va_G) : zk_tableOut (z_Sem l D) := by
  intro d M pc lv st S o x dflt lo hi offs len tgt hd hm hm1 k
  exact z_loc k (fun n hl h => by simp only [List.forall_mem_cons, z_ok_int, z_ok_long, z_ok_null, true_and] at h ⊢; first | exact h | exact h.2 | exact h.2.2 | simp_all) (fun C hl hc hs w => lv_tableOut C.1 C.2.1 hd hm hm1 w)
theorem zs_getf (l : Launch) (D : va_G) : zk_getf (z_Sem l D) := by
  intro d M pc lv st S o idx i ci j ty fin fs v hd hm hm1 hm2 k
  refine ⟨k.1, fun p e R s m args below meth c cA A ad H locs ls cells slots Q C I F hc hs K => ?_⟩
  have hi : i < S.1 := F.2.2.2 (.ref i) List.mem_cons_self
  have he := z_ws_get (ad := ad) (cA := cA) hi
  rw [hm1] at he
  have he : (z_ws ad cA S)[i]? = some (ad.1 i, .inr (ci, fs.map (z_tr ad))) := he
  obtain ⟨r, hr, hk, hcl, hpd, hfin, hlk⟩ := hm
  have hov : z_ok S.1 v := by have h8 := I.2.2.1 i hi; rw [hm1] at h8; exact h8 v (List.mem_of_getElem? hm2)
  have w := k.2 p e R s m args below meth c cA A ad H locs ls cells slots Q C I ⟨F.1, F.2.1, F.2.2.1, by have h9 := F.2.2.2; simp only [List.forall_mem_cons] at h9 ⊢; exact ⟨hov, h9.2⟩⟩ hc hs K
  rcases hlk with hlk | hlk
  · exact va_get (C := r.1) (T := r.2.1) (N := r.2.2) (ref := r.1) (v := z_tr ad v) C.1 C.2.1 C.2.2.2.2.2.1 (z_cls_in hr) C.2.2.2.2.1 (z_K C) I.1 i he hr j hk (C.2.2.2.2.2.1 _ hlk) (by rw [hcl]; exact fun _ h => h) (by rw [List.getElem?_map, hm2]; rfl) hd w
  · exact va_getN (C := r.1) (T := r.2.1) (N := r.2.2) (ref := r.1) (v := z_tr ad v) C.1 C.2.1 C.2.2.2.2.2.1 (z_cls_in hr) C.2.2.2.2.1 (z_K C) I.1 i he hr j hk (va_Nw.use rfl (C.2.2.2.2.2.2.1 _ hlk)) (by rw [hcl]; exact fun _ h => h) (by rw [List.getElem?_map, hm2]; rfl) hd w
theorem zs_putf (l : Launch) (D : va_G) : zk_putf (z_Sem l D) := by
  intro d M pc lv st S o idx i ci j ty fs v hd hm hm1 hm2 hm3 k
  refine z_stp k (fun n h => by simp only [List.forall_mem_cons] at h ⊢; exact h.2.2) (fun {p e R s m args below meth c cA A ad H locs ls cells slots Q} C I F w => ?_)
  have hi : i < S.1 := F.2.2.2 (.ref i) (List.mem_cons_of_mem _ List.mem_cons_self)
  have hov : z_ok S.1 v := F.2.2.2 v List.mem_cons_self
  have he := z_ws_get (ad := ad) (cA := cA) hi
  rw [hm1] at he
  have he : (z_ws ad cA S)[i]? = some (ad.1 i, .inr (ci, fs.map (z_tr ad))) := he
  obtain ⟨r, hr, hk, hcl, hpd, hfin, hlk⟩ := hm
  have hoc : z_okC S.1 (.inr (ci, fs.set j v)) := by
    intro u hu
    rcases List.mem_or_eq_of_mem_set hu with h | h
    · have h8 := I.2.2.1 i hi; rw [hm1] at h8; exact h8 u h
    · rw [h]; exact hov
  have ew : z_trC ad cA (.inr (ci, fs.set j v)) = .inr (ci, (fs.map (z_tr ad)).set j (z_tr ad v)) := by
    show (Sum.inr (ci, (fs.set j v).map (z_tr ad)) : va_E) = _
    rw [List.map_set]
  rcases hlk with hlk | hlk
  · exact va_put (C := r.1) (T := r.2.1) (N := r.2.2) (ref := r.1) (v := z_tr ad v) (ty := ty) C.1 C.2.1 C.2.2.2.2.2.1 (z_cls_in hr) (z_ft r) (z_cls_ty hr) (z_cls_nm hr) C.2.2.2.2.1 (z_K C) I.1 I.2.1 F.1 i he hr j hk (C.2.2.2.2.2.1 _ hlk) (by rw [hcl]; exact fun _ h => h) hfin hpd (z_narrow hm3.1) (z_fits hm3.2) (by rw [List.length_map]; exact hm2) hd (fun H1 locs1 hP hD hS => w H1 locs1 (z_In_put I (by rw [ew]; exact hP) (by rw [ew]; exact hD) hoc (fun _ _ h => by cases h)) hS)
  · exact va_putN (C := r.1) (T := r.2.1) (N := r.2.2) (ref := r.1) (v := z_tr ad v) (ty := ty) C.1 C.2.1 C.2.2.2.2.2.1 (z_cls_in hr) (z_ft r) (z_cls_ty hr) (z_cls_nm hr) C.2.2.2.2.1 (z_K C) I.1 I.2.1 F.1 i he hr j hk (va_Nw.use rfl (C.2.2.2.2.2.2.1 _ hlk)) (by rw [hcl]; exact fun _ h => h) hfin hpd (z_narrow hm3.1) (z_fits hm3.2) (by rw [List.length_map]; exact hm2) hd (fun H1 locs1 hP hD hS => w H1 locs1 (z_In_put I (by rw [ew]; exact hP) (by rw [ew]; exact hD) hoc (fun _ _ h => by cases h)) hS)
theorem zs_putF (l : Launch) (D : va_G) : zk_putF (z_Sem l D) := by
  intro d M pc lv st S o idx i ci j ty fs v hd hm hm1 hm2 hm3 hm4 k
  refine z_stp k (fun n h => by simp only [List.forall_mem_cons] at h ⊢; exact h.2.2) (fun {p e R s m args below meth c cA A ad H locs ls cells slots Q} C I F w => ?_)
  have hi : i < S.1 := F.2.2.2 (.ref i) (List.mem_cons_of_mem _ List.mem_cons_self)
  have hov : z_ok S.1 v := F.2.2.2 v List.mem_cons_self
  have he := z_ws_get (ad := ad) (cA := cA) hi
  rw [hm1] at he
  have he : (z_ws ad cA S)[i]? = some (ad.1 i, .inr (ci, fs.map (z_tr ad))) := he
  obtain ⟨r, hr, hk, hcl, hown9, hpd, hfin, hlk⟩ := hm
  have hoc : z_okC S.1 (.inr (ci, fs.set j v)) := by
    intro u hu
    rcases List.mem_or_eq_of_mem_set hu with h | h
    · have h8 := I.2.2.1 i hi; rw [hm1] at h8; exact h8 u h
    · rw [h]; exact hov
  have ew : z_trC ad cA (.inr (ci, fs.set j v)) = .inr (ci, (fs.map (z_tr ad)).set j (z_tr ad v)) := by
    show (Sum.inr (ci, (fs.set j v).map (z_tr ad)) : va_E) = _
    rw [List.map_set]
  exact va_putF (C := r.1) (T := r.2.1) (N := r.2.2) (ref := r.1) (v := z_tr ad v) (ty := ty) C.1 C.2.1 C.2.2.2.2.2.1 (z_cls_in hr) (z_ft r) (z_cls_ty hr) (z_cls_nm hr) C.2.2.2.2.1 (z_K C) I.1 I.2.1 F.1 i he hr j hk (C.2.2.2.2.2.1 _ hlk) (by rw [hcl]; exact fun _ h => h) hfin (C.2.2.2.2.2.2.2.2.1 hm4) (hcl.trans hown9) hpd (z_narrow hm3.1) (z_fits hm3.2) (by rw [List.length_map]; exact hm2) hd (fun H1 locs1 hP hD hS => w H1 locs1 (z_In_put I (by rw [ew]; exact hP) (by rw [ew]; exact hD) hoc (fun _ _ h => by cases h)) hS)
theorem zs_bald (l : Launch) (D : va_G) : zk_bald (z_Sem l D) := by
  intro d M pc lv st S o i n x g hd hm hm1 k
  refine ⟨k.1, fun p e R s m args below meth c cA A ad H locs ls cells slots Q C I F hc hs K => ?_⟩
  have hi : i < S.1 := F.2.2.2 (.ref i) (List.mem_cons_of_mem _ List.mem_cons_self)
  have he := z_ws_get (ad := ad) (cA := cA) hi
  rw [hm] at he
  have he : (z_ws ad cA S)[i]? = some (ad.1 i, .inl (cA (.byte), n, .inl g)) := he
  have w := k.2 p e R s m args below meth c cA A ad H locs ls cells slots Q C I ⟨F.1, F.2.1, F.2.2.1, by have h9 := F.2.2.2; simp only [List.forall_mem_cons, z_ok_int, z_ok_long, true_and] at h9 ⊢; exact h9.2⟩ hc hs K
  exact va_bald C.1 C.2.1 (z_K1 C (I.2.2.2 i hi _ _ hm)) I.1 i 0 he rfl hm1 hd w
theorem zs_zald (l : Launch) (D : va_G) : zk_zald (z_Sem l D) := by
  intro d M pc lv st S o i n x g hd hm hm1 k
  refine ⟨k.1, fun p e R s m args below meth c cA A ad H locs ls cells slots Q C I F hc hs K => ?_⟩
  have hi : i < S.1 := F.2.2.2 (.ref i) (List.mem_cons_of_mem _ List.mem_cons_self)
  have he := z_ws_get (ad := ad) (cA := cA) hi
  rw [hm] at he
  have he : (z_ws ad cA S)[i]? = some (ad.1 i, .inl (cA (.boolean), n, .inl g)) := he
  have w := k.2 p e R s m args below meth c cA A ad H locs ls cells slots Q C I ⟨F.1, F.2.1, F.2.2.1, by have h9 := F.2.2.2; simp only [List.forall_mem_cons, z_ok_int, z_ok_long, true_and] at h9 ⊢; exact h9.2⟩ hc hs K
  exact va_zald C.1 C.2.1 (z_K1 C (I.2.2.2 i hi _ _ hm)) I.1 i 0 he rfl hm1 hd w
theorem zs_iald (l : Launch) (D : va_G) : zk_iald (z_Sem l D) := by
  intro d M pc lv st S o i n x g hd hm hm1 k
  refine ⟨k.1, fun p e R s m args below meth c cA A ad H locs ls cells slots Q C I F hc hs K => ?_⟩
  have hi : i < S.1 := F.2.2.2 (.ref i) (List.mem_cons_of_mem _ List.mem_cons_self)
  have he := z_ws_get (ad := ad) (cA := cA) hi
  rw [hm] at he
  have he : (z_ws ad cA S)[i]? = some (ad.1 i, .inl (cA (.int), n, .inl g)) := he
  have w := k.2 p e R s m args below meth c cA A ad H locs ls cells slots Q C I ⟨F.1, F.2.1, F.2.2.1, by have h9 := F.2.2.2; simp only [List.forall_mem_cons, z_ok_int, z_ok_long, true_and] at h9 ⊢; exact h9.2⟩ hc hs K
  exact va_iald C.1 C.2.1 (z_K1 C (I.2.2.2 i hi _ _ hm)) I.1 i 0 he rfl hm1 hd w
theorem zs_lald (l : Launch) (D : va_G) : zk_lald (z_Sem l D) := by
  intro d M pc lv st S o i n x g hd hm hm1 k
  refine ⟨k.1, fun p e R s m args below meth c cA A ad H locs ls cells slots Q C I F hc hs K => ?_⟩
  have hi : i < S.1 := F.2.2.2 (.ref i) (List.mem_cons_of_mem _ List.mem_cons_self)
  have he := z_ws_get (ad := ad) (cA := cA) hi
  rw [hm] at he
  have he : (z_ws ad cA S)[i]? = some (ad.1 i, .inl (cA (.long), n, .inr (.inl g))) := he
  have w := k.2 p e R s m args below meth c cA A ad H locs ls cells slots Q C I ⟨F.1, F.2.1, F.2.2.1, by have h9 := F.2.2.2; simp only [List.forall_mem_cons, z_ok_int, z_ok_long, true_and] at h9 ⊢; exact h9.2⟩ hc hs K
  exact va_lald C.1 C.2.1 (z_K1 C (I.2.2.2 i hi _ _ hm)) I.1 i 0 he rfl hm1 hd w
theorem zs_aald (l : Launch) (D : va_G) : zk_aald (z_Sem l D) := by
  intro d M pc lv st S o i n x ty g hd hm hm1 hm2 k
  refine ⟨k.1, fun p e R s m args below meth c cA A ad H locs ls cells slots Q C I F hc hs K => ?_⟩
  have hi : i < S.1 := F.2.2.2 (.ref i) (List.mem_cons_of_mem _ List.mem_cons_self)
  have he := z_ws_get (ad := ad) (cA := cA) hi
  rw [hm] at he
  have he : (z_ws ad cA S)[i]? = some (ad.1 i, .inl (cA ty, n, .inr (.inr (.inr (.inr (fun k => (g k).map ad.1)))))) := he
  have hov : z_ok S.1 (va_rf (g x.toNatClampNeg)) := by
    have h8 := I.2.2.1 i hi
    rw [hm] at h8
    cases hg : g x.toNatClampNeg with
    | none => trivial
    | some j => exact h8 _ j hg
  have w := k.2 p e R s m args below meth c cA A ad H locs ls cells slots Q C I ⟨F.1, F.2.1, F.2.2.1, by have h9 := F.2.2.2; simp only [List.forall_mem_cons, z_ok_int, z_ok_long, true_and] at h9 ⊢; exact ⟨hov, h9.2⟩⟩ hc hs K
  have hlt : x.toNatClampNeg < n := Nat.not_le.mp fun q => hm1 (Or.inr q)
  have w : W p l e R s m args below meth c H locs cells slots Q (F0 m (pc + 1) ls (z_tr ad (va_rf (g x.toNatClampNeg)) :: st.map (z_tr ad))) := w
  rw [z_rf] at w
  exact W.aald (v := va_rf ((g x.toNatClampNeg).map ad.1)) (ty := ty) C.1 C.2.1 (I.1 i _ he) ((I.2.2.2 i hi _ _ hm).1 n (fun j => va_rf ((g j).map ad.1))) hm2 (fun q => by cases q) (by show ¬ (x < 0 ∨ (arrV _ _ _).slots.size ≤ _); rw [arrV_size]; exact hm1) (by show (arrV _ _ _).slots[_]? = _; rw [arrV_read _ _ hlt]) rfl rfl hd w
theorem zs_bast (l : Launch) (D : va_G) : zk_bast (z_Sem l D) := by
  intro d M pc lv st S o i n x g y hd hm hm1 k
  refine z_stp k (fun n h => by simp only [List.forall_mem_cons] at h ⊢; exact h.2.2.2) (fun {p e R s m args below meth c cA A ad H locs ls cells slots Q} C I F w => ?_)
  have hi : i < S.1 := F.2.2.2 (.ref i) (List.mem_cons_of_mem _ (List.mem_cons_of_mem _ List.mem_cons_self))
  have he := z_ws_get (ad := ad) (cA := cA) hi
  rw [hm] at he
  have he : (z_ws ad cA S)[i]? = some (ad.1 i, .inl (cA (.byte), n, .inl g)) := he
  exact va_bast C.1 C.2.1 (z_K1 C (I.2.2.2 i hi _ _ hm)) I.1 I.2.1 F.1 i 0 he rfl hm1 hd (fun H1 locs1 hP hD hS => w H1 locs1 (z_In_put I hP hD trivial (fun ty a h => by cases h; exact I.2.2.2 i hi _ _ hm)) hS)
theorem zs_zast (l : Launch) (D : va_G) : zk_zast (z_Sem l D) := by
  intro d M pc lv st S o i n x g y hd hm hm1 k
  refine z_stp k (fun n h => by simp only [List.forall_mem_cons] at h ⊢; exact h.2.2.2) (fun {p e R s m args below meth c cA A ad H locs ls cells slots Q} C I F w => ?_)
  have hi : i < S.1 := F.2.2.2 (.ref i) (List.mem_cons_of_mem _ (List.mem_cons_of_mem _ List.mem_cons_self))
  have he := z_ws_get (ad := ad) (cA := cA) hi
  rw [hm] at he
  have he : (z_ws ad cA S)[i]? = some (ad.1 i, .inl (cA (.boolean), n, .inl g)) := he
  exact va_zast C.1 C.2.1 (z_K1 C (I.2.2.2 i hi _ _ hm)) I.1 I.2.1 F.1 i 0 he rfl hm1 hd (fun H1 locs1 hP hD hS => w H1 locs1 (z_In_put I hP hD trivial (fun ty a h => by cases h; exact I.2.2.2 i hi _ _ hm)) hS)
theorem zs_iast (l : Launch) (D : va_G) : zk_iast (z_Sem l D) := by
  intro d M pc lv st S o i n x g y hd hm hm1 k
  refine z_stp k (fun n h => by simp only [List.forall_mem_cons] at h ⊢; exact h.2.2.2) (fun {p e R s m args below meth c cA A ad H locs ls cells slots Q} C I F w => ?_)
  have hi : i < S.1 := F.2.2.2 (.ref i) (List.mem_cons_of_mem _ (List.mem_cons_of_mem _ List.mem_cons_self))
  have he := z_ws_get (ad := ad) (cA := cA) hi
  rw [hm] at he
  have he : (z_ws ad cA S)[i]? = some (ad.1 i, .inl (cA (.int), n, .inl g)) := he
  exact va_iast C.1 C.2.1 (z_K1 C (I.2.2.2 i hi _ _ hm)) I.1 I.2.1 F.1 i 0 he rfl hm1 hd (fun H1 locs1 hP hD hS => w H1 locs1 (z_In_put I hP hD trivial (fun ty a h => by cases h; exact I.2.2.2 i hi _ _ hm)) hS)
theorem zs_last (l : Launch) (D : va_G) : zk_last (z_Sem l D) := by
  intro d M pc lv st S o i n x g y hd hm hm1 k
  refine z_stp k (fun n h => by simp only [List.forall_mem_cons] at h ⊢; exact h.2.2.2) (fun {p e R s m args below meth c cA A ad H locs ls cells slots Q} C I F w => ?_)
  have hi : i < S.1 := F.2.2.2 (.ref i) (List.mem_cons_of_mem _ (List.mem_cons_of_mem _ List.mem_cons_self))
  have he := z_ws_get (ad := ad) (cA := cA) hi
  rw [hm] at he
  have he : (z_ws ad cA S)[i]? = some (ad.1 i, .inl (cA (.long), n, .inr (.inl g))) := he
  exact va_last C.1 C.2.1 (z_K1 C (I.2.2.2 i hi _ _ hm)) I.1 I.2.1 F.1 i 0 he rfl hm1 hd (fun H1 locs1 hP hD hS => w H1 locs1 (z_In_put I hP hD trivial (fun ty a h => by cases h; exact I.2.2.2 i hi _ _ hm)) hS)
theorem zs_aast (l : Launch) (D : va_G) : zk_aast (z_Sem l D) := by
  intro d M pc lv st S o i n j ci x r g vs hd hm hm1 hm2 hm3 k
  refine z_stp k (fun n h => by simp only [List.forall_mem_cons] at h ⊢; exact h.2.2.2) (fun {p e R s m args below meth c cA A ad H locs ls cells slots Q} C I F w => ?_)
  have hj : j < S.1 := F.2.2.2 (.ref j) List.mem_cons_self
  have hi : i < S.1 := F.2.2.2 (.ref i) (List.mem_cons_of_mem _ (List.mem_cons_of_mem _ List.mem_cons_self))
  have he := z_ws_get (ad := ad) (cA := cA) hi
  rw [hm] at he
  have he : (z_ws ad cA S)[i]? = some (ad.1 i, .inl (cA (.object r.1), n, .inr (.inr (.inr (.inr (fun k => (g k).map ad.1)))))) := he
  have hf := z_ws_get (ad := ad) (cA := cA) hj
  rw [hm2] at hf
  have hf : (z_ws ad cA S)[j]? = some (ad.1 j, .inr (ci, vs.map (z_tr ad))) := hf
  have ew : z_trC ad cA (.inl (.object r.1, n, .inr (.inr (.inr (.inr (va_up g x.toNatClampNeg (some j))))))) = .inl (cA (.object r.1), n, .inr (.inr (.inr (.inr (va_up (fun k => (g k).map ad.1) x.toNatClampNeg (some (ad.1 j))))))) := by
    show (Sum.inl (cA (.object r.1), n, .inr (.inr (.inr (.inr (fun k => (va_up g x.toNatClampNeg (some j) k).map ad.1))))) : va_E) = _
    congr 7
    funext k
    unfold va_up
    split <;> rfl
  have hoc : z_okC S.1 (.inl (.object r.1, n, .inr (.inr (.inr (.inr (va_up g x.toNatClampNeg (some j))))))) := by
    intro k i9 h9
    have h8 := I.2.2.1 i hi
    rw [hm] at h8
    unfold va_up at h9
    split at h9
    · cases h9; exact hj
    · exact h8 k i9 h9
  exact va_astq C.1 C.2.1 (z_K1 C (I.2.2.2 i hi _ _ hm)) I.1 I.2.1 F.1 i 0 j ci he rfl hf hm3 hm1 hd (fun H1 locs1 hP hD hS => w H1 locs1 (z_In_put I (by rw [ew]; exact hP) (by rw [ew]; exact hD) hoc (fun ty a h => by cases h; exact I.2.2.2 i hi _ _ hm)) hS)
theorem zs_alen (l : Launch) (D : va_G) : zk_alen (z_Sem l D) := by
  intro d M pc lv st S o i ty a hd hm k
  refine ⟨k.1, fun p e R s m args below meth c cA A ad H locs ls cells slots Q C I F hc hs K => ?_⟩
  have hi : i < S.1 := F.2.2.2 (.ref i) List.mem_cons_self
  have he := z_ws_get (ad := ad) (cA := cA) hi
  rw [hm] at he
  have he : (z_ws ad cA S)[i]? = some (ad.1 i, .inl (cA ty, z_trA ad a)) := he
  have w := k.2 p e R s m args below meth c cA A ad H locs ls cells slots Q C I ⟨F.1, F.2.1, F.2.2.1, by have h9 := F.2.2.2; simp only [List.forall_mem_cons, z_ok_int, z_ok_long, true_and] at h9 ⊢; exact h9.2⟩ hc hs K
  exact va_alen C.1 C.2.1 (z_K1 C (I.2.2.2 i hi _ _ hm)) I.1 i 0 he rfl (by rcases a with ⟨n, g | g | g | g | g⟩ <;> rfl) hd w
theorem zs_new (l : Launch) (D : va_G) : zk_new (z_Sem l D) := by
  intro d M pc lv st S o idx ci n fs hd hm k
  refine z_stn k (fun h => by simp only [List.forall_mem_cons]; exact ⟨Nat.lt_succ_self _, fun v hv => z_ok_mono (Nat.le_succ _) (h v hv)⟩) (fun {p e R s m args below meth c cA A ad H locs ls cells slots Q} C I F hc hs w => ?_)
  obtain ⟨r, hr, hn, hcl, hins, hini, hdf, hno⟩ := hm
  subst hn
  have hmap : ∀ ad : zA, fs.map (z_tr ad) = fs := fun ad => by
    conv => rhs; rw [← List.map_id fs]
    apply List.map_congr_left
    intro v hv
    rcases hno v hv with h | h | h <;> subst h <;> rfl
  have hoc : z_okC (S.1 + 1) (.inr (ci, fs)) := fun v hv => by rcases hno v hv with h | h | h <;> subst h <;> trivial
  have ew : ∀ q, z_trC (z_up ad S.1 q) cA (.inr (ci, fs)) = .inr (ci, fs) := fun q => by
    show (Sum.inr (ci, fs.map (z_tr (z_up ad S.1 q))) : va_E) = _
    rw [hmap]
  exact va_new (c0 := c) (C := r.1) (T := r.2.1) (N := r.2.2) (fs := fs) C.1 C.2.1 C.2.2.2.2.2.1 (z_cls_in hr) (z_ft r) (z_cls_ty hr) C.2.2.2.2.1 (C.2.2.2.2.2.1 _ hcl) (C.2.2.2.2.2.1 _ hins) (C.2.2.2.2.2.1 _ hini) (z_K C) I.1 I.2.1 F.1 C.2.2.2.2.2.2.2.2.2.2.2.2.2 hr (fun j hj => by have h9 := hdf j hj; rw [z_cls_ty hr j hj] at h9; exact Option.some.inj h9) hc hs hd (fun q H1 hP hD hS => by
    have w9 := w q H1 (z_In_new (k := r.2.2) I (by rw [ew]; exact hP) (by rw [ew]; exact hD) hoc (fun _ _ h => by cases h)) hS
    have e9 : (Value.ref S.1 :: st).map (z_tr (z_up ad S.1 q)) = .ref q :: st.map (z_tr ad) := by
      show Value.ref (va_up ad.1 S.1 q S.1) :: st.map (z_tr (z_up ad S.1 q)) = _
      rw [va_up_self, z_trs_new z_ag_up F.2.2.2]
    rw [e9] at w9
    exact w9)
theorem zs_newi (l : Launch) (D : va_G) : zk_newi (z_Sem l D) := by
  intro d M pc lv st S o n N hd hm hm1 hm2 hm3 k
  refine z_stn k (fun h => by simp only [List.forall_mem_cons] at h ⊢; exact ⟨Nat.lt_succ_self _, fun v hv => z_ok_mono (Nat.le_succ _) (h.2 v hv)⟩) (fun {p e R s m args below meth c cA A ad H locs ls cells slots Q} C I F hc hs w => ?_)
  refine va_newa (atype := .int) (ty := .int) (a0 := (N, .inl (fun _ => 0))) C.1 C.2.1 (C.2.2.2.2.2.1 _ hm3) rfl (z_K C) I.1 I.2.1 F.1 C.2.2.2.2.2.2.2.2.2.2.2.2.2 (fun cA => rfl) hm hm1 hm2 hc hs hd (fun q cA9 H1 hK hP hD hS => ?_)
  have hA9 := hK.2 0 (cA9, .int) rfl
  have ec : cA .int = cA9 := C.2.2.2.2.2.2.2.2.2.2.2.2.1 _ _ hA9.2
  rw [← ec] at hA9 hP hD
  have w9 := w q H1 (z_In_new (k := N) I hP hD trivial (fun ty a h => by cases h; exact hA9)) hS
  have e9 : (Value.ref S.1 :: st).map (z_tr (z_up ad S.1 q)) = .ref q :: st.map (z_tr ad) := by
    show Value.ref (va_up ad.1 S.1 q S.1) :: st.map (z_tr (z_up ad S.1 q)) = _
    rw [va_up_self, z_trs_new z_ag_up (fun v hv => F.2.2.2 v (List.mem_cons_of_mem _ hv))]
  rw [e9] at w9
  exact w9
theorem zs_newb (l : Launch) (D : va_G) : zk_newb (z_Sem l D) := by
  intro d M pc lv st S o n N hd hm hm1 hm2 hm3 k
  refine z_stn k (fun h => by simp only [List.forall_mem_cons] at h ⊢; exact ⟨Nat.lt_succ_self _, fun v hv => z_ok_mono (Nat.le_succ _) (h.2 v hv)⟩) (fun {p e R s m args below meth c cA A ad H locs ls cells slots Q} C I F hc hs w => ?_)
  refine va_newa (atype := .byte) (ty := .byte) (a0 := (N, .inl (fun _ => 0))) C.1 C.2.1 (C.2.2.2.2.2.1 _ hm3) rfl (z_K C) I.1 I.2.1 F.1 C.2.2.2.2.2.2.2.2.2.2.2.2.2 (fun cA => rfl) hm hm1 hm2 hc hs hd (fun q cA9 H1 hK hP hD hS => ?_)
  have hA9 := hK.2 0 (cA9, .byte) rfl
  have ec : cA .byte = cA9 := C.2.2.2.2.2.2.2.2.2.2.2.2.1 _ _ hA9.2
  rw [← ec] at hA9 hP hD
  have w9 := w q H1 (z_In_new (k := N) I hP hD trivial (fun ty a h => by cases h; exact hA9)) hS
  have e9 : (Value.ref S.1 :: st).map (z_tr (z_up ad S.1 q)) = .ref q :: st.map (z_tr ad) := by
    show Value.ref (va_up ad.1 S.1 q S.1) :: st.map (z_tr (z_up ad S.1 q)) = _
    rw [va_up_self, z_trs_new z_ag_up (fun v hv => F.2.2.2 v (List.mem_cons_of_mem _ hv))]
  rw [e9] at w9
  exact w9
theorem zs_newz (l : Launch) (D : va_G) : zk_newz (z_Sem l D) := by
  intro d M pc lv st S o n N hd hm hm1 hm2 hm3 k
  refine z_stn k (fun h => by simp only [List.forall_mem_cons] at h ⊢; exact ⟨Nat.lt_succ_self _, fun v hv => z_ok_mono (Nat.le_succ _) (h.2 v hv)⟩) (fun {p e R s m args below meth c cA A ad H locs ls cells slots Q} C I F hc hs w => ?_)
  refine va_newa (atype := .boolean) (ty := .boolean) (a0 := (N, .inl (fun _ => 0))) C.1 C.2.1 (C.2.2.2.2.2.1 _ hm3) rfl (z_K C) I.1 I.2.1 F.1 C.2.2.2.2.2.2.2.2.2.2.2.2.2 (fun cA => rfl) hm hm1 hm2 hc hs hd (fun q cA9 H1 hK hP hD hS => ?_)
  have hA9 := hK.2 0 (cA9, .boolean) rfl
  have ec : cA .boolean = cA9 := C.2.2.2.2.2.2.2.2.2.2.2.2.1 _ _ hA9.2
  rw [← ec] at hA9 hP hD
  have w9 := w q H1 (z_In_new (k := N) I hP hD trivial (fun ty a h => by cases h; exact hA9)) hS
  have e9 : (Value.ref S.1 :: st).map (z_tr (z_up ad S.1 q)) = .ref q :: st.map (z_tr ad) := by
    show Value.ref (va_up ad.1 S.1 q S.1) :: st.map (z_tr (z_up ad S.1 q)) = _
    rw [va_up_self, z_trs_new z_ag_up (fun v hv => F.2.2.2 v (List.mem_cons_of_mem _ hv))]
  rw [e9] at w9
  exact w9
theorem zs_newl (l : Launch) (D : va_G) : zk_newl (z_Sem l D) := by
  intro d M pc lv st S o n N hd hm hm1 hm2 hm3 k
  refine z_stn k (fun h => by simp only [List.forall_mem_cons] at h ⊢; exact ⟨Nat.lt_succ_self _, fun v hv => z_ok_mono (Nat.le_succ _) (h.2 v hv)⟩) (fun {p e R s m args below meth c cA A ad H locs ls cells slots Q} C I F hc hs w => ?_)
  refine va_newa (atype := .long) (ty := .long) (a0 := (N, .inr (.inl (fun _ => 0)))) C.1 C.2.1 (C.2.2.2.2.2.1 _ hm3) rfl (z_K C) I.1 I.2.1 F.1 C.2.2.2.2.2.2.2.2.2.2.2.2.2 (fun cA => rfl) hm hm1 hm2 hc hs hd (fun q cA9 H1 hK hP hD hS => ?_)
  have hA9 := hK.2 0 (cA9, .long) rfl
  have ec : cA .long = cA9 := C.2.2.2.2.2.2.2.2.2.2.2.2.1 _ _ hA9.2
  rw [← ec] at hA9 hP hD
  have w9 := w q H1 (z_In_new (k := N) I hP hD trivial (fun ty a h => by cases h; exact hA9)) hS
  have e9 : (Value.ref S.1 :: st).map (z_tr (z_up ad S.1 q)) = .ref q :: st.map (z_tr ad) := by
    show Value.ref (va_up ad.1 S.1 q S.1) :: st.map (z_tr (z_up ad S.1 q)) = _
    rw [va_up_self, z_trs_new z_ag_up (fun v hv => F.2.2.2 v (List.mem_cons_of_mem _ hv))]
  rw [e9] at w9
  exact w9
theorem zs_ldc (l : Launch) (D : va_G) : zk_ldc (z_Sem l D) := by
  intro d M pc lv st S o idx v hd hm k
  exact z_loc k (fun n hl h => by simp only [List.forall_mem_cons, z_ok_int, z_ok_long, z_ok_null, true_and] at h ⊢; first | exact h | exact h.2 | exact h.2.2 | simp_all) (fun C hl hc hs w => lv_ldc C.1 C.2.1 C.2.2.2.2.1 (C.2.2.2.2.2.1 _ hm) hd w)
theorem zs_ldcw (l : Launch) (D : va_G) : zk_ldcw (z_Sem l D) := by
  intro d M pc lv st S o idx v hd hm k
  exact z_loc k (fun n hl h => by simp only [List.forall_mem_cons, z_ok_int, z_ok_long, z_ok_null, true_and] at h ⊢; first | exact h | exact h.2 | exact h.2.2 | simp_all) (fun C hl hc hs w => lv_ldcw C.1 C.2.1 C.2.2.2.2.1 (C.2.2.2.2.2.1 _ hm) hd w)
theorem zs_ldc2 (l : Launch) (D : va_G) : zk_ldc2 (z_Sem l D) := by
  intro d M pc lv st S o idx v hd hm k
  exact z_loc k (fun n hl h => by simp only [List.forall_mem_cons, z_ok_int, z_ok_long, z_ok_null, true_and] at h ⊢; first | exact h | exact h.2 | exact h.2.2 | simp_all) (fun C hl hc hs w => lv_ldc2 C.1 C.2.1 C.2.2.2.2.1 (C.2.2.2.2.2.1 _ hm) hd w)
theorem zs_lcmp (l : Launch) (D : va_G) : zk_lcmp (z_Sem l D) := by
  intro d M pc lv st S o x y hd  k
  exact z_loc k (fun n hl h => by simp only [List.forall_mem_cons, z_ok_int, z_ok_long, z_ok_null, true_and] at h ⊢; first | exact h | exact h.2 | exact h.2.2 | simp_all) (fun C hl hc hs w => W.lcmp C.1 C.2.1 hd w)
theorem zs_dup_x1 (l : Launch) (D : va_G) : zk_dup_x1 (z_Sem l D) := by
  intro d M pc lv st S o v u hd hm hm1 k
  exact z_loc k (fun n hl h => by simp only [List.forall_mem_cons] at h ⊢; exact ⟨h.1, h.2.1, h.1, h.2.2⟩) (fun C hl hc hs w => lv_dup_x1 C.1 C.2.1 hd ((z_cat v).trans hm) ((z_cat u).trans hm1) w)
theorem zs_objInit (l : Launch) (D : va_G) : zk_objInit (z_Sem l D) := by
  intro d M pc lv st S o idx i hd hm hm1 k
  have hcat : ∀ ad : zA, ((st.map (z_tr ad)).map fun v => v.category).sum ≤ 8 := fun ad => by
    rw [List.map_map]
    have e9 : ((fun v : Value => v.category) ∘ z_tr ad) = Value.category := by funext v; exact z_cat v
    rw [e9]
    exact hm1
  exact z_loc k (fun n hl h => by simp only [List.forall_mem_cons] at h ⊢; exact h.2) (fun {p e R s m args below meth c cA A ad H locs ls cells slots Q} C hl hc hs w => W.objInit (g := F0 m pc ls (.ref (ad.1 i) :: st.map (z_tr ad))) C.1 C.2.1 C.2.2.2.2.1 (C.2.2.2.2.2.1 _ hm) (C.2.2.2.2.2.1 _ z_oi1) (C.2.2.2.2.2.1 _ z_oi2) rfl (hl.1.trans C.2.2.2.1.symm) rfl hd (by rw [C.2.2.2.2.2.2.2.2.2.1]; omega) (by rw [C.2.2.2.2.2.2.2.2.2.2.1]; have h9 := hcat ad; show 2 * 0 + _ + 12 ≤ _; omega) w)
theorem zs_mmax (l : Launch) (D : va_G) : zk_mmax (z_Sem l D) := by
  intro d M pc lv st S o idx x y hd hm hm1 k
  have hcat : ∀ ad : zA, ((st.map (z_tr ad)).map fun v => v.category).sum ≤ 8 := fun ad => by
    rw [List.map_map]
    have e9 : ((fun v : Value => v.category) ∘ z_tr ad) = Value.category := by funext v; exact z_cat v
    rw [e9]
    exact hm1
  exact z_loc k (fun n hl h => by simp only [List.forall_mem_cons, z_ok_int, true_and] at h ⊢; exact h) (fun {p e R s m args below meth c cA A ad H locs ls cells slots Q} C hl hc hs w => va_mmax C.1 C.2.1 (C.2.2.2.1.trans hl.1.symm) C.2.2.2.2.1 (C.2.2.2.2.2.1 _ hm) (C.2.2.2.2.2.1 _ z_mm_max1) (C.2.2.2.2.2.1 _ z_mm_max2) (C.2.2.2.2.2.1 _ z_mm_max3) (by rw [C.2.2.2.2.2.2.2.2.2.1]; omega) (by rw [C.2.2.2.2.2.2.2.2.2.2.1]; have h9 := hcat ad; omega) hc hs hd w)
theorem zs_mmin (l : Launch) (D : va_G) : zk_mmin (z_Sem l D) := by
  intro d M pc lv st S o idx x y hd hm hm1 k
  have hcat : ∀ ad : zA, ((st.map (z_tr ad)).map fun v => v.category).sum ≤ 8 := fun ad => by
    rw [List.map_map]
    have e9 : ((fun v : Value => v.category) ∘ z_tr ad) = Value.category := by funext v; exact z_cat v
    rw [e9]
    exact hm1
  exact z_loc k (fun n hl h => by simp only [List.forall_mem_cons, z_ok_int, true_and] at h ⊢; exact h) (fun {p e R s m args below meth c cA A ad H locs ls cells slots Q} C hl hc hs w => va_mmin C.1 C.2.1 (C.2.2.2.1.trans hl.1.symm) C.2.2.2.2.1 (C.2.2.2.2.2.1 _ hm) (C.2.2.2.2.2.1 _ z_mm_min1) (C.2.2.2.2.2.1 _ z_mm_min2) (C.2.2.2.2.2.1 _ z_mm_min3) (by rw [C.2.2.2.2.2.2.2.2.2.1]; omega) (by rw [C.2.2.2.2.2.2.2.2.2.2.1]; have h9 := hcat ad; omega) hc hs hd w)
theorem zs_cast (l : Launch) (D : va_G) : zk_cast (z_Sem l D) := by
  intro d M pc lv st S o idx i ci n fs fs0 hd hm hm1 k
  refine ⟨k.1, fun p e R s m args below meth c cA A ad H locs ls cells slots Q C I F hc hs K => ?_⟩
  have hi : i < S.1 := F.2.2.2 (.ref i) List.mem_cons_self
  have he := z_ws_get (ad := ad) (cA := cA) hi
  rw [hm1] at he
  have he : (z_ws ad cA S)[i]? = some (ad.1 i, .inr (ci, fs.map (z_tr ad))) := he
  obtain ⟨r, hr, hn, hcl, -⟩ := hm
  exact va_castE C.1 C.2.1 C.2.2.2.2.1 (C.2.2.2.2.2.1 _ hcl) (va_recv (z_K C) I.1 hr he) hd (k.2 p e R s m args below meth c cA A ad H locs ls cells slots Q C I F hc hs K)
theorem zs_castN (l : Launch) (D : va_G) : zk_castN (z_Sem l D) := by
  intro d M pc lv st S o idx hd  k
  exact z_loc k (fun n hl h => h) (fun C hl hc hs w => lv_castN C.1 C.2.1 hd w)
theorem zs_aastN (l : Launch) (D : va_G) : zk_aastN (z_Sem l D) := by
  intro d M pc lv st S o i n x C9 g hd hm hm1 k
  refine z_stp k (fun n h => by simp only [List.forall_mem_cons] at h ⊢; exact h.2.2.2) (fun {p e R s m args below meth c cA A ad H locs ls cells slots Q} C I F w => ?_)
  have hi : i < S.1 := F.2.2.2 (.ref i) (List.mem_cons_of_mem _ (List.mem_cons_of_mem _ List.mem_cons_self))
  have he := z_ws_get (ad := ad) (cA := cA) hi
  rw [hm] at he
  have he : (z_ws ad cA S)[i]? = some (ad.1 i, .inl (cA (.object C9), n, .inr (.inr (.inr (.inr (fun k => (g k).map ad.1)))))) := he
  have ew : z_trC ad cA (.inl (.object C9, n, .inr (.inr (.inr (.inr (va_up g x.toNatClampNeg none)))))) = .inl (cA (.object C9), n, .inr (.inr (.inr (.inr (va_up (fun k => (g k).map ad.1) x.toNatClampNeg none))))) := by
    show (Sum.inl (cA (.object C9), n, .inr (.inr (.inr (.inr (fun k => (va_up g x.toNatClampNeg none k).map ad.1))))) : va_E) = _
    congr 7
    funext k
    unfold va_up
    split <;> rfl
  have hoc : z_okC S.1 (.inl (.object C9, n, .inr (.inr (.inr (.inr (va_up g x.toNatClampNeg none)))))) := by
    intro k i9 h9
    have h8 := I.2.2.1 i hi
    rw [hm] at h8
    unfold va_up at h9
    split at h9
    · cases h9
    · exact h8 k i9 h9
  exact va_astqN C.1 C.2.1 (z_K1 C (I.2.2.2 i hi _ _ hm)) I.1 I.2.1 F.1 i 0 he rfl hm1 hd (fun H1 locs1 hP hD hS => w H1 locs1 (z_In_put I (by rw [ew]; exact hP) (by rw [ew]; exact hD) hoc (fun ty a h => by cases h; exact I.2.2.2 i hi _ _ hm)) hS)
theorem zs_anewq (l : Launch) (D : va_G) : zk_anewq (z_Sem l D) := by
  intro d M pc lv st S o idx C9 n N hd hm hm1 hm2 hm3 k
  sorry
theorem zs_ldcS (l : Launch) (D : va_G) : zk_ldcS (z_Sem l D) := by
  intro d M pc lv st S o idx k9 hd hm k
  sorry
theorem zs_slen (l : Launch) (D : va_G) : zk_slen (z_Sem l D) := by
  intro d M pc lv st S o idx k9 hd hm hm1 hm2 k
  sorry
theorem zs_schar (l : Launch) (D : va_G) : zk_schar (z_Sem l D) := by
  intro d M pc lv st S o idx k9 j hd hm hm1 hm2 hm3 k
  sorry
theorem zs_copyB (l : Launch) (D : va_G) : zk_copyB (z_Sem l D) := by
  intro d M pc lv st S o idx i n N g hd hm hm1 hm2 hm3 k
  sorry
theorem zs_copyI (l : Launch) (D : va_G) : zk_copyI (z_Sem l D) := by
  intro d M pc lv st S o idx i n N g hd hm hm1 hm2 hm3 k
  sorry
theorem zs_cmpU (l : Launch) (D : va_G) : zk_cmpU (z_Sem l D) := by
  intro d M pc lv st S o idx x y hd hm hm1 k
  sorry
theorem zs_callS (l : Launch) (D : va_G) : zk_callS (z_Sem l D) := by
  intro d M pc lv st S o idx n M1 as st1 lv1 S1 pc1 r hd h0 h1 h2 h3 h4 k0 k1
  have hg0 : S.1 ≤ S1.1 ∧ S.2.1 ≤ S1.2.1 := k0.1
  have hg1 : S1.1 ≤ o.2.2.2.1 ∧ S1.2.1 ≤ o.2.2.2.2.1 := k1.1
  refine ⟨⟨Nat.le_trans hg0.1 hg1.1, Nat.le_trans hg0.2 hg1.2⟩, fun p e R s m args below meth c cA A ad H locs ls cells slots Q C I F hc hs K => ?_⟩
  obtain ⟨hcode, hini, hdsc, hmx, hpl, hkd⟩ := h0
  have hst : ∀ v ∈ st, z_ok S.1 v := (fun v hv => F.2.2.2 v (List.mem_append_right _ hv))
  have hM := z_met (cA := cA) (ad := ad) (sz := H.size) k0 h4 (fun v hv => F.2.2.2 v (List.mem_append_left _ (List.mem_reverse.mpr hv))) h2 hpl
  have hT := C.2.2.2.2.2.1
  have hcat : ((st.map (z_tr ad)).map fun v => v.category).sum ≤ 8 := by
    rw [List.map_map]
    have e9 : ((fun v : Value => v.category) ∘ z_tr ad) = Value.category := by funext v; exact z_cat v
    rw [e9]
    exact h3
  have estk : (as.reverse ++ st).map (z_tr ad) = ((as.map (z_tr ad)).reverse ++ st.map (z_tr ad)) := by simp [z_tr]
  rw [estk]
  refine z_ret (g := F0 m pc ls ((as.map (z_tr ad)).reverse ++ st.map (z_tr ad))) (a9 := (as.map (z_tr ad)).toArray) rfl C I F.1 F.2.1 F.2.2.1 hst hg0 ?_ k1 hc hs K
  exact va_runS (As := as.map (z_tr ad)) (rest := st.map (z_tr ad)) ⟨C.1, C.2.1, C.2.2.2.1, C.2.2.2.2.1, hT⟩ hM ⟨callB_of n hT (z_good hcode) rfl rfl rfl (hT _ hini) (hT _ hkd.1) hdsc ⟨by rw [C.2.2.2.2.2.2.2.2.2.1]; exact Nat.le_refl _, by rw [C.2.2.2.2.2.2.2.2.2.2.1]; show 8 + (M1.2.2.1 + 11) + 40 * d ≤ 40 * (d + 1); omega⟩, hT _ hkd.2⟩ ⟨z_blind, fun U hU hW => ⟨rfl, z_wd C I U hU hW⟩⟩ rfl (by rw [List.length_map]; exact h1) F.2.1.1 rfl (lv_room hcat) hd ⟨by show cells + (S1.1 - S.1) ≤ _; omega, by show slots + (S1.2.1 - S.2.1) ≤ _; omega⟩

theorem zs_callSN (l : Launch) (D : va_G) : zk_callSN (z_Sem l D) := by
  intro d M pc lv st S o idx n M1 as st1 lv1 S1 pc1 r hd h0 h1 h2 h3 h4 k0 k1
  have hg0 : S.1 ≤ S1.1 ∧ S.2.1 ≤ S1.2.1 := k0.1
  have hg1 : S1.1 ≤ o.2.2.2.1 ∧ S1.2.1 ≤ o.2.2.2.2.1 := k1.1
  refine ⟨⟨Nat.le_trans hg0.1 hg1.1, Nat.le_trans hg0.2 hg1.2⟩, fun p e R s m args below meth c cA A ad H locs ls cells slots Q C I F hc hs K => ?_⟩
  obtain ⟨hcode, hini, hdsc, hmx, hpl, hkd⟩ := h0
  have hst : ∀ v ∈ st, z_ok S.1 v := (fun v hv => F.2.2.2 v (List.mem_append_right _ hv))
  have hM := z_met (cA := cA) (ad := ad) (sz := H.size) k0 h4 (fun v hv => F.2.2.2 v (List.mem_append_left _ (List.mem_reverse.mpr hv))) h2 hpl
  have hT := C.2.2.2.2.2.1
  have hcat : ((st.map (z_tr ad)).map fun v => v.category).sum ≤ 8 := by
    rw [List.map_map]
    have e9 : ((fun v : Value => v.category) ∘ z_tr ad) = Value.category := by funext v; exact z_cat v
    rw [e9]
    exact h3
  have estk : (as.reverse ++ st).map (z_tr ad) = ((as.map (z_tr ad)).reverse ++ st.map (z_tr ad)) := by simp [z_tr]
  rw [estk]
  refine z_ret (g := F0 m pc ls ((as.map (z_tr ad)).reverse ++ st.map (z_tr ad))) (a9 := (as.map (z_tr ad)).toArray) rfl C I F.1 F.2.1 F.2.2.1 hst hg0 ?_ k1 hc hs K
  exact va_runSN (As := as.map (z_tr ad)) (rest := st.map (z_tr ad)) ⟨C.1, C.2.1, C.2.2.2.1, C.2.2.2.2.1, hT⟩ hM ⟨va_cnB n hT (z_good hcode) rfl rfl rfl (C.2.2.2.2.2.2.1 _ hkd.1) (hT _ hini) hdsc ⟨by rw [C.2.2.2.2.2.2.2.2.2.1]; exact Nat.le_refl _, by rw [C.2.2.2.2.2.2.2.2.2.2.1]; show 8 + (M1.2.2.1 + 11) + 40 * d ≤ 40 * (d + 1); omega⟩, hT _ hkd.2, trivial⟩ ⟨z_blind, fun U hU hW => ⟨rfl, z_wd C I U hU hW⟩⟩ rfl (by rw [List.length_map]; exact h1) F.2.1.1 rfl (lv_room hcat) hd ⟨by show cells + (S1.1 - S.1) ≤ _; omega, by show slots + (S1.2.1 - S.2.1) ≤ _; omega⟩

theorem zs_callV (l : Launch) (D : va_G) : zk_callV (z_Sem l D) := by
  intro d M pc lv st S o idx n M1 as st1 lv1 S1 pc1 r b ci fs hd h0 h1 h2 h3 h4 h5 h6 k0 k1
  have hg0 : S.1 ≤ S1.1 ∧ S.2.1 ≤ S1.2.1 := k0.1
  have hg1 : S1.1 ≤ o.2.2.2.1 ∧ S1.2.1 ≤ o.2.2.2.2.1 := k1.1
  refine ⟨⟨Nat.le_trans hg0.1 hg1.1, Nat.le_trans hg0.2 hg1.2⟩, fun p e R s m args below meth c cA A ad H locs ls cells slots Q C I F hc hs K => ?_⟩
  obtain ⟨hcode, hini, hdsc, hmx, hpl, hkd⟩ := h0
  have hst : ∀ v ∈ st, z_ok S.1 v := (fun v hv => F.2.2.2 v (List.mem_append_right _ (List.mem_cons_of_mem _ hv)))
  have hM := z_met (cA := cA) (ad := ad) (sz := H.size) k0 h4 (fun v hv => by rcases List.mem_cons.mp hv with rfl | hv; exact F.2.2.2 (.ref b) (List.mem_append_right _ List.mem_cons_self); exact F.2.2.2 v (List.mem_append_left _ (List.mem_reverse.mpr hv))) h2 hpl
  have hT := C.2.2.2.2.2.1
  have hcat : ((st.map (z_tr ad)).map fun v => v.category).sum ≤ 8 := by
    rw [List.map_map]
    have e9 : ((fun v : Value => v.category) ∘ z_tr ad) = Value.category := by funext v; exact z_cat v
    rw [e9]
    exact h3
  have estk : (as.reverse ++ .ref b :: st).map (z_tr ad) = ((as.map (z_tr ad)).reverse ++ .ref (ad.1 b) :: st.map (z_tr ad)) := by simp [z_tr]
  rw [estk]
  refine z_ret (g := F0 m pc ls ((as.map (z_tr ad)).reverse ++ .ref (ad.1 b) :: st.map (z_tr ad))) (a9 := (Value.ref (ad.1 b) :: as.map (z_tr ad)).toArray) rfl C I F.1 F.2.1 F.2.2.1 hst hg0 ?_ k1 hc hs K
  have hbi : b < S.1 := F.2.2.2 (.ref b) (List.mem_append_right _ List.mem_cons_self)
  have he := z_ws_get (ad := ad) (cA := cA) hbi
  rw [h5] at he
  have he : (z_ws ad cA S)[b]? = some (ad.1 b, .inr (ci, fs.map (z_tr ad))) := he
  obtain ⟨rc, hrc, hrn⟩ : ∃ rc, vwCl[ci]? = some rc ∧ rc.1 = M1.1.cls := by
    cases hv9 : vwCl[ci]? with
    | none => rw [hv9] at h6; cases h6
    | some rc => rw [hv9] at h6; exact ⟨rc, rfl, Option.some.inj h6⟩
  have hrec := va_recv (z_K C) I.1 hrc he
  rw [hrn] at hrec
  exact va_runV (C := M1.1.cls) (b := ad.1 b) (As := as.map (z_tr ad)) (rest := st.map (z_tr ad)) ⟨C.1, C.2.1, C.2.2.2.1, C.2.2.2.2.1, hT⟩ hM ⟨callB_of n hT (z_good hcode) rfl rfl rfl (hT _ hini) (hT _ hkd.1) hdsc ⟨by rw [C.2.2.2.2.2.2.2.2.2.1]; exact Nat.le_refl _, by rw [C.2.2.2.2.2.2.2.2.2.2.1]; show 8 + (M1.2.2.1 + 11) + 40 * d ≤ 40 * (d + 1); omega⟩, hT _ hkd.2.1, hT _ hkd.2.2⟩ ⟨z_blind, hrec, fun U hU hW => ⟨rfl, z_wd C I U hU hW⟩⟩ rfl (by rw [List.length_map]; exact h1) F.2.1.1 rfl (lv_room hcat) hd ⟨by show cells + (S1.1 - S.1) ≤ _; omega, by show slots + (S1.2.1 - S.2.1) ≤ _; omega⟩

theorem zs_callI (l : Launch) (D : va_G) : zk_callI (z_Sem l D) := by
  intro d M pc lv st S o idx n M1 as st1 lv1 S1 pc1 r b hd h0 h1 h2 h3 h4 k0 k1
  have hg0 : S.1 ≤ S1.1 ∧ S.2.1 ≤ S1.2.1 := k0.1
  have hg1 : S1.1 ≤ o.2.2.2.1 ∧ S1.2.1 ≤ o.2.2.2.2.1 := k1.1
  refine ⟨⟨Nat.le_trans hg0.1 hg1.1, Nat.le_trans hg0.2 hg1.2⟩, fun p e R s m args below meth c cA A ad H locs ls cells slots Q C I F hc hs K => ?_⟩
  obtain ⟨hcode, hini, hdsc, hmx, hpl, hkd⟩ := h0
  have hst : ∀ v ∈ st, z_ok S.1 v := (fun v hv => F.2.2.2 v (List.mem_append_right _ (List.mem_cons_of_mem _ hv)))
  have hM := z_met (cA := cA) (ad := ad) (sz := H.size) k0 h4 (fun v hv => by rcases List.mem_cons.mp hv with rfl | hv; exact F.2.2.2 (.ref b) (List.mem_append_right _ List.mem_cons_self); exact F.2.2.2 v (List.mem_append_left _ (List.mem_reverse.mpr hv))) h2 hpl
  have hT := C.2.2.2.2.2.1
  have hcat : ((st.map (z_tr ad)).map fun v => v.category).sum ≤ 8 := by
    rw [List.map_map]
    have e9 : ((fun v : Value => v.category) ∘ z_tr ad) = Value.category := by funext v; exact z_cat v
    rw [e9]
    exact h3
  have estk : (as.reverse ++ .ref b :: st).map (z_tr ad) = ((as.map (z_tr ad)).reverse ++ .ref (ad.1 b) :: st.map (z_tr ad)) := by simp [z_tr]
  rw [estk]
  refine z_ret (g := F0 m pc ls ((as.map (z_tr ad)).reverse ++ .ref (ad.1 b) :: st.map (z_tr ad))) (a9 := (Value.ref (ad.1 b) :: as.map (z_tr ad)).toArray) rfl C I F.1 F.2.1 F.2.2.1 hst hg0 ?_ k1 hc hs K
  have hn9 : M1.2.2.2 = none := hkd.2.2.2
  exact va_runI (b := ad.1 b) (As := as.map (z_tr ad)) (rest := st.map (z_tr ad)) ⟨C.1, C.2.1, C.2.2.2.1, C.2.2.2.2.1, hT⟩ hM ⟨by rw [← hn9]; exact callB_of n hT (z_good hcode) rfl rfl rfl (hT _ hini) (hT _ hkd.1) hdsc ⟨by rw [C.2.2.2.2.2.2.2.2.2.1]; exact Nat.le_refl _, by rw [C.2.2.2.2.2.2.2.2.2.2.1]; show 8 + (M1.2.2.1 + 11) + 40 * d ≤ 40 * (d + 1); omega⟩, hkd.2.2.1, hT _ hkd.2.1⟩ ⟨z_blind, fun U hU hW => ⟨rfl, z_wd C I U hU hW⟩⟩ rfl (by rw [List.length_map]; exact h1) F.2.1.1 rfl (lv_room hcat) hd ⟨by show cells + (S1.1 - S.1) ≤ _; omega, by show slots + (S1.2.1 - S.2.1) ≤ _; omega⟩

theorem zs_callIN (l : Launch) (D : va_G) : zk_callIN (z_Sem l D) := by
  intro d M pc lv st S o idx n M1 as st1 lv1 S1 pc1 r b hd h0 h1 h2 h3 h4 k0 k1
  have hg0 : S.1 ≤ S1.1 ∧ S.2.1 ≤ S1.2.1 := k0.1
  have hg1 : S1.1 ≤ o.2.2.2.1 ∧ S1.2.1 ≤ o.2.2.2.2.1 := k1.1
  refine ⟨⟨Nat.le_trans hg0.1 hg1.1, Nat.le_trans hg0.2 hg1.2⟩, fun p e R s m args below meth c cA A ad H locs ls cells slots Q C I F hc hs K => ?_⟩
  obtain ⟨hcode, hini, hdsc, hmx, hpl, hkd⟩ := h0
  have hst : ∀ v ∈ st, z_ok S.1 v := (fun v hv => F.2.2.2 v (List.mem_append_right _ (List.mem_cons_of_mem _ hv)))
  have hM := z_met (cA := cA) (ad := ad) (sz := H.size) k0 h4 (fun v hv => by rcases List.mem_cons.mp hv with rfl | hv; exact F.2.2.2 (.ref b) (List.mem_append_right _ List.mem_cons_self); exact F.2.2.2 v (List.mem_append_left _ (List.mem_reverse.mpr hv))) h2 hpl
  have hT := C.2.2.2.2.2.1
  have hcat : ((st.map (z_tr ad)).map fun v => v.category).sum ≤ 8 := by
    rw [List.map_map]
    have e9 : ((fun v : Value => v.category) ∘ z_tr ad) = Value.category := by funext v; exact z_cat v
    rw [e9]
    exact h3
  have estk : (as.reverse ++ .ref b :: st).map (z_tr ad) = ((as.map (z_tr ad)).reverse ++ .ref (ad.1 b) :: st.map (z_tr ad)) := by simp [z_tr]
  rw [estk]
  refine z_ret (g := F0 m pc ls ((as.map (z_tr ad)).reverse ++ .ref (ad.1 b) :: st.map (z_tr ad))) (a9 := (Value.ref (ad.1 b) :: as.map (z_tr ad)).toArray) rfl C I F.1 F.2.1 F.2.2.1 hst hg0 ?_ k1 hc hs K
  have hn9 : M1.2.2.2 = none := hkd.2.2.2
  exact va_runIN (b := ad.1 b) (As := as.map (z_tr ad)) (rest := st.map (z_tr ad)) ⟨C.1, C.2.1, C.2.2.2.1, C.2.2.2.2.1, hT⟩ hM ⟨by rw [← hn9]; exact va_cnB n hT (z_good hcode) rfl rfl rfl (C.2.2.2.2.2.2.1 _ hkd.1) (hT _ hini) hdsc ⟨by rw [C.2.2.2.2.2.2.2.2.2.1]; exact Nat.le_refl _, by rw [C.2.2.2.2.2.2.2.2.2.2.1]; show 8 + (M1.2.2.1 + 11) + 40 * d ≤ 40 * (d + 1); omega⟩, hkd.2.2.1, hT _ hkd.2.1⟩ ⟨z_blind, fun U hU hW => ⟨rfl, z_wd C I U hU hW⟩⟩ rfl (by rw [List.length_map]; exact h1) F.2.1.1 rfl (lv_room hcat) hd ⟨by show cells + (S1.1 - S.1) ≤ _; omega, by show slots + (S1.2.1 - S.2.1) ≤ _; omega⟩

theorem zs_refl (l : Launch) (D : va_G) (d : Nat) (M : zM) (pc : Nat) (lv : zL) (st : List Value) (S : zS) : z_Sem l D d M pc lv st S (pc, lv, st, S) :=
  ⟨⟨Nat.le_refl _, Nat.le_refl _⟩, fun p e R s m args below meth c cA A ad H locs ls cells slots Q C I F hc hs k => by
    have h := k ad H locs ls z_ag_rf I F
    simp only [Nat.sub_self, Nat.add_zero] at h
    exact h⟩
theorem z_sound (l : Launch) (D : va_G) : z_Cl (z_Sem l D) := ⟨zs_refl l D, zs_iconst l D, zs_bipush l D, zs_sipush l D, zs_lconst l D, zs_aconst l D, zs_iload_n l D, zs_iload l D, zs_lload_n l D, zs_lload l D, zs_aload_n l D, zs_aload l D, zs_aload_nN l D, zs_aloadN l D, zs_aload_nS l D, zs_aloadS l D, zs_istore_n l D, zs_istore l D, zs_lstore_n l D, zs_lstore l D, zs_astore_n l D, zs_astore l D, zs_astore_nS l D, zs_astoreS l D, zs_astore_nN l D, zs_astoreN l D, zs_iinc l D, zs_iadd l D, zs_isub l D, zs_imul l D, zs_iand l D, zs_ior l D, zs_ixor l D, zs_ishl l D, zs_ishr l D, zs_idiv l D, zs_irem l D, zs_ladd l D, zs_lsub l D, zs_lmul l D, zs_land l D, zs_lor l D, zs_lxor l D, zs_ineg l D, zs_iushr l D, zs_lushr l D, zs_lshl l D, zs_lshr l D, zs_i2l l D, zs_l2i l D, zs_i2b l D, zs_i2c l D, zs_dup l D, zs_pop l D, zs_dup2 l D, zs_if_eq l D, zs_icmp_eq l D, zs_if_ne l D, zs_icmp_ne l D, zs_if_lt l D, zs_icmp_lt l D, zs_if_ge l D, zs_icmp_ge l D, zs_if_gt l D, zs_icmp_gt l D, zs_if_le l D, zs_icmp_le l D, zs_goto l D, zs_ifnull l D, zs_ifnullN l D, zs_ifnonnull l D, zs_ifnonnullN l D, zs_lookup l D, zs_tableIn l D, zs_tableOut l D, zs_getf l D, zs_putf l D, zs_putF l D, zs_bald l D, zs_zald l D, zs_iald l D, zs_lald l D, zs_aald l D, zs_bast l D, zs_zast l D, zs_iast l D, zs_last l D, zs_aast l D, zs_alen l D, zs_new l D, zs_newi l D, zs_newb l D, zs_newz l D, zs_newl l D, zs_ldc l D, zs_ldcw l D, zs_ldc2 l D, zs_lcmp l D, zs_dup_x1 l D, zs_objInit l D, zs_mmax l D, zs_mmin l D, zs_cast l D, zs_castN l D, zs_aastN l D, zs_anewq l D, zs_ldcS l D, zs_slen l D, zs_schar l D, zs_copyB l D, zs_copyI l D, zs_cmpU l D, zs_callS l D, zs_callSN l D, zs_callV l D, zs_callI l D, zs_callIN l D⟩
