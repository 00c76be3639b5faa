
/-! WHAT THE START GIVES: the texts that are constants (kA 0 .. kA 7), their bytes (kA 100 ..), ArrayList's empty row (kA 50), the object of Object[]'s class (kA 51), a static that nobody uses (kA 52) -/
theorem z_fa_upd0 {ty : FieldType} {g : Nat → Int32} {i : Nat} {y : Int32} (h : ∀ k, fits ty (.int (g k)) = true) (hy : fits ty (.int y) = true) (k : Nat) : fits ty (.int (upd g i y k)) = true := by
  unfold upd
  split
  · exact hy
  · exact h k
def z_isX (w : Cond) : Bool := match w with
  | .castable _ _ => true
  | .declares _ => true
  | _ => false
def z_xb : List Cond := tables_1.filter z_isX
def z_ix (k : Nat) : Nat := ([302, 304, 306, 308, 310, 312, 314, 107] : List Nat).getD k 0
def z_tx (k : Nat) : String := (["if", "else", "endif", "rept", "endr", "macro", "endm", "the source has a fault"] : List String).getD k ""
def z_Gv (kA : Nat → Nat) (A : Nat → Prop) (U : State) : Prop :=
  (∀ k, k < 8 → vk_R "MacroReader" (z_ix k) (z_tx k) (kA k) U) ∧
  (∀ k, k < 7 → va_O "java/lang/String" (kA k) A U U.heap ∧ va_OF "java/lang/String" "coder" "B" (.int 0) (kA k) A U U.heap ∧ va_OF "java/lang/String" "value" "[B" (.ref (kA (100 + k))) (kA k) A U U.heap ∧ va_T .byte (kA (100 + k)) (z_sb k).length (fun j => .int (nI ((z_sb k).getD j 0))) A U U.heap) ∧
  va_Z "java/lang/String" "COMPACT_STRINGS" "Z" (.int 1) A U U.heap ∧
  va_Z "java/util/ArrayList" "DEFAULTCAPACITY_EMPTY_ELEMENTDATA" "[Ljava/lang/Object;" (.ref (kA 50)) A U U.heap ∧
  va_T (.object "java/lang/Object") (kA 50) 0 (fun _ => .null) A U U.heap ∧
  (va_Z "jdk/internal/util/Preconditions" "SIOOBE_FORMATTER" "Ljava/util/function/BiFunction;" .null A U U.heap ∨ va_Z "jdk/internal/util/Preconditions" "SIOOBE_FORMATTER" "Ljava/util/function/BiFunction;" (.ref (kA 52)) A U U.heap) ∧
  va_Mi "[Ljava/lang/Object;" (kA 51) U ∧
  (∀ C9, Cond.arrayOver (.object C9) ∈ tables_1 → va_AO C9 U) ∧
  (∀ ty, Cond.arrayOver (.array ty) ∈ tables_1 → va_AOA ty U) ∧
  (∀ w ∈ z_xb, va_Nw w U) ∧
  vx_Zq Bundle.tN "UNASSIGNED_STACK" Bundle.steD A U U.heap ∧ vx_Zq Bundle.tN "SUPPRESSED_SENTINEL" Bundle.listD A U U.heap
theorem z_xb_mv {s U : State} {w : Cond} (hw : w ∈ z_xb) (hW : s.WarmedH U.vm) (h : va_Nw w s) : va_Nw w U := by
  have hn := (List.mem_filter.mp hw).2
  cases w <;> first | exact va_Nw.warmC hW h | exact va_Nw.warmD hW h | (exfalso; simp [z_isX] at hn; done)
theorem z_Gv.mv {kA : Nat → Nat} {A B : Nat → Prop} {s U : State} (h : z_Gv kA A s) (hW : s.WarmedH U.vm) (hH : ∀ a, a < s.heap.size → ¬ A a → U.heap[a]? = s.heap[a]?) (hAB : ∀ q, B q → A q) : z_Gv kA B U := by
  obtain ⟨h1, h2, h3, h4, h5, h6, h7, h8, h9, h10, h11, h12⟩ := h
  have ha := hW.alike
  refine ⟨fun k hk => (h1 k hk).warm hW, fun k hk => ⟨?_, ?_, ?_, ?_⟩, ?_, ?_, ?_, ?_, h7.moved ha, fun C9 hC => (h8 C9 hC).moved ha, fun ty ht => over_moved ha (h9 ty ht), fun w hw => z_xb_mv hw hW (h10 w hw), ?_, ?_⟩
  · exact va_O.moved ha (((h2 k hk).1.kept hH).narrow hAB)
  · exact va_OF.moved ha (((h2 k hk).2.1.kept hH).narrow hAB)
  · exact va_OF.moved ha (((h2 k hk).2.2.1.kept hH).narrow hAB)
  · exact va_T.moved ha (((h2 k hk).2.2.2.kept hH).narrow hAB)
  · exact va_Z.moved ha ((h3.kept hH).narrow hAB)
  · exact va_Z.moved ha ((h4.kept hH).narrow hAB)
  · exact va_T.moved ha ((h5.kept hH).narrow hAB)
  · rcases h6 with h6 | h6
    · exact Or.inl (va_Z.moved ha ((h6.kept hH).narrow hAB))
    · exact Or.inr (va_Z.moved ha ((h6.kept hH).narrow hAB))
  · exact vx_Zq.moved ha ((h11.kept hH).narrow hAB)
  · exact vx_Zq.moved ha ((h12.kept hH).narrow hAB)

theorem z_sxR {kA : Nat → Nat} {A : Nat → Prop} {U : State} (h : z_Gv kA A U) {k idx : Nat} (hk : (z_sx[k]?).map (fun q => q.1) = some idx) : k < 7 ∧ ∃ tx, vk_R "MacroReader" idx tx (kA k) U := by
  by_cases h7 : k < 7
  · have e : ∀ k, k < 7 → (z_sx[k]?).map (fun q => q.1) = some (z_ix k) := by decide
    rw [e k h7] at hk
    cases hk
    exact ⟨h7, _, h.1 k (by omega)⟩
  · rw [List.getElem?_eq_none (by show 7 ≤ k; omega)] at hk
    cases hk
theorem z_gc0 : Cond.declares ⟨"java/lang/Object", "getClass", "()Ljava/lang/Class;"⟩ ∈ z_xb := List.mem_filter.mpr ⟨by decide +kernel, rfl⟩
theorem z_cm0 : Cond.castable RX2 "java/lang/Object" ∈ z_xb := List.mem_filter.mpr ⟨by decide +kernel, rfl⟩
theorem z_gc1 : Cond.selects "[Ljava/lang/Object;" ⟨"java/lang/Object", "getClass", "()Ljava/lang/Class;"⟩ ⟨"java/lang/Object", "getClass", "()Ljava/lang/Class;"⟩ ∈ z_tb := List.mem_filter.mpr ⟨by decide +kernel, rfl⟩
theorem z_gc2 : Cond.instanceMethod ⟨"java/lang/Object", "getClass", "()Ljava/lang/Class;"⟩ ∈ z_tb := List.mem_filter.mpr ⟨by decide +kernel, rfl⟩
theorem z_gc3 : Cond.native ⟨"java/lang/Object", "getClass", "()Ljava/lang/Class;"⟩ ∈ z_tb := List.mem_filter.mpr ⟨by decide +kernel, rfl⟩
theorem z_ac1 : Cond.native arraycopyName ∈ z_tb := List.mem_filter.mpr ⟨by decide +kernel, rfl⟩
theorem z_ac2 : Cond.static arraycopyName ∈ z_tb := List.mem_filter.mpr ⟨by decide +kernel, rfl⟩
theorem z_ac3 : Cond.initialized "java/lang/System" ∈ z_tb := List.mem_filter.mpr ⟨by decide +kernel, rfl⟩
theorem z_mc0 : Cond.sameField "java/util/ArrayList" "java/util/AbstractList" "modCount" "I" ∈ z_tb := List.mem_filter.mpr ⟨by decide +kernel, rfl⟩
theorem z_cl3 : vwCl[3]? = some (RX2, TX2, 6) := rfl
theorem z_cl0 : vwCl[0]? = some (RJx4a65c, TJx4a65c, 3) := rfl

/-! THE MEANING OF THE PURE MACHINE. A cell has a number; a store is (how many cells, how many slots in all, each cell). 'z_Ex d M pc lv st S o': from that place of method M, with d frames of room, the run comes to the place o. It is the least relation closed under the rows zk_..; z_sound: the rows hold of the machine. -/
/-- where the cells lie, and where the constants (.retAddr k) lie -/
abbrev zA : Type := (Nat → Nat) × (Nat → Nat)
def z_ag (n : Nat) (ad' ad : zA) : Prop := (∀ i, i < n → ad'.1 i = ad.1 i) ∧ ad'.2 = ad.2
def z_up (ad : zA) (n q : Nat) : zA := (va_up ad.1 n q, ad.2)
theorem z_ag_up {ad : zA} {n q : Nat} : z_ag n (z_up ad n q) ad := ⟨fun _ h => va_up_ne _ _ (Nat.ne_of_lt h), rfl⟩
theorem z_ag_rf {ad : zA} {n : Nat} : z_ag n ad ad := ⟨fun _ _ => rfl, rfl⟩
theorem z_ag_tr {a b c : zA} {n k : Nat} (h1 : z_ag k a b) (h2 : z_ag n b c) (h : n ≤ k) : z_ag n a c := ⟨fun i hi => (h1.1 i (Nat.lt_of_lt_of_le hi h)).trans (h2.1 i hi), h1.2.trans h2.2⟩
def z_tr (ad : zA) (v : Value) : Value := match v with
  | .ref i => .ref (ad.1 i)
  | .retAddr k => .ref (ad.2 k)
  | w => w
/-- no cell has the number 0 -/
def z_ok (n : Nat) (v : Value) : Prop := match v with
  | .ref i => 0 < i ∧ i < n
  | _ => True
def z_trA (ad : zA) (a : vp_A) : vp_A := match a with
  | (n, .inr (.inr (.inr (.inr g)))) => (n, .inr (.inr (.inr (.inr (fun k => (g k).map ad.1)))))
  | b => b
def z_okA (n : Nat) (a : vp_A) : Prop := match a with
  | (_, .inr (.inr (.inr (.inr g)))) => ∀ k i, g k = some i → 0 < i ∧ i < n
  | _ => True
def z_trC (ad : zA) (cA : FieldType → ClassId) (c : zC) : va_E := match c with
  | .inl (ty, a) => .inl (cA ty, z_trA ad a)
  | .inr (ci, fs) => .inr (ci, fs.map (z_tr ad))
/-- what an array of small numbers holds fits -/
def z_fa (ty : FieldType) (a : vp_A) : Prop := match a with
  | (_, .inl g) => ∀ k, fits ty (.int (g k)) = true
  | _ => True
def z_okC (n : Nat) (c : zC) : Prop := match c with
  | .inl (ty, a) => z_okA n a ∧ z_fa ty a
  | .inr (_, fs) => ∀ v ∈ fs, z_ok n v
def z_ws (ad : zA) (cA : FieldType → ClassId) (S : zS) : va_W := (List.range (S.1 - 1)).map fun i => (ad.1 (i + 1), z_trC ad cA (S.2.2 (i + 1)))
def z_lt (ad : zA) (lv : zL) : zL := lv.map fun q => (q.1, z_tr ad q.2)
theorem z_ok_int {n : Nat} {x : Int32} : z_ok n (.int x) ↔ True := Iff.rfl
theorem z_ok_long {n : Nat} {x : Int64} : z_ok n (.long x) ↔ True := Iff.rfl
theorem z_ok_ra {n k : Nat} : z_ok n (.retAddr k) ↔ True := Iff.rfl
theorem z_ok_null {n : Nat} : z_ok n .null ↔ True := Iff.rfl
theorem z_ok_ref {n i : Nat} : z_ok n (.ref i) ↔ 0 < i ∧ i < n := Iff.rfl
theorem z_ok_mono {n k : Nat} (h : n ≤ k) {v : Value} (hv : z_ok n v) : z_ok k v := by
  cases v <;> first | trivial | exact ⟨hv.1, Nat.lt_of_lt_of_le hv.2 h⟩
theorem z_tr_new {ad ad' : zA} {n : Nat} (h : z_ag n ad' ad) {v : Value} (hv : z_ok n v) : z_tr ad' v = z_tr ad v := by
  cases v <;> first | rfl | exact congrArg Value.ref (h.1 _ hv.2) | exact congrArg Value.ref (congrFun h.2 _)
theorem z_trs_new {ad ad' : zA} {n : Nat} (h : z_ag n ad' ad) {st : List Value} (hv : ∀ v ∈ st, z_ok n v) : st.map (z_tr ad') = st.map (z_tr ad) := List.map_congr_left fun v hm => z_tr_new h (hv v hm)
theorem z_lt_new {ad ad' : zA} {n : Nat} (h : z_ag n ad' ad) {lv : zL} (hv : ∀ q ∈ lv, z_ok n q.2) : z_lt ad' lv = z_lt ad lv := List.map_congr_left fun q hm => by rw [z_tr_new h (hv q hm)]
theorem z_okC_mono {n k : Nat} (h : n ≤ k) {c : zC} (hc : z_okC n c) : z_okC k c := by
  rcases c with ⟨ty, m, g | g | g | g | g⟩ | ⟨ci, fs⟩ <;> first | exact hc | exact ⟨fun j i e => ⟨(hc.1 j i e).1, Nat.lt_of_lt_of_le (hc.1 j i e).2 h⟩, trivial⟩ | exact fun v hv => z_ok_mono h (hc v hv)
theorem z_trC_new {ad ad' : zA} {n : Nat} (h : z_ag n ad' ad) {cA : FieldType → ClassId} {c : zC} (hc : z_okC n c) : z_trC ad' cA c = z_trC ad cA c := by
  rcases c with ⟨ty, m, g | g | g | g | g⟩ | ⟨ci, fs⟩
  · rfl
  · rfl
  · rfl
  · rfl
  · show (Sum.inl (cA ty, (m, .inr (.inr (.inr (.inr (fun k => (g k).map ad'.1)))))) : va_E) = .inl (cA ty, (m, .inr (.inr (.inr (.inr (fun k => (g k).map ad.1))))))
    have e : (fun k => (g k).map ad'.1) = (fun k => (g k).map ad.1) := by
      funext k
      cases hk : g k with
      | none => rfl
      | some i => exact congrArg some (h.1 i (hc.1 k i hk).2)
    rw [e]
  · show (Sum.inr (ci, fs.map (z_tr ad')) : va_E) = .inr (ci, fs.map (z_tr ad))
    rw [z_trs_new h hc]
theorem z_ws_j {ad : zA} {cA : FieldType → ClassId} {S : zS} {j : Nat} : (z_ws ad cA S)[j]? = if j < S.1 - 1 then some (ad.1 (j + 1), z_trC ad cA (S.2.2 (j + 1))) else none := by
  unfold z_ws
  rw [List.getElem?_map]
  by_cases h : j < S.1 - 1
  · rw [List.getElem?_range h, if_pos h]
    rfl
  · rw [List.getElem?_eq_none (by rw [List.length_range]; omega), if_neg h]
    rfl
theorem z_ws_get {ad : zA} {cA : FieldType → ClassId} {S : zS} {i : Nat} (h : 0 < i ∧ i < S.1) : (z_ws ad cA S)[i - 1]? = some (ad.1 i, z_trC ad cA (S.2.2 i)) := by
  rw [z_ws_j, if_pos (by omega), show i - 1 + 1 = i by omega]
theorem z_ws_len {ad : zA} {cA : FieldType → ClassId} {S : zS} : (z_ws ad cA S).length = S.1 - 1 := by
  unfold z_ws
  rw [List.length_map, List.length_range]
theorem z_ws_set {ad : zA} {cA : FieldType → ClassId} {S : zS} {i : Nat} {c : zC} (h0 : 0 < i) : (z_ws ad cA S).set (i - 1) (ad.1 i, z_trC ad cA c) = z_ws ad cA (z_put S i c) := by
  apply List.ext_getElem?
  intro j
  rw [z_ws_j (S := z_put S i c)]
  show _ = if j < S.1 - 1 then some (ad.1 (j + 1), z_trC ad cA (va_up S.2.2 i c (j + 1))) else none
  by_cases e : i - 1 = j
  · subst e
    by_cases hj : i - 1 < S.1 - 1
    · rw [List.getElem?_set_self (by rw [z_ws_len]; exact hj), if_pos hj, show i - 1 + 1 = i by omega, va_up_self]
    · rw [List.getElem?_eq_none (by rw [List.length_set, z_ws_len]; omega), if_neg hj]
  · rw [List.getElem?_set_ne e, z_ws_j, va_up_ne _ _ (show j + 1 ≠ i by omega)]
theorem z_ws_new {ad : zA} {cA : FieldType → ClassId} {S : zS} {c : zC} {k q : Nat} (h0 : 0 < S.1) (hok : ∀ i, i < S.1 → z_okC S.1 (S.2.2 i)) : z_ws ad cA S ++ [(q, z_trC (z_up ad S.1 q) cA c)] = z_ws (z_up ad S.1 q) cA (z_new S c k) := by
  have hn : z_ag S.1 (z_up ad S.1 q) ad := z_ag_up
  show _ = (List.range (S.1 + 1 - 1)).map _
  rw [show S.1 + 1 - 1 = S.1 - 1 + 1 by omega, List.range_succ, List.map_append]
  congr 1
  · apply List.map_congr_left
    intro i hi
    have hi' : i + 1 < S.1 := by have := List.mem_range.mp hi; omega
    show _ = ((z_up ad S.1 q).1 (i + 1), z_trC (z_up ad S.1 q) cA (va_up S.2.2 S.1 c (i + 1)))
    rw [hn.1 _ hi']
    show _ = (ad.1 (i + 1), z_trC (z_up ad S.1 q) cA (va_up S.2.2 S.1 c (i + 1)))
    rw [va_up_ne _ _ (Nat.ne_of_lt hi'), z_trC_new hn (hok _ hi')]
  · show _ = [(va_up ad.1 S.1 q (S.1 - 1 + 1), z_trC (z_up ad S.1 q) cA (va_up S.2.2 S.1 c (S.1 - 1 + 1)))]
    rw [show S.1 - 1 + 1 = S.1 by omega, va_up_self, va_up_self]
def z_Cx (D : va_G) (cA : FieldType → ClassId) (d : Nat) (M : zM) (p : Program) (R : Room) (s : State) (m : MethodId) (args : Array Value) (meth : Method) (c : Code) (A : Nat → Prop) (kA : Nat → Nat) : Prop :=
  p.tables.exec = Jvm.exec ∧ c.code = M.2.1 ∧ meth.sig.returnType = M.2.2.2 ∧ c.maxLocals = M.2.2.1 ∧ s.vm.findClass M.1.cls = some m.cls ∧ (∀ w ∈ z_tb, w.before args s = true) ∧ (∀ w ∈ z_nb, va_Nw w s) ∧ meth.locks = false ∧ (M.1.name = "<init>" → meth.name = "<init>") ∧ d ≤ R.frames ∧ 40 * d ≤ R.locals ∧
  (∀ (k : Nat) (q : vw_C), vwCl[k]? = some q → u_Kn s q.1 q.2.1 q.2.2 (D.1 k) (D.2 k)) ∧ (∀ (ty : FieldType) (k : ClassId), s.vm.findClass ("[" ++ ty.toString) = some k → cA ty = k) ∧ (∀ q, s.heap.size ≤ q → A q) ∧ z_Gv kA A s
def z_In (D : va_G) (cA : FieldType → ClassId) (ad : zA) (S : zS) (s : State) (A : Nat → Prop) (H : Heap) : Prop :=
  va_P D vwCl (z_ws ad cA S) H ∧ va_D A (z_ws ad cA S) ∧ (0 < S.1 ∧ ∀ i, i < S.1 → z_okC S.1 (S.2.2 i)) ∧ ∀ i, i < S.1 → ∀ (ty : FieldType) (a : vp_A), S.2.2 i = .inl (ty, a) → ArrOfT s (cA ty) ty ∧ va_RA s (cA ty) ty
def z_Fr (M : zM) (ad : zA) (A : Nat → Prop) (S : zS) (lv : zL) (st : List Value) (s : State) (H : Heap) (locs : List Loc) (ls : Array Slot) : Prop :=
  va_S A s.heap H locs ∧ lv_has ls M.2.2.1 (z_lt ad lv) ∧ (∀ q ∈ lv, z_ok S.1 q.2) ∧ ∀ v ∈ st, z_ok S.1 v
def z_Sem (l : Launch) (D : va_G) : zX := fun d M pc lv st S o => (S.1 ≤ o.2.2.2.1 ∧ S.2.1 ≤ o.2.2.2.2.1) ∧
  ∀ (p : Program) (e : Env) (R : Room) (s : State) (m : MethodId) (args : Array Value) (below : List Frame) (meth : Method) (c : Code) (cA : FieldType → ClassId) (A : Nat → Prop) (ad : zA) (H : Heap) (locs : List Loc) (ls : Array Slot) (cells slots : Nat) (Q : State → Prop),
    z_Cx D cA d M p R s m args meth c A ad.2 → z_In D cA ad S s A H → z_Fr M ad A S lv st s H locs ls → cells + (o.2.2.2.1 - S.1) ≤ R.cells → slots + (o.2.2.2.2.1 - S.2.1) ≤ R.slots →
    (∀ (ad' : zA) (H' : Heap) (locs' : List Loc) (ls' : Array Slot), z_ag S.1 ad' ad → z_In D cA ad' o.2.2.2 s A H' → z_Fr M ad' A o.2.2.2 o.2.1 o.2.2.1 s H' locs' ls' → W p l e R s m args below meth c H' locs' (cells + (o.2.2.2.1 - S.1)) (slots + (o.2.2.2.2.1 - S.2.1)) Q (F0 m o.1 ls' (o.2.2.1.map (z_tr ad')))) →
    W p l e R s m args below meth c H locs cells slots Q (F0 m pc ls (st.map (z_tr ad)))
/-- a step that changes neither the cells nor the locals -/
theorem z_loc {l : Launch} {D : va_G} {d : Nat} {M : zM} {pc pc' : Nat} {lv : zL} {st st' : List Value} {S : zS} {o : zO} (h : z_Sem l D d M pc' lv st' S o) (hok : ∀ n, (∀ q ∈ lv, z_ok n q.2) → (∀ v ∈ st, z_ok n v) → ∀ v ∈ st', z_ok n v)
    (hw : ∀ {p : Program} {e : Env} {R : Room} {s : State} {m : MethodId} {args : Array Value} {below : List Frame} {meth : Method} {c : Code} {cA : FieldType → ClassId} {A : Nat → Prop} {ad : zA} {H : Heap} {locs : List Loc} {ls : Array Slot} {cells slots : Nat} {Q : State → Prop}, z_Cx D cA d M p R s m args meth c A ad.2 → lv_has ls M.2.2.1 (z_lt ad lv) → cells ≤ R.cells → slots ≤ R.slots → W p l e R s m args below meth c H locs cells slots Q (F0 m pc' ls (st'.map (z_tr ad))) → W p l e R s m args below meth c H locs cells slots Q (F0 m pc ls (st.map (z_tr ad)))) : z_Sem l D d M pc lv st S o :=
  ⟨h.1, fun p e R s m args below meth c cA A ad H locs ls cells slots Q C I F hc hs k => hw C F.2.1 (Nat.le_trans (Nat.le_add_right _ _) hc) (Nat.le_trans (Nat.le_add_right _ _) hs) (h.2 p e R s m args below meth c cA A ad H locs ls cells slots Q C I ⟨F.1, F.2.1, F.2.2.1, hok _ F.2.2.1 F.2.2.2⟩ hc hs k)⟩
/-- a step that changes the locals -/
theorem z_sto {l : Launch} {D : va_G} {d : Nat} {M : zM} {pc pc' : Nat} {lv lv' : zL} {st st' : List Value} {S : zS} {o : zO} (h : z_Sem l D d M pc' lv' st' S o) (hok : ∀ n, (∀ q ∈ lv, z_ok n q.2) → (∀ v ∈ st, z_ok n v) → (∀ q ∈ lv', z_ok n q.2) ∧ ∀ v ∈ st', z_ok n v)
    (hw : ∀ {p : Program} {e : Env} {R : Room} {s : State} {m : MethodId} {args : Array Value} {below : List Frame} {meth : Method} {c : Code} {cA : FieldType → ClassId} {A : Nat → Prop} {ad : zA} {H : Heap} {locs : List Loc} {ls : Array Slot} {cells slots : Nat} {Q : State → Prop}, z_Cx D cA d M p R s m args meth c A ad.2 → lv_has ls M.2.2.1 (z_lt ad lv) → (∀ ls' : Array Slot, lv_has ls' M.2.2.1 (z_lt ad lv') → W p l e R s m args below meth c H locs cells slots Q (F0 m pc' ls' (st'.map (z_tr ad)))) → W p l e R s m args below meth c H locs cells slots Q (F0 m pc ls (st.map (z_tr ad)))) : z_Sem l D d M pc lv st S o :=
  ⟨h.1, fun p e R s m args below meth c cA A ad H locs ls cells slots Q C I F hc hs k => hw C F.2.1 (fun ls' hl => h.2 p e R s m args below meth c cA A ad H locs ls' cells slots Q C I ⟨F.1, hl, (hok _ F.2.2.1 F.2.2.2).1, (hok _ F.2.2.1 F.2.2.2).2⟩ hc hs k)⟩
/-- a step that branches -/
theorem z_br {l : Launch} {D : va_G} {d : Nat} {M : zM} {pc pc1 pc2 : Nat} {lv : zL} {st st' : List Value} {S : zS} {o : zO} {b : Prop} (h1 : b → z_Sem l D d M pc1 lv st' S o) (h2 : ¬ b → z_Sem l D d M pc2 lv st' S o) (hok : ∀ n, (∀ v ∈ st, z_ok n v) → ∀ v ∈ st', z_ok n v)
    (hw : ∀ {p : Program} {e : Env} {R : Room} {s : State} {m : MethodId} {args : Array Value} {below : List Frame} {meth : Method} {c : Code} {cA : FieldType → ClassId} {A : Nat → Prop} {ad : zA} {H : Heap} {locs : List Loc} {ls : Array Slot} {cells slots : Nat} {Q : State → Prop}, z_Cx D cA d M p R s m args meth c A ad.2 → (b → W p l e R s m args below meth c H locs cells slots Q (F0 m pc1 ls (st'.map (z_tr ad)))) → (¬ b → W p l e R s m args below meth c H locs cells slots Q (F0 m pc2 ls (st'.map (z_tr ad)))) → W p l e R s m args below meth c H locs cells slots Q (F0 m pc ls (st.map (z_tr ad)))) : z_Sem l D d M pc lv st S o :=
  ⟨by by_cases hb : b; exact (h1 hb).1; exact (h2 hb).1, fun p e R s m args below meth c cA A ad H locs ls cells slots Q C I F hc hs k => hw C (fun hb => (h1 hb).2 p e R s m args below meth c cA A ad H locs ls cells slots Q C I ⟨F.1, F.2.1, F.2.2.1, hok _ F.2.2.2⟩ hc hs k) (fun hb => (h2 hb).2 p e R s m args below meth c cA A ad H locs ls cells slots Q C I ⟨F.1, F.2.1, F.2.2.1, hok _ F.2.2.2⟩ hc hs k)⟩
theorem z_lt_mem {ad : zA} {lv : zL} {i : Nat} {v : Value} (h : (i, v) ∈ lv) : (i, z_tr ad v) ∈ z_lt ad lv := List.mem_map.mpr ⟨(i, v), h, rfl⟩
theorem z_ld {ls : Array Slot} {nL : Nat} {ad : zA} {lv : zL} {i : Nat} {v : Value} (hl : lv_has ls nL (z_lt ad lv)) (h : (i, v) ∈ lv) : ls[i]? = some (.val (z_tr ad v)) := hl.2.2 (i, z_tr ad v) (z_lt_mem h)
theorem z_cat {ad : zA} (v : Value) : (z_tr ad v).category = v.category := by cases v <;> rfl
theorem z_k1_lt {ad : zA} {i : Nat} {lv : zL} : (z_lt ad lv).filter (fun q => !(q.1 == i) && !(q.1 + 1 == i && q.2.category == 2)) = z_lt ad (z_k1 i lv) := by
  unfold z_lt z_k1
  rw [List.filter_map]
  congr 1
  apply List.filter_congr
  intro q _
  simp [z_cat]
theorem z_k2_lt {ad : zA} {i : Nat} {lv : zL} : (z_lt ad lv).filter (fun q => !(q.1 == i) && (!(q.1 == i + 1) && !(q.1 + 1 == i && q.2.category == 2))) = z_lt ad (z_k2 i lv) := by
  unfold z_lt z_k2
  rw [List.filter_map]
  congr 1
  apply List.filter_congr
  intro q _
  simp [z_cat]
theorem z_k1_ok {n i : Nat} {lv : zL} (h : ∀ q ∈ lv, z_ok n q.2) : ∀ q ∈ z_k1 i lv, z_ok n q.2 := fun q hq => h q (List.mem_filter.mp hq).1
theorem z_k2_ok {n i : Nat} {lv : zL} (h : ∀ q ∈ lv, z_ok n q.2) : ∀ q ∈ z_k2 i lv, z_ok n q.2 := fun q hq => h q (List.mem_filter.mp hq).1

theorem z_cls_ok {ci : Nat} {r : vw_C} (h : vwCl[ci]? = some r) : z_clB r = true := List.all_eq_true.mp z_cl_B r (List.mem_of_getElem? h)
theorem z_cls_in {ci : Nat} {r : vw_C} (h : vwCl[ci]? = some r) : ∀ w ∈ u_ws r.1 r.2.1 r.2.2, w ∈ z_tb := by
  have h1 := z_cls_ok h
  simp only [z_clB, Bool.and_eq_true] at h1
  intro w hw
  exact of_decide_eq_true (List.all_eq_true.mp h1.2 w hw)
theorem z_cls_nm {ci : Nat} {r : vw_C} (h : vwCl[ci]? = some r) : ∀ a, a < r.2.2 → ∀ b, b < r.2.2 → a ≠ b → (r.2.1 a).2.1 ≠ (r.2.1 b).2.1 := by
  have h1 := z_cls_ok h
  simp only [z_clB, Bool.and_eq_true] at h1
  intro a ha b hb hne
  have h2 := List.all_eq_true.mp (List.all_eq_true.mp h1.1.2 a (List.mem_range.mpr ha)) b (List.mem_range.mpr hb)
  simp only [Bool.or_eq_true, decide_eq_true_eq] at h2
  exact h2.resolve_left hne
def z_ft (r : vw_C) (k : Nat) : FieldType := (parseFieldDescriptor (r.2.1 k).2.2.1).getD .int
theorem z_cls_ty {ci : Nat} {r : vw_C} (h : vwCl[ci]? = some r) : ∀ k, k < r.2.2 → parseFieldDescriptor (r.2.1 k).2.2.1 = some (z_ft r k) := by
  have h1 := z_cls_ok h
  simp only [z_clB, Bool.and_eq_true] at h1
  intro k hk
  have h2 := List.all_eq_true.mp h1.1.1 k (List.mem_range.mpr hk)
  unfold z_ft
  cases hp : parseFieldDescriptor (r.2.1 k).2.2.1 with
  | none => rw [hp] at h2; cases h2
  | some t => rfl
theorem z_narrow {ad : zA} {ty : FieldType} {v : Value} (h : narrow ty v = v) : narrow ty (z_tr ad v) = z_tr ad v := by
  cases v <;> first | exact h | (cases ty <;> rfl)
theorem z_fits {ad : zA} {ty : FieldType} {v : Value} (h : fits ty v = true) : fits ty (z_tr ad v) = true := by
  cases v <;> first | exact h | (cases ty <;> first | rfl | exact h)
theorem z_rf {ad : zA} (r : Option Nat) : z_tr ad (va_rf r) = va_rf (r.map ad.1) := by cases r <;> rfl
/-- the cells of a store, one of them changed -/
theorem z_In_put {D : va_G} {cA : FieldType → ClassId} {ad : zA} {S : zS} {s : State} {A : Nat → Prop} {H H1 : Heap} {i : Nat} {c : zC} (h0 : 0 < i) (I : z_In D cA ad S s A H) (hP : va_P D vwCl ((z_ws ad cA S).set (i - 1) (ad.1 i, z_trC ad cA c)) H1) (hD : va_D A ((z_ws ad cA S).set (i - 1) (ad.1 i, z_trC ad cA c))) (hok : z_okC S.1 c) (hty : ∀ ty a, c = .inl (ty, a) → ArrOfT s (cA ty) ty ∧ va_RA s (cA ty) ty) : z_In D cA ad (z_put S i c) s A H1 := by
  rw [z_ws_set h0] at hP hD
  refine ⟨hP, hD, ⟨I.2.2.1.1, fun j hj => ?_⟩, fun j hj ty a he => ?_⟩
  · show z_okC S.1 (va_up S.2.2 i c j)
    by_cases e : j = i
    · subst e; rw [va_up_self]; exact hok
    · rw [va_up_ne _ _ e]; exact I.2.2.1.2 j hj
  · have he : va_up S.2.2 i c j = .inl (ty, a) := he
    by_cases e : j = i
    · subst e; rw [va_up_self] at he; exact hty ty a he
    · rw [va_up_ne _ _ e] at he; exact I.2.2.2 j hj ty a he
/-- a cell more -/
theorem z_In_new {D : va_G} {cA : FieldType → ClassId} {ad : zA} {S : zS} {s : State} {A : Nat → Prop} {H H1 : Heap} {c : zC} {k q : Nat} (I : z_In D cA ad S s A H) (hP : va_P D vwCl (z_ws ad cA S ++ [(q, z_trC (z_up ad S.1 q) cA c)]) H1) (hD : va_D A (z_ws ad cA S ++ [(q, z_trC (z_up ad S.1 q) cA c)])) (hok : z_okC (S.1 + 1) c) (hty : ∀ ty a, c = .inl (ty, a) → ArrOfT s (cA ty) ty ∧ va_RA s (cA ty) ty) : z_In D cA (z_up ad S.1 q) (z_new S c k) s A H1 := by
  rw [z_ws_new (k := k) I.2.2.1.1 I.2.2.1.2] at hP hD
  refine ⟨hP, hD, ⟨Nat.succ_pos _, fun j hj => ?_⟩, fun j hj ty a he => ?_⟩
  · show z_okC (S.1 + 1) (va_up S.2.2 S.1 c j)
    have hj : j < S.1 + 1 := hj
    by_cases e : j = S.1
    · subst e; rw [va_up_self]; exact hok
    · rw [va_up_ne _ _ e]; exact z_okC_mono (Nat.le_succ _) (I.2.2.1.2 j (by omega))
  · have he : va_up S.2.2 S.1 c j = .inl (ty, a) := he
    have hj : j < S.1 + 1 := hj
    by_cases e : j = S.1
    · subst e; rw [va_up_self] at he; exact hty ty a he
    · rw [va_up_ne _ _ e] at he; exact I.2.2.2 j (by omega) ty a he
theorem z_Fr_put {M : zM} {ad : zA} {A : Nat → Prop} {S : zS} {lv : zL} {st st' : List Value} {s : State} {H H1 : Heap} {locs locs1 : List Loc} {ls : Array Slot} {i : Nat} {c : zC} (F : z_Fr M ad A S lv st s H locs ls) (hS : va_S A s.heap H1 locs1) (hst : ∀ v ∈ st', z_ok S.1 v) : z_Fr M ad A (z_put S i c) lv st' s H1 locs1 ls := ⟨hS, F.2.1, F.2.2.1, hst⟩
theorem z_Fr_new {M : zM} {ad : zA} {A : Nat → Prop} {S : zS} {lv : zL} {st st' : List Value} {s : State} {H H1 : Heap} {locs locs1 : List Loc} {ls : Array Slot} {q k : Nat} {c : zC} (F : z_Fr M ad A S lv st s H locs ls) (hS : va_S A s.heap H1 locs1) (hst : ∀ v ∈ st', z_ok (S.1 + 1) v) : z_Fr M (z_up ad S.1 q) A (z_new S c k) lv st' s H1 locs1 ls :=
  ⟨hS, by rw [z_lt_new z_ag_up F.2.2.1]; exact F.2.1, fun q hq => z_ok_mono (Nat.le_succ _) (F.2.2.1 q hq), hst⟩
theorem z_K {D : va_G} {cA : FieldType → ClassId} {d : Nat} {M : zM} {p : Program} {R : Room} {s : State} {m : MethodId} {args : Array Value} {meth : Method} {c : Code} {A : Nat → Prop} {kA : Nat → Nat} (C : z_Cx D cA d M p R s m args meth c A kA) : va_K D vwCl [] s := ⟨C.2.2.2.2.2.2.2.2.2.2.2.1, fun k q h => by simp at h⟩
theorem z_K1 {D : va_G} {cA : FieldType → ClassId} {d : Nat} {M : zM} {p : Program} {R : Room} {s : State} {m : MethodId} {args : Array Value} {meth : Method} {c : Code} {A : Nat → Prop} {kA : Nat → Nat} (C : z_Cx D cA d M p R s m args meth c A kA) {ty : FieldType} (h : ArrOfT s (cA ty) ty ∧ va_RA s (cA ty) ty) : va_K D vwCl [(cA ty, ty)] s := ⟨C.2.2.2.2.2.2.2.2.2.2.2.1, fun k q hq => by
  have hz : k < 1 := (List.getElem?_eq_some_iff.mp hq).1
  rw [show k = 0 by omega] at hq
  cases hq
  exact h⟩
/-- the semantics at a step that puts a cell -/
theorem z_stp {l : Launch} {D : va_G} {d : Nat} {M : zM} {pc pc' : Nat} {lv : zL} {st st' : List Value} {S : zS} {o : zO} {i : Nat} {c' : zC} (h : z_Sem l D d M pc' lv st' (z_put S i c') o) (hok : ∀ n, (∀ v ∈ st, z_ok n v) → ∀ v ∈ st', z_ok n v)
    (hw : ∀ {p : Program} {e : Env} {R : Room} {s : State} {m : MethodId} {args : Array Value} {below : List Frame} {meth : Method} {c : Code} {cA : FieldType → ClassId} {A : Nat → Prop} {ad : zA} {H : Heap} {locs : List Loc} {ls : Array Slot} {cells slots : Nat} {Q : State → Prop}, z_Cx D cA d M p R s m args meth c A ad.2 → z_In D cA ad S s A H → z_Fr M ad A S lv st s H locs ls → (∀ (H1 : Heap) (locs1 : List Loc), z_In D cA ad (z_put S i c') s A H1 → va_S A s.heap H1 locs1 → W p l e R s m args below meth c H1 locs1 cells slots Q (F0 m pc' ls (st'.map (z_tr ad)))) → W p l e R s m args below meth c H locs cells slots Q (F0 m pc ls (st.map (z_tr ad)))) : z_Sem l D d M pc lv st S o :=
  ⟨h.1, fun p e R s m args below meth c cA A ad H locs ls cells slots Q C I F hc hs k => hw C I F (fun H1 locs1 I1 hS => h.2 p e R s m args below meth c cA A ad H1 locs1 ls cells slots Q C I1 (z_Fr_put F hS (hok _ F.2.2.2)) hc hs (fun ad' H' locs' ls' ha I' F' => k ad' H' locs' ls' ha I' F'))⟩
/-- at a step that makes a cell -/
theorem z_stn {l : Launch} {D : va_G} {d : Nat} {M : zM} {pc pc' : Nat} {lv : zL} {st st' : List Value} {S : zS} {o : zO} {n9 : Nat} {c' : zC} (h : z_Sem l D d M pc' lv st' (z_new S c' n9) o) (hok : 0 < S.1 → (∀ v ∈ st, z_ok S.1 v) → ∀ v ∈ st', z_ok (S.1 + 1) v)
    (hw : ∀ {p : Program} {e : Env} {R : Room} {s : State} {m : MethodId} {args : Array Value} {below : List Frame} {meth : Method} {c : Code} {cA : FieldType → ClassId} {A : Nat → Prop} {ad : zA} {H : Heap} {locs : List Loc} {ls : Array Slot} {cells slots : Nat} {Q : State → Prop}, z_Cx D cA d M p R s m args meth c A ad.2 → z_In D cA ad S s A H → z_Fr M ad A S lv st s H locs ls → cells + 1 ≤ R.cells → slots + n9 ≤ R.slots → (∀ (q : Nat) (H1 : Heap), z_In D cA (z_up ad S.1 q) (z_new S c' n9) s A H1 → va_S A s.heap H1 locs → W p l e R s m args below meth c H1 locs (cells + 1) (slots + n9) Q (F0 m pc' ls (st'.map (z_tr (z_up ad S.1 q))))) → W p l e R s m args below meth c H locs cells slots Q (F0 m pc ls (st.map (z_tr ad)))) : z_Sem l D d M pc lv st S o := by
  have h1 : S.1 + 1 ≤ o.2.2.2.1 := h.1.1
  have h2 : S.2.1 + n9 ≤ o.2.2.2.2.1 := h.1.2
  refine ⟨⟨by omega, by omega⟩, fun p e R s m args below meth c cA A ad H locs ls cells slots Q C I F hc hs k => hw C I F (by omega) (by omega) (fun q H1 I1 hS => ?_)⟩
  have e1 : cells + 1 + (o.2.2.2.1 - (S.1 + 1)) = cells + (o.2.2.2.1 - S.1) := by omega
  have e2 : slots + n9 + (o.2.2.2.2.1 - (S.2.1 + n9)) = slots + (o.2.2.2.2.1 - S.2.1) := by omega
  refine h.2 p e R s m args below meth c cA A _ H1 locs ls (cells + 1) (slots + n9) Q C I1 (z_Fr_new F hS (hok I.2.2.1.1 F.2.2.2)) (by show cells + 1 + (o.2.2.2.1 - (S.1 + 1)) ≤ _; omega) (by show slots + n9 + (o.2.2.2.2.1 - (S.2.1 + n9)) ≤ _; omega) (fun ad' H' locs' ls' ha I' F' => ?_)
  have w := k ad' H' locs' ls' (z_ag_tr ha z_ag_up (Nat.le_succ _)) I' F'
  show W p l e R s m args below meth c H' locs' (cells + 1 + (o.2.2.2.1 - (S.1 + 1))) (slots + n9 + (o.2.2.2.2.1 - (S.2.1 + n9))) Q _
  rw [e1, e2]
  exact w

theorem z_oi1 : Cond.instanceMethod Lib.objectInit ∈ z_tb := List.mem_filter.mpr ⟨by decide +kernel, rfl⟩
theorem z_oi2 : Cond.code Lib.objectInit ⟨#[0xb1]⟩ 1 none ∈ z_tb := List.mem_filter.mpr ⟨by decide +kernel, rfl⟩
theorem z_mm_max1 : Cond.static Lib.Math.max.name ∈ z_tb := List.mem_filter.mpr ⟨by decide +kernel, rfl⟩
theorem z_mm_max2 : Cond.initialized "java/lang/Math" ∈ z_tb := List.mem_filter.mpr ⟨by decide +kernel, rfl⟩
theorem z_mm_max3 : Cond.code Lib.Math.max.name Lib.Math.max.code 2 (some .int) ∈ z_tb := List.mem_filter.mpr ⟨by decide +kernel, rfl⟩
theorem z_mm_min1 : Cond.static Lib.Math.min.name ∈ z_tb := List.mem_filter.mpr ⟨by decide +kernel, rfl⟩
theorem z_mm_min2 : Cond.initialized "java/lang/Math" ∈ z_tb := List.mem_filter.mpr ⟨by decide +kernel, rfl⟩
theorem z_mm_min3 : Cond.code Lib.Math.min.name Lib.Math.min.code 2 (some .int) ∈ z_tb := List.mem_filter.mpr ⟨by decide +kernel, rfl⟩
/-- the texts that are constants: entry of MacroReader's pool, bytes -/

theorem z_In_mv {D : va_G} {cA : FieldType → ClassId} {ad : zA} {S : zS} {u U : State} {A : Nat → Prop} {H : Heap} (hvm : u.vm.Alike U.vm) (I : z_In D cA ad S u A H) : z_In D cA ad S U A H := ⟨I.1, I.2.1, I.2.2.1, fun i hi ty a he => ⟨arrOfT_moved hvm (I.2.2.2 i hi ty a he).1, (I.2.2.2 i hi ty a he).2.moved hvm⟩⟩
theorem z_In_A {D : va_G} {cA : FieldType → ClassId} {ad : zA} {S : zS} {s : State} {A A' : Nat → Prop} {H : Heap} (I : z_In D cA ad S s A H) (h : ∀ q, A q → A' q) : z_In D cA ad S s A' H := ⟨I.1, I.2.1.weaken (fun _ q _ hq => h _ hq), I.2.2.1, I.2.2.2⟩
/-- what a callee is given -/
def z_Wd (D : va_G) (cA : FieldType → ClassId) (ad : zA) (S : zS) (sz : Nat) (U : State) : Prop := U.heap.size = sz ∧ z_In D cA ad S U (va_A (z_ws ad cA S) sz) U.heap ∧ (∀ w ∈ z_nb, va_Nw w U) ∧ (∀ (k : Nat) (q : vw_C), vwCl[k]? = some q → u_Kn U q.1 q.2.1 q.2.2 (D.1 k) (D.2 k)) ∧ (∀ (ty : FieldType) (k : ClassId), U.vm.findClass ("[" ++ ty.toString) = some k → cA ty = k) ∧ z_Gv ad.2 (va_A (z_ws ad cA S) sz) U
def z_w (M : zM) : List Cond := Cond.code M.1 M.2.1 M.2.2.1 M.2.2.2 :: z_tb
def z_rm (d mc ms : Nat) : Room := { frames := d, cells := mc, slots := ms, locals := 40 * d }
def z_Qc (D : va_G) (cA : FieldType → ClassId) (ad : zA) (S S1 : zS) (sz : Nat) (r : Option Value) : Array Value → State → Outcome → State → Prop := fun _ st oc t => ∃ ad' : zA, z_ag S.1 ad' ad ∧ oc = .returned (r.map (z_tr ad')) ∧ (∀ v ∈ r, z_ok S1.1 v) ∧ z_In D cA ad' S1 t (va_A (z_ws ad cA S) sz) t.heap ∧ va_F (va_A (z_ws ad cA S) sz) st t
/-- a method's end, with its answer -/
theorem z_args {ad : zA} : ∀ (as : List Value) (i : Nat), lv_args i (as.map (z_tr ad)) = z_lt ad (lv_args i as)
  | [], _ => rfl
  | v :: as, i => by
    show (i, z_tr ad v) :: lv_args (if (z_tr ad v).category = 2 then i + 2 else i + 1) (as.map (z_tr ad)) = (i, z_tr ad v) :: z_lt ad (lv_args (if v.category = 2 then i + 2 else i + 1) as)
    rw [z_cat, z_args as]
theorem z_args_ok {n : Nat} : ∀ (as : List Value) (i : Nat), (∀ v ∈ as, z_ok n v) → ∀ q ∈ lv_args i as, z_ok n q.2
  | [], _, _ => fun q h => by cases h
  | v :: as, i, h => fun q hq => by
    rcases List.mem_cons.mp hq with rfl | hq
    · exact h v List.mem_cons_self
    · exact z_args_ok as _ (fun u hu => h u (List.mem_cons_of_mem _ hu)) q hq
theorem z_sl {ad : zA} (as : List Value) : (lg_sl (as.map (z_tr ad))).length = (lg_sl as).length := by
  induction as with
  | nil => rfl
  | cons v as ih =>
    simp only [lg_sl, List.map_cons, List.flatMap_cons, List.length_append, z_cat] at ih ⊢
    rw [ih]
    congr 1
    by_cases h : v.category = 2 <;> simp [h]
theorem z_met {l : Launch} {D : va_G} {cA : FieldType → ClassId} {ad : zA} {d : Nat} {M : zM} {as st' : List Value} {lv' : zL} {S S1 : zS} {pc' sz : Nat} {r : Option Value} (h : z_Sem l D d M 0 (lv_args 0 as) [] S (pc', lv', st', S1)) (hrt : z_rt M pc' st' r) (hok : ∀ v ∈ as, z_ok S.1 v) (hfit : (lg_sl as).length ≤ M.2.2.1) (hpl : plainName M.1.cls = true) :
    Met l M.1 (z_w M) (z_rm d (S1.1 - S.1) (S1.2.1 - S.2.1)) (va_Pc (as.map (z_tr ad)) (z_Wd D cA ad S sz)) (z_Qc D cA ad S S1 sz r) (S1.1 - S.1) (S1.2.1 - S.2.1) (va_A (z_ws ad cA S) sz) := by
  refine Met.ofW (cc := M.2.1) (maxL := M.2.2.1) (ret := M.2.2.2) hpl rfl ?_
  intro p e s m args below meth c s₁ B hml hv
  obtain ⟨rfl, hsz, I, hnw, hkn, hcA, hgv⟩ := hv
  have hts := atoms_spec (ws := z_w M) B.pre
  have hr := B.returns
  have hlocks := B.notSynchronized
  subst hsz
  have C : z_Cx D cA d M p (z_rm d (S1.1 - S.1) (S1.2.1 - S.2.1)) s m ((as.map (z_tr ad)).toArray) meth c (va_A (z_ws ad cA S) s.heap.size) ad.2 :=
    ⟨B.exec, B.bytes, hr, hml, findClass_of_methodNamed B.named, fun w hw => hts w (List.mem_cons_of_mem _ hw), hnw, hlocks, fun hn => (name_of_methodNamed B.named B.method).1.trans hn, Nat.le_refl _, Nat.le_refl _, hkn, hcA, fun q hq => Or.inr hq, hgv⟩
  have hl := lv_entry (as.map (z_tr ad)) (n := M.2.2.1) (by rw [z_sl]; exact hfit)
  rw [lg_entry_eq]
  generalize (lg_sl (as.map (z_tr ad)) ++ List.replicate (M.2.2.1 - (lg_sl (as.map (z_tr ad))).length) Slot.unset).toArray = ls at hl ⊢
  rw [z_args] at hl
  refine h.2 p e _ s m _ below meth c cA _ ad s.heap [] ls 0 0 _ C I ⟨va_S.rf, hl, z_args_ok as 0 hok, fun v hv => by cases hv⟩ (by show 0 + (S1.1 - S.1) ≤ S1.1 - S.1; omega) (by show 0 + (S1.2.1 - S.2.1) ≤ S1.2.1 - S.2.1; omega) (fun ad' H' locs' ls' ha I' F' => ?_)
  show W p l e _ s m _ below meth c H' locs' (0 + (S1.1 - S.1)) (0 + (S1.2.1 - S.2.1)) _ (F0 m pc' ls' (st'.map (z_tr ad')))
  rw [Nat.zero_add, Nat.zero_add]
  have hq : ∀ t : State, t.heap = H' → s.WarmedH t.vm → (∀ v ∈ r, z_ok S1.1 v) → z_Qc D cA ad S S1 s.heap.size r ((as.map (z_tr ad)).toArray) s (.returned (r.map (z_tr ad'))) t := fun t ht hW hrk => ⟨ad', ha, rfl, hrk, by rw [ht]; exact z_In_mv hW.alike I', F'.1.F ht⟩
  have hst := F'.2.2.2
  rcases hrt with ⟨hd, hM, rfl, rfl⟩ | ⟨hd, x, ty, hM, hn, rfl, rfl⟩ | ⟨hd, x, hM, rfl, rfl⟩ | ⟨hd, v, rt, hM, ht1, hv, rfl, rfl⟩
  · exact W.vret B.exec B.bytes (hr.trans hM) (fun t ht hW => hq t ht hW (fun v h => by cases h)) F'.1.2.2 hd
  · exact W.zret (ty := ty) B.exec B.bytes (hr.trans hM) hn (fun t ht hW => hq t ht hW (fun v h => by cases h; trivial)) F'.1.2.2 hd
  · exact W.lret B.exec B.bytes (hr.trans hM) (fun t ht hW => hq t ht hW (fun v h => by cases h; trivial)) F'.1.2.2 hd
  · exact W.aret (v := z_tr ad' v) (rt := rt) B.exec B.bytes (hr.trans hM) ht1 (by rcases hv with rfl | ⟨a, rfl⟩ | ⟨a, rfl⟩; exact Or.inl rfl; exact Or.inr ⟨_, rfl⟩; exact Or.inr ⟨_, rfl⟩) (fun t ht hW => hq t ht hW (fun u h => by cases h; exact hst _ List.mem_cons_self)) F'.1.2.2 hd
theorem z_blind {D : va_G} {cA : FieldType → ClassId} {ad : zA} {S : zS} {sz : Nat} {av : List Value} : FrameBlind (va_Pc av (z_Wd D cA ad S sz)) := by
  intro a U g mk ⟨h0, h1, h2, h3, h4, h5, h6⟩
  refine ⟨h0, h1, z_In_mv (u := U) (U := U.calling g mk a) (Vm.Alike.refl U.vm) h2, fun w hw => va_Nw.same (u := U) ?_ rfl (h3 w hw), fun k q hq => u_Kn_moved (u := U) (U := U.calling g mk a) (Vm.Alike.refl U.vm) (h4 k q hq), h5, h6.mv (U := U.calling g mk a) (State.WarmedH.refl U) (fun _ _ _ => rfl) (fun _ h => h)⟩
  have hn := (List.mem_filter.mp hw).2
  cases w <;> first | rfl | (exfalso; simp [z_isN] at hn; done)
theorem z_wd {D : va_G} {cA : FieldType → ClassId} {d : Nat} {M : zM} {p : Program} {R : Room} {s : State} {m : MethodId} {args : Array Value} {meth : Method} {c : Code} {A : Nat → Prop} {ad : zA} {S : zS} {H : Heap} {locs : List Loc} (C : z_Cx D cA d M p R s m args meth c A ad.2) (I : z_In D cA ad S s A H) (hS : va_S A s.heap H locs) : ∀ U : State, U.heap = H → s.WarmedH U.vm → z_Wd D cA ad S H.size U := by
  intro U hU hW
  refine ⟨by rw [hU], ?_, fun w hw => ?_, fun k q hq => u_Kn_moved hW.alike (C.2.2.2.2.2.2.2.2.2.2.2.1 k q hq), fun ty k hk => C.2.2.2.2.2.2.2.2.2.2.2.2.1 ty k (by rw [hW.alike.findClass] at hk; exact hk), C.2.2.2.2.2.2.2.2.2.2.2.2.2.2.mv hW (fun a h1 h2 => by rw [hU]; exact hS.2.1 a h1 h2) (fun q hq => by
    rcases hq with ⟨j, e9, h⟩ | h
    · exact I.2.1.2 j _ h
    · exact C.2.2.2.2.2.2.2.2.2.2.2.2.2.1 q (Nat.le_trans hS.1 h))⟩
  · rw [hU]
    exact ⟨I.1, I.2.1.self, I.2.2.1, (z_In_mv hW.alike I).2.2.2⟩
  · have hn := (List.mem_filter.mp hw).2
    have h9 := C.2.2.2.2.2.2.1 w hw
    cases w <;> first | exact va_Nw.warmM hW h9 | exact va_Nw.warmF hW h9 | (exfalso; simp [z_isN] at hn; done)
theorem z_good {M : zM} (h : Cond.code M.1 M.2.1 M.2.2.1 M.2.2.2 ∈ z_tb) : GoodIn z_tb (z_w M) := by
  intro w hw
  have h1 : w ∈ z_tb := by
    rcases List.mem_cons.mp hw with rfl | h9
    · exact h
    · exact h9
  exact ⟨h1, good_of_word (List.mem_filter.mp h1).2⟩
/-- behind a call: the run goes on -/
theorem z_ret {l : Launch} {D : va_G} {d : Nat} {M : zM} {pc : Nat} {lv : zL} {st : List Value} {S S1 : zS} {o : zO} {r : Option Value} {p : Program} {e : Env} {R : Room} {s : State} {m : MethodId} {args : Array Value} {below : List Frame} {meth : Method} {c : Code} {cA : FieldType → ClassId} {A : Nat → Prop} {ad : zA} {H : Heap} {locs : List Loc} {ls : Array Slot} {cells slots : Nat} {Q : State → Prop} {g : JFrame} {a9 : Array Value}
    (hg : g = F0 m pc ls g.stack) (C : z_Cx D cA d M p R s m args meth c A ad.2) (I : z_In D cA ad S s A H) (hS : va_S A s.heap H locs) (hl : lv_has ls M.2.2.1 (z_lt ad lv)) (hlok : ∀ q ∈ lv, z_ok S.1 q.2) (hst : ∀ v ∈ st, z_ok S.1 v) (hgr : S.1 ≤ S1.1 ∧ S.2.1 ≤ S1.2.1)
    (hr : va_Run p l e R s m args below meth c H locs cells slots (S1.1 - S.1) (S1.2.1 - S.2.1) g (st.map (z_tr ad)) (z_Qc D cA ad S S1 H.size r a9) (va_A (z_ws ad cA S) H.size)) (k : z_Sem l D d M (pc + 3) lv (r.toList ++ st) S1 o) (hc : cells + (o.2.2.2.1 - S.1) ≤ R.cells) (hs : slots + (o.2.2.2.2.1 - S.2.1) ≤ R.slots)
    (K : ∀ (ad' : zA) (H' : Heap) (locs' : List Loc) (ls' : Array Slot), z_ag S.1 ad' ad → z_In D cA ad' o.2.2.2 s A H' → z_Fr M ad' A o.2.2.2 o.2.1 o.2.2.1 s H' locs' ls' → W p l e R s m args below meth c H' locs' (cells + (o.2.2.2.1 - S.1)) (slots + (o.2.2.2.2.1 - S.2.1)) Q (F0 m o.1 ls' (o.2.2.1.map (z_tr ad')))) : W p l e R s m args below meth c H locs cells slots Q g := by
  intro T hT X
  obtain ⟨v, st₀, t, T', L, h0, X', hL, e1, e2, ⟨ad', ha, hv, hrk, I1, hz, hkp⟩, stp⟩ := hr T hT X
  cases hv
  rw [h0] at hz hkp
  have hk1 := k.1
  have hsub : ∀ q, va_A (z_ws ad cA S) H.size q → A q := by
    intro q hq
    rcases hq with ⟨j, e9, h⟩ | h
    · exact I.2.1.2 j _ h
    · exact C.2.2.2.2.2.2.2.2.2.2.2.2.2.1 q (Nat.le_trans hS.1 h)
  have hal : s.vm.Alike t.vm := by rw [← e2]; exact X'.warmed.alike
  have I2 : z_In D cA ad' S1 s A T'.heap := by rw [e1]; exact z_In_A (z_In_mv hal.symm I1) hsub
  have hS2 : va_S A s.heap T'.heap (locs ++ L) := ⟨Nat.le_trans hS.1 (by rw [e1]; exact hz), fun q h1 h2 => by rw [e1, hkp q (Nat.lt_of_lt_of_le h1 hS.1) (fun z => h2 (hsub q z))]; exact hS.2.1 q h1 h2, fun q hq => by
      rcases List.mem_append.mp hq with h | h
      · exact hS.2.2 q h
      · exact hsub _ (hL q h)⟩
  have est : (r.toList ++ st).map (z_tr ad') = (r.map (z_tr ad')).toList ++ st.map (z_tr ad) := by
    rw [List.map_append, z_trs_new ha hst]
    cases r <;> rfl
  have hok2 : ∀ v ∈ r.toList ++ st, z_ok S1.1 v := fun v hv => by
    rcases List.mem_append.mp hv with h | h
    · exact hrk v (by cases r with | none => cases h | some u => have h9 : v = u := (by simpa using h); subst h9; rfl)
    · exact z_ok_mono hgr.1 (hst v h)
  have w := k.2 p e R s m args below meth c cA A ad' T'.heap (locs ++ L) ls (cells + (S1.1 - S.1)) (slots + (S1.2.1 - S.2.1)) Q (by rw [ha.2]; exact C) I2 ⟨hS2, by rw [z_lt_new ha hlok]; exact hl, fun q hq => z_ok_mono hgr.1 (hlok q hq), hok2⟩ (by omega) (by omega) (fun ad2 H2 locs2 ls2 ha2 I3 F3 => by
    have w9 := K ad2 H2 locs2 ls2 (z_ag_tr ha2 ha hgr.1) I3 F3
    have q1 : cells + (S1.1 - S.1) + (o.2.2.2.1 - S1.1) = cells + (o.2.2.2.1 - S.1) := by omega
    have q2 : slots + (S1.2.1 - S.2.1) + (o.2.2.2.2.1 - S1.2.1) = slots + (o.2.2.2.2.1 - S.2.1) := by omega
    rw [q1, q2]
    exact w9)
  rw [est] at w
  obtain ⟨t2, a1, b1⟩ := w T' rfl X'
  refine ⟨t2, stp t2 ?_, b1⟩
  rw [hg]
  exact a1


theorem z_fa_upd {ty : FieldType} {n : Nat} {g : Nat → Int32} {i : Nat} {y : Int32} (h : z_fa ty (n, .inl g)) (hy : fits ty (.int y) = true) : z_fa ty (n, .inl (upd g i y)) := z_fa_upd0 h hy
def z_mad (ad : zA) (n q : Nat) (r : Nat → Nat) : zA := (fun j => if j < n then ad.1 j else if j = n then q else r (j - (n + 1)), ad.2)
theorem z_mad_at {ad : zA} {n q : Nat} {r : Nat → Nat} : (z_mad ad n q r).1 n = q := by
  show (if n < n then _ else if n = n then q else _) = q
  rw [if_neg (Nat.lt_irrefl _), if_pos rfl]
theorem z_mad_hi {ad : zA} {n q i : Nat} {r : Nat → Nat} : (z_mad ad n q r).1 (n + 1 + i) = r i := by
  show (if n + 1 + i < n then _ else if n + 1 + i = n then q else r (n + 1 + i - (n + 1))) = r i
  rw [if_neg (by omega), if_neg (by omega), Nat.add_sub_cancel_left]
theorem z_ws_mna {ad : zA} {cA : FieldType → ClassId} {S : zS} {ty : FieldType} {N K q : Nat} {r : Nat → Nat} {f : Nat → va_E} (h0 : 0 < S.1) (hok : ∀ i, i < S.1 → z_okC S.1 (S.2.2 i)) :
    (z_ws ad cA S ++ [(q, .inl (cA (.array ty), N, .inr (.inr (.inr (.inr (fun i => if i < N then some (r i) else none))))))]) ++ va_pl ([] ++ (List.range N).map r) (vr_up f ((List.range N).map r) (.inl (cA ty, (K, .inl (fun _ => 0))))) = z_ws (z_mad ad S.1 q r) cA (z_mna S ty N K) := by
  have hn : z_ag S.1 (z_mad ad S.1 q r) ad := ⟨fun j hj => if_pos hj, rfl⟩
  have e2 : va_pl ([] ++ (List.range N).map r) (vr_up f ((List.range N).map r) (.inl (cA ty, (K, .inl (fun _ => 0))))) = (List.range N).map (fun i => (r i, (.inl (cA ty, (K, .inl (fun _ => 0))) : va_E))) := by
    unfold va_pl
    rw [List.nil_append, List.map_map]
    apply List.map_congr_left
    intro i hi
    show (r i, vr_up f _ _ (r i)) = _
    rw [vr_up_in (List.mem_map.mpr ⟨i, hi, rfl⟩)]
  rw [e2]
  show _ = (List.range (S.1 + 1 + N - 1)).map (fun i => ((z_mad ad S.1 q r).1 (i + 1), z_trC (z_mad ad S.1 q r) cA ((z_mna S ty N K).2.2 (i + 1))))
  rw [show S.1 + 1 + N - 1 = S.1 - 1 + 1 + N by omega, List.range_add, List.map_append, List.range_succ, List.map_append, List.map_map]
  congr 1
  · congr 1
    · apply List.map_congr_left
      intro i hi
      have hi' : i + 1 < S.1 := by have := List.mem_range.mp hi; omega
      rw [z_mna_lo hi', hn.1 _ hi', z_trC_new hn (hok _ hi')]
    · show [(q, _)] = [((z_mad ad S.1 q r).1 (S.1 - 1 + 1), z_trC (z_mad ad S.1 q r) cA ((z_mna S ty N K).2.2 (S.1 - 1 + 1)))]
      rw [show S.1 - 1 + 1 = S.1 by omega, z_mna_at, z_mad_at]
      show [(q, (.inl (cA (.array ty), N, .inr (.inr (.inr (.inr (fun i => if i < N then some (r i) else none))))) : va_E))] = [(q, (.inl (cA (.array ty), N, .inr (.inr (.inr (.inr (fun k => (if k < N then some (S.1 + 1 + k) else none).map (z_mad ad S.1 q r).1))))) : va_E))]
      have e : (fun i => if i < N then some (r i) else none) = fun k => (if k < N then some (S.1 + 1 + k) else none).map (z_mad ad S.1 q r).1 := by
        funext k
        by_cases hk : k < N
        · rw [if_pos hk, if_pos hk]
          exact congrArg some z_mad_hi.symm
        · rw [if_neg hk, if_neg hk]
          rfl
      rw [e]
  · apply List.map_congr_left
    intro i hi
    have hi' := List.mem_range.mp hi
    show _ = ((z_mad ad S.1 q r).1 (S.1 - 1 + 1 + i + 1), z_trC (z_mad ad S.1 q r) cA ((z_mna S ty N K).2.2 (S.1 - 1 + 1 + i + 1)))
    rw [show S.1 - 1 + 1 + i + 1 = S.1 + 1 + i by omega, z_mad_hi, z_mna_hi (by omega) (by omega)]
    rfl

theorem zs_iconst (l : Launch) (D : va_G) : zk_iconst (z_Sem l D) := by
  intro d M pc lv st S o n hd  k
  exact z_loc k (fun n hl h => by simp only [List.forall_mem_cons, z_ok_int, z_ok_long, z_ok_null, true_and] at h ⊢; first | exact h | exact h.2 | exact h.2.2 | simp_all) (fun C hl hc hs w => lv_iconst C.1 C.2.1 hd rfl w)
theorem zs_bipush (l : Launch) (D : va_G) : zk_bipush (z_Sem l D) := by
  intro d M pc lv st S o n hd  k
  exact z_loc k (fun n hl h => by simp only [List.forall_mem_cons, z_ok_int, z_ok_long, z_ok_null, true_and] at h ⊢; first | exact h | exact h.2 | exact h.2.2 | simp_all) (fun C hl hc hs w => lv_bipush C.1 C.2.1 hd rfl w)
theorem zs_sipush (l : Launch) (D : va_G) : zk_sipush (z_Sem l D) := by
  intro d M pc lv st S o n hd  k
  exact z_loc k (fun n hl h => by simp only [List.forall_mem_cons, z_ok_int, z_ok_long, z_ok_null, true_and] at h ⊢; first | exact h | exact h.2 | exact h.2.2 | simp_all) (fun C hl hc hs w => lv_sipush C.1 C.2.1 hd rfl w)
theorem zs_lconst (l : Launch) (D : va_G) : zk_lconst (z_Sem l D) := by
  intro d M pc lv st S o n hd  k
  exact z_loc k (fun n hl h => by simp only [List.forall_mem_cons, z_ok_int, z_ok_long, z_ok_null, true_and] at h ⊢; first | exact h | exact h.2 | exact h.2.2 | simp_all) (fun C hl hc hs w => lv_lconst C.1 C.2.1 hd rfl w)
theorem zs_aconst (l : Launch) (D : va_G) : zk_aconst (z_Sem l D) := by
  intro d M pc lv st S o  hd  k
  exact z_loc k (fun n hl h => by simp only [List.forall_mem_cons, z_ok_int, z_ok_long, z_ok_null, true_and] at h ⊢; first | exact h | exact h.2 | exact h.2.2 | simp_all) (fun C hl hc hs w => lv_null C.1 C.2.1 hd w)
theorem zs_iload_n (l : Launch) (D : va_G) : zk_iload_n (z_Sem l D) := by
  intro d M pc lv st S o j x hd hm k
  exact z_loc k (fun n hl h => by simp only [List.forall_mem_cons]; exact ⟨hl _ hm, h⟩) (fun C hl hc hs w => lv_iload_n C.1 C.2.1 hd rfl (z_ld hl hm) w)
theorem zs_iload (l : Launch) (D : va_G) : zk_iload (z_Sem l D) := by
  intro d M pc lv st S o i x hd hm k
  exact z_loc k (fun n hl h => by simp only [List.forall_mem_cons]; exact ⟨hl _ hm, h⟩) (fun C hl hc hs w => lv_iload C.1 C.2.1 hd (z_ld hl hm) w)
theorem zs_lload_n (l : Launch) (D : va_G) : zk_lload_n (z_Sem l D) := by
  intro d M pc lv st S o j x hd hm k
  exact z_loc k (fun n hl h => by simp only [List.forall_mem_cons]; exact ⟨hl _ hm, h⟩) (fun C hl hc hs w => lv_lload_n C.1 C.2.1 hd rfl (z_ld hl hm) w)
theorem zs_lload (l : Launch) (D : va_G) : zk_lload (z_Sem l D) := by
  intro d M pc lv st S o i x hd hm k
  exact z_loc k (fun n hl h => by simp only [List.forall_mem_cons]; exact ⟨hl _ hm, h⟩) (fun C hl hc hs w => lv_lload C.1 C.2.1 hd (z_ld hl hm) w)
theorem zs_aload_n (l : Launch) (D : va_G) : zk_aload_n (z_Sem l D) := by
  intro d M pc lv st S o j x hd hm k
  exact z_loc k (fun n hl h => by simp only [List.forall_mem_cons]; exact ⟨hl _ hm, h⟩) (fun C hl hc hs w => lv_aload_n C.1 C.2.1 hd rfl (z_ld hl hm) w)
theorem zs_aload (l : Launch) (D : va_G) : zk_aload (z_Sem l D) := by
  intro d M pc lv st S o i x hd hm k
  exact z_loc k (fun n hl h => by simp only [List.forall_mem_cons]; exact ⟨hl _ hm, h⟩) (fun C hl hc hs w => lv_aload C.1 C.2.1 hd (z_ld hl hm) w)
theorem zs_aload_nN (l : Launch) (D : va_G) : zk_aload_nN (z_Sem l D) := by
  intro d M pc lv st S o j hd hm k
  exact z_loc k (fun n hl h => by simp only [List.forall_mem_cons]; exact ⟨hl _ hm, h⟩) (fun C hl hc hs w => lv_aload_nN C.1 C.2.1 hd rfl (z_ld hl hm) w)
theorem zs_aloadN (l : Launch) (D : va_G) : zk_aloadN (z_Sem l D) := by
  intro d M pc lv st S o i hd hm k
  exact z_loc k (fun n hl h => by simp only [List.forall_mem_cons]; exact ⟨hl _ hm, h⟩) (fun C hl hc hs w => lv_aloadN C.1 C.2.1 hd (z_ld hl hm) w)
theorem zs_aload_nS (l : Launch) (D : va_G) : zk_aload_nS (z_Sem l D) := by
  intro d M pc lv st S o j x hd hm k
  exact z_loc k (fun n hl h => by simp only [List.forall_mem_cons]; exact ⟨hl _ hm, h⟩) (fun C hl hc hs w => lv_aload_n C.1 C.2.1 hd rfl (z_ld hl hm) w)
theorem zs_aloadS (l : Launch) (D : va_G) : zk_aloadS (z_Sem l D) := by
  intro d M pc lv st S o i x hd hm k
  exact z_loc k (fun n hl h => by simp only [List.forall_mem_cons]; exact ⟨hl _ hm, h⟩) (fun C hl hc hs w => lv_aload C.1 C.2.1 hd (z_ld hl hm) w)
theorem zs_istore_n (l : Launch) (D : va_G) : zk_istore_n (z_Sem l D) := by
  intro d M pc lv st S o j x hd hm k
  exact z_sto k (fun n hl h => by simp only [List.forall_mem_cons] at h ⊢; exact ⟨⟨h.1, z_k1_ok hl⟩, h.2⟩) (fun {p e R s m args below meth c cA A ad H locs ls cells slots Q} C hl w => lv_istore_n C.1 C.2.1 hd rfl hl hm (by rw [z_k1_lt]; rfl) w)
theorem zs_istore (l : Launch) (D : va_G) : zk_istore (z_Sem l D) := by
  intro d M pc lv st S o i x hd hm k
  exact z_sto k (fun n hl h => by simp only [List.forall_mem_cons] at h ⊢; exact ⟨⟨h.1, z_k1_ok hl⟩, h.2⟩) (fun {p e R s m args below meth c cA A ad H locs ls cells slots Q} C hl w => lv_istore C.1 C.2.1 hd hl hm (by rw [z_k1_lt]; rfl) w)
theorem zs_lstore_n (l : Launch) (D : va_G) : zk_lstore_n (z_Sem l D) := by
  intro d M pc lv st S o j x hd hm k
  exact z_sto k (fun n hl h => by simp only [List.forall_mem_cons] at h ⊢; exact ⟨⟨h.1, z_k2_ok hl⟩, h.2⟩) (fun {p e R s m args below meth c cA A ad H locs ls cells slots Q} C hl w => lv_lstore_n C.1 C.2.1 hd rfl hl hm (by rw [z_k2_lt]; rfl) w)
theorem zs_lstore (l : Launch) (D : va_G) : zk_lstore (z_Sem l D) := by
  intro d M pc lv st S o i x hd hm k
  exact z_sto k (fun n hl h => by simp only [List.forall_mem_cons] at h ⊢; exact ⟨⟨h.1, z_k2_ok hl⟩, h.2⟩) (fun {p e R s m args below meth c cA A ad H locs ls cells slots Q} C hl w => lv_lstore C.1 C.2.1 hd hl hm (by rw [z_k2_lt]; rfl) w)
theorem zs_astore_n (l : Launch) (D : va_G) : zk_astore_n (z_Sem l D) := by
  intro d M pc lv st S o j x hd hm k
  exact z_sto k (fun n hl h => by simp only [List.forall_mem_cons] at h ⊢; exact ⟨⟨h.1, z_k1_ok hl⟩, h.2⟩) (fun {p e R s m args below meth c cA A ad H locs ls cells slots Q} C hl w => lv_astore_n C.1 C.2.1 hd rfl hl hm (by rw [z_k1_lt]; rfl) w)
theorem zs_astore (l : Launch) (D : va_G) : zk_astore (z_Sem l D) := by
  intro d M pc lv st S o i x hd hm k
  exact z_sto k (fun n hl h => by simp only [List.forall_mem_cons] at h ⊢; exact ⟨⟨h.1, z_k1_ok hl⟩, h.2⟩) (fun {p e R s m args below meth c cA A ad H locs ls cells slots Q} C hl w => lv_astore C.1 C.2.1 hd hl hm (by rw [z_k1_lt]; rfl) w)
theorem zs_astore_nS (l : Launch) (D : va_G) : zk_astore_nS (z_Sem l D) := by
  intro d M pc lv st S o j x hd hm k
  exact z_sto k (fun n hl h => by simp only [List.forall_mem_cons] at h ⊢; exact ⟨⟨h.1, z_k1_ok hl⟩, h.2⟩) (fun {p e R s m args below meth c cA A ad H locs ls cells slots Q} C hl w => lv_astore_n C.1 C.2.1 hd rfl hl hm (by rw [z_k1_lt]; rfl) w)
theorem zs_astoreS (l : Launch) (D : va_G) : zk_astoreS (z_Sem l D) := by
  intro d M pc lv st S o i x hd hm k
  exact z_sto k (fun n hl h => by simp only [List.forall_mem_cons] at h ⊢; exact ⟨⟨h.1, z_k1_ok hl⟩, h.2⟩) (fun {p e R s m args below meth c cA A ad H locs ls cells slots Q} C hl w => lv_astore C.1 C.2.1 hd hl hm (by rw [z_k1_lt]; rfl) w)
theorem zs_astore_nN (l : Launch) (D : va_G) : zk_astore_nN (z_Sem l D) := by
  intro d M pc lv st S o j hd hm k
  exact z_sto k (fun n hl h => by simp only [List.forall_mem_cons] at h ⊢; exact ⟨⟨h.1, z_k1_ok hl⟩, h.2⟩) (fun {p e R s m args below meth c cA A ad H locs ls cells slots Q} C hl w => lv_astore_nN C.1 C.2.1 hd rfl hl hm (by rw [z_k1_lt]; rfl) w)
theorem zs_astoreN (l : Launch) (D : va_G) : zk_astoreN (z_Sem l D) := by
  intro d M pc lv st S o i hd hm k
  exact z_sto k (fun n hl h => by simp only [List.forall_mem_cons] at h ⊢; exact ⟨⟨h.1, z_k1_ok hl⟩, h.2⟩) (fun {p e R s m args below meth c cA A ad H locs ls cells slots Q} C hl w => lv_astoreN C.1 C.2.1 hd hl hm (by rw [z_k1_lt]; rfl) w)
theorem zs_iinc (l : Launch) (D : va_G) : zk_iinc (z_Sem l D) := by
  intro d M pc lv st S o i n x hd hm hm1 k
  obtain ⟨q, hq⟩ := List.getElem?_of_mem hm
  exact z_sto k (fun n hl h => by simp only [List.forall_mem_cons]; exact ⟨⟨trivial, z_k1_ok hl⟩, h⟩) (fun {p e R s m args below meth c cA A ad H locs ls cells slots Q} C hl w => lv_iinc (k := q) (x := x) C.1 C.2.1 hd hl (by unfold z_lt; rw [List.getElem?_map, hq]; rfl) rfl hm1 (by rw [z_k1_lt]; rfl) w)
theorem zs_iadd (l : Launch) (D : va_G) : zk_iadd (z_Sem l D) := by
  intro d M pc lv st S o x y hd  k
  exact z_loc k (fun n hl h => by simp only [List.forall_mem_cons, z_ok_int, z_ok_long, z_ok_null, true_and] at h ⊢; first | exact h | exact h.2 | exact h.2.2 | simp_all) (fun C hl hc hs w => lv_iadd C.1 C.2.1 hd w)
theorem zs_isub (l : Launch) (D : va_G) : zk_isub (z_Sem l D) := by
  intro d M pc lv st S o x y hd  k
  exact z_loc k (fun n hl h => by simp only [List.forall_mem_cons, z_ok_int, z_ok_long, z_ok_null, true_and] at h ⊢; first | exact h | exact h.2 | exact h.2.2 | simp_all) (fun C hl hc hs w => lv_isub C.1 C.2.1 hd w)
theorem zs_imul (l : Launch) (D : va_G) : zk_imul (z_Sem l D) := by
  intro d M pc lv st S o x y hd  k
  exact z_loc k (fun n hl h => by simp only [List.forall_mem_cons, z_ok_int, z_ok_long, z_ok_null, true_and] at h ⊢; first | exact h | exact h.2 | exact h.2.2 | simp_all) (fun C hl hc hs w => lv_imul C.1 C.2.1 hd w)
theorem zs_iand (l : Launch) (D : va_G) : zk_iand (z_Sem l D) := by
  intro d M pc lv st S o x y hd  k
  exact z_loc k (fun n hl h => by simp only [List.forall_mem_cons, z_ok_int, z_ok_long, z_ok_null, true_and] at h ⊢; first | exact h | exact h.2 | exact h.2.2 | simp_all) (fun C hl hc hs w => lv_iand C.1 C.2.1 hd w)
theorem zs_ior (l : Launch) (D : va_G) : zk_ior (z_Sem l D) := by
  intro d M pc lv st S o x y hd  k
  exact z_loc k (fun n hl h => by simp only [List.forall_mem_cons, z_ok_int, z_ok_long, z_ok_null, true_and] at h ⊢; first | exact h | exact h.2 | exact h.2.2 | simp_all) (fun C hl hc hs w => lv_ior C.1 C.2.1 hd w)
theorem zs_ixor (l : Launch) (D : va_G) : zk_ixor (z_Sem l D) := by
  intro d M pc lv st S o x y hd  k
  exact z_loc k (fun n hl h => by simp only [List.forall_mem_cons, z_ok_int, z_ok_long, z_ok_null, true_and] at h ⊢; first | exact h | exact h.2 | exact h.2.2 | simp_all) (fun C hl hc hs w => lv_ixor C.1 C.2.1 hd w)
theorem zs_ishl (l : Launch) (D : va_G) : zk_ishl (z_Sem l D) := by
  intro d M pc lv st S o x y hd  k
  exact z_loc k (fun n hl h => by simp only [List.forall_mem_cons, z_ok_int, z_ok_long, z_ok_null, true_and] at h ⊢; first | exact h | exact h.2 | exact h.2.2 | simp_all) (fun C hl hc hs w => lv_ishl C.1 C.2.1 hd w)
theorem zs_ishr (l : Launch) (D : va_G) : zk_ishr (z_Sem l D) := by
  intro d M pc lv st S o x y hd  k
  exact z_loc k (fun n hl h => by simp only [List.forall_mem_cons, z_ok_int, z_ok_long, z_ok_null, true_and] at h ⊢; first | exact h | exact h.2 | exact h.2.2 | simp_all) (fun C hl hc hs w => lv_ishr C.1 C.2.1 hd w)
theorem zs_idiv (l : Launch) (D : va_G) : zk_idiv (z_Sem l D) := by
  intro d M pc lv st S o x y hd hm k
  exact z_loc k (fun n hl h => by simp only [List.forall_mem_cons, z_ok_int, z_ok_long, z_ok_null, true_and] at h ⊢; first | exact h | exact h.2 | exact h.2.2 | simp_all) (fun C hl hc hs w => lv_idiv C.1 C.2.1 hd hm w)
theorem zs_irem (l : Launch) (D : va_G) : zk_irem (z_Sem l D) := by
  intro d M pc lv st S o x y hd hm k
  exact z_loc k (fun n hl h => by simp only [List.forall_mem_cons, z_ok_int, z_ok_long, z_ok_null, true_and] at h ⊢; first | exact h | exact h.2 | exact h.2.2 | simp_all) (fun C hl hc hs w => lv_irem C.1 C.2.1 hd hm w)
theorem zs_ladd (l : Launch) (D : va_G) : zk_ladd (z_Sem l D) := by
  intro d M pc lv st S o x y hd  k
  exact z_loc k (fun n hl h => by simp only [List.forall_mem_cons, z_ok_int, z_ok_long, z_ok_null, true_and] at h ⊢; first | exact h | exact h.2 | exact h.2.2 | simp_all) (fun C hl hc hs w => lv_ladd C.1 C.2.1 hd w)
theorem zs_lsub (l : Launch) (D : va_G) : zk_lsub (z_Sem l D) := by
  intro d M pc lv st S o x y hd  k
  exact z_loc k (fun n hl h => by simp only [List.forall_mem_cons, z_ok_int, z_ok_long, z_ok_null, true_and] at h ⊢; first | exact h | exact h.2 | exact h.2.2 | simp_all) (fun C hl hc hs w => lv_lsub C.1 C.2.1 hd w)
theorem zs_lmul (l : Launch) (D : va_G) : zk_lmul (z_Sem l D) := by
  intro d M pc lv st S o x y hd  k
  exact z_loc k (fun n hl h => by simp only [List.forall_mem_cons, z_ok_int, z_ok_long, z_ok_null, true_and] at h ⊢; first | exact h | exact h.2 | exact h.2.2 | simp_all) (fun C hl hc hs w => lv_lmul C.1 C.2.1 hd w)
theorem zs_land (l : Launch) (D : va_G) : zk_land (z_Sem l D) := by
  intro d M pc lv st S o x y hd  k
  exact z_loc k (fun n hl h => by simp only [List.forall_mem_cons, z_ok_int, z_ok_long, z_ok_null, true_and] at h ⊢; first | exact h | exact h.2 | exact h.2.2 | simp_all) (fun C hl hc hs w => lv_land C.1 C.2.1 hd w)
theorem zs_lor (l : Launch) (D : va_G) : zk_lor (z_Sem l D) := by
  intro d M pc lv st S o x y hd  k
  exact z_loc k (fun n hl h => by simp only [List.forall_mem_cons, z_ok_int, z_ok_long, z_ok_null, true_and] at h ⊢; first | exact h | exact h.2 | exact h.2.2 | simp_all) (fun C hl hc hs w => lv_lor C.1 C.2.1 hd w)
theorem zs_lxor (l : Launch) (D : va_G) : zk_lxor (z_Sem l D) := by
  intro d M pc lv st S o x y hd  k
  exact z_loc k (fun n hl h => by simp only [List.forall_mem_cons, z_ok_int, z_ok_long, z_ok_null, true_and] at h ⊢; first | exact h | exact h.2 | exact h.2.2 | simp_all) (fun C hl hc hs w => lv_lxor C.1 C.2.1 hd w)
theorem zs_ineg (l : Launch) (D : va_G) : zk_ineg (z_Sem l D) := by
  intro d M pc lv st S o x hd  k
  exact z_loc k (fun n hl h => by simp only [List.forall_mem_cons, z_ok_int, z_ok_long, z_ok_null, true_and] at h ⊢; first | exact h | exact h.2 | exact h.2.2 | simp_all) (fun C hl hc hs w => lv_ineg C.1 C.2.1 hd w)
theorem zs_iushr (l : Launch) (D : va_G) : zk_iushr (z_Sem l D) := by
  intro d M pc lv st S o x y hd  k
  exact z_loc k (fun n hl h => by simp only [List.forall_mem_cons, z_ok_int, z_ok_long, z_ok_null, true_and] at h ⊢; first | exact h | exact h.2 | exact h.2.2 | simp_all) (fun C hl hc hs w => lv_iushr C.1 C.2.1 hd rfl w)
theorem zs_lushr (l : Launch) (D : va_G) : zk_lushr (z_Sem l D) := by
  intro d M pc lv st S o x y hd  k
  exact z_loc k (fun n hl h => by simp only [List.forall_mem_cons, z_ok_int, z_ok_long, z_ok_null, true_and] at h ⊢; first | exact h | exact h.2 | exact h.2.2 | simp_all) (fun C hl hc hs w => lv_lushr C.1 C.2.1 hd rfl w)
theorem zs_lshl (l : Launch) (D : va_G) : zk_lshl (z_Sem l D) := by
  intro d M pc lv st S o x y hd  k
  exact z_loc k (fun n hl h => by simp only [List.forall_mem_cons, z_ok_int, z_ok_long, z_ok_null, true_and] at h ⊢; first | exact h | exact h.2 | exact h.2.2 | simp_all) (fun C hl hc hs w => lv_lshl C.1 C.2.1 hd rfl w)
theorem zs_lshr (l : Launch) (D : va_G) : zk_lshr (z_Sem l D) := by
  intro d M pc lv st S o x y hd  k
  exact z_loc k (fun n hl h => by simp only [List.forall_mem_cons, z_ok_int, z_ok_long, z_ok_null, true_and] at h ⊢; first | exact h | exact h.2 | exact h.2.2 | simp_all) (fun C hl hc hs w => lv_lshr C.1 C.2.1 hd rfl w)
theorem zs_i2l (l : Launch) (D : va_G) : zk_i2l (z_Sem l D) := by
  intro d M pc lv st S o x hd  k
  exact z_loc k (fun n hl h => by simp only [List.forall_mem_cons, z_ok_int, z_ok_long, z_ok_null, true_and] at h ⊢; first | exact h | exact h.2 | exact h.2.2 | simp_all) (fun C hl hc hs w => lv_i2l C.1 C.2.1 hd rfl w)
theorem zs_l2i (l : Launch) (D : va_G) : zk_l2i (z_Sem l D) := by
  intro d M pc lv st S o x hd  k
  exact z_loc k (fun n hl h => by simp only [List.forall_mem_cons, z_ok_int, z_ok_long, z_ok_null, true_and] at h ⊢; first | exact h | exact h.2 | exact h.2.2 | simp_all) (fun C hl hc hs w => lv_l2i C.1 C.2.1 hd rfl w)
theorem zs_i2b (l : Launch) (D : va_G) : zk_i2b (z_Sem l D) := by
  intro d M pc lv st S o x hd  k
  exact z_loc k (fun n hl h => by simp only [List.forall_mem_cons, z_ok_int, z_ok_long, z_ok_null, true_and] at h ⊢; first | exact h | exact h.2 | exact h.2.2 | simp_all) (fun C hl hc hs w => lv_i2b C.1 C.2.1 hd rfl w)
theorem zs_i2c (l : Launch) (D : va_G) : zk_i2c (z_Sem l D) := by
  intro d M pc lv st S o x hd  k
  exact z_loc k (fun n hl h => by simp only [List.forall_mem_cons, z_ok_int, z_ok_long, z_ok_null, true_and] at h ⊢; first | exact h | exact h.2 | exact h.2.2 | simp_all) (fun C hl hc hs w => lv_i2c C.1 C.2.1 hd rfl w)
theorem zs_dup (l : Launch) (D : va_G) : zk_dup (z_Sem l D) := by
  intro d M pc lv st S o v hd hm k
  exact z_loc k (fun n hl h => by simp only [List.forall_mem_cons] at h ⊢; first | exact h.2 | exact ⟨h.1, h⟩ | exact ⟨h.1, h.2.1, h⟩) (fun C hl hc hs w => lv_dup C.1 C.2.1 hd ((z_cat v).trans hm) w)
theorem zs_pop (l : Launch) (D : va_G) : zk_pop (z_Sem l D) := by
  intro d M pc lv st S o v hd hm k
  exact z_loc k (fun n hl h => by simp only [List.forall_mem_cons] at h ⊢; first | exact h.2 | exact ⟨h.1, h⟩ | exact ⟨h.1, h.2.1, h⟩) (fun C hl hc hs w => lv_pop C.1 C.2.1 hd ((z_cat v).trans hm) w)
theorem zs_dup2 (l : Launch) (D : va_G) : zk_dup2 (z_Sem l D) := by
  intro d M pc lv st S o v u hd hm hm1 k
  exact z_loc k (fun n hl h => by simp only [List.forall_mem_cons] at h ⊢; first | exact h.2 | exact ⟨h.1, h⟩ | exact ⟨h.1, h.2.1, h⟩) (fun C hl hc hs w => lv_dup2_11 C.1 C.2.1 hd ((z_cat v).trans hm) ((z_cat u).trans hm1) w)
theorem zs_if_eq (l : Launch) (D : va_G) : zk_if_eq (z_Sem l D) := by
  intro d M pc lv st S o x off tgt hd hm k k2
  exact z_br k k2 (fun n h => by simp only [List.forall_mem_cons, z_ok_int, z_ok_long, z_ok_null, true_and] at h ⊢; first | exact h | exact h.2 | exact h.2.2 | simp_all) (fun C w1 w2 => lv_if_eq C.1 C.2.1 hd hm w1 w2)
theorem zs_icmp_eq (l : Launch) (D : va_G) : zk_icmp_eq (z_Sem l D) := by
  intro d M pc lv st S o x y off tgt hd hm k k2
  exact z_br k k2 (fun n h => by simp only [List.forall_mem_cons, z_ok_int, z_ok_long, z_ok_null, true_and] at h ⊢; first | exact h | exact h.2 | exact h.2.2 | simp_all) (fun C w1 w2 => lv_icmp_eq C.1 C.2.1 hd hm w1 w2)
theorem zs_if_ne (l : Launch) (D : va_G) : zk_if_ne (z_Sem l D) := by
  intro d M pc lv st S o x off tgt hd hm k k2
  exact z_br k2 k (fun n h => by simp only [List.forall_mem_cons, z_ok_int, z_ok_long, z_ok_null, true_and] at h ⊢; first | exact h | exact h.2 | exact h.2.2 | simp_all) (fun C w1 w2 => lv_if_ne C.1 C.2.1 hd hm w2 w1)
theorem zs_icmp_ne (l : Launch) (D : va_G) : zk_icmp_ne (z_Sem l D) := by
  intro d M pc lv st S o x y off tgt hd hm k k2
  exact z_br k2 k (fun n h => by simp only [List.forall_mem_cons, z_ok_int, z_ok_long, z_ok_null, true_and] at h ⊢; first | exact h | exact h.2 | exact h.2.2 | simp_all) (fun C w1 w2 => lv_icmp_ne C.1 C.2.1 hd hm w2 w1)
theorem zs_if_lt (l : Launch) (D : va_G) : zk_if_lt (z_Sem l D) := by
  intro d M pc lv st S o x off tgt hd hm k k2
  exact z_br k k2 (fun n h => by simp only [List.forall_mem_cons, z_ok_int, z_ok_long, z_ok_null, true_and] at h ⊢; first | exact h | exact h.2 | exact h.2.2 | simp_all) (fun C w1 w2 => lv_if_lt C.1 C.2.1 hd hm w1 w2)
theorem zs_icmp_lt (l : Launch) (D : va_G) : zk_icmp_lt (z_Sem l D) := by
  intro d M pc lv st S o x y off tgt hd hm k k2
  exact z_br k k2 (fun n h => by simp only [List.forall_mem_cons, z_ok_int, z_ok_long, z_ok_null, true_and] at h ⊢; first | exact h | exact h.2 | exact h.2.2 | simp_all) (fun C w1 w2 => lv_icmp_lt C.1 C.2.1 hd hm w1 w2)
theorem zs_if_ge (l : Launch) (D : va_G) : zk_if_ge (z_Sem l D) := by
  intro d M pc lv st S o x off tgt hd hm k k2
  exact z_br k k2 (fun n h => by simp only [List.forall_mem_cons, z_ok_int, z_ok_long, z_ok_null, true_and] at h ⊢; first | exact h | exact h.2 | exact h.2.2 | simp_all) (fun C w1 w2 => lv_if_ge C.1 C.2.1 hd hm w1 w2)
theorem zs_icmp_ge (l : Launch) (D : va_G) : zk_icmp_ge (z_Sem l D) := by
  intro d M pc lv st S o x y off tgt hd hm k k2
  exact z_br k k2 (fun n h => by simp only [List.forall_mem_cons, z_ok_int, z_ok_long, z_ok_null, true_and] at h ⊢; first | exact h | exact h.2 | exact h.2.2 | simp_all) (fun C w1 w2 => lv_icmp_ge C.1 C.2.1 hd hm w1 w2)
theorem zs_if_gt (l : Launch) (D : va_G) : zk_if_gt (z_Sem l D) := by
  intro d M pc lv st S o x off tgt hd hm k k2
  exact z_br k k2 (fun n h => by simp only [List.forall_mem_cons, z_ok_int, z_ok_long, z_ok_null, true_and] at h ⊢; first | exact h | exact h.2 | exact h.2.2 | simp_all) (fun C w1 w2 => lv_if_gt C.1 C.2.1 hd hm w1 w2)
theorem zs_icmp_gt (l : Launch) (D : va_G) : zk_icmp_gt (z_Sem l D) := by
  intro d M pc lv st S o x y off tgt hd hm k k2
  exact z_br k k2 (fun n h => by simp only [List.forall_mem_cons, z_ok_int, z_ok_long, z_ok_null, true_and] at h ⊢; first | exact h | exact h.2 | exact h.2.2 | simp_all) (fun C w1 w2 => lv_icmp_gt C.1 C.2.1 hd hm w1 w2)
theorem zs_if_le (l : Launch) (D : va_G) : zk_if_le (z_Sem l D) := by
  intro d M pc lv st S o x off tgt hd hm k k2
  exact z_br k k2 (fun n h => by simp only [List.forall_mem_cons, z_ok_int, z_ok_long, z_ok_null, true_and] at h ⊢; first | exact h | exact h.2 | exact h.2.2 | simp_all) (fun C w1 w2 => lv_if_le C.1 C.2.1 hd hm w1 w2)
theorem zs_icmp_le (l : Launch) (D : va_G) : zk_icmp_le (z_Sem l D) := by
  intro d M pc lv st S o x y off tgt hd hm k k2
  exact z_br k k2 (fun n h => by simp only [List.forall_mem_cons, z_ok_int, z_ok_long, z_ok_null, true_and] at h ⊢; first | exact h | exact h.2 | exact h.2.2 | simp_all) (fun C w1 w2 => lv_icmp_le C.1 C.2.1 hd hm w1 w2)
theorem zs_goto (l : Launch) (D : va_G) : zk_goto (z_Sem l D) := by
  intro d M pc lv st S o off tgt hd hm k
  exact z_loc k (fun n hl h => h) (fun C hl hc hs w => lv_goto C.1 C.2.1 hd hm w)
theorem zs_ifnull (l : Launch) (D : va_G) : zk_ifnull (z_Sem l D) := by
  intro d M pc lv st S o x off hd  k
  exact z_loc k (fun n hl h => by simp only [List.forall_mem_cons, z_ok_int, z_ok_long, z_ok_null, true_and] at h ⊢; first | exact h | exact h.2 | exact h.2.2 | simp_all) (fun C hl hc hs w => lv_ifnull C.1 C.2.1 hd w)
theorem zs_ifnullN (l : Launch) (D : va_G) : zk_ifnullN (z_Sem l D) := by
  intro d M pc lv st S o off tgt hd hm k
  exact z_loc k (fun n hl h => by simp only [List.forall_mem_cons, z_ok_int, z_ok_long, z_ok_null, true_and] at h ⊢; first | exact h | exact h.2 | exact h.2.2 | simp_all) (fun C hl hc hs w => lv_ifnullN C.1 C.2.1 hd hm w)
theorem zs_ifnonnull (l : Launch) (D : va_G) : zk_ifnonnull (z_Sem l D) := by
  intro d M pc lv st S o x off tgt hd hm k
  exact z_loc k (fun n hl h => by simp only [List.forall_mem_cons, z_ok_int, z_ok_long, z_ok_null, true_and] at h ⊢; first | exact h | exact h.2 | exact h.2.2 | simp_all) (fun C hl hc hs w => lv_ifnonnull C.1 C.2.1 hd hm w)
theorem zs_ifnonnullN (l : Launch) (D : va_G) : zk_ifnonnullN (z_Sem l D) := by
  intro d M pc lv st S o off hd  k
  exact z_loc k (fun n hl h => by simp only [List.forall_mem_cons, z_ok_int, z_ok_long, z_ok_null, true_and] at h ⊢; first | exact h | exact h.2 | exact h.2.2 | simp_all) (fun C hl hc hs w => lv_ifnonnullN C.1 C.2.1 hd w)
theorem zs_lookup (l : Launch) (D : va_G) : zk_lookup (z_Sem l D) := by
  intro d M pc lv st S o x dflt off ps len tgt hd hm hm1 hm2 k
  exact z_loc k (fun n hl h => by simp only [List.forall_mem_cons, z_ok_int, z_ok_long, z_ok_null, true_and] at h ⊢; first | exact h | exact h.2 | exact h.2.2 | simp_all) (fun C hl hc hs w => lv_lookup C.1 C.2.1 hd hm hm1 hm2 w)
theorem zs_tableIn (l : Launch) (D : va_G) : zk_tableIn (z_Sem l D) := by
  intro d M pc lv st S o x dflt lo hi off offs len tgt hd hm hm1 hm2 hm3 k
  exact z_loc k (fun n hl h => by simp only [List.forall_mem_cons, z_ok_int, z_ok_long, z_ok_null, true_and] at h ⊢; first | exact h | exact h.2 | exact h.2.2 | simp_all) (fun C hl hc hs w => lv_tableIn C.1 C.2.1 hd hm hm1 hm2 hm3 w)
theorem zs_tableOut (l : Launch) (D : va_G) : zk_tableOut (z_Sem l D) := by
  intro d M pc lv st S o x dflt lo hi offs len tgt hd hm hm1 k
  exact z_loc k (fun n hl h => by simp only [List.forall_mem_cons, z_ok_int, z_ok_long, z_ok_null, true_and] at h ⊢; first | exact h | exact h.2 | exact h.2.2 | simp_all) (fun C hl hc hs w => lv_tableOut C.1 C.2.1 hd hm hm1 w)
theorem zs_getf (l : Launch) (D : va_G) : zk_getf (z_Sem l D) := by
  intro d M pc lv st S o idx i ci j ty fin fs v hd hm hm1 hm2 k
  refine ⟨k.1, fun p e R s m args below meth c cA A ad H locs ls cells slots Q C I F hc hs K => ?_⟩
  have hi : 0 < i ∧ i < S.1 := F.2.2.2 (.ref i) List.mem_cons_self
  have he := z_ws_get (ad := ad) (cA := cA) hi
  rw [hm1] at he
  have he : (z_ws ad cA S)[i - 1]? = some (ad.1 i, .inr (ci, fs.map (z_tr ad))) := he
  obtain ⟨r, hr, hk, hcl, hpd, hfin, hlk⟩ := hm
  have hov : z_ok S.1 v := by have h8 := I.2.2.1.2 i hi.2; rw [hm1] at h8; exact h8 v (List.mem_of_getElem? hm2)
  have w := k.2 p e R s m args below meth c cA A ad H locs ls cells slots Q C I ⟨F.1, F.2.1, F.2.2.1, by have h9 := F.2.2.2; simp only [List.forall_mem_cons] at h9 ⊢; exact ⟨hov, h9.2⟩⟩ hc hs K
  rcases hlk with hlk | hlk
  · exact va_get (C := r.1) (T := r.2.1) (N := r.2.2) (ref := r.1) (v := z_tr ad v) C.1 C.2.1 C.2.2.2.2.2.1 (z_cls_in hr) C.2.2.2.2.1 (z_K C) I.1 (i - 1) he hr j hk (C.2.2.2.2.2.1 _ hlk) (by rw [hcl]; exact fun _ h => h) (by rw [List.getElem?_map, hm2]; rfl) hd w
  · exact va_getN (C := r.1) (T := r.2.1) (N := r.2.2) (ref := r.1) (v := z_tr ad v) C.1 C.2.1 C.2.2.2.2.2.1 (z_cls_in hr) C.2.2.2.2.1 (z_K C) I.1 (i - 1) he hr j hk (va_Nw.use rfl (C.2.2.2.2.2.2.1 _ hlk)) (by rw [hcl]; exact fun _ h => h) (by rw [List.getElem?_map, hm2]; rfl) hd w
theorem zs_putf (l : Launch) (D : va_G) : zk_putf (z_Sem l D) := by
  intro d M pc lv st S o idx i ci j ty fs v hd hm hm1 hm2 hm3 k
  refine z_stp k (fun n h => by simp only [List.forall_mem_cons] at h ⊢; exact h.2.2) (fun {p e R s m args below meth c cA A ad H locs ls cells slots Q} C I F w => ?_)
  have hi : 0 < i ∧ i < S.1 := F.2.2.2 (.ref i) (List.mem_cons_of_mem _ List.mem_cons_self)
  have hov : z_ok S.1 v := F.2.2.2 v List.mem_cons_self
  have he := z_ws_get (ad := ad) (cA := cA) hi
  rw [hm1] at he
  have he : (z_ws ad cA S)[i - 1]? = some (ad.1 i, .inr (ci, fs.map (z_tr ad))) := he
  obtain ⟨r, hr, hk, hcl, hpd, hfin, hlk⟩ := hm
  have hoc : z_okC S.1 (.inr (ci, fs.set j v)) := by
    intro u hu
    rcases List.mem_or_eq_of_mem_set hu with h | h
    · have h8 := I.2.2.1.2 i hi.2; rw [hm1] at h8; exact h8 u h
    · rw [h]; exact hov
  have ew : z_trC ad cA (.inr (ci, fs.set j v)) = .inr (ci, (fs.map (z_tr ad)).set j (z_tr ad v)) := by
    show (Sum.inr (ci, (fs.set j v).map (z_tr ad)) : va_E) = _
    rw [List.map_set]
  rcases hlk with hlk | hlk
  · exact va_put (C := r.1) (T := r.2.1) (N := r.2.2) (ref := r.1) (v := z_tr ad v) (ty := ty) C.1 C.2.1 C.2.2.2.2.2.1 (z_cls_in hr) (z_ft r) (z_cls_ty hr) (z_cls_nm hr) C.2.2.2.2.1 (z_K C) I.1 I.2.1 F.1 (i - 1) he hr j hk (C.2.2.2.2.2.1 _ hlk) (by rw [hcl]; exact fun _ h => h) hfin hpd (z_narrow hm3.1) (z_fits hm3.2) (by rw [List.length_map]; exact hm2) hd (fun H1 locs1 hP hD hS => w H1 locs1 (z_In_put hi.1 I (by rw [ew]; exact hP) (by rw [ew]; exact hD) hoc (fun _ _ h => by cases h)) hS)
  · exact va_putN (C := r.1) (T := r.2.1) (N := r.2.2) (ref := r.1) (v := z_tr ad v) (ty := ty) C.1 C.2.1 C.2.2.2.2.2.1 (z_cls_in hr) (z_ft r) (z_cls_ty hr) (z_cls_nm hr) C.2.2.2.2.1 (z_K C) I.1 I.2.1 F.1 (i - 1) he hr j hk (va_Nw.use rfl (C.2.2.2.2.2.2.1 _ hlk)) (by rw [hcl]; exact fun _ h => h) hfin hpd (z_narrow hm3.1) (z_fits hm3.2) (by rw [List.length_map]; exact hm2) hd (fun H1 locs1 hP hD hS => w H1 locs1 (z_In_put hi.1 I (by rw [ew]; exact hP) (by rw [ew]; exact hD) hoc (fun _ _ h => by cases h)) hS)
theorem zs_putF (l : Launch) (D : va_G) : zk_putF (z_Sem l D) := by
  intro d M pc lv st S o idx i ci j ty fs v hd hm hm1 hm2 hm3 hm4 k
  refine z_stp k (fun n h => by simp only [List.forall_mem_cons] at h ⊢; exact h.2.2) (fun {p e R s m args below meth c cA A ad H locs ls cells slots Q} C I F w => ?_)
  have hi : 0 < i ∧ i < S.1 := F.2.2.2 (.ref i) (List.mem_cons_of_mem _ List.mem_cons_self)
  have hov : z_ok S.1 v := F.2.2.2 v List.mem_cons_self
  have he := z_ws_get (ad := ad) (cA := cA) hi
  rw [hm1] at he
  have he : (z_ws ad cA S)[i - 1]? = some (ad.1 i, .inr (ci, fs.map (z_tr ad))) := he
  obtain ⟨r, hr, hk, hcl, hown9, hpd, hfin, hlk⟩ := hm
  have hoc : z_okC S.1 (.inr (ci, fs.set j v)) := by
    intro u hu
    rcases List.mem_or_eq_of_mem_set hu with h | h
    · have h8 := I.2.2.1.2 i hi.2; rw [hm1] at h8; exact h8 u h
    · rw [h]; exact hov
  have ew : z_trC ad cA (.inr (ci, fs.set j v)) = .inr (ci, (fs.map (z_tr ad)).set j (z_tr ad v)) := by
    show (Sum.inr (ci, (fs.set j v).map (z_tr ad)) : va_E) = _
    rw [List.map_set]
  exact va_putF (C := r.1) (T := r.2.1) (N := r.2.2) (ref := r.1) (v := z_tr ad v) (ty := ty) C.1 C.2.1 C.2.2.2.2.2.1 (z_cls_in hr) (z_ft r) (z_cls_ty hr) (z_cls_nm hr) C.2.2.2.2.1 (z_K C) I.1 I.2.1 F.1 (i - 1) he hr j hk (C.2.2.2.2.2.1 _ hlk) (by rw [hcl]; exact fun _ h => h) hfin (C.2.2.2.2.2.2.2.2.1 hm4) (hcl.trans hown9) hpd (z_narrow hm3.1) (z_fits hm3.2) (by rw [List.length_map]; exact hm2) hd (fun H1 locs1 hP hD hS => w H1 locs1 (z_In_put hi.1 I (by rw [ew]; exact hP) (by rw [ew]; exact hD) hoc (fun _ _ h => by cases h)) hS)
theorem zs_putS (l : Launch) (D : va_G) : zk_putS (z_Sem l D) := by
  intro d M pc lv st S o idx i ci j k9 ty fs hd hm hm1 hm2 hm3 k
  obtain ⟨v, hv⟩ : ∃ v, v = Value.retAddr k9 := ⟨_, rfl⟩
  rw [← hv] at k ⊢
  refine z_stp k (fun n h => by simp only [List.forall_mem_cons] at h ⊢; exact h.2.2) (fun {p e R s m args below meth c cA A ad H locs ls cells slots Q} C I F w => ?_)
  have hi : 0 < i ∧ i < S.1 := F.2.2.2 (.ref i) (List.mem_cons_of_mem _ List.mem_cons_self)
  have hov : z_ok S.1 v := F.2.2.2 v List.mem_cons_self
  have he := z_ws_get (ad := ad) (cA := cA) hi
  rw [hm1] at he
  have he : (z_ws ad cA S)[i - 1]? = some (ad.1 i, .inr (ci, fs.map (z_tr ad))) := he
  obtain ⟨r, hr, hk, hcl, hpd, hfin, hlk⟩ := hm
  have hoc : z_okC S.1 (.inr (ci, fs.set j v)) := by
    intro u hu
    rcases List.mem_or_eq_of_mem_set hu with h | h
    · have h8 := I.2.2.1.2 i hi.2; rw [hm1] at h8; exact h8 u h
    · rw [h]; exact hov
  have ew : z_trC ad cA (.inr (ci, fs.set j v)) = .inr (ci, (fs.map (z_tr ad)).set j (z_tr ad v)) := by
    show (Sum.inr (ci, (fs.set j v).map (z_tr ad)) : va_E) = _
    rw [List.map_set]
  rcases hlk with hlk | hlk
  · exact va_put (C := r.1) (T := r.2.1) (N := r.2.2) (ref := r.1) (v := z_tr ad v) (ty := ty) C.1 C.2.1 C.2.2.2.2.2.1 (z_cls_in hr) (z_ft r) (z_cls_ty hr) (z_cls_nm hr) C.2.2.2.2.1 (z_K C) I.1 I.2.1 F.1 (i - 1) he hr j hk (C.2.2.2.2.2.1 _ hlk) (by rw [hcl]; exact fun _ h => h) hfin hpd (by rw [hv]; rcases hm3 with ⟨t9, rfl⟩ | ⟨t9, rfl⟩ <;> rfl) (by rw [hv]; rcases hm3 with ⟨t9, rfl⟩ | ⟨t9, rfl⟩ <;> rfl) (by rw [List.length_map]; exact hm2) hd (fun H1 locs1 hP hD hS => w H1 locs1 (z_In_put hi.1 I (by rw [ew]; exact hP) (by rw [ew]; exact hD) hoc (fun _ _ h => by cases h)) hS)
  · exact va_putN (C := r.1) (T := r.2.1) (N := r.2.2) (ref := r.1) (v := z_tr ad v) (ty := ty) C.1 C.2.1 C.2.2.2.2.2.1 (z_cls_in hr) (z_ft r) (z_cls_ty hr) (z_cls_nm hr) C.2.2.2.2.1 (z_K C) I.1 I.2.1 F.1 (i - 1) he hr j hk (va_Nw.use rfl (C.2.2.2.2.2.2.1 _ hlk)) (by rw [hcl]; exact fun _ h => h) hfin hpd (by rw [hv]; rcases hm3 with ⟨t9, rfl⟩ | ⟨t9, rfl⟩ <;> rfl) (by rw [hv]; rcases hm3 with ⟨t9, rfl⟩ | ⟨t9, rfl⟩ <;> rfl) (by rw [List.length_map]; exact hm2) hd (fun H1 locs1 hP hD hS => w H1 locs1 (z_In_put hi.1 I (by rw [ew]; exact hP) (by rw [ew]; exact hD) hoc (fun _ _ h => by cases h)) hS)
theorem zs_bald (l : Launch) (D : va_G) : zk_bald (z_Sem l D) := by
  intro d M pc lv st S o i n x g hd hm hm1 k
  refine ⟨k.1, fun p e R s m args below meth c cA A ad H locs ls cells slots Q C I F hc hs K => ?_⟩
  have hi : 0 < i ∧ i < S.1 := F.2.2.2 (.ref i) (List.mem_cons_of_mem _ List.mem_cons_self)
  have he := z_ws_get (ad := ad) (cA := cA) hi
  rw [hm] at he
  have he : (z_ws ad cA S)[i - 1]? = some (ad.1 i, .inl (cA (.byte), n, .inl g)) := he
  have w := k.2 p e R s m args below meth c cA A ad H locs ls cells slots Q C I ⟨F.1, F.2.1, F.2.2.1, by have h9 := F.2.2.2; simp only [List.forall_mem_cons, z_ok_int, z_ok_long, true_and] at h9 ⊢; exact h9.2⟩ hc hs K
  exact va_bald C.1 C.2.1 (z_K1 C (I.2.2.2 i hi.2 _ _ hm)) I.1 (i - 1) 0 he rfl hm1 hd w
theorem zs_zald (l : Launch) (D : va_G) : zk_zald (z_Sem l D) := by
  intro d M pc lv st S o i n x g hd hm hm1 k
  refine ⟨k.1, fun p e R s m args below meth c cA A ad H locs ls cells slots Q C I F hc hs K => ?_⟩
  have hi : 0 < i ∧ i < S.1 := F.2.2.2 (.ref i) (List.mem_cons_of_mem _ List.mem_cons_self)
  have he := z_ws_get (ad := ad) (cA := cA) hi
  rw [hm] at he
  have he : (z_ws ad cA S)[i - 1]? = some (ad.1 i, .inl (cA (.boolean), n, .inl g)) := he
  have w := k.2 p e R s m args below meth c cA A ad H locs ls cells slots Q C I ⟨F.1, F.2.1, F.2.2.1, by have h9 := F.2.2.2; simp only [List.forall_mem_cons, z_ok_int, z_ok_long, true_and] at h9 ⊢; exact h9.2⟩ hc hs K
  exact va_zald C.1 C.2.1 (z_K1 C (I.2.2.2 i hi.2 _ _ hm)) I.1 (i - 1) 0 he rfl hm1 hd w
theorem zs_iald (l : Launch) (D : va_G) : zk_iald (z_Sem l D) := by
  intro d M pc lv st S o i n x g hd hm hm1 k
  refine ⟨k.1, fun p e R s m args below meth c cA A ad H locs ls cells slots Q C I F hc hs K => ?_⟩
  have hi : 0 < i ∧ i < S.1 := F.2.2.2 (.ref i) (List.mem_cons_of_mem _ List.mem_cons_self)
  have he := z_ws_get (ad := ad) (cA := cA) hi
  rw [hm] at he
  have he : (z_ws ad cA S)[i - 1]? = some (ad.1 i, .inl (cA (.int), n, .inl g)) := he
  have w := k.2 p e R s m args below meth c cA A ad H locs ls cells slots Q C I ⟨F.1, F.2.1, F.2.2.1, by have h9 := F.2.2.2; simp only [List.forall_mem_cons, z_ok_int, z_ok_long, true_and] at h9 ⊢; exact h9.2⟩ hc hs K
  exact va_iald C.1 C.2.1 (z_K1 C (I.2.2.2 i hi.2 _ _ hm)) I.1 (i - 1) 0 he rfl hm1 hd w
theorem zs_lald (l : Launch) (D : va_G) : zk_lald (z_Sem l D) := by
  intro d M pc lv st S o i n x g hd hm hm1 k
  refine ⟨k.1, fun p e R s m args below meth c cA A ad H locs ls cells slots Q C I F hc hs K => ?_⟩
  have hi : 0 < i ∧ i < S.1 := F.2.2.2 (.ref i) (List.mem_cons_of_mem _ List.mem_cons_self)
  have he := z_ws_get (ad := ad) (cA := cA) hi
  rw [hm] at he
  have he : (z_ws ad cA S)[i - 1]? = some (ad.1 i, .inl (cA (.long), n, .inr (.inl g))) := he
  have w := k.2 p e R s m args below meth c cA A ad H locs ls cells slots Q C I ⟨F.1, F.2.1, F.2.2.1, by have h9 := F.2.2.2; simp only [List.forall_mem_cons, z_ok_int, z_ok_long, true_and] at h9 ⊢; exact h9.2⟩ hc hs K
  exact va_lald C.1 C.2.1 (z_K1 C (I.2.2.2 i hi.2 _ _ hm)) I.1 (i - 1) 0 he rfl hm1 hd w
theorem zs_aald (l : Launch) (D : va_G) : zk_aald (z_Sem l D) := by
  intro d M pc lv st S o i n x ty g hd hm hm1 hm2 k
  refine ⟨k.1, fun p e R s m args below meth c cA A ad H locs ls cells slots Q C I F hc hs K => ?_⟩
  have hi : 0 < i ∧ i < S.1 := F.2.2.2 (.ref i) (List.mem_cons_of_mem _ List.mem_cons_self)
  have he := z_ws_get (ad := ad) (cA := cA) hi
  rw [hm] at he
  have he : (z_ws ad cA S)[i - 1]? = some (ad.1 i, .inl (cA ty, n, .inr (.inr (.inr (.inr (fun k => (g k).map ad.1)))))) := he
  have hov : z_ok S.1 (va_rf (g x.toNatClampNeg)) := by
    have h8 := I.2.2.1.2 i hi.2
    rw [hm] at h8
    cases hg : g x.toNatClampNeg with
    | none => trivial
    | some j => exact h8.1 _ j hg
  have w := k.2 p e R s m args below meth c cA A ad H locs ls cells slots Q C I ⟨F.1, F.2.1, F.2.2.1, by have h9 := F.2.2.2; simp only [List.forall_mem_cons, z_ok_int, z_ok_long, true_and] at h9 ⊢; exact ⟨hov, h9.2⟩⟩ hc hs K
  have hlt : x.toNatClampNeg < n := Nat.not_le.mp fun q => hm1 (Or.inr q)
  have w : W p l e R s m args below meth c H locs cells slots Q (F0 m (pc + 1) ls (z_tr ad (va_rf (g x.toNatClampNeg)) :: st.map (z_tr ad))) := w
  rw [z_rf] at w
  exact W.aald (v := va_rf ((g x.toNatClampNeg).map ad.1)) (ty := ty) C.1 C.2.1 (I.1 (i - 1) _ he) ((I.2.2.2 i hi.2 _ _ hm).1 n (fun j => va_rf ((g j).map ad.1))) hm2 (fun q => by cases q) (by show ¬ (x < 0 ∨ (arrV _ _ _).slots.size ≤ _); rw [arrV_size]; exact hm1) (by show (arrV _ _ _).slots[_]? = _; rw [arrV_read _ _ hlt]) rfl rfl hd w
theorem zs_bast (l : Launch) (D : va_G) : zk_bast (z_Sem l D) := by
  intro d M pc lv st S o i n x g y hd hm hm1 k
  refine z_stp k (fun n h => by simp only [List.forall_mem_cons] at h ⊢; exact h.2.2.2) (fun {p e R s m args below meth c cA A ad H locs ls cells slots Q} C I F w => ?_)
  have hi : 0 < i ∧ i < S.1 := F.2.2.2 (.ref i) (List.mem_cons_of_mem _ (List.mem_cons_of_mem _ List.mem_cons_self))
  have he := z_ws_get (ad := ad) (cA := cA) hi
  rw [hm] at he
  have he : (z_ws ad cA S)[i - 1]? = some (ad.1 i, .inl (cA (.byte), n, .inl g)) := he
  exact va_bast C.1 C.2.1 (z_K1 C (I.2.2.2 i hi.2 _ _ hm)) I.1 I.2.1 F.1 (i - 1) 0 he rfl hm1 hd (fun H1 locs1 hP hD hS => w H1 locs1 (z_In_put hi.1 I hP hD ⟨trivial, z_fa_upd (by have h8 := I.2.2.1.2 i hi.2; rw [hm] at h8; exact h8.2) (pk_fb y)⟩ (fun ty a h => by cases h; exact I.2.2.2 i hi.2 _ _ hm)) hS)
theorem zs_zast (l : Launch) (D : va_G) : zk_zast (z_Sem l D) := by
  intro d M pc lv st S o i n x g y hd hm hm1 k
  refine z_stp k (fun n h => by simp only [List.forall_mem_cons] at h ⊢; exact h.2.2.2) (fun {p e R s m args below meth c cA A ad H locs ls cells slots Q} C I F w => ?_)
  have hi : 0 < i ∧ i < S.1 := F.2.2.2 (.ref i) (List.mem_cons_of_mem _ (List.mem_cons_of_mem _ List.mem_cons_self))
  have he := z_ws_get (ad := ad) (cA := cA) hi
  rw [hm] at he
  have he : (z_ws ad cA S)[i - 1]? = some (ad.1 i, .inl (cA (.boolean), n, .inl g)) := he
  exact va_zast C.1 C.2.1 (z_K1 C (I.2.2.2 i hi.2 _ _ hm)) I.1 I.2.1 F.1 (i - 1) 0 he rfl hm1 hd (fun H1 locs1 hP hD hS => w H1 locs1 (z_In_put hi.1 I hP hD ⟨trivial, z_fa_upd (by have h8 := I.2.2.1.2 i hi.2; rw [hm] at h8; exact h8.2) (fits_narrow_boolean y)⟩ (fun ty a h => by cases h; exact I.2.2.2 i hi.2 _ _ hm)) hS)
theorem zs_iast (l : Launch) (D : va_G) : zk_iast (z_Sem l D) := by
  intro d M pc lv st S o i n x g y hd hm hm1 k
  refine z_stp k (fun n h => by simp only [List.forall_mem_cons] at h ⊢; exact h.2.2.2) (fun {p e R s m args below meth c cA A ad H locs ls cells slots Q} C I F w => ?_)
  have hi : 0 < i ∧ i < S.1 := F.2.2.2 (.ref i) (List.mem_cons_of_mem _ (List.mem_cons_of_mem _ List.mem_cons_self))
  have he := z_ws_get (ad := ad) (cA := cA) hi
  rw [hm] at he
  have he : (z_ws ad cA S)[i - 1]? = some (ad.1 i, .inl (cA (.int), n, .inl g)) := he
  exact va_iast C.1 C.2.1 (z_K1 C (I.2.2.2 i hi.2 _ _ hm)) I.1 I.2.1 F.1 (i - 1) 0 he rfl hm1 hd (fun H1 locs1 hP hD hS => w H1 locs1 (z_In_put hi.1 I hP hD ⟨trivial, fun _ => rfl⟩ (fun ty a h => by cases h; exact I.2.2.2 i hi.2 _ _ hm)) hS)
theorem zs_last (l : Launch) (D : va_G) : zk_last (z_Sem l D) := by
  intro d M pc lv st S o i n x g y hd hm hm1 k
  refine z_stp k (fun n h => by simp only [List.forall_mem_cons] at h ⊢; exact h.2.2.2) (fun {p e R s m args below meth c cA A ad H locs ls cells slots Q} C I F w => ?_)
  have hi : 0 < i ∧ i < S.1 := F.2.2.2 (.ref i) (List.mem_cons_of_mem _ (List.mem_cons_of_mem _ List.mem_cons_self))
  have he := z_ws_get (ad := ad) (cA := cA) hi
  rw [hm] at he
  have he : (z_ws ad cA S)[i - 1]? = some (ad.1 i, .inl (cA (.long), n, .inr (.inl g))) := he
  exact va_last C.1 C.2.1 (z_K1 C (I.2.2.2 i hi.2 _ _ hm)) I.1 I.2.1 F.1 (i - 1) 0 he rfl hm1 hd (fun H1 locs1 hP hD hS => w H1 locs1 (z_In_put hi.1 I hP hD ⟨trivial, trivial⟩ (fun ty a h => by cases h; exact I.2.2.2 i hi.2 _ _ hm)) hS)
theorem zs_aast (l : Launch) (D : va_G) : zk_aast (z_Sem l D) := by
  intro d M pc lv st S o i n j ci x r g vs hd hm hm1 hm2 hm3 k
  refine z_stp k (fun n h => by simp only [List.forall_mem_cons] at h ⊢; exact h.2.2.2) (fun {p e R s m args below meth c cA A ad H locs ls cells slots Q} C I F w => ?_)
  have hj : 0 < j ∧ j < S.1 := F.2.2.2 (.ref j) List.mem_cons_self
  have hi : 0 < i ∧ i < S.1 := F.2.2.2 (.ref i) (List.mem_cons_of_mem _ (List.mem_cons_of_mem _ List.mem_cons_self))
  have he := z_ws_get (ad := ad) (cA := cA) hi
  rw [hm] at he
  have he : (z_ws ad cA S)[i - 1]? = some (ad.1 i, .inl (cA (.object r.1), n, .inr (.inr (.inr (.inr (fun k => (g k).map ad.1)))))) := he
  have hf := z_ws_get (ad := ad) (cA := cA) hj
  rw [hm2] at hf
  have hf : (z_ws ad cA S)[j - 1]? = some (ad.1 j, .inr (ci, vs.map (z_tr ad))) := hf
  have ew : z_trC ad cA (.inl (.object r.1, n, .inr (.inr (.inr (.inr (va_up g x.toNatClampNeg (some j))))))) = .inl (cA (.object r.1), n, .inr (.inr (.inr (.inr (va_up (fun k => (g k).map ad.1) x.toNatClampNeg (some (ad.1 j))))))) := by
    show (Sum.inl (cA (.object r.1), n, .inr (.inr (.inr (.inr (fun k => (va_up g x.toNatClampNeg (some j) k).map ad.1))))) : va_E) = _
    congr 7
    funext k
    unfold va_up
    split <;> rfl
  have hoc : z_okC S.1 (.inl (.object r.1, n, .inr (.inr (.inr (.inr (va_up g x.toNatClampNeg (some j))))))) := by
    refine ⟨fun k i9 h9 => ?_, trivial⟩
    have h8 := I.2.2.1.2 i hi.2
    rw [hm] at h8
    unfold va_up at h9
    split at h9
    · cases h9; exact hj
    · exact h8.1 k i9 h9
  exact va_astq C.1 C.2.1 (z_K1 C (I.2.2.2 i hi.2 _ _ hm)) I.1 I.2.1 F.1 (i - 1) 0 (j - 1) ci he rfl hf hm3 hm1 hd (fun H1 locs1 hP hD hS => w H1 locs1 (z_In_put hi.1 I (by rw [ew]; exact hP) (by rw [ew]; exact hD) hoc (fun ty a h => by cases h; exact I.2.2.2 i hi.2 _ _ hm)) hS)
theorem zs_alen (l : Launch) (D : va_G) : zk_alen (z_Sem l D) := by
  intro d M pc lv st S o i ty a hd hm k
  refine ⟨k.1, fun p e R s m args below meth c cA A ad H locs ls cells slots Q C I F hc hs K => ?_⟩
  have hi : 0 < i ∧ i < S.1 := F.2.2.2 (.ref i) List.mem_cons_self
  have he := z_ws_get (ad := ad) (cA := cA) hi
  rw [hm] at he
  have he : (z_ws ad cA S)[i - 1]? = some (ad.1 i, .inl (cA ty, z_trA ad a)) := he
  have w := k.2 p e R s m args below meth c cA A ad H locs ls cells slots Q C I ⟨F.1, F.2.1, F.2.2.1, by have h9 := F.2.2.2; simp only [List.forall_mem_cons, z_ok_int, z_ok_long, true_and] at h9 ⊢; exact h9.2⟩ hc hs K
  exact va_alen C.1 C.2.1 (z_K1 C (I.2.2.2 i hi.2 _ _ hm)) I.1 (i - 1) 0 he rfl (by rcases a with ⟨n, g | g | g | g | g⟩ <;> rfl) hd w
theorem zs_new (l : Launch) (D : va_G) : zk_new (z_Sem l D) := by
  intro d M pc lv st S o idx ci n fs hd hm k
  refine z_stn k (fun h0 h => by simp only [List.forall_mem_cons]; exact ⟨⟨h0, Nat.lt_succ_self _⟩, fun v hv => z_ok_mono (Nat.le_succ _) (h v hv)⟩) (fun {p e R s m args below meth c cA A ad H locs ls cells slots Q} C I F hc hs w => ?_)
  obtain ⟨r, hr, hn, hcl, hins, hini, hdf, hno⟩ := hm
  subst hn
  have hmap : ∀ ad : zA, fs.map (z_tr ad) = fs := fun ad => by
    conv => rhs; rw [← List.map_id fs]
    apply List.map_congr_left
    intro v hv
    rcases hno v hv with h | h | h <;> subst h <;> rfl
  have hoc : z_okC (S.1 + 1) (.inr (ci, fs)) := fun v hv => by rcases hno v hv with h | h | h <;> subst h <;> trivial
  have ew : ∀ q, z_trC (z_up ad S.1 q) cA (.inr (ci, fs)) = .inr (ci, fs) := fun q => by
    show (Sum.inr (ci, fs.map (z_tr (z_up ad S.1 q))) : va_E) = _
    rw [hmap]
  exact va_new (c0 := c) (C := r.1) (T := r.2.1) (N := r.2.2) (fs := fs) C.1 C.2.1 C.2.2.2.2.2.1 (z_cls_in hr) (z_ft r) (z_cls_ty hr) C.2.2.2.2.1 (C.2.2.2.2.2.1 _ hcl) (C.2.2.2.2.2.1 _ hins) (C.2.2.2.2.2.1 _ hini) (z_K C) I.1 I.2.1 F.1 C.2.2.2.2.2.2.2.2.2.2.2.2.2.1 hr (fun j hj => by have h9 := hdf j hj; rw [z_cls_ty hr j hj] at h9; exact Option.some.inj h9) hc hs hd (fun q H1 hP hD hS => by
    have w9 := w q H1 (z_In_new (k := r.2.2) I (by rw [ew]; exact hP) (by rw [ew]; exact hD) hoc (fun _ _ h => by cases h)) hS
    have e9 : (Value.ref S.1 :: st).map (z_tr (z_up ad S.1 q)) = .ref q :: st.map (z_tr ad) := by
      show Value.ref (va_up ad.1 S.1 q S.1) :: st.map (z_tr (z_up ad S.1 q)) = _
      rw [va_up_self, z_trs_new z_ag_up F.2.2.2]
    rw [e9] at w9
    exact w9)
theorem zs_newi (l : Launch) (D : va_G) : zk_newi (z_Sem l D) := by
  intro d M pc lv st S o n N hd hm hm1 hm2 hm3 k
  refine z_stn k (fun h0 h => by simp only [List.forall_mem_cons] at h ⊢; exact ⟨⟨h0, Nat.lt_succ_self _⟩, fun v hv => z_ok_mono (Nat.le_succ _) (h.2 v hv)⟩) (fun {p e R s m args below meth c cA A ad H locs ls cells slots Q} C I F hc hs w => ?_)
  refine va_newa (atype := .int) (ty := .int) (a0 := (N, .inl (fun _ => 0))) C.1 C.2.1 (C.2.2.2.2.2.1 _ hm3) rfl (z_K C) I.1 I.2.1 F.1 C.2.2.2.2.2.2.2.2.2.2.2.2.2.1 (fun cA => rfl) hm hm1 hm2 hc hs hd (fun q cA9 H1 hK hP hD hS => ?_)
  have hA9 := hK.2 0 (cA9, .int) rfl
  have ec : cA .int = cA9 := C.2.2.2.2.2.2.2.2.2.2.2.2.1 _ _ hA9.2
  rw [← ec] at hA9 hP hD
  have w9 := w q H1 (z_In_new (k := N) I hP hD ⟨trivial, fun _ => rfl⟩ (fun ty a h => by cases h; exact hA9)) hS
  have e9 : (Value.ref S.1 :: st).map (z_tr (z_up ad S.1 q)) = .ref q :: st.map (z_tr ad) := by
    show Value.ref (va_up ad.1 S.1 q S.1) :: st.map (z_tr (z_up ad S.1 q)) = _
    rw [va_up_self, z_trs_new z_ag_up (fun v hv => F.2.2.2 v (List.mem_cons_of_mem _ hv))]
  rw [e9] at w9
  exact w9
theorem zs_newb (l : Launch) (D : va_G) : zk_newb (z_Sem l D) := by
  intro d M pc lv st S o n N hd hm hm1 hm2 hm3 k
  refine z_stn k (fun h0 h => by simp only [List.forall_mem_cons] at h ⊢; exact ⟨⟨h0, Nat.lt_succ_self _⟩, fun v hv => z_ok_mono (Nat.le_succ _) (h.2 v hv)⟩) (fun {p e R s m args below meth c cA A ad H locs ls cells slots Q} C I F hc hs w => ?_)
  refine va_newa (atype := .byte) (ty := .byte) (a0 := (N, .inl (fun _ => 0))) C.1 C.2.1 (C.2.2.2.2.2.1 _ hm3) rfl (z_K C) I.1 I.2.1 F.1 C.2.2.2.2.2.2.2.2.2.2.2.2.2.1 (fun cA => rfl) hm hm1 hm2 hc hs hd (fun q cA9 H1 hK hP hD hS => ?_)
  have hA9 := hK.2 0 (cA9, .byte) rfl
  have ec : cA .byte = cA9 := C.2.2.2.2.2.2.2.2.2.2.2.2.1 _ _ hA9.2
  rw [← ec] at hA9 hP hD
  have w9 := w q H1 (z_In_new (k := N) I hP hD ⟨trivial, fun _ => rfl⟩ (fun ty a h => by cases h; exact hA9)) hS
  have e9 : (Value.ref S.1 :: st).map (z_tr (z_up ad S.1 q)) = .ref q :: st.map (z_tr ad) := by
    show Value.ref (va_up ad.1 S.1 q S.1) :: st.map (z_tr (z_up ad S.1 q)) = _
    rw [va_up_self, z_trs_new z_ag_up (fun v hv => F.2.2.2 v (List.mem_cons_of_mem _ hv))]
  rw [e9] at w9
  exact w9
theorem zs_newz (l : Launch) (D : va_G) : zk_newz (z_Sem l D) := by
  intro d M pc lv st S o n N hd hm hm1 hm2 hm3 k
  refine z_stn k (fun h0 h => by simp only [List.forall_mem_cons] at h ⊢; exact ⟨⟨h0, Nat.lt_succ_self _⟩, fun v hv => z_ok_mono (Nat.le_succ _) (h.2 v hv)⟩) (fun {p e R s m args below meth c cA A ad H locs ls cells slots Q} C I F hc hs w => ?_)
  refine va_newa (atype := .boolean) (ty := .boolean) (a0 := (N, .inl (fun _ => 0))) C.1 C.2.1 (C.2.2.2.2.2.1 _ hm3) rfl (z_K C) I.1 I.2.1 F.1 C.2.2.2.2.2.2.2.2.2.2.2.2.2.1 (fun cA => rfl) hm hm1 hm2 hc hs hd (fun q cA9 H1 hK hP hD hS => ?_)
  have hA9 := hK.2 0 (cA9, .boolean) rfl
  have ec : cA .boolean = cA9 := C.2.2.2.2.2.2.2.2.2.2.2.2.1 _ _ hA9.2
  rw [← ec] at hA9 hP hD
  have w9 := w q H1 (z_In_new (k := N) I hP hD ⟨trivial, fun _ => rfl⟩ (fun ty a h => by cases h; exact hA9)) hS
  have e9 : (Value.ref S.1 :: st).map (z_tr (z_up ad S.1 q)) = .ref q :: st.map (z_tr ad) := by
    show Value.ref (va_up ad.1 S.1 q S.1) :: st.map (z_tr (z_up ad S.1 q)) = _
    rw [va_up_self, z_trs_new z_ag_up (fun v hv => F.2.2.2 v (List.mem_cons_of_mem _ hv))]
  rw [e9] at w9
  exact w9
theorem zs_newl (l : Launch) (D : va_G) : zk_newl (z_Sem l D) := by
  intro d M pc lv st S o n N hd hm hm1 hm2 hm3 k
  refine z_stn k (fun h0 h => by simp only [List.forall_mem_cons] at h ⊢; exact ⟨⟨h0, Nat.lt_succ_self _⟩, fun v hv => z_ok_mono (Nat.le_succ _) (h.2 v hv)⟩) (fun {p e R s m args below meth c cA A ad H locs ls cells slots Q} C I F hc hs w => ?_)
  refine va_newa (atype := .long) (ty := .long) (a0 := (N, .inr (.inl (fun _ => 0)))) C.1 C.2.1 (C.2.2.2.2.2.1 _ hm3) rfl (z_K C) I.1 I.2.1 F.1 C.2.2.2.2.2.2.2.2.2.2.2.2.2.1 (fun cA => rfl) hm hm1 hm2 hc hs hd (fun q cA9 H1 hK hP hD hS => ?_)
  have hA9 := hK.2 0 (cA9, .long) rfl
  have ec : cA .long = cA9 := C.2.2.2.2.2.2.2.2.2.2.2.2.1 _ _ hA9.2
  rw [← ec] at hA9 hP hD
  have w9 := w q H1 (z_In_new (k := N) I hP hD ⟨trivial, trivial⟩ (fun ty a h => by cases h; exact hA9)) hS
  have e9 : (Value.ref S.1 :: st).map (z_tr (z_up ad S.1 q)) = .ref q :: st.map (z_tr ad) := by
    show Value.ref (va_up ad.1 S.1 q S.1) :: st.map (z_tr (z_up ad S.1 q)) = _
    rw [va_up_self, z_trs_new z_ag_up (fun v hv => F.2.2.2 v (List.mem_cons_of_mem _ hv))]
  rw [e9] at w9
  exact w9
theorem zs_ldc (l : Launch) (D : va_G) : zk_ldc (z_Sem l D) := by
  intro d M pc lv st S o idx v hd hm k
  exact z_loc k (fun n hl h => by simp only [List.forall_mem_cons, z_ok_int, z_ok_long, z_ok_null, true_and] at h ⊢; first | exact h | exact h.2 | exact h.2.2 | simp_all) (fun C hl hc hs w => lv_ldc C.1 C.2.1 C.2.2.2.2.1 (C.2.2.2.2.2.1 _ hm) hd w)
theorem zs_ldcw (l : Launch) (D : va_G) : zk_ldcw (z_Sem l D) := by
  intro d M pc lv st S o idx v hd hm k
  exact z_loc k (fun n hl h => by simp only [List.forall_mem_cons, z_ok_int, z_ok_long, z_ok_null, true_and] at h ⊢; first | exact h | exact h.2 | exact h.2.2 | simp_all) (fun C hl hc hs w => lv_ldcw C.1 C.2.1 C.2.2.2.2.1 (C.2.2.2.2.2.1 _ hm) hd w)
theorem zs_ldc2 (l : Launch) (D : va_G) : zk_ldc2 (z_Sem l D) := by
  intro d M pc lv st S o idx v hd hm k
  exact z_loc k (fun n hl h => by simp only [List.forall_mem_cons, z_ok_int, z_ok_long, z_ok_null, true_and] at h ⊢; first | exact h | exact h.2 | exact h.2.2 | simp_all) (fun C hl hc hs w => lv_ldc2 C.1 C.2.1 C.2.2.2.2.1 (C.2.2.2.2.2.1 _ hm) hd w)
theorem zs_lcmp (l : Launch) (D : va_G) : zk_lcmp (z_Sem l D) := by
  intro d M pc lv st S o x y hd  k
  exact z_loc k (fun n hl h => by simp only [List.forall_mem_cons, z_ok_int, z_ok_long, z_ok_null, true_and] at h ⊢; first | exact h | exact h.2 | exact h.2.2 | simp_all) (fun C hl hc hs w => W.lcmp C.1 C.2.1 hd w)
theorem zs_dup_x1 (l : Launch) (D : va_G) : zk_dup_x1 (z_Sem l D) := by
  intro d M pc lv st S o v u hd hm hm1 k
  exact z_loc k (fun n hl h => by simp only [List.forall_mem_cons] at h ⊢; exact ⟨h.1, h.2.1, h.1, h.2.2⟩) (fun C hl hc hs w => lv_dup_x1 C.1 C.2.1 hd ((z_cat v).trans hm) ((z_cat u).trans hm1) w)
theorem zs_objInit (l : Launch) (D : va_G) : zk_objInit (z_Sem l D) := by
  intro d M pc lv st S o idx i hd hm hm1 k
  have hcat : ∀ ad : zA, ((st.map (z_tr ad)).map fun v => v.category).sum ≤ 8 := fun ad => by
    rw [List.map_map]
    have e9 : ((fun v : Value => v.category) ∘ z_tr ad) = Value.category := by funext v; exact z_cat v
    rw [e9]
    exact hm1
  exact z_loc k (fun n hl h => by simp only [List.forall_mem_cons] at h ⊢; exact h.2) (fun {p e R s m args below meth c cA A ad H locs ls cells slots Q} C hl hc hs w => W.objInit (g := F0 m pc ls (.ref (ad.1 i) :: st.map (z_tr ad))) C.1 C.2.1 C.2.2.2.2.1 (C.2.2.2.2.2.1 _ hm) (C.2.2.2.2.2.1 _ z_oi1) (C.2.2.2.2.2.1 _ z_oi2) rfl (hl.1.trans C.2.2.2.1.symm) rfl hd (by have h8 := C.2.2.2.2.2.2.2.2.2.1; omega) (by have h8 := C.2.2.2.2.2.2.2.2.2.2.1; have h9 := hcat ad; show 2 * 0 + _ + 12 ≤ _; omega) w)
theorem zs_mmax (l : Launch) (D : va_G) : zk_mmax (z_Sem l D) := by
  intro d M pc lv st S o idx x y hd hm hm1 k
  have hcat : ∀ ad : zA, ((st.map (z_tr ad)).map fun v => v.category).sum ≤ 8 := fun ad => by
    rw [List.map_map]
    have e9 : ((fun v : Value => v.category) ∘ z_tr ad) = Value.category := by funext v; exact z_cat v
    rw [e9]
    exact hm1
  exact z_loc k (fun n hl h => by simp only [List.forall_mem_cons, z_ok_int, true_and] at h ⊢; exact h) (fun {p e R s m args below meth c cA A ad H locs ls cells slots Q} C hl hc hs w => va_mmax C.1 C.2.1 (C.2.2.2.1.trans hl.1.symm) C.2.2.2.2.1 (C.2.2.2.2.2.1 _ hm) (C.2.2.2.2.2.1 _ z_mm_max1) (C.2.2.2.2.2.1 _ z_mm_max2) (C.2.2.2.2.2.1 _ z_mm_max3) (by have h8 := C.2.2.2.2.2.2.2.2.2.1; omega) (by have h8 := C.2.2.2.2.2.2.2.2.2.2.1; have h9 := hcat ad; omega) hc hs hd w)
theorem zs_mmin (l : Launch) (D : va_G) : zk_mmin (z_Sem l D) := by
  intro d M pc lv st S o idx x y hd hm hm1 k
  have hcat : ∀ ad : zA, ((st.map (z_tr ad)).map fun v => v.category).sum ≤ 8 := fun ad => by
    rw [List.map_map]
    have e9 : ((fun v : Value => v.category) ∘ z_tr ad) = Value.category := by funext v; exact z_cat v
    rw [e9]
    exact hm1
  exact z_loc k (fun n hl h => by simp only [List.forall_mem_cons, z_ok_int, true_and] at h ⊢; exact h) (fun {p e R s m args below meth c cA A ad H locs ls cells slots Q} C hl hc hs w => va_mmin C.1 C.2.1 (C.2.2.2.1.trans hl.1.symm) C.2.2.2.2.1 (C.2.2.2.2.2.1 _ hm) (C.2.2.2.2.2.1 _ z_mm_min1) (C.2.2.2.2.2.1 _ z_mm_min2) (C.2.2.2.2.2.1 _ z_mm_min3) (by have h8 := C.2.2.2.2.2.2.2.2.2.1; omega) (by have h8 := C.2.2.2.2.2.2.2.2.2.2.1; have h9 := hcat ad; omega) hc hs hd w)
theorem zs_cast (l : Launch) (D : va_G) : zk_cast (z_Sem l D) := by
  intro d M pc lv st S o idx i ci n fs fs0 hd hm hm1 k
  refine ⟨k.1, fun p e R s m args below meth c cA A ad H locs ls cells slots Q C I F hc hs K => ?_⟩
  have hi : 0 < i ∧ i < S.1 := F.2.2.2 (.ref i) List.mem_cons_self
  have he := z_ws_get (ad := ad) (cA := cA) hi
  rw [hm1] at he
  have he : (z_ws ad cA S)[i - 1]? = some (ad.1 i, .inr (ci, fs.map (z_tr ad))) := he
  obtain ⟨r, hr, hn, hcl, -⟩ := hm
  exact va_castE C.1 C.2.1 C.2.2.2.2.1 (C.2.2.2.2.2.1 _ hcl) (va_recv (z_K C) I.1 hr he) hd (k.2 p e R s m args below meth c cA A ad H locs ls cells slots Q C I F hc hs K)
theorem zs_castN (l : Launch) (D : va_G) : zk_castN (z_Sem l D) := by
  intro d M pc lv st S o idx hd  k
  exact z_loc k (fun n hl h => h) (fun C hl hc hs w => lv_castN C.1 C.2.1 hd w)
theorem zs_aastN (l : Launch) (D : va_G) : zk_aastN (z_Sem l D) := by
  intro d M pc lv st S o i n x C9 g hd hm hm1 k
  refine z_stp k (fun n h => by simp only [List.forall_mem_cons] at h ⊢; exact h.2.2.2) (fun {p e R s m args below meth c cA A ad H locs ls cells slots Q} C I F w => ?_)
  have hi : 0 < i ∧ i < S.1 := F.2.2.2 (.ref i) (List.mem_cons_of_mem _ (List.mem_cons_of_mem _ List.mem_cons_self))
  have he := z_ws_get (ad := ad) (cA := cA) hi
  rw [hm] at he
  have he : (z_ws ad cA S)[i - 1]? = some (ad.1 i, .inl (cA (.object C9), n, .inr (.inr (.inr (.inr (fun k => (g k).map ad.1)))))) := he
  have ew : z_trC ad cA (.inl (.object C9, n, .inr (.inr (.inr (.inr (va_up g x.toNatClampNeg none)))))) = .inl (cA (.object C9), n, .inr (.inr (.inr (.inr (va_up (fun k => (g k).map ad.1) x.toNatClampNeg none))))) := by
    show (Sum.inl (cA (.object C9), n, .inr (.inr (.inr (.inr (fun k => (va_up g x.toNatClampNeg none k).map ad.1))))) : va_E) = _
    congr 7
    funext k
    unfold va_up
    split <;> rfl
  have hoc : z_okC S.1 (.inl (.object C9, n, .inr (.inr (.inr (.inr (va_up g x.toNatClampNeg none)))))) := by
    refine ⟨fun k i9 h9 => ?_, trivial⟩
    have h8 := I.2.2.1.2 i hi.2
    rw [hm] at h8
    unfold va_up at h9
    split at h9
    · cases h9
    · exact h8.1 k i9 h9
  exact va_astqN C.1 C.2.1 (z_K1 C (I.2.2.2 i hi.2 _ _ hm)) I.1 I.2.1 F.1 (i - 1) 0 he rfl hm1 hd (fun H1 locs1 hP hD hS => w H1 locs1 (z_In_put hi.1 I (by rw [ew]; exact hP) (by rw [ew]; exact hD) hoc (fun ty a h => by cases h; exact I.2.2.2 i hi.2 _ _ hm)) hS)
theorem zs_gsC (l : Launch) (D : va_G) : zk_gsC (z_Sem l D) := by
  intro d M pc lv st S o idx hd hm k
  refine ⟨k.1, fun p e R s m args below meth c cA A ad H locs ls cells slots Q C I F hc hs K => ?_⟩
  have w := k.2 p e R s m args below meth c cA A ad H locs ls cells slots Q C I ⟨F.1, F.2.1, F.2.2.1, by have h9 := F.2.2.2; simp only [List.forall_mem_cons, z_ok_int, z_ok_long, z_ok_null, z_ok_ra, true_and] at h9 ⊢; first | exact h9 | exact h9.2 | exact h9.2.2⟩ hc hs K
  exact va_gets (v := .int 1) C.1 C.2.1 C.2.2.2.2.2.2.2.2.2.2.2.2.2.2.2.2.1 F.1 C.2.2.2.2.1 (C.2.2.2.2.2.1 _ hm) (fun _ h => h) hd w
theorem zs_gsD (l : Launch) (D : va_G) : zk_gsD (z_Sem l D) := by
  intro d M pc lv st S o idx hd hm k
  refine ⟨k.1, fun p e R s m args below meth c cA A ad H locs ls cells slots Q C I F hc hs K => ?_⟩
  have w := k.2 p e R s m args below meth c cA A ad H locs ls cells slots Q C I ⟨F.1, F.2.1, F.2.2.1, by have h9 := F.2.2.2; simp only [List.forall_mem_cons, z_ok_int, z_ok_long, z_ok_null, z_ok_ra, true_and] at h9 ⊢; first | exact h9 | exact h9.2 | exact h9.2.2⟩ hc hs K
  exact va_gets (v := .ref (ad.2 50)) C.1 C.2.1 C.2.2.2.2.2.2.2.2.2.2.2.2.2.2.2.2.2.1 F.1 C.2.2.2.2.1 (C.2.2.2.2.2.1 _ hm) (fun _ h => h) hd w
theorem zs_gsF (l : Launch) (D : va_G) : zk_gsF (z_Sem l D) := by
  intro d M pc lv st S o idx hd hm k k2
  refine ⟨k.1, fun p e R s m args below meth c cA A ad H locs ls cells slots Q C I F hc hs K => ?_⟩
  have w := k.2 p e R s m args below meth c cA A ad H locs ls cells slots Q C I ⟨F.1, F.2.1, F.2.2.1, by have h9 := F.2.2.2; simp only [List.forall_mem_cons, z_ok_int, z_ok_long, z_ok_null, z_ok_ra, true_and] at h9 ⊢; first | exact h9 | exact h9.2 | exact h9.2.2⟩ hc hs K
  have w2 := k2.2 p e R s m args below meth c cA A ad H locs ls cells slots Q C I ⟨F.1, F.2.1, F.2.2.1, by have h9 := F.2.2.2; simp only [List.forall_mem_cons, z_ok_int, z_ok_long, z_ok_null, z_ok_ra, true_and] at h9 ⊢; first | exact h9 | exact h9.2 | exact h9.2.2⟩ hc hs K
  rcases C.2.2.2.2.2.2.2.2.2.2.2.2.2.2.2.2.2.2.2.1 with h | h
  · exact va_gets (v := .null) C.1 C.2.1 h F.1 C.2.2.2.2.1 (C.2.2.2.2.2.1 _ hm) (fun _ h => h) hd w
  · exact va_gets (v := .ref (ad.2 52)) C.1 C.2.1 h F.1 C.2.2.2.2.1 (C.2.2.2.2.2.1 _ hm) (fun _ h => h) hd w2
theorem zs_gfV (l : Launch) (D : va_G) : zk_gfV (z_Sem l D) := by
  intro d M pc lv st S o idx k9 hd hm hm1 k
  refine ⟨k.1, fun p e R s m args below meth c cA A ad H locs ls cells slots Q C I F hc hs K => ?_⟩
  have w := k.2 p e R s m args below meth c cA A ad H locs ls cells slots Q C I ⟨F.1, F.2.1, F.2.2.1, by have h9 := F.2.2.2; simp only [List.forall_mem_cons, z_ok_int, z_ok_long, z_ok_null, z_ok_ra, true_and] at h9 ⊢; first | exact h9 | exact h9.2 | exact h9.2.2⟩ hc hs K
  exact vk_getf (v := .ref (ad.2 (100 + k9))) (q := ad.2 k9) C.1 C.2.1 (C.2.2.2.2.2.2.2.2.2.2.2.2.2.2.2.1 k9 hm1).2.2.1 F.1 C.2.2.2.2.1 (C.2.2.2.2.2.1 _ hm) (fun _ h => h) hd w
theorem zs_gfC (l : Launch) (D : va_G) : zk_gfC (z_Sem l D) := by
  intro d M pc lv st S o idx k9 hd hm hm1 k
  refine ⟨k.1, fun p e R s m args below meth c cA A ad H locs ls cells slots Q C I F hc hs K => ?_⟩
  have w := k.2 p e R s m args below meth c cA A ad H locs ls cells slots Q C I ⟨F.1, F.2.1, F.2.2.1, by have h9 := F.2.2.2; simp only [List.forall_mem_cons, z_ok_int, z_ok_long, z_ok_null, z_ok_ra, true_and] at h9 ⊢; first | exact h9 | exact h9.2 | exact h9.2.2⟩ hc hs K
  exact vk_getf (v := .int 0) (q := ad.2 k9) C.1 C.2.1 (C.2.2.2.2.2.2.2.2.2.2.2.2.2.2.2.1 k9 hm1).2.1 F.1 C.2.2.2.2.1 (C.2.2.2.2.2.1 _ hm) (fun _ h => h) hd w
theorem zs_alS (l : Launch) (D : va_G) : zk_alS (z_Sem l D) := by
  intro d M pc lv st S o k9 hd hm k
  refine ⟨k.1, fun p e R s m args below meth c cA A ad H locs ls cells slots Q C I F hc hs K => ?_⟩
  have w := k.2 p e R s m args below meth c cA A ad H locs ls cells slots Q C I ⟨F.1, F.2.1, F.2.2.1, by have h9 := F.2.2.2; simp only [List.forall_mem_cons, z_ok_int, z_ok_long, z_ok_null, z_ok_ra, true_and] at h9 ⊢; first | exact h9 | exact h9.2 | exact h9.2.2⟩ hc hs K
  exact va_tlen (t := ad.2 (100 + k9)) C.1 C.2.1 (C.2.2.2.2.2.2.2.2.2.2.2.2.2.2.2.1 k9 hm).2.2.2 F.1 rfl hd w
theorem zs_alD (l : Launch) (D : va_G) : zk_alD (z_Sem l D) := by
  intro d M pc lv st S o  hd  k
  refine ⟨k.1, fun p e R s m args below meth c cA A ad H locs ls cells slots Q C I F hc hs K => ?_⟩
  have w := k.2 p e R s m args below meth c cA A ad H locs ls cells slots Q C I ⟨F.1, F.2.1, F.2.2.1, by have h9 := F.2.2.2; simp only [List.forall_mem_cons, z_ok_int, z_ok_long, z_ok_null, z_ok_ra, true_and] at h9 ⊢; first | exact h9 | exact h9.2 | exact h9.2.2⟩ hc hs K
  exact va_tlen (t := ad.2 50) (v := 0) C.1 C.2.1 C.2.2.2.2.2.2.2.2.2.2.2.2.2.2.2.2.2.2.1 F.1 rfl hd w
theorem zs_baS (l : Launch) (D : va_G) : zk_baS (z_Sem l D) := by
  intro d M pc lv st S o k9 j hd hm hm1 k
  refine ⟨k.1, fun p e R s m args below meth c cA A ad H locs ls cells slots Q C I F hc hs K => ?_⟩
  have w := k.2 p e R s m args below meth c cA A ad H locs ls cells slots Q C I ⟨F.1, F.2.1, F.2.2.1, by have h9 := F.2.2.2; simp only [List.forall_mem_cons, z_ok_int, z_ok_long, z_ok_null, z_ok_ra, true_and] at h9 ⊢; first | exact h9 | exact h9.2 | exact h9.2.2⟩ hc hs K
  have hj : (z_sb k9).length < 2 ^ 31 := z_sb9 k9 hm
  exact va_tb (t := ad.2 (100 + k9)) C.1 C.2.1 (C.2.2.2.2.2.2.2.2.2.2.2.2.2.2.2.1 k9 hm).2.2.2 F.1 (vp_in_nI hm1 hj) (by show Value.int _ = _; rw [nI_clamp (Nat.lt_trans hm1 hj)]; rfl) hd w
theorem zs_acE (l : Launch) (D : va_G) : zk_acE (z_Sem l D) := by
  intro d M pc lv st S o k9 off tgt hd hm k
  refine ⟨k.1, fun p e R s m args below meth c cA A ad H locs ls cells slots Q C I F hc hs K => ?_⟩
  have w := k.2 p e R s m args below meth c cA A ad H locs ls cells slots Q C I ⟨F.1, F.2.1, F.2.2.1, by have h9 := F.2.2.2; simp only [List.forall_mem_cons, z_ok_int, z_ok_long, z_ok_null, z_ok_ra, true_and] at h9 ⊢; first | exact h9 | exact h9.2 | exact h9.2.2⟩ hc hs K
  exact lv_acmp_eq (rx := some (ad.2 k9)) (ry := some (ad.2 k9)) C.1 C.2.1 hd hm (fun _ => w) (fun h => absurd rfl h)
theorem zs_acN (l : Launch) (D : va_G) : zk_acN (z_Sem l D) := by
  intro d M pc lv st S o k9 off tgt hd hm k
  refine ⟨k.1, fun p e R s m args below meth c cA A ad H locs ls cells slots Q C I F hc hs K => ?_⟩
  have w := k.2 p e R s m args below meth c cA A ad H locs ls cells slots Q C I ⟨F.1, F.2.1, F.2.2.1, by have h9 := F.2.2.2; simp only [List.forall_mem_cons, z_ok_int, z_ok_long, z_ok_null, z_ok_ra, true_and] at h9 ⊢; first | exact h9 | exact h9.2 | exact h9.2.2⟩ hc hs K
  first | exact lv_acmp_ne (rx := some (ad.2 k9)) (ry := some (ad.2 k9)) C.1 C.2.1 hd hm (fun h => absurd rfl h) (fun _ => w) | exact lv_acmp_ne (rx := some (ad.2 k9)) (ry := some (ad.2 k9)) C.1 C.2.1 hd hm (fun _ => w) (fun h => absurd rfl h)
theorem zs_ldcM (l : Launch) (D : va_G) : zk_ldcM (z_Sem l D) := by
  intro d M pc lv st S o idx hd hm k
  refine ⟨k.1, fun p e R s m args below meth c cA A ad H locs ls cells slots Q C I F hc hs K => ?_⟩
  have w := k.2 p e R s m args below meth c cA A ad H locs ls cells slots Q C I ⟨F.1, F.2.1, F.2.2.1, by have h9 := F.2.2.2; simp only [List.forall_mem_cons, z_ok_int, z_ok_long, z_ok_null, z_ok_ra, true_and] at h9 ⊢; first | exact h9 | exact h9.2 | exact h9.2.2⟩ hc hs K
  exact va_ldcM (mi := ad.2 51) C.1 C.2.1 C.2.2.2.2.1 (C.2.2.2.2.2.1 _ hm) C.2.2.2.2.2.2.2.2.2.2.2.2.2.2.2.2.2.2.2.2.1 hd w
theorem zs_ldcS (l : Launch) (D : va_G) : zk_ldcS (z_Sem l D) := by
  intro d M pc lv st S o idx k9 hd hm k
  refine ⟨k.1, fun p e R s m args below meth c cA A ad H locs ls cells slots Q C I F hc hs K => ?_⟩
  have w := k.2 p e R s m args below meth c cA A ad H locs ls cells slots Q C I ⟨F.1, F.2.1, F.2.2.1, by have h9 := F.2.2.2; simp only [List.forall_mem_cons, z_ok_int, z_ok_long, z_ok_null, z_ok_ra, true_and] at h9 ⊢; first | exact h9 | exact h9.2 | exact h9.2.2⟩ hc hs K
  obtain ⟨h7, tx, hR⟩ := z_sxR C.2.2.2.2.2.2.2.2.2.2.2.2.2.2 hm.2
  intro T hT X
  obtain ⟨t, a1, b1⟩ := w T hT X
  exact ⟨t, X.ldcStringW C.1 (own := "MacroReader") (text := tx) (index := idx) (a := ad.2 k9) (hm.1 ▸ C.2.2.2.2.1) hR.1 hR.2 (g := F0 m pc ls (st.map (z_tr ad))) rfl (by rw [C.2.1]; exact hd) t a1, b1⟩
theorem zs_getC (l : Launch) (D : va_G) : zk_getC (z_Sem l D) := by
  intro d M pc lv st S o idx i n g hd hm hm1 hm2 k
  refine ⟨k.1, fun p e R s m args below meth c cA A ad H locs ls cells slots Q C I F hc hs K => ?_⟩
  have w := k.2 p e R s m args below meth c cA A ad H locs ls cells slots Q C I ⟨F.1, F.2.1, F.2.2.1, by have h9 := F.2.2.2; simp only [List.forall_mem_cons, z_ok_int, z_ok_long, z_ok_null, z_ok_ra, true_and] at h9 ⊢; first | exact h9 | exact h9.2 | exact h9.2.2⟩ hc hs K
  have hcat : ((st.map (z_tr ad)).map fun v => v.category).sum ≤ 8 := by
    rw [List.map_map]
    have e9 : ((fun v : Value => v.category) ∘ z_tr ad) = Value.category := by funext v; exact z_cat v
    rw [e9]
    exact hm2
  have hi : 0 < i ∧ i < S.1 := F.2.2.2 (.ref i) List.mem_cons_self
  have he := z_ws_get (ad := ad) (cA := cA) hi
  rw [hm1] at he
  have hat := I.1 (i - 1) _ he
  exact va_getC (C := "[Ljava/lang/Object;") (mi := ad.2 51) C.1 C.2.1 (C.2.2.2.1.trans F.2.1.1.symm) C.2.2.2.2.1 (C.2.2.2.2.2.1 _ hm) (va_Nw.use rfl (C.2.2.2.2.2.2.2.2.2.2.2.2.2.2.2.2.2.2.2.2.2.2.2.1 _ z_gc0)) (C.2.2.2.2.2.1 _ z_gc1) (C.2.2.2.2.2.1 _ z_gc2) (C.2.2.2.2.2.1 _ z_gc3) C.2.2.2.2.2.2.2.2.2.2.2.2.2.2.2.2.2.2.2.2.1 ⟨_, hat, rfl, va_nmO (I.2.2.2 i hi.2 _ _ hm1).2 rfl⟩ (by have h8 := C.2.2.2.2.2.2.2.2.2.1; omega) (by have h8 := C.2.2.2.2.2.2.2.2.2.2.1;  omega) hd w
theorem zs_acpI (l : Launch) (D : va_G) : zk_acpI (z_Sem l D) := by
  intro d M pc lv st S o idx i j n N k9 ty f g hd hm hm1 hm2 hm3 hm4 hm5 k
  refine z_stp k (fun n h => by simp only [List.forall_mem_cons] at h ⊢; exact h.2.2.2.2.2) (fun {p e R s m args below meth c cA A ad H locs ls cells slots Q} C I F w => ?_)
  have hcat : ((st.map (z_tr ad)).map fun v => v.category).sum ≤ 8 := by
    rw [List.map_map]
    have e9 : ((fun v : Value => v.category) ∘ z_tr ad) = Value.category := by funext v; exact z_cat v
    rw [e9]
    exact hm4
  
  have hst := F.2.2.2
  simp only [List.forall_mem_cons] at hst
  have hi : 0 < i ∧ i < S.1 := hst.2.2.2.2.1
  have hj : 0 < j ∧ j < S.1 := hst.2.2.1
  have he := z_ws_get (ad := ad) (cA := cA) hi
  rw [hm1] at he
  have hf := z_ws_get (ad := ad) (cA := cA) hj
  rw [hm2] at hf
  have n0 : ¬ (nI k9 : Int32) < 0 := nI_pos hm3.2.2
  have c0 : (0 : Int32).toNatClampNeg = 0 := rfl
  have ck := nI_clamp hm3.2.2
  have hfa : ∀ q, fits ty (.int (f q)) = true := by have h8 := I.2.2.1.2 i hi.2; rw [hm1] at h8; exact h8.2
  have hga : ∀ q, fits ty (.int (g q)) = true := by have h8 := I.2.2.1.2 j hj.2; rw [hm2] at h8; exact h8.2
  have he : (z_ws ad cA S)[i - 1]? = some (ad.1 i, .inl (cA ty, n, .inl f)) := he
  have hf : (z_ws ad cA S)[j - 1]? = some (ad.1 j, .inl (cA ty, N, .inl g)) := hf
  have hfc : z_fa ty (N, .inl (va_cpy f g 0 0 k9)) := fun q => by unfold va_cpy; split; exact hfa _; exact hga _
  refine va_copyi (ty := ty) C.1 C.2.1 (C.2.2.2.1.trans F.2.1.1.symm) C.2.2.2.2.1 (C.2.2.2.2.2.1 _ hm) (C.2.2.2.2.2.1 _ z_ac1) (C.2.2.2.2.2.1 _ z_ac2) (C.2.2.2.2.2.1 _ z_ac3) (z_K1 C (I.2.2.2 i hi.2 _ _ hm1)) I.1 I.2.1 F.1 (i - 1) (j - 1) 0 0 he hf rfl rfl (by rcases hm5 with rfl | rfl <;> rfl) (by decide) (by decide) n0 (by rw [c0, ck]; omega) (by rw [c0, ck]; omega) (fun q _ => hfa _) (by have h8 := C.2.2.2.2.2.2.2.2.2.1; omega) (by have h8 := C.2.2.2.2.2.2.2.2.2.2.1; have hw : nativeFrameWords "java/lang/System" "arraycopy" 5 = 7 := (by decide); omega) hd (fun H1 locs1 hP hD hS => ?_)
  rw [c0, ck] at hP hD
  exact w H1 locs1 (z_In_put hj.1 I hP hD ⟨trivial, hfc⟩ (fun ty a h => by cases h; exact I.2.2.2 i hi.2 _ _ hm1)) hS
theorem zs_acpQ (l : Launch) (D : va_G) : zk_acpQ (z_Sem l D) := by
  intro d M pc lv st S o idx i j n N k9 f g hd hm hm1 hm2 hm3 hm4 hm5 k
  refine z_stp k (fun n h => by simp only [List.forall_mem_cons] at h ⊢; exact h.2.2.2.2.2) (fun {p e R s m args below meth c cA A ad H locs ls cells slots Q} C I F w => ?_)
  have hcat : ((st.map (z_tr ad)).map fun v => v.category).sum ≤ 8 := by
    rw [List.map_map]
    have e9 : ((fun v : Value => v.category) ∘ z_tr ad) = Value.category := by funext v; exact z_cat v
    rw [e9]
    exact hm4
  
  have hst := F.2.2.2
  simp only [List.forall_mem_cons] at hst
  have hi : 0 < i ∧ i < S.1 := hst.2.2.2.2.1
  have hj : 0 < j ∧ j < S.1 := hst.2.2.1
  have he := z_ws_get (ad := ad) (cA := cA) hi
  rw [hm1] at he
  have hf := z_ws_get (ad := ad) (cA := cA) hj
  rw [hm2] at hf
  have n0 : ¬ (nI k9 : Int32) < 0 := nI_pos hm3.2.2
  have c0 : (0 : Int32).toNatClampNeg = 0 := rfl
  have ck := nI_clamp hm3.2.2
  have hfa : ∀ q y, f q = some y → 0 < y ∧ y < S.1 := by have h8 := I.2.2.1.2 i hi.2; rw [hm1] at h8; exact h8.1
  have hga : ∀ q y, g q = some y → 0 < y ∧ y < S.1 := by have h8 := I.2.2.1.2 j hj.2; rw [hm2] at h8; exact h8.1
  have he : (z_ws ad cA S)[i - 1]? = some (ad.1 i, .inl (cA (.object "java/lang/Object"), n, .inr (.inr (.inr (.inr (fun q => (f q).map ad.1)))))) := he
  have hf : (z_ws ad cA S)[j - 1]? = some (ad.1 j, .inl (cA (.object "java/lang/Object"), N, .inr (.inr (.inr (.inr (fun q => (g q).map ad.1)))))) := hf
  have ecp : va_cpy (fun q => (f q).map ad.1) (fun q => (g q).map ad.1) 0 0 k9 = fun q => (va_cpy f g 0 0 k9 q).map ad.1 := by
    funext q
    unfold va_cpy
    split <;> rfl
  refine va_copyM (E0 := "java/lang/Object") (E1 := "java/lang/Object") C.1 C.2.1 (C.2.2.2.1.trans F.2.1.1.symm) C.2.2.2.2.1 (C.2.2.2.2.2.1 _ hm) (C.2.2.2.2.2.1 _ z_ac1) (C.2.2.2.2.2.1 _ z_ac2) (C.2.2.2.2.2.1 _ z_ac3) (z_K1 C (I.2.2.2 i hi.2 _ _ hm1)) I.1 I.2.1 F.1 (i - 1) (j - 1) 0 0 he hf rfl rfl (by decide) (by decide) n0 (by rw [c0, ck]; omega) (by rw [c0, ck]; omega) (fun q hq y hy => ?_) (by have h8 := C.2.2.2.2.2.2.2.2.2.1; omega) (by have h8 := C.2.2.2.2.2.2.2.2.2.2.1; have hw : nativeFrameWords "java/lang/System" "arraycopy" 5 = 7 := (by decide); omega) hd (fun H1 locs1 hP hD hS => ?_)
  · rw [ck] at hq
    rw [c0, Nat.zero_add] at hy
    cases hfq : f q with
    | none => rw [hfq] at hy; cases hy
    | some y0 =>
      rw [hfq] at hy
      cases hy
      obtain ⟨fs, hfs⟩ := hm5 q y0 hq hfq
      have hy0 := hfa q y0 hfq
      have hc0 := z_ws_get (ad := ad) (cA := cA) hy0
      rw [hfs] at hc0
      have hc0 : (z_ws ad cA S)[y0 - 1]? = some (ad.1 y0, .inr (3, fs.map (z_tr ad))) := hc0
      exact va_rAny (z_K C) I.1 hc0 z_cl3 (fun comp c0 h1 h2 => by
        obtain ⟨c3, c4, hc3, hc4, hasg⟩ := Cond.castable_spec (va_Nw.use (A := args) rfl (C.2.2.2.2.2.2.2.2.2.2.2.2.2.2.2.2.2.2.2.2.2.2.2.1 _ z_cm0))
        cases Option.some.inj (hc3.symm.trans h2)
        cases Option.some.inj (hc4.symm.trans h1)
        exact hasg)
  · rw [c0, ck, ecp] at hP hD
    exact w H1 locs1 (z_In_put hj.1 I hP hD ⟨fun q y h => by unfold va_cpy at h; split at h; exact hfa _ y h; exact hga _ y h, trivial⟩ (fun ty a h => by cases h; exact I.2.2.2 i hi.2 _ _ hm1)) hS
theorem zs_aastO (l : Launch) (D : va_G) : zk_aastO (z_Sem l D) := by
  intro d M pc lv st S o i n j x g vs hd hm hm1 hm2 k
  refine z_stp k (fun n h => by simp only [List.forall_mem_cons] at h ⊢; exact h.2.2.2) (fun {p e R s m args below meth c cA A ad H locs ls cells slots Q} C I F w => ?_)
  have hj : 0 < j ∧ j < S.1 := F.2.2.2 (.ref j) List.mem_cons_self
  have hi : 0 < i ∧ i < S.1 := F.2.2.2 (.ref i) (List.mem_cons_of_mem _ (List.mem_cons_of_mem _ List.mem_cons_self))
  have he := z_ws_get (ad := ad) (cA := cA) hi
  rw [hm] at he
  have he : (z_ws ad cA S)[i - 1]? = some (ad.1 i, .inl (cA (.object "java/lang/Object"), n, .inr (.inr (.inr (.inr (fun k => (g k).map ad.1)))))) := he
  have hf := z_ws_get (ad := ad) (cA := cA) hj
  rw [hm2] at hf
  have hf : (z_ws ad cA S)[j - 1]? = some (ad.1 j, .inr (3, vs.map (z_tr ad))) := hf
  have ew : z_trC ad cA (.inl (.object "java/lang/Object", n, .inr (.inr (.inr (.inr (va_up g x.toNatClampNeg (some j))))))) = .inl (cA (.object "java/lang/Object"), n, .inr (.inr (.inr (.inr (va_up (fun k => (g k).map ad.1) x.toNatClampNeg (some (ad.1 j))))))) := by
    show (Sum.inl (cA (.object "java/lang/Object"), n, .inr (.inr (.inr (.inr (fun k => (va_up g x.toNatClampNeg (some j) k).map ad.1))))) : va_E) = _
    congr 7
    funext k
    unfold va_up
    split <;> rfl
  have hoc : z_okC S.1 (.inl (.object "java/lang/Object", n, .inr (.inr (.inr (.inr (va_up g x.toNatClampNeg (some j))))))) := by
    refine ⟨fun k i9 h9 => ?_, trivial⟩
    have h8 := I.2.2.1.2 i hi.2
    rw [hm] at h8
    unfold va_up at h9
    split at h9
    · cases h9; exact hj
    · exact h8.1 k i9 h9
  exact va_astqO (E := "java/lang/Object") (r := (RX2, TX2, 6)) C.1 C.2.1 (z_K1 C (I.2.2.2 i hi.2 _ _ hm)) I.1 I.2.1 F.1 (i - 1) 0 (j - 1) 3 he rfl (C.2.2.2.2.2.2.2.2.2.2.2.2.2.2.2.2.2.2.2.2.2.2.2.1 _ z_cm0) hf z_cl3 hm1 hd (fun H1 locs1 hP hD hS => w H1 locs1 (z_In_put hi.1 I (by rw [ew]; exact hP) (by rw [ew]; exact hD) hoc (fun ty a h => by cases h; exact I.2.2.2 i hi.2 _ _ hm)) hS)
theorem zs_gfm (l : Launch) (D : va_G) : zk_gfm (z_Sem l D) := by
  intro d M pc lv st S o idx i r9 fs v hd hm hm1 hm2 k
  refine ⟨k.1, fun p e R s m args below meth c cA A ad H locs ls cells slots Q C I F hc hs K => ?_⟩
  have hi : 0 < i ∧ i < S.1 := F.2.2.2 (.ref i) List.mem_cons_self
  have he := z_ws_get (ad := ad) (cA := cA) hi
  rw [hm1] at he
  have he : (z_ws ad cA S)[i - 1]? = some (ad.1 i, .inr (0, fs.map (z_tr ad))) := he
  have hov : z_ok S.1 v := by have h8 := I.2.2.1.2 i hi.2; rw [hm1] at h8; exact h8 v (List.mem_of_getElem? hm2)
  have w := k.2 p e R s m args below meth c cA A ad H locs ls cells slots Q C I ⟨F.1, F.2.1, F.2.2.1, by have h9 := F.2.2.2; simp only [List.forall_mem_cons] at h9 ⊢; exact ⟨hov, h9.2⟩⟩ hc hs K
  exact va_get (C := RJx4a65c) (T := TJx4a65c) (N := 3) (ref := r9) (v := z_tr ad v) C.1 C.2.1 C.2.2.2.2.2.1 (z_cls_in z_cl0) C.2.2.2.2.1 (z_K C) I.1 (i - 1) he z_cl0 0 (by decide) (C.2.2.2.2.2.1 _ hm.2) (fun x h => by rcases hm.1 with rfl | rfl; exact u_same (C.2.2.2.2.2.1 _ z_mc0) x h; exact h) (by rw [List.getElem?_map, hm2]; rfl) hd w
theorem zs_pfm (l : Launch) (D : va_G) : zk_pfm (z_Sem l D) := by
  intro d M pc lv st S o idx i r9 fs x hd hm hm1 hm2 k
  refine z_stp k (fun n h => by simp only [List.forall_mem_cons] at h ⊢; exact h.2.2) (fun {p e R s m args below meth c cA A ad H locs ls cells slots Q} C I F w => ?_)
  have hi : 0 < i ∧ i < S.1 := F.2.2.2 (.ref i) (List.mem_cons_of_mem _ List.mem_cons_self)
  have he := z_ws_get (ad := ad) (cA := cA) hi
  rw [hm1] at he
  have he : (z_ws ad cA S)[i - 1]? = some (ad.1 i, .inr (0, fs.map (z_tr ad))) := he
  have hoc : z_okC S.1 (.inr (0, fs.set 0 (.int x))) := by
    intro u hu
    rcases List.mem_or_eq_of_mem_set hu with h | h
    · have h8 := I.2.2.1.2 i hi.2; rw [hm1] at h8; exact h8 u h
    · rw [h]; trivial
  have ew : z_trC ad cA (.inr (0, fs.set 0 (.int x))) = .inr (0, (fs.map (z_tr ad)).set 0 (.int x)) := by
    show (Sum.inr (0, (fs.set 0 (.int x)).map (z_tr ad)) : va_E) = _
    rw [List.map_set]
    rfl
  exact va_put (C := RJx4a65c) (T := TJx4a65c) (N := 3) (ref := r9) (v := .int x) (ty := .int) C.1 C.2.1 C.2.2.2.2.2.1 (z_cls_in z_cl0) (z_ft (RJx4a65c, TJx4a65c, 3)) (z_cls_ty z_cl0) (z_cls_nm z_cl0) C.2.2.2.2.1 (z_K C) I.1 I.2.1 F.1 (i - 1) he z_cl0 0 (by decide) (C.2.2.2.2.2.1 _ hm.2) (fun x h => by rcases hm.1 with rfl | rfl; exact u_same (C.2.2.2.2.2.1 _ z_mc0) x h; exact h) rfl (by decide +kernel) rfl rfl (by rw [List.length_map]; exact hm2) hd (fun H1 locs1 hP hD hS => w H1 locs1 (z_In_put hi.1 I (by rw [ew]; exact hP) (by rw [ew]; exact hD) hoc (fun _ _ h => by cases h)) hS)
theorem zs_anewq (l : Launch) (D : va_G) : zk_anewq (z_Sem l D) := by
  intro d M pc lv st S o idx C9 n N hd hm hm1 hm2 hm3 k
  refine z_stn k (fun h0 h => by simp only [List.forall_mem_cons] at h ⊢; exact ⟨⟨h0, Nat.lt_succ_self _⟩, fun v hv => z_ok_mono (Nat.le_succ _) (h.2 v hv)⟩) (fun {p e R s m args below meth c cA A ad H locs ls cells slots Q} C I F hc hs w => ?_)
  refine va_newq (C := C9) C.1 C.2.1 C.2.2.2.2.1 (C.2.2.2.2.2.1 _ hm.1) (C.2.2.2.2.2.2.2.2.2.2.2.2.2.2.2.2.2.2.2.2.2.1 C9 hm.2) (z_K C) I.1 I.2.1 F.1 C.2.2.2.2.2.2.2.2.2.2.2.2.2.1 hm1 hm2 hm3 hc hs hd (fun q cA9 H1 hK hP hD hS => ?_)
  have hA9 := hK.2 0 (cA9, .object C9) rfl
  have ec : cA (.object C9) = cA9 := C.2.2.2.2.2.2.2.2.2.2.2.2.1 _ _ (va_nmO hA9.2 rfl)
  rw [← ec] at hA9 hP hD
  have w9 := w q H1 (z_In_new (k := N) I hP hD ⟨fun _ _ h => (by cases h), trivial⟩ (fun ty a h => by cases h; exact hA9)) hS
  have e9 : (Value.ref S.1 :: st).map (z_tr (z_up ad S.1 q)) = .ref q :: st.map (z_tr ad) := by
    show Value.ref (va_up ad.1 S.1 q S.1) :: st.map (z_tr (z_up ad S.1 q)) = _
    rw [va_up_self, z_trs_new z_ag_up (fun v hv => F.2.2.2 v (List.mem_cons_of_mem _ hv))]
  rw [e9] at w9
  exact w9
theorem zs_mna (l : Launch) (D : va_G) : zk_mna (z_Sem l D) := by
  intro d M pc lv st S o idx i ty a9 n kq N9 L9 hd hm hm1 hm2 hm3 hm4 hm5 k
  have g1 : S.1 + 1 + N9 ≤ o.2.2.2.1 := k.1.1
  have g2 : S.2.1 + N9 + N9 * L9 ≤ o.2.2.2.2.1 := k.1.2
  refine ⟨⟨by omega, by omega⟩, fun p e R s m args below meth c cA A ad H locs ls cells slots Q C I F hc hs K => ?_⟩
  have hB := I.2.2.2 i hm2.1 ty a9 hm2.2
  have hcy : s.vm.findClass (FieldType.array ty).toString = some (cA ty) := by
    have h := hB.2
    rcases hm1 with rfl | rfl <;> exact h
  have e0 : z_ws ad cA S ++ va_pl [] (fun _ => (.inl (cA ty, (0, .inl fun _ => 0)) : va_E)) = z_ws ad cA S := List.append_nil _
  refine va_mna (X := z_ws ad cA S) (L := []) (f := fun _ => .inl (cA ty, (0, .inl fun _ => 0))) (ty := ty) (cy := cA ty) (z := (L9, .inl (fun _ => 0))) C.1 C.2.1 C.2.2.2.2.1 (C.2.2.2.2.2.1 _ hm.1) (C.2.2.2.2.2.2.2.2.2.2.2.2.2.2.2.2.2.2.2.2.2.2.1 ty hm.2.2) (C.2.2.2.2.2.1 _ hm.2.1) hcy (z_K C) (by rw [e0]; exact I.1) (by rw [e0]; exact I.2.1) F.1 C.2.2.2.2.2.2.2.2.2.2.2.2.2.1 hm3.1 hm3.2 hm4.1 hm4.2 hm5.1 hm5.2.1 hm5.2.2 (by rcases hm1 with rfl | rfl <;> rfl) (by rcases hm1 with rfl | rfl <;> rfl) (by omega) (by omega) (fun c9 => ?_) hd (fun q r cA9 H1 hr1 hr2 hK hP hD hS => ?_)
  · rcases hm1 with rfl | rfl <;> (show ({ cls := c9, slots := Array.replicate L9 (.int 0), vm := .none } : Cell) = _; rw [arrV_new]; rfl)
  have hA9 := hK.2 0 (cA9, .array ty) rfl
  have ec : cA (.array ty) = cA9 := C.2.2.2.2.2.2.2.2.2.2.2.2.1 _ _ hA9.2
  rw [← ec] at hP hD hA9
  rw [z_ws_mna I.2.2.1.1 I.2.2.1.2] at hP hD
  have ea : z_ag S.1 (z_mad ad S.1 q r) ad := ⟨fun j hj => if_pos hj, rfl⟩
  have I1 : z_In D cA (z_mad ad S.1 q r) (z_mna S ty N9 L9) s A H1 := by
    refine ⟨hP, hD, ⟨by show 0 < S.1 + 1 + N9; omega, fun j hj => ?_⟩, fun j hj t9 a8 he => ?_⟩
    · have hj : j < S.1 + 1 + N9 := hj
      show z_okC (S.1 + 1 + N9) ((z_mna S ty N9 L9).2.2 j)
      rcases Nat.lt_trichotomy j S.1 with h | h | h
      · rw [z_mna_lo h]; exact z_okC_mono (by omega) (I.2.2.1.2 j h)
      · rw [h, z_mna_at]; exact ⟨fun q9 i9 h9 => (by
          have h9 : (if q9 < N9 then some (S.1 + 1 + q9) else none) = some i9 := h9
          split at h9
          · cases h9; exact ⟨by omega, by omega⟩
          · cases h9), trivial⟩
      · rw [z_mna_hi h hj]; exact ⟨trivial, fun _ => by rcases hm1 with rfl | rfl <;> rfl⟩
    · have hj : j < S.1 + 1 + N9 := hj
      rcases Nat.lt_trichotomy j S.1 with h | h | h
      · rw [z_mna_lo h] at he; exact I.2.2.2 j h t9 a8 he
      · rw [h, z_mna_at] at he; cases he; exact hA9
      · rw [z_mna_hi h hj] at he; cases he; exact hB
  have hst := F.2.2.2
  simp only [List.forall_mem_cons] at hst
  have w := k.2 p e R s m args below meth c cA A (z_mad ad S.1 q r) H1 locs ls (cells + 1 + N9) (slots + N9 + N9 * L9) Q C I1 ⟨hS, by rw [z_lt_new ea F.2.2.1]; exact F.2.1, fun q hq => z_ok_mono (by show S.1 ≤ S.1 + 1 + N9; omega) (F.2.2.1 q hq), by
    simp only [List.forall_mem_cons]
    exact ⟨⟨I.2.2.1.1, by show S.1 < S.1 + 1 + N9; omega⟩, fun v hv => z_ok_mono (by show S.1 ≤ S.1 + 1 + N9; omega) (hst.2.2 v hv)⟩⟩ (by show cells + 1 + N9 + (o.2.2.2.1 - (S.1 + 1 + N9)) ≤ _; omega) (by show slots + N9 + N9 * L9 + (o.2.2.2.2.1 - (S.2.1 + N9 + N9 * L9)) ≤ _; omega) (fun ad2 H2 locs2 ls2 ha2 I2 F2 => by
    have w9 := K ad2 H2 locs2 ls2 (z_ag_tr ha2 ea (by show S.1 ≤ S.1 + 1 + N9; omega)) I2 F2
    have e1 : cells + 1 + N9 + (o.2.2.2.1 - (S.1 + 1 + N9)) = cells + (o.2.2.2.1 - S.1) := by omega
    have e2 : slots + N9 + N9 * L9 + (o.2.2.2.2.1 - (S.2.1 + N9 + N9 * L9)) = slots + (o.2.2.2.2.1 - S.2.1) := by omega
    show W p l e R s m args below meth c H2 locs2 (cells + 1 + N9 + (o.2.2.2.1 - (S.1 + 1 + N9))) (slots + N9 + N9 * L9 + (o.2.2.2.2.1 - (S.2.1 + N9 + N9 * L9))) Q _
    rw [e1, e2]
    exact w9)
  have e9 : (Value.ref S.1 :: st).map (z_tr (z_mad ad S.1 q r)) = .ref q :: st.map (z_tr ad) := by
    show Value.ref ((z_mad ad S.1 q r).1 S.1) :: st.map (z_tr (z_mad ad S.1 q r)) = _
    rw [z_mad_at, z_trs_new ea hst.2.2]
  rw [e9] at w
  exact w
theorem zs_callS (l : Launch) (D : va_G) : zk_callS (z_Sem l D) := by
  intro d M pc lv st S o idx n M1 as st1 lv1 S1 pc1 r hd h0 h1 h2 h3 h4 k0 k1
  have hg0 : S.1 ≤ S1.1 ∧ S.2.1 ≤ S1.2.1 := k0.1
  have hg1 : S1.1 ≤ o.2.2.2.1 ∧ S1.2.1 ≤ o.2.2.2.2.1 := k1.1
  refine ⟨⟨Nat.le_trans hg0.1 hg1.1, Nat.le_trans hg0.2 hg1.2⟩, fun p e R s m args below meth c cA A ad H locs ls cells slots Q C I F hc hs K => ?_⟩
  obtain ⟨hcode, hini, hdsc, hmx, hpl, hkd⟩ := h0
  have hst : ∀ v ∈ st, z_ok S.1 v := (fun v hv => F.2.2.2 v (List.mem_append_right _ hv))
  have hM := z_met (cA := cA) (ad := ad) (sz := H.size) k0 h4 (fun v hv => F.2.2.2 v (List.mem_append_left _ (List.mem_reverse.mpr hv))) h2 hpl
  have hT := C.2.2.2.2.2.1
  have hcat : ((st.map (z_tr ad)).map fun v => v.category).sum ≤ 8 := by
    rw [List.map_map]
    have e9 : ((fun v : Value => v.category) ∘ z_tr ad) = Value.category := by funext v; exact z_cat v
    rw [e9]
    exact h3
  have estk : (as.reverse ++ st).map (z_tr ad) = ((as.map (z_tr ad)).reverse ++ st.map (z_tr ad)) := by simp [z_tr]
  rw [estk]
  refine z_ret (g := F0 m pc ls ((as.map (z_tr ad)).reverse ++ st.map (z_tr ad))) (a9 := (as.map (z_tr ad)).toArray) rfl C I F.1 F.2.1 F.2.2.1 hst hg0 ?_ k1 hc hs K
  exact va_runS (As := as.map (z_tr ad)) (rest := st.map (z_tr ad)) ⟨C.1, C.2.1, C.2.2.2.1, C.2.2.2.2.1, hT⟩ hM ⟨callB_of n hT (z_good hcode) rfl rfl rfl (hT _ hini) (hT _ hkd.1) hdsc ⟨C.2.2.2.2.2.2.2.2.2.1, by have h9 := C.2.2.2.2.2.2.2.2.2.2.1; show 8 + (M1.2.2.1 + 11) + 40 * d ≤ R.locals; omega⟩, hT _ hkd.2⟩ ⟨z_blind, fun U hU hW => ⟨rfl, z_wd C I F.1 U hU hW⟩⟩ rfl (by rw [List.length_map]; exact h1) F.2.1.1 rfl (lv_room hcat) hd ⟨by show cells + (S1.1 - S.1) ≤ _; omega, by show slots + (S1.2.1 - S.2.1) ≤ _; omega⟩

theorem zs_callSN (l : Launch) (D : va_G) : zk_callSN (z_Sem l D) := by
  intro d M pc lv st S o idx n M1 as st1 lv1 S1 pc1 r hd h0 h1 h2 h3 h4 k0 k1
  have hg0 : S.1 ≤ S1.1 ∧ S.2.1 ≤ S1.2.1 := k0.1
  have hg1 : S1.1 ≤ o.2.2.2.1 ∧ S1.2.1 ≤ o.2.2.2.2.1 := k1.1
  refine ⟨⟨Nat.le_trans hg0.1 hg1.1, Nat.le_trans hg0.2 hg1.2⟩, fun p e R s m args below meth c cA A ad H locs ls cells slots Q C I F hc hs K => ?_⟩
  obtain ⟨hcode, hini, hdsc, hmx, hpl, hkd⟩ := h0
  have hst : ∀ v ∈ st, z_ok S.1 v := (fun v hv => F.2.2.2 v (List.mem_append_right _ hv))
  have hM := z_met (cA := cA) (ad := ad) (sz := H.size) k0 h4 (fun v hv => F.2.2.2 v (List.mem_append_left _ (List.mem_reverse.mpr hv))) h2 hpl
  have hT := C.2.2.2.2.2.1
  have hcat : ((st.map (z_tr ad)).map fun v => v.category).sum ≤ 8 := by
    rw [List.map_map]
    have e9 : ((fun v : Value => v.category) ∘ z_tr ad) = Value.category := by funext v; exact z_cat v
    rw [e9]
    exact h3
  have estk : (as.reverse ++ st).map (z_tr ad) = ((as.map (z_tr ad)).reverse ++ st.map (z_tr ad)) := by simp [z_tr]
  rw [estk]
  refine z_ret (g := F0 m pc ls ((as.map (z_tr ad)).reverse ++ st.map (z_tr ad))) (a9 := (as.map (z_tr ad)).toArray) rfl C I F.1 F.2.1 F.2.2.1 hst hg0 ?_ k1 hc hs K
  exact va_runSN (As := as.map (z_tr ad)) (rest := st.map (z_tr ad)) ⟨C.1, C.2.1, C.2.2.2.1, C.2.2.2.2.1, hT⟩ hM ⟨va_cnB n hT (z_good hcode) rfl rfl rfl (C.2.2.2.2.2.2.1 _ hkd.1) (hT _ hini) hdsc ⟨C.2.2.2.2.2.2.2.2.2.1, by have h9 := C.2.2.2.2.2.2.2.2.2.2.1; show 8 + (M1.2.2.1 + 11) + 40 * d ≤ R.locals; omega⟩, hT _ hkd.2, trivial⟩ ⟨z_blind, fun U hU hW => ⟨rfl, z_wd C I F.1 U hU hW⟩⟩ rfl (by rw [List.length_map]; exact h1) F.2.1.1 rfl (lv_room hcat) hd ⟨by show cells + (S1.1 - S.1) ≤ _; omega, by show slots + (S1.2.1 - S.2.1) ≤ _; omega⟩

theorem zs_callV (l : Launch) (D : va_G) : zk_callV (z_Sem l D) := by
  intro d M pc lv st S o idx n M1 as st1 lv1 S1 pc1 r b ci fs hd h0 h1 h2 h3 h4 h5 h6 k0 k1
  have hg0 : S.1 ≤ S1.1 ∧ S.2.1 ≤ S1.2.1 := k0.1
  have hg1 : S1.1 ≤ o.2.2.2.1 ∧ S1.2.1 ≤ o.2.2.2.2.1 := k1.1
  refine ⟨⟨Nat.le_trans hg0.1 hg1.1, Nat.le_trans hg0.2 hg1.2⟩, fun p e R s m args below meth c cA A ad H locs ls cells slots Q C I F hc hs K => ?_⟩
  obtain ⟨hcode, hini, hdsc, hmx, hpl, hkd⟩ := h0
  have hst : ∀ v ∈ st, z_ok S.1 v := (fun v hv => F.2.2.2 v (List.mem_append_right _ (List.mem_cons_of_mem _ hv)))
  have hM := z_met (cA := cA) (ad := ad) (sz := H.size) k0 h4 (fun v hv => by rcases List.mem_cons.mp hv with rfl | hv; exact F.2.2.2 (.ref b) (List.mem_append_right _ List.mem_cons_self); exact F.2.2.2 v (List.mem_append_left _ (List.mem_reverse.mpr hv))) h2 hpl
  have hT := C.2.2.2.2.2.1
  have hcat : ((st.map (z_tr ad)).map fun v => v.category).sum ≤ 8 := by
    rw [List.map_map]
    have e9 : ((fun v : Value => v.category) ∘ z_tr ad) = Value.category := by funext v; exact z_cat v
    rw [e9]
    exact h3
  have estk : (as.reverse ++ .ref b :: st).map (z_tr ad) = ((as.map (z_tr ad)).reverse ++ .ref (ad.1 b) :: st.map (z_tr ad)) := by simp [z_tr]
  rw [estk]
  refine z_ret (g := F0 m pc ls ((as.map (z_tr ad)).reverse ++ .ref (ad.1 b) :: st.map (z_tr ad))) (a9 := (Value.ref (ad.1 b) :: as.map (z_tr ad)).toArray) rfl C I F.1 F.2.1 F.2.2.1 hst hg0 ?_ k1 hc hs K
  have hbi : 0 < b ∧ b < S.1 := F.2.2.2 (.ref b) (List.mem_append_right _ List.mem_cons_self)
  have he := z_ws_get (ad := ad) (cA := cA) hbi
  rw [h5] at he
  have he : (z_ws ad cA S)[b - 1]? = some (ad.1 b, .inr (ci, fs.map (z_tr ad))) := he
  obtain ⟨rc, hrc, hrn⟩ : ∃ rc, vwCl[ci]? = some rc ∧ rc.1 = M1.1.cls := by
    cases hv9 : vwCl[ci]? with
    | none => rw [hv9] at h6; cases h6
    | some rc => rw [hv9] at h6; exact ⟨rc, rfl, Option.some.inj h6⟩
  have hrec := va_recv (z_K C) I.1 hrc he
  rw [hrn] at hrec
  exact va_runV (C := M1.1.cls) (b := ad.1 b) (As := as.map (z_tr ad)) (rest := st.map (z_tr ad)) ⟨C.1, C.2.1, C.2.2.2.1, C.2.2.2.2.1, hT⟩ hM ⟨callB_of n hT (z_good hcode) rfl rfl rfl (hT _ hini) (hT _ hkd.1) hdsc ⟨C.2.2.2.2.2.2.2.2.2.1, by have h9 := C.2.2.2.2.2.2.2.2.2.2.1; show 8 + (M1.2.2.1 + 11) + 40 * d ≤ R.locals; omega⟩, hT _ hkd.2.1, hT _ hkd.2.2⟩ ⟨z_blind, hrec, fun U hU hW => ⟨rfl, z_wd C I F.1 U hU hW⟩⟩ rfl (by rw [List.length_map]; exact h1) F.2.1.1 rfl (lv_room hcat) hd ⟨by show cells + (S1.1 - S.1) ≤ _; omega, by show slots + (S1.2.1 - S.2.1) ≤ _; omega⟩

theorem zs_callI (l : Launch) (D : va_G) : zk_callI (z_Sem l D) := by
  intro d M pc lv st S o idx n M1 as st1 lv1 S1 pc1 r b hd h0 h1 h2 h3 h4 k0 k1
  have hg0 : S.1 ≤ S1.1 ∧ S.2.1 ≤ S1.2.1 := k0.1
  have hg1 : S1.1 ≤ o.2.2.2.1 ∧ S1.2.1 ≤ o.2.2.2.2.1 := k1.1
  refine ⟨⟨Nat.le_trans hg0.1 hg1.1, Nat.le_trans hg0.2 hg1.2⟩, fun p e R s m args below meth c cA A ad H locs ls cells slots Q C I F hc hs K => ?_⟩
  obtain ⟨hcode, hini, hdsc, hmx, hpl, hkd⟩ := h0
  have hst : ∀ v ∈ st, z_ok S.1 v := (fun v hv => F.2.2.2 v (List.mem_append_right _ (List.mem_cons_of_mem _ hv)))
  have hM := z_met (cA := cA) (ad := ad) (sz := H.size) k0 h4 (fun v hv => by rcases List.mem_cons.mp hv with rfl | hv; exact F.2.2.2 (.ref b) (List.mem_append_right _ List.mem_cons_self); exact F.2.2.2 v (List.mem_append_left _ (List.mem_reverse.mpr hv))) h2 hpl
  have hT := C.2.2.2.2.2.1
  have hcat : ((st.map (z_tr ad)).map fun v => v.category).sum ≤ 8 := by
    rw [List.map_map]
    have e9 : ((fun v : Value => v.category) ∘ z_tr ad) = Value.category := by funext v; exact z_cat v
    rw [e9]
    exact h3
  have estk : (as.reverse ++ .ref b :: st).map (z_tr ad) = ((as.map (z_tr ad)).reverse ++ .ref (ad.1 b) :: st.map (z_tr ad)) := by simp [z_tr]
  rw [estk]
  refine z_ret (g := F0 m pc ls ((as.map (z_tr ad)).reverse ++ .ref (ad.1 b) :: st.map (z_tr ad))) (a9 := (Value.ref (ad.1 b) :: as.map (z_tr ad)).toArray) rfl C I F.1 F.2.1 F.2.2.1 hst hg0 ?_ k1 hc hs K
  have hn9 : M1.2.2.2 = none := hkd.2.2.2
  exact va_runI (b := ad.1 b) (As := as.map (z_tr ad)) (rest := st.map (z_tr ad)) ⟨C.1, C.2.1, C.2.2.2.1, C.2.2.2.2.1, hT⟩ hM ⟨by rw [← hn9]; exact callB_of n hT (z_good hcode) rfl rfl rfl (hT _ hini) (hT _ hkd.1) hdsc ⟨C.2.2.2.2.2.2.2.2.2.1, by have h9 := C.2.2.2.2.2.2.2.2.2.2.1; show 8 + (M1.2.2.1 + 11) + 40 * d ≤ R.locals; omega⟩, hkd.2.2.1, hT _ hkd.2.1⟩ ⟨z_blind, fun U hU hW => ⟨rfl, z_wd C I F.1 U hU hW⟩⟩ rfl (by rw [List.length_map]; exact h1) F.2.1.1 rfl (lv_room hcat) hd ⟨by show cells + (S1.1 - S.1) ≤ _; omega, by show slots + (S1.2.1 - S.2.1) ≤ _; omega⟩

theorem zs_callIN (l : Launch) (D : va_G) : zk_callIN (z_Sem l D) := by
  intro d M pc lv st S o idx n M1 as st1 lv1 S1 pc1 r b hd h0 h1 h2 h3 h4 k0 k1
  have hg0 : S.1 ≤ S1.1 ∧ S.2.1 ≤ S1.2.1 := k0.1
  have hg1 : S1.1 ≤ o.2.2.2.1 ∧ S1.2.1 ≤ o.2.2.2.2.1 := k1.1
  refine ⟨⟨Nat.le_trans hg0.1 hg1.1, Nat.le_trans hg0.2 hg1.2⟩, fun p e R s m args below meth c cA A ad H locs ls cells slots Q C I F hc hs K => ?_⟩
  obtain ⟨hcode, hini, hdsc, hmx, hpl, hkd⟩ := h0
  have hst : ∀ v ∈ st, z_ok S.1 v := (fun v hv => F.2.2.2 v (List.mem_append_right _ (List.mem_cons_of_mem _ hv)))
  have hM := z_met (cA := cA) (ad := ad) (sz := H.size) k0 h4 (fun v hv => by rcases List.mem_cons.mp hv with rfl | hv; exact F.2.2.2 (.ref b) (List.mem_append_right _ List.mem_cons_self); exact F.2.2.2 v (List.mem_append_left _ (List.mem_reverse.mpr hv))) h2 hpl
  have hT := C.2.2.2.2.2.1
  have hcat : ((st.map (z_tr ad)).map fun v => v.category).sum ≤ 8 := by
    rw [List.map_map]
    have e9 : ((fun v : Value => v.category) ∘ z_tr ad) = Value.category := by funext v; exact z_cat v
    rw [e9]
    exact h3
  have estk : (as.reverse ++ .ref b :: st).map (z_tr ad) = ((as.map (z_tr ad)).reverse ++ .ref (ad.1 b) :: st.map (z_tr ad)) := by simp [z_tr]
  rw [estk]
  refine z_ret (g := F0 m pc ls ((as.map (z_tr ad)).reverse ++ .ref (ad.1 b) :: st.map (z_tr ad))) (a9 := (Value.ref (ad.1 b) :: as.map (z_tr ad)).toArray) rfl C I F.1 F.2.1 F.2.2.1 hst hg0 ?_ k1 hc hs K
  have hn9 : M1.2.2.2 = none := hkd.2.2.2
  exact va_runIN (b := ad.1 b) (As := as.map (z_tr ad)) (rest := st.map (z_tr ad)) ⟨C.1, C.2.1, C.2.2.2.1, C.2.2.2.2.1, hT⟩ hM ⟨by rw [← hn9]; exact va_cnB n hT (z_good hcode) rfl rfl rfl (C.2.2.2.2.2.2.1 _ hkd.1) (hT _ hini) hdsc ⟨C.2.2.2.2.2.2.2.2.2.1, by have h9 := C.2.2.2.2.2.2.2.2.2.2.1; show 8 + (M1.2.2.1 + 11) + 40 * d ≤ R.locals; omega⟩, hkd.2.2.1, hT _ hkd.2.1⟩ ⟨z_blind, fun U hU hW => ⟨rfl, z_wd C I F.1 U hU hW⟩⟩ rfl (by rw [List.length_map]; exact h1) F.2.1.1 rfl (lv_room hcat) hd ⟨by show cells + (S1.1 - S.1) ≤ _; omega, by show slots + (S1.2.1 - S.2.1) ≤ _; omega⟩

theorem zs_callVS (l : Launch) (D : va_G) : zk_callVS (z_Sem l D) := by
  intro d M pc lv st S o idx n M1 as st1 lv1 S1 pc1 r b hd h0 h1 h2 h3 h4 h5 h6 k0 k1
  have hg0 : S.1 ≤ S1.1 ∧ S.2.1 ≤ S1.2.1 := k0.1
  have hg1 : S1.1 ≤ o.2.2.2.1 ∧ S1.2.1 ≤ o.2.2.2.2.1 := k1.1
  refine ⟨⟨Nat.le_trans hg0.1 hg1.1, Nat.le_trans hg0.2 hg1.2⟩, fun p e R s m args below meth c cA A ad H locs ls cells slots Q C I F hc hs K => ?_⟩
  obtain ⟨hcode, hini, hdsc, hmx, hpl, hkd⟩ := h0
  have hst : ∀ v ∈ st, z_ok S.1 v := (fun v hv => F.2.2.2 v (List.mem_append_right _ (List.mem_cons_of_mem _ hv)))
  have hM := z_met (cA := cA) (ad := ad) (sz := H.size) k0 h4 (fun v hv => by rcases List.mem_cons.mp hv with rfl | hv; trivial; exact F.2.2.2 v (List.mem_append_left _ (List.mem_reverse.mpr hv))) h2 hpl
  have hT := C.2.2.2.2.2.1
  have hcat : ((st.map (z_tr ad)).map fun v => v.category).sum ≤ 8 := by
    rw [List.map_map]
    have e9 : ((fun v : Value => v.category) ∘ z_tr ad) = Value.category := by funext v; exact z_cat v
    rw [e9]
    exact h3
  have estk : (as.reverse ++ .retAddr b :: st).map (z_tr ad) = ((as.map (z_tr ad)).reverse ++ .ref (ad.2 b) :: st.map (z_tr ad)) := by simp [z_tr]
  rw [estk]
  refine z_ret (g := F0 m pc ls ((as.map (z_tr ad)).reverse ++ .ref (ad.2 b) :: st.map (z_tr ad))) (a9 := (Value.ref (ad.2 b) :: as.map (z_tr ad)).toArray) rfl C I F.1 F.2.1 F.2.2.1 hst hg0 ?_ k1 hc hs K
  have hrec := va_Orecv (C.2.2.2.2.2.2.2.2.2.2.2.2.2.2.2.1 b h5).1 F.1
  rw [← h6] at hrec
  exact va_runV (C := M1.1.cls) (b := ad.2 b) (As := as.map (z_tr ad)) (rest := st.map (z_tr ad)) ⟨C.1, C.2.1, C.2.2.2.1, C.2.2.2.2.1, hT⟩ hM ⟨callB_of n hT (z_good hcode) rfl rfl rfl (hT _ hini) (hT _ hkd.1) hdsc ⟨C.2.2.2.2.2.2.2.2.2.1, by have h9 := C.2.2.2.2.2.2.2.2.2.2.1; show 8 + (M1.2.2.1 + 11) + 40 * d ≤ R.locals; omega⟩, hT _ hkd.2.1, hT _ hkd.2.2⟩ ⟨z_blind, hrec, fun U hU hW => ⟨rfl, z_wd C I F.1 U hU hW⟩⟩ rfl (by rw [List.length_map]; exact h1) F.2.1.1 rfl (lv_room hcat) hd ⟨by show cells + (S1.1 - S.1) ≤ _; omega, by show slots + (S1.2.1 - S.2.1) ≤ _; omega⟩

theorem zs_refl (l : Launch) (D : va_G) (d : Nat) (M : zM) (pc : Nat) (lv : zL) (st : List Value) (S : zS) : z_Sem l D d M pc lv st S (pc, lv, st, S) :=
  ⟨⟨Nat.le_refl _, Nat.le_refl _⟩, fun p e R s m args below meth c cA A ad H locs ls cells slots Q C I F hc hs k => by
    have h := k ad H locs ls z_ag_rf I F
    simp only [Nat.sub_self, Nat.add_zero] at h
    exact h⟩
theorem z_sound (l : Launch) (D : va_G) : z_Cl (z_Sem l D) := ⟨zs_refl l D, zs_iconst l D, zs_bipush l D, zs_sipush l D, zs_lconst l D, zs_aconst l D, zs_iload_n l D, zs_iload l D, zs_lload_n l D, zs_lload l D, zs_aload_n l D, zs_aload l D, zs_aload_nN l D, zs_aloadN l D, zs_aload_nS l D, zs_aloadS l D, zs_istore_n l D, zs_istore l D, zs_lstore_n l D, zs_lstore l D, zs_astore_n l D, zs_astore l D, zs_astore_nS l D, zs_astoreS l D, zs_astore_nN l D, zs_astoreN l D, zs_iinc l D, zs_iadd l D, zs_isub l D, zs_imul l D, zs_iand l D, zs_ior l D, zs_ixor l D, zs_ishl l D, zs_ishr l D, zs_idiv l D, zs_irem l D, zs_ladd l D, zs_lsub l D, zs_lmul l D, zs_land l D, zs_lor l D, zs_lxor l D, zs_ineg l D, zs_iushr l D, zs_lushr l D, zs_lshl l D, zs_lshr l D, zs_i2l l D, zs_l2i l D, zs_i2b l D, zs_i2c l D, zs_dup l D, zs_pop l D, zs_dup2 l D, zs_if_eq l D, zs_icmp_eq l D, zs_if_ne l D, zs_icmp_ne l D, zs_if_lt l D, zs_icmp_lt l D, zs_if_ge l D, zs_icmp_ge l D, zs_if_gt l D, zs_icmp_gt l D, zs_if_le l D, zs_icmp_le l D, zs_goto l D, zs_ifnull l D, zs_ifnullN l D, zs_ifnonnull l D, zs_ifnonnullN l D, zs_lookup l D, zs_tableIn l D, zs_tableOut l D, zs_getf l D, zs_putf l D, zs_putF l D, zs_putS l D, zs_bald l D, zs_zald l D, zs_iald l D, zs_lald l D, zs_aald l D, zs_bast l D, zs_zast l D, zs_iast l D, zs_last l D, zs_aast l D, zs_alen l D, zs_new l D, zs_newi l D, zs_newb l D, zs_newz l D, zs_newl l D, zs_ldc l D, zs_ldcw l D, zs_ldc2 l D, zs_lcmp l D, zs_dup_x1 l D, zs_objInit l D, zs_mmax l D, zs_mmin l D, zs_cast l D, zs_castN l D, zs_aastN l D, zs_gsC l D, zs_gsD l D, zs_gsF l D, zs_gfV l D, zs_gfC l D, zs_alS l D, zs_alD l D, zs_baS l D, zs_acE l D, zs_acN l D, zs_ldcM l D, zs_ldcS l D, zs_getC l D, zs_acpI l D, zs_acpQ l D, zs_aastO l D, zs_gfm l D, zs_pfm l D, zs_anewq l D, zs_mna l D, zs_callS l D, zs_callSN l D, zs_callV l D, zs_callI l D, zs_callIN l D, zs_callVS l D⟩
