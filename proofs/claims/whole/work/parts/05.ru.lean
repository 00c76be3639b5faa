
/-- 'from here the run comes to a place where Q holds'; L: what is known of the locals -/
def Ru (d : Nat) (M : zM) (pc : Nat) (L : Nat → Option Value) (st : List Value) (S : zS) (Q : Nat → List Value → zS → Prop) : Prop := ∀ lv : zL, (∀ j v, L j = some v → (j, v) ∈ lv) → ∃ o : zO, z_Ex d M pc lv st S o ∧ Q o.1 o.2.2.1 o.2.2.2
/-- a call's contract -/
def Rc (d : Nat) (M : zM) (as : List Value) (S : zS) (Qc : Option Value → zS → Prop) : Prop := ∃ (o : zO) (r : Option Value), z_Ex d M 0 (lv_args 0 as) [] S o ∧ z_rt M o.1 o.2.2.1 r ∧ Qc r o.2.2.2
def z_en (M : zM) (Qc : Option Value → zS → Prop) : Nat → List Value → zS → Prop := fun pc st S => ∃ r, z_rt M pc st r ∧ Qc r S
def z_lf : zL → Nat → Option Value
  | [], _ => none
  | q :: l, j => if j = q.1 then some q.2 else z_lf l j
theorem z_lf_mem : ∀ (lv : zL) (j : Nat) (v : Value), z_lf lv j = some v → (j, v) ∈ lv
  | [], _, _, h => by cases h
  | q :: l, j, v, h => by
    unfold z_lf at h
    split at h
    · next e => cases h; subst e; exact List.mem_cons_self
    · exact List.mem_cons_of_mem _ (z_lf_mem l j v h)
theorem Rc.of {d : Nat} {M : zM} {as : List Value} {S : zS} {Qc : Option Value → zS → Prop} (k : Ru d M 0 (z_lf (lv_args 0 as)) [] S (z_en M Qc)) : Rc d M as S Qc := by
  obtain ⟨o, h, r, h1, h2⟩ := k (lv_args 0 as) (z_lf_mem _)
  exact ⟨o, r, h, h1, h2⟩
theorem Rc.mono {d : Nat} {M : zM} {as : List Value} {S : zS} {Q1 Q2 : Option Value → zS → Prop} (h : Rc d M as S Q1) (hq : ∀ r S1, Q1 r S1 → Q2 r S1) : Rc d M as S Q2 := by
  obtain ⟨o, r, h1, h2, h3⟩ := h
  exact ⟨o, r, h1, h2, hq _ _ h3⟩
theorem Ru.weak {d : Nat} {M : zM} {pc : Nat} {L L' : Nat → Option Value} {st : List Value} {S : zS} {Q : Nat → List Value → zS → Prop} (k : Ru d M pc L st S Q) (h : ∀ j v, L j = some v → L' j = some v) : Ru d M pc L' st S Q := fun lv hl => k lv (fun j v hj => hl j v (h j v hj))
theorem Ru.here {d : Nat} {M : zM} {pc : Nat} {L : Nat → Option Value} {st : List Value} {S : zS} {Q : Nat → List Value → zS → Prop} (h : Q pc st S) : Ru d M pc L st S Q := fun lv _ => ⟨(pc, lv, st, S), zr_refl, h⟩
def z_c1 (v : Option Value) : Prop := ∀ u, v = some u → ¬ u.category = 2
def z_s1 (L : Nat → Option Value) (i : Nat) (v : Value) : Nat → Option Value := fun k => if k = i then some v else L k
def z_s2 (L : Nat → Option Value) (i : Nat) (v : Value) : Nat → Option Value := fun k => if k = i then some v else if k = i + 1 then none else L k
theorem z_s1_ok {L : Nat → Option Value} {lv : zL} {i : Nat} {v : Value} (hl : ∀ j v, L j = some v → (j, v) ∈ lv) (hp : z_c1 (L (i - 1))) : ∀ j u, z_s1 L i v j = some u → (j, u) ∈ (i, v) :: z_k1 i lv := by
  intro j u h
  unfold z_s1 at h
  split at h
  · next e => cases h; subst e; exact List.mem_cons_self
  · next e =>
    refine List.mem_cons_of_mem _ (List.mem_filter.mpr ⟨hl j u h, ?_⟩)
    have h2 : ¬ (j + 1 = i ∧ u.category = 2) := fun ⟨a, b⟩ => hp u (by rw [show i - 1 = j by omega]; exact h) b
    simp [e]
    exact Decidable.not_and_iff_not_or_not.mp h2
theorem z_s2_ok {L : Nat → Option Value} {lv : zL} {i : Nat} {v : Value} (hl : ∀ j v, L j = some v → (j, v) ∈ lv) (hp : z_c1 (L (i - 1))) : ∀ j u, z_s2 L i v j = some u → (j, u) ∈ (i, v) :: z_k2 i lv := by
  intro j u h
  unfold z_s2 at h
  split at h
  · next e => cases h; subst e; exact List.mem_cons_self
  · next e =>
    split at h
    · cases h
    · next e2 =>
      refine List.mem_cons_of_mem _ (List.mem_filter.mpr ⟨hl j u h, ?_⟩)
      have h2 : ¬ (j + 1 = i ∧ u.category = 2) := fun ⟨a, b⟩ => hp u (by rw [show i - 1 = j by omega]; exact h) b
      simp [e, e2]
      exact Decidable.not_and_iff_not_or_not.mp h2
theorem z_c1_i {L : Nat → Option Value} {i : Nat} {x : Int32} (h : L i = some (.int x)) : z_c1 (L i) := fun u hu => by rw [h] at hu; cases hu; exact (by simp [Value.category])
theorem z_c1_r {L : Nat → Option Value} {i : Nat} {x : Nat} (h : L i = some (.ref x)) : z_c1 (L i) := fun u hu => by rw [h] at hu; cases hu; exact (by simp [Value.category])
theorem z_c1_n {L : Nat → Option Value} {i : Nat} (h : L i = some .null) : z_c1 (L i) := fun u hu => by rw [h] at hu; cases hu; exact (by simp [Value.category])
theorem z_c1_c {L : Nat → Option Value} {i : Nat} {x : Nat} (h : L i = some (.retAddr x)) : z_c1 (L i) := fun u hu => by rw [h] at hu; cases hu; exact (by simp [Value.category])
theorem z_c1_0 {L : Nat → Option Value} {i : Nat} (h : L i = none) : z_c1 (L i) := fun u hu => by rw [h] at hu; cases hu
section
variable {d : Nat} {M : zM} {pc : Nat} {L : Nat → Option Value} {st : List Value} {S : zS} {Q : Nat → List Value → zS → Prop} {Qc : Option Value → zS → Prop}
theorem r_ireturn {x : Int32} (hd : decode M.2.1 pc = .ok (.ireturn, 1)) (ty : FieldType) (hM : M.2.2.2 = some ty) (hn : narrow ty (.int x) = .int x) (hq : Qc (some (.int x)) S) : Ru d M pc L [.int x] S (z_en M Qc) := Ru.here ⟨_, Or.inr (Or.inl ⟨hd, x, ty, hM, hn, rfl, rfl⟩), hq⟩
theorem r_lreturn {x : Int64} (hd : decode M.2.1 pc = .ok (.lreturn, 1)) (hM : M.2.2.2 = some .long) (hq : Qc (some (.long x)) S) : Ru d M pc L [.long x] S (z_en M Qc) := Ru.here ⟨_, Or.inr (Or.inr (Or.inl ⟨hd, x, hM, rfl, rfl⟩)), hq⟩
theorem r_areturn {v : Value} (hd : decode M.2.1 pc = .ok (.areturn, 1)) (rt : FieldType) (hM : M.2.2.2 = some rt) (hr : (∃ n, rt = .object n) ∨ ∃ t, rt = .array t) (hv : v = .null ∨ (∃ a, v = .ref a) ∨ ∃ k, v = .retAddr k) (hq : Qc (some v) S) : Ru d M pc L [v] S (z_en M Qc) := Ru.here ⟨_, Or.inr (Or.inr (Or.inr ⟨hd, v, rt, hM, hr, hv, rfl, rfl⟩)), hq⟩
theorem r_return (hd : decode M.2.1 pc = .ok (.return_, 1)) (hM : M.2.2.2 = none) (hq : Qc none S) : Ru d M pc L [] S (z_en M Qc) := Ru.here ⟨_, Or.inl ⟨hd, hM, rfl, rfl⟩, hq⟩
theorem r_iconst {n : Int} (hd : decode M.2.1 pc = .ok (.iconst n, 1))  (k : Ru d M (pc + 1) L (.int (Int32.ofInt n) :: st) S Q) : Ru d M pc L (st) S Q := fun lv hl => let ⟨o, h, q⟩ := k lv hl; ⟨o, zr_iconst hd  h, q⟩
theorem r_bipush {n : Int} (hd : decode M.2.1 pc = .ok (.bipush n, 2))  (k : Ru d M (pc + 2) L (.int (Int8.ofInt n).toInt32 :: st) S Q) : Ru d M pc L (st) S Q := fun lv hl => let ⟨o, h, q⟩ := k lv hl; ⟨o, zr_bipush hd  h, q⟩
theorem r_sipush {n : Int} (hd : decode M.2.1 pc = .ok (.sipush n, 3))  (k : Ru d M (pc + 3) L (.int (Int16.ofInt n).toInt32 :: st) S Q) : Ru d M pc L (st) S Q := fun lv hl => let ⟨o, h, q⟩ := k lv hl; ⟨o, zr_sipush hd  h, q⟩
theorem r_lconst {n : Fin 2} (hd : decode M.2.1 pc = .ok (.lconst n, 1))  (k : Ru d M (pc + 1) L (.long (Int64.ofNat (n : Nat)) :: st) S Q) : Ru d M pc L (st) S Q := fun lv hl => let ⟨o, h, q⟩ := k lv hl; ⟨o, zr_lconst hd  h, q⟩
theorem r_aconst  (hd : decode M.2.1 pc = .ok (.aconst_null, 1))  (k : Ru d M (pc + 1) L (.null :: st) S Q) : Ru d M pc L (st) S Q := fun lv hl => let ⟨o, h, q⟩ := k lv hl; ⟨o, zr_aconst hd  h, q⟩
theorem r_iload_n {j : Fin 4} {x : Int32} (hd : decode M.2.1 pc = .ok (.iload_n j, 1)) (h0 : L (j : Nat) = some (Value.int x)) (k : Ru d M (pc + 1) L (.int x :: st) S Q) : Ru d M pc L (st) S Q := fun lv hl => let ⟨o, h, q⟩ := k lv hl; ⟨o, zr_iload_n hd (hl _ _ h0) h, q⟩
theorem r_iload {i : Nat} {x : Int32} (hd : decode M.2.1 pc = .ok (.iload i, 2)) (h0 : L i = some (Value.int x)) (k : Ru d M (pc + 2) L (.int x :: st) S Q) : Ru d M pc L (st) S Q := fun lv hl => let ⟨o, h, q⟩ := k lv hl; ⟨o, zr_iload hd (hl _ _ h0) h, q⟩
theorem r_lload_n {j : Fin 4} {x : Int64} (hd : decode M.2.1 pc = .ok (.lload_n j, 1)) (h0 : L (j : Nat) = some (Value.long x)) (k : Ru d M (pc + 1) L (.long x :: st) S Q) : Ru d M pc L (st) S Q := fun lv hl => let ⟨o, h, q⟩ := k lv hl; ⟨o, zr_lload_n hd (hl _ _ h0) h, q⟩
theorem r_lload {i : Nat} {x : Int64} (hd : decode M.2.1 pc = .ok (.lload i, 2)) (h0 : L i = some (Value.long x)) (k : Ru d M (pc + 2) L (.long x :: st) S Q) : Ru d M pc L (st) S Q := fun lv hl => let ⟨o, h, q⟩ := k lv hl; ⟨o, zr_lload hd (hl _ _ h0) h, q⟩
theorem r_aload_n {j : Fin 4} {x : Nat} (hd : decode M.2.1 pc = .ok (.aload_n j, 1)) (h0 : L (j : Nat) = some (Value.ref x)) (k : Ru d M (pc + 1) L (.ref x :: st) S Q) : Ru d M pc L (st) S Q := fun lv hl => let ⟨o, h, q⟩ := k lv hl; ⟨o, zr_aload_n hd (hl _ _ h0) h, q⟩
theorem r_aload {i : Nat} {x : Nat} (hd : decode M.2.1 pc = .ok (.aload i, 2)) (h0 : L i = some (Value.ref x)) (k : Ru d M (pc + 2) L (.ref x :: st) S Q) : Ru d M pc L (st) S Q := fun lv hl => let ⟨o, h, q⟩ := k lv hl; ⟨o, zr_aload hd (hl _ _ h0) h, q⟩
theorem r_aload_nN {j : Fin 4} (hd : decode M.2.1 pc = .ok (.aload_n j, 1)) (h0 : L (j : Nat) = some (Value.null)) (k : Ru d M (pc + 1) L (.null :: st) S Q) : Ru d M pc L (st) S Q := fun lv hl => let ⟨o, h, q⟩ := k lv hl; ⟨o, zr_aload_nN hd (hl _ _ h0) h, q⟩
theorem r_aloadN {i : Nat} (hd : decode M.2.1 pc = .ok (.aload i, 2)) (h0 : L i = some (Value.null)) (k : Ru d M (pc + 2) L (.null :: st) S Q) : Ru d M pc L (st) S Q := fun lv hl => let ⟨o, h, q⟩ := k lv hl; ⟨o, zr_aloadN hd (hl _ _ h0) h, q⟩
theorem r_aload_nS {j : Fin 4} {x : Nat} (hd : decode M.2.1 pc = .ok (.aload_n j, 1)) (h0 : L (j : Nat) = some (Value.retAddr x)) (k : Ru d M (pc + 1) L (.retAddr x :: st) S Q) : Ru d M pc L (st) S Q := fun lv hl => let ⟨o, h, q⟩ := k lv hl; ⟨o, zr_aload_nS hd (hl _ _ h0) h, q⟩
theorem r_aloadS {i : Nat} {x : Nat} (hd : decode M.2.1 pc = .ok (.aload i, 2)) (h0 : L i = some (Value.retAddr x)) (k : Ru d M (pc + 2) L (.retAddr x :: st) S Q) : Ru d M pc L (st) S Q := fun lv hl => let ⟨o, h, q⟩ := k lv hl; ⟨o, zr_aloadS hd (hl _ _ h0) h, q⟩
theorem r_istore_n {j : Fin 4} {x : Int32} (hd : decode M.2.1 pc = .ok (.istore_n j, 1)) (h0 : (j : Nat) < M.2.2.1) (hp : z_c1 (L ((j : Nat) - 1))) (k : Ru d M (pc + 1) (z_s1 L (j : Nat) (Value.int x)) (st) S Q) : Ru d M pc L (.int x :: st) S Q := fun lv hl => let ⟨o, h, q⟩ := k _ (z_s1_ok hl hp); ⟨o, zr_istore_n hd h0 h, q⟩
theorem r_istore {i : Nat} {x : Int32} (hd : decode M.2.1 pc = .ok (.istore i, 2)) (h0 : i < M.2.2.1) (hp : z_c1 (L (i - 1))) (k : Ru d M (pc + 2) (z_s1 L i (Value.int x)) (st) S Q) : Ru d M pc L (.int x :: st) S Q := fun lv hl => let ⟨o, h, q⟩ := k _ (z_s1_ok hl hp); ⟨o, zr_istore hd h0 h, q⟩
theorem r_lstore_n {j : Fin 4} {x : Int64} (hd : decode M.2.1 pc = .ok (.lstore_n j, 1)) (h0 : (j : Nat) + 1 < M.2.2.1) (hp : z_c1 (L ((j : Nat) - 1))) (k : Ru d M (pc + 1) (z_s2 L (j : Nat) (Value.long x)) (st) S Q) : Ru d M pc L (.long x :: st) S Q := fun lv hl => let ⟨o, h, q⟩ := k _ (z_s2_ok hl hp); ⟨o, zr_lstore_n hd h0 h, q⟩
theorem r_lstore {i : Nat} {x : Int64} (hd : decode M.2.1 pc = .ok (.lstore i, 2)) (h0 : i + 1 < M.2.2.1) (hp : z_c1 (L (i - 1))) (k : Ru d M (pc + 2) (z_s2 L i (Value.long x)) (st) S Q) : Ru d M pc L (.long x :: st) S Q := fun lv hl => let ⟨o, h, q⟩ := k _ (z_s2_ok hl hp); ⟨o, zr_lstore hd h0 h, q⟩
theorem r_astore_n {j : Fin 4} {x : Nat} (hd : decode M.2.1 pc = .ok (.astore_n j, 1)) (h0 : (j : Nat) < M.2.2.1) (hp : z_c1 (L ((j : Nat) - 1))) (k : Ru d M (pc + 1) (z_s1 L (j : Nat) (Value.ref x)) (st) S Q) : Ru d M pc L (.ref x :: st) S Q := fun lv hl => let ⟨o, h, q⟩ := k _ (z_s1_ok hl hp); ⟨o, zr_astore_n hd h0 h, q⟩
theorem r_astore {i : Nat} {x : Nat} (hd : decode M.2.1 pc = .ok (.astore i, 2)) (h0 : i < M.2.2.1) (hp : z_c1 (L (i - 1))) (k : Ru d M (pc + 2) (z_s1 L i (Value.ref x)) (st) S Q) : Ru d M pc L (.ref x :: st) S Q := fun lv hl => let ⟨o, h, q⟩ := k _ (z_s1_ok hl hp); ⟨o, zr_astore hd h0 h, q⟩
theorem r_astore_nS {j : Fin 4} {x : Nat} (hd : decode M.2.1 pc = .ok (.astore_n j, 1)) (h0 : (j : Nat) < M.2.2.1) (hp : z_c1 (L ((j : Nat) - 1))) (k : Ru d M (pc + 1) (z_s1 L (j : Nat) (Value.retAddr x)) (st) S Q) : Ru d M pc L (.retAddr x :: st) S Q := fun lv hl => let ⟨o, h, q⟩ := k _ (z_s1_ok hl hp); ⟨o, zr_astore_nS hd h0 h, q⟩
theorem r_astoreS {i : Nat} {x : Nat} (hd : decode M.2.1 pc = .ok (.astore i, 2)) (h0 : i < M.2.2.1) (hp : z_c1 (L (i - 1))) (k : Ru d M (pc + 2) (z_s1 L i (Value.retAddr x)) (st) S Q) : Ru d M pc L (.retAddr x :: st) S Q := fun lv hl => let ⟨o, h, q⟩ := k _ (z_s1_ok hl hp); ⟨o, zr_astoreS hd h0 h, q⟩
theorem r_astore_nN {j : Fin 4} (hd : decode M.2.1 pc = .ok (.astore_n j, 1)) (h0 : (j : Nat) < M.2.2.1) (hp : z_c1 (L ((j : Nat) - 1))) (k : Ru d M (pc + 1) (z_s1 L (j : Nat) (Value.null)) (st) S Q) : Ru d M pc L (.null :: st) S Q := fun lv hl => let ⟨o, h, q⟩ := k _ (z_s1_ok hl hp); ⟨o, zr_astore_nN hd h0 h, q⟩
theorem r_astoreN {i : Nat} (hd : decode M.2.1 pc = .ok (.astore i, 2)) (h0 : i < M.2.2.1) (hp : z_c1 (L (i - 1))) (k : Ru d M (pc + 2) (z_s1 L i (Value.null)) (st) S Q) : Ru d M pc L (.null :: st) S Q := fun lv hl => let ⟨o, h, q⟩ := k _ (z_s1_ok hl hp); ⟨o, zr_astoreN hd h0 h, q⟩
theorem r_iinc {i : Nat} {n : Int} {x : Int32} (hd : decode M.2.1 pc = .ok (.iinc i n, 3)) (h0 : L i = some (Value.int x)) (h1 : i < M.2.2.1) (hp : z_c1 (L (i - 1))) (k : Ru d M (pc + 3) (z_s1 L i (Value.int (x + Int32.ofInt n))) (st) S Q) : Ru d M pc L (st) S Q := fun lv hl => let ⟨o, h, q⟩ := k _ (z_s1_ok hl hp); ⟨o, zr_iinc hd (hl _ _ h0) h1 h, q⟩
theorem r_iadd {x y : Int32} (hd : decode M.2.1 pc = .ok (.iadd, 1))  (k : Ru d M (pc + 1) L (.int (x + y) :: st) S Q) : Ru d M pc L (.int y :: .int x :: st) S Q := fun lv hl => let ⟨o, h, q⟩ := k lv hl; ⟨o, zr_iadd hd  h, q⟩
theorem r_isub {x y : Int32} (hd : decode M.2.1 pc = .ok (.isub, 1))  (k : Ru d M (pc + 1) L (.int (x - y) :: st) S Q) : Ru d M pc L (.int y :: .int x :: st) S Q := fun lv hl => let ⟨o, h, q⟩ := k lv hl; ⟨o, zr_isub hd  h, q⟩
theorem r_imul {x y : Int32} (hd : decode M.2.1 pc = .ok (.imul, 1))  (k : Ru d M (pc + 1) L (.int (x * y) :: st) S Q) : Ru d M pc L (.int y :: .int x :: st) S Q := fun lv hl => let ⟨o, h, q⟩ := k lv hl; ⟨o, zr_imul hd  h, q⟩
theorem r_iand {x y : Int32} (hd : decode M.2.1 pc = .ok (.iand, 1))  (k : Ru d M (pc + 1) L (.int (x &&& y) :: st) S Q) : Ru d M pc L (.int y :: .int x :: st) S Q := fun lv hl => let ⟨o, h, q⟩ := k lv hl; ⟨o, zr_iand hd  h, q⟩
theorem r_ior {x y : Int32} (hd : decode M.2.1 pc = .ok (.ior, 1))  (k : Ru d M (pc + 1) L (.int (x ||| y) :: st) S Q) : Ru d M pc L (.int y :: .int x :: st) S Q := fun lv hl => let ⟨o, h, q⟩ := k lv hl; ⟨o, zr_ior hd  h, q⟩
theorem r_ixor {x y : Int32} (hd : decode M.2.1 pc = .ok (.ixor, 1))  (k : Ru d M (pc + 1) L (.int (x ^^^ y) :: st) S Q) : Ru d M pc L (.int y :: .int x :: st) S Q := fun lv hl => let ⟨o, h, q⟩ := k lv hl; ⟨o, zr_ixor hd  h, q⟩
theorem r_ishl {x y : Int32} (hd : decode M.2.1 pc = .ok (.ishl, 1))  (k : Ru d M (pc + 1) L (.int (x <<< (y &&& 31)) :: st) S Q) : Ru d M pc L (.int y :: .int x :: st) S Q := fun lv hl => let ⟨o, h, q⟩ := k lv hl; ⟨o, zr_ishl hd  h, q⟩
theorem r_ishr {x y : Int32} (hd : decode M.2.1 pc = .ok (.ishr, 1))  (k : Ru d M (pc + 1) L (.int (x >>> (y &&& 31)) :: st) S Q) : Ru d M pc L (.int y :: .int x :: st) S Q := fun lv hl => let ⟨o, h, q⟩ := k lv hl; ⟨o, zr_ishr hd  h, q⟩
theorem r_idiv {x y : Int32} (hd : decode M.2.1 pc = .ok (.idiv, 1)) (h0 : ¬ y = 0) (k : Ru d M (pc + 1) L (.int (x / y) :: st) S Q) : Ru d M pc L (.int y :: .int x :: st) S Q := fun lv hl => let ⟨o, h, q⟩ := k lv hl; ⟨o, zr_idiv hd h0 h, q⟩
theorem r_irem {x y : Int32} (hd : decode M.2.1 pc = .ok (.irem, 1)) (h0 : ¬ y = 0) (k : Ru d M (pc + 1) L (.int (x - x / y * y) :: st) S Q) : Ru d M pc L (.int y :: .int x :: st) S Q := fun lv hl => let ⟨o, h, q⟩ := k lv hl; ⟨o, zr_irem hd h0 h, q⟩
theorem r_ladd {x y : Int64} (hd : decode M.2.1 pc = .ok (.ladd, 1))  (k : Ru d M (pc + 1) L (.long (x + y) :: st) S Q) : Ru d M pc L (.long y :: .long x :: st) S Q := fun lv hl => let ⟨o, h, q⟩ := k lv hl; ⟨o, zr_ladd hd  h, q⟩
theorem r_lsub {x y : Int64} (hd : decode M.2.1 pc = .ok (.lsub, 1))  (k : Ru d M (pc + 1) L (.long (x - y) :: st) S Q) : Ru d M pc L (.long y :: .long x :: st) S Q := fun lv hl => let ⟨o, h, q⟩ := k lv hl; ⟨o, zr_lsub hd  h, q⟩
theorem r_lmul {x y : Int64} (hd : decode M.2.1 pc = .ok (.lmul, 1))  (k : Ru d M (pc + 1) L (.long (x * y) :: st) S Q) : Ru d M pc L (.long y :: .long x :: st) S Q := fun lv hl => let ⟨o, h, q⟩ := k lv hl; ⟨o, zr_lmul hd  h, q⟩
theorem r_land {x y : Int64} (hd : decode M.2.1 pc = .ok (.land, 1))  (k : Ru d M (pc + 1) L (.long (x &&& y) :: st) S Q) : Ru d M pc L (.long y :: .long x :: st) S Q := fun lv hl => let ⟨o, h, q⟩ := k lv hl; ⟨o, zr_land hd  h, q⟩
theorem r_lor {x y : Int64} (hd : decode M.2.1 pc = .ok (.lor, 1))  (k : Ru d M (pc + 1) L (.long (x ||| y) :: st) S Q) : Ru d M pc L (.long y :: .long x :: st) S Q := fun lv hl => let ⟨o, h, q⟩ := k lv hl; ⟨o, zr_lor hd  h, q⟩
theorem r_lxor {x y : Int64} (hd : decode M.2.1 pc = .ok (.lxor, 1))  (k : Ru d M (pc + 1) L (.long (x ^^^ y) :: st) S Q) : Ru d M pc L (.long y :: .long x :: st) S Q := fun lv hl => let ⟨o, h, q⟩ := k lv hl; ⟨o, zr_lxor hd  h, q⟩
theorem r_ineg {x : Int32} (hd : decode M.2.1 pc = .ok (.ineg, 1))  (k : Ru d M (pc + 1) L (.int (-x) :: st) S Q) : Ru d M pc L (.int x :: st) S Q := fun lv hl => let ⟨o, h, q⟩ := k lv hl; ⟨o, zr_ineg hd  h, q⟩
theorem r_iushr {x y : Int32} (hd : decode M.2.1 pc = .ok (.iushr, 1))  (k : Ru d M (pc + 1) L (.int (x.toUInt32 >>> (y.toUInt32 &&& Int32.toUInt32 31)).toInt32 :: st) S Q) : Ru d M pc L (.int y :: .int x :: st) S Q := fun lv hl => let ⟨o, h, q⟩ := k lv hl; ⟨o, zr_iushr hd  h, q⟩
theorem r_lushr {x : Int64} {y : Int32} (hd : decode M.2.1 pc = .ok (.lushr, 1))  (k : Ru d M (pc + 1) L (.long (x.toUInt64 >>> (y.toInt64.toUInt64 &&& Int64.toUInt64 63)).toInt64 :: st) S Q) : Ru d M pc L (.int y :: .long x :: st) S Q := fun lv hl => let ⟨o, h, q⟩ := k lv hl; ⟨o, zr_lushr hd  h, q⟩
theorem r_lshl {x : Int64} {y : Int32} (hd : decode M.2.1 pc = .ok (.lshl, 1))  (k : Ru d M (pc + 1) L (.long (x <<< (y.toInt64 &&& 63)) :: st) S Q) : Ru d M pc L (.int y :: .long x :: st) S Q := fun lv hl => let ⟨o, h, q⟩ := k lv hl; ⟨o, zr_lshl hd  h, q⟩
theorem r_lshr {x : Int64} {y : Int32} (hd : decode M.2.1 pc = .ok (.lshr, 1))  (k : Ru d M (pc + 1) L (.long (x >>> (y.toInt64 &&& 63)) :: st) S Q) : Ru d M pc L (.int y :: .long x :: st) S Q := fun lv hl => let ⟨o, h, q⟩ := k lv hl; ⟨o, zr_lshr hd  h, q⟩
theorem r_i2l {x : Int32} (hd : decode M.2.1 pc = .ok (.i2l, 1))  (k : Ru d M (pc + 1) L (.long x.toInt64 :: st) S Q) : Ru d M pc L (.int x :: st) S Q := fun lv hl => let ⟨o, h, q⟩ := k lv hl; ⟨o, zr_i2l hd  h, q⟩
theorem r_l2i {x : Int64} (hd : decode M.2.1 pc = .ok (.l2i, 1))  (k : Ru d M (pc + 1) L (.int x.toInt32 :: st) S Q) : Ru d M pc L (.long x :: st) S Q := fun lv hl => let ⟨o, h, q⟩ := k lv hl; ⟨o, zr_l2i hd  h, q⟩
theorem r_i2b {x : Int32} (hd : decode M.2.1 pc = .ok (.i2b, 1))  (k : Ru d M (pc + 1) L (.int x.toInt8.toInt32 :: st) S Q) : Ru d M pc L (.int x :: st) S Q := fun lv hl => let ⟨o, h, q⟩ := k lv hl; ⟨o, zr_i2b hd  h, q⟩
theorem r_i2c {x : Int32} (hd : decode M.2.1 pc = .ok (.i2c, 1))  (k : Ru d M (pc + 1) L (.int (x.toUInt32 % 65536).toInt32 :: st) S Q) : Ru d M pc L (.int x :: st) S Q := fun lv hl => let ⟨o, h, q⟩ := k lv hl; ⟨o, zr_i2c hd  h, q⟩
theorem r_dup {v : Value} (hd : decode M.2.1 pc = .ok (.dup, 1)) (h0 : v.category = 1) (k : Ru d M (pc + 1) L (v :: v :: st) S Q) : Ru d M pc L (v :: st) S Q := fun lv hl => let ⟨o, h, q⟩ := k lv hl; ⟨o, zr_dup hd h0 h, q⟩
theorem r_pop {v : Value} (hd : decode M.2.1 pc = .ok (.pop, 1)) (h0 : v.category = 1) (k : Ru d M (pc + 1) L (st) S Q) : Ru d M pc L (v :: st) S Q := fun lv hl => let ⟨o, h, q⟩ := k lv hl; ⟨o, zr_pop hd h0 h, q⟩
theorem r_dup2 {v u : Value} (hd : decode M.2.1 pc = .ok (.dup2, 1)) (h0 : v.category = 1) (h1 : u.category = 1) (k : Ru d M (pc + 1) L (v :: u :: v :: u :: st) S Q) : Ru d M pc L (v :: u :: st) S Q := fun lv hl => let ⟨o, h, q⟩ := k lv hl; ⟨o, zr_dup2 hd h0 h1 h, q⟩
theorem r_if_eq {x : Int32} {off : Int} {tgt : Nat} (hd : decode M.2.1 pc = .ok (.ifCond .eq off, 3)) (h0 : (pc : Int) + off = (tgt : Int)) (k0 : (x = 0) → Ru d M (tgt) L (st) S Q) (k1 : (¬ x = 0) → Ru d M (pc + 3) L (st) S Q) : Ru d M pc L (.int x :: st) S Q := by
  intro lv hl
  by_cases hb : (x = 0)
  · obtain ⟨o, h, q⟩ := k0 hb lv hl
    exact ⟨o, zr_if_eq hd h0 (fun _ => h) (fun hn => absurd hb hn), q⟩
  · obtain ⟨o, h, q⟩ := k1 hb lv hl
    exact ⟨o, zr_if_eq hd h0 (fun hn => absurd hn hb) (fun _ => h), q⟩
theorem r_if_eq_t {x : Int32} {off : Int} {tgt : Nat} (hd : decode M.2.1 pc = .ok (.ifCond .eq off, 3)) (h0 : (pc : Int) + off = (tgt : Int)) (hb : (x = 0)) (k0 : Ru d M (tgt) L (st) S Q) : Ru d M pc L (.int x :: st) S Q := r_if_eq hd h0 (fun _ => k0) (fun hn => absurd hb hn)
theorem r_if_eq_f {x : Int32} {off : Int} {tgt : Nat} (hd : decode M.2.1 pc = .ok (.ifCond .eq off, 3)) (h0 : (pc : Int) + off = (tgt : Int)) (hb : (¬ x = 0)) (k1 : Ru d M (pc + 3) L (st) S Q) : Ru d M pc L (.int x :: st) S Q := r_if_eq hd h0 (fun hn => absurd hn hb) (fun _ => k1)
theorem r_icmp_eq {x y : Int32} {off : Int} {tgt : Nat} (hd : decode M.2.1 pc = .ok (.if_icmp .eq off, 3)) (h0 : (pc : Int) + off = (tgt : Int)) (k0 : (x = y) → Ru d M (tgt) L (st) S Q) (k1 : (¬ x = y) → Ru d M (pc + 3) L (st) S Q) : Ru d M pc L (.int y :: .int x :: st) S Q := by
  intro lv hl
  by_cases hb : (x = y)
  · obtain ⟨o, h, q⟩ := k0 hb lv hl
    exact ⟨o, zr_icmp_eq hd h0 (fun _ => h) (fun hn => absurd hb hn), q⟩
  · obtain ⟨o, h, q⟩ := k1 hb lv hl
    exact ⟨o, zr_icmp_eq hd h0 (fun hn => absurd hn hb) (fun _ => h), q⟩
theorem r_icmp_eq_t {x y : Int32} {off : Int} {tgt : Nat} (hd : decode M.2.1 pc = .ok (.if_icmp .eq off, 3)) (h0 : (pc : Int) + off = (tgt : Int)) (hb : (x = y)) (k0 : Ru d M (tgt) L (st) S Q) : Ru d M pc L (.int y :: .int x :: st) S Q := r_icmp_eq hd h0 (fun _ => k0) (fun hn => absurd hb hn)
theorem r_icmp_eq_f {x y : Int32} {off : Int} {tgt : Nat} (hd : decode M.2.1 pc = .ok (.if_icmp .eq off, 3)) (h0 : (pc : Int) + off = (tgt : Int)) (hb : (¬ x = y)) (k1 : Ru d M (pc + 3) L (st) S Q) : Ru d M pc L (.int y :: .int x :: st) S Q := r_icmp_eq hd h0 (fun hn => absurd hn hb) (fun _ => k1)
theorem r_if_ne {x : Int32} {off : Int} {tgt : Nat} (hd : decode M.2.1 pc = .ok (.ifCond .ne off, 3)) (h0 : (pc : Int) + off = (tgt : Int)) (k0 : (¬ x = 0) → Ru d M (tgt) L (st) S Q) (k1 : (x = 0) → Ru d M (pc + 3) L (st) S Q) : Ru d M pc L (.int x :: st) S Q := by
  intro lv hl
  by_cases hb : (x = 0)
  · obtain ⟨o, h, q⟩ := k1 hb lv hl
    exact ⟨o, zr_if_ne hd h0 (fun hn => absurd hb hn) (fun _ => h), q⟩
  · obtain ⟨o, h, q⟩ := k0 hb lv hl
    exact ⟨o, zr_if_ne hd h0 (fun _ => h) (fun hn => absurd hn hb), q⟩
theorem r_if_ne_t {x : Int32} {off : Int} {tgt : Nat} (hd : decode M.2.1 pc = .ok (.ifCond .ne off, 3)) (h0 : (pc : Int) + off = (tgt : Int)) (hb : (¬ x = 0)) (k0 : Ru d M (tgt) L (st) S Q) : Ru d M pc L (.int x :: st) S Q := r_if_ne hd h0 (fun _ => k0) (fun hn => absurd hn hb)
theorem r_if_ne_f {x : Int32} {off : Int} {tgt : Nat} (hd : decode M.2.1 pc = .ok (.ifCond .ne off, 3)) (h0 : (pc : Int) + off = (tgt : Int)) (hb : (x = 0)) (k1 : Ru d M (pc + 3) L (st) S Q) : Ru d M pc L (.int x :: st) S Q := r_if_ne hd h0 (fun hn => absurd hb hn) (fun _ => k1)
theorem r_icmp_ne {x y : Int32} {off : Int} {tgt : Nat} (hd : decode M.2.1 pc = .ok (.if_icmp .ne off, 3)) (h0 : (pc : Int) + off = (tgt : Int)) (k0 : (¬ x = y) → Ru d M (tgt) L (st) S Q) (k1 : (x = y) → Ru d M (pc + 3) L (st) S Q) : Ru d M pc L (.int y :: .int x :: st) S Q := by
  intro lv hl
  by_cases hb : (x = y)
  · obtain ⟨o, h, q⟩ := k1 hb lv hl
    exact ⟨o, zr_icmp_ne hd h0 (fun hn => absurd hb hn) (fun _ => h), q⟩
  · obtain ⟨o, h, q⟩ := k0 hb lv hl
    exact ⟨o, zr_icmp_ne hd h0 (fun _ => h) (fun hn => absurd hn hb), q⟩
theorem r_icmp_ne_t {x y : Int32} {off : Int} {tgt : Nat} (hd : decode M.2.1 pc = .ok (.if_icmp .ne off, 3)) (h0 : (pc : Int) + off = (tgt : Int)) (hb : (¬ x = y)) (k0 : Ru d M (tgt) L (st) S Q) : Ru d M pc L (.int y :: .int x :: st) S Q := r_icmp_ne hd h0 (fun _ => k0) (fun hn => absurd hn hb)
theorem r_icmp_ne_f {x y : Int32} {off : Int} {tgt : Nat} (hd : decode M.2.1 pc = .ok (.if_icmp .ne off, 3)) (h0 : (pc : Int) + off = (tgt : Int)) (hb : (x = y)) (k1 : Ru d M (pc + 3) L (st) S Q) : Ru d M pc L (.int y :: .int x :: st) S Q := r_icmp_ne hd h0 (fun hn => absurd hb hn) (fun _ => k1)
theorem r_if_lt {x : Int32} {off : Int} {tgt : Nat} (hd : decode M.2.1 pc = .ok (.ifCond .lt off, 3)) (h0 : (pc : Int) + off = (tgt : Int)) (k0 : (x < 0) → Ru d M (tgt) L (st) S Q) (k1 : (¬ x < 0) → Ru d M (pc + 3) L (st) S Q) : Ru d M pc L (.int x :: st) S Q := by
  intro lv hl
  by_cases hb : (x < 0)
  · obtain ⟨o, h, q⟩ := k0 hb lv hl
    exact ⟨o, zr_if_lt hd h0 (fun _ => h) (fun hn => absurd hb hn), q⟩
  · obtain ⟨o, h, q⟩ := k1 hb lv hl
    exact ⟨o, zr_if_lt hd h0 (fun hn => absurd hn hb) (fun _ => h), q⟩
theorem r_if_lt_t {x : Int32} {off : Int} {tgt : Nat} (hd : decode M.2.1 pc = .ok (.ifCond .lt off, 3)) (h0 : (pc : Int) + off = (tgt : Int)) (hb : (x < 0)) (k0 : Ru d M (tgt) L (st) S Q) : Ru d M pc L (.int x :: st) S Q := r_if_lt hd h0 (fun _ => k0) (fun hn => absurd hb hn)
theorem r_if_lt_f {x : Int32} {off : Int} {tgt : Nat} (hd : decode M.2.1 pc = .ok (.ifCond .lt off, 3)) (h0 : (pc : Int) + off = (tgt : Int)) (hb : (¬ x < 0)) (k1 : Ru d M (pc + 3) L (st) S Q) : Ru d M pc L (.int x :: st) S Q := r_if_lt hd h0 (fun hn => absurd hn hb) (fun _ => k1)
theorem r_icmp_lt {x y : Int32} {off : Int} {tgt : Nat} (hd : decode M.2.1 pc = .ok (.if_icmp .lt off, 3)) (h0 : (pc : Int) + off = (tgt : Int)) (k0 : (x < y) → Ru d M (tgt) L (st) S Q) (k1 : (¬ x < y) → Ru d M (pc + 3) L (st) S Q) : Ru d M pc L (.int y :: .int x :: st) S Q := by
  intro lv hl
  by_cases hb : (x < y)
  · obtain ⟨o, h, q⟩ := k0 hb lv hl
    exact ⟨o, zr_icmp_lt hd h0 (fun _ => h) (fun hn => absurd hb hn), q⟩
  · obtain ⟨o, h, q⟩ := k1 hb lv hl
    exact ⟨o, zr_icmp_lt hd h0 (fun hn => absurd hn hb) (fun _ => h), q⟩
theorem r_icmp_lt_t {x y : Int32} {off : Int} {tgt : Nat} (hd : decode M.2.1 pc = .ok (.if_icmp .lt off, 3)) (h0 : (pc : Int) + off = (tgt : Int)) (hb : (x < y)) (k0 : Ru d M (tgt) L (st) S Q) : Ru d M pc L (.int y :: .int x :: st) S Q := r_icmp_lt hd h0 (fun _ => k0) (fun hn => absurd hb hn)
theorem r_icmp_lt_f {x y : Int32} {off : Int} {tgt : Nat} (hd : decode M.2.1 pc = .ok (.if_icmp .lt off, 3)) (h0 : (pc : Int) + off = (tgt : Int)) (hb : (¬ x < y)) (k1 : Ru d M (pc + 3) L (st) S Q) : Ru d M pc L (.int y :: .int x :: st) S Q := r_icmp_lt hd h0 (fun hn => absurd hn hb) (fun _ => k1)
theorem r_if_ge {x : Int32} {off : Int} {tgt : Nat} (hd : decode M.2.1 pc = .ok (.ifCond .ge off, 3)) (h0 : (pc : Int) + off = (tgt : Int)) (k0 : (0 ≤ x) → Ru d M (tgt) L (st) S Q) (k1 : (¬ 0 ≤ x) → Ru d M (pc + 3) L (st) S Q) : Ru d M pc L (.int x :: st) S Q := by
  intro lv hl
  by_cases hb : (0 ≤ x)
  · obtain ⟨o, h, q⟩ := k0 hb lv hl
    exact ⟨o, zr_if_ge hd h0 (fun _ => h) (fun hn => absurd hb hn), q⟩
  · obtain ⟨o, h, q⟩ := k1 hb lv hl
    exact ⟨o, zr_if_ge hd h0 (fun hn => absurd hn hb) (fun _ => h), q⟩
theorem r_if_ge_t {x : Int32} {off : Int} {tgt : Nat} (hd : decode M.2.1 pc = .ok (.ifCond .ge off, 3)) (h0 : (pc : Int) + off = (tgt : Int)) (hb : (0 ≤ x)) (k0 : Ru d M (tgt) L (st) S Q) : Ru d M pc L (.int x :: st) S Q := r_if_ge hd h0 (fun _ => k0) (fun hn => absurd hb hn)
theorem r_if_ge_f {x : Int32} {off : Int} {tgt : Nat} (hd : decode M.2.1 pc = .ok (.ifCond .ge off, 3)) (h0 : (pc : Int) + off = (tgt : Int)) (hb : (¬ 0 ≤ x)) (k1 : Ru d M (pc + 3) L (st) S Q) : Ru d M pc L (.int x :: st) S Q := r_if_ge hd h0 (fun hn => absurd hn hb) (fun _ => k1)
theorem r_icmp_ge {x y : Int32} {off : Int} {tgt : Nat} (hd : decode M.2.1 pc = .ok (.if_icmp .ge off, 3)) (h0 : (pc : Int) + off = (tgt : Int)) (k0 : (y ≤ x) → Ru d M (tgt) L (st) S Q) (k1 : (¬ y ≤ x) → Ru d M (pc + 3) L (st) S Q) : Ru d M pc L (.int y :: .int x :: st) S Q := by
  intro lv hl
  by_cases hb : (y ≤ x)
  · obtain ⟨o, h, q⟩ := k0 hb lv hl
    exact ⟨o, zr_icmp_ge hd h0 (fun _ => h) (fun hn => absurd hb hn), q⟩
  · obtain ⟨o, h, q⟩ := k1 hb lv hl
    exact ⟨o, zr_icmp_ge hd h0 (fun hn => absurd hn hb) (fun _ => h), q⟩
theorem r_icmp_ge_t {x y : Int32} {off : Int} {tgt : Nat} (hd : decode M.2.1 pc = .ok (.if_icmp .ge off, 3)) (h0 : (pc : Int) + off = (tgt : Int)) (hb : (y ≤ x)) (k0 : Ru d M (tgt) L (st) S Q) : Ru d M pc L (.int y :: .int x :: st) S Q := r_icmp_ge hd h0 (fun _ => k0) (fun hn => absurd hb hn)
theorem r_icmp_ge_f {x y : Int32} {off : Int} {tgt : Nat} (hd : decode M.2.1 pc = .ok (.if_icmp .ge off, 3)) (h0 : (pc : Int) + off = (tgt : Int)) (hb : (¬ y ≤ x)) (k1 : Ru d M (pc + 3) L (st) S Q) : Ru d M pc L (.int y :: .int x :: st) S Q := r_icmp_ge hd h0 (fun hn => absurd hn hb) (fun _ => k1)
theorem r_if_gt {x : Int32} {off : Int} {tgt : Nat} (hd : decode M.2.1 pc = .ok (.ifCond .gt off, 3)) (h0 : (pc : Int) + off = (tgt : Int)) (k0 : (0 < x) → Ru d M (tgt) L (st) S Q) (k1 : (¬ 0 < x) → Ru d M (pc + 3) L (st) S Q) : Ru d M pc L (.int x :: st) S Q := by
  intro lv hl
  by_cases hb : (0 < x)
  · obtain ⟨o, h, q⟩ := k0 hb lv hl
    exact ⟨o, zr_if_gt hd h0 (fun _ => h) (fun hn => absurd hb hn), q⟩
  · obtain ⟨o, h, q⟩ := k1 hb lv hl
    exact ⟨o, zr_if_gt hd h0 (fun hn => absurd hn hb) (fun _ => h), q⟩
theorem r_if_gt_t {x : Int32} {off : Int} {tgt : Nat} (hd : decode M.2.1 pc = .ok (.ifCond .gt off, 3)) (h0 : (pc : Int) + off = (tgt : Int)) (hb : (0 < x)) (k0 : Ru d M (tgt) L (st) S Q) : Ru d M pc L (.int x :: st) S Q := r_if_gt hd h0 (fun _ => k0) (fun hn => absurd hb hn)
theorem r_if_gt_f {x : Int32} {off : Int} {tgt : Nat} (hd : decode M.2.1 pc = .ok (.ifCond .gt off, 3)) (h0 : (pc : Int) + off = (tgt : Int)) (hb : (¬ 0 < x)) (k1 : Ru d M (pc + 3) L (st) S Q) : Ru d M pc L (.int x :: st) S Q := r_if_gt hd h0 (fun hn => absurd hn hb) (fun _ => k1)
theorem r_icmp_gt {x y : Int32} {off : Int} {tgt : Nat} (hd : decode M.2.1 pc = .ok (.if_icmp .gt off, 3)) (h0 : (pc : Int) + off = (tgt : Int)) (k0 : (y < x) → Ru d M (tgt) L (st) S Q) (k1 : (¬ y < x) → Ru d M (pc + 3) L (st) S Q) : Ru d M pc L (.int y :: .int x :: st) S Q := by
  intro lv hl
  by_cases hb : (y < x)
  · obtain ⟨o, h, q⟩ := k0 hb lv hl
    exact ⟨o, zr_icmp_gt hd h0 (fun _ => h) (fun hn => absurd hb hn), q⟩
  · obtain ⟨o, h, q⟩ := k1 hb lv hl
    exact ⟨o, zr_icmp_gt hd h0 (fun hn => absurd hn hb) (fun _ => h), q⟩
theorem r_icmp_gt_t {x y : Int32} {off : Int} {tgt : Nat} (hd : decode M.2.1 pc = .ok (.if_icmp .gt off, 3)) (h0 : (pc : Int) + off = (tgt : Int)) (hb : (y < x)) (k0 : Ru d M (tgt) L (st) S Q) : Ru d M pc L (.int y :: .int x :: st) S Q := r_icmp_gt hd h0 (fun _ => k0) (fun hn => absurd hb hn)
theorem r_icmp_gt_f {x y : Int32} {off : Int} {tgt : Nat} (hd : decode M.2.1 pc = .ok (.if_icmp .gt off, 3)) (h0 : (pc : Int) + off = (tgt : Int)) (hb : (¬ y < x)) (k1 : Ru d M (pc + 3) L (st) S Q) : Ru d M pc L (.int y :: .int x :: st) S Q := r_icmp_gt hd h0 (fun hn => absurd hn hb) (fun _ => k1)
theorem r_if_le {x : Int32} {off : Int} {tgt : Nat} (hd : decode M.2.1 pc = .ok (.ifCond .le off, 3)) (h0 : (pc : Int) + off = (tgt : Int)) (k0 : (x ≤ 0) → Ru d M (tgt) L (st) S Q) (k1 : (¬ x ≤ 0) → Ru d M (pc + 3) L (st) S Q) : Ru d M pc L (.int x :: st) S Q := by
  intro lv hl
  by_cases hb : (x ≤ 0)
  · obtain ⟨o, h, q⟩ := k0 hb lv hl
    exact ⟨o, zr_if_le hd h0 (fun _ => h) (fun hn => absurd hb hn), q⟩
  · obtain ⟨o, h, q⟩ := k1 hb lv hl
    exact ⟨o, zr_if_le hd h0 (fun hn => absurd hn hb) (fun _ => h), q⟩
theorem r_if_le_t {x : Int32} {off : Int} {tgt : Nat} (hd : decode M.2.1 pc = .ok (.ifCond .le off, 3)) (h0 : (pc : Int) + off = (tgt : Int)) (hb : (x ≤ 0)) (k0 : Ru d M (tgt) L (st) S Q) : Ru d M pc L (.int x :: st) S Q := r_if_le hd h0 (fun _ => k0) (fun hn => absurd hb hn)
theorem r_if_le_f {x : Int32} {off : Int} {tgt : Nat} (hd : decode M.2.1 pc = .ok (.ifCond .le off, 3)) (h0 : (pc : Int) + off = (tgt : Int)) (hb : (¬ x ≤ 0)) (k1 : Ru d M (pc + 3) L (st) S Q) : Ru d M pc L (.int x :: st) S Q := r_if_le hd h0 (fun hn => absurd hn hb) (fun _ => k1)
theorem r_icmp_le {x y : Int32} {off : Int} {tgt : Nat} (hd : decode M.2.1 pc = .ok (.if_icmp .le off, 3)) (h0 : (pc : Int) + off = (tgt : Int)) (k0 : (x ≤ y) → Ru d M (tgt) L (st) S Q) (k1 : (¬ x ≤ y) → Ru d M (pc + 3) L (st) S Q) : Ru d M pc L (.int y :: .int x :: st) S Q := by
  intro lv hl
  by_cases hb : (x ≤ y)
  · obtain ⟨o, h, q⟩ := k0 hb lv hl
    exact ⟨o, zr_icmp_le hd h0 (fun _ => h) (fun hn => absurd hb hn), q⟩
  · obtain ⟨o, h, q⟩ := k1 hb lv hl
    exact ⟨o, zr_icmp_le hd h0 (fun hn => absurd hn hb) (fun _ => h), q⟩
theorem r_icmp_le_t {x y : Int32} {off : Int} {tgt : Nat} (hd : decode M.2.1 pc = .ok (.if_icmp .le off, 3)) (h0 : (pc : Int) + off = (tgt : Int)) (hb : (x ≤ y)) (k0 : Ru d M (tgt) L (st) S Q) : Ru d M pc L (.int y :: .int x :: st) S Q := r_icmp_le hd h0 (fun _ => k0) (fun hn => absurd hb hn)
theorem r_icmp_le_f {x y : Int32} {off : Int} {tgt : Nat} (hd : decode M.2.1 pc = .ok (.if_icmp .le off, 3)) (h0 : (pc : Int) + off = (tgt : Int)) (hb : (¬ x ≤ y)) (k1 : Ru d M (pc + 3) L (st) S Q) : Ru d M pc L (.int y :: .int x :: st) S Q := r_icmp_le hd h0 (fun hn => absurd hn hb) (fun _ => k1)
theorem r_goto {off : Int} {tgt : Nat} (hd : decode M.2.1 pc = .ok (.goto off, 3)) (h0 : (pc : Int) + off = (tgt : Int)) (k : Ru d M (tgt) L (st) S Q) : Ru d M pc L (st) S Q := fun lv hl => let ⟨o, h, q⟩ := k lv hl; ⟨o, zr_goto hd h0 h, q⟩
theorem r_ifnull {x : Nat} {off : Int} (hd : decode M.2.1 pc = .ok (.ifnull off, 3))  (k : Ru d M (pc + 3) L (st) S Q) : Ru d M pc L (.ref x :: st) S Q := fun lv hl => let ⟨o, h, q⟩ := k lv hl; ⟨o, zr_ifnull hd  h, q⟩
theorem r_ifnullN {off : Int} {tgt : Nat} (hd : decode M.2.1 pc = .ok (.ifnull off, 3)) (h0 : (pc : Int) + off = (tgt : Int)) (k : Ru d M (tgt) L (st) S Q) : Ru d M pc L (.null :: st) S Q := fun lv hl => let ⟨o, h, q⟩ := k lv hl; ⟨o, zr_ifnullN hd h0 h, q⟩
theorem r_ifnonnull {x : Nat} {off : Int} {tgt : Nat} (hd : decode M.2.1 pc = .ok (.ifnonnull off, 3)) (h0 : (pc : Int) + off = (tgt : Int)) (k : Ru d M (tgt) L (st) S Q) : Ru d M pc L (.ref x :: st) S Q := fun lv hl => let ⟨o, h, q⟩ := k lv hl; ⟨o, zr_ifnonnull hd h0 h, q⟩
theorem r_ifnonnullN {off : Int} (hd : decode M.2.1 pc = .ok (.ifnonnull off, 3))  (k : Ru d M (pc + 3) L (st) S Q) : Ru d M pc L (.null :: st) S Q := fun lv hl => let ⟨o, h, q⟩ := k lv hl; ⟨o, zr_ifnonnullN hd  h, q⟩
theorem r_lookup {x : Int32} {dflt off : Int} {ps : Array (Int × Int)} {len tgt : Nat} (hd : decode M.2.1 pc = .ok (.lookupswitch dflt ps, len)) (h0 : (ps.toList.zip (ps.toList.drop 1)).all (fun (a, next) => a.1 < next.1) = true) (h1 : Op.lookupswitch.offset ps.toList dflt x.toInt = off) (h2 : (pc : Int) + off = (tgt : Int)) (k : Ru d M (tgt) L (st) S Q) : Ru d M pc L (.int x :: st) S Q := fun lv hl => let ⟨o, h, q⟩ := k lv hl; ⟨o, zr_lookup hd h0 h1 h2 h, q⟩
theorem r_tableIn {x : Int32} {dflt lo hi off : Int} {offs : Array Int} {len tgt : Nat} (hd : decode M.2.1 pc = .ok (.tableswitch dflt lo hi offs, len)) (h0 : ¬ x.toInt < lo) (h1 : ¬ hi < x.toInt) (h2 : offs[(x.toInt - lo).toNat]? = some off) (h3 : (pc : Int) + off = (tgt : Int)) (k : Ru d M (tgt) L (st) S Q) : Ru d M pc L (.int x :: st) S Q := fun lv hl => let ⟨o, h, q⟩ := k lv hl; ⟨o, zr_tableIn hd h0 h1 h2 h3 h, q⟩
theorem r_tableOut {x : Int32} {dflt lo hi : Int} {offs : Array Int} {len tgt : Nat} (hd : decode M.2.1 pc = .ok (.tableswitch dflt lo hi offs, len)) (h0 : x.toInt < lo ∨ hi < x.toInt) (h1 : (pc : Int) + dflt = (tgt : Int)) (k : Ru d M (tgt) L (st) S Q) : Ru d M pc L (.int x :: st) S Q := fun lv hl => let ⟨o, h, q⟩ := k lv hl; ⟨o, zr_tableOut hd h0 h1 h, q⟩
theorem r_getf {idx i ci j : Nat} {ty : FieldType} {fin : Bool} {fs : List Value} {v : Value} (hd : decode M.2.1 pc = .ok (.getfield idx, 3)) (h0 : z_fOK M.1.cls idx ci j ty fin) (h1 : S.2.2 i = .inr (ci, fs)) (h2 : fs[j]? = some v) (k : Ru d M (pc + 3) L (v :: st) S Q) : Ru d M pc L (.ref i :: st) S Q := fun lv hl => let ⟨o, h, q⟩ := k lv hl; ⟨o, zr_getf hd h0 h1 h2 h, q⟩
theorem r_putf {idx i ci j : Nat} {ty : FieldType} {fs : List Value} {v : Value} (hd : decode M.2.1 pc = .ok (.putfield idx, 3)) (h0 : z_fOK M.1.cls idx ci j ty false) (h1 : S.2.2 i = .inr (ci, fs)) (h2 : j < fs.length) (h3 : narrow ty v = v ∧ fits ty v = true) (k : Ru d M (pc + 3) L (st) (z_put S i (.inr (ci, fs.set j v))) Q) : Ru d M pc L (v :: .ref i :: st) S Q := fun lv hl => let ⟨o, h, q⟩ := k lv hl; ⟨o, zr_putf hd h0 h1 h2 h3 h, q⟩
theorem r_putF {idx i ci j : Nat} {ty : FieldType} {fs : List Value} {v : Value} (hd : decode M.2.1 pc = .ok (.putfield idx, 3)) (h0 : z_fO1 M.1.cls idx ci j ty) (h1 : S.2.2 i = .inr (ci, fs)) (h2 : j < fs.length) (h3 : narrow ty v = v ∧ fits ty v = true) (h4 : M.1.name = "<init>") (k : Ru d M (pc + 3) L (st) (z_put S i (.inr (ci, fs.set j v))) Q) : Ru d M pc L (v :: .ref i :: st) S Q := fun lv hl => let ⟨o, h, q⟩ := k lv hl; ⟨o, zr_putF hd h0 h1 h2 h3 h4 h, q⟩
theorem r_putS {idx i ci j k9 : Nat} {ty : FieldType} {fs : List Value} (hd : decode M.2.1 pc = .ok (.putfield idx, 3)) (h0 : z_fOK M.1.cls idx ci j ty false) (h1 : S.2.2 i = .inr (ci, fs)) (h2 : j < fs.length) (h3 : (∃ t, ty = .array t) ∨ ∃ n, ty = .object n) (k : Ru d M (pc + 3) L (st) (z_put S i (.inr (ci, fs.set j (.retAddr k9)))) Q) : Ru d M pc L (.retAddr k9 :: .ref i :: st) S Q := fun lv hl => let ⟨o, h, q⟩ := k lv hl; ⟨o, zr_putS hd h0 h1 h2 h3 h, q⟩
theorem r_bald {i n : Nat} {x : Int32} {g : Nat → Int32} (hd : decode M.2.1 pc = .ok (.baload, 1)) (h0 : S.2.2 i = .inl (.byte, n, .inl g)) (h1 : vp_in x n) (k : Ru d M (pc + 1) L (.int (g x.toNatClampNeg) :: st) S Q) : Ru d M pc L (.int x :: .ref i :: st) S Q := fun lv hl => let ⟨o, h, q⟩ := k lv hl; ⟨o, zr_bald hd h0 h1 h, q⟩
theorem r_zald {i n : Nat} {x : Int32} {g : Nat → Int32} (hd : decode M.2.1 pc = .ok (.baload, 1)) (h0 : S.2.2 i = .inl (.boolean, n, .inl g)) (h1 : vp_in x n) (k : Ru d M (pc + 1) L (.int (g x.toNatClampNeg) :: st) S Q) : Ru d M pc L (.int x :: .ref i :: st) S Q := fun lv hl => let ⟨o, h, q⟩ := k lv hl; ⟨o, zr_zald hd h0 h1 h, q⟩
theorem r_iald {i n : Nat} {x : Int32} {g : Nat → Int32} (hd : decode M.2.1 pc = .ok (.iaload, 1)) (h0 : S.2.2 i = .inl (.int, n, .inl g)) (h1 : vp_in x n) (k : Ru d M (pc + 1) L (.int (g x.toNatClampNeg) :: st) S Q) : Ru d M pc L (.int x :: .ref i :: st) S Q := fun lv hl => let ⟨o, h, q⟩ := k lv hl; ⟨o, zr_iald hd h0 h1 h, q⟩
theorem r_lald {i n : Nat} {x : Int32} {g : Nat → Int64} (hd : decode M.2.1 pc = .ok (.laload, 1)) (h0 : S.2.2 i = .inl (.long, n, .inr (.inl g))) (h1 : vp_in x n) (k : Ru d M (pc + 1) L (.long (g x.toNatClampNeg) :: st) S Q) : Ru d M pc L (.int x :: .ref i :: st) S Q := fun lv hl => let ⟨o, h, q⟩ := k lv hl; ⟨o, zr_lald hd h0 h1 h, q⟩
theorem r_aald {i n : Nat} {x : Int32} {ty : FieldType} {g : Nat → Option Nat} (hd : decode M.2.1 pc = .ok (.aaload, 1)) (h0 : S.2.2 i = .inl (ty, n, .inr (.inr (.inr (.inr g))))) (h1 : vp_in x n) (h2 : ty.isReference = true) (k : Ru d M (pc + 1) L (va_rf (g x.toNatClampNeg) :: st) S Q) : Ru d M pc L (.int x :: .ref i :: st) S Q := fun lv hl => let ⟨o, h, q⟩ := k lv hl; ⟨o, zr_aald hd h0 h1 h2 h, q⟩
theorem r_bast {i n : Nat} {x : Int32} {g : Nat → Int32} {y : Int32} (hd : decode M.2.1 pc = .ok (.bastore, 1)) (h0 : S.2.2 i = .inl (.byte, n, .inl g)) (h1 : vp_in x n) (k : Ru d M (pc + 1) L (st) (z_put S i (.inl (.byte, n, .inl (upd g x.toNatClampNeg (vp_nar .byte y))))) Q) : Ru d M pc L (.int y :: .int x :: .ref i :: st) S Q := fun lv hl => let ⟨o, h, q⟩ := k lv hl; ⟨o, zr_bast hd h0 h1 h, q⟩
theorem r_zast {i n : Nat} {x : Int32} {g : Nat → Int32} {y : Int32} (hd : decode M.2.1 pc = .ok (.bastore, 1)) (h0 : S.2.2 i = .inl (.boolean, n, .inl g)) (h1 : vp_in x n) (k : Ru d M (pc + 1) L (st) (z_put S i (.inl (.boolean, n, .inl (upd g x.toNatClampNeg (vp_nar .boolean y))))) Q) : Ru d M pc L (.int y :: .int x :: .ref i :: st) S Q := fun lv hl => let ⟨o, h, q⟩ := k lv hl; ⟨o, zr_zast hd h0 h1 h, q⟩
theorem r_iast {i n : Nat} {x : Int32} {g : Nat → Int32} {y : Int32} (hd : decode M.2.1 pc = .ok (.iastore, 1)) (h0 : S.2.2 i = .inl (.int, n, .inl g)) (h1 : vp_in x n) (k : Ru d M (pc + 1) L (st) (z_put S i (.inl (.int, n, .inl (upd g x.toNatClampNeg y)))) Q) : Ru d M pc L (.int y :: .int x :: .ref i :: st) S Q := fun lv hl => let ⟨o, h, q⟩ := k lv hl; ⟨o, zr_iast hd h0 h1 h, q⟩
theorem r_last {i n : Nat} {x : Int32} {g : Nat → Int64} {y : Int64} (hd : decode M.2.1 pc = .ok (.lastore, 1)) (h0 : S.2.2 i = .inl (.long, n, .inr (.inl g))) (h1 : vp_in x n) (k : Ru d M (pc + 1) L (st) (z_put S i (.inl (.long, n, .inr (.inl (vp_updL g x.toNatClampNeg y))))) Q) : Ru d M pc L (.long y :: .int x :: .ref i :: st) S Q := fun lv hl => let ⟨o, h, q⟩ := k lv hl; ⟨o, zr_last hd h0 h1 h, q⟩
theorem r_aast {i n j ci : Nat} {x : Int32} {r : vw_C} {g : Nat → Option Nat} {vs : List Value} (hd : decode M.2.1 pc = .ok (.aastore, 1)) (h0 : S.2.2 i = .inl (.object r.1, n, .inr (.inr (.inr (.inr g))))) (h1 : vp_in x n) (h2 : S.2.2 j = .inr (ci, vs)) (h3 : vwCl[ci]? = some r) (k : Ru d M (pc + 1) L (st) (z_put S i (.inl (.object r.1, n, .inr (.inr (.inr (.inr (va_up g x.toNatClampNeg (some j)))))))) Q) : Ru d M pc L (.ref j :: .int x :: .ref i :: st) S Q := fun lv hl => let ⟨o, h, q⟩ := k lv hl; ⟨o, zr_aast hd h0 h1 h2 h3 h, q⟩
theorem r_alen {i : Nat} {ty : FieldType} {a : vp_A} (hd : decode M.2.1 pc = .ok (.arraylength, 1)) (h0 : S.2.2 i = .inl (ty, a)) (k : Ru d M (pc + 1) L (.int (Int32.ofNat a.1) :: st) S Q) : Ru d M pc L (.ref i :: st) S Q := fun lv hl => let ⟨o, h, q⟩ := k lv hl; ⟨o, zr_alen hd h0 h, q⟩
theorem r_new {idx ci n : Nat} {fs : List Value} (hd : decode M.2.1 pc = .ok (.new idx, 3)) (h0 : z_nOK M.1.cls idx ci n fs) (k : Ru d M (pc + 3) L (.ref S.1 :: st) (z_new S (.inr (ci, fs)) n) Q) : Ru d M pc L (st) S Q := fun lv hl => let ⟨o, h, q⟩ := k lv hl; ⟨o, zr_new hd h0 h, q⟩
theorem r_newi {n : Int32} {N : Nat} (hd : decode M.2.1 pc = .ok (.newarray .int, 2)) (h0 : ¬ n < 0) (h1 : n.toNatClampNeg = N) (h2 : N * componentBytes .int ≤ 536870912) (h3 : Cond.arrayClass .int ∈ z_tb) (k : Ru d M (pc + 2) L (.ref S.1 :: st) (z_new S (.inl (.int, N, .inl (fun _ => 0))) N) Q) : Ru d M pc L (.int n :: st) S Q := fun lv hl => let ⟨o, h, q⟩ := k lv hl; ⟨o, zr_newi hd h0 h1 h2 h3 h, q⟩
theorem r_newb {n : Int32} {N : Nat} (hd : decode M.2.1 pc = .ok (.newarray .byte, 2)) (h0 : ¬ n < 0) (h1 : n.toNatClampNeg = N) (h2 : N * componentBytes .byte ≤ 536870912) (h3 : Cond.arrayClass .byte ∈ z_tb) (k : Ru d M (pc + 2) L (.ref S.1 :: st) (z_new S (.inl (.byte, N, .inl (fun _ => 0))) N) Q) : Ru d M pc L (.int n :: st) S Q := fun lv hl => let ⟨o, h, q⟩ := k lv hl; ⟨o, zr_newb hd h0 h1 h2 h3 h, q⟩
theorem r_newz {n : Int32} {N : Nat} (hd : decode M.2.1 pc = .ok (.newarray .boolean, 2)) (h0 : ¬ n < 0) (h1 : n.toNatClampNeg = N) (h2 : N * componentBytes .boolean ≤ 536870912) (h3 : Cond.arrayClass .boolean ∈ z_tb) (k : Ru d M (pc + 2) L (.ref S.1 :: st) (z_new S (.inl (.boolean, N, .inl (fun _ => 0))) N) Q) : Ru d M pc L (.int n :: st) S Q := fun lv hl => let ⟨o, h, q⟩ := k lv hl; ⟨o, zr_newz hd h0 h1 h2 h3 h, q⟩
theorem r_newl {n : Int32} {N : Nat} (hd : decode M.2.1 pc = .ok (.newarray .long, 2)) (h0 : ¬ n < 0) (h1 : n.toNatClampNeg = N) (h2 : N * componentBytes .long ≤ 536870912) (h3 : Cond.arrayClass .long ∈ z_tb) (k : Ru d M (pc + 2) L (.ref S.1 :: st) (z_new S (.inl (.long, N, .inr (.inl (fun _ => 0)))) N) Q) : Ru d M pc L (.int n :: st) S Q := fun lv hl => let ⟨o, h, q⟩ := k lv hl; ⟨o, zr_newl hd h0 h1 h2 h3 h, q⟩
theorem r_ldc {idx : Nat} {v : Int32} (hd : decode M.2.1 pc = .ok (.ldc idx, 2)) (h0 : Cond.constant M.1.cls idx v ∈ z_tb) (k : Ru d M (pc + 2) L (.int v :: st) S Q) : Ru d M pc L (st) S Q := fun lv hl => let ⟨o, h, q⟩ := k lv hl; ⟨o, zr_ldc hd h0 h, q⟩
theorem r_ldcw {idx : Nat} {v : Int32} (hd : decode M.2.1 pc = .ok (.ldc_w idx, 3)) (h0 : Cond.constant M.1.cls idx v ∈ z_tb) (k : Ru d M (pc + 3) L (.int v :: st) S Q) : Ru d M pc L (st) S Q := fun lv hl => let ⟨o, h, q⟩ := k lv hl; ⟨o, zr_ldcw hd h0 h, q⟩
theorem r_ldc2 {idx : Nat} {v : Int64} (hd : decode M.2.1 pc = .ok (.ldc2_w idx, 3)) (h0 : Cond.constantLong M.1.cls idx v ∈ z_tb) (k : Ru d M (pc + 3) L (.long v :: st) S Q) : Ru d M pc L (st) S Q := fun lv hl => let ⟨o, h, q⟩ := k lv hl; ⟨o, zr_ldc2 hd h0 h, q⟩
theorem r_lcmp {x y : Int64} (hd : decode M.2.1 pc = .ok (.lcmp, 1))  (k : Ru d M (pc + 1) L (.int (lg_cmp x y) :: st) S Q) : Ru d M pc L (.long y :: .long x :: st) S Q := fun lv hl => let ⟨o, h, q⟩ := k lv hl; ⟨o, zr_lcmp hd  h, q⟩
theorem r_dup_x1 {v u : Value} (hd : decode M.2.1 pc = .ok (.dup_x1, 1)) (h0 : v.category = 1) (h1 : u.category = 1) (k : Ru d M (pc + 1) L (v :: u :: v :: st) S Q) : Ru d M pc L (v :: u :: st) S Q := fun lv hl => let ⟨o, h, q⟩ := k lv hl; ⟨o, zr_dup_x1 hd h0 h1 h, q⟩
theorem r_objInit {idx i : Nat} (hd : decode M.2.1 pc = .ok (.invokespecial idx, 3)) (h0 : Cond.methodLink M.1.cls idx Lib.objectInit ∈ z_tb) (h1 : (st.map Value.category).sum ≤ 8) (k : Ru (d + 1) M (pc + 3) L (st) S Q) : Ru (d + 1) M pc L (.ref i :: st) S Q := fun lv hl => let ⟨o, h, q⟩ := k lv hl; ⟨o, zr_objInit hd h0 h1 h, q⟩
theorem r_mmax {idx : Nat} {x y : Int32} (hd : decode M.2.1 pc = .ok (.invokestatic idx, 3)) (h0 : Cond.methodLink M.1.cls idx Lib.Math.max.name ∈ z_tb) (h1 : (st.map Value.category).sum ≤ 8) (k : Ru (d + 1) M (pc + 3) L (.int (if x < y then y else x) :: st) S Q) : Ru (d + 1) M pc L (.int y :: .int x :: st) S Q := fun lv hl => let ⟨o, h, q⟩ := k lv hl; ⟨o, zr_mmax hd h0 h1 h, q⟩
theorem r_mmin {idx : Nat} {x y : Int32} (hd : decode M.2.1 pc = .ok (.invokestatic idx, 3)) (h0 : Cond.methodLink M.1.cls idx Lib.Math.min.name ∈ z_tb) (h1 : (st.map Value.category).sum ≤ 8) (k : Ru (d + 1) M (pc + 3) L (.int (if y < x then y else x) :: st) S Q) : Ru (d + 1) M pc L (.int y :: .int x :: st) S Q := fun lv hl => let ⟨o, h, q⟩ := k lv hl; ⟨o, zr_mmin hd h0 h1 h, q⟩
theorem r_cast {idx i ci n : Nat} {fs fs0 : List Value} (hd : decode M.2.1 pc = .ok (.checkcast idx, 3)) (h0 : z_nOK M.1.cls idx ci n fs0) (h1 : S.2.2 i = .inr (ci, fs)) (k : Ru d M (pc + 3) L (.ref i :: st) S Q) : Ru d M pc L (.ref i :: st) S Q := fun lv hl => let ⟨o, h, q⟩ := k lv hl; ⟨o, zr_cast hd h0 h1 h, q⟩
theorem r_castN {idx : Nat} (hd : decode M.2.1 pc = .ok (.checkcast idx, 3))  (k : Ru d M (pc + 3) L (.null :: st) S Q) : Ru d M pc L (.null :: st) S Q := fun lv hl => let ⟨o, h, q⟩ := k lv hl; ⟨o, zr_castN hd  h, q⟩
theorem r_aastN {i n : Nat} {x : Int32} {C9 : String} {g : Nat → Option Nat} (hd : decode M.2.1 pc = .ok (.aastore, 1)) (h0 : S.2.2 i = .inl (.object C9, n, .inr (.inr (.inr (.inr g))))) (h1 : vp_in x n) (k : Ru d M (pc + 1) L (st) (z_put S i (.inl (.object C9, n, .inr (.inr (.inr (.inr (va_up g x.toNatClampNeg none))))))) Q) : Ru d M pc L (.null :: .int x :: .ref i :: st) S Q := fun lv hl => let ⟨o, h, q⟩ := k lv hl; ⟨o, zr_aastN hd h0 h1 h, q⟩
theorem r_gsC {idx : Nat} (hd : decode M.2.1 pc = .ok (.getstatic idx, 3)) (h0 : Cond.fieldLink M.1.cls idx "java/lang/String" "COMPACT_STRINGS" "Z" ∈ z_tb) (k : Ru d M (pc + 3) L (.int 1 :: st) S Q) : Ru d M pc L (st) S Q := fun lv hl => let ⟨o, h, q⟩ := k lv hl; ⟨o, zr_gsC hd h0 h, q⟩
theorem r_gsD {idx : Nat} (hd : decode M.2.1 pc = .ok (.getstatic idx, 3)) (h0 : Cond.fieldLink M.1.cls idx "java/util/ArrayList" "DEFAULTCAPACITY_EMPTY_ELEMENTDATA" "[Ljava/lang/Object;" ∈ z_tb) (k : Ru d M (pc + 3) L (.retAddr 50 :: st) S Q) : Ru d M pc L (st) S Q := fun lv hl => let ⟨o, h, q⟩ := k lv hl; ⟨o, zr_gsD hd h0 h, q⟩
theorem r_gfV {idx k9 : Nat} (hd : decode M.2.1 pc = .ok (.getfield idx, 3)) (h0 : Cond.fieldLink M.1.cls idx "java/lang/String" "value" "[B" ∈ z_tb) (h1 : k9 < 7) (k : Ru d M (pc + 3) L (.retAddr (100 + k9) :: st) S Q) : Ru d M pc L (.retAddr k9 :: st) S Q := fun lv hl => let ⟨o, h, q⟩ := k lv hl; ⟨o, zr_gfV hd h0 h1 h, q⟩
theorem r_gfC {idx k9 : Nat} (hd : decode M.2.1 pc = .ok (.getfield idx, 3)) (h0 : Cond.fieldLink M.1.cls idx "java/lang/String" "coder" "B" ∈ z_tb) (h1 : k9 < 7) (k : Ru d M (pc + 3) L (.int 0 :: st) S Q) : Ru d M pc L (.retAddr k9 :: st) S Q := fun lv hl => let ⟨o, h, q⟩ := k lv hl; ⟨o, zr_gfC hd h0 h1 h, q⟩
theorem r_alS {k9 : Nat} (hd : decode M.2.1 pc = .ok (.arraylength, 1)) (h0 : k9 < 7) (k : Ru d M (pc + 1) L (.int (nI (z_sb k9).length) :: st) S Q) : Ru d M pc L (.retAddr (100 + k9) :: st) S Q := fun lv hl => let ⟨o, h, q⟩ := k lv hl; ⟨o, zr_alS hd h0 h, q⟩
theorem r_alD  (hd : decode M.2.1 pc = .ok (.arraylength, 1))  (k : Ru d M (pc + 1) L (.int 0 :: st) S Q) : Ru d M pc L (.retAddr 50 :: st) S Q := fun lv hl => let ⟨o, h, q⟩ := k lv hl; ⟨o, zr_alD hd  h, q⟩
theorem r_baS {k9 j : Nat} (hd : decode M.2.1 pc = .ok (.baload, 1)) (h0 : k9 < 7) (h1 : j < (z_sb k9).length) (k : Ru d M (pc + 1) L (.int (nI ((z_sb k9).getD j 0)) :: st) S Q) : Ru d M pc L (.int (nI j) :: .retAddr (100 + k9) :: st) S Q := fun lv hl => let ⟨o, h, q⟩ := k lv hl; ⟨o, zr_baS hd h0 h1 h, q⟩
theorem r_acE {k9 : Nat} {off : Int} {tgt : Nat} (hd : decode M.2.1 pc = .ok (.if_acmp .eq off, 3)) (h0 : (pc : Int) + off = (tgt : Int)) (k : Ru d M (tgt) L (st) S Q) : Ru d M pc L (.retAddr k9 :: .retAddr k9 :: st) S Q := fun lv hl => let ⟨o, h, q⟩ := k lv hl; ⟨o, zr_acE hd h0 h, q⟩
theorem r_acN {k9 : Nat} {off : Int} {tgt : Nat} (hd : decode M.2.1 pc = .ok (.if_acmp .ne off, 3)) (h0 : (pc : Int) + off = (tgt : Int)) (k : Ru d M (pc + 3) L (st) S Q) : Ru d M pc L (.retAddr k9 :: .retAddr k9 :: st) S Q := fun lv hl => let ⟨o, h, q⟩ := k lv hl; ⟨o, zr_acN hd h0 h, q⟩
theorem r_ldcM {idx : Nat} (hd : decode M.2.1 pc = .ok (.ldc idx, 2)) (h0 : Cond.classLink M.1.cls idx "[Ljava/lang/Object;" ∈ z_tb) (k : Ru d M (pc + 2) L (.retAddr 51 :: st) S Q) : Ru d M pc L (st) S Q := fun lv hl => let ⟨o, h, q⟩ := k lv hl; ⟨o, zr_ldcM hd h0 h, q⟩
theorem r_ldcS {idx k9 : Nat} (hd : decode M.2.1 pc = .ok (.ldc_w idx, 3)) (h0 : M.1.cls = "MacroReader" ∧ (z_sx[k9]?).map (fun q => q.1) = some idx) (k : Ru d M (pc + 3) L (.retAddr k9 :: st) S Q) : Ru d M pc L (st) S Q := fun lv hl => let ⟨o, h, q⟩ := k lv hl; ⟨o, zr_ldcS hd h0 h, q⟩
theorem r_getC {idx i n : Nat} {g : Nat → Option Nat} (hd : decode M.2.1 pc = .ok (.invokevirtual idx, 3)) (h0 : Cond.methodLink M.1.cls idx ⟨"java/lang/Object", "getClass", "()Ljava/lang/Class;"⟩ ∈ z_tb) (h1 : S.2.2 i = .inl (.object "java/lang/Object", n, .inr (.inr (.inr (.inr g))))) (h2 : (st.map Value.category).sum ≤ 8) (k : Ru (d + 1) M (pc + 3) L (.retAddr 51 :: st) S Q) : Ru (d + 1) M pc L (.ref i :: st) S Q := fun lv hl => let ⟨o, h, q⟩ := k lv hl; ⟨o, zr_getC hd h0 h1 h2 h, q⟩
theorem r_acpI {idx i j n N k9 : Nat} {ty : FieldType} {f g : Nat → Int32} (hd : decode M.2.1 pc = .ok (.invokestatic idx, 3)) (h0 : Cond.methodLink M.1.cls idx arraycopyName ∈ z_tb) (h1 : S.2.2 i = .inl (ty, n, .inl f)) (h2 : S.2.2 j = .inl (ty, N, .inl g)) (h3 : k9 ≤ n ∧ k9 ≤ N ∧ k9 < 2 ^ 31) (h4 : (st.map Value.category).sum ≤ 8) (h5 : ty = .byte ∨ ty = .int) (k : Ru (d + 1) M (pc + 3) L (st) (z_put S j (.inl (ty, N, .inl (va_cpy f g 0 0 k9)))) Q) : Ru (d + 1) M pc L (.int (nI k9) :: .int 0 :: .ref j :: .int 0 :: .ref i :: st) S Q := fun lv hl => let ⟨o, h, q⟩ := k lv hl; ⟨o, zr_acpI hd h0 h1 h2 h3 h4 h5 h, q⟩
theorem r_acpQ {idx i j n N k9 : Nat} {f g : Nat → Option Nat} (hd : decode M.2.1 pc = .ok (.invokestatic idx, 3)) (h0 : Cond.methodLink M.1.cls idx arraycopyName ∈ z_tb) (h1 : S.2.2 i = .inl (.object "java/lang/Object", n, .inr (.inr (.inr (.inr f))))) (h2 : S.2.2 j = .inl (.object "java/lang/Object", N, .inr (.inr (.inr (.inr g))))) (h3 : k9 ≤ n ∧ k9 ≤ N ∧ k9 < 2 ^ 31) (h4 : (st.map Value.category).sum ≤ 8) (h5 : ∀ x y, x < k9 → f x = some y → ∃ fs, S.2.2 y = .inr (3, fs)) (k : Ru (d + 1) M (pc + 3) L (st) (z_put S j (.inl (.object "java/lang/Object", N, .inr (.inr (.inr (.inr (va_cpy f g 0 0 k9))))))) Q) : Ru (d + 1) M pc L (.int (nI k9) :: .int 0 :: .ref j :: .int 0 :: .ref i :: st) S Q := fun lv hl => let ⟨o, h, q⟩ := k lv hl; ⟨o, zr_acpQ hd h0 h1 h2 h3 h4 h5 h, q⟩
theorem r_aastO {i n j : Nat} {x : Int32} {g : Nat → Option Nat} {vs : List Value} (hd : decode M.2.1 pc = .ok (.aastore, 1)) (h0 : S.2.2 i = .inl (.object "java/lang/Object", n, .inr (.inr (.inr (.inr g))))) (h1 : vp_in x n) (h2 : S.2.2 j = .inr (3, vs)) (k : Ru d M (pc + 1) L (st) (z_put S i (.inl (.object "java/lang/Object", n, .inr (.inr (.inr (.inr (va_up g x.toNatClampNeg (some j)))))))) Q) : Ru d M pc L (.ref j :: .int x :: .ref i :: st) S Q := fun lv hl => let ⟨o, h, q⟩ := k lv hl; ⟨o, zr_aastO hd h0 h1 h2 h, q⟩
theorem r_gfm {idx i : Nat} {r9 : String} {fs : List Value} {v : Value} (hd : decode M.2.1 pc = .ok (.getfield idx, 3)) (h0 : (r9 = "java/util/ArrayList" ∨ r9 = "java/util/AbstractList") ∧ Cond.fieldLink M.1.cls idx r9 "modCount" "I" ∈ z_tb) (h1 : S.2.2 i = .inr (0, fs)) (h2 : fs[0]? = some v) (k : Ru d M (pc + 3) L (v :: st) S Q) : Ru d M pc L (.ref i :: st) S Q := fun lv hl => let ⟨o, h, q⟩ := k lv hl; ⟨o, zr_gfm hd h0 h1 h2 h, q⟩
theorem r_pfm {idx i : Nat} {r9 : String} {fs : List Value} {x : Int32} (hd : decode M.2.1 pc = .ok (.putfield idx, 3)) (h0 : (r9 = "java/util/ArrayList" ∨ r9 = "java/util/AbstractList") ∧ Cond.fieldLink M.1.cls idx r9 "modCount" "I" ∈ z_tb) (h1 : S.2.2 i = .inr (0, fs)) (h2 : 0 < fs.length) (k : Ru d M (pc + 3) L (st) (z_put S i (.inr (0, fs.set 0 (.int x)))) Q) : Ru d M pc L (.int x :: .ref i :: st) S Q := fun lv hl => let ⟨o, h, q⟩ := k lv hl; ⟨o, zr_pfm hd h0 h1 h2 h, q⟩
theorem r_anewq {idx : Nat} {C9 : String} {n : Int32} {N : Nat} (hd : decode M.2.1 pc = .ok (.anewarray idx, 3)) (h0 : Cond.classLink M.1.cls idx C9 ∈ z_tb ∧ Cond.arrayOver (.object C9) ∈ tables_1) (h1 : ¬ n < 0) (h2 : n.toNatClampNeg = N) (h3 : N * 4 ≤ 536870912) (k : Ru d M (pc + 3) L (.ref S.1 :: st) (z_new S (.inl (.object C9, N, .inr (.inr (.inr (.inr (fun _ => none)))))) N) Q) : Ru d M pc L (.int n :: st) S Q := fun lv hl => let ⟨o, h, q⟩ := k lv hl; ⟨o, zr_anewq hd h0 h1 h2 h3 h, q⟩
theorem r_mna {idx i : Nat} {ty : FieldType} {a9 : vp_A} {n kq : Int32} {N9 L9 : Nat} (hd : decode M.2.1 pc = .ok (.multianewarray idx 2, 4)) (h0 : Cond.classLink M.1.cls idx ("[" ++ (FieldType.array ty).toString) ∈ z_tb ∧ Cond.arrayClass ty ∈ z_tb ∧ Cond.arrayOver (.array ty) ∈ tables_1) (h1 : ty = .byte ∨ ty = .int) (h2 : i < S.1 ∧ S.2.2 i = .inl (ty, a9)) (h3 : (¬ n < 0) ∧ ¬ kq < 0) (h4 : n.toNatClampNeg = N9 ∧ kq.toNatClampNeg = L9) (h5 : N9 * 4 ≤ 536870912 ∧ L9 * componentBytes ty ≤ 536870912 ∧ L9 ≤ 536870912) (k : Ru d M (pc + 4) L (.ref S.1 :: st) (z_mna S ty N9 L9) Q) : Ru d M pc L (.int kq :: .int n :: st) S Q := fun lv hl => let ⟨o, h, q⟩ := k lv hl; ⟨o, zr_mna hd h0 h1 h2 h3 h4 h5 h, q⟩
theorem r_callS0 {idx : Nat} {M1 : zM} {Q1 : Option Value → zS → Prop} (hd : decode M.2.1 pc = .ok (.invokestatic idx, 3)) (hm : z_mOK M.1.cls idx 2 0 M1) (hfit : (lg_sl []).length ≤ M1.2.2.1) (hst : (st.map Value.category).sum ≤ 8) (hc : Rc d M1 [] S Q1) (k : ∀ r S1, Q1 r S1 → Ru (d + 1) M (pc + 3) L (r.toList ++ st) S1 Q) : Ru (d + 1) M pc L (st) S Q := by
  intro lv hl
  obtain ⟨o1, r, h1, h2, h3⟩ := hc
  obtain ⟨o, h, q⟩ := k r o1.2.2.2 h3 lv hl
  exact ⟨o, zr_callS (as := []) hd hm rfl hfit hst h2 h1 h, q⟩
theorem r_callS1 {idx : Nat} {M1 : zM} {Q1 : Option Value → zS → Prop} {a1 : Value} (hd : decode M.2.1 pc = .ok (.invokestatic idx, 3)) (hm : z_mOK M.1.cls idx 2 1 M1) (hfit : (lg_sl [a1]).length ≤ M1.2.2.1) (hst : (st.map Value.category).sum ≤ 8) (hc : Rc d M1 [a1] S Q1) (k : ∀ r S1, Q1 r S1 → Ru (d + 1) M (pc + 3) L (r.toList ++ st) S1 Q) : Ru (d + 1) M pc L (a1 :: st) S Q := by
  intro lv hl
  obtain ⟨o1, r, h1, h2, h3⟩ := hc
  obtain ⟨o, h, q⟩ := k r o1.2.2.2 h3 lv hl
  exact ⟨o, zr_callS (as := [a1]) hd hm rfl hfit hst h2 h1 h, q⟩
theorem r_callS2 {idx : Nat} {M1 : zM} {Q1 : Option Value → zS → Prop} {a1 a2 : Value} (hd : decode M.2.1 pc = .ok (.invokestatic idx, 3)) (hm : z_mOK M.1.cls idx 2 2 M1) (hfit : (lg_sl [a1, a2]).length ≤ M1.2.2.1) (hst : (st.map Value.category).sum ≤ 8) (hc : Rc d M1 [a1, a2] S Q1) (k : ∀ r S1, Q1 r S1 → Ru (d + 1) M (pc + 3) L (r.toList ++ st) S1 Q) : Ru (d + 1) M pc L (a2 :: a1 :: st) S Q := by
  intro lv hl
  obtain ⟨o1, r, h1, h2, h3⟩ := hc
  obtain ⟨o, h, q⟩ := k r o1.2.2.2 h3 lv hl
  exact ⟨o, zr_callS (as := [a1, a2]) hd hm rfl hfit hst h2 h1 h, q⟩
theorem r_callS3 {idx : Nat} {M1 : zM} {Q1 : Option Value → zS → Prop} {a1 a2 a3 : Value} (hd : decode M.2.1 pc = .ok (.invokestatic idx, 3)) (hm : z_mOK M.1.cls idx 2 3 M1) (hfit : (lg_sl [a1, a2, a3]).length ≤ M1.2.2.1) (hst : (st.map Value.category).sum ≤ 8) (hc : Rc d M1 [a1, a2, a3] S Q1) (k : ∀ r S1, Q1 r S1 → Ru (d + 1) M (pc + 3) L (r.toList ++ st) S1 Q) : Ru (d + 1) M pc L (a3 :: a2 :: a1 :: st) S Q := by
  intro lv hl
  obtain ⟨o1, r, h1, h2, h3⟩ := hc
  obtain ⟨o, h, q⟩ := k r o1.2.2.2 h3 lv hl
  exact ⟨o, zr_callS (as := [a1, a2, a3]) hd hm rfl hfit hst h2 h1 h, q⟩
theorem r_callS4 {idx : Nat} {M1 : zM} {Q1 : Option Value → zS → Prop} {a1 a2 a3 a4 : Value} (hd : decode M.2.1 pc = .ok (.invokestatic idx, 3)) (hm : z_mOK M.1.cls idx 2 4 M1) (hfit : (lg_sl [a1, a2, a3, a4]).length ≤ M1.2.2.1) (hst : (st.map Value.category).sum ≤ 8) (hc : Rc d M1 [a1, a2, a3, a4] S Q1) (k : ∀ r S1, Q1 r S1 → Ru (d + 1) M (pc + 3) L (r.toList ++ st) S1 Q) : Ru (d + 1) M pc L (a4 :: a3 :: a2 :: a1 :: st) S Q := by
  intro lv hl
  obtain ⟨o1, r, h1, h2, h3⟩ := hc
  obtain ⟨o, h, q⟩ := k r o1.2.2.2 h3 lv hl
  exact ⟨o, zr_callS (as := [a1, a2, a3, a4]) hd hm rfl hfit hst h2 h1 h, q⟩
theorem r_callS5 {idx : Nat} {M1 : zM} {Q1 : Option Value → zS → Prop} {a1 a2 a3 a4 a5 : Value} (hd : decode M.2.1 pc = .ok (.invokestatic idx, 3)) (hm : z_mOK M.1.cls idx 2 5 M1) (hfit : (lg_sl [a1, a2, a3, a4, a5]).length ≤ M1.2.2.1) (hst : (st.map Value.category).sum ≤ 8) (hc : Rc d M1 [a1, a2, a3, a4, a5] S Q1) (k : ∀ r S1, Q1 r S1 → Ru (d + 1) M (pc + 3) L (r.toList ++ st) S1 Q) : Ru (d + 1) M pc L (a5 :: a4 :: a3 :: a2 :: a1 :: st) S Q := by
  intro lv hl
  obtain ⟨o1, r, h1, h2, h3⟩ := hc
  obtain ⟨o, h, q⟩ := k r o1.2.2.2 h3 lv hl
  exact ⟨o, zr_callS (as := [a1, a2, a3, a4, a5]) hd hm rfl hfit hst h2 h1 h, q⟩
theorem r_callS6 {idx : Nat} {M1 : zM} {Q1 : Option Value → zS → Prop} {a1 a2 a3 a4 a5 a6 : Value} (hd : decode M.2.1 pc = .ok (.invokestatic idx, 3)) (hm : z_mOK M.1.cls idx 2 6 M1) (hfit : (lg_sl [a1, a2, a3, a4, a5, a6]).length ≤ M1.2.2.1) (hst : (st.map Value.category).sum ≤ 8) (hc : Rc d M1 [a1, a2, a3, a4, a5, a6] S Q1) (k : ∀ r S1, Q1 r S1 → Ru (d + 1) M (pc + 3) L (r.toList ++ st) S1 Q) : Ru (d + 1) M pc L (a6 :: a5 :: a4 :: a3 :: a2 :: a1 :: st) S Q := by
  intro lv hl
  obtain ⟨o1, r, h1, h2, h3⟩ := hc
  obtain ⟨o, h, q⟩ := k r o1.2.2.2 h3 lv hl
  exact ⟨o, zr_callS (as := [a1, a2, a3, a4, a5, a6]) hd hm rfl hfit hst h2 h1 h, q⟩
theorem r_callSN0 {idx : Nat} {M1 : zM} {Q1 : Option Value → zS → Prop} (hd : decode M.2.1 pc = .ok (.invokestatic idx, 3)) (hm : z_mOK M.1.cls idx 3 0 M1) (hfit : (lg_sl []).length ≤ M1.2.2.1) (hst : (st.map Value.category).sum ≤ 8) (hc : Rc d M1 [] S Q1) (k : ∀ r S1, Q1 r S1 → Ru (d + 1) M (pc + 3) L (r.toList ++ st) S1 Q) : Ru (d + 1) M pc L (st) S Q := by
  intro lv hl
  obtain ⟨o1, r, h1, h2, h3⟩ := hc
  obtain ⟨o, h, q⟩ := k r o1.2.2.2 h3 lv hl
  exact ⟨o, zr_callSN (as := []) hd hm rfl hfit hst h2 h1 h, q⟩
theorem r_callSN1 {idx : Nat} {M1 : zM} {Q1 : Option Value → zS → Prop} {a1 : Value} (hd : decode M.2.1 pc = .ok (.invokestatic idx, 3)) (hm : z_mOK M.1.cls idx 3 1 M1) (hfit : (lg_sl [a1]).length ≤ M1.2.2.1) (hst : (st.map Value.category).sum ≤ 8) (hc : Rc d M1 [a1] S Q1) (k : ∀ r S1, Q1 r S1 → Ru (d + 1) M (pc + 3) L (r.toList ++ st) S1 Q) : Ru (d + 1) M pc L (a1 :: st) S Q := by
  intro lv hl
  obtain ⟨o1, r, h1, h2, h3⟩ := hc
  obtain ⟨o, h, q⟩ := k r o1.2.2.2 h3 lv hl
  exact ⟨o, zr_callSN (as := [a1]) hd hm rfl hfit hst h2 h1 h, q⟩
theorem r_callSN2 {idx : Nat} {M1 : zM} {Q1 : Option Value → zS → Prop} {a1 a2 : Value} (hd : decode M.2.1 pc = .ok (.invokestatic idx, 3)) (hm : z_mOK M.1.cls idx 3 2 M1) (hfit : (lg_sl [a1, a2]).length ≤ M1.2.2.1) (hst : (st.map Value.category).sum ≤ 8) (hc : Rc d M1 [a1, a2] S Q1) (k : ∀ r S1, Q1 r S1 → Ru (d + 1) M (pc + 3) L (r.toList ++ st) S1 Q) : Ru (d + 1) M pc L (a2 :: a1 :: st) S Q := by
  intro lv hl
  obtain ⟨o1, r, h1, h2, h3⟩ := hc
  obtain ⟨o, h, q⟩ := k r o1.2.2.2 h3 lv hl
  exact ⟨o, zr_callSN (as := [a1, a2]) hd hm rfl hfit hst h2 h1 h, q⟩
theorem r_callSN3 {idx : Nat} {M1 : zM} {Q1 : Option Value → zS → Prop} {a1 a2 a3 : Value} (hd : decode M.2.1 pc = .ok (.invokestatic idx, 3)) (hm : z_mOK M.1.cls idx 3 3 M1) (hfit : (lg_sl [a1, a2, a3]).length ≤ M1.2.2.1) (hst : (st.map Value.category).sum ≤ 8) (hc : Rc d M1 [a1, a2, a3] S Q1) (k : ∀ r S1, Q1 r S1 → Ru (d + 1) M (pc + 3) L (r.toList ++ st) S1 Q) : Ru (d + 1) M pc L (a3 :: a2 :: a1 :: st) S Q := by
  intro lv hl
  obtain ⟨o1, r, h1, h2, h3⟩ := hc
  obtain ⟨o, h, q⟩ := k r o1.2.2.2 h3 lv hl
  exact ⟨o, zr_callSN (as := [a1, a2, a3]) hd hm rfl hfit hst h2 h1 h, q⟩
theorem r_callSN4 {idx : Nat} {M1 : zM} {Q1 : Option Value → zS → Prop} {a1 a2 a3 a4 : Value} (hd : decode M.2.1 pc = .ok (.invokestatic idx, 3)) (hm : z_mOK M.1.cls idx 3 4 M1) (hfit : (lg_sl [a1, a2, a3, a4]).length ≤ M1.2.2.1) (hst : (st.map Value.category).sum ≤ 8) (hc : Rc d M1 [a1, a2, a3, a4] S Q1) (k : ∀ r S1, Q1 r S1 → Ru (d + 1) M (pc + 3) L (r.toList ++ st) S1 Q) : Ru (d + 1) M pc L (a4 :: a3 :: a2 :: a1 :: st) S Q := by
  intro lv hl
  obtain ⟨o1, r, h1, h2, h3⟩ := hc
  obtain ⟨o, h, q⟩ := k r o1.2.2.2 h3 lv hl
  exact ⟨o, zr_callSN (as := [a1, a2, a3, a4]) hd hm rfl hfit hst h2 h1 h, q⟩
theorem r_callSN5 {idx : Nat} {M1 : zM} {Q1 : Option Value → zS → Prop} {a1 a2 a3 a4 a5 : Value} (hd : decode M.2.1 pc = .ok (.invokestatic idx, 3)) (hm : z_mOK M.1.cls idx 3 5 M1) (hfit : (lg_sl [a1, a2, a3, a4, a5]).length ≤ M1.2.2.1) (hst : (st.map Value.category).sum ≤ 8) (hc : Rc d M1 [a1, a2, a3, a4, a5] S Q1) (k : ∀ r S1, Q1 r S1 → Ru (d + 1) M (pc + 3) L (r.toList ++ st) S1 Q) : Ru (d + 1) M pc L (a5 :: a4 :: a3 :: a2 :: a1 :: st) S Q := by
  intro lv hl
  obtain ⟨o1, r, h1, h2, h3⟩ := hc
  obtain ⟨o, h, q⟩ := k r o1.2.2.2 h3 lv hl
  exact ⟨o, zr_callSN (as := [a1, a2, a3, a4, a5]) hd hm rfl hfit hst h2 h1 h, q⟩
theorem r_callSN6 {idx : Nat} {M1 : zM} {Q1 : Option Value → zS → Prop} {a1 a2 a3 a4 a5 a6 : Value} (hd : decode M.2.1 pc = .ok (.invokestatic idx, 3)) (hm : z_mOK M.1.cls idx 3 6 M1) (hfit : (lg_sl [a1, a2, a3, a4, a5, a6]).length ≤ M1.2.2.1) (hst : (st.map Value.category).sum ≤ 8) (hc : Rc d M1 [a1, a2, a3, a4, a5, a6] S Q1) (k : ∀ r S1, Q1 r S1 → Ru (d + 1) M (pc + 3) L (r.toList ++ st) S1 Q) : Ru (d + 1) M pc L (a6 :: a5 :: a4 :: a3 :: a2 :: a1 :: st) S Q := by
  intro lv hl
  obtain ⟨o1, r, h1, h2, h3⟩ := hc
  obtain ⟨o, h, q⟩ := k r o1.2.2.2 h3 lv hl
  exact ⟨o, zr_callSN (as := [a1, a2, a3, a4, a5, a6]) hd hm rfl hfit hst h2 h1 h, q⟩
theorem r_callV0 {idx : Nat} {M1 : zM} {Q1 : Option Value → zS → Prop} {b : Nat} {ci : Nat} {fs : List Value} (hd : decode M.2.1 pc = .ok (.invokevirtual idx, 3)) (hm : z_mOK M.1.cls idx 0 0 M1) (hb : S.2.2 b = .inr (ci, fs)) (hcn : (vwCl[ci]?).map (fun q => q.1) = some M1.1.cls) (hfit : (lg_sl (.ref b :: [])).length ≤ M1.2.2.1) (hst : (st.map Value.category).sum ≤ 8) (hc : Rc d M1 (.ref b :: []) S Q1) (k : ∀ r S1, Q1 r S1 → Ru (d + 1) M (pc + 3) L (r.toList ++ st) S1 Q) : Ru (d + 1) M pc L (.ref b :: st) S Q := by
  intro lv hl
  obtain ⟨o1, r, h1, h2, h3⟩ := hc
  obtain ⟨o, h, q⟩ := k r o1.2.2.2 h3 lv hl
  exact ⟨o, zr_callV (as := []) hd hm rfl hfit hst h2 hb hcn h1 h, q⟩
theorem r_callV1 {idx : Nat} {M1 : zM} {Q1 : Option Value → zS → Prop} {a1 : Value} {b : Nat} {ci : Nat} {fs : List Value} (hd : decode M.2.1 pc = .ok (.invokevirtual idx, 3)) (hm : z_mOK M.1.cls idx 0 1 M1) (hb : S.2.2 b = .inr (ci, fs)) (hcn : (vwCl[ci]?).map (fun q => q.1) = some M1.1.cls) (hfit : (lg_sl (.ref b :: [a1])).length ≤ M1.2.2.1) (hst : (st.map Value.category).sum ≤ 8) (hc : Rc d M1 (.ref b :: [a1]) S Q1) (k : ∀ r S1, Q1 r S1 → Ru (d + 1) M (pc + 3) L (r.toList ++ st) S1 Q) : Ru (d + 1) M pc L (a1 :: .ref b :: st) S Q := by
  intro lv hl
  obtain ⟨o1, r, h1, h2, h3⟩ := hc
  obtain ⟨o, h, q⟩ := k r o1.2.2.2 h3 lv hl
  exact ⟨o, zr_callV (as := [a1]) hd hm rfl hfit hst h2 hb hcn h1 h, q⟩
theorem r_callV2 {idx : Nat} {M1 : zM} {Q1 : Option Value → zS → Prop} {a1 a2 : Value} {b : Nat} {ci : Nat} {fs : List Value} (hd : decode M.2.1 pc = .ok (.invokevirtual idx, 3)) (hm : z_mOK M.1.cls idx 0 2 M1) (hb : S.2.2 b = .inr (ci, fs)) (hcn : (vwCl[ci]?).map (fun q => q.1) = some M1.1.cls) (hfit : (lg_sl (.ref b :: [a1, a2])).length ≤ M1.2.2.1) (hst : (st.map Value.category).sum ≤ 8) (hc : Rc d M1 (.ref b :: [a1, a2]) S Q1) (k : ∀ r S1, Q1 r S1 → Ru (d + 1) M (pc + 3) L (r.toList ++ st) S1 Q) : Ru (d + 1) M pc L (a2 :: a1 :: .ref b :: st) S Q := by
  intro lv hl
  obtain ⟨o1, r, h1, h2, h3⟩ := hc
  obtain ⟨o, h, q⟩ := k r o1.2.2.2 h3 lv hl
  exact ⟨o, zr_callV (as := [a1, a2]) hd hm rfl hfit hst h2 hb hcn h1 h, q⟩
theorem r_callV3 {idx : Nat} {M1 : zM} {Q1 : Option Value → zS → Prop} {a1 a2 a3 : Value} {b : Nat} {ci : Nat} {fs : List Value} (hd : decode M.2.1 pc = .ok (.invokevirtual idx, 3)) (hm : z_mOK M.1.cls idx 0 3 M1) (hb : S.2.2 b = .inr (ci, fs)) (hcn : (vwCl[ci]?).map (fun q => q.1) = some M1.1.cls) (hfit : (lg_sl (.ref b :: [a1, a2, a3])).length ≤ M1.2.2.1) (hst : (st.map Value.category).sum ≤ 8) (hc : Rc d M1 (.ref b :: [a1, a2, a3]) S Q1) (k : ∀ r S1, Q1 r S1 → Ru (d + 1) M (pc + 3) L (r.toList ++ st) S1 Q) : Ru (d + 1) M pc L (a3 :: a2 :: a1 :: .ref b :: st) S Q := by
  intro lv hl
  obtain ⟨o1, r, h1, h2, h3⟩ := hc
  obtain ⟨o, h, q⟩ := k r o1.2.2.2 h3 lv hl
  exact ⟨o, zr_callV (as := [a1, a2, a3]) hd hm rfl hfit hst h2 hb hcn h1 h, q⟩
theorem r_callV4 {idx : Nat} {M1 : zM} {Q1 : Option Value → zS → Prop} {a1 a2 a3 a4 : Value} {b : Nat} {ci : Nat} {fs : List Value} (hd : decode M.2.1 pc = .ok (.invokevirtual idx, 3)) (hm : z_mOK M.1.cls idx 0 4 M1) (hb : S.2.2 b = .inr (ci, fs)) (hcn : (vwCl[ci]?).map (fun q => q.1) = some M1.1.cls) (hfit : (lg_sl (.ref b :: [a1, a2, a3, a4])).length ≤ M1.2.2.1) (hst : (st.map Value.category).sum ≤ 8) (hc : Rc d M1 (.ref b :: [a1, a2, a3, a4]) S Q1) (k : ∀ r S1, Q1 r S1 → Ru (d + 1) M (pc + 3) L (r.toList ++ st) S1 Q) : Ru (d + 1) M pc L (a4 :: a3 :: a2 :: a1 :: .ref b :: st) S Q := by
  intro lv hl
  obtain ⟨o1, r, h1, h2, h3⟩ := hc
  obtain ⟨o, h, q⟩ := k r o1.2.2.2 h3 lv hl
  exact ⟨o, zr_callV (as := [a1, a2, a3, a4]) hd hm rfl hfit hst h2 hb hcn h1 h, q⟩
theorem r_callV5 {idx : Nat} {M1 : zM} {Q1 : Option Value → zS → Prop} {a1 a2 a3 a4 a5 : Value} {b : Nat} {ci : Nat} {fs : List Value} (hd : decode M.2.1 pc = .ok (.invokevirtual idx, 3)) (hm : z_mOK M.1.cls idx 0 5 M1) (hb : S.2.2 b = .inr (ci, fs)) (hcn : (vwCl[ci]?).map (fun q => q.1) = some M1.1.cls) (hfit : (lg_sl (.ref b :: [a1, a2, a3, a4, a5])).length ≤ M1.2.2.1) (hst : (st.map Value.category).sum ≤ 8) (hc : Rc d M1 (.ref b :: [a1, a2, a3, a4, a5]) S Q1) (k : ∀ r S1, Q1 r S1 → Ru (d + 1) M (pc + 3) L (r.toList ++ st) S1 Q) : Ru (d + 1) M pc L (a5 :: a4 :: a3 :: a2 :: a1 :: .ref b :: st) S Q := by
  intro lv hl
  obtain ⟨o1, r, h1, h2, h3⟩ := hc
  obtain ⟨o, h, q⟩ := k r o1.2.2.2 h3 lv hl
  exact ⟨o, zr_callV (as := [a1, a2, a3, a4, a5]) hd hm rfl hfit hst h2 hb hcn h1 h, q⟩
theorem r_callV6 {idx : Nat} {M1 : zM} {Q1 : Option Value → zS → Prop} {a1 a2 a3 a4 a5 a6 : Value} {b : Nat} {ci : Nat} {fs : List Value} (hd : decode M.2.1 pc = .ok (.invokevirtual idx, 3)) (hm : z_mOK M.1.cls idx 0 6 M1) (hb : S.2.2 b = .inr (ci, fs)) (hcn : (vwCl[ci]?).map (fun q => q.1) = some M1.1.cls) (hfit : (lg_sl (.ref b :: [a1, a2, a3, a4, a5, a6])).length ≤ M1.2.2.1) (hst : (st.map Value.category).sum ≤ 8) (hc : Rc d M1 (.ref b :: [a1, a2, a3, a4, a5, a6]) S Q1) (k : ∀ r S1, Q1 r S1 → Ru (d + 1) M (pc + 3) L (r.toList ++ st) S1 Q) : Ru (d + 1) M pc L (a6 :: a5 :: a4 :: a3 :: a2 :: a1 :: .ref b :: st) S Q := by
  intro lv hl
  obtain ⟨o1, r, h1, h2, h3⟩ := hc
  obtain ⟨o, h, q⟩ := k r o1.2.2.2 h3 lv hl
  exact ⟨o, zr_callV (as := [a1, a2, a3, a4, a5, a6]) hd hm rfl hfit hst h2 hb hcn h1 h, q⟩
theorem r_callI0 {idx : Nat} {M1 : zM} {Q1 : Option Value → zS → Prop} {b : Nat} (hd : decode M.2.1 pc = .ok (.invokespecial idx, 3)) (hm : z_mOK M.1.cls idx 4 0 M1) (hfit : (lg_sl (.ref b :: [])).length ≤ M1.2.2.1) (hst : (st.map Value.category).sum ≤ 8) (hc : Rc d M1 (.ref b :: []) S Q1) (k : ∀ r S1, Q1 r S1 → Ru (d + 1) M (pc + 3) L (r.toList ++ st) S1 Q) : Ru (d + 1) M pc L (.ref b :: st) S Q := by
  intro lv hl
  obtain ⟨o1, r, h1, h2, h3⟩ := hc
  obtain ⟨o, h, q⟩ := k r o1.2.2.2 h3 lv hl
  exact ⟨o, zr_callI (as := []) hd hm rfl hfit hst h2 h1 h, q⟩
theorem r_callI1 {idx : Nat} {M1 : zM} {Q1 : Option Value → zS → Prop} {a1 : Value} {b : Nat} (hd : decode M.2.1 pc = .ok (.invokespecial idx, 3)) (hm : z_mOK M.1.cls idx 4 1 M1) (hfit : (lg_sl (.ref b :: [a1])).length ≤ M1.2.2.1) (hst : (st.map Value.category).sum ≤ 8) (hc : Rc d M1 (.ref b :: [a1]) S Q1) (k : ∀ r S1, Q1 r S1 → Ru (d + 1) M (pc + 3) L (r.toList ++ st) S1 Q) : Ru (d + 1) M pc L (a1 :: .ref b :: st) S Q := by
  intro lv hl
  obtain ⟨o1, r, h1, h2, h3⟩ := hc
  obtain ⟨o, h, q⟩ := k r o1.2.2.2 h3 lv hl
  exact ⟨o, zr_callI (as := [a1]) hd hm rfl hfit hst h2 h1 h, q⟩
theorem r_callI2 {idx : Nat} {M1 : zM} {Q1 : Option Value → zS → Prop} {a1 a2 : Value} {b : Nat} (hd : decode M.2.1 pc = .ok (.invokespecial idx, 3)) (hm : z_mOK M.1.cls idx 4 2 M1) (hfit : (lg_sl (.ref b :: [a1, a2])).length ≤ M1.2.2.1) (hst : (st.map Value.category).sum ≤ 8) (hc : Rc d M1 (.ref b :: [a1, a2]) S Q1) (k : ∀ r S1, Q1 r S1 → Ru (d + 1) M (pc + 3) L (r.toList ++ st) S1 Q) : Ru (d + 1) M pc L (a2 :: a1 :: .ref b :: st) S Q := by
  intro lv hl
  obtain ⟨o1, r, h1, h2, h3⟩ := hc
  obtain ⟨o, h, q⟩ := k r o1.2.2.2 h3 lv hl
  exact ⟨o, zr_callI (as := [a1, a2]) hd hm rfl hfit hst h2 h1 h, q⟩
theorem r_callI3 {idx : Nat} {M1 : zM} {Q1 : Option Value → zS → Prop} {a1 a2 a3 : Value} {b : Nat} (hd : decode M.2.1 pc = .ok (.invokespecial idx, 3)) (hm : z_mOK M.1.cls idx 4 3 M1) (hfit : (lg_sl (.ref b :: [a1, a2, a3])).length ≤ M1.2.2.1) (hst : (st.map Value.category).sum ≤ 8) (hc : Rc d M1 (.ref b :: [a1, a2, a3]) S Q1) (k : ∀ r S1, Q1 r S1 → Ru (d + 1) M (pc + 3) L (r.toList ++ st) S1 Q) : Ru (d + 1) M pc L (a3 :: a2 :: a1 :: .ref b :: st) S Q := by
  intro lv hl
  obtain ⟨o1, r, h1, h2, h3⟩ := hc
  obtain ⟨o, h, q⟩ := k r o1.2.2.2 h3 lv hl
  exact ⟨o, zr_callI (as := [a1, a2, a3]) hd hm rfl hfit hst h2 h1 h, q⟩
theorem r_callI4 {idx : Nat} {M1 : zM} {Q1 : Option Value → zS → Prop} {a1 a2 a3 a4 : Value} {b : Nat} (hd : decode M.2.1 pc = .ok (.invokespecial idx, 3)) (hm : z_mOK M.1.cls idx 4 4 M1) (hfit : (lg_sl (.ref b :: [a1, a2, a3, a4])).length ≤ M1.2.2.1) (hst : (st.map Value.category).sum ≤ 8) (hc : Rc d M1 (.ref b :: [a1, a2, a3, a4]) S Q1) (k : ∀ r S1, Q1 r S1 → Ru (d + 1) M (pc + 3) L (r.toList ++ st) S1 Q) : Ru (d + 1) M pc L (a4 :: a3 :: a2 :: a1 :: .ref b :: st) S Q := by
  intro lv hl
  obtain ⟨o1, r, h1, h2, h3⟩ := hc
  obtain ⟨o, h, q⟩ := k r o1.2.2.2 h3 lv hl
  exact ⟨o, zr_callI (as := [a1, a2, a3, a4]) hd hm rfl hfit hst h2 h1 h, q⟩
theorem r_callI5 {idx : Nat} {M1 : zM} {Q1 : Option Value → zS → Prop} {a1 a2 a3 a4 a5 : Value} {b : Nat} (hd : decode M.2.1 pc = .ok (.invokespecial idx, 3)) (hm : z_mOK M.1.cls idx 4 5 M1) (hfit : (lg_sl (.ref b :: [a1, a2, a3, a4, a5])).length ≤ M1.2.2.1) (hst : (st.map Value.category).sum ≤ 8) (hc : Rc d M1 (.ref b :: [a1, a2, a3, a4, a5]) S Q1) (k : ∀ r S1, Q1 r S1 → Ru (d + 1) M (pc + 3) L (r.toList ++ st) S1 Q) : Ru (d + 1) M pc L (a5 :: a4 :: a3 :: a2 :: a1 :: .ref b :: st) S Q := by
  intro lv hl
  obtain ⟨o1, r, h1, h2, h3⟩ := hc
  obtain ⟨o, h, q⟩ := k r o1.2.2.2 h3 lv hl
  exact ⟨o, zr_callI (as := [a1, a2, a3, a4, a5]) hd hm rfl hfit hst h2 h1 h, q⟩
theorem r_callI6 {idx : Nat} {M1 : zM} {Q1 : Option Value → zS → Prop} {a1 a2 a3 a4 a5 a6 : Value} {b : Nat} (hd : decode M.2.1 pc = .ok (.invokespecial idx, 3)) (hm : z_mOK M.1.cls idx 4 6 M1) (hfit : (lg_sl (.ref b :: [a1, a2, a3, a4, a5, a6])).length ≤ M1.2.2.1) (hst : (st.map Value.category).sum ≤ 8) (hc : Rc d M1 (.ref b :: [a1, a2, a3, a4, a5, a6]) S Q1) (k : ∀ r S1, Q1 r S1 → Ru (d + 1) M (pc + 3) L (r.toList ++ st) S1 Q) : Ru (d + 1) M pc L (a6 :: a5 :: a4 :: a3 :: a2 :: a1 :: .ref b :: st) S Q := by
  intro lv hl
  obtain ⟨o1, r, h1, h2, h3⟩ := hc
  obtain ⟨o, h, q⟩ := k r o1.2.2.2 h3 lv hl
  exact ⟨o, zr_callI (as := [a1, a2, a3, a4, a5, a6]) hd hm rfl hfit hst h2 h1 h, q⟩
theorem r_callIN0 {idx : Nat} {M1 : zM} {Q1 : Option Value → zS → Prop} {b : Nat} (hd : decode M.2.1 pc = .ok (.invokespecial idx, 3)) (hm : z_mOK M.1.cls idx 5 0 M1) (hfit : (lg_sl (.ref b :: [])).length ≤ M1.2.2.1) (hst : (st.map Value.category).sum ≤ 8) (hc : Rc d M1 (.ref b :: []) S Q1) (k : ∀ r S1, Q1 r S1 → Ru (d + 1) M (pc + 3) L (r.toList ++ st) S1 Q) : Ru (d + 1) M pc L (.ref b :: st) S Q := by
  intro lv hl
  obtain ⟨o1, r, h1, h2, h3⟩ := hc
  obtain ⟨o, h, q⟩ := k r o1.2.2.2 h3 lv hl
  exact ⟨o, zr_callIN (as := []) hd hm rfl hfit hst h2 h1 h, q⟩
theorem r_callIN1 {idx : Nat} {M1 : zM} {Q1 : Option Value → zS → Prop} {a1 : Value} {b : Nat} (hd : decode M.2.1 pc = .ok (.invokespecial idx, 3)) (hm : z_mOK M.1.cls idx 5 1 M1) (hfit : (lg_sl (.ref b :: [a1])).length ≤ M1.2.2.1) (hst : (st.map Value.category).sum ≤ 8) (hc : Rc d M1 (.ref b :: [a1]) S Q1) (k : ∀ r S1, Q1 r S1 → Ru (d + 1) M (pc + 3) L (r.toList ++ st) S1 Q) : Ru (d + 1) M pc L (a1 :: .ref b :: st) S Q := by
  intro lv hl
  obtain ⟨o1, r, h1, h2, h3⟩ := hc
  obtain ⟨o, h, q⟩ := k r o1.2.2.2 h3 lv hl
  exact ⟨o, zr_callIN (as := [a1]) hd hm rfl hfit hst h2 h1 h, q⟩
theorem r_callIN2 {idx : Nat} {M1 : zM} {Q1 : Option Value → zS → Prop} {a1 a2 : Value} {b : Nat} (hd : decode M.2.1 pc = .ok (.invokespecial idx, 3)) (hm : z_mOK M.1.cls idx 5 2 M1) (hfit : (lg_sl (.ref b :: [a1, a2])).length ≤ M1.2.2.1) (hst : (st.map Value.category).sum ≤ 8) (hc : Rc d M1 (.ref b :: [a1, a2]) S Q1) (k : ∀ r S1, Q1 r S1 → Ru (d + 1) M (pc + 3) L (r.toList ++ st) S1 Q) : Ru (d + 1) M pc L (a2 :: a1 :: .ref b :: st) S Q := by
  intro lv hl
  obtain ⟨o1, r, h1, h2, h3⟩ := hc
  obtain ⟨o, h, q⟩ := k r o1.2.2.2 h3 lv hl
  exact ⟨o, zr_callIN (as := [a1, a2]) hd hm rfl hfit hst h2 h1 h, q⟩
theorem r_callIN3 {idx : Nat} {M1 : zM} {Q1 : Option Value → zS → Prop} {a1 a2 a3 : Value} {b : Nat} (hd : decode M.2.1 pc = .ok (.invokespecial idx, 3)) (hm : z_mOK M.1.cls idx 5 3 M1) (hfit : (lg_sl (.ref b :: [a1, a2, a3])).length ≤ M1.2.2.1) (hst : (st.map Value.category).sum ≤ 8) (hc : Rc d M1 (.ref b :: [a1, a2, a3]) S Q1) (k : ∀ r S1, Q1 r S1 → Ru (d + 1) M (pc + 3) L (r.toList ++ st) S1 Q) : Ru (d + 1) M pc L (a3 :: a2 :: a1 :: .ref b :: st) S Q := by
  intro lv hl
  obtain ⟨o1, r, h1, h2, h3⟩ := hc
  obtain ⟨o, h, q⟩ := k r o1.2.2.2 h3 lv hl
  exact ⟨o, zr_callIN (as := [a1, a2, a3]) hd hm rfl hfit hst h2 h1 h, q⟩
theorem r_callIN4 {idx : Nat} {M1 : zM} {Q1 : Option Value → zS → Prop} {a1 a2 a3 a4 : Value} {b : Nat} (hd : decode M.2.1 pc = .ok (.invokespecial idx, 3)) (hm : z_mOK M.1.cls idx 5 4 M1) (hfit : (lg_sl (.ref b :: [a1, a2, a3, a4])).length ≤ M1.2.2.1) (hst : (st.map Value.category).sum ≤ 8) (hc : Rc d M1 (.ref b :: [a1, a2, a3, a4]) S Q1) (k : ∀ r S1, Q1 r S1 → Ru (d + 1) M (pc + 3) L (r.toList ++ st) S1 Q) : Ru (d + 1) M pc L (a4 :: a3 :: a2 :: a1 :: .ref b :: st) S Q := by
  intro lv hl
  obtain ⟨o1, r, h1, h2, h3⟩ := hc
  obtain ⟨o, h, q⟩ := k r o1.2.2.2 h3 lv hl
  exact ⟨o, zr_callIN (as := [a1, a2, a3, a4]) hd hm rfl hfit hst h2 h1 h, q⟩
theorem r_callIN5 {idx : Nat} {M1 : zM} {Q1 : Option Value → zS → Prop} {a1 a2 a3 a4 a5 : Value} {b : Nat} (hd : decode M.2.1 pc = .ok (.invokespecial idx, 3)) (hm : z_mOK M.1.cls idx 5 5 M1) (hfit : (lg_sl (.ref b :: [a1, a2, a3, a4, a5])).length ≤ M1.2.2.1) (hst : (st.map Value.category).sum ≤ 8) (hc : Rc d M1 (.ref b :: [a1, a2, a3, a4, a5]) S Q1) (k : ∀ r S1, Q1 r S1 → Ru (d + 1) M (pc + 3) L (r.toList ++ st) S1 Q) : Ru (d + 1) M pc L (a5 :: a4 :: a3 :: a2 :: a1 :: .ref b :: st) S Q := by
  intro lv hl
  obtain ⟨o1, r, h1, h2, h3⟩ := hc
  obtain ⟨o, h, q⟩ := k r o1.2.2.2 h3 lv hl
  exact ⟨o, zr_callIN (as := [a1, a2, a3, a4, a5]) hd hm rfl hfit hst h2 h1 h, q⟩
theorem r_callIN6 {idx : Nat} {M1 : zM} {Q1 : Option Value → zS → Prop} {a1 a2 a3 a4 a5 a6 : Value} {b : Nat} (hd : decode M.2.1 pc = .ok (.invokespecial idx, 3)) (hm : z_mOK M.1.cls idx 5 6 M1) (hfit : (lg_sl (.ref b :: [a1, a2, a3, a4, a5, a6])).length ≤ M1.2.2.1) (hst : (st.map Value.category).sum ≤ 8) (hc : Rc d M1 (.ref b :: [a1, a2, a3, a4, a5, a6]) S Q1) (k : ∀ r S1, Q1 r S1 → Ru (d + 1) M (pc + 3) L (r.toList ++ st) S1 Q) : Ru (d + 1) M pc L (a6 :: a5 :: a4 :: a3 :: a2 :: a1 :: .ref b :: st) S Q := by
  intro lv hl
  obtain ⟨o1, r, h1, h2, h3⟩ := hc
  obtain ⟨o, h, q⟩ := k r o1.2.2.2 h3 lv hl
  exact ⟨o, zr_callIN (as := [a1, a2, a3, a4, a5, a6]) hd hm rfl hfit hst h2 h1 h, q⟩
theorem r_callVS0 {idx : Nat} {M1 : zM} {Q1 : Option Value → zS → Prop} {b : Nat} (hd : decode M.2.1 pc = .ok (.invokevirtual idx, 3)) (hm : z_mOK M.1.cls idx 0 0 M1) (hb : b < 7) (hcn : M1.1.cls = "java/lang/String") (hfit : (lg_sl (.retAddr b :: [])).length ≤ M1.2.2.1) (hst : (st.map Value.category).sum ≤ 8) (hc : Rc d M1 (.retAddr b :: []) S Q1) (k : ∀ r S1, Q1 r S1 → Ru (d + 1) M (pc + 3) L (r.toList ++ st) S1 Q) : Ru (d + 1) M pc L (.retAddr b :: st) S Q := by
  intro lv hl
  obtain ⟨o1, r, h1, h2, h3⟩ := hc
  obtain ⟨o, h, q⟩ := k r o1.2.2.2 h3 lv hl
  exact ⟨o, zr_callVS (as := []) hd hm rfl hfit hst h2 hb hcn h1 h, q⟩
theorem r_callVS1 {idx : Nat} {M1 : zM} {Q1 : Option Value → zS → Prop} {a1 : Value} {b : Nat} (hd : decode M.2.1 pc = .ok (.invokevirtual idx, 3)) (hm : z_mOK M.1.cls idx 0 1 M1) (hb : b < 7) (hcn : M1.1.cls = "java/lang/String") (hfit : (lg_sl (.retAddr b :: [a1])).length ≤ M1.2.2.1) (hst : (st.map Value.category).sum ≤ 8) (hc : Rc d M1 (.retAddr b :: [a1]) S Q1) (k : ∀ r S1, Q1 r S1 → Ru (d + 1) M (pc + 3) L (r.toList ++ st) S1 Q) : Ru (d + 1) M pc L (a1 :: .retAddr b :: st) S Q := by
  intro lv hl
  obtain ⟨o1, r, h1, h2, h3⟩ := hc
  obtain ⟨o, h, q⟩ := k r o1.2.2.2 h3 lv hl
  exact ⟨o, zr_callVS (as := [a1]) hd hm rfl hfit hst h2 hb hcn h1 h, q⟩
theorem r_callVS2 {idx : Nat} {M1 : zM} {Q1 : Option Value → zS → Prop} {a1 a2 : Value} {b : Nat} (hd : decode M.2.1 pc = .ok (.invokevirtual idx, 3)) (hm : z_mOK M.1.cls idx 0 2 M1) (hb : b < 7) (hcn : M1.1.cls = "java/lang/String") (hfit : (lg_sl (.retAddr b :: [a1, a2])).length ≤ M1.2.2.1) (hst : (st.map Value.category).sum ≤ 8) (hc : Rc d M1 (.retAddr b :: [a1, a2]) S Q1) (k : ∀ r S1, Q1 r S1 → Ru (d + 1) M (pc + 3) L (r.toList ++ st) S1 Q) : Ru (d + 1) M pc L (a2 :: a1 :: .retAddr b :: st) S Q := by
  intro lv hl
  obtain ⟨o1, r, h1, h2, h3⟩ := hc
  obtain ⟨o, h, q⟩ := k r o1.2.2.2 h3 lv hl
  exact ⟨o, zr_callVS (as := [a1, a2]) hd hm rfl hfit hst h2 hb hcn h1 h, q⟩
theorem r_callVS3 {idx : Nat} {M1 : zM} {Q1 : Option Value → zS → Prop} {a1 a2 a3 : Value} {b : Nat} (hd : decode M.2.1 pc = .ok (.invokevirtual idx, 3)) (hm : z_mOK M.1.cls idx 0 3 M1) (hb : b < 7) (hcn : M1.1.cls = "java/lang/String") (hfit : (lg_sl (.retAddr b :: [a1, a2, a3])).length ≤ M1.2.2.1) (hst : (st.map Value.category).sum ≤ 8) (hc : Rc d M1 (.retAddr b :: [a1, a2, a3]) S Q1) (k : ∀ r S1, Q1 r S1 → Ru (d + 1) M (pc + 3) L (r.toList ++ st) S1 Q) : Ru (d + 1) M pc L (a3 :: a2 :: a1 :: .retAddr b :: st) S Q := by
  intro lv hl
  obtain ⟨o1, r, h1, h2, h3⟩ := hc
  obtain ⟨o, h, q⟩ := k r o1.2.2.2 h3 lv hl
  exact ⟨o, zr_callVS (as := [a1, a2, a3]) hd hm rfl hfit hst h2 hb hcn h1 h, q⟩
theorem r_callVS4 {idx : Nat} {M1 : zM} {Q1 : Option Value → zS → Prop} {a1 a2 a3 a4 : Value} {b : Nat} (hd : decode M.2.1 pc = .ok (.invokevirtual idx, 3)) (hm : z_mOK M.1.cls idx 0 4 M1) (hb : b < 7) (hcn : M1.1.cls = "java/lang/String") (hfit : (lg_sl (.retAddr b :: [a1, a2, a3, a4])).length ≤ M1.2.2.1) (hst : (st.map Value.category).sum ≤ 8) (hc : Rc d M1 (.retAddr b :: [a1, a2, a3, a4]) S Q1) (k : ∀ r S1, Q1 r S1 → Ru (d + 1) M (pc + 3) L (r.toList ++ st) S1 Q) : Ru (d + 1) M pc L (a4 :: a3 :: a2 :: a1 :: .retAddr b :: st) S Q := by
  intro lv hl
  obtain ⟨o1, r, h1, h2, h3⟩ := hc
  obtain ⟨o, h, q⟩ := k r o1.2.2.2 h3 lv hl
  exact ⟨o, zr_callVS (as := [a1, a2, a3, a4]) hd hm rfl hfit hst h2 hb hcn h1 h, q⟩
theorem r_callVS5 {idx : Nat} {M1 : zM} {Q1 : Option Value → zS → Prop} {a1 a2 a3 a4 a5 : Value} {b : Nat} (hd : decode M.2.1 pc = .ok (.invokevirtual idx, 3)) (hm : z_mOK M.1.cls idx 0 5 M1) (hb : b < 7) (hcn : M1.1.cls = "java/lang/String") (hfit : (lg_sl (.retAddr b :: [a1, a2, a3, a4, a5])).length ≤ M1.2.2.1) (hst : (st.map Value.category).sum ≤ 8) (hc : Rc d M1 (.retAddr b :: [a1, a2, a3, a4, a5]) S Q1) (k : ∀ r S1, Q1 r S1 → Ru (d + 1) M (pc + 3) L (r.toList ++ st) S1 Q) : Ru (d + 1) M pc L (a5 :: a4 :: a3 :: a2 :: a1 :: .retAddr b :: st) S Q := by
  intro lv hl
  obtain ⟨o1, r, h1, h2, h3⟩ := hc
  obtain ⟨o, h, q⟩ := k r o1.2.2.2 h3 lv hl
  exact ⟨o, zr_callVS (as := [a1, a2, a3, a4, a5]) hd hm rfl hfit hst h2 hb hcn h1 h, q⟩
theorem r_callVS6 {idx : Nat} {M1 : zM} {Q1 : Option Value → zS → Prop} {a1 a2 a3 a4 a5 a6 : Value} {b : Nat} (hd : decode M.2.1 pc = .ok (.invokevirtual idx, 3)) (hm : z_mOK M.1.cls idx 0 6 M1) (hb : b < 7) (hcn : M1.1.cls = "java/lang/String") (hfit : (lg_sl (.retAddr b :: [a1, a2, a3, a4, a5, a6])).length ≤ M1.2.2.1) (hst : (st.map Value.category).sum ≤ 8) (hc : Rc d M1 (.retAddr b :: [a1, a2, a3, a4, a5, a6]) S Q1) (k : ∀ r S1, Q1 r S1 → Ru (d + 1) M (pc + 3) L (r.toList ++ st) S1 Q) : Ru (d + 1) M pc L (a6 :: a5 :: a4 :: a3 :: a2 :: a1 :: .retAddr b :: st) S Q := by
  intro lv hl
  obtain ⟨o1, r, h1, h2, h3⟩ := hc
  obtain ⟨o, h, q⟩ := k r o1.2.2.2 h3 lv hl
  exact ⟨o, zr_callVS (as := [a1, a2, a3, a4, a5, a6]) hd hm rfl hfit hst h2 hb hcn h1 h, q⟩
theorem r_ic {n : Int} (v : Int32) (hd : decode M.2.1 pc = .ok (.iconst n, 1)) (hv : Int32.ofInt n = v) (k : Ru d M (pc + 1) L (.int v :: st) S Q) : Ru d M pc L st S Q := by subst hv; exact r_iconst hd k
theorem r_bp {n : Int} (v : Int32) (hd : decode M.2.1 pc = .ok (.bipush n, 2)) (hv : (Int8.ofInt n).toInt32 = v) (k : Ru d M (pc + 2) L (.int v :: st) S Q) : Ru d M pc L st S Q := by subst hv; exact r_bipush hd k
theorem r_sp {n : Int} (v : Int32) (hd : decode M.2.1 pc = .ok (.sipush n, 3)) (hv : (Int16.ofInt n).toInt32 = v) (k : Ru d M (pc + 3) L (.int v :: st) S Q) : Ru d M pc L st S Q := by subst hv; exact r_sipush hd k
theorem r_lc {n : Fin 2} (v : Int64) (hd : decode M.2.1 pc = .ok (.lconst n, 1)) (hv : Int64.ofNat (n : Nat) = v) (k : Ru d M (pc + 1) L (.long v :: st) S Q) : Ru d M pc L st S Q := by subst hv; exact r_lconst hd k
theorem r_inc {i : Nat} {n : Int} {x : Int32} (v : Int32) (hd : decode M.2.1 pc = .ok (.iinc i n, 3)) (h0 : L i = some (Value.int x)) (hi : i < M.2.2.1) (hp : z_c1 (L (i - 1))) (hv : x + Int32.ofInt n = v) (k : Ru d M (pc + 3) (z_s1 L i (.int v)) st S Q) : Ru d M pc L st S Q := by subst hv; exact r_iinc hd h0 hi hp k
end
