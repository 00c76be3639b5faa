/-! THE REFERENCE: one object (165) and its arrays (166 .. 240), and the law's own array (241). Its state: the fields, the arrays, the arrays of longs. It makes nothing behind its constructor. -/
abbrev zR : Type := (Nat → Int32) × (Nat → Nat → Int32) × (Nat → Nat → Int64)
def fl (f : Nat → Int32) : List Value := [.int (f 0), .ref 166, .ref 167, .int (f 3), .int (f 4), .int (f 5), .int (f 6), .int (f 7), .int (f 8), .int (f 9), .int (f 10), .int (f 11), .int (f 12), .int (f 13), .int (f 14), .int (f 15), .int (f 16), .ref 168, .int (f 18), .int (f 19), .ref 169, .ref 170, .ref 171, .ref 172, .ref 173, .ref 174, .ref 175, .ref 176, .ref 177, .ref 178, .ref 179, .ref 204, .ref 229, .int (f 33), .ref 230, .ref 231, .ref 232, .ref 233, .ref 234, .ref 235, .ref 236, .int (f 41), .ref 237, .ref 238, .ref 239, .ref 240, .int (f 46), .int (f 47), .int (f 48), .int (f 49)]
def aTy (j : Nat) : FieldType := if j ≤ 168 then .byte else if j = 178 then .boolean else if 180 ≤ j ∧ j ≤ 203 then .byte else .int
def aLn (j : Nat) : Nat := if j ≤ 167 then 65536 else if j = 168 then 1100 else if j ≤ 178 then 24 else if j ≤ 203 then 1100 else if j ≤ 228 then 2100 else if j = 229 then 24 else if j ≤ 236 then 6600 else 1110
abbrev isAr (j : Nat) : Prop := 166 ≤ j ∧ j ≤ 239 ∧ j ≠ 179 ∧ j ≠ 204
def rC (r : zR) (j : Nat) : zC := if j = 165 then .inr (9, fl r.1) else if j = 179 then .inl (.array .byte, 24, .inr (.inr (.inr (.inr (fun k => if k < 24 then some (180 + k) else none))))) else if j = 204 then .inl (.array .int, 24, .inr (.inr (.inr (.inr (fun k => if k < 24 then some (205 + k) else none))))) else if j = 240 then .inl (.long, 1110, .inr (.inl (r.2.2 240))) else if j = 241 then .inl (.long, 1, .inr (.inl (r.2.2 241))) else .inl (aTy j, aLn j, .inl (r.2.1 j))
def RS (S : zS) (r : zR) : zS := (S.1, S.2.1, fun j => if 165 ≤ j ∧ j < 242 then rC r j else S.2.2 j)
def rF (r : zR) (j : Nat) (v : Int32) : zR := (va_up r.1 j v, r.2)
def rA (r : zR) (c k : Nat) (v : Int32) : zR := (r.1, va_up r.2.1 c (upd (r.2.1 c) k v), r.2.2)
def rV (r : zR) (c k : Nat) (v : Int64) : zR := (r.1, r.2.1, va_up r.2.2 c (vp_updL (r.2.2 c) k v))
section
variable {S : zS} {r : zR}
theorem RS_o : (RS S r).2.2 165 = .inr (9, fl r.1) := rfl
theorem RS_in {j : Nat} (h : 165 ≤ j ∧ j < 242) : (RS S r).2.2 j = rC r j := if_pos h
theorem RS_out {j : Nat} (h : ¬ (165 ≤ j ∧ j < 242)) : (RS S r).2.2 j = S.2.2 j := if_neg h
theorem RS_a {c : Nat} (h : isAr c) : (RS S r).2.2 c = .inl (aTy c, aLn c, .inl (r.2.1 c)) := by
  obtain ⟨h1, h2, h3, h4⟩ := h
  rw [RS_in (by omega)]
  unfold rC
  rw [if_neg (by omega), if_neg h3, if_neg h4, if_neg (by omega), if_neg (by omega)]
theorem RS_of {T : Nat → zC} (h : ∀ j, 165 ≤ j → j < 242 → T j = rC r j) (h2 : ∀ j, ¬ (165 ≤ j ∧ j < 242) → T j = S.2.2 j) : ((S.1, S.2.1, T) : zS) = RS S r := by
  unfold RS
  congr 2
  funext j
  split
  · next q => exact h j q.1 q.2
  · next q => exact h2 j q
theorem RS_pF {j : Nat} {v : Int32} (h : (fl r.1).set j (.int v) = fl (va_up r.1 j v)) : z_put (RS S r) 165 (.inr (9, (fl r.1).set j (.int v))) = RS S (rF r j v) := by
  refine RS_of (S := S) (fun i h1 h2 => ?_) (fun i hi => ?_)
  · by_cases e : i = 165
    · subst e
      rw [va_up_self, h]
      rfl
    · rw [va_up_ne _ _ e, RS_in ⟨h1, h2⟩]
      unfold rC
      rw [if_neg e, if_neg e]
      rfl
  · rw [va_up_ne _ _ (by omega), RS_out hi]
theorem rC_eq {r1 r2 : zR} {j : Nat} (h1 : r1.1 = r2.1) (h2 : r1.2.1 j = r2.2.1 j) (h3 : r1.2.2 j = r2.2.2 j) : rC r1 j = rC r2 j := by
  unfold rC
  rw [h1, h2]
  by_cases e1 : j = 240
  · subst e1
    rw [h3]
    rfl
  · by_cases e2 : j = 241
    · subst e2
      rw [h3]
      rfl
    · rw [if_neg e1, if_neg e2, if_neg e1, if_neg e2]
theorem rC_a {c : Nat} (h : isAr c) : rC r c = .inl (aTy c, aLn c, .inl (r.2.1 c)) := by
  have := RS_a (S := ((0, 0, fun _ => rC r c) : zS)) (r := r) h
  rw [RS_in (by unfold isAr at h; omega)] at this
  exact this
theorem RS_pA {c : Nat} {g : Nat → Int32} (hc : isAr c) : z_put (RS S r) c (.inl (aTy c, aLn c, .inl g)) = RS S (r.1, va_up r.2.1 c g, r.2.2) := by
  have hc2 := hc
  obtain ⟨h1, h2, h3, h4⟩ := hc
  refine RS_of (S := S) (fun i k1 k2 => ?_) (fun i hi => ?_)
  · by_cases e : i = c
    · subst e
      rw [va_up_self, rC_a hc2]
      exact congrArg (fun z => (Sum.inl (aTy i, aLn i, .inl z) : zC)) (va_up_self _ _ _).symm
    · rw [va_up_ne _ _ e, RS_in ⟨k1, k2⟩]
      exact rC_eq rfl (va_up_ne _ _ e).symm rfl
  · rw [va_up_ne _ _ (by omega), RS_out hi]
theorem RS_pV {c : Nat} {g : Nat → Int64} (hc : c = 240 ∨ c = 241) : z_put (RS S r) c (.inl (.long, if c = 240 then 1110 else 1, .inr (.inl g))) = RS S (r.1, r.2.1, va_up r.2.2 c g) := by
  refine RS_of (S := S) (fun i k1 k2 => ?_) (fun i hi => ?_)
  · by_cases e : i = c
    · subst e
      rw [va_up_self]
      rcases hc with rfl | rfl
      · rfl
      · rfl
    · rw [va_up_ne _ _ e, RS_in ⟨k1, k2⟩]
      exact rC_eq rfl rfl (va_up_ne _ _ e).symm
  · rw [va_up_ne _ _ (by omega), RS_out hi]
theorem aLn_le (c : Nat) : aLn c ≤ 65536 := by
  unfold aLn
  repeat' split
  all_goals decide
theorem vp_inN {k n : Nat} (h : k < n) (hn : n ≤ 65536) : vp_in (nI k) n := by
  intro z
  rcases z with z | z
  · exact nI_pos (by omega) z
  · rw [nI_clamp (by omega)] at z
    omega
end
section
variable {d : Nat} {M : zM} {pc : Nat} {L : Nat → Option Value} {st : List Value} {S : zS} {Q : Nat → List Value → zS → Prop} {r : zR}
theorem r8_get {idx j : Nat} {ty : FieldType} {fin : Bool} {v : Value} (hd : decode M.2.1 pc = .ok (.getfield idx, 3)) (h0 : z_fOK M.1.cls idx 9 j ty fin) (h2 : (fl r.1)[j]? = some v) (k : Ru d M (pc + 3) L (v :: st) (RS S r) Q) : Ru d M pc L (.ref 165 :: st) (RS S r) Q := r_getf hd h0 RS_o h2 k
theorem r8_put {idx j : Nat} {ty : FieldType} {v : Int32} (hd : decode M.2.1 pc = .ok (.putfield idx, 3)) (h0 : z_fOK M.1.cls idx 9 j ty false) (hj : j < 50) (he : (fl r.1).set j (.int v) = fl (va_up r.1 j v)) (h3 : narrow ty (.int v) = .int v ∧ fits ty (.int v) = true) (k : Ru d M (pc + 3) L st (RS S (rF r j v)) Q) : Ru d M pc L (.int v :: .ref 165 :: st) (RS S r) Q := by
  refine r_putf hd h0 RS_o hj h3 ?_
  rw [RS_pF he]
  exact k
theorem r8_bald {c n : Nat} (hd : decode M.2.1 pc = .ok (.baload, 1)) (hc : isAr c) (ht : aTy c = .byte) (hn : n < aLn c) (k : Ru d M (pc + 1) L (.int (r.2.1 c n) :: st) (RS S r) Q) : Ru d M pc L (.int (nI n) :: .ref c :: st) (RS S r) Q := by
  have h1 := aLn_le c
  refine r_bald hd (g := r.2.1 c) (n := aLn c) (by rw [RS_a hc, ht]) (vp_inN hn h1) ?_
  rw [nI_clamp (by omega)]
  exact k
theorem r8_zald {c n : Nat} (hd : decode M.2.1 pc = .ok (.baload, 1)) (hc : isAr c) (ht : aTy c = .boolean) (hn : n < aLn c) (k : Ru d M (pc + 1) L (.int (r.2.1 c n) :: st) (RS S r) Q) : Ru d M pc L (.int (nI n) :: .ref c :: st) (RS S r) Q := by
  have h1 := aLn_le c
  refine r_zald hd (g := r.2.1 c) (n := aLn c) (by rw [RS_a hc, ht]) (vp_inN hn h1) ?_
  rw [nI_clamp (by omega)]
  exact k
theorem r8_iald {c n : Nat} (hd : decode M.2.1 pc = .ok (.iaload, 1)) (hc : isAr c) (ht : aTy c = .int) (hn : n < aLn c) (k : Ru d M (pc + 1) L (.int (r.2.1 c n) :: st) (RS S r) Q) : Ru d M pc L (.int (nI n) :: .ref c :: st) (RS S r) Q := by
  have h1 := aLn_le c
  refine r_iald hd (g := r.2.1 c) (n := aLn c) (by rw [RS_a hc, ht]) (vp_inN hn h1) ?_
  rw [nI_clamp (by omega)]
  exact k
theorem r8_lald {n : Nat} (hd : decode M.2.1 pc = .ok (.laload, 1)) (hn : n < 1110) (k : Ru d M (pc + 1) L (.long (r.2.2 240 n) :: st) (RS S r) Q) : Ru d M pc L (.int (nI n) :: .ref 240 :: st) (RS S r) Q := by
  refine r_lald hd (g := r.2.2 240) (n := 1110) rfl (vp_inN hn (by decide)) ?_
  rw [nI_clamp (by omega)]
  exact k
theorem r8_aaldB {n : Nat} (hd : decode M.2.1 pc = .ok (.aaload, 1)) (hn : n < 24) (k : Ru d M (pc + 1) L (.ref (180 + n) :: st) (RS S r) Q) : Ru d M pc L (.int (nI n) :: .ref 179 :: st) (RS S r) Q := by
  refine r_aald hd (g := fun k => if k < 24 then some (180 + k) else none) (n := 24) (ty := .array .byte) rfl (vp_inN hn (by decide)) rfl ?_
  rw [nI_clamp (by omega)]
  show Ru d M (pc + 1) L (va_rf (if n < 24 then some (180 + n) else none) :: st) (RS S r) Q
  rw [if_pos hn]
  exact k
theorem r8_aaldI {n : Nat} (hd : decode M.2.1 pc = .ok (.aaload, 1)) (hn : n < 24) (k : Ru d M (pc + 1) L (.ref (205 + n) :: st) (RS S r) Q) : Ru d M pc L (.int (nI n) :: .ref 204 :: st) (RS S r) Q := by
  refine r_aald hd (g := fun k => if k < 24 then some (205 + k) else none) (n := 24) (ty := .array .int) rfl (vp_inN hn (by decide)) rfl ?_
  rw [nI_clamp (by omega)]
  show Ru d M (pc + 1) L (va_rf (if n < 24 then some (205 + n) else none) :: st) (RS S r) Q
  rw [if_pos hn]
  exact k
theorem r8_bast {c n : Nat} {y : Int32} (hd : decode M.2.1 pc = .ok (.bastore, 1)) (hc : isAr c) (ht : aTy c = .byte) (hn : n < aLn c) (k : Ru d M (pc + 1) L st (RS S (rA r c n y.toInt8.toInt32)) Q) : Ru d M pc L (.int y :: .int (nI n) :: .ref c :: st) (RS S r) Q := by
  have h1 := aLn_le c
  refine r_bast hd (g := r.2.1 c) (n := aLn c) (by rw [RS_a hc, ht]) (vp_inN hn h1) ?_
  rw [nI_clamp (by omega), ← ht, RS_pA hc]
  rw [ht]
  exact k
theorem r8_zast {c n : Nat} {y : Int32} (hd : decode M.2.1 pc = .ok (.bastore, 1)) (hc : isAr c) (ht : aTy c = .boolean) (hn : n < aLn c) (hy : vp_nar .boolean y = y) (k : Ru d M (pc + 1) L st (RS S (rA r c n y)) Q) : Ru d M pc L (.int y :: .int (nI n) :: .ref c :: st) (RS S r) Q := by
  have h1 := aLn_le c
  refine r_zast hd (g := r.2.1 c) (n := aLn c) (by rw [RS_a hc, ht]) (vp_inN hn h1) ?_
  rw [nI_clamp (by omega), hy, ← ht, RS_pA hc]
  exact k
theorem r8_iast {c n : Nat} {y : Int32} (hd : decode M.2.1 pc = .ok (.iastore, 1)) (hc : isAr c) (ht : aTy c = .int) (hn : n < aLn c) (k : Ru d M (pc + 1) L st (RS S (rA r c n y)) Q) : Ru d M pc L (.int y :: .int (nI n) :: .ref c :: st) (RS S r) Q := by
  have h1 := aLn_le c
  refine r_iast hd (g := r.2.1 c) (n := aLn c) (by rw [RS_a hc, ht]) (vp_inN hn h1) ?_
  rw [nI_clamp (by omega), ← ht, RS_pA hc]
  exact k
theorem r8_last {n : Nat} {y : Int64} (hd : decode M.2.1 pc = .ok (.lastore, 1)) (hn : n < 1110) (k : Ru d M (pc + 1) L st (RS S (rV r 240 n y)) Q) : Ru d M pc L (.long y :: .int (nI n) :: .ref 240 :: st) (RS S r) Q := by
  refine r_last hd (g := r.2.2 240) (n := 1110) rfl (vp_inN hn (by decide)) ?_
  rw [nI_clamp (by omega)]
  have := RS_pV (S := S) (r := r) (c := 240) (g := vp_updL (r.2.2 240) n y) (Or.inl rfl)
  rw [if_pos rfl] at this
  rw [this]
  exact k
end
