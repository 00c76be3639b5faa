/-! behind a method, by what the view says of Bytes (bv) and Ints (iv) -/
def vQ (S : zS) (E : zE) (lB lI : List Nat) (B C : Nat) (X : List Nat) (S1 : zS) (bv : Nat → Option (Nat × List Nat)) (iv : Nat → Option (Nat × List Int32)) : Prop := ∃ E1, vP S E lB lI B C X S1 E1 ∧ E1.1 = bv ∧ E1.2.1 = iv
theorem vP.raw {S S1 : zS} {E E1 : zE} {lB lI X : List Nat} {B C x ci : Nat} {fs : List Value} (h : vP S E lB lI B C X S1 E1) (h0 : Vw S E lB lI B C) (hx : S.2.2 x = .inr (ci, fs)) (h1 : ci ≠ 1) (h2 : ci ≠ 2) (hl : x < S.1) (hX : x ∉ X) : S1.2.2 x = .inr (ci, fs) := (h.2.2.2.1 x hl (h0.raw hx h1 h2) hX).trans hx
theorem vP.lt {S S1 : zS} {E E1 : zE} {lB lI X : List Nat} {B C x : Nat} (h : vP S E lB lI B C X S1 E1) (hl : x < S.1) : x < S1.1 := Nat.lt_of_lt_of_le hl h.2.1
/-! SOURCE -/
/-- where lines begin and end -/
def lnA (xs : List Nat) : Nat → Nat → Nat → List (Nat × Nat)
  | 0, _, st => if st < xs.length then [(st, xs.length)] else []
  | k + 1, i, st => if xs.getD i 0 = 10 then (st, i) :: lnA xs k (i + 1) (i + 1) else lnA xs k (i + 1) st
def lnz (xs : List Nat) : List (Nat × Nat) := lnA xs xs.length 0 0
/-- the word that a line begins with -/
def lw (xs : List Nat) (st : Nat) : Nat := wd (seg xs (skB xs st) (skN xs (skB xs st)))
def isS (S : zS) (src s e w b : Nat) : Prop := S.2.2 src = .inr (6, [.ref s, .ref e, .ref w, .ref b])
section
variable {d : Nat} {S : zS} {E : zE} {lB lI : List Nat} {B C src s e w b bnd : Nat} {is : List Int32}
theorem C_X5_bytes (h : isS S src s e w b) : Rc d mX5_bytes [.ref src] S (fun v S1 => S1 = S ∧ v = some (.ref b)) := by
  have h : S.2.2 src = .inr (6, [.ref s, .ref e, .ref w, .ref b]) := h
  refine Rc.of ?_
  refine r_aload_n dX5_bytes_0 (by first | rfl | assumption) ?_
  refine r_getf dX5_bytes_1 zf_X5_30 (by assumption) rfl ?_
  refine r_areturn dX5_bytes_4 _ rfl (by first | exact Or.inl ⟨_, rfl⟩ | exact Or.inr ⟨_, rfl⟩) (by first | exact Or.inr (Or.inl ⟨_, rfl⟩) | exact Or.inl rfl | exact Or.inr (Or.inr ⟨_, rfl⟩)) ⟨rfl, rfl⟩
theorem C_X5_count (h : isS S src s e w b) (hV : Vw S E lB lI B C) (hs : E.2.1 s = some (bnd, is)) : Rc (d + 1) mX5_count [.ref src] S (fun v S1 => S1 = S ∧ v = some (.int (nI is.length))) := by
  have h : S.2.2 src = .inr (6, [.ref s, .ref e, .ref w, .ref b]) := h
  have k := (hV.i hs).1
  have k1 := k.1
  refine Rc.of ?_
  refine r_aload_n dX5_count_0 (by first | rfl | assumption) ?_
  refine r_getf dX5_count_1 zf_X5_12 (by assumption) rfl ?_
  refine r_callV0 dX5_count_4 zm_X5_62 (by assumption) rfl (Nat.le_of_ble_eq_true rfl) (Nat.le_of_ble_eq_true rfl) (C_X1_size k) (fun v S1 hr => ?_)
  obtain ⟨rfl, rfl⟩ := hr
  refine r_ireturn dX5_count_7 _ rfl rfl ⟨rfl, rfl⟩
theorem C_X5_start {x : Int32} (h : isS S src s e w b) (hV : Vw S E lB lI B C) (hs : E.2.1 s = some (bnd, is)) : Rc (d + 1) mX5_start [.ref src, .int x] S (fun v S1 => S1 = S ∧ v = some (.int (iAt is x))) := by
  have h : S.2.2 src = .inr (6, [.ref s, .ref e, .ref w, .ref b]) := h
  have k := (hV.i hs).1
  have k1 := k.1
  refine Rc.of ?_
  refine r_aload_n dX5_start_0 (by first | rfl | assumption) ?_
  refine r_getf dX5_start_1 zf_X5_12 (by assumption) rfl ?_
  refine r_iload_n dX5_start_4 (by first | rfl | assumption) ?_
  refine r_callV1 dX5_start_5 zm_X5_63 (by assumption) rfl (Nat.le_of_ble_eq_true rfl) (Nat.le_of_ble_eq_true rfl) (C_X1_at k) (fun v S1 hr => ?_)
  obtain ⟨rfl, rfl⟩ := hr
  refine r_ireturn dX5_start_8 _ rfl rfl ⟨rfl, rfl⟩
theorem C_X5_end {x : Int32} (h : isS S src s e w b) (hV : Vw S E lB lI B C) (hs : E.2.1 e = some (bnd, is)) : Rc (d + 1) mX5_end [.ref src, .int x] S (fun v S1 => S1 = S ∧ v = some (.int (iAt is x))) := by
  have h : S.2.2 src = .inr (6, [.ref s, .ref e, .ref w, .ref b]) := h
  have k := (hV.i hs).1
  have k1 := k.1
  refine Rc.of ?_
  refine r_aload_n dX5_end_0 (by first | rfl | assumption) ?_
  refine r_getf dX5_end_1 zf_X5_18 (by assumption) rfl ?_
  refine r_iload_n dX5_end_4 (by first | rfl | assumption) ?_
  refine r_callV1 dX5_end_5 zm_X5_63 (by assumption) rfl (Nat.le_of_ble_eq_true rfl) (Nat.le_of_ble_eq_true rfl) (C_X1_at k) (fun v S1 hr => ?_)
  obtain ⟨rfl, rfl⟩ := hr
  refine r_ireturn dX5_end_8 _ rfl rfl ⟨rfl, rfl⟩
theorem C_X5_word {x : Int32} (h : isS S src s e w b) (hV : Vw S E lB lI B C) (hs : E.2.1 w = some (bnd, is)) : Rc (d + 1) mX5_word [.ref src, .int x] S (fun v S1 => S1 = S ∧ v = some (.int (iAt is x))) := by
  have h : S.2.2 src = .inr (6, [.ref s, .ref e, .ref w, .ref b]) := h
  have k := (hV.i hs).1
  have k1 := k.1
  refine Rc.of ?_
  refine r_aload_n dX5_word_0 (by first | rfl | assumption) ?_
  refine r_getf dX5_word_1 zf_X5_21 (by assumption) rfl ?_
  refine r_iload_n dX5_word_4 (by first | rfl | assumption) ?_
  refine r_callV1 dX5_word_5 zm_X5_63 (by assumption) rfl (Nat.le_of_ble_eq_true rfl) (Nat.le_of_ble_eq_true rfl) (C_X1_at k) (fun v S1 hr => ?_)
  obtain ⟨rfl, rfl⟩ := hr
  refine r_ireturn dX5_word_8 _ rfl rfl ⟨rfl, rfl⟩
end
theorem skB_le {xs : List Nat} {i : Nat} (h : i ≤ xs.length) : i ≤ skB xs i ∧ skB xs i ≤ xs.length := by
  have := skp_le (fun k => fBl (nI (xs.getD k 0))) (xs.length - i) i
  unfold skB
  omega
theorem skN_le {xs : List Nat} {i : Nat} (h : i ≤ xs.length) : i ≤ skN xs i ∧ skN xs i ≤ xs.length := by
  have := skp_le (fun k => fNm (nI (xs.getD k 0))) (xs.length - i) i
  unfold skN
  omega
set_option maxRecDepth 10000 in
set_option maxHeartbeats 1000000 in
theorem V_X5_addLine {d : Nat} {S : zS} {E : zE} {lB lI : List Nat} {B C src s e w b bs be bw lim st en : Nat} {ss es ws : List Int32} {xs : List Nat} (h : isS S src s e w b) (hl : src < S.1) (hV : Vw S E lB lI B C) (hs : E.2.1 s = some (bs, ss)) (he : E.2.1 e = some (be, es)) (hw : E.2.1 w = some (bw, ws)) (hb : E.1 b = some (lim, xs)) (n1 : e ≠ s) (n2 : w ≠ s) (n3 : w ≠ e) (l1 : ss.length < bs) (l2 : es.length < be) (l3 : ws.length < bw) (hst : st ≤ xs.length) : Rc (d + 7) mX5_addLine [.ref src, .int (nI st), .int (nI en)] S (fun v S1 => v = none ∧ isS S1 src s e w b ∧ vQ S E lB lI B C [] S1 E.1 (va_up (va_up (va_up E.2.1 s (some (bs, ss ++ [nI st]))) e (some (be, es ++ [nI en]))) w (some (bw, ws ++ [nI (lw xs st)])))) := by
  have h : S.2.2 src = .inr (6, [.ref s, .ref e, .ref w, .ref b]) := h
  have hxl : xs.length ≤ 65536 := by
    have k := (hV.b hb).1
    exact Nat.le_trans k.2.2.2.1 k.2.2.2.2.2
  refine Rc.of ?_
  have c1 := (hV.i hs).1.1
  refine r_aload_n dX5_addLine_0 (by first | rfl | assumption) ?_
  refine r_getf dX5_addLine_1 zf_X5_12 (by assumption) rfl ?_
  refine r_iload_n dX5_addLine_4 (by first | rfl | assumption) ?_
  refine r_callV1 dX5_addLine_5 zm_X5_48 (by assumption) rfl (Nat.le_of_ble_eq_true rfl) (Nat.le_of_ble_eq_true rfl) (V_X1_add hV hs l1) (fun v S1 hv => ?_)
  obtain ⟨rfl, rc1, hP1⟩ := hv
  have hV1 := hP1.1
  have h1 := hP1.raw hV h (by decide) (by decide) hl (by simp)
  have he1 : (eI E s (bs, ss ++ [nI st]) rc1).2.1 e = some (be, es) := (va_up_ne _ _ n1).trans he
  have hw1 : (eI E s (bs, ss ++ [nI st]) rc1).2.1 w = some (bw, ws) := (va_up_ne _ _ n2).trans hw
  have c2 := (hV1.i he1).1.1
  refine r_aload_n dX5_addLine_8 (by first | rfl | assumption) ?_
  refine r_getf dX5_addLine_9 zf_X5_18 (by assumption) rfl ?_
  refine r_iload_n dX5_addLine_12 (by first | rfl | assumption) ?_
  refine r_callV1 dX5_addLine_13 zm_X5_48 (by assumption) rfl (Nat.le_of_ble_eq_true rfl) (Nat.le_of_ble_eq_true rfl) (V_X1_add hV1 he1 l2) (fun v S2 hv => ?_)
  obtain ⟨rfl, rc2, hP2⟩ := hv
  have hV2 := hP2.1
  have h2 := hP2.raw hV1 h1 (by decide) (by decide) (hP1.lt hl) (by simp)
  have hb2 : (eI (eI E s (bs, ss ++ [nI st]) rc1) e (be, es ++ [nI en]) rc2).1 b = some (lim, xs) := hb
  have hw2 : (eI (eI E s (bs, ss ++ [nI st]) rc1) e (be, es ++ [nI en]) rc2).2.1 w = some (bw, ws) := (va_up_ne _ _ n3).trans hw1
  have kb := (hV2.b hb2).1
  have kb1 := kb.1
  have c3 := (hV2.i hw2).1.1
  refine r_aload_n dX5_addLine_16 (by first | rfl | assumption) ?_
  refine r_getf dX5_addLine_17 zf_X5_30 (by assumption) rfl ?_
  refine r_iload_n dX5_addLine_20 (by first | rfl | assumption) ?_
  refine r_callV1 dX5_addLine_21 zm_X5_52 (by assumption) rfl (Nat.le_of_ble_eq_true rfl) (Nat.le_of_ble_eq_true rfl) (C_X0_behindBlanks kb (show st < 2 ^ 20 by omega)) (fun v S3 hv => ?_)
  obtain ⟨rfl, rfl⟩ := hv
  have q1 := skB_le hst
  have q2 := skN_le q1.2
  refine r_istore_n dX5_addLine_24 (by decide) (by first | exact z_c1_i (by first | rfl | assumption) | exact z_c1_r (by first | rfl | assumption) | exact z_c1_n (by first | rfl | assumption) | exact z_c1_c (by first | rfl | assumption) | exact z_c1_0 (by first | rfl | assumption)) ?_
  refine r_aload_n dX5_addLine_25 (by first | rfl | assumption) ?_
  refine r_getf dX5_addLine_26 zf_X5_21 (by assumption) rfl ?_
  refine r_aload_n dX5_addLine_29 (by first | rfl | assumption) ?_
  refine r_getf dX5_addLine_30 zf_X5_30 (by assumption) rfl ?_
  refine r_iload_n dX5_addLine_33 (by first | rfl | assumption) ?_
  refine r_aload_n dX5_addLine_34 (by first | rfl | assumption) ?_
  refine r_getf dX5_addLine_35 zf_X5_30 (by assumption) rfl ?_
  refine r_iload_n dX5_addLine_38 (by first | rfl | assumption) ?_
  refine r_callV1 dX5_addLine_39 zm_X5_55 (by assumption) rfl (Nat.le_of_ble_eq_true rfl) (Nat.le_of_ble_eq_true rfl) (C_X0_behindNameBytes kb (show skB xs st < 2 ^ 20 by omega)) (fun v S3 hv => ?_)
  obtain ⟨rfl, rfl⟩ := hv
  refine r_callSN3 dX5_addLine_42 zm_X5_58 (Nat.le_of_ble_eq_true rfl) (Nat.le_of_ble_eq_true rfl) (C_X7_wordIn kb q2.1 q2.2) (fun v S3 hv => ?_)
  obtain ⟨rfl, rfl⟩ := hv
  refine r_callV1 dX5_addLine_45 zm_X5_48 (by assumption) rfl (Nat.le_of_ble_eq_true rfl) (Nat.le_of_ble_eq_true rfl) (V_X1_add hV2 hw2 l3) (fun v S4 hv => ?_)
  obtain ⟨rfl, rc3, hP3⟩ := hv
  have h3 := hP3.raw hV2 h2 (by decide) (by decide) (hP2.lt (hP1.lt hl)) (by simp)
  refine r_return dX5_addLine_48 rfl ⟨rfl, h3, _, ⟨hP3.1, (hP1.2.tr hP2.2).tr hP3.2⟩, rfl, rfl⟩
