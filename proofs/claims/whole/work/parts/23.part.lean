/-! PART: what is given for a macro's places -/
def ivP (iv : Nat → Option (Nat × List Int32)) (s e bnd : Nat) (gs : List (Nat × Nat)) : Nat → Option (Nat × List Int32) := va_up (va_up iv s (some (bnd, gs.map fun q => nI q.1))) e (some (bnd, gs.map fun q => nI q.2))
section
variable {iv : Nat → Option (Nat × List Int32)} {s e bnd : Nat} {gs : List (Nat × Nat)}
theorem ivP_s (n1 : e ≠ s) : ivP iv s e bnd gs s = some (bnd, gs.map fun q => nI q.1) := by
  unfold ivP
  rw [va_up_ne _ _ n1.symm, va_up_self]
theorem ivP_e : ivP iv s e bnd gs e = some (bnd, gs.map fun q => nI q.2) := va_up_self _ _ _
theorem ivP_else {x : Nat} (h1 : x ≠ s) (h2 : x ≠ e) : ivP iv s e bnd gs x = iv x := by
  unfold ivP
  rw [va_up_ne _ _ h2, va_up_ne _ _ h1]
theorem ivP_add {q : Nat × Nat} : va_up (va_up (ivP iv s e bnd gs) s (some (bnd, (gs.map fun q => nI q.1) ++ [nI q.1]))) e (some (bnd, (gs.map fun q => nI q.2) ++ [nI q.2])) = ivP iv s e bnd (gs ++ [q]) := by
  funext x
  by_cases he : x = e
  · subst he; simp [ivP, va_up]
  · by_cases hs : x = s
    · subst hs; simp [ivP, va_up, he]
    · simp [ivP, va_up, he, hs]
end
def t0 : zT := (0, 0, 0, none)
def kp (ts : List zT) (f b : Nat) : Nat × Nat := if f < b then ((ts.getD f t0).2.1, (ts.getD (b - 1) t0).2.2.1) else (0, 0)
theorem getD_some {α : Type} {l : List α} {i : Nat} {d0 : α} (h : i < l.length) : l[i]? = some (l.getD i d0) := by
  rw [List.getD_eq_getElem?_getD, List.getElem?_eq_getElem h]
  rfl
def gaS (ts : List zT) : Nat → Nat → Nat → Nat → List (Nat × Nat) → List (Nat × Nat)
  | 0, _, f, _, gs => gs ++ [kp ts f ts.length]
  | n + 1, i, f, dp, gs => if (ts.getD i t0).1 = 44 ∧ dp = 0 then gaS ts n (i + 1) (i + 1) dp (gs ++ [kp ts f i]) else if (ts.getD i t0).1 = 40 ∨ (ts.getD i t0).1 = 91 then gaS ts n (i + 1) f (dp + 1) gs else if ((ts.getD i t0).1 = 41 ∨ (ts.getD i t0).1 = 93) ∧ 0 < dp then gaS ts n (i + 1) f (dp - 1) gs else gaS ts n (i + 1) f dp gs
theorem gaS_s {ts : List zT} {n i f dp : Nat} {gs : List (Nat × Nat)} : gaS ts (n + 1) i f dp gs = if (ts.getD i t0).1 = 44 ∧ dp = 0 then gaS ts n (i + 1) (i + 1) dp (gs ++ [kp ts f i]) else if (ts.getD i t0).1 = 40 ∨ (ts.getD i t0).1 = 91 then gaS ts n (i + 1) f (dp + 1) gs else if ((ts.getD i t0).1 = 41 ∨ (ts.getD i t0).1 = 93) ∧ 0 < dp then gaS ts n (i + 1) f (dp - 1) gs else gaS ts n (i + 1) f dp gs := rfl
def gat (ts : List zT) : List (Nat × Nat) := if ts.length < 2 then [] else gaS ts (ts.length - 1) 1 1 0 []
def pF (k fr to bk ln tl sr : Int32) (mv : Value) (g s e : Nat) : List Value := [.int k, .int fr, .int to, .int bk, .int ln, .int tl, .int sr, mv, .ref g, .ref s, .ref e]
theorem iAt_m1 {ts : List zT} {i : Nat} (hl : ts.length ≤ 65536) (h : i < ts.length) : iAt (ts.map fun q => q.1) (nI i) = (ts.getD i t0).1 := by
  rw [iAt_in (by rw [List.length_map]; exact h) (by rw [List.length_map]; omega), List.getD_eq_getElem?_getD, List.getElem?_map, getD_some (d0 := t0) h]
  rfl
section
variable {d : Nat} {S : zS} {E : zE} {lB lI : List Nat} {B C p t tb tk1 tst te g s e bnd b1 b2 b3 f bh : Nat} {k0 fr0 to0 bk0 ln0 tl0 sr0 stop : Int32} {mv : Value} {val sec : Int64} {ts : List zT} {gs : List (Nat × Nat)} {iv : Nat → Option (Nat × List Int32)}
theorem C_X4_lay {f1 f2 f3 f4 : Int32} (hp : S.2.2 p = .inr (5, pF k0 fr0 to0 bk0 ln0 tl0 sr0 mv g s e)) : Rc d mX4_lay [.ref p, .int f1, .int f2, .int f3, .int f4] S (fun v S1 => v = none ∧ S1 = z_put S p (.inr (5, pF k0 f1 f2 f3 f4 tl0 sr0 mv g s e))) := by
  unfold pF at hp
  refine Rc.of ?_
  refine r_aload_n dX4_lay_0 (by first | rfl | assumption) ?_
  refine r_iload_n dX4_lay_1 (by first | rfl | assumption) ?_
  refine r_putf dX4_lay_2 zf_X4_34 hp (Nat.le_of_ble_eq_true rfl) ⟨rfl, rfl⟩ ?_
  refine r_aload_n dX4_lay_5 (by first | rfl | assumption) ?_
  refine r_iload_n dX4_lay_6 (by first | rfl | assumption) ?_
  refine r_putf dX4_lay_7 zf_X4_37 (va_up_self _ _ _) (Nat.le_of_ble_eq_true rfl) ⟨rfl, rfl⟩ ?_
  refine r_aload_n dX4_lay_10 (by first | rfl | assumption) ?_
  refine r_iload_n dX4_lay_11 (by first | rfl | assumption) ?_
  refine r_putf dX4_lay_12 zf_X4_40 (va_up_self _ _ _) (Nat.le_of_ble_eq_true rfl) ⟨rfl, rfl⟩ ?_
  refine r_aload_n dX4_lay_15 (by first | rfl | assumption) ?_
  refine r_iload dX4_lay_16 (by first | rfl | assumption) ?_
  refine r_putf dX4_lay_18 zf_X4_43 (va_up_self _ _ _) (Nat.le_of_ble_eq_true rfl) ⟨rfl, rfl⟩ ?_
  refine r_return dX4_lay_21 rfl ⟨rfl, ?_⟩
  rw [z_put_put, z_put_put, z_put_put]
  rfl
set_option maxRecDepth 10000 in
theorem V_X4_keep (hp : S.2.2 p = .inr (5, pF k0 fr0 to0 bk0 ln0 tl0 sr0 mv g s e)) (hl : p < S.1) (ht : S.2.2 t = .inr (7, tF tb tk1 tst te stop val sec)) (htl : t < S.1) (hV : Vw S E lB lI B C) (hE : E.2.1 = ivP iv s e bnd gs) (hs : iv tst = some (b2, ts.map fun q => nI q.2.1)) (he : iv te = some (b3, ts.map fun q => nI q.2.2.1)) (n0 : e ≠ s) (n1 : tst ≠ s) (n2 : tst ≠ e) (n3 : te ≠ s) (n4 : te ≠ e) (hb : bh ≤ ts.length) (hts : ts.length ≤ 65536) (hg : gs.length < bnd) (hf : f ≤ 65536) : Rc (d + 4) mX4_keep [.ref p, .ref t, .int (nI f), .int (nI bh)] S (fun v S1 => v = none ∧ vQ S E lB lI B C [] S1 E.1 (ivP iv s e bnd (gs ++ [kp ts f bh]))) := by
  have hs1 : E.2.1 s = some (bnd, gs.map fun q => nI q.1) := by rw [hE]; exact ivP_s n0
  have he1 : E.2.1 e = some (bnd, gs.map fun q => nI q.2) := by rw [hE]; exact ivP_e
  have hts1 : E.2.1 tst = some (b2, ts.map fun q => nI q.2.1) := by rw [hE, ivP_else n1 n2]; exact hs
  have hte1 : E.2.1 te = some (b3, ts.map fun q => nI q.2.2.1) := by rw [hE, ivP_else n3 n4]; exact he
  have c1 := (hV.i hs1).1.1
  have hp0 : S.2.2 p = .inr (5, [.int k0, .int fr0, .int to0, .int bk0, .int ln0, .int tl0, .int sr0, mv, .ref g, .ref s, .ref e]) := hp
  have lg : (gs.map fun q => nI q.1).length < bnd := by rw [List.length_map]; exact hg
  have lg2 : (gs.map fun q => nI q.2).length < bnd := by rw [List.length_map]; exact hg
  have fin : ∀ (y1 y2 : Int32), y1 = nI (kp ts f bh).1 → y2 = nI (kp ts f bh).2 → ∀ (E' : zE), E'.2.1 = va_up (va_up E.2.1 s (some (bnd, (gs.map fun q => nI q.1) ++ [y1]))) e (some (bnd, (gs.map fun q => nI q.2) ++ [y2])) → E'.2.1 = ivP iv s e bnd (gs ++ [kp ts f bh]) := by
    intro y1 y2 e1 e2 E' h
    rw [h, e1, e2, hE]
    exact ivP_add
  refine Rc.of ?_
  refine r_iload_n dX4_keep_0 (by first | rfl | assumption) ?_
  refine r_iload_n dX4_keep_1 (by first | rfl | assumption) ?_
  by_cases q : f < bh
  · have k1 : kp ts f bh = ((ts.getD f t0).2.1, (ts.getD (bh - 1) t0).2.2.1) := if_pos q
    refine r_icmp_ge_f (tgt := 9) dX4_keep_2 (by decide) (nI_ge q (by omega)) ?_
    refine r_ic (1) dX4_keep_5 rfl ?_
    refine r_goto (tgt := 10) dX4_keep_6 (by decide) ?_
    refine r_istore dX4_keep_10 (by decide) (by first | exact z_c1_i (by first | rfl | assumption) | exact z_c1_r (by first | rfl | assumption) | exact z_c1_n (by first | rfl | assumption) | exact z_c1_c (by first | rfl | assumption) | exact z_c1_0 (by first | rfl | assumption)) ?_
    refine r_aload_n dX4_keep_12 (by first | rfl | assumption) ?_
    refine r_getf dX4_keep_13 zf_X4_23 (by assumption) rfl ?_
    refine r_iload dX4_keep_16 (by first | rfl | assumption) ?_
    refine r_if_eq_f (tgt := 29) dX4_keep_18 (by decide) (by decide) ?_
    refine r_aload_n dX4_keep_21 (by first | rfl | assumption) ?_
    refine r_iload_n dX4_keep_22 (by first | rfl | assumption) ?_
    refine r_callV1 dX4_keep_23 zm_X4_80 (by assumption) rfl (Nat.le_of_ble_eq_true rfl) (Nat.le_of_ble_eq_true rfl) (C_X6_start ht hV hts1) (fun v S9 hv => ?_)
    obtain ⟨hS9, rfl⟩ := hv
    subst hS9
    rw [iAt_mapf (by omega) (getD_some (d0 := t0) (show f < ts.length by omega))]
    refine r_goto (tgt := 30) dX4_keep_26 (by decide) ?_
    refine r_callV1 dX4_keep_30 zm_X4_83 (by assumption) rfl (Nat.le_of_ble_eq_true rfl) (Nat.le_of_ble_eq_true rfl) (V_X1_add hV hs1 lg) (fun v S1 hv => ?_)
    obtain ⟨rfl, rc1, hP1⟩ := hv
    have hp1 := hP1.raw hV hp0 (by decide) (by decide) hl (by simp)
    have ht1 := hP1.raw hV ht (by decide) (by decide) htl (by simp)
    have he2 : (eI E s (bnd, (gs.map fun q => nI q.1) ++ [nI (ts.getD f t0).2.1]) rc1).2.1 e = some (bnd, gs.map fun q => nI q.2) := (va_up_ne _ _ n0).trans he1
    have hte2 : (eI E s (bnd, (gs.map fun q => nI q.1) ++ [nI (ts.getD f t0).2.1]) rc1).2.1 te = some (b3, ts.map fun q => nI q.2.2.1) := (va_up_ne _ _ n3).trans hte1
    have c2 := (hP1.1.i he2).1.1
    refine r_aload_n dX4_keep_33 (by first | rfl | assumption) ?_
    refine r_getf dX4_keep_34 zf_X4_27 (by assumption) rfl ?_
    refine r_iload dX4_keep_37 (by first | rfl | assumption) ?_
    refine r_if_eq_f (tgt := 52) dX4_keep_39 (by decide) (by decide) ?_
    refine r_aload_n dX4_keep_42 (by first | rfl | assumption) ?_
    refine r_iload_n dX4_keep_43 (by first | rfl | assumption) ?_
    refine r_ic (1) dX4_keep_44 rfl ?_
    refine r_isub dX4_keep_45 ?_
    rw [show nI bh - 1 = nI (bh - 1) by obtain ⟨k, rfl⟩ : ∃ k, bh = k + 1 := ⟨bh - 1, by omega⟩; exact nI_p1]
    refine r_callV1 dX4_keep_46 zm_X4_87 (by assumption) rfl (Nat.le_of_ble_eq_true rfl) (Nat.le_of_ble_eq_true rfl) (C_X6_end ht1 hP1.1 hte2) (fun v S9 hv => ?_)
    obtain ⟨hS9, rfl⟩ := hv
    subst hS9
    rw [iAt_mapf (by omega) (getD_some (d0 := t0) (show bh - 1 < ts.length by omega))]
    refine r_goto (tgt := 53) dX4_keep_49 (by decide) ?_
    refine r_callV1 dX4_keep_53 zm_X4_83 (by assumption) rfl (Nat.le_of_ble_eq_true rfl) (Nat.le_of_ble_eq_true rfl) (V_X1_add hP1.1 he2 lg2) (fun v S2 hv => ?_)
    obtain ⟨rfl, rc2, hP2⟩ := hv
    refine r_return dX4_keep_56 rfl ⟨rfl, _, hP1.tr hP2, rfl, fin _ _ (by rw [k1]) (by rw [k1]) _ rfl⟩
  · have k1 : kp ts f bh = (0, 0) := if_neg q
    refine r_icmp_ge_t (tgt := 9) dX4_keep_2 (by decide) (nI_le (show bh ≤ f by omega) (by omega)) ?_
    refine r_ic (0) dX4_keep_9 rfl ?_
    refine r_istore dX4_keep_10 (by decide) (by first | exact z_c1_i (by first | rfl | assumption) | exact z_c1_r (by first | rfl | assumption) | exact z_c1_n (by first | rfl | assumption) | exact z_c1_c (by first | rfl | assumption) | exact z_c1_0 (by first | rfl | assumption)) ?_
    refine r_aload_n dX4_keep_12 (by first | rfl | assumption) ?_
    refine r_getf dX4_keep_13 zf_X4_23 (by assumption) rfl ?_
    refine r_iload dX4_keep_16 (by first | rfl | assumption) ?_
    refine r_if_eq_t (tgt := 29) dX4_keep_18 (by decide) (rfl) ?_
    refine r_ic (0) dX4_keep_29 rfl ?_
    refine r_callV1 dX4_keep_30 zm_X4_83 (by assumption) rfl (Nat.le_of_ble_eq_true rfl) (Nat.le_of_ble_eq_true rfl) (V_X1_add hV hs1 lg) (fun v S1 hv => ?_)
    obtain ⟨rfl, rc1, hP1⟩ := hv
    have hp1 := hP1.raw hV hp0 (by decide) (by decide) hl (by simp)
    have he2 : (eI E s (bnd, (gs.map fun q => nI q.1) ++ [0]) rc1).2.1 e = some (bnd, gs.map fun q => nI q.2) := (va_up_ne _ _ n0).trans he1
    have c2 := (hP1.1.i he2).1.1
    refine r_aload_n dX4_keep_33 (by first | rfl | assumption) ?_
    refine r_getf dX4_keep_34 zf_X4_27 (by assumption) rfl ?_
    refine r_iload dX4_keep_37 (by first | rfl | assumption) ?_
    refine r_if_eq_t (tgt := 52) dX4_keep_39 (by decide) (rfl) ?_
    refine r_ic (0) dX4_keep_52 rfl ?_
    refine r_callV1 dX4_keep_53 zm_X4_83 (by assumption) rfl (Nat.le_of_ble_eq_true rfl) (Nat.le_of_ble_eq_true rfl) (V_X1_add hP1.1 he2 lg2) (fun v S2 hv => ?_)
    obtain ⟨rfl, rc2, hP2⟩ := hv
    refine r_return dX4_keep_56 rfl ⟨rfl, _, hP1.tr hP2, rfl, fin _ _ (by rw [k1]; rfl) (by rw [k1]; rfl) _ rfl⟩
theorem up2 {α : Type} {f : Nat → α} {o : Nat} {a b : α} : va_up (va_up f o a) o b = va_up f o b := by
  funext x
  by_cases h : x = o
  · subst h; simp [va_up]
  · simp [va_up, h]
theorem up_sw {α : Type} {f : Nat → α} {o q : Nat} {a b : α} (h : o ≠ q) : va_up (va_up f o a) q b = va_up (va_up f q b) o a := by
  funext x
  by_cases h1 : x = o
  · subst h1; simp [va_up, h]
  · by_cases h2 : x = q
    · subst h2; simp [va_up, h1]
    · simp [va_up, h1, h2]
theorem seg_all {xs : List Nat} : seg xs 0 xs.length = xs := by
  unfold seg
  rw [List.drop_zero, Nat.sub_zero, List.take_length]
theorem gaS_len {ts : List zT} : ∀ (n i f dp : Nat) (gs : List (Nat × Nat)), (gaS ts n i f dp gs).length ≤ gs.length + n + 1
  | 0, _, _, _, gs => by
    show (gs ++ [_]).length ≤ _
    rw [List.length_append, List.length_singleton]
    omega
  | n + 1, i, f, dp, gs => by
    rw [gaS_s]
    split
    · have := gaS_len (ts := ts) n (i + 1) (i + 1) dp (gs ++ [kp ts f i])
      rw [List.length_append, List.length_singleton] at this
      omega
    · split
      · have := gaS_len (ts := ts) n (i + 1) f (dp + 1) gs
        omega
      · split
        · have := gaS_len (ts := ts) n (i + 1) f (dp - 1) gs
          omega
        · have := gaS_len (ts := ts) n (i + 1) f dp gs
          omega
set_option maxRecDepth 10000 in
set_option maxHeartbeats 2000000 in
theorem V_X4_gather {m ms ml ab lim b4 : Nat} {w0 w1 w2 w3 : Value} {xs gv : List Nat} {is i1 i2 : List Int32} (hp : S.2.2 p = .inr (5, pF k0 fr0 to0 bk0 ln0 tl0 sr0 mv g s e)) (hl : p < S.1) (ht : S.2.2 t = .inr (7, tF tb tk1 tst te stop val sec)) (htl : t < S.1) (hm : S.2.2 m = .inr (3, [w0, w1, w2, w3, .ref ms, .ref ml])) (hml : m < S.1) (hV : Vw S E lB lI B C) (hg : E.1 g = some (1024, gv)) (hab : E.1 ab = some (lim, xs)) (hxl : xs.length ≤ 1024) (nb : ab ≠ g) (hs : E.2.1 s = some (bnd, i1)) (he : E.2.1 e = some (bnd, i2)) (hk : E.2.1 tk1 = some (b1, ts.map fun q => q.1)) (hts : E.2.1 tst = some (b2, ts.map fun q => nI q.2.1)) (hte : E.2.1 te = some (b3, ts.map fun q => nI q.2.2.1)) (hms : E.2.1 ms = some (b4, is)) (n0 : e ≠ s) (n1 : tst ≠ s) (n2 : tst ≠ e) (n3 : te ≠ s) (n4 : te ≠ e) (n5 : tk1 ≠ s) (n6 : tk1 ≠ e) (n7 : ms ≠ s) (n8 : ms ≠ e) (htb : ts.length ≤ bnd) : Rc (d + 5) mX4_gather [.ref p, .ref ab, .ref t, .ref m] S (fun v S1 => v = some (.int (bI (decide ((gat ts).length ≤ is.length)))) ∧ S1.2.2 p = .inr (5, pF k0 fr0 to0 bk0 ln0 tl0 sr0 (.ref m) g s e) ∧ vQ S E lB lI B C [p] S1 (va_up E.1 g (some (1024, xs))) (ivP E.2.1 s e bnd (gat ts))) := by
  have hbn : bnd ≤ 65536 := (hV.i hs).2.2.2.2.1
  have hisl : is.length ≤ 65536 := Nat.le_trans (hV.i hms).2.2.2.1 (hV.i hms).2.2.2.2.1
  have hX : p ∈ [p] := List.mem_singleton.mpr rfl
  refine Rc.of ?_
  refine r_aload_n dX4_gather_0 (by first | rfl | assumption) ?_
  refine r_aload_n dX4_gather_1 (by first | rfl | assumption) ?_
  refine r_putf dX4_gather_2 zf_X4_46 hp (Nat.le_of_ble_eq_true rfl) ⟨rfl, rfl⟩ ?_
  have hP0 : vP S E lB lI B C [p] (z_put S p (.inr (5, pF k0 fr0 to0 bk0 ln0 tl0 sr0 (.ref m) g s e))) E := vP.put hV (hV.raw hp (by decide) (by decide)) hX
  have h0 : (z_put S p (.inr (5, pF k0 fr0 to0 bk0 ln0 tl0 sr0 (.ref m) g s e))).2.2 p = .inr (5, pF k0 fr0 to0 bk0 ln0 tl0 sr0 (.ref m) g s e) := va_up_self _ _ _
  have t0' : (z_put S p (.inr (5, pF k0 fr0 to0 bk0 ln0 tl0 sr0 (.ref m) g s e))).2.2 t = .inr (7, tF tb tk1 tst te stop val sec) := (va_up_ne _ _ (fun q => by rw [q, hp] at ht; cases ht)).trans ht
  have m0 : (z_put S p (.inr (5, pF k0 fr0 to0 bk0 ln0 tl0 sr0 (.ref m) g s e))).2.2 m = .inr (3, [w0, w1, w2, w3, .ref ms, .ref ml]) := (va_up_ne _ _ (fun q => by rw [q, hp] at hm; cases hm)).trans hm
  show Ru (d + 5) mX4_gather _ _ _ (z_put S p (.inr (5, pF k0 fr0 to0 bk0 ln0 tl0 sr0 (.ref m) g s e))) _
  generalize z_put S p (.inr (5, pF k0 fr0 to0 bk0 ln0 tl0 sr0 (.ref m) g s e)) = S0 at hP0 h0 t0' m0 ⊢
  have l0 := hP0.lt hl
  have tq0 := hP0.lt htl
  have ml0 := hP0.lt hml
  have cg := (hP0.1.b hg).1.1
  refine r_aload_n dX4_gather_5 (by first | rfl | assumption) ?_
  refine r_getf dX4_gather_6 zf_X4_14 (h0) rfl ?_
  refine r_callV0 dX4_gather_9 zm_X4_50 (by assumption) rfl (Nat.le_of_ble_eq_true rfl) (Nat.le_of_ble_eq_true rfl) (V_X0_clear hP0.1 hg) (fun v S1 hv => ?_)
  obtain ⟨rfl, rc1, hQ1⟩ := hv
  have h1 := hQ1.raw hP0.1 h0 (by decide) (by decide) l0 (by simp)
  have t1 := hQ1.raw hP0.1 t0' (by decide) (by decide) tq0 (by simp)
  have m1 := hQ1.raw hP0.1 m0 (by decide) (by decide) ml0 (by simp)
  have hg1 : (eB E g (1024, []) rc1).1 g = some (1024, []) := va_up_self _ _ _
  have hab1 : (eB E g (1024, []) rc1).1 ab = some (lim, xs) := (va_up_ne _ _ nb).trans hab
  have kab := (hQ1.1.b hab1).1
  have kab1 := kab.1
  have cg1 := (hQ1.1.b hg1).1.1
  refine r_aload_n dX4_gather_12 (by first | rfl | assumption) ?_
  refine r_getf dX4_gather_13 zf_X4_14 (h1) rfl ?_
  refine r_aload_n dX4_gather_16 (by first | rfl | assumption) ?_
  refine r_ic (0) dX4_gather_17 rfl ?_
  refine r_aload_n dX4_gather_18 (by first | rfl | assumption) ?_
  refine r_callV0 dX4_gather_19 zm_X4_53 (by assumption) rfl (Nat.le_of_ble_eq_true rfl) (Nat.le_of_ble_eq_true rfl) (C_X0_size kab) (fun v S9 hv => ?_)
  obtain ⟨hS9, rfl⟩ := hv
  subst hS9
  refine r_callV3 dX4_gather_22 zm_X4_57 (by assumption) rfl (Nat.le_of_ble_eq_true rfl) (Nat.le_of_ble_eq_true rfl) (V_X0_appendPart (a := 0) hQ1.1 hg1 hab1 nb (Nat.le_refl _) (by decide)) (fun v S2 hv => ?_)
  obtain ⟨rfl, rc2, hQ2⟩ := hv
  rw [seg_all, List.nil_append, List.take_of_length_le hxl] at hQ2
  have h2 := hQ2.raw hQ1.1 h1 (by decide) (by decide) (hQ1.lt l0) (by simp)
  have t2 := hQ2.raw hQ1.1 t1 (by decide) (by decide) (hQ1.lt tq0) (by simp)
  have m2 := hQ2.raw hQ1.1 m1 (by decide) (by decide) (hQ1.lt ml0) (by simp)
  have hR2 := (hP0.tr hQ1.nil).tr hQ2.nil
  have e2 : (eB (eB E g (1024, []) rc1) g (1024, xs) rc2).1 = va_up E.1 g (some (1024, xs)) := up2
  have e2i : (eB (eB E g (1024, []) rc1) g (1024, xs) rc2).2.1 = E.2.1 := rfl
  generalize eB (eB E g (1024, []) rc1) g (1024, xs) rc2 = E2 at hQ2 hR2 e2 e2i
  have l2 := hQ2.lt (hQ1.lt l0)
  have tl2 := hQ2.lt (hQ1.lt tq0)
  have ml2 := hQ2.lt (hQ1.lt ml0)
  clear hQ1 hP0
  rw [← e2i] at hs he hk hts hte hms
  have cs := (hQ2.1.i hs).1.1
  refine r_pop dX4_gather_25 rfl ?_
  refine r_aload_n dX4_gather_26 (by first | rfl | assumption) ?_
  refine r_getf dX4_gather_27 zf_X4_23 (h2) rfl ?_
  refine r_callV0 dX4_gather_30 zm_X4_61 (by assumption) rfl (Nat.le_of_ble_eq_true rfl) (Nat.le_of_ble_eq_true rfl) (V_X1_clear hQ2.1 hs) (fun v S3 hv => ?_)
  obtain ⟨rfl, rc3, hQ3⟩ := hv
  have h3 := hQ3.raw hQ2.1 h2 (by decide) (by decide) l2 (by simp)
  have t3 := hQ3.raw hQ2.1 t2 (by decide) (by decide) tl2 (by simp)
  have m3 := hQ3.raw hQ2.1 m2 (by decide) (by decide) ml2 (by simp)
  have he3 : (eI E2 s (bnd, []) rc3).2.1 e = some (bnd, i2) := (va_up_ne _ _ n0).trans he
  have ce := (hQ3.1.i he3).1.1
  refine r_aload_n dX4_gather_33 (by first | rfl | assumption) ?_
  refine r_getf dX4_gather_34 zf_X4_27 (h3) rfl ?_
  refine r_callV0 dX4_gather_37 zm_X4_61 (by assumption) rfl (Nat.le_of_ble_eq_true rfl) (Nat.le_of_ble_eq_true rfl) (V_X1_clear hQ3.1 he3) (fun v S4 hv => ?_)
  obtain ⟨rfl, rc4, hQ4⟩ := hv
  have h4 := hQ4.raw hQ3.1 h3 (by decide) (by decide) (hQ3.lt l2) (by simp)
  have t4 := hQ4.raw hQ3.1 t3 (by decide) (by decide) (hQ3.lt tl2) (by simp)
  have m4 := hQ4.raw hQ3.1 m3 (by decide) (by decide) (hQ3.lt ml2) (by simp)
  have hR4 := (hR2.tr hQ3.nil).tr hQ4.nil
  have e4 : (eI (eI E2 s (bnd, []) rc3) e (bnd, []) rc4).1 = va_up E.1 g (some (1024, xs)) := e2
  have e4i : (eI (eI E2 s (bnd, []) rc3) e (bnd, []) rc4).2.1 = ivP E2.2.1 s e bnd [] := rfl
  generalize eI (eI E2 s (bnd, []) rc3) e (bnd, []) rc4 = E4 at hQ4 hR4 e4 e4i
  have l4 := hQ4.lt (hQ3.lt l2)
  have tl4 := hQ4.lt (hQ3.lt tl2)
  have ml4 := hQ4.lt (hQ3.lt ml2)
  have hV4 := hQ4.1
  clear hQ3 hQ4 hQ2 hR2
  rw [← e2i]
  clear e2i
  have hk4 : ∀ gs0 x q, E2.2.1 x = some q → x ≠ s → x ≠ e → ivP E2.2.1 s e bnd gs0 x = some q := fun gs0 x q hq a b => (ivP_else a b).trans hq
  have hkk : E4.2.1 tk1 = some (b1, ts.map fun q => q.1) := by rw [e4i]; exact hk4 _ _ _ hk n5 n6
  refine r_aload_n dX4_gather_40 (by first | rfl | assumption) ?_
  refine r_callV0 dX4_gather_41 zm_X4_62 (by assumption) rfl (Nat.le_of_ble_eq_true rfl) (Nat.le_of_ble_eq_true rfl) (C_X6_count t4 hV4 hkk) (fun v S9 hv => ?_)
  obtain ⟨hS9, rfl⟩ := hv
  subst hS9
  rw [List.length_map]
  refine r_istore dX4_gather_44 (by decide) (by first | exact z_c1_i (by first | rfl | assumption) | exact z_c1_r (by first | rfl | assumption) | exact z_c1_n (by first | rfl | assumption) | exact z_c1_c (by first | rfl | assumption) | exact z_c1_0 (by first | rfl | assumption)) ?_
  refine r_iload dX4_gather_46 (by first | rfl | assumption) ?_
  refine r_ic (2) dX4_gather_48 rfl ?_
  by_cases q0 : ts.length < 2
  · have hga : gat ts = [] := if_pos q0
    refine r_icmp_ge_f (tgt := 54) dX4_gather_49 (by decide) (nI_ge (b := 2) q0 (by decide)) ?_
    refine r_ic (1) dX4_gather_52 rfl ?_
    refine r_ireturn dX4_gather_53 _ rfl rfl ⟨?_, h4, E4, hR4, e4, by rw [e4i, hga]⟩
    rw [hga, decide_eq_true (show ([] : List (Nat × Nat)).length ≤ is.length from Nat.zero_le _)]
    rfl
  have hga : gat ts = gaS ts (ts.length - 1) 1 1 0 [] := if_neg q0
  refine r_icmp_ge_t (tgt := 54) dX4_gather_49 (by decide) (nI_le (a := 2) (show 2 ≤ ts.length by omega) (by omega)) ?_
  have loop : ∀ (n i f dp : Nat) (gs : List (Nat × Nat)) (L : Nat → Option Value) (S5 : zS) (E5 : zE), i + n = ts.length → f ≤ i → 1 ≤ i → gs.length < i → dp < i → gaS ts n i f dp gs = gat ts → vP S9 E4 lB lI B C [p] S5 E5 → E5.1 = E4.1 → E5.2.1 = ivP E2.2.1 s e bnd gs → S5.2.2 p = .inr (5, pF k0 fr0 to0 bk0 ln0 tl0 sr0 (.ref m) g s e) → S5.2.2 t = .inr (7, tF tb tk1 tst te stop val sec) → S5.2.2 m = .inr (3, [w0, w1, w2, w3, .ref ms, .ref ml]) → L 0 = some (.ref p) → L 2 = some (.ref t) → L 3 = some (.ref m) → L 4 = some (.int (nI ts.length)) → L 5 = some (.int (nI f)) → L 6 = some (.int (nI dp)) → L 7 = some (.int (nI i)) → Ru (d + 5) mX4_gather 63 L [] S5 (z_en mX4_gather (fun v S1 => v = some (.int (bI (decide ((gat ts).length ≤ is.length)))) ∧ S1.2.2 p = .inr (5, pF k0 fr0 to0 bk0 ln0 tl0 sr0 (.ref m) g s e) ∧ vQ S E lB lI B C [p] S1 (va_up E.1 g (some (1024, xs))) (ivP E2.2.1 s e bnd (gat ts)))) := by
    intro n
    induction n with
    | zero =>
      intro i f dp gs L S5 E5 hin hfi hi1 hgl hdp hst hP5 hb5 hi5 p5 t5 m5 L0 L2 L3 L4 L5 L6 L7
      have hst' : gs ++ [kp ts f ts.length] = gat ts := hst
      refine r_iload dX4_gather_63 (by first | rfl | assumption) ?_
      refine r_iload dX4_gather_65 (by first | rfl | assumption) ?_
      refine r_icmp_ge_t (tgt := 156) dX4_gather_67 (by decide) (nI_le (show ts.length ≤ i by omega) (by omega)) ?_
      refine r_aload_n dX4_gather_156 (by first | rfl | assumption) ?_
      refine r_aload_n dX4_gather_157 (by first | rfl | assumption) ?_
      refine r_iload dX4_gather_158 (by first | rfl | assumption) ?_
      refine r_iload dX4_gather_160 (by first | rfl | assumption) ?_
      refine r_callV3 dX4_gather_162 zm_X4_70 (by assumption) rfl (Nat.le_of_ble_eq_true rfl) (Nat.le_of_ble_eq_true rfl) (V_X4_keep p5 (hP5.lt l4) t5 (hP5.lt tl4) hP5.1 hi5 hts hte n0 n1 n2 n3 n4 (Nat.le_refl _) (by omega) (by omega) (by omega)) (fun v S6 hv => ?_)
      obtain ⟨rfl, E6, hP6, hb6, hi6⟩ := hv
      have p6 := hP6.raw hP5.1 p5 (by decide) (by decide) (hP5.lt l4) (by simp)
      have m6 := hP6.raw hP5.1 m5 (by decide) (by decide) (hP5.lt ml4) (by simp)
      rw [hst'] at hi6
      have hs6 : E6.2.1 s = some (bnd, (gat ts).map fun q => nI q.1) := by rw [hi6]; exact ivP_s n0
      have hms6 : E6.2.1 ms = some (b4, is) := by rw [hi6]; exact hk4 _ _ _ hms n7 n8
      have cs6 := (hP6.1.i hs6).1
      have cs61 := cs6.1
      refine r_aload_n dX4_gather_165 (by first | rfl | assumption) ?_
      refine r_getf dX4_gather_166 zf_X4_23 (p6) rfl ?_
      refine r_callV0 dX4_gather_169 zm_X4_74 (by assumption) rfl (Nat.le_of_ble_eq_true rfl) (Nat.le_of_ble_eq_true rfl) (C_X1_size cs6) (fun v S9 hv => ?_)
      obtain ⟨hS9, rfl⟩ := hv
      subst hS9
      refine r_aload_n dX4_gather_172 (by first | rfl | assumption) ?_
      refine r_callV0 dX4_gather_173 zm_X4_75 (by assumption) rfl (Nat.le_of_ble_eq_true rfl) (Nat.le_of_ble_eq_true rfl) (C_X2_places m6 hP6.1 hms6) (fun v S9 hv => ?_)
      obtain ⟨hS9, rfl⟩ := hv
      subst hS9
      rw [List.length_map]
      have hgl2 : (gat ts).length ≤ 65536 := by
        have := (hP6.1.i hs6).2.2.2.1
        rw [List.length_map] at this
        omega
      by_cases q : (gat ts).length ≤ is.length
      · refine r_icmp_gt_f (tgt := 183) dX4_gather_176 (by decide) (nI_nlt q (by omega)) ?_
        refine r_ic (1) dX4_gather_179 rfl ?_
        refine r_goto (tgt := 184) dX4_gather_180 (by decide) ?_
        refine r_ireturn dX4_gather_184 _ rfl rfl ⟨by rw [decide_eq_true q]; rfl, p6, E6, (hR4.tr hP5).tr hP6.nil, by rw [hb6, hb5, e4], hi6⟩
      · refine r_icmp_gt_t (tgt := 183) dX4_gather_176 (by decide) (nI_lt (show is.length < (gat ts).length by omega) (by omega)) ?_
        refine r_ic (0) dX4_gather_183 rfl ?_
        refine r_ireturn dX4_gather_184 _ rfl rfl ⟨by rw [decide_eq_false q]; rfl, p6, E6, (hR4.tr hP5).tr hP6.nil, by rw [hb6, hb5, e4], hi6⟩
    | succ n ih =>
      intro i f dp gs L S5 E5 hin hfi hi1 hgl hdp hst hP5 hb5 hi5 p5 t5 m5 L0 L2 L3 L4 L5 L6 L7
      have hk5 : E5.2.1 tk1 = some (b1, ts.map fun q => q.1) := by rw [hi5]; exact hk4 _ _ _ hk n5 n6
      rw [gaS_s] at hst
      refine r_iload dX4_gather_63 (by first | rfl | assumption) ?_
      refine r_iload dX4_gather_65 (by first | rfl | assumption) ?_
      refine r_icmp_ge_f (tgt := 156) dX4_gather_67 (by decide) (nI_ge (show i < ts.length by omega) (by omega)) ?_
      refine r_aload_n dX4_gather_70 (by first | rfl | assumption) ?_
      refine r_iload dX4_gather_71 (by first | rfl | assumption) ?_
      refine r_callV1 dX4_gather_73 zm_X4_67 (by assumption) rfl (Nat.le_of_ble_eq_true rfl) (Nat.le_of_ble_eq_true rfl) (C_X6_kind t5 hP5.1 hk5) (fun v S9 hv => ?_)
      obtain ⟨hS9, rfl⟩ := hv
      subst hS9
      rw [iAt_m1 (by omega) (show i < ts.length by omega)]
      generalize (ts.getD i t0).1 = kd at hst ⊢
      have n44 : ¬ (kd = 44 ∧ dp = 0) → Ru (d + 5) mX4_gather 108 (z_s1 L 8 (Value.int kd)) [] S9 (z_en mX4_gather (fun v S1 => v = some (.int (bI (decide ((gat ts).length ≤ is.length)))) ∧ S1.2.2 p = .inr (5, pF k0 fr0 to0 bk0 ln0 tl0 sr0 (.ref m) g s e) ∧ vQ S E lB lI B C [p] S1 (va_up E.1 g (some (1024, xs))) (ivP E2.2.1 s e bnd (gat ts)))) := by
        intro q1
        rw [if_neg q1] at hst
        have up : kd = 40 ∨ kd = 91 → Ru (d + 5) mX4_gather 122 (z_s1 L 8 (Value.int kd)) [] S9 (z_en mX4_gather (fun v S1 => v = some (.int (bI (decide ((gat ts).length ≤ is.length)))) ∧ S1.2.2 p = .inr (5, pF k0 fr0 to0 bk0 ln0 tl0 sr0 (.ref m) g s e) ∧ vQ S E lB lI B C [p] S1 (va_up E.1 g (some (1024, xs))) (ivP E2.2.1 s e bnd (gat ts)))) := by
          intro q2
          rw [if_pos q2] at hst
          refine r_inc (nI (dp + 1)) dX4_gather_122 (by first | rfl | assumption) (by decide) (by first | exact z_c1_i (by first | rfl | assumption) | exact z_c1_r (by first | rfl | assumption) | exact z_c1_n (by first | rfl | assumption) | exact z_c1_c (by first | rfl | assumption) | exact z_c1_0 (by first | rfl | assumption)) (nI_1 dp) ?_
          refine r_goto (tgt := 150) dX4_gather_125 (by decide) ?_
          refine r_inc (nI (i + 1)) dX4_gather_150 (by first | rfl | assumption) (by decide) (by first | exact z_c1_i (by first | rfl | assumption) | exact z_c1_r (by first | rfl | assumption) | exact z_c1_n (by first | rfl | assumption) | exact z_c1_c (by first | rfl | assumption) | exact z_c1_0 (by first | rfl | assumption)) (nI_1 i) ?_
          refine r_goto (tgt := 63) dX4_gather_153 (by decide) ?_
          exact ih (i + 1) f (dp + 1) gs _ S9 E5 (by omega) (by omega) (by omega) (by omega) (by omega) hst hP5 hb5 hi5 p5 t5 m5 L0 L2 L3 L4 L5 rfl rfl
        have stay : ¬ (((kd = 41 ∨ kd = 93) ∧ 0 < dp)) → ¬ (kd = 40 ∨ kd = 91) → Ru (d + 5) mX4_gather 150 (z_s1 L 8 (Value.int kd)) [] S9 (z_en mX4_gather (fun v S1 => v = some (.int (bI (decide ((gat ts).length ≤ is.length)))) ∧ S1.2.2 p = .inr (5, pF k0 fr0 to0 bk0 ln0 tl0 sr0 (.ref m) g s e) ∧ vQ S E lB lI B C [p] S1 (va_up E.1 g (some (1024, xs))) (ivP E2.2.1 s e bnd (gat ts)))) := by
          intro q3 q2
          rw [if_neg q2, if_neg q3] at hst
          refine r_inc (nI (i + 1)) dX4_gather_150 (by first | rfl | assumption) (by decide) (by first | exact z_c1_i (by first | rfl | assumption) | exact z_c1_r (by first | rfl | assumption) | exact z_c1_n (by first | rfl | assumption) | exact z_c1_c (by first | rfl | assumption) | exact z_c1_0 (by first | rfl | assumption)) (nI_1 i) ?_
          refine r_goto (tgt := 63) dX4_gather_153 (by decide) ?_
          exact ih (i + 1) f dp gs _ S9 E5 (by omega) (by omega) (by omega) (by omega) (by omega) hst hP5 hb5 hi5 p5 t5 m5 L0 L2 L3 L4 L5 L6 rfl
        have down : kd = 41 ∨ kd = 93 → ¬ (kd = 40 ∨ kd = 91) → Ru (d + 5) mX4_gather 142 (z_s1 L 8 (Value.int kd)) [] S9 (z_en mX4_gather (fun v S1 => v = some (.int (bI (decide ((gat ts).length ≤ is.length)))) ∧ S1.2.2 p = .inr (5, pF k0 fr0 to0 bk0 ln0 tl0 sr0 (.ref m) g s e) ∧ vQ S E lB lI B C [p] S1 (va_up E.1 g (some (1024, xs))) (ivP E2.2.1 s e bnd (gat ts)))) := by
          intro q3 q2
          refine r_iload dX4_gather_142 (by first | rfl | assumption) ?_
          by_cases q4 : 0 < dp
          · rw [if_neg q2, if_pos ⟨q3, q4⟩] at hst
            refine r_if_le_f (tgt := 150) dX4_gather_144 (by decide) (show ¬ nI dp ≤ nI 0 from nI_ge q4 (by omega)) ?_
            refine r_inc (nI (dp - 1)) dX4_gather_147 (by first | rfl | assumption) (by decide) (by first | exact z_c1_i (by first | rfl | assumption) | exact z_c1_r (by first | rfl | assumption) | exact z_c1_n (by first | rfl | assumption) | exact z_c1_c (by first | rfl | assumption) | exact z_c1_0 (by first | rfl | assumption)) (by rw [dec1]; obtain ⟨k, rfl⟩ : ∃ k, dp = k + 1 := ⟨dp - 1, by omega⟩; exact nI_p1) ?_
            refine r_inc (nI (i + 1)) dX4_gather_150 (by first | rfl | assumption) (by decide) (by first | exact z_c1_i (by first | rfl | assumption) | exact z_c1_r (by first | rfl | assumption) | exact z_c1_n (by first | rfl | assumption) | exact z_c1_c (by first | rfl | assumption) | exact z_c1_0 (by first | rfl | assumption)) (nI_1 i) ?_
            refine r_goto (tgt := 63) dX4_gather_153 (by decide) ?_
            exact ih (i + 1) f (dp - 1) gs _ S9 E5 (by omega) (by omega) (by omega) (by omega) (by omega) hst hP5 hb5 hi5 p5 t5 m5 L0 L2 L3 L4 L5 rfl rfl
          · refine r_if_le_t (tgt := 150) dX4_gather_144 (by decide) (show nI dp ≤ nI 0 from nI_le (show dp ≤ 0 by omega) (by decide)) ?_
            exact stay (fun z => q4 z.2) q2
        refine r_iload dX4_gather_108 (by first | rfl | assumption) ?_
        refine r_bp (40) dX4_gather_110 rfl ?_
        refine r_icmp_eq (tgt := 122) dX4_gather_112 (by decide) (fun c112 => ?_) (fun c112 => ?_)
        · exact up (Or.inl c112)
        · refine r_iload dX4_gather_115 (by first | rfl | assumption) ?_
          refine r_bp (91) dX4_gather_117 rfl ?_
          refine r_icmp_ne (tgt := 128) dX4_gather_119 (by decide) (fun c119 => ?_) (fun c119 => ?_)
          · have q2 : ¬ (kd = 40 ∨ kd = 91) := fun z => z.elim c112 c119
            refine r_iload dX4_gather_128 (by first | rfl | assumption) ?_
            refine r_bp (41) dX4_gather_130 rfl ?_
            refine r_icmp_eq (tgt := 142) dX4_gather_132 (by decide) (fun c132 => ?_) (fun c132 => ?_)
            · exact down (Or.inl c132) q2
            · refine r_iload dX4_gather_135 (by first | rfl | assumption) ?_
              refine r_bp (93) dX4_gather_137 rfl ?_
              refine r_icmp_ne (tgt := 150) dX4_gather_139 (by decide) (fun c139 => ?_) (fun c139 => ?_)
              · exact stay (fun z => z.1.elim c132 c139) q2
              · exact down (Or.inr c139) q2
          · exact up (Or.inr c119)
      refine r_istore dX4_gather_76 (by decide) (by first | exact z_c1_i (by first | rfl | assumption) | exact z_c1_r (by first | rfl | assumption) | exact z_c1_n (by first | rfl | assumption) | exact z_c1_c (by first | rfl | assumption) | exact z_c1_0 (by first | rfl | assumption)) ?_
      refine r_iload dX4_gather_78 (by first | rfl | assumption) ?_
      refine r_bp (44) dX4_gather_80 rfl ?_
      refine r_icmp_ne (tgt := 108) dX4_gather_82 (by decide) (fun c82 => ?_) (fun c82 => ?_)
      · exact n44 (fun z => c82 z.1)
      · refine r_iload dX4_gather_85 (by first | rfl | assumption) ?_
        by_cases q : dp = 0
        · rw [if_pos ⟨c82, q⟩] at hst
          refine r_if_ne_f (tgt := 108) dX4_gather_87 (by decide) (by rw [q]; rfl) ?_
          refine r_aload_n dX4_gather_90 (by first | rfl | assumption) ?_
          refine r_aload_n dX4_gather_91 (by first | rfl | assumption) ?_
          refine r_iload dX4_gather_92 (by first | rfl | assumption) ?_
          refine r_iload dX4_gather_94 (by first | rfl | assumption) ?_
          refine r_callV3 dX4_gather_96 zm_X4_70 (by assumption) rfl (Nat.le_of_ble_eq_true rfl) (Nat.le_of_ble_eq_true rfl) (V_X4_keep p5 (hP5.lt l4) t5 (hP5.lt tl4) hP5.1 hi5 hts hte n0 n1 n2 n3 n4 (show i ≤ ts.length by omega) (by omega) (by omega) (by omega)) (fun v S6 hv => ?_)
          obtain ⟨rfl, E6, hP6, hb6, hi6⟩ := hv
          have p6 := hP6.raw hP5.1 p5 (by decide) (by decide) (hP5.lt l4) (by simp)
          have m6 := hP6.raw hP5.1 m5 (by decide) (by decide) (hP5.lt ml4) (by simp)
          have t6 := hP6.raw hP5.1 t5 (by decide) (by decide) (hP5.lt tl4) (by simp)
          refine r_iload dX4_gather_99 (by first | rfl | assumption) ?_
          refine r_ic (1) dX4_gather_101 rfl ?_
          refine r_iadd dX4_gather_102 ?_
          rw [nI_1]
          refine r_istore dX4_gather_103 (by decide) (by first | exact z_c1_i (by first | rfl | assumption) | exact z_c1_r (by first | rfl | assumption) | exact z_c1_n (by first | rfl | assumption) | exact z_c1_c (by first | rfl | assumption) | exact z_c1_0 (by first | rfl | assumption)) ?_
          refine r_goto (tgt := 150) dX4_gather_105 (by decide) ?_
          refine r_inc (nI (i + 1)) dX4_gather_150 (by first | rfl | assumption) (by decide) (by first | exact z_c1_i (by first | rfl | assumption) | exact z_c1_r (by first | rfl | assumption) | exact z_c1_n (by first | rfl | assumption) | exact z_c1_c (by first | rfl | assumption) | exact z_c1_0 (by first | rfl | assumption)) (nI_1 i) ?_
          refine r_goto (tgt := 63) dX4_gather_153 (by decide) ?_
          exact ih (i + 1) (i + 1) dp (gs ++ [kp ts f i]) _ S6 E6 (by omega) (by omega) (by omega) (by rw [List.length_append, List.length_singleton]; omega) (by omega) hst (hP5.tr hP6.nil) (hb6.trans hb5) hi6 p6 t6 m6 L0 L2 L3 L4 rfl L6 rfl
        · refine r_if_ne_t (tgt := 108) dX4_gather_87 (by decide) (show ¬ nI dp = nI 0 from fun z => q (by have := congrArg Int32.toNatClampNeg z; rw [nI_clamp (by omega), nI_clamp (by omega)] at this; exact this)) ?_
          exact n44 (fun z => q z.2)
  refine r_ic (1) dX4_gather_54 rfl ?_
  refine r_istore dX4_gather_55 (by decide) (by first | exact z_c1_i (by first | rfl | assumption) | exact z_c1_r (by first | rfl | assumption) | exact z_c1_n (by first | rfl | assumption) | exact z_c1_c (by first | rfl | assumption) | exact z_c1_0 (by first | rfl | assumption)) ?_
  refine r_ic (0) dX4_gather_57 rfl ?_
  refine r_istore dX4_gather_58 (by decide) (by first | exact z_c1_i (by first | rfl | assumption) | exact z_c1_r (by first | rfl | assumption) | exact z_c1_n (by first | rfl | assumption) | exact z_c1_c (by first | rfl | assumption) | exact z_c1_0 (by first | rfl | assumption)) ?_
  refine r_ic (1) dX4_gather_60 rfl ?_
  refine r_istore dX4_gather_61 (by decide) (by first | exact z_c1_i (by first | rfl | assumption) | exact z_c1_r (by first | rfl | assumption) | exact z_c1_n (by first | rfl | assumption) | exact z_c1_c (by first | rfl | assumption) | exact z_c1_0 (by first | rfl | assumption)) ?_
  exact loop (ts.length - 1) 1 1 0 [] _ S9 E4 (by omega) (Nat.le_refl _) (Nat.le_refl _) (by decide) (by decide) hga.symm (vP.rf hV4) rfl e4i h4 t4 m4 rfl rfl rfl rfl rfl rfl rfl
end
