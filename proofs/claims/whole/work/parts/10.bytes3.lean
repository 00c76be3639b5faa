/-! growth of a row is paid out of what it may still grow -/
def pot (lim c : Nat) : Nat := if lim ≤ c then 0 else 3 * lim - 2 * c
def cpt (lim c : Nat) : Nat := if lim ≤ c then 0 else lim - c
/-- b's row r of cap places has become r1 of cp; nothing else has changed -/
def gB (S S1 : zS) (b r cap lim r1 cp : Nat) : Prop := fr S S1 [b, r] ∧ (r1 = r ∨ S.1 ≤ r1) ∧ r1 < S1.1 ∧ S1.2.1 + pot lim cp ≤ S.2.1 + pot lim cap ∧ S1.1 + cpt lim cp ≤ S.1 + cpt lim cap
theorem gB.rf {S : zS} {b r cap lim : Nat} (h : r < S.1) : gB S S b r cap lim r cap := ⟨fr_rf, Or.inl rfl, h, Nat.le_refl _, Nat.le_refl _⟩
theorem gB.tr {S S1 S2 : zS} {b r cap lim r1 cp r2 cp2 : Nat} (h : gB S S1 b r cap lim r1 cp) (k : gB S1 S2 b r1 cp lim r2 cp2) : gB S S2 b r cap lim r2 cp2 := by
  obtain ⟨⟨f1, f2, f3⟩, h2, h3, h4, h5⟩ := h
  obtain ⟨⟨g1, g2, g3⟩, k2, k3, k4, k5⟩ := k
  refine ⟨⟨by omega, by omega, fun j hj hm => ?_⟩, by omega, k3, by omega, by omega⟩
  simp only [List.mem_cons, List.not_mem_nil, or_false, not_or] at hm f3 g3
  exact (g3 j (by omega) ⟨hm.1, by omega⟩).trans (f3 j hj hm)
theorem isB.keep {S S1 : zS} {b r cap lim : Nat} {xs : List Nat} {W : List Nat} (h : isB S b r cap lim xs) (f : fr S S1 W) (hb : b < S.1) (hr : r < S.1) (hbW : b ∉ W) (hrW : r ∉ W) : isB S1 b r cap lim xs := by
  obtain ⟨h1, ⟨g, h2, h3⟩, h4⟩ := h
  exact ⟨(f.2.2 b hb hbW).trans h1, ⟨g, (f.2.2 r hr hrW).trans h2, h3⟩, h4⟩
theorem isI.keep {S S1 : zS} {b r cap : Nat} {xs : List Int32} {W : List Nat} (h : isI S b r cap xs) (f : fr S S1 W) (hb : b < S.1) (hr : r < S.1) (hbW : b ∉ W) (hrW : r ∉ W) : isI S1 b r cap xs := by
  obtain ⟨h1, ⟨g, h2, h3⟩, h4⟩ := h
  exact ⟨(f.2.2 b hb hbW).trans h1, ⟨g, (f.2.2 r hr hrW).trans h2, h3⟩, h4⟩
theorem bPost.use {S S1 : zS} {b r cap lim c : Nat} {xs : List Nat} {v : Option Value} (h : bPost S b r cap lim xs c v S1) (hb : b < S.1) (hr : r < S.1) : (xs.length < lim ∧ v = some (.int 1) ∧ ∃ r1 cp, isB S1 b r1 cp lim (xs ++ [c]) ∧ gB S S1 b r cap lim r1 cp) ∨ (xs.length = lim ∧ v = some (.int 0) ∧ S1 = S) := by
  rcases h with ⟨h1, h2, r1, cp, h3, h4, h5⟩ | h
  · refine Or.inl ⟨h1, h2, r1, cp, h3, h4, ?_⟩
    rcases h5 with ⟨rfl, rfl, e1, e2⟩ | ⟨rfl, rfl, hc, e1, e2⟩
    · exact ⟨Or.inl rfl, by omega, by omega, by omega⟩
    · refine ⟨Or.inr (Nat.le_refl _), by omega, ?_, ?_⟩
      · rw [e2]; unfold pot cap1; split <;> split <;> split <;> omega
      · rw [e1]; unfold cpt cap1; split <;> split <;> split <;> omega
  · exact Or.inr h
def seg (ys : List Nat) (i e : Nat) : List Nat := (ys.drop i).take (e - i)
theorem seg_nil {ys : List Nat} {i e : Nat} (h : e ≤ i) : seg ys i e = [] := by
  unfold seg
  rw [show e - i = 0 by omega, List.take_zero]
theorem seg_cons {ys : List Nat} {i e : Nat} (h : i < e) (hy : i < ys.length) : seg ys i e = ys.getD i 0 :: seg ys (i + 1) e := by
  unfold seg
  rw [List.drop_eq_getElem_cons hy, show e - i = (e - (i + 1)) + 1 by omega, List.take_succ_cons, List.getD_eq_getElem?_getD, List.getElem?_eq_getElem hy]
  rfl
theorem seg_len {ys : List Nat} {i e : Nat} (h : e ≤ ys.length) : (seg ys i e).length = e - i := by
  unfold seg
  rw [List.length_take, List.length_drop]
  omega
/-- behind appendPart, appendDecimal: as much of zs as there is room for -/
def apPost (S : zS) (b r cap lim : Nat) (xs zs : List Nat) (v : Option Value) (S1 : zS) : Prop := v = some (.int (bI (decide ((xs ++ zs).length ≤ lim)))) ∧ ∃ r1 cp, isB S1 b r1 cp lim ((xs ++ zs).take lim) ∧ gB S S1 b r cap lim r1 cp
set_option maxRecDepth 10000 in
set_option maxHeartbeats 1000000 in
theorem C_X0_appendPart {d : Nat} {S : zS} {b r cap lim q rq cpq limq a e : Nat} {xs ys : List Nat} (h : isB S b r cap lim xs) (hb : b < S.1) (hr : r < S.1) (hq : isB S q rq cpq limq ys) (hql : q < S.1) (hrq : rq < S.1) (hn : q ≠ b ∧ q ≠ r ∧ rq ≠ b ∧ rq ≠ r) (he : e ≤ ys.length) (ha : a ≤ 65536) : Rc (d + 4) mX0_appendPart [.ref b, .ref q, .int (nI a), .int (nI e)] S (apPost S b r cap lim xs (seg ys a e)) := by
  have hy9 : ys.length ≤ 65536 := Nat.le_trans hq.2.2.2.1 hq.2.2.2.2.2
  refine Rc.of ?_
  have loop : ∀ (k i : Nat) (S2 : zS) (r2 cp2 : Nat) (cs : List Nat) (L : Nat → Option Value), e - i = k → i ≤ 65536 → isB S2 b r2 cp2 lim cs → b < S2.1 → isB S2 q rq cpq limq ys → q < S2.1 → rq < S2.1 → (rq ≠ r2 ∧ q ≠ r2) → gB S S2 b r cap lim r2 cp2 → cs ++ seg ys i e = xs ++ seg ys a e → L 0 = some (.ref b) → L 1 = some (.ref q) → L 2 = some (.int (nI a)) → L 3 = some (.int (nI e)) → L 4 = some (.int (nI i)) → Ru (d + 4) mX0_appendPart 3 L [] S2 (z_en mX0_appendPart (apPost S b r cap lim xs (seg ys a e))) := by
    intro k
    induction k with
    | zero =>
      intro i S2 r2 cp2 cs L hk hi hB hb2 hQ hq2 hrq2 hn2 hg hcs l0 l1 l2 l3 l4
      refine r_iload dX0_appendPart_3 (by first | rfl | assumption) ?_
      refine r_iload_n dX0_appendPart_5 (by first | rfl | assumption) ?_
      refine r_icmp_ge_t (tgt := 30) dX0_appendPart_6 (by decide) (nI_le (a := e) (b := i) (by omega) (by omega)) ?_
      refine r_ic (1) dX0_appendPart_30 rfl ?_
      rw [seg_nil (show e ≤ i by omega), List.append_nil] at hcs
      have hl := hB.2.2.2.1
      refine r_ireturn dX0_appendPart_31 _ rfl rfl ⟨?_, r2, cp2, ?_, hg⟩
      · rw [← hcs, decide_eq_true hl]; rfl
      · rw [← hcs, List.take_of_length_le hl]; exact hB
    | succ k ih =>
      intro i S2 r2 cp2 cs L hk hi hB hb2 hQ hq2 hrq2 hn2 hg hcs l0 l1 l2 l3 l4
      have hbb := hB.1
      have hqq := hQ.1
      refine r_iload dX0_appendPart_3 (by first | rfl | assumption) ?_
      refine r_iload_n dX0_appendPart_5 (by first | rfl | assumption) ?_
      refine r_icmp_ge_f (tgt := 30) dX0_appendPart_6 (by decide) (nI_ge (a := i) (b := e) (by omega) (by omega)) ?_
      refine r_aload_n dX0_appendPart_9 (by first | rfl | assumption) ?_
      refine r_aload_n dX0_appendPart_10 (by first | rfl | assumption) ?_
      refine r_iload dX0_appendPart_11 (by first | rfl | assumption) ?_
      refine r_callV1 dX0_appendPart_13 zm_X0_35 (by assumption) rfl (Nat.le_of_ble_eq_true rfl) (Nat.le_of_ble_eq_true rfl) (C_X0_at hQ) (fun v S1 hv => ?_)
      obtain ⟨rfl, rfl⟩ := hv
      rw [bAt_in (by omega) (by omega)]
      have hc256 : ys.getD i 0 < 256 := by
        obtain ⟨-, ⟨g, -, h8⟩, -⟩ := hQ
        exact (h8 i (by omega)).1
      have hr2 : r2 < S1.1 := hg.2.2.1
      refine r_callV1 dX0_appendPart_16 zm_X0_39 (by assumption) rfl (Nat.le_of_ble_eq_true rfl) (Nat.le_of_ble_eq_true rfl) (C_X0_append hB ⟨hb2, hr2⟩) (fun v S3 hv => ?_)
      rw [ob_nI hc256] at hv
      rw [seg_cons (by omega) (by omega)] at hcs
      rcases hv.use hb2 hr2 with ⟨hroom, rfl, r3, cp3, hB3, hg3⟩ | ⟨hfull, rfl, rfl⟩
      · refine r_if_ne_t (tgt := 24) dX0_appendPart_19 (by decide) (by decide) ?_
        refine r_inc (nI (i + 1)) dX0_appendPart_24 (by first | rfl | assumption) (by decide) (by first | exact z_c1_i (by first | rfl | assumption) | exact z_c1_r (by first | rfl | assumption) | exact z_c1_n (by first | rfl | assumption) | exact z_c1_c (by first | rfl | assumption) | exact z_c1_0 (by first | rfl | assumption)) (nI_1 i) ?_
        refine r_goto (tgt := 3) dX0_appendPart_27 (by decide) ?_
        refine ih (i + 1) S3 r3 cp3 (cs ++ [ys.getD i 0]) _ (by omega) (by omega) hB3 (Nat.lt_of_lt_of_le hb2 hg3.1.1) (hQ.keep hg3.1 hq2 hrq2 (by simp; exact ⟨hn.1, hn2.2⟩) (by simp; exact ⟨hn.2.2.1, hn2.1⟩)) (Nat.lt_of_lt_of_le hq2 hg3.1.1) (Nat.lt_of_lt_of_le hrq2 hg3.1.1) ?_ (hg.tr hg3) (by rw [List.append_assoc]; exact hcs) l0 l1 l2 l3 rfl
        rcases hg3.2.1 with q9 | q9
        · rw [q9]; exact hn2
        · omega
      · refine r_if_ne_f (tgt := 24) dX0_appendPart_19 (by decide) (by decide) ?_
        refine r_ic (0) dX0_appendPart_22 rfl ?_
        have hlen : ¬ (xs ++ seg ys a e).length ≤ lim := by rw [← hcs, List.length_append, List.length_cons]; omega
        refine r_ireturn dX0_appendPart_23 _ rfl rfl ⟨?_, r2, cp2, ?_, hg⟩
        · rw [decide_eq_false hlen]; rfl
        · rw [← hcs, List.take_left' hfull]; exact hB
  refine r_iload_n dX0_appendPart_0 (by first | rfl | assumption) ?_
  refine r_istore dX0_appendPart_1 (by decide) (by first | exact z_c1_i (by first | rfl | assumption) | exact z_c1_r (by first | rfl | assumption) | exact z_c1_n (by first | rfl | assumption) | exact z_c1_c (by first | rfl | assumption) | exact z_c1_0 (by first | rfl | assumption)) ?_
  exact loop _ a S r cap xs _ rfl ha h hb hq hql hrq ⟨hn.2.2.2, hn.2.1⟩ (gB.rf hr) rfl rfl rfl rfl rfl rfl
