def ARn (r : zR) (j : Nat) (gv : List Nat) (gs : List (Nat × Nat)) (n : Nat) : Prop := r.2.1 229 j = nI gs.length ∧ ∀ i, i < gs.length → ∃ a b, r.2.1 (205 + j) (2 * i) = nI a ∧ r.2.1 (205 + j) (2 * i + 1) = nI b ∧ a ≤ b ∧ b ≤ n ∧ b - a = (seg gv (gs.getD i (0, 0)).1 (gs.getD i (0, 0)).2).length ∧ ∀ k, k < b - a → (seg gv (gs.getD i (0, 0)).1 (gs.getD i (0, 0)).2).getD k 0 < 256 ∧ r.2.1 (180 + j) (a + k) = sb_b ((seg gv (gs.getD i (0, 0)).1 (gs.getD i (0, 0)).2).getD k 0)
theorem ARn.ar {r : zR} {j n : Nat} {gv : List Nat} {gs : List (Nat × Nat)} (h : ARn r j gv gs n) (h1 : gs.length ≤ 1040) (h2 : n ≤ 1100) : AR r j gv gs := ⟨h.1, h1, fun i hi => by
  obtain ⟨a, b, k1, k2, k3, k4, k5⟩ := h.2 i hi
  exact ⟨a, b, k1, k2, k3, by omega, k5⟩⟩
theorem gD_ll {gs : List (Nat × Nat)} {q : Nat × Nat} {i : Nat} (h : i < gs.length) : (gs ++ [q]).getD i (0, 0) = gs.getD i (0, 0) := by
  rw [List.getD_eq_getElem?_getD, List.getD_eq_getElem?_getD, List.getElem?_append_left h]
theorem gD_lr {gs : List (Nat × Nat)} {q : Nat × Nat} : (gs ++ [q]).getD gs.length (0, 0) = q := by
  rw [List.getD_eq_getElem?_getD, List.getElem?_append_right (Nat.le_refl _), Nat.sub_self]
  rfl
section
variable {d : Nat} {S : zS} {r : zR} {xs : List Nat} {ts : List zT} {fr : Nat}
theorem en_le {i : Nat} (h : tsOK xs i ts) (hl : xs.length ≤ 1024) (hb : ∀ k, k < xs.length → xs.getD k 0 < 256) : ∀ (m a : Nat), a + m < ts.length → (ts.getD a t0).2.1 < (ts.getD a t0).2.2.1 ∧ (ts.getD a t0).2.2.1 ≤ xs.length ∧ (ts.getD a t0).2.2.1 ≤ (ts.getD (a + m) t0).2.2.1
  | 0, a, ha => by
    have h1 := tsOK_get ts i a h ha
    have h2 := tk_lt h1.1 h1.2.1 (by omega) (hb _ h1.2.1)
    exact ⟨h2.1, h2.2, Nat.le_refl _⟩
  | m + 1, a, ha => by
    have h1 := tsOK_get ts i a h (by omega)
    have h2 := tk_lt h1.1 h1.2.1 (by omega) (hb _ h1.2.1)
    have h3 := h1.2.2.1 (by omega)
    have h4 := skB_le (xs := xs) (i := (ts.getD a t0).2.2.1) h2.2
    have ih := en_le h hl hb m (a + 1) (by omega)
    rw [show a + 1 + m = a + (m + 1) by omega] at ih
    exact ⟨h2.1, h2.2, by omega⟩
/-- how deep, behind a sign -/
def ndp (K : Int32) (dp : Nat) : Nat := if (K = 41 ∨ K = 93) ∧ 0 < (if K = 40 ∨ K = 91 then dp + 1 else dp) then (if K = 40 ∨ K = 91 then dp + 1 else dp) - 1 else if K = 40 ∨ K = 91 then dp + 1 else dp
theorem gaS_n {n i f dp : Nat} {gs : List (Nat × Nat)} : gaS ts (n + 1) i f dp gs = if (ts.getD i t0).1 = 44 ∧ dp = 0 then gaS ts n (i + 1) (i + 1) dp (gs ++ [kp ts f i]) else gaS ts n (i + 1) f (ndp (ts.getD i t0).1 dp) gs := by
  rw [gaS_s]
  generalize (ts.getD i t0).1 = K
  by_cases h1 : K = 44 ∧ dp = 0
  · rw [if_pos h1, if_pos h1]
  · rw [if_neg h1, if_neg h1]
    unfold ndp
    by_cases h2 : K = 40 ∨ K = 91
    · have h3 : ¬ ((K = 41 ∨ K = 93) ∧ 0 < dp + 1) := by rcases h2 with rfl | rfl <;> exact fun z => absurd z.1 (by decide)
      rw [if_pos h2, if_pos h2, if_neg h3]
    · rw [if_neg h2, if_neg h2]
      by_cases h3 : (K = 41 ∨ K = 93) ∧ 0 < dp
      · rw [if_pos h3, if_pos h3]
      · rw [if_neg h3, if_neg h3]
theorem ndp_44 {dp : Nat} : ndp 44 dp = dp := by
  unfold ndp
  rw [if_neg (fun z => absurd z.1 (by decide)), if_neg (by decide)]
theorem ndp_le {K : Int32} {dp : Nat} : ndp K dp ≤ dp + 1 := by
  unfold ndp
  split
  · split <;> omega
  · split <;> omega
/-- only this frame's rows have changed -/
def sx (fr : Nat) (r r' : zR) : Prop := eqx [] [229, 205 + fr, 180 + fr] r r' ∧ ∀ j, j ≠ fr → r'.2.1 229 j = r.2.1 229 j
theorem sx.rf : sx fr r r := ⟨eqx.rf, fun _ _ => rfl⟩
theorem sx.a {r1 : zR} {c k : Nat} {v : Int32} (h : sx fr r r1) (hf : fr < 24) (hc : c = 205 + fr ∨ c = 180 + fr ∨ (c = 229 ∧ k = fr)) : sx fr r (rA r1 c k v) := by
  refine ⟨h.1.tr (eqx.a ?_), fun j hj => ?_⟩
  · rcases hc with rfl | rfl | ⟨rfl, -⟩
    · exact List.mem_cons_of_mem _ List.mem_cons_self
    · exact List.mem_cons_of_mem _ (List.mem_cons_of_mem _ List.mem_cons_self)
    · exact List.mem_cons_self
  · by_cases e : c = 229
    · subst e
      rcases hc with z | z | ⟨-, rfl⟩
      · omega
      · omega
      · rw [rA_ne hj]; exact h.2 j hj
    · rw [rA_o (fun z => e z.symm)]
      exact h.2 j hj
set_option maxRecDepth 10000 in
set_option maxHeartbeats 4000000 in
theorem C_X8_split (hL : LN r xs) (hl : xs.length ≤ 1024) (hT : TK r xs ts) (hE : r.2.1 238 ts.length = nI (skB xs (tle ts))) (hts : tks xs = some ts) (h1 : 1 ≤ ts.length) (hf : r.1 19 = nI fr) (hfr : fr < 24) : Rc (d + 1) mX8_split [.ref 165] (RS S r) (fun v S1 => v = none ∧ ∃ r', S1 = RS S r' ∧ sx fr r r' ∧ AR r' fr xs (gat ts)) := by
  have hOK := tkF_OK _ _ _ hts
  have hb : ∀ k, k < xs.length → xs.getD k 0 < 256 := fun k hk => (hL.2.2 k hk).1
  have hlen : ts.length ≤ 1024 := Nat.le_trans (tkF_ok (xs := xs) (by omega) hb _ _ _ hts).1 hl
  have hc1 : isAr (205 + fr) := by unfold isAr; omega
  have hc2 : aTy (205 + fr) = .int := by unfold aTy; rw [if_neg (by omega), if_neg (by omega), if_neg (by omega)]
  have hc3 : aLn (205 + fr) = 2100 := by unfold aLn; rw [if_neg (by omega), if_neg (by omega), if_neg (by omega), if_neg (by omega), if_pos (by omega)]
  have hc4 : isAr (180 + fr) := by unfold isAr; omega
  have hc5 : aTy (180 + fr) = .byte := by unfold aTy; rw [if_neg (by omega), if_neg (by omega), if_pos (by omega)]
  have hc6 : aLn (180 + fr) = 1100 := by unfold aLn; rw [if_neg (by omega), if_neg (by omega), if_neg (by omega), if_pos (by omega)]
  have hnA : ∀ x, x ≠ 229 → x ≠ 205 + fr → x ≠ 180 + fr → x ∉ [229, 205 + fr, 180 + fr] := fun x a b c z => by
    rcases List.mem_cons.mp z with z | z
    · exact a z
    · rcases List.mem_cons.mp z with z | z
      · exact b z
      · exact c (List.mem_singleton.mp z)
  have mA : 229 ∈ [229, 205 + fr, 180 + fr] ∧ 205 + fr ∈ [229, 205 + fr, 180 + fr] ∧ 180 + fr ∈ [229, 205 + fr, 180 + fr] := ⟨List.mem_cons_self, List.mem_cons_of_mem _ List.mem_cons_self, List.mem_cons_of_mem _ (List.mem_cons_of_mem _ List.mem_cons_self)⟩
  have kLN : ∀ r1, sx fr r r1 → LN r1 xs := fun r1 hx => hL.mv hx.1 (by decide) (hnA 168 (by decide) (by omega) (by omega))
  have kTK : ∀ r1, sx fr r r1 → TK r1 xs ts := fun r1 hx => hT.mv hx.1 (by decide) ⟨hnA 237 (by decide) (by omega) (by omega), hnA 238 (by decide) (by omega) (by omega), hnA 239 (by decide) (by omega) (by omega), hnA 240 (by decide) (by omega) (by omega)⟩
  have kst : ∀ r1, sx fr r r1 → ∀ k, k ≤ ts.length → r1.2.1 238 k = nI (stT xs ts k) := fun r1 hx k hk => by
    rw [(hx.1.2 238 (hnA 238 (by decide) (by omega) (by omega))).1]
    unfold stT
    by_cases q : k < ts.length
    · rw [if_pos q]; exact (hT.2.2 k q).1
    · rw [if_neg q, show k = ts.length by omega]; exact hE
  -- the end of what is given for a place
  have l145 : ∀ (k f n : Nat) (gs : List (Nat × Nat)) (r1 : zR) (L : Nat → Option Value), 1 ≤ f → f ≤ k → k ≤ ts.length → gs.length < k → ARn r1 fr xs gs n → n ≤ (ts.getD (f - 1) t0).2.2.1 → sx fr r r1 → L 0 = some (.ref 165) → L 1 = some (.int (nI fr)) → L 2 = some (.int (nI n)) → z_c1 (L 3) → L 4 = some (.int (nI (ts.getD (f - 1) t0).2.2.1)) → L 5 = some (.int (nI k)) → z_c1 (L 6) → (∀ (r2 : zR) (n2 : Nat) (L2 : Nat → Option Value), ARn r2 fr xs (gs ++ [kp ts f k]) n2 → n2 ≤ stT xs ts k → sx fr r r2 → L2 0 = some (.ref 165) → L2 1 = some (.int (nI fr)) → L2 2 = some (.int (nI n2)) → L2 3 = L 3 → L2 4 = some (.int (nI (stT xs ts k + 1))) → L2 5 = some (.int (nI k)) → z_c1 (L2 6) → Ru (d + 1) mX8_split 322 L2 [] (RS S r2) (z_en mX8_split (fun v S1 => v = none ∧ ∃ r', S1 = RS S r' ∧ sx fr r r' ∧ AR r' fr xs (gat ts)))) → Ru (d + 1) mX8_split 145 L [] (RS S r1) (z_en mX8_split (fun v S1 => v = none ∧ ∃ r', S1 = RS S r' ∧ sx fr r r' ∧ AR r' fr xs (gat ts))) := by
    intro k f n gs r1 L hf1 hfk hkl hgl hA hnB hx l0 l1 l2 l3 l4 l5 l6 K
    have hL1 := kLN r1 hx
    obtain ⟨f', rfl⟩ : ∃ f', f = f' + 1 := ⟨f - 1, by omega⟩
    rw [Nat.add_sub_cancel] at hnB l4
    obtain ⟨k', rfl⟩ : ∃ k', k = k' + 1 := ⟨k - 1, by omega⟩
    have hB := en_le hOK hl hb (k' - f') f' (by omega)
    rw [show f' + (k' - f') = k' by omega] at hB
    have hB2 := en_le hOK hl hb 0 k' (by omega)
    have eE := stT_s hOK (j := k') (by omega)
    have eS := stT_s hOK (j := f') (by omega)
    generalize hEE : stT xs ts (k' + 1) = E at eE K
    have hskE := skB_le (xs := xs) (i := (ts.getD k' t0).2.2.1) hB2.2.1
    rw [← eE] at hskE
    have hstE := skp_stop (p := fun j => fBl (nI (xs.getD j 0))) (xs.length - (ts.getD k' t0).2.2.1) (ts.getD k' t0).2.2.1
    have hstE : (∀ j, (ts.getD k' t0).2.2.1 ≤ j → j < E → fBl (nI (xs.getD j 0)) = true) ∧ (E = xs.length ∨ fBl (nI (xs.getD E 0)) = false) := by
      rw [eE]
      exact ⟨hstE.1, hstE.2.imp (fun z => by unfold skB; omega) id⟩
    generalize hBB : (ts.getD f' t0).2.2.1 = B at hnB l4 hB eS
    have eF : skp (fun j => fBl (nI (xs.getD j 0))) (E - B) B = skB xs B := skp_cut hskE.2 hstE.2 _ B rfl (by omega)
    have hskB := skp_le (fun j => fBl (nI (xs.getD j 0))) (E - B) B
    rw [eF] at hskB
    -- where it begins and where it ends
    obtain ⟨s, t, hs, hst, htE, ht1, ht2, hkp⟩ : ∃ s t, s = skB xs B ∧ s ≤ t ∧ t ≤ E ∧ (t = s ∨ fBl (nI (xs.getD (t - 1) 0)) = false) ∧ (∀ j, t ≤ j → j < E → fBl (nI (xs.getD j 0)) = true) ∧ seg xs (kp ts (f' + 1) (k' + 1)).1 (kp ts (f' + 1) (k' + 1)).2 = seg xs s t := by
      by_cases q : f' + 1 < k' + 1
      · have h2 := en_le hOK hl hb (k' - (f' + 1)) (f' + 1) (by omega)
        rw [show f' + 1 + (k' - (f' + 1)) = k' by omega] at h2
        have e2 : stT xs ts (f' + 1) = (ts.getD (f' + 1) t0).2.1 := if_pos (by omega)
        have h3 := tsOK_get ts _ k' hOK (by omega)
        refine ⟨(ts.getD (f' + 1) t0).2.1, (ts.getD k' t0).2.2.1, by rw [← eS, e2], by omega, by omega, Or.inr (tk_end h3.1 h3.2.1 (by omega) hb), fun j a b => hstE.1 j a b, ?_⟩
        unfold kp
        rw [if_pos q]
        rfl
      · have e3 : f' = k' := by omega
        subst e3
        have e4 : skB xs B = E := by rw [eE, hBB]
        refine ⟨skB xs B, skB xs B, rfl, Nat.le_refl _, by omega, Or.inl rfl, fun j a b => by omega, ?_⟩
        unfold kp
        rw [if_neg q, seg_nil (Nat.le_refl _), seg_nil (Nat.le_refl _)]
    have hsB : B ≤ s ∧ s ≤ E := by omega
    have hElen : E ≤ xs.length := hskE.2
    -- behind the trimming
    have l232 : ∀ (L : Nat → Option Value), L 0 = some (.ref 165) → L 1 = some (.int (nI fr)) → L 2 = some (.int (nI n)) → L 3 = L 3 → L 4 = some (.int (nI s)) → L 5 = some (.int (nI (k' + 1))) → z_c1 (L 6) → L 7 = some (.int (nI t)) → (∀ (r2 : zR) (n2 : Nat) (L2 : Nat → Option Value), ARn r2 fr xs (gs ++ [kp ts (f' + 1) (k' + 1)]) n2 → n2 ≤ E → sx fr r r2 → L2 0 = some (.ref 165) → L2 1 = some (.int (nI fr)) → L2 2 = some (.int (nI n2)) → L2 3 = L 3 → L2 4 = some (.int (nI (E + 1))) → L2 5 = some (.int (nI (k' + 1))) → z_c1 (L2 6) → Ru (d + 1) mX8_split 322 L2 [] (RS S r2) (z_en mX8_split (fun v S1 => v = none ∧ ∃ r', S1 = RS S r' ∧ sx fr r r' ∧ AR r' fr xs (gat ts)))) → z_c1 (L 3) → Ru (d + 1) mX8_split 232 L [] (RS S r1) (z_en mX8_split (fun v S1 => v = none ∧ ∃ r', S1 = RS S r' ∧ sx fr r r' ∧ AR r' fr xs (gat ts))) := by
      intro L l0 l1 l2 _ l4 l5 l6 l7 K2 l3
      refine r_aload_n dX8_split_232 (by first | rfl | assumption) ?_
      refine r8_get dX8_split_233 zf_X8_66 rfl ?_
      refine r_iload_n dX8_split_236 (by first | rfl | assumption) ?_
      refine r8_iald dX8_split_237 (by decide) (rfl) (by first | assumption | exact (show _ < 65536 by omega) | exact (show _ < 1100 by omega) | exact (show _ < 24 by omega) | exact (show _ < 2100 by omega) | exact (show _ < 6600 by omega) | exact (show _ < 1110 by omega)) ?_
      rw [hA.1]
      refine r_istore dX8_split_238 (by decide) (by first | assumption | exact z_c1_i (by first | rfl | assumption) | exact z_c1_r (by first | rfl | assumption) | exact z_c1_n (by first | rfl | assumption) | exact z_c1_c (by first | rfl | assumption) | exact z_c1_0 (by first | rfl | assumption)) ?_
      refine r_aload_n dX8_split_240 (by first | rfl | assumption) ?_
      refine r8_get dX8_split_241 zf_X8_63 rfl ?_
      refine r_iload_n dX8_split_244 (by first | rfl | assumption) ?_
      refine r8_aaldI dX8_split_245 ((by omega)) ?_
      refine r_ic (2) dX8_split_246 rfl ?_
      refine r_iload dX8_split_247 (by first | rfl | assumption) ?_
      refine r_imul dX8_split_249 ?_
      rw [show (2 : Int32) * nI gs.length = nI (2 * gs.length) from pk_mul 2 gs.length]
      refine r_iload_n dX8_split_250 (by first | rfl | assumption) ?_
      refine r8_iast dX8_split_251 (hc1) (hc2) (by rw [hc3]; omega) ?_
      refine r_iload dX8_split_252 (by first | rfl | assumption) ?_
      refine r_istore dX8_split_254 (by decide) (by first | assumption | exact z_c1_i (by first | rfl | assumption) | exact z_c1_r (by first | rfl | assumption) | exact z_c1_n (by first | rfl | assumption) | exact z_c1_c (by first | rfl | assumption) | exact z_c1_0 (by first | rfl | assumption)) ?_
      have copy : ∀ (m cc : Nat) (r2 : zR) (L : Nat → Option Value), t - s - cc = m → cc ≤ t - s → sx fr r r2 → r2.2.1 229 = r1.2.1 229 → r2.2.1 (205 + fr) = upd (r1.2.1 (205 + fr)) (2 * gs.length) (nI n) → (∀ j, j < n → r2.2.1 (180 + fr) j = r1.2.1 (180 + fr) j) → (∀ j, j < cc → r2.2.1 (180 + fr) (n + j) = sb_b (xs.getD (s + j) 0)) → L 0 = some (.ref 165) → L 1 = some (.int (nI fr)) → L 2 = some (.int (nI (n + cc))) → L 5 = some (.int (nI (k' + 1))) → z_c1 (L 6) → L 7 = some (.int (nI t)) → L 8 = some (.int (nI gs.length)) → L 9 = some (.int (nI (s + cc))) → (∀ (r2 : zR) (n2 : Nat) (L2 : Nat → Option Value), ARn r2 fr xs (gs ++ [kp ts (f' + 1) (k' + 1)]) n2 → n2 ≤ E → sx fr r r2 → L2 0 = some (.ref 165) → L2 1 = some (.int (nI fr)) → L2 2 = some (.int (nI n2)) → L2 3 = L 3 → L2 4 = some (.int (nI (E + 1))) → L2 5 = some (.int (nI (k' + 1))) → z_c1 (L2 6) → Ru (d + 1) mX8_split 322 L2 [] (RS S r2) (z_en mX8_split (fun v S1 => v = none ∧ ∃ r', S1 = RS S r' ∧ sx fr r r' ∧ AR r' fr xs (gat ts)))) → z_c1 (L 3) → Ru (d + 1) mX8_split 256 L [] (RS S r2) (z_en mX8_split (fun v S1 => v = none ∧ ∃ r', S1 = RS S r' ∧ sx fr r r' ∧ AR r' fr xs (gat ts))) := by
        intro m
        induction m with
        | zero =>
          intro cc r2 L hm hcc hx2 h229 h205 hlo hhi l0 l1 l2 l5 l6 l7 l8 l9 K3 l3
          have ecc : cc = t - s := by omega
          refine r_iload dX8_split_256 (by first | rfl | assumption) ?_
          refine r_iload dX8_split_258 (by first | rfl | assumption) ?_
          refine r_icmp_ge_t (tgt := 287) dX8_split_260 (by decide) (nI_le (a := t) (b := s + cc) (by omega) (by omega)) ?_
          refine r_aload_n dX8_split_287 (by first | rfl | assumption) ?_
          refine r8_get dX8_split_288 zf_X8_63 rfl ?_
          refine r_iload_n dX8_split_291 (by first | rfl | assumption) ?_
          refine r8_aaldI dX8_split_292 ((by omega)) ?_
          refine r_ic (2) dX8_split_293 rfl ?_
          refine r_iload dX8_split_294 (by first | rfl | assumption) ?_
          refine r_imul dX8_split_296 ?_
          rw [show (2 : Int32) * nI gs.length = nI (2 * gs.length) from pk_mul 2 gs.length]
          refine r_ic (1) dX8_split_297 rfl ?_
          refine r_iadd dX8_split_298 ?_
          rw [nI_1]
          refine r_iload_n dX8_split_299 (by first | rfl | assumption) ?_
          refine r8_iast dX8_split_300 (hc1) (hc2) (by rw [hc3]; omega) ?_
          refine r_aload_n dX8_split_301 (by first | rfl | assumption) ?_
          refine r8_get dX8_split_302 zf_X8_66 rfl ?_
          refine r_iload_n dX8_split_305 (by first | rfl | assumption) ?_
          refine r_dup2 dX8_split_306 rfl rfl ?_
          refine r8_iald dX8_split_307 (by decide) (rfl) (by first | assumption | exact (show _ < 65536 by omega) | exact (show _ < 1100 by omega) | exact (show _ < 24 by omega) | exact (show _ < 2100 by omega) | exact (show _ < 6600 by omega) | exact (show _ < 1110 by omega)) ?_
          rw [show (rA r2 (205 + fr) (2 * gs.length + 1) (nI (n + cc))).2.1 229 = r1.2.1 229 from (rA_o (by omega)).trans h229, hA.1]
          refine r_ic (1) dX8_split_308 rfl ?_
          refine r_iadd dX8_split_309 ?_
          rw [nI_1]
          refine r8_iast dX8_split_310 (by decide) (rfl) (by first | assumption | exact (show _ < 65536 by omega) | exact (show _ < 1100 by omega) | exact (show _ < 24 by omega) | exact (show _ < 2100 by omega) | exact (show _ < 6600 by omega) | exact (show _ < 1110 by omega)) ?_
          have hx3 : sx fr r (rA (rA r2 (205 + fr) (2 * gs.length + 1) (nI (n + cc))) 229 fr (nI (gs.length + 1))) := (hx2.a hfr (Or.inl rfl)).a hfr (Or.inr (Or.inr ⟨rfl, rfl⟩))
          have hstk := kst _ hx3 (k' + 1) hkl
          have hAn : ARn (rA (rA r2 (205 + fr) (2 * gs.length + 1) (nI (n + cc))) 229 fr (nI (gs.length + 1))) fr xs (gs ++ [kp ts (f' + 1) (k' + 1)]) (n + cc) := by
            have a229 : (rA (rA r2 (205 + fr) (2 * gs.length + 1) (nI (n + cc))) 229 fr (nI (gs.length + 1))).2.1 229 fr = nI (gs.length + 1) := rA_at
            have a205 : ∀ x, (rA (rA r2 (205 + fr) (2 * gs.length + 1) (nI (n + cc))) 229 fr (nI (gs.length + 1))).2.1 (205 + fr) x = if x = 2 * gs.length + 1 then nI (n + cc) else if x = 2 * gs.length then nI n else r1.2.1 (205 + fr) x := by
              intro x
              rw [rA_o (by omega)]
              by_cases q : x = 2 * gs.length + 1
              · rw [if_pos q, q, rA_at]
              · rw [if_neg q, rA_ne q, h205]
                rfl
            have a180 : (rA (rA r2 (205 + fr) (2 * gs.length + 1) (nI (n + cc))) 229 fr (nI (gs.length + 1))).2.1 (180 + fr) = r2.2.1 (180 + fr) := by
              rw [rA_o (by omega), rA_o (by omega)]
            have elen : (gs ++ [kp ts (f' + 1) (k' + 1)]).length = gs.length + 1 := by rw [List.length_append]; rfl
            refine ⟨by rw [elen]; exact a229, fun i hi => ?_⟩
            rw [elen] at hi
            by_cases q : i < gs.length
            · obtain ⟨a, b, k1, k2, k3, k4, k5, k6⟩ := hA.2 i q
              rw [gD_ll q]
              refine ⟨a, b, ?_, ?_, k3, by omega, k5, fun j hj => ⟨(k6 j hj).1, ?_⟩⟩
              · rw [a205, if_neg (by omega), if_neg (by omega)]; exact k1
              · rw [a205, if_neg (by omega), if_neg (by omega)]; exact k2
              · rw [a180, hlo (a + j) (by omega)]; exact (k6 j hj).2
            · have ei : i = gs.length := by omega
              subst ei
              rw [gD_lr, hkp]
              refine ⟨n, n + cc, ?_, ?_, by omega, Nat.le_refl _, ?_, fun j hj => ?_⟩
              · rw [a205, if_neg (by omega), if_pos rfl]
              · rw [a205, if_pos rfl]
              · rw [seg_len (by omega)]; omega
              · rw [seg_getD (by omega)]
                exact ⟨hb _ (by omega), by rw [a180]; exact hhi j (by omega)⟩
          refine r_aload_n dX8_split_311 (by first | rfl | assumption) ?_
          refine r8_get dX8_split_312 zf_X8_93 rfl ?_
          refine r_iload dX8_split_315 (by first | rfl | assumption) ?_
          refine r8_iald dX8_split_317 (by decide) (rfl) (by first | assumption | exact (show _ < 65536 by omega) | exact (show _ < 1100 by omega) | exact (show _ < 24 by omega) | exact (show _ < 2100 by omega) | exact (show _ < 6600 by omega) | exact (show _ < 1110 by omega)) ?_
          rw [hstk, hEE]
          refine r_ic (1) dX8_split_318 rfl ?_
          refine r_iadd dX8_split_319 ?_
          rw [nI_1]
          refine r_istore dX8_split_320 (by decide) (by first | assumption | exact z_c1_i (by first | rfl | assumption) | exact z_c1_r (by first | rfl | assumption) | exact z_c1_n (by first | rfl | assumption) | exact z_c1_c (by first | rfl | assumption) | exact z_c1_0 (by first | rfl | assumption)) ?_
          exact K3 _ (n + cc) _ hAn (by omega) hx3 l0 l1 l2 rfl rfl l5 l6
        | succ m ih =>
          intro cc r2 L hm hcc hx2 h229 h205 hlo hhi l0 l1 l2 l5 l6 l7 l8 l9 K3 l3
          have hL2 := kLN r2 hx2
          have hbx := hL2.at hl (k := s + cc) (by omega)
          refine r_iload dX8_split_256 (by first | rfl | assumption) ?_
          refine r_iload dX8_split_258 (by first | rfl | assumption) ?_
          refine r_icmp_ge_f (tgt := 287) dX8_split_260 (by decide) (nI_ge (a := s + cc) (b := t) (by omega) (by omega)) ?_
          refine r_aload_n dX8_split_263 (by first | rfl | assumption) ?_
          refine r8_get dX8_split_264 zf_X8_58 rfl ?_
          refine r_iload_n dX8_split_267 (by first | rfl | assumption) ?_
          refine r8_aaldB dX8_split_268 ((by omega)) ?_
          refine r_iload_n dX8_split_269 (by first | rfl | assumption) ?_
          refine r_aload_n dX8_split_270 (by first | rfl | assumption) ?_
          refine r8_get dX8_split_271 zf_X8_21 rfl ?_
          refine r_iload dX8_split_274 (by first | rfl | assumption) ?_
          refine r8_bald dX8_split_276 (by decide) (rfl) (by first | assumption | exact (show _ < 65536 by omega) | exact (show _ < 1100 by omega) | exact (show _ < 24 by omega) | exact (show _ < 2100 by omega) | exact (show _ < 6600 by omega) | exact (show _ < 1110 by omega)) ?_
          rw [hbx.2]
          refine r8_bast dX8_split_277 (hc4) (hc5) (by rw [hc6]; omega) ?_
          rw [sb_sb]
          refine r_inc (nI (n + cc + 1)) dX8_split_278 (by first | rfl | assumption) (by decide) (by first | assumption | exact z_c1_i (by first | rfl | assumption) | exact z_c1_r (by first | rfl | assumption) | exact z_c1_n (by first | rfl | assumption) | exact z_c1_c (by first | rfl | assumption) | exact z_c1_0 (by first | rfl | assumption)) (nI_1 _) ?_
          refine r_inc (nI (s + cc + 1)) dX8_split_281 (by first | rfl | assumption) (by decide) (by first | assumption | exact z_c1_i (by first | rfl | assumption) | exact z_c1_r (by first | rfl | assumption) | exact z_c1_n (by first | rfl | assumption) | exact z_c1_c (by first | rfl | assumption) | exact z_c1_0 (by first | rfl | assumption)) (nI_1 _) ?_
          refine r_goto (tgt := 256) dX8_split_284 (by decide) ?_
          refine ih (cc + 1) _ _ (by omega) (by omega) (hx2.a hfr (Or.inr (Or.inl rfl))) ?_ ?_ (fun j hj => ?_) (fun j hj => ?_) l0 l1 rfl l5 l6 l7 l8 rfl K3 l3
          · rw [rA_o (by omega)]; exact h229
          · rw [rA_o (by omega)]; exact h205
          · rw [rA_ne (by omega)]; exact hlo j hj
          · by_cases q : j = cc
            · rw [q, rA_at]
            · rw [rA_ne (by omega)]; exact hhi j (by omega)
      refine copy (t - s) 0 _ _ (Nat.sub_zero _) (Nat.zero_le _) (hx.a hfr (Or.inl rfl)) (rA_o (by omega)) ?_ (fun j hj => by rw [rA_o (by omega)]) (fun j hj => by omega) l0 l1 l2 l5 l6 l7 rfl rfl K2 l3
      exact va_up_self _ _ _
    have l191 : ∀ (m e : Nat) (L : Nat → Option Value), e - t = m → t ≤ e → e ≤ E → L 0 = some (.ref 165) → L 1 = some (.int (nI fr)) → L 2 = some (.int (nI n)) → L 4 = some (.int (nI s)) → L 5 = some (.int (nI (k' + 1))) → z_c1 (L 6) → L 7 = some (.int (nI e)) → (∀ (r2 : zR) (n2 : Nat) (L2 : Nat → Option Value), ARn r2 fr xs (gs ++ [kp ts (f' + 1) (k' + 1)]) n2 → n2 ≤ E → sx fr r r2 → L2 0 = some (.ref 165) → L2 1 = some (.int (nI fr)) → L2 2 = some (.int (nI n2)) → L2 3 = L 3 → L2 4 = some (.int (nI (E + 1))) → L2 5 = some (.int (nI (k' + 1))) → z_c1 (L2 6) → Ru (d + 1) mX8_split 322 L2 [] (RS S r2) (z_en mX8_split (fun v S1 => v = none ∧ ∃ r', S1 = RS S r' ∧ sx fr r r' ∧ AR r' fr xs (gat ts)))) → z_c1 (L 3) → Ru (d + 1) mX8_split 191 L [] (RS S r1) (z_en mX8_split (fun v S1 => v = none ∧ ∃ r', S1 = RS S r' ∧ sx fr r r' ∧ AR r' fr xs (gat ts))) := by
      intro m
      induction m with
      | zero =>
        intro e L hm hte heE l0 l1 l2 l4 l5 l6 l7 K2 l3
        have : e = t := by omega
        subst this
        refine r_iload dX8_split_191 (by first | rfl | assumption) ?_
        refine r_iload dX8_split_193 (by first | rfl | assumption) ?_
        by_cases q : e ≤ s
        · refine r_icmp_le_t (tgt := 232) dX8_split_195 (by decide) (nI_le (a := e) (b := s) q (by omega)) ?_
          exact l232 L l0 l1 l2 rfl l4 l5 l6 l7 K2 l3
        · refine r_icmp_le_f (tgt := 232) dX8_split_195 (by decide) (nI_ge (a := s) (b := e) (by omega) (by omega)) ?_
          have hnb := ht1.resolve_left (by omega)
          have hbx := hL1.at hl (k := e - 1) (by omega)
          have n32 : ¬ xs.getD (e - 1) 0 = 32 := fun z => by rw [z] at hnb; cases hnb
          have n9 : ¬ xs.getD (e - 1) 0 = 9 := fun z => by rw [z] at hnb; cases hnb
          refine r_aload_n dX8_split_198 (by first | rfl | assumption) ?_
          refine r8_get dX8_split_199 zf_X8_21 rfl ?_
          refine r_iload dX8_split_202 (by first | rfl | assumption) ?_
          refine r_ic (1) dX8_split_204 rfl ?_
          refine r_isub dX8_split_205 ?_
          rw [show (nI e - 1 : Int32) = nI (e - 1) from nI_sub (a := e) (b := 1) (by omega)]
          refine r8_bald dX8_split_206 (by decide) (rfl) (by first | assumption | exact (show _ < 65536 by omega) | exact (show _ < 1100 by omega) | exact (show _ < 24 by omega) | exact (show _ < 2100 by omega) | exact (show _ < 6600 by omega) | exact (show _ < 1110 by omega)) ?_
          rw [hbx.2]
          refine r_bp (32) dX8_split_207 rfl ?_
          refine r_icmp_eq_f (tgt := 226) dX8_split_209 (by decide) (fun z => n32 ((sb_is hbx.1 (c := 32) (by decide)).mp z)) ?_
          refine r_aload_n dX8_split_212 (by first | rfl | assumption) ?_
          refine r8_get dX8_split_213 zf_X8_21 rfl ?_
          refine r_iload dX8_split_216 (by first | rfl | assumption) ?_
          refine r_ic (1) dX8_split_218 rfl ?_
          refine r_isub dX8_split_219 ?_
          rw [show (nI e - 1 : Int32) = nI (e - 1) from nI_sub (a := e) (b := 1) (by omega)]
          refine r8_bald dX8_split_220 (by decide) (rfl) (by first | assumption | exact (show _ < 65536 by omega) | exact (show _ < 1100 by omega) | exact (show _ < 24 by omega) | exact (show _ < 2100 by omega) | exact (show _ < 6600 by omega) | exact (show _ < 1110 by omega)) ?_
          rw [hbx.2]
          refine r_bp (9) dX8_split_221 rfl ?_
          refine r_icmp_ne_t (tgt := 232) dX8_split_223 (by decide) (fun z => n9 ((sb_is hbx.1 (c := 9) (by decide)).mp z)) ?_
          exact l232 L l0 l1 l2 rfl l4 l5 l6 l7 K2 l3
      | succ m ih =>
        intro e L hm hte heE l0 l1 l2 l4 l5 l6 l7 K2 l3
        have hbl := ht2 (e - 1) (by omega) (by omega)
        have hbx := hL1.at hl (k := e - 1) (by omega)
        have l226 : Ru (d + 1) mX8_split 226 L [] (RS S r1) (z_en mX8_split (fun v S1 => v = none ∧ ∃ r', S1 = RS S r' ∧ sx fr r r' ∧ AR r' fr xs (gat ts))) := by
          refine r_inc (nI (e - 1)) dX8_split_226 (by first | rfl | assumption) (by decide) (by first | assumption | exact z_c1_i (by first | rfl | assumption) | exact z_c1_r (by first | rfl | assumption) | exact z_c1_n (by first | rfl | assumption) | exact z_c1_c (by first | rfl | assumption) | exact z_c1_0 (by first | rfl | assumption)) (by rw [dec1]; exact nI_sub (a := e) (b := 1) (by omega)) ?_
          refine r_goto (tgt := 191) dX8_split_229 (by decide) ?_
          exact ih (e - 1) _ (by omega) (by omega) (by omega) l0 l1 l2 l4 l5 l6 rfl K2 l3
        refine r_iload dX8_split_191 (by first | rfl | assumption) ?_
        refine r_iload dX8_split_193 (by first | rfl | assumption) ?_
        refine r_icmp_le_f (tgt := 232) dX8_split_195 (by decide) (nI_ge (a := s) (b := e) (by omega) (by omega)) ?_
        refine r_aload_n dX8_split_198 (by first | rfl | assumption) ?_
        refine r8_get dX8_split_199 zf_X8_21 rfl ?_
        refine r_iload dX8_split_202 (by first | rfl | assumption) ?_
        refine r_ic (1) dX8_split_204 rfl ?_
        refine r_isub dX8_split_205 ?_
        rw [show (nI e - 1 : Int32) = nI (e - 1) from nI_sub (a := e) (b := 1) (by omega)]
        refine r8_bald dX8_split_206 (by decide) (rfl) (by first | assumption | exact (show _ < 65536 by omega) | exact (show _ < 1100 by omega) | exact (show _ < 24 by omega) | exact (show _ < 2100 by omega) | exact (show _ < 6600 by omega) | exact (show _ < 1110 by omega)) ?_
        rw [hbx.2]
        refine r_bp (32) dX8_split_207 rfl ?_
        by_cases q : xs.getD (e - 1) 0 = 32
        · refine r_icmp_eq_t (tgt := 226) dX8_split_209 (by decide) ((sb_is hbx.1 (by decide)).mpr q) ?_
          exact l226
        · refine r_icmp_eq_f (tgt := 226) dX8_split_209 (by decide) (fun z => q ((sb_is hbx.1 (c := 32) (by decide)).mp z)) ?_
          refine r_aload_n dX8_split_212 (by first | rfl | assumption) ?_
          refine r8_get dX8_split_213 zf_X8_21 rfl ?_
          refine r_iload dX8_split_216 (by first | rfl | assumption) ?_
          refine r_ic (1) dX8_split_218 rfl ?_
          refine r_isub dX8_split_219 ?_
          rw [show (nI e - 1 : Int32) = nI (e - 1) from nI_sub (a := e) (b := 1) (by omega)]
          refine r8_bald dX8_split_220 (by decide) (rfl) (by first | assumption | exact (show _ < 65536 by omega) | exact (show _ < 1100 by omega) | exact (show _ < 24 by omega) | exact (show _ < 2100 by omega) | exact (show _ < 6600 by omega) | exact (show _ < 1110 by omega)) ?_
          rw [hbx.2]
          refine r_bp (9) dX8_split_221 rfl ?_
          have q9 : xs.getD (e - 1) 0 = 9 := by
            unfold fBl at hbl
            simp only [Bool.or_eq_true, decide_eq_true_eq] at hbl
            rcases hbl with z | z
            · exact (nI_eq (b := 9) (by omega) (by decide)).mp z
            · exact absurd ((nI_eq (b := 32) (by omega) (by decide)).mp z) q
          refine r_icmp_ne_f (tgt := 232) dX8_split_223 (by decide) ((sb_is hbx.1 (by decide)).mpr q9) ?_
          exact l226
    have l154 : ∀ (m p : Nat) (L : Nat → Option Value), E - p = m → B ≤ p → p ≤ E → skp (fun j => fBl (nI (xs.getD j 0))) m p = s → L 0 = some (.ref 165) → L 1 = some (.int (nI fr)) → L 2 = some (.int (nI n)) → L 4 = some (.int (nI p)) → L 5 = some (.int (nI (k' + 1))) → z_c1 (L 6) → L 7 = some (.int (nI E)) → (∀ (r2 : zR) (n2 : Nat) (L2 : Nat → Option Value), ARn r2 fr xs (gs ++ [kp ts (f' + 1) (k' + 1)]) n2 → n2 ≤ E → sx fr r r2 → L2 0 = some (.ref 165) → L2 1 = some (.int (nI fr)) → L2 2 = some (.int (nI n2)) → L2 3 = L 3 → L2 4 = some (.int (nI (E + 1))) → L2 5 = some (.int (nI (k' + 1))) → z_c1 (L2 6) → Ru (d + 1) mX8_split 322 L2 [] (RS S r2) (z_en mX8_split (fun v S1 => v = none ∧ ∃ r', S1 = RS S r' ∧ sx fr r r' ∧ AR r' fr xs (gat ts)))) → z_c1 (L 3) → Ru (d + 1) mX8_split 154 L [] (RS S r1) (z_en mX8_split (fun v S1 => v = none ∧ ∃ r', S1 = RS S r' ∧ sx fr r r' ∧ AR r' fr xs (gat ts))) := by
      intro m
      induction m with
      | zero =>
        intro p L hm hBp hpE hs2 l0 l1 l2 l4 l5 l6 l7 K2 l3
        have hs2 : p = s := hs2
        refine r_iload dX8_split_154 (by first | rfl | assumption) ?_
        refine r_iload dX8_split_156 (by first | rfl | assumption) ?_
        refine r_icmp_ge_t (tgt := 191) dX8_split_158 (by decide) (nI_le (a := E) (b := p) (by omega) (by omega)) ?_
        exact l191 _ E L rfl htE (Nat.le_refl _) l0 l1 l2 (by rw [← hs2]; exact l4) l5 l6 l7 K2 l3
      | succ m ih =>
        intro p L hm hBp hpE hs2 l0 l1 l2 l4 l5 l6 l7 K2 l3
        have hbx := hL1.at hl (k := p) (by omega)
        have hs3 : (if fBl (nI (xs.getD p 0)) = true then skp (fun j => fBl (nI (xs.getD j 0))) m (p + 1) else p) = s := hs2
        refine r_iload dX8_split_154 (by first | rfl | assumption) ?_
        refine r_iload dX8_split_156 (by first | rfl | assumption) ?_
        refine r_icmp_ge_f (tgt := 191) dX8_split_158 (by decide) (nI_ge (a := p) (b := E) (by omega) (by omega)) ?_
        have l185 : fBl (nI (xs.getD p 0)) = true → Ru (d + 1) mX8_split 185 L [] (RS S r1) (z_en mX8_split (fun v S1 => v = none ∧ ∃ r', S1 = RS S r' ∧ sx fr r r' ∧ AR r' fr xs (gat ts))) := by
          intro q
          rw [if_pos q] at hs3
          refine r_inc (nI (p + 1)) dX8_split_185 (by first | rfl | assumption) (by decide) (by first | assumption | exact z_c1_i (by first | rfl | assumption) | exact z_c1_r (by first | rfl | assumption) | exact z_c1_n (by first | rfl | assumption) | exact z_c1_c (by first | rfl | assumption) | exact z_c1_0 (by first | rfl | assumption)) (nI_1 _) ?_
          refine r_goto (tgt := 154) dX8_split_188 (by decide) ?_
          exact ih (p + 1) _ (by omega) (by omega) (by omega) hs3 l0 l1 l2 rfl l5 l6 l7 K2 l3
        refine r_aload_n dX8_split_161 (by first | rfl | assumption) ?_
        refine r8_get dX8_split_162 zf_X8_21 rfl ?_
        refine r_iload dX8_split_165 (by first | rfl | assumption) ?_
        refine r8_bald dX8_split_167 (by decide) (rfl) (by first | assumption | exact (show _ < 65536 by omega) | exact (show _ < 1100 by omega) | exact (show _ < 24 by omega) | exact (show _ < 2100 by omega) | exact (show _ < 6600 by omega) | exact (show _ < 1110 by omega)) ?_
        rw [hbx.2]
        refine r_bp (32) dX8_split_168 rfl ?_
        by_cases q : xs.getD p 0 = 32
        · refine r_icmp_eq_t (tgt := 185) dX8_split_170 (by decide) ((sb_is hbx.1 (by decide)).mpr q) ?_
          exact l185 (by rw [q]; rfl)
        · refine r_icmp_eq_f (tgt := 185) dX8_split_170 (by decide) (fun z => q ((sb_is hbx.1 (c := 32) (by decide)).mp z)) ?_
          refine r_aload_n dX8_split_173 (by first | rfl | assumption) ?_
          refine r8_get dX8_split_174 zf_X8_21 rfl ?_
          refine r_iload dX8_split_177 (by first | rfl | assumption) ?_
          refine r8_bald dX8_split_179 (by decide) (rfl) (by first | assumption | exact (show _ < 65536 by omega) | exact (show _ < 1100 by omega) | exact (show _ < 24 by omega) | exact (show _ < 2100 by omega) | exact (show _ < 6600 by omega) | exact (show _ < 1110 by omega)) ?_
          rw [hbx.2]
          refine r_bp (9) dX8_split_180 rfl ?_
          by_cases q9 : xs.getD p 0 = 9
          · refine r_icmp_ne_f (tgt := 191) dX8_split_182 (by decide) ((sb_is hbx.1 (by decide)).mpr q9) ?_
            exact l185 (by rw [q9]; rfl)
          · refine r_icmp_ne_t (tgt := 191) dX8_split_182 (by decide) (fun z => q9 ((sb_is hbx.1 (c := 9) (by decide)).mp z)) ?_
            have hf0 : fBl (nI (xs.getD p 0)) = false := by
              unfold fBl
              rw [decide_eq_false (show ¬ nI (xs.getD p 0) = 9 from fun z => q9 ((nI_eq (b := 9) (by omega) (by decide)).mp z)), decide_eq_false (show ¬ nI (xs.getD p 0) = 32 from fun z => q ((nI_eq (b := 32) (by omega) (by decide)).mp z))]
              rfl
            rw [if_neg (by rw [hf0]; exact Bool.false_ne_true)] at hs3
            exact l191 _ E L rfl htE (Nat.le_refl _) l0 l1 l2 (by rw [← hs3]; exact l4) l5 l6 l7 K2 l3
    refine r_aload_n dX8_split_145 (by first | rfl | assumption) ?_
    refine r8_get dX8_split_146 zf_X8_93 rfl ?_
    refine r_iload dX8_split_149 (by first | rfl | assumption) ?_
    refine r8_iald dX8_split_151 (by decide) (rfl) (by first | assumption | exact (show _ < 65536 by omega) | exact (show _ < 1100 by omega) | exact (show _ < 24 by omega) | exact (show _ < 2100 by omega) | exact (show _ < 6600 by omega) | exact (show _ < 1110 by omega)) ?_
    rw [kst r1 hx (k' + 1) hkl, hEE]
    refine r_istore dX8_split_152 (by decide) l6 ?_
    exact l154 _ B _ rfl (Nat.le_refl _) (by omega) (by rw [eF]; exact hs.symm) l0 l1 l2 l4 l5 l6 rfl K l3
  have loop : ∀ (m k f dp n : Nat) (gs : List (Nat × Nat)) (r1 : zR) (L : Nat → Option Value), k + m = ts.length → 1 ≤ f → f ≤ k → gs.length < k → dp ≤ k → gaS ts m k f dp gs = gat ts → ARn r1 fr xs gs n → n ≤ (ts.getD (f - 1) t0).2.2.1 → sx fr r r1 → L 0 = some (.ref 165) → L 1 = some (.int (nI fr)) → L 2 = some (.int (nI n)) → L 3 = some (.int (nI dp)) → L 4 = some (.int (nI (ts.getD (f - 1) t0).2.2.1)) → L 5 = some (.int (nI k)) → Ru (d + 1) mX8_split 43 L [] (RS S r1) (z_en mX8_split (fun v S1 => v = none ∧ ∃ r', S1 = RS S r' ∧ sx fr r r' ∧ AR r' fr xs (gat ts))) := by
    intro m
    -- the brackets
    have brk : ∀ (k dp : Nat) (r1 : zR) (L : Nat → Option Value), k ≤ ts.length → dp ≤ k → sx fr r r1 → L 0 = some (.ref 165) → L 2 = L 2 → z_c1 (L 2) → L 3 = some (.int (nI dp)) → L 5 = some (.int (nI k)) → (∀ L2 : Nat → Option Value, (∀ j, j ≠ 3 → L2 j = L j) → L2 3 = some (.int (nI (ndp (ts.getD k t0).1 dp))) → Ru (d + 1) mX8_split 106 L2 [] (RS S r1) (z_en mX8_split (fun v S1 => v = none ∧ ∃ r', S1 = RS S r' ∧ sx fr r r' ∧ AR r' fr xs (gat ts)))) → Ru (d + 1) mX8_split 52 L [] (RS S r1) (z_en mX8_split (fun v S1 => v = none ∧ ∃ r', S1 = RS S r' ∧ sx fr r r' ∧ AR r' fr xs (gat ts))) := by
      intro k dp r1 L hk hdp hx l0 _ l2 l3 l5 K
      have hT1 := kTK r1 hx
      unfold ndp at K
      have l77 : ∀ (dp1 : Nat) (L1 : Nat → Option Value), dp1 = (if (ts.getD k t0).1 = 40 ∨ (ts.getD k t0).1 = 91 then dp + 1 else dp) → (∀ j, j ≠ 3 → L1 j = L j) → L1 3 = some (.int (nI dp1)) → Ru (d + 1) mX8_split 77 L1 [] (RS S r1) (z_en mX8_split (fun v S1 => v = none ∧ ∃ r', S1 = RS S r' ∧ sx fr r r' ∧ AR r' fr xs (gat ts))) := by
        intro dp1 L1 hd1 hL1 m3
        have hdp1 : dp1 ≤ dp + 1 := by rw [hd1]; split <;> omega
        rw [← hd1] at K
        have m0 : L1 0 = some (.ref 165) := (hL1 0 (by decide)).trans l0
        have m5 : L1 5 = some (.int (nI k)) := (hL1 5 (by decide)).trans l5
        have m2 : z_c1 (L1 2) := by rw [hL1 2 (by decide)]; exact l2
        have l99 : ((ts.getD k t0).1 = 41 ∨ (ts.getD k t0).1 = 93) → Ru (d + 1) mX8_split 99 L1 [] (RS S r1) (z_en mX8_split (fun v S1 => v = none ∧ ∃ r', S1 = RS S r' ∧ sx fr r r' ∧ AR r' fr xs (gat ts))) := by
          intro q
          refine r_iload_n dX8_split_99 (by first | rfl | assumption) ?_
          by_cases q2 : 0 < dp1
          · refine r_if_le_f (tgt := 106) dX8_split_100 (by decide) (nI_nle q2 (by omega)) ?_
            rw [if_pos ⟨q, q2⟩] at K
            refine r_inc (nI (dp1 - 1)) dX8_split_103 m3 (by decide) m2 (by rw [dec1]; exact nI_sub (a := dp1) (b := 1) q2) ?_
            exact K _ (fun j hj => (if_neg hj).trans (hL1 j hj)) rfl
          · refine r_if_le_t (tgt := 106) dX8_split_100 (by decide) (show nI dp1 ≤ nI 0 from nI_le (by omega) (by decide)) ?_
            rw [if_neg (fun z => q2 z.2)] at K
            exact K L1 hL1 m3
        refine r_aload_n dX8_split_77 (by first | rfl | assumption) ?_
        refine r_iload dX8_split_78 (by first | rfl | assumption) ?_
        refine r_bp (41) dX8_split_80 rfl ?_
        refine r_callV2 dX8_split_82 zm_X8_261 RS_o rfl (Nat.le_of_ble_eq_true rfl) (Nat.le_of_ble_eq_true rfl) (C_X8_isSign (c := 41) hT1 (show k ≤ 1040 by omega) (by decide)) (fun v S9 hv => ?_)
        obtain ⟨rfl, rfl⟩ := hv
        by_cases q1 : (ts.getD k t0).1 = 41
        · rw [decide_eq_true (show (ts.getD k t0).1 = nI 41 from q1)]
          refine r_if_ne_t (tgt := 99) dX8_split_85 (by decide) (show ¬ (1 : Int32) = 0 by decide) ?_
          exact l99 (Or.inl q1)
        · rw [decide_eq_false (show ¬ (ts.getD k t0).1 = nI 41 from q1)]
          refine r_if_ne_f (tgt := 99) dX8_split_85 (by decide) (rfl) ?_
          refine r_aload_n dX8_split_88 (by first | rfl | assumption) ?_
          refine r_iload dX8_split_89 (by first | rfl | assumption) ?_
          refine r_bp (93) dX8_split_91 rfl ?_
          refine r_callV2 dX8_split_93 zm_X8_261 RS_o rfl (Nat.le_of_ble_eq_true rfl) (Nat.le_of_ble_eq_true rfl) (C_X8_isSign (c := 93) hT1 (show k ≤ 1040 by omega) (by decide)) (fun v S9 hv => ?_)
          obtain ⟨rfl, rfl⟩ := hv
          by_cases q2 : (ts.getD k t0).1 = 93
          · rw [decide_eq_true (show (ts.getD k t0).1 = nI 93 from q2)]
            refine r_if_eq_f (tgt := 106) dX8_split_96 (by decide) (show ¬ (1 : Int32) = 0 by decide) ?_
            exact l99 (Or.inr q2)
          · rw [decide_eq_false (show ¬ (ts.getD k t0).1 = nI 93 from q2)]
            refine r_if_eq_t (tgt := 106) dX8_split_96 (by decide) (rfl) ?_
            rw [if_neg (fun z => z.1.elim q1 q2)] at K
            exact K L1 hL1 m3
      have l74 : ((ts.getD k t0).1 = 40 ∨ (ts.getD k t0).1 = 91) → Ru (d + 1) mX8_split 74 L [] (RS S r1) (z_en mX8_split (fun v S1 => v = none ∧ ∃ r', S1 = RS S r' ∧ sx fr r r' ∧ AR r' fr xs (gat ts))) := by
        intro q
        refine r_inc (nI (dp + 1)) dX8_split_74 (by first | rfl | assumption) (by decide) (by first | assumption | exact z_c1_i (by first | rfl | assumption) | exact z_c1_r (by first | rfl | assumption) | exact z_c1_n (by first | rfl | assumption) | exact z_c1_c (by first | rfl | assumption) | exact z_c1_0 (by first | rfl | assumption)) (nI_1 _) ?_
        exact l77 (dp + 1) _ (by rw [if_pos q]) (fun j hj => if_neg hj) rfl
      refine r_aload_n dX8_split_52 (by first | rfl | assumption) ?_
      refine r_iload dX8_split_53 (by first | rfl | assumption) ?_
      refine r_bp (40) dX8_split_55 rfl ?_
      refine r_callV2 dX8_split_57 zm_X8_261 RS_o rfl (Nat.le_of_ble_eq_true rfl) (Nat.le_of_ble_eq_true rfl) (C_X8_isSign (c := 40) hT1 (show k ≤ 1040 by omega) (by decide)) (fun v S9 hv => ?_)
      obtain ⟨rfl, rfl⟩ := hv
      by_cases q1 : (ts.getD k t0).1 = 40
      · rw [decide_eq_true (show (ts.getD k t0).1 = nI 40 from q1)]
        refine r_if_ne_t (tgt := 74) dX8_split_60 (by decide) (show ¬ (1 : Int32) = 0 by decide) ?_
        exact l74 (Or.inl q1)
      · rw [decide_eq_false (show ¬ (ts.getD k t0).1 = nI 40 from q1)]
        refine r_if_ne_f (tgt := 74) dX8_split_60 (by decide) (rfl) ?_
        refine r_aload_n dX8_split_63 (by first | rfl | assumption) ?_
        refine r_iload dX8_split_64 (by first | rfl | assumption) ?_
        refine r_bp (91) dX8_split_66 rfl ?_
        refine r_callV2 dX8_split_68 zm_X8_261 RS_o rfl (Nat.le_of_ble_eq_true rfl) (Nat.le_of_ble_eq_true rfl) (C_X8_isSign (c := 91) hT1 (show k ≤ 1040 by omega) (by decide)) (fun v S9 hv => ?_)
        obtain ⟨rfl, rfl⟩ := hv
        by_cases q2 : (ts.getD k t0).1 = 91
        · rw [decide_eq_true (show (ts.getD k t0).1 = nI 91 from q2)]
          refine r_if_eq_f (tgt := 77) dX8_split_71 (by decide) (show ¬ (1 : Int32) = 0 by decide) ?_
          exact l74 (Or.inr q2)
        · rw [decide_eq_false (show ¬ (ts.getD k t0).1 = nI 91 from q2)]
          refine r_if_eq_t (tgt := 77) dX8_split_71 (by decide) (rfl) ?_
          exact l77 dp L (by rw [if_neg (fun z => z.elim q1 q2)]) (fun j _ => rfl) l3
    induction m with
    | zero =>
      intro k f dp n gs r1 L hm hf1 hfk hgl hdp hg hA hn hx l0 l1 l2 l3 l4 l5
      have ek : k = ts.length := by omega
      have hg : gs ++ [kp ts f ts.length] = gat ts := hg
      have hT1 := kTK r1 hx
      refine r_iload dX8_split_43 (by first | rfl | assumption) ?_
      refine r_aload_n dX8_split_45 (by first | rfl | assumption) ?_
      refine r8_get dX8_split_46 zf_X8_215 rfl ?_
      rw [hT1.1]
      refine r_icmp_gt_f (tgt := 328) dX8_split_49 (by decide) (fun z => absurd z (Int32.not_lt.mpr (nI_le (by omega) (by omega)))) ?_
      refine brk k dp r1 L (by omega) hdp hx l0 rfl (z_c1_i l2) l3 l5 ?_
      intro L2 hL2 m3
      have m0 : L2 0 = some (.ref 165) := (hL2 0 (by decide)).trans l0
      have m1 : L2 1 = some (.int (nI fr)) := (hL2 1 (by decide)).trans l1
      have m2 : L2 2 = some (.int (nI n)) := (hL2 2 (by decide)).trans l2
      have m4 : L2 4 = some (.int (nI (ts.getD (f - 1) t0).2.2.1)) := (hL2 4 (by decide)).trans l4
      have m5 : L2 5 = some (.int (nI k)) := (hL2 5 (by decide)).trans l5
      refine r_iload dX8_split_106 (by first | rfl | assumption) ?_
      refine r_aload_n dX8_split_108 (by first | rfl | assumption) ?_
      refine r8_get dX8_split_109 zf_X8_215 rfl ?_
      rw [hT1.1]
      refine r_icmp_eq_t (tgt := 130) dX8_split_112 (by decide) (by rw [ek]) ?_
      refine r_ic (1) dX8_split_130 rfl ?_
      refine r_goto (tgt := 135) dX8_split_131 (by decide) ?_
      refine r_istore dX8_split_135 (by decide) (by first | assumption | exact z_c1_i (by first | rfl | assumption) | exact z_c1_r (by first | rfl | assumption) | exact z_c1_n (by first | rfl | assumption) | exact z_c1_c (by first | rfl | assumption) | exact z_c1_0 (by first | rfl | assumption)) ?_
      refine r_iload dX8_split_137 (by first | rfl | assumption) ?_
      refine r_if_ne_t (tgt := 145) dX8_split_139 (by decide) (show ¬ (1 : Int32) = 0 by decide) ?_
      refine l145 k f n gs r1 _ hf1 hfk (by omega) hgl hA hn hx m0 m1 m2 (z_c1_i (L := z_s1 L2 6 _) (i := 3) m3) m4 m5 (z_c1_i rfl) ?_
      intro r2 n2 L3 hA2 hn2 hx2 p0 p1 p2 p3 p4 p5 p6
      refine r_inc (nI (k + 1)) dX8_split_322 (by first | rfl | assumption) (by decide) (by first | assumption | exact z_c1_i (by first | rfl | assumption) | exact z_c1_r (by first | rfl | assumption) | exact z_c1_n (by first | rfl | assumption) | exact z_c1_c (by first | rfl | assumption) | exact z_c1_0 (by first | rfl | assumption)) (nI_1 _) ?_
      refine r_goto (tgt := 43) dX8_split_325 (by decide) ?_
      refine r_iload dX8_split_43 (by first | rfl | assumption) ?_
      refine r_aload_n dX8_split_45 (by first | rfl | assumption) ?_
      refine r8_get dX8_split_46 zf_X8_215 rfl ?_
      rw [(kTK r2 hx2).1]
      refine r_icmp_gt_t (tgt := 328) dX8_split_49 (by decide) (nI_lt (a := ts.length) (b := k + 1) (by omega) (by omega)) ?_
      refine r_return dX8_split_328 rfl ⟨rfl, r2, rfl, hx2, ?_⟩
      rw [← hg, ← ek]
      have hs := stT_s hOK (j := k - 1) (by omega)
      rw [show k - 1 + 1 = k by omega] at hs
      have h5 := skB_le (xs := xs) (i := (ts.getD (k - 1) t0).2.2.1) (en_le hOK hl hb 0 (k - 1) (by omega)).2.1
      exact hA2.ar (by rw [List.length_append]; show gs.length + 1 ≤ _; omega) (by omega)
    | succ m ih =>
      intro k f dp n gs r1 L hm hf1 hfk hgl hdp hg hA hn hx l0 l1 l2 l3 l4 l5
      have hT1 := kTK r1 hx
      rw [gaS_n] at hg
      refine r_iload dX8_split_43 (by first | rfl | assumption) ?_
      refine r_aload_n dX8_split_45 (by first | rfl | assumption) ?_
      refine r8_get dX8_split_46 zf_X8_215 rfl ?_
      rw [hT1.1]
      refine r_icmp_gt_f (tgt := 328) dX8_split_49 (by decide) (fun z => absurd z (Int32.not_lt.mpr (nI_le (by omega) (by omega)))) ?_
      refine brk k dp r1 L (by omega) hdp hx l0 rfl (z_c1_i l2) l3 l5 ?_
      intro L2 hL2 m3
      have m0 : L2 0 = some (.ref 165) := (hL2 0 (by decide)).trans l0
      have m1 : L2 1 = some (.int (nI fr)) := (hL2 1 (by decide)).trans l1
      have m2 : L2 2 = some (.int (nI n)) := (hL2 2 (by decide)).trans l2
      have m4 : L2 4 = some (.int (nI (ts.getD (f - 1) t0).2.2.1)) := (hL2 4 (by decide)).trans l4
      have m5 : L2 5 = some (.int (nI k)) := (hL2 5 (by decide)).trans l5
      have hnd := ndp_le (K := (ts.getD k t0).1) (dp := dp)
      have l134 : ¬ ((ts.getD k t0).1 = 44 ∧ dp = 0) → Ru (d + 1) mX8_split 134 L2 [] (RS S r1) (z_en mX8_split (fun v S1 => v = none ∧ ∃ r', S1 = RS S r' ∧ sx fr r r' ∧ AR r' fr xs (gat ts))) := by
        intro q
        rw [if_neg q] at hg
        refine r_ic (0) dX8_split_134 rfl ?_
        refine r_istore dX8_split_135 (by decide) (by first | assumption | exact z_c1_i (by first | rfl | assumption) | exact z_c1_r (by first | rfl | assumption) | exact z_c1_n (by first | rfl | assumption) | exact z_c1_c (by first | rfl | assumption) | exact z_c1_0 (by first | rfl | assumption)) ?_
        refine r_iload dX8_split_137 (by first | rfl | assumption) ?_
        refine r_if_ne_f (tgt := 145) dX8_split_139 (by decide) (rfl) ?_
        refine r_goto (tgt := 322) dX8_split_142 (by decide) ?_
        refine r_inc (nI (k + 1)) dX8_split_322 (by first | rfl | assumption) (by decide) (by first | assumption | exact z_c1_i (by first | rfl | assumption) | exact z_c1_r (by first | rfl | assumption) | exact z_c1_n (by first | rfl | assumption) | exact z_c1_c (by first | rfl | assumption) | exact z_c1_0 (by first | rfl | assumption)) (nI_1 _) ?_
        refine r_goto (tgt := 43) dX8_split_325 (by decide) ?_
        exact ih (k + 1) f (ndp (ts.getD k t0).1 dp) n gs r1 _ (by omega) hf1 (by omega) (by omega) (by omega) hg hA hn hx m0 m1 m2 m3 m4 rfl
      refine r_iload dX8_split_106 (by first | rfl | assumption) ?_
      refine r_aload_n dX8_split_108 (by first | rfl | assumption) ?_
      refine r8_get dX8_split_109 zf_X8_215 rfl ?_
      rw [hT1.1]
      refine r_icmp_eq_f (tgt := 130) dX8_split_112 (by decide) (fun z => by have := (nI_eq (by omega) (by omega)).mp z; omega) ?_
      refine r_iload_n dX8_split_115 (by first | rfl | assumption) ?_
      by_cases q0 : ndp (ts.getD k t0).1 dp = 0
      · refine r_if_ne_f (tgt := 134) dX8_split_116 (by decide) (by rw [q0]; rfl) ?_
        refine r_aload_n dX8_split_119 (by first | rfl | assumption) ?_
        refine r_iload dX8_split_120 (by first | rfl | assumption) ?_
        refine r_bp (44) dX8_split_122 rfl ?_
        refine r_callV2 dX8_split_124 zm_X8_261 RS_o rfl (Nat.le_of_ble_eq_true rfl) (Nat.le_of_ble_eq_true rfl) (C_X8_isSign (c := 44) hT1 (show k ≤ 1040 by omega) (by decide)) (fun v S9 hv => ?_)
        obtain ⟨rfl, rfl⟩ := hv
        by_cases q1 : (ts.getD k t0).1 = 44
        · rw [decide_eq_true (show (ts.getD k t0).1 = nI 44 from q1)]
          rw [q1, ndp_44] at q0
          rw [if_pos ⟨q1, q0⟩] at hg
          refine r_if_eq_f (tgt := 134) dX8_split_127 (by decide) (show ¬ (1 : Int32) = 0 by decide) ?_
          refine r_ic (1) dX8_split_130 rfl ?_
          refine r_goto (tgt := 135) dX8_split_131 (by decide) ?_
          refine r_istore dX8_split_135 (by decide) (by first | assumption | exact z_c1_i (by first | rfl | assumption) | exact z_c1_r (by first | rfl | assumption) | exact z_c1_n (by first | rfl | assumption) | exact z_c1_c (by first | rfl | assumption) | exact z_c1_0 (by first | rfl | assumption)) ?_
          refine r_iload dX8_split_137 (by first | rfl | assumption) ?_
          refine r_if_ne_t (tgt := 145) dX8_split_139 (by decide) (show ¬ (1 : Int32) = 0 by decide) ?_
          refine l145 k f n gs r1 _ hf1 hfk (by omega) hgl hA hn hx m0 m1 m2 (z_c1_i (L := z_s1 L2 6 _) (i := 3) m3) m4 m5 (z_c1_i rfl) ?_
          intro r2 n2 L3 hA2 hn2 hx2 p0 p1 p2 p3 p4 p5 p6
          have hg1 := tsOK_get ts _ k hOK (by omega)
          rw [q1] at hg1
          have e44 := tk_44 hg1.1 hg1.2.1 (hb _ hg1.2.1)
          have eS : stT xs ts k = (ts.getD k t0).2.1 := if_pos (by omega)
          have p3' : L3 3 = some (.int (nI dp)) := by
            rw [p3]
            show L2 3 = _
            rw [m3, q1, ndp_44]
          refine r_inc (nI (k + 1)) dX8_split_322 (by first | rfl | assumption) (by decide) (by first | assumption | exact z_c1_i (by first | rfl | assumption) | exact z_c1_r (by first | rfl | assumption) | exact z_c1_n (by first | rfl | assumption) | exact z_c1_c (by first | rfl | assumption) | exact z_c1_0 (by first | rfl | assumption)) (nI_1 _) ?_
          refine r_goto (tgt := 43) dX8_split_325 (by decide) ?_
          refine ih (k + 1) (k + 1) dp n2 (gs ++ [kp ts f k]) r2 _ (by omega) (by omega) (Nat.le_refl _) (by rw [List.length_append]; show gs.length + 1 < _; omega) (by omega) hg hA2 (by rw [Nat.add_sub_cancel, e44]; omega) hx2 p0 p1 p2 p3' ?_ rfl
          rw [Nat.add_sub_cancel, e44, ← eS]
          exact p4
        · rw [decide_eq_false (show ¬ (ts.getD k t0).1 = nI 44 from q1)]
          refine r_if_eq_t (tgt := 134) dX8_split_127 (by decide) (rfl) ?_
          exact l134 (fun z => q1 z.1)
      · refine r_if_ne_t (tgt := 134) dX8_split_116 (by decide) (fun z => q0 ((nI_eq (b := 0) (by omega) (by decide)).mp z)) ?_
        exact l134 (fun z => q0 (by rw [z.1, ndp_44]; exact z.2))
  refine Rc.of ?_
  refine r_aload_n dX8_split_0 (by first | rfl | assumption) ?_
  refine r8_get dX8_split_1 zf_X8_139 rfl ?_
  refine r_istore_n dX8_split_4 (by decide) (by first | assumption | exact z_c1_i (by first | rfl | assumption) | exact z_c1_r (by first | rfl | assumption) | exact z_c1_n (by first | rfl | assumption) | exact z_c1_c (by first | rfl | assumption) | exact z_c1_0 (by first | rfl | assumption)) ?_
  rw [hf]
  refine r_aload_n dX8_split_5 (by first | rfl | assumption) ?_
  refine r8_get dX8_split_6 zf_X8_66 rfl ?_
  refine r_iload_n dX8_split_9 (by first | rfl | assumption) ?_
  refine r_ic (0) dX8_split_10 rfl ?_
  refine r8_iast dX8_split_11 (by decide) (rfl) (by first | assumption | exact (show _ < 65536 by omega) | exact (show _ < 1100 by omega) | exact (show _ < 24 by omega) | exact (show _ < 2100 by omega) | exact (show _ < 6600 by omega) | exact (show _ < 1110 by omega)) ?_
  refine r_ic (0) dX8_split_12 rfl ?_
  refine r_istore_n dX8_split_13 (by decide) (by first | assumption | exact z_c1_i (by first | rfl | assumption) | exact z_c1_r (by first | rfl | assumption) | exact z_c1_n (by first | rfl | assumption) | exact z_c1_c (by first | rfl | assumption) | exact z_c1_0 (by first | rfl | assumption)) ?_
  refine r_aload_n dX8_split_14 (by first | rfl | assumption) ?_
  refine r8_get dX8_split_15 zf_X8_215 rfl ?_
  rw [show (rA r 229 fr 0).1 41 = nI ts.length from hT.1]
  refine r_ic (1) dX8_split_18 rfl ?_
  have hx0 : sx fr r (rA r 229 fr 0) := sx.rf.a hfr (Or.inr (Or.inr ⟨rfl, rfl⟩))
  by_cases q : ts.length = 1
  · refine r_icmp_ne_f (tgt := 23) dX8_split_19 (by decide) (by rw [q]; rfl) ?_
    refine r_return dX8_split_22 rfl ⟨rfl, _, rfl, hx0, ?_⟩
    have e : gat ts = [] := by unfold gat; rw [if_pos (by omega)]
    rw [e]
    exact ⟨rA_at, by decide, fun i hi => by cases hi⟩
  · refine r_icmp_ne_t (tgt := 23) dX8_split_19 (by decide) (fun z => q ((nI_eq (b := 1) (by omega) (by decide)).mp z)) ?_
    have h0 := (kTK _ hx0).2.2 0 (by omega)
    have hen := en_le hOK hl hb 0 0 (by omega)
    refine r_ic (0) dX8_split_23 rfl ?_
    refine r_istore_n dX8_split_24 (by decide) (by first | assumption | exact z_c1_i (by first | rfl | assumption) | exact z_c1_r (by first | rfl | assumption) | exact z_c1_n (by first | rfl | assumption) | exact z_c1_c (by first | rfl | assumption) | exact z_c1_0 (by first | rfl | assumption)) ?_
    refine r_aload_n dX8_split_25 (by first | rfl | assumption) ?_
    refine r8_get dX8_split_26 zf_X8_93 rfl ?_
    refine r_ic (0) dX8_split_29 rfl ?_
    refine r8_iald dX8_split_30 (by decide) (rfl) (by show 0 < 1110; decide) ?_
    rw [h0.1]
    refine r_aload_n dX8_split_31 (by first | rfl | assumption) ?_
    refine r8_get dX8_split_32 zf_X8_96 rfl ?_
    refine r_ic (0) dX8_split_35 rfl ?_
    refine r8_iald dX8_split_36 (by decide) (rfl) (by show 0 < 1110; decide) ?_
    rw [h0.2.1]
    refine r_iadd dX8_split_37 ?_
    rw [nI_add, show (ts.getD 0 t0).2.1 + ((ts.getD 0 t0).2.2.1 - (ts.getD 0 t0).2.1) = (ts.getD 0 t0).2.2.1 by omega]
    refine r_istore dX8_split_38 (by decide) (by first | assumption | exact z_c1_i (by first | rfl | assumption) | exact z_c1_r (by first | rfl | assumption) | exact z_c1_n (by first | rfl | assumption) | exact z_c1_c (by first | rfl | assumption) | exact z_c1_0 (by first | rfl | assumption)) ?_
    refine r_ic (1) dX8_split_40 rfl ?_
    refine r_istore dX8_split_41 (by decide) (by first | assumption | exact z_c1_i (by first | rfl | assumption) | exact z_c1_r (by first | rfl | assumption) | exact z_c1_n (by first | rfl | assumption) | exact z_c1_c (by first | rfl | assumption) | exact z_c1_0 (by first | rfl | assumption)) ?_
    refine loop (ts.length - 1) 1 1 0 0 [] _ _ (by omega) (Nat.le_refl _) (Nat.le_refl _) (by decide) (by decide) ?_ ⟨rA_at, fun i hi => by cases hi⟩ (Nat.zero_le _) hx0 rfl rfl rfl rfl rfl rfl
    unfold gat
    rw [if_neg (by omega)]
end
