section
variable {d : Nat} {S : zS} {E : zE} {lB lI : List Nat} {B C N : Nat} {Z : Nat → zC} {c : zD} {g : zG}
set_option maxRecDepth 10000 in
set_option maxHeartbeats 1000000 in
theorem C_X7_endLines (h : XI S E lB lI B C Z N c g) : Rc (d + 3) mX7_endLines [.ref 1] S (stP lB lI B C Z N c (cEnd c g)) := by
  have hx := h.x0
  have hn0 := h.n0.1
  have hsz := h.sz
  refine Rc.of ?_
  refine r_aload_n dX7_endLines_0 (by first | rfl | assumption) ?_
  refine r_getf dX7_endLines_1 zf_X7_37 (by assumption) rfl ?_
  refine r_callV0 dX7_endLines_4 zm_X7_267 (by assumption) rfl (Nat.le_of_ble_eq_true rfl) (Nat.le_of_ble_eq_true rfl) (C_X3_top h.n0) (fun v S9 hv => ?_)
  obtain ⟨hS9, rfl⟩ := hv
  subst hS9
  by_cases q0 : g.2.1 = 0
  · have e : cEnd c g = (g, 2) := if_pos q0
    rw [e, q0, show nAt ptN (nI 0 - 1) = .null from rfl]
    refine r_astore_nN dX7_endLines_7 (by decide) (by first | exact z_c1_i (by first | rfl | assumption) | exact z_c1_r (by first | rfl | assumption) | exact z_c1_n (by first | rfl | assumption) | exact z_c1_c (by first | rfl | assumption) | exact z_c1_0 (by first | rfl | assumption)) ?_
    refine r_aload_nN dX7_endLines_8 (by first | rfl | assumption) ?_
    refine r_ifnonnullN dX7_endLines_9 ?_
    refine r_ic (2) dX7_endLines_12 rfl ?_
    refine r_ireturn dX7_endLines_13 _ rfl rfl ⟨rfl, E, h⟩
  obtain ⟨k, hk⟩ : ∃ k, g.2.1 = k + 1 := ⟨g.2.1 - 1, by omega⟩
  have hk2 : k < 20 := by omega
  have e1 := show cEnd c g = _ from if_neg q0
  rw [show g.2.1 - 1 = k by omega] at e1
  rw [hk, nI_p1, nAt_in hk2]
  have hp : S9.2.2 (ptN k) = pcl (g.2.2.1 k) k := h.p0 k hk2
  rw [pcl_eq] at hp
  refine r_astore_n dX7_endLines_7 (by decide) (by first | exact z_c1_i (by first | rfl | assumption) | exact z_c1_r (by first | rfl | assumption) | exact z_c1_n (by first | rfl | assumption) | exact z_c1_c (by first | rfl | assumption) | exact z_c1_0 (by first | rfl | assumption)) ?_
  refine r_aload_n dX7_endLines_8 (by first | rfl | assumption) ?_
  refine r_ifnonnull (tgt := 14) dX7_endLines_9 (by decide) ?_
  refine r_aload_n dX7_endLines_14 (by first | rfl | assumption) ?_
  refine r_callV0 dX7_endLines_15 zm_X7_270 (by assumption) rfl (Nat.le_of_ble_eq_true rfl) (Nat.le_of_ble_eq_true rfl) (C_X4_hasLines hp) (fun v S9 hv => ?_)
  obtain ⟨hS9, rfl⟩ := hv
  subst hS9
  by_cases q1 : hasL (kdG g k) = false
  · rw [if_pos q1] at e1
    refine r_if_ne_f (tgt := 45) dX7_endLines_18 (by decide) (by rw [show hasL (g.2.2.1 k).1 = false from q1]; rfl) ?_
    refine r_aload_n dX7_endLines_21 (by first | rfl | assumption) ?_
    refine r_getf dX7_endLines_22 zf_X7_37 (by assumption) rfl ?_
    refine r_callV0 dX7_endLines_25 zm_X7_117 (by assumption) rfl (Nat.le_of_ble_eq_true rfl) (Nat.le_of_ble_eq_true rfl) (C_X7_lines h) (fun v S9 hv => ?_)
    obtain ⟨hS9, rfl⟩ := hv
    subst hS9
    cases hq : iL g with
    | none =>
      rw [if_pos (by rw [hq]; rfl)] at e1
      rw [e1, show oV ptN none = .null from rfl]
      refine r_ifnonnullN dX7_endLines_28 ?_
      refine r_aload_n dX7_endLines_31 (by first | rfl | assumption) ?_
      refine r_callV0 dX7_endLines_32 zm_X7_216 (by assumption) rfl (Nat.le_of_ble_eq_true rfl) (Nat.le_of_ble_eq_true rfl) (C_X7_tellUnended h) (fun v S8 hv => ?_)
      obtain ⟨rfl, h3⟩ := hv
      refine r_goto (tgt := 44) dX7_endLines_35 (by decide) ?_
      refine r_ireturn dX7_endLines_44 _ rfl rfl ⟨rfl, E, h3⟩
    | some j =>
      rw [if_neg (by rw [hq]; exact Bool.false_ne_true)] at e1
      rw [e1, show oV ptN (some j) = .ref (ptN j) from rfl]
      refine r_ifnonnull (tgt := 38) dX7_endLines_28 (by decide) ?_
      refine r_aload_n dX7_endLines_38 (by first | rfl | assumption) ?_
      refine r_bp (6) dX7_endLines_39 rfl ?_
      refine r_callV1 dX7_endLines_41 zm_X7_132 (by assumption) rfl (Nat.le_of_ble_eq_true rfl) (Nat.le_of_ble_eq_true rfl) (C_X7_tell (k := 6) h) (fun v S8 hv => ?_)
      obtain ⟨rfl, h3⟩ := hv
      refine r_ireturn dX7_endLines_44 _ rfl rfl ⟨rfl, E, h3⟩
  rw [if_neg q1] at e1
  refine r_if_ne_t (tgt := 45) dX7_endLines_18 (by decide) (by rw [show hasL (g.2.2.1 k).1 = true from Bool.not_eq_false _ |>.mp q1]; decide) ?_
  refine r_aload_n dX7_endLines_45 (by first | rfl | assumption) ?_
  refine r_dup dX7_endLines_46 rfl ?_
  refine r_getf dX7_endLines_47 zf_X7_231 (by assumption) rfl ?_
  refine r_ic (1) dX7_endLines_50 rfl ?_
  refine r_isub dX7_endLines_51 ?_
  refine r_putf dX7_endLines_52 zf_X7_231 (by assumption) (Nat.le_of_ble_eq_true rfl) ⟨rfl, rfl⟩ ?_
  have h2 := h.p (j := k) (q := ((g.2.2.1 k).1, (g.2.2.1 k).2.1, (g.2.2.1 k).2.2.1 - 1, (g.2.2.1 k).2.2.2)) hk2 rfl
  show Ru _ _ _ _ _ (z_put S9 (ptN k) (pcl ((g.2.2.1 k).1, (g.2.2.1 k).2.1, (g.2.2.1 k).2.2.1 - 1, (g.2.2.1 k).2.2.2) k)) _
  have hp2 : (z_put S9 (ptN k) (pcl ((g.2.2.1 k).1, (g.2.2.1 k).2.1, (g.2.2.1 k).2.2.1 - 1, (g.2.2.1 k).2.2.2) k)).2.2 (ptN k) = pcl ((g.2.2.1 k).1, (g.2.2.1 k).2.1, (g.2.2.1 k).2.2.1 - 1, (g.2.2.1 k).2.2.2) k := z_put_self
  generalize z_put S9 (ptN k) (pcl ((g.2.2.1 k).1, (g.2.2.1 k).2.1, (g.2.2.1 k).2.2.1 - 1, (g.2.2.1 k).2.2.2) k) = S2 at h2 hp2 ⊢
  rw [pcl_eq] at hp2
  have hx2 := h2.x0
  have l80 : ¬ (kdG g k = 4 ∧ 0 < (g.2.2.1 k).2.2.1 - 1) → ∀ L : Nat → Option Value, L 0 = some (.ref 1) → L 1 = some (.ref (ptN k)) → Ru (d + 3) mX7_endLines 80 L [] S2 (z_en mX7_endLines (stP lB lI B C Z N c (cEnd c g))) := by
    intro q L l0 l1
    rw [if_neg q] at e1
    rw [e1]
    refine r_aload_n dX7_endLines_80 (by first | rfl | assumption) ?_
    refine r_aload_n dX7_endLines_81 (by first | rfl | assumption) ?_
    refine r_getf dX7_endLines_82 zf_X7_276 (by assumption) rfl ?_
    refine r_putf dX7_endLines_85 zf_X7_69 (by assumption) (Nat.le_of_ble_eq_true rfl) ⟨rfl, rfl⟩ ?_
    have h3 := h2.pos (p := (g.2.2.1 k).2.1.2.2.1)
    show Ru _ _ _ _ _ (z_put S2 1 (xcl c (gPos (g.1, g.2.1, va_up g.2.2.1 k ((g.2.2.1 k).1, (g.2.2.1 k).2.1, (g.2.2.1 k).2.2.1 - 1, (g.2.2.1 k).2.2.2), g.2.2.2) (g.2.2.1 k).2.1.2.2.1))) _
    generalize z_put S2 1 (xcl c (gPos (g.1, g.2.1, va_up g.2.2.1 k ((g.2.2.1 k).1, (g.2.2.1 k).2.1, (g.2.2.1 k).2.2.1 - 1, (g.2.2.1 k).2.2.2), g.2.2.2) (g.2.2.1 k).2.1.2.2.1)) = S3 at h3 ⊢
    have hx3 := h3.x0
    have hn3 := h3.n0.1
    refine r_aload_n dX7_endLines_88 (by first | rfl | assumption) ?_
    refine r_getf dX7_endLines_89 zf_X7_37 (by assumption) rfl ?_
    refine r_callV0 dX7_endLines_92 zm_X7_226 (by assumption) rfl (Nat.le_of_ble_eq_true rfl) (Nat.le_of_ble_eq_true rfl) (C_X7_close h3) (fun v S7 hv => ?_)
    obtain ⟨rfl, h4⟩ := hv
    refine r_ic (0) dX7_endLines_95 rfl ?_
    refine r_ireturn dX7_endLines_96 _ rfl rfl ⟨rfl, E, h4⟩
  refine r_aload_n dX7_endLines_55 (by first | rfl | assumption) ?_
  refine r_getf dX7_endLines_56 zf_X7_273 (by assumption) rfl ?_
  refine r_ic (4) dX7_endLines_59 rfl ?_
  by_cases q2 : kdG g k = 4
  · refine r_icmp_ne_f (tgt := 80) dX7_endLines_60 (by decide) (q2) ?_
    refine r_aload_n dX7_endLines_63 (by first | rfl | assumption) ?_
    refine r_getf dX7_endLines_64 zf_X7_231 (by assumption) rfl ?_
    by_cases q3 : 0 < (g.2.2.1 k).2.2.1 - 1
    · refine r_if_le_f (tgt := 80) dX7_endLines_67 (by decide) (fun z => absurd z (Int32.not_le.mpr q3)) ?_
      rw [if_pos ⟨q2, q3⟩] at e1
      rw [e1]
      refine r_aload_n dX7_endLines_70 (by first | rfl | assumption) ?_
      refine r_aload_n dX7_endLines_71 (by first | rfl | assumption) ?_
      refine r_getf dX7_endLines_72 zf_X7_275 (by assumption) rfl ?_
      refine r_putf dX7_endLines_75 zf_X7_69 (by assumption) (Nat.le_of_ble_eq_true rfl) ⟨rfl, rfl⟩ ?_
      refine r_ic (0) dX7_endLines_78 rfl ?_
      have h3 := h2.pos (p := (g.2.2.1 k).2.1.1)
      refine r_ireturn dX7_endLines_79 _ rfl rfl ⟨rfl, E, h3⟩
    · refine r_if_le_t (tgt := 80) dX7_endLines_67 (by decide) (Int32.not_lt.mp q3) ?_
      exact l80 (fun z => q3 z.2) _ rfl rfl
  · refine r_icmp_ne_t (tgt := 80) dX7_endLines_60 (by decide) (q2) ?_
    exact l80 (fun z => q2 z.1) _ rfl rfl
/-- a line as it is read -/
def ln7 (c : zD) (i : Nat) : Nat × Nat := (lnz c.2.1).getD i (0, 0)
def fil (c : zD) (g : zG) (i : Nat) : Option (List Nat) := if 1024 < (ln7 c i).2 - (ln7 c i).1 then none else match iM g with
  | none => some (seg c.2.1 (ln7 c i).1 (ln7 c i).2)
  | some j => match (g.2.2.1 j).2.2.2.2.1 with
    | none => none
    | some q => wrF c.2.1 (ln7 c i).2 (g.2.2.1 j).2.2.2.1 q.2.2.1 (g.2.2.1 j).2.2.2.2.2.1 (g.2.2.1 j).2.2.2.2.2.2 1024 ((ln7 c i).2 - (ln7 c i).1) (ln7 c i).1 []
def gRd (g : zG) (ys : List Nat) : zG := (g.1, g.2.1, g.2.2.1, g.2.2.2.1, ys)
/-- what the parts that are open hold of macros -/
def pOk (c : zD) (g : zG) : Prop := (∀ q ∈ g.2.2.2.1, q.2.1.1 ≤ 65536 ∧ q.2.1.2.1 ≤ 65536 ∧ ∀ z ∈ q.2.2.1, z.1 ≤ 65536 ∧ z.2 ≤ 65536) ∧ ∀ j, j < g.2.1 → (g.2.2.1 j).1 = 6 → (∃ q, (g.2.2.1 j).2.2.2.2.1 = some q ∧ q ∈ g.2.2.2.1) ∧ (g.2.2.1 j).2.2.2.1 < 2 ^ 30 ∧ ∀ z ∈ (g.2.2.1 j).2.2.2.2.2.2, z.1 ≤ 65536 ∧ z.2 ≤ (g.2.2.1 j).2.2.2.2.2.1.length
theorem lnA_ok {xs : List Nat} : ∀ (k i st : Nat), i + k = xs.length → st ≤ i → ∀ q ∈ lnA xs k i st, st ≤ q.1 ∧ q.1 ≤ q.2 ∧ q.2 ≤ xs.length
  | 0, i, st, h1, h2, q, hq => by
    have hq : q ∈ (if st < xs.length then [(st, xs.length)] else []) := hq
    split at hq
    · next z =>
      rw [List.mem_singleton.mp hq]
      exact ⟨Nat.le_refl _, Nat.le_of_lt z, Nat.le_refl _⟩
    · cases hq
  | k + 1, i, st, h1, h2, q, hq => by
    have hq : q ∈ (if xs.getD i 0 = 10 then (st, i) :: lnA xs k (i + 1) (i + 1) else lnA xs k (i + 1) st) := hq
    split at hq
    · rcases List.mem_cons.mp hq with z | z
      · rw [z]
        exact ⟨Nat.le_refl _, h2, by show i ≤ xs.length; omega⟩
      · have := lnA_ok k (i + 1) (i + 1) (by omega) (Nat.le_refl _) q z
        omega
    · exact lnA_ok k (i + 1) st (by omega) (by omega) q hq
theorem ln7_ok {i : Nat} (hi : i < cnt c) : (ln7 c i).1 ≤ (ln7 c i).2 ∧ (ln7 c i).2 ≤ c.2.1.length := by
  have := lnA_ok _ 0 0 (Nat.zero_add _) (Nat.le_refl _) (ln7 c i) (List.mem_of_getElem? (getD_some hi))
  exact this.2
set_option maxRecDepth 10000 in
set_option maxHeartbeats 1000000 in
theorem C_X7_fill {i : Nat} (h : XI S E lB lI B C Z N c g) (hi : i < cnt c) (hp : pOk c g) : Rc (d + 7) mX7_fill [.ref 1, .int (nI i)] S (fun v S1 => v = some (.int (bI (fil c g i).isSome)) ∧ ∃ E1 ys, XI S1 E1 lB lI B C Z N c (gRd g ys) ∧ ∀ r, fil c g i = some r → ys = r) := by
  have hx := h.x0
  have hs0 := h.2.1.2.1
  have hn0 := h.n0.1
  have hsz := h.sz
  have hcn := h.cn
  have hln := ln7_ok hi
  have hsl := h.1.bl h.2.2.1.2.1
  have crd := (h.1.b h.2.2.1.2.2.2.1).1.1
  have e1 : iAt ((lnz c.2.1).map fun q => nI q.1) (nI i) = nI (ln7 c i).1 := iAt_mapf (by unfold cnt at hi hcn; omega) (getD_some hi)
  have e2 : iAt ((lnz c.2.1).map fun q => nI q.2) (nI i) = nI (ln7 c i).2 := iAt_mapf (by unfold cnt at hi hcn; omega) (getD_some hi)
  refine Rc.of ?_
  refine r_aload_n dX7_fill_0 (by first | rfl | assumption) ?_
  refine r_getf dX7_fill_1 zf_X7_10 (by assumption) rfl ?_
  refine r_iload_n dX7_fill_4 (by first | rfl | assumption) ?_
  refine r_callV1 dX7_fill_5 zm_X7_163 (by assumption) rfl (Nat.le_of_ble_eq_true rfl) (Nat.le_of_ble_eq_true rfl) (C_X5_start h.s0 h.1 h.2.2.1.2.2.2.2.1) (fun v S9 hv => ?_)
  obtain ⟨hS9, rfl⟩ := hv
  subst hS9
  rw [e1]
  refine r_istore_n dX7_fill_8 (by decide) (by first | exact z_c1_i (by first | rfl | assumption) | exact z_c1_r (by first | rfl | assumption) | exact z_c1_n (by first | rfl | assumption) | exact z_c1_c (by first | rfl | assumption) | exact z_c1_0 (by first | rfl | assumption)) ?_
  refine r_aload_n dX7_fill_9 (by first | rfl | assumption) ?_
  refine r_getf dX7_fill_10 zf_X7_10 (by assumption) rfl ?_
  refine r_iload_n dX7_fill_13 (by first | rfl | assumption) ?_
  refine r_callV1 dX7_fill_14 zm_X7_164 (by assumption) rfl (Nat.le_of_ble_eq_true rfl) (Nat.le_of_ble_eq_true rfl) (C_X5_end h.s0 h.1 h.2.2.1.2.2.2.2.2.1) (fun v S9 hv => ?_)
  obtain ⟨hS9, rfl⟩ := hv
  subst hS9
  rw [e2]
  refine r_istore_n dX7_fill_17 (by decide) (by first | exact z_c1_i (by first | rfl | assumption) | exact z_c1_r (by first | rfl | assumption) | exact z_c1_n (by first | rfl | assumption) | exact z_c1_c (by first | rfl | assumption) | exact z_c1_0 (by first | rfl | assumption)) ?_
  refine r_aload_n dX7_fill_18 (by first | rfl | assumption) ?_
  refine r_getf dX7_fill_19 zf_X7_21 (by assumption) rfl ?_
  refine r_callV0 dX7_fill_22 zm_X7_64 (by assumption) rfl (Nat.le_of_ble_eq_true rfl) (Nat.le_of_ble_eq_true rfl) (V_X0_clear h.1 h.2.2.1.2.2.2.1) (fun v S1 hv => ?_)
  obtain ⟨rfl, rc, hP⟩ := hv
  have h1 := h.rd (ys := []) hP rfl rfl
  generalize eB E 11 (1024, []) rc = E1 at hP h1
  have hx1 := h1.x0
  have hs1 := h1.2.1.2.1
  have hn1 := h1.n0.1
  have crd1 := (h1.1.b h1.2.2.1.2.2.2.1).1.1
  refine r_iload_n dX7_fill_25 (by first | rfl | assumption) ?_
  refine r_iload_n dX7_fill_26 (by first | rfl | assumption) ?_
  refine r_isub dX7_fill_27 ?_
  rw [nI_sub hln.1]
  refine r_sp (1024) dX7_fill_28 rfl ?_
  by_cases q1 : 1024 < (ln7 c i).2 - (ln7 c i).1
  · have e : fil c g i = none := if_pos q1
    refine r_icmp_le_f (tgt := 36) dX7_fill_31 (by decide) (show ¬ nI ((ln7 c i).2 - (ln7 c i).1) ≤ nI 1024 from nI_ge q1 (by omega)) ?_
    refine r_ic (0) dX7_fill_34 rfl ?_
    refine r_ireturn dX7_fill_35 _ rfl rfl ⟨by rw [e]; rfl, E1, [], h1, fun r hr => by rw [e] at hr; cases hr⟩
  refine r_icmp_le_t (tgt := 36) dX7_fill_31 (by decide) (show nI ((ln7 c i).2 - (ln7 c i).1) ≤ nI 1024 from nI_le (by omega) (by decide)) ?_
  have ef := show fil c g i = _ from if_neg q1
  refine r_aload_n dX7_fill_36 (by first | rfl | assumption) ?_
  refine r_getf dX7_fill_37 zf_X7_37 (by assumption) rfl ?_
  refine r_callV0 dX7_fill_40 zm_X7_165 (by assumption) rfl (Nat.le_of_ble_eq_true rfl) (Nat.le_of_ble_eq_true rfl) (C_X3_innermostMacro h1.n0 h1.kd) (fun v S9 hv => ?_)
  obtain ⟨hS9, rfl⟩ := hv
  subst hS9
  have him : inM (fun j => ((g.1, g.2.1, g.2.2.1, g.2.2.2.1, ([] : List Nat)).2.2.1 j).1) (g.1, g.2.1, g.2.2.1, g.2.2.2.1, ([] : List Nat)).2.1 = iM g := rfl
  rw [him]
  cases hq : iM g with
  | none =>
    rw [hq] at ef
    have ef : fil c g i = some (seg c.2.1 (ln7 c i).1 (ln7 c i).2) := ef
    rw [show oV ptN none = .null from rfl]
    refine r_astoreN dX7_fill_43 (by decide) (by first | exact z_c1_i (by first | rfl | assumption) | exact z_c1_r (by first | rfl | assumption) | exact z_c1_n (by first | rfl | assumption) | exact z_c1_c (by first | rfl | assumption) | exact z_c1_0 (by first | rfl | assumption)) ?_
    refine r_aloadN dX7_fill_45 (by first | rfl | assumption) ?_
    refine r_ifnonnullN dX7_fill_47 ?_
    refine r_aload_n dX7_fill_50 (by first | rfl | assumption) ?_
    refine r_getf dX7_fill_51 zf_X7_21 (by assumption) rfl ?_
    refine r_aload_n dX7_fill_54 (by first | rfl | assumption) ?_
    refine r_getf dX7_fill_55 zf_X7_10 (by assumption) rfl ?_
    refine r_callV0 dX7_fill_58 zm_X7_168 (by assumption) rfl (Nat.le_of_ble_eq_true rfl) (Nat.le_of_ble_eq_true rfl) (C_X5_bytes h1.s0) (fun v S9 hv => ?_)
    obtain ⟨hS9, rfl⟩ := hv
    subst hS9
    refine r_iload_n dX7_fill_61 (by first | rfl | assumption) ?_
    refine r_iload_n dX7_fill_62 (by first | rfl | assumption) ?_
    have nb : c.1.1 ≠ 11 := by have := h.2.2.1.1; omega
    refine r_callV3 dX7_fill_63 zm_X7_172 (by assumption) rfl (Nat.le_of_ble_eq_true rfl) (Nat.le_of_ble_eq_true rfl) (V_X0_appendPart h1.1 h1.2.2.1.2.2.2.1 h1.2.2.1.2.1 nb hln.2 (show (ln7 c i).1 ≤ 65536 by omega)) (fun v S2 hv => ?_)
    obtain ⟨rfl, rc2, hP2⟩ := hv
    have hlen : (([] : List Nat) ++ seg c.2.1 (ln7 c i).1 (ln7 c i).2).length ≤ 1024 := by
      rw [List.nil_append, seg_len hln.2]
      omega
    have h2 := h1.rd hP2 rfl rfl
    refine r_ireturn dX7_fill_66 _ rfl (bI_n _) ⟨by rw [ef]; exact congrArg (fun z => some (Value.int (bI z))) (decide_eq_true hlen), _, _, h2, fun r hr => ?_⟩
    rw [ef] at hr
    cases hr
    rw [List.take_of_length_le hlen]
    rfl
  | some j =>
    have hj := inM_lt _ _ hq
    obtain ⟨⟨mq, hmq, hmm⟩, hsn, hgs⟩ := hp.2 j hj.1 hj.2
    rw [hq] at ef
    have ef : fil c g i = match (g.2.2.1 j).2.2.2.2.1 with
      | none => none
      | some q => wrF c.2.1 (ln7 c i).2 (g.2.2.1 j).2.2.2.1 q.2.2.1 (g.2.2.1 j).2.2.2.2.2.1 (g.2.2.1 j).2.2.2.2.2.2 1024 ((ln7 c i).2 - (ln7 c i).1) (ln7 c i).1 [] := ef
    rw [hmq] at ef
    have ef : fil c g i = wrF c.2.1 (ln7 c i).2 (g.2.2.1 j).2.2.2.1 mq.2.2.1 (g.2.2.1 j).2.2.2.2.2.1 (g.2.2.1 j).2.2.2.2.2.2 1024 ((ln7 c i).2 - (ln7 c i).1) (ln7 c i).1 [] := ef
    have hj20 : j < 20 := by omega
    have hpj : S9.2.2 (ptN j) = pcl (g.2.2.1 j) j := h1.p0 j hj20
    have hpj' : S9.2.2 (ptN j) = .inr (5, pF (g.2.2.1 j).1 (nI (g.2.2.1 j).2.1.1) (nI (g.2.2.1 j).2.1.2.1) (nI (g.2.2.1 j).2.1.2.2.1) (nI (g.2.2.1 j).2.1.2.2.2) (g.2.2.1 j).2.2.1 (nI (g.2.2.1 j).2.2.2.1) (.ref mq.1) (23 + 7 * j) (25 + 7 * j) (27 + 7 * j)) := by
      rw [hpj]
      unfold pcl
      rw [hmq]
      rfl
    have hpj9 := hpj'
    unfold pF at hpj9
    obtain ⟨hm1, hm2, hm3⟩ := h1.m0 mq hmm
    obtain ⟨⟨b1, hm4⟩, ⟨b2, hm5⟩, hm6, hm7⟩ := h1.2.2.1.2.2.2.2.2.2.2.2.2 mq hmm
    obtain ⟨hg1, hg2, hg3⟩ := h1.2.2.1.2.2.2.2.2.2.2.2.1 j hj20
    rw [show oV ptN (some j) = .ref (ptN j) from rfl]
    refine r_astore dX7_fill_43 (by decide) (by first | exact z_c1_i (by first | rfl | assumption) | exact z_c1_r (by first | rfl | assumption) | exact z_c1_n (by first | rfl | assumption) | exact z_c1_c (by first | rfl | assumption) | exact z_c1_0 (by first | rfl | assumption)) ?_
    refine r_aload dX7_fill_45 (by first | rfl | assumption) ?_
    refine r_ifnonnull (tgt := 67) dX7_fill_47 (by decide) ?_
    refine r_aload dX7_fill_67 (by first | rfl | assumption) ?_
    refine r_aload_n dX7_fill_69 (by first | rfl | assumption) ?_
    refine r_getf dX7_fill_70 zf_X7_10 (by assumption) rfl ?_
    refine r_callV0 dX7_fill_73 zm_X7_168 (by assumption) rfl (Nat.le_of_ble_eq_true rfl) (Nat.le_of_ble_eq_true rfl) (C_X5_bytes h1.s0) (fun v S9 hv => ?_)
    obtain ⟨hS9, rfl⟩ := hv
    subst hS9
    refine r_iload_n dX7_fill_76 (by first | rfl | assumption) ?_
    refine r_iload_n dX7_fill_77 (by first | rfl | assumption) ?_
    refine r_aload_n dX7_fill_78 (by first | rfl | assumption) ?_
    refine r_getf dX7_fill_79 zf_X7_21 (by assumption) rfl ?_
    have nb : c.1.1 ≠ 11 := by have := h.2.2.1.1; omega
    have hpt := ptN_lt hj20
    have hl9 := h1.l0
    refine r_callV4 dX7_fill_82 zm_X7_176 (by assumption) rfl (Nat.le_of_ble_eq_true rfl) (Nat.le_of_ble_eq_true rfl) (V_X4_write hpj' (by omega) hm1 hm2 h1.1 hm4 hm5 h1.2.2.1.2.1 h1.2.2.1.2.2.2.1 hg1 hg2 hg3 (show 23 + 7 * j ≠ 11 by omega) nb (hp.1 mq hmm).2.2 hgs hsn hln.1 hln.2) (fun v S2 hv => ?_)
    rcases hv with ⟨ys, hw, rfl, E2, hP2, ee1, ee2⟩ | ⟨hw, rfl, ys, E2, hP2, ee1, ee2⟩
    · have h2 := h1.rd hP2 ee1 ee2
      have ef : fil c g i = some ys := ef.trans hw
      refine r_ireturn dX7_fill_85 _ rfl rfl ⟨by rw [ef]; rfl, E2, ys, h2, fun r hr => by rw [ef] at hr; cases hr; rfl⟩
    · have h2 := h1.rd hP2 ee1 ee2
      have ef : fil c g i = none := ef.trans hw
      refine r_ireturn dX7_fill_85 _ rfl rfl ⟨by rw [ef]; rfl, E2, ys, h2, fun r hr => by rw [ef] at hr; cases hr⟩
end
