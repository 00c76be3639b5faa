/-! THE REFERENCE: what is typed -/
theorem ss8 (x : BitVec 64) (n : Nat) (hn : n ≤ 56) : (x.sshiftRight n).setWidth 8 = (x >>> n).setWidth 8 := by
  apply BitVec.eq_of_getLsbD_eq
  intro i hi
  rw [BitVec.getLsbD_setWidth, BitVec.getLsbD_setWidth, BitVec.getLsbD_sshiftRight, BitVec.getLsbD_ushiftRight]
  have h1 : n + i < 64 := by omega
  have h2 : ¬ 64 ≤ i := by omega
  simp [h1, h2]
theorem ob8 {x : Int64} : ob x.toInt32 = (x.toBitVec.setWidth 8).toNat := by
  unfold ob
  rw [Int64.toBitVec_toInt32, BitVec.signExtend_eq_setWidth_of_le _ (by decide), BitVec.toNat_setWidth, BitVec.toNat_setWidth]
  omega
theorem ob_255 (y : Int32) : ob (y &&& 255) = ob y := by
  unfold ob
  have e : (y &&& 255).toBitVec.toNat = y.toBitVec.toNat &&& 255 := by
    rw [Int32.toBitVec_and, BitVec.toNat_and]
    rfl
  rw [e, show 255 = 2 ^ 8 - 1 by decide, Nat.and_two_pow_sub_one_eq_mod]
  omega
theorem ty_b {w : Int64} {k : Nat} (hk : k < 8) : ob (w >>> ((8 * nI k : Int32).toInt64 &&& 63)).toInt32 = wB w k := by
  unfold wB
  rw [ob_255, ob8, ob8]
  have hs : ∀ k, k < 8 → ((8 * nI k : Int32).toInt64 &&& 63).toBitVec.smod 64 = BitVec.ofNat 64 (8 * k) ∧ ((8 * nI k : Int32).toInt64.toUInt64 &&& Int64.toUInt64 63) = UInt64.ofNat (8 * k) := by decide
  rw [Int64.toBitVec_shiftRight, (hs k hk).1, (hs k hk).2]
  have e1 : w.toBitVec.sshiftRight' (BitVec.ofNat 64 (8 * k)) = w.toBitVec.sshiftRight (8 * k) := by
    show w.toBitVec.sshiftRight (BitVec.ofNat 64 (8 * k)).toNat = _
    rw [BitVec.toNat_ofNat, Nat.mod_eq_of_lt (by omega)]
  have e2 : (w.toUInt64 >>> UInt64.ofNat (8 * k)).toInt64.toBitVec = w.toBitVec >>> (8 * k) := by
    show (w.toUInt64 >>> UInt64.ofNat (8 * k)).toBitVec = _
    rw [UInt64.toBitVec_shiftRight]
    show w.toBitVec >>> ((UInt64.ofNat (8 * k)).toBitVec % 64) = _
    have : (UInt64.ofNat (8 * k)).toBitVec % 64 = BitVec.ofNat 64 (8 * k) := by
      have : ∀ k, k < 8 → (UInt64.ofNat (8 * k)).toBitVec % 64 = BitVec.ofNat 64 (8 * k) := by decide
      exact this k hk
    rw [this]
    show w.toBitVec >>> (BitVec.ofNat 64 (8 * k)).toNat = _
    rw [BitVec.toNat_ofNat, Nat.mod_eq_of_lt (by omega)]
  rw [e1, e2, ss8 _ _ (by omega)]
def t8P (S : zS) (r : zR) (c : zD) (g : zG) (w : Int64) (n : Int32) (v : Option Value) (S1 : zS) : Prop := ∃ r', S1 = RS S r' ∧ r'.2.2 241 = r.2.2 241 ∧ ((¬ (1 ≤ n ∧ n ≤ 8 ∧ c.2.2.1.length + n.toBitVec.toNat ≤ 65536) ∧ v = some (.int 0) ∧ OR c g r') ∨ ((1 ≤ n ∧ n ≤ 8 ∧ c.2.2.1.length + n.toBitVec.toNat ≤ 65536) ∧ v = some (.int 1) ∧ OR (cTx c (c.2.2.1 ++ tyB w n.toBitVec.toNat)) g r'))
section
variable {d : Nat} {S : zS} {r : zR} {c : zD} {g : zG}
set_option maxRecDepth 10000 in
set_option maxHeartbeats 2000000 in
theorem C_X8_type {w : Int64} {n : Int32} (h : OR c g r) (hl : c.2.2.1.length + 8 ≤ 512) : Rc d mX8_type [.ref 165, .long w, .int n] (RS S r) (t8P S r c g w n) := by
  have h9 := h
  obtain ⟨⟨t1, t2, t3⟩, h2, h3, h4, h5, h6, h7, h8⟩ := h
  have loop : ∀ (k : Nat) (r1 : zR) (ys : List Nat) (L : Nat → Option Value), k ≤ 8 → ys.length + k ≤ 512 → ys ++ tyB w k = c.2.2.1 ++ tyB w n.toBitVec.toNat → TX r1 ys → eqx [0, 3] [166] r r1 → (1 ≤ n ∧ n ≤ 8 ∧ c.2.2.1.length + n.toBitVec.toNat ≤ 65536) → L 0 = some (.ref 165) → L 1 = some (.long w) → L 3 = some (.int n) → L 4 = some (.int (nI k - 1)) → Ru d mX8_type 34 L [] (RS S r1) (z_en mX8_type (t8P S r c g w n)) := by
    intro k
    induction k with
    | zero =>
      intro r1 ys L hk hy he hT hx hq l0 l1 l3 l4
      have he : ys ++ [] = _ := he
      rw [List.append_nil] at he
      refine r_iload dX8_type_34 (by first | rfl | assumption) ?_
      refine r_if_lt_t (tgt := 73) dX8_type_36 (by decide) (show (nI 0 - 1 : Int32) < 0 by decide) ?_
      refine r_ic (1) dX8_type_73 rfl ?_
      refine r_ireturn dX8_type_74 _ rfl rfl ?_
      refine ⟨r1, rfl, (hx.2 241 (by decide)).2, Or.inr ⟨hq, rfl, ?_⟩⟩
      rw [← he]
      exact ⟨hT, (hx.1 11 (by decide)).trans h2, h3, (hx.1 13 (by decide)).trans h4, fun z => ⟨(hx.1 15 (by decide)).trans (h5 z).1, ((h5 z).2.1.mv hx (by decide) (by decide)).cg rfl, (h5 z).2.2.cg rfl⟩, fun z => ⟨(hx.1 15 (by decide)).trans (h6 z).1, (h6 z).2.1, (h6 z).2.2.1, fun q => (hx.1 12 (by decide)).trans ((h6 z).2.2.2 q)⟩, fun z => ⟨(hx.1 16 (by decide)).trans (h7 z).1, (h7 z).2.1.mv hx (by decide) (by decide), (h7 z).2.2⟩, fun z => (hx.1 16 (by decide)).trans (h8 z)⟩
    | succ k ih =>
      intro r1 ys L hk hy he hT hx hq l0 l1 l3 l4
      rw [nI_p1] at l4
      refine r_iload dX8_type_34 (by first | rfl | assumption) ?_
      refine r_if_lt_f (tgt := 73) dX8_type_36 (by decide) (fun z => absurd z (Int32.not_lt.mpr (show nI 0 ≤ nI k from nI_le (Nat.zero_le _) (by omega)))) ?_
      refine r_aload_n dX8_type_39 (by first | rfl | assumption) ?_
      refine r8_get dX8_type_40 zf_X8_10 rfl ?_
      refine r_aload_n dX8_type_43 (by first | rfl | assumption) ?_
      refine r8_get dX8_type_44 zf_X8_107 rfl ?_
      rw [hT.1]
      refine r_lload_n dX8_type_47 (by first | rfl | assumption) ?_
      refine r_bp (8) dX8_type_48 rfl ?_
      refine r_iload dX8_type_50 (by first | rfl | assumption) ?_
      refine r_imul dX8_type_52 ?_
      refine r_lshr dX8_type_53 ?_
      refine r_l2i dX8_type_54 ?_
      refine r_i2b dX8_type_55 ?_
      refine r8_bast dX8_type_56 (by decide) (rfl) (by first | assumption | exact (show _ < 65536 by omega) | exact (show _ < 1100 by omega) | exact (show _ < 24 by omega) | exact (show _ < 2100 by omega) | exact (show _ < 6600 by omega) | exact (show _ < 1110 by omega)) ?_
      rw [Int8.toInt8_toInt32, ob_b, ty_b (by omega)]
      refine r_aload_n dX8_type_57 (by first | rfl | assumption) ?_
      refine r_dup dX8_type_58 rfl ?_
      refine r8_get dX8_type_59 zf_X8_107 rfl ?_
      refine r_ic (1) dX8_type_62 rfl ?_
      rw [show (rA r1 166 ys.length (sb_b (wB w k))).1 3 = nI ys.length from hT.1]
      refine r_iadd dX8_type_63 ?_
      rw [nI_1]
      refine r8_put dX8_type_64 zf_X8_107 (Nat.le_of_ble_eq_true rfl) rfl (⟨rfl, rfl⟩) ?_
      refine r_inc (nI k - 1) dX8_type_67 (by first | rfl | assumption) (by decide) (by first | assumption | exact z_c1_i (by first | rfl | assumption) | exact z_c1_r (by first | rfl | assumption) | exact z_c1_n (by first | rfl | assumption) | exact z_c1_c (by first | rfl | assumption) | exact z_c1_0 (by first | rfl | assumption)) (dec1 _) ?_
      refine r_goto (tgt := 34) dX8_type_70 (by decide) ?_
      refine ih _ (ys ++ [wB w k]) _ (by omega) (by rw [List.length_append]; show ys.length + 1 + k ≤ 512; omega) (by rw [List.append_assoc]; exact he) ⟨?_, ?_, fun j hj => ?_⟩ ((hx.tr (eqx.a (by decide))).tr (eqx.f (by decide))) hq l0 l1 l3 rfl
      · rw [List.length_append]; rfl
      · rw [List.length_append]; show ys.length + 1 ≤ 512; omega
      · rw [List.length_append] at hj
        have hj : j < ys.length + 1 := hj
        show _ ∧ (rA r1 166 ys.length (sb_b (wB w k))).2.1 166 j = _
        by_cases e : j = ys.length
        · rw [e, gD_r (Nat.le_refl _), Nat.sub_self, rA_at]
          exact ⟨ob_lt _, rfl⟩
        · rw [gD_l (by omega), rA_ne e]
          exact hT.2.2 j (by omega)
  have h90 : OR c g (rF r 0 0) := h9.t0
  have l27 : ¬ (1 ≤ n ∧ n ≤ 8 ∧ c.2.2.1.length + n.toBitVec.toNat ≤ 65536) → ∀ L : Nat → Option Value, Ru d mX8_type 27 L [] (RS S (rF r 0 0)) (z_en mX8_type (t8P S r c g w n)) := by
    intro q L
    refine r_ic (0) dX8_type_27 rfl ?_
    refine r_ireturn dX8_type_28 _ rfl rfl ?_
    exact ⟨_, rfl, rfl, Or.inl ⟨q, rfl, h90⟩⟩
  refine Rc.of ?_
  refine r_aload_n dX8_type_0 (by first | rfl | assumption) ?_
  refine r_ic (0) dX8_type_1 rfl ?_
  refine r8_put dX8_type_2 zf_X8_103 (Nat.le_of_ble_eq_true rfl) rfl (⟨rfl, rfl⟩) ?_
  refine r_iload_n dX8_type_5 (by first | rfl | assumption) ?_
  refine r_ic (1) dX8_type_6 rfl ?_
  by_cases q1 : 1 ≤ n
  · refine r_icmp_lt_f (tgt := 27) dX8_type_7 (by decide) (fun z => absurd z (Int32.not_lt.mpr q1)) ?_
    refine r_iload_n dX8_type_10 (by first | rfl | assumption) ?_
    refine r_bp (8) dX8_type_11 rfl ?_
    by_cases q2 : n ≤ 8
    · refine r_icmp_gt_f (tgt := 27) dX8_type_13 (by decide) (fun z => absurd z (Int32.not_lt.mpr q2)) ?_
      have hnn : n = nI n.toBitVec.toNat ∧ n.toBitVec.toNat ≤ 8 := by
        have a1 : (1 : Int) ≤ n.toBitVec.toInt := Int32.le_iff_toInt_le.mp q1
        have a2 : n.toBitVec.toInt ≤ 8 := Int32.le_iff_toInt_le.mp q2
        have : n.toBitVec.toNat ≤ 8 := by
          rw [BitVec.toInt_eq_toNat_cond] at a1 a2
          have := n.toBitVec.isLt
          split at a1 <;> omega
        refine ⟨?_, this⟩
        apply Int32.toBitVec_inj.mp
        show n.toBitVec = BitVec.ofNat 32 n.toBitVec.toNat
        simp
      refine r_aload_n dX8_type_16 (by first | rfl | assumption) ?_
      refine r8_get dX8_type_17 zf_X8_107 rfl ?_
      refine r_iload_n dX8_type_20 (by first | rfl | assumption) ?_
      rw [show (rF r 0 0).1 3 = nI c.2.2.1.length from t1]
      refine r_iadd dX8_type_21 ?_
      rw [show (nI c.2.2.1.length + n : Int32) = nI (c.2.2.1.length + n.toBitVec.toNat) from (congrArg (fun z => nI c.2.2.1.length + z) hnn.1).trans (nI_add _ _)]
      refine r_ldc dX8_type_22 zk_X8_9 ?_
      refine r_icmp_le_t (tgt := 29) dX8_type_24 (by decide) (nI_le (b := 65536) (by omega) (by decide)) ?_
      refine r_iload_n dX8_type_29 (by first | rfl | assumption) ?_
      refine r_ic (1) dX8_type_30 rfl ?_
      refine r_isub dX8_type_31 ?_
      refine r_istore dX8_type_32 (by decide) (by first | assumption | exact z_c1_i (by first | rfl | assumption) | exact z_c1_r (by first | rfl | assumption) | exact z_c1_n (by first | rfl | assumption) | exact z_c1_c (by first | rfl | assumption) | exact z_c1_0 (by first | rfl | assumption)) ?_
      refine loop n.toBitVec.toNat _ c.2.2.1 _ hnn.2 (by omega) rfl h90.1 (eqx.f (by decide)) ⟨q1, q2, by omega⟩ rfl rfl rfl ?_
      rw [← hnn.1]
      rfl
    · refine r_icmp_gt_t (tgt := 27) dX8_type_13 (by decide) (Int32.not_le.mp q2) ?_
      exact l27 (fun z => q2 z.2.1) _
  · refine r_icmp_lt_t (tgt := 27) dX8_type_7 (by decide) (Int32.not_le.mp q1) ?_
    exact l27 (fun z => q1 z.1) _
end
