/-! THE LAW'S LOOP -/
theorem lw_cmp : ∀ L, L < 257 → ∀ k, k < 66 → ((nI L - 4 : Int32) < nI (4 * k) ↔ L < 4 * k + 4) := by decide +kernel
theorem and7 (x : Int32) : ∃ t, t < 8 ∧ (x &&& 7 : Int32) = nI t := by
  refine ⟨x.toBitVec.toNat % 8, Nat.mod_lt _ (by decide), ?_⟩
  apply Int32.toBitVec_inj.mp
  apply BitVec.eq_of_toNat_eq
  rw [Int32.toBitVec_and, BitVec.toNat_and]
  show x.toBitVec.toNat &&& 7 = (BitVec.ofNat 32 (x.toBitVec.toNat % 8)).toNat
  rw [BitVec.toNat_ofNat, show 7 = 2 ^ 3 - 1 by decide, Nat.and_two_pow_sub_one_eq_mod]
  omega
theorem cmp0 (x : Int64) : lg_cmp x x = 0 := by
  unfold lg_cmp
  rw [if_neg (Int64.lt_irrefl), if_pos rfl]
theorem ve_L {a b : Option Value} (h : a = b) : a = b := h
/-- where the law stands at the head of its loop -/
def LL (k : Nat) (L : Nat → Option Value) : Prop := L 0 = some (.retAddr 60) ∧ L 1 = some (.ref 1) ∧ L 2 = some (.ref 165) ∧ L 3 = some (.ref 241) ∧ L 4 = some (.int (nI (4 * k)))
/-- the calls of the law's own next: it returns what the class's next returns, or 1 where that throws -/
def NA (G : Nat → Nat → Nat → zL → List Value → zS → Prop) : Prop := ∀ (X Y : Nat) (L : Nat → Option Value) (S : zS) (o : zO) (v : Int32) (f : Nat → Int64), z_Ex 12 mX7_next 0 (lv_args 0 [.ref 1]) [] S o → z_rt mX7_next o.1 o.2.2.1 (some (.int v)) → S.2.2 1 = .inr (8, []) ∨ (∃ fs, S.2.2 1 = .inr (8, fs)) → o.2.2.2.2.2 241 = .inl (.long, 1, .inr (.inl f)) → LU G X Y 167 L [.int 0] (z_put o.2.2.2 241 (.inl (.long, 1, .inr (.inl (vp_updL f 0 v.toInt64))))) → LU G X Y 164 L [.ref 241, .ref 1] S
def NB (G : Nat → Nat → Nat → zL → List Value → zS → Prop) : Prop := ∀ (X Y : Nat) (L : Nat → Option Value) (S : zS) (lv1 : zL) (S1 : zS), z_Ex 12 mX7_next 0 (lv_args 0 [.ref 1]) [] S (105, lv1, [], S1) → (∃ fs, S.2.2 1 = .inr (8, fs)) → LU G (X + 1) (Y + 6) 167 L [.int 1] S1 → LU G X Y 164 L [.ref 241, .ref 1] S
section
variable {G : Nat → Nat → Nat → zL → List Value → zS → Prop} {Ln : Nat} {sx : Nat → Int32}
set_option maxRecDepth 10000 in
set_option maxHeartbeats 8000000 in
theorem law_loop (hG : LG G) (hLn : Ln ≤ 256)
    (hSl : ∀ (X Y pc : Nat) (L : Nat → Option Value) (st : List Value) (S : zS), decode mL_law.2.1 pc = .ok (.arraylength, 1) → LU G X Y (pc + 1) L (.int (nI Ln) :: st) S → LU G X Y pc L (.retAddr 60 :: st) S)
    (hSd : ∀ (X Y pc j : Nat) (L : Nat → Option Value) (st : List Value) (S : zS), decode mL_law.2.1 pc = .ok (.iaload, 1) → j < Ln → LU G X Y (pc + 1) L (.int (sx j) :: st) S → LU G X Y pc L (.int (nI j) :: .retAddr 60 :: st) S)
    (hEnd : ∀ (X Y : Nat) (L : Nat → Option Value) (S : zS), S.1 - 1 + X ≤ 600128 → S.2.1 + Y ≤ 7301098 → LU G X Y 277 L [.int 1] S)
    (hNA : NA G) (hNB : NB G) : ∀ (n k X Y : Nat) (L : Nat → Option Value) (S : zS), Ln ≤ 4 * k + 4 * n + 3 → 4 * k ≤ Ln + 3 → LL k L → IV k X Y S → LU G X Y 23 L [] S := by
  intro n
  induction n with
  | zero =>
    intro k X Y L S hn hk ⟨l0, l1, l2, l3, l4⟩ hI
    have hb := hI.bd (by omega)
    refine l_iload hG dL_law_23 (by first | rfl | assumption) ?_
    refine l_aload_nS hG dL_law_25 (by first | rfl | assumption) ?_
    refine hSl _ _ _ _ _ _ dL_law_26 ?_
    refine l_ic hG (4) dL_law_27 rfl ?_
    refine l_isub hG dL_law_28 ?_
    refine l_icmp_gt_t hG (tgt := 276) dL_law_29 (by decide) ((lw_cmp Ln (by omega) k (by omega)).mpr (by omega)) ?_
    refine l_ic hG (1) dL_law_276 rfl ?_
    exact hEnd _ _ _ _ hb.1 hb.2
  | succ n ih =>
    intro k X Y L S hn hk ⟨l0, l1, l2, l3, l4⟩ hI
    have hb := hI.bd (by omega)
    refine l_iload hG dL_law_23 (by first | rfl | assumption) ?_
    refine l_aload_nS hG dL_law_25 (by first | rfl | assumption) ?_
    refine hSl _ _ _ _ _ _ dL_law_26 ?_
    refine l_ic hG (4) dL_law_27 rfl ?_
    refine l_isub hG dL_law_28 ?_
    by_cases q : Ln < 4 * k + 4
    · refine l_icmp_gt_t hG (tgt := 276) dL_law_29 (by decide) ((lw_cmp Ln (by omega) k (by omega)).mpr q) ?_
      refine l_ic hG (1) dL_law_276 rfl ?_
      exact hEnd _ _ _ _ hb.1 hb.2
    refine l_icmp_gt_f hG (tgt := 276) dL_law_29 (by decide) (fun z => q ((lw_cmp Ln (by omega) k (by omega)).mp z)) ?_
    have fin : ∀ (X Y : Nat) (L : Nat → Option Value) (S : zS), LL k L → IV (k + 1) X Y S → LU G X Y 270 L [] S := by
      intro X Y L S ⟨m0, m1, m2, m3, m4⟩ hJ
      refine l_inc hG (nI (4 * (k + 1))) dL_law_270 (by first | rfl | assumption) (by decide) (by first | assumption | exact z_c1_i (by first | rfl | assumption) | exact z_c1_r (by first | rfl | assumption) | exact z_c1_n (by first | rfl | assumption) | exact z_c1_c (by first | rfl | assumption) | exact z_c1_0 (by first | rfl | assumption)) (by show nI (4 * k) + nI 4 = _; rw [nI_add]; rfl) ?_
      refine l_goto hG (tgt := 23) dL_law_273 (by decide) ?_
      exact ih (k + 1) X Y _ S (by omega) (by omega) ⟨m0, m1, m2, m3, rfl⟩ hJ
    refine l_aload_nS hG dL_law_32 (by first | rfl | assumption) ?_
    refine l_iload hG dL_law_33 (by first | rfl | assumption) ?_
    refine hSd _ _ _ _ _ _ _ dL_law_35 (by omega) ?_
    refine l_bp hG (7) dL_law_36 rfl ?_
    refine l_iand hG dL_law_38 ?_
    obtain ⟨t, ht, et⟩ := and7 (sx (4 * k))
    rw [et]
    have hI0 := hI
    obtain ⟨c, g, r, past, B0, C0, hJ, hO, hM, hP, hB, hC, hX, hY⟩ := hI
    have hrs := hJ.rs
    have hJ0 := hJ
    obtain ⟨E, lB, lI, B, C, h, hcap, hBB, hCC⟩ := hJ
    have hx := h.x0
    have w1 : (nI (4 * k) + 1 : Int32) = nI (4 * k + 1) := nI_1 _
    have w2 : (nI (4 * k) + 2 : Int32) = nI (4 * k + 2) := by show nI (4 * k) + nI 2 = _; rw [nI_add]
    have w3 : (nI (4 * k) + 3 : Int32) = nI (4 * k + 3) := by show nI (4 * k) + nI 3 = _; rw [nI_add]
    -- an end where only the reference changed
    have endR : ∀ (r' : zR) (L : Nat → Option Value), LL k L → OR c g r' → LU G X Y 270 L [] (RS S r') := fun r' L hl ho => fin X Y L _ hl ⟨c, g, r', past, B0, C0, hJ0.rs2, ho, hM, by omega, hB, hC, by omega, by omega⟩
    have hll : LL k L := ⟨l0, l1, l2, l3, l4⟩
    have h165 : ∀ (S : zS) (r : zR), S = RS S r → S.2.2 165 = .inr (9, fl r.1) := fun S r e => by rw [e]; rfl
    rcases (show t = 0 ∨ t = 1 ∨ t = 2 ∨ t = 3 ∨ t = 4 ∨ t = 5 ∨ t = 6 ∨ t = 7 by omega) with rfl | rfl | rfl | rfl | rfl | rfl | rfl | rfl
    · -- type
      refine l_tableIn hG (tgt := 80) dL_law_39 (by decide) (by decide) rfl (by decide) ?_
      refine l_aload_n hG dL_law_80 (by first | rfl | assumption) ?_
      refine l_aload_nS hG dL_law_81 (by first | rfl | assumption) ?_
      refine l_iload hG dL_law_82 (by first | rfl | assumption) ?_
      refine l_ic hG (1) dL_law_84 rfl ?_
      refine l_iadd hG dL_law_85 ?_
      rw [w1]
      refine hSd _ _ _ _ _ _ _ dL_law_86 (by omega) ?_
      refine l_i2l hG dL_law_87 ?_
      refine l_bp hG (32) dL_law_88 rfl ?_
      refine l_lshl hG dL_law_90 ?_
      refine l_aload_nS hG dL_law_91 (by first | rfl | assumption) ?_
      refine l_iload hG dL_law_92 (by first | rfl | assumption) ?_
      refine l_ic hG (2) dL_law_94 rfl ?_
      refine l_iadd hG dL_law_95 ?_
      rw [w2]
      refine hSd _ _ _ _ _ _ _ dL_law_96 (by omega) ?_
      refine l_i2l hG dL_law_97 ?_
      refine l_ldc2 hG dL_law_98 zk_L_19 ?_
      refine l_land hG dL_law_101 ?_
      refine l_lor hG dL_law_102 ?_
      refine l_aload_nS hG dL_law_103 (by first | rfl | assumption) ?_
      refine l_iload hG dL_law_104 (by first | rfl | assumption) ?_
      refine l_ic hG (3) dL_law_106 rfl ?_
      refine l_iadd hG dL_law_107 ?_
      rw [w3]
      refine hSd _ _ _ _ _ _ _ dL_law_108 (by omega) ?_
      generalize hw : ((sx (4 * k + 1)).toInt64 <<< ((32 : Int32).toInt64 &&& 63) ||| (sx (4 * k + 2)).toInt64 &&& 4294967295 : Int64) = w
      generalize hnn : sx (4 * k + 3) = nn
      refine l_callV2 hG dL_law_109 zm_L_21 (by assumption) rfl (Nat.le_of_ble_eq_true rfl) (Nat.le_of_ble_eq_true rfl) (C_X7_type (d := 9) (w := w) (n := nn) h) (fun v S1 hv => ?_)
      have hvv : ∃ b : Bool, v = some (.int (bI b)) ∧ ((1 ≤ nn ∧ nn ≤ 8 ∧ c.2.2.1.length + nn.toBitVec.toNat ≤ 65536) ↔ b = true) ∧ ∃ E1, XI S1 E1 lB lI B C (rC r) 77 (if b = true then cTx c (c.2.2.1 ++ tyB w nn.toBitVec.toNat) else c) g := by
        rcases hv with ⟨q1, rfl, rfl⟩ | ⟨q1, rfl, E1, q2⟩
        · exact ⟨false, rfl, ⟨fun z => absurd z q1, fun z => (by cases z)⟩, E, h⟩
        · exact ⟨true, rfl, ⟨fun _ => rfl, fun _ => q1⟩, E1, q2⟩
      obtain ⟨b, rfl, hbq, E1, h1⟩ := hvv
      have hrs1 := h1.rs
      have h1o := h165 S1 r hrs1
      refine l_aload_n hG dL_law_112 (by first | rfl | assumption) ?_
      refine l_aload_nS hG dL_law_113 (by first | rfl | assumption) ?_
      refine l_iload hG dL_law_114 (by first | rfl | assumption) ?_
      refine l_ic hG (1) dL_law_116 rfl ?_
      refine l_iadd hG dL_law_117 ?_
      rw [w1]
      refine hSd _ _ _ _ _ _ _ dL_law_118 (by omega) ?_
      refine l_i2l hG dL_law_119 ?_
      refine l_bp hG (32) dL_law_120 rfl ?_
      refine l_lshl hG dL_law_122 ?_
      refine l_aload_nS hG dL_law_123 (by first | rfl | assumption) ?_
      refine l_iload hG dL_law_124 (by first | rfl | assumption) ?_
      refine l_ic hG (2) dL_law_126 rfl ?_
      refine l_iadd hG dL_law_127 ?_
      rw [w2]
      refine hSd _ _ _ _ _ _ _ dL_law_128 (by omega) ?_
      refine l_i2l hG dL_law_129 ?_
      refine l_ldc2 hG dL_law_130 zk_L_19 ?_
      refine l_land hG dL_law_133 ?_
      refine l_lor hG dL_law_134 ?_
      refine l_aload_nS hG dL_law_135 (by first | rfl | assumption) ?_
      refine l_iload hG dL_law_136 (by first | rfl | assumption) ?_
      refine l_ic hG (3) dL_law_138 rfl ?_
      refine l_iadd hG dL_law_139 ?_
      rw [w3]
      refine hSd _ _ _ _ _ _ _ dL_law_140 (by omega) ?_
      rw [hw, hnn]
      have c8 := C_X8_type (d := 13) (S := S1) (w := w) (n := nn) hO (by omega)
      rw [← hrs1] at c8
      refine l_callV2 hG dL_law_141 zm_L_25 (by assumption) rfl (Nat.le_of_ble_eq_true rfl) (Nat.le_of_ble_eq_true rfl) (c8) (fun v2 S2 hv2 => ?_)
      obtain ⟨r', rfl, -, hv2⟩ := hv2
      have hv3 : v2 = some (.int (bI b)) ∧ OR (if b = true then cTx c (c.2.2.1 ++ tyB w nn.toBitVec.toNat) else c) g r' := by
        rcases hv2 with ⟨q1, rfl, q2⟩ | ⟨q1, rfl, q2⟩
        · cases b with
          | true => exact absurd (hbq.mpr rfl) q1
          | false => exact ⟨rfl, q2⟩
        · rw [hbq.mp q1]; exact ⟨rfl, q2⟩
      obtain ⟨rfl, hO2⟩ := hv3
      refine l_icmp_eq_t hG (tgt := 270) dL_law_144 (by decide) (rfl) ?_
      have hlen : (tyB w nn.toBitVec.toNat).length = nn.toBitVec.toNat := by
        have : ∀ j, (tyB w j).length = j := fun j => by
          induction j with
          | zero => rfl
          | succ j ih => show (wB w j :: tyB w j).length = _; rw [List.length_cons, ih]
        exact this _
      refine fin X Y _ _ hll ⟨if b = true then cTx c (c.2.2.1 ++ tyB w nn.toBitVec.toNat) else c, g, r', past, B0, C0, ⟨E1, lB, lI, B, C, h1.rs2, ?_⟩, hO2, ?_, ?_, hB, hC, by omega, by omega⟩
      · cases b <;> exact ⟨hcap, hBB, hCC⟩
      · cases b <;> exact hM
      · cases b with
        | false => show past + c.2.1.length + c.2.2.1.length ≤ _; omega
        | true =>
          have hn8 : nn.toBitVec.toNat ≤ 8 := by
            obtain ⟨q1, q2, -⟩ := hbq.mpr rfl
            have a1 : (1 : Int) ≤ nn.toBitVec.toInt := Int32.le_iff_toInt_le.mp q1
            have a2 : nn.toBitVec.toInt ≤ 8 := Int32.le_iff_toInt_le.mp q2
            rw [BitVec.toInt_eq_toNat_cond] at a1 a2
            have := nn.toBitVec.isLt
            split at a1 <;> omega
          show past + c.2.1.length + (c.2.2.1 ++ tyB w nn.toBitVec.toNat).length ≤ _
          rw [List.length_append, hlen]
          omega
    · -- begin
      refine l_tableIn hG (tgt := 149) dL_law_39 (by decide) (by decide) rfl (by decide) ?_
      refine l_aload_n hG dL_law_149 (by first | rfl | assumption) ?_
      refine l_callV0 hG dL_law_150 zm_L_26 (by assumption) rfl (Nat.le_of_ble_eq_true rfl) (Nat.le_of_ble_eq_true rfl) (C_X7_begin (d := 4) h) (fun v S1 hv => ?_)
      obtain ⟨rfl, E1, mc, h1⟩ := hv
      have hrs1 := h1.rs
      have h1o := h165 S1 r hrs1
      refine l_aload_n hG dL_law_153 (by first | rfl | assumption) ?_
      have c8 := C_X8_begin (d := 11) (S := S1) (la := (mc, c.2.2.2.2.2.2.2)) hO
      rw [← hrs1] at c8
      refine l_callV0 hG dL_law_154 zm_L_29 (by assumption) rfl (Nat.le_of_ble_eq_true rfl) (Nat.le_of_ble_eq_true rfl) (c8) (fun v2 S2 hv2 => ?_)
      obtain ⟨rfl, r', rfl, -, hO2⟩ := hv2
      refine l_icmp_eq_t hG (tgt := 270) dL_law_157 (by decide) (rfl) ?_
      have hmk := hM.k
      refine fin X Y _ _ hll ⟨cBg c (mc, c.2.2.2.2.2.2.2), gBg g, r', past + c.2.1.length, B0 + kS g.2.2.2.1, C0 + kC g.2.2.2.1, ⟨E1, lB, lI, B, C, h1.rs2, hcap, hBB, hCC⟩, hO2, ⟨Nat.zero_le _, fun q hq => (by cases hq)⟩, ?_, by omega, by omega, by omega, by omega⟩
      show past + c.2.1.length + c.2.2.1.length + 0 ≤ _
      omega
    · -- next
      refine l_tableIn hG (tgt := 162) dL_law_39 (by decide) (by decide) rfl (by decide) ?_
      refine l_aload_n hG dL_law_162 (by first | rfl | assumption) ?_
      refine l_aload_n hG dL_law_163 (by first | rfl | assumption) ?_
      have hWF : c.2.2.2.2.2.1.1 = true → WF c g := fun z => (hO.2.2.2.2.1 z).2.2
      obtain ⟨⟨p1, lv1, st1, S1⟩, hEx, hnx⟩ := C_X7_next (d := 1) hJ0 hWF (lv_args 0 [.ref 1]) (z_lf_mem _)
      have hnx : nxQ (rC r) 77 c g B0 C0 p1 st1 S1 := hnx
      -- behind a next that returned v in both
      have back : ∀ (v : Int32) (S2 : zS) (c2 : zD) (g2 : zG) (Q8 : Option Value → zS → Prop), z_rt mX7_next p1 st1 (some (.int v)) → S1 = S2 → XJ S2 (rC r) 77 c2 g2 B0 C0 → MB c2 g2 → c2.2.1 = c.2.1 → c2.2.2.1 = c.2.2.1 → (∀ r1 : zR, r1.1 = r.1 → r1.2.1 = r.2.1 → Rc 13 mX8_next [.ref 165] (RS S2 r1) (fun v8 S8 => v8 = some (.int v) ∧ ∃ r', S8 = RS S2 r' ∧ r'.1 0 = 0 ∧ r'.2.2 241 = r1.2.2 241 ∧ OR c2 g2 r')) → LU G X Y 164 L [.ref 241, .ref 1] S := by
        intro v S2 c2 g2 Q8 hrt eS hJ2 hM2 e1 e2 h8
        subst eS
        have hs2 := hJ2.rs
        refine hNA X Y L S (p1, lv1, st1, S1) v (r.2.2 241) hEx hrt (Or.inr ⟨_, hx⟩) (by show S1.2.2 241 = _; rw [hs2]; rfl) ?_
        have ep : z_put S1 241 (.inl (.long, 1, .inr (.inl (vp_updL (r.2.2 241) 0 v.toInt64)))) = RS S1 (r.1, r.2.1, va_up r.2.2 241 (vp_updL (r.2.2 241) 0 v.toInt64)) := by
          have := RS_pV (S := S1) (r := r) (c := 241) (g := vp_updL (r.2.2 241) 0 v.toInt64) (Or.inr rfl)
          rw [← hs2] at this
          exact this
        show LU G X Y 167 L [.int 0] (z_put S1 241 (.inl (.long, 1, .inr (.inl (vp_updL (r.2.2 241) 0 v.toInt64)))))
        rw [ep]
        have h1o : (RS S1 (r.1, r.2.1, va_up r.2.2 241 (vp_updL (r.2.2 241) 0 v.toInt64))).2.2 165 = .inr (9, fl r.1) := rfl
        refine l_istore hG dL_law_167 (by decide) (by first | assumption | exact z_c1_i (by first | rfl | assumption) | exact z_c1_r (by first | rfl | assumption) | exact z_c1_n (by first | rfl | assumption) | exact z_c1_c (by first | rfl | assumption) | exact z_c1_0 (by first | rfl | assumption)) ?_
        refine l_aload_n hG dL_law_169 (by first | rfl | assumption) ?_
        refine l_callV0 hG dL_law_170 zm_L_35 (by assumption) rfl (Nat.le_of_ble_eq_true rfl) (Nat.le_of_ble_eq_true rfl) (h8 (r.1, r.2.1, va_up r.2.2 241 (vp_updL (r.2.2 241) 0 v.toInt64)) rfl rfl) (fun v8 S8 hv8 => ?_)
        obtain ⟨rfl, r', rfl, hr0, hr1, hO2⟩ := hv8
        have h2o : (RS S1 r').2.2 165 = .inr (9, fl r'.1) := rfl
        refine l_istore hG dL_law_173 (by decide) (by first | assumption | exact z_c1_i (by first | rfl | assumption) | exact z_c1_r (by first | rfl | assumption) | exact z_c1_n (by first | rfl | assumption) | exact z_c1_c (by first | rfl | assumption) | exact z_c1_0 (by first | rfl | assumption)) ?_
        refine l_aload_n hG dL_law_175 (by first | rfl | assumption) ?_
        refine l_callV0 hG dL_law_176 zm_L_36 (by assumption) rfl (Nat.le_of_ble_eq_true rfl) (Nat.le_of_ble_eq_true rfl) (C_X8_thrown (d := 13) (S := S1) (r := r')) (fun v9 S9 hv9 => ?_)
        obtain ⟨rfl, rfl⟩ := hv9
        rw [hr0]
        refine l_iload hG dL_law_179 (by first | rfl | assumption) ?_
        refine l_icmp_eq_t hG (tgt := 186) dL_law_181 (by decide) (rfl) ?_
        refine l_iload hG dL_law_186 (by first | rfl | assumption) ?_
        refine l_if_ne_f hG (tgt := 203) dL_law_188 (by decide) (rfl) ?_
        refine l_aload_n hG dL_law_191 (by first | rfl | assumption) ?_
        refine l_ic hG (0) dL_law_192 rfl ?_
        have h241 : (RS S1 r').2.2 241 = .inl (.long, 1, .inr (.inl (r'.2.2 241))) := rfl
        refine l_lald hG dL_law_193 h241 (vp_in_nI (n := 0) (by decide) (by decide)) ?_
        rw [show r'.2.2 241 (0 : Int32).toNatClampNeg = v.toInt64 by rw [hr1]; show va_up r.2.2 241 (vp_updL (r.2.2 241) 0 v.toInt64) 241 0 = _; rw [va_up_self]; rfl]
        refine l_iload hG dL_law_194 (by first | rfl | assumption) ?_
        refine l_i2l hG dL_law_196 ?_
        refine l_lcmp hG dL_law_197 ?_
        rw [cmp0]
        refine l_if_eq_t hG (tgt := 203) dL_law_198 (by decide) (rfl) ?_
        refine l_goto hG (tgt := 270) dL_law_203 (by decide) ?_
        refine fin X Y _ _ ⟨l0, l1, l2, l3, l4⟩ ⟨c2, g2, r', past, B0, C0, hJ2.rs2, hO2, hM2, by rw [e1, e2]; omega, hB, hC, by omega, by omega⟩
      rcases hnx with ⟨hrd, rr, hrt, rfl, hJ2⟩ | ⟨hrd, c1, g1, hrn, hw1, rr, hrt, rfl, hJ2⟩ | ⟨hrd, c1, g1, hrn, ⟨hf, hp5, hs5, hJ2⟩ | ⟨hf, rr, hrt, rfl, hJ2⟩⟩
      · refine back (-1) S1 (cRp c (false, false)) g (fun _ _ => True) hrt rfl hJ2 hM rfl rfl (fun r1 e1 e2 => ?_)
        have hO1 : OR c g r1 := by obtain ⟨r10, r11, r12⟩ := r1; cases e1; cases e2; exact hO
        refine (C_X8_nextEnd (d := 13) (S := S1) hO1 hrd).mono (fun v9 S9 hv9 => ?_)
        obtain ⟨rfl, r', rfl, q1, q2, q3⟩ := hv9
        exact ⟨rfl, r', rfl, q1, q2, q3⟩
      · have ec := rnR_c hrn.choose _ _ hrn.choose_spec
        refine back (nI g1.2.2.2.2.length) S1 (cRp c1 (true, true)) g1 (fun _ _ => True) hrt rfl hJ2 hw1.mb ec.1 ec.2 (fun r1 e1 e2 => ?_)
        have hO1 : OR c g r1 := by obtain ⟨r10, r11, r12⟩ := r1; cases e1; cases e2; exact hO
        refine (C_X8_next (d := 4) (S := S1) hO1 hrd hrn (Or.inl rfl)).mono (fun v9 S9 hv9 => ?_)
        obtain ⟨r', rfl, q0, ⟨-, rfl, q1, q2⟩ | ⟨z, -⟩ | ⟨z, -⟩⟩ := hv9
        · exact ⟨rfl, r', rfl, q1, q0, q2⟩
        · cases z
        · cases z
      · have ec := rnR_c hrn.choose _ _ hrn.choose_spec
        have hmb : MB c1 g1 := rn_mb hrn.choose _ _ hrn.choose_spec ((hWF hrd).cg rfl)
        subst hp5
        subst hs5
        have hs2 := hJ2.rs
        have h1o := h165 S1 r hs2
        refine hNB X Y L S lv1 S1 hEx ⟨_, hx⟩ ?_
        refine l_istore hG dL_law_167 (by decide) (by first | assumption | exact z_c1_i (by first | rfl | assumption) | exact z_c1_r (by first | rfl | assumption) | exact z_c1_n (by first | rfl | assumption) | exact z_c1_c (by first | rfl | assumption) | exact z_c1_0 (by first | rfl | assumption)) ?_
        refine l_aload_n hG dL_law_169 (by first | rfl | assumption) ?_
        have c8 := C_X8_next (d := 4) (S := S1) hO hrd hrn (Or.inr rfl)
        rw [← hs2] at c8
        refine l_callV0 hG dL_law_170 zm_L_35 (by assumption) rfl (Nat.le_of_ble_eq_true rfl) (Nat.le_of_ble_eq_true rfl) (c8) (fun v8 S8 hv8 => ?_)
        obtain ⟨r', rfl, q0, ⟨z, -⟩ | ⟨-, -, rfl, q1, hO2⟩ | ⟨-, z, -⟩⟩ := hv8
        · cases z
        · have h2o : (RS S1 r').2.2 165 = .inr (9, fl r'.1) := rfl
          refine l_istore hG dL_law_173 (by decide) (by first | assumption | exact z_c1_i (by first | rfl | assumption) | exact z_c1_r (by first | rfl | assumption) | exact z_c1_n (by first | rfl | assumption) | exact z_c1_c (by first | rfl | assumption) | exact z_c1_0 (by first | rfl | assumption)) ?_
          refine l_aload_n hG dL_law_175 (by first | rfl | assumption) ?_
          refine l_callV0 hG dL_law_176 zm_L_36 (by assumption) rfl (Nat.le_of_ble_eq_true rfl) (Nat.le_of_ble_eq_true rfl) (C_X8_thrown (d := 13) (S := S1) (r := r')) (fun v9 S9 hv9 => ?_)
          obtain ⟨rfl, rfl⟩ := hv9
          rw [q1]
          refine l_iload hG dL_law_179 (by first | rfl | assumption) ?_
          refine l_icmp_eq_t hG (tgt := 186) dL_law_181 (by decide) (rfl) ?_
          refine l_iload hG dL_law_186 (by first | rfl | assumption) ?_
          refine l_if_ne_t hG (tgt := 203) dL_law_188 (by decide) (by decide) ?_
          refine l_goto hG (tgt := 270) dL_law_203 (by decide) ?_
          refine fin (X + 1) (Y + 6) _ _ ⟨l0, l1, l2, l3, l4⟩ ⟨cRp c1 (false, false), gSz g1 0, r', past, B0, C0, hJ2.rs2, hO2, hmb, ?_, hB, hC, by omega, by omega⟩
          show past + c1.2.1.length + c1.2.2.1.length ≤ _
          rw [ec.1, ec.2]
          show past + c.2.1.length + c.2.2.1.length ≤ _
          omega
        · exact absurd z hf
      · have ec := rnR_c hrn.choose _ _ hrn.choose_spec
        have hmb : MB c1 g1 := rn_mb hrn.choose _ _ hrn.choose_spec ((hWF hrd).cg rfl)
        refine back (-1) S1 (cRp c1 (false, false)) (gTo (gSz g1 0) 0) (fun _ _ => True) hrt rfl hJ2 hmb ec.1 ec.2 (fun r1 e1 e2 => ?_)
        have hO1 : OR c g r1 := by obtain ⟨r10, r11, r12⟩ := r1; cases e1; cases e2; exact hO
        refine (C_X8_next (d := 4) (S := S1) hO1 hrd hrn (Or.inr rfl)).mono (fun v9 S9 hv9 => ?_)
        obtain ⟨r', rfl, q0, ⟨z, -⟩ | ⟨-, z, -⟩ | ⟨-, -, rfl, q1, q2⟩⟩ := hv9
        · cases z
        · exact absurd hf z
        · exact ⟨rfl, r', rfl, q1, q0, q2⟩
    · -- octet
      have h1o := h165 S r hrs
      refine l_tableIn hG (tgt := 206) dL_law_39 (by decide) (by decide) rfl (by decide) ?_
      refine l_aload_n hG dL_law_206 (by first | rfl | assumption) ?_
      refine l_aload_nS hG dL_law_207 (by first | rfl | assumption) ?_
      refine l_iload hG dL_law_208 (by first | rfl | assumption) ?_
      refine l_ic hG (1) dL_law_210 rfl ?_
      refine l_iadd hG dL_law_211 ?_
      rw [w1]
      refine hSd _ _ _ _ _ _ _ dL_law_212 (by omega) ?_
      refine l_callV1 hG dL_law_213 zm_L_39 (by assumption) rfl (Nat.le_of_ble_eq_true rfl) (Nat.le_of_ble_eq_true rfl) (C_X7_octet (d := 12) h) (fun v S1 hv => ?_)
      obtain ⟨hS1, rfl⟩ := hv
      subst hS1
      refine l_aload_n hG dL_law_216 (by first | rfl | assumption) ?_
      refine l_aload_nS hG dL_law_217 (by first | rfl | assumption) ?_
      refine l_iload hG dL_law_218 (by first | rfl | assumption) ?_
      refine l_ic hG (1) dL_law_220 rfl ?_
      refine l_iadd hG dL_law_221 ?_
      rw [w1]
      refine hSd _ _ _ _ _ _ _ dL_law_222 (by omega) ?_
      have c8 := C_X8_octet (d := 13) (S := S1) (x := sx (4 * k + 1)) hO
      rw [← hrs] at c8
      refine l_callV1 hG dL_law_223 zm_L_43 (by assumption) rfl (Nat.le_of_ble_eq_true rfl) (Nat.le_of_ble_eq_true rfl) (c8) (fun v2 S2 hv2 => ?_)
      obtain ⟨rfl, rfl⟩ := hv2
      refine l_icmp_eq_t hG (tgt := 270) dL_law_226 (by decide) (rfl) ?_
      exact endR _ _ hll hO.t0
    · -- line
      have h1o := h165 S r hrs
      refine l_tableIn hG (tgt := 231) dL_law_39 (by decide) (by decide) rfl (by decide) ?_
      refine l_aload_n hG dL_law_231 (by first | rfl | assumption) ?_
      refine l_callV0 hG dL_law_232 zm_L_44 (by assumption) rfl (Nat.le_of_ble_eq_true rfl) (Nat.le_of_ble_eq_true rfl) (C_X7_line (d := 13) h) (fun v S1 hv => ?_)
      obtain ⟨hS1, rfl⟩ := hv
      subst hS1
      refine l_aload_n hG dL_law_235 (by first | rfl | assumption) ?_
      have c8 := C_X8_line (d := 13) (S := S1) hO
      rw [← hrs] at c8
      refine l_callV0 hG dL_law_236 zm_L_47 (by assumption) rfl (Nat.le_of_ble_eq_true rfl) (Nat.le_of_ble_eq_true rfl) (c8) (fun v2 S2 hv2 => ?_)
      obtain ⟨rfl, rfl⟩ := hv2
      refine l_icmp_eq_t hG (tgt := 270) dL_law_239 (by decide) (rfl) ?_
      exact endR _ _ hll hO.t0
    · -- fault
      have h1o := h165 S r hrs
      refine l_tableIn hG (tgt := 244) dL_law_39 (by decide) (by decide) rfl (by decide) ?_
      refine l_aload_n hG dL_law_244 (by first | rfl | assumption) ?_
      refine l_callV0 hG dL_law_245 zm_L_48 (by assumption) rfl (Nat.le_of_ble_eq_true rfl) (Nat.le_of_ble_eq_true rfl) (C_X7_fault (d := 13) h) (fun v S1 hv => ?_)
      obtain ⟨hS1, rfl⟩ := hv
      subst hS1
      refine l_aload_n hG dL_law_248 (by first | rfl | assumption) ?_
      have c8 := C_X8_fault (d := 13) (S := S1) hO
      rw [← hrs] at c8
      refine l_callV0 hG dL_law_249 zm_L_51 (by assumption) rfl (Nat.le_of_ble_eq_true rfl) (Nat.le_of_ble_eq_true rfl) (c8) (fun v2 S2 hv2 => ?_)
      obtain ⟨rfl, rfl⟩ := hv2
      refine l_icmp_eq_t hG (tgt := 270) dL_law_252 (by decide) (rfl) ?_
      exact endR _ _ hll hO.t0
    · -- depth
      have h1o := h165 S r hrs
      refine l_tableIn hG (tgt := 257) dL_law_39 (by decide) (by decide) rfl (by decide) ?_
      refine l_aload_n hG dL_law_257 (by first | rfl | assumption) ?_
      refine l_callV0 hG dL_law_258 zm_L_52 (by assumption) rfl (Nat.le_of_ble_eq_true rfl) (Nat.le_of_ble_eq_true rfl) (C_X7_depth (d := 12) h) (fun v S1 hv => ?_)
      obtain ⟨hS1, rfl⟩ := hv
      subst hS1
      refine l_aload_n hG dL_law_261 (by first | rfl | assumption) ?_
      have c8 := C_X8_depth (d := 13) (S := S1) hO
      rw [← hrs] at c8
      refine l_callV0 hG dL_law_262 zm_L_55 (by assumption) rfl (Nat.le_of_ble_eq_true rfl) (Nat.le_of_ble_eq_true rfl) (c8) (fun v2 S2 hv2 => ?_)
      obtain ⟨rfl, rfl⟩ := hv2
      refine l_icmp_eq_t hG (tgt := 270) dL_law_265 (by decide) (rfl) ?_
      exact endR _ _ hll hO.t0
    · refine l_tableOut hG (tgt := 270) dL_law_39 (by decide) (by decide) ?_
      exact fin X Y _ _ hll ⟨c, g, r, past, B0, C0, hJ0, hO, hM, by omega, hB, hC, by omega, by omega⟩
end
