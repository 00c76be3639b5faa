/-! THE REFERENCE: what it answers; a beginning -/
section
variable {d : Nat} {S : zS} {r : zR} {c : zD} {g : zG}
theorem OR.t0 (h : OR c g r) {x : Int32} : OR c g (rF r 0 x) := by
  obtain ⟨h1, h2, h3, h4, h5, h6, h7, h8⟩ := h
  have hx : eqx [0] [] r (rF r 0 x) := eqx.f (by decide)
  exact ⟨h1, h2, h3, h4, fun z => ⟨(h5 z).1, (h5 z).2.1.mv hx (by decide) (fun x hx => by cases hx), (h5 z).2.2⟩, h6, fun z => ⟨(h7 z).1, (h7 z).2.1.mv hx (by decide) (by decide), (h7 z).2.2⟩, h8⟩
theorem C_X8_thrown : Rc d mX8_thrown [.ref 165] (RS S r) (fun v S1 => S1 = RS S r ∧ v = some (.int (r.1 0))) := by
  refine Rc.of ?_
  refine r_aload_n dX8_thrown_0 (by first | rfl | assumption) ?_
  refine r8_get dX8_thrown_1 zf_X8_103 rfl ?_
  refine r_ireturn dX8_thrown_4 _ rfl rfl ⟨rfl, rfl⟩
theorem C_X8_line (h : OR c g r) : Rc d mX8_line [.ref 165] (RS S r) (fun v S1 => S1 = RS S (rF r 0 0) ∧ v = some (.int (nI g.1.2.2.2.1))) := by
  refine Rc.of ?_
  refine r_aload_n dX8_line_0 (by first | rfl | assumption) ?_
  refine r_ic (0) dX8_line_1 rfl ?_
  refine r8_put dX8_line_2 zf_X8_103 (Nat.le_of_ble_eq_true rfl) rfl (⟨rfl, rfl⟩) ?_
  refine r_aload_n dX8_line_5 (by first | rfl | assumption) ?_
  refine r8_get dX8_line_6 zf_X8_305 rfl ?_
  rw [show (rF r 0 0).1 13 = nI g.1.2.2.2.1 from h.2.2.2.1]
  refine r_ireturn dX8_line_9 _ rfl rfl ⟨rfl, rfl⟩
theorem C_X8_fault (h : OR c g r) : Rc d mX8_fault [.ref 165] (RS S r) (fun v S1 => S1 = RS S (rF r 0 0) ∧ v = some (.int (nI g.1.2.2.2.2))) := by
  refine Rc.of ?_
  refine r_aload_n dX8_fault_0 (by first | rfl | assumption) ?_
  refine r_ic (0) dX8_fault_1 rfl ?_
  refine r8_put dX8_fault_2 zf_X8_103 (Nat.le_of_ble_eq_true rfl) rfl (⟨rfl, rfl⟩) ?_
  refine r_aload_n dX8_fault_5 (by first | rfl | assumption) ?_
  refine r8_get dX8_fault_6 zf_X8_142 rfl ?_
  rw [show (rF r 0 0).1 11 = nI g.1.2.2.2.2 from h.2.1]
  refine r_ireturn dX8_fault_9 _ rfl rfl ⟨rfl, rfl⟩
theorem C_X8_depth (h : OR c g r) : Rc d mX8_depth [.ref 165] (RS S r) (fun v S1 => S1 = RS S (rF r 0 0) ∧ v = some (.int (nI g.2.1))) := by
  refine Rc.of ?_
  refine r_aload_n dX8_depth_0 (by first | rfl | assumption) ?_
  refine r_ic (0) dX8_depth_1 rfl ?_
  refine r8_put dX8_depth_2 zf_X8_103 (Nat.le_of_ble_eq_true rfl) rfl (⟨rfl, rfl⟩) ?_
  refine r_aload_n dX8_depth_5 (by first | rfl | assumption) ?_
  refine r8_get dX8_depth_6 zf_X8_17 rfl ?_
  cases hq : c.2.2.2.2.2.1.1 with
  | true =>
    have h5 := h.2.2.2.2.1 hq
    rw [show (rF r 0 0).1 15 = 0 from h5.1]
    refine r_if_eq_t (tgt := 16) dX8_depth_9 (by decide) (rfl) ?_
    refine r_aload_n dX8_depth_16 (by first | rfl | assumption) ?_
    refine r8_get dX8_depth_17 zf_X8_139 rfl ?_
    rw [show (rF r 0 0).1 19 = nI g.2.1 from h5.2.1.2.2.2.2.2.2.1]
    refine r_ireturn dX8_depth_20 _ rfl rfl ⟨rfl, rfl⟩
  | false =>
    have h6 := h.2.2.2.2.2.1 hq
    rw [show (rF r 0 0).1 15 = 1 from h6.1]
    refine r_if_eq_f (tgt := 16) dX8_depth_9 (by decide) (by decide) ?_
    refine r_ic (0) dX8_depth_12 rfl ?_
    refine r_goto (tgt := 20) dX8_depth_13 (by decide) ?_
    refine r_ireturn dX8_depth_20 _ rfl rfl ⟨rfl, by rw [h6.2.1]; rfl⟩
theorem C_X8_octet {x : Int32} (h : OR c g r) : Rc d mX8_octet [.ref 165, .int x] (RS S r) (fun v S1 => S1 = RS S (rF r 0 0) ∧ v = some (.int (if c.2.2.2.2.2.1.2 = true then bAt g.2.2.2.2 x else -1))) := by
  refine Rc.of ?_
  refine r_aload_n dX8_octet_0 (by first | rfl | assumption) ?_
  refine r_ic (0) dX8_octet_1 rfl ?_
  refine r8_put dX8_octet_2 zf_X8_103 (Nat.le_of_ble_eq_true rfl) rfl (⟨rfl, rfl⟩) ?_
  refine r_aload_n dX8_octet_5 (by first | rfl | assumption) ?_
  refine r8_get dX8_octet_6 zf_X8_308 rfl ?_
  cases hq : c.2.2.2.2.2.1.2 with
  | false =>
    have h8 := h.2.2.2.2.2.2.2 hq
    rw [show (rF r 0 0).1 16 = 0 from h8]
    refine r_if_eq_t (tgt := 37) dX8_octet_9 (by decide) (rfl) ?_
    refine r_ic (-1) dX8_octet_37 rfl ?_
    refine r_ireturn dX8_octet_38 _ rfl rfl ⟨rfl, rfl⟩
  | true =>
    obtain ⟨h7, hL, hl⟩ := h.2.2.2.2.2.2.1 hq
    rw [show (rF r 0 0).1 16 = 1 from h7]
    refine r_if_eq_f (tgt := 37) dX8_octet_9 (by decide) (by decide) ?_
    refine r_iload_n dX8_octet_12 (by first | rfl | assumption) ?_
    rw [if_pos rfl]
    by_cases q1 : x < 0
    · refine r_if_lt_t (tgt := 37) dX8_octet_13 (by decide) (q1) ?_
      refine r_ic (-1) dX8_octet_37 rfl ?_
      refine r_ireturn dX8_octet_38 _ rfl rfl ⟨rfl, by unfold bAt; rw [if_pos q1]⟩
    refine r_if_lt_f (tgt := 37) dX8_octet_13 (by decide) (q1) ?_
    refine r_iload_n dX8_octet_16 (by first | rfl | assumption) ?_
    refine r_aload_n dX8_octet_17 (by first | rfl | assumption) ?_
    refine r8_get dX8_octet_18 zf_X8_199 rfl ?_
    rw [show (rF r 0 0).1 18 = nI g.2.2.2.2.length from hL.1]
    by_cases q2 : nI g.2.2.2.2.length ≤ x
    · refine r_icmp_ge_t (tgt := 37) dX8_octet_21 (by decide) (q2) ?_
      refine r_ic (-1) dX8_octet_37 rfl ?_
      refine r_ireturn dX8_octet_38 _ rfl rfl ⟨rfl, by unfold bAt; rw [if_neg q1, if_pos q2]⟩
    refine r_icmp_ge_f (tgt := 37) dX8_octet_21 (by decide) (q2) ?_
    obtain ⟨j, hj, rfl⟩ := nI_of q1
    have hjl : j < g.2.2.2.2.length := Nat.lt_of_not_le (fun z => q2 (nI_le z hj))
    have hb := hL.at hl hjl
    refine r_aload_n dX8_octet_24 (by first | rfl | assumption) ?_
    refine r8_get dX8_octet_25 zf_X8_21 rfl ?_
    refine r_iload_n dX8_octet_28 (by first | rfl | assumption) ?_
    refine r8_bald dX8_octet_29 (by decide) (rfl) (by first | assumption | exact (show _ < 65536 by omega) | exact (show _ < 1100 by omega) | exact (show _ < 24 by omega) | exact (show _ < 2100 by omega) | exact (show _ < 6600 by omega) | exact (show _ < 1110 by omega)) ?_
    rw [show (rF r 0 0).2.1 168 j = sb_b (g.2.2.2.2.getD j 0) from hb.2]
    refine r_sp (255) dX8_octet_30 rfl ?_
    refine r_iand dX8_octet_33 ?_
    rw [show (sb_b (g.2.2.2.2.getD j 0) &&& 255 : Int32) = nI (g.2.2.2.2.getD j 0) from (sb_byte _ hb.1).1]
    refine r_goto (tgt := 38) dX8_octet_34 (by decide) ?_
    refine r_ireturn dX8_octet_38 _ rfl rfl ⟨rfl, by rw [bAt_in hjl (by omega)]⟩
set_option maxRecDepth 10000 in
set_option maxHeartbeats 1000000 in
theorem C_X8_nextEnd (h : OR c g r) (hq : c.2.2.2.2.2.1.1 = false) : Rc d mX8_next [.ref 165] (RS S r) (fun v S1 => v = some (.int (-1)) ∧ ∃ r', S1 = RS S r' ∧ r'.1 0 = 0 ∧ r'.2.2 241 = r.2.2 241 ∧ OR (cRp c (false, false)) g r') := by
  obtain ⟨h1, h2, h3, h4, h5, h6, h7, h8⟩ := h
  obtain ⟨k1, k2, k3, k4⟩ := h6 hq
  refine Rc.of ?_
  refine r_aload_n dX8_next_0 (by first | rfl | assumption) ?_
  refine r_ic (0) dX8_next_1 rfl ?_
  refine r8_put dX8_next_2 zf_X8_103 (Nat.le_of_ble_eq_true rfl) rfl (⟨rfl, rfl⟩) ?_
  refine r_aload_n dX8_next_5 (by first | rfl | assumption) ?_
  refine r_ic (0) dX8_next_6 rfl ?_
  refine r8_put dX8_next_7 zf_X8_308 (Nat.le_of_ble_eq_true rfl) rfl (⟨rfl, rfl⟩) ?_
  refine r_aload_n dX8_next_10 (by first | rfl | assumption) ?_
  refine r8_get dX8_next_11 zf_X8_17 rfl ?_
  rw [show (rF (rF r 0 0) 16 0).1 15 = 1 from k1]
  refine r_if_eq_f (tgt := 38) dX8_next_14 (by decide) (by decide) ?_
  refine r_aload_n dX8_next_17 (by first | rfl | assumption) ?_
  refine r_aload_n dX8_next_18 (by first | rfl | assumption) ?_
  refine r8_get dX8_next_19 zf_X8_142 rfl ?_
  rw [show (rF (rF r 0 0) 16 0).1 11 = nI g.1.2.2.2.2 from h2]
  by_cases q : g.1.2.2.2.2 = 0
  · refine r_if_ne_f (tgt := 29) dX8_next_22 (by decide) (by rw [q]; rfl) ?_
    refine r_ic (0) dX8_next_25 rfl ?_
    refine r_goto (tgt := 33) dX8_next_26 (by decide) ?_
    refine r8_put dX8_next_33 zf_X8_305 (Nat.le_of_ble_eq_true rfl) rfl (⟨rfl, rfl⟩) ?_
    refine r_ic (-1) dX8_next_36 rfl ?_
    refine r_ireturn dX8_next_37 _ rfl rfl ⟨rfl, _, rfl, rfl, rfl, ⟨h1, h2, h3, by rw [k3 q]; rfl, fun z => (by cases z), fun _ => ⟨k1, k2, k3, fun z => absurd q z⟩, fun z => (by cases z), fun _ => rfl⟩⟩
  · refine r_if_ne_t (tgt := 29) dX8_next_22 (by decide) (nI_ne0 (Nat.pos_of_ne_zero q) (by omega)) ?_
    refine r_aload_n dX8_next_29 (by first | rfl | assumption) ?_
    refine r8_get dX8_next_30 zf_X8_149 rfl ?_
    refine r8_put dX8_next_33 zf_X8_305 (Nat.le_of_ble_eq_true rfl) rfl (⟨rfl, rfl⟩) ?_
    refine r_ic (-1) dX8_next_36 rfl ?_
    refine r_ireturn dX8_next_37 _ rfl rfl ⟨rfl, _, rfl, rfl, rfl, ⟨h1, h2, h3, k4 q, fun z => (by cases z), fun _ => ⟨k1, k2, k3, k4⟩, fun z => (by cases z), fun _ => rfl⟩⟩
set_option maxRecDepth 10000 in
set_option maxHeartbeats 2000000 in
theorem C_X8_begin {la : Int32 × Value × Nat} (h : OR c g r) : Rc (d + 2) mX8_begin [.ref 165] (RS S r) (fun v S1 => v = some (.int (nI (lnz c.2.2.1).length)) ∧ ∃ r', S1 = RS S r' ∧ r'.2.2 241 = r.2.2 241 ∧ OR (cBg c la) (gBg g) r') := by
  obtain ⟨⟨t1, t2, t3⟩, -⟩ := h
  have loop : ∀ (m k : Nat) (r1 : zR) (L : Nat → Option Value), k + m = c.2.2.1.length → eqx [0] [167] r r1 → r1.1 0 = 0 → (∀ j, j < k → r1.2.1 167 j = sb_b (c.2.2.1.getD j 0)) → L 0 = some (.ref 165) → L 1 = some (.int (nI k)) → Ru (d + 2) mX8_begin 7 L [] (RS S r1) (z_en mX8_begin (fun v S1 => v = some (.int (nI (lnz c.2.2.1).length)) ∧ ∃ r', S1 = RS S r' ∧ r'.2.2 241 = r.2.2 241 ∧ OR (cBg c la) (gBg g) r')) := by
    intro m
    induction m with
    | zero =>
      intro k r1 L hm hx h0 hk l0 l1
      have h3 : r1.1 3 = nI c.2.2.1.length := (hx.1 3 (by decide)).trans t1
      refine r_iload_n dX8_begin_7 (by first | rfl | assumption) ?_
      refine r_aload_n dX8_begin_8 (by first | rfl | assumption) ?_
      refine r8_get dX8_begin_9 zf_X8_107 rfl ?_
      rw [h3]
      refine r_icmp_ge_t (tgt := 33) dX8_begin_12 (by decide) (nI_le (a := c.2.2.1.length) (b := k) (by omega) (by omega)) ?_
      refine r_aload_n dX8_begin_33 (by first | rfl | assumption) ?_
      refine r_aload_n dX8_begin_34 (by first | rfl | assumption) ?_
      refine r8_get dX8_begin_35 zf_X8_107 rfl ?_
      rw [h3]
      refine r8_put dX8_begin_38 zf_X8_160 (Nat.le_of_ble_eq_true rfl) rfl (⟨rfl, rfl⟩) ?_
      refine r_aload_n dX8_begin_41 (by first | rfl | assumption) ?_
      refine r_ic (0) dX8_begin_42 rfl ?_
      refine r8_put dX8_begin_43 zf_X8_107 (Nat.le_of_ble_eq_true rfl) rfl (⟨rfl, rfl⟩) ?_
      refine r_aload_n dX8_begin_46 (by first | rfl | assumption) ?_
      refine r_ic (0) dX8_begin_47 rfl ?_
      refine r8_put dX8_begin_48 zf_X8_186 (Nat.le_of_ble_eq_true rfl) rfl (⟨rfl, rfl⟩) ?_
      refine r_aload_n dX8_begin_51 (by first | rfl | assumption) ?_
      refine r_ic (0) dX8_begin_52 rfl ?_
      refine r8_put dX8_begin_53 zf_X8_136 (Nat.le_of_ble_eq_true rfl) rfl (⟨rfl, rfl⟩) ?_
      refine r_aload_n dX8_begin_56 (by first | rfl | assumption) ?_
      refine r_ic (0) dX8_begin_57 rfl ?_
      refine r8_put dX8_begin_58 zf_X8_286 (Nat.le_of_ble_eq_true rfl) rfl (⟨rfl, rfl⟩) ?_
      refine r_aload_n dX8_begin_61 (by first | rfl | assumption) ?_
      refine r_ic (0) dX8_begin_62 rfl ?_
      refine r8_put dX8_begin_63 zf_X8_269 (Nat.le_of_ble_eq_true rfl) rfl (⟨rfl, rfl⟩) ?_
      refine r_aload_n dX8_begin_66 (by first | rfl | assumption) ?_
      refine r_ic (0) dX8_begin_67 rfl ?_
      refine r8_put dX8_begin_68 zf_X8_245 (Nat.le_of_ble_eq_true rfl) rfl (⟨rfl, rfl⟩) ?_
      refine r_aload_n dX8_begin_71 (by first | rfl | assumption) ?_
      refine r_ic (0) dX8_begin_72 rfl ?_
      refine r8_put dX8_begin_73 zf_X8_139 (Nat.le_of_ble_eq_true rfl) rfl (⟨rfl, rfl⟩) ?_
      refine r_aload_n dX8_begin_76 (by first | rfl | assumption) ?_
      refine r_ic (0) dX8_begin_77 rfl ?_
      refine r8_put dX8_begin_78 zf_X8_142 (Nat.le_of_ble_eq_true rfl) rfl (⟨rfl, rfl⟩) ?_
      refine r_aload_n dX8_begin_81 (by first | rfl | assumption) ?_
      refine r_ic (0) dX8_begin_82 rfl ?_
      refine r8_put dX8_begin_83 zf_X8_149 (Nat.le_of_ble_eq_true rfl) rfl (⟨rfl, rfl⟩) ?_
      refine r_aload_n dX8_begin_86 (by first | rfl | assumption) ?_
      refine r_ic (0) dX8_begin_87 rfl ?_
      refine r8_put dX8_begin_88 zf_X8_305 (Nat.le_of_ble_eq_true rfl) rfl (⟨rfl, rfl⟩) ?_
      refine r_aload_n dX8_begin_91 (by first | rfl | assumption) ?_
      refine r_ic (0) dX8_begin_92 rfl ?_
      refine r8_put dX8_begin_93 zf_X8_280 (Nat.le_of_ble_eq_true rfl) rfl (⟨rfl, rfl⟩) ?_
      refine r_aload_n dX8_begin_96 (by first | rfl | assumption) ?_
      refine r_ic (0) dX8_begin_97 rfl ?_
      refine r8_put dX8_begin_98 zf_X8_17 (Nat.le_of_ble_eq_true rfl) rfl (⟨rfl, rfl⟩) ?_
      refine r_aload_n dX8_begin_101 (by first | rfl | assumption) ?_
      refine r_ic (0) dX8_begin_102 rfl ?_
      refine r8_put dX8_begin_103 zf_X8_308 (Nat.le_of_ble_eq_true rfl) rfl (⟨rfl, rfl⟩) ?_
      generalize hrr : (rF (rF (rF (rF (rF (rF (rF (rF (rF (rF (rF (rF (rF (rF r1 4 (nI c.2.2.1.length)) 3 0) 5 0) 6 0) 9 0) 10 0) 33 0) 19 0) 11 0) 12 0) 13 0) 14 0) 15 0) 16 0) = r2
      have hT : TP r2 c.2.2.1 := by
        rw [← hrr]
        exact ⟨rfl, t2, fun j hj => ⟨(t3 j hj).1, hk j (by omega)⟩⟩
      have hv : r2.2.2 241 = r.2.2 241 := by rw [← hrr]; exact (hx.2 241 (by decide)).2
      have hf : r2.1 3 = 0 ∧ r2.1 5 = 0 ∧ r2.1 6 = 0 ∧ r2.1 9 = 0 ∧ r2.1 10 = 0 ∧ r2.1 33 = 0 ∧ r2.1 19 = 0 ∧ r2.1 11 = 0 ∧ r2.1 13 = 0 ∧ r2.1 14 = 0 ∧ r2.1 15 = 0 ∧ r2.1 16 = 0 := by
        rw [← hrr]
        exact ⟨rfl, rfl, rfl, rfl, rfl, rfl, rfl, rfl, rfl, rfl, rfl, rfl⟩
      obtain ⟨f3, f5, f6, f9, f10, f33, f19, f11, f13, f14, f15, f16⟩ := hf
      refine r_aload_n dX8_begin_106 (by first | rfl | assumption) ?_
      refine r_callV0 dX8_begin_107 zm_X8_311 RS_o rfl (Nat.le_of_ble_eq_true rfl) (Nat.le_of_ble_eq_true rfl) (C_X8_linesOfSource hT) (fun v S9 hv9 => ?_)
      obtain ⟨rfl, rfl⟩ := hv9
      have hil : iL (gBg g) = none := rfl
      have hlm : lim7 (cBg c la) (gBg g) = cnt (cBg c la) := rfl
      refine r_ireturn dX8_begin_110 _ rfl rfl ⟨rfl, r2, rfl, hv, ⟨f3, Nat.zero_le _, fun j hj => (by cases hj)⟩, f11, show 0 < 8 by decide, f13, fun _ => ⟨f15, ?_, ?_⟩, fun z => (by cases z), fun z => (by cases z), fun _ => f16⟩
      · refine ⟨hT, ⟨0, f5, Nat.zero_le _, by decide, fun z => ?_, fun z => ?_⟩, f6, f9, f10, f14, f19, Nat.zero_le _, fun j hj => absurd hj (Nat.not_lt_zero _), fun j hj => (by cases hj), f33, Nat.zero_le _, fun dd q hq => (by cases hq)⟩
        · have z : 0 < (lnz c.2.2.1).length := z
          have := (lnOK_get _ _ 0 (lnz_OK c.2.2.1) z).2.2.1 rfl
          show 0 = lo c.2.2.1 0
          unfold lo
          rw [if_pos z]
          exact this.symm
        · have z : 0 = (lnz c.2.2.1).length := z
          have h0 := lnz_OK c.2.2.1
          rw [List.length_eq_zero_iff.mp z.symm] at h0
          exact h0
      · exact ⟨Nat.zero_le _, fun j hj => absurd hj (Nat.not_lt_zero _), ⟨fun q hq => (by cases hq), fun j hj => absurd hj (Nat.not_lt_zero _)⟩, fun q hq => (by cases hq), ⟨Nat.le_refl _, Nat.zero_le _⟩, Nat.zero_le _, rfl, t2⟩
    | succ m ih =>
      intro k r1 L hm hx h0 hk l0 l1
      have h3 : r1.1 3 = nI c.2.2.1.length := (hx.1 3 (by decide)).trans t1
      refine r_iload_n dX8_begin_7 (by first | rfl | assumption) ?_
      refine r_aload_n dX8_begin_8 (by first | rfl | assumption) ?_
      refine r8_get dX8_begin_9 zf_X8_107 rfl ?_
      rw [h3]
      refine r_icmp_ge_f (tgt := 33) dX8_begin_12 (by decide) (nI_ge (a := k) (b := c.2.2.1.length) (by omega) (by omega)) ?_
      refine r_aload_n dX8_begin_15 (by first | rfl | assumption) ?_
      refine r8_get dX8_begin_16 zf_X8_14 rfl ?_
      refine r_iload_n dX8_begin_19 (by first | rfl | assumption) ?_
      refine r_aload_n dX8_begin_20 (by first | rfl | assumption) ?_
      refine r8_get dX8_begin_21 zf_X8_10 rfl ?_
      refine r_iload_n dX8_begin_24 (by first | rfl | assumption) ?_
      refine r8_bald dX8_begin_25 (by decide) (rfl) (by first | assumption | exact (show _ < 65536 by omega) | exact (show _ < 1100 by omega) | exact (show _ < 24 by omega) | exact (show _ < 2100 by omega) | exact (show _ < 6600 by omega) | exact (show _ < 1110 by omega)) ?_
      rw [(hx.2 166 (by decide)).1, (t3 k (by omega)).2]
      refine r8_bast dX8_begin_26 (by decide) (rfl) (by first | assumption | exact (show _ < 65536 by omega) | exact (show _ < 1100 by omega) | exact (show _ < 24 by omega) | exact (show _ < 2100 by omega) | exact (show _ < 6600 by omega) | exact (show _ < 1110 by omega)) ?_
      rw [sb_sb]
      refine r_inc (nI (k + 1)) dX8_begin_27 (by first | rfl | assumption) (by decide) (by first | assumption | exact z_c1_i (by first | rfl | assumption) | exact z_c1_r (by first | rfl | assumption) | exact z_c1_n (by first | rfl | assumption) | exact z_c1_c (by first | rfl | assumption) | exact z_c1_0 (by first | rfl | assumption)) (nI_1 _) ?_
      refine r_goto (tgt := 7) dX8_begin_30 (by decide) ?_
      refine ih (k + 1) _ _ (by omega) (hx.tr (eqx.a (by decide))) h0 (fun j hj => ?_) l0 rfl
      by_cases e : j = k
      · rw [e, rA_at]
      · rw [rA_ne e]; exact hk j (by omega)
  refine Rc.of ?_
  refine r_aload_n dX8_begin_0 (by first | rfl | assumption) ?_
  refine r_ic (0) dX8_begin_1 rfl ?_
  refine r8_put dX8_begin_2 zf_X8_103 (Nat.le_of_ble_eq_true rfl) rfl (⟨rfl, rfl⟩) ?_
  refine r_ic (0) dX8_begin_5 rfl ?_
  refine r_istore_n dX8_begin_6 (by decide) (by first | assumption | exact z_c1_i (by first | rfl | assumption) | exact z_c1_r (by first | rfl | assumption) | exact z_c1_n (by first | rfl | assumption) | exact z_c1_c (by first | rfl | assumption) | exact z_c1_0 (by first | rfl | assumption)) ?_
  exact loop c.2.2.1.length 0 _ _ (Nat.zero_add _) (eqx.f (by decide)) rfl (fun j hj => absurd hj (Nat.not_lt_zero _)) rfl rfl
end
