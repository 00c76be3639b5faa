/-! THE REFERENCE'S CONSTRUCTOR -/
def r00 : zR := (fun j => if j = 15 then 1 else 0, fun _ _ => 0, fun _ _ => 0)
def dX8 : List Value := [.int 0, .null, .null, .int 0, .int 0, .int 0, .int 0, .int 0, .int 0, .int 0, .int 0, .int 0, .int 0, .int 0, .int 0, .int 0, .int 0, .null, .int 0, .int 0, .null, .null, .null, .null, .null, .null, .null, .null, .null, .null, .null, .null, .null, .int 0, .null, .null, .null, .null, .null, .null, .null, .int 0, .null, .null, .null, .null, .int 0, .int 0, .int 0, .int 0]
/-- under way: cells up to n stand, m slots are used -/
def i8 (S0 S : zS) (n m : Nat) (fs : List Value) : Prop := S.1 = n ∧ S.2.1 = S0.2.1 + m ∧ S.2.2 165 = .inr (9, fs) ∧ (∀ j, j < 165 → S.2.2 j = S0.2.2 j) ∧ ∀ j, 166 ≤ j → j < n → S.2.2 j = rC r00 j
section
variable {d : Nat} {S0 S : zS} {n m N : Nat} {fs : List Value} {L : Nat → Option Value} {Q : Nat → List Value → zS → Prop} {pc : Nat}
theorem i8_F {idx i : Nat} {ty : FieldType} {c : zC} (h : i8 S0 S n m fs) (hn : 166 ≤ n) (hc : rC r00 n = c) (hd : decode cX8_init pc = .ok (.putfield idx, 3)) (hf : z_fO1 RX8 idx 9 i ty) (hi : i < fs.length) (hv : narrow ty (.ref n) = .ref n ∧ fits ty (.ref n) = true) (k : ∀ T, i8 S0 T (n + 1) (m + N) (fs.set i (.ref n)) → Ru d mX8_init (pc + 3) L [] T Q) : Ru d mX8_init pc L [.ref S.1, .ref 165] (z_new S c N) Q := by
  obtain ⟨h1, h2, h3, h4, h5⟩ := h
  rw [h1]
  refine r_putF hd hf (z_new_old h3 (by rw [h1]; omega)) hi hv rfl ?_
  refine k _ ⟨by show S.1 + 1 = _; rw [h1], by show S.2.1 + N = _; rw [h2, Nat.add_assoc], z_put_self, fun j hj => (va_up_ne _ _ (by omega)).trans ((va_up_ne _ _ (by rw [h1]; omega)).trans (h4 j hj)), fun j a b => ?_⟩
  refine (va_up_ne _ _ (by omega)).trans ?_
  by_cases e : j = n
  · rw [e, hc, ← h1]; exact z_new_at
  · exact (va_up_ne _ _ (by rw [h1]; exact e)).trans (h5 j a (by omega))
theorem i8_M {idx i K : Nat} {ty : FieldType} (h : i8 S0 S n m fs) (hn : 166 ≤ n) (hc : ∀ j, n ≤ j → j < n + 1 + N → rC r00 j = if j = n then .inl (.array ty, N, .inr (.inr (.inr (.inr (fun i => if i < N then some (n + 1 + i) else none))))) else .inl (ty, K, .inl (fun _ => 0))) (hd : decode cX8_init pc = .ok (.putfield idx, 3)) (hf : z_fO1 RX8 idx 9 i (.array (.array ty))) (hi : i < fs.length) (k : ∀ T, i8 S0 T (n + 1 + N) (m + N + N * K) (fs.set i (.ref n)) → Ru d mX8_init (pc + 3) L [] T Q) : Ru d mX8_init pc L [.ref S.1, .ref 165] (z_mna S ty N K) Q := by
  obtain ⟨h1, h2, h3, h4, h5⟩ := h
  rw [h1]
  refine r_putF hd hf ((z_mna_lo (by rw [h1]; omega)).trans h3) hi ⟨rfl, rfl⟩ rfl ?_
  refine k _ ⟨by show S.1 + 1 + N = _; rw [h1], by show S.2.1 + N + N * K = _; rw [h2]; omega, z_put_self, fun j hj => (va_up_ne _ _ (by omega)).trans ((z_mna_lo (by rw [h1]; omega)).trans (h4 j hj)), fun j a b => ?_⟩
  refine (va_up_ne _ _ (by omega)).trans ?_
  rcases Nat.lt_trichotomy j n with e | e | e
  · exact (z_mna_lo (by rw [h1]; exact e)).trans (h5 j a e)
  · rw [hc j (by omega) b, if_pos e, e, ← h1]; exact z_mna_at
  · rw [hc j (by omega) b, if_neg (by omega)]; exact z_mna_hi (by rw [h1]; exact e) (by rw [h1]; exact b)
theorem zl_X8_56 : Cond.classLink RX8 56 ("[" ++ (FieldType.array .byte).toString) ∈ z_tb ∧ Cond.arrayClass .byte ∈ z_tb ∧ Cond.arrayOver (.array .byte) ∈ tables_1 := ⟨List.mem_filter.mpr ⟨by decide +kernel, rfl⟩, z_ac_byte, by decide +kernel⟩
theorem zl_X8_61 : Cond.classLink RX8 61 ("[" ++ (FieldType.array .int).toString) ∈ z_tb ∧ Cond.arrayClass .int ∈ z_tb ∧ Cond.arrayOver (.array .int) ∈ tables_1 := ⟨List.mem_filter.mpr ⟨by decide +kernel, rfl⟩, z_ac_int, by decide +kernel⟩
theorem rc_B : ∀ j, 179 ≤ j → j < 179 + 1 + 24 → rC r00 j = if j = 179 then .inl (.array .byte, 24, .inr (.inr (.inr (.inr (fun i => if i < 24 then some (179 + 1 + i) else none))))) else .inl (.byte, 1100, .inl (fun _ => 0)) := by
  intro j h1 h2
  by_cases e : j = 179
  · rw [if_pos e, e]; rfl
  · rw [if_neg e, rC_a ⟨by omega, by omega, e, by omega⟩]
    unfold aTy aLn
    rw [if_neg (by omega), if_neg (by omega), if_pos ⟨by omega, by omega⟩, if_neg (by omega), if_neg (by omega), if_neg (by omega), if_pos (by omega)]
    rfl
theorem rc_I : ∀ j, 204 ≤ j → j < 204 + 1 + 24 → rC r00 j = if j = 204 then .inl (.array .int, 24, .inr (.inr (.inr (.inr (fun i => if i < 24 then some (204 + 1 + i) else none))))) else .inl (.int, 2100, .inl (fun _ => 0)) := by
  intro j h1 h2
  by_cases e : j = 204
  · rw [if_pos e, e]; rfl
  · rw [if_neg e, rC_a ⟨by omega, by omega, by omega, e⟩]
    unfold aTy aLn
    rw [if_neg (by omega), if_neg (by omega), if_neg (by omega), if_neg (by omega), if_neg (by omega), if_neg (by omega), if_neg (by omega), if_pos (by omega)]
    rfl
end
section
variable {d : Nat} {S : zS}
set_option maxRecDepth 20000 in
set_option maxHeartbeats 8000000 in
theorem C_X8_init (h : S.2.2 165 = .inr (9, dX8)) (hS : S.1 = 166) : Rc (d + 1) mX8_init [.ref 165] S (fun v S1 => v = none ∧ i8 S S1 241 259924 (fl r00.1)) := by
  have h0 : i8 S S 166 0 dX8 := ⟨hS, rfl, h, fun _ _ => rfl, fun j a b => absurd a (by omega)⟩
  refine Rc.of ?_
  refine r_aload_n dX8_init_0 (by first | rfl | assumption) ?_
  refine r_objInit dX8_init_1 zo_X8_1 (by decide) ?_
  refine r_aload_n dX8_init_4 (by first | rfl | assumption) ?_
  refine r_ldc dX8_init_5 zk_X8_9 ?_
  refine r_newb (N := 65536) dX8_init_7 (by decide) rfl (by decide) z_ac_byte ?_
  refine i8_F (m := 0) h0 (by decide) rfl dX8_init_9 zF_X8_10 (Nat.le_of_ble_eq_true rfl) ⟨rfl, rfl⟩ (fun T1 h1 => ?_)
  have h1 : i8 S T1 167 65536 _ := h1
  refine r_aload_n dX8_init_12 (by first | rfl | assumption) ?_
  refine r_ldc dX8_init_13 zk_X8_9 ?_
  refine r_newb (N := 65536) dX8_init_15 (by decide) rfl (by decide) z_ac_byte ?_
  refine i8_F (m := 65536) h1 (by decide) rfl dX8_init_17 zF_X8_14 (Nat.le_of_ble_eq_true rfl) ⟨rfl, rfl⟩ (fun T2 h2 => ?_)
  have h2 : i8 S T2 168 131072 _ := h2
  refine r_aload_n dX8_init_20 (by first | rfl | assumption) ?_
  refine r_ic (1) dX8_init_21 rfl ?_
  refine r_putf dX8_init_22 zf_X8_17 h2.2.2.1 (Nat.le_of_ble_eq_true rfl) ⟨rfl, rfl⟩ ?_
  have g2 := h2
  obtain ⟨T3, hT3⟩ : ∃ T, T = z_put T2 165 (.inr (9, List.set (List.set (List.set dX8 1 (.ref 166)) 2 (.ref 167)) 15 (.int 1))) := ⟨_, rfl⟩
  have h3 : i8 S T3 168 131072 (List.set (List.set (List.set dX8 1 (.ref 166)) 2 (.ref 167)) 15 (.int 1)) := by rw [hT3]; exact ⟨g2.1, g2.2.1, z_put_self, fun j hj => (va_up_ne _ _ (by omega)).trans (g2.2.2.2.1 j hj), fun j a b => (va_up_ne _ _ (by omega)).trans (g2.2.2.2.2 j a b)⟩
  show Ru _ _ _ _ _ (z_put T2 165 (.inr (9, List.set (List.set (List.set dX8 1 (.ref 166)) 2 (.ref 167)) 15 (.int 1)))) _
  rw [← hT3]
  refine r_aload_n dX8_init_25 (by first | rfl | assumption) ?_
  refine r_sp (1100) dX8_init_26 rfl ?_
  refine r_newb (N := 1100) dX8_init_29 (by decide) rfl (by decide) z_ac_byte ?_
  refine i8_F (m := 131072) h3 (by decide) rfl dX8_init_31 zF_X8_21 (Nat.le_of_ble_eq_true rfl) ⟨rfl, rfl⟩ (fun T4 h4 => ?_)
  have h4 : i8 S T4 169 132172 _ := h4
  refine r_aload_n dX8_init_34 (by first | rfl | assumption) ?_
  refine r_bp (24) dX8_init_35 rfl ?_
  refine r_newi (N := 24) dX8_init_37 (by decide) rfl (by decide) z_ac_int ?_
  refine i8_F (m := 132172) h4 (by decide) rfl dX8_init_39 zF_X8_24 (Nat.le_of_ble_eq_true rfl) ⟨rfl, rfl⟩ (fun T5 h5 => ?_)
  have h5 : i8 S T5 170 132196 _ := h5
  refine r_aload_n dX8_init_42 (by first | rfl | assumption) ?_
  refine r_bp (24) dX8_init_43 rfl ?_
  refine r_newi (N := 24) dX8_init_45 (by decide) rfl (by decide) z_ac_int ?_
  refine i8_F (m := 132196) h5 (by decide) rfl dX8_init_47 zF_X8_28 (Nat.le_of_ble_eq_true rfl) ⟨rfl, rfl⟩ (fun T6 h6 => ?_)
  have h6 : i8 S T6 171 132220 _ := h6
  refine r_aload_n dX8_init_50 (by first | rfl | assumption) ?_
  refine r_bp (24) dX8_init_51 rfl ?_
  refine r_newi (N := 24) dX8_init_53 (by decide) rfl (by decide) z_ac_int ?_
  refine i8_F (m := 132220) h6 (by decide) rfl dX8_init_55 zF_X8_31 (Nat.le_of_ble_eq_true rfl) ⟨rfl, rfl⟩ (fun T7 h7 => ?_)
  have h7 : i8 S T7 172 132244 _ := h7
  refine r_aload_n dX8_init_58 (by first | rfl | assumption) ?_
  refine r_bp (24) dX8_init_59 rfl ?_
  refine r_newi (N := 24) dX8_init_61 (by decide) rfl (by decide) z_ac_int ?_
  refine i8_F (m := 132244) h7 (by decide) rfl dX8_init_63 zF_X8_34 (Nat.le_of_ble_eq_true rfl) ⟨rfl, rfl⟩ (fun T8 h8 => ?_)
  have h8 : i8 S T8 173 132268 _ := h8
  refine r_aload_n dX8_init_66 (by first | rfl | assumption) ?_
  refine r_bp (24) dX8_init_67 rfl ?_
  refine r_newi (N := 24) dX8_init_69 (by decide) rfl (by decide) z_ac_int ?_
  refine i8_F (m := 132268) h8 (by decide) rfl dX8_init_71 zF_X8_37 (Nat.le_of_ble_eq_true rfl) ⟨rfl, rfl⟩ (fun T9 h9 => ?_)
  have h9 : i8 S T9 174 132292 _ := h9
  refine r_aload_n dX8_init_74 (by first | rfl | assumption) ?_
  refine r_bp (24) dX8_init_75 rfl ?_
  refine r_newi (N := 24) dX8_init_77 (by decide) rfl (by decide) z_ac_int ?_
  refine i8_F (m := 132292) h9 (by decide) rfl dX8_init_79 zF_X8_40 (Nat.le_of_ble_eq_true rfl) ⟨rfl, rfl⟩ (fun T10 h10 => ?_)
  have h10 : i8 S T10 175 132316 _ := h10
  refine r_aload_n dX8_init_82 (by first | rfl | assumption) ?_
  refine r_bp (24) dX8_init_83 rfl ?_
  refine r_newi (N := 24) dX8_init_85 (by decide) rfl (by decide) z_ac_int ?_
  refine i8_F (m := 132316) h10 (by decide) rfl dX8_init_87 zF_X8_43 (Nat.le_of_ble_eq_true rfl) ⟨rfl, rfl⟩ (fun T11 h11 => ?_)
  have h11 : i8 S T11 176 132340 _ := h11
  refine r_aload_n dX8_init_90 (by first | rfl | assumption) ?_
  refine r_bp (24) dX8_init_91 rfl ?_
  refine r_newi (N := 24) dX8_init_93 (by decide) rfl (by decide) z_ac_int ?_
  refine i8_F (m := 132340) h11 (by decide) rfl dX8_init_95 zF_X8_46 (Nat.le_of_ble_eq_true rfl) ⟨rfl, rfl⟩ (fun T12 h12 => ?_)
  have h12 : i8 S T12 177 132364 _ := h12
  refine r_aload_n dX8_init_98 (by first | rfl | assumption) ?_
  refine r_bp (24) dX8_init_99 rfl ?_
  refine r_newi (N := 24) dX8_init_101 (by decide) rfl (by decide) z_ac_int ?_
  refine i8_F (m := 132364) h12 (by decide) rfl dX8_init_103 zF_X8_49 (Nat.le_of_ble_eq_true rfl) ⟨rfl, rfl⟩ (fun T13 h13 => ?_)
  have h13 : i8 S T13 178 132388 _ := h13
  refine r_aload_n dX8_init_106 (by first | rfl | assumption) ?_
  refine r_bp (24) dX8_init_107 rfl ?_
  refine r_newz (N := 24) dX8_init_109 (by decide) rfl (by decide) z_ac_boolean ?_
  refine i8_F (m := 132388) h13 (by decide) rfl dX8_init_111 zF_X8_52 (Nat.le_of_ble_eq_true rfl) ⟨rfl, rfl⟩ (fun T14 h14 => ?_)
  have h14 : i8 S T14 179 132412 _ := h14
  refine r_aload_n dX8_init_114 (by first | rfl | assumption) ?_
  refine r_bp (24) dX8_init_115 rfl ?_
  refine r_sp (1100) dX8_init_117 rfl ?_
  refine r_mna (i := 166) (N9 := 24) (L9 := 1100) dX8_init_120 zl_X8_56 (Or.inl rfl) ⟨by rw [h14.1]; decide, h14.2.2.2.2 166 (by decide) (by decide)⟩ ⟨by decide, by decide⟩ ⟨rfl, rfl⟩ ⟨by decide, by decide, by decide⟩ ?_
  refine i8_M (m := 132412) h14 (by decide) rc_B dX8_init_124 zF_X8_58 (Nat.le_of_ble_eq_true rfl) (fun T15 h15 => ?_)
  have h15 : i8 S T15 204 158836 _ := h15
  refine r_aload_n dX8_init_127 (by first | rfl | assumption) ?_
  refine r_bp (24) dX8_init_128 rfl ?_
  refine r_sp (2100) dX8_init_130 rfl ?_
  refine r_mna (i := 169) (N9 := 24) (L9 := 2100) dX8_init_133 zl_X8_61 (Or.inr rfl) ⟨by rw [h15.1]; decide, h15.2.2.2.2 169 (by decide) (by decide)⟩ ⟨by decide, by decide⟩ ⟨rfl, rfl⟩ ⟨by decide, by decide, by decide⟩ ?_
  refine i8_M (m := 158836) h15 (by decide) rc_I dX8_init_137 zF_X8_63 (Nat.le_of_ble_eq_true rfl) (fun T16 h16 => ?_)
  have h16 : i8 S T16 229 209260 _ := h16
  refine r_aload_n dX8_init_140 (by first | rfl | assumption) ?_
  refine r_bp (24) dX8_init_141 rfl ?_
  refine r_newi (N := 24) dX8_init_143 (by decide) rfl (by decide) z_ac_int ?_
  refine i8_F (m := 209260) h16 (by decide) rfl dX8_init_145 zF_X8_66 (Nat.le_of_ble_eq_true rfl) ⟨rfl, rfl⟩ (fun T17 h17 => ?_)
  have h17 : i8 S T17 230 209284 _ := h17
  refine r_aload_n dX8_init_148 (by first | rfl | assumption) ?_
  refine r_sp (6600) dX8_init_149 rfl ?_
  refine r_newi (N := 6600) dX8_init_152 (by decide) rfl (by decide) z_ac_int ?_
  refine i8_F (m := 209284) h17 (by decide) rfl dX8_init_154 zF_X8_69 (Nat.le_of_ble_eq_true rfl) ⟨rfl, rfl⟩ (fun T18 h18 => ?_)
  have h18 : i8 S T18 231 215884 _ := h18
  refine r_aload_n dX8_init_157 (by first | rfl | assumption) ?_
  refine r_sp (6600) dX8_init_158 rfl ?_
  refine r_newi (N := 6600) dX8_init_161 (by decide) rfl (by decide) z_ac_int ?_
  refine i8_F (m := 215884) h18 (by decide) rfl dX8_init_163 zF_X8_72 (Nat.le_of_ble_eq_true rfl) ⟨rfl, rfl⟩ (fun T19 h19 => ?_)
  have h19 : i8 S T19 232 222484 _ := h19
  refine r_aload_n dX8_init_166 (by first | rfl | assumption) ?_
  refine r_sp (6600) dX8_init_167 rfl ?_
  refine r_newi (N := 6600) dX8_init_170 (by decide) rfl (by decide) z_ac_int ?_
  refine i8_F (m := 222484) h19 (by decide) rfl dX8_init_172 zF_X8_75 (Nat.le_of_ble_eq_true rfl) ⟨rfl, rfl⟩ (fun T20 h20 => ?_)
  have h20 : i8 S T20 233 229084 _ := h20
  refine r_aload_n dX8_init_175 (by first | rfl | assumption) ?_
  refine r_sp (6600) dX8_init_176 rfl ?_
  refine r_newi (N := 6600) dX8_init_179 (by decide) rfl (by decide) z_ac_int ?_
  refine i8_F (m := 229084) h20 (by decide) rfl dX8_init_181 zF_X8_78 (Nat.le_of_ble_eq_true rfl) ⟨rfl, rfl⟩ (fun T21 h21 => ?_)
  have h21 : i8 S T21 234 235684 _ := h21
  refine r_aload_n dX8_init_184 (by first | rfl | assumption) ?_
  refine r_sp (6600) dX8_init_185 rfl ?_
  refine r_newi (N := 6600) dX8_init_188 (by decide) rfl (by decide) z_ac_int ?_
  refine i8_F (m := 235684) h21 (by decide) rfl dX8_init_190 zF_X8_81 (Nat.le_of_ble_eq_true rfl) ⟨rfl, rfl⟩ (fun T22 h22 => ?_)
  have h22 : i8 S T22 235 242284 _ := h22
  refine r_aload_n dX8_init_193 (by first | rfl | assumption) ?_
  refine r_sp (6600) dX8_init_194 rfl ?_
  refine r_newi (N := 6600) dX8_init_197 (by decide) rfl (by decide) z_ac_int ?_
  refine i8_F (m := 242284) h22 (by decide) rfl dX8_init_199 zF_X8_84 (Nat.le_of_ble_eq_true rfl) ⟨rfl, rfl⟩ (fun T23 h23 => ?_)
  have h23 : i8 S T23 236 248884 _ := h23
  refine r_aload_n dX8_init_202 (by first | rfl | assumption) ?_
  refine r_sp (6600) dX8_init_203 rfl ?_
  refine r_newi (N := 6600) dX8_init_206 (by decide) rfl (by decide) z_ac_int ?_
  refine i8_F (m := 248884) h23 (by decide) rfl dX8_init_208 zF_X8_87 (Nat.le_of_ble_eq_true rfl) ⟨rfl, rfl⟩ (fun T24 h24 => ?_)
  have h24 : i8 S T24 237 255484 _ := h24
  refine r_aload_n dX8_init_211 (by first | rfl | assumption) ?_
  refine r_sp (1110) dX8_init_212 rfl ?_
  refine r_newi (N := 1110) dX8_init_215 (by decide) rfl (by decide) z_ac_int ?_
  refine i8_F (m := 255484) h24 (by decide) rfl dX8_init_217 zF_X8_90 (Nat.le_of_ble_eq_true rfl) ⟨rfl, rfl⟩ (fun T25 h25 => ?_)
  have h25 : i8 S T25 238 256594 _ := h25
  refine r_aload_n dX8_init_220 (by first | rfl | assumption) ?_
  refine r_sp (1110) dX8_init_221 rfl ?_
  refine r_newi (N := 1110) dX8_init_224 (by decide) rfl (by decide) z_ac_int ?_
  refine i8_F (m := 256594) h25 (by decide) rfl dX8_init_226 zF_X8_93 (Nat.le_of_ble_eq_true rfl) ⟨rfl, rfl⟩ (fun T26 h26 => ?_)
  have h26 : i8 S T26 239 257704 _ := h26
  refine r_aload_n dX8_init_229 (by first | rfl | assumption) ?_
  refine r_sp (1110) dX8_init_230 rfl ?_
  refine r_newi (N := 1110) dX8_init_233 (by decide) rfl (by decide) z_ac_int ?_
  refine i8_F (m := 257704) h26 (by decide) rfl dX8_init_235 zF_X8_96 (Nat.le_of_ble_eq_true rfl) ⟨rfl, rfl⟩ (fun T27 h27 => ?_)
  have h27 : i8 S T27 240 258814 _ := h27
  refine r_aload_n dX8_init_238 (by first | rfl | assumption) ?_
  refine r_sp (1110) dX8_init_239 rfl ?_
  refine r_newl (N := 1110) dX8_init_242 (by decide) rfl (by decide) z_ac_long ?_
  refine i8_F (m := 258814) h27 (by decide) rfl dX8_init_244 zF_X8_99 (Nat.le_of_ble_eq_true rfl) ⟨rfl, rfl⟩ (fun T28 h28 => ?_)
  have h28 : i8 S T28 241 259924 _ := h28
  refine r_return dX8_init_247 rfl ⟨rfl, h28.1, h28.2.1, h28.2.2.1, h28.2.2.2.1, h28.2.2.2.2⟩
end
