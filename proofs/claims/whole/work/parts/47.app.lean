/-! THE REFERENCE: a line is written -/
/-- all but the fields of F and the arrays of A is as it was -/
def eqx (F A : List Nat) (r r' : zR) : Prop := (∀ i, i ∉ F → r'.1 i = r.1 i) ∧ ∀ c, c ∉ A → r'.2.1 c = r.2.1 c ∧ r'.2.2 c = r.2.2 c
section
variable {F A : List Nat} {r r' r2 : zR}
theorem eqx.rf : eqx F A r r := ⟨fun _ _ => rfl, fun _ _ => ⟨rfl, rfl⟩⟩
theorem eqx.tr (h : eqx F A r r') (k : eqx F A r' r2) : eqx F A r r2 := ⟨fun i hi => (k.1 i hi).trans (h.1 i hi), fun c hc => ⟨(k.2 c hc).1.trans (h.2 c hc).1, (k.2 c hc).2.trans (h.2 c hc).2⟩⟩
theorem eqx.mono {F2 A2 : List Nat} (h : eqx F A r r') (h1 : ∀ i ∈ F, i ∈ F2) (h2 : ∀ i ∈ A, i ∈ A2) : eqx F2 A2 r r' := ⟨fun i hi => h.1 i (fun z => hi (h1 i z)), fun c hc => h.2 c (fun z => hc (h2 c z))⟩
theorem eqx.f {i : Nat} {v : Int32} (h : i ∈ F) : eqx F A r (rF r i v) := ⟨fun j hj => va_up_ne _ _ (fun e => hj (e ▸ h)), fun _ _ => ⟨rfl, rfl⟩⟩
theorem eqx.a {c k : Nat} {v : Int32} (h : c ∈ A) : eqx F A r (rA r c k v) := ⟨fun _ _ => rfl, fun j hj => ⟨va_up_ne _ _ (fun e => hj (e ▸ h)), rfl⟩⟩
theorem eqx.v {c k : Nat} {v : Int64} (h : c ∈ A) : eqx F A r (rV r c k v) := ⟨fun _ _ => rfl, fun j hj => ⟨rfl, va_up_ne _ _ (fun e => hj (e ▸ h))⟩⟩
theorem TP.mv {xs : List Nat} (h : TP r xs) (k : eqx F A r r') (h1 : 4 ∉ F) (h2 : 167 ∉ A) : TP r' xs := ⟨(k.1 4 h1).trans h.1, h.2.1, by rw [(k.2 167 h2).1]; exact h.2.2⟩
theorem FK.mv {kd : Nat → Int32} {n : Nat} (h : FK kd r n) (k : eqx F A r r') (h1 : 19 ∉ F) (h2 : 169 ∉ A) : FK kd r' n := ⟨by rw [(k.2 169 h2).1]; exact h.1, h.2.1, (k.1 19 h1).trans h.2.2⟩
theorem rA_at {c k : Nat} {v : Int32} : (rA r c k v).2.1 c k = v := by
  show va_up r.2.1 c (upd (r.2.1 c) k v) c k = v
  rw [va_up_self]
  exact if_pos rfl
theorem rA_ne {c k j : Nat} {v : Int32} (h : j ≠ k) : (rA r c k v).2.1 c j = r.2.1 c j := by
  show va_up r.2.1 c (upd (r.2.1 c) k v) c j = _
  rw [va_up_self]
  exact if_neg h
theorem rA_o {c c2 k : Nat} {v : Int32} (h : c2 ≠ c) : (rA r c k v).2.1 c2 = r.2.1 c2 := va_up_ne _ _ h
theorem rF_at {i : Nat} {v : Int32} : (rF r i v).1 i = v := va_up_self _ _ _
theorem rF_o {i j : Nat} {v : Int32} (h : j ≠ i) : (rF r i v).1 j = r.1 j := va_up_ne _ _ h
end
/-- the line that is being written -/
def LN (r : zR) (xs : List Nat) : Prop := r.1 18 = nI xs.length ∧ xs.length ≤ 4000 ∧ ∀ k, k < xs.length → xs.getD k 0 < 256 ∧ (k < 1090 → r.2.1 168 k = sb_b (xs.getD k 0))
section
variable {d : Nat} {S : zS} {r : zR} {xs : List Nat}
theorem LN.mv {F A : List Nat} {r' : zR} (h : LN r xs) (k : eqx F A r r') (h1 : 18 ∉ F) (h2 : 168 ∉ A) : LN r' xs := ⟨(k.1 18 h1).trans h.1, h.2.1, by rw [(k.2 168 h2).1]; exact h.2.2⟩
theorem sb_sb (b : Nat) : (sb_b b).toInt8.toInt32 = sb_b b := by
  unfold sb_b
  rw [Int8.toInt8_toInt32]
theorem C_X8_append {b : Nat} (h : LN r xs) (hb : b < 256) (hl : xs.length < 4000) {v : Int32} (hv : v.toInt8.toInt32 = sb_b b) : Rc d mX8_append [.ref 165, .int v] (RS S r) (fun u S1 => u = none ∧ ∃ r', S1 = RS S r' ∧ eqx [18] [168] r r' ∧ LN r' (xs ++ [b])) := by
  obtain ⟨h1, h2, h3⟩ := h
  have e1 : (xs ++ [b]).length = xs.length + 1 := by rw [List.length_append]; rfl
  refine Rc.of ?_
  have fin : ∀ r1 : zR, r1.1 = r.1 → eqx [18] [168] r r1 → (∀ k, k < xs.length → k < 1090 → r1.2.1 168 k = r.2.1 168 k) → (xs.length < 1090 → r1.2.1 168 xs.length = sb_b b) → ∀ L : Nat → Option Value, L 0 = some (.ref 165) → Ru d mX8_append 21 L [] (RS S r1) (z_en mX8_append (fun u S1 => u = none ∧ ∃ r', S1 = RS S r' ∧ eqx [18] [168] r r' ∧ LN r' (xs ++ [b]))) := by
    intro r1 hf hx hk hn L l0
    refine r_aload_n dX8_append_21 (by first | rfl | assumption) ?_
    refine r_dup dX8_append_22 rfl ?_
    refine r8_get dX8_append_23 zf_X8_199 rfl ?_
    refine r_ic (1) dX8_append_26 rfl ?_
    refine r_iadd dX8_append_27 ?_
    rw [hf, h1, nI_1]
    refine r8_put dX8_append_28 zf_X8_199 (Nat.le_of_ble_eq_true rfl) rfl (⟨rfl, rfl⟩) ?_
    refine r_return dX8_append_31 rfl ⟨rfl, rF r1 18 (nI (xs.length + 1)), rfl, hx.tr (eqx.f (by decide)), ?_, by omega, ?_⟩
    · rw [e1]
      exact rF_at
    · intro k hk2
      rw [e1] at hk2
      by_cases q : k < xs.length
      · rw [gD_l q]
        exact ⟨(h3 k q).1, fun z => (hk k q z).trans ((h3 k q).2 z)⟩
      · have : k = xs.length := by omega
        subst this
        rw [gD_r (Nat.le_refl _), Nat.sub_self]
        exact ⟨hb, hn⟩
  refine r_aload_n dX8_append_0 (by first | rfl | assumption) ?_
  refine r8_get dX8_append_1 zf_X8_199 rfl ?_
  refine r_sp (1090) dX8_append_4 rfl ?_
  rw [h1]
  by_cases q : 1090 ≤ xs.length
  · refine r_icmp_ge_t (tgt := 21) dX8_append_7 (by decide) (nI_le (a := 1090) (b := xs.length) q (by omega)) ?_
    exact fin r rfl eqx.rf (fun _ _ _ => rfl) (fun z => by omega) _ rfl
  · refine r_icmp_ge_f (tgt := 21) dX8_append_7 (by decide) (nI_ge (a := xs.length) (b := 1090) (by omega) (by decide)) ?_
    refine r_aload_n dX8_append_10 (by first | rfl | assumption) ?_
    refine r8_get dX8_append_11 zf_X8_21 rfl ?_
    refine r_aload_n dX8_append_14 (by first | rfl | assumption) ?_
    refine r8_get dX8_append_15 zf_X8_199 rfl ?_
    rw [h1]
    refine r_iload_n dX8_append_18 (by first | rfl | assumption) ?_
    refine r_i2b dX8_append_19 ?_
    refine r8_bast dX8_append_20 (by decide) (rfl) (by first | assumption | exact (show _ < 65536 by omega) | exact (show _ < 1100 by omega) | exact (show _ < 24 by omega) | exact (show _ < 2100 by omega) | exact (show _ < 6600 by omega) | exact (show _ < 1110 by omega)) ?_
    refine fin (rA r 168 xs.length v.toInt8.toInt32.toInt8.toInt32) rfl (eqx.a (by decide)) (fun k hk _ => rA_ne (by omega)) (fun _ => ?_) _ rfl
    rw [rA_at, Int8.toInt8_toInt32, hv]
theorem dgk_k {v k : Nat} (h0 : k = 0 ∨ v / 10 ^ k % 10 ≠ 0) : ∀ m, k ≤ m → (∀ e, k < e → e ≤ m → v / 10 ^ e % 10 = 0) → dgk v m false = dgk v k true
  | 0, h1, _ => by
    have : k = 0 := by omega
    subst this
    rfl
  | m + 1, h1, h2 => by
    by_cases q : k = m + 1
    · subst q
      show (if (false || decide (v / 10 ^ (m + 1) % 10 ≠ 0)) = true then (48 + v / 10 ^ (m + 1) % 10) :: dgk v m true else dgk v m false) = if (true || decide (v / 10 ^ (m + 1) % 10 ≠ 0)) = true then (48 + v / 10 ^ (m + 1) % 10) :: dgk v m true else dgk v m false
      rcases h0 with z | z
      · omega
      · rw [decide_eq_true z]
        rfl
    · show (if (false || decide (v / 10 ^ (m + 1) % 10 ≠ 0)) = true then (48 + v / 10 ^ (m + 1) % 10) :: dgk v m true else dgk v m false) = _
      rw [decide_eq_false (fun z => z (h2 (m + 1) (by omega) (Nat.le_refl _)))]
      show dgk v m false = _
      exact dgk_k h0 m (by omega) (fun e a b => h2 e a (by omega))
theorem nI_dv {a b : Nat} (h : a < 2 ^ 31) (h2 : b < 2 ^ 31) (h3 : 0 < b) : nI a / nI b = nI (a / b) := pk_div h h3 h2
set_option maxRecDepth 10000 in
set_option maxHeartbeats 1000000 in
theorem C_X8_appendNumber {v : Nat} (h : LN r xs) (hl : xs.length ≤ 3000) (hv : v ≤ 65536) : Rc (d + 1) mX8_appendNumber [.ref 165, .int (nI v)] (RS S r) (fun u S1 => u = none ∧ ∃ r', S1 = RS S r' ∧ eqx [18] [168] r r' ∧ LN r' (xs ++ dgk v 9 false)) := by
  have loop2 : ∀ (j : Nat) (r1 : zR) (ds : List Nat) (L : Nat → Option Value), j ≤ 4 → eqx [18] [168] r r1 → LN r1 (xs ++ ds) → ds ++ dgk v j true = dgk v 9 false → ds.length + j ≤ 4 → L 0 = some (.ref 165) → L 1 = some (.int (nI v)) → z_c1 (L 2) → L 3 = some (.int (nI (10 ^ j))) → Ru (d + 1) mX8_appendNumber 20 L [] (RS S r1) (z_en mX8_appendNumber (fun u S1 => u = none ∧ ∃ r', S1 = RS S r' ∧ eqx [18] [168] r r' ∧ LN r' (xs ++ dgk v 9 false))) := by
    intro j
    have body : ∀ (j : Nat) (r1 : zR) (ds : List Nat) (L : Nat → Option Value), j ≤ 4 → eqx [18] [168] r r1 → LN r1 (xs ++ ds) → ds.length ≤ 4 → L 0 = some (.ref 165) → L 1 = some (.int (nI v)) → z_c1 (L 2) → L 3 = some (.int (nI (10 ^ j))) → (∀ r2 L2, eqx [18] [168] r r2 → LN r2 (xs ++ (ds ++ [48 + v / 10 ^ j % 10])) → L2 0 = some (.ref 165) → L2 1 = some (.int (nI v)) → z_c1 (L2 2) → L2 3 = some (.int (nI (10 ^ j / 10))) → Ru (d + 1) mX8_appendNumber 20 L2 [] (RS S r2) (z_en mX8_appendNumber (fun u S1 => u = none ∧ ∃ r', S1 = RS S r' ∧ eqx [18] [168] r r' ∧ LN r' (xs ++ dgk v 9 false)))) → Ru (d + 1) mX8_appendNumber 20 L [] (RS S r1) (z_en mX8_appendNumber (fun u S1 => u = none ∧ ∃ r', S1 = RS S r' ∧ eqx [18] [168] r r' ∧ LN r' (xs ++ dgk v 9 false))) := by
      intro j r1 ds L hj hx hL hds l0 l1 l2 l3 K
      have hp : 0 < 10 ^ j ∧ 10 ^ j ≤ 10000 := by
        have : ∀ j, j ≤ 4 → 0 < 10 ^ j ∧ 10 ^ j ≤ 10000 := by decide
        exact this j hj
      have hdv := Nat.div_le_self v (10 ^ j)
      have hdg : v / 10 ^ j % 10 < 10 := Nat.mod_lt _ (by decide)
      have e1 : nI (v / 10 ^ j) - nI (v / 10 ^ j) / 10 * 10 = nI (v / 10 ^ j % 10) := pk_rem (a := v / 10 ^ j) (d := 10) (by omega) (by decide) (by decide)
      have e2 : (48 : Int32) + nI (v / 10 ^ j % 10) = nI (48 + v / 10 ^ j % 10) := nI_add 48 _
      refine r_iload_n dX8_appendNumber_20 (by first | rfl | assumption) ?_
      refine r_if_le_f (tgt := 45) dX8_appendNumber_21 (by decide) (nI_nle (by omega) (by omega)) ?_
      refine r_aload_n dX8_appendNumber_24 (by first | rfl | assumption) ?_
      refine r_bp (48) dX8_appendNumber_25 rfl ?_
      refine r_iload_n dX8_appendNumber_27 (by first | rfl | assumption) ?_
      refine r_iload_n dX8_appendNumber_28 (by first | rfl | assumption) ?_
      refine r_idiv dX8_appendNumber_29 (fun q => nI_ne0 (n := 10 ^ j) (by omega) (by omega) q) ?_
      rw [nI_dv (by omega) (by omega) hp.1]
      refine r_bp (10) dX8_appendNumber_30 rfl ?_
      refine r_irem dX8_appendNumber_32 (by decide) ?_
      rw [e1]
      refine r_iadd dX8_appendNumber_33 ?_
      rw [e2]
      refine r_callV1 dX8_appendNumber_34 zm_X8_202 RS_o rfl (Nat.le_of_ble_eq_true rfl) (Nat.le_of_ble_eq_true rfl) (C_X8_append hL (b := 48 + v / 10 ^ j % 10) (by omega) (by rw [List.length_append]; omega) rfl) (fun u S9 hv => ?_)
      obtain ⟨rfl, r2, rfl, hx2, hL2⟩ := hv
      refine r_iload_n dX8_appendNumber_37 (by first | rfl | assumption) ?_
      refine r_bp (10) dX8_appendNumber_38 rfl ?_
      refine r_idiv dX8_appendNumber_40 (by decide) ?_
      rw [show nI (10 ^ j) / 10 = nI (10 ^ j / 10) from nI_dv (by omega) (by decide) (by decide)]
      refine r_istore_n dX8_appendNumber_41 (by decide) l2 ?_
      refine r_goto (tgt := 20) dX8_appendNumber_42 (by decide) ?_
      rw [List.append_assoc] at hL2
      exact K r2 _ (hx.tr hx2) hL2 l0 l1 l2 rfl
    induction j with
    | zero =>
      intro r1 ds L hj hx hL hd1 hd2 l0 l1 l2 l3
      refine body 0 r1 ds L hj hx hL (by omega) l0 l1 l2 l3 ?_
      intro r2 L2 hx2 hL2 m0 m1 m2 m3
      refine r_iload_n dX8_appendNumber_20 (by first | rfl | assumption) ?_
      refine r_if_le_t (tgt := 45) dX8_appendNumber_21 (by decide) (show (0 : Int32) ≤ 0 by decide) ?_
      refine r_return dX8_appendNumber_45 rfl ⟨rfl, r2, rfl, hx2, ?_⟩
      rw [← hd1]
      rw [show v / 10 ^ 0 = v from Nat.div_one v] at hL2
      exact hL2
    | succ j ih =>
      intro r1 ds L hj hx hL hd1 hd2 l0 l1 l2 l3
      refine body (j + 1) r1 ds L hj hx hL (by omega) l0 l1 l2 l3 ?_
      intro r2 L2 hx2 hL2 m0 m1 m2 m3
      rw [show 10 ^ (j + 1) / 10 = 10 ^ j by rw [Nat.pow_succ]; exact Nat.mul_div_cancel _ (by decide)] at m3
      refine ih r2 (ds ++ [48 + v / 10 ^ (j + 1) % 10]) L2 (by omega) hx2 hL2 ?_ (by rw [List.length_append]; show ds.length + 1 + j ≤ 4; omega) m0 m1 m2 m3
      rw [List.append_assoc]
      exact hd1
  have loop1 : ∀ (m k : Nat) (L : Nat → Option Value), m + k = 4 → (k = 0 ∨ 9 < v / 10 ^ (k - 1)) → L 0 = some (.ref 165) → L 1 = some (.int (nI v)) → L 2 = some (.int (nI (10 ^ k))) → Ru (d + 1) mX8_appendNumber 2 L [] (RS S r) (z_en mX8_appendNumber (fun u S1 => u = none ∧ ∃ r', S1 = RS S r' ∧ eqx [18] [168] r r' ∧ LN r' (xs ++ dgk v 9 false))) := by
    intro m
    have fin : ∀ (k : Nat) (L : Nat → Option Value), k ≤ 4 → v / 10 ^ k ≤ 9 → (k = 0 ∨ 9 < v / 10 ^ (k - 1)) → L 0 = some (.ref 165) → L 1 = some (.int (nI v)) → L 2 = some (.int (nI (10 ^ k))) → Ru (d + 1) mX8_appendNumber 18 L [] (RS S r) (z_en mX8_appendNumber (fun u S1 => u = none ∧ ∃ r', S1 = RS S r' ∧ eqx [18] [168] r r' ∧ LN r' (xs ++ dgk v 9 false))) := by
      intro k L hk hq h0 l0 l1 l2
      refine r_iload_n dX8_appendNumber_18 (by first | rfl | assumption) ?_
      refine r_istore_n dX8_appendNumber_19 (by decide) (by first | exact z_c1_i (by first | rfl | assumption) | exact z_c1_r (by first | rfl | assumption) | exact z_c1_n (by first | rfl | assumption) | exact z_c1_c (by first | rfl | assumption) | exact z_c1_0 (by first | rfl | assumption)) ?_
      refine loop2 k r [] _ hk eqx.rf (by rw [List.append_nil]; exact h) ?_ (by show 0 + k ≤ 4; omega) l0 l1 (z_c1_i (L := z_s1 L 3 _) (i := 2) l2) rfl
      rw [List.nil_append]
      refine (dgk_k ?_ 9 (by omega) ?_).symm
      · rcases h0 with z | z
        · exact Or.inl z
        · right
          obtain ⟨p, rfl⟩ : ∃ p, k = p + 1 := by
            refine ⟨k - 1, ?_⟩
            rcases Nat.eq_zero_or_pos k with w | w
            · subst w
              have z : 9 < v / 10 ^ 0 := z
              have hq : v / 10 ^ 0 ≤ 9 := hq
              omega
            · omega
          have z : 9 < v / 10 ^ p := z
          have e : v / 10 ^ (p + 1) = v / 10 ^ p / 10 := by rw [Nat.pow_succ, Nat.div_div_eq_div_mul]
          rw [e] at hq ⊢
          omega
      · intro e he1 he2
        have h4 : v / 10 ^ (k + 1) = 0 := by
          rw [Nat.pow_succ, ← Nat.div_div_eq_div_mul]
          exact Nat.div_eq_of_lt (Nat.lt_succ_of_le hq)
        have h5 : v / 10 ^ e ≤ v / 10 ^ (k + 1) := Nat.div_le_div_left (Nat.pow_le_pow_right (by decide) he1) (Nat.pow_pos (by decide))
        have : v / 10 ^ e = 0 := by rw [h4] at h5; exact Nat.le_zero.mp h5
        rw [this]
    have head : ∀ (k : Nat), k ≤ 4 → 0 < 10 ^ k ∧ 10 ^ k ≤ 10000 := by decide
    induction m with
    | zero =>
      intro k L hm h0 l0 l1 l2
      have hk : k = 4 := by omega
      subst hk
      have := Nat.div_le_self v (10 ^ 4)
      refine r_iload_n dX8_appendNumber_2 (by first | rfl | assumption) ?_
      refine r_iload_n dX8_appendNumber_3 (by first | rfl | assumption) ?_
      refine r_idiv dX8_appendNumber_4 (fun q => nI_ne0 (n := 10 ^ 4) (by decide) (by decide) q) ?_
      rw [nI_dv (by omega) (by decide) (by decide)]
      refine r_bp (9) dX8_appendNumber_5 rfl ?_
      refine r_icmp_le_t (tgt := 18) dX8_appendNumber_7 (by decide) (nI_le (a := v / 10 ^ 4) (b := 9) (by omega) (by decide)) ?_
      exact fin 4 _ (Nat.le_refl _) (by omega) h0 l0 l1 l2
    | succ m ih =>
      intro k L hm h0 l0 l1 l2
      have hp := head k (by omega)
      have := Nat.div_le_self v (10 ^ k)
      refine r_iload_n dX8_appendNumber_2 (by first | rfl | assumption) ?_
      refine r_iload_n dX8_appendNumber_3 (by first | rfl | assumption) ?_
      refine r_idiv dX8_appendNumber_4 (fun q => nI_ne0 (n := 10 ^ k) (by omega) (by omega) q) ?_
      rw [nI_dv (by omega) (by omega) hp.1]
      refine r_bp (9) dX8_appendNumber_5 rfl ?_
      by_cases q : v / 10 ^ k ≤ 9
      · refine r_icmp_le_t (tgt := 18) dX8_appendNumber_7 (by decide) (nI_le (a := v / 10 ^ k) (b := 9) q (by decide)) ?_
        exact fin k _ (by omega) q h0 l0 l1 l2
      · refine r_icmp_le_f (tgt := 18) dX8_appendNumber_7 (by decide) (nI_ge (a := 9) (b := v / 10 ^ k) (by omega) (by omega)) ?_
        refine r_iload_n dX8_appendNumber_10 (by first | rfl | assumption) ?_
        refine r_bp (10) dX8_appendNumber_11 rfl ?_
        refine r_imul dX8_appendNumber_13 ?_
        rw [show nI (10 ^ k) * 10 = nI (10 ^ (k + 1)) from (pk_mul _ _).trans (by rw [Nat.pow_succ])]
        refine r_istore_n dX8_appendNumber_14 (by decide) (by first | exact z_c1_i (by first | rfl | assumption) | exact z_c1_r (by first | rfl | assumption) | exact z_c1_n (by first | rfl | assumption) | exact z_c1_c (by first | rfl | assumption) | exact z_c1_0 (by first | rfl | assumption)) ?_
        refine r_goto (tgt := 2) dX8_appendNumber_15 (by decide) ?_
        exact ih (k + 1) _ (by omega) (Or.inr (by show 9 < v / 10 ^ k; omega)) l0 l1 rfl
  refine Rc.of ?_
  refine r_ic (1) dX8_appendNumber_0 rfl ?_
  refine r_istore_n dX8_appendNumber_1 (by decide) (by first | exact z_c1_i (by first | rfl | assumption) | exact z_c1_r (by first | rfl | assumption) | exact z_c1_n (by first | rfl | assumption) | exact z_c1_c (by first | rfl | assumption) | exact z_c1_0 (by first | rfl | assumption)) ?_
  exact loop1 4 0 _ rfl (Or.inl rfl) rfl rfl rfl
end
