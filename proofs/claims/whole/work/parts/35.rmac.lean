/-! THE READER: a macro's heading -/
def off7 (c : zD) (g : zG) : Nat := (ln7 c (g.1.1 - 1)).1
def nMa (c : zD) (g : zG) (o : Nat) (ce : Nat × Nat × Nat) : zMa := (ce.1, (off7 c g + (c.2.2.2.1.getD 1 t0).2.1, (c.2.2.2.1.getD 1 t0).2.2.1 - (c.2.2.2.1.getD 1 t0).2.1, g.1.1, o), mPl c.2.2.2.1 (off7 c g), ce.2.1, ce.2.2)
def cDef (c : zD) (g : zG) (ce : Nat × Nat × Nat) : zG × Nat := if (iL g).isSome = true then (gFl g 6, 2) else if (c.2.2.2.1.getD 1 t0).1 = 1 ∧ tkn c g 1 = true then (gFl g 3, 2) else if hdg c.2.2.2.1 = false then (gFl g 1, 2) else match fz c g 6 false with
  | none => (gUn c g, 2)
  | some o => (((o + 1, g.1.2), g.2.1, g.2.2.1, g.2.2.2.1 ++ [nMa c g o ce], g.2.2.2.2), 0)
/-- what macros cost -/
def kS : List zMa → Nat
  | [] => 0
  | q :: l => 26 + 2 * potI q.2.2.1.length 8 + kS l
def kC : List zMa → Nat
  | [] => 0
  | q :: l => 5 + 2 * cpt q.2.2.1.length 8 + kC l
theorem kS_app (l : List zMa) (q : zMa) : kS (l ++ [q]) = kS l + (26 + 2 * potI q.2.2.1.length 8) := by
  induction l with
  | nil => show 26 + 2 * potI q.2.2.1.length 8 + 0 = 0 + _; omega
  | cons a l ih => show 26 + 2 * potI a.2.2.1.length 8 + kS (l ++ [q]) = 26 + 2 * potI a.2.2.1.length 8 + kS l + _; rw [ih]; omega
theorem kC_app (l : List zMa) (q : zMa) : kC (l ++ [q]) = kC l + (5 + 2 * cpt q.2.2.1.length 8) := by
  induction l with
  | nil => show 5 + 2 * cpt q.2.2.1.length 8 + 0 = 0 + _; omega
  | cons a l ih => show 5 + 2 * cpt a.2.2.1.length 8 + kC (l ++ [q]) = 5 + 2 * cpt a.2.2.1.length 8 + kC l + _; rw [ih]; omega
/-- the class, with what it may cost -/
def XJ (S : zS) (Z : Nat → zC) (N : Nat) (c : zD) (g : zG) (B0 C0 : Nat) : Prop := ∃ E lB lI B C, XI S E lB lI B C Z N c g ∧ c.2.2.2.2.2.2.2.2 ≤ 767 ∧ B + 4 * (768 - c.2.2.2.2.2.2.2.2) ≤ B0 + kS g.2.2.2.1 ∧ C + (768 - c.2.2.2.2.2.2.2.2) ≤ C0 + kC g.2.2.2.1
def cLa (c : zD) (la : Int32 × Value × Nat) : zD := (c.1, c.2.1, c.2.2.1, c.2.2.2.1, c.2.2.2.2.1, c.2.2.2.2.2.1, la)
/-- the tokens lie in the line -/
def tOk (c : zD) (g : zG) : Prop := ∀ i, i < c.2.2.2.1.length → (c.2.2.2.1.getD i t0).2.1 ≤ (c.2.2.2.1.getD i t0).2.2.1 ∧ (c.2.2.2.1.getD i t0).2.2.1 ≤ g.2.2.2.2.length
section
variable {d : Nat} {S : zS} {E : zE} {lB lI : List Nat} {B C N B0 C0 : Nat} {Z : Nat → zC} {c : zD} {g : zG}
theorem hdg_2 {ts : List zT} (h : hdg ts = true) : 2 ≤ ts.length := by
  unfold hdg at h
  simp only [Bool.and_eq_true, decide_eq_true_eq] at h
  rcases Nat.lt_or_ge 1 ts.length with q | q
  · exact q
  · have h1 := h.1.1
    rw [List.getD_eq_getElem?_getD, List.getElem?_eq_none q] at h1
    exact absurd h1 (by decide)
theorem fz_cnt (h : iL g = none) {bg : Nat} {oe : Bool} : fz c g bg oe = fnz (wsO c.2.1) g.1.1 (cnt c) bg oe := by
  unfold fz lim7
  rw [h]
/-- a macro comes into the list -/
theorem XI.addM {S1 S2 : zS} {E1 : zE} {lB1 lI1 : List Nat} {B1 C1 o cap' : Nat} {mc' : Int32} {ev' : Value} {ce : Nat × Nat × Nat} (h : XI S E lB lI B C Z N c g) (hce : ce = (S.1, S.1 + 1, S.1 + 3)) (hm : S1.2.2 S.1 = mcl (nMa c g o ce)) (hV1 : Vw S1 E1 lB1 lI1 B1 C1) (hF : FrV (z_new S (.inr (3, [.int 0, .int 0, .int 0, .int 0, .null, .null])) 6) S1 E E1 [S.1]) (eb : E1.1 = E.1) (ei : E1.2.1 = ivP E.2.1 (S.1 + 1) (S.1 + 3) (nMa c g o ce).2.2.1.length (nMa c g o ce).2.2.1) (hA : isA S2 162 mc' ev' cap' ((g.2.2.2.1.map fun q => q.1) ++ [S.1])) (hfr : ∀ j, j < S1.1 → ¬ aCl c.2.2.2.2.2.2.2.1 162 j → S2.2.2 j = S1.2.2 j)
    (hgr : (cap' = c.2.2.2.2.2.2.2.2 ∧ ev' = c.2.2.2.2.2.2.2.1 ∧ S2.1 = S1.1 ∧ S2.2.1 = S1.2.1) ∨ (ev' = .ref S1.1 ∧ S2.1 = S1.1 + 1 ∧ S2.2.1 = S1.2.1 + alN c.2.2.2.2.2.2.2.2)) : XI S2 E1 lB1 lI1 (B1 + (S2.2.1 - S1.2.1)) (C1 + (S2.1 - S1.1)) Z N (cLa c (mc', ev', cap')) (g.1, g.2.1, g.2.2.1, g.2.2.2.1 ++ [nMa c g o ce], g.2.2.2.2) := by
  have hl0 := h.l0
  have hl1 : S.1 + 1 ≤ S1.1 := hF.1
  have hl2 : S1.1 ≤ S2.1 := by rcases hgr with q | q <;> omega
  have hls : S1.2.1 ≤ S2.2.1 := by rcases hgr with q | q <;> omega
  have hev : ∀ x, x < 165 → x ≠ 162 → ¬ aCl c.2.2.2.2.2.2.2.1 162 x := fun x hx hn z => by
    rcases z with z | z
    · exact hn z
    · have := h.2.2.2.2.1 x z; omega
  -- a raw cell of the class stays
  have keep : ∀ x ci fs, S.2.2 x = .inr (ci, fs) → ci ≠ 1 → ci ≠ 2 → x < S.1 → ¬ aCl c.2.2.2.2.2.2.2.1 162 x → S2.2.2 x = .inr (ci, fs) := by
    intro x ci fs hx n1 n2 hxl hn
    rw [hfr x (by omega) hn, hF.2.2.1 x (show x < S.1 + 1 by omega) (h.1.raw hx n1 n2) (fun z => by have := List.mem_singleton.mp z; omega)]
    exact (va_up_ne _ _ (Nat.ne_of_lt hxl)).trans hx
  have keepA : ∀ x ty a, S.2.2 x = .inl (ty, a) → ty ≠ .byte → ty ≠ .int → x < S.1 → ¬ aCl c.2.2.2.2.2.2.2.1 162 x → S2.2.2 x = .inl (ty, a) := by
    intro x ty a hx n1 n2 hxl hn
    rw [hfr x (by omega) hn, hF.2.2.1 x (show x < S.1 + 1 by omega) (h.1.rawA hx n1 n2) (fun z => by have := List.mem_singleton.mp z; omega)]
    exact (va_up_ne _ _ (Nat.ne_of_lt hxl)).trans hx
  -- the list's cells are not the view's
  have hnv : ∀ j, inV E1 j → ¬ aCl c.2.2.2.2.2.2.2.1 162 j := by
    intro j hj z
    have ha := h.a0
    have key : ∀ x, x < S.1 → ¬ inV E x → ¬ inV E1 x := fun x hx hn q => hn (hF.2.2.2 x (show x < S.1 + 1 by omega) q)
    rcases z with rfl | z
    · exact key 162 (by omega) (h.1.raw ha.1 (by decide) (by decide)) hj
    · rcases ha.2.2.2 with ⟨q, -⟩ | ⟨ea, gg, q, -, q2, q3, -⟩
      · rw [z] at q; cases q
      · rw [z] at q
        cases q
        exact key j q2 (h.1.rawA q3 (by simp) (by simp)) hj
  have hmq : ¬ aCl c.2.2.2.2.2.2.2.1 162 S.1 := fun z => by
    rcases z with z | z
    · omega
    · rcases h.a0.2.2.2 with ⟨q, -⟩ | ⟨ea, gg, q, -, q2, q3, -⟩
      · rw [z] at q; cases q
      · rw [z] at q; cases q; omega
  have hmm : ∀ q ∈ g.2.2.2.1, ¬ aCl c.2.2.2.2.2.2.2.1 162 q.1 := fun q hq z => by
    obtain ⟨k1, k2, k3⟩ := h.m0 q hq
    rcases z with z | z
    · omega
    · rcases h.a0.2.2.2 with ⟨w, -⟩ | ⟨ea, gg, w, -, w2, w3, -⟩
      · rw [z] at w; cases w
      · rw [z] at w; cases w; rw [k1] at w3; cases w3
  refine ⟨hV1.more (by omega) (by omega) (fun j hj hv => hfr j hj (hnv j hv)), ⟨keep 1 _ _ h.x0 (by decide) (by decide) (by omega) (hev 1 (by decide) (by decide)), keep 2 _ _ h.2.1.2.1 (by decide) (by decide) (by omega) (hev 2 (by decide) (by decide)), keep 13 _ _ h.t0 (by decide) (by decide) (by omega) (hev 13 (by decide) (by decide)), ?_, fun j hj => ?_, ?_, fun q hq => ?_⟩, ?_, ?_, ?_, fun j hj1 hj2 => ?_⟩
  · obtain ⟨k1, ⟨gg, k2, k3⟩, k4⟩ := h.n0
    exact ⟨keep 20 _ _ k1 (by decide) (by decide) (by omega) (hev 20 (by decide) (by decide)), ⟨gg, keepA 21 _ _ k2 (by simp) (by simp) (by omega) (hev 21 (by decide) (by decide)), k3⟩, k4⟩
  · have := ptN_lt hj
    exact keep _ _ _ (h.p0 j hj) (by decide) (by decide) (by omega) (hev _ this.1 this.2.2.2.2.2.2)
  · rw [List.map_append]
    have : (nMa c g o ce).1 = S.1 := by rw [hce]; rfl
    show isA S2 162 mc' ev' cap' ((g.2.2.2.1.map fun q => q.1) ++ [(nMa c g o ce).1])
    rw [this]
    exact hA
  · rcases List.mem_append.mp hq with z | z
    · obtain ⟨k1, k2, k3⟩ := h.m0 q z
      exact ⟨keep _ _ _ k1 (by decide) (by decide) k2 (hmm q z), by omega, k3⟩
    · have z := List.mem_singleton.mp z
      have e : q.1 = S.1 := by rw [z, hce]; rfl
      refine ⟨?_, by omega, by omega⟩
      rw [e, hfr S.1 (by omega) hmq, hm, z]
  · obtain ⟨e1, e2, e3, e4, e5, e6, e7, e8, e9, e10⟩ := h.2.2.1
    have qi : ∀ x, x < S.1 → E1.2.1 x = E.2.1 x := fun x hx => by rw [ei]; exact ivP_else (by omega) (by omega)
    refine ⟨e1, by rw [eb]; exact e2, by rw [eb]; exact e3, by rw [eb]; exact e4, by rw [qi _ (by omega)]; exact e5, by rw [qi _ (by omega)]; exact e6, by rw [qi _ (by omega)]; exact e7, ⟨by rw [qi _ (by omega)]; exact e8.1, by rw [qi _ (by omega)]; exact e8.2.1, by rw [qi _ (by omega)]; exact e8.2.2⟩, fun j hj => ?_, fun q hq => ?_⟩
    · rw [eb, qi _ (by omega), qi _ (by omega)]
      exact e9 j hj
    · rcases List.mem_append.mp hq with z | z
      · obtain ⟨⟨b1, a1⟩, ⟨b2, a2⟩, a3, a4⟩ := e10 q z
        rw [qi _ (h.1.i a1).2.1, qi _ (h.1.i a2).2.1]
        exact ⟨⟨b1, a1⟩, ⟨b2, a2⟩, a3, a4⟩
      · have z := List.mem_singleton.mp z
        have w1 : q.2.2.2.1 = S.1 + 1 := by rw [z, hce]; rfl
        have w2 : q.2.2.2.2 = S.1 + 3 := by rw [z, hce]; rfl
        rw [w1, w2, ei, ← z]
        exact ⟨⟨_, ivP_s (by omega)⟩, ⟨_, ivP_e⟩, by omega, by omega⟩
  · have := h.2.2.2.1
    omega
  · show ∀ x : Nat, ev' = .ref x → 165 ≤ x
    intro x hx
    rcases hgr with ⟨-, q, -⟩ | ⟨q, -⟩
    · rw [q] at hx
      exact h.2.2.2.2.1 x hx
    · rw [q] at hx
      cases hx
      omega
  · obtain ⟨q1, q2, q3, q4⟩ := h.2.2.2.2.2 j hj1 hj2
    have hlz := h.2.2.2.1
    have hjn : ¬ aCl c.2.2.2.2.2.2.2.1 162 j := fun z => by
      rcases z with z | z
      · omega
      · exact q3 z
    refine ⟨?_, fun z => q2 (hF.2.2.2 j (show j < S.1 + 1 by omega) z), ?_, fun q hq => ?_⟩
    · rw [hfr j (by omega) hjn, hF.2.2.1 j (show j < S.1 + 1 by omega) q2 (fun z => by have := List.mem_singleton.mp z; omega)]
      exact (va_up_ne _ _ (show j ≠ S.1 by omega)).trans q1
    · show ev' ≠ .ref j
      rcases hgr with ⟨-, q, -⟩ | ⟨q, -⟩
      · rw [q]; exact q3
      · rw [q]
        intro z
        cases z
        omega
    · rcases List.mem_append.mp hq with z | z
      · exact q4 q z
      · have z := List.mem_singleton.mp z
        have e : q.1 = S.1 := by rw [z, hce]; rfl
        omega
def stM (Z : Nat → zC) (N : Nat) (c : zD) (B0 C0 : Nat) (r : Nat × Nat × Nat → zG × Nat) (v : Option Value) (S1 : zS) : Prop := ∃ ce la, v = some (.int (nI (r ce).2)) ∧ XJ S1 Z N (cLa c la) (r ce).1 B0 C0
set_option maxRecDepth 10000 in
set_option maxHeartbeats 2000000 in
theorem C_X7_readMacro (h : XI S E lB lI B C Z N c g) (ho : gOk c g) (hcap : c.2.2.2.2.2.2.2.2 ≤ 767) (hB : B + 4 * (768 - c.2.2.2.2.2.2.2.2) ≤ B0 + kS g.2.2.2.1) (hC : C + (768 - c.2.2.2.2.2.2.2.2) ≤ C0 + kC g.2.2.2.1) (htk : tOk c g) (hpo : 1 ≤ g.1.1 ∧ g.1.1 ≤ cnt c) (hms : ∀ q ∈ g.2.2.2.1, q.2.1.1 ≤ 65536 ∧ q.2.1.2.1 ≤ 65536) (hnm : g.2.2.2.1.length < 512) : Rc (d + 8) mX7_readMacro [.ref 1] S (stM Z N c B0 C0 (cDef c g)) := by
  have hx := h.x0
  have hs0 := h.2.1.2.1
  have hn0 := h.n0.1
  have ht0 := h.t0
  have hsz := h.sz
  have htl := h.tl
  have hl0 := h.l0
  have hcn := h.cn
  have krl := h.1.bl h.2.2.1.2.2.2.1
  obtain ⟨hk, hst, hen⟩ := h.2.2.1.2.2.2.2.2.2.2.1
  have XJof : ∀ (S1 : zS) (g1 : zG), XI S1 E lB lI B C Z N c g1 → g1.2.2.2.1 = g.2.2.2.1 → XJ S1 Z N (cLa c c.2.2.2.2.2.2) g1 B0 C0 := fun S1 g1 h1 he => ⟨E, lB, lI, B, C, h1, hcap, by rw [he]; exact hB, by rw [he]; exact hC⟩
  refine Rc.of ?_
  refine r_aload_n dX7_readMacro_0 (by first | rfl | assumption) ?_
  refine r_getf dX7_readMacro_1 zf_X7_37 (by first | assumption | exact z_put_self) rfl ?_
  refine r_callV0 dX7_readMacro_4 zm_X7_117 (by assumption) rfl (Nat.le_of_ble_eq_true rfl) (Nat.le_of_ble_eq_true rfl) (C_X7_lines h) (fun v S9 hv => ?_)
  obtain ⟨hS9, rfl⟩ := hv
  subst hS9
  cases hil : iL g with
  | some j =>
    have e : ∀ ce, cDef c g ce = (gFl g 6, 2) := fun ce => if_pos (by rw [hil]; rfl)
    rw [show oV ptN (some j) = .ref (ptN j) from rfl]
    refine r_ifnull dX7_readMacro_7 ?_
    refine r_aload_n dX7_readMacro_10 (by first | rfl | assumption) ?_
    refine r_bp (6) dX7_readMacro_11 rfl ?_
    refine r_callV1 dX7_readMacro_13 zm_X7_132 (by assumption) rfl (Nat.le_of_ble_eq_true rfl) (Nat.le_of_ble_eq_true rfl) (C_X7_tell (k := 6) h) (fun v S8 hv => ?_)
    obtain ⟨rfl, h3⟩ := hv
    refine r_ireturn dX7_readMacro_16 _ rfl rfl ⟨(0, 0, 0), c.2.2.2.2.2.2, by rw [e]; rfl, by rw [e]; exact XJof _ _ h3 rfl⟩
  | none =>
  have e1 : ∀ ce, cDef c g ce = _ := fun ce => if_neg (by rw [hil]; exact Bool.false_ne_true)
  rw [show oV ptN none = .null from rfl]
  refine r_ifnullN (tgt := 17) dX7_readMacro_7 (by decide) ?_
  refine r_aload_n dX7_readMacro_17 (by first | rfl | assumption) ?_
  refine r_getf dX7_readMacro_18 zf_X7_30 (by first | assumption | exact z_put_self) rfl ?_
  refine r_ic (1) dX7_readMacro_21 rfl ?_
  refine r_callV1 dX7_readMacro_22 zm_X7_139 (by assumption) rfl (Nat.le_of_ble_eq_true rfl) (Nat.le_of_ble_eq_true rfl) (C_X6_kind (x := 1) h.t0 h.1 hk) (fun v S9 hv => ?_)
  obtain ⟨hS9, rfl⟩ := hv
  subst hS9
  rw [show iAt (c.2.2.2.1.map fun q => q.1) 1 = (c.2.2.2.1.getD 1 t0).1 from iAt_k (i := 1) (by omega) (by omega)]
  refine r_ic (1) dX7_readMacro_25 rfl ?_
  have l43 : ¬ ((c.2.2.2.1.getD 1 t0).1 = 1 ∧ tkn c g 1 = true) → Ru (d + 8) mX7_readMacro 43 (z_lf (lv_args 0 [.ref 1])) [] S9 (z_en mX7_readMacro (stM Z N c B0 C0 (cDef c g))) := by
    intro q1
    have e2 : ∀ ce, cDef c g ce = if hdg c.2.2.2.1 = false then (gFl g 1, 2) else match fz c g 6 false with
      | none => (gUn c g, 2)
      | some o => (((o + 1, g.1.2), g.2.1, g.2.2.1, g.2.2.2.1 ++ [nMa c g o ce], g.2.2.2.2), 0) := fun ce => (e1 ce).trans (if_neg q1)
    refine r_aload_n dX7_readMacro_43 (by first | rfl | assumption) ?_
    refine r_callV0 dX7_readMacro_44 zm_X7_241 (by assumption) rfl (Nat.le_of_ble_eq_true rfl) (Nat.le_of_ble_eq_true rfl) (C_X7_isHeading h) (fun v S9 hv => ?_)
    obtain ⟨hS9, rfl⟩ := hv
    subst hS9
    by_cases q2 : hdg c.2.2.2.1 = false
    · have e3 : ∀ ce, cDef c g ce = (gFl g 1, 2) := fun ce => (e2 ce).trans (if_pos q2)
      rw [q2]
      refine r_if_ne_f (tgt := 56) dX7_readMacro_47 (by decide) (rfl) ?_
      refine r_aload_n dX7_readMacro_50 (by first | rfl | assumption) ?_
      refine r_ic (1) dX7_readMacro_51 rfl ?_
      refine r_callV1 dX7_readMacro_52 zm_X7_132 (by assumption) rfl (Nat.le_of_ble_eq_true rfl) (Nat.le_of_ble_eq_true rfl) (C_X7_tell (k := 1) h) (fun v S8 hv => ?_)
      obtain ⟨rfl, h3⟩ := hv
      refine r_ireturn dX7_readMacro_55 _ rfl rfl ⟨(0, 0, 0), c.2.2.2.2.2.2, by rw [e3]; rfl, by rw [e3]; exact XJof _ _ h3 rfl⟩
    have q2' := Bool.not_eq_false _ |>.mp q2
    have h2t := hdg_2 q2'
    have e3 : ∀ ce, cDef c g ce = match fz c g 6 false with
      | none => (gUn c g, 2)
      | some o => (((o + 1, g.1.2), g.2.1, g.2.2.1, g.2.2.2.1 ++ [nMa c g o ce], g.2.2.2.2), 0) := fun ce => (e2 ce).trans (if_neg q2)
    rw [q2']
    refine r_if_ne_t (tgt := 56) dX7_readMacro_47 (by decide) (by decide) ?_
    refine r_aload_n dX7_readMacro_56 (by first | rfl | assumption) ?_
    refine r_getf dX7_readMacro_57 zf_X7_10 (by first | assumption | exact z_put_self) rfl ?_
    refine r_aload_n dX7_readMacro_60 (by first | rfl | assumption) ?_
    refine r_getf dX7_readMacro_61 zf_X7_69 (by first | assumption | exact z_put_self) rfl ?_
    refine r_aload_n dX7_readMacro_64 (by first | rfl | assumption) ?_
    refine r_getf dX7_readMacro_65 zf_X7_10 (by first | assumption | exact z_put_self) rfl ?_
    refine r_callV0 dX7_readMacro_68 zm_X7_92 (by assumption) rfl (Nat.le_of_ble_eq_true rfl) (Nat.le_of_ble_eq_true rfl) (C_X5_count h.s0 h.1 h.2.2.1.2.2.2.2.1) (fun v S9 hv => ?_)
    obtain ⟨hS9, rfl⟩ := hv
    subst hS9
    rw [List.length_map]
    refine r_bp (6) dX7_readMacro_71 rfl ?_
    refine r_ic (0) dX7_readMacro_73 rfl ?_
    have hlm : lim7 c g = cnt c := by unfold lim7; rw [hil]
    have hfz : Rc (d + 7) mX5_find [.ref 2, .int (nI g.1.1), .int (nI (lnz c.2.1).length), .int 6, .int 0] S9 (fun v S1 => S1 = S9 ∧ v = some (.int (oI (fz c g 6 false)))) := by
      have := C_X7_fz (d := d + 6) (bg := 6) (oe := false) h ho (Or.inr (Or.inr rfl))
      rw [hlm] at this
      exact this
    refine r_callV4 dX7_readMacro_74 zm_X7_198 (by assumption) rfl (Nat.le_of_ble_eq_true rfl) (Nat.le_of_ble_eq_true rfl) (hfz) (fun v S9 hv => ?_)
    obtain ⟨hS9, rfl⟩ := hv
    subst hS9
    refine r_istore_n dX7_readMacro_77 (by decide) (by first | assumption | exact z_c1_i (by first | rfl | assumption) | exact z_c1_r (by first | rfl | assumption) | exact z_c1_n (by first | rfl | assumption) | exact z_c1_c (by first | rfl | assumption) | exact z_c1_0 (by first | rfl | assumption)) ?_
    refine r_iload_n dX7_readMacro_78 (by first | rfl | assumption) ?_
    cases hf : fz c g 6 false with
    | none =>
      have e4 : ∀ ce, cDef c g ce = (gUn c g, 2) := fun ce => by rw [e3, hf]
      refine r_if_ge_f (tgt := 87) dX7_readMacro_79 (by decide) (show ¬ (0 : Int32) ≤ -1 by decide) ?_
      refine r_aload_n dX7_readMacro_82 (by first | rfl | assumption) ?_
      refine r_callV0 dX7_readMacro_83 zm_X7_216 (by assumption) rfl (Nat.le_of_ble_eq_true rfl) (Nat.le_of_ble_eq_true rfl) (C_X7_tellUnended h) (fun v S8 hv => ?_)
      obtain ⟨rfl, h3⟩ := hv
      refine r_ireturn dX7_readMacro_86 _ rfl rfl ⟨(0, 0, 0), c.2.2.2.2.2.2, by rw [e4]; rfl, by rw [e4]; exact XJof _ _ h3 rfl⟩
    | some o =>
      have e4 : ∀ ce, cDef c g ce = (((o + 1, g.1.2), g.2.1, g.2.2.1, g.2.2.2.1 ++ [nMa c g o ce], g.2.2.2.2), 0) := fun ce => by rw [e3, hf]
      have hol := fz_lt hf
      rw [hlm] at hol
      rw [show oI (some o) = nI o from rfl]
      refine r_if_ge_t (tgt := 87) dX7_readMacro_79 (by decide) (show nI 0 ≤ nI o from nI_le (Nat.zero_le _) (by omega)) ?_
      refine r_aload_n dX7_readMacro_87 (by first | rfl | assumption) ?_
      refine r_getf dX7_readMacro_88 zf_X7_44 (by first | assumption | exact z_put_self) rfl ?_
      refine r_new dX7_readMacro_91 zn_X7_244 ?_
      have hx1 : (z_new S9 (.inr (3, [.int 0, .int 0, .int 0, .int 0, .null, .null])) 6).2.2 1 = _ := (va_up_ne _ _ (show 1 ≠ S9.1 by omega)).trans hx
      have hs1 : (z_new S9 (.inr (3, [.int 0, .int 0, .int 0, .int 0, .null, .null])) 6).2.2 2 = _ := (va_up_ne _ _ (show 2 ≠ S9.1 by omega)).trans hs0
      have ht1 : (z_new S9 (.inr (3, [.int 0, .int 0, .int 0, .int 0, .null, .null])) 6).2.2 13 = _ := (va_up_ne _ _ (show 13 ≠ S9.1 by omega)).trans ht0
      have hm1 : (z_new S9 (.inr (3, [.int 0, .int 0, .int 0, .int 0, .null, .null])) 6).2.2 S9.1 = .inr (3, [.int 0, .int 0, .int 0, .int 0, .null, .null]) := va_up_self _ _ _
      have hV1 : Vw (z_new S9 (.inr (3, [.int 0, .int 0, .int 0, .int 0, .null, .null])) 6) E lB lI (B + 6) (C + 1) := h.1.more rfl rfl (fun j hj _ => va_up_ne _ _ (Nat.ne_of_lt hj))
      have hz1 : (z_new S9 (.inr (3, [.int 0, .int 0, .int 0, .int 0, .null, .null])) 6).1 = S9.1 + 1 := rfl
      have hch : S9.1 < (z_new S9 (.inr (3, [.int 0, .int 0, .int 0, .int 0, .null, .null])) 6).1 := Nat.lt_succ_self _
      generalize hSn : z_new S9 (.inr (3, [.int 0, .int 0, .int 0, .int 0, .null, .null])) 6 = Sn at hx1 hs1 ht1 hm1 hV1 hz1 hch ⊢
      refine r_dup dX7_readMacro_94 rfl ?_
      refine r_aload_n dX7_readMacro_95 (by first | rfl | assumption) ?_
      refine r_getf dX7_readMacro_96 zf_X7_30 (by first | assumption | exact z_put_self) rfl ?_
      refine r_aload_n dX7_readMacro_99 (by first | rfl | assumption) ?_
      refine r_getf dX7_readMacro_100 zf_X7_10 (by first | assumption | exact z_put_self) rfl ?_
      refine r_aload_n dX7_readMacro_103 (by first | rfl | assumption) ?_
      refine r_getf dX7_readMacro_104 zf_X7_69 (by first | assumption | exact z_put_self) rfl ?_
      refine r_ic (1) dX7_readMacro_107 rfl ?_
      refine r_isub dX7_readMacro_108 ?_
      rw [show nI g.1.1 - 1 = nI (g.1.1 - 1) by obtain ⟨k, hk9⟩ : ∃ k, g.1.1 = k + 1 := ⟨g.1.1 - 1, by omega⟩; rw [hk9]; exact nI_p1]
      refine r_callV1 dX7_readMacro_109 zm_X7_163 (by assumption) rfl (Nat.le_of_ble_eq_true rfl) (Nat.le_of_ble_eq_true rfl) (C_X5_start hs1 hV1 h.2.2.1.2.2.2.2.1) (fun v S8 hv => ?_)
      obtain ⟨hS8, rfl⟩ := hv
      subst hS8
      rw [show iAt ((lnz c.2.1).map fun q => nI q.1) (nI (g.1.1 - 1)) = nI (off7 c g) from iAt_mapf (by unfold cnt at hcn; omega) (getD_some (show g.1.1 - 1 < (lnz c.2.1).length by unfold cnt at hpo; omega))]
      refine r_aload_n dX7_readMacro_112 (by first | rfl | assumption) ?_
      refine r_getf dX7_readMacro_113 zf_X7_69 (by first | assumption | exact z_put_self) rfl ?_
      refine r_iload_n dX7_readMacro_116 (by first | rfl | assumption) ?_
      have hoff : off7 c g ≤ 65536 := by
        have := ln7_ok (c := c) (i := g.1.1 - 1) (by omega)
        have := h.1.bl h.2.2.1.2.1
        unfold off7
        omega
      refine r_callI4 dX7_readMacro_117 zm_X7_246 (Nat.le_of_ble_eq_true rfl) (Nat.le_of_ble_eq_true rfl) (V_X2_init hm1 hch ht1 (by omega) hV1 hk hst hen h2t htl (fun i hi => ⟨(htk i hi).1, by have := (htk i hi).2; omega⟩) hoff) (fun v S1 hv => ?_)
      obtain ⟨rfl, hmc, E1, lB1, lI1, hV2, hF2, eb, ei⟩ := hv
      have keepr : ∀ x, x < S9.1 → ¬ inV E x → S1.2.2 x = S9.2.2 x := fun x hx9 hn9 => by
        rw [hF2.2.2.1 x (by omega) hn9 (fun z => by have := List.mem_singleton.mp z; omega), ← hSn]
        exact va_up_ne _ _ (Nat.ne_of_lt hx9)
      have hl1 : S9.1 + 1 ≤ S1.1 := by have := hF2.1; omega
      have ha1 : isA S1 162 c.2.2.2.2.2.2.1 c.2.2.2.2.2.2.2.1 c.2.2.2.2.2.2.2.2 (g.2.2.2.1.map fun q => q.1) := by
        obtain ⟨k1, k2, k3, k4⟩ := h.a0
        refine ⟨(keepr 162 (by omega) (h.1.raw k1 (by decide) (by decide))).trans k1, k2, k3, ?_⟩
        rcases k4 with k4 | ⟨ea, gg, q, k5, k6, k7, k8⟩
        · exact Or.inl k4
        · exact Or.inr ⟨ea, gg, q, k5, by omega, (keepr ea k6 (h.1.rawA k7 (by simp) (by simp))).trans k7, k8⟩
      have ha11 := ha1.1
      have hmm : ∀ y ∈ g.2.2.2.1.map (fun q => q.1), y < S1.1 ∧ ∃ fs, S1.2.2 y = .inr (3, fs) := fun y hy => by
        obtain ⟨q, hq, rfl⟩ := List.mem_map.mp hy
        obtain ⟨k1, k2, k3⟩ := h.m0 q hq
        exact ⟨by omega, _, (keepr q.1 k2 (h.1.raw k1 (by decide) (by decide))).trans k1⟩
      refine r_callV1 dX7_readMacro_120 zm_X7_249 (by assumption) rfl (Nat.le_of_ble_eq_true rfl) (Nat.le_of_ble_eq_true rfl) (C_al_add (q := S9.1) ha1 hmc (by omega) (by rw [List.length_map]; omega) (by omega) (by omega) hmm) (fun v S2 hv => ?_)
      obtain ⟨rfl, mc', ev', cap', hA, hfr, hgr⟩ := hv
      have hlen : (g.2.2.2.1.map fun q => q.1).length = g.2.2.2.1.length := List.length_map _
      have hgr1 : (cap' = c.2.2.2.2.2.2.2.2 ∧ ev' = c.2.2.2.2.2.2.2.1 ∧ S2.1 = S1.1 ∧ S2.2.1 = S1.2.1) ∨ (ev' = .ref S1.1 ∧ S2.1 = S1.1 + 1 ∧ S2.2.1 = S1.2.1 + alN c.2.2.2.2.2.2.2.2) := by
        rcases hgr with q | ⟨-, -, q⟩
        · exact Or.inl q
        · exact Or.inr q
      rw [hz1] at hmc ei
      subst hSn
      have h6 := h.addM (o := o) (ce := (S9.1, S9.1 + 1, S9.1 + 3)) rfl hmc hV2 hF2 eb ei hA hfr hgr1
      have hx6 := h6.x0
      refine r_pop dX7_readMacro_123 rfl ?_
      refine r_aload_n dX7_readMacro_124 (by first | rfl | assumption) ?_
      refine r_iload_n dX7_readMacro_125 (by first | rfl | assumption) ?_
      refine r_ic (1) dX7_readMacro_126 rfl ?_
      refine r_iadd dX7_readMacro_127 ?_
      rw [nI_1]
      refine r_putf dX7_readMacro_128 zf_X7_69 (by first | assumption | exact z_put_self) (Nat.le_of_ble_eq_true rfl) ⟨rfl, rfl⟩ ?_
      refine r_ic (0) dX7_readMacro_131 rfl ?_
      have h7 := h6.pos (p := o + 1)
      have ke : kS (g.2.2.2.1 ++ [nMa c g o (S9.1, S9.1 + 1, S9.1 + 3)]) = kS g.2.2.2.1 + (26 + 2 * potI (mPl c.2.2.2.1 (off7 c g)).length 8) := kS_app _ _
      have kc : kC (g.2.2.2.1 ++ [nMa c g o (S9.1, S9.1 + 1, S9.1 + 3)]) = kC g.2.2.2.1 + (5 + 2 * cpt (mPl c.2.2.2.1 (off7 c g)).length 8) := kC_app _ _
      have hbud : cap' ≤ 767 ∧ S2.2.1 - S1.2.1 + 4 * (768 - cap') ≤ 4 * (768 - c.2.2.2.2.2.2.2.2) ∧ S2.1 - S1.1 + (768 - cap') ≤ 768 - c.2.2.2.2.2.2.2.2 := by
        rcases hgr with ⟨q1, -, q2, q3⟩ | ⟨q1, q2, -, q3, q4⟩
        · rw [q1]
          omega
        · rw [hlen] at q1
          have hc9 : c.2.2.2.2.2.2.2.2 = 0 ∨ 10 ≤ c.2.2.2.2.2.2.2.2 := by
            rcases h.a0.2.2.2 with ⟨-, z⟩ | ⟨-, -, -, z, -⟩
            · exact Or.inl z
            · exact Or.inr z
          rw [q2, q3, q4]
          unfold alN
          split <;> omega
      refine r_ireturn dX7_readMacro_132 _ rfl rfl ⟨(S9.1, S9.1 + 1, S9.1 + 3), (mc', ev', cap'), by rw [e4]; rfl, ?_⟩
      rw [e4]
      refine ⟨E1, lB1, lI1, _, _, h7, hbud.1, ?_, ?_⟩
      · show B + 6 + 20 + 2 * potI (mPl c.2.2.2.1 (off7 c g)).length 8 + (S2.2.1 - S1.2.1) + 4 * (768 - cap') ≤ B0 + kS (g.2.2.2.1 ++ [nMa c g o (S9.1, S9.1 + 1, S9.1 + 3)])
        rw [ke]
        omega
      · show C + 1 + 4 + 2 * cpt (mPl c.2.2.2.1 (off7 c g)).length 8 + (S2.1 - S1.1) + (768 - cap') ≤ C0 + kC (g.2.2.2.1 ++ [nMa c g o (S9.1, S9.1 + 1, S9.1 + 3)])
        rw [kc]
        omega
  by_cases q1 : (c.2.2.2.1.getD 1 t0).1 = 1
  · refine r_icmp_ne_f (tgt := 43) dX7_readMacro_26 (by decide) (q1) ?_
    have h1t : 1 < c.2.2.2.1.length := by
      rcases Nat.lt_or_ge 1 c.2.2.2.1.length with q | q
      · exact q
      · rw [List.getD_eq_getElem?_getD, List.getElem?_eq_none q] at q1
        exact absurd q1 (by decide)
    refine r_aload_n dX7_readMacro_29 (by first | rfl | assumption) ?_
    refine r_ic (1) dX7_readMacro_30 rfl ?_
    refine r_callV1 dX7_readMacro_31 zm_X7_238 (by assumption) rfl (Nat.le_of_ble_eq_true rfl) (Nat.le_of_ble_eq_true rfl) (C_X7_isTaken (i := 1) h h1t (htk 1 h1t) hms) (fun v S9 hv => ?_)
    obtain ⟨hS9, rfl⟩ := hv
    subst hS9
    by_cases q2 : tkn c g 1 = true
    · have e2 : ∀ ce, cDef c g ce = (gFl g 3, 2) := fun ce => (e1 ce).trans (if_pos ⟨q1, q2⟩)
      refine r_if_eq_f (tgt := 43) dX7_readMacro_34 (by decide) (by rw [q2]; decide) ?_
      refine r_aload_n dX7_readMacro_37 (by first | rfl | assumption) ?_
      refine r_ic (3) dX7_readMacro_38 rfl ?_
      refine r_callV1 dX7_readMacro_39 zm_X7_132 (by assumption) rfl (Nat.le_of_ble_eq_true rfl) (Nat.le_of_ble_eq_true rfl) (C_X7_tell (k := 3) h) (fun v S8 hv => ?_)
      obtain ⟨rfl, h3⟩ := hv
      refine r_ireturn dX7_readMacro_42 _ rfl rfl ⟨(0, 0, 0), c.2.2.2.2.2.2, by rw [e2]; rfl, by rw [e2]; exact XJof _ _ h3 rfl⟩
    · refine r_if_eq_t (tgt := 43) dX7_readMacro_34 (by decide) (by rw [Bool.eq_false_iff.mpr q2]; rfl) ?_
      exact l43 (fun z => q2 z.2)
  · refine r_icmp_ne_t (tgt := 43) dX7_readMacro_26 (by decide) (q1) ?_
    exact l43 (fun z => q1 z.1)
end
