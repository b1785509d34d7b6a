/-! ===== calls: fewest, cheapest ===== -/
theorem al_f : ∀ (m : Fin 32) (i : Fin 32), bi (((1 : Int32) <<< (nI m.val &&& 31)) - 1) i.val = decide (i.val < m.val) := by decide +kernel
theorem al_bi {mt : Nat} (hm : mt ≤ 31) (i : Nat) : bi (((1 : Int32) <<< (nI mt &&& 31)) - 1) i = decide (i < mt) := by
  rcases Nat.lt_or_ge i 32 with h | h
  · exact al_f ⟨mt, by omega⟩ ⟨i, h⟩
  · rw [bi_ge h, decide_eq_false (by omega)]
theorem tou_b2 (rm : Nat → Int32) (s : Int32) {m q : Nat} (hm : m < 32) (hq : q < 32) : tou rm s (nI m) q = (bi s q && bi (rm q) m) := by
  unfold tou
  rw [and1_bi, bi_and, bi_shr1 _ hq, bi_shr1 _ hm]
  cases bi s q <;> cases bi (rm q) m <;> decide
theorem tcR_at (sqs : Int32) (rm : Nat → Int32) (sq : Nat) (f : Nat → Int32) : ∀ (mt m : Nat), m < mt → tcR sqs rm sq f mt m = orb (tou rm sqs (nI m)) sq
  | 0, m, h => absurd h (Nat.not_lt_zero _)
  | mt + 1, m, h => by
    rw [tcR_s]
    by_cases e : m = mt
    · rw [e, pk_us]
    · rw [pk_un e]; exact tcR_at sqs rm sq f mt m (by omega)
theorem upG_at {co : Nat → Int32} {cn : Nat → Nat} (f : Nat → Int32) {v : Nat} (hv : v ≤ 9) : ∀ (mt : Nat), mt ≤ 31 → (∀ i, i < mt → co i = nI (cn i) ∧ cn i ≤ 9) → ∀ m, m < mt → cn m ≤ v → bi (upG co f mt v) m = true
  | 0, _, _, m, h, _ => absurd h (Nat.not_lt_zero _)
  | mt + 1, hmt, hc, m, h, hm => by
    have h1 := hc mt (by omega)
    rw [upG_s, h1.1, nI_clamp (by omega), upV]
    by_cases e : m = mt
    · rw [if_pos ⟨by rw [← e]; exact hm, by omega⟩, bi_or, bi_b1 (by omega), decide_eq_true e, Bool.or_true]
    · have ih := upG_at f hv mt (by omega) (fun i hi => hc i (by omega)) m (by omega) hm
      split
      · rw [bi_or, ih, Bool.true_or]
      · exact ih
theorem best_same {C : Int32} {sz rm rm' rm5 : Nat → Int32} {sq mt : Nat} {L sqs al : Int32} {co co' : Nat → Int32} {cn : Nat → Nat} {f22 f23 : Nat → Int32} {p : Int32} (hmt : mt ≤ 31) (hsq : sq ≤ 20) (hrm : ∀ q, q < sq → ∀ i, bi (rm q) i = true → i < mt) (he' : ∀ q, q < sq → rm' q = rm q) (he5 : ∀ q, q < sq → rm5 q = rm q) (hr : ∀ q, q < sq → ∀ F, ¬ (31 : Int32) ≤ bcE (rm q &&& F)) (hpc : ∀ q, q < sq → pc (rm q) ≤ 12 ∧ 1 ≤ pc (rm q)) (hco : ∀ i, i < 31 → 1 ≤ cn i ∧ cn i ≤ 9) (hcc : ∀ i, i < mt → co i = nI (cn i)) (hcc' : ∀ i, i < mt → co' i = nI (cn i)) (hs : ∀ q, q < sq → bi sqs q = wq C sz rm' L q) (hsl : ∀ q, bi sqs q = true → q < sq) (hal : ∀ i, bi al i = decide (i < mt)) :
    (dnA C sz rm' sq L co' mt).1 = (bk rm (upG co f23 mt) (tcR sqs rm5 sq f22 mt) co sq 20 sqs al 0 0 (279, 0, 0, p)).1 ∧ (dnA C sz rm' sq L co' mt).2.1 = (bk rm (upG co f23 mt) (tcR sqs rm5 sq f22 mt) co sq 20 sqs al 0 0 (279, 0, 0, p)).2.1 ∧ (dnA C sz rm' sq L co' mt).2.2 = (bk rm (upG co f23 mt) (tcR sqs rm5 sq f22 mt) co sq 20 sqs al 0 0 (279, 0, 0, p)).2.2.1 := by
  obtain ⟨N, hN⟩ : ∃ N : Nat, N = 2 ^ 31 := ⟨_, rfl⟩
  have hz : csf cn (bi 0) = 0 := csf_z (fun i _ => bi_0 i)
  have hb := bk_sm (up := upG co f23 mt) (to := tcR sqs rm5 sq f22 mt) (sqs := sqs) hN hmt hsq hrm hr (fun q hq => (hpc q hq).1) hco hcc (fun v m h1 h2 h3 h4 => upG_at f23 h2 mt hmt (fun i hi => ⟨hcc i hi, (hco i (by omega)).2⟩) m h3 h4) (fun m hm q hq => by rw [tcR_at _ _ _ _ _ _ hm, bi_orb _ (by omega), decide_eq_true hq, Bool.true_and, tou_b2 _ _ (by omega) (by omega), he5 q hq]) 20 sqs al 0 (279, 0, 0, p) (fun _ => False) (Nat.le_trans (fb_ct_le _ _) hsq) (fun q hq => ⟨fun h => ⟨h, fun i _ _ => bi_0 i⟩, fun h => h.1⟩) hsl (fun i h => by rw [bi_0] at h; cases h) (fun i h => by rw [hal] at h; exact of_decide_eq_true h) (fun i h => by rw [bi_0] at h; cases h) (fun X _ h _ => h) ⟨279, 0, 0, (show (279 : Int32) = nI 279 by decide), nI_0.symm, nI_0.symm, by omega, Sm_none⟩
  have hrm2 : ∀ q, q < sq → ∀ i, bi (rm' q) i = true → i < mt := fun q hq i h => by rw [he' q hq] at h; exact hrm q hq i h
  have hd := dn_sm (C := C) (sz := sz) (L := L) hN hmt hrm2 hco hcc' 21 0 0 (1000000, 0, 0) (fun _ => False) (Nat.lt_of_le_of_lt (fb_ct_le _ _) (by omega)) (fun i h => by rw [bi_0] at h; cases h) (fun i h => by rw [bi_0] at h; cases h) (fun X _ h _ => h) ⟨1000000, 0, 0, (show (1000000 : Int32) = nI 1000000 by decide), nI_0.symm, nI_0.symm, by omega, Sm_none⟩
  rw [hz, nI_0] at hb hd
  rw [← dnA] at hd
  generalize bk rm (upG co f23 mt) (tcR sqs rm5 sq f22 mt) co sq 20 sqs al 0 0 (279, 0, 0, p) = kb at hb ⊢
  generalize dnA C sz rm' sq L co' mt = kd at hd ⊢
  have hno : ∀ (i : Nat) {Q : Prop}, bi 0 i = true → Q := fun i Q h => by rw [bi_0] at h; cases h
  have hb2 : SmB cn N (fun X => (∀ i, i < 31 → X.testBit i = true → i < mt) ∧ BrW (bi sqs) rm sq X) kb := by
    refine SmI_cg hb (fun X hX => ⟨fun h => ?_, fun h => Or.inr ⟨fun i hi h2 => hno i h2, fun i hi h2 => ?_, h.2⟩⟩)
    · have h1 := h.resolve_left (fun q => q)
      refine ⟨fun i hi h2 => ?_, h1.2.2⟩
      have h3 : (bi 0 i || bi al i) = true := h1.2.1 i hi h2
      rw [bi_0, Bool.false_or, hal] at h3
      exact of_decide_eq_true h3
    · show (bi 0 i || bi al i) = true
      rw [hal, decide_eq_true (h.1 i hi h2), Bool.or_true]
  have hd2 : SmT cn N (fun X => (∀ i, i < 31 → X.testBit i = true → i < mt) ∧ BrW (bi sqs) rm sq X) kd := by
    refine SmI_cg hd (fun X hX => ⟨fun h => ?_, fun h => Or.inr ⟨fun i hi h2 => hno i h2, fun i hi h2 => ?_, fun q hq h2 => ?_⟩⟩)
    · have h1 := h.resolve_left (fun q => q)
      refine ⟨fun i hi h2 => ?_, fun q hq h2 => ?_⟩
      · have h3 : (decide (i < mt) && !bi 0 i) = true := h1.2.1 i hi h2
        rw [Bool.and_eq_true] at h3
        exact of_decide_eq_true h3.1
      · obtain ⟨i, h3, h4, h5⟩ := h1.2.2 q hq (by rw [← hs q hq]; exact h2)
        rw [he' q hq] at h4
        exact ⟨i, h3, h4, h5⟩
    · show (decide (i < mt) && !bi 0 i) = true
      rw [decide_eq_true (h.1 i hi h2), bi_0]; rfl
    · obtain ⟨i, h3, h4, h5⟩ := h.2 q hq (by rw [hs q hq]; exact h2)
      exact ⟨i, h3, by rw [he' q hq]; exact h4, h5⟩
  have hpw : (2 : Nat) ^ mt ≤ 2 ^ 31 := Nat.pow_le_pow_right (by omega) hmt
  have hpw1 : 0 < (2 : Nat) ^ mt := Nat.pow_pos (by decide)
  have hX : (∀ i, i < 31 → (2 ^ mt - 1).testBit i = true → i < mt) ∧ BrW (bi sqs) rm sq (2 ^ mt - 1) := by
    refine ⟨fun i hi h => ?_, fun q hq h => ?_⟩
    · rw [Nat.testBit_two_pow_sub_one] at h; exact of_decide_eq_true h
    · obtain ⟨i, h1, h2⟩ := fb_ct_pos.mp (show 0 < fb_ct (bi (rm q)) 32 from (hpc q hq).2)
      have h3 := hrm q hq i h2
      exact ⟨i, by omega, h2, by rw [Nat.testBit_two_pow_sub_one]; exact decide_eq_true h3⟩
  have hbd : csf cn (2 ^ mt - 1).testBit ≤ 279 := csf_bd (fun i hi => (hco i hi).2)
  obtain ⟨b1', l1, k1, x1, x2, x3, x4, x5⟩ := hb2
  obtain ⟨b2', l2, k2, y1, y2, y3, y4, y5⟩ := hd2
  have hN1 : 2 ^ mt - 1 < N := by omega
  have hk1 := Sm_pos x5 hN1 hX hbd
  have hk2 := Sm_pos y5 hN1 hX (Nat.le_trans hbd (by decide))
  obtain ⟨z1, z2, z3⟩ := Sm_one y5 x5 hk2 hk1
  exact ⟨by rw [y1, x1, z1], by rw [y2, x2, z2], by rw [y3, x3, z3]⟩
section FC
variable {Z : List (Option Nat)} {ext : List Ds} {M : Mm}
theorem few_rims {w h : Nat} (hG : GrI w h M) (hf : GF w h) : ∀ q, q < sqN w h → ∀ F, ¬ (31 : Int32) ≤ bcE (M 5 q &&& F) := by
  intro q hq F
  rw [(hG.2.2.1 q hq).1.2.2.2, bcE_pc, show (31 : Int32) = nI 31 by decide]
  have h1 : pc (rmF w h q &&& F) ≤ pc (rmF w h q) := ct_mono (fun k hk h => by rw [bi_and, Bool.and_eq_true] at h; exact h.1)
  have h2 := (hf.2.2.2.2.2 q hq).2.1
  exact nI_ge (by omega) (by omega)
theorem few_sqs {w h : Nat} (hG : GrI w h M) (hf : GF w h) : ∀ i, bi (lsq (M 10 1) (M 6) (M 5) (sqN w h) (M 10 0)) i = true → i < sqN w h := by
  intro i h1
  rcases Nat.lt_or_ge i 32 with h2 | h2
  · rw [bi_ls hG hf _ _ h2, Bool.and_eq_true] at h1
    exact of_decide_eq_true h1.1
  · rw [bi_ge h2] at h1; cases h1
theorem few_psv {w h : Nat} (hG : GrI w h M) (hf : GF w h) : psv (((1 : Int32) <<< (M 1 2 &&& 31)) - 1) := by
  have hm := hf.2.2.1
  unfold psv
  rw [hG.1.2.2.1, al_bi hm]
  exact decide_eq_false (by omega)
theorem few_same {w h : Nat} (hG : GrI w h M) (hf : GF w h) (hT : ImE (mtN w h) 10 0 M) {cc co' : Nat → Int32} {f20 f21 f22 f23 : Nat → Int32} {p : Int32} (hcc : ∀ k, k < 31 → ∃ c, 1 ≤ c ∧ c ≤ 9 ∧ cc k = nI c) (hcc' : ∀ i, i < 31 → co' i = cc i) :
    (dnA (M 49 32) (M 51) (M 54) (sqN w h) (M 49 0) co' (mtN w h)).1 = (bk (va_cpy (M 5) f21 0 0 20) (upG (va_cpy cc f20 0 0 31) f23 (mtN w h)) (tcR (lsq (M 10 1) (M 6) (M 5) (sqN w h) (M 10 0)) (M 5) (sqN w h) f22 (mtN w h)) (va_cpy cc f20 0 0 31) (sqN w h) 20 (lsq (M 10 1) (M 6) (M 5) (sqN w h) (M 10 0)) (((1 : Int32) <<< (M 1 2 &&& 31)) - 1) 0 0 (279, 0, 0, p)).1 ∧ (dnA (M 49 32) (M 51) (M 54) (sqN w h) (M 49 0) co' (mtN w h)).2.1 = (bk (va_cpy (M 5) f21 0 0 20) (upG (va_cpy cc f20 0 0 31) f23 (mtN w h)) (tcR (lsq (M 10 1) (M 6) (M 5) (sqN w h) (M 10 0)) (M 5) (sqN w h) f22 (mtN w h)) (va_cpy cc f20 0 0 31) (sqN w h) 20 (lsq (M 10 1) (M 6) (M 5) (sqN w h) (M 10 0)) (((1 : Int32) <<< (M 1 2 &&& 31)) - 1) 0 0 (279, 0, 0, p)).2.1 ∧ (dnA (M 49 32) (M 51) (M 54) (sqN w h) (M 49 0) co' (mtN w h)).2.2 = (bk (va_cpy (M 5) f21 0 0 20) (upG (va_cpy cc f20 0 0 31) f23 (mtN w h)) (tcR (lsq (M 10 1) (M 6) (M 5) (sqN w h) (M 10 0)) (M 5) (sqN w h) f22 (mtN w h)) (va_cpy cc f20 0 0 31) (sqN w h) 20 (lsq (M 10 1) (M 6) (M 5) (sqN w h) (M 10 0)) (((1 : Int32) <<< (M 1 2 &&& 31)) - 1) 0 0 (279, 0, 0, p)).2.2.1 := by
  have h20 := hf.1
  have hmt := hf.2.2.1
  have hcn : ∀ i, i < 31 → (1 ≤ (cc i).toNatClampNeg ∧ (cc i).toNatClampNeg ≤ 9) ∧ cc i = nI (cc i).toNatClampNeg := fun i hi => by
    obtain ⟨c, h1, h2, h3⟩ := hcc i hi
    rw [h3, nI_clamp (by omega)]
    exact ⟨⟨h1, h2⟩, rfl⟩
  have hrmq : ∀ q, q < sqN w h → va_cpy (M 5) f21 0 0 20 q = rmF w h q := fun q hq => by rw [cpy_in (by omega)]; exact (hG.2.2.1 q hq).1.2.2.2
  refine best_same (cn := fun i => (cc i).toNatClampNeg) hmt h20 (fun q hq i h1 => ?_) (fun q hq => ?_) (fun q hq => ?_) (fun q hq F => ?_) (fun q hq => ?_) (fun i hi => (hcn i hi).1) (fun i hi => ?_) (fun i hi => ?_) (fun q hq => ?_) (few_sqs hG hf) (fun i => ?_)
  · rw [hrmq q hq] at h1
    exact (hf.2.2.2.2.2 q hq).1 i h1
  · rw [hrmq q hq]; exact (hG.2.2.1 q hq).2.2.2.2
  · rw [hrmq q hq]; exact (hG.2.2.1 q hq).1.2.2.2
  · rw [cpy_in (by omega)]; exact few_rims hG hf q hq F
  · rw [hrmq q hq]; exact (hf.2.2.2.2.2 q hq).2
  · rw [cpy_in (by omega)]; exact (hcn i (by omega)).2
  · rw [hcc' i (by omega)]; exact (hcn i (by omega)).2
  · rw [bi_ls hG hf _ _ (by omega), decide_eq_true hq, Bool.true_and, wq, cntq_lies, (hG.2.2.1 q hq).2.1, hT.1, show M 49 32 = M 10 1 from hT.2.1]
    unfold inq
    rw [(hG.2.2.1 q hq).2.2.2.2]
  · rw [hG.1.2.2.1]; exact al_bi hmt i
theorem op_fewest (hI : Inv Z ext M) (a : Int32) : OpI mX9_fewest mX10_fewest [.int a] Z ext M := by
  obtain ⟨w, h, n0, k0, k1, hw, hG, hT, hIm, hP, hS, hF1, hF2, hF3⟩ := id hI
  have hf := gf hw
  cases hx : rg a 0 2 with
  | false => exact op_pure hI (c_fewestX a hx) (c_m_fewestX a hx) rfl
  | true =>
    have hcos : ∀ k, k < 31 → ∃ c, 1 ≤ c ∧ c ≤ 9 ∧ M 40 k = nI c := fun k hk => ⟨1, by decide, by decide, by rw [hF3 k hk]; decide⟩
    refine op_eq hI (c_fewest (Z := Z) (ext := ext) (M := M) (sq := sqN w h) (mt := mtN w h) a hx rfl hG.1.2.2.1 hf.2.2.1 hG.1.2.2.2 hf.1 (few_rims hG hf) hcos (few_sqs hG hf) (few_psv hG hf) rfl rfl) (fun M1 hI1 hE => ?_)
    obtain ⟨e49, e51, e54, e4, e5, -, -⟩ := eqm_rf hE
    have hr := c_m_fewest (Z := Z) (ext := ext) (M := M1) (mt := mtN w h) (sq := sqN w h) a hx (by rw [e5]; exact hG.2.1.2.2.2) hf.1 (by rw [e4]; exact hG.2.1.2.2.1) hf.2.2.1
    rw [e49, e51, e54] at hr
    have hb := few_same (p := M 19 8) (f20 := M 20) (f21 := M 21) (f22 := M 22) (f23 := fillv 10 0 (M 23)) hG hf hT (cc := M 40) (co' := cof M1 false) hcos (fun i hi => by rw [hF3 i hi]; rfl)
    refine Ct.imp hr (fun r M' q => ⟨?_, q.2⟩)
    rw [q.1]
    refine oi ?_
    unfold vFew vFewR
    rw [hb.1, hb.2.1, hb.2.2]
theorem op_cheapest (hI : Inv Z ext M) (a : Int32) : OpI mX9_cheapest mX10_cheapest [.int a] Z ext M := by
  obtain ⟨w, h, n0, k0, k1, hw, hG, hT, hIm, hP, hS, hF1, hF2, hF3⟩ := id hI
  have hf := gf hw
  cases hx : rg a 0 1 with
  | false => exact op_pure hI (c_cheapestX a hx) (c_m_cheapestX a hx) rfl
  | true =>
    have hcos : ∀ k, k < 31 → ∃ c, 1 ≤ c ∧ c ≤ 9 ∧ M 11 k = nI c := hT.2.2.2.2.2
    refine op_eq hI (c_cheapest (Z := Z) (ext := ext) (M := M) (sq := sqN w h) (mt := mtN w h) a hx rfl hG.1.2.2.1 hf.2.2.1 hG.1.2.2.2 hf.1 (few_rims hG hf) hcos (few_sqs hG hf) (few_psv hG hf) rfl rfl) (fun M1 hI1 hE => ?_)
    obtain ⟨e49, e51, e54, e4, e5, -, -⟩ := eqm_rf hE
    have hr := c_m_cheapest (Z := Z) (ext := ext) (M := M1) (mt := mtN w h) (sq := sqN w h) a hx (by rw [e5]; exact hG.2.1.2.2.2) hf.1 (by rw [e4]; exact hG.2.1.2.2.1) hf.2.2.1
    rw [e49, e51, e54] at hr
    have hb := few_same (p := M 19 8) (f20 := M 20) (f21 := M 21) (f22 := M 22) (f23 := fillv 10 0 (M 23)) hG hf hT (cc := M 11) (co' := cof M1 true) hcos (fun i hi => by
      have h1 := hT.2.2.1 i hi
      rw [show 0 + 1 + i = i + 1 by omega] at h1
      show M1 49 (i + 1) = M 11 i
      rw [e49]
      exact h1)
    refine Ct.imp hr (fun r M' q => ⟨?_, q.2⟩)
    rw [q.1]
    refine oi ?_
    unfold vChe vCheR
    rw [hb.1, hb.2.1]
end FC
