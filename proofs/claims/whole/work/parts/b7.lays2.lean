/-! ===== calls: laying, boxes ===== -/
theorem mdb_ct (nd : Nat → Int32) (x b : Int32) : ∀ n, mdb nd x b n = nI (fb_ct (fun q => decide (nd q &&& x = b)) n)
  | 0 => rfl
  | n + 1 => by
    rw [mdb_s, fb_ct_succ, mdb_ct nd x b n]
    cases decide (nd n &&& x = b)
    · rfl
    · exact nI_1 _
theorem row_ct (P : Int32 → Bool) (cs : Int32) (rn f : Nat → Int32) (h0 : P 0 = false) : ∀ N, fb_ct (fun q => P (rowL (ndL cs rn N) f q)) (ndL cs rn N).length = fb_ct (fun q => lies cs (nI q) && P (rn q)) N
  | 0 => rfl
  | N + 1 => by
    have ih := row_ct P cs rn f h0 N
    rw [ndL_s, fb_ct_succ]
    by_cases hc : (lies cs (nI N) && !decide (rn N = 0)) = true
    · rw [if_pos hc, ← rowL_push, List.length_append, List.length_singleton, fb_ct_succ, ← ih]
      rw [Bool.and_eq_true] at hc
      rw [ct_congr (p := fun q => P (upd (rowL (ndL cs rn N) f) (ndL cs rn N).length (rn N) q)) (q := fun q => P (rowL (ndL cs rn N) f q)) (fun q hq => by unfold upd; rw [if_neg (by omega)])]
      congr 1
      rw [hc.1, Bool.true_and]
      unfold upd
      rw [if_pos rfl]
    · rw [if_neg hc, ih]
      have : (lies cs (nI N) && P (rn N)) = false := by
        cases hl : lies cs (nI N) with
        | false => rfl
        | true =>
          rw [hl, Bool.true_and] at hc
          have hz : rn N = 0 := by
            refine Classical.byContradiction (fun q => hc ?_)
            rw [decide_eq_false q]; rfl
          rw [hz, h0]; rfl
      rw [this]
      rfl
theorem pow_tab : (List.range 4096).all (fun t => decide (t = 0) || !decide (t &&& (t - 1) = 0) || (List.range 12).any (fun i => decide (t = 2 ^ i))) = true := by decide +kernel
theorem b1_pow : ∀ k, k < 12 → b1 k &&& (b1 k - 1) = 0 := by decide
theorem one_bit {z : Int32} {j : Nat} (hj : j < 4096) (h : (z &&& nI j) &&& ((z &&& nI j) - 1) = 0) : z &&& nI j = 0 ∨ ∃ i, i < 12 ∧ z &&& nI j = b1 i := by
  obtain ⟨t, ht, e, hb⟩ := to_nI (z &&& nI j)
  have h12 : t < 2 ^ 12 := by
    refine Nat.lt_pow_two_of_testBit t (fun i hi => ?_)
    rw [← hb, bi_and, bi_nI, Nat.testBit_lt_two_pow (Nat.lt_of_lt_of_le hj (show 4096 ≤ 2 ^ i from Nat.le_trans (by decide) (Nat.pow_le_pow_right (by decide) hi))), Bool.and_false, Bool.and_false]
  rcases Nat.eq_zero_or_pos t with h0 | h0
  · left; rw [e, h0]; rfl
  · right
    obtain ⟨s, rfl⟩ : ∃ s, t = s + 1 := ⟨t - 1, by omega⟩
    rw [e, nI_pred] at h
    have h2 : (s + 1) &&& s = 0 := by
      refine Nat.eq_of_testBit_eq (fun i => ?_)
      have := congrArg (fun y => bi y i) h
      simp only [bi_and, bi_nI, bi_0] at this
      rw [Nat.testBit_and, Nat.zero_testBit]
      rcases Nat.lt_or_ge i 32 with hi | hi
      · rw [decide_eq_true hi, Bool.true_and, Bool.true_and] at this; exact this
      · rw [Nat.testBit_lt_two_pow (Nat.lt_of_lt_of_le ht (Nat.pow_le_pow_right (by decide) hi))]; rfl
    have hp := List.all_eq_true.mp pow_tab (s + 1) (List.mem_range.mpr (by omega))
    rw [decide_eq_false (by omega), Nat.add_sub_cancel, decide_eq_true h2] at hp
    simp only [Bool.not_true, Bool.or_false, Bool.false_or, List.any_eq_true, List.mem_range, decide_eq_true_eq] at hp
    obtain ⟨i, i1, i2⟩ := hp
    exact ⟨i, i1, by rw [e, i2]; exact (tb_sh (by omega)).symm⟩
theorem clo_bi (nd : Nat → Int32) {j k : Nat} (hj : j < 4096) (hk : k < 12) : ∀ n, bi (clo nd (nI j) n) k = true ↔ ∃ q, q < n ∧ nd q &&& nI j = b1 k
  | 0 => by
    rw [show clo nd (nI j) 0 = 0 from rfl, bi_0]
    exact ⟨fun h => absurd h (by decide), fun ⟨q, h, _⟩ => absurd h (by omega)⟩
  | n + 1 => by
    have ih := clo_bi nd hj hk n
    rw [clo_s]
    by_cases hc : (nd n &&& nI j) &&& ((nd n &&& nI j) - 1) = 0
    · rw [decide_eq_true hc, if_pos rfl, bi_or, Bool.or_eq_true, ih]
      have hb : bi (nd n &&& nI j) k = true ↔ nd n &&& nI j = b1 k := by
        rcases one_bit hj hc with h | ⟨i, i1, h⟩
        · rw [h, bi_0]
          refine ⟨fun q => absurd q (by decide), fun q => ?_⟩
          have := congrArg (fun y => bi y k) q
          simp only [bi_0, bi_b1 (show k < 32 by omega), decide_true] at this
          cases this
        · rw [h, bi_b1 (by omega), decide_eq_true_eq]
          refine ⟨fun q => by rw [q], fun q => ?_⟩
          have := congrArg (fun y => bi y k) q
          simp only [bi_b1 (show k < 32 by omega), bi_b1 (show i < 32 by omega), decide_true] at this
          exact of_decide_eq_true this
      rw [hb]
      constructor
      · rintro (⟨q, q1, q2⟩ | q)
        · exact ⟨q, by omega, q2⟩
        · exact ⟨n, by omega, q⟩
      · rintro ⟨q, q1, q2⟩
        rcases (show q = n ∨ q < n by omega) with rfl | h
        · exact Or.inr q2
        · exact Or.inl ⟨q, h, q2⟩
    · rw [decide_eq_false hc, if_neg (by decide), ih]
      constructor
      · rintro ⟨q, q1, q2⟩; exact ⟨q, by omega, q2⟩
      · rintro ⟨q, q1, q2⟩
        rcases (show q = n ∨ q < n by omega) with rfl | h
        · rw [q2] at hc; exact absurd (b1_pow k hk) hc
        · exact ⟨q, h, q2⟩
theorem b1_n0 {k : Nat} (hk : k < 32) : ¬ b1 k = 0 := fun q => by
  have := congrArg (fun y => bi y k) q
  simp only [bi_0, bi_b1 hk, decide_true] at this
  cases this
theorem rem_one {y : Int32} {j k : Nat} (hk : k < 32) (hb : j.testBit k = true) : (!decide (y &&& nI j = 0) && !decide (y &&& nI j = b1 k)) = !decide (y &&& nI (j ^^^ 2 ^ k) = 0) := by
  have hbit : ∀ i, i < 32 → bi (y &&& nI (j ^^^ 2 ^ k)) i = (bi (y &&& nI j) i && !decide (i = k)) := by
    intro i hi
    rw [bi_and, bi_and, bi_nI, bi_nI, Nat.testBit_xor, Nat.testBit_two_pow, decide_eq_true hi, Bool.true_and, Bool.true_and]
    by_cases h : k = i
    · subst h; rw [hb, decide_eq_true rfl]; simp
    · rw [decide_eq_false h, decide_eq_false (fun q => h q.symm)]; simp
  by_cases h0 : y &&& nI j = 0
  · rw [decide_eq_true h0, decide_eq_true (bi_z (fun i hi => by rw [hbit i hi, h0, bi_0]; rfl))]; rfl
  · by_cases h1 : y &&& nI j = b1 k
    · have hz : y &&& nI (j ^^^ 2 ^ k) = 0 := bi_z (fun i hi => by rw [hbit i hi, h1, bi_b1 hk]; cases decide (i = k) <;> rfl)
      rw [decide_eq_true h1, decide_eq_true hz, Bool.not_true, Bool.and_false]
    · have : ¬ y &&& nI (j ^^^ 2 ^ k) = 0 := by
        intro hz
        have hi : ∀ i, i < 32 → ¬ i = k → bi (y &&& nI j) i = false := fun i hi hne => by
          have := congrArg (fun z => bi z i) hz
          simp only [bi_0] at this
          rw [hbit i hi, decide_eq_false hne, Bool.not_false, Bool.and_true] at this
          exact this
        cases hk2 : bi (y &&& nI j) k with
        | false => exact h0 (bi_z (fun i hi2 => by by_cases h : i = k; · rw [h]; exact hk2
                                                   · exact hi i hi2 h))
        | true =>
          refine h1 (bi_ext (fun i hi2 => ?_))
          rw [bi_b1 hk]
          by_cases h : i = k
          · rw [h, hk2]; exact (decide_eq_true rfl).symm
          · rw [hi i hi2 h]; exact (decide_eq_false h).symm
      rw [decide_eq_false h0, decide_eq_false h1, decide_eq_false this]; rfl
theorem lay_bi {L g r : Int32} {mt j : Nat} (f : Nat → Int32) (hb : mt ≤ 31) (hg : ∀ i, i < 32 → bi g i = (decide (i < mt) && !bi L i)) (hr : ∀ i, bi r i = true → i < mt) (hj : j < 2 ^ fsC g mt) : sbs r (L ||| ofR (fsR g f mt) (nI j) (fsC g mt)) = decide (rnm (fsR g f mt) r (fsC g mt) &&& nI (cmpl (fsC g mt) j) = 0) := by
  obtain ⟨e, h1, h2, h3, h4⟩ := fs_e g f mt (by omega)
  have hfl := fsC_le g mt
  have hE : ∀ k, k < fsC g mt → fsR g f mt k = nI (e k) ∧ e k < 32 := fun k hk => ⟨(h1 k hk).1, by have := (h1 k hk).2.1; omega⟩
  have inj : ∀ a b, a < fsC g mt → b < fsC g mt → e a = e b → a = b := by
    intro a b ha hb2 hab
    rcases Nat.lt_trichotomy a b with h | h | h
    · have := h3 a b h hb2; omega
    · exact h
    · have := h3 b a h ha; omega
  refine bool_iff ?_
  rw [sbs_bi, decide_eq_true_eq]
  constructor
  · intro h
    refine bi_z (fun k hk => ?_)
    rw [bi_and, rnm_bi r (by omega) hE, bi_nI, decide_eq_true hk, Bool.true_and, cmpl_tb hj]
    by_cases hkp : k < fsC g mt
    · rw [decide_eq_true hkp, Bool.true_and, Bool.true_and]
      cases hrk : bi r (e k) with
      | false => rfl
      | true =>
        have := h (e k) (hE k hkp).2 hrk
        have hgk := (h1 k hkp).2.2
        rw [hg _ (hE k hkp).2, Bool.and_eq_true, Bool.not_eq_true'] at hgk
        rw [bi_or, hgk.2, Bool.false_or, ofR_mvd] at this
        obtain ⟨k2, g1, g2, g3⟩ := (mv_bi (by omega) hE (e k)).mp this
        rw [inj k2 k g1 hkp g3, bi_nI, decide_eq_true hk, Bool.true_and] at g2
        rw [g2]; rfl
    · rw [decide_eq_false hkp]; rfl
  · intro h i hi hri
    rw [bi_or]
    cases hLi : bi L i with
    | true => rfl
    | false =>
      have him := hr i hri
      obtain ⟨k, k1, rfl⟩ := h2 i him (by rw [hg i hi, decide_eq_true him, hLi]; rfl)
      rw [Bool.false_or, ofR_mvd]
      refine (mv_bi (by omega) hE _).mpr ⟨k, k1, ?_, rfl⟩
      have := congrArg (fun y => bi y k) h
      simp only [bi_0] at this
      rw [bi_and, rnm_bi r (by omega) hE, bi_nI, decide_eq_true (show k < 32 by omega), Bool.true_and, cmpl_tb hj, decide_eq_true k1, hri] at this
      rw [bi_nI, decide_eq_true (show k < 32 by omega), Bool.true_and]
      cases ht : j.testBit k with
      | true => rfl
      | false => rw [ht] at this; cases this
def rnL (M : Mm) (g : Int32) (mt q : Nat) : Int32 := rnm (fsR g (M 34) mt) (M 5 q) (fsC g mt)
def Dl (M : Mm) (g cs : Int32) (mt sq j k : Nat) : Nat := fb_ct (fun q => lies cs (nI q) && decide (rnL M g mt q &&& nI j = b1 k)) sq
def Rl (M : Mm) (g cs : Int32) (mt sq j : Nat) : Nat := fb_ct (fun q => lies cs (nI q) && !decide (rnL M g mt q &&& nI j = 0)) sq
def Al (M : Mm) (g cs : Int32) (mt sq j : Nat) : Nat := fb_ct (fun q => lies cs (nI q) && decide (rnL M g mt q &&& nI (cmpl (fsC g mt) j) = 0)) sq
theorem lay_gd (M : Mm) (g cs : Int32) {mt sq : Nat} (hs : sq ≤ 20) (hp : fsC g mt ≤ 12) : Gd (suM M g cs sq mt 35) (ndL cs (fun q => rnm (fsR g (M 34) mt) (M 5 q) (fsC g mt)) sq).length (fsC g mt) (Dl M g cs mt sq) (Rl M g cs mt sq) := by
  have hp12 := pow12 hp
  have hn := ndL_len cs (fun q => rnm (fsR g (M 34) mt) (M 5 q) (fsC g mt)) sq
  have hct : ∀ j k, k < fsC g mt → fb_ct (fun q => decide (suM M g cs sq mt 35 q &&& nI j = b1 k)) (ndL cs (fun q => rnm (fsR g (M 34) mt) (M 5 q) (fsC g mt)) sq).length = Dl M g cs mt sq j k := fun j k hk => row_ct (fun y => decide (y &&& nI j = b1 k)) cs (fun q => rnm (fsR g (M 34) mt) (M 5 q) (fsC g mt)) (M 35) (by rw [Int32.zero_and]; exact decide_eq_false (fun q => b1_n0 (by omega) q.symm)) sq
  refine ⟨fun j k hj hk hb => ?_, fun j k hj hk hb => ?_, fun j k hj hk hb => ?_, fun j hj => ?_⟩
  · rw [mdb_ct, hct j k hk]
  · rw [and_b1 _ (by omega), ← hct j k hk]
    refine bool_iff ?_
    rw [Bool.not_eq_true', decide_eq_true_eq]
    have hc := clo_bi (suM M g cs sq mt 35) (j := j) (k := k) (by omega) (by omega) (ndL cs (fun q => rnm (fsR g (M 34) mt) (M 5 q) (fsC g mt)) sq).length
    constructor
    · intro h
      refine ct_zero (fun q hq => decide_eq_false (fun e => ?_))
      rw [hc.mpr ⟨q, hq, e⟩] at h; cases h
    · intro h
      cases hb2 : bi (clo (suM M g cs sq mt 35) (nI j) (ndL cs (fun q => rnm (fsR g (M 34) mt) (M 5 q) (fsC g mt)) sq).length) k with
      | false => rfl
      | true =>
        obtain ⟨q, q1, q2⟩ := hc.mp hb2
        have := ct_none h q q1
        rw [decide_eq_true q2] at this; cases this
  · unfold Rl Dl
    rw [ct_part (fun q => lies cs (nI q) && !decide (rnL M g mt q &&& nI j = 0)) (fun q => decide (rnL M g mt q &&& nI j = b1 k)) sq, Nat.add_comm]
    congr 1
    · refine ct_congr (fun q _ => ?_)
      by_cases h : rnL M g mt q &&& nI j = b1 k
      · rw [decide_eq_true h, decide_eq_false (fun z => b1_n0 (show k < 32 by omega) (h.symm.trans z))]
        simp
      · rw [decide_eq_false h]; simp
    · refine ct_congr (fun q _ => ?_)
      rw [← rem_one (show k < 32 by omega) hb, Bool.and_assoc]
  · have := ct_le (fun q => lies cs (nI q) && !decide (rnL M g mt q &&& nI j = 0)) sq
    unfold Rl
    omega
theorem lay_step (M : Mm) (g cs : Int32) {mt sq : Nat} (hs : sq ≤ 20) (hp : fsC g mt ≤ 12) {j k : Nat} (hj : j < 2 ^ fsC g mt) (hk : k < fsC g mt) (hb : j.testBit k = false) : Al M g cs mt sq (j ||| 2 ^ k) = Al M g cs mt sq j + Dl M g cs mt sq (cmpl (fsC g mt) j) k := by
  have tot : ∀ i, fb_ct (fun q => lies cs (nI q)) sq = Al M g cs mt sq i + Rl M g cs mt sq (cmpl (fsC g mt) i) := fun i => ct_part (fun q => lies cs (nI q)) (fun q => decide (rnL M g mt q &&& nI (cmpl (fsC g mt) i) = 0)) sq
  have t1 := tot j
  have t2 := tot (j ||| 2 ^ k)
  rw [cmpl_or hj hk hb] at t2
  have t3 := (lay_gd M g cs hs hp).sum (cmpl (fsC g mt) j) k (cmpl_lt _ _) hk (by rw [cmpl_tb hj, decide_eq_true hk, hb]; rfl)
  omega
theorem lay_lef {w h : Nat} {M : Mm} (hG : GrI w h M) (hf : GF w h) {C L g : Int32} (f : Nat → Int32) (hg : ∀ i, i < 32 → bi g i = (decide (i < mtN w h) && !bi L i)) {j : Nat} (hj : j < 2 ^ fsC g (mtN w h)) : lefL C (M 51) (M 54) (sqN w h) L (fsR g f (mtN w h)) (fsC g (mtN w h)) j = nI (Al M g (csq C (M 6) 3) (mtN w h) (sqN w h) j) := by
  have h20 := hf.1
  unfold lefL Al
  rw [Lf_F hG, Lf_ct]
  congr 1
  refine ct_congr (fun q hq => ?_)
  rw [lies_bi _ (by omega), bi_cs hG hf C (by omega), decide_eq_true hq, Bool.true_and, cntq_lies]
  congr 1
  unfold rnL
  rw [(hG.2.2.1 q hq).1.2.2.2, ← lay_bi (M 34) hf.2.2.1 hg (hf.2.2.2.2.2 q hq).1 hj, ofR_cg (fsR_same g f (M 34) (mtN w h))]
  rfl
theorem lay_fin {R : Nat → Nat} {j : Nat} (b : Int32) (B : Int32) (x : Int32) (h : -(Bd R false j) ≤ B.toInt ∧ B.toInt ≤ Bd R false j) : (if decide (x = 1) then b else if decide (B ≤ 0) then (if decide (0 ≤ B) then 0 else 2) else 1) = (if decide (x = 1) then b else if decide (0 ≤ B) then B else 2) := by
  have h0 : (0 : Int32).toInt = 0 := by decide
  have h1 : (1 : Int32).toInt = 1 := by decide
  unfold Bd at h
  simp only [Bool.false_eq_true, if_false] at h
  cases decide (x = 1) with
  | true => rfl
  | false =>
    rcases (show B.toInt = -1 ∨ B.toInt = 0 ∨ B.toInt = 1 by omega) with e | e | e
    · rw [decide_eq_true (show B ≤ 0 by rw [fa_le, h0]; omega), decide_eq_false (show ¬ 0 ≤ B by rw [fa_le, h0]; omega)]; rfl
    · have : B = 0 := Int32.toInt_inj.mp (by rw [e, h0])
      rw [this]; rfl
    · have : B = 1 := Int32.toInt_inj.mp (by rw [e, h1])
      rw [this]; rfl
theorem lay_fin2 {R : Nat → Nat} {j : Nat} {b b' B G0 x : Int32} (hb : b' = b) (hG : G0 = B) (h : -(Bd R false j) ≤ B.toInt ∧ B.toInt ≤ Bd R false j) : (if decide (x = 1) then b' else if decide (G0 ≤ 0) then (if decide (0 ≤ G0) then 0 else 2) else 1) = (if decide (x = 1) then b else if decide (0 ≤ B) then B else 2) := by
  subst hb
  subst hG
  exact lay_fin _ _ x h
theorem box_fin (b B x : Int32) (hx : rg x 0 1 = true) : (if decide (x = 1) then b else B + 100) = (if decide (x = 0) then B + 100 else b) := by
  obtain ⟨n, h1, h2, rfl⟩ := rg_nat (x := x) (a := 0) (b := 1) (by decide) (by decide) hx
  rcases (show n = 0 ∨ n = 1 by omega) with rfl | rfl
  · rfl
  · rfl
section LO
variable {Z : List (Option Nat)} {ext : List Ds} {M : Mm}
theorem op_laying (hI : Inv Z ext M) (x : Int32) : OpI mX9_laying mX10_laying [.int x] Z ext M := by
  obtain ⟨w, h, n0, k0, k1, hw, hG, hT, hIm, hP, hS, hF1, hF2, hF3⟩ := id hI
  have hf := gf hw
  have h20 := hf.1
  have hmb := hf.2.2.1
  have hL := hT.2.2.2.2.1
  have hal : ((1 : Int32) <<< (M 1 2 &&& 31)) - 1 = al (mtN w h) := by rw [hG.1.2.2.1]; rfl
  have bal : ∀ i, i < 32 → bi (al (mtN w h)) i = decide (i < mtN w h) := bi_al0 _ (by omega)
  have hg : ∀ i, i < 32 → bi (al (mtN w h) &&& (M 10 0 ^^^ (-1))) i = (decide (i < mtN w h) && !bi (M 10 0) i) := fun i hi => by rw [bi_and, bal i hi, bi_not, decide_eq_true hi, Bool.true_and]
  generalize hge : al (mtN w h) &&& (M 10 0 ^^^ (-1)) = g at hg
  have hgb : ∀ i, bi g i = true → i < mtN w h := fun i hi => by
    rcases Nat.lt_or_ge i 32 with h | h
    · rw [hg i h, Bool.and_eq_true] at hi; exact of_decide_eq_true hi.1
    · rw [bi_ge h] at hi; cases hi
  have hpc := fsC_pc hgb hmb
  have hfl := fsC_le g (mtN w h)
  have hz : g = 0 ↔ fsC g (mtN w h) = 0 := by
    rw [fsC_ct g (by omega)]
    constructor
    · intro h0; rw [h0]; exact ct_zero (fun k _ => bi_0 k)
    · intro h0
      refine bi_z (fun i hi => ?_)
      cases hb : bi g i with
      | false => rfl
      | true => have := ct_none h0 i (hgb i hb); rw [hb] at this; cases this
  have h12 : (12 < bcE g) ↔ 12 < fsC g (mtN w h) := by
    rw [hpc]
    exact nI_ltI (a := 12) (by decide) (by omega)
  cases hx : rg x 0 1 with
  | false => exact op_pure hI (c_layingX x hx) (c_m_layingX x hx) rfl
  | true =>
    by_cases hst : fsC g (mtN w h) = 0 ∨ 12 < fsC g (mtN w h)
    · refine op_eq hI (Ct.eq0 (c_layingS x hx hal (by
        rw [hge]
        rcases hst with h0 | h0
        · rw [decide_eq_true (hz.mpr h0)]; rfl
        · rw [decide_eq_true (h12.mpr h0)]; simp))) (fun M1 hI1 hE => ?_)
      obtain ⟨e49, e51, e54, e4, e5, -, -⟩ := eqm_rf hE
      exact c_m_layingS x hx (by rw [e4]; exact hG.2.1.2.2.1) hmb (by rw [e49, hT.1, ← al_alo _ (by omega), hge]; exact hst)
    · have hp0 : 0 < fsC g (mtN w h) := by omega
      have hp12 : fsC g (mtN w h) ≤ 12 := by omega
      have hd := lay_gd M g (csq (M 10 1) (M 6) 3) (mt := mtN w h) (sq := sqN w h) h20 hp12
      refine op_eq hI (c_laying x hx hal hge rfl (by rw [decide_eq_false (fun q => hst (Or.inl (hz.mp q))), decide_eq_false (fun q => hst (Or.inr (h12.mp q)))]; rfl) hG.1.2.2.1 hmb hG.1.2.2.2 h20 rfl hp0 hp12 rfl rfl rfl (GG_ok hd false)) (fun M1 hI1 hE => ?_)
      obtain ⟨e49, e51, e54, e4, e5, -, -⟩ := eqm_rf hE
      have ha : ∀ j, j < 2 ^ fsC g (mtN w h) → Al M g (csq (M 10 1) (M 6) 3) (mtN w h) (sqN w h) j ≤ 20 ∧ lefL (M 10 1) (M 51) (M 54) (sqN w h) (M 10 0) (fsR g (M1 63) (mtN w h)) (fsC g (mtN w h)) j = nI (Al M g (csq (M 10 1) (M 6) 3) (mtN w h) (sqN w h) j) := fun j hj => ⟨Nat.le_trans (ct_le _ _) h20, lay_lef hG hf (M1 63) hg hj⟩
      obtain ⟨hpv, hok⟩ := GG_ref hd false _ ha (fun j k hj hk hb => lay_step M g _ h20 hp12 hj hk hb)
      obtain ⟨f1, f2, f3⟩ := GG_first hd false hp0 hpv
      have hgs : alo (mtN w h) &&& (M1 49 0 ^^^ (-1)) = g := by rw [e49, hT.1, ← al_alo _ (by omega), hge]
      have hr := c_m_laying (Z := Z) (ext := ext) (M := M1) (mt := mtN w h) (sq := sqN w h) (m := fsC g (mtN w h)) (so := fsR g (M1 63) (mtN w h)) (G := fun j => GG (suM M g (csq (M 10 1) (M 6) 3) (sqN w h) (mtN w h) 35) (ndL (csq (M 10 1) (M 6) 3) (fun q => rnm (fsR g (M 34) (mtN w h)) (M 5 q) (fsC g (mtN w h))) (sqN w h)).length (fsC g (mtN w h)) false (cmpl (fsC g (mtN w h)) j)) x hx (by rw [e4]; exact hG.2.1.2.2.1) hmb (by rw [e5]; exact hG.2.1.2.2.2) h20 (by rw [hgs]) (by rw [hgs]) hp0 hp12 (by rw [e49, e51, e54, hT.1, show M 49 32 = M 10 1 from hT.2.1]; exact hok) (by rw [e49, e51, e54, hT.1, show M 49 32 = M 10 1 from hT.2.1]; show fa_first _ _ < _; rw [f1]; exact f2)
      rw [e49, e51, e54, hT.1, show M 49 32 = M 10 1 from hT.2.1] at hr
      refine Ct.imp hr (fun r M' q => ⟨?_, q.2⟩)
      rw [q.1]
      refine oi ?_
      have hbd := GG_b hd false (cmpl (fsC g (mtN w h)) 0) (cmpl_lt _ _)
      rw [f3] at hbd
      unfold vLaying vLayC
      exact lay_fin2 (by rw [← fsR_same g (M1 63) (M 34) (mtN w h) _ f2, ← f1]) f3 hbd
theorem op_boxes (hI : Inv Z ext M) (x : Int32) : OpI mX9_boxes mX10_boxes [.int x] Z ext M := by
  obtain ⟨w, h, n0, k0, k1, hw, hG, hT, hIm, hP, hS, hF1, hF2, hF3⟩ := id hI
  have hf := gf hw
  have h20 := hf.1
  have hmb := hf.2.2.1
  have hL := hT.2.2.2.2.1
  have hal : ((1 : Int32) <<< (M 1 2 &&& 31)) - 1 = al (mtN w h) := by rw [hG.1.2.2.1]; rfl
  have bal : ∀ i, i < 32 → bi (al (mtN w h)) i = decide (i < mtN w h) := bi_al0 _ (by omega)
  have hg : ∀ i, i < 32 → bi (al (mtN w h) &&& (M 10 0 ^^^ (-1))) i = (decide (i < mtN w h) && !bi (M 10 0) i) := fun i hi => by rw [bi_and, bal i hi, bi_not, decide_eq_true hi, Bool.true_and]
  generalize hge : al (mtN w h) &&& (M 10 0 ^^^ (-1)) = g at hg
  have hgb : ∀ i, bi g i = true → i < mtN w h := fun i hi => by
    rcases Nat.lt_or_ge i 32 with h | h
    · rw [hg i h, Bool.and_eq_true] at hi; exact of_decide_eq_true hi.1
    · rw [bi_ge h] at hi; cases hi
  have hpc := fsC_pc hgb hmb
  have hfl := fsC_le g (mtN w h)
  have hz : g = 0 ↔ fsC g (mtN w h) = 0 := by
    rw [fsC_ct g (by omega)]
    constructor
    · intro h0; rw [h0]; exact ct_zero (fun k _ => bi_0 k)
    · intro h0
      refine bi_z (fun i hi => ?_)
      cases hb : bi g i with
      | false => rfl
      | true => have := ct_none h0 i (hgb i hb); rw [hb] at this; cases this
  have h12 : (12 < bcE g) ↔ 12 < fsC g (mtN w h) := by
    rw [hpc]
    exact nI_ltI (a := 12) (by decide) (by omega)
  cases hx : rg x 0 1 with
  | false => exact op_pure hI (c_boxesX x hx) (c_m_boxesX x hx) rfl
  | true =>
    by_cases hst : fsC g (mtN w h) = 0 ∨ 12 < fsC g (mtN w h)
    · refine op_eq hI (Ct.eq0 (c_boxesS x hx hal (by
        rw [hge]
        rcases hst with h0 | h0
        · rw [decide_eq_true (hz.mpr h0)]; rfl
        · rw [decide_eq_true (h12.mpr h0)]; simp))) (fun M1 hI1 hE => ?_)
      obtain ⟨e49, e51, e54, e4, e5, -, -⟩ := eqm_rf hE
      exact c_m_boxesS x hx (by rw [e4]; exact hG.2.1.2.2.1) hmb (by rw [e49, hT.1, ← al_alo _ (by omega), hge]; exact hst)
    · have hp0 : 0 < fsC g (mtN w h) := by omega
      have hp12 : fsC g (mtN w h) ≤ 12 := by omega
      have hd := lay_gd M g (csq (M 10 1) (M 6) 3) (mt := mtN w h) (sq := sqN w h) h20 hp12
      refine op_eq hI (c_boxes x hx hal hge rfl (by rw [decide_eq_false (fun q => hst (Or.inl (hz.mp q))), decide_eq_false (fun q => hst (Or.inr (h12.mp q)))]; rfl) hG.1.2.2.1 hmb hG.1.2.2.2 h20 rfl hp0 hp12 rfl rfl rfl (GG_ok hd true)) (fun M1 hI1 hE => ?_)
      obtain ⟨e49, e51, e54, e4, e5, -, -⟩ := eqm_rf hE
      have ha : ∀ j, j < 2 ^ fsC g (mtN w h) → Al M g (csq (M 10 1) (M 6) 3) (mtN w h) (sqN w h) j ≤ 20 ∧ lefL (M 10 1) (M 51) (M 54) (sqN w h) (M 10 0) (fsR g (M1 63) (mtN w h)) (fsC g (mtN w h)) j = nI (Al M g (csq (M 10 1) (M 6) 3) (mtN w h) (sqN w h) j) := fun j hj => ⟨Nat.le_trans (ct_le _ _) h20, lay_lef hG hf (M1 63) hg hj⟩
      obtain ⟨hpv, hok⟩ := GG_ref hd true _ ha (fun j k hj hk hb => lay_step M g _ h20 hp12 hj hk hb)
      obtain ⟨f1, f2, f3⟩ := GG_first hd true hp0 hpv
      have hgs : alo (mtN w h) &&& (M1 49 0 ^^^ (-1)) = g := by rw [e49, hT.1, ← al_alo _ (by omega), hge]
      have hr := c_m_boxes (Z := Z) (ext := ext) (M := M1) (mt := mtN w h) (sq := sqN w h) (m := fsC g (mtN w h)) (so := fsR g (M1 63) (mtN w h)) (G := fun j => GG (suM M g (csq (M 10 1) (M 6) 3) (sqN w h) (mtN w h) 35) (ndL (csq (M 10 1) (M 6) 3) (fun q => rnm (fsR g (M 34) (mtN w h)) (M 5 q) (fsC g (mtN w h))) (sqN w h)).length (fsC g (mtN w h)) true (cmpl (fsC g (mtN w h)) j)) x hx (by rw [e4]; exact hG.2.1.2.2.1) hmb (by rw [e5]; exact hG.2.1.2.2.2) h20 (by rw [hgs]) (by rw [hgs]) hp0 hp12 (by rw [e49, e51, e54, hT.1, show M 49 32 = M 10 1 from hT.2.1]; exact hok) (by rw [e49, e51, e54, hT.1, show M 49 32 = M 10 1 from hT.2.1]; show fa_first _ _ < _; rw [f1]; exact f2)
      rw [e49, e51, e54, hT.1, show M 49 32 = M 10 1 from hT.2.1] at hr
      refine Ct.imp hr (fun r M' q => ⟨?_, q.2⟩)
      rw [q.1]
      refine oi ?_
      have hbd := GG_b hd true (cmpl (fsC g (mtN w h)) 0) (cmpl_lt _ _)
      rw [f3] at hbd
      unfold vBoxes vBoxC
      dsimp only
      rw [f1, f3, fsR_same g (M1 63) (M 34) (mtN w h) _ f2]
      generalize (fbF (GG (suM M g (csq (M 10 1) (M 6) 3) (sqN w h) (mtN w h) 35) (ndL (csq (M 10 1) (M 6) 3) (fun q => rnm (fsR g (M 34) (mtN w h)) (M 5 q) (fsC g (mtN w h))) (sqN w h)).length (fsC g (mtN w h)) true) (suM M g (csq (M 10 1) (M 6) 3) (sqN w h) (mtN w h) 35) (ndL (csq (M 10 1) (M 6) 3) (fun q => rnm (fsR g (M 34) (mtN w h)) (M 5 q) (fsC g (mtN w h))) (sqN w h)).length true (2 ^ fsC g (mtN w h) - 1) (fsC g (mtN w h))) = B at hbd ⊢
      first
      | exact lay_fin _ _ x hbd
      | exact box_fin _ _ x hx
end LO
