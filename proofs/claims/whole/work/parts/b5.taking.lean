/-! ===== calls: taking ===== -/
theorem first_any {p : Nat → Bool} {n : Nat} : fa_first p n < n ↔ ∃ k, k < n ∧ p k = true := by
  constructor
  · intro h; exact ⟨_, h, fa_first_yes p n h⟩
  · rintro ⟨k, h1, h2⟩
    refine Nat.lt_of_not_le (fun q => ?_)
    rw [fa_first_no p n k (by omega)] at h2
    cases h2
theorem anyk_any {p : Nat → Bool} : ∀ {n : Nat}, anyk p n = true ↔ ∃ k, k < n ∧ p k = true
  | 0 => ⟨fun h => absurd h (by simp [anyk]), fun ⟨k, h, _⟩ => absurd h (by omega)⟩
  | n + 1 => by
    show (anyk p n || p n) = true ↔ _
    rw [Bool.or_eq_true, anyk_any (n := n)]
    constructor
    · rintro (⟨k, h1, h2⟩ | h)
      · exact ⟨k, by omega, h2⟩
      · exact ⟨n, by omega, h⟩
    · rintro ⟨k, h1, h2⟩
      rcases (show k = n ∨ k < n by omega) with rfl | h
      · exact Or.inr h2
      · exact Or.inl ⟨k, h, h2⟩
def Wf (nd : Nat → Int32) (n p : Nat) : Nat → Nat → Bool
  | 0, _ => false
  | f + 1, j => decide (fa_first (aw nd (nI j)) n < n) && decide (fa_first (wkW (Wf nd n p f) j) p < p)
theorem Wf_eq (nd : Nat → Int32) (n p : Nat) : ∀ (f f' j : Nat), j < f → j < f' → Wf nd n p f j = Wf nd n p f' j
  | 0, _, _, h, _ => absurd h (by omega)
  | _ + 1, 0, _, _, h => absurd h (by omega)
  | f + 1, f' + 1, j, h1, h2 => by
    show (_ && decide (fa_first (wkW (Wf nd n p f) j) p < p)) = (_ && decide (fa_first (wkW (Wf nd n p f') j) p < p))
    rw [first_congr (p := wkW (Wf nd n p f) j) (q := wkW (Wf nd n p f') j) (fun k _ => ?_)]
    unfold wkW
    cases hb : j.testBit k with
    | false => rfl
    | true =>
      have := xor_sm hb
      rw [Wf_eq nd n p f f' _ (by omega) (by omega)]
theorem Wf_ok (nd : Nat → Int32) (n p : Nat) : okC nd n p (fun j => Wf nd n p (j + 1) j) := by
  intro j hj
  show (_ && decide (fa_first (wkW (Wf nd n p j) j) p < p)) = (_ && decide (fa_first (wkW (fun j => Wf nd n p (j + 1) j) j) p < p))
  rw [first_congr (p := wkW (Wf nd n p j) j) (q := wkW (fun j => Wf nd n p (j + 1) j) j) (fun k _ => ?_)]
  unfold wkW
  cases hb : j.testBit k with
  | false => rfl
  | true =>
    have := xor_sm hb
    show (true && !Wf nd n p j (j ^^^ 2 ^ k)) = (true && !Wf nd n p ((j ^^^ 2 ^ k) + 1) (j ^^^ 2 ^ k))
    rw [Wf_eq nd n p j ((j ^^^ 2 ^ k) + 1) _ (by omega) (by omega)]
def cmpl (m j : Nat) : Nat := 2 ^ m - (j + 1)
theorem cmpl_lt (m j : Nat) : cmpl m j < 2 ^ m := by
  have : 0 < 2 ^ m := Nat.pow_pos (by decide)
  unfold cmpl; omega
theorem cmpl_tb {m j : Nat} (hj : j < 2 ^ m) (i : Nat) : (cmpl m j).testBit i = (decide (i < m) && !j.testBit i) := Nat.testBit_two_pow_sub_succ hj i
theorem cmpl_or {m j k : Nat} (hj : j < 2 ^ m) (hk : k < m) (hb : j.testBit k = false) : cmpl m (j ||| 2 ^ k) = cmpl m j ^^^ 2 ^ k := by
  refine Nat.eq_of_testBit_eq (fun i => ?_)
  rw [cmpl_tb (or_lt hj hk), Nat.testBit_xor, cmpl_tb hj, Nat.testBit_or, Nat.testBit_two_pow]
  by_cases h : k = i
  · subst h; rw [hb, decide_eq_true hk, decide_eq_true rfl]; rfl
  · rw [decide_eq_false h, Bool.or_false, Bool.xor_false]
theorem ndL_mem {sqs : Int32} {rn : Nat → Int32} {y : Int32} : ∀ {n : Nat}, y ∈ ndL sqs rn n ↔ ∃ q, q < n ∧ lies sqs (nI q) = true ∧ ¬ rn q = 0 ∧ y = rn q
  | 0 => ⟨fun h => absurd h List.not_mem_nil, fun ⟨q, h, _⟩ => absurd h (by omega)⟩
  | n + 1 => by
    rw [ndL_s]
    by_cases hc : (lies sqs (nI n) && !decide (rn n = 0)) = true
    · rw [if_pos hc, List.mem_append, List.mem_singleton, ndL_mem (n := n)]
      rw [Bool.and_eq_true, Bool.not_eq_true', decide_eq_false_iff_not] at hc
      constructor
      · rintro (⟨q, h1, h2⟩ | rfl)
        · exact ⟨q, by omega, h2⟩
        · exact ⟨n, by omega, hc.1, hc.2, rfl⟩
      · rintro ⟨q, h1, h2, h3, h4⟩
        rcases (show q = n ∨ q < n by omega) with rfl | h
        · exact Or.inr h4
        · exact Or.inl ⟨q, h, h2, h3, h4⟩
    · rw [if_neg hc, ndL_mem (n := n)]
      rw [Bool.and_eq_true, Bool.not_eq_true', decide_eq_false_iff_not] at hc
      constructor
      · rintro ⟨q, h1, h2⟩; exact ⟨q, by omega, h2⟩
      · rintro ⟨q, h1, h2, h3, h4⟩
        rcases (show q = n ∨ q < n by omega) with rfl | h
        · exact absurd ⟨h2, h3⟩ hc
        · exact ⟨q, h, h2, h3, h4⟩
theorem rnm_bi {so : Nat → Int32} {e : Nat → Nat} (x : Int32) : ∀ {n : Nat}, n ≤ 31 → (∀ k, k < n → so k = nI (e k) ∧ e k < 32) → ∀ i, bi (rnm so x n) i = (decide (i < n) && bi x (e i))
  | 0, _, _, i => by rw [show rnm so x 0 = 0 from rfl, bi_0]; rfl
  | n + 1, hn, hE, i => by
    have hen := hE n (by omega)
    show bi (rnm so x n ||| (((x >>> (so n &&& 31)) &&& 1) <<< (nI n &&& 31))) i = _
    rw [bi_or, rnm_bi x (n := n) (by omega) (fun k hk => hE k (by omega)) i, hen.1, and1_bi, bi_shr1 x hen.2]
    have hs : bi (b2i (bi x (e n)) <<< (nI n &&& 31)) i = (decide (i = n) && bi x (e n)) := by
      cases bi x (e n) with
      | false => rw [show b2i false = 0 from rfl, Int32.zero_shiftLeft, bi_0, Bool.and_false]
      | true => rw [show b2i true = 1 from rfl, show (1 : Int32) <<< (nI n &&& 31) = b1 n from rfl, bi_b1 (by omega), Bool.and_true]
    rw [hs]
    by_cases h : i = n
    · subst h
      rw [decide_eq_false (by omega), decide_eq_true (rfl : i = i), decide_eq_true (show i < i + 1 by omega)]
      rfl
    · rw [decide_eq_false h, Bool.false_and, Bool.or_false]
      by_cases h2 : i < n
      · rw [decide_eq_true h2, decide_eq_true (show i < n + 1 by omega)]
      · rw [decide_eq_false h2, decide_eq_false (show ¬ i < n + 1 by omega)]
/-- a square of L is whole in a mask, seen from both sides -/
theorem rn_whole {L r : Int32} {mt : Nat} (f : Nat → Int32) (hL : ∀ i, bi L i = true → i < mt) (hb : mt ≤ 31) (hr : sbs r L = true) (i : Nat) : (sbs (rnm (fsR L f mt) r (fsC L mt)) (nI i) = true ↔ sbs r (ofR (fsR L f mt) (nI i) (fsC L mt)) = true) ∧ (rnm (fsR L f mt) r (fsC L mt) = 0 → r = 0) := by
  obtain ⟨e, h1, h2, h3, h4⟩ := fs_e L f mt (by omega)
  have hfl := fsC_le L mt
  have hE : ∀ k, k < fsC L mt → fsR L f mt k = nI (e k) ∧ e k < 32 := fun k hk => ⟨(h1 k hk).1, by have := (h1 k hk).2.1; omega⟩
  have hrL := sbs_bi.mp hr
  have inj : ∀ a b, a < fsC L mt → b < fsC L mt → e a = e b → a = b := by
    intro a b ha hb2 hab
    rcases Nat.lt_trichotomy a b with h | h | h
    · have := h3 a b h hb2; omega
    · exact h
    · have := h3 b a h ha; omega
  refine ⟨?_, fun h => bi_z (fun b hb2 => ?_)⟩
  · rw [sbs_bi, sbs_bi, ofR_mvd]
    constructor
    · intro h b hb2 hrb
      obtain ⟨k, k1, rfl⟩ := h2 b (hL b (hrL b hb2 hrb)) (hrL b hb2 hrb)
      exact (mv_bi (by omega) hE _).mpr ⟨k, k1, h k (by omega) (by rw [rnm_bi r (by omega) hE, decide_eq_true k1, hrb]; rfl), rfl⟩
    · intro h k hk hbk
      rw [rnm_bi r (by omega) hE, Bool.and_eq_true, decide_eq_true_eq] at hbk
      obtain ⟨k2, g1, g2, g3⟩ := (mv_bi (by omega) hE (e k)).mp (h (e k) (hE k hbk.1).2 hbk.2)
      rw [← inj k2 k g1 hbk.1 g3]
      exact g2
  · cases hrb : bi r b with
    | false => rfl
    | true =>
      obtain ⟨k, k1, rfl⟩ := h2 b (hL b (hrL b hb2 hrb)) (hrL b hb2 hrb)
      have := congrArg (fun y => bi y k) h
      simp only [bi_0] at this
      rw [rnm_bi r (by omega) hE, decide_eq_true k1, hrb] at this
      cases this
theorem fs_base_in {L : Int32} {mt : Nat} (f : Nat → Int32) (hL : ∀ i, bi L i = true → i < mt) (hb : mt ≤ 31) : ∀ x i, bi (ofR (fsR L f mt) x (fsC L mt)) i = true → bi L i = true := by
  intro x i hi
  obtain ⟨e, h1, -⟩ := fs_e L f mt (by omega)
  have hfl := fsC_le L mt
  rw [ofR_mvd] at hi
  obtain ⟨k, k1, k2, rfl⟩ := (mv_bi (by omega) (fun k hk => ⟨(h1 k hk).1, by have := (h1 k hk).2.1; omega⟩) i).mp hi
  exact (h1 k k1).2.2
theorem fsR_same (L : Int32) (f g : Nat → Int32) : ∀ mt k, k < fsC L mt → fsR L f mt k = fsR L g mt k
  | 0, k, h => absurd h (Nat.not_lt_zero _)
  | mt + 1, k, h => by
    rw [fsC_s] at h
    rw [fsR_s, fsR_s]
    by_cases hl : lies L (nI mt) = true
    · rw [if_pos hl] at h ⊢
      rw [if_pos hl]
      unfold upd
      by_cases hk : k = fsC L mt
      · rw [if_pos hk, if_pos hk]
      · rw [if_neg hk, if_neg hk]; exact fsR_same L f g mt k (by omega)
    · rw [if_neg hl] at h ⊢
      rw [if_neg hl]; exact fsR_same L f g mt k h
theorem ofR_cg {so so' : Nat → Int32} {x : Int32} {m : Nat} (h : ∀ k, k < m → so k = so' k) : ofR so x m = ofR so' x m := by
  unfold ofR
  exact fld_congr (fun k s hk => by rw [h k hk])
theorem ofR_cmpl {L : Int32} {mt j : Nat} (f : Nat → Int32) (hL : ∀ i, bi L i = true → i < mt) (hb : mt ≤ 31) (hj : j < 2 ^ fsC L mt) : L &&& (ofR (fsR L f mt) (nI j) (fsC L mt) ^^^ (-1)) = ofR (fsR L f mt) (nI (cmpl (fsC L mt) j)) (fsC L mt) := by
  obtain ⟨e, h1, h2, h3, h4⟩ := fs_e L f mt (by omega)
  have hfl := fsC_le L mt
  have hE : ∀ k, k < fsC L mt → fsR L f mt k = nI (e k) ∧ e k < 32 := fun k hk => ⟨(h1 k hk).1, by have := (h1 k hk).2.1; omega⟩
  have inj : ∀ a b, a < fsC L mt → b < fsC L mt → e a = e b → a = b := by
    intro a b ha hb2 hab
    rcases Nat.lt_trichotomy a b with h | h | h
    · have := h3 a b h hb2; omega
    · exact h
    · have := h3 b a h ha; omega
  refine bi_ext (fun b hb2 => bool_iff ?_)
  rw [bi_and, bi_not, decide_eq_true hb2, Bool.true_and, Bool.and_eq_true, Bool.not_eq_true', ofR_mvd, ofR_mvd, mv_bi (by omega) hE]
  constructor
  · rintro ⟨g1, g2⟩
    obtain ⟨k, k1, rfl⟩ := h2 b (hL b g1) g1
    refine ⟨k, k1, ?_, rfl⟩
    rw [bi_nI, decide_eq_true (show k < 32 by omega), Bool.true_and, cmpl_tb hj, decide_eq_true k1, Bool.true_and]
    cases ht : j.testBit k with
    | false => rfl
    | true =>
      have := (mv_bi (a := nI j) (by omega) hE (e k)).mpr ⟨k, k1, by rw [bi_nI, decide_eq_true (show k < 32 by omega), ht]; rfl, rfl⟩
      rw [g2] at this; cases this
  · rintro ⟨k, k1, k2, rfl⟩
    rw [bi_nI, decide_eq_true (show k < 32 by omega), Bool.true_and, cmpl_tb hj, decide_eq_true k1, Bool.true_and, Bool.not_eq_true'] at k2
    refine ⟨(h1 k k1).2.2, ?_⟩
    cases ht : bi (mvd (nI j) (fsR L f mt) (fsC L mt)) (e k) with
    | false => rfl
    | true =>
      obtain ⟨k3, g1, g2, g3⟩ := (mv_bi (by omega) hE (e k)).mp ht
      rw [inj k3 k g1 k1 g3, bi_nI, k2, Bool.and_false] at g2
      cases g2
theorem LfP {w h : Nat} {M : Mm} (hG : GrI w h M) (hf : GF w h) (C X : Int32) : (0 < Lf C (M 51) (M 54) X (sqN w h) ↔ ∃ q, q < sqN w h ∧ lies C (szF w h q) = true ∧ sbs (rmF w h q) X = true) ∧ (Lf C (M 51) (M 54) X (sqN w h) = 0 ↔ ¬ 0 < Lf C (M 51) (M 54) X (sqN w h)) := by
  have h20 := hf.1
  have hlt := ct_le (fun q => cntq C (szF w h) q && inq (rmF w h) X q) (sqN w h)
  rw [Lf_F hG, Lf_ct]
  have e0 : (0 : Int32) = nI 0 := rfl
  refine ⟨?_, ?_⟩
  · rw [e0, nI_ltI (by decide) (by omega)]
    constructor
    · intro hp
      refine Classical.byContradiction (fun hn => ?_)
      rw [ct_zero (fun q hq => ?_)] at hp
      · omega
      · cases hc : (cntq C (szF w h) q && inq (rmF w h) X q) with
        | false => rfl
        | true =>
          rw [Bool.and_eq_true] at hc
          exact absurd ⟨q, hq, hc.1, hc.2⟩ hn
    · rintro ⟨q, hq, a, b⟩
      refine Nat.pos_of_ne_zero (fun h0 => ?_)
      have := ct_none h0 q hq
      rw [cntq_lies, a, show inq (rmF w h) X q = true from b] at this
      cases this
  · rw [e0, nI_ltI (by decide) (by omega)]
    constructor
    · intro h0
      have := congrArg Int32.toInt h0
      rw [nI_toInt (by omega), nI_toInt (by decide)] at this
      omega
    · intro h0
      rw [show fb_ct (fun q => cntq C (szF w h) q && inq (rmF w h) X q) (sqN w h) = 0 by omega]
section TO
variable {Z : List (Option Nat)} {ext : List Ds} {M : Mm}
theorem op_taking (hI : Inv Z ext M) (x : Int32) : OpI mX9_taking mX10_taking [.int x] Z ext M := by
  obtain ⟨w, h, n0, k0, k1, hw, hG, hT, hIm, hP, hS, hF1, hF2, hF3⟩ := id hI
  have hf := gf hw
  have h20 := hf.1
  have hmb := hf.2.2.1
  have hL := hT.2.2.2.2.1
  have hfl := fsC_le (M 10 0) (mtN w h)
  have hpc := fsC_pc hL hmb
  have hleft := left_b hG hf (M 10 1) (M 10 0)
  have hz : Lf (M 10 1) (M 51) (M 54) (M 10 0) (sqN w h) = 0 ↔ lsq (M 10 1) (M 6) (M 5) (sqN w h) (M 10 0) = 0 := by
    constructor
    · intro h0
      refine bi_z (fun q hq => ?_)
      rw [bi_ls hG hf _ _ hq]
      by_cases hqs : q < sqN w h
      · cases hc : (lies (M 10 1) (szF w h q) && inq (rmF w h) (M 10 0) q) with
        | false => rw [Bool.and_false]
        | true =>
          rw [Bool.and_eq_true] at hc
          exact absurd ((LfP hG hf _ _).1.mpr ⟨q, hqs, hc.1, hc.2⟩) ((LfP hG hf _ _).2.mp h0)
      · rw [decide_eq_false hqs]; rfl
    · intro h0
      rw [hleft, h0]; decide
  cases hx : rg x 0 1 with
  | false => exact op_pure hI (c_takingX x hx) (c_m_takingX x hx) rfl
  | true =>
    by_cases hst : lsq (M 10 1) (M 6) (M 5) (sqN w h) (M 10 0) = 0 ∨ 12 < fsC (M 10 0) (mtN w h)
    · refine op_eq hI (Ct.eq0 (c_takingS x hx hG.1.2.2.2 hf.1 (hst.imp id (fun q => by rw [hpc]; exact nI_ge (a := 12) q (by omega))))) (fun M1 hI1 hE => ?_)
      obtain ⟨e49, e51, e54, e4, e5, -, -⟩ := eqm_rf hE
      exact c_m_takingS x hx (by rw [e4]; exact hG.2.1.2.2.1) hmb (by rw [e5]; exact hG.2.1.2.2.2) hf.1 (by rw [e49, e51, e54, hT.1, show M 49 32 = M 10 1 from hT.2.1, hz]; exact hst)
    · have hs0 : ¬ lsq (M 10 1) (M 6) (M 5) (sqN w h) (M 10 0) = 0 := fun q => hst (Or.inl q)
      have hm12 : fsC (M 10 0) (mtN w h) ≤ 12 := by omega
      have hsq : ∀ q, q < sqN w h → lies (lsq (M 10 1) (M 6) (M 5) (sqN w h) (M 10 0)) (nI q) = (lies (M 10 1) (szF w h q) && inq (rmF w h) (M 10 0) q) := fun q hq => by
        rw [lies_bi _ (by omega), bi_ls hG hf _ _ (by omega), decide_eq_true hq, Bool.true_and]
      have hrm : ∀ q, q < sqN w h → M 5 q = rmF w h q := fun q hq => (hG.2.2.1 q hq).1.2.2.2
      have haw : ∀ j, decide (fa_first (aw (suM M (M 10 0) (lsq (M 10 1) (M 6) (M 5) (sqN w h) (M 10 0)) (sqN w h) (mtN w h) 35) (nI j)) (ndL (lsq (M 10 1) (M 6) (M 5) (sqN w h) (M 10 0)) (fun q => rnm (fsR (M 10 0) (M 34) (mtN w h)) (M 5 q) (fsC (M 10 0) (mtN w h))) (sqN w h)).length < (ndL (lsq (M 10 1) (M 6) (M 5) (sqN w h) (M 10 0)) (fun q => rnm (fsR (M 10 0) (M 34) (mtN w h)) (M 5 q) (fsC (M 10 0) (mtN w h))) (sqN w h)).length) = decide (0 < Lf (M 10 1) (M 51) (M 54) (ofR (fsR (M 10 0) (M 34) (mtN w h)) (nI j) (fsC (M 10 0) (mtN w h))) (sqN w h)) := by
        intro j
        refine bool_iff ?_
        rw [decide_eq_true_eq, decide_eq_true_eq, first_any, (LfP hG hf _ _).1]
        show (∃ k, k < _ ∧ aw (rowL (ndL _ _ _) (M 35)) (nI j) k = true) ↔ _
        have b1 := (fs_base_in (M 34) hL hmb)
        constructor
        · rintro ⟨k, hk1, hk2⟩
          have hmem := List.getElem_mem hk1
          obtain ⟨q, q1, q2, q3, q4⟩ := ndL_mem.mp hmem
          rw [hsq q q1, Bool.and_eq_true] at q2
          refine ⟨q, q1, q2.1, ?_⟩
          unfold aw rowL at hk2
          rw [if_pos hk1, List.getD_eq_getElem?_getD, List.getElem?_eq_getElem hk1] at hk2
          rw [Option.getD_some, q4] at hk2
          rw [hrm q q1] at hk2
          exact (rn_whole (M 34) hL hmb q2.2 j).1.mp hk2
        · rintro ⟨q, q1, q2, q3⟩
          have hqL : sbs (rmF w h q) (M 10 0) = true := sbs_bi.mpr (fun i hi hb => b1 _ i (sbs_bi.mp q3 i hi hb))
          have hw2 := rn_whole (M 34) hL hmb hqL j
          have hne : ¬ rnm (fsR (M 10 0) (M 34) (mtN w h)) (M 5 q) (fsC (M 10 0) (mtN w h)) = 0 := by
            rw [hrm q q1]
            intro h0
            have := (hf.2.2.2.2.2 q q1).2.2
            rw [hw2.2 h0] at this
            exact absurd this (by decide)
          have hmem := (ndL_mem (sqs := lsq (M 10 1) (M 6) (M 5) (sqN w h) (M 10 0)) (rn := fun q => rnm (fsR (M 10 0) (M 34) (mtN w h)) (M 5 q) (fsC (M 10 0) (mtN w h)))).mpr ⟨q, q1, by rw [hsq q q1, q2]; exact hqL, hne, rfl⟩
          obtain ⟨k, hk, hke⟩ := List.getElem_of_mem hmem
          refine ⟨k, hk, ?_⟩
          unfold aw rowL
          rw [if_pos hk, List.getD_eq_getElem?_getD, List.getElem?_eq_getElem hk, Option.getD_some, hke]
          show sbs (rnm _ (M 5 q) _) (nI j) = true
          rw [hrm q q1]
          exact hw2.1.mpr q3
      have hok := Wf_ok (suM M (M 10 0) (lsq (M 10 1) (M 6) (M 5) (sqN w h) (M 10 0)) (sqN w h) (mtN w h) 35) (ndL (lsq (M 10 1) (M 6) (M 5) (sqN w h) (M 10 0)) (fun q => rnm (fsR (M 10 0) (M 34) (mtN w h)) (M 5 q) (fsC (M 10 0) (mtN w h))) (sqN w h)).length (fsC (M 10 0) (mtN w h))
      generalize (fun j => Wf (suM M (M 10 0) (lsq (M 10 1) (M 6) (M 5) (sqN w h) (M 10 0)) (sqN w h) (mtN w h) 35) (ndL (lsq (M 10 1) (M 6) (M 5) (sqN w h) (M 10 0)) (fun q => rnm (fsR (M 10 0) (M 34) (mtN w h)) (M 5 q) (fsC (M 10 0) (mtN w h))) (sqN w h)).length (fsC (M 10 0) (mtN w h)) (j + 1) j) = W at hok
      refine op_eq hI (c_taking x hx hG.1.2.2.1 hmb hG.1.2.2.2 hf.1 rfl hs0 (by rw [hpc]; exact nI_le (b := 12) hm12 (by decide)) hm12 hok) (fun M1 hI1 hE => ?_)
      obtain ⟨e49, e51, e54, e4, e5, -, -⟩ := eqm_rf hE
      have hsame : ∀ k, k < fsC (M 10 0) (mtN w h) → fsR (M 10 0) (M1 63) (mtN w h) k = fsR (M 10 0) (M 34) (mtN w h) k := fsR_same _ _ _ _
      have hlef : ∀ j, j < 2 ^ fsC (M 10 0) (mtN w h) → lefT (M 10 1) (M 51) (M 54) (sqN w h) (M 10 0) (fsR (M 10 0) (M1 63) (mtN w h)) (fsC (M 10 0) (mtN w h)) j = Lf (M 10 1) (M 51) (M 54) (ofR (fsR (M 10 0) (M 34) (mtN w h)) (nI (cmpl (fsC (M 10 0) (mtN w h)) j)) (fsC (M 10 0) (mtN w h))) (sqN w h) := fun j hj => by
        unfold lefT
        rw [ofR_cmpl _ hL hmb hj, ofR_cg hsame]
      have hwin : ∀ j, j < 2 ^ fsC (M 10 0) (mtN w h) → ∀ k, k < fsC (M 10 0) (mtN w h) → winT (lefT (M 10 1) (M 51) (M 54) (sqN w h) (M 10 0) (fsR (M 10 0) (M1 63) (mtN w h)) (fsC (M 10 0) (mtN w h))) (fun j => W (cmpl (fsC (M 10 0) (mtN w h)) j)) j k = wkW W (cmpl (fsC (M 10 0) (mtN w h)) j) k := fun j hj k hk => by
        unfold winT wkW
        rw [cmpl_tb hj, decide_eq_true hk, Bool.true_and]
        cases hb : j.testBit k with
        | true => rfl
        | false =>
          have hlt := or_lt hj hk
          rw [hlef _ hlt, cmpl_or hj hk hb]
          by_cases hp0 : 0 < Lf (M 10 1) (M 51) (M 54) (ofR (fsR (M 10 0) (M 34) (mtN w h)) (nI (cmpl (fsC (M 10 0) (mtN w h)) j ^^^ 2 ^ k)) (fsC (M 10 0) (mtN w h))) (sqN w h)
          · rw [decide_eq_false (fun q => (LfP hG hf _ _).2.mp q hp0), Bool.false_or]
            show (!false && !W (cmpl (fsC (M 10 0) (mtN w h)) (j ||| 2 ^ k))) = _
            rw [cmpl_or hj hk hb]
          · have hw0 := hok (cmpl (fsC (M 10 0) (mtN w h)) j ^^^ 2 ^ k) (xor_lt (cmpl_lt _ _) hk)
            rw [haw, decide_eq_false hp0, Bool.false_and] at hw0
            rw [decide_eq_true ((LfP hG hf _ _).2.mpr hp0), hw0]
            rfl
      have hokW : okW (lefT (M 10 1) (M 51) (M 54) (sqN w h) (M 10 0) (fsR (M 10 0) (M1 63) (mtN w h)) (fsC (M 10 0) (mtN w h))) (fsC (M 10 0) (mtN w h)) (fun j => W (cmpl (fsC (M 10 0) (mtN w h)) j)) := by
        intro j hj
        show W _ = _
        rw [hok _ (cmpl_lt _ j), haw, ← hlef j hj]
        congr 1
        refine bool_iff ?_
        rw [decide_eq_true_eq, first_any, anyk_any]
        exact ⟨fun ⟨k, a, b⟩ => ⟨k, a, by rw [hwin j hj k a]; exact b⟩, fun ⟨k, a, b⟩ => ⟨k, a, by rw [hwin j hj k a] at b; exact b⟩⟩
      have hr := c_m_taking (Z := Z) (ext := ext) (M := M1) (mt := mtN w h) (sq := sqN w h) (W := fun j => W (cmpl (fsC (M 10 0) (mtN w h)) j)) x hx (by rw [e4]; exact hG.2.1.2.2.1) hmb (by rw [e5]; exact hG.2.1.2.2.2) hf.1 (by rw [e49, e51, e54, hT.1, show M 49 32 = M 10 1 from hT.2.1, hz]; exact hs0) (by rw [e49, hT.1]; exact hm12) (by rw [e49, e51, e54, hT.1, show M 49 32 = M 10 1 from hT.2.1]; exact hokW)
      rw [e49, e51, e54, hT.1, show M 49 32 = M 10 1 from hT.2.1] at hr
      refine Ct.imp hr (fun r M' q => ⟨?_, q.2⟩)
      rw [q.1]
      refine oi ?_
      have hp0 : 0 < 2 ^ fsC (M 10 0) (mtN w h) := Nat.pow_pos (by decide)
      have hc0 : cmpl (fsC (M 10 0) (mtN w h)) 0 = 2 ^ fsC (M 10 0) (mtN w h) - 1 := rfl
      have hW0 : W (cmpl (fsC (M 10 0) (mtN w h)) 0) = decide (fa_first (wkW W (2 ^ fsC (M 10 0) (mtN w h) - 1)) (fsC (M 10 0) (mtN w h)) < fsC (M 10 0) (mtN w h)) := by
        rw [hok _ (cmpl_lt _ 0), haw, ← hlef 0 hp0, hc0]
        have : 0 < lefT (M 10 1) (M 51) (M 54) (sqN w h) (M 10 0) (fsR (M 10 0) (M1 63) (mtN w h)) (fsC (M 10 0) (mtN w h)) 0 := by
          have hLL : M 10 0 &&& (ofR (fsR (M 10 0) (M1 63) (mtN w h)) (nI 0) (fsC (M 10 0) (mtN w h)) ^^^ (-1)) = M 10 0 := by
            refine bi_ext (fun i hi => ?_)
            rw [bi_and, bi_not, decide_eq_true hi, Bool.true_and]
            have : ofR (fsR (M 10 0) (M1 63) (mtN w h)) (nI 0) (fsC (M 10 0) (mtN w h)) = 0 := by
              rw [ofR_mvd]
              unfold mvd
              have : ∀ n, fld (fun m a => if decide ((nI 0 >>> (nI m &&& 31)) &&& 1 = 0) then a else a ||| ((1 : Int32) <<< (fsR (M 10 0) (M1 63) (mtN w h) m &&& 31))) n 0 = (0 : Int32) := by
                intro n
                induction n with
                | zero => rfl
                | succ n ih => rw [fld_s, ih, show nI 0 = 0 from rfl, Int32.zero_shiftRight, Int32.zero_and]; rfl
              exact this _
            rw [this, bi_0, Bool.not_false, Bool.and_true]
          unfold lefT
          rw [hLL]
          exact Classical.byContradiction (fun q => hs0 (hz.mp ((LfP hG hf _ _).2.mpr q)))
        rw [decide_eq_true this, Bool.true_and]
      have hfst : fa_first (winT (lefT (M 10 1) (M 51) (M 54) (sqN w h) (M 10 0) (fsR (M 10 0) (M1 63) (mtN w h)) (fsC (M 10 0) (mtN w h))) (fun j => W (cmpl (fsC (M 10 0) (mtN w h)) j)) 0) (fsC (M 10 0) (mtN w h)) = fa_first (wkW W (2 ^ fsC (M 10 0) (mtN w h) - 1)) (fsC (M 10 0) (mtN w h)) := first_congr (fun k hk => by rw [hwin 0 hp0 k hk, hc0])
      unfold vTaking vTakC pTk
      rw [hfst]
      show (if decide (x = 0) then 2 - b2i (W (cmpl (fsC (M 10 0) (mtN w h)) 0)) else if W (cmpl (fsC (M 10 0) (mtN w h)) 0) then _ else -4) = _
      rw [hW0]
      by_cases hlt : fa_first (wkW W (2 ^ fsC (M 10 0) (mtN w h) - 1)) (fsC (M 10 0) (mtN w h)) < fsC (M 10 0) (mtN w h)
      · obtain ⟨e, h1, -⟩ := fs_e (M 10 0) (M 34) (mtN w h) (by omega)
        have hne : ¬ fsR (M 10 0) (M 34) (mtN w h) (fa_first (wkW W (2 ^ fsC (M 10 0) (mtN w h) - 1)) (fsC (M 10 0) (mtN w h))) = -4 := by
          rw [(h1 _ hlt).1]
          intro q
          have := (h1 _ hlt).2.1
          have p := nI_pos (n := e (fa_first (wkW W (2 ^ fsC (M 10 0) (mtN w h) - 1)) (fsC (M 10 0) (mtN w h)))) (by omega)
          rw [q] at p
          exact p (by decide)
        rw [decide_eq_true hlt, if_pos rfl, if_pos hlt, hsame _ hlt, decide_eq_false hne]
        rfl
      · rw [decide_eq_false hlt, if_neg hlt]
        rfl
end TO
