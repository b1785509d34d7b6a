/-! ===== calls: chance ===== -/
theorem ct_part (p a : Nat → Bool) : ∀ n, fb_ct p n = fb_ct (fun k => p k && a k) n + fb_ct (fun k => p k && !a k) n
  | 0 => rfl
  | n + 1 => by
    rw [fb_ct_succ, fb_ct_succ, fb_ct_succ, ct_part p a n]
    cases p n <;> cases a n <;> simp <;> omega
theorem ct_sup (c : Nat → Bool) : ∀ m, fb_ct (fun x => (List.range m).all (fun k => !c k || x.testBit k)) (2 ^ m) = 2 ^ (m - fb_ct c m)
  | 0 => rfl
  | m + 1 => by
    have ih := ct_sup c m
    have hle := ct_le c m
    have lo : ∀ x, x < 2 ^ m → (List.range (m + 1)).all (fun k => !c k || x.testBit k) = ((List.range m).all (fun k => !c k || x.testBit k) && !c m) := by
      intro x hx
      rw [List.range_succ, List.all_append]
      show (_ && ((!c m || x.testBit m) && true)) = _
      rw [Nat.testBit_lt_two_pow hx, Bool.or_false, Bool.and_true]
    have hi : ∀ x, x < 2 ^ m → (List.range (m + 1)).all (fun k => !c k || (2 ^ m + x).testBit k) = (List.range m).all (fun k => !c k || x.testBit k) := by
      intro x hx
      rw [List.range_succ, List.all_append]
      show (_ && ((!c m || (2 ^ m + x).testBit m) && true)) = _
      rw [Nat.testBit_two_pow_add_eq, Nat.testBit_lt_two_pow hx, Bool.not_false, Bool.or_true, Bool.and_true, Bool.and_true]
      refine bool_iff ?_
      rw [List.all_eq_true, List.all_eq_true]
      constructor
      · intro h k hk
        have := h k hk
        rw [Nat.testBit_two_pow_add_gt (List.mem_range.mp hk)] at this
        exact this
      · intro h k hk
        rw [Nat.testBit_two_pow_add_gt (List.mem_range.mp hk)]
        exact h k hk
    rw [Nat.pow_succ, Nat.mul_two, ct_split, ct_congr lo, ct_congr hi, ih, fb_ct_succ]
    cases hc : c m with
    | true =>
      rw [ct_zero (fun k _ => by simp), if_pos rfl, Nat.zero_add, show m + 1 - (fb_ct c m + 1) = m - fb_ct c m by omega]
    | false =>
      rw [ct_congr (q := fun x => (List.range m).all (fun k => !c k || x.testBit k)) (fun k _ => by simp), ih, if_neg (by decide), show m + 1 - (fb_ct c m + 0) = m - fb_ct c m + 1 by omega, Nat.pow_succ]
      omega
/-- the places of a set, in their order -/
theorem fs_e (L : Int32) (f : Nat → Int32) : ∀ mt, mt ≤ 32 → ∃ e : Nat → Nat, (∀ k, k < fsC L mt → fsR L f mt k = nI (e k) ∧ e k < mt ∧ bi L (e k) = true) ∧ (∀ i, i < mt → bi L i = true → ∃ k, k < fsC L mt ∧ e k = i) ∧ (∀ i j, i < j → j < fsC L mt → e i < e j) ∧ (∀ p : Nat → Bool, (∀ i, p i = true → bi L i = true) → fb_ct p mt = fb_ct (fun k => p (e k)) (fsC L mt))
  | 0, _ => ⟨fun _ => 0, fun k h => absurd h (Nat.not_lt_zero _), fun i h => absurd h (Nat.not_lt_zero _), fun i j _ h => absurd h (Nat.not_lt_zero _), fun p _ => rfl⟩
  | mt + 1, hm => by
    obtain ⟨e, h1, h2, h3, h4⟩ := fs_e L f mt (by omega)
    rw [fsR_s, fsC_s, lies_bi L (by omega)]
    cases hb : bi L mt with
    | true =>
      rw [if_pos rfl, if_pos rfl]
      refine ⟨fun i => if i = fsC L mt then mt else e i, fun k hk => ?_, fun i hi hbi => ?_, fun i j hij hj => ?_, fun p hp => ?_⟩
      · by_cases hc : k = fsC L mt
        · unfold upd
          simp only [if_pos hc]
          exact ⟨trivial, by omega, hb⟩
        · have := h1 k (by omega)
          unfold upd
          simp only [if_neg hc]
          exact ⟨this.1, by omega, this.2.2⟩
      · rcases (show i = mt ∨ i < mt by omega) with rfl | h
        · exact ⟨fsC L i, by omega, if_pos rfl⟩
        · obtain ⟨k, k1, k2⟩ := h2 i h hbi
          exact ⟨k, by omega, by show (if k = fsC L mt then mt else e k) = i; rw [if_neg (by omega)]; exact k2⟩
      · show (if i = fsC L mt then mt else e i) < (if j = fsC L mt then mt else e j)
        rw [if_neg (show ¬ i = fsC L mt by omega)]
        by_cases hc : j = fsC L mt
        · rw [if_pos hc]; exact (h1 i (by omega)).2.1
        · rw [if_neg hc]; exact h3 i j hij (by omega)
      · rw [fb_ct_succ, fb_ct_succ, h4 p hp]
        show _ = fb_ct (fun k => p (if k = fsC L mt then mt else e k)) (fsC L mt) + if p (if fsC L mt = fsC L mt then mt else e (fsC L mt)) = true then 1 else 0
        rw [if_pos (rfl : fsC L mt = fsC L mt)]
        rw [ct_congr (p := fun k => p (if k = fsC L mt then mt else e k)) (q := fun k => p (e k)) (fun k hk => by rw [if_neg (show ¬ k = fsC L mt by omega)])]
    | false =>
      rw [if_neg (by decide), if_neg (by decide)]
      refine ⟨e, fun k hk => ⟨(h1 k hk).1, by have := (h1 k hk).2.1; omega, (h1 k hk).2.2⟩, fun i hi hbi => ?_, h3, fun p hp => ?_⟩
      · rcases (show i = mt ∨ i < mt by omega) with rfl | h
        · rw [hb] at hbi; cases hbi
        · exact h2 i h hbi
      · rw [fb_ct_succ, h4 p hp]
        cases hpm : p mt with
        | true => rw [hp mt hpm] at hb; cases hb
        | false => rfl
theorem ofR_mvd (so : Nat → Int32) (x : Int32) (n : Nat) : ofR so x n = mvd x so n := by
  unfold ofR mvd
  refine fld_congr (fun m y hm => ?_)
  by_cases hb : (x >>> (nI m &&& 31)) &&& 1 = 0
  · rw [decide_eq_true hb, if_pos rfl, hb, Int32.zero_shiftLeft, Int32.or_zero]
  · rw [decide_eq_false hb, if_neg (by decide), and1_n.mp hb]
def sbs (j X : Int32) : Bool := decide (j &&& (X ^^^ (-1)) = 0)
theorem sbs_bi {j X : Int32} : sbs j X = true ↔ ∀ i, i < 32 → bi j i = true → bi X i = true := by
  unfold sbs
  rw [decide_eq_true_eq]
  constructor
  · intro h i hi hj
    have := congrArg (fun y => bi y i) h
    simp only [bi_and, bi_not, bi_0, decide_eq_true hi, Bool.true_and, hj, Bool.not_eq_false'] at this
    exact this
  · intro h
    refine bi_z (fun i hi => ?_)
    rw [bi_and, bi_not, decide_eq_true hi, Bool.true_and]
    cases hj : bi j i with
    | false => rfl
    | true => rw [h i hi hj]; rfl
theorem sbs_or (a b X : Int32) : sbs (a ||| b) X = (sbs a X && sbs b X) := by
  refine bool_iff ?_
  rw [Bool.and_eq_true, sbs_bi, sbs_bi, sbs_bi]
  constructor
  · intro h
    exact ⟨fun i hi ha => h i hi (by rw [bi_or, ha]; rfl), fun i hi hb => h i hi (by rw [bi_or, hb, Bool.or_true])⟩
  · rintro ⟨h1, h2⟩ i hi h
    rw [bi_or, Bool.or_eq_true] at h
    rcases h with h | h
    · exact h1 i hi h
    · exact h2 i hi h
def nnS (rm : Nat → Int32) (sqs X : Int32) : Nat → Nat → Bool
  | 0, _ => true
  | r + 1, q => !(lies sqs (nI q) && sbs (rm q) X) && nnS rm sqs X r (q + 1)
theorem nnS_all (rm : Nat → Int32) (sqs X : Int32) : ∀ r q, nnS rm sqs X r q = true ↔ ∀ d, d < r → (lies sqs (nI (q + d)) && sbs (rm (q + d)) X) = false
  | 0, q => ⟨fun _ d h => absurd h (by omega), fun _ => rfl⟩
  | r + 1, q => by
    show (!(lies sqs (nI q) && sbs (rm q) X) && nnS rm sqs X r (q + 1)) = true ↔ _
    rw [Bool.and_eq_true, nnS_all rm sqs X r (q + 1), Bool.not_eq_true']
    constructor
    · rintro ⟨h1, h2⟩ d hd
      rcases Nat.eq_zero_or_pos d with rfl | h
      · exact h1
      · have := h2 (d - 1) (by omega)
        rw [show q + 1 + (d - 1) = q + d by omega] at this
        exact this
    · intro h
      exact ⟨h 0 (by omega), fun d hd => by have := h (d + 1) (by omega); rw [show q + (d + 1) = q + 1 + d by omega] at this; exact this⟩
theorem ww_ct {rm : Nat → Int32} {sqs L : Int32} {m sq : Nat} {so : Nat → Int32} (hm : m ≤ 16) (hrm : ∀ q, q < sq → lies sqs (nI q) = true → sbs (rm q) L = true) (hbase : ∀ j, sbs j L = true → pc j ≤ m ∧ fb_ct (fun x => sbs j (ofR so (nI x) m)) (2 ^ m) = 2 ^ (m - pc j)) :
    ∀ (r q : Nat) (j : Int32), q + r = sq → sbs j L = true → ww rm sqs (nI m) r q j = lN (fb_ct (fun x => sbs j (ofR so (nI x) m) && nnS rm sqs (ofR so (nI x) m) r q) (2 ^ m))
  | 0, q, j, _, hj => by
    obtain ⟨b1, b2⟩ := hbase j hj
    rw [ct_congr (q := fun x => sbs j (ofR so (nI x) m)) (fun k _ => by show (_ && true) = _; rw [Bool.and_true]), b2]
    show (1 : Int64) <<< ((nI m - bcE j).toInt64 &&& 63) = _
    rw [bcE_pc, sub_nI b1]
    have := wb_shl 1 (k := m - pc j) (by omega)
    rw [Nat.one_mul] at this
    exact this
  | r + 1, q, j, hq, hj => by
    show (if lies sqs (nI q) then ww rm sqs (nI m) r (q + 1) j - ww rm sqs (nI m) r (q + 1) (j ||| rm q) else ww rm sqs (nI m) r (q + 1) j) = _
    cases hl : lies sqs (nI q) with
    | false =>
      rw [if_neg (by decide), ww_ct hm hrm hbase r (q + 1) j (by omega) hj]
      congr 1
      refine ct_congr (fun x _ => ?_)
      show _ = (_ && (!(lies sqs (nI q) && _) && _))
      rw [hl]
      rfl
    | true =>
      have hj2 : sbs (j ||| rm q) L = true := by rw [sbs_or, hj, hrm q (by omega) hl]; rfl
      rw [if_pos rfl, ww_ct hm hrm hbase r (q + 1) j (by omega) hj, ww_ct hm hrm hbase r (q + 1) (j ||| rm q) (by omega) hj2]
      have e := ct_part (fun x => sbs j (ofR so (nI x) m) && nnS rm sqs (ofR so (nI x) m) r (q + 1)) (fun x => sbs (rm q) (ofR so (nI x) m)) (2 ^ m)
      have e1 : fb_ct (fun x => sbs (j ||| rm q) (ofR so (nI x) m) && nnS rm sqs (ofR so (nI x) m) r (q + 1)) (2 ^ m) = fb_ct (fun k => (sbs j (ofR so (nI k) m) && nnS rm sqs (ofR so (nI k) m) r (q + 1)) && sbs (rm q) (ofR so (nI k) m)) (2 ^ m) := by
        refine ct_congr (fun x _ => ?_)
        rw [sbs_or]
        cases sbs j (ofR so (nI x) m) <;> cases sbs (rm q) (ofR so (nI x) m) <;> cases nnS rm sqs (ofR so (nI x) m) r (q + 1) <;> rfl
      rw [e1, e, lN_sub (by omega), Nat.add_sub_cancel_left]
      congr 1
      refine ct_congr (fun x _ => ?_)
      show _ = (_ && (!(lies sqs (nI q) && _) && _))
      rw [hl]
      cases sbs j (ofR so (nI x) m) <;> cases sbs (rm q) (ofR so (nI x) m) <;> cases nnS rm sqs (ofR so (nI x) m) r (q + 1) <;> rfl
theorem fs_base {L : Int32} {mt : Nat} (f : Nat → Int32) (hL : ∀ i, bi L i = true → i < mt) (hb : mt ≤ 31) (h16 : fsC L mt ≤ 16) : (∀ x i, bi (ofR (fsR L f mt) x (fsC L mt)) i = true → bi L i = true) ∧ ∀ j, sbs j L = true → pc j ≤ fsC L mt ∧ fb_ct (fun x => sbs j (ofR (fsR L f mt) (nI x) (fsC L mt))) (2 ^ fsC L mt) = 2 ^ (fsC L mt - pc j) := by
  obtain ⟨e, h1, h2, h3, h4⟩ := fs_e L f mt (by omega)
  have hE : ∀ k, k < fsC L mt → fsR L f mt k = nI (e k) ∧ e k < 32 := fun k hk => ⟨(h1 k hk).1, by have := (h1 k hk).2.1; omega⟩
  refine ⟨fun x i hi => ?_, fun j hj => ?_⟩
  · rw [ofR_mvd] at hi
    obtain ⟨k, k1, k2, rfl⟩ := (mv_bi (by omega) hE i).mp hi
    exact (h1 k k1).2.2
  · have hjL := sbs_bi.mp hj
    have hjL2 : ∀ i, bi j i = true → bi L i = true := fun i hi => by
      rcases Nat.lt_or_ge i 32 with h | h
      · exact hjL i h hi
      · rw [bi_ge h] at hi; cases hi
    have hpc : pc j = fb_ct (fun k => bi j (e k)) (fsC L mt) := by
      rw [← h4 (bi j) hjL2]
      refine pc_ct (by omega) (fun _ _ => rfl) (fun q q1 q2 => ?_)
      cases h : bi j q with
      | false => rfl
      | true => exact absurd (hL q (hjL2 q h)) (by omega)
    refine ⟨by rw [hpc]; exact ct_le _ _, ?_⟩
    rw [hpc, ← ct_sup (fun k => bi j (e k)) (fsC L mt)]
    refine ct_congr (fun x hx => bool_iff ?_)
    rw [sbs_bi, List.all_eq_true, ofR_mvd]
    have inj : ∀ a b, a < fsC L mt → b < fsC L mt → e a = e b → a = b := by
      intro a b ha hb2 hab
      rcases Nat.lt_trichotomy a b with h | h | h
      · have := h3 a b h hb2; omega
      · exact h
      · have := h3 b a h ha; omega
    constructor
    · intro h k hk
      have hk := List.mem_range.mp hk
      cases hj : bi j (e k) with
      | false => rfl
      | true =>
        obtain ⟨k2, g1, g2, g3⟩ := (mv_bi (by omega) hE (e k)).mp (h (e k) (hE k hk).2 hj)
        rw [inj k2 k g1 hk g3, bi_nI, decide_eq_true (show k < 32 by omega), Bool.true_and] at g2
        show (!true || x.testBit k) = true
        rw [g2]; rfl
    · intro h i hi hji
      obtain ⟨k, k1, rfl⟩ := h2 i (hL i (hjL2 i hji)) (hjL2 i hji)
      have := h k (List.mem_range.mpr k1)
      rw [hji] at this
      refine (mv_bi (by omega) hE _).mpr ⟨k, k1, ?_, rfl⟩
      rw [bi_nI, decide_eq_true (show k < 32 by omega), Bool.true_and]
      exact this
theorem ct_none {p : Nat → Bool} : ∀ {n : Nat}, fb_ct p n = 0 → ∀ k, k < n → p k = false
  | 0, _, k, h => absurd h (by omega)
  | n + 1, h, k, hk => by
    rw [fb_ct_succ] at h
    rcases (show k = n ∨ k < n by omega) with rfl | h2
    · cases hp : p k with
      | false => rfl
      | true => rw [hp] at h; simp at h
    · exact ct_none (n := n) (by omega) k h2
section HO
variable {Z : List (Option Nat)} {ext : List Ds} {M : Mm}
theorem op_chance (hI : Inv Z ext M) (x : Int32) : OpL mX9_chance mX10_chance [.int x] Z ext M := by
  obtain ⟨w, h, n0, k0, k1, hw, hG, hT, hIm, hP, hS, hF1, hF2, hF3⟩ := id hI
  have hf := gf hw
  have h20 := hf.1
  have hmb := hf.2.2.1
  have hL := hT.2.2.2.2.1
  have hfl := fsC_le (M 10 0) (mtN w h)
  have hpc := fsC_pc hL hmb
  cases hx : rg x 0 1 with
  | false =>
    exact op_eqL hI (Ct.eq0 (c_chanceX x hx)) (fun M1 hI1 hE => Ct.eq0 (c_m_chanceX x hx))
  | true =>
    by_cases hc : fsC (M 10 0) (mtN w h) ≤ 16
    · refine op_eqL hI (Ct.eq0 (c_chance x hx hpc hc hG.1.2.2.2 hf.1)) (fun M1 hI1 hE => ?_)
      obtain ⟨e49, e51, e54, e4, e5, -, -⟩ := eqm_rf hE
      have hr := c_m_chance (Z := Z) (ext := ext) (M := M1) (mt := mtN w h) (sq := sqN w h) x hx (by rw [e4]; exact hG.2.1.2.2.1) hmb (by rw [e5]; exact hG.2.1.2.2.2) hf.1 rfl rfl (by rw [e49, hT.1]; exact hc)
      rw [e49, e51, e54, hT.1, show M 49 32 = M 10 1 from hT.2.1] at hr
      obtain ⟨b1, b2⟩ := fs_base (L := M 10 0) (M1 63) hL hmb hc
      generalize hm : fsC (M 10 0) (mtN w h) = m at *
      generalize fsR (M 10 0) (M1 63) (mtN w h) = so at *
      have hsq : ∀ q, q < sqN w h → lies (lsq (M 10 1) (M 6) (M 5) (sqN w h) (M 10 0)) (nI q) = (lies (M 10 1) (szF w h q) && inq (rmF w h) (M 10 0) q) := fun q hq => by
        rw [lies_bi _ (by omega), bi_ls hG hf _ _ (by omega), decide_eq_true hq, Bool.true_and]
      have hrm : ∀ q, q < sqN w h → M 5 q = rmF w h q := fun q hq => (hG.2.2.1 q hq).1.2.2.2
      have hww := ww_ct (rm := M 5) (sqs := lsq (M 10 1) (M 6) (M 5) (sqN w h) (M 10 0)) (L := M 10 0) (sq := sqN w h) (so := so) hc (fun q hq hl => by
        rw [hsq q hq, Bool.and_eq_true] at hl
        rw [hrm q hq]
        exact hl.2) b2 (sqN w h) 0 0 (by omega) (by unfold sbs; rw [Int32.zero_and]; rfl)
      have en : fb_ct (fun x => sbs 0 (ofR so (nI x) m) && nnS (M 5) (lsq (M 10 1) (M 6) (M 5) (sqN w h) (M 10 0)) (ofR so (nI x) m) (sqN w h) 0) (2 ^ m) = fb_ct (noneL (M 10 1) (M 51) (M 54) (sqN w h) so m) (2 ^ m) := by
        refine ct_congr (fun y _ => bool_iff ?_)
        rw [show sbs 0 (ofR so (nI y) m) = true by unfold sbs; rw [Int32.zero_and]; rfl, Bool.true_and, nnS_all]
        unfold noneL
        rw [decide_eq_true_eq, Lf_F hG, Lf_ct]
        constructor
        · intro hn
          rw [ct_zero (fun q hq => ?_)]
          · rfl
          · have := hn q hq
            rw [Nat.zero_add, hsq q hq, hrm q hq] at this
            rw [cntq_lies]
            cases hi : inq (rmF w h) (ofR so (nI y) m) q with
            | false => rw [Bool.and_false]
            | true =>
              have hiL : inq (rmF w h) (M 10 0) q = true := sbs_bi.mpr (fun i hi2 hb => b1 _ i (sbs_bi.mp hi i hi2 hb))
              rw [hiL, show sbs (rmF w h q) (ofR so (nI y) m) = true from hi, Bool.and_true, Bool.and_true] at this
              rw [this]; rfl
        · intro h0 d hd
          have hlt := ct_le (fun q => cntq (M 10 1) (szF w h) q && inq (rmF w h) (ofR so (nI y) m) q) (sqN w h)
          have hz : fb_ct (fun q => cntq (M 10 1) (szF w h) q && inq (rmF w h) (ofR so (nI y) m) q) (sqN w h) = 0 := by
            have := congrArg Int32.toInt h0
            rw [nI_toInt (by omega), show (0 : Int32).toInt = 0 by decide] at this
            omega
          have := ct_none hz d hd
          rw [Nat.zero_add, hsq d hd, hrm d hd]
          rw [cntq_lies] at this
          show ((lies (M 10 1) (szF w h d) && inq (rmF w h) (M 10 0) d) && inq (rmF w h) (ofR so (nI y) m) d) = false
          cases h1 : lies (M 10 1) (szF w h d) <;> cases h2 : inq (rmF w h) (ofR so (nI y) m) d <;> rw [h1, h2] at this <;> simp_all
      rw [hww, en]
      have hct := ct_le (noneL (M 10 1) (M 51) (M 54) (sqN w h) so m) (2 ^ m)
      have h2m : 2 ^ m ≤ 2 ^ 16 := Nat.pow_le_pow_right (by decide) hc
      rw [vItl_low (by omega) (by omega)]
      exact hr
    · refine op_eqL hI (Ct.eq0 (c_chanceS x hx (by rw [hpc]; exact nI_ge (a := 16) (by omega) (by omega)))) (fun M1 hI1 hE => ?_)
      obtain ⟨e49, e51, e54, e4, e5, -, -⟩ := eqm_rf hE
      exact c_m_chanceS x hx (by rw [e4]; exact hG.2.1.2.2.1) hmb (by rw [e49, hT.1]; omega)
end HO
