/-! ===== calls: mean ===== -/
theorem gcd_odd {n : Nat} (h : n % 2 = 1) (k : Nat) : Nat.gcd n (2 ^ k) = 1 := by
  have : Nat.Coprime n 2 := by
    show Nat.gcd n 2 = 1
    rw [Nat.gcd_comm, Nat.gcd_rec, h, Nat.gcd_one_left]
  exact Nat.Coprime.pow_right k this
theorem itl_low : ∀ (k n : Nat), n < 2 ^ 62 → k ≤ 31 → ∃ t, t ≤ k ∧ itl k (lN n) (nI k) = (lN (n / Nat.gcd n (2 ^ k)), nI t) ∧ 2 ^ t = 2 ^ k / Nat.gcd n (2 ^ k)
  | 0, n, _, _ => ⟨0, Nat.le_refl _, by rw [Nat.pow_zero, Nat.gcd_one_right, Nat.div_one]; rfl, by rw [Nat.pow_zero, Nat.gcd_one_right]⟩
  | k + 1, n, hn, hk => by
    have e : itl (k + 1) (lN n) (nI (k + 1)) = if decide (lN n &&& 1 = 0) then itl k (lN n >>> ((1 : Int32).toInt64 &&& 63)) (nI (k + 1) + (-1)) else (lN n, nI (k + 1)) := rfl
    rw [e, wb_a1 (by omega)]
    rcases Nat.mod_two_eq_zero_or_one n with h | h
    · obtain ⟨m, rfl⟩ : ∃ m, n = 2 * m := ⟨n / 2, by omega⟩
      obtain ⟨t, t1, t2, t3⟩ := itl_low k m (by omega) (by omega)
      rw [h, decide_eq_true (show lN 0 = 0 from rfl), if_pos rfl, pf_shr (d := 1) (by decide) (by omega), nI_m, nI_pred, show 2 * m / 2 ^ 1 = m by omega, t2, Nat.pow_succ, Nat.mul_comm (2 ^ k) 2, Nat.gcd_mul_left, Nat.mul_div_mul_left _ _ (by decide), Nat.mul_div_mul_left _ _ (by decide)]
      exact ⟨t, by omega, rfl, t3⟩
    · rw [h, decide_eq_false (show ¬ lN 1 = 0 by decide), if_neg (by decide), gcd_odd h, Nat.div_one, Nat.div_one]
      exact ⟨k + 1, Nat.le_refl _, rfl, rfl⟩
theorem vItl_low {k n : Nat} (hn : n < 2 ^ 62) (hk : k ≤ 31) (x : Int32) : vItl (itl k (lN n) (nI k)) x = if decide (x = 0) then lN (n / Nat.gcd n (2 ^ k)) else lN (2 ^ k / Nat.gcd n (2 ^ k)) := by
  obtain ⟨t, t1, t2, t3⟩ := itl_low k n hn hk
  rw [t2, ← t3]
  unfold vItl
  have : (1 : Int64) <<< ((nI t).toInt64 &&& 63) = lN (2 ^ t) := by
    have := wb_shl 1 (k := t) (by omega)
    rw [Nat.one_mul] at this
    exact this
  show (if decide (x = 0) then lN (n / Nat.gcd n (2 ^ k)) else (1 : Int64) <<< ((nI t).toInt64 &&& 63)) = _
  rw [this]
def lfP (w h : Nat) (C L : Int32) (s q : Nat) : Bool := (lies C (szF w h q) && inq (rmF w h) L q) && decide (szF w h q = nI s)
theorem mn_ct {w h : Nat} {M : Mm} (hG : GrI w h M) (hf : GF w h) (C L : Int32) : ∀ n, n ≤ sqN w h → mnN C (M 51) (M 54) L n = 256 * fb_ct (lfP w h C L 1) n + 16 * fb_ct (lfP w h C L 2) n + fb_ct (lfP w h C L 3) n
  | 0, _ => rfl
  | n + 1, hn => by
    have ih := mn_ct hG hf C L n (by omega)
    obtain ⟨s, s1, s2, s3⟩ := hf.2.2.2.1 n (by omega)
    have g := (hG.2.2.1 n (by omega)).2
    rw [mnN_s, ih, fb_ct_succ, fb_ct_succ, fb_ct_succ]
    unfold lfP
    have e : (cntq C (M 51) n && inq (M 54) L n) = (lies C (szF w h n) && inq (rmF w h) L n) := by
      unfold cntq inq lies
      rw [g.1, g.2.2.2]
    rw [e, g.1, s3, nI_clamp (by omega)]
    cases lies C (nI s) && inq (rmF w h) L n with
    | false => simp
    | true =>
      rcases (show s = 1 ∨ s = 2 ∨ s = 3 by omega) with rfl | rfl | rfl
      · simp [show nI 1 ≠ nI 2 by decide, show nI 1 ≠ nI 3 by decide]; omega
      · simp [show nI 2 ≠ nI 1 by decide, show nI 2 ≠ nI 3 by decide]; omega
      · simp [show nI 3 ≠ nI 1 by decide, show nI 3 ≠ nI 2 by decide]; omega
theorem ct_le (p : Nat → Bool) : ∀ n, fb_ct p n ≤ n
  | 0 => Nat.le_refl _
  | n + 1 => by
    have := ct_le p n
    rw [fb_ct_succ]
    split <;> omega
theorem pc_of {w h : Nat} {M : Mm} (hG : GrI w h M) (hf : GF w h) (C L : Int32) {s : Nat} (s1 : 1 ≤ s) (s2 : s ≤ 3) : pc (lsq C (M 6) (M 5) (sqN w h) L &&& M 6 s) = fb_ct (lfP w h C L s) (sqN w h) := by
  have h20 := hf.1
  have hb : ∀ q, q < 32 → bi (lsq C (M 6) (M 5) (sqN w h) L &&& M 6 s) q = (decide (q < sqN w h) && lfP w h C L s q) := by
    intro q hq
    rw [bi_and, bi_ls hG hf C L hq, hG.2.2.2.1 s s1 s2, hf.2.2.2.2.1 s s1 s2 q hq]
    unfold lfP
    cases decide (q < sqN w h) <;> simp
  refine pc_ct (by omega) (fun q hq => ?_) (fun q h1 h2 => ?_)
  · rw [hb q (by omega), decide_eq_true hq, Bool.true_and]
  · rw [hb q h2, decide_eq_false (by omega), Bool.false_and]
theorem cmn_mn {w h : Nat} {M : Mm} (hG : GrI w h M) (hf : GF w h) (C L : Int32) : cmn (lsq C (M 6) (M 5) (sqN w h) L) (M 6) 3 = lN (mnN C (M 51) (M 54) L (sqN w h)) := by
  have h20 := hf.1
  have e : ∀ s, 1 ≤ s → s ≤ 3 → (bcE (lsq C (M 6) (M 5) (sqN w h) L &&& M 6 s)).toInt64 = lN (fb_ct (lfP w h C L s) (sqN w h)) := by
    intro s s1 s2
    have := ct_le (lfP w h C L s) (sqN w h)
    rw [bcE_pc, pc_of hG hf C L s1 s2, nI_l (by omega)]
  show (((0 : Int64) + ((1 : Int64) <<< (((4 : Int32) * (3 - nI 1)).toInt64 &&& 63)) * _) + ((1 : Int64) <<< (((4 : Int32) * (3 - nI 2)).toInt64 &&& 63)) * _) + ((1 : Int64) <<< (((4 : Int32) * (3 - nI 3)).toInt64 &&& 63)) * _ = _
  rw [e 1 (by decide) (by decide), e 2 (by decide) (by decide), e 3 (by decide) (by decide), show (1 : Int64) <<< (((4 : Int32) * (3 - nI 1)).toInt64 &&& 63) = lN 256 by decide, show (1 : Int64) <<< (((4 : Int32) * (3 - nI 2)).toInt64 &&& 63) = lN 16 by decide, show (1 : Int64) <<< (((4 : Int32) * (3 - nI 3)).toInt64 &&& 63) = lN 1 by decide, lN_mul, lN_mul, lN_mul, Int64.zero_add, lN_add, lN_add, mn_ct hG hf C L _ (Nat.le_refl _), Nat.one_mul]
section MO
variable {Z : List (Option Nat)} {ext : List Ds} {M : Mm}
theorem op_mean (hI : Inv Z ext M) (x : Int32) : OpL mX9_mean mX10_mean [.int x] Z ext M := by
  obtain ⟨w, h, n0, k0, k1, hw, hG, hT, hIm, hP, hS, hF1, hF2, hF3⟩ := id hI
  have hf := gf hw
  have h20 := hf.1
  cases hx : rg x 0 1 with
  | false =>
    exact op_eqL hI (Ct.eq0 (c_meanX x hx)) (fun M1 hI1 hE => Ct.eq0 (c_m_meanX x hx))
  | true =>
    refine op_eqL hI (Ct.eq0 (c_mean x hx hG.1.2.2.2 hf.1)) (fun M1 hI1 hE => ?_)
    obtain ⟨e49, e51, e54, e4, e5, -, -⟩ := eqm_rf hE
    have hr := c_m_mean (Z := Z) (ext := ext) (M := M1) (sq := sqN w h) x hx (by rw [e5]; exact hG.2.1.2.2.2) hf.1 (fun q hq => by rw [e51, (hG.2.2.1 q hq).2.1]; exact hf.2.2.2.1 q hq)
    rw [e49, e51, e54, hT.1, show M 49 32 = M 10 1 from hT.2.1] at hr
    have hle := mnN_le (M 10 1) (M 51) (M 54) (M 10 0) (sqN w h)
    rw [cmn_mn hG hf, show (12 : Int32) = nI 12 from rfl, vItl_low (by omega) (by decide), show (2 : Nat) ^ 12 = 4096 by decide]
    exact Ct.eq0 hr
end MO
