/-! ===== calls: end, feed, play ===== -/
section TO
variable {Z : List (Option Nat)} {ext : List Ds} {M : Mm}
theorem op_end (hI : Inv Z ext M) (a : Int32) : OpI mX9_end mX10_end [.int a] Z ext M := by
  obtain ⟨w, h, n, k0, k1, hw, hG, hT, hIm, ⟨p1, p2, p3, p4⟩, hS, hF1, hF2, hF3⟩ := id hI
  have cc := c_end (Z := Z) (ext := ext) (M := M) a
  have cr := c_m_end (Z := Z) (ext := ext) (M := up2 M 13 1 (if rg a 0 (M 13 1) then a else M 13 1)) a
  rw [show (up2 M 13 1 (if rg a 0 (M 13 1) then a else M 13 1)) 48 19 = M 13 1 from p3.trans p2.symm] at cr
  refine op_rt cc cr rfl ?_
  obtain ⟨n', hn', he⟩ : ∃ n', n' ≤ n ∧ (if rg a 0 (M 13 1) then a else M 13 1) = nI n' := by
    cases hr : rg a 0 (M 13 1) with
    | false => exact ⟨n, Nat.le_refl n, p2⟩
    | true =>
      rw [p2] at hr
      obtain ⟨q, -, q2, q3⟩ := rg_nat (a := 0) (b := n) (by omega) (by omega) hr
      exact ⟨q, q2, q3⟩
  rw [he]
  exact ⟨w, h, n', k0, k1, hw, hG.c ⟨⟨rfl, rfl, rfl, rfl, rfl, rfl, rfl, rfl, rfl⟩, ⟨rfl, rfl, rfl, rfl⟩, rfl, rfl, rfl, rfl⟩, hT.c (fun _ _ _ => rfl) rfl rfl rfl, hIm.c rfl rfl (fun _ _ => rfl) ⟨rfl, rfl, rfl, rfl, rfl, rfl⟩, ⟨by omega, rfl, rfl, fun k hk => p4 k (by omega)⟩, hS.c rfl rfl rfl (fun c hc => by rw [up2_hi (by decide) c hc, up2_hi (by decide) c hc]), hF1, hF2, hF3⟩
theorem sh_of : ∀ k, k < 8 → ((56 : Int32) - 8 * nI k).toInt64 = Int64.ofNat (56 - 8 * k) := by decide
theorem op_feed (hI : Inv Z ext M) (a : Int64) : OpI mX9_feed mX10_feed [.long a] Z ext M := by
  obtain ⟨w, h, n, k0, k1, hw, hG, hT, hIm, ⟨p1, p2, p3, p4⟩, hS, hF1, hF2, hF3⟩ := id hI
  by_cases hb : n + 8 ≤ 320
  · have cc := c_feed (Z := Z) (ext := ext) (M := M) n a p2 hb
    have cr := c_m_feed (Z := Z) (ext := ext) (M := up2 (upr M 14 (apT (M 14) n a 8)) 13 1 (nI (n + 8))) n a p3 hb
    refine op_rt cc cr rfl ?_
    refine ⟨w, h, n + 8, k0, k1, hw, hG.c ⟨⟨rfl, rfl, rfl, rfl, rfl, rfl, rfl, rfl, rfl⟩, ⟨rfl, rfl, rfl, rfl⟩, rfl, rfl, rfl, rfl⟩, hT.c (fun _ _ _ => rfl) rfl rfl rfl, hIm.c rfl rfl (fun _ _ => rfl) ⟨rfl, rfl, rfl, rfl, rfl, rfl⟩, ⟨hb, rfl, rfl, fun k hk => ?_⟩, hS.c rfl rfl rfl (fun c hc => ?_), hF1, hF2, hF3⟩
    · show sim (apT (M 14) n a 8 k) (fdT (M 57) n a 8 k)
      unfold apT fdT
      rw [fld_at k 8, fld_at k 8]
      by_cases hk2 : n ≤ k ∧ k < n + 8
      · rw [if_pos hk2, if_pos hk2]
        unfold apB fdB
        rw [sh_of (k - n) (by omega)]
        exact byte_sim a (56 - 8 * (k - n)) (by omega) _ rfl
      · rw [if_neg hk2, if_neg hk2]
        exact p4 k (by omega)
    · rw [upr_n _ _ (show c ≠ 57 by omega), up2_hi (by decide) c hc, up2_hi (by decide) c hc, upr_n _ _ (show c ≠ 14 by omega)]
  · exact op_pure hI (c_feedX n a p2 hb p1) (c_m_feedX n a p3 hb p1) rfl
theorem bi_us {x : Int32} {s i : Nat} (hs : s < 32) (hi : i < 32) : bi (us x (nI s)) i = (decide (i + s < 32) && bi x (i + s)) := by
  obtain ⟨m, hm, rfl, hb⟩ := to_nI x
  have hu : us (nI m) (nI s) = nI (m / 2 ^ s) := by
    apply Int32.toBitVec_inj.mp
    apply BitVec.eq_of_toNat_eq
    have h1 : (us (nI m) (nI s)).toBitVec.toNat = m / 2 ^ s := by
      show ((nI m).toUInt32 >>> ((nI s).toUInt32 &&& Int32.toUInt32 31)).toBitVec.toNat = _
      rw [UInt32.toBitVec_shiftRight]
      have e1 : ((nI s).toUInt32 &&& Int32.toUInt32 31).toBitVec.toNat = s := by
        show ((nI s).toBitVec &&& (31 : Int32).toBitVec).toNat = s
        rw [BitVec.toNat_and, show (nI s).toBitVec = BitVec.ofNat 32 s from rfl, BitVec.toNat_ofNat, Nat.mod_eq_of_lt (show s < 2 ^ 32 by omega), show (31 : Int32).toBitVec.toNat = 2 ^ 5 - 1 from rfl, Nat.and_two_pow_sub_one_eq_mod, Nat.mod_eq_of_lt (by omega)]
      have e2 : (((nI s).toUInt32 &&& Int32.toUInt32 31).toBitVec % 32).toNat = s := by
        rw [BitVec.toNat_umod, e1]
        exact Nat.mod_eq_of_lt hs
      rw [BitVec.ushiftRight_eq', e2, BitVec.toNat_ushiftRight, Nat.shiftRight_eq_div_pow]
      show (nI m).toBitVec.toNat / 2 ^ s = _
      rw [show (nI m).toBitVec = BitVec.ofNat 32 m from rfl, BitVec.toNat_ofNat, Nat.mod_eq_of_lt hm]
    rw [h1, show (nI (m / 2 ^ s)).toBitVec = BitVec.ofNat 32 (m / 2 ^ s) from rfl, BitVec.toNat_ofNat, Nat.mod_eq_of_lt (Nat.lt_of_le_of_lt (Nat.div_le_self _ _) hm)]
  rw [hu, bi_nI, decide_eq_true hi, Bool.true_and, hb, Nat.testBit_div_two_pow]
  by_cases h : i + s < 32
  · rw [decide_eq_true h, Bool.true_and]
  · rw [decide_eq_false h, Bool.false_and]
    exact Nat.testBit_lt_two_pow (Nat.lt_of_lt_of_le hm (Nat.pow_le_pow_right (by decide) (by omega)))
theorem bi_shr (x : Int32) {s i : Nat} (hs : s < 32) (h : i + s < 32) : bi (x >>> (nI s &&& 31)) i = bi x (i + s) := by
  have hb : bi (x >>> (nI s &&& 31)) i = (x.toBitVec.sshiftRight s).getLsbD i := by
    show (x >>> (nI s &&& 31)).toBitVec.getLsbD i = _
    have e0 : nI s &&& 31 = nI s := by
      have : ∀ s : Fin 32, nI s.val &&& 31 = nI s.val := by decide +kernel
      exact this ⟨s, hs⟩
    rw [e0, Int32.toBitVec_shiftRight, BitVec.sshiftRight']
    have : ((nI s).toBitVec.smod 32).toNat = s := by
      have : ∀ s : Fin 32, ((nI s.val).toBitVec.smod 32).toNat = s.val := by decide +kernel
      exact this ⟨s, hs⟩
    rw [this]
  rw [hb, BitVec.getLsbD_sshiftRight, if_pos (by omega), decide_eq_false (by omega : ¬ 32 ≤ i), Nat.add_comm]
  simp [bi]
theorem draw_e (d : Int32) : (d >>> ((16 : Int32) &&& 31)) &&& 32767 = us d 16 &&& 32767 := by
  refine bi_ext (fun i hi => ?_)
  rw [bi_and, bi_and]
  have h15 : bi 32767 i = decide (i < 15) := by
    have : ∀ i : Fin 32, bi 32767 i.val = decide (i.val < 15) := by decide +kernel
    exact this ⟨i, hi⟩
  rw [h15]
  by_cases h : i < 15
  · have e1 := bi_shr d (s := 16) (i := i) (by decide) (by omega)
    have e2 := bi_us (x := d) (s := 16) (i := i) (by decide) hi
    rw [decide_eq_true (show i + 16 < 32 by omega), Bool.true_and] at e2
    rw [show bi (d >>> ((16 : Int32) &&& 31)) i = bi d (i + 16) from e1, show bi (us d 16) i = bi d (i + 16) from e2]
  · rw [decide_eq_false h, Bool.and_false, Bool.and_false]
theorem draws_e (mt L seed : Int32) : ∀ n, draws mt L seed n = drawc mt L seed n
  | 0 => rfl
  | n + 1 => by
    have h := draws_e mt L seed n
    simp only [draws, drawc, h, draw_e]
theorem op_play (hI : Inv Z ext M) (a b : Int32) : OpI mX9_play mX10_play [.int a, .int b] Z ext M := by
  obtain ⟨w, h, n, k0, k1, hw, hG, hT, hIm, hP, hS, hF1, hF2, hF3⟩ := id hI
  have hf := gf hw
  cases hr : rg b 0 60 with
  | false => exact op_pure hI (c_playX a b hr) (c_m_playX a b hr) rfl
  | true =>
    obtain ⟨j, -, hj, rfl⟩ := rg_nat (a := 0) (b := 60) (by decide) (by decide) hr
    refine op_pure hI (c_play a j hj hG.1.2.2.1 hf.2.1 hf.2.2.1 hG.1.2.2.2 hf.1) (c_m_play a j hj hG.2.1.2.2.1 hf.2.1 hf.2.2.1 hG.2.1.2.2.2 hf.1) ?_
    rw [hT.1, show M 49 32 = M 10 1 from hT.2.1, left_b hG hf, draws_e, hG.1.2.2.1, hG.2.1.2.2.1]
end TO
