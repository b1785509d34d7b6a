/-! ===== calls: end, feed, play ===== -/
theorem fld_at {f : Nat → Int32} {t : Nat} {b : Nat → Int32} (k : Nat) : ∀ n, fld (fun j g => upd g (t + j) (b j)) n f k = if t ≤ k ∧ k < t + n then b (k - t) else f k
  | 0 => by rw [if_neg (by omega)]; rfl
  | n + 1 => by
    rw [fld_s]
    show (if k = t + n then b n else fld (fun j g => upd g (t + j) (b j)) n f k) = _
    by_cases h : k = t + n
    · rw [if_pos h, if_pos (by omega), h, show t + n - t = n by omega]
    · rw [if_neg h, fld_at k n]
      by_cases h2 : t ≤ k ∧ k < t + n
      · rw [if_pos h2, if_pos (by omega)]
      · rw [if_neg h2, if_neg (by omega)]
theorem byte_sim (v : Int64) (s : Nat) (hs : s ≤ 56) (sh : Int64) (he : sh = Int64.ofNat s) : sim (((v.toUInt64 >>> (sh.toUInt64 &&& Int64.toUInt64 63)).toInt64.toInt32.toInt8.toInt32).toInt8.toInt32) (((v >>> (sh &&& 63)) &&& 255).toInt32) := by
  subst he
  have hsh : (Int64.ofNat s &&& 63) = Int64.ofNat s := by
    apply Int64.toBitVec_inj.mp
    apply BitVec.eq_of_toNat_eq
    rw [Int64.toBitVec_and, BitVec.toNat_and]
    have h1 : (Int64.ofNat s).toBitVec.toNat = s := by
      rw [show (Int64.ofNat s).toBitVec = BitVec.ofNat 64 s from rfl, BitVec.toNat_ofNat, Nat.mod_eq_of_lt (by omega)]
    rw [h1, show (63 : Int64).toBitVec.toNat = 2 ^ 6 - 1 from rfl, Nat.and_two_pow_sub_one_eq_mod, Nat.mod_eq_of_lt (by omega)]
  have hnat : (Int64.ofNat s).toBitVec.toNat = s := by
    rw [show (Int64.ofNat s).toBitVec = BitVec.ofNat 64 s from rfl, BitVec.toNat_ofNat, Nat.mod_eq_of_lt (by omega)]
  refine ⟨(v.toBitVec.toNat >>> s) % 256, Nat.mod_lt _ (by decide), ?_, ?_⟩
  · apply Int32.toBitVec_inj.mp
    apply BitVec.eq_of_getLsbD_eq
    intro i hi
    rw [hsh]
    have e1 : (nI ((v.toBitVec.toNat >>> s) % 256)).toBitVec = BitVec.ofNat 32 ((v.toBitVec.toNat >>> s) % 256) := rfl
    rw [e1, BitVec.getLsbD_ofNat, decide_eq_true hi, Bool.true_and, show (256 : Nat) = 2 ^ 8 from rfl, Nat.testBit_mod_two_pow, Nat.testBit_shiftRight]
    have hsm : ((Int64.ofNat s).toBitVec.smod 64).toNat = s := by
      have hb : (Int64.ofNat s).toBitVec = BitVec.ofNat 64 s := rfl
      rw [hb]
      have : ∀ s : Fin 57, ((BitVec.ofNat 64 s.val).smod 64).toNat = s.val := by decide +kernel
      exact this ⟨s, by omega⟩
    rw [Int64.toBitVec_toInt32, Int64.toBitVec_and, Int64.toBitVec_shiftRight, BitVec.sshiftRight', hsm, BitVec.getLsbD_signExtend, decide_eq_true hi, Bool.true_and, if_pos (show i < 64 by omega), BitVec.getLsbD_and, BitVec.getLsbD_sshiftRight]
    by_cases h8 : i < 8
    · have : (Int64.toBitVec 255).getLsbD i = true := by
        have : ∀ i : Fin 8, (Int64.toBitVec 255).getLsbD i.val = true := by decide
        exact this ⟨i, h8⟩
      rw [this, decide_eq_true h8, Bool.and_true, Bool.true_and, if_pos (by omega), decide_eq_false (by omega : ¬ 64 ≤ i)]
      simp [BitVec.getLsbD, Nat.add_comm]
    · have : (Int64.toBitVec 255).getLsbD i = false := by
        have : ∀ i : Fin 32, ¬ i.val < 8 → (Int64.toBitVec 255).getLsbD i.val = false := by decide
        exact this ⟨i, hi⟩ h8
      rw [this, decide_eq_false h8, Bool.and_false, Bool.false_and]
  · congr 1
    apply Int8.toBitVec_inj.mp
    apply BitVec.eq_of_getLsbD_eq
    intro i hi
    have hu : (v.toUInt64 >>> ((Int64.ofNat s).toUInt64 &&& Int64.toUInt64 63)).toBitVec = v.toBitVec >>> s := by
      have e : ((Int64.ofNat s).toUInt64 &&& Int64.toUInt64 63) = (Int64.ofNat s &&& 63).toUInt64 := rfl
      rw [e, hsh, UInt64.toBitVec_shiftRight]
      have : ((Int64.ofNat s).toUInt64.toBitVec % 64#64).toNat = s := by
        rw [BitVec.toNat_umod]
        show (Int64.ofNat s).toBitVec.toNat % 64 = s
        rw [hnat, Nat.mod_eq_of_lt (by omega)]
      first
        | (rw [BitVec.ushiftRight_eq', this]; rfl)
        | (show v.toBitVec >>> ((Int64.ofNat s).toUInt64.toBitVec % 64#64).toNat = _; rw [this])
    simp only [Int32.toBitVec_toInt8, Int8.toBitVec_toInt32, Int64.toBitVec_toInt32]
    have e1 : (nI ((v.toBitVec.toNat >>> s) % 256)).toBitVec = BitVec.ofNat 32 ((v.toBitVec.toNat >>> s) % 256) := rfl
    rw [e1]
    rw [show (v.toUInt64 >>> ((Int64.ofNat s).toUInt64 &&& Int64.toUInt64 63)).toInt64.toBitVec = v.toBitVec >>> s from hu]
    simp only [BitVec.getLsbD_setWidth, BitVec.getLsbD_signExtend, BitVec.getLsbD_ushiftRight, BitVec.getLsbD_ofNat, decide_eq_true hi, Bool.true_and]
    simp only [show i < 32 by omega, show i < 8 by omega, if_true, decide_true, Bool.true_and]
    rw [show (256 : Nat) = 2 ^ 8 from rfl, Nat.testBit_mod_two_pow, Nat.testBit_shiftRight, decide_eq_true hi, Bool.true_and]
    simp [BitVec.getLsbD]
    intro h; omega
