/-! ===== pure: the lowest bit ===== -/
theorem to_nI (x : Int32) : ∃ n, n < 2 ^ 32 ∧ x = nI n ∧ ∀ i, bi x i = n.testBit i := by
  refine ⟨x.toBitVec.toNat, x.toBitVec.isLt, ?_, fun i => rfl⟩
  apply Int32.toBitVec_inj.1
  show x.toBitVec = BitVec.ofNat 32 x.toBitVec.toNat
  rw [BitVec.ofNat_toNat, BitVec.setWidth_eq]
theorem neg_nI {n : Nat} (h0 : 0 < n) (h : n < 2 ^ 32) : -(nI n) = nI (2 ^ 32 - n) := by
  apply Int32.toBitVec_inj.1
  show -(BitVec.ofNat 32 n) = BitVec.ofNat 32 (2 ^ 32 - n)
  apply BitVec.eq_of_toNat_eq
  rw [BitVec.toNat_neg, BitVec.toNat_ofNat, BitVec.toNat_ofNat, Nat.mod_eq_of_lt h]
theorem odd_and {m w : Nat} (hodd : m % 2 = 1) (hm : m < 2 ^ w) : m &&& (2 ^ w - m) = 1 := by
  obtain ⟨a, rfl⟩ : ∃ a, m = a + 1 := ⟨m - 1, by omega⟩
  apply Nat.eq_of_testBit_eq
  intro i
  rw [Nat.testBit_and, Nat.testBit_two_pow_sub_succ (by omega)]
  cases i with
  | zero =>
    rw [Nat.testBit_zero, Nat.testBit_zero, Nat.testBit_zero]
    have h1 : (a + 1) % 2 = 1 := hodd
    have h2 : a % 2 = 0 := by omega
    have h3 : 0 < w := by
      rcases Nat.eq_zero_or_pos w with h | h
      · subst h; simp at hm
      · exact h
    simp [h1, h2, h3]
  | succ i =>
    rw [Nat.testBit_succ, Nat.testBit_succ, Nat.testBit_succ, show (a + 1) / 2 = a / 2 by omega, show 1 / 2 = 0 from rfl, Nat.zero_testBit]
    cases (a / 2).testBit i <;> simp
theorem low_nat : ∀ (w n : Nat), 0 < n → n < 2 ^ w → ∃ k m, k < w ∧ n = 2 ^ k * m ∧ m % 2 = 1
  | 0, n, h0, h => by simp at h; omega
  | w + 1, n, h0, h => by
    by_cases ho : n % 2 = 1
    · exact ⟨0, n, by omega, by omega, ho⟩
    · obtain ⟨k, m, h1, h2, h3⟩ := low_nat w (n / 2) (by omega) (by rw [Nat.pow_succ] at h; omega)
      refine ⟨k + 1, m, by omega, ?_, h3⟩
      rw [Nat.pow_succ, Nat.mul_comm (2 ^ k), Nat.mul_assoc, ← h2]
      omega
theorem low_bit {x : Int32} (hx : ¬ x = 0) : ∃ k, k < 32 ∧ x &&& -x = b1 k ∧ bi x k = true ∧ ∀ i, i < k → bi x i = false := by
  obtain ⟨n, hn, rfl, hb⟩ := to_nI x
  have h0 : 0 < n := by
    rcases Nat.eq_zero_or_pos n with h | h
    · subst h; exact absurd rfl hx
    · exact h
  obtain ⟨k, m, h1, h2, h3⟩ := low_nat 32 n h0 hn
  have hw : (2 : Nat) ^ 32 = 2 ^ k * 2 ^ (32 - k) := by rw [← Nat.pow_add]; congr 1; omega
  have hm : m < 2 ^ (32 - k) := by
    rw [h2, hw] at hn
    exact Nat.lt_of_mul_lt_mul_left hn
  refine ⟨k, h1, ?_, ?_, ?_⟩
  · rw [neg_nI h0 hn, fa_and, b1_nI h1, h2, hw, ← Nat.mul_sub]
    congr 1
    apply Nat.eq_of_testBit_eq
    intro i
    rw [Nat.testBit_and, Nat.testBit_two_pow_mul, Nat.testBit_two_pow_mul, Nat.testBit_two_pow]
    have ho := congrArg (fun z => z.testBit (i - k)) (odd_and h3 hm)
    simp only [Nat.testBit_and] at ho
    by_cases hi : k ≤ i
    · rw [decide_eq_true (show i ≥ k from hi), Bool.true_and, Bool.true_and, ho]
      rw [show (1 : Nat) = 2 ^ 0 from rfl, Nat.testBit_two_pow]
      by_cases e : k = i
      · subst e; simp
      · simp [e]; omega
    · rw [decide_eq_false (show ¬ i ≥ k from hi)]
      simp; omega
  · rw [hb, h2, Nat.testBit_two_pow_mul, Nat.sub_self, Nat.testBit_zero, h3]
    simp
  · intro i hi
    rw [hb, h2, Nat.testBit_two_pow_mul]
    simp; omega
theorem b1_m1 : ∀ k : Fin 32, bcE (b1 k.val - 1) = nI k.val := by decide +kernel
theorem low_ix {k : Nat} (hk : k < 32) : bcE (b1 k - 1) = nI k := b1_m1 ⟨k, hk⟩
/-- no bit 31 -/
def psv (x : Int32) : Prop := bi x 31 = false
theorem psv_and {x y : Int32} (h : psv y) : psv (x &&& y) := by unfold psv at *; rw [bi_and, h, Bool.and_false]
theorem xor_b1 {x : Int32} {k : Nat} (hk : k < 32) (h : bi x k = true) (i : Nat) : bi (x ^^^ b1 k) i = (bi x i && !decide (i = k)) := by
  rw [bi_xor, bi_b1 hk]
  by_cases e : i = k
  · subst e; rw [h]; simp
  · simp [e]
