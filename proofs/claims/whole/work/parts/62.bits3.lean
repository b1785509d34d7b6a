/-! ===== pure: sets as bits ===== -/
def bi (x : Int32) (i : Nat) : Bool := x.toBitVec.getLsbD i
theorem bi_ge {x : Int32} {i : Nat} (h : 32 ≤ i) : bi x i = false := BitVec.getLsbD_of_ge _ _ h
theorem bi_ext {x y : Int32} (h : ∀ i, i < 32 → bi x i = bi y i) : x = y := by
  apply Int32.toBitVec_inj.1
  apply BitVec.eq_of_getLsbD_eq
  intro i hi
  exact h i hi
theorem bi_nI {n i : Nat} : bi (nI n) i = (decide (i < 32) && n.testBit i) := by
  show (BitVec.ofNat 32 n).getLsbD i = _
  rw [BitVec.getLsbD_ofNat]
theorem bi_and (x y : Int32) (i : Nat) : bi (x &&& y) i = (bi x i && bi y i) := by
  show (x.toBitVec &&& y.toBitVec).getLsbD i = _
  rw [BitVec.getLsbD_and]; rfl
theorem bi_or (x y : Int32) (i : Nat) : bi (x ||| y) i = (bi x i || bi y i) := by
  show (x.toBitVec ||| y.toBitVec).getLsbD i = _
  rw [BitVec.getLsbD_or]; rfl
theorem bi_xor (x y : Int32) (i : Nat) : bi (x ^^^ y) i = ((bi x i) ^^ (bi y i)) := by
  show (x.toBitVec ^^^ y.toBitVec).getLsbD i = _
  rw [BitVec.getLsbD_xor]; rfl
theorem bi_m1 (i : Nat) : bi (-1) i = decide (i < 32) := by
  show (BitVec.allOnes 32).getLsbD i = _
  rw [BitVec.getLsbD_allOnes]
theorem bi_not (x : Int32) (i : Nat) : bi (x ^^^ (-1)) i = (decide (i < 32) && !bi x i) := by
  rw [bi_xor, bi_m1]
  by_cases h : i < 32
  · simp [h]
  · rw [bi_ge (by omega)]; simp [h]
theorem bi_0 (i : Nat) : bi 0 i = false := by
  show (0#32).getLsbD i = false
  simp
theorem b1_nI {k : Nat} (hk : k < 32) : b1 k = nI (2 ^ k) := by
  have h := pk_shlN (n := 1) (nI k &&& 31) k (s_l k (by omega)) (by rw [Nat.one_mul]; exact Nat.pow_lt_pow_right (by decide) hk)
  rw [Nat.one_mul] at h
  exact h
theorem bi_b1 {k i : Nat} (hk : k < 32) : bi (b1 k) i = decide (i = k) := by
  rw [b1_nI hk, bi_nI, Nat.testBit_two_pow]
  by_cases h : i = k
  · subst h; simp [hk]
  · have : ¬ k = i := fun e => h e.symm
    simp [h, this]
theorem bi_z {x : Int32} (h : ∀ i, i < 32 → bi x i = false) : x = 0 := bi_ext (fun i hi => by rw [h i hi, bi_0])
theorem bi_nz {x : Int32} (h : ¬ x = 0) : ∃ i, i < 32 ∧ bi x i = true := by
  apply Classical.byContradiction
  intro q
  apply h
  apply bi_z
  intro i hi
  cases hb : bi x i with
  | false => rfl
  | true => exact absurd ⟨i, hi, hb⟩ q
theorem bi_shr1 (L : Int32) {k : Nat} (hk : k < 32) : bi (L >>> (nI k &&& 31)) 0 = bi L k := by
  have hs := s_l k hk
  show (L.toBitVec.sshiftRight ((nI k &&& 31).toBitVec.smod 32).toNat).getLsbD 0 = _
  rw [hs, BitVec.getLsbD_sshiftRight]
  simp [hk]
  rfl
theorem and1_bi (x : Int32) : x &&& 1 = b2i (bi x 0) := by
  apply bi_ext
  intro i hi
  rw [bi_and, show (1 : Int32) = nI 1 from rfl, bi_nI]
  by_cases h : i = 0
  · subst h
    cases bi x 0 <;> rfl
  · have h1 : (1 : Nat).testBit i = false := by
      rw [show (1 : Nat) = 2 ^ 0 from rfl, Nat.testBit_two_pow]
      simp; omega
    rw [h1]
    cases bi x 0
    · simp [b2i, bi_0]
    · simp [b2i]
      rw [show (1 : Int32) = nI 1 from rfl, bi_nI, h1, Bool.and_false]
theorem shr_bi (L : Int32) {k : Nat} (hk : k < 32) : (L >>> (nI k &&& 31)) &&& 1 = b2i (bi L k) := by rw [and1_bi, bi_shr1 L hk]
theorem lies_bi (L : Int32) {k : Nat} (hk : k < 32) : lies L (nI k) = bi L k := by
  rw [lies, shr_bi L hk]
  cases bi L k <;> decide
theorem and_b1 (L : Int32) {k : Nat} (hk : k < 32) : decide (L &&& b1 k = 0) = !bi L k := by
  cases h : bi L k with
  | true =>
    have : ¬ L &&& b1 k = 0 := fun e => by
      have h2 : bi (L &&& b1 k) k = true := by rw [bi_and, h, bi_b1 hk]; simp
      rw [e, bi_0] at h2
      cases h2
    rw [decide_eq_false this]; rfl
  | false =>
    have : L &&& b1 k = 0 := bi_z (fun i hi => by
      rw [bi_and, bi_b1 hk]
      by_cases e : i = k
      · subst e; rw [h]; rfl
      · simp [e])
    rw [decide_eq_true this]; rfl
theorem bi_orb (p : Nat → Bool) : ∀ {n i : Nat}, n ≤ 32 → bi (orb p n) i = (decide (i < n) && p i)
  | 0, i, _ => by show bi 0 i = _; rw [bi_0]; simp
  | n + 1, i, h => by
    have ih := bi_orb p (n := n) (i := i) (by omega)
    rw [orb_s]
    by_cases hp : p n = true
    · rw [if_pos hp, bi_or, ih, show (1 : Int32) <<< (nI n &&& 31) = b1 n from rfl, bi_b1 (by omega)]
      by_cases e : i = n
      · subst e; simp [hp]
      · have : (i < n + 1) = (i < n) := by apply propext; omega
        simp [e, this]
    · rw [if_neg hp, ih]
      by_cases e : i = n
      · subst e
        simp at hp
        simp [hp]
      · have : (i < n + 1) = (i < n) := by apply propext; omega
        simp [this]
theorem ct_split (p : Nat → Bool) (a : Nat) : ∀ b, fb_ct p (a + b) = fb_ct p a + fb_ct (fun i => p (a + i)) b
  | 0 => rfl
  | b + 1 => by
    show fb_ct p (a + b + 1) = _
    rw [fb_ct_succ, fb_ct_succ, ct_split p a b]
    omega
theorem ct_congr {p q : Nat → Bool} : ∀ {n : Nat}, (∀ k, k < n → p k = q k) → fb_ct p n = fb_ct q n
  | 0, _ => rfl
  | n + 1, h => by rw [fb_ct_succ, fb_ct_succ, ct_congr (fun k hk => h k (by omega)), h n (by omega)]
theorem nib_ct : ∀ d, d < 16 → nib d = fb_ct (fun i => d.testBit i) 4 := by decide
theorem nb_ct : ∀ (i n : Nat), nb n i = fb_ct (fun j => n.testBit (4 * i + j)) 4
  | 0, n => by
    rw [nb, nib_ct _ (Nat.mod_lt _ (by decide))]
    refine ct_congr (fun k hk => ?_)
    rw [show (16 : Nat) = 2 ^ 4 from rfl, Nat.testBit_mod_two_pow]
    simp [hk]
  | i + 1, n => by
    rw [nb, nb_ct i (n / 16)]
    refine ct_congr (fun k hk => ?_)
    rw [show (16 : Nat) = 2 ^ 4 from rfl, Nat.testBit_div_two_pow]
    congr 1
    omega
/-- how many bits the set has -/
def pc (x : Int32) : Nat := fb_ct (bi x) 32
theorem bcE_pc (x : Int32) : bcE x = nI (pc x) := by
  have hx : x = nI x.toBitVec.toNat := by
    apply Int32.toBitVec_inj.1
    show x.toBitVec = BitVec.ofNat 32 x.toBitVec.toNat
    rw [BitVec.ofNat_toNat, BitVec.setWidth_eq]
  have hl : x.toBitVec.toNat < 2 ^ 32 := x.toBitVec.isLt
  have hb : pc x = fb_ct (fun i => x.toBitVec.toNat.testBit i) 32 := rfl
  generalize x.toBitVec.toNat = n at hx hl hb
  rw [hb, hx, bcE_nb n hl]
  congr 1
  simp only [nb_ct]
  rw [show (32 : Nat) = 4 + (4 + (4 + (4 + (4 + (4 + (4 + 4)))))) from rfl]
  simp only [ct_split _ 4]
  simp only [← Nat.add_assoc, Nat.mul_zero, Nat.zero_add, Nat.reduceMul, Nat.reduceAdd]
theorem pc_le (x : Int32) : pc x ≤ 32 := fb_ct_le _ _
