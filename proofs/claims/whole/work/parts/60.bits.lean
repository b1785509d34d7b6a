/-! ===== pure: counting bits, as Integer.bitCount does it ===== -/
theorem and_dig (k a b c d : Nat) (ha : a < 2 ^ k) (hc : c < 2 ^ k) : (a + 2 ^ k * b) &&& (c + 2 ^ k * d) = (a &&& c) + 2 ^ k * (b &&& d) := by
  have hac : (a &&& c) < 2 ^ k := Nat.lt_of_le_of_lt Nat.and_le_left ha
  apply Nat.eq_of_testBit_eq
  intro i
  rw [Nat.testBit_and, Nat.add_comm a, Nat.add_comm c, Nat.add_comm (a &&& c), Nat.testBit_two_pow_mul_add b ha, Nat.testBit_two_pow_mul_add d hc, Nat.testBit_two_pow_mul_add (b &&& d) hac]
  by_cases h : i < k
  · simp [h, Nat.testBit_and]
  · simp [h, Nat.testBit_and]
/-- the digits of n to the base 2^b, k of them, each sent through f -/
def dig (b : Nat) (f : Nat → Nat) : Nat → Nat → Nat
  | 0, _ => 0
  | k + 1, n => f (n % 2 ^ b) + 2 ^ b * dig b f k (n / 2 ^ b)
/-- the sum of the digits, each sent through f -/
def dsum (b : Nat) (f : Nat → Nat) : Nat → Nat → Nat
  | 0, _ => 0
  | k + 1, n => f (n % 2 ^ b) + dsum b f k (n / 2 ^ b)
def ones (b m : Nat) : Nat → Nat
  | 0 => 0
  | k + 1 => m + 2 ^ b * ones b m k
theorem dig_and (b m : Nat) (hm : m < 2 ^ b) : ∀ (k n : Nat), n < 2 ^ (b * k) → n &&& ones b m k = dig b (fun d => d &&& m) k n
  | 0, n, h => by simp [ones, dig]
  | k + 1, n, h => by
    have hp : 0 < 2 ^ b := Nat.pow_pos (by decide)
    have h1 : n / 2 ^ b < 2 ^ (b * k) := by
      rw [Nat.div_lt_iff_lt_mul hp, ← Nat.pow_add]
      rw [show b * k + b = b * (k + 1) by rw [Nat.mul_succ]]
      exact h
    have h2 := dig_and b m hm k (n / 2 ^ b) h1
    rw [dig, ← h2, ones]
    have h3 := and_dig b (n % 2 ^ b) (n / 2 ^ b) m (ones b m k) (Nat.mod_lt _ hp) hm
    rw [Nat.mod_add_div] at h3
    exact h3
/-- with shifted digits -/
theorem dig_shr (b s m : Nat) (hs : s ≤ b) (hm : m < 2 ^ (b - s)) : ∀ (k n : Nat), n < 2 ^ (b * k) → (n / 2 ^ s) &&& ones b m k = dig b (fun d => (d / 2 ^ s) &&& m) k n := by
  have hmb : m < 2 ^ b := Nat.lt_of_lt_of_le hm (Nat.pow_le_pow_right (by decide) (by omega))
  have key : ∀ n, (n / 2 ^ s) % 2 ^ b &&& m = ((n % 2 ^ b) / 2 ^ s) &&& m := by
    intro n
    apply Nat.eq_of_testBit_eq
    intro i
    rw [Nat.testBit_and, Nat.testBit_and, Nat.testBit_mod_two_pow, Nat.testBit_div_two_pow, Nat.testBit_div_two_pow, Nat.testBit_mod_two_pow]
    by_cases hi : i < b - s
    · simp [show i < b by omega, show i + s < b by omega]
    · have : m.testBit i = false := Nat.testBit_lt_two_pow (Nat.lt_of_lt_of_le hm (Nat.pow_le_pow_right (by decide) (by omega)))
      rw [this, Bool.and_false, Bool.and_false]
  intro k
  induction k with
  | zero => intro n h; simp [ones, dig]
  | succ k ih =>
    intro n h
    have hp : 0 < 2 ^ b := Nat.pow_pos (by decide)
    have h1 : n / 2 ^ b < 2 ^ (b * k) := by
      rw [Nat.div_lt_iff_lt_mul hp, ← Nat.pow_add, show b * k + b = b * (k + 1) by rw [Nat.mul_succ]]
      exact h
    have h2 := ih (n / 2 ^ b) h1
    have hdd : n / 2 ^ b / 2 ^ s = n / 2 ^ s / 2 ^ b := by rw [Nat.div_div_eq_div_mul, Nat.mul_comm, ← Nat.div_div_eq_div_mul]
    rw [dig, ← h2, ones, ← key n, hdd]
    have h3 := and_dig b ((n / 2 ^ s) % 2 ^ b) ((n / 2 ^ s) / 2 ^ b) m (ones b m k) (Nat.mod_lt _ hp) hmb
    rw [Nat.mod_add_div] at h3
    exact h3
theorem dig_id (b : Nat) : ∀ (k n : Nat), n < 2 ^ (b * k) → dig b (fun d => d) k n = n
  | 0, n, h => by
    simp at h
    simp [dig, h]
  | k + 1, n, h => by
    have hp : 0 < 2 ^ b := Nat.pow_pos (by decide)
    have h1 : n / 2 ^ b < 2 ^ (b * k) := by
      rw [Nat.div_lt_iff_lt_mul hp, ← Nat.pow_add]
      rw [show b * k + b = b * (k + 1) by rw [Nat.mul_succ]]
      exact h
    rw [dig, dig_id b k _ h1]
    exact Nat.mod_add_div n (2 ^ b)
theorem dig_add (b : Nat) (f g : Nat → Nat) : ∀ (k n : Nat), dig b f k n + dig b g k n = dig b (fun d => f d + g d) k n
  | 0, n => rfl
  | k + 1, n => by
    have h := dig_add b f g k (n / 2 ^ b)
    simp only [dig]
    rw [← h, Nat.mul_add]
    omega
theorem dig_congr (b : Nat) {f g : Nat → Nat} (h : ∀ d, d < 2 ^ b → f d = g d) : ∀ (k n : Nat), dig b f k n = dig b g k n
  | 0, n => rfl
  | k + 1, n => by
    simp only [dig]
    rw [h _ (Nat.mod_lt _ (Nat.pow_pos (by decide))), dig_congr b h k]
/-- digits of digits -/
theorem dig_dig (b : Nat) (f F : Nat → Nat) (hf : ∀ d, d < 2 ^ b → f d < 2 ^ b) : ∀ (k n : Nat), dig (b + b) F k (dig b f (2 * k) n) = dig (b + b) (fun d => F (dig b f 2 d)) k n
  | 0, n => rfl
  | k + 1, n => by
    have hp : 0 < 2 ^ b := Nat.pow_pos (by decide)
    have h0 := hf (n % 2 ^ b) (Nat.mod_lt _ hp)
    have h1 := hf (n / 2 ^ b % 2 ^ b) (Nat.mod_lt _ hp)
    have e : dig b f (2 * (k + 1)) n = f (n % 2 ^ b) + 2 ^ b * (f (n / 2 ^ b % 2 ^ b)) + 2 ^ (b + b) * dig b f (2 * k) (n / 2 ^ (b + b)) := by
      rw [show 2 * (k + 1) = 2 * k + 1 + 1 by omega, dig, dig, Nat.mul_add, ← Nat.mul_assoc, ← Nat.pow_add, Nat.div_div_eq_div_mul, ← Nat.pow_add]
      omega
    have hlt : f (n % 2 ^ b) + 2 ^ b * (f (n / 2 ^ b % 2 ^ b)) < 2 ^ (b + b) := by
      have : 2 ^ b * (f (n / 2 ^ b % 2 ^ b) + 1) ≤ 2 ^ b * 2 ^ b := Nat.mul_le_mul_left _ h1
      rw [Nat.mul_add] at this
      rw [Nat.pow_add]
      omega
    have em : dig b f (2 * (k + 1)) n % 2 ^ (b + b) = f (n % 2 ^ b) + 2 ^ b * (f (n / 2 ^ b % 2 ^ b)) := by
      rw [e, Nat.add_mul_mod_self_left, Nat.mod_eq_of_lt hlt]
    have ed : dig b f (2 * (k + 1)) n / 2 ^ (b + b) = dig b f (2 * k) (n / 2 ^ (b + b)) := by
      rw [e, Nat.add_mul_div_left _ _ (Nat.pow_pos (by decide)), Nat.div_eq_of_lt hlt, Nat.zero_add]
    rw [dig, em, ed, dig_dig b f F hf k, dig]
    have e3 : dig b f 2 (n % 2 ^ (b + b)) = f (n % 2 ^ b) + 2 ^ b * (f (n / 2 ^ b % 2 ^ b)) := by
      simp only [dig]
      rw [Nat.mul_zero, Nat.add_zero, Nat.pow_add, Nat.mod_mul_right_mod, Nat.mod_mul_right_div_self, Nat.mod_mod]
    rw [e3]
/-- the bits of a nibble -/
def nib (d : Nat) : Nat := d % 2 + d / 2 % 2 + d / 4 % 2 + d / 8 % 2
theorem sm_15 (d : Nat) : d &&& 15 = d % 16 := Nat.and_two_pow_sub_one_eq_mod d 4
def f1 (d : Nat) : Nat := d - (d / 2 &&& 1)
def g2 (e : Nat) : Nat := (e &&& 3) + (e / 4 &&& 3)
theorem bcA_e (n : Nat) (h : n < 2 ^ 32) : n - (n / 2 &&& 1431655765) = dig 2 f1 16 n := by
  have e := dig_shr 2 1 1 (by decide) (by decide) 16 n h
  rw [show ones 2 1 16 = 1431655765 by decide, show (2 : Nat) ^ 1 = 2 from rfl] at e
  have e2 := dig_id 2 16 n h
  have e3 := dig_add 2 f1 (fun d => d / 2 &&& 1) 16 n
  rw [dig_congr 2 (f := fun d => f1 d + (d / 2 &&& 1)) (g := fun d => d) (by decide) 16 n, e2] at e3
  rw [e]
  omega
theorem f1_lt : ∀ d, d < 2 ^ 2 → f1 d < 2 ^ 2 := by decide
theorem bcB_e (n : Nat) (h : n < 2 ^ 32) (hm : dig 2 f1 16 n < 2 ^ 32) : (dig 2 f1 16 n &&& 858993459) + (dig 2 f1 16 n / 4 &&& 858993459) = dig 4 nib 8 n := by
  have ea := dig_and 4 3 (by decide) 8 (dig 2 f1 16 n) hm
  have es := dig_shr 4 2 3 (by decide) (by decide) 8 (dig 2 f1 16 n) hm
  rw [show ones 4 3 8 = 858993459 by decide] at ea es
  rw [show (2 : Nat) ^ 2 = 4 from rfl] at es
  rw [ea, es, dig_add, dig_dig 2 f1 (fun e => (e &&& 3) + (e / 4 &&& 3)) f1_lt 8 n]
  exact dig_congr 4 (by decide) 8 n
theorem nib_le (d : Nat) : nib d ≤ 4 := by unfold nib; omega
theorem bcC_e (a b c d e f g h : Nat) (ha : a ≤ 4) (hb : b ≤ 4) (hc : c ≤ 4) (hd : d ≤ 4) (he : e ≤ 4) (hf : f ≤ 4) (hg : g ≤ 4) (hh : h ≤ 4) :
    ((a + b) + 16 * (b + c) + 256 * (c + d) + 4096 * (d + e) + 65536 * (e + f) + 1048576 * (f + g) + 16777216 * (g + h) + 268435456 * h) &&& 252645135 = (a + b) + 256 * (c + d) + 65536 * (e + f) + 16777216 * (g + h) := by
  have ea := dig_and 8 15 (by decide) 4 ((a + b) + 16 * (b + c) + 256 * (c + d) + 4096 * (d + e) + 65536 * (e + f) + 1048576 * (f + g) + 16777216 * (g + h) + 268435456 * h) (by show _ < 4294967296; omega)
  rw [show ones 8 15 4 = 252645135 by decide] at ea
  rw [ea]
  clear ea
  have key : ∀ u v w : Nat, u < 16 → u + 16 * v < 256 → dig 8 (fun d => d &&& 15) 1 (u + 16 * v + 256 * w) = u ∧ (u + 16 * v + 256 * w) / 256 = w := by
    intro u v w h1 h2
    refine ⟨?_, by omega⟩
    simp only [dig, sm_15, show (2 : Nat) ^ 8 = 256 from rfl, Nat.mul_zero, Nat.add_zero]
    omega
  have step : ∀ k u v w : Nat, u < 16 → u + 16 * v < 256 → dig 8 (fun d => d &&& 15) (k + 1) (u + 16 * v + 256 * w) = u + 256 * dig 8 (fun d => d &&& 15) k w := by
    intro k u v w h1 h2
    have q := key u v w h1 h2
    rw [dig, show (2 : Nat) ^ 8 = 256 from rfl, q.2]
    have q1 := q.1
    simp only [dig, show (2 : Nat) ^ 8 = 256 from rfl, Nat.mul_zero, Nat.add_zero] at q1
    rw [q1]
  have x0 : (a + b) + 16 * (b + c) + 256 * (c + d) + 4096 * (d + e) + 65536 * (e + f) + 1048576 * (f + g) + 16777216 * (g + h) + 268435456 * h = (a + b) + 16 * (b + c) + 256 * ((c + d) + 16 * (d + e) + 256 * ((e + f) + 16 * (f + g) + 256 * ((g + h) + 16 * h + 256 * 0))) := by omega
  rw [x0, step 3 _ _ _ (by omega) (by omega), step 2 _ _ _ (by omega) (by omega), step 1 _ _ _ (by omega) (by omega), step 0 _ _ _ (by omega) (by omega)]
  simp only [dig]
  omega
