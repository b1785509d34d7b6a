/-! ===== pure: counting bits, its end ===== -/
def nb : Nat → Nat → Nat
  | n, 0 => nib (n % 16)
  | n, i + 1 => nb (n / 16) i
theorem nb_le : ∀ (i n : Nat), nb n i ≤ 4
  | 0, n => nib_le _
  | i + 1, n => nb_le i (n / 16)
theorem dig_nb (n : Nat) : dig 4 nib 8 n = nb n 0 + 16 * nb n 1 + 256 * nb n 2 + 4096 * nb n 3 + 65536 * nb n 4 + 1048576 * nb n 5 + 16777216 * nb n 6 + 268435456 * nb n 7 := by
  simp only [dig, nb, show (2 : Nat) ^ 4 = 16 from rfl]
  generalize nib (n / 16 / 16 / 16 / 16 / 16 / 16 / 16 % 16) = x7
  generalize nib (n / 16 / 16 / 16 / 16 / 16 / 16 % 16) = x6
  generalize nib (n / 16 / 16 / 16 / 16 / 16 % 16) = x5
  generalize nib (n / 16 / 16 / 16 / 16 % 16) = x4
  generalize nib (n / 16 / 16 / 16 % 16) = x3
  generalize nib (n / 16 / 16 % 16) = x2
  generalize nib (n / 16 % 16) = x1
  generalize nib (n % 16) = x0
  omega
theorem bcE_end (hu : ∀ m k, m < 2 ^ 32 → k < 32 → us (nI m) (nI k) = nI (m / 2 ^ k)) (p q r s : Nat) (hp : p ≤ 8) (hq : q ≤ 8) (hr : r ≤ 8) (hs : s ≤ 8) : bc5 (bc4 (nI (p + 256 * q + 65536 * r + 16777216 * s))) &&& 63 = nI (p + q + r + s) := by
  generalize hy : p + 256 * q + 65536 * r + 16777216 * s = y
  have hy2 : y < 2 ^ 32 := by show _ < 4294967296; omega
  have dy : y / 256 = q + 256 * r + 65536 * s := by omega
  have hz : y + y / 256 = (p + q) + 256 * (q + r) + 65536 * (r + s) + 16777216 * s := by omega
  have e4 : bc4 (nI y) = nI (y + y / 256) := by
    rw [bc4, show us (nI y) 8 = nI (y / 256) from hu _ 8 hy2 (by decide), nI_add]
  rw [e4, hz]
  clear e4 hz dy hy hy2
  generalize hz : (p + q) + 256 * (q + r) + 65536 * (r + s) + 16777216 * s = z
  have hz2 : z < 2 ^ 32 := by show _ < 4294967296; omega
  have dz : z / 65536 = (r + s) + 256 * s := by omega
  have e5 : bc5 (nI z) = nI (z + z / 65536) := by
    rw [bc5, show us (nI z) 16 = nI (z / 65536) from hu _ 16 hz2 (by decide), nI_add]
  have ez : z + z / 65536 = (p + q + r + s) + 64 * (4 * (q + r + s) + 1024 * (r + s) + 262144 * s) := by omega
  rw [e5, ez, show (63 : Int32) = nI 63 from fa_lit _, fa_and, show (63 : Nat) = 2 ^ 6 - 1 from rfl, Nat.and_two_pow_sub_one_eq_mod, show (2 : Nat) ^ 6 = 64 from rfl, Nat.add_mul_mod_self_left, Nat.mod_eq_of_lt (by omega)]
theorem bcE_nb (n : Nat) (h : n < 2 ^ 32) : bcE (nI n) = nI ((nb n 0 + nb n 1) + (nb n 2 + nb n 3) + (nb n 4 + nb n 5) + (nb n 6 + nb n 7)) := by
  have hu : ∀ m k, m < 2 ^ 32 → k < 32 → us (nI m) (nI k) = nI (m / 2 ^ k) := by
    intro m k hm hk
    exact pk_ushrN hm (nI k) k (by
      have : ∀ k : Fin 32, (((nI k.val).toUInt32 &&& Int32.toUInt32 31).toBitVec % 32).toNat = k.val := by decide
      exact this ⟨k, hk⟩)
  have e1 : bc1 (nI n) = nI (dig 2 f1 16 n) := by
    rw [bc1, show us (nI n) 1 = nI (n / 2) from hu n 1 h (by decide), show (1431655765 : Int32) = nI 1431655765 from fa_lit _, fa_and, pk_sub (Nat.le_trans Nat.and_le_left (Nat.div_le_self _ _)), bcA_e n h]
  have hm : dig 2 f1 16 n < 2 ^ 32 := by
    rw [← bcA_e n h]
    exact Nat.lt_of_le_of_lt (Nat.sub_le _ _) h
  have e2 : bc2 (nI (dig 2 f1 16 n)) = nI (dig 4 nib 8 n) := by
    rw [bc2, show us (nI (dig 2 f1 16 n)) 2 = nI (dig 2 f1 16 n / 4) from hu _ 2 hm (by decide), show (858993459 : Int32) = nI 858993459 from fa_lit _, fa_and, fa_and, nI_add, bcB_e n h hm]
  have n0 : nb n 0 ≤ 4 := nb_le _ _
  have n1 : nb n 1 ≤ 4 := nb_le _ _
  have n2 : nb n 2 ≤ 4 := nb_le _ _
  have n3 : nb n 3 ≤ 4 := nb_le _ _
  have n4 : nb n 4 ≤ 4 := nb_le _ _
  have n5 : nb n 5 ≤ 4 := nb_le _ _
  have n6 : nb n 6 ≤ 4 := nb_le _ _
  have n7 : nb n 7 ≤ 4 := nb_le _ _
  have ed := dig_nb n
  generalize nb n 0 = a at *
  generalize nb n 1 = b at *
  generalize nb n 2 = c at *
  generalize nb n 3 = d at *
  generalize nb n 4 = e at *
  generalize nb n 5 = f at *
  generalize nb n 6 = g at *
  generalize nb n 7 = hh at *
  have e3 : bc3 (nI (dig 4 nib 8 n)) = nI ((a + b) + 256 * (c + d) + 65536 * (e + f) + 16777216 * (g + hh)) := by
    rw [bc3, show us (nI (dig 4 nib 8 n)) 4 = nI (dig 4 nib 8 n / 16) from hu _ 4 (by rw [ed]; omega) (by decide), nI_add, show (252645135 : Int32) = nI 252645135 from fa_lit _, fa_and]
    have hs : dig 4 nib 8 n + dig 4 nib 8 n / 16 = (a + b) + 16 * (b + c) + 256 * (c + d) + 4096 * (d + e) + 65536 * (e + f) + 1048576 * (f + g) + 16777216 * (g + hh) + 268435456 * hh := by rw [ed]; omega
    rw [hs, bcC_e a b c d e f g hh n0 n1 n2 n3 n4 n5 n6 n7]
  rw [bcE, e1, e2, e3]
  exact bcE_end hu _ _ _ _ (by omega) (by omega) (by omega) (by omega)
