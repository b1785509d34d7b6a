/-! ===== the state at the start ===== -/
def M0 : Mm := fun _ _ => 0
def Ms1 : Mm := rnM (zD (rnM (fmM (zD (upr M0 0 (fun _ => 0)) 1 42) 2 2) 10 (al 12)) 42 48) 39 0
def Mst : Mm := kdM (fdM (upr (zD (upr Ms1 48 (fun _ => 0)) 49 71) 68 (fillv 4 (-4) (zD (upr Ms1 48 (fun _ => 0)) 49 71 68)))) 2 2
theorem st_g1 : ∀ q, q < 5 → (Mst 2 q = szF 2 2 q ∧ Mst 3 q = roF 2 2 q ∧ Mst 4 q = coF 2 2 q ∧ Mst 5 q = rmF 2 2 q) ∧ (Mst 51 q = szF 2 2 q ∧ Mst 52 q = roF 2 2 q ∧ Mst 53 q = coF 2 2 q ∧ Mst 54 q = rmF 2 2 q) := by decide +kernel
theorem st_g2 : ∀ s, s < 4 → 1 ≤ s → Mst 6 s = ofF 2 2 s := by decide +kernel
theorem st_g3 : ∀ m, m < 12 → Mst 7 m = (trF 2 2).1 m ∧ Mst 8 m = (trF 2 2).2.1 m ∧ Mst 9 m = (trF 2 2).2.2 m := by decide +kernel
theorem st_t1 : ∀ k, k < 31 → Mst 49 (0 + 1 + k) = Mst 11 k := by decide +kernel
theorem st_t2 : ∀ k, k < 4 → 1 ≤ k → Mst 49 (0 + 32 + k) = Mst 12 k := by decide +kernel
theorem st_t3 : ∀ k, k < 31 → Mst 11 k = nI 1 := by decide +kernel
theorem st_s1 : ∀ k, k < 4 → lk Zn k = some none ∧ Mst 68 k = -4 ∧ Mst 69 k = nI 0 := by decide +kernel
theorem st_c1 : ∀ k, k < 31 → Mst 40 k = 1 := by decide +kernel
theorem sqN22 : sqN 2 2 = 5 := by decide +kernel
theorem inv_start : Inv Zn [] Mst := by
  refine ⟨2, 2, 0, false, false, ⟨by decide, by decide, by decide, by decide⟩, ⟨⟨by decide +kernel, by decide +kernel, by decide +kernel, by decide +kernel⟩, ⟨by decide +kernel, by decide +kernel, by decide +kernel, by decide +kernel⟩, ?_, fun s h1 h2 => st_g2 s (by omega) h1, fun m hm => st_g3 m hm⟩, ⟨by decide +kernel, by decide +kernel, st_t1, fun k h1 h2 => st_t2 k (by omega) h1, fun i hi => ?_, fun k hk => ⟨1, by decide, by decide, st_t3 k hk⟩⟩, ⟨by decide +kernel, by decide +kernel, by decide +kernel, (fun h => nomatch h), (fun h => nomatch h)⟩, ⟨by decide, by decide +kernel, by decide +kernel, fun k hk => absurd hk (Nat.not_lt_zero k)⟩, ⟨rfl, by decide +kernel, fun k hk => Or.inl (st_s1 k hk), fun j k c hj _ h => by rw [(st_s1 j hj).1] at h; cases h⟩, ⟨by decide +kernel, by decide +kernel, st_c1⟩⟩
  · rw [sqN22]; exact st_g1
  · have hL : Mst 10 0 = al 12 := by decide +kernel
    rw [hL] at hi
    rcases Nat.lt_or_ge i 32 with h | h
    · rw [bi_al0 12 (by decide) i h] at hi
      exact of_decide_eq_true hi
    · rw [bi_ge h] at hi; cases hi
