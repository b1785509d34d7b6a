/-! ===== calls: text, where it is refused ===== -/
theorem et_fin {t u : Nat → Int32} {n : Nat} (h : Et t u n) : finA t n = finA u n := by
  unfold finA tkB
  rw [et_rBl h, et_lns h]
theorem tp_et {n : Nat} {M : Mm} (hP : TpI n M) : Et (M 14) (M 57) n ∧ ∀ k, k < n → 0 ≤ M 57 k := ⟨fun k hk => (sim_et (hP.2.2.2 k hk)).1, fun k hk => (sim_et (hP.2.2.2 k hk)).2⟩
section XO
variable {Z : List (Option Nat)} {ext : List Ds} {M : Mm}
theorem inv_err {M1 M2 : Mm} (hI : Inv Z ext M) {v : Int32} (h1 : Ft M M1) (h5 : M1 15 5 = v) (h2 : Fp (up2 M1 13 1 0) M2) (h24 : M2 48 24 = v) : Inv Z ext (up2 M2 48 19 0) := by
  obtain ⟨w, h, n, k0, k1, hw, hG, hT, hIm, hP, hS, hF1, hF2, hF3⟩ := hI
  have eo : ∀ c, c ≠ 13 → c ≠ 15 → c ≠ 16 → c ≠ 17 → c ≠ 18 → c ≠ 48 → c ≠ 55 → c ≠ 56 → up2 M2 48 19 0 c = M c := by
    intro c c1 c2 c3 c4 c5 c6 c7 c8
    rw [up2_n _ _ c6, h2.1 c c6 c7 c8, up2_n _ _ c1, h1.1 c c1 c2 c3 c4 c5]
  have e48 : ∀ k, k < 10 ∨ k = 18 ∨ 25 < k → up2 M2 48 19 0 48 k = M 48 k := by
    intro k hk
    rw [up2_ne _ 48 0 (show k ≠ 19 by omega), h2.2 k (by omega), up2_n _ _ (by decide), h1.1 48 (by decide) (by decide) (by decide) (by decide) (by decide)]
  have e13 : up2 M2 48 19 0 13 1 = 0 := by
    rw [up2_n _ _ (by decide), h2.1 13 (by decide) (by decide) (by decide)]
    rw [up2_s]
    simp [upd]
  have e15 : up2 M2 48 19 0 15 5 = v := by
    rw [up2_n _ _ (by decide), h2.1 15 (by decide) (by decide) (by decide), up2_n _ _ (by decide)]
    exact h5
  have g := fun c (c1 : c ≠ 13) (c2 : c ≠ 15) (c3 : c ≠ 16) (c4 : c ≠ 17) (c5 : c ≠ 18) (c6 : c ≠ 48) (c7 : c ≠ 55) (c8 : c ≠ 56) => eo c c1 c2 c3 c4 c5 c6 c7 c8
  have q : ∀ c, (decide (c = 13) || decide (c = 15) || decide (c = 16) || decide (c = 17) || decide (c = 18) || decide (c = 48) || decide (c = 55) || decide (c = 56)) = false → up2 M2 48 19 0 c = M c := by
    intro c hc
    simp only [Bool.or_eq_false_iff, decide_eq_false_iff_not] at hc
    exact eo c hc.1.1.1.1.1.1.1 hc.1.1.1.1.1.1.2 hc.1.1.1.1.1.2 hc.1.1.1.1.2 hc.1.1.1.2 hc.1.1.2 hc.1.2 hc.2
  refine ⟨w, h, 0, k0, k1, hw, hG.c ⟨⟨q 1 rfl, q 2 rfl, q 3 rfl, q 4 rfl, q 5 rfl, q 6 rfl, q 7 rfl, q 8 rfl, q 9 rfl⟩, ⟨q 51 rfl, q 52 rfl, q 53 rfl, q 54 rfl⟩, e48 2 (by omega), e48 3 (by omega), e48 4 (by omega), e48 5 (by omega)⟩, hT.c (fun k _ _ => by rw [q 49 rfl]) (q 10 rfl) (q 11 rfl) (q 12 rfl), hIm.c (by rw [q 0 rfl]) (q 50 rfl) (fun k _ => by rw [q 49 rfl]) ⟨q 42 rfl, q 43 rfl, q 44 rfl, q 45 rfl, q 46 rfl, q 47 rfl⟩, ⟨by omega, e13, ?_, fun k hk => absurd hk (by omega)⟩, hS.c (q 68 rfl) (q 69 rfl) (q 70 rfl) (fun c hc => eo c (by omega) (by omega) (by omega) (by omega) (by omega) (by omega) (by omega) (by omega)), ?_, ?_, fun k hk => ?_⟩
  · rw [up2_s]; simp [upd]; rfl
  · rw [e15, up2_ne _ 48 0 (show (24 : Nat) ≠ 19 by decide)]; exact h24.symm
  · rw [q 0 rfl, e48 46 (by omega)]; exact hF2
  · rw [q 40 rfl]; exact hF3 k hk
theorem op_text_err (hI : Inv Z ext M) {n : Nat} (hP : TpI n M) {e : Int32 × Nat} (hX : finA (M 57) n = .inl e) : OpI mX9_text mX10_text [] Z ext M := by
  obtain ⟨he, hp⟩ := tp_et hP
  have hc := c_text (Z := Z) (ext := ext) (M := M) (t := M 14) (n := n) ⟨rfl, hP.2.1, hP.1⟩
  rw [et_fin he, hX] at hc
  refine ⟨-10 - nI e.2, Ct.imp hc (fun r M1' q => ?_)⟩
  obtain ⟨M1, f1, r1, v1, rfl⟩ := q
  refine ⟨r1, ?_⟩
  have e57 : up2 M1 13 1 0 57 = M 57 := by rw [up2_n _ _ (by decide), f1.1 57 (by decide) (by decide) (by decide) (by decide) (by decide)]
  have e48 : up2 M1 13 1 0 48 = M 48 := by rw [up2_n _ _ (by decide), f1.1 48 (by decide) (by decide) (by decide) (by decide) (by decide)]
  have hr := c_m_text (Z := Z) (ext := ext) (M := up2 M1 13 1 0) (t := M 57) (n := n) ⟨e57, by rw [e48]; exact hP.2.2.1, hP.1, hp⟩
  rw [hX] at hr
  refine Ct.imp hr (fun r2 M2' q2 => ?_)
  obtain ⟨M2, f2, r2', v2, rfl⟩ := q2
  exact ⟨r2', inv_err hI f1 v1 f2 v2⟩
end XO
