/-! ===== calls: keep, back ===== -/
theorem cpF_at (f : Nat → Int32) {a b : Nat} (hd : a + 36 ≤ b ∨ b + 36 ≤ a) (k : Nat) : ∀ n, n ≤ 36 → cpF f a b n k = if a ≤ k ∧ k < a + n then f (b + (k - a)) else f k
  | 0, _ => by rw [if_neg (by omega)]; rfl
  | n + 1, hn => by
    show (if k = a + n then cpF f a b n (b + n) else cpF f a b n k) = _
    by_cases h : k = a + n
    · rw [if_pos h, if_pos (by omega), cpF_at f hd (b + n) n (by omega), if_neg (by omega), h, show a + n - a = n by omega]
    · rw [if_neg h, cpF_at f hd k n (by omega)]
      by_cases h2 : a ≤ k ∧ k < a + n
      · rw [if_pos h2, if_pos (by omega)]
      · rw [if_neg h2, if_neg (by omega)]
theorem cpy_at (f g : Nat → Int32) (n k : Nat) : va_cpy f g 0 0 n k = if k < n then f k else g k := by
  unfold va_cpy
  by_cases h : k < n
  · simp [h]
  · simp [h]
theorem bcM_0 (M : Mm) (t u : Nat) : bcM M t u t 0 = M u 0 := by
  simp [bcM, upr, up2, upd]
theorem bcM_1 (M : Mm) (t u : Nat) : bcM M t u t 1 = M u 1 := by
  simp [bcM, upr, up2, upd]
theorem bcM_c (M : Mm) (t u k : Nat) (hk : k < 31) : bcM M t u (t + 1) k = M (u + 1) k := by
  have : bcM M t u (t + 1) = va_cpy (M (u + 1)) (M (t + 1)) 0 0 31 := by
    unfold bcM
    rw [upr_n _ _ (by omega), upr_s]
  rw [this, cpy_at, if_pos hk]
theorem bcM_s (M : Mm) (t u k : Nat) (hk : k < 4) : bcM M t u (t + 2) k = M (u + 2) k := by
  have : bcM M t u (t + 2) = va_cpy (M (u + 2)) (M (t + 2)) 0 0 4 := by
    unfold bcM
    rw [upr_s]
  rw [this, cpy_at, if_pos hk]
theorem bcM_n (M : Mm) {t u c : Nat} (h1 : c ≠ t) (h2 : c ≠ t + 1) (h3 : c ≠ t + 2) : bcM M t u c = M c := by
  unfold bcM
  rw [upr_n _ _ h3, upr_n _ _ h2, up2_n _ _ h1, up2_n _ _ h1]
/-- an image taken of the table u, o2 is laid at t, o -/
theorem ImE.cp {mt t u o o2 : Nat} {M M' : Mm} (g : ImE mt u o2 M) (e1 : ∀ k, k < 36 → M' 49 (o + k) = M 49 (o2 + k)) (e2 : M' t 0 = M u 0) (e3 : M' t 1 = M u 1) (e4 : ∀ k, k < 31 → M' (t + 1) k = M (u + 1) k) (e5 : ∀ k, k < 4 → M' (t + 2) k = M (u + 2) k) : ImE mt t o M' := by
  obtain ⟨g1, g2, g3, g4, g5, g6⟩ := g
  refine ⟨?_, ?_, fun k hk => ?_, fun k h1 h2 => ?_, ?_, fun k hk => ?_⟩
  · have := e1 0 (by decide); rw [Nat.add_zero, Nat.add_zero] at this; rw [this, e2]; exact g1
  · rw [e1 32 (by decide), e3]; exact g2
  · rw [show o + 1 + k = o + (1 + k) by omega, e1 (1 + k) (by omega), e4 k hk, show o2 + (1 + k) = o2 + 1 + k by omega]; exact g3 k hk
  · rw [show o + 32 + k = o + (32 + k) by omega, e1 (32 + k) (by omega), e5 k (by omega), show o2 + (32 + k) = o2 + 32 + k by omega]; exact g4 k h1 h2
  · rw [e2]; exact g5
  · rw [e4 k hk]; exact g6 k hk
theorem ix2 (a : Int32) : ix a 2 = rg a 0 1 := (rg_ix a (n := 2) (by decide)).symm
theorem kp_b0 : ∀ k0 k1, (nI (kpN k0 k1) >>> ((0 : Int32) &&& 31)) &&& 1 = b2i k0 := by decide
theorem kp_b1 : ∀ k0 k1, (nI (kpN k0 k1) >>> ((1 : Int32) &&& 31)) &&& 1 = b2i k1 := by decide
theorem kp_i0 : ∀ k0 k1, inS (nI (kpN k0 k1)) 0 = nI (kpN true k1) := by decide
theorem kp_i1 : ∀ k0 k1, inS (nI (kpN k0 k1)) 1 = nI (kpN k0 true) := by decide
section IO
variable {Z : List (Option Nat)} {ext : List Ds} {M : Mm}
theorem op_keep0 (hI : Inv Z ext M) : OpI mX9_keep mX10_keep [.int (nI 0)] Z ext M := by
  obtain ⟨w, h, n, k0, k1, hw, hG, hT, ⟨i1, i2, i3, i4, i5⟩, hP, hS, hF1, hF2, hF3⟩ := id hI
  have cc := c_keep0 (Z := Z) (ext := ext) (M := M)
  rw [i1, kp_b0, kp_i0] at cc
  have cr := c_m_keep (Z := Z) (ext := ext) (M := up2 (bcM M 42 10) 0 11 (nI (kpN true k1))) 0 (by decide) k0 i2
  refine op_rt cc cr rfl ?_
  have e49 : ∀ k, k < 36 ∨ 72 ≤ k → upr (up2 (up2 (bcM M 42 10) 0 11 (nI (kpN true k1))) 50 0 1) 49 (cpF (M 49) (36 * (0 + 1)) 0 36) 49 k = M 49 k := by
    intro k hk
    rw [upr_s, cpF_at _ (by omega) k 36 (by omega), if_neg (by omega)]
  refine ⟨w, h, n, true, k1, hw, hG.c ⟨⟨rfl, rfl, rfl, rfl, rfl, rfl, rfl, rfl, rfl⟩, ⟨rfl, rfl, rfl, rfl⟩, rfl, rfl, rfl, rfl⟩, hT.c (fun k _ hk => e49 k (by omega)) rfl rfl rfl, ⟨rfl, rfl, i3, fun _ => ?_, fun q => (i5 q).c (fun k hk _ => e49 k (by omega)) rfl rfl rfl⟩, hP.c rfl rfl rfl rfl, hS.c rfl rfl rfl (fun c hc => ?_), hF1, hF2, hF3⟩
  · refine hT.cp (fun k hk => ?_) rfl rfl (fun k hk => bcM_c M 42 10 k hk) (fun k hk => bcM_s M 42 10 k hk)
    show cpF (M 49) (36 * (0 + 1)) 0 36 (36 + k) = _
    rw [cpF_at _ (by omega) _ 36 (by omega), if_pos (by omega), show 36 + k - 36 * (0 + 1) = k by omega]
  · rw [upr_n _ _ (show c ≠ 49 by omega), up2_hi (by decide) c hc, up2_hi (by decide) c hc, bcM_n M (by omega) (by omega) (by omega)]
theorem op_keep1 (hI : Inv Z ext M) : OpI mX9_keep mX10_keep [.int (nI 1)] Z ext M := by
  obtain ⟨w, h, n, k0, k1, hw, hG, hT, ⟨i1, i2, i3, i4, i5⟩, hP, hS, hF1, hF2, hF3⟩ := id hI
  have cc := c_keep1 (Z := Z) (ext := ext) (M := M)
  rw [i1, kp_b1, kp_i1] at cc
  have cr := c_m_keep (Z := Z) (ext := ext) (M := up2 (bcM M 45 10) 0 11 (nI (kpN k0 true))) 1 (by decide) k1 i3
  refine op_rt cc cr rfl ?_
  have e49 : ∀ k, k < 72 → upr (up2 (up2 (bcM M 45 10) 0 11 (nI (kpN k0 true))) 50 1 1) 49 (cpF (M 49) (36 * (1 + 1)) 0 36) 49 k = M 49 k := by
    intro k hk
    rw [upr_s, cpF_at _ (by omega) k 36 (by omega), if_neg (by omega)]
  refine ⟨w, h, n, k0, true, hw, hG.c ⟨⟨rfl, rfl, rfl, rfl, rfl, rfl, rfl, rfl, rfl⟩, ⟨rfl, rfl, rfl, rfl⟩, rfl, rfl, rfl, rfl⟩, hT.c (fun k _ hk => e49 k (by omega)) rfl rfl rfl, ⟨rfl, i2, rfl, fun q => (i4 q).c (fun k _ hk => e49 k (by omega)) rfl rfl rfl, fun _ => ?_⟩, hP.c rfl rfl rfl rfl, hS.c rfl rfl rfl (fun c hc => ?_), hF1, hF2, hF3⟩
  · refine hT.cp (fun k hk => ?_) rfl rfl (fun k hk => bcM_c M 45 10 k hk) (fun k hk => bcM_s M 45 10 k hk)
    show cpF (M 49) (36 * (1 + 1)) 0 36 (72 + k) = _
    rw [cpF_at _ (by omega) _ 36 (by omega), if_pos (by omega), show 72 + k - 36 * (1 + 1) = k by omega]
  · rw [upr_n _ _ (show c ≠ 49 by omega), up2_hi (by decide) c hc, up2_hi (by decide) c hc, bcM_n M (by omega) (by omega) (by omega)]
theorem op_keep (hI : Inv Z ext M) (a : Int32) : OpI mX9_keep mX10_keep [.int a] Z ext M := by
  cases hx : ix a 2 with
  | false => exact op_pure hI (c_keepX a hx) (c_m_keepX a (by rw [← ix2]; exact hx)) rfl
  | true =>
    obtain ⟨q, hq, rfl⟩ := (ix_t (by decide)).mp hx
    rcases (show q = 0 ∨ q = 1 by omega) with rfl | rfl
    · exact op_keep0 hI
    · exact op_keep1 hI
theorem op_back0 (hI : Inv Z ext M) : OpI mX9_back mX10_back [.int (nI 0)] Z ext M := by
  obtain ⟨w, h, n, k0, k1, hw, hG, hT, ⟨i1, i2, i3, i4, i5⟩, hP, hS, hF1, hF2, hF3⟩ := id hI
  have hf := gf hw
  cases hk : k0 with
  | false =>
    have hz : (M 0 11 >>> ((0 : Int32) &&& 31)) &&& 1 = 0 := by rw [i1, kp_b0, hk]; rfl
    have cr := c_m_back (Z := Z) (ext := ext) (M := M) 0 (by decide) false (by first | (rw [hk] at i2; exact i2) | (rw [hk] at i3; exact i3)) hG.2.1.2.2.2 hf.1
    exact op_pure hI (c_backN0 hz) cr rfl
  | true =>
    have hz : ¬ (M 0 11 >>> ((0 : Int32) &&& 31)) &&& 1 = 0 := by rw [i1, kp_b0, hk]; decide
    have hE : ImE (mtN w h) 42 (36 * (0 + 1)) M := by first | exact i4 hk | exact i5 hk
    have cr := c_m_back (Z := Z) (ext := ext) (M := bcM M 10 42) 0 (by decide) true (by first | (rw [hk] at i2; exact i2) | (rw [hk] at i3; exact i3)) hG.2.1.2.2.2 hf.1
    simp only [if_true] at cr
    have a0 : cpF (bcM M 10 42 49) 0 (36 * (0 + 1)) 36 0 = M 42 0 := by
      show cpF (M 49) 0 (36 * (0 + 1)) 36 0 = _
      rw [cpF_at _ (by omega) 0 36 (by omega), if_pos (by omega)]
      exact hE.1
    have a32 : cpF (bcM M 10 42 49) 0 (36 * (0 + 1)) 36 32 = M 42 1 := by
      show cpF (M 49) 0 (36 * (0 + 1)) 36 32 = _
      rw [cpF_at _ (by omega) 32 36 (by omega), if_pos (by omega)]
      exact hE.2.1
    refine op_rt (c_back0 hG.1.2.2.2 hf.1 hz) cr ?_ ?_
    · rw [a0, a32]
      exact left_b hG hf _ _
    · have e49 : ∀ k, 36 ≤ k → upr (bcM M 10 42) 49 (cpF (bcM M 10 42 49) 0 (36 * (0 + 1)) 36) 49 k = M 49 k := by
        intro k hk
        rw [upr_s]
        show cpF (M 49) 0 (36 * (0 + 1)) 36 k = _
        rw [cpF_at _ (by omega) k 36 (by omega), if_neg (by omega)]
      refine ⟨w, h, n, k0, k1, hw, hG.c ⟨⟨rfl, rfl, rfl, rfl, rfl, rfl, rfl, rfl, rfl⟩, ⟨rfl, rfl, rfl, rfl⟩, rfl, rfl, rfl, rfl⟩, ?_, ⟨i1, i2, i3, fun q => (i4 q).c (fun k hk _ => e49 k hk) rfl rfl rfl, fun q => (i5 q).c (fun k hk _ => e49 k (by omega)) rfl rfl rfl⟩, hP.c rfl rfl rfl rfl, hS.c rfl rfl rfl (fun c hc => ?_), hF1, hF2, hF3⟩
      · refine hE.cp (fun k hk => ?_) rfl rfl (fun k hk => bcM_c M 10 42 k hk) (fun k hk => bcM_s M 10 42 k hk)
        show cpF (M 49) 0 (36 * (0 + 1)) 36 (0 + k) = _
        rw [cpF_at _ (by omega) _ 36 (by omega), if_pos (by omega), show 0 + k - 0 = k by omega]
      · rw [upr_n _ _ (show c ≠ 49 by omega), bcM_n M (by omega) (by omega) (by omega)]
theorem op_back1 (hI : Inv Z ext M) : OpI mX9_back mX10_back [.int (nI 1)] Z ext M := by
  obtain ⟨w, h, n, k0, k1, hw, hG, hT, ⟨i1, i2, i3, i4, i5⟩, hP, hS, hF1, hF2, hF3⟩ := id hI
  have hf := gf hw
  cases hk : k1 with
  | false =>
    have hz : (M 0 11 >>> ((1 : Int32) &&& 31)) &&& 1 = 0 := by rw [i1, kp_b1, hk]; rfl
    have cr := c_m_back (Z := Z) (ext := ext) (M := M) 1 (by decide) false (by first | (rw [hk] at i2; exact i2) | (rw [hk] at i3; exact i3)) hG.2.1.2.2.2 hf.1
    exact op_pure hI (c_backN1 hz) cr rfl
  | true =>
    have hz : ¬ (M 0 11 >>> ((1 : Int32) &&& 31)) &&& 1 = 0 := by rw [i1, kp_b1, hk]; decide
    have hE : ImE (mtN w h) 45 (36 * (1 + 1)) M := by first | exact i4 hk | exact i5 hk
    have cr := c_m_back (Z := Z) (ext := ext) (M := bcM M 10 45) 1 (by decide) true (by first | (rw [hk] at i2; exact i2) | (rw [hk] at i3; exact i3)) hG.2.1.2.2.2 hf.1
    simp only [if_true] at cr
    have a0 : cpF (bcM M 10 45 49) 0 (36 * (1 + 1)) 36 0 = M 45 0 := by
      show cpF (M 49) 0 (36 * (1 + 1)) 36 0 = _
      rw [cpF_at _ (by omega) 0 36 (by omega), if_pos (by omega)]
      exact hE.1
    have a32 : cpF (bcM M 10 45 49) 0 (36 * (1 + 1)) 36 32 = M 45 1 := by
      show cpF (M 49) 0 (36 * (1 + 1)) 36 32 = _
      rw [cpF_at _ (by omega) 32 36 (by omega), if_pos (by omega)]
      exact hE.2.1
    refine op_rt (c_back1 hG.1.2.2.2 hf.1 hz) cr ?_ ?_
    · rw [a0, a32]
      exact left_b hG hf _ _
    · have e49 : ∀ k, 36 ≤ k → upr (bcM M 10 45) 49 (cpF (bcM M 10 45 49) 0 (36 * (1 + 1)) 36) 49 k = M 49 k := by
        intro k hk
        rw [upr_s]
        show cpF (M 49) 0 (36 * (1 + 1)) 36 k = _
        rw [cpF_at _ (by omega) k 36 (by omega), if_neg (by omega)]
      refine ⟨w, h, n, k0, k1, hw, hG.c ⟨⟨rfl, rfl, rfl, rfl, rfl, rfl, rfl, rfl, rfl⟩, ⟨rfl, rfl, rfl, rfl⟩, rfl, rfl, rfl, rfl⟩, ?_, ⟨i1, i2, i3, fun q => (i4 q).c (fun k hk _ => e49 k hk) rfl rfl rfl, fun q => (i5 q).c (fun k hk _ => e49 k (by omega)) rfl rfl rfl⟩, hP.c rfl rfl rfl rfl, hS.c rfl rfl rfl (fun c hc => ?_), hF1, hF2, hF3⟩
      · refine hE.cp (fun k hk => ?_) rfl rfl (fun k hk => bcM_c M 10 45 k hk) (fun k hk => bcM_s M 10 45 k hk)
        show cpF (M 49) 0 (36 * (1 + 1)) 36 (0 + k) = _
        rw [cpF_at _ (by omega) _ 36 (by omega), if_pos (by omega), show 0 + k - 0 = k by omega]
      · rw [upr_n _ _ (show c ≠ 49 by omega), bcM_n M (by omega) (by omega) (by omega)]
theorem op_back (hI : Inv Z ext M) (a : Int32) : OpI mX9_back mX10_back [.int a] Z ext M := by
  cases hx : ix a 2 with
  | false => exact op_pure hI (c_backX a hx) (c_m_backX a (by rw [← ix2]; exact hx)) rfl
  | true =>
    obtain ⟨q, hq, rfl⟩ := (ix_t (by decide)).mp hx
    rcases (show q = 0 ∨ q = 1 by omega) with rfl | rfl
    · exact op_back0 hI
    · exact op_back1 hI
end IO
