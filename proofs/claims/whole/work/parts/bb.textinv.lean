/-! ===== calls: text ===== -/
theorem kcR_at (dC f : Nat → Int32) (k : Nat) : ∀ n, kcR dC f n k = if 1 ≤ k ∧ k ≤ n then (if decide (dC (k - 1) = 0) then 1 else dC (k - 1)) else f k
  | 0 => by rw [if_neg (by omega)]; rfl
  | n + 1 => by
    rw [kcR_s]
    unfold upd
    by_cases h : k = n + 1
    · rw [if_pos h, if_pos (show 1 ≤ k ∧ k ≤ n + 1 by omega), h, Nat.add_sub_cancel]
    · rw [if_neg h, kcR_at dC f k n]
      by_cases h2 : 1 ≤ k ∧ k ≤ n
      · rw [if_pos h2, if_pos (show 1 ≤ k ∧ k ≤ n + 1 by omega)]
      · rw [if_neg h2, if_neg (show ¬ (1 ≤ k ∧ k ≤ n + 1) by omega)]
theorem row_at {l : List Int32} {f : Nat → Int32} {q : Nat} (h : q < l.length) : rowL l f q = l.getD q 0 := if_pos h
theorem kd_hi (M : Mm) (w h : Nat) {c : Nat} (hc : 55 ≤ c) : kdM M w h c = M c := by
  unfold kdM kgM gmR
  rw [upr_n _ _ (show c ≠ 49 by omega), up2_n _ _ (show c ≠ 50 by omega), up2_n _ _ (show c ≠ 50 by omega), upr_n _ _ (show c ≠ 54 by omega), upr_n _ _ (show c ≠ 53 by omega), upr_n _ _ (show c ≠ 52 by omega), upr_n _ _ (show c ≠ 51 by omega), up2_n _ _ (show c ≠ 48 by omega), up2_n _ _ (show c ≠ 48 by omega), up2_n _ _ (show c ≠ 48 by omega), up2_n _ _ (show c ≠ 48 by omega)]
def txM (M1 : Mm) (w h : Nat) : Mm := up2 (bcM (fmM (up2 (fnM M1 (mtN w h)) 13 1 0) w h) 10 16) 0 11 0
theorem tx_hi (M : Mm) (w h : Nat) {c : Nat} (hc : 17 ≤ c) : txM M w h c = M c := by
  unfold txM
  rw [up2_n _ _ (show c ≠ 0 by omega), bcM_n _ (show c ≠ 10 by omega) (show c ≠ 10 + 1 by omega) (show c ≠ 10 + 2 by omega)]
  unfold fmM tpM gdM foM fnM
  rw [upr_n _ _ (show c ≠ 9 by omega), upr_n _ _ (show c ≠ 8 by omega), upr_n _ _ (show c ≠ 7 by omega), upr_n _ _ (show c ≠ 6 by omega), upr_n _ _ (show c ≠ 5 by omega), upr_n _ _ (show c ≠ 4 by omega), upr_n _ _ (show c ≠ 3 by omega), upr_n _ _ (show c ≠ 2 by omega), up2_n _ _ (show c ≠ 1 by omega), up2_n _ _ (show c ≠ 1 by omega), up2_n _ _ (show c ≠ 1 by omega), up2_n _ _ (show c ≠ 1 by omega), up2_n _ _ (show c ≠ 13 by omega), up2_n _ _ (show c ≠ 16 by omega), up2_n _ _ (show c ≠ 16 by omega)]
section XI
variable {Z : List (Option Nat)} {ext : List Ds} {M M1 M2 : Mm} {D : Dr} {w h : Nat}
theorem tx_gr (hw : 1 ≤ w ∧ w ≤ 4 ∧ 1 ≤ h ∧ h ≤ 3) (h2 : Fp (txM M1 w h) M2) : GrI w h (kdM (up2 M2 48 19 0) w h) := by
  have q : ∀ c, c ≠ 48 → c ≠ 55 → c ≠ 56 → M2 c = txM M1 w h c := fun c a b d => h2.1 c a b d
  have s1 := gS_m w h (M1 6) (fun _ => 0) 3
  have s2 := gS_m w h (M2 6) (fun _ => 0) 3
  have e1 : (gS w h ([], M1 6) 3).1 = sqL w h := s1.1
  have e2 : (gS w h ([], M2 6) 3).1 = sqL w h := s2.1
  have y : ∀ c, c < 16 → kdM (up2 M2 48 19 0) w h c = txM M1 w h c := by
    intro c hc
    rw [← q c (by omega) (by omega) (by omega)]
    unfold kdM kgM gmR
    rw [upr_n _ _ (show c ≠ 49 by omega), up2_n _ _ (show c ≠ 50 by omega), up2_n _ _ (show c ≠ 50 by omega), upr_n _ _ (show c ≠ 54 by omega), upr_n _ _ (show c ≠ 53 by omega), upr_n _ _ (show c ≠ 52 by omega), upr_n _ _ (show c ≠ 51 by omega), up2_n _ _ (show c ≠ 48 by omega), up2_n _ _ (show c ≠ 48 by omega), up2_n _ _ (show c ≠ 48 by omega), up2_n _ _ (show c ≠ 48 by omega), up2_n _ _ (show c ≠ 48 by omega)]
  refine ⟨⟨by rw [y 1 (by decide)]; rfl, by rw [y 1 (by decide)]; rfl, by rw [y 1 (by decide)]; rfl, ?_⟩, ⟨rfl, rfl, rfl, ?_⟩, fun k hk => ⟨⟨?_, ?_, ?_, ?_⟩, ?_, ?_, ?_, ?_⟩, fun s s1' s2' => ?_, fun m hm => ?_⟩
  · rw [y 1 (by decide)]
    show nI (gS w h ([], M1 6) 3).1.length = _
    rw [e1]; rfl
  · show nI (gS w h ([], M2 6) 3).1.length = _
    rw [e2]; rfl
  · rw [y 2 (by decide)]
    show rowL ((gS w h ([], M1 6) 3).1.map qS) (M1 2) k = _
    rw [e1, row_at (by rw [List.length_map]; exact hk)]; rfl
  · rw [y 3 (by decide)]
    show rowL ((gS w h ([], M1 6) 3).1.map qR) (M1 3) k = _
    rw [e1, row_at (by rw [List.length_map]; exact hk)]; rfl
  · rw [y 4 (by decide)]
    show rowL ((gS w h ([], M1 6) 3).1.map qC) (M1 4) k = _
    rw [e1, row_at (by rw [List.length_map]; exact hk)]; rfl
  · rw [y 5 (by decide)]
    show rowL ((gS w h ([], M1 6) 3).1.map (qM (nI w) (nI h))) (M1 5) k = _
    rw [e1, row_at (by rw [List.length_map]; exact hk)]; rfl
  · show rowL ((gS w h ([], M2 6) 3).1.map qS) (M2 51) k = _
    rw [e2, row_at (by rw [List.length_map]; exact hk)]; rfl
  · show rowL ((gS w h ([], M2 6) 3).1.map qR) (M2 52) k = _
    rw [e2, row_at (by rw [List.length_map]; exact hk)]; rfl
  · show rowL ((gS w h ([], M2 6) 3).1.map qC) (M2 53) k = _
    rw [e2, row_at (by rw [List.length_map]; exact hk)]; rfl
  · show rowL ((gS w h ([], M2 6) 3).1.map (qM (nI w) (nI h))) (M2 54) k = _
    rw [e2, row_at (by rw [List.length_map]; exact hk)]; rfl
  · rw [y 6 (by decide)]
    exact s1.2 s ⟨s1', s2'⟩
  · rw [y 7 (by decide), y 8 (by decide), y 9 (by decide)]
    exact tpR_tr hw (M1 7, M1 8, M1 9) hm
theorem tx_im (hw : 1 ≤ w ∧ w ≤ 4 ∧ 1 ≤ h ∧ h ≤ 3) (hc : wC D) (c1 : CD D M1) (h2 : Fp (txM M1 w h) M2) (r2 : RD D M2) : ImE (mtN w h) 10 0 (kdM (up2 M2 48 19 0) w h) := by
  have hf := gf hw
  have hmb := hf.2.2.1
  have q10 : kdM (up2 M2 48 19 0) w h 10 = txM M1 w h 10 := h2.1 10 (by decide) (by decide) (by decide)
  have q11 : kdM (up2 M2 48 19 0) w h 11 = txM M1 w h 11 := h2.1 11 (by decide) (by decide) (by decide)
  have q12 : kdM (up2 M2 48 19 0) w h 12 = txM M1 w h 12 := h2.1 12 (by decide) (by decide) (by decide)
  have y0 : txM M1 w h 10 0 = al (mtN w h) &&& (M1 15 8 ^^^ (-1)) := (bcM_0 (fmM (up2 (fnM M1 (mtN w h)) 13 1 0) w h) 10 16).trans rfl
  have y1 : txM M1 w h 10 1 = if decide (M1 15 10 = 0) then 14 else M1 15 10 := (bcM_1 (fmM (up2 (fnM M1 (mtN w h)) 13 1 0) w h) 10 16).trans rfl
  have y2 : ∀ k, k < 31 → txM M1 w h 11 k = M1 17 k := fun k hk => bcM_c _ 10 16 k hk
  have y3 : ∀ k, k < 4 → txM M1 w h 12 k = M1 18 k := fun k hk => bcM_s _ 10 16 k hk
  obtain ⟨a1, a2, a3, a4, a5, a6, a7, a8, a9, -⟩ := c1
  obtain ⟨b1, b2, b3, b4, b5, b6, b7, -⟩ := r2
  have z : kdM (up2 M2 48 19 0) w h 49 = kst (up2 M2 48 19 0) (mtN w h) := rfl
  have lowk : ∀ k, k < 33 → kst (up2 M2 48 19 0) (mtN w h) k = upd (kcR (M2 55) (upd (M2 49) 0 (alo (mtN w h) &&& (M2 48 12 ^^^ (-1)))) 31) 32 (if decide (M2 48 14 = 0) then 14 else M2 48 14) k := by
    intro k hk
    show upd (upd (upd _ 33 _) 34 _) 35 _ k = _
    unfold upd
    rw [if_neg (show ¬ k = 35 by omega), if_neg (show ¬ k = 34 by omega), if_neg (show ¬ k = 33 by omega)]
    rfl
  have z0 : kst (up2 M2 48 19 0) (mtN w h) 0 = alo (mtN w h) &&& (M2 48 12 ^^^ (-1)) := by
    rw [lowk 0 (by decide)]
    show kcR (M2 55) (upd (M2 49) 0 (alo (mtN w h) &&& (M2 48 12 ^^^ (-1)))) 31 0 = _
    rw [kcR_at, if_neg (show ¬ (1 ≤ 0 ∧ 0 ≤ 31) by omega)]
    rfl
  refine ⟨?_, ?_, fun k hk => ?_, fun k k1 k2 => ?_, fun i hi => ?_, fun k hk => ?_⟩
  · rw [z, q10, z0, y0, al_alo _ (by omega), b4, a4]
  · rw [z, q10, y1, show 0 + 32 = 32 from rfl, lowk 32 (by decide)]
    show (if decide (M2 48 14 = 0) then (14 : Int32) else M2 48 14) = _
    rw [b5, a5]
  · show kdM (up2 M2 48 19 0) w h 49 (0 + 1 + k) = kdM (up2 M2 48 19 0) w h 11 k
    rw [z, q11, y2 k hk, a7 k hk, show 0 + 1 + k = k + 1 by omega, lowk (k + 1) (by omega)]
    unfold upd
    rw [if_neg (show ¬ k + 1 = 32 by omega), kcR_at, if_pos (show 1 ≤ k + 1 ∧ k + 1 ≤ 31 by omega), Nat.add_sub_cancel, b6 k hk]
    by_cases h0 : D.2.2.1 k = 0
    · rw [decide_eq_true h0, if_pos rfl, if_pos h0]
    · rw [decide_eq_false h0, if_neg (by decide), if_neg h0]
  · show kdM (up2 M2 48 19 0) w h 49 (0 + 32 + k) = kdM (up2 M2 48 19 0) w h 12 k
    rw [z, q12, y3 k (by omega), a9 k (by omega)]
    rcases (show k = 1 ∨ k = 2 ∨ k = 3 by omega) with rfl | rfl | rfl
    · exact b7 1 (by decide)
    · exact b7 2 (by decide)
    · exact b7 3 (by decide)
  · rw [q10, y0] at hi
    rcases Nat.lt_or_ge i 32 with hi2 | hi2
    · rw [bi_and, bi_al0 _ (by omega) i hi2, Bool.and_eq_true] at hi; exact of_decide_eq_true hi.1
    · rw [bi_ge hi2] at hi; cases hi
  · show ∃ c, 1 ≤ c ∧ c ≤ 9 ∧ kdM (up2 M2 48 19 0) w h 11 k = nI c
    rw [q11, y2 k hk, a7 k hk]
    by_cases h0 : D.2.2.1 k = 0
    · rw [if_pos h0]; exact ⟨1, by decide, by decide, rfl⟩
    · rw [if_neg h0]
      exact (hc k).resolve_left h0
theorem inv_txt (hI : Inv Z ext M) (hw : 1 ≤ w ∧ w ≤ 4 ∧ 1 ≤ h ∧ h ≤ 3) (hc : wC D) (h1 : Ft M M1) (c1 : CD D M1) (h5 : M1 15 5 = 0) (h2 : Fp (txM M1 w h) M2) (r2 : RD D M2) (h24 : M2 48 24 = 0) : Inv Z ext (kdM (up2 M2 48 19 0) w h) := by
  obtain ⟨w0, h0, n, k0, k1, -, -, -, -, -, hS, hF1, hF2, hF3⟩ := hI
  have hi : ∀ c, 57 ≤ c → kdM (up2 M2 48 19 0) w h c = M c := fun c hc => by
    rw [kd_hi _ _ _ (by omega), up2_n _ _ (by omega), h2.1 c (by omega) (by omega) (by omega), tx_hi _ _ _ (by omega), h1.1 c (by omega) (by omega) (by omega) (by omega) (by omega)]
  have q0 : kdM (up2 M2 48 19 0) w h 0 = txM M1 w h 0 := h2.1 0 (by decide) (by decide) (by decide)
  have q13 : kdM (up2 M2 48 19 0) w h 13 = txM M1 w h 13 := h2.1 13 (by decide) (by decide) (by decide)
  have q15 : kdM (up2 M2 48 19 0) w h 15 = txM M1 w h 15 := h2.1 15 (by decide) (by decide) (by decide)
  have q40 : kdM (up2 M2 48 19 0) w h 40 = M 40 := by
    show M2 40 = M 40
    rw [h2.1 40 (by decide) (by decide) (by decide), tx_hi _ _ _ (by decide), h1.1 40 (by decide) (by decide) (by decide) (by decide) (by decide)]
  refine ⟨w, h, 0, false, false, hw, tx_gr hw h2, tx_im hw hc c1 h2 r2, ⟨by rw [q0]; rfl, rfl, rfl, fun q => absurd q (by decide), fun q => absurd q (by decide)⟩, ⟨by omega, by rw [q13]; rfl, rfl, fun k hk => absurd hk (by omega)⟩, hS.c (hi 68 (by decide)) (hi 69 (by decide)) (hi 70 (by decide)) (fun c hc => hi c (by omega)), ?_, ?_, fun k hk => by rw [q40]; exact hF3 k hk⟩
  · rw [q15]
    show M1 15 5 = M2 48 24
    rw [h5, h24]
  · rw [q0]
    show M1 0 12 = M2 48 46
    rw [h2.2 46 (by omega), tx_hi _ _ _ (by decide), h1.1 0 (by decide) (by decide) (by decide) (by decide) (by decide), h1.1 48 (by decide) (by decide) (by decide) (by decide) (by decide)]
    exact hF2
theorem op_text (hI : Inv Z ext M) : OpI mX9_text mX10_text [] Z ext M := by
  obtain ⟨w0, h0, n, k0, k1, hw0, hG, hT, hIm, hP, hS, hF⟩ := id hI
  cases hX : finA (M 57) n with
  | inl e => exact op_text_err hI hP hX
  | inr p =>
    obtain ⟨k, D⟩ := p
    obtain ⟨⟨w, h, a1, a2, a3, a4, d1, d2⟩, -⟩ := finA_w hX
    have hc := finA_c hX
    have hw : 1 ≤ w ∧ w ≤ 4 ∧ 1 ≤ h ∧ h ≤ 3 := ⟨a1, a2, a3, a4⟩
    have cw : D.1.1.toNatClampNeg = w := by rw [d1, nI_clamp (by omega)]
    have ch : D.1.2.1.toNatClampNeg = h := by rw [d2, nI_clamp (by omega)]
    obtain ⟨he, hp⟩ := tp_et hP
    have hcl := c_text (Z := Z) (ext := ext) (M := M) (t := M 14) (n := n) ⟨rfl, hP.2.1, hP.1⟩
    rw [et_fin he, hX] at hcl
    refine ⟨nI k, Ct.imp hcl (fun r M1' q => ?_)⟩
    obtain ⟨M1, f1, r1, cd1, v1, rfl⟩ := q
    refine ⟨r1, ?_⟩
    unfold mtD
    rw [cw, ch]
    show Ct mX10_text _ (SS Z ext) (txM M1 w h) _
    have e57 : txM M1 w h 57 = M 57 := by rw [tx_hi _ _ _ (by decide), f1.1 57 (by decide) (by decide) (by decide) (by decide) (by decide)]
    have e48 : txM M1 w h 48 = M 48 := by rw [tx_hi _ _ _ (by decide), f1.1 48 (by decide) (by decide) (by decide) (by decide) (by decide)]
    have hr := c_m_text (Z := Z) (ext := ext) (M := txM M1 w h) (t := M 57) (n := n) ⟨e57, by rw [e48]; exact hP.2.2.1, hP.1, hp⟩
    rw [hX] at hr
    refine Ct.imp hr (fun r2 M2' q2 => ?_)
    obtain ⟨M2, f2, r2', rd2, v2, rfl⟩ := q2
    rw [cw, ch]
    exact ⟨r2', inv_txt hI hw hc f1 cd1 v1 f2 rd2 v2⟩
end XI
