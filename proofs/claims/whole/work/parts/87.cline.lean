/-! ===== the class: lines ===== -/
theorem Cg.imp {i : Mi} {avs : List Value} {S : List Ds} {M : Mm} {post post' : Option Value → List Ds → Mm → Prop} (h : Cg i avs S M post) (hq : ∀ r S' M', post r S' M' → post' r S' M') : Cg i avs S M post' := by
  intro l D cA rw ad sz hl
  refine MetFree.mono (h l D cA rw ad sz hl) (fun _ _ q => q) (fun _ _ _ _ _ q => q) (fun a st o t _ q => ⟨⟨?_, q.1.2⟩, q.2⟩)
  obtain ⟨r, S', M', ad', h1, h2, h3⟩ := q.1.1
  exact ⟨r, S', M', ad', h1, hq r S' M' h2, h3⟩
theorem Ct.imp {i : Mi} {avs : List Value} {S : List Ds} {M : Mm} {post post' : Option Value → Mm → Prop} (h : Ct i avs S M post) (hq : ∀ r M', post r M' → post' r M') : Ct i avs S M post' := Cg.imp h (fun r S' M' q => ⟨q.1, hq r M' q.2⟩)
/-- the draft -/
def CD (D : Dr) (M : Mm) : Prop := M 15 2 = D.1.1 ∧ M 15 3 = D.1.2.1 ∧ M 15 7 = b2i D.1.2.2 ∧ M 15 8 = D.2.1.1 ∧ M 15 10 = D.2.1.2 ∧ (∀ k, k < 31 → lies (M 15 9) (nI k) = !decide (D.2.2.1 k = 0)) ∧ (∀ k, k < 31 → M 17 k = if D.2.2.1 k = 0 then 1 else D.2.2.1 k) ∧ (∀ k, k < 4 → lies (M 15 11) (nI k) = !decide (D.2.2.2 k = -4)) ∧ (∀ k, k < 4 → M 18 k = D.2.2.2 k) ∧ lies (M 15 8) (nI 31) = false ∧ lies (M 15 9) (nI 31) = false
theorem CD.on {D : Dr} {M M' : Mm} (h : CD D M) (hO : On13 M M') : CD D M' := by
  unfold CD
  rw [hO.1 15 (by decide), hO.1 17 (by decide), hO.1 18 (by decide)]
  exact h
def Fl (M M' : Mm) : Prop := Ft M M' ∧ M' 15 4 = M 15 4
theorem Fl.rf (M : Mm) : Fl M M := ⟨Ft.rf M, rfl⟩
theorem Fl.tr {M M' M'' : Mm} (h : Fl M M') (h2 : Fl M' M'') : Fl M M'' := ⟨h.1.tr h2.1, h2.2.trans h.2⟩
theorem Fl.on {M M' : Mm} (h : On13 M M') : Fl M M' := ⟨Ft.on h, by rw [h.1 15 (by decide)]⟩
theorem Fl.up {M M' : Mm} (h : Fl M M') {c k : Nat} (v : Int32) (hc : c = 15 ∨ c = 16 ∨ c = 17 ∨ c = 18) (hk : c = 15 → k ≠ 4) : Fl M (up2 M' c k v) := ⟨h.1.up v hc, by
  by_cases q : c = 15
  · subst q; rw [up2_ne M' 15 v (hk rfl).symm]; exact h.2
  · rw [up2_n M' v (fun z => q z.symm)]; exact h.2⟩
theorem Fl.er {M M' : Mm} (h : Fl M M') (e : Int32 × Nat) : Fl M (erM M' e) := (h.up _ (Or.inl rfl) (fun _ => by decide)).up _ (Or.inl rfl) (fun _ => by decide)
def lnC (t : Nat → Int32) (n : Nat) (X : Ex (Dr × Nat)) : Ex (Dr × Nat) := match X with
  | .inl e => .inl e
  | .inr (D', s') => if tK t n s' = 3 then .inr (D', s') else .inl (mis (tK t n s'), s')
abbrev clE (e : Int32 × Nat) (M : Mm) (r : Option Value) (M' : Mm) : Prop := Fl M M' ∧ r = some (.int (b2i false)) ∧ M' 15 5 = e.1 ∧ M' 15 6 = nI e.2
abbrev clO (t : Nat → Int32) (n : Nat) (D : Dr) (s : Nat) (M : Mm) (r : Option Value) (M' : Mm) : Prop := Fl M M' ∧ r = some (.int (b2i true)) ∧ CD D M' ∧ CLd t n s (M' 13) ∧ M' 15 5 = 0
abbrev clP (t : Nat → Int32) (n : Nat) (X : Ex (Dr × Nat)) (M : Mm) (r : Option Value) (M' : Mm) : Prop := match X with
  | .inl e => clE e M r M'
  | .inr (D', s') => clO t n D' s' M r M'
theorem clE.of {M M1 : Mm} (h : Fl M M1) (e : Int32 × Nat) : clE e M (some (.int (b2i false))) (erM M1 e) := ⟨h.er e, rfl, rfl, rfl⟩
theorem c_stopC {Z : List (Option Nat)} {ext : List Ds} {M : Mm} {t : Nat → Int32} {n s : Nat} {D : Dr} (hT : CT t n M) (hL : CLd t n s (M 13)) (hK : tK t n s ≠ 4) (hs : s ≤ n) (hD : CD D M) (h0 : M 15 5 = 0) : Ct mX8_nextStop [.ref 15] (SS Z ext) M (clP t n (lnC t n (.inr (D, nx t n s))) M) := by
  refine Ct.imp (c_nextStop hT hL hK hs) (fun r M' q => ?_)
  obtain ⟨M1, hO, hL1, hz⟩ := q
  unfold lnC
  dsimp only
  by_cases h3 : tK t n (nx t n s) = 3
  · rw [if_pos h3] at hz ⊢
    obtain ⟨hr, hM⟩ := hz
    subst hr; subst hM
    exact (⟨Fl.on hO, rfl, hD.on hO, hL1, by rw [hO.1 15 (by decide)]; exact h0⟩ : clO t n D (nx t n s) M _ _)
  · rw [if_neg h3] at hz ⊢
    obtain ⟨hr, hM⟩ := hz
    subst hr; subst hM
    exact clE.of (Fl.on hO) _
theorem lies_0 (v : Int32) : lies 0 v = false := by unfold lies; simp
theorem numT_0 (t : Nat → Int32) (n : Nat) (lo hi : Int32) (s : Nat) : numT t n lo hi 0 s = numA t n lo hi s := by
  unfold numT
  cases numA t n lo hi s with
  | inl e => rfl
  | inr v => dsimp only; rw [lies_0, if_neg (by decide)]
theorem CLd.v {t : Nat → Int32} {n s : Nat} {M : Mm} {lo hi v : Int32} (hL : CLd t n s (M 13)) (hN : numA t n lo hi s = .inr v) : M 13 4 = v := by
  rw [hL.2.2.2 (numA_r hN).1, (numA_r hN).2.2]
theorem c_tellGrid {Z : List (Option Nat)} {ext : List Ds} {M : Mm} {t : Nat → Int32} {n s : Nat} {D : Dr} (hT : CT t n M) (hL : CLd t n s (M 13)) (hK : tK t n s ≠ 4) (hs : s ≤ n) (hD : CD D M) (h0 : M 15 5 = 0) : Ct mX8_tellGrid [.ref 15] (SS Z ext) M (clP t n (if D.1.2.2 = true then .inl (4, s) else lnC t n (lkG t n D (nx t n s))) M) := by
  have h7 := hD.2.2.1
  cases hg : D.1.2.2 with
  | true =>
    rw [if_pos rfl]
    rw [hg] at h7
    refine Ct.of (by decide) (Nat.le_of_ble_eq_true rfl) ?_
    refine x_aload_n dX8_tellGrid_0 rfl ?_
    refine x_geti fl_X8_63 dX8_tellGrid_1 sf_15 rfl ?_
    refine x_if_eq 13 dX8_tellGrid_4 (by decide) (fun hc_ => absurd hc_ (by rw [h7]; decide)) (fun _ => ?_)
    refine x_aload_n dX8_tellGrid_7 rfl ?_
    refine x_iconst (v := 4) dX8_tellGrid_8 (by decide) ?_
    refine x_cvd mf_X8_refuse ml_X8_89 dX8_tellGrid_9 rfl sf_15 rfl ⟨by decide, by decide⟩ (Nat.le_of_ble_eq_true rfl) ⟨rfl, rfl⟩ ⟨Nat.le_of_ble_eq_true rfl, Nat.le_of_ble_eq_true rfl⟩ (c_refuse 4 hL.1) ?_
    exact x_iret dX8_tellGrid_12 rfl (nz_b _) (Nat.le_refl _) (Nat.le_refl _) ⟨rfl, clE.of (Fl.rf M) (4, s)⟩
  | false =>
    rw [if_neg (by decide)]
    rw [hg] at h7
    have hF1 : Fl M (up2 M 15 7 1) := (Fl.rf M).up _ (Or.inl rfl) (fun _ => by decide)
    have hs1 := nx_le (t := t) hs
    have hs2 := nx_le (t := t) hs1
    have c1 := c_nextNumber (Z := Z) (ext := ext) (M := up2 M 15 7 1) 1 4 0 (hT.go hF1.1) hL hK hs
    rw [numT_0] at c1
    unfold lkG
    cases hN1 : numA t n 1 4 (nx t n s) with
    | inl e =>
      rw [hN1] at c1
      refine Ct.of (by decide) (Nat.le_of_ble_eq_true rfl) ?_
      refine x_aload_n dX8_tellGrid_0 rfl ?_
      refine x_geti fl_X8_63 dX8_tellGrid_1 sf_15 rfl ?_
      refine x_if_eq 13 dX8_tellGrid_4 (by decide) (fun _ => ?_) (fun hc_ => absurd (h7) hc_)
      refine x_aload_n dX8_tellGrid_13 rfl ?_
      refine x_iconst (v := 1) dX8_tellGrid_14 (by decide) ?_
      refine x_put fl_X8_63 dX8_tellGrid_15 sf_15 rfl rfl rfl ?_
      refine x_aload_n dX8_tellGrid_18 rfl ?_
      refine x_iconst (v := 1) dX8_tellGrid_19 (by decide) ?_
      refine x_iconst (v := 4) dX8_tellGrid_20 (by decide) ?_
      refine x_iconst (v := 0) dX8_tellGrid_21 (by decide) ?_
      refine x_cv mf_X8_nextNumber ml_X8_135 dX8_tellGrid_22 rfl sf_15 rfl ⟨by decide, by decide⟩ (Nat.le_of_ble_eq_true rfl) ⟨rfl, rfl⟩ ⟨Nat.le_of_ble_eq_true rfl, Nat.le_of_ble_eq_true rfl⟩ (c1) (fun r M2 ⟨M1, hO1, hL1, hr, hM⟩ => ?_)
      subst hr; subst hM
      refine x_ifb_ne 30 dX8_tellGrid_25 (by decide) (fun hc_ => absurd ((rfl).symm.trans hc_) Bool.false_ne_true) (fun _ => ?_)
      refine x_iconst (v := 0) dX8_tellGrid_28 (by decide) ?_
      exact x_iret dX8_tellGrid_29 rfl rfl (Nat.le_refl _) (Nat.le_refl _) ⟨rfl, (clE.of (hF1.tr (Fl.on hO1)) e : clE e M _ _)⟩
    | inr w =>
      rw [hN1] at c1
      dsimp only
      have hk1 := (numA_r hN1).1
      have fin : ∀ M1, On13 (up2 M 15 7 1) M1 → CLd t n (nx t n s) (M1 13) → XW mX8_tellGrid (Fc mX8_tellGrid (fun r S' M' => S' = SS Z ext ∧ clP t n (lnC t n (match numA t n 1 3 (nx t n (nx t n s)) with
          | .inl e => .inl e
          | .inr h => .inr (((w, h, true), D.2), nx t n (nx t n (nx t n s))))) M r M')) 0 0 (SS Z ext) (up2 M1 15 2 (M1 13 4)) 41 [some (.ref 15)] [] := by
        intro M1 hO1 hL1
        have hF2 : Fl M (up2 M1 15 2 (M1 13 4)) := (hF1.tr (Fl.on hO1)).up _ (Or.inl rfl) (fun _ => by decide)
        have c2 := c_nextNumber (Z := Z) (ext := ext) (M := up2 M1 15 2 (M1 13 4)) 1 3 0 (hT.go hF2.1) hL1 (by rw [hk1]; decide) hs1
        rw [numT_0] at c2
        cases hN2 : numA t n 1 3 (nx t n (nx t n s)) with
        | inl e =>
          rw [hN2] at c2
          refine x_aload_n dX8_tellGrid_41 rfl ?_
          refine x_iconst (v := 1) dX8_tellGrid_42 (by decide) ?_
          refine x_iconst (v := 3) dX8_tellGrid_43 (by decide) ?_
          refine x_iconst (v := 0) dX8_tellGrid_44 (by decide) ?_
          refine x_cv mf_X8_nextNumber ml_X8_135 dX8_tellGrid_45 rfl sf_15 rfl ⟨by decide, by decide⟩ (Nat.le_of_ble_eq_true rfl) ⟨rfl, rfl⟩ ⟨Nat.le_of_ble_eq_true rfl, Nat.le_of_ble_eq_true rfl⟩ (c2) (fun r M2 ⟨M3, hO3, hL3, hr, hM⟩ => ?_)
          subst hr; subst hM
          refine x_ifb_ne 53 dX8_tellGrid_48 (by decide) (fun hc_ => absurd ((rfl).symm.trans hc_) Bool.false_ne_true) (fun _ => ?_)
          refine x_iconst (v := 0) dX8_tellGrid_51 (by decide) ?_
          exact x_iret dX8_tellGrid_52 rfl rfl (Nat.le_refl _) (Nat.le_refl _) ⟨rfl, (clE.of (hF2.tr (Fl.on hO3)) e : clE e M _ _)⟩
        | inr h =>
          rw [hN2] at c2
          have hk2 := (numA_r hN2).1
          refine x_aload_n dX8_tellGrid_41 rfl ?_
          refine x_iconst (v := 1) dX8_tellGrid_42 (by decide) ?_
          refine x_iconst (v := 3) dX8_tellGrid_43 (by decide) ?_
          refine x_iconst (v := 0) dX8_tellGrid_44 (by decide) ?_
          refine x_cv mf_X8_nextNumber ml_X8_135 dX8_tellGrid_45 rfl sf_15 rfl ⟨by decide, by decide⟩ (Nat.le_of_ble_eq_true rfl) ⟨rfl, rfl⟩ ⟨Nat.le_of_ble_eq_true rfl, Nat.le_of_ble_eq_true rfl⟩ (c2) (fun r M2 ⟨M3, hO3, hL3, hr, hM⟩ => ?_)
          subst hr; subst hM
          refine x_ifb_ne 53 dX8_tellGrid_48 (by decide) (fun _ => ?_) (fun hc_ => absurd (hc_.symm.trans (rfl)) Bool.false_ne_true)
          refine x_aload_n dX8_tellGrid_53 rfl ?_
          refine x_aload_n dX8_tellGrid_54 rfl ?_
          refine x_getr fl_X8_18 dX8_tellGrid_55 sf_15 rfl ?_
          refine x_geti fl_X8_139 dX8_tellGrid_58 sf_13 rfl ?_
          refine x_put fl_X8_54 dX8_tellGrid_61 sf_15 rfl rfl rfl ?_
          skip
          have e13 : M1 13 4 = w := hL1.v hN1
          have e23 : M2 13 4 = h := hL3.v hN2
          have hF3 : Fl M (up2 M2 15 3 (M2 13 4)) := (hF2.tr (Fl.on hO3)).up _ (Or.inl rfl) (fun _ => by decide)
          have hD3 : CD ((w, h, true), D.2) (up2 M2 15 3 (M2 13 4)) := by
            have e15 : M2 15 = upd (upd (M 15) 7 1) 2 (M1 13 4) := by
              rw [hO3.1 15 (by decide)]
              show upd (M1 15) 2 (M1 13 4) = _
              rw [hO1.1 15 (by decide)]
              rfl
            have e17 : M2 17 = M 17 := (hO3.1 17 (by decide)).trans (hO1.1 17 (by decide))
            have e18 : M2 18 = M 18 := (hO3.1 18 (by decide)).trans (hO1.1 18 (by decide))
            obtain ⟨r1, r2, r3, r4, r5, r6, r7, r8, r9, r10, r11⟩ := hD
            have e3 : up2 M2 15 3 (M2 13 4) 15 = upd (upd (upd (M 15) 7 1) 2 (M1 13 4)) 3 (M2 13 4) := by rw [up2_s, e15]
            unfold CD
            rw [e3, show up2 M2 15 3 (M2 13 4) 17 = M 17 from e17, show up2 M2 15 3 (M2 13 4) 18 = M 18 from e18]
            exact ⟨e13, e23, rfl, r4, r5, r6, r7, r8, r9, r10, r11⟩
          have c3 := c_stopC (Z := Z) (ext := ext) (M := up2 M2 15 3 (M2 13 4)) (t := t) (n := n) (s := nx t n (nx t n s)) (D := ((w, h, true), D.2)) (hT.go hF3.1) hL3 (by rw [hk2]; decide) hs2 hD3 (by show M2 15 5 = 0; rw [hO3.1 15 (by decide)]; show M1 15 5 = 0; rw [hO1.1 15 (by decide)]; exact h0)
          have hres : ∀ r M', clP t n (lnC t n (.inr (((w, h, true), D.2), nx t n (nx t n (nx t n s))))) (up2 M2 15 3 (M2 13 4)) r M' → clP t n (lnC t n (.inr (((w, h, true), D.2), nx t n (nx t n (nx t n s))))) M r M' ∧ ∃ b, r = some (.int (b2i b)) := by
            intro r M' q
            unfold lnC at q ⊢
            dsimp only at q ⊢
            by_cases h3 : tK t n (nx t n (nx t n (nx t n s))) = 3
            · rw [if_pos h3] at q ⊢
              exact ⟨⟨hF3.tr q.1, q.2⟩, true, q.2.1⟩
            · rw [if_neg h3] at q ⊢
              exact ⟨⟨hF3.tr q.1, q.2⟩, false, q.2.1⟩
          refine x_aload_n dX8_tellGrid_64 rfl ?_
          refine x_cv mf_X8_nextStop ml_X8_142 dX8_tellGrid_65 rfl sf_15 rfl ⟨by decide, by decide⟩ (Nat.le_of_ble_eq_true rfl) ⟨rfl, rfl⟩ ⟨Nat.le_of_ble_eq_true rfl, Nat.le_of_ble_eq_true rfl⟩ (c3) (fun r M4 q => ?_)
          obtain ⟨hq, b, hb⟩ := hres r M4 q
          subst hb
          exact x_iret dX8_tellGrid_68 rfl (nz_b _) (Nat.le_refl _) (Nat.le_refl _) ⟨rfl, hq⟩
      refine Ct.of (by decide) (Nat.le_of_ble_eq_true rfl) ?_
      refine x_aload_n dX8_tellGrid_0 rfl ?_
      refine x_geti fl_X8_63 dX8_tellGrid_1 sf_15 rfl ?_
      refine x_if_eq 13 dX8_tellGrid_4 (by decide) (fun _ => ?_) (fun hc_ => absurd (h7) hc_)
      refine x_aload_n dX8_tellGrid_13 rfl ?_
      refine x_iconst (v := 1) dX8_tellGrid_14 (by decide) ?_
      refine x_put fl_X8_63 dX8_tellGrid_15 sf_15 rfl rfl rfl ?_
      refine x_aload_n dX8_tellGrid_18 rfl ?_
      refine x_iconst (v := 1) dX8_tellGrid_19 (by decide) ?_
      refine x_iconst (v := 4) dX8_tellGrid_20 (by decide) ?_
      refine x_iconst (v := 0) dX8_tellGrid_21 (by decide) ?_
      refine x_cv mf_X8_nextNumber ml_X8_135 dX8_tellGrid_22 rfl sf_15 rfl ⟨by decide, by decide⟩ (Nat.le_of_ble_eq_true rfl) ⟨rfl, rfl⟩ ⟨Nat.le_of_ble_eq_true rfl, Nat.le_of_ble_eq_true rfl⟩ (c1) (fun r M2 ⟨M1, hO1, hL1, hr, hM⟩ => ?_)
      subst hr; subst hM
      refine x_ifb_ne 30 dX8_tellGrid_25 (by decide) (fun _ => ?_) (fun hc_ => absurd (hc_.symm.trans (rfl)) Bool.false_ne_true)
      refine x_aload_n dX8_tellGrid_30 rfl ?_
      refine x_aload_n dX8_tellGrid_31 rfl ?_
      refine x_getr fl_X8_18 dX8_tellGrid_32 sf_15 rfl ?_
      refine x_geti fl_X8_139 dX8_tellGrid_35 sf_13 rfl ?_
      refine x_put fl_X8_51 dX8_tellGrid_38 sf_15 rfl rfl rfl ?_
      exact fin _ hO1 hL1
