/-! ===== the class: tellCost, tellSeen ===== -/
theorem clP_pre {t : Nat → Int32} {n : Nat} {Y : Ex (Dr × Nat)} {M X : Mm} {r : Option Value} {M' : Mm} (hF : Fl M X) (q : clP t n Y X r M') : clP t n Y M r M' ∧ ∃ b, r = some (.int (b2i b)) := by
  cases Y with
  | inl e => exact ⟨⟨hF.tr q.1, q.2⟩, false, q.2.1⟩
  | inr y => exact ⟨⟨hF.tr q.1, q.2⟩, true, q.2.1⟩
theorem lies_in2 (go : Int32) {q k : Nat} (hq : q < 32) (hk : k < 32) (h : ¬ k = q) : lies (inS go (nI q)) (nI k) = lies go (nI k) := by
  rw [lies_in go hq hk, decide_eq_false h, Bool.or_false]
theorem lies_in1 (go : Int32) {q : Nat} (hq : q < 32) : lies (inS go (nI q)) (nI q) = true := by
  rw [lies_in go hq hq, decide_eq_true rfl, Bool.or_true]
theorem c_tellCost {Z : List (Option Nat)} {ext : List Ds} {M : Mm} {t : Nat → Int32} {n s : Nat} {D : Dr} (hT : CT t n M) (hL : CLd t n s (M 13)) (hK : tK t n s ≠ 4) (hs : s ≤ n) (hD : CD D M) (h0 : M 15 5 = 0) : Ct mX8_tellCost [.ref 15] (SS Z ext) M (clP t n (lnC t n (lkC t n D (nx t n s))) M) := by
  have hs1 := nx_le (t := t) hs
  have hs2 := nx_le (t := t) hs1
  have c1 := c_nextNumber (Z := Z) (ext := ext) (M := M) 0 30 (M 15 9) hT hL hK hs
  unfold lkC
  unfold numT at c1
  cases hN1 : numA t n 0 30 (nx t n s) with
  | inl e =>
    rw [hN1] at c1
    refine Ct.of (by decide) (Nat.le_of_ble_eq_true rfl) ?_
    refine x_aload_n dX8_tellCost_0 rfl ?_
    refine x_iconst (v := 0) dX8_tellCost_1 (by decide) ?_
    refine x_bipush (v := 30) dX8_tellCost_2 (by decide) ?_
    refine x_aload_n dX8_tellCost_4 rfl ?_
    refine x_geti fl_X8_70 dX8_tellCost_5 sf_15 rfl ?_
    refine x_cv mf_X8_nextNumber ml_X8_135 dX8_tellCost_8 rfl sf_15 rfl ⟨by decide, by decide⟩ (Nat.le_of_ble_eq_true rfl) ⟨rfl, rfl⟩ ⟨Nat.le_of_ble_eq_true rfl, Nat.le_of_ble_eq_true rfl⟩ (c1) (fun r M2 ⟨M1, hO1, hL1, hr, hM⟩ => ?_)
    subst hr; subst hM
    refine x_ifb_ne 16 dX8_tellCost_11 (by decide) (fun hc_ => absurd ((rfl).symm.trans hc_) Bool.false_ne_true) (fun _ => ?_)
    refine x_iconst (v := 0) dX8_tellCost_14 (by decide) ?_
    exact x_iret dX8_tellCost_15 rfl rfl (Nat.le_refl _) (Nat.le_refl _) ⟨rfl, (clE.of (Fl.on hO1) e : clE e M _ _)⟩
  | inr w =>
    rw [hN1] at c1
    obtain ⟨hk1, hrg, -⟩ := numA_r hN1
    obtain ⟨q, -, hq1, hq⟩ := rg_nat (a := 0) (b := 30) (by decide) (by decide) hrg
    subst hq
    have hlq := hD.2.2.2.2.2.1 q (by omega)
    dsimp only at c1 ⊢
    rw [nI_clamp (by omega)]
    by_cases hc0 : D.2.2.1 q = 0
    · rw [decide_eq_true hc0] at hlq ⊢
      rw [if_pos rfl]
      rw [hlq, if_neg (by decide)] at c1
      have fin : ∀ M1, On13 M M1 → CLd t n (nx t n s) (M1 13) → XW mX8_tellCost (Fc mX8_tellCost (fun r S' M' => S' = SS Z ext ∧ clP t n (lnC t n (match numA t n 1 9 (nx t n (nx t n s)) with
          | .inl e => .inl e
          | .inr v => .inr ((D.1, D.2.1, upd D.2.2.1 q v, D.2.2.2), nx t n (nx t n (nx t n s))))) M r M')) 0 0 (SS Z ext) (up2 M1 15 9 (inS (M1 15 9) (nI q))) 36 [some (.ref 15), some (.int (nI q))] [] := by
        intro M1 hO1 hL1
        have hF2 : Fl M (up2 M1 15 9 (inS (M1 15 9) (nI q))) := (Fl.on hO1).up _ (Or.inl rfl) (fun _ => by decide)
        have c2 := c_nextNumber (Z := Z) (ext := ext) (M := up2 M1 15 9 (inS (M1 15 9) (nI q))) 1 9 0 (hT.go hF2.1) hL1 (by rw [hk1]; decide) hs1
        rw [numT_0] at c2
        cases hN2 : numA t n 1 9 (nx t n (nx t n s)) with
        | inl e =>
          rw [hN2] at c2
          refine x_aload_n dX8_tellCost_36 rfl ?_
          refine x_iconst (v := 1) dX8_tellCost_37 (by decide) ?_
          refine x_bipush (v := 9) dX8_tellCost_38 (by decide) ?_
          refine x_iconst (v := 0) dX8_tellCost_40 (by decide) ?_
          refine x_cv mf_X8_nextNumber ml_X8_135 dX8_tellCost_41 rfl sf_15 rfl ⟨by decide, by decide⟩ (Nat.le_of_ble_eq_true rfl) ⟨rfl, rfl⟩ ⟨Nat.le_of_ble_eq_true rfl, Nat.le_of_ble_eq_true rfl⟩ (c2) (fun r M2 ⟨M3, hO3, hL3, hr, hM⟩ => ?_)
          subst hr; subst hM
          refine x_ifb_ne 49 dX8_tellCost_44 (by decide) (fun hc_ => absurd ((rfl).symm.trans hc_) Bool.false_ne_true) (fun _ => ?_)
          refine x_iconst (v := 0) dX8_tellCost_47 (by decide) ?_
          exact x_iret dX8_tellCost_48 rfl rfl (Nat.le_refl _) (Nat.le_refl _) ⟨rfl, (clE.of (hF2.tr (Fl.on hO3)) e : clE e M _ _)⟩
        | inr v =>
          rw [hN2] at c2
          have hk2 := (numA_r hN2).1
          have hv0 : ¬ v = 0 := fun h0 => by have := (numA_r hN2).2.1; rw [h0] at this; revert this; decide
          refine x_aload_n dX8_tellCost_36 rfl ?_
          refine x_iconst (v := 1) dX8_tellCost_37 (by decide) ?_
          refine x_bipush (v := 9) dX8_tellCost_38 (by decide) ?_
          refine x_iconst (v := 0) dX8_tellCost_40 (by decide) ?_
          refine x_cv mf_X8_nextNumber ml_X8_135 dX8_tellCost_41 rfl sf_15 rfl ⟨by decide, by decide⟩ (Nat.le_of_ble_eq_true rfl) ⟨rfl, rfl⟩ ⟨Nat.le_of_ble_eq_true rfl, Nat.le_of_ble_eq_true rfl⟩ (c2) (fun r M2 ⟨M3, hO3, hL3, hr, hM⟩ => ?_)
          subst hr; subst hM
          refine x_ifb_ne 49 dX8_tellCost_44 (by decide) (fun _ => ?_) (fun hc_ => absurd (hc_.symm.trans (rfl)) Bool.false_ne_true)
          refine x_aload_n dX8_tellCost_49 rfl ?_
          refine x_getr fl_X8_12 dX8_tellCost_50 sf_15 rfl ?_
          refine x_getr fl_X8_148 dX8_tellCost_53 sf_16 rfl ?_
          refine x_iload_n dX8_tellCost_56 rfl ?_
          refine x_aload_n dX8_tellCost_57 rfl ?_
          refine x_getr fl_X8_18 dX8_tellCost_58 sf_15 rfl ?_
          refine x_geti fl_X8_139 dX8_tellCost_61 sf_13 rfl ?_
          refine x_iast dX8_tellCost_64 sf_17 (q := q) rfl (by omega) (by decide) ?_
          skip
          have e23 : M2 13 4 = v := hL3.v hN2
          have hF3 : Fl M (up2 M2 17 q (M2 13 4)) := (hF2.tr (Fl.on hO3)).up _ (Or.inr (Or.inr (Or.inl rfl))) (fun h => by cases h)
          have hD3 : CD (D.1, D.2.1, upd D.2.2.1 q v, D.2.2.2) (up2 M2 17 q (M2 13 4)) := by
            have e15 : M2 15 = upd (M 15) 9 (inS (M 15 9) (nI q)) := by
              rw [hO3.1 15 (by decide)]
              show upd (M1 15) 9 (inS (M1 15 9) (nI q)) = _
              rw [hO1.1 15 (by decide)]
            have e17 : M2 17 = M 17 := (hO3.1 17 (by decide)).trans (hO1.1 17 (by decide))
            have e18 : M2 18 = M 18 := (hO3.1 18 (by decide)).trans (hO1.1 18 (by decide))
            obtain ⟨r1, r2, r3, r4, r5, r6, r7, r8, r9, r10, r11⟩ := hD
            unfold CD
            rw [show up2 M2 17 q (M2 13 4) 15 = upd (M 15) 9 (inS (M 15 9) (nI q)) from e15, show up2 M2 17 q (M2 13 4) 17 = upd (M 17) q v by rw [up2_s, e17, e23], show up2 M2 17 q (M2 13 4) 18 = M 18 from e18]
            refine ⟨r1, r2, r3, r4, r5, fun k hk => ?_, fun k hk => ?_, r8, r9, r10, ?_⟩
            · show lies (inS (M 15 9) (nI q)) (nI k) = !decide (upd D.2.2.1 q v k = 0)
              unfold upd
              by_cases hkq : k = q
              · subst hkq; rw [lies_in1 _ (by omega), if_pos rfl, decide_eq_false hv0]; rfl
              · rw [lies_in2 _ (by omega) (by omega) hkq, if_neg hkq]; exact r6 k hk
            · show upd (M 17) q v k = if upd D.2.2.1 q v k = 0 then 1 else upd D.2.2.1 q v k
              unfold upd
              by_cases hkq : k = q
              · rw [if_pos hkq, if_pos hkq, if_neg hv0]
              · rw [if_neg hkq, if_neg hkq]; exact r7 k hk
            · show lies (inS (M 15 9) (nI q)) (nI 31) = false
              rw [lies_in2 _ (by omega) (by omega) (by omega)]; exact r11
          have c3 := c_stopC (Z := Z) (ext := ext) (M := up2 M2 17 q (M2 13 4)) (t := t) (n := n) (s := nx t n (nx t n s)) (D := (D.1, D.2.1, upd D.2.2.1 q v, D.2.2.2)) (hT.go hF3.1) hL3 (by rw [hk2]; decide) hs2 hD3 (by show M2 15 5 = 0; rw [hO3.1 15 (by decide)]; show M1 15 5 = 0; rw [hO1.1 15 (by decide)]; exact h0)
          refine x_aload_n dX8_tellCost_65 rfl ?_
          refine x_cv mf_X8_nextStop ml_X8_142 dX8_tellCost_66 rfl sf_15 rfl ⟨by decide, by decide⟩ (Nat.le_of_ble_eq_true rfl) ⟨rfl, rfl⟩ ⟨Nat.le_of_ble_eq_true rfl, Nat.le_of_ble_eq_true rfl⟩ (c3) (fun r M4 q => ?_)
          obtain ⟨hq, b, hb⟩ := clP_pre hF3 q
          subst hb
          exact x_iret dX8_tellCost_69 rfl (nz_b _) (Nat.le_refl _) (Nat.le_refl _) ⟨rfl, hq⟩
      refine Ct.of (by decide) (Nat.le_of_ble_eq_true rfl) ?_
      refine x_aload_n dX8_tellCost_0 rfl ?_
      refine x_iconst (v := 0) dX8_tellCost_1 (by decide) ?_
      refine x_bipush (v := 30) dX8_tellCost_2 (by decide) ?_
      refine x_aload_n dX8_tellCost_4 rfl ?_
      refine x_geti fl_X8_70 dX8_tellCost_5 sf_15 rfl ?_
      refine x_cv mf_X8_nextNumber ml_X8_135 dX8_tellCost_8 rfl sf_15 rfl ⟨by decide, by decide⟩ (Nat.le_of_ble_eq_true rfl) ⟨rfl, rfl⟩ ⟨Nat.le_of_ble_eq_true rfl, Nat.le_of_ble_eq_true rfl⟩ (c1) (fun r M2 ⟨M1, hO1, hL1, hr, hM⟩ => ?_)
      subst hr; subst hM
      refine x_ifb_ne 16 dX8_tellCost_11 (by decide) (fun _ => ?_) (fun hc_ => absurd (hc_.symm.trans (rfl)) Bool.false_ne_true)
      refine x_aload_n dX8_tellCost_16 rfl ?_
      refine x_getr fl_X8_18 dX8_tellCost_17 sf_15 rfl ?_
      refine x_geti fl_X8_139 dX8_tellCost_20 sf_13 rfl ?_
      refine x_istore_n dX8_tellCost_23 (by decide) ?_
      refine x_aload_n dX8_tellCost_24 rfl ?_
      refine x_dup dX8_tellCost_25 rfl ?_
      refine x_geti fl_X8_70 dX8_tellCost_26 sf_15 rfl ?_
      refine x_iconst (v := 1) dX8_tellCost_29 (by decide) ?_
      refine x_iload_n dX8_tellCost_30 rfl ?_
      refine x_ishl dX8_tellCost_31 ?_
      refine x_ior dX8_tellCost_32 ?_
      refine x_put fl_X8_70 dX8_tellCost_33 sf_15 rfl rfl rfl ?_
      refine x_eq (M := up2 M2 15 9 (inS (M2 15 9) (nI q))) (by rw [hL1.v hN1]; rfl) rfl (by rw [hL1.v hN1]; rfl) rfl (fin _ hO1 hL1)
    · rw [decide_eq_false hc0] at hlq ⊢
      rw [if_neg (by decide)]
      rw [hlq, if_pos (by rfl)] at c1
      refine Ct.of (by decide) (Nat.le_of_ble_eq_true rfl) ?_
      refine x_aload_n dX8_tellCost_0 rfl ?_
      refine x_iconst (v := 0) dX8_tellCost_1 (by decide) ?_
      refine x_bipush (v := 30) dX8_tellCost_2 (by decide) ?_
      refine x_aload_n dX8_tellCost_4 rfl ?_
      refine x_geti fl_X8_70 dX8_tellCost_5 sf_15 rfl ?_
      refine x_cv mf_X8_nextNumber ml_X8_135 dX8_tellCost_8 rfl sf_15 rfl ⟨by decide, by decide⟩ (Nat.le_of_ble_eq_true rfl) ⟨rfl, rfl⟩ ⟨Nat.le_of_ble_eq_true rfl, Nat.le_of_ble_eq_true rfl⟩ (c1) (fun r M2 ⟨M1, hO1, hL1, hr, hM⟩ => ?_)
      subst hr; subst hM
      refine x_ifb_ne 16 dX8_tellCost_11 (by decide) (fun hc_ => absurd ((rfl).symm.trans hc_) Bool.false_ne_true) (fun _ => ?_)
      refine x_iconst (v := 0) dX8_tellCost_14 (by decide) ?_
      exact x_iret dX8_tellCost_15 rfl rfl (Nat.le_refl _) (Nat.le_refl _) ⟨rfl, (clE.of (Fl.on hO1) (4, nx t n s) : clE (4, nx t n s) M _ _)⟩
theorem c_tellSeen {Z : List (Option Nat)} {ext : List Ds} {M : Mm} {t : Nat → Int32} {n s : Nat} {D : Dr} (hT : CT t n M) (hL : CLd t n s (M 13)) (hK : tK t n s ≠ 4) (hs : s ≤ n) (hD : CD D M) (h0 : M 15 5 = 0) : Ct mX8_tellSeen [.ref 15] (SS Z ext) M (clP t n (lnC t n (lkS4 t n D (nx t n s))) M) := by
  have hs1 := nx_le (t := t) hs
  have hs2 := nx_le (t := t) hs1
  have c1 := c_nextNumber (Z := Z) (ext := ext) (M := M) 1 3 (M 15 11) hT hL hK hs
  unfold lkS4
  unfold numT at c1
  cases hN1 : numA t n 1 3 (nx t n s) with
  | inl e =>
    rw [hN1] at c1
    refine Ct.of (by decide) (Nat.le_of_ble_eq_true rfl) ?_
    refine x_aload_n dX8_tellSeen_0 rfl ?_
    refine x_iconst (v := 1) dX8_tellSeen_1 (by decide) ?_
    refine x_iconst (v := 3) dX8_tellSeen_2 (by decide) ?_
    refine x_aload_n dX8_tellSeen_3 rfl ?_
    refine x_geti fl_X8_76 dX8_tellSeen_4 sf_15 rfl ?_
    refine x_cv mf_X8_nextNumber ml_X8_135 dX8_tellSeen_7 rfl sf_15 rfl ⟨by decide, by decide⟩ (Nat.le_of_ble_eq_true rfl) ⟨rfl, rfl⟩ ⟨Nat.le_of_ble_eq_true rfl, Nat.le_of_ble_eq_true rfl⟩ (c1) (fun r M2 ⟨M1, hO1, hL1, hr, hM⟩ => ?_)
    subst hr; subst hM
    refine x_ifb_ne 15 dX8_tellSeen_10 (by decide) (fun hc_ => absurd ((rfl).symm.trans hc_) Bool.false_ne_true) (fun _ => ?_)
    refine x_iconst (v := 0) dX8_tellSeen_13 (by decide) ?_
    exact x_iret dX8_tellSeen_14 rfl rfl (Nat.le_refl _) (Nat.le_refl _) ⟨rfl, (clE.of (Fl.on hO1) e : clE e M _ _)⟩
  | inr w =>
    rw [hN1] at c1
    obtain ⟨hk1, hrg, -⟩ := numA_r hN1
    obtain ⟨q, -, hq1, hq⟩ := rg_nat (a := 1) (b := 3) (by decide) (by decide) hrg
    subst hq
    have hlq := hD.2.2.2.2.2.2.2.1 q (by omega)
    dsimp only at c1 ⊢
    rw [nI_clamp (by omega)]
    by_cases hc0 : D.2.2.2 q = -4
    · rw [decide_eq_true hc0] at hlq ⊢
      rw [if_pos rfl]
      rw [hlq, if_neg (by decide)] at c1
      have fin : ∀ M1, On13 M M1 → CLd t n (nx t n s) (M1 13) → XW mX8_tellSeen (Fc mX8_tellSeen (fun r S' M' => S' = SS Z ext ∧ clP t n (lnC t n (match numA t n 0 12 (nx t n (nx t n s)) with
          | .inl e => .inl e
          | .inr v => .inr ((D.1, D.2.1, D.2.2.1, upd D.2.2.2 q v), nx t n (nx t n (nx t n s))))) M r M')) 0 0 (SS Z ext) (up2 M1 15 11 (inS (M1 15 11) (nI q))) 35 [some (.ref 15), some (.int (nI q))] [] := by
        intro M1 hO1 hL1
        have hF2 : Fl M (up2 M1 15 11 (inS (M1 15 11) (nI q))) := (Fl.on hO1).up _ (Or.inl rfl) (fun _ => by decide)
        have c2 := c_nextNumber (Z := Z) (ext := ext) (M := up2 M1 15 11 (inS (M1 15 11) (nI q))) 0 12 0 (hT.go hF2.1) hL1 (by rw [hk1]; decide) hs1
        rw [numT_0] at c2
        cases hN2 : numA t n 0 12 (nx t n (nx t n s)) with
        | inl e =>
          rw [hN2] at c2
          refine x_aload_n dX8_tellSeen_35 rfl ?_
          refine x_iconst (v := 0) dX8_tellSeen_36 (by decide) ?_
          refine x_bipush (v := 12) dX8_tellSeen_37 (by decide) ?_
          refine x_iconst (v := 0) dX8_tellSeen_39 (by decide) ?_
          refine x_cv mf_X8_nextNumber ml_X8_135 dX8_tellSeen_40 rfl sf_15 rfl ⟨by decide, by decide⟩ (Nat.le_of_ble_eq_true rfl) ⟨rfl, rfl⟩ ⟨Nat.le_of_ble_eq_true rfl, Nat.le_of_ble_eq_true rfl⟩ (c2) (fun r M2 ⟨M3, hO3, hL3, hr, hM⟩ => ?_)
          subst hr; subst hM
          refine x_ifb_ne 48 dX8_tellSeen_43 (by decide) (fun hc_ => absurd ((rfl).symm.trans hc_) Bool.false_ne_true) (fun _ => ?_)
          refine x_iconst (v := 0) dX8_tellSeen_46 (by decide) ?_
          exact x_iret dX8_tellSeen_47 rfl rfl (Nat.le_refl _) (Nat.le_refl _) ⟨rfl, (clE.of (hF2.tr (Fl.on hO3)) e : clE e M _ _)⟩
        | inr v =>
          rw [hN2] at c2
          have hk2 := (numA_r hN2).1
          have hv0 : ¬ v = -4 := fun h0 => by have := (numA_r hN2).2.1; rw [h0] at this; revert this; decide
          refine x_aload_n dX8_tellSeen_35 rfl ?_
          refine x_iconst (v := 0) dX8_tellSeen_36 (by decide) ?_
          refine x_bipush (v := 12) dX8_tellSeen_37 (by decide) ?_
          refine x_iconst (v := 0) dX8_tellSeen_39 (by decide) ?_
          refine x_cv mf_X8_nextNumber ml_X8_135 dX8_tellSeen_40 rfl sf_15 rfl ⟨by decide, by decide⟩ (Nat.le_of_ble_eq_true rfl) ⟨rfl, rfl⟩ ⟨Nat.le_of_ble_eq_true rfl, Nat.le_of_ble_eq_true rfl⟩ (c2) (fun r M2 ⟨M3, hO3, hL3, hr, hM⟩ => ?_)
          subst hr; subst hM
          refine x_ifb_ne 48 dX8_tellSeen_43 (by decide) (fun _ => ?_) (fun hc_ => absurd (hc_.symm.trans (rfl)) Bool.false_ne_true)
          refine x_aload_n dX8_tellSeen_48 rfl ?_
          refine x_getr fl_X8_12 dX8_tellSeen_49 sf_15 rfl ?_
          refine x_getr fl_X8_152 dX8_tellSeen_52 sf_16 rfl ?_
          refine x_iload_n dX8_tellSeen_55 rfl ?_
          refine x_aload_n dX8_tellSeen_56 rfl ?_
          refine x_getr fl_X8_18 dX8_tellSeen_57 sf_15 rfl ?_
          refine x_geti fl_X8_139 dX8_tellSeen_60 sf_13 rfl ?_
          refine x_iast dX8_tellSeen_63 sf_18 (q := q) rfl (by omega) (by decide) ?_
          skip
          have e23 : M2 13 4 = v := hL3.v hN2
          have hF3 : Fl M (up2 M2 18 q (M2 13 4)) := (hF2.tr (Fl.on hO3)).up _ (Or.inr (Or.inr (Or.inr rfl))) (fun h => by cases h)
          have hD3 : CD (D.1, D.2.1, D.2.2.1, upd D.2.2.2 q v) (up2 M2 18 q (M2 13 4)) := by
            have e15 : M2 15 = upd (M 15) 11 (inS (M 15 11) (nI q)) := by
              rw [hO3.1 15 (by decide)]
              show upd (M1 15) 11 (inS (M1 15 11) (nI q)) = _
              rw [hO1.1 15 (by decide)]
            have e17 : M2 17 = M 17 := (hO3.1 17 (by decide)).trans (hO1.1 17 (by decide))
            have e18 : M2 18 = M 18 := (hO3.1 18 (by decide)).trans (hO1.1 18 (by decide))
            obtain ⟨r1, r2, r3, r4, r5, r6, r7, r8, r9, r10, r11⟩ := hD
            unfold CD
            rw [show up2 M2 18 q (M2 13 4) 15 = upd (M 15) 11 (inS (M 15 11) (nI q)) from e15, show up2 M2 18 q (M2 13 4) 18 = upd (M 18) q v by rw [up2_s, e18, e23], show up2 M2 18 q (M2 13 4) 17 = M 17 from e17]
            refine ⟨r1, r2, r3, r4, r5, r6, r7, fun k hk => ?_, fun k hk => ?_, r10, r11⟩
            · show lies (inS (M 15 11) (nI q)) (nI k) = !decide (upd D.2.2.2 q v k = -4)
              unfold upd
              by_cases hkq : k = q
              · subst hkq; rw [lies_in1 _ (by omega), if_pos rfl, decide_eq_false hv0]; rfl
              · rw [lies_in2 _ (by omega) (by omega) hkq, if_neg hkq]; exact r8 k hk
            · show upd (M 18) q v k = upd D.2.2.2 q v k
              unfold upd
              by_cases hkq : k = q
              · rw [if_pos hkq, if_pos hkq]
              · rw [if_neg hkq, if_neg hkq]; exact r9 k hk
          have c3 := c_stopC (Z := Z) (ext := ext) (M := up2 M2 18 q (M2 13 4)) (t := t) (n := n) (s := nx t n (nx t n s)) (D := (D.1, D.2.1, D.2.2.1, upd D.2.2.2 q v)) (hT.go hF3.1) hL3 (by rw [hk2]; decide) hs2 hD3 (by show M2 15 5 = 0; rw [hO3.1 15 (by decide)]; show M1 15 5 = 0; rw [hO1.1 15 (by decide)]; exact h0)
          refine x_aload_n dX8_tellSeen_64 rfl ?_
          refine x_cv mf_X8_nextStop ml_X8_142 dX8_tellSeen_65 rfl sf_15 rfl ⟨by decide, by decide⟩ (Nat.le_of_ble_eq_true rfl) ⟨rfl, rfl⟩ ⟨Nat.le_of_ble_eq_true rfl, Nat.le_of_ble_eq_true rfl⟩ (c3) (fun r M4 q => ?_)
          obtain ⟨hq, b, hb⟩ := clP_pre hF3 q
          subst hb
          exact x_iret dX8_tellSeen_68 rfl (nz_b _) (Nat.le_refl _) (Nat.le_refl _) ⟨rfl, hq⟩
      refine Ct.of (by decide) (Nat.le_of_ble_eq_true rfl) ?_
      refine x_aload_n dX8_tellSeen_0 rfl ?_
      refine x_iconst (v := 1) dX8_tellSeen_1 (by decide) ?_
      refine x_iconst (v := 3) dX8_tellSeen_2 (by decide) ?_
      refine x_aload_n dX8_tellSeen_3 rfl ?_
      refine x_geti fl_X8_76 dX8_tellSeen_4 sf_15 rfl ?_
      refine x_cv mf_X8_nextNumber ml_X8_135 dX8_tellSeen_7 rfl sf_15 rfl ⟨by decide, by decide⟩ (Nat.le_of_ble_eq_true rfl) ⟨rfl, rfl⟩ ⟨Nat.le_of_ble_eq_true rfl, Nat.le_of_ble_eq_true rfl⟩ (c1) (fun r M2 ⟨M1, hO1, hL1, hr, hM⟩ => ?_)
      subst hr; subst hM
      refine x_ifb_ne 15 dX8_tellSeen_10 (by decide) (fun _ => ?_) (fun hc_ => absurd (hc_.symm.trans (rfl)) Bool.false_ne_true)
      refine x_aload_n dX8_tellSeen_15 rfl ?_
      refine x_getr fl_X8_18 dX8_tellSeen_16 sf_15 rfl ?_
      refine x_geti fl_X8_139 dX8_tellSeen_19 sf_13 rfl ?_
      refine x_istore_n dX8_tellSeen_22 (by decide) ?_
      refine x_aload_n dX8_tellSeen_23 rfl ?_
      refine x_dup dX8_tellSeen_24 rfl ?_
      refine x_geti fl_X8_76 dX8_tellSeen_25 sf_15 rfl ?_
      refine x_iconst (v := 1) dX8_tellSeen_28 (by decide) ?_
      refine x_iload_n dX8_tellSeen_29 rfl ?_
      refine x_ishl dX8_tellSeen_30 ?_
      refine x_ior dX8_tellSeen_31 ?_
      refine x_put fl_X8_76 dX8_tellSeen_32 sf_15 rfl rfl rfl ?_
      refine x_eq (M := up2 M2 15 11 (inS (M2 15 11) (nI q))) (by rw [hL1.v hN1]; rfl) rfl (by rw [hL1.v hN1]; rfl) rfl (fin _ hO1 hL1)
    · rw [decide_eq_false hc0] at hlq ⊢
      rw [if_neg (by decide)]
      rw [hlq, if_pos (by rfl)] at c1
      refine Ct.of (by decide) (Nat.le_of_ble_eq_true rfl) ?_
      refine x_aload_n dX8_tellSeen_0 rfl ?_
      refine x_iconst (v := 1) dX8_tellSeen_1 (by decide) ?_
      refine x_iconst (v := 3) dX8_tellSeen_2 (by decide) ?_
      refine x_aload_n dX8_tellSeen_3 rfl ?_
      refine x_geti fl_X8_76 dX8_tellSeen_4 sf_15 rfl ?_
      refine x_cv mf_X8_nextNumber ml_X8_135 dX8_tellSeen_7 rfl sf_15 rfl ⟨by decide, by decide⟩ (Nat.le_of_ble_eq_true rfl) ⟨rfl, rfl⟩ ⟨Nat.le_of_ble_eq_true rfl, Nat.le_of_ble_eq_true rfl⟩ (c1) (fun r M2 ⟨M1, hO1, hL1, hr, hM⟩ => ?_)
      subst hr; subst hM
      refine x_ifb_ne 15 dX8_tellSeen_10 (by decide) (fun hc_ => absurd ((rfl).symm.trans hc_) Bool.false_ne_true) (fun _ => ?_)
      refine x_iconst (v := 0) dX8_tellSeen_13 (by decide) ?_
      exact x_iret dX8_tellSeen_14 rfl rfl (Nat.le_refl _) (Nat.le_refl _) ⟨rfl, (clE.of (Fl.on hO1) (4, nx t n s) : clE (4, nx t n s) M _ _)⟩
