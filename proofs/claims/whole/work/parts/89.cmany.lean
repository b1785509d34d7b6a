/-! ===== the class: tellGone, tellSizes ===== -/
abbrev tgQ (Z : List (Option Nat)) (ext : List Ds) (X : Ex (Dr × Nat)) (t : Nat → Int32) (n : Nat) (M : Mm) : Fn := Fc mX8_tellGone (fun r' S' M' => S' = SS Z ext ∧ clP t n X M r' M')
theorem tg_e {Z : List (Option Nat)} {ext : List Ds} {t : Nat → Int32} {n : Nat} {e : Int32 × Nat} {M M1 : Mm} {v : Int32} (he : ¬ e.1 = 0) (hF : Fl M M1) : XW mX8_tellGone (tgQ Z ext (.inl e) t n M) 0 0 (SS Z ext) (erM M1 e) 14 [some (.ref 15), some (.int (b2i false)), some (.int v)] [] := by
  have hF2 := hF.er e
  refine x_iload_n dX8_tellGone_14 rfl ?_
  refine x_sipush (v := 320) dX8_tellGone_15 (by decide) ?_
  refine x_icmp_ge 61 dX8_tellGone_18 (by decide) (fun h18 => ?_) (fun h18 => ?_)
  · refine x_aload_n dX8_tellGone_61 rfl ?_
    refine x_geti fl_X8_57 dX8_tellGone_62 sf_15 rfl ?_
    refine x_if_ne 72 dX8_tellGone_65 (by decide) (fun _ => ?_) (fun hc_ => absurd hc_ (he))
    refine x_iconst (v := 0) dX8_tellGone_72 (by decide) ?_
    exact x_iret dX8_tellGone_73 rfl rfl (Nat.le_refl _) (Nat.le_refl _) ⟨rfl, (⟨hF2, rfl, rfl, rfl⟩ : clE e M _ _)⟩
  · refine x_iload_n dX8_tellGone_21 rfl ?_
    refine x_ifb_eq 61 dX8_tellGone_22 (by decide) (fun _ => ?_) (fun hc_ => absurd ((rfl).symm.trans hc_) Bool.false_ne_true)
    refine x_aload_n dX8_tellGone_61 rfl ?_
    refine x_geti fl_X8_57 dX8_tellGone_62 sf_15 rfl ?_
    refine x_if_ne 72 dX8_tellGone_65 (by decide) (fun _ => ?_) (fun hc_ => absurd hc_ (he))
    refine x_iconst (v := 0) dX8_tellGone_72 (by decide) ?_
    exact x_iret dX8_tellGone_73 rfl rfl (Nat.le_refl _) (Nat.le_refl _) ⟨rfl, (⟨hF2, rfl, rfl, rfl⟩ : clE e M _ _)⟩
theorem tg_o {Z : List (Option Nat)} {ext : List Ds} {t : Nat → Int32} {n s : Nat} {D : Dr} {M M1 : Mm} {v : Int32} (hF : Fl M M1) (hD : CD D M1) (hL : CLd t n s (M1 13)) (h0 : M1 15 5 = 0) : XW mX8_tellGone (tgQ Z ext (.inr (D, s)) t n M) 0 0 (SS Z ext) M1 14 [some (.ref 15), some (.int (b2i false)), some (.int v)] [] := by
  refine x_iload_n dX8_tellGone_14 rfl ?_
  refine x_sipush (v := 320) dX8_tellGone_15 (by decide) ?_
  refine x_icmp_ge 61 dX8_tellGone_18 (by decide) (fun h18 => ?_) (fun h18 => ?_)
  · refine x_aload_n dX8_tellGone_61 rfl ?_
    refine x_geti fl_X8_57 dX8_tellGone_62 sf_15 rfl ?_
    refine x_if_ne 72 dX8_tellGone_65 (by decide) (fun hc_ => absurd (h0) hc_) (fun _ => ?_)
    refine x_iconst (v := 1) dX8_tellGone_68 (by decide) ?_
    refine x_goto 73 dX8_tellGone_69 (by decide) ?_
    exact x_iret dX8_tellGone_73 rfl rfl (Nat.le_refl _) (Nat.le_refl _) ⟨rfl, (⟨hF, rfl, hD, hL, h0⟩ : clO t n D s M _ _)⟩
  · refine x_iload_n dX8_tellGone_21 rfl ?_
    refine x_ifb_eq 61 dX8_tellGone_22 (by decide) (fun _ => ?_) (fun hc_ => absurd ((rfl).symm.trans hc_) Bool.false_ne_true)
    refine x_aload_n dX8_tellGone_61 rfl ?_
    refine x_geti fl_X8_57 dX8_tellGone_62 sf_15 rfl ?_
    refine x_if_ne 72 dX8_tellGone_65 (by decide) (fun hc_ => absurd (h0) hc_) (fun _ => ?_)
    refine x_iconst (v := 1) dX8_tellGone_68 (by decide) ?_
    refine x_goto 73 dX8_tellGone_69 (by decide) ?_
    exact x_iret dX8_tellGone_73 rfl rfl (Nat.le_refl _) (Nat.le_refl _) ⟨rfl, (⟨hF, rfl, hD, hL, h0⟩ : clO t n D s M _ _)⟩
theorem tg_at {Z : List (Option Nat)} {ext : List Ds} {t : Nat → Int32} {n : Nat} {M : Mm} : ∀ (f : Nat) (D : Dr) (s i : Nat) (v : Int32) (M1 : Mm), n - s < f → CT t n M1 → CLd t n s (M1 13) → numA t n 0 30 s = .inr v → lies D.2.1.1 v = false → s ≤ n → CD D M1 → M1 15 5 = 0 → Fl M M1 → i ≤ s → XW mX8_tellGone (tgQ Z ext (lnC t n (lkOf t n f D s)) t n M) 0 0 (SS Z ext) M1 14 [some (.ref 15), some (.int (b2i true)), some (.int (nI i))] [] := by
  intro f
  induction f with
  | zero => intro D s i v M1 h; omega
  | succ f ih =>
    intro D s i v M1 hf hT hL hN hli hs hD h0 hF hi
    obtain ⟨hK2, hrg, -⟩ := numA_r hN
    obtain ⟨q, hq0, hq1, hq⟩ := rg_nat (a := 0) (b := 30) (by decide) (by decide) hrg
    have hsn : s < n := tK_in (by rw [hK2]; decide)
    have hn := hT.2.2
    have hnx := nx_gt (t := t) hsn
    have hnl := nx_le (t := t) hs
    have hv : M1 13 4 = v := hL.v hN
    have h8 : M1 15 8 = D.2.1.1 := hD.2.2.2.1
    rw [lkOf_s, hN]
    dsimp only
    rw [hli, if_neg (by decide)]
    have hF1 : Fl M (up2 M1 15 8 (inS (M1 15 8) v)) := hF.up _ (Or.inl rfl) (fun _ => by decide)
    have hX8 : up2 M1 15 8 (inS (M1 15 8) v) 15 8 = inS D.2.1.1 v := by rw [← h8]; rfl
    have hD1 : CD (D.1, (inS D.2.1.1 v, D.2.1.2), D.2.2) (up2 M1 15 8 (inS (M1 15 8) v)) := by
      obtain ⟨r1, r2, r3, r4, r5, r6, r7, r8, r9, r10, r11⟩ := hD
      exact ⟨r1, r2, r3, by rw [← r4]; rfl, r5, r6, r7, r8, r9, (by show lies (inS (M1 15 8) v) (nI 31) = false; rw [hq, lies_in2 _ (by omega) (by omega) (by omega)]; exact r10), r11⟩
    have hT1 : CT t n (up2 M1 15 8 (inS (M1 15 8) v)) := ⟨hT.1, hT.2⟩
    have h01 : up2 M1 15 8 (inS (M1 15 8) v) 15 5 = 0 := h0
    have hL1 : CLd t n s (up2 M1 15 8 (inS (M1 15 8) v) 13) := hL
    have hup : up2 M1 15 8 (M1 15 8 ||| ((1 : Int32) <<< (M1 13 4 &&& 31))) = up2 M1 15 8 (inS (M1 15 8) v) := by rw [hv]; rfl
    generalize up2 M1 15 8 (inS (M1 15 8) v) = X at hF1 hX8 hD1 hT1 h01 hL1 hup
    have cn := c_moreNumbers (Z := Z) (ext := ext) (M := X) (t := t) (n := n) (s := s) 0 30 (inS D.2.1.1 v) hT1 hL1 (by rw [hK2]; decide) hs
    unfold mnP at cn
    have walk : (∀ M2, On13 X M2 → CLd t n (nx t n s) (M2 13) → ∀ r M3, (if tK t n (nx t n s) = 3 then r = some (.int (b2i false)) ∧ M3 = M2 else inP (numT t n 0 30 (inS D.2.1.1 v) (nx t n s)) M2 r M3) → ∃ b : Bool, r = some (.int (b2i b)) ∧ XW mX8_tellGone (tgQ Z ext (lnC t n (if tK t n (nx t n s) = 2 then lkOf t n f (D.1, (inS D.2.1.1 v, D.2.1.2), D.2.2) (nx t n s) else .inr ((D.1, (inS D.2.1.1 v, D.2.1.2), D.2.2), nx t n s))) t n M) 0 0 (SS Z ext) M3 14 [some (.ref 15), some (.int (b2i b)), some (.int (nI (i + 1)))] []) → XW mX8_tellGone (tgQ Z ext (lnC t n (if tK t n (nx t n s) = 2 then lkOf t n f (D.1, (inS D.2.1.1 v, D.2.1.2), D.2.2) (nx t n s) else .inr ((D.1, (inS D.2.1.1 v, D.2.1.2), D.2.2), nx t n s))) t n M) 0 0 (SS Z ext) M1 14 [some (.ref 15), some (.int (b2i true)), some (.int (nI i))] [] := by
      intro hw
      rw [← nI_1 i] at hw
      refine x_iload_n dX8_tellGone_14 rfl ?_
      refine x_sipush (v := 320) dX8_tellGone_15 (by decide) ?_
      refine x_icmp_ge 61 dX8_tellGone_18 (by decide) (fun hc_ => absurd hc_ (nI_ge (a := i) (b := 320) (by omega) (by decide))) (fun _ => ?_)
      refine x_iload_n dX8_tellGone_21 rfl ?_
      refine x_ifb_eq 61 dX8_tellGone_22 (by decide) (fun hc_ => absurd (hc_.symm.trans (rfl)) Bool.false_ne_true) (fun _ => ?_)
      refine x_aload_n dX8_tellGone_25 rfl ?_
      refine x_dup dX8_tellGone_26 rfl ?_
      refine x_geti fl_X8_67 dX8_tellGone_27 sf_15 rfl ?_
      refine x_iconst (v := 1) dX8_tellGone_30 (by decide) ?_
      refine x_aload_n dX8_tellGone_31 rfl ?_
      refine x_getr fl_X8_18 dX8_tellGone_32 sf_15 rfl ?_
      refine x_geti fl_X8_139 dX8_tellGone_35 sf_13 rfl ?_
      refine x_ishl dX8_tellGone_38 ?_
      refine x_ior dX8_tellGone_39 ?_
      refine x_put fl_X8_67 dX8_tellGone_40 sf_15 rfl rfl rfl ?_
      rw [hup]
      refine x_aload_n dX8_tellGone_43 rfl ?_
      refine x_iconst (v := 0) dX8_tellGone_44 (by decide) ?_
      refine x_bipush (v := 30) dX8_tellGone_45 (by decide) ?_
      refine x_aload_n dX8_tellGone_47 rfl ?_
      refine x_geti fl_X8_67 dX8_tellGone_48 sf_15 rfl ?_
      rw [hX8]
      refine x_cv mf_X8_moreNumbers ml_X8_145 dX8_tellGone_51 rfl sf_15 rfl ⟨by decide, by decide⟩ (Nat.le_of_ble_eq_true rfl) ⟨rfl, rfl⟩ ⟨Nat.le_of_ble_eq_true rfl, Nat.le_of_ble_eq_true rfl⟩ (cn) (fun r M3 ⟨M2, hO2, hL2, hz⟩ => ?_)
      obtain ⟨b, hb, hx⟩ := hw M2 hO2 hL2 r M3 hz
      subst hb
      refine x_istore_n dX8_tellGone_54 (by decide) ?_
      refine x_iinc1 dX8_tellGone_55 rfl (by decide) ?_
      refine x_goto 14 dX8_tellGone_58 (by decide) ?_
      exact hx
    refine walk (fun M2 hO2 hL2 r M3 hz => ?_)
    have hF2 := hF1.tr (Fl.on hO2)
    have hD2 := hD1.on hO2
    have h02 : M2 15 5 = 0 := by rw [hO2.1 15 (by decide)]; exact h01
    by_cases h3 : tK t n (nx t n s) = 3
    · rw [if_pos h3] at hz
      obtain ⟨hr, hM⟩ := hz
      subst hM
      refine ⟨false, hr, ?_⟩
      rw [if_neg (by rw [h3]; decide)]
      unfold lnC
      dsimp only
      rw [if_pos h3]
      exact tg_o hF2 hD2 hL2 h02
    · rw [if_neg h3] at hz
      by_cases h2 : tK t n (nx t n s) = 2
      · rw [if_pos h2]
        obtain ⟨g, rfl⟩ : ∃ g, f = g + 1 := ⟨f - 1, by omega⟩
        unfold numT at hz
        cases hN2 : numA t n 0 30 (nx t n s) with
        | inl e =>
          rw [hN2] at hz
          dsimp only at hz
          obtain ⟨hr, hM⟩ := hz
          subst hM
          refine ⟨false, hr, ?_⟩
          rw [lkOf_s, hN2]
          have he : ¬ e.1 = 0 := by
            unfold numA at hN2
            rw [if_pos h2] at hN2
            split at hN2
            · cases hN2
            · cases hN2; exact (show ¬ (3 : Int32) = 0 by decide)
          exact tg_e he hF2
        | inr w =>
          rw [hN2] at hz
          dsimp only at hz
          cases hl2 : lies (inS D.2.1.1 v) w with
          | true =>
            rw [hl2, if_pos rfl] at hz
            obtain ⟨hr, hM⟩ := hz
            subst hM
            refine ⟨false, hr, ?_⟩
            rw [lkOf_s, hN2]
            dsimp only
            rw [hl2, if_pos rfl]
            exact tg_e (e := (4, nx t n s)) (show ¬ (4 : Int32) = 0 by decide) hF2
          | false =>
            rw [hl2, if_neg (by decide)] at hz
            obtain ⟨hr, hM⟩ := hz
            subst hM
            exact ⟨true, hr, ih (D.1, (inS D.2.1.1 v, D.2.1.2), D.2.2) (nx t n s) (i + 1) w M3 (by omega) (hT1.go (Ft.on hO2)) hL2 hN2 hl2 hnl hD2 h02 hF2 (by omega)⟩
      · rw [if_neg h2]
        have hnt : numT t n 0 30 (inS D.2.1.1 v) (nx t n s) = .inl (mis (tK t n (nx t n s)), nx t n s) := by
          unfold numT numA
          rw [if_neg h2]
        rw [hnt] at hz
        obtain ⟨hr, hM⟩ := hz
        subst hM
        refine ⟨false, hr, ?_⟩
        unfold lnC
        dsimp only
        rw [if_neg h3]
        exact tg_e (pos_ne (mis_pos _)) hF2
theorem c_tellGone {Z : List (Option Nat)} {ext : List Ds} {M : Mm} {t : Nat → Int32} {n s : Nat} {D : Dr} (hT : CT t n M) (hL : CLd t n s (M 13)) (hK : tK t n s ≠ 4) (hs : s ≤ n) (hD : CD D M) (h0 : M 15 5 = 0) : Ct mX8_tellGone [.ref 15] (SS Z ext) M (clP t n (lnC t n (lkOf t n 330 D (nx t n s))) M) := by
  have hs1 := nx_le (t := t) hs
  have hn := hT.2.2
  have c1 := c_nextNumber (Z := Z) (ext := ext) (M := M) 0 30 (M 15 8) hT hL hK hs
  have h8 : M 15 8 = D.2.1.1 := hD.2.2.2.1
  unfold numT at c1
  cases hN1 : numA t n 0 30 (nx t n s) with
  | inl e =>
    rw [hN1] at c1
    have he : ¬ e.1 = 0 := by
      unfold numA at hN1
      split at hN1
      · split at hN1
        · cases hN1
        · cases hN1; exact (show ¬ (3 : Int32) = 0 by decide)
      · cases hN1; exact pos_ne (mis_pos _)
    have hlk : lkOf t n 330 D (nx t n s) = .inl e := by rw [show (330 : Nat) = 329 + 1 from rfl, lkOf_s, hN1]
    rw [hlk]
    refine Ct.of (by decide) (Nat.le_of_ble_eq_true rfl) ?_
    refine x_aload_n dX8_tellGone_0 rfl ?_
    refine x_iconst (v := 0) dX8_tellGone_1 (by decide) ?_
    refine x_bipush (v := 30) dX8_tellGone_2 (by decide) ?_
    refine x_aload_n dX8_tellGone_4 rfl ?_
    refine x_geti fl_X8_67 dX8_tellGone_5 sf_15 rfl ?_
    refine x_cv mf_X8_nextNumber ml_X8_135 dX8_tellGone_8 rfl sf_15 rfl ⟨by decide, by decide⟩ (Nat.le_of_ble_eq_true rfl) ⟨rfl, rfl⟩ ⟨Nat.le_of_ble_eq_true rfl, Nat.le_of_ble_eq_true rfl⟩ (c1) (fun r M2 ⟨M1, hO1, hL1, hr, hM⟩ => ?_)
    subst hr; subst hM
    refine x_istore_n dX8_tellGone_11 (by decide) ?_
    refine x_iconst (v := 0) dX8_tellGone_12 (by decide) ?_
    refine x_istore_n dX8_tellGone_13 (by decide) ?_
    exact tg_e he (Fl.on hO1)
  | inr v =>
    rw [hN1] at c1
    dsimp only at c1
    rw [h8] at c1
    cases hli : lies D.2.1.1 v with
    | true =>
      rw [hli, if_pos rfl] at c1
      have hlk : lkOf t n 330 D (nx t n s) = .inl (4, nx t n s) := by
        rw [show (330 : Nat) = 329 + 1 from rfl, lkOf_s, hN1]
        dsimp only
        rw [hli, if_pos rfl]
      rw [hlk]
      refine Ct.of (by decide) (Nat.le_of_ble_eq_true rfl) ?_
      refine x_aload_n dX8_tellGone_0 rfl ?_
      refine x_iconst (v := 0) dX8_tellGone_1 (by decide) ?_
      refine x_bipush (v := 30) dX8_tellGone_2 (by decide) ?_
      refine x_aload_n dX8_tellGone_4 rfl ?_
      refine x_geti fl_X8_67 dX8_tellGone_5 sf_15 rfl ?_
      rw [h8]
      refine x_cv mf_X8_nextNumber ml_X8_135 dX8_tellGone_8 rfl sf_15 rfl ⟨by decide, by decide⟩ (Nat.le_of_ble_eq_true rfl) ⟨rfl, rfl⟩ ⟨Nat.le_of_ble_eq_true rfl, Nat.le_of_ble_eq_true rfl⟩ (c1) (fun r M2 ⟨M1, hO1, hL1, hr, hM⟩ => ?_)
      subst hr; subst hM
      refine x_istore_n dX8_tellGone_11 (by decide) ?_
      refine x_iconst (v := 0) dX8_tellGone_12 (by decide) ?_
      refine x_istore_n dX8_tellGone_13 (by decide) ?_
      exact tg_e (e := (4, nx t n s)) (show ¬ (4 : Int32) = 0 by decide) (Fl.on hO1)
    | false =>
      rw [hli, if_neg (by decide)] at c1
      have fin := fun M1 a1 a2 a3 a4 a5 => tg_at (Z := Z) (ext := ext) (t := t) (n := n) (M := M) 330 D (nx t n s) 0 v M1 (by omega) a1 a2 hN1 hli hs1 a3 a4 a5 (Nat.zero_le _)
      refine Ct.of (by decide) (Nat.le_of_ble_eq_true rfl) ?_
      refine x_aload_n dX8_tellGone_0 rfl ?_
      refine x_iconst (v := 0) dX8_tellGone_1 (by decide) ?_
      refine x_bipush (v := 30) dX8_tellGone_2 (by decide) ?_
      refine x_aload_n dX8_tellGone_4 rfl ?_
      refine x_geti fl_X8_67 dX8_tellGone_5 sf_15 rfl ?_
      rw [h8]
      refine x_cv mf_X8_nextNumber ml_X8_135 dX8_tellGone_8 rfl sf_15 rfl ⟨by decide, by decide⟩ (Nat.le_of_ble_eq_true rfl) ⟨rfl, rfl⟩ ⟨Nat.le_of_ble_eq_true rfl, Nat.le_of_ble_eq_true rfl⟩ (c1) (fun r M2 ⟨M1, hO1, hL1, hr, hM⟩ => ?_)
      subst hr; subst hM
      refine x_istore_n dX8_tellGone_11 (by decide) ?_
      refine x_iconst (v := 0) dX8_tellGone_12 (by decide) ?_
      refine x_istore_n dX8_tellGone_13 (by decide) ?_
      exact fin _ (hT.go (Ft.on hO1)) hL1 (hD.on hO1) (by rw [hO1.1 15 (by decide)]; exact h0) (Fl.on hO1)
abbrev tzQ (Z : List (Option Nat)) (ext : List Ds) (X : Ex (Dr × Nat)) (t : Nat → Int32) (n : Nat) (M : Mm) : Fn := Fc mX8_tellSizes (fun r' S' M' => S' = SS Z ext ∧ clP t n X M r' M')
theorem tz_e {Z : List (Option Nat)} {ext : List Ds} {t : Nat → Int32} {n : Nat} {e : Int32 × Nat} {M M1 : Mm} {v : Int32} (he : ¬ e.1 = 0) (hF : Fl M M1) : XW mX8_tellSizes (tzQ Z ext (.inl e) t n M) 0 0 (SS Z ext) (erM M1 e) 13 [some (.ref 15), some (.int (b2i false)), some (.int v)] [] := by
  have hF2 := hF.er e
  refine x_iload_n dX8_tellSizes_13 rfl ?_
  refine x_sipush (v := 320) dX8_tellSizes_14 (by decide) ?_
  refine x_icmp_ge 59 dX8_tellSizes_17 (by decide) (fun h17 => ?_) (fun h17 => ?_)
  · refine x_aload_n dX8_tellSizes_59 rfl ?_
    refine x_geti fl_X8_57 dX8_tellSizes_60 sf_15 rfl ?_
    refine x_if_ne 70 dX8_tellSizes_63 (by decide) (fun _ => ?_) (fun hc_ => absurd hc_ (he))
    refine x_iconst (v := 0) dX8_tellSizes_70 (by decide) ?_
    exact x_iret dX8_tellSizes_71 rfl rfl (Nat.le_refl _) (Nat.le_refl _) ⟨rfl, (⟨hF2, rfl, rfl, rfl⟩ : clE e M _ _)⟩
  · refine x_iload_n dX8_tellSizes_20 rfl ?_
    refine x_ifb_eq 59 dX8_tellSizes_21 (by decide) (fun _ => ?_) (fun hc_ => absurd ((rfl).symm.trans hc_) Bool.false_ne_true)
    refine x_aload_n dX8_tellSizes_59 rfl ?_
    refine x_geti fl_X8_57 dX8_tellSizes_60 sf_15 rfl ?_
    refine x_if_ne 70 dX8_tellSizes_63 (by decide) (fun _ => ?_) (fun hc_ => absurd hc_ (he))
    refine x_iconst (v := 0) dX8_tellSizes_70 (by decide) ?_
    exact x_iret dX8_tellSizes_71 rfl rfl (Nat.le_refl _) (Nat.le_refl _) ⟨rfl, (⟨hF2, rfl, rfl, rfl⟩ : clE e M _ _)⟩
theorem tz_o {Z : List (Option Nat)} {ext : List Ds} {t : Nat → Int32} {n s : Nat} {D : Dr} {M M1 : Mm} {v : Int32} (hF : Fl M M1) (hD : CD D M1) (hL : CLd t n s (M1 13)) (h0 : M1 15 5 = 0) : XW mX8_tellSizes (tzQ Z ext (.inr (D, s)) t n M) 0 0 (SS Z ext) M1 13 [some (.ref 15), some (.int (b2i false)), some (.int v)] [] := by
  refine x_iload_n dX8_tellSizes_13 rfl ?_
  refine x_sipush (v := 320) dX8_tellSizes_14 (by decide) ?_
  refine x_icmp_ge 59 dX8_tellSizes_17 (by decide) (fun h17 => ?_) (fun h17 => ?_)
  · refine x_aload_n dX8_tellSizes_59 rfl ?_
    refine x_geti fl_X8_57 dX8_tellSizes_60 sf_15 rfl ?_
    refine x_if_ne 70 dX8_tellSizes_63 (by decide) (fun hc_ => absurd (h0) hc_) (fun _ => ?_)
    refine x_iconst (v := 1) dX8_tellSizes_66 (by decide) ?_
    refine x_goto 71 dX8_tellSizes_67 (by decide) ?_
    exact x_iret dX8_tellSizes_71 rfl rfl (Nat.le_refl _) (Nat.le_refl _) ⟨rfl, (⟨hF, rfl, hD, hL, h0⟩ : clO t n D s M _ _)⟩
  · refine x_iload_n dX8_tellSizes_20 rfl ?_
    refine x_ifb_eq 59 dX8_tellSizes_21 (by decide) (fun _ => ?_) (fun hc_ => absurd ((rfl).symm.trans hc_) Bool.false_ne_true)
    refine x_aload_n dX8_tellSizes_59 rfl ?_
    refine x_geti fl_X8_57 dX8_tellSizes_60 sf_15 rfl ?_
    refine x_if_ne 70 dX8_tellSizes_63 (by decide) (fun hc_ => absurd (h0) hc_) (fun _ => ?_)
    refine x_iconst (v := 1) dX8_tellSizes_66 (by decide) ?_
    refine x_goto 71 dX8_tellSizes_67 (by decide) ?_
    exact x_iret dX8_tellSizes_71 rfl rfl (Nat.le_refl _) (Nat.le_refl _) ⟨rfl, (⟨hF, rfl, hD, hL, h0⟩ : clO t n D s M _ _)⟩
theorem tz_at {Z : List (Option Nat)} {ext : List Ds} {t : Nat → Int32} {n : Nat} {M : Mm} : ∀ (f : Nat) (D : Dr) (s i : Nat) (v : Int32) (M1 : Mm), n - s < f → CT t n M1 → CLd t n s (M1 13) → numA t n 1 3 s = .inr v → lies D.2.1.2 v = false → s ≤ n → CD D M1 → M1 15 5 = 0 → Fl M M1 → i ≤ s → XW mX8_tellSizes (tzQ Z ext (lnC t n (lkZf t n f D s)) t n M) 0 0 (SS Z ext) M1 13 [some (.ref 15), some (.int (b2i true)), some (.int (nI i))] [] := by
  intro f
  induction f with
  | zero => intro D s i v M1 h; omega
  | succ f ih =>
    intro D s i v M1 hf hT hL hN hli hs hD h0 hF hi
    obtain ⟨hK2, hrg, -⟩ := numA_r hN
    obtain ⟨q, hq0, hq1, hq⟩ := rg_nat (a := 1) (b := 3) (by decide) (by decide) hrg
    have hsn : s < n := tK_in (by rw [hK2]; decide)
    have hn := hT.2.2
    have hnx := nx_gt (t := t) hsn
    have hnl := nx_le (t := t) hs
    have hv : M1 13 4 = v := hL.v hN
    have h8 : M1 15 10 = D.2.1.2 := hD.2.2.2.2.1
    rw [lkZf_s, hN]
    dsimp only
    rw [hli, if_neg (by decide)]
    have hF1 : Fl M (up2 M1 15 10 (inS (M1 15 10) v)) := hF.up _ (Or.inl rfl) (fun _ => by decide)
    have hX8 : up2 M1 15 10 (inS (M1 15 10) v) 15 10 = inS D.2.1.2 v := by rw [← h8]; rfl
    have hD1 : CD (D.1, (D.2.1.1, inS D.2.1.2 v), D.2.2) (up2 M1 15 10 (inS (M1 15 10) v)) := by
      obtain ⟨r1, r2, r3, r4, r5, r6, r7, r8, r9, r10, r11⟩ := hD
      exact ⟨r1, r2, r3, r4, by rw [← r5]; rfl, r6, r7, r8, r9, r10, r11⟩
    have hT1 : CT t n (up2 M1 15 10 (inS (M1 15 10) v)) := ⟨hT.1, hT.2⟩
    have h01 : up2 M1 15 10 (inS (M1 15 10) v) 15 5 = 0 := h0
    have hL1 : CLd t n s (up2 M1 15 10 (inS (M1 15 10) v) 13) := hL
    have hup : up2 M1 15 10 (M1 15 10 ||| ((1 : Int32) <<< (M1 13 4 &&& 31))) = up2 M1 15 10 (inS (M1 15 10) v) := by rw [hv]; rfl
    generalize up2 M1 15 10 (inS (M1 15 10) v) = X at hF1 hX8 hD1 hT1 h01 hL1 hup
    have cn := c_moreNumbers (Z := Z) (ext := ext) (M := X) (t := t) (n := n) (s := s) 1 3 (inS D.2.1.2 v) hT1 hL1 (by rw [hK2]; decide) hs
    unfold mnP at cn
    have walk : (∀ M2, On13 X M2 → CLd t n (nx t n s) (M2 13) → ∀ r M3, (if tK t n (nx t n s) = 3 then r = some (.int (b2i false)) ∧ M3 = M2 else inP (numT t n 1 3 (inS D.2.1.2 v) (nx t n s)) M2 r M3) → ∃ b : Bool, r = some (.int (b2i b)) ∧ XW mX8_tellSizes (tzQ Z ext (lnC t n (if tK t n (nx t n s) = 2 then lkZf t n f (D.1, (D.2.1.1, inS D.2.1.2 v), D.2.2) (nx t n s) else .inr ((D.1, (D.2.1.1, inS D.2.1.2 v), D.2.2), nx t n s))) t n M) 0 0 (SS Z ext) M3 13 [some (.ref 15), some (.int (b2i b)), some (.int (nI (i + 1)))] []) → XW mX8_tellSizes (tzQ Z ext (lnC t n (if tK t n (nx t n s) = 2 then lkZf t n f (D.1, (D.2.1.1, inS D.2.1.2 v), D.2.2) (nx t n s) else .inr ((D.1, (D.2.1.1, inS D.2.1.2 v), D.2.2), nx t n s))) t n M) 0 0 (SS Z ext) M1 13 [some (.ref 15), some (.int (b2i true)), some (.int (nI i))] [] := by
      intro hw
      rw [← nI_1 i] at hw
      refine x_iload_n dX8_tellSizes_13 rfl ?_
      refine x_sipush (v := 320) dX8_tellSizes_14 (by decide) ?_
      refine x_icmp_ge 59 dX8_tellSizes_17 (by decide) (fun hc_ => absurd hc_ (nI_ge (a := i) (b := 320) (by omega) (by decide))) (fun _ => ?_)
      refine x_iload_n dX8_tellSizes_20 rfl ?_
      refine x_ifb_eq 59 dX8_tellSizes_21 (by decide) (fun hc_ => absurd (hc_.symm.trans (rfl)) Bool.false_ne_true) (fun _ => ?_)
      refine x_aload_n dX8_tellSizes_24 rfl ?_
      refine x_dup dX8_tellSizes_25 rfl ?_
      refine x_geti fl_X8_73 dX8_tellSizes_26 sf_15 rfl ?_
      refine x_iconst (v := 1) dX8_tellSizes_29 (by decide) ?_
      refine x_aload_n dX8_tellSizes_30 rfl ?_
      refine x_getr fl_X8_18 dX8_tellSizes_31 sf_15 rfl ?_
      refine x_geti fl_X8_139 dX8_tellSizes_34 sf_13 rfl ?_
      refine x_ishl dX8_tellSizes_37 ?_
      refine x_ior dX8_tellSizes_38 ?_
      refine x_put fl_X8_73 dX8_tellSizes_39 sf_15 rfl rfl rfl ?_
      rw [hup]
      refine x_aload_n dX8_tellSizes_42 rfl ?_
      refine x_iconst (v := 1) dX8_tellSizes_43 (by decide) ?_
      refine x_iconst (v := 3) dX8_tellSizes_44 (by decide) ?_
      refine x_aload_n dX8_tellSizes_45 rfl ?_
      refine x_geti fl_X8_73 dX8_tellSizes_46 sf_15 rfl ?_
      rw [hX8]
      refine x_cv mf_X8_moreNumbers ml_X8_145 dX8_tellSizes_49 rfl sf_15 rfl ⟨by decide, by decide⟩ (Nat.le_of_ble_eq_true rfl) ⟨rfl, rfl⟩ ⟨Nat.le_of_ble_eq_true rfl, Nat.le_of_ble_eq_true rfl⟩ (cn) (fun r M3 ⟨M2, hO2, hL2, hz⟩ => ?_)
      obtain ⟨b, hb, hx⟩ := hw M2 hO2 hL2 r M3 hz
      subst hb
      refine x_istore_n dX8_tellSizes_52 (by decide) ?_
      refine x_iinc1 dX8_tellSizes_53 rfl (by decide) ?_
      refine x_goto 13 dX8_tellSizes_56 (by decide) ?_
      exact hx
    refine walk (fun M2 hO2 hL2 r M3 hz => ?_)
    have hF2 := hF1.tr (Fl.on hO2)
    have hD2 := hD1.on hO2
    have h02 : M2 15 5 = 0 := by rw [hO2.1 15 (by decide)]; exact h01
    by_cases h3 : tK t n (nx t n s) = 3
    · rw [if_pos h3] at hz
      obtain ⟨hr, hM⟩ := hz
      subst hM
      refine ⟨false, hr, ?_⟩
      rw [if_neg (by rw [h3]; decide)]
      unfold lnC
      dsimp only
      rw [if_pos h3]
      exact tz_o hF2 hD2 hL2 h02
    · rw [if_neg h3] at hz
      by_cases h2 : tK t n (nx t n s) = 2
      · rw [if_pos h2]
        obtain ⟨g, rfl⟩ : ∃ g, f = g + 1 := ⟨f - 1, by omega⟩
        unfold numT at hz
        cases hN2 : numA t n 1 3 (nx t n s) with
        | inl e =>
          rw [hN2] at hz
          dsimp only at hz
          obtain ⟨hr, hM⟩ := hz
          subst hM
          refine ⟨false, hr, ?_⟩
          rw [lkZf_s, hN2]
          have he : ¬ e.1 = 0 := by
            unfold numA at hN2
            rw [if_pos h2] at hN2
            split at hN2
            · cases hN2
            · cases hN2; exact (show ¬ (3 : Int32) = 0 by decide)
          exact tz_e he hF2
        | inr w =>
          rw [hN2] at hz
          dsimp only at hz
          cases hl2 : lies (inS D.2.1.2 v) w with
          | true =>
            rw [hl2, if_pos rfl] at hz
            obtain ⟨hr, hM⟩ := hz
            subst hM
            refine ⟨false, hr, ?_⟩
            rw [lkZf_s, hN2]
            dsimp only
            rw [hl2, if_pos rfl]
            exact tz_e (e := (4, nx t n s)) (show ¬ (4 : Int32) = 0 by decide) hF2
          | false =>
            rw [hl2, if_neg (by decide)] at hz
            obtain ⟨hr, hM⟩ := hz
            subst hM
            exact ⟨true, hr, ih (D.1, (D.2.1.1, inS D.2.1.2 v), D.2.2) (nx t n s) (i + 1) w M3 (by omega) (hT1.go (Ft.on hO2)) hL2 hN2 hl2 hnl hD2 h02 hF2 (by omega)⟩
      · rw [if_neg h2]
        have hnt : numT t n 1 3 (inS D.2.1.2 v) (nx t n s) = .inl (mis (tK t n (nx t n s)), nx t n s) := by
          unfold numT numA
          rw [if_neg h2]
        rw [hnt] at hz
        obtain ⟨hr, hM⟩ := hz
        subst hM
        refine ⟨false, hr, ?_⟩
        unfold lnC
        dsimp only
        rw [if_neg h3]
        exact tz_e (pos_ne (mis_pos _)) hF2
theorem c_tellSizes {Z : List (Option Nat)} {ext : List Ds} {M : Mm} {t : Nat → Int32} {n s : Nat} {D : Dr} (hT : CT t n M) (hL : CLd t n s (M 13)) (hK : tK t n s ≠ 4) (hs : s ≤ n) (hD : CD D M) (h0 : M 15 5 = 0) : Ct mX8_tellSizes [.ref 15] (SS Z ext) M (clP t n (lnC t n (lkZf t n 330 D (nx t n s))) M) := by
  have hs1 := nx_le (t := t) hs
  have hn := hT.2.2
  have c1 := c_nextNumber (Z := Z) (ext := ext) (M := M) 1 3 (M 15 10) hT hL hK hs
  have h8 : M 15 10 = D.2.1.2 := hD.2.2.2.2.1
  unfold numT at c1
  cases hN1 : numA t n 1 3 (nx t n s) with
  | inl e =>
    rw [hN1] at c1
    have he : ¬ e.1 = 0 := by
      unfold numA at hN1
      split at hN1
      · split at hN1
        · cases hN1
        · cases hN1; exact (show ¬ (3 : Int32) = 0 by decide)
      · cases hN1; exact pos_ne (mis_pos _)
    have hlk : lkZf t n 330 D (nx t n s) = .inl e := by rw [show (330 : Nat) = 329 + 1 from rfl, lkZf_s, hN1]
    rw [hlk]
    refine Ct.of (by decide) (Nat.le_of_ble_eq_true rfl) ?_
    refine x_aload_n dX8_tellSizes_0 rfl ?_
    refine x_iconst (v := 1) dX8_tellSizes_1 (by decide) ?_
    refine x_iconst (v := 3) dX8_tellSizes_2 (by decide) ?_
    refine x_aload_n dX8_tellSizes_3 rfl ?_
    refine x_geti fl_X8_73 dX8_tellSizes_4 sf_15 rfl ?_
    refine x_cv mf_X8_nextNumber ml_X8_135 dX8_tellSizes_7 rfl sf_15 rfl ⟨by decide, by decide⟩ (Nat.le_of_ble_eq_true rfl) ⟨rfl, rfl⟩ ⟨Nat.le_of_ble_eq_true rfl, Nat.le_of_ble_eq_true rfl⟩ (c1) (fun r M2 ⟨M1, hO1, hL1, hr, hM⟩ => ?_)
    subst hr; subst hM
    refine x_istore_n dX8_tellSizes_10 (by decide) ?_
    refine x_iconst (v := 0) dX8_tellSizes_11 (by decide) ?_
    refine x_istore_n dX8_tellSizes_12 (by decide) ?_
    exact tz_e he (Fl.on hO1)
  | inr v =>
    rw [hN1] at c1
    dsimp only at c1
    rw [h8] at c1
    cases hli : lies D.2.1.2 v with
    | true =>
      rw [hli, if_pos rfl] at c1
      have hlk : lkZf t n 330 D (nx t n s) = .inl (4, nx t n s) := by
        rw [show (330 : Nat) = 329 + 1 from rfl, lkZf_s, hN1]
        dsimp only
        rw [hli, if_pos rfl]
      rw [hlk]
      refine Ct.of (by decide) (Nat.le_of_ble_eq_true rfl) ?_
      refine x_aload_n dX8_tellSizes_0 rfl ?_
      refine x_iconst (v := 1) dX8_tellSizes_1 (by decide) ?_
      refine x_iconst (v := 3) dX8_tellSizes_2 (by decide) ?_
      refine x_aload_n dX8_tellSizes_3 rfl ?_
      refine x_geti fl_X8_73 dX8_tellSizes_4 sf_15 rfl ?_
      rw [h8]
      refine x_cv mf_X8_nextNumber ml_X8_135 dX8_tellSizes_7 rfl sf_15 rfl ⟨by decide, by decide⟩ (Nat.le_of_ble_eq_true rfl) ⟨rfl, rfl⟩ ⟨Nat.le_of_ble_eq_true rfl, Nat.le_of_ble_eq_true rfl⟩ (c1) (fun r M2 ⟨M1, hO1, hL1, hr, hM⟩ => ?_)
      subst hr; subst hM
      refine x_istore_n dX8_tellSizes_10 (by decide) ?_
      refine x_iconst (v := 0) dX8_tellSizes_11 (by decide) ?_
      refine x_istore_n dX8_tellSizes_12 (by decide) ?_
      exact tz_e (e := (4, nx t n s)) (show ¬ (4 : Int32) = 0 by decide) (Fl.on hO1)
    | false =>
      rw [hli, if_neg (by decide)] at c1
      have fin := fun M1 a1 a2 a3 a4 a5 => tz_at (Z := Z) (ext := ext) (t := t) (n := n) (M := M) 330 D (nx t n s) 0 v M1 (by omega) a1 a2 hN1 hli hs1 a3 a4 a5 (Nat.zero_le _)
      refine Ct.of (by decide) (Nat.le_of_ble_eq_true rfl) ?_
      refine x_aload_n dX8_tellSizes_0 rfl ?_
      refine x_iconst (v := 1) dX8_tellSizes_1 (by decide) ?_
      refine x_iconst (v := 3) dX8_tellSizes_2 (by decide) ?_
      refine x_aload_n dX8_tellSizes_3 rfl ?_
      refine x_geti fl_X8_73 dX8_tellSizes_4 sf_15 rfl ?_
      rw [h8]
      refine x_cv mf_X8_nextNumber ml_X8_135 dX8_tellSizes_7 rfl sf_15 rfl ⟨by decide, by decide⟩ (Nat.le_of_ble_eq_true rfl) ⟨rfl, rfl⟩ ⟨Nat.le_of_ble_eq_true rfl, Nat.le_of_ble_eq_true rfl⟩ (c1) (fun r M2 ⟨M1, hO1, hL1, hr, hM⟩ => ?_)
      subst hr; subst hM
      refine x_istore_n dX8_tellSizes_10 (by decide) ?_
      refine x_iconst (v := 0) dX8_tellSizes_11 (by decide) ?_
      refine x_istore_n dX8_tellSizes_12 (by decide) ?_
      exact fin _ (hT.go (Ft.on hO1)) hL1 (hD.on hO1) (by rw [hO1.1 15 (by decide)]; exact h0) (Fl.on hO1)
