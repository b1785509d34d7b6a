/-! ===== the class: tell, text ===== -/
abbrev teE (e : Int32 × Nat) (M : Mm) (r : Option Value) (M' : Mm) : Prop := Ft M M' ∧ r = some (.int (b2i false)) ∧ M' 15 5 = e.1 ∧ M' 15 6 = nI e.2
abbrev teO (k : Nat) (D : Dr) (M : Mm) (r : Option Value) (M' : Mm) : Prop := ∃ M1, Ft M M1 ∧ r = some (.int (b2i true)) ∧ CD D M1 ∧ M1 15 5 = 0 ∧ M1 15 4 = nI k ∧ M' = fnM M1 (mtD D)
abbrev teP (X : Ex (Nat × Dr)) (M : Mm) (r : Option Value) (M' : Mm) : Prop := match X with
  | .inl e => teE e M r M'
  | .inr (k, D) => teO k D M r M'
abbrev teQ (Z : List (Option Nat)) (ext : List Ds) (X : Ex (Nat × Dr)) (M : Mm) : Fn := Fc mX8_tell (fun r' S' M' => S' = SS Z ext ∧ teP X M r' M')
theorem Ft.er {M M' : Mm} (h : Ft M M') (e : Int32 × Nat) : Ft M (erM M' e) := erM_F h e
theorem te_at {Z : List (Option Nat)} {ext : List Ds} {t : Nat → Int32} {n : Nat} {M : Mm} : ∀ (f : Nat) (D : Dr) (k p : Nat) (M1 : Mm), n - tkB t n p < f → CT t n M1 → M1 13 5 = nI p → p ≤ n → k ≤ p → wDr D → CD D M1 → M1 15 5 = 0 → M1 15 4 = nI k → Ft M M1 → XW mX8_tell (teQ Z ext (finE (lns t n f D k (tkB t n p))) M) 0 0 (SS Z ext) M1 6 [some (.ref 15), some (.int (nI k))] [] := by
  intro f
  induction f with
  | zero => intro D k p M1 h; omega
  | succ f ih =>
    intro D k p M1 hf hT h5 hp hkp hw hD h0 h4 hF
    have hn := hT.2.2
    have cs := c_step (Z := Z) (ext := ext) (M := M1) (t := t) (n := n) (p := p) (s := tkB t n p) hT.1 hT.2.1 hn h5 hp rfl
    have hps : p ≤ tkB t n p := rn_ge _ _ _ _
    have hsn : tkB t n p ≤ n := rn_le hp
    rw [lns, lne_D]
    generalize tkB t n p = s at hf cs hps hsn ⊢
    have hb4 := tK_4 (t := t) (n := n) (s := s)
    by_cases hK0 : tK t n s = 0
    · rw [if_pos hK0]
      unfold finE
      dsimp only
      cases ho : okD D with
      | true =>
        rw [if_pos rfl]
        refine x_iload_n dX8_tell_6 rfl ?_
        refine x_sipush (v := 320) dX8_tell_7 (by decide) ?_
        refine x_icmp_gt 60 dX8_tell_10 (by decide) (fun hc_ => absurd hc_ (nI_nlt (a := 320) (b := k) (by omega) (by decide))) (fun _ => ?_)
        refine x_aload_n dX8_tell_13 rfl ?_
        refine x_getr fl_X8_18 dX8_tell_14 sf_15 rfl ?_
        refine x_cv mf_X7_step ml_X8_27 dX8_tell_17 rfl sf_13 rfl ⟨by decide, by decide⟩ (Nat.le_of_ble_eq_true rfl) ⟨rfl, rfl⟩ ⟨Nat.le_of_ble_eq_true rfl, Nat.le_of_ble_eq_true rfl⟩ (cs) (fun r M2 ⟨hr, hO, hL⟩ => ?_)
        subst hr
        have cf := c_finish (Z := Z) (ext := ext) (M := M2) hL.1 (hD.on hO) hw
        unfold fnP at cf
        simp only [ho, if_true] at cf
        refine x_aload_n dX8_tell_20 rfl ?_
        refine x_getr fl_X8_18 dX8_tell_21 sf_15 rfl ?_
        refine x_geti fl_X8_30 dX8_tell_24 sf_13 rfl ?_
        refine x_if_ne 35 dX8_tell_27 (by decide) (fun hc_ => absurd (by rw [hL.2.1, hK0]; rfl) hc_) (fun _ => ?_)
        refine x_aload_n dX8_tell_30 rfl ?_
        refine x_cv mf_X8_finish ml_X8_34 dX8_tell_31 rfl sf_15 rfl ⟨by decide, by decide⟩ (Nat.le_of_ble_eq_true rfl) ⟨rfl, rfl⟩ ⟨Nat.le_of_ble_eq_true rfl, Nat.le_of_ble_eq_true rfl⟩ (cf) (fun r M3 ⟨hr, hM⟩ => ?_)
        subst hr; subst hM
        exact x_iret dX8_tell_34 rfl (nz_b _) (Nat.le_refl _) (Nat.le_refl _) ⟨rfl, (⟨M2, hF.tr (Ft.on hO), rfl, hD.on hO, by rw [hO.1 15 (by decide)]; exact h0, by rw [hO.1 15 (by decide)]; exact h4, rfl⟩ : teO k D M _ _)⟩
      | false =>
        rw [if_neg (by decide)]
        refine x_iload_n dX8_tell_6 rfl ?_
        refine x_sipush (v := 320) dX8_tell_7 (by decide) ?_
        refine x_icmp_gt 60 dX8_tell_10 (by decide) (fun hc_ => absurd hc_ (nI_nlt (a := 320) (b := k) (by omega) (by decide))) (fun _ => ?_)
        refine x_aload_n dX8_tell_13 rfl ?_
        refine x_getr fl_X8_18 dX8_tell_14 sf_15 rfl ?_
        refine x_cv mf_X7_step ml_X8_27 dX8_tell_17 rfl sf_13 rfl ⟨by decide, by decide⟩ (Nat.le_of_ble_eq_true rfl) ⟨rfl, rfl⟩ ⟨Nat.le_of_ble_eq_true rfl, Nat.le_of_ble_eq_true rfl⟩ (cs) (fun r M2 ⟨hr, hO, hL⟩ => ?_)
        subst hr
        have cf := c_finish (Z := Z) (ext := ext) (M := M2) hL.1 (hD.on hO) hw
        unfold fnP at cf
        simp only [ho, Bool.false_eq_true, if_false] at cf
        refine x_aload_n dX8_tell_20 rfl ?_
        refine x_getr fl_X8_18 dX8_tell_21 sf_15 rfl ?_
        refine x_geti fl_X8_30 dX8_tell_24 sf_13 rfl ?_
        refine x_if_ne 35 dX8_tell_27 (by decide) (fun hc_ => absurd (by rw [hL.2.1, hK0]; rfl) hc_) (fun _ => ?_)
        refine x_aload_n dX8_tell_30 rfl ?_
        refine x_cv mf_X8_finish ml_X8_34 dX8_tell_31 rfl sf_15 rfl ⟨by decide, by decide⟩ (Nat.le_of_ble_eq_true rfl) ⟨rfl, rfl⟩ ⟨Nat.le_of_ble_eq_true rfl, Nat.le_of_ble_eq_true rfl⟩ (cf) (fun r M3 ⟨hr, hM⟩ => ?_)
        subst hr; subst hM
        exact x_iret dX8_tell_34 rfl (nz_b _) (Nat.le_refl _) (Nat.le_refl _) ⟨rfl, (⟨(hF.tr (Ft.on hO)).er _, rfl, rfl, rfl⟩ : teE (5, s) M _ _)⟩
    · rw [if_neg hK0]
      cases hX : lnD t n D s with
      | inl e =>
        refine x_iload_n dX8_tell_6 rfl ?_
        refine x_sipush (v := 320) dX8_tell_7 (by decide) ?_
        refine x_icmp_gt 60 dX8_tell_10 (by decide) (fun hc_ => absurd hc_ (nI_nlt (a := 320) (b := k) (by omega) (by decide))) (fun _ => ?_)
        refine x_aload_n dX8_tell_13 rfl ?_
        refine x_getr fl_X8_18 dX8_tell_14 sf_15 rfl ?_
        refine x_cv mf_X7_step ml_X8_27 dX8_tell_17 rfl sf_13 rfl ⟨by decide, by decide⟩ (Nat.le_of_ble_eq_true rfl) ⟨rfl, rfl⟩ ⟨Nat.le_of_ble_eq_true rfl, Nat.le_of_ble_eq_true rfl⟩ (cs) (fun r M2 ⟨hr, hO, hL⟩ => ?_)
        subst hr
        have cl := c_tellLine (Z := Z) (ext := ext) (M := M2) (hT.go (Ft.on hO)) hL hsn (hD.on hO) (by rw [hO.1 15 (by decide)]; exact h0)
        rw [hX] at cl
        refine x_aload_n dX8_tell_20 rfl ?_
        refine x_getr fl_X8_18 dX8_tell_21 sf_15 rfl ?_
        refine x_geti fl_X8_30 dX8_tell_24 sf_13 rfl ?_
        refine x_if_ne 35 dX8_tell_27 (by decide) (fun _ => ?_) (fun hc_ => absurd hc_ (by rw [hL.2.1]; exact fun q => hK0 ((nI_eq (a := tK t n s) (b := 0) (by omega) (by omega)).mp q)))
        refine x_aload_n dX8_tell_35 rfl ?_
        refine x_cv mf_X8_tellLine ml_X8_38 dX8_tell_36 rfl sf_15 rfl ⟨by decide, by decide⟩ (Nat.le_of_ble_eq_true rfl) ⟨rfl, rfl⟩ ⟨Nat.le_of_ble_eq_true rfl, Nat.le_of_ble_eq_true rfl⟩ (cl) (fun r M3 ⟨hF3, hr, h35, h36⟩ => ?_)
        subst hr
        refine x_ifb_ne 44 dX8_tell_39 (by decide) (fun hc_ => absurd ((rfl).symm.trans hc_) Bool.false_ne_true) (fun _ => ?_)
        refine x_iconst (v := 0) dX8_tell_42 (by decide) ?_
        exact x_iret dX8_tell_43 rfl rfl (Nat.le_refl _) (Nat.le_refl _) ⟨rfl, (⟨(hF.tr (Ft.on hO)).tr hF3.1, rfl, h35, h36⟩ : teE e M _ _)⟩
      | inr x =>
        obtain ⟨D', s'⟩ := x
        dsimp only
        have hln : lne t n D s = .inr (D', nx t n s') := by rw [lne_D, hX]
        obtain ⟨b1, b2, b3⟩ := lne_r hsn hln
        have hK3 : tK t n s' = 3 ∧ s < s' := by
          unfold lnD at hX
          split at hX
          · rename_i hK1
            split at hX
            · cases hX
            · split at hX
              · cases hX
              · unfold lnC at hX
                split at hX
                · cases hX
                · rename_i D1 s1 hX1
                  split at hX
                  · rename_i h3
                    injection hX with hX; injection hX with q1 q2; subst q2
                    have a1 := nx_gt (t := t) (n := n) (s := s) (tK_in (by rw [hK1]; decide))
                    have a2 := (lnK_bd (nx_le (t := t) hsn) hX1).1
                    exact ⟨h3, by omega⟩
                  · cases hX
          · cases hX
        have hs'n : s' < n := tK_in (by rw [hK3.1]; decide)
        have hE1 := tE_gt (t := t) hs'n
        have hE2 := tE_le (t := t) (Nat.le_of_lt hs'n)
        have ihx := ih D' (k + 1) (tE t n s')
        rw [← nI_1 k] at ihx
        refine x_iload_n dX8_tell_6 rfl ?_
        refine x_sipush (v := 320) dX8_tell_7 (by decide) ?_
        refine x_icmp_gt 60 dX8_tell_10 (by decide) (fun hc_ => absurd hc_ (nI_nlt (a := 320) (b := k) (by omega) (by decide))) (fun _ => ?_)
        refine x_aload_n dX8_tell_13 rfl ?_
        refine x_getr fl_X8_18 dX8_tell_14 sf_15 rfl ?_
        refine x_cv mf_X7_step ml_X8_27 dX8_tell_17 rfl sf_13 rfl ⟨by decide, by decide⟩ (Nat.le_of_ble_eq_true rfl) ⟨rfl, rfl⟩ ⟨Nat.le_of_ble_eq_true rfl, Nat.le_of_ble_eq_true rfl⟩ (cs) (fun r M2 ⟨hr, hO, hL⟩ => ?_)
        subst hr
        have cl := c_tellLine (Z := Z) (ext := ext) (M := M2) (hT.go (Ft.on hO)) hL hsn (hD.on hO) (by rw [hO.1 15 (by decide)]; exact h0)
        rw [hX] at cl
        refine x_aload_n dX8_tell_20 rfl ?_
        refine x_getr fl_X8_18 dX8_tell_21 sf_15 rfl ?_
        refine x_geti fl_X8_30 dX8_tell_24 sf_13 rfl ?_
        refine x_if_ne 35 dX8_tell_27 (by decide) (fun _ => ?_) (fun hc_ => absurd hc_ (by rw [hL.2.1]; exact fun q => hK0 ((nI_eq (a := tK t n s) (b := 0) (by omega) (by omega)).mp q)))
        refine x_aload_n dX8_tell_35 rfl ?_
        refine x_cv mf_X8_tellLine ml_X8_38 dX8_tell_36 rfl sf_15 rfl ⟨by decide, by decide⟩ (Nat.le_of_ble_eq_true rfl) ⟨rfl, rfl⟩ ⟨Nat.le_of_ble_eq_true rfl, Nat.le_of_ble_eq_true rfl⟩ (cl) (fun r M3 ⟨hF3, hr, hD3, hL3, h03⟩ => ?_)
        subst hr
        refine x_ifb_ne 44 dX8_tell_39 (by decide) (fun _ => ?_) (fun hc_ => absurd (hc_.symm.trans (rfl)) Bool.false_ne_true)
        refine x_aload_n dX8_tell_44 rfl ?_
        refine x_dup dX8_tell_45 rfl ?_
        refine x_geti fl_X8_41 dX8_tell_46 sf_15 rfl ?_
        refine x_iconst (v := 1) dX8_tell_49 (by decide) ?_
        refine x_iadd dX8_tell_50 ?_
        refine x_put fl_X8_41 dX8_tell_51 sf_15 rfl rfl rfl ?_
        refine x_iinc1 dX8_tell_54 rfl (by decide) ?_
        refine x_goto 6 dX8_tell_57 (by decide) ?_
        skip
        have h43 : M3 15 4 = nI k := by rw [hF3.2, hO.1 15 (by decide)]; exact h4
        have hF4 : Ft M3 (up2 M3 15 4 (M3 15 4 + 1)) := (Ft.rf M3).up _ (Or.inl rfl)
        have hF5 := ((hF.tr (Ft.on hO)).tr hF3.1).tr hF4
        have hT3 : CT t n M3 := ((hT.go (Ft.on hO)).go hF3.1)
        exact ihx (up2 M3 15 4 (M3 15 4 + 1)) (by show n - nx t n s' < f; omega) (hT3.go hF4) (hL3.2.2.1 (by rw [hK3.1]; decide)) hE2 (by omega) (b3 hw) hD3 h03 (by show M3 15 4 + 1 = _; rw [h43]) hF5
theorem c_tell {Z : List (Option Nat)} {ext : List Ds} {M : Mm} {t : Nat → Int32} {n : Nat} (hT : CT t n M) : Ct mX8_tell [.ref 15] (SS Z ext) M (teP (finA t n) M) := by
  have hn := hT.2.2
  have hle : tkB t n 0 ≤ n := rn_le (Nat.zero_le n)
  have fin := te_at (Z := Z) (ext := ext) (t := t) (n := n) (M := M) 330 D0 0 0 (bgM M) (by omega) (hT.go (bg_F M)) rfl (Nat.zero_le n) (Nat.le_refl 0) wD0 (bg_D M) rfl rfl (bg_F M)
  refine Ct.of (by decide) (Nat.le_of_ble_eq_true rfl) ?_
  refine x_aload_n dX8_tell_0 rfl ?_
  refine x_cvd mf_X8_begin ml_X8_22 dX8_tell_1 rfl sf_15 rfl ⟨by decide, by decide⟩ (Nat.le_of_ble_eq_true rfl) ⟨rfl, rfl⟩ ⟨Nat.le_of_ble_eq_true rfl, Nat.le_of_ble_eq_true rfl⟩ (c_begin) ?_
  refine x_iconst (v := 0) dX8_tell_4 (by decide) ?_
  refine x_istore_n dX8_tell_5 (by decide) ?_
  exact fin
abbrev ctE (e : Int32 × Nat) (M : Mm) (r : Option Value) (M' : Mm) : Prop := ∃ M1, Ft M M1 ∧ r = some (.int (-10 - nI e.2)) ∧ M1 15 5 = e.1 ∧ M' = up2 M1 13 1 0
abbrev ctO (k : Nat) (D : Dr) (M : Mm) (r : Option Value) (M' : Mm) : Prop := ∃ M1, Ft M M1 ∧ r = some (.int (nI k)) ∧ CD D M1 ∧ M1 15 5 = 0 ∧ M' = up2 (bcM (fmM (up2 (fnM M1 (mtD D)) 13 1 0) D.1.1.toNatClampNeg D.1.2.1.toNatClampNeg) 10 16) 0 11 0
abbrev ctP (X : Ex (Nat × Dr)) (M : Mm) (r : Option Value) (M' : Mm) : Prop := match X with
  | .inl e => ctE e M r M'
  | .inr (k, D) => ctO k D M r M'
theorem fm_15 (M : Mm) (w h : Nat) : fmM M w h 15 = M 15 := rfl
theorem c_text {Z : List (Option Nat)} {ext : List Ds} {M : Mm} {t : Nat → Int32} {n : Nat} (hT : CT t n M) : Ct mX9_text [.ref 0] (SS Z ext) M (ctP (finA t n) M) := by
  have ct := c_tell (Z := Z) (ext := ext) hT
  cases hX : finA t n with
  | inl e =>
    rw [hX] at ct
    refine Ct.of (by decide) (Nat.le_of_ble_eq_true rfl) ?_
    refine x_aload_n dX9_text_0 rfl ?_
    refine x_getr fl_X9_35 dX9_text_1 sf_0 rfl ?_
    refine x_cv mf_X8_tell ml_X9_100 dX9_text_4 rfl sf_15 rfl ⟨by decide, by decide⟩ (Nat.le_of_ble_eq_true rfl) ⟨rfl, rfl⟩ ⟨Nat.le_of_ble_eq_true rfl, Nat.le_of_ble_eq_true rfl⟩ (ct) (fun r M1 ⟨hF, hr, h5, h6⟩ => ?_)
    subst hr
    refine x_istore_n dX9_text_7 (by decide) ?_
    refine x_aload_n dX9_text_8 rfl ?_
    refine x_getr fl_X9_26 dX9_text_9 sf_0 rfl ?_
    refine x_iconst (v := 0) dX9_text_12 (by decide) ?_
    refine x_put fl_X9_96 dX9_text_13 sf_13 rfl rfl rfl ?_
    refine x_iload_n dX9_text_16 rfl ?_
    refine x_ifb_ne 31 dX9_text_17 (by decide) (fun hc_ => absurd ((rfl).symm.trans hc_) Bool.false_ne_true) (fun _ => ?_)
    refine x_bipush (v := -10) dX9_text_20 (by decide) ?_
    refine x_aload_n dX9_text_22 rfl ?_
    refine x_getr fl_X9_35 dX9_text_23 sf_0 rfl ?_
    refine x_geti fl_X9_104 dX9_text_26 sf_15 rfl ?_
    refine x_isub dX9_text_29 ?_
    exact x_iret dX9_text_30 rfl rfl (Nat.le_refl _) (Nat.le_refl _) ⟨rfl, (⟨M1, hF, oi (by show (-10 : Int32) - M1 15 6 = _; rw [h6]), h5, rfl⟩ : ctE e M _ _)⟩
  | inr x =>
    obtain ⟨k, D⟩ := x
    rw [hX] at ct
    obtain ⟨w, hh, a1, a2, b1, b2, e1, e2⟩ := (finA_w hX).1
    have g1 : nI D.1.1.toNatClampNeg = D.1.1 := by rw [e1, nI_clamp (by omega)]
    have g2 : nI D.1.2.1.toNatClampNeg = D.1.2.1 := by rw [e2, nI_clamp (by omega)]
    refine Ct.of (by decide) (Nat.le_of_ble_eq_true rfl) ?_
    refine x_aload_n dX9_text_0 rfl ?_
    refine x_getr fl_X9_35 dX9_text_1 sf_0 rfl ?_
    refine x_cv mf_X8_tell ml_X9_100 dX9_text_4 rfl sf_15 rfl ⟨by decide, by decide⟩ (Nat.le_of_ble_eq_true rfl) ⟨rfl, rfl⟩ ⟨Nat.le_of_ble_eq_true rfl, Nat.le_of_ble_eq_true rfl⟩ (ct) (fun r M3 ⟨M1, hF, hr, hD, h5, h4, hM⟩ => ?_)
    subst hr; subst hM
    refine x_istore_n dX9_text_7 (by decide) ?_
    refine x_aload_n dX9_text_8 rfl ?_
    refine x_getr fl_X9_26 dX9_text_9 sf_0 rfl ?_
    refine x_iconst (v := 0) dX9_text_12 (by decide) ?_
    refine x_put fl_X9_96 dX9_text_13 sf_13 rfl rfl rfl ?_
    refine x_iload_n dX9_text_16 rfl ?_
    refine x_ifb_ne 31 dX9_text_17 (by decide) (fun _ => ?_) (fun hc_ => absurd (hc_.symm.trans (rfl)) Bool.false_ne_true)
    have cf := c_form (S := SS Z ext) (M := up2 (fnM M1 (mtD D)) 13 1 0) (ShG_SS Z ext) D.1.1.toNatClampNeg D.1.2.1.toNatClampNeg (by rw [e1, nI_clamp (by omega)]; exact a2) (by rw [e2, nI_clamp (by omega)]; exact b2)
    rw [g1.trans hD.1.symm, g2.trans hD.2.1.symm] at cf
    refine x_aload_n dX9_text_31 rfl ?_
    refine x_getr fl_X9_10 dX9_text_32 sf_0 rfl ?_
    refine x_aload_n dX9_text_35 rfl ?_
    refine x_getr fl_X9_35 dX9_text_36 sf_0 rfl ?_
    refine x_geti fl_X9_107 dX9_text_39 sf_15 rfl ?_
    refine x_aload_n dX9_text_42 rfl ?_
    refine x_getr fl_X9_35 dX9_text_43 sf_0 rfl ?_
    refine x_geti fl_X9_110 dX9_text_46 sf_15 rfl ?_
    refine x_cvd mf_X2_form ml_X9_80 dX9_text_49 rfl sf_1 rfl ⟨by decide, by decide⟩ (Nat.le_of_ble_eq_true rfl) ⟨rfl, rfl⟩ ⟨Nat.le_of_ble_eq_true rfl, Nat.le_of_ble_eq_true rfl⟩ (cf) ?_
    refine x_aload_n dX9_text_52 rfl ?_
    refine x_getr fl_X9_19 dX9_text_53 sf_0 rfl ?_
    refine x_aload_n dX9_text_56 rfl ?_
    refine x_getr fl_X9_35 dX9_text_57 sf_0 rfl ?_
    refine x_getr fl_X9_113 dX9_text_60 sf_15 rfl ?_
    refine x_cvd mf_X6_becomes ml_X9_116 dX9_text_63 rfl sf_10 rfl ⟨by decide, by decide⟩ (Nat.le_of_ble_eq_true rfl) ⟨rfl, rfl⟩ ⟨Nat.le_of_ble_eq_true rfl, Nat.le_of_ble_eq_true rfl⟩ (c_becomes (ShT_10 Z ext) (ShT_16 Z ext) (by decide)) ?_
    refine x_aload_n dX9_text_66 rfl ?_
    refine x_iconst (v := 0) dX9_text_67 (by decide) ?_
    refine x_put fl_X9_120 dX9_text_68 sf_0 rfl rfl rfl ?_
    refine x_aload_n dX9_text_71 rfl ?_
    refine x_getr fl_X9_35 dX9_text_72 sf_0 rfl ?_
    refine x_geti fl_X9_123 dX9_text_75 sf_15 rfl ?_
    exact x_iret dX9_text_78 rfl rfl (Nat.le_refl _) (Nat.le_refl _) ⟨rfl, (⟨M1, hF, oi h4, hD, h5, rfl⟩ : ctO k D M _ _)⟩
