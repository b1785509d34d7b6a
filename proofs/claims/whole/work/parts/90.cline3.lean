/-! ===== the class: tellLine, begin, finish ===== -/
def lnD (t : Nat → Int32) (n : Nat) (D : Dr) (s : Nat) : Ex (Dr × Nat) :=
  if tK t n s = 1 then (if nmK t s (tE t n s) = 5 then .inl (2, s) else if nmK t s (tE t n s) = 0 ∧ D.1.2.2 = true then .inl (4, s) else lnC t n (lnK t n (nmK t s (tE t n s)) D (nx t n s))) else .inl (mis (tK t n s), s)
theorem lne_D (t : Nat → Int32) (n : Nat) (D : Dr) (s : Nat) : lne t n D s = match lnD t n D s with
    | .inl e => .inl e
    | .inr (D', s') => .inr (D', nx t n s') := by
  unfold lne lnD
  by_cases h1 : tK t n s = 1
  · rw [if_pos h1, if_pos h1]
    by_cases h5 : nmK t s (tE t n s) = 5
    · rw [if_pos h5, if_pos h5]
    · rw [if_neg h5, if_neg h5]
      by_cases h0 : nmK t s (tE t n s) = 0 ∧ D.1.2.2 = true
      · rw [if_pos h0, if_pos h0]
      · rw [if_neg h0, if_neg h0]
        cases lnK t n (nmK t s (tE t n s)) D (nx t n s) with
        | inl e => rfl
        | inr x =>
          obtain ⟨D', s'⟩ := x
          unfold lnC
          dsimp only
          by_cases h3 : tK t n s' = 3
          · rw [if_pos h3, if_pos h3]
          · rw [if_neg h3, if_neg h3]
  · rw [if_neg h1, if_neg h1]
abbrev tlQ (Z : List (Option Nat)) (ext : List Ds) (X : Ex (Dr × Nat)) (t : Nat → Int32) (n : Nat) (M : Mm) : Fn := Fc mX8_tellLine (fun r' S' M' => S' = SS Z ext ∧ clP t n X M r' M')
theorem c_tellLine {Z : List (Option Nat)} {ext : List Ds} {M : Mm} {t : Nat → Int32} {n s : Nat} {D : Dr} (hT : CT t n M) (hL : CLd t n s (M 13)) (hs : s ≤ n) (hD : CD D M) (h0 : M 15 5 = 0) : Ct mX8_tellLine [.ref 15] (SS Z ext) M (clP t n (lnD t n D s) M) := by
  have hb4 := tK_4 (t := t) (n := n) (s := s)
  have cm := c_misfit (Z := Z) (ext := ext) (M := M) hL.2.1 hb4
  have hn := hT.2.2
  unfold lnD
  by_cases hK1 : tK t n s = 1
  · rw [if_pos hK1]
    have hK4 : tK t n s ≠ 4 := by rw [hK1]; decide
    have hsn : s < n := tK_in (by rw [hK1]; decide)
    have hse := tE_gt (t := t) hsn
    have hel := tE_le (t := t) hs
    have h2 : M 13 2 = 1 := by rw [hL.2.1, hK1]; rfl
    have h5 := hL.2.2.1 hK4
    have cs := fun k hk => c_says (Z := Z) (ext := ext) (M := M) (s := s) (e := tE t n s) (k := k) hk h2 hL.1 h5 (by omega) (by omega)
    rw [hT.1] at cs
    have g0 := c_tellGrid (Z := Z) (ext := ext) hT hL hK4 hs hD h0
    have g1 := c_tellGone (Z := Z) (ext := ext) hT hL hK4 hs hD h0
    have g2 := c_tellCost (Z := Z) (ext := ext) hT hL hK4 hs hD h0
    have g3 := c_tellSizes (Z := Z) (ext := ext) hT hL hK4 hs hD h0
    have g4 := c_tellSeen (Z := Z) (ext := ext) hT hL hK4 hs hD h0
    have w0 : nmK t s (tE t n s) = 0 → XW mX8_tellLine (tlQ Z ext (if nmK t s (tE t n s) = 5 then .inl (2, s) else if nmK t s (tE t n s) = 0 ∧ D.1.2.2 = true then .inl (4, s) else lnC t n (lnK t n (nmK t s (tE t n s)) D (nx t n s))) t n M) 0 0 (SS Z ext) M 12 [some (.ref 15)] [] := by
      intro hk
      rw [hk, if_neg (by decide)]
      have e : (if (0 : Nat) = 0 ∧ D.1.2.2 = true then Sum.inl (4, s) else lnC t n (lnK t n 0 D (nx t n s))) = (if D.1.2.2 = true then Sum.inl (4, s) else lnC t n (lkG t n D (nx t n s))) := by
        cases D.1.2.2 with
        | true => rw [if_pos ⟨rfl, rfl⟩, if_pos rfl]
        | false => rw [if_neg (fun q => Bool.false_ne_true q.2), if_neg Bool.false_ne_true]; rfl
      rw [e]
      refine x_aload_n dX8_tellLine_12 rfl ?_
      refine x_cv mf_X8_tellGrid ml_X8_108 dX8_tellLine_13 rfl sf_15 rfl ⟨by decide, by decide⟩ (Nat.le_of_ble_eq_true rfl) ⟨rfl, rfl⟩ ⟨Nat.le_of_ble_eq_true rfl, Nat.le_of_ble_eq_true rfl⟩ (g0) (fun r M1 q => ?_)
      obtain ⟨hq, b, hb⟩ := clP_pre (Fl.rf M) q
      subst hb
      exact x_iret dX8_tellLine_16 rfl (nz_b _) (Nat.le_refl _) (Nat.le_refl _) ⟨rfl, hq⟩
    have w1 : nmK t s (tE t n s) = 1 → XW mX8_tellLine (tlQ Z ext (if nmK t s (tE t n s) = 5 then .inl (2, s) else if nmK t s (tE t n s) = 0 ∧ D.1.2.2 = true then .inl (4, s) else lnC t n (lnK t n (nmK t s (tE t n s)) D (nx t n s))) t n M) 0 0 (SS Z ext) M 29 [some (.ref 15)] [] := by
      intro hk
      rw [hk, if_neg (by decide), if_neg (fun q => absurd q.1 (by decide))]
      refine x_aload_n dX8_tellLine_29 rfl ?_
      refine x_cv mf_X8_tellGone ml_X8_113 dX8_tellLine_30 rfl sf_15 rfl ⟨by decide, by decide⟩ (Nat.le_of_ble_eq_true rfl) ⟨rfl, rfl⟩ ⟨Nat.le_of_ble_eq_true rfl, Nat.le_of_ble_eq_true rfl⟩ (g1) (fun r M1 q => ?_)
      obtain ⟨hq, b, hb⟩ := clP_pre (Fl.rf M) q
      subst hb
      exact x_iret dX8_tellLine_33 rfl (nz_b _) (Nat.le_refl _) (Nat.le_refl _) ⟨rfl, hq⟩
    have w2 : nmK t s (tE t n s) = 2 → XW mX8_tellLine (tlQ Z ext (if nmK t s (tE t n s) = 5 then .inl (2, s) else if nmK t s (tE t n s) = 0 ∧ D.1.2.2 = true then .inl (4, s) else lnC t n (lnK t n (nmK t s (tE t n s)) D (nx t n s))) t n M) 0 0 (SS Z ext) M 46 [some (.ref 15)] [] := by
      intro hk
      rw [hk, if_neg (by decide), if_neg (fun q => absurd q.1 (by decide))]
      refine x_aload_n dX8_tellLine_46 rfl ?_
      refine x_cv mf_X8_tellCost ml_X8_118 dX8_tellLine_47 rfl sf_15 rfl ⟨by decide, by decide⟩ (Nat.le_of_ble_eq_true rfl) ⟨rfl, rfl⟩ ⟨Nat.le_of_ble_eq_true rfl, Nat.le_of_ble_eq_true rfl⟩ (g2) (fun r M1 q => ?_)
      obtain ⟨hq, b, hb⟩ := clP_pre (Fl.rf M) q
      subst hb
      exact x_iret dX8_tellLine_50 rfl (nz_b _) (Nat.le_refl _) (Nat.le_refl _) ⟨rfl, hq⟩
    have w3 : nmK t s (tE t n s) = 3 → XW mX8_tellLine (tlQ Z ext (if nmK t s (tE t n s) = 5 then .inl (2, s) else if nmK t s (tE t n s) = 0 ∧ D.1.2.2 = true then .inl (4, s) else lnC t n (lnK t n (nmK t s (tE t n s)) D (nx t n s))) t n M) 0 0 (SS Z ext) M 63 [some (.ref 15)] [] := by
      intro hk
      rw [hk, if_neg (by decide), if_neg (fun q => absurd q.1 (by decide))]
      refine x_aload_n dX8_tellLine_63 rfl ?_
      refine x_cv mf_X8_tellSizes ml_X8_123 dX8_tellLine_64 rfl sf_15 rfl ⟨by decide, by decide⟩ (Nat.le_of_ble_eq_true rfl) ⟨rfl, rfl⟩ ⟨Nat.le_of_ble_eq_true rfl, Nat.le_of_ble_eq_true rfl⟩ (g3) (fun r M1 q => ?_)
      obtain ⟨hq, b, hb⟩ := clP_pre (Fl.rf M) q
      subst hb
      exact x_iret dX8_tellLine_67 rfl (nz_b _) (Nat.le_refl _) (Nat.le_refl _) ⟨rfl, hq⟩
    have w4 : nmK t s (tE t n s) = 4 → XW mX8_tellLine (tlQ Z ext (if nmK t s (tE t n s) = 5 then .inl (2, s) else if nmK t s (tE t n s) = 0 ∧ D.1.2.2 = true then .inl (4, s) else lnC t n (lnK t n (nmK t s (tE t n s)) D (nx t n s))) t n M) 0 0 (SS Z ext) M 80 [some (.ref 15)] [] := by
      intro hk
      rw [hk, if_neg (by decide), if_neg (fun q => absurd q.1 (by decide))]
      refine x_aload_n dX8_tellLine_80 rfl ?_
      refine x_cv mf_X8_tellSeen ml_X8_128 dX8_tellLine_81 rfl sf_15 rfl ⟨by decide, by decide⟩ (Nat.le_of_ble_eq_true rfl) ⟨rfl, rfl⟩ ⟨Nat.le_of_ble_eq_true rfl, Nat.le_of_ble_eq_true rfl⟩ (g4) (fun r M1 q => ?_)
      obtain ⟨hq, b, hb⟩ := clP_pre (Fl.rf M) q
      subst hb
      exact x_iret dX8_tellLine_84 rfl (nz_b _) (Nat.le_refl _) (Nat.le_refl _) ⟨rfl, hq⟩
    have w5 : nmK t s (tE t n s) = 5 → XW mX8_tellLine (tlQ Z ext (if nmK t s (tE t n s) = 5 then .inl (2, s) else if nmK t s (tE t n s) = 0 ∧ D.1.2.2 = true then .inl (4, s) else lnC t n (lnK t n (nmK t s (tE t n s)) D (nx t n s))) t n M) 0 0 (SS Z ext) M 85 [some (.ref 15)] [] := by
      intro hk
      rw [if_pos hk]
      refine x_aload_n dX8_tellLine_85 rfl ?_
      refine x_aload_n dX8_tellLine_86 rfl ?_
      refine x_cvd mf_X8_misfit ml_X8_131 dX8_tellLine_87 rfl sf_15 rfl ⟨by decide, by decide⟩ (Nat.le_of_ble_eq_true rfl) ⟨rfl, rfl⟩ ⟨Nat.le_of_ble_eq_true rfl, Nat.le_of_ble_eq_true rfl⟩ (cm) ?_
      refine x_cvd mf_X8_refuse ml_X8_89 dX8_tellLine_90 rfl sf_15 rfl ⟨by decide, by decide⟩ (Nat.le_of_ble_eq_true rfl) ⟨rfl, rfl⟩ ⟨Nat.le_of_ble_eq_true rfl, Nat.le_of_ble_eq_true rfl⟩ (c_refuse (s := s) (mis (tK t n s)) hL.1) ?_
      exact x_iret dX8_tellLine_93 rfl (nz_b _) (Nat.le_refl _) (Nat.le_refl _) ⟨rfl, (by rw [hK1]; exact clE.of (Fl.rf M) (2, s))⟩
    refine Ct.of (by decide) (Nat.le_of_ble_eq_true rfl) ?_
    refine x_aload_n dX8_tellLine_0 rfl ?_
    refine x_getr fl_X8_18 dX8_tellLine_1 sf_15 rfl ?_
    refine x_ldcS dX8_tellLine_4 gsR_102 ?_
    refine x_cvd mf_X7_says ml_X8_104 dX8_tellLine_6 rfl sf_13 rfl ⟨by decide, by decide⟩ (Nat.le_of_ble_eq_true rfl) ⟨rfl, rfl⟩ ⟨Nat.le_of_ble_eq_true rfl, Nat.le_of_ble_eq_true rfl⟩ (cs 0 (by decide)) ?_
    refine x_ifb_eq 17 dX8_tellLine_9 (by decide) (fun h9 => ?_) (fun h9 => ?_)
    · refine x_aload_n dX8_tellLine_17 rfl ?_
      refine x_getr fl_X8_18 dX8_tellLine_18 sf_15 rfl ?_
      refine x_ldcS dX8_tellLine_21 gsR_111 ?_
      refine x_cvd mf_X7_says ml_X8_104 dX8_tellLine_23 rfl sf_13 rfl ⟨by decide, by decide⟩ (Nat.le_of_ble_eq_true rfl) ⟨rfl, rfl⟩ ⟨Nat.le_of_ble_eq_true rfl, Nat.le_of_ble_eq_true rfl⟩ (cs 1 (by decide)) ?_
      refine x_ifb_eq 34 dX8_tellLine_26 (by decide) (fun h26 => ?_) (fun h26 => ?_)
      · refine x_aload_n dX8_tellLine_34 rfl ?_
        refine x_getr fl_X8_18 dX8_tellLine_35 sf_15 rfl ?_
        refine x_ldcS dX8_tellLine_38 gsR_116 ?_
        refine x_cvd mf_X7_says ml_X8_104 dX8_tellLine_40 rfl sf_13 rfl ⟨by decide, by decide⟩ (Nat.le_of_ble_eq_true rfl) ⟨rfl, rfl⟩ ⟨Nat.le_of_ble_eq_true rfl, Nat.le_of_ble_eq_true rfl⟩ (cs 2 (by decide)) ?_
        refine x_ifb_eq 51 dX8_tellLine_43 (by decide) (fun h43 => ?_) (fun h43 => ?_)
        · refine x_aload_n dX8_tellLine_51 rfl ?_
          refine x_getr fl_X8_18 dX8_tellLine_52 sf_15 rfl ?_
          refine x_ldcS dX8_tellLine_55 gsR_121 ?_
          refine x_cvd mf_X7_says ml_X8_104 dX8_tellLine_57 rfl sf_13 rfl ⟨by decide, by decide⟩ (Nat.le_of_ble_eq_true rfl) ⟨rfl, rfl⟩ ⟨Nat.le_of_ble_eq_true rfl, Nat.le_of_ble_eq_true rfl⟩ (cs 3 (by decide)) ?_
          refine x_ifb_eq 68 dX8_tellLine_60 (by decide) (fun h60 => ?_) (fun h60 => ?_)
          · refine x_aload_n dX8_tellLine_68 rfl ?_
            refine x_getr fl_X8_18 dX8_tellLine_69 sf_15 rfl ?_
            refine x_ldcS dX8_tellLine_72 gsR_126 ?_
            refine x_cvd mf_X7_says ml_X8_104 dX8_tellLine_74 rfl sf_13 rfl ⟨by decide, by decide⟩ (Nat.le_of_ble_eq_true rfl) ⟨rfl, rfl⟩ ⟨Nat.le_of_ble_eq_true rfl, Nat.le_of_ble_eq_true rfl⟩ (cs 4 (by decide)) ?_
            refine x_ifb_eq 85 dX8_tellLine_77 (by decide) (fun h77 => ?_) (fun h77 => ?_)
            · exact w5 (by unfold nmK; rw [if_neg (by rw [show nmI t s (tE t n s) 103 114 105 100 = false from h9]; decide), if_neg (by rw [show nmI t s (tE t n s) 103 111 110 101 = false from h26]; decide), if_neg (by rw [show nmI t s (tE t n s) 99 111 115 116 = false from h43]; decide), if_neg (by rw [show nmI t s (tE t n s) 115 105 122 101 = false from h60]; decide), if_neg (by rw [show nmI t s (tE t n s) 115 101 101 110 = false from h77]; decide)])
            · exact w4 (by unfold nmK; rw [if_neg (by rw [show nmI t s (tE t n s) 103 114 105 100 = false from h9]; decide), if_neg (by rw [show nmI t s (tE t n s) 103 111 110 101 = false from h26]; decide), if_neg (by rw [show nmI t s (tE t n s) 99 111 115 116 = false from h43]; decide), if_neg (by rw [show nmI t s (tE t n s) 115 105 122 101 = false from h60]; decide), if_pos (show nmI t s (tE t n s) 115 101 101 110 = true from h77)])
          · exact w3 (by unfold nmK; rw [if_neg (by rw [show nmI t s (tE t n s) 103 114 105 100 = false from h9]; decide), if_neg (by rw [show nmI t s (tE t n s) 103 111 110 101 = false from h26]; decide), if_neg (by rw [show nmI t s (tE t n s) 99 111 115 116 = false from h43]; decide), if_pos (show nmI t s (tE t n s) 115 105 122 101 = true from h60)])
        · exact w2 (by unfold nmK; rw [if_neg (by rw [show nmI t s (tE t n s) 103 114 105 100 = false from h9]; decide), if_neg (by rw [show nmI t s (tE t n s) 103 111 110 101 = false from h26]; decide), if_pos (show nmI t s (tE t n s) 99 111 115 116 = true from h43)])
      · exact w1 (by unfold nmK; rw [if_neg (by rw [show nmI t s (tE t n s) 103 114 105 100 = false from h9]; decide), if_pos (show nmI t s (tE t n s) 103 111 110 101 = true from h26)])
    · exact w0 (by unfold nmK; rw [if_pos (show nmI t s (tE t n s) 103 114 105 100 = true from h9)])
  · rw [if_neg hK1]
    have hne : ¬ M 13 2 = 1 := by rw [hL.2.1]; exact fun q => hK1 ((nI_eq (a := tK t n s) (b := 1) (by omega) (by omega)).mp q)
    have cs := fun k => c_saysN (Z := Z) (ext := ext) (M := M) (k := k) hne
    refine Ct.of (by decide) (Nat.le_of_ble_eq_true rfl) ?_
    refine x_aload_n dX8_tellLine_0 rfl ?_
    refine x_getr fl_X8_18 dX8_tellLine_1 sf_15 rfl ?_
    refine x_ldcS dX8_tellLine_4 gsR_102 ?_
    refine x_cvd mf_X7_says ml_X8_104 dX8_tellLine_6 rfl sf_13 rfl ⟨by decide, by decide⟩ (Nat.le_of_ble_eq_true rfl) ⟨rfl, rfl⟩ ⟨Nat.le_of_ble_eq_true rfl, Nat.le_of_ble_eq_true rfl⟩ (cs 0) ?_
    refine x_ifb_eq 17 dX8_tellLine_9 (by decide) (fun _ => ?_) (fun hc_ => absurd ((rfl).symm.trans hc_) Bool.false_ne_true)
    refine x_aload_n dX8_tellLine_17 rfl ?_
    refine x_getr fl_X8_18 dX8_tellLine_18 sf_15 rfl ?_
    refine x_ldcS dX8_tellLine_21 gsR_111 ?_
    refine x_cvd mf_X7_says ml_X8_104 dX8_tellLine_23 rfl sf_13 rfl ⟨by decide, by decide⟩ (Nat.le_of_ble_eq_true rfl) ⟨rfl, rfl⟩ ⟨Nat.le_of_ble_eq_true rfl, Nat.le_of_ble_eq_true rfl⟩ (cs 1) ?_
    refine x_ifb_eq 34 dX8_tellLine_26 (by decide) (fun _ => ?_) (fun hc_ => absurd ((rfl).symm.trans hc_) Bool.false_ne_true)
    refine x_aload_n dX8_tellLine_34 rfl ?_
    refine x_getr fl_X8_18 dX8_tellLine_35 sf_15 rfl ?_
    refine x_ldcS dX8_tellLine_38 gsR_116 ?_
    refine x_cvd mf_X7_says ml_X8_104 dX8_tellLine_40 rfl sf_13 rfl ⟨by decide, by decide⟩ (Nat.le_of_ble_eq_true rfl) ⟨rfl, rfl⟩ ⟨Nat.le_of_ble_eq_true rfl, Nat.le_of_ble_eq_true rfl⟩ (cs 2) ?_
    refine x_ifb_eq 51 dX8_tellLine_43 (by decide) (fun _ => ?_) (fun hc_ => absurd ((rfl).symm.trans hc_) Bool.false_ne_true)
    refine x_aload_n dX8_tellLine_51 rfl ?_
    refine x_getr fl_X8_18 dX8_tellLine_52 sf_15 rfl ?_
    refine x_ldcS dX8_tellLine_55 gsR_121 ?_
    refine x_cvd mf_X7_says ml_X8_104 dX8_tellLine_57 rfl sf_13 rfl ⟨by decide, by decide⟩ (Nat.le_of_ble_eq_true rfl) ⟨rfl, rfl⟩ ⟨Nat.le_of_ble_eq_true rfl, Nat.le_of_ble_eq_true rfl⟩ (cs 3) ?_
    refine x_ifb_eq 68 dX8_tellLine_60 (by decide) (fun _ => ?_) (fun hc_ => absurd ((rfl).symm.trans hc_) Bool.false_ne_true)
    refine x_aload_n dX8_tellLine_68 rfl ?_
    refine x_getr fl_X8_18 dX8_tellLine_69 sf_15 rfl ?_
    refine x_ldcS dX8_tellLine_72 gsR_126 ?_
    refine x_cvd mf_X7_says ml_X8_104 dX8_tellLine_74 rfl sf_13 rfl ⟨by decide, by decide⟩ (Nat.le_of_ble_eq_true rfl) ⟨rfl, rfl⟩ ⟨Nat.le_of_ble_eq_true rfl, Nat.le_of_ble_eq_true rfl⟩ (cs 4) ?_
    refine x_ifb_eq 85 dX8_tellLine_77 (by decide) (fun _ => ?_) (fun hc_ => absurd ((rfl).symm.trans hc_) Bool.false_ne_true)
    refine x_aload_n dX8_tellLine_85 rfl ?_
    refine x_aload_n dX8_tellLine_86 rfl ?_
    refine x_cvd mf_X8_misfit ml_X8_131 dX8_tellLine_87 rfl sf_15 rfl ⟨by decide, by decide⟩ (Nat.le_of_ble_eq_true rfl) ⟨rfl, rfl⟩ ⟨Nat.le_of_ble_eq_true rfl, Nat.le_of_ble_eq_true rfl⟩ (cm) ?_
    refine x_cvd mf_X8_refuse ml_X8_89 dX8_tellLine_90 rfl sf_15 rfl ⟨by decide, by decide⟩ (Nat.le_of_ble_eq_true rfl) ⟨rfl, rfl⟩ ⟨Nat.le_of_ble_eq_true rfl, Nat.le_of_ble_eq_true rfl⟩ (c_refuse (s := s) (mis (tK t n s)) hL.1) ?_
    exact x_iret dX8_tellLine_93 rfl (nz_b _) (Nat.le_refl _) (Nat.le_refl _) ⟨rfl, clE.of (Fl.rf M) (mis (tK t n s), s)⟩
def bgM (M : Mm) : Mm := up2 (up2 (up2 (up2 (up2 (up2 (up2 (up2 (up2 (up2 (rnM (up2 M 13 5 0) 16 0) 15 2 2) 15 3 2) 15 4 0) 15 5 0) 15 6 0) 15 7 0) 15 8 0) 15 9 0) 15 10 0) 15 11 0
theorem c_begin {Z : List (Option Nat)} {ext : List Ds} {M : Mm} : Ct mX8_begin [.ref 15] (SS Z ext) M (Rt none (bgM M)) := by
  refine Ct.of (by decide) (Nat.le_of_ble_eq_true rfl) ?_
  refine x_aload_n dX8_begin_0 rfl ?_
  refine x_getr fl_X8_18 dX8_begin_1 sf_15 rfl ?_
  refine x_cvd mf_X7_rewind ml_X8_44 dX8_begin_4 rfl sf_13 rfl ⟨by decide, by decide⟩ (Nat.le_of_ble_eq_true rfl) ⟨rfl, rfl⟩ ⟨Nat.le_of_ble_eq_true rfl, Nat.le_of_ble_eq_true rfl⟩ (c_rewind) ?_
  refine x_aload_n dX8_begin_7 rfl ?_
  refine x_getr fl_X8_12 dX8_begin_8 sf_15 rfl ?_
  refine x_iconst (v := 0) dX8_begin_11 (by decide) ?_
  refine x_cvd mf_X6_renew ml_X8_47 dX8_begin_12 rfl sf_16 rfl ⟨by decide, by decide⟩ (Nat.le_of_ble_eq_true rfl) ⟨rfl, rfl⟩ ⟨Nat.le_of_ble_eq_true rfl, Nat.le_of_ble_eq_true rfl⟩ (c_renew (ShT_16 Z ext) 0) ?_
  refine x_aload_n dX8_begin_15 rfl ?_
  refine x_iconst (v := 2) dX8_begin_16 (by decide) ?_
  refine x_put fl_X8_51 dX8_begin_17 sf_15 rfl rfl rfl ?_
  refine x_aload_n dX8_begin_20 rfl ?_
  refine x_iconst (v := 2) dX8_begin_21 (by decide) ?_
  refine x_put fl_X8_54 dX8_begin_22 sf_15 rfl rfl rfl ?_
  refine x_aload_n dX8_begin_25 rfl ?_
  refine x_iconst (v := 0) dX8_begin_26 (by decide) ?_
  refine x_put fl_X8_41 dX8_begin_27 sf_15 rfl rfl rfl ?_
  refine x_aload_n dX8_begin_30 rfl ?_
  refine x_iconst (v := 0) dX8_begin_31 (by decide) ?_
  refine x_put fl_X8_57 dX8_begin_32 sf_15 rfl rfl rfl ?_
  refine x_aload_n dX8_begin_35 rfl ?_
  refine x_iconst (v := 0) dX8_begin_36 (by decide) ?_
  refine x_put fl_X8_60 dX8_begin_37 sf_15 rfl rfl rfl ?_
  refine x_aload_n dX8_begin_40 rfl ?_
  refine x_iconst (v := 0) dX8_begin_41 (by decide) ?_
  refine x_put fl_X8_63 dX8_begin_42 sf_15 rfl rfl rfl ?_
  refine x_aload_n dX8_begin_45 rfl ?_
  refine x_iconst (v := 0) dX8_begin_46 (by decide) ?_
  refine x_put fl_X8_67 dX8_begin_47 sf_15 rfl rfl rfl ?_
  refine x_aload_n dX8_begin_50 rfl ?_
  refine x_iconst (v := 0) dX8_begin_51 (by decide) ?_
  refine x_put fl_X8_70 dX8_begin_52 sf_15 rfl rfl rfl ?_
  refine x_aload_n dX8_begin_55 rfl ?_
  refine x_iconst (v := 0) dX8_begin_56 (by decide) ?_
  refine x_put fl_X8_73 dX8_begin_57 sf_15 rfl rfl rfl ?_
  refine x_aload_n dX8_begin_60 rfl ?_
  refine x_iconst (v := 0) dX8_begin_61 (by decide) ?_
  refine x_put fl_X8_76 dX8_begin_62 sf_15 rfl rfl rfl ?_
  exact x_ret dX8_begin_65 rfl (Nat.le_refl _) (Nat.le_refl _) ⟨rfl, ⟨rfl, rfl⟩⟩
theorem bg_F (M : Mm) : Ft M (bgM M) := by
  refine ⟨fun c h1 h2 h3 h4 h5 => ?_, rfl⟩
  simp [bgM, rnM, up2, upr, h1, h2, h3, h4, h5]
theorem bg_D (M : Mm) : CD D0 (bgM M) := ⟨rfl, rfl, rfl, rfl, rfl, fun k hk => (show lies 0 (nI k) = _ by rw [lies_0]; rfl), fun k hk => (show fillv 31 1 (M 17) k = 1 from if_pos hk), fun k hk => (show lies 0 (nI k) = _ by rw [lies_0]; rfl), fun k hk => (show fillv 4 (-4) (M 18) k = -4 from if_pos hk), lies_0 _, lies_0 _⟩
def al (mt : Nat) : Int32 := ((1 : Int32) <<< (nI mt &&& 31)) - 1
theorem bi_al0 : ∀ mt, mt < 32 → ∀ k, k < 32 → bi (al mt) k = decide (k < mt) := by decide +kernel
theorem fin_ok {D : Dr} {M : Mm} (hD : CD D M) (hw : wDr D) : (M 15 8 ||| M 15 9) &&& (al (mtD D) ^^^ (-1)) = 0 ↔ okD D = true := by
  obtain ⟨r1, r2, r3, r4, r5, r6, r7, r8, r9, r10, r11⟩ := hD
  obtain ⟨w, hh, a1, a2, b1, b2, e1, e2⟩ := hw
  have hm : mtD D ≤ 31 := by
    unfold mtD
    rw [e1, e2, nI_clamp (by omega), nI_clamp (by omega)]
    exact mtN_31 a2 b2
  rw [okD_iff]
  have hb : ∀ k, k < 32 → bi ((M 15 8 ||| M 15 9) &&& (al (mtD D) ^^^ (-1))) k = ((bi (M 15 8) k || bi (M 15 9) k) && !decide (k < mtD D)) := by
    intro k hk
    rw [bi_and, bi_or, bi_not, bi_al0 _ (by omega) k hk, decide_eq_true hk, Bool.true_and]
  constructor
  · intro h k hk h1
    have h2 := hb k (by omega)
    rw [h, bi_0] at h2
    have h3 : (bi (M 15 8) k || bi (M 15 9) k) = true := by
      rcases h1 with h1 | h1
      · rw [← r4, lies_bi _ (by omega)] at h1
        rw [h1]; rfl
      · have := r6 k hk
        rw [decide_eq_false h1, lies_bi _ (by omega)] at this
        rw [this]; simp
    rw [h3, Bool.true_and] at h2
    by_cases q : k < mtD D
    · exact q
    · rw [decide_eq_false q] at h2; cases h2
  · intro h
    refine bi_z (fun k hk => ?_)
    rw [hb k hk]
    by_cases h31 : k = 31
    · subst h31
      rw [lies_bi _ (by omega)] at r10 r11
      rw [r10, r11]; rfl
    · cases hx : (bi (M 15 8) k || bi (M 15 9) k) with
      | false => rfl
      | true =>
        have : k < mtD D := by
          refine h k (by omega) ?_
          rw [Bool.or_eq_true] at hx
          rcases hx with hx | hx
          · left; rw [← r4, lies_bi _ (by omega)]; exact hx
          · right
            intro q
            have := r6 k (by omega)
            rw [decide_eq_true q, lies_bi _ (by omega), hx] at this
            cases this
        rw [decide_eq_true this]; rfl
def fnM (M : Mm) (mt : Nat) : Mm := up2 (up2 M 16 0 (al mt &&& (M 15 8 ^^^ (-1)))) 16 1 (if decide (M 15 10 = 0) then 14 else M 15 10)
abbrev fnP (D : Dr) (s : Nat) (M : Mm) (r : Option Value) (M' : Mm) : Prop := if okD D = true then r = some (.int (b2i true)) ∧ M' = fnM M (mtD D) else r = some (.int (b2i false)) ∧ M' = erM M (5, s)
theorem c_finish {Z : List (Option Nat)} {ext : List Ds} {M : Mm} {s : Nat} {D : Dr} (h3 : M 13 3 = nI s) (hD : CD D M) (hw : wDr D) : Ct mX8_finish [.ref 15] (SS Z ext) M (fnP D s M) := by
  have hf := fin_ok hD hw
  obtain ⟨w, hh, a1, a2, b1, b2, e1, e2⟩ := id hw
  have g1 : D.1.1.toNatClampNeg = w := by rw [e1, nI_clamp (by omega)]
  have g2 : D.1.2.1.toNatClampNeg = hh := by rw [e2, nI_clamp (by omega)]
  have hmt : M 15 2 * (M 15 3 + 1) + M 15 3 * (M 15 2 + 1) = nI (mtD D) := by
    rw [hD.1, hD.2.1, e1, e2, nI_1, nI_1, nI_mulN, nI_mulN, nI_add]
    unfold mtD mtN
    rw [g1, g2]
  have c1 := c_placesOf (S := SS Z ext) (M := M) (M 15 2) (M 15 3)
  rw [hmt] at c1
  have c2 := c_setOfAll (S := SS Z ext) (M := M) (nI (mtD D))
  rw [← al] at c2
  unfold fnP
  cases ho : okD D with
  | true =>
    simp only [if_true]
    have hz := hf.mpr ho
    have hfn : fnM M (mtD D) = up2 (up2 M 16 0 (al (mtD D) &&& (M 15 8 ^^^ (-1)))) 16 1 (if decide (M 15 10 = 0) then 14 else M 15 10) := rfl
    refine Ct.of (by decide) (Nat.le_of_ble_eq_true rfl) ?_
    refine x_aload_n dX8_finish_0 rfl ?_
    refine x_geti fl_X8_51 dX8_finish_1 sf_15 rfl ?_
    refine x_aload_n dX8_finish_4 rfl ?_
    refine x_geti fl_X8_54 dX8_finish_5 sf_15 rfl ?_
    refine x_csd mf_X2_placesOf ml_X8_79 dX8_finish_8 rfl ⟨by decide, by decide⟩ (Nat.le_of_ble_eq_true rfl) ⟨rfl, rfl⟩ ⟨Nat.le_of_ble_eq_true rfl, Nat.le_of_ble_eq_true rfl⟩ (c1) ?_
    refine x_csd mf_X2_setOfAll ml_X8_85 dX8_finish_11 rfl ⟨by decide, by decide⟩ (Nat.le_of_ble_eq_true rfl) ⟨rfl, rfl⟩ ⟨Nat.le_of_ble_eq_true rfl, Nat.le_of_ble_eq_true rfl⟩ (c2) ?_
    refine x_istore_n dX8_finish_14 (by decide) ?_
    refine x_aload_n dX8_finish_15 rfl ?_
    refine x_geti fl_X8_67 dX8_finish_16 sf_15 rfl ?_
    refine x_aload_n dX8_finish_19 rfl ?_
    refine x_geti fl_X8_70 dX8_finish_20 sf_15 rfl ?_
    refine x_ior dX8_finish_23 ?_
    refine x_iload_n dX8_finish_24 rfl ?_
    refine x_iconst (v := -1) dX8_finish_25 (by decide) ?_
    refine x_ixor dX8_finish_26 ?_
    refine x_iand dX8_finish_27 ?_
    refine x_if_eq 37 dX8_finish_28 (by decide) (fun _ => ?_) (fun hc_ => absurd (hz) hc_)
    refine x_aload_n dX8_finish_37 rfl ?_
    refine x_getr fl_X8_12 dX8_finish_38 sf_15 rfl ?_
    refine x_iload_n dX8_finish_41 rfl ?_
    refine x_aload_n dX8_finish_42 rfl ?_
    refine x_geti fl_X8_67 dX8_finish_43 sf_15 rfl ?_
    refine x_iconst (v := -1) dX8_finish_46 (by decide) ?_
    refine x_ixor dX8_finish_47 ?_
    refine x_iand dX8_finish_48 ?_
    refine x_put fl_X8_93 dX8_finish_49 sf_16 rfl rfl rfl ?_
    refine x_aload_n dX8_finish_52 rfl ?_
    refine x_getr fl_X8_12 dX8_finish_53 sf_15 rfl ?_
    refine x_aload_n dX8_finish_56 rfl ?_
    refine x_geti fl_X8_73 dX8_finish_57 sf_15 rfl ?_
    refine x_if_ne 68 dX8_finish_60 (by decide) (fun h60 => ?_) (fun h60 => ?_)
    · refine x_aload_n dX8_finish_68 rfl ?_
      refine x_geti fl_X8_73 dX8_finish_69 sf_15 rfl ?_
      refine x_put fl_X8_96 dX8_finish_72 sf_16 rfl rfl rfl ?_
      refine x_iconst (v := 1) dX8_finish_75 (by decide) ?_
      exact x_iret dX8_finish_76 rfl rfl (Nat.le_refl _) (Nat.le_refl _) ⟨rfl, ⟨rfl, by first | (rw [hfn, decide_eq_true (show M 15 10 = 0 from h60)]; rfl) | (rw [hfn, decide_eq_false (show ¬ M 15 10 = 0 from h60)]; rfl)⟩⟩
    · refine x_bipush (v := 14) dX8_finish_63 (by decide) ?_
      refine x_goto 72 dX8_finish_65 (by decide) ?_
      refine x_put fl_X8_96 dX8_finish_72 sf_16 rfl rfl rfl ?_
      refine x_iconst (v := 1) dX8_finish_75 (by decide) ?_
      exact x_iret dX8_finish_76 rfl rfl (Nat.le_refl _) (Nat.le_refl _) ⟨rfl, ⟨rfl, by first | (rw [hfn, decide_eq_true (show M 15 10 = 0 from h60)]; rfl) | (rw [hfn, decide_eq_false (show ¬ M 15 10 = 0 from h60)]; rfl)⟩⟩
  | false =>
    simp only [Bool.false_eq_true, if_false]
    have hz : ¬ (M 15 8 ||| M 15 9) &&& (al (mtD D) ^^^ (-1)) = 0 := fun q => by rw [hf.mp q] at ho; cases ho
    refine Ct.of (by decide) (Nat.le_of_ble_eq_true rfl) ?_
    refine x_aload_n dX8_finish_0 rfl ?_
    refine x_geti fl_X8_51 dX8_finish_1 sf_15 rfl ?_
    refine x_aload_n dX8_finish_4 rfl ?_
    refine x_geti fl_X8_54 dX8_finish_5 sf_15 rfl ?_
    refine x_csd mf_X2_placesOf ml_X8_79 dX8_finish_8 rfl ⟨by decide, by decide⟩ (Nat.le_of_ble_eq_true rfl) ⟨rfl, rfl⟩ ⟨Nat.le_of_ble_eq_true rfl, Nat.le_of_ble_eq_true rfl⟩ (c1) ?_
    refine x_csd mf_X2_setOfAll ml_X8_85 dX8_finish_11 rfl ⟨by decide, by decide⟩ (Nat.le_of_ble_eq_true rfl) ⟨rfl, rfl⟩ ⟨Nat.le_of_ble_eq_true rfl, Nat.le_of_ble_eq_true rfl⟩ (c2) ?_
    refine x_istore_n dX8_finish_14 (by decide) ?_
    refine x_aload_n dX8_finish_15 rfl ?_
    refine x_geti fl_X8_67 dX8_finish_16 sf_15 rfl ?_
    refine x_aload_n dX8_finish_19 rfl ?_
    refine x_geti fl_X8_70 dX8_finish_20 sf_15 rfl ?_
    refine x_ior dX8_finish_23 ?_
    refine x_iload_n dX8_finish_24 rfl ?_
    refine x_iconst (v := -1) dX8_finish_25 (by decide) ?_
    refine x_ixor dX8_finish_26 ?_
    refine x_iand dX8_finish_27 ?_
    refine x_if_eq 37 dX8_finish_28 (by decide) (fun hc_ => absurd hc_ (hz)) (fun _ => ?_)
    refine x_aload_n dX8_finish_31 rfl ?_
    refine x_iconst (v := 5) dX8_finish_32 (by decide) ?_
    refine x_cvd mf_X8_refuse ml_X8_89 dX8_finish_33 rfl sf_15 rfl ⟨by decide, by decide⟩ (Nat.le_of_ble_eq_true rfl) ⟨rfl, rfl⟩ ⟨Nat.le_of_ble_eq_true rfl, Nat.le_of_ble_eq_true rfl⟩ (c_refuse 5 h3) ?_
    exact x_iret dX8_finish_36 rfl (nz_b _) (Nat.le_refl _) (Nat.le_refl _) ⟨rfl, ⟨rfl, rfl⟩⟩
