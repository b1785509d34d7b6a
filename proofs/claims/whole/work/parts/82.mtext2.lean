/-! ===== the reference: the text ===== -/
def D0 : Dr := ((2, 2, false), (0, 0), (fun _ => 0), (fun _ => -4))
def wDr (D : Dr) : Prop := ∃ w h : Nat, 1 ≤ w ∧ w ≤ 4 ∧ 1 ≤ h ∧ h ≤ 3 ∧ D.1.1 = nI w ∧ D.1.2.1 = nI h
def mtN (w h : Nat) : Nat := w * (h + 1) + h * (w + 1)
def mtD (D : Dr) : Nat := mtN D.1.1.toNatClampNeg D.1.2.1.toNatClampNeg
theorem mtN_31 {w h : Nat} (hw4 : w ≤ 4) (hh3 : h ≤ 3) : mtN w h ≤ 31 := by
  have h1 := Nat.mul_le_mul hw4 (show h + 1 ≤ 4 by omega)
  have h2 := Nat.mul_le_mul hh3 (show w + 1 ≤ 5 by omega)
  unfold mtN
  omega
def okD (D : Dr) : Bool := (List.range 31).all (fun k => !(lies D.2.1.1 (nI k) || !decide (D.2.2.1 k = 0)) || decide (k < mtD D))
theorem okD_iff (D : Dr) : okD D = true ↔ ∀ k, k < 31 → (lies D.2.1.1 (nI k) = true ∨ ¬ D.2.2.1 k = 0) → k < mtD D := by
  unfold okD
  rw [List.all_eq_true]
  constructor
  · intro h k hk h1
    have h2 := h k (List.mem_range.mpr hk)
    rw [Bool.or_eq_true, decide_eq_true_iff] at h2
    rcases h2 with h2 | h2
    · exfalso
      rcases h1 with h1 | h1
      · rw [h1] at h2; simp at h2
      · rw [decide_eq_false h1] at h2; simp at h2
    · exact h2
  · intro h k hk
    rw [List.mem_range] at hk
    by_cases h1 : lies D.2.1.1 (nI k) = true ∨ ¬ D.2.2.1 k = 0
    · rw [decide_eq_true (h k hk h1)]; simp
    · have h2 : lies D.2.1.1 (nI k) = false := by
        cases hl : lies D.2.1.1 (nI k) with
        | false => rfl
        | true => exact absurd (Or.inl hl) h1
      have h3 : D.2.2.1 k = 0 := by
        by_cases hz : D.2.2.1 k = 0
        · exact hz
        · exact absurd (Or.inr hz) h1
      rw [h2, decide_eq_true h3]; rfl
def finE (X : Ex (Nat × Dr × Nat)) : Ex (Nat × Dr) := match X with
  | .inl e => .inl e
  | .inr (k, D, s) => if okD D then .inr (k, D) else .inl (5, s)
def finA (t : Nat → Int32) (n : Nat) : Ex (Nat × Dr) := finE (lns t n 330 D0 0 (tkB t n 0))
theorem lnK_w {t : Nat → Int32} {n s k s' : Nat} {D D' : Dr} (hw : wDr D) (h : lnK t n k D s = .inr (D', s')) : wDr D' := by
  unfold lnK lkG lkO lkC lkZ lkS4 at h
  split at h
  · split at h
    · cases h
    · rename_i hN
      split at h
      · cases h
      · rename_i hN2
        injection h with h; injection h with h3 h4; subst h3
        obtain ⟨w, a1, a2, a3⟩ := rg_nat (a := 1) (b := 4) (by decide) (by decide) (numA_r hN).2.1
        obtain ⟨h, b1, b2, b3⟩ := rg_nat (a := 1) (b := 3) (by decide) (by decide) (numA_r hN2).2.1
        exact ⟨w, h, a1, a2, b1, b2, a3, b3⟩
  · split at h
    · split at h
      · cases h
      · injection h with h; injection h with h3 h4; subst h3; exact hw
    · split at h
      · split at h
        · cases h
        · split at h
          · split at h
            · cases h
            · injection h with h; injection h with h3 h4; subst h3; exact hw
          · cases h
      · split at h
        · split at h
          · cases h
          · injection h with h; injection h with h3 h4; subst h3; exact hw
        · split at h
          · cases h
          · split at h
            · split at h
              · cases h
              · injection h with h; injection h with h3 h4; subst h3; exact hw
            · cases h
theorem lne_r {t : Nat → Int32} {n s s' : Nat} {D D' : Dr} (hs : s ≤ n) (h : lne t n D s = .inr (D', s')) : s < s' ∧ s' ≤ n ∧ (wDr D → wDr D') := by
  unfold lne at h
  split at h
  · rename_i hK1
    have hsn : s < n := tK_in (by rw [hK1]; decide)
    have h1 := nx_gt (t := t) hsn
    have h2 := nx_le (t := t) hs
    split at h
    · cases h
    · split at h
      · cases h
      · split at h
        · cases h
        · rename_i D1 s1 hX
          split at h
          · rename_i h3
            injection h with h; injection h with h4 h5; subst h4; subst h5
            obtain ⟨b1, b2⟩ := lnK_bd h2 hX
            have h6 := nx_gt (t := t) (n := n) (s := s1) (tK_in (by rw [h3]; decide))
            exact ⟨by omega, nx_le b2, fun hw => lnK_w hw hX⟩
          · cases h
  · cases h
theorem lns_r {t : Nat → Int32} {n : Nat} : ∀ (f : Nat) (D : Dr) (k s : Nat) {k' s' : Nat} {D' : Dr}, s ≤ n → wDr D → lns t n f D k s = .inr (k', D', s') → wDr D' ∧ s' ≤ n ∧ tK t n s' = 0
  | 0, D, k, s, k', s', D', _, _, h => by simp [lns] at h
  | f + 1, D, k, s, k', s', D', hs, hw, h => by
    rw [lns] at h
    split at h
    · rename_i h0
      injection h with h; injection h with h1 h2; injection h2 with h2 h3; subst h2; subst h3
      exact ⟨hw, hs, h0⟩
    · split at h
      · cases h
      · rename_i D1 s1 hX
        obtain ⟨_, b2, b3⟩ := lne_r hs hX
        exact lns_r f D1 (k + 1) s1 b2 (b3 hw) h
theorem wD0 : wDr D0 := ⟨2, 2, by decide, by decide, by decide, by decide, rfl, rfl⟩
theorem finA_w {t : Nat → Int32} {n k : Nat} {D : Dr} (h : finA t n = .inr (k, D)) : wDr D ∧ okD D = true := by
  unfold finA finE at h
  split at h
  · cases h
  · rename_i k1 D1 s1 hX
    split at h
    · rename_i ho
      injection h with h; injection h with h1 h2; subst h2
      exact ⟨(lns_r 330 D0 0 _ (rn_le (Nat.zero_le n)) wD0 hX).1, ho⟩
    · cases h
theorem hiO_ok {D : Dr} {x : Int32} (hw : wDr D) (h : hiO D.2.1.1 D.2.2.1 x) : x < nI (mtD D) ↔ okD D = true := by
  obtain ⟨w, hh, a1, a2, b1, b2, e1, e2⟩ := hw
  have hm : mtD D ≤ 31 := by
    unfold mtD
    rw [e1, e2, nI_clamp (by omega), nI_clamp (by omega)]
    exact mtN_31 a2 b2
  rw [h (mtD D) hm, okD_iff]
abbrev txE (e : Int32 × Nat) (M : Mm) (r : Option Value) (M' : Mm) : Prop := ∃ M1, Fp M M1 ∧ r = some (.int (-10 - nI e.2)) ∧ M1 48 24 = e.1 ∧ M' = up2 M1 48 19 0
abbrev txO (k : Nat) (D : Dr) (M : Mm) (r : Option Value) (M' : Mm) : Prop := ∃ M1, Fp M M1 ∧ r = some (.int (nI k)) ∧ RD D M1 ∧ M1 48 24 = 0 ∧ M' = kdM (up2 M1 48 19 0) D.1.1.toNatClampNeg D.1.2.1.toNatClampNeg
abbrev txP (X : Ex (Nat × Dr)) (M : Mm) (r : Option Value) (M' : Mm) : Prop := match X with
  | .inl e => txE e M r M'
  | .inr (k, D) => txO k D M r M'
abbrev txQ (Z : List (Option Nat)) (ext : List Ds) (X : Ex (Nat × Dr)) (M : Mm) : Fn := Fc mX10_text (fun r' S' M' => S' = SS Z ext ∧ txP X M r' M')
theorem tx_er {Z : List (Option Nat)} {ext : List Ds} {M M1 : Mm} {e : Int32 × Nat} {k : Int32} (hE : Er M1 e) (hF : Fp M M1) : XW mX10_text (txQ Z ext (.inl e) M) 0 0 (SS Z ext) M1 20 [some (.ref 48), some (.int k)] [] := by
  refine x_aload_n dX10_text_20 rfl ?_
  refine x_geti fl_X10_138 dX10_text_21 sf_48 rfl ?_
  refine x_if_ne 44 dX10_text_24 (by decide) (fun _ => ?_) (fun hc_ => absurd hc_ (pos_ne hE.pos))
  refine x_aload_n dX10_text_44 rfl ?_
  refine x_geti fl_X10_138 dX10_text_45 sf_48 rfl ?_
  refine x_if_ne 91 dX10_text_48 (by decide) (fun _ => ?_) (fun hc_ => absurd hc_ (pos_ne hE.pos))
  refine x_aload_n dX10_text_91 rfl ?_
  refine x_iconst (v := 0) dX10_text_92 (by decide) ?_
  refine x_put fl_X10_129 dX10_text_93 sf_48 rfl rfl rfl ?_
  refine x_aload_n dX10_text_96 rfl ?_
  refine x_geti fl_X10_138 dX10_text_97 sf_48 rfl ?_
  refine x_if_le 111 dX10_text_100 (by decide) (fun hc_ => absurd hc_ (pos_nle hE.pos)) (fun _ => ?_)
  refine x_bipush (v := -10) dX10_text_103 (by decide) ?_
  refine x_aload_n dX10_text_105 rfl ?_
  refine x_geti fl_X10_144 dX10_text_106 sf_48 rfl ?_
  refine x_isub dX10_text_109 ?_
  exact x_iret dX10_text_110 rfl rfl (Nat.le_refl _) (Nat.le_refl _) ⟨rfl, (⟨M1, hF, oi (by show (-10 : Int32) - M1 48 25 = _; rw [hE.2.2]), hE.1, rfl⟩ : txE e M _ _)⟩
theorem tx_end {Z : List (Option Nat)} {ext : List Ds} {t : Nat → Int32} {n s k : Nat} {D : Dr} {M M1 : Mm} (h0 : tK t n s = 0) (hL : Ld t n s (M1 48)) (hw : wDr D) (hD : RD D M1) (hF : Fp M M1) : XW mX10_text (txQ Z ext (finE (.inr (k, D, s))) M) 0 0 (SS Z ext) M1 20 [some (.ref 48), some (.int (nI k))] [] := by
  obtain ⟨h24, h20, h22, -⟩ := hL.2.2 (by rw [h0]; decide)
  rw [h0] at h22
  have hi := hiO_ok hw hD.2.2.2.2.2.2.2
  obtain ⟨w, hh, a1, a2, b1, b2, e1, e2⟩ := id hw
  have g1 : D.1.1.toNatClampNeg = w := by rw [e1, nI_clamp (by omega)]
  have g2 : D.1.2.1.toNatClampNeg = hh := by rw [e2, nI_clamp (by omega)]
  have hmt : M1 48 10 * (M1 48 11 + 1) + M1 48 11 * (M1 48 10 + 1) = nI (mtD D) := by
    rw [hD.1, hD.2.1, e1, e2, nI_1, nI_1, nI_mulN, nI_mulN, nI_add]
    unfold mtD mtN
    rw [g1, g2]
  have ck := c_m_keepDraft (Z := Z) (ext := ext) (M := up2 M1 48 19 0) (w := D.1.1.toNatClampNeg) (h := D.1.2.1.toNatClampNeg) (by show M1 48 10 = _; rw [hD.1, g1, e1]) (by omega) (by show M1 48 11 = _; rw [hD.2.1, g2, e2]) (by omega)
  unfold finE
  dsimp only
  cases ho : okD D with
  | true =>
    rw [if_pos rfl]
    have hlt := hi.mpr ho
    refine x_aload_n dX10_text_20 rfl ?_
    refine x_geti fl_X10_138 dX10_text_21 sf_48 rfl ?_
    refine x_if_ne 44 dX10_text_24 (by decide) (fun hc_ => absurd (h24) hc_) (fun _ => ?_)
    refine x_aload_n dX10_text_27 rfl ?_
    refine x_geti fl_X10_158 dX10_text_28 sf_48 rfl ?_
    refine x_if_eq 44 dX10_text_31 (by decide) (fun _ => ?_) (fun hc_ => absurd (h22) hc_)
    refine x_aload_n dX10_text_44 rfl ?_
    refine x_geti fl_X10_138 dX10_text_45 sf_48 rfl ?_
    refine x_if_ne 91 dX10_text_48 (by decide) (fun hc_ => absurd (h24) hc_) (fun _ => ?_)
    refine x_aload_n dX10_text_51 rfl ?_
    refine x_aload_n dX10_text_52 rfl ?_
    refine x_geti fl_X10_100 dX10_text_53 sf_48 rfl ?_
    refine x_aload_n dX10_text_56 rfl ?_
    refine x_geti fl_X10_83 dX10_text_57 sf_48 rfl ?_
    refine x_aload_n dX10_text_60 rfl ?_
    refine x_geti fl_X10_87 dX10_text_61 sf_48 rfl ?_
    refine x_iconst (v := 1) dX10_text_64 (by decide) ?_
    refine x_iadd dX10_text_65 ?_
    refine x_imul dX10_text_66 ?_
    refine x_aload_n dX10_text_67 rfl ?_
    refine x_geti fl_X10_87 dX10_text_68 sf_48 rfl ?_
    refine x_aload_n dX10_text_71 rfl ?_
    refine x_geti fl_X10_83 dX10_text_72 sf_48 rfl ?_
    refine x_iconst (v := 1) dX10_text_75 (by decide) ?_
    refine x_iadd dX10_text_76 ?_
    refine x_imul dX10_text_77 ?_
    refine x_iadd dX10_text_78 ?_
    rw [hmt]
    refine x_icmp_ge 86 dX10_text_79 (by decide) (fun hc_ => absurd hc_ (fun q => absurd hlt (by rw [fa_lt]; rw [fa_le] at q; omega))) (fun _ => ?_)
    refine x_iconst (v := 1) dX10_text_82 (by decide) ?_
    refine x_goto 87 dX10_text_83 (by decide) ?_
    refine x_iconst (v := 5) dX10_text_87 (by decide) ?_
    refine x_cvd mf_X10_needs ml_X10_172 dX10_text_88 rfl sf_48 rfl ⟨by decide, by decide⟩ (Nat.le_of_ble_eq_true rfl) ⟨rfl, rfl⟩ ⟨Nat.le_of_ble_eq_true rfl, Nat.le_of_ble_eq_true rfl⟩ (c_m_needsT 5) ?_
    refine x_aload_n dX10_text_91 rfl ?_
    refine x_iconst (v := 0) dX10_text_92 (by decide) ?_
    refine x_put fl_X10_129 dX10_text_93 sf_48 rfl rfl rfl ?_
    refine x_aload_n dX10_text_96 rfl ?_
    refine x_geti fl_X10_138 dX10_text_97 sf_48 rfl ?_
    refine x_if_le 111 dX10_text_100 (by decide) (fun _ => ?_) (fun hc_ => absurd (by show M1 48 24 ≤ 0; rw [h24]; decide) hc_)
    refine x_aload_n dX10_text_111 rfl ?_
    refine x_cvd mf_X10_keepDraft ml_X10_80 dX10_text_112 rfl sf_48 rfl ⟨by decide, by decide⟩ (Nat.le_of_ble_eq_true rfl) ⟨rfl, rfl⟩ ⟨Nat.le_of_ble_eq_true rfl, Nat.le_of_ble_eq_true rfl⟩ (ck) ?_
    refine x_iload_n dX10_text_115 rfl ?_
    exact x_iret dX10_text_116 rfl rfl (Nat.le_refl _) (Nat.le_refl _) ⟨rfl, (⟨M1, hF, rfl, hD, h24, rfl⟩ : txO k D M _ _)⟩
  | false =>
    rw [if_neg (by decide)]
    have hge : nI (mtD D) ≤ M1 48 17 := by
      have : ¬ M1 48 17 < nI (mtD D) := fun q => by rw [hi.mp q] at ho; cases ho
      rw [fa_lt] at this
      rw [fa_le]
      omega
    refine x_aload_n dX10_text_20 rfl ?_
    refine x_geti fl_X10_138 dX10_text_21 sf_48 rfl ?_
    refine x_if_ne 44 dX10_text_24 (by decide) (fun hc_ => absurd (h24) hc_) (fun _ => ?_)
    refine x_aload_n dX10_text_27 rfl ?_
    refine x_geti fl_X10_158 dX10_text_28 sf_48 rfl ?_
    refine x_if_eq 44 dX10_text_31 (by decide) (fun _ => ?_) (fun hc_ => absurd (h22) hc_)
    refine x_aload_n dX10_text_44 rfl ?_
    refine x_geti fl_X10_138 dX10_text_45 sf_48 rfl ?_
    refine x_if_ne 91 dX10_text_48 (by decide) (fun hc_ => absurd (h24) hc_) (fun _ => ?_)
    refine x_aload_n dX10_text_51 rfl ?_
    refine x_aload_n dX10_text_52 rfl ?_
    refine x_geti fl_X10_100 dX10_text_53 sf_48 rfl ?_
    refine x_aload_n dX10_text_56 rfl ?_
    refine x_geti fl_X10_83 dX10_text_57 sf_48 rfl ?_
    refine x_aload_n dX10_text_60 rfl ?_
    refine x_geti fl_X10_87 dX10_text_61 sf_48 rfl ?_
    refine x_iconst (v := 1) dX10_text_64 (by decide) ?_
    refine x_iadd dX10_text_65 ?_
    refine x_imul dX10_text_66 ?_
    refine x_aload_n dX10_text_67 rfl ?_
    refine x_geti fl_X10_87 dX10_text_68 sf_48 rfl ?_
    refine x_aload_n dX10_text_71 rfl ?_
    refine x_geti fl_X10_83 dX10_text_72 sf_48 rfl ?_
    refine x_iconst (v := 1) dX10_text_75 (by decide) ?_
    refine x_iadd dX10_text_76 ?_
    refine x_imul dX10_text_77 ?_
    refine x_iadd dX10_text_78 ?_
    rw [hmt]
    refine x_icmp_ge 86 dX10_text_79 (by decide) (fun _ => ?_) (fun hc_ => absurd (hge) hc_)
    refine x_iconst (v := 0) dX10_text_86 (by decide) ?_
    refine x_iconst (v := 5) dX10_text_87 (by decide) ?_
    refine x_cvd mf_X10_needs ml_X10_172 dX10_text_88 rfl sf_48 rfl ⟨by decide, by decide⟩ (Nat.le_of_ble_eq_true rfl) ⟨rfl, rfl⟩ ⟨Nat.le_of_ble_eq_true rfl, Nat.le_of_ble_eq_true rfl⟩ (c_m_needsF 5 h24) ?_
    refine x_aload_n dX10_text_91 rfl ?_
    refine x_iconst (v := 0) dX10_text_92 (by decide) ?_
    refine x_put fl_X10_129 dX10_text_93 sf_48 rfl rfl rfl ?_
    refine x_aload_n dX10_text_96 rfl ?_
    refine x_geti fl_X10_138 dX10_text_97 sf_48 rfl ?_
    refine x_if_le 111 dX10_text_100 (by decide) (fun hc_ => absurd hc_ (show ¬ (5 : Int32) ≤ 0 by decide)) (fun _ => ?_)
    refine x_bipush (v := -10) dX10_text_103 (by decide) ?_
    refine x_aload_n dX10_text_105 rfl ?_
    refine x_geti fl_X10_144 dX10_text_106 sf_48 rfl ?_
    refine x_isub dX10_text_109 ?_
    exact x_iret dX10_text_110 rfl rfl (Nat.le_refl _) (Nat.le_refl _) ⟨rfl, (⟨up2 (up2 M1 48 24 5) 48 25 (M1 48 21), (hF.up _ (Or.inr ⟨by decide, by decide⟩)).up _ (Or.inr ⟨by decide, by decide⟩), oi (by show (-10 : Int32) - M1 48 21 = _; rw [hL.1]), rfl, rfl⟩ : txE (5, s) M _ _)⟩
theorem tx_at {Z : List (Option Nat)} {ext : List Ds} {t : Nat → Int32} {n : Nat} {M : Mm} : ∀ (f : Nat) (D : Dr) (k s : Nat) (M1 : Mm), n - s < f → TP t n M1 → Ld t n s (M1 48) → s ≤ n → (tK t n s ≠ 4 → RD D M1) → wDr D → Fp M M1 → XW mX10_text (txQ Z ext (finE (lns t n f D k s)) M) 0 0 (SS Z ext) M1 20 [some (.ref 48), some (.int (nI k))] [] := by
  intro f
  induction f with
  | zero => intro D k s M1 h; omega
  | succ f ih =>
    intro D k s M1 hf hT hL hs hD hw hF
    rw [lns]
    by_cases h0 : tK t n s = 0
    · rw [if_pos h0]
      exact tx_end h0 hL hw (hD (by rw [h0]; decide)) hF
    · rw [if_neg h0]
      by_cases h4 : tK t n s = 4
      · have hl : lne t n D s = .inl (1, s) := by
          unfold lne
          rw [if_neg (by rw [h4]; decide), h4]
          rfl
        rw [hl]
        exact tx_er (hL.er h4) hF
      · obtain ⟨h24, h20, h22, -⟩ := hL.2.2 h4
        have hb4 := tK_4 (t := t) (n := n) (s := s)
        have cl := c_m_readLine (Z := Z) (ext := ext) hT hL h4 hs (hD h4)
        unfold exP at cl
        cases hX : lne t n D s with
        | inl e =>
          rw [hX] at cl
          refine x_aload_n dX10_text_20 rfl ?_
          refine x_geti fl_X10_138 dX10_text_21 sf_48 rfl ?_
          refine x_if_ne 44 dX10_text_24 (by decide) (fun hc_ => absurd (h24) hc_) (fun _ => ?_)
          refine x_aload_n dX10_text_27 rfl ?_
          refine x_geti fl_X10_158 dX10_text_28 sf_48 rfl ?_
          refine x_if_eq 44 dX10_text_31 (by decide) (fun hc_ => absurd hc_ (by rw [h22]; exact fun q => h0 ((nI_eq (a := tK t n s) (b := 0) (by omega) (by omega)).mp q))) (fun _ => ?_)
          refine x_aload_n dX10_text_34 rfl ?_
          refine x_cv mf_X10_readLine ml_X10_202 dX10_text_35 rfl sf_48 rfl ⟨by decide, by decide⟩ (Nat.le_of_ble_eq_true rfl) ⟨rfl, rfl⟩ ⟨Nat.le_of_ble_eq_true rfl, Nat.le_of_ble_eq_true rfl⟩ (cl) (fun r M2 ⟨hr, hF2, hE⟩ => ?_)
          subst hr
          refine x_iinc1 dX10_text_38 rfl (by decide) ?_
          refine x_goto 20 dX10_text_41 (by decide) ?_
          exact tx_er hE (hF.tr hF2)
        | inr x =>
          obtain ⟨D', s'⟩ := x
          rw [hX] at cl
          obtain ⟨b1, b2, b3⟩ := lne_r hs hX
          have ihx := ih D' (k + 1) s'
          rw [← nI_1 k] at ihx
          refine x_aload_n dX10_text_20 rfl ?_
          refine x_geti fl_X10_138 dX10_text_21 sf_48 rfl ?_
          refine x_if_ne 44 dX10_text_24 (by decide) (fun hc_ => absurd (h24) hc_) (fun _ => ?_)
          refine x_aload_n dX10_text_27 rfl ?_
          refine x_geti fl_X10_158 dX10_text_28 sf_48 rfl ?_
          refine x_if_eq 44 dX10_text_31 (by decide) (fun hc_ => absurd hc_ (by rw [h22]; exact fun q => h0 ((nI_eq (a := tK t n s) (b := 0) (by omega) (by omega)).mp q))) (fun _ => ?_)
          refine x_aload_n dX10_text_34 rfl ?_
          refine x_cv mf_X10_readLine ml_X10_202 dX10_text_35 rfl sf_48 rfl ⟨by decide, by decide⟩ (Nat.le_of_ble_eq_true rfl) ⟨rfl, rfl⟩ ⟨Nat.le_of_ble_eq_true rfl, Nat.le_of_ble_eq_true rfl⟩ (cl) (fun r M2 ⟨hr, hF2, hD2, hL2⟩ => ?_)
          subst hr
          refine x_iinc1 dX10_text_38 rfl (by decide) ?_
          refine x_goto 20 dX10_text_41 (by decide) ?_
          exact ihx M2 (by omega) (hT.go hF2) hL2 b2 hD2 (b3 hw) (hF.tr hF2)
theorem hi_0 : hiO 0 (fun _ => 0) (-4) := by
  intro mt hmt
  constructor
  · intro _ k hk h
    rcases h with h | h
    · exfalso
      have : lies 0 (nI k) = false := by unfold lies; simp
      rw [this] at h; cases h
    · exact absurd rfl h
  · intro _
    have h0 : 0 ≤ nI mt := nI_pos' (by omega)
    have e0 : (0 : Int32).toInt = 0 := by decide
    have e4 : (-4 : Int32).toInt = -4 := by decide
    rw [fa_le, e0] at h0
    rw [fa_lt, e4]
    omega
theorem fd_RD (M : Mm) : RD D0 (fdM M) := ⟨rfl, rfl, rfl, rfl, rfl, fun k hk => (show fillv 31 0 (M 55) k = 0 from if_pos hk), fun k hk => (show fillv 4 (-4) (M 56) k = -4 from if_pos hk), hi_0⟩
theorem fd_Fp (M : Mm) : Fp M (fdM M) := by
  refine ⟨fun c h1 h2 h3 => ?_, fun k hk => ?_⟩
  · simp [fdM, up2, upr, h1, h2, h3]
  · have h10 : k ≠ 10 := by omega
    have h11 : k ≠ 11 := by omega
    have h12 : k ≠ 12 := by omega
    have h14 : k ≠ 14 := by omega
    have h16 : k ≠ 16 := by omega
    have h17 : k ≠ 17 := by omega
    simp [fdM, up2, upr, upd, h10, h11, h12, h14, h16, h17]
theorem c_m_text {Z : List (Option Nat)} {ext : List Ds} {M : Mm} {t : Nat → Int32} {n : Nat} (hT : TP t n M) : Ct mX10_text [.ref 48] (SS Z ext) M (txP (finA t n) M) := by
  have hF1 : Fp M (up2 (up2 M 48 24 0) 48 20 0) := ((Fp.rf M).up _ (Or.inr ⟨by decide, by decide⟩)).up _ (Or.inr ⟨by decide, by decide⟩)
  have hF2 := hF1.tr (fd_Fp (up2 (up2 M 48 24 0) 48 20 0))
  have hD2 := fd_RD (up2 (up2 M 48 24 0) 48 20 0)
  have cf := c_m_firstDraft (Z := Z) (ext := ext) (M := up2 (up2 M 48 24 0) 48 20 0)
  have e24 : fdM (up2 (up2 M 48 24 0) 48 20 0) 48 24 = 0 := rfl
  have e20 : fdM (up2 (up2 M 48 24 0) 48 20 0) 48 20 = nI 0 := rfl
  generalize fdM (up2 (up2 M 48 24 0) 48 20 0) = X at hF2 hD2 cf e24 e20
  have hT2 := hT.go hF2
  have cn := c_m_next (Z := Z) (ext := ext) (M := X) (n := n) (p := 0) e24 hT2.2.1 hT2.2.2.1 e20 (Nat.zero_le n) (by rw [hT2.1]; exact hT2.2.2.2)
  unfold nxP at cn
  rw [hT2.1] at cn
  have hb := hT.2.2.1
  have fin := fun M3 h1 h2 h3 h4 => tx_at (Z := Z) (ext := ext) (t := t) (n := n) (M := M) 330 D0 0 (tkB t n 0) M3 (by omega) h1 h2 (rn_le (Nat.zero_le n)) h3 wD0 h4
  refine Ct.of (by decide) (Nat.le_of_ble_eq_true rfl) ?_
  refine x_iconst (v := 0) dX10_text_0 (by decide) ?_
  refine x_istore_n dX10_text_1 (by decide) ?_
  refine x_aload_n dX10_text_2 rfl ?_
  refine x_iconst (v := 0) dX10_text_3 (by decide) ?_
  refine x_put fl_X10_138 dX10_text_4 sf_48 rfl rfl rfl ?_
  refine x_aload_n dX10_text_7 rfl ?_
  refine x_iconst (v := 0) dX10_text_8 (by decide) ?_
  refine x_put fl_X10_147 dX10_text_9 sf_48 rfl rfl rfl ?_
  refine x_aload_n dX10_text_12 rfl ?_
  refine x_cvd mf_X10_firstDraft ml_X10_77 dX10_text_13 rfl sf_48 rfl ⟨by decide, by decide⟩ (Nat.le_of_ble_eq_true rfl) ⟨rfl, rfl⟩ ⟨Nat.le_of_ble_eq_true rfl, Nat.le_of_ble_eq_true rfl⟩ (cf) ?_
  refine x_aload_n dX10_text_16 rfl ?_
  refine x_cv mf_X10_next ml_X10_179 dX10_text_17 rfl sf_48 rfl ⟨by decide, by decide⟩ (Nat.le_of_ble_eq_true rfl) ⟨rfl, rfl⟩ ⟨Nat.le_of_ble_eq_true rfl, Nat.le_of_ble_eq_true rfl⟩ (cn) (fun r M3 ⟨hr, hO3, hF3, hL3⟩ => ?_)
  subst hr
  exact fin M3 (hT2.go (Fp.on hO3 hF3)) hL3 (fun _ => hD2.on hO3 hF3) (hF2.tr (Fp.on hO3 hF3))
