/-! ===== the class: Telling's small methods ===== -/
/-- what a parse leaves as it was -/
def Ft (M M' : Mm) : Prop := (∀ c, c ≠ 13 → c ≠ 15 → c ≠ 16 → c ≠ 17 → c ≠ 18 → M' c = M c) ∧ M' 13 1 = M 13 1
theorem Ft.rf (M : Mm) : Ft M M := ⟨fun _ _ _ _ _ _ => rfl, rfl⟩
theorem Ft.tr {M M' M'' : Mm} (h : Ft M M') (h2 : Ft M' M'') : Ft M M'' := ⟨fun c q1 q2 q3 q4 q5 => (h2.1 c q1 q2 q3 q4 q5).trans (h.1 c q1 q2 q3 q4 q5), h2.2.trans h.2⟩
theorem Ft.on {M M' : Mm} (h : On13 M M') : Ft M M' := ⟨fun c q1 _ _ _ _ => h.1 c q1, h.2⟩
theorem Ft.up {M M' : Mm} (h : Ft M M') {c k : Nat} (v : Int32) (hc : c = 15 ∨ c = 16 ∨ c = 17 ∨ c = 18) : Ft M (up2 M' c k v) := ⟨fun d q1 q2 q3 q4 q5 => (up2_n M' v (by omega)).trans (h.1 d q1 q2 q3 q4 q5), by rw [up2_n M' v (by omega)]; exact h.2⟩
theorem Ft.t {M M' : Mm} (h : Ft M M') : M' 14 = M 14 := h.1 14 (by decide) (by decide) (by decide) (by decide) (by decide)
/-- the tape, as it stands through a parse -/
def CT (t : Nat → Int32) (n : Nat) (M : Mm) : Prop := M 14 = t ∧ M 13 1 = nI n ∧ n ≤ 320
theorem CT.go {t : Nat → Int32} {n : Nat} {M M' : Mm} (h : CT t n M) (hF : Ft M M') : CT t n M' := ⟨hF.t.trans h.1, hF.2.trans h.2.1, h.2.2⟩
/-- a fault is noted -/
def erM (M : Mm) (e : Int32 × Nat) : Mm := up2 (up2 M 15 5 e.1) 15 6 (nI e.2)
theorem erM_F {M M' : Mm} (h : Ft M M') (e : Int32 × Nat) : Ft M (erM M' e) := (h.up _ (Or.inl rfl)).up _ (Or.inl rfl)
theorem c_refuse {Z : List (Option Nat)} {ext : List Ds} {M : Mm} {s : Nat} (v : Int32) (h3 : M 13 3 = nI s) : Ct mX8_refuse [.ref 15, .int v] (SS Z ext) M (Rt (some (.int (b2i false))) (erM M (v, s))) := by
  refine Ct.of (by decide) (Nat.le_of_ble_eq_true rfl) ?_
  refine x_aload_n dX8_refuse_0 rfl ?_
  refine x_iload_n dX8_refuse_1 rfl ?_
  refine x_put fl_X8_57 dX8_refuse_2 sf_15 rfl rfl rfl ?_
  refine x_aload_n dX8_refuse_5 rfl ?_
  refine x_aload_n dX8_refuse_6 rfl ?_
  refine x_getr fl_X8_18 dX8_refuse_7 sf_15 rfl ?_
  refine x_geti fl_X8_99 dX8_refuse_10 sf_13 rfl ?_
  refine x_put fl_X8_60 dX8_refuse_13 sf_15 rfl rfl rfl ?_
  refine x_iconst (v := 0) dX8_refuse_16 (by decide) ?_
  exact x_iret dX8_refuse_17 rfl rfl (Nat.le_refl _) (Nat.le_refl _) ⟨rfl, ⟨rfl, by rw [erM]; show up2 _ 15 6 (M 13 3) = _; rw [h3]⟩⟩
theorem c_misfit {Z : List (Option Nat)} {ext : List Ds} {M : Mm} {K : Nat} (h2 : M 13 2 = nI K) (hK : K ≤ 4) : Ct mX8_misfit [.ref 15] (SS Z ext) M (Rt (some (.int (mis K))) M) := by
  by_cases h4 : K = 4
  · subst h4
    refine Ct.of (by decide) (Nat.le_of_ble_eq_true rfl) ?_
    refine x_aload_n dX8_misfit_0 rfl ?_
    refine x_getr fl_X8_18 dX8_misfit_1 sf_15 rfl ?_
    refine x_geti fl_X8_30 dX8_misfit_4 sf_13 rfl ?_
    refine x_iconst (v := 4) dX8_misfit_7 (by decide) ?_
    refine x_icmp_ne 15 dX8_misfit_8 (by decide) (fun hc_ => absurd (h2) hc_) (fun _ => ?_)
    refine x_iconst (v := 1) dX8_misfit_11 (by decide) ?_
    refine x_goto 16 dX8_misfit_12 (by decide) ?_
    exact x_iret dX8_misfit_16 rfl rfl (Nat.le_refl _) (Nat.le_refl _) ⟨rfl, ⟨rfl, rfl⟩⟩
  · rw [mis_n h4]
    refine Ct.of (by decide) (Nat.le_of_ble_eq_true rfl) ?_
    refine x_aload_n dX8_misfit_0 rfl ?_
    refine x_getr fl_X8_18 dX8_misfit_1 sf_15 rfl ?_
    refine x_geti fl_X8_30 dX8_misfit_4 sf_13 rfl ?_
    refine x_iconst (v := 4) dX8_misfit_7 (by decide) ?_
    refine x_icmp_ne 15 dX8_misfit_8 (by decide) (fun _ => ?_) (fun hc_ => absurd hc_ (by rw [h2]; exact fun q => h4 ((nI_eq (a := K) (b := 4) (by omega) (by omega)).mp q)))
    refine x_iconst (v := 2) dX8_misfit_15 (by decide) ?_
    exact x_iret dX8_misfit_16 rfl rfl (Nat.le_refl _) (Nat.le_refl _) ⟨rfl, ⟨rfl, rfl⟩⟩
/-- the token at s is a number within bounds that was not told -/
def numT (t : Nat → Int32) (n : Nat) (lo hi told : Int32) (s : Nat) : Ex Int32 := match numA t n lo hi s with
  | .inl e => .inl e
  | .inr v => if lies told v then .inl (4, s) else .inr v
abbrev inP (X : Ex Int32) (M : Mm) (r : Option Value) (M' : Mm) : Prop := match X with
  | .inl e => r = some (.int (b2i false)) ∧ M' = erM M e
  | .inr _ => r = some (.int (b2i true)) ∧ M' = M
theorem c_isNumber {Z : List (Option Nat)} {ext : List Ds} {M : Mm} {t : Nat → Int32} {n s : Nat} (lo hi told : Int32) (hL : CLd t n s (M 13)) : Ct mX8_isNumber [.ref 15, .int lo, .int hi, .int told] (SS Z ext) M (inP (numT t n lo hi told s) M) := by
  obtain ⟨h3, h2, -, h4⟩ := hL
  have hb4 := tK_4 (t := t) (n := n) (s := s)
  have cm := c_misfit (Z := Z) (ext := ext) (M := M) h2 hb4
  unfold numT numA
  by_cases hK2 : tK t n s = 2
  · rw [if_pos hK2]
    have hv := h4 hK2
    rw [hK2] at h2
    have e2 : M 13 2 = 2 := h2
    cases hr : rg (tV t n s) lo hi with
    | true =>
      rw [if_pos rfl]
      dsimp only
      obtain ⟨g1, g2⟩ := rg_t.mp hr
      cases hl : lies told (tV t n s) with
      | true =>
        rw [if_pos rfl]
        refine Ct.of (by decide) (Nat.le_of_ble_eq_true rfl) ?_
        refine x_aload_n dX8_isNumber_0 rfl ?_
        refine x_getr fl_X8_18 dX8_isNumber_1 sf_15 rfl ?_
        refine x_geti fl_X8_30 dX8_isNumber_4 sf_13 rfl ?_
        refine x_iconst (v := 2) dX8_isNumber_7 (by decide) ?_
        refine x_icmp_eq 20 dX8_isNumber_8 (by decide) (fun _ => ?_) (fun hc_ => absurd (e2) hc_)
        refine x_aload_n dX8_isNumber_20 rfl ?_
        refine x_getr fl_X8_18 dX8_isNumber_21 sf_15 rfl ?_
        refine x_geti fl_X8_139 dX8_isNumber_24 sf_13 rfl ?_
        refine x_iload_n dX8_isNumber_27 rfl ?_
        refine x_icmp_lt 42 dX8_isNumber_28 (by decide) (fun hc_ => absurd hc_ (by rw [hv]; exact le_nlt g1)) (fun _ => ?_)
        refine x_aload_n dX8_isNumber_31 rfl ?_
        refine x_getr fl_X8_18 dX8_isNumber_32 sf_15 rfl ?_
        refine x_geti fl_X8_139 dX8_isNumber_35 sf_13 rfl ?_
        refine x_iload_n dX8_isNumber_38 rfl ?_
        refine x_icmp_le 48 dX8_isNumber_39 (by decide) (fun _ => ?_) (fun hc_ => absurd (by rw [hv]; exact g2) hc_)
        refine x_iload_n dX8_isNumber_48 rfl ?_
        refine x_aload_n dX8_isNumber_49 rfl ?_
        refine x_getr fl_X8_18 dX8_isNumber_50 sf_15 rfl ?_
        refine x_geti fl_X8_139 dX8_isNumber_53 sf_13 rfl ?_
        rw [hv]
        refine x_ishr dX8_isNumber_56 ?_
        refine x_iconst (v := 1) dX8_isNumber_57 (by decide) ?_
        refine x_iand dX8_isNumber_58 ?_
        refine x_if_eq 70 dX8_isNumber_59 (by decide) (fun hc_ => absurd hc_ (nlies hl)) (fun _ => ?_)
        refine x_aload_n dX8_isNumber_62 rfl ?_
        refine x_iconst (v := 4) dX8_isNumber_63 (by decide) ?_
        refine x_cvd mf_X8_refuse ml_X8_89 dX8_isNumber_64 rfl sf_15 rfl ⟨by decide, by decide⟩ (Nat.le_of_ble_eq_true rfl) ⟨rfl, rfl⟩ ⟨Nat.le_of_ble_eq_true rfl, Nat.le_of_ble_eq_true rfl⟩ (c_refuse 4 h3) ?_
        refine x_ifb_eq 74 dX8_isNumber_67 (by decide) (fun _ => ?_) (fun hc_ => absurd ((rfl).symm.trans hc_) Bool.false_ne_true)
        refine x_iconst (v := 0) dX8_isNumber_74 (by decide) ?_
        exact x_iret dX8_isNumber_75 rfl rfl (Nat.le_refl _) (Nat.le_refl _) ⟨rfl, ⟨rfl, rfl⟩⟩
      | false =>
        rw [if_neg (by decide)]
        refine Ct.of (by decide) (Nat.le_of_ble_eq_true rfl) ?_
        refine x_aload_n dX8_isNumber_0 rfl ?_
        refine x_getr fl_X8_18 dX8_isNumber_1 sf_15 rfl ?_
        refine x_geti fl_X8_30 dX8_isNumber_4 sf_13 rfl ?_
        refine x_iconst (v := 2) dX8_isNumber_7 (by decide) ?_
        refine x_icmp_eq 20 dX8_isNumber_8 (by decide) (fun _ => ?_) (fun hc_ => absurd (e2) hc_)
        refine x_aload_n dX8_isNumber_20 rfl ?_
        refine x_getr fl_X8_18 dX8_isNumber_21 sf_15 rfl ?_
        refine x_geti fl_X8_139 dX8_isNumber_24 sf_13 rfl ?_
        refine x_iload_n dX8_isNumber_27 rfl ?_
        refine x_icmp_lt 42 dX8_isNumber_28 (by decide) (fun hc_ => absurd hc_ (by rw [hv]; exact le_nlt g1)) (fun _ => ?_)
        refine x_aload_n dX8_isNumber_31 rfl ?_
        refine x_getr fl_X8_18 dX8_isNumber_32 sf_15 rfl ?_
        refine x_geti fl_X8_139 dX8_isNumber_35 sf_13 rfl ?_
        refine x_iload_n dX8_isNumber_38 rfl ?_
        refine x_icmp_le 48 dX8_isNumber_39 (by decide) (fun _ => ?_) (fun hc_ => absurd (by rw [hv]; exact g2) hc_)
        refine x_iload_n dX8_isNumber_48 rfl ?_
        refine x_aload_n dX8_isNumber_49 rfl ?_
        refine x_getr fl_X8_18 dX8_isNumber_50 sf_15 rfl ?_
        refine x_geti fl_X8_139 dX8_isNumber_53 sf_13 rfl ?_
        rw [hv]
        refine x_ishr dX8_isNumber_56 ?_
        refine x_iconst (v := 1) dX8_isNumber_57 (by decide) ?_
        refine x_iand dX8_isNumber_58 ?_
        refine x_if_eq 70 dX8_isNumber_59 (by decide) (fun _ => ?_) (fun hc_ => absurd (ylies hl) hc_)
        refine x_iconst (v := 1) dX8_isNumber_70 (by decide) ?_
        refine x_goto 75 dX8_isNumber_71 (by decide) ?_
        exact x_iret dX8_isNumber_75 rfl rfl (Nat.le_refl _) (Nat.le_refl _) ⟨rfl, ⟨rfl, rfl⟩⟩
    | false =>
      rw [if_neg (by decide)]
      dsimp only
      by_cases hl : tV t n s < lo
      · refine Ct.of (by decide) (Nat.le_of_ble_eq_true rfl) ?_
        refine x_aload_n dX8_isNumber_0 rfl ?_
        refine x_getr fl_X8_18 dX8_isNumber_1 sf_15 rfl ?_
        refine x_geti fl_X8_30 dX8_isNumber_4 sf_13 rfl ?_
        refine x_iconst (v := 2) dX8_isNumber_7 (by decide) ?_
        refine x_icmp_eq 20 dX8_isNumber_8 (by decide) (fun _ => ?_) (fun hc_ => absurd (e2) hc_)
        refine x_aload_n dX8_isNumber_20 rfl ?_
        refine x_getr fl_X8_18 dX8_isNumber_21 sf_15 rfl ?_
        refine x_geti fl_X8_139 dX8_isNumber_24 sf_13 rfl ?_
        refine x_iload_n dX8_isNumber_27 rfl ?_
        refine x_icmp_lt 42 dX8_isNumber_28 (by decide) (fun _ => ?_) (fun hc_ => absurd (by rw [hv]; exact hl) hc_)
        refine x_aload_n dX8_isNumber_42 rfl ?_
        refine x_iconst (v := 3) dX8_isNumber_43 (by decide) ?_
        refine x_cvd mf_X8_refuse ml_X8_89 dX8_isNumber_44 rfl sf_15 rfl ⟨by decide, by decide⟩ (Nat.le_of_ble_eq_true rfl) ⟨rfl, rfl⟩ ⟨Nat.le_of_ble_eq_true rfl, Nat.le_of_ble_eq_true rfl⟩ (c_refuse 3 h3) ?_
        exact x_iret dX8_isNumber_47 rfl (nz_b _) (Nat.le_refl _) (Nat.le_refl _) ⟨rfl, ⟨rfl, rfl⟩⟩
      · have hh : ¬ tV t n s ≤ hi := fun q => by rw [rg_t.mpr ⟨fa_of_nlt hl, q⟩] at hr; cases hr
        refine Ct.of (by decide) (Nat.le_of_ble_eq_true rfl) ?_
        refine x_aload_n dX8_isNumber_0 rfl ?_
        refine x_getr fl_X8_18 dX8_isNumber_1 sf_15 rfl ?_
        refine x_geti fl_X8_30 dX8_isNumber_4 sf_13 rfl ?_
        refine x_iconst (v := 2) dX8_isNumber_7 (by decide) ?_
        refine x_icmp_eq 20 dX8_isNumber_8 (by decide) (fun _ => ?_) (fun hc_ => absurd (e2) hc_)
        refine x_aload_n dX8_isNumber_20 rfl ?_
        refine x_getr fl_X8_18 dX8_isNumber_21 sf_15 rfl ?_
        refine x_geti fl_X8_139 dX8_isNumber_24 sf_13 rfl ?_
        refine x_iload_n dX8_isNumber_27 rfl ?_
        refine x_icmp_lt 42 dX8_isNumber_28 (by decide) (fun hc_ => absurd hc_ (by rw [hv]; exact hl)) (fun _ => ?_)
        refine x_aload_n dX8_isNumber_31 rfl ?_
        refine x_getr fl_X8_18 dX8_isNumber_32 sf_15 rfl ?_
        refine x_geti fl_X8_139 dX8_isNumber_35 sf_13 rfl ?_
        refine x_iload_n dX8_isNumber_38 rfl ?_
        refine x_icmp_le 48 dX8_isNumber_39 (by decide) (fun hc_ => absurd hc_ (by rw [hv]; exact hh)) (fun _ => ?_)
        refine x_aload_n dX8_isNumber_42 rfl ?_
        refine x_iconst (v := 3) dX8_isNumber_43 (by decide) ?_
        refine x_cvd mf_X8_refuse ml_X8_89 dX8_isNumber_44 rfl sf_15 rfl ⟨by decide, by decide⟩ (Nat.le_of_ble_eq_true rfl) ⟨rfl, rfl⟩ ⟨Nat.le_of_ble_eq_true rfl, Nat.le_of_ble_eq_true rfl⟩ (c_refuse 3 h3) ?_
        exact x_iret dX8_isNumber_47 rfl (nz_b _) (Nat.le_refl _) (Nat.le_refl _) ⟨rfl, ⟨rfl, rfl⟩⟩
  · rw [if_neg hK2]
    dsimp only
    refine Ct.of (by decide) (Nat.le_of_ble_eq_true rfl) ?_
    refine x_aload_n dX8_isNumber_0 rfl ?_
    refine x_getr fl_X8_18 dX8_isNumber_1 sf_15 rfl ?_
    refine x_geti fl_X8_30 dX8_isNumber_4 sf_13 rfl ?_
    refine x_iconst (v := 2) dX8_isNumber_7 (by decide) ?_
    refine x_icmp_eq 20 dX8_isNumber_8 (by decide) (fun hc_ => absurd hc_ (by rw [h2]; exact fun q => hK2 ((nI_eq (a := tK t n s) (b := 2) (by omega) (by omega)).mp q))) (fun _ => ?_)
    refine x_aload_n dX8_isNumber_11 rfl ?_
    refine x_aload_n dX8_isNumber_12 rfl ?_
    refine x_cvd mf_X8_misfit ml_X8_131 dX8_isNumber_13 rfl sf_15 rfl ⟨by decide, by decide⟩ (Nat.le_of_ble_eq_true rfl) ⟨rfl, rfl⟩ ⟨Nat.le_of_ble_eq_true rfl, Nat.le_of_ble_eq_true rfl⟩ (cm) ?_
    refine x_cvd mf_X8_refuse ml_X8_89 dX8_isNumber_16 rfl sf_15 rfl ⟨by decide, by decide⟩ (Nat.le_of_ble_eq_true rfl) ⟨rfl, rfl⟩ ⟨Nat.le_of_ble_eq_true rfl, Nat.le_of_ble_eq_true rfl⟩ (c_refuse (mis (tK t n s)) h3) ?_
    exact x_iret dX8_isNumber_19 rfl (nz_b _) (Nat.le_refl _) (Nat.le_refl _) ⟨rfl, ⟨rfl, rfl⟩⟩
theorem c_stepL {Z : List (Option Nat)} {ext : List Ds} {M : Mm} {t : Nat → Int32} {n s : Nat} (hT : CT t n M) (hL : CLd t n s (M 13)) (hK : tK t n s ≠ 4) (hs : s ≤ n) : Ct mX7_step [.ref 13] (SS Z ext) M (stP t n (nx t n s) M) :=
  c_step hT.1 hT.2.1 hT.2.2 (hL.2.2.1 hK) (tE_le hs) rfl
/-- what reading on leaves: the token at s1 read -/
abbrev nnP (t : Nat → Int32) (n s1 : Nat) (X : Ex Int32) (M : Mm) (r : Option Value) (M' : Mm) : Prop := ∃ M1, On13 M M1 ∧ CLd t n s1 (M1 13) ∧ inP X M1 r M'
theorem c_nextNumber {Z : List (Option Nat)} {ext : List Ds} {M : Mm} {t : Nat → Int32} {n s : Nat} (lo hi told : Int32) (hT : CT t n M) (hL : CLd t n s (M 13)) (hK : tK t n s ≠ 4) (hs : s ≤ n) : Ct mX8_nextNumber [.ref 15, .int lo, .int hi, .int told] (SS Z ext) M (nnP t n (nx t n s) (numT t n lo hi told (nx t n s)) M) := by
  have c1 := c_stepL (Z := Z) (ext := ext) hT hL hK hs
  cases hX : numT t n lo hi told (nx t n s) with
  | inl e =>
    refine Ct.of (by decide) (Nat.le_of_ble_eq_true rfl) ?_
    refine x_aload_n dX8_nextNumber_0 rfl ?_
    refine x_getr fl_X8_18 dX8_nextNumber_1 sf_15 rfl ?_
    refine x_cv mf_X7_step ml_X8_27 dX8_nextNumber_4 rfl sf_13 rfl ⟨by decide, by decide⟩ (Nat.le_of_ble_eq_true rfl) ⟨rfl, rfl⟩ ⟨Nat.le_of_ble_eq_true rfl, Nat.le_of_ble_eq_true rfl⟩ (c1) (fun r M1 ⟨hr, hO, hL1⟩ => ?_)
    subst hr
    have c2 := c_isNumber (Z := Z) (ext := ext) (M := M1) lo hi told hL1
    unfold inP at c2
    rw [hX] at c2
    dsimp only at c2
    refine x_aload_n dX8_nextNumber_7 rfl ?_
    refine x_iload_n dX8_nextNumber_8 rfl ?_
    refine x_iload_n dX8_nextNumber_9 rfl ?_
    refine x_iload_n dX8_nextNumber_10 rfl ?_
    refine x_cv mf_X8_isNumber ml_X8_154 dX8_nextNumber_11 rfl sf_15 rfl ⟨by decide, by decide⟩ (Nat.le_of_ble_eq_true rfl) ⟨rfl, rfl⟩ ⟨Nat.le_of_ble_eq_true rfl, Nat.le_of_ble_eq_true rfl⟩ (c2) (fun r M2 ⟨hr, hM⟩ => ?_)
    subst hr; subst hM
    exact x_iret dX8_nextNumber_14 rfl (nz_b _) (Nat.le_refl _) (Nat.le_refl _) ⟨rfl, ⟨M1, hO, hL1, rfl, rfl⟩⟩
  | inr v =>
    refine Ct.of (by decide) (Nat.le_of_ble_eq_true rfl) ?_
    refine x_aload_n dX8_nextNumber_0 rfl ?_
    refine x_getr fl_X8_18 dX8_nextNumber_1 sf_15 rfl ?_
    refine x_cv mf_X7_step ml_X8_27 dX8_nextNumber_4 rfl sf_13 rfl ⟨by decide, by decide⟩ (Nat.le_of_ble_eq_true rfl) ⟨rfl, rfl⟩ ⟨Nat.le_of_ble_eq_true rfl, Nat.le_of_ble_eq_true rfl⟩ (c1) (fun r M1 ⟨hr, hO, hL1⟩ => ?_)
    subst hr
    have c2 := c_isNumber (Z := Z) (ext := ext) (M := M1) lo hi told hL1
    unfold inP at c2
    rw [hX] at c2
    dsimp only at c2
    refine x_aload_n dX8_nextNumber_7 rfl ?_
    refine x_iload_n dX8_nextNumber_8 rfl ?_
    refine x_iload_n dX8_nextNumber_9 rfl ?_
    refine x_iload_n dX8_nextNumber_10 rfl ?_
    refine x_cv mf_X8_isNumber ml_X8_154 dX8_nextNumber_11 rfl sf_15 rfl ⟨by decide, by decide⟩ (Nat.le_of_ble_eq_true rfl) ⟨rfl, rfl⟩ ⟨Nat.le_of_ble_eq_true rfl, Nat.le_of_ble_eq_true rfl⟩ (c2) (fun r M2 ⟨hr, hM⟩ => ?_)
    subst hr; subst hM
    exact x_iret dX8_nextNumber_14 rfl (nz_b _) (Nat.le_refl _) (Nat.le_refl _) ⟨rfl, ⟨_, hO, hL1, rfl, rfl⟩⟩
abbrev mnP (t : Nat → Int32) (n s1 : Nat) (X : Ex Int32) (M : Mm) (r : Option Value) (M' : Mm) : Prop := ∃ M1, On13 M M1 ∧ CLd t n s1 (M1 13) ∧ if tK t n s1 = 3 then r = some (.int (b2i false)) ∧ M' = M1 else inP X M1 r M'
theorem c_moreNumbers {Z : List (Option Nat)} {ext : List Ds} {M : Mm} {t : Nat → Int32} {n s : Nat} (lo hi told : Int32) (hT : CT t n M) (hL : CLd t n s (M 13)) (hK : tK t n s ≠ 4) (hs : s ≤ n) : Ct mX8_moreNumbers [.ref 15, .int lo, .int hi, .int told] (SS Z ext) M (mnP t n (nx t n s) (numT t n lo hi told (nx t n s)) M) := by
  have c1 := c_stepL (Z := Z) (ext := ext) hT hL hK hs
  have hb4 := tK_4 (t := t) (n := n) (s := nx t n s)
  unfold mnP
  by_cases h3 : tK t n (nx t n s) = 3
  · simp only [if_pos h3]
    refine Ct.of (by decide) (Nat.le_of_ble_eq_true rfl) ?_
    refine x_aload_n dX8_moreNumbers_0 rfl ?_
    refine x_getr fl_X8_18 dX8_moreNumbers_1 sf_15 rfl ?_
    refine x_cv mf_X7_step ml_X8_27 dX8_moreNumbers_4 rfl sf_13 rfl ⟨by decide, by decide⟩ (Nat.le_of_ble_eq_true rfl) ⟨rfl, rfl⟩ ⟨Nat.le_of_ble_eq_true rfl, Nat.le_of_ble_eq_true rfl⟩ (c1) (fun r M1 ⟨hr, hO, hL1⟩ => ?_)
    subst hr
    refine x_aload_n dX8_moreNumbers_7 rfl ?_
    refine x_getr fl_X8_18 dX8_moreNumbers_8 sf_15 rfl ?_
    refine x_geti fl_X8_30 dX8_moreNumbers_11 sf_13 rfl ?_
    refine x_iconst (v := 3) dX8_moreNumbers_14 (by decide) ?_
    refine x_icmp_eq 32 dX8_moreNumbers_15 (by decide) (fun _ => ?_) (fun hc_ => absurd (by rw [hL1.2.1, h3]; rfl) hc_)
    refine x_iconst (v := 0) dX8_moreNumbers_32 (by decide) ?_
    exact x_iret dX8_moreNumbers_33 rfl rfl (Nat.le_refl _) (Nat.le_refl _) ⟨rfl, ⟨M1, hO, hL1, rfl, rfl⟩⟩
  · simp only [if_neg h3]
    cases hX : numT t n lo hi told (nx t n s) with
    | inl e =>
      refine Ct.of (by decide) (Nat.le_of_ble_eq_true rfl) ?_
      refine x_aload_n dX8_moreNumbers_0 rfl ?_
      refine x_getr fl_X8_18 dX8_moreNumbers_1 sf_15 rfl ?_
      refine x_cv mf_X7_step ml_X8_27 dX8_moreNumbers_4 rfl sf_13 rfl ⟨by decide, by decide⟩ (Nat.le_of_ble_eq_true rfl) ⟨rfl, rfl⟩ ⟨Nat.le_of_ble_eq_true rfl, Nat.le_of_ble_eq_true rfl⟩ (c1) (fun r M1 ⟨hr, hO, hL1⟩ => ?_)
      subst hr
      have c2 := c_isNumber (Z := Z) (ext := ext) (M := M1) lo hi told hL1
      unfold inP at c2
      rw [hX] at c2
      dsimp only at c2
      refine x_aload_n dX8_moreNumbers_7 rfl ?_
      refine x_getr fl_X8_18 dX8_moreNumbers_8 sf_15 rfl ?_
      refine x_geti fl_X8_30 dX8_moreNumbers_11 sf_13 rfl ?_
      refine x_iconst (v := 3) dX8_moreNumbers_14 (by decide) ?_
      refine x_icmp_eq 32 dX8_moreNumbers_15 (by decide) (fun hc_ => absurd hc_ (by rw [hL1.2.1]; exact fun q => h3 ((nI_eq (a := tK t n (nx t n s)) (b := 3) (by omega) (by omega)).mp q))) (fun _ => ?_)
      refine x_aload_n dX8_moreNumbers_18 rfl ?_
      refine x_iload_n dX8_moreNumbers_19 rfl ?_
      refine x_iload_n dX8_moreNumbers_20 rfl ?_
      refine x_iload_n dX8_moreNumbers_21 rfl ?_
      refine x_cv mf_X8_isNumber ml_X8_154 dX8_moreNumbers_22 rfl sf_15 rfl ⟨by decide, by decide⟩ (Nat.le_of_ble_eq_true rfl) ⟨rfl, rfl⟩ ⟨Nat.le_of_ble_eq_true rfl, Nat.le_of_ble_eq_true rfl⟩ (c2) (fun r M2 ⟨hr, hM⟩ => ?_)
      subst hr; subst hM
      refine x_ifb_eq 32 dX8_moreNumbers_25 (by decide) (fun _ => ?_) (fun hc_ => absurd ((rfl).symm.trans hc_) Bool.false_ne_true)
      refine x_iconst (v := 0) dX8_moreNumbers_32 (by decide) ?_
      exact x_iret dX8_moreNumbers_33 rfl rfl (Nat.le_refl _) (Nat.le_refl _) ⟨rfl, ⟨M1, hO, hL1, rfl, rfl⟩⟩
    | inr v =>
      refine Ct.of (by decide) (Nat.le_of_ble_eq_true rfl) ?_
      refine x_aload_n dX8_moreNumbers_0 rfl ?_
      refine x_getr fl_X8_18 dX8_moreNumbers_1 sf_15 rfl ?_
      refine x_cv mf_X7_step ml_X8_27 dX8_moreNumbers_4 rfl sf_13 rfl ⟨by decide, by decide⟩ (Nat.le_of_ble_eq_true rfl) ⟨rfl, rfl⟩ ⟨Nat.le_of_ble_eq_true rfl, Nat.le_of_ble_eq_true rfl⟩ (c1) (fun r M1 ⟨hr, hO, hL1⟩ => ?_)
      subst hr
      have c2 := c_isNumber (Z := Z) (ext := ext) (M := M1) lo hi told hL1
      unfold inP at c2
      rw [hX] at c2
      dsimp only at c2
      refine x_aload_n dX8_moreNumbers_7 rfl ?_
      refine x_getr fl_X8_18 dX8_moreNumbers_8 sf_15 rfl ?_
      refine x_geti fl_X8_30 dX8_moreNumbers_11 sf_13 rfl ?_
      refine x_iconst (v := 3) dX8_moreNumbers_14 (by decide) ?_
      refine x_icmp_eq 32 dX8_moreNumbers_15 (by decide) (fun hc_ => absurd hc_ (by rw [hL1.2.1]; exact fun q => h3 ((nI_eq (a := tK t n (nx t n s)) (b := 3) (by omega) (by omega)).mp q))) (fun _ => ?_)
      refine x_aload_n dX8_moreNumbers_18 rfl ?_
      refine x_iload_n dX8_moreNumbers_19 rfl ?_
      refine x_iload_n dX8_moreNumbers_20 rfl ?_
      refine x_iload_n dX8_moreNumbers_21 rfl ?_
      refine x_cv mf_X8_isNumber ml_X8_154 dX8_moreNumbers_22 rfl sf_15 rfl ⟨by decide, by decide⟩ (Nat.le_of_ble_eq_true rfl) ⟨rfl, rfl⟩ ⟨Nat.le_of_ble_eq_true rfl, Nat.le_of_ble_eq_true rfl⟩ (c2) (fun r M2 ⟨hr, hM⟩ => ?_)
      subst hr; subst hM
      refine x_ifb_eq 32 dX8_moreNumbers_25 (by decide) (fun hc_ => absurd (hc_.symm.trans (rfl)) Bool.false_ne_true) (fun _ => ?_)
      refine x_iconst (v := 1) dX8_moreNumbers_28 (by decide) ?_
      refine x_goto 33 dX8_moreNumbers_29 (by decide) ?_
      exact x_iret dX8_moreNumbers_33 rfl rfl (Nat.le_refl _) (Nat.le_refl _) ⟨rfl, ⟨_, hO, hL1, rfl, rfl⟩⟩
/-- the stop is read -/
abbrev nsP (t : Nat → Int32) (n s1 : Nat) (M : Mm) (r : Option Value) (M' : Mm) : Prop := ∃ M1, On13 M M1 ∧ CLd t n s1 (M1 13) ∧ if tK t n s1 = 3 then r = some (.int (b2i true)) ∧ M' = M1 else r = some (.int (b2i false)) ∧ M' = erM M1 (mis (tK t n s1), s1)
theorem c_nextStop {Z : List (Option Nat)} {ext : List Ds} {M : Mm} {t : Nat → Int32} {n s : Nat} (hT : CT t n M) (hL : CLd t n s (M 13)) (hK : tK t n s ≠ 4) (hs : s ≤ n) : Ct mX8_nextStop [.ref 15] (SS Z ext) M (nsP t n (nx t n s) M) := by
  have c1 := c_stepL (Z := Z) (ext := ext) hT hL hK hs
  have hb4 := tK_4 (t := t) (n := n) (s := nx t n s)
  unfold nsP
  by_cases h3 : tK t n (nx t n s) = 3
  · simp only [if_pos h3]
    refine Ct.of (by decide) (Nat.le_of_ble_eq_true rfl) ?_
    refine x_aload_n dX8_nextStop_0 rfl ?_
    refine x_getr fl_X8_18 dX8_nextStop_1 sf_15 rfl ?_
    refine x_cv mf_X7_step ml_X8_27 dX8_nextStop_4 rfl sf_13 rfl ⟨by decide, by decide⟩ (Nat.le_of_ble_eq_true rfl) ⟨rfl, rfl⟩ ⟨Nat.le_of_ble_eq_true rfl, Nat.le_of_ble_eq_true rfl⟩ (c1) (fun r M1 ⟨hr, hO, hL1⟩ => ?_)
    subst hr
    refine x_aload_n dX8_nextStop_7 rfl ?_
    refine x_getr fl_X8_18 dX8_nextStop_8 sf_15 rfl ?_
    refine x_geti fl_X8_30 dX8_nextStop_11 sf_13 rfl ?_
    refine x_iconst (v := 3) dX8_nextStop_14 (by decide) ?_
    refine x_icmp_eq 29 dX8_nextStop_15 (by decide) (fun _ => ?_) (fun hc_ => absurd (by rw [hL1.2.1, h3]; rfl) hc_)
    refine x_iconst (v := 1) dX8_nextStop_29 (by decide) ?_
    refine x_goto 34 dX8_nextStop_30 (by decide) ?_
    exact x_iret dX8_nextStop_34 rfl rfl (Nat.le_refl _) (Nat.le_refl _) ⟨rfl, ⟨M1, hO, hL1, rfl, rfl⟩⟩
  · simp only [if_neg h3]
    refine Ct.of (by decide) (Nat.le_of_ble_eq_true rfl) ?_
    refine x_aload_n dX8_nextStop_0 rfl ?_
    refine x_getr fl_X8_18 dX8_nextStop_1 sf_15 rfl ?_
    refine x_cv mf_X7_step ml_X8_27 dX8_nextStop_4 rfl sf_13 rfl ⟨by decide, by decide⟩ (Nat.le_of_ble_eq_true rfl) ⟨rfl, rfl⟩ ⟨Nat.le_of_ble_eq_true rfl, Nat.le_of_ble_eq_true rfl⟩ (c1) (fun r M1 ⟨hr, hO, hL1⟩ => ?_)
    subst hr
    have c2 := c_misfit (Z := Z) (ext := ext) (M := M1) hL1.2.1 hb4
    refine x_aload_n dX8_nextStop_7 rfl ?_
    refine x_getr fl_X8_18 dX8_nextStop_8 sf_15 rfl ?_
    refine x_geti fl_X8_30 dX8_nextStop_11 sf_13 rfl ?_
    refine x_iconst (v := 3) dX8_nextStop_14 (by decide) ?_
    refine x_icmp_eq 29 dX8_nextStop_15 (by decide) (fun hc_ => absurd hc_ (by rw [hL1.2.1]; exact fun q => h3 ((nI_eq (a := tK t n (nx t n s)) (b := 3) (by omega) (by omega)).mp q))) (fun _ => ?_)
    refine x_aload_n dX8_nextStop_18 rfl ?_
    refine x_aload_n dX8_nextStop_19 rfl ?_
    refine x_cvd mf_X8_misfit ml_X8_131 dX8_nextStop_20 rfl sf_15 rfl ⟨by decide, by decide⟩ (Nat.le_of_ble_eq_true rfl) ⟨rfl, rfl⟩ ⟨Nat.le_of_ble_eq_true rfl, Nat.le_of_ble_eq_true rfl⟩ (c2) ?_
    refine x_cvd mf_X8_refuse ml_X8_89 dX8_nextStop_23 rfl sf_15 rfl ⟨by decide, by decide⟩ (Nat.le_of_ble_eq_true rfl) ⟨rfl, rfl⟩ ⟨Nat.le_of_ble_eq_true rfl, Nat.le_of_ble_eq_true rfl⟩ (c_refuse (mis (tK t n (nx t n s))) hL1.1) ?_
    refine x_ifb_eq 33 dX8_nextStop_26 (by decide) (fun _ => ?_) (fun hc_ => absurd ((rfl).symm.trans hc_) Bool.false_ne_true)
    refine x_iconst (v := 0) dX8_nextStop_33 (by decide) ?_
    exact x_iret dX8_nextStop_34 rfl rfl (Nat.le_refl _) (Nat.le_refl _) ⟨rfl, ⟨M1, hO, hL1, rfl, rfl⟩⟩
