/-! ===== the reference: fewest, cheapest ===== -/
def dnA (C : Int32) (sz rm : Nat → Int32) (sq : Nat) (L : Int32) (co : Nat → Int32) (mt : Nat) : Tk := dn C sz rm sq L co mt 21 0 0 0 (1000000, 0, 0)
theorem c_m_findBreaks {Z : List (Option Nat)} {ext : List Ds} {M : Mm} {sq mt : Nat} (e : Bool) (hq : M 48 5 = nI sq) (hb : sq ≤ 20) (hm : M 48 4 = nI mt) (hmb : mt ≤ 31) : Ct mX10_findBreaks [.ref 48, .int (b2i e)] (SS Z ext) M (fun r M' => r = none ∧ (M' 48 31 = (dnA (M 49 32) (M 51) (M 54) sq (M 49 0) (cof M e) mt).1 ∧ M' 48 32 = (dnA (M 49 32) (M 51) (M 54) sq (M 49 0) (cof M e) mt).2.1 ∧ M' 48 33 = (dnA (M 49 32) (M 51) (M 54) sq (M 49 0) (cof M e) mt).2.2) ∧ Eqm M M') := by
  have hwl : wct (M 49 32) (M 51) (M 54) sq (M 49 0) 0 < 21 := Nat.lt_of_le_of_lt (fb_ct_le _ _) (by omega)
  have node := dn_node (Z := Z) (ext := ext) (M := M) (F := Fc mX10_findBreaks (fun r S' M' => S' = SS Z ext ∧ r = none ∧ (M' 48 31 = (dnA (M 49 32) (M 51) (M 54) sq (M 49 0) (cof M e) mt).1 ∧ M' 48 32 = (dnA (M 49 32) (M 51) (M 54) sq (M 49 0) (cof M e) mt).2.1 ∧ M' 48 33 = (dnA (M 49 32) (M 51) (M 54) sq (M 49 0) (cof M e) mt).2.2) ∧ Eqm M M')) (e := e) hq hb hm hmb 21 0 (1000000, 0, 0) (M 58) (M 59) (upd (M 60) 0 0) (upd (M 61) 0 0) (upd (M 62) 0 0) none none none (by omega) (by rw [pk_us]; exact hwl) (by
    intro p' t' c' b' s' l3 l4 l5 _
    rw [pk_us, pk_us, pk_us, ← dnA]
    generalize dnA (M 49 32) (M 51) (M 54) sq (M 49 0) (cof M e) mt = v
    refine x_iload_n dX10_findBreaks_44 rfl ?_
    refine x_if_lt 258 dX10_findBreaks_45 (by decide) (fun _ => ?_) (fun hc_ => absurd (by decide) hc_)
    exact x_ret dX10_findBreaks_258 rfl (Nat.le_refl _) (Nat.le_refl _) ⟨rfl, ⟨rfl, ⟨rfl, rfl, rfl⟩, dm_eqm _ _ _ _ _ _ _⟩⟩
    )
  have ce := c_m_enters (Z := Z) (ext := ext) (M := M) (p := M 58) (t := M 59) (c := upd (M 60) 0 0) (b := upd (M 61) 0 0) (s := upd (M 62) 0 0) (1000000, 0, 0) 0 (by omega) hq hb
  have e0 : up2 (up2 (up2 (up2 (up2 (up2 M 48 31 1000000) 48 32 0) 48 33 0) 60 0 0) 61 0 0) 62 0 0 = dM M (1000000, 0, 0) (M 58) (M 59) (upd (M 60) 0 0) (upd (M 61) 0 0) (upd (M 62) 0 0) := by
    have h : up2 (up2 (up2 (up2 (up2 (up2 (dM M (M 48 31, M 48 32, M 48 33) (M 58) (M 59) (M 60) (M 61) (M 62)) 48 31 1000000) 48 32 0) 48 33 0) 60 0 0) 61 0 0) 62 0 0 = dM M (1000000, 0, 0) (M 58) (M 59) (upd (M 60) 0 0) (upd (M 61) 0 0) (upd (M 62) 0 0) := by rw [dm_31, dm_32, dm_33, dm_60, dm_61, dm_62]
    rw [dm_id] at h
    exact h
  refine Ct.of (by decide) (Nat.le_of_ble_eq_true rfl) ?_
  refine x_aload_n dX10_findBreaks_0 rfl ?_
  refine x_ldc dX10_findBreaks_1 kc_X10_245 ?_
  refine x_put fl_X10_229 dX10_findBreaks_3 sf_48 rfl rfl rfl ?_
  refine x_aload_n dX10_findBreaks_6 rfl ?_
  refine x_iconst (v := 0) dX10_findBreaks_7 (by decide) ?_
  refine x_put fl_X10_235 dX10_findBreaks_8 sf_48 rfl rfl rfl ?_
  refine x_aload_n dX10_findBreaks_11 rfl ?_
  refine x_iconst (v := 0) dX10_findBreaks_12 (by decide) ?_
  refine x_put fl_X10_232 dX10_findBreaks_13 sf_48 rfl rfl rfl ?_
  refine x_aload_n dX10_findBreaks_16 rfl ?_
  refine x_getr fl_X10_44 dX10_findBreaks_17 sf_48 rfl ?_
  refine x_iconst (v := 0) dX10_findBreaks_20 (by decide) ?_
  refine x_iconst (v := 0) dX10_findBreaks_21 (by decide) ?_
  refine x_iast (q := 0) dX10_findBreaks_22 sf_60 (by decide) (by decide) (by decide) ?_
  refine x_aload_n dX10_findBreaks_23 rfl ?_
  refine x_getr fl_X10_47 dX10_findBreaks_24 sf_48 rfl ?_
  refine x_iconst (v := 0) dX10_findBreaks_27 (by decide) ?_
  refine x_iconst (v := 0) dX10_findBreaks_28 (by decide) ?_
  refine x_iast (q := 0) dX10_findBreaks_29 sf_61 (by decide) (by decide) (by decide) ?_
  refine x_aload_n dX10_findBreaks_30 rfl ?_
  refine x_getr fl_X10_50 dX10_findBreaks_31 sf_48 rfl ?_
  refine x_iconst (v := 0) dX10_findBreaks_34 (by decide) ?_
  refine x_iconst (v := 0) dX10_findBreaks_35 (by decide) ?_
  refine x_iast (q := 0) dX10_findBreaks_36 sf_62 (by decide) (by decide) (by decide) ?_
  rw [e0]
  refine x_iconst (v := 0) dX10_findBreaks_37 (by decide) ?_
  refine x_istore_n dX10_findBreaks_38 (by decide) ?_
  refine x_aload_n dX10_findBreaks_39 rfl ?_
  refine x_iconst (v := 0) dX10_findBreaks_40 (by decide) ?_
  refine x_cvd mf_X10_enters ml_X10_246 dX10_findBreaks_41 rfl sf_48 rfl ⟨by decide, by decide⟩ (Nat.le_of_ble_eq_true rfl) ⟨rfl, rfl⟩ ⟨Nat.le_of_ble_eq_true rfl, Nat.le_of_ble_eq_true rfl⟩ (ce) ?_
  exact node
theorem c_m_fewestX {Z : List (Option Nat)} {ext : List Ds} {M : Mm} (x : Int32) (hx : rg x 0 2 = false) : Ct mX10_fewest [.ref 48, .int x] (SS Z ext) M (Rt (some (.int (-1))) M) := by
  refine Ct.of (by decide) (Nat.le_of_ble_eq_true rfl) ?_
  refine x_iload_n dX10_fewest_0 rfl ?_
  refine x_i2l dX10_fewest_1 ?_
  refine x_lconst (v := 0) dX10_fewest_2 (by decide) ?_
  refine x_ldc2 dX10_fewest_3 kc_X10_249 ?_
  refine x_csd mf_X10_in ml_X10_134 dX10_fewest_6 rfl ⟨by decide, by decide⟩ (Nat.le_of_ble_eq_true rfl) ⟨rfl, rfl⟩ ⟨Nat.le_of_ble_eq_true rfl, Nat.le_of_ble_eq_true rfl⟩ (c_m_rg (a := 0) (b := 2) (by decide) (by decide)) ?_
  refine x_ifb_ne 14 dX10_fewest_9 (by decide) (fun hc_ => absurd ((hx).symm.trans hc_) Bool.false_ne_true) (fun _ => ?_)
  refine x_iconst (v := -1) dX10_fewest_12 (by decide) ?_
  exact x_iret dX10_fewest_13 rfl rfl (Nat.le_refl _) (Nat.le_refl _) ⟨rfl, ⟨rfl, rfl⟩⟩
theorem c_m_cheapestX {Z : List (Option Nat)} {ext : List Ds} {M : Mm} (x : Int32) (hx : rg x 0 1 = false) : Ct mX10_cheapest [.ref 48, .int x] (SS Z ext) M (Rt (some (.int (-1))) M) := by
  refine Ct.of (by decide) (Nat.le_of_ble_eq_true rfl) ?_
  refine x_iload_n dX10_cheapest_0 rfl ?_
  refine x_i2l dX10_cheapest_1 ?_
  refine x_lconst (v := 0) dX10_cheapest_2 (by decide) ?_
  refine x_lconst (v := 1) dX10_cheapest_3 (by decide) ?_
  refine x_csd mf_X10_in ml_X10_134 dX10_cheapest_4 rfl ⟨by decide, by decide⟩ (Nat.le_of_ble_eq_true rfl) ⟨rfl, rfl⟩ ⟨Nat.le_of_ble_eq_true rfl, Nat.le_of_ble_eq_true rfl⟩ (c_m_rg (a := 0) (b := 1) (by decide) (by decide)) ?_
  refine x_ifb_ne 12 dX10_cheapest_7 (by decide) (fun hc_ => absurd ((hx).symm.trans hc_) Bool.false_ne_true) (fun _ => ?_)
  refine x_iconst (v := -1) dX10_cheapest_10 (by decide) ?_
  exact x_iret dX10_cheapest_11 rfl rfl (Nat.le_refl _) (Nat.le_refl _) ⟨rfl, ⟨rfl, rfl⟩⟩
def vFewR (k : Tk) (x : Int32) : Int32 := if decide (x = 0) then k.1 else if decide (x = 1) then k.2.1 else k.2.2
def vCheR (k : Tk) (x : Int32) : Int32 := if decide (x = 0) then k.1 else k.2.1
theorem c_m_fewest {Z : List (Option Nat)} {ext : List Ds} {M : Mm} {sq mt : Nat} (x : Int32) (hx : rg x 0 2 = true) (hq : M 48 5 = nI sq) (hb : sq ≤ 20) (hm : M 48 4 = nI mt) (hmb : mt ≤ 31) : Ct mX10_fewest [.ref 48, .int x] (SS Z ext) M (fun r M' => r = some (.int (vFewR (dnA (M 49 32) (M 51) (M 54) sq (M 49 0) (cof M false) mt) x)) ∧ Eqm M M') := by
  have cf := c_m_findBreaks (Z := Z) (ext := ext) (M := M) false hq hb hm hmb
  generalize dnA (M 49 32) (M 51) (M 54) sq (M 49 0) (cof M false) mt = v at cf ⊢
  refine Ct.of (by decide) (Nat.le_of_ble_eq_true rfl) ?_
  refine x_iload_n dX10_fewest_0 rfl ?_
  refine x_i2l dX10_fewest_1 ?_
  refine x_lconst (v := 0) dX10_fewest_2 (by decide) ?_
  refine x_ldc2 dX10_fewest_3 kc_X10_249 ?_
  refine x_csd mf_X10_in ml_X10_134 dX10_fewest_6 rfl ⟨by decide, by decide⟩ (Nat.le_of_ble_eq_true rfl) ⟨rfl, rfl⟩ ⟨Nat.le_of_ble_eq_true rfl, Nat.le_of_ble_eq_true rfl⟩ (c_m_rg (a := 0) (b := 2) (by decide) (by decide)) ?_
  refine x_ifb_ne 14 dX10_fewest_9 (by decide) (fun _ => ?_) (fun hc_ => absurd (hc_.symm.trans (hx)) Bool.false_ne_true)
  refine x_aload_n dX10_fewest_14 rfl ?_
  refine x_iconst (v := 0) dX10_fewest_15 (by decide) ?_
  refine x_cv mf_X10_findBreaks ml_X10_251 dX10_fewest_16 rfl sf_48 rfl ⟨by decide, by decide⟩ (Nat.le_of_ble_eq_true rfl) ⟨rfl, rfl⟩ ⟨Nat.le_of_ble_eq_true rfl, Nat.le_of_ble_eq_true rfl⟩ (cf) (fun r M' ⟨e1, ⟨e2, e3, e4⟩, e5⟩ => ?_)
  subst e1
  refine x_iload_n dX10_fewest_19 rfl ?_
  refine x_if_ne 30 dX10_fewest_20 (by decide) (fun h20 => ?_) (fun h20 => ?_)
  · refine x_iload_n dX10_fewest_30 rfl ?_
    refine x_iconst (v := 1) dX10_fewest_31 (by decide) ?_
    refine x_icmp_ne 42 dX10_fewest_32 (by decide) (fun h32 => ?_) (fun h32 => ?_)
    · refine x_aload_n dX10_fewest_42 rfl ?_
      refine x_geti fl_X10_232 dX10_fewest_43 sf_48 rfl ?_
      exact x_iret dX10_fewest_46 rfl rfl (Nat.le_refl _) (Nat.le_refl _) ⟨rfl, ⟨by first | (exact oi (by rw [vFewR, decide_eq_true h20, ← e2]; rfl)) | (exact oi (by rw [vFewR, decide_eq_false h20, decide_eq_true h32, ← e3]; rfl)) | (exact oi (by rw [vFewR, decide_eq_false h20, decide_eq_false h32, ← e4]; rfl)), e5⟩⟩
    · refine x_aload_n dX10_fewest_35 rfl ?_
      refine x_geti fl_X10_235 dX10_fewest_36 sf_48 rfl ?_
      refine x_goto 46 dX10_fewest_39 (by decide) ?_
      exact x_iret dX10_fewest_46 rfl rfl (Nat.le_refl _) (Nat.le_refl _) ⟨rfl, ⟨by first | (exact oi (by rw [vFewR, decide_eq_true h20, ← e2]; rfl)) | (exact oi (by rw [vFewR, decide_eq_false h20, decide_eq_true h32, ← e3]; rfl)) | (exact oi (by rw [vFewR, decide_eq_false h20, decide_eq_false h32, ← e4]; rfl)), e5⟩⟩
  · refine x_aload_n dX10_fewest_23 rfl ?_
    refine x_geti fl_X10_229 dX10_fewest_24 sf_48 rfl ?_
    refine x_goto 46 dX10_fewest_27 (by decide) ?_
    exact x_iret dX10_fewest_46 rfl rfl (Nat.le_refl _) (Nat.le_refl _) ⟨rfl, ⟨by first | (exact oi (by rw [vFewR, decide_eq_true h20, ← e2]; rfl)) | (exact oi (by rw [vFewR, decide_eq_false h20, decide_eq_true h32, ← e3]; rfl)) | (exact oi (by rw [vFewR, decide_eq_false h20, decide_eq_false h32, ← e4]; rfl)), e5⟩⟩
theorem c_m_cheapest {Z : List (Option Nat)} {ext : List Ds} {M : Mm} {sq mt : Nat} (x : Int32) (hx : rg x 0 1 = true) (hq : M 48 5 = nI sq) (hb : sq ≤ 20) (hm : M 48 4 = nI mt) (hmb : mt ≤ 31) : Ct mX10_cheapest [.ref 48, .int x] (SS Z ext) M (fun r M' => r = some (.int (vCheR (dnA (M 49 32) (M 51) (M 54) sq (M 49 0) (cof M true) mt) x)) ∧ Eqm M M') := by
  have cf := c_m_findBreaks (Z := Z) (ext := ext) (M := M) true hq hb hm hmb
  generalize dnA (M 49 32) (M 51) (M 54) sq (M 49 0) (cof M true) mt = v at cf ⊢
  refine Ct.of (by decide) (Nat.le_of_ble_eq_true rfl) ?_
  refine x_iload_n dX10_cheapest_0 rfl ?_
  refine x_i2l dX10_cheapest_1 ?_
  refine x_lconst (v := 0) dX10_cheapest_2 (by decide) ?_
  refine x_lconst (v := 1) dX10_cheapest_3 (by decide) ?_
  refine x_csd mf_X10_in ml_X10_134 dX10_cheapest_4 rfl ⟨by decide, by decide⟩ (Nat.le_of_ble_eq_true rfl) ⟨rfl, rfl⟩ ⟨Nat.le_of_ble_eq_true rfl, Nat.le_of_ble_eq_true rfl⟩ (c_m_rg (a := 0) (b := 1) (by decide) (by decide)) ?_
  refine x_ifb_ne 12 dX10_cheapest_7 (by decide) (fun _ => ?_) (fun hc_ => absurd (hc_.symm.trans (hx)) Bool.false_ne_true)
  refine x_aload_n dX10_cheapest_12 rfl ?_
  refine x_iconst (v := 1) dX10_cheapest_13 (by decide) ?_
  refine x_cv mf_X10_findBreaks ml_X10_251 dX10_cheapest_14 rfl sf_48 rfl ⟨by decide, by decide⟩ (Nat.le_of_ble_eq_true rfl) ⟨rfl, rfl⟩ ⟨Nat.le_of_ble_eq_true rfl, Nat.le_of_ble_eq_true rfl⟩ (cf) (fun r M' ⟨e1, ⟨e2, e3, e4⟩, e5⟩ => ?_)
  subst e1
  refine x_iload_n dX10_cheapest_17 rfl ?_
  refine x_if_ne 28 dX10_cheapest_18 (by decide) (fun h18 => ?_) (fun h18 => ?_)
  · refine x_aload_n dX10_cheapest_28 rfl ?_
    refine x_geti fl_X10_235 dX10_cheapest_29 sf_48 rfl ?_
    exact x_iret dX10_cheapest_32 rfl rfl (Nat.le_refl _) (Nat.le_refl _) ⟨rfl, ⟨by first | (exact oi (by rw [vCheR, decide_eq_true h18, ← e2]; rfl)) | (exact oi (by rw [vCheR, decide_eq_false h18, ← e3]; rfl)), e5⟩⟩
  · refine x_aload_n dX10_cheapest_21 rfl ?_
    refine x_geti fl_X10_229 dX10_cheapest_22 sf_48 rfl ?_
    refine x_goto 32 dX10_cheapest_25 (by decide) ?_
    exact x_iret dX10_cheapest_32 rfl rfl (Nat.le_refl _) (Nat.le_refl _) ⟨rfl, ⟨by first | (exact oi (by rw [vCheR, decide_eq_true h18, ← e2]; rfl)) | (exact oi (by rw [vCheR, decide_eq_false h18, ← e3]; rfl)), e5⟩⟩
