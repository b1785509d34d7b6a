/-! ===== the reference: just, gone ===== -/
/-- how many sets were gathered, the least of them, what is in all -/
def gth (acc : Int32 × Int32 × Int32) (s : Int32) : Int32 × Int32 × Int32 := (acc.1 + 1, if decide (acc.1 = 0) || decide (s < acc.2.1) then s else acc.2.1, if decide (acc.1 = 0) then s else acc.2.2 &&& s)
def g3 (f : Nat → Int32) (acc : Int32 × Int32 × Int32) : Nat → Int32 := upd (upd (upd f 37 acc.1) 38 acc.2.1) 39 acc.2.2
theorem g3_g3 (f : Nat → Int32) (a b : Int32 × Int32 × Int32) : g3 (g3 f a) b = g3 f b := by
  funext k
  unfold g3 upd
  by_cases h1 : k = 39
  · simp [h1]
  · by_cases h2 : k = 38
    · simp [h2]
    · by_cases h3 : k = 37 <;> simp [h1, h2, h3]
def gM (M : Mm) (acc : Int32 × Int32 × Int32) (r : Nat → Int32) : Mm := upr (upr M 48 (g3 (M 48) acc)) 64 r
theorem gM_gth (M : Mm) (acc acc' : Int32 × Int32 × Int32) (r : Nat → Int32) : upr (gM M acc r) 48 (g3 (g3 (M 48) acc) acc') = gM M acc' r := by
  unfold gM
  rw [upr_comm _ _ _ (by decide), upr_upr, g3_g3]
theorem gM_at (M : Mm) (acc : Int32 × Int32 × Int32) (r r' : Nat → Int32) : upr (gM M acc r) 64 r' = gM M acc r' := upr_upr _ _ _ _
theorem gM_eqm {M M0 : Mm} (h : Eqm M M0) (acc : Int32 × Int32 × Int32) (r : Nat → Int32) : Eqm M (gM M0 acc r) := by
  refine Eqm.ur ?_ (fun _ => rfl)
  have : upr M0 48 (g3 (M0 48) acc) = up2 (up2 (up2 M0 48 37 acc.1) 48 38 acc.2.1) 48 39 acc.2.2 := by
    funext c
    unfold upr up2 g3
    by_cases hc : c = 48 <;> simp [hc]
  rw [this]
  exact ((h.u2 (by decide)).u2 (by decide)).u2 (by decide)
theorem c_m_startsGather {Z : List (Option Nat)} {ext : List Ds} {M : Mm} : Ct mX10_startsGather [.ref 48] (SS Z ext) M (Rt none (upr M 48 (g3 (M 48) (0, -4, 0)))) := by
  refine Ct.of (by decide) (Nat.le_of_ble_eq_true rfl) ?_
  refine x_aload_n dX10_startsGather_0 rfl ?_
  refine x_iconst (v := 0) dX10_startsGather_1 (by decide) ?_
  refine x_put fl_X10_284 dX10_startsGather_2 sf_48 rfl rfl rfl ?_
  refine x_aload_n dX10_startsGather_5 rfl ?_
  refine x_bipush (v := -4) dX10_startsGather_6 (by decide) ?_
  refine x_put fl_X10_287 dX10_startsGather_8 sf_48 rfl rfl rfl ?_
  refine x_aload_n dX10_startsGather_11 rfl ?_
  refine x_iconst (v := 0) dX10_startsGather_12 (by decide) ?_
  refine x_put fl_X10_290 dX10_startsGather_13 sf_48 rfl rfl rfl ?_
  exact x_ret dX10_startsGather_16 rfl (Nat.le_refl _) (Nat.le_refl _) ⟨rfl, ⟨rfl, by funext c; unfold upr up2 g3; by_cases hc : c = 48 <;> simp [hc]⟩⟩
theorem c_m_gathers {Z : List (Option Nat)} {ext : List Ds} {M : Mm} (s : Int32) : Ct mX10_gathers [.ref 48, .int s] (SS Z ext) M (Rt none (upr M 48 (g3 (M 48) (gth (M 48 37, M 48 38, M 48 39) s)))) := by
  refine Ct.of (by decide) (Nat.le_of_ble_eq_true rfl) ?_
  have key : ∀ lo ia, lo = (gth (M 48 37, M 48 38, M 48 39) s).2.1 → ia = (gth (M 48 37, M 48 38, M 48 39) s).2.2 → up2 (up2 (up2 M 48 38 lo) 48 39 ia) 48 37 (M 48 37 + 1) = upr M 48 (g3 (M 48) (gth (M 48 37, M 48 38, M 48 39) s)) := by
    intro lo ia h1 h2
    rw [h1, h2]
    funext c
    unfold upr up2 g3
    by_cases hc : c = 48
    · subst hc
      funext k
      unfold upd
      by_cases h3 : k = 39
      · simp [h3]
      · by_cases h4 : k = 38
        · simp [h4]
        · by_cases h5 : k = 37 <;> simp [h3, h4, h5, gth]
    · simp [hc]
  refine x_aload_n dX10_gathers_0 rfl ?_
  refine x_aload_n dX10_gathers_1 rfl ?_
  refine x_geti fl_X10_284 dX10_gathers_2 sf_48 rfl ?_
  refine x_if_eq 16 dX10_gathers_5 (by decide) (fun h5 => ?_) (fun h5 => ?_)
  · refine x_iload_n dX10_gathers_16 rfl ?_
    refine x_goto 24 dX10_gathers_17 (by decide) ?_
    refine x_put fl_X10_287 dX10_gathers_24 sf_48 rfl rfl rfl ?_
    refine x_aload_n dX10_gathers_27 rfl ?_
    refine x_aload_n dX10_gathers_28 rfl ?_
    refine x_geti fl_X10_284 dX10_gathers_29 sf_48 rfl ?_
    refine x_if_ne 39 dX10_gathers_32 (by decide) (fun h32 => ?_) (fun h32 => ?_)
    · refine x_aload_n dX10_gathers_39 rfl ?_
      refine x_geti fl_X10_290 dX10_gathers_40 sf_48 rfl ?_
      refine x_iload_n dX10_gathers_43 rfl ?_
      refine x_iand dX10_gathers_44 ?_
      refine x_put fl_X10_290 dX10_gathers_45 sf_48 rfl rfl rfl ?_
      refine x_aload_n dX10_gathers_48 rfl ?_
      refine x_dup dX10_gathers_49 rfl ?_
      refine x_geti fl_X10_284 dX10_gathers_50 sf_48 rfl ?_
      refine x_iconst (v := 1) dX10_gathers_53 (by decide) ?_
      refine x_iadd dX10_gathers_54 ?_
      refine x_put fl_X10_284 dX10_gathers_55 sf_48 rfl rfl rfl ?_
      exact x_ret dX10_gathers_58 rfl (Nat.le_refl _) (Nat.le_refl _) ⟨rfl, ⟨rfl, key _ _ (by first | (simp [gth, h5]; done) | (simp [gth, h5, fa_of_nle h13]; done) | (simp only [gth, decide_eq_false h5, decide_eq_false (show ¬ s < M 48 38 from fun q => absurd h13 (by rw [fa_le]; rw [fa_lt] at q; omega))]; rfl)) (by first | (simp only [gth, decide_eq_true (show M 48 37 = 0 from h32)]; rfl) | (simp only [gth, decide_eq_false (show ¬ M 48 37 = 0 from h32)]; rfl))⟩⟩
    · refine x_iload_n dX10_gathers_35 rfl ?_
      refine x_goto 45 dX10_gathers_36 (by decide) ?_
      refine x_put fl_X10_290 dX10_gathers_45 sf_48 rfl rfl rfl ?_
      refine x_aload_n dX10_gathers_48 rfl ?_
      refine x_dup dX10_gathers_49 rfl ?_
      refine x_geti fl_X10_284 dX10_gathers_50 sf_48 rfl ?_
      refine x_iconst (v := 1) dX10_gathers_53 (by decide) ?_
      refine x_iadd dX10_gathers_54 ?_
      refine x_put fl_X10_284 dX10_gathers_55 sf_48 rfl rfl rfl ?_
      exact x_ret dX10_gathers_58 rfl (Nat.le_refl _) (Nat.le_refl _) ⟨rfl, ⟨rfl, key _ _ (by first | (simp [gth, h5]; done) | (simp [gth, h5, fa_of_nle h13]; done) | (simp only [gth, decide_eq_false h5, decide_eq_false (show ¬ s < M 48 38 from fun q => absurd h13 (by rw [fa_le]; rw [fa_lt] at q; omega))]; rfl)) (by first | (simp only [gth, decide_eq_true (show M 48 37 = 0 from h32)]; rfl) | (simp only [gth, decide_eq_false (show ¬ M 48 37 = 0 from h32)]; rfl))⟩⟩
  · refine x_iload_n dX10_gathers_8 rfl ?_
    refine x_aload_n dX10_gathers_9 rfl ?_
    refine x_geti fl_X10_287 dX10_gathers_10 sf_48 rfl ?_
    refine x_icmp_ge 20 dX10_gathers_13 (by decide) (fun h13 => ?_) (fun h13 => ?_)
    · refine x_aload_n dX10_gathers_20 rfl ?_
      refine x_geti fl_X10_287 dX10_gathers_21 sf_48 rfl ?_
      refine x_put fl_X10_287 dX10_gathers_24 sf_48 rfl rfl rfl ?_
      refine x_aload_n dX10_gathers_27 rfl ?_
      refine x_aload_n dX10_gathers_28 rfl ?_
      refine x_geti fl_X10_284 dX10_gathers_29 sf_48 rfl ?_
      refine x_if_ne 39 dX10_gathers_32 (by decide) (fun h32 => ?_) (fun h32 => ?_)
      · refine x_aload_n dX10_gathers_39 rfl ?_
        refine x_geti fl_X10_290 dX10_gathers_40 sf_48 rfl ?_
        refine x_iload_n dX10_gathers_43 rfl ?_
        refine x_iand dX10_gathers_44 ?_
        refine x_put fl_X10_290 dX10_gathers_45 sf_48 rfl rfl rfl ?_
        refine x_aload_n dX10_gathers_48 rfl ?_
        refine x_dup dX10_gathers_49 rfl ?_
        refine x_geti fl_X10_284 dX10_gathers_50 sf_48 rfl ?_
        refine x_iconst (v := 1) dX10_gathers_53 (by decide) ?_
        refine x_iadd dX10_gathers_54 ?_
        refine x_put fl_X10_284 dX10_gathers_55 sf_48 rfl rfl rfl ?_
        exact x_ret dX10_gathers_58 rfl (Nat.le_refl _) (Nat.le_refl _) ⟨rfl, ⟨rfl, key _ _ (by first | (simp [gth, h5]; done) | (simp [gth, h5, fa_of_nle h13]; done) | (simp only [gth, decide_eq_false h5, decide_eq_false (show ¬ s < M 48 38 from fun q => absurd h13 (by rw [fa_le]; rw [fa_lt] at q; omega))]; rfl)) (by first | (simp only [gth, decide_eq_true (show M 48 37 = 0 from h32)]; rfl) | (simp only [gth, decide_eq_false (show ¬ M 48 37 = 0 from h32)]; rfl))⟩⟩
      · refine x_iload_n dX10_gathers_35 rfl ?_
        refine x_goto 45 dX10_gathers_36 (by decide) ?_
        refine x_put fl_X10_290 dX10_gathers_45 sf_48 rfl rfl rfl ?_
        refine x_aload_n dX10_gathers_48 rfl ?_
        refine x_dup dX10_gathers_49 rfl ?_
        refine x_geti fl_X10_284 dX10_gathers_50 sf_48 rfl ?_
        refine x_iconst (v := 1) dX10_gathers_53 (by decide) ?_
        refine x_iadd dX10_gathers_54 ?_
        refine x_put fl_X10_284 dX10_gathers_55 sf_48 rfl rfl rfl ?_
        exact x_ret dX10_gathers_58 rfl (Nat.le_refl _) (Nat.le_refl _) ⟨rfl, ⟨rfl, key _ _ (by first | (simp [gth, h5]; done) | (simp [gth, h5, fa_of_nle h13]; done) | (simp only [gth, decide_eq_false h5, decide_eq_false (show ¬ s < M 48 38 from fun q => absurd h13 (by rw [fa_le]; rw [fa_lt] at q; omega))]; rfl)) (by first | (simp only [gth, decide_eq_true (show M 48 37 = 0 from h32)]; rfl) | (simp only [gth, decide_eq_false (show ¬ M 48 37 = 0 from h32)]; rfl))⟩⟩
    · refine x_iload_n dX10_gathers_16 rfl ?_
      refine x_goto 24 dX10_gathers_17 (by decide) ?_
      refine x_put fl_X10_287 dX10_gathers_24 sf_48 rfl rfl rfl ?_
      refine x_aload_n dX10_gathers_27 rfl ?_
      refine x_aload_n dX10_gathers_28 rfl ?_
      refine x_geti fl_X10_284 dX10_gathers_29 sf_48 rfl ?_
      refine x_if_ne 39 dX10_gathers_32 (by decide) (fun h32 => ?_) (fun h32 => ?_)
      · refine x_aload_n dX10_gathers_39 rfl ?_
        refine x_geti fl_X10_290 dX10_gathers_40 sf_48 rfl ?_
        refine x_iload_n dX10_gathers_43 rfl ?_
        refine x_iand dX10_gathers_44 ?_
        refine x_put fl_X10_290 dX10_gathers_45 sf_48 rfl rfl rfl ?_
        refine x_aload_n dX10_gathers_48 rfl ?_
        refine x_dup dX10_gathers_49 rfl ?_
        refine x_geti fl_X10_284 dX10_gathers_50 sf_48 rfl ?_
        refine x_iconst (v := 1) dX10_gathers_53 (by decide) ?_
        refine x_iadd dX10_gathers_54 ?_
        refine x_put fl_X10_284 dX10_gathers_55 sf_48 rfl rfl rfl ?_
        exact x_ret dX10_gathers_58 rfl (Nat.le_refl _) (Nat.le_refl _) ⟨rfl, ⟨rfl, key _ _ (by first | (simp [gth, h5]; done) | (simp [gth, h5, fa_of_nle h13]; done) | (simp only [gth, decide_eq_false h5, decide_eq_false (show ¬ s < M 48 38 from fun q => absurd h13 (by rw [fa_le]; rw [fa_lt] at q; omega))]; rfl)) (by first | (simp only [gth, decide_eq_true (show M 48 37 = 0 from h32)]; rfl) | (simp only [gth, decide_eq_false (show ¬ M 48 37 = 0 from h32)]; rfl))⟩⟩
      · refine x_iload_n dX10_gathers_35 rfl ?_
        refine x_goto 45 dX10_gathers_36 (by decide) ?_
        refine x_put fl_X10_290 dX10_gathers_45 sf_48 rfl rfl rfl ?_
        refine x_aload_n dX10_gathers_48 rfl ?_
        refine x_dup dX10_gathers_49 rfl ?_
        refine x_geti fl_X10_284 dX10_gathers_50 sf_48 rfl ?_
        refine x_iconst (v := 1) dX10_gathers_53 (by decide) ?_
        refine x_iadd dX10_gathers_54 ?_
        refine x_put fl_X10_284 dX10_gathers_55 sf_48 rfl rfl rfl ?_
        exact x_ret dX10_gathers_58 rfl (Nat.le_refl _) (Nat.le_refl _) ⟨rfl, ⟨rfl, key _ _ (by first | (simp [gth, h5]; done) | (simp [gth, h5, fa_of_nle h13]; done) | (simp only [gth, decide_eq_false h5, decide_eq_false (show ¬ s < M 48 38 from fun q => absurd h13 (by rw [fa_le]; rw [fa_lt] at q; omega))]; rfl)) (by first | (simp only [gth, decide_eq_true (show M 48 37 = 0 from h32)]; rfl) | (simp only [gth, decide_eq_false (show ¬ M 48 37 = 0 from h32)]; rfl))⟩⟩
/-- the step of just(): sets that leave k squares -/
def stJ (C : Int32) (sz rm : Nat → Int32) (sq : Nat) (L k : Int32) (acc : Int32 × Int32 × Int32) (s : Int32) : Int32 × Int32 × Int32 := if decide (Lf C sz rm (L &&& (s ^^^ (-1))) sq = k) then gth acc s else acc
def vJust (acc : Int32 × Int32 × Int32) (x : Int32) : Int32 := if decide (x = 0) then acc.1 else acc.2.1
theorem c_m_justX {Z : List (Option Nat)} {ext : List Ds} {M : Mm} (n k x : Int32) (hx : (rg n 0 4 && rg k 0 20 && rg x 0 1) = false) : Ct mX10_just [.ref 48, .int n, .int k, .int x] (SS Z ext) M (Rt (some (.int (-1))) M) := by
  refine Ct.of (by decide) (Nat.le_of_ble_eq_true rfl) ?_
  refine x_iload_n dX10_just_0 rfl ?_
  refine x_i2l dX10_just_1 ?_
  refine x_lconst (v := 0) dX10_just_2 (by decide) ?_
  refine x_ldc2 dX10_just_3 kc_X10_270 ?_
  refine x_csd mf_X10_in ml_X10_134 dX10_just_6 rfl ⟨by decide, by decide⟩ (Nat.le_of_ble_eq_true rfl) ⟨rfl, rfl⟩ ⟨Nat.le_of_ble_eq_true rfl, Nat.le_of_ble_eq_true rfl⟩ (c_m_rg (a := 0) (b := 4) (by decide) (by decide)) ?_
  refine x_ifb_eq 34 dX10_just_9 (by decide) (fun h9 => ?_) (fun h9 => ?_)
  · refine x_iconst (v := -1) dX10_just_34 (by decide) ?_
    exact x_iret dX10_just_35 rfl rfl (Nat.le_refl _) (Nat.le_refl _) ⟨rfl, ⟨rfl, rfl⟩⟩
  · refine x_iload_n dX10_just_12 rfl ?_
    refine x_i2l dX10_just_13 ?_
    refine x_lconst (v := 0) dX10_just_14 (by decide) ?_
    refine x_ldc2 dX10_just_15 kc_X10_293 ?_
    refine x_csd mf_X10_in ml_X10_134 dX10_just_18 rfl ⟨by decide, by decide⟩ (Nat.le_of_ble_eq_true rfl) ⟨rfl, rfl⟩ ⟨Nat.le_of_ble_eq_true rfl, Nat.le_of_ble_eq_true rfl⟩ (c_m_rg (a := 0) (b := 20) (by decide) (by decide)) ?_
    refine x_ifb_eq 34 dX10_just_21 (by decide) (fun h21 => ?_) (fun h21 => ?_)
    · refine x_iconst (v := -1) dX10_just_34 (by decide) ?_
      exact x_iret dX10_just_35 rfl rfl (Nat.le_refl _) (Nat.le_refl _) ⟨rfl, ⟨rfl, rfl⟩⟩
    · refine x_iload_n dX10_just_24 rfl ?_
      refine x_i2l dX10_just_25 ?_
      refine x_lconst (v := 0) dX10_just_26 (by decide) ?_
      refine x_lconst (v := 1) dX10_just_27 (by decide) ?_
      refine x_csd mf_X10_in ml_X10_134 dX10_just_28 rfl ⟨by decide, by decide⟩ (Nat.le_of_ble_eq_true rfl) ⟨rfl, rfl⟩ ⟨Nat.le_of_ble_eq_true rfl, Nat.le_of_ble_eq_true rfl⟩ (c_m_rg (a := 0) (b := 1) (by decide) (by decide)) ?_
      refine x_ifb_ne 36 dX10_just_31 (by decide) (fun h31 => ?_) (fun h31 => ?_)
      · rw [h9, h21, h31] at hx; exact absurd hx (by decide)
      · refine x_iconst (v := -1) dX10_just_34 (by decide) ?_
        exact x_iret dX10_just_35 rfl rfl (Nat.le_refl _) (Nat.le_refl _) ⟨rfl, ⟨rfl, rfl⟩⟩
theorem c_m_just {Z : List (Option Nat)} {ext : List Ds} {M : Mm} {mt sq : Nat} (n : Nat) (k x : Int32) (hn : n ≤ 4) (hk : rg k 0 20 = true) (hx : rg x 0 1 = true) (hm : M 48 4 = nI mt) (hb : mt ≤ 31) (hq : M 48 5 = nI sq) (hb2 : sq ≤ 20) : Ct mX10_just [.ref 48, .int (nI n), .int k, .int x] (SS Z ext) M (fun r M' => r = some (.int (vJust ((Lx (bo (fsR (M 49 0) (M 63) mt)) (fsC (M 49 0) mt) n (fsC (M 49 0) mt) 0).foldl (stJ (M 49 32) (M 51) (M 54) sq (M 49 0) k) (0, -4, 0)) x)) ∧ Eqm M M') := by
  refine Ct.of (by decide) (Nat.le_of_ble_eq_true rfl) ?_
  have hle : fsC (M 49 0) mt ≤ 31 := Nat.le_trans (fsC_le _ _) hb
  generalize hcm : fsC (M 49 0) mt = m at hle
  generalize hso : fsR (M 49 0) (M 63) mt = so
  have h35 : fsM M (M 49 0) mt 48 35 = nI m := by rw [← hcm]; rfl
  have h63 : fsM M (M 49 0) mt 63 = so := hso
  have hE := fsM_eqm M (M 49 0) mt
  have h49 : fsM M (M 49 0) mt 49 = M 49 := rfl
  have h51 : fsM M (M 49 0) mt 51 = M 51 := rfl
  have h54 : fsM M (M 49 0) mt 54 = M 54 := rfl
  have hq0 : fsM M (M 49 0) mt 48 5 = nI sq := hq
  refine x_iload_n dX10_just_0 rfl ?_
  refine x_i2l dX10_just_1 ?_
  refine x_lconst (v := 0) dX10_just_2 (by decide) ?_
  refine x_ldc2 dX10_just_3 kc_X10_270 ?_
  refine x_csd mf_X10_in ml_X10_134 dX10_just_6 rfl ⟨by decide, by decide⟩ (Nat.le_of_ble_eq_true rfl) ⟨rfl, rfl⟩ ⟨Nat.le_of_ble_eq_true rfl, Nat.le_of_ble_eq_true rfl⟩ (c_m_rg (a := 0) (b := 4) (by decide) (by decide)) ?_
  refine x_ifb_eq 34 dX10_just_9 (by decide) (fun hc_ => absurd (hc_.symm.trans (rg_nI (a := 0) (b := 4) (by omega) hn (by decide))) Bool.false_ne_true) (fun _ => ?_)
  refine x_iload_n dX10_just_12 rfl ?_
  refine x_i2l dX10_just_13 ?_
  refine x_lconst (v := 0) dX10_just_14 (by decide) ?_
  refine x_ldc2 dX10_just_15 kc_X10_293 ?_
  refine x_csd mf_X10_in ml_X10_134 dX10_just_18 rfl ⟨by decide, by decide⟩ (Nat.le_of_ble_eq_true rfl) ⟨rfl, rfl⟩ ⟨Nat.le_of_ble_eq_true rfl, Nat.le_of_ble_eq_true rfl⟩ (c_m_rg (a := 0) (b := 20) (by decide) (by decide)) ?_
  refine x_ifb_eq 34 dX10_just_21 (by decide) (fun hc_ => absurd (hc_.symm.trans (hk)) Bool.false_ne_true) (fun _ => ?_)
  refine x_iload_n dX10_just_24 rfl ?_
  refine x_i2l dX10_just_25 ?_
  refine x_lconst (v := 0) dX10_just_26 (by decide) ?_
  refine x_lconst (v := 1) dX10_just_27 (by decide) ?_
  refine x_csd mf_X10_in ml_X10_134 dX10_just_28 rfl ⟨by decide, by decide⟩ (Nat.le_of_ble_eq_true rfl) ⟨rfl, rfl⟩ ⟨Nat.le_of_ble_eq_true rfl, Nat.le_of_ble_eq_true rfl⟩ (c_m_rg (a := 0) (b := 1) (by decide) (by decide)) ?_
  refine x_ifb_ne 36 dX10_just_31 (by decide) (fun _ => ?_) (fun hc_ => absurd (hc_.symm.trans (hx)) Bool.false_ne_true)
  refine x_aload_n dX10_just_36 rfl ?_
  refine x_aload_n dX10_just_37 rfl ?_
  refine x_getr fl_X10_7 dX10_just_38 sf_48 rfl ?_
  refine x_iconst (v := 0) dX10_just_41 (by decide) ?_
  refine x_iald (q := 0) dX10_just_42 sf_49 (by decide) (by decide) (by decide) ?_
  refine x_cvd mf_X10_findSome ml_X10_272 dX10_just_43 rfl sf_48 rfl ⟨by decide, by decide⟩ (Nat.le_of_ble_eq_true rfl) ⟨rfl, rfl⟩ ⟨Nat.le_of_ble_eq_true rfl, Nat.le_of_ble_eq_true rfl⟩ (c_m_findSome _ hm hb) ?_
  refine x_aload_n dX10_just_46 rfl ?_
  refine x_cvd mf_X10_startsGather ml_X10_295 dX10_just_47 rfl sf_48 rfl ⟨by decide, by decide⟩ (Nat.le_of_ble_eq_true rfl) ⟨rfl, rfl⟩ ⟨Nat.le_of_ble_eq_true rfl, Nat.le_of_ble_eq_true rfl⟩ (c_m_startsGather) ?_
  refine x_aload_n dX10_just_50 rfl ?_
  refine x_iload_n dX10_just_51 rfl ?_
  refine x_cvd mf_X10_firstOf ml_X10_275 dX10_just_52 rfl sf_48 rfl ⟨by decide, by decide⟩ (Nat.le_of_ble_eq_true rfl) ⟨rfl, rfl⟩ ⟨Nat.le_of_ble_eq_true rfl, Nat.le_of_ble_eq_true rfl⟩ (c_m_firstOf n hn) ?_
  refine x_aload_n dX10_just_55 rfl ?_
  refine x_geti fl_X10_267 dX10_just_56 sf_48 rfl ?_
  refine x_iload_n dX10_just_59 rfl ?_
  skip
  generalize fsM M (M 49 0) mt = M0 at h35 h63 hE h49 h51 h54 hq0 ⊢
  generalize hf : M0 64 = f
  generalize hV : vJust ((Lx (bo so) m n m 0).foldl (stJ (M 49 32) (M 51) (M 54) sq (M 49 0) k) (0, -4, 0)) x = V
  have fin : ∀ (acc : Int32 × Int32 × Int32) (r : Nat → Int32) (l5 : Option Value), vJust acc x = V → XW mX10_just (Fc mX10_just (fun r S' M' => S' = SS Z ext ∧ r = some (.int V) ∧ Eqm M M')) 0 0 (SS Z ext) (gM M0 acc r) 70 [some (.ref 48), some (.int (nI n)), some (.int k), some (.int x), some (.int 0), l5] [] := by
    intro acc r l5 hv
    refine x_iload dX10_just_70 rfl ?_
    refine x_if_eq 117 dX10_just_72 (by decide) (fun _ => ?_) (fun hc_ => absurd (rfl) hc_)
    refine x_iload_n dX10_just_117 rfl ?_
    refine x_if_ne 128 dX10_just_118 (by decide) (fun h118 => ?_) (fun h118 => ?_)
    · refine x_aload_n dX10_just_128 rfl ?_
      refine x_geti fl_X10_287 dX10_just_129 sf_48 rfl ?_
      exact x_iret dX10_just_132 rfl rfl (Nat.le_refl _) (Nat.le_refl _) ⟨rfl, ⟨by rw [← hv]; first | (exact oi (by rw [vJust, decide_eq_true h118]; rfl)) | (exact oi (by rw [vJust, decide_eq_false h118]; rfl)), gM_eqm hE _ _⟩⟩
    · refine x_aload_n dX10_just_121 rfl ?_
      refine x_geti fl_X10_284 dX10_just_122 sf_48 rfl ?_
      refine x_goto 132 dX10_just_125 (by decide) ?_
      exact x_iret dX10_just_132 rfl rfl (Nat.le_refl _) (Nat.le_refl _) ⟨rfl, ⟨by rw [← hv]; first | (exact oi (by rw [vJust, decide_eq_true h118]; rfl)) | (exact oi (by rw [vJust, decide_eq_false h118]; rfl)), gM_eqm hE _ _⟩⟩
  by_cases hc : n ≤ m
  · rw [← Rm_first _ hc] at hV
    have loop : ∀ a, okA m n a → ∀ (acc : Int32 × Int32 × Int32) (l5 : Option Value), vJust ((sna (bo so) a n :: Rm (bo so) m n a n).foldl (stJ (M 49 32) (M 51) (M 54) sq (M 49 0) k) acc) x = V → XW mX10_just (Fc mX10_just (fun r S' M' => S' = SS Z ext ∧ r = some (.int V) ∧ Eqm M M')) 0 0 (SS Z ext) (gM M0 acc (atr n a f)) 70 [some (.ref 48), some (.int (nI n)), some (.int k), some (.int x), some (.int 1), l5] [] := by
      refine enumI (bo so) hc (P := fun a l => ∀ (acc : Int32 × Int32 × Int32) (l5 : Option Value), vJust ((sna (bo so) a n :: l).foldl (stJ (M 49 32) (M 51) (M 54) sq (M 49 0) k) acc) x = V → XW mX10_just (Fc mX10_just (fun r S' M' => S' = SS Z ext ∧ r = some (.int V) ∧ Eqm M M')) 0 0 (SS Z ext) (gM M0 acc (atr n a f)) 70 [some (.ref 48), some (.int (nI n)), some (.int k), some (.int x), some (.int 1), l5] []) ?_ ?_
      · intro a ha hK acc l5 hacc
        rw [← h49, ← h51, ← h54, ← h63, List.foldl_cons, List.foldl_nil, stJ] at hacc
        by_cases hl : Lf (M0 49 32) (M0 51) (M0 54) (M0 49 0 &&& (sna (bo (M0 63)) a n ^^^ (-1))) sq = k
        · rw [if_pos (decide_eq_true hl)] at hacc
          refine x_iload dX10_just_70 rfl ?_
          refine x_if_eq 117 dX10_just_72 (by decide) (fun hc_ => absurd hc_ (by decide)) (fun _ => ?_)
          refine x_aload_n dX10_just_75 rfl ?_
          refine x_iload_n dX10_just_76 rfl ?_
          refine x_cvd mf_X10_setNow ml_X10_278 dX10_just_77 rfl sf_48 rfl ⟨by decide, by decide⟩ (Nat.le_of_ble_eq_true rfl) ⟨rfl, rfl⟩ ⟨Nat.le_of_ble_eq_true rfl, Nat.le_of_ble_eq_true rfl⟩ (c_m_setNow n a hn (okA_lt ha hc hle) (fun j hj => atr_in hj)) ?_
          refine x_istore dX10_just_80 (by decide) ?_
          refine x_aload_n dX10_just_82 rfl ?_
          refine x_aload_n dX10_just_83 rfl ?_
          refine x_getr fl_X10_7 dX10_just_84 sf_48 rfl ?_
          refine x_iconst (v := 0) dX10_just_87 (by decide) ?_
          refine x_iald (q := 0) dX10_just_88 sf_49 (by decide) (by decide) (by decide) ?_
          refine x_iload dX10_just_89 rfl ?_
          refine x_iconst (v := -1) dX10_just_91 (by decide) ?_
          refine x_ixor dX10_just_92 ?_
          refine x_iand dX10_just_93 ?_
          refine x_cvd mf_X10_leftOf ml_X10_221 dX10_just_94 rfl sf_48 rfl ⟨by decide, by decide⟩ (Nat.le_of_ble_eq_true rfl) ⟨rfl, rfl⟩ ⟨Nat.le_of_ble_eq_true rfl, Nat.le_of_ble_eq_true rfl⟩ (c_m_leftOf (sq := sq) _ hq0 hb2) ?_
          refine x_iload_n dX10_just_97 rfl ?_
          refine x_icmp_ne 107 dX10_just_98 (by decide) (fun hc_ => absurd (hl) hc_) (fun _ => ?_)
          refine x_aload_n dX10_just_101 rfl ?_
          refine x_iload dX10_just_102 rfl ?_
          refine x_cvd mf_X10_gathers ml_X10_298 dX10_just_104 rfl sf_48 rfl ⟨by decide, by decide⟩ (Nat.le_of_ble_eq_true rfl) ⟨rfl, rfl⟩ ⟨Nat.le_of_ble_eq_true rfl, Nat.le_of_ble_eq_true rfl⟩ (c_m_gathers _) ?_
          rw [show upr (gM M0 acc (atr n a f)) 48 (g3 (gM M0 acc (atr n a f) 48) (gth (gM M0 acc (atr n a f) 48 37, gM M0 acc (atr n a f) 48 38, gM M0 acc (atr n a f) 48 39) (snw (gM M0 acc (atr n a f) 63) a n))) = gM M0 (gth acc (sna (bo (M0 63)) a n)) (atr n a f) from gM_gth _ _ _ _]
          refine x_aload_n dX10_just_107 rfl ?_
          refine x_iload_n dX10_just_108 rfl ?_
          refine x_cvd mf_X10_nextOf ml_X10_281 dX10_just_109 rfl sf_48 rfl ⟨by decide, by decide⟩ (Nat.le_of_ble_eq_true rfl) ⟨rfl, rfl⟩ ⟨Nat.le_of_ble_eq_true rfl, Nat.le_of_ble_eq_true rfl⟩ (c_m_next0 hn hc hle ha h35 rfl hK) ?_
          refine x_istore dX10_just_112 (by decide) ?_
          refine x_goto 70 dX10_just_114 (by decide) ?_
          exact fin _ _ _ hacc
        · rw [if_neg (by rw [decide_eq_false hl]; decide)] at hacc
          refine x_iload dX10_just_70 rfl ?_
          refine x_if_eq 117 dX10_just_72 (by decide) (fun hc_ => absurd hc_ (by decide)) (fun _ => ?_)
          refine x_aload_n dX10_just_75 rfl ?_
          refine x_iload_n dX10_just_76 rfl ?_
          refine x_cvd mf_X10_setNow ml_X10_278 dX10_just_77 rfl sf_48 rfl ⟨by decide, by decide⟩ (Nat.le_of_ble_eq_true rfl) ⟨rfl, rfl⟩ ⟨Nat.le_of_ble_eq_true rfl, Nat.le_of_ble_eq_true rfl⟩ (c_m_setNow n a hn (okA_lt ha hc hle) (fun j hj => atr_in hj)) ?_
          refine x_istore dX10_just_80 (by decide) ?_
          refine x_aload_n dX10_just_82 rfl ?_
          refine x_aload_n dX10_just_83 rfl ?_
          refine x_getr fl_X10_7 dX10_just_84 sf_48 rfl ?_
          refine x_iconst (v := 0) dX10_just_87 (by decide) ?_
          refine x_iald (q := 0) dX10_just_88 sf_49 (by decide) (by decide) (by decide) ?_
          refine x_iload dX10_just_89 rfl ?_
          refine x_iconst (v := -1) dX10_just_91 (by decide) ?_
          refine x_ixor dX10_just_92 ?_
          refine x_iand dX10_just_93 ?_
          refine x_cvd mf_X10_leftOf ml_X10_221 dX10_just_94 rfl sf_48 rfl ⟨by decide, by decide⟩ (Nat.le_of_ble_eq_true rfl) ⟨rfl, rfl⟩ ⟨Nat.le_of_ble_eq_true rfl, Nat.le_of_ble_eq_true rfl⟩ (c_m_leftOf (sq := sq) _ hq0 hb2) ?_
          refine x_iload_n dX10_just_97 rfl ?_
          refine x_icmp_ne 107 dX10_just_98 (by decide) (fun _ => ?_) (fun hc_ => absurd hc_ (hl))
          refine x_aload_n dX10_just_107 rfl ?_
          refine x_iload_n dX10_just_108 rfl ?_
          refine x_cvd mf_X10_nextOf ml_X10_281 dX10_just_109 rfl sf_48 rfl ⟨by decide, by decide⟩ (Nat.le_of_ble_eq_true rfl) ⟨rfl, rfl⟩ ⟨Nat.le_of_ble_eq_true rfl, Nat.le_of_ble_eq_true rfl⟩ (c_m_next0 hn hc hle ha h35 rfl hK) ?_
          refine x_istore dX10_just_112 (by decide) ?_
          refine x_goto 70 dX10_just_114 (by decide) ?_
          exact fin _ _ _ hacc
      · intro a K ha hK hok ih acc l5 hacc
        rw [List.foldl_cons] at hacc
        have ih := fun l5 => ih _ l5 hacc
        rw [stJ] at ih
        rw [← h49, ← h51, ← h54, ← h63] at ih
        by_cases hl : Lf (M0 49 32) (M0 51) (M0 54) (M0 49 0 &&& (sna (bo (M0 63)) a n ^^^ (-1))) sq = k
        · rw [if_pos (decide_eq_true hl)] at ih
          refine x_iload dX10_just_70 rfl ?_
          refine x_if_eq 117 dX10_just_72 (by decide) (fun hc_ => absurd hc_ (by decide)) (fun _ => ?_)
          refine x_aload_n dX10_just_75 rfl ?_
          refine x_iload_n dX10_just_76 rfl ?_
          refine x_cvd mf_X10_setNow ml_X10_278 dX10_just_77 rfl sf_48 rfl ⟨by decide, by decide⟩ (Nat.le_of_ble_eq_true rfl) ⟨rfl, rfl⟩ ⟨Nat.le_of_ble_eq_true rfl, Nat.le_of_ble_eq_true rfl⟩ (c_m_setNow n a hn (okA_lt ha hc hle) (fun j hj => atr_in hj)) ?_
          refine x_istore dX10_just_80 (by decide) ?_
          refine x_aload_n dX10_just_82 rfl ?_
          refine x_aload_n dX10_just_83 rfl ?_
          refine x_getr fl_X10_7 dX10_just_84 sf_48 rfl ?_
          refine x_iconst (v := 0) dX10_just_87 (by decide) ?_
          refine x_iald (q := 0) dX10_just_88 sf_49 (by decide) (by decide) (by decide) ?_
          refine x_iload dX10_just_89 rfl ?_
          refine x_iconst (v := -1) dX10_just_91 (by decide) ?_
          refine x_ixor dX10_just_92 ?_
          refine x_iand dX10_just_93 ?_
          refine x_cvd mf_X10_leftOf ml_X10_221 dX10_just_94 rfl sf_48 rfl ⟨by decide, by decide⟩ (Nat.le_of_ble_eq_true rfl) ⟨rfl, rfl⟩ ⟨Nat.le_of_ble_eq_true rfl, Nat.le_of_ble_eq_true rfl⟩ (c_m_leftOf (sq := sq) _ hq0 hb2) ?_
          refine x_iload_n dX10_just_97 rfl ?_
          refine x_icmp_ne 107 dX10_just_98 (by decide) (fun hc_ => absurd (hl) hc_) (fun _ => ?_)
          refine x_aload_n dX10_just_101 rfl ?_
          refine x_iload dX10_just_102 rfl ?_
          refine x_cvd mf_X10_gathers ml_X10_298 dX10_just_104 rfl sf_48 rfl ⟨by decide, by decide⟩ (Nat.le_of_ble_eq_true rfl) ⟨rfl, rfl⟩ ⟨Nat.le_of_ble_eq_true rfl, Nat.le_of_ble_eq_true rfl⟩ (c_m_gathers _) ?_
          rw [show upr (gM M0 acc (atr n a f)) 48 (g3 (gM M0 acc (atr n a f) 48) (gth (gM M0 acc (atr n a f) 48 37, gM M0 acc (atr n a f) 48 38, gM M0 acc (atr n a f) 48 39) (snw (gM M0 acc (atr n a f) 63) a n))) = gM M0 (gth acc (sna (bo (M0 63)) a n)) (atr n a f) from gM_gth _ _ _ _]
          refine x_aload_n dX10_just_107 rfl ?_
          refine x_iload_n dX10_just_108 rfl ?_
          refine x_cvd mf_X10_nextOf ml_X10_281 dX10_just_109 rfl sf_48 rfl ⟨by decide, by decide⟩ (Nat.le_of_ble_eq_true rfl) ⟨rfl, rfl⟩ ⟨Nat.le_of_ble_eq_true rfl, Nat.le_of_ble_eq_true rfl⟩ (c_m_next1 hn hc hle ha h35 rfl hK) ?_
          refine x_istore dX10_just_112 (by decide) ?_
          refine x_goto 70 dX10_just_114 (by decide) ?_
          rw [gM_at]
          exact ih _
        · rw [if_neg (by rw [decide_eq_false hl]; decide)] at ih
          refine x_iload dX10_just_70 rfl ?_
          refine x_if_eq 117 dX10_just_72 (by decide) (fun hc_ => absurd hc_ (by decide)) (fun _ => ?_)
          refine x_aload_n dX10_just_75 rfl ?_
          refine x_iload_n dX10_just_76 rfl ?_
          refine x_cvd mf_X10_setNow ml_X10_278 dX10_just_77 rfl sf_48 rfl ⟨by decide, by decide⟩ (Nat.le_of_ble_eq_true rfl) ⟨rfl, rfl⟩ ⟨Nat.le_of_ble_eq_true rfl, Nat.le_of_ble_eq_true rfl⟩ (c_m_setNow n a hn (okA_lt ha hc hle) (fun j hj => atr_in hj)) ?_
          refine x_istore dX10_just_80 (by decide) ?_
          refine x_aload_n dX10_just_82 rfl ?_
          refine x_aload_n dX10_just_83 rfl ?_
          refine x_getr fl_X10_7 dX10_just_84 sf_48 rfl ?_
          refine x_iconst (v := 0) dX10_just_87 (by decide) ?_
          refine x_iald (q := 0) dX10_just_88 sf_49 (by decide) (by decide) (by decide) ?_
          refine x_iload dX10_just_89 rfl ?_
          refine x_iconst (v := -1) dX10_just_91 (by decide) ?_
          refine x_ixor dX10_just_92 ?_
          refine x_iand dX10_just_93 ?_
          refine x_cvd mf_X10_leftOf ml_X10_221 dX10_just_94 rfl sf_48 rfl ⟨by decide, by decide⟩ (Nat.le_of_ble_eq_true rfl) ⟨rfl, rfl⟩ ⟨Nat.le_of_ble_eq_true rfl, Nat.le_of_ble_eq_true rfl⟩ (c_m_leftOf (sq := sq) _ hq0 hb2) ?_
          refine x_iload_n dX10_just_97 rfl ?_
          refine x_icmp_ne 107 dX10_just_98 (by decide) (fun _ => ?_) (fun hc_ => absurd hc_ (hl))
          refine x_aload_n dX10_just_107 rfl ?_
          refine x_iload_n dX10_just_108 rfl ?_
          refine x_cvd mf_X10_nextOf ml_X10_281 dX10_just_109 rfl sf_48 rfl ⟨by decide, by decide⟩ (Nat.le_of_ble_eq_true rfl) ⟨rfl, rfl⟩ ⟨Nat.le_of_ble_eq_true rfl, Nat.le_of_ble_eq_true rfl⟩ (c_m_next1 hn hc hle ha h35 rfl hK) ?_
          refine x_istore dX10_just_112 (by decide) ?_
          refine x_goto 70 dX10_just_114 (by decide) ?_
          rw [gM_at]
          exact ih _
    refine x_icmp_lt 67 dX10_just_60 (by decide) (fun hc_ => absurd hc_ (by show ¬ M0 48 35 < nI n; rw [h35]; exact nI_nlt hc (by omega))) (fun _ => ?_)
    refine x_iconst (v := 1) dX10_just_63 (by decide) ?_
    refine x_goto 68 dX10_just_64 (by decide) ?_
    refine x_istore dX10_just_68 (by decide) ?_
    rw [← hf] at loop
    exact loop (fun j => j) ok_first (0, -4, 0) none hV
  · rw [Lx_nil _ _ _ _ _ (by omega)] at hV
    refine x_icmp_lt 67 dX10_just_60 (by decide) (fun _ => ?_) (fun hc_ => absurd (by show M0 48 35 < nI n; rw [h35]; exact nI_lt (by omega) (by omega)) hc_)
    refine x_iconst (v := 0) dX10_just_67 (by decide) ?_
    refine x_istore dX10_just_68 (by decide) ?_
    exact fin (0, -4, 0) _ none hV
