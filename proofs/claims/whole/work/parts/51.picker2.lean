/-! ===== the class: pickAll, between, just, gone ===== -/
def pbR (L : Int32) (f : Nat → Int32) : Nat → Nat → Int32
  | 0 => f
  | k + 1 => if lies L (nI k) then upd (pbR L f k) (fsC L k) ((1 : Int32) <<< (nI k &&& 31)) else pbR L f k
def ptR (L : Int32) (rm : Nat → Int32) (sq : Nat) (f : Nat → Int32) : Nat → Nat → Int32
  | 0 => f
  | k + 1 => if lies L (nI k) then upd (ptR L rm sq f k) (fsC L k) (orb (tou rm (-1) (nI k)) sq) else ptR L rm sq f k
theorem pbR_s (L : Int32) (f : Nat → Int32) (k : Nat) : pbR L f (k + 1) = if lies L (nI k) then upd (pbR L f k) (fsC L k) ((1 : Int32) <<< (nI k &&& 31)) else pbR L f k := rfl
theorem ptR_s (L : Int32) (rm : Nat → Int32) (sq : Nat) (f : Nat → Int32) (k : Nat) : ptR L rm sq f (k + 1) = if lies L (nI k) then upd (ptR L rm sq f k) (fsC L k) (orb (tou rm (-1) (nI k)) sq) else ptR L rm sq f k := rfl
def paM (M : Mm) (L : Int32) (sq k : Nat) : Mm := upr (upr M 27 (pbR L (M 27) k)) 28 (ptR L (M 5) sq (M 28) k)
theorem pa_put (X : Mm) (co : Int32) : up2 (up2 (up2 (up2 (up2 X 24 0 0) 24 1 0) 24 2 (-1)) 24 3 0) 24 9 co = pkM (up2 X 24 9 co) (0, 0, -1, 0) := by
  funext c
  unfold pkM upr p4 up2
  by_cases hc : c = 24
  · subst hc
    funext k
    unfold upd
    by_cases h9 : k = 9
    · simp [h9]
    · by_cases h3 : k = 3
      · simp [h3]
      · by_cases h2 : k = 2
        · simp [h2]
        · by_cases h1 : k = 1
          · simp [h1]
          · by_cases h0 : k = 0 <;> simp [h0, h1, h2, h3, h9]
  · simp [hc]
/-- all that pickAll finds -/
def pAll (L : Int32) (rm : Nat → Int32) (sq mt n : Nat) (b0 t0 : Nat → Int32) (co : Int32) (w : Nat) (wo wn : Nat → Int32) : Pk := (Px (pbR L b0 mt) (ptR L rm sq t0 mt) n (fsC L mt) 0 0).foldl (lkS co w wo wn) (0, 0, -1, 0)
theorem c_pickAll {Z : List (Option Nat)} {ext : List Ds} {M : Mm} {mt sq w : Nat} (n : Nat) (L co : Int32) (hm : M 1 2 = nI mt) (hb : mt ≤ 31) (hq : M 1 3 = nI sq) (hb2 : sq ≤ 20) (hw : M 24 4 = nI w) (hw3 : w ≤ 3) (hn : n ≤ 4) :
    Ct mX4_pickAll [.ref 24, .ref 1, .int L, .int (nI n), .int co] (SS Z ext) M (Rt none (pkM (up2 (paM M L sq mt) 24 9 co) (pAll L (M 5) sq mt n (M 27) (M 28) co w (M 25) (M 26)))) := by
  have hle : fsC L mt ≤ 31 := Nat.le_trans (fsC_le _ _) hb
  refine Ct.of (by decide) (Nat.le_of_ble_eq_true rfl) ?_
  refine x_iconst (v := 0) dX4_pickAll_0 (by decide) ?_
  refine x_istore dX4_pickAll_1 (by decide) ?_
  refine x_iconst (v := 0) dX4_pickAll_3 (by decide) ?_
  refine x_istore dX4_pickAll_4 (by decide) ?_
  refine x_eq (M := paM M L sq 0) (by rw [paM, show pbR L (M 27) 0 = M 27 from rfl, upr_self, show ptR L (M 5) sq (M 28) 0 = M 28 from rfl, upr_self]) rfl rfl rfl ?_
  refine lup (P := fun k => XW _ _ 0 0 (SS Z ext) (paM M L sq k) 6 [some (.ref 24), some (.ref 1), some (.int L), some (.int (nI n)), some (.int co), some (.int (nI (fsC L k))), some (.int (nI k))] []) (N := mt) ?_ ?_ 0 (by omega)
  · have hc := c_pickBelow (Z := Z) (ext := ext) hw3 n 40 (fsC L mt) (pkM (up2 (paM M L sq mt) 24 9 co) (0, 0, -1, 0)) 0 0 (by omega) hle hn hw
    rw [pkM_pkM, pk4_pkM] at hc
    refine x_iload dX4_pickAll_6 rfl ?_
    refine x_aload_n dX4_pickAll_8 rfl ?_
    refine x_geti fl_X4_28 dX4_pickAll_9 sf_1 rfl ?_
    refine x_icmp_ge 58 dX4_pickAll_12 (by decide) (fun _ => ?_) (fun hc_ => absurd (by show M 1 2 ≤ nI mt; rw [hm]; exact nI_le (Nat.le_refl _) (by omega)) hc_)
    refine x_aload_n dX4_pickAll_58 rfl ?_
    refine x_iconst (v := 0) dX4_pickAll_59 (by decide) ?_
    refine x_put fl_X4_37 dX4_pickAll_60 sf_24 rfl rfl rfl ?_
    refine x_aload_n dX4_pickAll_63 rfl ?_
    refine x_iconst (v := 0) dX4_pickAll_64 (by decide) ?_
    refine x_put fl_X4_40 dX4_pickAll_65 sf_24 rfl rfl rfl ?_
    refine x_aload_n dX4_pickAll_68 rfl ?_
    refine x_iconst (v := -1) dX4_pickAll_69 (by decide) ?_
    refine x_put fl_X4_43 dX4_pickAll_70 sf_24 rfl rfl rfl ?_
    refine x_aload_n dX4_pickAll_73 rfl ?_
    refine x_iconst (v := 0) dX4_pickAll_74 (by decide) ?_
    refine x_put fl_X4_46 dX4_pickAll_75 sf_24 rfl rfl rfl ?_
    refine x_aload_n dX4_pickAll_78 rfl ?_
    refine x_iload dX4_pickAll_79 rfl ?_
    refine x_put fl_X4_49 dX4_pickAll_81 sf_24 rfl rfl rfl ?_
    rw [pa_put]
    refine x_aload_n dX4_pickAll_84 rfl ?_
    refine x_iload dX4_pickAll_85 rfl ?_
    refine x_iload_n dX4_pickAll_87 rfl ?_
    refine x_iconst (v := 0) dX4_pickAll_88 (by decide) ?_
    refine x_iconst (v := 0) dX4_pickAll_89 (by decide) ?_
    refine x_csd (mf_X4_pickBelow _) ml_X4_52 dX4_pickAll_90 rfl ⟨by first | decide | omega, by first | decide | omega⟩ (Nat.le_of_ble_eq_true rfl) ⟨rfl, rfl⟩ ⟨Nat.le_of_ble_eq_true rfl, Nat.le_of_ble_eq_true rfl⟩ (hc) ?_
    exact x_ret dX4_pickAll_93 rfl (Nat.le_refl _) (Nat.le_refl _) ⟨rfl, ⟨rfl, rfl⟩⟩
  · intro k hk ih
    have hfl := fsC_le L k
    rw [nI_succ k, fsC_s L k, show paM M L sq (k + 1) = upr (upr M 27 (pbR L (M 27) (k + 1))) 28 (ptR L (M 5) sq (M 28) (k + 1)) from rfl, pbR_s _ _ k, ptR_s _ _ _ _ k] at ih
    have ht := c_touching (S := SS Z ext) (M := up2 (paM M L sq k) 27 (fsC L k) ((1 : Int32) <<< (nI k &&& 31))) (ShG_SS Z ext) (-1) (nI k) hq hb2
    refine x_iload dX4_pickAll_6 rfl ?_
    refine x_aload_n dX4_pickAll_8 rfl ?_
    refine x_geti fl_X4_28 dX4_pickAll_9 sf_1 rfl ?_
    refine x_icmp_ge 58 dX4_pickAll_12 (by decide) (fun hc_ => absurd hc_ (by show ¬ M 1 2 ≤ nI k; rw [hm]; exact nI_ge hk (by omega))) (fun _ => ?_)
    refine x_iload_n dX4_pickAll_15 rfl ?_
    refine x_iload dX4_pickAll_16 rfl ?_
    refine x_ishr dX4_pickAll_18 ?_
    refine x_iconst (v := 1) dX4_pickAll_19 (by decide) ?_
    refine x_iand dX4_pickAll_20 ?_
    refine x_if_eq 52 dX4_pickAll_21 (by decide) (fun h21 => ?_) (fun h21 => ?_)
    · refine x_iinc1 dX4_pickAll_52 rfl (by decide) ?_
      refine x_goto 6 dX4_pickAll_55 (by decide) ?_
      first | (rw [lies_f h21] at ih; exact ih) | (rw [lies_t h21] at ih; simp only [if_true] at ih; rw [nI_succ (fsC L k)] at ih; rw [show paM M L sq k = upr (upr M 27 (pbR L (M 27) k)) 28 (ptR L (M 5) sq (M 28) k) from rfl, up2_upr_ne _ _ _ (by decide), up2_upr2, up2_upr2]; exact ih)
    · refine x_aload_n dX4_pickAll_24 rfl ?_
      refine x_getr fl_X4_18 dX4_pickAll_25 sf_24 rfl ?_
      refine x_iload dX4_pickAll_28 rfl ?_
      refine x_iconst (v := 1) dX4_pickAll_30 (by decide) ?_
      refine x_iload dX4_pickAll_31 rfl ?_
      refine x_ishl dX4_pickAll_33 ?_
      refine x_iast dX4_pickAll_34 sf_27 rfl (by omega) (by decide) ?_
      refine x_aload_n dX4_pickAll_35 rfl ?_
      refine x_getr fl_X4_21 dX4_pickAll_36 sf_24 rfl ?_
      refine x_iload dX4_pickAll_39 rfl ?_
      refine x_aload_n dX4_pickAll_41 rfl ?_
      refine x_iconst (v := -1) dX4_pickAll_42 (by decide) ?_
      refine x_iload dX4_pickAll_43 rfl ?_
      refine x_cvd mf_X2_touching ml_X4_33 dX4_pickAll_45 rfl sf_1 rfl ⟨by decide, by decide⟩ (Nat.le_of_ble_eq_true rfl) ⟨rfl, rfl⟩ ⟨Nat.le_of_ble_eq_true rfl, Nat.le_of_ble_eq_true rfl⟩ (ht) ?_
      refine x_iast dX4_pickAll_48 sf_28 rfl (by omega) (by decide) ?_
      refine x_iinc1 dX4_pickAll_49 rfl (by decide) ?_
      refine x_iinc1 dX4_pickAll_52 rfl (by decide) ?_
      refine x_goto 6 dX4_pickAll_55 (by decide) ?_
      first | (rw [lies_f h21] at ih; exact ih) | (rw [lies_t h21] at ih; simp only [if_true] at ih; rw [nI_succ (fsC L k)] at ih; rw [show paM M L sq k = upr (upr M 27 (pbR L (M 27) k)) 28 (ptR L (M 5) sq (M 28) k) from rfl, up2_upr_ne _ _ _ (by decide), up2_upr2, up2_upr2]; exact ih)
theorem pkM_eqm {M M0 : Mm} (h : Eqm M M0) (k : Pk) : Eqm M (pkM M0 k) := h.ur (fun _ => rfl)
theorem paM_eqm (M : Mm) (L : Int32) (sq k : Nat) (co : Int32) : Eqm M (up2 (paM M L sq k) 24 9 co) := (((Eqm.rf M).ur (fun _ => rfl)).ur (fun _ => rfl)).u2 (by decide)
theorem c_wantNothing {Z : List (Option Nat)} {ext : List Ds} {M : Mm} : Ct mX4_wantNothing [.ref 24] (SS Z ext) M (Rt none (up2 M 24 4 0)) := by
  refine Ct.of (by decide) (Nat.le_of_ble_eq_true rfl) ?_
  refine x_aload_n dX4_wantNothing_0 rfl ?_
  refine x_iconst (v := 0) dX4_wantNothing_1 (by decide) ?_
  refine x_put fl_X4_24 dX4_wantNothing_2 sf_24 rfl rfl rfl ?_
  exact x_ret dX4_wantNothing_5 rfl (Nat.le_refl _) (Nat.le_refl _) ⟨rfl, ⟨rfl, rfl⟩⟩
def wnM (M : Mm) (w : Nat) (sqs num : Int32) : Mm := up2 (up2 (up2 M 25 w sqs) 26 w num) 24 4 (nI (w + 1))
theorem c_want {Z : List (Option Nat)} {ext : List Ds} {M : Mm} {w : Nat} (sqs num : Int32) (hw : M 24 4 = nI w) (hb : w < 3) : Ct mX4_want [.ref 24, .int sqs, .int num] (SS Z ext) M (Rt none (wnM M w sqs num)) := by
  refine Ct.of (by decide) (Nat.le_of_ble_eq_true rfl) ?_
  refine x_aload_n dX4_want_0 rfl ?_
  refine x_geti fl_X4_24 dX4_want_1 sf_24 rfl ?_
  refine x_iconst (v := 3) dX4_want_4 (by decide) ?_
  refine x_icmp_ge 38 dX4_want_5 (by decide) (fun hc_ => absurd hc_ (by rw [hw]; exact nI_ge (b := 3) hb (by decide))) (fun _ => ?_)
  refine x_aload_n dX4_want_8 rfl ?_
  refine x_getr fl_X4_9 dX4_want_9 sf_24 rfl ?_
  refine x_aload_n dX4_want_12 rfl ?_
  refine x_geti fl_X4_24 dX4_want_13 sf_24 rfl ?_
  refine x_iload_n dX4_want_16 rfl ?_
  refine x_iast dX4_want_17 sf_25 hw (by omega) (by decide) ?_
  refine x_aload_n dX4_want_18 rfl ?_
  refine x_getr fl_X4_15 dX4_want_19 sf_24 rfl ?_
  refine x_aload_n dX4_want_22 rfl ?_
  refine x_geti fl_X4_24 dX4_want_23 sf_24 rfl ?_
  refine x_iload_n dX4_want_26 rfl ?_
  refine x_iast dX4_want_27 sf_26 hw (by omega) (by decide) ?_
  refine x_aload_n dX4_want_28 rfl ?_
  refine x_dup dX4_want_29 rfl ?_
  refine x_geti fl_X4_24 dX4_want_30 sf_24 rfl ?_
  refine x_iconst (v := 1) dX4_want_33 (by decide) ?_
  refine x_iadd dX4_want_34 ?_
  refine x_put fl_X4_24 dX4_want_35 sf_24 rfl rfl rfl ?_
  exact x_ret dX4_want_38 rfl (Nat.le_refl _) (Nat.le_refl _) ⟨rfl, ⟨rfl, by rw [wnM, nI_succ, ← hw]; rfl⟩⟩
theorem c_betweenX {Z : List (Option Nat)} {ext : List Ds} {M : Mm} (x : Int32) (hx : rg x 0 4 = false) : Ct mX9_between [.ref 0, .int x] (SS Z ext) M (Rt (some (.int (-1))) M) := by
  refine Ct.of (by decide) (Nat.le_of_ble_eq_true rfl) ?_
  refine x_iload_n dX9_between_0 rfl ?_
  refine x_if_lt 9 dX9_between_1 (by decide) (fun h1 => ?_) (fun h1 => ?_)
  · refine x_iconst (v := -1) dX9_between_9 (by decide) ?_
    exact x_iret dX9_between_10 rfl rfl (Nat.le_refl _) (Nat.le_refl _) ⟨rfl, ⟨rfl, rfl⟩⟩
  · refine x_iload_n dX9_between_4 rfl ?_
    refine x_iconst (v := 4) dX9_between_5 (by decide) ?_
    refine x_icmp_le 11 dX9_between_6 (by decide) (fun h6 => ?_) (fun h6 => ?_)
    · rw [rg_t2 h1 h6] at hx; exact absurd hx (by decide)
    · refine x_iconst (v := -1) dX9_between_9 (by decide) ?_
      exact x_iret dX9_between_10 rfl rfl (Nat.le_refl _) (Nat.le_refl _) ⟨rfl, ⟨rfl, rfl⟩⟩
theorem c_betweenN {Z : List (Option Nat)} {ext : List Ds} {M : Mm} (n : Nat) (hn : n ≤ 4) (hc : ¬ nI n ≤ bcE (M 10 0)) : Ct mX9_between [.ref 0, .int (nI n)] (SS Z ext) M (Rt (some (.int (-4))) M) := by
  refine Ct.of (by decide) (Nat.le_of_ble_eq_true rfl) ?_
  refine x_iload_n dX9_between_0 rfl ?_
  refine x_if_lt 9 dX9_between_1 (by decide) (fun hc_ => absurd hc_ (nI_pos (by omega))) (fun _ => ?_)
  refine x_iload_n dX9_between_4 rfl ?_
  refine x_iconst (v := 4) dX9_between_5 (by decide) ?_
  refine x_icmp_le 11 dX9_between_6 (by decide) (fun _ => ?_) (fun hc_ => absurd (nI_le (b := 4) hn (by decide)) hc_)
  refine x_iload_n dX9_between_11 rfl ?_
  refine x_aload_n dX9_between_12 rfl ?_
  refine x_getr fl_X9_19 dX9_between_13 sf_0 rfl ?_
  refine x_geti fl_X9_137 dX9_between_16 sf_10 rfl ?_
  refine x_csd mf_J6_bitCount_0f7a4 ml_X9_173 dX9_between_19 rfl ⟨by decide, by decide⟩ (Nat.le_of_ble_eq_true rfl) ⟨rfl, rfl⟩ ⟨Nat.le_of_ble_eq_true rfl, Nat.le_of_ble_eq_true rfl⟩ (c_bitCount _) ?_
  refine x_icmp_le 28 dX9_between_22 (by decide) (fun hc_ => absurd hc_ (hc)) (fun _ => ?_)
  refine x_bipush (v := -4) dX9_between_25 (by decide) ?_
  exact x_iret dX9_between_27 rfl rfl (Nat.le_refl _) (Nat.le_refl _) ⟨rfl, ⟨rfl, rfl⟩⟩
theorem c_between {Z : List (Option Nat)} {ext : List Ds} {M : Mm} {mt sq : Nat} (n : Nat) (hn : n ≤ 4) (hm : M 1 2 = nI mt) (hb : mt ≤ 31) (hq : M 1 3 = nI sq) (hb2 : sq ≤ 20) (hc : nI n ≤ bcE (M 10 0)) : Ct mX9_between [.ref 0, .int (nI n)] (SS Z ext) M (fun r M' => r = some (.int (pAll (M 10 0) (M 5) sq mt n (M 27) (M 28) (lsq (M 10 1) (M 6) (M 5) sq (M 10 0)) 0 (M 25) (M 26)).2.2.2) ∧ Eqm M M') := by
  refine Ct.of (by decide) (Nat.le_of_ble_eq_true rfl) ?_
  refine x_iload_n dX9_between_0 rfl ?_
  refine x_if_lt 9 dX9_between_1 (by decide) (fun hc_ => absurd hc_ (nI_pos (by omega))) (fun _ => ?_)
  refine x_iload_n dX9_between_4 rfl ?_
  refine x_iconst (v := 4) dX9_between_5 (by decide) ?_
  refine x_icmp_le 11 dX9_between_6 (by decide) (fun _ => ?_) (fun hc_ => absurd (nI_le (b := 4) hn (by decide)) hc_)
  refine x_iload_n dX9_between_11 rfl ?_
  refine x_aload_n dX9_between_12 rfl ?_
  refine x_getr fl_X9_19 dX9_between_13 sf_0 rfl ?_
  refine x_geti fl_X9_137 dX9_between_16 sf_10 rfl ?_
  refine x_csd mf_J6_bitCount_0f7a4 ml_X9_173 dX9_between_19 rfl ⟨by decide, by decide⟩ (Nat.le_of_ble_eq_true rfl) ⟨rfl, rfl⟩ ⟨Nat.le_of_ble_eq_true rfl, Nat.le_of_ble_eq_true rfl⟩ (c_bitCount _) ?_
  refine x_icmp_le 28 dX9_between_22 (by decide) (fun _ => ?_) (fun hc_ => absurd (hc) hc_)
  refine x_aload_n dX9_between_28 rfl ?_
  refine x_getr fl_X9_49 dX9_between_29 sf_0 rfl ?_
  refine x_cvd mf_X4_wantNothing ml_X9_207 dX9_between_32 rfl sf_24 rfl ⟨by decide, by decide⟩ (Nat.le_of_ble_eq_true rfl) ⟨rfl, rfl⟩ ⟨Nat.le_of_ble_eq_true rfl, Nat.le_of_ble_eq_true rfl⟩ (c_wantNothing) ?_
  refine x_aload_n dX9_between_35 rfl ?_
  refine x_getr fl_X9_49 dX9_between_36 sf_0 rfl ?_
  refine x_aload_n dX9_between_39 rfl ?_
  refine x_getr fl_X9_10 dX9_between_40 sf_0 rfl ?_
  refine x_aload_n dX9_between_43 rfl ?_
  refine x_getr fl_X9_19 dX9_between_44 sf_0 rfl ?_
  refine x_geti fl_X9_137 dX9_between_47 sf_10 rfl ?_
  refine x_iload_n dX9_between_50 rfl ?_
  refine x_aload_n dX9_between_51 rfl ?_
  refine x_aload_n dX9_between_52 rfl ?_
  refine x_getr fl_X9_19 dX9_between_53 sf_0 rfl ?_
  refine x_geti fl_X9_137 dX9_between_56 sf_10 rfl ?_
  refine x_cvd mf_X9_leftSquares ml_X9_187 dX9_between_59 rfl sf_0 rfl ⟨by decide, by decide⟩ (Nat.le_of_ble_eq_true rfl) ⟨rfl, rfl⟩ ⟨Nat.le_of_ble_eq_true rfl, Nat.le_of_ble_eq_true rfl⟩ (c_leftSquares (sq := sq) _ hq hb2) ?_
  refine x_cvd mf_X4_pickAll ml_X9_210 dX9_between_62 rfl sf_24 rfl ⟨by decide, by decide⟩ (Nat.le_of_ble_eq_true rfl) ⟨rfl, rfl⟩ ⟨Nat.le_of_ble_eq_true rfl, Nat.le_of_ble_eq_true rfl⟩ (c_pickAll (w := 0) n _ _ hm hb hq hb2 rfl (by omega) hn) ?_
  refine x_aload_n dX9_between_65 rfl ?_
  refine x_getr fl_X9_49 dX9_between_66 sf_0 rfl ?_
  refine x_geti fl_X9_214 dX9_between_69 sf_24 rfl ?_
  exact x_iret dX9_between_72 rfl rfl (Nat.le_refl _) (Nat.le_refl _) ⟨rfl, ⟨rfl, pkM_eqm (((Eqm.rf M).u2 (by decide)).tr (paM_eqm _ _ _ _ _)) _⟩⟩
theorem c_justX {Z : List (Option Nat)} {ext : List Ds} {M : Mm} (n k x : Int32) (hx : (rg n 0 4 && rg k 0 20 && rg x 0 1) = false) : Ct mX9_just [.ref 0, .int n, .int k, .int x] (SS Z ext) M (Rt (some (.int (-1))) M) := by
  refine Ct.of (by decide) (Nat.le_of_ble_eq_true rfl) ?_
  refine x_iload_n dX9_just_0 rfl ?_
  refine x_if_lt 28 dX9_just_1 (by decide) (fun h1 => ?_) (fun h1 => ?_)
  · refine x_iconst (v := -1) dX9_just_28 (by decide) ?_
    exact x_iret dX9_just_29 rfl rfl (Nat.le_refl _) (Nat.le_refl _) ⟨rfl, ⟨rfl, rfl⟩⟩
  · refine x_iload_n dX9_just_4 rfl ?_
    refine x_iconst (v := 4) dX9_just_5 (by decide) ?_
    refine x_icmp_gt 28 dX9_just_6 (by decide) (fun h6 => ?_) (fun h6 => ?_)
    · refine x_iconst (v := -1) dX9_just_28 (by decide) ?_
      exact x_iret dX9_just_29 rfl rfl (Nat.le_refl _) (Nat.le_refl _) ⟨rfl, ⟨rfl, rfl⟩⟩
    · refine x_iload_n dX9_just_9 rfl ?_
      refine x_if_lt 28 dX9_just_10 (by decide) (fun h10 => ?_) (fun h10 => ?_)
      · refine x_iconst (v := -1) dX9_just_28 (by decide) ?_
        exact x_iret dX9_just_29 rfl rfl (Nat.le_refl _) (Nat.le_refl _) ⟨rfl, ⟨rfl, rfl⟩⟩
      · refine x_iload_n dX9_just_13 rfl ?_
        refine x_bipush (v := 20) dX9_just_14 (by decide) ?_
        refine x_icmp_gt 28 dX9_just_16 (by decide) (fun h16 => ?_) (fun h16 => ?_)
        · refine x_iconst (v := -1) dX9_just_28 (by decide) ?_
          exact x_iret dX9_just_29 rfl rfl (Nat.le_refl _) (Nat.le_refl _) ⟨rfl, ⟨rfl, rfl⟩⟩
        · refine x_iload_n dX9_just_19 rfl ?_
          refine x_if_lt 28 dX9_just_20 (by decide) (fun h20 => ?_) (fun h20 => ?_)
          · refine x_iconst (v := -1) dX9_just_28 (by decide) ?_
            exact x_iret dX9_just_29 rfl rfl (Nat.le_refl _) (Nat.le_refl _) ⟨rfl, ⟨rfl, rfl⟩⟩
          · refine x_iload_n dX9_just_23 rfl ?_
            refine x_iconst (v := 1) dX9_just_24 (by decide) ?_
            refine x_icmp_le 30 dX9_just_25 (by decide) (fun h25 => ?_) (fun h25 => ?_)
            · rw [rg_t1 h1 h6, rg_t1 h10 h16, rg_t2 h20 h25] at hx; exact absurd hx (by decide)
            · refine x_iconst (v := -1) dX9_just_28 (by decide) ?_
              exact x_iret dX9_just_29 rfl rfl (Nat.le_refl _) (Nat.le_refl _) ⟨rfl, ⟨rfl, rfl⟩⟩
def cJust (k : Pk) (x : Int32) : Int32 := if decide (x = 0) then k.1 else if decide (k.1 = 0) then -4 else k.2.1
theorem c_just {Z : List (Option Nat)} {ext : List Ds} {M : Mm} {mt sq : Nat} (n : Nat) (k x : Int32) (hn : n ≤ 4) (hk : rg k 0 20 = true) (hx : rg x 0 1 = true) (hm : M 1 2 = nI mt) (hb : mt ≤ 31) (hq : M 1 3 = nI sq) (hb2 : sq ≤ 20) : Ct mX9_just [.ref 0, .int (nI n), .int k, .int x] (SS Z ext) M (fun r M' => r = some (.int (cJust (pAll (M 10 0) (M 5) sq mt n (M 27) (M 28) 0 1 (upd (M 25) 0 (lsq (M 10 1) (M 6) (M 5) sq (M 10 0))) (upd (M 26) 0 k)) x)) ∧ Eqm M M') := by
  have hk2 := rg_t.mp hk
  have hx2 := rg_t.mp hx
  refine Ct.of (by decide) (Nat.le_of_ble_eq_true rfl) ?_
  refine x_iload_n dX9_just_0 rfl ?_
  refine x_if_lt 28 dX9_just_1 (by decide) (fun hc_ => absurd hc_ (nI_pos (by omega))) (fun _ => ?_)
  refine x_iload_n dX9_just_4 rfl ?_
  refine x_iconst (v := 4) dX9_just_5 (by decide) ?_
  refine x_icmp_gt 28 dX9_just_6 (by decide) (fun hc_ => absurd hc_ (nI_nlt (a := 4) hn (by decide))) (fun _ => ?_)
  refine x_iload_n dX9_just_9 rfl ?_
  refine x_if_lt 28 dX9_just_10 (by decide) (fun hc_ => absurd hc_ (fun q => absurd hk2.1 (by rw [fa_le]; rw [fa_lt] at q; omega))) (fun _ => ?_)
  refine x_iload_n dX9_just_13 rfl ?_
  refine x_bipush (v := 20) dX9_just_14 (by decide) ?_
  refine x_icmp_gt 28 dX9_just_16 (by decide) (fun hc_ => absurd hc_ (fun q => absurd hk2.2 (by rw [fa_le]; rw [fa_lt] at q; omega))) (fun _ => ?_)
  refine x_iload_n dX9_just_19 rfl ?_
  refine x_if_lt 28 dX9_just_20 (by decide) (fun hc_ => absurd hc_ (fun q => absurd hx2.1 (by rw [fa_le]; rw [fa_lt] at q; omega))) (fun _ => ?_)
  refine x_iload_n dX9_just_23 rfl ?_
  refine x_iconst (v := 1) dX9_just_24 (by decide) ?_
  refine x_icmp_le 30 dX9_just_25 (by decide) (fun _ => ?_) (fun hc_ => absurd (hx2.2) hc_)
  refine x_aload_n dX9_just_30 rfl ?_
  refine x_getr fl_X9_49 dX9_just_31 sf_0 rfl ?_
  refine x_cvd mf_X4_wantNothing ml_X9_207 dX9_just_34 rfl sf_24 rfl ⟨by decide, by decide⟩ (Nat.le_of_ble_eq_true rfl) ⟨rfl, rfl⟩ ⟨Nat.le_of_ble_eq_true rfl, Nat.le_of_ble_eq_true rfl⟩ (c_wantNothing) ?_
  refine x_aload_n dX9_just_37 rfl ?_
  refine x_getr fl_X9_49 dX9_just_38 sf_0 rfl ?_
  refine x_aload_n dX9_just_41 rfl ?_
  refine x_aload_n dX9_just_42 rfl ?_
  refine x_getr fl_X9_19 dX9_just_43 sf_0 rfl ?_
  refine x_geti fl_X9_137 dX9_just_46 sf_10 rfl ?_
  refine x_cvd mf_X9_leftSquares ml_X9_187 dX9_just_49 rfl sf_0 rfl ⟨by decide, by decide⟩ (Nat.le_of_ble_eq_true rfl) ⟨rfl, rfl⟩ ⟨Nat.le_of_ble_eq_true rfl, Nat.le_of_ble_eq_true rfl⟩ (c_leftSquares (sq := sq) _ hq hb2) ?_
  refine x_iload_n dX9_just_52 rfl ?_
  refine x_cvd mf_X4_want ml_X9_217 dX9_just_53 rfl sf_24 rfl ⟨by decide, by decide⟩ (Nat.le_of_ble_eq_true rfl) ⟨rfl, rfl⟩ ⟨Nat.le_of_ble_eq_true rfl, Nat.le_of_ble_eq_true rfl⟩ (c_want (w := 0) _ k rfl (by omega)) ?_
  refine x_aload_n dX9_just_56 rfl ?_
  refine x_getr fl_X9_49 dX9_just_57 sf_0 rfl ?_
  refine x_aload_n dX9_just_60 rfl ?_
  refine x_getr fl_X9_10 dX9_just_61 sf_0 rfl ?_
  refine x_aload_n dX9_just_64 rfl ?_
  refine x_getr fl_X9_19 dX9_just_65 sf_0 rfl ?_
  refine x_geti fl_X9_137 dX9_just_68 sf_10 rfl ?_
  refine x_iload_n dX9_just_71 rfl ?_
  refine x_iconst (v := 0) dX9_just_72 (by decide) ?_
  refine x_cvd mf_X4_pickAll ml_X9_210 dX9_just_73 rfl sf_24 rfl ⟨by decide, by decide⟩ (Nat.le_of_ble_eq_true rfl) ⟨rfl, rfl⟩ ⟨Nat.le_of_ble_eq_true rfl, Nat.le_of_ble_eq_true rfl⟩ (c_pickAll (w := 1) n _ 0 hm hb hq hb2 rfl (by omega) hn) ?_
  refine x_iload_n dX9_just_76 rfl ?_
  refine x_if_ne 88 dX9_just_77 (by decide) (fun h77 => ?_) (fun h77 => ?_)
  · refine x_aload_n dX9_just_88 rfl ?_
    refine x_getr fl_X9_49 dX9_just_89 sf_0 rfl ?_
    refine x_geti fl_X9_220 dX9_just_92 sf_24 rfl ?_
    refine x_if_ne 103 dX9_just_95 (by decide) (fun h95 => ?_) (fun h95 => ?_)
    · refine x_aload_n dX9_just_103 rfl ?_
      refine x_getr fl_X9_49 dX9_just_104 sf_0 rfl ?_
      refine x_geti fl_X9_223 dX9_just_107 sf_24 rfl ?_
      exact x_iret dX9_just_110 rfl rfl (Nat.le_refl _) (Nat.le_refl _) ⟨rfl, ⟨by first | (exact oi (by rw [cJust, decide_eq_true h77]; rfl)) | (exact oi (by rw [cJust, decide_eq_false h77]; simp only [Bool.false_eq_true, if_false]; exact (if_pos (decide_eq_true h95)).symm)) | (exact oi (by rw [cJust, decide_eq_false h77]; simp only [Bool.false_eq_true, if_false]; exact (if_neg (fun q => h95 (of_decide_eq_true q))).symm)), pkM_eqm (((((Eqm.rf M).u2 (by decide)).u2 (by decide)).u2 (by decide)).u2 (by decide) |>.tr (paM_eqm _ _ _ _ _)) _⟩⟩
    · refine x_bipush (v := -4) dX9_just_98 (by decide) ?_
      refine x_goto 110 dX9_just_100 (by decide) ?_
      exact x_iret dX9_just_110 rfl rfl (Nat.le_refl _) (Nat.le_refl _) ⟨rfl, ⟨by first | (exact oi (by rw [cJust, decide_eq_true h77]; rfl)) | (exact oi (by rw [cJust, decide_eq_false h77]; simp only [Bool.false_eq_true, if_false]; exact (if_pos (decide_eq_true h95)).symm)) | (exact oi (by rw [cJust, decide_eq_false h77]; simp only [Bool.false_eq_true, if_false]; exact (if_neg (fun q => h95 (of_decide_eq_true q))).symm)), pkM_eqm (((((Eqm.rf M).u2 (by decide)).u2 (by decide)).u2 (by decide)).u2 (by decide) |>.tr (paM_eqm _ _ _ _ _)) _⟩⟩
  · refine x_aload_n dX9_just_80 rfl ?_
    refine x_getr fl_X9_49 dX9_just_81 sf_0 rfl ?_
    refine x_geti fl_X9_220 dX9_just_84 sf_24 rfl ?_
    exact x_iret dX9_just_87 rfl rfl (Nat.le_refl _) (Nat.le_refl _) ⟨rfl, ⟨by first | (exact oi (by rw [cJust, decide_eq_true h77]; rfl)) | (exact oi (by rw [cJust, decide_eq_false h77]; simp only [Bool.false_eq_true, if_false]; exact (if_pos (decide_eq_true h95)).symm)) | (exact oi (by rw [cJust, decide_eq_false h77]; simp only [Bool.false_eq_true, if_false]; exact (if_neg (fun q => h95 (of_decide_eq_true q))).symm)), pkM_eqm (((((Eqm.rf M).u2 (by decide)).u2 (by decide)).u2 (by decide)).u2 (by decide) |>.tr (paM_eqm _ _ _ _ _)) _⟩⟩
theorem c_goneX {Z : List (Option Nat)} {ext : List Ds} {M : Mm} (n x : Int32) (hx : (rg n 0 4 && rg x 0 2) = false) : Ct mX9_gone [.ref 0, .int n, .int x] (SS Z ext) M (Rt (some (.int (-1))) M) := by
  refine Ct.of (by decide) (Nat.le_of_ble_eq_true rfl) ?_
  refine x_iload_n dX9_gone_0 rfl ?_
  refine x_if_lt 18 dX9_gone_1 (by decide) (fun h1 => ?_) (fun h1 => ?_)
  · refine x_iconst (v := -1) dX9_gone_18 (by decide) ?_
    exact x_iret dX9_gone_19 rfl rfl (Nat.le_refl _) (Nat.le_refl _) ⟨rfl, ⟨rfl, rfl⟩⟩
  · refine x_iload_n dX9_gone_4 rfl ?_
    refine x_iconst (v := 4) dX9_gone_5 (by decide) ?_
    refine x_icmp_gt 18 dX9_gone_6 (by decide) (fun h6 => ?_) (fun h6 => ?_)
    · refine x_iconst (v := -1) dX9_gone_18 (by decide) ?_
      exact x_iret dX9_gone_19 rfl rfl (Nat.le_refl _) (Nat.le_refl _) ⟨rfl, ⟨rfl, rfl⟩⟩
    · refine x_iload_n dX9_gone_9 rfl ?_
      refine x_if_lt 18 dX9_gone_10 (by decide) (fun h10 => ?_) (fun h10 => ?_)
      · refine x_iconst (v := -1) dX9_gone_18 (by decide) ?_
        exact x_iret dX9_gone_19 rfl rfl (Nat.le_refl _) (Nat.le_refl _) ⟨rfl, ⟨rfl, rfl⟩⟩
      · refine x_iload_n dX9_gone_13 rfl ?_
        refine x_iconst (v := 2) dX9_gone_14 (by decide) ?_
        refine x_icmp_le 20 dX9_gone_15 (by decide) (fun h15 => ?_) (fun h15 => ?_)
        · rw [rg_t1 h1 h6, rg_t2 h10 h15] at hx; exact absurd hx (by decide)
        · refine x_iconst (v := -1) dX9_gone_18 (by decide) ?_
          exact x_iret dX9_gone_19 rfl rfl (Nat.le_refl _) (Nat.le_refl _) ⟨rfl, ⟨rfl, rfl⟩⟩
/-- the wants of gone(): how many, of which squares, how many of them -/
def gwt (se os : Nat → Int32) (wh : Int32) (wo wn : Nat → Int32) : Nat → Nat × (Nat → Int32) × (Nat → Int32)
  | 0 => (0, wo, wn)
  | k + 1 => if decide (se (k + 1) = -4) then gwt se os wh wo wn k else ((gwt se os wh wo wn k).1 + 1, upd (gwt se os wh wo wn k).2.1 (gwt se os wh wo wn k).1 (wh &&& os (k + 1)), upd (gwt se os wh wo wn k).2.2 (gwt se os wh wo wn k).1 (se (k + 1)))
theorem gwt_s (se os : Nat → Int32) (wh : Int32) (wo wn : Nat → Int32) (k : Nat) : gwt se os wh wo wn (k + 1) = if decide (se (k + 1) = -4) then gwt se os wh wo wn k else ((gwt se os wh wo wn k).1 + 1, upd (gwt se os wh wo wn k).2.1 (gwt se os wh wo wn k).1 (wh &&& os (k + 1)), upd (gwt se os wh wo wn k).2.2 (gwt se os wh wo wn k).1 (se (k + 1))) := rfl
theorem gwt_le (se os : Nat → Int32) (wh : Int32) (wo wn : Nat → Int32) : ∀ k, (gwt se os wh wo wn k).1 ≤ k
  | 0 => Nat.le_refl 0
  | k + 1 => by
    have h := gwt_le se os wh wo wn k
    rw [gwt_s]
    split
    · omega
    · show (gwt se os wh wo wn k).1 + 1 ≤ k + 1
      omega
def gwM (M : Mm) (g : Nat × (Nat → Int32) × (Nat → Int32)) : Mm := up2 (upr (upr M 25 g.2.1) 26 g.2.2) 24 4 (nI g.1)
theorem gwM_want (M : Mm) (g : Nat × (Nat → Int32) × (Nat → Int32)) (a b : Int32) : wnM (gwM M g) g.1 a b = gwM M (g.1 + 1, upd g.2.1 g.1 a, upd g.2.2 g.1 b) := by
  funext c
  unfold wnM gwM
  by_cases h24 : c = 24
  · subst h24
    funext k
    by_cases h4 : k = 4
    · simp [up2, upr, upd, h4]
    · simp [up2, upr, upd, h4]
  · by_cases h25 : c = 25
    · subst h25; simp [up2, upr]
    · by_cases h26 : c = 26
      · subst h26; simp [up2, upr]
      · simp [up2, upr, h24, h25, h26]
def cGone (k : Pk) (x : Int32) : Int32 := if decide (x = 0) then k.1 else if decide (k.1 = 0) then -4 else if decide (x = 1) then k.2.1 else k.2.2.1
theorem c_gone {Z : List (Option Nat)} {ext : List Ds} {M : Mm} {mt sq : Nat} {g : Nat × (Nat → Int32) × (Nat → Int32)} (n : Nat) (x : Int32) (hn : n ≤ 4) (hx : rg x 0 2 = true) (hm : M 1 2 = nI mt) (hb : mt ≤ 31) (hq : M 1 3 = nI sq) (hb2 : sq ≤ 20) (hg : gwt (M 12) (M 6) (orb (inc (M 5) (M 10 0)) sq) (M 25) (M 26) 3 = g) :
    Ct mX9_gone [.ref 0, .int (nI n), .int x] (SS Z ext) M (fun r M' => r = some (.int (cGone (pAll (M 10 0) (M 5) sq mt n (M 27) (M 28) 0 g.1 g.2.1 g.2.2) x)) ∧ Eqm M M') := by
  have hx2 := rg_t.mp hx
  have hg3 : g.1 ≤ 3 := by rw [← hg]; exact gwt_le _ _ _ _ _ 3
  refine Ct.of (by decide) (Nat.le_of_ble_eq_true rfl) ?_
  refine x_iload_n dX9_gone_0 rfl ?_
  refine x_if_lt 18 dX9_gone_1 (by decide) (fun hc_ => absurd hc_ (nI_pos (by omega))) (fun _ => ?_)
  refine x_iload_n dX9_gone_4 rfl ?_
  refine x_iconst (v := 4) dX9_gone_5 (by decide) ?_
  refine x_icmp_gt 18 dX9_gone_6 (by decide) (fun hc_ => absurd hc_ (nI_nlt (a := 4) hn (by decide))) (fun _ => ?_)
  refine x_iload_n dX9_gone_9 rfl ?_
  refine x_if_lt 18 dX9_gone_10 (by decide) (fun hc_ => absurd hc_ (fun q => absurd hx2.1 (by rw [fa_le]; rw [fa_lt] at q; omega))) (fun _ => ?_)
  refine x_iload_n dX9_gone_13 rfl ?_
  refine x_iconst (v := 2) dX9_gone_14 (by decide) ?_
  refine x_icmp_le 20 dX9_gone_15 (by decide) (fun _ => ?_) (fun hc_ => absurd (hx2.2) hc_)
  refine x_aload_n dX9_gone_20 rfl ?_
  refine x_getr fl_X9_10 dX9_gone_21 sf_0 rfl ?_
  refine x_aload_n dX9_gone_24 rfl ?_
  refine x_getr fl_X9_19 dX9_gone_25 sf_0 rfl ?_
  refine x_geti fl_X9_137 dX9_gone_28 sf_10 rfl ?_
  refine x_cvd mf_X2_wholeAmong ml_X9_156 dX9_gone_31 rfl sf_1 rfl ⟨by decide, by decide⟩ (Nat.le_of_ble_eq_true rfl) ⟨rfl, rfl⟩ ⟨Nat.le_of_ble_eq_true rfl, Nat.le_of_ble_eq_true rfl⟩ (c_wholeAmong (ShG_SS Z ext) _ hq hb2) ?_
  refine x_istore_n dX9_gone_34 (by decide) ?_
  refine x_aload_n dX9_gone_35 rfl ?_
  refine x_getr fl_X9_49 dX9_gone_36 sf_0 rfl ?_
  refine x_cvd mf_X4_wantNothing ml_X9_207 dX9_gone_39 rfl sf_24 rfl ⟨by decide, by decide⟩ (Nat.le_of_ble_eq_true rfl) ⟨rfl, rfl⟩ ⟨Nat.le_of_ble_eq_true rfl, Nat.le_of_ble_eq_true rfl⟩ (c_wantNothing) ?_
  refine x_iconst (v := 1) dX9_gone_42 (by decide) ?_
  refine x_istore dX9_gone_43 (by decide) ?_
  refine x_eq (M := gwM M (gwt (M 12) (M 6) (orb (inc (M 5) (M 10 0)) sq) (M 25) (M 26) 0)) (by rw [gwM, show (gwt (M 12) (M 6) (orb (inc (M 5) (M 10 0)) sq) (M 25) (M 26) 0).2.1 = M 25 from rfl, upr_self, show (gwt (M 12) (M 6) (orb (inc (M 5) (M 10 0)) sq) (M 25) (M 26) 0).2.2 = M 26 from rfl, upr_self]; rfl) rfl rfl rfl ?_
  refine lup (P := fun k => XW _ _ 0 0 (SS Z ext) (gwM M (gwt (M 12) (M 6) (orb (inc (M 5) (M 10 0)) sq) (M 25) (M 26) k)) 45 [some (.ref 0), some (.int (nI n)), some (.int x), some (.int (orb (inc (M 5) (M 10 0)) sq)), some (.int (nI (k + 1)))] []) (N := 3) ?_ ?_ 0 (by omega)
  · rw [hg]
    have hc := c_pickAll (Z := Z) (ext := ext) (M := gwM M g) (mt := mt) (sq := sq) (w := g.1) n (M 10 0) 0 hm hb hq hb2 rfl hg3 hn
    rw [show gwM M g 5 = M 5 from rfl, show gwM M g 27 = M 27 from rfl, show gwM M g 28 = M 28 from rfl, show gwM M g 25 = g.2.1 from rfl, show gwM M g 26 = g.2.2 from rfl] at hc
    have hE : Eqm M (up2 (paM (gwM M g) (M 10 0) sq mt) 24 9 0) := ((((Eqm.rf M).ur (fun _ => rfl)).ur (fun _ => rfl)).u2 (by decide)).tr (paM_eqm _ _ _ _ _)
    generalize pAll (M 10 0) (M 5) sq mt n (M 27) (M 28) 0 g.1 g.2.1 g.2.2 = pk at hc ⊢
    refine x_iload dX9_gone_45 rfl ?_
    refine x_iconst (v := 3) dX9_gone_47 (by decide) ?_
    refine x_icmp_gt 101 dX9_gone_48 (by decide) (fun _ => ?_) (fun hc_ => absurd (by decide) hc_)
    refine x_aload_n dX9_gone_101 rfl ?_
    refine x_getr fl_X9_49 dX9_gone_102 sf_0 rfl ?_
    refine x_aload_n dX9_gone_105 rfl ?_
    refine x_getr fl_X9_10 dX9_gone_106 sf_0 rfl ?_
    refine x_aload_n dX9_gone_109 rfl ?_
    refine x_getr fl_X9_19 dX9_gone_110 sf_0 rfl ?_
    refine x_geti fl_X9_137 dX9_gone_113 sf_10 rfl ?_
    refine x_iload_n dX9_gone_116 rfl ?_
    refine x_iconst (v := 0) dX9_gone_117 (by decide) ?_
    refine x_cvd mf_X4_pickAll ml_X9_210 dX9_gone_118 rfl sf_24 rfl ⟨by decide, by decide⟩ (Nat.le_of_ble_eq_true rfl) ⟨rfl, rfl⟩ ⟨Nat.le_of_ble_eq_true rfl, Nat.le_of_ble_eq_true rfl⟩ (hc) ?_
    refine x_iload_n dX9_gone_121 rfl ?_
    refine x_if_ne 133 dX9_gone_122 (by decide) (fun h122 => ?_) (fun h122 => ?_)
    · refine x_aload_n dX9_gone_133 rfl ?_
      refine x_getr fl_X9_49 dX9_gone_134 sf_0 rfl ?_
      refine x_geti fl_X9_220 dX9_gone_137 sf_24 rfl ?_
      refine x_if_ne 146 dX9_gone_140 (by decide) (fun h140 => ?_) (fun h140 => ?_)
      · refine x_iload_n dX9_gone_146 rfl ?_
        refine x_iconst (v := 1) dX9_gone_147 (by decide) ?_
        refine x_icmp_ne 161 dX9_gone_148 (by decide) (fun h148 => ?_) (fun h148 => ?_)
        · refine x_aload_n dX9_gone_161 rfl ?_
          refine x_getr fl_X9_49 dX9_gone_162 sf_0 rfl ?_
          refine x_geti fl_X9_270 dX9_gone_165 sf_24 rfl ?_
          exact x_iret dX9_gone_168 rfl rfl (Nat.le_refl _) (Nat.le_refl _) ⟨rfl, ⟨by first | (exact oi (by rw [cGone, decide_eq_true h122]; rfl)) | (exact oi (by rw [cGone, decide_eq_false h122, decide_eq_true (show pk.1 = 0 from h140)]; rfl)) | (exact oi (by rw [cGone, decide_eq_false h122, decide_eq_false (show ¬ pk.1 = 0 from h140), decide_eq_true h148]; rfl)) | (exact oi (by rw [cGone, decide_eq_false h122, decide_eq_false (show ¬ pk.1 = 0 from h140), decide_eq_false h148]; rfl)), pkM_eqm hE _⟩⟩
        · refine x_aload_n dX9_gone_151 rfl ?_
          refine x_getr fl_X9_49 dX9_gone_152 sf_0 rfl ?_
          refine x_geti fl_X9_223 dX9_gone_155 sf_24 rfl ?_
          refine x_goto 168 dX9_gone_158 (by decide) ?_
          exact x_iret dX9_gone_168 rfl rfl (Nat.le_refl _) (Nat.le_refl _) ⟨rfl, ⟨by first | (exact oi (by rw [cGone, decide_eq_true h122]; rfl)) | (exact oi (by rw [cGone, decide_eq_false h122, decide_eq_true (show pk.1 = 0 from h140)]; rfl)) | (exact oi (by rw [cGone, decide_eq_false h122, decide_eq_false (show ¬ pk.1 = 0 from h140), decide_eq_true h148]; rfl)) | (exact oi (by rw [cGone, decide_eq_false h122, decide_eq_false (show ¬ pk.1 = 0 from h140), decide_eq_false h148]; rfl)), pkM_eqm hE _⟩⟩
      · refine x_bipush (v := -4) dX9_gone_143 (by decide) ?_
        exact x_iret dX9_gone_145 rfl rfl (Nat.le_refl _) (Nat.le_refl _) ⟨rfl, ⟨by first | (exact oi (by rw [cGone, decide_eq_true h122]; rfl)) | (exact oi (by rw [cGone, decide_eq_false h122, decide_eq_true (show pk.1 = 0 from h140)]; rfl)) | (exact oi (by rw [cGone, decide_eq_false h122, decide_eq_false (show ¬ pk.1 = 0 from h140), decide_eq_true h148]; rfl)) | (exact oi (by rw [cGone, decide_eq_false h122, decide_eq_false (show ¬ pk.1 = 0 from h140), decide_eq_false h148]; rfl)), pkM_eqm hE _⟩⟩
    · refine x_aload_n dX9_gone_125 rfl ?_
      refine x_getr fl_X9_49 dX9_gone_126 sf_0 rfl ?_
      refine x_geti fl_X9_220 dX9_gone_129 sf_24 rfl ?_
      exact x_iret dX9_gone_132 rfl rfl (Nat.le_refl _) (Nat.le_refl _) ⟨rfl, ⟨by first | (exact oi (by rw [cGone, decide_eq_true h122]; rfl)) | (exact oi (by rw [cGone, decide_eq_false h122, decide_eq_true (show pk.1 = 0 from h140)]; rfl)) | (exact oi (by rw [cGone, decide_eq_false h122, decide_eq_false (show ¬ pk.1 = 0 from h140), decide_eq_true h148]; rfl)) | (exact oi (by rw [cGone, decide_eq_false h122, decide_eq_false (show ¬ pk.1 = 0 from h140), decide_eq_false h148]; rfl)), pkM_eqm hE _⟩⟩
  · intro k hk ih
    rw [nI_succ (k + 1), gwt_s _ _ _ _ _ k] at ih
    have hle := gwt_le (M 12) (M 6) (orb (inc (M 5) (M 10 0)) sq) (M 25) (M 26) k
    generalize hgk : gwt (M 12) (M 6) (orb (inc (M 5) (M 10 0)) sq) (M 25) (M 26) k = gk at ih hle ⊢
    by_cases hse : M 12 (k + 1) = -4
    · rw [if_pos (decide_eq_true hse)] at ih
      refine x_iload dX9_gone_45 rfl ?_
      refine x_iconst (v := 3) dX9_gone_47 (by decide) ?_
      refine x_icmp_gt 101 dX9_gone_48 (by decide) (fun hc_ => absurd hc_ (nI_nlt (b := k + 1) (a := 3) (by omega) (by decide))) (fun _ => ?_)
      refine x_aload_n dX9_gone_51 rfl ?_
      refine x_getr fl_X9_19 dX9_gone_52 sf_0 rfl ?_
      refine x_getr fl_X9_267 dX9_gone_55 sf_10 rfl ?_
      refine x_iload dX9_gone_58 rfl ?_
      refine x_iald dX9_gone_60 sf_12 rfl (by omega) (by decide) ?_
      refine x_bipush (v := -4) dX9_gone_61 (by decide) ?_
      refine x_icmp_eq 95 dX9_gone_63 (by decide) (fun _ => ?_) (fun hc_ => absurd (hse) hc_)
      refine x_iinc1 dX9_gone_95 rfl (by decide) ?_
      refine x_goto 45 dX9_gone_98 (by decide) ?_
      exact ih
    · rw [if_neg (by rw [decide_eq_false hse]; decide), ← gwM_want] at ih
      refine x_iload dX9_gone_45 rfl ?_
      refine x_iconst (v := 3) dX9_gone_47 (by decide) ?_
      refine x_icmp_gt 101 dX9_gone_48 (by decide) (fun hc_ => absurd hc_ (nI_nlt (b := k + 1) (a := 3) (by omega) (by decide))) (fun _ => ?_)
      refine x_aload_n dX9_gone_51 rfl ?_
      refine x_getr fl_X9_19 dX9_gone_52 sf_0 rfl ?_
      refine x_getr fl_X9_267 dX9_gone_55 sf_10 rfl ?_
      refine x_iload dX9_gone_58 rfl ?_
      refine x_iald dX9_gone_60 sf_12 rfl (by omega) (by decide) ?_
      refine x_bipush (v := -4) dX9_gone_61 (by decide) ?_
      refine x_icmp_eq 95 dX9_gone_63 (by decide) (fun hc_ => absurd hc_ (hse)) (fun _ => ?_)
      refine x_aload_n dX9_gone_66 rfl ?_
      refine x_getr fl_X9_49 dX9_gone_67 sf_0 rfl ?_
      refine x_iload_n dX9_gone_70 rfl ?_
      refine x_aload_n dX9_gone_71 rfl ?_
      refine x_getr fl_X9_10 dX9_gone_72 sf_0 rfl ?_
      refine x_getr fl_X9_170 dX9_gone_75 sf_1 rfl ?_
      refine x_iload dX9_gone_78 rfl ?_
      refine x_iald dX9_gone_80 sf_6 rfl (by omega) (by decide) ?_
      refine x_iand dX9_gone_81 ?_
      refine x_aload_n dX9_gone_82 rfl ?_
      refine x_getr fl_X9_19 dX9_gone_83 sf_0 rfl ?_
      refine x_getr fl_X9_267 dX9_gone_86 sf_10 rfl ?_
      refine x_iload dX9_gone_89 rfl ?_
      refine x_iald dX9_gone_91 sf_12 rfl (by omega) (by decide) ?_
      refine x_cvd mf_X4_want ml_X9_217 dX9_gone_92 rfl sf_24 rfl ⟨by decide, by decide⟩ (Nat.le_of_ble_eq_true rfl) ⟨rfl, rfl⟩ ⟨Nat.le_of_ble_eq_true rfl, Nat.le_of_ble_eq_true rfl⟩ (c_want (w := gk.1) _ _ rfl (by omega)) ?_
      refine x_iinc1 dX9_gone_95 rfl (by decide) ?_
      refine x_goto 45 dX9_gone_98 (by decide) ?_
      exact ih
