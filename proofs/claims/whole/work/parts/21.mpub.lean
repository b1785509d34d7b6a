/-! ===== the reference's simple public methods ===== -/
theorem c_m_rule {Z : List (Option Nat)} {ext : List Ds} {M : Mm} (x : Int32) : Ct mX10_rule [.ref 48, .int x] (SS Z ext) M (Rt (some (.int (vRule (M 48 2) (M 48 3) (M 48 4) (M 48 5) (M 49 0) (M 49 32) x))) M) := by
  refine Ct.of (by decide) (Nat.le_of_ble_eq_true rfl) ?_
  refine x_iload_n dX10_rule_0 rfl ?_
  rcases sw6 x with rfl | rfl | rfl | rfl | rfl | rfl | hsw
  · refine x_tabIn (off := 39) 40 dX10_rule_1 (by decide) (by decide) (by decide) (by decide) ?_
    refine x_aload_n dX10_rule_40 rfl ?_
    refine x_geti fl_X10_103 dX10_rule_41 sf_48 rfl ?_
    exact x_iret dX10_rule_44 rfl rfl (Nat.le_refl _) (Nat.le_refl _) ⟨rfl, ⟨rfl, rfl⟩⟩
  · refine x_tabIn (off := 44) 45 dX10_rule_1 (by decide) (by decide) (by decide) (by decide) ?_
    refine x_aload_n dX10_rule_45 rfl ?_
    refine x_geti fl_X10_106 dX10_rule_46 sf_48 rfl ?_
    exact x_iret dX10_rule_49 rfl rfl (Nat.le_refl _) (Nat.le_refl _) ⟨rfl, ⟨rfl, rfl⟩⟩
  · refine x_tabIn (off := 49) 50 dX10_rule_1 (by decide) (by decide) (by decide) (by decide) ?_
    refine x_aload_n dX10_rule_50 rfl ?_
    refine x_geti fl_X10_123 dX10_rule_51 sf_48 rfl ?_
    exact x_iret dX10_rule_54 rfl rfl (Nat.le_refl _) (Nat.le_refl _) ⟨rfl, ⟨rfl, rfl⟩⟩
  · refine x_tabIn (off := 54) 55 dX10_rule_1 (by decide) (by decide) (by decide) (by decide) ?_
    refine x_aload_n dX10_rule_55 rfl ?_
    refine x_geti fl_X10_116 dX10_rule_56 sf_48 rfl ?_
    exact x_iret dX10_rule_59 rfl rfl (Nat.le_refl _) (Nat.le_refl _) ⟨rfl, ⟨rfl, rfl⟩⟩
  · refine x_tabIn (off := 59) 60 dX10_rule_1 (by decide) (by decide) (by decide) (by decide) ?_
    refine x_aload_n dX10_rule_60 rfl ?_
    refine x_getr fl_X10_7 dX10_rule_61 sf_48 rfl ?_
    refine x_iconst (v := 0) dX10_rule_64 (by decide) ?_
    refine x_iald (q := 0) dX10_rule_65 sf_49 (by decide) (by decide) (by decide) ?_
    exact x_iret dX10_rule_66 rfl rfl (Nat.le_refl _) (Nat.le_refl _) ⟨rfl, ⟨rfl, rfl⟩⟩
  · refine x_tabIn (off := 66) 67 dX10_rule_1 (by decide) (by decide) (by decide) (by decide) ?_
    refine x_aload_n dX10_rule_67 rfl ?_
    refine x_getr fl_X10_7 dX10_rule_68 sf_48 rfl ?_
    refine x_bipush (v := 32) dX10_rule_71 (by decide) ?_
    refine x_iald (q := 32) dX10_rule_73 sf_49 (by decide) (by decide) (by decide) ?_
    exact x_iret dX10_rule_74 rfl rfl (Nat.le_refl _) (Nat.le_refl _) ⟨rfl, ⟨rfl, rfl⟩⟩
  · refine x_tabOut 75 dX10_rule_1 hsw (by decide) ?_
    refine x_iconst (v := -1) dX10_rule_75 (by decide) ?_
    exact x_iret dX10_rule_76 rfl rfl (Nat.le_refl _) (Nat.le_refl _) ⟨rfl, ⟨oi (by rw [vRule, if_neg (sw_ne hsw 0 (by decide) (by decide)), if_neg (sw_ne hsw 1 (by decide) (by decide)), if_neg (sw_ne hsw 2 (by decide) (by decide)), if_neg (sw_ne hsw 3 (by decide) (by decide)), if_neg (sw_ne hsw 4 (by decide) (by decide)), if_neg (sw_ne hsw 5 (by decide) (by decide))]), rfl⟩⟩
theorem c_m_square {Z : List (Option Nat)} {ext : List Ds} {M : Mm} {sq : Nat} (q x : Int32) (hq : M 48 5 = nI sq) (hb : sq ≤ 20) : Ct mX10_square [.ref 48, .int q, .int x] (SS Z ext) M (Rt (some (.int (vSquare sq (M 51) (M 52) (M 53) (M 54) (M 49 0) q x))) M) := by
  refine Ct.of (by decide) (Nat.le_of_ble_eq_true rfl) ?_
  refine x_iload_n dX10_square_0 rfl ?_
  refine x_i2l dX10_square_1 ?_
  refine x_lconst (v := 0) dX10_square_2 (by decide) ?_
  refine x_aload_n dX10_square_3 rfl ?_
  refine x_geti fl_X10_116 dX10_square_4 sf_48 rfl ?_
  refine x_iconst (v := 1) dX10_square_7 (by decide) ?_
  refine x_isub dX10_square_8 ?_
  refine x_i2l dX10_square_9 ?_
  refine x_csd mf_X10_in ml_X10_134 dX10_square_10 rfl ⟨by decide, by decide⟩ (Nat.le_of_ble_eq_true rfl) ⟨rfl, rfl⟩ ⟨Nat.le_of_ble_eq_true rfl, Nat.le_of_ble_eq_true rfl⟩ (c_m_rg (a := 0) (b := nI sq - 1) (by decide) (by rw [hq])) ?_
  refine x_ifb_ne 18 dX10_square_13 (by decide) (fun h13 => ?_) (fun h13 => ?_)
  · rw [rg_ix q (by omega)] at h13
    obtain ⟨j, hj, rfl⟩ := (ix_t (by omega)).mp h13
    have hcl : (nI j).toNatClampNeg = j := nI_clamp (by omega)
    refine x_iload_n dX10_square_18 rfl ?_
    rcases sw5 x with rfl | rfl | rfl | rfl | rfl | hsw
    · refine x_tabIn (off := 33) 52 dX10_square_19 (by decide) (by decide) (by decide) (by decide) ?_
      refine x_aload_n dX10_square_52 rfl ?_
      refine x_getr fl_X10_17 dX10_square_53 sf_48 rfl ?_
      refine x_iload_n dX10_square_56 rfl ?_
      refine x_iald dX10_square_57 sf_51 rfl (by omega) (by decide) ?_
      exact x_iret dX10_square_58 rfl rfl (Nat.le_refl _) (Nat.le_refl _) ⟨rfl, ⟨oi (by simp [vSquare, h13, hcl]), rfl⟩⟩
    · refine x_tabIn (off := 40) 59 dX10_square_19 (by decide) (by decide) (by decide) (by decide) ?_
      refine x_aload_n dX10_square_59 rfl ?_
      refine x_getr fl_X10_20 dX10_square_60 sf_48 rfl ?_
      refine x_iload_n dX10_square_63 rfl ?_
      refine x_iald dX10_square_64 sf_52 rfl (by omega) (by decide) ?_
      exact x_iret dX10_square_65 rfl rfl (Nat.le_refl _) (Nat.le_refl _) ⟨rfl, ⟨oi (by simp [vSquare, h13, hcl]), rfl⟩⟩
    · refine x_tabIn (off := 47) 66 dX10_square_19 (by decide) (by decide) (by decide) (by decide) ?_
      refine x_aload_n dX10_square_66 rfl ?_
      refine x_getr fl_X10_23 dX10_square_67 sf_48 rfl ?_
      refine x_iload_n dX10_square_70 rfl ?_
      refine x_iald dX10_square_71 sf_53 rfl (by omega) (by decide) ?_
      exact x_iret dX10_square_72 rfl rfl (Nat.le_refl _) (Nat.le_refl _) ⟨rfl, ⟨oi (by simp [vSquare, h13, hcl]), rfl⟩⟩
    · refine x_tabIn (off := 54) 73 dX10_square_19 (by decide) (by decide) (by decide) (by decide) ?_
      refine x_aload_n dX10_square_73 rfl ?_
      refine x_getr fl_X10_26 dX10_square_74 sf_48 rfl ?_
      refine x_iload_n dX10_square_77 rfl ?_
      refine x_iald dX10_square_78 sf_54 rfl (by omega) (by decide) ?_
      exact x_iret dX10_square_79 rfl rfl (Nat.le_refl _) (Nat.le_refl _) ⟨rfl, ⟨oi (by simp [vSquare, h13, hcl]), rfl⟩⟩
    · refine x_tabIn (off := 61) 80 dX10_square_19 (by decide) (by decide) (by decide) (by decide) ?_
      refine x_aload_n dX10_square_80 rfl ?_
      refine x_getr fl_X10_26 dX10_square_81 sf_48 rfl ?_
      refine x_iload_n dX10_square_84 rfl ?_
      refine x_iald dX10_square_85 sf_54 rfl (by omega) (by decide) ?_
      refine x_aload_n dX10_square_86 rfl ?_
      refine x_getr fl_X10_7 dX10_square_87 sf_48 rfl ?_
      refine x_iconst (v := 0) dX10_square_90 (by decide) ?_
      refine x_iald (q := 0) dX10_square_91 sf_49 (by decide) (by decide) (by decide) ?_
      refine x_iconst (v := -1) dX10_square_92 (by decide) ?_
      refine x_ixor dX10_square_93 ?_
      refine x_iand dX10_square_94 ?_
      refine x_if_ne 102 dX10_square_95 (by decide) (fun h95 => ?_) (fun h95 => ?_)
      · refine x_iconst (v := 0) dX10_square_102 (by decide) ?_
        refine x_csd mf_X10_flag ml_X10_209 dX10_square_103 rfl ⟨by decide, by decide⟩ (Nat.le_of_ble_eq_true rfl) ⟨rfl, rfl⟩ ⟨Nat.le_of_ble_eq_true rfl, Nat.le_of_ble_eq_true rfl⟩ (by first | exact c_m_flag false | exact c_m_flag true) ?_
        exact x_iret dX10_square_106 rfl rfl (Nat.le_refl _) (Nat.le_refl _) ⟨rfl, ⟨oi (by first | (simp only [vSquare, h13, hcl, inq_f h95]; rfl) | (simp only [vSquare, h13, hcl, inq_t h95]; rfl)), rfl⟩⟩
      · refine x_iconst (v := 1) dX10_square_98 (by decide) ?_
        refine x_goto 103 dX10_square_99 (by decide) ?_
        refine x_csd mf_X10_flag ml_X10_209 dX10_square_103 rfl ⟨by decide, by decide⟩ (Nat.le_of_ble_eq_true rfl) ⟨rfl, rfl⟩ ⟨Nat.le_of_ble_eq_true rfl, Nat.le_of_ble_eq_true rfl⟩ (by first | exact c_m_flag false | exact c_m_flag true) ?_
        exact x_iret dX10_square_106 rfl rfl (Nat.le_refl _) (Nat.le_refl _) ⟨rfl, ⟨oi (by first | (simp only [vSquare, h13, hcl, inq_f h95]; rfl) | (simp only [vSquare, h13, hcl, inq_t h95]; rfl)), rfl⟩⟩
    · refine x_tabOut 107 dX10_square_19 hsw (by decide) ?_
      refine x_iconst (v := -1) dX10_square_107 (by decide) ?_
      exact x_iret dX10_square_108 rfl rfl (Nat.le_refl _) (Nat.le_refl _) ⟨rfl, ⟨oi (by simp only [vSquare, h13, if_true]; rw [if_neg (sw_ne hsw 0 (by decide) (by decide)), if_neg (sw_ne hsw 1 (by decide) (by decide)), if_neg (sw_ne hsw 2 (by decide) (by decide)), if_neg (sw_ne hsw 3 (by decide) (by decide)), if_neg (sw_ne hsw 4 (by decide) (by decide))]), rfl⟩⟩
  · rw [rg_ix q (by omega)] at h13
    refine x_iconst (v := -1) dX10_square_16 (by decide) ?_
    exact x_iret dX10_square_17 rfl rfl (Nat.le_refl _) (Nat.le_refl _) ⟨rfl, ⟨oi (by simp [vSquare, h13]), rfl⟩⟩
theorem c_m_cost {Z : List (Option Nat)} {ext : List Ds} {M : Mm} {mt : Nat} (x : Int32) (hm : M 48 4 = nI mt) (hb : mt ≤ 31) : Ct mX10_cost [.ref 48, .int x] (SS Z ext) M (Rt (some (.int (vCost mt (fun k => M 49 (1 + k)) x))) M) := by
  refine Ct.of (by decide) (Nat.le_of_ble_eq_true rfl) ?_
  refine x_aload_n dX10_cost_0 rfl ?_
  refine x_iload_n dX10_cost_1 rfl ?_
  refine x_cvd mf_X10_isMatch ml_X10_213 dX10_cost_2 rfl sf_48 rfl ⟨by decide, by decide⟩ (Nat.le_of_ble_eq_true rfl) ⟨rfl, rfl⟩ ⟨Nat.le_of_ble_eq_true rfl, Nat.le_of_ble_eq_true rfl⟩ (c_m_isMatch x hm hb) ?_
  refine x_ifb_eq 19 dX10_cost_5 (by decide) (fun h5 => ?_) (fun h5 => ?_)
  · refine x_iconst (v := -1) dX10_cost_19 (by decide) ?_
    exact x_iret dX10_cost_20 rfl rfl (Nat.le_refl _) (Nat.le_refl _) ⟨rfl, ⟨oi (by first | (simp [vCost, h5, hcl]; done) | (simp [vCost, h5]; done)), rfl⟩⟩
  · obtain ⟨j, hj, rfl⟩ := (ix_t (by omega)).mp h5
    have hcl : (nI j).toNatClampNeg = j := nI_clamp (by omega)
    refine x_aload_n dX10_cost_8 rfl ?_
    refine x_getr fl_X10_7 dX10_cost_9 sf_48 rfl ?_
    refine x_iconst (v := 1) dX10_cost_12 (by decide) ?_
    refine x_iload_n dX10_cost_13 rfl ?_
    refine x_iadd dX10_cost_14 ?_
    refine x_iald dX10_cost_15 sf_49 (ia 1 j) (by omega) (by decide) ?_
    refine x_goto 20 dX10_cost_16 (by decide) ?_
    exact x_iret dX10_cost_20 rfl rfl (Nat.le_refl _) (Nat.le_refl _) ⟨rfl, ⟨oi (by first | (simp [vCost, h5, hcl]; done) | (simp [vCost, h5]; done)), rfl⟩⟩
theorem c_m_whole {Z : List (Option Nat)} {ext : List Ds} {M : Mm} {sq : Nat} (x : Int32) (hq : M 48 5 = nI sq) (hb : sq ≤ 20) : Ct mX10_whole [.ref 48, .int x] (SS Z ext) M (Rt (some (.int (vWhole (M 51) (M 54) (M 49 0) sq x))) M) := by
  refine Ct.of (by decide) (Nat.le_of_ble_eq_true rfl) ?_
  refine x_iload_n dX10_whole_0 rfl ?_
  refine x_i2l dX10_whole_1 ?_
  refine x_lconst (v := 1) dX10_whole_2 (by decide) ?_
  refine x_ldc2 dX10_whole_3 kc_X10_216 ?_
  refine x_csd mf_X10_in ml_X10_134 dX10_whole_6 rfl ⟨by decide, by decide⟩ (Nat.le_of_ble_eq_true rfl) ⟨rfl, rfl⟩ ⟨Nat.le_of_ble_eq_true rfl, Nat.le_of_ble_eq_true rfl⟩ (c_m_rg (a := 1) (b := 3) (by decide) (by decide)) ?_
  refine x_ifb_eq 26 dX10_whole_9 (by decide) (fun h9 => ?_) (fun h9 => ?_)
  · refine x_iconst (v := -1) dX10_whole_26 (by decide) ?_
    exact x_iret dX10_whole_27 rfl rfl (Nat.le_refl _) (Nat.le_refl _) ⟨rfl, ⟨oi (by simp [vWhole, h9]), rfl⟩⟩
  · refine x_aload_n dX10_whole_12 rfl ?_
    refine x_iload_n dX10_whole_13 rfl ?_
    refine x_aload_n dX10_whole_14 rfl ?_
    refine x_getr fl_X10_7 dX10_whole_15 sf_48 rfl ?_
    refine x_iconst (v := 0) dX10_whole_18 (by decide) ?_
    refine x_iald (q := 0) dX10_whole_19 sf_49 (by decide) (by decide) (by decide) ?_
    refine x_cvd mf_X10_wholeOf ml_X10_218 dX10_whole_20 rfl sf_48 rfl ⟨by decide, by decide⟩ (Nat.le_of_ble_eq_true rfl) ⟨rfl, rfl⟩ ⟨Nat.le_of_ble_eq_true rfl, Nat.le_of_ble_eq_true rfl⟩ (c_m_wholeOf x _ hq hb) ?_
    refine x_goto 27 dX10_whole_23 (by decide) ?_
    exact x_iret dX10_whole_27 rfl rfl (Nat.le_refl _) (Nat.le_refl _) ⟨rfl, ⟨oi (by simp [vWhole, h9]), rfl⟩⟩
theorem c_m_left {Z : List (Option Nat)} {ext : List Ds} {M : Mm} {sq : Nat} (hq : M 48 5 = nI sq) (hb : sq ≤ 20) : Ct mX10_left [.ref 48] (SS Z ext) M (Rt (some (.int (Lf (M 49 32) (M 51) (M 54) (M 49 0) sq))) M) := by
  refine Ct.of (by decide) (Nat.le_of_ble_eq_true rfl) ?_
  refine x_aload_n dX10_left_0 rfl ?_
  refine x_aload_n dX10_left_1 rfl ?_
  refine x_getr fl_X10_7 dX10_left_2 sf_48 rfl ?_
  refine x_iconst (v := 0) dX10_left_5 (by decide) ?_
  refine x_iald (q := 0) dX10_left_6 sf_49 (by decide) (by decide) (by decide) ?_
  refine x_cvd mf_X10_leftOf ml_X10_221 dX10_left_7 rfl sf_48 rfl ⟨by decide, by decide⟩ (Nat.le_of_ble_eq_true rfl) ⟨rfl, rfl⟩ ⟨Nat.le_of_ble_eq_true rfl, Nat.le_of_ble_eq_true rfl⟩ (c_m_leftOf _ hq hb) ?_
  exact x_iret dX10_left_10 rfl rfl (Nat.le_refl _) (Nat.le_refl _) ⟨rfl, ⟨rfl, rfl⟩⟩
theorem c_m_take {Z : List (Option Nat)} {ext : List Ds} {M : Mm} {mt sq : Nat} (x : Int32) (hm : M 48 4 = nI mt) (hb : mt ≤ 31) (hq : M 48 5 = nI sq) (hb2 : sq ≤ 20) : Ct mX10_take [.ref 48, .int x] (SS Z ext) M (Rt (some (.int (vTake mt (M 49 32) (M 51) (M 54) sq (M 49 0) x))) (up2 M 49 0 (wTake mt (M 49 0) x))) := by
  refine Ct.of (by decide) (Nat.le_of_ble_eq_true rfl) ?_
  refine x_aload_n dX10_take_0 rfl ?_
  refine x_iload_n dX10_take_1 rfl ?_
  refine x_cvd mf_X10_isMatch ml_X10_213 dX10_take_2 rfl sf_48 rfl ⟨by decide, by decide⟩ (Nat.le_of_ble_eq_true rfl) ⟨rfl, rfl⟩ ⟨Nat.le_of_ble_eq_true rfl, Nat.le_of_ble_eq_true rfl⟩ (c_m_isMatch x hm hb) ?_
  refine x_ifb_ne 10 dX10_take_5 (by decide) (fun h5 => ?_) (fun h5 => ?_)
  · refine x_aload_n dX10_take_10 rfl ?_
    refine x_iload_n dX10_take_11 rfl ?_
    refine x_cvd mf_X10_doesLie ml_X10_224 dX10_take_12 rfl sf_48 rfl ⟨by decide, by decide⟩ (Nat.le_of_ble_eq_true rfl) ⟨rfl, rfl⟩ ⟨Nat.le_of_ble_eq_true rfl, Nat.le_of_ble_eq_true rfl⟩ (c_m_doesLie x) ?_
    refine x_ifb_ne 21 dX10_take_15 (by decide) (fun h15 => ?_) (fun h15 => ?_)
    · refine x_aload_n dX10_take_21 rfl ?_
      refine x_getr fl_X10_7 dX10_take_22 sf_48 rfl ?_
      refine x_iconst (v := 0) dX10_take_25 (by decide) ?_
      refine x_dup2 dX10_take_26 rfl rfl ?_
      refine x_iald (q := 0) dX10_take_27 sf_49 (by decide) (by decide) (by decide) ?_
      refine x_iconst (v := 1) dX10_take_28 (by decide) ?_
      refine x_iload_n dX10_take_29 rfl ?_
      refine x_ishl dX10_take_30 ?_
      refine x_iconst (v := -1) dX10_take_31 (by decide) ?_
      refine x_ixor dX10_take_32 ?_
      refine x_iand dX10_take_33 ?_
      refine x_iast (q := 0) dX10_take_34 sf_49 (by decide) (by decide) (by decide) ?_
      refine x_aload_n dX10_take_35 rfl ?_
      refine x_aload_n dX10_take_36 rfl ?_
      refine x_getr fl_X10_7 dX10_take_37 sf_48 rfl ?_
      refine x_iconst (v := 0) dX10_take_40 (by decide) ?_
      refine x_iald (q := 0) dX10_take_41 sf_49 (by decide) (by decide) (by decide) ?_
      refine x_cvd mf_X10_leftOf ml_X10_221 dX10_take_42 rfl sf_48 rfl ⟨by decide, by decide⟩ (Nat.le_of_ble_eq_true rfl) ⟨rfl, rfl⟩ ⟨Nat.le_of_ble_eq_true rfl, Nat.le_of_ble_eq_true rfl⟩ (c_m_leftOf (sq := sq) _ hq hb2) ?_
      exact x_iret dX10_take_45 rfl rfl (Nat.le_refl _) (Nat.le_refl _) ⟨rfl, ⟨oi (by simp only [vTake, h5, h15]; rfl), by simp only [wTake, h5, h15]; rfl⟩⟩
    · refine x_bipush (v := -2) dX10_take_18 (by decide) ?_
      exact x_iret dX10_take_20 rfl rfl (Nat.le_refl _) (Nat.le_refl _) ⟨rfl, ⟨oi (by simp [vTake, h5, h15]), (up2_self (by simp [wTake, h5, h15])).symm⟩⟩
  · refine x_iconst (v := -1) dX10_take_8 (by decide) ?_
    exact x_iret dX10_take_9 rfl rfl (Nat.le_refl _) (Nat.le_refl _) ⟨rfl, ⟨oi (by simp [vTake, h5]), (up2_self (by simp [wTake, h5])).symm⟩⟩
theorem c_m_lie {Z : List (Option Nat)} {ext : List Ds} {M : Mm} {mt sq : Nat} (x : Int32) (hm : M 48 4 = nI mt) (hb : mt ≤ 31) (hq : M 48 5 = nI sq) (hb2 : sq ≤ 20) : Ct mX10_lie [.ref 48, .int x] (SS Z ext) M (Rt (some (.int (vLie mt (M 49 32) (M 51) (M 54) sq (M 49 0) x))) (up2 M 49 0 (wLie mt (M 49 0) x))) := by
  refine Ct.of (by decide) (Nat.le_of_ble_eq_true rfl) ?_
  refine x_aload_n dX10_lie_0 rfl ?_
  refine x_iload_n dX10_lie_1 rfl ?_
  refine x_cvd mf_X10_isMatch ml_X10_213 dX10_lie_2 rfl sf_48 rfl ⟨by decide, by decide⟩ (Nat.le_of_ble_eq_true rfl) ⟨rfl, rfl⟩ ⟨Nat.le_of_ble_eq_true rfl, Nat.le_of_ble_eq_true rfl⟩ (c_m_isMatch x hm hb) ?_
  refine x_ifb_ne 10 dX10_lie_5 (by decide) (fun h5 => ?_) (fun h5 => ?_)
  · refine x_aload_n dX10_lie_10 rfl ?_
    refine x_iload_n dX10_lie_11 rfl ?_
    refine x_cvd mf_X10_doesLie ml_X10_224 dX10_lie_12 rfl sf_48 rfl ⟨by decide, by decide⟩ (Nat.le_of_ble_eq_true rfl) ⟨rfl, rfl⟩ ⟨Nat.le_of_ble_eq_true rfl, Nat.le_of_ble_eq_true rfl⟩ (c_m_doesLie x) ?_
    refine x_ifb_eq 21 dX10_lie_15 (by decide) (fun h15 => ?_) (fun h15 => ?_)
    · refine x_aload_n dX10_lie_21 rfl ?_
      refine x_getr fl_X10_7 dX10_lie_22 sf_48 rfl ?_
      refine x_iconst (v := 0) dX10_lie_25 (by decide) ?_
      refine x_dup2 dX10_lie_26 rfl rfl ?_
      refine x_iald (q := 0) dX10_lie_27 sf_49 (by decide) (by decide) (by decide) ?_
      refine x_iconst (v := 1) dX10_lie_28 (by decide) ?_
      refine x_iload_n dX10_lie_29 rfl ?_
      refine x_ishl dX10_lie_30 ?_
      refine x_ior dX10_lie_31 ?_
      refine x_iast (q := 0) dX10_lie_32 sf_49 (by decide) (by decide) (by decide) ?_
      refine x_aload_n dX10_lie_33 rfl ?_
      refine x_aload_n dX10_lie_34 rfl ?_
      refine x_getr fl_X10_7 dX10_lie_35 sf_48 rfl ?_
      refine x_iconst (v := 0) dX10_lie_38 (by decide) ?_
      refine x_iald (q := 0) dX10_lie_39 sf_49 (by decide) (by decide) (by decide) ?_
      refine x_cvd mf_X10_leftOf ml_X10_221 dX10_lie_40 rfl sf_48 rfl ⟨by decide, by decide⟩ (Nat.le_of_ble_eq_true rfl) ⟨rfl, rfl⟩ ⟨Nat.le_of_ble_eq_true rfl, Nat.le_of_ble_eq_true rfl⟩ (c_m_leftOf (sq := sq) _ hq hb2) ?_
      exact x_iret dX10_lie_43 rfl rfl (Nat.le_refl _) (Nat.le_refl _) ⟨rfl, ⟨oi (by simp only [vLie, h5, h15]; rfl), by simp only [wLie, h5, h15]; rfl⟩⟩
    · refine x_bipush (v := -2) dX10_lie_18 (by decide) ?_
      exact x_iret dX10_lie_20 rfl rfl (Nat.le_refl _) (Nat.le_refl _) ⟨rfl, ⟨oi (by simp [vLie, h5, h15]), (up2_self (by simp [wLie, h5, h15])).symm⟩⟩
  · refine x_iconst (v := -1) dX10_lie_8 (by decide) ?_
    exact x_iret dX10_lie_9 rfl rfl (Nat.le_refl _) (Nat.le_refl _) ⟨rfl, ⟨oi (by simp [vLie, h5]), (up2_self (by simp [wLie, h5])).symm⟩⟩
theorem c_m_price {Z : List (Option Nat)} {ext : List Ds} {M : Mm} {mt : Nat} (x v : Int32) (hm : M 48 4 = nI mt) (hb : mt ≤ 31) : Ct mX10_price [.ref 48, .int x, .int v] (SS Z ext) M (Rt (some (.int (vPrice mt (fun k => M 49 (1 + k)) x v))) (if ix x mt && rg v 1 9 then up2 M 49 (1 + x.toNatClampNeg) v else M)) := by
  refine Ct.of (by decide) (Nat.le_of_ble_eq_true rfl) ?_
  refine x_aload_n dX10_price_0 rfl ?_
  refine x_iload_n dX10_price_1 rfl ?_
  refine x_cvd mf_X10_isMatch ml_X10_213 dX10_price_2 rfl sf_48 rfl ⟨by decide, by decide⟩ (Nat.le_of_ble_eq_true rfl) ⟨rfl, rfl⟩ ⟨Nat.le_of_ble_eq_true rfl, Nat.le_of_ble_eq_true rfl⟩ (c_m_isMatch x hm hb) ?_
  refine x_ifb_eq 20 dX10_price_5 (by decide) (fun h5 => ?_) (fun h5 => ?_)
  · refine x_iconst (v := -1) dX10_price_20 (by decide) ?_
    exact x_iret dX10_price_21 rfl rfl (Nat.le_refl _) (Nat.le_refl _) ⟨rfl, ⟨oi (by first | (simp [vPrice, h5]; done) | (simp [vPrice, h17]; done)), by first | (simp [h5]; done) | (simp [h17]; done)⟩⟩
  · refine x_iload_n dX10_price_8 rfl ?_
    refine x_i2l dX10_price_9 ?_
    refine x_lconst (v := 1) dX10_price_10 (by decide) ?_
    refine x_ldc2 dX10_price_11 kc_X10_227 ?_
    refine x_csd mf_X10_in ml_X10_134 dX10_price_14 rfl ⟨by decide, by decide⟩ (Nat.le_of_ble_eq_true rfl) ⟨rfl, rfl⟩ ⟨Nat.le_of_ble_eq_true rfl, Nat.le_of_ble_eq_true rfl⟩ (c_m_rg (a := 1) (b := 9) (by decide) (by decide)) ?_
    refine x_ifb_ne 22 dX10_price_17 (by decide) (fun h17 => ?_) (fun h17 => ?_)
    · obtain ⟨j, hj, rfl⟩ := (ix_t (by omega)).mp h5
      have hcl : (nI j).toNatClampNeg = j := nI_clamp (by omega)
      refine x_aload_n dX10_price_22 rfl ?_
      refine x_getr fl_X10_7 dX10_price_23 sf_48 rfl ?_
      refine x_iconst (v := 1) dX10_price_26 (by decide) ?_
      refine x_iload_n dX10_price_27 rfl ?_
      refine x_iadd dX10_price_28 ?_
      refine x_iald dX10_price_29 sf_49 (ia 1 j) (by omega) (by decide) ?_
      refine x_istore_n dX10_price_30 (by decide) ?_
      refine x_aload_n dX10_price_31 rfl ?_
      refine x_getr fl_X10_7 dX10_price_32 sf_48 rfl ?_
      refine x_iconst (v := 1) dX10_price_35 (by decide) ?_
      refine x_iload_n dX10_price_36 rfl ?_
      refine x_iadd dX10_price_37 ?_
      refine x_iload_n dX10_price_38 rfl ?_
      refine x_iast dX10_price_39 sf_49 (ia 1 j) (by omega) (by decide) ?_
      refine x_iload_n dX10_price_40 rfl ?_
      exact x_iret dX10_price_41 rfl rfl (Nat.le_refl _) (Nat.le_refl _) ⟨rfl, ⟨oi (by simp [vPrice, h5, h17, hcl]), by simp [h5, h17, hcl]⟩⟩
    · refine x_iconst (v := -1) dX10_price_20 (by decide) ?_
      exact x_iret dX10_price_21 rfl rfl (Nat.le_refl _) (Nat.le_refl _) ⟨rfl, ⟨oi (by first | (simp [vPrice, h5]; done) | (simp [vPrice, h17]; done)), by first | (simp [h5]; done) | (simp [h17]; done)⟩⟩
theorem c_m_counts {Z : List (Option Nat)} {ext : List Ds} {M : Mm} (x : Int32) (b : Bool) : Ct mX10_counts [.ref 48, .int x, .int (b2i b)] (SS Z ext) M (Rt (some (.int (vCounts (M 49 32) x))) (up2 M 49 32 (wCounts (M 49 32) x b))) := by
  refine Ct.of (by decide) (Nat.le_of_ble_eq_true rfl) ?_
  refine x_iload_n dX10_counts_0 rfl ?_
  refine x_i2l dX10_counts_1 ?_
  refine x_lconst (v := 1) dX10_counts_2 (by decide) ?_
  refine x_ldc2 dX10_counts_3 kc_X10_216 ?_
  refine x_csd mf_X10_in ml_X10_134 dX10_counts_6 rfl ⟨by decide, by decide⟩ (Nat.le_of_ble_eq_true rfl) ⟨rfl, rfl⟩ ⟨Nat.le_of_ble_eq_true rfl, Nat.le_of_ble_eq_true rfl⟩ (c_m_rg (a := 1) (b := 3) (by decide) (by decide)) ?_
  refine x_ifb_ne 14 dX10_counts_9 (by decide) (fun h9 => ?_) (fun h9 => ?_)
  · refine x_aload_n dX10_counts_14 rfl ?_
    refine x_getr fl_X10_7 dX10_counts_15 sf_48 rfl ?_
    refine x_bipush (v := 32) dX10_counts_18 (by decide) ?_
    refine x_iald (q := 32) dX10_counts_20 sf_49 (by decide) (by decide) (by decide) ?_
    refine x_iload_n dX10_counts_21 rfl ?_
    refine x_ishr dX10_counts_22 ?_
    refine x_iconst (v := 1) dX10_counts_23 (by decide) ?_
    refine x_iand dX10_counts_24 ?_
    refine x_istore_n dX10_counts_25 (by decide) ?_
    refine x_aload_n dX10_counts_26 rfl ?_
    refine x_getr fl_X10_7 dX10_counts_27 sf_48 rfl ?_
    refine x_bipush (v := 32) dX10_counts_30 (by decide) ?_
    refine x_iload_n dX10_counts_32 rfl ?_
    refine x_ifb_eq 50 dX10_counts_33 (by decide) (fun h33 => ?_) (fun h33 => ?_)
    · refine x_aload_n dX10_counts_50 rfl ?_
      refine x_getr fl_X10_7 dX10_counts_51 sf_48 rfl ?_
      refine x_bipush (v := 32) dX10_counts_54 (by decide) ?_
      refine x_iald (q := 32) dX10_counts_56 sf_49 (by decide) (by decide) (by decide) ?_
      refine x_iconst (v := 1) dX10_counts_57 (by decide) ?_
      refine x_iload_n dX10_counts_58 rfl ?_
      refine x_ishl dX10_counts_59 ?_
      refine x_iconst (v := -1) dX10_counts_60 (by decide) ?_
      refine x_ixor dX10_counts_61 ?_
      refine x_iand dX10_counts_62 ?_
      refine x_iast (q := 32) dX10_counts_63 sf_49 (by decide) (by decide) (by decide) ?_
      refine x_iload_n dX10_counts_64 rfl ?_
      exact x_iret dX10_counts_65 rfl rfl (Nat.le_refl _) (Nat.le_refl _) ⟨rfl, ⟨oi (by simp only [vCounts, h9]; rfl), by simp only [wCounts, h9, h33]; rfl⟩⟩
    · refine x_aload_n dX10_counts_36 rfl ?_
      refine x_getr fl_X10_7 dX10_counts_37 sf_48 rfl ?_
      refine x_bipush (v := 32) dX10_counts_40 (by decide) ?_
      refine x_iald (q := 32) dX10_counts_42 sf_49 (by decide) (by decide) (by decide) ?_
      refine x_iconst (v := 1) dX10_counts_43 (by decide) ?_
      refine x_iload_n dX10_counts_44 rfl ?_
      refine x_ishl dX10_counts_45 ?_
      refine x_ior dX10_counts_46 ?_
      refine x_goto 63 dX10_counts_47 (by decide) ?_
      refine x_iast (q := 32) dX10_counts_63 sf_49 (by decide) (by decide) (by decide) ?_
      refine x_iload_n dX10_counts_64 rfl ?_
      exact x_iret dX10_counts_65 rfl rfl (Nat.le_refl _) (Nat.le_refl _) ⟨rfl, ⟨oi (by simp only [vCounts, h9]; rfl), by simp only [wCounts, h9, h33]; rfl⟩⟩
  · refine x_iconst (v := -1) dX10_counts_12 (by decide) ?_
    exact x_iret dX10_counts_13 rfl rfl (Nat.le_refl _) (Nat.le_refl _) ⟨rfl, ⟨oi (by simp [vCounts, h9]), (up2_self (by simp [wCounts, h9])).symm⟩⟩
theorem c_m_without {Z : List (Option Nat)} {ext : List Ds} {M : Mm} {sq : Nat} (x : Int32) (hq : M 48 5 = nI sq) (hb2 : sq ≤ 20) : Ct mX10_without [.ref 48, .int x] (SS Z ext) M (Rt (some (.int (vWithout (M 49 32) (M 51) (M 54) sq (M 49 0) x))) M) := by
  refine Ct.of (by decide) (Nat.le_of_ble_eq_true rfl) ?_
  refine x_iload_n dX10_without_0 rfl ?_
  refine x_if_lt 17 dX10_without_1 (by decide) (fun h1 => ?_) (fun h1 => ?_)
  · refine x_iconst (v := -1) dX10_without_17 (by decide) ?_
    refine x_goto 35 dX10_without_18 (by decide) ?_
    exact x_iret dX10_without_35 rfl rfl (Nat.le_refl _) (Nat.le_refl _) ⟨rfl, ⟨oi (by first | (rw [vWithout, decide_eq_true h1]; rfl) | (rw [vWithout, decide_eq_false h1, decide_eq_false h14]; rfl) | (rw [vWithout, decide_eq_false h1, decide_eq_true h14]; rfl)), rfl⟩⟩
  · refine x_iload_n dX10_without_4 rfl ?_
    refine x_aload_n dX10_without_5 rfl ?_
    refine x_getr fl_X10_7 dX10_without_6 sf_48 rfl ?_
    refine x_iconst (v := 0) dX10_without_9 (by decide) ?_
    refine x_iald (q := 0) dX10_without_10 sf_49 (by decide) (by decide) (by decide) ?_
    refine x_iconst (v := -1) dX10_without_11 (by decide) ?_
    refine x_ixor dX10_without_12 ?_
    refine x_iand dX10_without_13 ?_
    refine x_if_eq 21 dX10_without_14 (by decide) (fun h14 => ?_) (fun h14 => ?_)
    · refine x_aload_n dX10_without_21 rfl ?_
      refine x_aload_n dX10_without_22 rfl ?_
      refine x_getr fl_X10_7 dX10_without_23 sf_48 rfl ?_
      refine x_iconst (v := 0) dX10_without_26 (by decide) ?_
      refine x_iald (q := 0) dX10_without_27 sf_49 (by decide) (by decide) (by decide) ?_
      refine x_iload_n dX10_without_28 rfl ?_
      refine x_iconst (v := -1) dX10_without_29 (by decide) ?_
      refine x_ixor dX10_without_30 ?_
      refine x_iand dX10_without_31 ?_
      refine x_cvd mf_X10_leftOf ml_X10_221 dX10_without_32 rfl sf_48 rfl ⟨by decide, by decide⟩ (Nat.le_of_ble_eq_true rfl) ⟨rfl, rfl⟩ ⟨Nat.le_of_ble_eq_true rfl, Nat.le_of_ble_eq_true rfl⟩ (c_m_leftOf (sq := sq) _ hq hb2) ?_
      exact x_iret dX10_without_35 rfl rfl (Nat.le_refl _) (Nat.le_refl _) ⟨rfl, ⟨oi (by first | (rw [vWithout, decide_eq_true h1]; rfl) | (rw [vWithout, decide_eq_false h1, decide_eq_false h14]; rfl) | (rw [vWithout, decide_eq_false h1, decide_eq_true h14]; rfl)), rfl⟩⟩
    · refine x_iconst (v := -1) dX10_without_17 (by decide) ?_
      refine x_goto 35 dX10_without_18 (by decide) ?_
      exact x_iret dX10_without_35 rfl rfl (Nat.le_refl _) (Nat.le_refl _) ⟨rfl, ⟨oi (by first | (rw [vWithout, decide_eq_true h1]; rfl) | (rw [vWithout, decide_eq_false h1, decide_eq_false h14]; rfl) | (rw [vWithout, decide_eq_false h1, decide_eq_true h14]; rfl)), rfl⟩⟩
theorem c_m_see {Z : List (Option Nat)} {ext : List Ds} {M : Mm} (x n : Int32) : Ct mX10_see [.ref 48, .int x, .int n] (SS Z ext) M (Rt (some (.int (vSee (fun k => M 49 (32 + k)) x n))) (if okSee x n then up2 M 49 (32 + x.toNatClampNeg) n else M)) := by
  refine Ct.of (by decide) (Nat.le_of_ble_eq_true rfl) ?_
  refine x_join M 0 (lv0 [.ref 48, .int x, .int n] 4) [] ?_ (fun h => h)
  refine x_iload_n dX10_see_0 rfl ?_
  refine x_i2l dX10_see_1 ?_
  refine x_lconst (v := 1) dX10_see_2 (by decide) ?_
  refine x_ldc2 dX10_see_3 kc_X10_216 ?_
  refine x_csd mf_X10_in ml_X10_134 dX10_see_6 rfl ⟨by decide, by decide⟩ (Nat.le_of_ble_eq_true rfl) ⟨rfl, rfl⟩ ⟨Nat.le_of_ble_eq_true rfl, Nat.le_of_ble_eq_true rfl⟩ (c_m_rg (a := 1) (b := 3) (by decide) (by decide)) ?_
  refine x_ifb_eq 30 dX10_see_9 (by decide) (fun h9 => ?_) (fun h9 => ?_)
  · refine x_iconst (v := -1) dX10_see_30 (by decide) ?_
    exact x_iret dX10_see_31 rfl rfl (Nat.le_refl _) (Nat.le_refl _) ⟨rfl, ⟨oi (by first | (simp [vSee, okSee, h9]; done) | (simp [vSee, okSee, h9, h15, h27]; done)), by first | (simp [okSee, h9]; done) | (simp [okSee, h9, h15, h27]; done)⟩⟩
  · refine x_iload_n dX10_see_12 rfl ?_
    refine x_bipush (v := -4) dX10_see_13 (by decide) ?_
    refine x_icmp_eq 32 dX10_see_15 (by decide) (fun h15 => ?_) (fun h15 => ?_)
    · have hok : okSee x n = true := by first | (simp [okSee, h9, h15]; done) | (simp [okSee, h9, h27]; done)
      obtain ⟨j, h1j, hj, rfl⟩ := rg_nat (a := 1) (b := 3) (by decide) (by decide) h9
      have hcl : (nI j).toNatClampNeg = j := nI_clamp (by omega)
      refine x_aload_n dX10_see_32 rfl ?_
      refine x_getr fl_X10_7 dX10_see_33 sf_48 rfl ?_
      refine x_bipush (v := 32) dX10_see_36 (by decide) ?_
      refine x_iload_n dX10_see_38 rfl ?_
      refine x_iadd dX10_see_39 ?_
      refine x_iald dX10_see_40 sf_49 (ia 32 j) (by omega) (by decide) ?_
      refine x_istore_n dX10_see_41 (by decide) ?_
      refine x_aload_n dX10_see_42 rfl ?_
      refine x_getr fl_X10_7 dX10_see_43 sf_48 rfl ?_
      refine x_bipush (v := 32) dX10_see_46 (by decide) ?_
      refine x_iload_n dX10_see_48 rfl ?_
      refine x_iadd dX10_see_49 ?_
      refine x_iload_n dX10_see_50 rfl ?_
      refine x_iast dX10_see_51 sf_49 (ia 32 j) (by omega) (by decide) ?_
      refine x_iload_n dX10_see_52 rfl ?_
      exact x_iret dX10_see_53 rfl rfl (Nat.le_refl _) (Nat.le_refl _) ⟨rfl, ⟨oi (by simp [vSee, hok, hcl]), by simp [hok, hcl]⟩⟩
    · refine x_iload_n dX10_see_18 rfl ?_
      refine x_i2l dX10_see_19 ?_
      refine x_lconst (v := 0) dX10_see_20 (by decide) ?_
      refine x_ldc2 dX10_see_21 kc_X10_346 ?_
      refine x_csd mf_X10_in ml_X10_134 dX10_see_24 rfl ⟨by decide, by decide⟩ (Nat.le_of_ble_eq_true rfl) ⟨rfl, rfl⟩ ⟨Nat.le_of_ble_eq_true rfl, Nat.le_of_ble_eq_true rfl⟩ (c_m_rg (a := 0) (b := 12) (by decide) (by decide)) ?_
      refine x_ifb_ne 32 dX10_see_27 (by decide) (fun h27 => ?_) (fun h27 => ?_)
      · have hok : okSee x n = true := by first | (simp [okSee, h9, h15]; done) | (simp [okSee, h9, h27]; done)
        obtain ⟨j, h1j, hj, rfl⟩ := rg_nat (a := 1) (b := 3) (by decide) (by decide) h9
        have hcl : (nI j).toNatClampNeg = j := nI_clamp (by omega)
        refine x_aload_n dX10_see_32 rfl ?_
        refine x_getr fl_X10_7 dX10_see_33 sf_48 rfl ?_
        refine x_bipush (v := 32) dX10_see_36 (by decide) ?_
        refine x_iload_n dX10_see_38 rfl ?_
        refine x_iadd dX10_see_39 ?_
        refine x_iald dX10_see_40 sf_49 (ia 32 j) (by omega) (by decide) ?_
        refine x_istore_n dX10_see_41 (by decide) ?_
        refine x_aload_n dX10_see_42 rfl ?_
        refine x_getr fl_X10_7 dX10_see_43 sf_48 rfl ?_
        refine x_bipush (v := 32) dX10_see_46 (by decide) ?_
        refine x_iload_n dX10_see_48 rfl ?_
        refine x_iadd dX10_see_49 ?_
        refine x_iload_n dX10_see_50 rfl ?_
        refine x_iast dX10_see_51 sf_49 (ia 32 j) (by omega) (by decide) ?_
        refine x_iload_n dX10_see_52 rfl ?_
        exact x_iret dX10_see_53 rfl rfl (Nat.le_refl _) (Nat.le_refl _) ⟨rfl, ⟨oi (by simp [vSee, hok, hcl]), by simp [hok, hcl]⟩⟩
      · refine x_iconst (v := -1) dX10_see_30 (by decide) ?_
        exact x_iret dX10_see_31 rfl rfl (Nat.le_refl _) (Nat.le_refl _) ⟨rfl, ⟨oi (by first | (simp [vSee, okSee, h9]; done) | (simp [vSee, okSee, h9, h15, h27]; done)), by first | (simp [okSee, h9]; done) | (simp [okSee, h9, h15, h27]; done)⟩⟩
theorem c_m_torn {Z : List (Option Nat)} {ext : List Ds} {M : Mm} : Ct mX10_torn [.ref 48] (SS Z ext) M (Rt (some (.int (M 48 46))) M) := by
  refine Ct.of (by decide) (Nat.le_of_ble_eq_true rfl) ?_
  refine x_aload_n dX10_torn_0 rfl ?_
  refine x_geti fl_X10_363 dX10_torn_1 sf_48 rfl ?_
  exact x_iret dX10_torn_4 rfl rfl (Nat.le_refl _) (Nat.le_refl _) ⟨rfl, ⟨rfl, rfl⟩⟩
theorem c_m_fault {Z : List (Option Nat)} {ext : List Ds} {M : Mm} : Ct mX10_fault [.ref 48] (SS Z ext) M (Rt (some (.int (M 48 24))) M) := by
  refine Ct.of (by decide) (Nat.le_of_ble_eq_true rfl) ?_
  refine x_aload_n dX10_fault_0 rfl ?_
  refine x_geti fl_X10_138 dX10_fault_1 sf_48 rfl ?_
  exact x_iret dX10_fault_4 rfl rfl (Nat.le_refl _) (Nat.le_refl _) ⟨rfl, ⟨rfl, rfl⟩⟩
theorem c_m_end {Z : List (Option Nat)} {ext : List Ds} {M : Mm} (x : Int32) : Ct mX10_end [.ref 48, .int x] (SS Z ext) M (Rt (some (.int (if rg x 0 (M 48 19) then M 48 19 else -1))) (up2 M 48 19 (if rg x 0 (M 48 19) then x else M 48 19))) := by
  refine Ct.of (by decide) (Nat.le_of_ble_eq_true rfl) ?_
  refine x_iload_n dX10_end_0 rfl ?_
  refine x_i2l dX10_end_1 ?_
  refine x_lconst (v := 0) dX10_end_2 (by decide) ?_
  refine x_aload_n dX10_end_3 rfl ?_
  refine x_geti fl_X10_129 dX10_end_4 sf_48 rfl ?_
  refine x_i2l dX10_end_7 ?_
  refine x_csd mf_X10_in ml_X10_134 dX10_end_8 rfl ⟨by decide, by decide⟩ (Nat.le_of_ble_eq_true rfl) ⟨rfl, rfl⟩ ⟨Nat.le_of_ble_eq_true rfl, Nat.le_of_ble_eq_true rfl⟩ (c_m_rg (a := 0) (b := M 48 19) (by decide) rfl) ?_
  refine x_ifb_ne 16 dX10_end_11 (by decide) (fun h11 => ?_) (fun h11 => ?_)
  · refine x_aload_n dX10_end_16 rfl ?_
    refine x_geti fl_X10_129 dX10_end_17 sf_48 rfl ?_
    refine x_istore_n dX10_end_20 (by decide) ?_
    refine x_aload_n dX10_end_21 rfl ?_
    refine x_iload_n dX10_end_22 rfl ?_
    refine x_put fl_X10_129 dX10_end_23 sf_48 rfl rfl rfl ?_
    refine x_iload_n dX10_end_26 rfl ?_
    exact x_iret dX10_end_27 rfl rfl (Nat.le_refl _) (Nat.le_refl _) ⟨rfl, ⟨oi (by simp [h11]), by simp [h11]⟩⟩
  · refine x_iconst (v := -1) dX10_end_14 (by decide) ?_
    exact x_iret dX10_end_15 rfl rfl (Nat.le_refl _) (Nat.le_refl _) ⟨rfl, ⟨oi (by simp [h11]), (up2_self (by simp [h11])).symm⟩⟩
