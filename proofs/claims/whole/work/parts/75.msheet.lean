/-! ===== the reference: sheet, lay, read, count ===== -/
theorem c_m_sheetX {Z : List (Option Nat)} {ext : List Ds} {M : Mm} (k l n : Int32) (hx : (rg k 0 3 && rg l 0 2 && decide (n ≤ 40)) = false) : Ct mX10_sheet [.ref 48, .int k, .int l, .int n] (SS Z ext) M (Rt (some (.int (-1))) M) := by
  refine Ct.of (by decide) (Nat.le_of_ble_eq_true rfl) ?_
  refine x_iload_n dX10_sheet_0 rfl ?_
  refine x_iload_n dX10_sheet_1 rfl ?_
  refine x_csd mf_X10_isSheet ml_X10_357 dX10_sheet_2 rfl ⟨by decide, by decide⟩ (Nat.le_of_ble_eq_true rfl) ⟨rfl, rfl⟩ ⟨Nat.le_of_ble_eq_true rfl, Nat.le_of_ble_eq_true rfl⟩ (c_m_isSheet k l) ?_
  refine x_ifb_eq 14 dX10_sheet_5 (by decide) (fun h5 => ?_) (fun h5 => ?_)
  · refine x_iconst (v := -1) dX10_sheet_14 (by decide) ?_
    exact x_iret dX10_sheet_15 rfl rfl (Nat.le_refl _) (Nat.le_refl _) ⟨rfl, ⟨rfl, rfl⟩⟩
  · refine x_iload_n dX10_sheet_8 rfl ?_
    refine x_bipush (v := 40) dX10_sheet_9 (by decide) ?_
    refine x_icmp_le 16 dX10_sheet_11 (by decide) (fun h11 => ?_) (fun h11 => ?_)
    · rw [h5, decide_eq_true h11] at hx; cases hx
    · refine x_iconst (v := -1) dX10_sheet_14 (by decide) ?_
      exact x_iret dX10_sheet_15 rfl rfl (Nat.le_refl _) (Nat.le_refl _) ⟨rfl, ⟨rfl, rfl⟩⟩
theorem c_m_sheetN {Z : List (Option Nat)} {ext : List Ds} {M : Mm} (k l n : Int32) (hx : (rg k 0 3 && rg l 0 2 && decide (n ≤ 40)) = true) (hn : n < 0) : Ct mX10_sheet [.ref 48, .int k, .int l, .int n] (SS Z ext) M (Rt (some (.int (-14))) M) := by
  rw [Bool.and_eq_true] at hx
  refine Ct.of (by decide) (Nat.le_of_ble_eq_true rfl) ?_
  refine x_iload_n dX10_sheet_0 rfl ?_
  refine x_iload_n dX10_sheet_1 rfl ?_
  refine x_csd mf_X10_isSheet ml_X10_357 dX10_sheet_2 rfl ⟨by decide, by decide⟩ (Nat.le_of_ble_eq_true rfl) ⟨rfl, rfl⟩ ⟨Nat.le_of_ble_eq_true rfl, Nat.le_of_ble_eq_true rfl⟩ (c_m_isSheet k l) ?_
  refine x_ifb_eq 14 dX10_sheet_5 (by decide) (fun hc_ => absurd (hc_.symm.trans (hx.1)) Bool.false_ne_true) (fun _ => ?_)
  refine x_iload_n dX10_sheet_8 rfl ?_
  refine x_bipush (v := 40) dX10_sheet_9 (by decide) ?_
  refine x_icmp_le 16 dX10_sheet_11 (by decide) (fun _ => ?_) (fun hc_ => absurd (of_decide_eq_true hx.2) hc_)
  refine x_iload_n dX10_sheet_16 rfl ?_
  refine x_if_ge 23 dX10_sheet_17 (by decide) (fun hc_ => absurd hc_ (fun q => absurd hn (by rw [fa_lt]; rw [fa_le] at q; omega))) (fun _ => ?_)
  refine x_bipush (v := -14) dX10_sheet_20 (by decide) ?_
  exact x_iret dX10_sheet_22 rfl rfl (Nat.le_refl _) (Nat.le_refl _) ⟨rfl, ⟨rfl, rfl⟩⟩
theorem rg03 {k : Nat} (hk : k < 4) : rg (nI k) 0 3 = true := rg_nI (a := 0) (b := 3) (by omega) (by omega) (by decide)
def clz (f : Nat → Int32) (a k : Nat) : Nat → Int32 := fun j => if a ≤ j ∧ j < a + k then 0 else f j
theorem clz_0 (f : Nat → Int32) (a : Nat) : clz f a 0 = f := by funext j; unfold clz; rw [if_neg (by omega)]
theorem clz_s (f : Nat → Int32) (a k : Nat) : upd (clz f a k) (a + k) 0 = clz f a (k + 1) := by
  funext j
  unfold upd clz
  by_cases h : j = a + k
  · rw [if_pos h, if_pos (by omega)]
  · rw [if_neg h]
    show (if a ≤ j ∧ j < a + k then (0 : Int32) else f j) = _
    by_cases h2 : a ≤ j ∧ j < a + k
    · rw [if_pos h2, if_pos (by omega)]
    · rw [if_neg h2, if_neg (by omega)]
def shM (M : Mm) (k : Nat) (l n : Int32) : Mm := upr (up2 (up2 M 68 k l) 69 k n) 70 (clz (M 70) (40 * k) 40)
theorem c_m_sheet {Z : List (Option Nat)} {ext : List Ds} {M : Mm} (k : Nat) (l n : Int32) (hk : k < 4) (hl : rg l 0 2 = true) (hn : n ≤ 40) (h0 : 0 ≤ n) : Ct mX10_sheet [.ref 48, .int (nI k), .int l, .int n] (SS Z ext) M (Rt (some (.int 1)) (shM M k l n)) := by
  have hx : (rg (nI k) 0 3 && rg l 0 2) = true := by rw [rg03 hk, hl]; rfl
  refine Ct.of (by decide) (Nat.le_of_ble_eq_true rfl) ?_
  refine x_iload_n dX10_sheet_0 rfl ?_
  refine x_iload_n dX10_sheet_1 rfl ?_
  refine x_csd mf_X10_isSheet ml_X10_357 dX10_sheet_2 rfl ⟨by decide, by decide⟩ (Nat.le_of_ble_eq_true rfl) ⟨rfl, rfl⟩ ⟨Nat.le_of_ble_eq_true rfl, Nat.le_of_ble_eq_true rfl⟩ (c_m_isSheet (nI k) l) ?_
  refine x_ifb_eq 14 dX10_sheet_5 (by decide) (fun hc_ => absurd (hc_.symm.trans (hx)) Bool.false_ne_true) (fun _ => ?_)
  refine x_iload_n dX10_sheet_8 rfl ?_
  refine x_bipush (v := 40) dX10_sheet_9 (by decide) ?_
  refine x_icmp_le 16 dX10_sheet_11 (by decide) (fun _ => ?_) (fun hc_ => absurd (hn) hc_)
  refine x_iload_n dX10_sheet_16 rfl ?_
  refine x_if_ge 23 dX10_sheet_17 (by decide) (fun _ => ?_) (fun hc_ => absurd (h0) hc_)
  refine x_aload_n dX10_sheet_23 rfl ?_
  refine x_getr fl_X10_68 dX10_sheet_24 sf_48 rfl ?_
  refine x_iload_n dX10_sheet_27 rfl ?_
  refine x_iload_n dX10_sheet_28 rfl ?_
  refine x_iast dX10_sheet_29 sf_68 rfl (by omega) (by decide) ?_
  refine x_aload_n dX10_sheet_30 rfl ?_
  refine x_getr fl_X10_71 dX10_sheet_31 sf_48 rfl ?_
  refine x_iload_n dX10_sheet_34 rfl ?_
  refine x_iload_n dX10_sheet_35 rfl ?_
  refine x_iast dX10_sheet_36 sf_69 rfl (by omega) (by decide) ?_
  refine x_iconst (v := 0) dX10_sheet_37 (by decide) ?_
  refine x_istore dX10_sheet_38 (by decide) ?_
  refine x_eq (M := upr (up2 (up2 M 68 k l) 69 k n) 70 (clz (M 70) (40 * k) 0)) (by rw [clz_0, show M 70 = (up2 (up2 M 68 k l) 69 k n) 70 from rfl, upr_self]) rfl rfl rfl ?_
  refine lup (P := fun j => XW _ _ 0 0 (SS Z ext) (upr (up2 (up2 M 68 k l) 69 k n) 70 (clz (M 70) (40 * k) j)) 40 [some (.ref 48), some (.int (nI k)), some (.int l), some (.int n), some (.int (nI j))] []) (N := 40) ?_ ?_ 0 (by omega)
  · refine x_iload dX10_sheet_40 rfl ?_
    refine x_bipush (v := 40) dX10_sheet_42 (by decide) ?_
    refine x_icmp_ge 66 dX10_sheet_44 (by decide) (fun _ => ?_) (fun hc_ => absurd (by decide) hc_)
    refine x_iconst (v := 1) dX10_sheet_66 (by decide) ?_
    exact x_iret dX10_sheet_67 rfl rfl (Nat.le_refl _) (Nat.le_refl _) ⟨rfl, ⟨rfl, rfl⟩⟩
  · intro j hj ih
    rw [nI_succ j, ← clz_s _ _ j] at ih
    refine x_iload dX10_sheet_40 rfl ?_
    refine x_bipush (v := 40) dX10_sheet_42 (by decide) ?_
    refine x_icmp_ge 66 dX10_sheet_44 (by decide) (fun hc_ => absurd hc_ (nI_ge (b := 40) (a := j) hj (by decide))) (fun _ => ?_)
    refine x_aload_n dX10_sheet_47 rfl ?_
    refine x_getr fl_X10_74 dX10_sheet_48 sf_48 rfl ?_
    refine x_bipush (v := 40) dX10_sheet_51 (by decide) ?_
    refine x_iload_n dX10_sheet_53 rfl ?_
    refine x_imul dX10_sheet_54 ?_
    refine x_iload dX10_sheet_55 rfl ?_
    refine x_iadd dX10_sheet_57 ?_
    rw [show (40 : Int32) * nI k + nI j = nI (40 * k + j) by rw [show (40 : Int32) = nI 40 from rfl, nI_mulN, nI_add]]
    refine x_iconst (v := 0) dX10_sheet_58 (by decide) ?_
    refine x_iast dX10_sheet_59 sf_70 rfl (by omega) (by decide) ?_
    refine x_iinc1 dX10_sheet_60 rfl (by decide) ?_
    refine x_goto 40 dX10_sheet_63 (by decide) ?_
    rw [up2_upr2]
    exact ih
/-- what of v stays in a cell of the lane -/
def lnv (l v : Int32) : Int32 := if decide (l = 0) then v.toInt8.toInt32 else if decide (l = 1) then v.toInt16.toInt32 else v
theorem c_m_layX {Z : List (Option Nat)} {ext : List Ds} {M : Mm} (k i v : Int32) (hx : rg k 0 3 = false) : Ct mX10_lay [.ref 48, .int k, .int i, .int v] (SS Z ext) M (Rt (some (.int (-1))) M) := by
  refine Ct.of (by decide) (Nat.le_of_ble_eq_true rfl) ?_
  refine x_iload_n dX10_lay_0 rfl ?_
  refine x_iconst (v := 0) dX10_lay_1 (by decide) ?_
  refine x_csd mf_X10_isSheet ml_X10_357 dX10_lay_2 rfl ⟨by decide, by decide⟩ (Nat.le_of_ble_eq_true rfl) ⟨rfl, rfl⟩ ⟨Nat.le_of_ble_eq_true rfl, Nat.le_of_ble_eq_true rfl⟩ (c_m_isSheet k 0) ?_
  refine x_ifb_ne 10 dX10_lay_5 (by decide) (fun hc_ => absurd ((show (rg k 0 3 && rg 0 0 2) = false by rw [hx]; rfl).symm.trans hc_) Bool.false_ne_true) (fun _ => ?_)
  refine x_iconst (v := -1) dX10_lay_8 (by decide) ?_
  exact x_iret dX10_lay_9 rfl rfl (Nat.le_refl _) (Nat.le_refl _) ⟨rfl, ⟨rfl, rfl⟩⟩
theorem c_m_layN {Z : List (Option Nat)} {ext : List Ds} {M : Mm} (k : Nat) (i v : Int32) (hk : k < 4) (hl : M 68 k = -4) : Ct mX10_lay [.ref 48, .int (nI k), .int i, .int v] (SS Z ext) M (Rt (some (.int (-11))) M) := by
  refine Ct.of (by decide) (Nat.le_of_ble_eq_true rfl) ?_
  refine x_iload_n dX10_lay_0 rfl ?_
  refine x_iconst (v := 0) dX10_lay_1 (by decide) ?_
  refine x_csd mf_X10_isSheet ml_X10_357 dX10_lay_2 rfl ⟨by decide, by decide⟩ (Nat.le_of_ble_eq_true rfl) ⟨rfl, rfl⟩ ⟨Nat.le_of_ble_eq_true rfl, Nat.le_of_ble_eq_true rfl⟩ (c_m_isSheet (nI k) 0) ?_
  refine x_ifb_ne 10 dX10_lay_5 (by decide) (fun _ => ?_) (fun hc_ => absurd (hc_.symm.trans (by rw [rg03 hk]; rfl)) Bool.false_ne_true)
  refine x_aload_n dX10_lay_10 rfl ?_
  refine x_getr fl_X10_68 dX10_lay_11 sf_48 rfl ?_
  refine x_iload_n dX10_lay_14 rfl ?_
  refine x_iald dX10_lay_15 sf_68 rfl (by omega) (by decide) ?_
  refine x_bipush (v := -4) dX10_lay_16 (by decide) ?_
  refine x_icmp_ne 24 dX10_lay_18 (by decide) (fun hc_ => absurd (hl) hc_) (fun _ => ?_)
  refine x_bipush (v := -11) dX10_lay_21 (by decide) ?_
  exact x_iret dX10_lay_23 rfl rfl (Nat.le_refl _) (Nat.le_refl _) ⟨rfl, ⟨rfl, rfl⟩⟩
theorem c_m_layI {Z : List (Option Nat)} {ext : List Ds} {M : Mm} {z : Nat} (k : Nat) (i v : Int32) (hk : k < 4) (hl : ¬ M 68 k = -4) (hz : M 69 k = nI z) (hz40 : z ≤ 40) (hi : ix i z = false) : Ct mX10_lay [.ref 48, .int (nI k), .int i, .int v] (SS Z ext) M (Rt (some (.int (-12))) M) := by
  have ci := c_m_rg (S := SS Z ext) (M := M) (x := i) (a := 0) (b := nI z - 1) (lo := 0) (hi := (nI z - 1).toInt64) (by decide) rfl
  refine Ct.of (by decide) (Nat.le_of_ble_eq_true rfl) ?_
  refine x_iload_n dX10_lay_0 rfl ?_
  refine x_iconst (v := 0) dX10_lay_1 (by decide) ?_
  refine x_csd mf_X10_isSheet ml_X10_357 dX10_lay_2 rfl ⟨by decide, by decide⟩ (Nat.le_of_ble_eq_true rfl) ⟨rfl, rfl⟩ ⟨Nat.le_of_ble_eq_true rfl, Nat.le_of_ble_eq_true rfl⟩ (c_m_isSheet (nI k) 0) ?_
  refine x_ifb_ne 10 dX10_lay_5 (by decide) (fun _ => ?_) (fun hc_ => absurd (hc_.symm.trans (by rw [rg03 hk]; rfl)) Bool.false_ne_true)
  refine x_aload_n dX10_lay_10 rfl ?_
  refine x_getr fl_X10_68 dX10_lay_11 sf_48 rfl ?_
  refine x_iload_n dX10_lay_14 rfl ?_
  refine x_iald dX10_lay_15 sf_68 rfl (by omega) (by decide) ?_
  refine x_bipush (v := -4) dX10_lay_16 (by decide) ?_
  refine x_icmp_ne 24 dX10_lay_18 (by decide) (fun _ => ?_) (fun hc_ => absurd hc_ (hl))
  refine x_iload_n dX10_lay_24 rfl ?_
  refine x_i2l dX10_lay_25 ?_
  refine x_lconst (v := 0) dX10_lay_26 (by decide) ?_
  refine x_aload_n dX10_lay_27 rfl ?_
  refine x_getr fl_X10_71 dX10_lay_28 sf_48 rfl ?_
  refine x_iload_n dX10_lay_31 rfl ?_
  refine x_iald dX10_lay_32 sf_69 rfl (by omega) (by decide) ?_
  rw [hz]
  refine x_iconst (v := 1) dX10_lay_33 (by decide) ?_
  refine x_isub dX10_lay_34 ?_
  refine x_i2l dX10_lay_35 ?_
  refine x_csd mf_X10_in ml_X10_134 dX10_lay_36 rfl ⟨by decide, by decide⟩ (Nat.le_of_ble_eq_true rfl) ⟨rfl, rfl⟩ ⟨Nat.le_of_ble_eq_true rfl, Nat.le_of_ble_eq_true rfl⟩ (ci) ?_
  refine x_ifb_ne 45 dX10_lay_39 (by decide) (fun hc_ => absurd ((show rg i 0 (nI z - 1) = false by rw [rg_ix _ (by omega)]; exact hi).symm.trans hc_) Bool.false_ne_true) (fun _ => ?_)
  refine x_bipush (v := -12) dX10_lay_42 (by decide) ?_
  exact x_iret dX10_lay_44 rfl rfl (Nat.le_refl _) (Nat.le_refl _) ⟨rfl, ⟨rfl, rfl⟩⟩
theorem ix_out {i : Int32} {z : Nat} (hz : z < 2 ^ 31) (h : ix i z = true) : ∃ q, q < z ∧ i = nI q := (ix_t hz).mp h
theorem c_m_lay {Z : List (Option Nat)} {ext : List Ds} {M : Mm} {z : Nat} (k q : Nat) (v : Int32) (hk : k < 4) (hl : ¬ M 68 k = -4) (hz : M 69 k = nI z) (hz40 : z ≤ 40) (hi : q < z) : Ct mX10_lay [.ref 48, .int (nI k), .int (nI q), .int v] (SS Z ext) M (Rt (some (.int 1)) (up2 M 70 (40 * k + q) (lnv (M 68 k) v))) := by
  have ci := c_m_rg (S := SS Z ext) (M := M) (x := nI q) (a := 0) (b := nI z - 1) (lo := 0) (hi := (nI z - 1).toInt64) (by decide) rfl
  refine Ct.of (by decide) (Nat.le_of_ble_eq_true rfl) ?_
  refine x_iload_n dX10_lay_0 rfl ?_
  refine x_iconst (v := 0) dX10_lay_1 (by decide) ?_
  refine x_csd mf_X10_isSheet ml_X10_357 dX10_lay_2 rfl ⟨by decide, by decide⟩ (Nat.le_of_ble_eq_true rfl) ⟨rfl, rfl⟩ ⟨Nat.le_of_ble_eq_true rfl, Nat.le_of_ble_eq_true rfl⟩ (c_m_isSheet (nI k) 0) ?_
  refine x_ifb_ne 10 dX10_lay_5 (by decide) (fun _ => ?_) (fun hc_ => absurd (hc_.symm.trans (by rw [rg03 hk]; rfl)) Bool.false_ne_true)
  refine x_aload_n dX10_lay_10 rfl ?_
  refine x_getr fl_X10_68 dX10_lay_11 sf_48 rfl ?_
  refine x_iload_n dX10_lay_14 rfl ?_
  refine x_iald dX10_lay_15 sf_68 rfl (by omega) (by decide) ?_
  refine x_bipush (v := -4) dX10_lay_16 (by decide) ?_
  refine x_icmp_ne 24 dX10_lay_18 (by decide) (fun _ => ?_) (fun hc_ => absurd hc_ (hl))
  refine x_iload_n dX10_lay_24 rfl ?_
  refine x_i2l dX10_lay_25 ?_
  refine x_lconst (v := 0) dX10_lay_26 (by decide) ?_
  refine x_aload_n dX10_lay_27 rfl ?_
  refine x_getr fl_X10_71 dX10_lay_28 sf_48 rfl ?_
  refine x_iload_n dX10_lay_31 rfl ?_
  refine x_iald dX10_lay_32 sf_69 rfl (by omega) (by decide) ?_
  rw [hz]
  refine x_iconst (v := 1) dX10_lay_33 (by decide) ?_
  refine x_isub dX10_lay_34 ?_
  refine x_i2l dX10_lay_35 ?_
  refine x_csd mf_X10_in ml_X10_134 dX10_lay_36 rfl ⟨by decide, by decide⟩ (Nat.le_of_ble_eq_true rfl) ⟨rfl, rfl⟩ ⟨Nat.le_of_ble_eq_true rfl, Nat.le_of_ble_eq_true rfl⟩ (ci) ?_
  refine x_ifb_ne 45 dX10_lay_39 (by decide) (fun _ => ?_) (fun hc_ => absurd (hc_.symm.trans (by rw [rg_ix _ (by omega)]; exact ix_nI hi (by omega))) Bool.false_ne_true)
  refine x_aload_n dX10_lay_45 rfl ?_
  refine x_getr fl_X10_74 dX10_lay_46 sf_48 rfl ?_
  refine x_bipush (v := 40) dX10_lay_49 (by decide) ?_
  refine x_iload_n dX10_lay_51 rfl ?_
  refine x_imul dX10_lay_52 ?_
  refine x_iload_n dX10_lay_53 rfl ?_
  refine x_iadd dX10_lay_54 ?_
  rw [show (40 : Int32) * nI k + nI q = nI (40 * k + q) by rw [show (40 : Int32) = nI 40 from rfl, nI_mulN, nI_add]]
  refine x_aload_n dX10_lay_55 rfl ?_
  refine x_getr fl_X10_68 dX10_lay_56 sf_48 rfl ?_
  refine x_iload_n dX10_lay_59 rfl ?_
  refine x_iald dX10_lay_60 sf_68 rfl (by omega) (by decide) ?_
  refine x_if_ne 69 dX10_lay_61 (by decide) (fun h61 => ?_) (fun h61 => ?_)
  · refine x_aload_n dX10_lay_69 rfl ?_
    refine x_getr fl_X10_68 dX10_lay_70 sf_48 rfl ?_
    refine x_iload_n dX10_lay_73 rfl ?_
    refine x_iald dX10_lay_74 sf_68 rfl (by omega) (by decide) ?_
    refine x_iconst (v := 1) dX10_lay_75 (by decide) ?_
    refine x_icmp_ne 84 dX10_lay_76 (by decide) (fun h76 => ?_) (fun h76 => ?_)
    · refine x_iload_n dX10_lay_84 rfl ?_
      refine x_iast dX10_lay_85 sf_70 rfl (by omega) (by decide) ?_
      refine x_iconst (v := 1) dX10_lay_86 (by decide) ?_
      exact x_iret dX10_lay_87 rfl rfl (Nat.le_refl _) (Nat.le_refl _) ⟨rfl, ⟨rfl, by first | (rw [lnv, decide_eq_true h61]; rfl) | (rw [lnv, decide_eq_false h61, decide_eq_true h76]; rfl) | (rw [lnv, decide_eq_false h61, decide_eq_false h76]; rfl)⟩⟩
    · refine x_iload_n dX10_lay_79 rfl ?_
      refine x_i2s dX10_lay_80 ?_
      refine x_goto 85 dX10_lay_81 (by decide) ?_
      refine x_iast dX10_lay_85 sf_70 rfl (by omega) (by decide) ?_
      refine x_iconst (v := 1) dX10_lay_86 (by decide) ?_
      exact x_iret dX10_lay_87 rfl rfl (Nat.le_refl _) (Nat.le_refl _) ⟨rfl, ⟨rfl, by first | (rw [lnv, decide_eq_true h61]; rfl) | (rw [lnv, decide_eq_false h61, decide_eq_true h76]; rfl) | (rw [lnv, decide_eq_false h61, decide_eq_false h76]; rfl)⟩⟩
  · refine x_iload_n dX10_lay_64 rfl ?_
    refine x_i2b dX10_lay_65 ?_
    refine x_goto 85 dX10_lay_66 (by decide) ?_
    refine x_iast dX10_lay_85 sf_70 rfl (by omega) (by decide) ?_
    refine x_iconst (v := 1) dX10_lay_86 (by decide) ?_
    exact x_iret dX10_lay_87 rfl rfl (Nat.le_refl _) (Nat.le_refl _) ⟨rfl, ⟨rfl, by first | (rw [lnv, decide_eq_true h61]; rfl) | (rw [lnv, decide_eq_false h61, decide_eq_true h76]; rfl) | (rw [lnv, decide_eq_false h61, decide_eq_false h76]; rfl)⟩⟩
