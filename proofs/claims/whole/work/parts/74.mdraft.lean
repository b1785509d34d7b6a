/-! ===== the reference: firstDraft, keepDraft ===== -/
def fdM (M : Mm) : Mm := up2 (up2 (upr (up2 (upr (up2 (up2 (up2 M 48 10 2) 48 11 2) 48 12 0) 55 (fillv 31 0 (M 55))) 48 14 0) 56 (fillv 4 (-4) (M 56))) 48 16 0) 48 17 (-4)
theorem c_m_firstDraft {Z : List (Option Nat)} {ext : List Ds} {M : Mm} : Ct mX10_firstDraft [.ref 48] (SS Z ext) M (Rt none (fdM M)) := by
  refine Ct.of (by decide) (Nat.le_of_ble_eq_true rfl) ?_
  refine x_aload_n dX10_firstDraft_0 rfl ?_
  refine x_iconst (v := 2) dX10_firstDraft_1 (by decide) ?_
  refine x_put fl_X10_83 dX10_firstDraft_2 sf_48 rfl rfl rfl ?_
  refine x_aload_n dX10_firstDraft_5 rfl ?_
  refine x_iconst (v := 2) dX10_firstDraft_6 (by decide) ?_
  refine x_put fl_X10_87 dX10_firstDraft_7 sf_48 rfl rfl rfl ?_
  refine x_aload_n dX10_firstDraft_10 rfl ?_
  refine x_iconst (v := 0) dX10_firstDraft_11 (by decide) ?_
  refine x_put fl_X10_90 dX10_firstDraft_12 sf_48 rfl rfl rfl ?_
  refine x_iconst (v := 0) dX10_firstDraft_15 (by decide) ?_
  refine x_istore_n dX10_firstDraft_16 (by decide) ?_
  generalize hX : up2 (up2 (up2 M 48 10 2) 48 11 2) 48 12 0 = X
  have x55 : X 55 = M 55 := by rw [← hX]; rfl
  have x56 : X 56 = M 56 := by rw [← hX]; rfl
  rw [fdM, hX, ← x55, ← x56]
  clear hX x55 x56
  refine x_eq (M := upr X 55 (fillv 0 0 (X 55))) (by rw [fillv_0, upr_self]) rfl rfl rfl ?_
  refine lup (P := fun k => XW _ _ 0 0 (SS Z ext) (upr X 55 (fillv k 0 (X 55))) 17 [some (.ref 48), some (.int (nI k))] []) (N := 31) ?_ ?_ 0 (by omega)
  · refine x_iload_n dX10_firstDraft_17 rfl ?_
    refine x_bipush (v := 31) dX10_firstDraft_18 (by decide) ?_
    refine x_icmp_ge 36 dX10_firstDraft_20 (by decide) (fun _ => ?_) (fun hc_ => absurd (by decide) hc_)
    refine x_aload_n dX10_firstDraft_36 rfl ?_
    refine x_iconst (v := 0) dX10_firstDraft_37 (by decide) ?_
    refine x_put fl_X10_93 dX10_firstDraft_38 sf_48 rfl rfl rfl ?_
    refine x_iconst (v := 0) dX10_firstDraft_41 (by decide) ?_
    refine x_istore_n dX10_firstDraft_42 (by decide) ?_
    generalize hY : up2 (upr X 55 (fillv 31 0 (X 55))) 48 14 0 = Y
    have y56 : Y 56 = X 56 := by rw [← hY]; rfl
    rw [← y56]
    clear hY y56
    refine x_eq (M := upr Y 56 (fillv 0 (-4) (Y 56))) (by rw [fillv_0, upr_self]) rfl rfl rfl ?_
    refine lup (P := fun k => XW _ _ 0 0 (SS Z ext) (upr Y 56 (fillv k (-4) (Y 56))) 43 [some (.ref 48), some (.int (nI k))] []) (N := 4) ?_ ?_ 0 (by omega)
    · refine x_iload_n dX10_firstDraft_43 rfl ?_
      refine x_iconst (v := 3) dX10_firstDraft_44 (by decide) ?_
      refine x_icmp_gt 62 dX10_firstDraft_45 (by decide) (fun _ => ?_) (fun hc_ => absurd (by decide) hc_)
      refine x_aload_n dX10_firstDraft_62 rfl ?_
      refine x_iconst (v := 0) dX10_firstDraft_63 (by decide) ?_
      refine x_put fl_X10_96 dX10_firstDraft_64 sf_48 rfl rfl rfl ?_
      refine x_aload_n dX10_firstDraft_67 rfl ?_
      refine x_bipush (v := -4) dX10_firstDraft_68 (by decide) ?_
      refine x_put fl_X10_100 dX10_firstDraft_70 sf_48 rfl rfl rfl ?_
      exact x_ret dX10_firstDraft_73 rfl (Nat.le_refl _) (Nat.le_refl _) ⟨rfl, ⟨rfl, rfl⟩⟩
    · intro k hk ih
      rw [nI_succ k, ← fillv_s k] at ih
      refine x_iload_n dX10_firstDraft_43 rfl ?_
      refine x_iconst (v := 3) dX10_firstDraft_44 (by decide) ?_
      refine x_icmp_gt 62 dX10_firstDraft_45 (by decide) (fun hc_ => absurd hc_ (nI_nlt (a := 3) (b := k) (by omega) (by decide))) (fun _ => ?_)
      refine x_aload_n dX10_firstDraft_48 rfl ?_
      refine x_getr fl_X10_32 dX10_firstDraft_49 sf_48 rfl ?_
      refine x_iload_n dX10_firstDraft_52 rfl ?_
      refine x_bipush (v := -4) dX10_firstDraft_53 (by decide) ?_
      refine x_iast dX10_firstDraft_55 sf_56 rfl (by omega) (by decide) ?_
      refine x_iinc1 dX10_firstDraft_56 rfl (by decide) ?_
      refine x_goto 43 dX10_firstDraft_59 (by decide) ?_
      rw [up2_upr2]
      exact ih
  · intro k hk ih
    rw [nI_succ k, ← fillv_s k] at ih
    refine x_iload_n dX10_firstDraft_17 rfl ?_
    refine x_bipush (v := 31) dX10_firstDraft_18 (by decide) ?_
    refine x_icmp_ge 36 dX10_firstDraft_20 (by decide) (fun hc_ => absurd hc_ (nI_ge (b := 31) (a := k) hk (by decide))) (fun _ => ?_)
    refine x_aload_n dX10_firstDraft_23 rfl ?_
    refine x_getr fl_X10_29 dX10_firstDraft_24 sf_48 rfl ?_
    refine x_iload_n dX10_firstDraft_27 rfl ?_
    refine x_iconst (v := 0) dX10_firstDraft_28 (by decide) ?_
    refine x_iast dX10_firstDraft_29 sf_55 rfl (by omega) (by decide) ?_
    refine x_iinc1 dX10_firstDraft_30 rfl (by decide) ?_
    refine x_goto 17 dX10_firstDraft_33 (by decide) ?_
    rw [up2_upr2]
    exact ih
def kcR (dC : Nat → Int32) (f : Nat → Int32) : Nat → Nat → Int32
  | 0 => f
  | k + 1 => upd (kcR dC f k) (k + 1) (if decide (dC k = 0) then 1 else dC k)
theorem kcR_s (dC : Nat → Int32) (f : Nat → Int32) (k : Nat) : kcR dC f (k + 1) = upd (kcR dC f k) (k + 1) (if decide (dC k = 0) then 1 else dC k) := rfl
def ksR (dS : Nat → Int32) (f : Nat → Int32) : Nat → Nat → Int32
  | 0 => f
  | k + 1 => upd (ksR dS f k) (k + 33) (dS (k + 1))
theorem ksR_s (dS : Nat → Int32) (f : Nat → Int32) (k : Nat) : ksR dS f (k + 1) = upd (ksR dS f k) (k + 33) (dS (k + 1)) := rfl
/-- wide, high, matches and the squares -/
def kgM (M : Mm) (w h : Nat) : Mm := gmR (up2 (up2 (up2 M 48 2 (nI w)) 48 3 (nI h)) 48 4 (nI (w * (h + 1) + h * (w + 1)))) (gS w h ([], M 6) 3)
/-- what is kept of the draft -/
def kst (M : Mm) (mt : Nat) : Nat → Int32 := ksR (M 56) (upd (kcR (M 55) (upd (M 49) 0 (alo mt &&& (M 48 12 ^^^ (-1)))) 31) 32 (if decide (M 48 14 = 0) then 14 else M 48 14)) 3
def kdM (M : Mm) (w h : Nat) : Mm := upr (up2 (up2 (kgM M w h) 50 0 0) 50 1 0) 49 (kst M (w * (h + 1) + h * (w + 1)))
theorem kd_49 {Z : List (Option Nat)} {ext : List Ds} {X : Mm} {Q : Option Value → List Ds → Mm → Prop} {l2 : Option Value} {all : Int32} (fin : ∀ l2, XW mX10_keepDraft (Fc mX10_keepDraft Q) 0 0 (SS Z ext) (upr X 49 (ksR (X 56) (upd (kcR (X 55) (upd (X 49) 0 (all &&& (X 48 12 ^^^ (-1)))) 31) 32 (if decide (X 48 14 = 0) then 14 else X 48 14)) 3)) 177 [some (.ref 48), some (.int all), l2] []) :
    XW mX10_keepDraft (Fc mX10_keepDraft Q) 0 0 (SS Z ext) X 71 [some (.ref 48), some (.int all), l2] [] := by
  refine x_aload_n dX10_keepDraft_71 rfl ?_
  refine x_getr fl_X10_7 dX10_keepDraft_72 sf_48 rfl ?_
  refine x_iconst (v := 0) dX10_keepDraft_75 (by decide) ?_
  refine x_iload_n dX10_keepDraft_76 rfl ?_
  refine x_aload_n dX10_keepDraft_77 rfl ?_
  refine x_geti fl_X10_90 dX10_keepDraft_78 sf_48 rfl ?_
  refine x_iconst (v := -1) dX10_keepDraft_81 (by decide) ?_
  refine x_ixor dX10_keepDraft_82 ?_
  refine x_iand dX10_keepDraft_83 ?_
  refine x_iast (q := 0) dX10_keepDraft_84 sf_49 (by decide) (by decide) (by decide) ?_
  refine x_iconst (v := 0) dX10_keepDraft_85 (by decide) ?_
  refine x_istore_n dX10_keepDraft_86 (by decide) ?_
  refine x_eq (M := upr X 49 (kcR (X 55) (upd (X 49) 0 (all &&& (X 48 12 ^^^ (-1)))) 0)) rfl rfl rfl rfl ?_
  refine lup (P := fun k => XW _ _ 0 0 (SS Z ext) (upr X 49 (kcR (X 55) (upd (X 49) 0 (all &&& (X 48 12 ^^^ (-1)))) k)) 87 [some (.ref 48), some (.int all), some (.int (nI k))] []) (N := 31) ?_ ?_ 0 (by omega)
  · generalize kcR (X 55) (upd (X 49) 0 (all &&& (X 48 12 ^^^ (-1)))) 31 = r at fin ⊢
    have loop : XW mX10_keepDraft (Fc mX10_keepDraft Q) 0 0 (SS Z ext) (upr X 49 (ksR (X 56) (upd r 32 (if decide (X 48 14 = 0) then 14 else X 48 14)) 0)) 151 [some (.ref 48), some (.int all), some (.int (nI (0 + 1)))] [] := by
      refine lup (P := fun k => XW mX10_keepDraft (Fc mX10_keepDraft Q) 0 0 (SS Z ext) (upr X 49 (ksR (X 56) (upd r 32 (if decide (X 48 14 = 0) then 14 else X 48 14)) k)) 151 [some (.ref 48), some (.int all), some (.int (nI (k + 1)))] []) (N := 3) ?_ ?_ 0 (by omega)
      · refine x_iload_n dX10_keepDraft_151 rfl ?_
        refine x_iconst (v := 3) dX10_keepDraft_152 (by decide) ?_
        refine x_icmp_gt 177 dX10_keepDraft_153 (by decide) (fun _ => ?_) (fun hc_ => absurd (by decide) hc_)
        exact fin _
      · intro k hk ih
        rw [nI_succ (k + 1), ksR_s _ _ k] at ih
        refine x_iload_n dX10_keepDraft_151 rfl ?_
        refine x_iconst (v := 3) dX10_keepDraft_152 (by decide) ?_
        refine x_icmp_gt 177 dX10_keepDraft_153 (by decide) (fun hc_ => absurd hc_ (nI_nlt (a := 3) (b := k + 1) (by omega) (by decide))) (fun _ => ?_)
        refine x_aload_n dX10_keepDraft_156 rfl ?_
        refine x_getr fl_X10_7 dX10_keepDraft_157 sf_48 rfl ?_
        refine x_bipush (v := 32) dX10_keepDraft_160 (by decide) ?_
        refine x_iload_n dX10_keepDraft_162 rfl ?_
        refine x_iadd dX10_keepDraft_163 ?_
        rw [show (32 : Int32) + nI (k + 1) = nI (k + 33) by rw [show (32 : Int32) = nI 32 from rfl, nI_add]; congr 1; omega]
        refine x_aload_n dX10_keepDraft_164 rfl ?_
        refine x_getr fl_X10_32 dX10_keepDraft_165 sf_48 rfl ?_
        refine x_iload_n dX10_keepDraft_168 rfl ?_
        refine x_iald dX10_keepDraft_169 sf_56 rfl (by omega) (by decide) ?_
        refine x_iast dX10_keepDraft_170 sf_49 rfl (by omega) (by decide) ?_
        refine x_iinc1 dX10_keepDraft_171 rfl (by decide) ?_
        refine x_goto 151 dX10_keepDraft_174 (by decide) ?_
        rw [up2_upr2]
        exact ih
    refine x_iload_n dX10_keepDraft_87 rfl ?_
    refine x_bipush (v := 31) dX10_keepDraft_88 (by decide) ?_
    refine x_icmp_ge 126 dX10_keepDraft_90 (by decide) (fun _ => ?_) (fun hc_ => absurd (by decide) hc_)
    refine x_aload_n dX10_keepDraft_126 rfl ?_
    refine x_getr fl_X10_7 dX10_keepDraft_127 sf_48 rfl ?_
    refine x_bipush (v := 32) dX10_keepDraft_130 (by decide) ?_
    refine x_aload_n dX10_keepDraft_132 rfl ?_
    refine x_geti fl_X10_93 dX10_keepDraft_133 sf_48 rfl ?_
    refine x_if_ne 144 dX10_keepDraft_136 (by decide) (fun h136 => ?_) (fun h136 => ?_)
    · refine x_aload_n dX10_keepDraft_144 rfl ?_
      refine x_geti fl_X10_93 dX10_keepDraft_145 sf_48 rfl ?_
      refine x_iast (q := 32) dX10_keepDraft_148 sf_49 (by decide) (by decide) (by decide) ?_
      refine x_iconst (v := 1) dX10_keepDraft_149 (by decide) ?_
      refine x_istore_n dX10_keepDraft_150 (by decide) ?_
      rw [up2_upr2]; first | (rw [decide_eq_true (show X 48 14 = 0 from h136)] at loop; exact loop) | (rw [decide_eq_false (show ¬ X 48 14 = 0 from h136)] at loop; exact loop)
    · refine x_bipush (v := 14) dX10_keepDraft_139 (by decide) ?_
      refine x_goto 148 dX10_keepDraft_141 (by decide) ?_
      refine x_iast (q := 32) dX10_keepDraft_148 sf_49 (by decide) (by decide) (by decide) ?_
      refine x_iconst (v := 1) dX10_keepDraft_149 (by decide) ?_
      refine x_istore_n dX10_keepDraft_150 (by decide) ?_
      rw [up2_upr2]; first | (rw [decide_eq_true (show X 48 14 = 0 from h136)] at loop; exact loop) | (rw [decide_eq_false (show ¬ X 48 14 = 0 from h136)] at loop; exact loop)
  · intro k hk ih
    rw [nI_succ k, kcR_s _ _ k] at ih
    refine x_iload_n dX10_keepDraft_87 rfl ?_
    refine x_bipush (v := 31) dX10_keepDraft_88 (by decide) ?_
    refine x_icmp_ge 126 dX10_keepDraft_90 (by decide) (fun hc_ => absurd hc_ (nI_ge (b := 31) (a := k) hk (by decide))) (fun _ => ?_)
    refine x_aload_n dX10_keepDraft_93 rfl ?_
    refine x_getr fl_X10_7 dX10_keepDraft_94 sf_48 rfl ?_
    refine x_iconst (v := 1) dX10_keepDraft_97 (by decide) ?_
    refine x_iload_n dX10_keepDraft_98 rfl ?_
    refine x_iadd dX10_keepDraft_99 ?_
    rw [show (1 : Int32) + nI k = nI (k + 1) by rw [Int32.add_comm, ← nI_succ]]
    refine x_aload_n dX10_keepDraft_100 rfl ?_
    refine x_getr fl_X10_29 dX10_keepDraft_101 sf_48 rfl ?_
    refine x_iload_n dX10_keepDraft_104 rfl ?_
    refine x_iald dX10_keepDraft_105 sf_55 rfl (by omega) (by decide) ?_
    refine x_if_ne 113 dX10_keepDraft_106 (by decide) (fun h106 => ?_) (fun h106 => ?_)
    · refine x_aload_n dX10_keepDraft_113 rfl ?_
      refine x_getr fl_X10_29 dX10_keepDraft_114 sf_48 rfl ?_
      refine x_iload_n dX10_keepDraft_117 rfl ?_
      refine x_iald dX10_keepDraft_118 sf_55 rfl (by omega) (by decide) ?_
      refine x_iast dX10_keepDraft_119 sf_49 rfl (by omega) (by decide) ?_
      refine x_iinc1 dX10_keepDraft_120 rfl (by decide) ?_
      refine x_goto 87 dX10_keepDraft_123 (by decide) ?_
      rw [up2_upr2]; first | (rw [decide_eq_true (show X 55 k = 0 from h106)] at ih; exact ih) | (rw [decide_eq_false (show ¬ X 55 k = 0 from h106)] at ih; exact ih)
    · refine x_iconst (v := 1) dX10_keepDraft_109 (by decide) ?_
      refine x_goto 119 dX10_keepDraft_110 (by decide) ?_
      refine x_iast dX10_keepDraft_119 sf_49 rfl (by omega) (by decide) ?_
      refine x_iinc1 dX10_keepDraft_120 rfl (by decide) ?_
      refine x_goto 87 dX10_keepDraft_123 (by decide) ?_
      rw [up2_upr2]; first | (rw [decide_eq_true (show X 55 k = 0 from h106)] at ih; exact ih) | (rw [decide_eq_false (show ¬ X 55 k = 0 from h106)] at ih; exact ih)
theorem c_m_keepDraft {Z : List (Option Nat)} {ext : List Ds} {M : Mm} {w h : Nat} (hw : M 48 10 = nI w) (hw4 : w ≤ 4) (hh : M 48 11 = nI h) (hh3 : h ≤ 3) : Ct mX10_keepDraft [.ref 48] (SS Z ext) M (Rt none (kdM M w h)) := by
  have hmb : w * (h + 1) + h * (w + 1) ≤ 31 := by
    have h1 := Nat.mul_le_mul hw4 (show h + 1 ≤ 4 by omega)
    have h2 := Nat.mul_le_mul hh3 (show w + 1 ≤ 5 by omega)
    omega
  have cs := c_m_findSquares (Z := Z) (ext := ext) (M := up2 (up2 (up2 M 48 2 (nI w)) 48 3 (nI h)) 48 4 (nI (w * (h + 1) + h * (w + 1)))) (w := w) (h := h) (M 6) rfl hw4 rfl hh3
  rw [← kgM] at cs
  have k4 : kgM M w h 48 4 = nI (w * (h + 1) + h * (w + 1)) := rfl
  have kX : kdM M w h = up2 (up2 (upr (kgM M w h) 49 (ksR ((kgM M w h) 56) (upd (kcR ((kgM M w h) 55) (upd ((kgM M w h) 49) 0 (alo (w * (h + 1) + h * (w + 1)) &&& ((kgM M w h) 48 12 ^^^ (-1)))) 31) 32 (if decide ((kgM M w h) 48 14 = 0) then 14 else (kgM M w h) 48 14)) 3)) 50 0 0) 50 1 0 := by
    rw [kdM, kst, upr_up2 _ _ _ _ (by decide), upr_up2 _ _ _ _ (by decide)]
    rfl
  rw [kX]
  generalize kgM M w h = X at cs k4
  generalize hMT0 : w * (h + 1) + h * (w + 1) = mt at hmb k4 cs ⊢
  have hMT : nI w * (nI h + 1) + nI h * (nI w + 1) = nI mt := by rw [nI_1, nI_1, nI_mulN, nI_mulN, nI_add, hMT0]
  refine Ct.of (by decide) (Nat.le_of_ble_eq_true rfl) ?_
  refine x_aload_n dX10_keepDraft_0 rfl ?_
  refine x_aload_n dX10_keepDraft_1 rfl ?_
  refine x_geti fl_X10_83 dX10_keepDraft_2 sf_48 rfl ?_
  rw [hw]
  refine x_put fl_X10_103 dX10_keepDraft_5 sf_48 rfl rfl rfl ?_
  refine x_aload_n dX10_keepDraft_8 rfl ?_
  refine x_aload_n dX10_keepDraft_9 rfl ?_
  refine x_geti fl_X10_87 dX10_keepDraft_10 sf_48 rfl ?_
  rw [show (up2 M 48 2 (nI w)) 48 11 = nI h from hh]
  refine x_put fl_X10_106 dX10_keepDraft_13 sf_48 rfl rfl rfl ?_
  refine x_aload_n dX10_keepDraft_16 rfl ?_
  refine x_aload_n dX10_keepDraft_17 rfl ?_
  refine x_geti fl_X10_103 dX10_keepDraft_18 sf_48 rfl ?_
  refine x_aload_n dX10_keepDraft_21 rfl ?_
  refine x_geti fl_X10_106 dX10_keepDraft_22 sf_48 rfl ?_
  refine x_iconst (v := 1) dX10_keepDraft_25 (by decide) ?_
  refine x_iadd dX10_keepDraft_26 ?_
  refine x_imul dX10_keepDraft_27 ?_
  refine x_aload_n dX10_keepDraft_28 rfl ?_
  refine x_geti fl_X10_106 dX10_keepDraft_29 sf_48 rfl ?_
  refine x_aload_n dX10_keepDraft_32 rfl ?_
  refine x_geti fl_X10_103 dX10_keepDraft_33 sf_48 rfl ?_
  refine x_iconst (v := 1) dX10_keepDraft_36 (by decide) ?_
  refine x_iadd dX10_keepDraft_37 ?_
  refine x_imul dX10_keepDraft_38 ?_
  refine x_iadd dX10_keepDraft_39 ?_
  rw [show (up2 (up2 M 48 2 (nI w)) 48 3 (nI h)) 48 2 * ((up2 (up2 M 48 2 (nI w)) 48 3 (nI h)) 48 3 + 1) + (up2 (up2 M 48 2 (nI w)) 48 3 (nI h)) 48 3 * ((up2 (up2 M 48 2 (nI w)) 48 3 (nI h)) 48 2 + 1) = nI mt from hMT]
  refine x_put fl_X10_123 dX10_keepDraft_40 sf_48 rfl rfl rfl ?_
  refine x_aload_n dX10_keepDraft_43 rfl ?_
  refine x_cvd mf_X10_findSquares ml_X10_126 dX10_keepDraft_44 rfl sf_48 rfl ⟨by decide, by decide⟩ (Nat.le_of_ble_eq_true rfl) ⟨rfl, rfl⟩ ⟨Nat.le_of_ble_eq_true rfl, Nat.le_of_ble_eq_true rfl⟩ (cs) ?_
  refine x_iconst (v := 0) dX10_keepDraft_47 (by decide) ?_
  refine x_istore_n dX10_keepDraft_48 (by decide) ?_
  refine x_iconst (v := 0) dX10_keepDraft_49 (by decide) ?_
  refine x_istore_n dX10_keepDraft_50 (by decide) ?_
  refine (lup (P := fun k => XW _ _ 0 0 (SS Z ext) X 51 [some (.ref 48), some (.int (alo k)), some (.int (nI k))] []) (N := mt) ?_ ?_ 0 (by omega))
  · refine x_iload_n dX10_keepDraft_51 rfl ?_
    refine x_aload_n dX10_keepDraft_52 rfl ?_
    refine x_geti fl_X10_123 dX10_keepDraft_53 sf_48 rfl ?_
    refine x_icmp_ge 71 dX10_keepDraft_56 (by decide) (fun _ => ?_) (fun hc_ => absurd (by rw [k4]; exact nI_le (Nat.le_refl _) (by omega)) hc_)
    refine kd_49 (fun l2 => ?_)
    refine x_aload_n dX10_keepDraft_177 rfl ?_
    refine x_getr fl_X10_13 dX10_keepDraft_178 sf_48 rfl ?_
    refine x_iconst (v := 0) dX10_keepDraft_181 (by decide) ?_
    refine x_iconst (v := 0) dX10_keepDraft_182 (by decide) ?_
    refine x_zast (q := 0) dX10_keepDraft_183 sf_50 (by decide) (by decide) (by decide) ?_
    refine x_aload_n dX10_keepDraft_184 rfl ?_
    refine x_getr fl_X10_13 dX10_keepDraft_185 sf_48 rfl ?_
    refine x_iconst (v := 1) dX10_keepDraft_188 (by decide) ?_
    refine x_iconst (v := 0) dX10_keepDraft_189 (by decide) ?_
    refine x_zast (q := 1) dX10_keepDraft_190 sf_50 (by decide) (by decide) (by decide) ?_
    exact x_ret dX10_keepDraft_191 rfl (Nat.le_refl _) (Nat.le_refl _) ⟨rfl, ⟨rfl, rfl⟩⟩
  · intro k hk ih
    rw [nI_succ k] at ih
    refine x_iload_n dX10_keepDraft_51 rfl ?_
    refine x_aload_n dX10_keepDraft_52 rfl ?_
    refine x_geti fl_X10_123 dX10_keepDraft_53 sf_48 rfl ?_
    refine x_icmp_ge 71 dX10_keepDraft_56 (by decide) (fun hc_ => absurd hc_ (by rw [k4]; exact nI_ge hk (by omega))) (fun _ => ?_)
    refine x_iload_n dX10_keepDraft_59 rfl ?_
    refine x_iconst (v := 1) dX10_keepDraft_60 (by decide) ?_
    refine x_iload_n dX10_keepDraft_61 rfl ?_
    refine x_ishl dX10_keepDraft_62 ?_
    refine x_ior dX10_keepDraft_63 ?_
    refine x_istore_n dX10_keepDraft_64 (by decide) ?_
    refine x_iinc1 dX10_keepDraft_65 rfl (by decide) ?_
    refine x_goto 51 dX10_keepDraft_68 (by decide) ?_
    exact ih
