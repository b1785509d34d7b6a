/-! ===== the class: the Grid's mirrors; form ===== -/
abbrev T3 : Type := (Nat → Int32) × (Nat → Int32) × (Nat → Int32)
def aN (w r c : Nat) : Nat := r * w + c
def sN (w h r c : Nat) : Nat := w * (h + 1) + r * (w + 1) + c
def tpA (w h r c : Nat) (x : T3) : T3 := if c < w then (upd x.1 (aN w r c) (nI (aN w r (w - 1 - c))), upd x.2.1 (aN w r c) (nI (aN w (h - r) c)), upd x.2.2 (aN w r c) (if w = h then nI (sN w h c r) else nI (aN w r c))) else x
def tpB (w h r c : Nat) (x : T3) : T3 := if r < h then (upd x.1 (sN w h r c) (nI (sN w h r (w - c))), upd x.2.1 (sN w h r c) (nI (sN w h (h - 1 - r) c)), upd x.2.2 (sN w h r c) (if w = h then nI (aN w c r) else nI (sN w h r c))) else x
def tpS (w h r c : Nat) (x : T3) : T3 := tpB w h r c (tpA w h r c x)
def tpM (M : Mm) (x : T3) : Mm := upr (upr (upr M 7 x.1) 8 x.2.1) 9 x.2.2
theorem tp_7 (M : Mm) (x : T3) (k : Nat) (v : Int32) : up2 (tpM M x) 7 k v = tpM M (upd x.1 k v, x.2.1, x.2.2) := by rw [tpM, tpM, up2_upr_ne _ _ _ (by decide), up2_upr_ne _ _ _ (by decide), up2_upr2]
theorem tp_8 (M : Mm) (x : T3) (k : Nat) (v : Int32) : up2 (tpM M x) 8 k v = tpM M (x.1, upd x.2.1 k v, x.2.2) := by rw [tpM, tpM, up2_upr_ne _ _ _ (by decide), up2_upr2]
theorem tp_9 (M : Mm) (x : T3) (k : Nat) (v : Int32) : up2 (tpM M x) 9 k v = tpM M (x.1, x.2.1, upd x.2.2 k v) := by rw [tpM, tpM, up2_upr2]
theorem aN_lt {w r c : Nat} (hr : r ≤ 3) (hw : w ≤ 4) (hc : c < w) : aN w r c < 31 := by
  have := Nat.mul_le_mul hr hw
  unfold aN; omega
theorem sN_lt {w h r c : Nat} (hr : r ≤ 2) (hw : w ≤ 4) (hh : h ≤ 3) (hc : c ≤ w) : sN w h r c < 31 := by
  have h1 := Nat.mul_le_mul hw (show h + 1 ≤ 4 by omega)
  have h2 := Nat.mul_le_mul hr (show w + 1 ≤ 5 by omega)
  unfold sN; omega
theorem c_aN {S : List Ds} {M : Mm} {w : Nat} (hS : ShG S) (hw : M 1 0 = nI w) (r c : Nat) : Ct mX2_across [.ref 1, .int (nI r), .int (nI c)] S M (Rt (some (.int (nI (aN w r c)))) M) := by
  have h := c_across (M := M) hS (nI r) (nI c)
  rw [hw, nI_mulN, nI_add] at h
  exact h
theorem c_sN {S : List Ds} {M : Mm} {w h : Nat} (hS : ShG S) (hw : M 1 0 = nI w) (hh : M 1 1 = nI h) (r c : Nat) : Ct mX2_standing [.ref 1, .int (nI r), .int (nI c)] S M (Rt (some (.int (nI (sN w h r c)))) M) := by
  have h := c_standing (M := M) hS (nI r) (nI c)
  rw [hw, hh, nI_1, nI_1, nI_mulN, nI_mulN, nI_add, nI_add] at h
  exact h
theorem tp_a {S : List Ds} {M : Mm} {Q : Option Value → List Ds → Mm → Prop} {w h r c : Nat} {l4 : Option Value} (hS : ShG S) (x : T3) (hw : M 1 0 = nI w) (hw4 : w ≤ 4) (hh : M 1 1 = nI h) (hh3 : h ≤ 3) (hr : r ≤ h) (hcw : c ≤ w) (fin : ∀ l4, XW mX2_turnPlaces (Fc mX2_turnPlaces Q) 0 0 S (tpM M (tpA w h r c x)) 93 [some (.ref 1), some (.int (nI r)), some (.int (nI c)), some (.int (b2i (decide (w = h)))), l4] []) :
    XW mX2_turnPlaces (Fc mX2_turnPlaces Q) 0 0 S (tpM M x) 17 [some (.ref 1), some (.int (nI r)), some (.int (nI c)), some (.int (b2i (decide (w = h)))), l4] [] := by
  have g0 : ∀ y, tpM M y 1 0 = nI w := fun _ => hw
  have g1 : ∀ y, tpM M y 1 1 = nI h := fun _ => hh
  by_cases hc : c < w
  · have hlt := aN_lt (r := r) (by omega) hw4 hc
    rw [tpA, if_pos hc] at fin
    by_cases he : w = h
    · rw [decide_eq_true he, if_pos he] at fin
      rw [decide_eq_true he]
      refine x_iload_n dX2_turnPlaces_17 rfl ?_
      refine x_aload_n dX2_turnPlaces_18 rfl ?_
      refine x_geti fl_X2_36 dX2_turnPlaces_19 (sg_1 hS) rfl ?_
      refine x_icmp_ge 93 dX2_turnPlaces_22 (by decide) (fun hc_ => absurd hc_ (by show ¬ M 1 0 ≤ nI c; rw [hw]; exact nI_ge hc (by omega))) (fun _ => ?_)
      refine x_aload_n dX2_turnPlaces_25 rfl ?_
      refine x_iload_n dX2_turnPlaces_26 rfl ?_
      refine x_iload_n dX2_turnPlaces_27 rfl ?_
      refine x_cvd mf_X2_across ml_X2_69 dX2_turnPlaces_28 rfl (sg_1 hS) rfl ⟨by decide, by decide⟩ (Nat.le_of_ble_eq_true rfl) ⟨rfl, rfl⟩ ⟨Nat.le_of_ble_eq_true rfl, Nat.le_of_ble_eq_true rfl⟩ (c_aN hS (g0 _) r c) ?_
      refine x_istore dX2_turnPlaces_31 (by decide) ?_
      refine x_aload_n dX2_turnPlaces_33 rfl ?_
      refine x_getr fl_X2_27 dX2_turnPlaces_34 (sg_1 hS) rfl ?_
      refine x_iload dX2_turnPlaces_37 rfl ?_
      refine x_aload_n dX2_turnPlaces_39 rfl ?_
      refine x_iload_n dX2_turnPlaces_40 rfl ?_
      refine x_aload_n dX2_turnPlaces_41 rfl ?_
      refine x_geti fl_X2_36 dX2_turnPlaces_42 (sg_1 hS) rfl ?_
      refine x_iconst (v := 1) dX2_turnPlaces_45 (by decide) ?_
      refine x_isub dX2_turnPlaces_46 ?_
      refine x_iload_n dX2_turnPlaces_47 rfl ?_
      refine x_isub dX2_turnPlaces_48 ?_
      rw [g0, show (1 : Int32) = nI 1 from rfl, pk_sub (show 1 ≤ w by omega), pk_sub (show c ≤ w - 1 by omega)]
      refine x_cvd mf_X2_across ml_X2_69 dX2_turnPlaces_49 rfl (sg_1 hS) rfl ⟨by decide, by decide⟩ (Nat.le_of_ble_eq_true rfl) ⟨rfl, rfl⟩ ⟨Nat.le_of_ble_eq_true rfl, Nat.le_of_ble_eq_true rfl⟩ (c_aN hS (g0 _) r (w - 1 - c)) ?_
      refine x_iast dX2_turnPlaces_52 (sg_7 hS) rfl hlt (by decide) ?_
      rw [tp_7]
      refine x_aload_n dX2_turnPlaces_53 rfl ?_
      refine x_getr fl_X2_30 dX2_turnPlaces_54 (sg_1 hS) rfl ?_
      refine x_iload dX2_turnPlaces_57 rfl ?_
      refine x_aload_n dX2_turnPlaces_59 rfl ?_
      refine x_aload_n dX2_turnPlaces_60 rfl ?_
      refine x_geti fl_X2_40 dX2_turnPlaces_61 (sg_1 hS) rfl ?_
      refine x_iload_n dX2_turnPlaces_64 rfl ?_
      refine x_isub dX2_turnPlaces_65 ?_
      refine x_iload_n dX2_turnPlaces_66 rfl ?_
      rw [g1, pk_sub hr]
      refine x_cvd mf_X2_across ml_X2_69 dX2_turnPlaces_67 rfl (sg_1 hS) rfl ⟨by decide, by decide⟩ (Nat.le_of_ble_eq_true rfl) ⟨rfl, rfl⟩ ⟨Nat.le_of_ble_eq_true rfl, Nat.le_of_ble_eq_true rfl⟩ (c_aN hS (g0 _) (h - r) c) ?_
      refine x_iast dX2_turnPlaces_70 (sg_8 hS) rfl hlt (by decide) ?_
      rw [tp_8]
      refine x_aload_n dX2_turnPlaces_71 rfl ?_
      refine x_getr fl_X2_33 dX2_turnPlaces_72 (sg_1 hS) rfl ?_
      refine x_iload dX2_turnPlaces_75 rfl ?_
      refine x_iload_n dX2_turnPlaces_77 rfl ?_
      refine x_if_eq 90 dX2_turnPlaces_78 (by decide) (fun hc_ => absurd hc_ (by decide)) (fun _ => ?_)
      refine x_aload_n dX2_turnPlaces_81 rfl ?_
      refine x_iload_n dX2_turnPlaces_82 rfl ?_
      refine x_iload_n dX2_turnPlaces_83 rfl ?_
      refine x_cvd mf_X2_standing ml_X2_72 dX2_turnPlaces_84 rfl (sg_1 hS) rfl ⟨by decide, by decide⟩ (Nat.le_of_ble_eq_true rfl) ⟨rfl, rfl⟩ ⟨Nat.le_of_ble_eq_true rfl, Nat.le_of_ble_eq_true rfl⟩ (c_sN hS (g0 _) (g1 _) c r) ?_
      refine x_goto 92 dX2_turnPlaces_87 (by decide) ?_
      refine x_iast dX2_turnPlaces_92 (sg_9 hS) rfl hlt (by decide) ?_
      rw [tp_9]
      exact fin _
    · rw [decide_eq_false he, if_neg he] at fin
      rw [decide_eq_false he]
      refine x_iload_n dX2_turnPlaces_17 rfl ?_
      refine x_aload_n dX2_turnPlaces_18 rfl ?_
      refine x_geti fl_X2_36 dX2_turnPlaces_19 (sg_1 hS) rfl ?_
      refine x_icmp_ge 93 dX2_turnPlaces_22 (by decide) (fun hc_ => absurd hc_ (by show ¬ M 1 0 ≤ nI c; rw [hw]; exact nI_ge hc (by omega))) (fun _ => ?_)
      refine x_aload_n dX2_turnPlaces_25 rfl ?_
      refine x_iload_n dX2_turnPlaces_26 rfl ?_
      refine x_iload_n dX2_turnPlaces_27 rfl ?_
      refine x_cvd mf_X2_across ml_X2_69 dX2_turnPlaces_28 rfl (sg_1 hS) rfl ⟨by decide, by decide⟩ (Nat.le_of_ble_eq_true rfl) ⟨rfl, rfl⟩ ⟨Nat.le_of_ble_eq_true rfl, Nat.le_of_ble_eq_true rfl⟩ (c_aN hS (g0 _) r c) ?_
      refine x_istore dX2_turnPlaces_31 (by decide) ?_
      refine x_aload_n dX2_turnPlaces_33 rfl ?_
      refine x_getr fl_X2_27 dX2_turnPlaces_34 (sg_1 hS) rfl ?_
      refine x_iload dX2_turnPlaces_37 rfl ?_
      refine x_aload_n dX2_turnPlaces_39 rfl ?_
      refine x_iload_n dX2_turnPlaces_40 rfl ?_
      refine x_aload_n dX2_turnPlaces_41 rfl ?_
      refine x_geti fl_X2_36 dX2_turnPlaces_42 (sg_1 hS) rfl ?_
      refine x_iconst (v := 1) dX2_turnPlaces_45 (by decide) ?_
      refine x_isub dX2_turnPlaces_46 ?_
      refine x_iload_n dX2_turnPlaces_47 rfl ?_
      refine x_isub dX2_turnPlaces_48 ?_
      rw [g0, show (1 : Int32) = nI 1 from rfl, pk_sub (show 1 ≤ w by omega), pk_sub (show c ≤ w - 1 by omega)]
      refine x_cvd mf_X2_across ml_X2_69 dX2_turnPlaces_49 rfl (sg_1 hS) rfl ⟨by decide, by decide⟩ (Nat.le_of_ble_eq_true rfl) ⟨rfl, rfl⟩ ⟨Nat.le_of_ble_eq_true rfl, Nat.le_of_ble_eq_true rfl⟩ (c_aN hS (g0 _) r (w - 1 - c)) ?_
      refine x_iast dX2_turnPlaces_52 (sg_7 hS) rfl hlt (by decide) ?_
      rw [tp_7]
      refine x_aload_n dX2_turnPlaces_53 rfl ?_
      refine x_getr fl_X2_30 dX2_turnPlaces_54 (sg_1 hS) rfl ?_
      refine x_iload dX2_turnPlaces_57 rfl ?_
      refine x_aload_n dX2_turnPlaces_59 rfl ?_
      refine x_aload_n dX2_turnPlaces_60 rfl ?_
      refine x_geti fl_X2_40 dX2_turnPlaces_61 (sg_1 hS) rfl ?_
      refine x_iload_n dX2_turnPlaces_64 rfl ?_
      refine x_isub dX2_turnPlaces_65 ?_
      refine x_iload_n dX2_turnPlaces_66 rfl ?_
      rw [g1, pk_sub hr]
      refine x_cvd mf_X2_across ml_X2_69 dX2_turnPlaces_67 rfl (sg_1 hS) rfl ⟨by decide, by decide⟩ (Nat.le_of_ble_eq_true rfl) ⟨rfl, rfl⟩ ⟨Nat.le_of_ble_eq_true rfl, Nat.le_of_ble_eq_true rfl⟩ (c_aN hS (g0 _) (h - r) c) ?_
      refine x_iast dX2_turnPlaces_70 (sg_8 hS) rfl hlt (by decide) ?_
      rw [tp_8]
      refine x_aload_n dX2_turnPlaces_71 rfl ?_
      refine x_getr fl_X2_33 dX2_turnPlaces_72 (sg_1 hS) rfl ?_
      refine x_iload dX2_turnPlaces_75 rfl ?_
      refine x_iload_n dX2_turnPlaces_77 rfl ?_
      refine x_if_eq 90 dX2_turnPlaces_78 (by decide) (fun _ => ?_) (fun hc_ => absurd (rfl) hc_)
      refine x_iload dX2_turnPlaces_90 rfl ?_
      refine x_iast dX2_turnPlaces_92 (sg_9 hS) rfl hlt (by decide) ?_
      rw [tp_9]
      exact fin _
  · rw [tpA, if_neg hc] at fin
    refine x_iload_n dX2_turnPlaces_17 rfl ?_
    refine x_aload_n dX2_turnPlaces_18 rfl ?_
    refine x_geti fl_X2_36 dX2_turnPlaces_19 (sg_1 hS) rfl ?_
    refine x_icmp_ge 93 dX2_turnPlaces_22 (by decide) (fun _ => ?_) (fun hc_ => absurd (by show M 1 0 ≤ nI c; rw [hw]; exact nI_le (by omega) (by omega)) hc_)
    exact fin _
theorem tp_b {S : List Ds} {M : Mm} {w h r c : Nat} {l4 : Option Value} (hS : ShG S) (x : T3) (hw : M 1 0 = nI w) (hw4 : w ≤ 4) (hh : M 1 1 = nI h) (hh3 : h ≤ 3) (hr : r ≤ h) (hc : c ≤ w) :
    XW mX2_turnPlaces (Fc mX2_turnPlaces (fun r' S' M' => S' = S ∧ Rt none (tpM M (tpB w h r c x)) r' M')) 0 0 S (tpM M x) 93 [some (.ref 1), some (.int (nI r)), some (.int (nI c)), some (.int (b2i (decide (w = h)))), l4] [] := by
  have g0 : ∀ y, tpM M y 1 0 = nI w := fun _ => hw
  have g1 : ∀ y, tpM M y 1 1 = nI h := fun _ => hh
  by_cases hrh : r < h
  · have hlt := sN_lt (r := r) (by omega) hw4 hh3 hc
    rw [tpB, if_pos hrh]
    by_cases he : w = h
    · rw [decide_eq_true he, if_pos he]
      refine x_iload_n dX2_turnPlaces_93 rfl ?_
      refine x_aload_n dX2_turnPlaces_94 rfl ?_
      refine x_geti fl_X2_40 dX2_turnPlaces_95 (sg_1 hS) rfl ?_
      refine x_icmp_ge 169 dX2_turnPlaces_98 (by decide) (fun hc_ => absurd hc_ (by show ¬ M 1 1 ≤ nI r; rw [hh]; exact nI_ge hrh (by omega))) (fun _ => ?_)
      refine x_aload_n dX2_turnPlaces_101 rfl ?_
      refine x_iload_n dX2_turnPlaces_102 rfl ?_
      refine x_iload_n dX2_turnPlaces_103 rfl ?_
      refine x_cvd mf_X2_standing ml_X2_72 dX2_turnPlaces_104 rfl (sg_1 hS) rfl ⟨by decide, by decide⟩ (Nat.le_of_ble_eq_true rfl) ⟨rfl, rfl⟩ ⟨Nat.le_of_ble_eq_true rfl, Nat.le_of_ble_eq_true rfl⟩ (c_sN hS (g0 _) (g1 _) r c) ?_
      refine x_istore dX2_turnPlaces_107 (by decide) ?_
      refine x_aload_n dX2_turnPlaces_109 rfl ?_
      refine x_getr fl_X2_27 dX2_turnPlaces_110 (sg_1 hS) rfl ?_
      refine x_iload dX2_turnPlaces_113 rfl ?_
      refine x_aload_n dX2_turnPlaces_115 rfl ?_
      refine x_iload_n dX2_turnPlaces_116 rfl ?_
      refine x_aload_n dX2_turnPlaces_117 rfl ?_
      refine x_geti fl_X2_36 dX2_turnPlaces_118 (sg_1 hS) rfl ?_
      refine x_iload_n dX2_turnPlaces_121 rfl ?_
      refine x_isub dX2_turnPlaces_122 ?_
      rw [g0, pk_sub hc]
      refine x_cvd mf_X2_standing ml_X2_72 dX2_turnPlaces_123 rfl (sg_1 hS) rfl ⟨by decide, by decide⟩ (Nat.le_of_ble_eq_true rfl) ⟨rfl, rfl⟩ ⟨Nat.le_of_ble_eq_true rfl, Nat.le_of_ble_eq_true rfl⟩ (c_sN hS (g0 _) (g1 _) r (w - c)) ?_
      refine x_iast dX2_turnPlaces_126 (sg_7 hS) rfl hlt (by decide) ?_
      rw [tp_7]
      refine x_aload_n dX2_turnPlaces_127 rfl ?_
      refine x_getr fl_X2_30 dX2_turnPlaces_128 (sg_1 hS) rfl ?_
      refine x_iload dX2_turnPlaces_131 rfl ?_
      refine x_aload_n dX2_turnPlaces_133 rfl ?_
      refine x_aload_n dX2_turnPlaces_134 rfl ?_
      refine x_geti fl_X2_40 dX2_turnPlaces_135 (sg_1 hS) rfl ?_
      refine x_iconst (v := 1) dX2_turnPlaces_138 (by decide) ?_
      refine x_isub dX2_turnPlaces_139 ?_
      refine x_iload_n dX2_turnPlaces_140 rfl ?_
      refine x_isub dX2_turnPlaces_141 ?_
      refine x_iload_n dX2_turnPlaces_142 rfl ?_
      rw [g1, show (1 : Int32) = nI 1 from rfl, pk_sub (show 1 ≤ h by omega), pk_sub (show r ≤ h - 1 by omega)]
      refine x_cvd mf_X2_standing ml_X2_72 dX2_turnPlaces_143 rfl (sg_1 hS) rfl ⟨by decide, by decide⟩ (Nat.le_of_ble_eq_true rfl) ⟨rfl, rfl⟩ ⟨Nat.le_of_ble_eq_true rfl, Nat.le_of_ble_eq_true rfl⟩ (c_sN hS (g0 _) (g1 _) (h - 1 - r) c) ?_
      refine x_iast dX2_turnPlaces_146 (sg_8 hS) rfl hlt (by decide) ?_
      rw [tp_8]
      refine x_aload_n dX2_turnPlaces_147 rfl ?_
      refine x_getr fl_X2_33 dX2_turnPlaces_148 (sg_1 hS) rfl ?_
      refine x_iload dX2_turnPlaces_151 rfl ?_
      refine x_iload_n dX2_turnPlaces_153 rfl ?_
      refine x_if_eq 166 dX2_turnPlaces_154 (by decide) (fun hc_ => absurd hc_ (by decide)) (fun _ => ?_)
      refine x_aload_n dX2_turnPlaces_157 rfl ?_
      refine x_iload_n dX2_turnPlaces_158 rfl ?_
      refine x_iload_n dX2_turnPlaces_159 rfl ?_
      refine x_cvd mf_X2_across ml_X2_69 dX2_turnPlaces_160 rfl (sg_1 hS) rfl ⟨by decide, by decide⟩ (Nat.le_of_ble_eq_true rfl) ⟨rfl, rfl⟩ ⟨Nat.le_of_ble_eq_true rfl, Nat.le_of_ble_eq_true rfl⟩ (c_aN hS (g0 _) c r) ?_
      refine x_goto 168 dX2_turnPlaces_163 (by decide) ?_
      refine x_iast dX2_turnPlaces_168 (sg_9 hS) rfl hlt (by decide) ?_
      exact x_ret dX2_turnPlaces_169 rfl (Nat.le_refl _) (Nat.le_refl _) ⟨rfl, ⟨rfl, tp_9 _ _ _ _⟩⟩
    · rw [decide_eq_false he, if_neg he]
      refine x_iload_n dX2_turnPlaces_93 rfl ?_
      refine x_aload_n dX2_turnPlaces_94 rfl ?_
      refine x_geti fl_X2_40 dX2_turnPlaces_95 (sg_1 hS) rfl ?_
      refine x_icmp_ge 169 dX2_turnPlaces_98 (by decide) (fun hc_ => absurd hc_ (by show ¬ M 1 1 ≤ nI r; rw [hh]; exact nI_ge hrh (by omega))) (fun _ => ?_)
      refine x_aload_n dX2_turnPlaces_101 rfl ?_
      refine x_iload_n dX2_turnPlaces_102 rfl ?_
      refine x_iload_n dX2_turnPlaces_103 rfl ?_
      refine x_cvd mf_X2_standing ml_X2_72 dX2_turnPlaces_104 rfl (sg_1 hS) rfl ⟨by decide, by decide⟩ (Nat.le_of_ble_eq_true rfl) ⟨rfl, rfl⟩ ⟨Nat.le_of_ble_eq_true rfl, Nat.le_of_ble_eq_true rfl⟩ (c_sN hS (g0 _) (g1 _) r c) ?_
      refine x_istore dX2_turnPlaces_107 (by decide) ?_
      refine x_aload_n dX2_turnPlaces_109 rfl ?_
      refine x_getr fl_X2_27 dX2_turnPlaces_110 (sg_1 hS) rfl ?_
      refine x_iload dX2_turnPlaces_113 rfl ?_
      refine x_aload_n dX2_turnPlaces_115 rfl ?_
      refine x_iload_n dX2_turnPlaces_116 rfl ?_
      refine x_aload_n dX2_turnPlaces_117 rfl ?_
      refine x_geti fl_X2_36 dX2_turnPlaces_118 (sg_1 hS) rfl ?_
      refine x_iload_n dX2_turnPlaces_121 rfl ?_
      refine x_isub dX2_turnPlaces_122 ?_
      rw [g0, pk_sub hc]
      refine x_cvd mf_X2_standing ml_X2_72 dX2_turnPlaces_123 rfl (sg_1 hS) rfl ⟨by decide, by decide⟩ (Nat.le_of_ble_eq_true rfl) ⟨rfl, rfl⟩ ⟨Nat.le_of_ble_eq_true rfl, Nat.le_of_ble_eq_true rfl⟩ (c_sN hS (g0 _) (g1 _) r (w - c)) ?_
      refine x_iast dX2_turnPlaces_126 (sg_7 hS) rfl hlt (by decide) ?_
      rw [tp_7]
      refine x_aload_n dX2_turnPlaces_127 rfl ?_
      refine x_getr fl_X2_30 dX2_turnPlaces_128 (sg_1 hS) rfl ?_
      refine x_iload dX2_turnPlaces_131 rfl ?_
      refine x_aload_n dX2_turnPlaces_133 rfl ?_
      refine x_aload_n dX2_turnPlaces_134 rfl ?_
      refine x_geti fl_X2_40 dX2_turnPlaces_135 (sg_1 hS) rfl ?_
      refine x_iconst (v := 1) dX2_turnPlaces_138 (by decide) ?_
      refine x_isub dX2_turnPlaces_139 ?_
      refine x_iload_n dX2_turnPlaces_140 rfl ?_
      refine x_isub dX2_turnPlaces_141 ?_
      refine x_iload_n dX2_turnPlaces_142 rfl ?_
      rw [g1, show (1 : Int32) = nI 1 from rfl, pk_sub (show 1 ≤ h by omega), pk_sub (show r ≤ h - 1 by omega)]
      refine x_cvd mf_X2_standing ml_X2_72 dX2_turnPlaces_143 rfl (sg_1 hS) rfl ⟨by decide, by decide⟩ (Nat.le_of_ble_eq_true rfl) ⟨rfl, rfl⟩ ⟨Nat.le_of_ble_eq_true rfl, Nat.le_of_ble_eq_true rfl⟩ (c_sN hS (g0 _) (g1 _) (h - 1 - r) c) ?_
      refine x_iast dX2_turnPlaces_146 (sg_8 hS) rfl hlt (by decide) ?_
      rw [tp_8]
      refine x_aload_n dX2_turnPlaces_147 rfl ?_
      refine x_getr fl_X2_33 dX2_turnPlaces_148 (sg_1 hS) rfl ?_
      refine x_iload dX2_turnPlaces_151 rfl ?_
      refine x_iload_n dX2_turnPlaces_153 rfl ?_
      refine x_if_eq 166 dX2_turnPlaces_154 (by decide) (fun _ => ?_) (fun hc_ => absurd (rfl) hc_)
      refine x_iload dX2_turnPlaces_166 rfl ?_
      refine x_iast dX2_turnPlaces_168 (sg_9 hS) rfl hlt (by decide) ?_
      exact x_ret dX2_turnPlaces_169 rfl (Nat.le_refl _) (Nat.le_refl _) ⟨rfl, ⟨rfl, tp_9 _ _ _ _⟩⟩
  · rw [tpB, if_neg hrh]
    refine x_iload_n dX2_turnPlaces_93 rfl ?_
    refine x_aload_n dX2_turnPlaces_94 rfl ?_
    refine x_geti fl_X2_40 dX2_turnPlaces_95 (sg_1 hS) rfl ?_
    refine x_icmp_ge 169 dX2_turnPlaces_98 (by decide) (fun _ => ?_) (fun hc_ => absurd (by show M 1 1 ≤ nI r; rw [hh]; exact nI_le (by omega) (by omega)) hc_)
    exact x_ret dX2_turnPlaces_169 rfl (Nat.le_refl _) (Nat.le_refl _) ⟨rfl, ⟨rfl, rfl⟩⟩
theorem c_turnPlaces {S : List Ds} {M : Mm} {w h : Nat} (hS : ShG S) (r c : Nat) (x : T3) (hw : M 1 0 = nI w) (hw4 : w ≤ 4) (hh : M 1 1 = nI h) (hh3 : h ≤ 3) (hr : r ≤ h) (hc : c ≤ w) : Ct mX2_turnPlaces [.ref 1, .int (nI r), .int (nI c)] S (tpM M x) (Rt none (tpM M (tpS w h r c x))) := by
  have fin := tp_a (Q := fun r' S' M' => S' = S ∧ Rt none (tpM M (tpS w h r c x)) r' M') (r := r) (c := c) (l4 := none) hS x hw hw4 hh hh3 hr hc (fun l4 => tp_b hS _ hw hw4 hh hh3 hr hc)
  refine Ct.of (by decide) (Nat.le_of_ble_eq_true rfl) ?_
  by_cases he : w = h
  · rw [decide_eq_true he] at fin
    refine x_aload_n dX2_turnPlaces_0 rfl ?_
    refine x_geti fl_X2_36 dX2_turnPlaces_1 (sg_1 hS) rfl ?_
    refine x_aload_n dX2_turnPlaces_4 rfl ?_
    refine x_geti fl_X2_40 dX2_turnPlaces_5 (sg_1 hS) rfl ?_
    refine x_icmp_ne 15 dX2_turnPlaces_8 (by decide) (fun hc_ => absurd (by show M 1 0 = M 1 1; rw [hw, hh, he]) hc_) (fun _ => ?_)
    refine x_iconst (v := 1) dX2_turnPlaces_11 (by decide) ?_
    refine x_goto 16 dX2_turnPlaces_12 (by decide) ?_
    refine x_istore_n dX2_turnPlaces_16 (by decide) ?_
    exact fin
  · rw [decide_eq_false he] at fin
    refine x_aload_n dX2_turnPlaces_0 rfl ?_
    refine x_geti fl_X2_36 dX2_turnPlaces_1 (sg_1 hS) rfl ?_
    refine x_aload_n dX2_turnPlaces_4 rfl ?_
    refine x_geti fl_X2_40 dX2_turnPlaces_5 (sg_1 hS) rfl ?_
    refine x_icmp_ne 15 dX2_turnPlaces_8 (by decide) (fun _ => ?_) (fun hc_ => absurd hc_ (by show ¬ M 1 0 = M 1 1; rw [hw, hh]; exact fun q => he ((nI_eq (by omega) (by omega)).mp q)))
    refine x_iconst (v := 0) dX2_turnPlaces_15 (by decide) ?_
    refine x_istore_n dX2_turnPlaces_16 (by decide) ?_
    exact fin
def tpC (w h r : Nat) (x : T3) : Nat → T3
  | 0 => x
  | c + 1 => tpS w h r c (tpC w h r x c)
def tpR (w h : Nat) (x : T3) : Nat → T3
  | 0 => x
  | r + 1 => tpC w h r (tpR w h x r) (w + 1)
theorem tpC_s (w h r : Nat) (x : T3) (c : Nat) : tpC w h r x (c + 1) = tpS w h r c (tpC w h r x c) := rfl
theorem tpR_s (w h : Nat) (x : T3) (r : Nat) : tpR w h x (r + 1) = tpC w h r (tpR w h x r) (w + 1) := rfl
def gS (w h : Nat) (x : Gx) : Nat → Gx
  | 0 => x
  | k + 1 => gR (k + 1) w ((gS w h x k).1, upd (gS w h x k).2 (k + 1) 0) (h + 1 - (k + 1))
theorem gS_s (w h : Nat) (x : Gx) (k : Nat) : gS w h x (k + 1) = gR (k + 1) w ((gS w h x k).1, upd (gS w h x k).2 (k + 1) 0) (h + 1 - (k + 1)) := rfl
theorem gS_len (w h : Nat) (os : Nat → Int32) (hw : w ≤ 4) (hh : h ≤ 3) : (gS w h ([], os) 0).1.length = 0 ∧ (gS w h ([], os) 1).1.length ≤ 12 ∧ (gS w h ([], os) 2).1.length ≤ 18 ∧ (gS w h ([], os) 3).1.length ≤ 20 := by
  have l1 : (gS w h ([], os) 1).1.length = h * w := by rw [gS_s, gR_len]; show 0 + (h + 1 - (0 + 1)) * (w + 1 - (0 + 1)) = _; rw [Nat.zero_add]; congr 1
  have l2 : (gS w h ([], os) 2).1.length = h * w + (h + 1 - 2) * (w + 1 - 2) := by rw [gS_s, gR_len]; show (gS w h ([], os) 1).1.length + _ = _; rw [l1]
  have l3 : (gS w h ([], os) 3).1.length = h * w + (h + 1 - 2) * (w + 1 - 2) + (h + 1 - 3) * (w + 1 - 3) := by rw [gS_s, gR_len]; show (gS w h ([], os) 2).1.length + _ = _; rw [l2]
  have m1 := Nat.mul_le_mul hh hw
  have m2 := Nat.mul_le_mul (show h + 1 - 2 ≤ 2 by omega) (show w + 1 - 2 ≤ 3 by omega)
  have m3 := Nat.mul_le_mul (show h + 1 - 3 ≤ 1 by omega) (show w + 1 - 3 ≤ 2 by omega)
  exact ⟨rfl, by omega, by omega, by omega⟩
theorem gS_room (w h : Nat) (os : Nat → Int32) (hw : w ≤ 4) (hh : h ≤ 3) (k : Nat) (hk : k < 3) : (gS w h ([], os) k).1.length + (h + 1 - (k + 1)) * (w + 1 - (k + 1)) ≤ 20 := by
  have h1 := gR_len (k + 1) w ((gS w h ([], os) k).1, upd (gS w h ([], os) k).2 (k + 1) 0) (h + 1 - (k + 1))
  rw [← gS_s] at h1
  have h2 := gS_len w h os hw hh
  rw [show (gS w h ([], os) k).1.length + (h + 1 - (k + 1)) * (w + 1 - (k + 1)) = (gS w h ([], os) (k + 1)).1.length from h1.symm]
  clear h1
  rcases (show k = 0 ∨ k = 1 ∨ k = 2 by omega) with rfl | rfl | rfl
  · exact Nat.le_trans h2.2.1 (by decide)
  · exact Nat.le_trans h2.2.2.1 (by decide)
  · exact h2.2.2.2
/-- wide, high and matches are set -/
def foM (M : Mm) (w h : Nat) : Mm := up2 (up2 (up2 M 1 0 (nI w)) 1 1 (nI h)) 1 2 (nI (w * (h + 1) + h * (w + 1)))
def fmM (M : Mm) (w h : Nat) : Mm := tpM (gdM (foM M w h) (gS w h ([], M 6) 3)) (tpR w h (M 7, M 8, M 9) (h + 1))
theorem gd_6 (M : Mm) (x : Gx) (k : Nat) (v : Int32) : up2 (gdM M x) 6 k v = gdM M (x.1, upd x.2 k v) := by rw [gdM, gdM, up2_upr2]
theorem gd_e (M : Mm) : up2 M 1 3 0 = upr (upr (upr (upr (upr (up2 M 1 3 (nI 0)) 2 (M 2)) 3 (M 3)) 4 (M 4)) 5 (M 5)) 6 (M 6) := by
  rw [show M 2 = (up2 M 1 3 (nI 0)) 2 from rfl, upr_self, show M 3 = (up2 M 1 3 (nI 0)) 3 from rfl, upr_self, show M 4 = (up2 M 1 3 (nI 0)) 4 from rfl, upr_self, show M 5 = (up2 M 1 3 (nI 0)) 5 from rfl, upr_self, show M 6 = (up2 M 1 3 (nI 0)) 6 from rfl, upr_self]
  rfl
theorem c_form {S : List Ds} {M : Mm} (hS : ShG S) (w h : Nat) (hw4 : w ≤ 4) (hh3 : h ≤ 3) : Ct mX2_form [.ref 1, .int (nI w), .int (nI h)] S M (Rt none (fmM M w h)) := by
  have cp := c_placesOf (S := S) (M := up2 (up2 M 1 0 (nI w)) 1 1 (nI h)) (nI w) (nI h)
  rw [nI_1, nI_1, nI_mulN, nI_mulN, nI_add] at cp
  have fin : ∀ l4, XW mX2_form (Fc mX2_form (fun r S' M' => S' = S ∧ Rt none (fmM M w h) r M')) 0 0 S (gdM (foM M w h) (gS w h ([], M 6) 3)) 57 [some (.ref 1), some (.int (nI w)), some (.int (nI h)), some (.int (nI 0)), l4] [] := by
    generalize hX : gdM (foM M w h) (gS w h ([], M 6) 3) = X
    have x0 : X 1 0 = nI w := by rw [← hX]; rfl
    have x1 : X 1 1 = nI h := by rw [← hX]; rfl
    have x7 : X = tpM X (tpR w h (M 7, M 8, M 9) 0) := by
      rw [tpM, show (tpR w h (M 7, M 8, M 9) 0).1 = X 7 by rw [← hX]; rfl, upr_self, show (tpR w h (M 7, M 8, M 9) 0).2.1 = X 8 by rw [← hX]; rfl, upr_self, show (tpR w h (M 7, M 8, M 9) 0).2.2 = X 9 by rw [← hX]; rfl, upr_self]
    have xe : fmM M w h = tpM X (tpR w h (M 7, M 8, M 9) (h + 1)) := by rw [← hX]; rfl
    rw [xe]
    clear hX
    intro l4
    refine x_eq (M := tpM X (tpR w h (M 7, M 8, M 9) 0)) x7 rfl rfl rfl ?_
    refine (lup (P := fun r => ∀ l4, XW mX2_form (Fc mX2_form (fun r S' M' => S' = S ∧ Rt none (tpM X (tpR w h (M 7, M 8, M 9) (h + 1))) r M')) 0 0 S (tpM X (tpR w h (M 7, M 8, M 9) r)) 57 [some (.ref 1), some (.int (nI w)), some (.int (nI h)), some (.int (nI r)), l4] []) (N := h + 1) ?_ ?_ 0 (by omega)) l4
    · intro l4
      refine x_iload_n dX2_form_57 rfl ?_
      refine x_aload_n dX2_form_58 rfl ?_
      refine x_geti fl_X2_40 dX2_form_59 (sg_1 hS) rfl ?_
      refine x_icmp_gt 96 dX2_form_62 (by decide) (fun _ => ?_) (fun hc_ => absurd (by show X 1 1 < nI (h + 1); rw [x1]; exact nI_lt (by omega) (by omega)) hc_)
      exact x_ret dX2_form_96 rfl (Nat.le_refl _) (Nat.le_refl _) ⟨rfl, ⟨rfl, rfl⟩⟩
    · intro r hr ih l4
      rw [nI_succ r, tpR_s _ _ _ r] at ih
      generalize tpR w h (M 7, M 8, M 9) r = y at ih ⊢
      have loop := lup (P := fun c => XW mX2_form (Fc mX2_form (fun r S' M' => S' = S ∧ Rt none (tpM X (tpR w h (M 7, M 8, M 9) (h + 1))) r M')) 0 0 S (tpM X (tpC w h r y c)) 68 [some (.ref 1), some (.int (nI w)), some (.int (nI h)), some (.int (nI r)), some (.int (nI c))] []) (N := w + 1) ?_ ?_ 0 (by omega)
      · refine x_iload_n dX2_form_57 rfl ?_
        refine x_aload_n dX2_form_58 rfl ?_
        refine x_geti fl_X2_40 dX2_form_59 (sg_1 hS) rfl ?_
        refine x_icmp_gt 96 dX2_form_62 (by decide) (fun hc_ => absurd hc_ (by show ¬ X 1 1 < nI r; rw [x1]; exact nI_nlt (by omega) (by omega))) (fun _ => ?_)
        refine x_iconst (v := 0) dX2_form_65 (by decide) ?_
        refine x_istore dX2_form_66 (by decide) ?_
        exact loop
      · refine x_iload dX2_form_68 rfl ?_
        refine x_aload_n dX2_form_70 rfl ?_
        refine x_geti fl_X2_36 dX2_form_71 (sg_1 hS) rfl ?_
        refine x_icmp_gt 90 dX2_form_74 (by decide) (fun _ => ?_) (fun hc_ => absurd (by show X 1 0 < nI (w + 1); rw [x0]; exact nI_lt (by omega) (by omega)) hc_)
        refine x_iinc1 dX2_form_90 rfl (by decide) ?_
        refine x_goto 57 dX2_form_93 (by decide) ?_
        exact ih _
      · intro c hc ihc
        rw [nI_succ c, tpC_s _ _ _ _ c] at ihc
        refine x_iload dX2_form_68 rfl ?_
        refine x_aload_n dX2_form_70 rfl ?_
        refine x_geti fl_X2_36 dX2_form_71 (sg_1 hS) rfl ?_
        refine x_icmp_gt 90 dX2_form_74 (by decide) (fun hc_ => absurd hc_ (by show ¬ X 1 0 < nI c; rw [x0]; exact nI_nlt (by omega) (by omega))) (fun _ => ?_)
        refine x_aload_n dX2_form_77 rfl ?_
        refine x_iload_n dX2_form_78 rfl ?_
        refine x_iload dX2_form_79 rfl ?_
        refine x_cvd mf_X2_turnPlaces ml_X2_57 dX2_form_81 rfl (sg_1 hS) rfl ⟨by decide, by decide⟩ (Nat.le_of_ble_eq_true rfl) ⟨rfl, rfl⟩ ⟨Nat.le_of_ble_eq_true rfl, Nat.le_of_ble_eq_true rfl⟩ (c_turnPlaces hS r c _ x0 hw4 x1 hh3 (by omega) (by omega)) ?_
        refine x_iinc1 dX2_form_84 rfl (by decide) ?_
        refine x_goto 68 dX2_form_87 (by decide) ?_
        exact ihc
  refine Ct.of (by decide) (Nat.le_of_ble_eq_true rfl) ?_
  refine x_aload_n dX2_form_0 rfl ?_
  refine x_iload_n dX2_form_1 rfl ?_
  refine x_put fl_X2_36 dX2_form_2 (sg_1 hS) rfl rfl rfl ?_
  refine x_aload_n dX2_form_5 rfl ?_
  refine x_iload_n dX2_form_6 rfl ?_
  refine x_put fl_X2_40 dX2_form_7 (sg_1 hS) rfl rfl rfl ?_
  refine x_aload_n dX2_form_10 rfl ?_
  refine x_aload_n dX2_form_11 rfl ?_
  refine x_geti fl_X2_36 dX2_form_12 (sg_1 hS) rfl ?_
  refine x_aload_n dX2_form_15 rfl ?_
  refine x_geti fl_X2_40 dX2_form_16 (sg_1 hS) rfl ?_
  refine x_csd mf_X2_placesOf ml_X2_43 dX2_form_19 rfl ⟨by decide, by decide⟩ (Nat.le_of_ble_eq_true rfl) ⟨rfl, rfl⟩ ⟨Nat.le_of_ble_eq_true rfl, Nat.le_of_ble_eq_true rfl⟩ (cp) ?_
  refine x_put fl_X2_47 dX2_form_22 (sg_1 hS) rfl rfl rfl ?_
  refine x_aload_n dX2_form_25 rfl ?_
  refine x_iconst (v := 0) dX2_form_26 (by decide) ?_
  refine x_put fl_X2_50 dX2_form_27 (sg_1 hS) rfl rfl rfl ?_
  refine x_iconst (v := 1) dX2_form_30 (by decide) ?_
  refine x_istore_n dX2_form_31 (by decide) ?_
  refine x_eq (M := gdM (foM M w h) (gS w h ([], M 6) 0)) (by rw [gdM]; show _ = upr (upr (upr (upr (upr (up2 (foM M w h) 1 3 (nI 0)) 2 (rowL [] (M 2))) 3 (rowL [] (M 3))) 4 (rowL [] (M 4))) 5 (rowL [] (M 5))) 6 (M 6); rw [rowL_0, rowL_0, rowL_0, rowL_0]; exact gd_e (foM M w h)) rfl rfl rfl ?_
  refine lup (P := fun k => XW _ _ 0 0 S (gdM (foM M w h) (gS w h ([], M 6) k)) 32 [some (.ref 1), some (.int (nI w)), some (.int (nI h)), some (.int (nI (k + 1))), none] []) (N := 3) ?_ ?_ 0 (by omega)
  · refine x_iload_n dX2_form_32 rfl ?_
    refine x_iconst (v := 3) dX2_form_33 (by decide) ?_
    refine x_icmp_gt 55 dX2_form_34 (by decide) (fun _ => ?_) (fun hc_ => absurd (by decide) hc_)
    refine x_iconst (v := 0) dX2_form_55 (by decide) ?_
    refine x_istore_n dX2_form_56 (by decide) ?_
    exact fin _
  · intro k hk ih
    have hroom := gS_room w h (M 6) hw4 hh3 k hk
    rw [nI_succ (k + 1), gS_s _ _ _ k] at ih
    generalize gS w h ([], M 6) k = x at ih hroom ⊢
    refine x_iload_n dX2_form_32 rfl ?_
    refine x_iconst (v := 3) dX2_form_33 (by decide) ?_
    refine x_icmp_gt 55 dX2_form_34 (by decide) (fun hc_ => absurd hc_ (nI_nlt (b := k + 1) (a := 3) (by omega) (by decide))) (fun _ => ?_)
    refine x_aload_n dX2_form_37 rfl ?_
    refine x_getr fl_X2_24 dX2_form_38 (sg_1 hS) rfl ?_
    refine x_iload_n dX2_form_41 rfl ?_
    refine x_iconst (v := 0) dX2_form_42 (by decide) ?_
    refine x_iast dX2_form_43 (sg_6 hS) rfl (by omega) (by decide) ?_
    rw [gd_6]
    refine x_aload_n dX2_form_44 rfl ?_
    refine x_iload_n dX2_form_45 rfl ?_
    refine x_cvd mf_X2_addSquares ml_X2_53 dX2_form_46 rfl (sg_1 hS) rfl ⟨by decide, by decide⟩ (Nat.le_of_ble_eq_true rfl) ⟨rfl, rfl⟩ ⟨Nat.le_of_ble_eq_true rfl, Nat.le_of_ble_eq_true rfl⟩ (c_addSquares (w := w) (h := h) hS (k + 1) _ (by omega) (by omega) rfl hw4 rfl hh3 hroom) ?_
    refine x_iinc1 dX2_form_49 rfl (by decide) ?_
    refine x_goto 32 dX2_form_52 (by decide) ?_
    exact ih
