/-! ===== the reference: names, lines, the text ===== -/
theorem sub_nI {a b : Nat} (h : b ≤ a) : nI a - nI b = nI (a - b) := by
  have := nI_add (a - b) b
  rw [show a - b + b = a by omega] at this
  rw [← this, Int32.add_sub_cancel]
theorem c_m_is {Z : List (Option Nat)} {ext : List Ds} {M : Mm} {n s e : Nat} (a b c d : Int32) (h19 : M 48 19 = nI n) (hn : n ≤ 320) (h20 : M 48 20 = nI e) (h21 : M 48 21 = nI s) (hse : s ≤ e) (he : e ≤ n) : Ct mX10_is [.ref 48, .int a, .int b, .int c, .int d] (SS Z ext) M (Rt (some (.int (b2i (nmI (M 57) s e a b c d)))) M) := by
  have hdif : M 48 20 - M 48 21 = nI (e - s) := by rw [h20, h21, sub_nI hse]
  by_cases h4 : e - s = 4
  · have l0 := c_m_look (Z := Z) (ext := ext) (M := M) (n := n) (p := s) h19 hn (by omega)
    have l1 := c_m_look (Z := Z) (ext := ext) (M := M) (n := n) (p := s + 1) h19 hn (by omega)
    have l2 := c_m_look (Z := Z) (ext := ext) (M := M) (n := n) (p := s + 2) h19 hn (by omega)
    have l3 := c_m_look (Z := Z) (ext := ext) (M := M) (n := n) (p := s + 3) h19 hn (by omega)
    rw [lkv_in (by omega)] at l0 l1 l2 l3
    have e1 : nI s + 1 = nI (s + 1) := nI_add s 1
    have e2 : nI s + 2 = nI (s + 2) := nI_add s 2
    have e3 : nI s + 3 = nI (s + 3) := nI_add s 3
    refine Ct.of (by decide) (Nat.le_of_ble_eq_true rfl) ?_
    refine x_aload_n dX10_is_0 rfl ?_
    refine x_geti fl_X10_147 dX10_is_1 sf_48 rfl ?_
    refine x_aload_n dX10_is_4 rfl ?_
    refine x_geti fl_X10_141 dX10_is_5 sf_48 rfl ?_
    refine x_isub dX10_is_8 ?_
    rw [hdif]
    refine x_iconst (v := 4) dX10_is_9 (by decide) ?_
    refine x_icmp_ne 72 dX10_is_10 (by decide) (fun hc_ => absurd (by rw [h4]; rfl) hc_) (fun _ => ?_)
    refine x_aload_n dX10_is_13 rfl ?_
    refine x_aload_n dX10_is_14 rfl ?_
    refine x_geti fl_X10_141 dX10_is_15 sf_48 rfl ?_
    rw [h21]
    refine x_cvd mf_X10_look ml_X10_150 dX10_is_18 rfl sf_48 rfl ⟨by decide, by decide⟩ (Nat.le_of_ble_eq_true rfl) ⟨rfl, rfl⟩ ⟨Nat.le_of_ble_eq_true rfl, Nat.le_of_ble_eq_true rfl⟩ (l0) ?_
    refine x_iload_n dX10_is_21 rfl ?_
    refine x_icmp_ne 72 dX10_is_22 (by decide) (fun h22 => ?_) (fun h22 => ?_)
    · refine x_iconst (v := 0) dX10_is_72 (by decide) ?_
      exact x_iret dX10_is_73 rfl rfl (Nat.le_refl _) (Nat.le_refl _) ⟨rfl, ⟨oi (by simp_all [b2i, nmI]), rfl⟩⟩
    · refine x_aload_n dX10_is_25 rfl ?_
      refine x_aload_n dX10_is_26 rfl ?_
      refine x_geti fl_X10_141 dX10_is_27 sf_48 rfl ?_
      refine x_iconst (v := 1) dX10_is_30 (by decide) ?_
      refine x_iadd dX10_is_31 ?_
      rw [h21, e1]
      refine x_cvd mf_X10_look ml_X10_150 dX10_is_32 rfl sf_48 rfl ⟨by decide, by decide⟩ (Nat.le_of_ble_eq_true rfl) ⟨rfl, rfl⟩ ⟨Nat.le_of_ble_eq_true rfl, Nat.le_of_ble_eq_true rfl⟩ (l1) ?_
      refine x_iload_n dX10_is_35 rfl ?_
      refine x_icmp_ne 72 dX10_is_36 (by decide) (fun h36 => ?_) (fun h36 => ?_)
      · refine x_iconst (v := 0) dX10_is_72 (by decide) ?_
        exact x_iret dX10_is_73 rfl rfl (Nat.le_refl _) (Nat.le_refl _) ⟨rfl, ⟨oi (by simp_all [b2i, nmI]), rfl⟩⟩
      · refine x_aload_n dX10_is_39 rfl ?_
        refine x_aload_n dX10_is_40 rfl ?_
        refine x_geti fl_X10_141 dX10_is_41 sf_48 rfl ?_
        refine x_iconst (v := 2) dX10_is_44 (by decide) ?_
        refine x_iadd dX10_is_45 ?_
        rw [h21, e2]
        refine x_cvd mf_X10_look ml_X10_150 dX10_is_46 rfl sf_48 rfl ⟨by decide, by decide⟩ (Nat.le_of_ble_eq_true rfl) ⟨rfl, rfl⟩ ⟨Nat.le_of_ble_eq_true rfl, Nat.le_of_ble_eq_true rfl⟩ (l2) ?_
        refine x_iload_n dX10_is_49 rfl ?_
        refine x_icmp_ne 72 dX10_is_50 (by decide) (fun h50 => ?_) (fun h50 => ?_)
        · refine x_iconst (v := 0) dX10_is_72 (by decide) ?_
          exact x_iret dX10_is_73 rfl rfl (Nat.le_refl _) (Nat.le_refl _) ⟨rfl, ⟨oi (by simp_all [b2i, nmI]), rfl⟩⟩
        · refine x_aload_n dX10_is_53 rfl ?_
          refine x_aload_n dX10_is_54 rfl ?_
          refine x_geti fl_X10_141 dX10_is_55 sf_48 rfl ?_
          refine x_iconst (v := 3) dX10_is_58 (by decide) ?_
          refine x_iadd dX10_is_59 ?_
          rw [h21, e3]
          refine x_cvd mf_X10_look ml_X10_150 dX10_is_60 rfl sf_48 rfl ⟨by decide, by decide⟩ (Nat.le_of_ble_eq_true rfl) ⟨rfl, rfl⟩ ⟨Nat.le_of_ble_eq_true rfl, Nat.le_of_ble_eq_true rfl⟩ (l3) ?_
          refine x_iload dX10_is_63 rfl ?_
          refine x_icmp_ne 72 dX10_is_65 (by decide) (fun h65 => ?_) (fun h65 => ?_)
          · refine x_iconst (v := 0) dX10_is_72 (by decide) ?_
            exact x_iret dX10_is_73 rfl rfl (Nat.le_refl _) (Nat.le_refl _) ⟨rfl, ⟨oi (by simp_all [b2i, nmI]), rfl⟩⟩
          · refine x_iconst (v := 1) dX10_is_68 (by decide) ?_
            refine x_goto 73 dX10_is_69 (by decide) ?_
            exact x_iret dX10_is_73 rfl rfl (Nat.le_refl _) (Nat.le_refl _) ⟨rfl, ⟨oi (by simp_all [b2i, nmI]), rfl⟩⟩
  · refine Ct.of (by decide) (Nat.le_of_ble_eq_true rfl) ?_
    refine x_aload_n dX10_is_0 rfl ?_
    refine x_geti fl_X10_147 dX10_is_1 sf_48 rfl ?_
    refine x_aload_n dX10_is_4 rfl ?_
    refine x_geti fl_X10_141 dX10_is_5 sf_48 rfl ?_
    refine x_isub dX10_is_8 ?_
    rw [hdif]
    refine x_iconst (v := 4) dX10_is_9 (by decide) ?_
    refine x_icmp_ne 72 dX10_is_10 (by decide) (fun _ => ?_) (fun hc_ => absurd hc_ (fun q => h4 ((nI_eq (a := e - s) (b := 4) (by omega) (by omega)).mp q)))
    refine x_iconst (v := 0) dX10_is_72 (by decide) ?_
    exact x_iret dX10_is_73 rfl rfl (Nat.le_refl _) (Nat.le_refl _) ⟨rfl, ⟨oi (by simp [b2i, nmI, h4]), rfl⟩⟩
def lnV (k : Nat) : Int32 := if k = 5 then -4 else nI k
theorem c_m_lineNow {Z : List (Option Nat)} {ext : List Ds} {M : Mm} {n s e : Nat} (h19 : M 48 19 = nI n) (hn : n ≤ 320) (h20 : M 48 20 = nI e) (h21 : M 48 21 = nI s) (hse : s ≤ e) (he : e ≤ n) : Ct mX10_lineNow [.ref 48] (SS Z ext) M (Rt (some (.int (lnV (nmK (M 57) s e)))) M) := by
  have c0 := c_m_is (Z := Z) (ext := ext) (M := M) (n := n) (s := s) (e := e) 103 114 105 100 h19 hn h20 h21 hse he
  have c1 := c_m_is (Z := Z) (ext := ext) (M := M) (n := n) (s := s) (e := e) 103 111 110 101 h19 hn h20 h21 hse he
  have c2 := c_m_is (Z := Z) (ext := ext) (M := M) (n := n) (s := s) (e := e) 99 111 115 116 h19 hn h20 h21 hse he
  have c3 := c_m_is (Z := Z) (ext := ext) (M := M) (n := n) (s := s) (e := e) 115 105 122 101 h19 hn h20 h21 hse he
  have c4 := c_m_is (Z := Z) (ext := ext) (M := M) (n := n) (s := s) (e := e) 115 101 101 110 h19 hn h20 h21 hse he
  unfold nmK
  refine Ct.of (by decide) (Nat.le_of_ble_eq_true rfl) ?_
  refine x_aload_n dX10_lineNow_0 rfl ?_
  refine x_bipush (v := 103) dX10_lineNow_1 (by decide) ?_
  refine x_bipush (v := 114) dX10_lineNow_3 (by decide) ?_
  refine x_bipush (v := 105) dX10_lineNow_5 (by decide) ?_
  refine x_bipush (v := 100) dX10_lineNow_7 (by decide) ?_
  refine x_cvd mf_X10_is ml_X10_154 dX10_lineNow_9 rfl sf_48 rfl ⟨by decide, by decide⟩ (Nat.le_of_ble_eq_true rfl) ⟨rfl, rfl⟩ ⟨Nat.le_of_ble_eq_true rfl, Nat.le_of_ble_eq_true rfl⟩ (c0) ?_
  refine x_ifb_eq 17 dX10_lineNow_12 (by decide) (fun h12 => ?_) (fun h12 => ?_)
  · refine x_aload_n dX10_lineNow_17 rfl ?_
    refine x_bipush (v := 103) dX10_lineNow_18 (by decide) ?_
    refine x_bipush (v := 111) dX10_lineNow_20 (by decide) ?_
    refine x_bipush (v := 110) dX10_lineNow_22 (by decide) ?_
    refine x_bipush (v := 101) dX10_lineNow_24 (by decide) ?_
    refine x_cvd mf_X10_is ml_X10_154 dX10_lineNow_26 rfl sf_48 rfl ⟨by decide, by decide⟩ (Nat.le_of_ble_eq_true rfl) ⟨rfl, rfl⟩ ⟨Nat.le_of_ble_eq_true rfl, Nat.le_of_ble_eq_true rfl⟩ (c1) ?_
    refine x_ifb_eq 34 dX10_lineNow_29 (by decide) (fun h29 => ?_) (fun h29 => ?_)
    · refine x_aload_n dX10_lineNow_34 rfl ?_
      refine x_bipush (v := 99) dX10_lineNow_35 (by decide) ?_
      refine x_bipush (v := 111) dX10_lineNow_37 (by decide) ?_
      refine x_bipush (v := 115) dX10_lineNow_39 (by decide) ?_
      refine x_bipush (v := 116) dX10_lineNow_41 (by decide) ?_
      refine x_cvd mf_X10_is ml_X10_154 dX10_lineNow_43 rfl sf_48 rfl ⟨by decide, by decide⟩ (Nat.le_of_ble_eq_true rfl) ⟨rfl, rfl⟩ ⟨Nat.le_of_ble_eq_true rfl, Nat.le_of_ble_eq_true rfl⟩ (c2) ?_
      refine x_ifb_eq 51 dX10_lineNow_46 (by decide) (fun h46 => ?_) (fun h46 => ?_)
      · refine x_aload_n dX10_lineNow_51 rfl ?_
        refine x_bipush (v := 115) dX10_lineNow_52 (by decide) ?_
        refine x_bipush (v := 105) dX10_lineNow_54 (by decide) ?_
        refine x_bipush (v := 122) dX10_lineNow_56 (by decide) ?_
        refine x_bipush (v := 101) dX10_lineNow_58 (by decide) ?_
        refine x_cvd mf_X10_is ml_X10_154 dX10_lineNow_60 rfl sf_48 rfl ⟨by decide, by decide⟩ (Nat.le_of_ble_eq_true rfl) ⟨rfl, rfl⟩ ⟨Nat.le_of_ble_eq_true rfl, Nat.le_of_ble_eq_true rfl⟩ (c3) ?_
        refine x_ifb_eq 70 dX10_lineNow_63 (by decide) (fun h63 => ?_) (fun h63 => ?_)
        · refine x_aload_n dX10_lineNow_70 rfl ?_
          refine x_bipush (v := 115) dX10_lineNow_71 (by decide) ?_
          refine x_bipush (v := 101) dX10_lineNow_73 (by decide) ?_
          refine x_bipush (v := 101) dX10_lineNow_75 (by decide) ?_
          refine x_bipush (v := 110) dX10_lineNow_77 (by decide) ?_
          refine x_cvd mf_X10_is ml_X10_154 dX10_lineNow_79 rfl sf_48 rfl ⟨by decide, by decide⟩ (Nat.le_of_ble_eq_true rfl) ⟨rfl, rfl⟩ ⟨Nat.le_of_ble_eq_true rfl, Nat.le_of_ble_eq_true rfl⟩ (c4) ?_
          refine x_ifb_eq 89 dX10_lineNow_82 (by decide) (fun h82 => ?_) (fun h82 => ?_)
          · refine x_bipush (v := -4) dX10_lineNow_89 (by decide) ?_
            exact x_iret dX10_lineNow_91 rfl rfl (Nat.le_refl _) (Nat.le_refl _) ⟨rfl, ⟨oi (by simp_all [lnV] <;> rfl), rfl⟩⟩
          · refine x_iconst (v := 4) dX10_lineNow_85 (by decide) ?_
            refine x_goto 91 dX10_lineNow_86 (by decide) ?_
            exact x_iret dX10_lineNow_91 rfl rfl (Nat.le_refl _) (Nat.le_refl _) ⟨rfl, ⟨oi (by simp_all [lnV] <;> rfl), rfl⟩⟩
        · refine x_iconst (v := 3) dX10_lineNow_66 (by decide) ?_
          refine x_goto 91 dX10_lineNow_67 (by decide) ?_
          exact x_iret dX10_lineNow_91 rfl rfl (Nat.le_refl _) (Nat.le_refl _) ⟨rfl, ⟨oi (by simp_all [lnV] <;> rfl), rfl⟩⟩
      · refine x_iconst (v := 2) dX10_lineNow_49 (by decide) ?_
        exact x_iret dX10_lineNow_50 rfl rfl (Nat.le_refl _) (Nat.le_refl _) ⟨rfl, ⟨oi (by simp_all [lnV] <;> rfl), rfl⟩⟩
    · refine x_iconst (v := 1) dX10_lineNow_32 (by decide) ?_
      exact x_iret dX10_lineNow_33 rfl rfl (Nat.le_refl _) (Nat.le_refl _) ⟨rfl, ⟨oi (by simp_all [lnV] <;> rfl), rfl⟩⟩
  · refine x_iconst (v := 0) dX10_lineNow_15 (by decide) ?_
    exact x_iret dX10_lineNow_16 rfl rfl (Nat.le_refl _) (Nat.le_refl _) ⟨rfl, ⟨oi (by simp_all [lnV] <;> rfl), rfl⟩⟩
abbrev lK (X : Ex (Dr × Nat)) (t : Nat → Int32) (n : Nat) (M : Mm) (k : Int32) (Z : List (Option Nat)) (ext : List Ds) : Prop := Ct mX10_readLineOf [.ref 48, .int k] (SS Z ext) M (exP X t n M)
theorem b2i_tt : b2i true = 1 := rfl
theorem numA_n4 {t : Nat → Int32} {n s : Nat} {lo hi : Int32} (hK : tK t n s = 4) : numA t n lo hi s = .inl (1, s) := by
  unfold numA
  rw [hK, if_neg (by decide)]
  rfl
theorem lG_RD {D : Dr} {M M2 M3 : Mm} {w h : Int32} (hD : RD D M) (hO2 : On48 (up2 M 48 16 1) M2) (hF2 : Frm (up2 M 48 16 1) M2) (hO3 : On48 (up2 M2 48 10 w) M3) (hF3 : Frm (up2 M2 48 10 w) M3) : RD ((w, h, true), D.2) (up2 M3 48 11 h) := by
  obtain ⟨r1, r2, r3, r4, r5, r6, r7, r8⟩ := hD
  refine ⟨hF3 10 (by decide), rfl, ?_, ?_, ?_, ?_, ?_, ?_⟩
  · exact (hF3 16 (by decide)).trans (hF2 16 (by decide))
  · exact ((hF3 12 (by decide)).trans (hF2 12 (by decide))).trans r4
  · exact ((hF3 14 (by decide)).trans (hF2 14 (by decide))).trans r5
  · intro k hk
    exact ((congrFun (hO3 55 (by decide)) k).trans (congrFun (hO2 55 (by decide)) k)).trans (r6 k hk)
  · intro k hk
    exact ((congrFun (hO3 56 (by decide)) k).trans (congrFun (hO2 56 (by decide)) k)).trans (r7 k hk)
  · show hiO D.2.1.1 D.2.2.1 (M3 48 17)
    rw [show M3 48 17 = M 48 17 from (hF3 17 (by decide)).trans (hF2 17 (by decide))]
    exact r8
theorem c_m_lG {Z : List (Option Nat)} {ext : List Ds} {M : Mm} {t : Nat → Int32} {n s : Nat} {D : Dr} (hT : TP t n M) (hL : Ld t n s (M 48)) (hs : s ≤ n) (hD : RD D M) : lK (lkG t n D s) t n M 0 Z ext := by
  unfold lK lkG
  have hT1 : TP t n (up2 M 48 16 1) := ⟨hT.1, hT.2⟩
  have c1 := c_m_readNumber (Z := Z) (ext := ext) (M := up2 M 48 16 1) (t := t) (n := n) (s := s) 1 4 hT1 hL hs
  unfold rdP at c1
  have hF0 : Fp M (up2 M 48 16 1) := (Fp.rf M).up _ (Or.inl ⟨by decide, by decide⟩)
  have hnl := nx_le (t := t) hs
  cases hN : numA t n 1 4 s with
  | inl e =>
    rw [hN] at c1
    refine Ct.of (by decide) (Nat.le_of_ble_eq_true rfl) ?_
    refine x_iload_n dX10_readLineOf_0 rfl ?_
    refine x_tabIn (off := 31) 32 dX10_readLineOf_1 (by decide) (by decide) (by decide) (by decide) ?_
    refine x_aload_n dX10_readLineOf_32 rfl ?_
    refine x_iconst (v := 1) dX10_readLineOf_33 (by decide) ?_
    refine x_put fl_X10_96 dX10_readLineOf_34 sf_48 rfl rfl rfl ?_
    refine x_aload_n dX10_readLineOf_37 rfl ?_
    refine x_aload_n dX10_readLineOf_38 rfl ?_
    refine x_iconst (v := 1) dX10_readLineOf_39 (by decide) ?_
    refine x_iconst (v := 4) dX10_readLineOf_40 (by decide) ?_
    refine x_cv mf_X10_readNumber ml_X10_186 dX10_readLineOf_41 rfl sf_48 rfl ⟨by decide, by decide⟩ (Nat.le_of_ble_eq_true rfl) ⟨rfl, rfl⟩ ⟨Nat.le_of_ble_eq_true rfl, Nat.le_of_ble_eq_true rfl⟩ (c1) (fun r M2 ⟨hr, hO2, hF2, hE⟩ => ?_)
    subst hr
    refine x_put fl_X10_83 dX10_readLineOf_44 sf_48 rfl rfl rfl ?_
    refine x_aload_n dX10_readLineOf_47 rfl ?_
    refine x_aload_n dX10_readLineOf_48 rfl ?_
    refine x_iconst (v := 1) dX10_readLineOf_49 (by decide) ?_
    refine x_iconst (v := 3) dX10_readLineOf_50 (by decide) ?_
    refine x_cvd mf_X10_readNumber ml_X10_186 dX10_readLineOf_51 rfl sf_48 rfl ⟨by decide, by decide⟩ (Nat.le_of_ble_eq_true rfl) ⟨rfl, rfl⟩ ⟨Nat.le_of_ble_eq_true rfl, Nat.le_of_ble_eq_true rfl⟩ (c_m_readNumberZ 1 3 hE.pos) ?_
    refine x_put fl_X10_87 dX10_readLineOf_54 sf_48 rfl rfl rfl ?_
    refine x_goto 195 dX10_readLineOf_57 (by decide) ?_
    exact x_ret dX10_readLineOf_195 rfl (Nat.le_refl _) (Nat.le_refl _) ⟨rfl, ⟨rfl, ((hF0.tr (Fp.on hO2 hF2)).up _ (Or.inl ⟨by decide, by decide⟩)).up _ (Or.inl ⟨by decide, by decide⟩), hE⟩⟩
  | inr w =>
    rw [hN] at c1
    dsimp only
    cases hN2 : numA t n 1 3 (nx t n s) with
    | inl e =>
      refine Ct.of (by decide) (Nat.le_of_ble_eq_true rfl) ?_
      refine x_iload_n dX10_readLineOf_0 rfl ?_
      refine x_tabIn (off := 31) 32 dX10_readLineOf_1 (by decide) (by decide) (by decide) (by decide) ?_
      refine x_aload_n dX10_readLineOf_32 rfl ?_
      refine x_iconst (v := 1) dX10_readLineOf_33 (by decide) ?_
      refine x_put fl_X10_96 dX10_readLineOf_34 sf_48 rfl rfl rfl ?_
      refine x_aload_n dX10_readLineOf_37 rfl ?_
      refine x_aload_n dX10_readLineOf_38 rfl ?_
      refine x_iconst (v := 1) dX10_readLineOf_39 (by decide) ?_
      refine x_iconst (v := 4) dX10_readLineOf_40 (by decide) ?_
      refine x_cv mf_X10_readNumber ml_X10_186 dX10_readLineOf_41 rfl sf_48 rfl ⟨by decide, by decide⟩ (Nat.le_of_ble_eq_true rfl) ⟨rfl, rfl⟩ ⟨Nat.le_of_ble_eq_true rfl, Nat.le_of_ble_eq_true rfl⟩ (c1) (fun r M2 ⟨hr, hO2, hF2, hL2⟩ => ?_)
      subst hr
      refine x_put fl_X10_83 dX10_readLineOf_44 sf_48 rfl rfl rfl ?_
      have hT2 : TP t n (up2 M2 48 10 w) := hT1.go ((Fp.on hO2 hF2).up _ (Or.inl ⟨by decide, by decide⟩))
      have c2 := c_m_readNumber (Z := Z) (ext := ext) (M := up2 M2 48 10 w) (t := t) (n := n) (s := nx t n s) 1 3 hT2 hL2 hnl
      unfold rdP at c2
      rw [hN2] at c2
      refine x_aload_n dX10_readLineOf_47 rfl ?_
      refine x_aload_n dX10_readLineOf_48 rfl ?_
      refine x_iconst (v := 1) dX10_readLineOf_49 (by decide) ?_
      refine x_iconst (v := 3) dX10_readLineOf_50 (by decide) ?_
      refine x_cv mf_X10_readNumber ml_X10_186 dX10_readLineOf_51 rfl sf_48 rfl ⟨by decide, by decide⟩ (Nat.le_of_ble_eq_true rfl) ⟨rfl, rfl⟩ ⟨Nat.le_of_ble_eq_true rfl, Nat.le_of_ble_eq_true rfl⟩ (c2) (fun r M3 ⟨hr, hO3, hF3, hE⟩ => ?_)
      subst hr
      refine x_put fl_X10_87 dX10_readLineOf_54 sf_48 rfl rfl rfl ?_
      refine x_goto 195 dX10_readLineOf_57 (by decide) ?_
      exact x_ret dX10_readLineOf_195 rfl (Nat.le_refl _) (Nat.le_refl _) ⟨rfl, ⟨rfl, (((hF0.tr (Fp.on hO2 hF2)).up _ (Or.inl ⟨by decide, by decide⟩)).tr (Fp.on hO3 hF3)).up _ (Or.inl ⟨by decide, by decide⟩), hE⟩⟩
    | inr h =>
      refine Ct.of (by decide) (Nat.le_of_ble_eq_true rfl) ?_
      refine x_iload_n dX10_readLineOf_0 rfl ?_
      refine x_tabIn (off := 31) 32 dX10_readLineOf_1 (by decide) (by decide) (by decide) (by decide) ?_
      refine x_aload_n dX10_readLineOf_32 rfl ?_
      refine x_iconst (v := 1) dX10_readLineOf_33 (by decide) ?_
      refine x_put fl_X10_96 dX10_readLineOf_34 sf_48 rfl rfl rfl ?_
      refine x_aload_n dX10_readLineOf_37 rfl ?_
      refine x_aload_n dX10_readLineOf_38 rfl ?_
      refine x_iconst (v := 1) dX10_readLineOf_39 (by decide) ?_
      refine x_iconst (v := 4) dX10_readLineOf_40 (by decide) ?_
      refine x_cv mf_X10_readNumber ml_X10_186 dX10_readLineOf_41 rfl sf_48 rfl ⟨by decide, by decide⟩ (Nat.le_of_ble_eq_true rfl) ⟨rfl, rfl⟩ ⟨Nat.le_of_ble_eq_true rfl, Nat.le_of_ble_eq_true rfl⟩ (c1) (fun r M2 ⟨hr, hO2, hF2, hL2⟩ => ?_)
      subst hr
      refine x_put fl_X10_83 dX10_readLineOf_44 sf_48 rfl rfl rfl ?_
      have hT2 : TP t n (up2 M2 48 10 w) := hT1.go ((Fp.on hO2 hF2).up _ (Or.inl ⟨by decide, by decide⟩))
      have c2 := c_m_readNumber (Z := Z) (ext := ext) (M := up2 M2 48 10 w) (t := t) (n := n) (s := nx t n s) 1 3 hT2 hL2 hnl
      unfold rdP at c2
      rw [hN2] at c2
      refine x_aload_n dX10_readLineOf_47 rfl ?_
      refine x_aload_n dX10_readLineOf_48 rfl ?_
      refine x_iconst (v := 1) dX10_readLineOf_49 (by decide) ?_
      refine x_iconst (v := 3) dX10_readLineOf_50 (by decide) ?_
      refine x_cv mf_X10_readNumber ml_X10_186 dX10_readLineOf_51 rfl sf_48 rfl ⟨by decide, by decide⟩ (Nat.le_of_ble_eq_true rfl) ⟨rfl, rfl⟩ ⟨Nat.le_of_ble_eq_true rfl, Nat.le_of_ble_eq_true rfl⟩ (c2) (fun r M3 ⟨hr, hO3, hF3, hL3⟩ => ?_)
      subst hr
      refine x_put fl_X10_87 dX10_readLineOf_54 sf_48 rfl rfl rfl ?_
      refine x_goto 195 dX10_readLineOf_57 (by decide) ?_
      exact x_ret dX10_readLineOf_195 rfl (Nat.le_refl _) (Nat.le_refl _) ⟨rfl, ⟨rfl, (((hF0.tr (Fp.on hO2 hF2)).up _ (Or.inl ⟨by decide, by decide⟩)).tr (Fp.on hO3 hF3)).up _ (Or.inl ⟨by decide, by decide⟩), fun _ => lG_RD hD hO2 hF2 hO3 hF3, hL3⟩⟩
theorem c_m_lO {Z : List (Option Nat)} {ext : List Ds} {M : Mm} {t : Nat → Int32} {n s : Nat} {D : Dr} (hT : TP t n M) (hL : Ld t n s (M 48)) (hK : tK t n s ≠ 4) (hs : s ≤ n) (hD : RD D M) : lK (lkO t n D s) t n M 1 Z ext := by
  have c1 := c_m_readGone (Z := Z) (ext := ext) hT hL hK hs hD
  unfold lK
  refine Ct.of (by decide) (Nat.le_of_ble_eq_true rfl) ?_
  refine x_iload_n dX10_readLineOf_0 rfl ?_
  refine x_tabIn (off := 59) 60 dX10_readLineOf_1 (by decide) (by decide) (by decide) (by decide) ?_
  refine x_aload_n dX10_readLineOf_60 rfl ?_
  refine x_cv mf_X10_readGone ml_X10_189 dX10_readLineOf_61 rfl sf_48 rfl ⟨by decide, by decide⟩ (Nat.le_of_ble_eq_true rfl) ⟨rfl, rfl⟩ ⟨Nat.le_of_ble_eq_true rfl, Nat.le_of_ble_eq_true rfl⟩ (c1) (fun r M2 hP => ?_)
  have hr := hP.1
  subst hr
  refine x_goto 195 dX10_readLineOf_64 (by decide) ?_
  exact x_ret dX10_readLineOf_195 rfl (Nat.le_refl _) (Nat.le_refl _) ⟨rfl, hP⟩
theorem c_m_lZ {Z : List (Option Nat)} {ext : List Ds} {M : Mm} {t : Nat → Int32} {n s : Nat} {D : Dr} (hT : TP t n M) (hL : Ld t n s (M 48)) (hK : tK t n s ≠ 4) (hs : s ≤ n) (hD : RD D M) : lK (lkZ t n D s) t n M 3 Z ext := by
  have c1 := c_m_readSizes (Z := Z) (ext := ext) hT hL hK hs hD
  unfold lK
  refine Ct.of (by decide) (Nat.le_of_ble_eq_true rfl) ?_
  refine x_iload_n dX10_readLineOf_0 rfl ?_
  refine x_tabIn (off := 135) 136 dX10_readLineOf_1 (by decide) (by decide) (by decide) (by decide) ?_
  refine x_aload_n dX10_readLineOf_136 rfl ?_
  refine x_cv mf_X10_readSizes ml_X10_192 dX10_readLineOf_137 rfl sf_48 rfl ⟨by decide, by decide⟩ (Nat.le_of_ble_eq_true rfl) ⟨rfl, rfl⟩ ⟨Nat.le_of_ble_eq_true rfl, Nat.le_of_ble_eq_true rfl⟩ (c1) (fun r M2 hP => ?_)
  have hr := hP.1
  subst hr
  refine x_goto 195 dX10_readLineOf_140 (by decide) ?_
  exact x_ret dX10_readLineOf_195 rfl (Nat.le_refl _) (Nat.le_refl _) ⟨rfl, hP⟩
theorem c_m_lC {Z : List (Option Nat)} {ext : List Ds} {M : Mm} {t : Nat → Int32} {n s : Nat} {D : Dr} (hT : TP t n M) (hL : Ld t n s (M 48)) (hK : tK t n s ≠ 4) (hs : s ≤ n) (hD : RD D M) : lK (lkC t n D s) t n M 2 Z ext := by
  unfold lK lkC
  obtain ⟨h24, h20, h22, h23⟩ := hL.2.2 hK
  have c1 := c_m_lookedMatch (Z := Z) (ext := ext) (M := M) hL
  unfold lmP at c1
  have hnl := nx_le (t := t) hs
  cases hN : numA t n 0 30 s with
  | inl e =>
    rw [hN] at c1
    refine Ct.of (by decide) (Nat.le_of_ble_eq_true rfl) ?_
    refine x_iload_n dX10_readLineOf_0 rfl ?_
    refine x_tabIn (off := 66) 67 dX10_readLineOf_1 (by decide) (by decide) (by decide) (by decide) ?_
    refine x_aload_n dX10_readLineOf_67 rfl ?_
    refine x_cv mf_X10_lookedMatch ml_X10_182 dX10_readLineOf_68 rfl sf_48 rfl ⟨by decide, by decide⟩ (Nat.le_of_ble_eq_true rfl) ⟨rfl, rfl⟩ ⟨Nat.le_of_ble_eq_true rfl, Nat.le_of_ble_eq_true rfl⟩ (c1) (fun r M2 ⟨hr, hF2, hE⟩ => ?_)
    subst hr
    refine x_istore_n dX10_readLineOf_71 (by decide) ?_
    refine x_aload_n dX10_readLineOf_72 rfl ?_
    refine x_geti fl_X10_138 dX10_readLineOf_73 sf_48 rfl ?_
    refine x_if_ne 98 dX10_readLineOf_76 (by decide) (fun _ => ?_) (fun hc_ => absurd hc_ (pos_ne hE.pos))
    refine x_aload_n dX10_readLineOf_98 rfl ?_
    refine x_cvd mf_X10_next ml_X10_179 dX10_readLineOf_99 rfl sf_48 rfl ⟨by decide, by decide⟩ (Nat.le_of_ble_eq_true rfl) ⟨rfl, rfl⟩ ⟨Nat.le_of_ble_eq_true rfl, Nat.le_of_ble_eq_true rfl⟩ (c_m_nextZ hE.pos) ?_
    refine x_aload_n dX10_readLineOf_102 rfl ?_
    refine x_iconst (v := 1) dX10_readLineOf_103 (by decide) ?_
    refine x_bipush (v := 9) dX10_readLineOf_104 (by decide) ?_
    refine x_cvd mf_X10_readNumber ml_X10_186 dX10_readLineOf_106 rfl sf_48 rfl ⟨by decide, by decide⟩ (Nat.le_of_ble_eq_true rfl) ⟨rfl, rfl⟩ ⟨Nat.le_of_ble_eq_true rfl, Nat.le_of_ble_eq_true rfl⟩ (c_m_readNumberZ 1 9 hE.pos) ?_
    refine x_istore_n dX10_readLineOf_109 (by decide) ?_
    refine x_aload_n dX10_readLineOf_110 rfl ?_
    refine x_getr fl_X10_29 dX10_readLineOf_111 sf_48 rfl ?_
    refine x_iload_n dX10_readLineOf_114 rfl ?_
    refine x_aload_n dX10_readLineOf_115 rfl ?_
    refine x_geti fl_X10_138 dX10_readLineOf_116 sf_48 rfl ?_
    refine x_if_ne 126 dX10_readLineOf_119 (by decide) (fun _ => ?_) (fun hc_ => absurd hc_ (pos_ne hE.pos))
    refine x_aload_n dX10_readLineOf_126 rfl ?_
    refine x_getr fl_X10_29 dX10_readLineOf_127 sf_48 rfl ?_
    refine x_iload_n dX10_readLineOf_130 rfl ?_
    refine x_iald dX10_readLineOf_131 sf_55 (show (0 : Int32) = nI 0 from rfl) (by decide) (by decide) ?_
    refine x_iast dX10_readLineOf_132 sf_55 (show (0 : Int32) = nI 0 from rfl) (by decide) (by decide) ?_
    refine x_goto 195 dX10_readLineOf_133 (by decide) ?_
    exact x_ret dX10_readLineOf_195 rfl (Nat.le_refl _) (Nat.le_refl _) ⟨rfl, ⟨rfl, hF2.up5 _ (Or.inl rfl), hE⟩⟩
  | inr m =>
    rw [hN] at c1
    dsimp only at c1 ⊢
    obtain ⟨hK2, hrg, -⟩ := numA_r hN
    obtain ⟨q, -, hq1, hq⟩ := rg_nat (a := 0) (b := 30) (by decide) (by decide) hrg
    subst hq
    rw [nI_clamp (by omega)]
    have hcq := hD.2.2.2.2.2.1 q (by omega)
    have hF1 : Fp M (up2 M 48 17 (mx (nI q) (M 48 17))) := (Fp.rf M).up _ (Or.inl ⟨by decide, by decide⟩)
    by_cases hc0 : D.2.2.1 q = 0
    · rw [decide_eq_true hc0, if_pos rfl]
      have hb : M 55 q = 0 := by rw [hcq]; exact hc0
      have hT1 : TP t n (up2 M 48 17 (mx (nI q) (M 48 17))) := ⟨hT.1, hT.2⟩
      have cn := c_m_nx (Z := Z) (ext := ext) (M := up2 M 48 17 (mx (nI q) (M 48 17))) (t := t) (n := n) (s := s) hT1 hL hK hs
      generalize hY : up2 M 48 17 (mx (nI q) (M 48 17)) = Y at *
      have y24 : Y 48 24 = 0 := by rw [← hY]; exact h24
      have y55 : Y 55 q = 0 := by rw [← hY]; exact hb
      have yR : ∀ M4 v, On48 Y M4 → Frm Y M4 → ¬ v = 0 → RD (D.1, D.2.1, upd D.2.2.1 q v, D.2.2.2) (up2 M4 55 q v) := by
        intro M4 v hO4 hF4 hv
        subst hY
        obtain ⟨r1, r2, r3, r4, r5, r6, r7, r8⟩ := hD
        refine ⟨(hF4 10 (by decide)).trans r1, (hF4 11 (by decide)).trans r2, (hF4 16 (by decide)).trans r3, (hF4 12 (by decide)).trans r4, (hF4 14 (by decide)).trans r5, fun k hk => ?_, fun k hk => ?_, ?_⟩
        · show up2 M4 55 q v 55 k = upd D.2.2.1 q v k
          rw [up2_s]
          unfold upd
          by_cases hkq : k = q
          · rw [if_pos hkq, if_pos hkq]
          · rw [if_neg hkq, if_neg hkq, hO4 55 (by decide)]; exact r6 k hk
        · show M4 56 k = _
          rw [hO4 56 (by decide)]; exact r7 k hk
        · show hiO D.2.1.1 (upd D.2.2.1 q v) (M4 48 17)
          rw [hF4 17 (by decide)]
          exact hiO_c r8 (by omega) hv
      cases hN2 : numA t n 1 9 (nx t n s) with
      | inl e =>
        refine Ct.of (by decide) (Nat.le_of_ble_eq_true rfl) ?_
        refine x_iload_n dX10_readLineOf_0 rfl ?_
        refine x_tabIn (off := 66) 67 dX10_readLineOf_1 (by decide) (by decide) (by decide) (by decide) ?_
        refine x_aload_n dX10_readLineOf_67 rfl ?_
        refine x_cv mf_X10_lookedMatch ml_X10_182 dX10_readLineOf_68 rfl sf_48 rfl ⟨by decide, by decide⟩ (Nat.le_of_ble_eq_true rfl) ⟨rfl, rfl⟩ ⟨Nat.le_of_ble_eq_true rfl, Nat.le_of_ble_eq_true rfl⟩ (c1) (fun r M2 ⟨hr, hM⟩ => ?_)
        subst hr; subst hM
        refine x_istore_n dX10_readLineOf_71 (by decide) ?_
        refine x_aload_n dX10_readLineOf_72 rfl ?_
        refine x_geti fl_X10_138 dX10_readLineOf_73 sf_48 rfl ?_
        refine x_if_ne 98 dX10_readLineOf_76 (by decide) (fun hc_ => absurd (y24) hc_) (fun _ => ?_)
        refine x_aload_n dX10_readLineOf_79 rfl ?_
        refine x_aload_n dX10_readLineOf_80 rfl ?_
        refine x_getr fl_X10_29 dX10_readLineOf_81 sf_48 rfl ?_
        refine x_iload_n dX10_readLineOf_84 rfl ?_
        refine x_iald dX10_readLineOf_85 sf_55 rfl (by omega) (by decide) ?_
        refine x_if_ne 93 dX10_readLineOf_86 (by decide) (fun hc_ => absurd (y55) hc_) (fun _ => ?_)
        refine x_iconst (v := 1) dX10_readLineOf_89 (by decide) ?_
        refine x_goto 94 dX10_readLineOf_90 (by decide) ?_
        refine x_iconst (v := 4) dX10_readLineOf_94 (by decide) ?_
        refine x_cvd mf_X10_needs ml_X10_172 dX10_readLineOf_95 rfl sf_48 rfl ⟨by decide, by decide⟩ (Nat.le_of_ble_eq_true rfl) ⟨rfl, rfl⟩ ⟨Nat.le_of_ble_eq_true rfl, Nat.le_of_ble_eq_true rfl⟩ (c_m_needsT 4) ?_
        refine x_aload_n dX10_readLineOf_98 rfl ?_
        refine x_cv mf_X10_next ml_X10_179 dX10_readLineOf_99 rfl sf_48 rfl ⟨by decide, by decide⟩ (Nat.le_of_ble_eq_true rfl) ⟨rfl, rfl⟩ ⟨Nat.le_of_ble_eq_true rfl, Nat.le_of_ble_eq_true rfl⟩ (cn) (fun r M4 ⟨hr, hO4, hF4, hL4⟩ => ?_)
        subst hr
        refine x_aload_n dX10_readLineOf_102 rfl ?_
        have c2 := c_m_readNumber (Z := Z) (ext := ext) (M := M4) (t := t) (n := n) (s := nx t n s) 1 9 (hT1.go (Fp.on hO4 hF4)) hL4 hnl
        unfold rdP at c2
        rw [hN2] at c2
        refine x_iconst (v := 1) dX10_readLineOf_103 (by decide) ?_
        refine x_bipush (v := 9) dX10_readLineOf_104 (by decide) ?_
        refine x_cv mf_X10_readNumber ml_X10_186 dX10_readLineOf_106 rfl sf_48 rfl ⟨by decide, by decide⟩ (Nat.le_of_ble_eq_true rfl) ⟨rfl, rfl⟩ ⟨Nat.le_of_ble_eq_true rfl, Nat.le_of_ble_eq_true rfl⟩ (c2) (fun r M5 ⟨hr, hO5, hF5, hE⟩ => ?_)
        subst hr
        refine x_istore_n dX10_readLineOf_109 (by decide) ?_
        refine x_aload_n dX10_readLineOf_110 rfl ?_
        refine x_getr fl_X10_29 dX10_readLineOf_111 sf_48 rfl ?_
        refine x_iload_n dX10_readLineOf_114 rfl ?_
        refine x_aload_n dX10_readLineOf_115 rfl ?_
        refine x_geti fl_X10_138 dX10_readLineOf_116 sf_48 rfl ?_
        refine x_if_ne 126 dX10_readLineOf_119 (by decide) (fun _ => ?_) (fun hc_ => absurd hc_ (pos_ne hE.pos))
        refine x_aload_n dX10_readLineOf_126 rfl ?_
        refine x_getr fl_X10_29 dX10_readLineOf_127 sf_48 rfl ?_
        refine x_iload_n dX10_readLineOf_130 rfl ?_
        refine x_iald dX10_readLineOf_131 sf_55 rfl (by omega) (by decide) ?_
        refine x_iast dX10_readLineOf_132 sf_55 rfl (by omega) (by decide) ?_
        refine x_goto 195 dX10_readLineOf_133 (by decide) ?_
        exact x_ret dX10_readLineOf_195 rfl (Nat.le_refl _) (Nat.le_refl _) ⟨rfl, ⟨rfl, ((hF1.tr (Fp.on hO4 hF4)).tr (Fp.on hO5 hF5)).up5 _ (Or.inl rfl), hE⟩⟩
      | inr v =>
        have hv : ¬ v = 0 := fun h0 => by have := (numA_r hN2).2.1; rw [h0] at this; revert this; decide
        have hk2 := (numA_r hN2).1
        refine Ct.of (by decide) (Nat.le_of_ble_eq_true rfl) ?_
        refine x_iload_n dX10_readLineOf_0 rfl ?_
        refine x_tabIn (off := 66) 67 dX10_readLineOf_1 (by decide) (by decide) (by decide) (by decide) ?_
        refine x_aload_n dX10_readLineOf_67 rfl ?_
        refine x_cv mf_X10_lookedMatch ml_X10_182 dX10_readLineOf_68 rfl sf_48 rfl ⟨by decide, by decide⟩ (Nat.le_of_ble_eq_true rfl) ⟨rfl, rfl⟩ ⟨Nat.le_of_ble_eq_true rfl, Nat.le_of_ble_eq_true rfl⟩ (c1) (fun r M2 ⟨hr, hM⟩ => ?_)
        subst hr; subst hM
        refine x_istore_n dX10_readLineOf_71 (by decide) ?_
        refine x_aload_n dX10_readLineOf_72 rfl ?_
        refine x_geti fl_X10_138 dX10_readLineOf_73 sf_48 rfl ?_
        refine x_if_ne 98 dX10_readLineOf_76 (by decide) (fun hc_ => absurd (y24) hc_) (fun _ => ?_)
        refine x_aload_n dX10_readLineOf_79 rfl ?_
        refine x_aload_n dX10_readLineOf_80 rfl ?_
        refine x_getr fl_X10_29 dX10_readLineOf_81 sf_48 rfl ?_
        refine x_iload_n dX10_readLineOf_84 rfl ?_
        refine x_iald dX10_readLineOf_85 sf_55 rfl (by omega) (by decide) ?_
        refine x_if_ne 93 dX10_readLineOf_86 (by decide) (fun hc_ => absurd (y55) hc_) (fun _ => ?_)
        refine x_iconst (v := 1) dX10_readLineOf_89 (by decide) ?_
        refine x_goto 94 dX10_readLineOf_90 (by decide) ?_
        refine x_iconst (v := 4) dX10_readLineOf_94 (by decide) ?_
        refine x_cvd mf_X10_needs ml_X10_172 dX10_readLineOf_95 rfl sf_48 rfl ⟨by decide, by decide⟩ (Nat.le_of_ble_eq_true rfl) ⟨rfl, rfl⟩ ⟨Nat.le_of_ble_eq_true rfl, Nat.le_of_ble_eq_true rfl⟩ (c_m_needsT 4) ?_
        refine x_aload_n dX10_readLineOf_98 rfl ?_
        refine x_cv mf_X10_next ml_X10_179 dX10_readLineOf_99 rfl sf_48 rfl ⟨by decide, by decide⟩ (Nat.le_of_ble_eq_true rfl) ⟨rfl, rfl⟩ ⟨Nat.le_of_ble_eq_true rfl, Nat.le_of_ble_eq_true rfl⟩ (cn) (fun r M4 ⟨hr, hO4, hF4, hL4⟩ => ?_)
        subst hr
        refine x_aload_n dX10_readLineOf_102 rfl ?_
        have c2 := c_m_readNumber (Z := Z) (ext := ext) (M := M4) (t := t) (n := n) (s := nx t n s) 1 9 (hT1.go (Fp.on hO4 hF4)) hL4 hnl
        unfold rdP at c2
        rw [hN2] at c2
        by_cases hk4 : tK t n (nx t n (nx t n s)) = 4
        · refine x_iconst (v := 1) dX10_readLineOf_103 (by decide) ?_
          refine x_bipush (v := 9) dX10_readLineOf_104 (by decide) ?_
          refine x_cv mf_X10_readNumber ml_X10_186 dX10_readLineOf_106 rfl sf_48 rfl ⟨by decide, by decide⟩ (Nat.le_of_ble_eq_true rfl) ⟨rfl, rfl⟩ ⟨Nat.le_of_ble_eq_true rfl, Nat.le_of_ble_eq_true rfl⟩ (c2) (fun r M5 ⟨hr, hO5, hF5, hL5⟩ => ?_)
          subst hr
          refine x_istore_n dX10_readLineOf_109 (by decide) ?_
          refine x_aload_n dX10_readLineOf_110 rfl ?_
          refine x_getr fl_X10_29 dX10_readLineOf_111 sf_48 rfl ?_
          refine x_iload_n dX10_readLineOf_114 rfl ?_
          refine x_aload_n dX10_readLineOf_115 rfl ?_
          refine x_geti fl_X10_138 dX10_readLineOf_116 sf_48 rfl ?_
          refine x_if_ne 126 dX10_readLineOf_119 (by decide) (fun _ => ?_) (fun hc_ => absurd hc_ (pos_ne (hL5.er hk4).pos))
          refine x_aload_n dX10_readLineOf_126 rfl ?_
          refine x_getr fl_X10_29 dX10_readLineOf_127 sf_48 rfl ?_
          refine x_iload_n dX10_readLineOf_130 rfl ?_
          refine x_iald dX10_readLineOf_131 sf_55 rfl (by omega) (by decide) ?_
          refine x_iast dX10_readLineOf_132 sf_55 rfl (by omega) (by decide) ?_
          refine x_goto 195 dX10_readLineOf_133 (by decide) ?_
          exact x_ret dX10_readLineOf_195 rfl (Nat.le_refl _) (Nat.le_refl _) ⟨rfl, ⟨rfl, ((hF1.tr (Fp.on hO4 hF4)).tr (Fp.on hO5 hF5)).up5 _ (Or.inl rfl), fun q => absurd hk4 q, hL5⟩⟩
        · refine x_iconst (v := 1) dX10_readLineOf_103 (by decide) ?_
          refine x_bipush (v := 9) dX10_readLineOf_104 (by decide) ?_
          refine x_cv mf_X10_readNumber ml_X10_186 dX10_readLineOf_106 rfl sf_48 rfl ⟨by decide, by decide⟩ (Nat.le_of_ble_eq_true rfl) ⟨rfl, rfl⟩ ⟨Nat.le_of_ble_eq_true rfl, Nat.le_of_ble_eq_true rfl⟩ (c2) (fun r M5 ⟨hr, hO5, hF5, hL5⟩ => ?_)
          subst hr
          refine x_istore_n dX10_readLineOf_109 (by decide) ?_
          refine x_aload_n dX10_readLineOf_110 rfl ?_
          refine x_getr fl_X10_29 dX10_readLineOf_111 sf_48 rfl ?_
          refine x_iload_n dX10_readLineOf_114 rfl ?_
          refine x_aload_n dX10_readLineOf_115 rfl ?_
          refine x_geti fl_X10_138 dX10_readLineOf_116 sf_48 rfl ?_
          refine x_if_ne 126 dX10_readLineOf_119 (by decide) (fun hc_ => absurd ((hL5.2.2 hk4).1) hc_) (fun _ => ?_)
          refine x_iload_n dX10_readLineOf_122 rfl ?_
          refine x_goto 132 dX10_readLineOf_123 (by decide) ?_
          refine x_iast dX10_readLineOf_132 sf_55 rfl (by omega) (by decide) ?_
          refine x_goto 195 dX10_readLineOf_133 (by decide) ?_
          exact x_ret dX10_readLineOf_195 rfl (Nat.le_refl _) (Nat.le_refl _) ⟨rfl, ⟨rfl, ((hF1.tr (Fp.on hO4 hF4)).tr (Fp.on hO5 hF5)).up5 _ (Or.inl rfl), fun _ => yR M5 v (hO4.tr hO5) (hF4.tr hF5) hv, hL5⟩⟩
    · rw [decide_eq_false hc0, if_neg (by decide)]
      have hb : ¬ M 55 q = 0 := by rw [hcq]; exact hc0
      refine Ct.of (by decide) (Nat.le_of_ble_eq_true rfl) ?_
      refine x_iload_n dX10_readLineOf_0 rfl ?_
      refine x_tabIn (off := 66) 67 dX10_readLineOf_1 (by decide) (by decide) (by decide) (by decide) ?_
      refine x_aload_n dX10_readLineOf_67 rfl ?_
      refine x_cv mf_X10_lookedMatch ml_X10_182 dX10_readLineOf_68 rfl sf_48 rfl ⟨by decide, by decide⟩ (Nat.le_of_ble_eq_true rfl) ⟨rfl, rfl⟩ ⟨Nat.le_of_ble_eq_true rfl, Nat.le_of_ble_eq_true rfl⟩ (c1) (fun r M2 ⟨hr, hM⟩ => ?_)
      subst hr; subst hM
      refine x_istore_n dX10_readLineOf_71 (by decide) ?_
      refine x_aload_n dX10_readLineOf_72 rfl ?_
      refine x_geti fl_X10_138 dX10_readLineOf_73 sf_48 rfl ?_
      refine x_if_ne 98 dX10_readLineOf_76 (by decide) (fun hc_ => absurd (h24) hc_) (fun _ => ?_)
      refine x_aload_n dX10_readLineOf_79 rfl ?_
      refine x_aload_n dX10_readLineOf_80 rfl ?_
      refine x_getr fl_X10_29 dX10_readLineOf_81 sf_48 rfl ?_
      refine x_iload_n dX10_readLineOf_84 rfl ?_
      refine x_iald dX10_readLineOf_85 sf_55 rfl (by omega) (by decide) ?_
      refine x_if_ne 93 dX10_readLineOf_86 (by decide) (fun _ => ?_) (fun hc_ => absurd hc_ (hb))
      refine x_iconst (v := 0) dX10_readLineOf_93 (by decide) ?_
      refine x_iconst (v := 4) dX10_readLineOf_94 (by decide) ?_
      refine x_cvd mf_X10_needs ml_X10_172 dX10_readLineOf_95 rfl sf_48 rfl ⟨by decide, by decide⟩ (Nat.le_of_ble_eq_true rfl) ⟨rfl, rfl⟩ ⟨Nat.le_of_ble_eq_true rfl, Nat.le_of_ble_eq_true rfl⟩ (c_m_needsF 4 h24) ?_
      refine x_aload_n dX10_readLineOf_98 rfl ?_
      refine x_cvd mf_X10_next ml_X10_179 dX10_readLineOf_99 rfl sf_48 rfl ⟨by decide, by decide⟩ (Nat.le_of_ble_eq_true rfl) ⟨rfl, rfl⟩ ⟨Nat.le_of_ble_eq_true rfl, Nat.le_of_ble_eq_true rfl⟩ (c_m_nextZ (show (0 : Int32) < 4 by decide)) ?_
      refine x_aload_n dX10_readLineOf_102 rfl ?_
      refine x_iconst (v := 1) dX10_readLineOf_103 (by decide) ?_
      refine x_bipush (v := 9) dX10_readLineOf_104 (by decide) ?_
      refine x_cvd mf_X10_readNumber ml_X10_186 dX10_readLineOf_106 rfl sf_48 rfl ⟨by decide, by decide⟩ (Nat.le_of_ble_eq_true rfl) ⟨rfl, rfl⟩ ⟨Nat.le_of_ble_eq_true rfl, Nat.le_of_ble_eq_true rfl⟩ (c_m_readNumberZ 1 9 (show (0 : Int32) < 4 by decide)) ?_
      refine x_istore_n dX10_readLineOf_109 (by decide) ?_
      refine x_aload_n dX10_readLineOf_110 rfl ?_
      refine x_getr fl_X10_29 dX10_readLineOf_111 sf_48 rfl ?_
      refine x_iload_n dX10_readLineOf_114 rfl ?_
      refine x_aload_n dX10_readLineOf_115 rfl ?_
      refine x_geti fl_X10_138 dX10_readLineOf_116 sf_48 rfl ?_
      refine x_if_ne 126 dX10_readLineOf_119 (by decide) (fun _ => ?_) (fun hc_ => absurd hc_ (show ¬ (4 : Int32) = 0 by decide))
      refine x_aload_n dX10_readLineOf_126 rfl ?_
      refine x_getr fl_X10_29 dX10_readLineOf_127 sf_48 rfl ?_
      refine x_iload_n dX10_readLineOf_130 rfl ?_
      refine x_iald dX10_readLineOf_131 sf_55 rfl (by omega) (by decide) ?_
      refine x_iast dX10_readLineOf_132 sf_55 rfl (by omega) (by decide) ?_
      refine x_goto 195 dX10_readLineOf_133 (by decide) ?_
      exact x_ret dX10_readLineOf_195 rfl (Nat.le_refl _) (Nat.le_refl _) ⟨rfl, ⟨rfl, ((hF1.up _ (Or.inr ⟨by decide, by decide⟩)).up _ (Or.inr ⟨by decide, by decide⟩)).up5 _ (Or.inl rfl), rfl, (show (0 : Int32) < 4 by decide), hL.1⟩⟩
theorem c_m_lS {Z : List (Option Nat)} {ext : List Ds} {M : Mm} {t : Nat → Int32} {n s : Nat} {D : Dr} (hT : TP t n M) (hL : Ld t n s (M 48)) (hK : tK t n s ≠ 4) (hs : s ≤ n) (hD : RD D M) : lK (lkS4 t n D s) t n M 4 Z ext := by
  unfold lK lkS4
  obtain ⟨h24, h20, h22, h23⟩ := hL.2.2 hK
  have c1 := c_m_looked (Z := Z) (ext := ext) (M := M) 1 3 hL
  unfold lkP at c1
  have hnl := nx_le (t := t) hs
  cases hN : numA t n 1 3 s with
  | inl e =>
    rw [hN] at c1
    refine Ct.of (by decide) (Nat.le_of_ble_eq_true rfl) ?_
    refine x_iload_n dX10_readLineOf_0 rfl ?_
    refine x_tabOut 143 dX10_readLineOf_1 (by decide) (by decide) ?_
    refine x_aload_n dX10_readLineOf_143 rfl ?_
    refine x_iconst (v := 1) dX10_readLineOf_144 (by decide) ?_
    refine x_iconst (v := 3) dX10_readLineOf_145 (by decide) ?_
    refine x_cv mf_X10_looked ml_X10_176 dX10_readLineOf_146 rfl sf_48 rfl ⟨by decide, by decide⟩ (Nat.le_of_ble_eq_true rfl) ⟨rfl, rfl⟩ ⟨Nat.le_of_ble_eq_true rfl, Nat.le_of_ble_eq_true rfl⟩ (c1) (fun r M2 ⟨hr, hO2, hF2, hE⟩ => ?_)
    subst hr
    refine x_istore_n dX10_readLineOf_149 (by decide) ?_
    refine x_aload_n dX10_readLineOf_150 rfl ?_
    refine x_geti fl_X10_138 dX10_readLineOf_151 sf_48 rfl ?_
    refine x_if_ne 178 dX10_readLineOf_154 (by decide) (fun _ => ?_) (fun hc_ => absurd hc_ (pos_ne hE.pos))
    refine x_aload_n dX10_readLineOf_178 rfl ?_
    refine x_cvd mf_X10_next ml_X10_179 dX10_readLineOf_179 rfl sf_48 rfl ⟨by decide, by decide⟩ (Nat.le_of_ble_eq_true rfl) ⟨rfl, rfl⟩ ⟨Nat.le_of_ble_eq_true rfl, Nat.le_of_ble_eq_true rfl⟩ (c_m_nextZ hE.pos) ?_
    refine x_aload_n dX10_readLineOf_182 rfl ?_
    refine x_getr fl_X10_32 dX10_readLineOf_183 sf_48 rfl ?_
    refine x_iload_n dX10_readLineOf_186 rfl ?_
    refine x_aload_n dX10_readLineOf_187 rfl ?_
    refine x_iconst (v := 0) dX10_readLineOf_188 (by decide) ?_
    refine x_bipush (v := 12) dX10_readLineOf_189 (by decide) ?_
    refine x_cvd mf_X10_readNumber ml_X10_186 dX10_readLineOf_191 rfl sf_48 rfl ⟨by decide, by decide⟩ (Nat.le_of_ble_eq_true rfl) ⟨rfl, rfl⟩ ⟨Nat.le_of_ble_eq_true rfl, Nat.le_of_ble_eq_true rfl⟩ (c_m_readNumberZ 0 12 hE.pos) ?_
    refine x_iast dX10_readLineOf_194 sf_56 (show (0 : Int32) = nI 0 from rfl) (by decide) (by decide) ?_
    exact x_ret dX10_readLineOf_195 rfl (Nat.le_refl _) (Nat.le_refl _) ⟨rfl, ⟨rfl, (Fp.on hO2 hF2).up5 _ (Or.inr rfl), hE⟩⟩
  | inr m =>
    rw [hN] at c1
    dsimp only
    obtain ⟨hK2, hrg, -⟩ := numA_r hN
    obtain ⟨q, hq0, hq1, hq⟩ := rg_nat (a := 1) (b := 3) (by decide) (by decide) hrg
    subst hq
    rw [nI_clamp (by omega)]
    have hcq := hD.2.2.2.2.2.2.1 q (by omega)
    by_cases hc0 : D.2.2.2 q = -4
    · rw [decide_eq_true hc0, if_pos rfl]
      have hb : M 56 q = -4 := by rw [hcq]; exact hc0
      have cn := c_m_nx (Z := Z) (ext := ext) (M := M) (t := t) (n := n) (s := s) hT hL hK hs
      have yR : ∀ M4 v, On48 M M4 → Frm M M4 → RD (D.1, D.2.1, D.2.2.1, upd D.2.2.2 q v) (up2 M4 56 q v) := by
        intro M4 v hO4 hF4
        obtain ⟨r1, r2, r3, r4, r5, r6, r7, r8⟩ := hD
        refine ⟨(hF4 10 (by decide)).trans r1, (hF4 11 (by decide)).trans r2, (hF4 16 (by decide)).trans r3, (hF4 12 (by decide)).trans r4, (hF4 14 (by decide)).trans r5, fun k hk => ?_, fun k hk => ?_, ?_⟩
        · show M4 55 k = _
          rw [hO4 55 (by decide)]; exact r6 k hk
        · show up2 M4 56 q v 56 k = upd D.2.2.2 q v k
          rw [up2_s]
          unfold upd
          by_cases hkq : k = q
          · rw [if_pos hkq, if_pos hkq]
          · rw [if_neg hkq, if_neg hkq, hO4 56 (by decide)]; exact r7 k hk
        · show hiO D.2.1.1 D.2.2.1 (M4 48 17)
          rw [hF4 17 (by decide)]
          exact r8
      cases hN2 : numA t n 0 12 (nx t n s) with
      | inl e =>
        refine Ct.of (by decide) (Nat.le_of_ble_eq_true rfl) ?_
        refine x_iload_n dX10_readLineOf_0 rfl ?_
        refine x_tabOut 143 dX10_readLineOf_1 (by decide) (by decide) ?_
        refine x_aload_n dX10_readLineOf_143 rfl ?_
        refine x_iconst (v := 1) dX10_readLineOf_144 (by decide) ?_
        refine x_iconst (v := 3) dX10_readLineOf_145 (by decide) ?_
        refine x_cv mf_X10_looked ml_X10_176 dX10_readLineOf_146 rfl sf_48 rfl ⟨by decide, by decide⟩ (Nat.le_of_ble_eq_true rfl) ⟨rfl, rfl⟩ ⟨Nat.le_of_ble_eq_true rfl, Nat.le_of_ble_eq_true rfl⟩ (c1) (fun r M2 ⟨hr, hM⟩ => ?_)
        subst hr; subst hM
        refine x_istore_n dX10_readLineOf_149 (by decide) ?_
        refine x_aload_n dX10_readLineOf_150 rfl ?_
        refine x_geti fl_X10_138 dX10_readLineOf_151 sf_48 rfl ?_
        refine x_if_ne 178 dX10_readLineOf_154 (by decide) (fun hc_ => absurd (h24) hc_) (fun _ => ?_)
        refine x_aload_n dX10_readLineOf_157 rfl ?_
        refine x_aload_n dX10_readLineOf_158 rfl ?_
        refine x_getr fl_X10_32 dX10_readLineOf_159 sf_48 rfl ?_
        refine x_iload_n dX10_readLineOf_162 rfl ?_
        refine x_iald dX10_readLineOf_163 sf_56 rfl (by omega) (by decide) ?_
        refine x_bipush (v := -4) dX10_readLineOf_164 (by decide) ?_
        refine x_icmp_ne 173 dX10_readLineOf_166 (by decide) (fun hc_ => absurd (hb) hc_) (fun _ => ?_)
        refine x_iconst (v := 1) dX10_readLineOf_169 (by decide) ?_
        refine x_goto 174 dX10_readLineOf_170 (by decide) ?_
        refine x_iconst (v := 4) dX10_readLineOf_174 (by decide) ?_
        refine x_cvd mf_X10_needs ml_X10_172 dX10_readLineOf_175 rfl sf_48 rfl ⟨by decide, by decide⟩ (Nat.le_of_ble_eq_true rfl) ⟨rfl, rfl⟩ ⟨Nat.le_of_ble_eq_true rfl, Nat.le_of_ble_eq_true rfl⟩ (c_m_needsT 4) ?_
        refine x_aload_n dX10_readLineOf_178 rfl ?_
        refine x_cv mf_X10_next ml_X10_179 dX10_readLineOf_179 rfl sf_48 rfl ⟨by decide, by decide⟩ (Nat.le_of_ble_eq_true rfl) ⟨rfl, rfl⟩ ⟨Nat.le_of_ble_eq_true rfl, Nat.le_of_ble_eq_true rfl⟩ (cn) (fun r M4 ⟨hr, hO4, hF4, hL4⟩ => ?_)
        subst hr
        refine x_aload_n dX10_readLineOf_182 rfl ?_
        refine x_getr fl_X10_32 dX10_readLineOf_183 sf_48 rfl ?_
        refine x_iload_n dX10_readLineOf_186 rfl ?_
        have c2 := c_m_readNumber (Z := Z) (ext := ext) (M := M4) (t := t) (n := n) (s := nx t n s) 0 12 (hT.go (Fp.on hO4 hF4)) hL4 hnl
        unfold rdP at c2
        rw [hN2] at c2
        refine x_aload_n dX10_readLineOf_187 rfl ?_
        refine x_iconst (v := 0) dX10_readLineOf_188 (by decide) ?_
        refine x_bipush (v := 12) dX10_readLineOf_189 (by decide) ?_
        refine x_cv mf_X10_readNumber ml_X10_186 dX10_readLineOf_191 rfl sf_48 rfl ⟨by decide, by decide⟩ (Nat.le_of_ble_eq_true rfl) ⟨rfl, rfl⟩ ⟨Nat.le_of_ble_eq_true rfl, Nat.le_of_ble_eq_true rfl⟩ (c2) (fun r M5 ⟨hr, hO5, hF5, hE⟩ => ?_)
        subst hr
        refine x_iast dX10_readLineOf_194 sf_56 rfl (by omega) (by decide) ?_
        exact x_ret dX10_readLineOf_195 rfl (Nat.le_refl _) (Nat.le_refl _) ⟨rfl, ⟨rfl, ((Fp.on hO4 hF4).tr (Fp.on hO5 hF5)).up5 _ (Or.inr rfl), hE⟩⟩
      | inr v =>
        refine Ct.of (by decide) (Nat.le_of_ble_eq_true rfl) ?_
        refine x_iload_n dX10_readLineOf_0 rfl ?_
        refine x_tabOut 143 dX10_readLineOf_1 (by decide) (by decide) ?_
        refine x_aload_n dX10_readLineOf_143 rfl ?_
        refine x_iconst (v := 1) dX10_readLineOf_144 (by decide) ?_
        refine x_iconst (v := 3) dX10_readLineOf_145 (by decide) ?_
        refine x_cv mf_X10_looked ml_X10_176 dX10_readLineOf_146 rfl sf_48 rfl ⟨by decide, by decide⟩ (Nat.le_of_ble_eq_true rfl) ⟨rfl, rfl⟩ ⟨Nat.le_of_ble_eq_true rfl, Nat.le_of_ble_eq_true rfl⟩ (c1) (fun r M2 ⟨hr, hM⟩ => ?_)
        subst hr; subst hM
        refine x_istore_n dX10_readLineOf_149 (by decide) ?_
        refine x_aload_n dX10_readLineOf_150 rfl ?_
        refine x_geti fl_X10_138 dX10_readLineOf_151 sf_48 rfl ?_
        refine x_if_ne 178 dX10_readLineOf_154 (by decide) (fun hc_ => absurd (h24) hc_) (fun _ => ?_)
        refine x_aload_n dX10_readLineOf_157 rfl ?_
        refine x_aload_n dX10_readLineOf_158 rfl ?_
        refine x_getr fl_X10_32 dX10_readLineOf_159 sf_48 rfl ?_
        refine x_iload_n dX10_readLineOf_162 rfl ?_
        refine x_iald dX10_readLineOf_163 sf_56 rfl (by omega) (by decide) ?_
        refine x_bipush (v := -4) dX10_readLineOf_164 (by decide) ?_
        refine x_icmp_ne 173 dX10_readLineOf_166 (by decide) (fun hc_ => absurd (hb) hc_) (fun _ => ?_)
        refine x_iconst (v := 1) dX10_readLineOf_169 (by decide) ?_
        refine x_goto 174 dX10_readLineOf_170 (by decide) ?_
        refine x_iconst (v := 4) dX10_readLineOf_174 (by decide) ?_
        refine x_cvd mf_X10_needs ml_X10_172 dX10_readLineOf_175 rfl sf_48 rfl ⟨by decide, by decide⟩ (Nat.le_of_ble_eq_true rfl) ⟨rfl, rfl⟩ ⟨Nat.le_of_ble_eq_true rfl, Nat.le_of_ble_eq_true rfl⟩ (c_m_needsT 4) ?_
        refine x_aload_n dX10_readLineOf_178 rfl ?_
        refine x_cv mf_X10_next ml_X10_179 dX10_readLineOf_179 rfl sf_48 rfl ⟨by decide, by decide⟩ (Nat.le_of_ble_eq_true rfl) ⟨rfl, rfl⟩ ⟨Nat.le_of_ble_eq_true rfl, Nat.le_of_ble_eq_true rfl⟩ (cn) (fun r M4 ⟨hr, hO4, hF4, hL4⟩ => ?_)
        subst hr
        refine x_aload_n dX10_readLineOf_182 rfl ?_
        refine x_getr fl_X10_32 dX10_readLineOf_183 sf_48 rfl ?_
        refine x_iload_n dX10_readLineOf_186 rfl ?_
        have c2 := c_m_readNumber (Z := Z) (ext := ext) (M := M4) (t := t) (n := n) (s := nx t n s) 0 12 (hT.go (Fp.on hO4 hF4)) hL4 hnl
        unfold rdP at c2
        rw [hN2] at c2
        refine x_aload_n dX10_readLineOf_187 rfl ?_
        refine x_iconst (v := 0) dX10_readLineOf_188 (by decide) ?_
        refine x_bipush (v := 12) dX10_readLineOf_189 (by decide) ?_
        refine x_cv mf_X10_readNumber ml_X10_186 dX10_readLineOf_191 rfl sf_48 rfl ⟨by decide, by decide⟩ (Nat.le_of_ble_eq_true rfl) ⟨rfl, rfl⟩ ⟨Nat.le_of_ble_eq_true rfl, Nat.le_of_ble_eq_true rfl⟩ (c2) (fun r M5 ⟨hr, hO5, hF5, hL5⟩ => ?_)
        subst hr
        refine x_iast dX10_readLineOf_194 sf_56 rfl (by omega) (by decide) ?_
        exact x_ret dX10_readLineOf_195 rfl (Nat.le_refl _) (Nat.le_refl _) ⟨rfl, ⟨rfl, ((Fp.on hO4 hF4).tr (Fp.on hO5 hF5)).up5 _ (Or.inr rfl), fun _ => yR M5 v (hO4.tr hO5) (hF4.tr hF5), hL5⟩⟩
    · rw [decide_eq_false hc0, if_neg (by decide)]
      have hb : ¬ M 56 q = -4 := by rw [hcq]; exact hc0
      refine Ct.of (by decide) (Nat.le_of_ble_eq_true rfl) ?_
      refine x_iload_n dX10_readLineOf_0 rfl ?_
      refine x_tabOut 143 dX10_readLineOf_1 (by decide) (by decide) ?_
      refine x_aload_n dX10_readLineOf_143 rfl ?_
      refine x_iconst (v := 1) dX10_readLineOf_144 (by decide) ?_
      refine x_iconst (v := 3) dX10_readLineOf_145 (by decide) ?_
      refine x_cv mf_X10_looked ml_X10_176 dX10_readLineOf_146 rfl sf_48 rfl ⟨by decide, by decide⟩ (Nat.le_of_ble_eq_true rfl) ⟨rfl, rfl⟩ ⟨Nat.le_of_ble_eq_true rfl, Nat.le_of_ble_eq_true rfl⟩ (c1) (fun r M2 ⟨hr, hM⟩ => ?_)
      subst hr; subst hM
      refine x_istore_n dX10_readLineOf_149 (by decide) ?_
      refine x_aload_n dX10_readLineOf_150 rfl ?_
      refine x_geti fl_X10_138 dX10_readLineOf_151 sf_48 rfl ?_
      refine x_if_ne 178 dX10_readLineOf_154 (by decide) (fun hc_ => absurd (h24) hc_) (fun _ => ?_)
      refine x_aload_n dX10_readLineOf_157 rfl ?_
      refine x_aload_n dX10_readLineOf_158 rfl ?_
      refine x_getr fl_X10_32 dX10_readLineOf_159 sf_48 rfl ?_
      refine x_iload_n dX10_readLineOf_162 rfl ?_
      refine x_iald dX10_readLineOf_163 sf_56 rfl (by omega) (by decide) ?_
      refine x_bipush (v := -4) dX10_readLineOf_164 (by decide) ?_
      refine x_icmp_ne 173 dX10_readLineOf_166 (by decide) (fun _ => ?_) (fun hc_ => absurd hc_ (hb))
      refine x_iconst (v := 0) dX10_readLineOf_173 (by decide) ?_
      refine x_iconst (v := 4) dX10_readLineOf_174 (by decide) ?_
      refine x_cvd mf_X10_needs ml_X10_172 dX10_readLineOf_175 rfl sf_48 rfl ⟨by decide, by decide⟩ (Nat.le_of_ble_eq_true rfl) ⟨rfl, rfl⟩ ⟨Nat.le_of_ble_eq_true rfl, Nat.le_of_ble_eq_true rfl⟩ (c_m_needsF 4 h24) ?_
      refine x_aload_n dX10_readLineOf_178 rfl ?_
      refine x_cvd mf_X10_next ml_X10_179 dX10_readLineOf_179 rfl sf_48 rfl ⟨by decide, by decide⟩ (Nat.le_of_ble_eq_true rfl) ⟨rfl, rfl⟩ ⟨Nat.le_of_ble_eq_true rfl, Nat.le_of_ble_eq_true rfl⟩ (c_m_nextZ (show (0 : Int32) < 4 by decide)) ?_
      refine x_aload_n dX10_readLineOf_182 rfl ?_
      refine x_getr fl_X10_32 dX10_readLineOf_183 sf_48 rfl ?_
      refine x_iload_n dX10_readLineOf_186 rfl ?_
      refine x_aload_n dX10_readLineOf_187 rfl ?_
      refine x_iconst (v := 0) dX10_readLineOf_188 (by decide) ?_
      refine x_bipush (v := 12) dX10_readLineOf_189 (by decide) ?_
      refine x_cvd mf_X10_readNumber ml_X10_186 dX10_readLineOf_191 rfl sf_48 rfl ⟨by decide, by decide⟩ (Nat.le_of_ble_eq_true rfl) ⟨rfl, rfl⟩ ⟨Nat.le_of_ble_eq_true rfl, Nat.le_of_ble_eq_true rfl⟩ (c_m_readNumberZ 0 12 (show (0 : Int32) < 4 by decide)) ?_
      refine x_iast dX10_readLineOf_194 sf_56 rfl (by omega) (by decide) ?_
      exact x_ret dX10_readLineOf_195 rfl (Nat.le_refl _) (Nat.le_refl _) ⟨rfl, ⟨rfl, (((Fp.rf _).up _ (Or.inr ⟨by decide, by decide⟩)).up _ (Or.inr ⟨by decide, by decide⟩)).up5 _ (Or.inr rfl), rfl, (show (0 : Int32) < 4 by decide), hL.1⟩⟩
theorem nmK_5 (t : Nat → Int32) (s e : Nat) : nmK t s e ≤ 5 := by
  unfold nmK
  repeat' split
  all_goals omega
theorem c_m_readLineOf {Z : List (Option Nat)} {ext : List Ds} {M : Mm} {t : Nat → Int32} {n s k : Nat} {D : Dr} (hk : k ≤ 4) (hT : TP t n M) (hL : Ld t n s (M 48)) (hK : tK t n s ≠ 4) (hs : s ≤ n) (hD : RD D M) : lK (lnK t n k D s) t n M (nI k) Z ext := by
  unfold lnK
  rcases (show k = 0 ∨ k = 1 ∨ k = 2 ∨ k = 3 ∨ k = 4 by omega) with rfl | rfl | rfl | rfl | rfl
  · exact c_m_lG hT hL hs hD
  · exact c_m_lO hT hL hK hs hD
  · exact c_m_lC hT hL hK hs hD
  · exact c_m_lZ hT hL hK hs hD
  · exact c_m_lS hT hL hK hs hD
theorem lnK_4 {t : Nat → Int32} {n s k : Nat} {D : Dr} (hK : tK t n s = 4) : lnK t n k D s = .inl (1, s) := by
  unfold lnK lkG lkO lkC lkZ lkS4
  rw [show (330 : Nat) = 329 + 1 from rfl, mnA, mnA]
  simp only [numA_n4 hK]
  repeat' split
  all_goals rfl

theorem mnA_le {t : Nat → Int32} {n : Nat} {lo hi : Int32} : ∀ (f : Nat) (go : Int32) (s : Nat) {g : Int32} {s' : Nat}, s ≤ n → mnA t n lo hi f go s = .inr (g, s') → s ≤ s' ∧ s' ≤ n
  | 0, go, s, g, s', _, h => by simp [mnA] at h
  | f + 1, go, s, g, s', hs, h => by
    rw [mnA] at h
    cases hN : numA t n lo hi s with
    | inl e => rw [hN] at h; cases h
    | inr v =>
      rw [hN] at h
      dsimp only at h
      have h1 := nx_gt (t := t) (n := n) (s := s) (tK_in (by rw [(numA_r hN).1]; decide))
      have h2 := nx_le (t := t) hs
      split at h
      · cases h
      · split at h
        · have := mnA_le f _ _ h2 h
          omega
        · injection h with h; injection h with h3 h4; subst h4; omega
theorem lnK_bd {t : Nat → Int32} {n s k s' : Nat} {D D' : Dr} (hs : s ≤ n) (h : lnK t n k D s = .inr (D', s')) : s ≤ s' ∧ s' ≤ n := by
  have hg : ∀ {lo hi v}, numA t n lo hi s = .inr v → s < nx t n s := fun hN => nx_gt (tK_in (by rw [(numA_r hN).1]; decide))
  have hg2 : ∀ {lo hi v}, numA t n lo hi (nx t n s) = .inr v → nx t n s < nx t n (nx t n s) := fun hN => nx_gt (tK_in (by rw [(numA_r hN).1]; decide))
  have hl := nx_le (t := t) hs
  have hl2 := nx_le (t := t) hl
  unfold lnK lkG lkO lkC lkZ lkS4 at h
  split at h
  · split at h
    · cases h
    · rename_i hN
      split at h
      · cases h
      · rename_i hN2
        have := hg hN; have := hg2 hN2
        injection h with h; injection h with h3 h4; subst h4; omega
  · split at h
    · split at h
      · cases h
      · rename_i hN
        have := mnA_le _ _ _ hs hN
        injection h with h; injection h with h3 h4; subst h4; omega
    · split at h
      · split at h
        · cases h
        · rename_i hN
          split at h
          · split at h
            · cases h
            · rename_i hN2
              have := hg hN; have := hg2 hN2
              injection h with h; injection h with h3 h4; subst h4; omega
          · cases h
      · split at h
        · split at h
          · cases h
          · rename_i hN
            have := mnA_le _ _ _ hs hN
            injection h with h; injection h with h3 h4; subst h4; omega
        · split at h
          · cases h
          · rename_i hN
            split at h
            · split at h
              · cases h
              · rename_i hN2
                have := hg hN; have := hg2 hN2
                injection h with h; injection h with h3 h4; subst h4; omega
            · cases h
theorem lnK_le {t : Nat → Int32} {n s k s' : Nat} {D D' : Dr} (hs : s ≤ n) (h : lnK t n k D s = .inr (D', s')) : s' ≤ n := (lnK_bd hs h).2
/-- what a line's call leaves -/
abbrev rlQ (Z : List (Option Nat)) (ext : List Ds) (X : Ex (Dr × Nat)) (t : Nat → Int32) (n : Nat) (M : Mm) : Fn := Fc mX10_readLine (fun r' S' M' => S' = SS Z ext ∧ exP X t n M r' M')
theorem rl_er {Z : List (Option Nat)} {ext : List Ds} {t : Nat → Int32} {n : Nat} {M M1 : Mm} {e : Int32 × Nat} {k : Int32} (hE : Er M1 e) (hF : Fp M M1) : XW mX10_readLine (rlQ Z ext (.inl e) t n M) 0 0 (SS Z ext) M1 55 [some (.ref 48), some (.int k)] [] := by
  refine x_aload_n dX10_readLine_55 rfl ?_
  refine x_cvd mf_X10_next ml_X10_179 dX10_readLine_56 rfl sf_48 rfl ⟨by decide, by decide⟩ (Nat.le_of_ble_eq_true rfl) ⟨rfl, rfl⟩ ⟨Nat.le_of_ble_eq_true rfl, Nat.le_of_ble_eq_true rfl⟩ (c_m_nextZ hE.pos) ?_
  refine x_aload_n dX10_readLine_59 rfl ?_
  refine x_geti fl_X10_138 dX10_readLine_60 sf_48 rfl ?_
  refine x_if_le 67 dX10_readLine_63 (by decide) (fun hc_ => absurd hc_ (pos_nle hE.pos)) (fun _ => ?_)
  exact x_ret dX10_readLine_66 rfl (Nat.le_refl _) (Nat.le_refl _) ⟨rfl, ⟨rfl, hF, hE⟩⟩
theorem rl_go {Z : List (Option Nat)} {ext : List Ds} {t : Nat → Int32} {n s k : Nat} {M M1 : Mm} {D : Dr} (hk : k ≤ 4) (hT : TP t n M1) (hL : Ld t n s (M1 48)) (hK : tK t n s ≠ 4) (hs : s ≤ n) (hD : RD D M1) (hF : Fp M M1) :
    XW mX10_readLine (rlQ Z ext (match lnK t n k D (nx t n s) with
    | .inl e => .inl e
    | .inr (D', s') => if tK t n s' = 3 then .inr (D', nx t n s') else .inl (mis (tK t n s'), s')) t n M) 0 0 (SS Z ext) M1 55 [some (.ref 48), some (.int (nI k))] [] := by
  have cn := c_m_nx (Z := Z) (ext := ext) hT hL hK hs
  have hnl := nx_le (t := t) hs
  by_cases hK4 : tK t n (nx t n s) = 4
  · rw [lnK_4 hK4]
    refine x_aload_n dX10_readLine_55 rfl ?_
    refine x_cv mf_X10_next ml_X10_179 dX10_readLine_56 rfl sf_48 rfl ⟨by decide, by decide⟩ (Nat.le_of_ble_eq_true rfl) ⟨rfl, rfl⟩ ⟨Nat.le_of_ble_eq_true rfl, Nat.le_of_ble_eq_true rfl⟩ (cn) (fun r M2 ⟨hr, hO2, hF2, hL2⟩ => ?_)
    subst hr
    refine x_aload_n dX10_readLine_59 rfl ?_
    refine x_geti fl_X10_138 dX10_readLine_60 sf_48 rfl ?_
    refine x_if_le 67 dX10_readLine_63 (by decide) (fun hc_ => absurd hc_ (pos_nle (hL2.er hK4).pos)) (fun _ => ?_)
    exact x_ret dX10_readLine_66 rfl (Nat.le_refl _) (Nat.le_refl _) ⟨rfl, ⟨rfl, hF.tr (Fp.on hO2 hF2), hL2.er hK4⟩⟩
  · have fin : ∀ M2, On48 M1 M2 → Frm M1 M2 → Ld t n (nx t n s) (M2 48) → XW mX10_readLine (rlQ Z ext (match lnK t n k D (nx t n s) with
    | .inl e => .inl e
    | .inr (D', s') => if tK t n s' = 3 then .inr (D', nx t n s') else .inl (mis (tK t n s'), s')) t n M) 0 0 (SS Z ext) M2 67 [some (.ref 48), some (.int (nI k))] [] := by
      intro M2 hO2 hF2 hL2
      have hT2 := hT.go (Fp.on hO2 hF2)
      have c2 := c_m_readLineOf (Z := Z) (ext := ext) hk hT2 hL2 hK4 hnl (hD.on hO2 hF2)
      have hF12 := hF.tr (Fp.on hO2 hF2)
      unfold lK exP at c2
      cases hX : lnK t n k D (nx t n s) with
      | inl e =>
        rw [hX] at c2
        dsimp only at c2 ⊢
        refine x_aload_n dX10_readLine_67 rfl ?_
        refine x_iload_n dX10_readLine_68 rfl ?_
        refine x_cv mf_X10_readLineOf ml_X10_198 dX10_readLine_69 rfl sf_48 rfl ⟨by decide, by decide⟩ (Nat.le_of_ble_eq_true rfl) ⟨rfl, rfl⟩ ⟨Nat.le_of_ble_eq_true rfl, Nat.le_of_ble_eq_true rfl⟩ (c2) (fun r M3 ⟨hr, hF3, hE⟩ => ?_)
        subst hr
        refine x_aload_n dX10_readLine_72 rfl ?_
        refine x_geti fl_X10_138 dX10_readLine_73 sf_48 rfl ?_
        refine x_if_ne 97 dX10_readLine_76 (by decide) (fun _ => ?_) (fun hc_ => absurd hc_ (pos_ne hE.pos))
        refine x_aload_n dX10_readLine_97 rfl ?_
        refine x_cvd mf_X10_next ml_X10_179 dX10_readLine_98 rfl sf_48 rfl ⟨by decide, by decide⟩ (Nat.le_of_ble_eq_true rfl) ⟨rfl, rfl⟩ ⟨Nat.le_of_ble_eq_true rfl, Nat.le_of_ble_eq_true rfl⟩ (c_m_nextZ hE.pos) ?_
        exact x_ret dX10_readLine_101 rfl (Nat.le_refl _) (Nat.le_refl _) ⟨rfl, ⟨rfl, hF12.tr hF3, hE⟩⟩
      | inr x =>
        obtain ⟨D', s'⟩ := x
        rw [hX] at c2
        dsimp only at c2 ⊢
        have hs' : s' ≤ n := lnK_le hnl hX
        by_cases h3 : tK t n s' = 3
        · rw [if_pos h3]
          refine x_aload_n dX10_readLine_67 rfl ?_
          refine x_iload_n dX10_readLine_68 rfl ?_
          refine x_cv mf_X10_readLineOf ml_X10_198 dX10_readLine_69 rfl sf_48 rfl ⟨by decide, by decide⟩ (Nat.le_of_ble_eq_true rfl) ⟨rfl, rfl⟩ ⟨Nat.le_of_ble_eq_true rfl, Nat.le_of_ble_eq_true rfl⟩ (c2) (fun r M3 ⟨hr, hF3, hD3, hL3⟩ => ?_)
          subst hr
          have hz := hL3.2.2 (by rw [h3]; decide)
          have cn3 := c_m_nx (Z := Z) (ext := ext) (hT2.go hF3) hL3 (by rw [h3]; decide) hs'
          refine x_aload_n dX10_readLine_72 rfl ?_
          refine x_geti fl_X10_138 dX10_readLine_73 sf_48 rfl ?_
          refine x_if_ne 97 dX10_readLine_76 (by decide) (fun hc_ => absurd (hz.1) hc_) (fun _ => ?_)
          refine x_aload_n dX10_readLine_79 rfl ?_
          refine x_aload_n dX10_readLine_80 rfl ?_
          refine x_geti fl_X10_158 dX10_readLine_81 sf_48 rfl ?_
          refine x_iconst (v := 3) dX10_readLine_84 (by decide) ?_
          refine x_icmp_ne 92 dX10_readLine_85 (by decide) (fun hc_ => absurd (by rw [hz.2.2.1, h3]; rfl) hc_) (fun _ => ?_)
          refine x_iconst (v := 1) dX10_readLine_88 (by decide) ?_
          refine x_goto 93 dX10_readLine_89 (by decide) ?_
          refine x_iconst (v := 2) dX10_readLine_93 (by decide) ?_
          refine x_cvd mf_X10_needs ml_X10_172 dX10_readLine_94 rfl sf_48 rfl ⟨by decide, by decide⟩ (Nat.le_of_ble_eq_true rfl) ⟨rfl, rfl⟩ ⟨Nat.le_of_ble_eq_true rfl, Nat.le_of_ble_eq_true rfl⟩ (c_m_needsT 2) ?_
          refine x_aload_n dX10_readLine_97 rfl ?_
          refine x_cv mf_X10_next ml_X10_179 dX10_readLine_98 rfl sf_48 rfl ⟨by decide, by decide⟩ (Nat.le_of_ble_eq_true rfl) ⟨rfl, rfl⟩ ⟨Nat.le_of_ble_eq_true rfl, Nat.le_of_ble_eq_true rfl⟩ (cn3) (fun r M4 ⟨hr, hO4, hF4, hL4⟩ => ?_)
          subst hr
          exact x_ret dX10_readLine_101 rfl (Nat.le_refl _) (Nat.le_refl _) ⟨rfl, ⟨rfl, (hF12.tr hF3).tr (Fp.on hO4 hF4), fun _ => (hD3 (by rw [h3]; decide)).on hO4 hF4, hL4⟩⟩
        · rw [if_neg h3]
          by_cases h4 : tK t n s' = 4
          · rw [h4]
            refine x_aload_n dX10_readLine_67 rfl ?_
            refine x_iload_n dX10_readLine_68 rfl ?_
            refine x_cv mf_X10_readLineOf ml_X10_198 dX10_readLine_69 rfl sf_48 rfl ⟨by decide, by decide⟩ (Nat.le_of_ble_eq_true rfl) ⟨rfl, rfl⟩ ⟨Nat.le_of_ble_eq_true rfl, Nat.le_of_ble_eq_true rfl⟩ (c2) (fun r M3 ⟨hr, hF3, hD3, hL3⟩ => ?_)
            subst hr
            have hE := hL3.er h4
            refine x_aload_n dX10_readLine_72 rfl ?_
            refine x_geti fl_X10_138 dX10_readLine_73 sf_48 rfl ?_
            refine x_if_ne 97 dX10_readLine_76 (by decide) (fun _ => ?_) (fun hc_ => absurd hc_ (pos_ne hE.pos))
            refine x_aload_n dX10_readLine_97 rfl ?_
            refine x_cvd mf_X10_next ml_X10_179 dX10_readLine_98 rfl sf_48 rfl ⟨by decide, by decide⟩ (Nat.le_of_ble_eq_true rfl) ⟨rfl, rfl⟩ ⟨Nat.le_of_ble_eq_true rfl, Nat.le_of_ble_eq_true rfl⟩ (c_m_nextZ hE.pos) ?_
            exact x_ret dX10_readLine_101 rfl (Nat.le_refl _) (Nat.le_refl _) ⟨rfl, ⟨rfl, hF12.tr hF3, hE⟩⟩
          · rw [mis_n h4]
            have hb4 := tK_4 (t := t) (n := n) (s := s')
            refine x_aload_n dX10_readLine_67 rfl ?_
            refine x_iload_n dX10_readLine_68 rfl ?_
            refine x_cv mf_X10_readLineOf ml_X10_198 dX10_readLine_69 rfl sf_48 rfl ⟨by decide, by decide⟩ (Nat.le_of_ble_eq_true rfl) ⟨rfl, rfl⟩ ⟨Nat.le_of_ble_eq_true rfl, Nat.le_of_ble_eq_true rfl⟩ (c2) (fun r M3 ⟨hr, hF3, hD3, hL3⟩ => ?_)
            subst hr
            have hz := hL3.2.2 h4
            refine x_aload_n dX10_readLine_72 rfl ?_
            refine x_geti fl_X10_138 dX10_readLine_73 sf_48 rfl ?_
            refine x_if_ne 97 dX10_readLine_76 (by decide) (fun hc_ => absurd (hz.1) hc_) (fun _ => ?_)
            refine x_aload_n dX10_readLine_79 rfl ?_
            refine x_aload_n dX10_readLine_80 rfl ?_
            refine x_geti fl_X10_158 dX10_readLine_81 sf_48 rfl ?_
            refine x_iconst (v := 3) dX10_readLine_84 (by decide) ?_
            refine x_icmp_ne 92 dX10_readLine_85 (by decide) (fun _ => ?_) (fun hc_ => absurd hc_ (fun q => h3 ((nI_eq (a := tK t n s') (b := 3) (by omega) (by omega)).mp (hz.2.2.1.symm.trans q))))
            refine x_iconst (v := 0) dX10_readLine_92 (by decide) ?_
            refine x_iconst (v := 2) dX10_readLine_93 (by decide) ?_
            refine x_cvd mf_X10_needs ml_X10_172 dX10_readLine_94 rfl sf_48 rfl ⟨by decide, by decide⟩ (Nat.le_of_ble_eq_true rfl) ⟨rfl, rfl⟩ ⟨Nat.le_of_ble_eq_true rfl, Nat.le_of_ble_eq_true rfl⟩ (c_m_needsF 2 hz.1) ?_
            refine x_aload_n dX10_readLine_97 rfl ?_
            refine x_cvd mf_X10_next ml_X10_179 dX10_readLine_98 rfl sf_48 rfl ⟨by decide, by decide⟩ (Nat.le_of_ble_eq_true rfl) ⟨rfl, rfl⟩ ⟨Nat.le_of_ble_eq_true rfl, Nat.le_of_ble_eq_true rfl⟩ (c_m_nextZ (show (0 : Int32) < 2 by decide)) ?_
            exact x_ret dX10_readLine_101 rfl (Nat.le_refl _) (Nat.le_refl _) ⟨rfl, ⟨rfl, ((hF12.tr hF3).up _ (Or.inr ⟨by decide, by decide⟩)).up _ (Or.inr ⟨by decide, by decide⟩), rfl, (show (0 : Int32) < 2 by decide), hL3.1⟩⟩
    refine x_aload_n dX10_readLine_55 rfl ?_
    refine x_cv mf_X10_next ml_X10_179 dX10_readLine_56 rfl sf_48 rfl ⟨by decide, by decide⟩ (Nat.le_of_ble_eq_true rfl) ⟨rfl, rfl⟩ ⟨Nat.le_of_ble_eq_true rfl, Nat.le_of_ble_eq_true rfl⟩ (cn) (fun r M2 ⟨hr, hO2, hF2, hL2⟩ => ?_)
    subst hr
    refine x_aload_n dX10_readLine_59 rfl ?_
    refine x_geti fl_X10_138 dX10_readLine_60 sf_48 rfl ?_
    refine x_if_le 67 dX10_readLine_63 (by decide) (fun _ => ?_) (fun hc_ => absurd (by rw [(hL2.2.2 hK4).1]; decide) hc_)
    exact fin _ hO2 hF2 hL2
theorem c_m_readLine {Z : List (Option Nat)} {ext : List Ds} {M : Mm} {t : Nat → Int32} {n s : Nat} {D : Dr} (hT : TP t n M) (hL : Ld t n s (M 48)) (hK : tK t n s ≠ 4) (hs : s ≤ n) (hD : RD D M) : Ct mX10_readLine [.ref 48] (SS Z ext) M (exP (lne t n D s) t n M) := by
  unfold lne
  obtain ⟨h24, h20, h22, h23⟩ := hL.2.2 hK
  have hb4 := tK_4 (t := t) (n := n) (s := s)
  have hE2 : Er (up2 (up2 M 48 24 2) 48 25 (M 48 21)) (2, s) := ⟨rfl, (show (0 : Int32) < 2 by decide), hL.1⟩
  have hE4 : Er (up2 (up2 M 48 24 4) 48 25 (M 48 21)) (4, s) := ⟨rfl, (show (0 : Int32) < 4 by decide), hL.1⟩
  have hF2 : ∀ v, Fp M (up2 (up2 M 48 24 v) 48 25 (M 48 21)) := fun v => ((Fp.rf M).up _ (Or.inr ⟨by decide, by decide⟩)).up _ (Or.inr ⟨by decide, by decide⟩)
  by_cases hK1 : tK t n s = 1
  · rw [if_pos hK1]
    have hsn : s < n := tK_in (by rw [hK1]; decide)
    have cl := c_m_lineNow (Z := Z) (ext := ext) (M := M) (n := n) (s := s) (e := tE t n s) hT.2.1 hT.2.2.1 h20 hL.1 (Nat.le_of_lt (tE_gt hsn)) (tE_le hs)
    rw [hT.1] at cl
    have hk5 := nmK_5 t s (tE t n s)
    generalize nmK t s (tE t n s) = k at cl hk5 ⊢
    by_cases h5 : k = 5
    · rw [if_pos h5]
      rw [lnV, if_pos h5] at cl
      refine Ct.of (by decide) (Nat.le_of_ble_eq_true rfl) ?_
      refine x_aload_n dX10_readLine_0 rfl ?_
      refine x_geti fl_X10_158 dX10_readLine_1 sf_48 rfl ?_
      refine x_iconst (v := 1) dX10_readLine_4 (by decide) ?_
      refine x_icmp_ne 15 dX10_readLine_5 (by decide) (fun hc_ => absurd (by rw [h22, hK1]; rfl) hc_) (fun _ => ?_)
      refine x_aload_n dX10_readLine_8 rfl ?_
      refine x_cvd mf_X10_lineNow ml_X10_195 dX10_readLine_9 rfl sf_48 rfl ⟨by decide, by decide⟩ (Nat.le_of_ble_eq_true rfl) ⟨rfl, rfl⟩ ⟨Nat.le_of_ble_eq_true rfl, Nat.le_of_ble_eq_true rfl⟩ (cl) ?_
      refine x_goto 17 dX10_readLine_12 (by decide) ?_
      refine x_istore_n dX10_readLine_17 (by decide) ?_
      refine x_aload_n dX10_readLine_18 rfl ?_
      refine x_iload_n dX10_readLine_19 rfl ?_
      refine x_bipush (v := -4) dX10_readLine_20 (by decide) ?_
      refine x_icmp_eq 29 dX10_readLine_22 (by decide) (fun _ => ?_) (fun hc_ => absurd (rfl) hc_)
      refine x_iconst (v := 0) dX10_readLine_29 (by decide) ?_
      refine x_iconst (v := 2) dX10_readLine_30 (by decide) ?_
      refine x_cvd mf_X10_needs ml_X10_172 dX10_readLine_31 rfl sf_48 rfl ⟨by decide, by decide⟩ (Nat.le_of_ble_eq_true rfl) ⟨rfl, rfl⟩ ⟨Nat.le_of_ble_eq_true rfl, Nat.le_of_ble_eq_true rfl⟩ (c_m_needsF 2 h24) ?_
      refine x_aload_n dX10_readLine_34 rfl ?_
      refine x_iload_n dX10_readLine_35 rfl ?_
      refine x_if_ne 46 dX10_readLine_36 (by decide) (fun _ => ?_) (fun hc_ => absurd hc_ (by decide))
      refine x_iconst (v := 1) dX10_readLine_46 (by decide) ?_
      refine x_goto 51 dX10_readLine_47 (by decide) ?_
      refine x_iconst (v := 4) dX10_readLine_51 (by decide) ?_
      refine x_cvd mf_X10_needs ml_X10_172 dX10_readLine_52 rfl sf_48 rfl ⟨by decide, by decide⟩ (Nat.le_of_ble_eq_true rfl) ⟨rfl, rfl⟩ ⟨Nat.le_of_ble_eq_true rfl, Nat.le_of_ble_eq_true rfl⟩ (c_m_needsT 4) ?_
      exact rl_er hE2 (hF2 2)
    · rw [if_neg h5]
      rw [lnV, if_neg h5] at cl
      have hne4 : ¬ nI k = -4 := fun q => by
        have h0 : 0 ≤ nI k := nI_pos' (by omega)
        rw [q] at h0
        revert h0; decide
      by_cases h0 : k = 0
      · subst h0
        cases hg : D.1.2.2 with
        | true =>
          rw [if_pos ⟨rfl, rfl⟩]
          refine Ct.of (by decide) (Nat.le_of_ble_eq_true rfl) ?_
          refine x_aload_n dX10_readLine_0 rfl ?_
          refine x_geti fl_X10_158 dX10_readLine_1 sf_48 rfl ?_
          refine x_iconst (v := 1) dX10_readLine_4 (by decide) ?_
          refine x_icmp_ne 15 dX10_readLine_5 (by decide) (fun hc_ => absurd (by rw [h22, hK1]; rfl) hc_) (fun _ => ?_)
          refine x_aload_n dX10_readLine_8 rfl ?_
          refine x_cvd mf_X10_lineNow ml_X10_195 dX10_readLine_9 rfl sf_48 rfl ⟨by decide, by decide⟩ (Nat.le_of_ble_eq_true rfl) ⟨rfl, rfl⟩ ⟨Nat.le_of_ble_eq_true rfl, Nat.le_of_ble_eq_true rfl⟩ (cl) ?_
          refine x_goto 17 dX10_readLine_12 (by decide) ?_
          refine x_istore_n dX10_readLine_17 (by decide) ?_
          refine x_aload_n dX10_readLine_18 rfl ?_
          refine x_iload_n dX10_readLine_19 rfl ?_
          refine x_bipush (v := -4) dX10_readLine_20 (by decide) ?_
          refine x_icmp_eq 29 dX10_readLine_22 (by decide) (fun hc_ => absurd hc_ (hne4)) (fun _ => ?_)
          refine x_iconst (v := 1) dX10_readLine_25 (by decide) ?_
          refine x_goto 30 dX10_readLine_26 (by decide) ?_
          refine x_iconst (v := 2) dX10_readLine_30 (by decide) ?_
          refine x_cvd mf_X10_needs ml_X10_172 dX10_readLine_31 rfl sf_48 rfl ⟨by decide, by decide⟩ (Nat.le_of_ble_eq_true rfl) ⟨rfl, rfl⟩ ⟨Nat.le_of_ble_eq_true rfl, Nat.le_of_ble_eq_true rfl⟩ (c_m_needsT 2) ?_
          refine x_aload_n dX10_readLine_34 rfl ?_
          refine x_iload_n dX10_readLine_35 rfl ?_
          refine x_if_ne 46 dX10_readLine_36 (by decide) (fun hc_ => absurd (rfl) hc_) (fun _ => ?_)
          refine x_aload_n dX10_readLine_39 rfl ?_
          refine x_geti fl_X10_96 dX10_readLine_40 sf_48 rfl ?_
          refine x_if_ne 50 dX10_readLine_43 (by decide) (fun _ => ?_) (fun hc_ => absurd hc_ (by rw [hD.2.2.1, hg]; decide))
          refine x_iconst (v := 0) dX10_readLine_50 (by decide) ?_
          refine x_iconst (v := 4) dX10_readLine_51 (by decide) ?_
          refine x_cvd mf_X10_needs ml_X10_172 dX10_readLine_52 rfl sf_48 rfl ⟨by decide, by decide⟩ (Nat.le_of_ble_eq_true rfl) ⟨rfl, rfl⟩ ⟨Nat.le_of_ble_eq_true rfl, Nat.le_of_ble_eq_true rfl⟩ (c_m_needsF 4 h24) ?_
          exact rl_er hE4 (hF2 4)
        | false =>
          rw [if_neg (fun q => Bool.false_ne_true q.2)]
          have fin := rl_go (Z := Z) (ext := ext) (M := M) (k := 0) (by omega) hT hL hK hs hD (Fp.rf M)
          refine Ct.of (by decide) (Nat.le_of_ble_eq_true rfl) ?_
          refine x_aload_n dX10_readLine_0 rfl ?_
          refine x_geti fl_X10_158 dX10_readLine_1 sf_48 rfl ?_
          refine x_iconst (v := 1) dX10_readLine_4 (by decide) ?_
          refine x_icmp_ne 15 dX10_readLine_5 (by decide) (fun hc_ => absurd (by rw [h22, hK1]; rfl) hc_) (fun _ => ?_)
          refine x_aload_n dX10_readLine_8 rfl ?_
          refine x_cvd mf_X10_lineNow ml_X10_195 dX10_readLine_9 rfl sf_48 rfl ⟨by decide, by decide⟩ (Nat.le_of_ble_eq_true rfl) ⟨rfl, rfl⟩ ⟨Nat.le_of_ble_eq_true rfl, Nat.le_of_ble_eq_true rfl⟩ (cl) ?_
          refine x_goto 17 dX10_readLine_12 (by decide) ?_
          refine x_istore_n dX10_readLine_17 (by decide) ?_
          refine x_aload_n dX10_readLine_18 rfl ?_
          refine x_iload_n dX10_readLine_19 rfl ?_
          refine x_bipush (v := -4) dX10_readLine_20 (by decide) ?_
          refine x_icmp_eq 29 dX10_readLine_22 (by decide) (fun hc_ => absurd hc_ (hne4)) (fun _ => ?_)
          refine x_iconst (v := 1) dX10_readLine_25 (by decide) ?_
          refine x_goto 30 dX10_readLine_26 (by decide) ?_
          refine x_iconst (v := 2) dX10_readLine_30 (by decide) ?_
          refine x_cvd mf_X10_needs ml_X10_172 dX10_readLine_31 rfl sf_48 rfl ⟨by decide, by decide⟩ (Nat.le_of_ble_eq_true rfl) ⟨rfl, rfl⟩ ⟨Nat.le_of_ble_eq_true rfl, Nat.le_of_ble_eq_true rfl⟩ (c_m_needsT 2) ?_
          refine x_aload_n dX10_readLine_34 rfl ?_
          refine x_iload_n dX10_readLine_35 rfl ?_
          refine x_if_ne 46 dX10_readLine_36 (by decide) (fun hc_ => absurd (rfl) hc_) (fun _ => ?_)
          refine x_aload_n dX10_readLine_39 rfl ?_
          refine x_geti fl_X10_96 dX10_readLine_40 sf_48 rfl ?_
          refine x_if_ne 50 dX10_readLine_43 (by decide) (fun hc_ => absurd (by rw [hD.2.2.1, hg]; rfl) hc_) (fun _ => ?_)
          refine x_iconst (v := 1) dX10_readLine_46 (by decide) ?_
          refine x_goto 51 dX10_readLine_47 (by decide) ?_
          refine x_iconst (v := 4) dX10_readLine_51 (by decide) ?_
          refine x_cvd mf_X10_needs ml_X10_172 dX10_readLine_52 rfl sf_48 rfl ⟨by decide, by decide⟩ (Nat.le_of_ble_eq_true rfl) ⟨rfl, rfl⟩ ⟨Nat.le_of_ble_eq_true rfl, Nat.le_of_ble_eq_true rfl⟩ (c_m_needsT 4) ?_
          exact fin
      · rw [if_neg (fun q => h0 q.1)]
        have fin := rl_go (Z := Z) (ext := ext) (M := M) (k := k) (by omega) hT hL hK hs hD (Fp.rf M)
        refine Ct.of (by decide) (Nat.le_of_ble_eq_true rfl) ?_
        refine x_aload_n dX10_readLine_0 rfl ?_
        refine x_geti fl_X10_158 dX10_readLine_1 sf_48 rfl ?_
        refine x_iconst (v := 1) dX10_readLine_4 (by decide) ?_
        refine x_icmp_ne 15 dX10_readLine_5 (by decide) (fun hc_ => absurd (by rw [h22, hK1]; rfl) hc_) (fun _ => ?_)
        refine x_aload_n dX10_readLine_8 rfl ?_
        refine x_cvd mf_X10_lineNow ml_X10_195 dX10_readLine_9 rfl sf_48 rfl ⟨by decide, by decide⟩ (Nat.le_of_ble_eq_true rfl) ⟨rfl, rfl⟩ ⟨Nat.le_of_ble_eq_true rfl, Nat.le_of_ble_eq_true rfl⟩ (cl) ?_
        refine x_goto 17 dX10_readLine_12 (by decide) ?_
        refine x_istore_n dX10_readLine_17 (by decide) ?_
        refine x_aload_n dX10_readLine_18 rfl ?_
        refine x_iload_n dX10_readLine_19 rfl ?_
        refine x_bipush (v := -4) dX10_readLine_20 (by decide) ?_
        refine x_icmp_eq 29 dX10_readLine_22 (by decide) (fun hc_ => absurd hc_ (hne4)) (fun _ => ?_)
        refine x_iconst (v := 1) dX10_readLine_25 (by decide) ?_
        refine x_goto 30 dX10_readLine_26 (by decide) ?_
        refine x_iconst (v := 2) dX10_readLine_30 (by decide) ?_
        refine x_cvd mf_X10_needs ml_X10_172 dX10_readLine_31 rfl sf_48 rfl ⟨by decide, by decide⟩ (Nat.le_of_ble_eq_true rfl) ⟨rfl, rfl⟩ ⟨Nat.le_of_ble_eq_true rfl, Nat.le_of_ble_eq_true rfl⟩ (c_m_needsT 2) ?_
        refine x_aload_n dX10_readLine_34 rfl ?_
        refine x_iload_n dX10_readLine_35 rfl ?_
        refine x_if_ne 46 dX10_readLine_36 (by decide) (fun _ => ?_) (fun hc_ => absurd hc_ (fun q => h0 ((nI_eq (a := k) (b := 0) (by omega) (by omega)).mp q)))
        refine x_iconst (v := 1) dX10_readLine_46 (by decide) ?_
        refine x_goto 51 dX10_readLine_47 (by decide) ?_
        refine x_iconst (v := 4) dX10_readLine_51 (by decide) ?_
        refine x_cvd mf_X10_needs ml_X10_172 dX10_readLine_52 rfl sf_48 rfl ⟨by decide, by decide⟩ (Nat.le_of_ble_eq_true rfl) ⟨rfl, rfl⟩ ⟨Nat.le_of_ble_eq_true rfl, Nat.le_of_ble_eq_true rfl⟩ (c_m_needsT 4) ?_
        exact fin
  · rw [if_neg hK1, mis_n hK]
    refine Ct.of (by decide) (Nat.le_of_ble_eq_true rfl) ?_
    refine x_aload_n dX10_readLine_0 rfl ?_
    refine x_geti fl_X10_158 dX10_readLine_1 sf_48 rfl ?_
    refine x_iconst (v := 1) dX10_readLine_4 (by decide) ?_
    refine x_icmp_ne 15 dX10_readLine_5 (by decide) (fun _ => ?_) (fun hc_ => absurd hc_ (fun q => hK1 ((nI_eq (a := tK t n s) (b := 1) (by omega) (by omega)).mp (h22.symm.trans q))))
    refine x_bipush (v := -4) dX10_readLine_15 (by decide) ?_
    refine x_istore_n dX10_readLine_17 (by decide) ?_
    refine x_aload_n dX10_readLine_18 rfl ?_
    refine x_iload_n dX10_readLine_19 rfl ?_
    refine x_bipush (v := -4) dX10_readLine_20 (by decide) ?_
    refine x_icmp_eq 29 dX10_readLine_22 (by decide) (fun _ => ?_) (fun hc_ => absurd (rfl) hc_)
    refine x_iconst (v := 0) dX10_readLine_29 (by decide) ?_
    refine x_iconst (v := 2) dX10_readLine_30 (by decide) ?_
    refine x_cvd mf_X10_needs ml_X10_172 dX10_readLine_31 rfl sf_48 rfl ⟨by decide, by decide⟩ (Nat.le_of_ble_eq_true rfl) ⟨rfl, rfl⟩ ⟨Nat.le_of_ble_eq_true rfl, Nat.le_of_ble_eq_true rfl⟩ (c_m_needsF 2 h24) ?_
    refine x_aload_n dX10_readLine_34 rfl ?_
    refine x_iload_n dX10_readLine_35 rfl ?_
    refine x_if_ne 46 dX10_readLine_36 (by decide) (fun _ => ?_) (fun hc_ => absurd hc_ (by decide))
    refine x_iconst (v := 1) dX10_readLine_46 (by decide) ?_
    refine x_goto 51 dX10_readLine_47 (by decide) ?_
    refine x_iconst (v := 4) dX10_readLine_51 (by decide) ?_
    refine x_cvd mf_X10_needs ml_X10_172 dX10_readLine_52 rfl sf_48 rfl ⟨by decide, by decide⟩ (Nat.le_of_ble_eq_true rfl) ⟨rfl, rfl⟩ ⟨Nat.le_of_ble_eq_true rfl, Nat.le_of_ble_eq_true rfl⟩ (c_m_needsT 4) ?_
    exact rl_er hE2 (hF2 2)
