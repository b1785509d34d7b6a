/-! ===== the class: step, says ===== -/
abbrev stP (t : Nat → Int32) (n s : Nat) (M : Mm) (r : Option Value) (M' : Mm) : Prop := r = none ∧ On13 M M' ∧ CLd t n s (M' 13)
abbrev stQ (Z : List (Option Nat)) (ext : List Ds) (t : Nat → Int32) (n s : Nat) (M : Mm) : Fn := Fc mX7_step (fun r S' M' => S' = SS Z ext ∧ stP t n s M r M')
theorem tK_az {t : Nat → Int32} {n s : Nat} (hs : s < n) (h1 : cAZ (t s) = true) : tK t n s = 1 := by
  rw [tK, if_neg (by omega), if_pos h1]
theorem tE_az {t : Nat → Int32} {n s : Nat} (hs : s < n) (h1 : cAZ (t s) = true) : tE t n s = rn cAZ t n s := by
  rw [tE, if_neg (by omega), if_pos h1]
theorem st_125 {Z : List (Option Nat)} {ext : List Ds} {M X : Mm} {n s : Nat} (h1 : X 13 1 = nI n) (hn : n ≤ 320) (h5 : X 13 5 = nI s) (h3 : X 13 3 = nI s) (hs : s < n) (hO : On13 M X) (hc : cAZ (X 14 s) = true) : XW mX7_step (stQ Z ext (X 14) n s M) 0 0 (SS Z ext) X 125 [some (.ref 13)] [] := by
  have cp := c_pass (Z := Z) (ext := ext) (M := up2 X 13 2 1) (n := n) (p := s) (e := rn cAZ (X 14) n s) 97 122 h1 hn h5 (by omega) rfl
  have hK := tK_az hs hc
  have hE := tE_az hs hc
  refine x_aload_n dX7_step_125 rfl ?_
  refine x_iconst (v := 1) dX7_step_126 (by decide) ?_
  refine x_put fl_X7_23 dX7_step_127 sf_13 rfl rfl rfl ?_
  refine x_aload_n dX7_step_130 rfl ?_
  refine x_bipush (v := 97) dX7_step_131 (by decide) ?_
  refine x_bipush (v := 122) dX7_step_133 (by decide) ?_
  refine x_cvd mf_X7_pass ml_X7_26 dX7_step_135 rfl sf_13 rfl ⟨by decide, by decide⟩ (Nat.le_of_ble_eq_true rfl) ⟨rfl, rfl⟩ ⟨Nat.le_of_ble_eq_true rfl, Nat.le_of_ble_eq_true rfl⟩ (cp) ?_
  refine x_goto 189 dX7_step_138 (by decide) ?_
  exact x_ret dX7_step_189 rfl (Nat.le_refl _) (Nat.le_refl _) ⟨rfl, ⟨rfl, (hO.up _ (by decide)).up _ (by decide), h3, (show (1 : Int32) = nI (tK (X 14) n s) by rw [hK]; rfl), fun _ => (show nI (rn cAZ (X 14) n s) = _ by rw [hE]), fun q => absurd q (by rw [hK]; decide)⟩⟩
theorem st_169 {Z : List (Option Nat)} {ext : List Ds} {M X : Mm} {n s : Nat} (h1 : X 13 1 = nI n) (hn : n ≤ 320) (h5 : X 13 5 = nI s) (h3 : X 13 3 = nI s) (hs : s < n) (hO : On13 M X) (hc : c09 (X 14 s) = true) : XW mX7_step (stQ Z ext (X 14) n s M) 0 0 (SS Z ext) X 169 [some (.ref 13)] [] := by
  have cp := c_pass (Z := Z) (ext := ext) (M := X) (n := n) (p := s) (e := rn c09 (X 14) n s) 48 57 h1 hn h5 (by omega) rfl
  have hle : rn c09 (X 14) n s ≤ n := rn_le (by omega)
  have ct := c_takeNumber (Z := Z) (ext := ext) (M := up2 X 13 5 (nI (rn c09 (X 14) n s))) (s := s) (e := rn c09 (X 14) n s) h3 rfl (rn_ge _ _ _ _) (by omega)
  have hK := tK_09 hs hc
  have hE := tE_09 hs hc
  unfold tnM at ct
  by_cases h2 : rn c09 (X 14) n s - s ≤ 2
  · rw [if_pos h2] at ct hK
    refine x_aload_n dX7_step_169 rfl ?_
    refine x_bipush (v := 48) dX7_step_170 (by decide) ?_
    refine x_bipush (v := 57) dX7_step_172 (by decide) ?_
    refine x_cvd mf_X7_pass ml_X7_26 dX7_step_174 rfl sf_13 rfl ⟨by decide, by decide⟩ (Nat.le_of_ble_eq_true rfl) ⟨rfl, rfl⟩ ⟨Nat.le_of_ble_eq_true rfl, Nat.le_of_ble_eq_true rfl⟩ (cp) ?_
    refine x_aload_n dX7_step_177 rfl ?_
    refine x_cvd mf_X7_takeNumber ml_X7_30 dX7_step_178 rfl sf_13 rfl ⟨by decide, by decide⟩ (Nat.le_of_ble_eq_true rfl) ⟨rfl, rfl⟩ ⟨Nat.le_of_ble_eq_true rfl, Nat.le_of_ble_eq_true rfl⟩ (ct) ?_
    refine x_goto 189 dX7_step_181 (by decide) ?_
    exact x_ret dX7_step_189 rfl (Nat.le_refl _) (Nat.le_refl _) ⟨rfl, ⟨rfl, ((hO.up _ (by decide)).up _ (by decide)).up _ (by decide), h3, (show (2 : Int32) = nI (tK (X 14) n s) by rw [hK]; rfl), fun _ => (show nI (rn c09 (X 14) n s) = _ by rw [hE]), fun _ => rfl⟩⟩
  · rw [if_neg h2] at ct hK
    refine x_aload_n dX7_step_169 rfl ?_
    refine x_bipush (v := 48) dX7_step_170 (by decide) ?_
    refine x_bipush (v := 57) dX7_step_172 (by decide) ?_
    refine x_cvd mf_X7_pass ml_X7_26 dX7_step_174 rfl sf_13 rfl ⟨by decide, by decide⟩ (Nat.le_of_ble_eq_true rfl) ⟨rfl, rfl⟩ ⟨Nat.le_of_ble_eq_true rfl, Nat.le_of_ble_eq_true rfl⟩ (cp) ?_
    refine x_aload_n dX7_step_177 rfl ?_
    refine x_cvd mf_X7_takeNumber ml_X7_30 dX7_step_178 rfl sf_13 rfl ⟨by decide, by decide⟩ (Nat.le_of_ble_eq_true rfl) ⟨rfl, rfl⟩ ⟨Nat.le_of_ble_eq_true rfl, Nat.le_of_ble_eq_true rfl⟩ (ct) ?_
    refine x_goto 189 dX7_step_181 (by decide) ?_
    exact x_ret dX7_step_189 rfl (Nat.le_refl _) (Nat.le_refl _) ⟨rfl, ⟨rfl, ((hO.up _ (by decide)).up _ (by decide)).up _ (by decide), h3, (show (4 : Int32) = nI (tK (X 14) n s) by rw [hK]; rfl), fun q => absurd hK q, fun q => absurd (hK.symm.trans q) (by decide)⟩⟩
theorem st_141 {Z : List (Option Nat)} {ext : List Ds} {M X : Mm} {n s : Nat} (h1 : X 13 1 = nI n) (hn : n ≤ 320) (h5 : X 13 5 = nI s) (h3 : X 13 3 = nI s) (hs : s < n) (hO : On13 M X) (h59 : ¬ X 14 s = 59) (hc : cAZ (X 14 s) = false) : XW mX7_step (stQ Z ext (X 14) n s M) 0 0 (SS Z ext) X 141 [some (.ref 13)] [] := by
  have fin : c09 (X 14 s) = false → XW mX7_step (stQ Z ext (X 14) n s M) 0 0 (SS Z ext) X 184 [some (.ref 13)] [] := by
    intro h9
    have hK := tK_no hs hc h9
    rw [decide_eq_false h59, if_neg (by decide)] at hK
    refine x_aload_n dX7_step_184 rfl ?_
    refine x_iconst (v := 4) dX7_step_185 (by decide) ?_
    refine x_put fl_X7_23 dX7_step_186 sf_13 rfl rfl rfl ?_
    exact x_ret dX7_step_189 rfl (Nat.le_refl _) (Nat.le_refl _) ⟨rfl, ⟨rfl, hO.up _ (by decide), h3, (show (4 : Int32) = nI (tK (X 14) n s) by rw [hK]; rfl), fun q => absurd hK q, fun q => absurd (hK.symm.trans q) (by decide)⟩⟩
  refine x_aload_n dX7_step_141 rfl ?_
  refine x_getr fl_X7_9 dX7_step_142 sf_13 rfl ?_
  refine x_aload_n dX7_step_145 rfl ?_
  refine x_geti fl_X7_17 dX7_step_146 sf_13 rfl ?_
  refine x_bald dX7_step_149 sf_14 (q := s) h5 (by omega) (by decide) ?_
  refine x_bipush (v := 48) dX7_step_150 (by decide) ?_
  refine x_icmp_lt 184 dX7_step_152 (by decide) (fun h152 => ?_) (fun h152 => ?_)
  · exact fin (by first | exact rg_f1 h152 | exact rg_f2 h166)
  · refine x_aload_n dX7_step_155 rfl ?_
    refine x_getr fl_X7_9 dX7_step_156 sf_13 rfl ?_
    refine x_aload_n dX7_step_159 rfl ?_
    refine x_geti fl_X7_17 dX7_step_160 sf_13 rfl ?_
    refine x_bald dX7_step_163 sf_14 (q := s) h5 (by omega) (by decide) ?_
    refine x_bipush (v := 57) dX7_step_164 (by decide) ?_
    refine x_icmp_gt 184 dX7_step_166 (by decide) (fun h166 => ?_) (fun h166 => ?_)
    · exact fin (by first | exact rg_f1 h152 | exact rg_f2 h166)
    · exact st_169 h1 hn h5 h3 hs hO (rg_t1 h152 h166)
theorem st_38 {Z : List (Option Nat)} {ext : List Ds} {M X : Mm} {n s : Nat} (h1 : X 13 1 = nI n) (hn : n ≤ 320) (h5 : X 13 5 = nI s) (hs : s ≤ n) (hO : On13 M X) : XW mX7_step (stQ Z ext (X 14) n s M) 0 0 (SS Z ext) X 38 [some (.ref 13)] [] := by
  have hO3 : On13 M (up2 X 13 3 (X 13 5)) := hO.up _ (by decide)
  by_cases hsn : s < n
  · by_cases h59 : X 14 s = 59
    · have hz : cAZ (X 14 s) = false := by rw [h59]; decide
      have hz9 : c09 (X 14 s) = false := by rw [h59]; decide
      have hK := tK_no hsn hz hz9
      rw [decide_eq_true h59, if_pos rfl] at hK
      have hE := tE_no hsn hz hz9
      refine x_aload_n dX7_step_38 rfl ?_
      refine x_aload_n dX7_step_39 rfl ?_
      refine x_geti fl_X7_17 dX7_step_40 sf_13 rfl ?_
      refine x_put fl_X7_20 dX7_step_43 sf_13 rfl rfl rfl ?_
      refine x_aload_n dX7_step_46 rfl ?_
      refine x_geti fl_X7_17 dX7_step_47 sf_13 rfl ?_
      refine x_aload_n dX7_step_50 rfl ?_
      refine x_geti fl_X7_13 dX7_step_51 sf_13 rfl ?_
      refine x_icmp_lt 65 dX7_step_54 (by decide) (fun _ => ?_) (fun hc_ => absurd (by show X 13 5 < X 13 1; rw [h5, h1]; exact nI_lt hsn (by omega)) hc_)
      refine x_aload_n dX7_step_65 rfl ?_
      refine x_getr fl_X7_9 dX7_step_66 sf_13 rfl ?_
      refine x_aload_n dX7_step_69 rfl ?_
      refine x_geti fl_X7_17 dX7_step_70 sf_13 rfl ?_
      refine x_bald dX7_step_73 sf_14 (q := s) h5 (by omega) (by decide) ?_
      refine x_bipush (v := 59) dX7_step_74 (by decide) ?_
      refine x_icmp_ne 97 dX7_step_76 (by decide) (fun hc_ => absurd (h59) hc_) (fun _ => ?_)
      refine x_aload_n dX7_step_79 rfl ?_
      refine x_iconst (v := 3) dX7_step_80 (by decide) ?_
      refine x_put fl_X7_23 dX7_step_81 sf_13 rfl rfl rfl ?_
      refine x_aload_n dX7_step_84 rfl ?_
      refine x_dup dX7_step_85 rfl ?_
      refine x_geti fl_X7_17 dX7_step_86 sf_13 rfl ?_
      refine x_iconst (v := 1) dX7_step_89 (by decide) ?_
      refine x_iadd dX7_step_90 ?_
      refine x_put fl_X7_17 dX7_step_91 sf_13 rfl rfl rfl ?_
      refine x_goto 189 dX7_step_94 (by decide) ?_
      exact x_ret dX7_step_189 rfl (Nat.le_refl _) (Nat.le_refl _) ⟨rfl, ⟨rfl, (hO3.up _ (by decide)).up _ (by decide), h5, (show (3 : Int32) = nI (tK (X 14) n s) by rw [hK]; rfl), fun _ => (show X 13 5 + 1 = _ by rw [h5, hE, nI_1]), fun q => absurd q (by rw [hK]; decide)⟩⟩
    · refine x_aload_n dX7_step_38 rfl ?_
      refine x_aload_n dX7_step_39 rfl ?_
      refine x_geti fl_X7_17 dX7_step_40 sf_13 rfl ?_
      refine x_put fl_X7_20 dX7_step_43 sf_13 rfl rfl rfl ?_
      refine x_aload_n dX7_step_46 rfl ?_
      refine x_geti fl_X7_17 dX7_step_47 sf_13 rfl ?_
      refine x_aload_n dX7_step_50 rfl ?_
      refine x_geti fl_X7_13 dX7_step_51 sf_13 rfl ?_
      refine x_icmp_lt 65 dX7_step_54 (by decide) (fun _ => ?_) (fun hc_ => absurd (by show X 13 5 < X 13 1; rw [h5, h1]; exact nI_lt hsn (by omega)) hc_)
      refine x_aload_n dX7_step_65 rfl ?_
      refine x_getr fl_X7_9 dX7_step_66 sf_13 rfl ?_
      refine x_aload_n dX7_step_69 rfl ?_
      refine x_geti fl_X7_17 dX7_step_70 sf_13 rfl ?_
      refine x_bald dX7_step_73 sf_14 (q := s) h5 (by omega) (by decide) ?_
      refine x_bipush (v := 59) dX7_step_74 (by decide) ?_
      refine x_icmp_ne 97 dX7_step_76 (by decide) (fun _ => ?_) (fun hc_ => absurd hc_ (h59))
      refine x_aload_n dX7_step_97 rfl ?_
      refine x_getr fl_X7_9 dX7_step_98 sf_13 rfl ?_
      refine x_aload_n dX7_step_101 rfl ?_
      refine x_geti fl_X7_17 dX7_step_102 sf_13 rfl ?_
      refine x_bald dX7_step_105 sf_14 (q := s) h5 (by omega) (by decide) ?_
      refine x_bipush (v := 97) dX7_step_106 (by decide) ?_
      refine x_icmp_lt 141 dX7_step_108 (by decide) (fun h108 => ?_) (fun h108 => ?_)
      · exact st_141 (X := up2 X 13 3 (X 13 5)) h1 hn h5 h5 hsn hO3 h59 (by first | exact rg_f1 h108 | exact rg_f2 h122)
      · refine x_aload_n dX7_step_111 rfl ?_
        refine x_getr fl_X7_9 dX7_step_112 sf_13 rfl ?_
        refine x_aload_n dX7_step_115 rfl ?_
        refine x_geti fl_X7_17 dX7_step_116 sf_13 rfl ?_
        refine x_bald dX7_step_119 sf_14 (q := s) h5 (by omega) (by decide) ?_
        refine x_bipush (v := 122) dX7_step_120 (by decide) ?_
        refine x_icmp_gt 141 dX7_step_122 (by decide) (fun h122 => ?_) (fun h122 => ?_)
        · exact st_141 (X := up2 X 13 3 (X 13 5)) h1 hn h5 h5 hsn hO3 h59 (by first | exact rg_f1 h108 | exact rg_f2 h122)
        · exact st_125 (X := up2 X 13 3 (X 13 5)) h1 hn h5 h5 hsn hO3 (rg_t1 h108 h122)
  · have hK : tK (X 14) n s = 0 := by rw [tK, if_pos (by omega)]
    refine x_aload_n dX7_step_38 rfl ?_
    refine x_aload_n dX7_step_39 rfl ?_
    refine x_geti fl_X7_17 dX7_step_40 sf_13 rfl ?_
    refine x_put fl_X7_20 dX7_step_43 sf_13 rfl rfl rfl ?_
    refine x_aload_n dX7_step_46 rfl ?_
    refine x_geti fl_X7_17 dX7_step_47 sf_13 rfl ?_
    refine x_aload_n dX7_step_50 rfl ?_
    refine x_geti fl_X7_13 dX7_step_51 sf_13 rfl ?_
    refine x_icmp_lt 65 dX7_step_54 (by decide) (fun hc_ => absurd hc_ (by show ¬ X 13 5 < X 13 1; rw [h5, h1]; exact nI_nlt (by omega) (by omega))) (fun _ => ?_)
    refine x_aload_n dX7_step_57 rfl ?_
    refine x_iconst (v := 0) dX7_step_58 (by decide) ?_
    refine x_put fl_X7_23 dX7_step_59 sf_13 rfl rfl rfl ?_
    refine x_goto 189 dX7_step_62 (by decide) ?_
    exact x_ret dX7_step_189 rfl (Nat.le_refl _) (Nat.le_refl _) ⟨rfl, ⟨rfl, hO3.up _ (by decide), h5, (show (0 : Int32) = nI (tK (X 14) n s) by rw [hK]; rfl), fun _ => (show X 13 5 = _ by rw [h5, tE, if_pos (by omega)]), fun q => absurd q (by rw [hK]; decide)⟩⟩
theorem c_step {Z : List (Option Nat)} {ext : List Ds} {M : Mm} {t : Nat → Int32} {n p s : Nat} (ht : M 14 = t) (h1 : M 13 1 = nI n) (hn : n ≤ 320) (h5 : M 13 5 = nI p) (hp : p ≤ n) (he : tkB t n p = s) : Ct mX7_step [.ref 13] (SS Z ext) M (stP t n s M) := by
  subst ht
  have hge : p ≤ s := by rw [← he]; exact rn_ge _ _ _ _
  have hle : s ≤ n := by rw [← he]; exact rn_le hp
  have hout : s < n → ¬ M 14 s = 32 := fun q => by
    have h := rn_out (P := cBl) (t := M 14) (n := n) (p := p) (by rw [← tkB, he]; exact q)
    rw [← tkB, he] at h
    exact of_decide_eq_false h
  have hin : ∀ k, p ≤ k → k < s → M 14 k = 32 := fun k q1 q2 => of_decide_eq_true (rn_in (P := cBl) (t := M 14) (n := n) (p := p) q1 (by rw [← tkB, he]; exact q2))
  clear he
  refine Ct.of (by decide) (Nat.le_of_ble_eq_true rfl) ?_
  refine x_eq (M := up2 M 13 5 (nI (p + 0))) (by rw [up2_self (M := M) (c := 13) (k := 5) (v := nI (p + 0)) h5]) rfl rfl rfl ?_
  refine lup (P := fun j => XW mX7_step (stQ Z ext (M 14) n s M) 0 0 (SS Z ext) (up2 M 13 5 (nI (p + j))) 0 [some (.ref 13)] []) (N := s - p) ?_ ?_ 0 (by omega)
  · rw [show p + (s - p) = s by omega]
    have fin := st_38 (Z := Z) (ext := ext) (M := M) (X := up2 M 13 5 (nI s)) (n := n) (s := s) h1 hn rfl hle ((On13.rf M).up _ (by decide))
    by_cases hlt : s < n
    · refine x_aload_n dX7_step_0 rfl ?_
      refine x_geti fl_X7_17 dX7_step_1 sf_13 rfl ?_
      refine x_aload_n dX7_step_4 rfl ?_
      refine x_geti fl_X7_13 dX7_step_5 sf_13 rfl ?_
      refine x_icmp_ge 38 dX7_step_8 (by decide) (fun hc_ => absurd hc_ (by show ¬ M 13 1 ≤ nI s; rw [h1]; exact nI_ge hlt (by omega))) (fun _ => ?_)
      refine x_aload_n dX7_step_11 rfl ?_
      refine x_getr fl_X7_9 dX7_step_12 sf_13 rfl ?_
      refine x_aload_n dX7_step_15 rfl ?_
      refine x_geti fl_X7_17 dX7_step_16 sf_13 rfl ?_
      refine x_bald dX7_step_19 sf_14 (q := s) rfl (by omega) (by decide) ?_
      refine x_bipush (v := 32) dX7_step_20 (by decide) ?_
      refine x_icmp_ne 38 dX7_step_22 (by decide) (fun _ => ?_) (fun hc_ => absurd hc_ (hout hlt))
      exact fin
    · refine x_aload_n dX7_step_0 rfl ?_
      refine x_geti fl_X7_17 dX7_step_1 sf_13 rfl ?_
      refine x_aload_n dX7_step_4 rfl ?_
      refine x_geti fl_X7_13 dX7_step_5 sf_13 rfl ?_
      refine x_icmp_ge 38 dX7_step_8 (by decide) (fun _ => ?_) (fun hc_ => absurd (by show M 13 1 ≤ nI s; rw [h1]; exact nI_le (by omega) (by omega)) hc_)
      exact fin
  · intro j hj ih
    have hr := hin (p + j) (by omega) (by omega)
    refine x_aload_n dX7_step_0 rfl ?_
    refine x_geti fl_X7_17 dX7_step_1 sf_13 rfl ?_
    refine x_aload_n dX7_step_4 rfl ?_
    refine x_geti fl_X7_13 dX7_step_5 sf_13 rfl ?_
    refine x_icmp_ge 38 dX7_step_8 (by decide) (fun hc_ => absurd hc_ (by show ¬ M 13 1 ≤ nI (p + j); rw [h1]; exact nI_ge (by omega) (by omega))) (fun _ => ?_)
    refine x_aload_n dX7_step_11 rfl ?_
    refine x_getr fl_X7_9 dX7_step_12 sf_13 rfl ?_
    refine x_aload_n dX7_step_15 rfl ?_
    refine x_geti fl_X7_17 dX7_step_16 sf_13 rfl ?_
    refine x_bald dX7_step_19 sf_14 (q := p + j) rfl (by omega) (by decide) ?_
    refine x_bipush (v := 32) dX7_step_20 (by decide) ?_
    refine x_icmp_ne 38 dX7_step_22 (by decide) (fun hc_ => absurd (hr) hc_) (fun _ => ?_)
    refine x_aload_n dX7_step_25 rfl ?_
    refine x_dup dX7_step_26 rfl ?_
    refine x_geti fl_X7_17 dX7_step_27 sf_13 rfl ?_
    refine x_iconst (v := 1) dX7_step_30 (by decide) ?_
    refine x_iadd dX7_step_31 ?_
    refine x_put fl_X7_17 dX7_step_32 sf_13 rfl rfl rfl ?_
    refine x_goto 0 dX7_step_35 (by decide) ?_
    refine x_eq (by rw [up2_up2, show (up2 M 13 5 (nI (p + j))) 13 5 + 1 = nI (p + (j + 1)) from nI_1 _]) rfl rfl rfl ih
theorem c_rewind {Z : List (Option Nat)} {ext : List Ds} {M : Mm} : Ct mX7_rewind [.ref 13] (SS Z ext) M (Rt none (up2 M 13 5 0)) := by
  refine Ct.of (by decide) (Nat.le_of_ble_eq_true rfl) ?_
  refine x_aload_n dX7_rewind_0 rfl ?_
  refine x_iconst (v := 0) dX7_rewind_1 (by decide) ?_
  refine x_put fl_X7_17 dX7_rewind_2 sf_13 rfl rfl rfl ?_
  exact x_ret dX7_rewind_5 rfl (Nat.le_refl _) (Nat.le_refl _) ⟨rfl, ⟨rfl, rfl⟩⟩
def eqD (t : Nat → Int32) (s k : Nat) : Nat → Nat → Bool
  | 0, _ => true
  | d + 1, j => decide (t (s + j) = chS k j) && eqD t s k d (j + 1)
abbrev syQ (Z : List (Option Nat)) (ext : List Ds) (b : Bool) (M : Mm) : Fn := Fc mX7_says (fun r S' M' => S' = SS Z ext ∧ Rt (some (.int (b2i b))) M r M')
theorem sy_at {Z : List (Option Nat)} {ext : List Ds} {M : Mm} {s k : Nat} (hkR : k < 5) (h3 : M 13 3 = nI s) (h5 : M 13 5 = nI (s + 4)) (hs : s + 4 ≤ 320) : ∀ (d j : Nat), j + d = 4 → XW mX7_says (syQ Z ext (eqD (M 14) s k d j) M) 0 0 (SS Z ext) M 31 [some (.ref 13), some (.retAddr k), some (.int (nI (s + j)))] [] := by
  intro d
  induction d with
  | zero =>
    intro j hj
    refine x_iload_n dX7_says_31 rfl ?_
    refine x_aload_n dX7_says_32 rfl ?_
    refine x_geti fl_X7_17 dX7_says_33 sf_13 rfl ?_
    refine x_icmp_ge 66 dX7_says_36 (by decide) (fun _ => ?_) (fun hc_ => absurd (by rw [h5]; exact nI_le (by omega) (by omega)) hc_)
    refine x_iconst (v := 1) dX7_says_66 (by decide) ?_
    exact x_iret dX7_says_67 rfl rfl (Nat.le_refl _) (Nat.le_refl _) ⟨rfl, ⟨rfl, rfl⟩⟩
  | succ d ih =>
    intro j hj
    have hi := ih (j + 1) (by omega)
    have hdif : nI (s + j) - M 13 3 = nI j := by rw [h3, sub_nI (by omega), show s + j - s = j by omega]
    have cc := c_charAt (S := SS Z ext) (M := M) (k := k) (q := j) hkR (by omega)
    by_cases hq : M 14 (s + j) = chS k j
    · have he : eqD (M 14) s k (d + 1) j = eqD (M 14) s k d (j + 1) := by rw [eqD, decide_eq_true hq]; rfl
      rw [he]
      refine x_iload_n dX7_says_31 rfl ?_
      refine x_aload_n dX7_says_32 rfl ?_
      refine x_geti fl_X7_17 dX7_says_33 sf_13 rfl ?_
      refine x_icmp_ge 66 dX7_says_36 (by decide) (fun hc_ => absurd hc_ (by rw [h5]; exact nI_ge (by omega) (by omega))) (fun _ => ?_)
      refine x_aload_n dX7_says_39 rfl ?_
      refine x_getr fl_X7_9 dX7_says_40 sf_13 rfl ?_
      refine x_iload_n dX7_says_43 rfl ?_
      refine x_bald dX7_says_44 sf_14 (q := s + j) rfl (by omega) (by decide) ?_
      refine x_aload_nR dX7_says_45 rfl ?_
      refine x_iload_n dX7_says_46 rfl ?_
      refine x_aload_n dX7_says_47 rfl ?_
      refine x_geti fl_X7_20 dX7_says_48 sf_13 rfl ?_
      refine x_isub dX7_says_51 ?_
      rw [hdif]
      refine x_cvRd mf_J0_charAt_5068e ml_X7_41 dX7_says_52 rfl hkR rfl ⟨by decide, by decide⟩ (Nat.le_of_ble_eq_true rfl) ⟨rfl, rfl⟩ ⟨Nat.le_of_ble_eq_true rfl, Nat.le_of_ble_eq_true rfl⟩ (cc) ?_
      refine x_icmp_eq 60 dX7_says_55 (by decide) (fun _ => ?_) (fun hc_ => absurd (hq) hc_)
      refine x_iinc1 dX7_says_60 rfl (by decide) ?_
      refine x_goto 31 dX7_says_63 (by decide) ?_
      refine x_eq rfl rfl (by show [_, _, some (Value.int (nI (s + j) + 1))] = _; rw [nI_1]; rfl) rfl hi
    · have he : eqD (M 14) s k (d + 1) j = false := by rw [eqD, decide_eq_false hq]; rfl
      rw [he]
      refine x_iload_n dX7_says_31 rfl ?_
      refine x_aload_n dX7_says_32 rfl ?_
      refine x_geti fl_X7_17 dX7_says_33 sf_13 rfl ?_
      refine x_icmp_ge 66 dX7_says_36 (by decide) (fun hc_ => absurd hc_ (by rw [h5]; exact nI_ge (by omega) (by omega))) (fun _ => ?_)
      refine x_aload_n dX7_says_39 rfl ?_
      refine x_getr fl_X7_9 dX7_says_40 sf_13 rfl ?_
      refine x_iload_n dX7_says_43 rfl ?_
      refine x_bald dX7_says_44 sf_14 (q := s + j) rfl (by omega) (by decide) ?_
      refine x_aload_nR dX7_says_45 rfl ?_
      refine x_iload_n dX7_says_46 rfl ?_
      refine x_aload_n dX7_says_47 rfl ?_
      refine x_geti fl_X7_20 dX7_says_48 sf_13 rfl ?_
      refine x_isub dX7_says_51 ?_
      rw [hdif]
      refine x_cvRd mf_J0_charAt_5068e ml_X7_41 dX7_says_52 rfl hkR rfl ⟨by decide, by decide⟩ (Nat.le_of_ble_eq_true rfl) ⟨rfl, rfl⟩ ⟨Nat.le_of_ble_eq_true rfl, Nat.le_of_ble_eq_true rfl⟩ (cc) ?_
      refine x_icmp_eq 60 dX7_says_55 (by decide) (fun hc_ => absurd hc_ (hq)) (fun _ => ?_)
      refine x_iconst (v := 0) dX7_says_58 (by decide) ?_
      exact x_iret dX7_says_59 rfl rfl (Nat.le_refl _) (Nat.le_refl _) ⟨rfl, ⟨rfl, rfl⟩⟩
/-- the name at s is word k -/
def sayV (t : Nat → Int32) (s e k : Nat) : Bool := nmI t s e (chS k 0) (chS k 1) (chS k 2) (chS k 3)
theorem sayV_4 (t : Nat → Int32) (s k : Nat) : sayV t s (s + 4) k = eqD t s k 4 0 := by
  unfold sayV nmI
  rw [show s + 4 - s = 4 by omega]
  simp [eqD]
theorem c_saysN {Z : List (Option Nat)} {ext : List Ds} {M : Mm} {k : Nat} (h2 : ¬ M 13 2 = 1) : Ct mX7_says [.ref 13, .retAddr k] (SS Z ext) M (Rt (some (.int (b2i false))) M) := by
  refine Ct.of (by decide) (Nat.le_of_ble_eq_true rfl) ?_
  refine x_aload_n dX7_says_0 rfl ?_
  refine x_geti fl_X7_23 dX7_says_1 sf_13 rfl ?_
  refine x_iconst (v := 1) dX7_says_4 (by decide) ?_
  refine x_icmp_ne 24 dX7_says_5 (by decide) (fun _ => ?_) (fun hc_ => absurd hc_ (h2))
  refine x_iconst (v := 0) dX7_says_24 (by decide) ?_
  exact x_iret dX7_says_25 rfl rfl (Nat.le_refl _) (Nat.le_refl _) ⟨rfl, ⟨rfl, rfl⟩⟩
theorem c_says {Z : List (Option Nat)} {ext : List Ds} {M : Mm} {s e k : Nat} (hkR : k < 5) (h2 : M 13 2 = 1) (h3 : M 13 3 = nI s) (h5 : M 13 5 = nI e) (hse : s ≤ e) (he : e ≤ 320) : Ct mX7_says [.ref 13, .retAddr k] (SS Z ext) M (Rt (some (.int (b2i (sayV (M 14) s e k)))) M) := by
  have hdif : M 13 5 - M 13 3 = nI (e - s) := by rw [h3, h5, sub_nI hse]
  have cl := c_slength (S := SS Z ext) (M := M) (k := k) hkR
  by_cases h4 : e - s = 4
  · have hes : e = s + 4 := by omega
    subst hes
    have fin := sy_at (Z := Z) (ext := ext) (M := M) hkR h3 h5 he 4 0 rfl
    rw [← sayV_4] at fin
    refine Ct.of (by decide) (Nat.le_of_ble_eq_true rfl) ?_
    refine x_aload_n dX7_says_0 rfl ?_
    refine x_geti fl_X7_23 dX7_says_1 sf_13 rfl ?_
    refine x_iconst (v := 1) dX7_says_4 (by decide) ?_
    refine x_icmp_ne 24 dX7_says_5 (by decide) (fun hc_ => absurd (h2) hc_) (fun _ => ?_)
    refine x_aload_n dX7_says_8 rfl ?_
    refine x_geti fl_X7_17 dX7_says_9 sf_13 rfl ?_
    refine x_aload_n dX7_says_12 rfl ?_
    refine x_geti fl_X7_20 dX7_says_13 sf_13 rfl ?_
    refine x_isub dX7_says_16 ?_
    rw [hdif]
    refine x_aload_nR dX7_says_17 rfl ?_
    refine x_cvRd mf_J0_length_8abf5 ml_X7_36 dX7_says_18 rfl hkR rfl ⟨by decide, by decide⟩ (Nat.le_of_ble_eq_true rfl) ⟨rfl, rfl⟩ ⟨Nat.le_of_ble_eq_true rfl, Nat.le_of_ble_eq_true rfl⟩ (cl) ?_
    refine x_icmp_eq 26 dX7_says_21 (by decide) (fun _ => ?_) (fun hc_ => absurd (by rw [h4]; rfl) hc_)
    refine x_aload_n dX7_says_26 rfl ?_
    refine x_geti fl_X7_20 dX7_says_27 sf_13 rfl ?_
    refine x_istore_n dX7_says_30 (by decide) ?_
    refine x_eq rfl rfl (by show [_, _, some (Value.int (M 13 3))] = _; rw [h3]; rfl) rfl fin
  · have hv : sayV (M 14) s e k = false := by unfold sayV nmI; rw [decide_eq_false h4]; rfl
    rw [hv]
    refine Ct.of (by decide) (Nat.le_of_ble_eq_true rfl) ?_
    refine x_aload_n dX7_says_0 rfl ?_
    refine x_geti fl_X7_23 dX7_says_1 sf_13 rfl ?_
    refine x_iconst (v := 1) dX7_says_4 (by decide) ?_
    refine x_icmp_ne 24 dX7_says_5 (by decide) (fun hc_ => absurd (h2) hc_) (fun _ => ?_)
    refine x_aload_n dX7_says_8 rfl ?_
    refine x_geti fl_X7_17 dX7_says_9 sf_13 rfl ?_
    refine x_aload_n dX7_says_12 rfl ?_
    refine x_geti fl_X7_20 dX7_says_13 sf_13 rfl ?_
    refine x_isub dX7_says_16 ?_
    rw [hdif]
    refine x_aload_nR dX7_says_17 rfl ?_
    refine x_cvRd mf_J0_length_8abf5 ml_X7_36 dX7_says_18 rfl hkR rfl ⟨by decide, by decide⟩ (Nat.le_of_ble_eq_true rfl) ⟨rfl, rfl⟩ ⟨Nat.le_of_ble_eq_true rfl, Nat.le_of_ble_eq_true rfl⟩ (cl) ?_
    refine x_icmp_eq 26 dX7_says_21 (by decide) (fun hc_ => absurd hc_ (fun q => h4 ((nI_eq (a := e - s) (b := 4) (by omega) (by omega)).mp q))) (fun _ => ?_)
    refine x_iconst (v := 0) dX7_says_24 (by decide) ?_
    exact x_iret dX7_says_25 rfl rfl (Nat.le_refl _) (Nat.le_refl _) ⟨rfl, ⟨rfl, rfl⟩⟩
