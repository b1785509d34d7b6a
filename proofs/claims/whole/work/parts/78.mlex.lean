/-! ===== the reference: what is read of the tape ===== -/
def On48 (M M' : Mm) : Prop := ∀ c, c ≠ 48 → M' c = M c
theorem On48.rf (M : Mm) : On48 M M := fun _ _ => rfl
theorem On48.tr {M M' M'' : Mm} (h : On48 M M') (h2 : On48 M' M'') : On48 M M'' := fun c q => (h2 c q).trans (h c q)
theorem On48.up {M M' : Mm} (h : On48 M M') (k : Nat) (v : Int32) : On48 M (up2 M' 48 k v) := fun c q => (up2_n M' v q).trans (h c q)
/-- of the fields only those of the reading changed -/
def Frm (M M' : Mm) : Prop := ∀ k, k < 20 ∨ 25 < k → M' 48 k = M 48 k
theorem Frm.rf (M : Mm) : Frm M M := fun _ _ => rfl
theorem Frm.tr {M M' M'' : Mm} (h : Frm M M') (h2 : Frm M' M'') : Frm M M'' := fun c q => (h2 c q).trans (h c q)
theorem up2_ne (M : Mm) (c : Nat) {k j : Nat} (v : Int32) (h : j ≠ k) : up2 M c k v c j = M c j := by simp [up2, upd, h]
theorem Frm.up {M M' : Mm} (h : Frm M M') {k : Nat} (v : Int32) (hk : 20 ≤ k ∧ k ≤ 25) : Frm M (up2 M' 48 k v) := fun j q => (up2_ne M' 48 v (by omega)).trans (h j q)
/-- the token that begins at s has been read -/
def Ld (t : Nat → Int32) (n s : Nat) (a : Nat → Int32) : Prop := a 21 = nI s ∧ (tK t n s = 4 → a 24 = 1 ∧ a 25 = nI s) ∧ (tK t n s ≠ 4 → a 24 = 0 ∧ a 20 = nI (tE t n s) ∧ a 22 = nI (tK t n s) ∧ (tK t n s = 2 → a 23 = tV t n s))
theorem c_m_needsT {Z : List (Option Nat)} {ext : List Ds} {M : Mm} (v : Int32) : Ct mX10_needs [.ref 48, .int (b2i true), .int v] (SS Z ext) M (Rt none M) := by
  refine Ct.of (by decide) (Nat.le_of_ble_eq_true rfl) ?_
  refine x_iload_n dX10_needs_0 rfl ?_
  refine x_ifb_ne 24 dX10_needs_1 (by decide) (fun _ => ?_) (fun hc_ => absurd (hc_.symm.trans (rfl)) Bool.false_ne_true)
  exact x_ret dX10_needs_24 rfl (Nat.le_refl _) (Nat.le_refl _) ⟨rfl, ⟨rfl, rfl⟩⟩
theorem c_m_needsZ {Z : List (Option Nat)} {ext : List Ds} {M : Mm} (b : Bool) (v : Int32) (h : ¬ M 48 24 = 0) : Ct mX10_needs [.ref 48, .int (b2i b), .int v] (SS Z ext) M (Rt none M) := by
  refine Ct.of (by decide) (Nat.le_of_ble_eq_true rfl) ?_
  refine x_iload_n dX10_needs_0 rfl ?_
  refine x_ifb_ne 24 dX10_needs_1 (by decide) (fun h1 => ?_) (fun h1 => ?_)
  · exact x_ret dX10_needs_24 rfl (Nat.le_refl _) (Nat.le_refl _) ⟨rfl, ⟨rfl, rfl⟩⟩
  · refine x_aload_n dX10_needs_4 rfl ?_
    refine x_geti fl_X10_138 dX10_needs_5 sf_48 rfl ?_
    refine x_if_ne 24 dX10_needs_8 (by decide) (fun _ => ?_) (fun hc_ => absurd hc_ (h))
    exact x_ret dX10_needs_24 rfl (Nat.le_refl _) (Nat.le_refl _) ⟨rfl, ⟨rfl, rfl⟩⟩
theorem c_m_needsF {Z : List (Option Nat)} {ext : List Ds} {M : Mm} (v : Int32) (h : M 48 24 = 0) : Ct mX10_needs [.ref 48, .int (b2i false), .int v] (SS Z ext) M (Rt none (up2 (up2 M 48 24 v) 48 25 (M 48 21))) := by
  refine Ct.of (by decide) (Nat.le_of_ble_eq_true rfl) ?_
  refine x_iload_n dX10_needs_0 rfl ?_
  refine x_ifb_ne 24 dX10_needs_1 (by decide) (fun hc_ => absurd ((rfl).symm.trans hc_) Bool.false_ne_true) (fun _ => ?_)
  refine x_aload_n dX10_needs_4 rfl ?_
  refine x_geti fl_X10_138 dX10_needs_5 sf_48 rfl ?_
  refine x_if_ne 24 dX10_needs_8 (by decide) (fun hc_ => absurd (h) hc_) (fun _ => ?_)
  refine x_aload_n dX10_needs_11 rfl ?_
  refine x_iload_n dX10_needs_12 rfl ?_
  refine x_put fl_X10_138 dX10_needs_13 sf_48 rfl rfl rfl ?_
  refine x_aload_n dX10_needs_16 rfl ?_
  refine x_aload_n dX10_needs_17 rfl ?_
  refine x_geti fl_X10_141 dX10_needs_18 sf_48 rfl ?_
  refine x_put fl_X10_144 dX10_needs_21 sf_48 rfl rfl rfl ?_
  exact x_ret dX10_needs_24 rfl (Nat.le_refl _) (Nat.le_refl _) ⟨rfl, ⟨rfl, rfl⟩⟩
theorem c_m_look {Z : List (Option Nat)} {ext : List Ds} {M : Mm} {n p : Nat} (h19 : M 48 19 = nI n) (hn : n ≤ 320) (hp : p < 2 ^ 31) : Ct mX10_look [.ref 48, .int (nI p)] (SS Z ext) M (Rt (some (.int (lkv (M 57) n p))) M) := by
  by_cases h : p < n
  · refine Ct.of (by decide) (Nat.le_of_ble_eq_true rfl) ?_
    refine x_iload_n dX10_look_0 rfl ?_
    refine x_aload_n dX10_look_1 rfl ?_
    refine x_geti fl_X10_129 dX10_look_2 sf_48 rfl ?_
    refine x_icmp_ge 17 dX10_look_5 (by decide) (fun hc_ => absurd hc_ (by rw [h19]; exact nI_ge h (by omega))) (fun _ => ?_)
    refine x_aload_n dX10_look_8 rfl ?_
    refine x_getr fl_X10_35 dX10_look_9 sf_48 rfl ?_
    refine x_iload_n dX10_look_12 rfl ?_
    refine x_iald dX10_look_13 sf_57 rfl (by omega) (by decide) ?_
    refine x_goto 18 dX10_look_14 (by decide) ?_
    exact x_iret dX10_look_18 rfl rfl (Nat.le_refl _) (Nat.le_refl _) ⟨rfl, ⟨oi (lkv_in h).symm, rfl⟩⟩
  · refine Ct.of (by decide) (Nat.le_of_ble_eq_true rfl) ?_
    refine x_iload_n dX10_look_0 rfl ?_
    refine x_aload_n dX10_look_1 rfl ?_
    refine x_geti fl_X10_129 dX10_look_2 sf_48 rfl ?_
    refine x_icmp_ge 17 dX10_look_5 (by decide) (fun _ => ?_) (fun hc_ => absurd (by rw [h19]; exact nI_le (by omega) hp) hc_)
    refine x_iconst (v := -1) dX10_look_17 (by decide) ?_
    exact x_iret dX10_look_18 rfl rfl (Nat.le_refl _) (Nat.le_refl _) ⟨rfl, ⟨oi (lkv_out (by omega)).symm, rfl⟩⟩
abbrev nxP (M : Mm) (n s : Nat) (r : Option Value) (M' : Mm) : Prop := r = none ∧ On48 M M' ∧ Frm M M' ∧ Ld (M 57) n s (M' 48)
abbrev nxQ (Z : List (Option Nat)) (ext : List Ds) (M : Mm) (n s : Nat) : Fn := Fc mX10_next (fun r S' M' => S' = SS Z ext ∧ nxP M n s r M')
theorem lkv_0 {t : Nat → Int32} {n s : Nat} (ht : ∀ k, k < n → 0 ≤ t k) (h : s < n) : 0 ≤ lkv t n s := by rw [lkv_in h]; exact ht s h
theorem nx_az {Z : List (Option Nat)} {ext : List Ds} {M X : Mm} {n s : Nat} {l1 : Option Value} (hn : n ≤ 320) (hs : s < n) (h19 : X 48 19 = nI n) (h57 : X 57 = M 57) (h20 : X 48 20 = nI s) (h21 : X 48 21 = nI s) (h24 : X 48 24 = 0) (hO : On48 M X) (hF : Frm M X) (hc : cAZ (M 57 s) = true) :
    XW mX10_next (nxQ Z ext M n s) 0 0 (SS Z ext) X 77 [some (.ref 48), l1] [] := by
  have hlt := rn_lt (P := cAZ) hs hc
  have hle := rn_le (P := cAZ) (t := M 57) (Nat.le_of_lt hs)
  refine x_aload_n dX10_next_77 rfl ?_
  refine x_iconst (v := 1) dX10_next_78 (by decide) ?_
  refine x_put fl_X10_158 dX10_next_79 sf_48 rfl rfl rfl ?_
  refine x_eq (M := up2 (up2 X 48 22 1) 48 20 (nI (s + 0))) (by rw [up2_self (M := up2 X 48 22 1) (c := 48) (k := 20) (v := nI (s + 0)) h20]) rfl rfl rfl ?_
  refine lup (P := fun j => XW mX10_next (nxQ Z ext M n s) 0 0 (SS Z ext) (up2 (up2 X 48 22 1) 48 20 (nI (s + j))) 82 [some (.ref 48), l1] []) (N := rn cAZ (M 57) n s - s) ?_ ?_ 0 (by omega)
  · rw [show s + (rn cAZ (M 57) n s - s) = rn cAZ (M 57) n s by omega]
    have cl := c_m_look (Z := Z) (ext := ext) (M := up2 (up2 X 48 22 1) 48 20 (nI (rn cAZ (M 57) n s))) (n := n) (p := rn cAZ (M 57) n s) h19 hn (by omega)
    rw [show (up2 (up2 X 48 22 1) 48 20 (nI (rn cAZ (M 57) n s))) 57 = M 57 from h57] at cl
    refine x_aload_n dX10_next_82 rfl ?_
    refine x_aload_n dX10_next_83 rfl ?_
    refine x_geti fl_X10_147 dX10_next_84 sf_48 rfl ?_
    refine x_cvd mf_X10_look ml_X10_150 dX10_next_87 rfl sf_48 rfl ⟨by decide, by decide⟩ (Nat.le_of_ble_eq_true rfl) ⟨rfl, rfl⟩ ⟨Nat.le_of_ble_eq_true rfl, Nat.le_of_ble_eq_true rfl⟩ (cl) ?_
    refine x_i2l dX10_next_90 ?_
    refine x_ldc2 dX10_next_91 kc_X10_161 ?_
    refine x_ldc2 dX10_next_94 kc_X10_163 ?_
    refine x_csd mf_X10_in ml_X10_134 dX10_next_97 rfl ⟨by decide, by decide⟩ (Nat.le_of_ble_eq_true rfl) ⟨rfl, rfl⟩ ⟨Nat.le_of_ble_eq_true rfl, Nat.le_of_ble_eq_true rfl⟩ (c_m_rg (a := 97) (b := 122) (by decide) (by decide)) ?_
    refine x_ifb_eq 274 dX10_next_100 (by decide) (fun _ => ?_) (fun hc_ => absurd ((lkv_rn (P := cAZ) (by decide)).symm.trans hc_) Bool.false_ne_true)
    exact x_ret dX10_next_274 rfl (Nat.le_refl _) (Nat.le_refl _) ⟨rfl, ⟨rfl, (hO.up _ _).up _ _, (hF.up _ ⟨by decide, by decide⟩).up _ ⟨by decide, by decide⟩, h21, fun q => absurd (show tK (M 57) n s = 1 by rw [tK, if_neg (by omega), if_pos hc]) (by rw [q]; decide), fun _ => ⟨h24, (show nI (rn cAZ (M 57) n s) = nI (tE (M 57) n s) by rw [tE, if_neg (by omega), if_pos hc]), (show (1 : Int32) = nI (tK (M 57) n s) by rw [tK, if_neg (by omega), if_pos hc]; rfl), fun q => absurd (show tK (M 57) n s = 1 by rw [tK, if_neg (by omega), if_pos hc]) (by rw [q]; decide)⟩⟩⟩
  · intro j hj ih
    have cl := c_m_look (Z := Z) (ext := ext) (M := up2 (up2 X 48 22 1) 48 20 (nI (s + j))) (n := n) (p := s + j) h19 hn (by omega)
    rw [show (up2 (up2 X 48 22 1) 48 20 (nI (s + j))) 57 = M 57 from h57, lkv_in (by omega)] at cl
    refine x_aload_n dX10_next_82 rfl ?_
    refine x_aload_n dX10_next_83 rfl ?_
    refine x_geti fl_X10_147 dX10_next_84 sf_48 rfl ?_
    refine x_cvd mf_X10_look ml_X10_150 dX10_next_87 rfl sf_48 rfl ⟨by decide, by decide⟩ (Nat.le_of_ble_eq_true rfl) ⟨rfl, rfl⟩ ⟨Nat.le_of_ble_eq_true rfl, Nat.le_of_ble_eq_true rfl⟩ (cl) ?_
    refine x_i2l dX10_next_90 ?_
    refine x_ldc2 dX10_next_91 kc_X10_161 ?_
    refine x_ldc2 dX10_next_94 kc_X10_163 ?_
    refine x_csd mf_X10_in ml_X10_134 dX10_next_97 rfl ⟨by decide, by decide⟩ (Nat.le_of_ble_eq_true rfl) ⟨rfl, rfl⟩ ⟨Nat.le_of_ble_eq_true rfl, Nat.le_of_ble_eq_true rfl⟩ (c_m_rg (a := 97) (b := 122) (by decide) (by decide)) ?_
    refine x_ifb_eq 274 dX10_next_100 (by decide) (fun hc_ => absurd (hc_.symm.trans (rn_in (P := cAZ) (n := n) (p := s) (by omega) (by omega))) Bool.false_ne_true) (fun _ => ?_)
    refine x_aload_n dX10_next_103 rfl ?_
    refine x_dup dX10_next_104 rfl ?_
    refine x_geti fl_X10_147 dX10_next_105 sf_48 rfl ?_
    refine x_iconst (v := 1) dX10_next_108 (by decide) ?_
    refine x_iadd dX10_next_109 ?_
    refine x_put fl_X10_147 dX10_next_110 sf_48 rfl rfl rfl ?_
    refine x_goto 82 dX10_next_113 (by decide) ?_
    refine x_eq (by rw [up2_up2, show (up2 (up2 X 48 22 1) 48 20 (nI (s + j))) 48 20 + 1 = nI (s + (j + 1)) from nI_1 _]) rfl rfl rfl ih
theorem tK_09 {t : Nat → Int32} {n s : Nat} (hs : s < n) (hc : c09 (t s) = true) : tK t n s = if rn c09 t n s - s ≤ 2 then 2 else 4 := by
  have h1 : cAZ (t s) = false := by
    cases h : cAZ (t s) with
    | false => rfl
    | true => rw [c09_az h] at hc; cases hc
  rw [tK, if_neg (by omega), h1, hc]
  simp
theorem tE_09 {t : Nat → Int32} {n s : Nat} (hs : s < n) (hc : c09 (t s) = true) : tE t n s = rn c09 t n s := by
  have h1 : cAZ (t s) = false := by
    cases h : cAZ (t s) with
    | false => rfl
    | true => rw [c09_az h] at hc; cases hc
  rw [tE, if_neg (by omega), h1, hc]
  simp
theorem nx_09 {Z : List (Option Nat)} {ext : List Ds} {M X : Mm} {n s : Nat} {l1 : Option Value} (hn : n ≤ 320) (hs : s < n) (h19 : X 48 19 = nI n) (h57 : X 57 = M 57) (h20 : X 48 20 = nI s) (h21 : X 48 21 = nI s) (h24 : X 48 24 = 0) (hO : On48 M X) (hF : Frm M X) (hc : c09 (M 57 s) = true) :
    XW mX10_next (nxQ Z ext M n s) 0 0 (SS Z ext) X 130 [some (.ref 48), l1] [] := by
  have hlt := rn_lt (P := c09) hs hc
  have hle := rn_le (P := c09) (t := M 57) (Nat.le_of_lt hs)
  have hK := tK_09 hs hc
  have hE := tE_09 hs hc
  generalize hX1 : up2 X 48 22 2 = Y
  have y19 : Y 48 19 = nI n := by rw [← hX1]; exact h19
  have y57 : Y 57 = M 57 := by rw [← hX1]; exact h57
  have y20 : Y 48 20 = nI s := by rw [← hX1]; exact h20
  have y21 : Y 48 21 = nI s := by rw [← hX1]; exact h21
  have y22 : Y 48 22 = 2 := by rw [← hX1]; rfl
  have y24 : Y 48 24 = 0 := by rw [← hX1]; exact h24
  have yO : On48 M Y := by rw [← hX1]; exact hO.up _ _
  have yF : Frm M Y := by rw [← hX1]; exact hF.up _ ⟨by decide, by decide⟩
  refine x_aload_n dX10_next_130 rfl ?_
  refine x_iconst (v := 2) dX10_next_131 (by decide) ?_
  refine x_put fl_X10_158 dX10_next_132 sf_48 rfl rfl rfl ?_
  refine x_aload_n dX10_next_135 rfl ?_
  refine x_iconst (v := 0) dX10_next_136 (by decide) ?_
  refine x_put fl_X10_169 dX10_next_137 sf_48 rfl rfl rfl ?_
  rw [hX1]
  refine x_eq (M := up2 (up2 Y 48 23 (vN (M 57) s (min 0 2))) 48 20 (nI (s + 0))) (by rw [up2_self (M := up2 Y 48 23 (vN (M 57) s (min 0 2))) (c := 48) (k := 20) (v := nI (s + 0)) y20]; rfl) rfl rfl rfl ?_
  clear hX1 h19 h57 h20 h21 h24 hO hF X
  refine lup (P := fun j => XW mX10_next (nxQ Z ext M n s) 0 0 (SS Z ext) (up2 (up2 Y 48 23 (vN (M 57) s (min j 2))) 48 20 (nI (s + j))) 140 [some (.ref 48), l1] []) (N := rn c09 (M 57) n s - s) ?_ ?_ 0 (by omega)
  · rw [show s + (rn c09 (M 57) n s - s) = rn c09 (M 57) n s by omega]
    generalize hV : vN (M 57) s (min (rn c09 (M 57) n s - s) 2) = V
    have cl := c_m_look (Z := Z) (ext := ext) (M := up2 (up2 Y 48 23 V) 48 20 (nI (rn c09 (M 57) n s))) (n := n) (p := rn c09 (M 57) n s) y19 hn (by omega)
    rw [show (up2 (up2 Y 48 23 V) 48 20 (nI (rn c09 (M 57) n s))) 57 = M 57 from y57] at cl
    have hdif : nI (rn c09 (M 57) n s) - Y 48 21 = nI (rn c09 (M 57) n s - s) := by
      rw [y21]
      have := nI_add (rn c09 (M 57) n s - s) s
      rw [show rn c09 (M 57) n s - s + s = rn c09 (M 57) n s by omega] at this
      rw [← this, Int32.add_sub_cancel]
    by_cases h2 : rn c09 (M 57) n s - s ≤ 2
    · rw [if_pos h2] at hK
      rw [Nat.min_eq_left h2] at hV
      refine x_aload_n dX10_next_140 rfl ?_
      refine x_aload_n dX10_next_141 rfl ?_
      refine x_geti fl_X10_147 dX10_next_142 sf_48 rfl ?_
      refine x_cvd mf_X10_look ml_X10_150 dX10_next_145 rfl sf_48 rfl ⟨by decide, by decide⟩ (Nat.le_of_ble_eq_true rfl) ⟨rfl, rfl⟩ ⟨Nat.le_of_ble_eq_true rfl, Nat.le_of_ble_eq_true rfl⟩ (cl) ?_
      refine x_i2l dX10_next_148 ?_
      refine x_ldc2 dX10_next_149 kc_X10_165 ?_
      refine x_ldc2 dX10_next_152 kc_X10_167 ?_
      refine x_csd mf_X10_in ml_X10_134 dX10_next_155 rfl ⟨by decide, by decide⟩ (Nat.le_of_ble_eq_true rfl) ⟨rfl, rfl⟩ ⟨Nat.le_of_ble_eq_true rfl, Nat.le_of_ble_eq_true rfl⟩ (c_m_rg (a := 48) (b := 57) (by decide) (by decide)) ?_
      refine x_ifb_eq 217 dX10_next_158 (by decide) (fun _ => ?_) (fun hc_ => absurd ((lkv_rn (P := c09) (by decide)).symm.trans hc_) Bool.false_ne_true)
      refine x_aload_n dX10_next_217 rfl ?_
      refine x_aload_n dX10_next_218 rfl ?_
      refine x_geti fl_X10_147 dX10_next_219 sf_48 rfl ?_
      refine x_aload_n dX10_next_222 rfl ?_
      refine x_geti fl_X10_141 dX10_next_223 sf_48 rfl ?_
      refine x_isub dX10_next_226 ?_
      rw [show (up2 (up2 Y 48 23 V) 48 20 (nI (rn c09 (M 57) n s))) 48 20 - (up2 (up2 Y 48 23 V) 48 20 (nI (rn c09 (M 57) n s))) 48 21 = nI (rn c09 (M 57) n s - s) from hdif]
      refine x_iconst (v := 2) dX10_next_227 (by decide) ?_
      refine x_icmp_gt 235 dX10_next_228 (by decide) (fun hc_ => absurd hc_ (nI_nlt (a := 2) (b := rn c09 (M 57) n s - s) h2 (by decide))) (fun _ => ?_)
      refine x_iconst (v := 1) dX10_next_231 (by decide) ?_
      refine x_goto 236 dX10_next_232 (by decide) ?_
      refine x_iconst (v := 1) dX10_next_236 (by decide) ?_
      refine x_cvd mf_X10_needs ml_X10_172 dX10_next_237 rfl sf_48 rfl ⟨by decide, by decide⟩ (Nat.le_of_ble_eq_true rfl) ⟨rfl, rfl⟩ ⟨Nat.le_of_ble_eq_true rfl, Nat.le_of_ble_eq_true rfl⟩ (c_m_needsT 1) ?_
      refine x_goto 274 dX10_next_240 (by decide) ?_
      exact x_ret dX10_next_274 rfl (Nat.le_refl _) (Nat.le_refl _) ⟨rfl, ⟨rfl, (yO.up _ _).up _ _, (yF.up _ ⟨by decide, by decide⟩).up _ ⟨by decide, by decide⟩, y21, fun q => absurd q (by rw [hK]; decide), fun _ => ⟨y24, (show nI (rn c09 (M 57) n s) = nI (tE (M 57) n s) by rw [hE]), (show Y 48 22 = nI (tK (M 57) n s) by rw [hK, y22]; rfl), fun _ => (show V = tV (M 57) n s by rw [← hV, tV])⟩⟩⟩
    · rw [if_neg h2] at hK
      refine x_aload_n dX10_next_140 rfl ?_
      refine x_aload_n dX10_next_141 rfl ?_
      refine x_geti fl_X10_147 dX10_next_142 sf_48 rfl ?_
      refine x_cvd mf_X10_look ml_X10_150 dX10_next_145 rfl sf_48 rfl ⟨by decide, by decide⟩ (Nat.le_of_ble_eq_true rfl) ⟨rfl, rfl⟩ ⟨Nat.le_of_ble_eq_true rfl, Nat.le_of_ble_eq_true rfl⟩ (cl) ?_
      refine x_i2l dX10_next_148 ?_
      refine x_ldc2 dX10_next_149 kc_X10_165 ?_
      refine x_ldc2 dX10_next_152 kc_X10_167 ?_
      refine x_csd mf_X10_in ml_X10_134 dX10_next_155 rfl ⟨by decide, by decide⟩ (Nat.le_of_ble_eq_true rfl) ⟨rfl, rfl⟩ ⟨Nat.le_of_ble_eq_true rfl, Nat.le_of_ble_eq_true rfl⟩ (c_m_rg (a := 48) (b := 57) (by decide) (by decide)) ?_
      refine x_ifb_eq 217 dX10_next_158 (by decide) (fun _ => ?_) (fun hc_ => absurd ((lkv_rn (P := c09) (by decide)).symm.trans hc_) Bool.false_ne_true)
      refine x_aload_n dX10_next_217 rfl ?_
      refine x_aload_n dX10_next_218 rfl ?_
      refine x_geti fl_X10_147 dX10_next_219 sf_48 rfl ?_
      refine x_aload_n dX10_next_222 rfl ?_
      refine x_geti fl_X10_141 dX10_next_223 sf_48 rfl ?_
      refine x_isub dX10_next_226 ?_
      rw [show (up2 (up2 Y 48 23 V) 48 20 (nI (rn c09 (M 57) n s))) 48 20 - (up2 (up2 Y 48 23 V) 48 20 (nI (rn c09 (M 57) n s))) 48 21 = nI (rn c09 (M 57) n s - s) from hdif]
      refine x_iconst (v := 2) dX10_next_227 (by decide) ?_
      refine x_icmp_gt 235 dX10_next_228 (by decide) (fun _ => ?_) (fun hc_ => absurd (nI_lt (a := 2) (b := rn c09 (M 57) n s - s) (by omega) (by omega)) hc_)
      refine x_iconst (v := 0) dX10_next_235 (by decide) ?_
      refine x_iconst (v := 1) dX10_next_236 (by decide) ?_
      refine x_cvd mf_X10_needs ml_X10_172 dX10_next_237 rfl sf_48 rfl ⟨by decide, by decide⟩ (Nat.le_of_ble_eq_true rfl) ⟨rfl, rfl⟩ ⟨Nat.le_of_ble_eq_true rfl, Nat.le_of_ble_eq_true rfl⟩ (c_m_needsF 1 y24) ?_
      refine x_goto 274 dX10_next_240 (by decide) ?_
      exact x_ret dX10_next_274 rfl (Nat.le_refl _) (Nat.le_refl _) ⟨rfl, ⟨rfl, (((yO.up _ _).up _ _).up _ _).up _ _, (((yF.up _ ⟨by decide, by decide⟩).up _ ⟨by decide, by decide⟩).up _ ⟨by decide, by decide⟩).up _ ⟨by decide, by decide⟩, y21, fun q => ⟨rfl, y21⟩, fun q => absurd hK q⟩⟩
  · intro j hj ih
    have cl := c_m_look (Z := Z) (ext := ext) (M := up2 (up2 Y 48 23 (vN (M 57) s (min j 2))) 48 20 (nI (s + j))) (n := n) (p := s + j) y19 hn (by omega)
    rw [show (up2 (up2 Y 48 23 (vN (M 57) s (min j 2))) 48 20 (nI (s + j))) 57 = M 57 from y57, lkv_in (by omega)] at cl
    have hdif : nI (s + j) - Y 48 21 = nI j := by
      rw [y21, show s + j = j + s by omega, ← nI_add, Int32.add_sub_cancel]
    by_cases h2 : j < 2
    · have hv : (10 : Int32) * vN (M 57) s (min j 2) + M 57 (s + j) - 48 = vN (M 57) s (min (j + 1) 2) := by
        rw [Nat.min_eq_left (by omega), Nat.min_eq_left (by omega)]; rfl
      refine x_aload_n dX10_next_140 rfl ?_
      refine x_aload_n dX10_next_141 rfl ?_
      refine x_geti fl_X10_147 dX10_next_142 sf_48 rfl ?_
      refine x_cvd mf_X10_look ml_X10_150 dX10_next_145 rfl sf_48 rfl ⟨by decide, by decide⟩ (Nat.le_of_ble_eq_true rfl) ⟨rfl, rfl⟩ ⟨Nat.le_of_ble_eq_true rfl, Nat.le_of_ble_eq_true rfl⟩ (cl) ?_
      refine x_i2l dX10_next_148 ?_
      refine x_ldc2 dX10_next_149 kc_X10_165 ?_
      refine x_ldc2 dX10_next_152 kc_X10_167 ?_
      refine x_csd mf_X10_in ml_X10_134 dX10_next_155 rfl ⟨by decide, by decide⟩ (Nat.le_of_ble_eq_true rfl) ⟨rfl, rfl⟩ ⟨Nat.le_of_ble_eq_true rfl, Nat.le_of_ble_eq_true rfl⟩ (c_m_rg (a := 48) (b := 57) (by decide) (by decide)) ?_
      refine x_ifb_eq 217 dX10_next_158 (by decide) (fun hc_ => absurd (hc_.symm.trans (rn_in (P := c09) (n := n) (p := s) (by omega) (by omega))) Bool.false_ne_true) (fun _ => ?_)
      refine x_aload_n dX10_next_161 rfl ?_
      refine x_aload_n dX10_next_162 rfl ?_
      refine x_geti fl_X10_147 dX10_next_163 sf_48 rfl ?_
      refine x_aload_n dX10_next_166 rfl ?_
      refine x_geti fl_X10_141 dX10_next_167 sf_48 rfl ?_
      refine x_isub dX10_next_170 ?_
      rw [show (up2 (up2 Y 48 23 (vN (M 57) s (min j 2))) 48 20 (nI (s + j))) 48 20 - (up2 (up2 Y 48 23 (vN (M 57) s (min j 2))) 48 20 (nI (s + j))) 48 21 = nI j from hdif]
      refine x_iconst (v := 2) dX10_next_171 (by decide) ?_
      refine x_icmp_ge 197 dX10_next_172 (by decide) (fun hc_ => absurd hc_ (nI_ge (b := 2) h2 (by decide))) (fun _ => ?_)
      refine x_bipush (v := 10) dX10_next_175 (by decide) ?_
      refine x_aload_n dX10_next_177 rfl ?_
      refine x_geti fl_X10_169 dX10_next_178 sf_48 rfl ?_
      refine x_imul dX10_next_181 ?_
      refine x_aload_n dX10_next_182 rfl ?_
      refine x_aload_n dX10_next_183 rfl ?_
      refine x_geti fl_X10_147 dX10_next_184 sf_48 rfl ?_
      refine x_cvd mf_X10_look ml_X10_150 dX10_next_187 rfl sf_48 rfl ⟨by decide, by decide⟩ (Nat.le_of_ble_eq_true rfl) ⟨rfl, rfl⟩ ⟨Nat.le_of_ble_eq_true rfl, Nat.le_of_ble_eq_true rfl⟩ (cl) ?_
      refine x_iadd dX10_next_190 ?_
      refine x_bipush (v := 48) dX10_next_191 (by decide) ?_
      refine x_isub dX10_next_193 ?_
      refine x_goto 201 dX10_next_194 (by decide) ?_
      refine x_put fl_X10_169 dX10_next_201 sf_48 rfl rfl rfl ?_
      refine x_aload_n dX10_next_204 rfl ?_
      refine x_dup dX10_next_205 rfl ?_
      refine x_geti fl_X10_147 dX10_next_206 sf_48 rfl ?_
      refine x_iconst (v := 1) dX10_next_209 (by decide) ?_
      refine x_iadd dX10_next_210 ?_
      refine x_put fl_X10_147 dX10_next_211 sf_48 rfl rfl rfl ?_
      refine x_goto 140 dX10_next_214 (by decide) ?_
      refine x_eq (by rw [show (up2 (up2 Y 48 23 (vN (M 57) s (min j 2))) 48 20 (nI (s + j))) 48 23 = vN (M 57) s (min j 2) from rfl, hv]; funext c k; by_cases hc8 : c = 48 <;> by_cases hk3 : k = 23 <;> by_cases hk0 : k = 20 <;> simp [up2, upd, hc8, hk3, hk0] <;> exact nI_1 _) rfl rfl rfl ih
    · have hv : vN (M 57) s (min j 2) = vN (M 57) s (min (j + 1) 2) := by
        rw [Nat.min_eq_right (by omega), Nat.min_eq_right (by omega)]
      refine x_aload_n dX10_next_140 rfl ?_
      refine x_aload_n dX10_next_141 rfl ?_
      refine x_geti fl_X10_147 dX10_next_142 sf_48 rfl ?_
      refine x_cvd mf_X10_look ml_X10_150 dX10_next_145 rfl sf_48 rfl ⟨by decide, by decide⟩ (Nat.le_of_ble_eq_true rfl) ⟨rfl, rfl⟩ ⟨Nat.le_of_ble_eq_true rfl, Nat.le_of_ble_eq_true rfl⟩ (cl) ?_
      refine x_i2l dX10_next_148 ?_
      refine x_ldc2 dX10_next_149 kc_X10_165 ?_
      refine x_ldc2 dX10_next_152 kc_X10_167 ?_
      refine x_csd mf_X10_in ml_X10_134 dX10_next_155 rfl ⟨by decide, by decide⟩ (Nat.le_of_ble_eq_true rfl) ⟨rfl, rfl⟩ ⟨Nat.le_of_ble_eq_true rfl, Nat.le_of_ble_eq_true rfl⟩ (c_m_rg (a := 48) (b := 57) (by decide) (by decide)) ?_
      refine x_ifb_eq 217 dX10_next_158 (by decide) (fun hc_ => absurd (hc_.symm.trans (rn_in (P := c09) (n := n) (p := s) (by omega) (by omega))) Bool.false_ne_true) (fun _ => ?_)
      refine x_aload_n dX10_next_161 rfl ?_
      refine x_aload_n dX10_next_162 rfl ?_
      refine x_geti fl_X10_147 dX10_next_163 sf_48 rfl ?_
      refine x_aload_n dX10_next_166 rfl ?_
      refine x_geti fl_X10_141 dX10_next_167 sf_48 rfl ?_
      refine x_isub dX10_next_170 ?_
      rw [show (up2 (up2 Y 48 23 (vN (M 57) s (min j 2))) 48 20 (nI (s + j))) 48 20 - (up2 (up2 Y 48 23 (vN (M 57) s (min j 2))) 48 20 (nI (s + j))) 48 21 = nI j from hdif]
      refine x_iconst (v := 2) dX10_next_171 (by decide) ?_
      refine x_icmp_ge 197 dX10_next_172 (by decide) (fun _ => ?_) (fun hc_ => absurd (nI_le (a := 2) (by omega) (by omega)) hc_)
      refine x_aload_n dX10_next_197 rfl ?_
      refine x_geti fl_X10_169 dX10_next_198 sf_48 rfl ?_
      refine x_put fl_X10_169 dX10_next_201 sf_48 rfl rfl rfl ?_
      refine x_aload_n dX10_next_204 rfl ?_
      refine x_dup dX10_next_205 rfl ?_
      refine x_geti fl_X10_147 dX10_next_206 sf_48 rfl ?_
      refine x_iconst (v := 1) dX10_next_209 (by decide) ?_
      refine x_iadd dX10_next_210 ?_
      refine x_put fl_X10_147 dX10_next_211 sf_48 rfl rfl rfl ?_
      refine x_goto 140 dX10_next_214 (by decide) ?_
      refine x_eq (by rw [show (up2 (up2 Y 48 23 (vN (M 57) s (min j 2))) 48 20 (nI (s + j))) 48 23 = vN (M 57) s (min j 2) from rfl, hv]; funext c k; by_cases hc8 : c = 48 <;> by_cases hk3 : k = 23 <;> by_cases hk0 : k = 20 <;> simp [up2, upd, hc8, hk3, hk0] <;> exact nI_1 _) rfl rfl rfl ih
theorem tK_no {t : Nat → Int32} {n s : Nat} (hs : s < n) (h1 : cAZ (t s) = false) (h2 : c09 (t s) = false) : tK t n s = if decide (t s = 59) then 3 else 4 := by
  rw [tK, if_neg (by omega), h1, h2]; simp
theorem tE_no {t : Nat → Int32} {n s : Nat} (hs : s < n) (h1 : cAZ (t s) = false) (h2 : c09 (t s) = false) : tE t n s = s + 1 := by
  rw [tE, if_neg (by omega), h1, h2]; simp
theorem nx_no {Z : List (Option Nat)} {ext : List Ds} {M X : Mm} {n s : Nat} (hn : n ≤ 320) (hs : s < n) (h57 : X 57 = M 57) (h20 : X 48 20 = nI s) (h21 : X 48 21 = nI s) (h24 : X 48 24 = 0) (hO : On48 M X) (hF : Frm M X) (h74 : cAZ (M 57 s) = false) (h127 : c09 (M 57 s) = false) :
    XW mX10_next (nxQ Z ext M n s) 0 0 (SS Z ext) X 243 [some (.ref 48), some (.int (M 57 s))] [] := by
  have hK := tK_no hs h74 h127
  have hE := tE_no hs h74 h127
  by_cases h59 : M 57 s = 59
  · rw [decide_eq_true h59, if_pos rfl] at hK
    refine x_aload_n dX10_next_243 rfl ?_
    refine x_iconst (v := 3) dX10_next_244 (by decide) ?_
    refine x_put fl_X10_158 dX10_next_245 sf_48 rfl rfl rfl ?_
    refine x_aload_n dX10_next_248 rfl ?_
    refine x_iload_n dX10_next_249 rfl ?_
    refine x_bipush (v := 59) dX10_next_250 (by decide) ?_
    refine x_icmp_ne 259 dX10_next_252 (by decide) (fun hc_ => absurd (h59) hc_) (fun _ => ?_)
    refine x_iconst (v := 1) dX10_next_255 (by decide) ?_
    refine x_goto 260 dX10_next_256 (by decide) ?_
    refine x_iconst (v := 1) dX10_next_260 (by decide) ?_
    refine x_cvd mf_X10_needs ml_X10_172 dX10_next_261 rfl sf_48 rfl ⟨by decide, by decide⟩ (Nat.le_of_ble_eq_true rfl) ⟨rfl, rfl⟩ ⟨Nat.le_of_ble_eq_true rfl, Nat.le_of_ble_eq_true rfl⟩ (c_m_needsT 1) ?_
    refine x_aload_n dX10_next_264 rfl ?_
    refine x_dup dX10_next_265 rfl ?_
    refine x_geti fl_X10_147 dX10_next_266 sf_48 rfl ?_
    refine x_iconst (v := 1) dX10_next_269 (by decide) ?_
    refine x_iadd dX10_next_270 ?_
    refine x_put fl_X10_147 dX10_next_271 sf_48 rfl rfl rfl ?_
    exact x_ret dX10_next_274 rfl (Nat.le_refl _) (Nat.le_refl _) ⟨rfl, ⟨rfl, (hO.up _ _).up _ _, (hF.up _ ⟨by decide, by decide⟩).up _ ⟨by decide, by decide⟩, h21, fun q => absurd q (by rw [hK]; decide), fun _ => ⟨h24, (show X 48 20 + 1 = nI (tE (M 57) n s) by rw [hE, h20, nI_1]), (show (3 : Int32) = nI (tK (M 57) n s) by rw [hK]; rfl), fun q => absurd q (by rw [hK]; decide)⟩⟩⟩
  · rw [decide_eq_false h59, if_neg (by decide)] at hK
    refine x_aload_n dX10_next_243 rfl ?_
    refine x_iconst (v := 3) dX10_next_244 (by decide) ?_
    refine x_put fl_X10_158 dX10_next_245 sf_48 rfl rfl rfl ?_
    refine x_aload_n dX10_next_248 rfl ?_
    refine x_iload_n dX10_next_249 rfl ?_
    refine x_bipush (v := 59) dX10_next_250 (by decide) ?_
    refine x_icmp_ne 259 dX10_next_252 (by decide) (fun _ => ?_) (fun hc_ => absurd hc_ (h59))
    refine x_iconst (v := 0) dX10_next_259 (by decide) ?_
    refine x_iconst (v := 1) dX10_next_260 (by decide) ?_
    refine x_cvd mf_X10_needs ml_X10_172 dX10_next_261 rfl sf_48 rfl ⟨by decide, by decide⟩ (Nat.le_of_ble_eq_true rfl) ⟨rfl, rfl⟩ ⟨Nat.le_of_ble_eq_true rfl, Nat.le_of_ble_eq_true rfl⟩ (c_m_needsF 1 h24) ?_
    refine x_aload_n dX10_next_264 rfl ?_
    refine x_dup dX10_next_265 rfl ?_
    refine x_geti fl_X10_147 dX10_next_266 sf_48 rfl ?_
    refine x_iconst (v := 1) dX10_next_269 (by decide) ?_
    refine x_iadd dX10_next_270 ?_
    refine x_put fl_X10_147 dX10_next_271 sf_48 rfl rfl rfl ?_
    exact x_ret dX10_next_274 rfl (Nat.le_refl _) (Nat.le_refl _) ⟨rfl, ⟨rfl, (((hO.up _ _).up _ _).up _ _).up _ _, (((hF.up _ ⟨by decide, by decide⟩).up _ ⟨by decide, by decide⟩).up _ ⟨by decide, by decide⟩).up _ ⟨by decide, by decide⟩, h21, fun q => ⟨rfl, h21⟩, fun q => absurd hK q⟩⟩
theorem c_m_next {Z : List (Option Nat)} {ext : List Ds} {M : Mm} {n p : Nat} (h24 : M 48 24 = 0) (h19 : M 48 19 = nI n) (hn : n ≤ 320) (h20 : M 48 20 = nI p) (hp : p ≤ n) (ht : ∀ k, k < n → 0 ≤ M 57 k) : Ct mX10_next [.ref 48] (SS Z ext) M (nxP M n (tkB (M 57) n p)) := by
  have hsn : tkB (M 57) n p ≤ n := rn_le hp
  have hps : p ≤ tkB (M 57) n p := rn_ge _ _ _ _
  refine Ct.of (by decide) (Nat.le_of_ble_eq_true rfl) ?_
  refine x_aload_n dX10_next_0 rfl ?_
  refine x_geti fl_X10_138 dX10_next_1 sf_48 rfl ?_
  refine x_if_le 8 dX10_next_4 (by decide) (fun _ => ?_) (fun hc_ => absurd (by rw [h24]; decide) hc_)
  refine x_eq (M := up2 M 48 20 (nI (p + 0))) (by rw [up2_self (show M 48 20 = nI (p + 0) from h20)]) rfl rfl rfl ?_
  refine lup (P := fun j => XW mX10_next (nxQ Z ext M n (tkB (M 57) n p)) 0 0 (SS Z ext) (up2 M 48 20 (nI (p + j))) 8 [some (.ref 48), none] []) (N := tkB (M 57) n p - p) ?_ ?_ 0 (by omega)
  · rw [show p + (tkB (M 57) n p - p) = tkB (M 57) n p by omega]
    have hbl : cBl (lkv (M 57) n (tkB (M 57) n p)) = false := lkv_rn (P := cBl) (by decide)
    generalize tkB (M 57) n p = s at *
    have cl := c_m_look (Z := Z) (ext := ext) (M := up2 M 48 20 (nI s)) (n := n) (p := s) h19 hn (by omega)
    have cl2 := c_m_look (Z := Z) (ext := ext) (M := up2 (up2 M 48 20 (nI s)) 48 21 (nI s)) (n := n) (p := s) h19 hn (by omega)
    have hO : On48 M (up2 (up2 M 48 20 (nI s)) 48 21 (nI s)) := ((On48.rf M).up _ _).up _ _
    have hF : Frm M (up2 (up2 M 48 20 (nI s)) 48 21 (nI s)) := ((Frm.rf M).up _ ⟨by decide, by decide⟩).up _ ⟨by decide, by decide⟩
    by_cases hsn2 : s < n
    · rw [show (up2 (up2 M 48 20 (nI s)) 48 21 (nI s)) 57 = M 57 from rfl, lkv_in hsn2] at cl2
      refine x_aload_n dX10_next_8 rfl ?_
      refine x_aload_n dX10_next_9 rfl ?_
      refine x_geti fl_X10_147 dX10_next_10 sf_48 rfl ?_
      refine x_cvd mf_X10_look ml_X10_150 dX10_next_13 rfl sf_48 rfl ⟨by decide, by decide⟩ (Nat.le_of_ble_eq_true rfl) ⟨rfl, rfl⟩ ⟨Nat.le_of_ble_eq_true rfl, Nat.le_of_ble_eq_true rfl⟩ (cl) ?_
      refine x_bipush (v := 32) dX10_next_16 (by decide) ?_
      refine x_icmp_ne 34 dX10_next_18 (by decide) (fun _ => ?_) (fun hc_ => absurd hc_ (of_decide_eq_false hbl))
      refine x_aload_n dX10_next_34 rfl ?_
      refine x_aload_n dX10_next_35 rfl ?_
      refine x_geti fl_X10_147 dX10_next_36 sf_48 rfl ?_
      refine x_put fl_X10_141 dX10_next_39 sf_48 rfl rfl rfl ?_
      refine x_aload_n dX10_next_42 rfl ?_
      refine x_aload_n dX10_next_43 rfl ?_
      refine x_geti fl_X10_147 dX10_next_44 sf_48 rfl ?_
      refine x_cvd mf_X10_look ml_X10_150 dX10_next_47 rfl sf_48 rfl ⟨by decide, by decide⟩ (Nat.le_of_ble_eq_true rfl) ⟨rfl, rfl⟩ ⟨Nat.le_of_ble_eq_true rfl, Nat.le_of_ble_eq_true rfl⟩ (cl2) ?_
      refine x_istore_n dX10_next_50 (by decide) ?_
      refine x_iload_n dX10_next_51 rfl ?_
      refine x_if_ge 63 dX10_next_52 (by decide) (fun _ => ?_) (fun hc_ => absurd (ht s hsn2) hc_)
      refine x_iload_n dX10_next_63 rfl ?_
      refine x_i2l dX10_next_64 ?_
      refine x_ldc2 dX10_next_65 kc_X10_161 ?_
      refine x_ldc2 dX10_next_68 kc_X10_163 ?_
      refine x_csd mf_X10_in ml_X10_134 dX10_next_71 rfl ⟨by decide, by decide⟩ (Nat.le_of_ble_eq_true rfl) ⟨rfl, rfl⟩ ⟨Nat.le_of_ble_eq_true rfl, Nat.le_of_ble_eq_true rfl⟩ (c_m_rg (a := 97) (b := 122) (by decide) (by decide)) ?_
      refine x_ifb_eq 116 dX10_next_74 (by decide) (fun h74 => ?_) (fun h74 => ?_)
      · refine x_iload_n dX10_next_116 rfl ?_
        refine x_i2l dX10_next_117 ?_
        refine x_ldc2 dX10_next_118 kc_X10_165 ?_
        refine x_ldc2 dX10_next_121 kc_X10_167 ?_
        refine x_csd mf_X10_in ml_X10_134 dX10_next_124 rfl ⟨by decide, by decide⟩ (Nat.le_of_ble_eq_true rfl) ⟨rfl, rfl⟩ ⟨Nat.le_of_ble_eq_true rfl, Nat.le_of_ble_eq_true rfl⟩ (c_m_rg (a := 48) (b := 57) (by decide) (by decide)) ?_
        refine x_ifb_eq 243 dX10_next_127 (by decide) (fun h127 => ?_) (fun h127 => ?_)
        · exact nx_no hn hsn2 rfl rfl rfl h24 hO hF h74 h127
        · exact nx_09 hn hsn2 h19 rfl rfl rfl h24 hO hF h127
      · exact nx_az hn hsn2 h19 rfl rfl rfl h24 hO hF h74
    · have hK : tK (M 57) n s = 0 := by rw [tK, if_pos (by omega)]
      rw [show (up2 (up2 M 48 20 (nI s)) 48 21 (nI s)) 57 = M 57 from rfl, lkv_out (by omega)] at cl2
      refine x_aload_n dX10_next_8 rfl ?_
      refine x_aload_n dX10_next_9 rfl ?_
      refine x_geti fl_X10_147 dX10_next_10 sf_48 rfl ?_
      refine x_cvd mf_X10_look ml_X10_150 dX10_next_13 rfl sf_48 rfl ⟨by decide, by decide⟩ (Nat.le_of_ble_eq_true rfl) ⟨rfl, rfl⟩ ⟨Nat.le_of_ble_eq_true rfl, Nat.le_of_ble_eq_true rfl⟩ (cl) ?_
      refine x_bipush (v := 32) dX10_next_16 (by decide) ?_
      refine x_icmp_ne 34 dX10_next_18 (by decide) (fun _ => ?_) (fun hc_ => absurd hc_ (of_decide_eq_false hbl))
      refine x_aload_n dX10_next_34 rfl ?_
      refine x_aload_n dX10_next_35 rfl ?_
      refine x_geti fl_X10_147 dX10_next_36 sf_48 rfl ?_
      refine x_put fl_X10_141 dX10_next_39 sf_48 rfl rfl rfl ?_
      refine x_aload_n dX10_next_42 rfl ?_
      refine x_aload_n dX10_next_43 rfl ?_
      refine x_geti fl_X10_147 dX10_next_44 sf_48 rfl ?_
      refine x_cvd mf_X10_look ml_X10_150 dX10_next_47 rfl sf_48 rfl ⟨by decide, by decide⟩ (Nat.le_of_ble_eq_true rfl) ⟨rfl, rfl⟩ ⟨Nat.le_of_ble_eq_true rfl, Nat.le_of_ble_eq_true rfl⟩ (cl2) ?_
      refine x_istore_n dX10_next_50 (by decide) ?_
      refine x_iload_n dX10_next_51 rfl ?_
      refine x_if_ge 63 dX10_next_52 (by decide) (fun hc_ => absurd hc_ (by decide)) (fun _ => ?_)
      refine x_aload_n dX10_next_55 rfl ?_
      refine x_iconst (v := 0) dX10_next_56 (by decide) ?_
      refine x_put fl_X10_158 dX10_next_57 sf_48 rfl rfl rfl ?_
      refine x_goto 274 dX10_next_60 (by decide) ?_
      exact x_ret dX10_next_274 rfl (Nat.le_refl _) (Nat.le_refl _) ⟨rfl, ⟨rfl, hO.up _ _, hF.up _ ⟨by decide, by decide⟩, rfl, fun q => absurd q (by rw [hK]; decide), fun _ => ⟨h24, (show nI s = nI (tE (M 57) n s) by rw [tE, if_pos (by omega)]), (show (0 : Int32) = nI (tK (M 57) n s) by rw [hK]; rfl), fun q => absurd q (by rw [hK]; decide)⟩⟩⟩
  · intro j hj ih
    have cl := c_m_look (Z := Z) (ext := ext) (M := up2 M 48 20 (nI (p + j))) (n := n) (p := p + j) h19 hn (by omega)
    rw [show (up2 M 48 20 (nI (p + j))) 57 = M 57 from rfl, lkv_in (by omega)] at cl
    have hb : cBl (M 57 (p + j)) = true := rn_in (P := cBl) (n := n) (p := p) (by omega) (by rw [← tkB]; omega)
    refine x_aload_n dX10_next_8 rfl ?_
    refine x_aload_n dX10_next_9 rfl ?_
    refine x_geti fl_X10_147 dX10_next_10 sf_48 rfl ?_
    refine x_cvd mf_X10_look ml_X10_150 dX10_next_13 rfl sf_48 rfl ⟨by decide, by decide⟩ (Nat.le_of_ble_eq_true rfl) ⟨rfl, rfl⟩ ⟨Nat.le_of_ble_eq_true rfl, Nat.le_of_ble_eq_true rfl⟩ (cl) ?_
    refine x_bipush (v := 32) dX10_next_16 (by decide) ?_
    refine x_icmp_ne 34 dX10_next_18 (by decide) (fun hc_ => absurd (of_decide_eq_true hb) hc_) (fun _ => ?_)
    refine x_aload_n dX10_next_21 rfl ?_
    refine x_dup dX10_next_22 rfl ?_
    refine x_geti fl_X10_147 dX10_next_23 sf_48 rfl ?_
    refine x_iconst (v := 1) dX10_next_26 (by decide) ?_
    refine x_iadd dX10_next_27 ?_
    refine x_put fl_X10_147 dX10_next_28 sf_48 rfl rfl rfl ?_
    refine x_goto 8 dX10_next_31 (by decide) ?_
    refine x_eq (by rw [up2_up2, show (up2 M 48 20 (nI (p + j))) 48 20 + 1 = nI (p + (j + 1)) from nI_1 _]) rfl rfl rfl ih
theorem c_m_nextZ {Z : List (Option Nat)} {ext : List Ds} {M : Mm} (h24 : 0 < M 48 24) : Ct mX10_next [.ref 48] (SS Z ext) M (Rt none M) := by
  refine Ct.of (by decide) (Nat.le_of_ble_eq_true rfl) ?_
  refine x_aload_n dX10_next_0 rfl ?_
  refine x_geti fl_X10_138 dX10_next_1 sf_48 rfl ?_
  refine x_if_le 8 dX10_next_4 (by decide) (fun hc_ => absurd hc_ (fun q => absurd h24 (by rw [fa_lt]; rw [fa_le] at q; omega))) (fun _ => ?_)
  exact x_ret dX10_next_7 rfl (Nat.le_refl _) (Nat.le_refl _) ⟨rfl, ⟨rfl, rfl⟩⟩
