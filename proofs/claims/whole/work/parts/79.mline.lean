/-! ===== the reference: numbers, lines ===== -/
/-- what a parse leaves as it was -/
def Fp (M M' : Mm) : Prop := (∀ c, c ≠ 48 → c ≠ 55 → c ≠ 56 → M' c = M c) ∧ ∀ k, k < 10 ∨ k = 18 ∨ k = 19 ∨ 25 < k → M' 48 k = M 48 k
theorem Fp.rf (M : Mm) : Fp M M := ⟨fun _ _ _ _ => rfl, fun _ _ => rfl⟩
theorem Fp.tr {M M' M'' : Mm} (h : Fp M M') (h2 : Fp M' M'') : Fp M M'' := ⟨fun c q1 q2 q3 => (h2.1 c q1 q2 q3).trans (h.1 c q1 q2 q3), fun k q => (h2.2 k q).trans (h.2 k q)⟩
theorem Fp.on {M M' : Mm} (h : On48 M M') (h2 : Frm M M') : Fp M M' := ⟨fun c q1 _ _ => h c q1, fun k q => h2 k (by omega)⟩
theorem Fp.up {M M' : Mm} (h : Fp M M') {k : Nat} (v : Int32) (hk : 10 ≤ k ∧ k ≤ 17 ∨ 20 ≤ k ∧ k ≤ 25) : Fp M (up2 M' 48 k v) := ⟨fun c q1 q2 q3 => (up2_n M' v q1).trans (h.1 c q1 q2 q3), fun j q => (up2_ne M' 48 v (by omega)).trans (h.2 j q)⟩
theorem Fp.up5 {M M' : Mm} (h : Fp M M') {c k : Nat} (v : Int32) (hc : c = 55 ∨ c = 56) : Fp M (up2 M' c k v) := ⟨fun d q1 q2 q3 => (up2_n M' v (by omega)).trans (h.1 d q1 q2 q3), fun j q => by rw [up2_n M' v (by omega)]; exact h.2 j q⟩
theorem Fp.t {M M' : Mm} (h : Fp M M') : M' 57 = M 57 := h.1 57 (by decide) (by decide) (by decide)
theorem Fp.n {M M' : Mm} (h : Fp M M') : M' 48 19 = M 48 19 := h.2 19 (by decide)
/-- a fault was found -/
def Er (M : Mm) (e : Int32 × Nat) : Prop := M 48 24 = e.1 ∧ 0 < e.1 ∧ M 48 25 = nI e.2
theorem Er.pos {M : Mm} {e : Int32 × Nat} (h : Er M e) : 0 < M 48 24 := by rw [h.1]; exact h.2.1
theorem pos_ne {x : Int32} (h : 0 < x) : ¬ x = 0 := fun q => by subst q; revert h; decide
theorem pos_nle {x : Int32} (h : 0 < x) : ¬ x ≤ 0 := fun q => by rw [fa_le] at q; rw [fa_lt] at h; omega
/-- all told matches are below mt -/
def hiO (go : Int32) (c : Nat → Int32) (x : Int32) : Prop := ∀ mt, mt ≤ 31 → (x < nI mt ↔ ∀ k, k < 31 → (lies go (nI k) = true ∨ ¬ c k = 0) → k < mt)
/-- the draft -/
def RD (D : Dr) (M : Mm) : Prop := M 48 10 = D.1.1 ∧ M 48 11 = D.1.2.1 ∧ M 48 16 = b2i D.1.2.2 ∧ M 48 12 = D.2.1.1 ∧ M 48 14 = D.2.1.2 ∧ (∀ k, k < 31 → M 55 k = D.2.2.1 k) ∧ (∀ k, k < 4 → M 56 k = D.2.2.2 k) ∧ hiO D.2.1.1 D.2.2.1 (M 48 17)
theorem RD.on {D : Dr} {M M' : Mm} (h : RD D M) (hO : On48 M M') (hF : Frm M M') : RD D M' := by
  obtain ⟨h1, h2, h3, h4, h5, h6, h7, h8⟩ := h
  refine ⟨(hF 10 (by decide)).trans h1, (hF 11 (by decide)).trans h2, (hF 16 (by decide)).trans h3, (hF 12 (by decide)).trans h4, (hF 14 (by decide)).trans h5, ?_, ?_, ?_⟩
  · rw [hO 55 (by decide)]; exact h6
  · rw [hO 56 (by decide)]; exact h7
  · rw [hF 17 (by decide)]; exact h8
theorem Ld.er {t : Nat → Int32} {n s : Nat} {M : Mm} (h : Ld t n s (M 48)) (hK : tK t n s = 4) : Er M (1, s) := ⟨(h.2.1 hK).1, (show (0 : Int32) < 1 by decide), (h.2.1 hK).2⟩
theorem rgz (x lo hi : Int32) : b2i (rg x lo hi) = b2i (rg x lo hi) := rfl
abbrev lkP (t : Nat → Int32) (n : Nat) (lo hi : Int32) (s : Nat) (M : Mm) (r : Option Value) (M' : Mm) : Prop := match numA t n lo hi s with
  | .inl e => r = some (.int 0) ∧ On48 M M' ∧ Frm M M' ∧ Er M' e
  | .inr v => r = some (.int v) ∧ M' = M
theorem c_m_lookedZ {Z : List (Option Nat)} {ext : List Ds} {M : Mm} (lo hi : Int32) (h24 : 0 < M 48 24) : Ct mX10_looked [.ref 48, .int lo, .int hi] (SS Z ext) M (Rt (some (.int 0)) M) := by
  refine Ct.of (by decide) (Nat.le_of_ble_eq_true rfl) ?_
  refine x_aload_n dX10_looked_0 rfl ?_
  refine x_geti fl_X10_138 dX10_looked_1 sf_48 rfl ?_
  refine x_if_ne 25 dX10_looked_4 (by decide) (fun _ => ?_) (fun hc_ => absurd hc_ (pos_ne h24))
  refine x_aload_n dX10_looked_25 rfl ?_
  refine x_geti fl_X10_138 dX10_looked_26 sf_48 rfl ?_
  refine x_if_ne 49 dX10_looked_29 (by decide) (fun _ => ?_) (fun hc_ => absurd hc_ (pos_ne h24))
  refine x_aload_n dX10_looked_49 rfl ?_
  refine x_geti fl_X10_138 dX10_looked_50 sf_48 rfl ?_
  refine x_if_ne 63 dX10_looked_53 (by decide) (fun _ => ?_) (fun hc_ => absurd hc_ (pos_ne h24))
  refine x_iconst (v := 0) dX10_looked_63 (by decide) ?_
  exact x_iret dX10_looked_64 rfl rfl (Nat.le_refl _) (Nat.le_refl _) ⟨rfl, ⟨rfl, rfl⟩⟩
theorem c_m_looked {Z : List (Option Nat)} {ext : List Ds} {M : Mm} {t : Nat → Int32} {n s : Nat} (lo hi : Int32) (hL : Ld t n s (M 48)) : Ct mX10_looked [.ref 48, .int lo, .int hi] (SS Z ext) M (lkP t n lo hi s M) := by
  unfold lkP numA
  by_cases hK4 : tK t n s = 4
  · have hE := hL.er hK4
    rw [hK4, if_neg (by decide)]
    refine Ct.of (by decide) (Nat.le_of_ble_eq_true rfl) ?_
    refine x_aload_n dX10_looked_0 rfl ?_
    refine x_geti fl_X10_138 dX10_looked_1 sf_48 rfl ?_
    refine x_if_ne 25 dX10_looked_4 (by decide) (fun _ => ?_) (fun hc_ => absurd hc_ (pos_ne hE.pos))
    refine x_aload_n dX10_looked_25 rfl ?_
    refine x_geti fl_X10_138 dX10_looked_26 sf_48 rfl ?_
    refine x_if_ne 49 dX10_looked_29 (by decide) (fun _ => ?_) (fun hc_ => absurd hc_ (pos_ne hE.pos))
    refine x_aload_n dX10_looked_49 rfl ?_
    refine x_geti fl_X10_138 dX10_looked_50 sf_48 rfl ?_
    refine x_if_ne 63 dX10_looked_53 (by decide) (fun _ => ?_) (fun hc_ => absurd hc_ (pos_ne hE.pos))
    refine x_iconst (v := 0) dX10_looked_63 (by decide) ?_
    exact x_iret dX10_looked_64 rfl rfl (Nat.le_refl _) (Nat.le_refl _) ⟨rfl, ⟨rfl, On48.rf M, Frm.rf M, hE⟩⟩
  · obtain ⟨h24, h20, h22, h23⟩ := hL.2.2 hK4
    have hK := tK_4 (t := t) (n := n) (s := s)
    by_cases hK2 : tK t n s = 2
    · rw [if_pos hK2]
      have h23 := h23 hK2
      rw [hK2] at h22
      cases hr : rg (tV t n s) lo hi with
      | true =>
        have ci := c_m_rg (S := SS Z ext) (M := M) (x := M 48 23) (a := lo) (b := hi) rfl rfl
        rw [h23, hr] at ci
        refine Ct.of (by decide) (Nat.le_of_ble_eq_true rfl) ?_
        refine x_aload_n dX10_looked_0 rfl ?_
        refine x_geti fl_X10_138 dX10_looked_1 sf_48 rfl ?_
        refine x_if_ne 25 dX10_looked_4 (by decide) (fun hc_ => absurd (h24) hc_) (fun _ => ?_)
        refine x_aload_n dX10_looked_7 rfl ?_
        refine x_aload_n dX10_looked_8 rfl ?_
        refine x_geti fl_X10_158 dX10_looked_9 sf_48 rfl ?_
        refine x_iconst (v := 2) dX10_looked_12 (by decide) ?_
        refine x_icmp_ne 20 dX10_looked_13 (by decide) (fun hc_ => absurd (h22) hc_) (fun _ => ?_)
        refine x_iconst (v := 1) dX10_looked_16 (by decide) ?_
        refine x_goto 21 dX10_looked_17 (by decide) ?_
        refine x_iconst (v := 2) dX10_looked_21 (by decide) ?_
        refine x_cvd mf_X10_needs ml_X10_172 dX10_looked_22 rfl sf_48 rfl ⟨by decide, by decide⟩ (Nat.le_of_ble_eq_true rfl) ⟨rfl, rfl⟩ ⟨Nat.le_of_ble_eq_true rfl, Nat.le_of_ble_eq_true rfl⟩ (c_m_needsT 2) ?_
        refine x_aload_n dX10_looked_25 rfl ?_
        refine x_geti fl_X10_138 dX10_looked_26 sf_48 rfl ?_
        refine x_if_ne 49 dX10_looked_29 (by decide) (fun hc_ => absurd (h24) hc_) (fun _ => ?_)
        refine x_aload_n dX10_looked_32 rfl ?_
        refine x_aload_n dX10_looked_33 rfl ?_
        refine x_geti fl_X10_169 dX10_looked_34 sf_48 rfl ?_
        rw [h23]
        refine x_i2l dX10_looked_37 ?_
        refine x_iload_n dX10_looked_38 rfl ?_
        refine x_i2l dX10_looked_39 ?_
        refine x_iload_n dX10_looked_40 rfl ?_
        refine x_i2l dX10_looked_41 ?_
        refine x_csd mf_X10_in ml_X10_134 dX10_looked_42 rfl ⟨by decide, by decide⟩ (Nat.le_of_ble_eq_true rfl) ⟨rfl, rfl⟩ ⟨Nat.le_of_ble_eq_true rfl, Nat.le_of_ble_eq_true rfl⟩ (ci) ?_
        refine x_iconst (v := 3) dX10_looked_45 (by decide) ?_
        refine x_cvd mf_X10_needs ml_X10_172 dX10_looked_46 rfl sf_48 rfl ⟨by decide, by decide⟩ (Nat.le_of_ble_eq_true rfl) ⟨rfl, rfl⟩ ⟨Nat.le_of_ble_eq_true rfl, Nat.le_of_ble_eq_true rfl⟩ (c_m_needsT 3) ?_
        refine x_aload_n dX10_looked_49 rfl ?_
        refine x_geti fl_X10_138 dX10_looked_50 sf_48 rfl ?_
        refine x_if_ne 63 dX10_looked_53 (by decide) (fun hc_ => absurd (h24) hc_) (fun _ => ?_)
        refine x_aload_n dX10_looked_56 rfl ?_
        refine x_geti fl_X10_169 dX10_looked_57 sf_48 rfl ?_
        refine x_goto 64 dX10_looked_60 (by decide) ?_
        exact x_iret dX10_looked_64 rfl rfl (Nat.le_refl _) (Nat.le_refl _) ⟨rfl, ⟨oi h23, rfl⟩⟩
      | false =>
        have ci := c_m_rg (S := SS Z ext) (M := M) (x := M 48 23) (a := lo) (b := hi) rfl rfl
        rw [h23, hr] at ci
        refine Ct.of (by decide) (Nat.le_of_ble_eq_true rfl) ?_
        refine x_aload_n dX10_looked_0 rfl ?_
        refine x_geti fl_X10_138 dX10_looked_1 sf_48 rfl ?_
        refine x_if_ne 25 dX10_looked_4 (by decide) (fun hc_ => absurd (h24) hc_) (fun _ => ?_)
        refine x_aload_n dX10_looked_7 rfl ?_
        refine x_aload_n dX10_looked_8 rfl ?_
        refine x_geti fl_X10_158 dX10_looked_9 sf_48 rfl ?_
        refine x_iconst (v := 2) dX10_looked_12 (by decide) ?_
        refine x_icmp_ne 20 dX10_looked_13 (by decide) (fun hc_ => absurd (h22) hc_) (fun _ => ?_)
        refine x_iconst (v := 1) dX10_looked_16 (by decide) ?_
        refine x_goto 21 dX10_looked_17 (by decide) ?_
        refine x_iconst (v := 2) dX10_looked_21 (by decide) ?_
        refine x_cvd mf_X10_needs ml_X10_172 dX10_looked_22 rfl sf_48 rfl ⟨by decide, by decide⟩ (Nat.le_of_ble_eq_true rfl) ⟨rfl, rfl⟩ ⟨Nat.le_of_ble_eq_true rfl, Nat.le_of_ble_eq_true rfl⟩ (c_m_needsT 2) ?_
        refine x_aload_n dX10_looked_25 rfl ?_
        refine x_geti fl_X10_138 dX10_looked_26 sf_48 rfl ?_
        refine x_if_ne 49 dX10_looked_29 (by decide) (fun hc_ => absurd (h24) hc_) (fun _ => ?_)
        refine x_aload_n dX10_looked_32 rfl ?_
        refine x_aload_n dX10_looked_33 rfl ?_
        refine x_geti fl_X10_169 dX10_looked_34 sf_48 rfl ?_
        rw [h23]
        refine x_i2l dX10_looked_37 ?_
        refine x_iload_n dX10_looked_38 rfl ?_
        refine x_i2l dX10_looked_39 ?_
        refine x_iload_n dX10_looked_40 rfl ?_
        refine x_i2l dX10_looked_41 ?_
        refine x_csd mf_X10_in ml_X10_134 dX10_looked_42 rfl ⟨by decide, by decide⟩ (Nat.le_of_ble_eq_true rfl) ⟨rfl, rfl⟩ ⟨Nat.le_of_ble_eq_true rfl, Nat.le_of_ble_eq_true rfl⟩ (ci) ?_
        refine x_iconst (v := 3) dX10_looked_45 (by decide) ?_
        refine x_cvd mf_X10_needs ml_X10_172 dX10_looked_46 rfl sf_48 rfl ⟨by decide, by decide⟩ (Nat.le_of_ble_eq_true rfl) ⟨rfl, rfl⟩ ⟨Nat.le_of_ble_eq_true rfl, Nat.le_of_ble_eq_true rfl⟩ (c_m_needsF 3 h24) ?_
        refine x_aload_n dX10_looked_49 rfl ?_
        refine x_geti fl_X10_138 dX10_looked_50 sf_48 rfl ?_
        refine x_if_ne 63 dX10_looked_53 (by decide) (fun _ => ?_) (fun hc_ => absurd hc_ (show ¬ (3 : Int32) = 0 by decide))
        refine x_iconst (v := 0) dX10_looked_63 (by decide) ?_
        exact x_iret dX10_looked_64 rfl rfl (Nat.le_refl _) (Nat.le_refl _) ⟨rfl, ⟨rfl, ((On48.rf M).up _ _).up _ _, ((Frm.rf M).up _ ⟨by decide, by decide⟩).up _ ⟨by decide, by decide⟩, rfl, (show (0 : Int32) < 3 by decide), hL.1⟩⟩
    · rw [if_neg hK2, mis_n hK4]
      have hne : ¬ M 48 22 = 2 := by
        rw [h22]
        intro q
        have := (nI_eq (a := tK t n s) (b := 2) (by omega) (by omega)).mp q
        exact hK2 this
      refine Ct.of (by decide) (Nat.le_of_ble_eq_true rfl) ?_
      refine x_aload_n dX10_looked_0 rfl ?_
      refine x_geti fl_X10_138 dX10_looked_1 sf_48 rfl ?_
      refine x_if_ne 25 dX10_looked_4 (by decide) (fun hc_ => absurd (h24) hc_) (fun _ => ?_)
      refine x_aload_n dX10_looked_7 rfl ?_
      refine x_aload_n dX10_looked_8 rfl ?_
      refine x_geti fl_X10_158 dX10_looked_9 sf_48 rfl ?_
      refine x_iconst (v := 2) dX10_looked_12 (by decide) ?_
      refine x_icmp_ne 20 dX10_looked_13 (by decide) (fun _ => ?_) (fun hc_ => absurd hc_ (hne))
      refine x_iconst (v := 0) dX10_looked_20 (by decide) ?_
      refine x_iconst (v := 2) dX10_looked_21 (by decide) ?_
      refine x_cvd mf_X10_needs ml_X10_172 dX10_looked_22 rfl sf_48 rfl ⟨by decide, by decide⟩ (Nat.le_of_ble_eq_true rfl) ⟨rfl, rfl⟩ ⟨Nat.le_of_ble_eq_true rfl, Nat.le_of_ble_eq_true rfl⟩ (c_m_needsF 2 h24) ?_
      refine x_aload_n dX10_looked_25 rfl ?_
      refine x_geti fl_X10_138 dX10_looked_26 sf_48 rfl ?_
      refine x_if_ne 49 dX10_looked_29 (by decide) (fun _ => ?_) (fun hc_ => absurd hc_ (show ¬ (2 : Int32) = 0 by decide))
      refine x_aload_n dX10_looked_49 rfl ?_
      refine x_geti fl_X10_138 dX10_looked_50 sf_48 rfl ?_
      refine x_if_ne 63 dX10_looked_53 (by decide) (fun _ => ?_) (fun hc_ => absurd hc_ (show ¬ (2 : Int32) = 0 by decide))
      refine x_iconst (v := 0) dX10_looked_63 (by decide) ?_
      exact x_iret dX10_looked_64 rfl rfl (Nat.le_refl _) (Nat.le_refl _) ⟨rfl, ⟨rfl, ((On48.rf M).up _ _).up _ _, ((Frm.rf M).up _ ⟨by decide, by decide⟩).up _ ⟨by decide, by decide⟩, rfl, (show (0 : Int32) < 2 by decide), hL.1⟩⟩
theorem numA_r {t : Nat → Int32} {n s : Nat} {lo hi v : Int32} (h : numA t n lo hi s = .inr v) : tK t n s = 2 ∧ rg v lo hi = true ∧ v = tV t n s := by
  unfold numA at h
  by_cases h1 : tK t n s = 2
  · rw [if_pos h1] at h
    cases h2 : rg (tV t n s) lo hi with
    | true => rw [h2, if_pos rfl] at h; cases h; exact ⟨h1, h2, rfl⟩
    | false => rw [h2, if_neg (by decide)] at h; cases h
  · rw [if_neg h1] at h; cases h
abbrev rdP (t : Nat → Int32) (n : Nat) (lo hi : Int32) (s : Nat) (M : Mm) (r : Option Value) (M' : Mm) : Prop := match numA t n lo hi s with
  | .inl e => r = some (.int 0) ∧ On48 M M' ∧ Frm M M' ∧ Er M' e
  | .inr v => r = some (.int v) ∧ On48 M M' ∧ Frm M M' ∧ Ld t n (nx t n s) (M' 48)
/-- the tape, as it stands through a parse -/
def TP (t : Nat → Int32) (n : Nat) (M : Mm) : Prop := M 57 = t ∧ M 48 19 = nI n ∧ n ≤ 320 ∧ ∀ k, k < n → 0 ≤ t k
theorem TP.go {t : Nat → Int32} {n : Nat} {M M' : Mm} (h : TP t n M) (hF : Fp M M') : TP t n M' := ⟨hF.t.trans h.1, hF.n.trans h.2.1, h.2.2⟩
theorem c_m_nx {Z : List (Option Nat)} {ext : List Ds} {M : Mm} {t : Nat → Int32} {n s : Nat} (hT : TP t n M) (hL : Ld t n s (M 48)) (hK : tK t n s ≠ 4) (hs : s ≤ n) : Ct mX10_next [.ref 48] (SS Z ext) M (fun r M' => r = none ∧ On48 M M' ∧ Frm M M' ∧ Ld t n (nx t n s) (M' 48)) := by
  obtain ⟨h24, h20, h22, h23⟩ := hL.2.2 hK
  have h := c_m_next (Z := Z) (ext := ext) (M := M) (n := n) (p := tE t n s) h24 hT.2.1 hT.2.2.1 h20 (tE_le hs) (by rw [hT.1]; exact hT.2.2.2)
  unfold nxP at h
  rw [hT.1] at h
  exact h
theorem c_m_readNumberZ {Z : List (Option Nat)} {ext : List Ds} {M : Mm} (lo hi : Int32) (h24 : 0 < M 48 24) : Ct mX10_readNumber [.ref 48, .int lo, .int hi] (SS Z ext) M (Rt (some (.int 0)) M) := by
  refine Ct.of (by decide) (Nat.le_of_ble_eq_true rfl) ?_
  refine x_aload_n dX10_readNumber_0 rfl ?_
  refine x_iload_n dX10_readNumber_1 rfl ?_
  refine x_iload_n dX10_readNumber_2 rfl ?_
  refine x_cvd mf_X10_looked ml_X10_176 dX10_readNumber_3 rfl sf_48 rfl ⟨by decide, by decide⟩ (Nat.le_of_ble_eq_true rfl) ⟨rfl, rfl⟩ ⟨Nat.le_of_ble_eq_true rfl, Nat.le_of_ble_eq_true rfl⟩ (c_m_lookedZ lo hi h24) ?_
  refine x_istore_n dX10_readNumber_6 (by decide) ?_
  refine x_aload_n dX10_readNumber_7 rfl ?_
  refine x_cvd mf_X10_next ml_X10_179 dX10_readNumber_8 rfl sf_48 rfl ⟨by decide, by decide⟩ (Nat.le_of_ble_eq_true rfl) ⟨rfl, rfl⟩ ⟨Nat.le_of_ble_eq_true rfl, Nat.le_of_ble_eq_true rfl⟩ (c_m_nextZ h24) ?_
  refine x_iload_n dX10_readNumber_11 rfl ?_
  exact x_iret dX10_readNumber_12 rfl rfl (Nat.le_refl _) (Nat.le_refl _) ⟨rfl, ⟨rfl, rfl⟩⟩
theorem c_m_readNumber {Z : List (Option Nat)} {ext : List Ds} {M : Mm} {t : Nat → Int32} {n s : Nat} (lo hi : Int32) (hT : TP t n M) (hL : Ld t n s (M 48)) (hs : s ≤ n) : Ct mX10_readNumber [.ref 48, .int lo, .int hi] (SS Z ext) M (rdP t n lo hi s M) := by
  have cl := c_m_looked (Z := Z) (ext := ext) (M := M) lo hi hL
  unfold lkP at cl
  unfold rdP
  cases hN : numA t n lo hi s with
  | inl e =>
    rw [hN] at cl
    refine Ct.of (by decide) (Nat.le_of_ble_eq_true rfl) ?_
    refine x_aload_n dX10_readNumber_0 rfl ?_
    refine x_iload_n dX10_readNumber_1 rfl ?_
    refine x_iload_n dX10_readNumber_2 rfl ?_
    refine x_cv mf_X10_looked ml_X10_176 dX10_readNumber_3 rfl sf_48 rfl ⟨by decide, by decide⟩ (Nat.le_of_ble_eq_true rfl) ⟨rfl, rfl⟩ ⟨Nat.le_of_ble_eq_true rfl, Nat.le_of_ble_eq_true rfl⟩ (cl) (fun r M1 ⟨hr, hO, hF, hE⟩ => ?_)
    subst hr
    refine x_istore_n dX10_readNumber_6 (by decide) ?_
    refine x_aload_n dX10_readNumber_7 rfl ?_
    refine x_cvd mf_X10_next ml_X10_179 dX10_readNumber_8 rfl sf_48 rfl ⟨by decide, by decide⟩ (Nat.le_of_ble_eq_true rfl) ⟨rfl, rfl⟩ ⟨Nat.le_of_ble_eq_true rfl, Nat.le_of_ble_eq_true rfl⟩ (c_m_nextZ hE.pos) ?_
    refine x_iload_n dX10_readNumber_11 rfl ?_
    exact x_iret dX10_readNumber_12 rfl rfl (Nat.le_refl _) (Nat.le_refl _) ⟨rfl, ⟨rfl, hO, hF, hE⟩⟩
  | inr v =>
    rw [hN] at cl
    have hk := (numA_r hN).1
    refine Ct.of (by decide) (Nat.le_of_ble_eq_true rfl) ?_
    refine x_aload_n dX10_readNumber_0 rfl ?_
    refine x_iload_n dX10_readNumber_1 rfl ?_
    refine x_iload_n dX10_readNumber_2 rfl ?_
    refine x_cv mf_X10_looked ml_X10_176 dX10_readNumber_3 rfl sf_48 rfl ⟨by decide, by decide⟩ (Nat.le_of_ble_eq_true rfl) ⟨rfl, rfl⟩ ⟨Nat.le_of_ble_eq_true rfl, Nat.le_of_ble_eq_true rfl⟩ (cl) (fun r M1 ⟨hr, hM⟩ => ?_)
    subst hr; subst hM
    refine x_istore_n dX10_readNumber_6 (by decide) ?_
    refine x_aload_n dX10_readNumber_7 rfl ?_
    refine x_cv mf_X10_next ml_X10_179 dX10_readNumber_8 rfl sf_48 rfl ⟨by decide, by decide⟩ (Nat.le_of_ble_eq_true rfl) ⟨rfl, rfl⟩ ⟨Nat.le_of_ble_eq_true rfl, Nat.le_of_ble_eq_true rfl⟩ (c_m_nx hT hL (by rw [hk]; decide) hs) (fun r M2 ⟨hr, hO, hF, hL2⟩ => ?_)
    subst hr
    refine x_iload_n dX10_readNumber_11 rfl ?_
    exact x_iret dX10_readNumber_12 rfl rfl (Nat.le_refl _) (Nat.le_refl _) ⟨rfl, ⟨rfl, hO, hF, hL2⟩⟩
def mx (v x : Int32) : Int32 := if v ≤ x then x else v
theorem c_m_lookedMatchZ {Z : List (Option Nat)} {ext : List Ds} {M : Mm} (h24 : 0 < M 48 24) : Ct mX10_lookedMatch [.ref 48] (SS Z ext) M (Rt (some (.int 0)) (up2 M 48 17 (mx 0 (M 48 17)))) := by
  refine Ct.of (by decide) (Nat.le_of_ble_eq_true rfl) ?_
  refine x_aload_n dX10_lookedMatch_0 rfl ?_
  refine x_iconst (v := 0) dX10_lookedMatch_1 (by decide) ?_
  refine x_bipush (v := 30) dX10_lookedMatch_2 (by decide) ?_
  refine x_cvd mf_X10_looked ml_X10_176 dX10_lookedMatch_4 rfl sf_48 rfl ⟨by decide, by decide⟩ (Nat.le_of_ble_eq_true rfl) ⟨rfl, rfl⟩ ⟨Nat.le_of_ble_eq_true rfl, Nat.le_of_ble_eq_true rfl⟩ (c_m_lookedZ 0 30 h24) ?_
  refine x_istore_n dX10_lookedMatch_7 (by decide) ?_
  refine x_aload_n dX10_lookedMatch_8 rfl ?_
  refine x_iload_n dX10_lookedMatch_9 rfl ?_
  refine x_aload_n dX10_lookedMatch_10 rfl ?_
  refine x_geti fl_X10_100 dX10_lookedMatch_11 sf_48 rfl ?_
  refine x_icmp_le 21 dX10_lookedMatch_14 (by decide) (fun h14 => ?_) (fun h14 => ?_)
  · refine x_aload_n dX10_lookedMatch_21 rfl ?_
    refine x_geti fl_X10_100 dX10_lookedMatch_22 sf_48 rfl ?_
    refine x_put fl_X10_100 dX10_lookedMatch_25 sf_48 rfl rfl rfl ?_
    refine x_iload_n dX10_lookedMatch_28 rfl ?_
    exact x_iret dX10_lookedMatch_29 rfl rfl (Nat.le_refl _) (Nat.le_refl _) ⟨rfl, ⟨rfl, by unfold mx; first | rw [if_pos h14] | rw [if_neg h14]⟩⟩
  · refine x_iload_n dX10_lookedMatch_17 rfl ?_
    refine x_goto 25 dX10_lookedMatch_18 (by decide) ?_
    refine x_put fl_X10_100 dX10_lookedMatch_25 sf_48 rfl rfl rfl ?_
    refine x_iload_n dX10_lookedMatch_28 rfl ?_
    exact x_iret dX10_lookedMatch_29 rfl rfl (Nat.le_refl _) (Nat.le_refl _) ⟨rfl, ⟨rfl, by unfold mx; first | rw [if_pos h14] | rw [if_neg h14]⟩⟩
abbrev lmP (t : Nat → Int32) (n : Nat) (s : Nat) (M : Mm) (r : Option Value) (M' : Mm) : Prop := match numA t n 0 30 s with
  | .inl e => r = some (.int 0) ∧ Fp M M' ∧ Er M' e
  | .inr v => r = some (.int v) ∧ M' = up2 M 48 17 (mx v (M 48 17))
theorem c_m_lookedMatch {Z : List (Option Nat)} {ext : List Ds} {M : Mm} {t : Nat → Int32} {n s : Nat} (hL : Ld t n s (M 48)) : Ct mX10_lookedMatch [.ref 48] (SS Z ext) M (lmP t n s M) := by
  have cl := c_m_looked (Z := Z) (ext := ext) (M := M) 0 30 hL
  unfold lkP at cl
  unfold lmP
  cases hN : numA t n 0 30 s with
  | inl e =>
    rw [hN] at cl
    refine Ct.of (by decide) (Nat.le_of_ble_eq_true rfl) ?_
    refine x_aload_n dX10_lookedMatch_0 rfl ?_
    refine x_iconst (v := 0) dX10_lookedMatch_1 (by decide) ?_
    refine x_bipush (v := 30) dX10_lookedMatch_2 (by decide) ?_
    refine x_cv mf_X10_looked ml_X10_176 dX10_lookedMatch_4 rfl sf_48 rfl ⟨by decide, by decide⟩ (Nat.le_of_ble_eq_true rfl) ⟨rfl, rfl⟩ ⟨Nat.le_of_ble_eq_true rfl, Nat.le_of_ble_eq_true rfl⟩ (cl) (fun r M1 ⟨hr, hO, hF, hE⟩ => ?_)
    subst hr
    refine x_istore_n dX10_lookedMatch_7 (by decide) ?_
    refine x_aload_n dX10_lookedMatch_8 rfl ?_
    refine x_iload_n dX10_lookedMatch_9 rfl ?_
    refine x_aload_n dX10_lookedMatch_10 rfl ?_
    refine x_geti fl_X10_100 dX10_lookedMatch_11 sf_48 rfl ?_
    refine x_icmp_le 21 dX10_lookedMatch_14 (by decide) (fun h14 => ?_) (fun h14 => ?_)
    · refine x_aload_n dX10_lookedMatch_21 rfl ?_
      refine x_geti fl_X10_100 dX10_lookedMatch_22 sf_48 rfl ?_
      refine x_put fl_X10_100 dX10_lookedMatch_25 sf_48 rfl rfl rfl ?_
      refine x_iload_n dX10_lookedMatch_28 rfl ?_
      exact x_iret dX10_lookedMatch_29 rfl rfl (Nat.le_refl _) (Nat.le_refl _) ⟨rfl, ⟨rfl, (Fp.on hO hF).up _ (Or.inl ⟨by decide, by decide⟩), hE⟩⟩
    · refine x_iload_n dX10_lookedMatch_17 rfl ?_
      refine x_goto 25 dX10_lookedMatch_18 (by decide) ?_
      refine x_put fl_X10_100 dX10_lookedMatch_25 sf_48 rfl rfl rfl ?_
      refine x_iload_n dX10_lookedMatch_28 rfl ?_
      exact x_iret dX10_lookedMatch_29 rfl rfl (Nat.le_refl _) (Nat.le_refl _) ⟨rfl, ⟨rfl, (Fp.on hO hF).up _ (Or.inl ⟨by decide, by decide⟩), hE⟩⟩
  | inr v =>
    rw [hN] at cl
    refine Ct.of (by decide) (Nat.le_of_ble_eq_true rfl) ?_
    refine x_aload_n dX10_lookedMatch_0 rfl ?_
    refine x_iconst (v := 0) dX10_lookedMatch_1 (by decide) ?_
    refine x_bipush (v := 30) dX10_lookedMatch_2 (by decide) ?_
    refine x_cv mf_X10_looked ml_X10_176 dX10_lookedMatch_4 rfl sf_48 rfl ⟨by decide, by decide⟩ (Nat.le_of_ble_eq_true rfl) ⟨rfl, rfl⟩ ⟨Nat.le_of_ble_eq_true rfl, Nat.le_of_ble_eq_true rfl⟩ (cl) (fun r M1 ⟨hr, hM⟩ => ?_)
    subst hr; subst hM
    refine x_istore_n dX10_lookedMatch_7 (by decide) ?_
    refine x_aload_n dX10_lookedMatch_8 rfl ?_
    refine x_iload_n dX10_lookedMatch_9 rfl ?_
    refine x_aload_n dX10_lookedMatch_10 rfl ?_
    refine x_geti fl_X10_100 dX10_lookedMatch_11 sf_48 rfl ?_
    refine x_icmp_le 21 dX10_lookedMatch_14 (by decide) (fun h14 => ?_) (fun h14 => ?_)
    · refine x_aload_n dX10_lookedMatch_21 rfl ?_
      refine x_geti fl_X10_100 dX10_lookedMatch_22 sf_48 rfl ?_
      refine x_put fl_X10_100 dX10_lookedMatch_25 sf_48 rfl rfl rfl ?_
      refine x_iload_n dX10_lookedMatch_28 rfl ?_
      exact x_iret dX10_lookedMatch_29 rfl rfl (Nat.le_refl _) (Nat.le_refl _) ⟨rfl, ⟨rfl, by unfold mx; first | rw [if_pos h14] | rw [if_neg h14]⟩⟩
    · refine x_iload_n dX10_lookedMatch_17 rfl ?_
      refine x_goto 25 dX10_lookedMatch_18 (by decide) ?_
      refine x_put fl_X10_100 dX10_lookedMatch_25 sf_48 rfl rfl rfl ?_
      refine x_iload_n dX10_lookedMatch_28 rfl ?_
      exact x_iret dX10_lookedMatch_29 rfl rfl (Nat.le_refl _) (Nat.le_refl _) ⟨rfl, ⟨rfl, by unfold mx; first | rw [if_pos h14] | rw [if_neg h14]⟩⟩
