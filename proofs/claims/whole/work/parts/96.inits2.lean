/-! ===== constructors: Sheet, Telling, the class, the reference ===== -/
/-- the cells from a to n are fresh -/
def zD (M : Mm) (a n : Nat) : Mm := fun c => if a ≤ c ∧ c < n then (fun _ => 0) else M c
theorem zD_s (M : Mm) (a n : Nat) (h : a ≤ n) : upr (zD M a n) n (fun _ => 0) = zD M a (n + 1) := by
  funext c
  unfold upr zD
  by_cases hc : c = n
  · rw [if_pos hc, if_pos (by omega)]
  · rw [if_neg hc]
    by_cases h2 : a ≤ c ∧ c < n
    · rw [if_pos h2, if_pos (by omega)]
    · rw [if_neg h2, if_neg (by omega)]
theorem zD_0 (M : Mm) (a : Nat) : zD M a a = M := by
  funext c
  unfold zD
  rw [if_neg (by omega)]
theorem zD_in (M : Mm) {a n c : Nat} (h1 : a ≤ c) (h2 : c < n) : zD M a n c = fun _ => 0 := if_pos ⟨h1, h2⟩
theorem zD_out (M : Mm) {a n c : Nat} (h : c < a ∨ n ≤ c) : zD M a n c = M c := if_neg (by omega)
theorem c_X5_init {S0 : List Ds} {M : Mm} {a N : Nat} (ha : S0.length = a) (hwf : wfS S0.length S0 = true) (l : Int32) (hN : N ≤ 40) : Cg mX5_init [.ref a, .int l, .int (nI N)] (S0 ++ [.inr (.inr (5, [none, some none]))]) M (fun r S' M' => r = none ∧ S' = S0 ++ [.inr (.inr (5, [none, some (some (a + 1))])), .inl (.int, N)] ∧ M' = upr (up2 M a 0 l) (a + 1) (fun _ => 0)) := by
  refine Cg.of (by decide) (Nat.le_of_ble_eq_true rfl) ?_
  refine x_aload_n dX5_init_0 rfl ?_
  refine x_objI oi_X5 oi_i oi_c dX5_init_1 ⟨by decide, by decide⟩ (by decide) ?_
  refine x_aload_n dX5_init_4 rfl ?_
  refine x_iload_n dX5_init_5 rfl ?_
  refine x_putFi fl_X5_7 rfl rfl dX5_init_6 (lk_app ha) rfl rfl rfl ?_
  refine x_aload_n dX5_init_9 rfl ?_
  refine x_iload_n dX5_init_10 rfl ?_
  refine x_newaA (S0 := S0) (T := [.inr (.inr (5, [none, some none]))]) (c := a + 1) (ty := .int) (N := N) (by rw [ha]; rfl) hwf (by simp [wfS, okd, okr, oko]) rfl (Or.inl rfl) ac_int rfl (by omega) dX5_init_11 (by show ([some (Value.ref a), some (.int l), some (.int (nI N))] : Lv).all _ = true; simp [okl, okv]) (by simp [okv]) (by decide) (by show 0 + N ≤ 40; omega) ?_
  refine x_putA (S0 := S0) (ci := 5) (rs := [none, some none]) (R := [.inl (.int, N)]) ha fl_X5_13 rfl rfl dX5_init_13 rfl (fun _ => rfl) (fun _ => rfl) ?_
  exact x_ret dX5_init_16 rfl (by decide) (by show 0 + N ≤ 40; omega) ⟨rfl, rfl, rfl⟩
abbrev mX9_sheet : Mi := (yX9_sheet, cX9_sheet, 4, (some .int), rmA 3 2 42)
theorem mf_X9_sheet : MFv mX9_sheet 3 := ⟨⟨tb 852 (by decide +kernel) (by decide +kernel), tb 1 (by decide +kernel) (by decide +kernel), by decide +kernel, by decide +kernel, by decide +kernel⟩, tb 850 (by decide +kernel) (by decide +kernel), tb 851 (by decide +kernel) (by decide +kernel)⟩
theorem c_sheetX {Z : List (Option Nat)} {ext : List Ds} {M : Mm} (k l n : Int32) (hx : (ix k 4 && ix l 3 && decide (n ≤ 40)) = false) : Ct mX9_sheet [.ref 0, .int k, .int l, .int n] (SS Z ext) M (Rt (some (.int (-1))) M) := by
  refine Ct.of (by decide) (Nat.le_of_ble_eq_true rfl) ?_
  refine x_iload_n dX9_sheet_0 rfl ?_
  refine x_csd mf_X9_isSheet ml_X9_277 dX9_sheet_1 rfl ⟨by decide, by decide⟩ (Nat.le_of_ble_eq_true rfl) ⟨rfl, rfl⟩ ⟨Nat.le_of_ble_eq_true rfl, Nat.le_of_ble_eq_true rfl⟩ (c_isSheet k) ?_
  refine x_ifb_eq 20 dX9_sheet_4 (by decide) (fun h4 => ?_) (fun h4 => ?_)
  · refine x_iconst (v := -1) dX9_sheet_20 (by decide) ?_
    exact x_iret dX9_sheet_21 rfl rfl (by decide) (by decide) ⟨rfl, rfl, rfl⟩
  · refine x_iload_n dX9_sheet_7 rfl ?_
    refine x_csd mf_X9_isLane ml_X9_280 dX9_sheet_8 rfl ⟨by decide, by decide⟩ (Nat.le_of_ble_eq_true rfl) ⟨rfl, rfl⟩ ⟨Nat.le_of_ble_eq_true rfl, Nat.le_of_ble_eq_true rfl⟩ (c_isLane l) ?_
    refine x_ifb_eq 20 dX9_sheet_11 (by decide) (fun h11 => ?_) (fun h11 => ?_)
    · refine x_iconst (v := -1) dX9_sheet_20 (by decide) ?_
      exact x_iret dX9_sheet_21 rfl rfl (by decide) (by decide) ⟨rfl, rfl, rfl⟩
    · refine x_iload_n dX9_sheet_14 rfl ?_
      refine x_bipush (v := 40) dX9_sheet_15 (by decide) ?_
      refine x_icmp_le 22 dX9_sheet_17 (by decide) (fun h17 => ?_) (fun h17 => ?_)
      · rw [h4, h11, decide_eq_true h17] at hx; cases hx
      · refine x_iconst (v := -1) dX9_sheet_20 (by decide) ?_
        exact x_iret dX9_sheet_21 rfl rfl (by decide) (by decide) ⟨rfl, rfl, rfl⟩
theorem c_sheetN {Z : List (Option Nat)} {ext : List Ds} {M : Mm} (k l n : Int32) (hk : ix k 4 = true) (hl : ix l 3 = true) (hn : n < 0) : Ct mX9_sheet [.ref 0, .int k, .int l, .int n] (SS Z ext) M (Rt (some (.int (-14))) M) := by
  have h40 : n ≤ 40 := by
    have e0 : (0 : Int32).toInt = 0 := by decide
    have e4 : (40 : Int32).toInt = 40 := by decide
    rw [fa_lt, e0] at hn
    rw [fa_le, e4]
    omega
  refine Ct.of (by decide) (Nat.le_of_ble_eq_true rfl) ?_
  refine x_iload_n dX9_sheet_0 rfl ?_
  refine x_csd mf_X9_isSheet ml_X9_277 dX9_sheet_1 rfl ⟨by decide, by decide⟩ (Nat.le_of_ble_eq_true rfl) ⟨rfl, rfl⟩ ⟨Nat.le_of_ble_eq_true rfl, Nat.le_of_ble_eq_true rfl⟩ (c_isSheet k) ?_
  refine x_ifb_eq 20 dX9_sheet_4 (by decide) (fun hc_ => absurd (hc_.symm.trans (hk)) Bool.false_ne_true) (fun _ => ?_)
  refine x_iload_n dX9_sheet_7 rfl ?_
  refine x_csd mf_X9_isLane ml_X9_280 dX9_sheet_8 rfl ⟨by decide, by decide⟩ (Nat.le_of_ble_eq_true rfl) ⟨rfl, rfl⟩ ⟨Nat.le_of_ble_eq_true rfl, Nat.le_of_ble_eq_true rfl⟩ (c_isLane l) ?_
  refine x_ifb_eq 20 dX9_sheet_11 (by decide) (fun hc_ => absurd (hc_.symm.trans (hl)) Bool.false_ne_true) (fun _ => ?_)
  refine x_iload_n dX9_sheet_14 rfl ?_
  refine x_bipush (v := 40) dX9_sheet_15 (by decide) ?_
  refine x_icmp_le 22 dX9_sheet_17 (by decide) (fun _ => ?_) (fun hc_ => absurd (h40) hc_)
  refine x_iload_n dX9_sheet_22 rfl ?_
  refine x_if_ge 29 dX9_sheet_23 (by decide) (fun hc_ => absurd hc_ (fun q => absurd hn (by rw [fa_lt]; rw [fa_le] at q; omega))) (fun _ => ?_)
  refine x_bipush (v := -14) dX9_sheet_26 (by decide) ?_
  exact x_iret dX9_sheet_28 rfl rfl (by decide) (by decide) ⟨rfl, rfl, rfl⟩
def shC (M : Mm) (c : Nat) (l : Int32) : Mm := upr (up2 (upr M c (fun _ => 0)) c 0 l) (c + 1) (fun _ => 0)
theorem c_sheet {Z : List (Option Nat)} {ext : List Ds} {M : Mm} (k N : Nat) (l : Int32) (hk : k < 4) (hl : ix l 3 = true) (hN : N ≤ 40) (hz4 : Z.length = 4) (hwf : wfS (SS Z ext).length (SS Z ext) = true) : Cg mX9_sheet [.ref 0, .int (nI k), .int l, .int (nI N)] (SS Z ext) M (fun r S' M' => r = some (.int 1) ∧ S' = SS (Z.set k (some (ext.length + 71))) (ext ++ [.inr (.inr (5, [none, some (some (ext.length + 71 + 1))])), .inl (.int, N)]) ∧ M' = shC M (ext.length + 71) l) := by
  have hlen : (SS Z ext).length = ext.length + 71 := rfl
  have ci := c_X5_init (S0 := SS Z ext) (M := upr M (ext.length + 71) (fun _ => 0)) (a := ext.length + 71) (N := N) hlen hwf l hN
  refine Cg.of (by decide) (Nat.le_of_ble_eq_true rfl) ?_
  refine x_iload_n dX9_sheet_0 rfl ?_
  refine x_csd mf_X9_isSheet ml_X9_277 dX9_sheet_1 rfl ⟨by decide, by decide⟩ (Nat.le_of_ble_eq_true rfl) ⟨rfl, rfl⟩ ⟨Nat.le_of_ble_eq_true rfl, Nat.le_of_ble_eq_true rfl⟩ (c_isSheet (nI k)) ?_
  refine x_ifb_eq 20 dX9_sheet_4 (by decide) (fun hc_ => absurd (hc_.symm.trans (ix_nI hk (by decide))) Bool.false_ne_true) (fun _ => ?_)
  refine x_iload_n dX9_sheet_7 rfl ?_
  refine x_csd mf_X9_isLane ml_X9_280 dX9_sheet_8 rfl ⟨by decide, by decide⟩ (Nat.le_of_ble_eq_true rfl) ⟨rfl, rfl⟩ ⟨Nat.le_of_ble_eq_true rfl, Nat.le_of_ble_eq_true rfl⟩ (c_isLane l) ?_
  refine x_ifb_eq 20 dX9_sheet_11 (by decide) (fun hc_ => absurd (hc_.symm.trans (hl)) Bool.false_ne_true) (fun _ => ?_)
  refine x_iload_n dX9_sheet_14 rfl ?_
  refine x_bipush (v := 40) dX9_sheet_15 (by decide) ?_
  refine x_icmp_le 22 dX9_sheet_17 (by decide) (fun _ => ?_) (fun hc_ => absurd (nI_le (b := 40) hN (by decide)) hc_)
  refine x_iload_n dX9_sheet_22 rfl ?_
  refine x_if_ge 29 dX9_sheet_23 (by decide) (fun _ => ?_) (fun hc_ => absurd (nI_pos' (by omega)) hc_)
  refine x_aload_n dX9_sheet_29 rfl ?_
  refine x_getr fl_X9_73 dX9_sheet_30 sf_0 rfl ?_
  refine x_iload_n dX9_sheet_33 rfl ?_
  skip
  refine x_newo (rs := [none, some none]) nw_X5 rfl cl_X9_71 dX9_sheet_34 rfl hwf (by show ([some (Value.ref 0), some (.int (nI k)), some (.int l), some (.int (nI N))] : Lv).all _ = true; rw [hlen]; simp [okl, okv]) (by show ([Value.int (nI k), .ref 38] : List Value).all _ = true; rw [hlen]; simp [okv]) (by decide) (by decide) ?_
  rw [hlen]
  refine x_dup dX9_sheet_37 rfl ?_
  refine x_iload_n dX9_sheet_38 rfl ?_
  refine x_iload_n dX9_sheet_39 rfl ?_
  refine x_callI mf_X5_init ml_X9_283 dX9_sheet_40 rfl ⟨by decide, by decide⟩ (Nat.le_of_ble_eq_true rfl) ⟨by decide, by decide⟩ (by show ([some (Value.ref 0), some (.int (nI k)), some (.int l), some (.int (nI N))] : Lv).all _ = true; rw [List.length_append, hlen]; simp [okl, okv]) (by show ([Value.ref (ext.length + 71), .int (nI k), .ref 38] : List Value).all _ = true; rw [List.length_append, hlen]; simp [okv]) ci (fun r S' M' h => ?_)
  obtain ⟨h1, h2, h3⟩ := h
  subst h1; subst h2; subst h3
  refine x_aast (c := 38) (q := ext.length + 71) (k := k) (C := RX5) (l := Z) (ci := 5) dX9_sheet_43 rfl (lk_app hlen) rfl rfl (by omega) (by omega) (Or.inr rfl) ?_
  refine x_iconst (v := 1) dX9_sheet_44 (by decide) ?_
  exact x_iret dX9_sheet_45 rfl rfl (by decide) (by decide) ⟨rfl, rfl, rfl⟩
theorem c_X8_init {S0 : List Ds} {M : Mm} {a t : Nat} (ha : S0.length = a) (hwf : wfS S0.length S0 = true) (ht : t < a) : Cg mX8_init [.ref a, .ref t] (S0 ++ [.inr (.inr (8, [some none, some none, none, none, none, none, none, none, none, none, none, none]))]) M (fun r S' M' => r = none ∧ S' = S0 ++ [.inr (.inr (8, [some (some t), some (some (a + 1)), none, none, none, none, none, none, none, none, none, none])), .inr (.inr (6, [none, none, some (some (a + 2)), some (some (a + 3))])), .inl (.int, 31), .inl (.int, 4)] ∧ M' = upr (upr (upr M (a + 1) (fun _ => 0)) (a + 1 + 1) (fun _ => 0)) (a + 1 + 2) (fun _ => 0)) := by
  have hl1 : (S0 ++ [(.inr (.inr (8, [some none, some none, none, none, none, none, none, none, none, none, none, none])) : Ds)]).length = a + 1 := by rw [List.length_append, ha]; rfl
  have hwf1 : wfS (S0 ++ [(.inr (.inr (8, [some none, some none, none, none, none, none, none, none, none, none, none, none])) : Ds)]).length (S0 ++ [(.inr (.inr (8, [some none, some none, none, none, none, none, none, none, none, none, none, none])) : Ds)]) = true := wf2 (c := a + 1) (by rw [ha]; rfl) hwf (by simp [wfS, okd, okr, oko])
  have c6 := c_X6_init (S0 := S0 ++ [.inr (.inr (8, [some none, some none, none, none, none, none, none, none, none, none, none, none]))]) (M := upr M (a + 1) (fun _ => 0)) (a := a + 1) hl1 hwf1
  refine Cg.of (by decide) (Nat.le_of_ble_eq_true rfl) ?_
  refine x_aload_n dX8_init_0 rfl ?_
  refine x_objI oi_X8 oi_i oi_c dX8_init_1 ⟨by decide, by decide⟩ (by decide) ?_
  refine x_aload_n dX8_init_4 rfl ?_
  refine x_newoA (S0 := S0) (T := [.inr (.inr (8, [some none, some none, none, none, none, none, none, none, none, none, none, none]))]) (c := a + 1) (rs := [none, none, some none, some none]) (by rw [ha]; rfl) hwf (by simp [wfS, okd, okr, oko]) nw_X6 rfl cl_X8_9 dX8_init_5 rfl (by show (decide (a < a + 1) && (decide (t < a + 1) && true)) = true; rw [decide_eq_true (show a < a + 1 by omega), decide_eq_true (show t < a + 1 by omega)]; rfl) (by simp [okv]) (by decide) (by decide) ?_
  refine x_dup dX8_init_8 rfl ?_
  refine x_shape (S' := (S0 ++ [.inr (.inr (8, [some none, some none, none, none, none, none, none, none, none, none, none, none]))]) ++ [.inr (.inr (6, [none, none, some none, some none]))]) (by simp) ?_
  refine x_callIN mf_X6_init (by decide) dX8_init_9 rfl ⟨by decide, by decide⟩ (Nat.le_of_ble_eq_true rfl) ⟨by decide, by decide⟩ (by rw [List.length_append, hl1]; show (decide (a < a + 1 + 1) && (decide (t < a + 1 + 1) && true)) = true; rw [decide_eq_true (show a < a + 1 + 1 by omega), decide_eq_true (show t < a + 1 + 1 by omega)]; rfl) (by rw [List.length_append, hl1]; show (decide (a + 1 < a + 1 + 1) && (decide (a < a + 1 + 1) && true)) = true; rw [decide_eq_true (show a + 1 < a + 1 + 1 by omega), decide_eq_true (show a < a + 1 + 1 by omega)]; rfl) c6 (fun r S' M' h => ?_)
  obtain ⟨h1, h2, h3⟩ := h
  subst h1; subst h2; subst h3
  refine x_shape (S' := S0 ++ [.inr (.inr (8, [some none, some none, none, none, none, none, none, none, none, none, none, none])), .inr (.inr (6, [none, none, some (some (a + 2)), some (some (a + 3))])), .inl (.int, 31), .inl (.int, 4)]) (by simp) ?_
  refine x_putA (S0 := S0) (ci := 8) (rs := [some none, some none, none, none, none, none, none, none, none, none, none, none]) (R := [.inr (.inr (6, [none, none, some (some (a + 2)), some (some (a + 3))])), .inl (.int, 31), .inl (.int, 4)]) ha fl_X8_12 rfl rfl dX8_init_12 rfl (fun _ => rfl) (fun _ => rfl) ?_
  refine x_aload_n dX8_init_15 rfl ?_
  refine x_aload_n dX8_init_16 rfl ?_
  refine x_putA (S0 := S0) (ci := 8) (rs := [some none, some (some (a + 1)), none, none, none, none, none, none, none, none, none, none]) (R := [.inr (.inr (6, [none, none, some (some (a + 2)), some (some (a + 3))])), .inl (.int, 31), .inl (.int, 4)]) ha fl_X8_18 rfl rfl dX8_init_17 rfl (fun _ => rfl) (fun _ => rfl) ?_
  exact x_ret dX8_init_20 rfl (by decide) (by decide) ⟨rfl, rfl, rfl⟩
