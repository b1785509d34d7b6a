/-! ===== the reference: play, images, feed, count ===== -/
theorem c_m_playX {Z : List (Option Nat)} {ext : List Ds} {M : Mm} (seed n : Int32) (hn : rg n 0 60 = false) : Ct mX10_play [.ref 48, .int seed, .int n] (SS Z ext) M (Rt (some (.int (-1))) M) := by
  refine Ct.of (by decide) (Nat.le_of_ble_eq_true rfl) ?_
  refine x_iload_n dX10_play_0 rfl ?_
  refine x_i2l dX10_play_1 ?_
  refine x_lconst (v := 0) dX10_play_2 (by decide) ?_
  refine x_ldc2 dX10_play_3 kc_X10_351 ?_
  refine x_csd mf_X10_in ml_X10_134 dX10_play_6 rfl ⟨by decide, by decide⟩ (Nat.le_of_ble_eq_true rfl) ⟨rfl, rfl⟩ ⟨Nat.le_of_ble_eq_true rfl, Nat.le_of_ble_eq_true rfl⟩ (c_m_rg (a := 0) (b := 60) (by decide) (by decide)) ?_
  refine x_ifb_ne 14 dX10_play_9 (by decide) (fun hc_ => absurd ((hn).symm.trans hc_) Bool.false_ne_true) (fun _ => ?_)
  refine x_iconst (v := -1) dX10_play_12 (by decide) ?_
  exact x_iret dX10_play_13 rfl rfl (Nat.le_refl _) (Nat.le_refl _) ⟨rfl, ⟨rfl, rfl⟩⟩
theorem rg_nI {a b j : Nat} (h1 : a ≤ j) (h2 : j ≤ b) (hb : b < 2 ^ 31) : rg (nI j) (nI a) (nI b) = true := rg_t.mpr ⟨nI_le h1 (by omega), nI_le h2 hb⟩
theorem c_m_play {Z : List (Option Nat)} {ext : List Ds} {M : Mm} {mt sq : Nat} (seed : Int32) (j : Nat) (hj : j ≤ 60) (hm : M 48 4 = nI mt) (hm0 : 0 < mt) (hb : mt ≤ 31) (hq : M 48 5 = nI sq) (hb2 : sq ≤ 20) : Ct mX10_play [.ref 48, .int seed, .int (nI j)] (SS Z ext) M (Rt (some (.int (Lf (M 49 32) (M 51) (M 54) (draws (M 48 4) (M 49 0) seed j).2 sq))) M) := by
  refine Ct.of (by decide) (Nat.le_of_ble_eq_true rfl) ?_
  have hne : ¬ M 48 4 = 0 := by rw [hm]; exact nI_ne0 hm0 (by omega)
  refine x_iload_n dX10_play_0 rfl ?_
  refine x_i2l dX10_play_1 ?_
  refine x_lconst (v := 0) dX10_play_2 (by decide) ?_
  refine x_ldc2 dX10_play_3 kc_X10_351 ?_
  refine x_csd mf_X10_in ml_X10_134 dX10_play_6 rfl ⟨by decide, by decide⟩ (Nat.le_of_ble_eq_true rfl) ⟨rfl, rfl⟩ ⟨Nat.le_of_ble_eq_true rfl, Nat.le_of_ble_eq_true rfl⟩ (c_m_rg (a := 0) (b := 60) (by decide) (by decide)) ?_
  refine x_ifb_ne 14 dX10_play_9 (by decide) (fun _ => ?_) (fun hc_ => absurd (hc_.symm.trans (rg_nI (a := 0) (by omega) hj (by decide))) Bool.false_ne_true)
  refine x_iload_n dX10_play_14 rfl ?_
  refine x_istore_n dX10_play_15 (by decide) ?_
  refine x_aload_n dX10_play_16 rfl ?_
  refine x_getr fl_X10_7 dX10_play_17 sf_48 rfl ?_
  refine x_iconst (v := 0) dX10_play_20 (by decide) ?_
  refine x_iald (q := 0) dX10_play_21 sf_49 (by decide) (by decide) (by decide) ?_
  refine x_istore dX10_play_22 (by decide) ?_
  refine x_iconst (v := 0) dX10_play_24 (by decide) ?_
  refine x_istore dX10_play_25 (by decide) ?_
  refine lup (P := fun k => XW _ _ 0 0 (SS Z ext) M 27 [some (.ref 48), some (.int seed), some (.int (nI j)), some (.int (draws (M 48 4) (M 49 0) seed k).1), some (.int (draws (M 48 4) (M 49 0) seed k).2), some (.int (nI k))] []) (N := j) ?_ ?_ 0 (by omega)
  · refine x_iload dX10_play_27 rfl ?_
    refine x_iload_n dX10_play_29 rfl ?_
    refine x_icmp_ge 71 dX10_play_30 (by decide) (fun _ => ?_) (fun hc_ => absurd (nI_le (Nat.le_refl _) (by omega)) hc_)
    refine x_aload_n dX10_play_71 rfl ?_
    refine x_iload dX10_play_72 rfl ?_
    refine x_cvd mf_X10_leftOf ml_X10_221 dX10_play_74 rfl sf_48 rfl ⟨by decide, by decide⟩ (Nat.le_of_ble_eq_true rfl) ⟨rfl, rfl⟩ ⟨Nat.le_of_ble_eq_true rfl, Nat.le_of_ble_eq_true rfl⟩ (c_m_leftOf _ hq hb2) ?_
    exact x_iret dX10_play_77 rfl rfl (Nat.le_refl _) (Nat.le_refl _) ⟨rfl, ⟨rfl, rfl⟩⟩
  · intro k hk ih
    rw [nI_succ] at ih
    refine x_iload dX10_play_27 rfl ?_
    refine x_iload_n dX10_play_29 rfl ?_
    refine x_icmp_ge 71 dX10_play_30 (by decide) (fun hc_ => absurd hc_ (nI_ge hk (by omega))) (fun _ => ?_)
    refine x_iload_n dX10_play_33 rfl ?_
    refine x_ldcw dX10_play_34 kc_X10_353 ?_
    refine x_imul dX10_play_37 ?_
    refine x_sipush (v := 12345) dX10_play_38 (by decide) ?_
    refine x_iadd dX10_play_41 ?_
    refine x_istore_n dX10_play_42 (by decide) ?_
    refine x_iload dX10_play_43 rfl ?_
    refine x_iconst (v := 1) dX10_play_45 (by decide) ?_
    refine x_iload_n dX10_play_46 rfl ?_
    refine x_bipush (v := 16) dX10_play_47 (by decide) ?_
    refine x_ishr dX10_play_49 ?_
    refine x_sipush (v := 32767) dX10_play_50 (by decide) ?_
    refine x_iand dX10_play_53 ?_
    refine x_aload_n dX10_play_54 rfl ?_
    refine x_geti fl_X10_123 dX10_play_55 sf_48 rfl ?_
    refine x_irem dX10_play_58 hne ?_
    refine x_ishl dX10_play_59 ?_
    refine x_iconst (v := -1) dX10_play_60 (by decide) ?_
    refine x_ixor dX10_play_61 ?_
    refine x_iand dX10_play_62 ?_
    refine x_istore dX10_play_63 (by decide) ?_
    refine x_iinc1 dX10_play_65 rfl (by decide) ?_
    refine x_goto 27 dX10_play_68 (by decide) ?_
    exact ih
theorem up2_upr2 (M : Mm) (c k : Nat) (g : Nat → Int32) (v : Int32) : up2 (upr M c g) c k v = upr M c (upd g k v) := by
  funext c'
  unfold up2 upr
  by_cases h : c' = c <;> simp [h]
theorem upr_self (M : Mm) (c : Nat) : upr M c (M c) = M := by
  funext c'
  unfold upr
  by_cases h : c' = c
  · subst h; simp
  · simp [h]
/-- n places copied, from b on to a on -/
def cpF (f : Nat → Int32) (a b n : Nat) : Nat → Int32 := fld (fun k g => upd g (a + k) (g (b + k))) n f
theorem c_m_copies {Z : List (Option Nat)} {ext : List Ds} {M : Mm} (a b : Nat) (ha : a + 36 ≤ 108) (hb : b + 36 ≤ 108) : Ct mX10_copies [.ref 48, .int (nI a), .int (nI b)] (SS Z ext) M (Rt none (upr M 49 (cpF (M 49) a b 36))) := by
  refine Ct.of (by decide) (Nat.le_of_ble_eq_true rfl) ?_
  refine x_iconst (v := 0) dX10_copies_0 (by decide) ?_
  refine x_istore_n dX10_copies_1 (by decide) ?_
  refine x_eq (M := upr M 49 (M 49)) (upr_self M 49).symm rfl rfl rfl ?_
  refine lup (P := fun k => XW _ _ 0 0 (SS Z ext) (upr M 49 (cpF (M 49) a b k)) 2 [some (.ref 48), some (.int (nI a)), some (.int (nI b)), some (.int (nI k))] []) (N := 36) ?_ ?_ 0 (by omega)
  · refine x_iload_n dX10_copies_2 rfl ?_
    refine x_bipush (v := 36) dX10_copies_3 (by decide) ?_
    refine x_icmp_ge 30 dX10_copies_5 (by decide) (fun _ => ?_) (fun hc_ => absurd (by decide) hc_)
    exact x_ret dX10_copies_30 rfl (Nat.le_refl _) (Nat.le_refl _) ⟨rfl, ⟨rfl, rfl⟩⟩
  · intro k hk ih
    rw [nI_succ] at ih
    refine x_iload_n dX10_copies_2 rfl ?_
    refine x_bipush (v := 36) dX10_copies_3 (by decide) ?_
    refine x_icmp_ge 30 dX10_copies_5 (by decide) (fun hc_ => absurd hc_ (nI_ge (b := 36) hk (by decide))) (fun _ => ?_)
    refine x_aload_n dX10_copies_8 rfl ?_
    refine x_getr fl_X10_7 dX10_copies_9 sf_48 rfl ?_
    refine x_iload_n dX10_copies_12 rfl ?_
    refine x_iload_n dX10_copies_13 rfl ?_
    refine x_iadd dX10_copies_14 ?_
    refine x_aload_n dX10_copies_15 rfl ?_
    refine x_getr fl_X10_7 dX10_copies_16 sf_48 rfl ?_
    refine x_iload_n dX10_copies_19 rfl ?_
    refine x_iload_n dX10_copies_20 rfl ?_
    refine x_iadd dX10_copies_21 ?_
    refine x_iald dX10_copies_22 sf_49 (ia b k) (by omega) (by decide) ?_
    refine x_iast dX10_copies_23 sf_49 (ia a k) (by omega) (by decide) ?_
    refine x_iinc1 dX10_copies_24 rfl (by decide) ?_
    refine x_goto 2 dX10_copies_27 (by decide) ?_
    rw [up2_upr2]
    exact ih
theorem bin {b : Int32} {P : Int32 → Prop} (h0 : P 0) (h1 : P 1) (h : rg b 0 1 = true) : P b := by
  obtain ⟨j, -, hj, rfl⟩ := rg_nat (a := 0) (b := 1) (by decide) (by decide) h
  rcases (show j = 0 ∨ j = 1 by omega) with rfl | rfl
  · exact h0
  · exact h1
theorem c_m_keep {Z : List (Option Nat)} {ext : List Ds} {M : Mm} (j : Nat) (hj : j < 2) (kb : Bool) (hk : M 50 j = b2i kb) : Ct mX10_keep [.ref 48, .int (nI j)] (SS Z ext) M (Rt (some (.int (b2i kb))) (upr (up2 M 50 j 1) 49 (cpF (M 49) (36 * (j + 1)) 0 36))) := by
  refine Ct.of (by decide) (Nat.le_of_ble_eq_true rfl) ?_
  refine x_iload_n dX10_keep_0 rfl ?_
  refine x_i2l dX10_keep_1 ?_
  refine x_lconst (v := 0) dX10_keep_2 (by decide) ?_
  refine x_lconst (v := 1) dX10_keep_3 (by decide) ?_
  refine x_csd mf_X10_in ml_X10_134 dX10_keep_4 rfl ⟨by decide, by decide⟩ (Nat.le_of_ble_eq_true rfl) ⟨rfl, rfl⟩ ⟨Nat.le_of_ble_eq_true rfl, Nat.le_of_ble_eq_true rfl⟩ (c_m_rg (a := 0) (b := 1) (by decide) (by decide)) ?_
  refine x_ifb_ne 12 dX10_keep_7 (by decide) (fun _ => ?_) (fun hc_ => absurd (hc_.symm.trans (rg_nI (a := 0) (b := 1) (by omega) (by omega) (by decide))) Bool.false_ne_true)
  refine x_aload_n dX10_keep_12 rfl ?_
  refine x_getr fl_X10_13 dX10_keep_13 sf_48 rfl ?_
  refine x_iload_n dX10_keep_16 rfl ?_
  refine x_zald dX10_keep_17 sf_50 rfl (by omega) (by decide) ?_
  rw [hk]
  refine x_csd mf_X10_flag ml_X10_209 dX10_keep_18 rfl ⟨by decide, by decide⟩ (Nat.le_of_ble_eq_true rfl) ⟨rfl, rfl⟩ ⟨Nat.le_of_ble_eq_true rfl, Nat.le_of_ble_eq_true rfl⟩ (c_m_flag kb) ?_
  refine x_istore_n dX10_keep_21 (by decide) ?_
  refine x_aload_n dX10_keep_22 rfl ?_
  refine x_getr fl_X10_13 dX10_keep_23 sf_48 rfl ?_
  refine x_iload_n dX10_keep_26 rfl ?_
  refine x_iconst (v := 1) dX10_keep_27 (by decide) ?_
  refine x_zast dX10_keep_28 sf_50 rfl (by omega) (by decide) ?_
  refine x_aload_n dX10_keep_29 rfl ?_
  refine x_bipush (v := 36) dX10_keep_30 (by decide) ?_
  refine x_iload_n dX10_keep_32 rfl ?_
  refine x_iconst (v := 1) dX10_keep_33 (by decide) ?_
  refine x_iadd dX10_keep_34 ?_
  refine x_imul dX10_keep_35 ?_
  refine x_iconst (v := 0) dX10_keep_36 (by decide) ?_
  rw [show (36 : Int32) * (nI j + 1) = nI (36 * (j + 1)) by rw [nI_1]; exact pk_mul 36 (j + 1)]
  refine x_cvd mf_X10_copies ml_X10_354 dX10_keep_37 rfl sf_48 rfl ⟨by decide, by decide⟩ (Nat.le_of_ble_eq_true rfl) ⟨rfl, rfl⟩ ⟨Nat.le_of_ble_eq_true rfl, Nat.le_of_ble_eq_true rfl⟩ (c_m_copies (36 * (j + 1)) 0 (by omega) (by omega)) ?_
  refine x_iload_n dX10_keep_40 rfl ?_
  exact x_iret dX10_keep_41 rfl rfl (Nat.le_refl _) (Nat.le_refl _) ⟨rfl, ⟨rfl, rfl⟩⟩
theorem c_m_keepX {Z : List (Option Nat)} {ext : List Ds} {M : Mm} (x : Int32) (hx : rg x 0 1 = false) : Ct mX10_keep [.ref 48, .int x] (SS Z ext) M (Rt (some (.int (-1))) M) := by
  refine Ct.of (by decide) (Nat.le_of_ble_eq_true rfl) ?_
  refine x_iload_n dX10_keep_0 rfl ?_
  refine x_i2l dX10_keep_1 ?_
  refine x_lconst (v := 0) dX10_keep_2 (by decide) ?_
  refine x_lconst (v := 1) dX10_keep_3 (by decide) ?_
  refine x_csd mf_X10_in ml_X10_134 dX10_keep_4 rfl ⟨by decide, by decide⟩ (Nat.le_of_ble_eq_true rfl) ⟨rfl, rfl⟩ ⟨Nat.le_of_ble_eq_true rfl, Nat.le_of_ble_eq_true rfl⟩ (c_m_rg (a := 0) (b := 1) (by decide) (by decide)) ?_
  refine x_ifb_ne 12 dX10_keep_7 (by decide) (fun hc_ => absurd ((hx).symm.trans hc_) Bool.false_ne_true) (fun _ => ?_)
  refine x_iconst (v := -1) dX10_keep_10 (by decide) ?_
  exact x_iret dX10_keep_11 rfl rfl (Nat.le_refl _) (Nat.le_refl _) ⟨rfl, ⟨rfl, rfl⟩⟩
theorem c_m_backX {Z : List (Option Nat)} {ext : List Ds} {M : Mm} (x : Int32) (hx : rg x 0 1 = false) : Ct mX10_back [.ref 48, .int x] (SS Z ext) M (Rt (some (.int (-1))) M) := by
  refine Ct.of (by decide) (Nat.le_of_ble_eq_true rfl) ?_
  refine x_iload_n dX10_back_0 rfl ?_
  refine x_i2l dX10_back_1 ?_
  refine x_lconst (v := 0) dX10_back_2 (by decide) ?_
  refine x_lconst (v := 1) dX10_back_3 (by decide) ?_
  refine x_csd mf_X10_in ml_X10_134 dX10_back_4 rfl ⟨by decide, by decide⟩ (Nat.le_of_ble_eq_true rfl) ⟨rfl, rfl⟩ ⟨Nat.le_of_ble_eq_true rfl, Nat.le_of_ble_eq_true rfl⟩ (c_m_rg (a := 0) (b := 1) (by decide) (by decide)) ?_
  refine x_ifb_ne 12 dX10_back_7 (by decide) (fun hc_ => absurd ((hx).symm.trans hc_) Bool.false_ne_true) (fun _ => ?_)
  refine x_iconst (v := -1) dX10_back_10 (by decide) ?_
  exact x_iret dX10_back_11 rfl rfl (Nat.le_refl _) (Nat.le_refl _) ⟨rfl, ⟨rfl, rfl⟩⟩
theorem c_m_back {Z : List (Option Nat)} {ext : List Ds} {M : Mm} {sq : Nat} (j : Nat) (hj : j < 2) (kb : Bool) (hk : M 50 j = b2i kb) (hq : M 48 5 = nI sq) (hb2 : sq ≤ 20) : Ct mX10_back [.ref 48, .int (nI j)] (SS Z ext) M (Rt (some (.int (if kb then Lf (cpF (M 49) 0 (36 * (j + 1)) 36 32) (M 51) (M 54) (cpF (M 49) 0 (36 * (j + 1)) 36 0) sq else -2))) (if kb then upr M 49 (cpF (M 49) 0 (36 * (j + 1)) 36) else M)) := by
  refine Ct.of (by decide) (Nat.le_of_ble_eq_true rfl) ?_
  refine x_iload_n dX10_back_0 rfl ?_
  refine x_i2l dX10_back_1 ?_
  refine x_lconst (v := 0) dX10_back_2 (by decide) ?_
  refine x_lconst (v := 1) dX10_back_3 (by decide) ?_
  refine x_csd mf_X10_in ml_X10_134 dX10_back_4 rfl ⟨by decide, by decide⟩ (Nat.le_of_ble_eq_true rfl) ⟨rfl, rfl⟩ ⟨Nat.le_of_ble_eq_true rfl, Nat.le_of_ble_eq_true rfl⟩ (c_m_rg (a := 0) (b := 1) (by decide) (by decide)) ?_
  refine x_ifb_ne 12 dX10_back_7 (by decide) (fun _ => ?_) (fun hc_ => absurd (hc_.symm.trans (rg_nI (a := 0) (b := 1) (by omega) (by omega) (by decide))) Bool.false_ne_true)
  refine x_aload_n dX10_back_12 rfl ?_
  refine x_getr fl_X10_13 dX10_back_13 sf_48 rfl ?_
  refine x_iload_n dX10_back_16 rfl ?_
  refine x_zald dX10_back_17 sf_50 rfl (by omega) (by decide) ?_
  rw [hk]
  refine x_ifb_ne 24 dX10_back_18 (by decide) (fun h18 => ?_) (fun h18 => ?_)
  · refine x_aload_n dX10_back_24 rfl ?_
    refine x_iconst (v := 0) dX10_back_25 (by decide) ?_
    refine x_bipush (v := 36) dX10_back_26 (by decide) ?_
    refine x_iload_n dX10_back_28 rfl ?_
    refine x_iconst (v := 1) dX10_back_29 (by decide) ?_
    refine x_iadd dX10_back_30 ?_
    refine x_imul dX10_back_31 ?_
    rw [show (36 : Int32) * (nI j + 1) = nI (36 * (j + 1)) by rw [nI_1]; exact pk_mul 36 (j + 1)]
    refine x_cvd mf_X10_copies ml_X10_354 dX10_back_32 rfl sf_48 rfl ⟨by decide, by decide⟩ (Nat.le_of_ble_eq_true rfl) ⟨rfl, rfl⟩ ⟨Nat.le_of_ble_eq_true rfl, Nat.le_of_ble_eq_true rfl⟩ (c_m_copies 0 (36 * (j + 1)) (by omega) (by omega)) ?_
    refine x_aload_n dX10_back_35 rfl ?_
    refine x_aload_n dX10_back_36 rfl ?_
    refine x_getr fl_X10_7 dX10_back_37 sf_48 rfl ?_
    refine x_iconst (v := 0) dX10_back_40 (by decide) ?_
    refine x_iald (q := 0) dX10_back_41 sf_49 (by decide) (by decide) (by decide) ?_
    refine x_cvd mf_X10_leftOf ml_X10_221 dX10_back_42 rfl sf_48 rfl ⟨by decide, by decide⟩ (Nat.le_of_ble_eq_true rfl) ⟨rfl, rfl⟩ ⟨Nat.le_of_ble_eq_true rfl, Nat.le_of_ble_eq_true rfl⟩ (c_m_leftOf (sq := sq) _ hq hb2) ?_
    exact x_iret dX10_back_45 rfl rfl (Nat.le_refl _) (Nat.le_refl _) ⟨rfl, ⟨oi (by rw [h18]; rfl), by rw [h18]; rfl⟩⟩
  · refine x_bipush (v := -2) dX10_back_21 (by decide) ?_
    exact x_iret dX10_back_23 rfl rfl (Nat.le_refl _) (Nat.le_refl _) ⟨rfl, ⟨oi (by rw [h18]; rfl), by rw [h18]; rfl⟩⟩
theorem c_m_isSheet {S : List Ds} {M : Mm} (k l : Int32) : Ct mX10_isSheet [.int k, .int l] S M (Rt (some (.int (b2i (rg k 0 3 && rg l 0 2)))) M) := by
  refine Ct.of (by decide) (Nat.le_of_ble_eq_true rfl) ?_
  refine x_iload_n dX10_isSheet_0 rfl ?_
  refine x_i2l dX10_isSheet_1 ?_
  refine x_lconst (v := 0) dX10_isSheet_2 (by decide) ?_
  refine x_ldc2 dX10_isSheet_3 kc_X10_216 ?_
  refine x_csd mf_X10_in ml_X10_134 dX10_isSheet_6 rfl ⟨by decide, by decide⟩ (Nat.le_of_ble_eq_true rfl) ⟨rfl, rfl⟩ ⟨Nat.le_of_ble_eq_true rfl, Nat.le_of_ble_eq_true rfl⟩ (c_m_rg (a := 0) (b := 3) (by decide) (by decide)) ?_
  refine x_ifb_eq 28 dX10_isSheet_9 (by decide) (fun h9 => ?_) (fun h9 => ?_)
  · refine x_iconst (v := 0) dX10_isSheet_28 (by decide) ?_
    exact x_iret dX10_isSheet_29 rfl rfl (Nat.le_refl _) (Nat.le_refl _) ⟨rfl, ⟨oi (by first | (rw [h9, h21]; rfl) | (rw [h9]; rfl)), rfl⟩⟩
  · refine x_iload_n dX10_isSheet_12 rfl ?_
    refine x_i2l dX10_isSheet_13 ?_
    refine x_lconst (v := 0) dX10_isSheet_14 (by decide) ?_
    refine x_ldc2 dX10_isSheet_15 kc_X10_249 ?_
    refine x_csd mf_X10_in ml_X10_134 dX10_isSheet_18 rfl ⟨by decide, by decide⟩ (Nat.le_of_ble_eq_true rfl) ⟨rfl, rfl⟩ ⟨Nat.le_of_ble_eq_true rfl, Nat.le_of_ble_eq_true rfl⟩ (c_m_rg (a := 0) (b := 2) (by decide) (by decide)) ?_
    refine x_ifb_eq 28 dX10_isSheet_21 (by decide) (fun h21 => ?_) (fun h21 => ?_)
    · refine x_iconst (v := 0) dX10_isSheet_28 (by decide) ?_
      exact x_iret dX10_isSheet_29 rfl rfl (Nat.le_refl _) (Nat.le_refl _) ⟨rfl, ⟨oi (by first | (rw [h9, h21]; rfl) | (rw [h9]; rfl)), rfl⟩⟩
    · refine x_iconst (v := 1) dX10_isSheet_24 (by decide) ?_
      refine x_goto 29 dX10_isSheet_25 (by decide) ?_
      exact x_iret dX10_isSheet_29 rfl rfl (Nat.le_refl _) (Nat.le_refl _) ⟨rfl, ⟨oi (by first | (rw [h9, h21]; rfl) | (rw [h9]; rfl)), rfl⟩⟩
def vIsSet (mt : Nat) (x : Int32) : Bool := !decide (x < 0) && (decide (nI mt = 31) || !decide ((1 : Int32) <<< (nI mt &&& 31) ≤ x))
theorem c_m_isSet {Z : List (Option Nat)} {ext : List Ds} {M : Mm} {mt : Nat} (x : Int32) (hm : M 48 4 = nI mt) : Ct mX10_isSet [.ref 48, .int x] (SS Z ext) M (Rt (some (.int (b2i (vIsSet mt x)))) M) := by
  refine Ct.of (by decide) (Nat.le_of_ble_eq_true rfl) ?_
  refine x_iload_n dX10_isSet_0 rfl ?_
  refine x_if_lt 27 dX10_isSet_1 (by decide) (fun h1 => ?_) (fun h1 => ?_)
  · refine x_iconst (v := 0) dX10_isSet_27 (by decide) ?_
    exact x_iret dX10_isSet_28 rfl rfl (Nat.le_refl _) (Nat.le_refl _) ⟨rfl, ⟨oi (by rw [hm] at *; first | (rw [vIsSet, decide_eq_true h1]; rfl) | (rw [vIsSet, decide_eq_false h1, decide_eq_true h10]; rfl) | (rw [vIsSet, decide_eq_false h1, decide_eq_false h10, decide_eq_true h20]; rfl) | (rw [vIsSet, decide_eq_false h1, decide_eq_false h10, decide_eq_false h20]; rfl)), rfl⟩⟩
  · refine x_aload_n dX10_isSet_4 rfl ?_
    refine x_geti fl_X10_123 dX10_isSet_5 sf_48 rfl ?_
    refine x_bipush (v := 31) dX10_isSet_8 (by decide) ?_
    refine x_icmp_eq 23 dX10_isSet_10 (by decide) (fun h10 => ?_) (fun h10 => ?_)
    · refine x_iconst (v := 1) dX10_isSet_23 (by decide) ?_
      refine x_goto 28 dX10_isSet_24 (by decide) ?_
      exact x_iret dX10_isSet_28 rfl rfl (Nat.le_refl _) (Nat.le_refl _) ⟨rfl, ⟨oi (by rw [hm] at *; first | (rw [vIsSet, decide_eq_true h1]; rfl) | (rw [vIsSet, decide_eq_false h1, decide_eq_true h10]; rfl) | (rw [vIsSet, decide_eq_false h1, decide_eq_false h10, decide_eq_true h20]; rfl) | (rw [vIsSet, decide_eq_false h1, decide_eq_false h10, decide_eq_false h20]; rfl)), rfl⟩⟩
    · refine x_iload_n dX10_isSet_13 rfl ?_
      refine x_iconst (v := 1) dX10_isSet_14 (by decide) ?_
      refine x_aload_n dX10_isSet_15 rfl ?_
      refine x_geti fl_X10_123 dX10_isSet_16 sf_48 rfl ?_
      refine x_ishl dX10_isSet_19 ?_
      refine x_icmp_ge 27 dX10_isSet_20 (by decide) (fun h20 => ?_) (fun h20 => ?_)
      · refine x_iconst (v := 0) dX10_isSet_27 (by decide) ?_
        exact x_iret dX10_isSet_28 rfl rfl (Nat.le_refl _) (Nat.le_refl _) ⟨rfl, ⟨oi (by rw [hm] at *; first | (rw [vIsSet, decide_eq_true h1]; rfl) | (rw [vIsSet, decide_eq_false h1, decide_eq_true h10]; rfl) | (rw [vIsSet, decide_eq_false h1, decide_eq_false h10, decide_eq_true h20]; rfl) | (rw [vIsSet, decide_eq_false h1, decide_eq_false h10, decide_eq_false h20]; rfl)), rfl⟩⟩
      · refine x_iconst (v := 1) dX10_isSet_23 (by decide) ?_
        refine x_goto 28 dX10_isSet_24 (by decide) ?_
        exact x_iret dX10_isSet_28 rfl rfl (Nat.le_refl _) (Nat.le_refl _) ⟨rfl, ⟨oi (by rw [hm] at *; first | (rw [vIsSet, decide_eq_true h1]; rfl) | (rw [vIsSet, decide_eq_false h1, decide_eq_true h10]; rfl) | (rw [vIsSet, decide_eq_false h1, decide_eq_false h10, decide_eq_true h20]; rfl) | (rw [vIsSet, decide_eq_false h1, decide_eq_false h10, decide_eq_false h20]; rfl)), rfl⟩⟩
/-- the byte of place k that feed() lays -/
def fdB (v : Int64) (k : Nat) : Int32 := ((v >>> ((56 - 8 * nI k).toInt64 &&& 63)) &&& 255).toInt32
def fdT (f : Nat → Int32) (t : Nat) (v : Int64) (n : Nat) : Nat → Int32 := fld (fun k g => upd g (t + k) (fdB v k)) n f
theorem fd_s : ∀ k, k < 8 → (56 - 8 * nI k + Int32.ofInt (-8) : Int32) = 56 - 8 * nI (k + 1) := by decide
theorem fd_c : ∀ k, k < 8 → ¬ (56 - 8 * nI k : Int32) < 0 := by decide
theorem c_m_feed {Z : List (Option Nat)} {ext : List Ds} {M : Mm} (t : Nat) (v : Int64) (ht : M 48 19 = nI t) (hb : t + 8 ≤ 320) : Ct mX10_feed [.ref 48, .long v] (SS Z ext) M (Rt (some (.int (nI (t + 8)))) (upr (up2 M 48 19 (nI (t + 8))) 57 (fdT (M 57) t v 8))) := by
  refine Ct.of (by decide) (Nat.le_of_ble_eq_true rfl) ?_
  refine x_aload_n dX10_feed_0 rfl ?_
  refine x_geti fl_X10_129 dX10_feed_1 sf_48 rfl ?_
  refine x_bipush (v := 8) dX10_feed_4 (by decide) ?_
  refine x_iadd dX10_feed_6 ?_
  refine x_sipush (v := 320) dX10_feed_7 (by decide) ?_
  refine x_icmp_le 16 dX10_feed_10 (by decide) (fun _ => ?_) (fun hc_ => absurd (by rw [ht, show (8 : Int32) = nI 8 from rfl, nI_add, show (320 : Int32) = nI 320 from rfl]; exact nI_le hb (by decide)) hc_)
  refine x_bipush (v := 56) dX10_feed_16 (by decide) ?_
  refine x_istore_n dX10_feed_18 (by decide) ?_
  refine x_eq (M := upr (up2 M 48 19 (nI (t + 0))) 57 (fdT (M 57) t v 0)) (by rw [up2_self (by simpa using ht)]; exact (upr_self M 57).symm) rfl rfl rfl ?_
  refine lup (P := fun k => XW _ _ 0 0 (SS Z ext) (upr (up2 M 48 19 (nI (t + k))) 57 (fdT (M 57) t v k)) 19 [some (.ref 48), some (.long v), none, some (.int (56 - 8 * nI k))] []) (N := 8) ?_ ?_ 0 (by omega)
  · refine x_iload_n dX10_feed_19 rfl ?_
    refine x_if_lt 56 dX10_feed_20 (by decide) (fun _ => ?_) (fun hc_ => absurd (by decide) hc_)
    refine x_aload_n dX10_feed_56 rfl ?_
    refine x_geti fl_X10_129 dX10_feed_57 sf_48 rfl ?_
    exact x_iret dX10_feed_60 rfl rfl (Nat.le_refl _) (Nat.le_refl _) ⟨rfl, ⟨rfl, rfl⟩⟩
  · intro k hk ih
    rw [← fd_s k hk, show t + (k + 1) = (t + k) + 1 by omega, nI_succ (t + k)] at ih
    refine x_iload_n dX10_feed_19 rfl ?_
    refine x_if_lt 56 dX10_feed_20 (by decide) (fun hc_ => absurd hc_ (fd_c k hk)) (fun _ => ?_)
    refine x_aload_n dX10_feed_23 rfl ?_
    refine x_getr fl_X10_35 dX10_feed_24 sf_48 rfl ?_
    refine x_aload_n dX10_feed_27 rfl ?_
    refine x_geti fl_X10_129 dX10_feed_28 sf_48 rfl ?_
    refine x_lload_n dX10_feed_31 rfl ?_
    refine x_iload_n dX10_feed_32 rfl ?_
    refine x_lshr dX10_feed_33 ?_
    refine x_ldc2 dX10_feed_34 kc_X10_132 ?_
    refine x_land dX10_feed_37 ?_
    refine x_l2i dX10_feed_38 ?_
    refine x_iast dX10_feed_39 sf_57 (q := t + k) rfl (by omega) (by decide) ?_
    refine x_aload_n dX10_feed_40 rfl ?_
    refine x_dup dX10_feed_41 rfl ?_
    refine x_geti fl_X10_129 dX10_feed_42 sf_48 rfl ?_
    refine x_iconst (v := 1) dX10_feed_45 (by decide) ?_
    refine x_iadd dX10_feed_46 ?_
    refine x_put fl_X10_129 dX10_feed_47 sf_48 rfl rfl rfl ?_
    refine x_iinc dX10_feed_50 rfl rfl (by decide) ?_
    refine x_goto 19 dX10_feed_53 (by decide) ?_
    rw [up2_upr2]
    refine x_eq ?_ rfl rfl rfl ih
    funext c'
    by_cases h1 : c' = 57
    · subst h1; rfl
    · by_cases h2 : c' = 48
      · subst h2; funext k'; by_cases h3 : k' = 19 <;> simp [up2, upr, upd, h3]
      · simp [up2, upr, h1, h2]
theorem c_m_feedX {Z : List (Option Nat)} {ext : List Ds} {M : Mm} (t : Nat) (v : Int64) (ht : M 48 19 = nI t) (hb : ¬ t + 8 ≤ 320) (hb2 : t ≤ 320) : Ct mX10_feed [.ref 48, .long v] (SS Z ext) M (Rt (some (.int (-3))) M) := by
  refine Ct.of (by decide) (Nat.le_of_ble_eq_true rfl) ?_
  refine x_aload_n dX10_feed_0 rfl ?_
  refine x_geti fl_X10_129 dX10_feed_1 sf_48 rfl ?_
  refine x_bipush (v := 8) dX10_feed_4 (by decide) ?_
  refine x_iadd dX10_feed_6 ?_
  refine x_sipush (v := 320) dX10_feed_7 (by decide) ?_
  refine x_icmp_le 16 dX10_feed_10 (by decide) (fun hc_ => absurd hc_ (by rw [ht, show (8 : Int32) = nI 8 from rfl, nI_add, show (320 : Int32) = nI 320 from rfl]; exact nI_ge (by omega) (by omega))) (fun _ => ?_)
  refine x_bipush (v := -3) dX10_feed_13 (by decide) ?_
  exact x_iret dX10_feed_15 rfl rfl (Nat.le_refl _) (Nat.le_refl _) ⟨rfl, ⟨rfl, rfl⟩⟩
