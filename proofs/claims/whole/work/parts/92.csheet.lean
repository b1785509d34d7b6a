/-! ===== the class: lay, read, count ===== -/
/-- sheet k is the object c with its cells a, z of them -/
def ShS (Z : List (Option Nat)) (ext : List Ds) (k c a z : Nat) : Prop := lk Z k = some (some c) ∧ lk (SS Z ext) c = some (.inr (.inr (5, [none, some (some a)]))) ∧ lk (SS Z ext) a = some (.inl (.int, z)) ∧ z ≤ 40
theorem c_hasCell {S : List Ds} {M : Mm} {c a z : Nat} (ho_sh : lk S c = some (.inr (.inr (5, [none, some (some a)])))) (ho_sa : lk S a = some (.inl (.int, z))) (hz : z ≤ 40) (x : Int32) : Ct mX5_hasCell [.ref c, .int x] S M (Rt (some (.int (b2i (ix x z)))) M) := by
  refine Ct.of (by decide) (Nat.le_of_ble_eq_true rfl) ?_
  refine x_iload_n dX5_hasCell_0 rfl ?_
  refine x_if_lt 17 dX5_hasCell_1 (by decide) (fun h1 => ?_) (fun h1 => ?_)
  · refine x_iconst (v := 0) dX5_hasCell_17 (by decide) ?_
    exact x_iret dX5_hasCell_18 rfl rfl (Nat.le_refl _) (Nat.le_refl _) ⟨rfl, ⟨oi (by first | (rw [ix_f1 h1]; rfl) | (rw [ix_f2 h10]; rfl) | (rw [ix_t1 h1 h10]; rfl)), rfl⟩⟩
  · refine x_iload_n dX5_hasCell_4 rfl ?_
    refine x_aload_n dX5_hasCell_5 rfl ?_
    refine x_getr fl_X5_13 dX5_hasCell_6 ho_sh rfl ?_
    refine x_alen dX5_hasCell_9 (Or.inl rfl) ho_sa rfl ?_
    refine x_icmp_ge 17 dX5_hasCell_10 (by decide) (fun h10 => ?_) (fun h10 => ?_)
    · refine x_iconst (v := 0) dX5_hasCell_17 (by decide) ?_
      exact x_iret dX5_hasCell_18 rfl rfl (Nat.le_refl _) (Nat.le_refl _) ⟨rfl, ⟨oi (by first | (rw [ix_f1 h1]; rfl) | (rw [ix_f2 h10]; rfl) | (rw [ix_t1 h1 h10]; rfl)), rfl⟩⟩
    · refine x_iconst (v := 1) dX5_hasCell_13 (by decide) ?_
      refine x_goto 18 dX5_hasCell_14 (by decide) ?_
      exact x_iret dX5_hasCell_18 rfl rfl (Nat.le_refl _) (Nat.le_refl _) ⟨rfl, ⟨oi (by first | (rw [ix_f1 h1]; rfl) | (rw [ix_f2 h10]; rfl) | (rw [ix_t1 h1 h10]; rfl)), rfl⟩⟩
theorem c_put {S : List Ds} {M : Mm} {c a z : Nat} (ho_sh : lk S c = some (.inr (.inr (5, [none, some (some a)])))) (ho_sa : lk S a = some (.inl (.int, z))) (hz : z ≤ 40) (q : Nat) (hq : q < z) (v : Int32) : Ct mX5_put [.ref c, .int (nI q), .int v] S M (Rt none (up2 M a q (lnv (M c 0) v))) := by
  have hn_sa : z < 2 ^ 31 := by omega
  refine Ct.of (by decide) (Nat.le_of_ble_eq_true rfl) ?_
  refine x_aload_n dX5_put_0 rfl ?_
  refine x_iload_n dX5_put_1 rfl ?_
  refine x_cvd mf_X5_hasCell ml_X5_17 dX5_put_2 rfl ho_sh rfl ⟨by decide, by decide⟩ (Nat.le_of_ble_eq_true rfl) ⟨rfl, rfl⟩ ⟨Nat.le_of_ble_eq_true rfl, Nat.le_of_ble_eq_true rfl⟩ (c_hasCell ho_sh ho_sa hz (nI q)) ?_
  refine x_ifb_ne 9 dX5_put_5 (by decide) (fun _ => ?_) (fun hc_ => absurd (hc_.symm.trans (ix_nI hq hn_sa)) Bool.false_ne_true)
  refine x_aload_n dX5_put_9 rfl ?_
  refine x_geti fl_X5_7 dX5_put_10 ho_sh rfl ?_
  refine x_if_ne 27 dX5_put_13 (by decide) (fun h13 => ?_) (fun h13 => ?_)
  · refine x_aload_n dX5_put_27 rfl ?_
    refine x_geti fl_X5_7 dX5_put_28 ho_sh rfl ?_
    refine x_iconst (v := 1) dX5_put_31 (by decide) ?_
    refine x_icmp_ne 46 dX5_put_32 (by decide) (fun h32 => ?_) (fun h32 => ?_)
    · refine x_aload_n dX5_put_46 rfl ?_
      refine x_getr fl_X5_13 dX5_put_47 ho_sh rfl ?_
      refine x_iload_n dX5_put_50 rfl ?_
      refine x_iload_n dX5_put_51 rfl ?_
      refine x_iast dX5_put_52 ho_sa rfl (by omega) hn_sa ?_
      exact x_ret dX5_put_53 rfl (Nat.le_refl _) (Nat.le_refl _) ⟨rfl, ⟨rfl, by unfold lnv; first | (rw [decide_eq_true h13]; rfl) | (rw [decide_eq_false h13, decide_eq_true h32]; rfl) | (rw [decide_eq_false h13, decide_eq_false h32]; rfl)⟩⟩
    · refine x_aload_n dX5_put_35 rfl ?_
      refine x_getr fl_X5_13 dX5_put_36 ho_sh rfl ?_
      refine x_iload_n dX5_put_39 rfl ?_
      refine x_iload_n dX5_put_40 rfl ?_
      refine x_i2s dX5_put_41 ?_
      refine x_iast dX5_put_42 ho_sa rfl (by omega) hn_sa ?_
      refine x_goto 53 dX5_put_43 (by decide) ?_
      exact x_ret dX5_put_53 rfl (Nat.le_refl _) (Nat.le_refl _) ⟨rfl, ⟨rfl, by unfold lnv; first | (rw [decide_eq_true h13]; rfl) | (rw [decide_eq_false h13, decide_eq_true h32]; rfl) | (rw [decide_eq_false h13, decide_eq_false h32]; rfl)⟩⟩
  · refine x_aload_n dX5_put_16 rfl ?_
    refine x_getr fl_X5_13 dX5_put_17 ho_sh rfl ?_
    refine x_iload_n dX5_put_20 rfl ?_
    refine x_iload_n dX5_put_21 rfl ?_
    refine x_i2b dX5_put_22 ?_
    refine x_iast dX5_put_23 ho_sa rfl (by omega) hn_sa ?_
    refine x_goto 53 dX5_put_24 (by decide) ?_
    exact x_ret dX5_put_53 rfl (Nat.le_refl _) (Nat.le_refl _) ⟨rfl, ⟨rfl, by unfold lnv; first | (rw [decide_eq_true h13]; rfl) | (rw [decide_eq_false h13, decide_eq_true h32]; rfl) | (rw [decide_eq_false h13, decide_eq_false h32]; rfl)⟩⟩
theorem c_layX {Z : List (Option Nat)} {ext : List Ds} {M : Mm} (k i v : Int32) (hx : ix k 4 = false) : Ct mX9_lay [.ref 0, .int k, .int i, .int v] (SS Z ext) M (Rt (some (.int (-1))) M) := by
  refine Ct.of (by decide) (Nat.le_of_ble_eq_true rfl) ?_
  refine x_iload_n dX9_lay_0 rfl ?_
  refine x_csd mf_X9_isSheet ml_X9_277 dX9_lay_1 rfl ⟨by decide, by decide⟩ (Nat.le_of_ble_eq_true rfl) ⟨rfl, rfl⟩ ⟨Nat.le_of_ble_eq_true rfl, Nat.le_of_ble_eq_true rfl⟩ (c_isSheet k) ?_
  refine x_ifb_ne 9 dX9_lay_4 (by decide) (fun hc_ => absurd ((hx).symm.trans hc_) Bool.false_ne_true) (fun _ => ?_)
  refine x_iconst (v := -1) dX9_lay_7 (by decide) ?_
  exact x_iret dX9_lay_8 rfl rfl (Nat.le_refl _) (Nat.le_refl _) ⟨rfl, ⟨rfl, rfl⟩⟩
theorem c_layN {Z : List (Option Nat)} {ext : List Ds} {M : Mm} (k : Nat) (i v : Int32) (hk : k < 4) (hz4 : Z.length = 4) (hZ : lk Z k = some none) : Ct mX9_lay [.ref 0, .int (nI k), .int i, .int v] (SS Z ext) M (Rt (some (.int (-11))) M) := by
  refine Ct.of (by decide) (Nat.le_of_ble_eq_true rfl) ?_
  refine x_iload_n dX9_lay_0 rfl ?_
  refine x_csd mf_X9_isSheet ml_X9_277 dX9_lay_1 rfl ⟨by decide, by decide⟩ (Nat.le_of_ble_eq_true rfl) ⟨rfl, rfl⟩ ⟨Nat.le_of_ble_eq_true rfl, Nat.le_of_ble_eq_true rfl⟩ (c_isSheet (nI k)) ?_
  refine x_ifb_ne 9 dX9_lay_4 (by decide) (fun _ => ?_) (fun hc_ => absurd (hc_.symm.trans (ix_nI hk (by decide))) Bool.false_ne_true)
  refine x_aload_n dX9_lay_9 rfl ?_
  refine x_getr fl_X9_73 dX9_lay_10 sf_0 rfl ?_
  refine x_iload_n dX9_lay_13 rfl ?_
  refine x_aaldN dX9_lay_14 sf_38 rfl hZ (by omega) (Or.inr rfl) ?_
  refine x_astoreN dX9_lay_15 (by decide) ?_
  refine x_aloadN dX9_lay_17 rfl ?_
  refine x_ifnonnullN dX9_lay_19 ?_
  refine x_bipush (v := -11) dX9_lay_22 (by decide) ?_
  exact x_iret dX9_lay_24 rfl rfl (Nat.le_refl _) (Nat.le_refl _) ⟨rfl, ⟨rfl, rfl⟩⟩
theorem c_layI {Z : List (Option Nat)} {ext : List Ds} {M : Mm} {c a z : Nat} (k : Nat) (i v : Int32) (hk : k < 4) (hz4 : Z.length = 4) (hZ : ShS Z ext k c a z) (hi : ix i z = false) : Ct mX9_lay [.ref 0, .int (nI k), .int i, .int v] (SS Z ext) M (Rt (some (.int (-12))) M) := by
  obtain ⟨hZ1, ho_sh, ho_sa, hz⟩ := hZ
  refine Ct.of (by decide) (Nat.le_of_ble_eq_true rfl) ?_
  refine x_iload_n dX9_lay_0 rfl ?_
  refine x_csd mf_X9_isSheet ml_X9_277 dX9_lay_1 rfl ⟨by decide, by decide⟩ (Nat.le_of_ble_eq_true rfl) ⟨rfl, rfl⟩ ⟨Nat.le_of_ble_eq_true rfl, Nat.le_of_ble_eq_true rfl⟩ (c_isSheet (nI k)) ?_
  refine x_ifb_ne 9 dX9_lay_4 (by decide) (fun _ => ?_) (fun hc_ => absurd (hc_.symm.trans (ix_nI hk (by decide))) Bool.false_ne_true)
  refine x_aload_n dX9_lay_9 rfl ?_
  refine x_getr fl_X9_73 dX9_lay_10 sf_0 rfl ?_
  refine x_iload_n dX9_lay_13 rfl ?_
  refine x_aald dX9_lay_14 sf_38 rfl hZ1 (by omega) (Or.inr rfl) ?_
  refine x_astore dX9_lay_15 (by decide) ?_
  refine x_aload dX9_lay_17 rfl ?_
  refine x_ifnonnull 25 dX9_lay_19 (by decide) ?_
  refine x_aload dX9_lay_25 rfl ?_
  refine x_iload_n dX9_lay_27 rfl ?_
  refine x_cvd mf_X5_hasCell ml_X9_285 dX9_lay_28 rfl ho_sh rfl ⟨by decide, by decide⟩ (Nat.le_of_ble_eq_true rfl) ⟨rfl, rfl⟩ ⟨Nat.le_of_ble_eq_true rfl, Nat.le_of_ble_eq_true rfl⟩ (c_hasCell ho_sh ho_sa hz i) ?_
  refine x_ifb_ne 37 dX9_lay_31 (by decide) (fun hc_ => absurd ((hi).symm.trans hc_) Bool.false_ne_true) (fun _ => ?_)
  refine x_bipush (v := -12) dX9_lay_34 (by decide) ?_
  exact x_iret dX9_lay_36 rfl rfl (Nat.le_refl _) (Nat.le_refl _) ⟨rfl, ⟨rfl, rfl⟩⟩
theorem c_lay {Z : List (Option Nat)} {ext : List Ds} {M : Mm} {c a z : Nat} (k q : Nat) (v : Int32) (hk : k < 4) (hz4 : Z.length = 4) (hZ : ShS Z ext k c a z) (hi : q < z) : Ct mX9_lay [.ref 0, .int (nI k), .int (nI q), .int v] (SS Z ext) M (Rt (some (.int 1)) (up2 M a q (lnv (M c 0) v))) := by
  obtain ⟨hZ1, ho_sh, ho_sa, hz⟩ := hZ
  refine Ct.of (by decide) (Nat.le_of_ble_eq_true rfl) ?_
  refine x_iload_n dX9_lay_0 rfl ?_
  refine x_csd mf_X9_isSheet ml_X9_277 dX9_lay_1 rfl ⟨by decide, by decide⟩ (Nat.le_of_ble_eq_true rfl) ⟨rfl, rfl⟩ ⟨Nat.le_of_ble_eq_true rfl, Nat.le_of_ble_eq_true rfl⟩ (c_isSheet (nI k)) ?_
  refine x_ifb_ne 9 dX9_lay_4 (by decide) (fun _ => ?_) (fun hc_ => absurd (hc_.symm.trans (ix_nI hk (by decide))) Bool.false_ne_true)
  refine x_aload_n dX9_lay_9 rfl ?_
  refine x_getr fl_X9_73 dX9_lay_10 sf_0 rfl ?_
  refine x_iload_n dX9_lay_13 rfl ?_
  refine x_aald dX9_lay_14 sf_38 rfl hZ1 (by omega) (Or.inr rfl) ?_
  refine x_astore dX9_lay_15 (by decide) ?_
  refine x_aload dX9_lay_17 rfl ?_
  refine x_ifnonnull 25 dX9_lay_19 (by decide) ?_
  refine x_aload dX9_lay_25 rfl ?_
  refine x_iload_n dX9_lay_27 rfl ?_
  refine x_cvd mf_X5_hasCell ml_X9_285 dX9_lay_28 rfl ho_sh rfl ⟨by decide, by decide⟩ (Nat.le_of_ble_eq_true rfl) ⟨rfl, rfl⟩ ⟨Nat.le_of_ble_eq_true rfl, Nat.le_of_ble_eq_true rfl⟩ (c_hasCell ho_sh ho_sa hz (nI q)) ?_
  refine x_ifb_ne 37 dX9_lay_31 (by decide) (fun _ => ?_) (fun hc_ => absurd (hc_.symm.trans (ix_nI hi (by omega))) Bool.false_ne_true)
  refine x_aload dX9_lay_37 rfl ?_
  refine x_iload_n dX9_lay_39 rfl ?_
  refine x_iload_n dX9_lay_40 rfl ?_
  refine x_cvd mf_X5_put ml_X9_288 dX9_lay_41 rfl ho_sh rfl ⟨by decide, by decide⟩ (Nat.le_of_ble_eq_true rfl) ⟨rfl, rfl⟩ ⟨Nat.le_of_ble_eq_true rfl, Nat.le_of_ble_eq_true rfl⟩ (c_put ho_sh ho_sa hz q hi v) ?_
  refine x_iconst (v := 1) dX9_lay_44 (by decide) ?_
  exact x_iret dX9_lay_45 rfl rfl (Nat.le_refl _) (Nat.le_refl _) ⟨rfl, ⟨rfl, rfl⟩⟩
def vCountC (L : Int32) (co se : Nat → Int32) (kp tp : Int32) (s0 : Option Nat) (x : Int32) : Int32 := if x = 0 then bcE L else if x = 1 then szs se 3 else if x = 2 then bcE kp else if x = 3 then tp else if x = 4 then (match s0 with | none => -4 | some z => nI z) else if x = 5 then csl L co 31 else -1
theorem c_countN {Z : List (Option Nat)} {ext : List Ds} {M : Mm} (x : Int32) (hz4 : Z.length = 4) (hZ : lk Z 0 = some none) : Ct mX9_count [.ref 0, .int x] (SS Z ext) M (Rt (some (.int (vCountC (M 10 0) (M 11) (M 12) (M 0 11) (M 13 1) none x))) M) := by
  refine Ct.of (by decide) (Nat.le_of_ble_eq_true rfl) ?_
  refine x_iload_n dX9_count_0 rfl ?_
  rcases sw6 x with rfl | rfl | rfl | rfl | rfl | rfl | hsw
  · refine x_tabIn (off := 39) 40 dX9_count_1 (by decide) (by decide) (by decide) (by decide) ?_
    refine x_aload_n dX9_count_40 rfl ?_
    refine x_getr fl_X9_19 dX9_count_41 sf_0 rfl ?_
    refine x_geti fl_X9_137 dX9_count_44 sf_10 rfl ?_
    refine x_csd mf_J6_bitCount_0f7a4 ml_X9_173 dX9_count_47 rfl ⟨by decide, by decide⟩ (Nat.le_of_ble_eq_true rfl) ⟨rfl, rfl⟩ ⟨Nat.le_of_ble_eq_true rfl, Nat.le_of_ble_eq_true rfl⟩ (c_bitCount _) ?_
    exact x_iret dX9_count_50 rfl rfl (Nat.le_refl _) (Nat.le_refl _) ⟨rfl, ⟨oi (by rw [vCountC]; first | rfl | (rw [if_neg (sw_ne hsw 0 (by decide) (by decide)), if_neg (sw_ne hsw 1 (by decide) (by decide)), if_neg (sw_ne hsw 2 (by decide) (by decide)), if_neg (sw_ne hsw 3 (by decide) (by decide)), if_neg (sw_ne hsw 4 (by decide) (by decide)), if_neg (sw_ne hsw 5 (by decide) (by decide))])), rfl⟩⟩
  · refine x_tabIn (off := 50) 51 dX9_count_1 (by decide) (by decide) (by decide) (by decide) ?_
    refine x_aload_n dX9_count_51 rfl ?_
    refine x_getr fl_X9_19 dX9_count_52 sf_0 rfl ?_
    refine x_cvd mf_X6_sizesSeen ml_X9_300 dX9_count_55 rfl sf_10 rfl ⟨by decide, by decide⟩ (Nat.le_of_ble_eq_true rfl) ⟨rfl, rfl⟩ ⟨Nat.le_of_ble_eq_true rfl, Nat.le_of_ble_eq_true rfl⟩ (c_sizesSeen) ?_
    exact x_iret dX9_count_58 rfl rfl (Nat.le_refl _) (Nat.le_refl _) ⟨rfl, ⟨oi (by rw [vCountC]; first | rfl | (rw [if_neg (sw_ne hsw 0 (by decide) (by decide)), if_neg (sw_ne hsw 1 (by decide) (by decide)), if_neg (sw_ne hsw 2 (by decide) (by decide)), if_neg (sw_ne hsw 3 (by decide) (by decide)), if_neg (sw_ne hsw 4 (by decide) (by decide)), if_neg (sw_ne hsw 5 (by decide) (by decide))])), rfl⟩⟩
  · refine x_tabIn (off := 58) 59 dX9_count_1 (by decide) (by decide) (by decide) (by decide) ?_
    refine x_aload_n dX9_count_59 rfl ?_
    refine x_geti fl_X9_120 dX9_count_60 sf_0 rfl ?_
    refine x_csd mf_J6_bitCount_0f7a4 ml_X9_173 dX9_count_63 rfl ⟨by decide, by decide⟩ (Nat.le_of_ble_eq_true rfl) ⟨rfl, rfl⟩ ⟨Nat.le_of_ble_eq_true rfl, Nat.le_of_ble_eq_true rfl⟩ (c_bitCount _) ?_
    exact x_iret dX9_count_66 rfl rfl (Nat.le_refl _) (Nat.le_refl _) ⟨rfl, ⟨oi (by rw [vCountC]; first | rfl | (rw [if_neg (sw_ne hsw 0 (by decide) (by decide)), if_neg (sw_ne hsw 1 (by decide) (by decide)), if_neg (sw_ne hsw 2 (by decide) (by decide)), if_neg (sw_ne hsw 3 (by decide) (by decide)), if_neg (sw_ne hsw 4 (by decide) (by decide)), if_neg (sw_ne hsw 5 (by decide) (by decide))])), rfl⟩⟩
  · refine x_tabIn (off := 66) 67 dX9_count_1 (by decide) (by decide) (by decide) (by decide) ?_
    refine x_aload_n dX9_count_67 rfl ?_
    refine x_getr fl_X9_26 dX9_count_68 sf_0 rfl ?_
    refine x_geti fl_X9_96 dX9_count_71 sf_13 rfl ?_
    exact x_iret dX9_count_74 rfl rfl (Nat.le_refl _) (Nat.le_refl _) ⟨rfl, ⟨oi (by rw [vCountC]; first | rfl | (rw [if_neg (sw_ne hsw 0 (by decide) (by decide)), if_neg (sw_ne hsw 1 (by decide) (by decide)), if_neg (sw_ne hsw 2 (by decide) (by decide)), if_neg (sw_ne hsw 3 (by decide) (by decide)), if_neg (sw_ne hsw 4 (by decide) (by decide)), if_neg (sw_ne hsw 5 (by decide) (by decide))])), rfl⟩⟩
  · refine x_tabIn (off := 74) 75 dX9_count_1 (by decide) (by decide) (by decide) (by decide) ?_
    refine x_aload_n dX9_count_75 rfl ?_
    refine x_getr fl_X9_73 dX9_count_76 sf_0 rfl ?_
    refine x_iconst (v := 0) dX9_count_79 (by decide) ?_
    refine x_aaldN dX9_count_80 sf_38 (k := 0) rfl hZ (by omega) (Or.inr rfl) ?_
    refine x_astore_nN dX9_count_81 (by decide) ?_
    refine x_aload_nN dX9_count_82 rfl ?_
    refine x_ifnonnullN dX9_count_83 ?_
    refine x_bipush (v := -4) dX9_count_86 (by decide) ?_
    refine x_goto 96 dX9_count_88 (by decide) ?_
    exact x_iret dX9_count_96 rfl rfl (Nat.le_refl _) (Nat.le_refl _) ⟨rfl, ⟨oi (by rw [vCountC]; first | rfl | (rw [if_neg (sw_ne hsw 0 (by decide) (by decide)), if_neg (sw_ne hsw 1 (by decide) (by decide)), if_neg (sw_ne hsw 2 (by decide) (by decide)), if_neg (sw_ne hsw 3 (by decide) (by decide)), if_neg (sw_ne hsw 4 (by decide) (by decide)), if_neg (sw_ne hsw 5 (by decide) (by decide))])), rfl⟩⟩
  · refine x_tabIn (off := 96) 97 dX9_count_1 (by decide) (by decide) (by decide) (by decide) ?_
    refine x_aload_n dX9_count_97 rfl ?_
    refine x_getr fl_X9_19 dX9_count_98 sf_0 rfl ?_
    refine x_cvd mf_X6_costsLying ml_X9_303 dX9_count_101 rfl sf_10 rfl ⟨by decide, by decide⟩ (Nat.le_of_ble_eq_true rfl) ⟨rfl, rfl⟩ ⟨Nat.le_of_ble_eq_true rfl, Nat.le_of_ble_eq_true rfl⟩ (c_costsLying) ?_
    exact x_iret dX9_count_104 rfl rfl (Nat.le_refl _) (Nat.le_refl _) ⟨rfl, ⟨oi (by rw [vCountC]; first | rfl | (rw [if_neg (sw_ne hsw 0 (by decide) (by decide)), if_neg (sw_ne hsw 1 (by decide) (by decide)), if_neg (sw_ne hsw 2 (by decide) (by decide)), if_neg (sw_ne hsw 3 (by decide) (by decide)), if_neg (sw_ne hsw 4 (by decide) (by decide)), if_neg (sw_ne hsw 5 (by decide) (by decide))])), rfl⟩⟩
  · refine x_tabOut 105 dX9_count_1 hsw (by decide) ?_
    refine x_iconst (v := -1) dX9_count_105 (by decide) ?_
    exact x_iret dX9_count_106 rfl rfl (Nat.le_refl _) (Nat.le_refl _) ⟨rfl, ⟨oi (by rw [vCountC]; first | rfl | (rw [if_neg (sw_ne hsw 0 (by decide) (by decide)), if_neg (sw_ne hsw 1 (by decide) (by decide)), if_neg (sw_ne hsw 2 (by decide) (by decide)), if_neg (sw_ne hsw 3 (by decide) (by decide)), if_neg (sw_ne hsw 4 (by decide) (by decide)), if_neg (sw_ne hsw 5 (by decide) (by decide))])), rfl⟩⟩
theorem c_count {Z : List (Option Nat)} {ext : List Ds} {M : Mm} {c a z : Nat} (x : Int32) (hz4 : Z.length = 4) (hZ : ShS Z ext 0 c a z) : Ct mX9_count [.ref 0, .int x] (SS Z ext) M (Rt (some (.int (vCountC (M 10 0) (M 11) (M 12) (M 0 11) (M 13 1) (some z) x))) M) := by
  obtain ⟨hZ1, ho_sh, ho_sa, hz⟩ := hZ
  refine Ct.of (by decide) (Nat.le_of_ble_eq_true rfl) ?_
  refine x_iload_n dX9_count_0 rfl ?_
  rcases sw6 x with rfl | rfl | rfl | rfl | rfl | rfl | hsw
  · refine x_tabIn (off := 39) 40 dX9_count_1 (by decide) (by decide) (by decide) (by decide) ?_
    refine x_aload_n dX9_count_40 rfl ?_
    refine x_getr fl_X9_19 dX9_count_41 sf_0 rfl ?_
    refine x_geti fl_X9_137 dX9_count_44 sf_10 rfl ?_
    refine x_csd mf_J6_bitCount_0f7a4 ml_X9_173 dX9_count_47 rfl ⟨by decide, by decide⟩ (Nat.le_of_ble_eq_true rfl) ⟨rfl, rfl⟩ ⟨Nat.le_of_ble_eq_true rfl, Nat.le_of_ble_eq_true rfl⟩ (c_bitCount _) ?_
    exact x_iret dX9_count_50 rfl rfl (Nat.le_refl _) (Nat.le_refl _) ⟨rfl, ⟨oi (by rw [vCountC]; first | rfl | (rw [if_neg (sw_ne hsw 0 (by decide) (by decide)), if_neg (sw_ne hsw 1 (by decide) (by decide)), if_neg (sw_ne hsw 2 (by decide) (by decide)), if_neg (sw_ne hsw 3 (by decide) (by decide)), if_neg (sw_ne hsw 4 (by decide) (by decide)), if_neg (sw_ne hsw 5 (by decide) (by decide))])), rfl⟩⟩
  · refine x_tabIn (off := 50) 51 dX9_count_1 (by decide) (by decide) (by decide) (by decide) ?_
    refine x_aload_n dX9_count_51 rfl ?_
    refine x_getr fl_X9_19 dX9_count_52 sf_0 rfl ?_
    refine x_cvd mf_X6_sizesSeen ml_X9_300 dX9_count_55 rfl sf_10 rfl ⟨by decide, by decide⟩ (Nat.le_of_ble_eq_true rfl) ⟨rfl, rfl⟩ ⟨Nat.le_of_ble_eq_true rfl, Nat.le_of_ble_eq_true rfl⟩ (c_sizesSeen) ?_
    exact x_iret dX9_count_58 rfl rfl (Nat.le_refl _) (Nat.le_refl _) ⟨rfl, ⟨oi (by rw [vCountC]; first | rfl | (rw [if_neg (sw_ne hsw 0 (by decide) (by decide)), if_neg (sw_ne hsw 1 (by decide) (by decide)), if_neg (sw_ne hsw 2 (by decide) (by decide)), if_neg (sw_ne hsw 3 (by decide) (by decide)), if_neg (sw_ne hsw 4 (by decide) (by decide)), if_neg (sw_ne hsw 5 (by decide) (by decide))])), rfl⟩⟩
  · refine x_tabIn (off := 58) 59 dX9_count_1 (by decide) (by decide) (by decide) (by decide) ?_
    refine x_aload_n dX9_count_59 rfl ?_
    refine x_geti fl_X9_120 dX9_count_60 sf_0 rfl ?_
    refine x_csd mf_J6_bitCount_0f7a4 ml_X9_173 dX9_count_63 rfl ⟨by decide, by decide⟩ (Nat.le_of_ble_eq_true rfl) ⟨rfl, rfl⟩ ⟨Nat.le_of_ble_eq_true rfl, Nat.le_of_ble_eq_true rfl⟩ (c_bitCount _) ?_
    exact x_iret dX9_count_66 rfl rfl (Nat.le_refl _) (Nat.le_refl _) ⟨rfl, ⟨oi (by rw [vCountC]; first | rfl | (rw [if_neg (sw_ne hsw 0 (by decide) (by decide)), if_neg (sw_ne hsw 1 (by decide) (by decide)), if_neg (sw_ne hsw 2 (by decide) (by decide)), if_neg (sw_ne hsw 3 (by decide) (by decide)), if_neg (sw_ne hsw 4 (by decide) (by decide)), if_neg (sw_ne hsw 5 (by decide) (by decide))])), rfl⟩⟩
  · refine x_tabIn (off := 66) 67 dX9_count_1 (by decide) (by decide) (by decide) (by decide) ?_
    refine x_aload_n dX9_count_67 rfl ?_
    refine x_getr fl_X9_26 dX9_count_68 sf_0 rfl ?_
    refine x_geti fl_X9_96 dX9_count_71 sf_13 rfl ?_
    exact x_iret dX9_count_74 rfl rfl (Nat.le_refl _) (Nat.le_refl _) ⟨rfl, ⟨oi (by rw [vCountC]; first | rfl | (rw [if_neg (sw_ne hsw 0 (by decide) (by decide)), if_neg (sw_ne hsw 1 (by decide) (by decide)), if_neg (sw_ne hsw 2 (by decide) (by decide)), if_neg (sw_ne hsw 3 (by decide) (by decide)), if_neg (sw_ne hsw 4 (by decide) (by decide)), if_neg (sw_ne hsw 5 (by decide) (by decide))])), rfl⟩⟩
  · refine x_tabIn (off := 74) 75 dX9_count_1 (by decide) (by decide) (by decide) (by decide) ?_
    refine x_aload_n dX9_count_75 rfl ?_
    refine x_getr fl_X9_73 dX9_count_76 sf_0 rfl ?_
    refine x_iconst (v := 0) dX9_count_79 (by decide) ?_
    refine x_aald dX9_count_80 sf_38 (k := 0) rfl hZ1 (by omega) (Or.inr rfl) ?_
    refine x_astore_n dX9_count_81 (by decide) ?_
    refine x_aload_n dX9_count_82 rfl ?_
    refine x_ifnonnull 91 dX9_count_83 (by decide) ?_
    refine x_aload_n dX9_count_91 rfl ?_
    refine x_getr fl_X9_294 dX9_count_92 ho_sh rfl ?_
    refine x_alen dX9_count_95 (Or.inl rfl) ho_sa rfl ?_
    exact x_iret dX9_count_96 rfl rfl (Nat.le_refl _) (Nat.le_refl _) ⟨rfl, ⟨oi (by rw [vCountC]; first | rfl | (rw [if_neg (sw_ne hsw 0 (by decide) (by decide)), if_neg (sw_ne hsw 1 (by decide) (by decide)), if_neg (sw_ne hsw 2 (by decide) (by decide)), if_neg (sw_ne hsw 3 (by decide) (by decide)), if_neg (sw_ne hsw 4 (by decide) (by decide)), if_neg (sw_ne hsw 5 (by decide) (by decide))])), rfl⟩⟩
  · refine x_tabIn (off := 96) 97 dX9_count_1 (by decide) (by decide) (by decide) (by decide) ?_
    refine x_aload_n dX9_count_97 rfl ?_
    refine x_getr fl_X9_19 dX9_count_98 sf_0 rfl ?_
    refine x_cvd mf_X6_costsLying ml_X9_303 dX9_count_101 rfl sf_10 rfl ⟨by decide, by decide⟩ (Nat.le_of_ble_eq_true rfl) ⟨rfl, rfl⟩ ⟨Nat.le_of_ble_eq_true rfl, Nat.le_of_ble_eq_true rfl⟩ (c_costsLying) ?_
    exact x_iret dX9_count_104 rfl rfl (Nat.le_refl _) (Nat.le_refl _) ⟨rfl, ⟨oi (by rw [vCountC]; first | rfl | (rw [if_neg (sw_ne hsw 0 (by decide) (by decide)), if_neg (sw_ne hsw 1 (by decide) (by decide)), if_neg (sw_ne hsw 2 (by decide) (by decide)), if_neg (sw_ne hsw 3 (by decide) (by decide)), if_neg (sw_ne hsw 4 (by decide) (by decide)), if_neg (sw_ne hsw 5 (by decide) (by decide))])), rfl⟩⟩
  · refine x_tabOut 105 dX9_count_1 hsw (by decide) ?_
    refine x_iconst (v := -1) dX9_count_105 (by decide) ?_
    exact x_iret dX9_count_106 rfl rfl (Nat.le_refl _) (Nat.le_refl _) ⟨rfl, ⟨oi (by rw [vCountC]; first | rfl | (rw [if_neg (sw_ne hsw 0 (by decide) (by decide)), if_neg (sw_ne hsw 1 (by decide) (by decide)), if_neg (sw_ne hsw 2 (by decide) (by decide)), if_neg (sw_ne hsw 3 (by decide) (by decide)), if_neg (sw_ne hsw 4 (by decide) (by decide)), if_neg (sw_ne hsw 5 (by decide) (by decide))])), rfl⟩⟩
theorem c_readX {Z : List (Option Nat)} {ext : List Ds} {M : Mm} (k l f n : Int32) (hx : (ix k 4 && ix l 3 && rg n 0 20) = false) : Ct mX9_read [.ref 0, .int k, .int l, .int f, .int n] (SS Z ext) M (Rt (some (.int (-1))) M) := by
  refine Ct.of (by decide) (Nat.le_of_ble_eq_true rfl) ?_
  refine x_iload_n dX9_read_0 rfl ?_
  refine x_csd mf_X9_isSheet ml_X9_277 dX9_read_1 rfl ⟨by decide, by decide⟩ (Nat.le_of_ble_eq_true rfl) ⟨rfl, rfl⟩ ⟨Nat.le_of_ble_eq_true rfl, Nat.le_of_ble_eq_true rfl⟩ (c_isSheet k) ?_
  refine x_ifb_eq 26 dX9_read_4 (by decide) (fun h4 => ?_) (fun h4 => ?_)
  · refine x_iconst (v := -1) dX9_read_26 (by decide) ?_
    exact x_iret dX9_read_27 rfl rfl (Nat.le_refl _) (Nat.le_refl _) ⟨rfl, ⟨rfl, rfl⟩⟩
  · refine x_iload_n dX9_read_7 rfl ?_
    refine x_csd mf_X9_isLane ml_X9_280 dX9_read_8 rfl ⟨by decide, by decide⟩ (Nat.le_of_ble_eq_true rfl) ⟨rfl, rfl⟩ ⟨Nat.le_of_ble_eq_true rfl, Nat.le_of_ble_eq_true rfl⟩ (c_isLane l) ?_
    refine x_ifb_eq 26 dX9_read_11 (by decide) (fun h11 => ?_) (fun h11 => ?_)
    · refine x_iconst (v := -1) dX9_read_26 (by decide) ?_
      exact x_iret dX9_read_27 rfl rfl (Nat.le_refl _) (Nat.le_refl _) ⟨rfl, ⟨rfl, rfl⟩⟩
    · refine x_iload dX9_read_14 rfl ?_
      refine x_if_lt 26 dX9_read_16 (by decide) (fun h16 => ?_) (fun h16 => ?_)
      · refine x_iconst (v := -1) dX9_read_26 (by decide) ?_
        exact x_iret dX9_read_27 rfl rfl (Nat.le_refl _) (Nat.le_refl _) ⟨rfl, ⟨rfl, rfl⟩⟩
      · refine x_iload dX9_read_19 rfl ?_
        refine x_bipush (v := 20) dX9_read_21 (by decide) ?_
        refine x_icmp_le 28 dX9_read_23 (by decide) (fun h23 => ?_) (fun h23 => ?_)
        · rw [h4, h11, rg_t2 h16 h23] at hx; cases hx
        · refine x_iconst (v := -1) dX9_read_26 (by decide) ?_
          exact x_iret dX9_read_27 rfl rfl (Nat.le_refl _) (Nat.le_refl _) ⟨rfl, ⟨rfl, rfl⟩⟩
def rdC (M : Mm) (x : Int32 × Option Int32 × Int32) : Mm := match x.2.1 with
  | none => up2 M 10 0 x.2.2
  | some t => up2 (up2 M 10 0 x.2.2) 0 12 t
abbrev rcQ (Z : List (Option Nat)) (ext : List Ds) (M : Mm) (x : Int32 × Option Int32 × Int32) : Fn := Fc mX9_read (fun r' S' M' => S' = SS Z ext ∧ Rt (some (.int x.1)) (rdC M x) r' M')
theorem rc_stop {Z : List (Option Nat)} {ext : List Ds} {M : Mm} {n i t : Nat} {k l f L L0 g : Int32} {l5 : Option Value} (hn : n ≤ 20) (hi : i ≤ 20) (hg : ¬ g = 0) : XW mX9_read (rcQ Z ext M (nI t, some g, L)) 0 0 (SS Z ext) (up2 M 10 0 L) 145 [some (.ref 0), some (.int k), some (.int l), some (.int f), some (.int (nI n)), l5, some (.int L0), some (.int (nI t)), some (.int g), some (.int (nI i))] [] := by
  by_cases h : n ≤ i + 1
  · refine x_iinc1 dX9_read_145 rfl (by decide) ?_
    refine x_goto 54 dX9_read_148 (by decide) ?_
    rw [← nI_succ i]
    refine x_iload dX9_read_54 rfl ?_
    refine x_iload dX9_read_56 rfl ?_
    refine x_icmp_ge 151 dX9_read_58 (by decide) (fun _ => ?_) (fun hc_ => absurd (nI_le h (by omega)) hc_)
    refine x_aload_n dX9_read_151 rfl ?_
    refine x_iload dX9_read_152 rfl ?_
    refine x_put fl_X9_297 dX9_read_154 sf_0 rfl rfl rfl ?_
    refine x_iload dX9_read_157 rfl ?_
    exact x_iret dX9_read_159 rfl rfl (Nat.le_refl _) (Nat.le_refl _) ⟨rfl, ⟨rfl, rfl⟩⟩
  · refine x_iinc1 dX9_read_145 rfl (by decide) ?_
    refine x_goto 54 dX9_read_148 (by decide) ?_
    rw [← nI_succ i]
    refine x_iload dX9_read_54 rfl ?_
    refine x_iload dX9_read_56 rfl ?_
    refine x_icmp_ge 151 dX9_read_58 (by decide) (fun hc_ => absurd hc_ (nI_ge (by omega) (by omega))) (fun _ => ?_)
    refine x_iload dX9_read_61 rfl ?_
    refine x_if_ne 151 dX9_read_63 (by decide) (fun _ => ?_) (fun hc_ => absurd hc_ (hg))
    refine x_aload_n dX9_read_151 rfl ?_
    refine x_iload dX9_read_152 rfl ?_
    refine x_put fl_X9_297 dX9_read_154 sf_0 rfl rfl rfl ?_
    refine x_iload dX9_read_157 rfl ?_
    exact x_iret dX9_read_159 rfl rfl (Nat.le_refl _) (Nat.le_refl _) ⟨rfl, ⟨rfl, rfl⟩⟩
theorem rcN_at {Z : List (Option Nat)} {ext : List Ds} {M : Mm} {n mt z : Nat} {k l f L0 : Int32} {ce : Nat → Int32} (hn : n ≤ 20) (L : Int32) : XW mX9_read (rcQ Z ext M (rdF (fltR (-4) l f z) ce mt L0 n 0 0 L)) 0 0 (SS Z ext) (up2 M 10 0 L) 54 [some (.ref 0), some (.int k), some (.int l), some (.int f), some (.int (nI n)), some .null, some (.int L0), some (.int (nI 0)), some (.int 0), some (.int (nI 0))] [] := by
  cases n with
  | zero =>
    refine x_iload dX9_read_54 rfl ?_
    refine x_iload dX9_read_56 rfl ?_
    refine x_icmp_ge 151 dX9_read_58 (by decide) (fun _ => ?_) (fun hc_ => absurd (nI_le (Nat.le_refl _) (by omega)) hc_)
    refine x_aload_n dX9_read_151 rfl ?_
    refine x_iload dX9_read_152 rfl ?_
    refine x_put fl_X9_297 dX9_read_154 sf_0 rfl rfl rfl ?_
    refine x_iload dX9_read_157 rfl ?_
    exact x_iret dX9_read_159 rfl rfl (Nat.le_refl _) (Nat.le_refl _) ⟨rfl, ⟨rfl, rfl⟩⟩
  | succ r =>
    rw [rdF_s, show fltR (-4) l f z 0 = 1 from rfl, if_neg (by decide)]
    refine x_iload dX9_read_54 rfl ?_
    refine x_iload dX9_read_56 rfl ?_
    refine x_icmp_ge 151 dX9_read_58 (by decide) (fun hc_ => absurd hc_ (nI_ge (show 0 < r + 1 by omega) (by omega))) (fun _ => ?_)
    refine x_iload dX9_read_61 rfl ?_
    refine x_if_ne 151 dX9_read_63 (by decide) (fun hc_ => absurd (rfl) hc_) (fun _ => ?_)
    refine x_aloadN dX9_read_66 rfl ?_
    refine x_ifnonnullN dX9_read_68 ?_
    refine x_iconst (v := 1) dX9_read_71 (by decide) ?_
    refine x_istore dX9_read_72 (by decide) ?_
    refine x_goto 145 dX9_read_74 (by decide) ?_
    exact rc_stop (i := 0) hn (by omega) (by decide)
theorem ix_sum {f : Int32} {i z : Nat} (hi : i < 100) (hz : z ≤ 40) : ix (f + nI i) z = decide (0 ≤ f.toInt + (i : Int) ∧ f.toInt + (i : Int) < (z : Int)) := by
  by_cases hin : 0 ≤ f.toInt + (i : Int) ∧ f.toInt + (i : Int) < (z : Int)
  · obtain ⟨q, h1, h2⟩ := idx_q hi hz hin
    rw [h2, ix_nI h1 (by omega), decide_eq_true hin]
  · rw [decide_eq_false hin]
    cases hx : ix (f + nI i) z with
    | false => rfl
    | true =>
      exfalso
      obtain ⟨q, h1, h2⟩ := (ix_t (by omega)).mp hx
      have h3 := f.toInt_lt
      have h4 := f.le_toInt
      have hni : (nI i).toInt = (i : Int) := nI_toInt (by omega)
      have h5 : (f + nI i).toInt = (q : Int) := by rw [h2, nI_toInt (by omega)]
      rw [Int32.toInt_add, hni] at h5
      by_cases ho : f.toInt + (i : Int) < 2 ^ 31
      · rw [Int.bmod_eq_of_le (by omega) (by omega)] at h5
        omega
      · have : (f.toInt + (i : Int)).bmod (2 ^ 32) = f.toInt + (i : Int) - 2 ^ 32 := by
          rw [Int.bmod_def]
          have e1 : (f.toInt + (i : Int)) % ((2 ^ 32 : Nat) : Int) = f.toInt + (i : Int) := by
            apply Int.emod_eq_of_lt <;> omega
          rw [e1, if_neg (by omega)]
          omega
        rw [this] at h5
        omega
theorem rc_at {Z : List (Option Nat)} {ext : List Ds} {M : Mm} {n mt c a z : Nat} {k l f L0 : Int32} {fl ce : Nat → Int32} (hfl : fl = fltR (M c 0) l f z) (hce : ce = fun i => M a (f + nI i).toNatClampNeg) (ho_sh : lk (SS Z ext) c = some (.inr (.inr (5, [none, some (some a)])))) (ho_sa : lk (SS Z ext) a = some (.inl (.int, z))) (hz : z ≤ 40) (hla : ¬ M c 0 = -4) (hc : c ≠ 10) (ha : a ≠ 10) (hn : n ≤ 20) (hm : M 1 2 = nI mt) :
    ∀ (r i t : Nat) (L : Int32), i + r = n → t ≤ i → XW mX9_read (rcQ Z ext M (rdF fl ce mt L0 r i t L)) 0 0 (SS Z ext) (up2 M 10 0 L) 54 [some (.ref 0), some (.int k), some (.int l), some (.int f), some (.int (nI n)), some (.ref c), some (.int L0), some (.int (nI t)), some (.int 0), some (.int (nI i))] [] := by
  have hn_sa : z < 2 ^ 31 := by omega
  intro r
  induction r with
  | zero =>
    intro i t L hi ht
    refine x_iload dX9_read_54 rfl ?_
    refine x_iload dX9_read_56 rfl ?_
    refine x_icmp_ge 151 dX9_read_58 (by decide) (fun _ => ?_) (fun hc_ => absurd (nI_le (by omega) (by omega)) hc_)
    refine x_aload_n dX9_read_151 rfl ?_
    refine x_iload dX9_read_152 rfl ?_
    refine x_put fl_X9_297 dX9_read_154 sf_0 rfl rfl rfl ?_
    refine x_iload dX9_read_157 rfl ?_
    exact x_iret dX9_read_159 rfl rfl (Nat.le_refl _) (Nat.le_refl _) ⟨rfl, ⟨rfl, rfl⟩⟩
  | succ r ih =>
    intro i t L hi ht
    have hfi : fl i = fltR (M c 0) l f z i := by rw [hfl]
    rw [fltR, decide_eq_false hla, if_neg (by decide)] at hfi
    have hc0 : up2 M 10 0 L c 0 = M c 0 := by rw [up2_n M L hc]
    have chs := c_hasCell (M := up2 M 10 0 L) ho_sh ho_sa hz (f + nI i)
    rw [ix_sum (by omega) hz] at chs
    rw [rdF_s]
    by_cases hle : M c 0 = l
    · rw [decide_eq_true hle, if_pos rfl] at hfi
      by_cases hin : 0 ≤ f.toInt + (i : Int) ∧ f.toInt + (i : Int) < (z : Int)
      · rw [decide_eq_true hin] at hfi chs
        rw [if_pos rfl] at hfi
        rw [hfi, if_pos (by decide)]
        obtain ⟨q, hq1, hq2⟩ := idx_q (f := f) (i := i) (by omega) hz hin
        have hcq : ce i = M a q := by rw [hce]; show M a (f + nI i).toNatClampNeg = _; rw [hq2, nI_clamp (by omega)]
        have ct := c_takeOne (Z := Z) (ext := ext) (M := up2 M 10 0 L) (mt := mt) (ce i) hm
        rw [up2_up2, show (up2 M 10 0 L) 10 0 = L from rfl] at ct
        have hrd : up2 M 10 0 L a q = ce i := by rw [up2_n M L ha, hcq]
        by_cases hok : (ix (ce i) mt && lies L (ce i)) = true
        · rw [if_pos hok]
          have ih1 := ih (i + 1) (t + 1) (outS L (ce i)) (by omega) (by omega)
          rw [nI_succ i, nI_succ t] at ih1
          rw [wTake, if_pos hok] at ct
          rw [Bool.and_eq_true] at hok
          rw [hok.1, hok.2, if_pos rfl, if_pos rfl] at ct
          refine x_iload dX9_read_54 rfl ?_
          refine x_iload dX9_read_56 rfl ?_
          refine x_icmp_ge 151 dX9_read_58 (by decide) (fun hc_ => absurd hc_ (nI_ge (show i < n by omega) (by omega))) (fun _ => ?_)
          refine x_iload dX9_read_61 rfl ?_
          refine x_if_ne 151 dX9_read_63 (by decide) (fun hc_ => absurd (rfl) hc_) (fun _ => ?_)
          refine x_aload dX9_read_66 rfl ?_
          refine x_ifnonnull 77 dX9_read_68 (by decide) ?_
          refine x_aload dX9_read_77 rfl ?_
          refine x_geti fl_X9_291 dX9_read_79 ho_sh rfl ?_
          refine x_iload_n dX9_read_82 rfl ?_
          refine x_icmp_eq 92 dX9_read_83 (by decide) (fun _ => ?_) (fun hc_ => absurd (hc0.trans hle) hc_)
          refine x_aload dX9_read_92 rfl ?_
          refine x_iload_n dX9_read_94 rfl ?_
          refine x_iload dX9_read_95 rfl ?_
          refine x_iadd dX9_read_97 ?_
          refine x_cvd mf_X5_hasCell ml_X9_285 dX9_read_98 rfl ho_sh rfl ⟨by decide, by decide⟩ (Nat.le_of_ble_eq_true rfl) ⟨rfl, rfl⟩ ⟨Nat.le_of_ble_eq_true rfl, Nat.le_of_ble_eq_true rfl⟩ (chs) ?_
          refine x_ifb_ne 110 dX9_read_101 (by decide) (fun _ => ?_) (fun hc_ => absurd (hc_.symm.trans (rfl)) Bool.false_ne_true)
          refine x_aload_n dX9_read_110 rfl ?_
          refine x_aload dX9_read_111 rfl ?_
          refine x_getr fl_X9_294 dX9_read_113 ho_sh rfl ?_
          refine x_iload_n dX9_read_116 rfl ?_
          refine x_iload dX9_read_117 rfl ?_
          refine x_iadd dX9_read_119 ?_
          refine x_iald dX9_read_120 ho_sa (q := q) hq2 hq1 hn_sa ?_
          rw [hrd]
          refine x_cvd mf_X9_takeOne ml_X9_181 dX9_read_121 rfl sf_0 rfl ⟨by decide, by decide⟩ (Nat.le_of_ble_eq_true rfl) ⟨rfl, rfl⟩ ⟨Nat.le_of_ble_eq_true rfl, Nat.le_of_ble_eq_true rfl⟩ (ct) ?_
          refine x_if_ge 142 dX9_read_124 (by decide) (fun _ => ?_) (fun hc_ => absurd (by decide) hc_)
          refine x_iinc1 dX9_read_142 rfl (by decide) ?_
          refine x_iinc1 dX9_read_145 rfl (by decide) ?_
          refine x_goto 54 dX9_read_148 (by decide) ?_
          exact ih1
        · rw [if_neg hok]
          have hw : wTake mt L (ce i) = L := by rw [wTake, if_neg hok]
          have hv : (if ix (ce i) mt then (if lies L (ce i) then (0 : Int32) else -2) else -1) < 0 := by
            cases h1 : ix (ce i) mt with
            | false => exact (by decide : (-1 : Int32) < 0)
            | true =>
              cases h2 : lies L (ce i) with
              | false => exact (by decide : (-2 : Int32) < 0)
              | true => rw [h1, h2] at hok; exact absurd rfl hok
          rw [hw] at ct
          refine x_iload dX9_read_54 rfl ?_
          refine x_iload dX9_read_56 rfl ?_
          refine x_icmp_ge 151 dX9_read_58 (by decide) (fun hc_ => absurd hc_ (nI_ge (show i < n by omega) (by omega))) (fun _ => ?_)
          refine x_iload dX9_read_61 rfl ?_
          refine x_if_ne 151 dX9_read_63 (by decide) (fun hc_ => absurd (rfl) hc_) (fun _ => ?_)
          refine x_aload dX9_read_66 rfl ?_
          refine x_ifnonnull 77 dX9_read_68 (by decide) ?_
          refine x_aload dX9_read_77 rfl ?_
          refine x_geti fl_X9_291 dX9_read_79 ho_sh rfl ?_
          refine x_iload_n dX9_read_82 rfl ?_
          refine x_icmp_eq 92 dX9_read_83 (by decide) (fun _ => ?_) (fun hc_ => absurd (hc0.trans hle) hc_)
          refine x_aload dX9_read_92 rfl ?_
          refine x_iload_n dX9_read_94 rfl ?_
          refine x_iload dX9_read_95 rfl ?_
          refine x_iadd dX9_read_97 ?_
          refine x_cvd mf_X5_hasCell ml_X9_285 dX9_read_98 rfl ho_sh rfl ⟨by decide, by decide⟩ (Nat.le_of_ble_eq_true rfl) ⟨rfl, rfl⟩ ⟨Nat.le_of_ble_eq_true rfl, Nat.le_of_ble_eq_true rfl⟩ (chs) ?_
          refine x_ifb_ne 110 dX9_read_101 (by decide) (fun _ => ?_) (fun hc_ => absurd (hc_.symm.trans (rfl)) Bool.false_ne_true)
          refine x_aload_n dX9_read_110 rfl ?_
          refine x_aload dX9_read_111 rfl ?_
          refine x_getr fl_X9_294 dX9_read_113 ho_sh rfl ?_
          refine x_iload_n dX9_read_116 rfl ?_
          refine x_iload dX9_read_117 rfl ?_
          refine x_iadd dX9_read_119 ?_
          refine x_iald dX9_read_120 ho_sa (q := q) hq2 hq1 hn_sa ?_
          rw [hrd]
          refine x_cvd mf_X9_takeOne ml_X9_181 dX9_read_121 rfl sf_0 rfl ⟨by decide, by decide⟩ (Nat.le_of_ble_eq_true rfl) ⟨rfl, rfl⟩ ⟨Nat.le_of_ble_eq_true rfl, Nat.le_of_ble_eq_true rfl⟩ (ct) ?_
          refine x_if_ge 142 dX9_read_124 (by decide) (fun hc_ => absurd hc_ (fun q => absurd hv (by rw [fa_lt]; rw [fa_le] at q; omega))) (fun _ => ?_)
          refine x_aload_n dX9_read_127 rfl ?_
          refine x_getr fl_X9_19 dX9_read_128 sf_0 rfl ?_
          refine x_iload dX9_read_131 rfl ?_
          refine x_put fl_X9_137 dX9_read_133 sf_10 rfl rfl rfl ?_
          refine x_bipush (v := -20) dX9_read_136 (by decide) ?_
          refine x_iload dX9_read_138 rfl ?_
          refine x_isub dX9_read_140 ?_
          exact x_iret dX9_read_141 rfl rfl (Nat.le_refl _) (Nat.le_refl _) ⟨rfl, ⟨rfl, by rw [up2_up2]; rfl⟩⟩
      · rw [decide_eq_false hin] at hfi chs
        rw [if_neg (by decide)] at hfi
        rw [hfi, if_neg (by decide)]
        refine x_iload dX9_read_54 rfl ?_
        refine x_iload dX9_read_56 rfl ?_
        refine x_icmp_ge 151 dX9_read_58 (by decide) (fun hc_ => absurd hc_ (nI_ge (show i < n by omega) (by omega))) (fun _ => ?_)
        refine x_iload dX9_read_61 rfl ?_
        refine x_if_ne 151 dX9_read_63 (by decide) (fun hc_ => absurd (rfl) hc_) (fun _ => ?_)
        refine x_aload dX9_read_66 rfl ?_
        refine x_ifnonnull 77 dX9_read_68 (by decide) ?_
        refine x_aload dX9_read_77 rfl ?_
        refine x_geti fl_X9_291 dX9_read_79 ho_sh rfl ?_
        refine x_iload_n dX9_read_82 rfl ?_
        refine x_icmp_eq 92 dX9_read_83 (by decide) (fun _ => ?_) (fun hc_ => absurd (hc0.trans hle) hc_)
        refine x_aload dX9_read_92 rfl ?_
        refine x_iload_n dX9_read_94 rfl ?_
        refine x_iload dX9_read_95 rfl ?_
        refine x_iadd dX9_read_97 ?_
        refine x_cvd mf_X5_hasCell ml_X9_285 dX9_read_98 rfl ho_sh rfl ⟨by decide, by decide⟩ (Nat.le_of_ble_eq_true rfl) ⟨rfl, rfl⟩ ⟨Nat.le_of_ble_eq_true rfl, Nat.le_of_ble_eq_true rfl⟩ (chs) ?_
        refine x_ifb_ne 110 dX9_read_101 (by decide) (fun hc_ => absurd ((rfl).symm.trans hc_) Bool.false_ne_true) (fun _ => ?_)
        refine x_iconst (v := 2) dX9_read_104 (by decide) ?_
        refine x_istore dX9_read_105 (by decide) ?_
        refine x_goto 145 dX9_read_107 (by decide) ?_
        exact rc_stop hn (by omega) (by decide)
    · rw [decide_eq_false hle, if_neg (by decide)] at hfi
      rw [hfi, if_neg (by decide)]
      refine x_iload dX9_read_54 rfl ?_
      refine x_iload dX9_read_56 rfl ?_
      refine x_icmp_ge 151 dX9_read_58 (by decide) (fun hc_ => absurd hc_ (nI_ge (show i < n by omega) (by omega))) (fun _ => ?_)
      refine x_iload dX9_read_61 rfl ?_
      refine x_if_ne 151 dX9_read_63 (by decide) (fun hc_ => absurd (rfl) hc_) (fun _ => ?_)
      refine x_aload dX9_read_66 rfl ?_
      refine x_ifnonnull 77 dX9_read_68 (by decide) ?_
      refine x_aload dX9_read_77 rfl ?_
      refine x_geti fl_X9_291 dX9_read_79 ho_sh rfl ?_
      refine x_iload_n dX9_read_82 rfl ?_
      refine x_icmp_eq 92 dX9_read_83 (by decide) (fun hc_ => absurd hc_ (fun q => hle (hc0.symm.trans q))) (fun _ => ?_)
      refine x_iconst (v := 3) dX9_read_86 (by decide) ?_
      refine x_istore dX9_read_87 (by decide) ?_
      refine x_goto 145 dX9_read_89 (by decide) ?_
      exact rc_stop hn (by omega) (by decide)
theorem c_readN {Z : List (Option Nat)} {ext : List Ds} {M : Mm} {mt z : Nat} (k n : Nat) (l f : Int32) (ce : Nat → Int32) (hk : k < 4) (hl : ix l 3 = true) (hn : n ≤ 20) (hz4 : Z.length = 4) (hZ : lk Z k = some none) :
    Ct mX9_read [.ref 0, .int (nI k), .int l, .int f, .int (nI n)] (SS Z ext) M (Rt (some (.int (rdF (fltR (-4) l f z) ce mt (M 10 0) n 0 0 (M 10 0)).1)) (rdC M (rdF (fltR (-4) l f z) ce mt (M 10 0) n 0 0 (M 10 0)))) := by
  have fin := rcN_at (Z := Z) (ext := ext) (M := M) (n := n) (mt := mt) (z := z) (k := nI k) (l := l) (f := f) (L0 := M 10 0) (ce := ce) hn (M 10 0)
  rw [up2_self (M := M) (c := 10) (k := 0) rfl] at fin
  refine Ct.of (by decide) (Nat.le_of_ble_eq_true rfl) ?_
  refine x_iload_n dX9_read_0 rfl ?_
  refine x_csd mf_X9_isSheet ml_X9_277 dX9_read_1 rfl ⟨by decide, by decide⟩ (Nat.le_of_ble_eq_true rfl) ⟨rfl, rfl⟩ ⟨Nat.le_of_ble_eq_true rfl, Nat.le_of_ble_eq_true rfl⟩ (c_isSheet (nI k)) ?_
  refine x_ifb_eq 26 dX9_read_4 (by decide) (fun hc_ => absurd (hc_.symm.trans (ix_nI hk (by decide))) Bool.false_ne_true) (fun _ => ?_)
  refine x_iload_n dX9_read_7 rfl ?_
  refine x_csd mf_X9_isLane ml_X9_280 dX9_read_8 rfl ⟨by decide, by decide⟩ (Nat.le_of_ble_eq_true rfl) ⟨rfl, rfl⟩ ⟨Nat.le_of_ble_eq_true rfl, Nat.le_of_ble_eq_true rfl⟩ (c_isLane l) ?_
  refine x_ifb_eq 26 dX9_read_11 (by decide) (fun hc_ => absurd (hc_.symm.trans (hl)) Bool.false_ne_true) (fun _ => ?_)
  refine x_iload dX9_read_14 rfl ?_
  refine x_if_lt 26 dX9_read_16 (by decide) (fun hc_ => absurd hc_ (nI_pos (by omega))) (fun _ => ?_)
  refine x_iload dX9_read_19 rfl ?_
  refine x_bipush (v := 20) dX9_read_21 (by decide) ?_
  refine x_icmp_le 28 dX9_read_23 (by decide) (fun _ => ?_) (fun hc_ => absurd (nI_le (b := 20) hn (by decide)) hc_)
  refine x_aload_n dX9_read_28 rfl ?_
  refine x_getr fl_X9_73 dX9_read_29 sf_0 rfl ?_
  refine x_iload_n dX9_read_32 rfl ?_
  refine x_aaldN dX9_read_33 sf_38 rfl hZ (by omega) (Or.inr rfl) ?_
  refine x_astoreN dX9_read_34 (by decide) ?_
  refine x_aload_n dX9_read_36 rfl ?_
  refine x_getr fl_X9_19 dX9_read_37 sf_0 rfl ?_
  refine x_geti fl_X9_137 dX9_read_40 sf_10 rfl ?_
  refine x_istore dX9_read_43 (by decide) ?_
  refine x_iconst (v := 0) dX9_read_45 (by decide) ?_
  refine x_istore dX9_read_46 (by decide) ?_
  refine x_iconst (v := 0) dX9_read_48 (by decide) ?_
  refine x_istore dX9_read_49 (by decide) ?_
  refine x_iconst (v := 0) dX9_read_51 (by decide) ?_
  refine x_istore dX9_read_52 (by decide) ?_
  exact fin
theorem c_read {Z : List (Option Nat)} {ext : List Ds} {M : Mm} {mt c a z : Nat} (k n : Nat) (l f : Int32) (hk : k < 4) (hl : ix l 3 = true) (hn : n ≤ 20) (hz4 : Z.length = 4) (hZ : ShS Z ext k c a z) (hla : ¬ M c 0 = -4) (hc : c ≠ 10) (ha : a ≠ 10) (hm : M 1 2 = nI mt) :
    Ct mX9_read [.ref 0, .int (nI k), .int l, .int f, .int (nI n)] (SS Z ext) M (Rt (some (.int (rdF (fltR (M c 0) l f z) (fun i => M a (f + nI i).toNatClampNeg) mt (M 10 0) n 0 0 (M 10 0)).1)) (rdC M (rdF (fltR (M c 0) l f z) (fun i => M a (f + nI i).toNatClampNeg) mt (M 10 0) n 0 0 (M 10 0)))) := by
  obtain ⟨hZ1, ho_sh, ho_sa, hz⟩ := hZ
  have fin := rc_at (Z := Z) (ext := ext) (M := M) (n := n) (mt := mt) (c := c) (a := a) (z := z) (k := nI k) (l := l) (f := f) (L0 := M 10 0) rfl rfl ho_sh ho_sa hz hla hc ha hn hm n 0 0 (M 10 0) (by omega) (by omega)
  rw [up2_self (M := M) (c := 10) (k := 0) rfl] at fin
  refine Ct.of (by decide) (Nat.le_of_ble_eq_true rfl) ?_
  refine x_iload_n dX9_read_0 rfl ?_
  refine x_csd mf_X9_isSheet ml_X9_277 dX9_read_1 rfl ⟨by decide, by decide⟩ (Nat.le_of_ble_eq_true rfl) ⟨rfl, rfl⟩ ⟨Nat.le_of_ble_eq_true rfl, Nat.le_of_ble_eq_true rfl⟩ (c_isSheet (nI k)) ?_
  refine x_ifb_eq 26 dX9_read_4 (by decide) (fun hc_ => absurd (hc_.symm.trans (ix_nI hk (by decide))) Bool.false_ne_true) (fun _ => ?_)
  refine x_iload_n dX9_read_7 rfl ?_
  refine x_csd mf_X9_isLane ml_X9_280 dX9_read_8 rfl ⟨by decide, by decide⟩ (Nat.le_of_ble_eq_true rfl) ⟨rfl, rfl⟩ ⟨Nat.le_of_ble_eq_true rfl, Nat.le_of_ble_eq_true rfl⟩ (c_isLane l) ?_
  refine x_ifb_eq 26 dX9_read_11 (by decide) (fun hc_ => absurd (hc_.symm.trans (hl)) Bool.false_ne_true) (fun _ => ?_)
  refine x_iload dX9_read_14 rfl ?_
  refine x_if_lt 26 dX9_read_16 (by decide) (fun hc_ => absurd hc_ (nI_pos (by omega))) (fun _ => ?_)
  refine x_iload dX9_read_19 rfl ?_
  refine x_bipush (v := 20) dX9_read_21 (by decide) ?_
  refine x_icmp_le 28 dX9_read_23 (by decide) (fun _ => ?_) (fun hc_ => absurd (nI_le (b := 20) hn (by decide)) hc_)
  refine x_aload_n dX9_read_28 rfl ?_
  refine x_getr fl_X9_73 dX9_read_29 sf_0 rfl ?_
  refine x_iload_n dX9_read_32 rfl ?_
  refine x_aald dX9_read_33 sf_38 rfl hZ1 (by omega) (Or.inr rfl) ?_
  refine x_astore dX9_read_34 (by decide) ?_
  refine x_aload_n dX9_read_36 rfl ?_
  refine x_getr fl_X9_19 dX9_read_37 sf_0 rfl ?_
  refine x_geti fl_X9_137 dX9_read_40 sf_10 rfl ?_
  refine x_istore dX9_read_43 (by decide) ?_
  refine x_iconst (v := 0) dX9_read_45 (by decide) ?_
  refine x_istore dX9_read_46 (by decide) ?_
  refine x_iconst (v := 0) dX9_read_48 (by decide) ?_
  refine x_istore dX9_read_49 (by decide) ?_
  refine x_iconst (v := 0) dX9_read_51 (by decide) ?_
  refine x_istore dX9_read_52 (by decide) ?_
  exact fin
