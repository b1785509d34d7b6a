/-! ===== the class: taking, laying, boxes ===== -/
theorem c_takingX {Z : List (Option Nat)} {ext : List Ds} {M : Mm} (x : Int32) (hx : rg x 0 1 = false) : Ct mX9_taking [.ref 0, .int x] (SS Z ext) M (Rt (some (.int (-1))) M) := by
  refine Ct.of (by decide) (Nat.le_of_ble_eq_true rfl) ?_
  refine x_iload_n dX9_taking_0 rfl ?_
  refine x_if_lt 9 dX9_taking_1 (by decide) (fun h1 => ?_) (fun h1 => ?_)
  · refine x_iconst (v := -1) dX9_taking_9 (by decide) ?_
    exact x_iret dX9_taking_10 rfl rfl (Nat.le_refl _) (Nat.le_refl _) ⟨rfl, ⟨rfl, rfl⟩⟩
  · refine x_iload_n dX9_taking_4 rfl ?_
    refine x_iconst (v := 1) dX9_taking_5 (by decide) ?_
    refine x_icmp_le 11 dX9_taking_6 (by decide) (fun h6 => ?_) (fun h6 => ?_)
    · rw [rg_t2 h1 h6] at hx; exact absurd hx (by decide)
    · refine x_iconst (v := -1) dX9_taking_9 (by decide) ?_
      exact x_iret dX9_taking_10 rfl rfl (Nat.le_refl _) (Nat.le_refl _) ⟨rfl, ⟨rfl, rfl⟩⟩
theorem c_layingX {Z : List (Option Nat)} {ext : List Ds} {M : Mm} (x : Int32) (hx : rg x 0 1 = false) : Ct mX9_laying [.ref 0, .int x] (SS Z ext) M (Rt (some (.int (-1))) M) := by
  refine Ct.of (by decide) (Nat.le_of_ble_eq_true rfl) ?_
  refine x_iload_n dX9_laying_0 rfl ?_
  refine x_if_lt 9 dX9_laying_1 (by decide) (fun h1 => ?_) (fun h1 => ?_)
  · refine x_iconst (v := -1) dX9_laying_9 (by decide) ?_
    exact x_iret dX9_laying_10 rfl rfl (Nat.le_refl _) (Nat.le_refl _) ⟨rfl, ⟨rfl, rfl⟩⟩
  · refine x_iload_n dX9_laying_4 rfl ?_
    refine x_iconst (v := 1) dX9_laying_5 (by decide) ?_
    refine x_icmp_le 11 dX9_laying_6 (by decide) (fun h6 => ?_) (fun h6 => ?_)
    · rw [rg_t2 h1 h6] at hx; exact absurd hx (by decide)
    · refine x_iconst (v := -1) dX9_laying_9 (by decide) ?_
      exact x_iret dX9_laying_10 rfl rfl (Nat.le_refl _) (Nat.le_refl _) ⟨rfl, ⟨rfl, rfl⟩⟩
theorem c_boxesX {Z : List (Option Nat)} {ext : List Ds} {M : Mm} (x : Int32) (hx : rg x 0 1 = false) : Ct mX9_boxes [.ref 0, .int x] (SS Z ext) M (Rt (some (.int (-1))) M) := by
  refine Ct.of (by decide) (Nat.le_of_ble_eq_true rfl) ?_
  refine x_iload_n dX9_boxes_0 rfl ?_
  refine x_if_lt 9 dX9_boxes_1 (by decide) (fun h1 => ?_) (fun h1 => ?_)
  · refine x_iconst (v := -1) dX9_boxes_9 (by decide) ?_
    exact x_iret dX9_boxes_10 rfl rfl (Nat.le_refl _) (Nat.le_refl _) ⟨rfl, ⟨rfl, rfl⟩⟩
  · refine x_iload_n dX9_boxes_4 rfl ?_
    refine x_iconst (v := 1) dX9_boxes_5 (by decide) ?_
    refine x_icmp_le 11 dX9_boxes_6 (by decide) (fun h6 => ?_) (fun h6 => ?_)
    · rw [rg_t2 h1 h6] at hx; exact absurd hx (by decide)
    · refine x_iconst (v := -1) dX9_boxes_9 (by decide) ?_
      exact x_iret dX9_boxes_10 rfl rfl (Nat.le_refl _) (Nat.le_refl _) ⟨rfl, ⟨rfl, rfl⟩⟩
theorem c_takingS {Z : List (Option Nat)} {ext : List Ds} {M : Mm} {sq : Nat} (x : Int32) (hx : rg x 0 1 = true) (hq : M 1 3 = nI sq) (hb : sq ≤ 20) (hS : lsq (M 10 1) (M 6) (M 5) sq (M 10 0) = 0 ∨ ¬ bcE (M 10 0) ≤ 12) : Ct mX9_taking [.ref 0, .int x] (SS Z ext) M (Rt (some (.int (-2))) M) := by
  have hx2 := rg_t.mp hx
  refine Ct.of (by decide) (Nat.le_of_ble_eq_true rfl) ?_
  by_cases h0 : lsq (M 10 1) (M 6) (M 5) sq (M 10 0) = 0
  · refine x_iload_n dX9_taking_0 rfl ?_
    refine x_if_lt 9 dX9_taking_1 (by decide) (fun hc_ => absurd hc_ (fun q => absurd hx2.1 (by rw [fa_le]; rw [fa_lt] at q; omega))) (fun _ => ?_)
    refine x_iload_n dX9_taking_4 rfl ?_
    refine x_iconst (v := 1) dX9_taking_5 (by decide) ?_
    refine x_icmp_le 11 dX9_taking_6 (by decide) (fun _ => ?_) (fun hc_ => absurd (hx2.2) hc_)
    refine x_aload_n dX9_taking_11 rfl ?_
    refine x_aload_n dX9_taking_12 rfl ?_
    refine x_getr fl_X9_19 dX9_taking_13 sf_0 rfl ?_
    refine x_geti fl_X9_137 dX9_taking_16 sf_10 rfl ?_
    refine x_cvd mf_X9_leftSquares ml_X9_187 dX9_taking_19 rfl sf_0 rfl ⟨by decide, by decide⟩ (Nat.le_of_ble_eq_true rfl) ⟨rfl, rfl⟩ ⟨Nat.le_of_ble_eq_true rfl, Nat.le_of_ble_eq_true rfl⟩ (c_leftSquares (sq := sq) _ hq hb) ?_
    refine x_istore_n dX9_taking_22 (by decide) ?_
    refine x_iload_n dX9_taking_23 rfl ?_
    refine x_if_eq 42 dX9_taking_24 (by decide) (fun _ => ?_) (fun hc_ => absurd (h0) hc_)
    refine x_bipush (v := -2) dX9_taking_42 (by decide) ?_
    exact x_iret dX9_taking_44 rfl rfl (Nat.le_refl _) (Nat.le_refl _) ⟨rfl, ⟨rfl, rfl⟩⟩
  · have h2 := hS.resolve_left h0
    refine x_iload_n dX9_taking_0 rfl ?_
    refine x_if_lt 9 dX9_taking_1 (by decide) (fun hc_ => absurd hc_ (fun q => absurd hx2.1 (by rw [fa_le]; rw [fa_lt] at q; omega))) (fun _ => ?_)
    refine x_iload_n dX9_taking_4 rfl ?_
    refine x_iconst (v := 1) dX9_taking_5 (by decide) ?_
    refine x_icmp_le 11 dX9_taking_6 (by decide) (fun _ => ?_) (fun hc_ => absurd (hx2.2) hc_)
    refine x_aload_n dX9_taking_11 rfl ?_
    refine x_aload_n dX9_taking_12 rfl ?_
    refine x_getr fl_X9_19 dX9_taking_13 sf_0 rfl ?_
    refine x_geti fl_X9_137 dX9_taking_16 sf_10 rfl ?_
    refine x_cvd mf_X9_leftSquares ml_X9_187 dX9_taking_19 rfl sf_0 rfl ⟨by decide, by decide⟩ (Nat.le_of_ble_eq_true rfl) ⟨rfl, rfl⟩ ⟨Nat.le_of_ble_eq_true rfl, Nat.le_of_ble_eq_true rfl⟩ (c_leftSquares (sq := sq) _ hq hb) ?_
    refine x_istore_n dX9_taking_22 (by decide) ?_
    refine x_iload_n dX9_taking_23 rfl ?_
    refine x_if_eq 42 dX9_taking_24 (by decide) (fun hc_ => absurd hc_ (h0)) (fun _ => ?_)
    refine x_aload_n dX9_taking_27 rfl ?_
    refine x_getr fl_X9_19 dX9_taking_28 sf_0 rfl ?_
    refine x_geti fl_X9_137 dX9_taking_31 sf_10 rfl ?_
    refine x_csd mf_J6_bitCount_0f7a4 ml_X9_173 dX9_taking_34 rfl ⟨by decide, by decide⟩ (Nat.le_of_ble_eq_true rfl) ⟨rfl, rfl⟩ ⟨Nat.le_of_ble_eq_true rfl, Nat.le_of_ble_eq_true rfl⟩ (c_bitCount _) ?_
    refine x_bipush (v := 12) dX9_taking_37 (by decide) ?_
    refine x_icmp_le 45 dX9_taking_39 (by decide) (fun hc_ => absurd hc_ (h2)) (fun _ => ?_)
    refine x_bipush (v := -2) dX9_taking_42 (by decide) ?_
    exact x_iret dX9_taking_44 rfl rfl (Nat.le_refl _) (Nat.le_refl _) ⟨rfl, ⟨rfl, rfl⟩⟩
def vTakC (b x : Int32) : Int32 := if decide (x = 0) then (if decide (b = -4) then 2 else 1) else b
theorem c_taking {Z : List (Option Nat)} {ext : List Ds} {M : Mm} {sq mt : Nat} {sqs : Int32} {W : Nat → Bool} (x : Int32) (hx : rg x 0 1 = true) (hm : M 1 2 = nI mt) (hmb : mt ≤ 31) (hq : M 1 3 = nI sq) (hb : sq ≤ 20) (hsq : lsq (M 10 1) (M 6) (M 5) sq (M 10 0) = sqs) (h0 : ¬ sqs = 0) (hbc : bcE (M 10 0) ≤ 12) (hp : fsC (M 10 0) mt ≤ 12) (hW : okC (suM M (M 10 0) sqs sq mt 35) (ndL sqs (fun q => rnm (fsR (M 10 0) (M 34) mt) (M 5 q) (fsC (M 10 0) mt)) sq).length (fsC (M 10 0) mt) W) :
    Ct mX9_taking [.ref 0, .int x] (SS Z ext) M (fun r M' => r = some (.int (vTakC (pTk W (fsR (M 10 0) (M 34) mt) (fsC (M 10 0) mt)) x)) ∧ Eqm M M') := by
  have hx2 := rg_t.mp hx
  have cl := c_leftSquares (Z := Z) (ext := ext) (M := M) (sq := sq) (M 10 0) hq hb
  rw [hsq] at cl
  have cp := c_playTaking (Z := Z) (ext := ext) (M := M) (W := W) sqs (M 10 0) hm hmb hq hb hp hW
  generalize pTk W (fsR (M 10 0) (M 34) mt) (fsC (M 10 0) mt) = v at cp ⊢
  refine Ct.of (by decide) (Nat.le_of_ble_eq_true rfl) ?_
  refine x_iload_n dX9_taking_0 rfl ?_
  refine x_if_lt 9 dX9_taking_1 (by decide) (fun hc_ => absurd hc_ (fun q => absurd hx2.1 (by rw [fa_le]; rw [fa_lt] at q; omega))) (fun _ => ?_)
  refine x_iload_n dX9_taking_4 rfl ?_
  refine x_iconst (v := 1) dX9_taking_5 (by decide) ?_
  refine x_icmp_le 11 dX9_taking_6 (by decide) (fun _ => ?_) (fun hc_ => absurd (hx2.2) hc_)
  refine x_aload_n dX9_taking_11 rfl ?_
  refine x_aload_n dX9_taking_12 rfl ?_
  refine x_getr fl_X9_19 dX9_taking_13 sf_0 rfl ?_
  refine x_geti fl_X9_137 dX9_taking_16 sf_10 rfl ?_
  refine x_cvd mf_X9_leftSquares ml_X9_187 dX9_taking_19 rfl sf_0 rfl ⟨by decide, by decide⟩ (Nat.le_of_ble_eq_true rfl) ⟨rfl, rfl⟩ ⟨Nat.le_of_ble_eq_true rfl, Nat.le_of_ble_eq_true rfl⟩ (cl) ?_
  refine x_istore_n dX9_taking_22 (by decide) ?_
  refine x_iload_n dX9_taking_23 rfl ?_
  refine x_if_eq 42 dX9_taking_24 (by decide) (fun hc_ => absurd hc_ (h0)) (fun _ => ?_)
  refine x_aload_n dX9_taking_27 rfl ?_
  refine x_getr fl_X9_19 dX9_taking_28 sf_0 rfl ?_
  refine x_geti fl_X9_137 dX9_taking_31 sf_10 rfl ?_
  refine x_csd mf_J6_bitCount_0f7a4 ml_X9_173 dX9_taking_34 rfl ⟨by decide, by decide⟩ (Nat.le_of_ble_eq_true rfl) ⟨rfl, rfl⟩ ⟨Nat.le_of_ble_eq_true rfl, Nat.le_of_ble_eq_true rfl⟩ (c_bitCount _) ?_
  refine x_bipush (v := 12) dX9_taking_37 (by decide) ?_
  refine x_icmp_le 45 dX9_taking_39 (by decide) (fun _ => ?_) (fun hc_ => absurd (hbc) hc_)
  refine x_aload_n dX9_taking_45 rfl ?_
  refine x_getr fl_X9_63 dX9_taking_46 sf_0 rfl ?_
  refine x_aload_n dX9_taking_49 rfl ?_
  refine x_getr fl_X9_10 dX9_taking_50 sf_0 rfl ?_
  refine x_iload_n dX9_taking_53 rfl ?_
  refine x_aload_n dX9_taking_54 rfl ?_
  refine x_getr fl_X9_19 dX9_taking_55 sf_0 rfl ?_
  refine x_geti fl_X9_137 dX9_taking_58 sf_10 rfl ?_
  refine x_cv mf_X1_playTaking ml_X9_238 dX9_taking_61 rfl sf_33 rfl ⟨by decide, by decide⟩ (Nat.le_of_ble_eq_true rfl) ⟨rfl, rfl⟩ ⟨Nat.le_of_ble_eq_true rfl, Nat.le_of_ble_eq_true rfl⟩ (cp) (fun r M' ⟨e1, e2, e3⟩ => ?_)
  subst e1
  refine x_iload_n dX9_taking_64 rfl ?_
  refine x_if_ne 86 dX9_taking_65 (by decide) (fun h65 => ?_) (fun h65 => ?_)
  · refine x_aload_n dX9_taking_86 rfl ?_
    refine x_getr fl_X9_63 dX9_taking_87 sf_0 rfl ?_
    refine x_geti fl_X9_242 dX9_taking_90 sf_33 rfl ?_
    exact x_iret dX9_taking_93 rfl rfl (Nat.le_refl _) (Nat.le_refl _) ⟨rfl, ⟨by first | (exact oi (by rw [vTakC, decide_eq_true h65, ← e2, decide_eq_true h77]; rfl)) | (exact oi (by rw [vTakC, decide_eq_true h65, ← e2, decide_eq_false h77]; rfl)) | (exact oi (by rw [vTakC, decide_eq_false h65, ← e2]; rfl)), e3⟩⟩
  · refine x_aload_n dX9_taking_68 rfl ?_
    refine x_getr fl_X9_63 dX9_taking_69 sf_0 rfl ?_
    refine x_geti fl_X9_242 dX9_taking_72 sf_33 rfl ?_
    refine x_bipush (v := -4) dX9_taking_75 (by decide) ?_
    refine x_icmp_ne 84 dX9_taking_77 (by decide) (fun h77 => ?_) (fun h77 => ?_)
    · refine x_iconst (v := 1) dX9_taking_84 (by decide) ?_
      exact x_iret dX9_taking_85 rfl rfl (Nat.le_refl _) (Nat.le_refl _) ⟨rfl, ⟨by first | (exact oi (by rw [vTakC, decide_eq_true h65, ← e2, decide_eq_true h77]; rfl)) | (exact oi (by rw [vTakC, decide_eq_true h65, ← e2, decide_eq_false h77]; rfl)) | (exact oi (by rw [vTakC, decide_eq_false h65, ← e2]; rfl)), e3⟩⟩
    · refine x_iconst (v := 2) dX9_taking_80 (by decide) ?_
      refine x_goto 85 dX9_taking_81 (by decide) ?_
      exact x_iret dX9_taking_85 rfl rfl (Nat.le_refl _) (Nat.le_refl _) ⟨rfl, ⟨by first | (exact oi (by rw [vTakC, decide_eq_true h65, ← e2, decide_eq_true h77]; rfl)) | (exact oi (by rw [vTakC, decide_eq_true h65, ← e2, decide_eq_false h77]; rfl)) | (exact oi (by rw [vTakC, decide_eq_false h65, ← e2]; rfl)), e3⟩⟩
theorem c_layingS {Z : List (Option Nat)} {ext : List Ds} {M : Mm} {al : Int32} (x : Int32) (hx : rg x 0 1 = true) (hal : ((1 : Int32) <<< (M 1 2 &&& 31)) - 1 = al) (hS : (!decide (al &&& (M 10 0 ^^^ (-1)) = 0) && !decide (12 < bcE (al &&& (M 10 0 ^^^ (-1))))) = false) : Ct mX9_laying [.ref 0, .int x] (SS Z ext) M (Rt (some (.int (-2))) M) := by
  have hx2 := rg_t.mp hx
  have ca := c_all (M := M) (ShG_SS Z ext)
  rw [hal] at ca
  refine Ct.of (by decide) (Nat.le_of_ble_eq_true rfl) ?_
  refine x_iload_n dX9_laying_0 rfl ?_
  refine x_if_lt 9 dX9_laying_1 (by decide) (fun hc_ => absurd hc_ (fun q => absurd hx2.1 (by rw [fa_le]; rw [fa_lt] at q; omega))) (fun _ => ?_)
  refine x_iload_n dX9_laying_4 rfl ?_
  refine x_iconst (v := 1) dX9_laying_5 (by decide) ?_
  refine x_icmp_le 11 dX9_laying_6 (by decide) (fun _ => ?_) (fun hc_ => absurd (hx2.2) hc_)
  refine x_aload_n dX9_laying_11 rfl ?_
  refine x_getr fl_X9_10 dX9_laying_12 sf_0 rfl ?_
  refine x_cvd mf_X2_all ml_X9_84 dX9_laying_15 rfl sf_1 rfl ⟨by decide, by decide⟩ (Nat.le_of_ble_eq_true rfl) ⟨rfl, rfl⟩ ⟨Nat.le_of_ble_eq_true rfl, Nat.le_of_ble_eq_true rfl⟩ (ca) ?_
  refine x_aload_n dX9_laying_18 rfl ?_
  refine x_getr fl_X9_19 dX9_laying_19 sf_0 rfl ?_
  refine x_geti fl_X9_137 dX9_laying_22 sf_10 rfl ?_
  refine x_iconst (v := -1) dX9_laying_25 (by decide) ?_
  refine x_ixor dX9_laying_26 ?_
  refine x_iand dX9_laying_27 ?_
  refine x_istore_n dX9_laying_28 (by decide) ?_
  refine x_iload_n dX9_laying_29 rfl ?_
  refine x_csd mf_X9_canBeLaid ml_X9_245 dX9_laying_30 rfl ⟨by decide, by decide⟩ (Nat.le_of_ble_eq_true rfl) ⟨rfl, rfl⟩ ⟨Nat.le_of_ble_eq_true rfl, Nat.le_of_ble_eq_true rfl⟩ (c_canBeLaid _) ?_
  refine x_ifb_ne 39 dX9_laying_33 (by decide) (fun hc_ => absurd ((hS).symm.trans hc_) Bool.false_ne_true) (fun _ => ?_)
  refine x_bipush (v := -2) dX9_laying_36 (by decide) ?_
  exact x_iret dX9_laying_38 rfl rfl (Nat.le_refl _) (Nat.le_refl _) ⟨rfl, ⟨rfl, rfl⟩⟩
theorem c_boxesS {Z : List (Option Nat)} {ext : List Ds} {M : Mm} {al : Int32} (x : Int32) (hx : rg x 0 1 = true) (hal : ((1 : Int32) <<< (M 1 2 &&& 31)) - 1 = al) (hS : (!decide (al &&& (M 10 0 ^^^ (-1)) = 0) && !decide (12 < bcE (al &&& (M 10 0 ^^^ (-1))))) = false) : Ct mX9_boxes [.ref 0, .int x] (SS Z ext) M (Rt (some (.int (-2))) M) := by
  have hx2 := rg_t.mp hx
  have ca := c_all (M := M) (ShG_SS Z ext)
  rw [hal] at ca
  refine Ct.of (by decide) (Nat.le_of_ble_eq_true rfl) ?_
  refine x_iload_n dX9_boxes_0 rfl ?_
  refine x_if_lt 9 dX9_boxes_1 (by decide) (fun hc_ => absurd hc_ (fun q => absurd hx2.1 (by rw [fa_le]; rw [fa_lt] at q; omega))) (fun _ => ?_)
  refine x_iload_n dX9_boxes_4 rfl ?_
  refine x_iconst (v := 1) dX9_boxes_5 (by decide) ?_
  refine x_icmp_le 11 dX9_boxes_6 (by decide) (fun _ => ?_) (fun hc_ => absurd (hx2.2) hc_)
  refine x_aload_n dX9_boxes_11 rfl ?_
  refine x_getr fl_X9_10 dX9_boxes_12 sf_0 rfl ?_
  refine x_cvd mf_X2_all ml_X9_84 dX9_boxes_15 rfl sf_1 rfl ⟨by decide, by decide⟩ (Nat.le_of_ble_eq_true rfl) ⟨rfl, rfl⟩ ⟨Nat.le_of_ble_eq_true rfl, Nat.le_of_ble_eq_true rfl⟩ (ca) ?_
  refine x_aload_n dX9_boxes_18 rfl ?_
  refine x_getr fl_X9_19 dX9_boxes_19 sf_0 rfl ?_
  refine x_geti fl_X9_137 dX9_boxes_22 sf_10 rfl ?_
  refine x_iconst (v := -1) dX9_boxes_25 (by decide) ?_
  refine x_ixor dX9_boxes_26 ?_
  refine x_iand dX9_boxes_27 ?_
  refine x_istore_n dX9_boxes_28 (by decide) ?_
  refine x_iload_n dX9_boxes_29 rfl ?_
  refine x_csd mf_X9_canBeLaid ml_X9_245 dX9_boxes_30 rfl ⟨by decide, by decide⟩ (Nat.le_of_ble_eq_true rfl) ⟨rfl, rfl⟩ ⟨Nat.le_of_ble_eq_true rfl, Nat.le_of_ble_eq_true rfl⟩ (c_canBeLaid _) ?_
  refine x_ifb_ne 39 dX9_boxes_33 (by decide) (fun hc_ => absurd ((hS).symm.trans hc_) Bool.false_ne_true) (fun _ => ?_)
  refine x_bipush (v := -2) dX9_boxes_36 (by decide) ?_
  exact x_iret dX9_boxes_38 rfl rfl (Nat.le_refl _) (Nat.le_refl _) ⟨rfl, ⟨rfl, rfl⟩⟩
def vLayC (b w x : Int32) : Int32 := if decide (x = 1) then b else if decide (0 ≤ w) then w else 2
def vBoxC (b w x : Int32) : Int32 := if decide (x = 0) then w + 100 else b
theorem c_laying {Z : List (Option Nat)} {ext : List Ds} {M : Mm} {sq mt n p : Nat} {al g sqs : Int32} {so nd G : Nat → Int32} (x : Int32) (hx : rg x 0 1 = true) (hal : ((1 : Int32) <<< (M 1 2 &&& 31)) - 1 = al) (hg : al &&& (M 10 0 ^^^ (-1)) = g) (hcs : csq (M 10 1) (M 6) 3 = sqs) (hS : (!decide (g = 0) && !decide (12 < bcE g)) = true) (hm : M 1 2 = nI mt) (hmb : mt ≤ 31) (hq : M 1 3 = nI sq) (hb : sq ≤ 20) (hpe : fsC g mt = p) (h0 : 0 < p) (hp : p ≤ 12) (hso : fsR g (M 34) mt = so) (hnd : suM M g sqs sq mt 35 = nd) (hn : (ndL sqs (fun q => rnm (fsR g (M 34) mt) (M 5 q) (fsC g mt)) sq).length = n) (hG : okGc nd n p false G) :
    Ct mX9_laying [.ref 0, .int x] (SS Z ext) M (fun r M' => r = some (.int (vLayC (so (fbF G nd n false (2 ^ p - 1) p).1) (fbF G nd n false (2 ^ p - 1) p).2 x)) ∧ Eqm M M') := by
  have hx2 := rg_t.mp hx
  have ca := c_all (M := M) (ShG_SS Z ext)
  rw [hal] at ca
  have cs := c_countedSquares (Z := Z) (ext := ext) (M := M)
  rw [hcs] at cs
  subst hpe; subst hn; subst hnd; subst hso
  have cp := c_playLaying (Z := Z) (ext := ext) (M := M) (G := G) sqs g false hm hmb hq hb h0 hp hG
  generalize fbF G (suM M g sqs sq mt 35) (ndL sqs (fun q => rnm (fsR g (M 34) mt) (M 5 q) (fsC g mt)) sq).length false (2 ^ fsC g mt - 1) (fsC g mt) = bb at cp ⊢
  generalize fsR g (M 34) mt bb.1 = v at cp ⊢
  refine Ct.of (by decide) (Nat.le_of_ble_eq_true rfl) ?_
  refine x_iload_n dX9_laying_0 rfl ?_
  refine x_if_lt 9 dX9_laying_1 (by decide) (fun hc_ => absurd hc_ (fun q => absurd hx2.1 (by rw [fa_le]; rw [fa_lt] at q; omega))) (fun _ => ?_)
  refine x_iload_n dX9_laying_4 rfl ?_
  refine x_iconst (v := 1) dX9_laying_5 (by decide) ?_
  refine x_icmp_le 11 dX9_laying_6 (by decide) (fun _ => ?_) (fun hc_ => absurd (hx2.2) hc_)
  refine x_aload_n dX9_laying_11 rfl ?_
  refine x_getr fl_X9_10 dX9_laying_12 sf_0 rfl ?_
  refine x_cvd mf_X2_all ml_X9_84 dX9_laying_15 rfl sf_1 rfl ⟨by decide, by decide⟩ (Nat.le_of_ble_eq_true rfl) ⟨rfl, rfl⟩ ⟨Nat.le_of_ble_eq_true rfl, Nat.le_of_ble_eq_true rfl⟩ (ca) ?_
  refine x_aload_n dX9_laying_18 rfl ?_
  refine x_getr fl_X9_19 dX9_laying_19 sf_0 rfl ?_
  refine x_geti fl_X9_137 dX9_laying_22 sf_10 rfl ?_
  refine x_iconst (v := -1) dX9_laying_25 (by decide) ?_
  refine x_ixor dX9_laying_26 ?_
  refine x_iand dX9_laying_27 ?_
  rw [show al &&& (M 10 0 ^^^ (-1)) = g from hg]
  refine x_istore_n dX9_laying_28 (by decide) ?_
  refine x_iload_n dX9_laying_29 rfl ?_
  refine x_csd mf_X9_canBeLaid ml_X9_245 dX9_laying_30 rfl ⟨by decide, by decide⟩ (Nat.le_of_ble_eq_true rfl) ⟨rfl, rfl⟩ ⟨Nat.le_of_ble_eq_true rfl, Nat.le_of_ble_eq_true rfl⟩ (c_canBeLaid _) ?_
  refine x_ifb_ne 39 dX9_laying_33 (by decide) (fun _ => ?_) (fun hc_ => absurd (hc_.symm.trans (hS)) Bool.false_ne_true)
  refine x_aload_n dX9_laying_39 rfl ?_
  refine x_getr fl_X9_63 dX9_laying_40 sf_0 rfl ?_
  refine x_aload_n dX9_laying_43 rfl ?_
  refine x_getr fl_X9_10 dX9_laying_44 sf_0 rfl ?_
  refine x_aload_n dX9_laying_47 rfl ?_
  refine x_cvd mf_X9_countedSquares ml_X9_224 dX9_laying_48 rfl sf_0 rfl ⟨by decide, by decide⟩ (Nat.le_of_ble_eq_true rfl) ⟨rfl, rfl⟩ ⟨Nat.le_of_ble_eq_true rfl, Nat.le_of_ble_eq_true rfl⟩ (cs) ?_
  refine x_iload_n dX9_laying_51 rfl ?_
  refine x_iconst (v := 0) dX9_laying_52 (by decide) ?_
  refine x_cv mf_X1_playLaying ml_X9_248 dX9_laying_53 rfl sf_33 rfl ⟨by decide, by decide⟩ (Nat.le_of_ble_eq_true rfl) ⟨rfl, rfl⟩ ⟨Nat.le_of_ble_eq_true rfl, Nat.le_of_ble_eq_true rfl⟩ (cp) (fun r M' ⟨e1, e2, e3, e4⟩ => ?_)
  subst e1
  refine x_iload_n dX9_laying_56 rfl ?_
  refine x_iconst (v := 1) dX9_laying_57 (by decide) ?_
  refine x_icmp_ne 69 dX9_laying_58 (by decide) (fun h58 => ?_) (fun h58 => ?_)
  · refine x_aload_n dX9_laying_69 rfl ?_
    refine x_getr fl_X9_63 dX9_laying_70 sf_0 rfl ?_
    refine x_geti fl_X9_252 dX9_laying_73 sf_33 rfl ?_
    refine x_if_ge 83 dX9_laying_76 (by decide) (fun h76 => ?_) (fun h76 => ?_)
    · refine x_aload_n dX9_laying_83 rfl ?_
      refine x_getr fl_X9_63 dX9_laying_84 sf_0 rfl ?_
      refine x_geti fl_X9_252 dX9_laying_87 sf_33 rfl ?_
      exact x_iret dX9_laying_90 rfl rfl (Nat.le_refl _) (Nat.le_refl _) ⟨rfl, ⟨by first | (exact oi (by rw [vLayC, decide_eq_true h58, ← e2]; rfl)) | (exact oi (by rw [vLayC, decide_eq_false h58, ← e3, decide_eq_true h76]; rfl)) | (exact oi (by rw [vLayC, decide_eq_false h58, ← e3, decide_eq_false h76]; rfl)), e4⟩⟩
    · refine x_iconst (v := 2) dX9_laying_79 (by decide) ?_
      refine x_goto 90 dX9_laying_80 (by decide) ?_
      exact x_iret dX9_laying_90 rfl rfl (Nat.le_refl _) (Nat.le_refl _) ⟨rfl, ⟨by first | (exact oi (by rw [vLayC, decide_eq_true h58, ← e2]; rfl)) | (exact oi (by rw [vLayC, decide_eq_false h58, ← e3, decide_eq_true h76]; rfl)) | (exact oi (by rw [vLayC, decide_eq_false h58, ← e3, decide_eq_false h76]; rfl)), e4⟩⟩
  · refine x_aload_n dX9_laying_61 rfl ?_
    refine x_getr fl_X9_63 dX9_laying_62 sf_0 rfl ?_
    refine x_geti fl_X9_242 dX9_laying_65 sf_33 rfl ?_
    exact x_iret dX9_laying_68 rfl rfl (Nat.le_refl _) (Nat.le_refl _) ⟨rfl, ⟨by first | (exact oi (by rw [vLayC, decide_eq_true h58, ← e2]; rfl)) | (exact oi (by rw [vLayC, decide_eq_false h58, ← e3, decide_eq_true h76]; rfl)) | (exact oi (by rw [vLayC, decide_eq_false h58, ← e3, decide_eq_false h76]; rfl)), e4⟩⟩
theorem c_boxes {Z : List (Option Nat)} {ext : List Ds} {M : Mm} {sq mt n p : Nat} {al g sqs : Int32} {so nd G : Nat → Int32} (x : Int32) (hx : rg x 0 1 = true) (hal : ((1 : Int32) <<< (M 1 2 &&& 31)) - 1 = al) (hg : al &&& (M 10 0 ^^^ (-1)) = g) (hcs : csq (M 10 1) (M 6) 3 = sqs) (hS : (!decide (g = 0) && !decide (12 < bcE g)) = true) (hm : M 1 2 = nI mt) (hmb : mt ≤ 31) (hq : M 1 3 = nI sq) (hb : sq ≤ 20) (hpe : fsC g mt = p) (h0 : 0 < p) (hp : p ≤ 12) (hso : fsR g (M 34) mt = so) (hnd : suM M g sqs sq mt 35 = nd) (hn : (ndL sqs (fun q => rnm (fsR g (M 34) mt) (M 5 q) (fsC g mt)) sq).length = n) (hG : okGc nd n p true G) :
    Ct mX9_boxes [.ref 0, .int x] (SS Z ext) M (fun r M' => r = some (.int (vBoxC (so (fbF G nd n true (2 ^ p - 1) p).1) (fbF G nd n true (2 ^ p - 1) p).2 x)) ∧ Eqm M M') := by
  have hx2 := rg_t.mp hx
  have ca := c_all (M := M) (ShG_SS Z ext)
  rw [hal] at ca
  have cs := c_countedSquares (Z := Z) (ext := ext) (M := M)
  rw [hcs] at cs
  subst hpe; subst hn; subst hnd; subst hso
  have cp := c_playLaying (Z := Z) (ext := ext) (M := M) (G := G) sqs g true hm hmb hq hb h0 hp hG
  generalize fbF G (suM M g sqs sq mt 35) (ndL sqs (fun q => rnm (fsR g (M 34) mt) (M 5 q) (fsC g mt)) sq).length true (2 ^ fsC g mt - 1) (fsC g mt) = bb at cp ⊢
  generalize fsR g (M 34) mt bb.1 = v at cp ⊢
  refine Ct.of (by decide) (Nat.le_of_ble_eq_true rfl) ?_
  refine x_iload_n dX9_boxes_0 rfl ?_
  refine x_if_lt 9 dX9_boxes_1 (by decide) (fun hc_ => absurd hc_ (fun q => absurd hx2.1 (by rw [fa_le]; rw [fa_lt] at q; omega))) (fun _ => ?_)
  refine x_iload_n dX9_boxes_4 rfl ?_
  refine x_iconst (v := 1) dX9_boxes_5 (by decide) ?_
  refine x_icmp_le 11 dX9_boxes_6 (by decide) (fun _ => ?_) (fun hc_ => absurd (hx2.2) hc_)
  refine x_aload_n dX9_boxes_11 rfl ?_
  refine x_getr fl_X9_10 dX9_boxes_12 sf_0 rfl ?_
  refine x_cvd mf_X2_all ml_X9_84 dX9_boxes_15 rfl sf_1 rfl ⟨by decide, by decide⟩ (Nat.le_of_ble_eq_true rfl) ⟨rfl, rfl⟩ ⟨Nat.le_of_ble_eq_true rfl, Nat.le_of_ble_eq_true rfl⟩ (ca) ?_
  refine x_aload_n dX9_boxes_18 rfl ?_
  refine x_getr fl_X9_19 dX9_boxes_19 sf_0 rfl ?_
  refine x_geti fl_X9_137 dX9_boxes_22 sf_10 rfl ?_
  refine x_iconst (v := -1) dX9_boxes_25 (by decide) ?_
  refine x_ixor dX9_boxes_26 ?_
  refine x_iand dX9_boxes_27 ?_
  rw [show al &&& (M 10 0 ^^^ (-1)) = g from hg]
  refine x_istore_n dX9_boxes_28 (by decide) ?_
  refine x_iload_n dX9_boxes_29 rfl ?_
  refine x_csd mf_X9_canBeLaid ml_X9_245 dX9_boxes_30 rfl ⟨by decide, by decide⟩ (Nat.le_of_ble_eq_true rfl) ⟨rfl, rfl⟩ ⟨Nat.le_of_ble_eq_true rfl, Nat.le_of_ble_eq_true rfl⟩ (c_canBeLaid _) ?_
  refine x_ifb_ne 39 dX9_boxes_33 (by decide) (fun _ => ?_) (fun hc_ => absurd (hc_.symm.trans (hS)) Bool.false_ne_true)
  refine x_aload_n dX9_boxes_39 rfl ?_
  refine x_getr fl_X9_63 dX9_boxes_40 sf_0 rfl ?_
  refine x_aload_n dX9_boxes_43 rfl ?_
  refine x_getr fl_X9_10 dX9_boxes_44 sf_0 rfl ?_
  refine x_aload_n dX9_boxes_47 rfl ?_
  refine x_cvd mf_X9_countedSquares ml_X9_224 dX9_boxes_48 rfl sf_0 rfl ⟨by decide, by decide⟩ (Nat.le_of_ble_eq_true rfl) ⟨rfl, rfl⟩ ⟨Nat.le_of_ble_eq_true rfl, Nat.le_of_ble_eq_true rfl⟩ (cs) ?_
  refine x_iload_n dX9_boxes_51 rfl ?_
  refine x_iconst (v := 1) dX9_boxes_52 (by decide) ?_
  refine x_cv mf_X1_playLaying ml_X9_248 dX9_boxes_53 rfl sf_33 rfl ⟨by decide, by decide⟩ (Nat.le_of_ble_eq_true rfl) ⟨rfl, rfl⟩ ⟨Nat.le_of_ble_eq_true rfl, Nat.le_of_ble_eq_true rfl⟩ (cp) (fun r M' ⟨e1, e2, e3, e4⟩ => ?_)
  subst e1
  refine x_iload_n dX9_boxes_56 rfl ?_
  refine x_if_ne 73 dX9_boxes_57 (by decide) (fun h57 => ?_) (fun h57 => ?_)
  · refine x_aload_n dX9_boxes_73 rfl ?_
    refine x_getr fl_X9_63 dX9_boxes_74 sf_0 rfl ?_
    refine x_geti fl_X9_242 dX9_boxes_77 sf_33 rfl ?_
    exact x_iret dX9_boxes_80 rfl rfl (Nat.le_refl _) (Nat.le_refl _) ⟨rfl, ⟨by first | (exact oi (by rw [vBoxC, decide_eq_true h57, ← e3]; rfl)) | (exact oi (by rw [vBoxC, decide_eq_false h57, ← e2]; rfl)), e4⟩⟩
  · refine x_aload_n dX9_boxes_60 rfl ?_
    refine x_getr fl_X9_63 dX9_boxes_61 sf_0 rfl ?_
    refine x_geti fl_X9_252 dX9_boxes_64 sf_33 rfl ?_
    refine x_bipush (v := 100) dX9_boxes_67 (by decide) ?_
    refine x_iadd dX9_boxes_69 ?_
    refine x_goto 80 dX9_boxes_70 (by decide) ?_
    exact x_iret dX9_boxes_80 rfl rfl (Nat.le_refl _) (Nat.le_refl _) ⟨rfl, ⟨by first | (exact oi (by rw [vBoxC, decide_eq_true h57, ← e3]; rfl)) | (exact oi (by rw [vBoxC, decide_eq_false h57, ← e2]; rfl)), e4⟩⟩
