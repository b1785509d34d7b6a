/-! ===== the reference: gone ===== -/
def so3 (se sz rm : Nat → Int32) (sq : Nat) (set : Int32) : Nat → Bool
  | 0 => true
  | k + 1 => so3 se sz rm sq set k && (decide (se (k + 1) = -4) || decide (Wh sz rm (nI (k + 1)) set sq = se (k + 1)))
theorem so3_s (se sz rm : Nat → Int32) (sq : Nat) (set : Int32) (k : Nat) : so3 se sz rm sq set (k + 1) = (so3 se sz rm sq set k && (decide (se (k + 1) = -4) || decide (Wh sz rm (nI (k + 1)) set sq = se (k + 1)))) := rfl
theorem c_m_isSo {Z : List (Option Nat)} {ext : List Ds} {M : Mm} {sq : Nat} (set : Int32) (hq : M 48 5 = nI sq) (hb2 : sq ≤ 20) : Ct mX10_isSo [.ref 48, .int set] (SS Z ext) M (Rt (some (.int (b2i (so3 (fun k => M 49 (32 + k)) (M 51) (M 54) sq set 3)))) M) := by
  refine Ct.of (by decide) (Nat.le_of_ble_eq_true rfl) ?_
  refine x_iconst (v := 1) dX10_isSo_0 (by decide) ?_
  refine x_istore_n dX10_isSo_1 (by decide) ?_
  refine x_iconst (v := 1) dX10_isSo_2 (by decide) ?_
  refine x_istore_n dX10_isSo_3 (by decide) ?_
  refine lup (P := fun k => XW _ _ 0 0 (SS Z ext) M 4 [some (.ref 48), some (.int set), some (.int (b2i (so3 (fun k => M 49 (32 + k)) (M 51) (M 54) sq set k))), some (.int (nI (k + 1)))] []) (N := 3) ?_ ?_ 0 (by omega)
  · refine x_iload_n dX10_isSo_4 rfl ?_
    refine x_iconst (v := 3) dX10_isSo_5 (by decide) ?_
    refine x_icmp_gt 57 dX10_isSo_6 (by decide) (fun _ => ?_) (fun hc_ => absurd (by decide) hc_)
    refine x_iload_n dX10_isSo_57 rfl ?_
    exact x_iret dX10_isSo_58 rfl (nz_b _) (Nat.le_refl _) (Nat.le_refl _) ⟨rfl, ⟨rfl, rfl⟩⟩
  · intro k hk ih
    rw [nI_succ (k + 1), so3_s _ _ _ _ _ k] at ih
    refine x_iload_n dX10_isSo_4 rfl ?_
    refine x_iconst (v := 3) dX10_isSo_5 (by decide) ?_
    refine x_icmp_gt 57 dX10_isSo_6 (by decide) (fun hc_ => absurd hc_ (nI_nlt (b := k + 1) (a := 3) (by omega) (by decide))) (fun _ => ?_)
    refine x_iload_n dX10_isSo_9 rfl ?_
    refine x_ifb_eq 49 dX10_isSo_10 (by decide) (fun h10 => ?_) (fun h10 => ?_)
    · refine x_iconst (v := 0) dX10_isSo_49 (by decide) ?_
      refine x_istore_n dX10_isSo_50 (by decide) ?_
      refine x_iinc1 dX10_isSo_51 rfl (by decide) ?_
      refine x_goto 4 dX10_isSo_54 (by decide) ?_
      first | (rw [h10] at ih; exact ih) | (rw [h10, decide_eq_true h24] at ih; exact ih) | (rw [h10, decide_eq_false h24, decide_eq_true h42] at ih; exact ih) | (rw [h10, decide_eq_false h24, decide_eq_false h42] at ih; exact ih)
    · refine x_aload_n dX10_isSo_13 rfl ?_
      refine x_getr fl_X10_7 dX10_isSo_14 sf_48 rfl ?_
      refine x_bipush (v := 32) dX10_isSo_17 (by decide) ?_
      refine x_iload_n dX10_isSo_19 rfl ?_
      refine x_iadd dX10_isSo_20 ?_
      refine x_iald dX10_isSo_21 sf_49 (ia 32 (k + 1)) (by omega) (by decide) ?_
      refine x_bipush (v := -4) dX10_isSo_22 (by decide) ?_
      refine x_icmp_eq 45 dX10_isSo_24 (by decide) (fun h24 => ?_) (fun h24 => ?_)
      · refine x_iconst (v := 1) dX10_isSo_45 (by decide) ?_
        refine x_goto 50 dX10_isSo_46 (by decide) ?_
        refine x_istore_n dX10_isSo_50 (by decide) ?_
        refine x_iinc1 dX10_isSo_51 rfl (by decide) ?_
        refine x_goto 4 dX10_isSo_54 (by decide) ?_
        first | (rw [h10] at ih; exact ih) | (rw [h10, decide_eq_true h24] at ih; exact ih) | (rw [h10, decide_eq_false h24, decide_eq_true h42] at ih; exact ih) | (rw [h10, decide_eq_false h24, decide_eq_false h42] at ih; exact ih)
      · refine x_aload_n dX10_isSo_27 rfl ?_
        refine x_iload_n dX10_isSo_28 rfl ?_
        refine x_iload_n dX10_isSo_29 rfl ?_
        refine x_cvd mf_X10_wholeOf ml_X10_218 dX10_isSo_30 rfl sf_48 rfl ⟨by decide, by decide⟩ (Nat.le_of_ble_eq_true rfl) ⟨rfl, rfl⟩ ⟨Nat.le_of_ble_eq_true rfl, Nat.le_of_ble_eq_true rfl⟩ (c_m_wholeOf _ set hq hb2) ?_
        refine x_aload_n dX10_isSo_33 rfl ?_
        refine x_getr fl_X10_7 dX10_isSo_34 sf_48 rfl ?_
        refine x_bipush (v := 32) dX10_isSo_37 (by decide) ?_
        refine x_iload_n dX10_isSo_39 rfl ?_
        refine x_iadd dX10_isSo_40 ?_
        refine x_iald dX10_isSo_41 sf_49 (ia 32 (k + 1)) (by omega) (by decide) ?_
        refine x_icmp_ne 49 dX10_isSo_42 (by decide) (fun h42 => ?_) (fun h42 => ?_)
        · refine x_iconst (v := 0) dX10_isSo_49 (by decide) ?_
          refine x_istore_n dX10_isSo_50 (by decide) ?_
          refine x_iinc1 dX10_isSo_51 rfl (by decide) ?_
          refine x_goto 4 dX10_isSo_54 (by decide) ?_
          first | (rw [h10] at ih; exact ih) | (rw [h10, decide_eq_true h24] at ih; exact ih) | (rw [h10, decide_eq_false h24, decide_eq_true h42] at ih; exact ih) | (rw [h10, decide_eq_false h24, decide_eq_false h42] at ih; exact ih)
        · refine x_iconst (v := 1) dX10_isSo_45 (by decide) ?_
          refine x_goto 50 dX10_isSo_46 (by decide) ?_
          refine x_istore_n dX10_isSo_50 (by decide) ?_
          refine x_iinc1 dX10_isSo_51 rfl (by decide) ?_
          refine x_goto 4 dX10_isSo_54 (by decide) ?_
          first | (rw [h10] at ih; exact ih) | (rw [h10, decide_eq_true h24] at ih; exact ih) | (rw [h10, decide_eq_false h24, decide_eq_true h42] at ih; exact ih) | (rw [h10, decide_eq_false h24, decide_eq_false h42] at ih; exact ih)
/-- the step of gone(): sets after which so many squares are seen -/
def stG (se sz rm : Nat → Int32) (sq : Nat) (L : Int32) (acc : Int32 × Int32 × Int32) (s : Int32) : Int32 × Int32 × Int32 := if so3 se sz rm sq (L &&& (s ^^^ (-1))) 3 then gth acc s else acc
def vGone (acc : Int32 × Int32 × Int32) (x : Int32) : Int32 := if decide (x = 0) then acc.1 else if decide (acc.1 = 0) then -4 else if decide (x = 1) then acc.2.1 else acc.2.2
theorem c_m_goneX {Z : List (Option Nat)} {ext : List Ds} {M : Mm} (n x : Int32) (hx : (rg n 0 4 && rg x 0 2) = false) : Ct mX10_gone [.ref 48, .int n, .int x] (SS Z ext) M (Rt (some (.int (-1))) M) := by
  refine Ct.of (by decide) (Nat.le_of_ble_eq_true rfl) ?_
  refine x_iload_n dX10_gone_0 rfl ?_
  refine x_i2l dX10_gone_1 ?_
  refine x_lconst (v := 0) dX10_gone_2 (by decide) ?_
  refine x_ldc2 dX10_gone_3 kc_X10_270 ?_
  refine x_csd mf_X10_in ml_X10_134 dX10_gone_6 rfl ⟨by decide, by decide⟩ (Nat.le_of_ble_eq_true rfl) ⟨rfl, rfl⟩ ⟨Nat.le_of_ble_eq_true rfl, Nat.le_of_ble_eq_true rfl⟩ (c_m_rg (a := 0) (b := 4) (by decide) (by decide)) ?_
  refine x_ifb_eq 24 dX10_gone_9 (by decide) (fun h9 => ?_) (fun h9 => ?_)
  · refine x_iconst (v := -1) dX10_gone_24 (by decide) ?_
    exact x_iret dX10_gone_25 rfl rfl (Nat.le_refl _) (Nat.le_refl _) ⟨rfl, ⟨rfl, rfl⟩⟩
  · refine x_iload_n dX10_gone_12 rfl ?_
    refine x_i2l dX10_gone_13 ?_
    refine x_lconst (v := 0) dX10_gone_14 (by decide) ?_
    refine x_ldc2 dX10_gone_15 kc_X10_249 ?_
    refine x_csd mf_X10_in ml_X10_134 dX10_gone_18 rfl ⟨by decide, by decide⟩ (Nat.le_of_ble_eq_true rfl) ⟨rfl, rfl⟩ ⟨Nat.le_of_ble_eq_true rfl, Nat.le_of_ble_eq_true rfl⟩ (c_m_rg (a := 0) (b := 2) (by decide) (by decide)) ?_
    refine x_ifb_ne 26 dX10_gone_21 (by decide) (fun h21 => ?_) (fun h21 => ?_)
    · rw [h9, h21] at hx; exact absurd hx (by decide)
    · refine x_iconst (v := -1) dX10_gone_24 (by decide) ?_
      exact x_iret dX10_gone_25 rfl rfl (Nat.le_refl _) (Nat.le_refl _) ⟨rfl, ⟨rfl, rfl⟩⟩
theorem c_m_gone {Z : List (Option Nat)} {ext : List Ds} {M : Mm} {mt sq : Nat} (n : Nat) (x : Int32) (hn : n ≤ 4) (hx : rg x 0 2 = true) (hm : M 48 4 = nI mt) (hb : mt ≤ 31) (hq : M 48 5 = nI sq) (hb2 : sq ≤ 20) : Ct mX10_gone [.ref 48, .int (nI n), .int x] (SS Z ext) M (fun r M' => r = some (.int (vGone ((Lx (bo (fsR (M 49 0) (M 63) mt)) (fsC (M 49 0) mt) n (fsC (M 49 0) mt) 0).foldl (stG (fun k => M 49 (32 + k)) (M 51) (M 54) sq (M 49 0)) (0, -4, 0)) x)) ∧ Eqm M M') := by
  refine Ct.of (by decide) (Nat.le_of_ble_eq_true rfl) ?_
  have hle : fsC (M 49 0) mt ≤ 31 := Nat.le_trans (fsC_le _ _) hb
  generalize hcm : fsC (M 49 0) mt = m at hle
  generalize hso : fsR (M 49 0) (M 63) mt = so
  have h35 : fsM M (M 49 0) mt 48 35 = nI m := by rw [← hcm]; rfl
  have h63 : fsM M (M 49 0) mt 63 = so := hso
  have hE := fsM_eqm M (M 49 0) mt
  have h49 : fsM M (M 49 0) mt 49 = M 49 := rfl
  have h51 : fsM M (M 49 0) mt 51 = M 51 := rfl
  have h54 : fsM M (M 49 0) mt 54 = M 54 := rfl
  have hq0 : fsM M (M 49 0) mt 48 5 = nI sq := hq
  refine x_iload_n dX10_gone_0 rfl ?_
  refine x_i2l dX10_gone_1 ?_
  refine x_lconst (v := 0) dX10_gone_2 (by decide) ?_
  refine x_ldc2 dX10_gone_3 kc_X10_270 ?_
  refine x_csd mf_X10_in ml_X10_134 dX10_gone_6 rfl ⟨by decide, by decide⟩ (Nat.le_of_ble_eq_true rfl) ⟨rfl, rfl⟩ ⟨Nat.le_of_ble_eq_true rfl, Nat.le_of_ble_eq_true rfl⟩ (c_m_rg (a := 0) (b := 4) (by decide) (by decide)) ?_
  refine x_ifb_eq 24 dX10_gone_9 (by decide) (fun hc_ => absurd (hc_.symm.trans (rg_nI (a := 0) (b := 4) (by omega) hn (by decide))) Bool.false_ne_true) (fun _ => ?_)
  refine x_iload_n dX10_gone_12 rfl ?_
  refine x_i2l dX10_gone_13 ?_
  refine x_lconst (v := 0) dX10_gone_14 (by decide) ?_
  refine x_ldc2 dX10_gone_15 kc_X10_249 ?_
  refine x_csd mf_X10_in ml_X10_134 dX10_gone_18 rfl ⟨by decide, by decide⟩ (Nat.le_of_ble_eq_true rfl) ⟨rfl, rfl⟩ ⟨Nat.le_of_ble_eq_true rfl, Nat.le_of_ble_eq_true rfl⟩ (c_m_rg (a := 0) (b := 2) (by decide) (by decide)) ?_
  refine x_ifb_ne 26 dX10_gone_21 (by decide) (fun _ => ?_) (fun hc_ => absurd (hc_.symm.trans (hx)) Bool.false_ne_true)
  refine x_aload_n dX10_gone_26 rfl ?_
  refine x_aload_n dX10_gone_27 rfl ?_
  refine x_getr fl_X10_7 dX10_gone_28 sf_48 rfl ?_
  refine x_iconst (v := 0) dX10_gone_31 (by decide) ?_
  refine x_iald (q := 0) dX10_gone_32 sf_49 (by decide) (by decide) (by decide) ?_
  refine x_cvd mf_X10_findSome ml_X10_272 dX10_gone_33 rfl sf_48 rfl ⟨by decide, by decide⟩ (Nat.le_of_ble_eq_true rfl) ⟨rfl, rfl⟩ ⟨Nat.le_of_ble_eq_true rfl, Nat.le_of_ble_eq_true rfl⟩ (c_m_findSome _ hm hb) ?_
  refine x_aload_n dX10_gone_36 rfl ?_
  refine x_cvd mf_X10_startsGather ml_X10_295 dX10_gone_37 rfl sf_48 rfl ⟨by decide, by decide⟩ (Nat.le_of_ble_eq_true rfl) ⟨rfl, rfl⟩ ⟨Nat.le_of_ble_eq_true rfl, Nat.le_of_ble_eq_true rfl⟩ (c_m_startsGather) ?_
  refine x_aload_n dX10_gone_40 rfl ?_
  refine x_iload_n dX10_gone_41 rfl ?_
  refine x_cvd mf_X10_firstOf ml_X10_275 dX10_gone_42 rfl sf_48 rfl ⟨by decide, by decide⟩ (Nat.le_of_ble_eq_true rfl) ⟨rfl, rfl⟩ ⟨Nat.le_of_ble_eq_true rfl, Nat.le_of_ble_eq_true rfl⟩ (c_m_firstOf n hn) ?_
  refine x_aload_n dX10_gone_45 rfl ?_
  refine x_geti fl_X10_267 dX10_gone_46 sf_48 rfl ?_
  refine x_iload_n dX10_gone_49 rfl ?_
  skip
  generalize fsM M (M 49 0) mt = M0 at h35 h63 hE h49 h51 h54 hq0 ⊢
  generalize hf : M0 64 = f
  generalize hV : vGone ((Lx (bo so) m n m 0).foldl (stG (fun k => M 49 (32 + k)) (M 51) (M 54) sq (M 49 0)) (0, -4, 0)) x = V
  have fin : ∀ (acc : Int32 × Int32 × Int32) (r : Nat → Int32) (l5 : Option Value), vGone acc x = V → XW mX10_gone (Fc mX10_gone (fun r S' M' => S' = SS Z ext ∧ r = some (.int V) ∧ Eqm M M')) 0 0 (SS Z ext) (gM M0 acc r) 59 [some (.ref 48), some (.int (nI n)), some (.int x), some (.int 0), l5] [] := by
    intro acc r l5 hv
    refine x_iload_n dX10_gone_59 rfl ?_
    refine x_if_eq 103 dX10_gone_60 (by decide) (fun _ => ?_) (fun hc_ => absurd (rfl) hc_)
    refine x_iload_n dX10_gone_103 rfl ?_
    refine x_if_ne 114 dX10_gone_104 (by decide) (fun h104 => ?_) (fun h104 => ?_)
    · refine x_aload_n dX10_gone_114 rfl ?_
      refine x_geti fl_X10_284 dX10_gone_115 sf_48 rfl ?_
      refine x_if_ne 126 dX10_gone_118 (by decide) (fun h118 => ?_) (fun h118 => ?_)
      · refine x_iload_n dX10_gone_126 rfl ?_
        refine x_iconst (v := 1) dX10_gone_127 (by decide) ?_
        refine x_icmp_ne 138 dX10_gone_128 (by decide) (fun h128 => ?_) (fun h128 => ?_)
        · refine x_aload_n dX10_gone_138 rfl ?_
          refine x_geti fl_X10_290 dX10_gone_139 sf_48 rfl ?_
          exact x_iret dX10_gone_142 rfl rfl (Nat.le_refl _) (Nat.le_refl _) ⟨rfl, ⟨by rw [← hv]; first | (exact oi (by rw [vGone, decide_eq_true h104]; rfl)) | (exact oi (by rw [vGone, decide_eq_false h104, decide_eq_true (show acc.1 = 0 from h118)]; rfl)) | (exact oi (by rw [vGone, decide_eq_false h104, decide_eq_false (show ¬ acc.1 = 0 from h118), decide_eq_true h128]; rfl)) | (exact oi (by rw [vGone, decide_eq_false h104, decide_eq_false (show ¬ acc.1 = 0 from h118), decide_eq_false h128]; rfl)), gM_eqm hE _ _⟩⟩
        · refine x_aload_n dX10_gone_131 rfl ?_
          refine x_geti fl_X10_287 dX10_gone_132 sf_48 rfl ?_
          refine x_goto 142 dX10_gone_135 (by decide) ?_
          exact x_iret dX10_gone_142 rfl rfl (Nat.le_refl _) (Nat.le_refl _) ⟨rfl, ⟨by rw [← hv]; first | (exact oi (by rw [vGone, decide_eq_true h104]; rfl)) | (exact oi (by rw [vGone, decide_eq_false h104, decide_eq_true (show acc.1 = 0 from h118)]; rfl)) | (exact oi (by rw [vGone, decide_eq_false h104, decide_eq_false (show ¬ acc.1 = 0 from h118), decide_eq_true h128]; rfl)) | (exact oi (by rw [vGone, decide_eq_false h104, decide_eq_false (show ¬ acc.1 = 0 from h118), decide_eq_false h128]; rfl)), gM_eqm hE _ _⟩⟩
      · refine x_bipush (v := -4) dX10_gone_121 (by decide) ?_
        refine x_goto 142 dX10_gone_123 (by decide) ?_
        exact x_iret dX10_gone_142 rfl rfl (Nat.le_refl _) (Nat.le_refl _) ⟨rfl, ⟨by rw [← hv]; first | (exact oi (by rw [vGone, decide_eq_true h104]; rfl)) | (exact oi (by rw [vGone, decide_eq_false h104, decide_eq_true (show acc.1 = 0 from h118)]; rfl)) | (exact oi (by rw [vGone, decide_eq_false h104, decide_eq_false (show ¬ acc.1 = 0 from h118), decide_eq_true h128]; rfl)) | (exact oi (by rw [vGone, decide_eq_false h104, decide_eq_false (show ¬ acc.1 = 0 from h118), decide_eq_false h128]; rfl)), gM_eqm hE _ _⟩⟩
    · refine x_aload_n dX10_gone_107 rfl ?_
      refine x_geti fl_X10_284 dX10_gone_108 sf_48 rfl ?_
      refine x_goto 142 dX10_gone_111 (by decide) ?_
      exact x_iret dX10_gone_142 rfl rfl (Nat.le_refl _) (Nat.le_refl _) ⟨rfl, ⟨by rw [← hv]; first | (exact oi (by rw [vGone, decide_eq_true h104]; rfl)) | (exact oi (by rw [vGone, decide_eq_false h104, decide_eq_true (show acc.1 = 0 from h118)]; rfl)) | (exact oi (by rw [vGone, decide_eq_false h104, decide_eq_false (show ¬ acc.1 = 0 from h118), decide_eq_true h128]; rfl)) | (exact oi (by rw [vGone, decide_eq_false h104, decide_eq_false (show ¬ acc.1 = 0 from h118), decide_eq_false h128]; rfl)), gM_eqm hE _ _⟩⟩
  by_cases hc : n ≤ m
  · rw [← Rm_first _ hc] at hV
    have loop : ∀ a, okA m n a → ∀ (acc : Int32 × Int32 × Int32) (l5 : Option Value), vGone ((sna (bo so) a n :: Rm (bo so) m n a n).foldl (stG (fun k => M 49 (32 + k)) (M 51) (M 54) sq (M 49 0)) acc) x = V → XW mX10_gone (Fc mX10_gone (fun r S' M' => S' = SS Z ext ∧ r = some (.int V) ∧ Eqm M M')) 0 0 (SS Z ext) (gM M0 acc (atr n a f)) 59 [some (.ref 48), some (.int (nI n)), some (.int x), some (.int 1), l5] [] := by
      refine enumI (bo so) hc (P := fun a l => ∀ (acc : Int32 × Int32 × Int32) (l5 : Option Value), vGone ((sna (bo so) a n :: l).foldl (stG (fun k => M 49 (32 + k)) (M 51) (M 54) sq (M 49 0)) acc) x = V → XW mX10_gone (Fc mX10_gone (fun r S' M' => S' = SS Z ext ∧ r = some (.int V) ∧ Eqm M M')) 0 0 (SS Z ext) (gM M0 acc (atr n a f)) 59 [some (.ref 48), some (.int (nI n)), some (.int x), some (.int 1), l5] []) ?_ ?_
      · intro a ha hK acc l5 hacc
        rw [← h49, ← h51, ← h54, ← h63, List.foldl_cons, List.foldl_nil, stG] at hacc
        by_cases hl : so3 (fun k => M0 49 (32 + k)) (M0 51) (M0 54) sq (M0 49 0 &&& (sna (bo (M0 63)) a n ^^^ (-1))) 3 = true
        · rw [hl, if_pos rfl] at hacc
          refine x_iload_n dX10_gone_59 rfl ?_
          refine x_if_eq 103 dX10_gone_60 (by decide) (fun hc_ => absurd hc_ (by decide)) (fun _ => ?_)
          refine x_aload_n dX10_gone_63 rfl ?_
          refine x_iload_n dX10_gone_64 rfl ?_
          refine x_cvd mf_X10_setNow ml_X10_278 dX10_gone_65 rfl sf_48 rfl ⟨by decide, by decide⟩ (Nat.le_of_ble_eq_true rfl) ⟨rfl, rfl⟩ ⟨Nat.le_of_ble_eq_true rfl, Nat.le_of_ble_eq_true rfl⟩ (c_m_setNow n a hn (okA_lt ha hc hle) (fun j hj => atr_in hj)) ?_
          refine x_istore dX10_gone_68 (by decide) ?_
          refine x_aload_n dX10_gone_70 rfl ?_
          refine x_aload_n dX10_gone_71 rfl ?_
          refine x_getr fl_X10_7 dX10_gone_72 sf_48 rfl ?_
          refine x_iconst (v := 0) dX10_gone_75 (by decide) ?_
          refine x_iald (q := 0) dX10_gone_76 sf_49 (by decide) (by decide) (by decide) ?_
          refine x_iload dX10_gone_77 rfl ?_
          refine x_iconst (v := -1) dX10_gone_79 (by decide) ?_
          refine x_ixor dX10_gone_80 ?_
          refine x_iand dX10_gone_81 ?_
          refine x_cvd mf_X10_isSo ml_X10_348 dX10_gone_82 rfl sf_48 rfl ⟨by decide, by decide⟩ (Nat.le_of_ble_eq_true rfl) ⟨rfl, rfl⟩ ⟨Nat.le_of_ble_eq_true rfl, Nat.le_of_ble_eq_true rfl⟩ (c_m_isSo (sq := sq) _ hq0 hb2) ?_
          refine x_ifb_eq 94 dX10_gone_85 (by decide) (fun hc_ => absurd (hc_.symm.trans (hl)) Bool.false_ne_true) (fun _ => ?_)
          refine x_aload_n dX10_gone_88 rfl ?_
          refine x_iload dX10_gone_89 rfl ?_
          refine x_cvd mf_X10_gathers ml_X10_298 dX10_gone_91 rfl sf_48 rfl ⟨by decide, by decide⟩ (Nat.le_of_ble_eq_true rfl) ⟨rfl, rfl⟩ ⟨Nat.le_of_ble_eq_true rfl, Nat.le_of_ble_eq_true rfl⟩ (c_m_gathers _) ?_
          rw [show upr (gM M0 acc (atr n a f)) 48 (g3 (gM M0 acc (atr n a f) 48) (gth (gM M0 acc (atr n a f) 48 37, gM M0 acc (atr n a f) 48 38, gM M0 acc (atr n a f) 48 39) (snw (gM M0 acc (atr n a f) 63) a n))) = gM M0 (gth acc (sna (bo (M0 63)) a n)) (atr n a f) from gM_gth _ _ _ _]
          refine x_aload_n dX10_gone_94 rfl ?_
          refine x_iload_n dX10_gone_95 rfl ?_
          refine x_cvd mf_X10_nextOf ml_X10_281 dX10_gone_96 rfl sf_48 rfl ⟨by decide, by decide⟩ (Nat.le_of_ble_eq_true rfl) ⟨rfl, rfl⟩ ⟨Nat.le_of_ble_eq_true rfl, Nat.le_of_ble_eq_true rfl⟩ (c_m_next0 hn hc hle ha h35 rfl hK) ?_
          refine x_istore_n dX10_gone_99 (by decide) ?_
          refine x_goto 59 dX10_gone_100 (by decide) ?_
          exact fin _ _ _ hacc
        · replace hl := Bool.eq_false_iff.mpr hl
          rw [hl, if_neg (by decide)] at hacc
          refine x_iload_n dX10_gone_59 rfl ?_
          refine x_if_eq 103 dX10_gone_60 (by decide) (fun hc_ => absurd hc_ (by decide)) (fun _ => ?_)
          refine x_aload_n dX10_gone_63 rfl ?_
          refine x_iload_n dX10_gone_64 rfl ?_
          refine x_cvd mf_X10_setNow ml_X10_278 dX10_gone_65 rfl sf_48 rfl ⟨by decide, by decide⟩ (Nat.le_of_ble_eq_true rfl) ⟨rfl, rfl⟩ ⟨Nat.le_of_ble_eq_true rfl, Nat.le_of_ble_eq_true rfl⟩ (c_m_setNow n a hn (okA_lt ha hc hle) (fun j hj => atr_in hj)) ?_
          refine x_istore dX10_gone_68 (by decide) ?_
          refine x_aload_n dX10_gone_70 rfl ?_
          refine x_aload_n dX10_gone_71 rfl ?_
          refine x_getr fl_X10_7 dX10_gone_72 sf_48 rfl ?_
          refine x_iconst (v := 0) dX10_gone_75 (by decide) ?_
          refine x_iald (q := 0) dX10_gone_76 sf_49 (by decide) (by decide) (by decide) ?_
          refine x_iload dX10_gone_77 rfl ?_
          refine x_iconst (v := -1) dX10_gone_79 (by decide) ?_
          refine x_ixor dX10_gone_80 ?_
          refine x_iand dX10_gone_81 ?_
          refine x_cvd mf_X10_isSo ml_X10_348 dX10_gone_82 rfl sf_48 rfl ⟨by decide, by decide⟩ (Nat.le_of_ble_eq_true rfl) ⟨rfl, rfl⟩ ⟨Nat.le_of_ble_eq_true rfl, Nat.le_of_ble_eq_true rfl⟩ (c_m_isSo (sq := sq) _ hq0 hb2) ?_
          refine x_ifb_eq 94 dX10_gone_85 (by decide) (fun _ => ?_) (fun hc_ => absurd ((hl).symm.trans hc_) Bool.false_ne_true)
          refine x_aload_n dX10_gone_94 rfl ?_
          refine x_iload_n dX10_gone_95 rfl ?_
          refine x_cvd mf_X10_nextOf ml_X10_281 dX10_gone_96 rfl sf_48 rfl ⟨by decide, by decide⟩ (Nat.le_of_ble_eq_true rfl) ⟨rfl, rfl⟩ ⟨Nat.le_of_ble_eq_true rfl, Nat.le_of_ble_eq_true rfl⟩ (c_m_next0 hn hc hle ha h35 rfl hK) ?_
          refine x_istore_n dX10_gone_99 (by decide) ?_
          refine x_goto 59 dX10_gone_100 (by decide) ?_
          exact fin _ _ _ hacc
      · intro a K ha hK hok ih acc l5 hacc
        rw [List.foldl_cons] at hacc
        have ih := fun l5 => ih _ l5 hacc
        rw [stG] at ih
        rw [← h49, ← h51, ← h54, ← h63] at ih
        by_cases hl : so3 (fun k => M0 49 (32 + k)) (M0 51) (M0 54) sq (M0 49 0 &&& (sna (bo (M0 63)) a n ^^^ (-1))) 3 = true
        · rw [hl] at ih; simp only [if_true] at ih
          refine x_iload_n dX10_gone_59 rfl ?_
          refine x_if_eq 103 dX10_gone_60 (by decide) (fun hc_ => absurd hc_ (by decide)) (fun _ => ?_)
          refine x_aload_n dX10_gone_63 rfl ?_
          refine x_iload_n dX10_gone_64 rfl ?_
          refine x_cvd mf_X10_setNow ml_X10_278 dX10_gone_65 rfl sf_48 rfl ⟨by decide, by decide⟩ (Nat.le_of_ble_eq_true rfl) ⟨rfl, rfl⟩ ⟨Nat.le_of_ble_eq_true rfl, Nat.le_of_ble_eq_true rfl⟩ (c_m_setNow n a hn (okA_lt ha hc hle) (fun j hj => atr_in hj)) ?_
          refine x_istore dX10_gone_68 (by decide) ?_
          refine x_aload_n dX10_gone_70 rfl ?_
          refine x_aload_n dX10_gone_71 rfl ?_
          refine x_getr fl_X10_7 dX10_gone_72 sf_48 rfl ?_
          refine x_iconst (v := 0) dX10_gone_75 (by decide) ?_
          refine x_iald (q := 0) dX10_gone_76 sf_49 (by decide) (by decide) (by decide) ?_
          refine x_iload dX10_gone_77 rfl ?_
          refine x_iconst (v := -1) dX10_gone_79 (by decide) ?_
          refine x_ixor dX10_gone_80 ?_
          refine x_iand dX10_gone_81 ?_
          refine x_cvd mf_X10_isSo ml_X10_348 dX10_gone_82 rfl sf_48 rfl ⟨by decide, by decide⟩ (Nat.le_of_ble_eq_true rfl) ⟨rfl, rfl⟩ ⟨Nat.le_of_ble_eq_true rfl, Nat.le_of_ble_eq_true rfl⟩ (c_m_isSo (sq := sq) _ hq0 hb2) ?_
          refine x_ifb_eq 94 dX10_gone_85 (by decide) (fun hc_ => absurd (hc_.symm.trans (hl)) Bool.false_ne_true) (fun _ => ?_)
          refine x_aload_n dX10_gone_88 rfl ?_
          refine x_iload dX10_gone_89 rfl ?_
          refine x_cvd mf_X10_gathers ml_X10_298 dX10_gone_91 rfl sf_48 rfl ⟨by decide, by decide⟩ (Nat.le_of_ble_eq_true rfl) ⟨rfl, rfl⟩ ⟨Nat.le_of_ble_eq_true rfl, Nat.le_of_ble_eq_true rfl⟩ (c_m_gathers _) ?_
          rw [show upr (gM M0 acc (atr n a f)) 48 (g3 (gM M0 acc (atr n a f) 48) (gth (gM M0 acc (atr n a f) 48 37, gM M0 acc (atr n a f) 48 38, gM M0 acc (atr n a f) 48 39) (snw (gM M0 acc (atr n a f) 63) a n))) = gM M0 (gth acc (sna (bo (M0 63)) a n)) (atr n a f) from gM_gth _ _ _ _]
          refine x_aload_n dX10_gone_94 rfl ?_
          refine x_iload_n dX10_gone_95 rfl ?_
          refine x_cvd mf_X10_nextOf ml_X10_281 dX10_gone_96 rfl sf_48 rfl ⟨by decide, by decide⟩ (Nat.le_of_ble_eq_true rfl) ⟨rfl, rfl⟩ ⟨Nat.le_of_ble_eq_true rfl, Nat.le_of_ble_eq_true rfl⟩ (c_m_next1 hn hc hle ha h35 rfl hK) ?_
          refine x_istore_n dX10_gone_99 (by decide) ?_
          refine x_goto 59 dX10_gone_100 (by decide) ?_
          rw [gM_at]
          exact ih _
        · replace hl := Bool.eq_false_iff.mpr hl
          rw [hl] at ih; simp only [Bool.false_eq_true, if_false] at ih
          refine x_iload_n dX10_gone_59 rfl ?_
          refine x_if_eq 103 dX10_gone_60 (by decide) (fun hc_ => absurd hc_ (by decide)) (fun _ => ?_)
          refine x_aload_n dX10_gone_63 rfl ?_
          refine x_iload_n dX10_gone_64 rfl ?_
          refine x_cvd mf_X10_setNow ml_X10_278 dX10_gone_65 rfl sf_48 rfl ⟨by decide, by decide⟩ (Nat.le_of_ble_eq_true rfl) ⟨rfl, rfl⟩ ⟨Nat.le_of_ble_eq_true rfl, Nat.le_of_ble_eq_true rfl⟩ (c_m_setNow n a hn (okA_lt ha hc hle) (fun j hj => atr_in hj)) ?_
          refine x_istore dX10_gone_68 (by decide) ?_
          refine x_aload_n dX10_gone_70 rfl ?_
          refine x_aload_n dX10_gone_71 rfl ?_
          refine x_getr fl_X10_7 dX10_gone_72 sf_48 rfl ?_
          refine x_iconst (v := 0) dX10_gone_75 (by decide) ?_
          refine x_iald (q := 0) dX10_gone_76 sf_49 (by decide) (by decide) (by decide) ?_
          refine x_iload dX10_gone_77 rfl ?_
          refine x_iconst (v := -1) dX10_gone_79 (by decide) ?_
          refine x_ixor dX10_gone_80 ?_
          refine x_iand dX10_gone_81 ?_
          refine x_cvd mf_X10_isSo ml_X10_348 dX10_gone_82 rfl sf_48 rfl ⟨by decide, by decide⟩ (Nat.le_of_ble_eq_true rfl) ⟨rfl, rfl⟩ ⟨Nat.le_of_ble_eq_true rfl, Nat.le_of_ble_eq_true rfl⟩ (c_m_isSo (sq := sq) _ hq0 hb2) ?_
          refine x_ifb_eq 94 dX10_gone_85 (by decide) (fun _ => ?_) (fun hc_ => absurd ((hl).symm.trans hc_) Bool.false_ne_true)
          refine x_aload_n dX10_gone_94 rfl ?_
          refine x_iload_n dX10_gone_95 rfl ?_
          refine x_cvd mf_X10_nextOf ml_X10_281 dX10_gone_96 rfl sf_48 rfl ⟨by decide, by decide⟩ (Nat.le_of_ble_eq_true rfl) ⟨rfl, rfl⟩ ⟨Nat.le_of_ble_eq_true rfl, Nat.le_of_ble_eq_true rfl⟩ (c_m_next1 hn hc hle ha h35 rfl hK) ?_
          refine x_istore_n dX10_gone_99 (by decide) ?_
          refine x_goto 59 dX10_gone_100 (by decide) ?_
          rw [gM_at]
          exact ih _
    refine x_icmp_lt 57 dX10_gone_50 (by decide) (fun hc_ => absurd hc_ (by show ¬ M0 48 35 < nI n; rw [h35]; exact nI_nlt hc (by omega))) (fun _ => ?_)
    refine x_iconst (v := 1) dX10_gone_53 (by decide) ?_
    refine x_goto 58 dX10_gone_54 (by decide) ?_
    refine x_istore_n dX10_gone_58 (by decide) ?_
    rw [← hf] at loop
    exact loop (fun j => j) ok_first (0, -4, 0) none hV
  · rw [Lx_nil _ _ _ _ _ (by omega)] at hV
    refine x_icmp_lt 57 dX10_gone_50 (by decide) (fun _ => ?_) (fun hc_ => absurd (by show M0 48 35 < nI n; rw [h35]; exact nI_lt (by omega) (by omega)) hc_)
    refine x_iconst (v := 0) dX10_gone_57 (by decide) ?_
    refine x_istore_n dX10_gone_58 (by decide) ?_
    exact fin (0, -4, 0) _ none hV
