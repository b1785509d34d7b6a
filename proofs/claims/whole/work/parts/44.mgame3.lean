/-! ===== the reference: laying, boxes ===== -/
def lefL (C : Int32) (sz rm : Nat → Int32) (sq : Nat) (L : Int32) (so : Nat → Int32) (m j : Nat) : Int32 := Lf C sz rm (L ||| ofR so (nI j) m) sq
theorem c_m_startsLayingX {Z : List (Option Nat)} {ext : List Ds} {M : Mm} {mt : Nat} (hm : M 48 4 = nI mt) (hb : mt ≤ 31) (hc : fsC (alo mt &&& (M 49 0 ^^^ (-1))) mt = 0 ∨ 12 < fsC (alo mt &&& (M 49 0 ^^^ (-1))) mt) : Ct mX10_startsLaying [.ref 48] (SS Z ext) M (fun r M' => r = some (.int 0) ∧ Eqm M M') := by
  have hle : fsC (alo mt &&& (M 49 0 ^^^ (-1))) mt ≤ 31 := Nat.le_trans (fsC_le _ _) hb
  refine Ct.of (by decide) (Nat.le_of_ble_eq_true rfl) ?_
  by_cases h0 : fsC (alo mt &&& (M 49 0 ^^^ (-1))) mt = 0
  · refine x_aload_n dX10_startsLaying_0 rfl ?_
    refine x_aload_n dX10_startsLaying_1 rfl ?_
    refine x_cvd mf_X10_allOutside ml_X10_301 dX10_startsLaying_2 rfl sf_48 rfl ⟨by decide, by decide⟩ (Nat.le_of_ble_eq_true rfl) ⟨rfl, rfl⟩ ⟨Nat.le_of_ble_eq_true rfl, Nat.le_of_ble_eq_true rfl⟩ (c_m_allOutside hm hb) ?_
    refine x_cvd mf_X10_findSome ml_X10_272 dX10_startsLaying_5 rfl sf_48 rfl ⟨by decide, by decide⟩ (Nat.le_of_ble_eq_true rfl) ⟨rfl, rfl⟩ ⟨Nat.le_of_ble_eq_true rfl, Nat.le_of_ble_eq_true rfl⟩ (c_m_findSome _ hm hb) ?_
    refine x_aload_n dX10_startsLaying_8 rfl ?_
    refine x_geti fl_X10_267 dX10_startsLaying_9 sf_48 rfl ?_
    refine x_if_eq 24 dX10_startsLaying_12 (by decide) (fun _ => ?_) (fun hc_ => absurd (by show nI (fsC _ mt) = 0; rw [h0]; rfl) hc_)
    refine x_iconst (v := 0) dX10_startsLaying_24 (by decide) ?_
    exact x_iret dX10_startsLaying_25 rfl rfl (Nat.le_refl _) (Nat.le_refl _) ⟨rfl, ⟨rfl, fsM_eqm _ _ _⟩⟩
  · have h2 := hc.resolve_left h0
    refine x_aload_n dX10_startsLaying_0 rfl ?_
    refine x_aload_n dX10_startsLaying_1 rfl ?_
    refine x_cvd mf_X10_allOutside ml_X10_301 dX10_startsLaying_2 rfl sf_48 rfl ⟨by decide, by decide⟩ (Nat.le_of_ble_eq_true rfl) ⟨rfl, rfl⟩ ⟨Nat.le_of_ble_eq_true rfl, Nat.le_of_ble_eq_true rfl⟩ (c_m_allOutside hm hb) ?_
    refine x_cvd mf_X10_findSome ml_X10_272 dX10_startsLaying_5 rfl sf_48 rfl ⟨by decide, by decide⟩ (Nat.le_of_ble_eq_true rfl) ⟨rfl, rfl⟩ ⟨Nat.le_of_ble_eq_true rfl, Nat.le_of_ble_eq_true rfl⟩ (c_m_findSome _ hm hb) ?_
    refine x_aload_n dX10_startsLaying_8 rfl ?_
    refine x_geti fl_X10_267 dX10_startsLaying_9 sf_48 rfl ?_
    refine x_if_eq 24 dX10_startsLaying_12 (by decide) (fun hc_ => absurd hc_ (by show ¬ nI (fsC _ mt) = 0; exact nI_ne0 (by omega) (by omega))) (fun _ => ?_)
    refine x_aload_n dX10_startsLaying_15 rfl ?_
    refine x_geti fl_X10_267 dX10_startsLaying_16 sf_48 rfl ?_
    refine x_bipush (v := 12) dX10_startsLaying_19 (by decide) ?_
    refine x_icmp_le 26 dX10_startsLaying_21 (by decide) (fun hc_ => absurd hc_ (by show ¬ nI (fsC _ mt) ≤ 12; exact nI_ge (a := 12) h2 (by omega))) (fun _ => ?_)
    refine x_iconst (v := 0) dX10_startsLaying_24 (by decide) ?_
    exact x_iret dX10_startsLaying_25 rfl rfl (Nat.le_refl _) (Nat.le_refl _) ⟨rfl, ⟨rfl, fsM_eqm _ _ _⟩⟩
theorem c_m_startsLaying {Z : List (Option Nat)} {ext : List Ds} {M : Mm} {mt sq m : Nat} {so : Nat → Int32} (hm : M 48 4 = nI mt) (hb : mt ≤ 31) (hq : M 48 5 = nI sq) (hb2 : sq ≤ 20) (hcm : fsC (alo mt &&& (M 49 0 ^^^ (-1))) mt = m) (hso : fsR (alo mt &&& (M 49 0 ^^^ (-1))) (M 63) mt = so) (h0 : 0 < m) (hc : m ≤ 12) :
    Ct mX10_startsLaying [.ref 48] (SS Z ext) M (fun r M' => r = some (.int 1) ∧ ∃ M0 r67, M' = upr M0 67 r67 ∧ Eqm M M0 ∧ M0 48 35 = nI m ∧ M0 63 = so ∧ M0 48 5 = nI sq ∧ ∀ i, i < 2 ^ m → r67 i = lefL (M 49 32) (M 51) (M 54) sq (M 49 0) so m i) := by
  have hp12 := pow12 hc
  refine Ct.of (by decide) (Nat.le_of_ble_eq_true rfl) ?_
  have h35 : fsM M (alo mt &&& (M 49 0 ^^^ (-1))) mt 48 35 = nI m := by rw [← hcm]; rfl
  have h63 : fsM M (alo mt &&& (M 49 0 ^^^ (-1))) mt 63 = so := hso
  have hE := fsM_eqm M (alo mt &&& (M 49 0 ^^^ (-1))) mt
  have h49 : fsM M (alo mt &&& (M 49 0 ^^^ (-1))) mt 49 = M 49 := rfl
  have h51 : fsM M (alo mt &&& (M 49 0 ^^^ (-1))) mt 51 = M 51 := rfl
  have h54 : fsM M (alo mt &&& (M 49 0 ^^^ (-1))) mt 54 = M 54 := rfl
  have hq0 : fsM M (alo mt &&& (M 49 0 ^^^ (-1))) mt 48 5 = nI sq := hq
  have e : fsM M (alo mt &&& (M 49 0 ^^^ (-1))) mt = upr (fsM M (alo mt &&& (M 49 0 ^^^ (-1))) mt) 67 ((fsM M (alo mt &&& (M 49 0 ^^^ (-1))) mt) 67) := (upr_self _ _).symm
  refine x_aload_n dX10_startsLaying_0 rfl ?_
  refine x_aload_n dX10_startsLaying_1 rfl ?_
  refine x_cvd mf_X10_allOutside ml_X10_301 dX10_startsLaying_2 rfl sf_48 rfl ⟨by decide, by decide⟩ (Nat.le_of_ble_eq_true rfl) ⟨rfl, rfl⟩ ⟨Nat.le_of_ble_eq_true rfl, Nat.le_of_ble_eq_true rfl⟩ (c_m_allOutside hm hb) ?_
  refine x_cvd mf_X10_findSome ml_X10_272 dX10_startsLaying_5 rfl sf_48 rfl ⟨by decide, by decide⟩ (Nat.le_of_ble_eq_true rfl) ⟨rfl, rfl⟩ ⟨Nat.le_of_ble_eq_true rfl, Nat.le_of_ble_eq_true rfl⟩ (c_m_findSome _ hm hb) ?_
  refine x_aload_n dX10_startsLaying_8 rfl ?_
  refine x_geti fl_X10_267 dX10_startsLaying_9 sf_48 rfl ?_
  refine x_if_eq 24 dX10_startsLaying_12 (by decide) (fun hc_ => absurd hc_ (by rw [h35]; exact nI_ne0 h0 (by omega))) (fun _ => ?_)
  refine x_aload_n dX10_startsLaying_15 rfl ?_
  refine x_geti fl_X10_267 dX10_startsLaying_16 sf_48 rfl ?_
  refine x_bipush (v := 12) dX10_startsLaying_19 (by decide) ?_
  refine x_icmp_le 26 dX10_startsLaying_21 (by decide) (fun _ => ?_) (fun hc_ => absurd (by rw [h35]; exact nI_le (b := 12) hc (by decide)) hc_)
  refine x_iconst (v := 0) dX10_startsLaying_26 (by decide) ?_
  refine x_istore_n dX10_startsLaying_27 (by decide) ?_
  rw [e]
  generalize fsM M (alo mt &&& (M 49 0 ^^^ (-1))) mt = M0 at h35 h63 hE h49 h51 h54 hq0 ⊢
  have loop : ∀ k, k ≤ 2 ^ m → ∀ r67 : Nat → Int32, (∀ i, i < k → r67 i = lefL (M 49 32) (M 51) (M 54) sq (M 49 0) so m i) → XW mX10_startsLaying (Fc mX10_startsLaying (fun r S' M' => S' = SS Z ext ∧ r = some (.int 1) ∧ ∃ M0 r67, M' = upr M0 67 r67 ∧ Eqm M M0 ∧ M0 48 35 = nI m ∧ M0 63 = so ∧ M0 48 5 = nI sq ∧ ∀ i, i < 2 ^ m → r67 i = lefL (M 49 32) (M 51) (M 54) sq (M 49 0) so m i)) 0 0 (SS Z ext) (upr M0 67 r67) 28 [some (.ref 48), some (.int (nI k))] [] := by
    refine lup (P := fun k => ∀ r67 : Nat → Int32, (∀ i, i < k → r67 i = lefL (M 49 32) (M 51) (M 54) sq (M 49 0) so m i) → XW mX10_startsLaying (Fc mX10_startsLaying (fun r S' M' => S' = SS Z ext ∧ r = some (.int 1) ∧ ∃ M0 r67, M' = upr M0 67 r67 ∧ Eqm M M0 ∧ M0 48 35 = nI m ∧ M0 63 = so ∧ M0 48 5 = nI sq ∧ ∀ i, i < 2 ^ m → r67 i = lefL (M 49 32) (M 51) (M 54) sq (M 49 0) so m i)) 0 0 (SS Z ext) (upr M0 67 r67) 28 [some (.ref 48), some (.int (nI k))] []) ?_ ?_
    · intro r67 hr
      refine x_iload_n dX10_startsLaying_28 rfl ?_
      refine x_iconst (v := 1) dX10_startsLaying_29 (by decide) ?_
      refine x_aload_n dX10_startsLaying_30 rfl ?_
      refine x_geti fl_X10_267 dX10_startsLaying_31 sf_48 rfl ?_
      refine x_ishl dX10_startsLaying_34 ?_
      rw [show (upr M0 67 r67) 48 35 = nI m from h35, tb_sh (by omega)]
      refine x_icmp_ge 66 dX10_startsLaying_35 (by decide) (fun _ => ?_) (fun hc_ => absurd (nI_le (Nat.le_refl _) (by omega)) hc_)
      refine x_iconst (v := 1) dX10_startsLaying_66 (by decide) ?_
      exact x_iret dX10_startsLaying_67 rfl rfl (Nat.le_refl _) (Nat.le_refl _) ⟨rfl, ⟨rfl, M0, r67, rfl, hE, h35, h63, hq0, hr⟩⟩
    · intro k hk ih r67 hr
      have hlk : Lf (M0 49 32) (M0 51) (M0 54) (M0 49 0 ||| ofR (M0 63) (nI k) m) sq = lefL (M 49 32) (M 51) (M 54) sq (M 49 0) so m k := by rw [h49, h51, h54, h63]; rfl
      have ih := ih (upd r67 k (lefL (M 49 32) (M 51) (M 54) sq (M 49 0) so m k)) (by
        intro i hi
        by_cases h3 : i = k
        · subst h3; exact pk_us
        · rw [pk_un h3]; exact hr i (by omega))
      rw [nI_succ, ← up2_upr2, ← hlk] at ih
      refine x_iload_n dX10_startsLaying_28 rfl ?_
      refine x_iconst (v := 1) dX10_startsLaying_29 (by decide) ?_
      refine x_aload_n dX10_startsLaying_30 rfl ?_
      refine x_geti fl_X10_267 dX10_startsLaying_31 sf_48 rfl ?_
      refine x_ishl dX10_startsLaying_34 ?_
      rw [show (upr M0 67 r67) 48 35 = nI m from h35, tb_sh (by omega)]
      refine x_icmp_ge 66 dX10_startsLaying_35 (by decide) (fun hc_ => absurd hc_ (nI_ge hk (by omega))) (fun _ => ?_)
      refine x_aload_n dX10_startsLaying_38 rfl ?_
      refine x_getr fl_X10_65 dX10_startsLaying_39 sf_48 rfl ?_
      refine x_iload_n dX10_startsLaying_42 rfl ?_
      refine x_aload_n dX10_startsLaying_43 rfl ?_
      refine x_aload_n dX10_startsLaying_44 rfl ?_
      refine x_getr fl_X10_7 dX10_startsLaying_45 sf_48 rfl ?_
      refine x_iconst (v := 0) dX10_startsLaying_48 (by decide) ?_
      refine x_iald (q := 0) dX10_startsLaying_49 sf_49 (by decide) (by decide) (by decide) ?_
      refine x_aload_n dX10_startsLaying_50 rfl ?_
      refine x_iload_n dX10_startsLaying_51 rfl ?_
      refine x_cvd mf_X10_ofRow ml_X10_304 dX10_startsLaying_52 rfl sf_48 rfl ⟨by decide, by decide⟩ (Nat.le_of_ble_eq_true rfl) ⟨rfl, rfl⟩ ⟨Nat.le_of_ble_eq_true rfl, Nat.le_of_ble_eq_true rfl⟩ (c_m_ofRow (m := m) (nI k) h35 (by omega)) ?_
      refine x_ior dX10_startsLaying_55 ?_
      refine x_cvd mf_X10_leftOf ml_X10_221 dX10_startsLaying_56 rfl sf_48 rfl ⟨by decide, by decide⟩ (Nat.le_of_ble_eq_true rfl) ⟨rfl, rfl⟩ ⟨Nat.le_of_ble_eq_true rfl, Nat.le_of_ble_eq_true rfl⟩ (c_m_leftOf (sq := sq) _ hq0 hb2) ?_
      refine x_iast dX10_startsLaying_59 sf_67 rfl (by omega) (by decide) ?_
      refine x_iinc1 dX10_startsLaying_60 rfl (by decide) ?_
      refine x_goto 28 dX10_startsLaying_63 (by decide) ?_
      exact ih
  exact loop 0 (Nat.zero_le _) _ (fun i hi => absurd hi (by omega))
/-- the worth of laying place k at mask j; with toTheEnd: of boxes -/
def pvL (lef G : Nat → Int32) (e : Bool) (j k : Nat) : Int32 :=
  if e then (if decide (lef (j ||| 2 ^ k) - lef j ≤ 0) then -G (j ||| 2 ^ k) else lef (j ||| 2 ^ k) - lef j + G (j ||| 2 ^ k))
  else (if decide (lef (j ||| 2 ^ k) ≤ lef j) then -G (j ||| 2 ^ k) else 1)
theorem c_m_playedBy {Z : List (Option Nat)} {ext : List Ds} {M : Mm} {j k m : Nat} (e : Bool) (hj : j < 2 ^ m) (hk : k < m) (hm : m ≤ 12) : Ct mX10_playedBy [.ref 48, .int (nI j), .int (nI k), .int (b2i e)] (SS Z ext) M (Rt (some (.int (pvL (M 67) (M 66) e j k))) M) := by
  have hlt := or_lt hj hk
  have hp12 := pow12 hm
  have hla : Ct mX10_laidBy [.ref 48, .int (nI j), .int (nI k)] (SS Z ext) M (Rt (some (.int (pvL (M 67) (M 66) false j k))) M) := by
    refine Ct.of (by decide) (Nat.le_of_ble_eq_true rfl) ?_
    refine x_iload_n dX10_laidBy_0 rfl ?_
    refine x_iconst (v := 1) dX10_laidBy_1 (by decide) ?_
    refine x_iload_n dX10_laidBy_2 rfl ?_
    refine x_ishl dX10_laidBy_3 ?_
    refine x_ior dX10_laidBy_4 ?_
    rw [tb_or (by omega)]
    refine x_istore_n dX10_laidBy_5 (by decide) ?_
    refine x_aload_n dX10_laidBy_6 rfl ?_
    refine x_getr fl_X10_65 dX10_laidBy_7 sf_48 rfl ?_
    refine x_iload_n dX10_laidBy_10 rfl ?_
    refine x_iald dX10_laidBy_11 sf_67 rfl (by omega) (by decide) ?_
    refine x_aload_n dX10_laidBy_12 rfl ?_
    refine x_getr fl_X10_65 dX10_laidBy_13 sf_48 rfl ?_
    refine x_iload_n dX10_laidBy_16 rfl ?_
    refine x_iald dX10_laidBy_17 sf_67 rfl (by omega) (by decide) ?_
    refine x_icmp_le 25 dX10_laidBy_18 (by decide) (fun h18 => ?_) (fun h18 => ?_)
    · refine x_aload_n dX10_laidBy_25 rfl ?_
      refine x_getr fl_X10_62 dX10_laidBy_26 sf_48 rfl ?_
      refine x_iload_n dX10_laidBy_29 rfl ?_
      refine x_iald dX10_laidBy_30 sf_66 rfl (by omega) (by decide) ?_
      refine x_ineg dX10_laidBy_31 ?_
      exact x_iret dX10_laidBy_32 rfl rfl (Nat.le_refl _) (Nat.le_refl _) ⟨rfl, ⟨oi (by first | (rw [pvL, decide_eq_true h18]; rfl) | (rw [pvL, decide_eq_false h18]; rfl)), rfl⟩⟩
    · refine x_iconst (v := 1) dX10_laidBy_21 (by decide) ?_
      refine x_goto 32 dX10_laidBy_22 (by decide) ?_
      exact x_iret dX10_laidBy_32 rfl rfl (Nat.le_refl _) (Nat.le_refl _) ⟨rfl, ⟨oi (by first | (rw [pvL, decide_eq_true h18]; rfl) | (rw [pvL, decide_eq_false h18]; rfl)), rfl⟩⟩
  have hbo : Ct mX10_boxedBy [.ref 48, .int (nI j), .int (nI k)] (SS Z ext) M (Rt (some (.int (pvL (M 67) (M 66) true j k))) M) := by
    refine Ct.of (by decide) (Nat.le_of_ble_eq_true rfl) ?_
    refine x_iload_n dX10_boxedBy_0 rfl ?_
    refine x_iconst (v := 1) dX10_boxedBy_1 (by decide) ?_
    refine x_iload_n dX10_boxedBy_2 rfl ?_
    refine x_ishl dX10_boxedBy_3 ?_
    refine x_ior dX10_boxedBy_4 ?_
    rw [tb_or (by omega)]
    refine x_istore_n dX10_boxedBy_5 (by decide) ?_
    refine x_aload_n dX10_boxedBy_6 rfl ?_
    refine x_getr fl_X10_65 dX10_boxedBy_7 sf_48 rfl ?_
    refine x_iload_n dX10_boxedBy_10 rfl ?_
    refine x_iald dX10_boxedBy_11 sf_67 rfl (by omega) (by decide) ?_
    refine x_aload_n dX10_boxedBy_12 rfl ?_
    refine x_getr fl_X10_65 dX10_boxedBy_13 sf_48 rfl ?_
    refine x_iload_n dX10_boxedBy_16 rfl ?_
    refine x_iald dX10_boxedBy_17 sf_67 rfl (by omega) (by decide) ?_
    refine x_isub dX10_boxedBy_18 ?_
    refine x_istore dX10_boxedBy_19 (by decide) ?_
    refine x_iload dX10_boxedBy_21 rfl ?_
    refine x_if_le 38 dX10_boxedBy_23 (by decide) (fun h23 => ?_) (fun h23 => ?_)
    · refine x_aload_n dX10_boxedBy_38 rfl ?_
      refine x_getr fl_X10_62 dX10_boxedBy_39 sf_48 rfl ?_
      refine x_iload_n dX10_boxedBy_42 rfl ?_
      refine x_iald dX10_boxedBy_43 sf_66 rfl (by omega) (by decide) ?_
      refine x_ineg dX10_boxedBy_44 ?_
      exact x_iret dX10_boxedBy_45 rfl rfl (Nat.le_refl _) (Nat.le_refl _) ⟨rfl, ⟨oi (by first | (rw [pvL, decide_eq_true h23]; rfl) | (rw [pvL, decide_eq_false h23]; rfl)), rfl⟩⟩
    · refine x_iload dX10_boxedBy_26 rfl ?_
      refine x_aload_n dX10_boxedBy_28 rfl ?_
      refine x_getr fl_X10_62 dX10_boxedBy_29 sf_48 rfl ?_
      refine x_iload_n dX10_boxedBy_32 rfl ?_
      refine x_iald dX10_boxedBy_33 sf_66 rfl (by omega) (by decide) ?_
      refine x_iadd dX10_boxedBy_34 ?_
      refine x_goto 45 dX10_boxedBy_35 (by decide) ?_
      exact x_iret dX10_boxedBy_45 rfl rfl (Nat.le_refl _) (Nat.le_refl _) ⟨rfl, ⟨oi (by first | (rw [pvL, decide_eq_true h23]; rfl) | (rw [pvL, decide_eq_false h23]; rfl)), rfl⟩⟩
  refine Ct.of (by decide) (Nat.le_of_ble_eq_true rfl) ?_
  cases e with
  | true =>
    refine x_iload_n dX10_playedBy_0 rfl ?_
    refine x_if_eq 13 dX10_playedBy_1 (by decide) (fun hc_ => absurd hc_ (by decide)) (fun _ => ?_)
    refine x_aload_n dX10_playedBy_4 rfl ?_
    refine x_iload_n dX10_playedBy_5 rfl ?_
    refine x_iload_n dX10_playedBy_6 rfl ?_
    refine x_cvd mf_X10_boxedBy ml_X10_311 dX10_playedBy_7 rfl sf_48 rfl ⟨by decide, by decide⟩ (Nat.le_of_ble_eq_true rfl) ⟨rfl, rfl⟩ ⟨Nat.le_of_ble_eq_true rfl, Nat.le_of_ble_eq_true rfl⟩ (hbo) ?_
    refine x_goto 19 dX10_playedBy_10 (by decide) ?_
    exact x_iret dX10_playedBy_19 rfl rfl (Nat.le_refl _) (Nat.le_refl _) ⟨rfl, ⟨rfl, rfl⟩⟩
  | false =>
    refine x_iload_n dX10_playedBy_0 rfl ?_
    refine x_if_eq 13 dX10_playedBy_1 (by decide) (fun _ => ?_) (fun hc_ => absurd (rfl) hc_)
    refine x_aload_n dX10_playedBy_13 rfl ?_
    refine x_iload_n dX10_playedBy_14 rfl ?_
    refine x_iload_n dX10_playedBy_15 rfl ?_
    refine x_cvd mf_X10_laidBy ml_X10_314 dX10_playedBy_16 rfl sf_48 rfl ⟨by decide, by decide⟩ (Nat.le_of_ble_eq_true rfl) ⟨rfl, rfl⟩ ⟨Nat.le_of_ble_eq_true rfl, Nat.le_of_ble_eq_true rfl⟩ (hla) ?_
    exact x_iret dX10_playedBy_19 rfl rfl (Nat.le_refl _) (Nat.le_refl _) ⟨rfl, ⟨rfl, rfl⟩⟩
/-- the best of the first n places that are without -/
def bstL (lef G : Nat → Int32) (e : Bool) (j : Nat) (n : Nat) : Int32 := fld (fun k b => if j.testBit k then b else if decide (pvL lef G e j k ≤ b) then b else pvL lef G e j k) n (-1000000)
def okG (lef : Nat → Int32) (m : Nat) (e : Bool) (G : Nat → Int32) : Prop := G (2 ^ m - 1) = 0 ∧ ∀ j, j < 2 ^ m - 1 → G j = bstL lef G e j m
theorem bstL_s (lef G : Nat → Int32) (e : Bool) (j n : Nat) : bstL lef G e j (n + 1) = if j.testBit n then bstL lef G e j n else if decide (pvL lef G e j n ≤ bstL lef G e j n) then bstL lef G e j n else pvL lef G e j n := rfl
theorem fg_inner {Z : List (Option Nat)} {ext : List Ds} {M0 : Mm} {F : Fn} {m j : Nat} {e : Bool} {all : Int32} {l6 : Option Value} {lef G : Nat → Int32} (hm : m ≤ 12) (hj : j < 2 ^ m) (h35 : M0 48 35 = nI m) (r67 r66 : Nat → Int32) (h67 : ∀ i, i < 2 ^ m → r67 i = lef i) (h66 : ∀ i, j < i → i < 2 ^ m → r66 i = G i)
    (fin : ∀ l6, XW mX10_findGame F 0 0 (SS Z ext) (taM M0 r67 r66) 32 [some (.ref 48), some (.int (b2i e)), some (.int all), some (.int (nI j)), some (.int (bstL lef G e j m)), some (.int (nI m)), l6] []) :
    XW mX10_findGame F 0 0 (SS Z ext) (taM M0 r67 r66) 32 [some (.ref 48), some (.int (b2i e)), some (.int all), some (.int (nI j)), some (.int (bstL lef G e j 0)), some (.int (nI 0)), l6] [] := by
  have hp12 := pow12 hm
  refine lup (P := fun k => ∀ l6, XW mX10_findGame F 0 0 (SS Z ext) (taM M0 r67 r66) 32 [some (.ref 48), some (.int (b2i e)), some (.int all), some (.int (nI j)), some (.int (bstL lef G e j k)), some (.int (nI k)), l6] []) (N := m) fin ?_ 0 (by omega) l6
  intro k hk ih l6
  rw [bstL_s _ _ _ _ k, nI_succ] at ih
  cases hbit : j.testBit k with
  | true =>
    rw [hbit] at ih
    refine x_iload dX10_findGame_32 rfl ?_
    refine x_aload_n dX10_findGame_34 rfl ?_
    refine x_geti fl_X10_267 dX10_findGame_35 sf_48 rfl ?_
    refine x_icmp_ge 82 dX10_findGame_38 (by decide) (fun hc_ => absurd hc_ (by show ¬ M0 48 35 ≤ nI k; rw [h35]; exact nI_ge hk (by omega))) (fun _ => ?_)
    refine x_iload_n dX10_findGame_41 rfl ?_
    refine x_iload dX10_findGame_42 rfl ?_
    refine x_ishr dX10_findGame_44 ?_
    refine x_iconst (v := 1) dX10_findGame_45 (by decide) ?_
    refine x_iand dX10_findGame_46 ?_
    refine x_if_ne 76 dX10_findGame_47 (by decide) (fun _ => ?_) (fun hc_ => absurd hc_ (by rw [tb_bit (by omega) (by omega), hbit]; decide))
    refine x_iinc1 dX10_findGame_76 rfl (by decide) ?_
    refine x_goto 32 dX10_findGame_79 (by decide) ?_
    exact ih _
  | false =>
    rw [hbit] at ih
    have hgt := or_gt hbit
    have hlt := or_lt hj hk
    have hpv : pvL ((taM M0 r67 r66) 67) ((taM M0 r67 r66) 66) e j k = pvL lef G e j k := by
      show pvL r67 r66 e j k = _
      unfold pvL
      rw [h67 _ hlt, h67 _ hj, h66 _ hgt hlt]
    have hc := c_m_playedBy (Z := Z) (ext := ext) (M := taM M0 r67 r66) e hj hk hm
    rw [hpv] at hc
    refine x_iload dX10_findGame_32 rfl ?_
    refine x_aload_n dX10_findGame_34 rfl ?_
    refine x_geti fl_X10_267 dX10_findGame_35 sf_48 rfl ?_
    refine x_icmp_ge 82 dX10_findGame_38 (by decide) (fun hc_ => absurd hc_ (by show ¬ M0 48 35 ≤ nI k; rw [h35]; exact nI_ge hk (by omega))) (fun _ => ?_)
    refine x_iload_n dX10_findGame_41 rfl ?_
    refine x_iload dX10_findGame_42 rfl ?_
    refine x_ishr dX10_findGame_44 ?_
    refine x_iconst (v := 1) dX10_findGame_45 (by decide) ?_
    refine x_iand dX10_findGame_46 ?_
    refine x_if_ne 76 dX10_findGame_47 (by decide) (fun hc_ => absurd (by rw [tb_bit (by omega) (by omega), hbit]; rfl) hc_) (fun _ => ?_)
    refine x_aload_n dX10_findGame_50 rfl ?_
    refine x_iload_n dX10_findGame_51 rfl ?_
    refine x_iload dX10_findGame_52 rfl ?_
    refine x_iload_n dX10_findGame_54 rfl ?_
    refine x_cvd mf_X10_playedBy ml_X10_318 dX10_findGame_55 rfl sf_48 rfl ⟨by decide, by decide⟩ (Nat.le_of_ble_eq_true rfl) ⟨rfl, rfl⟩ ⟨Nat.le_of_ble_eq_true rfl, Nat.le_of_ble_eq_true rfl⟩ (hc) ?_
    refine x_istore dX10_findGame_58 (by decide) ?_
    refine x_iload dX10_findGame_60 rfl ?_
    refine x_iload dX10_findGame_62 rfl ?_
    refine x_icmp_le 72 dX10_findGame_64 (by decide) (fun h64 => ?_) (fun h64 => ?_)
    · refine x_iload dX10_findGame_72 rfl ?_
      refine x_istore dX10_findGame_74 (by decide) ?_
      refine x_iinc1 dX10_findGame_76 rfl (by decide) ?_
      refine x_goto 32 dX10_findGame_79 (by decide) ?_
      first | (rw [decide_eq_true h64] at ih; exact ih _) | (rw [decide_eq_false h64] at ih; exact ih _)
    · refine x_iload dX10_findGame_67 rfl ?_
      refine x_goto 74 dX10_findGame_69 (by decide) ?_
      refine x_istore dX10_findGame_74 (by decide) ?_
      refine x_iinc1 dX10_findGame_76 rfl (by decide) ?_
      refine x_goto 32 dX10_findGame_79 (by decide) ?_
      first | (rw [decide_eq_true h64] at ih; exact ih _) | (rw [decide_eq_false h64] at ih; exact ih _)
theorem c_m_findGame {Z : List (Option Nat)} {ext : List Ds} {M0 : Mm} {m : Nat} {lef G : Nat → Int32} (e : Bool) (hm : m ≤ 12) (h0 : 0 < m) (h35 : M0 48 35 = nI m) (r67 : Nat → Int32) (h67 : ∀ i, i < 2 ^ m → r67 i = lef i) (hG : okG lef m e G) :
    Ct mX10_findGame [.ref 48, .int (b2i e)] (SS Z ext) (upr M0 67 r67) (fun r M' => r = none ∧ ∃ r66, M' = taM M0 r67 r66 ∧ ∀ i, i < 2 ^ m → r66 i = G i) := by
  have hp12 := pow12 hm
  have hp1 : 1 < 2 ^ m := Nat.one_lt_two_pow (by omega)
  refine Ct.of (by decide) (Nat.le_of_ble_eq_true rfl) ?_
  have loop : ∀ k', k' ≤ 2 ^ m - 1 → ∀ (r66 : Nat → Int32) (l4 l5 l6 : Option Value), (∀ i, k' ≤ i → i < 2 ^ m → r66 i = G i) → XW mX10_findGame (Fc mX10_findGame (fun r S' M' => S' = SS Z ext ∧ r = none ∧ ∃ r66, M' = taM M0 r67 r66 ∧ ∀ i, i < 2 ^ m → r66 i = G i)) 0 0 (SS Z ext) (taM M0 r67 r66) 20 [some (.ref 48), some (.int (b2i e)), some (.int (nI (2 ^ m - 1))), some (.int (nI k' - 1)), l4, l5, l6] [] := by
    intro k'
    induction k' with
    | zero =>
      intro _ r66 l4 l5 l6 hr
      refine x_iload_n dX10_findGame_20 rfl ?_
      refine x_if_lt 96 dX10_findGame_21 (by decide) (fun _ => ?_) (fun hc_ => absurd (by decide) hc_)
      exact x_ret dX10_findGame_96 rfl (Nat.le_refl _) (Nat.le_refl _) ⟨rfl, ⟨rfl, r66, rfl, fun i hi => hr i (by omega) hi⟩⟩
    | succ k ih =>
      intro hk r66 l4 l5 l6 hr
      have hGk := hG.2 k (by omega)
      rw [nI_pred]
      have fin2 : ∀ l6, XW mX10_findGame (Fc mX10_findGame (fun r S' M' => S' = SS Z ext ∧ r = none ∧ ∃ r66, M' = taM M0 r67 r66 ∧ ∀ i, i < 2 ^ m → r66 i = G i)) 0 0 (SS Z ext) (taM M0 r67 r66) 32 [some (.ref 48), some (.int (b2i e)), some (.int (nI (2 ^ m - 1))), some (.int (nI k)), some (.int (bstL lef G e k m)), some (.int (nI m)), l6] [] := by
        intro l6
        have ih := ih (by omega) (upd r66 k (bstL lef G e k m)) (some (.int (bstL lef G e k m))) (some (.int (nI m))) l6 (by
          intro i h1 h2
          by_cases h3 : i = k
          · subst h3; rw [pk_us, hGk]
          · rw [pk_un h3]; exact hr i (by omega) h2)
        rw [← nI_m, ← taM_66] at ih
        refine x_iload dX10_findGame_32 rfl ?_
        refine x_aload_n dX10_findGame_34 rfl ?_
        refine x_geti fl_X10_267 dX10_findGame_35 sf_48 rfl ?_
        refine x_icmp_ge 82 dX10_findGame_38 (by decide) (fun _ => ?_) (fun hc_ => absurd (by show M0 48 35 ≤ nI m; rw [h35]; exact nI_le (Nat.le_refl _) (by omega)) hc_)
        refine x_aload_n dX10_findGame_82 rfl ?_
        refine x_getr fl_X10_62 dX10_findGame_83 sf_48 rfl ?_
        refine x_iload_n dX10_findGame_86 rfl ?_
        refine x_iload dX10_findGame_87 rfl ?_
        refine x_iast dX10_findGame_89 sf_66 rfl (by omega) (by decide) ?_
        refine x_iincm dX10_findGame_90 rfl (by decide) ?_
        refine x_goto 20 dX10_findGame_93 (by decide) ?_
        exact ih
      refine x_iload_n dX10_findGame_20 rfl ?_
      refine x_if_lt 96 dX10_findGame_21 (by decide) (fun hc_ => absurd hc_ (nI_pos (by omega))) (fun _ => ?_)
      refine x_ldcw dX10_findGame_24 kc_X10_317 ?_
      refine x_istore dX10_findGame_27 (by decide) ?_
      refine x_iconst (v := 0) dX10_findGame_29 (by decide) ?_
      refine x_istore dX10_findGame_30 (by decide) ?_
      exact fg_inner hm (by omega) h35 r67 r66 h67 (fun i h1 h2 => hr i (by omega) h2) fin2
  have ha : nI (2 ^ m) - 1 = nI (2 ^ m - 1) := by
    obtain ⟨q, hq⟩ : ∃ q, 2 ^ m = q + 1 := ⟨2 ^ m - 1, by omega⟩
    rw [hq, nI_pred]; rfl
  have h := loop (2 ^ m - 1) (Nat.le_refl _) (upd (M0 66) (2 ^ m - 1) 0) none none none (by
    intro i h1 h2
    rw [show i = 2 ^ m - 1 by omega, pk_us, hG.1])
  have e1 : taM M0 r67 (upd (M0 66) (2 ^ m - 1) 0) = up2 (upr M0 67 r67) 66 (2 ^ m - 1) 0 := by
    rw [taM, up2_upr]
    rfl
  rw [e1] at h
  refine x_iconst (v := 1) dX10_findGame_0 (by decide) ?_
  refine x_aload_n dX10_findGame_1 rfl ?_
  refine x_geti fl_X10_267 dX10_findGame_2 sf_48 rfl ?_
  refine x_ishl dX10_findGame_5 ?_
  refine x_iconst (v := 1) dX10_findGame_6 (by decide) ?_
  refine x_isub dX10_findGame_7 ?_
  rw [show (upr M0 67 r67) 48 35 = nI m from h35, tb_all (by omega), ha]
  refine x_istore_n dX10_findGame_8 (by decide) ?_
  refine x_aload_n dX10_findGame_9 rfl ?_
  refine x_getr fl_X10_62 dX10_findGame_10 sf_48 rfl ?_
  refine x_iload_n dX10_findGame_13 rfl ?_
  refine x_iconst (v := 0) dX10_findGame_14 (by decide) ?_
  refine x_iast dX10_findGame_15 sf_66 rfl (by omega) (by decide) ?_
  refine x_iload_n dX10_findGame_16 rfl ?_
  refine x_iconst (v := 1) dX10_findGame_17 (by decide) ?_
  refine x_isub dX10_findGame_18 ?_
  refine x_istore_n dX10_findGame_19 (by decide) ?_
  exact h
