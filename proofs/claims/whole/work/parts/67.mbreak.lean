/-! ===== the reference: firstWhole, takesSet, enters ===== -/
def fwP (C : Int32) (sz rm : Nat → Int32) (L x : Int32) (q : Nat) : Bool := cntq C sz q && inq rm (L &&& (x ^^^ (-1))) q
def fwq (C : Int32) (sz rm : Nat → Int32) (sq : Nat) (L x : Int32) : Nat := fa_first (fwP C sz rm L x) sq
def fwV (C : Int32) (sz rm : Nat → Int32) (sq : Nat) (L x : Int32) : Int32 := if fwq C sz rm sq L x < sq then nI (fwq C sz rm sq L x) else -4
theorem c_m_firstWhole {Z : List (Option Nat)} {ext : List Ds} {M : Mm} {sq : Nat} (x : Int32) (hq : M 48 5 = nI sq) (hb : sq ≤ 20) : Ct mX10_firstWhole [.ref 48, .int x] (SS Z ext) M (Rt (some (.int (fwV (M 49 32) (M 51) (M 54) sq (M 49 0) x))) M) := by
  have hle : fwq (M 49 32) (M 51) (M 54) sq (M 49 0) x ≤ sq := fa_first_le _ _
  refine Ct.of (by decide) (Nat.le_of_ble_eq_true rfl) ?_
  refine x_iconst (v := 0) dX10_firstWhole_0 (by decide) ?_
  refine x_istore_n dX10_firstWhole_1 (by decide) ?_
  refine lup (P := fun k => XW _ _ 0 0 (SS Z ext) M 2 [some (.ref 48), some (.int x), some (.int (nI k))] []) (N := fwq (M 49 32) (M 51) (M 54) sq (M 49 0) x) ?_ ?_ 0 (by omega)
  · by_cases hlt : fwq (M 49 32) (M 51) (M 54) sq (M 49 0) x < sq
    · have hy := fa_first_yes _ _ hlt
      rw [show fa_first (fwP (M 49 32) (M 51) (M 54) (M 49 0) x) sq = fwq (M 49 32) (M 51) (M 54) sq (M 49 0) x from rfl, fwP, Bool.and_eq_true] at hy
      rw [fwV, if_pos hlt]
      generalize fwq (M 49 32) (M 51) (M 54) sq (M 49 0) x = f at *
      refine x_iload_n dX10_firstWhole_2 rfl ?_
      refine x_aload_n dX10_firstWhole_3 rfl ?_
      refine x_geti fl_X10_116 dX10_firstWhole_4 sf_48 rfl ?_
      refine x_icmp_ge 48 dX10_firstWhole_7 (by decide) (fun hc_ => absurd hc_ (by rw [hq]; exact nI_ge hlt (by omega))) (fun _ => ?_)
      refine x_aload_n dX10_firstWhole_10 rfl ?_
      refine x_iload_n dX10_firstWhole_11 rfl ?_
      refine x_cvd mf_X10_doesCount ml_X10_205 dX10_firstWhole_12 rfl sf_48 rfl ⟨by decide, by decide⟩ (Nat.le_of_ble_eq_true rfl) ⟨rfl, rfl⟩ ⟨Nat.le_of_ble_eq_true rfl, Nat.le_of_ble_eq_true rfl⟩ (c_m_doesCount f (by omega)) ?_
      refine x_ifb_eq 42 dX10_firstWhole_15 (by decide) (fun hc_ => absurd (hc_.symm.trans (hy.1)) Bool.false_ne_true) (fun _ => ?_)
      refine x_aload_n dX10_firstWhole_18 rfl ?_
      refine x_getr fl_X10_26 dX10_firstWhole_19 sf_48 rfl ?_
      refine x_iload_n dX10_firstWhole_22 rfl ?_
      refine x_iald dX10_firstWhole_23 sf_54 rfl (by omega) (by decide) ?_
      refine x_aload_n dX10_firstWhole_24 rfl ?_
      refine x_getr fl_X10_7 dX10_firstWhole_25 sf_48 rfl ?_
      refine x_iconst (v := 0) dX10_firstWhole_28 (by decide) ?_
      refine x_iald (q := 0) dX10_firstWhole_29 sf_49 (by decide) (by decide) (by decide) ?_
      refine x_iload_n dX10_firstWhole_30 rfl ?_
      refine x_iconst (v := -1) dX10_firstWhole_31 (by decide) ?_
      refine x_ixor dX10_firstWhole_32 ?_
      refine x_iand dX10_firstWhole_33 ?_
      refine x_iconst (v := -1) dX10_firstWhole_34 (by decide) ?_
      refine x_ixor dX10_firstWhole_35 ?_
      refine x_iand dX10_firstWhole_36 ?_
      refine x_if_ne 42 dX10_firstWhole_37 (by decide) (fun hc_ => absurd (of_decide_eq_true hy.2) hc_) (fun _ => ?_)
      refine x_iload_n dX10_firstWhole_40 rfl ?_
      exact x_iret dX10_firstWhole_41 rfl rfl (Nat.le_refl _) (Nat.le_refl _) ⟨rfl, ⟨rfl, rfl⟩⟩
    · rw [fwV, if_neg hlt]
      generalize fwq (M 49 32) (M 51) (M 54) sq (M 49 0) x = f at *
      refine x_iload_n dX10_firstWhole_2 rfl ?_
      refine x_aload_n dX10_firstWhole_3 rfl ?_
      refine x_geti fl_X10_116 dX10_firstWhole_4 sf_48 rfl ?_
      refine x_icmp_ge 48 dX10_firstWhole_7 (by decide) (fun _ => ?_) (fun hc_ => absurd (by rw [hq]; exact nI_le (by omega) (by omega)) hc_)
      refine x_bipush (v := -4) dX10_firstWhole_48 (by decide) ?_
      exact x_iret dX10_firstWhole_50 rfl rfl (Nat.le_refl _) (Nat.le_refl _) ⟨rfl, ⟨rfl, rfl⟩⟩
  · intro k hk ih
    have hy := fa_first_no _ _ _ hk
    rw [fwP] at hy
    rw [nI_succ] at ih
    cases hc : cntq (M 49 32) (M 51) k with
    | false =>
      refine x_iload_n dX10_firstWhole_2 rfl ?_
      refine x_aload_n dX10_firstWhole_3 rfl ?_
      refine x_geti fl_X10_116 dX10_firstWhole_4 sf_48 rfl ?_
      refine x_icmp_ge 48 dX10_firstWhole_7 (by decide) (fun hc_ => absurd hc_ (by rw [hq]; exact nI_ge (by omega) (by omega))) (fun _ => ?_)
      refine x_aload_n dX10_firstWhole_10 rfl ?_
      refine x_iload_n dX10_firstWhole_11 rfl ?_
      refine x_cvd mf_X10_doesCount ml_X10_205 dX10_firstWhole_12 rfl sf_48 rfl ⟨by decide, by decide⟩ (Nat.le_of_ble_eq_true rfl) ⟨rfl, rfl⟩ ⟨Nat.le_of_ble_eq_true rfl, Nat.le_of_ble_eq_true rfl⟩ (c_m_doesCount k (by omega)) ?_
      refine x_ifb_eq 42 dX10_firstWhole_15 (by decide) (fun _ => ?_) (fun hc_ => absurd ((hc).symm.trans hc_) Bool.false_ne_true)
      refine x_iinc1 dX10_firstWhole_42 rfl (by decide) ?_
      refine x_goto 2 dX10_firstWhole_45 (by decide) ?_
      exact ih
    | true =>
      rw [hc, Bool.true_and] at hy
      refine x_iload_n dX10_firstWhole_2 rfl ?_
      refine x_aload_n dX10_firstWhole_3 rfl ?_
      refine x_geti fl_X10_116 dX10_firstWhole_4 sf_48 rfl ?_
      refine x_icmp_ge 48 dX10_firstWhole_7 (by decide) (fun hc_ => absurd hc_ (by rw [hq]; exact nI_ge (by omega) (by omega))) (fun _ => ?_)
      refine x_aload_n dX10_firstWhole_10 rfl ?_
      refine x_iload_n dX10_firstWhole_11 rfl ?_
      refine x_cvd mf_X10_doesCount ml_X10_205 dX10_firstWhole_12 rfl sf_48 rfl ⟨by decide, by decide⟩ (Nat.le_of_ble_eq_true rfl) ⟨rfl, rfl⟩ ⟨Nat.le_of_ble_eq_true rfl, Nat.le_of_ble_eq_true rfl⟩ (c_m_doesCount k (by omega)) ?_
      refine x_ifb_eq 42 dX10_firstWhole_15 (by decide) (fun hc_ => absurd (hc_.symm.trans (hc)) Bool.false_ne_true) (fun _ => ?_)
      refine x_aload_n dX10_firstWhole_18 rfl ?_
      refine x_getr fl_X10_26 dX10_firstWhole_19 sf_48 rfl ?_
      refine x_iload_n dX10_firstWhole_22 rfl ?_
      refine x_iald dX10_firstWhole_23 sf_54 rfl (by omega) (by decide) ?_
      refine x_aload_n dX10_firstWhole_24 rfl ?_
      refine x_getr fl_X10_7 dX10_firstWhole_25 sf_48 rfl ?_
      refine x_iconst (v := 0) dX10_firstWhole_28 (by decide) ?_
      refine x_iald (q := 0) dX10_firstWhole_29 sf_49 (by decide) (by decide) (by decide) ?_
      refine x_iload_n dX10_firstWhole_30 rfl ?_
      refine x_iconst (v := -1) dX10_firstWhole_31 (by decide) ?_
      refine x_ixor dX10_firstWhole_32 ?_
      refine x_iand dX10_firstWhole_33 ?_
      refine x_iconst (v := -1) dX10_firstWhole_34 (by decide) ?_
      refine x_ixor dX10_firstWhole_35 ?_
      refine x_iand dX10_firstWhole_36 ?_
      refine x_if_ne 42 dX10_firstWhole_37 (by decide) (fun _ => ?_) (fun hc_ => absurd hc_ (of_decide_eq_false hy))
      refine x_iinc1 dX10_firstWhole_42 rfl (by decide) ?_
      refine x_goto 2 dX10_firstWhole_45 (by decide) ?_
      exact ih
abbrev Tk : Type := Int32 × Int32 × Int32
def t3 (f : Nat → Int32) (k : Tk) : Nat → Int32 := upd (upd (upd f 31 k.1) 32 k.2.1) 33 k.2.2
/-- the search's memory: what was found, and the five rows of the way down -/
def dM (M : Mm) (k : Tk) (p t c b s : Nat → Int32) : Mm := upr (upr (upr (upr (upr (upr M 48 (t3 (M 48) k)) 58 p) 59 t) 60 c) 61 b) 62 s
theorem dm_31 (M : Mm) (k : Tk) (p t c b s : Nat → Int32) (v : Int32) : up2 (dM M k p t c b s) 48 31 v = dM M (v, k.2.1, k.2.2) p t c b s := by
  have e : upd (t3 (M 48) k) 31 v = t3 (M 48) (v, k.2.1, k.2.2) := by
    funext k
    unfold t3 upd
    by_cases h2 : k = 33
    · simp [h2]
    · by_cases h1 : k = 32
      · simp [h1]
      · by_cases h0 : k = 31 <;> simp [h0, h1, h2]
  rw [dM, dM, up2_upr_ne _ _ _ (by decide), up2_upr_ne _ _ _ (by decide), up2_upr_ne _ _ _ (by decide), up2_upr_ne _ _ _ (by decide), up2_upr_ne _ _ _ (by decide), up2_upr2, e]
theorem dm_32 (M : Mm) (k : Tk) (p t c b s : Nat → Int32) (v : Int32) : up2 (dM M k p t c b s) 48 32 v = dM M (k.1, v, k.2.2) p t c b s := by
  have e : upd (t3 (M 48) k) 32 v = t3 (M 48) (k.1, v, k.2.2) := by
    funext k
    unfold t3 upd
    by_cases h2 : k = 33
    · simp [h2]
    · by_cases h1 : k = 32
      · simp [h1]
      · by_cases h0 : k = 31 <;> simp [h0, h1, h2]
  rw [dM, dM, up2_upr_ne _ _ _ (by decide), up2_upr_ne _ _ _ (by decide), up2_upr_ne _ _ _ (by decide), up2_upr_ne _ _ _ (by decide), up2_upr_ne _ _ _ (by decide), up2_upr2, e]
theorem dm_33 (M : Mm) (k : Tk) (p t c b s : Nat → Int32) (v : Int32) : up2 (dM M k p t c b s) 48 33 v = dM M (k.1, k.2.1, v) p t c b s := by
  have e : upd (t3 (M 48) k) 33 v = t3 (M 48) (k.1, k.2.1, v) := by
    funext k
    unfold t3 upd
    by_cases h2 : k = 33
    · simp [h2]
    · by_cases h1 : k = 32
      · simp [h1]
      · by_cases h0 : k = 31 <;> simp [h0, h1, h2]
  rw [dM, dM, up2_upr_ne _ _ _ (by decide), up2_upr_ne _ _ _ (by decide), up2_upr_ne _ _ _ (by decide), up2_upr_ne _ _ _ (by decide), up2_upr_ne _ _ _ (by decide), up2_upr2, e]
theorem dm_58 (M : Mm) (k : Tk) (p t c b s : Nat → Int32) (j : Nat) (v : Int32) : up2 (dM M k p t c b s) 58 j v = dM M k (upd p j v) t c b s := by
  rw [dM, dM, up2_upr_ne _ _ _ (by decide), up2_upr_ne _ _ _ (by decide), up2_upr_ne _ _ _ (by decide), up2_upr_ne _ _ _ (by decide), up2_upr2]
theorem dm_59 (M : Mm) (k : Tk) (p t c b s : Nat → Int32) (j : Nat) (v : Int32) : up2 (dM M k p t c b s) 59 j v = dM M k p (upd t j v) c b s := by
  rw [dM, dM, up2_upr_ne _ _ _ (by decide), up2_upr_ne _ _ _ (by decide), up2_upr_ne _ _ _ (by decide), up2_upr2]
theorem dm_60 (M : Mm) (k : Tk) (p t c b s : Nat → Int32) (j : Nat) (v : Int32) : up2 (dM M k p t c b s) 60 j v = dM M k p t (upd c j v) b s := by
  rw [dM, dM, up2_upr_ne _ _ _ (by decide), up2_upr_ne _ _ _ (by decide), up2_upr2]
theorem dm_61 (M : Mm) (k : Tk) (p t c b s : Nat → Int32) (j : Nat) (v : Int32) : up2 (dM M k p t c b s) 61 j v = dM M k p t c (upd b j v) s := by
  rw [dM, dM, up2_upr_ne _ _ _ (by decide), up2_upr2]
theorem dm_62 (M : Mm) (k : Tk) (p t c b s : Nat → Int32) (j : Nat) (v : Int32) : up2 (dM M k p t c b s) 62 j v = dM M k p t c b (upd s j v) := by
  rw [dM, dM, up2_upr2]
theorem dm_id (M : Mm) : dM M (M 48 31, M 48 32, M 48 33) (M 58) (M 59) (M 60) (M 61) (M 62) = M := by
  have e : t3 (M 48) (M 48 31, M 48 32, M 48 33) = M 48 := by
    funext k
    unfold t3 upd
    by_cases h2 : k = 33
    · simp [h2]
    · by_cases h1 : k = 32
      · simp [h1]
      · by_cases h0 : k = 31 <;> simp [h0, h1, h2]
  rw [dM, e, upr_self, upr_self, upr_self, upr_self, upr_self, upr_self]
theorem dm_eqm (M : Mm) (k : Tk) (p t c b s : Nat → Int32) : Eqm M (dM M k p t c b s) := by
  refine (((((Eqm.ur ?_ (fun _ => rfl)).ur (fun _ => rfl)).ur (fun _ => rfl)).ur (fun _ => rfl)).ur (fun _ => rfl))
  intro c' k' hs
  unfold upr
  by_cases hc : c' = 48
  · subst hc
    unfold t3 upd
    by_cases h2 : k' = 33
    · subst h2; cases hs
    · by_cases h1 : k' = 32
      · subst h1; cases hs
      · by_cases h0 : k' = 31
        · subst h0; cases hs
        · simp [h0, h1, h2]
  · simp [hc]
def tkS (k : Tk) (s c : Int32) : Tk := (if decide (c < k.1) then c else k.1, if decide (c < k.1) || (decide (c = k.1) && decide (s < k.2.1)) then s else k.2.1, if decide (c < k.1) then 1 else k.2.2 + b2i (decide (c = k.1)))
theorem c_m_takesSet {Z : List (Option Nat)} {ext : List Ds} {M : Mm} {p t c b s : Nat → Int32} (k : Tk) (x y : Int32) : Ct mX10_takesSet [.ref 48, .int x, .int y] (SS Z ext) (dM M k p t c b s) (Rt none (dM M (tkS k x y) p t c b s)) := by
  refine Ct.of (by decide) (Nat.le_of_ble_eq_true rfl) ?_
  by_cases hl : y < k.1
  · rw [tkS, decide_eq_true hl]
    refine x_iload_n dX10_takesSet_0 rfl ?_
    refine x_aload_n dX10_takesSet_1 rfl ?_
    refine x_geti fl_X10_229 dX10_takesSet_2 sf_48 rfl ?_
    refine x_icmp_ge 12 dX10_takesSet_5 (by decide) (fun hc_ => absurd hc_ (show ¬ k.1 ≤ y from fun q => absurd hl (by rw [fa_lt]; rw [fa_le] at q; omega))) (fun _ => ?_)
    refine x_iconst (v := 1) dX10_takesSet_8 (by decide) ?_
    refine x_goto 13 dX10_takesSet_9 (by decide) ?_
    refine x_istore_n dX10_takesSet_13 (by decide) ?_
    refine x_aload_n dX10_takesSet_14 rfl ?_
    refine x_iload_n dX10_takesSet_15 rfl ?_
    refine x_if_eq 23 dX10_takesSet_16 (by decide) (fun hc_ => absurd hc_ (by decide)) (fun _ => ?_)
    refine x_iconst (v := 1) dX10_takesSet_19 (by decide) ?_
    refine x_goto 44 dX10_takesSet_20 (by decide) ?_
    refine x_put fl_X10_232 dX10_takesSet_44 sf_48 rfl rfl rfl ?_
    refine x_aload_n dX10_takesSet_47 rfl ?_
    refine x_iload_n dX10_takesSet_48 rfl ?_
    refine x_if_ne 68 dX10_takesSet_49 (by decide) (fun _ => ?_) (fun hc_ => absurd hc_ (by decide))
    refine x_iload_n dX10_takesSet_68 rfl ?_
    refine x_goto 76 dX10_takesSet_69 (by decide) ?_
    refine x_put fl_X10_235 dX10_takesSet_76 sf_48 rfl rfl rfl ?_
    refine x_aload_n dX10_takesSet_79 rfl ?_
    refine x_iload_n dX10_takesSet_80 rfl ?_
    refine x_if_eq 88 dX10_takesSet_81 (by decide) (fun hc_ => absurd hc_ (by decide)) (fun _ => ?_)
    refine x_iload_n dX10_takesSet_84 rfl ?_
    refine x_goto 92 dX10_takesSet_85 (by decide) ?_
    refine x_put fl_X10_229 dX10_takesSet_92 sf_48 rfl rfl rfl ?_
    exact x_ret dX10_takesSet_95 rfl (Nat.le_refl _) (Nat.le_refl _) ⟨rfl, ⟨rfl, by rw [dm_33, dm_32, dm_31]; rfl⟩⟩
  · rw [tkS, decide_eq_false hl]
    have hl2 : k.1 ≤ y := fa_of_nlt hl
    by_cases he : y = k.1
    · rw [decide_eq_true he]
      by_cases hs : x < k.2.1
      · rw [decide_eq_true hs]
        refine x_iload_n dX10_takesSet_0 rfl ?_
        refine x_aload_n dX10_takesSet_1 rfl ?_
        refine x_geti fl_X10_229 dX10_takesSet_2 sf_48 rfl ?_
        refine x_icmp_ge 12 dX10_takesSet_5 (by decide) (fun _ => ?_) (fun hc_ => absurd (hl2) hc_)
        refine x_iconst (v := 0) dX10_takesSet_12 (by decide) ?_
        refine x_istore_n dX10_takesSet_13 (by decide) ?_
        refine x_aload_n dX10_takesSet_14 rfl ?_
        refine x_iload_n dX10_takesSet_15 rfl ?_
        refine x_if_eq 23 dX10_takesSet_16 (by decide) (fun _ => ?_) (fun hc_ => absurd (rfl) hc_)
        refine x_aload_n dX10_takesSet_23 rfl ?_
        refine x_geti fl_X10_232 dX10_takesSet_24 sf_48 rfl ?_
        refine x_iload_n dX10_takesSet_27 rfl ?_
        refine x_aload_n dX10_takesSet_28 rfl ?_
        refine x_geti fl_X10_229 dX10_takesSet_29 sf_48 rfl ?_
        refine x_icmp_ne 39 dX10_takesSet_32 (by decide) (fun hc_ => absurd (he) hc_) (fun _ => ?_)
        refine x_iconst (v := 1) dX10_takesSet_35 (by decide) ?_
        refine x_goto 40 dX10_takesSet_36 (by decide) ?_
        refine x_csd mf_X10_flag ml_X10_209 dX10_takesSet_40 rfl ⟨by decide, by decide⟩ (Nat.le_of_ble_eq_true rfl) ⟨rfl, rfl⟩ ⟨Nat.le_of_ble_eq_true rfl, Nat.le_of_ble_eq_true rfl⟩ (c_m_flag true) ?_
        refine x_iadd dX10_takesSet_43 ?_
        refine x_put fl_X10_232 dX10_takesSet_44 sf_48 rfl rfl rfl ?_
        refine x_aload_n dX10_takesSet_47 rfl ?_
        refine x_iload_n dX10_takesSet_48 rfl ?_
        refine x_if_ne 68 dX10_takesSet_49 (by decide) (fun hc_ => absurd (rfl) hc_) (fun _ => ?_)
        refine x_iload_n dX10_takesSet_52 rfl ?_
        refine x_aload_n dX10_takesSet_53 rfl ?_
        refine x_geti fl_X10_229 dX10_takesSet_54 sf_48 rfl ?_
        refine x_icmp_ne 72 dX10_takesSet_57 (by decide) (fun hc_ => absurd (he) hc_) (fun _ => ?_)
        refine x_iload_n dX10_takesSet_60 rfl ?_
        refine x_aload_n dX10_takesSet_61 rfl ?_
        refine x_geti fl_X10_235 dX10_takesSet_62 sf_48 rfl ?_
        refine x_icmp_ge 72 dX10_takesSet_65 (by decide) (fun hc_ => absurd hc_ (show ¬ k.2.1 ≤ x from fun q => absurd hs (by rw [fa_lt]; rw [fa_le] at q; omega))) (fun _ => ?_)
        refine x_iload_n dX10_takesSet_68 rfl ?_
        refine x_goto 76 dX10_takesSet_69 (by decide) ?_
        refine x_put fl_X10_235 dX10_takesSet_76 sf_48 rfl rfl rfl ?_
        refine x_aload_n dX10_takesSet_79 rfl ?_
        refine x_iload_n dX10_takesSet_80 rfl ?_
        refine x_if_eq 88 dX10_takesSet_81 (by decide) (fun _ => ?_) (fun hc_ => absurd (rfl) hc_)
        refine x_aload_n dX10_takesSet_88 rfl ?_
        refine x_geti fl_X10_229 dX10_takesSet_89 sf_48 rfl ?_
        refine x_put fl_X10_229 dX10_takesSet_92 sf_48 rfl rfl rfl ?_
        exact x_ret dX10_takesSet_95 rfl (Nat.le_refl _) (Nat.le_refl _) ⟨rfl, ⟨rfl, by rw [dm_33, dm_32, dm_31]; rfl⟩⟩
      · rw [decide_eq_false hs]
        refine x_iload_n dX10_takesSet_0 rfl ?_
        refine x_aload_n dX10_takesSet_1 rfl ?_
        refine x_geti fl_X10_229 dX10_takesSet_2 sf_48 rfl ?_
        refine x_icmp_ge 12 dX10_takesSet_5 (by decide) (fun _ => ?_) (fun hc_ => absurd (hl2) hc_)
        refine x_iconst (v := 0) dX10_takesSet_12 (by decide) ?_
        refine x_istore_n dX10_takesSet_13 (by decide) ?_
        refine x_aload_n dX10_takesSet_14 rfl ?_
        refine x_iload_n dX10_takesSet_15 rfl ?_
        refine x_if_eq 23 dX10_takesSet_16 (by decide) (fun _ => ?_) (fun hc_ => absurd (rfl) hc_)
        refine x_aload_n dX10_takesSet_23 rfl ?_
        refine x_geti fl_X10_232 dX10_takesSet_24 sf_48 rfl ?_
        refine x_iload_n dX10_takesSet_27 rfl ?_
        refine x_aload_n dX10_takesSet_28 rfl ?_
        refine x_geti fl_X10_229 dX10_takesSet_29 sf_48 rfl ?_
        refine x_icmp_ne 39 dX10_takesSet_32 (by decide) (fun hc_ => absurd (he) hc_) (fun _ => ?_)
        refine x_iconst (v := 1) dX10_takesSet_35 (by decide) ?_
        refine x_goto 40 dX10_takesSet_36 (by decide) ?_
        refine x_csd mf_X10_flag ml_X10_209 dX10_takesSet_40 rfl ⟨by decide, by decide⟩ (Nat.le_of_ble_eq_true rfl) ⟨rfl, rfl⟩ ⟨Nat.le_of_ble_eq_true rfl, Nat.le_of_ble_eq_true rfl⟩ (c_m_flag true) ?_
        refine x_iadd dX10_takesSet_43 ?_
        refine x_put fl_X10_232 dX10_takesSet_44 sf_48 rfl rfl rfl ?_
        refine x_aload_n dX10_takesSet_47 rfl ?_
        refine x_iload_n dX10_takesSet_48 rfl ?_
        refine x_if_ne 68 dX10_takesSet_49 (by decide) (fun hc_ => absurd (rfl) hc_) (fun _ => ?_)
        refine x_iload_n dX10_takesSet_52 rfl ?_
        refine x_aload_n dX10_takesSet_53 rfl ?_
        refine x_geti fl_X10_229 dX10_takesSet_54 sf_48 rfl ?_
        refine x_icmp_ne 72 dX10_takesSet_57 (by decide) (fun hc_ => absurd (he) hc_) (fun _ => ?_)
        refine x_iload_n dX10_takesSet_60 rfl ?_
        refine x_aload_n dX10_takesSet_61 rfl ?_
        refine x_geti fl_X10_235 dX10_takesSet_62 sf_48 rfl ?_
        refine x_icmp_ge 72 dX10_takesSet_65 (by decide) (fun _ => ?_) (fun hc_ => absurd (fa_of_nlt hs) hc_)
        refine x_aload_n dX10_takesSet_72 rfl ?_
        refine x_geti fl_X10_235 dX10_takesSet_73 sf_48 rfl ?_
        refine x_put fl_X10_235 dX10_takesSet_76 sf_48 rfl rfl rfl ?_
        refine x_aload_n dX10_takesSet_79 rfl ?_
        refine x_iload_n dX10_takesSet_80 rfl ?_
        refine x_if_eq 88 dX10_takesSet_81 (by decide) (fun _ => ?_) (fun hc_ => absurd (rfl) hc_)
        refine x_aload_n dX10_takesSet_88 rfl ?_
        refine x_geti fl_X10_229 dX10_takesSet_89 sf_48 rfl ?_
        refine x_put fl_X10_229 dX10_takesSet_92 sf_48 rfl rfl rfl ?_
        exact x_ret dX10_takesSet_95 rfl (Nat.le_refl _) (Nat.le_refl _) ⟨rfl, ⟨rfl, by rw [dm_33, dm_32, dm_31]; rfl⟩⟩
    · rw [decide_eq_false he]
      refine x_iload_n dX10_takesSet_0 rfl ?_
      refine x_aload_n dX10_takesSet_1 rfl ?_
      refine x_geti fl_X10_229 dX10_takesSet_2 sf_48 rfl ?_
      refine x_icmp_ge 12 dX10_takesSet_5 (by decide) (fun _ => ?_) (fun hc_ => absurd (hl2) hc_)
      refine x_iconst (v := 0) dX10_takesSet_12 (by decide) ?_
      refine x_istore_n dX10_takesSet_13 (by decide) ?_
      refine x_aload_n dX10_takesSet_14 rfl ?_
      refine x_iload_n dX10_takesSet_15 rfl ?_
      refine x_if_eq 23 dX10_takesSet_16 (by decide) (fun _ => ?_) (fun hc_ => absurd (rfl) hc_)
      refine x_aload_n dX10_takesSet_23 rfl ?_
      refine x_geti fl_X10_232 dX10_takesSet_24 sf_48 rfl ?_
      refine x_iload_n dX10_takesSet_27 rfl ?_
      refine x_aload_n dX10_takesSet_28 rfl ?_
      refine x_geti fl_X10_229 dX10_takesSet_29 sf_48 rfl ?_
      refine x_icmp_ne 39 dX10_takesSet_32 (by decide) (fun _ => ?_) (fun hc_ => absurd hc_ (he))
      refine x_iconst (v := 0) dX10_takesSet_39 (by decide) ?_
      refine x_csd mf_X10_flag ml_X10_209 dX10_takesSet_40 rfl ⟨by decide, by decide⟩ (Nat.le_of_ble_eq_true rfl) ⟨rfl, rfl⟩ ⟨Nat.le_of_ble_eq_true rfl, Nat.le_of_ble_eq_true rfl⟩ (c_m_flag false) ?_
      refine x_iadd dX10_takesSet_43 ?_
      refine x_put fl_X10_232 dX10_takesSet_44 sf_48 rfl rfl rfl ?_
      refine x_aload_n dX10_takesSet_47 rfl ?_
      refine x_iload_n dX10_takesSet_48 rfl ?_
      refine x_if_ne 68 dX10_takesSet_49 (by decide) (fun hc_ => absurd (rfl) hc_) (fun _ => ?_)
      refine x_iload_n dX10_takesSet_52 rfl ?_
      refine x_aload_n dX10_takesSet_53 rfl ?_
      refine x_geti fl_X10_229 dX10_takesSet_54 sf_48 rfl ?_
      refine x_icmp_ne 72 dX10_takesSet_57 (by decide) (fun _ => ?_) (fun hc_ => absurd hc_ (he))
      refine x_aload_n dX10_takesSet_72 rfl ?_
      refine x_geti fl_X10_235 dX10_takesSet_73 sf_48 rfl ?_
      refine x_put fl_X10_235 dX10_takesSet_76 sf_48 rfl rfl rfl ?_
      refine x_aload_n dX10_takesSet_79 rfl ?_
      refine x_iload_n dX10_takesSet_80 rfl ?_
      refine x_if_eq 88 dX10_takesSet_81 (by decide) (fun _ => ?_) (fun hc_ => absurd (rfl) hc_)
      refine x_aload_n dX10_takesSet_88 rfl ?_
      refine x_geti fl_X10_229 dX10_takesSet_89 sf_48 rfl ?_
      refine x_put fl_X10_229 dX10_takesSet_92 sf_48 rfl rfl rfl ?_
      exact x_ret dX10_takesSet_95 rfl (Nat.le_refl _) (Nat.le_refl _) ⟨rfl, ⟨rfl, by rw [dm_33, dm_32, dm_31]; rfl⟩⟩
/-- what enters() leaves found -/
def enT (C : Int32) (sz rm : Nat → Int32) (sq : Nat) (L : Int32) (k : Tk) (x y : Int32) : Tk := if fwq C sz rm sq L x < sq then k else tkS k x y
theorem c_m_enters {Z : List (Option Nat)} {ext : List Ds} {M : Mm} {p t c b s : Nat → Int32} {sq : Nat} (k : Tk) (d : Nat) (hd : d < 32) (hq : M 48 5 = nI sq) (hb : sq ≤ 20) : Ct mX10_enters [.ref 48, .int (nI d)] (SS Z ext) (dM M k p t c b s) (Rt none (dM M (enT (M 49 32) (M 51) (M 54) sq (M 49 0) k (c d) (s d)) (upd p d (fwV (M 49 32) (M 51) (M 54) sq (M 49 0) (c d))) (upd t d 0) c b s)) := by
  have cf := c_m_firstWhole (Z := Z) (ext := ext) (M := dM M k p t c b s) (sq := sq) (c d) hq hb
  rw [show (dM M k p t c b s) 49 = M 49 from rfl, show (dM M k p t c b s) 51 = M 51 from rfl, show (dM M k p t c b s) 54 = M 54 from rfl] at cf
  rw [enT]
  by_cases hlt : fwq (M 49 32) (M 51) (M 54) sq (M 49 0) (c d) < sq
  · rw [if_pos hlt]
    rw [fwV, if_pos hlt] at cf ⊢
    generalize fwq (M 49 32) (M 51) (M 54) sq (M 49 0) (c d) = f at *
    refine Ct.of (by decide) (Nat.le_of_ble_eq_true rfl) ?_
    refine x_aload_n dX10_enters_0 rfl ?_
    refine x_getr fl_X10_38 dX10_enters_1 sf_48 rfl ?_
    refine x_iload_n dX10_enters_4 rfl ?_
    refine x_aload_n dX10_enters_5 rfl ?_
    refine x_aload_n dX10_enters_6 rfl ?_
    refine x_getr fl_X10_44 dX10_enters_7 sf_48 rfl ?_
    refine x_iload_n dX10_enters_10 rfl ?_
    refine x_iald dX10_enters_11 sf_60 rfl hd (by decide) ?_
    refine x_cvd mf_X10_firstWhole ml_X10_238 dX10_enters_12 rfl sf_48 rfl ⟨by decide, by decide⟩ (Nat.le_of_ble_eq_true rfl) ⟨rfl, rfl⟩ ⟨Nat.le_of_ble_eq_true rfl, Nat.le_of_ble_eq_true rfl⟩ (cf) ?_
    refine x_iast dX10_enters_15 sf_58 rfl hd (by decide) ?_
    refine x_aload_n dX10_enters_16 rfl ?_
    refine x_getr fl_X10_41 dX10_enters_17 sf_48 rfl ?_
    refine x_iload_n dX10_enters_20 rfl ?_
    refine x_iconst (v := 0) dX10_enters_21 (by decide) ?_
    refine x_iast dX10_enters_22 sf_59 rfl hd (by decide) ?_
    rw [dm_58, dm_59]
    refine x_aload_n dX10_enters_23 rfl ?_
    refine x_getr fl_X10_38 dX10_enters_24 sf_48 rfl ?_
    refine x_iload_n dX10_enters_27 rfl ?_
    refine x_iald dX10_enters_28 sf_58 rfl hd (by decide) ?_
    refine x_bipush (v := -4) dX10_enters_29 (by decide) ?_
    refine x_icmp_ne 50 dX10_enters_31 (by decide) (fun _ => ?_) (fun hc_ => absurd hc_ (by show ¬ upd p d (nI f) d = -4; rw [pk_us]; intro e; have h0 := nI_pos (n := f) (by omega); rw [e] at h0; exact h0 (by decide)))
    exact x_ret dX10_enters_50 rfl (Nat.le_refl _) (Nat.le_refl _) ⟨rfl, ⟨rfl, rfl⟩⟩
  · rw [if_neg hlt]
    rw [fwV, if_neg hlt] at cf ⊢
    refine Ct.of (by decide) (Nat.le_of_ble_eq_true rfl) ?_
    refine x_aload_n dX10_enters_0 rfl ?_
    refine x_getr fl_X10_38 dX10_enters_1 sf_48 rfl ?_
    refine x_iload_n dX10_enters_4 rfl ?_
    refine x_aload_n dX10_enters_5 rfl ?_
    refine x_aload_n dX10_enters_6 rfl ?_
    refine x_getr fl_X10_44 dX10_enters_7 sf_48 rfl ?_
    refine x_iload_n dX10_enters_10 rfl ?_
    refine x_iald dX10_enters_11 sf_60 rfl hd (by decide) ?_
    refine x_cvd mf_X10_firstWhole ml_X10_238 dX10_enters_12 rfl sf_48 rfl ⟨by decide, by decide⟩ (Nat.le_of_ble_eq_true rfl) ⟨rfl, rfl⟩ ⟨Nat.le_of_ble_eq_true rfl, Nat.le_of_ble_eq_true rfl⟩ (cf) ?_
    refine x_iast dX10_enters_15 sf_58 rfl hd (by decide) ?_
    refine x_aload_n dX10_enters_16 rfl ?_
    refine x_getr fl_X10_41 dX10_enters_17 sf_48 rfl ?_
    refine x_iload_n dX10_enters_20 rfl ?_
    refine x_iconst (v := 0) dX10_enters_21 (by decide) ?_
    refine x_iast dX10_enters_22 sf_59 rfl hd (by decide) ?_
    rw [dm_58, dm_59]
    refine x_aload_n dX10_enters_23 rfl ?_
    refine x_getr fl_X10_38 dX10_enters_24 sf_48 rfl ?_
    refine x_iload_n dX10_enters_27 rfl ?_
    refine x_iald dX10_enters_28 sf_58 rfl hd (by decide) ?_
    refine x_bipush (v := -4) dX10_enters_29 (by decide) ?_
    refine x_icmp_ne 50 dX10_enters_31 (by decide) (fun hc_ => absurd (by show upd p d (-4) d = -4; rw [pk_us]) hc_) (fun _ => ?_)
    refine x_aload_n dX10_enters_34 rfl ?_
    refine x_aload_n dX10_enters_35 rfl ?_
    refine x_getr fl_X10_44 dX10_enters_36 sf_48 rfl ?_
    refine x_iload_n dX10_enters_39 rfl ?_
    refine x_iald dX10_enters_40 sf_60 rfl hd (by decide) ?_
    refine x_aload_n dX10_enters_41 rfl ?_
    refine x_getr fl_X10_50 dX10_enters_42 sf_48 rfl ?_
    refine x_iload_n dX10_enters_45 rfl ?_
    refine x_iald dX10_enters_46 sf_62 rfl hd (by decide) ?_
    refine x_cvd mf_X10_takesSet ml_X10_241 dX10_enters_47 rfl sf_48 rfl ⟨by decide, by decide⟩ (Nat.le_of_ble_eq_true rfl) ⟨rfl, rfl⟩ ⟨Nat.le_of_ble_eq_true rfl, Nat.le_of_ble_eq_true rfl⟩ (c_m_takesSet k _ _) ?_
    exact x_ret dX10_enters_50 rfl (Nat.le_refl _) (Nat.le_refl _) ⟨rfl, ⟨rfl, rfl⟩⟩
