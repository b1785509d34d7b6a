/-! ===== the reference: laying and boxes, behind their games; mean and chance ===== -/
theorem c_m_bestPlace {Z : List (Option Nat)} {ext : List Ds} {M : Mm} {m : Nat} (e : Bool) (hm : m ≤ 12) (hex : fa_first (fun k => decide (pvL (M 67) (M 66) e 0 k = M 66 0)) m < m) : Ct mX10_bestPlace [.ref 48, .int (b2i e)] (SS Z ext) M (Rt (some (.int (M 63 (fa_first (fun k => decide (pvL (M 67) (M 66) e 0 k = M 66 0)) m)))) M) := by
  have hp : 0 < 2 ^ m := Nat.pow_pos (by decide)
  refine Ct.of (by decide) (Nat.le_of_ble_eq_true rfl) ?_
  refine x_iconst (v := 0) dX10_bestPlace_0 (by decide) ?_
  refine x_istore_n dX10_bestPlace_1 (by decide) ?_
  refine lup (P := fun k => XW _ _ 0 0 (SS Z ext) M 2 [some (.ref 48), some (.int (b2i e)), some (.int (nI k))] []) (N := fa_first (fun k => decide (pvL (M 67) (M 66) e 0 k = M 66 0)) m) ?_ ?_ 0 (by omega)
  · have hy := fa_first_yes _ _ hex
    have hy : pvL (M 67) (M 66) e 0 (fa_first (fun k => decide (pvL (M 67) (M 66) e 0 k = M 66 0)) m) = M 66 0 := of_decide_eq_true hy
    refine x_aload_n dX10_bestPlace_2 rfl ?_
    refine x_iconst (v := 0) dX10_bestPlace_3 (by decide) ?_
    refine x_iload_n dX10_bestPlace_4 rfl ?_
    refine x_iload_n dX10_bestPlace_5 rfl ?_
    refine x_cvd mf_X10_playedBy ml_X10_318 dX10_bestPlace_6 rfl sf_48 rfl ⟨by decide, by decide⟩ (Nat.le_of_ble_eq_true rfl) ⟨rfl, rfl⟩ ⟨Nat.le_of_ble_eq_true rfl, Nat.le_of_ble_eq_true rfl⟩ (c_m_playedBy (m := m) (j := 0) e hp hex hm) ?_
    refine x_aload_n dX10_bestPlace_9 rfl ?_
    refine x_getr fl_X10_62 dX10_bestPlace_10 sf_48 rfl ?_
    refine x_iconst (v := 0) dX10_bestPlace_13 (by decide) ?_
    refine x_iald (q := 0) dX10_bestPlace_14 sf_66 (by decide) (by decide) (by decide) ?_
    refine x_icmp_eq 24 dX10_bestPlace_15 (by decide) (fun _ => ?_) (fun hc_ => absurd (hy) hc_)
    refine x_aload_n dX10_bestPlace_24 rfl ?_
    refine x_getr fl_X10_53 dX10_bestPlace_25 sf_48 rfl ?_
    refine x_iload_n dX10_bestPlace_28 rfl ?_
    refine x_iald dX10_bestPlace_29 sf_63 rfl (by omega) (by decide) ?_
    exact x_iret dX10_bestPlace_30 rfl rfl (Nat.le_refl _) (Nat.le_refl _) ⟨rfl, ⟨rfl, rfl⟩⟩
  · intro k hk ih
    rw [nI_succ] at ih
    have hy := fa_first_no _ _ _ hk
    have hy : ¬ pvL (M 67) (M 66) e 0 k = M 66 0 := of_decide_eq_false hy
    refine x_aload_n dX10_bestPlace_2 rfl ?_
    refine x_iconst (v := 0) dX10_bestPlace_3 (by decide) ?_
    refine x_iload_n dX10_bestPlace_4 rfl ?_
    refine x_iload_n dX10_bestPlace_5 rfl ?_
    refine x_cvd mf_X10_playedBy ml_X10_318 dX10_bestPlace_6 rfl sf_48 rfl ⟨by decide, by decide⟩ (Nat.le_of_ble_eq_true rfl) ⟨rfl, rfl⟩ ⟨Nat.le_of_ble_eq_true rfl, Nat.le_of_ble_eq_true rfl⟩ (c_m_playedBy (m := m) (j := 0) e hp (by omega) hm) ?_
    refine x_aload_n dX10_bestPlace_9 rfl ?_
    refine x_getr fl_X10_62 dX10_bestPlace_10 sf_48 rfl ?_
    refine x_iconst (v := 0) dX10_bestPlace_13 (by decide) ?_
    refine x_iald (q := 0) dX10_bestPlace_14 sf_66 (by decide) (by decide) (by decide) ?_
    refine x_icmp_eq 24 dX10_bestPlace_15 (by decide) (fun hc_ => absurd hc_ (hy)) (fun _ => ?_)
    refine x_iinc1 dX10_bestPlace_18 rfl (by decide) ?_
    refine x_goto 2 dX10_bestPlace_21 (by decide) ?_
    exact ih
def vLaying (lef G : Nat → Int32) (so : Nat → Int32) (m : Nat) (x : Int32) : Int32 := if decide (x = 1) then so (fa_first (fun k => decide (pvL lef G false 0 k = G 0)) m) else if decide (G 0 ≤ 0) then (if decide (0 ≤ G 0) then 0 else 2) else 1
def vBoxes (lef G : Nat → Int32) (so : Nat → Int32) (m : Nat) (x : Int32) : Int32 := if decide (x = 1) then so (fa_first (fun k => decide (pvL lef G true 0 k = G 0)) m) else G 0 + 100
theorem first_congr {p q : Nat → Bool} : ∀ {n : Nat}, (∀ k, k < n → p k = q k) → fa_first p n = fa_first q n
  | 0, _ => rfl
  | n + 1, h => by rw [fa_first, fa_first, first_congr (fun k hk => h k (by omega)), h n (by omega)]
theorem c_m_layingX {Z : List (Option Nat)} {ext : List Ds} {M : Mm} (x : Int32) (hx : rg x 0 1 = false) : Ct mX10_laying [.ref 48, .int x] (SS Z ext) M (Rt (some (.int (-1))) M) := by
  refine Ct.of (by decide) (Nat.le_of_ble_eq_true rfl) ?_
  refine x_iload_n dX10_laying_0 rfl ?_
  refine x_i2l dX10_laying_1 ?_
  refine x_lconst (v := 0) dX10_laying_2 (by decide) ?_
  refine x_lconst (v := 1) dX10_laying_3 (by decide) ?_
  refine x_csd mf_X10_in ml_X10_134 dX10_laying_4 rfl ⟨by decide, by decide⟩ (Nat.le_of_ble_eq_true rfl) ⟨rfl, rfl⟩ ⟨Nat.le_of_ble_eq_true rfl, Nat.le_of_ble_eq_true rfl⟩ (c_m_rg (a := 0) (b := 1) (by decide) (by decide)) ?_
  refine x_ifb_ne 12 dX10_laying_7 (by decide) (fun hc_ => absurd ((hx).symm.trans hc_) Bool.false_ne_true) (fun _ => ?_)
  refine x_iconst (v := -1) dX10_laying_10 (by decide) ?_
  exact x_iret dX10_laying_11 rfl rfl (Nat.le_refl _) (Nat.le_refl _) ⟨rfl, ⟨rfl, rfl⟩⟩
theorem c_m_layingS {Z : List (Option Nat)} {ext : List Ds} {M : Mm} {mt : Nat} (x : Int32) (hx : rg x 0 1 = true) (hm : M 48 4 = nI mt) (hb : mt ≤ 31) (hc : fsC (alo mt &&& (M 49 0 ^^^ (-1))) mt = 0 ∨ 12 < fsC (alo mt &&& (M 49 0 ^^^ (-1))) mt) : Ct mX10_laying [.ref 48, .int x] (SS Z ext) M (fun r M' => r = some (.int (-2)) ∧ Eqm M M') := by
  refine Ct.of (by decide) (Nat.le_of_ble_eq_true rfl) ?_
  refine x_iload_n dX10_laying_0 rfl ?_
  refine x_i2l dX10_laying_1 ?_
  refine x_lconst (v := 0) dX10_laying_2 (by decide) ?_
  refine x_lconst (v := 1) dX10_laying_3 (by decide) ?_
  refine x_csd mf_X10_in ml_X10_134 dX10_laying_4 rfl ⟨by decide, by decide⟩ (Nat.le_of_ble_eq_true rfl) ⟨rfl, rfl⟩ ⟨Nat.le_of_ble_eq_true rfl, Nat.le_of_ble_eq_true rfl⟩ (c_m_rg (a := 0) (b := 1) (by decide) (by decide)) ?_
  refine x_ifb_ne 12 dX10_laying_7 (by decide) (fun _ => ?_) (fun hc_ => absurd (hc_.symm.trans (hx)) Bool.false_ne_true)
  refine x_aload_n dX10_laying_12 rfl ?_
  refine x_cv mf_X10_startsLaying ml_X10_322 dX10_laying_13 rfl sf_48 rfl ⟨by decide, by decide⟩ (Nat.le_of_ble_eq_true rfl) ⟨rfl, rfl⟩ ⟨Nat.le_of_ble_eq_true rfl, Nat.le_of_ble_eq_true rfl⟩ (c_m_startsLayingX hm hb hc) (fun r M' ⟨e1, e2⟩ => ?_)
  subst e1
  refine x_if_ne 22 dX10_laying_16 (by decide) (fun hc_ => absurd (rfl) hc_) (fun _ => ?_)
  refine x_bipush (v := -2) dX10_laying_19 (by decide) ?_
  exact x_iret dX10_laying_21 rfl rfl (Nat.le_refl _) (Nat.le_refl _) ⟨rfl, ⟨rfl, e2⟩⟩
theorem c_m_boxesX {Z : List (Option Nat)} {ext : List Ds} {M : Mm} (x : Int32) (hx : rg x 0 1 = false) : Ct mX10_boxes [.ref 48, .int x] (SS Z ext) M (Rt (some (.int (-1))) M) := by
  refine Ct.of (by decide) (Nat.le_of_ble_eq_true rfl) ?_
  refine x_iload_n dX10_boxes_0 rfl ?_
  refine x_i2l dX10_boxes_1 ?_
  refine x_lconst (v := 0) dX10_boxes_2 (by decide) ?_
  refine x_lconst (v := 1) dX10_boxes_3 (by decide) ?_
  refine x_csd mf_X10_in ml_X10_134 dX10_boxes_4 rfl ⟨by decide, by decide⟩ (Nat.le_of_ble_eq_true rfl) ⟨rfl, rfl⟩ ⟨Nat.le_of_ble_eq_true rfl, Nat.le_of_ble_eq_true rfl⟩ (c_m_rg (a := 0) (b := 1) (by decide) (by decide)) ?_
  refine x_ifb_ne 12 dX10_boxes_7 (by decide) (fun hc_ => absurd ((hx).symm.trans hc_) Bool.false_ne_true) (fun _ => ?_)
  refine x_iconst (v := -1) dX10_boxes_10 (by decide) ?_
  exact x_iret dX10_boxes_11 rfl rfl (Nat.le_refl _) (Nat.le_refl _) ⟨rfl, ⟨rfl, rfl⟩⟩
theorem c_m_boxesS {Z : List (Option Nat)} {ext : List Ds} {M : Mm} {mt : Nat} (x : Int32) (hx : rg x 0 1 = true) (hm : M 48 4 = nI mt) (hb : mt ≤ 31) (hc : fsC (alo mt &&& (M 49 0 ^^^ (-1))) mt = 0 ∨ 12 < fsC (alo mt &&& (M 49 0 ^^^ (-1))) mt) : Ct mX10_boxes [.ref 48, .int x] (SS Z ext) M (fun r M' => r = some (.int (-2)) ∧ Eqm M M') := by
  refine Ct.of (by decide) (Nat.le_of_ble_eq_true rfl) ?_
  refine x_iload_n dX10_boxes_0 rfl ?_
  refine x_i2l dX10_boxes_1 ?_
  refine x_lconst (v := 0) dX10_boxes_2 (by decide) ?_
  refine x_lconst (v := 1) dX10_boxes_3 (by decide) ?_
  refine x_csd mf_X10_in ml_X10_134 dX10_boxes_4 rfl ⟨by decide, by decide⟩ (Nat.le_of_ble_eq_true rfl) ⟨rfl, rfl⟩ ⟨Nat.le_of_ble_eq_true rfl, Nat.le_of_ble_eq_true rfl⟩ (c_m_rg (a := 0) (b := 1) (by decide) (by decide)) ?_
  refine x_ifb_ne 12 dX10_boxes_7 (by decide) (fun _ => ?_) (fun hc_ => absurd (hc_.symm.trans (hx)) Bool.false_ne_true)
  refine x_aload_n dX10_boxes_12 rfl ?_
  refine x_cv mf_X10_startsLaying ml_X10_322 dX10_boxes_13 rfl sf_48 rfl ⟨by decide, by decide⟩ (Nat.le_of_ble_eq_true rfl) ⟨rfl, rfl⟩ ⟨Nat.le_of_ble_eq_true rfl, Nat.le_of_ble_eq_true rfl⟩ (c_m_startsLayingX hm hb hc) (fun r M' ⟨e1, e2⟩ => ?_)
  subst e1
  refine x_if_ne 22 dX10_boxes_16 (by decide) (fun hc_ => absurd (rfl) hc_) (fun _ => ?_)
  refine x_bipush (v := -2) dX10_boxes_19 (by decide) ?_
  exact x_iret dX10_boxes_21 rfl rfl (Nat.le_refl _) (Nat.le_refl _) ⟨rfl, ⟨rfl, e2⟩⟩
theorem taM_eqm {M M0 : Mm} (h : Eqm M M0) (r67 r66 : Nat → Int32) : Eqm M (taM M0 r67 r66) := (h.ur (fun _ => rfl)).ur (fun _ => rfl)
theorem pvL_congr {lef lef' G G' : Nat → Int32} {e : Bool} {m j k : Nat} (hj : j < 2 ^ m) (hk : k < m) (h1 : ∀ i, i < 2 ^ m → lef i = lef' i) (h2 : ∀ i, i < 2 ^ m → G i = G' i) : pvL lef G e j k = pvL lef' G' e j k := by
  have hl := or_lt hj hk
  unfold pvL
  rw [h1 _ hl, h1 _ hj, h2 _ hl]
theorem c_m_laying {Z : List (Option Nat)} {ext : List Ds} {M : Mm} {mt sq m : Nat} {so G : Nat → Int32} (x : Int32) (hx : rg x 0 1 = true) (hm : M 48 4 = nI mt) (hb : mt ≤ 31) (hq : M 48 5 = nI sq) (hb2 : sq ≤ 20) (hcm : fsC (alo mt &&& (M 49 0 ^^^ (-1))) mt = m) (hso : fsR (alo mt &&& (M 49 0 ^^^ (-1))) (M 63) mt = so) (h0 : 0 < m) (hc : m ≤ 12) (hG : okG (lefL (M 49 32) (M 51) (M 54) sq (M 49 0) so m) m false G) (hex : fa_first (fun k => decide (pvL (lefL (M 49 32) (M 51) (M 54) sq (M 49 0) so m) G false 0 k = G 0)) m < m) :
    Ct mX10_laying [.ref 48, .int x] (SS Z ext) M (fun r M' => r = some (.int (vLaying (lefL (M 49 32) (M 51) (M 54) sq (M 49 0) so m) G so m x)) ∧ Eqm M M') := by
  have hp : 0 < 2 ^ m := Nat.pow_pos (by decide)
  refine Ct.of (by decide) (Nat.le_of_ble_eq_true rfl) ?_
  refine x_iload_n dX10_laying_0 rfl ?_
  refine x_i2l dX10_laying_1 ?_
  refine x_lconst (v := 0) dX10_laying_2 (by decide) ?_
  refine x_lconst (v := 1) dX10_laying_3 (by decide) ?_
  refine x_csd mf_X10_in ml_X10_134 dX10_laying_4 rfl ⟨by decide, by decide⟩ (Nat.le_of_ble_eq_true rfl) ⟨rfl, rfl⟩ ⟨Nat.le_of_ble_eq_true rfl, Nat.le_of_ble_eq_true rfl⟩ (c_m_rg (a := 0) (b := 1) (by decide) (by decide)) ?_
  refine x_ifb_ne 12 dX10_laying_7 (by decide) (fun _ => ?_) (fun hc_ => absurd (hc_.symm.trans (hx)) Bool.false_ne_true)
  refine x_aload_n dX10_laying_12 rfl ?_
  refine x_cv mf_X10_startsLaying ml_X10_322 dX10_laying_13 rfl sf_48 rfl ⟨by decide, by decide⟩ (Nat.le_of_ble_eq_true rfl) ⟨rfl, rfl⟩ ⟨Nat.le_of_ble_eq_true rfl, Nat.le_of_ble_eq_true rfl⟩ (c_m_startsLaying hm hb hq hb2 hcm hso h0 hc) (fun r M' ⟨e1, M0, r67, e2, hE, h35, h63, hq0, h67⟩ => ?_)
  subst e1; subst e2
  refine x_if_ne 22 dX10_laying_16 (by decide) (fun _ => ?_) (fun hc_ => absurd hc_ (by decide))
  refine x_aload_n dX10_laying_22 rfl ?_
  refine x_iconst (v := 0) dX10_laying_23 (by decide) ?_
  refine x_cv mf_X10_findGame ml_X10_326 dX10_laying_24 rfl sf_48 rfl ⟨by decide, by decide⟩ (Nat.le_of_ble_eq_true rfl) ⟨rfl, rfl⟩ ⟨Nat.le_of_ble_eq_true rfl, Nat.le_of_ble_eq_true rfl⟩ (c_m_findGame (lef := lefL (M 49 32) (M 51) (M 54) sq (M 49 0) so m) (G := G) false hc h0 h35 r67 h67 hG) (fun r M' ⟨e1, r66, e2, h66⟩ => ?_)
  subst e1; subst e2; generalize lefL (M 49 32) (M 51) (M 54) sq (M 49 0) so m = lef at h67 hG hex ⊢; have hfc := first_congr (n := m) (p := fun k => decide (pvL r67 r66 false 0 k = r66 0)) (q := fun k => decide (pvL lef G false 0 k = G 0)) (fun k hk => by rw [pvL_congr hp hk h67 h66, h66 0 hp])
  refine x_iload_n dX10_laying_27 rfl ?_
  refine x_iconst (v := 1) dX10_laying_28 (by decide) ?_
  refine x_icmp_ne 40 dX10_laying_29 (by decide) (fun h29 => ?_) (fun h29 => ?_)
  · refine x_aload_n dX10_laying_40 rfl ?_
    refine x_getr fl_X10_62 dX10_laying_41 sf_48 rfl ?_
    refine x_iconst (v := 0) dX10_laying_44 (by decide) ?_
    refine x_iald (q := 0) dX10_laying_45 sf_66 (by decide) (by decide) (by decide) ?_
    refine x_if_le 53 dX10_laying_46 (by decide) (fun h46 => ?_) (fun h46 => ?_)
    · refine x_aload_n dX10_laying_53 rfl ?_
      refine x_getr fl_X10_62 dX10_laying_54 sf_48 rfl ?_
      refine x_iconst (v := 0) dX10_laying_57 (by decide) ?_
      refine x_iald (q := 0) dX10_laying_58 sf_66 (by decide) (by decide) (by decide) ?_
      refine x_if_ge 66 dX10_laying_59 (by decide) (fun h59 => ?_) (fun h59 => ?_)
      · refine x_iconst (v := 0) dX10_laying_66 (by decide) ?_
        exact x_iret dX10_laying_67 rfl rfl (Nat.le_refl _) (Nat.le_refl _) ⟨rfl, ⟨by first | (rw [vLaying, decide_eq_true h29, ← hfc, ← h63]; rfl) | (rw [vLaying, decide_eq_false h29, ← h66 0 hp, decide_eq_true (show r66 0 ≤ 0 from h46), decide_eq_true (show 0 ≤ r66 0 from h59)]; rfl) | (rw [vLaying, decide_eq_false h29, ← h66 0 hp, decide_eq_true (show r66 0 ≤ 0 from h46), decide_eq_false (show ¬ 0 ≤ r66 0 from h59)]; rfl) | (rw [vLaying, decide_eq_false h29, ← h66 0 hp, decide_eq_false (show ¬ r66 0 ≤ 0 from h46)]; rfl), taM_eqm hE _ _⟩⟩
      · refine x_iconst (v := 2) dX10_laying_62 (by decide) ?_
        refine x_goto 67 dX10_laying_63 (by decide) ?_
        exact x_iret dX10_laying_67 rfl rfl (Nat.le_refl _) (Nat.le_refl _) ⟨rfl, ⟨by first | (rw [vLaying, decide_eq_true h29, ← hfc, ← h63]; rfl) | (rw [vLaying, decide_eq_false h29, ← h66 0 hp, decide_eq_true (show r66 0 ≤ 0 from h46), decide_eq_true (show 0 ≤ r66 0 from h59)]; rfl) | (rw [vLaying, decide_eq_false h29, ← h66 0 hp, decide_eq_true (show r66 0 ≤ 0 from h46), decide_eq_false (show ¬ 0 ≤ r66 0 from h59)]; rfl) | (rw [vLaying, decide_eq_false h29, ← h66 0 hp, decide_eq_false (show ¬ r66 0 ≤ 0 from h46)]; rfl), taM_eqm hE _ _⟩⟩
    · refine x_iconst (v := 1) dX10_laying_49 (by decide) ?_
      refine x_goto 67 dX10_laying_50 (by decide) ?_
      exact x_iret dX10_laying_67 rfl rfl (Nat.le_refl _) (Nat.le_refl _) ⟨rfl, ⟨by first | (rw [vLaying, decide_eq_true h29, ← hfc, ← h63]; rfl) | (rw [vLaying, decide_eq_false h29, ← h66 0 hp, decide_eq_true (show r66 0 ≤ 0 from h46), decide_eq_true (show 0 ≤ r66 0 from h59)]; rfl) | (rw [vLaying, decide_eq_false h29, ← h66 0 hp, decide_eq_true (show r66 0 ≤ 0 from h46), decide_eq_false (show ¬ 0 ≤ r66 0 from h59)]; rfl) | (rw [vLaying, decide_eq_false h29, ← h66 0 hp, decide_eq_false (show ¬ r66 0 ≤ 0 from h46)]; rfl), taM_eqm hE _ _⟩⟩
  · refine x_aload_n dX10_laying_32 rfl ?_
    refine x_iconst (v := 0) dX10_laying_33 (by decide) ?_
    refine x_cvd mf_X10_bestPlace ml_X10_329 dX10_laying_34 rfl sf_48 rfl ⟨by decide, by decide⟩ (Nat.le_of_ble_eq_true rfl) ⟨rfl, rfl⟩ ⟨Nat.le_of_ble_eq_true rfl, Nat.le_of_ble_eq_true rfl⟩ (c_m_bestPlace (m := m) false hc (by show fa_first (fun k => decide (pvL r67 r66 false 0 k = r66 0)) m < m; rw [hfc]; exact hex)) ?_
    refine x_goto 67 dX10_laying_37 (by decide) ?_
    exact x_iret dX10_laying_67 rfl rfl (Nat.le_refl _) (Nat.le_refl _) ⟨rfl, ⟨by first | (rw [vLaying, decide_eq_true h29, ← hfc, ← h63]; rfl) | (rw [vLaying, decide_eq_false h29, ← h66 0 hp, decide_eq_true (show r66 0 ≤ 0 from h46), decide_eq_true (show 0 ≤ r66 0 from h59)]; rfl) | (rw [vLaying, decide_eq_false h29, ← h66 0 hp, decide_eq_true (show r66 0 ≤ 0 from h46), decide_eq_false (show ¬ 0 ≤ r66 0 from h59)]; rfl) | (rw [vLaying, decide_eq_false h29, ← h66 0 hp, decide_eq_false (show ¬ r66 0 ≤ 0 from h46)]; rfl), taM_eqm hE _ _⟩⟩
theorem c_m_boxes {Z : List (Option Nat)} {ext : List Ds} {M : Mm} {mt sq m : Nat} {so G : Nat → Int32} (x : Int32) (hx : rg x 0 1 = true) (hm : M 48 4 = nI mt) (hb : mt ≤ 31) (hq : M 48 5 = nI sq) (hb2 : sq ≤ 20) (hcm : fsC (alo mt &&& (M 49 0 ^^^ (-1))) mt = m) (hso : fsR (alo mt &&& (M 49 0 ^^^ (-1))) (M 63) mt = so) (h0 : 0 < m) (hc : m ≤ 12) (hG : okG (lefL (M 49 32) (M 51) (M 54) sq (M 49 0) so m) m true G) (hex : fa_first (fun k => decide (pvL (lefL (M 49 32) (M 51) (M 54) sq (M 49 0) so m) G true 0 k = G 0)) m < m) :
    Ct mX10_boxes [.ref 48, .int x] (SS Z ext) M (fun r M' => r = some (.int (vBoxes (lefL (M 49 32) (M 51) (M 54) sq (M 49 0) so m) G so m x)) ∧ Eqm M M') := by
  have hp : 0 < 2 ^ m := Nat.pow_pos (by decide)
  refine Ct.of (by decide) (Nat.le_of_ble_eq_true rfl) ?_
  refine x_iload_n dX10_boxes_0 rfl ?_
  refine x_i2l dX10_boxes_1 ?_
  refine x_lconst (v := 0) dX10_boxes_2 (by decide) ?_
  refine x_lconst (v := 1) dX10_boxes_3 (by decide) ?_
  refine x_csd mf_X10_in ml_X10_134 dX10_boxes_4 rfl ⟨by decide, by decide⟩ (Nat.le_of_ble_eq_true rfl) ⟨rfl, rfl⟩ ⟨Nat.le_of_ble_eq_true rfl, Nat.le_of_ble_eq_true rfl⟩ (c_m_rg (a := 0) (b := 1) (by decide) (by decide)) ?_
  refine x_ifb_ne 12 dX10_boxes_7 (by decide) (fun _ => ?_) (fun hc_ => absurd (hc_.symm.trans (hx)) Bool.false_ne_true)
  refine x_aload_n dX10_boxes_12 rfl ?_
  refine x_cv mf_X10_startsLaying ml_X10_322 dX10_boxes_13 rfl sf_48 rfl ⟨by decide, by decide⟩ (Nat.le_of_ble_eq_true rfl) ⟨rfl, rfl⟩ ⟨Nat.le_of_ble_eq_true rfl, Nat.le_of_ble_eq_true rfl⟩ (c_m_startsLaying hm hb hq hb2 hcm hso h0 hc) (fun r M' ⟨e1, M0, r67, e2, hE, h35, h63, hq0, h67⟩ => ?_)
  subst e1; subst e2
  refine x_if_ne 22 dX10_boxes_16 (by decide) (fun _ => ?_) (fun hc_ => absurd hc_ (by decide))
  refine x_aload_n dX10_boxes_22 rfl ?_
  refine x_iconst (v := 1) dX10_boxes_23 (by decide) ?_
  refine x_cv mf_X10_findGame ml_X10_326 dX10_boxes_24 rfl sf_48 rfl ⟨by decide, by decide⟩ (Nat.le_of_ble_eq_true rfl) ⟨rfl, rfl⟩ ⟨Nat.le_of_ble_eq_true rfl, Nat.le_of_ble_eq_true rfl⟩ (c_m_findGame (lef := lefL (M 49 32) (M 51) (M 54) sq (M 49 0) so m) (G := G) true hc h0 h35 r67 h67 hG) (fun r M' ⟨e1, r66, e2, h66⟩ => ?_)
  subst e1; subst e2; generalize lefL (M 49 32) (M 51) (M 54) sq (M 49 0) so m = lef at h67 hG hex ⊢; have hfc := first_congr (n := m) (p := fun k => decide (pvL r67 r66 true 0 k = r66 0)) (q := fun k => decide (pvL lef G true 0 k = G 0)) (fun k hk => by rw [pvL_congr hp hk h67 h66, h66 0 hp])
  refine x_iload_n dX10_boxes_27 rfl ?_
  refine x_iconst (v := 1) dX10_boxes_28 (by decide) ?_
  refine x_icmp_ne 40 dX10_boxes_29 (by decide) (fun h29 => ?_) (fun h29 => ?_)
  · refine x_aload_n dX10_boxes_40 rfl ?_
    refine x_getr fl_X10_62 dX10_boxes_41 sf_48 rfl ?_
    refine x_iconst (v := 0) dX10_boxes_44 (by decide) ?_
    refine x_iald (q := 0) dX10_boxes_45 sf_66 (by decide) (by decide) (by decide) ?_
    refine x_bipush (v := 100) dX10_boxes_46 (by decide) ?_
    refine x_iadd dX10_boxes_48 ?_
    exact x_iret dX10_boxes_49 rfl rfl (Nat.le_refl _) (Nat.le_refl _) ⟨rfl, ⟨by first | (rw [vBoxes, decide_eq_true h29, ← hfc, ← h63]; rfl) | (rw [vBoxes, decide_eq_false h29, ← h66 0 hp]; rfl), taM_eqm hE _ _⟩⟩
  · refine x_aload_n dX10_boxes_32 rfl ?_
    refine x_iconst (v := 1) dX10_boxes_33 (by decide) ?_
    refine x_cvd mf_X10_bestPlace ml_X10_329 dX10_boxes_34 rfl sf_48 rfl ⟨by decide, by decide⟩ (Nat.le_of_ble_eq_true rfl) ⟨rfl, rfl⟩ ⟨Nat.le_of_ble_eq_true rfl, Nat.le_of_ble_eq_true rfl⟩ (c_m_bestPlace (m := m) true hc (by show fa_first (fun k => decide (pvL r67 r66 true 0 k = r66 0)) m < m; rw [hfc]; exact hex)) ?_
    refine x_goto 49 dX10_boxes_37 (by decide) ?_
    exact x_iret dX10_boxes_49 rfl rfl (Nat.le_refl _) (Nat.le_refl _) ⟨rfl, ⟨by first | (rw [vBoxes, decide_eq_true h29, ← hfc, ← h63]; rfl) | (rw [vBoxes, decide_eq_false h29, ← h66 0 hp]; rfl), taM_eqm hE _ _⟩⟩
/-- the greatest common divisor -/
theorem c_m_common {S : List Ds} {M : Mm} (a b : Nat) (ha : a < 2 ^ 31) (hb : b < 2 ^ 31) : Ct mX10_common [.long (lN a), .long (lN b)] S M (Rt (some (.long (lN (Nat.gcd b a)))) M) := by
  refine Ct.of (by decide) (Nat.le_of_ble_eq_true rfl) ?_
  refine x_lload_n dX10_common_0 rfl ?_
  refine x_lstore dX10_common_1 (by decide) ?_
  refine x_lload_n dX10_common_3 rfl ?_
  refine x_lstore dX10_common_4 (by decide) ?_
  have loop : ∀ (n x y : Nat), y ≤ n → x < 2 ^ 31 → y < 2 ^ 31 → Nat.gcd y x = Nat.gcd b a → ∀ l8 : Option Value, XW mX10_common (Fc mX10_common (fun r S' M' => S' = S ∧ Rt (some (.long (lN (Nat.gcd b a)))) M r M')) 0 0 S M 6 [some (.long (lN a)), none, some (.long (lN b)), none, some (.long (lN x)), none, some (.long (lN y)), none, l8, none] [] := by
    intro n
    induction n with
    | zero =>
      intro x y hy hx1 hy1 hg l8
      have hy0 : y = 0 := by omega
      subst hy0
      refine x_lload dX10_common_6 rfl ?_
      refine x_lconst (v := 0) dX10_common_8 (by decide) ?_
      refine x_lcmp dX10_common_9 ?_
      refine x_if_eq 31 dX10_common_10 (by decide) (fun _ => ?_) (fun hc_ => absurd (by decide) hc_)
      refine x_lload dX10_common_31 rfl ?_
      exact x_lret dX10_common_33 rfl (Nat.le_refl _) (Nat.le_refl _) ⟨rfl, ⟨ol (by rw [← hg, Nat.gcd_zero_left]), rfl⟩⟩
    | succ n ih =>
      intro x y hy hx1 hy1 hg l8
      rcases Nat.eq_zero_or_pos y with h0 | h0
      · subst h0
        refine x_lload dX10_common_6 rfl ?_
        refine x_lconst (v := 0) dX10_common_8 (by decide) ?_
        refine x_lcmp dX10_common_9 ?_
        refine x_if_eq 31 dX10_common_10 (by decide) (fun _ => ?_) (fun hc_ => absurd (by decide) hc_)
        refine x_lload dX10_common_31 rfl ?_
        exact x_lret dX10_common_33 rfl (Nat.le_refl _) (Nat.le_refl _) ⟨rfl, ⟨ol (by rw [← hg, Nat.gcd_zero_left]), rfl⟩⟩
      · have hne : ¬ lN y = 0 := fun q => absurd ((pk_lEQ (a := y) (b := 0) (by omega) (by decide)).mp q) (by omega)
        have ih := ih y (x % y) (by have := Nat.mod_lt x h0; omega) hy1 (by have := Nat.mod_lt x h0; omega) (by rw [← hg, ← Nat.gcd_rec]) (some (.long (lN (x % y))))
        rw [← pk_lRem (by omega) h0 (by omega)] at ih
        refine x_lload dX10_common_6 rfl ?_
        refine x_lconst (v := 0) dX10_common_8 (by decide) ?_
        refine x_lcmp dX10_common_9 ?_
        refine x_if_eq 31 dX10_common_10 (by decide) (fun hc_ => absurd hc_ (by rw [lg_cmp_eq]; exact hne)) (fun _ => ?_)
        refine x_lload dX10_common_13 rfl ?_
        refine x_lload dX10_common_15 rfl ?_
        refine x_lrem dX10_common_17 hne ?_
        refine x_lstore dX10_common_18 (by decide) ?_
        refine x_lload dX10_common_20 rfl ?_
        refine x_lstore dX10_common_22 (by decide) ?_
        refine x_lload dX10_common_24 rfl ?_
        refine x_lstore dX10_common_26 (by decide) ?_
        refine x_goto 6 dX10_common_28 (by decide) ?_
        exact ih
  exact loop b a b (Nat.le_refl _) ha hb rfl none
theorem c_m_lowest {S : List Ds} {M : Mm} (a b : Nat) (x : Int32) (ha : a < 2 ^ 31) (hb : b < 2 ^ 31) (h0 : 0 < b) : Ct mX10_lowest [.long (lN a), .long (lN b), .int x] S M (Rt (some (.long (if decide (x = 0) then lN (a / Nat.gcd a b) else lN (b / Nat.gcd a b)))) M) := by
  have hg : 0 < Nat.gcd a b := Nat.gcd_pos_of_pos_right a h0
  have hgl : Nat.gcd a b ≤ b := Nat.gcd_le_right a h0
  have hne : ¬ lN (Nat.gcd a b) = 0 := fun q => absurd ((pk_lEQ (a := Nat.gcd a b) (b := 0) (by omega) (by decide)).mp q) (by omega)
  refine Ct.of (by decide) (Nat.le_of_ble_eq_true rfl) ?_
  refine x_lload_n dX10_lowest_0 rfl ?_
  refine x_lload_n dX10_lowest_1 rfl ?_
  refine x_csd mf_X10_common ml_X10_332 dX10_lowest_2 rfl ⟨by decide, by decide⟩ (Nat.le_of_ble_eq_true rfl) ⟨rfl, rfl⟩ ⟨Nat.le_of_ble_eq_true rfl, Nat.le_of_ble_eq_true rfl⟩ (c_m_common b a hb ha) ?_
  refine x_lstore dX10_lowest_5 (by decide) ?_
  refine x_iload dX10_lowest_7 rfl ?_
  refine x_if_ne 19 dX10_lowest_9 (by decide) (fun h9 => ?_) (fun h9 => ?_)
  · refine x_lload_n dX10_lowest_19 rfl ?_
    refine x_lload dX10_lowest_20 rfl ?_
    refine x_ldiv dX10_lowest_22 hne ?_
    exact x_lret dX10_lowest_23 rfl (Nat.le_refl _) (Nat.le_refl _) ⟨rfl, ⟨ol (by first | (rw [decide_eq_true h9, pk_lDiv (by omega) hg (by omega)]; rfl) | (rw [decide_eq_false h9, pk_lDiv (by omega) hg (by omega)]; rfl)), rfl⟩⟩
  · refine x_lload_n dX10_lowest_12 rfl ?_
    refine x_lload dX10_lowest_13 rfl ?_
    refine x_ldiv dX10_lowest_15 hne ?_
    refine x_goto 23 dX10_lowest_16 (by decide) ?_
    exact x_lret dX10_lowest_23 rfl (Nat.le_refl _) (Nat.le_refl _) ⟨rfl, ⟨ol (by first | (rw [decide_eq_true h9, pk_lDiv (by omega) hg (by omega)]; rfl) | (rw [decide_eq_false h9, pk_lDiv (by omega) hg (by omega)]; rfl)), rfl⟩⟩
/-- the squares on the mean, times 4096 -/
def mnN (C : Int32) (sz rm : Nat → Int32) (L : Int32) : Nat → Nat
  | 0 => 0
  | q + 1 => mnN C sz rm L q + (if cntq C sz q && inq rm L q then 4096 / 16 ^ (sz q).toNatClampNeg else 0)
theorem mnN_s (C : Int32) (sz rm : Nat → Int32) (L : Int32) (q : Nat) : mnN C sz rm L (q + 1) = mnN C sz rm L q + (if cntq C sz q && inq rm L q then 4096 / 16 ^ (sz q).toNatClampNeg else 0) := rfl
theorem mnN_le (C : Int32) (sz rm : Nat → Int32) (L : Int32) : ∀ q, mnN C sz rm L q ≤ 4096 * q
  | 0 => Nat.le_refl 0
  | q + 1 => by
    have h := mnN_le C sz rm L q
    rw [mnN_s]
    split
    · have h2 : 4096 / 16 ^ (sz q).toNatClampNeg ≤ 4096 := Nat.div_le_self _ _
      omega
    · omega
theorem c_m_meanX {Z : List (Option Nat)} {ext : List Ds} {M : Mm} (x : Int32) (hx : rg x 0 1 = false) : Ct mX10_mean [.ref 48, .int x] (SS Z ext) M (Rt (some (.long (-1))) M) := by
  refine Ct.of (by decide) (Nat.le_of_ble_eq_true rfl) ?_
  refine x_iload_n dX10_mean_0 rfl ?_
  refine x_i2l dX10_mean_1 ?_
  refine x_lconst (v := 0) dX10_mean_2 (by decide) ?_
  refine x_lconst (v := 1) dX10_mean_3 (by decide) ?_
  refine x_csd mf_X10_in ml_X10_134 dX10_mean_4 rfl ⟨by decide, by decide⟩ (Nat.le_of_ble_eq_true rfl) ⟨rfl, rfl⟩ ⟨Nat.le_of_ble_eq_true rfl, Nat.le_of_ble_eq_true rfl⟩ (c_m_rg (a := 0) (b := 1) (by decide) (by decide)) ?_
  refine x_ifb_ne 14 dX10_mean_7 (by decide) (fun hc_ => absurd ((hx).symm.trans hc_) Bool.false_ne_true) (fun _ => ?_)
  refine x_ldc2 dX10_mean_10 kc_X10_336 ?_
  exact x_lret dX10_mean_13 rfl (Nat.le_refl _) (Nat.le_refl _) ⟨rfl, ⟨rfl, rfl⟩⟩
theorem c_m_mean {Z : List (Option Nat)} {ext : List Ds} {M : Mm} {sq : Nat} (x : Int32) (hx : rg x 0 1 = true) (hq : M 48 5 = nI sq) (hb2 : sq ≤ 20) (hsz : ∀ q, q < sq → ∃ s, 1 ≤ s ∧ s ≤ 3 ∧ M 51 q = nI s) : Ct mX10_mean [.ref 48, .int x] (SS Z ext) M (Rt (some (.long (if decide (x = 0) then lN (mnN (M 49 32) (M 51) (M 54) (M 49 0) sq / Nat.gcd (mnN (M 49 32) (M 51) (M 54) (M 49 0) sq) 4096) else lN (4096 / Nat.gcd (mnN (M 49 32) (M 51) (M 54) (M 49 0) sq) 4096)))) M) := by
  refine Ct.of (by decide) (Nat.le_of_ble_eq_true rfl) ?_
  refine x_iload_n dX10_mean_0 rfl ?_
  refine x_i2l dX10_mean_1 ?_
  refine x_lconst (v := 0) dX10_mean_2 (by decide) ?_
  refine x_lconst (v := 1) dX10_mean_3 (by decide) ?_
  refine x_csd mf_X10_in ml_X10_134 dX10_mean_4 rfl ⟨by decide, by decide⟩ (Nat.le_of_ble_eq_true rfl) ⟨rfl, rfl⟩ ⟨Nat.le_of_ble_eq_true rfl, Nat.le_of_ble_eq_true rfl⟩ (c_m_rg (a := 0) (b := 1) (by decide) (by decide)) ?_
  refine x_ifb_ne 14 dX10_mean_7 (by decide) (fun _ => ?_) (fun hc_ => absurd (hc_.symm.trans (hx)) Bool.false_ne_true)
  refine x_lconst (v := 0) dX10_mean_14 (by decide) ?_
  refine x_lstore_n dX10_mean_15 (by decide) ?_
  refine x_iconst (v := 0) dX10_mean_16 (by decide) ?_
  refine x_istore dX10_mean_17 (by decide) ?_
  refine lup (P := fun k => XW _ _ 0 0 (SS Z ext) M 19 [some (.ref 48), some (.int x), some (.long (lN (mnN (M 49 32) (M 51) (M 54) (M 49 0) k))), none, some (.int (nI k))] []) (N := sq) ?_ ?_ 0 (by omega)
  · have hl := mnN_le (M 49 32) (M 51) (M 54) (M 49 0) sq
    refine x_iload dX10_mean_19 rfl ?_
    refine x_aload_n dX10_mean_21 rfl ?_
    refine x_geti fl_X10_116 dX10_mean_22 sf_48 rfl ?_
    refine x_icmp_ge 82 dX10_mean_25 (by decide) (fun _ => ?_) (fun hc_ => absurd (by rw [hq]; exact nI_le (Nat.le_refl _) (by omega)) hc_)
    refine x_lload_n dX10_mean_82 rfl ?_
    refine x_ldc2 dX10_mean_83 kc_X10_338 ?_
    refine x_iload_n dX10_mean_86 rfl ?_
    refine x_csd mf_X10_lowest ml_X10_340 dX10_mean_87 rfl ⟨by decide, by decide⟩ (Nat.le_of_ble_eq_true rfl) ⟨rfl, rfl⟩ ⟨Nat.le_of_ble_eq_true rfl, Nat.le_of_ble_eq_true rfl⟩ (c_m_lowest _ 4096 x (by omega) (by decide) (by decide)) ?_
    exact x_lret dX10_mean_90 rfl (Nat.le_refl _) (Nat.le_refl _) ⟨rfl, ⟨rfl, rfl⟩⟩
  · intro k hk ih
    rw [nI_succ, mnN_s _ _ _ _ k, ← lN_add] at ih
    obtain ⟨s, hs1, hs2, hs3⟩ := hsz k hk
    have hcl : (M 51 k).toNatClampNeg = s := by rw [hs3]; exact nI_clamp (by omega)
    have hsh : (4096 : Int64) >>> (((4 : Int32) * M 51 k).toInt64 &&& 63) = lN (4096 / 16 ^ s) := by
      rw [hs3]
      rcases (show s = 1 ∨ s = 2 ∨ s = 3 by omega) with rfl | rfl | rfl <;> decide
    have e : (lN (if cntq (M 49 32) (M 51) k && inq (M 54) (M 49 0) k then 4096 / 16 ^ s else 0)) = (if cntq (M 49 32) (M 51) k && inq (M 54) (M 49 0) k then (4096 : Int64) >>> (((4 : Int32) * M 51 k).toInt64 &&& 63) else 0) := by
      cases (cntq (M 49 32) (M 51) k && inq (M 54) (M 49 0) k)
      · rfl
      · exact hsh.symm
    rw [hcl, e] at ih
    refine x_join M 74 [some (.ref 48), some (.int x), some (.long (lN (mnN (M 49 32) (M 51) (M 54) (M 49 0) k))), none, some (.int (nI k))] [.long (if cntq (M 49 32) (M 51) k && inq (M 54) (M 49 0) k then (4096 : Int64) >>> (((4 : Int32) * M 51 k).toInt64 &&& 63) else 0), .long (lN (mnN (M 49 32) (M 51) (M 54) (M 49 0) k))] ?_ (fun fin => ?_)
    · skip
      refine x_ladd dX10_mean_74 ?_
      refine x_lstore_n dX10_mean_75 (by decide) ?_
      refine x_iinc1 dX10_mean_76 rfl (by decide) ?_
      refine x_goto 19 dX10_mean_79 (by decide) ?_
      exact ih
    · refine x_iload dX10_mean_19 rfl ?_
      refine x_aload_n dX10_mean_21 rfl ?_
      refine x_geti fl_X10_116 dX10_mean_22 sf_48 rfl ?_
      refine x_icmp_ge 82 dX10_mean_25 (by decide) (fun hc_ => absurd hc_ (by rw [hq]; exact nI_ge hk (by omega))) (fun _ => ?_)
      refine x_lload_n dX10_mean_28 rfl ?_
      refine x_aload_n dX10_mean_29 rfl ?_
      refine x_iload dX10_mean_30 rfl ?_
      refine x_cvd mf_X10_doesCount ml_X10_205 dX10_mean_32 rfl sf_48 rfl ⟨by decide, by decide⟩ (Nat.le_of_ble_eq_true rfl) ⟨rfl, rfl⟩ ⟨Nat.le_of_ble_eq_true rfl, Nat.le_of_ble_eq_true rfl⟩ (c_m_doesCount k (by omega)) ?_
      refine x_ifb_eq 73 dX10_mean_35 (by decide) (fun h35 => ?_) (fun h35 => ?_)
      · refine x_lconst (v := 0) dX10_mean_73 (by decide) ?_
        first | (rw [h35, inq_f h54] at fin; exact fin) | (rw [h35, inq_t h54] at fin; exact fin) | (rw [h35] at fin; exact fin)
      · refine x_aload_n dX10_mean_38 rfl ?_
        refine x_getr fl_X10_26 dX10_mean_39 sf_48 rfl ?_
        refine x_iload dX10_mean_42 rfl ?_
        refine x_iald dX10_mean_44 sf_54 rfl (by omega) (by decide) ?_
        refine x_aload_n dX10_mean_45 rfl ?_
        refine x_getr fl_X10_7 dX10_mean_46 sf_48 rfl ?_
        refine x_iconst (v := 0) dX10_mean_49 (by decide) ?_
        refine x_iald (q := 0) dX10_mean_50 sf_49 (by decide) (by decide) (by decide) ?_
        refine x_iconst (v := -1) dX10_mean_51 (by decide) ?_
        refine x_ixor dX10_mean_52 ?_
        refine x_iand dX10_mean_53 ?_
        refine x_if_ne 73 dX10_mean_54 (by decide) (fun h54 => ?_) (fun h54 => ?_)
        · refine x_lconst (v := 0) dX10_mean_73 (by decide) ?_
          first | (rw [h35, inq_f h54] at fin; exact fin) | (rw [h35, inq_t h54] at fin; exact fin) | (rw [h35] at fin; exact fin)
        · refine x_ldc2 dX10_mean_57 kc_X10_338 ?_
          refine x_iconst (v := 4) dX10_mean_60 (by decide) ?_
          refine x_aload_n dX10_mean_61 rfl ?_
          refine x_getr fl_X10_17 dX10_mean_62 sf_48 rfl ?_
          refine x_iload dX10_mean_65 rfl ?_
          refine x_iald dX10_mean_67 sf_51 rfl (by omega) (by decide) ?_
          refine x_imul dX10_mean_68 ?_
          refine x_lshr dX10_mean_69 ?_
          refine x_goto 74 dX10_mean_70 (by decide) ?_
          first | (rw [h35, inq_f h54] at fin; exact fin) | (rw [h35, inq_t h54] at fin; exact fin) | (rw [h35] at fin; exact fin)
theorem c_m_chanceX {Z : List (Option Nat)} {ext : List Ds} {M : Mm} (x : Int32) (hx : rg x 0 1 = false) : Ct mX10_chance [.ref 48, .int x] (SS Z ext) M (Rt (some (.long (-1))) M) := by
  refine Ct.of (by decide) (Nat.le_of_ble_eq_true rfl) ?_
  refine x_iload_n dX10_chance_0 rfl ?_
  refine x_i2l dX10_chance_1 ?_
  refine x_lconst (v := 0) dX10_chance_2 (by decide) ?_
  refine x_lconst (v := 1) dX10_chance_3 (by decide) ?_
  refine x_csd mf_X10_in ml_X10_134 dX10_chance_4 rfl ⟨by decide, by decide⟩ (Nat.le_of_ble_eq_true rfl) ⟨rfl, rfl⟩ ⟨Nat.le_of_ble_eq_true rfl, Nat.le_of_ble_eq_true rfl⟩ (c_m_rg (a := 0) (b := 1) (by decide) (by decide)) ?_
  refine x_ifb_ne 14 dX10_chance_7 (by decide) (fun hc_ => absurd ((hx).symm.trans hc_) Bool.false_ne_true) (fun _ => ?_)
  refine x_ldc2 dX10_chance_10 kc_X10_336 ?_
  exact x_lret dX10_chance_13 rfl (Nat.le_refl _) (Nat.le_refl _) ⟨rfl, ⟨rfl, rfl⟩⟩
theorem c_m_chanceS {Z : List (Option Nat)} {ext : List Ds} {M : Mm} {mt : Nat} (x : Int32) (hx : rg x 0 1 = true) (hm : M 48 4 = nI mt) (hb : mt ≤ 31) (hc : 16 < fsC (M 49 0) mt) : Ct mX10_chance [.ref 48, .int x] (SS Z ext) M (fun r M' => r = some (.long (-2)) ∧ Eqm M M') := by
  have hle : fsC (M 49 0) mt ≤ 31 := Nat.le_trans (fsC_le _ _) hb
  refine Ct.of (by decide) (Nat.le_of_ble_eq_true rfl) ?_
  refine x_iload_n dX10_chance_0 rfl ?_
  refine x_i2l dX10_chance_1 ?_
  refine x_lconst (v := 0) dX10_chance_2 (by decide) ?_
  refine x_lconst (v := 1) dX10_chance_3 (by decide) ?_
  refine x_csd mf_X10_in ml_X10_134 dX10_chance_4 rfl ⟨by decide, by decide⟩ (Nat.le_of_ble_eq_true rfl) ⟨rfl, rfl⟩ ⟨Nat.le_of_ble_eq_true rfl, Nat.le_of_ble_eq_true rfl⟩ (c_m_rg (a := 0) (b := 1) (by decide) (by decide)) ?_
  refine x_ifb_ne 14 dX10_chance_7 (by decide) (fun _ => ?_) (fun hc_ => absurd (hc_.symm.trans (hx)) Bool.false_ne_true)
  refine x_aload_n dX10_chance_14 rfl ?_
  refine x_aload_n dX10_chance_15 rfl ?_
  refine x_getr fl_X10_7 dX10_chance_16 sf_48 rfl ?_
  refine x_iconst (v := 0) dX10_chance_19 (by decide) ?_
  refine x_iald (q := 0) dX10_chance_20 sf_49 (by decide) (by decide) (by decide) ?_
  refine x_cvd mf_X10_findSome ml_X10_272 dX10_chance_21 rfl sf_48 rfl ⟨by decide, by decide⟩ (Nat.le_of_ble_eq_true rfl) ⟨rfl, rfl⟩ ⟨Nat.le_of_ble_eq_true rfl, Nat.le_of_ble_eq_true rfl⟩ (c_m_findSome _ hm hb) ?_
  refine x_aload_n dX10_chance_24 rfl ?_
  refine x_geti fl_X10_267 dX10_chance_25 sf_48 rfl ?_
  refine x_bipush (v := 16) dX10_chance_28 (by decide) ?_
  refine x_icmp_le 37 dX10_chance_30 (by decide) (fun hc_ => absurd hc_ (by show ¬ nI (fsC _ mt) ≤ 16; exact nI_ge (a := 16) hc (by omega))) (fun _ => ?_)
  refine x_ldc2 dX10_chance_33 kc_X10_344 ?_
  exact x_lret dX10_chance_36 rfl (Nat.le_refl _) (Nat.le_refl _) ⟨rfl, ⟨rfl, fsM_eqm _ _ _⟩⟩
/-- no square is left of mask j -/
def noneL (C : Int32) (sz rm : Nat → Int32) (sq : Nat) (so : Nat → Int32) (m j : Nat) : Bool := decide (Lf C sz rm (ofR so (nI j) m) sq = 0)
theorem c_m_chance {Z : List (Option Nat)} {ext : List Ds} {M : Mm} {mt sq m : Nat} {so : Nat → Int32} (x : Int32) (hx : rg x 0 1 = true) (hm : M 48 4 = nI mt) (hb : mt ≤ 31) (hq : M 48 5 = nI sq) (hb2 : sq ≤ 20) (hcm : fsC (M 49 0) mt = m) (hso : fsR (M 49 0) (M 63) mt = so) (hc : m ≤ 16) : Ct mX10_chance [.ref 48, .int x] (SS Z ext) M (fun r M' => r = some (.long (if decide (x = 0) then lN (fb_ct (noneL (M 49 32) (M 51) (M 54) sq so m) (2 ^ m) / Nat.gcd (fb_ct (noneL (M 49 32) (M 51) (M 54) sq so m) (2 ^ m)) (2 ^ m)) else lN (2 ^ m / Nat.gcd (fb_ct (noneL (M 49 32) (M 51) (M 54) sq so m) (2 ^ m)) (2 ^ m)))) ∧ Eqm M M') := by
  have hp16 : 2 ^ m ≤ 65536 := Nat.le_trans (Nat.pow_le_pow_right (by decide) hc) (by decide)
  have hp0 : 0 < 2 ^ m := Nat.pow_pos (by decide)
  refine Ct.of (by decide) (Nat.le_of_ble_eq_true rfl) ?_
  have h35 : fsM M (M 49 0) mt 48 35 = nI m := by rw [← hcm]; rfl
  have h63 : fsM M (M 49 0) mt 63 = so := hso
  have hE := fsM_eqm M (M 49 0) mt
  have h49 : fsM M (M 49 0) mt 49 = M 49 := rfl
  have h51 : fsM M (M 49 0) mt 51 = M 51 := rfl
  have h54' : fsM M (M 49 0) mt 54 = M 54 := rfl
  have hq0 : fsM M (M 49 0) mt 48 5 = nI sq := hq
  refine x_iload_n dX10_chance_0 rfl ?_
  refine x_i2l dX10_chance_1 ?_
  refine x_lconst (v := 0) dX10_chance_2 (by decide) ?_
  refine x_lconst (v := 1) dX10_chance_3 (by decide) ?_
  refine x_csd mf_X10_in ml_X10_134 dX10_chance_4 rfl ⟨by decide, by decide⟩ (Nat.le_of_ble_eq_true rfl) ⟨rfl, rfl⟩ ⟨Nat.le_of_ble_eq_true rfl, Nat.le_of_ble_eq_true rfl⟩ (c_m_rg (a := 0) (b := 1) (by decide) (by decide)) ?_
  refine x_ifb_ne 14 dX10_chance_7 (by decide) (fun _ => ?_) (fun hc_ => absurd (hc_.symm.trans (hx)) Bool.false_ne_true)
  refine x_aload_n dX10_chance_14 rfl ?_
  refine x_aload_n dX10_chance_15 rfl ?_
  refine x_getr fl_X10_7 dX10_chance_16 sf_48 rfl ?_
  refine x_iconst (v := 0) dX10_chance_19 (by decide) ?_
  refine x_iald (q := 0) dX10_chance_20 sf_49 (by decide) (by decide) (by decide) ?_
  refine x_cvd mf_X10_findSome ml_X10_272 dX10_chance_21 rfl sf_48 rfl ⟨by decide, by decide⟩ (Nat.le_of_ble_eq_true rfl) ⟨rfl, rfl⟩ ⟨Nat.le_of_ble_eq_true rfl, Nat.le_of_ble_eq_true rfl⟩ (c_m_findSome _ hm hb) ?_
  refine x_aload_n dX10_chance_24 rfl ?_
  refine x_geti fl_X10_267 dX10_chance_25 sf_48 rfl ?_
  refine x_bipush (v := 16) dX10_chance_28 (by decide) ?_
  refine x_icmp_le 37 dX10_chance_30 (by decide) (fun _ => ?_) (fun hc_ => absurd (by rw [h35]; exact nI_le (b := 16) hc (by decide)) hc_)
  refine x_lconst (v := 0) dX10_chance_37 (by decide) ?_
  refine x_lstore_n dX10_chance_38 (by decide) ?_
  refine x_iconst (v := 0) dX10_chance_39 (by decide) ?_
  refine x_istore dX10_chance_40 (by decide) ?_
  skip
  generalize fsM M (M 49 0) mt = M0 at h35 h63 hE h49 h51 h54' hq0 ⊢
  refine lup (P := fun k => XW _ _ 0 0 (SS Z ext) M0 42 [some (.ref 48), some (.int x), some (.long (lN (fb_ct (noneL (M 49 32) (M 51) (M 54) sq so m) k))), none, some (.int (nI k))] []) (N := 2 ^ m) ?_ ?_ 0 (Nat.zero_le _)
  · have hl := fb_ct_le (noneL (M 49 32) (M 51) (M 54) sq so m) (2 ^ m)
    refine x_iload dX10_chance_42 rfl ?_
    refine x_iconst (v := 1) dX10_chance_44 (by decide) ?_
    refine x_aload_n dX10_chance_45 rfl ?_
    refine x_geti fl_X10_267 dX10_chance_46 sf_48 rfl ?_
    refine x_ishl dX10_chance_49 ?_
    rw [h35, tb_sh (by omega)]
    refine x_icmp_ge 80 dX10_chance_50 (by decide) (fun _ => ?_) (fun hc_ => absurd (nI_le (Nat.le_refl _) (by omega)) hc_)
    refine x_lload_n dX10_chance_80 rfl ?_
    refine x_lconst (v := 1) dX10_chance_81 (by decide) ?_
    refine x_aload_n dX10_chance_82 rfl ?_
    refine x_geti fl_X10_267 dX10_chance_83 sf_48 rfl ?_
    refine x_lshl dX10_chance_86 ?_
    rw [h35, show (1 : Int64) <<< ((nI m).toInt64 &&& 63) = lN (2 ^ m) by have h := wb_shl 1 (k := m) (by omega); rw [Nat.one_mul] at h; exact h]
    refine x_iload_n dX10_chance_87 rfl ?_
    refine x_csd mf_X10_lowest ml_X10_340 dX10_chance_88 rfl ⟨by decide, by decide⟩ (Nat.le_of_ble_eq_true rfl) ⟨rfl, rfl⟩ ⟨Nat.le_of_ble_eq_true rfl, Nat.le_of_ble_eq_true rfl⟩ (c_m_lowest _ (2 ^ m) x (by omega) (by omega) hp0) ?_
    exact x_lret dX10_chance_91 rfl (Nat.le_refl _) (Nat.le_refl _) ⟨rfl, ⟨rfl, hE⟩⟩
  · intro k hk ih
    have hlk : Lf (M0 49 32) (M0 51) (M0 54) (ofR (M0 63) (nI k) m) sq = Lf (M 49 32) (M 51) (M 54) (ofR so (nI k) m) sq := by rw [h49, h51, h54', h63]
    rw [nI_succ, fb_ct_succ _ k, ← lN_add, noneL, ← hlk] at ih
    refine x_iload dX10_chance_42 rfl ?_
    refine x_iconst (v := 1) dX10_chance_44 (by decide) ?_
    refine x_aload_n dX10_chance_45 rfl ?_
    refine x_geti fl_X10_267 dX10_chance_46 sf_48 rfl ?_
    refine x_ishl dX10_chance_49 ?_
    rw [h35, tb_sh (by omega)]
    refine x_icmp_ge 80 dX10_chance_50 (by decide) (fun hc_ => absurd hc_ (nI_ge hk (by omega))) (fun _ => ?_)
    refine x_lload_n dX10_chance_53 rfl ?_
    refine x_aload_n dX10_chance_54 rfl ?_
    refine x_aload_n dX10_chance_55 rfl ?_
    refine x_iload dX10_chance_56 rfl ?_
    refine x_cvd mf_X10_ofRow ml_X10_304 dX10_chance_58 rfl sf_48 rfl ⟨by decide, by decide⟩ (Nat.le_of_ble_eq_true rfl) ⟨rfl, rfl⟩ ⟨Nat.le_of_ble_eq_true rfl, Nat.le_of_ble_eq_true rfl⟩ (c_m_ofRow (m := m) (nI k) h35 (by omega)) ?_
    refine x_cvd mf_X10_leftOf ml_X10_221 dX10_chance_61 rfl sf_48 rfl ⟨by decide, by decide⟩ (Nat.le_of_ble_eq_true rfl) ⟨rfl, rfl⟩ ⟨Nat.le_of_ble_eq_true rfl, Nat.le_of_ble_eq_true rfl⟩ (c_m_leftOf (sq := sq) _ hq0 hb2) ?_
    refine x_if_ne 71 dX10_chance_64 (by decide) (fun h64 => ?_) (fun h64 => ?_)
    · refine x_lconst (v := 0) dX10_chance_71 (by decide) ?_
      refine x_ladd dX10_chance_72 ?_
      refine x_lstore_n dX10_chance_73 (by decide) ?_
      refine x_iinc1 dX10_chance_74 rfl (by decide) ?_
      refine x_goto 42 dX10_chance_77 (by decide) ?_
      first | (rw [decide_eq_true h64] at ih; exact ih) | (rw [decide_eq_false h64] at ih; exact ih)
    · refine x_lconst (v := 1) dX10_chance_67 (by decide) ?_
      refine x_goto 72 dX10_chance_68 (by decide) ?_
      refine x_ladd dX10_chance_72 ?_
      refine x_lstore_n dX10_chance_73 (by decide) ?_
      refine x_iinc1 dX10_chance_74 rfl (by decide) ?_
      refine x_goto 42 dX10_chance_77 (by decide) ?_
      first | (rw [decide_eq_true h64] at ih; exact ih) | (rw [decide_eq_false h64] at ih; exact ih)
