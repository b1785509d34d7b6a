/-! ===== what a search may change; the reference: between, just, gone ===== -/
/-- the ints of the memory that no later call reads before it writes them -/
def scr (c k : Nat) : Bool := (decide (c = 48) && (decide (10 ≤ k) && decide (k ≤ 17) || decide (20 ≤ k) && decide (k ≤ 23) || decide (k = 25) || decide (31 ≤ k) && decide (k ≤ 33) || decide (k = 35) || decide (37 ≤ k) && decide (k ≤ 39))) || (decide (55 ≤ c) && decide (c ≤ 56)) || (decide (58 ≤ c) && decide (c ≤ 67)) || (decide (c = 13) && decide (2 ≤ k)) || (decide (c = 15) && !decide (k = 5)) || (decide (16 ≤ c) && decide (c ≤ 36))
def Eqm (M M' : Mm) : Prop := ∀ c k, scr c k = false → M' c k = M c k
theorem Eqm.rf (M : Mm) : Eqm M M := fun _ _ _ => rfl
theorem Eqm.tr {M M' M'' : Mm} (h : Eqm M M') (h2 : Eqm M' M'') : Eqm M M'' := fun c k q => (h2 c k q).trans (h c k q)
theorem Eqm.u2 {M M' : Mm} {c k : Nat} {v : Int32} (h : Eqm M M') (hs : scr c k = true) : Eqm M (up2 M' c k v) := fun c' k' q => by
  rw [← h c' k' q]
  unfold up2
  by_cases h1 : c' = c
  · subst h1
    by_cases h2 : k' = k
    · subst h2; rw [hs] at q; cases q
    · simp [upd, h2]
  · simp [h1]
theorem Eqm.ur {M M' : Mm} {c : Nat} {f : Nat → Int32} (h : Eqm M M') (hs : ∀ k, scr c k = true) : Eqm M (upr M' c f) := fun c' k' q => by
  rw [← h c' k' q]
  unfold upr
  by_cases h1 : c' = c
  · subst h1; rw [hs] at q; cases q
  · simp [h1]
theorem fsM_eqm (M : Mm) (set : Int32) (k : Nat) : Eqm M (fsM M set k) := ((Eqm.rf M).u2 (by decide)).ur (fun _ => rfl)
theorem c_m_next0 {Z : List (Option Nat)} {ext : List Ds} {M : Mm} {m n : Nat} {a : Nat → Nat} {f : Nat → Int32} (hn : n ≤ 4) (hnm : n ≤ m) (hm : m ≤ 31) (ha : okA m n a) (h35 : M 48 35 = nI m) (hr : M 64 = atr n a f) (hK : lstk (cang m n a) n = none) : Ct mX10_nextOf [.ref 48, .int (nI n)] (SS Z ext) M (Rt (some (.int 0)) M) := by
  have h := c_m_nextOf (Z := Z) (ext := ext) (M := M) m n a f hn hnm hm ha h35 hr
  rw [hK] at h
  exact h
theorem c_m_next1 {Z : List (Option Nat)} {ext : List Ds} {M : Mm} {m n : Nat} {a : Nat → Nat} {f : Nat → Int32} {K : Nat} (hn : n ≤ 4) (hnm : n ≤ m) (hm : m ≤ 31) (ha : okA m n a) (h35 : M 48 35 = nI m) (hr : M 64 = atr n a f) (hK : lstk (cang m n a) n = some K) : Ct mX10_nextOf [.ref 48, .int (nI n)] (SS Z ext) M (Rt (some (.int 1)) (upr M 64 (atr n (nxa a K) f))) := by
  have h := c_m_nextOf (Z := Z) (ext := ext) (M := M) m n a f hn hnm hm ha h35 hr
  rw [hK] at h
  exact h
theorem okA_lt {m n : Nat} {a : Nat → Nat} (ha : okA m n a) (hnm : n ≤ m) (hm : m ≤ 31) : ∀ j, j < n → a j < 31 := fun j hj => by
  have := ha j hj
  omega
/-- the numbers of squares left, as bits -/
def btw (C : Int32) (sz rm : Nat → Int32) (sq : Nat) (L : Int32) (l : List Int32) (acc : Int32) : Int32 := l.foldl (fun a s => a ||| ((1 : Int32) <<< (Lf C sz rm (L &&& (s ^^^ (-1))) sq &&& 31))) acc
theorem c_m_betweenX {Z : List (Option Nat)} {ext : List Ds} {M : Mm} (x : Int32) (hx : rg x 0 4 = false) : Ct mX10_between [.ref 48, .int x] (SS Z ext) M (Rt (some (.int (-1))) M) := by
  refine Ct.of (by decide) (Nat.le_of_ble_eq_true rfl) ?_
  refine x_iload_n dX10_between_0 rfl ?_
  refine x_i2l dX10_between_1 ?_
  refine x_lconst (v := 0) dX10_between_2 (by decide) ?_
  refine x_ldc2 dX10_between_3 kc_X10_270 ?_
  refine x_csd mf_X10_in ml_X10_134 dX10_between_6 rfl ⟨by decide, by decide⟩ (Nat.le_of_ble_eq_true rfl) ⟨rfl, rfl⟩ ⟨Nat.le_of_ble_eq_true rfl, Nat.le_of_ble_eq_true rfl⟩ (c_m_rg (a := 0) (b := 4) (by decide) (by decide)) ?_
  refine x_ifb_ne 14 dX10_between_9 (by decide) (fun hc_ => absurd ((hx).symm.trans hc_) Bool.false_ne_true) (fun _ => ?_)
  refine x_iconst (v := -1) dX10_between_12 (by decide) ?_
  exact x_iret dX10_between_13 rfl rfl (Nat.le_refl _) (Nat.le_refl _) ⟨rfl, ⟨rfl, rfl⟩⟩
theorem c_m_betweenN {Z : List (Option Nat)} {ext : List Ds} {M : Mm} {mt : Nat} (n : Nat) (hn : n ≤ 4) (hm : M 48 4 = nI mt) (hb : mt ≤ 31) (hc : fsC (M 49 0) mt < n) : Ct mX10_between [.ref 48, .int (nI n)] (SS Z ext) M (fun r M' => r = some (.int (-4)) ∧ Eqm M M') := by
  refine Ct.of (by decide) (Nat.le_of_ble_eq_true rfl) ?_
  refine x_iload_n dX10_between_0 rfl ?_
  refine x_i2l dX10_between_1 ?_
  refine x_lconst (v := 0) dX10_between_2 (by decide) ?_
  refine x_ldc2 dX10_between_3 kc_X10_270 ?_
  refine x_csd mf_X10_in ml_X10_134 dX10_between_6 rfl ⟨by decide, by decide⟩ (Nat.le_of_ble_eq_true rfl) ⟨rfl, rfl⟩ ⟨Nat.le_of_ble_eq_true rfl, Nat.le_of_ble_eq_true rfl⟩ (c_m_rg (a := 0) (b := 4) (by decide) (by decide)) ?_
  refine x_ifb_ne 14 dX10_between_9 (by decide) (fun _ => ?_) (fun hc_ => absurd (hc_.symm.trans (rg_nI (a := 0) (b := 4) (by omega) hn (by decide))) Bool.false_ne_true)
  refine x_aload_n dX10_between_14 rfl ?_
  refine x_aload_n dX10_between_15 rfl ?_
  refine x_getr fl_X10_7 dX10_between_16 sf_48 rfl ?_
  refine x_iconst (v := 0) dX10_between_19 (by decide) ?_
  refine x_iald (q := 0) dX10_between_20 sf_49 (by decide) (by decide) (by decide) ?_
  refine x_cvd mf_X10_findSome ml_X10_272 dX10_between_21 rfl sf_48 rfl ⟨by decide, by decide⟩ (Nat.le_of_ble_eq_true rfl) ⟨rfl, rfl⟩ ⟨Nat.le_of_ble_eq_true rfl, Nat.le_of_ble_eq_true rfl⟩ (c_m_findSome _ hm hb) ?_
  refine x_aload_n dX10_between_24 rfl ?_
  refine x_geti fl_X10_267 dX10_between_25 sf_48 rfl ?_
  refine x_iload_n dX10_between_28 rfl ?_
  refine x_icmp_ge 35 dX10_between_29 (by decide) (fun hc_ => absurd hc_ (nI_ge (a := fsC (M 49 0) mt) hc (by omega))) (fun _ => ?_)
  refine x_bipush (v := -4) dX10_between_32 (by decide) ?_
  exact x_iret dX10_between_34 rfl rfl (Nat.le_refl _) (Nat.le_refl _) ⟨rfl, ⟨rfl, fsM_eqm _ _ _⟩⟩
theorem c_m_between {Z : List (Option Nat)} {ext : List Ds} {M : Mm} {mt sq : Nat} (n : Nat) (hn : n ≤ 4) (hm : M 48 4 = nI mt) (hb : mt ≤ 31) (hq : M 48 5 = nI sq) (hb2 : sq ≤ 20) (hc : n ≤ fsC (M 49 0) mt) : Ct mX10_between [.ref 48, .int (nI n)] (SS Z ext) M (fun r M' => r = some (.int (btw (M 49 32) (M 51) (M 54) sq (M 49 0) (Lx (bo (fsR (M 49 0) (M 63) mt)) (fsC (M 49 0) mt) n (fsC (M 49 0) mt) 0) 0)) ∧ Eqm M M') := by
  refine Ct.of (by decide) (Nat.le_of_ble_eq_true rfl) ?_
  have hle : fsC (M 49 0) mt ≤ 31 := Nat.le_trans (fsC_le _ _) hb
  generalize hcm : fsC (M 49 0) mt = m at hc hle
  generalize hso : fsR (M 49 0) (M 63) mt = so
  have h35 : fsM M (M 49 0) mt 48 35 = nI m := by rw [← hcm]; rfl
  have h63 : fsM M (M 49 0) mt 63 = so := hso
  have hE := fsM_eqm M (M 49 0) mt
  refine x_iload_n dX10_between_0 rfl ?_
  refine x_i2l dX10_between_1 ?_
  refine x_lconst (v := 0) dX10_between_2 (by decide) ?_
  refine x_ldc2 dX10_between_3 kc_X10_270 ?_
  refine x_csd mf_X10_in ml_X10_134 dX10_between_6 rfl ⟨by decide, by decide⟩ (Nat.le_of_ble_eq_true rfl) ⟨rfl, rfl⟩ ⟨Nat.le_of_ble_eq_true rfl, Nat.le_of_ble_eq_true rfl⟩ (c_m_rg (a := 0) (b := 4) (by decide) (by decide)) ?_
  refine x_ifb_ne 14 dX10_between_9 (by decide) (fun _ => ?_) (fun hc_ => absurd (hc_.symm.trans (rg_nI (a := 0) (b := 4) (by omega) hn (by decide))) Bool.false_ne_true)
  refine x_aload_n dX10_between_14 rfl ?_
  refine x_aload_n dX10_between_15 rfl ?_
  refine x_getr fl_X10_7 dX10_between_16 sf_48 rfl ?_
  refine x_iconst (v := 0) dX10_between_19 (by decide) ?_
  refine x_iald (q := 0) dX10_between_20 sf_49 (by decide) (by decide) (by decide) ?_
  refine x_cvd mf_X10_findSome ml_X10_272 dX10_between_21 rfl sf_48 rfl ⟨by decide, by decide⟩ (Nat.le_of_ble_eq_true rfl) ⟨rfl, rfl⟩ ⟨Nat.le_of_ble_eq_true rfl, Nat.le_of_ble_eq_true rfl⟩ (c_m_findSome _ hm hb) ?_
  refine x_aload_n dX10_between_24 rfl ?_
  refine x_geti fl_X10_267 dX10_between_25 sf_48 rfl ?_
  refine x_iload_n dX10_between_28 rfl ?_
  refine x_icmp_ge 35 dX10_between_29 (by decide) (fun _ => ?_) (fun hc_ => absurd (by rw [h35]; exact nI_le hc (by omega)) hc_)
  refine x_iconst (v := 0) dX10_between_35 (by decide) ?_
  refine x_istore_n dX10_between_36 (by decide) ?_
  refine x_aload_n dX10_between_37 rfl ?_
  refine x_iload_n dX10_between_38 rfl ?_
  refine x_cvd mf_X10_firstOf ml_X10_275 dX10_between_39 rfl sf_48 rfl ⟨by decide, by decide⟩ (Nat.le_of_ble_eq_true rfl) ⟨rfl, rfl⟩ ⟨Nat.le_of_ble_eq_true rfl, Nat.le_of_ble_eq_true rfl⟩ (c_m_firstOf n hn) ?_
  refine x_iconst (v := 1) dX10_between_42 (by decide) ?_
  refine x_istore_n dX10_between_43 (by decide) ?_
  skip
  have h49 : fsM M (M 49 0) mt 49 = M 49 := rfl
  have h51 : fsM M (M 49 0) mt 51 = M 51 := rfl
  have h54 : fsM M (M 49 0) mt 54 = M 54 := rfl
  have hq0 : fsM M (M 49 0) mt 48 5 = nI sq := hq
  generalize fsM M (M 49 0) mt = M0 at h35 h63 hE h49 h51 h54 hq0 ⊢
  generalize hf : M0 64 = f
  rw [← Rm_first _ hc]
  generalize hV : btw (M 49 32) (M 51) (M 54) sq (M 49 0) (sna (bo so) (fun j => j) n :: Rm (bo so) m n (fun j => j) n) 0 = V
  refine enumI (bo so) hc (P := fun a l => ∀ acc, btw (M 49 32) (M 51) (M 54) sq (M 49 0) (sna (bo so) a n :: l) acc = V → XW mX10_between (Fc mX10_between (fun r S' M' => S' = SS Z ext ∧ r = some (.int V) ∧ Eqm M M')) 0 0 (SS Z ext) (upr M0 64 (atr n a f)) 44 [some (.ref 48), some (.int (nI n)), some (.int acc), some (.int 1)] []) ?_ ?_ (fun j => j) ok_first 0 hV
  · intro a ha hK acc hacc
    refine x_iload_n dX10_between_44 rfl ?_
    refine x_if_eq 80 dX10_between_45 (by decide) (fun hc_ => absurd hc_ (by decide)) (fun _ => ?_)
    refine x_iload_n dX10_between_48 rfl ?_
    refine x_iconst (v := 1) dX10_between_49 (by decide) ?_
    refine x_aload_n dX10_between_50 rfl ?_
    refine x_aload_n dX10_between_51 rfl ?_
    refine x_getr fl_X10_7 dX10_between_52 sf_48 rfl ?_
    refine x_iconst (v := 0) dX10_between_55 (by decide) ?_
    refine x_iald (q := 0) dX10_between_56 sf_49 (by decide) (by decide) (by decide) ?_
    refine x_aload_n dX10_between_57 rfl ?_
    refine x_iload_n dX10_between_58 rfl ?_
    refine x_cvd mf_X10_setNow ml_X10_278 dX10_between_59 rfl sf_48 rfl ⟨by decide, by decide⟩ (Nat.le_of_ble_eq_true rfl) ⟨rfl, rfl⟩ ⟨Nat.le_of_ble_eq_true rfl, Nat.le_of_ble_eq_true rfl⟩ (c_m_setNow n a hn (okA_lt ha hc hle) (fun j hj => atr_in hj)) ?_
    refine x_iconst (v := -1) dX10_between_62 (by decide) ?_
    refine x_ixor dX10_between_63 ?_
    refine x_iand dX10_between_64 ?_
    refine x_cvd mf_X10_leftOf ml_X10_221 dX10_between_65 rfl sf_48 rfl ⟨by decide, by decide⟩ (Nat.le_of_ble_eq_true rfl) ⟨rfl, rfl⟩ ⟨Nat.le_of_ble_eq_true rfl, Nat.le_of_ble_eq_true rfl⟩ (c_m_leftOf (sq := sq) _ hq0 hb2) ?_
    refine x_ishl dX10_between_68 ?_
    refine x_ior dX10_between_69 ?_
    refine x_istore_n dX10_between_70 (by decide) ?_
    refine x_aload_n dX10_between_71 rfl ?_
    refine x_iload_n dX10_between_72 rfl ?_
    refine x_cvd mf_X10_nextOf ml_X10_281 dX10_between_73 rfl sf_48 rfl ⟨by decide, by decide⟩ (Nat.le_of_ble_eq_true rfl) ⟨rfl, rfl⟩ ⟨Nat.le_of_ble_eq_true rfl, Nat.le_of_ble_eq_true rfl⟩ (c_m_next0 hn hc hle ha h35 rfl hK) ?_
    refine x_istore_n dX10_between_76 (by decide) ?_
    refine x_goto 44 dX10_between_77 (by decide) ?_
    refine x_join (upr M0 64 (atr n a f)) 44 [some (.ref 48), some (.int (nI n)), some (.int (btw (M 49 32) (M 51) (M 54) sq (M 49 0) [sna (bo so) a n] acc)), some (.int 0)] [] ?_ (fun fin => ?_)
    · rw [hacc]
      refine x_iload_n dX10_between_44 rfl ?_
      refine x_if_eq 80 dX10_between_45 (by decide) (fun _ => ?_) (fun hc_ => absurd (rfl) hc_)
      refine x_iload_n dX10_between_80 rfl ?_
      exact x_iret dX10_between_81 rfl rfl (Nat.le_refl _) (Nat.le_refl _) ⟨rfl, ⟨rfl, hE.ur (fun _ => rfl)⟩⟩
    · rw [← h49, ← h51, ← h54, ← h63] at fin
      exact fin
  · intro a K ha hK hok ih acc hacc
    have ih := ih (btw (M 49 32) (M 51) (M 54) sq (M 49 0) [sna (bo so) a n] acc) hacc
    refine x_iload_n dX10_between_44 rfl ?_
    refine x_if_eq 80 dX10_between_45 (by decide) (fun hc_ => absurd hc_ (by decide)) (fun _ => ?_)
    refine x_iload_n dX10_between_48 rfl ?_
    refine x_iconst (v := 1) dX10_between_49 (by decide) ?_
    refine x_aload_n dX10_between_50 rfl ?_
    refine x_aload_n dX10_between_51 rfl ?_
    refine x_getr fl_X10_7 dX10_between_52 sf_48 rfl ?_
    refine x_iconst (v := 0) dX10_between_55 (by decide) ?_
    refine x_iald (q := 0) dX10_between_56 sf_49 (by decide) (by decide) (by decide) ?_
    refine x_aload_n dX10_between_57 rfl ?_
    refine x_iload_n dX10_between_58 rfl ?_
    refine x_cvd mf_X10_setNow ml_X10_278 dX10_between_59 rfl sf_48 rfl ⟨by decide, by decide⟩ (Nat.le_of_ble_eq_true rfl) ⟨rfl, rfl⟩ ⟨Nat.le_of_ble_eq_true rfl, Nat.le_of_ble_eq_true rfl⟩ (c_m_setNow n a hn (okA_lt ha hc hle) (fun j hj => atr_in hj)) ?_
    refine x_iconst (v := -1) dX10_between_62 (by decide) ?_
    refine x_ixor dX10_between_63 ?_
    refine x_iand dX10_between_64 ?_
    refine x_cvd mf_X10_leftOf ml_X10_221 dX10_between_65 rfl sf_48 rfl ⟨by decide, by decide⟩ (Nat.le_of_ble_eq_true rfl) ⟨rfl, rfl⟩ ⟨Nat.le_of_ble_eq_true rfl, Nat.le_of_ble_eq_true rfl⟩ (c_m_leftOf (sq := sq) _ hq0 hb2) ?_
    refine x_ishl dX10_between_68 ?_
    refine x_ior dX10_between_69 ?_
    refine x_istore_n dX10_between_70 (by decide) ?_
    refine x_aload_n dX10_between_71 rfl ?_
    refine x_iload_n dX10_between_72 rfl ?_
    refine x_cvd mf_X10_nextOf ml_X10_281 dX10_between_73 rfl sf_48 rfl ⟨by decide, by decide⟩ (Nat.le_of_ble_eq_true rfl) ⟨rfl, rfl⟩ ⟨Nat.le_of_ble_eq_true rfl, Nat.le_of_ble_eq_true rfl⟩ (c_m_next1 hn hc hle ha h35 rfl hK) ?_
    refine x_istore_n dX10_between_76 (by decide) ?_
    refine x_goto 44 dX10_between_77 (by decide) ?_
    rw [upr_upr]
    rw [← h49, ← h51, ← h54, ← h63] at ih
    exact ih
