/-! ===== the class: searchAll, fewest, cheapest ===== -/
def tcR (sqs : Int32) (rm : Nat → Int32) (sq : Nat) (f : Nat → Int32) : Nat → Nat → Int32
  | 0 => f
  | m + 1 => upd (tcR sqs rm sq f m) m (orb (tou rm sqs (nI m)) sq)
theorem tcR_s (sqs : Int32) (rm : Nat → Int32) (sq : Nat) (f : Nat → Int32) (m : Nat) : tcR sqs rm sq f (m + 1) = upd (tcR sqs rm sq f m) m (orb (tou rm sqs (nI m)) sq) := rfl
/-- from place a on, below b, with a bit more -/
def upV (x : Int32) (f : Nat → Int32) (a b : Nat) : Nat → Int32 := fun v => if a ≤ v ∧ v < b then f v ||| x else f v
theorem upV_0 (x : Int32) (f : Nat → Int32) (a : Nat) : upV x f a a = f := by funext v; unfold upV; rw [if_neg (by omega)]
theorem upV_s (x : Int32) (f : Nat → Int32) {a b : Nat} (h : a ≤ b) : upV x f a (b + 1) = upd (upV x f a b) b (upV x f a b b ||| x) := by
  funext v
  unfold upV upd
  by_cases e : v = b
  · subst e
    rw [if_pos ⟨h, by omega⟩, if_pos rfl, if_neg (by omega)]
  · rw [if_neg e]
    show (if a ≤ v ∧ v < b + 1 then f v ||| x else f v) = (if a ≤ v ∧ v < b then f v ||| x else f v)
    by_cases h2 : a ≤ v ∧ v < b
    · rw [if_pos h2, if_pos (by omega)]
    · rw [if_neg h2, if_neg (by omega)]
def upG (co : Nat → Int32) (f : Nat → Int32) : Nat → Nat → Int32
  | 0 => f
  | m + 1 => upV (b1 m) (upG co f m) (co m).toNatClampNeg 10
theorem upG_s (co : Nat → Int32) (f : Nat → Int32) (m : Nat) : upG co f (m + 1) = upV (b1 m) (upG co f m) (co m).toNatClampNeg 10 := rfl
def saM (M : Mm) (t sq : Nat) : Mm := upr (upr (upr (up2 M 19 3 (nI sq)) 23 (fillv 10 0 (M 23))) 21 (va_cpy (M 5) (M 21) 0 0 20)) 20 (va_cpy (M (t + 1)) (M 20) 0 0 31)
def sbM (M : Mm) (t sq : Nat) (r22 r23 : Nat → Int32) : Mm := upr (upr (saM M t sq) 22 r22) 23 r23
theorem sb_22 (M : Mm) (t sq : Nat) (r22 r23 : Nat → Int32) (k : Nat) (v : Int32) : up2 (sbM M t sq r22 r23) 22 k v = sbM M t sq (upd r22 k v) r23 := by rw [sbM, sbM, up2_upr_ne _ _ _ (by decide), up2_upr2]
theorem sb_23 (M : Mm) (t sq : Nat) (r22 r23 : Nat → Int32) (k : Nat) (v : Int32) : up2 (sbM M t sq r22 r23) 23 k v = sbM M t sq r22 (upd r23 k v) := by rw [sbM, sbM, up2_upr2]
theorem sb_eqm (M : Mm) (t sq : Nat) (r22 r23 : Nat → Int32) : Eqm M (sbM M t sq r22 r23) := ((((((Eqm.rf M).u2 (by decide)).ur (fun _ => rfl)).ur (fun _ => rfl)).ur (fun _ => rfl)).ur (fun _ => rfl)).ur (fun _ => rfl)
theorem cpy_in {f g : Nat → Int32} {n k : Nat} (h : k < n) : va_cpy f g 0 0 n k = f k := by
  unfold va_cpy
  rw [if_pos (by omega)]
  congr 1
  omega
theorem sa_pp (X : Mm) : up2 (up2 (up2 X 19 0 279) 19 1 0) 19 2 0 = bkM X (279, 0, 0, X 19 8) := by
  have e := bk_id X
  have h : up2 (up2 (up2 (bkM X (X 19 0, X 19 1, X 19 2, X 19 8)) 19 0 279) 19 1 0) 19 2 0 = bkM X (279, 0, 0, X 19 8) := by rw [bk_0, bk_1, bk_2]
  rw [e] at h
  exact h
theorem sa_up_10 {Z : List (Option Nat)} {ext : List Ds} {M : Mm} {Q : Option Value → List Ds → Mm → Prop} {sqs : Int32} {sq m c : Nat} {r22 r23 : Nat → Int32} (h1 : 1 ≤ c) (h2 : c ≤ 9) (fin : ∀ l5, XW mX0_searchAll (Fc mX0_searchAll Q) 0 0 (SS Z ext) (sbM M 10 sq r22 (upV (b1 m) r23 c 10)) 108 [some (.ref 19), some (.ref 1), some (.int sqs), some (.ref 10), some (.int (nI m)), l5] []) :
    XW mX0_searchAll (Fc mX0_searchAll Q) 0 0 (SS Z ext) (sbM M 10 sq r22 r23) 81 [some (.ref 19), some (.ref 1), some (.int sqs), some (.ref 10), some (.int (nI m)), some (.int (nI c))] [] := by
  have h := lupb (P := fun v => XW mX0_searchAll (Fc mX0_searchAll Q) 0 0 (SS Z ext) (sbM M 10 sq r22 (upV (b1 m) r23 c v)) 81 [some (.ref 19), some (.ref 1), some (.int sqs), some (.ref 10), some (.int (nI m)), some (.int (nI v))] []) (N := 10) (k0 := c) ?_ ?_ (by omega)
  · rw [upV_0] at h
    exact h
  · refine x_iload dX0_searchAll_81 rfl ?_
    refine x_bipush (v := 9) dX0_searchAll_83 (by decide) ?_
    refine x_icmp_gt 108 dX0_searchAll_85 (by decide) (fun _ => ?_) (fun hc_ => absurd (by decide) hc_)
    exact fin _
  · intro v hv1 hv2 ih
    rw [nI_succ v, upV_s _ _ hv1, ← sb_23] at ih
    refine x_iload dX0_searchAll_81 rfl ?_
    refine x_bipush (v := 9) dX0_searchAll_83 (by decide) ?_
    refine x_icmp_gt 108 dX0_searchAll_85 (by decide) (fun hc_ => absurd hc_ (nI_nlt (a := 9) (b := v) (by omega) (by decide))) (fun _ => ?_)
    refine x_aload_n dX0_searchAll_88 rfl ?_
    refine x_getr fl_X0_21 dX0_searchAll_89 sf_19 rfl ?_
    refine x_iload dX0_searchAll_92 rfl ?_
    refine x_dup2 dX0_searchAll_94 rfl rfl ?_
    refine x_iald dX0_searchAll_95 sf_23 rfl (by omega) (by decide) ?_
    refine x_iconst (v := 1) dX0_searchAll_96 (by decide) ?_
    refine x_iload dX0_searchAll_97 rfl ?_
    refine x_ishl dX0_searchAll_99 ?_
    refine x_ior dX0_searchAll_100 ?_
    refine x_iast dX0_searchAll_101 sf_23 rfl (by omega) (by decide) ?_
    refine x_iinc1 dX0_searchAll_102 rfl (by decide) ?_
    refine x_goto 81 dX0_searchAll_105 (by decide) ?_
    exact ih
theorem c_searchAll_10 {Z : List (Option Nat)} {ext : List Ds} {M : Mm} {sq mt : Nat} {co rm : Nat → Int32} (sqs : Int32) (hm : M 1 2 = nI mt) (hmb : mt ≤ 31) (hq : M 1 3 = nI sq) (hb : sq ≤ 20) (hr : ∀ q, q < sq → ∀ F, ¬ (31 : Int32) ≤ bcE (M 5 q &&& F)) (hco : ∀ k, k < 31 → ∃ c, 1 ≤ c ∧ c ≤ 9 ∧ M 11 k = nI c) (hU : ∀ i, bi sqs i = true → i < sq) (hpa : psv (((1 : Int32) <<< (M 1 2 &&& 31)) - 1)) (hcoe : va_cpy (M 11) (M 20) 0 0 31 = co) (hrme : va_cpy (M 5) (M 21) 0 0 20 = rm) :
    Ct mX0_searchAll [.ref 19, .ref 1, .int sqs, .ref 10] (SS Z ext) M (Rt none (bkM (sbM M 10 sq (tcR sqs (M 5) sq (M 22) mt) (upG co (fillv 10 0 (M 23)) mt)) (bk rm (upG co (fillv 10 0 (M 23)) mt) (tcR sqs (M 5) sq (M 22) mt) co sq 20 sqs (((1 : Int32) <<< (M 1 2 &&& 31)) - 1) 0 0 (279, 0, 0, M 19 8)))) := by
  have hcc : ∀ k, k < 31 → ∃ c, 1 ≤ c ∧ c ≤ 9 ∧ co k = nI c := by
    intro k hk
    rw [← hcoe, cpy_in hk]
    exact hco k hk
  have hr2 : ∀ q, q < sq → ∀ F, ¬ (31 : Int32) ≤ bcE (rm q &&& F) := by
    intro q hq F
    rw [← hrme, cpy_in (by omega)]
    exact hr q hq F
  have e20 : ∀ r22 r23, sbM M 10 sq r22 r23 20 = co := fun _ _ => hcoe
  have e21 : ∀ r22 r23, sbM M 10 sq r22 r23 21 = rm := fun _ _ => hrme
  refine Ct.of (by decide) (Nat.le_of_ble_eq_true rfl) ?_
  refine x_aload_n dX0_searchAll_0 rfl ?_
  refine x_aload_n dX0_searchAll_1 rfl ?_
  refine x_geti fl_X0_24 dX0_searchAll_2 sf_1 rfl ?_
  rw [hq]
  refine x_put fl_X0_30 dX0_searchAll_5 sf_19 rfl rfl rfl ?_
  refine x_aload_n dX0_searchAll_8 rfl ?_
  refine x_getr fl_X0_21 dX0_searchAll_9 sf_19 rfl ?_
  refine x_iconst (v := 0) dX0_searchAll_12 (by decide) ?_
  refine x_csd mf_J7_fill_53178 ml_X0_31 dX0_searchAll_13 rfl ⟨by decide, by decide⟩ (Nat.le_of_ble_eq_true rfl) ⟨rfl, rfl⟩ ⟨Nat.le_of_ble_eq_true rfl, Nat.le_of_ble_eq_true rfl⟩ (c_fill (n := 10) sf_23 (by decide) 0) ?_
  refine x_aload_n dX0_searchAll_16 rfl ?_
  refine x_getr fl_X0_37 dX0_searchAll_17 sf_1 rfl ?_
  refine x_iconst (v := 0) dX0_searchAll_20 (by decide) ?_
  refine x_aload_n dX0_searchAll_21 rfl ?_
  refine x_getr fl_X0_15 dX0_searchAll_22 sf_19 rfl ?_
  refine x_iconst (v := 0) dX0_searchAll_25 (by decide) ?_
  refine x_bipush (v := 20) dX0_searchAll_26 (by decide) ?_
  refine x_copy (n := 20) ml_X0_38 dX0_searchAll_28 sf_5 sf_21 rfl rfl rfl (by decide) (by decide) (by decide) ⟨by decide, Nat.le_of_ble_eq_true rfl⟩ ?_
  refine x_aload_n dX0_searchAll_31 rfl ?_
  refine x_getr fl_X0_44 dX0_searchAll_32 sf_10 rfl ?_
  refine x_iconst (v := 0) dX0_searchAll_35 (by decide) ?_
  refine x_aload_n dX0_searchAll_36 rfl ?_
  refine x_getr fl_X0_9 dX0_searchAll_37 sf_19 rfl ?_
  refine x_iconst (v := 0) dX0_searchAll_40 (by decide) ?_
  refine x_bipush (v := 31) dX0_searchAll_41 (by decide) ?_
  refine x_copy (n := 31) ml_X0_38 dX0_searchAll_43 sf_11 sf_20 rfl rfl rfl (by decide) (by decide) (by decide) ⟨by decide, Nat.le_of_ble_eq_true rfl⟩ ?_
  refine x_iconst (v := 0) dX0_searchAll_46 (by decide) ?_
  refine x_istore dX0_searchAll_47 (by decide) ?_
  refine x_eq (M := sbM M 10 sq (tcR sqs (M 5) sq (M 22) 0) (upG co (fillv 10 0 (M 23)) 0)) (by rw [sbM, show tcR sqs (M 5) sq (M 22) 0 = (saM M 10 sq) 22 from rfl, upr_self, show upG co (fillv 10 0 (M 23)) 0 = (saM M 10 sq) 23 from rfl, upr_self]; rfl) rfl rfl rfl ?_
  refine (lup (P := fun m => ∀ l5, XW _ _ 0 0 (SS Z ext) (sbM M 10 sq (tcR sqs (M 5) sq (M 22) m) (upG co (fillv 10 0 (M 23)) m)) 49 [some (.ref 19), some (.ref 1), some (.int sqs), some (.ref 10), some (.int (nI m)), l5] []) (N := mt) ?_ ?_ 0 (by omega)) none
  · intro l5
    generalize tcR sqs (M 5) sq (M 22) mt = r22
    generalize upG co (fillv 10 0 (M 23)) mt = r23
    have hbk := c_breakOn (Z := Z) (ext := ext) (M := sbM M 10 sq r22 r23) (sq := sq) rfl hb (by rw [e21]; exact hr2) (by
      intro k hk
      rw [e20]
      obtain ⟨c, h1, h2, h3⟩ := hcc k hk
      rw [h3, nI_toInt (by omega)]
      omega) 20 40 0 sqs (((1 : Int32) <<< (M 1 2 &&& 31)) - 1) 0 0 (279, 0, 0, M 19 8) (by omega) (by omega) hpa hU (by decide) (by decide) (show (279 : Int32).toInt ≤ 279 by decide)
    rw [e20, e21, show sbM M 10 sq r22 r23 22 = r22 from rfl, show sbM M 10 sq r22 r23 23 = r23 from rfl] at hbk
    have ca := c_all (M := bkM (sbM M 10 sq r22 r23) (279, 0, 0, M 19 8)) (ShG_SS Z ext)
    refine x_iload dX0_searchAll_49 rfl ?_
    refine x_aload_n dX0_searchAll_51 rfl ?_
    refine x_geti fl_X0_47 dX0_searchAll_52 sf_1 rfl ?_
    refine x_icmp_ge 114 dX0_searchAll_55 (by decide) (fun _ => ?_) (fun hc_ => absurd (by show M 1 2 ≤ nI mt; rw [hm]; exact nI_le (Nat.le_refl _) (by omega)) hc_)
    refine x_aload_n dX0_searchAll_114 rfl ?_
    refine x_sipush (v := 279) dX0_searchAll_115 (by decide) ?_
    refine x_put fl_X0_54 dX0_searchAll_118 sf_19 rfl rfl rfl ?_
    refine x_aload_n dX0_searchAll_121 rfl ?_
    refine x_iconst (v := 0) dX0_searchAll_122 (by decide) ?_
    refine x_put fl_X0_57 dX0_searchAll_123 sf_19 rfl rfl rfl ?_
    refine x_aload_n dX0_searchAll_126 rfl ?_
    refine x_iconst (v := 0) dX0_searchAll_127 (by decide) ?_
    refine x_put fl_X0_60 dX0_searchAll_128 sf_19 rfl rfl rfl ?_
    rw [sa_pp]
    refine x_aload_n dX0_searchAll_131 rfl ?_
    refine x_iconst (v := 0) dX0_searchAll_132 (by decide) ?_
    refine x_iload_n dX0_searchAll_133 rfl ?_
    refine x_aload_n dX0_searchAll_134 rfl ?_
    refine x_cvd mf_X2_all ml_X0_63 dX0_searchAll_135 rfl sf_1 rfl ⟨by decide, by decide⟩ (Nat.le_of_ble_eq_true rfl) ⟨rfl, rfl⟩ ⟨Nat.le_of_ble_eq_true rfl, Nat.le_of_ble_eq_true rfl⟩ (ca) ?_
    refine x_iconst (v := 0) dX0_searchAll_138 (by decide) ?_
    refine x_iconst (v := 0) dX0_searchAll_139 (by decide) ?_
    refine x_csd (mf_X0_breakOn _) ml_X0_67 dX0_searchAll_140 rfl ⟨by first | decide | omega, by first | decide | omega⟩ (Nat.le_of_ble_eq_true rfl) ⟨rfl, rfl⟩ ⟨Nat.le_of_ble_eq_true rfl, Nat.le_of_ble_eq_true rfl⟩ (hbk) ?_
    exact x_ret dX0_searchAll_143 rfl (Nat.le_refl _) (Nat.le_refl _) ⟨rfl, ⟨rfl, rfl⟩⟩
  · intro m hmm ih l5
    obtain ⟨c, h1, h2, h3⟩ := hcc m (by omega)
    rw [nI_succ m, tcR_s _ _ _ _ m, upG_s _ _ m, h3, nI_clamp (by omega)] at ih
    generalize tcR sqs (M 5) sq (M 22) m = r22 at ih ⊢
    generalize upG co (fillv 10 0 (M 23)) m = r23 at ih ⊢
    have ct := c_touching (S := SS Z ext) (M := sbM M 10 sq r22 r23) (ShG_SS Z ext) sqs (nI m) hq hb
    refine x_iload dX0_searchAll_49 rfl ?_
    refine x_aload_n dX0_searchAll_51 rfl ?_
    refine x_geti fl_X0_47 dX0_searchAll_52 sf_1 rfl ?_
    refine x_icmp_ge 114 dX0_searchAll_55 (by decide) (fun hc_ => absurd hc_ (by show ¬ M 1 2 ≤ nI m; rw [hm]; exact nI_ge hmm (by omega))) (fun _ => ?_)
    refine x_aload_n dX0_searchAll_58 rfl ?_
    refine x_getr fl_X0_18 dX0_searchAll_59 sf_19 rfl ?_
    refine x_iload dX0_searchAll_62 rfl ?_
    refine x_aload_n dX0_searchAll_64 rfl ?_
    refine x_iload_n dX0_searchAll_65 rfl ?_
    refine x_iload dX0_searchAll_66 rfl ?_
    refine x_cvd mf_X2_touching ml_X0_50 dX0_searchAll_68 rfl sf_1 rfl ⟨by decide, by decide⟩ (Nat.le_of_ble_eq_true rfl) ⟨rfl, rfl⟩ ⟨Nat.le_of_ble_eq_true rfl, Nat.le_of_ble_eq_true rfl⟩ (ct) ?_
    refine x_iast dX0_searchAll_71 sf_22 rfl (by omega) (by decide) ?_
    rw [sb_22]
    refine x_aload_n dX0_searchAll_72 rfl ?_
    refine x_getr fl_X0_9 dX0_searchAll_73 sf_19 rfl ?_
    refine x_iload dX0_searchAll_76 rfl ?_
    refine x_iald dX0_searchAll_78 sf_20 rfl (by omega) (by decide) ?_
    rw [show sbM M 10 sq (upd r22 m (orb (tou (sbM M 10 sq r22 r23 5) sqs (nI m)) sq)) r23 20 m = nI c by rw [e20]; exact h3]
    refine x_istore dX0_searchAll_79 (by decide) ?_
    refine sa_up_10 h1 h2 (fun l5 => ?_)
    refine x_iinc1 dX0_searchAll_108 rfl (by decide) ?_
    refine x_goto 49 dX0_searchAll_111 (by decide) ?_
    exact ih _
theorem sa_up_39 {Z : List (Option Nat)} {ext : List Ds} {M : Mm} {Q : Option Value → List Ds → Mm → Prop} {sqs : Int32} {sq m c : Nat} {r22 r23 : Nat → Int32} (h1 : 1 ≤ c) (h2 : c ≤ 9) (fin : ∀ l5, XW mX0_searchAll (Fc mX0_searchAll Q) 0 0 (SS Z ext) (sbM M 39 sq r22 (upV (b1 m) r23 c 10)) 108 [some (.ref 19), some (.ref 1), some (.int sqs), some (.ref 39), some (.int (nI m)), l5] []) :
    XW mX0_searchAll (Fc mX0_searchAll Q) 0 0 (SS Z ext) (sbM M 39 sq r22 r23) 81 [some (.ref 19), some (.ref 1), some (.int sqs), some (.ref 39), some (.int (nI m)), some (.int (nI c))] [] := by
  have h := lupb (P := fun v => XW mX0_searchAll (Fc mX0_searchAll Q) 0 0 (SS Z ext) (sbM M 39 sq r22 (upV (b1 m) r23 c v)) 81 [some (.ref 19), some (.ref 1), some (.int sqs), some (.ref 39), some (.int (nI m)), some (.int (nI v))] []) (N := 10) (k0 := c) ?_ ?_ (by omega)
  · rw [upV_0] at h
    exact h
  · refine x_iload dX0_searchAll_81 rfl ?_
    refine x_bipush (v := 9) dX0_searchAll_83 (by decide) ?_
    refine x_icmp_gt 108 dX0_searchAll_85 (by decide) (fun _ => ?_) (fun hc_ => absurd (by decide) hc_)
    exact fin _
  · intro v hv1 hv2 ih
    rw [nI_succ v, upV_s _ _ hv1, ← sb_23] at ih
    refine x_iload dX0_searchAll_81 rfl ?_
    refine x_bipush (v := 9) dX0_searchAll_83 (by decide) ?_
    refine x_icmp_gt 108 dX0_searchAll_85 (by decide) (fun hc_ => absurd hc_ (nI_nlt (a := 9) (b := v) (by omega) (by decide))) (fun _ => ?_)
    refine x_aload_n dX0_searchAll_88 rfl ?_
    refine x_getr fl_X0_21 dX0_searchAll_89 sf_19 rfl ?_
    refine x_iload dX0_searchAll_92 rfl ?_
    refine x_dup2 dX0_searchAll_94 rfl rfl ?_
    refine x_iald dX0_searchAll_95 sf_23 rfl (by omega) (by decide) ?_
    refine x_iconst (v := 1) dX0_searchAll_96 (by decide) ?_
    refine x_iload dX0_searchAll_97 rfl ?_
    refine x_ishl dX0_searchAll_99 ?_
    refine x_ior dX0_searchAll_100 ?_
    refine x_iast dX0_searchAll_101 sf_23 rfl (by omega) (by decide) ?_
    refine x_iinc1 dX0_searchAll_102 rfl (by decide) ?_
    refine x_goto 81 dX0_searchAll_105 (by decide) ?_
    exact ih
theorem c_searchAll_39 {Z : List (Option Nat)} {ext : List Ds} {M : Mm} {sq mt : Nat} {co rm : Nat → Int32} (sqs : Int32) (hm : M 1 2 = nI mt) (hmb : mt ≤ 31) (hq : M 1 3 = nI sq) (hb : sq ≤ 20) (hr : ∀ q, q < sq → ∀ F, ¬ (31 : Int32) ≤ bcE (M 5 q &&& F)) (hco : ∀ k, k < 31 → ∃ c, 1 ≤ c ∧ c ≤ 9 ∧ M 40 k = nI c) (hU : ∀ i, bi sqs i = true → i < sq) (hpa : psv (((1 : Int32) <<< (M 1 2 &&& 31)) - 1)) (hcoe : va_cpy (M 40) (M 20) 0 0 31 = co) (hrme : va_cpy (M 5) (M 21) 0 0 20 = rm) :
    Ct mX0_searchAll [.ref 19, .ref 1, .int sqs, .ref 39] (SS Z ext) M (Rt none (bkM (sbM M 39 sq (tcR sqs (M 5) sq (M 22) mt) (upG co (fillv 10 0 (M 23)) mt)) (bk rm (upG co (fillv 10 0 (M 23)) mt) (tcR sqs (M 5) sq (M 22) mt) co sq 20 sqs (((1 : Int32) <<< (M 1 2 &&& 31)) - 1) 0 0 (279, 0, 0, M 19 8)))) := by
  have hcc : ∀ k, k < 31 → ∃ c, 1 ≤ c ∧ c ≤ 9 ∧ co k = nI c := by
    intro k hk
    rw [← hcoe, cpy_in hk]
    exact hco k hk
  have hr2 : ∀ q, q < sq → ∀ F, ¬ (31 : Int32) ≤ bcE (rm q &&& F) := by
    intro q hq F
    rw [← hrme, cpy_in (by omega)]
    exact hr q hq F
  have e20 : ∀ r22 r23, sbM M 39 sq r22 r23 20 = co := fun _ _ => hcoe
  have e21 : ∀ r22 r23, sbM M 39 sq r22 r23 21 = rm := fun _ _ => hrme
  refine Ct.of (by decide) (Nat.le_of_ble_eq_true rfl) ?_
  refine x_aload_n dX0_searchAll_0 rfl ?_
  refine x_aload_n dX0_searchAll_1 rfl ?_
  refine x_geti fl_X0_24 dX0_searchAll_2 sf_1 rfl ?_
  rw [hq]
  refine x_put fl_X0_30 dX0_searchAll_5 sf_19 rfl rfl rfl ?_
  refine x_aload_n dX0_searchAll_8 rfl ?_
  refine x_getr fl_X0_21 dX0_searchAll_9 sf_19 rfl ?_
  refine x_iconst (v := 0) dX0_searchAll_12 (by decide) ?_
  refine x_csd mf_J7_fill_53178 ml_X0_31 dX0_searchAll_13 rfl ⟨by decide, by decide⟩ (Nat.le_of_ble_eq_true rfl) ⟨rfl, rfl⟩ ⟨Nat.le_of_ble_eq_true rfl, Nat.le_of_ble_eq_true rfl⟩ (c_fill (n := 10) sf_23 (by decide) 0) ?_
  refine x_aload_n dX0_searchAll_16 rfl ?_
  refine x_getr fl_X0_37 dX0_searchAll_17 sf_1 rfl ?_
  refine x_iconst (v := 0) dX0_searchAll_20 (by decide) ?_
  refine x_aload_n dX0_searchAll_21 rfl ?_
  refine x_getr fl_X0_15 dX0_searchAll_22 sf_19 rfl ?_
  refine x_iconst (v := 0) dX0_searchAll_25 (by decide) ?_
  refine x_bipush (v := 20) dX0_searchAll_26 (by decide) ?_
  refine x_copy (n := 20) ml_X0_38 dX0_searchAll_28 sf_5 sf_21 rfl rfl rfl (by decide) (by decide) (by decide) ⟨by decide, Nat.le_of_ble_eq_true rfl⟩ ?_
  refine x_aload_n dX0_searchAll_31 rfl ?_
  refine x_getr fl_X0_44 dX0_searchAll_32 sf_39 rfl ?_
  refine x_iconst (v := 0) dX0_searchAll_35 (by decide) ?_
  refine x_aload_n dX0_searchAll_36 rfl ?_
  refine x_getr fl_X0_9 dX0_searchAll_37 sf_19 rfl ?_
  refine x_iconst (v := 0) dX0_searchAll_40 (by decide) ?_
  refine x_bipush (v := 31) dX0_searchAll_41 (by decide) ?_
  refine x_copy (n := 31) ml_X0_38 dX0_searchAll_43 sf_40 sf_20 rfl rfl rfl (by decide) (by decide) (by decide) ⟨by decide, Nat.le_of_ble_eq_true rfl⟩ ?_
  refine x_iconst (v := 0) dX0_searchAll_46 (by decide) ?_
  refine x_istore dX0_searchAll_47 (by decide) ?_
  refine x_eq (M := sbM M 39 sq (tcR sqs (M 5) sq (M 22) 0) (upG co (fillv 10 0 (M 23)) 0)) (by rw [sbM, show tcR sqs (M 5) sq (M 22) 0 = (saM M 39 sq) 22 from rfl, upr_self, show upG co (fillv 10 0 (M 23)) 0 = (saM M 39 sq) 23 from rfl, upr_self]; rfl) rfl rfl rfl ?_
  refine (lup (P := fun m => ∀ l5, XW _ _ 0 0 (SS Z ext) (sbM M 39 sq (tcR sqs (M 5) sq (M 22) m) (upG co (fillv 10 0 (M 23)) m)) 49 [some (.ref 19), some (.ref 1), some (.int sqs), some (.ref 39), some (.int (nI m)), l5] []) (N := mt) ?_ ?_ 0 (by omega)) none
  · intro l5
    generalize tcR sqs (M 5) sq (M 22) mt = r22
    generalize upG co (fillv 10 0 (M 23)) mt = r23
    have hbk := c_breakOn (Z := Z) (ext := ext) (M := sbM M 39 sq r22 r23) (sq := sq) rfl hb (by rw [e21]; exact hr2) (by
      intro k hk
      rw [e20]
      obtain ⟨c, h1, h2, h3⟩ := hcc k hk
      rw [h3, nI_toInt (by omega)]
      omega) 20 40 0 sqs (((1 : Int32) <<< (M 1 2 &&& 31)) - 1) 0 0 (279, 0, 0, M 19 8) (by omega) (by omega) hpa hU (by decide) (by decide) (show (279 : Int32).toInt ≤ 279 by decide)
    rw [e20, e21, show sbM M 39 sq r22 r23 22 = r22 from rfl, show sbM M 39 sq r22 r23 23 = r23 from rfl] at hbk
    have ca := c_all (M := bkM (sbM M 39 sq r22 r23) (279, 0, 0, M 19 8)) (ShG_SS Z ext)
    refine x_iload dX0_searchAll_49 rfl ?_
    refine x_aload_n dX0_searchAll_51 rfl ?_
    refine x_geti fl_X0_47 dX0_searchAll_52 sf_1 rfl ?_
    refine x_icmp_ge 114 dX0_searchAll_55 (by decide) (fun _ => ?_) (fun hc_ => absurd (by show M 1 2 ≤ nI mt; rw [hm]; exact nI_le (Nat.le_refl _) (by omega)) hc_)
    refine x_aload_n dX0_searchAll_114 rfl ?_
    refine x_sipush (v := 279) dX0_searchAll_115 (by decide) ?_
    refine x_put fl_X0_54 dX0_searchAll_118 sf_19 rfl rfl rfl ?_
    refine x_aload_n dX0_searchAll_121 rfl ?_
    refine x_iconst (v := 0) dX0_searchAll_122 (by decide) ?_
    refine x_put fl_X0_57 dX0_searchAll_123 sf_19 rfl rfl rfl ?_
    refine x_aload_n dX0_searchAll_126 rfl ?_
    refine x_iconst (v := 0) dX0_searchAll_127 (by decide) ?_
    refine x_put fl_X0_60 dX0_searchAll_128 sf_19 rfl rfl rfl ?_
    rw [sa_pp]
    refine x_aload_n dX0_searchAll_131 rfl ?_
    refine x_iconst (v := 0) dX0_searchAll_132 (by decide) ?_
    refine x_iload_n dX0_searchAll_133 rfl ?_
    refine x_aload_n dX0_searchAll_134 rfl ?_
    refine x_cvd mf_X2_all ml_X0_63 dX0_searchAll_135 rfl sf_1 rfl ⟨by decide, by decide⟩ (Nat.le_of_ble_eq_true rfl) ⟨rfl, rfl⟩ ⟨Nat.le_of_ble_eq_true rfl, Nat.le_of_ble_eq_true rfl⟩ (ca) ?_
    refine x_iconst (v := 0) dX0_searchAll_138 (by decide) ?_
    refine x_iconst (v := 0) dX0_searchAll_139 (by decide) ?_
    refine x_csd (mf_X0_breakOn _) ml_X0_67 dX0_searchAll_140 rfl ⟨by first | decide | omega, by first | decide | omega⟩ (Nat.le_of_ble_eq_true rfl) ⟨rfl, rfl⟩ ⟨Nat.le_of_ble_eq_true rfl, Nat.le_of_ble_eq_true rfl⟩ (hbk) ?_
    exact x_ret dX0_searchAll_143 rfl (Nat.le_refl _) (Nat.le_refl _) ⟨rfl, ⟨rfl, rfl⟩⟩
  · intro m hmm ih l5
    obtain ⟨c, h1, h2, h3⟩ := hcc m (by omega)
    rw [nI_succ m, tcR_s _ _ _ _ m, upG_s _ _ m, h3, nI_clamp (by omega)] at ih
    generalize tcR sqs (M 5) sq (M 22) m = r22 at ih ⊢
    generalize upG co (fillv 10 0 (M 23)) m = r23 at ih ⊢
    have ct := c_touching (S := SS Z ext) (M := sbM M 39 sq r22 r23) (ShG_SS Z ext) sqs (nI m) hq hb
    refine x_iload dX0_searchAll_49 rfl ?_
    refine x_aload_n dX0_searchAll_51 rfl ?_
    refine x_geti fl_X0_47 dX0_searchAll_52 sf_1 rfl ?_
    refine x_icmp_ge 114 dX0_searchAll_55 (by decide) (fun hc_ => absurd hc_ (by show ¬ M 1 2 ≤ nI m; rw [hm]; exact nI_ge hmm (by omega))) (fun _ => ?_)
    refine x_aload_n dX0_searchAll_58 rfl ?_
    refine x_getr fl_X0_18 dX0_searchAll_59 sf_19 rfl ?_
    refine x_iload dX0_searchAll_62 rfl ?_
    refine x_aload_n dX0_searchAll_64 rfl ?_
    refine x_iload_n dX0_searchAll_65 rfl ?_
    refine x_iload dX0_searchAll_66 rfl ?_
    refine x_cvd mf_X2_touching ml_X0_50 dX0_searchAll_68 rfl sf_1 rfl ⟨by decide, by decide⟩ (Nat.le_of_ble_eq_true rfl) ⟨rfl, rfl⟩ ⟨Nat.le_of_ble_eq_true rfl, Nat.le_of_ble_eq_true rfl⟩ (ct) ?_
    refine x_iast dX0_searchAll_71 sf_22 rfl (by omega) (by decide) ?_
    rw [sb_22]
    refine x_aload_n dX0_searchAll_72 rfl ?_
    refine x_getr fl_X0_9 dX0_searchAll_73 sf_19 rfl ?_
    refine x_iload dX0_searchAll_76 rfl ?_
    refine x_iald dX0_searchAll_78 sf_20 rfl (by omega) (by decide) ?_
    rw [show sbM M 39 sq (upd r22 m (orb (tou (sbM M 39 sq r22 r23 5) sqs (nI m)) sq)) r23 20 m = nI c by rw [e20]; exact h3]
    refine x_istore dX0_searchAll_79 (by decide) ?_
    refine sa_up_39 h1 h2 (fun l5 => ?_)
    refine x_iinc1 dX0_searchAll_108 rfl (by decide) ?_
    refine x_goto 49 dX0_searchAll_111 (by decide) ?_
    exact ih _
theorem c_fewestX {Z : List (Option Nat)} {ext : List Ds} {M : Mm} (x : Int32) (hx : rg x 0 2 = false) : Ct mX9_fewest [.ref 0, .int x] (SS Z ext) M (Rt (some (.int (-1))) M) := by
  refine Ct.of (by decide) (Nat.le_of_ble_eq_true rfl) ?_
  refine x_iload_n dX9_fewest_0 rfl ?_
  refine x_if_lt 9 dX9_fewest_1 (by decide) (fun h1 => ?_) (fun h1 => ?_)
  · refine x_iconst (v := -1) dX9_fewest_9 (by decide) ?_
    exact x_iret dX9_fewest_10 rfl rfl (Nat.le_refl _) (Nat.le_refl _) ⟨rfl, ⟨rfl, rfl⟩⟩
  · refine x_iload_n dX9_fewest_4 rfl ?_
    refine x_iconst (v := 2) dX9_fewest_5 (by decide) ?_
    refine x_icmp_le 11 dX9_fewest_6 (by decide) (fun h6 => ?_) (fun h6 => ?_)
    · rw [rg_t2 h1 h6] at hx; exact absurd hx (by decide)
    · refine x_iconst (v := -1) dX9_fewest_9 (by decide) ?_
      exact x_iret dX9_fewest_10 rfl rfl (Nat.le_refl _) (Nat.le_refl _) ⟨rfl, ⟨rfl, rfl⟩⟩
theorem c_cheapestX {Z : List (Option Nat)} {ext : List Ds} {M : Mm} (x : Int32) (hx : rg x 0 1 = false) : Ct mX9_cheapest [.ref 0, .int x] (SS Z ext) M (Rt (some (.int (-1))) M) := by
  refine Ct.of (by decide) (Nat.le_of_ble_eq_true rfl) ?_
  refine x_iload_n dX9_cheapest_0 rfl ?_
  refine x_if_lt 9 dX9_cheapest_1 (by decide) (fun h1 => ?_) (fun h1 => ?_)
  · refine x_iconst (v := -1) dX9_cheapest_9 (by decide) ?_
    exact x_iret dX9_cheapest_10 rfl rfl (Nat.le_refl _) (Nat.le_refl _) ⟨rfl, ⟨rfl, rfl⟩⟩
  · refine x_iload_n dX9_cheapest_4 rfl ?_
    refine x_iconst (v := 1) dX9_cheapest_5 (by decide) ?_
    refine x_icmp_le 11 dX9_cheapest_6 (by decide) (fun h6 => ?_) (fun h6 => ?_)
    · rw [rg_t2 h1 h6] at hx; exact absurd hx (by decide)
    · refine x_iconst (v := -1) dX9_cheapest_9 (by decide) ?_
      exact x_iret dX9_cheapest_10 rfl rfl (Nat.le_refl _) (Nat.le_refl _) ⟨rfl, ⟨rfl, rfl⟩⟩
def vFew (k : Bk) (x : Int32) : Int32 := if decide (x = 0) then k.1 else if decide (x = 1) then k.2.1 else k.2.2.1
def vChe (k : Bk) (x : Int32) : Int32 := if decide (x = 0) then k.1 else k.2.1
theorem c_fewest {Z : List (Option Nat)} {ext : List Ds} {M : Mm} {sq mt : Nat} {co rm : Nat → Int32} {sqs : Int32} (x : Int32) (hx : rg x 0 2 = true) (hsq : lsq (M 10 1) (M 6) (M 5) sq (M 10 0) = sqs) (hm : M 1 2 = nI mt) (hmb : mt ≤ 31) (hq : M 1 3 = nI sq) (hb : sq ≤ 20) (hr : ∀ q, q < sq → ∀ F, ¬ (31 : Int32) ≤ bcE (M 5 q &&& F)) (hco : ∀ k, k < 31 → ∃ c, 1 ≤ c ∧ c ≤ 9 ∧ M 40 k = nI c) (hU : ∀ i, bi sqs i = true → i < sq) (hpa : psv (((1 : Int32) <<< (M 1 2 &&& 31)) - 1)) (hcoe : va_cpy (M 40) (M 20) 0 0 31 = co) (hrme : va_cpy (M 5) (M 21) 0 0 20 = rm) :
    Ct mX9_fewest [.ref 0, .int x] (SS Z ext) M (fun r M' => r = some (.int (vFew (bk rm (upG co (fillv 10 0 (M 23)) mt) (tcR sqs (M 5) sq (M 22) mt) co sq 20 sqs (((1 : Int32) <<< (M 1 2 &&& 31)) - 1) 0 0 (279, 0, 0, M 19 8)) x)) ∧ Eqm M M') := by
  have hx2 := rg_t.mp hx
  have cl := c_leftSquares (Z := Z) (ext := ext) (M := M) (sq := sq) (M 10 0) hq hb
  rw [hsq] at cl
  have cs := c_searchAll_39 (Z := Z) (ext := ext) (M := M) sqs hm hmb hq hb hr hco hU hpa hcoe hrme
  generalize bk rm (upG co (fillv 10 0 (M 23)) mt) (tcR sqs (M 5) sq (M 22) mt) co sq 20 sqs (((1 : Int32) <<< (M 1 2 &&& 31)) - 1) 0 0 (279, 0, 0, M 19 8) = bb at cs ⊢
  refine Ct.of (by decide) (Nat.le_of_ble_eq_true rfl) ?_
  refine x_iload_n dX9_fewest_0 rfl ?_
  refine x_if_lt 9 dX9_fewest_1 (by decide) (fun hc_ => absurd hc_ (fun q => absurd hx2.1 (by rw [fa_le]; rw [fa_lt] at q; omega))) (fun _ => ?_)
  refine x_iload_n dX9_fewest_4 rfl ?_
  refine x_iconst (v := 2) dX9_fewest_5 (by decide) ?_
  refine x_icmp_le 11 dX9_fewest_6 (by decide) (fun _ => ?_) (fun hc_ => absurd (hx2.2) hc_)
  refine x_aload_n dX9_fewest_11 rfl ?_
  refine x_getr fl_X9_42 dX9_fewest_12 sf_0 rfl ?_
  refine x_aload_n dX9_fewest_15 rfl ?_
  refine x_getr fl_X9_10 dX9_fewest_16 sf_0 rfl ?_
  refine x_aload_n dX9_fewest_19 rfl ?_
  refine x_aload_n dX9_fewest_20 rfl ?_
  refine x_getr fl_X9_19 dX9_fewest_21 sf_0 rfl ?_
  refine x_geti fl_X9_137 dX9_fewest_24 sf_10 rfl ?_
  refine x_cvd mf_X9_leftSquares ml_X9_187 dX9_fewest_27 rfl sf_0 rfl ⟨by decide, by decide⟩ (Nat.le_of_ble_eq_true rfl) ⟨rfl, rfl⟩ ⟨Nat.le_of_ble_eq_true rfl, Nat.le_of_ble_eq_true rfl⟩ (cl) ?_
  refine x_aload_n dX9_fewest_30 rfl ?_
  refine x_getr fl_X9_77 dX9_fewest_31 sf_0 rfl ?_
  refine x_cvd mf_X0_searchAll ml_X9_190 dX9_fewest_34 rfl sf_19 rfl ⟨by decide, by decide⟩ (Nat.le_of_ble_eq_true rfl) ⟨rfl, rfl⟩ ⟨Nat.le_of_ble_eq_true rfl, Nat.le_of_ble_eq_true rfl⟩ (cs) ?_
  refine x_iload_n dX9_fewest_37 rfl ?_
  refine x_if_ne 49 dX9_fewest_38 (by decide) (fun h38 => ?_) (fun h38 => ?_)
  · refine x_iload_n dX9_fewest_49 rfl ?_
    refine x_iconst (v := 1) dX9_fewest_50 (by decide) ?_
    refine x_icmp_ne 64 dX9_fewest_51 (by decide) (fun h51 => ?_) (fun h51 => ?_)
    · refine x_aload_n dX9_fewest_64 rfl ?_
      refine x_getr fl_X9_42 dX9_fewest_65 sf_0 rfl ?_
      refine x_geti fl_X9_200 dX9_fewest_68 sf_19 rfl ?_
      exact x_iret dX9_fewest_71 rfl rfl (Nat.le_refl _) (Nat.le_refl _) ⟨rfl, ⟨by first | (exact oi (by rw [vFew, decide_eq_true h38]; rfl)) | (exact oi (by rw [vFew, decide_eq_false h38, decide_eq_true h51]; rfl)) | (exact oi (by rw [vFew, decide_eq_false h38, decide_eq_false h51]; rfl)), (sb_eqm M 39 sq _ _).ur (fun _ => rfl)⟩⟩
    · refine x_aload_n dX9_fewest_54 rfl ?_
      refine x_getr fl_X9_42 dX9_fewest_55 sf_0 rfl ?_
      refine x_geti fl_X9_197 dX9_fewest_58 sf_19 rfl ?_
      refine x_goto 71 dX9_fewest_61 (by decide) ?_
      exact x_iret dX9_fewest_71 rfl rfl (Nat.le_refl _) (Nat.le_refl _) ⟨rfl, ⟨by first | (exact oi (by rw [vFew, decide_eq_true h38]; rfl)) | (exact oi (by rw [vFew, decide_eq_false h38, decide_eq_true h51]; rfl)) | (exact oi (by rw [vFew, decide_eq_false h38, decide_eq_false h51]; rfl)), (sb_eqm M 39 sq _ _).ur (fun _ => rfl)⟩⟩
  · refine x_aload_n dX9_fewest_41 rfl ?_
    refine x_getr fl_X9_42 dX9_fewest_42 sf_0 rfl ?_
    refine x_geti fl_X9_194 dX9_fewest_45 sf_19 rfl ?_
    exact x_iret dX9_fewest_48 rfl rfl (Nat.le_refl _) (Nat.le_refl _) ⟨rfl, ⟨by first | (exact oi (by rw [vFew, decide_eq_true h38]; rfl)) | (exact oi (by rw [vFew, decide_eq_false h38, decide_eq_true h51]; rfl)) | (exact oi (by rw [vFew, decide_eq_false h38, decide_eq_false h51]; rfl)), (sb_eqm M 39 sq _ _).ur (fun _ => rfl)⟩⟩
theorem c_cheapest {Z : List (Option Nat)} {ext : List Ds} {M : Mm} {sq mt : Nat} {co rm : Nat → Int32} {sqs : Int32} (x : Int32) (hx : rg x 0 1 = true) (hsq : lsq (M 10 1) (M 6) (M 5) sq (M 10 0) = sqs) (hm : M 1 2 = nI mt) (hmb : mt ≤ 31) (hq : M 1 3 = nI sq) (hb : sq ≤ 20) (hr : ∀ q, q < sq → ∀ F, ¬ (31 : Int32) ≤ bcE (M 5 q &&& F)) (hco : ∀ k, k < 31 → ∃ c, 1 ≤ c ∧ c ≤ 9 ∧ M 11 k = nI c) (hU : ∀ i, bi sqs i = true → i < sq) (hpa : psv (((1 : Int32) <<< (M 1 2 &&& 31)) - 1)) (hcoe : va_cpy (M 11) (M 20) 0 0 31 = co) (hrme : va_cpy (M 5) (M 21) 0 0 20 = rm) :
    Ct mX9_cheapest [.ref 0, .int x] (SS Z ext) M (fun r M' => r = some (.int (vChe (bk rm (upG co (fillv 10 0 (M 23)) mt) (tcR sqs (M 5) sq (M 22) mt) co sq 20 sqs (((1 : Int32) <<< (M 1 2 &&& 31)) - 1) 0 0 (279, 0, 0, M 19 8)) x)) ∧ Eqm M M') := by
  have hx2 := rg_t.mp hx
  have cl := c_leftSquares (Z := Z) (ext := ext) (M := M) (sq := sq) (M 10 0) hq hb
  rw [hsq] at cl
  have cs := c_searchAll_10 (Z := Z) (ext := ext) (M := M) sqs hm hmb hq hb hr hco hU hpa hcoe hrme
  generalize bk rm (upG co (fillv 10 0 (M 23)) mt) (tcR sqs (M 5) sq (M 22) mt) co sq 20 sqs (((1 : Int32) <<< (M 1 2 &&& 31)) - 1) 0 0 (279, 0, 0, M 19 8) = bb at cs ⊢
  refine Ct.of (by decide) (Nat.le_of_ble_eq_true rfl) ?_
  refine x_iload_n dX9_cheapest_0 rfl ?_
  refine x_if_lt 9 dX9_cheapest_1 (by decide) (fun hc_ => absurd hc_ (fun q => absurd hx2.1 (by rw [fa_le]; rw [fa_lt] at q; omega))) (fun _ => ?_)
  refine x_iload_n dX9_cheapest_4 rfl ?_
  refine x_iconst (v := 1) dX9_cheapest_5 (by decide) ?_
  refine x_icmp_le 11 dX9_cheapest_6 (by decide) (fun _ => ?_) (fun hc_ => absurd (hx2.2) hc_)
  refine x_aload_n dX9_cheapest_11 rfl ?_
  refine x_getr fl_X9_42 dX9_cheapest_12 sf_0 rfl ?_
  refine x_aload_n dX9_cheapest_15 rfl ?_
  refine x_getr fl_X9_10 dX9_cheapest_16 sf_0 rfl ?_
  refine x_aload_n dX9_cheapest_19 rfl ?_
  refine x_aload_n dX9_cheapest_20 rfl ?_
  refine x_getr fl_X9_19 dX9_cheapest_21 sf_0 rfl ?_
  refine x_geti fl_X9_137 dX9_cheapest_24 sf_10 rfl ?_
  refine x_cvd mf_X9_leftSquares ml_X9_187 dX9_cheapest_27 rfl sf_0 rfl ⟨by decide, by decide⟩ (Nat.le_of_ble_eq_true rfl) ⟨rfl, rfl⟩ ⟨Nat.le_of_ble_eq_true rfl, Nat.le_of_ble_eq_true rfl⟩ (cl) ?_
  refine x_aload_n dX9_cheapest_30 rfl ?_
  refine x_getr fl_X9_19 dX9_cheapest_31 sf_0 rfl ?_
  refine x_cvd mf_X0_searchAll ml_X9_190 dX9_cheapest_34 rfl sf_19 rfl ⟨by decide, by decide⟩ (Nat.le_of_ble_eq_true rfl) ⟨rfl, rfl⟩ ⟨Nat.le_of_ble_eq_true rfl, Nat.le_of_ble_eq_true rfl⟩ (cs) ?_
  refine x_iload_n dX9_cheapest_37 rfl ?_
  refine x_if_ne 51 dX9_cheapest_38 (by decide) (fun h38 => ?_) (fun h38 => ?_)
  · refine x_aload_n dX9_cheapest_51 rfl ?_
    refine x_getr fl_X9_42 dX9_cheapest_52 sf_0 rfl ?_
    refine x_geti fl_X9_197 dX9_cheapest_55 sf_19 rfl ?_
    exact x_iret dX9_cheapest_58 rfl rfl (Nat.le_refl _) (Nat.le_refl _) ⟨rfl, ⟨by first | (exact oi (by rw [vChe, decide_eq_true h38]; rfl)) | (exact oi (by rw [vChe, decide_eq_false h38]; rfl)), (sb_eqm M 10 sq _ _).ur (fun _ => rfl)⟩⟩
  · refine x_aload_n dX9_cheapest_41 rfl ?_
    refine x_getr fl_X9_42 dX9_cheapest_42 sf_0 rfl ?_
    refine x_geti fl_X9_194 dX9_cheapest_45 sf_19 rfl ?_
    refine x_goto 58 dX9_cheapest_48 (by decide) ?_
    exact x_iret dX9_cheapest_58 rfl rfl (Nat.le_refl _) (Nat.le_refl _) ⟨rfl, ⟨by first | (exact oi (by rw [vChe, decide_eq_true h38]; rfl)) | (exact oi (by rw [vChe, decide_eq_false h38]; rfl)), (sb_eqm M 10 sq _ _).ur (fun _ => rfl)⟩⟩
