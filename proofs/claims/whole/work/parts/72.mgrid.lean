/-! ===== the reference: rimOf, findSquares ===== -/
theorem c_m_rimOf {Z : List (Option Nat)} {ext : List Ds} {M : Mm} (s : Nat) (r c : Int32) (hs : s ≤ 3) : Ct mX10_rimOf [.ref 48, .int (nI s), .int r, .int c] (SS Z ext) M (Rt (some (.int (rimA (M 48 2) (M 48 3) (nI s) r c s))) M) := by
  refine Ct.of (by decide) (Nat.le_of_ble_eq_true rfl) ?_
  refine x_iconst (v := 0) dX10_rimOf_0 (by decide) ?_
  refine x_istore dX10_rimOf_1 (by decide) ?_
  refine x_iconst (v := 0) dX10_rimOf_3 (by decide) ?_
  refine x_istore dX10_rimOf_4 (by decide) ?_
  refine lup (P := fun k => XW _ _ 0 0 (SS Z ext) M 6 [some (.ref 48), some (.int (nI s)), some (.int r), some (.int c), some (.int (rimA (M 48 2) (M 48 3) (nI s) r c k)), some (.int (nI k))] []) (N := s) ?_ ?_ 0 (by omega)
  · refine x_iload dX10_rimOf_6 rfl ?_
    refine x_iload_n dX10_rimOf_8 rfl ?_
    refine x_icmp_ge 78 dX10_rimOf_9 (by decide) (fun _ => ?_) (fun hc_ => absurd (nI_le (Nat.le_refl _) (by omega)) hc_)
    refine x_iload dX10_rimOf_78 rfl ?_
    exact x_iret dX10_rimOf_80 rfl rfl (Nat.le_refl _) (Nat.le_refl _) ⟨rfl, ⟨rfl, rfl⟩⟩
  · intro k hk ih
    rw [nI_succ k, rimA_s _ _ _ _ _ k, Int32.or_assoc (rimA (M 48 2) (M 48 3) (nI s) r c k), Int32.or_assoc (_ ||| (_ ||| _))] at ih
    refine x_iload dX10_rimOf_6 rfl ?_
    refine x_iload_n dX10_rimOf_8 rfl ?_
    refine x_icmp_ge 78 dX10_rimOf_9 (by decide) (fun hc_ => absurd hc_ (nI_ge hk (by omega))) (fun _ => ?_)
    refine x_iload dX10_rimOf_12 rfl ?_
    refine x_iconst (v := 1) dX10_rimOf_14 (by decide) ?_
    refine x_aload_n dX10_rimOf_15 rfl ?_
    refine x_iload_n dX10_rimOf_16 rfl ?_
    refine x_iload_n dX10_rimOf_17 rfl ?_
    refine x_iload dX10_rimOf_18 rfl ?_
    refine x_iadd dX10_rimOf_20 ?_
    refine x_cvd mf_X10_acrossAt ml_X10_109 dX10_rimOf_21 rfl sf_48 rfl ⟨by decide, by decide⟩ (Nat.le_of_ble_eq_true rfl) ⟨rfl, rfl⟩ ⟨Nat.le_of_ble_eq_true rfl, Nat.le_of_ble_eq_true rfl⟩ (c_m_acrossAt _ _) ?_
    refine x_ishl dX10_rimOf_24 ?_
    refine x_iconst (v := 1) dX10_rimOf_25 (by decide) ?_
    refine x_aload_n dX10_rimOf_26 rfl ?_
    refine x_iload_n dX10_rimOf_27 rfl ?_
    refine x_iload_n dX10_rimOf_28 rfl ?_
    refine x_iadd dX10_rimOf_29 ?_
    refine x_iload_n dX10_rimOf_30 rfl ?_
    refine x_iload dX10_rimOf_31 rfl ?_
    refine x_iadd dX10_rimOf_33 ?_
    refine x_cvd mf_X10_acrossAt ml_X10_109 dX10_rimOf_34 rfl sf_48 rfl ⟨by decide, by decide⟩ (Nat.le_of_ble_eq_true rfl) ⟨rfl, rfl⟩ ⟨Nat.le_of_ble_eq_true rfl, Nat.le_of_ble_eq_true rfl⟩ (c_m_acrossAt _ _) ?_
    refine x_ishl dX10_rimOf_37 ?_
    refine x_ior dX10_rimOf_38 ?_
    refine x_ior dX10_rimOf_39 ?_
    refine x_istore dX10_rimOf_40 (by decide) ?_
    refine x_iload dX10_rimOf_42 rfl ?_
    refine x_iconst (v := 1) dX10_rimOf_44 (by decide) ?_
    refine x_aload_n dX10_rimOf_45 rfl ?_
    refine x_iload_n dX10_rimOf_46 rfl ?_
    refine x_iload dX10_rimOf_47 rfl ?_
    refine x_iadd dX10_rimOf_49 ?_
    refine x_iload_n dX10_rimOf_50 rfl ?_
    refine x_cvd mf_X10_standsAt ml_X10_113 dX10_rimOf_51 rfl sf_48 rfl ⟨by decide, by decide⟩ (Nat.le_of_ble_eq_true rfl) ⟨rfl, rfl⟩ ⟨Nat.le_of_ble_eq_true rfl, Nat.le_of_ble_eq_true rfl⟩ (c_m_standsAt _ _) ?_
    refine x_ishl dX10_rimOf_54 ?_
    refine x_iconst (v := 1) dX10_rimOf_55 (by decide) ?_
    refine x_aload_n dX10_rimOf_56 rfl ?_
    refine x_iload_n dX10_rimOf_57 rfl ?_
    refine x_iload dX10_rimOf_58 rfl ?_
    refine x_iadd dX10_rimOf_60 ?_
    refine x_iload_n dX10_rimOf_61 rfl ?_
    refine x_iload_n dX10_rimOf_62 rfl ?_
    refine x_iadd dX10_rimOf_63 ?_
    refine x_cvd mf_X10_standsAt ml_X10_113 dX10_rimOf_64 rfl sf_48 rfl ⟨by decide, by decide⟩ (Nat.le_of_ble_eq_true rfl) ⟨rfl, rfl⟩ ⟨Nat.le_of_ble_eq_true rfl, Nat.le_of_ble_eq_true rfl⟩ (c_m_standsAt _ _) ?_
    refine x_ishl dX10_rimOf_67 ?_
    refine x_ior dX10_rimOf_68 ?_
    refine x_ior dX10_rimOf_69 ?_
    refine x_istore dX10_rimOf_70 (by decide) ?_
    refine x_iinc1 dX10_rimOf_72 rfl (by decide) ?_
    refine x_goto 6 dX10_rimOf_75 (by decide) ?_
    exact ih
/-- the reference, with these squares -/
def gmR (M : Mm) (x : Gx) : Mm := upr (upr (upr (upr (up2 M 48 5 (nI x.1.length)) 51 (rowL (x.1.map qS) (M 51))) 52 (rowL (x.1.map qR) (M 52))) 53 (rowL (x.1.map qC) (M 53))) 54 (rowL (x.1.map (qM (M 48 2) (M 48 3))) (M 54))
theorem gmr_add (M : Mm) (x : Gx) (s r c : Nat) : up2 (up2 (up2 (up2 (up2 (gmR M x) 51 x.1.length (nI s)) 52 x.1.length (nI r)) 53 x.1.length (nI c)) 54 x.1.length (rimA (M 48 2) (M 48 3) (nI s) (nI r) (nI c) s)) 48 5 (nI x.1.length + 1) = gmR M (gA s r x c) := by
  have e2 := rowL_push (x.1.map qS) (nI s) (M 51)
  have e3 := rowL_push (x.1.map qR) (nI r) (M 52)
  have e4 := rowL_push (x.1.map qC) (nI c) (M 53)
  have e5 := rowL_push (x.1.map (qM (M 48 2) (M 48 3))) (rimA (M 48 2) (M 48 3) (nI s) (nI r) (nI c) s) (M 54)
  rw [List.length_map] at e2 e3 e4 e5
  funext d
  unfold gA gmR
  simp only [List.map_append, List.map_cons, List.map_nil, List.length_append, List.length_singleton]
  rw [show qS (s, r, c) = nI s from rfl, show qR (s, r, c) = nI r from rfl, show qC (s, r, c) = nI c from rfl, show qM (M 48 2) (M 48 3) (s, r, c) = rimA (M 48 2) (M 48 3) (nI s) (nI r) (nI c) s from rfl, ← e2, ← e3, ← e4, ← e5, nI_succ]
  by_cases h1 : d = 48
  · subst h1; simp [up2, upr, fa_upd_twice]
  · by_cases h2 : d = 51
    · subst h2; simp [up2, upr]
    · by_cases h3 : d = 52
      · subst h3; simp [up2, upr]
      · by_cases h4 : d = 53
        · subst h4; simp [up2, upr]
        · by_cases h5 : d = 54
          · subst h5; simp [up2, upr]
          · simp [up2, upr, h1, h2, h3, h4, h5]
theorem fs_row {Z : List (Option Nat)} {ext : List Ds} {M : Mm} {Q : Option Value → List Ds → Mm → Prop} {w h s r : Nat} {x : Gx} (hs : s ≤ 3) (hw : M 48 2 = nI w) (hw4 : w ≤ 4) (hN : x.1.length + (w + 1 - s) ≤ 20) (fin : ∀ l3, XW mX10_findSquares (Fc mX10_findSquares Q) 0 0 (SS Z ext) (gmR M (gC s r x (w + 1 - s))) 98 [some (.ref 48), some (.int (nI s)), some (.int (nI r)), l3] []) :
    XW mX10_findSquares (Fc mX10_findSquares Q) 0 0 (SS Z ext) (gmR M x) 26 [some (.ref 48), some (.int (nI s)), some (.int (nI r)), some (.int (nI 0))] [] := by
  refine lup (P := fun c => XW mX10_findSquares (Fc mX10_findSquares Q) 0 0 (SS Z ext) (gmR M (gC s r x c)) 26 [some (.ref 48), some (.int (nI s)), some (.int (nI r)), some (.int (nI c))] []) (N := w + 1 - s) ?_ ?_ 0 (by omega)
  · refine x_iload_n dX10_findSquares_26 rfl ?_
    refine x_iload_n dX10_findSquares_27 rfl ?_
    refine x_iadd dX10_findSquares_28 ?_
    rw [nI_add]
    refine x_aload_n dX10_findSquares_29 rfl ?_
    refine x_geti fl_X10_103 dX10_findSquares_30 sf_48 rfl ?_
    refine x_icmp_gt 98 dX10_findSquares_33 (by decide) (fun _ => ?_) (fun hc_ => absurd (by show M 48 2 < nI (w + 1 - s + s); rw [hw]; exact nI_lt (by omega) (by omega)) hc_)
    exact fin _
  · intro c hc ihc
    have hl2 := gC_len s r x c
    rw [nI_succ c, gC_s _ _ _ c] at ihc
    generalize gC s r x c = z at ihc hl2 ⊢
    have hz : z.1.length < 20 := by omega
    have cr := c_m_rimOf (Z := Z) (ext := ext) (M := up2 (up2 (up2 (gmR M z) 51 z.1.length (nI s)) 52 z.1.length (nI r)) 53 z.1.length (nI c)) s (nI r) (nI c) hs
    rw [show (up2 (up2 (up2 (gmR M z) 51 z.1.length (nI s)) 52 z.1.length (nI r)) 53 z.1.length (nI c)) 48 2 = M 48 2 from rfl, show (up2 (up2 (up2 (gmR M z) 51 z.1.length (nI s)) 52 z.1.length (nI r)) 53 z.1.length (nI c)) 48 3 = M 48 3 from rfl] at cr
    rw [← gmr_add] at ihc
    refine x_iload_n dX10_findSquares_26 rfl ?_
    refine x_iload_n dX10_findSquares_27 rfl ?_
    refine x_iadd dX10_findSquares_28 ?_
    rw [nI_add]
    refine x_aload_n dX10_findSquares_29 rfl ?_
    refine x_geti fl_X10_103 dX10_findSquares_30 sf_48 rfl ?_
    refine x_icmp_gt 98 dX10_findSquares_33 (by decide) (fun hc_ => absurd hc_ (by show ¬ M 48 2 < nI (c + s); rw [hw]; exact nI_nlt (by omega) (by omega))) (fun _ => ?_)
    refine x_aload_n dX10_findSquares_36 rfl ?_
    refine x_getr fl_X10_17 dX10_findSquares_37 sf_48 rfl ?_
    refine x_aload_n dX10_findSquares_40 rfl ?_
    refine x_geti fl_X10_116 dX10_findSquares_41 sf_48 rfl ?_
    refine x_iload_n dX10_findSquares_44 rfl ?_
    refine x_iast dX10_findSquares_45 sf_51 rfl hz (by decide) ?_
    refine x_aload_n dX10_findSquares_46 rfl ?_
    refine x_getr fl_X10_20 dX10_findSquares_47 sf_48 rfl ?_
    refine x_aload_n dX10_findSquares_50 rfl ?_
    refine x_geti fl_X10_116 dX10_findSquares_51 sf_48 rfl ?_
    refine x_iload_n dX10_findSquares_54 rfl ?_
    refine x_iast dX10_findSquares_55 sf_52 rfl hz (by decide) ?_
    refine x_aload_n dX10_findSquares_56 rfl ?_
    refine x_getr fl_X10_23 dX10_findSquares_57 sf_48 rfl ?_
    refine x_aload_n dX10_findSquares_60 rfl ?_
    refine x_geti fl_X10_116 dX10_findSquares_61 sf_48 rfl ?_
    refine x_iload_n dX10_findSquares_64 rfl ?_
    refine x_iast dX10_findSquares_65 sf_53 rfl hz (by decide) ?_
    refine x_aload_n dX10_findSquares_66 rfl ?_
    refine x_getr fl_X10_26 dX10_findSquares_67 sf_48 rfl ?_
    refine x_aload_n dX10_findSquares_70 rfl ?_
    refine x_geti fl_X10_116 dX10_findSquares_71 sf_48 rfl ?_
    refine x_aload_n dX10_findSquares_74 rfl ?_
    refine x_iload_n dX10_findSquares_75 rfl ?_
    refine x_iload_n dX10_findSquares_76 rfl ?_
    refine x_iload_n dX10_findSquares_77 rfl ?_
    refine x_cvd mf_X10_rimOf ml_X10_119 dX10_findSquares_78 rfl sf_48 rfl ⟨by decide, by decide⟩ (Nat.le_of_ble_eq_true rfl) ⟨rfl, rfl⟩ ⟨Nat.le_of_ble_eq_true rfl, Nat.le_of_ble_eq_true rfl⟩ (cr) ?_
    refine x_iast dX10_findSquares_81 sf_54 rfl hz (by decide) ?_
    refine x_aload_n dX10_findSquares_82 rfl ?_
    refine x_dup dX10_findSquares_83 rfl ?_
    refine x_geti fl_X10_116 dX10_findSquares_84 sf_48 rfl ?_
    refine x_iconst (v := 1) dX10_findSquares_87 (by decide) ?_
    refine x_iadd dX10_findSquares_88 ?_
    refine x_put fl_X10_116 dX10_findSquares_89 sf_48 rfl rfl rfl ?_
    refine x_iinc1 dX10_findSquares_92 rfl (by decide) ?_
    refine x_goto 26 dX10_findSquares_95 (by decide) ?_
    exact ihc
theorem fs_size {Z : List (Option Nat)} {ext : List Ds} {M : Mm} {Q : Option Value → List Ds → Mm → Prop} {w h s : Nat} {x : Gx} {l3 : Option Value} (hs : s ≤ 3) (hw : M 48 2 = nI w) (hw4 : w ≤ 4) (hh : M 48 3 = nI h) (hh3 : h ≤ 3) (hN : x.1.length + (h + 1 - s) * (w + 1 - s) ≤ 20) (fin : ∀ l2 l3, XW mX10_findSquares (Fc mX10_findSquares Q) 0 0 (SS Z ext) (gmR M (gR s w x (h + 1 - s))) 104 [some (.ref 48), some (.int (nI s)), l2, l3] []) :
    XW mX10_findSquares (Fc mX10_findSquares Q) 0 0 (SS Z ext) (gmR M x) 14 [some (.ref 48), some (.int (nI s)), some (.int (nI 0)), l3] [] := by
  refine (lup (P := fun r => ∀ l3, XW mX10_findSquares (Fc mX10_findSquares Q) 0 0 (SS Z ext) (gmR M (gR s w x r)) 14 [some (.ref 48), some (.int (nI s)), some (.int (nI r)), l3] []) (N := h + 1 - s) ?_ ?_ 0 (by omega)) l3
  · intro l3
    refine x_iload_n dX10_findSquares_14 rfl ?_
    refine x_iload_n dX10_findSquares_15 rfl ?_
    refine x_iadd dX10_findSquares_16 ?_
    rw [nI_add]
    refine x_aload_n dX10_findSquares_17 rfl ?_
    refine x_geti fl_X10_106 dX10_findSquares_18 sf_48 rfl ?_
    refine x_icmp_gt 104 dX10_findSquares_21 (by decide) (fun _ => ?_) (fun hc_ => absurd (by show M 48 3 < nI (h + 1 - s + s); rw [hh]; exact nI_lt (by omega) (by omega)) hc_)
    exact fin _ _
  · intro r hr ih l3
    have hlen := gR_len s w x r
    have hmul : (r + 1) * (w + 1 - s) ≤ (h + 1 - s) * (w + 1 - s) := Nat.mul_le_mul_right _ hr
    rw [Nat.succ_mul] at hmul
    rw [nI_succ r, gR_s _ _ _ r] at ih
    generalize gR s w x r = y at ih hlen ⊢
    refine x_iload_n dX10_findSquares_14 rfl ?_
    refine x_iload_n dX10_findSquares_15 rfl ?_
    refine x_iadd dX10_findSquares_16 ?_
    rw [nI_add]
    refine x_aload_n dX10_findSquares_17 rfl ?_
    refine x_geti fl_X10_106 dX10_findSquares_18 sf_48 rfl ?_
    refine x_icmp_gt 104 dX10_findSquares_21 (by decide) (fun hc_ => absurd hc_ (by show ¬ M 48 3 < nI (r + s); rw [hh]; exact nI_nlt (by omega) (by omega))) (fun _ => ?_)
    refine x_iconst (v := 0) dX10_findSquares_24 (by decide) ?_
    refine x_istore_n dX10_findSquares_25 (by decide) ?_
    refine fs_row (h := h) hs hw hw4 (by omega) (fun l3 => ?_)
    refine x_iinc1 dX10_findSquares_98 rfl (by decide) ?_
    refine x_goto 14 dX10_findSquares_101 (by decide) ?_
    exact ih _
theorem gmr_e (M : Mm) (os : Nat → Int32) : up2 M 48 5 0 = gmR M ([], os) := by
  rw [gmR]
  show _ = upr (upr (upr (upr (up2 M 48 5 (nI 0)) 51 (rowL [] (M 51))) 52 (rowL [] (M 52))) 53 (rowL [] (M 53))) 54 (rowL [] (M 54))
  rw [rowL_0, rowL_0, rowL_0, rowL_0, show M 51 = (up2 M 48 5 (nI 0)) 51 from rfl, upr_self, show M 52 = (up2 M 48 5 (nI 0)) 52 from rfl, upr_self, show M 53 = (up2 M 48 5 (nI 0)) 53 from rfl, upr_self, show M 54 = (up2 M 48 5 (nI 0)) 54 from rfl, upr_self]
  rfl
theorem c_m_findSquares {Z : List (Option Nat)} {ext : List Ds} {M : Mm} {w h : Nat} (os : Nat → Int32) (hw : M 48 2 = nI w) (hw4 : w ≤ 4) (hh : M 48 3 = nI h) (hh3 : h ≤ 3) : Ct mX10_findSquares [.ref 48] (SS Z ext) M (Rt none (gmR M (gS w h ([], os) 3))) := by
  refine Ct.of (by decide) (Nat.le_of_ble_eq_true rfl) ?_
  refine x_aload_n dX10_findSquares_0 rfl ?_
  refine x_iconst (v := 0) dX10_findSquares_1 (by decide) ?_
  refine x_put fl_X10_116 dX10_findSquares_2 sf_48 rfl rfl rfl ?_
  refine x_iconst (v := 1) dX10_findSquares_5 (by decide) ?_
  refine x_istore_n dX10_findSquares_6 (by decide) ?_
  rw [gmr_e M os]
  refine (lup (P := fun k => ∀ l2 l3, XW _ _ 0 0 (SS Z ext) (gmR M (gS w h ([], os) k)) 7 [some (.ref 48), some (.int (nI (k + 1))), l2, l3] []) (N := 3) ?_ ?_ 0 (by omega)) none none
  · intro l2 l3
    refine x_iload_n dX10_findSquares_7 rfl ?_
    refine x_iconst (v := 3) dX10_findSquares_8 (by decide) ?_
    refine x_icmp_gt 110 dX10_findSquares_9 (by decide) (fun _ => ?_) (fun hc_ => absurd (by decide) hc_)
    exact x_ret dX10_findSquares_110 rfl (Nat.le_refl _) (Nat.le_refl _) ⟨rfl, ⟨rfl, rfl⟩⟩
  · intro k hk ih l2 l3
    have hroom := gS_room w h os hw4 hh3 k hk
    rw [nI_succ (k + 1), gS_s _ _ _ k] at ih
    generalize gS w h ([], os) k = x at ih hroom ⊢
    refine x_eq (M := gmR M (x.1, upd x.2 (k + 1) 0)) rfl rfl rfl rfl ?_
    refine x_iload_n dX10_findSquares_7 rfl ?_
    refine x_iconst (v := 3) dX10_findSquares_8 (by decide) ?_
    refine x_icmp_gt 110 dX10_findSquares_9 (by decide) (fun hc_ => absurd hc_ (nI_nlt (b := k + 1) (a := 3) (by omega) (by decide))) (fun _ => ?_)
    refine x_iconst (v := 0) dX10_findSquares_12 (by decide) ?_
    refine x_istore_n dX10_findSquares_13 (by decide) ?_
    refine fs_size (by omega) hw hw4 hh hh3 hroom (fun l2 l3 => ?_)
    refine x_iinc1 dX10_findSquares_104 rfl (by decide) ?_
    refine x_goto 7 dX10_findSquares_107 (by decide) ?_
    exact ih _ _
