/-! ===== the class: the Grid's squares ===== -/
theorem nI_mulN (a b : Nat) : nI a * nI b = nI (a * b) := (Int32.ofNat_mul a b).symm
def rimA (w h s r c : Int32) : Nat → Int32
  | 0 => 0
  | i + 1 => (((rimA w h s r c i ||| ((1 : Int32) <<< ((r * w + (c + nI i)) &&& 31))) ||| ((1 : Int32) <<< (((r + s) * w + (c + nI i)) &&& 31))) ||| ((1 : Int32) <<< ((w * (h + 1) + (r + nI i) * (w + 1) + c) &&& 31))) ||| ((1 : Int32) <<< ((w * (h + 1) + (r + nI i) * (w + 1) + (c + s)) &&& 31))
theorem rimA_s (w h s r c : Int32) (i : Nat) : rimA w h s r c (i + 1) = (((rimA w h s r c i ||| ((1 : Int32) <<< ((r * w + (c + nI i)) &&& 31))) ||| ((1 : Int32) <<< (((r + s) * w + (c + nI i)) &&& 31))) ||| ((1 : Int32) <<< ((w * (h + 1) + (r + nI i) * (w + 1) + c) &&& 31))) ||| ((1 : Int32) <<< ((w * (h + 1) + (r + nI i) * (w + 1) + (c + s)) &&& 31)) := rfl
theorem c_rimOf {S : List Ds} {M : Mm} (hS : ShG S) (s : Nat) (r c : Int32) (hs : s ≤ 3) : Ct mX2_rimOf [.ref 1, .int (nI s), .int r, .int c] S M (Rt (some (.int (rimA (M 1 0) (M 1 1) (nI s) r c s))) M) := by
  refine Ct.of (by decide) (Nat.le_of_ble_eq_true rfl) ?_
  refine x_iconst (v := 0) dX2_rimOf_0 (by decide) ?_
  refine x_istore dX2_rimOf_1 (by decide) ?_
  refine x_iconst (v := 0) dX2_rimOf_3 (by decide) ?_
  refine x_istore dX2_rimOf_4 (by decide) ?_
  refine lup (P := fun k => XW _ _ 0 0 S M 6 [some (.ref 1), some (.int (nI s)), some (.int r), some (.int c), some (.int (rimA (M 1 0) (M 1 1) (nI s) r c k)), some (.int (nI k))] []) (N := s) ?_ ?_ 0 (by omega)
  · refine x_iload dX2_rimOf_6 rfl ?_
    refine x_iload_n dX2_rimOf_8 rfl ?_
    refine x_icmp_ge 86 dX2_rimOf_9 (by decide) (fun _ => ?_) (fun hc_ => absurd (nI_le (Nat.le_refl _) (by omega)) hc_)
    refine x_iload dX2_rimOf_86 rfl ?_
    exact x_iret dX2_rimOf_88 rfl rfl (Nat.le_refl _) (Nat.le_refl _) ⟨rfl, ⟨rfl, rfl⟩⟩
  · intro k hk ih
    rw [nI_succ k, rimA_s _ _ _ _ _ k] at ih
    refine x_iload dX2_rimOf_6 rfl ?_
    refine x_iload_n dX2_rimOf_8 rfl ?_
    refine x_icmp_ge 86 dX2_rimOf_9 (by decide) (fun hc_ => absurd hc_ (nI_ge hk (by omega))) (fun _ => ?_)
    refine x_iload dX2_rimOf_12 rfl ?_
    refine x_iconst (v := 1) dX2_rimOf_14 (by decide) ?_
    refine x_aload_n dX2_rimOf_15 rfl ?_
    refine x_iload_n dX2_rimOf_16 rfl ?_
    refine x_iload_n dX2_rimOf_17 rfl ?_
    refine x_iload dX2_rimOf_18 rfl ?_
    refine x_iadd dX2_rimOf_20 ?_
    refine x_cvd mf_X2_across ml_X2_69 dX2_rimOf_21 rfl (sg_1 hS) rfl ⟨by decide, by decide⟩ (Nat.le_of_ble_eq_true rfl) ⟨rfl, rfl⟩ ⟨Nat.le_of_ble_eq_true rfl, Nat.le_of_ble_eq_true rfl⟩ (c_across hS _ _) ?_
    refine x_ishl dX2_rimOf_24 ?_
    refine x_ior dX2_rimOf_25 ?_
    refine x_istore dX2_rimOf_26 (by decide) ?_
    refine x_iload dX2_rimOf_28 rfl ?_
    refine x_iconst (v := 1) dX2_rimOf_30 (by decide) ?_
    refine x_aload_n dX2_rimOf_31 rfl ?_
    refine x_iload_n dX2_rimOf_32 rfl ?_
    refine x_iload_n dX2_rimOf_33 rfl ?_
    refine x_iadd dX2_rimOf_34 ?_
    refine x_iload_n dX2_rimOf_35 rfl ?_
    refine x_iload dX2_rimOf_36 rfl ?_
    refine x_iadd dX2_rimOf_38 ?_
    refine x_cvd mf_X2_across ml_X2_69 dX2_rimOf_39 rfl (sg_1 hS) rfl ⟨by decide, by decide⟩ (Nat.le_of_ble_eq_true rfl) ⟨rfl, rfl⟩ ⟨Nat.le_of_ble_eq_true rfl, Nat.le_of_ble_eq_true rfl⟩ (c_across hS _ _) ?_
    refine x_ishl dX2_rimOf_42 ?_
    refine x_ior dX2_rimOf_43 ?_
    refine x_istore dX2_rimOf_44 (by decide) ?_
    refine x_iload dX2_rimOf_46 rfl ?_
    refine x_iconst (v := 1) dX2_rimOf_48 (by decide) ?_
    refine x_aload_n dX2_rimOf_49 rfl ?_
    refine x_iload_n dX2_rimOf_50 rfl ?_
    refine x_iload dX2_rimOf_51 rfl ?_
    refine x_iadd dX2_rimOf_53 ?_
    refine x_iload_n dX2_rimOf_54 rfl ?_
    refine x_cvd mf_X2_standing ml_X2_72 dX2_rimOf_55 rfl (sg_1 hS) rfl ⟨by decide, by decide⟩ (Nat.le_of_ble_eq_true rfl) ⟨rfl, rfl⟩ ⟨Nat.le_of_ble_eq_true rfl, Nat.le_of_ble_eq_true rfl⟩ (c_standing hS _ _) ?_
    refine x_ishl dX2_rimOf_58 ?_
    refine x_ior dX2_rimOf_59 ?_
    refine x_istore dX2_rimOf_60 (by decide) ?_
    refine x_iload dX2_rimOf_62 rfl ?_
    refine x_iconst (v := 1) dX2_rimOf_64 (by decide) ?_
    refine x_aload_n dX2_rimOf_65 rfl ?_
    refine x_iload_n dX2_rimOf_66 rfl ?_
    refine x_iload dX2_rimOf_67 rfl ?_
    refine x_iadd dX2_rimOf_69 ?_
    refine x_iload_n dX2_rimOf_70 rfl ?_
    refine x_iload_n dX2_rimOf_71 rfl ?_
    refine x_iadd dX2_rimOf_72 ?_
    refine x_cvd mf_X2_standing ml_X2_72 dX2_rimOf_73 rfl (sg_1 hS) rfl ⟨by decide, by decide⟩ (Nat.le_of_ble_eq_true rfl) ⟨rfl, rfl⟩ ⟨Nat.le_of_ble_eq_true rfl, Nat.le_of_ble_eq_true rfl⟩ (c_standing hS _ _) ?_
    refine x_ishl dX2_rimOf_76 ?_
    refine x_ior dX2_rimOf_77 ?_
    refine x_istore dX2_rimOf_78 (by decide) ?_
    refine x_iinc1 dX2_rimOf_80 rfl (by decide) ?_
    refine x_goto 6 dX2_rimOf_83 (by decide) ?_
    exact ih
abbrev Sq : Type := Nat × Nat × Nat
abbrev Gx : Type := List Sq × (Nat → Int32)
def gA (s r : Nat) (x : Gx) (c : Nat) : Gx := (x.1 ++ [(s, r, c)], upd x.2 s (x.2 s ||| b1 x.1.length))
def gC (s r : Nat) (x : Gx) : Nat → Gx
  | 0 => x
  | c + 1 => gA s r (gC s r x c) c
def gR (s w : Nat) (x : Gx) : Nat → Gx
  | 0 => x
  | r + 1 => gC s r (gR s w x r) (w + 1 - s)
theorem gC_s (s r : Nat) (x : Gx) (c : Nat) : gC s r x (c + 1) = gA s r (gC s r x c) c := rfl
theorem gR_s (s w : Nat) (x : Gx) (r : Nat) : gR s w x (r + 1) = gC s r (gR s w x r) (w + 1 - s) := rfl
theorem gC_len (s r : Nat) (x : Gx) : ∀ n, (gC s r x n).1.length = x.1.length + n
  | 0 => rfl
  | n + 1 => by
    rw [gC_s, gA, List.length_append, gC_len s r x n]
    rfl
theorem gR_len (s w : Nat) (x : Gx) : ∀ n, (gR s w x n).1.length = x.1.length + n * (w + 1 - s)
  | 0 => by rw [Nat.zero_mul]; rfl
  | n + 1 => by
    rw [gR_s, gC_len, gR_len s w x n, Nat.succ_mul]
    omega
def qS (q : Sq) : Int32 := nI q.1
def qR (q : Sq) : Int32 := nI q.2.1
def qC (q : Sq) : Int32 := nI q.2.2
def qM (w h : Int32) (q : Sq) : Int32 := rimA w h (nI q.1) (nI q.2.1) (nI q.2.2) q.1
/-- the Grid, with these squares -/
def gdM (M : Mm) (x : Gx) : Mm := upr (upr (upr (upr (upr (up2 M 1 3 (nI x.1.length)) 2 (rowL (x.1.map qS) (M 2))) 3 (rowL (x.1.map qR) (M 3))) 4 (rowL (x.1.map qC) (M 4))) 5 (rowL (x.1.map (qM (M 1 0) (M 1 1))) (M 5))) 6 x.2
theorem upr_up2 (M : Mm) {c d : Nat} (k : Nat) (f : Nat → Int32) (v : Int32) (h : d ≠ c) : upr (up2 M c k v) d f = up2 (upr M d f) c k v := by
  funext e
  unfold upr up2
  by_cases h1 : e = d
  · subst h1; simp [h]
  · by_cases h2 : e = c
    · subst h2; simp [h1]
    · simp [h1, h2]
theorem gd_add (M : Mm) (x : Gx) (s r c : Nat) : up2 (up2 (up2 (up2 (up2 (up2 (gdM M x) 2 x.1.length (nI s)) 3 x.1.length (nI r)) 4 x.1.length (nI c)) 5 x.1.length (rimA (M 1 0) (M 1 1) (nI s) (nI r) (nI c) s)) 6 s (x.2 s ||| b1 x.1.length)) 1 3 (nI x.1.length + 1) = gdM M (gA s r x c) := by
  have e2 := rowL_push (x.1.map qS) (nI s) (M 2)
  have e3 := rowL_push (x.1.map qR) (nI r) (M 3)
  have e4 := rowL_push (x.1.map qC) (nI c) (M 4)
  have e5 := rowL_push (x.1.map (qM (M 1 0) (M 1 1))) (rimA (M 1 0) (M 1 1) (nI s) (nI r) (nI c) s) (M 5)
  rw [List.length_map] at e2 e3 e4 e5
  funext d
  unfold gA gdM
  simp only [List.map_append, List.map_cons, List.map_nil, List.length_append, List.length_singleton]
  rw [show qS (s, r, c) = nI s from rfl, show qR (s, r, c) = nI r from rfl, show qC (s, r, c) = nI c from rfl, show qM (M 1 0) (M 1 1) (s, r, c) = rimA (M 1 0) (M 1 1) (nI s) (nI r) (nI c) s from rfl, ← e2, ← e3, ← e4, ← e5, nI_succ]
  by_cases h1 : d = 1
  · subst h1; simp [up2, upr, fa_upd_twice]
  · by_cases h2 : d = 2
    · subst h2; simp [up2, upr]
    · by_cases h3 : d = 3
      · subst h3; simp [up2, upr]
      · by_cases h4 : d = 4
        · subst h4; simp [up2, upr]
        · by_cases h5 : d = 5
          · subst h5; simp [up2, upr]
          · by_cases h6 : d = 6
            · subst h6; simp [up2, upr]
            · simp [up2, upr, h1, h2, h3, h4, h5, h6]
theorem c_addSquares {S : List Ds} {M : Mm} {w h : Nat} (hS : ShG S) (s : Nat) (x : Gx) (hs1 : 1 ≤ s) (hs : s ≤ 3) (hw : M 1 0 = nI w) (hw4 : w ≤ 4) (hh : M 1 1 = nI h) (hh3 : h ≤ 3) (hN : x.1.length + (h + 1 - s) * (w + 1 - s) ≤ 20) : Ct mX2_addSquares [.ref 1, .int (nI s)] S (gdM M x) (Rt none (gdM M (gR s w x (h + 1 - s)))) := by
  refine Ct.of (by decide) (Nat.le_of_ble_eq_true rfl) ?_
  refine x_iconst (v := 0) dX2_addSquares_0 (by decide) ?_
  refine x_istore_n dX2_addSquares_1 (by decide) ?_
  refine (lup (P := fun r => ∀ l3, XW _ _ 0 0 S (gdM M (gR s w x r)) 2 [some (.ref 1), some (.int (nI s)), some (.int (nI r)), l3] []) (N := h + 1 - s) ?_ ?_ 0 (by omega)) none
  · intro l3
    refine x_iload_n dX2_addSquares_2 rfl ?_
    refine x_iload_n dX2_addSquares_3 rfl ?_
    refine x_iadd dX2_addSquares_4 ?_
    rw [nI_add]
    refine x_aload_n dX2_addSquares_5 rfl ?_
    refine x_geti fl_X2_40 dX2_addSquares_6 (sg_1 hS) rfl ?_
    refine x_icmp_gt 116 dX2_addSquares_9 (by decide) (fun _ => ?_) (fun hc_ => absurd (by show M 1 1 < nI (h + 1 - s + s); rw [hh]; exact nI_lt (by omega) (by omega)) hc_)
    exact x_ret dX2_addSquares_116 rfl (Nat.le_refl _) (Nat.le_refl _) ⟨rfl, ⟨rfl, rfl⟩⟩
  · intro r hr ih l3
    have hlen := gR_len s w x r
    have hmul : (r + 1) * (w + 1 - s) ≤ (h + 1 - s) * (w + 1 - s) := Nat.mul_le_mul_right _ hr
    rw [Nat.succ_mul] at hmul
    rw [nI_succ r, gR_s _ _ _ r] at ih
    generalize gR s w x r = y at ih hlen ⊢
    have loop := lup (P := fun c => XW mX2_addSquares (Fc mX2_addSquares (fun r S' M' => S' = S ∧ Rt none (gdM M (gR s w x (h + 1 - s))) r M')) 0 0 S (gdM M (gC s r y c)) 14 [some (.ref 1), some (.int (nI s)), some (.int (nI r)), some (.int (nI c))] []) (N := w + 1 - s) ?_ ?_ 0 (by omega)
    · refine x_iload_n dX2_addSquares_2 rfl ?_
      refine x_iload_n dX2_addSquares_3 rfl ?_
      refine x_iadd dX2_addSquares_4 ?_
      rw [nI_add]
      refine x_aload_n dX2_addSquares_5 rfl ?_
      refine x_geti fl_X2_40 dX2_addSquares_6 (sg_1 hS) rfl ?_
      refine x_icmp_gt 116 dX2_addSquares_9 (by decide) (fun hc_ => absurd hc_ (by show ¬ M 1 1 < nI (r + s); rw [hh]; exact nI_nlt (by omega) (by omega))) (fun _ => ?_)
      refine x_iconst (v := 0) dX2_addSquares_12 (by decide) ?_
      refine x_istore_n dX2_addSquares_13 (by decide) ?_
      exact loop
    · refine x_iload_n dX2_addSquares_14 rfl ?_
      refine x_iload_n dX2_addSquares_15 rfl ?_
      refine x_iadd dX2_addSquares_16 ?_
      rw [nI_add]
      refine x_aload_n dX2_addSquares_17 rfl ?_
      refine x_geti fl_X2_36 dX2_addSquares_18 (sg_1 hS) rfl ?_
      refine x_icmp_gt 110 dX2_addSquares_21 (by decide) (fun _ => ?_) (fun hc_ => absurd (by show M 1 0 < nI (w + 1 - s + s); rw [hw]; exact nI_lt (by omega) (by omega)) hc_)
      refine x_iinc1 dX2_addSquares_110 rfl (by decide) ?_
      refine x_goto 2 dX2_addSquares_113 (by decide) ?_
      exact ih _
    · intro c hc ihc
      have hl2 := gC_len s r y c
      rw [nI_succ c, gC_s _ _ _ c] at ihc
      generalize gC s r y c = z at ihc hl2 ⊢
      have hz : z.1.length < 20 := by omega
      have cr := c_rimOf (S := S) (M := up2 (up2 (up2 (gdM M z) 2 z.1.length (nI s)) 3 z.1.length (nI r)) 4 z.1.length (nI c)) hS s (nI r) (nI c) hs
      rw [show (up2 (up2 (up2 (gdM M z) 2 z.1.length (nI s)) 3 z.1.length (nI r)) 4 z.1.length (nI c)) 1 0 = M 1 0 from rfl, show (up2 (up2 (up2 (gdM M z) 2 z.1.length (nI s)) 3 z.1.length (nI r)) 4 z.1.length (nI c)) 1 1 = M 1 1 from rfl] at cr
      rw [← gd_add] at ihc
      refine x_iload_n dX2_addSquares_14 rfl ?_
      refine x_iload_n dX2_addSquares_15 rfl ?_
      refine x_iadd dX2_addSquares_16 ?_
      rw [nI_add]
      refine x_aload_n dX2_addSquares_17 rfl ?_
      refine x_geti fl_X2_36 dX2_addSquares_18 (sg_1 hS) rfl ?_
      refine x_icmp_gt 110 dX2_addSquares_21 (by decide) (fun hc_ => absurd hc_ (by show ¬ M 1 0 < nI (c + s); rw [hw]; exact nI_nlt (by omega) (by omega))) (fun _ => ?_)
      refine x_aload_n dX2_addSquares_24 rfl ?_
      refine x_geti fl_X2_50 dX2_addSquares_25 (sg_1 hS) rfl ?_
      refine x_bipush (v := 20) dX2_addSquares_28 (by decide) ?_
      refine x_icmp_ge 110 dX2_addSquares_30 (by decide) (fun hc_ => absurd hc_ (nI_ge (b := 20) (a := z.1.length) hz (by decide))) (fun _ => ?_)
      refine x_aload_n dX2_addSquares_33 rfl ?_
      refine x_getr fl_X2_9 dX2_addSquares_34 (sg_1 hS) rfl ?_
      refine x_aload_n dX2_addSquares_37 rfl ?_
      refine x_geti fl_X2_50 dX2_addSquares_38 (sg_1 hS) rfl ?_
      refine x_iload_n dX2_addSquares_41 rfl ?_
      refine x_iast dX2_addSquares_42 (sg_2 hS) rfl hz (by decide) ?_
      refine x_aload_n dX2_addSquares_43 rfl ?_
      refine x_getr fl_X2_15 dX2_addSquares_44 (sg_1 hS) rfl ?_
      refine x_aload_n dX2_addSquares_47 rfl ?_
      refine x_geti fl_X2_50 dX2_addSquares_48 (sg_1 hS) rfl ?_
      refine x_iload_n dX2_addSquares_51 rfl ?_
      refine x_iast dX2_addSquares_52 (sg_3 hS) rfl hz (by decide) ?_
      refine x_aload_n dX2_addSquares_53 rfl ?_
      refine x_getr fl_X2_18 dX2_addSquares_54 (sg_1 hS) rfl ?_
      refine x_aload_n dX2_addSquares_57 rfl ?_
      refine x_geti fl_X2_50 dX2_addSquares_58 (sg_1 hS) rfl ?_
      refine x_iload_n dX2_addSquares_61 rfl ?_
      refine x_iast dX2_addSquares_62 (sg_4 hS) rfl hz (by decide) ?_
      refine x_aload_n dX2_addSquares_63 rfl ?_
      refine x_getr fl_X2_21 dX2_addSquares_64 (sg_1 hS) rfl ?_
      refine x_aload_n dX2_addSquares_67 rfl ?_
      refine x_geti fl_X2_50 dX2_addSquares_68 (sg_1 hS) rfl ?_
      refine x_aload_n dX2_addSquares_71 rfl ?_
      refine x_iload_n dX2_addSquares_72 rfl ?_
      refine x_iload_n dX2_addSquares_73 rfl ?_
      refine x_iload_n dX2_addSquares_74 rfl ?_
      refine x_cvd mf_X2_rimOf ml_X2_65 dX2_addSquares_75 rfl (sg_1 hS) rfl ⟨by decide, by decide⟩ (Nat.le_of_ble_eq_true rfl) ⟨rfl, rfl⟩ ⟨Nat.le_of_ble_eq_true rfl, Nat.le_of_ble_eq_true rfl⟩ (cr) ?_
      refine x_iast dX2_addSquares_78 (sg_5 hS) rfl hz (by decide) ?_
      refine x_aload_n dX2_addSquares_79 rfl ?_
      refine x_getr fl_X2_24 dX2_addSquares_80 (sg_1 hS) rfl ?_
      refine x_iload_n dX2_addSquares_83 rfl ?_
      refine x_dup2 dX2_addSquares_84 rfl rfl ?_
      refine x_iald dX2_addSquares_85 (sg_6 hS) rfl (by omega) (by decide) ?_
      refine x_iconst (v := 1) dX2_addSquares_86 (by decide) ?_
      refine x_aload_n dX2_addSquares_87 rfl ?_
      refine x_geti fl_X2_50 dX2_addSquares_88 (sg_1 hS) rfl ?_
      refine x_ishl dX2_addSquares_91 ?_
      refine x_ior dX2_addSquares_92 ?_
      refine x_iast dX2_addSquares_93 (sg_6 hS) rfl (by omega) (by decide) ?_
      refine x_aload_n dX2_addSquares_94 rfl ?_
      refine x_dup dX2_addSquares_95 rfl ?_
      refine x_geti fl_X2_50 dX2_addSquares_96 (sg_1 hS) rfl ?_
      refine x_iconst (v := 1) dX2_addSquares_99 (by decide) ?_
      refine x_iadd dX2_addSquares_100 ?_
      refine x_put fl_X2_50 dX2_addSquares_101 (sg_1 hS) rfl rfl rfl ?_
      refine x_iinc1 dX2_addSquares_104 rfl (by decide) ?_
      refine x_goto 14 dX2_addSquares_107 (by decide) ?_
      exact ihc
