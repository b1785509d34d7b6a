/-! ===== the class: mean, chance ===== -/
/-- inclusion and exclusion, as the class does it -/
def ww (rm : Nat → Int32) (sqs ly : Int32) : Nat → Nat → Int32 → Int64
  | 0, _, j => (1 : Int64) <<< ((ly - bcE j).toInt64 &&& 63)
  | r + 1, q, j => if lies sqs (nI q) then ww rm sqs ly r (q + 1) j - ww rm sqs ly r (q + 1) (j ||| rm q) else ww rm sqs ly r (q + 1) j
theorem ww_at {Z : List (Option Nat)} {ext : List Ds} {M : Mm} {sq : Nat} (sqs ly : Int32) (hq : M 1 3 = nI sq) (hb : sq ≤ 20) : ∀ (r d q : Nat) (q0 j : Int32), r + 2 ≤ d → q + r = sq → XW (mX9_waysWithout (d + 1)) (Fc (mX9_waysWithout (d + 1)) (fun r' S' M' => S' = SS Z ext ∧ Rt (some (.long (ww (M 5) sqs ly r q j))) M r' M')) 0 0 (SS Z ext) M 3 [some (.ref 1), some (.int sqs), some (.int q0), some (.int j), some (.int ly), some (.int (nI q))] [] := by
  intro r
  induction r with
  | zero =>
    intro d q q0 j hd hqr
    refine x_iload dX9_waysWithout_3 rfl ?_
    refine x_aload_n dX9_waysWithout_5 rfl ?_
    refine x_geti fl_X9_134 dX9_waysWithout_6 sf_1 rfl ?_
    refine x_icmp_ge 27 dX9_waysWithout_9 (by decide) (fun _ => ?_) (fun hc_ => absurd (by rw [hq]; exact nI_le (by omega) (by omega)) hc_)
    refine x_iload dX9_waysWithout_27 rfl ?_
    refine x_aload_n dX9_waysWithout_29 rfl ?_
    refine x_geti fl_X9_134 dX9_waysWithout_30 sf_1 rfl ?_
    refine x_icmp_lt 46 dX9_waysWithout_33 (by decide) (fun hc_ => absurd hc_ (by rw [hq]; exact nI_nlt (by omega) (by omega))) (fun _ => ?_)
    refine x_lconst (v := 1) dX9_waysWithout_36 (by decide) ?_
    refine x_iload dX9_waysWithout_37 rfl ?_
    refine x_iload_n dX9_waysWithout_39 rfl ?_
    refine x_csd mf_J6_bitCount_0f7a4 ml_X9_173 dX9_waysWithout_40 rfl ⟨by show 1 + 0 ≤ d + 1; omega, by show 8 + (1 + 11) + 40 * 0 ≤ 40 * (d + 1); omega⟩ (Nat.le_of_ble_eq_true rfl) ⟨rfl, rfl⟩ ⟨Nat.le_of_ble_eq_true rfl, Nat.le_of_ble_eq_true rfl⟩ (c_bitCount _) ?_
    refine x_isub dX9_waysWithout_43 ?_
    refine x_lshl dX9_waysWithout_44 ?_
    exact x_lret dX9_waysWithout_45 rfl (Nat.le_refl _) (Nat.le_refl _) ⟨rfl, ⟨rfl, rfl⟩⟩
  | succ r ih =>
    intro d q q0 j hd hqr
    have hC : ∀ (d' : Nat) (j : Int32), r + 3 ≤ d' → Ct (mX9_waysWithout d') [.ref 1, .int sqs, .int (nI (q + 1)), .int j, .int ly] (SS Z ext) M (Rt (some (.long (ww (M 5) sqs ly r (q + 1) j))) M) := by
      intro d' j hd'
      obtain ⟨d', rfl⟩ : ∃ d, d' = d + 1 := ⟨d' - 1, by omega⟩
      have h := ih d' (q + 1) (nI (q + 1)) j (by omega) (by omega)
      refine Ct.of rfl (Nat.le_of_ble_eq_true rfl) ?_
      refine x_iload_n dX9_waysWithout_0 rfl ?_
      refine x_istore dX9_waysWithout_1 (Nat.le_of_ble_eq_true rfl) ?_
      exact h
    rw [nI_succ] at hC
    have ih1 := ih d (q + 1) q0 j (by omega) (by omega)
    rw [nI_succ] at ih1
    have hww : ww (M 5) sqs ly (r + 1) q j = if lies sqs (nI q) then ww (M 5) sqs ly r (q + 1) j - ww (M 5) sqs ly r (q + 1) (j ||| (M 5) q) else ww (M 5) sqs ly r (q + 1) j := rfl
    cases hl : lies sqs (nI q) with
    | true =>
      rw [hww, hl, if_pos rfl]
      have hl2 : ¬ (sqs >>> (nI q &&& 31)) &&& 1 = 0 := fun e => by rw [lies_f e] at hl; cases hl
      refine x_iload dX9_waysWithout_3 rfl ?_
      refine x_aload_n dX9_waysWithout_5 rfl ?_
      refine x_geti fl_X9_134 dX9_waysWithout_6 sf_1 rfl ?_
      refine x_icmp_ge 27 dX9_waysWithout_9 (by decide) (fun hc_ => absurd hc_ (by rw [hq]; exact nI_ge (by omega) (by omega))) (fun _ => ?_)
      refine x_iload_n dX9_waysWithout_12 rfl ?_
      refine x_iload dX9_waysWithout_13 rfl ?_
      refine x_ishr dX9_waysWithout_15 ?_
      refine x_iconst (v := 1) dX9_waysWithout_16 (by decide) ?_
      refine x_iand dX9_waysWithout_17 ?_
      refine x_if_ne 27 dX9_waysWithout_18 (by decide) (fun _ => ?_) (fun hc_ => absurd hc_ (hl2))
      refine x_iload dX9_waysWithout_27 rfl ?_
      refine x_aload_n dX9_waysWithout_29 rfl ?_
      refine x_geti fl_X9_134 dX9_waysWithout_30 sf_1 rfl ?_
      refine x_icmp_lt 46 dX9_waysWithout_33 (by decide) (fun _ => ?_) (fun hc_ => absurd (by rw [hq]; exact nI_lt (by omega) (by omega)) hc_)
      refine x_aload_n dX9_waysWithout_46 rfl ?_
      refine x_iload_n dX9_waysWithout_47 rfl ?_
      refine x_iload dX9_waysWithout_48 rfl ?_
      refine x_iconst (v := 1) dX9_waysWithout_50 (by decide) ?_
      refine x_iadd dX9_waysWithout_51 ?_
      refine x_iload_n dX9_waysWithout_52 rfl ?_
      refine x_iload dX9_waysWithout_53 rfl ?_
      refine x_csd (mf_X9_waysWithout _) ml_X9_263 dX9_waysWithout_55 rfl ⟨Nat.le_refl _, by show 8 + (6 + 11) + 40 * d ≤ 40 * (d + 1); omega⟩ (Nat.le_of_ble_eq_true rfl) ⟨rfl, rfl⟩ ⟨Nat.le_of_ble_eq_true rfl, Nat.le_of_ble_eq_true rfl⟩ (hC d j (by omega)) ?_
      refine x_aload_n dX9_waysWithout_58 rfl ?_
      refine x_iload_n dX9_waysWithout_59 rfl ?_
      refine x_iload dX9_waysWithout_60 rfl ?_
      refine x_iconst (v := 1) dX9_waysWithout_62 (by decide) ?_
      refine x_iadd dX9_waysWithout_63 ?_
      refine x_iload_n dX9_waysWithout_64 rfl ?_
      refine x_aload_n dX9_waysWithout_65 rfl ?_
      refine x_getr fl_X9_153 dX9_waysWithout_66 sf_1 rfl ?_
      refine x_iload dX9_waysWithout_69 rfl ?_
      refine x_iald dX9_waysWithout_71 sf_5 rfl (by omega) (by decide) ?_
      refine x_ior dX9_waysWithout_72 ?_
      refine x_iload dX9_waysWithout_73 rfl ?_
      refine x_csd (mf_X9_waysWithout _) ml_X9_263 dX9_waysWithout_75 rfl ⟨Nat.le_refl _, by show 8 + (6 + 11) + 40 * d ≤ 40 * (d + 1); omega⟩ (Nat.le_of_ble_eq_true rfl) ⟨rfl, rfl⟩ ⟨Nat.le_of_ble_eq_true rfl, Nat.le_of_ble_eq_true rfl⟩ (hC d _ (by omega)) ?_
      refine x_lsub dX9_waysWithout_78 ?_
      exact x_lret dX9_waysWithout_79 rfl (Nat.le_refl _) (Nat.le_refl _) ⟨rfl, ⟨rfl, rfl⟩⟩
    | false =>
      rw [hww, hl, if_neg (by decide)]
      have hl2 : (sqs >>> (nI q &&& 31)) &&& 1 = 0 := by
        by_cases e : (sqs >>> (nI q &&& 31)) &&& 1 = 0
        · exact e
        · rw [lies_t e] at hl; cases hl
      refine x_iload dX9_waysWithout_3 rfl ?_
      refine x_aload_n dX9_waysWithout_5 rfl ?_
      refine x_geti fl_X9_134 dX9_waysWithout_6 sf_1 rfl ?_
      refine x_icmp_ge 27 dX9_waysWithout_9 (by decide) (fun hc_ => absurd hc_ (by rw [hq]; exact nI_ge (by omega) (by omega))) (fun _ => ?_)
      refine x_iload_n dX9_waysWithout_12 rfl ?_
      refine x_iload dX9_waysWithout_13 rfl ?_
      refine x_ishr dX9_waysWithout_15 ?_
      refine x_iconst (v := 1) dX9_waysWithout_16 (by decide) ?_
      refine x_iand dX9_waysWithout_17 ?_
      refine x_if_ne 27 dX9_waysWithout_18 (by decide) (fun hc_ => absurd (hl2) hc_) (fun _ => ?_)
      refine x_iinc1 dX9_waysWithout_21 rfl (Nat.le_of_ble_eq_true rfl) ?_
      refine x_goto 3 dX9_waysWithout_24 (by decide) ?_
      exact ih1
theorem c_waysWithout {Z : List (Option Nat)} {ext : List Ds} {M : Mm} {sq : Nat} (sqs ly : Int32) (hq : M 1 3 = nI sq) (hb : sq ≤ 20) : Ct (mX9_waysWithout 40) [.ref 1, .int sqs, .int (nI 0), .int 0, .int ly] (SS Z ext) M (Rt (some (.long (ww (M 5) sqs ly sq 0 0))) M) := by
  have h := ww_at (Z := Z) (ext := ext) sqs ly hq hb sq 39 0 (nI 0) 0 (by omega) (by omega)
  refine Ct.of rfl (Nat.le_of_ble_eq_true rfl) ?_
  refine x_iload_n dX9_waysWithout_0 rfl ?_
  refine x_istore dX9_waysWithout_1 (Nat.le_of_ble_eq_true rfl) ?_
  exact h
/-- twos taken out of a fraction -/
def itl : Nat → Int64 → Int32 → Int64 × Int32
  | 0, n, t => (n, t)
  | k + 1, n, t => if decide (n &&& 1 = 0) then itl k (n >>> ((1 : Int32).toInt64 &&& 63)) (t + (-1)) else (n, t)
def vItl (r : Int64 × Int32) (x : Int32) : Int64 := if decide (x = 0) then r.1 else (1 : Int64) <<< (r.2.toInt64 &&& 63)
theorem itl_at {S : List Ds} {M : Mm} {ab : Int64} {p : Nat} {x : Int32} (hp : p < 2 ^ 31) : ∀ (k i : Nat) (n : Int64) (t : Int32), i + k = p → XW mX9_inLowestTerms (Fc mX9_inLowestTerms (fun r S' M' => S' = S ∧ Rt (some (.long (vItl (itl k n t) x))) M r M')) 0 0 S M 9 [some (.long ab), none, some (.int (nI p)), some (.int x), some (.long n), none, some (.int t), some (.int (nI i))] [] := by
  intro k
  induction k with
  | zero =>
    intro i n t hi
    refine x_iload dX9_inLowestTerms_9 rfl ?_
    refine x_iload_n dX9_inLowestTerms_11 rfl ?_
    refine x_icmp_ge 39 dX9_inLowestTerms_12 (by decide) (fun _ => ?_) (fun hc_ => absurd (nI_le (by omega) (by omega)) hc_)
    refine x_iload_n dX9_inLowestTerms_39 rfl ?_
    refine x_if_ne 48 dX9_inLowestTerms_40 (by decide) (fun h40 => ?_) (fun h40 => ?_)
    · refine x_lconst (v := 1) dX9_inLowestTerms_48 (by decide) ?_
      refine x_iload dX9_inLowestTerms_49 rfl ?_
      refine x_lshl dX9_inLowestTerms_51 ?_
      exact x_lret dX9_inLowestTerms_52 rfl (Nat.le_refl _) (Nat.le_refl _) ⟨rfl, ⟨by first | (exact ol (by rw [vItl, decide_eq_true h40]; rfl)) | (exact ol (by rw [vItl, decide_eq_false h40]; rfl)), rfl⟩⟩
    · refine x_lload dX9_inLowestTerms_43 rfl ?_
      refine x_goto 52 dX9_inLowestTerms_45 (by decide) ?_
      exact x_lret dX9_inLowestTerms_52 rfl (Nat.le_refl _) (Nat.le_refl _) ⟨rfl, ⟨by first | (exact ol (by rw [vItl, decide_eq_true h40]; rfl)) | (exact ol (by rw [vItl, decide_eq_false h40]; rfl)), rfl⟩⟩
  | succ k ih =>
    intro i n t hi
    have hit : itl (k + 1) n t = if decide (n &&& 1 = 0) then itl k (n >>> ((1 : Int32).toInt64 &&& 63)) (t + (-1)) else (n, t) := rfl
    by_cases hn : n &&& 1 = 0
    · rw [hit, if_pos (decide_eq_true hn)]
      have ih1 := ih (i + 1) (n >>> ((1 : Int32).toInt64 &&& 63)) (t + (-1)) (by omega)
      rw [nI_succ] at ih1
      refine x_iload dX9_inLowestTerms_9 rfl ?_
      refine x_iload_n dX9_inLowestTerms_11 rfl ?_
      refine x_icmp_ge 39 dX9_inLowestTerms_12 (by decide) (fun hc_ => absurd hc_ (nI_ge (by omega) (by omega))) (fun _ => ?_)
      refine x_lload dX9_inLowestTerms_15 rfl ?_
      refine x_lconst (v := 1) dX9_inLowestTerms_17 (by decide) ?_
      refine x_land dX9_inLowestTerms_18 ?_
      refine x_lconst (v := 0) dX9_inLowestTerms_19 (by decide) ?_
      refine x_lcmp dX9_inLowestTerms_20 ?_
      refine x_if_ne 39 dX9_inLowestTerms_21 (by decide) (fun hc_ => absurd (by rw [lg_cmp_eq]; exact hn) hc_) (fun _ => ?_)
      refine x_lload dX9_inLowestTerms_24 rfl ?_
      refine x_iconst (v := 1) dX9_inLowestTerms_26 (by decide) ?_
      refine x_lshr dX9_inLowestTerms_27 ?_
      refine x_lstore dX9_inLowestTerms_28 (by decide) ?_
      refine x_iincm dX9_inLowestTerms_30 rfl (by decide) ?_
      refine x_iinc1 dX9_inLowestTerms_33 rfl (by decide) ?_
      refine x_goto 9 dX9_inLowestTerms_36 (by decide) ?_
      exact ih1
    · rw [hit, if_neg (fun q => hn (of_decide_eq_true q))]
      refine x_iload dX9_inLowestTerms_9 rfl ?_
      refine x_iload_n dX9_inLowestTerms_11 rfl ?_
      refine x_icmp_ge 39 dX9_inLowestTerms_12 (by decide) (fun hc_ => absurd hc_ (nI_ge (by omega) (by omega))) (fun _ => ?_)
      refine x_lload dX9_inLowestTerms_15 rfl ?_
      refine x_lconst (v := 1) dX9_inLowestTerms_17 (by decide) ?_
      refine x_land dX9_inLowestTerms_18 ?_
      refine x_lconst (v := 0) dX9_inLowestTerms_19 (by decide) ?_
      refine x_lcmp dX9_inLowestTerms_20 ?_
      refine x_if_ne 39 dX9_inLowestTerms_21 (by decide) (fun _ => ?_) (fun hc_ => absurd hc_ (by rw [lg_cmp_eq]; exact hn))
      refine x_iload_n dX9_inLowestTerms_39 rfl ?_
      refine x_if_ne 48 dX9_inLowestTerms_40 (by decide) (fun h40 => ?_) (fun h40 => ?_)
      · refine x_lconst (v := 1) dX9_inLowestTerms_48 (by decide) ?_
        refine x_iload dX9_inLowestTerms_49 rfl ?_
        refine x_lshl dX9_inLowestTerms_51 ?_
        exact x_lret dX9_inLowestTerms_52 rfl (Nat.le_refl _) (Nat.le_refl _) ⟨rfl, ⟨by first | (exact ol (by rw [vItl, decide_eq_true h40]; rfl)) | (exact ol (by rw [vItl, decide_eq_false h40]; rfl)), rfl⟩⟩
      · refine x_lload dX9_inLowestTerms_43 rfl ?_
        refine x_goto 52 dX9_inLowestTerms_45 (by decide) ?_
        exact x_lret dX9_inLowestTerms_52 rfl (Nat.le_refl _) (Nat.le_refl _) ⟨rfl, ⟨by first | (exact ol (by rw [vItl, decide_eq_true h40]; rfl)) | (exact ol (by rw [vItl, decide_eq_false h40]; rfl)), rfl⟩⟩
theorem c_inLowestTerms {S : List Ds} {M : Mm} (ab : Int64) (p : Nat) (x : Int32) (hp : p < 2 ^ 31) : Ct mX9_inLowestTerms [.long ab, .int (nI p), .int x] S M (Rt (some (.long (vItl (itl p ab (nI p)) x))) M) := by
  have h := itl_at (S := S) (M := M) (ab := ab) (p := p) (x := x) hp p 0 ab (nI p) (by omega)
  refine Ct.of (by decide) (Nat.le_of_ble_eq_true rfl) ?_
  refine x_lload_n dX9_inLowestTerms_0 rfl ?_
  refine x_lstore dX9_inLowestTerms_1 (by decide) ?_
  refine x_iload_n dX9_inLowestTerms_3 rfl ?_
  refine x_istore dX9_inLowestTerms_4 (by decide) ?_
  refine x_iconst (v := 0) dX9_inLowestTerms_6 (by decide) ?_
  refine x_istore dX9_inLowestTerms_7 (by decide) ?_
  exact h
theorem c_meanX {Z : List (Option Nat)} {ext : List Ds} {M : Mm} (x : Int32) (hx : rg x 0 1 = false) : Ct mX9_mean [.ref 0, .int x] (SS Z ext) M (Rt (some (.long (-1))) M) := by
  refine Ct.of (by decide) (Nat.le_of_ble_eq_true rfl) ?_
  refine x_iload_n dX9_mean_0 rfl ?_
  refine x_if_lt 9 dX9_mean_1 (by decide) (fun h1 => ?_) (fun h1 => ?_)
  · refine x_ldc2 dX9_mean_9 kc_X9_255 ?_
    exact x_lret dX9_mean_12 rfl (Nat.le_refl _) (Nat.le_refl _) ⟨rfl, ⟨rfl, rfl⟩⟩
  · refine x_iload_n dX9_mean_4 rfl ?_
    refine x_iconst (v := 1) dX9_mean_5 (by decide) ?_
    refine x_icmp_le 13 dX9_mean_6 (by decide) (fun h6 => ?_) (fun h6 => ?_)
    · rw [rg_t2 h1 h6] at hx; exact absurd hx (by decide)
    · refine x_ldc2 dX9_mean_9 kc_X9_255 ?_
      exact x_lret dX9_mean_12 rfl (Nat.le_refl _) (Nat.le_refl _) ⟨rfl, ⟨rfl, rfl⟩⟩
/-- what mean() adds up, over 4096 -/
def cmn (sqs : Int32) (os : Nat → Int32) : Nat → Int64
  | 0 => 0
  | k + 1 => cmn sqs os k + ((1 : Int64) <<< (((4 : Int32) * (3 - nI (k + 1))).toInt64 &&& 63)) * (bcE (sqs &&& os (k + 1))).toInt64
theorem c_mean {Z : List (Option Nat)} {ext : List Ds} {M : Mm} {sq : Nat} (x : Int32) (hx : rg x 0 1 = true) (hq : M 1 3 = nI sq) (hb : sq ≤ 20) : Ct mX9_mean [.ref 0, .int x] (SS Z ext) M (Rt (some (.long (vItl (itl 12 (cmn (lsq (M 10 1) (M 6) (M 5) sq (M 10 0)) (M 6) 3) 12) x))) M) := by
  have hx2 := rg_t.mp hx
  refine Ct.of (by decide) (Nat.le_of_ble_eq_true rfl) ?_
  refine x_iload_n dX9_mean_0 rfl ?_
  refine x_if_lt 9 dX9_mean_1 (by decide) (fun hc_ => absurd hc_ (fun q => absurd hx2.1 (by rw [fa_le]; rw [fa_lt] at q; omega))) (fun _ => ?_)
  refine x_iload_n dX9_mean_4 rfl ?_
  refine x_iconst (v := 1) dX9_mean_5 (by decide) ?_
  refine x_icmp_le 13 dX9_mean_6 (by decide) (fun _ => ?_) (fun hc_ => absurd (hx2.2) hc_)
  refine x_aload_n dX9_mean_13 rfl ?_
  refine x_aload_n dX9_mean_14 rfl ?_
  refine x_getr fl_X9_19 dX9_mean_15 sf_0 rfl ?_
  refine x_geti fl_X9_137 dX9_mean_18 sf_10 rfl ?_
  refine x_cvd mf_X9_leftSquares ml_X9_187 dX9_mean_21 rfl sf_0 rfl ⟨by decide, by decide⟩ (Nat.le_of_ble_eq_true rfl) ⟨rfl, rfl⟩ ⟨Nat.le_of_ble_eq_true rfl, Nat.le_of_ble_eq_true rfl⟩ (c_leftSquares (sq := sq) _ hq hb) ?_
  refine x_istore_n dX9_mean_24 (by decide) ?_
  refine x_lconst (v := 0) dX9_mean_25 (by decide) ?_
  refine x_lstore_n dX9_mean_26 (by decide) ?_
  refine x_iconst (v := 1) dX9_mean_27 (by decide) ?_
  refine x_istore dX9_mean_28 (by decide) ?_
  generalize lsq (M 10 1) (M 6) (M 5) sq (M 10 0) = sqs
  refine (lup (P := fun k => ∀ l6 l7, XW _ _ 0 0 (SS Z ext) M 30 [some (.ref 0), some (.int x), some (.int sqs), some (.long (cmn sqs (M 6) k)), none, some (.int (nI (k + 1))), l6, l7] []) (N := 3) ?_ ?_ 0 (by omega)) none none
  · intro l6 l7
    refine x_iload dX9_mean_30 rfl ?_
    refine x_iconst (v := 3) dX9_mean_32 (by decide) ?_
    refine x_icmp_gt 74 dX9_mean_33 (by decide) (fun _ => ?_) (fun hc_ => absurd (by decide) hc_)
    refine x_lload_n dX9_mean_74 rfl ?_
    refine x_bipush (v := 12) dX9_mean_75 (by decide) ?_
    refine x_iload_n dX9_mean_77 rfl ?_
    refine x_csd mf_X9_inLowestTerms ml_X9_257 dX9_mean_78 rfl ⟨by decide, by decide⟩ (Nat.le_of_ble_eq_true rfl) ⟨rfl, rfl⟩ ⟨Nat.le_of_ble_eq_true rfl, Nat.le_of_ble_eq_true rfl⟩ (c_inLowestTerms _ 12 x (by decide)) ?_
    exact x_lret dX9_mean_81 rfl (Nat.le_refl _) (Nat.le_refl _) ⟨rfl, ⟨rfl, rfl⟩⟩
  · intro k hk ih l6 l7
    rw [nI_succ (k + 1), show cmn sqs (M 6) (k + 1) = cmn sqs (M 6) k + ((1 : Int64) <<< (((4 : Int32) * (3 - nI (k + 1))).toInt64 &&& 63)) * (bcE (sqs &&& M 6 (k + 1))).toInt64 from rfl] at ih
    refine x_iload dX9_mean_30 rfl ?_
    refine x_iconst (v := 3) dX9_mean_32 (by decide) ?_
    refine x_icmp_gt 74 dX9_mean_33 (by decide) (fun hc_ => absurd hc_ (nI_nlt (b := k + 1) (a := 3) (by omega) (by decide))) (fun _ => ?_)
    refine x_lconst (v := 1) dX9_mean_36 (by decide) ?_
    refine x_iconst (v := 4) dX9_mean_37 (by decide) ?_
    refine x_iconst (v := 3) dX9_mean_38 (by decide) ?_
    refine x_iload dX9_mean_39 rfl ?_
    refine x_isub dX9_mean_41 ?_
    refine x_imul dX9_mean_42 ?_
    refine x_lshl dX9_mean_43 ?_
    refine x_lstore dX9_mean_44 (by decide) ?_
    refine x_lload_n dX9_mean_46 rfl ?_
    refine x_lload dX9_mean_47 rfl ?_
    refine x_iload_n dX9_mean_49 rfl ?_
    refine x_aload_n dX9_mean_50 rfl ?_
    refine x_getr fl_X9_10 dX9_mean_51 sf_0 rfl ?_
    refine x_getr fl_X9_170 dX9_mean_54 sf_1 rfl ?_
    refine x_iload dX9_mean_57 rfl ?_
    refine x_iald dX9_mean_59 sf_6 rfl (by omega) (by decide) ?_
    refine x_iand dX9_mean_60 ?_
    refine x_csd mf_J6_bitCount_0f7a4 ml_X9_173 dX9_mean_61 rfl ⟨by decide, by decide⟩ (Nat.le_of_ble_eq_true rfl) ⟨rfl, rfl⟩ ⟨Nat.le_of_ble_eq_true rfl, Nat.le_of_ble_eq_true rfl⟩ (c_bitCount _) ?_
    refine x_i2l dX9_mean_64 ?_
    refine x_lmul dX9_mean_65 ?_
    refine x_ladd dX9_mean_66 ?_
    refine x_lstore_n dX9_mean_67 (by decide) ?_
    refine x_iinc1 dX9_mean_68 rfl (by decide) ?_
    refine x_goto 30 dX9_mean_71 (by decide) ?_
    exact ih _ _
theorem c_chanceX {Z : List (Option Nat)} {ext : List Ds} {M : Mm} (x : Int32) (hx : rg x 0 1 = false) : Ct mX9_chance [.ref 0, .int x] (SS Z ext) M (Rt (some (.long (-1))) M) := by
  refine Ct.of (by decide) (Nat.le_of_ble_eq_true rfl) ?_
  refine x_iload_n dX9_chance_0 rfl ?_
  refine x_if_lt 9 dX9_chance_1 (by decide) (fun h1 => ?_) (fun h1 => ?_)
  · refine x_ldc2 dX9_chance_9 kc_X9_255 ?_
    exact x_lret dX9_chance_12 rfl (Nat.le_refl _) (Nat.le_refl _) ⟨rfl, ⟨rfl, rfl⟩⟩
  · refine x_iload_n dX9_chance_4 rfl ?_
    refine x_iconst (v := 1) dX9_chance_5 (by decide) ?_
    refine x_icmp_le 13 dX9_chance_6 (by decide) (fun h6 => ?_) (fun h6 => ?_)
    · rw [rg_t2 h1 h6] at hx; exact absurd hx (by decide)
    · refine x_ldc2 dX9_chance_9 kc_X9_255 ?_
      exact x_lret dX9_chance_12 rfl (Nat.le_refl _) (Nat.le_refl _) ⟨rfl, ⟨rfl, rfl⟩⟩
theorem c_chanceS {Z : List (Option Nat)} {ext : List Ds} {M : Mm} (x : Int32) (hx : rg x 0 1 = true) (hc : ¬ bcE (M 10 0) ≤ 16) : Ct mX9_chance [.ref 0, .int x] (SS Z ext) M (Rt (some (.long (-2))) M) := by
  have hx2 := rg_t.mp hx
  refine Ct.of (by decide) (Nat.le_of_ble_eq_true rfl) ?_
  refine x_iload_n dX9_chance_0 rfl ?_
  refine x_if_lt 9 dX9_chance_1 (by decide) (fun hc_ => absurd hc_ (fun q => absurd hx2.1 (by rw [fa_le]; rw [fa_lt] at q; omega))) (fun _ => ?_)
  refine x_iload_n dX9_chance_4 rfl ?_
  refine x_iconst (v := 1) dX9_chance_5 (by decide) ?_
  refine x_icmp_le 13 dX9_chance_6 (by decide) (fun _ => ?_) (fun hc_ => absurd (hx2.2) hc_)
  refine x_aload_n dX9_chance_13 rfl ?_
  refine x_getr fl_X9_19 dX9_chance_14 sf_0 rfl ?_
  refine x_geti fl_X9_137 dX9_chance_17 sf_10 rfl ?_
  refine x_csd mf_J6_bitCount_0f7a4 ml_X9_173 dX9_chance_20 rfl ⟨by decide, by decide⟩ (Nat.le_of_ble_eq_true rfl) ⟨rfl, rfl⟩ ⟨Nat.le_of_ble_eq_true rfl, Nat.le_of_ble_eq_true rfl⟩ (c_bitCount _) ?_
  refine x_istore_n dX9_chance_23 (by decide) ?_
  refine x_iload_n dX9_chance_24 rfl ?_
  refine x_bipush (v := 16) dX9_chance_25 (by decide) ?_
  refine x_icmp_le 34 dX9_chance_27 (by decide) (fun hc_ => absurd hc_ (hc)) (fun _ => ?_)
  refine x_ldc2 dX9_chance_30 kc_X9_261 ?_
  exact x_lret dX9_chance_33 rfl (Nat.le_refl _) (Nat.le_refl _) ⟨rfl, ⟨rfl, rfl⟩⟩
theorem c_chance {Z : List (Option Nat)} {ext : List Ds} {M : Mm} {sq p : Nat} (x : Int32) (hx : rg x 0 1 = true) (hp : bcE (M 10 0) = nI p) (hp16 : p ≤ 16) (hq : M 1 3 = nI sq) (hb : sq ≤ 20) : Ct mX9_chance [.ref 0, .int x] (SS Z ext) M (Rt (some (.long (vItl (itl p (ww (M 5) (lsq (M 10 1) (M 6) (M 5) sq (M 10 0)) (nI p) sq 0 0) (nI p)) x))) M) := by
  have hx2 := rg_t.mp hx
  refine Ct.of (by decide) (Nat.le_of_ble_eq_true rfl) ?_
  refine x_iload_n dX9_chance_0 rfl ?_
  refine x_if_lt 9 dX9_chance_1 (by decide) (fun hc_ => absurd hc_ (fun q => absurd hx2.1 (by rw [fa_le]; rw [fa_lt] at q; omega))) (fun _ => ?_)
  refine x_iload_n dX9_chance_4 rfl ?_
  refine x_iconst (v := 1) dX9_chance_5 (by decide) ?_
  refine x_icmp_le 13 dX9_chance_6 (by decide) (fun _ => ?_) (fun hc_ => absurd (hx2.2) hc_)
  refine x_aload_n dX9_chance_13 rfl ?_
  refine x_getr fl_X9_19 dX9_chance_14 sf_0 rfl ?_
  refine x_geti fl_X9_137 dX9_chance_17 sf_10 rfl ?_
  refine x_csd mf_J6_bitCount_0f7a4 ml_X9_173 dX9_chance_20 rfl ⟨by decide, by decide⟩ (Nat.le_of_ble_eq_true rfl) ⟨rfl, rfl⟩ ⟨Nat.le_of_ble_eq_true rfl, Nat.le_of_ble_eq_true rfl⟩ (c_bitCount _) ?_
  rw [hp]
  refine x_istore_n dX9_chance_23 (by decide) ?_
  refine x_iload_n dX9_chance_24 rfl ?_
  refine x_bipush (v := 16) dX9_chance_25 (by decide) ?_
  refine x_icmp_le 34 dX9_chance_27 (by decide) (fun _ => ?_) (fun hc_ => absurd (nI_le (b := 16) hp16 (by decide)) hc_)
  refine x_aload_n dX9_chance_34 rfl ?_
  refine x_getr fl_X9_10 dX9_chance_35 sf_0 rfl ?_
  refine x_aload_n dX9_chance_38 rfl ?_
  refine x_aload_n dX9_chance_39 rfl ?_
  refine x_getr fl_X9_19 dX9_chance_40 sf_0 rfl ?_
  refine x_geti fl_X9_137 dX9_chance_43 sf_10 rfl ?_
  refine x_cvd mf_X9_leftSquares ml_X9_187 dX9_chance_46 rfl sf_0 rfl ⟨by decide, by decide⟩ (Nat.le_of_ble_eq_true rfl) ⟨rfl, rfl⟩ ⟨Nat.le_of_ble_eq_true rfl, Nat.le_of_ble_eq_true rfl⟩ (c_leftSquares (sq := sq) _ hq hb) ?_
  refine x_iconst (v := 0) dX9_chance_49 (by decide) ?_
  refine x_iconst (v := 0) dX9_chance_50 (by decide) ?_
  refine x_iload_n dX9_chance_51 rfl ?_
  refine x_csd (mf_X9_waysWithout _) ml_X9_263 dX9_chance_52 rfl ⟨by first | decide | omega, by first | decide | omega⟩ (Nat.le_of_ble_eq_true rfl) ⟨rfl, rfl⟩ ⟨Nat.le_of_ble_eq_true rfl, Nat.le_of_ble_eq_true rfl⟩ (c_waysWithout (sq := sq) _ _ hq hb) ?_
  refine x_iload_n dX9_chance_55 rfl ?_
  refine x_iload_n dX9_chance_56 rfl ?_
  refine x_csd mf_X9_inLowestTerms ml_X9_257 dX9_chance_57 rfl ⟨by decide, by decide⟩ (Nat.le_of_ble_eq_true rfl) ⟨rfl, rfl⟩ ⟨Nat.le_of_ble_eq_true rfl, Nat.le_of_ble_eq_true rfl⟩ (c_inLowestTerms _ p x (by omega)) ?_
  exact x_lret dX9_chance_60 rfl (Nat.le_refl _) (Nat.le_refl _) ⟨rfl, ⟨rfl, rfl⟩⟩
