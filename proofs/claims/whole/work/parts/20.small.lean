/-! ===== the reference's small methods ===== -/
theorem c_m_in {S : List Ds} {M : Mm} (v lo hi : Int64) : Ct mX10_in [.long v, .long lo, .long hi] S M (Rt (some (.int (b2i (decide (lo ≤ v) && decide (v ≤ hi))))) M) := by
  refine Ct.of (by decide) (Nat.le_of_ble_eq_true rfl) ?_
  refine x_lload_n dX10_in_0 rfl ?_
  refine x_lload_n dX10_in_1 rfl ?_
  refine x_lcmp dX10_in_2 ?_
  refine x_if_lt 17 dX10_in_3 (by decide) (fun h3 => ?_) (fun h3 => ?_)
  · refine x_iconst (v := 0) dX10_in_17 (by decide) ?_
    simp only [lg_cmp_lt, lg_cmp_gt] at *
    exact x_iret dX10_in_18 rfl rfl (Nat.le_refl _) (Nat.le_refl _) ⟨rfl, ⟨oi (by first | (rw [decide_eq_false (Int64.not_le.mpr h3)]; rfl) | (rw [decide_eq_false (Int64.not_le.mpr h10), Bool.and_false]; rfl) | (rw [decide_eq_true (Int64.not_lt.mp h3), decide_eq_true (Int64.not_lt.mp h10)]; rfl)), rfl⟩⟩
  · refine x_lload_n dX10_in_6 rfl ?_
    refine x_lload dX10_in_7 rfl ?_
    refine x_lcmp dX10_in_9 ?_
    refine x_if_gt 17 dX10_in_10 (by decide) (fun h10 => ?_) (fun h10 => ?_)
    · refine x_iconst (v := 0) dX10_in_17 (by decide) ?_
      simp only [lg_cmp_lt, lg_cmp_gt] at *
      exact x_iret dX10_in_18 rfl rfl (Nat.le_refl _) (Nat.le_refl _) ⟨rfl, ⟨oi (by first | (rw [decide_eq_false (Int64.not_le.mpr h3)]; rfl) | (rw [decide_eq_false (Int64.not_le.mpr h10), Bool.and_false]; rfl) | (rw [decide_eq_true (Int64.not_lt.mp h3), decide_eq_true (Int64.not_lt.mp h10)]; rfl)), rfl⟩⟩
    · refine x_iconst (v := 1) dX10_in_13 (by decide) ?_
      refine x_goto 18 dX10_in_14 (by decide) ?_
      simp only [lg_cmp_lt, lg_cmp_gt] at *
      exact x_iret dX10_in_18 rfl rfl (Nat.le_refl _) (Nat.le_refl _) ⟨rfl, ⟨oi (by first | (rw [decide_eq_false (Int64.not_le.mpr h3)]; rfl) | (rw [decide_eq_false (Int64.not_le.mpr h10), Bool.and_false]; rfl) | (rw [decide_eq_true (Int64.not_lt.mp h3), decide_eq_true (Int64.not_lt.mp h10)]; rfl)), rfl⟩⟩
theorem c_m_rg {S : List Ds} {M : Mm} {x a b : Int32} {lo hi : Int64} (h1 : lo = a.toInt64) (h2 : hi = b.toInt64) : Ct mX10_in [.long x.toInt64, .long lo, .long hi] S M (Rt (some (.int (b2i (rg x a b)))) M) := by
  have h := c_m_in (S := S) (M := M) x.toInt64 lo hi
  subst h1; subst h2
  rw [show (decide (a.toInt64 ≤ x.toInt64) && decide (x.toInt64 ≤ b.toInt64)) = rg x a b by simp [rg, fa_wide_le]] at h
  exact h
theorem c_m_flag {S : List Ds} {M : Mm} (b : Bool) : Ct mX10_flag [.int (b2i b)] S M (Rt (some (.int (b2i b))) M) := by
  refine Ct.of (by decide) (Nat.le_of_ble_eq_true rfl) ?_
  refine x_iload_n dX10_flag_0 rfl ?_
  refine x_if_eq 8 dX10_flag_1 (by decide) (fun h1 => ?_) (fun h1 => ?_)
  · refine x_iconst (v := 0) dX10_flag_8 (by decide) ?_
    exact x_iret dX10_flag_9 rfl rfl (Nat.le_refl _) (Nat.le_refl _) ⟨rfl, ⟨oi (by simp_all [b2i]), rfl⟩⟩
  · refine x_iconst (v := 1) dX10_flag_4 (by decide) ?_
    refine x_goto 9 dX10_flag_5 (by decide) ?_
    exact x_iret dX10_flag_9 rfl rfl (Nat.le_refl _) (Nat.le_refl _) ⟨rfl, ⟨oi (by simp_all [b2i]), rfl⟩⟩
def mBits (v : Int32) (n : Nat) : Int32 := fld (fun k a => a + ((v >>> (nI k &&& 31)) &&& 1)) n 0
theorem c_m_bitsOf {S : List Ds} {M : Mm} (v : Int32) : Ct mX10_bitsOf [.int v] S M (Rt (some (.int (mBits v 31))) M) := by
  refine Ct.of (by decide) (Nat.le_of_ble_eq_true rfl) ?_
  refine x_iconst (v := 0) dX10_bitsOf_0 (by decide) ?_
  refine x_istore_n dX10_bitsOf_1 (by decide) ?_
  refine x_iconst (v := 0) dX10_bitsOf_2 (by decide) ?_
  refine x_istore_n dX10_bitsOf_3 (by decide) ?_
  refine lup (P := fun k => XW _ _ 0 0 S M 4 [some (.int v), some (.int (mBits v k)), some (.int (nI k))] []) (N := 31) ?_ ?_ 0 (by omega)
  · refine x_iload_n dX10_bitsOf_4 rfl ?_
    refine x_bipush (v := 31) dX10_bitsOf_5 (by decide) ?_
    refine x_icmp_ge 24 dX10_bitsOf_7 (by decide) (fun _ => ?_) (fun hc => absurd (by decide) hc)
    refine x_iload_n dX10_bitsOf_24 rfl ?_
    exact x_iret dX10_bitsOf_25 rfl rfl (Nat.le_refl _) (Nat.le_refl _) ⟨rfl, ⟨rfl, rfl⟩⟩
  · intro k hk ih
    rw [nI_succ] at ih
    refine x_iload_n dX10_bitsOf_4 rfl ?_
    refine x_bipush (v := 31) dX10_bitsOf_5 (by decide) ?_
    refine x_icmp_ge 24 dX10_bitsOf_7 (by decide) (fun hc => absurd hc (nI_ge (b := 31) hk (by decide))) (fun _ => ?_)
    refine x_iload_n dX10_bitsOf_10 rfl ?_
    refine x_iload_n dX10_bitsOf_11 rfl ?_
    refine x_iload_n dX10_bitsOf_12 rfl ?_
    refine x_ishr dX10_bitsOf_13 ?_
    refine x_iconst (v := 1) dX10_bitsOf_14 (by decide) ?_
    refine x_iand dX10_bitsOf_15 ?_
    refine x_iadd dX10_bitsOf_16 ?_
    refine x_istore_n dX10_bitsOf_17 (by decide) ?_
    refine x_iinc1 dX10_bitsOf_18 rfl (by decide) ?_
    refine x_goto 4 dX10_bitsOf_21 (by decide) ?_
    exact ih
theorem c_m_doesCount {Z : List (Option Nat)} {ext : List Ds} {M : Mm} (q : Nat) (hq : q < 20) : Ct mX10_doesCount [.ref 48, .int (nI q)] (SS Z ext) M (Rt (some (.int (b2i (cntq (M 49 32) (M 51) q)))) M) := by
  refine Ct.of (by decide) (Nat.le_of_ble_eq_true rfl) ?_
  refine x_aload_n dX10_doesCount_0 rfl ?_
  refine x_getr fl_X10_7 dX10_doesCount_1 sf_48 rfl ?_
  refine x_bipush (v := 32) dX10_doesCount_4 (by decide) ?_
  refine x_iald (q := 32) dX10_doesCount_6 sf_49 (by decide) (by decide) (by decide) ?_
  refine x_aload_n dX10_doesCount_7 rfl ?_
  refine x_getr fl_X10_17 dX10_doesCount_8 sf_48 rfl ?_
  refine x_iload_n dX10_doesCount_11 rfl ?_
  refine x_iald dX10_doesCount_12 sf_51 rfl (by omega) (by decide) ?_
  refine x_ishr dX10_doesCount_13 ?_
  refine x_iconst (v := 1) dX10_doesCount_14 (by decide) ?_
  refine x_iand dX10_doesCount_15 ?_
  refine x_iconst (v := 1) dX10_doesCount_16 (by decide) ?_
  refine x_icmp_ne 24 dX10_doesCount_17 (by decide) (fun h17 => ?_) (fun h17 => ?_)
  · refine x_iconst (v := 0) dX10_doesCount_24 (by decide) ?_
    exact x_iret dX10_doesCount_25 rfl rfl (Nat.le_refl _) (Nat.le_refl _) ⟨rfl, ⟨oi (by simp_all [b2i, cntq]), rfl⟩⟩
  · refine x_iconst (v := 1) dX10_doesCount_20 (by decide) ?_
    refine x_goto 25 dX10_doesCount_21 (by decide) ?_
    exact x_iret dX10_doesCount_25 rfl rfl (Nat.le_refl _) (Nat.le_refl _) ⟨rfl, ⟨oi (by simp_all [b2i, cntq]), rfl⟩⟩
theorem c_m_leftOf {Z : List (Option Nat)} {ext : List Ds} {M : Mm} {sq : Nat} (set : Int32) (hq : M 48 5 = nI sq) (hb : sq ≤ 20) : Ct mX10_leftOf [.ref 48, .int set] (SS Z ext) M (Rt (some (.int (Lf (M 49 32) (M 51) (M 54) set sq))) M) := by
  refine Ct.of (by decide) (Nat.le_of_ble_eq_true rfl) ?_
  refine x_iconst (v := 0) dX10_leftOf_0 (by decide) ?_
  refine x_istore_n dX10_leftOf_1 (by decide) ?_
  refine x_iconst (v := 0) dX10_leftOf_2 (by decide) ?_
  refine x_istore_n dX10_leftOf_3 (by decide) ?_
  refine lup (P := fun k => XW _ _ 0 0 (SS Z ext) M 4 [some (.ref 48), some (.int set), some (.int (Lf (M 49 32) (M 51) (M 54) set k)), some (.int (nI k))] []) (N := sq) ?_ ?_ 0 (by omega)
  · refine x_iload_n dX10_leftOf_4 rfl ?_
    refine x_aload_n dX10_leftOf_5 rfl ?_
    refine x_geti fl_X10_116 dX10_leftOf_6 sf_48 rfl ?_
    refine x_icmp_ge 50 dX10_leftOf_9 (by decide) (fun _ => ?_) (fun hc => absurd (by rw [hq]; exact nI_le (Nat.le_refl _) (by omega)) hc)
    refine x_iload_n dX10_leftOf_50 rfl ?_
    exact x_iret dX10_leftOf_51 rfl rfl (Nat.le_refl _) (Nat.le_refl _) ⟨rfl, ⟨rfl, rfl⟩⟩
  · intro k hk ih
    rw [nI_succ] at ih
    refine x_join M 39 [some (.ref 48), some (.int set), some (.int (Lf (M 49 32) (M 51) (M 54) set k)), some (.int (nI k))] [.int (b2i (cntq (M 49 32) (M 51) k && inq (M 54) set k)), .int (Lf (M 49 32) (M 51) (M 54) set k)] ?_ (fun fin => ?_)
    · refine x_csd mf_X10_flag ml_X10_209 dX10_leftOf_39 rfl ⟨by decide, by decide⟩ (Nat.le_of_ble_eq_true rfl) ⟨rfl, rfl⟩ ⟨Nat.le_of_ble_eq_true rfl, Nat.le_of_ble_eq_true rfl⟩ (c_m_flag _) ?_
      refine x_iadd dX10_leftOf_42 ?_
      refine x_istore_n dX10_leftOf_43 (by decide) ?_
      refine x_iinc1 dX10_leftOf_44 rfl (by decide) ?_
      refine x_goto 4 dX10_leftOf_47 (by decide) ?_
      exact ih
    · refine x_iload_n dX10_leftOf_4 rfl ?_
      refine x_aload_n dX10_leftOf_5 rfl ?_
      refine x_geti fl_X10_116 dX10_leftOf_6 sf_48 rfl ?_
      refine x_icmp_ge 50 dX10_leftOf_9 (by decide) (fun hc => absurd hc (by rw [hq]; exact nI_ge hk (by omega))) (fun _ => ?_)
      refine x_iload_n dX10_leftOf_12 rfl ?_
      refine x_aload_n dX10_leftOf_13 rfl ?_
      refine x_iload_n dX10_leftOf_14 rfl ?_
      refine x_cvd mf_X10_doesCount ml_X10_205 dX10_leftOf_15 rfl sf_48 rfl ⟨by decide, by decide⟩ (Nat.le_of_ble_eq_true rfl) ⟨rfl, rfl⟩ ⟨Nat.le_of_ble_eq_true rfl, Nat.le_of_ble_eq_true rfl⟩ (c_m_doesCount k (by omega)) ?_
      refine x_ifb_eq 38 dX10_leftOf_18 (by decide) (fun h18 => ?_) (fun h18 => ?_)
      · refine x_iconst (v := 0) dX10_leftOf_38 (by decide) ?_
        first | (rw [h18, inq_f h31] at fin; exact fin) | (rw [h18, inq_t h31] at fin; exact fin) | (rw [h18] at fin; exact fin)
      · refine x_aload_n dX10_leftOf_21 rfl ?_
        refine x_getr fl_X10_26 dX10_leftOf_22 sf_48 rfl ?_
        refine x_iload_n dX10_leftOf_25 rfl ?_
        refine x_iald dX10_leftOf_26 sf_54 rfl (by omega) (by decide) ?_
        refine x_iload_n dX10_leftOf_27 rfl ?_
        refine x_iconst (v := -1) dX10_leftOf_28 (by decide) ?_
        refine x_ixor dX10_leftOf_29 ?_
        refine x_iand dX10_leftOf_30 ?_
        refine x_if_ne 38 dX10_leftOf_31 (by decide) (fun h31 => ?_) (fun h31 => ?_)
        · refine x_iconst (v := 0) dX10_leftOf_38 (by decide) ?_
          first | (rw [h18, inq_f h31] at fin; exact fin) | (rw [h18, inq_t h31] at fin; exact fin) | (rw [h18] at fin; exact fin)
        · refine x_iconst (v := 1) dX10_leftOf_34 (by decide) ?_
          refine x_goto 39 dX10_leftOf_35 (by decide) ?_
          first | (rw [h18, inq_f h31] at fin; exact fin) | (rw [h18, inq_t h31] at fin; exact fin) | (rw [h18] at fin; exact fin)
theorem c_m_wholeOf {Z : List (Option Nat)} {ext : List Ds} {M : Mm} {sq : Nat} (size set : Int32) (hq : M 48 5 = nI sq) (hb : sq ≤ 20) : Ct mX10_wholeOf [.ref 48, .int size, .int set] (SS Z ext) M (Rt (some (.int (Wh (M 51) (M 54) size set sq))) M) := by
  refine Ct.of (by decide) (Nat.le_of_ble_eq_true rfl) ?_
  refine x_iconst (v := 0) dX10_wholeOf_0 (by decide) ?_
  refine x_istore_n dX10_wholeOf_1 (by decide) ?_
  refine x_iconst (v := 0) dX10_wholeOf_2 (by decide) ?_
  refine x_istore dX10_wholeOf_3 (by decide) ?_
  refine lup (P := fun k => XW _ _ 0 0 (SS Z ext) M 5 [some (.ref 48), some (.int size), some (.int set), some (.int (Wh (M 51) (M 54) size set k)), some (.int (nI k))] []) (N := sq) ?_ ?_ 0 (by omega)
  · refine x_iload dX10_wholeOf_5 rfl ?_
    refine x_aload_n dX10_wholeOf_7 rfl ?_
    refine x_geti fl_X10_116 dX10_wholeOf_8 sf_48 rfl ?_
    refine x_icmp_ge 56 dX10_wholeOf_11 (by decide) (fun _ => ?_) (fun hc => absurd (by rw [hq]; exact nI_le (Nat.le_refl _) (by omega)) hc)
    refine x_iload_n dX10_wholeOf_56 rfl ?_
    exact x_iret dX10_wholeOf_57 rfl rfl (Nat.le_refl _) (Nat.le_refl _) ⟨rfl, ⟨rfl, rfl⟩⟩
  · intro k hk ih
    rw [nI_succ] at ih
    refine x_join M 45 [some (.ref 48), some (.int size), some (.int set), some (.int (Wh (M 51) (M 54) size set k)), some (.int (nI k))] [.int (b2i (decide (M 51 k = size) && inq (M 54) set k)), .int (Wh (M 51) (M 54) size set k)] ?_ (fun fin => ?_)
    · refine x_csd mf_X10_flag ml_X10_209 dX10_wholeOf_45 rfl ⟨by decide, by decide⟩ (Nat.le_of_ble_eq_true rfl) ⟨rfl, rfl⟩ ⟨Nat.le_of_ble_eq_true rfl, Nat.le_of_ble_eq_true rfl⟩ (c_m_flag _) ?_
      refine x_iadd dX10_wholeOf_48 ?_
      refine x_istore_n dX10_wholeOf_49 (by decide) ?_
      refine x_iinc1 dX10_wholeOf_50 rfl (by decide) ?_
      refine x_goto 5 dX10_wholeOf_53 (by decide) ?_
      exact ih
    · refine x_iload dX10_wholeOf_5 rfl ?_
      refine x_aload_n dX10_wholeOf_7 rfl ?_
      refine x_geti fl_X10_116 dX10_wholeOf_8 sf_48 rfl ?_
      refine x_icmp_ge 56 dX10_wholeOf_11 (by decide) (fun hc => absurd hc (by rw [hq]; exact nI_ge hk (by omega))) (fun _ => ?_)
      refine x_iload_n dX10_wholeOf_14 rfl ?_
      refine x_aload_n dX10_wholeOf_15 rfl ?_
      refine x_getr fl_X10_17 dX10_wholeOf_16 sf_48 rfl ?_
      refine x_iload dX10_wholeOf_19 rfl ?_
      refine x_iald dX10_wholeOf_21 sf_51 rfl (by omega) (by decide) ?_
      refine x_iload_n dX10_wholeOf_22 rfl ?_
      refine x_icmp_ne 44 dX10_wholeOf_23 (by decide) (fun h23 => ?_) (fun h23 => ?_)
      · refine x_iconst (v := 0) dX10_wholeOf_44 (by decide) ?_
        first | (rw [decide_eq_true h23, inq_f h37] at fin; exact fin) | (rw [decide_eq_true h23, inq_t h37] at fin; exact fin) | (rw [decide_eq_false h23] at fin; exact fin)
      · refine x_aload_n dX10_wholeOf_26 rfl ?_
        refine x_getr fl_X10_26 dX10_wholeOf_27 sf_48 rfl ?_
        refine x_iload dX10_wholeOf_30 rfl ?_
        refine x_iald dX10_wholeOf_32 sf_54 rfl (by omega) (by decide) ?_
        refine x_iload_n dX10_wholeOf_33 rfl ?_
        refine x_iconst (v := -1) dX10_wholeOf_34 (by decide) ?_
        refine x_ixor dX10_wholeOf_35 ?_
        refine x_iand dX10_wholeOf_36 ?_
        refine x_if_ne 44 dX10_wholeOf_37 (by decide) (fun h37 => ?_) (fun h37 => ?_)
        · refine x_iconst (v := 0) dX10_wholeOf_44 (by decide) ?_
          first | (rw [decide_eq_true h23, inq_f h37] at fin; exact fin) | (rw [decide_eq_true h23, inq_t h37] at fin; exact fin) | (rw [decide_eq_false h23] at fin; exact fin)
        · refine x_iconst (v := 1) dX10_wholeOf_40 (by decide) ?_
          refine x_goto 45 dX10_wholeOf_41 (by decide) ?_
          first | (rw [decide_eq_true h23, inq_f h37] at fin; exact fin) | (rw [decide_eq_true h23, inq_t h37] at fin; exact fin) | (rw [decide_eq_false h23] at fin; exact fin)
theorem c_m_acrossAt {Z : List (Option Nat)} {ext : List Ds} {M : Mm} (r p : Int32) : Ct mX10_acrossAt [.ref 48, .int r, .int p] (SS Z ext) M (Rt (some (.int (r * M 48 2 + p))) M) := by
  refine Ct.of (by decide) (Nat.le_of_ble_eq_true rfl) ?_
  refine x_iload_n dX10_acrossAt_0 rfl ?_
  refine x_aload_n dX10_acrossAt_1 rfl ?_
  refine x_geti fl_X10_103 dX10_acrossAt_2 sf_48 rfl ?_
  refine x_imul dX10_acrossAt_5 ?_
  refine x_iload_n dX10_acrossAt_6 rfl ?_
  refine x_iadd dX10_acrossAt_7 ?_
  exact x_iret dX10_acrossAt_8 rfl rfl (Nat.le_refl _) (Nat.le_refl _) ⟨rfl, ⟨rfl, rfl⟩⟩
theorem c_m_standsAt {Z : List (Option Nat)} {ext : List Ds} {M : Mm} (r p : Int32) : Ct mX10_standsAt [.ref 48, .int r, .int p] (SS Z ext) M (Rt (some (.int (M 48 2 * (M 48 3 + 1) + r * (M 48 2 + 1) + p))) M) := by
  refine Ct.of (by decide) (Nat.le_of_ble_eq_true rfl) ?_
  refine x_aload_n dX10_standsAt_0 rfl ?_
  refine x_geti fl_X10_103 dX10_standsAt_1 sf_48 rfl ?_
  refine x_aload_n dX10_standsAt_4 rfl ?_
  refine x_geti fl_X10_106 dX10_standsAt_5 sf_48 rfl ?_
  refine x_iconst (v := 1) dX10_standsAt_8 (by decide) ?_
  refine x_iadd dX10_standsAt_9 ?_
  refine x_imul dX10_standsAt_10 ?_
  refine x_iload_n dX10_standsAt_11 rfl ?_
  refine x_aload_n dX10_standsAt_12 rfl ?_
  refine x_geti fl_X10_103 dX10_standsAt_13 sf_48 rfl ?_
  refine x_iconst (v := 1) dX10_standsAt_16 (by decide) ?_
  refine x_iadd dX10_standsAt_17 ?_
  refine x_imul dX10_standsAt_18 ?_
  refine x_iadd dX10_standsAt_19 ?_
  refine x_iload_n dX10_standsAt_20 rfl ?_
  refine x_iadd dX10_standsAt_21 ?_
  exact x_iret dX10_standsAt_22 rfl rfl (Nat.le_refl _) (Nat.le_refl _) ⟨rfl, ⟨rfl, rfl⟩⟩
theorem c_m_isMatch {Z : List (Option Nat)} {ext : List Ds} {M : Mm} {mt : Nat} (x : Int32) (hm : M 48 4 = nI mt) (hb : mt ≤ 31) : Ct mX10_isMatch [.ref 48, .int x] (SS Z ext) M (Rt (some (.int (b2i (ix x mt)))) M) := by
  refine Ct.of (by decide) (Nat.le_of_ble_eq_true rfl) ?_
  refine x_iload_n dX10_isMatch_0 rfl ?_
  refine x_i2l dX10_isMatch_1 ?_
  refine x_lconst (v := 0) dX10_isMatch_2 (by decide) ?_
  refine x_aload_n dX10_isMatch_3 rfl ?_
  refine x_geti fl_X10_123 dX10_isMatch_4 sf_48 rfl ?_
  refine x_iconst (v := 1) dX10_isMatch_7 (by decide) ?_
  refine x_isub dX10_isMatch_8 ?_
  refine x_i2l dX10_isMatch_9 ?_
  refine x_csd mf_X10_in ml_X10_134 dX10_isMatch_10 rfl ⟨by decide, by decide⟩ (Nat.le_of_ble_eq_true rfl) ⟨rfl, rfl⟩ ⟨Nat.le_of_ble_eq_true rfl, Nat.le_of_ble_eq_true rfl⟩ (c_m_rg (a := 0) (b := nI mt - 1) (by decide) (by rw [hm])) ?_
  exact x_iret dX10_isMatch_13 rfl (nz_b _) (Nat.le_refl _) (Nat.le_refl _) ⟨rfl, ⟨oi (by rw [rg_ix x (by omega)]), rfl⟩⟩
theorem c_m_doesLie {Z : List (Option Nat)} {ext : List Ds} {M : Mm} (x : Int32) : Ct mX10_doesLie [.ref 48, .int x] (SS Z ext) M (Rt (some (.int (b2i (lies (M 49 0) x)))) M) := by
  refine Ct.of (by decide) (Nat.le_of_ble_eq_true rfl) ?_
  refine x_aload_n dX10_doesLie_0 rfl ?_
  refine x_getr fl_X10_7 dX10_doesLie_1 sf_48 rfl ?_
  refine x_iconst (v := 0) dX10_doesLie_4 (by decide) ?_
  refine x_iald (q := 0) dX10_doesLie_5 sf_49 (by decide) (by decide) (by decide) ?_
  refine x_iload_n dX10_doesLie_6 rfl ?_
  refine x_ishr dX10_doesLie_7 ?_
  refine x_iconst (v := 1) dX10_doesLie_8 (by decide) ?_
  refine x_iand dX10_doesLie_9 ?_
  refine x_iconst (v := 1) dX10_doesLie_10 (by decide) ?_
  refine x_icmp_ne 18 dX10_doesLie_11 (by decide) (fun h11 => ?_) (fun h11 => ?_)
  · refine x_iconst (v := 0) dX10_doesLie_18 (by decide) ?_
    exact x_iret dX10_doesLie_19 rfl rfl (Nat.le_refl _) (Nat.le_refl _) ⟨rfl, ⟨oi (by simp_all [b2i, lies]), rfl⟩⟩
  · refine x_iconst (v := 1) dX10_doesLie_14 (by decide) ?_
    refine x_goto 19 dX10_doesLie_15 (by decide) ?_
    exact x_iret dX10_doesLie_19 rfl rfl (Nat.le_refl _) (Nat.le_refl _) ⟨rfl, ⟨oi (by simp_all [b2i, lies]), rfl⟩⟩
