/-! ===== the reference's small methods ===== -/
def fld {α : Type} (f : Nat → α → α) : Nat → α → α
  | 0, a => a
  | n + 1, a => f n (fld f n a)
def b2i (b : Bool) : Int32 := if b then 1 else 0
theorem oi {a b : Int32} (h : a = b) : some (Value.int a) = some (Value.int b) := by rw [h]
theorem ol {a b : Int64} (h : a = b) : some (Value.long a) = some (Value.long b) := by rw [h]
theorem lup {P : Nat → Prop} {N : Nat} (hend : P N) (hstep : ∀ k, k < N → P (k + 1) → P k) : ∀ k, k ≤ N → P k := by
  intro k hk
  obtain ⟨d, rfl⟩ : ∃ d, N = k + d := ⟨N - k, by omega⟩
  clear hk
  induction d generalizing k with
  | zero => exact hend
  | succ d ih => exact hstep k (by omega) (ih (k + 1) (by rw [show k + 1 + d = k + (d + 1) by omega]; exact hend) (fun j hj => hstep j (by omega)))
theorem c_m_in {S : List Ds} {M : Mm} (v lo hi : Int64) : Ct mX10_in [.long v, .long lo, .long hi] S M (Rt (some (.int (b2i (decide (lo ≤ v) && decide (v ≤ hi))))) M) := by
  refine Ct.of (by decide) (Nat.le_of_ble_eq_true rfl) ?_
  refine x_lload_n dX10_in_0 rfl ?_
  refine x_lload_n dX10_in_1 rfl ?_
  refine x_lcmp dX10_in_2 ?_
  refine x_if_lt 17 dX10_in_3 (by decide) (fun h1 => ?_) (fun h1 => ?_)
  · have h2 : ¬ lo ≤ v := Int64.not_le.mpr ((lg_cmp_lt v lo).mp h1)
    refine x_iconst (v := 0) dX10_in_17 (by decide) ?_
    exact x_iret dX10_in_18 rfl rfl (Nat.le_refl _) (Nat.le_refl _) ⟨rfl, ⟨oi (by simp [b2i, h2]), rfl⟩⟩
  · have h2 : lo ≤ v := Int64.not_lt.mp (fun q => h1 ((lg_cmp_lt v lo).mpr q))
    refine x_lload_n dX10_in_6 rfl ?_
    refine x_lload dX10_in_7 rfl ?_
    refine x_lcmp dX10_in_9 ?_
    refine x_if_gt 17 dX10_in_10 (by decide) (fun h3 => ?_) (fun h3 => ?_)
    · have h4 : ¬ v ≤ hi := Int64.not_le.mpr ((lg_cmp_gt v hi).mp h3)
      refine x_iconst (v := 0) dX10_in_17 (by decide) ?_
      exact x_iret dX10_in_18 rfl rfl (Nat.le_refl _) (Nat.le_refl _) ⟨rfl, ⟨oi (by simp [b2i, h4]), rfl⟩⟩
    · have h4 : v ≤ hi := Int64.not_lt.mp (fun q => h3 ((lg_cmp_gt v hi).mpr q))
      refine x_iconst (v := 1) dX10_in_13 (by decide) ?_
      refine x_goto 18 dX10_in_14 (by decide) ?_
      exact x_iret dX10_in_18 rfl rfl (Nat.le_refl _) (Nat.le_refl _) ⟨rfl, ⟨oi (by simp [b2i, h2, h4]), rfl⟩⟩
theorem c_m_flag {S : List Ds} {M : Mm} (b : Bool) : Ct mX10_flag [.int (b2i b)] S M (Rt (some (.int (b2i b))) M) := by
  refine Ct.of (by decide) (Nat.le_of_ble_eq_true rfl) ?_
  refine x_iload_n dX10_flag_0 rfl ?_
  cases b
  · refine x_if_eq 8 dX10_flag_1 (by decide) (fun _ => ?_) (fun hc => absurd (rfl) hc)
    refine x_iconst (v := 0) dX10_flag_8 (by decide) ?_
    exact x_iret dX10_flag_9 rfl rfl (Nat.le_refl _) (Nat.le_refl _) ⟨rfl, ⟨rfl, rfl⟩⟩
  · refine x_if_eq 8 dX10_flag_1 (by decide) (fun hc => absurd hc ((by decide))) (fun _ => ?_)
    refine x_iconst (v := 1) dX10_flag_4 (by decide) ?_
    refine x_goto 9 dX10_flag_5 (by decide) ?_
    exact x_iret dX10_flag_9 rfl rfl (Nat.le_refl _) (Nat.le_refl _) ⟨rfl, ⟨rfl, rfl⟩⟩
def mBits (v : Int32) (n : Nat) : Int32 := fld (fun k a => a + ((v >>> (nI k &&& 31)) &&& 1)) n 0
theorem c_m_bitsOf {S : List Ds} {M : Mm} (v : Int32) : Ct mX10_bitsOf [.int v] S M (Rt (some (.int (mBits v 31))) M) := by
  refine Ct.of (by decide) (Nat.le_of_ble_eq_true rfl) ?_
  refine x_iconst (v := 0) dX10_bitsOf_0 (by decide) ?_
  refine x_istore_n dX10_bitsOf_1 (by decide) ?_
  refine x_iconst (v := 0) dX10_bitsOf_2 (by decide) ?_
  refine x_istore_n dX10_bitsOf_3 (by decide) ?_
  refine lup (P := fun k => XW _ _ 0 0 S M 4 [some (.int v), some (.int (mBits v k)), some (.int (nI k))] []) (N := 31) ?_ ?_ 0 (by omega)
  · refine x_iload_n dX10_bitsOf_4 rfl ?_
    refine x_bipush (v := 31) dX10_bitsOf_5 (by decide) ?_
    refine x_icmp_ge 24 dX10_bitsOf_7 (by decide) (fun _ => ?_) (fun hc => absurd ((by decide)) hc)
    refine x_iload_n dX10_bitsOf_24 rfl ?_
    exact x_iret dX10_bitsOf_25 rfl rfl (Nat.le_refl _) (Nat.le_refl _) ⟨rfl, ⟨rfl, rfl⟩⟩
  · intro k hk ih
    rw [nI_succ] at ih
    refine x_iload_n dX10_bitsOf_4 rfl ?_
    refine x_bipush (v := 31) dX10_bitsOf_5 (by decide) ?_
    refine x_icmp_ge 24 dX10_bitsOf_7 (by decide) (fun hc => absurd hc ((nI_ge (b := 31) hk (by decide)))) (fun _ => ?_)
    refine x_iload_n dX10_bitsOf_10 rfl ?_
    refine x_iload_n dX10_bitsOf_11 rfl ?_
    refine x_iload_n dX10_bitsOf_12 rfl ?_
    refine x_ishr dX10_bitsOf_13 ?_
    refine x_iconst (v := 1) dX10_bitsOf_14 (by decide) ?_
    refine x_iand dX10_bitsOf_15 ?_
    refine x_iadd dX10_bitsOf_16 ?_
    refine x_istore_n dX10_bitsOf_17 (by decide) ?_
    refine x_iinc1 dX10_bitsOf_18 rfl (by decide) ?_
    refine x_goto 4 dX10_bitsOf_21 (by decide) ?_
    exact ih
def mCnt (M : Mm) (q : Nat) : Bool := decide ((M 49 32 >>> (M 51 q &&& 31)) &&& 1 = 1)
def mIn (M : Mm) (set : Int32) (q : Nat) : Bool := decide (M 54 q &&& (set ^^^ (-1)) = 0)
def mLeft (M : Mm) (set : Int32) (n : Nat) : Int32 := fld (fun q a => a + b2i (mCnt M q && mIn M set q)) n 0
theorem c_m_doesCount {Z : List (Option Nat)} {ext : List Ds} {M : Mm} (q : Nat) (hq : q < 20) : Ct mX10_doesCount [.ref 48, .int (nI q)] (SS Z ext) M (Rt (some (.int (b2i (mCnt M q)))) M) := by
  refine Ct.of (by decide) (Nat.le_of_ble_eq_true rfl) ?_
  refine x_aload_n dX10_doesCount_0 rfl ?_
  refine x_getr fl_X10_7 dX10_doesCount_1 sf_48 rfl ?_
  refine x_bipush (v := 32) dX10_doesCount_4 (by decide) ?_
  refine x_iald (q := 32) dX10_doesCount_6 sf_49 (by decide) (by decide) (by decide) ?_
  refine x_aload_n dX10_doesCount_7 rfl ?_
  refine x_getr fl_X10_17 dX10_doesCount_8 sf_48 rfl ?_
  refine x_iload_n dX10_doesCount_11 rfl ?_
  refine x_iald dX10_doesCount_12 sf_51 rfl (by omega) (by decide) ?_
  refine x_ishr dX10_doesCount_13 ?_
  refine x_iconst (v := 1) dX10_doesCount_14 (by decide) ?_
  refine x_iand dX10_doesCount_15 ?_
  refine x_iconst (v := 1) dX10_doesCount_16 (by decide) ?_
  refine x_icmp_ne 24 dX10_doesCount_17 (by decide) (fun h => ?_) (fun h => ?_)
  · refine x_iconst (v := 0) dX10_doesCount_24 (by decide) ?_
    exact x_iret dX10_doesCount_25 rfl rfl (Nat.le_refl _) (Nat.le_refl _) ⟨rfl, ⟨oi (by simp [b2i, mCnt, h]), rfl⟩⟩
  · refine x_iconst (v := 1) dX10_doesCount_20 (by decide) ?_
    refine x_goto 25 dX10_doesCount_21 (by decide) ?_
    exact x_iret dX10_doesCount_25 rfl rfl (Nat.le_refl _) (Nat.le_refl _) ⟨rfl, ⟨oi (by simp [b2i, mCnt, h]), rfl⟩⟩
theorem c_m_leftOf {Z : List (Option Nat)} {ext : List Ds} {M : Mm} {sq : Nat} (set : Int32) (hq : M 48 5 = nI sq) (hb : sq ≤ 20) : Ct mX10_leftOf [.ref 48, .int set] (SS Z ext) M (Rt (some (.int (mLeft M set sq))) M) := by
  refine Ct.of (by decide) (Nat.le_of_ble_eq_true rfl) ?_
  refine x_iconst (v := 0) dX10_leftOf_0 (by decide) ?_
  refine x_istore_n dX10_leftOf_1 (by decide) ?_
  refine x_iconst (v := 0) dX10_leftOf_2 (by decide) ?_
  refine x_istore_n dX10_leftOf_3 (by decide) ?_
  refine lup (P := fun k => XW _ _ 0 0 (SS Z ext) M 4 [some (.ref 48), some (.int set), some (.int (mLeft M set k)), some (.int (nI k))] []) (N := sq) ?_ ?_ 0 (by omega)
  · refine x_iload_n dX10_leftOf_4 rfl ?_
    refine x_aload_n dX10_leftOf_5 rfl ?_
    refine x_geti fl_X10_116 dX10_leftOf_6 sf_48 rfl ?_
    refine x_icmp_ge 50 dX10_leftOf_9 (by decide) (fun _ => ?_) (fun hc => absurd ((by rw [hq]; exact nI_le (Nat.le_refl _) (by omega))) hc)
    refine x_iload_n dX10_leftOf_50 rfl ?_
    exact x_iret dX10_leftOf_51 rfl rfl (Nat.le_refl _) (Nat.le_refl _) ⟨rfl, ⟨rfl, rfl⟩⟩
  · intro k hk ih
    rw [nI_succ] at ih
    refine x_iload_n dX10_leftOf_4 rfl ?_
    refine x_aload_n dX10_leftOf_5 rfl ?_
    refine x_geti fl_X10_116 dX10_leftOf_6 sf_48 rfl ?_
    refine x_icmp_ge 50 dX10_leftOf_9 (by decide) (fun hc => absurd hc ((by rw [hq]; exact nI_ge hk (by omega)))) (fun _ => ?_)
    refine x_iload_n dX10_leftOf_12 rfl ?_
    refine x_aload_n dX10_leftOf_13 rfl ?_
    refine x_iload_n dX10_leftOf_14 rfl ?_
    refine x_cvd mf_X10_doesCount ml_X10_205 dX10_leftOf_15 rfl sf_48 rfl ⟨by decide, by decide⟩ (Nat.le_of_ble_eq_true rfl) ⟨rfl, rfl⟩ ⟨Nat.le_of_ble_eq_true rfl, Nat.le_of_ble_eq_true rfl⟩ (c_m_doesCount k (by omega)) ?_
    have fin : XW mX10_leftOf _ 0 0 (SS Z ext) M 39 [some (.ref 48), some (.int set), some (.int (mLeft M set k)), some (.int (nI k))] [.int (b2i (mCnt M k && mIn M set k)), .int (mLeft M set k)] := by
      refine x_csd mf_X10_flag ml_X10_209 dX10_leftOf_39 rfl ⟨by decide, by decide⟩ (Nat.le_of_ble_eq_true rfl) ⟨rfl, rfl⟩ ⟨Nat.le_of_ble_eq_true rfl, Nat.le_of_ble_eq_true rfl⟩ (c_m_flag _) ?_
      refine x_iadd dX10_leftOf_42 ?_
      refine x_istore_n dX10_leftOf_43 (by decide) ?_
      refine x_iinc1 dX10_leftOf_44 rfl (by decide) ?_
      refine x_goto 4 dX10_leftOf_47 (by decide) ?_
      exact ih
    refine x_if_eq 38 dX10_leftOf_18 (by decide) (fun h1 => ?_) (fun h1 => ?_)
    · have h2 : mCnt M k = false := by
        cases h3 : mCnt M k with
        | false => rfl
        | true => rw [h3] at h1; exact absurd h1 (by decide)
      refine x_iconst (v := 0) dX10_leftOf_38 (by decide) ?_
      rw [show b2i (mCnt M k && mIn M set k) = 0 by simp [h2, b2i]] at fin
      exact fin
    · have h2 : mCnt M k = true := by
        cases h3 : mCnt M k with
        | true => rfl
        | false => rw [h3] at h1; exact absurd rfl h1
      refine x_aload_n dX10_leftOf_21 rfl ?_
      refine x_getr fl_X10_26 dX10_leftOf_22 sf_48 rfl ?_
      refine x_iload_n dX10_leftOf_25 rfl ?_
      refine x_iald dX10_leftOf_26 sf_54 rfl (by omega) (by decide) ?_
      refine x_iload_n dX10_leftOf_27 rfl ?_
      refine x_iconst (v := -1) dX10_leftOf_28 (by decide) ?_
      refine x_ixor dX10_leftOf_29 ?_
      refine x_iand dX10_leftOf_30 ?_
      refine x_if_ne 38 dX10_leftOf_31 (by decide) (fun h4 => ?_) (fun h4 => ?_)
      · rw [show b2i (mCnt M k && mIn M set k) = 0 by simp [h2, b2i, mIn, h4]] at fin
        refine x_iconst (v := 0) dX10_leftOf_38 (by decide) ?_
        exact fin
      · rw [show b2i (mCnt M k && mIn M set k) = 1 by simp [h2, b2i, mIn, h4]] at fin
        refine x_iconst (v := 1) dX10_leftOf_34 (by decide) ?_
        refine x_goto 39 dX10_leftOf_35 (by decide) ?_
        exact fin
