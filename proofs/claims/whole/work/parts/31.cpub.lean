/-! ===== the class: its small methods ===== -/
theorem ix_f1 {x : Int32} {n : Nat} (h : x < 0) : ix x n = false := by
  have : ¬ (0 : Int32) ≤ x := fun q => absurd h (by rw [fa_lt]; rw [fa_le] at q; omega)
  simp [ix, this]
theorem ix_f2 {x : Int32} {n : Nat} (h : nI n ≤ x) : ix x n = false := by
  have : ¬ x < nI n := fun q => absurd h (by rw [fa_le]; rw [fa_lt] at q; omega)
  simp [ix, this]
theorem ix_t1 {x : Int32} {n : Nat} (h1 : ¬ x < 0) (h2 : ¬ nI n ≤ x) : ix x n = true := by
  have a : (0 : Int32) ≤ x := fa_of_nlt h1
  have b : x < nI n := fa_of_nle h2
  simp [ix, a, b]
theorem rg_f1 {x a b : Int32} (h : x < a) : rg x a b = false := by
  rw [rg_f]; intro q; have := q.1; rw [fa_lt] at h; rw [fa_le] at this; omega
theorem rg_f2 {x a b : Int32} (h : b < x) : rg x a b = false := by
  rw [rg_f]; intro q; have := q.2; rw [fa_lt] at h; rw [fa_le] at this; omega
theorem rg_t1 {x a b : Int32} (h1 : ¬ x < a) (h2 : ¬ b < x) : rg x a b = true := rg_t.mpr ⟨fa_of_nlt h1, fa_of_nlt h2⟩
theorem rg_t2 {x a b : Int32} (h1 : ¬ x < a) (h2 : x ≤ b) : rg x a b = true := rg_t.mpr ⟨fa_of_nlt h1, h2⟩
theorem rg_f3 {x a b : Int32} (h : ¬ x ≤ b) : rg x a b = false := rg_f2 (fa_of_nle h)
theorem and1 (y : Int32) : y &&& 1 = 0 ∨ y &&& 1 = 1 := by
  have h := pk_and y (m := 1) 1 (by decide)
  rw [h]
  have h2 : y.toBitVec.toNat % 2 ^ 1 = 0 ∨ y.toBitVec.toNat % 2 ^ 1 = 1 := by omega
  rcases h2 with h2 | h2 <;> rw [h2]
  · exact Or.inl rfl
  · exact Or.inr rfl
theorem and1_n {y : Int32} : ¬ y &&& 1 = 0 ↔ y &&& 1 = 1 := by
  rcases and1 y with h | h <;> rw [h] <;> decide
theorem and1_f {y : Int32} : y &&& 1 = 0 ↔ ¬ y &&& 1 = 1 := by
  rcases and1 y with h | h <;> rw [h] <;> decide
theorem lies_f {L x : Int32} (h : (L >>> (x &&& 31)) &&& 1 = 0) : lies L x = false := decide_eq_false (and1_f.mp h)
theorem lies_t {L x : Int32} (h : ¬ (L >>> (x &&& 31)) &&& 1 = 0) : lies L x = true := decide_eq_true (and1_n.mp h)
theorem c_isMatch {Z : List (Option Nat)} {ext : List Ds} {M : Mm} {mt : Nat} (x : Int32) (hm : M 1 2 = nI mt) : Ct mX9_isMatch [.ref 0, .int x] (SS Z ext) M (Rt (some (.int (b2i (ix x mt)))) M) := by
  refine Ct.of (by decide) (Nat.le_of_ble_eq_true rfl) ?_
  refine x_iload_n dX9_isMatch_0 rfl ?_
  refine x_if_lt 19 dX9_isMatch_1 (by decide) (fun h1 => ?_) (fun h1 => ?_)
  · refine x_iconst (v := 0) dX9_isMatch_19 (by decide) ?_
    exact x_iret dX9_isMatch_20 rfl rfl (Nat.le_refl _) (Nat.le_refl _) ⟨rfl, ⟨oi (by first | (rw [ix_f1 h1]; rfl) | (rw [hm] at h12; first | (rw [ix_f2 h12]; rfl) | (rw [ix_t1 h1 h12]; rfl))), rfl⟩⟩
  · refine x_iload_n dX9_isMatch_4 rfl ?_
    refine x_aload_n dX9_isMatch_5 rfl ?_
    refine x_getr fl_X9_10 dX9_isMatch_6 sf_0 rfl ?_
    refine x_geti fl_X9_131 dX9_isMatch_9 sf_1 rfl ?_
    refine x_icmp_ge 19 dX9_isMatch_12 (by decide) (fun h12 => ?_) (fun h12 => ?_)
    · refine x_iconst (v := 0) dX9_isMatch_19 (by decide) ?_
      exact x_iret dX9_isMatch_20 rfl rfl (Nat.le_refl _) (Nat.le_refl _) ⟨rfl, ⟨oi (by first | (rw [ix_f1 h1]; rfl) | (rw [hm] at h12; first | (rw [ix_f2 h12]; rfl) | (rw [ix_t1 h1 h12]; rfl))), rfl⟩⟩
    · refine x_iconst (v := 1) dX9_isMatch_15 (by decide) ?_
      refine x_goto 20 dX9_isMatch_16 (by decide) ?_
      exact x_iret dX9_isMatch_20 rfl rfl (Nat.le_refl _) (Nat.le_refl _) ⟨rfl, ⟨oi (by first | (rw [ix_f1 h1]; rfl) | (rw [hm] at h12; first | (rw [ix_f2 h12]; rfl) | (rw [ix_t1 h1 h12]; rfl))), rfl⟩⟩
theorem c_isSize {S : List Ds} {M : Mm} (x : Int32) : Ct mX9_isSize [.int x] S M (Rt (some (.int (b2i (rg x 1 3)))) M) := by
  refine Ct.of (by decide) (Nat.le_of_ble_eq_true rfl) ?_
  refine x_iload_n dX9_isSize_0 rfl ?_
  refine x_iconst (v := 1) dX9_isSize_1 (by decide) ?_
  refine x_icmp_lt 14 dX9_isSize_2 (by decide) (fun h2 => ?_) (fun h2 => ?_)
  · refine x_iconst (v := 0) dX9_isSize_14 (by decide) ?_
    exact x_iret dX9_isSize_15 rfl rfl (Nat.le_refl _) (Nat.le_refl _) ⟨rfl, ⟨oi (by first | (rw [rg_f1 h2]; rfl) | (rw [rg_f2 h7]; rfl) | (rw [rg_t1 h2 h7]; rfl)), rfl⟩⟩
  · refine x_iload_n dX9_isSize_5 rfl ?_
    refine x_iconst (v := 3) dX9_isSize_6 (by decide) ?_
    refine x_icmp_gt 14 dX9_isSize_7 (by decide) (fun h7 => ?_) (fun h7 => ?_)
    · refine x_iconst (v := 0) dX9_isSize_14 (by decide) ?_
      exact x_iret dX9_isSize_15 rfl rfl (Nat.le_refl _) (Nat.le_refl _) ⟨rfl, ⟨oi (by first | (rw [rg_f1 h2]; rfl) | (rw [rg_f2 h7]; rfl) | (rw [rg_t1 h2 h7]; rfl)), rfl⟩⟩
    · refine x_iconst (v := 1) dX9_isSize_10 (by decide) ?_
      refine x_goto 15 dX9_isSize_11 (by decide) ?_
      exact x_iret dX9_isSize_15 rfl rfl (Nat.le_refl _) (Nat.le_refl _) ⟨rfl, ⟨oi (by first | (rw [rg_f1 h2]; rfl) | (rw [rg_f2 h7]; rfl) | (rw [rg_t1 h2 h7]; rfl)), rfl⟩⟩
theorem c_isImage {S : List Ds} {M : Mm} (x : Int32) : Ct mX9_isImage [.int x] S M (Rt (some (.int (b2i (ix x 2)))) M) := by
  refine Ct.of (by decide) (Nat.le_of_ble_eq_true rfl) ?_
  refine x_iload_n dX9_isImage_0 rfl ?_
  refine x_if_lt 13 dX9_isImage_1 (by decide) (fun h1 => ?_) (fun h1 => ?_)
  · refine x_iconst (v := 0) dX9_isImage_13 (by decide) ?_
    exact x_iret dX9_isImage_14 rfl rfl (Nat.le_refl _) (Nat.le_refl _) ⟨rfl, ⟨oi (by first | (rw [ix_f1 h1]; rfl) | (rw [ix_f2 (n := 2) h6]; rfl) | (rw [ix_t1 (n := 2) h1 h6]; rfl)), rfl⟩⟩
  · refine x_iload_n dX9_isImage_4 rfl ?_
    refine x_iconst (v := 2) dX9_isImage_5 (by decide) ?_
    refine x_icmp_ge 13 dX9_isImage_6 (by decide) (fun h6 => ?_) (fun h6 => ?_)
    · refine x_iconst (v := 0) dX9_isImage_13 (by decide) ?_
      exact x_iret dX9_isImage_14 rfl rfl (Nat.le_refl _) (Nat.le_refl _) ⟨rfl, ⟨oi (by first | (rw [ix_f1 h1]; rfl) | (rw [ix_f2 (n := 2) h6]; rfl) | (rw [ix_t1 (n := 2) h1 h6]; rfl)), rfl⟩⟩
    · refine x_iconst (v := 1) dX9_isImage_9 (by decide) ?_
      refine x_goto 14 dX9_isImage_10 (by decide) ?_
      exact x_iret dX9_isImage_14 rfl rfl (Nat.le_refl _) (Nat.le_refl _) ⟨rfl, ⟨oi (by first | (rw [ix_f1 h1]; rfl) | (rw [ix_f2 (n := 2) h6]; rfl) | (rw [ix_t1 (n := 2) h1 h6]; rfl)), rfl⟩⟩
theorem c_isSheet {S : List Ds} {M : Mm} (x : Int32) : Ct mX9_isSheet [.int x] S M (Rt (some (.int (b2i (ix x 4)))) M) := by
  refine Ct.of (by decide) (Nat.le_of_ble_eq_true rfl) ?_
  refine x_iload_n dX9_isSheet_0 rfl ?_
  refine x_if_lt 13 dX9_isSheet_1 (by decide) (fun h1 => ?_) (fun h1 => ?_)
  · refine x_iconst (v := 0) dX9_isSheet_13 (by decide) ?_
    exact x_iret dX9_isSheet_14 rfl rfl (Nat.le_refl _) (Nat.le_refl _) ⟨rfl, ⟨oi (by first | (rw [ix_f1 h1]; rfl) | (rw [ix_f2 (n := 4) h6]; rfl) | (rw [ix_t1 (n := 4) h1 h6]; rfl)), rfl⟩⟩
  · refine x_iload_n dX9_isSheet_4 rfl ?_
    refine x_iconst (v := 4) dX9_isSheet_5 (by decide) ?_
    refine x_icmp_ge 13 dX9_isSheet_6 (by decide) (fun h6 => ?_) (fun h6 => ?_)
    · refine x_iconst (v := 0) dX9_isSheet_13 (by decide) ?_
      exact x_iret dX9_isSheet_14 rfl rfl (Nat.le_refl _) (Nat.le_refl _) ⟨rfl, ⟨oi (by first | (rw [ix_f1 h1]; rfl) | (rw [ix_f2 (n := 4) h6]; rfl) | (rw [ix_t1 (n := 4) h1 h6]; rfl)), rfl⟩⟩
    · refine x_iconst (v := 1) dX9_isSheet_9 (by decide) ?_
      refine x_goto 14 dX9_isSheet_10 (by decide) ?_
      exact x_iret dX9_isSheet_14 rfl rfl (Nat.le_refl _) (Nat.le_refl _) ⟨rfl, ⟨oi (by first | (rw [ix_f1 h1]; rfl) | (rw [ix_f2 (n := 4) h6]; rfl) | (rw [ix_t1 (n := 4) h1 h6]; rfl)), rfl⟩⟩
theorem c_isLane {S : List Ds} {M : Mm} (x : Int32) : Ct mX9_isLane [.int x] S M (Rt (some (.int (b2i (ix x 3)))) M) := by
  refine Ct.of (by decide) (Nat.le_of_ble_eq_true rfl) ?_
  refine x_iload_n dX9_isLane_0 rfl ?_
  refine x_if_lt 13 dX9_isLane_1 (by decide) (fun h1 => ?_) (fun h1 => ?_)
  · refine x_iconst (v := 0) dX9_isLane_13 (by decide) ?_
    exact x_iret dX9_isLane_14 rfl rfl (Nat.le_refl _) (Nat.le_refl _) ⟨rfl, ⟨oi (by first | (rw [ix_f1 h1]; rfl) | (rw [ix_f2 (n := 3) h6]; rfl) | (rw [ix_t1 (n := 3) h1 h6]; rfl)), rfl⟩⟩
  · refine x_iload_n dX9_isLane_4 rfl ?_
    refine x_iconst (v := 3) dX9_isLane_5 (by decide) ?_
    refine x_icmp_ge 13 dX9_isLane_6 (by decide) (fun h6 => ?_) (fun h6 => ?_)
    · refine x_iconst (v := 0) dX9_isLane_13 (by decide) ?_
      exact x_iret dX9_isLane_14 rfl rfl (Nat.le_refl _) (Nat.le_refl _) ⟨rfl, ⟨oi (by first | (rw [ix_f1 h1]; rfl) | (rw [ix_f2 (n := 3) h6]; rfl) | (rw [ix_t1 (n := 3) h1 h6]; rfl)), rfl⟩⟩
    · refine x_iconst (v := 1) dX9_isLane_9 (by decide) ?_
      refine x_goto 14 dX9_isLane_10 (by decide) ?_
      exact x_iret dX9_isLane_14 rfl rfl (Nat.le_refl _) (Nat.le_refl _) ⟨rfl, ⟨oi (by first | (rw [ix_f1 h1]; rfl) | (rw [ix_f2 (n := 3) h6]; rfl) | (rw [ix_t1 (n := 3) h1 h6]; rfl)), rfl⟩⟩
theorem c_lies {Z : List (Option Nat)} {ext : List Ds} {M : Mm} (x : Int32) : Ct mX9_lies [.ref 0, .int x] (SS Z ext) M (Rt (some (.int (b2i (lies (M 10 0) x)))) M) := by
  refine Ct.of (by decide) (Nat.le_of_ble_eq_true rfl) ?_
  refine x_aload_n dX9_lies_0 rfl ?_
  refine x_getr fl_X9_19 dX9_lies_1 sf_0 rfl ?_
  refine x_geti fl_X9_137 dX9_lies_4 sf_10 rfl ?_
  refine x_iload_n dX9_lies_7 rfl ?_
  refine x_ishr dX9_lies_8 ?_
  refine x_iconst (v := 1) dX9_lies_9 (by decide) ?_
  refine x_iand dX9_lies_10 ?_
  refine x_if_eq 18 dX9_lies_11 (by decide) (fun h11 => ?_) (fun h11 => ?_)
  · refine x_iconst (v := 0) dX9_lies_18 (by decide) ?_
    exact x_iret dX9_lies_19 rfl rfl (Nat.le_refl _) (Nat.le_refl _) ⟨rfl, ⟨oi (by first | (rw [lies_f h11]; rfl) | (rw [lies_t h11]; rfl)), rfl⟩⟩
  · refine x_iconst (v := 1) dX9_lies_14 (by decide) ?_
    refine x_goto 19 dX9_lies_15 (by decide) ?_
    exact x_iret dX9_lies_19 rfl rfl (Nat.le_refl _) (Nat.le_refl _) ⟨rfl, ⟨oi (by first | (rw [lies_f h11]; rfl) | (rw [lies_t h11]; rfl)), rfl⟩⟩
theorem c_takeOne {Z : List (Option Nat)} {ext : List Ds} {M : Mm} {mt : Nat} (x : Int32) (hm : M 1 2 = nI mt) : Ct mX9_takeOne [.ref 0, .int x] (SS Z ext) M (Rt (some (.int (if ix x mt then (if lies (M 10 0) x then 0 else -2) else -1))) (up2 M 10 0 (wTake mt (M 10 0) x))) := by
  refine Ct.of (by decide) (Nat.le_of_ble_eq_true rfl) ?_
  refine x_aload_n dX9_takeOne_0 rfl ?_
  refine x_iload_n dX9_takeOne_1 rfl ?_
  refine x_cvd mf_X9_isMatch ml_X9_160 dX9_takeOne_2 rfl sf_0 rfl ⟨by decide, by decide⟩ (Nat.le_of_ble_eq_true rfl) ⟨rfl, rfl⟩ ⟨Nat.le_of_ble_eq_true rfl, Nat.le_of_ble_eq_true rfl⟩ (c_isMatch x hm) ?_
  refine x_ifb_ne 10 dX9_takeOne_5 (by decide) (fun h5 => ?_) (fun h5 => ?_)
  · refine x_aload_n dX9_takeOne_10 rfl ?_
    refine x_iload_n dX9_takeOne_11 rfl ?_
    refine x_cvd mf_X9_lies ml_X9_184 dX9_takeOne_12 rfl sf_0 rfl ⟨by decide, by decide⟩ (Nat.le_of_ble_eq_true rfl) ⟨rfl, rfl⟩ ⟨Nat.le_of_ble_eq_true rfl, Nat.le_of_ble_eq_true rfl⟩ (c_lies x) ?_
    refine x_ifb_ne 21 dX9_takeOne_15 (by decide) (fun h15 => ?_) (fun h15 => ?_)
    · refine x_aload_n dX9_takeOne_21 rfl ?_
      refine x_getr fl_X9_19 dX9_takeOne_22 sf_0 rfl ?_
      refine x_dup dX9_takeOne_25 rfl ?_
      refine x_geti fl_X9_137 dX9_takeOne_26 sf_10 rfl ?_
      refine x_iconst (v := 1) dX9_takeOne_29 (by decide) ?_
      refine x_iload_n dX9_takeOne_30 rfl ?_
      refine x_ishl dX9_takeOne_31 ?_
      refine x_iconst (v := -1) dX9_takeOne_32 (by decide) ?_
      refine x_ixor dX9_takeOne_33 ?_
      refine x_iand dX9_takeOne_34 ?_
      refine x_put fl_X9_137 dX9_takeOne_35 sf_10 rfl rfl rfl ?_
      refine x_iconst (v := 0) dX9_takeOne_38 (by decide) ?_
      exact x_iret dX9_takeOne_39 rfl rfl (Nat.le_refl _) (Nat.le_refl _) ⟨rfl, ⟨oi (by simp only [h5, h15]; rfl), by simp only [wTake, h5, h15]; rfl⟩⟩
    · refine x_bipush (v := -2) dX9_takeOne_18 (by decide) ?_
      exact x_iret dX9_takeOne_20 rfl rfl (Nat.le_refl _) (Nat.le_refl _) ⟨rfl, ⟨oi (by simp [h5, h15]), (up2_self (by simp [wTake, h5, h15])).symm⟩⟩
  · refine x_iconst (v := -1) dX9_takeOne_8 (by decide) ?_
    exact x_iret dX9_takeOne_9 rfl rfl (Nat.le_refl _) (Nat.le_refl _) ⟨rfl, ⟨oi (by simp [h5]), (up2_self (by simp [wTake, h5])).symm⟩⟩
/-- the squares whose size counts: the sizes' bits or'ed -/
def csq (C : Int32) (os : Nat → Int32) : Nat → Int32
  | 0 => 0
  | n + 1 => if decide ((C >>> (nI (n + 1) &&& 31)) &&& 1 = 0) then csq C os n else csq C os n ||| os (n + 1)
theorem csq_s (C : Int32) (os : Nat → Int32) (n : Nat) : csq C os (n + 1) = if decide ((C >>> (nI (n + 1) &&& 31)) &&& 1 = 0) then csq C os n else csq C os n ||| os (n + 1) := rfl
theorem c_countedSquares {Z : List (Option Nat)} {ext : List Ds} {M : Mm} : Ct mX9_countedSquares [.ref 0] (SS Z ext) M (Rt (some (.int (csq (M 10 1) (M 6) 3))) M) := by
  refine Ct.of (by decide) (Nat.le_of_ble_eq_true rfl) ?_
  refine x_iconst (v := 0) dX9_countedSquares_0 (by decide) ?_
  refine x_istore_n dX9_countedSquares_1 (by decide) ?_
  refine x_iconst (v := 1) dX9_countedSquares_2 (by decide) ?_
  refine x_istore_n dX9_countedSquares_3 (by decide) ?_
  refine lup (P := fun k => XW _ _ 0 0 (SS Z ext) M 4 [some (.ref 0), some (.int (csq (M 10 1) (M 6) k)), some (.int (nI (k + 1)))] []) (N := 3) ?_ ?_ 0 (by omega)
  · refine x_iload_n dX9_countedSquares_4 rfl ?_
    refine x_iconst (v := 3) dX9_countedSquares_5 (by decide) ?_
    refine x_icmp_gt 41 dX9_countedSquares_6 (by decide) (fun _ => ?_) (fun hc => absurd (by decide) hc)
    refine x_iload_n dX9_countedSquares_41 rfl ?_
    exact x_iret dX9_countedSquares_42 rfl rfl (Nat.le_refl _) (Nat.le_refl _) ⟨rfl, ⟨rfl, rfl⟩⟩
  · intro k hk ih
    rw [nI_succ (k + 1), csq_s _ _ k] at ih
    refine x_iload_n dX9_countedSquares_4 rfl ?_
    refine x_iconst (v := 3) dX9_countedSquares_5 (by decide) ?_
    refine x_icmp_gt 41 dX9_countedSquares_6 (by decide) (fun hc => absurd hc (nI_nlt (b := k + 1) (a := 3) (by omega) (by decide))) (fun _ => ?_)
    refine x_aload_n dX9_countedSquares_9 rfl ?_
    refine x_getr fl_X9_19 dX9_countedSquares_10 sf_0 rfl ?_
    refine x_geti fl_X9_140 dX9_countedSquares_13 sf_10 rfl ?_
    refine x_iload_n dX9_countedSquares_16 rfl ?_
    refine x_ishr dX9_countedSquares_17 ?_
    refine x_iconst (v := 1) dX9_countedSquares_18 (by decide) ?_
    refine x_iand dX9_countedSquares_19 ?_
    refine x_if_eq 35 dX9_countedSquares_20 (by decide) (fun h20 => ?_) (fun h20 => ?_)
    · refine x_iinc1 dX9_countedSquares_35 rfl (by decide) ?_
      refine x_goto 4 dX9_countedSquares_38 (by decide) ?_
      first | (rw [if_pos (by rw [decide_eq_true h20])] at ih; exact ih) | (rw [if_neg (by rw [decide_eq_false h20]; decide)] at ih; exact ih)
    · refine x_iload_n dX9_countedSquares_23 rfl ?_
      refine x_aload_n dX9_countedSquares_24 rfl ?_
      refine x_getr fl_X9_10 dX9_countedSquares_25 sf_0 rfl ?_
      refine x_getr fl_X9_170 dX9_countedSquares_28 sf_1 rfl ?_
      refine x_iload_n dX9_countedSquares_31 rfl ?_
      refine x_iald dX9_countedSquares_32 sf_6 rfl (by omega) (by decide) ?_
      refine x_ior dX9_countedSquares_33 ?_
      refine x_istore_n dX9_countedSquares_34 (by decide) ?_
      refine x_iinc1 dX9_countedSquares_35 rfl (by decide) ?_
      refine x_goto 4 dX9_countedSquares_38 (by decide) ?_
      first | (rw [if_pos (by rw [decide_eq_true h20])] at ih; exact ih) | (rw [if_neg (by rw [decide_eq_false h20]; decide)] at ih; exact ih)
/-- the squares left, as bits -/
def lsq (C : Int32) (os rm : Nat → Int32) (sq : Nat) (set : Int32) : Int32 := orb (inc rm set) sq &&& csq C os 3
theorem c_leftSquares {Z : List (Option Nat)} {ext : List Ds} {M : Mm} {sq : Nat} (set : Int32) (hq : M 1 3 = nI sq) (hb : sq ≤ 20) : Ct mX9_leftSquares [.ref 0, .int set] (SS Z ext) M (Rt (some (.int (lsq (M 10 1) (M 6) (M 5) sq set))) M) := by
  refine Ct.of (by decide) (Nat.le_of_ble_eq_true rfl) ?_
  refine x_aload_n dX9_leftSquares_0 rfl ?_
  refine x_getr fl_X9_10 dX9_leftSquares_1 sf_0 rfl ?_
  refine x_iload_n dX9_leftSquares_4 rfl ?_
  refine x_cvd mf_X2_wholeAmong ml_X9_156 dX9_leftSquares_5 rfl sf_1 rfl ⟨by decide, by decide⟩ (Nat.le_of_ble_eq_true rfl) ⟨rfl, rfl⟩ ⟨Nat.le_of_ble_eq_true rfl, Nat.le_of_ble_eq_true rfl⟩ (c_wholeAmong (ShG_SS Z ext) set hq hb) ?_
  refine x_aload_n dX9_leftSquares_8 rfl ?_
  refine x_cvd mf_X9_countedSquares ml_X9_224 dX9_leftSquares_9 rfl sf_0 rfl ⟨by decide, by decide⟩ (Nat.le_of_ble_eq_true rfl) ⟨rfl, rfl⟩ ⟨Nat.le_of_ble_eq_true rfl, Nat.le_of_ble_eq_true rfl⟩ (c_countedSquares) ?_
  refine x_iand dX9_leftSquares_12 ?_
  exact x_iret dX9_leftSquares_13 rfl rfl (Nat.le_refl _) (Nat.le_refl _) ⟨rfl, ⟨rfl, rfl⟩⟩
theorem c_leftOf {Z : List (Option Nat)} {ext : List Ds} {M : Mm} {sq : Nat} (set : Int32) (hq : M 1 3 = nI sq) (hb : sq ≤ 20) : Ct mX9_leftOf [.ref 0, .int set] (SS Z ext) M (Rt (some (.int (bcE (lsq (M 10 1) (M 6) (M 5) sq set)))) M) := by
  refine Ct.of (by decide) (Nat.le_of_ble_eq_true rfl) ?_
  refine x_aload_n dX9_leftOf_0 rfl ?_
  refine x_iload_n dX9_leftOf_1 rfl ?_
  refine x_cvd mf_X9_leftSquares ml_X9_187 dX9_leftOf_2 rfl sf_0 rfl ⟨by decide, by decide⟩ (Nat.le_of_ble_eq_true rfl) ⟨rfl, rfl⟩ ⟨Nat.le_of_ble_eq_true rfl, Nat.le_of_ble_eq_true rfl⟩ (c_leftSquares set hq hb) ?_
  refine x_csd mf_J6_bitCount_0f7a4 ml_X9_173 dX9_leftOf_5 rfl ⟨by decide, by decide⟩ (Nat.le_of_ble_eq_true rfl) ⟨rfl, rfl⟩ ⟨Nat.le_of_ble_eq_true rfl, Nat.le_of_ble_eq_true rfl⟩ (c_bitCount _) ?_
  exact x_iret dX9_leftOf_8 rfl rfl (Nat.le_refl _) (Nat.le_refl _) ⟨rfl, ⟨rfl, rfl⟩⟩
theorem c_canBeLaid {S : List Ds} {M : Mm} (x : Int32) : Ct mX9_canBeLaid [.int x] S M (Rt (some (.int (b2i (!decide (x = 0) && !decide (12 < bcE x))))) M) := by
  refine Ct.of (by decide) (Nat.le_of_ble_eq_true rfl) ?_
  refine x_iload_n dX9_canBeLaid_0 rfl ?_
  refine x_if_eq 17 dX9_canBeLaid_1 (by decide) (fun h1 => ?_) (fun h1 => ?_)
  · refine x_iconst (v := 0) dX9_canBeLaid_17 (by decide) ?_
    exact x_iret dX9_canBeLaid_18 rfl rfl (Nat.le_refl _) (Nat.le_refl _) ⟨rfl, ⟨oi (by first | (rw [decide_eq_true h1]; rfl) | (rw [decide_eq_false h1, decide_eq_true h10]; rfl) | (rw [decide_eq_false h1, decide_eq_false h10]; rfl)), rfl⟩⟩
  · refine x_iload_n dX9_canBeLaid_4 rfl ?_
    refine x_csd mf_J6_bitCount_0f7a4 ml_X9_173 dX9_canBeLaid_5 rfl ⟨by decide, by decide⟩ (Nat.le_of_ble_eq_true rfl) ⟨rfl, rfl⟩ ⟨Nat.le_of_ble_eq_true rfl, Nat.le_of_ble_eq_true rfl⟩ (c_bitCount _) ?_
    refine x_bipush (v := 12) dX9_canBeLaid_8 (by decide) ?_
    refine x_icmp_gt 17 dX9_canBeLaid_10 (by decide) (fun h10 => ?_) (fun h10 => ?_)
    · refine x_iconst (v := 0) dX9_canBeLaid_17 (by decide) ?_
      exact x_iret dX9_canBeLaid_18 rfl rfl (Nat.le_refl _) (Nat.le_refl _) ⟨rfl, ⟨oi (by first | (rw [decide_eq_true h1]; rfl) | (rw [decide_eq_false h1, decide_eq_true h10]; rfl) | (rw [decide_eq_false h1, decide_eq_false h10]; rfl)), rfl⟩⟩
    · refine x_iconst (v := 1) dX9_canBeLaid_13 (by decide) ?_
      refine x_goto 18 dX9_canBeLaid_14 (by decide) ?_
      exact x_iret dX9_canBeLaid_18 rfl rfl (Nat.le_refl _) (Nat.le_refl _) ⟨rfl, ⟨oi (by first | (rw [decide_eq_true h1]; rfl) | (rw [decide_eq_false h1, decide_eq_true h10]; rfl) | (rw [decide_eq_false h1, decide_eq_false h10]; rfl)), rfl⟩⟩
theorem c_rule {Z : List (Option Nat)} {ext : List Ds} {M : Mm} (x : Int32) : Ct mX9_rule [.ref 0, .int x] (SS Z ext) M (Rt (some (.int (vRule (M 1 0) (M 1 1) (M 1 2) (M 1 3) (M 10 0) (M 10 1) x))) M) := by
  refine Ct.of (by decide) (Nat.le_of_ble_eq_true rfl) ?_
  refine x_iload_n dX9_rule_0 rfl ?_
  rcases sw6 x with rfl | rfl | rfl | rfl | rfl | rfl | hsw
  · refine x_tabIn (off := 39) 40 dX9_rule_1 (by decide) (by decide) (by decide) (by decide) ?_
    refine x_aload_n dX9_rule_40 rfl ?_
    refine x_getr fl_X9_10 dX9_rule_41 sf_0 rfl ?_
    refine x_geti fl_X9_129 dX9_rule_44 sf_1 rfl ?_
    exact x_iret dX9_rule_47 rfl rfl (Nat.le_refl _) (Nat.le_refl _) ⟨rfl, ⟨rfl, rfl⟩⟩
  · refine x_tabIn (off := 47) 48 dX9_rule_1 (by decide) (by decide) (by decide) (by decide) ?_
    refine x_aload_n dX9_rule_48 rfl ?_
    refine x_getr fl_X9_10 dX9_rule_49 sf_0 rfl ?_
    refine x_geti fl_X9_130 dX9_rule_52 sf_1 rfl ?_
    exact x_iret dX9_rule_55 rfl rfl (Nat.le_refl _) (Nat.le_refl _) ⟨rfl, ⟨rfl, rfl⟩⟩
  · refine x_tabIn (off := 55) 56 dX9_rule_1 (by decide) (by decide) (by decide) (by decide) ?_
    refine x_aload_n dX9_rule_56 rfl ?_
    refine x_getr fl_X9_10 dX9_rule_57 sf_0 rfl ?_
    refine x_geti fl_X9_131 dX9_rule_60 sf_1 rfl ?_
    exact x_iret dX9_rule_63 rfl rfl (Nat.le_refl _) (Nat.le_refl _) ⟨rfl, ⟨rfl, rfl⟩⟩
  · refine x_tabIn (off := 63) 64 dX9_rule_1 (by decide) (by decide) (by decide) (by decide) ?_
    refine x_aload_n dX9_rule_64 rfl ?_
    refine x_getr fl_X9_10 dX9_rule_65 sf_0 rfl ?_
    refine x_geti fl_X9_134 dX9_rule_68 sf_1 rfl ?_
    exact x_iret dX9_rule_71 rfl rfl (Nat.le_refl _) (Nat.le_refl _) ⟨rfl, ⟨rfl, rfl⟩⟩
  · refine x_tabIn (off := 71) 72 dX9_rule_1 (by decide) (by decide) (by decide) (by decide) ?_
    refine x_aload_n dX9_rule_72 rfl ?_
    refine x_getr fl_X9_19 dX9_rule_73 sf_0 rfl ?_
    refine x_geti fl_X9_137 dX9_rule_76 sf_10 rfl ?_
    exact x_iret dX9_rule_79 rfl rfl (Nat.le_refl _) (Nat.le_refl _) ⟨rfl, ⟨rfl, rfl⟩⟩
  · refine x_tabIn (off := 79) 80 dX9_rule_1 (by decide) (by decide) (by decide) (by decide) ?_
    refine x_aload_n dX9_rule_80 rfl ?_
    refine x_getr fl_X9_19 dX9_rule_81 sf_0 rfl ?_
    refine x_geti fl_X9_140 dX9_rule_84 sf_10 rfl ?_
    exact x_iret dX9_rule_87 rfl rfl (Nat.le_refl _) (Nat.le_refl _) ⟨rfl, ⟨rfl, rfl⟩⟩
  · refine x_tabOut 88 dX9_rule_1 hsw (by decide) ?_
    refine x_iconst (v := -1) dX9_rule_88 (by decide) ?_
    exact x_iret dX9_rule_89 rfl rfl (Nat.le_refl _) (Nat.le_refl _) ⟨rfl, ⟨oi (by rw [vRule, if_neg (sw_ne hsw 0 (by decide) (by decide)), if_neg (sw_ne hsw 1 (by decide) (by decide)), if_neg (sw_ne hsw 2 (by decide) (by decide)), if_neg (sw_ne hsw 3 (by decide) (by decide)), if_neg (sw_ne hsw 4 (by decide) (by decide)), if_neg (sw_ne hsw 5 (by decide) (by decide))]), rfl⟩⟩
/-- as vSquare, the fifth answer as the class has it -/
def cSquare (sq : Nat) (sz ro co rm : Nat → Int32) (L q x : Int32) : Int32 := if ix q sq then (if x = 0 then sz q.toNatClampNeg else if x = 1 then ro q.toNatClampNeg else if x = 2 then co q.toNatClampNeg else if x = 3 then rm q.toNatClampNeg else if x = 4 then (orb (inc rm L) sq >>> (q &&& 31)) &&& 1 else -1) else -1
theorem c_square {Z : List (Option Nat)} {ext : List Ds} {M : Mm} {sq : Nat} (q x : Int32) (hq : M 1 3 = nI sq) (hb : sq ≤ 20) : Ct mX9_square [.ref 0, .int q, .int x] (SS Z ext) M (Rt (some (.int (cSquare sq (M 2) (M 3) (M 4) (M 5) (M 10 0) q x))) M) := by
  refine Ct.of (by decide) (Nat.le_of_ble_eq_true rfl) ?_
  refine x_iload_n dX9_square_0 rfl ?_
  refine x_if_lt 15 dX9_square_1 (by decide) (fun h1 => ?_) (fun h1 => ?_)
  · refine x_iconst (v := -1) dX9_square_15 (by decide) ?_
    exact x_iret dX9_square_16 rfl rfl (Nat.le_refl _) (Nat.le_refl _) ⟨rfl, ⟨oi (by first | (simp only [cSquare, ix_f1 h1]; rfl) | (rw [hq] at h12; simp only [cSquare, ix_f2 (fa_of_nlt h12)]; rfl)), rfl⟩⟩
  · refine x_iload_n dX9_square_4 rfl ?_
    refine x_aload_n dX9_square_5 rfl ?_
    refine x_getr fl_X9_10 dX9_square_6 sf_0 rfl ?_
    refine x_geti fl_X9_134 dX9_square_9 sf_1 rfl ?_
    refine x_icmp_lt 17 dX9_square_12 (by decide) (fun h12 => ?_) (fun h12 => ?_)
    · rw [hq] at h12
      have h13 : ix q sq = true := ix_t1 h1 (fun z => absurd h12 (by rw [fa_lt]; rw [fa_le] at z; omega))
      obtain ⟨j, hj, rfl⟩ := (ix_t (by omega)).mp h13
      have hcl : (nI j).toNatClampNeg = j := nI_clamp (by omega)
      refine x_iload_n dX9_square_17 rfl ?_
      rcases sw5 x with rfl | rfl | rfl | rfl | rfl | hsw
      · refine x_tabIn (off := 34) 52 dX9_square_18 (by decide) (by decide) (by decide) (by decide) ?_
        refine x_aload_n dX9_square_52 rfl ?_
        refine x_getr fl_X9_10 dX9_square_53 sf_0 rfl ?_
        refine x_getr fl_X9_143 dX9_square_56 sf_1 rfl ?_
        refine x_iload_n dX9_square_59 rfl ?_
        refine x_iald dX9_square_60 sf_2 rfl (by omega) (by decide) ?_
        exact x_iret dX9_square_61 rfl rfl (Nat.le_refl _) (Nat.le_refl _) ⟨rfl, ⟨oi (by simp [cSquare, h13, hcl]), rfl⟩⟩
      · refine x_tabIn (off := 44) 62 dX9_square_18 (by decide) (by decide) (by decide) (by decide) ?_
        refine x_aload_n dX9_square_62 rfl ?_
        refine x_getr fl_X9_10 dX9_square_63 sf_0 rfl ?_
        refine x_getr fl_X9_147 dX9_square_66 sf_1 rfl ?_
        refine x_iload_n dX9_square_69 rfl ?_
        refine x_iald dX9_square_70 sf_3 rfl (by omega) (by decide) ?_
        exact x_iret dX9_square_71 rfl rfl (Nat.le_refl _) (Nat.le_refl _) ⟨rfl, ⟨oi (by simp [cSquare, h13, hcl]), rfl⟩⟩
      · refine x_tabIn (off := 54) 72 dX9_square_18 (by decide) (by decide) (by decide) (by decide) ?_
        refine x_aload_n dX9_square_72 rfl ?_
        refine x_getr fl_X9_10 dX9_square_73 sf_0 rfl ?_
        refine x_getr fl_X9_150 dX9_square_76 sf_1 rfl ?_
        refine x_iload_n dX9_square_79 rfl ?_
        refine x_iald dX9_square_80 sf_4 rfl (by omega) (by decide) ?_
        exact x_iret dX9_square_81 rfl rfl (Nat.le_refl _) (Nat.le_refl _) ⟨rfl, ⟨oi (by simp [cSquare, h13, hcl]), rfl⟩⟩
      · refine x_tabIn (off := 64) 82 dX9_square_18 (by decide) (by decide) (by decide) (by decide) ?_
        refine x_aload_n dX9_square_82 rfl ?_
        refine x_getr fl_X9_10 dX9_square_83 sf_0 rfl ?_
        refine x_getr fl_X9_153 dX9_square_86 sf_1 rfl ?_
        refine x_iload_n dX9_square_89 rfl ?_
        refine x_iald dX9_square_90 sf_5 rfl (by omega) (by decide) ?_
        exact x_iret dX9_square_91 rfl rfl (Nat.le_refl _) (Nat.le_refl _) ⟨rfl, ⟨oi (by simp [cSquare, h13, hcl]), rfl⟩⟩
      · refine x_tabIn (off := 74) 92 dX9_square_18 (by decide) (by decide) (by decide) (by decide) ?_
        refine x_aload_n dX9_square_92 rfl ?_
        refine x_getr fl_X9_10 dX9_square_93 sf_0 rfl ?_
        refine x_aload_n dX9_square_96 rfl ?_
        refine x_getr fl_X9_19 dX9_square_97 sf_0 rfl ?_
        refine x_geti fl_X9_137 dX9_square_100 sf_10 rfl ?_
        refine x_cvd mf_X2_wholeAmong ml_X9_156 dX9_square_103 rfl sf_1 rfl ⟨by decide, by decide⟩ (Nat.le_of_ble_eq_true rfl) ⟨rfl, rfl⟩ ⟨Nat.le_of_ble_eq_true rfl, Nat.le_of_ble_eq_true rfl⟩ (c_wholeAmong (ShG_SS Z ext) _ hq hb) ?_
        refine x_iload_n dX9_square_106 rfl ?_
        refine x_ishr dX9_square_107 ?_
        refine x_iconst (v := 1) dX9_square_108 (by decide) ?_
        refine x_iand dX9_square_109 ?_
        exact x_iret dX9_square_110 rfl rfl (Nat.le_refl _) (Nat.le_refl _) ⟨rfl, ⟨oi (by simp [cSquare, h13, hcl]), rfl⟩⟩
      · refine x_tabOut 111 dX9_square_18 hsw (by decide) ?_
        refine x_iconst (v := -1) dX9_square_111 (by decide) ?_
        exact x_iret dX9_square_112 rfl rfl (Nat.le_refl _) (Nat.le_refl _) ⟨rfl, ⟨oi (by simp only [cSquare, h13, if_true]; rw [if_neg (sw_ne hsw 0 (by decide) (by decide)), if_neg (sw_ne hsw 1 (by decide) (by decide)), if_neg (sw_ne hsw 2 (by decide) (by decide)), if_neg (sw_ne hsw 3 (by decide) (by decide)), if_neg (sw_ne hsw 4 (by decide) (by decide))]), rfl⟩⟩
    · refine x_iconst (v := -1) dX9_square_15 (by decide) ?_
      exact x_iret dX9_square_16 rfl rfl (Nat.le_refl _) (Nat.le_refl _) ⟨rfl, ⟨oi (by first | (simp only [cSquare, ix_f1 h1]; rfl) | (rw [hq] at h12; simp only [cSquare, ix_f2 (fa_of_nlt h12)]; rfl)), rfl⟩⟩
theorem c_cost {Z : List (Option Nat)} {ext : List Ds} {M : Mm} {mt : Nat} (x : Int32) (hm : M 1 2 = nI mt) (hb : mt ≤ 31) : Ct mX9_cost [.ref 0, .int x] (SS Z ext) M (Rt (some (.int (vCost mt (M 11) x))) M) := by
  refine Ct.of (by decide) (Nat.le_of_ble_eq_true rfl) ?_
  refine x_aload_n dX9_cost_0 rfl ?_
  refine x_iload_n dX9_cost_1 rfl ?_
  refine x_cvd mf_X9_isMatch ml_X9_160 dX9_cost_2 rfl sf_0 rfl ⟨by decide, by decide⟩ (Nat.le_of_ble_eq_true rfl) ⟨rfl, rfl⟩ ⟨Nat.le_of_ble_eq_true rfl, Nat.le_of_ble_eq_true rfl⟩ (c_isMatch x hm) ?_
  refine x_ifb_eq 20 dX9_cost_5 (by decide) (fun h5 => ?_) (fun h5 => ?_)
  · refine x_iconst (v := -1) dX9_cost_20 (by decide) ?_
    exact x_iret dX9_cost_21 rfl rfl (Nat.le_refl _) (Nat.le_refl _) ⟨rfl, ⟨oi (by first | (simp [vCost, h5, hcl]; done) | (simp [vCost, h5]; done)), rfl⟩⟩
  · obtain ⟨j, hj, rfl⟩ := (ix_t (by omega)).mp h5
    have hcl : (nI j).toNatClampNeg = j := nI_clamp (by omega)
    refine x_aload_n dX9_cost_8 rfl ?_
    refine x_getr fl_X9_19 dX9_cost_9 sf_0 rfl ?_
    refine x_getr fl_X9_164 dX9_cost_12 sf_10 rfl ?_
    refine x_iload_n dX9_cost_15 rfl ?_
    refine x_iald dX9_cost_16 sf_11 rfl (by omega) (by decide) ?_
    refine x_goto 21 dX9_cost_17 (by decide) ?_
    exact x_iret dX9_cost_21 rfl rfl (Nat.le_refl _) (Nat.le_refl _) ⟨rfl, ⟨oi (by first | (simp [vCost, h5, hcl]; done) | (simp [vCost, h5]; done)), rfl⟩⟩
theorem c_whole {Z : List (Option Nat)} {ext : List Ds} {M : Mm} {sq : Nat} (x : Int32) (hq : M 1 3 = nI sq) (hb : sq ≤ 20) : Ct mX9_whole [.ref 0, .int x] (SS Z ext) M (Rt (some (.int (if rg x 1 3 then bcE (orb (inc (M 5) (M 10 0)) sq &&& M 6 x.toNatClampNeg) else -1))) M) := by
  refine Ct.of (by decide) (Nat.le_of_ble_eq_true rfl) ?_
  refine x_iload_n dX9_whole_0 rfl ?_
  refine x_csd mf_X9_isSize ml_X9_167 dX9_whole_1 rfl ⟨by decide, by decide⟩ (Nat.le_of_ble_eq_true rfl) ⟨rfl, rfl⟩ ⟨Nat.le_of_ble_eq_true rfl, Nat.le_of_ble_eq_true rfl⟩ (c_isSize x) ?_
  refine x_ifb_eq 37 dX9_whole_4 (by decide) (fun h4 => ?_) (fun h4 => ?_)
  · refine x_iconst (v := -1) dX9_whole_37 (by decide) ?_
    exact x_iret dX9_whole_38 rfl rfl (Nat.le_refl _) (Nat.le_refl _) ⟨rfl, ⟨oi (by first | (simp [h4, hcl]; done) | (simp [h4]; done)), rfl⟩⟩
  · obtain ⟨j, h1j, hj, rfl⟩ := rg_nat (a := 1) (b := 3) (by decide) (by decide) h4
    have hcl : (nI j).toNatClampNeg = j := nI_clamp (by omega)
    refine x_aload_n dX9_whole_7 rfl ?_
    refine x_getr fl_X9_10 dX9_whole_8 sf_0 rfl ?_
    refine x_aload_n dX9_whole_11 rfl ?_
    refine x_getr fl_X9_19 dX9_whole_12 sf_0 rfl ?_
    refine x_geti fl_X9_137 dX9_whole_15 sf_10 rfl ?_
    refine x_cvd mf_X2_wholeAmong ml_X9_156 dX9_whole_18 rfl sf_1 rfl ⟨by decide, by decide⟩ (Nat.le_of_ble_eq_true rfl) ⟨rfl, rfl⟩ ⟨Nat.le_of_ble_eq_true rfl, Nat.le_of_ble_eq_true rfl⟩ (c_wholeAmong (ShG_SS Z ext) _ hq hb) ?_
    refine x_aload_n dX9_whole_21 rfl ?_
    refine x_getr fl_X9_10 dX9_whole_22 sf_0 rfl ?_
    refine x_getr fl_X9_170 dX9_whole_25 sf_1 rfl ?_
    refine x_iload_n dX9_whole_28 rfl ?_
    refine x_iald dX9_whole_29 sf_6 rfl (by omega) (by decide) ?_
    refine x_iand dX9_whole_30 ?_
    refine x_csd mf_J6_bitCount_0f7a4 ml_X9_173 dX9_whole_31 rfl ⟨by decide, by decide⟩ (Nat.le_of_ble_eq_true rfl) ⟨rfl, rfl⟩ ⟨Nat.le_of_ble_eq_true rfl, Nat.le_of_ble_eq_true rfl⟩ (c_bitCount _) ?_
    refine x_goto 38 dX9_whole_34 (by decide) ?_
    exact x_iret dX9_whole_38 rfl rfl (Nat.le_refl _) (Nat.le_refl _) ⟨rfl, ⟨oi (by first | (simp [h4, hcl]; done) | (simp [h4]; done)), rfl⟩⟩
theorem c_left {Z : List (Option Nat)} {ext : List Ds} {M : Mm} {sq : Nat} (hq : M 1 3 = nI sq) (hb : sq ≤ 20) : Ct mX9_left [.ref 0] (SS Z ext) M (Rt (some (.int (bcE (lsq (M 10 1) (M 6) (M 5) sq (M 10 0))))) M) := by
  refine Ct.of (by decide) (Nat.le_of_ble_eq_true rfl) ?_
  refine x_aload_n dX9_left_0 rfl ?_
  refine x_aload_n dX9_left_1 rfl ?_
  refine x_getr fl_X9_19 dX9_left_2 sf_0 rfl ?_
  refine x_geti fl_X9_137 dX9_left_5 sf_10 rfl ?_
  refine x_cvd mf_X9_leftOf ml_X9_178 dX9_left_8 rfl sf_0 rfl ⟨by decide, by decide⟩ (Nat.le_of_ble_eq_true rfl) ⟨rfl, rfl⟩ ⟨Nat.le_of_ble_eq_true rfl, Nat.le_of_ble_eq_true rfl⟩ (c_leftOf _ hq hb) ?_
  exact x_iret dX9_left_11 rfl rfl (Nat.le_refl _) (Nat.le_refl _) ⟨rfl, ⟨rfl, rfl⟩⟩
theorem c_lie {Z : List (Option Nat)} {ext : List Ds} {M : Mm} {mt sq : Nat} (x : Int32) (hm : M 1 2 = nI mt) (hq : M 1 3 = nI sq) (hb2 : sq ≤ 20) : Ct mX9_lie [.ref 0, .int x] (SS Z ext) M (Rt (some (.int (if ix x mt then (if lies (M 10 0) x then -2 else bcE (lsq (M 10 1) (M 6) (M 5) sq (inS (M 10 0) x))) else -1))) (up2 M 10 0 (wLie mt (M 10 0) x))) := by
  refine Ct.of (by decide) (Nat.le_of_ble_eq_true rfl) ?_
  refine x_aload_n dX9_lie_0 rfl ?_
  refine x_iload_n dX9_lie_1 rfl ?_
  refine x_cvd mf_X9_isMatch ml_X9_160 dX9_lie_2 rfl sf_0 rfl ⟨by decide, by decide⟩ (Nat.le_of_ble_eq_true rfl) ⟨rfl, rfl⟩ ⟨Nat.le_of_ble_eq_true rfl, Nat.le_of_ble_eq_true rfl⟩ (c_isMatch x hm) ?_
  refine x_ifb_ne 10 dX9_lie_5 (by decide) (fun h5 => ?_) (fun h5 => ?_)
  · refine x_aload_n dX9_lie_10 rfl ?_
    refine x_iload_n dX9_lie_11 rfl ?_
    refine x_cvd mf_X9_lies ml_X9_184 dX9_lie_12 rfl sf_0 rfl ⟨by decide, by decide⟩ (Nat.le_of_ble_eq_true rfl) ⟨rfl, rfl⟩ ⟨Nat.le_of_ble_eq_true rfl, Nat.le_of_ble_eq_true rfl⟩ (c_lies x) ?_
    refine x_ifb_eq 21 dX9_lie_15 (by decide) (fun h15 => ?_) (fun h15 => ?_)
    · refine x_aload_n dX9_lie_21 rfl ?_
      refine x_getr fl_X9_19 dX9_lie_22 sf_0 rfl ?_
      refine x_dup dX9_lie_25 rfl ?_
      refine x_geti fl_X9_137 dX9_lie_26 sf_10 rfl ?_
      refine x_iconst (v := 1) dX9_lie_29 (by decide) ?_
      refine x_iload_n dX9_lie_30 rfl ?_
      refine x_ishl dX9_lie_31 ?_
      refine x_ior dX9_lie_32 ?_
      refine x_put fl_X9_137 dX9_lie_33 sf_10 rfl rfl rfl ?_
      refine x_aload_n dX9_lie_36 rfl ?_
      refine x_aload_n dX9_lie_37 rfl ?_
      refine x_getr fl_X9_19 dX9_lie_38 sf_0 rfl ?_
      refine x_geti fl_X9_137 dX9_lie_41 sf_10 rfl ?_
      refine x_cvd mf_X9_leftOf ml_X9_178 dX9_lie_44 rfl sf_0 rfl ⟨by decide, by decide⟩ (Nat.le_of_ble_eq_true rfl) ⟨rfl, rfl⟩ ⟨Nat.le_of_ble_eq_true rfl, Nat.le_of_ble_eq_true rfl⟩ (c_leftOf (sq := sq) _ hq hb2) ?_
      exact x_iret dX9_lie_47 rfl rfl (Nat.le_refl _) (Nat.le_refl _) ⟨rfl, ⟨oi (by simp only [h5, h15]; rfl), by simp only [wLie, h5, h15]; rfl⟩⟩
    · refine x_bipush (v := -2) dX9_lie_18 (by decide) ?_
      exact x_iret dX9_lie_20 rfl rfl (Nat.le_refl _) (Nat.le_refl _) ⟨rfl, ⟨oi (by simp [h5, h15]), (up2_self (by simp [wLie, h5, h15])).symm⟩⟩
  · refine x_iconst (v := -1) dX9_lie_8 (by decide) ?_
    exact x_iret dX9_lie_9 rfl rfl (Nat.le_refl _) (Nat.le_refl _) ⟨rfl, ⟨oi (by simp [h5]), (up2_self (by simp [wLie, h5])).symm⟩⟩
theorem c_price {Z : List (Option Nat)} {ext : List Ds} {M : Mm} {mt : Nat} (x v : Int32) (hm : M 1 2 = nI mt) (hb : mt ≤ 31) : Ct mX9_price [.ref 0, .int x, .int v] (SS Z ext) M (Rt (some (.int (vPrice mt (M 11) x v))) (if ix x mt && rg v 1 9 then up2 M 11 x.toNatClampNeg v else M)) := by
  refine Ct.of (by decide) (Nat.le_of_ble_eq_true rfl) ?_
  refine x_aload_n dX9_price_0 rfl ?_
  refine x_iload_n dX9_price_1 rfl ?_
  refine x_cvd mf_X9_isMatch ml_X9_160 dX9_price_2 rfl sf_0 rfl ⟨by decide, by decide⟩ (Nat.le_of_ble_eq_true rfl) ⟨rfl, rfl⟩ ⟨Nat.le_of_ble_eq_true rfl, Nat.le_of_ble_eq_true rfl⟩ (c_isMatch x hm) ?_
  refine x_ifb_eq 19 dX9_price_5 (by decide) (fun h5 => ?_) (fun h5 => ?_)
  · refine x_iconst (v := -1) dX9_price_19 (by decide) ?_
    exact x_iret dX9_price_20 rfl rfl (Nat.le_refl _) (Nat.le_refl _) ⟨rfl, ⟨oi (by first | (simp [vPrice, h5]; done) | (simp [vPrice, rg_f1 h10]; done) | (simp [vPrice, rg_f3 h16]; done)), by first | (simp [h5]; done) | (simp [rg_f1 h10]; done) | (simp [rg_f3 h16]; done)⟩⟩
  · refine x_iload_n dX9_price_8 rfl ?_
    refine x_iconst (v := 1) dX9_price_9 (by decide) ?_
    refine x_icmp_lt 19 dX9_price_10 (by decide) (fun h10 => ?_) (fun h10 => ?_)
    · refine x_iconst (v := -1) dX9_price_19 (by decide) ?_
      exact x_iret dX9_price_20 rfl rfl (Nat.le_refl _) (Nat.le_refl _) ⟨rfl, ⟨oi (by first | (simp [vPrice, h5]; done) | (simp [vPrice, rg_f1 h10]; done) | (simp [vPrice, rg_f3 h16]; done)), by first | (simp [h5]; done) | (simp [rg_f1 h10]; done) | (simp [rg_f3 h16]; done)⟩⟩
    · refine x_iload_n dX9_price_13 rfl ?_
      refine x_bipush (v := 9) dX9_price_14 (by decide) ?_
      refine x_icmp_le 21 dX9_price_16 (by decide) (fun h16 => ?_) (fun h16 => ?_)
      · have h17 : rg v 1 9 = true := rg_t2 h10 h16
        obtain ⟨j, hj, rfl⟩ := (ix_t (by omega)).mp h5
        have hcl : (nI j).toNatClampNeg = j := nI_clamp (by omega)
        refine x_aload_n dX9_price_21 rfl ?_
        refine x_getr fl_X9_19 dX9_price_22 sf_0 rfl ?_
        refine x_getr fl_X9_164 dX9_price_25 sf_10 rfl ?_
        refine x_iload_n dX9_price_28 rfl ?_
        refine x_iald dX9_price_29 sf_11 rfl (by omega) (by decide) ?_
        refine x_istore_n dX9_price_30 (by decide) ?_
        refine x_aload_n dX9_price_31 rfl ?_
        refine x_getr fl_X9_19 dX9_price_32 sf_0 rfl ?_
        refine x_getr fl_X9_164 dX9_price_35 sf_10 rfl ?_
        refine x_iload_n dX9_price_38 rfl ?_
        refine x_iload_n dX9_price_39 rfl ?_
        refine x_iast dX9_price_40 sf_11 rfl (by omega) (by decide) ?_
        refine x_iload_n dX9_price_41 rfl ?_
        exact x_iret dX9_price_42 rfl rfl (Nat.le_refl _) (Nat.le_refl _) ⟨rfl, ⟨oi (by simp [vPrice, h5, h17, hcl]), by simp [h5, h17, hcl]⟩⟩
      · refine x_iconst (v := -1) dX9_price_19 (by decide) ?_
        exact x_iret dX9_price_20 rfl rfl (Nat.le_refl _) (Nat.le_refl _) ⟨rfl, ⟨oi (by first | (simp [vPrice, h5]; done) | (simp [vPrice, rg_f1 h10]; done) | (simp [vPrice, rg_f3 h16]; done)), by first | (simp [h5]; done) | (simp [rg_f1 h10]; done) | (simp [rg_f3 h16]; done)⟩⟩
theorem c_counts {Z : List (Option Nat)} {ext : List Ds} {M : Mm} (x : Int32) (b : Bool) : Ct mX9_counts [.ref 0, .int x, .int (b2i b)] (SS Z ext) M (Rt (some (.int (vCounts (M 10 1) x))) (up2 M 10 1 (wCounts (M 10 1) x b))) := by
  refine Ct.of (by decide) (Nat.le_of_ble_eq_true rfl) ?_
  refine x_iload_n dX9_counts_0 rfl ?_
  refine x_csd mf_X9_isSize ml_X9_167 dX9_counts_1 rfl ⟨by decide, by decide⟩ (Nat.le_of_ble_eq_true rfl) ⟨rfl, rfl⟩ ⟨Nat.le_of_ble_eq_true rfl, Nat.le_of_ble_eq_true rfl⟩ (c_isSize x) ?_
  refine x_ifb_ne 9 dX9_counts_4 (by decide) (fun h4 => ?_) (fun h4 => ?_)
  · refine x_aload_n dX9_counts_9 rfl ?_
    refine x_getr fl_X9_19 dX9_counts_10 sf_0 rfl ?_
    refine x_geti fl_X9_140 dX9_counts_13 sf_10 rfl ?_
    refine x_iload_n dX9_counts_16 rfl ?_
    refine x_ishr dX9_counts_17 ?_
    refine x_iconst (v := 1) dX9_counts_18 (by decide) ?_
    refine x_iand dX9_counts_19 ?_
    refine x_istore_n dX9_counts_20 (by decide) ?_
    refine x_aload_n dX9_counts_21 rfl ?_
    refine x_getr fl_X9_19 dX9_counts_22 sf_0 rfl ?_
    refine x_iload_n dX9_counts_25 rfl ?_
    refine x_ifb_eq 43 dX9_counts_26 (by decide) (fun h26 => ?_) (fun h26 => ?_)
    · refine x_aload_n dX9_counts_43 rfl ?_
      refine x_getr fl_X9_19 dX9_counts_44 sf_0 rfl ?_
      refine x_geti fl_X9_140 dX9_counts_47 sf_10 rfl ?_
      refine x_iconst (v := 1) dX9_counts_50 (by decide) ?_
      refine x_iload_n dX9_counts_51 rfl ?_
      refine x_ishl dX9_counts_52 ?_
      refine x_iconst (v := -1) dX9_counts_53 (by decide) ?_
      refine x_ixor dX9_counts_54 ?_
      refine x_iand dX9_counts_55 ?_
      refine x_put fl_X9_140 dX9_counts_56 sf_10 rfl rfl rfl ?_
      refine x_iload_n dX9_counts_59 rfl ?_
      exact x_iret dX9_counts_60 rfl rfl (Nat.le_refl _) (Nat.le_refl _) ⟨rfl, ⟨oi (by simp only [vCounts, h4]; rfl), by simp only [wCounts, h4, h26]; rfl⟩⟩
    · refine x_aload_n dX9_counts_29 rfl ?_
      refine x_getr fl_X9_19 dX9_counts_30 sf_0 rfl ?_
      refine x_geti fl_X9_140 dX9_counts_33 sf_10 rfl ?_
      refine x_iconst (v := 1) dX9_counts_36 (by decide) ?_
      refine x_iload_n dX9_counts_37 rfl ?_
      refine x_ishl dX9_counts_38 ?_
      refine x_ior dX9_counts_39 ?_
      refine x_goto 56 dX9_counts_40 (by decide) ?_
      refine x_put fl_X9_140 dX9_counts_56 sf_10 rfl rfl rfl ?_
      refine x_iload_n dX9_counts_59 rfl ?_
      exact x_iret dX9_counts_60 rfl rfl (Nat.le_refl _) (Nat.le_refl _) ⟨rfl, ⟨oi (by simp only [vCounts, h4]; rfl), by simp only [wCounts, h4, h26]; rfl⟩⟩
  · refine x_iconst (v := -1) dX9_counts_7 (by decide) ?_
    exact x_iret dX9_counts_8 rfl rfl (Nat.le_refl _) (Nat.le_refl _) ⟨rfl, ⟨oi (by simp [vCounts, h4]), (up2_self (by simp [wCounts, h4])).symm⟩⟩
theorem c_without {Z : List (Option Nat)} {ext : List Ds} {M : Mm} {sq : Nat} (x : Int32) (hq : M 1 3 = nI sq) (hb2 : sq ≤ 20) : Ct mX9_without [.ref 0, .int x] (SS Z ext) M (Rt (some (.int (if decide (x &&& (M 10 0 ^^^ (-1)) = 0) then bcE (lsq (M 10 1) (M 6) (M 5) sq (M 10 0 &&& (x ^^^ (-1)))) else -1))) M) := by
  refine Ct.of (by decide) (Nat.le_of_ble_eq_true rfl) ?_
  refine x_iload_n dX9_without_0 rfl ?_
  refine x_aload_n dX9_without_1 rfl ?_
  refine x_getr fl_X9_19 dX9_without_2 sf_0 rfl ?_
  refine x_geti fl_X9_137 dX9_without_5 sf_10 rfl ?_
  refine x_iconst (v := -1) dX9_without_8 (by decide) ?_
  refine x_ixor dX9_without_9 ?_
  refine x_iand dX9_without_10 ?_
  refine x_if_ne 32 dX9_without_11 (by decide) (fun h11 => ?_) (fun h11 => ?_)
  · refine x_iconst (v := -1) dX9_without_32 (by decide) ?_
    exact x_iret dX9_without_33 rfl rfl (Nat.le_refl _) (Nat.le_refl _) ⟨rfl, ⟨oi (by first | (rw [decide_eq_true h11]; rfl) | (rw [decide_eq_false h11]; rfl)), rfl⟩⟩
  · refine x_aload_n dX9_without_14 rfl ?_
    refine x_aload_n dX9_without_15 rfl ?_
    refine x_getr fl_X9_19 dX9_without_16 sf_0 rfl ?_
    refine x_geti fl_X9_137 dX9_without_19 sf_10 rfl ?_
    refine x_iload_n dX9_without_22 rfl ?_
    refine x_iconst (v := -1) dX9_without_23 (by decide) ?_
    refine x_ixor dX9_without_24 ?_
    refine x_iand dX9_without_25 ?_
    refine x_cvd mf_X9_leftOf ml_X9_178 dX9_without_26 rfl sf_0 rfl ⟨by decide, by decide⟩ (Nat.le_of_ble_eq_true rfl) ⟨rfl, rfl⟩ ⟨Nat.le_of_ble_eq_true rfl, Nat.le_of_ble_eq_true rfl⟩ (c_leftOf (sq := sq) _ hq hb2) ?_
    refine x_goto 33 dX9_without_29 (by decide) ?_
    exact x_iret dX9_without_33 rfl rfl (Nat.le_refl _) (Nat.le_refl _) ⟨rfl, ⟨oi (by first | (rw [decide_eq_true h11]; rfl) | (rw [decide_eq_false h11]; rfl)), rfl⟩⟩
theorem c_see {Z : List (Option Nat)} {ext : List Ds} {M : Mm} (x n : Int32) : Ct mX9_see [.ref 0, .int x, .int n] (SS Z ext) M (Rt (some (.int (vSee (M 12) x n))) (if okSee x n then up2 M 12 x.toNatClampNeg n else M)) := by
  refine Ct.of (by decide) (Nat.le_of_ble_eq_true rfl) ?_
  refine x_iload_n dX9_see_0 rfl ?_
  refine x_csd mf_X9_isSize ml_X9_167 dX9_see_1 rfl ⟨by decide, by decide⟩ (Nat.le_of_ble_eq_true rfl) ⟨rfl, rfl⟩ ⟨Nat.le_of_ble_eq_true rfl, Nat.le_of_ble_eq_true rfl⟩ (c_isSize x) ?_
  refine x_ifb_eq 23 dX9_see_4 (by decide) (fun h4 => ?_) (fun h4 => ?_)
  · refine x_iconst (v := -1) dX9_see_23 (by decide) ?_
    exact x_iret dX9_see_24 rfl rfl (Nat.le_refl _) (Nat.le_refl _) ⟨rfl, ⟨oi (by first | (simp [vSee, okSee, h4]; done) | (simp [vSee, okSee, h4, h10, rg_f1 h14]; done) | (simp [vSee, okSee, h4, h10, rg_f3 h20]; done)), by first | (simp [okSee, h4]; done) | (simp [okSee, h4, h10, rg_f1 h14]; done) | (simp [okSee, h4, h10, rg_f3 h20]; done)⟩⟩
  · refine x_iload_n dX9_see_7 rfl ?_
    refine x_bipush (v := -4) dX9_see_8 (by decide) ?_
    refine x_icmp_eq 25 dX9_see_10 (by decide) (fun h10 => ?_) (fun h10 => ?_)
    · have hok : okSee x n = true := by first | (simp [okSee, h4, h10]; done) | (simp [okSee, h4, rg_t2 h14 h20]; done)
      obtain ⟨j, h1j, hj, rfl⟩ := rg_nat (a := 1) (b := 3) (by decide) (by decide) h4
      have hcl : (nI j).toNatClampNeg = j := nI_clamp (by omega)
      refine x_aload_n dX9_see_25 rfl ?_
      refine x_getr fl_X9_19 dX9_see_26 sf_0 rfl ?_
      refine x_getr fl_X9_267 dX9_see_29 sf_10 rfl ?_
      refine x_iload_n dX9_see_32 rfl ?_
      refine x_iald dX9_see_33 sf_12 rfl (by omega) (by decide) ?_
      refine x_istore_n dX9_see_34 (by decide) ?_
      refine x_aload_n dX9_see_35 rfl ?_
      refine x_getr fl_X9_19 dX9_see_36 sf_0 rfl ?_
      refine x_getr fl_X9_267 dX9_see_39 sf_10 rfl ?_
      refine x_iload_n dX9_see_42 rfl ?_
      refine x_iload_n dX9_see_43 rfl ?_
      refine x_iast dX9_see_44 sf_12 rfl (by omega) (by decide) ?_
      refine x_iload_n dX9_see_45 rfl ?_
      exact x_iret dX9_see_46 rfl rfl (Nat.le_refl _) (Nat.le_refl _) ⟨rfl, ⟨oi (by simp [vSee, hok, hcl]), by simp [hok, hcl]⟩⟩
    · refine x_iload_n dX9_see_13 rfl ?_
      refine x_if_lt 23 dX9_see_14 (by decide) (fun h14 => ?_) (fun h14 => ?_)
      · refine x_iconst (v := -1) dX9_see_23 (by decide) ?_
        exact x_iret dX9_see_24 rfl rfl (Nat.le_refl _) (Nat.le_refl _) ⟨rfl, ⟨oi (by first | (simp [vSee, okSee, h4]; done) | (simp [vSee, okSee, h4, h10, rg_f1 h14]; done) | (simp [vSee, okSee, h4, h10, rg_f3 h20]; done)), by first | (simp [okSee, h4]; done) | (simp [okSee, h4, h10, rg_f1 h14]; done) | (simp [okSee, h4, h10, rg_f3 h20]; done)⟩⟩
      · refine x_iload_n dX9_see_17 rfl ?_
        refine x_bipush (v := 12) dX9_see_18 (by decide) ?_
        refine x_icmp_le 25 dX9_see_20 (by decide) (fun h20 => ?_) (fun h20 => ?_)
        · have hok : okSee x n = true := by first | (simp [okSee, h4, h10]; done) | (simp [okSee, h4, rg_t2 h14 h20]; done)
          obtain ⟨j, h1j, hj, rfl⟩ := rg_nat (a := 1) (b := 3) (by decide) (by decide) h4
          have hcl : (nI j).toNatClampNeg = j := nI_clamp (by omega)
          refine x_aload_n dX9_see_25 rfl ?_
          refine x_getr fl_X9_19 dX9_see_26 sf_0 rfl ?_
          refine x_getr fl_X9_267 dX9_see_29 sf_10 rfl ?_
          refine x_iload_n dX9_see_32 rfl ?_
          refine x_iald dX9_see_33 sf_12 rfl (by omega) (by decide) ?_
          refine x_istore_n dX9_see_34 (by decide) ?_
          refine x_aload_n dX9_see_35 rfl ?_
          refine x_getr fl_X9_19 dX9_see_36 sf_0 rfl ?_
          refine x_getr fl_X9_267 dX9_see_39 sf_10 rfl ?_
          refine x_iload_n dX9_see_42 rfl ?_
          refine x_iload_n dX9_see_43 rfl ?_
          refine x_iast dX9_see_44 sf_12 rfl (by omega) (by decide) ?_
          refine x_iload_n dX9_see_45 rfl ?_
          exact x_iret dX9_see_46 rfl rfl (Nat.le_refl _) (Nat.le_refl _) ⟨rfl, ⟨oi (by simp [vSee, hok, hcl]), by simp [hok, hcl]⟩⟩
        · refine x_iconst (v := -1) dX9_see_23 (by decide) ?_
          exact x_iret dX9_see_24 rfl rfl (Nat.le_refl _) (Nat.le_refl _) ⟨rfl, ⟨oi (by first | (simp [vSee, okSee, h4]; done) | (simp [vSee, okSee, h4, h10, rg_f1 h14]; done) | (simp [vSee, okSee, h4, h10, rg_f3 h20]; done)), by first | (simp [okSee, h4]; done) | (simp [okSee, h4, h10, rg_f1 h14]; done) | (simp [okSee, h4, h10, rg_f3 h20]; done)⟩⟩
theorem c_torn {Z : List (Option Nat)} {ext : List Ds} {M : Mm} : Ct mX9_torn [.ref 0] (SS Z ext) M (Rt (some (.int (M 0 12))) M) := by
  refine Ct.of (by decide) (Nat.le_of_ble_eq_true rfl) ?_
  refine x_aload_n dX9_torn_0 rfl ?_
  refine x_geti fl_X9_297 dX9_torn_1 sf_0 rfl ?_
  exact x_iret dX9_torn_4 rfl rfl (Nat.le_refl _) (Nat.le_refl _) ⟨rfl, ⟨rfl, rfl⟩⟩
theorem c_fault {Z : List (Option Nat)} {ext : List Ds} {M : Mm} : Ct mX9_fault [.ref 0] (SS Z ext) M (Rt (some (.int (M 15 5))) M) := by
  refine Ct.of (by decide) (Nat.le_of_ble_eq_true rfl) ?_
  refine x_aload_n dX9_fault_0 rfl ?_
  refine x_getr fl_X9_35 dX9_fault_1 sf_0 rfl ?_
  refine x_geti fl_X9_126 dX9_fault_4 sf_15 rfl ?_
  exact x_iret dX9_fault_7 rfl rfl (Nat.le_refl _) (Nat.le_refl _) ⟨rfl, ⟨rfl, rfl⟩⟩
theorem c_end {Z : List (Option Nat)} {ext : List Ds} {M : Mm} (x : Int32) : Ct mX9_end [.ref 0, .int x] (SS Z ext) M (Rt (some (.int (if rg x 0 (M 13 1) then M 13 1 else -1))) (up2 M 13 1 (if rg x 0 (M 13 1) then x else M 13 1))) := by
  refine Ct.of (by decide) (Nat.le_of_ble_eq_true rfl) ?_
  refine x_iload_n dX9_end_0 rfl ?_
  refine x_if_lt 15 dX9_end_1 (by decide) (fun h1 => ?_) (fun h1 => ?_)
  · refine x_iconst (v := -1) dX9_end_15 (by decide) ?_
    exact x_iret dX9_end_16 rfl rfl (Nat.le_refl _) (Nat.le_refl _) ⟨rfl, ⟨oi (by first | (simp [rg_f1 h1]; done) | (simp [rg_f3 h12]; done)), (up2_self (by first | (simp [rg_f1 h1]; done) | (simp [rg_f3 h12]; done))).symm⟩⟩
  · refine x_iload_n dX9_end_4 rfl ?_
    refine x_aload_n dX9_end_5 rfl ?_
    refine x_getr fl_X9_26 dX9_end_6 sf_0 rfl ?_
    refine x_geti fl_X9_96 dX9_end_9 sf_13 rfl ?_
    refine x_icmp_le 17 dX9_end_12 (by decide) (fun h12 => ?_) (fun h12 => ?_)
    · refine x_aload_n dX9_end_17 rfl ?_
      refine x_getr fl_X9_26 dX9_end_18 sf_0 rfl ?_
      refine x_geti fl_X9_96 dX9_end_21 sf_13 rfl ?_
      refine x_istore_n dX9_end_24 (by decide) ?_
      refine x_aload_n dX9_end_25 rfl ?_
      refine x_getr fl_X9_26 dX9_end_26 sf_0 rfl ?_
      refine x_iload_n dX9_end_29 rfl ?_
      refine x_put fl_X9_96 dX9_end_30 sf_13 rfl rfl rfl ?_
      refine x_iload_n dX9_end_33 rfl ?_
      exact x_iret dX9_end_34 rfl rfl (Nat.le_refl _) (Nat.le_refl _) ⟨rfl, ⟨oi (by simp [rg_t2 h1 h12]), by simp [rg_t2 h1 h12]⟩⟩
    · refine x_iconst (v := -1) dX9_end_15 (by decide) ?_
      exact x_iret dX9_end_16 rfl rfl (Nat.le_refl _) (Nat.le_refl _) ⟨rfl, ⟨oi (by first | (simp [rg_f1 h1]; done) | (simp [rg_f3 h12]; done)), (up2_self (by first | (simp [rg_f1 h1]; done) | (simp [rg_f3 h12]; done))).symm⟩⟩
