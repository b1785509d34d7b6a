/-! ===== the class: Breaker, its small methods ===== -/
def mn (a b : Int32) : Int32 := if b < a then b else a
theorem mm_sta : Cond.static Lib.Math.min.name ∈ gw := tb 676 (by decide +kernel) (by decide +kernel)
theorem mm_ini : Cond.initialized "java/lang/Math" ∈ gw := tb 18 (by decide +kernel) (by decide +kernel)
theorem mm_cod : Cond.code Lib.Math.min.name Lib.Math.min.code 2 (some .int) ∈ gw := tb 677 (by decide +kernel) (by decide +kernel)
theorem x_mmin {i : Mi} {F : Fn} {cells slots : Nat} {S : List Ds} {M : Mm} {pc : Nat} {lv : Lv} {st : List Value} {idx : Nat} {a b : Int32} (hl0 : Cond.methodLink (mY i).cls idx Lib.Math.min.name ∈ gw) (hd : decode (mC i) pc = .ok (.invokestatic idx, 3))
    (hR : 1 ≤ (mM i).frames ∧ (st.map fun v => v.category).sum + 13 ≤ (mM i).locals) (hmk : cells ≤ (mM i).cells ∧ slots ≤ (mM i).slots) (kk : XW i F cells slots S M (pc + 3) lv (.int (mn a b) :: st)) : XW i F cells slots S M pc lv (.int b :: .int a :: st) := by
  intro p l e s m args below meth cd D cA rw A ad0 ad H locs ls cx hpre hlen hP hD hS hl
  refine va_mmin cx.1 cx.2.1 (by rw [cx.2.2.1, hl.1]) cx.2.2.2.2.1 (cx.2.2.2.2.2.2.2.1 _ hl0) (cx.2.2.2.2.2.2.2.1 _ mm_sta) (cx.2.2.2.2.2.2.2.1 _ mm_ini) (cx.2.2.2.2.2.2.2.1 _ mm_cod) hR.1 (by rw [cat_map]; exact hR.2) hmk.1 hmk.2 hd ?_
  exact kk p l e s m args below meth cd D cA rw A ad0 ad H locs ls cx hpre hlen hP hD hS hl
/-- best, least, ways, pick -/
abbrev Bk : Type := Int32 × Int32 × Int32 × Int32
def b4 (f : Nat → Int32) (k : Bk) : Nat → Int32 := upd (upd (upd (upd f 0 k.1) 1 k.2.1) 2 k.2.2.1) 8 k.2.2.2
def bkM (M : Mm) (k : Bk) : Mm := upr M 19 (b4 (M 19) k)
theorem bk_id (M : Mm) : bkM M (M 19 0, M 19 1, M 19 2, M 19 8) = M := by
  have e : b4 (M 19) (M 19 0, M 19 1, M 19 2, M 19 8) = M 19 := by
    funext k
    unfold b4 upd
    by_cases h3 : k = 8
    · simp [h3]
    · by_cases h2 : k = 2
      · simp [h2]
      · by_cases h1 : k = 1
        · simp [h1]
        · by_cases h0 : k = 0 <;> simp [h0, h1, h2, h3]
  rw [bkM, e, upr_self]
theorem bk_0 (M : Mm) (k : Bk) (v : Int32) : up2 (bkM M k) 19 0 v = bkM M (v, k.2.1, k.2.2.1, k.2.2.2) := by
  have e : upd (b4 (M 19) k) 0 v = b4 (M 19) (v, k.2.1, k.2.2.1, k.2.2.2) := by
    funext k
    unfold b4 upd
    by_cases h3 : k = 8
    · simp [h3]
    · by_cases h2 : k = 2
      · simp [h2]
      · by_cases h1 : k = 1
        · simp [h1]
        · by_cases h0 : k = 0 <;> simp [h0, h1, h2, h3]
  rw [bkM, bkM, up2_upr2, e]
theorem bk_1 (M : Mm) (k : Bk) (v : Int32) : up2 (bkM M k) 19 1 v = bkM M (k.1, v, k.2.2.1, k.2.2.2) := by
  have e : upd (b4 (M 19) k) 1 v = b4 (M 19) (k.1, v, k.2.2.1, k.2.2.2) := by
    funext k
    unfold b4 upd
    by_cases h3 : k = 8
    · simp [h3]
    · by_cases h2 : k = 2
      · simp [h2]
      · by_cases h1 : k = 1
        · simp [h1]
        · by_cases h0 : k = 0 <;> simp [h0, h1, h2, h3]
  rw [bkM, bkM, up2_upr2, e]
theorem bk_2 (M : Mm) (k : Bk) (v : Int32) : up2 (bkM M k) 19 2 v = bkM M (k.1, k.2.1, v, k.2.2.2) := by
  have e : upd (b4 (M 19) k) 2 v = b4 (M 19) (k.1, k.2.1, v, k.2.2.2) := by
    funext k
    unfold b4 upd
    by_cases h3 : k = 8
    · simp [h3]
    · by_cases h2 : k = 2
      · simp [h2]
      · by_cases h1 : k = 1
        · simp [h1]
        · by_cases h0 : k = 0 <;> simp [h0, h1, h2, h3]
  rw [bkM, bkM, up2_upr2, e]
theorem bk_8 (M : Mm) (k : Bk) (v : Int32) : up2 (bkM M k) 19 8 v = bkM M (k.1, k.2.1, k.2.2.1, v) := by
  have e : upd (b4 (M 19) k) 8 v = b4 (M 19) (k.1, k.2.1, k.2.2.1, v) := by
    funext k
    unfold b4 upd
    by_cases h3 : k = 8
    · simp [h3]
    · by_cases h2 : k = 2
      · simp [h2]
      · by_cases h1 : k = 1
        · simp [h1]
        · by_cases h0 : k = 0 <;> simp [h0, h1, h2, h3]
  rw [bkM, bkM, up2_upr2, e]
def ntS (k : Bk) (s c : Int32) : Bk := if decide (c ≤ k.1) then (if decide (c < k.1) || decide (k.2.2.1 = 0) then (c, mn s s, 0 + 1, k.2.2.2) else (k.1, mn k.2.1 s, k.2.2.1 + 1, k.2.2.2)) else k
theorem c_noteSet {Z : List (Option Nat)} {ext : List Ds} {M : Mm} (k : Bk) (s c : Int32) : Ct mX0_noteSet [.ref 19, .int s, .int c] (SS Z ext) (bkM M k) (Rt none (bkM M (ntS k s c))) := by
  refine Ct.of (by decide) (Nat.le_of_ble_eq_true rfl) ?_
  refine x_iload_n dX0_noteSet_0 rfl ?_
  refine x_aload_n dX0_noteSet_1 rfl ?_
  refine x_geti fl_X0_54 dX0_noteSet_2 sf_19 rfl ?_
  refine x_icmp_le 9 dX0_noteSet_5 (by decide) (fun h5 => ?_) (fun h5 => ?_)
  · refine x_iload_n dX0_noteSet_9 rfl ?_
    refine x_aload_n dX0_noteSet_10 rfl ?_
    refine x_geti fl_X0_54 dX0_noteSet_11 sf_19 rfl ?_
    refine x_icmp_lt 24 dX0_noteSet_14 (by decide) (fun h14 => ?_) (fun h14 => ?_)
    · refine x_aload_n dX0_noteSet_24 rfl ?_
      refine x_iload_n dX0_noteSet_25 rfl ?_
      refine x_put fl_X0_54 dX0_noteSet_26 sf_19 rfl rfl rfl ?_
      refine x_aload_n dX0_noteSet_29 rfl ?_
      refine x_iload_n dX0_noteSet_30 rfl ?_
      refine x_put fl_X0_57 dX0_noteSet_31 sf_19 rfl rfl rfl ?_
      refine x_aload_n dX0_noteSet_34 rfl ?_
      refine x_iconst (v := 0) dX0_noteSet_35 (by decide) ?_
      refine x_put fl_X0_60 dX0_noteSet_36 sf_19 rfl rfl rfl ?_
      first | rw [bk_0, bk_1, bk_2] | skip
      refine x_aload_n dX0_noteSet_39 rfl ?_
      refine x_aload_n dX0_noteSet_40 rfl ?_
      refine x_geti fl_X0_57 dX0_noteSet_41 sf_19 rfl ?_
      refine x_iload_n dX0_noteSet_44 rfl ?_
      refine x_mmin ml_X0_87 dX0_noteSet_45 ⟨by decide, by decide⟩ ⟨by decide, by decide⟩ ?_
      refine x_put fl_X0_57 dX0_noteSet_48 sf_19 rfl rfl rfl ?_
      refine x_aload_n dX0_noteSet_51 rfl ?_
      refine x_dup dX0_noteSet_52 rfl ?_
      refine x_geti fl_X0_60 dX0_noteSet_53 sf_19 rfl ?_
      refine x_iconst (v := 1) dX0_noteSet_56 (by decide) ?_
      refine x_iadd dX0_noteSet_57 ?_
      refine x_put fl_X0_60 dX0_noteSet_58 sf_19 rfl rfl rfl ?_
      exact x_ret dX0_noteSet_61 rfl (Nat.le_refl _) (Nat.le_refl _) ⟨rfl, ⟨rfl, by first | (rw [ntS, decide_eq_false (show ¬ c ≤ k.1 from h5)]; rfl) | (rw [ntS, decide_eq_true (show c ≤ k.1 from h5), decide_eq_true (show c < k.1 from h14)]; rw [bk_1, bk_2]; rfl) | (rw [ntS, decide_eq_true (show c ≤ k.1 from h5), decide_eq_false (show ¬ c < k.1 from h14), decide_eq_true (show k.2.2.1 = 0 from h21)]; rw [bk_1, bk_2]; rfl) | (rw [ntS, decide_eq_true (show c ≤ k.1 from h5), decide_eq_false (show ¬ c < k.1 from h14), decide_eq_false (show ¬ k.2.2.1 = 0 from h21)]; rw [bk_1, bk_2]; rfl)⟩⟩
    · refine x_aload_n dX0_noteSet_17 rfl ?_
      refine x_geti fl_X0_60 dX0_noteSet_18 sf_19 rfl ?_
      refine x_if_ne 39 dX0_noteSet_21 (by decide) (fun h21 => ?_) (fun h21 => ?_)
      · first | rw [bk_0, bk_1, bk_2] | skip
        refine x_aload_n dX0_noteSet_39 rfl ?_
        refine x_aload_n dX0_noteSet_40 rfl ?_
        refine x_geti fl_X0_57 dX0_noteSet_41 sf_19 rfl ?_
        refine x_iload_n dX0_noteSet_44 rfl ?_
        refine x_mmin ml_X0_87 dX0_noteSet_45 ⟨by decide, by decide⟩ ⟨by decide, by decide⟩ ?_
        refine x_put fl_X0_57 dX0_noteSet_48 sf_19 rfl rfl rfl ?_
        refine x_aload_n dX0_noteSet_51 rfl ?_
        refine x_dup dX0_noteSet_52 rfl ?_
        refine x_geti fl_X0_60 dX0_noteSet_53 sf_19 rfl ?_
        refine x_iconst (v := 1) dX0_noteSet_56 (by decide) ?_
        refine x_iadd dX0_noteSet_57 ?_
        refine x_put fl_X0_60 dX0_noteSet_58 sf_19 rfl rfl rfl ?_
        exact x_ret dX0_noteSet_61 rfl (Nat.le_refl _) (Nat.le_refl _) ⟨rfl, ⟨rfl, by first | (rw [ntS, decide_eq_false (show ¬ c ≤ k.1 from h5)]; rfl) | (rw [ntS, decide_eq_true (show c ≤ k.1 from h5), decide_eq_true (show c < k.1 from h14)]; rw [bk_1, bk_2]; rfl) | (rw [ntS, decide_eq_true (show c ≤ k.1 from h5), decide_eq_false (show ¬ c < k.1 from h14), decide_eq_true (show k.2.2.1 = 0 from h21)]; rw [bk_1, bk_2]; rfl) | (rw [ntS, decide_eq_true (show c ≤ k.1 from h5), decide_eq_false (show ¬ c < k.1 from h14), decide_eq_false (show ¬ k.2.2.1 = 0 from h21)]; rw [bk_1, bk_2]; rfl)⟩⟩
      · refine x_aload_n dX0_noteSet_24 rfl ?_
        refine x_iload_n dX0_noteSet_25 rfl ?_
        refine x_put fl_X0_54 dX0_noteSet_26 sf_19 rfl rfl rfl ?_
        refine x_aload_n dX0_noteSet_29 rfl ?_
        refine x_iload_n dX0_noteSet_30 rfl ?_
        refine x_put fl_X0_57 dX0_noteSet_31 sf_19 rfl rfl rfl ?_
        refine x_aload_n dX0_noteSet_34 rfl ?_
        refine x_iconst (v := 0) dX0_noteSet_35 (by decide) ?_
        refine x_put fl_X0_60 dX0_noteSet_36 sf_19 rfl rfl rfl ?_
        first | rw [bk_0, bk_1, bk_2] | skip
        refine x_aload_n dX0_noteSet_39 rfl ?_
        refine x_aload_n dX0_noteSet_40 rfl ?_
        refine x_geti fl_X0_57 dX0_noteSet_41 sf_19 rfl ?_
        refine x_iload_n dX0_noteSet_44 rfl ?_
        refine x_mmin ml_X0_87 dX0_noteSet_45 ⟨by decide, by decide⟩ ⟨by decide, by decide⟩ ?_
        refine x_put fl_X0_57 dX0_noteSet_48 sf_19 rfl rfl rfl ?_
        refine x_aload_n dX0_noteSet_51 rfl ?_
        refine x_dup dX0_noteSet_52 rfl ?_
        refine x_geti fl_X0_60 dX0_noteSet_53 sf_19 rfl ?_
        refine x_iconst (v := 1) dX0_noteSet_56 (by decide) ?_
        refine x_iadd dX0_noteSet_57 ?_
        refine x_put fl_X0_60 dX0_noteSet_58 sf_19 rfl rfl rfl ?_
        exact x_ret dX0_noteSet_61 rfl (Nat.le_refl _) (Nat.le_refl _) ⟨rfl, ⟨rfl, by first | (rw [ntS, decide_eq_false (show ¬ c ≤ k.1 from h5)]; rfl) | (rw [ntS, decide_eq_true (show c ≤ k.1 from h5), decide_eq_true (show c < k.1 from h14)]; rw [bk_1, bk_2]; rfl) | (rw [ntS, decide_eq_true (show c ≤ k.1 from h5), decide_eq_false (show ¬ c < k.1 from h14), decide_eq_true (show k.2.2.1 = 0 from h21)]; rw [bk_1, bk_2]; rfl) | (rw [ntS, decide_eq_true (show c ≤ k.1 from h5), decide_eq_false (show ¬ c < k.1 from h14), decide_eq_false (show ¬ k.2.2.1 = 0 from h21)]; rw [bk_1, bk_2]; rfl)⟩⟩
  · exact x_ret dX0_noteSet_8 rfl (Nat.le_refl _) (Nat.le_refl _) ⟨rfl, ⟨rfl, by first | (rw [ntS, decide_eq_false (show ¬ c ≤ k.1 from h5)]; rfl) | (rw [ntS, decide_eq_true (show c ≤ k.1 from h5), decide_eq_true (show c < k.1 from h14)]; rw [bk_1, bk_2]; rfl) | (rw [ntS, decide_eq_true (show c ≤ k.1 from h5), decide_eq_false (show ¬ c < k.1 from h14), decide_eq_true (show k.2.2.1 = 0 from h21)]; rw [bk_1, bk_2]; rfl) | (rw [ntS, decide_eq_true (show c ≤ k.1 from h5), decide_eq_false (show ¬ c < k.1 from h14), decide_eq_false (show ¬ k.2.2.1 = 0 from h21)]; rw [bk_1, bk_2]; rfl)⟩⟩
def chp (up : Nat → Int32) (o : Int32) : Int32 := nI (fa_first (fun i => !decide (up (i + 1) &&& o = 0)) 8 + 1)
theorem c_cheapestOf {Z : List (Option Nat)} {ext : List Ds} {M : Mm} (o : Int32) : Ct mX0_cheapestOf [.ref 19, .int o] (SS Z ext) M (Rt (some (.int (chp (M 23) o))) M) := by
  have hle := fa_first_le (fun i => !decide (M 23 (i + 1) &&& o = 0)) 8
  refine Ct.of (by decide) (Nat.le_of_ble_eq_true rfl) ?_
  refine x_iconst (v := 1) dX0_cheapestOf_0 (by decide) ?_
  refine x_istore_n dX0_cheapestOf_1 (by decide) ?_
  refine lup (P := fun k => XW _ _ 0 0 (SS Z ext) M 2 [some (.ref 19), some (.int o), some (.int (nI (k + 1)))] []) (N := fa_first (fun i => !decide (M 23 (i + 1) &&& o = 0)) 8) ?_ ?_ 0 (by omega)
  · by_cases hlt : fa_first (fun i => !decide (M 23 (i + 1) &&& o = 0)) 8 < 8
    · have hy := fa_first_yes _ _ hlt
      rw [chp]
      generalize fa_first (fun i => !decide (M 23 (i + 1) &&& o = 0)) 8 = f at *
      refine x_iload_n dX0_cheapestOf_2 rfl ?_
      refine x_bipush (v := 9) dX0_cheapestOf_3 (by decide) ?_
      refine x_icmp_ge 25 dX0_cheapestOf_5 (by decide) (fun hc_ => absurd hc_ (nI_ge (b := 9) (a := f + 1) (by omega) (by decide))) (fun _ => ?_)
      refine x_aload_n dX0_cheapestOf_8 rfl ?_
      refine x_getr fl_X0_21 dX0_cheapestOf_9 sf_19 rfl ?_
      refine x_iload_n dX0_cheapestOf_12 rfl ?_
      refine x_iald dX0_cheapestOf_13 sf_23 rfl (by omega) (by decide) ?_
      refine x_iload_n dX0_cheapestOf_14 rfl ?_
      refine x_iand dX0_cheapestOf_15 ?_
      refine x_if_ne 25 dX0_cheapestOf_16 (by decide) (fun _ => ?_) (fun hc_ => absurd hc_ (fun q => by rw [decide_eq_true (show M 23 (f + 1) &&& o = 0 from q)] at hy; cases hy))
      refine x_iload_n dX0_cheapestOf_25 rfl ?_
      exact x_iret dX0_cheapestOf_26 rfl rfl (Nat.le_refl _) (Nat.le_refl _) ⟨rfl, ⟨rfl, rfl⟩⟩
    · have he : fa_first (fun i => !decide (M 23 (i + 1) &&& o = 0)) 8 = 8 := by omega
      rw [chp, he]
      refine x_iload_n dX0_cheapestOf_2 rfl ?_
      refine x_bipush (v := 9) dX0_cheapestOf_3 (by decide) ?_
      refine x_icmp_ge 25 dX0_cheapestOf_5 (by decide) (fun _ => ?_) (fun hc_ => absurd (by decide) hc_)
      refine x_iload_n dX0_cheapestOf_25 rfl ?_
      exact x_iret dX0_cheapestOf_26 rfl rfl (Nat.le_refl _) (Nat.le_refl _) ⟨rfl, ⟨rfl, rfl⟩⟩
  · intro k hk ih
    have hy := fa_first_no _ _ _ hk
    have hz : M 23 (k + 1) &&& o = 0 := by
      by_cases e : M 23 (k + 1) &&& o = 0
      · exact e
      · rw [decide_eq_false e] at hy; cases hy
    rw [nI_succ (k + 1)] at ih
    refine x_iload_n dX0_cheapestOf_2 rfl ?_
    refine x_bipush (v := 9) dX0_cheapestOf_3 (by decide) ?_
    refine x_icmp_ge 25 dX0_cheapestOf_5 (by decide) (fun hc_ => absurd hc_ (nI_ge (b := 9) (a := k + 1) (by omega) (by decide))) (fun _ => ?_)
    refine x_aload_n dX0_cheapestOf_8 rfl ?_
    refine x_getr fl_X0_21 dX0_cheapestOf_9 sf_19 rfl ?_
    refine x_iload_n dX0_cheapestOf_12 rfl ?_
    refine x_iald dX0_cheapestOf_13 sf_23 rfl (by omega) (by decide) ?_
    refine x_iload_n dX0_cheapestOf_14 rfl ?_
    refine x_iand dX0_cheapestOf_15 ?_
    refine x_if_ne 25 dX0_cheapestOf_16 (by decide) (fun hc_ => absurd (hz) hc_) (fun _ => ?_)
    refine x_iinc1 dX0_cheapestOf_19 rfl (by decide) ?_
    refine x_goto 2 dX0_cheapestOf_22 (by decide) ?_
    exact ih
/-- paid, sum, the fewest open, the pick -/
def calS (rm up : Nat → Int32) (U F : Int32) (q : Nat) (t : Bk) : Bk := if lies U (nI q) then (if decide ((rm q &&& F) &&& t.1 = 0) then t.1 ||| (rm q &&& F) else t.1, if decide ((rm q &&& F) &&& t.1 = 0) then t.2.1 + chp up (rm q &&& F) else t.2.1, if decide (t.2.2.1 ≤ bcE (rm q &&& F)) then t.2.2.1 else bcE (rm q &&& F), if decide (t.2.2.1 ≤ bcE (rm q &&& F)) then t.2.2.2 else rm q &&& F) else t
def calF (rm up : Nat → Int32) (U F p0 : Int32) (k : Nat) : Bk := fld (calS rm up U F) k (0, 0, 31, p0)
theorem calF_s (rm up : Nat → Int32) (U F p0 : Int32) (k : Nat) : calF rm up U F p0 (k + 1) = calS rm up U F k (calF rm up U F p0 k) := rfl
/-- the first of the squares that no free match can break -/
def calZ (rm : Nat → Int32) (U F : Int32) (sq : Nat) : Nat := fa_first (fun q => lies U (nI q) && decide (bcE (rm q &&& F) = 0)) sq
def calV (rm up : Nat → Int32) (U F p0 : Int32) (sq : Nat) : Int32 := if calZ rm U F sq < sq then 280 else (calF rm up U F p0 sq).2.1
def calP (rm up : Nat → Int32) (U F p0 : Int32) (sq : Nat) : Int32 := (calF rm up U F p0 (calZ rm U F sq)).2.2.2
theorem c_costAtLeast {Z : List (Option Nat)} {ext : List Ds} {M : Mm} {sq : Nat} (k : Bk) (U F : Int32) (hq : M 19 3 = nI sq) (hb : sq ≤ 20) : Ct mX0_costAtLeast [.ref 19, .int U, .int F] (SS Z ext) (bkM M k) (Rt (some (.int (calV (M 21) (M 23) U F k.2.2.2 sq))) (bkM M (k.1, k.2.1, k.2.2.1, calP (M 21) (M 23) U F k.2.2.2 sq))) := by
  have hle : calZ (M 21) U F sq ≤ sq := fa_first_le _ sq
  refine Ct.of (by decide) (Nat.le_of_ble_eq_true rfl) ?_
  refine x_iconst (v := 0) dX0_costAtLeast_0 (by decide) ?_
  refine x_istore_n dX0_costAtLeast_1 (by decide) ?_
  refine x_iconst (v := 0) dX0_costAtLeast_2 (by decide) ?_
  refine x_istore dX0_costAtLeast_3 (by decide) ?_
  refine x_bipush (v := 31) dX0_costAtLeast_5 (by decide) ?_
  refine x_istore dX0_costAtLeast_7 (by decide) ?_
  refine x_iconst (v := 0) dX0_costAtLeast_9 (by decide) ?_
  refine x_istore dX0_costAtLeast_10 (by decide) ?_
  refine (lup (P := fun j => ∀ l7 l8, XW _ _ 0 0 (SS Z ext) (bkM M (k.1, k.2.1, k.2.2.1, (calF (M 21) (M 23) U F k.2.2.2 j).2.2.2)) 12 [some (.ref 19), some (.int U), some (.int F), some (.int (calF (M 21) (M 23) U F k.2.2.2 j).1), some (.int (calF (M 21) (M 23) U F k.2.2.2 j).2.1), some (.int (calF (M 21) (M 23) U F k.2.2.2 j).2.2.1), some (.int (nI j)), l7, l8] []) (N := calZ (M 21) U F sq) ?_ ?_ 0 (by omega)) none none
  · intro l7 l8
    by_cases hlt : calZ (M 21) U F sq < sq
    · have hy := fa_first_yes _ _ hlt
      rw [Bool.and_eq_true] at hy
      have hy1 : lies U (nI (calZ (M 21) U F sq)) = true := hy.1
      have hy2 : bcE (M 21 (calZ (M 21) U F sq) &&& F) = 0 := of_decide_eq_true hy.2
      rw [calP, calV, if_pos hlt]
      generalize calZ (M 21) U F sq = z at *
      generalize calF (M 21) (M 23) U F k.2.2.2 z = t
      refine x_iload dX0_costAtLeast_12 rfl ?_
      refine x_aload_n dX0_costAtLeast_14 rfl ?_
      refine x_geti fl_X0_30 dX0_costAtLeast_15 sf_19 rfl ?_
      refine x_icmp_ge 103 dX0_costAtLeast_18 (by decide) (fun hc_ => absurd hc_ (by show ¬ M 19 3 ≤ nI z; rw [hq]; exact nI_ge hlt (by omega))) (fun _ => ?_)
      refine x_iload_n dX0_costAtLeast_21 rfl ?_
      refine x_iload dX0_costAtLeast_22 rfl ?_
      refine x_ishr dX0_costAtLeast_24 ?_
      refine x_iconst (v := 1) dX0_costAtLeast_25 (by decide) ?_
      refine x_iand dX0_costAtLeast_26 ?_
      refine x_if_eq 97 dX0_costAtLeast_27 (by decide) (fun hc_ => absurd hc_ (fun q => by rw [lies_f q] at hy1; cases hy1)) (fun _ => ?_)
      refine x_aload_n dX0_costAtLeast_30 rfl ?_
      refine x_getr fl_X0_15 dX0_costAtLeast_31 sf_19 rfl ?_
      refine x_iload dX0_costAtLeast_34 rfl ?_
      refine x_iald dX0_costAtLeast_36 sf_21 rfl (by omega) (by decide) ?_
      refine x_iload_n dX0_costAtLeast_37 rfl ?_
      refine x_iand dX0_costAtLeast_38 ?_
      refine x_istore dX0_costAtLeast_39 (by decide) ?_
      refine x_iload dX0_costAtLeast_41 rfl ?_
      refine x_csd mf_J6_bitCount_0f7a4 ml_X0_81 dX0_costAtLeast_43 rfl ⟨by decide, by decide⟩ (Nat.le_of_ble_eq_true rfl) ⟨rfl, rfl⟩ ⟨Nat.le_of_ble_eq_true rfl, Nat.le_of_ble_eq_true rfl⟩ (c_bitCount _) ?_
      refine x_istore dX0_costAtLeast_46 (by decide) ?_
      refine x_iload dX0_costAtLeast_48 rfl ?_
      refine x_if_ne 57 dX0_costAtLeast_50 (by decide) (fun hc_ => absurd (hy2) hc_) (fun _ => ?_)
      refine x_sipush (v := 280) dX0_costAtLeast_53 (by decide) ?_
      exact x_iret dX0_costAtLeast_56 rfl rfl (Nat.le_refl _) (Nat.le_refl _) ⟨rfl, ⟨rfl, rfl⟩⟩
    · rw [calP, calV, if_neg hlt, show calZ (M 21) U F sq = sq by omega]
      generalize calF (M 21) (M 23) U F k.2.2.2 sq = t
      refine x_iload dX0_costAtLeast_12 rfl ?_
      refine x_aload_n dX0_costAtLeast_14 rfl ?_
      refine x_geti fl_X0_30 dX0_costAtLeast_15 sf_19 rfl ?_
      refine x_icmp_ge 103 dX0_costAtLeast_18 (by decide) (fun _ => ?_) (fun hc_ => absurd (by show M 19 3 ≤ nI sq; rw [hq]; exact nI_le (by omega) (by omega)) hc_)
      refine x_iload dX0_costAtLeast_103 rfl ?_
      exact x_iret dX0_costAtLeast_105 rfl rfl (Nat.le_refl _) (Nat.le_refl _) ⟨rfl, ⟨rfl, rfl⟩⟩
  · intro j hj ih l7 l8
    have hy := fa_first_no _ _ _ hj
    rw [calF_s _ _ _ _ _ j, nI_succ j] at ih
    generalize calF (M 21) (M 23) U F k.2.2.2 j = t at ih ⊢
    cases hl : lies U (nI j) with
    | false =>
      rw [calS, hl, if_neg (by decide)] at ih
      have hl2 : (U >>> (nI j &&& 31)) &&& 1 = 0 := by
        by_cases e : (U >>> (nI j &&& 31)) &&& 1 = 0
        · exact e
        · rw [lies_t e] at hl; cases hl
      refine x_iload dX0_costAtLeast_12 rfl ?_
      refine x_aload_n dX0_costAtLeast_14 rfl ?_
      refine x_geti fl_X0_30 dX0_costAtLeast_15 sf_19 rfl ?_
      refine x_icmp_ge 103 dX0_costAtLeast_18 (by decide) (fun hc_ => absurd hc_ (by show ¬ M 19 3 ≤ nI j; rw [hq]; exact nI_ge (by omega) (by omega))) (fun _ => ?_)
      refine x_iload_n dX0_costAtLeast_21 rfl ?_
      refine x_iload dX0_costAtLeast_22 rfl ?_
      refine x_ishr dX0_costAtLeast_24 ?_
      refine x_iconst (v := 1) dX0_costAtLeast_25 (by decide) ?_
      refine x_iand dX0_costAtLeast_26 ?_
      refine x_if_eq 97 dX0_costAtLeast_27 (by decide) (fun _ => ?_) (fun hc_ => absurd (hl2) hc_)
      refine x_iinc1 dX0_costAtLeast_97 rfl (by decide) ?_
      refine x_goto 12 dX0_costAtLeast_100 (by decide) ?_
      exact ih _ _
    | true =>
      rw [calS, hl, if_pos rfl] at ih
      have hl2 : ¬ (U >>> (nI j &&& 31)) &&& 1 = 0 := fun e => by rw [lies_f e] at hl; cases hl
      have hne : ¬ bcE (M 21 j &&& F) = 0 := fun e => by rw [hl, decide_eq_true e] at hy; cases hy
      generalize ho : M 21 j &&& F = o at ih hne
      refine x_join (bkM M (k.1, k.2.1, k.2.2.1, if decide (t.2.2.1 ≤ bcE o) then t.2.2.2 else o)) 74 [some (.ref 19), some (.int U), some (.int F), some (.int t.1), some (.int t.2.1), some (.int (if decide (t.2.2.1 ≤ bcE o) then t.2.2.1 else bcE o)), some (.int (nI j)), some (.int o), some (.int (bcE o))] [] ?_ (fun fin => ?_)
      · generalize (if decide (t.2.2.1 ≤ bcE o) then t.2.2.2 else o) = pk at ih ⊢
        have cc := c_cheapestOf (Z := Z) (ext := ext) (M := bkM M (k.1, k.2.1, k.2.2.1, pk)) o
        rw [show (bkM M (k.1, k.2.1, k.2.2.1, pk)) 23 = M 23 from rfl] at cc
        refine x_iload dX0_costAtLeast_74 rfl ?_
        refine x_iload_n dX0_costAtLeast_76 rfl ?_
        refine x_iand dX0_costAtLeast_77 ?_
        refine x_if_ne 97 dX0_costAtLeast_78 (by decide) (fun h78 => ?_) (fun h78 => ?_)
        · refine x_iinc1 dX0_costAtLeast_97 rfl (by decide) ?_
          refine x_goto 12 dX0_costAtLeast_100 (by decide) ?_
          first | (rw [decide_eq_false h78] at ih; exact ih _ _) | (rw [decide_eq_true h78] at ih; exact ih _ _)
        · refine x_iload_n dX0_costAtLeast_81 rfl ?_
          refine x_iload dX0_costAtLeast_82 rfl ?_
          refine x_ior dX0_costAtLeast_84 ?_
          refine x_istore_n dX0_costAtLeast_85 (by decide) ?_
          refine x_iload dX0_costAtLeast_86 rfl ?_
          refine x_aload_n dX0_costAtLeast_88 rfl ?_
          refine x_iload dX0_costAtLeast_89 rfl ?_
          refine x_cvd mf_X0_cheapestOf ml_X0_92 dX0_costAtLeast_91 rfl sf_19 rfl ⟨by decide, by decide⟩ (Nat.le_of_ble_eq_true rfl) ⟨rfl, rfl⟩ ⟨Nat.le_of_ble_eq_true rfl, Nat.le_of_ble_eq_true rfl⟩ (cc) ?_
          refine x_iadd dX0_costAtLeast_94 ?_
          refine x_istore dX0_costAtLeast_95 (by decide) ?_
          refine x_iinc1 dX0_costAtLeast_97 rfl (by decide) ?_
          refine x_goto 12 dX0_costAtLeast_100 (by decide) ?_
          first | (rw [decide_eq_false h78] at ih; exact ih _ _) | (rw [decide_eq_true h78] at ih; exact ih _ _)
      · skip
        refine x_iload dX0_costAtLeast_12 rfl ?_
        refine x_aload_n dX0_costAtLeast_14 rfl ?_
        refine x_geti fl_X0_30 dX0_costAtLeast_15 sf_19 rfl ?_
        refine x_icmp_ge 103 dX0_costAtLeast_18 (by decide) (fun hc_ => absurd hc_ (by show ¬ M 19 3 ≤ nI j; rw [hq]; exact nI_ge (by omega) (by omega))) (fun _ => ?_)
        refine x_iload_n dX0_costAtLeast_21 rfl ?_
        refine x_iload dX0_costAtLeast_22 rfl ?_
        refine x_ishr dX0_costAtLeast_24 ?_
        refine x_iconst (v := 1) dX0_costAtLeast_25 (by decide) ?_
        refine x_iand dX0_costAtLeast_26 ?_
        refine x_if_eq 97 dX0_costAtLeast_27 (by decide) (fun hc_ => absurd hc_ (hl2)) (fun _ => ?_)
        refine x_aload_n dX0_costAtLeast_30 rfl ?_
        refine x_getr fl_X0_15 dX0_costAtLeast_31 sf_19 rfl ?_
        refine x_iload dX0_costAtLeast_34 rfl ?_
        refine x_iald dX0_costAtLeast_36 sf_21 rfl (by omega) (by decide) ?_
        refine x_iload_n dX0_costAtLeast_37 rfl ?_
        refine x_iand dX0_costAtLeast_38 ?_
        rw [show (bkM M (k.1, k.2.1, k.2.2.1, t.2.2.2)) 21 j &&& F = o from ho]
        refine x_istore dX0_costAtLeast_39 (by decide) ?_
        refine x_iload dX0_costAtLeast_41 rfl ?_
        refine x_csd mf_J6_bitCount_0f7a4 ml_X0_81 dX0_costAtLeast_43 rfl ⟨by decide, by decide⟩ (Nat.le_of_ble_eq_true rfl) ⟨rfl, rfl⟩ ⟨Nat.le_of_ble_eq_true rfl, Nat.le_of_ble_eq_true rfl⟩ (c_bitCount _) ?_
        refine x_istore dX0_costAtLeast_46 (by decide) ?_
        refine x_iload dX0_costAtLeast_48 rfl ?_
        refine x_if_ne 57 dX0_costAtLeast_50 (by decide) (fun _ => ?_) (fun hc_ => absurd hc_ (hne))
        refine x_iload dX0_costAtLeast_57 rfl ?_
        refine x_iload dX0_costAtLeast_59 rfl ?_
        refine x_icmp_ge 74 dX0_costAtLeast_61 (by decide) (fun h61 => ?_) (fun h61 => ?_)
        · first | (rw [decide_eq_true h61] at fin; exact fin) | (rw [decide_eq_false h61] at fin; rw [bk_8]; exact fin)
        · refine x_iload dX0_costAtLeast_64 rfl ?_
          refine x_istore dX0_costAtLeast_66 (by decide) ?_
          refine x_aload_n dX0_costAtLeast_68 rfl ?_
          refine x_iload dX0_costAtLeast_69 rfl ?_
          refine x_put fl_X0_78 dX0_costAtLeast_71 sf_19 rfl rfl rfl ?_
          first | (rw [decide_eq_true h61] at fin; exact fin) | (rw [decide_eq_false h61] at fin; rw [bk_8]; exact fin)
