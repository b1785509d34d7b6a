/-! ===== the class: Game, its small methods ===== -/
theorem fa_xorN (a b : Nat) : nI a ^^^ nI b = nI (a ^^^ b) := by
  apply Int32.toBitVec_inj.1
  show BitVec.ofNat 32 a ^^^ BitVec.ofNat 32 b = BitVec.ofNat 32 (a ^^^ b)
  apply BitVec.eq_of_getLsbD_eq
  intro i hi
  simp [hi]
theorem tb_xor {j k : Nat} (hk : k < 31) : nI j ^^^ ((1 : Int32) <<< (nI k &&& 31)) = nI (j ^^^ 2 ^ k) := by rw [tb_sh hk, fa_xorN]
theorem tb_and {j k : Nat} (hk : k < 31) : nI j &&& ((1 : Int32) <<< (nI k &&& 31)) = 0 ↔ j.testBit k = false := by rw [tb_sh hk]; exact fa_bit hk
theorem xor_lt {j k m : Nat} (hj : j < 2 ^ m) (hk : k < m) : j ^^^ 2 ^ k < 2 ^ m := Nat.xor_lt_two_pow hj (Nat.pow_lt_pow_right (by decide) hk)
theorem xor_or {j k : Nat} (h : j.testBit k = true) : (j ^^^ 2 ^ k) ||| 2 ^ k = j := by
  apply Nat.eq_of_testBit_eq
  intro i
  rw [Nat.testBit_or, Nat.testBit_xor, Nat.testBit_two_pow]
  by_cases hi : k = i
  · subst hi; simp [h]
  · simp [hi]
theorem xor_bit {j k : Nat} (h : j.testBit k = true) : (j ^^^ 2 ^ k).testBit k = false := by rw [Nat.testBit_xor, Nat.testBit_two_pow, h]; simp
theorem xor_sm {j k : Nat} (h : j.testBit k = true) : j ^^^ 2 ^ k < j := by
  have h1 := or_gt (xor_bit h)
  rw [xor_or h] at h1
  exact h1
def q4 (f : Nat → Int32) (b w p s : Int32) : Nat → Int32 := upd (upd (upd (upd f 0 b) 1 w) 2 p) 3 s
def gmM (M : Mm) (b w p s : Int32) (r34 r35 r36 : Nat → Int32) : Mm := upr (upr (upr (upr M 33 (q4 (M 33) b w p s)) 34 r34) 35 r35) 36 r36
theorem q4_q4 (f : Nat → Int32) (b w p s b' w' p' s' : Int32) : q4 (q4 f b w p s) b' w' p' s' = q4 f b' w' p' s' := by
  funext k
  unfold q4 upd
  by_cases h3 : k = 3
  · simp [h3]
  · by_cases h2 : k = 2
    · simp [h2]
    · by_cases h1 : k = 1
      · simp [h1]
      · by_cases h0 : k = 0 <;> simp [h0, h1, h2, h3]
theorem q4_0 (f : Nat → Int32) : q4 f (f 0) (f 1) (f 2) (f 3) = f := by
  funext k
  unfold q4 upd
  by_cases h3 : k = 3
  · simp [h3]
  · by_cases h2 : k = 2
    · simp [h2]
    · by_cases h1 : k = 1
      · simp [h1]
      · by_cases h0 : k = 0 <;> simp [h0, h1, h2, h3]
theorem gm_id (M : Mm) : gmM M (M 33 0) (M 33 1) (M 33 2) (M 33 3) (M 34) (M 35) (M 36) = M := by
  unfold gmM
  rw [q4_0, upr_self, upr_self, upr_self, upr_self]
theorem gm_0 (M : Mm) (b w p s v : Int32) (r34 r35 r36 : Nat → Int32) : up2 (gmM M b w p s r34 r35 r36) 33 0 v = gmM M v w p s r34 r35 r36 := by
  have e : upd (q4 (M 33) b w p s) 0 v = q4 (M 33) v w p s := by
    funext k
    unfold q4 upd
    by_cases h3 : k = 3
    · simp [h3]
    · by_cases h2 : k = 2
      · simp [h2]
      · by_cases h1 : k = 1
        · simp [h1]
        · by_cases h0 : k = 0 <;> simp [h0, h1, h2, h3]
  rw [gmM, gmM, up2_upr_ne _ _ _ (by decide), up2_upr_ne _ _ _ (by decide), up2_upr_ne _ _ _ (by decide), up2_upr2, e]
theorem gm_1 (M : Mm) (b w p s v : Int32) (r34 r35 r36 : Nat → Int32) : up2 (gmM M b w p s r34 r35 r36) 33 1 v = gmM M b v p s r34 r35 r36 := by
  have e : upd (q4 (M 33) b w p s) 1 v = q4 (M 33) b v p s := by
    funext k
    unfold q4 upd
    by_cases h3 : k = 3
    · simp [h3]
    · by_cases h2 : k = 2
      · simp [h2]
      · by_cases h1 : k = 1
        · simp [h1]
        · by_cases h0 : k = 0 <;> simp [h0, h1, h2, h3]
  rw [gmM, gmM, up2_upr_ne _ _ _ (by decide), up2_upr_ne _ _ _ (by decide), up2_upr_ne _ _ _ (by decide), up2_upr2, e]
theorem gm_2 (M : Mm) (b w p s v : Int32) (r34 r35 r36 : Nat → Int32) : up2 (gmM M b w p s r34 r35 r36) 33 2 v = gmM M b w v s r34 r35 r36 := by
  have e : upd (q4 (M 33) b w p s) 2 v = q4 (M 33) b w v s := by
    funext k
    unfold q4 upd
    by_cases h3 : k = 3
    · simp [h3]
    · by_cases h2 : k = 2
      · simp [h2]
      · by_cases h1 : k = 1
        · simp [h1]
        · by_cases h0 : k = 0 <;> simp [h0, h1, h2, h3]
  rw [gmM, gmM, up2_upr_ne _ _ _ (by decide), up2_upr_ne _ _ _ (by decide), up2_upr_ne _ _ _ (by decide), up2_upr2, e]
theorem gm_3 (M : Mm) (b w p s v : Int32) (r34 r35 r36 : Nat → Int32) : up2 (gmM M b w p s r34 r35 r36) 33 3 v = gmM M b w p v r34 r35 r36 := by
  have e : upd (q4 (M 33) b w p s) 3 v = q4 (M 33) b w p v := by
    funext k
    unfold q4 upd
    by_cases h3 : k = 3
    · simp [h3]
    · by_cases h2 : k = 2
      · simp [h2]
      · by_cases h1 : k = 1
        · simp [h1]
        · by_cases h0 : k = 0 <;> simp [h0, h1, h2, h3]
  rw [gmM, gmM, up2_upr_ne _ _ _ (by decide), up2_upr_ne _ _ _ (by decide), up2_upr_ne _ _ _ (by decide), up2_upr2, e]
theorem gm_34 (M : Mm) (b w p s v : Int32) (r34 r35 r36 : Nat → Int32) (k : Nat) : up2 (gmM M b w p s r34 r35 r36) 34 k v = gmM M b w p s (upd r34 k v) r35 r36 := by
  rw [gmM, gmM, up2_upr_ne _ _ _ (by decide), up2_upr_ne _ _ _ (by decide), up2_upr2]
theorem gm_35 (M : Mm) (b w p s v : Int32) (r34 r35 r36 : Nat → Int32) (k : Nat) : up2 (gmM M b w p s r34 r35 r36) 35 k v = gmM M b w p s r34 (upd r35 k v) r36 := by
  rw [gmM, gmM, up2_upr_ne _ _ _ (by decide), up2_upr2]
theorem gm_36 (M : Mm) (b w p s v : Int32) (r34 r35 r36 : Nat → Int32) (k : Nat) : up2 (gmM M b w p s r34 r35 r36) 36 k v = gmM M b w p s r34 r35 (upd r36 k v) := by
  rw [gmM, gmM, up2_upr2]
theorem gm_eqm {M : Mm} {b w p s : Int32} {r34 r35 r36 : Nat → Int32} : Eqm M (gmM M b w p s r34 r35 r36) := ((((Eqm.rf M).ur (fun _ => rfl)).ur (fun _ => rfl)).ur (fun _ => rfl)).ur (fun _ => rfl)
def rnm (so : Nat → Int32) (x : Int32) (n : Nat) : Int32 := fld (fun i a => a ||| (((x >>> (so i &&& 31)) &&& 1) <<< (nI i &&& 31))) n 0
theorem c_renumbered {Z : List (Option Nat)} {ext : List Ds} {M : Mm} {p : Nat} (x : Int32) (hp : M 33 2 = nI p) (hb : p ≤ 12) : Ct mX1_renumbered [.ref 33, .int x] (SS Z ext) M (Rt (some (.int (rnm (M 34) x p))) M) := by
  refine Ct.of (by decide) (Nat.le_of_ble_eq_true rfl) ?_
  refine x_iconst (v := 0) dX1_renumbered_0 (by decide) ?_
  refine x_istore_n dX1_renumbered_1 (by decide) ?_
  refine x_iconst (v := 0) dX1_renumbered_2 (by decide) ?_
  refine x_istore_n dX1_renumbered_3 (by decide) ?_
  refine lup (P := fun k => XW _ _ 0 0 (SS Z ext) M 4 [some (.ref 33), some (.int x), some (.int (rnm (M 34) x k)), some (.int (nI k))] []) (N := p) ?_ ?_ 0 (by omega)
  · refine x_iload_n dX1_renumbered_4 rfl ?_
    refine x_aload_n dX1_renumbered_5 rfl ?_
    refine x_geti fl_X1_22 dX1_renumbered_6 sf_33 rfl ?_
    refine x_icmp_ge 33 dX1_renumbered_9 (by decide) (fun _ => ?_) (fun hc_ => absurd (by rw [hp]; exact nI_le (Nat.le_refl _) (by omega)) hc_)
    refine x_iload_n dX1_renumbered_33 rfl ?_
    exact x_iret dX1_renumbered_34 rfl rfl (Nat.le_refl _) (Nat.le_refl _) ⟨rfl, ⟨rfl, rfl⟩⟩
  · intro k hk ih
    rw [nI_succ] at ih
    refine x_iload_n dX1_renumbered_4 rfl ?_
    refine x_aload_n dX1_renumbered_5 rfl ?_
    refine x_geti fl_X1_22 dX1_renumbered_6 sf_33 rfl ?_
    refine x_icmp_ge 33 dX1_renumbered_9 (by decide) (fun hc_ => absurd hc_ (by rw [hp]; exact nI_ge hk (by omega))) (fun _ => ?_)
    refine x_iload_n dX1_renumbered_12 rfl ?_
    refine x_iload_n dX1_renumbered_13 rfl ?_
    refine x_aload_n dX1_renumbered_14 rfl ?_
    refine x_getr fl_X1_11 dX1_renumbered_15 sf_33 rfl ?_
    refine x_iload_n dX1_renumbered_18 rfl ?_
    refine x_iald dX1_renumbered_19 sf_34 rfl (by omega) (by decide) ?_
    refine x_ishr dX1_renumbered_20 ?_
    refine x_iconst (v := 1) dX1_renumbered_21 (by decide) ?_
    refine x_iand dX1_renumbered_22 ?_
    refine x_iload_n dX1_renumbered_23 rfl ?_
    refine x_ishl dX1_renumbered_24 ?_
    refine x_ior dX1_renumbered_25 ?_
    refine x_istore_n dX1_renumbered_26 (by decide) ?_
    refine x_iinc1 dX1_renumbered_27 rfl (by decide) ?_
    refine x_goto 4 dX1_renumbered_30 (by decide) ?_
    exact ih
def aw (nd : Nat → Int32) (x : Int32) (q : Nat) : Bool := decide (nd q &&& (x ^^^ (-1)) = 0)
theorem c_anyWhole {Z : List (Option Nat)} {ext : List Ds} {M : Mm} {n : Nat} (x : Int32) (hn : M 33 3 = nI n) (hb : n ≤ 20) : Ct mX1_anyWhole [.ref 33, .int x] (SS Z ext) M (Rt (some (.int (b2i (decide (fa_first (aw (M 35) x) n < n))))) M) := by
  have hle := fa_first_le (aw (M 35) x) n
  refine Ct.of (by decide) (Nat.le_of_ble_eq_true rfl) ?_
  refine x_iconst (v := 0) dX1_anyWhole_0 (by decide) ?_
  refine x_istore_n dX1_anyWhole_1 (by decide) ?_
  refine lup (P := fun k => XW _ _ 0 0 (SS Z ext) M 2 [some (.ref 33), some (.int x), some (.int (nI k))] []) (N := fa_first (aw (M 35) x) n) ?_ ?_ 0 (by omega)
  · by_cases hlt : fa_first (aw (M 35) x) n < n
    · have hy := fa_first_yes _ _ hlt
      rw [decide_eq_true hlt]
      generalize fa_first (aw (M 35) x) n = f at *
      refine x_iload_n dX1_anyWhole_2 rfl ?_
      refine x_aload_n dX1_anyWhole_3 rfl ?_
      refine x_geti fl_X1_31 dX1_anyWhole_4 sf_33 rfl ?_
      refine x_icmp_ge 31 dX1_anyWhole_7 (by decide) (fun hc_ => absurd hc_ (by rw [hn]; exact nI_ge hlt (by omega))) (fun _ => ?_)
      refine x_aload_n dX1_anyWhole_10 rfl ?_
      refine x_getr fl_X1_15 dX1_anyWhole_11 sf_33 rfl ?_
      refine x_iload_n dX1_anyWhole_14 rfl ?_
      refine x_iald dX1_anyWhole_15 sf_35 rfl (by omega) (by decide) ?_
      refine x_iload_n dX1_anyWhole_16 rfl ?_
      refine x_iconst (v := -1) dX1_anyWhole_17 (by decide) ?_
      refine x_ixor dX1_anyWhole_18 ?_
      refine x_iand dX1_anyWhole_19 ?_
      refine x_if_ne 25 dX1_anyWhole_20 (by decide) (fun hc_ => absurd (of_decide_eq_true hy) hc_) (fun _ => ?_)
      refine x_iconst (v := 1) dX1_anyWhole_23 (by decide) ?_
      exact x_iret dX1_anyWhole_24 rfl rfl (Nat.le_refl _) (Nat.le_refl _) ⟨rfl, ⟨rfl, rfl⟩⟩
    · rw [decide_eq_false hlt]
      generalize fa_first (aw (M 35) x) n = f at *
      refine x_iload_n dX1_anyWhole_2 rfl ?_
      refine x_aload_n dX1_anyWhole_3 rfl ?_
      refine x_geti fl_X1_31 dX1_anyWhole_4 sf_33 rfl ?_
      refine x_icmp_ge 31 dX1_anyWhole_7 (by decide) (fun _ => ?_) (fun hc_ => absurd (by rw [hn]; exact nI_le (by omega) (by omega)) hc_)
      refine x_iconst (v := 0) dX1_anyWhole_31 (by decide) ?_
      exact x_iret dX1_anyWhole_32 rfl rfl (Nat.le_refl _) (Nat.le_refl _) ⟨rfl, ⟨rfl, rfl⟩⟩
  · intro k hk ih
    have hy := fa_first_no _ _ _ hk
    rw [nI_succ] at ih
    refine x_iload_n dX1_anyWhole_2 rfl ?_
    refine x_aload_n dX1_anyWhole_3 rfl ?_
    refine x_geti fl_X1_31 dX1_anyWhole_4 sf_33 rfl ?_
    refine x_icmp_ge 31 dX1_anyWhole_7 (by decide) (fun hc_ => absurd hc_ (by rw [hn]; exact nI_ge (by omega) (by omega))) (fun _ => ?_)
    refine x_aload_n dX1_anyWhole_10 rfl ?_
    refine x_getr fl_X1_15 dX1_anyWhole_11 sf_33 rfl ?_
    refine x_iload_n dX1_anyWhole_14 rfl ?_
    refine x_iald dX1_anyWhole_15 sf_35 rfl (by omega) (by decide) ?_
    refine x_iload_n dX1_anyWhole_16 rfl ?_
    refine x_iconst (v := -1) dX1_anyWhole_17 (by decide) ?_
    refine x_ixor dX1_anyWhole_18 ?_
    refine x_iand dX1_anyWhole_19 ?_
    refine x_if_ne 25 dX1_anyWhole_20 (by decide) (fun _ => ?_) (fun hc_ => absurd hc_ (of_decide_eq_false hy))
    refine x_iinc1 dX1_anyWhole_25 rfl (by decide) ?_
    refine x_goto 2 dX1_anyWhole_28 (by decide) ?_
    exact ih
/-- place k wins at the set j -/
def wk (r : Nat → Int32) (j k : Nat) : Bool := j.testBit k && decide (r (j ^^^ 2 ^ k) = 0)
def fst1 (P : Nat → Bool) (n : Nat) : Int32 := if fa_first P n < n then nI (fa_first P n) else -1
theorem c_winningPlace {Z : List (Option Nat)} {ext : List Ds} {M : Mm} {p j : Nat} (hp : M 33 2 = nI p) (hb : p ≤ 12) (hj : j < 2 ^ p) : Ct mX1_winningPlace [.ref 33, .int (nI j)] (SS Z ext) M (Rt (some (.int (fst1 (wk (M 36) j) p))) M) := by
  have hle := fa_first_le (wk (M 36) j) p
  have hp12 := pow12 hb
  refine Ct.of (by decide) (Nat.le_of_ble_eq_true rfl) ?_
  refine x_iconst (v := 0) dX1_winningPlace_0 (by decide) ?_
  refine x_istore_n dX1_winningPlace_1 (by decide) ?_
  refine (lup (P := fun k => ∀ l3, XW _ _ 0 0 (SS Z ext) M 2 [some (.ref 33), some (.int (nI j)), some (.int (nI k)), l3] []) (N := fa_first (wk (M 36) j) p) ?_ ?_ 0 (by omega)) none
  · intro l3
    by_cases hlt : fa_first (wk (M 36) j) p < p
    · have hy := fa_first_yes _ _ hlt
      rw [fst1, if_pos hlt]
      generalize fa_first (wk (M 36) j) p = f at *
      rw [wk, Bool.and_eq_true] at hy
      have hx := xor_lt hj hlt
      refine x_iload_n dX1_winningPlace_2 rfl ?_
      refine x_aload_n dX1_winningPlace_3 rfl ?_
      refine x_geti fl_X1_22 dX1_winningPlace_4 sf_33 rfl ?_
      refine x_icmp_ge 39 dX1_winningPlace_7 (by decide) (fun hc_ => absurd hc_ (by rw [hp]; exact nI_ge hlt (by omega))) (fun _ => ?_)
      refine x_iconst (v := 1) dX1_winningPlace_10 (by decide) ?_
      refine x_iload_n dX1_winningPlace_11 rfl ?_
      refine x_ishl dX1_winningPlace_12 ?_
      refine x_istore_n dX1_winningPlace_13 (by decide) ?_
      refine x_iload_n dX1_winningPlace_14 rfl ?_
      refine x_iload_n dX1_winningPlace_15 rfl ?_
      refine x_iand dX1_winningPlace_16 ?_
      refine x_if_eq 33 dX1_winningPlace_17 (by decide) (fun hc_ => absurd hc_ (fun q => absurd ((tb_and (by omega)).mp q) (by rw [hy.1]; decide))) (fun _ => ?_)
      refine x_aload_n dX1_winningPlace_20 rfl ?_
      refine x_getr fl_X1_18 dX1_winningPlace_21 sf_33 rfl ?_
      refine x_iload_n dX1_winningPlace_24 rfl ?_
      refine x_iload_n dX1_winningPlace_25 rfl ?_
      refine x_ixor dX1_winningPlace_26 ?_
      rw [tb_xor (by omega)]
      refine x_bald dX1_winningPlace_27 sf_36 rfl (by omega) (by decide) ?_
      refine x_if_ne 33 dX1_winningPlace_28 (by decide) (fun hc_ => absurd (of_decide_eq_true hy.2) hc_) (fun _ => ?_)
      refine x_iload_n dX1_winningPlace_31 rfl ?_
      exact x_iret dX1_winningPlace_32 rfl rfl (Nat.le_refl _) (Nat.le_refl _) ⟨rfl, ⟨rfl, rfl⟩⟩
    · rw [fst1, if_neg hlt]
      generalize fa_first (wk (M 36) j) p = f at *
      refine x_iload_n dX1_winningPlace_2 rfl ?_
      refine x_aload_n dX1_winningPlace_3 rfl ?_
      refine x_geti fl_X1_22 dX1_winningPlace_4 sf_33 rfl ?_
      refine x_icmp_ge 39 dX1_winningPlace_7 (by decide) (fun _ => ?_) (fun hc_ => absurd (by rw [hp]; exact nI_le (by omega) (by omega)) hc_)
      refine x_iconst (v := -1) dX1_winningPlace_39 (by decide) ?_
      exact x_iret dX1_winningPlace_40 rfl rfl (Nat.le_refl _) (Nat.le_refl _) ⟨rfl, ⟨rfl, rfl⟩⟩
  · intro k hk ih l3
    have hy := fa_first_no _ _ _ hk
    have hx := xor_lt hj (show k < p by omega)
    rw [nI_succ] at ih
    rw [wk] at hy
    cases hbit : j.testBit k with
    | false =>
      refine x_iload_n dX1_winningPlace_2 rfl ?_
      refine x_aload_n dX1_winningPlace_3 rfl ?_
      refine x_geti fl_X1_22 dX1_winningPlace_4 sf_33 rfl ?_
      refine x_icmp_ge 39 dX1_winningPlace_7 (by decide) (fun hc_ => absurd hc_ (by rw [hp]; exact nI_ge (by omega) (by omega))) (fun _ => ?_)
      refine x_iconst (v := 1) dX1_winningPlace_10 (by decide) ?_
      refine x_iload_n dX1_winningPlace_11 rfl ?_
      refine x_ishl dX1_winningPlace_12 ?_
      refine x_istore_n dX1_winningPlace_13 (by decide) ?_
      refine x_iload_n dX1_winningPlace_14 rfl ?_
      refine x_iload_n dX1_winningPlace_15 rfl ?_
      refine x_iand dX1_winningPlace_16 ?_
      refine x_if_eq 33 dX1_winningPlace_17 (by decide) (fun _ => ?_) (fun hc_ => absurd ((tb_and (by omega)).mpr hbit) hc_)
      refine x_iinc1 dX1_winningPlace_33 rfl (by decide) ?_
      refine x_goto 2 dX1_winningPlace_36 (by decide) ?_
      exact ih _
    | true =>
      rw [hbit, Bool.true_and] at hy
      refine x_iload_n dX1_winningPlace_2 rfl ?_
      refine x_aload_n dX1_winningPlace_3 rfl ?_
      refine x_geti fl_X1_22 dX1_winningPlace_4 sf_33 rfl ?_
      refine x_icmp_ge 39 dX1_winningPlace_7 (by decide) (fun hc_ => absurd hc_ (by rw [hp]; exact nI_ge (by omega) (by omega))) (fun _ => ?_)
      refine x_iconst (v := 1) dX1_winningPlace_10 (by decide) ?_
      refine x_iload_n dX1_winningPlace_11 rfl ?_
      refine x_ishl dX1_winningPlace_12 ?_
      refine x_istore_n dX1_winningPlace_13 (by decide) ?_
      refine x_iload_n dX1_winningPlace_14 rfl ?_
      refine x_iload_n dX1_winningPlace_15 rfl ?_
      refine x_iand dX1_winningPlace_16 ?_
      refine x_if_eq 33 dX1_winningPlace_17 (by decide) (fun hc_ => absurd hc_ (fun q => absurd ((tb_and (by omega)).mp q) (by rw [hbit]; decide))) (fun _ => ?_)
      refine x_aload_n dX1_winningPlace_20 rfl ?_
      refine x_getr fl_X1_18 dX1_winningPlace_21 sf_33 rfl ?_
      refine x_iload_n dX1_winningPlace_24 rfl ?_
      refine x_iload_n dX1_winningPlace_25 rfl ?_
      refine x_ixor dX1_winningPlace_26 ?_
      rw [tb_xor (by omega)]
      refine x_bald dX1_winningPlace_27 sf_36 rfl (by omega) (by decide) ?_
      refine x_if_ne 33 dX1_winningPlace_28 (by decide) (fun _ => ?_) (fun hc_ => absurd hc_ (of_decide_eq_false hy))
      refine x_iinc1 dX1_winningPlace_33 rfl (by decide) ?_
      refine x_goto 2 dX1_winningPlace_36 (by decide) ?_
      exact ih _
def clo (nd : Nat → Int32) (x : Int32) (n : Nat) : Int32 := fld (fun q a => if decide ((nd q &&& x) &&& ((nd q &&& x) - 1) = 0) then a ||| (nd q &&& x) else a) n 0
theorem clo_s (nd : Nat → Int32) (x : Int32) (k : Nat) : clo nd x (k + 1) = if decide ((nd k &&& x) &&& ((nd k &&& x) - 1) = 0) then clo nd x k ||| (nd k &&& x) else clo nd x k := rfl
theorem c_closingPlaces {Z : List (Option Nat)} {ext : List Ds} {M : Mm} {n : Nat} (x : Int32) (hn : M 33 3 = nI n) (hb : n ≤ 20) : Ct mX1_closingPlaces [.ref 33, .int x] (SS Z ext) M (Rt (some (.int (clo (M 35) x n))) M) := by
  refine Ct.of (by decide) (Nat.le_of_ble_eq_true rfl) ?_
  refine x_iconst (v := 0) dX1_closingPlaces_0 (by decide) ?_
  refine x_istore_n dX1_closingPlaces_1 (by decide) ?_
  refine x_iconst (v := 0) dX1_closingPlaces_2 (by decide) ?_
  refine x_istore_n dX1_closingPlaces_3 (by decide) ?_
  refine (lup (P := fun k => ∀ l4, XW _ _ 0 0 (SS Z ext) M 4 [some (.ref 33), some (.int x), some (.int (clo (M 35) x k)), some (.int (nI k)), l4] []) (N := n) ?_ ?_ 0 (by omega)) none
  · intro l4
    refine x_iload_n dX1_closingPlaces_4 rfl ?_
    refine x_aload_n dX1_closingPlaces_5 rfl ?_
    refine x_geti fl_X1_31 dX1_closingPlaces_6 sf_33 rfl ?_
    refine x_icmp_ge 43 dX1_closingPlaces_9 (by decide) (fun _ => ?_) (fun hc_ => absurd (by rw [hn]; exact nI_le (Nat.le_refl _) (by omega)) hc_)
    refine x_iload_n dX1_closingPlaces_43 rfl ?_
    exact x_iret dX1_closingPlaces_44 rfl rfl (Nat.le_refl _) (Nat.le_refl _) ⟨rfl, ⟨rfl, rfl⟩⟩
  · intro k hk ih l4
    rw [nI_succ, clo_s _ _ k] at ih
    refine x_iload_n dX1_closingPlaces_4 rfl ?_
    refine x_aload_n dX1_closingPlaces_5 rfl ?_
    refine x_geti fl_X1_31 dX1_closingPlaces_6 sf_33 rfl ?_
    refine x_icmp_ge 43 dX1_closingPlaces_9 (by decide) (fun hc_ => absurd hc_ (by rw [hn]; exact nI_ge hk (by omega))) (fun _ => ?_)
    refine x_aload_n dX1_closingPlaces_12 rfl ?_
    refine x_getr fl_X1_15 dX1_closingPlaces_13 sf_33 rfl ?_
    refine x_iload_n dX1_closingPlaces_16 rfl ?_
    refine x_iald dX1_closingPlaces_17 sf_35 rfl (by omega) (by decide) ?_
    refine x_iload_n dX1_closingPlaces_18 rfl ?_
    refine x_iand dX1_closingPlaces_19 ?_
    refine x_istore dX1_closingPlaces_20 (by decide) ?_
    refine x_iload dX1_closingPlaces_22 rfl ?_
    refine x_iload dX1_closingPlaces_24 rfl ?_
    refine x_iconst (v := 1) dX1_closingPlaces_26 (by decide) ?_
    refine x_isub dX1_closingPlaces_27 ?_
    refine x_iand dX1_closingPlaces_28 ?_
    refine x_if_ne 37 dX1_closingPlaces_29 (by decide) (fun h29 => ?_) (fun h29 => ?_)
    · refine x_iinc1 dX1_closingPlaces_37 rfl (by decide) ?_
      refine x_goto 4 dX1_closingPlaces_40 (by decide) ?_
      first | (rw [decide_eq_true h29] at ih; exact ih _) | (rw [decide_eq_false h29] at ih; exact ih _)
    · refine x_iload_n dX1_closingPlaces_32 rfl ?_
      refine x_iload dX1_closingPlaces_33 rfl ?_
      refine x_ior dX1_closingPlaces_35 ?_
      refine x_istore_n dX1_closingPlaces_36 (by decide) ?_
      refine x_iinc1 dX1_closingPlaces_37 rfl (by decide) ?_
      refine x_goto 4 dX1_closingPlaces_40 (by decide) ?_
      first | (rw [decide_eq_true h29] at ih; exact ih _) | (rw [decide_eq_false h29] at ih; exact ih _)
def mdb (nd : Nat → Int32) (x b : Int32) (n : Nat) : Int32 := fld (fun q a => if decide (nd q &&& x = b) then a + 1 else a) n 0
theorem mdb_s (nd : Nat → Int32) (x b : Int32) (k : Nat) : mdb nd x b (k + 1) = if decide (nd k &&& x = b) then mdb nd x b k + 1 else mdb nd x b k := rfl
theorem c_madeBy {Z : List (Option Nat)} {ext : List Ds} {M : Mm} {n : Nat} (x b : Int32) (hn : M 33 3 = nI n) (hb : n ≤ 20) : Ct mX1_madeBy [.ref 33, .int x, .int b] (SS Z ext) M (Rt (some (.int (mdb (M 35) x b n))) M) := by
  refine Ct.of (by decide) (Nat.le_of_ble_eq_true rfl) ?_
  refine x_iconst (v := 0) dX1_madeBy_0 (by decide) ?_
  refine x_istore_n dX1_madeBy_1 (by decide) ?_
  refine x_iconst (v := 0) dX1_madeBy_2 (by decide) ?_
  refine x_istore dX1_madeBy_3 (by decide) ?_
  refine lup (P := fun k => XW _ _ 0 0 (SS Z ext) M 5 [some (.ref 33), some (.int x), some (.int b), some (.int (mdb (M 35) x b k)), some (.int (nI k))] []) (N := n) ?_ ?_ 0 (by omega)
  · refine x_iload dX1_madeBy_5 rfl ?_
    refine x_aload_n dX1_madeBy_7 rfl ?_
    refine x_geti fl_X1_31 dX1_madeBy_8 sf_33 rfl ?_
    refine x_icmp_ge 36 dX1_madeBy_11 (by decide) (fun _ => ?_) (fun hc_ => absurd (by rw [hn]; exact nI_le (Nat.le_refl _) (by omega)) hc_)
    refine x_iload_n dX1_madeBy_36 rfl ?_
    exact x_iret dX1_madeBy_37 rfl rfl (Nat.le_refl _) (Nat.le_refl _) ⟨rfl, ⟨rfl, rfl⟩⟩
  · intro k hk ih
    rw [nI_succ, mdb_s _ _ _ k] at ih
    refine x_iload dX1_madeBy_5 rfl ?_
    refine x_aload_n dX1_madeBy_7 rfl ?_
    refine x_geti fl_X1_31 dX1_madeBy_8 sf_33 rfl ?_
    refine x_icmp_ge 36 dX1_madeBy_11 (by decide) (fun hc_ => absurd hc_ (by rw [hn]; exact nI_ge hk (by omega))) (fun _ => ?_)
    refine x_aload_n dX1_madeBy_14 rfl ?_
    refine x_getr fl_X1_15 dX1_madeBy_15 sf_33 rfl ?_
    refine x_iload dX1_madeBy_18 rfl ?_
    refine x_iald dX1_madeBy_20 sf_35 rfl (by omega) (by decide) ?_
    refine x_iload_n dX1_madeBy_21 rfl ?_
    refine x_iand dX1_madeBy_22 ?_
    refine x_iload_n dX1_madeBy_23 rfl ?_
    refine x_icmp_ne 30 dX1_madeBy_24 (by decide) (fun h24 => ?_) (fun h24 => ?_)
    · refine x_iinc1 dX1_madeBy_30 rfl (by decide) ?_
      refine x_goto 5 dX1_madeBy_33 (by decide) ?_
      first | (rw [decide_eq_true h24] at ih; exact ih) | (rw [decide_eq_false h24] at ih; exact ih)
    · refine x_iinc1 dX1_madeBy_27 rfl (by decide) ?_
      refine x_iinc1 dX1_madeBy_30 rfl (by decide) ?_
      refine x_goto 5 dX1_madeBy_33 (by decide) ?_
      first | (rw [decide_eq_true h24] at ih; exact ih) | (rw [decide_eq_false h24] at ih; exact ih)
