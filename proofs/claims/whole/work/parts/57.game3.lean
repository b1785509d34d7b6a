/-! ===== the class: Game, playTaking, findBest, playLaying ===== -/
def wkW (W : Nat → Bool) (j k : Nat) : Bool := j.testBit k && !W (j ^^^ 2 ^ k)
def okC (nd : Nat → Int32) (n p : Nat) (W : Nat → Bool) : Prop := ∀ j, j < 2 ^ p → W j = (decide (fa_first (aw nd (nI j)) n < n) && decide (fa_first (wkW W j) p < p))
theorem wk_W {r : Nat → Int32} {W : Nat → Bool} {j : Nat} (h : ∀ i, i < j → r i = b2i (W i)) (k : Nat) : wk r j k = wkW W j k := by
  unfold wk wkW
  cases hb : j.testBit k with
  | false => rfl
  | true =>
    rw [h _ (xor_sm hb)]
    cases W (j ^^^ 2 ^ k) <;> rfl
theorem fst1_neg {P : Nat → Bool} {n : Nat} (hn : n < 2 ^ 31) : fst1 P n < 0 ↔ ¬ fa_first P n < n := by
  unfold fst1
  by_cases h : fa_first P n < n
  · rw [if_pos h]
    exact ⟨fun q => absurd q (nI_pos (by omega)), fun q => absurd h q⟩
  · rw [if_neg h]
    exact ⟨fun _ => h, fun _ => by decide⟩
def pTk (W : Nat → Bool) (so : Nat → Int32) (p : Nat) : Int32 := if fa_first (wkW W (2 ^ p - 1)) p < p then so (fa_first (wkW W (2 ^ p - 1)) p) else -4
theorem nI_p1 {p : Nat} (hp : p ≤ 30) : ((1 : Int32) <<< (nI p &&& 31)) - 1 = nI (2 ^ p - 1) := by
  have h1 : 0 < 2 ^ p := Nat.pow_pos (by decide)
  rw [tb_sh (by omega)]
  obtain ⟨q, hq⟩ : ∃ q, 2 ^ p = q + 1 := ⟨2 ^ p - 1, by omega⟩
  rw [hq, nI_pred]; rfl
theorem pt_loop {Z : List (Option Nat)} {ext : List Ds} {M : Mm} {n p : Nat} {sqs g b w : Int32} {so nd : Nat → Int32} {W : Nat → Bool} (hp : p ≤ 12) (hn : n ≤ 20) (hW : okC nd n p W) :
    ∀ k, k ≤ 2 ^ p → ∀ r36 : Nat → Int32, (∀ i, i < k → r36 i = b2i (W i)) → XW mX1_playTaking (Fc mX1_playTaking (fun r S' M' => S' = SS Z ext ∧ r = none ∧ M' 33 0 = pTk W so p ∧ Eqm M M')) 0 0 (SS Z ext) (gmM M b w (nI p) (nI n) so nd r36) 20 [some (.ref 33), some (.ref 1), some (.int sqs), some (.int g), some (.int (nI (2 ^ p - 1))), some (.int (nI k))] [] := by
  have hp12 := pow12 hp
  have hp1 : 0 < 2 ^ p := Nat.pow_pos (by decide)
  refine lup (P := fun k => ∀ r36 : Nat → Int32, (∀ i, i < k → r36 i = b2i (W i)) → XW mX1_playTaking (Fc mX1_playTaking (fun r S' M' => S' = SS Z ext ∧ r = none ∧ M' 33 0 = pTk W so p ∧ Eqm M M')) 0 0 (SS Z ext) (gmM M b w (nI p) (nI n) so nd r36) 20 [some (.ref 33), some (.ref 1), some (.int sqs), some (.int g), some (.int (nI (2 ^ p - 1))), some (.int (nI k))] []) ?_ ?_
  · intro r36 hr
    have hc := c_winningPlace (Z := Z) (ext := ext) (M := gmM M b w (nI p) (nI n) so nd r36) (p := p) (j := 2 ^ p - 1) rfl hp (by omega)
    have hf : fa_first (wk r36 (2 ^ p - 1)) p = fa_first (wkW W (2 ^ p - 1)) p := first_congr (fun k _ => wk_W (fun i hi => hr i (by omega)) k)
    rw [show (gmM M b w (nI p) (nI n) so nd r36) 36 = r36 from rfl] at hc
    have hneg := fst1_neg (P := wk r36 (2 ^ p - 1)) (n := p) (by omega)
    rw [hf] at hneg
    by_cases hlt : fa_first (wkW W (2 ^ p - 1)) p < p
    · rw [show fst1 (wk r36 (2 ^ p - 1)) p = nI (fa_first (wkW W (2 ^ p - 1)) p) by rw [fst1, hf, if_pos hlt]] at hc hneg
      refine x_iload dX1_playTaking_20 rfl ?_
      refine x_iload dX1_playTaking_22 rfl ?_
      refine x_icmp_gt 67 dX1_playTaking_24 (by decide) (fun _ => ?_) (fun hc_ => absurd (nI_lt (by omega) (by omega)) hc_)
      refine x_aload_n dX1_playTaking_67 rfl ?_
      refine x_iload dX1_playTaking_68 rfl ?_
      refine x_cvd mf_X1_winningPlace ml_X1_50 dX1_playTaking_70 rfl sf_33 rfl ⟨by decide, by decide⟩ (Nat.le_of_ble_eq_true rfl) ⟨rfl, rfl⟩ ⟨Nat.le_of_ble_eq_true rfl, Nat.le_of_ble_eq_true rfl⟩ (hc) ?_
      refine x_istore dX1_playTaking_73 (by decide) ?_
      refine x_aload_n dX1_playTaking_75 rfl ?_
      refine x_iload dX1_playTaking_76 rfl ?_
      refine x_if_ge 86 dX1_playTaking_78 (by decide) (fun _ => ?_) (fun hc_ => absurd (nI_pos' (by omega)) hc_)
      refine x_aload_n dX1_playTaking_86 rfl ?_
      refine x_getr fl_X1_11 dX1_playTaking_87 sf_33 rfl ?_
      refine x_iload dX1_playTaking_90 rfl ?_
      refine x_iald dX1_playTaking_92 sf_34 rfl (by omega) (by decide) ?_
      refine x_put fl_X1_53 dX1_playTaking_93 sf_33 rfl rfl rfl ?_
      exact x_ret dX1_playTaking_96 rfl (Nat.le_refl _) (Nat.le_refl _) ⟨rfl, ⟨rfl, (if_pos hlt).symm, gm_eqm.u2 (by decide)⟩⟩
    · rw [show fst1 (wk r36 (2 ^ p - 1)) p = -1 by rw [fst1, hf, if_neg hlt]] at hc hneg
      refine x_iload dX1_playTaking_20 rfl ?_
      refine x_iload dX1_playTaking_22 rfl ?_
      refine x_icmp_gt 67 dX1_playTaking_24 (by decide) (fun _ => ?_) (fun hc_ => absurd (nI_lt (by omega) (by omega)) hc_)
      refine x_aload_n dX1_playTaking_67 rfl ?_
      refine x_iload dX1_playTaking_68 rfl ?_
      refine x_cvd mf_X1_winningPlace ml_X1_50 dX1_playTaking_70 rfl sf_33 rfl ⟨by decide, by decide⟩ (Nat.le_of_ble_eq_true rfl) ⟨rfl, rfl⟩ ⟨Nat.le_of_ble_eq_true rfl, Nat.le_of_ble_eq_true rfl⟩ (hc) ?_
      refine x_istore dX1_playTaking_73 (by decide) ?_
      refine x_aload_n dX1_playTaking_75 rfl ?_
      refine x_iload dX1_playTaking_76 rfl ?_
      refine x_if_ge 86 dX1_playTaking_78 (by decide) (fun hc_ => absurd hc_ (by decide)) (fun _ => ?_)
      refine x_bipush (v := -4) dX1_playTaking_81 (by decide) ?_
      refine x_goto 93 dX1_playTaking_83 (by decide) ?_
      refine x_put fl_X1_53 dX1_playTaking_93 sf_33 rfl rfl rfl ?_
      exact x_ret dX1_playTaking_96 rfl (Nat.le_refl _) (Nat.le_refl _) ⟨rfl, ⟨rfl, (if_neg hlt).symm, gm_eqm.u2 (by decide)⟩⟩
  · intro k hk ih r36 hr
    have hWk := hW k hk
    have hr0 : ∀ i, i < k → upd r36 k 0 i = b2i (W i) := fun i hi => by rw [pk_un (by omega)]; exact hr i hi
    have hf : fa_first (wk (upd r36 k 0) k) p = fa_first (wkW W k) p := first_congr (fun i _ => wk_W hr0 i)
    have hneg := fst1_neg (P := wk (upd r36 k 0) k) (n := p) (by omega)
    rw [hf] at hneg
    have ca := c_anyWhole (Z := Z) (ext := ext) (M := gmM M b w (nI p) (nI n) so nd (upd r36 k 0)) (nI k) (n := n) rfl hn
    have cw := c_winningPlace (Z := Z) (ext := ext) (M := gmM M b w (nI p) (nI n) so nd (upd r36 k 0)) (p := p) (j := k) rfl hp hk
    rw [show (gmM M b w (nI p) (nI n) so nd (upd r36 k 0)) 35 = nd from rfl] at ca
    rw [show (gmM M b w (nI p) (nI n) so nd (upd r36 k 0)) 36 = upd r36 k 0 from rfl] at cw
    have ih1 : W k = true → _ := fun h => ih (upd (upd r36 k 0) k 1) (by
      intro i hi
      by_cases e : i = k
      · subst e; rw [pk_us, h]; rfl
      · rw [pk_un e]; exact hr0 i (by omega))
    have ih0 : W k = false → _ := fun h => ih (upd r36 k 0) (by
      intro i hi
      by_cases e : i = k
      · subst e; rw [pk_us, h]; rfl
      · exact hr0 i (by omega))
    rw [nI_succ] at ih1 ih0
    refine x_iload dX1_playTaking_20 rfl ?_
    refine x_iload dX1_playTaking_22 rfl ?_
    refine x_icmp_gt 67 dX1_playTaking_24 (by decide) (fun hc_ => absurd hc_ (nI_nlt (by omega) (by omega))) (fun _ => ?_)
    refine x_aload_n dX1_playTaking_27 rfl ?_
    refine x_getr fl_X1_18 dX1_playTaking_28 sf_33 rfl ?_
    refine x_iload dX1_playTaking_31 rfl ?_
    refine x_iconst (v := 0) dX1_playTaking_33 (by decide) ?_
    refine x_bast dX1_playTaking_34 sf_36 rfl (by omega) (by decide) ?_
    rw [gm_36]
    refine x_aload_n dX1_playTaking_35 rfl ?_
    refine x_iload dX1_playTaking_36 rfl ?_
    refine x_cvd mf_X1_anyWhole ml_X1_46 dX1_playTaking_38 rfl sf_33 rfl ⟨by decide, by decide⟩ (Nat.le_of_ble_eq_true rfl) ⟨rfl, rfl⟩ ⟨Nat.le_of_ble_eq_true rfl, Nat.le_of_ble_eq_true rfl⟩ (ca) ?_
    refine x_ifb_eq 61 dX1_playTaking_41 (by decide) (fun h41 => ?_) (fun h41 => ?_)
    · refine x_iinc1 dX1_playTaking_61 rfl (by decide) ?_
      refine x_goto 20 dX1_playTaking_64 (by decide) ?_
      first | (exact ih0 (by rw [hWk, h41]; rfl)) | (exact ih0 (by rw [hWk, decide_eq_false (hneg.mp h50), Bool.and_false])) | (rw [gm_36]; exact ih1 (by rw [hWk, h41, decide_eq_true (show fa_first (wkW W k) p < p from Decidable.not_not.mp (fun q => h50 (hneg.mpr q)))]; rfl))
    · refine x_aload_n dX1_playTaking_44 rfl ?_
      refine x_iload dX1_playTaking_45 rfl ?_
      refine x_cvd mf_X1_winningPlace ml_X1_50 dX1_playTaking_47 rfl sf_33 rfl ⟨by decide, by decide⟩ (Nat.le_of_ble_eq_true rfl) ⟨rfl, rfl⟩ ⟨Nat.le_of_ble_eq_true rfl, Nat.le_of_ble_eq_true rfl⟩ (cw) ?_
      refine x_if_lt 61 dX1_playTaking_50 (by decide) (fun h50 => ?_) (fun h50 => ?_)
      · refine x_iinc1 dX1_playTaking_61 rfl (by decide) ?_
        refine x_goto 20 dX1_playTaking_64 (by decide) ?_
        first | (exact ih0 (by rw [hWk, h41]; rfl)) | (exact ih0 (by rw [hWk, decide_eq_false (hneg.mp h50), Bool.and_false])) | (rw [gm_36]; exact ih1 (by rw [hWk, h41, decide_eq_true (show fa_first (wkW W k) p < p from Decidable.not_not.mp (fun q => h50 (hneg.mpr q)))]; rfl))
      · refine x_aload_n dX1_playTaking_53 rfl ?_
        refine x_getr fl_X1_18 dX1_playTaking_54 sf_33 rfl ?_
        refine x_iload dX1_playTaking_57 rfl ?_
        refine x_iconst (v := 1) dX1_playTaking_59 (by decide) ?_
        refine x_bast dX1_playTaking_60 sf_36 rfl (by omega) (by decide) ?_
        refine x_iinc1 dX1_playTaking_61 rfl (by decide) ?_
        refine x_goto 20 dX1_playTaking_64 (by decide) ?_
        first | (exact ih0 (by rw [hWk, h41]; rfl)) | (exact ih0 (by rw [hWk, decide_eq_false (hneg.mp h50), Bool.and_false])) | (rw [gm_36]; exact ih1 (by rw [hWk, h41, decide_eq_true (show fa_first (wkW W k) p < p from Decidable.not_not.mp (fun q => h50 (hneg.mpr q)))]; rfl))
theorem c_playTaking {Z : List (Option Nat)} {ext : List Ds} {M : Mm} {sq mt : Nat} {W : Nat → Bool} (sqs g : Int32) (hm : M 1 2 = nI mt) (hmb : mt ≤ 31) (hq : M 1 3 = nI sq) (hb : sq ≤ 20) (hp : fsC g mt ≤ 12) (hW : okC (suM M g sqs sq mt 35) (ndL sqs (fun q => rnm (fsR g (M 34) mt) (M 5 q) (fsC g mt)) sq).length (fsC g mt) W) : Ct mX1_playTaking [.ref 33, .ref 1, .int sqs, .int g] (SS Z ext) M (fun r M' => r = none ∧ M' 33 0 = pTk W (fsR g (M 34) mt) (fsC g mt) ∧ Eqm M M') := by
  have hn := ndL_len sqs (fun q => rnm (fsR g (M 34) mt) (M 5 q) (fsC g mt)) sq
  have fin := pt_loop (Z := Z) (ext := ext) (M := M) (sqs := sqs) (g := g) (b := M 33 0) (w := M 33 1) (so := fsR g (M 34) mt) (W := W) hp (by omega) hW 0 (Nat.zero_le _) (M 36) (fun i hi => absurd hi (by omega))
  refine Ct.of (by decide) (Nat.le_of_ble_eq_true rfl) ?_
  refine x_aload_n dX1_playTaking_0 rfl ?_
  refine x_aload_n dX1_playTaking_1 rfl ?_
  refine x_iload_n dX1_playTaking_2 rfl ?_
  refine x_iload_n dX1_playTaking_3 rfl ?_
  refine x_cvd mf_X1_setUp ml_X1_42 dX1_playTaking_4 rfl sf_33 rfl ⟨by decide, by decide⟩ (Nat.le_of_ble_eq_true rfl) ⟨rfl, rfl⟩ ⟨Nat.le_of_ble_eq_true rfl, Nat.le_of_ble_eq_true rfl⟩ (c_setUp sqs g hm hmb hq hb hp) ?_
  refine x_iconst (v := 1) dX1_playTaking_7 (by decide) ?_
  refine x_aload_n dX1_playTaking_8 rfl ?_
  refine x_geti fl_X1_22 dX1_playTaking_9 sf_33 rfl ?_
  refine x_ishl dX1_playTaking_12 ?_
  refine x_iconst (v := 1) dX1_playTaking_13 (by decide) ?_
  refine x_isub dX1_playTaking_14 ?_
  rw [show suM M g sqs sq mt 33 2 = nI (fsC g mt) from rfl, nI_p1 (by omega)]
  refine x_istore dX1_playTaking_15 (by decide) ?_
  refine x_iconst (v := 0) dX1_playTaking_17 (by decide) ?_
  refine x_istore dX1_playTaking_18 (by decide) ?_
  exact fin
