/-! ===== the class: Game, findBest, playLaying ===== -/
/-- the worth of laying at place k of the set j -/
def fbv (r nd : Nat → Int32) (n : Nat) (e : Bool) (j k : Nat) : Int32 := if decide (clo nd (nI j) n &&& b1 k = 0) then -(r (j ^^^ 2 ^ k)) else if e then mdb nd (nI j) (b1 k) n - -(r (j ^^^ 2 ^ k)) else 1
def fbF (r nd : Nat → Int32) (n : Nat) (e : Bool) (j : Nat) : Nat → Nat × Int32
  | 0 => (0, -21)
  | k + 1 => if j.testBit k && !decide (fbv r nd n e j k ≤ (fbF r nd n e j k).2) then (k, fbv r nd n e j k) else fbF r nd n e j k
theorem fbF_s (r nd : Nat → Int32) (n : Nat) (e : Bool) (j k : Nat) : fbF r nd n e j (k + 1) = if j.testBit k && !decide (fbv r nd n e j k ≤ (fbF r nd n e j k).2) then (k, fbv r nd n e j k) else fbF r nd n e j k := rfl
theorem fbF_lt (r nd : Nat → Int32) (n : Nat) (e : Bool) (j : Nat) : ∀ k, 0 < k → (fbF r nd n e j k).1 < k
  | 0, h => absurd h (by omega)
  | k + 1, _ => by
    rw [fbF_s]
    split
    · show k < k + 1; omega
    · rcases Nat.eq_zero_or_pos k with h | h
      · subst h; exact Nat.zero_lt_one
      · have := fbF_lt r nd n e j k h; omega
theorem fbF_congr {r r' nd : Nat → Int32} {n : Nat} {e : Bool} {j : Nat} (h : ∀ i, i < j → r i = r' i) : ∀ k, fbF r nd n e j k = fbF r' nd n e j k
  | 0 => rfl
  | k + 1 => by
    rw [fbF_s, fbF_s, fbF_congr h k]
    cases hb : j.testBit k with
    | false => rfl
    | true =>
      have : fbv r nd n e j k = fbv r' nd n e j k := by unfold fbv; rw [h _ (xor_sm hb)]
      rw [this]
theorem c_findBest {Z : List (Option Nat)} {ext : List Ds} {M : Mm} {n p j : Nat} {b w : Int32} {so nd r36 : Nat → Int32} (e : Bool) (hp : p ≤ 12) (hn : n ≤ 20) (hj : j < 2 ^ p) : Ct mX1_findBest [.ref 33, .int (nI j), .int (b2i e)] (SS Z ext) (gmM M b w (nI p) (nI n) so nd r36) (Rt none (gmM M (nI (fbF r36 nd n e j p).1) (fbF r36 nd n e j p).2 (nI p) (nI n) so nd r36)) := by
  have hp12 := pow12 hp
  have c0 := c_closingPlaces (Z := Z) (ext := ext) (M := gmM M b w (nI p) (nI n) so nd r36) (nI j) (n := n) rfl hn
  rw [show (gmM M b w (nI p) (nI n) so nd r36) 35 = nd from rfl] at c0
  refine Ct.of (by decide) (Nat.le_of_ble_eq_true rfl) ?_
  refine x_aload_n dX1_findBest_0 rfl ?_
  refine x_iload_n dX1_findBest_1 rfl ?_
  refine x_cvd mf_X1_closingPlaces ml_X1_63 dX1_findBest_2 rfl sf_33 rfl ⟨by decide, by decide⟩ (Nat.le_of_ble_eq_true rfl) ⟨rfl, rfl⟩ ⟨Nat.le_of_ble_eq_true rfl, Nat.le_of_ble_eq_true rfl⟩ (c0) ?_
  refine x_istore_n dX1_findBest_5 (by decide) ?_
  refine x_aload_n dX1_findBest_6 rfl ?_
  refine x_iconst (v := 0) dX1_findBest_7 (by decide) ?_
  refine x_put fl_X1_53 dX1_findBest_8 sf_33 rfl rfl rfl ?_
  refine x_aload_n dX1_findBest_11 rfl ?_
  refine x_bipush (v := -21) dX1_findBest_12 (by decide) ?_
  refine x_put fl_X1_60 dX1_findBest_14 sf_33 rfl rfl rfl ?_
  refine x_iconst (v := 0) dX1_findBest_17 (by decide) ?_
  refine x_istore dX1_findBest_18 (by decide) ?_
  rw [gm_0, gm_1]
  refine (lup (P := fun k => ∀ l5 l6, XW _ _ 0 0 (SS Z ext) (gmM M (nI (fbF r36 nd n e j k).1) (fbF r36 nd n e j k).2 (nI p) (nI n) so nd r36) 20 [some (.ref 33), some (.int (nI j)), some (.int (b2i e)), some (.int (clo nd (nI j) n)), some (.int (nI k)), l5, l6] []) (N := p) ?_ ?_ 0 (by omega)) none none
  · intro l5 l6
    refine x_iload dX1_findBest_20 rfl ?_
    refine x_aload_n dX1_findBest_22 rfl ?_
    refine x_geti fl_X1_22 dX1_findBest_23 sf_33 rfl ?_
    refine x_icmp_ge 108 dX1_findBest_26 (by decide) (fun _ => ?_) (fun hc_ => absurd (nI_le (Nat.le_refl _) (by omega)) hc_)
    exact x_ret dX1_findBest_108 rfl (Nat.le_refl _) (Nat.le_refl _) ⟨rfl, ⟨rfl, rfl⟩⟩
  · intro k hk ih l5 l6
    rw [nI_succ k, fbF_s _ _ _ _ _ k] at ih
    generalize fbF r36 nd n e j k = bb at ih ⊢
    have hx := xor_lt hj hk
    cases hbit : j.testBit k with
    | false =>
      rw [hbit, Bool.false_and, if_neg (by decide)] at ih
      refine x_iload dX1_findBest_20 rfl ?_
      refine x_aload_n dX1_findBest_22 rfl ?_
      refine x_geti fl_X1_22 dX1_findBest_23 sf_33 rfl ?_
      refine x_icmp_ge 108 dX1_findBest_26 (by decide) (fun hc_ => absurd hc_ (nI_ge hk (by omega))) (fun _ => ?_)
      refine x_iconst (v := 1) dX1_findBest_29 (by decide) ?_
      refine x_iload dX1_findBest_30 rfl ?_
      refine x_ishl dX1_findBest_32 ?_
      refine x_istore dX1_findBest_33 (by decide) ?_
      refine x_iload_n dX1_findBest_35 rfl ?_
      refine x_iload dX1_findBest_36 rfl ?_
      refine x_iand dX1_findBest_38 ?_
      refine x_if_eq 102 dX1_findBest_39 (by decide) (fun _ => ?_) (fun hc_ => absurd ((tb_and (by omega)).mpr hbit) hc_)
      refine x_iinc1 dX1_findBest_102 rfl (by decide) ?_
      refine x_goto 20 dX1_findBest_105 (by decide) ?_
      exact ih _ _
    | true =>
      rw [hbit, Bool.true_and] at ih
      have cm := c_madeBy (Z := Z) (ext := ext) (M := gmM M (nI bb.1) bb.2 (nI p) (nI n) so nd r36) (nI j) (b1 k) (n := n) rfl hn
      rw [show (gmM M (nI bb.1) bb.2 (nI p) (nI n) so nd r36) 35 = nd from rfl] at cm
      refine x_join (gmM M (nI bb.1) bb.2 (nI p) (nI n) so nd r36) 81 [some (.ref 33), some (.int (nI j)), some (.int (b2i e)), some (.int (clo nd (nI j) n)), some (.int (nI k)), some (.int (b1 k)), some (.int (fbv r36 nd n e j k))] [] ?_ (fun fin => ?_)
      · skip
        refine x_iload dX1_findBest_81 rfl ?_
        refine x_aload_n dX1_findBest_83 rfl ?_
        refine x_geti fl_X1_60 dX1_findBest_84 sf_33 rfl ?_
        refine x_icmp_le 102 dX1_findBest_87 (by decide) (fun h87 => ?_) (fun h87 => ?_)
        · refine x_iinc1 dX1_findBest_102 rfl (by decide) ?_
          refine x_goto 20 dX1_findBest_105 (by decide) ?_
          first | (rw [if_neg (by rw [decide_eq_true (show fbv r36 nd n e j k ≤ bb.2 from h87)]; decide)] at ih; exact ih _ _) | (rw [if_pos (by rw [decide_eq_false (show ¬ fbv r36 nd n e j k ≤ bb.2 from h87)]; rfl)] at ih; rw [gm_1, gm_0]; exact ih _ _)
        · refine x_aload_n dX1_findBest_90 rfl ?_
          refine x_iload dX1_findBest_91 rfl ?_
          refine x_put fl_X1_60 dX1_findBest_93 sf_33 rfl rfl rfl ?_
          refine x_aload_n dX1_findBest_96 rfl ?_
          refine x_iload dX1_findBest_97 rfl ?_
          refine x_put fl_X1_53 dX1_findBest_99 sf_33 rfl rfl rfl ?_
          refine x_iinc1 dX1_findBest_102 rfl (by decide) ?_
          refine x_goto 20 dX1_findBest_105 (by decide) ?_
          first | (rw [if_neg (by rw [decide_eq_true (show fbv r36 nd n e j k ≤ bb.2 from h87)]; decide)] at ih; exact ih _ _) | (rw [if_pos (by rw [decide_eq_false (show ¬ fbv r36 nd n e j k ≤ bb.2 from h87)]; rfl)] at ih; rw [gm_1, gm_0]; exact ih _ _)
      · have hnb : ¬ nI j &&& ((1 : Int32) <<< (nI k &&& 31)) = 0 := fun q => absurd ((tb_and (by omega)).mp q) (by rw [hbit]; decide)
        rw [fbv] at fin
        cases e with
        | true =>
          refine x_iload dX1_findBest_20 rfl ?_
          refine x_aload_n dX1_findBest_22 rfl ?_
          refine x_geti fl_X1_22 dX1_findBest_23 sf_33 rfl ?_
          refine x_icmp_ge 108 dX1_findBest_26 (by decide) (fun hc_ => absurd hc_ (nI_ge hk (by omega))) (fun _ => ?_)
          refine x_iconst (v := 1) dX1_findBest_29 (by decide) ?_
          refine x_iload dX1_findBest_30 rfl ?_
          refine x_ishl dX1_findBest_32 ?_
          refine x_istore dX1_findBest_33 (by decide) ?_
          refine x_iload_n dX1_findBest_35 rfl ?_
          refine x_iload dX1_findBest_36 rfl ?_
          refine x_iand dX1_findBest_38 ?_
          refine x_if_eq 102 dX1_findBest_39 (by decide) (fun hc_ => absurd hc_ (hnb)) (fun _ => ?_)
          refine x_aload_n dX1_findBest_42 rfl ?_
          refine x_getr fl_X1_18 dX1_findBest_43 sf_33 rfl ?_
          refine x_iload_n dX1_findBest_46 rfl ?_
          refine x_iload dX1_findBest_47 rfl ?_
          refine x_ixor dX1_findBest_49 ?_
          rw [tb_xor (by omega)]
          refine x_bald dX1_findBest_50 sf_36 rfl (by omega) (by decide) ?_
          refine x_ineg dX1_findBest_51 ?_
          refine x_istore dX1_findBest_52 (by decide) ?_
          refine x_iload_n dX1_findBest_54 rfl ?_
          refine x_iload dX1_findBest_55 rfl ?_
          refine x_iand dX1_findBest_57 ?_
          refine x_if_eq 81 dX1_findBest_58 (by decide) (fun h58 => ?_) (fun h58 => ?_)
          · first | (rw [if_pos (decide_eq_true (show clo nd (nI j) n &&& b1 k = 0 from h58))] at fin; exact fin) | (rw [if_neg (show ¬ decide (clo nd (nI j) n &&& b1 k = 0) = true from fun q => h58 (of_decide_eq_true q)), if_pos rfl] at fin; exact fin)
          · refine x_iload_n dX1_findBest_61 rfl ?_
            refine x_if_eq 78 dX1_findBest_62 (by decide) (fun hc_ => absurd hc_ (by decide)) (fun _ => ?_)
            refine x_aload_n dX1_findBest_65 rfl ?_
            refine x_iload_n dX1_findBest_66 rfl ?_
            refine x_iload dX1_findBest_67 rfl ?_
            refine x_cvd mf_X1_madeBy ml_X1_66 dX1_findBest_69 rfl sf_33 rfl ⟨by decide, by decide⟩ (Nat.le_of_ble_eq_true rfl) ⟨rfl, rfl⟩ ⟨Nat.le_of_ble_eq_true rfl, Nat.le_of_ble_eq_true rfl⟩ (cm) ?_
            refine x_iload dX1_findBest_72 rfl ?_
            refine x_isub dX1_findBest_74 ?_
            refine x_goto 79 dX1_findBest_75 (by decide) ?_
            refine x_istore dX1_findBest_79 (by decide) ?_
            first | (rw [if_pos (decide_eq_true (show clo nd (nI j) n &&& b1 k = 0 from h58))] at fin; exact fin) | (rw [if_neg (show ¬ decide (clo nd (nI j) n &&& b1 k = 0) = true from fun q => h58 (of_decide_eq_true q)), if_pos rfl] at fin; exact fin)
        | false =>
          refine x_iload dX1_findBest_20 rfl ?_
          refine x_aload_n dX1_findBest_22 rfl ?_
          refine x_geti fl_X1_22 dX1_findBest_23 sf_33 rfl ?_
          refine x_icmp_ge 108 dX1_findBest_26 (by decide) (fun hc_ => absurd hc_ (nI_ge hk (by omega))) (fun _ => ?_)
          refine x_iconst (v := 1) dX1_findBest_29 (by decide) ?_
          refine x_iload dX1_findBest_30 rfl ?_
          refine x_ishl dX1_findBest_32 ?_
          refine x_istore dX1_findBest_33 (by decide) ?_
          refine x_iload_n dX1_findBest_35 rfl ?_
          refine x_iload dX1_findBest_36 rfl ?_
          refine x_iand dX1_findBest_38 ?_
          refine x_if_eq 102 dX1_findBest_39 (by decide) (fun hc_ => absurd hc_ (hnb)) (fun _ => ?_)
          refine x_aload_n dX1_findBest_42 rfl ?_
          refine x_getr fl_X1_18 dX1_findBest_43 sf_33 rfl ?_
          refine x_iload_n dX1_findBest_46 rfl ?_
          refine x_iload dX1_findBest_47 rfl ?_
          refine x_ixor dX1_findBest_49 ?_
          rw [tb_xor (by omega)]
          refine x_bald dX1_findBest_50 sf_36 rfl (by omega) (by decide) ?_
          refine x_ineg dX1_findBest_51 ?_
          refine x_istore dX1_findBest_52 (by decide) ?_
          refine x_iload_n dX1_findBest_54 rfl ?_
          refine x_iload dX1_findBest_55 rfl ?_
          refine x_iand dX1_findBest_57 ?_
          refine x_if_eq 81 dX1_findBest_58 (by decide) (fun h58 => ?_) (fun h58 => ?_)
          · first | (rw [if_pos (decide_eq_true (show clo nd (nI j) n &&& b1 k = 0 from h58))] at fin; exact fin) | (rw [if_neg (show ¬ decide (clo nd (nI j) n &&& b1 k = 0) = true from fun q => h58 (of_decide_eq_true q)), if_neg (by decide)] at fin; exact fin)
          · refine x_iload_n dX1_findBest_61 rfl ?_
            refine x_if_eq 78 dX1_findBest_62 (by decide) (fun _ => ?_) (fun hc_ => absurd (rfl) hc_)
            refine x_iconst (v := 1) dX1_findBest_78 (by decide) ?_
            refine x_istore dX1_findBest_79 (by decide) ?_
            first | (rw [if_pos (decide_eq_true (show clo nd (nI j) n &&& b1 k = 0 from h58))] at fin; exact fin) | (rw [if_neg (show ¬ decide (clo nd (nI j) n &&& b1 k = 0) = true from fun q => h58 (of_decide_eq_true q)), if_neg (by decide)] at fin; exact fin)
/-- a byte holds it -/
theorem byte_ok {v : Int32} (h1 : -128 ≤ v.toInt) (h2 : v.toInt ≤ 127) : v.toInt8.toInt32 = v := by
  apply Int32.toInt_inj.mp
  rw [Int8.toInt_toInt32]
  show (v.toInt8).toInt = _
  rw [Int32.toInt_toInt8]
  rw [Int.bmod_eq_of_le] <;> omega
def okGc (nd : Nat → Int32) (n p : Nat) (e : Bool) (G : Nat → Int32) : Prop := G 0 = 0 ∧ (∀ j, 0 < j → j < 2 ^ p → G j = (fbF G nd n e j p).2) ∧ ∀ j, j < 2 ^ p → -128 ≤ (G j).toInt ∧ (G j).toInt ≤ 127
theorem pl_loop {Z : List (Option Nat)} {ext : List Ds} {M : Mm} {n p : Nat} {sqs g : Int32} {so nd G : Nat → Int32} (e : Bool) (h0 : 0 < p) (hp : p ≤ 12) (hn : n ≤ 20) (hG : okGc nd n p e G) :
    ∀ k, k ≤ 2 ^ p - 1 → ∀ (b w : Int32) (r36 : Nat → Int32), (∀ i, i < k + 1 → r36 i = G i) → (k = 2 ^ p - 1 → b = nI (fbF G nd n e (2 ^ p - 1) p).1 ∧ w = (fbF G nd n e (2 ^ p - 1) p).2) → XW mX1_playLaying (Fc mX1_playLaying (fun r S' M' => S' = SS Z ext ∧ r = none ∧ M' 33 0 = so (fbF G nd n e (2 ^ p - 1) p).1 ∧ M' 33 1 = (fbF G nd n e (2 ^ p - 1) p).2 ∧ Eqm M M')) 0 0 (SS Z ext) (gmM M b w (nI p) (nI n) so nd r36) 27 [some (.ref 33), some (.ref 1), some (.int sqs), some (.int g), some (.int (b2i e)), some (.int (nI (2 ^ p - 1))), some (.int (nI (k + 1)))] [] := by
  have hp12 := pow12 hp
  have hp1 : 1 < 2 ^ p := Nat.one_lt_two_pow (by omega)
  refine lup (P := fun k => ∀ (b w : Int32) (r36 : Nat → Int32), (∀ i, i < k + 1 → r36 i = G i) → (k = 2 ^ p - 1 → b = nI (fbF G nd n e (2 ^ p - 1) p).1 ∧ w = (fbF G nd n e (2 ^ p - 1) p).2) → XW mX1_playLaying (Fc mX1_playLaying (fun r S' M' => S' = SS Z ext ∧ r = none ∧ M' 33 0 = so (fbF G nd n e (2 ^ p - 1) p).1 ∧ M' 33 1 = (fbF G nd n e (2 ^ p - 1) p).2 ∧ Eqm M M')) 0 0 (SS Z ext) (gmM M b w (nI p) (nI n) so nd r36) 27 [some (.ref 33), some (.ref 1), some (.int sqs), some (.int g), some (.int (b2i e)), some (.int (nI (2 ^ p - 1))), some (.int (nI (k + 1)))] []) ?_ ?_
  · intro b w r36 hr hbw
    obtain ⟨rfl, rfl⟩ := hbw rfl
    have hl := fbF_lt G nd n e (2 ^ p - 1) p h0
    refine x_iload dX1_playLaying_27 rfl ?_
    refine x_iload dX1_playLaying_29 rfl ?_
    refine x_icmp_gt 60 dX1_playLaying_31 (by decide) (fun _ => ?_) (fun hc_ => absurd (nI_lt (by omega) (by omega)) hc_)
    refine x_aload_n dX1_playLaying_60 rfl ?_
    refine x_aload_n dX1_playLaying_61 rfl ?_
    refine x_getr fl_X1_11 dX1_playLaying_62 sf_33 rfl ?_
    refine x_aload_n dX1_playLaying_65 rfl ?_
    refine x_geti fl_X1_53 dX1_playLaying_66 sf_33 rfl ?_
    refine x_iald dX1_playLaying_69 sf_34 rfl (by omega) (by decide) ?_
    refine x_put fl_X1_53 dX1_playLaying_70 sf_33 rfl rfl rfl ?_
    exact x_ret dX1_playLaying_73 rfl (Nat.le_refl _) (Nat.le_refl _) ⟨rfl, ⟨rfl, rfl, rfl, gm_eqm.u2 (by decide)⟩⟩
  · intro k hk ih b w r36 hr hbw
    have cf := c_findBest (Z := Z) (ext := ext) (M := M) (b := b) (w := w) (so := so) (nd := nd) (r36 := r36) (p := p) (n := n) (j := k + 1) e hp hn (by omega)
    rw [fbF_congr (r' := G) (fun i hi => hr i hi)] at cf
    have hGk := hG.2.1 (k + 1) (by omega) (by omega)
    have hgb := hG.2.2 (k + 1) (by omega)
    have ih := ih (nI (fbF G nd n e (k + 1) p).1) (fbF G nd n e (k + 1) p).2 (upd r36 (k + 1) (G (k + 1))) (by
      intro i hi
      by_cases q : i = k + 1
      · subst q; exact pk_us
      · rw [pk_un q]; exact hr i (by omega)) (fun q => by rw [q]; exact ⟨rfl, rfl⟩)
    rw [nI_succ (k + 1), ← gm_36] at ih
    refine x_iload dX1_playLaying_27 rfl ?_
    refine x_iload dX1_playLaying_29 rfl ?_
    refine x_icmp_gt 60 dX1_playLaying_31 (by decide) (fun hc_ => absurd hc_ (nI_nlt (by omega) (by omega))) (fun _ => ?_)
    refine x_aload_n dX1_playLaying_34 rfl ?_
    refine x_iload dX1_playLaying_35 rfl ?_
    refine x_iload dX1_playLaying_37 rfl ?_
    refine x_cvd mf_X1_findBest ml_X1_56 dX1_playLaying_39 rfl sf_33 rfl ⟨by decide, by decide⟩ (Nat.le_of_ble_eq_true rfl) ⟨rfl, rfl⟩ ⟨Nat.le_of_ble_eq_true rfl, Nat.le_of_ble_eq_true rfl⟩ (cf) ?_
    refine x_aload_n dX1_playLaying_42 rfl ?_
    refine x_getr fl_X1_18 dX1_playLaying_43 sf_33 rfl ?_
    refine x_iload dX1_playLaying_46 rfl ?_
    refine x_aload_n dX1_playLaying_48 rfl ?_
    refine x_geti fl_X1_60 dX1_playLaying_49 sf_33 rfl ?_
    rw [show (gmM M (nI (fbF G nd n e (k + 1) p).1) (fbF G nd n e (k + 1) p).2 (nI p) (nI n) so nd r36) 33 1 = G (k + 1) from hGk.symm]
    refine x_i2b dX1_playLaying_52 ?_
    rw [byte_ok hgb.1 hgb.2]
    refine x_bast dX1_playLaying_53 sf_36 rfl (by omega) (by decide) ?_
    refine x_iinc1 dX1_playLaying_54 rfl (by decide) ?_
    refine x_goto 27 dX1_playLaying_57 (by decide) ?_
    rw [byte_ok hgb.1 hgb.2]
    exact ih
theorem c_playLaying {Z : List (Option Nat)} {ext : List Ds} {M : Mm} {sq mt : Nat} {G : Nat → Int32} (sqs g : Int32) (e : Bool) (hm : M 1 2 = nI mt) (hmb : mt ≤ 31) (hq : M 1 3 = nI sq) (hb : sq ≤ 20) (h0 : 0 < fsC g mt) (hp : fsC g mt ≤ 12) (hG : okGc (suM M g sqs sq mt 35) (ndL sqs (fun q => rnm (fsR g (M 34) mt) (M 5 q) (fsC g mt)) sq).length (fsC g mt) e G) : Ct mX1_playLaying [.ref 33, .ref 1, .int sqs, .int g, .int (b2i e)] (SS Z ext) M (fun r M' => r = none ∧ M' 33 0 = fsR g (M 34) mt (fbF G (suM M g sqs sq mt 35) (ndL sqs (fun q => rnm (fsR g (M 34) mt) (M 5 q) (fsC g mt)) sq).length e (2 ^ fsC g mt - 1) (fsC g mt)).1 ∧ M' 33 1 = (fbF G (suM M g sqs sq mt 35) (ndL sqs (fun q => rnm (fsR g (M 34) mt) (M 5 q) (fsC g mt)) sq).length e (2 ^ fsC g mt - 1) (fsC g mt)).2 ∧ Eqm M M') := by
  have hn := ndL_len sqs (fun q => rnm (fsR g (M 34) mt) (M 5 q) (fsC g mt)) sq
  have hp1 : 1 < 2 ^ fsC g mt := Nat.one_lt_two_pow (by omega)
  have fin := pl_loop (Z := Z) (ext := ext) (M := M) (sqs := sqs) (g := g) (so := fsR g (M 34) mt) e h0 hp (by omega) hG 0 (Nat.zero_le _) (M 33 0) (M 33 1) (upd (M 36) 0 0) (fun i hi => by rw [show i = 0 by omega, pk_us, hG.1]) (fun q => absurd q (by omega))
  rw [← gm_36] at fin
  refine Ct.of (by decide) (Nat.le_of_ble_eq_true rfl) ?_
  refine x_aload_n dX1_playLaying_0 rfl ?_
  refine x_aload_n dX1_playLaying_1 rfl ?_
  refine x_iload_n dX1_playLaying_2 rfl ?_
  refine x_iload_n dX1_playLaying_3 rfl ?_
  refine x_cvd mf_X1_setUp ml_X1_42 dX1_playLaying_4 rfl sf_33 rfl ⟨by decide, by decide⟩ (Nat.le_of_ble_eq_true rfl) ⟨rfl, rfl⟩ ⟨Nat.le_of_ble_eq_true rfl, Nat.le_of_ble_eq_true rfl⟩ (c_setUp sqs g hm hmb hq hb hp) ?_
  refine x_aload_n dX1_playLaying_7 rfl ?_
  refine x_getr fl_X1_18 dX1_playLaying_8 sf_33 rfl ?_
  refine x_iconst (v := 0) dX1_playLaying_11 (by decide) ?_
  refine x_iconst (v := 0) dX1_playLaying_12 (by decide) ?_
  refine x_bast (q := 0) dX1_playLaying_13 sf_36 (by decide) (by decide) (by decide) ?_
  refine x_iconst (v := 1) dX1_playLaying_14 (by decide) ?_
  refine x_aload_n dX1_playLaying_15 rfl ?_
  refine x_geti fl_X1_22 dX1_playLaying_16 sf_33 rfl ?_
  refine x_ishl dX1_playLaying_19 ?_
  refine x_iconst (v := 1) dX1_playLaying_20 (by decide) ?_
  refine x_isub dX1_playLaying_21 ?_
  rw [show (up2 (suM M g sqs sq mt) 36 0 (0 : Int32).toInt8.toInt32) 33 2 = nI (fsC g mt) from rfl, nI_p1 (by omega)]
  refine x_istore dX1_playLaying_22 (by decide) ?_
  refine x_iconst (v := 1) dX1_playLaying_24 (by decide) ?_
  refine x_istore dX1_playLaying_25 (by decide) ?_
  exact fin
