/-! ===== the reference: games over masks ===== -/
theorem tb_bit {j k : Nat} (hj : j < 2 ^ 31) (hk : k < 31) : (nI j >>> (nI k &&& 31)) &&& 1 = b2i (j.testBit k) := by
  rw [pk_shrN hj _ k (s_l k (by omega)), pk_andN (Nat.lt_of_le_of_lt (Nat.div_le_self _ _) (by omega)) 1 (by decide)]
  rw [Nat.testBit_eq_decide_div_mod_eq]
  rcases (show j / 2 ^ k % 2 ^ 1 = 0 ∨ j / 2 ^ k % 2 ^ 1 = 1 by omega) with h | h
  · rw [h]; rfl
  · rw [h]; rfl
theorem tb_sh {k : Nat} (hk : k < 31) : (1 : Int32) <<< (nI k &&& 31) = nI (2 ^ k) := by
  have h := pk_shlN (n := 1) (nI k &&& 31) k (s_l k (by omega)) (by rw [Nat.one_mul]; exact Nat.pow_lt_pow_right (by decide) (by omega))
  rw [Nat.one_mul] at h
  exact h
theorem tb_or {j k : Nat} (hk : k < 31) : nI j ||| ((1 : Int32) <<< (nI k &&& 31)) = nI (j ||| 2 ^ k) := by rw [tb_sh hk, fa_or]
theorem or_lt {j k m : Nat} (hj : j < 2 ^ m) (hk : k < m) : j ||| 2 ^ k < 2 ^ m := Nat.or_lt_two_pow hj (Nat.pow_lt_pow_right (by decide) hk)
theorem pow12 {m : Nat} (hm : m ≤ 12) : 2 ^ m ≤ 4096 := Nat.le_trans (Nat.pow_le_pow_right (by decide) hm) (by decide)
theorem or_gt {j k : Nat} (h : j.testBit k = false) : j < j ||| 2 ^ k := by
  have h1 : j ≤ j ||| 2 ^ k := Nat.left_le_or
  rcases Nat.lt_or_eq_of_le h1 with h2 | h2
  · exact h2
  · have h3 : (j ||| 2 ^ k).testBit k = true := by simp [Nat.testBit_or, Nat.testBit_two_pow_self]
    rw [← h2, h] at h3
    cases h3
/-- the set of a mask over the row so -/
def ofR (so : Nat → Int32) (x : Int32) (m : Nat) : Int32 := fld (fun k s => s ||| (((x >>> (nI k &&& 31)) &&& 1) <<< (so k &&& 31))) m 0
theorem c_m_ofRow {Z : List (Option Nat)} {ext : List Ds} {M : Mm} {m : Nat} (x : Int32) (h35 : M 48 35 = nI m) (hm : m ≤ 31) : Ct mX10_ofRow [.ref 48, .int x] (SS Z ext) M (Rt (some (.int (ofR (M 63) x m))) M) := by
  refine Ct.of (by decide) (Nat.le_of_ble_eq_true rfl) ?_
  refine x_iconst (v := 0) dX10_ofRow_0 (by decide) ?_
  refine x_istore_n dX10_ofRow_1 (by decide) ?_
  refine x_iconst (v := 0) dX10_ofRow_2 (by decide) ?_
  refine x_istore_n dX10_ofRow_3 (by decide) ?_
  refine lup (P := fun k => XW _ _ 0 0 (SS Z ext) M 4 [some (.ref 48), some (.int x), some (.int (ofR (M 63) x k)), some (.int (nI k))] []) (N := m) ?_ ?_ 0 (by omega)
  · refine x_iload_n dX10_ofRow_4 rfl ?_
    refine x_aload_n dX10_ofRow_5 rfl ?_
    refine x_geti fl_X10_267 dX10_ofRow_6 sf_48 rfl ?_
    refine x_icmp_ge 33 dX10_ofRow_9 (by decide) (fun _ => ?_) (fun hc_ => absurd (by rw [h35]; exact nI_le (Nat.le_refl _) (by omega)) hc_)
    refine x_iload_n dX10_ofRow_33 rfl ?_
    exact x_iret dX10_ofRow_34 rfl rfl (Nat.le_refl _) (Nat.le_refl _) ⟨rfl, ⟨rfl, rfl⟩⟩
  · intro k hk ih
    rw [nI_succ] at ih
    refine x_iload_n dX10_ofRow_4 rfl ?_
    refine x_aload_n dX10_ofRow_5 rfl ?_
    refine x_geti fl_X10_267 dX10_ofRow_6 sf_48 rfl ?_
    refine x_icmp_ge 33 dX10_ofRow_9 (by decide) (fun hc_ => absurd hc_ (by rw [h35]; exact nI_ge hk (by omega))) (fun _ => ?_)
    refine x_iload_n dX10_ofRow_12 rfl ?_
    refine x_iload_n dX10_ofRow_13 rfl ?_
    refine x_iload_n dX10_ofRow_14 rfl ?_
    refine x_ishr dX10_ofRow_15 ?_
    refine x_iconst (v := 1) dX10_ofRow_16 (by decide) ?_
    refine x_iand dX10_ofRow_17 ?_
    refine x_aload_n dX10_ofRow_18 rfl ?_
    refine x_getr fl_X10_53 dX10_ofRow_19 sf_48 rfl ?_
    refine x_iload_n dX10_ofRow_22 rfl ?_
    refine x_iald dX10_ofRow_23 sf_63 rfl (by omega) (by decide) ?_
    refine x_ishl dX10_ofRow_24 ?_
    refine x_ior dX10_ofRow_25 ?_
    refine x_istore_n dX10_ofRow_26 (by decide) ?_
    refine x_iinc1 dX10_ofRow_27 rfl (by decide) ?_
    refine x_goto 4 dX10_ofRow_30 (by decide) ?_
    exact ih
theorem c_m_winsBy {Z : List (Option Nat)} {ext : List Ds} {M : Mm} {j k m : Nat} (hj : j < 2 ^ m) (hk : k < m) (hm : m ≤ 12) : Ct mX10_winsBy [.ref 48, .int (nI j), .int (nI k)] (SS Z ext) M (Rt (some (.int (b2i (decide (M 67 (j ||| 2 ^ k) = 0) || decide (M 66 (j ||| 2 ^ k) = 0))))) M) := by
  have hlt := or_lt hj hk
  have hp12 := pow12 hm
  refine Ct.of (by decide) (Nat.le_of_ble_eq_true rfl) ?_
  refine x_iload_n dX10_winsBy_0 rfl ?_
  refine x_iconst (v := 1) dX10_winsBy_1 (by decide) ?_
  refine x_iload_n dX10_winsBy_2 rfl ?_
  refine x_ishl dX10_winsBy_3 ?_
  refine x_ior dX10_winsBy_4 ?_
  rw [tb_or (by omega)]
  refine x_istore_n dX10_winsBy_5 (by decide) ?_
  refine x_aload_n dX10_winsBy_6 rfl ?_
  refine x_getr fl_X10_65 dX10_winsBy_7 sf_48 rfl ?_
  refine x_iload_n dX10_winsBy_10 rfl ?_
  refine x_iald dX10_winsBy_11 sf_67 rfl (by omega) (by decide) ?_
  refine x_if_eq 24 dX10_winsBy_12 (by decide) (fun h12 => ?_) (fun h12 => ?_)
  · refine x_iconst (v := 1) dX10_winsBy_24 (by decide) ?_
    refine x_goto 29 dX10_winsBy_25 (by decide) ?_
    exact x_iret dX10_winsBy_29 rfl rfl (Nat.le_refl _) (Nat.le_refl _) ⟨rfl, ⟨oi (by first | (rw [decide_eq_true h12]; rfl) | (rw [decide_eq_false h12, decide_eq_true h21]; rfl) | (rw [decide_eq_false h12, decide_eq_false h21]; rfl)), rfl⟩⟩
  · refine x_aload_n dX10_winsBy_15 rfl ?_
    refine x_getr fl_X10_62 dX10_winsBy_16 sf_48 rfl ?_
    refine x_iload_n dX10_winsBy_19 rfl ?_
    refine x_iald dX10_winsBy_20 sf_66 rfl (by omega) (by decide) ?_
    refine x_if_ne 28 dX10_winsBy_21 (by decide) (fun h21 => ?_) (fun h21 => ?_)
    · refine x_iconst (v := 0) dX10_winsBy_28 (by decide) ?_
      exact x_iret dX10_winsBy_29 rfl rfl (Nat.le_refl _) (Nat.le_refl _) ⟨rfl, ⟨oi (by first | (rw [decide_eq_true h12]; rfl) | (rw [decide_eq_false h12, decide_eq_true h21]; rfl) | (rw [decide_eq_false h12, decide_eq_false h21]; rfl)), rfl⟩⟩
    · refine x_iconst (v := 1) dX10_winsBy_24 (by decide) ?_
      refine x_goto 29 dX10_winsBy_25 (by decide) ?_
      exact x_iret dX10_winsBy_29 rfl rfl (Nat.le_refl _) (Nat.le_refl _) ⟨rfl, ⟨oi (by first | (rw [decide_eq_true h12]; rfl) | (rw [decide_eq_false h12, decide_eq_true h21]; rfl) | (rw [decide_eq_false h12, decide_eq_false h21]; rfl)), rfl⟩⟩
/-- the squares left when the places of mask j are taken -/
def lefT (C : Int32) (sz rm : Nat → Int32) (sq : Nat) (L : Int32) (so : Nat → Int32) (m j : Nat) : Int32 := Lf C sz rm (L &&& (ofR so (nI j) m ^^^ (-1))) sq
/-- some of the first n places -/
def anyk (p : Nat → Bool) : Nat → Bool
  | 0 => false
  | n + 1 => anyk p n || p n
/-- who is to take at mask j wins by place k -/
def winT (lef : Nat → Int32) (W : Nat → Bool) (j k : Nat) : Bool := !j.testBit k && (decide (lef (j ||| 2 ^ k) = 0) || !W (j ||| 2 ^ k))
def okW (lef : Nat → Int32) (m : Nat) (W : Nat → Bool) : Prop := ∀ j, j < 2 ^ m → W j = (decide (0 < lef j) && anyk (winT lef W j) m)
theorem b2i_or (a b : Bool) : b2i a ||| b2i b = b2i (a || b) := by cases a <;> cases b <;> decide
theorem c_m_takingX {Z : List (Option Nat)} {ext : List Ds} {M : Mm} (x : Int32) (hx : rg x 0 1 = false) : Ct mX10_taking [.ref 48, .int x] (SS Z ext) M (Rt (some (.int (-1))) M) := by
  refine Ct.of (by decide) (Nat.le_of_ble_eq_true rfl) ?_
  refine x_iload_n dX10_taking_0 rfl ?_
  refine x_i2l dX10_taking_1 ?_
  refine x_lconst (v := 0) dX10_taking_2 (by decide) ?_
  refine x_lconst (v := 1) dX10_taking_3 (by decide) ?_
  refine x_csd mf_X10_in ml_X10_134 dX10_taking_4 rfl ⟨by decide, by decide⟩ (Nat.le_of_ble_eq_true rfl) ⟨rfl, rfl⟩ ⟨Nat.le_of_ble_eq_true rfl, Nat.le_of_ble_eq_true rfl⟩ (c_m_rg (a := 0) (b := 1) (by decide) (by decide)) ?_
  refine x_ifb_ne 12 dX10_taking_7 (by decide) (fun hc_ => absurd ((hx).symm.trans hc_) Bool.false_ne_true) (fun _ => ?_)
  refine x_iconst (v := -1) dX10_taking_10 (by decide) ?_
  exact x_iret dX10_taking_11 rfl rfl (Nat.le_refl _) (Nat.le_refl _) ⟨rfl, ⟨rfl, rfl⟩⟩
theorem c_m_takingS {Z : List (Option Nat)} {ext : List Ds} {M : Mm} {mt sq : Nat} (x : Int32) (hx : rg x 0 1 = true) (hm : M 48 4 = nI mt) (hb : mt ≤ 31) (hq : M 48 5 = nI sq) (hb2 : sq ≤ 20) (hS : Lf (M 49 32) (M 51) (M 54) (M 49 0) sq = 0 ∨ 12 < fsC (M 49 0) mt) : Ct mX10_taking [.ref 48, .int x] (SS Z ext) M (fun r M' => r = some (.int (-2)) ∧ Eqm M M') := by
  have hle : fsC (M 49 0) mt ≤ 31 := Nat.le_trans (fsC_le _ _) hb
  refine Ct.of (by decide) (Nat.le_of_ble_eq_true rfl) ?_
  by_cases h0 : Lf (M 49 32) (M 51) (M 54) (M 49 0) sq = 0
  · refine x_iload_n dX10_taking_0 rfl ?_
    refine x_i2l dX10_taking_1 ?_
    refine x_lconst (v := 0) dX10_taking_2 (by decide) ?_
    refine x_lconst (v := 1) dX10_taking_3 (by decide) ?_
    refine x_csd mf_X10_in ml_X10_134 dX10_taking_4 rfl ⟨by decide, by decide⟩ (Nat.le_of_ble_eq_true rfl) ⟨rfl, rfl⟩ ⟨Nat.le_of_ble_eq_true rfl, Nat.le_of_ble_eq_true rfl⟩ (c_m_rg (a := 0) (b := 1) (by decide) (by decide)) ?_
    refine x_ifb_ne 12 dX10_taking_7 (by decide) (fun _ => ?_) (fun hc_ => absurd (hc_.symm.trans (hx)) Bool.false_ne_true)
    refine x_aload_n dX10_taking_12 rfl ?_
    refine x_aload_n dX10_taking_13 rfl ?_
    refine x_getr fl_X10_7 dX10_taking_14 sf_48 rfl ?_
    refine x_iconst (v := 0) dX10_taking_17 (by decide) ?_
    refine x_iald (q := 0) dX10_taking_18 sf_49 (by decide) (by decide) (by decide) ?_
    refine x_cvd mf_X10_findSome ml_X10_272 dX10_taking_19 rfl sf_48 rfl ⟨by decide, by decide⟩ (Nat.le_of_ble_eq_true rfl) ⟨rfl, rfl⟩ ⟨Nat.le_of_ble_eq_true rfl, Nat.le_of_ble_eq_true rfl⟩ (c_m_findSome _ hm hb) ?_
    refine x_aload_n dX10_taking_22 rfl ?_
    refine x_aload_n dX10_taking_23 rfl ?_
    refine x_getr fl_X10_7 dX10_taking_24 sf_48 rfl ?_
    refine x_iconst (v := 0) dX10_taking_27 (by decide) ?_
    refine x_iald (q := 0) dX10_taking_28 sf_49 (by decide) (by decide) (by decide) ?_
    refine x_cvd mf_X10_leftOf ml_X10_221 dX10_taking_29 rfl sf_48 rfl ⟨by decide, by decide⟩ (Nat.le_of_ble_eq_true rfl) ⟨rfl, rfl⟩ ⟨Nat.le_of_ble_eq_true rfl, Nat.le_of_ble_eq_true rfl⟩ (c_m_leftOf (sq := sq) _ hq hb2) ?_
    refine x_if_eq 44 dX10_taking_32 (by decide) (fun _ => ?_) (fun hc_ => absurd (h0) hc_)
    refine x_bipush (v := -2) dX10_taking_44 (by decide) ?_
    exact x_iret dX10_taking_46 rfl rfl (Nat.le_refl _) (Nat.le_refl _) ⟨rfl, ⟨rfl, fsM_eqm _ _ _⟩⟩
  · have h2 := hS.resolve_left h0
    refine x_iload_n dX10_taking_0 rfl ?_
    refine x_i2l dX10_taking_1 ?_
    refine x_lconst (v := 0) dX10_taking_2 (by decide) ?_
    refine x_lconst (v := 1) dX10_taking_3 (by decide) ?_
    refine x_csd mf_X10_in ml_X10_134 dX10_taking_4 rfl ⟨by decide, by decide⟩ (Nat.le_of_ble_eq_true rfl) ⟨rfl, rfl⟩ ⟨Nat.le_of_ble_eq_true rfl, Nat.le_of_ble_eq_true rfl⟩ (c_m_rg (a := 0) (b := 1) (by decide) (by decide)) ?_
    refine x_ifb_ne 12 dX10_taking_7 (by decide) (fun _ => ?_) (fun hc_ => absurd (hc_.symm.trans (hx)) Bool.false_ne_true)
    refine x_aload_n dX10_taking_12 rfl ?_
    refine x_aload_n dX10_taking_13 rfl ?_
    refine x_getr fl_X10_7 dX10_taking_14 sf_48 rfl ?_
    refine x_iconst (v := 0) dX10_taking_17 (by decide) ?_
    refine x_iald (q := 0) dX10_taking_18 sf_49 (by decide) (by decide) (by decide) ?_
    refine x_cvd mf_X10_findSome ml_X10_272 dX10_taking_19 rfl sf_48 rfl ⟨by decide, by decide⟩ (Nat.le_of_ble_eq_true rfl) ⟨rfl, rfl⟩ ⟨Nat.le_of_ble_eq_true rfl, Nat.le_of_ble_eq_true rfl⟩ (c_m_findSome _ hm hb) ?_
    refine x_aload_n dX10_taking_22 rfl ?_
    refine x_aload_n dX10_taking_23 rfl ?_
    refine x_getr fl_X10_7 dX10_taking_24 sf_48 rfl ?_
    refine x_iconst (v := 0) dX10_taking_27 (by decide) ?_
    refine x_iald (q := 0) dX10_taking_28 sf_49 (by decide) (by decide) (by decide) ?_
    refine x_cvd mf_X10_leftOf ml_X10_221 dX10_taking_29 rfl sf_48 rfl ⟨by decide, by decide⟩ (Nat.le_of_ble_eq_true rfl) ⟨rfl, rfl⟩ ⟨Nat.le_of_ble_eq_true rfl, Nat.le_of_ble_eq_true rfl⟩ (c_m_leftOf (sq := sq) _ hq hb2) ?_
    refine x_if_eq 44 dX10_taking_32 (by decide) (fun hc_ => absurd hc_ (h0)) (fun _ => ?_)
    refine x_aload_n dX10_taking_35 rfl ?_
    refine x_geti fl_X10_267 dX10_taking_36 sf_48 rfl ?_
    refine x_bipush (v := 12) dX10_taking_39 (by decide) ?_
    refine x_icmp_le 47 dX10_taking_41 (by decide) (fun hc_ => absurd hc_ (nI_ge (b := fsC (M 49 0) mt) (a := 12) (by omega) (by omega))) (fun _ => ?_)
    refine x_bipush (v := -2) dX10_taking_44 (by decide) ?_
    exact x_iret dX10_taking_46 rfl rfl (Nat.le_refl _) (Nat.le_refl _) ⟨rfl, ⟨rfl, fsM_eqm _ _ _⟩⟩
def taM (M : Mm) (r67 r66 : Nat → Int32) : Mm := upr (upr M 67 r67) 66 r66
/-- the inner loop of taking() -/
theorem tk_inner {Z : List (Option Nat)} {ext : List Ds} {M0 : Mm} {F : Fn} {m j : Nat} {x all : Int32} {lef : Nat → Int32} {W : Nat → Bool} (hm : m ≤ 12) (hj : j < 2 ^ m) (h35 : M0 48 35 = nI m) (r67 : Nat → Int32) (h67 : ∀ i, j ≤ i → i < 2 ^ m → r67 i = lef i) (hpos : 0 < lef j)
    (r66 : Nat → Int32) (h66 : ∀ i, j < i → i < 2 ^ m → r66 i = b2i (W i)) (fin : XW mX10_taking F 0 0 (SS Z ext) (taM M0 r67 (upd r66 j (b2i (anyk (winT lef W j) m)))) 96 [some (.ref 48), some (.int x), some (.int all), some (.int (nI j)), some (.int (nI m))] []) :
    XW mX10_taking F 0 0 (SS Z ext) (taM M0 r67 (upd r66 j (b2i (anyk (winT lef W j) 0)))) 96 [some (.ref 48), some (.int x), some (.int all), some (.int (nI j)), some (.int (nI 0))] [] := by
  have hp12 := pow12 hm
  refine lup (P := fun k => XW mX10_taking F 0 0 (SS Z ext) (taM M0 r67 (upd r66 j (b2i (anyk (winT lef W j) k)))) 96 [some (.ref 48), some (.int x), some (.int all), some (.int (nI j)), some (.int (nI k))] []) (N := m) fin ?_ 0 (by omega)
  intro k hk ih
  have hnext : taM M0 r67 (upd r66 j (b2i (anyk (winT lef W j) (k + 1)))) = up2 (taM M0 r67 (upd r66 j (b2i (anyk (winT lef W j) k)))) 66 j (b2i (anyk (winT lef W j) k) ||| b2i (winT lef W j k)) := by
    rw [taM, taM, up2_upr2, fa_upd_twice, b2i_or]
    rfl
  have hv : (upd r66 j (b2i (anyk (winT lef W j) k))) j = b2i (anyk (winT lef W j) k) := pk_us
  rw [nI_succ, hnext] at ih
  refine x_join (taM M0 r67 (upd r66 j (b2i (anyk (winT lef W j) k)))) 145 [some (.ref 48), some (.int x), some (.int all), some (.int (nI j)), some (.int (nI k))] [.int (b2i (winT lef W j k)), .int (b2i (anyk (winT lef W j) k)), .int (nI j), .ref 66] ?_ (fun f2 => ?_)
  · refine x_csd mf_X10_flag ml_X10_209 dX10_taking_145 rfl ⟨by decide, by decide⟩ (Nat.le_of_ble_eq_true rfl) ⟨rfl, rfl⟩ ⟨Nat.le_of_ble_eq_true rfl, Nat.le_of_ble_eq_true rfl⟩ (c_m_flag _) ?_
    refine x_ior dX10_taking_148 ?_
    refine x_iast dX10_taking_149 sf_66 rfl (by omega) (by decide) ?_
    refine x_iinc1 dX10_taking_150 rfl (by decide) ?_
    refine x_goto 96 dX10_taking_153 (by decide) ?_
    exact ih
  · have h67j : r67 j = lef j := h67 j (Nat.le_refl _) hj
    cases hbit : j.testBit k with
    | true =>
      rw [winT, hbit] at f2
      refine x_iload dX10_taking_96 rfl ?_
      refine x_aload_n dX10_taking_98 rfl ?_
      refine x_geti fl_X10_267 dX10_taking_99 sf_48 rfl ?_
      refine x_icmp_ge 156 dX10_taking_102 (by decide) (fun hc_ => absurd hc_ (by show ¬ M0 48 35 ≤ nI k; rw [h35]; exact nI_ge hk (by omega))) (fun _ => ?_)
      refine x_aload_n dX10_taking_105 rfl ?_
      refine x_getr fl_X10_65 dX10_taking_106 sf_48 rfl ?_
      refine x_iload_n dX10_taking_109 rfl ?_
      refine x_iald dX10_taking_110 sf_67 rfl (by omega) (by decide) ?_
      refine x_if_le 156 dX10_taking_111 (by decide) (fun hc_ => absurd hc_ (by show ¬ r67 j ≤ 0; rw [h67j]; exact fun q => absurd hpos (by rw [fa_lt]; rw [fa_le] at q; omega))) (fun _ => ?_)
      refine x_aload_n dX10_taking_114 rfl ?_
      refine x_getr fl_X10_62 dX10_taking_115 sf_48 rfl ?_
      refine x_iload_n dX10_taking_118 rfl ?_
      refine x_dup2 dX10_taking_119 rfl rfl ?_
      refine x_iald dX10_taking_120 sf_66 rfl (by omega) (by decide) ?_
      rw [show (taM M0 r67 (upd r66 j (b2i (anyk (winT lef W j) k)))) 66 j = b2i (anyk (winT lef W j) k) from hv]
      refine x_iload_n dX10_taking_121 rfl ?_
      refine x_iload dX10_taking_122 rfl ?_
      refine x_ishr dX10_taking_124 ?_
      refine x_iconst (v := 1) dX10_taking_125 (by decide) ?_
      refine x_iand dX10_taking_126 ?_
      refine x_if_ne 144 dX10_taking_127 (by decide) (fun _ => ?_) (fun hc_ => absurd hc_ (by rw [tb_bit (by omega) (by omega), hbit]; decide))
      refine x_iconst (v := 0) dX10_taking_144 (by decide) ?_
      exact f2
    | false =>
      have hgt := or_gt hbit
      have hlt := or_lt hj hk
      have hw : (decide ((taM M0 r67 (upd r66 j (b2i (anyk (winT lef W j) k)))) 67 (j ||| 2 ^ k) = 0) || decide ((taM M0 r67 (upd r66 j (b2i (anyk (winT lef W j) k)))) 66 (j ||| 2 ^ k) = 0)) = winT lef W j k := by
        show (decide (r67 (j ||| 2 ^ k) = 0) || decide ((upd r66 j _) (j ||| 2 ^ k) = 0)) = _
        rw [h67 _ (by omega) hlt, pk_un (by omega), h66 _ hgt hlt, winT, hbit]
        cases W (j ||| 2 ^ k) <;> rfl
      have hc := c_m_winsBy (Z := Z) (ext := ext) (M := taM M0 r67 (upd r66 j (b2i (anyk (winT lef W j) k)))) hj hk hm
      rw [hw] at hc
      refine x_iload dX10_taking_96 rfl ?_
      refine x_aload_n dX10_taking_98 rfl ?_
      refine x_geti fl_X10_267 dX10_taking_99 sf_48 rfl ?_
      refine x_icmp_ge 156 dX10_taking_102 (by decide) (fun hc_ => absurd hc_ (by show ¬ M0 48 35 ≤ nI k; rw [h35]; exact nI_ge hk (by omega))) (fun _ => ?_)
      refine x_aload_n dX10_taking_105 rfl ?_
      refine x_getr fl_X10_65 dX10_taking_106 sf_48 rfl ?_
      refine x_iload_n dX10_taking_109 rfl ?_
      refine x_iald dX10_taking_110 sf_67 rfl (by omega) (by decide) ?_
      refine x_if_le 156 dX10_taking_111 (by decide) (fun hc_ => absurd hc_ (by show ¬ r67 j ≤ 0; rw [h67j]; exact fun q => absurd hpos (by rw [fa_lt]; rw [fa_le] at q; omega))) (fun _ => ?_)
      refine x_aload_n dX10_taking_114 rfl ?_
      refine x_getr fl_X10_62 dX10_taking_115 sf_48 rfl ?_
      refine x_iload_n dX10_taking_118 rfl ?_
      refine x_dup2 dX10_taking_119 rfl rfl ?_
      refine x_iald dX10_taking_120 sf_66 rfl (by omega) (by decide) ?_
      rw [show (taM M0 r67 (upd r66 j (b2i (anyk (winT lef W j) k)))) 66 j = b2i (anyk (winT lef W j) k) from hv]
      refine x_iload_n dX10_taking_121 rfl ?_
      refine x_iload dX10_taking_122 rfl ?_
      refine x_ishr dX10_taking_124 ?_
      refine x_iconst (v := 1) dX10_taking_125 (by decide) ?_
      refine x_iand dX10_taking_126 ?_
      refine x_if_ne 144 dX10_taking_127 (by decide) (fun hc_ => absurd (by rw [tb_bit (by omega) (by omega), hbit]; rfl) hc_) (fun _ => ?_)
      refine x_aload_n dX10_taking_130 rfl ?_
      refine x_iload_n dX10_taking_131 rfl ?_
      refine x_iload dX10_taking_132 rfl ?_
      refine x_cvd mf_X10_winsBy ml_X10_307 dX10_taking_134 rfl sf_48 rfl ⟨by decide, by decide⟩ (Nat.le_of_ble_eq_true rfl) ⟨rfl, rfl⟩ ⟨Nat.le_of_ble_eq_true rfl, Nat.le_of_ble_eq_true rfl⟩ (hc) ?_
      refine x_ifb_eq 144 dX10_taking_137 (by decide) (fun h137 => ?_) (fun h137 => ?_)
      · refine x_iconst (v := 0) dX10_taking_144 (by decide) ?_
        rw [h137] at f2
        exact f2
      · refine x_iconst (v := 1) dX10_taking_140 (by decide) ?_
        refine x_goto 145 dX10_taking_141 (by decide) ?_
        rw [h137] at f2
        exact f2
