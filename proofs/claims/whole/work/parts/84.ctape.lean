/-! ===== the class: the tape's tokens ===== -/
def On13 (M M' : Mm) : Prop := (∀ c, c ≠ 13 → M' c = M c) ∧ M' 13 1 = M 13 1
theorem On13.rf (M : Mm) : On13 M M := ⟨fun _ _ => rfl, rfl⟩
theorem On13.tr {M M' M'' : Mm} (h : On13 M M') (h2 : On13 M' M'') : On13 M M'' := ⟨fun c q => (h2.1 c q).trans (h.1 c q), h2.2.trans h.2⟩
theorem On13.up {M M' : Mm} (h : On13 M M') {k : Nat} (v : Int32) (hk : k ≠ 1) : On13 M (up2 M' 13 k v) := ⟨fun c q => (up2_n M' v q).trans (h.1 c q), (up2_ne M' 13 v hk.symm).trans h.2⟩
/-- the token that begins at s has been read -/
def CLd (t : Nat → Int32) (n s : Nat) (a : Nat → Int32) : Prop := a 3 = nI s ∧ a 2 = nI (tK t n s) ∧ (tK t n s ≠ 4 → a 5 = nI (tE t n s)) ∧ (tK t n s = 2 → a 4 = tV t n s)
theorem le_nlt {a b : Int32} (h : a ≤ b) : ¬ b < a := by rw [fa_lt]; rw [fa_le] at h; omega
theorem c_pass {Z : List (Option Nat)} {ext : List Ds} {M : Mm} {n p e : Nat} (lo hi : Int32) (h1 : M 13 1 = nI n) (hn : n ≤ 320) (h5 : M 13 5 = nI p) (hp : p ≤ n) (he : rn (fun c => rg c lo hi) (M 14) n p = e) : Ct mX7_pass [.ref 13, .int lo, .int hi] (SS Z ext) M (Rt none (up2 M 13 5 (nI e))) := by
  have hge : p ≤ e := by rw [← he]; exact rn_ge _ _ _ _
  have hle : e ≤ n := by rw [← he]; exact rn_le hp
  have hout : e < n → rg (M 14 e) lo hi = false := fun q => by
    have h := rn_out (P := fun c => rg c lo hi) (t := M 14) (n := n) (p := p) (by rw [he]; exact q)
    rw [he] at h
    exact h
  have hin : ∀ k, p ≤ k → k < e → rg (M 14 k) lo hi = true := fun k q1 q2 => rn_in (P := fun c => rg c lo hi) (t := M 14) (n := n) (p := p) q1 (by rw [he]; exact q2)
  clear he
  refine Ct.of (by decide) (Nat.le_of_ble_eq_true rfl) ?_
  refine x_eq (M := up2 M 13 5 (nI (p + 0))) (by rw [up2_self (M := M) (c := 13) (k := 5) (v := nI (p + 0)) h5]) rfl rfl rfl ?_
  refine lup (P := fun j => XW _ _ 0 0 (SS Z ext) (up2 M 13 5 (nI (p + j))) 0 [some (.ref 13), some (.int lo), some (.int hi)] []) (N := e - p) ?_ ?_ 0 (by omega)
  · rw [show p + (e - p) = e by omega]
    by_cases hlt : e < n
    · have ho := hout hlt
      by_cases hl : M 14 e < lo
      · refine x_aload_n dX7_pass_0 rfl ?_
        refine x_geti fl_X7_17 dX7_pass_1 sf_13 rfl ?_
        refine x_aload_n dX7_pass_4 rfl ?_
        refine x_geti fl_X7_13 dX7_pass_5 sf_13 rfl ?_
        refine x_icmp_ge 50 dX7_pass_8 (by decide) (fun hc_ => absurd hc_ (by show ¬ M 13 1 ≤ nI e; rw [h1]; exact nI_ge hlt (by omega))) (fun _ => ?_)
        refine x_aload_n dX7_pass_11 rfl ?_
        refine x_getr fl_X7_9 dX7_pass_12 sf_13 rfl ?_
        refine x_aload_n dX7_pass_15 rfl ?_
        refine x_geti fl_X7_17 dX7_pass_16 sf_13 rfl ?_
        refine x_bald dX7_pass_19 sf_14 (q := e) rfl (by omega) (by decide) ?_
        refine x_iload_n dX7_pass_20 rfl ?_
        refine x_icmp_lt 50 dX7_pass_21 (by decide) (fun _ => ?_) (fun hc_ => absurd (hl) hc_)
        exact x_ret dX7_pass_50 rfl (Nat.le_refl _) (Nat.le_refl _) ⟨rfl, ⟨rfl, rfl⟩⟩
      · have hh : hi < M 14 e := by
          by_cases q : M 14 e ≤ hi
          · have : rg (M 14 e) lo hi = true := rg_t.mpr ⟨fa_of_nlt hl, q⟩
            rw [this] at ho; cases ho
          · exact fa_of_nle q
        refine x_aload_n dX7_pass_0 rfl ?_
        refine x_geti fl_X7_17 dX7_pass_1 sf_13 rfl ?_
        refine x_aload_n dX7_pass_4 rfl ?_
        refine x_geti fl_X7_13 dX7_pass_5 sf_13 rfl ?_
        refine x_icmp_ge 50 dX7_pass_8 (by decide) (fun hc_ => absurd hc_ (by show ¬ M 13 1 ≤ nI e; rw [h1]; exact nI_ge hlt (by omega))) (fun _ => ?_)
        refine x_aload_n dX7_pass_11 rfl ?_
        refine x_getr fl_X7_9 dX7_pass_12 sf_13 rfl ?_
        refine x_aload_n dX7_pass_15 rfl ?_
        refine x_geti fl_X7_17 dX7_pass_16 sf_13 rfl ?_
        refine x_bald dX7_pass_19 sf_14 (q := e) rfl (by omega) (by decide) ?_
        refine x_iload_n dX7_pass_20 rfl ?_
        refine x_icmp_lt 50 dX7_pass_21 (by decide) (fun hc_ => absurd hc_ (hl)) (fun _ => ?_)
        refine x_aload_n dX7_pass_24 rfl ?_
        refine x_getr fl_X7_9 dX7_pass_25 sf_13 rfl ?_
        refine x_aload_n dX7_pass_28 rfl ?_
        refine x_geti fl_X7_17 dX7_pass_29 sf_13 rfl ?_
        refine x_bald dX7_pass_32 sf_14 (q := e) rfl (by omega) (by decide) ?_
        refine x_iload_n dX7_pass_33 rfl ?_
        refine x_icmp_gt 50 dX7_pass_34 (by decide) (fun _ => ?_) (fun hc_ => absurd (hh) hc_)
        exact x_ret dX7_pass_50 rfl (Nat.le_refl _) (Nat.le_refl _) ⟨rfl, ⟨rfl, rfl⟩⟩
    · refine x_aload_n dX7_pass_0 rfl ?_
      refine x_geti fl_X7_17 dX7_pass_1 sf_13 rfl ?_
      refine x_aload_n dX7_pass_4 rfl ?_
      refine x_geti fl_X7_13 dX7_pass_5 sf_13 rfl ?_
      refine x_icmp_ge 50 dX7_pass_8 (by decide) (fun _ => ?_) (fun hc_ => absurd (by show M 13 1 ≤ nI e; rw [h1]; exact nI_le (by omega) (by omega)) hc_)
      exact x_ret dX7_pass_50 rfl (Nat.le_refl _) (Nat.le_refl _) ⟨rfl, ⟨rfl, rfl⟩⟩
  · intro j hj ih
    have hr := rg_t.mp (hin (p + j) (by omega) (by omega))
    refine x_aload_n dX7_pass_0 rfl ?_
    refine x_geti fl_X7_17 dX7_pass_1 sf_13 rfl ?_
    refine x_aload_n dX7_pass_4 rfl ?_
    refine x_geti fl_X7_13 dX7_pass_5 sf_13 rfl ?_
    refine x_icmp_ge 50 dX7_pass_8 (by decide) (fun hc_ => absurd hc_ (by show ¬ M 13 1 ≤ nI (p + j); rw [h1]; exact nI_ge (by omega) (by omega))) (fun _ => ?_)
    refine x_aload_n dX7_pass_11 rfl ?_
    refine x_getr fl_X7_9 dX7_pass_12 sf_13 rfl ?_
    refine x_aload_n dX7_pass_15 rfl ?_
    refine x_geti fl_X7_17 dX7_pass_16 sf_13 rfl ?_
    refine x_bald dX7_pass_19 sf_14 (q := p + j) rfl (by omega) (by decide) ?_
    refine x_iload_n dX7_pass_20 rfl ?_
    refine x_icmp_lt 50 dX7_pass_21 (by decide) (fun hc_ => absurd hc_ (le_nlt hr.1)) (fun _ => ?_)
    refine x_aload_n dX7_pass_24 rfl ?_
    refine x_getr fl_X7_9 dX7_pass_25 sf_13 rfl ?_
    refine x_aload_n dX7_pass_28 rfl ?_
    refine x_geti fl_X7_17 dX7_pass_29 sf_13 rfl ?_
    refine x_bald dX7_pass_32 sf_14 (q := p + j) rfl (by omega) (by decide) ?_
    refine x_iload_n dX7_pass_33 rfl ?_
    refine x_icmp_gt 50 dX7_pass_34 (by decide) (fun hc_ => absurd hc_ (le_nlt hr.2)) (fun _ => ?_)
    refine x_aload_n dX7_pass_37 rfl ?_
    refine x_dup dX7_pass_38 rfl ?_
    refine x_geti fl_X7_17 dX7_pass_39 sf_13 rfl ?_
    refine x_iconst (v := 1) dX7_pass_42 (by decide) ?_
    refine x_iadd dX7_pass_43 ?_
    refine x_put fl_X7_17 dX7_pass_44 sf_13 rfl rfl rfl ?_
    refine x_goto 0 dX7_pass_47 (by decide) ?_
    refine x_eq (by rw [up2_up2, show (up2 M 13 5 (nI (p + j))) 13 5 + 1 = nI (p + (j + 1)) from nI_1 _]) rfl rfl rfl ih
def tnM (M : Mm) (s e : Nat) : Mm := if e - s ≤ 2 then up2 (up2 M 13 2 2) 13 4 (vN (M 14) s (e - s)) else up2 (up2 M 13 2 4) 13 4 0
theorem c_takeNumber {Z : List (Option Nat)} {ext : List Ds} {M : Mm} {s e : Nat} (h3 : M 13 3 = nI s) (h5 : M 13 5 = nI e) (hse : s ≤ e) (he : e ≤ 320) : Ct mX7_takeNumber [.ref 13] (SS Z ext) M (Rt none (tnM M s e)) := by
  have hdif : M 13 5 - M 13 3 = nI (e - s) := by rw [h3, h5, sub_nI hse]
  unfold tnM
  by_cases h2 : e - s ≤ 2
  · rw [if_pos h2]
    have loop : XW mX7_takeNumber (Fc mX7_takeNumber (fun r S' M' => S' = SS Z ext ∧ Rt none (up2 (up2 M 13 2 2) 13 4 (vN (M 14) s (e - s))) r M')) 0 0 (SS Z ext) (up2 (up2 M 13 2 2) 13 4 (vN (M 14) s 0)) 32 [some (.ref 13), some (.int (nI (s + 0)))] [] := by
      refine lup (P := fun j => XW mX7_takeNumber (Fc mX7_takeNumber (fun r S' M' => S' = SS Z ext ∧ Rt none (up2 (up2 M 13 2 2) 13 4 (vN (M 14) s (e - s))) r M')) 0 0 (SS Z ext) (up2 (up2 M 13 2 2) 13 4 (vN (M 14) s j)) 32 [some (.ref 13), some (.int (nI (s + j)))] []) (N := e - s) ?_ ?_ 0 (by omega)
      · rw [show s + (e - s) = e by omega]
        refine x_iload_n dX7_takeNumber_32 rfl ?_
        refine x_aload_n dX7_takeNumber_33 rfl ?_
        refine x_geti fl_X7_17 dX7_takeNumber_34 sf_13 rfl ?_
        refine x_icmp_ge 75 dX7_takeNumber_37 (by decide) (fun _ => ?_) (fun hc_ => absurd (by show M 13 5 ≤ nI e; rw [h5]; exact nI_le (Nat.le_refl _) (by omega)) hc_)
        exact x_ret dX7_takeNumber_75 rfl (Nat.le_refl _) (Nat.le_refl _) ⟨rfl, ⟨rfl, rfl⟩⟩
      · intro j hj ih
        rw [show s + (j + 1) = s + j + 1 by omega, nI_succ (s + j)] at ih
        refine x_iload_n dX7_takeNumber_32 rfl ?_
        refine x_aload_n dX7_takeNumber_33 rfl ?_
        refine x_geti fl_X7_17 dX7_takeNumber_34 sf_13 rfl ?_
        refine x_icmp_ge 75 dX7_takeNumber_37 (by decide) (fun hc_ => absurd hc_ (by show ¬ M 13 5 ≤ nI (s + j); rw [h5]; exact nI_ge (by omega) (by omega))) (fun _ => ?_)
        refine x_aload_n dX7_takeNumber_40 rfl ?_
        refine x_geti fl_X7_23 dX7_takeNumber_41 sf_13 rfl ?_
        refine x_iconst (v := 2) dX7_takeNumber_44 (by decide) ?_
        refine x_icmp_ne 75 dX7_takeNumber_45 (by decide) (fun hc_ => absurd (rfl) hc_) (fun _ => ?_)
        refine x_aload_n dX7_takeNumber_48 rfl ?_
        refine x_bipush (v := 10) dX7_takeNumber_49 (by decide) ?_
        refine x_aload_n dX7_takeNumber_51 rfl ?_
        refine x_geti fl_X7_33 dX7_takeNumber_52 sf_13 rfl ?_
        refine x_imul dX7_takeNumber_55 ?_
        refine x_aload_n dX7_takeNumber_56 rfl ?_
        refine x_getr fl_X7_9 dX7_takeNumber_57 sf_13 rfl ?_
        refine x_iload_n dX7_takeNumber_60 rfl ?_
        refine x_bald dX7_takeNumber_61 sf_14 (q := s + j) rfl (by omega) (by decide) ?_
        refine x_iadd dX7_takeNumber_62 ?_
        refine x_bipush (v := 48) dX7_takeNumber_63 (by decide) ?_
        refine x_isub dX7_takeNumber_65 ?_
        refine x_put fl_X7_33 dX7_takeNumber_66 sf_13 rfl rfl rfl ?_
        refine x_iinc1 dX7_takeNumber_69 rfl (by decide) ?_
        refine x_goto 32 dX7_takeNumber_72 (by decide) ?_
        rw [up2_up2]
        exact ih
    refine Ct.of (by decide) (Nat.le_of_ble_eq_true rfl) ?_
    refine x_aload_n dX7_takeNumber_0 rfl ?_
    refine x_aload_n dX7_takeNumber_1 rfl ?_
    refine x_geti fl_X7_17 dX7_takeNumber_2 sf_13 rfl ?_
    refine x_aload_n dX7_takeNumber_5 rfl ?_
    refine x_geti fl_X7_20 dX7_takeNumber_6 sf_13 rfl ?_
    refine x_isub dX7_takeNumber_9 ?_
    refine x_iconst (v := 2) dX7_takeNumber_10 (by decide) ?_
    rw [hdif]
    refine x_icmp_le 18 dX7_takeNumber_11 (by decide) (fun _ => ?_) (fun hc_ => absurd (nI_le (b := 2) h2 (by decide)) hc_)
    refine x_iconst (v := 2) dX7_takeNumber_18 (by decide) ?_
    refine x_put fl_X7_23 dX7_takeNumber_19 sf_13 rfl rfl rfl ?_
    refine x_aload_n dX7_takeNumber_22 rfl ?_
    refine x_iconst (v := 0) dX7_takeNumber_23 (by decide) ?_
    refine x_put fl_X7_33 dX7_takeNumber_24 sf_13 rfl rfl rfl ?_
    refine x_aload_n dX7_takeNumber_27 rfl ?_
    refine x_geti fl_X7_20 dX7_takeNumber_28 sf_13 rfl ?_
    refine x_istore_n dX7_takeNumber_31 (by decide) ?_
    refine x_eq rfl rfl (by show [_, some (Value.int (M 13 3))] = _; rw [h3]; rfl) rfl loop
  · rw [if_neg h2]
    refine Ct.of (by decide) (Nat.le_of_ble_eq_true rfl) ?_
    by_cases hz : e ≤ s
    · omega
    · refine x_aload_n dX7_takeNumber_0 rfl ?_
      refine x_aload_n dX7_takeNumber_1 rfl ?_
      refine x_geti fl_X7_17 dX7_takeNumber_2 sf_13 rfl ?_
      refine x_aload_n dX7_takeNumber_5 rfl ?_
      refine x_geti fl_X7_20 dX7_takeNumber_6 sf_13 rfl ?_
      refine x_isub dX7_takeNumber_9 ?_
      refine x_iconst (v := 2) dX7_takeNumber_10 (by decide) ?_
      rw [hdif]
      refine x_icmp_le 18 dX7_takeNumber_11 (by decide) (fun hc_ => absurd hc_ (nI_ge (a := 2) (b := e - s) (by omega) (by omega))) (fun _ => ?_)
      refine x_iconst (v := 4) dX7_takeNumber_14 (by decide) ?_
      refine x_goto 19 dX7_takeNumber_15 (by decide) ?_
      refine x_put fl_X7_23 dX7_takeNumber_19 sf_13 rfl rfl rfl ?_
      refine x_aload_n dX7_takeNumber_22 rfl ?_
      refine x_iconst (v := 0) dX7_takeNumber_23 (by decide) ?_
      refine x_put fl_X7_33 dX7_takeNumber_24 sf_13 rfl rfl rfl ?_
      refine x_aload_n dX7_takeNumber_27 rfl ?_
      refine x_geti fl_X7_20 dX7_takeNumber_28 sf_13 rfl ?_
      refine x_istore_n dX7_takeNumber_31 (by decide) ?_
      refine x_iload_n dX7_takeNumber_32 rfl ?_
      refine x_aload_n dX7_takeNumber_33 rfl ?_
      refine x_geti fl_X7_17 dX7_takeNumber_34 sf_13 rfl ?_
      refine x_icmp_ge 75 dX7_takeNumber_37 (by decide) (fun hc_ => absurd hc_ (by show ¬ M 13 5 ≤ M 13 3; rw [h3, h5]; exact nI_ge (by omega) (by omega))) (fun _ => ?_)
      refine x_aload_n dX7_takeNumber_40 rfl ?_
      refine x_geti fl_X7_23 dX7_takeNumber_41 sf_13 rfl ?_
      refine x_iconst (v := 2) dX7_takeNumber_44 (by decide) ?_
      refine x_icmp_ne 75 dX7_takeNumber_45 (by decide) (fun _ => ?_) (fun hc_ => absurd hc_ (show ¬ (4 : Int32) = 2 by decide))
      exact x_ret dX7_takeNumber_75 rfl (Nat.le_refl _) (Nat.le_refl _) ⟨rfl, ⟨rfl, rfl⟩⟩
