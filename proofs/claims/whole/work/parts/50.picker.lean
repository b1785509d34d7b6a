/-! ===== the class: Picker ===== -/
/-- what the Picker found: how many, the least, what is common, the numbers left -/
abbrev Pk : Type := Int32 × Int32 × Int32 × Int32
def p4 (f : Nat → Int32) (k : Pk) : Nat → Int32 := upd (upd (upd (upd f 0 k.1) 1 k.2.1) 2 k.2.2.1) 3 k.2.2.2
theorem p4_p4 (f : Nat → Int32) (a b : Pk) : p4 (p4 f a) b = p4 f b := by
  funext k
  unfold p4 upd
  by_cases h0 : k = 3
  · simp [h0]
  · by_cases h1 : k = 2
    · simp [h1]
    · by_cases h2 : k = 1
      · simp [h2]
      · by_cases h3 : k = 0 <;> simp [h0, h1, h2, h3]
def pkM (M : Mm) (k : Pk) : Mm := upr M 24 (p4 (M 24) k)
theorem pkM_pkM (M : Mm) (a b : Pk) : pkM (pkM M a) b = pkM M b := by
  unfold pkM
  rw [upr_s, upr_upr, p4_p4]
/-- all wants are met by what is not broken -/
def wok (wo wn : Nat → Int32) (br : Int32) : Nat → Bool
  | 0 => true
  | n + 1 => wok wo wn br n && decide (bcE (wo n &&& (br ^^^ (-1))) = wn n)
/-- the step of look() -/
def lkS (co : Int32) (w : Nat) (wo wn : Nat → Int32) (k : Pk) (q : Int32 × Int32) : Pk :=
  if wok wo wn q.2 w then (k.1 + 1, if decide (k.1 = 0) then q.1 else k.2.1, k.2.2.1 &&& q.1, k.2.2.2 ||| ((1 : Int32) <<< (bcE (co &&& (q.2 ^^^ (-1))) &&& 31)))
  else (k.1, k.2.1, k.2.2.1, k.2.2.2 ||| ((1 : Int32) <<< (bcE (co &&& (q.2 ^^^ (-1))) &&& 31)))
theorem wok_mono (wo wn : Nat → Int32) (br : Int32) : ∀ (n k : Nat), k ≤ n → wok wo wn br k = false → wok wo wn br n = false
  | 0, k, h, hf => by
    have : k = 0 := by omega
    subst this; exact hf
  | n + 1, k, h, hf => by
    rcases (show k = n + 1 ∨ k ≤ n by omega) with h1 | h1
    · subst h1; exact hf
    · rw [wok, wok_mono wo wn br n k h1 hf]; rfl
theorem c_look {Z : List (Option Nat)} {ext : List Ds} {M : Mm} {w : Nat} (set br : Int32) (hw : M 24 4 = nI w) (hb : w ≤ 3) : Ct mX4_look [.ref 24, .int set, .int br] (SS Z ext) M (Rt none (pkM M (lkS (M 24 9) w (M 25) (M 26) (M 24 0, M 24 1, M 24 2, M 24 3) (set, br)))) := by
  refine Ct.of (by decide) (Nat.le_of_ble_eq_true rfl) ?_
  have eN : ∀ nl, up2 M 24 3 nl = pkM M (M 24 0, M 24 1, M 24 2, nl) := by
    intro nl
    funext c
    unfold up2 pkM upr p4
    by_cases hc : c = 24
    · subst hc
      funext k
      unfold upd
      by_cases h3 : k = 3
      · simp [h3]
      · by_cases h2 : k = 2
        · simp [h2]
        · by_cases h1 : k = 1
          · simp [h1]
          · by_cases h0 : k = 0 <;> simp [h0, h1, h2, h3]
    · simp [hc]
  generalize hnl : M 24 3 ||| ((1 : Int32) <<< (bcE (M 24 9 &&& (br ^^^ (-1))) &&& 31)) = nl
  refine x_aload_n dX4_look_0 rfl ?_
  refine x_dup dX4_look_1 rfl ?_
  refine x_geti fl_X4_46 dX4_look_2 sf_24 rfl ?_
  refine x_iconst (v := 1) dX4_look_5 (by decide) ?_
  refine x_aload_n dX4_look_6 rfl ?_
  refine x_geti fl_X4_49 dX4_look_7 sf_24 rfl ?_
  refine x_iload_n dX4_look_10 rfl ?_
  refine x_iconst (v := -1) dX4_look_11 (by decide) ?_
  refine x_ixor dX4_look_12 ?_
  refine x_iand dX4_look_13 ?_
  refine x_csd mf_J6_bitCount_0f7a4 ml_X4_60 dX4_look_14 rfl ⟨by decide, by decide⟩ (Nat.le_of_ble_eq_true rfl) ⟨rfl, rfl⟩ ⟨Nat.le_of_ble_eq_true rfl, Nat.le_of_ble_eq_true rfl⟩ (c_bitCount _) ?_
  refine x_ishl dX4_look_17 ?_
  refine x_ior dX4_look_18 ?_
  refine x_put fl_X4_46 dX4_look_19 sf_24 rfl rfl rfl ?_
  refine x_iconst (v := 0) dX4_look_22 (by decide) ?_
  refine x_istore_n dX4_look_23 (by decide) ?_
  rw [show up2 M 24 3 (M 24 3 ||| ((1 : Int32) <<< (bcE (M 24 9 &&& (br ^^^ (-1))) &&& 31))) = up2 M 24 3 nl by rw [hnl]]
  have hloop : ∀ k, k ≤ w → wok (M 25) (M 26) br k = true → XW mX4_look (Fc mX4_look (fun r S' M' => S' = SS Z ext ∧ Rt none (pkM M (lkS (M 24 9) w (M 25) (M 26) (M 24 0, M 24 1, M 24 2, M 24 3) (set, br))) r M')) 0 0 (SS Z ext) (up2 M 24 3 nl) 24 [some (.ref 24), some (.int set), some (.int br), some (.int (nI k))] [] := by
    refine lup (P := fun k => wok (M 25) (M 26) br k = true → XW mX4_look (Fc mX4_look (fun r S' M' => S' = SS Z ext ∧ Rt none (pkM M (lkS (M 24 9) w (M 25) (M 26) (M 24 0, M 24 1, M 24 2, M 24 3) (set, br))) r M')) 0 0 (SS Z ext) (up2 M 24 3 nl) 24 [some (.ref 24), some (.int set), some (.int br), some (.int (nI k))] []) ?_ ?_
    · intro hk
      have hpost : ∀ le, (le = if decide (M 24 0 = 0) then set else M 24 1) → up2 (up2 (up2 (up2 M 24 3 nl) 24 1 le) 24 0 (M 24 0 + 1)) 24 2 (M 24 2 &&& set) = pkM M (lkS (M 24 9) w (M 25) (M 26) (M 24 0, M 24 1, M 24 2, M 24 3) (set, br)) := by
        intro le hle
        rw [lkS, hk, if_pos rfl, ← hle, hnl]
        funext c
        unfold up2 pkM upr p4
        by_cases hc : c = 24
        · subst hc
          funext k
          unfold upd
          by_cases h3 : k = 3
          · simp [h3]
          · by_cases h2 : k = 2
            · simp [h2]
            · by_cases h1 : k = 1
              · simp [h1]
              · by_cases h0 : k = 0 <;> simp [h0, h1, h2, h3]
        · simp [hc]
      have e1 : up2 (up2 M 24 3 nl) 24 1 (M 24 1) = up2 M 24 3 nl := up2_self rfl
      refine x_iload_n dX4_look_24 rfl ?_
      refine x_aload_n dX4_look_25 rfl ?_
      refine x_geti fl_X4_24 dX4_look_26 sf_24 rfl ?_
      refine x_icmp_ge 61 dX4_look_29 (by decide) (fun _ => ?_) (fun hc_ => absurd (by show M 24 4 ≤ nI w; rw [hw]; exact nI_le (Nat.le_refl _) (by omega)) hc_)
      refine x_aload_n dX4_look_61 rfl ?_
      refine x_geti fl_X4_37 dX4_look_62 sf_24 rfl ?_
      refine x_if_ne 73 dX4_look_65 (by decide) (fun h65 => ?_) (fun h65 => ?_)
      · refine x_aload_n dX4_look_73 rfl ?_
        refine x_dup dX4_look_74 rfl ?_
        refine x_geti fl_X4_37 dX4_look_75 sf_24 rfl ?_
        refine x_iconst (v := 1) dX4_look_78 (by decide) ?_
        refine x_iadd dX4_look_79 ?_
        refine x_put fl_X4_37 dX4_look_80 sf_24 rfl rfl rfl ?_
        refine x_aload_n dX4_look_83 rfl ?_
        refine x_dup dX4_look_84 rfl ?_
        refine x_geti fl_X4_43 dX4_look_85 sf_24 rfl ?_
        refine x_iload_n dX4_look_88 rfl ?_
        refine x_iand dX4_look_89 ?_
        refine x_put fl_X4_43 dX4_look_90 sf_24 rfl rfl rfl ?_
        exact x_ret dX4_look_93 rfl (Nat.le_refl _) (Nat.le_refl _) ⟨rfl, ⟨rfl, by first | (exact hpost set (by rw [decide_eq_true (show M 24 0 = 0 from h65)]; rfl)) | (have h9 := hpost (M 24 1) (by rw [decide_eq_false (show ¬ M 24 0 = 0 from h65)]; rfl); rw [e1] at h9; exact h9)⟩⟩
      · refine x_aload_n dX4_look_68 rfl ?_
        refine x_iload_n dX4_look_69 rfl ?_
        refine x_put fl_X4_40 dX4_look_70 sf_24 rfl rfl rfl ?_
        refine x_aload_n dX4_look_73 rfl ?_
        refine x_dup dX4_look_74 rfl ?_
        refine x_geti fl_X4_37 dX4_look_75 sf_24 rfl ?_
        refine x_iconst (v := 1) dX4_look_78 (by decide) ?_
        refine x_iadd dX4_look_79 ?_
        refine x_put fl_X4_37 dX4_look_80 sf_24 rfl rfl rfl ?_
        refine x_aload_n dX4_look_83 rfl ?_
        refine x_dup dX4_look_84 rfl ?_
        refine x_geti fl_X4_43 dX4_look_85 sf_24 rfl ?_
        refine x_iload_n dX4_look_88 rfl ?_
        refine x_iand dX4_look_89 ?_
        refine x_put fl_X4_43 dX4_look_90 sf_24 rfl rfl rfl ?_
        exact x_ret dX4_look_93 rfl (Nat.le_refl _) (Nat.le_refl _) ⟨rfl, ⟨rfl, by first | (exact hpost set (by rw [decide_eq_true (show M 24 0 = 0 from h65)]; rfl)) | (have h9 := hpost (M 24 1) (by rw [decide_eq_false (show ¬ M 24 0 = 0 from h65)]; rfl); rw [e1] at h9; exact h9)⟩⟩
    · intro k hk ih hwk
      by_cases hl : bcE (M 25 k &&& (br ^^^ (-1))) = M 26 k
      · have ih := ih (by rw [wok, hwk, decide_eq_true hl]; rfl)
        rw [nI_succ] at ih
        refine x_iload_n dX4_look_24 rfl ?_
        refine x_aload_n dX4_look_25 rfl ?_
        refine x_geti fl_X4_24 dX4_look_26 sf_24 rfl ?_
        refine x_icmp_ge 61 dX4_look_29 (by decide) (fun hc_ => absurd hc_ (by show ¬ M 24 4 ≤ nI k; rw [hw]; exact nI_ge hk (by omega))) (fun _ => ?_)
        refine x_aload_n dX4_look_32 rfl ?_
        refine x_getr fl_X4_9 dX4_look_33 sf_24 rfl ?_
        refine x_iload_n dX4_look_36 rfl ?_
        refine x_iald dX4_look_37 sf_25 rfl (by omega) (by decide) ?_
        refine x_iload_n dX4_look_38 rfl ?_
        refine x_iconst (v := -1) dX4_look_39 (by decide) ?_
        refine x_ixor dX4_look_40 ?_
        refine x_iand dX4_look_41 ?_
        refine x_csd mf_J6_bitCount_0f7a4 ml_X4_60 dX4_look_42 rfl ⟨by decide, by decide⟩ (Nat.le_of_ble_eq_true rfl) ⟨rfl, rfl⟩ ⟨Nat.le_of_ble_eq_true rfl, Nat.le_of_ble_eq_true rfl⟩ (c_bitCount _) ?_
        refine x_aload_n dX4_look_45 rfl ?_
        refine x_getr fl_X4_15 dX4_look_46 sf_24 rfl ?_
        refine x_iload_n dX4_look_49 rfl ?_
        refine x_iald dX4_look_50 sf_26 rfl (by omega) (by decide) ?_
        refine x_icmp_eq 55 dX4_look_51 (by decide) (fun _ => ?_) (fun hc_ => absurd (hl) hc_)
        refine x_iinc1 dX4_look_55 rfl (by decide) ?_
        refine x_goto 24 dX4_look_58 (by decide) ?_
        exact ih
      · have hwf : wok (M 25) (M 26) br w = false := wok_mono _ _ _ w (k + 1) (by omega) (by rw [wok, decide_eq_false hl, Bool.and_false])
        refine x_iload_n dX4_look_24 rfl ?_
        refine x_aload_n dX4_look_25 rfl ?_
        refine x_geti fl_X4_24 dX4_look_26 sf_24 rfl ?_
        refine x_icmp_ge 61 dX4_look_29 (by decide) (fun hc_ => absurd hc_ (by show ¬ M 24 4 ≤ nI k; rw [hw]; exact nI_ge hk (by omega))) (fun _ => ?_)
        refine x_aload_n dX4_look_32 rfl ?_
        refine x_getr fl_X4_9 dX4_look_33 sf_24 rfl ?_
        refine x_iload_n dX4_look_36 rfl ?_
        refine x_iald dX4_look_37 sf_25 rfl (by omega) (by decide) ?_
        refine x_iload_n dX4_look_38 rfl ?_
        refine x_iconst (v := -1) dX4_look_39 (by decide) ?_
        refine x_ixor dX4_look_40 ?_
        refine x_iand dX4_look_41 ?_
        refine x_csd mf_J6_bitCount_0f7a4 ml_X4_60 dX4_look_42 rfl ⟨by decide, by decide⟩ (Nat.le_of_ble_eq_true rfl) ⟨rfl, rfl⟩ ⟨Nat.le_of_ble_eq_true rfl, Nat.le_of_ble_eq_true rfl⟩ (c_bitCount _) ?_
        refine x_aload_n dX4_look_45 rfl ?_
        refine x_getr fl_X4_15 dX4_look_46 sf_24 rfl ?_
        refine x_iload_n dX4_look_49 rfl ?_
        refine x_iald dX4_look_50 sf_26 rfl (by omega) (by decide) ?_
        refine x_icmp_eq 55 dX4_look_51 (by decide) (fun hc_ => absurd hc_ (hl)) (fun _ => ?_)
        exact x_ret dX4_look_54 rfl (Nat.le_refl _) (Nat.le_refl _) ⟨rfl, ⟨rfl, by rw [lkS, hwf, if_neg (by decide), hnl]; exact eN nl⟩⟩
  exact hloop 0 (by omega) rfl
/-- the sets of n below p, the highest first: with what they break -/
def Px (b t : Nat → Int32) : Nat → Nat → Int32 → Int32 → List (Int32 × Int32)
  | 0, _, s, k => [(s, k)]
  | _ + 1, 0, _, _ => []
  | n + 1, p + 1, s, k => Px b t (n + 1) p s k ++ Px b t n p (s ||| b p) (k ||| t p)
theorem Px_0 (b t : Nat → Int32) (p : Nat) (s k : Int32) : Px b t 0 p s k = [(s, k)] := by cases p <;> rfl
theorem Px_nil (b t : Nat → Int32) : ∀ (p n : Nat) (s k : Int32), p < n → Px b t n p s k = []
  | 0, 0, _, _, h => absurd h (by omega)
  | 0, n + 1, s, k, _ => rfl
  | p + 1, 0, _, _, h => absurd h (by omega)
  | p + 1, n + 1, s, k, h => by rw [Px, Px_nil b t p (n + 1) s k (by omega), Px_nil b t p n _ _ (by omega)]; rfl
def pk4 (M : Mm) : Pk := (M 24 0, M 24 1, M 24 2, M 24 3)
theorem pk4_pkM (M : Mm) (k : Pk) : pk4 (pkM M k) = k := rfl
theorem pkM_self (M : Mm) : pkM M (pk4 M) = M := by
  funext c
  unfold pkM upr p4 pk4
  by_cases hc : c = 24
  · subst hc
    funext k
    unfold upd
    by_cases h3 : k = 3
    · simp [h3]
    · by_cases h2 : k = 2
      · simp [h2]
      · by_cases h1 : k = 1
        · simp [h1]
        · by_cases h0 : k = 0 <;> simp [h0, h1, h2, h3]
  · simp [hc]
theorem c_pickBelow {Z : List (Option Nat)} {ext : List Ds} {w : Nat} (hb : w ≤ 3) : ∀ (n d p : Nat) (M : Mm) (s k : Int32), n + 2 ≤ d → p ≤ 31 → n ≤ 4 → M 24 4 = nI w → Ct (mX4_pickBelow d) [.ref 24, .int (nI p), .int (nI n), .int s, .int k] (SS Z ext) M (Rt none (pkM M ((Px (M 27) (M 28) n p s k).foldl (lkS (M 24 9) w (M 25) (M 26)) (pk4 M)))) := by
  intro n
  induction n with
  | zero =>
    intro d p M s k hd hp hn hw
    obtain ⟨d, rfl⟩ : ∃ d', d = d' + 1 := ⟨d - 1, by omega⟩
    rw [Px_0]
    refine Ct.of rfl (Nat.le_of_ble_eq_true rfl) ?_
    refine x_iload_n dX4_pickBelow_0 rfl ?_
    refine x_if_gt 12 dX4_pickBelow_1 (by decide) (fun hc_ => absurd hc_ (by decide)) (fun _ => ?_)
    refine x_aload_n dX4_pickBelow_4 rfl ?_
    refine x_iload_n dX4_pickBelow_5 rfl ?_
    refine x_iload dX4_pickBelow_6 rfl ?_
    refine x_cvd mf_X4_look ml_X4_56 dX4_pickBelow_8 rfl sf_24 rfl ⟨by show 1 + 1 ≤ d + 1; omega, by show 8 + (4 + 11) + 40 * 1 ≤ 40 * (d + 1); omega⟩ (Nat.le_of_ble_eq_true rfl) ⟨rfl, rfl⟩ ⟨Nat.le_of_ble_eq_true rfl, Nat.le_of_ble_eq_true rfl⟩ (c_look s k hw hb) ?_
    exact x_ret dX4_pickBelow_11 rfl (Nat.le_refl _) (Nat.le_refl _) ⟨rfl, ⟨rfl, rfl⟩⟩
  | succ n ih =>
    intro d p M s k hd hp hn hw
    obtain ⟨d, rfl⟩ : ∃ d', d = d' + 1 := ⟨d - 1, by omega⟩
    refine Ct.of rfl (Nat.le_of_ble_eq_true rfl) ?_
    have hnn : nI (n + 1) - 1 = nI n := nI_pred n
    by_cases hpn : p ≤ n
    · rw [Px_nil _ _ p (n + 1) s k (by omega), List.foldl_nil, pkM_self]
      refine x_iload_n dX4_pickBelow_0 rfl ?_
      refine x_if_gt 12 dX4_pickBelow_1 (by decide) (fun _ => ?_) (fun hc_ => absurd (nI_lt (a := 0) (by omega) (by omega)) hc_)
      refine x_iload_n dX4_pickBelow_12 rfl ?_
      refine x_iconst (v := 1) dX4_pickBelow_13 (by decide) ?_
      refine x_isub dX4_pickBelow_14 ?_
      rw [hnn]
      refine x_istore dX4_pickBelow_15 (Nat.le_of_ble_eq_true rfl) ?_
      refine x_iload dX4_pickBelow_17 rfl ?_
      refine x_iload_n dX4_pickBelow_19 rfl ?_
      refine x_icmp_ge 57 dX4_pickBelow_20 (by decide) (fun _ => ?_) (fun hc_ => absurd (nI_le hpn (by omega)) hc_)
      exact x_ret dX4_pickBelow_57 rfl (Nat.le_refl _) (Nat.le_refl _) ⟨rfl, ⟨rfl, rfl⟩⟩
    · have loop := lupb (P := fun i => XW (mX4_pickBelow (d + 1)) (Fc (mX4_pickBelow (d + 1)) (fun r S' M' => S' = SS Z ext ∧ Rt none (pkM M ((Px (M 27) (M 28) (n + 1) p s k).foldl (lkS (M 24 9) w (M 25) (M 26)) (pk4 M))) r M')) 0 0 (SS Z ext) (pkM M ((Px (M 27) (M 28) (n + 1) i s k).foldl (lkS (M 24 9) w (M 25) (M 26)) (pk4 M))) 17 [some (.ref 24), some (.int (nI p)), some (.int (nI (n + 1))), some (.int s), some (.int k), some (.int (nI i))] []) (N := p) (k0 := n) ?_ ?_ (by omega)
      · rw [Px_nil _ _ n (n + 1) s k (by omega), List.foldl_nil, pkM_self] at loop
        refine x_iload_n dX4_pickBelow_0 rfl ?_
        refine x_if_gt 12 dX4_pickBelow_1 (by decide) (fun _ => ?_) (fun hc_ => absurd (nI_lt (a := 0) (by omega) (by omega)) hc_)
        refine x_iload_n dX4_pickBelow_12 rfl ?_
        refine x_iconst (v := 1) dX4_pickBelow_13 (by decide) ?_
        refine x_isub dX4_pickBelow_14 ?_
        rw [hnn]
        refine x_istore dX4_pickBelow_15 (Nat.le_of_ble_eq_true rfl) ?_
        exact loop
      · refine x_iload dX4_pickBelow_17 rfl ?_
        refine x_iload_n dX4_pickBelow_19 rfl ?_
        refine x_icmp_ge 57 dX4_pickBelow_20 (by decide) (fun _ => ?_) (fun hc_ => absurd (nI_le (Nat.le_refl _) (by omega)) hc_)
        exact x_ret dX4_pickBelow_57 rfl (Nat.le_refl _) (Nat.le_refl _) ⟨rfl, ⟨rfl, rfl⟩⟩
      · intro i hi1 hi2 ih2
        rw [nI_succ i, Px, List.foldl_append] at ih2
        generalize (Px (M 27) (M 28) (n + 1) i s k).foldl (lkS (M 24 9) w (M 25) (M 26)) (pk4 M) = acc at ih2 ⊢
        have hc := ih d i (pkM M acc) (s ||| M 27 i) (k ||| M 28 i) (by omega) (by omega) (by omega) hw
        rw [pkM_pkM, pk4_pkM, show pkM M acc 24 9 = M 24 9 from rfl, show pkM M acc 25 = M 25 from rfl, show pkM M acc 26 = M 26 from rfl, show pkM M acc 27 = M 27 from rfl, show pkM M acc 28 = M 28 from rfl] at hc
        refine x_iload dX4_pickBelow_17 rfl ?_
        refine x_iload_n dX4_pickBelow_19 rfl ?_
        refine x_icmp_ge 57 dX4_pickBelow_20 (by decide) (fun hc_ => absurd hc_ (nI_ge hi2 (by omega))) (fun _ => ?_)
        refine x_aload_n dX4_pickBelow_23 rfl ?_
        refine x_iload dX4_pickBelow_24 rfl ?_
        refine x_iload_n dX4_pickBelow_26 rfl ?_
        refine x_iconst (v := 1) dX4_pickBelow_27 (by decide) ?_
        refine x_isub dX4_pickBelow_28 ?_
        refine x_iload_n dX4_pickBelow_29 rfl ?_
        rw [hnn]
        refine x_aload_n dX4_pickBelow_30 rfl ?_
        refine x_getr fl_X4_18 dX4_pickBelow_31 sf_24 rfl ?_
        refine x_iload dX4_pickBelow_34 rfl ?_
        refine x_iald dX4_pickBelow_36 sf_27 rfl (by omega) (by decide) ?_
        refine x_ior dX4_pickBelow_37 ?_
        refine x_iload dX4_pickBelow_38 rfl ?_
        refine x_aload_n dX4_pickBelow_40 rfl ?_
        refine x_getr fl_X4_21 dX4_pickBelow_41 sf_24 rfl ?_
        refine x_iload dX4_pickBelow_44 rfl ?_
        refine x_iald dX4_pickBelow_46 sf_28 rfl (by omega) (by decide) ?_
        refine x_ior dX4_pickBelow_47 ?_
        refine x_csd (mf_X4_pickBelow _) ml_X4_52 dX4_pickBelow_48 rfl ⟨Nat.le_refl _, by show 8 + (6 + 11) + 40 * d ≤ 40 * (d + 1); omega⟩ (Nat.le_of_ble_eq_true rfl) ⟨rfl, rfl⟩ ⟨Nat.le_of_ble_eq_true rfl, Nat.le_of_ble_eq_true rfl⟩ (hc) ?_
        refine x_iinc1 dX4_pickBelow_51 rfl (Nat.le_of_ble_eq_true rfl) ?_
        refine x_goto 17 dX4_pickBelow_54 (by decide) ?_
        exact ih2
