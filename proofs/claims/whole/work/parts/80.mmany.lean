/-! ===== the reference: gone, sizes ===== -/
theorem mx_lt {v x y : Int32} : mx v x < y ↔ v < y ∧ x < y := by
  unfold mx
  by_cases h : v ≤ x
  · rw [if_pos h]
    rw [fa_le] at h
    simp only [fa_lt]
    omega
  · rw [if_neg h]
    rw [fa_le] at h
    simp only [fa_lt]
    omega
theorem lies_in (go : Int32) {q k : Nat} (hq : q < 32) (hk : k < 32) : lies (inS go (nI q)) (nI k) = (lies go (nI k) || decide (k = q)) := by
  rw [lies_bi _ hk, lies_bi _ hk]
  show bi (go ||| b1 q) k = _
  rw [bi_or, bi_b1 hq]
theorem hiO_in {go : Int32} {c : Nat → Int32} {x : Int32} {q : Nat} (h : hiO go c x) (hq : q < 31) : hiO (inS go (nI q)) c (mx (nI q) x) := by
  intro mt hmt
  rw [mx_lt, h mt hmt, nI_ltI (by omega) (by omega)]
  constructor
  · rintro ⟨h1, h2⟩ k hk h3
    rw [lies_in go (by omega) (by omega)] at h3
    rcases h3 with h3 | h3
    · rw [Bool.or_eq_true] at h3
      rcases h3 with h3 | h3
      · exact h2 k hk (Or.inl h3)
      · rw [of_decide_eq_true h3]; exact h1
    · exact h2 k hk (Or.inr h3)
  · intro h1
    refine ⟨h1 q hq (Or.inl ?_), fun k hk h2 => h1 k hk ?_⟩
    · rw [lies_in go (by omega) (by omega)]; simp
    · rcases h2 with h2 | h2
      · left; rw [lies_in go (by omega) (by omega), h2]; rfl
      · exact Or.inr h2
theorem hiO_c {go : Int32} {c : Nat → Int32} {x v : Int32} {q : Nat} (h : hiO go c x) (hq : q < 31) (hv : ¬ v = 0) : hiO go (upd c q v) (mx (nI q) x) := by
  intro mt hmt
  rw [mx_lt, h mt hmt, nI_ltI (by omega) (by omega)]
  constructor
  · rintro ⟨h1, h2⟩ k hk h3
    by_cases hkq : k = q
    · rw [hkq]; exact h1
    · rcases h3 with h3 | h3
      · exact h2 k hk (Or.inl h3)
      · exact h2 k hk (Or.inr (by simpa [upd, hkq] using h3))
  · intro h1
    refine ⟨h1 q hq (Or.inr (by simp [upd, hv])), fun k hk h2 => h1 k hk ?_⟩
    by_cases hkq : k = q
    · right; simp [upd, hkq, hv]
    · rcases h2 with h2 | h2
      · exact Or.inl h2
      · right; simpa [upd, hkq] using h2
abbrev exP (X : Ex (Dr × Nat)) (t : Nat → Int32) (n : Nat) (M : Mm) (r : Option Value) (M' : Mm) : Prop := r = none ∧ Fp M M' ∧ match X with
  | .inl e => Er M' e
  | .inr (D', s') => (tK t n s' ≠ 4 → RD D' M') ∧ Ld t n s' (M' 48)
def lkOf (t : Nat → Int32) (n f : Nat) (D : Dr) (s : Nat) : Ex (Dr × Nat) := match mnA t n 0 30 f D.2.1.1 s with
  | .inl e => .inl e
  | .inr (g, s1) => .inr ((D.1, (g, D.2.1.2), D.2.2), s1)
def lkZf (t : Nat → Int32) (n f : Nat) (D : Dr) (s : Nat) : Ex (Dr × Nat) := match mnA t n 1 3 f D.2.1.2 s with
  | .inl e => .inl e
  | .inr (g, s1) => .inr ((D.1, (D.2.1.1, g), D.2.2), s1)
theorem lkOf_s (t : Nat → Int32) (n f : Nat) (D : Dr) (s : Nat) : lkOf t n (f + 1) D s = match numA t n 0 30 s with
    | .inl e => .inl e
    | .inr v => if lies D.2.1.1 v then .inl (4, s) else if tK t n (nx t n s) = 2 then lkOf t n f (D.1, (inS D.2.1.1 v, D.2.1.2), D.2.2) (nx t n s) else .inr ((D.1, (inS D.2.1.1 v, D.2.1.2), D.2.2), nx t n s) := by
  unfold lkOf
  rw [mnA]
  cases numA t n 0 30 s with
  | inl e => rfl
  | inr v =>
    dsimp only
    cases lies D.2.1.1 v with
    | true => rfl
    | false =>
      by_cases h : tK t n (nx t n s) = 2
      · rw [if_neg (by decide), if_pos h, if_neg (by decide), if_pos h]
      · rw [if_neg (by decide), if_neg h, if_neg (by decide), if_neg h]
theorem lkZf_s (t : Nat → Int32) (n f : Nat) (D : Dr) (s : Nat) : lkZf t n (f + 1) D s = match numA t n 1 3 s with
    | .inl e => .inl e
    | .inr v => if lies D.2.1.2 v then .inl (4, s) else if tK t n (nx t n s) = 2 then lkZf t n f (D.1, (D.2.1.1, inS D.2.1.2 v), D.2.2) (nx t n s) else .inr ((D.1, (D.2.1.1, inS D.2.1.2 v), D.2.2), nx t n s) := by
  unfold lkZf
  rw [mnA]
  cases numA t n 1 3 s with
  | inl e => rfl
  | inr v =>
    dsimp only
    cases lies D.2.1.2 v with
    | true => rfl
    | false =>
      by_cases h : tK t n (nx t n s) = 2
      · rw [if_neg (by decide), if_pos h, if_neg (by decide), if_pos h]
      · rw [if_neg (by decide), if_neg h, if_neg (by decide), if_neg h]
theorem nlies {L x : Int32} (h : lies L x = true) : ¬ (L >>> (x &&& 31)) &&& 1 = 0 := fun q => by rw [lies_f q] at h; cases h
theorem ylies {L x : Int32} (h : lies L x = false) : (L >>> (x &&& 31)) &&& 1 = 0 := by
  by_cases q : (L >>> (x &&& 31)) &&& 1 = 0
  · exact q
  · rw [lies_t q] at h; cases h

abbrev goQ (Z : List (Option Nat)) (ext : List Ds) (X : Ex (Dr × Nat)) (t : Nat → Int32) (n : Nat) (M : Mm) : Fn := Fc mX10_readGone (fun r' S' M' => S' = SS Z ext ∧ exP X t n M r' M')
theorem go_e1 {Z : List (Option Nat)} {ext : List Ds} {X : Ex (Dr × Nat)} {t : Nat → Int32} {n : Nat} {M M1 : Mm} {l1 l2 : Option Value} (h : ¬ M1 48 24 = 0) (hP : exP X t n M none M1) : XW mX10_readGone (goQ Z ext X t n M) 0 0 (SS Z ext) M1 2 [some (.ref 48), l1, l2] [] := by
  refine x_aload_n dX10_readGone_2 rfl ?_
  refine x_geti fl_X10_138 dX10_readGone_3 sf_48 rfl ?_
  refine x_if_ne 79 dX10_readGone_6 (by decide) (fun _ => ?_) (fun hc_ => absurd hc_ (h))
  exact x_ret dX10_readGone_79 rfl (Nat.le_refl _) (Nat.le_refl _) ⟨rfl, hP⟩
theorem go_e2 {Z : List (Option Nat)} {ext : List Ds} {X : Ex (Dr × Nat)} {t : Nat → Int32} {n : Nat} {M M1 : Mm} {l2 : Option Value} (hP : exP X t n M none M1) : XW mX10_readGone (goQ Z ext X t n M) 0 0 (SS Z ext) M1 2 [some (.ref 48), some (.int 0), l2] [] := by
  by_cases h : M1 48 24 = 0
  · refine x_aload_n dX10_readGone_2 rfl ?_
    refine x_geti fl_X10_138 dX10_readGone_3 sf_48 rfl ?_
    refine x_if_ne 79 dX10_readGone_6 (by decide) (fun hc_ => absurd (h) hc_) (fun _ => ?_)
    refine x_iload_n dX10_readGone_9 rfl ?_
    refine x_if_eq 79 dX10_readGone_10 (by decide) (fun _ => ?_) (fun hc_ => absurd (rfl) hc_)
    exact x_ret dX10_readGone_79 rfl (Nat.le_refl _) (Nat.le_refl _) ⟨rfl, hP⟩
  · exact go_e1 h hP
theorem go_at {Z : List (Option Nat)} {ext : List Ds} {t : Nat → Int32} {n : Nat} {M : Mm} : ∀ (f : Nat) (D : Dr) (s : Nat) (M1 : Mm) (l2 : Option Value), n - s < f → TP t n M1 → Ld t n s (M1 48) → tK t n s ≠ 4 → s ≤ n → RD D M1 → Fp M M1 → XW mX10_readGone (goQ Z ext (lkOf t n f D s) t n M) 0 0 (SS Z ext) M1 2 [some (.ref 48), some (.int 1), l2] [] := by
  intro f
  induction f with
  | zero => intro D s M1 l2 h; omega
  | succ f ih =>
    intro D s M1 l2 hf hT hL hK hs hD hF
    obtain ⟨h24, h20, h22, h23⟩ := hL.2.2 hK
    have cl := c_m_lookedMatch (Z := Z) (ext := ext) (M := M1) hL
    unfold lmP at cl
    rw [lkOf_s]
    cases hN : numA t n 0 30 s with
    | inl e =>
      rw [hN] at cl
      refine x_aload_n dX10_readGone_2 rfl ?_
      refine x_geti fl_X10_138 dX10_readGone_3 sf_48 rfl ?_
      refine x_if_ne 79 dX10_readGone_6 (by decide) (fun hc_ => absurd (h24) hc_) (fun _ => ?_)
      refine x_iload_n dX10_readGone_9 rfl ?_
      refine x_if_eq 79 dX10_readGone_10 (by decide) (fun hc_ => absurd hc_ (by decide)) (fun _ => ?_)
      refine x_aload_n dX10_readGone_13 rfl ?_
      refine x_cv mf_X10_lookedMatch ml_X10_182 dX10_readGone_14 rfl sf_48 rfl ⟨by decide, by decide⟩ (Nat.le_of_ble_eq_true rfl) ⟨rfl, rfl⟩ ⟨Nat.le_of_ble_eq_true rfl, Nat.le_of_ble_eq_true rfl⟩ (cl) (fun r M2 ⟨hr, hF2, hE⟩ => ?_)
      subst hr
      refine x_istore_n dX10_readGone_17 (by decide) ?_
      refine x_aload_n dX10_readGone_18 rfl ?_
      refine x_geti fl_X10_138 dX10_readGone_19 sf_48 rfl ?_
      refine x_if_ne 58 dX10_readGone_22 (by decide) (fun _ => ?_) (fun hc_ => absurd hc_ (pos_ne hE.pos))
      refine x_aload_n dX10_readGone_58 rfl ?_
      refine x_cvd mf_X10_next ml_X10_179 dX10_readGone_59 rfl sf_48 rfl ⟨by decide, by decide⟩ (Nat.le_of_ble_eq_true rfl) ⟨rfl, rfl⟩ ⟨Nat.le_of_ble_eq_true rfl, Nat.le_of_ble_eq_true rfl⟩ (c_m_nextZ hE.pos) ?_
      refine x_aload_n dX10_readGone_62 rfl ?_
      refine x_geti fl_X10_158 dX10_readGone_63 sf_48 rfl ?_
      refine x_iconst (v := 2) dX10_readGone_66 (by decide) ?_
      refine x_icmp_ne 74 dX10_readGone_67 (by decide) (fun h67 => ?_) (fun h67 => ?_)
      · refine x_iconst (v := 0) dX10_readGone_74 (by decide) ?_
        refine x_istore_n dX10_readGone_75 (by decide) ?_
        refine x_goto 2 dX10_readGone_76 (by decide) ?_
        exact go_e1 (pos_ne hE.pos) ⟨rfl, hF.tr hF2, hE⟩
      · refine x_iconst (v := 1) dX10_readGone_70 (by decide) ?_
        refine x_goto 75 dX10_readGone_71 (by decide) ?_
        refine x_istore_n dX10_readGone_75 (by decide) ?_
        refine x_goto 2 dX10_readGone_76 (by decide) ?_
        exact go_e1 (pos_ne hE.pos) ⟨rfl, hF.tr hF2, hE⟩
    | inr v =>
      rw [hN] at cl
      obtain ⟨hK2, hrg, -⟩ := numA_r hN
      obtain ⟨q, hq0, hq1, hq⟩ := rg_nat (a := 0) (b := 30) (by decide) (by decide) hrg
      have hgo : M1 48 12 = D.2.1.1 := hD.2.2.2.1
      dsimp only
      cases hli : lies D.2.1.1 v with
      | true =>
        have hb : ¬ (M1 48 12 >>> (v &&& 31)) &&& 1 = 0 := by rw [hgo]; exact nlies hli
        rw [if_pos rfl]
        refine x_aload_n dX10_readGone_2 rfl ?_
        refine x_geti fl_X10_138 dX10_readGone_3 sf_48 rfl ?_
        refine x_if_ne 79 dX10_readGone_6 (by decide) (fun hc_ => absurd (h24) hc_) (fun _ => ?_)
        refine x_iload_n dX10_readGone_9 rfl ?_
        refine x_if_eq 79 dX10_readGone_10 (by decide) (fun hc_ => absurd hc_ (by decide)) (fun _ => ?_)
        refine x_aload_n dX10_readGone_13 rfl ?_
        refine x_cv mf_X10_lookedMatch ml_X10_182 dX10_readGone_14 rfl sf_48 rfl ⟨by decide, by decide⟩ (Nat.le_of_ble_eq_true rfl) ⟨rfl, rfl⟩ ⟨Nat.le_of_ble_eq_true rfl, Nat.le_of_ble_eq_true rfl⟩ (cl) (fun r M2 ⟨hr, hM⟩ => ?_)
        subst hr; subst hM
        refine x_istore_n dX10_readGone_17 (by decide) ?_
        refine x_aload_n dX10_readGone_18 rfl ?_
        refine x_geti fl_X10_138 dX10_readGone_19 sf_48 rfl ?_
        refine x_if_ne 58 dX10_readGone_22 (by decide) (fun hc_ => absurd (h24) hc_) (fun _ => ?_)
        refine x_aload_n dX10_readGone_25 rfl ?_
        refine x_aload_n dX10_readGone_26 rfl ?_
        refine x_geti fl_X10_90 dX10_readGone_27 sf_48 rfl ?_
        refine x_iload_n dX10_readGone_30 rfl ?_
        refine x_ishr dX10_readGone_31 ?_
        refine x_iconst (v := 1) dX10_readGone_32 (by decide) ?_
        refine x_iand dX10_readGone_33 ?_
        refine x_if_ne 41 dX10_readGone_34 (by decide) (fun _ => ?_) (fun hc_ => absurd hc_ (hb))
        refine x_iconst (v := 0) dX10_readGone_41 (by decide) ?_
        refine x_iconst (v := 4) dX10_readGone_42 (by decide) ?_
        refine x_cvd mf_X10_needs ml_X10_172 dX10_readGone_43 rfl sf_48 rfl ⟨by decide, by decide⟩ (Nat.le_of_ble_eq_true rfl) ⟨rfl, rfl⟩ ⟨Nat.le_of_ble_eq_true rfl, Nat.le_of_ble_eq_true rfl⟩ (c_m_needsF 4 h24) ?_
        refine x_aload_n dX10_readGone_46 rfl ?_
        refine x_dup dX10_readGone_47 rfl ?_
        refine x_geti fl_X10_90 dX10_readGone_48 sf_48 rfl ?_
        refine x_iconst (v := 1) dX10_readGone_51 (by decide) ?_
        refine x_iload_n dX10_readGone_52 rfl ?_
        refine x_ishl dX10_readGone_53 ?_
        refine x_ior dX10_readGone_54 ?_
        refine x_put fl_X10_90 dX10_readGone_55 sf_48 rfl rfl rfl ?_
        refine x_aload_n dX10_readGone_58 rfl ?_
        refine x_cvd mf_X10_next ml_X10_179 dX10_readGone_59 rfl sf_48 rfl ⟨by decide, by decide⟩ (Nat.le_of_ble_eq_true rfl) ⟨rfl, rfl⟩ ⟨Nat.le_of_ble_eq_true rfl, Nat.le_of_ble_eq_true rfl⟩ (c_m_nextZ (show (0 : Int32) < 4 by decide)) ?_
        refine x_aload_n dX10_readGone_62 rfl ?_
        refine x_geti fl_X10_158 dX10_readGone_63 sf_48 rfl ?_
        refine x_iconst (v := 2) dX10_readGone_66 (by decide) ?_
        refine x_icmp_ne 74 dX10_readGone_67 (by decide) (fun h67 => ?_) (fun h67 => ?_)
        · refine x_iconst (v := 0) dX10_readGone_74 (by decide) ?_
          refine x_istore_n dX10_readGone_75 (by decide) ?_
          refine x_goto 2 dX10_readGone_76 (by decide) ?_
          exact go_e1 (show ¬ (4 : Int32) = 0 by decide) ⟨rfl, (((hF.up _ (Or.inl ⟨by decide, by decide⟩)).up _ (Or.inr ⟨by decide, by decide⟩)).up _ (Or.inr ⟨by decide, by decide⟩)).up _ (Or.inl ⟨by decide, by decide⟩), rfl, (show (0 : Int32) < 4 by decide), hL.1⟩
        · refine x_iconst (v := 1) dX10_readGone_70 (by decide) ?_
          refine x_goto 75 dX10_readGone_71 (by decide) ?_
          refine x_istore_n dX10_readGone_75 (by decide) ?_
          refine x_goto 2 dX10_readGone_76 (by decide) ?_
          exact go_e1 (show ¬ (4 : Int32) = 0 by decide) ⟨rfl, (((hF.up _ (Or.inl ⟨by decide, by decide⟩)).up _ (Or.inr ⟨by decide, by decide⟩)).up _ (Or.inr ⟨by decide, by decide⟩)).up _ (Or.inl ⟨by decide, by decide⟩), rfl, (show (0 : Int32) < 4 by decide), hL.1⟩
      | false =>
        have hb : (M1 48 12 >>> (v &&& 31)) &&& 1 = 0 := by rw [hgo]; exact ylies hli
        rw [if_neg (by decide)]
        have hD1 : RD (D.1, (inS D.2.1.1 v, D.2.1.2), D.2.2) (up2 (up2 M1 48 17 (mx v (M1 48 17))) 48 12 (M1 48 12 ||| ((1 : Int32) <<< (v &&& 31)))) := by
          obtain ⟨r1, r2, r3, r4, r5, r6, r7, r8⟩ := hD
          refine ⟨r1, r2, r3, (show M1 48 12 ||| ((1 : Int32) <<< (v &&& 31)) = inS D.2.1.1 v by rw [hgo]; rfl), r5, r6, r7, (show hiO (inS D.2.1.1 v) D.2.2.1 (mx v (M1 48 17)) by rw [hq]; exact hiO_in r8 (by omega))⟩
        have hF1 : Fp M (up2 (up2 M1 48 17 (mx v (M1 48 17))) 48 12 (M1 48 12 ||| ((1 : Int32) <<< (v &&& 31)))) := (hF.up _ (Or.inl ⟨by decide, by decide⟩)).up _ (Or.inl ⟨by decide, by decide⟩)
        have hT1 : TP t n (up2 (up2 M1 48 17 (mx v (M1 48 17))) 48 12 (M1 48 12 ||| ((1 : Int32) <<< (v &&& 31)))) := ⟨hT.1, hT.2⟩
        have cn := c_m_nx (Z := Z) (ext := ext) (M := up2 (up2 M1 48 17 (mx v (M1 48 17))) 48 12 (M1 48 12 ||| ((1 : Int32) <<< (v &&& 31)))) (t := t) (n := n) (s := s) hT1 hL hK hs
        have hsn : s < n := tK_in (by rw [hK2]; decide)
        have hnx := nx_gt (t := t) hsn
        have hnl := nx_le (t := t) hs
        by_cases hk2 : tK t n (nx t n s) = 2
        · rw [if_pos hk2]
          refine x_aload_n dX10_readGone_2 rfl ?_
          refine x_geti fl_X10_138 dX10_readGone_3 sf_48 rfl ?_
          refine x_if_ne 79 dX10_readGone_6 (by decide) (fun hc_ => absurd (h24) hc_) (fun _ => ?_)
          refine x_iload_n dX10_readGone_9 rfl ?_
          refine x_if_eq 79 dX10_readGone_10 (by decide) (fun hc_ => absurd hc_ (by decide)) (fun _ => ?_)
          refine x_aload_n dX10_readGone_13 rfl ?_
          refine x_cv mf_X10_lookedMatch ml_X10_182 dX10_readGone_14 rfl sf_48 rfl ⟨by decide, by decide⟩ (Nat.le_of_ble_eq_true rfl) ⟨rfl, rfl⟩ ⟨Nat.le_of_ble_eq_true rfl, Nat.le_of_ble_eq_true rfl⟩ (cl) (fun r M2 ⟨hr, hM⟩ => ?_)
          subst hr; subst hM
          refine x_istore_n dX10_readGone_17 (by decide) ?_
          refine x_aload_n dX10_readGone_18 rfl ?_
          refine x_geti fl_X10_138 dX10_readGone_19 sf_48 rfl ?_
          refine x_if_ne 58 dX10_readGone_22 (by decide) (fun hc_ => absurd (h24) hc_) (fun _ => ?_)
          refine x_aload_n dX10_readGone_25 rfl ?_
          refine x_aload_n dX10_readGone_26 rfl ?_
          refine x_geti fl_X10_90 dX10_readGone_27 sf_48 rfl ?_
          refine x_iload_n dX10_readGone_30 rfl ?_
          refine x_ishr dX10_readGone_31 ?_
          refine x_iconst (v := 1) dX10_readGone_32 (by decide) ?_
          refine x_iand dX10_readGone_33 ?_
          refine x_if_ne 41 dX10_readGone_34 (by decide) (fun hc_ => absurd (hb) hc_) (fun _ => ?_)
          refine x_iconst (v := 1) dX10_readGone_37 (by decide) ?_
          refine x_goto 42 dX10_readGone_38 (by decide) ?_
          refine x_iconst (v := 4) dX10_readGone_42 (by decide) ?_
          refine x_cvd mf_X10_needs ml_X10_172 dX10_readGone_43 rfl sf_48 rfl ⟨by decide, by decide⟩ (Nat.le_of_ble_eq_true rfl) ⟨rfl, rfl⟩ ⟨Nat.le_of_ble_eq_true rfl, Nat.le_of_ble_eq_true rfl⟩ (c_m_needsT 4) ?_
          refine x_aload_n dX10_readGone_46 rfl ?_
          refine x_dup dX10_readGone_47 rfl ?_
          refine x_geti fl_X10_90 dX10_readGone_48 sf_48 rfl ?_
          refine x_iconst (v := 1) dX10_readGone_51 (by decide) ?_
          refine x_iload_n dX10_readGone_52 rfl ?_
          refine x_ishl dX10_readGone_53 ?_
          refine x_ior dX10_readGone_54 ?_
          refine x_put fl_X10_90 dX10_readGone_55 sf_48 rfl rfl rfl ?_
          refine x_aload_n dX10_readGone_58 rfl ?_
          refine x_cv mf_X10_next ml_X10_179 dX10_readGone_59 rfl sf_48 rfl ⟨by decide, by decide⟩ (Nat.le_of_ble_eq_true rfl) ⟨rfl, rfl⟩ ⟨Nat.le_of_ble_eq_true rfl, Nat.le_of_ble_eq_true rfl⟩ (cn) (fun r M4 ⟨hr, hO4, hF4, hL4⟩ => ?_)
          subst hr
          refine x_aload_n dX10_readGone_62 rfl ?_
          refine x_geti fl_X10_158 dX10_readGone_63 sf_48 rfl ?_
          refine x_iconst (v := 2) dX10_readGone_66 (by decide) ?_
          refine x_icmp_ne 74 dX10_readGone_67 (by decide) (fun hc_ => absurd (by have := (hL4.2.2 (by rw [hk2]; decide)).2.2.1; rw [hk2] at this; exact this) hc_) (fun _ => ?_)
          refine x_iconst (v := 1) dX10_readGone_70 (by decide) ?_
          refine x_goto 75 dX10_readGone_71 (by decide) ?_
          refine x_istore_n dX10_readGone_75 (by decide) ?_
          refine x_goto 2 dX10_readGone_76 (by decide) ?_
          exact ih _ _ M4 _ (by omega) (hT1.go (Fp.on hO4 hF4)) hL4 (by rw [hk2]; decide) hnl (hD1.on hO4 hF4) (hF1.tr (Fp.on hO4 hF4))
        · rw [if_neg hk2]
          by_cases hk4 : tK t n (nx t n s) = 4
          · refine x_aload_n dX10_readGone_2 rfl ?_
            refine x_geti fl_X10_138 dX10_readGone_3 sf_48 rfl ?_
            refine x_if_ne 79 dX10_readGone_6 (by decide) (fun hc_ => absurd (h24) hc_) (fun _ => ?_)
            refine x_iload_n dX10_readGone_9 rfl ?_
            refine x_if_eq 79 dX10_readGone_10 (by decide) (fun hc_ => absurd hc_ (by decide)) (fun _ => ?_)
            refine x_aload_n dX10_readGone_13 rfl ?_
            refine x_cv mf_X10_lookedMatch ml_X10_182 dX10_readGone_14 rfl sf_48 rfl ⟨by decide, by decide⟩ (Nat.le_of_ble_eq_true rfl) ⟨rfl, rfl⟩ ⟨Nat.le_of_ble_eq_true rfl, Nat.le_of_ble_eq_true rfl⟩ (cl) (fun r M2 ⟨hr, hM⟩ => ?_)
            subst hr; subst hM
            refine x_istore_n dX10_readGone_17 (by decide) ?_
            refine x_aload_n dX10_readGone_18 rfl ?_
            refine x_geti fl_X10_138 dX10_readGone_19 sf_48 rfl ?_
            refine x_if_ne 58 dX10_readGone_22 (by decide) (fun hc_ => absurd (h24) hc_) (fun _ => ?_)
            refine x_aload_n dX10_readGone_25 rfl ?_
            refine x_aload_n dX10_readGone_26 rfl ?_
            refine x_geti fl_X10_90 dX10_readGone_27 sf_48 rfl ?_
            refine x_iload_n dX10_readGone_30 rfl ?_
            refine x_ishr dX10_readGone_31 ?_
            refine x_iconst (v := 1) dX10_readGone_32 (by decide) ?_
            refine x_iand dX10_readGone_33 ?_
            refine x_if_ne 41 dX10_readGone_34 (by decide) (fun hc_ => absurd (hb) hc_) (fun _ => ?_)
            refine x_iconst (v := 1) dX10_readGone_37 (by decide) ?_
            refine x_goto 42 dX10_readGone_38 (by decide) ?_
            refine x_iconst (v := 4) dX10_readGone_42 (by decide) ?_
            refine x_cvd mf_X10_needs ml_X10_172 dX10_readGone_43 rfl sf_48 rfl ⟨by decide, by decide⟩ (Nat.le_of_ble_eq_true rfl) ⟨rfl, rfl⟩ ⟨Nat.le_of_ble_eq_true rfl, Nat.le_of_ble_eq_true rfl⟩ (c_m_needsT 4) ?_
            refine x_aload_n dX10_readGone_46 rfl ?_
            refine x_dup dX10_readGone_47 rfl ?_
            refine x_geti fl_X10_90 dX10_readGone_48 sf_48 rfl ?_
            refine x_iconst (v := 1) dX10_readGone_51 (by decide) ?_
            refine x_iload_n dX10_readGone_52 rfl ?_
            refine x_ishl dX10_readGone_53 ?_
            refine x_ior dX10_readGone_54 ?_
            refine x_put fl_X10_90 dX10_readGone_55 sf_48 rfl rfl rfl ?_
            refine x_aload_n dX10_readGone_58 rfl ?_
            refine x_cv mf_X10_next ml_X10_179 dX10_readGone_59 rfl sf_48 rfl ⟨by decide, by decide⟩ (Nat.le_of_ble_eq_true rfl) ⟨rfl, rfl⟩ ⟨Nat.le_of_ble_eq_true rfl, Nat.le_of_ble_eq_true rfl⟩ (cn) (fun r M4 ⟨hr, hO4, hF4, hL4⟩ => ?_)
            subst hr
            refine x_aload_n dX10_readGone_62 rfl ?_
            refine x_geti fl_X10_158 dX10_readGone_63 sf_48 rfl ?_
            refine x_iconst (v := 2) dX10_readGone_66 (by decide) ?_
            refine x_icmp_ne 74 dX10_readGone_67 (by decide) (fun h67 => ?_) (fun h67 => ?_)
            · refine x_iconst (v := 0) dX10_readGone_74 (by decide) ?_
              refine x_istore_n dX10_readGone_75 (by decide) ?_
              refine x_goto 2 dX10_readGone_76 (by decide) ?_
              exact go_e1 (pos_ne (hL4.er hk4).pos) ⟨rfl, hF1.tr (Fp.on hO4 hF4), fun _ => hD1.on hO4 hF4, hL4⟩
            · refine x_iconst (v := 1) dX10_readGone_70 (by decide) ?_
              refine x_goto 75 dX10_readGone_71 (by decide) ?_
              refine x_istore_n dX10_readGone_75 (by decide) ?_
              refine x_goto 2 dX10_readGone_76 (by decide) ?_
              exact go_e1 (pos_ne (hL4.er hk4).pos) ⟨rfl, hF1.tr (Fp.on hO4 hF4), fun _ => hD1.on hO4 hF4, hL4⟩
          · have hb4 := tK_4 (t := t) (n := n) (s := nx t n s)
            refine x_aload_n dX10_readGone_2 rfl ?_
            refine x_geti fl_X10_138 dX10_readGone_3 sf_48 rfl ?_
            refine x_if_ne 79 dX10_readGone_6 (by decide) (fun hc_ => absurd (h24) hc_) (fun _ => ?_)
            refine x_iload_n dX10_readGone_9 rfl ?_
            refine x_if_eq 79 dX10_readGone_10 (by decide) (fun hc_ => absurd hc_ (by decide)) (fun _ => ?_)
            refine x_aload_n dX10_readGone_13 rfl ?_
            refine x_cv mf_X10_lookedMatch ml_X10_182 dX10_readGone_14 rfl sf_48 rfl ⟨by decide, by decide⟩ (Nat.le_of_ble_eq_true rfl) ⟨rfl, rfl⟩ ⟨Nat.le_of_ble_eq_true rfl, Nat.le_of_ble_eq_true rfl⟩ (cl) (fun r M2 ⟨hr, hM⟩ => ?_)
            subst hr; subst hM
            refine x_istore_n dX10_readGone_17 (by decide) ?_
            refine x_aload_n dX10_readGone_18 rfl ?_
            refine x_geti fl_X10_138 dX10_readGone_19 sf_48 rfl ?_
            refine x_if_ne 58 dX10_readGone_22 (by decide) (fun hc_ => absurd (h24) hc_) (fun _ => ?_)
            refine x_aload_n dX10_readGone_25 rfl ?_
            refine x_aload_n dX10_readGone_26 rfl ?_
            refine x_geti fl_X10_90 dX10_readGone_27 sf_48 rfl ?_
            refine x_iload_n dX10_readGone_30 rfl ?_
            refine x_ishr dX10_readGone_31 ?_
            refine x_iconst (v := 1) dX10_readGone_32 (by decide) ?_
            refine x_iand dX10_readGone_33 ?_
            refine x_if_ne 41 dX10_readGone_34 (by decide) (fun hc_ => absurd (hb) hc_) (fun _ => ?_)
            refine x_iconst (v := 1) dX10_readGone_37 (by decide) ?_
            refine x_goto 42 dX10_readGone_38 (by decide) ?_
            refine x_iconst (v := 4) dX10_readGone_42 (by decide) ?_
            refine x_cvd mf_X10_needs ml_X10_172 dX10_readGone_43 rfl sf_48 rfl ⟨by decide, by decide⟩ (Nat.le_of_ble_eq_true rfl) ⟨rfl, rfl⟩ ⟨Nat.le_of_ble_eq_true rfl, Nat.le_of_ble_eq_true rfl⟩ (c_m_needsT 4) ?_
            refine x_aload_n dX10_readGone_46 rfl ?_
            refine x_dup dX10_readGone_47 rfl ?_
            refine x_geti fl_X10_90 dX10_readGone_48 sf_48 rfl ?_
            refine x_iconst (v := 1) dX10_readGone_51 (by decide) ?_
            refine x_iload_n dX10_readGone_52 rfl ?_
            refine x_ishl dX10_readGone_53 ?_
            refine x_ior dX10_readGone_54 ?_
            refine x_put fl_X10_90 dX10_readGone_55 sf_48 rfl rfl rfl ?_
            refine x_aload_n dX10_readGone_58 rfl ?_
            refine x_cv mf_X10_next ml_X10_179 dX10_readGone_59 rfl sf_48 rfl ⟨by decide, by decide⟩ (Nat.le_of_ble_eq_true rfl) ⟨rfl, rfl⟩ ⟨Nat.le_of_ble_eq_true rfl, Nat.le_of_ble_eq_true rfl⟩ (cn) (fun r M4 ⟨hr, hO4, hF4, hL4⟩ => ?_)
            subst hr
            refine x_aload_n dX10_readGone_62 rfl ?_
            refine x_geti fl_X10_158 dX10_readGone_63 sf_48 rfl ?_
            refine x_iconst (v := 2) dX10_readGone_66 (by decide) ?_
            refine x_icmp_ne 74 dX10_readGone_67 (by decide) (fun _ => ?_) (fun hc_ => absurd hc_ (fun q => hk2 ((nI_eq (a := tK t n (nx t n s)) (b := 2) (by omega) (by omega)).mp ((hL4.2.2 hk4).2.2.1.symm.trans q))))
            refine x_iconst (v := 0) dX10_readGone_74 (by decide) ?_
            refine x_istore_n dX10_readGone_75 (by decide) ?_
            refine x_goto 2 dX10_readGone_76 (by decide) ?_
            exact go_e2 ⟨rfl, hF1.tr (Fp.on hO4 hF4), fun _ => hD1.on hO4 hF4, hL4⟩
theorem c_m_readGone {Z : List (Option Nat)} {ext : List Ds} {M : Mm} {t : Nat → Int32} {n s : Nat} {D : Dr} (hT : TP t n M) (hL : Ld t n s (M 48)) (hK : tK t n s ≠ 4) (hs : s ≤ n) (hD : RD D M) : Ct mX10_readGone [.ref 48] (SS Z ext) M (exP (lkOf t n 330 D s) t n M) := by
  have hb := hT.2.2.1
  have fin := go_at (Z := Z) (ext := ext) (t := t) (n := n) (M := M) 330 D s M none (by omega) hT hL hK hs hD (Fp.rf M)
  refine Ct.of (by decide) (Nat.le_of_ble_eq_true rfl) ?_
  refine x_iconst (v := 1) dX10_readGone_0 (by decide) ?_
  refine x_istore_n dX10_readGone_1 (by decide) ?_
  exact fin

abbrev gzQ (Z : List (Option Nat)) (ext : List Ds) (X : Ex (Dr × Nat)) (t : Nat → Int32) (n : Nat) (M : Mm) : Fn := Fc mX10_readSizes (fun r' S' M' => S' = SS Z ext ∧ exP X t n M r' M')
theorem gz_e1 {Z : List (Option Nat)} {ext : List Ds} {X : Ex (Dr × Nat)} {t : Nat → Int32} {n : Nat} {M M1 : Mm} {l1 l2 : Option Value} (h : ¬ M1 48 24 = 0) (hP : exP X t n M none M1) : XW mX10_readSizes (gzQ Z ext X t n M) 0 0 (SS Z ext) M1 2 [some (.ref 48), l1, l2] [] := by
  refine x_aload_n dX10_readSizes_2 rfl ?_
  refine x_geti fl_X10_138 dX10_readSizes_3 sf_48 rfl ?_
  refine x_if_ne 81 dX10_readSizes_6 (by decide) (fun _ => ?_) (fun hc_ => absurd hc_ (h))
  exact x_ret dX10_readSizes_81 rfl (Nat.le_refl _) (Nat.le_refl _) ⟨rfl, hP⟩
theorem gz_e2 {Z : List (Option Nat)} {ext : List Ds} {X : Ex (Dr × Nat)} {t : Nat → Int32} {n : Nat} {M M1 : Mm} {l2 : Option Value} (hP : exP X t n M none M1) : XW mX10_readSizes (gzQ Z ext X t n M) 0 0 (SS Z ext) M1 2 [some (.ref 48), some (.int 0), l2] [] := by
  by_cases h : M1 48 24 = 0
  · refine x_aload_n dX10_readSizes_2 rfl ?_
    refine x_geti fl_X10_138 dX10_readSizes_3 sf_48 rfl ?_
    refine x_if_ne 81 dX10_readSizes_6 (by decide) (fun hc_ => absurd (h) hc_) (fun _ => ?_)
    refine x_iload_n dX10_readSizes_9 rfl ?_
    refine x_if_eq 81 dX10_readSizes_10 (by decide) (fun _ => ?_) (fun hc_ => absurd (rfl) hc_)
    exact x_ret dX10_readSizes_81 rfl (Nat.le_refl _) (Nat.le_refl _) ⟨rfl, hP⟩
  · exact gz_e1 h hP
theorem gz_at {Z : List (Option Nat)} {ext : List Ds} {t : Nat → Int32} {n : Nat} {M : Mm} : ∀ (f : Nat) (D : Dr) (s : Nat) (M1 : Mm) (l2 : Option Value), n - s < f → TP t n M1 → Ld t n s (M1 48) → tK t n s ≠ 4 → s ≤ n → RD D M1 → Fp M M1 → XW mX10_readSizes (gzQ Z ext (lkZf t n f D s) t n M) 0 0 (SS Z ext) M1 2 [some (.ref 48), some (.int 1), l2] [] := by
  intro f
  induction f with
  | zero => intro D s M1 l2 h; omega
  | succ f ih =>
    intro D s M1 l2 hf hT hL hK hs hD hF
    obtain ⟨h24, h20, h22, h23⟩ := hL.2.2 hK
    have cl := c_m_looked (Z := Z) (ext := ext) (M := M1) 1 3 hL
    unfold lkP at cl
    rw [lkZf_s]
    cases hN : numA t n 1 3 s with
    | inl e =>
      rw [hN] at cl
      refine x_aload_n dX10_readSizes_2 rfl ?_
      refine x_geti fl_X10_138 dX10_readSizes_3 sf_48 rfl ?_
      refine x_if_ne 81 dX10_readSizes_6 (by decide) (fun hc_ => absurd (h24) hc_) (fun _ => ?_)
      refine x_iload_n dX10_readSizes_9 rfl ?_
      refine x_if_eq 81 dX10_readSizes_10 (by decide) (fun hc_ => absurd hc_ (by decide)) (fun _ => ?_)
      refine x_aload_n dX10_readSizes_13 rfl ?_
      refine x_iconst (v := 1) dX10_readSizes_14 (by decide) ?_
      refine x_iconst (v := 3) dX10_readSizes_15 (by decide) ?_
      refine x_cv mf_X10_looked ml_X10_176 dX10_readSizes_16 rfl sf_48 rfl ⟨by decide, by decide⟩ (Nat.le_of_ble_eq_true rfl) ⟨rfl, rfl⟩ ⟨Nat.le_of_ble_eq_true rfl, Nat.le_of_ble_eq_true rfl⟩ (cl) (fun r M2 ⟨hr, hO2, hF2, hE⟩ => ?_)
      subst hr
      refine x_istore_n dX10_readSizes_19 (by decide) ?_
      refine x_aload_n dX10_readSizes_20 rfl ?_
      refine x_geti fl_X10_138 dX10_readSizes_21 sf_48 rfl ?_
      refine x_if_ne 60 dX10_readSizes_24 (by decide) (fun _ => ?_) (fun hc_ => absurd hc_ (pos_ne hE.pos))
      refine x_aload_n dX10_readSizes_60 rfl ?_
      refine x_cvd mf_X10_next ml_X10_179 dX10_readSizes_61 rfl sf_48 rfl ⟨by decide, by decide⟩ (Nat.le_of_ble_eq_true rfl) ⟨rfl, rfl⟩ ⟨Nat.le_of_ble_eq_true rfl, Nat.le_of_ble_eq_true rfl⟩ (c_m_nextZ hE.pos) ?_
      refine x_aload_n dX10_readSizes_64 rfl ?_
      refine x_geti fl_X10_158 dX10_readSizes_65 sf_48 rfl ?_
      refine x_iconst (v := 2) dX10_readSizes_68 (by decide) ?_
      refine x_icmp_ne 76 dX10_readSizes_69 (by decide) (fun h69 => ?_) (fun h69 => ?_)
      · refine x_iconst (v := 0) dX10_readSizes_76 (by decide) ?_
        refine x_istore_n dX10_readSizes_77 (by decide) ?_
        refine x_goto 2 dX10_readSizes_78 (by decide) ?_
        exact gz_e1 (pos_ne hE.pos) ⟨rfl, hF.tr (Fp.on hO2 hF2), hE⟩
      · refine x_iconst (v := 1) dX10_readSizes_72 (by decide) ?_
        refine x_goto 77 dX10_readSizes_73 (by decide) ?_
        refine x_istore_n dX10_readSizes_77 (by decide) ?_
        refine x_goto 2 dX10_readSizes_78 (by decide) ?_
        exact gz_e1 (pos_ne hE.pos) ⟨rfl, hF.tr (Fp.on hO2 hF2), hE⟩
    | inr v =>
      rw [hN] at cl
      obtain ⟨hK2, hrg, -⟩ := numA_r hN
      obtain ⟨q, hq0, hq1, hq⟩ := rg_nat (a := 1) (b := 3) (by decide) (by decide) hrg
      have hgo : M1 48 14 = D.2.1.2 := hD.2.2.2.2.1
      dsimp only
      cases hli : lies D.2.1.2 v with
      | true =>
        have hb : ¬ (M1 48 14 >>> (v &&& 31)) &&& 1 = 0 := by rw [hgo]; exact nlies hli
        rw [if_pos rfl]
        refine x_aload_n dX10_readSizes_2 rfl ?_
        refine x_geti fl_X10_138 dX10_readSizes_3 sf_48 rfl ?_
        refine x_if_ne 81 dX10_readSizes_6 (by decide) (fun hc_ => absurd (h24) hc_) (fun _ => ?_)
        refine x_iload_n dX10_readSizes_9 rfl ?_
        refine x_if_eq 81 dX10_readSizes_10 (by decide) (fun hc_ => absurd hc_ (by decide)) (fun _ => ?_)
        refine x_aload_n dX10_readSizes_13 rfl ?_
        refine x_iconst (v := 1) dX10_readSizes_14 (by decide) ?_
        refine x_iconst (v := 3) dX10_readSizes_15 (by decide) ?_
        refine x_cv mf_X10_looked ml_X10_176 dX10_readSizes_16 rfl sf_48 rfl ⟨by decide, by decide⟩ (Nat.le_of_ble_eq_true rfl) ⟨rfl, rfl⟩ ⟨Nat.le_of_ble_eq_true rfl, Nat.le_of_ble_eq_true rfl⟩ (cl) (fun r M2 ⟨hr, hM⟩ => ?_)
        subst hr; subst hM
        refine x_istore_n dX10_readSizes_19 (by decide) ?_
        refine x_aload_n dX10_readSizes_20 rfl ?_
        refine x_geti fl_X10_138 dX10_readSizes_21 sf_48 rfl ?_
        refine x_if_ne 60 dX10_readSizes_24 (by decide) (fun hc_ => absurd (h24) hc_) (fun _ => ?_)
        refine x_aload_n dX10_readSizes_27 rfl ?_
        refine x_aload_n dX10_readSizes_28 rfl ?_
        refine x_geti fl_X10_93 dX10_readSizes_29 sf_48 rfl ?_
        refine x_iload_n dX10_readSizes_32 rfl ?_
        refine x_ishr dX10_readSizes_33 ?_
        refine x_iconst (v := 1) dX10_readSizes_34 (by decide) ?_
        refine x_iand dX10_readSizes_35 ?_
        refine x_if_ne 43 dX10_readSizes_36 (by decide) (fun _ => ?_) (fun hc_ => absurd hc_ (hb))
        refine x_iconst (v := 0) dX10_readSizes_43 (by decide) ?_
        refine x_iconst (v := 4) dX10_readSizes_44 (by decide) ?_
        refine x_cvd mf_X10_needs ml_X10_172 dX10_readSizes_45 rfl sf_48 rfl ⟨by decide, by decide⟩ (Nat.le_of_ble_eq_true rfl) ⟨rfl, rfl⟩ ⟨Nat.le_of_ble_eq_true rfl, Nat.le_of_ble_eq_true rfl⟩ (c_m_needsF 4 h24) ?_
        refine x_aload_n dX10_readSizes_48 rfl ?_
        refine x_dup dX10_readSizes_49 rfl ?_
        refine x_geti fl_X10_93 dX10_readSizes_50 sf_48 rfl ?_
        refine x_iconst (v := 1) dX10_readSizes_53 (by decide) ?_
        refine x_iload_n dX10_readSizes_54 rfl ?_
        refine x_ishl dX10_readSizes_55 ?_
        refine x_ior dX10_readSizes_56 ?_
        refine x_put fl_X10_93 dX10_readSizes_57 sf_48 rfl rfl rfl ?_
        refine x_aload_n dX10_readSizes_60 rfl ?_
        refine x_cvd mf_X10_next ml_X10_179 dX10_readSizes_61 rfl sf_48 rfl ⟨by decide, by decide⟩ (Nat.le_of_ble_eq_true rfl) ⟨rfl, rfl⟩ ⟨Nat.le_of_ble_eq_true rfl, Nat.le_of_ble_eq_true rfl⟩ (c_m_nextZ (show (0 : Int32) < 4 by decide)) ?_
        refine x_aload_n dX10_readSizes_64 rfl ?_
        refine x_geti fl_X10_158 dX10_readSizes_65 sf_48 rfl ?_
        refine x_iconst (v := 2) dX10_readSizes_68 (by decide) ?_
        refine x_icmp_ne 76 dX10_readSizes_69 (by decide) (fun h69 => ?_) (fun h69 => ?_)
        · refine x_iconst (v := 0) dX10_readSizes_76 (by decide) ?_
          refine x_istore_n dX10_readSizes_77 (by decide) ?_
          refine x_goto 2 dX10_readSizes_78 (by decide) ?_
          exact gz_e1 (show ¬ (4 : Int32) = 0 by decide) ⟨rfl, ((hF.up _ (Or.inr ⟨by decide, by decide⟩)).up _ (Or.inr ⟨by decide, by decide⟩)).up _ (Or.inl ⟨by decide, by decide⟩), rfl, (show (0 : Int32) < 4 by decide), hL.1⟩
        · refine x_iconst (v := 1) dX10_readSizes_72 (by decide) ?_
          refine x_goto 77 dX10_readSizes_73 (by decide) ?_
          refine x_istore_n dX10_readSizes_77 (by decide) ?_
          refine x_goto 2 dX10_readSizes_78 (by decide) ?_
          exact gz_e1 (show ¬ (4 : Int32) = 0 by decide) ⟨rfl, ((hF.up _ (Or.inr ⟨by decide, by decide⟩)).up _ (Or.inr ⟨by decide, by decide⟩)).up _ (Or.inl ⟨by decide, by decide⟩), rfl, (show (0 : Int32) < 4 by decide), hL.1⟩
      | false =>
        have hb : (M1 48 14 >>> (v &&& 31)) &&& 1 = 0 := by rw [hgo]; exact ylies hli
        rw [if_neg (by decide)]
        have hD1 : RD (D.1, (D.2.1.1, inS D.2.1.2 v), D.2.2) (up2 M1 48 14 (M1 48 14 ||| ((1 : Int32) <<< (v &&& 31)))) := by
          obtain ⟨r1, r2, r3, r4, r5, r6, r7, r8⟩ := hD
          refine ⟨r1, r2, r3, r4, (show M1 48 14 ||| ((1 : Int32) <<< (v &&& 31)) = inS D.2.1.2 v by rw [hgo]; rfl), r6, r7, r8⟩
        have hF1 : Fp M (up2 M1 48 14 (M1 48 14 ||| ((1 : Int32) <<< (v &&& 31)))) := hF.up _ (Or.inl ⟨by decide, by decide⟩)
        have hT1 : TP t n (up2 M1 48 14 (M1 48 14 ||| ((1 : Int32) <<< (v &&& 31)))) := ⟨hT.1, hT.2⟩
        have cn := c_m_nx (Z := Z) (ext := ext) (M := up2 M1 48 14 (M1 48 14 ||| ((1 : Int32) <<< (v &&& 31)))) (t := t) (n := n) (s := s) hT1 hL hK hs
        have hsn : s < n := tK_in (by rw [hK2]; decide)
        have hnx := nx_gt (t := t) hsn
        have hnl := nx_le (t := t) hs
        by_cases hk2 : tK t n (nx t n s) = 2
        · rw [if_pos hk2]
          refine x_aload_n dX10_readSizes_2 rfl ?_
          refine x_geti fl_X10_138 dX10_readSizes_3 sf_48 rfl ?_
          refine x_if_ne 81 dX10_readSizes_6 (by decide) (fun hc_ => absurd (h24) hc_) (fun _ => ?_)
          refine x_iload_n dX10_readSizes_9 rfl ?_
          refine x_if_eq 81 dX10_readSizes_10 (by decide) (fun hc_ => absurd hc_ (by decide)) (fun _ => ?_)
          refine x_aload_n dX10_readSizes_13 rfl ?_
          refine x_iconst (v := 1) dX10_readSizes_14 (by decide) ?_
          refine x_iconst (v := 3) dX10_readSizes_15 (by decide) ?_
          refine x_cv mf_X10_looked ml_X10_176 dX10_readSizes_16 rfl sf_48 rfl ⟨by decide, by decide⟩ (Nat.le_of_ble_eq_true rfl) ⟨rfl, rfl⟩ ⟨Nat.le_of_ble_eq_true rfl, Nat.le_of_ble_eq_true rfl⟩ (cl) (fun r M2 ⟨hr, hM⟩ => ?_)
          subst hr; subst hM
          refine x_istore_n dX10_readSizes_19 (by decide) ?_
          refine x_aload_n dX10_readSizes_20 rfl ?_
          refine x_geti fl_X10_138 dX10_readSizes_21 sf_48 rfl ?_
          refine x_if_ne 60 dX10_readSizes_24 (by decide) (fun hc_ => absurd (h24) hc_) (fun _ => ?_)
          refine x_aload_n dX10_readSizes_27 rfl ?_
          refine x_aload_n dX10_readSizes_28 rfl ?_
          refine x_geti fl_X10_93 dX10_readSizes_29 sf_48 rfl ?_
          refine x_iload_n dX10_readSizes_32 rfl ?_
          refine x_ishr dX10_readSizes_33 ?_
          refine x_iconst (v := 1) dX10_readSizes_34 (by decide) ?_
          refine x_iand dX10_readSizes_35 ?_
          refine x_if_ne 43 dX10_readSizes_36 (by decide) (fun hc_ => absurd (hb) hc_) (fun _ => ?_)
          refine x_iconst (v := 1) dX10_readSizes_39 (by decide) ?_
          refine x_goto 44 dX10_readSizes_40 (by decide) ?_
          refine x_iconst (v := 4) dX10_readSizes_44 (by decide) ?_
          refine x_cvd mf_X10_needs ml_X10_172 dX10_readSizes_45 rfl sf_48 rfl ⟨by decide, by decide⟩ (Nat.le_of_ble_eq_true rfl) ⟨rfl, rfl⟩ ⟨Nat.le_of_ble_eq_true rfl, Nat.le_of_ble_eq_true rfl⟩ (c_m_needsT 4) ?_
          refine x_aload_n dX10_readSizes_48 rfl ?_
          refine x_dup dX10_readSizes_49 rfl ?_
          refine x_geti fl_X10_93 dX10_readSizes_50 sf_48 rfl ?_
          refine x_iconst (v := 1) dX10_readSizes_53 (by decide) ?_
          refine x_iload_n dX10_readSizes_54 rfl ?_
          refine x_ishl dX10_readSizes_55 ?_
          refine x_ior dX10_readSizes_56 ?_
          refine x_put fl_X10_93 dX10_readSizes_57 sf_48 rfl rfl rfl ?_
          refine x_aload_n dX10_readSizes_60 rfl ?_
          refine x_cv mf_X10_next ml_X10_179 dX10_readSizes_61 rfl sf_48 rfl ⟨by decide, by decide⟩ (Nat.le_of_ble_eq_true rfl) ⟨rfl, rfl⟩ ⟨Nat.le_of_ble_eq_true rfl, Nat.le_of_ble_eq_true rfl⟩ (cn) (fun r M4 ⟨hr, hO4, hF4, hL4⟩ => ?_)
          subst hr
          refine x_aload_n dX10_readSizes_64 rfl ?_
          refine x_geti fl_X10_158 dX10_readSizes_65 sf_48 rfl ?_
          refine x_iconst (v := 2) dX10_readSizes_68 (by decide) ?_
          refine x_icmp_ne 76 dX10_readSizes_69 (by decide) (fun hc_ => absurd (by have := (hL4.2.2 (by rw [hk2]; decide)).2.2.1; rw [hk2] at this; exact this) hc_) (fun _ => ?_)
          refine x_iconst (v := 1) dX10_readSizes_72 (by decide) ?_
          refine x_goto 77 dX10_readSizes_73 (by decide) ?_
          refine x_istore_n dX10_readSizes_77 (by decide) ?_
          refine x_goto 2 dX10_readSizes_78 (by decide) ?_
          exact ih _ _ M4 _ (by omega) (hT1.go (Fp.on hO4 hF4)) hL4 (by rw [hk2]; decide) hnl (hD1.on hO4 hF4) (hF1.tr (Fp.on hO4 hF4))
        · rw [if_neg hk2]
          by_cases hk4 : tK t n (nx t n s) = 4
          · refine x_aload_n dX10_readSizes_2 rfl ?_
            refine x_geti fl_X10_138 dX10_readSizes_3 sf_48 rfl ?_
            refine x_if_ne 81 dX10_readSizes_6 (by decide) (fun hc_ => absurd (h24) hc_) (fun _ => ?_)
            refine x_iload_n dX10_readSizes_9 rfl ?_
            refine x_if_eq 81 dX10_readSizes_10 (by decide) (fun hc_ => absurd hc_ (by decide)) (fun _ => ?_)
            refine x_aload_n dX10_readSizes_13 rfl ?_
            refine x_iconst (v := 1) dX10_readSizes_14 (by decide) ?_
            refine x_iconst (v := 3) dX10_readSizes_15 (by decide) ?_
            refine x_cv mf_X10_looked ml_X10_176 dX10_readSizes_16 rfl sf_48 rfl ⟨by decide, by decide⟩ (Nat.le_of_ble_eq_true rfl) ⟨rfl, rfl⟩ ⟨Nat.le_of_ble_eq_true rfl, Nat.le_of_ble_eq_true rfl⟩ (cl) (fun r M2 ⟨hr, hM⟩ => ?_)
            subst hr; subst hM
            refine x_istore_n dX10_readSizes_19 (by decide) ?_
            refine x_aload_n dX10_readSizes_20 rfl ?_
            refine x_geti fl_X10_138 dX10_readSizes_21 sf_48 rfl ?_
            refine x_if_ne 60 dX10_readSizes_24 (by decide) (fun hc_ => absurd (h24) hc_) (fun _ => ?_)
            refine x_aload_n dX10_readSizes_27 rfl ?_
            refine x_aload_n dX10_readSizes_28 rfl ?_
            refine x_geti fl_X10_93 dX10_readSizes_29 sf_48 rfl ?_
            refine x_iload_n dX10_readSizes_32 rfl ?_
            refine x_ishr dX10_readSizes_33 ?_
            refine x_iconst (v := 1) dX10_readSizes_34 (by decide) ?_
            refine x_iand dX10_readSizes_35 ?_
            refine x_if_ne 43 dX10_readSizes_36 (by decide) (fun hc_ => absurd (hb) hc_) (fun _ => ?_)
            refine x_iconst (v := 1) dX10_readSizes_39 (by decide) ?_
            refine x_goto 44 dX10_readSizes_40 (by decide) ?_
            refine x_iconst (v := 4) dX10_readSizes_44 (by decide) ?_
            refine x_cvd mf_X10_needs ml_X10_172 dX10_readSizes_45 rfl sf_48 rfl ⟨by decide, by decide⟩ (Nat.le_of_ble_eq_true rfl) ⟨rfl, rfl⟩ ⟨Nat.le_of_ble_eq_true rfl, Nat.le_of_ble_eq_true rfl⟩ (c_m_needsT 4) ?_
            refine x_aload_n dX10_readSizes_48 rfl ?_
            refine x_dup dX10_readSizes_49 rfl ?_
            refine x_geti fl_X10_93 dX10_readSizes_50 sf_48 rfl ?_
            refine x_iconst (v := 1) dX10_readSizes_53 (by decide) ?_
            refine x_iload_n dX10_readSizes_54 rfl ?_
            refine x_ishl dX10_readSizes_55 ?_
            refine x_ior dX10_readSizes_56 ?_
            refine x_put fl_X10_93 dX10_readSizes_57 sf_48 rfl rfl rfl ?_
            refine x_aload_n dX10_readSizes_60 rfl ?_
            refine x_cv mf_X10_next ml_X10_179 dX10_readSizes_61 rfl sf_48 rfl ⟨by decide, by decide⟩ (Nat.le_of_ble_eq_true rfl) ⟨rfl, rfl⟩ ⟨Nat.le_of_ble_eq_true rfl, Nat.le_of_ble_eq_true rfl⟩ (cn) (fun r M4 ⟨hr, hO4, hF4, hL4⟩ => ?_)
            subst hr
            refine x_aload_n dX10_readSizes_64 rfl ?_
            refine x_geti fl_X10_158 dX10_readSizes_65 sf_48 rfl ?_
            refine x_iconst (v := 2) dX10_readSizes_68 (by decide) ?_
            refine x_icmp_ne 76 dX10_readSizes_69 (by decide) (fun h69 => ?_) (fun h69 => ?_)
            · refine x_iconst (v := 0) dX10_readSizes_76 (by decide) ?_
              refine x_istore_n dX10_readSizes_77 (by decide) ?_
              refine x_goto 2 dX10_readSizes_78 (by decide) ?_
              exact gz_e1 (pos_ne (hL4.er hk4).pos) ⟨rfl, hF1.tr (Fp.on hO4 hF4), fun _ => hD1.on hO4 hF4, hL4⟩
            · refine x_iconst (v := 1) dX10_readSizes_72 (by decide) ?_
              refine x_goto 77 dX10_readSizes_73 (by decide) ?_
              refine x_istore_n dX10_readSizes_77 (by decide) ?_
              refine x_goto 2 dX10_readSizes_78 (by decide) ?_
              exact gz_e1 (pos_ne (hL4.er hk4).pos) ⟨rfl, hF1.tr (Fp.on hO4 hF4), fun _ => hD1.on hO4 hF4, hL4⟩
          · have hb4 := tK_4 (t := t) (n := n) (s := nx t n s)
            refine x_aload_n dX10_readSizes_2 rfl ?_
            refine x_geti fl_X10_138 dX10_readSizes_3 sf_48 rfl ?_
            refine x_if_ne 81 dX10_readSizes_6 (by decide) (fun hc_ => absurd (h24) hc_) (fun _ => ?_)
            refine x_iload_n dX10_readSizes_9 rfl ?_
            refine x_if_eq 81 dX10_readSizes_10 (by decide) (fun hc_ => absurd hc_ (by decide)) (fun _ => ?_)
            refine x_aload_n dX10_readSizes_13 rfl ?_
            refine x_iconst (v := 1) dX10_readSizes_14 (by decide) ?_
            refine x_iconst (v := 3) dX10_readSizes_15 (by decide) ?_
            refine x_cv mf_X10_looked ml_X10_176 dX10_readSizes_16 rfl sf_48 rfl ⟨by decide, by decide⟩ (Nat.le_of_ble_eq_true rfl) ⟨rfl, rfl⟩ ⟨Nat.le_of_ble_eq_true rfl, Nat.le_of_ble_eq_true rfl⟩ (cl) (fun r M2 ⟨hr, hM⟩ => ?_)
            subst hr; subst hM
            refine x_istore_n dX10_readSizes_19 (by decide) ?_
            refine x_aload_n dX10_readSizes_20 rfl ?_
            refine x_geti fl_X10_138 dX10_readSizes_21 sf_48 rfl ?_
            refine x_if_ne 60 dX10_readSizes_24 (by decide) (fun hc_ => absurd (h24) hc_) (fun _ => ?_)
            refine x_aload_n dX10_readSizes_27 rfl ?_
            refine x_aload_n dX10_readSizes_28 rfl ?_
            refine x_geti fl_X10_93 dX10_readSizes_29 sf_48 rfl ?_
            refine x_iload_n dX10_readSizes_32 rfl ?_
            refine x_ishr dX10_readSizes_33 ?_
            refine x_iconst (v := 1) dX10_readSizes_34 (by decide) ?_
            refine x_iand dX10_readSizes_35 ?_
            refine x_if_ne 43 dX10_readSizes_36 (by decide) (fun hc_ => absurd (hb) hc_) (fun _ => ?_)
            refine x_iconst (v := 1) dX10_readSizes_39 (by decide) ?_
            refine x_goto 44 dX10_readSizes_40 (by decide) ?_
            refine x_iconst (v := 4) dX10_readSizes_44 (by decide) ?_
            refine x_cvd mf_X10_needs ml_X10_172 dX10_readSizes_45 rfl sf_48 rfl ⟨by decide, by decide⟩ (Nat.le_of_ble_eq_true rfl) ⟨rfl, rfl⟩ ⟨Nat.le_of_ble_eq_true rfl, Nat.le_of_ble_eq_true rfl⟩ (c_m_needsT 4) ?_
            refine x_aload_n dX10_readSizes_48 rfl ?_
            refine x_dup dX10_readSizes_49 rfl ?_
            refine x_geti fl_X10_93 dX10_readSizes_50 sf_48 rfl ?_
            refine x_iconst (v := 1) dX10_readSizes_53 (by decide) ?_
            refine x_iload_n dX10_readSizes_54 rfl ?_
            refine x_ishl dX10_readSizes_55 ?_
            refine x_ior dX10_readSizes_56 ?_
            refine x_put fl_X10_93 dX10_readSizes_57 sf_48 rfl rfl rfl ?_
            refine x_aload_n dX10_readSizes_60 rfl ?_
            refine x_cv mf_X10_next ml_X10_179 dX10_readSizes_61 rfl sf_48 rfl ⟨by decide, by decide⟩ (Nat.le_of_ble_eq_true rfl) ⟨rfl, rfl⟩ ⟨Nat.le_of_ble_eq_true rfl, Nat.le_of_ble_eq_true rfl⟩ (cn) (fun r M4 ⟨hr, hO4, hF4, hL4⟩ => ?_)
            subst hr
            refine x_aload_n dX10_readSizes_64 rfl ?_
            refine x_geti fl_X10_158 dX10_readSizes_65 sf_48 rfl ?_
            refine x_iconst (v := 2) dX10_readSizes_68 (by decide) ?_
            refine x_icmp_ne 76 dX10_readSizes_69 (by decide) (fun _ => ?_) (fun hc_ => absurd hc_ (fun q => hk2 ((nI_eq (a := tK t n (nx t n s)) (b := 2) (by omega) (by omega)).mp ((hL4.2.2 hk4).2.2.1.symm.trans q))))
            refine x_iconst (v := 0) dX10_readSizes_76 (by decide) ?_
            refine x_istore_n dX10_readSizes_77 (by decide) ?_
            refine x_goto 2 dX10_readSizes_78 (by decide) ?_
            exact gz_e2 ⟨rfl, hF1.tr (Fp.on hO4 hF4), fun _ => hD1.on hO4 hF4, hL4⟩
theorem c_m_readSizes {Z : List (Option Nat)} {ext : List Ds} {M : Mm} {t : Nat → Int32} {n s : Nat} {D : Dr} (hT : TP t n M) (hL : Ld t n s (M 48)) (hK : tK t n s ≠ 4) (hs : s ≤ n) (hD : RD D M) : Ct mX10_readSizes [.ref 48] (SS Z ext) M (exP (lkZf t n 330 D s) t n M) := by
  have hb := hT.2.2.1
  have fin := gz_at (Z := Z) (ext := ext) (t := t) (n := n) (M := M) 330 D s M none (by omega) hT hL hK hs hD (Fp.rf M)
  refine Ct.of (by decide) (Nat.le_of_ble_eq_true rfl) ?_
  refine x_iconst (v := 1) dX10_readSizes_0 (by decide) ?_
  refine x_istore_n dX10_readSizes_1 (by decide) ?_
  exact fin
