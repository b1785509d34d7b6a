/-! ===== costs of sets; the sets below a node of a search ===== -/
def csf (co : Nat → Nat) (p : Nat → Bool) : Nat := fb_sm (fun i => if p i then co i else 0) 31
theorem csf_le {co : Nat → Nat} {p q : Nat → Bool} (h : ∀ i, i < 31 → p i = true → q i = true) : csf co p ≤ csf co q := by
  unfold csf
  refine fb_sm_le (fun k hk => ?_)
  show (if p k then co k else 0) ≤ (if q k then co k else 0)
  cases hp : p k with
  | false => simp
  | true => rw [h k hk hp]; exact Nat.le_refl _
theorem csf_cg {co : Nat → Nat} {p q : Nat → Bool} (h : ∀ i, i < 31 → p i = q i) : csf co p = csf co q := by
  unfold csf
  refine fb_sm_cong (fun k hk => ?_)
  show (if p k then co k else 0) = (if q k then co k else 0)
  rw [h k hk]
theorem csf_add {co : Nat → Nat} {p q r : Nat → Bool} (h1 : ∀ i, i < 31 → p i = true → q i = false) (h2 : ∀ i, i < 31 → p i = true → r i = true) (h3 : ∀ i, i < 31 → q i = true → r i = true) : csf co p + csf co q ≤ csf co r := by
  unfold csf
  rw [← fb_sm_add]
  refine fb_sm_le (fun k hk => ?_)
  show (if p k then co k else 0) + (if q k then co k else 0) ≤ (if r k then co k else 0)
  cases hp : p k with
  | true => rw [h1 k hk hp, h2 k hk hp]; simp
  | false =>
    cases hq : q k with
    | true => rw [h3 k hk hq]; simp
    | false => simp
theorem csf_ge {co : Nat → Nat} {p : Nat → Bool} {m : Nat} (hm : m < 31) (hp : p m = true) : co m ≤ csf co p := by
  have h2 : fb_sm (fun i => if p i then co i else 0) m + (if p m then co m else 0) ≤ fb_sm (fun i => if p i then co i else 0) 31 := fb_sm_part _ hm
  rw [if_pos hp] at h2
  exact Nat.le_trans (Nat.le_add_left _ _) h2
theorem csf_ins {co : Nat → Nat} {p q : Nat → Bool} {m : Nat} (hm : m < 31) (hp : p m = false) (hq : ∀ i, i < 31 → q i = (p i || decide (i = m))) : csf co q = csf co p + co m := by
  have h : fb_sm (fun k => if k = m then co m else (if p k then co k else 0)) 31 + (if p m then co m else 0) = csf co p + co m := fb_sm_upd (fun i => if p i then co i else 0) (co m) hm
  have e : fb_sm (fun k => if k = m then co m else (if p k then co k else 0)) 31 = csf co q := by
    unfold csf
    refine fb_sm_cong (fun k hk => ?_)
    show (if k = m then co m else (if p k then co k else 0)) = (if q k then co k else 0)
    rw [hq k hk]
    by_cases e : k = m
    · rw [if_pos e, decide_eq_true e, Bool.or_true, if_pos rfl, e]
    · rw [if_neg e, decide_eq_false e, Bool.or_false]
  rw [e, if_neg (show ¬ p m = true by rw [hp]; decide)] at h
  exact h
theorem csf_bd {co : Nat → Nat} {p : Nat → Bool} (h : ∀ i, i < 31 → co i ≤ 9) : csf co p ≤ 279 := by
  have h1 : csf co p ≤ 31 * 9 := fb_sm_bound (fun k hk => by
    show (if p k then co k else 0) ≤ 9
    split
    · exact h k hk
    · omega)
  omega
theorem csf_z {co : Nat → Nat} {p : Nat → Bool} (h : ∀ i, i < 31 → p i = false) : csf co p = 0 := by
  have h1 : csf co p ≤ 31 * 0 := fb_sm_bound (fun k hk => by
    show (if p k then co k else 0) ≤ 0
    rw [h k hk]
    exact Nat.le_refl _)
  omega
theorem nat_diff {T t0 : Nat} (hT : T < 2 ^ 31) (h0 : t0 < 2 ^ 31) (hs : ∀ i, i < 31 → t0.testBit i = true → T.testBit i = true) (hne : T ≠ t0) : ∃ m, m < 31 ∧ T.testBit m = true ∧ t0.testBit m = false := by
  refine Classical.byContradiction (fun hc => hne (Nat.eq_of_testBit_eq (fun i => ?_)))
  rcases Nat.lt_or_ge i 31 with hi | hi
  · cases h1 : t0.testBit i with
    | true => exact hs i hi h1
    | false =>
      cases h2 : T.testBit i with
      | false => rfl
      | true => exact absurd ⟨i, hi, h2, h1⟩ hc
  · have hp : (2 : Nat) ^ 31 ≤ 2 ^ i := Nat.pow_le_pow_right (by omega) hi
    rw [Nat.testBit_lt_two_pow (Nat.lt_of_lt_of_le hT hp), Nat.testBit_lt_two_pow (Nat.lt_of_lt_of_le h0 hp)]
/-- X holds t, lies in g, and breaks all -/
def Nd (Br : Nat → Prop) (t g : Nat → Bool) (X : Nat) : Prop := (∀ i, i < 31 → t i = true → X.testBit i = true) ∧ (∀ i, i < 31 → X.testBit i = true → g i = true) ∧ Br X
theorem Nd_split {Br : Nat → Prop} {t t' g g' : Nat → Bool} {m X : Nat} (hm : m < 31) (ht : ∀ i, i < 31 → t' i = (t i || decide (i = m))) (hg : ∀ i, i < 31 → g' i = (g i && !decide (i = m))) : Nd Br t g X ↔ (Nd Br t' g X ∨ Nd Br t g' X) := by
  constructor
  · intro h
    obtain ⟨h1, h2, h3⟩ := h
    cases hx : X.testBit m with
    | true =>
      left
      refine ⟨fun i hi h => ?_, h2, h3⟩
      rw [ht i hi, Bool.or_eq_true] at h
      rcases h with h | h
      · exact h1 i hi h
      · rw [of_decide_eq_true h]; exact hx
    | false =>
      right
      refine ⟨h1, fun i hi h => ?_, h3⟩
      rw [hg i hi, h2 i hi h, Bool.true_and, decide_eq_false (fun q => by rw [q, hx] at h; cases h)]
      rfl
  · intro h
    rcases h with ⟨h1, h2, h3⟩ | ⟨h1, h2, h3⟩
    · exact ⟨fun i hi h => h1 i hi (by rw [ht i hi, h, Bool.true_or]), h2, h3⟩
    · refine ⟨h1, fun i hi h => ?_, h3⟩
      have h4 := h2 i hi h
      rw [hg i hi, Bool.and_eq_true] at h4
      exact h4.1
theorem Nd_dis {Br : Nat → Prop} {t t' g g' : Nat → Bool} {m X : Nat} (hm : m < 31) (ht : ∀ i, i < 31 → t' i = (t i || decide (i = m))) (hg : ∀ i, i < 31 → g' i = (g i && !decide (i = m))) (ha : Nd Br t' g X) (hb : Nd Br t g' X) : False := by
  have h1 := ha.1 m hm (by rw [ht m hm, decide_eq_true rfl, Bool.or_true])
  have h2 := hb.2.1 m hm h1
  rw [hg m hm, decide_eq_true rfl, Bool.not_true, Bool.and_false] at h2
  cases h2
theorem Nd_sub {Br : Nat → Prop} {t t' g : Nat → Bool} {m X : Nat} (ht : ∀ i, i < 31 → t' i = (t i || decide (i = m))) (h : Nd Br t' g X) : Nd Br t g X := ⟨fun i hi h1 => h.1 i hi (by rw [ht i hi, h1, Bool.true_or]), h.2.1, h.2.2⟩
theorem Nd_cg {Br : Nat → Prop} {t t' g g' : Nat → Bool} {X : Nat} (ht : ∀ i, i < 31 → t' i = t i) (hg : ∀ i, i < 31 → g' i = g i) (h : Nd Br t g X) : Nd Br t' g' X := ⟨fun i hi h1 => h.1 i hi (by rw [← ht i hi]; exact h1), fun i hi h1 => by rw [hg i hi]; exact h.2.1 i hi h1, h.2.2⟩
theorem Nd_cost {co : Nat → Nat} {Br : Nat → Prop} {t g : Nat → Bool} {X : Nat} (h : Nd Br t g X) : csf co t ≤ csf co X.testBit := csf_le h.1
/-- a leaf: the dearer sets that hold it do not count -/
theorem Nd_leaf {co : Nat → Nat} {N B : Nat} {Br : Nat → Prop} {t g : Nat → Bool} {t0 : Nat} {P : Nat → Prop} {a l w : Int32} (hN : N = 2 ^ 31) (hco : ∀ i, i < 31 → 1 ≤ co i) (ht0 : t0 < N) (h0 : ∀ i, i < 31 → t i = t0.testBit i) (htg : ∀ i, i < 31 → t i = true → g i = true) (hbr : Br t0) (h : SmI (fun X => csf co X.testBit) N B (fun T => P T ∨ T = t0) a l w) : SmI (fun X => csf co X.testBit) N B (fun T => P T ∨ Nd Br t g T) a l w := by
  obtain ⟨b', l', k', e1, e2, e3, hl, hS⟩ := h
  refine ⟨b', l', k', e1, e2, e3, hl, ?_⟩
  have hb : b' ≤ csf co t0.testBit := hS.1 t0 ht0 (Or.inr rfl)
  refine Sm_cg (Sm_dear (Q := fun T => Nd Br t g T ∧ T ≠ t0) hS (fun T hT hq => Nat.lt_of_le_of_lt hb ?_)) (fun T hT => ?_)
  · obtain ⟨hq1, hq2⟩ := hq
    have hs : ∀ i, i < 31 → t0.testBit i = true → T.testBit i = true := fun i hi h1 => hq1.1 i hi (by rw [h0 i hi]; exact h1)
    obtain ⟨m, hm, h1, h2⟩ := nat_diff (by omega) (by omega) hs hq2
    have h3 := csf_add (co := co) (p := t0.testBit) (q := fun i => decide (i = m)) (r := T.testBit) (fun i hi h4 => decide_eq_false (fun q => by rw [q, h2] at h4; cases h4)) hs (fun i hi h4 => by rw [of_decide_eq_true h4]; exact h1)
    have h4 := csf_ge (co := co) (p := fun i => decide (i = m)) hm (decide_eq_true rfl)
    have h5 := hco m hm
    show csf co t0.testBit < csf co T.testBit
    omega
  · constructor
    · intro h
      rcases h with (h | h) | h
      · exact Or.inl h
      · right
        rw [h]
        exact ⟨fun i hi h1 => by rw [← h0 i hi]; exact h1, fun i hi h1 => htg i hi (by rw [h0 i hi]; exact h1), hbr⟩
      · exact Or.inr h.1
    · intro h
      rcases h with h | h
      · exact Or.inl (Or.inl h)
      · by_cases q : T = t0
        · exact Or.inl (Or.inr q)
        · exact Or.inr ⟨h, q⟩
theorem bi_N {x : Int32} (h : psv x) : ∃ n, n < 2 ^ 31 ∧ x = nI n ∧ ∀ i, bi x i = n.testBit i := by
  obtain ⟨n, h1, h2, h3⟩ := to_nI x
  refine ⟨n, ?_, h2, h3⟩
  have h4 : n.testBit 31 = false := by rw [← h3]; exact h
  rcases Nat.lt_or_ge n (2 ^ 31) with h5 | h5
  · exact h5
  · rw [Nat.testBit_eq_decide_div_mod_eq, decide_eq_false_iff_not] at h4
    omega
