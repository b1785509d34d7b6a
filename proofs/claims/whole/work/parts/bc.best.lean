/-! ===== the best of many sets ===== -/
noncomputable def bq_d (p : Prop) : Bool := @decide p (Classical.propDecidable p)
theorem bq_t {p : Prop} : bq_d p = true ↔ p := @decide_eq_true_iff p (Classical.propDecidable p)
theorem bq_f {p : Prop} (h : ¬ p) : bq_d p = false := by
  cases e : bq_d p with
  | false => rfl
  | true => exact absurd (bq_t.mp e) h
theorem bq_c {p q : Prop} (h : p ↔ q) : bq_d p = bq_d q := by
  by_cases hp : p
  · rw [bq_t.mpr hp, bq_t.mpr (h.mp hp)]
  · rw [bq_f hp, bq_f (fun x => hp (h.mpr x))]
theorem ct_one {T0 : Nat} : ∀ {N : Nat}, T0 < N → fb_ct (fun T => decide (T = T0)) N = 1
  | 0, h => absurd h (by omega)
  | N + 1, h => by
    rw [fb_ct_succ]
    rcases (show T0 = N ∨ T0 < N by omega) with rfl | h2
    · rw [ct_zero (fun k hk => decide_eq_false (by omega)), decide_eq_true rfl]; rfl
    · rw [ct_one h2, decide_eq_false (by omega)]; rfl
theorem ct_or1 {P : Nat → Bool} {T0 N : Nat} (h0 : T0 < N) (hn : P T0 = false) : fb_ct (fun T => P T || decide (T = T0)) N = fb_ct P N + 1 := by
  have e := fb_ct_or (p := P) (q := fun T => decide (T = T0)) (n := N) (fun k hk h => by
    have h2 : k = T0 := of_decide_eq_true h.2
    have h1 := h.1
    rw [h2, hn] at h1
    cases h1)
  rw [ct_one h0] at e
  exact e
/-- of the sets of P: the least cost b (B, if there is none), the least set l of that cost, how many k -/
def Sm (cost : Nat → Nat) (N B : Nat) (P : Nat → Prop) (b l k : Nat) : Prop := (∀ T, T < N → P T → b ≤ cost T) ∧ k = fb_ct (fun T => bq_d (P T ∧ cost T = b)) N ∧ (0 < k → (l < N ∧ P l ∧ cost l = b) ∧ ∀ T, T < N → P T → cost T = b → l ≤ T) ∧ (k = 0 → b = B) ∧ b ≤ B
theorem Sm_cg {cost : Nat → Nat} {N B : Nat} {P Q : Nat → Prop} {b l k : Nat} (h : Sm cost N B P b l k) (e : ∀ T, T < N → (P T ↔ Q T)) : Sm cost N B Q b l k := by
  have e2 : ∀ T, T < N → bq_d (Q T ∧ cost T = b) = bq_d (P T ∧ cost T = b) := fun T hT => bq_c ⟨fun q => ⟨(e T hT).mpr q.1, q.2⟩, fun q => ⟨(e T hT).mp q.1, q.2⟩⟩
  refine ⟨fun T hT hq => h.1 T hT ((e T hT).mpr hq), ?_, fun hk => ?_, h.2.2.2.1, h.2.2.2.2⟩
  · rw [ct_congr e2]; exact h.2.1
  · obtain ⟨⟨h1, h2, h3⟩, h4⟩ := h.2.2.1 hk
    exact ⟨⟨h1, (e l h1).mp h2, h3⟩, fun T hT hq hc => h4 T hT ((e T hT).mpr hq) hc⟩
theorem Sm_dear {cost : Nat → Nat} {N B : Nat} {P Q : Nat → Prop} {b l k : Nat} (h : Sm cost N B P b l k) (hQ : ∀ T, T < N → Q T → b < cost T) : Sm cost N B (fun T => P T ∨ Q T) b l k := by
  have e : ∀ T, T < N → bq_d ((P T ∨ Q T) ∧ cost T = b) = bq_d (P T ∧ cost T = b) := fun T hT => bq_c ⟨fun q => ⟨q.1.resolve_right (fun h1 => by have h2 := hQ T hT h1; have h3 := q.2; omega), q.2⟩, fun q => ⟨Or.inl q.1, q.2⟩⟩
  refine ⟨fun T hT hp => ?_, ?_, fun hk => ?_, h.2.2.2.1, h.2.2.2.2⟩
  · rcases hp with hp | hp
    · exact h.1 T hT hp
    · exact Nat.le_of_lt (hQ T hT hp)
  · rw [ct_congr e]; exact h.2.1
  · obtain ⟨⟨h1, h2, h3⟩, h4⟩ := h.2.2.1 hk
    refine ⟨⟨h1, Or.inl h2, h3⟩, fun T hT hq hc => ?_⟩
    rcases hq with hq | hq
    · exact h4 T hT hq hc
    · have := hQ T hT hq; omega
theorem Sm_lt {cost : Nat → Nat} {N B : Nat} {P : Nat → Prop} {b l k T0 : Nat} (h : Sm cost N B P b l k) (h0 : T0 < N) (hc : cost T0 < b) : Sm cost N B (fun T => P T ∨ T = T0) (cost T0) T0 1 := by
  have hP : ∀ T, T < N → P T → cost T0 < cost T := fun T hT hp => Nat.lt_of_lt_of_le hc (h.1 T hT hp)
  have e : ∀ T, T < N → bq_d ((P T ∨ T = T0) ∧ cost T = cost T0) = decide (T = T0) := fun T hT => by
    by_cases q : T = T0
    · rw [bq_t.mpr ⟨Or.inr q, by rw [q]⟩, decide_eq_true q]
    · rw [decide_eq_false q, bq_f (fun h1 => by
        have h2 := hP T hT (h1.1.resolve_right q)
        have h3 := h1.2
        omega)]
  refine ⟨fun T hT hp => ?_, ?_, fun _ => ⟨⟨h0, Or.inr rfl, rfl⟩, fun T hT hp hc2 => ?_⟩, fun q => absurd q (by decide), Nat.le_trans (Nat.le_of_lt hc) h.2.2.2.2⟩
  · rcases hp with hp | hp
    · exact Nat.le_of_lt (hP T hT hp)
    · rw [hp]; exact Nat.le_refl _
  · rw [ct_congr e, ct_one h0]
  · rcases hp with hp | hp
    · have := hP T hT hp; omega
    · omega
theorem Sm_eq {cost : Nat → Nat} {N B : Nat} {P : Nat → Prop} {b l k T0 l' : Nat} (h : Sm cost N B P b l k) (h0 : T0 < N) (hn : ¬ P T0) (hc : cost T0 = b) (hl : l' = if 0 < k ∧ l ≤ T0 then l else T0) : Sm cost N B (fun T => P T ∨ T = T0) b l' (k + 1) := by
  have e : ∀ T, T < N → bq_d ((P T ∨ T = T0) ∧ cost T = b) = (bq_d (P T ∧ cost T = b) || decide (T = T0)) := fun T hT => by
    by_cases q : T = T0
    · rw [bq_t.mpr ⟨Or.inr q, by rw [q]; exact hc⟩, decide_eq_true q, Bool.or_true]
    · rw [decide_eq_false q, Bool.or_false]
      exact bq_c ⟨fun h1 => ⟨h1.1.resolve_right q, h1.2⟩, fun h1 => ⟨Or.inl h1.1, h1.2⟩⟩
  refine ⟨fun T hT hp => ?_, ?_, fun _ => ?_, fun q => absurd q (by omega), h.2.2.2.2⟩
  · rcases hp with hp | hp
    · exact h.1 T hT hp
    · rw [hp]; omega
  · rw [ct_congr e, ct_or1 h0 (bq_f (fun q => hn q.1)), ← h.2.1]
  · by_cases hk : 0 < k
    · obtain ⟨⟨h1, h2, h3⟩, h4⟩ := h.2.2.1 hk
      by_cases hle : l ≤ T0
      · rw [if_pos ⟨hk, hle⟩] at hl
        rw [hl]
        refine ⟨⟨h1, Or.inl h2, h3⟩, fun T hT hp hq => ?_⟩
        rcases hp with hp | hp
        · exact h4 T hT hp hq
        · omega
      · rw [if_neg (fun q => hle q.2)] at hl
        rw [hl]
        refine ⟨⟨h0, Or.inr rfl, hc⟩, fun T hT hp hq => ?_⟩
        rcases hp with hp | hp
        · have := h4 T hT hp hq; omega
        · omega
    · rw [if_neg (fun q => hk q.1)] at hl
      rw [hl]
      refine ⟨⟨h0, Or.inr rfl, hc⟩, fun T hT hp hq => ?_⟩
      rcases hp with hp | hp
      · have hz : fb_ct (fun T => bq_d (P T ∧ cost T = b)) N = 0 := by rw [← h.2.1]; omega
        have h3 : bq_d (P T ∧ cost T = b) = false := fb_ct_zero.mp hz T hT
        rw [bq_t.mpr ⟨hp, hq⟩] at h3
        cases h3
      · omega
theorem Sm_pos {cost : Nat → Nat} {N B : Nat} {P : Nat → Prop} {b l k X : Nat} (h : Sm cost N B P b l k) (hX : X < N) (hp : P X) (hb : cost X ≤ B) : 0 < k := by
  rcases Nat.eq_zero_or_pos k with h0 | h0
  · have h1 := h.2.2.2.1 h0
    have h2 := h.1 X hX hp
    have hz : fb_ct (fun T => bq_d (P T ∧ cost T = b)) N = 0 := by rw [← h.2.1]; exact h0
    have h3 : bq_d (P X ∧ cost X = b) = false := fb_ct_zero.mp hz X hX
    rw [bq_t.mpr ⟨hp, by omega⟩] at h3
    cases h3
  · exact h0
theorem Sm_one {cost : Nat → Nat} {N B B' : Nat} {P : Nat → Prop} {b l k b' l' k' : Nat} (h : Sm cost N B P b l k) (h' : Sm cost N B' P b' l' k') (hk : 0 < k) (hk' : 0 < k') : b = b' ∧ l = l' ∧ k = k' := by
  obtain ⟨⟨h1, h2, h3⟩, h4⟩ := h.2.2.1 hk
  obtain ⟨⟨h1', h2', h3'⟩, h4'⟩ := h'.2.2.1 hk'
  have e1 := h.1 l' h1' h2'
  have e2 := h'.1 l h1 h2
  have eb : b = b' := by omega
  have e3 := h4 l' h1' h2' (by omega)
  have e4 := h4' l h1 h2 (by omega)
  exact ⟨eb, by omega, by rw [h.2.1, h'.2.1, eb]⟩
theorem Sm_none {cost : Nat → Nat} {N B : Nat} : Sm cost N B (fun _ => False) B 0 0 :=
  ⟨fun T hT h => h.elim, (ct_zero (fun k hk => bq_f (fun h => h.1))).symm, fun h => absurd h (by omega), fun _ => rfl, Nat.le_refl _⟩
/-- the same, of what the machine holds -/
def SmI (cost : Nat → Nat) (N B : Nat) (P : Nat → Prop) (a l w : Int32) : Prop := ∃ b' l' k' : Nat, a = nI b' ∧ l = nI l' ∧ w = nI k' ∧ l' < N ∧ Sm cost N B P b' l' k'
theorem SmI_cg {cost : Nat → Nat} {N B : Nat} {P Q : Nat → Prop} {a l w : Int32} (h : SmI cost N B P a l w) (e : ∀ T, T < N → (P T ↔ Q T)) : SmI cost N B Q a l w := by
  obtain ⟨b', l', k', e1, e2, e3, hl, hS⟩ := h
  exact ⟨b', l', k', e1, e2, e3, hl, Sm_cg hS e⟩
theorem SmI_a {cost : Nat → Nat} {N B : Nat} {P : Nat → Prop} {a l w : Int32} (h : SmI cost N B P a l w) (hB : B < 2 ^ 31) : 0 ≤ a.toInt ∧ a.toInt ≤ (B : Int) := by
  obtain ⟨b', l', k', e1, e2, e3, hl, hS⟩ := h
  have := hS.2.2.2.2
  rw [e1, nI_toInt (by omega)]
  omega
theorem SmI_dear {cost : Nat → Nat} {N B : Nat} {P Q : Nat → Prop} {a l w : Int32} (h : SmI cost N B P a l w) (hB : B < 2 ^ 31) (hQ : ∀ T, T < N → Q T → a.toInt < (cost T : Int)) : SmI cost N B (fun T => P T ∨ Q T) a l w := by
  obtain ⟨b', l', k', e1, e2, e3, hl, hS⟩ := h
  have hb := hS.2.2.2.2
  refine ⟨b', l', k', e1, e2, e3, hl, Sm_dear hS (fun T hT hq => ?_)⟩
  have h1 := hQ T hT hq
  rw [e1, nI_toInt (by omega)] at h1
  omega
theorem nI_z {k : Nat} (hk : k ≤ 2 ^ 31) (h : nI k = 0) : k = 0 := by
  rcases (show k = 0 ∨ (0 < k ∧ k < 2 ^ 31) ∨ k = 2 ^ 31 by omega) with h1 | h1 | h1
  · exact h1
  · exact absurd h (nI_ne0 h1.1 h1.2)
  · rw [h1] at h; exact absurd h (by decide +kernel)
theorem nt_sm {cost : Nat → Nat} {N B : Nat} {P : Nat → Prop} {a l w p : Int32} {t c : Nat} (hN : N = 2 ^ 31) (hB : B < 2 ^ 31) (h : SmI cost N B P a l w) (ht : t < N) (hn : ¬ P t) (hc : c = cost t) (hc2 : c < 2 ^ 31) : SmI cost N B (fun T => P T ∨ T = t) (ntS (a, l, w, p) (nI t) (nI c)).1 (ntS (a, l, w, p) (nI t) (nI c)).2.1 (ntS (a, l, w, p) (nI t) (nI c)).2.2.1 := by
  obtain ⟨b', l', k', rfl, rfl, rfl, hl, hS⟩ := h
  have hb := hS.2.2.2.2
  have hkN : k' ≤ N := by rw [hS.2.1]; exact fb_ct_le _ _
  have hmn : mn (nI t) (nI t) = nI t := by unfold mn; split <;> rfl
  have e0 : ntS (nI b', nI l', nI k', p) (nI t) (nI c) = if decide (nI c ≤ nI b') then (if decide (nI c < nI b') || decide (nI k' = 0) then (nI c, mn (nI t) (nI t), 0 + 1, p) else (nI b', mn (nI l') (nI t), nI k' + 1, p)) else (nI b', nI l', nI k', p) := rfl
  rcases Nat.lt_trichotomy c b' with h1 | h1 | h1
  · have e : ntS (nI b', nI l', nI k', p) (nI t) (nI c) = (nI c, nI t, 0 + 1, p) := by
      rw [e0, decide_eq_true (show nI c ≤ nI b' from nI_le (by omega) (by omega)), decide_eq_true (show nI c < nI b' from nI_lt h1 (by omega)), Bool.true_or, if_pos rfl, if_pos rfl, hmn]
    rw [e]
    exact ⟨c, t, 1, rfl, rfl, (show (0 + 1 : Int32) = nI 1 by decide), ht, by rw [hc]; exact Sm_lt hS ht (by omega)⟩
  · by_cases hk : k' = 0
    · have e : ntS (nI b', nI l', nI k', p) (nI t) (nI c) = (nI c, nI t, 0 + 1, p) := by
        rw [e0, decide_eq_true (show nI c ≤ nI b' from nI_le (by omega) (by omega)), hk, decide_eq_true (show nI 0 = 0 from nI_0), Bool.or_true, if_pos rfl, if_pos rfl, hmn]
      rw [e]
      have hh := Sm_eq (l' := t) hS ht hn (by omega) (by rw [if_neg (by omega)])
      rw [hk] at hh
      exact ⟨b', t, 1, by rw [h1], rfl, (show (0 + 1 : Int32) = nI 1 by decide), ht, hh⟩
    · have e : ntS (nI b', nI l', nI k', p) (nI t) (nI c) = (nI b', mn (nI l') (nI t), nI k' + 1, p) := by
        rw [e0, decide_eq_true (show nI c ≤ nI b' from nI_le (by omega) (by omega)), decide_eq_false (show ¬ nI c < nI b' from nI_nlt (by omega) (by omega)), decide_eq_false (show ¬ nI k' = 0 from fun q => hk (nI_z (by omega) q)), if_pos rfl, if_neg (by decide)]
      rw [e]
      refine ⟨b', if l' ≤ t then l' else t, k' + 1, rfl, ?_, (nI_succ k').symm, ?_, Sm_eq hS ht hn (by omega) ?_⟩
      · show mn (nI l') (nI t) = _
        unfold mn
        by_cases hle : l' ≤ t
        · rw [if_pos hle, if_neg (nI_nlt hle (by omega))]
        · rw [if_neg hle, if_pos (nI_lt (by omega) (by omega))]
      · split <;> assumption
      · by_cases hle : l' ≤ t
        · rw [if_pos hle, if_pos ⟨by omega, hle⟩]
        · rw [if_neg hle, if_neg (fun q => hle q.2)]
  · have e : ntS (nI b', nI l', nI k', p) (nI t) (nI c) = (nI b', nI l', nI k', p) := by
      rw [e0, decide_eq_false (show ¬ nI c ≤ nI b' from nI_ge h1 (by omega)), if_neg (by decide)]
    rw [e]
    exact ⟨b', l', k', rfl, rfl, rfl, hl, Sm_dear hS (fun T hT hq => by rw [hq]; omega)⟩
theorem tk_sm {cost : Nat → Nat} {N B : Nat} {P : Nat → Prop} {a l w : Int32} {t c : Nat} (hN : N = 2 ^ 31) (hB : B < 2 ^ 31) (h : SmI cost N B P a l w) (ht : t < N) (hn : ¬ P t) (hc : c = cost t) (hc2 : c < B) : SmI cost N B (fun T => P T ∨ T = t) (tkS (a, l, w) (nI t) (nI c)).1 (tkS (a, l, w) (nI t) (nI c)).2.1 (tkS (a, l, w) (nI t) (nI c)).2.2 := by
  obtain ⟨b', l', k', rfl, rfl, rfl, hl, hS⟩ := h
  have hb := hS.2.2.2.2
  have e0 : tkS (nI b', nI l', nI k') (nI t) (nI c) = (if decide (nI c < nI b') then nI c else nI b', if decide (nI c < nI b') || (decide (nI c = nI b') && decide (nI t < nI l')) then nI t else nI l', if decide (nI c < nI b') then 1 else nI k' + b2i (decide (nI c = nI b'))) := rfl
  rcases Nat.lt_trichotomy c b' with h1 | h1 | h1
  · have e : tkS (nI b', nI l', nI k') (nI t) (nI c) = (nI c, nI t, 1) := by
      rw [e0, decide_eq_true (show nI c < nI b' from nI_lt h1 (by omega)), Bool.true_or, if_pos rfl, if_pos rfl, if_pos rfl]
    rw [e]
    exact ⟨c, t, 1, rfl, rfl, (show (1 : Int32) = nI 1 by decide), ht, by rw [hc]; exact Sm_lt hS ht (by omega)⟩
  · have hk : 0 < k' := by
      rcases Nat.eq_zero_or_pos k' with q | q
      · have := hS.2.2.2.1 q; omega
      · exact q
    have e : tkS (nI b', nI l', nI k') (nI t) (nI c) = (nI b', if decide (nI t < nI l') then nI t else nI l', nI k' + 1) := by
      rw [e0, decide_eq_false (show ¬ nI c < nI b' from nI_nlt (by omega) (by omega)), decide_eq_true (show nI c = nI b' by rw [h1]), Bool.false_or, Bool.true_and, if_neg (show ¬ false = true by decide), if_neg (show ¬ false = true by decide)]
      rfl
    rw [e]
    refine ⟨b', if l' ≤ t then l' else t, k' + 1, rfl, ?_, (nI_succ k').symm, ?_, Sm_eq hS ht hn (by omega) ?_⟩
    · show (if decide (nI t < nI l') then nI t else nI l') = _
      by_cases hle : l' ≤ t
      · rw [if_pos hle, decide_eq_false (nI_nlt hle (by omega)), if_neg (by decide)]
      · rw [if_neg hle, decide_eq_true (nI_lt (a := t) (b := l') (by omega) (by omega)), if_pos rfl]
    · split <;> assumption
    · by_cases hle : l' ≤ t
      · rw [if_pos hle, if_pos ⟨by omega, hle⟩]
      · rw [if_neg hle, if_neg (fun q => hle q.2)]
  · have e : tkS (nI b', nI l', nI k') (nI t) (nI c) = (nI b', nI l', nI k') := by
      rw [e0, decide_eq_false (show ¬ nI c < nI b' from nI_nlt (by omega) (by omega)), decide_eq_false (show ¬ nI c = nI b' from fun q => by have := (nI_eq (by omega) (by omega)).mp q; omega), Bool.false_or, Bool.false_and, if_neg (by decide), if_neg (by decide), if_neg (by decide)]
      show (nI b', nI l', nI k' + 0) = _
      rw [Int32.add_zero]
    rw [e]
    exact ⟨b', l', k', rfl, rfl, rfl, hl, Sm_dear hS (fun T hT hq => by rw [hq]; omega)⟩
