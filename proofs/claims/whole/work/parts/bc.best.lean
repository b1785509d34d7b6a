/-! ===== the best of many sets ===== -/
def Sm (cost : Nat → Nat) (N : Nat) (P : Nat → Bool) (b l k : Nat) : Prop := (∀ T, T < N → P T = true → b ≤ cost T) ∧ k = fb_ct (fun T => P T && decide (cost T = b)) N ∧ (0 < k → l = fa_first (fun T => P T && decide (cost T = b)) N)
theorem Sm_dear {cost : Nat → Nat} {N : Nat} {P Q : Nat → Bool} {b l k : Nat} (h : Sm cost N P b l k) (hQ : ∀ T, T < N → Q T = true → b < cost T) : Sm cost N (fun T => P T || Q T) b l k := by
  have e : ∀ T, T < N → ((P T || Q T) && decide (cost T = b)) = (P T && decide (cost T = b)) := by
    intro T hT
    cases hq : Q T with
    | false => rw [Bool.or_false]
    | true =>
      have := hQ T hT hq
      rw [decide_eq_false (show ¬ cost T = b by omega), Bool.and_false, Bool.and_false]
  refine ⟨fun T hT hp => ?_, ?_, fun hk => ?_⟩
  · rw [Bool.or_eq_true] at hp
    rcases hp with hp | hp
    · exact h.1 T hT hp
    · have := hQ T hT hp; omega
  · rw [ct_congr e]; exact h.2.1
  · rw [first_congr e]; exact h.2.2 hk
theorem Sm_cg {cost : Nat → Nat} {N : Nat} {P Q : Nat → Bool} {b l k : Nat} (h : Sm cost N P b l k) (e : ∀ T, T < N → P T = Q T) : Sm cost N Q b l k := by
  have e2 : ∀ T, T < N → (Q T && decide (cost T = b)) = (P T && decide (cost T = b)) := fun T hT => by rw [e T hT]
  exact ⟨fun T hT hp => h.1 T hT (by rw [e T hT]; exact hp), by rw [ct_congr e2]; exact h.2.1, fun hk => by rw [first_congr e2]; exact h.2.2 hk⟩
theorem ct_one {T0 : Nat} : ∀ {N : Nat}, T0 < N → fb_ct (fun T => decide (T = T0)) N = 1
  | 0, h => absurd h (by omega)
  | N + 1, h => by
    rw [fb_ct_succ]
    rcases (show T0 = N ∨ T0 < N by omega) with rfl | h2
    · rw [ct_zero (fun k hk => decide_eq_false (by omega)), decide_eq_true rfl]; rfl
    · rw [ct_one h2, decide_eq_false (by omega)]; rfl
