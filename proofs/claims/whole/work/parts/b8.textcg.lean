/-! ===== the tape read as signed and as unsigned bytes ===== -/
def bad (x : Int32) : Prop := x < 0 ∨ 127 < x
def Et (t u : Nat → Int32) (n : Nat) : Prop := ∀ k, k < n → t k = u k ∨ (bad (t k) ∧ bad (u k))
theorem sim_et {a b : Int32} (h : sim a b) : (a = b ∨ (bad a ∧ bad b)) ∧ 0 ≤ b := by
  obtain ⟨n, hn, rfl, rfl⟩ := h
  refine ⟨?_, nI_pos' (by omega)⟩
  by_cases h1 : n < 128
  · exact Or.inl (fa_byte_small h1)
  · refine Or.inr ⟨?_, Or.inr (nI_lt (a := 127) (by omega) (by omega))⟩
    left
    have tab : ∀ n, n < 256 → 128 ≤ n → (nI n).toInt8.toInt32 < 0 := by decide +kernel
    exact tab n hn (by omega)
theorem rg_bad {x lo hi : Int32} (hx : bad x) (h1 : 0 ≤ lo) (h2 : hi ≤ 127) : rg x lo hi = false := by
  rw [rg_f]
  rintro ⟨a, b⟩
  have h0 : (0 : Int32).toInt = 0 := by decide
  have h7 : (127 : Int32).toInt = 127 := by decide
  rw [fa_le] at a b h1 h2
  unfold bad at hx
  rw [fa_lt, fa_lt] at hx
  omega
theorem eq_bad {x a : Int32} (hx : bad x) (h1 : 0 ≤ a) (h2 : a ≤ 127) : decide (x = a) = false := by
  refine decide_eq_false (fun q => ?_)
  subst q
  unfold bad at hx
  rw [fa_lt, fa_lt] at hx
  rw [fa_le] at h1 h2
  omega
section CG
variable {t u : Nat → Int32} {n : Nat}
theorem et_rg (h : Et t u n) {lo hi : Int32} (h1 : 0 ≤ lo) (h2 : hi ≤ 127) {k : Nat} (hk : k < n) : rg (t k) lo hi = rg (u k) lo hi := by
  rcases h k hk with e | ⟨a, b⟩
  · rw [e]
  · rw [rg_bad a h1 h2, rg_bad b h1 h2]
theorem et_eq (h : Et t u n) {a : Int32} (h1 : 0 ≤ a) (h2 : a ≤ 127) {k : Nat} (hk : k < n) : decide (t k = a) = decide (u k = a) := by
  rcases h k hk with e | ⟨x, y⟩
  · rw [e]
  · rw [eq_bad x h1 h2, eq_bad y h1 h2]
theorem et_rAZ (h : Et t u n) (s : Nat) : rn cAZ t n s = rn cAZ u n s := rn_cg (fun k hk => et_rg h (by decide) (by decide) hk)
theorem et_r09 (h : Et t u n) (s : Nat) : rn c09 t n s = rn c09 u n s := rn_cg (fun k hk => et_rg h (by decide) (by decide) hk)
theorem et_rBl (h : Et t u n) (s : Nat) : rn cBl t n s = rn cBl u n s := rn_cg (fun k hk => et_eq h (by decide) (by decide) hk)
theorem et_tE (h : Et t u n) (s : Nat) : tE t n s = tE u n s := by
  unfold tE
  by_cases hs : n ≤ s
  · rw [if_pos hs, if_pos hs]
  · rw [if_neg hs, if_neg hs, et_rAZ h, et_r09 h, show cAZ (t s) = cAZ (u s) from et_rg h (by decide) (by decide) (by omega), show c09 (t s) = c09 (u s) from et_rg h (by decide) (by decide) (by omega)]
theorem et_tK (h : Et t u n) (s : Nat) : tK t n s = tK u n s := by
  unfold tK
  by_cases hs : n ≤ s
  · rw [if_pos hs, if_pos hs]
  · rw [if_neg hs, if_neg hs, et_r09 h, show cAZ (t s) = cAZ (u s) from et_rg h (by decide) (by decide) (by omega), show c09 (t s) = c09 (u s) from et_rg h (by decide) (by decide) (by omega), et_eq h (a := 59) (by decide) (by decide) (by omega)]
theorem et_nx (h : Et t u n) (s : Nat) : nx t n s = nx u n s := by
  unfold nx tkB
  rw [et_tE h, et_rBl h]
theorem et_tV (h : Et t u n) (s : Nat) : tV t n s = tV u n s := by
  unfold tV
  rw [et_r09 h]
  have key : ∀ k, k ≤ rn c09 u n s - s → vN t s k = vN u s k := by
    intro k
    induction k with
    | zero => intro _; rfl
    | succ k ih =>
      intro hk
      show 10 * vN t s k + t (s + k) - 48 = 10 * vN u s k + u (s + k) - 48
      rw [ih (by omega)]
      have hlt : k < fa_first (fun i => !c09 (u (s + i))) (n - s) := by unfold rn at hk; omega
      have hle := fa_first_le (fun i => !c09 (u (s + i))) (n - s)
      have hno := fa_first_no _ _ _ hlt
      rw [Bool.not_eq_false'] at hno
      rcases h (s + k) (by omega) with e | ⟨-, b⟩
      · rw [e]
      · rw [show c09 (u (s + k)) = false from rg_bad b (by decide) (by decide)] at hno; cases hno
  exact key _ (Nat.le_refl _)
theorem et_num (h : Et t u n) (lo hi : Int32) (s : Nat) : numA t n lo hi s = numA u n lo hi s := by
  unfold numA
  rw [et_tK h, et_tV h]
theorem et_mn (h : Et t u n) (lo hi : Int32) : ∀ (f : Nat) (go : Int32) (s : Nat), mnA t n lo hi f go s = mnA u n lo hi f go s
  | 0, _, _ => rfl
  | f + 1, go, s => by
    simp only [mnA, et_num h, et_nx h, et_tK h, et_mn h lo hi f]
theorem et_nmI (h : Et t u n) {s e : Nat} (he : e ≤ n) {a b c d : Int32} (ha : 0 ≤ a ∧ a ≤ 127) (hb : 0 ≤ b ∧ b ≤ 127) (hc : 0 ≤ c ∧ c ≤ 127) (hd : 0 ≤ d ∧ d ≤ 127) : nmI t s e a b c d = nmI u s e a b c d := by
  unfold nmI
  by_cases h4 : e - s = 4
  · rw [et_eq h ha.1 ha.2 (k := s) (by omega), et_eq h hb.1 hb.2 (k := s + 1) (by omega), et_eq h hc.1 hc.2 (k := s + 2) (by omega), et_eq h hd.1 hd.2 (k := s + 3) (by omega)]
  · rw [decide_eq_false h4]; rfl
theorem et_nmK (h : Et t u n) {s e : Nat} (he : e ≤ n) : nmK t s e = nmK u s e := by
  unfold nmK
  rw [et_nmI h he (by decide) (by decide) (by decide) (by decide), et_nmI h he (a := 103) (b := 111) (by decide) (by decide) (by decide) (by decide), et_nmI h he (a := 99) (by decide) (by decide) (by decide) (by decide), et_nmI h he (a := 115) (b := 105) (by decide) (by decide) (by decide) (by decide), et_nmI h he (a := 115) (b := 101) (by decide) (by decide) (by decide) (by decide)]
theorem et_lnK (h : Et t u n) (k : Nat) (D : Dr) (s : Nat) : lnK t n k D s = lnK u n k D s := by
  simp only [lnK, lkG, lkO, lkC, lkZ, lkS4, et_num h, et_nx h, et_mn h]
theorem et_lne (h : Et t u n) (D : Dr) (s : Nat) : lne t n D s = lne u n D s := by
  unfold lne
  rw [et_tK h s]
  by_cases hk : tK u n s = 1
  · have hs : ¬ n ≤ s := fun q => by unfold tK at hk; rw [if_pos q] at hk; cases hk
    rw [if_pos hk, if_pos hk, et_tE h, et_nmK h (tE_le (by omega)), et_nx h, et_lnK h]
    simp only [et_tK h, et_nx h]
  · rw [if_neg hk, if_neg hk]
theorem et_lns (h : Et t u n) : ∀ (f : Nat) (D : Dr) (k s : Nat), lns t n f D k s = lns u n f D k s
  | 0, _, _, _ => rfl
  | f + 1, D, k, s => by
    simp only [lns, et_tK h, et_lne h, et_lns h f]
end CG
