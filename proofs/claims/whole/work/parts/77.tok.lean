/-! ===== the text: its tokens ===== -/
def cAZ (c : Int32) : Bool := rg c 97 122
def c09 (c : Int32) : Bool := rg c 48 57
def cBl (c : Int32) : Bool := decide (c = 32)
/-- from p on: so far as P holds -/
def rn (P : Int32 → Bool) (t : Nat → Int32) (n p : Nat) : Nat := p + fa_first (fun i => !P (t (p + i))) (n - p)
theorem rn_ge (P : Int32 → Bool) (t : Nat → Int32) (n p : Nat) : p ≤ rn P t n p := Nat.le_add_right _ _
theorem rn_le {P : Int32 → Bool} {t : Nat → Int32} {n p : Nat} (h : p ≤ n) : rn P t n p ≤ n := by
  have := fa_first_le (fun i => !P (t (p + i))) (n - p)
  unfold rn
  omega
theorem rn_in {P : Int32 → Bool} {t : Nat → Int32} {n p k : Nat} (h : p ≤ k) (h2 : k < rn P t n p) : P (t k) = true := by
  have h3 := fa_first_no (fun i => !P (t (p + i))) (n - p) (k - p) (by unfold rn at h2; omega)
  rw [show p + (k - p) = k by omega] at h3
  simpa using h3
theorem rn_out {P : Int32 → Bool} {t : Nat → Int32} {n p : Nat} (h2 : rn P t n p < n) : P (t (rn P t n p)) = false := by
  have h3 := fa_first_yes (fun i => !P (t (p + i))) (n - p) (by unfold rn at h2; omega)
  simpa [rn] using h3
theorem rn_lt {P : Int32 → Bool} {t : Nat → Int32} {n p : Nat} (h : p < n) (hp : P (t p) = true) : p < rn P t n p := by
  rcases Nat.lt_or_ge p (rn P t n p) with h1 | h1
  · exact h1
  · have h2 : rn P t n p = p := Nat.le_antisymm h1 (rn_ge P t n p)
    have h3 := rn_out (P := P) (t := t) (n := n) (p := p) (by omega)
    rw [h2, hp] at h3
    cases h3
theorem fa_first_ext {P Q : Nat → Bool} : ∀ {n : Nat}, (∀ k, k < n → P k = Q k) → fa_first P n = fa_first Q n
  | 0, _ => rfl
  | n + 1, h => by
    have h1 := fa_first_ext (n := n) (fun k hk => h k (by omega))
    simp only [fa_first, h1, h n (by omega)]
theorem rn_cg {P : Int32 → Bool} {t u : Nat → Int32} {n p : Nat} (h : ∀ k, k < n → P (t k) = P (u k)) : rn P t n p = rn P u n p := by
  unfold rn
  rw [fa_first_ext (fun k hk => by rw [h (p + k) (by omega)])]
def tkB (t : Nat → Int32) (n p : Nat) : Nat := rn cBl t n p
/-- of the token that begins at s: its end, its kind (0 nothing, 1 a name, 2 a number, 3 the stop, 4 none), its value -/
def tE (t : Nat → Int32) (n s : Nat) : Nat := if n ≤ s then s else if cAZ (t s) then rn cAZ t n s else if c09 (t s) then rn c09 t n s else s + 1
def tK (t : Nat → Int32) (n s : Nat) : Nat := if n ≤ s then 0 else if cAZ (t s) then 1 else if c09 (t s) then (if rn c09 t n s - s ≤ 2 then 2 else 4) else if decide (t s = 59) then 3 else 4
def vN (t : Nat → Int32) (s : Nat) : Nat → Int32
  | 0 => 0
  | k + 1 => 10 * vN t s k + t (s + k) - 48
def tV (t : Nat → Int32) (n s : Nat) : Int32 := vN t s (rn c09 t n s - s)
theorem tE_le {t : Nat → Int32} {n s : Nat} (h : s ≤ n) : tE t n s ≤ n := by
  unfold tE
  split
  · exact h
  · split
    · exact rn_le h
    · split
      · exact rn_le h
      · omega
theorem tE_gt {t : Nat → Int32} {n s : Nat} (h : s < n) : s < tE t n s := by
  unfold tE
  rw [if_neg (by omega)]
  cases h1 : cAZ (t s) with
  | true => exact rn_lt h h1
  | false =>
    cases h2 : c09 (t s) with
    | true => exact rn_lt h h2
    | false => exact Nat.lt_succ_self s
theorem tK_4 {t : Nat → Int32} {n s : Nat} : tK t n s ≤ 4 := by
  unfold tK
  split
  · omega
  · split
    · omega
    · split
      · split <;> omega
      · split <;> omega
theorem cAZ_32 {c : Int32} (h : c = 32) : cAZ c = false := by subst h; decide
theorem c09_az {c : Int32} (h : cAZ c = true) : c09 c = false := by
  rw [cAZ, rg_t] at h
  rw [c09, rg_f]
  intro h2
  have h3 := h.1
  have h4 := h2.2
  rw [fa_le] at h3 h4
  have e1 : (97 : Int32).toInt = 97 := by decide
  have e2 : (57 : Int32).toInt = 57 := by decide
  omega
/-- what is read at a place: -1 behind the end -/
def lkv (t : Nat → Int32) (n p : Nat) : Int32 := if p < n then t p else -1
theorem lkv_in {t : Nat → Int32} {n p : Nat} (h : p < n) : lkv t n p = t p := if_pos h
theorem lkv_out {t : Nat → Int32} {n p : Nat} (h : n ≤ p) : lkv t n p = -1 := if_neg (by omega)
theorem lkv_rn {P : Int32 → Bool} {t : Nat → Int32} {n p : Nat} (hP : P (-1) = false) : P (lkv t n (rn P t n p)) = false := by
  unfold lkv
  by_cases h : rn P t n p < n
  · rw [if_pos h]; exact rn_out h
  · rw [if_neg h]; exact hP
/-- a fault and its place, or what is read -/
abbrev Ex (α : Type) : Type := (Int32 × Nat) ⊕ α
def mis (K : Nat) : Int32 := if K = 4 then 1 else 2
/-- where the token behind that at s begins -/
def nx (t : Nat → Int32) (n s : Nat) : Nat := tkB t n (tE t n s)
/-- the token at s is a number within bounds: its value -/
def numA (t : Nat → Int32) (n : Nat) (lo hi : Int32) (s : Nat) : Ex Int32 := if tK t n s = 2 then (if rg (tV t n s) lo hi then .inr (tV t n s) else .inl (3, s)) else .inl (mis (tK t n s), s)
/-- numbers that were not told before (by bits): where the first token behind them begins -/
def mnA (t : Nat → Int32) (n : Nat) (lo hi : Int32) : Nat → Int32 → Nat → Ex (Int32 × Nat)
  | 0, _, s => .inl (2, s)
  | f + 1, go, s => match numA t n lo hi s with
    | .inl e => .inl e
    | .inr v => if lies go v then .inl (4, s) else if tK t n (nx t n s) = 2 then mnA t n lo hi f (inS go v) (nx t n s) else .inr (inS go v, nx t n s)
/-- what is told: wide, high, whether; gone, sizes (bits); costs (0: none); seen (-4: none) -/
abbrev Dr : Type := (Int32 × Int32 × Bool) × (Int32 × Int32) × (Nat → Int32) × (Nat → Int32)
def nmI (t : Nat → Int32) (s e : Nat) (a b c d : Int32) : Bool := decide (e - s = 4) && (decide (t s = a) && (decide (t (s + 1) = b) && (decide (t (s + 2) = c) && decide (t (s + 3) = d))))
def nmK (t : Nat → Int32) (s e : Nat) : Nat := if nmI t s e 103 114 105 100 then 0 else if nmI t s e 103 111 110 101 then 1 else if nmI t s e 99 111 115 116 then 2 else if nmI t s e 115 105 122 101 then 3 else if nmI t s e 115 101 101 110 then 4 else 5
def lkG (t : Nat → Int32) (n : Nat) (D : Dr) (s : Nat) : Ex (Dr × Nat) := match numA t n 1 4 s with
  | .inl e => .inl e
  | .inr w => match numA t n 1 3 (nx t n s) with
    | .inl e => .inl e
    | .inr h => .inr (((w, h, true), D.2), nx t n (nx t n s))
def lkO (t : Nat → Int32) (n : Nat) (D : Dr) (s : Nat) : Ex (Dr × Nat) := match mnA t n 0 30 330 D.2.1.1 s with
  | .inl e => .inl e
  | .inr (g, s1) => .inr ((D.1, (g, D.2.1.2), D.2.2), s1)
def lkZ (t : Nat → Int32) (n : Nat) (D : Dr) (s : Nat) : Ex (Dr × Nat) := match mnA t n 1 3 330 D.2.1.2 s with
  | .inl e => .inl e
  | .inr (g, s1) => .inr ((D.1, (D.2.1.1, g), D.2.2), s1)
def lkC (t : Nat → Int32) (n : Nat) (D : Dr) (s : Nat) : Ex (Dr × Nat) := match numA t n 0 30 s with
  | .inl e => .inl e
  | .inr m => if decide (D.2.2.1 m.toNatClampNeg = 0) then (match numA t n 1 9 (nx t n s) with
    | .inl e => .inl e
    | .inr v => .inr ((D.1, D.2.1, upd D.2.2.1 m.toNatClampNeg v, D.2.2.2), nx t n (nx t n s))) else .inl (4, s)
def lkS4 (t : Nat → Int32) (n : Nat) (D : Dr) (s : Nat) : Ex (Dr × Nat) := match numA t n 1 3 s with
  | .inl e => .inl e
  | .inr m => if decide (D.2.2.2 m.toNatClampNeg = -4) then (match numA t n 0 12 (nx t n s) with
    | .inl e => .inl e
    | .inr v => .inr ((D.1, D.2.1, D.2.2.1, upd D.2.2.2 m.toNatClampNeg v), nx t n (nx t n s))) else .inl (4, s)
/-- the rest of a line, by its name -/
def lnK (t : Nat → Int32) (n : Nat) (k : Nat) (D : Dr) (s : Nat) : Ex (Dr × Nat) := if k = 0 then lkG t n D s else if k = 1 then lkO t n D s else if k = 2 then lkC t n D s else if k = 3 then lkZ t n D s else lkS4 t n D s
/-- a line, whose first token begins at s: what it tells, where the next one begins -/
def lne (t : Nat → Int32) (n : Nat) (D : Dr) (s : Nat) : Ex (Dr × Nat) :=
  if tK t n s = 1 then (if nmK t s (tE t n s) = 5 then .inl (2, s) else if nmK t s (tE t n s) = 0 ∧ D.1.2.2 = true then .inl (4, s) else match lnK t n (nmK t s (tE t n s)) D (nx t n s) with
    | .inl e => .inl e
    | .inr (D', s') => if tK t n s' = 3 then .inr (D', nx t n s') else .inl (mis (tK t n s'), s')) else .inl (mis (tK t n s), s)
/-- all lines: how many, what they tell, where the end is -/
def lns (t : Nat → Int32) (n : Nat) : Nat → Dr → Nat → Nat → Ex (Nat × Dr × Nat)
  | 0, _, _, s => .inl (2, s)
  | f + 1, D, k, s => if tK t n s = 0 then .inr (k, D, s) else match lne t n D s with
    | .inl e => .inl e
    | .inr (D', s') => lns t n f D' (k + 1) s'
theorem nx_gt {t : Nat → Int32} {n s : Nat} (h : s < n) : s < nx t n s := Nat.lt_of_lt_of_le (tE_gt h) (rn_ge _ _ _ _)
theorem nx_le {t : Nat → Int32} {n s : Nat} (h : s ≤ n) : nx t n s ≤ n := rn_le (tE_le h)
theorem tK_in {t : Nat → Int32} {n s : Nat} (h : tK t n s ≠ 0) : s < n := by
  rcases Nat.lt_or_ge s n with h1 | h1
  · exact h1
  · exact absurd (by rw [tK, if_pos h1]) h
theorem mis_pos (K : Nat) : 0 < mis K := by unfold mis; split <;> decide
theorem mis_4 : mis 4 = 1 := rfl
theorem mis_n {K : Nat} (h : K ≠ 4) : mis K = 2 := if_neg h
