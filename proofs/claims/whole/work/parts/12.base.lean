/-! ===== folds, truth values, ranges; rules of branches on truth values ===== -/
def fld {α : Type} (f : Nat → α → α) : Nat → α → α
  | 0, a => a
  | n + 1, a => f n (fld f n a)
theorem fld_s {α : Type} (f : Nat → α → α) (n : Nat) (a : α) : fld f (n + 1) a = f n (fld f n a) := rfl
theorem fld_congr {α : Type} {f g : Nat → α → α} : ∀ {n : Nat} {a : α}, (∀ k x, k < n → f k x = g k x) → fld f n a = fld g n a
  | 0, _, _ => rfl
  | n + 1, a, h => by
    rw [fld_s, fld_s, fld_congr (n := n) (fun k x hk => h k x (by omega)), h n _ (by omega)]
def b2i (b : Bool) : Int32 := if b then 1 else 0
theorem b2i_0 {b : Bool} : b2i b = 0 ↔ b = false := by cases b <;> decide
theorem b2i_n0 {b : Bool} : ¬ b2i b = 0 ↔ b = true := by cases b <;> decide
theorem b2i_1 {b : Bool} : b2i b = 1 ↔ b = true := by cases b <;> decide
theorem b2i_t : b2i true = 1 := rfl
theorem b2i_f : b2i false = 0 := rfl
theorem nz_b (b : Bool) : narrow .boolean (.int (b2i b)) = .int (b2i b) := by cases b <;> rfl
theorem fz_b (b : Bool) : fits .boolean (.int (b2i b)) = true := by cases b <;> rfl
theorem oi {a b : Int32} (h : a = b) : some (Value.int a) = some (Value.int b) := by rw [h]
theorem ol {a b : Int64} (h : a = b) : some (Value.long a) = some (Value.long b) := by rw [h]
theorem lup {P : Nat → Prop} {N : Nat} (hend : P N) (hstep : ∀ k, k < N → P (k + 1) → P k) : ∀ k, k ≤ N → P k := by
  intro k hk
  obtain ⟨d, rfl⟩ : ∃ d, N = k + d := ⟨N - k, by omega⟩
  clear hk
  induction d generalizing k with
  | zero => exact hend
  | succ d ih => exact hstep k (by omega) (ih (k + 1) (by rw [show k + 1 + d = k + (d + 1) by omega]; exact hend) (fun j hj => hstep j (by omega)))
/-- x lies between a and b -/
def rg (x a b : Int32) : Bool := decide (a ≤ x) && decide (x ≤ b)
theorem rg_t {x a b : Int32} : rg x a b = true ↔ a ≤ x ∧ x ≤ b := by simp [rg]
theorem rg_f {x a b : Int32} : rg x a b = false ↔ ¬ (a ≤ x ∧ x ≤ b) := by
  rw [← rg_t]; cases rg x a b <;> simp
/-- x is a place below n -/
def ix (x : Int32) (n : Nat) : Bool := decide (0 ≤ x) && decide (x < nI n)
theorem ix_t {x : Int32} {n : Nat} (hn : n < 2 ^ 31) : ix x n = true ↔ ∃ q, q < n ∧ x = nI q := by
  constructor
  · intro h
    simp only [ix, Bool.and_eq_true, decide_eq_true_eq] at h
    obtain ⟨q, h1, h2⟩ := nI_of (x := x) (fun q => absurd h.1 (by rw [fa_le]; rw [fa_lt] at q; exact Int.not_le.mpr q))
    subst h2
    exact ⟨q, (nI_ltI h1 hn).mp h.2, rfl⟩
  · rintro ⟨q, h1, rfl⟩
    simp only [ix, Bool.and_eq_true, decide_eq_true_eq]
    exact ⟨nI_pos' (by omega), nI_lt h1 hn⟩
theorem ix_nI {q n : Nat} (h : q < n) (hn : n < 2 ^ 31) : ix (nI q) n = true := (ix_t hn).mpr ⟨q, h, rfl⟩
theorem nI_m1 {n : Nat} (hn : n < 2 ^ 31) : (nI n - 1).toInt = (n : Int) - 1 := by
  rcases Nat.eq_zero_or_pos n with rfl | h
  · decide
  · obtain ⟨k, rfl⟩ : ∃ k, n = k + 1 := ⟨n - 1, by omega⟩
    rw [nI_pred, nI_toInt (by omega)]
    omega
theorem rg_ix (x : Int32) {n : Nat} (hn : n < 2 ^ 31) : rg x 0 (nI n - 1) = ix x n := by
  have h : (x ≤ nI n - 1) ↔ (x < nI n) := by
    rw [fa_le, fa_lt, nI_m1 hn, nI_toInt hn]
    omega
  simp [rg, ix, h]
theorem rg_nat {x : Int32} {a b : Nat} (hb : b < 2 ^ 31) (hab : a ≤ b) (h : rg x (nI a) (nI b) = true) : ∃ q, a ≤ q ∧ q ≤ b ∧ x = nI q := by
  rw [rg_t] at h
  obtain ⟨q, h1, h2⟩ := nI_of (x := x) (fun q => by
    rw [fa_lt] at q
    have h3 := h.1
    rw [fa_le, nI_toInt (by omega)] at h3
    have h0 : (0 : Int32).toInt = 0 := by decide
    omega)
  subst h2
  refine ⟨q, ?_, ?_, rfl⟩
  · have h3 := h.1; rw [nI_leI (by omega) h1] at h3; exact h3
  · have h3 := h.2; rw [nI_leI h1 hb] at h3; exact h3
section XB
variable {i : Mi} {F : Fn} {cells slots : Nat} {S : List Ds} {M : Mm} {pc : Nat} {lv : Lv} {st : List Value}
theorem x_ifb_eq {off : Int} {b : Bool} (tgt : Nat) (hd : decode (mC i) pc = .ok (.ifCond .eq off, 3)) (ht : (pc : Int) + off = (tgt : Int)) (kt : b = false → XW i F cells slots S M tgt lv st) (kf : b = true → XW i F cells slots S M (pc + 3) lv st) : XW i F cells slots S M pc lv (.int (b2i b) :: st) := x_if_eq tgt hd ht (fun h => kt (b2i_0.mp h)) (fun h => kf (b2i_n0.mp h))
theorem x_ifb_ne {off : Int} {b : Bool} (tgt : Nat) (hd : decode (mC i) pc = .ok (.ifCond .ne off, 3)) (ht : (pc : Int) + off = (tgt : Int)) (kt : b = true → XW i F cells slots S M tgt lv st) (kf : b = false → XW i F cells slots S M (pc + 3) lv st) : XW i F cells slots S M pc lv (.int (b2i b) :: st) := x_if_ne tgt hd ht (fun h => kt (b2i_n0.mp h)) (fun h => kf (b2i_0.mp h))
end XB
