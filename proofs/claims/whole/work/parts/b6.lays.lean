/-! ===== the laying games: numbers ===== -/
theorem fb_spec {r nd : Nat → Int32} {n : Nat} {e : Bool} {j : Nat} : ∀ k, (∀ i, i < k → j.testBit i = true → -20 ≤ (fbv r nd n e j i).toInt) → ((∀ i, i < k → j.testBit i = false) ∧ fbF r nd n e j k = (0, -21)) ∨ ((fbF r nd n e j k).1 < k ∧ j.testBit (fbF r nd n e j k).1 = true ∧ (fbF r nd n e j k).2 = fbv r nd n e j (fbF r nd n e j k).1 ∧ (∀ i, i < k → j.testBit i = true → (fbv r nd n e j i).toInt ≤ (fbF r nd n e j k).2.toInt) ∧ ∀ i, i < (fbF r nd n e j k).1 → j.testBit i = true → (fbv r nd n e j i).toInt < (fbF r nd n e j k).2.toInt)
  | 0, _ => Or.inl ⟨fun i h => absurd h (by omega), rfl⟩
  | k + 1, h => by
    have ih := fb_spec (r := r) (nd := nd) (n := n) (e := e) (j := j) k (fun i hi => h i (by omega))
    have h21 : (-21 : Int32).toInt = -21 := by decide
    rw [fbF_s]
    cases hb : j.testBit k with
    | false =>
      rw [Bool.false_and, if_neg (by decide)]
      rcases ih with ⟨a, b⟩ | ⟨a1, a2, a3, a4, a5⟩
      · refine Or.inl ⟨fun i hi => ?_, b⟩
        rcases (show i = k ∨ i < k by omega) with rfl | h2
        · exact hb
        · exact a i h2
      · refine Or.inr ⟨by omega, a2, a3, fun i hi ht => ?_, a5⟩
        rcases (show i = k ∨ i < k by omega) with rfl | h2
        · rw [hb] at ht; cases ht
        · exact a4 i h2 ht
    | true =>
      have hv := h k (by omega) hb
      rw [Bool.true_and]
      by_cases hc : fbv r nd n e j k ≤ (fbF r nd n e j k).2
      · rw [decide_eq_true hc, if_neg (by decide)]
        rw [fa_le] at hc
        rcases ih with ⟨a, b⟩ | ⟨a1, a2, a3, a4, a5⟩
        · rw [b, h21] at hc; omega
        · refine Or.inr ⟨by omega, a2, a3, fun i hi ht => ?_, a5⟩
          rcases (show i = k ∨ i < k by omega) with rfl | h2
          · exact hc
          · exact a4 i h2 ht
      · rw [decide_eq_false hc, if_pos (show (!false) = true from rfl)]
        rw [fa_le] at hc
        refine Or.inr ⟨by show k < k + 1; omega, hb, rfl, fun i hi ht => ?_, fun i hi ht => ?_⟩
        · show (fbv r nd n e j i).toInt ≤ (fbv r nd n e j k).toInt
          rcases (show i = k ∨ i < k by omega) with rfl | h2
          · exact Int.le_refl _
          · rcases ih with ⟨a, b⟩ | ⟨a1, a2, a3, a4, a5⟩
            · rw [a i h2] at ht; cases ht
            · have := a4 i h2 ht; omega
        · show (fbv r nd n e j i).toInt < (fbv r nd n e j k).toInt
          have h2 : i < k := hi
          rcases ih with ⟨a, b⟩ | ⟨a1, a2, a3, a4, a5⟩
          · rw [a i h2] at ht; cases ht
          · have := a4 i h2 ht; omega
/-- the reference's greatest is the class's -/
theorem bst_spec {r nd lef G : Nat → Int32} {n m : Nat} {e : Bool} {j j' : Nat} (hv : ∀ i, i < m → j.testBit i = true → -20 ≤ (fbv r nd n e j i).toInt) (hc : ∀ i, i < m → j'.testBit i = !j.testBit i) (hp : ∀ i, i < m → j.testBit i = true → pvL lef G e j' i = fbv r nd n e j i) : ∀ k, k ≤ m → ((∀ i, i < k → j.testBit i = false) ∧ bstL lef G e j' k = -1000000) ∨ ((∃ i, i < k ∧ j.testBit i = true) ∧ bstL lef G e j' k = (fbF r nd n e j k).2)
  | 0, _ => Or.inl ⟨fun i h => absurd h (by omega), rfl⟩
  | k + 1, hk => by
    have ih := bst_spec hv hc hp k (by omega)
    have sp := fb_spec (r := r) (nd := nd) (n := n) (e := e) (j := j) k (fun i hi => hv i (by omega))
    have hm6 : (-1000000 : Int32).toInt = -1000000 := by decide
    have h21 : (-21 : Int32).toInt = -21 := by decide
    rw [bstL_s, fbF_s, hc k (by omega)]
    cases hb : j.testBit k with
    | false =>
      rw [if_pos (show (!false) = true from rfl), Bool.false_and, if_neg (show ¬ false = true by decide)]
      rcases ih with ⟨a, b⟩ | ⟨⟨i, i1, i2⟩, b⟩
      · refine Or.inl ⟨fun i hi => ?_, b⟩
        rcases (show i = k ∨ i < k by omega) with rfl | h2
        · exact hb
        · exact a i h2
      · exact Or.inr ⟨⟨i, by omega, i2⟩, b⟩
    | true =>
      rw [if_neg (show ¬ (!true) = true by decide), Bool.true_and, hp k (by omega) hb]
      refine Or.inr ⟨⟨k, by omega, hb⟩, ?_⟩
      have hvk := hv k (by omega) hb
      rcases ih with ⟨a, b⟩ | ⟨⟨i, i1, i2⟩, b⟩
      · rcases sp with ⟨s1, s2⟩ | ⟨s1, s2, -⟩
        · rw [b, s2]
          have c1 : ¬ fbv r nd n e j k ≤ -1000000 := by rw [fa_le, hm6]; omega
          have c2 : ¬ fbv r nd n e j k ≤ -21 := by rw [fa_le, h21]; omega
          rw [decide_eq_false c1]
          show _ = (if (!decide (fbv r nd n e j k ≤ -21)) = true then (k, fbv r nd n e j k) else (0, -21)).2
          rw [decide_eq_false c2]
          rfl
        · rw [a _ s1] at s2; cases s2
      · rw [b]
        cases decide (fbv r nd n e j k ≤ (fbF r nd n e j k).2) <;> rfl
def Gf (nd : Nat → Int32) (n p : Nat) (e : Bool) : Nat → Nat → Int32
  | 0, _ => 0
  | f + 1, j => if j = 0 then 0 else (fbF (Gf nd n p e f) nd n e j p).2
theorem Gf_eq (nd : Nat → Int32) (n p : Nat) (e : Bool) : ∀ (f f' j : Nat), j < f → j < f' → Gf nd n p e f j = Gf nd n p e f' j
  | 0, _, _, h, _ => absurd h (by omega)
  | _ + 1, 0, _, _, h => absurd h (by omega)
  | f + 1, f' + 1, j, h1, h2 => by
    show (if j = 0 then 0 else (fbF (Gf nd n p e f) nd n e j p).2) = (if j = 0 then 0 else (fbF (Gf nd n p e f') nd n e j p).2)
    rw [fbF_congr (fun i hi => Gf_eq nd n p e f f' i (by omega) (by omega))]
def GG (nd : Nat → Int32) (n p : Nat) (e : Bool) (j : Nat) : Int32 := Gf nd n p e (j + 1) j
theorem GG_s (nd : Nat → Int32) (n p : Nat) (e : Bool) {j : Nat} (hj : 0 < j) : GG nd n p e j = (fbF (GG nd n p e) nd n e j p).2 := by
  show (if j = 0 then 0 else (fbF (Gf nd n p e j) nd n e j p).2) = _
  rw [if_neg (by omega), fbF_congr (fun i hi => Gf_eq nd n p e j (i + 1) i hi (by omega))]
  rfl
/-- what the squares give: D newly made, R still to be made -/
def Gd (nd : Nat → Int32) (n p : Nat) (D : Nat → Nat → Nat) (R : Nat → Nat) : Prop :=
  (∀ j k, j < 2 ^ p → k < p → j.testBit k = true → mdb nd (nI j) (b1 k) n = nI (D j k)) ∧
  (∀ j k, j < 2 ^ p → k < p → j.testBit k = true → decide (clo nd (nI j) n &&& b1 k = 0) = decide (D j k = 0)) ∧
  (∀ j k, j < 2 ^ p → k < p → j.testBit k = true → R (j ^^^ 2 ^ k) + D j k = R j) ∧
  (∀ j, j < 2 ^ p → R j ≤ 20)
theorem Gd.mdb {nd : Nat → Int32} {n p : Nat} {D : Nat → Nat → Nat} {R : Nat → Nat} (h : Gd nd n p D R) : ∀ j k, j < 2 ^ p → k < p → j.testBit k = true → mdb nd (nI j) (b1 k) n = nI (D j k) := h.1
theorem Gd.clo {nd : Nat → Int32} {n p : Nat} {D : Nat → Nat → Nat} {R : Nat → Nat} (h : Gd nd n p D R) : ∀ j k, j < 2 ^ p → k < p → j.testBit k = true → decide (clo nd (nI j) n &&& b1 k = 0) = decide (D j k = 0) := h.2.1
theorem Gd.sum {nd : Nat → Int32} {n p : Nat} {D : Nat → Nat → Nat} {R : Nat → Nat} (h : Gd nd n p D R) : ∀ j k, j < 2 ^ p → k < p → j.testBit k = true → R (j ^^^ 2 ^ k) + D j k = R j := h.2.2.1
theorem Gd.top {nd : Nat → Int32} {n p : Nat} {D : Nat → Nat → Nat} {R : Nat → Nat} (h : Gd nd n p D R) : ∀ j, j < 2 ^ p → R j ≤ 20 := h.2.2.2
theorem sb_ng (a b : Int32) : a - -b = a + b := by rw [Int32.sub_eq_add_neg, Int32.neg_neg]
theorem ng_i {x : Int32} (h1 : -100 ≤ x.toInt) (h2 : x.toInt ≤ 100) : (-x).toInt = -x.toInt := by
  rw [Int32.toInt_neg]
  exact Int.bmod_eq_of_le (by omega) (by omega)
theorem pl_i {n : Nat} {x : Int32} (hn : n ≤ 20) (h1 : -100 ≤ x.toInt) (h2 : x.toInt ≤ 100) : (nI n + x).toInt = (n : Int) + x.toInt := by
  rw [Int32.toInt_add, nI_toInt (by omega)]
  exact Int.bmod_eq_of_le (by omega) (by omega)
def Bd (R : Nat → Nat) (e : Bool) (j : Nat) : Int := if e then (R j : Int) else 1
theorem fbv_b {nd : Nat → Int32} {n p : Nat} {D : Nat → Nat → Nat} {R : Nat → Nat} (hd : Gd nd n p D R) {e : Bool} {G : Nat → Int32} {j k : Nat} (hj : j < 2 ^ p) (hk : k < p) (hb : j.testBit k = true) (hG : -(Bd R e (j ^^^ 2 ^ k)) ≤ (G (j ^^^ 2 ^ k)).toInt ∧ (G (j ^^^ 2 ^ k)).toInt ≤ Bd R e (j ^^^ 2 ^ k)) : -(Bd R e j) ≤ (fbv G nd n e j k).toInt ∧ (fbv G nd n e j k).toInt ≤ Bd R e j := by
  have h1 := hd.sum j k hj hk hb
  have h2 := hd.top j hj
  have h3 := hd.top _ (xor_lt hj hk)
  unfold fbv
  rw [hd.clo j k hj hk hb, hd.mdb j k hj hk hb]
  unfold Bd at hG ⊢
  by_cases h0 : D j k = 0
  · rw [decide_eq_true h0, if_pos rfl]
    cases e with
    | true =>
      simp only [if_true] at hG ⊢
      rw [ng_i (by omega) (by omega)]
      omega
    | false =>
      simp only [Bool.false_eq_true, if_false] at hG ⊢
      rw [ng_i (by omega) (by omega)]
      omega
  · rw [decide_eq_false h0, if_neg (show ¬ false = true by decide)]
    cases e with
    | true =>
      simp only [if_true] at hG ⊢
      rw [sb_ng, pl_i (n := D j k) (x := G (j ^^^ 2 ^ k)) (by omega) (by omega) (by omega)]
      omega
    | false =>
      simp only [Bool.false_eq_true, if_false] at hG ⊢
      decide
theorem Bd20 {nd : Nat → Int32} {n p : Nat} {D : Nat → Nat → Nat} {R : Nat → Nat} (hd : Gd nd n p D R) (e : Bool) {j : Nat} (hj : j < 2 ^ p) : Bd R e j ≤ 20 ∧ 0 ≤ Bd R e j := by
  have := hd.top j hj
  unfold Bd
  cases e with
  | true => simp only [if_true]; omega
  | false => simp only [Bool.false_eq_true, if_false]; omega
theorem tb_any {p j : Nat} (hj : j < 2 ^ p) (h0 : 0 < j) : ∃ i, i < p ∧ j.testBit i = true := by
  refine Classical.byContradiction (fun hn => ?_)
  have : j = 0 := Nat.eq_of_testBit_eq (fun i => by
    rw [Nat.zero_testBit]
    cases hb : j.testBit i with
    | false => rfl
    | true =>
      rcases Nat.lt_or_ge i p with h | h
      · exact absurd ⟨i, h, hb⟩ hn
      · rw [Nat.testBit_lt_two_pow (Nat.lt_of_lt_of_le hj (Nat.pow_le_pow_right (by decide) h))] at hb; cases hb)
  omega
theorem GG_b {nd : Nat → Int32} {n p : Nat} {D : Nat → Nat → Nat} {R : Nat → Nat} (hd : Gd nd n p D R) (e : Bool) (j : Nat) : j < 2 ^ p → -(Bd R e j) ≤ (GG nd n p e j).toInt ∧ (GG nd n p e j).toInt ≤ Bd R e j := by
  induction j using Nat.strongRecOn with
  | ind j ih =>
    intro hj
    have hB := Bd20 hd e hj
    rcases Nat.eq_zero_or_pos j with h0 | h0
    · subst h0
      have : (GG nd n p e 0).toInt = 0 := by show (0 : Int32).toInt = 0; decide
      rw [this]; omega
    · have hb : ∀ k, k < p → j.testBit k = true → -(Bd R e j) ≤ (fbv (GG nd n p e) nd n e j k).toInt ∧ (fbv (GG nd n p e) nd n e j k).toInt ≤ Bd R e j := fun k hk ht => fbv_b hd hj hk ht (ih _ (xor_sm ht) (xor_lt hj hk))
      rw [GG_s nd n p e h0]
      rcases fb_spec (r := GG nd n p e) (nd := nd) (n := n) (e := e) (j := j) p (fun i hi ht => by have := hb i hi ht; omega) with ⟨a, -⟩ | ⟨a1, a2, a3, -, -⟩
      · obtain ⟨i, i1, i2⟩ := tb_any hj h0
        rw [a i i1] at i2; cases i2
      · rw [a3]; exact hb _ a1 a2
theorem GG_ok {nd : Nat → Int32} {n p : Nat} {D : Nat → Nat → Nat} {R : Nat → Nat} (hd : Gd nd n p D R) (e : Bool) : okGc nd n p e (GG nd n p e) := by
  refine ⟨rfl, fun j h0 _ => GG_s nd n p e h0, fun j hj => ?_⟩
  have := GG_b hd e j hj
  have h2 := Bd20 hd e hj
  omega
/-- the reference's side of the same game -/
theorem GG_ref {nd lef : Nat → Int32} {n p : Nat} {D : Nat → Nat → Nat} {R : Nat → Nat} (hd : Gd nd n p D R) (e : Bool) (a : Nat → Nat) (ha : ∀ j, j < 2 ^ p → a j ≤ 20 ∧ lef j = nI (a j)) (hD : ∀ j k, j < 2 ^ p → k < p → j.testBit k = false → a (j ||| 2 ^ k) = a j + D (cmpl p j) k) :
    (∀ j k, j < 2 ^ p → k < p → j.testBit k = false → pvL lef (fun j => GG nd n p e (cmpl p j)) e j k = fbv (GG nd n p e) nd n e (cmpl p j) k) ∧ okG lef p e (fun j => GG nd n p e (cmpl p j)) := by
  have hp0 : 0 < 2 ^ p := Nat.pow_pos (by decide)
  have hpv : ∀ j k, j < 2 ^ p → k < p → j.testBit k = false → pvL lef (fun j => GG nd n p e (cmpl p j)) e j k = fbv (GG nd n p e) nd n e (cmpl p j) k := by
    intro j k hj hk hb
    have ht : (cmpl p j).testBit k = true := by rw [cmpl_tb hj, decide_eq_true hk, hb]; rfl
    have hlt := or_lt hj hk
    have h1 := ha j hj
    have h2 := ha _ hlt
    have h3 := hD j k hj hk hb
    unfold pvL fbv
    rw [hd.clo _ k (cmpl_lt p j) hk ht, hd.mdb _ k (cmpl_lt p j) hk ht, h1.2, h2.2, h3, sub_nI (by omega), Nat.add_sub_cancel_left]
    show (if e then (if decide (nI (D (cmpl p j) k) ≤ 0) then -GG nd n p e (cmpl p (j ||| 2 ^ k)) else nI (D (cmpl p j) k) + GG nd n p e (cmpl p (j ||| 2 ^ k))) else if decide (nI (a j + D (cmpl p j) k) ≤ nI (a j)) then -GG nd n p e (cmpl p (j ||| 2 ^ k)) else 1) = _
    rw [cmpl_or hj hk hb, sb_ng]
    have hD20 : D (cmpl p j) k ≤ 20 := by omega
    have c1 : decide (nI (D (cmpl p j) k) ≤ 0) = decide (D (cmpl p j) k = 0) := by
      refine bool_iff ?_
      rw [decide_eq_true_eq, decide_eq_true_eq, show (0 : Int32) = nI 0 from rfl, nI_leI (by omega) (by decide)]
      omega
    have c2 : decide (nI (a j + D (cmpl p j) k) ≤ nI (a j)) = decide (D (cmpl p j) k = 0) := by
      refine bool_iff ?_
      rw [decide_eq_true_eq, decide_eq_true_eq, nI_leI (by omega) (by omega)]
      omega
    rw [c1, c2]
    cases e <;> cases decide (D (cmpl p j) k = 0) <;> rfl
  refine ⟨hpv, ?_, fun j hj => ?_⟩
  · show GG nd n p e (cmpl p (2 ^ p - 1)) = 0
    rw [show cmpl p (2 ^ p - 1) = 0 by unfold cmpl; omega]
    rfl
  · show GG nd n p e (cmpl p j) = _
    have hc0 : 0 < cmpl p j := by unfold cmpl; omega
    have hcl := cmpl_lt p j
    have hb : ∀ k, k < p → (cmpl p j).testBit k = true → -20 ≤ (fbv (GG nd n p e) nd n e (cmpl p j) k).toInt := fun k hk ht => by
      have := fbv_b hd hcl hk ht (GG_b hd e _ (xor_lt hcl hk))
      have h2 := Bd20 hd e hcl
      omega
    rw [GG_s nd n p e hc0]
    have hct : ∀ i, i < p → j.testBit i = !(cmpl p j).testBit i := fun i hi => by rw [cmpl_tb (by omega), decide_eq_true hi, Bool.true_and, Bool.not_not]
    rcases bst_spec (m := p) (lef := lef) (G := fun j => GG nd n p e (cmpl p j)) (j' := j) hb hct (fun i hi ht => hpv j i (by omega) hi (by rw [hct i hi, ht]; rfl)) p (Nat.le_refl _) with ⟨a, -⟩ | ⟨-, b⟩
    · obtain ⟨i, i1, i2⟩ := tb_any hcl hc0
      rw [a i i1] at i2; cases i2
    · exact b.symm
theorem GG_first {nd lef : Nat → Int32} {n p : Nat} {D : Nat → Nat → Nat} {R : Nat → Nat} (hd : Gd nd n p D R) (e : Bool) (h0 : 0 < p) (hpv : ∀ j k, j < 2 ^ p → k < p → j.testBit k = false → pvL lef (fun j => GG nd n p e (cmpl p j)) e j k = fbv (GG nd n p e) nd n e (cmpl p j) k) :
    fa_first (fun k => decide (pvL lef (fun j => GG nd n p e (cmpl p j)) e 0 k = GG nd n p e (cmpl p 0))) p = (fbF (GG nd n p e) nd n e (2 ^ p - 1) p).1 ∧ (fbF (GG nd n p e) nd n e (2 ^ p - 1) p).1 < p ∧ GG nd n p e (cmpl p 0) = (fbF (GG nd n p e) nd n e (2 ^ p - 1) p).2 := by
  have hp0 : 0 < 2 ^ p := Nat.pow_pos (by decide)
  have hp1 : 1 < 2 ^ p := Nat.one_lt_two_pow (by omega)
  have hc : cmpl p 0 = 2 ^ p - 1 := rfl
  have hcl := cmpl_lt p 0
  have e0 : GG nd n p e (cmpl p 0) = (fbF (GG nd n p e) nd n e (2 ^ p - 1) p).2 := by rw [GG_s nd n p e (by omega), hc]
  have hb : ∀ k, k < p → (2 ^ p - 1).testBit k = true → -20 ≤ (fbv (GG nd n p e) nd n e (2 ^ p - 1) k).toInt := fun k hk ht => by
    have := fbv_b hd (show 2 ^ p - 1 < 2 ^ p by omega) hk ht (GG_b hd e _ (xor_lt (by omega) hk))
    have h2 := Bd20 hd e (show 2 ^ p - 1 < 2 ^ p by omega)
    omega
  have ht : ∀ k, k < p → (2 ^ p - 1).testBit k = true := fun k hk => by rw [Nat.testBit_two_pow_sub_one]; exact decide_eq_true hk
  rw [e0]
  rcases fb_spec (r := GG nd n p e) (nd := nd) (n := n) (e := e) (j := 2 ^ p - 1) p hb with ⟨a, -⟩ | ⟨a1, a2, a3, a4, a5⟩
  · exact absurd (a 0 h0) (by rw [ht 0 h0]; decide)
  · refine ⟨?_, a1, rfl⟩
    have hyes : decide (pvL lef (fun j => GG nd n p e (cmpl p j)) e 0 (fbF (GG nd n p e) nd n e (2 ^ p - 1) p).1 = (fbF (GG nd n p e) nd n e (2 ^ p - 1) p).2) = true := by
      rw [hpv 0 _ hp0 a1 (Nat.zero_testBit _), hc, ← a3]; exact decide_eq_true rfl
    have hlt := first_any (p := fun k => decide (pvL lef (fun j => GG nd n p e (cmpl p j)) e 0 k = (fbF (GG nd n p e) nd n e (2 ^ p - 1) p).2)) (n := p) |>.mpr ⟨_, a1, hyes⟩
    have hy := fa_first_yes _ p hlt
    generalize hF : fa_first (fun k => decide (pvL lef (fun j => GG nd n p e (cmpl p j)) e 0 k = (fbF (GG nd n p e) nd n e (2 ^ p - 1) p).2)) p = F at *
    rcases Nat.lt_trichotomy F (fbF (GG nd n p e) nd n e (2 ^ p - 1) p).1 with h | h | h
    · have h5 := a5 F h (ht F hlt)
      have h6 := of_decide_eq_true hy
      rw [hpv 0 F hp0 hlt (Nat.zero_testBit _), hc] at h6
      rw [h6] at h5
      omega
    · exact h
    · have h7 := fa_first_no (fun k => decide (pvL lef (fun j => GG nd n p e (cmpl p j)) e 0 k = (fbF (GG nd n p e) nd n e (2 ^ p - 1) p).2)) p (fbF (GG nd n p e) nd n e (2 ^ p - 1) p).1 (by rw [hF]; exact h)
      rw [hyes] at h7; cases h7
