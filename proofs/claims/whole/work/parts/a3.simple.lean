/-! ===== simple calls ===== -/
def InvW (w h n : Nat) (k0 k1 : Bool) (Z : List (Option Nat)) (ext : List Ds) (M : Mm) : Prop := (1 ≤ w ∧ w ≤ 4 ∧ 1 ≤ h ∧ h ≤ 3) ∧ GrI w h M ∧ ImE (mtN w h) 10 0 M ∧ ImI (mtN w h) k0 k1 M ∧ TpI n M ∧ ShI Z ext M ∧ (M 15 5 = M 48 24 ∧ M 0 12 = M 48 46 ∧ ∀ k, k < 31 → M 40 k = 1)
theorem InvW.inv {w h n : Nat} {k0 k1 : Bool} {Z : List (Option Nat)} {ext : List Ds} {M : Mm} (hI : InvW w h n k0 k1 Z ext M) : Inv Z ext M := ⟨w, h, n, k0, k1, hI⟩
theorem GrI.c {w h : Nat} {M M' : Mm} (g : GrI w h M) (e : (M' 1 = M 1 ∧ M' 2 = M 2 ∧ M' 3 = M 3 ∧ M' 4 = M 4 ∧ M' 5 = M 5 ∧ M' 6 = M 6 ∧ M' 7 = M 7 ∧ M' 8 = M 8 ∧ M' 9 = M 9) ∧ (M' 51 = M 51 ∧ M' 52 = M 52 ∧ M' 53 = M 53 ∧ M' 54 = M 54) ∧ (M' 48 2 = M 48 2 ∧ M' 48 3 = M 48 3 ∧ M' 48 4 = M 48 4 ∧ M' 48 5 = M 48 5)) : GrI w h M' := by
  obtain ⟨⟨e1, e2, e3, e4, e5, e6, e7, e8, e9⟩, ⟨f1, f2, f3, f4⟩, k2, k3, k4, k5⟩ := e
  unfold GrI
  rw [e1, e2, e3, e4, e5, e6, e7, e8, e9, f1, f2, f3, f4, k2, k3, k4, k5]
  exact g
theorem ImE.c {mt t o : Nat} {M M' : Mm} (g : ImE mt t o M) (h49 : ∀ k, o ≤ k → k < o + 36 → M' 49 k = M 49 k) (e1 : M' t = M t) (e2 : M' (t + 1) = M (t + 1)) (e3 : M' (t + 2) = M (t + 2)) : ImE mt t o M' := by
  obtain ⟨g1, g2, g3, g4, g5, g6⟩ := g
  unfold ImE
  rw [e1, e2, e3]
  exact ⟨by rw [h49 o (by omega) (by omega)]; exact g1, by rw [h49 (o + 32) (by omega) (by omega)]; exact g2, fun k hk => by rw [h49 (o + 1 + k) (by omega) (by omega)]; exact g3 k hk, fun k k1 k2 => by rw [h49 (o + 32 + k) (by omega) (by omega)]; exact g4 k k1 k2, g5, g6⟩
theorem ImI.c {mt : Nat} {k0 k1 : Bool} {M M' : Mm} (g : ImI mt k0 k1 M) (e0 : M' 0 11 = M 0 11) (e50 : M' 50 = M 50) (h49 : ∀ k, 36 ≤ k → M' 49 k = M 49 k) (e : M' 42 = M 42 ∧ M' 43 = M 43 ∧ M' 44 = M 44 ∧ M' 45 = M 45 ∧ M' 46 = M 46 ∧ M' 47 = M 47) : ImI mt k0 k1 M' := by
  obtain ⟨g1, g2, g3, g4, g5⟩ := g
  obtain ⟨e1, e2, e3, e4, e5, e6⟩ := e
  exact ⟨e0.trans g1, by rw [e50]; exact g2, by rw [e50]; exact g3, fun q => (g4 q).c (fun k h _ => h49 k (by omega)) e1 e2 e3, fun q => (g5 q).c (fun k h _ => h49 k (by omega)) e4 e5 e6⟩
theorem TpI.c {n : Nat} {M M' : Mm} (g : TpI n M) (e1 : M' 13 1 = M 13 1) (e2 : M' 48 19 = M 48 19) (e3 : M' 14 = M 14) (e4 : M' 57 = M 57) : TpI n M' := by
  unfold TpI
  rw [e1, e2, e3, e4]
  exact g
theorem ShI.c {Z : List (Option Nat)} {ext : List Ds} {M M' : Mm} (g : ShI Z ext M) (e1 : M' 68 = M 68) (e2 : M' 69 = M 69) (e3 : M' 70 = M 70) (e4 : ∀ c, 71 ≤ c → M' c = M c) : ShI Z ext M' := by
  obtain ⟨s1, s2, s3, s4⟩ := g
  refine ⟨s1, s2, fun k hk => ?_, s4⟩
  rw [e1, e2, e3]
  rcases s3 k hk with h | ⟨c, z, c1, c2, c3, c4, c5, c6⟩
  · exact Or.inl h
  · exact Or.inr ⟨c, z, c1, c2, by rw [e4 c c1]; exact c3, c4, c5, fun i hi => by rw [e4 (c + 1) (by omega)]; exact c6 i hi⟩
theorem up2_hi {M : Mm} {c k : Nat} {v : Int32} (hc : c < 71) (c' : Nat) (h : 71 ≤ c') : up2 M c k v c' = M c' := up2_n M v (by omega)
section SO
variable {Z : List (Option Nat)} {ext : List Ds} {M : Mm}
theorem op_fault (hI : Inv Z ext M) : OpI mX9_fault mX10_fault [] Z ext M := by
  obtain ⟨w, h, n, k0, k1, hw, hG, hT, hIm, hP, hS, hF1, hF2, hF3⟩ := id hI
  exact op_pure hI c_fault c_m_fault hF1.symm
theorem op_torn (hI : Inv Z ext M) : OpI mX9_torn mX10_torn [] Z ext M := by
  obtain ⟨w, h, n, k0, k1, hw, hG, hT, hIm, hP, hS, hF1, hF2, hF3⟩ := id hI
  exact op_pure hI c_torn c_m_torn hF2.symm
theorem op_rule (hI : Inv Z ext M) (a : Int32) : OpI mX9_rule mX10_rule [.int a] Z ext M := by
  obtain ⟨w, h, n, k0, k1, hw, hG, hT, hIm, hP, hS, hF1, hF2, hF3⟩ := id hI
  obtain ⟨⟨c0, c1, c2, c3⟩, ⟨r0, r1, r2, r3⟩, -⟩ := id hG
  exact op_pure hI (c_rule a) (c_m_rule a) (by rw [c0, c1, c2, c3, r0, r1, r2, r3, hT.1, show M 49 32 = M 10 1 from hT.2.1])
theorem op_left (hI : Inv Z ext M) : OpI mX9_left mX10_left [] Z ext M := by
  obtain ⟨w, h, n, k0, k1, hw, hG, hT, hIm, hP, hS, hF1, hF2, hF3⟩ := id hI
  have hf := gf hw
  exact op_pure hI (c_left hG.1.2.2.2 hf.1) (c_m_left hG.2.1.2.2.2 hf.1) (by rw [hT.1, show M 49 32 = M 10 1 from hT.2.1]; exact left_b hG hf _ _)
theorem op_without (hI : Inv Z ext M) (a : Int32) : OpI mX9_without mX10_without [.int a] Z ext M := by
  obtain ⟨w, h, n, k0, k1, hw, hG, hT, hIm, hP, hS, hF1, hF2, hF3⟩ := id hI
  have hf := gf hw
  refine op_pure hI (c_without a hG.1.2.2.2 hf.1) (c_m_without a hG.2.1.2.2.2 hf.1) ?_
  rw [hT.1, show M 49 32 = M 10 1 from hT.2.1]
  unfold vWithout
  by_cases h0 : a &&& (M 10 0 ^^^ (-1)) = 0
  · have hn : ¬ a < 0 := by
      intro q
      have h31 : bi a 31 = true := by
        obtain ⟨m, hm, rfl, hb⟩ := to_nI a
        rw [hb]
        have : 2 ^ 31 ≤ m := by
          rcases Nat.lt_or_ge m (2 ^ 31) with h | h
          · exact absurd q (nI_pos h)
          · exact h
        rw [show m = 2 ^ 31 + (m - 2 ^ 31) by omega, Nat.testBit_two_pow_add_eq, Nat.testBit_lt_two_pow (by omega)]
        rfl
      have h1 := congrArg (fun x => bi x 31) h0
      simp only [bi_and, bi_not, bi_0, h31, Bool.true_and] at h1
      have hl : bi (M 10 0) 31 = false := by
        cases hb : bi (M 10 0) 31 with
        | false => rfl
        | true => have := hT.2.2.2.2.1 31 hb; have := hf.2.2.1; omega
      rw [hl] at h1
      exact absurd h1 (by decide)
    rw [decide_eq_false hn, decide_eq_true h0]
    simp only [Bool.not_true, Bool.or_false, Bool.false_eq_true, if_false, if_true]
    exact left_b hG hf _ _
  · rw [decide_eq_false h0]
    simp
theorem op_whole (hI : Inv Z ext M) (a : Int32) : OpI mX9_whole mX10_whole [.int a] Z ext M := by
  obtain ⟨w, h, n, k0, k1, hw, hG, hT, hIm, hP, hS, hF1, hF2, hF3⟩ := id hI
  have hf := gf hw
  refine op_pure hI (c_whole a hG.1.2.2.2 hf.1) (c_m_whole a hG.2.1.2.2.2 hf.1) ?_
  rw [hT.1]
  unfold vWhole
  cases hr : rg a 1 3 with
  | false => rfl
  | true =>
    obtain ⟨s, s1, s2, rfl⟩ := rg_nat (a := 1) (b := 3) (by decide) (by decide) hr
    rw [if_pos rfl, if_pos rfl, nI_clamp (by omega)]
    exact whole_b hG hf s1 s2 _
theorem op_square (hI : Inv Z ext M) (a b : Int32) : OpI mX9_square mX10_square [.int a, .int b] Z ext M := by
  obtain ⟨w, h, n, k0, k1, hw, hG, hT, hIm, hP, hS, hF1, hF2, hF3⟩ := id hI
  have hf := gf hw
  have h20 := hf.1
  refine op_pure hI (c_square a b hG.1.2.2.2 hf.1) (c_m_square a b hG.2.1.2.2.2 hf.1) ?_
  rw [hT.1]
  unfold vSquare cSquare
  cases hx : ix a (sqN w h) with
  | false => rfl
  | true =>
    obtain ⟨q, hq, rfl⟩ := (ix_t (by omega)).mp hx
    rw [if_pos rfl, if_pos rfl, nI_clamp (by omega), shr_bi _ (show q < 32 by omega), bi_orb _ (by omega), decide_eq_true hq, Bool.true_and]
    obtain ⟨⟨a1, a2, a3, a4⟩, b1, b2, b3, b4⟩ := hG.2.2.1 q hq
    unfold inq inc
    rw [a1, a2, a3, a4, b1, b2, b3, b4, inq_inc]
theorem vCost_c {mt : Nat} {f g : Nat → Int32} (hm : mt ≤ 31) (h : ∀ k, k < 31 → f k = g k) (x : Int32) : vCost mt f x = vCost mt g x := by
  unfold vCost
  cases hx : ix x mt with
  | false => rfl
  | true =>
    obtain ⟨q, hq, rfl⟩ := (ix_t (by omega)).mp hx
    rw [if_pos rfl, if_pos rfl, nI_clamp (by omega), h q (by omega)]
theorem op_cost (hI : Inv Z ext M) (a : Int32) : OpI mX9_cost mX10_cost [.int a] Z ext M := by
  obtain ⟨w, h, n, k0, k1, hw, hG, hT, hIm, hP, hS, hF1, hF2, hF3⟩ := id hI
  have hf := gf hw
  refine op_pure hI (c_cost a hG.1.2.2.1 hf.2.2.1) (c_m_cost a hG.2.1.2.2.1 hf.2.2.1) (vCost_c hf.2.2.1 (fun k hk => ?_) a)
  have := hT.2.2.1 k hk
  rw [show 0 + 1 + k = 1 + k by omega] at this
  exact this
/-- the set of those that lie becomes another -/
theorem inv_L {w h n : Nat} {k0 k1 : Bool} (hI : InvW w h n k0 k1 Z ext M) {L : Int32} (hb : ∀ i, bi L i = true → i < mtN w h) : Inv Z ext (up2 (up2 M 10 0 L) 49 0 L) := by
  obtain ⟨hw, hG, ⟨t1, t2, t3, t4, t5, t6⟩, hIm, hP, hS, hF1, hF2, hF3⟩ := hI
  refine ⟨w, h, n, k0, k1, hw, hG.c ⟨⟨rfl, rfl, rfl, rfl, rfl, rfl, rfl, rfl, rfl⟩, ⟨rfl, rfl, rfl, rfl⟩, rfl, rfl, rfl, rfl⟩, ⟨rfl, t2, fun k hk => ?_, fun k h1 h2 => ?_, hb, t6⟩, hIm.c rfl rfl (fun k hk => ?_) ⟨rfl, rfl, rfl, rfl, rfl, rfl⟩, hP.c rfl rfl rfl rfl, hS.c rfl rfl rfl (fun c hc => by rw [up2_hi (by decide) c hc, up2_hi (by decide) c hc]), hF1, hF2, hF3⟩
  · rw [up2_ne _ 49 L (show 0 + 1 + k ≠ 0 by omega)]; exact t3 k hk
  · rw [up2_ne _ 49 L (show 0 + 32 + k ≠ 0 by omega)]; exact t4 k h1 h2
  · rw [up2_ne _ 49 L (show k ≠ 0 by omega)]; rfl
theorem bi_outS (L : Int32) {q : Nat} (hq : q < 32) (i : Nat) : bi (outS L (nI q)) i = (bi L i && !decide (i = q)) := by
  show bi (L &&& (b1 q ^^^ (-1))) i = _
  rw [bi_and, bi_not, bi_b1 hq]
  by_cases h : i < 32
  · rw [decide_eq_true h, Bool.true_and]
  · rw [decide_eq_false h, bi_ge (by omega)]; simp
theorem bi_inS (L : Int32) {q : Nat} (hq : q < 32) (i : Nat) : bi (inS L (nI q)) i = (bi L i || decide (i = q)) := by
  show bi (L ||| b1 q) i = _
  rw [bi_or, bi_b1 hq]
theorem op_take (hI : Inv Z ext M) (a : Int32) : OpI mX9_take mX10_take [.int a] Z ext M := by
  obtain ⟨w, h, n, k0, k1, hw, hG, hT, hIm, hP, hS, hF⟩ := id hI
  have hf := gf hw
  have hm := hf.2.2.1
  have cr := c_m_take (Z := Z) (ext := ext) (M := up2 M 10 0 (wTake (mtN w h) (M 10 0) a)) a hG.2.1.2.2.1 hm hG.2.1.2.2.2 hf.1
  rw [show (up2 M 10 0 (wTake (mtN w h) (M 10 0) a)) 49 0 = M 10 0 from hT.1, show (up2 M 10 0 (wTake (mtN w h) (M 10 0) a)) 49 32 = M 10 1 from hT.2.1] at cr
  refine op_rt (c_take a hG.1.2.2.1 hG.1.2.2.2 hf.1) cr ?_ ?_
  · unfold vTake
    rw [show (up2 M 10 0 (wTake (mtN w h) (M 10 0) a)) 51 = M 51 from rfl, show (up2 M 10 0 (wTake (mtN w h) (M 10 0) a)) 54 = M 54 from rfl, left_b hG hf]
  · refine inv_L (w := w) (h := h) (n := n) (k0 := k0) (k1 := k1) ⟨hw, hG, hT, hIm, hP, hS, hF⟩ (fun i hi => ?_)
    unfold wTake at hi
    cases hx : (ix a (mtN w h) && lies (M 10 0) a) with
    | false => rw [hx, if_neg (by decide)] at hi; exact hT.2.2.2.2.1 i hi
    | true =>
      rw [hx, if_pos rfl] at hi
      rw [Bool.and_eq_true] at hx
      obtain ⟨q, hq, rfl⟩ := (ix_t (by omega)).mp hx.1
      rw [bi_outS _ (by omega), Bool.and_eq_true] at hi
      exact hT.2.2.2.2.1 i hi.1
theorem op_lie (hI : Inv Z ext M) (a : Int32) : OpI mX9_lie mX10_lie [.int a] Z ext M := by
  obtain ⟨w, h, n, k0, k1, hw, hG, hT, hIm, hP, hS, hF⟩ := id hI
  have hf := gf hw
  have hm := hf.2.2.1
  have cr := c_m_lie (Z := Z) (ext := ext) (M := up2 M 10 0 (wLie (mtN w h) (M 10 0) a)) a hG.2.1.2.2.1 hm hG.2.1.2.2.2 hf.1
  rw [show (up2 M 10 0 (wLie (mtN w h) (M 10 0) a)) 49 0 = M 10 0 from hT.1, show (up2 M 10 0 (wLie (mtN w h) (M 10 0) a)) 49 32 = M 10 1 from hT.2.1] at cr
  refine op_rt (c_lie a hG.1.2.2.1 hG.1.2.2.2 hf.1) cr ?_ ?_
  · unfold vLie
    rw [show (up2 M 10 0 (wLie (mtN w h) (M 10 0) a)) 51 = M 51 from rfl, show (up2 M 10 0 (wLie (mtN w h) (M 10 0) a)) 54 = M 54 from rfl, left_b hG hf]
  · refine inv_L (w := w) (h := h) (n := n) (k0 := k0) (k1 := k1) ⟨hw, hG, hT, hIm, hP, hS, hF⟩ (fun i hi => ?_)
    unfold wLie at hi
    cases hx : (ix a (mtN w h) && !lies (M 10 0) a) with
    | false => rw [hx, if_neg (by decide)] at hi; exact hT.2.2.2.2.1 i hi
    | true =>
      rw [hx, if_pos rfl] at hi
      rw [Bool.and_eq_true] at hx
      obtain ⟨q, hq, rfl⟩ := (ix_t (by omega)).mp hx.1
      rw [bi_inS _ (by omega), Bool.or_eq_true] at hi
      rcases hi with hi | hi
      · exact hT.2.2.2.2.1 i hi
      · rw [of_decide_eq_true hi]; exact hq
theorem op_counts (hI : Inv Z ext M) (a : Int32) (b : Bool) : OpI mX9_counts mX10_counts [.int a, .int (b2i b)] Z ext M := by
  obtain ⟨w, h, n, k0, k1, hw, hG, ⟨t1, t2, t3, t4, t5, t6⟩, hIm, hP, hS, hF1, hF2, hF3⟩ := id hI
  have cr := c_m_counts (Z := Z) (ext := ext) (M := up2 M 10 1 (wCounts (M 10 1) a b)) a b
  rw [show (up2 M 10 1 (wCounts (M 10 1) a b)) 49 32 = M 10 1 from t2] at cr
  refine op_rt (c_counts a b) cr rfl ?_
  refine ⟨w, h, n, k0, k1, hw, hG.c ⟨⟨rfl, rfl, rfl, rfl, rfl, rfl, rfl, rfl, rfl⟩, ⟨rfl, rfl, rfl, rfl⟩, rfl, rfl, rfl, rfl⟩, ⟨t1, rfl, fun k hk => ?_, fun k h1 h2 => ?_, t5, t6⟩, hIm.c rfl rfl (fun k hk => ?_) ⟨rfl, rfl, rfl, rfl, rfl, rfl⟩, hP.c rfl rfl rfl rfl, hS.c rfl rfl rfl (fun c hc => by rw [up2_hi (by decide) c hc, up2_hi (by decide) c hc]), hF1, hF2, hF3⟩
  · rw [up2_ne _ 49 _ (show 0 + 1 + k ≠ 32 by omega)]; exact t3 k hk
  · rw [up2_ne _ 49 _ (show 0 + 32 + k ≠ 32 by omega)]; exact t4 k h1 h2
  · rw [up2_ne _ 49 _ (show k ≠ 32 by omega)]; rfl
theorem op_price (hI : Inv Z ext M) (a b : Int32) : OpI mX9_price mX10_price [.int a, .int b] Z ext M := by
  obtain ⟨w, h, n, k0, k1, hw, hG, hT, hIm, hP, hS, hF1, hF2, hF3⟩ := id hI
  have hf := gf hw
  have hm := hf.2.2.1
  have cc := c_price (Z := Z) (ext := ext) (M := M) a b hG.1.2.2.1 hm
  cases hx : (ix a (mtN w h) && rg b 1 9) with
  | false =>
    have cr := c_m_price (Z := Z) (ext := ext) (M := M) a b hG.2.1.2.2.1 hm
    rw [hx, if_neg (by decide)] at cc cr
    refine op_pure hI cc cr ?_
    unfold vPrice
    rw [hx]
    rfl
  | true =>
    rw [hx, if_pos rfl] at cc
    have cr := c_m_price (Z := Z) (ext := ext) (M := up2 M 11 a.toNatClampNeg b) a b hG.2.1.2.2.1 hm
    rw [hx, if_pos rfl] at cr
    rw [Bool.and_eq_true] at hx
    obtain ⟨q, hq, rfl⟩ := (ix_t (by omega)).mp hx.1
    obtain ⟨v, v1, v2, rfl⟩ := rg_nat (a := 1) (b := 9) (by decide) (by decide) hx.2
    rw [nI_clamp (show q < 2 ^ 31 by omega)] at cc cr
    obtain ⟨t1, t2, t3, t4, t5, t6⟩ := id hT
    refine op_rt cc cr ?_ ?_
    · unfold vPrice
      rw [hx.1, hx.2]
      simp only [Bool.and_self, if_true]
      rw [nI_clamp (by omega)]
      have := t3 q (by omega)
      rw [show 0 + 1 + q = 1 + q by omega] at this
      exact this
    · refine ⟨w, h, n, k0, k1, hw, hG.c ⟨⟨rfl, rfl, rfl, rfl, rfl, rfl, rfl, rfl, rfl⟩, ⟨rfl, rfl, rfl, rfl⟩, rfl, rfl, rfl, rfl⟩, ⟨?_, ?_, fun k hk => ?_, fun k h1 h2 => ?_, t5, fun k hk => ?_⟩, hIm.c rfl rfl (fun k hk => ?_) ⟨rfl, rfl, rfl, rfl, rfl, rfl⟩, hP.c rfl rfl rfl rfl, hS.c rfl rfl rfl (fun c hc => by rw [up2_hi (by decide) c hc, up2_hi (by decide) c hc]), hF1, hF2, hF3⟩
      · rw [up2_ne _ 49 _ (show 0 ≠ 1 + q by omega)]; exact t1
      · rw [up2_ne _ 49 _ (show 0 + 32 ≠ 1 + q by omega)]; exact t2
      · show up2 (up2 M 11 q (nI v)) 49 (1 + q) (nI v) 49 (0 + 1 + k) = upd (M 11) q (nI v) k
        by_cases hkq : k = q
        · subst hkq
          rw [up2_s, show 0 + 1 + k = 1 + k by omega]
          simp [upd]
        · rw [up2_ne _ 49 _ (show 0 + 1 + k ≠ 1 + q by omega)]
          unfold upd
          rw [if_neg hkq]
          exact t3 k hk
      · rw [up2_ne _ 49 _ (show 0 + 32 + k ≠ 1 + q by omega)]; exact t4 k h1 h2
      · show ∃ c, 1 ≤ c ∧ c ≤ 9 ∧ upd (M 11) q (nI v) k = nI c
        unfold upd
        by_cases hkq : k = q
        · rw [if_pos hkq]; exact ⟨v, v1, v2, rfl⟩
        · rw [if_neg hkq]; exact t6 k hk
      · rw [up2_ne _ 49 _ (show k ≠ 1 + q by omega)]; rfl
theorem op_see (hI : Inv Z ext M) (a b : Int32) : OpI mX9_see mX10_see [.int a, .int b] Z ext M := by
  obtain ⟨w, h, n, k0, k1, hw, hG, hT, hIm, hP, hS, hF1, hF2, hF3⟩ := id hI
  have cc := c_see (Z := Z) (ext := ext) (M := M) a b
  cases hx : okSee a b with
  | false =>
    have cr := c_m_see (Z := Z) (ext := ext) (M := M) a b
    rw [hx, if_neg (by decide)] at cc cr
    refine op_pure hI cc cr ?_
    unfold vSee
    rw [hx]
    rfl
  | true =>
    rw [hx, if_pos rfl] at cc
    have cr := c_m_see (Z := Z) (ext := ext) (M := up2 M 12 a.toNatClampNeg b) a b
    rw [hx, if_pos rfl] at cr
    have hx1 := hx
    unfold okSee at hx1
    rw [Bool.and_eq_true] at hx1
    obtain ⟨q, q1, q2, rfl⟩ := rg_nat (a := 1) (b := 3) (by decide) (by decide) hx1.1
    rw [nI_clamp (show q < 2 ^ 31 by omega)] at cc cr
    obtain ⟨t1, t2, t3, t4, t5, t6⟩ := id hT
    refine op_rt cc cr ?_ ?_
    · unfold vSee
      rw [hx, if_pos rfl, if_pos rfl, nI_clamp (by omega)]
      have := t4 q q1 q2
      rw [show 0 + 32 + q = 32 + q by omega] at this
      exact this
    · refine ⟨w, h, n, k0, k1, hw, hG.c ⟨⟨rfl, rfl, rfl, rfl, rfl, rfl, rfl, rfl, rfl⟩, ⟨rfl, rfl, rfl, rfl⟩, rfl, rfl, rfl, rfl⟩, ⟨?_, ?_, fun k hk => ?_, fun k h1 h2 => ?_, t5, t6⟩, hIm.c rfl rfl (fun k hk => ?_) ⟨rfl, rfl, rfl, rfl, rfl, rfl⟩, hP.c rfl rfl rfl rfl, hS.c rfl rfl rfl (fun c hc => by rw [up2_hi (by decide) c hc, up2_hi (by decide) c hc]), hF1, hF2, hF3⟩
      · rw [up2_ne _ 49 _ (show 0 ≠ 32 + q by omega)]; exact t1
      · rw [up2_ne _ 49 _ (show 0 + 32 ≠ 32 + q by omega)]; exact t2
      · rw [up2_ne _ 49 _ (show 0 + 1 + k ≠ 32 + q by omega)]; exact t3 k hk
      · show up2 (up2 M 12 q b) 49 (32 + q) b 49 (0 + 32 + k) = upd (M 12) q b k
        by_cases hkq : k = q
        · subst hkq
          rw [up2_s, show 0 + 32 + k = 32 + k by omega]
          simp [upd]
        · rw [up2_ne _ 49 _ (show 0 + 32 + k ≠ 32 + q by omega)]
          unfold upd
          rw [if_neg hkq]
          exact t4 k h1 h2
      · rw [up2_ne _ 49 _ (show k ≠ 32 + q by omega)]; rfl
end SO
