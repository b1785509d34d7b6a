/-! ===== calls: alike ===== -/
theorem mv_bi {a : Int32} {to : Nat → Int32} {F : Nat → Nat} : ∀ {n : Nat}, n ≤ 32 → (∀ m, m < n → to m = nI (F m) ∧ F m < 32) → ∀ i, bi (mvd a to n) i = true ↔ ∃ m, m < n ∧ bi a m = true ∧ F m = i
  | 0, _, _, i => by
    rw [show mvd a to 0 = 0 from rfl, bi_0]
    exact ⟨fun h => absurd h (by decide), fun ⟨m, h, _⟩ => absurd h (by omega)⟩
  | n + 1, hn, hF, i => by
    have ih := mv_bi (a := a) (n := n) (by omega) (fun m hm => hF m (by omega)) i
    have hn1 := hF n (by omega)
    have hb : decide ((a >>> (nI n &&& 31)) &&& 1 = 0) = !bi a n := by
      rw [and1_bi, bi_shr1 a (by omega)]
      cases bi a n <;> decide
    rw [mvd_s, hb]
    cases e : bi a n with
    | false =>
      rw [if_pos (show (!false) = true from rfl), ih]
      constructor
      · rintro ⟨m, h1, h2, h3⟩; exact ⟨m, by omega, h2, h3⟩
      · rintro ⟨m, h1, h2, h3⟩
        rcases (show m = n ∨ m < n by omega) with rfl | h
        · rw [e] at h2; cases h2
        · exact ⟨m, h, h2, h3⟩
    | true =>
      rw [if_neg (show ¬ (!true) = true by decide), bi_or, hn1.1, show (1 : Int32) <<< (nI (F n) &&& 31) = b1 (F n) from rfl, bi_b1 hn1.2, Bool.or_eq_true, ih, decide_eq_true_eq]
      constructor
      · rintro (⟨m, h1, h2, h3⟩ | h)
        · exact ⟨m, by omega, h2, h3⟩
        · exact ⟨n, by omega, e, h.symm⟩
      · rintro ⟨m, h1, h2, h3⟩
        rcases (show m = n ∨ m < n by omega) with rfl | h
        · exact Or.inr h3.symm
        · exact Or.inl ⟨m, h, h2, h3⟩
theorem bool_iff {a b : Bool} (h : a = true ↔ b = true) : a = b := by
  cases a <;> cases b <;> simp_all
theorem mv_cg {a : Int32} {f g : Nat → Int32} {n : Nat} (h : ∀ m, m < n → f m = g m) : mvd a f n = mvd a g n := by
  unfold mvd
  exact fld_congr (fun m x hm => by rw [h m hm])
theorem mv_id {a : Int32} {f : Nat → Int32} {n : Nat} (hn : n ≤ 32) (h : ∀ m, m < n → f m = nI m) (ha : ∀ i, bi a i = true → i < n) : mvd a f n = a := by
  refine bi_ext (fun i hi => bool_iff ?_)
  rw [mv_bi (F := fun m => m) hn (fun m hm => ⟨h m hm, by omega⟩)]
  exact ⟨fun ⟨m, _, h2, h3⟩ => by rw [← h3]; exact h2, fun h => ⟨i, ha i h, h, rfl⟩⟩
theorem mv_mv {a : Int32} {f g k : Nat → Int32} {F : Nat → Nat} {n : Nat} (hn : n ≤ 32) (hF : ∀ m, m < n → f m = nI (F m) ∧ F m < n) (G : Nat → Nat) (hG : ∀ m, m < n → g m = nI (G m) ∧ G m < n) (hk : ∀ m, m < n → k m = g (F m)) : mvd (mvd a f n) g n = mvd a k n := by
  refine bi_ext (fun i hi => bool_iff ?_)
  have hF2 : ∀ m, m < n → f m = nI (F m) ∧ F m < 32 := fun m hm => ⟨(hF m hm).1, by have := (hF m hm).2; omega⟩
  rw [mv_bi (F := G) hn (fun m hm => ⟨(hG m hm).1, by have := (hG m hm).2; omega⟩), mv_bi (F := fun m => G (F m)) hn (fun m hm => by rw [hk m hm]; have := hG (F m) (hF m hm).2; exact ⟨this.1, by omega⟩)]
  constructor
  · rintro ⟨m, h1, h2, h3⟩
    obtain ⟨m2, g1, g2, rfl⟩ := (mv_bi hn hF2 m).mp h2
    exact ⟨m2, g1, g2, h3⟩
  · rintro ⟨m, h1, h2, h3⟩
    exact ⟨F m, (hF m h1).2, (mv_bi hn hF2 _).mpr ⟨m, h1, h2, rfl⟩, h3⟩
theorem trS_mvd (w h a how : Int32) (n : Nat) : trS w h a how n = mvd a (fun m => trn w h (nI m) how) n := by
  unfold trS mvd
  refine fld_congr (fun m x hm => ?_)
  by_cases hb : (a >>> (nI m &&& 31)) &&& 1 = 0
  · rw [decide_eq_true hb, if_pos rfl, hb, Int32.zero_shiftLeft, Int32.or_zero]
  · rw [decide_eq_false hb, if_neg (by decide), and1_n.mp hb]
def F7 (w h m : Nat) : Nat := ((trF w h).1 m).toNatClampNeg
def F8 (w h m : Nat) : Nat := ((trF w h).2.1 m).toNatClampNeg
def F9 (w h m : Nat) : Nat := ((trF w h).2.2 m).toNatClampNeg
def alT (w h : Nat) : Bool := (List.range (mtN w h)).all (fun m =>
  decide ((trF w h).1 m = nI (F7 w h m)) && decide (F7 w h m < mtN w h) && decide ((trF w h).2.1 m = nI (F8 w h m)) && decide (F8 w h m < mtN w h) && decide ((trF w h).2.2 m = nI (F9 w h m)) && decide (F9 w h m < mtN w h) &&
  decide (trn (nI w) (nI h) (nI m) 0 = nI m) && decide (trn (nI w) (nI h) (nI m) 1 = (trF w h).1 m) && decide (trn (nI w) (nI h) (nI m) 2 = (trF w h).2.1 m) && decide (trn (nI w) (nI h) (nI m) 3 = (trF w h).1 (F8 w h m)) &&
  (!decide (w = h) || (decide (trn (nI w) (nI h) (nI m) 4 = (trF w h).2.2 m) && decide (trn (nI w) (nI h) (nI m) 5 = (trF w h).2.1 (F9 w h m)) && decide (trn (nI w) (nI h) (nI m) 6 = (trF w h).1 (F9 w h m)) && decide (trn (nI w) (nI h) (nI m) 7 = (trF w h).1 (F8 w h (F9 w h m))))))
theorem al_ok {w h : Nat} (hw : 1 ≤ w ∧ w ≤ 4 ∧ 1 ≤ h ∧ h ≤ 3) : alT w h = true := gr_all (P := fun w h => alT w h = true) (by decide +kernel) (by decide +kernel) (by decide +kernel) (by decide +kernel) (by decide +kernel) (by decide +kernel) (by decide +kernel) (by decide +kernel) (by decide +kernel) (by decide +kernel) (by decide +kernel) (by decide +kernel) hw
theorem isSet_bi {mt : Nat} (hb : mt ≤ 31) (x : Int32) : vIsSet mt x = true ↔ ∀ i, bi x i = true → i < mt := by
  obtain ⟨m, hm, rfl, hbi⟩ := to_nI x
  have key : vIsSet mt (nI m) = true ↔ m < 2 ^ mt := by
    unfold vIsSet
    by_cases h31 : m < 2 ^ 31
    · rw [decide_eq_false (nI_pos h31)]
      by_cases h : mt = 31
      · subst h; exact ⟨fun _ => h31, fun _ => rfl⟩
      · have : (2 : Nat) ^ mt < 2 ^ 31 := Nat.pow_lt_pow_right (by decide) (by omega)
        have hne : ¬ nI mt = 31 := fun q => by
          have h2 := congrArg Int32.toInt q
          rw [nI_toInt (by omega), show (31 : Int32).toInt = 31 by decide] at h2
          omega
        rw [decide_eq_false hne, tb_sh (by omega)]
        simp only [Bool.not_false, Bool.true_and, Bool.false_or, Bool.not_eq_true', decide_eq_false_iff_not]
        rw [nI_leI this h31]
        omega
    · have hn : nI m < 0 := by
        rw [fa_lt, show (0 : Int32).toInt = 0 by decide]
        refine Int.lt_of_not_ge (fun q => ?_)
        obtain ⟨j, j1, j2⟩ := nI_of (x := nI m) (fun r => by rw [fa_lt, show (0 : Int32).toInt = 0 by decide] at r; omega)
        have e31 := hbi 31
        rw [j2, bi_nI, Nat.testBit_lt_two_pow j1, Bool.and_false, Nat.testBit_eq_decide_div_mod_eq] at e31
        have := (decide_eq_false_iff_not.mp e31.symm)
        omega
      rw [decide_eq_true hn]
      have : (2 : Nat) ^ mt ≤ 2 ^ 31 := Nat.pow_le_pow_right (by decide) hb
      exact ⟨fun h => absurd h (by simp), fun h => absurd h (by omega)⟩
  rw [key]
  constructor
  · intro h i hi
    rw [hbi] at hi
    refine Nat.lt_of_not_le (fun q => ?_)
    rw [Nat.testBit_lt_two_pow (Nat.lt_of_lt_of_le h (Nat.pow_le_pow_right (by decide) q))] at hi
    cases hi
  · intro h
    refine Nat.lt_pow_two_of_testBit m (fun i hi => ?_)
    cases e : m.testBit i with
    | false => rfl
    | true => exact absurd (h i (by rw [hbi]; exact e)) (by omega)
theorem both_set {mt : Nat} (hb : mt ≤ 31) (a b : Int32) : decide ((a ||| b) &&& (al mt ^^^ (-1)) = 0) = (vIsSet mt a && vIsSet mt b) := by
  refine bool_iff ?_
  rw [decide_eq_true_eq, Bool.and_eq_true, isSet_bi hb, isSet_bi hb]
  constructor
  · intro h
    have h1 : ∀ i, i < 32 → ((bi a i || bi b i) && !decide (i < mt)) = false := fun i hi => by
      have := congrArg (fun y => bi y i) h
      simp only [bi_and, bi_or, bi_not, bi_0, decide_eq_true hi, Bool.true_and] at this
      rw [bi_al0 mt (by omega) i hi] at this
      exact this
    have h2 : ∀ i, (bi a i || bi b i) = true → i < mt := fun i hi => by
      rcases Nat.lt_or_ge i 32 with h | h
      · have := h1 i h
        rw [hi, Bool.true_and, Bool.not_eq_false'] at this
        exact of_decide_eq_true this
      · rw [bi_ge h, bi_ge h] at hi; cases hi
    exact ⟨fun i hi => h2 i (by rw [hi]; rfl), fun i hi => h2 i (by rw [hi, Bool.or_true])⟩
  · rintro ⟨h1, h2⟩
    refine bi_z (fun i hi => ?_)
    rw [bi_and, bi_or, bi_not, decide_eq_true hi, Bool.true_and, bi_al0 mt (by omega) i hi]
    cases e : decide (i < mt) with
    | true => simp
    | false =>
      have e2 := of_decide_eq_false e
      cases ea : bi a i with
      | true => exact absurd (h1 i ea) e2
      | false => cases eb : bi b i with
        | true => exact absurd (h2 i eb) e2
        | false => rfl
section AO
variable {Z : List (Option Nat)} {ext : List Ds} {M : Mm}
theorem op_alike (hI : Inv Z ext M) (a b : Int32) : OpI mX9_alike mX10_alike [.int a, .int b] Z ext M := by
  obtain ⟨w, h, n0, k0, k1, hw, hG, hT, hIm, hP, hS, hF1, hF2, hF3⟩ := id hI
  have hf := gf hw
  have hmb := hf.2.2.1
  have hc := c_alike (Z := Z) (ext := ext) (M := M) (mt := mtN w h) a b hG.1.2.2.1 hmb
  rw [show ((1 : Int32) <<< (M 1 2 &&& 31)) - 1 = al (mtN w h) by rw [hG.1.2.2.1]; rfl, both_set hmb] at hc
  cases hx : (vIsSet (mtN w h) a && vIsSet (mtN w h) b) with
  | false =>
    rw [hx, if_neg (by decide)] at hc
    exact op_pure hI hc (c_m_alikeX a b hG.2.1.2.2.1 hx) rfl
  | true =>
    rw [hx, if_pos rfl] at hc
    refine op_pure hI hc (c_m_alike a b hG.2.1.1 hw.1 hw.2.1 hG.2.1.2.1 hw.2.2.2 hG.2.1.2.2.1 hmb hx) ?_
    rw [Bool.and_eq_true] at hx
    have ha := (isSet_bi hmb a).mp hx.1
    congr 1
    rw [hG.2.1.1, hG.2.1.2.1, hG.1.1, hG.1.2.1]
    have g5 := hG.2.2.2.2
    have ok := al_ok hw
    unfold alT at ok
    have tb : ∀ m, m < mtN w h → _ := fun m hm => List.all_eq_true.mp ok m (List.mem_range.mpr hm)
    simp only [Bool.and_eq_true, Bool.or_eq_true, Bool.not_eq_true', decide_eq_true_eq, decide_eq_false_iff_not] at tb
    have m32 : mtN w h ≤ 32 := by omega
    have f7 : ∀ m, m < mtN w h → M 7 m = nI (F7 w h m) ∧ F7 w h m < mtN w h := fun m hm => ⟨by rw [(g5 m hm).1]; exact (tb m hm).1.1.1.1.1.1.1.1.1.1, (tb m hm).1.1.1.1.1.1.1.1.1.2⟩
    have f8 : ∀ m, m < mtN w h → M 8 m = nI (F8 w h m) ∧ F8 w h m < mtN w h := fun m hm => ⟨by rw [(g5 m hm).2.1]; exact (tb m hm).1.1.1.1.1.1.1.1.2, (tb m hm).1.1.1.1.1.1.1.2⟩
    have f9 : ∀ m, m < mtN w h → M 9 m = nI (F9 w h m) ∧ F9 w h m < mtN w h := fun m hm => ⟨by rw [(g5 m hm).2.2]; exact (tb m hm).1.1.1.1.1.1.2, (tb m hm).1.1.1.1.1.2⟩
    have t0 : trS (nI w) (nI h) a (nI 0) (mtN w h) = a := by
      rw [trS_mvd]
      exact mv_id m32 (fun m hm => (tb m hm).1.1.1.1.2) ha
    have t1 : trS (nI w) (nI h) a (nI 1) (mtN w h) = mvd a (M 7) (mtN w h) := by
      rw [trS_mvd]
      exact mv_cg (fun m hm => by rw [(g5 m hm).1]; exact (tb m hm).1.1.1.2)
    have t2 : trS (nI w) (nI h) a (nI 2) (mtN w h) = mvd a (M 8) (mtN w h) := by
      rw [trS_mvd]
      exact mv_cg (fun m hm => by rw [(g5 m hm).2.1]; exact (tb m hm).1.1.2)
    have t3 : trS (nI w) (nI h) a (nI 3) (mtN w h) = mvd (mvd a (M 8) (mtN w h)) (M 7) (mtN w h) := by
      rw [trS_mvd, mv_mv (k := fun m => M 7 (F8 w h m)) m32 f8 _ f7 (fun m hm => rfl)]
      exact mv_cg (fun m hm => by rw [(g5 _ (f8 m hm).2).1]; exact (tb m hm).1.2)
    have c4 : trA (nI w) (nI h) a b (mtN w h) 4 = vMirr a b (M 7) (M 8) (mtN w h) := by
      show ((((false || decide (trS (nI w) (nI h) a (nI 0) (mtN w h) = b)) || decide (trS (nI w) (nI h) a (nI 1) (mtN w h) = b)) || decide (trS (nI w) (nI h) a (nI 2) (mtN w h) = b)) || decide (trS (nI w) (nI h) a (nI 3) (mtN w h) = b)) = _
      rw [t0, t1, t2, t3]
      unfold vMirr
      cases decide (a = b) <;> cases decide (mvd a (M 7) (mtN w h) = b) <;> cases decide (mvd a (M 8) (mtN w h) = b) <;> cases decide (mvd (mvd a (M 8) (mtN w h)) (M 7) (mtN w h) = b) <;> rfl
    unfold vTurns
    by_cases hwh : w = h
    · rw [if_pos hwh, decide_eq_true (show nI w = nI h by rw [hwh]), Bool.true_and]
      have tq := fun m hm => (tb m hm).2.resolve_left (fun q => q hwh)
      have u4 : trS (nI w) (nI h) a (nI 4) (mtN w h) = mvd a (M 9) (mtN w h) := by
        rw [trS_mvd]
        exact mv_cg (fun m hm => by rw [(g5 m hm).2.2]; exact (tq m hm).1.1.1)
      have u5 : trS (nI w) (nI h) a (nI 5) (mtN w h) = mvd (mvd a (M 9) (mtN w h)) (M 8) (mtN w h) := by
        rw [trS_mvd, mv_mv (k := fun m => M 8 (F9 w h m)) m32 f9 _ f8 (fun m hm => rfl)]
        exact mv_cg (fun m hm => by rw [(g5 _ (f9 m hm).2).2.1]; exact (tq m hm).1.1.2)
      have u6 : trS (nI w) (nI h) a (nI 6) (mtN w h) = mvd (mvd a (M 9) (mtN w h)) (M 7) (mtN w h) := by
        rw [trS_mvd, mv_mv (k := fun m => M 7 (F9 w h m)) m32 f9 _ f7 (fun m hm => rfl)]
        exact mv_cg (fun m hm => by rw [(g5 _ (f9 m hm).2).1]; exact (tq m hm).1.2)
      have u7 : trS (nI w) (nI h) a (nI 7) (mtN w h) = mvd (mvd (mvd a (M 9) (mtN w h)) (M 8) (mtN w h)) (M 7) (mtN w h) := by
        rw [trS_mvd, mv_mv (k := fun m => M 8 (F9 w h m)) m32 f9 _ f8 (fun m hm => rfl), mv_mv (F := fun m => F8 w h (F9 w h m)) (k := fun m => M 7 (F8 w h (F9 w h m))) m32 (fun m hm => f8 _ (f9 m hm).2) _ f7 (fun m hm => rfl)]
        exact mv_cg (fun m hm => by rw [(g5 _ (f8 _ (f9 m hm).2).2).1]; exact (tq m hm).2)
      show ((((trA (nI w) (nI h) a b (mtN w h) 4 || decide (trS (nI w) (nI h) a (nI 4) (mtN w h) = b)) || decide (trS (nI w) (nI h) a (nI 5) (mtN w h) = b)) || decide (trS (nI w) (nI h) a (nI 6) (mtN w h) = b)) || decide (trS (nI w) (nI h) a (nI 7) (mtN w h) = b)) = _
      rw [c4, u4, u5, u6, u7]
      generalize vMirr a b (M 7) (M 8) (mtN w h) = v0
      unfold vMirr
      cases v0 <;> cases decide (mvd a (M 9) (mtN w h) = b) <;> cases decide (mvd (mvd a (M 9) (mtN w h)) (M 7) (mtN w h) = b) <;> cases decide (mvd (mvd a (M 9) (mtN w h)) (M 8) (mtN w h) = b) <;> cases decide (mvd (mvd (mvd a (M 9) (mtN w h)) (M 8) (mtN w h)) (M 7) (mtN w h) = b) <;> rfl
    · have hne : ¬ nI w = nI h := fun q => hwh (by
        have := congrArg Int32.toInt q
        rw [nI_toInt (by omega), nI_toInt (by omega)] at this
        omega)
      rw [if_neg hwh, c4, decide_eq_false hne, Bool.false_and, Bool.or_false]
end AO
