/-! ===== the reference's search finds the best ===== -/
def BrW (W : Nat → Bool) (rm : Nat → Int32) (sq X : Nat) : Prop := ∀ q, q < sq → W q = true → ∃ i, i < 31 ∧ bi (rm q) i = true ∧ X.testBit i = true
def wq (C : Int32) (sz rm : Nat → Int32) (L : Int32) (q : Nat) : Bool := cntq C sz q && inq rm L q
def gB (mt : Nat) (b : Int32) (i : Nat) : Bool := decide (i < mt) && !bi b i
def SmT (cn : Nat → Nat) (N : Nat) (P : Nat → Prop) (st : Tk) : Prop := SmI (fun X => csf cn X.testBit) N 1000000 P st.1 st.2.1 st.2.2
def SmB (cn : Nat → Nat) (N : Nat) (P : Nat → Prop) (st : Bk) : Prop := SmI (fun X => csf cn X.testBit) N 279 P st.1 st.2.1 st.2.2.1
theorem fwP_iff {C : Int32} {sz rm : Nat → Int32} {L x : Int32} {q : Nat} (hrm : ∀ i, bi (rm q) i = true → i < 31) : fwP C sz rm L x q = true ↔ (wq C sz rm L q = true ∧ ∀ i, i < 31 → bi (rm q) i = true → bi x i = false) := by
  rw [fwP, wq, Bool.and_eq_true, Bool.and_eq_true, inq_bi, inq_bi]
  constructor
  · intro h
    obtain ⟨h1, h2⟩ := h
    refine ⟨⟨h1, fun i hi hb => ?_⟩, fun i hi hb => ?_⟩
    · have h3 := h2 i hi hb
      rw [bi_and, Bool.and_eq_true] at h3
      exact h3.1
    · have h3 := h2 i (by omega) hb
      rw [bi_and, bi_not, Bool.and_eq_true, Bool.and_eq_true] at h3
      simpa using h3.2.2
  · intro h
    obtain ⟨⟨h1, h2⟩, h3⟩ := h
    refine ⟨h1, fun i hi hb => ?_⟩
    rw [bi_and, bi_not, h2 i hi hb, h3 i (hrm i hb) hb, decide_eq_true hi]
    rfl
theorem dn_sm {C : Int32} {sz rm : Nat → Int32} {sq : Nat} {L : Int32} {co : Nat → Int32} {mt N : Nat} {cn : Nat → Nat} (hN : N = 2 ^ 31) (hmt : mt ≤ 31) (hrm : ∀ q, q < sq → ∀ i, bi (rm q) i = true → i < mt) (hco : ∀ i, i < 31 → 1 ≤ cn i ∧ cn i ≤ 9) (hcc : ∀ i, i < mt → co i = nI (cn i)) :
    ∀ (r : Nat) (c b : Int32) (st : Tk) (P : Nat → Prop), wct C sz rm sq L c < r → (∀ i, bi c i = true → i < mt) → (∀ i, bi c i = true → bi b i = false) → (∀ X, X < N → P X → Nd (BrW (wq C sz rm L) rm sq) (bi c) (gB mt b) X → False) → SmT cn N P st → SmT cn N (fun X => P X ∨ Nd (BrW (wq C sz rm L) rm sq) (bi c) (gB mt b) X) (dn C sz rm sq L co mt r c b (nI (csf cn (bi c))) st) := by
  intro r
  induction r with
  | zero => intro c b st P hw; exact absurd hw (Nat.not_lt_zero _)
  | succ r ih =>
    intro c b st P hw hc hcb hdis hS
    rw [dn]
    by_cases hlt : fwq C sz rm sq L c < sq
    · rw [if_pos hlt]
      have hy : fwP C sz rm L c (fwq C sz rm sq L c) = true := fa_first_yes _ _ hlt
      have hchild := fun (m : Nat) (hm : m < 32) (hbm : bi (rm (fwq C sz rm sq L c)) m = true) => wct_child (C := C) (sz := sz) (sq := sq) (L := L) (x := c) hm hlt hbm
      generalize fwq C sz rm sq L c = q at hlt hy hchild ⊢
      have hq := hrm q hlt
      rw [fwP_iff (fun i h => by have := hq i h; omega)] at hy
      have loop : ∀ m, m ≤ mt → ∃ Pm : Nat → Prop, SmT cn N Pm (fld (dnS (dn C sz rm sq L co mt r) (rm q) co c (nI (csf cn (bi c)))) m (b, st)).2 ∧ (∀ i, i < m → bi (rm q) i = true → bi (fld (dnS (dn C sz rm sq L co mt r) (rm q) co c (nI (csf cn (bi c)))) m (b, st)).1 i = true) ∧ (∀ i, bi c i = true → bi (fld (dnS (dn C sz rm sq L co mt r) (rm q) co c (nI (csf cn (bi c)))) m (b, st)).1 i = false) ∧ (∀ X, X < N → Pm X → Nd (BrW (wq C sz rm L) rm sq) (bi c) (gB mt (fld (dnS (dn C sz rm sq L co mt r) (rm q) co c (nI (csf cn (bi c)))) m (b, st)).1) X → False) ∧ (∀ X, X < N → ((Pm X ∨ Nd (BrW (wq C sz rm L) rm sq) (bi c) (gB mt (fld (dnS (dn C sz rm sq L co mt r) (rm q) co c (nI (csf cn (bi c)))) m (b, st)).1) X) ↔ (P X ∨ Nd (BrW (wq C sz rm L) rm sq) (bi c) (gB mt b) X))) := by
        intro m
        induction m with
        | zero => intro _; exact ⟨P, hS, fun i hi => absurd hi (Nat.not_lt_zero _), hcb, hdis, fun X hX => Iff.rfl⟩
        | succ m ihm =>
          intro hm
          obtain ⟨Pm, g1, g2, g3, g4, g5⟩ := ihm (by omega)
          rw [fld_s]
          generalize fld (dnS (dn C sz rm sq L co mt r) (rm q) co c (nI (csf cn (bi c)))) m (b, st) = x at g1 g2 g3 g4 g5 ⊢
          rw [dnS, lies_bi (rm q) (show m < 32 by omega), lies_bi x.1 (show m < 32 by omega)]
          cases hcan : (bi (rm q) m && !bi x.1 m) with
          | false =>
            rw [if_neg (by decide)]
            refine ⟨Pm, g1, fun i hi hb => ?_, g3, g4, g5⟩
            rcases (show i = m ∨ i < m by omega) with e | h
            · rw [e] at hb ⊢
              rw [hb, Bool.true_and] at hcan
              simpa using hcan
            · exact g2 i h hb
          | true =>
            rw [if_pos rfl]
            rw [Bool.and_eq_true] at hcan
            have hm1 : bi (rm q) m = true := hcan.1
            have hm2 : bi x.1 m = false := by simpa using hcan.2
            have hcm : bi c m = false := hy.2 m (by omega) hm1
            have hb1 : ∀ i, bi (c ||| b1 m) i = (bi c i || decide (i = m)) := fun i => by rw [bi_or, bi_b1 (by omega)]
            have hb2 : ∀ i, bi (x.1 ||| b1 m) i = (bi x.1 i || decide (i = m)) := fun i => by rw [bi_or, bi_b1 (by omega)]
            have hg : ∀ i, i < 31 → gB mt (x.1 ||| b1 m) i = (gB mt x.1 i && !decide (i = m)) := fun i _ => by unfold gB; rw [hb2, Bool.not_or, Bool.and_assoc]
            have hs : csf cn (bi (c ||| b1 m)) = csf cn (bi c) + cn m := csf_ins (by omega) hcm (fun i _ => hb1 i)
            have hsum : nI (csf cn (bi c)) + co m = nI (csf cn (bi (c ||| b1 m))) := by rw [hcc m (by omega), nI_add, hs]
            rw [hsum]
            have key : SmT cn N (fun X => Pm X ∨ Nd (BrW (wq C sz rm L) rm sq) (bi (c ||| b1 m)) (gB mt x.1) X) (if decide (nI (csf cn (bi (c ||| b1 m))) ≤ x.2.1) then dn C sz rm sq L co mt r (c ||| b1 m) x.1 (nI (csf cn (bi (c ||| b1 m)))) x.2 else x.2) := by
              by_cases hle : nI (csf cn (bi (c ||| b1 m))) ≤ x.2.1
              · rw [decide_eq_true hle, if_pos rfl]
                refine ih (c ||| b1 m) x.1 x.2 Pm (by have := hchild m (by omega) hm1; omega) (fun i h => ?_) (fun i h => ?_) (fun X hX h1 h2 => g4 X hX h1 (Nd_sub (fun i _ => hb1 i) h2)) g1
                · rw [hb1, Bool.or_eq_true] at h
                  rcases h with h | h
                  · exact hc i h
                  · rw [of_decide_eq_true h]; omega
                · rw [hb1, Bool.or_eq_true] at h
                  rcases h with h | h
                  · exact g3 i h
                  · rw [of_decide_eq_true h]; exact hm2
              · rw [decide_eq_false hle, if_neg (by decide)]
                refine SmI_dear g1 (by decide) (fun X hX h => ?_)
                have h1 := Nd_cost (co := cn) h
                have h2 := csf_bd (co := cn) (p := bi (c ||| b1 m)) (fun i hi => (hco i hi).2)
                rw [fa_le, nI_toInt (by omega)] at hle
                show x.2.1.toInt < (csf cn X.testBit : Int)
                omega
            refine ⟨_, key, fun i hi hb => ?_, fun i h => ?_, fun X hX h1 h2 => ?_, fun X hX => ?_⟩
            · show bi (x.1 ||| b1 m) i = true
              rw [hb2, Bool.or_eq_true]
              rcases (show i = m ∨ i < m by omega) with e | h
              · exact Or.inr (decide_eq_true e)
              · exact Or.inl (g2 i h hb)
            · show bi (x.1 ||| b1 m) i = false
              rw [hb2, g3 i h, Bool.false_or]
              exact decide_eq_false (fun e => by rw [e, hcm] at h; cases h)
            · rcases h1 with h1 | h1
              · exact g4 X hX h1 ((Nd_split (t' := bi (c ||| b1 m)) (g' := gB mt (x.1 ||| b1 m)) (m := m) (by omega) (fun i _ => hb1 i) hg).mpr (Or.inr h2))
              · exact Nd_dis (m := m) (by omega) (fun i _ => hb1 i) hg h1 h2
            · rw [← g5 X hX, Nd_split (t := bi c) (t' := bi (c ||| b1 m)) (g := gB mt x.1) (g' := gB mt (x.1 ||| b1 m)) (m := m) (by omega) (fun i _ => hb1 i) hg]
              exact or_assoc
      obtain ⟨Pm, g1, g2, g3, g4, g5⟩ := loop mt (Nat.le_refl _)
      refine SmI_cg g1 (fun X hX => ?_)
      rw [← g5 X hX]
      constructor
      · exact Or.inl
      · intro h
        rcases h with h | h
        · exact h
        · exfalso
          obtain ⟨i, hi, h1, h2⟩ := h.2.2 q hlt hy.1
          have h3 := h.2.1 i hi h2
          unfold gB at h3
          rw [g2 i (hq i h1) h1] at h3
          simp at h3
    · rw [if_neg hlt]
      have hpsv : psv c := by
        unfold psv
        cases h : bi c 31 with
        | false => rfl
        | true => have := hc 31 h; omega
      obtain ⟨t0, e1, e2, e3⟩ := bi_N hpsv
      have hbr : BrW (wq C sz rm L) rm sq t0 := fun q hq hw => Classical.byContradiction (fun hcon => by
        have hle : fwq C sz rm sq L c ≤ sq := fa_first_le _ _
        have h1 : fwP C sz rm L c q = false := fa_first_no _ sq q (show q < fwq C sz rm sq L c by omega)
        have h2 := (fwP_iff (C := C) (sz := sz) (L := L) (x := c) (fun i h => by have := hrm q hq i h; omega)).mpr ⟨hw, fun i hi hb => by
          cases h : bi c i with
          | false => rfl
          | true => exact absurd ⟨i, hi, hb, by rw [← e3]; exact h⟩ hcon⟩
        rw [h1] at h2
        cases h2)
      have htg : ∀ i, i < 31 → bi c i = true → gB mt b i = true := fun i hi h => by
        unfold gB
        rw [hcb i h, decide_eq_true (hc i h)]
        rfl
      have hbd := csf_bd (co := cn) (p := bi c) (fun i hi => (hco i hi).2)
      have h2 := tk_sm (a := st.1) (l := st.2.1) (w := st.2.2) (t := t0) (c := csf cn (bi c)) hN (by decide) hS (by omega) (fun hp => hdis t0 (by omega) hp ⟨fun i hi h => by rw [← e3]; exact h, fun i hi h => htg i hi (by rw [e3]; exact h), hbr⟩) (csf_cg (fun i hi => e3 i)) (by omega)
      rw [← e2] at h2
      exact Nd_leaf hN (fun i hi => (hco i hi).1) (by omega) (fun i hi => e3 i) htg hbr h2
