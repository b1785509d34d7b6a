/-! ===== the class's search finds the best ===== -/
theorem chp_le {up : Nat → Int32} {o : Int32} {cn : Nat → Nat} {mt i : Nat} (hup : ∀ v m, 1 ≤ v → v ≤ 9 → m < mt → cn m ≤ v → bi (up v) m = true) (hi : i < mt) (h1 : 1 ≤ cn i) (h9 : cn i ≤ 9) (hb : bi o i = true) : ∃ v, chp up o = nI v ∧ v ≤ 9 ∧ v ≤ cn i := by
  have hle := fa_first_le (fun i => !decide (up (i + 1) &&& o = 0)) 8
  refine ⟨fa_first (fun i => !decide (up (i + 1) &&& o = 0)) 8 + 1, rfl, by omega, ?_⟩
  rcases Nat.lt_or_ge (cn i) (fa_first (fun i => !decide (up (i + 1) &&& o = 0)) 8 + 1) with h | h
  · exfalso
    have h2 : (!decide (up (cn i - 1 + 1) &&& o = 0)) = false := fa_first_no (fun i => !decide (up (i + 1) &&& o = 0)) 8 (cn i - 1) (by omega)
    rw [show cn i - 1 + 1 = cn i by omega] at h2
    have h3 : up (cn i) &&& o = 0 := by
      by_cases e : up (cn i) &&& o = 0
      · exact e
      · rw [decide_eq_false e] at h2; cases h2
    have h4 : bi (up (cn i) &&& o) i = true := by rw [bi_and, hup (cn i) i h1 h9 hi (Nat.le_refl _), hb]; rfl
    rw [h3, bi_0] at h4
    cases h4
  · exact h
theorem calF_low {rm up : Nat → Int32} {U F p0 : Int32} {cn : Nat → Nat} {sq mt X : Nat} (hsq : sq ≤ 20) (hup : ∀ v m, 1 ≤ v → v ≤ 9 → m < mt → cn m ≤ v → bi (up v) m = true) (hco : ∀ i, i < 31 → 1 ≤ cn i ∧ cn i ≤ 9) (hF : ∀ i, bi F i = true → i < mt) (hX : ∀ q, q < sq → bi U q = true → ∃ i, i < 31 ∧ bi (rm q) i = true ∧ bi F i = true ∧ X.testBit i = true) :
    ∀ k, k ≤ sq → ∃ s, (calF rm up U F p0 k).2.1 = nI s ∧ s ≤ 9 * k ∧ s ≤ csf cn (fun i => X.testBit i && bi (calF rm up U F p0 k).1 i) ∧ ∀ i, bi (calF rm up U F p0 k).1 i = true → bi F i = true := by
  intro k
  induction k with
  | zero => intro _; exact ⟨0, nI_0.symm, Nat.le_refl _, Nat.zero_le _, fun i h => by rw [show (calF rm up U F p0 0).1 = 0 from rfl, bi_0] at h; cases h⟩
  | succ k ih =>
    intro hk
    obtain ⟨s, g1, g2, g3, g4⟩ := ih (by omega)
    rw [calF_s]
    generalize calF rm up U F p0 k = t at g1 g3 g4 ⊢
    rw [calS, lies_bi U (show k < 32 by omega)]
    cases hU : bi U k with
    | false =>
      rw [if_neg (by decide)]
      exact ⟨s, g1, by omega, g3, g4⟩
    | true =>
      rw [if_pos rfl]
      by_cases hd : (rm k &&& F) &&& t.1 = 0
      · rw [decide_eq_true hd]
        obtain ⟨i, hi, h1, h2, h3⟩ := hX k (by omega) hU
        have ho : bi (rm k &&& F) i = true := by rw [bi_and, h1, h2]; rfl
        obtain ⟨v, e1, e2, e3⟩ := chp_le (o := rm k &&& F) hup (hF i h2) (hco i hi).1 (hco i hi).2 ho
        refine ⟨s + v, ?_, by omega, ?_, fun j h => ?_⟩
        · show t.2.1 + chp up (rm k &&& F) = nI (s + v)
          rw [g1, e1, nI_add]
        · show s + v ≤ csf cn (fun i => X.testBit i && bi (t.1 ||| (rm k &&& F)) i)
          have h5 := csf_add (co := cn) (p := fun i => X.testBit i && bi t.1 i) (q := fun i => X.testBit i && bi (rm k &&& F) i) (r := fun i => X.testBit i && bi (t.1 ||| (rm k &&& F)) i) (fun j hj h => by
            rw [Bool.and_eq_true] at h
            show (X.testBit j && bi (rm k &&& F) j) = false
            cases h6 : bi (rm k &&& F) j with
            | false => exact Bool.and_false _
            | true =>
              have h7 : bi ((rm k &&& F) &&& t.1) j = true := by rw [bi_and, h6, h.2]; rfl
              rw [hd, bi_0] at h7
              cases h7) (fun j hj h => by
            rw [Bool.and_eq_true] at h
            show (X.testBit j && bi (t.1 ||| (rm k &&& F)) j) = true
            rw [bi_or, h.1, h.2]; rfl) (fun j hj h => by
            rw [Bool.and_eq_true] at h
            show (X.testBit j && bi (t.1 ||| (rm k &&& F)) j) = true
            rw [bi_or, h.1, h.2, Bool.or_true]; rfl)
          have h6 := csf_ge (co := cn) (p := fun i => X.testBit i && bi (rm k &&& F) i) hi (show (X.testBit i && bi (rm k &&& F) i) = true by rw [h3, ho]; rfl)
          omega
        · have h' : bi (t.1 ||| (rm k &&& F)) j = true := h
          rw [bi_or, Bool.or_eq_true] at h'
          rcases h' with h' | h'
          · exact g4 j h'
          · rw [bi_and, Bool.and_eq_true] at h'; exact h'.2
      · rw [decide_eq_false hd]
        exact ⟨s, g1, by omega, g3, g4⟩
theorem calP_pick {rm up : Nat → Int32} {U F p0 : Int32} {sq : Nat} (hb : sq ≤ 20) (hr : ∀ q, q < sq → ∀ F, ¬ (31 : Int32) ≤ bcE (rm q &&& F)) :
    ∀ k, k ≤ sq → ((∀ q, q < k → bi U q = false) ∧ calF rm up U F p0 k = (0, 0, 31, p0)) ∨ ∃ q, q < k ∧ bi U q = true ∧ (calF rm up U F p0 k).2.2.2 = rm q &&& F := by
  intro k
  induction k with
  | zero => intro _; exact Or.inl ⟨fun q h => absurd h (Nat.not_lt_zero _), rfl⟩
  | succ k ih =>
    intro hk
    have hh := hr k (by omega) F
    rw [calF_s]
    rcases ih (by omega) with ⟨h1, h2⟩ | ⟨q, h1, h2, h3⟩
    · rw [h2, calS, lies_bi U (show k < 32 by omega)]
      cases hl : bi U k with
      | false =>
        left
        refine ⟨fun q hq => ?_, rfl⟩
        rcases (show q = k ∨ q < k by omega) with e | h3
        · rw [e]; exact hl
        · exact h1 q h3
      | true =>
        right
        refine ⟨k, by omega, hl, ?_⟩
        rw [if_pos rfl]
        show (if decide ((31 : Int32) ≤ bcE (rm k &&& F)) then p0 else rm k &&& F) = rm k &&& F
        rw [decide_eq_false hh, if_neg (by decide)]
    · right
      generalize calF rm up U F p0 k = t at h3 ⊢
      rw [calS, lies_bi U (show k < 32 by omega)]
      cases hl : bi U k with
      | false => exact ⟨q, by omega, h2, h3⟩
      | true =>
        rw [if_pos rfl]
        by_cases hc : t.2.2.1 ≤ bcE (rm k &&& F)
        · refine ⟨q, by omega, h2, ?_⟩
          show (if decide (t.2.2.1 ≤ bcE (rm k &&& F)) then t.2.2.2 else rm k &&& F) = rm q &&& F
          rw [decide_eq_true hc, if_pos rfl]; exact h3
        · refine ⟨k, by omega, hl, ?_⟩
          show (if decide (t.2.2.1 ≤ bcE (rm k &&& F)) then t.2.2.2 else rm k &&& F) = rm k &&& F
          rw [decide_eq_false hc, if_neg (by decide)]
theorem pc_z {x : Int32} (h : pc x = 0) : x = 0 := bi_z (fun i hi => fb_ct_zero.mp h i hi)
/-- a leaf of the class's search -/
theorem bk_leaf {rm : Nat → Int32} {sq mt N : Nat} {sqs U F T : Int32} {cn : Nat → Nat} {st : Bk} {P : Nat → Prop} (hN : N = 2 ^ 31) (hmt : mt ≤ 31) (hco : ∀ i, i < 31 → 1 ≤ cn i ∧ cn i ≤ 9) (hU : ∀ q, q < sq → (bi U q = true ↔ (bi sqs q = true ∧ ∀ i, i < 31 → bi (rm q) i = true → bi T i = false))) (hT : ∀ i, bi T i = true → i < mt) (hU0 : U = 0) (hdis : ∀ X, X < N → P X → Nd (BrW (bi sqs) rm sq) (bi T) (fun i => bi T i || bi F i) X → False) (hS : SmB cn N P st) : SmB cn N (fun X => P X ∨ Nd (BrW (bi sqs) rm sq) (bi T) (fun i => bi T i || bi F i) X) (ntS st T (nI (csf cn (bi T)))) := by
  have hpsv : psv T := by
    unfold psv
    cases h : bi T 31 with
    | false => rfl
    | true => have := hT 31 h; omega
  obtain ⟨t0, e1, e2, e3⟩ := bi_N hpsv
  have hbr : BrW (bi sqs) rm sq t0 := fun q hq hw => Classical.byContradiction (fun hcon => by
    have h2 := (hU q hq).mpr ⟨hw, fun i hi hb => by
      cases h : bi T i with
      | false => rfl
      | true => exact absurd ⟨i, hi, hb, by rw [← e3]; exact h⟩ hcon⟩
    rw [hU0, bi_0] at h2
    cases h2)
  have htg : ∀ i, i < 31 → bi T i = true → (bi T i || bi F i) = true := fun i hi h => by rw [h, Bool.true_or]
  have hbd := csf_bd (co := cn) (p := bi T) (fun i hi => (hco i hi).2)
  have h2 := nt_sm (a := st.1) (l := st.2.1) (w := st.2.2.1) (p := st.2.2.2) (t := t0) (c := csf cn (bi T)) hN (by decide) hS (by omega) (fun hp => hdis t0 (by omega) hp ⟨fun i hi h => by rw [← e3]; exact h, fun i hi h => htg i hi (by rw [e3]; exact h), hbr⟩) (csf_cg (fun i hi => e3 i)) (by omega)
  rw [← e2] at h2
  exact Nd_leaf hN (fun i hi => (hco i hi).1) (by omega) (fun i hi => e3 i) htg hbr h2
/-- the loop over one square's free matches -/
theorem bkI_sm {rec : Int32 → Int32 → Int32 → Int32 → Bk → Bk} {rm to co : Nat → Int32} {sq mt N q : Nat} {sqs U T : Int32} {cn : Nat → Nat} (hmt : mt ≤ 31) (hrm : ∀ i, bi (rm q) i = true → i < mt) (hq : q < sq) (hqs : bi sqs q = true) (hqT : ∀ i, i < 31 → bi (rm q) i = true → bi T i = false) (hcc : ∀ i, i < mt → co i = nI (cn i))
    (hrec : ∀ (k : Nat) (f : Int32) (st : Bk) (P : Nat → Prop), k < mt → bi (rm q) k = true → bi T k = false → bi f k = true → (∀ i, bi f i = true → i < mt) → (∀ i, bi T i = true → bi f i = false) → (∀ X, X < N → P X → Nd (BrW (bi sqs) rm sq) (bi (T ||| b1 k)) (fun i => bi (T ||| b1 k) i || bi (f ^^^ b1 k) i) X → False) → SmB cn N P st → SmB cn N (fun X => P X ∨ Nd (BrW (bi sqs) rm sq) (bi (T ||| b1 k)) (fun i => bi (T ||| b1 k) i || bi (f ^^^ b1 k) i) X) (rec (U &&& (to k ^^^ (-1))) (f ^^^ b1 k) (T ||| b1 k) (nI (csf cn (bi (T ||| b1 k)))) st)) :
    ∀ (r : Nat) (o f : Int32) (st : Bk) (P : Nat → Prop), pc o ≤ r → (∀ i, bi o i = true → bi (rm q) i = true ∧ bi f i = true) → (∀ i, bi (rm q) i = true → bi f i = true → bi o i = true) → (∀ i, bi f i = true → i < mt) → (∀ i, bi T i = true → bi f i = false) → (∀ X, X < N → P X → Nd (BrW (bi sqs) rm sq) (bi T) (fun i => bi T i || bi f i) X → False) → SmB cn N P st → SmB cn N (fun X => P X ∨ Nd (BrW (bi sqs) rm sq) (bi T) (fun i => bi T i || bi f i) X) (bkI rec to co U T (nI (csf cn (bi T))) r o f st) := by
  intro r
  have hend : ∀ (o f : Int32) (st : Bk) (P : Nat → Prop), o = 0 → (∀ i, bi (rm q) i = true → bi f i = true → bi o i = true) → SmB cn N P st → SmB cn N (fun X => P X ∨ Nd (BrW (bi sqs) rm sq) (bi T) (fun i => bi T i || bi f i) X) st := by
    intro o f st P ho hof hS
    refine SmI_cg hS (fun X hX => ⟨Or.inl, fun h => h.resolve_right (fun h2 => ?_)⟩)
    obtain ⟨i, hi, h3, h4⟩ := h2.2.2 q hq hqs
    have h5 : (bi T i || bi f i) = true := h2.2.1 i hi h4
    rw [hqT i hi h3, Bool.false_or] at h5
    have h6 := hof i h3 h5
    rw [ho, bi_0] at h6
    cases h6
  induction r with
  | zero =>
    intro o f st P hpc ho hof hf hTf hdis hS
    exact hend o f st P (pc_z (by omega)) hof hS
  | succ r ih =>
    intro o f st P hpc ho hof hf hTf hdis hS
    rw [bkI_s]
    by_cases ho0 : o = 0
    · rw [if_pos ho0]
      exact hend o f st P ho0 hof hS
    · rw [if_neg ho0]
      have hlow := lowk_ok ho0
      generalize lowk o = k at hlow ⊢
      have hk := ho k hlow.2.2.1
      have hkm := hrm k hk.1
      have hTk : bi T k = false := hqT k (by omega) hk.1
      have hb1 : ∀ i, bi (T ||| b1 k) i = (bi T i || decide (i = k)) := fun i => by rw [bi_or, bi_b1 (by omega)]
      have hfx : ∀ i, bi (f ^^^ b1 k) i = (bi f i && !decide (i = k)) := fun i => xor_b1 (by omega) hk.2 i
      have hox : ∀ i, bi (o ^^^ b1 k) i = (bi o i && !decide (i = k)) := fun i => xor_b1 (by omega) hlow.2.2.1 i
      have hsum : nI (csf cn (bi T)) + co k = nI (csf cn (bi (T ||| b1 k))) := by rw [hcc k hkm, nI_add, csf_ins (p := bi T) (q := bi (T ||| b1 k)) (by omega) hTk (fun i _ => hb1 i)]
      rw [hsum]
      have hgg : ∀ i, (bi (T ||| b1 k) i || bi (f ^^^ b1 k) i) = (bi T i || bi f i) := fun i => by
        rw [hb1, hfx]
        by_cases e : i = k
        · rw [e, hk.2, decide_eq_true rfl]; simp
        · rw [decide_eq_false e]; simp
      have hg : ∀ i, i < 31 → (bi T i || bi (f ^^^ b1 k) i) = ((bi T i || bi f i) && !decide (i = k)) := fun i _ => by
        rw [hfx]
        by_cases e : i = k
        · rw [e, hTk, decide_eq_true rfl]; simp
        · rw [decide_eq_false e]; simp
      have h1 := hrec k f st P hkm hk.1 hTk hk.2 hf hTf (fun X hX h1 h2 => hdis X hX h1 (Nd_sub (fun i _ => hb1 i) (Nd_cg (fun i _ => rfl) (fun i _ => (hgg i).symm) h2))) hS
      have h2 : SmB cn N (fun X => P X ∨ Nd (BrW (bi sqs) rm sq) (bi (T ||| b1 k)) (fun i => bi T i || bi f i) X) (rec (U &&& (to k ^^^ (-1))) (f ^^^ b1 k) (T ||| b1 k) (nI (csf cn (bi (T ||| b1 k)))) st) := SmI_cg h1 (fun X hX => ⟨fun h => h.imp id (Nd_cg (fun i _ => rfl) (fun i _ => (hgg i).symm)), fun h => h.imp id (Nd_cg (fun i _ => rfl) (fun i _ => hgg i))⟩)
      have hpx : pc (o ^^^ b1 k) < pc o := ct_lt (k := k) (fun j hj h => by rw [hox, Bool.and_eq_true] at h; exact h.1) hlow.1 (by rw [hox, decide_eq_true rfl]; simp) hlow.2.2.1
      have h3 := ih (o ^^^ b1 k) (f ^^^ b1 k) _ _ (by omega) (fun i h => by
        rw [hox, Bool.and_eq_true] at h
        have h4 := ho i h.1
        exact ⟨h4.1, by rw [hfx, h4.2, h.2]; rfl⟩) (fun i h4 h5 => by
        rw [hfx, Bool.and_eq_true] at h5
        rw [hox, hof i h4 h5.1, h5.2]; rfl) (fun i h => by rw [hfx, Bool.and_eq_true] at h; exact hf i h.1) (fun i h => by rw [hfx, hTf i h]; rfl) (fun X hX h4 h5 => by
        rcases h4 with h4 | h4
        · exact hdis X hX h4 ((Nd_split (t' := bi (T ||| b1 k)) (g := fun i => bi T i || bi f i) (g' := fun i => bi T i || bi (f ^^^ b1 k) i) (m := k) (by omega) (fun i _ => hb1 i) hg).mpr (Or.inr h5))
        · exact Nd_dis (t := bi T) (t' := bi (T ||| b1 k)) (g := fun i => bi T i || bi f i) (g' := fun i => bi T i || bi (f ^^^ b1 k) i) (m := k) (by omega) (fun i _ => hb1 i) hg h4 h5) h2
      refine SmI_cg h3 (fun X hX => ?_)
      rw [Nd_split (t := bi T) (t' := bi (T ||| b1 k)) (g := fun i => bi T i || bi f i) (g' := fun i => bi T i || bi (f ^^^ b1 k) i) (m := k) (by omega) (fun i _ => hb1 i) hg]
      exact or_assoc
theorem bk_sm {rm up to co : Nat → Int32} {sq mt N : Nat} {sqs : Int32} {cn : Nat → Nat} (hN : N = 2 ^ 31) (hmt : mt ≤ 31) (hsq : sq ≤ 20) (hrm : ∀ q, q < sq → ∀ i, bi (rm q) i = true → i < mt) (hr : ∀ q, q < sq → ∀ F, ¬ (31 : Int32) ≤ bcE (rm q &&& F)) (hpc : ∀ q, q < sq → pc (rm q) ≤ 12) (hco : ∀ i, i < 31 → 1 ≤ cn i ∧ cn i ≤ 9) (hcc : ∀ i, i < mt → co i = nI (cn i)) (hup : ∀ v m, 1 ≤ v → v ≤ 9 → m < mt → cn m ≤ v → bi (up v) m = true) (hto : ∀ m, m < mt → ∀ q, q < sq → bi (to m) q = (bi sqs q && bi (rm q) m)) :
    ∀ (r : Nat) (U F T : Int32) (st : Bk) (P : Nat → Prop), fb_ct (bi U) sq ≤ r → (∀ q, q < sq → (bi U q = true ↔ (bi sqs q = true ∧ ∀ i, i < 31 → bi (rm q) i = true → bi T i = false))) → (∀ q, bi U q = true → q < sq) → (∀ i, bi T i = true → i < mt) → (∀ i, bi F i = true → i < mt) → (∀ i, bi T i = true → bi F i = false) → (∀ X, X < N → P X → Nd (BrW (bi sqs) rm sq) (bi T) (fun i => bi T i || bi F i) X → False) → SmB cn N P st → SmB cn N (fun X => P X ∨ Nd (BrW (bi sqs) rm sq) (bi T) (fun i => bi T i || bi F i) X) (bk rm up to co sq r U F T (nI (csf cn (bi T))) st) := by
  intro r
  induction r with
  | zero =>
    intro U F T st P hct hU hUs hT hF hTF hdis hS
    have hU0 : U = 0 := bi_z (fun i hi => by
      cases h : bi U i with
      | false => rfl
      | true =>
        have h2 := fb_ct_zero.mp (show fb_ct (bi U) sq = 0 by omega) i (hUs i h)
        rw [h] at h2
        cases h2)
    rw [bk, if_pos hU0]
    exact bk_leaf hN hmt hco hU hT hU0 hdis hS
  | succ r ih =>
    intro U F T st P hct hU hUs hT hF hTF hdis hS
    rw [bk_s]
    by_cases hU0 : U = 0
    · rw [if_pos hU0]
      exact bk_leaf hN hmt hco hU hT hU0 hdis hS
    · rw [if_neg hU0]
      have hbd := csf_bd (co := cn) (p := bi T) (fun i hi => (hco i hi).2)
      have hX : ∀ X, Nd (BrW (bi sqs) rm sq) (bi T) (fun i => bi T i || bi F i) X → ∀ q, q < sq → bi U q = true → ∃ i, i < 31 ∧ bi (rm q) i = true ∧ bi F i = true ∧ X.testBit i = true := fun X h q hq hqU => by
        have h1 := (hU q hq).mp hqU
        obtain ⟨i, hi, h2, h3⟩ := h.2.2 q hq h1.1
        have h4 : (bi T i || bi F i) = true := h.2.1 i hi h3
        rw [h1.2 i hi h2, Bool.false_or] at h4
        exact ⟨i, hi, h2, h4, h3⟩
      have hba := SmI_a hS (by decide)
      by_cases hZ : calZ rm U F sq < sq
      · have hV : calV rm up U F st.2.2.2 sq = 280 := by rw [calV, if_pos hZ]
        have hno : ¬ (nI (csf cn (bi T)) + calV rm up U F st.2.2.2 sq ≤ st.1) := fun h => by
          rw [hV, show (280 : Int32) = nI 280 by decide, nI_add, fa_le, nI_toInt (by omega)] at h
          omega
        rw [decide_eq_false hno, if_neg (by decide)]
        have hy : (lies U (nI (calZ rm U F sq)) && decide (bcE (rm (calZ rm U F sq) &&& F) = 0)) = true := fa_first_yes (fun q => lies U (nI q) && decide (bcE (rm q &&& F) = 0)) sq hZ
        generalize calZ rm U F sq = z at hZ hy
        rw [Bool.and_eq_true, lies_bi U (show z < 32 by omega)] at hy
        have hz0 : rm z &&& F = 0 := by
          have h1 := of_decide_eq_true hy.2
          rw [bcE_pc] at h1
          have h2 := pc_le (rm z &&& F)
          exact pc_z (nI_z (by omega) h1)
        refine SmI_cg (Q := fun X => P X ∨ Nd (BrW (bi sqs) rm sq) (bi T) (fun i => bi T i || bi F i) X) (show SmB cn N P st from hS) (fun X hX2 => ⟨Or.inl, fun h => h.resolve_right (fun h2 => ?_)⟩)
        obtain ⟨i, hi, h3, h4, h5⟩ := hX X h2 z hZ hy.1
        have h6 : bi (rm z &&& F) i = true := by rw [bi_and, h3, h4]; rfl
        rw [hz0, bi_0] at h6
        cases h6
      · have hle : calZ rm U F sq ≤ sq := fa_first_le _ _
        have hZe : calZ rm U F sq = sq := by omega
        by_cases hc : nI (csf cn (bi T)) + calV rm up U F st.2.2.2 sq ≤ st.1
        · rw [decide_eq_true hc, if_pos rfl]
          have hpick : ∃ q, q < sq ∧ bi U q = true ∧ calP rm up U F st.2.2.2 sq = rm q &&& F := by
            rw [calP, hZe]
            rcases calP_pick (rm := rm) (up := up) (U := U) (F := F) (p0 := st.2.2.2) hsq hr sq (Nat.le_refl _) with ⟨h1, h2⟩ | h
            · obtain ⟨i, hi, hb2⟩ := bi_nz hU0
              rw [h1 i (hUs i hb2)] at hb2
              cases hb2
            · exact h
          obtain ⟨q, hq, hqU, hpk⟩ := hpick
          rw [hpk]
          have hqq := (hU q hq).mp hqU
          have hpc2 : pc (rm q &&& F) ≤ 12 := Nat.le_trans (ct_mono (fun k hk h => by rw [bi_and, Bool.and_eq_true] at h; exact h.1)) (hpc q hq)
          refine bkI_sm (q := q) hmt (hrm q hq) hq hqq.1 hqq.2 hcc ?_ 12 (rm q &&& F) F (bkW st (rm q &&& F)) P hpc2 (fun i h => by rw [bi_and, Bool.and_eq_true] at h; exact h) (fun i h1 h2 => by rw [bi_and, h1, h2]; rfl) hF hTF hdis hS
          intro k f st2 P2 hk hkq hkT hkf hf hTf hdis2 hS2
          have hb1 : ∀ i, bi (T ||| b1 k) i = (bi T i || decide (i = k)) := fun i => by rw [bi_or, bi_b1 (by omega)]
          have hfx : ∀ i, bi (f ^^^ b1 k) i = (bi f i && !decide (i = k)) := fun i => xor_b1 (by omega) hkf i
          have hUx : ∀ j, j < sq → bi (U &&& (to k ^^^ (-1))) j = (bi U j && !(bi sqs j && bi (rm j) k)) := fun j hj => by rw [bi_and, bi_not, hto k hk j hj, decide_eq_true (show j < 32 by omega), Bool.true_and]
          refine ih (U &&& (to k ^^^ (-1))) (f ^^^ b1 k) (T ||| b1 k) st2 P2 ?_ ?_ ?_ ?_ ?_ ?_ hdis2 hS2
          · have h1 : fb_ct (bi (U &&& (to k ^^^ (-1)))) sq < fb_ct (bi U) sq := ct_lt (k := q) (fun j hj h => by rw [hUx j hj, Bool.and_eq_true] at h; exact h.1) hq (by rw [hUx q hq, hqU, hqq.1, hkq]; rfl) hqU
            omega
          · intro j hj
            rw [hUx j hj, Bool.and_eq_true, hU j hj]
            constructor
            · intro h
              obtain ⟨⟨h1, h2⟩, h3⟩ := h
              refine ⟨h1, fun i hi h4 => ?_⟩
              rw [hb1, h2 i hi h4, Bool.false_or]
              refine decide_eq_false (fun e => ?_)
              rw [e] at h4
              rw [h1, h4] at h3
              cases h3
            · intro h
              refine ⟨⟨h.1, fun i hi h4 => ?_⟩, ?_⟩
              · have h5 := h.2 i hi h4
                rw [hb1, Bool.or_eq_false_iff] at h5
                exact h5.1
              · rw [h.1, Bool.true_and]
                cases h6 : bi (rm j) k with
                | false => rfl
                | true =>
                  have h5 := h.2 k (by omega) h6
                  rw [hb1, decide_eq_true rfl, Bool.or_true] at h5
                  cases h5
          · intro j h
            rw [bi_and, Bool.and_eq_true] at h
            exact hUs j h.1
          · intro i h
            rw [hb1, Bool.or_eq_true] at h
            rcases h with h | h
            · exact hT i h
            · rw [of_decide_eq_true h]; exact hk
          · intro i h
            rw [hfx, Bool.and_eq_true] at h
            exact hf i h.1
          · intro i h
            rw [hb1, Bool.or_eq_true] at h
            rw [hfx]
            rcases h with h | h
            · rw [hTf i h]; rfl
            · rw [h]; simp
        · rw [decide_eq_false hc, if_neg (by decide)]
          have hdear : SmB cn N (fun X => P X ∨ Nd (BrW (bi sqs) rm sq) (bi T) (fun i => bi T i || bi F i) X) st := by
            refine SmI_dear hS (by decide) (fun X hX2 h => ?_)
            obtain ⟨s, g1, g2, g3, g4⟩ := calF_low (p0 := st.2.2.2) hsq hup hco hF (hX X h) sq (Nat.le_refl _)
            rw [calV, if_neg hZ, g1, nI_add, fa_le, nI_toInt (by omega)] at hc
            generalize (calF rm up U F st.2.2.2 sq).1 = pd at g3 g4
            have h5 := csf_add (co := cn) (p := bi T) (q := fun i => X.testBit i && bi pd i) (r := X.testBit) (fun i hi h1 => by
              show (X.testBit i && bi pd i) = false
              cases h6 : bi pd i with
              | false => exact Bool.and_false _
              | true =>
                have h7 := g4 i h6
                rw [hTF i h1] at h7
                cases h7) h.1 (fun i hi h1 => by rw [Bool.and_eq_true] at h1; exact h1.1)
            show st.1.toInt < (csf cn X.testBit : Int)
            omega
          exact hdear
