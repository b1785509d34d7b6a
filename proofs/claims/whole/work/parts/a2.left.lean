/-! ===== how many are left: both alike ===== -/
def GF (w h : Nat) : Prop := sqN w h ≤ 20 ∧ 1 ≤ mtN w h ∧ mtN w h ≤ 31 ∧ (∀ q, q < sqN w h → ∃ s, 1 ≤ s ∧ s ≤ 3 ∧ szF w h q = nI s) ∧ (∀ s, 1 ≤ s → s ≤ 3 → ∀ q, q < 32 → bi (ofF w h s) q = (decide (q < sqN w h) && decide (szF w h q = nI s))) ∧ (∀ q, q < sqN w h → (∀ i, bi (rmF w h q) i = true → i < mtN w h) ∧ pc (rmF w h q) ≤ 12 ∧ 1 ≤ pc (rmF w h q))
theorem gf {w h : Nat} (hw : 1 ≤ w ∧ w ≤ 4 ∧ 1 ≤ h ∧ h ≤ 3) : GF w h := by
  have h0 := tw_ok hw
  unfold twOk at h0
  simp only [Bool.and_eq_true, decide_eq_true_eq] at h0
  obtain ⟨⟨⟨⟨⟨h1, h2⟩, h3⟩, h4⟩, h5⟩, h6⟩ := h0
  refine ⟨h1, h2, h3, fun q hq => ?_, fun s s1 s2 q hq => ?_, fun q hq => ?_⟩
  · have := List.all_eq_true.mp h4 q (List.mem_range.mpr hq)
    simp only [Bool.or_eq_true, decide_eq_true_eq] at this
    rcases this with (h | h) | h
    · exact ⟨1, by decide, by decide, h⟩
    · exact ⟨2, by decide, by decide, h⟩
    · exact ⟨3, by decide, by decide, h⟩
  · have := List.all_eq_true.mp h5 s (List.mem_range.mpr (by omega))
    rw [decide_eq_false (show ¬ s = 0 by omega), Bool.false_or] at this
    have := List.all_eq_true.mp this q (List.mem_range.mpr hq)
    exact eq_of_beq this
  · have := List.all_eq_true.mp h6 q (List.mem_range.mpr hq)
    simp only [Bool.and_eq_true, decide_eq_true_eq] at this
    refine ⟨fun i hi => ?_, this.1.2, this.2⟩
    rcases Nat.lt_or_ge i 32 with h | h
    · have h7 := List.all_eq_true.mp this.1.1 i (List.mem_range.mpr h)
      rw [hi] at h7
      simpa using h7
    · rw [bi_ge h] at hi; cases hi
theorem ct_zero {p : Nat → Bool} : ∀ {n : Nat}, (∀ k, k < n → p k = false) → fb_ct p n = 0
  | 0, _ => rfl
  | n + 1, h => by
    rw [fb_ct_succ, ct_zero (n := n) (fun k hk => h k (by omega)), h n (by omega)]
    rfl
theorem pc_ct {x : Int32} {p : Nat → Bool} {n : Nat} (hn : n ≤ 32) (h1 : ∀ q, q < n → bi x q = p q) (h2 : ∀ q, n ≤ q → q < 32 → bi x q = false) : pc x = fb_ct p n := by
  unfold pc
  rw [show (32 : Nat) = n + (32 - n) by omega, ct_split, ct_congr h1, ct_zero (fun k hk => h2 (n + k) (by omega) (by omega)), Nat.add_zero]
theorem inq_inc (a set : Int32) : decide (a &&& (set ^^^ (-1)) = 0) = decide (set &&& a = a) := by
  have : a &&& (set ^^^ (-1)) = 0 ↔ set &&& a = a := by
    constructor
    · intro h
      refine bi_ext (fun i hi => ?_)
      have h1 := congrArg (fun x => bi x i) h
      simp only [bi_and, bi_not, bi_0, decide_eq_true hi, Bool.true_and] at h1
      rw [bi_and]
      cases ha : bi a i <;> cases hs : bi set i <;> rw [ha, hs] at h1 <;> simp_all
    · intro h
      refine bi_z (fun i hi => ?_)
      have h1 := congrArg (fun x => bi x i) h
      simp only [bi_and] at h1
      rw [bi_and, bi_not, decide_eq_true hi, Bool.true_and]
      cases ha : bi a i <;> cases hs : bi set i <;> rw [ha, hs] at h1 <;> simp_all
  by_cases h : a &&& (set ^^^ (-1)) = 0
  · rw [decide_eq_true h, decide_eq_true (this.mp h)]
  · rw [decide_eq_false h, decide_eq_false (fun q => h (this.mpr q))]
theorem bi_csq (C : Int32) (os : Nat → Int32) (q : Nat) : bi (csq C os 3) q = (lies C (nI 1) && bi (os 1) q || lies C (nI 2) && bi (os 2) q || lies C (nI 3) && bi (os 3) q) := by
  have step : ∀ n, bi (csq C os (n + 1)) q = (bi (csq C os n) q || lies C (nI (n + 1)) && bi (os (n + 1)) q) := by
    intro n
    rw [csq_s]
    by_cases h : (C >>> (nI (n + 1) &&& 31)) &&& 1 = 0
    · rw [decide_eq_true h, if_pos rfl, lies_f h]; simp
    · rw [decide_eq_false h, if_neg (by decide), lies_t h, bi_or]; simp
  rw [step 2, step 1, step 0, show csq C os 0 = 0 from rfl, bi_0, Bool.false_or]
theorem bi_cs {w h : Nat} {M : Mm} (hg : GrI w h M) (hf : GF w h) (C : Int32) {q : Nat} (hq : q < 32) : bi (csq C (M 6) 3) q = (decide (q < sqN w h) && lies C (szF w h q)) := by
  rw [bi_csq, hg.2.2.2.1 1 (by decide) (by decide), hg.2.2.2.1 2 (by decide) (by decide), hg.2.2.2.1 3 (by decide) (by decide), hf.2.2.2.2.1 1 (by decide) (by decide) q hq, hf.2.2.2.2.1 2 (by decide) (by decide) q hq, hf.2.2.2.2.1 3 (by decide) (by decide) q hq]
  by_cases hs : q < sqN w h
  · obtain ⟨s, s1, s2, s3⟩ := hf.2.2.2.1 q hs
    rw [decide_eq_true hs, s3]
    rcases (show s = 1 ∨ s = 2 ∨ s = 3 by omega) with rfl | rfl | rfl
    · simp [show nI 1 ≠ nI 2 by decide, show nI 1 ≠ nI 3 by decide]
    · simp [show nI 2 ≠ nI 1 by decide, show nI 2 ≠ nI 3 by decide]
    · simp [show nI 3 ≠ nI 1 by decide, show nI 3 ≠ nI 2 by decide]
  · rw [decide_eq_false hs]; simp
theorem bi_ls {w h : Nat} {M : Mm} (hg : GrI w h M) (hf : GF w h) (C set : Int32) {q : Nat} (hq : q < 32) : bi (lsq C (M 6) (M 5) (sqN w h) set) q = (decide (q < sqN w h) && (lies C (szF w h q) && inq (rmF w h) set q)) := by
  have h20 := hf.1
  unfold lsq
  rw [bi_and, bi_orb _ (by omega), bi_cs hg hf C hq]
  by_cases hs : q < sqN w h
  · rw [decide_eq_true hs]
    unfold inc inq
    rw [(hg.2.2.1 q hs).1.2.2.2, inq_inc]
    simp only [Bool.true_and]
    rw [Bool.and_comm]
  · rw [decide_eq_false hs]; simp
theorem cntq_lies (C : Int32) (sz : Nat → Int32) (q : Nat) : cntq C sz q = lies C (sz q) := rfl
theorem Lf_F {w h : Nat} {M : Mm} (hg : GrI w h M) (C set : Int32) : Lf C (M 51) (M 54) set (sqN w h) = Lf C (szF w h) (rmF w h) set (sqN w h) := by
  unfold Lf
  refine fld_congr (fun q x hq => ?_)
  have h1 := (hg.2.2.1 q hq).2
  unfold cntq inq
  rw [h1.1, h1.2.2.2]
theorem left_b {w h : Nat} {M : Mm} (hg : GrI w h M) (hf : GF w h) (C set : Int32) : Lf C (M 51) (M 54) set (sqN w h) = bcE (lsq C (M 6) (M 5) (sqN w h) set) := by
  have h20 := hf.1
  rw [Lf_F hg, Lf_ct, bcE_pc]
  congr 1
  refine (pc_ct (by omega) (fun q hq => ?_) (fun q h1 h2 => ?_)).symm
  · rw [bi_ls hg hf C set (by omega), decide_eq_true hq, Bool.true_and]; rfl
  · rw [bi_ls hg hf C set h2, decide_eq_false (by omega), Bool.false_and]
theorem Wh_ct (sz rm : Nat → Int32) (size set : Int32) : ∀ n, Wh sz rm size set n = nI (fb_ct (fun q => decide (sz q = size) && inq rm set q) n)
  | 0 => rfl
  | n + 1 => by
    rw [show Wh sz rm size set (n + 1) = Wh sz rm size set n + b2i (decide (sz n = size) && inq rm set n) from rfl, Wh_ct sz rm size set n, fb_ct_succ]
    cases (decide (sz n = size) && inq rm set n)
    · exact Int32.add_zero _
    · exact nI_1 _
theorem whole_b {w h : Nat} {M : Mm} (hg : GrI w h M) (hf : GF w h) {s : Nat} (s1 : 1 ≤ s) (s2 : s ≤ 3) (set : Int32) : Wh (M 51) (M 54) (nI s) set (sqN w h) = bcE (orb (inc (M 5) set) (sqN w h) &&& M 6 s) := by
  have h20 := hf.1
  rw [Wh_ct, bcE_pc]
  congr 1
  have hb : ∀ q, q < 32 → bi (orb (inc (M 5) set) (sqN w h) &&& M 6 s) q = (decide (q < sqN w h) && (decide (szF w h q = nI s) && inq (rmF w h) set q)) := by
    intro q hq
    rw [bi_and, bi_orb _ (by omega), hg.2.2.2.1 s s1 s2, hf.2.2.2.2.1 s s1 s2 q hq]
    by_cases hs : q < sqN w h
    · rw [decide_eq_true hs]
      unfold inc inq
      rw [(hg.2.2.1 q hs).1.2.2.2, inq_inc]
      simp only [Bool.true_and]
      rw [Bool.and_comm]
    · rw [decide_eq_false hs]; simp
  refine (pc_ct (by omega) (fun q hq => ?_) (fun q h1 h2 => ?_)).symm
  · rw [hb q (by omega), decide_eq_true hq, Bool.true_and]
    have h1 := (hg.2.2.1 q hq).2
    unfold inq
    rw [h1.1, h1.2.2.2]
  · rw [hb q h2, decide_eq_false (by omega), Bool.false_and]
