/-! ===== text: costs told, the squares ===== -/
def wC (D : Dr) : Prop := ∀ k, D.2.2.1 k = 0 ∨ ∃ c, 1 ≤ c ∧ c ≤ 9 ∧ D.2.2.1 k = nI c
theorem lnK_c {t : Nat → Int32} {n s k s' : Nat} {D D' : Dr} (hw : wC D) (h : lnK t n k D s = .inr (D', s')) : wC D' := by
  unfold lnK at h
  split at h
  · unfold lkG at h
    split at h
    · cases h
    · split at h
      · cases h
      · injection h with h; injection h with h3 h4; subst h3; exact hw
  · split at h
    · unfold lkO at h
      split at h
      · cases h
      · injection h with h; injection h with h3 h4; subst h3; exact hw
    · split at h
      · unfold lkC at h
        split at h
        · cases h
        · split at h
          · split at h
            · cases h
            · rename_i hN2
              injection h with h; injection h with h3 h4; subst h3
              obtain ⟨c, c1, c2, c3⟩ := rg_nat (a := 1) (b := 9) (by decide) (by decide) (numA_r hN2).2.1
              intro j
              show upd D.2.2.1 _ _ j = 0 ∨ ∃ c, 1 ≤ c ∧ c ≤ 9 ∧ upd D.2.2.1 _ _ j = nI c
              unfold upd
              split
              · exact Or.inr ⟨c, c1, c2, c3⟩
              · exact hw j
          · cases h
      · split at h
        · unfold lkZ at h
          split at h
          · cases h
          · injection h with h; injection h with h3 h4; subst h3; exact hw
        · unfold lkS4 at h
          split at h
          · cases h
          · split at h
            · split at h
              · cases h
              · injection h with h; injection h with h3 h4; subst h3; exact hw
            · cases h
theorem lne_c {t : Nat → Int32} {n s s' : Nat} {D D' : Dr} (hw : wC D) (h : lne t n D s = .inr (D', s')) : wC D' := by
  unfold lne at h
  split at h
  · split at h
    · cases h
    · split at h
      · cases h
      · split at h
        · cases h
        · rename_i hL
          split at h
          · injection h with h; injection h with h3 h4; subst h3; exact lnK_c hw hL
          · cases h
  · cases h
theorem lns_c {t : Nat → Int32} {n : Nat} : ∀ (f : Nat) (D : Dr) (k s : Nat) {k' s' : Nat} {D' : Dr}, wC D → lns t n f D k s = .inr (k', D', s') → wC D'
  | 0, _, _, _, _, _, _, _, h => by cases h
  | f + 1, D, k, s, k', s', D', hw, h => by
    unfold lns at h
    split at h
    · injection h with h; injection h with h1 h2; injection h2 with h2 h3; subst h2; exact hw
    · split at h
      · cases h
      · rename_i hL
        exact lns_c f _ _ _ (lne_c hw hL) h
theorem finA_c {t : Nat → Int32} {n k : Nat} {D : Dr} (h : finA t n = .inr (k, D)) : wC D := by
  unfold finA finE at h
  split at h
  · cases h
  · rename_i hL
    split at h
    · injection h with h; injection h with h1 h2; subst h2
      exact lns_c _ _ _ _ (fun k => Or.inl rfl) hL
    · cases h
/-! what the squares and the turns are does not hang on what lay there before -/
def Gm (Q : Nat → Prop) (x y : Gx) : Prop := x.1 = y.1 ∧ ∀ s, Q s → x.2 s = y.2 s
theorem gA_m {Q : Nat → Prop} {x y : Gx} {s : Nat} (hs : Q s) (h : Gm Q x y) (r c : Nat) : Gm Q (gA s r x c) (gA s r y c) := by
  refine ⟨by unfold gA; rw [h.1], fun j hj => ?_⟩
  show upd x.2 s (x.2 s ||| b1 x.1.length) j = upd y.2 s (y.2 s ||| b1 y.1.length) j
  unfold upd
  rw [h.1, h.2 s hs, h.2 j hj]
theorem gC_m {Q : Nat → Prop} {x y : Gx} {s : Nat} (hs : Q s) (h : Gm Q x y) (r : Nat) : ∀ c, Gm Q (gC s r x c) (gC s r y c)
  | 0 => h
  | c + 1 => gA_m hs (gC_m hs h r c) r c
theorem gR_m {Q : Nat → Prop} {x y : Gx} {s : Nat} (hs : Q s) (h : Gm Q x y) (w : Nat) : ∀ r, Gm Q (gR s w x r) (gR s w y r)
  | 0 => h
  | r + 1 => gC_m hs (gR_m hs h w r) r _
theorem gS_m (w h : Nat) (a b : Nat → Int32) : ∀ k, Gm (fun s => 1 ≤ s ∧ s ≤ k) (gS w h ([], a) k) (gS w h ([], b) k)
  | 0 => ⟨rfl, fun s hs => absurd hs (by omega)⟩
  | k + 1 => by
    have ih := gS_m w h a b k
    rw [gS_s, gS_s]
    refine gR_m (Q := fun s => 1 ≤ s ∧ s ≤ k + 1) (x := ((gS w h ([], a) k).1, upd (gS w h ([], a) k).2 (k + 1) 0)) (y := ((gS w h ([], b) k).1, upd (gS w h ([], b) k).2 (k + 1) 0)) (s := k + 1) ⟨by omega, Nat.le_refl _⟩ ⟨ih.1, fun s hs => ?_⟩ w _
    show upd (gS w h ([], a) k).2 (k + 1) 0 s = upd (gS w h ([], b) k).2 (k + 1) 0 s
    unfold upd
    by_cases e : s = k + 1
    · rw [if_pos e, if_pos e]
    · rw [if_neg e, if_neg e]; exact ih.2 s ⟨hs.1, by omega⟩
def Tm (q : Nat → Bool) (x y : T3) : Prop := ∀ m, q m = true → x.1 m = y.1 m ∧ x.2.1 m = y.2.1 m ∧ x.2.2 m = y.2.2 m
def wrA (w r c : Nat) (q : Nat → Bool) (m : Nat) : Bool := (decide (c < w) && decide (m = aN w r c)) || q m
def wrB (w h r c : Nat) (q : Nat → Bool) (m : Nat) : Bool := (decide (r < h) && decide (m = sN w h r c)) || q m
def wrC (w h r : Nat) (q : Nat → Bool) : Nat → Nat → Bool
  | 0 => q
  | c + 1 => wrB w h r c (wrA w r c (wrC w h r q c))
def wrR (w h : Nat) (q : Nat → Bool) : Nat → Nat → Bool
  | 0 => q
  | r + 1 => wrC w h r (wrR w h q r) (w + 1)
theorem tpA_m {w h r c : Nat} {q : Nat → Bool} {x y : T3} (hT : Tm q x y) : Tm (wrA w r c q) (tpA w h r c x) (tpA w h r c y) := by
  intro m hm
  unfold wrA at hm
  unfold tpA
  by_cases hc : c < w
  · rw [if_pos hc, if_pos hc]
    show upd x.1 _ _ m = upd y.1 _ _ m ∧ upd x.2.1 _ _ m = upd y.2.1 _ _ m ∧ upd x.2.2 _ _ m = upd y.2.2 _ _ m
    unfold upd
    by_cases e : m = aN w r c
    · simp only [if_pos e, and_self]
    · rw [decide_eq_false e, Bool.and_false, Bool.false_or] at hm
      simp only [if_neg e]
      exact hT m hm
  · rw [if_neg hc, if_neg hc]
    rw [decide_eq_false hc, Bool.false_and, Bool.false_or] at hm
    exact hT m hm
theorem tpB_m {w h r c : Nat} {q : Nat → Bool} {x y : T3} (hT : Tm q x y) : Tm (wrB w h r c q) (tpB w h r c x) (tpB w h r c y) := by
  intro m hm
  unfold wrB at hm
  unfold tpB
  by_cases hc : r < h
  · rw [if_pos hc, if_pos hc]
    show upd x.1 _ _ m = upd y.1 _ _ m ∧ upd x.2.1 _ _ m = upd y.2.1 _ _ m ∧ upd x.2.2 _ _ m = upd y.2.2 _ _ m
    unfold upd
    by_cases e : m = sN w h r c
    · simp only [if_pos e, and_self]
    · rw [decide_eq_false e, Bool.and_false, Bool.false_or] at hm
      simp only [if_neg e]
      exact hT m hm
  · rw [if_neg hc, if_neg hc]
    rw [decide_eq_false hc, Bool.false_and, Bool.false_or] at hm
    exact hT m hm
theorem tpC_m {w h r : Nat} {q : Nat → Bool} {x y : T3} (hT : Tm q x y) : ∀ c, Tm (wrC w h r q c) (tpC w h r x c) (tpC w h r y c)
  | 0 => hT
  | c + 1 => tpB_m (tpA_m (tpC_m hT c))
theorem tpR_m {w h : Nat} {q : Nat → Bool} {x y : T3} (hT : Tm q x y) : ∀ r, Tm (wrR w h q r) (tpR w h x r) (tpR w h y r)
  | 0 => hT
  | r + 1 => tpC_m (tpR_m hT r) (w + 1)
theorem wr_ok {w h : Nat} (hw : 1 ≤ w ∧ w ≤ 4 ∧ 1 ≤ h ∧ h ≤ 3) : (List.range (mtN w h)).all (wrR w h (fun _ => false) (h + 1)) = true := gr_all (P := fun w h => (List.range (mtN w h)).all (wrR w h (fun _ => false) (h + 1)) = true) (by decide +kernel) (by decide +kernel) (by decide +kernel) (by decide +kernel) (by decide +kernel) (by decide +kernel) (by decide +kernel) (by decide +kernel) (by decide +kernel) (by decide +kernel) (by decide +kernel) (by decide +kernel) hw
theorem tpR_tr {w h : Nat} (hw : 1 ≤ w ∧ w ≤ 4 ∧ 1 ≤ h ∧ h ≤ 3) (x : T3) {m : Nat} (hm : m < mtN w h) : (tpR w h x (h + 1)).1 m = (trF w h).1 m ∧ (tpR w h x (h + 1)).2.1 m = (trF w h).2.1 m ∧ (tpR w h x (h + 1)).2.2 m = (trF w h).2.2 m :=
  tpR_m (q := fun _ => false) (x := x) (y := ((fun _ => 0), (fun _ => 0), (fun _ => 0))) (fun m hm => absurd (show false = true from hm) (by decide)) (h + 1) m (List.all_eq_true.mp (wr_ok hw) m (List.mem_range.mpr hm))
