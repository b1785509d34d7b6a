/-! ===== calls: riddle ===== -/
def pr (T R : List Int32) : List (Int32 × Int32) := T.flatMap (fun t => R.map (fun s => (t, s)))
theorem pr_cons (t : Int32) (T R : List Int32) : pr (t :: T) R = R.map (fun s => (t, s)) ++ pr T R := List.flatMap_cons ..
theorem pr_fold {β : Type} (f : Int32 → β → Int32 → β) (R : List Int32) : ∀ (T : List Int32) (a : β), T.foldl (fun acc t => R.foldl (f t) acc) a = (pr T R).foldl (fun acc p => f p.1 acc p.2) a
  | [], a => rfl
  | t :: T, a => by
    rw [List.foldl_cons, pr_fold f R T, pr_cons, List.foldl_append, List.foldl_map]
theorem pr_permR {R R' : List Int32} (h : R.Perm R') : ∀ T, (pr T R).Perm (pr T R')
  | [] => List.Perm.refl _
  | t :: T => by rw [pr_cons, pr_cons]; exact (h.map _).append (pr_permR h T)
theorem pr_permT {T T' : List Int32} (R : List Int32) (h : T.Perm T') : (pr T R).Perm (pr T' R) := by
  induction h with
  | nil => exact List.Perm.refl _
  | cons x _ ih => rw [pr_cons, pr_cons]; exact List.Perm.append_left _ ih
  | swap x y l =>
    rw [pr_cons, pr_cons, pr_cons, pr_cons, ← List.append_assoc, ← List.append_assoc]
    exact List.Perm.append_right _ List.perm_append_comm
  | trans _ _ i1 i2 => exact i1.trans i2
theorem pr_len (R : List Int32) : ∀ T, (pr T R).length = T.length * R.length
  | [] => by rw [List.length_nil, Nat.zero_mul]; rfl
  | t :: T => by rw [pr_cons, List.length_append, List.length_map, pr_len R T, List.length_cons, Nat.succ_mul, Nat.add_comm]
theorem pr_mem {T R : List Int32} {p : Int32 × Int32} (h : p ∈ pr T R) : p.1 ∈ T ∧ p.2 ∈ R := by
  obtain ⟨t, h1, h2⟩ := List.mem_flatMap.mp h
  obtain ⟨s, h3, rfl⟩ := List.mem_map.mp h2
  exact ⟨h1, h3⟩
def Kp (p : Int32 × Int32) : Int := p.1.toInt * 2 ^ 33 + p.2.toInt
theorem Kp_lex (p q : Int32 × Int32) : (decide (p.1 < q.1) || (decide (p.1 = q.1) && decide (p.2 < q.2))) = decide (Kp p < Kp q) := by
  have a1 := Int32.le_toInt p.2
  have a2 := Int32.toInt_lt p.2
  have a3 := Int32.le_toInt q.2
  have a4 := Int32.toInt_lt q.2
  have e : p.1 = q.1 ↔ p.1.toInt = q.1.toInt := ⟨fun h => by rw [h], Int32.toInt_inj.mp⟩
  have : (p.1 < q.1 ∨ (p.1 = q.1 ∧ p.2 < q.2)) ↔ Kp p < Kp q := by
    rw [fa_lt, fa_lt, e]
    unfold Kp
    omega
  by_cases h : Kp p < Kp q
  · rw [decide_eq_true h]
    rcases this.mpr h with h1 | ⟨h1, h2⟩
    · rw [decide_eq_true h1]; rfl
    · rw [decide_eq_true h1, decide_eq_true h2]; simp
  · rw [decide_eq_false h, decide_eq_false (fun h1 => h (this.mp (Or.inl h1))), Bool.false_or]
    by_cases h1 : p.1 = q.1
    · rw [decide_eq_false (fun h2 => h (this.mp (Or.inr ⟨h1, h2⟩))), Bool.and_false]
    · rw [decide_eq_false h1]; rfl
def mk (m p : Int32 × Int32) : Int32 × Int32 := if decide (Kp p < Kp m) then p else m
theorem mk_le : ∀ (l : List (Int32 × Int32)) (m : Int32 × Int32), (l.foldl mk m ∈ m :: l) ∧ ∀ x, x ∈ m :: l → Kp (l.foldl mk m) ≤ Kp x
  | [], m => ⟨List.mem_singleton.mpr rfl, fun x hx => by rw [List.mem_singleton.mp hx]; exact Int.le_refl _⟩
  | a :: l, m => by
    have h := mk_le l (mk m a)
    show ((l.foldl mk (mk m a)) ∈ m :: a :: l) ∧ ∀ x, x ∈ m :: a :: l → Kp (l.foldl mk (mk m a)) ≤ Kp x
    have h0 := h.2 (mk m a) (List.mem_cons_self ..)
    have hm : (mk m a = m ∧ Kp m ≤ Kp a) ∨ (mk m a = a ∧ Kp a ≤ Kp m) := by
      unfold mk
      by_cases q : Kp a < Kp m
      · exact Or.inr ⟨if_pos (decide_eq_true q), by omega⟩
      · exact Or.inl ⟨if_neg (by rw [decide_eq_true_eq]; exact q), by omega⟩
    refine ⟨?_, fun x hx => ?_⟩
    · rcases List.mem_cons.mp h.1 with e | e
      · rw [e]; rcases hm with ⟨e, -⟩ | ⟨e, -⟩ <;> rw [e] <;> simp
      · exact List.mem_cons_of_mem _ (List.mem_cons_of_mem _ e)
    · have h1 : Kp (l.foldl mk (mk m a)) ≤ Kp m ∧ Kp (l.foldl mk (mk m a)) ≤ Kp a := by
        rcases hm with ⟨e, q⟩ | ⟨e, q⟩ <;> rw [e] at h0 ⊢ <;> omega
      rcases List.mem_cons.mp hx with e | hx
      · rw [e]; exact h1.1
      · rcases List.mem_cons.mp hx with e | hx
        · rw [e]; exact h1.2
        · exact h.2 x (List.mem_cons_of_mem _ hx)
def rst (acc : Int32 × Int32 × Int32) (p : Int32 × Int32) : Int32 × Int32 × Int32 := (acc.1 + 1, if ris acc p.1 p.2 then p.1 else acc.2.1, if ris acc p.1 p.2 then p.2 else acc.2.2)
theorem r_fold : ∀ (l : List (Int32 × Int32)) (c : Nat) (m : Int32 × Int32), 1 ≤ c → c + l.length < 2 ^ 31 → l.foldl rst (nI c, m) = (nI (c + l.length), l.foldl mk m)
  | [], c, m, _, _ => rfl
  | a :: l, c, m, h1, h2 => by
    rw [List.length_cons] at h2
    have e : rst (nI c, m) a = (nI (c + 1), mk m a) := by
      unfold rst mk ris
      simp only [decide_eq_false (nI_ne0 h1 (by omega)), Bool.false_or]
      rw [Kp_lex a m, ← nI_1]
      cases decide (Kp a < Kp m) <;> rfl
    rw [List.foldl_cons, e, r_fold l (c + 1) _ (by omega) (by omega), List.length_cons, show c + 1 + l.length = c + (l.length + 1) by omega]
    rfl
theorem v_fold : ∀ (l : List (Int32 × Int32)) (c : Nat) (m : Int32 × Int32), 1 ≤ c → c + l.length < 2 ^ 31 → l.foldl (fun acc p => mvs acc p.1 p.2) (nI c, m) = (nI (c + l.length), m)
  | [], c, m, _, _ => rfl
  | a :: l, c, m, h1, h2 => by
    rw [List.length_cons] at h2
    have e : mvs (nI c, m) a.1 a.2 = (nI (c + 1), m) := by
      unfold mvs
      simp only [decide_eq_false (nI_ne0 h1 (by omega))]
      rw [← nI_1]
      rfl
    rw [List.foldl_cons, e, v_fold l (c + 1) _ (by omega) (by omega), List.length_cons, show c + 1 + l.length = c + (l.length + 1) by omega]
theorem two_pairs {A B : List (Int32 × Int32)} {a1 a2 x : Int32} (hp : A.Perm B) (hs : A.Pairwise (fun p q => Kp p < Kp q)) (hl : A.length < 2 ^ 31) : vRid (B.foldl rst (0, -4, -4)) x = vRidC (A.foldl (fun acc p => mvs acc p.1 p.2) (0, a1, a2)) x := by
  have hlen := hp.length_eq
  match hB : B, hA : A with
  | [], [] =>
    unfold vRid vRidC
    show (if decide (x = 0) then (0 : Int32) else if decide (x = 1) then -4 else -4) = if decide (x = 0) then (0 : Int32) else if decide ((0 : Int32) = 0) then -4 else if decide (x = 1) then a1 else a2
    rw [decide_eq_true (rfl : (0 : Int32) = 0)]
    cases decide (x = 0) <;> cases decide (x = 1) <;> rfl
  | [], a :: A' => simp at hlen
  | b :: B', [] => simp at hlen
  | b :: B', a :: A' =>
    rw [List.length_cons, List.length_cons] at hlen
    rw [List.length_cons] at hl
    have e : (b :: B').foldl rst (0, -4, -4) = (nI (1 + B'.length), B'.foldl mk b) := r_fold B' 1 b (by omega) (by omega)
    have e2 : (a :: A').foldl (fun acc p => mvs acc p.1 p.2) (0, a1, a2) = (nI (1 + A'.length), a) := v_fold A' 1 a (by omega) (by omega)
    have hk : B'.foldl mk b = a := by
      have hm := mk_le B' b
      have h1 : B'.foldl mk b ∈ a :: A' := hp.mem_iff.mpr hm.1
      have h2 := hm.2 a (hp.mem_iff.mp (List.mem_cons_self ..))
      rcases List.mem_cons.mp h1 with h | h
      · exact h
      · have := List.rel_of_pairwise_cons hs h
        omega
    rw [e, e2, hk, show B'.length = A'.length by omega]
    unfold vRid vRidC
    rw [decide_eq_false (nI_ne0 (show 0 < 1 + A'.length by omega) (by omega))]
    rfl
theorem ls1_perm (L : Int32) : ∀ k, k ≤ 31 → (ls1 L k).Perm (Sx (el L k) 1 0)
  | 0, _ => List.Perm.refl _
  | k + 1, h => by
    rw [ls1_s, el_s, and_b1 L (by omega), lies_bi L (by omega)]
    cases bi L k with
    | false => exact ls1_perm L k (by omega)
    | true =>
      show (ls1 L k ++ [b1 k]).Perm (Sx (el L k) 0 (0 ||| b1 k) ++ Sx (el L k) 1 0)
      rw [Sx_0, Int32.zero_or]
      exact ((ls1_perm L k (by omega)).append_right _).trans List.perm_append_comm
theorem lsI_perm (L : Int32) (h : Nat) : ∀ j, (lsI L h j).Perm (Sx (el L j) 1 (b1 h))
  | 0 => List.Perm.refl _
  | j + 1 => by
    rw [lsI_s, el_s]
    cases lies L (nI j) with
    | false => exact lsI_perm L h j
    | true =>
      show (lsI L h j ++ [b1 h ||| b1 j]).Perm (Sx (el L j) 0 (b1 h ||| b1 j) ++ Sx (el L j) 1 (b1 h))
      rw [Sx_0]
      exact ((lsI_perm L h j).append_right _).trans List.perm_append_comm
theorem ls2_perm (L : Int32) : ∀ k, k ≤ 31 → (ls2 L k).Perm (Sx (el L k) 2 0)
  | 0, _ => List.Perm.refl _
  | k + 1, h => by
    rw [ls2_s, el_s, and_b1 L (by omega), lies_bi L (by omega)]
    cases bi L k with
    | false => exact ls2_perm L k (by omega)
    | true =>
      show (ls2 L k ++ lsI L k k).Perm (Sx (el L k) 1 (0 ||| b1 k) ++ Sx (el L k) 2 0)
      rw [Int32.zero_or]
      exact ((ls2_perm L k (by omega)).append (lsI_perm L k k)).trans List.perm_append_comm
theorem lsn_perm (L : Int32) {n : Nat} (h1 : 1 ≤ n) (h2 : n ≤ 2) : (lsn L n).Perm (Sx (el L 31) n 0) := by
  unfold lsn
  rcases (show n = 1 ∨ n = 2 by omega) with rfl | rfl
  · exact ls1_perm L 31 (by omega)
  · exact ls2_perm L 31 (by omega)
theorem el_hi {L : Int32} {mt : Nat} (hL : ∀ i, bi L i = true → i < mt) : ∀ d, mt + d ≤ 32 → el L (mt + d) = el L mt
  | 0, _ => rfl
  | d + 1, h => by
    show el L (mt + d + 1) = _
    rw [el_s, lies_bi L (by omega)]
    cases hb : bi L (mt + d) with
    | false => exact el_hi hL d (by omega)
    | true => exact absurd (hL _ hb) (by omega)
theorem ls1_pw (L : Int32) : ∀ k, k ≤ 31 → (ls1 L k).Pairwise Lt ∧ ∀ x, x ∈ ls1 L k → ∀ j, k ≤ j → bi x j = false
  | 0, _ => ⟨List.Pairwise.nil, fun x h => nomatch h⟩
  | k + 1, h => by
    obtain ⟨i1, i2⟩ := ls1_pw L k (by omega)
    rw [ls1_s]
    split
    · exact ⟨i1, fun x hx j hj => i2 x hx j (by omega)⟩
    · refine ⟨List.pairwise_append.mpr ⟨i1, List.pairwise_singleton _ _, fun x hx y hy => ?_⟩, fun x hx j hj => ?_⟩
      · rw [List.mem_singleton.mp hy]
        exact ⟨k, by omega, i2 x hx k (by omega), by rw [bi_b1 (by omega)]; exact decide_eq_true rfl, fun j hj => by rw [i2 x hx j (by omega), bi_b1 (by omega)]; exact (decide_eq_false (by omega)).symm⟩
      · rcases List.mem_append.mp hx with hx | hx
        · exact i2 x hx j (by omega)
        · rw [List.mem_singleton.mp hx, bi_b1 (by omega)]; exact decide_eq_false (by omega)
theorem lsI_pw (L : Int32) {h : Nat} (hh : h < 31) : ∀ j, j ≤ h → (lsI L h j).Pairwise Lt ∧ ∀ x, x ∈ lsI L h j → ∀ i, j ≤ i → bi x i = decide (i = h)
  | 0, _ => ⟨List.Pairwise.nil, fun x h => nomatch h⟩
  | j + 1, hj => by
    obtain ⟨i1, i2⟩ := lsI_pw L hh j (by omega)
    rw [lsI_s]
    split
    · refine ⟨List.pairwise_append.mpr ⟨i1, List.pairwise_singleton _ _, fun x hx y hy => ?_⟩, fun x hx i hi => ?_⟩
      · rw [List.mem_singleton.mp hy]
        refine ⟨j, by omega, by rw [i2 x hx j (by omega)]; exact decide_eq_false (by omega), ?_, fun i hi => ?_⟩
        · rw [bi_or, bi_b1 (by omega), bi_b1 (by omega), decide_eq_true (rfl : j = j), Bool.or_true]
        · rw [i2 x hx i (by omega), bi_or, bi_b1 (by omega), bi_b1 (by omega), decide_eq_false (show ¬ i = j by omega), Bool.or_false]
      · rcases List.mem_append.mp hx with hx | hx
        · exact i2 x hx i (by omega)
        · rw [List.mem_singleton.mp hx, bi_or, bi_b1 (by omega), bi_b1 (by omega), decide_eq_false (show ¬ i = j by omega), Bool.or_false]
    · exact ⟨i1, fun x hx i hi => i2 x hx i (by omega)⟩
theorem ls2_pw (L : Int32) : ∀ k, k ≤ 31 → (ls2 L k).Pairwise Lt ∧ ∀ x, x ∈ ls2 L k → ∀ j, k ≤ j → bi x j = false
  | 0, _ => ⟨List.Pairwise.nil, fun x h => nomatch h⟩
  | k + 1, h => by
    obtain ⟨i1, i2⟩ := ls2_pw L k (by omega)
    obtain ⟨j1, j2⟩ := lsI_pw L (show k < 31 by omega) k (Nat.le_refl _)
    rw [ls2_s]
    split
    · exact ⟨i1, fun x hx j hj => i2 x hx j (by omega)⟩
    · refine ⟨List.pairwise_append.mpr ⟨i1, j1, fun x hx y hy => ?_⟩, fun x hx j hj => ?_⟩
      · exact ⟨k, by omega, i2 x hx k (by omega), by rw [j2 y hy k (by omega)]; exact decide_eq_true rfl, fun j hj => by rw [i2 x hx j (by omega), j2 y hy j (by omega)]; exact (decide_eq_false (by omega)).symm⟩
      · rcases List.mem_append.mp hx with hx | hx
        · exact i2 x hx j (by omega)
        · rw [j2 x hx j (by omega)]; exact decide_eq_false (by omega)
theorem lsn_pw (L : Int32) (n : Nat) : (lsn L n).Pairwise Lt ∧ ∀ x, x ∈ lsn L n → bi x 31 = false := by
  unfold lsn
  split
  · exact ⟨(ls1_pw L 31 (by omega)).1, fun x hx => (ls1_pw L 31 (by omega)).2 x hx 31 (by omega)⟩
  · exact ⟨(ls2_pw L 31 (by omega)).1, fun x hx => (ls2_pw L 31 (by omega)).2 x hx 31 (by omega)⟩
theorem Sx_sub : ∀ (l : List Int32) (n : Nat) (s x : Int32), x ∈ Sx l n s → ∀ i, bi x i = true → bi s i = true ∨ ∃ y, y ∈ l ∧ bi y i = true
  | l, 0, s, x, hx, i, hi => by rw [Sx_0] at hx; rw [List.mem_singleton.mp hx] at hi; exact Or.inl hi
  | [], n + 1, s, x, hx, _, _ => by cases hx
  | a :: l, n + 1, s, x, hx, i, hi => by
    rcases List.mem_append.mp hx with hx | hx
    · rcases Sx_sub l n _ x hx i hi with h | ⟨y, h1, h2⟩
      · rw [bi_or, Bool.or_eq_true] at h
        rcases h with h | h
        · exact Or.inl h
        · exact Or.inr ⟨a, List.mem_cons_self .., h⟩
      · exact Or.inr ⟨y, List.mem_cons_of_mem _ h1, h2⟩
    · rcases Sx_sub l (n + 1) s x hx i hi with h | ⟨y, h1, h2⟩
      · exact Or.inl h
      · exact Or.inr ⟨y, List.mem_cons_of_mem _ h1, h2⟩
theorem el_mem (L : Int32) : ∀ n, n ≤ 32 → ∀ y, y ∈ el L n → ∀ i, bi y i = true → bi L i = true
  | 0, _, y, h, _, _ => nomatch h
  | n + 1, hn, y, h, i, hi => by
    rw [el_s, lies_bi L (by omega)] at h
    cases hb : bi L n with
    | false => rw [hb] at h; exact el_mem L n (by omega) y h i hi
    | true =>
      rw [hb, if_pos rfl] at h
      rcases List.mem_cons.mp h with e | h
      · rw [e, bi_b1 (by omega)] at hi
        rw [of_decide_eq_true hi]; exact hb
      · exact el_mem L n (by omega) y h i hi
theorem Sx_in {L : Int32} {k n : Nat} (hk : k ≤ 32) {x : Int32} (hx : x ∈ Sx (el L k) n 0) : ∀ i, bi x i = true → bi L i = true := by
  intro i hi
  rcases Sx_sub _ _ _ _ hx i hi with h | ⟨y, h1, h2⟩
  · rw [bi_0] at h; cases h
  · exact el_mem L k hk y h1 i h2
theorem al_alo : ∀ mt, mt < 32 → al mt = alo mt := by decide +kernel
theorem inc_both (rm : Nat → Int32) (a b : Int32) (q : Nat) : inc rm (a &&& b) q = (inc rm a q && inc rm b q) := by
  have e : (a &&& b) &&& rm q = rm q ↔ (a &&& rm q = rm q ∧ b &&& rm q = rm q) := by
    constructor
    · intro h
      have h1 : ∀ i, ((bi a i && bi b i) && bi (rm q) i) = bi (rm q) i := fun i => by
        have := congrArg (fun y => bi y i) h
        simp only [bi_and] at this
        exact this
      refine ⟨bi_ext (fun i hi => ?_), bi_ext (fun i hi => ?_)⟩
      · have := h1 i
        rw [bi_and]
        cases hl : bi a i <;> cases hs : bi b i <;> cases hr : bi (rm q) i <;> rw [hl, hs, hr] at this <;> simp_all
      · have := h1 i
        rw [bi_and]
        cases hl : bi a i <;> cases hs : bi b i <;> cases hr : bi (rm q) i <;> rw [hl, hs, hr] at this <;> simp_all
    · rintro ⟨h1, h2⟩
      refine bi_ext (fun i hi => ?_)
      have a1 := congrArg (fun y => bi y i) h1
      have a2 := congrArg (fun y => bi y i) h2
      simp only [bi_and] at a1 a2
      rw [bi_and, bi_and]
      cases hl : bi a i <;> cases hs : bi b i <;> cases hr : bi (rm q) i <;> rw [hl, hr] at a1 <;> rw [hs, hr] at a2 <;> simp_all
  unfold inc
  by_cases h : (a &&& b) &&& rm q = rm q
  · rw [decide_eq_true h, decide_eq_true (e.mp h).1, decide_eq_true (e.mp h).2]; rfl
  · rw [decide_eq_false h]
    by_cases h1 : a &&& rm q = rm q
    · rw [decide_eq_true h1, decide_eq_false (fun h2 => h (e.mpr ⟨h1, h2⟩))]; rfl
    · rw [decide_eq_false h1]; rfl
theorem pr_pw {R : List Int32} (r1 : R.Pairwise Lt ∧ ∀ x, x ∈ R → bi x 31 = false) : ∀ {T : List Int32}, (T.Pairwise Lt ∧ ∀ x, x ∈ T → bi x 31 = false) → (pr T R).Pairwise (fun p q => Kp p < Kp q)
  | [], _ => List.Pairwise.nil
  | t :: T, ⟨t2, t3⟩ => by
    rw [pr_cons]
    refine List.pairwise_append.mpr ⟨List.pairwise_map.mpr (List.Pairwise.imp_of_mem (fun {s s'} hs hs' hl => ?_) r1.1), pr_pw r1 ⟨(List.pairwise_cons.mp t2).2, fun x hx => t3 x (List.mem_cons_of_mem _ hx)⟩, fun p hp q hq => ?_⟩
    · have := hl.lt (r1.2 s hs)
      rw [fa_lt] at this
      unfold Kp
      show t.toInt * 2 ^ 33 + s.toInt < t.toInt * 2 ^ 33 + s'.toInt
      omega
    · obtain ⟨s, hs, rfl⟩ := List.mem_map.mp hp
      have := (List.rel_of_pairwise_cons t2 (pr_mem hq).1).lt (t3 t (List.mem_cons_self ..))
      have k := Kp_lex (t, s) q
      rw [decide_eq_true this, Bool.true_or] at k
      exact of_decide_eq_true k.symm
/-- the set after a move, from the two sides -/
theorem mv_set {L t s a g : Int32} (hg : a &&& (L ^^^ (-1)) = g) (h1 : ∀ i, bi t i = true → bi L i = true) (h2 : ∀ i, bi s i = true → bi g i = true) (h3 : ∀ i, i < 32 → bi L i = true → bi a i = true) : (L ||| s) &&& (a &&& (t ^^^ (-1))) = (L &&& (t ^^^ (-1))) ||| s := by
  refine bi_ext (fun i hi => ?_)
  have c1 := h1 i
  have c2 := h2 i
  have c3 := h3 i hi
  rw [← hg, bi_and, bi_not, decide_eq_true hi, Bool.true_and] at c2
  rw [bi_and, bi_or, bi_and, bi_not, bi_or, bi_and, bi_not, decide_eq_true hi]
  cases e1 : bi L i <;> cases e2 : bi s i <;> cases e3 : bi t i <;> cases e4 : bi a i <;> rw [e1, e3] at c1 <;> rw [e1, e2, e4] at c2 <;> rw [e1, e4] at c3 <;> first | rfl | exact absurd (c1 rfl) (by decide) | exact absurd (c2 rfl) (by decide) | exact absurd (c3 rfl) (by decide)
theorem mv_left (rm : Nat → Int32) {sq : Nat} (h20 : sq ≤ 20) (a b cs : Int32) : (orb (inc rm a) sq &&& cs) &&& orb (inc rm b) sq = orb (inc rm (a &&& b)) sq &&& cs := by
  refine bi_ext (fun i hi => ?_)
  rw [bi_and, bi_and, bi_and, bi_orb _ (by omega), bi_orb _ (by omega), bi_orb _ (by omega), inc_both]
  cases decide (i < sq) <;> cases inc rm a i <;> cases bi cs i <;> cases inc rm b i <;> rfl
section RO
variable {Z : List (Option Nat)} {ext : List Ds} {M : Mm}
theorem op_riddle (hI : Inv Z ext M) (a k x : Int32) : OpI mX9_riddle mX10_riddle [.int a, .int k, .int x] Z ext M := by
  obtain ⟨w, h, n0, k0, k1, hw, hG, hT, hIm, hP, hS, hF1, hF2, hF3⟩ := id hI
  have hf := gf hw
  have hmb := hf.2.2.1
  cases hx : (rg a 1 2 && rg k 0 20 && rg x 0 2) with
  | false => exact op_pure hI (c_riddleX a k x hx) (c_m_riddleX a k x hx) rfl
  | true =>
    rw [Bool.and_eq_true, Bool.and_eq_true] at hx
    obtain ⟨⟨x1, x2⟩, x3⟩ := hx
    obtain ⟨n, hn1, hn2, rfl⟩ := rg_nat (x := a) (a := 1) (b := 2) (by decide) (by decide) x1
    have hal : ((1 : Int32) <<< (M 1 2 &&& 31)) - 1 = al (mtN w h) := by rw [hG.1.2.2.1]; rfl
    refine op_eq hI (c_riddle n k x hn1 hn2 x2 x3 hG.1.2.2.2 hf.1 hal) (fun M1 hI1 hE => ?_)
    obtain ⟨e49, e51, e54, e4, e5, -, -⟩ := eqm_rf hE
    have hr := c_m_riddle (Z := Z) (ext := ext) (M := M1) (mt := mtN w h) (sq := sqN w h) n k x hn1 hn2 x2 x3 (by rw [e4]; exact hG.2.1.2.2.1) hf.2.2.1 (by rw [e5]; exact hG.2.1.2.2.2) hf.1
    rw [e49, e51, e54, hT.1, show M 49 32 = M 10 1 from hT.2.1, ← al_alo _ (by omega)] at hr
    refine Ct.imp hr (fun r M' q => ⟨?_, q.2⟩)
    rw [q.1]
    refine oi ?_
    have hL := hT.2.2.2.2.1
    have bal : ∀ i, i < 32 → bi (al (mtN w h)) i = decide (i < mtN w h) := bi_al0 _ (by omega)
    have hgb : ∀ i, bi (al (mtN w h) &&& (M 10 0 ^^^ (-1))) i = true → i < mtN w h := by
      intro i hi
      rcases Nat.lt_or_ge i 32 with h | h
      · rw [bi_and, bal i h, Bool.and_eq_true] at hi; exact of_decide_eq_true hi.1
      · rw [bi_ge h] at hi; cases hi
    generalize hg : al (mtN w h) &&& (M 10 0 ^^^ (-1)) = g at *
    have hel : ∀ L : Int32, (∀ i, bi L i = true → i < mtN w h) → el L 31 = el L (mtN w h) := fun L hL => by
      have := el_hi hL (31 - mtN w h) (by omega)
      rw [show mtN w h + (31 - mtN w h) = 31 by omega] at this
      exact this
    have pT : ∀ f, (lsn (M 10 0) n).Perm (Lx (bo (fsR (M 10 0) f (mtN w h))) (fsC (M 10 0) (mtN w h)) n (fsC (M 10 0) (mtN w h)) 0) := fun f => by
      have := lsn_perm (M 10 0) hn1 hn2
      rw [hel _ hL] at this
      exact this.trans (Lx_el _ f _ n).symm
    have pR : ∀ f, (lsn g n).Perm (Lx (bo (fsR g f (mtN w h))) (fsC g (mtN w h)) n (fsC g (mtN w h)) 0) := fun f => by
      have := lsn_perm g hn1 hn2
      rw [hel _ hgb] at this
      exact this.trans (Lx_el _ f _ n).symm
    have pt := pT (M1 63)
    have pr' := pR (fsR (M 10 0) (M1 63) (mtN w h))
    have lenb : ∀ L, (lsn L n).length ≤ 1024 := fun L => by
      rw [(lsn_perm L hn1 hn2).length_eq]
      have h1 := Sx_len (el L 31) n 0
      rw [el_len] at h1
      have h2 := fsC_le L 31
      have h3 : (fsC L 31 + 1) ^ n ≤ 32 ^ n := Nat.pow_le_pow_left (by omega) n
      have h4 : 32 ^ n ≤ 32 ^ 2 := Nat.pow_le_pow_right (by decide) hn2
      have h5 : (32 : Nat) ^ 2 = 1024 := by decide
      omega
    generalize Lx (bo (fsR (M 10 0) (M1 63) (mtN w h))) (fsC (M 10 0) (mtN w h)) n (fsC (M 10 0) (mtN w h)) 0 = T' at pt ⊢
    generalize Lx (bo (fsR g (fsR (M 10 0) (M1 63) (mtN w h)) (mtN w h))) (fsC g (mtN w h)) n (fsC g (mtN w h)) 0 = R' at pr' ⊢
    have hQ : ∀ p, p ∈ pr (lsn (M 10 0) n) (lsn g n) → decide (bcE (whw (M 5) (sqN w h) (M 10 0) (csq (M 10 1) (M 6) 3) p.2 &&& orb (inc (M 5) (al (mtN w h) &&& (p.1 ^^^ (-1)))) (sqN w h)) = k) = decide (Lf (M 10 1) (M 51) (M 54) ((M 10 0 &&& (p.1 ^^^ (-1))) ||| p.2) (sqN w h) = k) := by
      intro p hp
      obtain ⟨m1, m2⟩ := pr_mem hp
      have s1 := Sx_in (by decide) ((lsn_perm (M 10 0) hn1 hn2).mem_iff.mp m1)
      have s2 := Sx_in (by decide) ((lsn_perm g hn1 hn2).mem_iff.mp m2)
      have es := mv_set hg s1 s2 (fun i hi h => by rw [bal i hi]; exact decide_eq_true (hL i h))
      rw [left_b hG hf]
      unfold whw lsq
      rw [mv_left _ hf.1, es]
    have eC : cAll (M 5) (sqN w h) (M 10 0) (csq (M 10 1) (M 6) 3) (al (mtN w h)) k (lsn (M 10 0) n) (lsn g n) (0, M 29 1, M 29 2) = ((pr (lsn (M 10 0) n) (lsn g n)).filter (fun p => decide (Lf (M 10 1) (M 51) (M 54) ((M 10 0 &&& (p.1 ^^^ (-1))) ||| p.2) (sqN w h) = k))).foldl (fun acc p => mvs acc p.1 p.2) (0, M 29 1, M 29 2) := by
      unfold cAll
      rw [pr_fold, List.foldl_filter]
      refine foldl_cg (fun p hp z => ?_)
      unfold cid
      rw [hQ p hp]
    have eR : rAll (M 10 1) (M 51) (M 54) (sqN w h) (M 10 0) k T' R' = ((pr T' R').filter (fun p => decide (Lf (M 10 1) (M 51) (M 54) ((M 10 0 &&& (p.1 ^^^ (-1))) ||| p.2) (sqN w h) = k))).foldl rst (0, -4, -4) := by
      unfold rAll
      rw [pr_fold, List.foldl_filter]
      rfl
    rw [eC, eR]
    have pp := pr_pw (lsn_pw g n) (lsn_pw (M 10 0) n)
    have hln := List.length_filter_le (fun p => decide (Lf (M 10 1) (M 51) (M 54) ((M 10 0 &&& (p.1 ^^^ (-1))) ||| p.2) (sqN w h) = k)) (pr (lsn (M 10 0) n) (lsn g n))
    rw [pr_len] at hln
    have hmul : (lsn (M 10 0) n).length * (lsn g n).length ≤ 1024 * 1024 := Nat.mul_le_mul (lenb _) (lenb _)
    exact two_pairs (((pr_permT _ pt).trans (pr_permR pr' T')).filter _) (pp.filter _) (by omega)
end RO
