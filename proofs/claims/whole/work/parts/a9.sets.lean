/-! ===== sets of n: the two orders ===== -/
def Sx : List Int32 → Nat → Int32 → List Int32
  | _, 0, s => [s]
  | [], _ + 1, _ => []
  | x :: l, n + 1, s => Sx l n (s ||| x) ++ Sx l (n + 1) s
theorem Sx_0 (l : List Int32) (s : Int32) : Sx l 0 s = [s] := by cases l <;> rfl
theorem or_ac (s x y : Int32) : s ||| x ||| y = s ||| y ||| x := bi_ext (fun i _ => by rw [bi_or, bi_or, bi_or, bi_or, Bool.or_assoc, Bool.or_comm (bi x i), ← Bool.or_assoc])
theorem Sx_perm {l l2 : List Int32} (h : l.Perm l2) : ∀ (n : Nat) (s : Int32), (Sx l n s).Perm (Sx l2 n s) := by
  induction h with
  | nil => exact fun _ _ => List.Perm.refl _
  | cons x _ ih =>
    intro n s
    cases n with
    | zero => rw [Sx_0, Sx_0]
    | succ n => exact (ih n _).append (ih (n + 1) s)
  | swap x y l =>
    intro n s
    match n with
    | 0 => rw [Sx_0, Sx_0]
    | 1 =>
      show (Sx (x :: l) 0 (s ||| y) ++ (Sx l 0 (s ||| x) ++ Sx l 1 s)).Perm (Sx (y :: l) 0 (s ||| x) ++ (Sx l 0 (s ||| y) ++ Sx l 1 s))
      rw [Sx_0, Sx_0, Sx_0, Sx_0]
      exact List.Perm.swap _ _ _
    | n + 2 =>
      show ((Sx l n (s ||| y ||| x) ++ Sx l (n + 1) (s ||| y)) ++ (Sx l (n + 1) (s ||| x) ++ Sx l (n + 2) s)).Perm ((Sx l n (s ||| x ||| y) ++ Sx l (n + 1) (s ||| x)) ++ (Sx l (n + 1) (s ||| y) ++ Sx l (n + 2) s))
      rw [or_ac s y x, List.append_assoc, List.append_assoc]
      refine List.Perm.append_left _ ?_
      rw [← List.append_assoc, ← List.append_assoc]
      exact List.Perm.append_right _ List.perm_append_comm
  | trans _ _ i1 i2 => exact fun n s => (i1 n s).trans (i2 n s)
theorem Sx_len : ∀ (l : List Int32) (n : Nat) (s : Int32), (Sx l n s).length ≤ (l.length + 1) ^ n
  | l, 0, s => by rw [Sx_0]; exact Nat.le_refl 1
  | [], n + 1, s => Nat.zero_le _
  | x :: l, n + 1, s => by
    show (Sx l n (s ||| x) ++ Sx l (n + 1) s).length ≤ (l.length + 1 + 1) ^ (n + 1)
    rw [List.length_append]
    have h1 := Sx_len l n (s ||| x)
    have h2 := Sx_len l (n + 1) s
    have h3 : (l.length + 1) ^ n ≤ (l.length + 1 + 1) ^ n := Nat.pow_le_pow_left (by omega) n
    rw [Nat.pow_succ] at h2 ⊢
    have h4 : (l.length + 1) ^ n * (l.length + 1) ≤ (l.length + 1 + 1) ^ n * (l.length + 1) := Nat.mul_le_mul_right _ h3
    rw [Nat.mul_succ ((l.length + 1 + 1) ^ n)]
    omega
def lst (b : Nat → Int32) (m : Nat) : Nat → List Int32
  | 0 => []
  | d + 1 => b (m - (d + 1)) :: lst b m d
def lsd (b : Nat → Int32) : Nat → List Int32
  | 0 => []
  | d + 1 => b d :: lsd b d
theorem Lx_Sx (b : Nat → Int32) (m : Nat) : ∀ (d j : Nat) (s : Int32), Lx b m j d s = Sx (lst b m d) j s
  | d, 0, s => by rw [Sx_0]; cases d <;> rfl
  | 0, j + 1, s => rfl
  | d + 1, j + 1, s => by
    show Lx b m j d (s ||| b (m - (d + 1))) ++ Lx b m (j + 1) d s = _
    rw [Lx_Sx b m d j, Lx_Sx b m d (j + 1)]
    rfl
theorem Px_Sx (b t : Nat → Int32) : ∀ (p n : Nat) (s k : Int32), ((Px b t n p s k).map Prod.fst).Perm (Sx (lsd b p) n s)
  | p, 0, s, k => by rw [Px_0, Sx_0]; exact List.Perm.refl _
  | 0, n + 1, s, k => List.Perm.refl _
  | p + 1, n + 1, s, k => by
    show ((Px b t (n + 1) p s k ++ Px b t n p (s ||| b p) (k ||| t p)).map Prod.fst).Perm (Sx (lsd b p) n (s ||| b p) ++ Sx (lsd b p) (n + 1) s)
    rw [List.map_append]
    exact ((Px_Sx b t p (n + 1) s k).append (Px_Sx b t p n _ _)).trans List.perm_append_comm
theorem lst_lsd (b : Nat → Int32) (m : Nat) : ∀ d, d ≤ m → (lst b m d).reverse ++ lsd b (m - d) = lsd b m
  | 0, _ => rfl
  | d + 1, h => by
    show (b (m - (d + 1)) :: lst b m d).reverse ++ lsd b (m - (d + 1)) = lsd b m
    rw [List.reverse_cons, List.append_assoc, ← lst_lsd b m d (by omega), show m - d = (m - (d + 1)) + 1 by omega]
    rfl
theorem lst_perm (b : Nat → Int32) (m : Nat) : (lst b m m).Perm (lsd b m) := by
  have h := lst_lsd b m m (Nat.le_refl _)
  rw [Nat.sub_self, show lsd b 0 = [] from rfl, List.append_nil] at h
  rw [← h]
  exact (List.reverse_perm _).symm
theorem lsd_congr {b b' : Nat → Int32} : ∀ {p : Nat}, (∀ k, k < p → b k = b' k) → lsd b p = lsd b' p
  | 0, _ => rfl
  | p + 1, h => by
    show b p :: lsd b p = b' p :: lsd b' p
    rw [h p (by omega), lsd_congr (fun k hk => h k (by omega))]
/-- the matches of a set, one behind another -/
def el (L : Int32) : Nat → List Int32
  | 0 => []
  | k + 1 => if lies L (nI k) then b1 k :: el L k else el L k
theorem el_s (L : Int32) (k : Nat) : el L (k + 1) = if lies L (nI k) then b1 k :: el L k else el L k := rfl
theorem el_len (L : Int32) : ∀ n, (el L n).length = fsC L n
  | 0 => rfl
  | n + 1 => by
    rw [el_s, fsC_s]
    split
    · rw [List.length_cons, el_len L n]
    · exact el_len L n
theorem lsd_fs (L : Int32) (f : Nat → Int32) : ∀ n, lsd (bo (fsR L f n)) (fsC L n) = el L n
  | 0 => rfl
  | n + 1 => by
    rw [fsR_s, fsC_s, el_s, ← lsd_fs L f n]
    by_cases h : lies L (nI n) = true
    · rw [if_pos h, if_pos h, if_pos h]
      show bo (upd (fsR L f n) (fsC L n) (nI n)) (fsC L n) :: lsd (bo (upd (fsR L f n) (fsC L n) (nI n))) (fsC L n) = _
      rw [lsd_congr (b := bo (upd (fsR L f n) (fsC L n) (nI n))) (b' := bo (fsR L f n)) (fun k hk => by unfold bo upd; rw [if_neg (show ¬ k = fsC L n by omega)])]
      unfold bo upd
      rw [if_pos rfl]
      rfl
    · rw [if_neg h, if_neg h, if_neg h]
theorem lsd_pb (L : Int32) (f : Nat → Int32) : ∀ n, lsd (pbR L f n) (fsC L n) = el L n
  | 0 => rfl
  | n + 1 => by
    rw [pbR_s, fsC_s, el_s, ← lsd_pb L f n]
    by_cases h : lies L (nI n) = true
    · rw [if_pos h, if_pos h, if_pos h]
      show upd (pbR L f n) (fsC L n) ((1 : Int32) <<< (nI n &&& 31)) (fsC L n) :: lsd (upd (pbR L f n) (fsC L n) ((1 : Int32) <<< (nI n &&& 31))) (fsC L n) = _
      rw [lsd_congr (b := upd (pbR L f n) (fsC L n) ((1 : Int32) <<< (nI n &&& 31))) (b' := pbR L f n) (fun k hk => by unfold upd; rw [if_neg (show ¬ k = fsC L n by omega)])]
      unfold upd
      rw [if_pos rfl]
      rfl
    · rw [if_neg h, if_neg h, if_neg h]
theorem Lx_el (L : Int32) (f : Nat → Int32) (mt n : Nat) : (Lx (bo (fsR L f mt)) (fsC L mt) n (fsC L mt) 0).Perm (Sx (el L mt) n 0) := by
  rw [Lx_Sx, ← lsd_fs L f mt]
  exact Sx_perm (lst_perm _ _) n 0
theorem Px_el (L : Int32) (rm : Nat → Int32) (sq mt n : Nat) (b0 t0 : Nat → Int32) : ((Px (pbR L b0 mt) (ptR L rm sq t0 mt) n (fsC L mt) 0 0).map Prod.fst).Perm (Sx (el L mt) n 0) := by
  rw [← lsd_pb L b0 mt]
  exact Px_Sx _ _ _ _ _ _
/-! ===== the least first ===== -/
def Lt (x y : Int32) : Prop := ∃ k, k < 31 ∧ bi x k = false ∧ bi y k = true ∧ ∀ j, k < j → bi x j = bi y j
theorem Lt.lt {x y : Int32} (h : Lt x y) (h31 : bi x 31 = false) : x < y := by
  obtain ⟨k, hk, h1, h2, h3⟩ := h
  obtain ⟨m, hm, rfl, em⟩ := to_nI x
  obtain ⟨n, hn, rfl, en⟩ := to_nI y
  have hhi : m / 2 ^ (k + 1) = n / 2 ^ (k + 1) := Nat.eq_of_testBit_eq (fun j => by rw [Nat.testBit_div_two_pow, Nat.testBit_div_two_pow, ← em, ← en]; exact h3 _ (by omega))
  have hml : m / 2 ^ k % 2 = 0 := by
    have := h1
    rw [em, Nat.testBit_eq_decide_div_mod_eq, decide_eq_false_iff_not] at this
    omega
  have hnl : n / 2 ^ k % 2 = 1 := by
    have := h2
    rw [en, Nat.testBit_eq_decide_div_mod_eq, decide_eq_true_eq] at this
    exact this
  have hlt : m < n := by
    rw [Nat.pow_succ, ← Nat.div_div_eq_div_mul, ← Nat.div_div_eq_div_mul] at hhi
    refine Nat.lt_of_not_le (fun q => ?_)
    have := Nat.div_le_div_right (c := 2 ^ k) q
    omega
  have hn31 : n < 2 ^ 31 := by
    refine Nat.lt_of_not_le (fun q => ?_)
    have : n.testBit 31 = true := by
      rw [Nat.testBit_eq_decide_div_mod_eq]
      exact decide_eq_true (by omega)
    rw [← en, ← h3 31 (by omega), h31] at this
    cases this
  exact nI_lt hlt hn31
theorem pb_at (L : Int32) (f : Nat → Int32) (rm : Nat → Int32) (sq : Nat) (g : Nat → Int32) : ∀ mt, ∃ e : Nat → Nat, (∀ i, i < fsC L mt → e i < mt ∧ pbR L f mt i = b1 (e i) ∧ ptR L rm sq g mt i = orb (tou rm (-1) (nI (e i))) sq) ∧ ∀ i j, i < j → j < fsC L mt → e i < e j
  | 0 => ⟨fun _ => 0, fun i h => absurd h (Nat.not_lt_zero _), fun i j _ h => absurd h (Nat.not_lt_zero _)⟩
  | mt + 1 => by
    obtain ⟨e, h1, h2⟩ := pb_at L f rm sq g mt
    rw [pbR_s, ptR_s, fsC_s]
    by_cases h : lies L (nI mt) = true
    · rw [if_pos h, if_pos h, if_pos h]
      refine ⟨fun i => if i = fsC L mt then mt else e i, fun i hi => ?_, fun i j hij hj => ?_⟩
      · by_cases hc : i = fsC L mt
        · unfold upd
          simp only [if_pos hc]
          exact ⟨by omega, rfl, trivial⟩
        · have := h1 i (by omega)
          unfold upd
          simp only [if_neg hc]
          exact ⟨by omega, this.2.1, this.2.2⟩
      · show (if i = fsC L mt then mt else e i) < (if j = fsC L mt then mt else e j)
        rw [if_neg (show ¬ i = fsC L mt by omega)]
        by_cases hc : j = fsC L mt
        · rw [if_pos hc]; exact (h1 i (by omega)).1
        · rw [if_neg hc]; exact h2 i j hij (by omega)
    · rw [if_neg h, if_neg h, if_neg h]
      exact ⟨e, fun i hi => ⟨by have := (h1 i hi).1; omega, (h1 i hi).2⟩, h2⟩
theorem Px_hi {b t : Nat → Int32} {e : Nat → Nat} {P : Nat} (he : ∀ i, i < P → e i < 31 ∧ b i = b1 (e i)) : ∀ (p n : Nat) (s k : Int32), p ≤ P → ∀ y, y ∈ Px b t n p s k → ∀ j, (∀ i, i < p → e i < j) → bi y.1 j = bi s j
  | p, 0, s, k, _, y, hy, j, _ => by
    rw [Px_0, List.mem_singleton] at hy
    rw [hy]
  | 0, n + 1, s, k, _, y, hy, j, _ => by cases hy
  | p + 1, n + 1, s, k, hp, y, hy, j, hj => by
    rcases List.mem_append.mp hy with hy | hy
    · exact Px_hi he p (n + 1) s k (by omega) y hy j (fun i hi => hj i (by omega))
    · rw [Px_hi he p n _ _ (by omega) y hy j (fun i hi => hj i (by omega)), bi_or, (he p (by omega)).2, bi_b1 (by have := (he p (by omega)).1; omega), decide_eq_false (by have := hj p (by omega); omega), Bool.or_false]
theorem Px_pw {b t : Nat → Int32} {e : Nat → Nat} {P : Nat} (he : ∀ i, i < P → e i < 31 ∧ b i = b1 (e i)) (ha : ∀ i j, i < j → j < P → e i < e j) : ∀ (p n : Nat) (s k : Int32), p ≤ P → (∀ i, i < p → bi s (e i) = false) → (Px b t n p s k).Pairwise (fun x y => Lt x.1 y.1)
  | p, 0, s, k, _, _ => by rw [Px_0]; exact List.pairwise_singleton _ _
  | 0, n + 1, s, k, _, _ => List.Pairwise.nil
  | p + 1, n + 1, s, k, hp, hs => by
    have e1 := he p (by omega)
    refine List.pairwise_append.mpr ⟨Px_pw he ha p (n + 1) s k (by omega) (fun i hi => hs i (by omega)), Px_pw he ha p n _ _ (by omega) (fun i hi => ?_), fun x hx y hy => ⟨e p, e1.1, ?_, ?_, fun j hj => ?_⟩⟩
    · rw [bi_or, hs i (by omega), e1.2, bi_b1 (by omega), decide_eq_false (by have := ha i p hi (by omega); omega)]; rfl
    · rw [Px_hi he p (n + 1) s k (by omega) x hx (e p) (fun i hi => ha i p hi (by omega))]; exact hs p (by omega)
    · rw [Px_hi he p n _ _ (by omega) y hy (e p) (fun i hi => ha i p hi (by omega)), bi_or, e1.2, bi_b1 (by omega), decide_eq_true rfl, Bool.or_true]
    · have lo : ∀ i, i < p → e i < j := fun i hi => by have := ha i p hi (by omega); omega
      rw [Px_hi he p (n + 1) s k (by omega) x hx j lo, Px_hi he p n _ _ (by omega) y hy j lo, bi_or, e1.2, bi_b1 (by omega), decide_eq_false (by omega), Bool.or_false]
theorem Px_brk {b t : Nat → Int32} {G : Int32 → Int32} {P : Nat} (hG : ∀ i, i < P → ∀ s, G (s ||| b i) = G s ||| t i) : ∀ (p n : Nat) (s k : Int32), p ≤ P → k = G s → ∀ y, y ∈ Px b t n p s k → y.2 = G y.1
  | p, 0, s, k, _, hk, y, hy => by
    rw [Px_0, List.mem_singleton] at hy
    rw [hy]; exact hk
  | 0, n + 1, s, k, _, _, y, hy => by cases hy
  | p + 1, n + 1, s, k, hp, hk, y, hy => by
    rcases List.mem_append.mp hy with hy | hy
    · exact Px_brk hG p (n + 1) s k (by omega) hk y hy
    · exact Px_brk hG p n _ _ (by omega) (by rw [hG p (by omega), hk]) y hy
/-! ===== what is gathered ===== -/
def lsr (m s : Int32) : Int32 := if decide (s < m) then s else m
theorem lsr_le : ∀ (l : List Int32) (m : Int32), (l.foldl lsr m ∈ m :: l) ∧ ∀ x, x ∈ m :: l → ¬ x < l.foldl lsr m
  | [], m => ⟨List.mem_singleton.mpr rfl, fun x hx => by rw [List.mem_singleton.mp hx, fa_lt]; show ¬ m.toInt < m.toInt; omega⟩
  | a :: l, m => by
    have h := lsr_le l (lsr m a)
    show ((l.foldl lsr (lsr m a)) ∈ m :: a :: l) ∧ ∀ x, x ∈ m :: a :: l → ¬ x < l.foldl lsr (lsr m a)
    have hm : lsr m a = m ∨ lsr m a = a := by unfold lsr; split <;> simp
    have h0 := h.2 (lsr m a) (List.mem_cons_self ..)
    refine ⟨?_, fun x hx => ?_⟩
    · rcases List.mem_cons.mp h.1 with e | e
      · rw [e]; rcases hm with e | e <;> rw [e] <;> simp
      · exact List.mem_cons_of_mem _ (List.mem_cons_of_mem _ e)
    · rcases List.mem_cons.mp hx with e | hx
      · subst e
        rw [fa_lt] at h0 ⊢
        by_cases q : a < x
        · have e : lsr x a = a := by unfold lsr; rw [if_pos (decide_eq_true q)]
          rw [e] at h0 ⊢
          rw [fa_lt] at q; omega
        · have e : lsr x a = x := by unfold lsr; rw [if_neg (by rw [decide_eq_true_eq]; exact q)]
          rw [e] at h0 ⊢
          exact h0
      · rcases List.mem_cons.mp hx with e | hx
        · subst e
          rw [fa_lt] at h0 ⊢
          by_cases q : x < m
          · have e : lsr m x = x := by unfold lsr; rw [if_pos (decide_eq_true q)]
            rw [e] at h0 ⊢
            exact h0
          · have e : lsr m x = m := by unfold lsr; rw [if_neg (by rw [decide_eq_true_eq]; exact q)]
            rw [e] at h0 ⊢
            rw [fa_lt] at q; omega
        · exact h.2 x (List.mem_cons_of_mem _ hx)
theorem g_fold : ∀ (l : List Int32) (c : Nat) (m z : Int32), 1 ≤ c → c + l.length < 2 ^ 31 → l.foldl gth (nI c, m, z) = (nI (c + l.length), l.foldl lsr m, l.foldl (fun a b => a &&& b) z)
  | [], c, m, z, _, _ => rfl
  | a :: l, c, m, z, h1, h2 => by
    rw [List.length_cons] at h2
    have e : gth (nI c, m, z) a = (nI (c + 1), lsr m a, z &&& a) := by
      unfold gth lsr
      simp only [decide_eq_false (nI_ne0 h1 (by omega)), Bool.false_or]
      rw [← nI_1]
      simp
    rw [List.foldl_cons, e, g_fold l (c + 1) _ _ (by omega) (by omega), List.length_cons, show c + 1 + l.length = c + (l.length + 1) by omega]
    rfl
theorem and_ac (s x y : Int32) : s &&& x &&& y = s &&& y &&& x := bi_ext (fun i _ => by rw [bi_and, bi_and, bi_and, bi_and, Bool.and_assoc, Bool.and_comm (bi x i), ← Bool.and_assoc])
/-- the least, the count and the common part do not hang on the order -/
theorem two_sets {A B : List Int32} (hp : A.Perm B) (hs : A.Pairwise Lt) (h31 : ∀ x, x ∈ A → bi x 31 = false) (hl : A.length < 2 ^ 31) : (B.foldl gth (0, -4, 0)).1 = nI A.length ∧ (B.foldl gth (0, -4, 0)).2.1 = A.headD (-4) ∧ (A ≠ [] → (B.foldl gth (0, -4, 0)).2.2 = A.foldl (fun a b => a &&& b) (-1)) := by
  have hlen := hp.length_eq
  match hB : B, hA : A with
  | [], [] => exact ⟨rfl, rfl, fun h => absurd rfl h⟩
  | [], a :: A' => simp at hlen
  | b :: B', [] => simp at hlen
  | b :: B', a :: A' =>
    rw [List.length_cons, List.length_cons] at hlen
    rw [List.length_cons] at hl
    have e : (b :: B').foldl gth (0, -4, 0) = (nI (1 + B'.length), B'.foldl lsr b, B'.foldl (fun a b => a &&& b) b) := g_fold B' 1 b b (by omega) (by omega)
    rw [e]
    refine ⟨show nI (1 + B'.length) = nI (A'.length + 1) by rw [show 1 + B'.length = A'.length + 1 by omega], ?_, fun _ => ?_⟩
    · show B'.foldl lsr b = a
      have hm := lsr_le B' b
      have h1 : B'.foldl lsr b ∈ a :: A' := hp.mem_iff.mpr hm.1
      have h2 := hm.2 a (hp.mem_iff.mp (List.mem_cons_self ..))
      rcases List.mem_cons.mp h1 with h | h
      · exact h
      · exact absurd ((List.rel_of_pairwise_cons hs h).lt (h31 a (List.mem_cons_self ..))) h2
    · show B'.foldl (fun a b => a &&& b) b = (a :: A').foldl (fun a b => a &&& b) (-1)
      rw [hp.foldl_eq' (fun x _ y _ z => and_ac z x y) (-1), List.foldl_cons]
      congr 1
      exact bi_ext (fun i hi => by rw [bi_and, bi_m1, decide_eq_true hi, Bool.true_and])
theorem lk_fold {co : Int32} {w : Nat} {wo wn : Nat → Int32} {P : Int32 → Bool} : ∀ (l : List (Int32 × Int32)) (c : Nat) (m z u : Int32), (∀ y, y ∈ l → wok wo wn y.2 w = P y.1) → c + l.length < 2 ^ 31 → ∃ u', l.foldl (lkS co w wo wn) (nI c, m, z, u) = (nI (c + ((l.map Prod.fst).filter P).length), if c = 0 then ((l.map Prod.fst).filter P).headD m else m, ((l.map Prod.fst).filter P).foldl (fun a b => a &&& b) z, u')
  | [], c, m, z, u, _, _ => ⟨u, by simp⟩
  | y :: l, c, m, z, u, h, hl => by
    rw [List.length_cons] at hl
    have hy := h y (List.mem_cons_self ..)
    rw [List.foldl_cons, List.map_cons]
    cases hP : P y.1 with
    | false =>
      rw [List.filter_cons_of_neg (by rw [hP]; decide)]
      rw [lkS, hy, hP, if_neg (by decide)]
      exact lk_fold l c m z _ (fun y hy => h y (List.mem_cons_of_mem _ hy)) (by omega)
    | true =>
      rw [List.filter_cons_of_pos hP]
      rw [lkS, hy, hP, if_pos rfl]
      obtain ⟨u', hu⟩ := lk_fold (P := P) l (c + 1) (if decide (nI c = 0) then y.1 else m) (z &&& y.1) (u ||| ((1 : Int32) <<< (bcE (co &&& (y.2 ^^^ (-1))) &&& 31))) (fun y hy => h y (List.mem_cons_of_mem _ hy)) (by omega)
      refine ⟨u', ?_⟩
      rw [← nI_1] at hu
      rw [hu, List.length_cons, if_neg (by omega), show c + 1 + ((l.map Prod.fst).filter P).length = c + (((l.map Prod.fst).filter P).length + 1) by omega]
      by_cases hc : c = 0
      · subst hc
        rfl
      · rw [decide_eq_false (nI_ne0 (by omega) (by omega)), if_neg hc]
        rfl
