/-! ===== calls: between, just, gone ===== -/
def brk (rm : Nat → Int32) (sq : Nat) (s : Int32) : Int32 := orb (fun q => !decide (rm q &&& s = 0)) sq
theorem bi_1 (i : Nat) : bi 1 i = decide (i = 0) := by
  by_cases h : i < 32
  · revert i; decide +kernel
  · rw [bi_ge (by omega)]; exact (decide_eq_false (by omega)).symm
theorem tou_bi (rm : Nat → Int32) {m q : Nat} (hm : m < 32) (hq : q < 32) : tou rm (-1) (nI m) q = bi (rm q) m := by
  unfold tou
  rw [and1_bi, bi_and, bi_shr1 _ hq, bi_shr1 _ hm, bi_m1, decide_eq_true hq, Bool.true_and]
  cases bi (rm q) m <;> decide
theorem and_or0 (r s : Int32) {m : Nat} (hm : m < 32) : decide (r &&& (s ||| b1 m) = 0) = (decide (r &&& s = 0) && !bi r m) := by
  have e : r &&& (s ||| b1 m) = 0 ↔ r &&& s = 0 ∧ bi r m = false := by
    constructor
    · intro h
      have h1 : ∀ i, i < 32 → (bi r i && (bi s i || decide (i = m))) = false := fun i hi => by
        have := congrArg (fun y => bi y i) h
        simp only [bi_and, bi_or, bi_b1 hm, bi_0] at this
        exact this
      refine ⟨bi_z (fun i hi => ?_), ?_⟩
      · have := h1 i hi
        rw [bi_and]
        cases hr : bi r i <;> cases hs : bi s i <;> rw [hr, hs] at this <;> simp_all
      · have := h1 m hm
        rw [decide_eq_true rfl, Bool.or_true, Bool.and_true] at this
        exact this
    · rintro ⟨h1, h2⟩
      refine bi_z (fun i hi => ?_)
      have := congrArg (fun y => bi y i) h1
      simp only [bi_and, bi_0] at this
      rw [bi_and, bi_or, bi_b1 hm]
      by_cases hi : i = m
      · subst hi; rw [h2]; rfl
      · rw [decide_eq_false hi, Bool.or_false]; exact this
  by_cases h : r &&& (s ||| b1 m) = 0
  · rw [decide_eq_true h, decide_eq_true (e.mp h).1, (e.mp h).2]; rfl
  · rw [decide_eq_false h]
    by_cases h1 : r &&& s = 0
    · rw [decide_eq_true h1]
      cases h2 : bi r m with
      | true => rfl
      | false => exact absurd (e.mpr ⟨h1, h2⟩) h
    · rw [decide_eq_false h1]; rfl
theorem brk_or (rm : Nat → Int32) {sq m : Nat} (hs : sq ≤ 20) (hm : m < 32) (s : Int32) : brk rm sq (s ||| b1 m) = brk rm sq s ||| orb (tou rm (-1) (nI m)) sq := by
  refine bi_ext (fun i hi => ?_)
  unfold brk
  rw [bi_or, bi_orb _ (by omega), bi_orb _ (by omega), bi_orb _ (by omega), and_or0 _ _ hm, tou_bi rm hm hi]
  cases decide (i < sq) <;> cases decide (rm i &&& s = 0) <;> cases bi (rm i) m <;> rfl
theorem brk_0 (rm : Nat → Int32) {sq : Nat} (hs : sq ≤ 20) : brk rm sq 0 = 0 := by
  refine bi_z (fun i hi => ?_)
  unfold brk
  rw [bi_orb _ (by omega), decide_eq_true (show rm i &&& 0 = 0 by rw [Int32.and_zero])]
  simp
theorem inc_out (rm : Nat → Int32) (L s : Int32) (q : Nat) : inc rm (L &&& (s ^^^ (-1))) q = (inc rm L q && decide (rm q &&& s = 0)) := by
  have e : (L &&& (s ^^^ (-1))) &&& rm q = rm q ↔ (L &&& rm q = rm q ∧ rm q &&& s = 0) := by
    constructor
    · intro h
      have h1 : ∀ i, i < 32 → ((bi L i && !bi s i) && bi (rm q) i) = bi (rm q) i := fun i hi => by
        have := congrArg (fun y => bi y i) h
        simp only [bi_and, bi_not, decide_eq_true hi, Bool.true_and] at this
        exact this
      refine ⟨bi_ext (fun i hi => ?_), bi_z (fun i hi => ?_)⟩
      · have := h1 i hi
        rw [bi_and]
        cases hl : bi L i <;> cases hs : bi s i <;> cases hr : bi (rm q) i <;> rw [hl, hs, hr] at this <;> simp_all
      · have := h1 i hi
        rw [bi_and]
        cases hl : bi L i <;> cases hs : bi s i <;> cases hr : bi (rm q) i <;> rw [hl, hs, hr] at this <;> simp_all
    · rintro ⟨h1, h2⟩
      refine bi_ext (fun i hi => ?_)
      have a1 := congrArg (fun y => bi y i) h1
      have a2 := congrArg (fun y => bi y i) h2
      simp only [bi_and, bi_0] at a1 a2
      rw [bi_and, bi_and, bi_not, decide_eq_true hi, Bool.true_and]
      cases hl : bi L i <;> cases hs : bi s i <;> cases hr : bi (rm q) i <;> rw [hl, hr] at a1 <;> rw [hs, hr] at a2 <;> simp_all
  unfold inc
  by_cases h : (L &&& (s ^^^ (-1))) &&& rm q = rm q
  · rw [decide_eq_true h, decide_eq_true (e.mp h).1, decide_eq_true (e.mp h).2]; rfl
  · rw [decide_eq_false h]
    by_cases h1 : L &&& rm q = rm q
    · rw [decide_eq_true h1, decide_eq_false (fun h2 => h (e.mpr ⟨h1, h2⟩))]; rfl
    · rw [decide_eq_false h1]; rfl
theorem orb_out (rm : Nat → Int32) {sq : Nat} (hs : sq ≤ 20) (L s : Int32) : orb (inc rm (L &&& (s ^^^ (-1)))) sq = orb (inc rm L) sq &&& (brk rm sq s ^^^ (-1)) := by
  refine bi_ext (fun i hi => ?_)
  unfold brk
  rw [bi_and, bi_not, bi_orb _ (by omega), bi_orb _ (by omega), bi_orb _ (by omega), inc_out, decide_eq_true hi]
  cases decide (i < sq) <;> cases inc rm L i <;> cases decide (rm i &&& s = 0) <;> rfl
theorem lsq_out (C : Int32) (os rm : Nat → Int32) {sq : Nat} (hs : sq ≤ 20) (L s : Int32) : lsq C os rm sq (L &&& (s ^^^ (-1))) = lsq C os rm sq L &&& (brk rm sq s ^^^ (-1)) := by
  unfold lsq
  rw [orb_out rm hs]
  refine bi_ext (fun i hi => ?_)
  simp only [bi_and]
  cases bi (orb (inc rm L) sq) i <;> cases bi (brk rm sq s ^^^ (-1)) i <;> simp
theorem fsC_ct (L : Int32) : ∀ {n : Nat}, n ≤ 32 → fsC L n = fb_ct (bi L) n
  | 0, _ => rfl
  | n + 1, h => by
    rw [fsC_s, fb_ct_succ, fsC_ct L (by omega), lies_bi L (by omega)]
    cases bi L n <;> rfl
theorem fsC_pc {L : Int32} {mt : Nat} (hL : ∀ i, bi L i = true → i < mt) (hb : mt ≤ 31) : bcE L = nI (fsC L mt) := by
  rw [bcE_pc, fsC_ct L (by omega)]
  congr 1
  refine pc_ct (by omega) (fun _ _ => rfl) (fun q h1 h2 => ?_)
  cases h : bi L q with
  | false => rfl
  | true => exact absurd (hL q h) (by omega)
theorem Px_b (L : Int32) (rm : Nat → Int32) {sq mt : Nat} (n : Nat) (b0 t0 : Nat → Int32) (hs : sq ≤ 20) (hb : mt ≤ 31) : ∀ y, y ∈ Px (pbR L b0 mt) (ptR L rm sq t0 mt) n (fsC L mt) 0 0 → y.2 = brk rm sq y.1 := by
  obtain ⟨e, h1, h2⟩ := pb_at L b0 rm sq t0 mt
  refine Px_brk (P := fsC L mt) (G := brk rm sq) (fun i hi s => ?_) _ _ _ _ (Nat.le_refl _) (brk_0 rm hs).symm
  rw [(h1 i hi).2.1, (h1 i hi).2.2]
  exact brk_or rm hs (by have := (h1 i hi).1; omega) s
theorem Px_all (L : Int32) (rm : Nat → Int32) {sq mt n : Nat} (b0 t0 : Nat → Int32) (hb : mt ≤ 31) (hn : n ≤ 4) : ((Px (pbR L b0 mt) (ptR L rm sq t0 mt) n (fsC L mt) 0 0).map Prod.fst).Pairwise Lt ∧ (∀ x, x ∈ (Px (pbR L b0 mt) (ptR L rm sq t0 mt) n (fsC L mt) 0 0).map Prod.fst → bi x 31 = false) ∧ (Px (pbR L b0 mt) (ptR L rm sq t0 mt) n (fsC L mt) 0 0).length ≤ 2 ^ 20 := by
  obtain ⟨e, h1, h2⟩ := pb_at L b0 rm sq t0 mt
  have he : ∀ i, i < fsC L mt → e i < 31 ∧ pbR L b0 mt i = b1 (e i) := fun i hi => ⟨by have := (h1 i hi).1; omega, (h1 i hi).2.1⟩
  refine ⟨List.pairwise_map.mpr (Px_pw he h2 _ _ _ _ (Nat.le_refl _) (fun i _ => bi_0 _)), fun x hx => ?_, ?_⟩
  · obtain ⟨y, hy, rfl⟩ := List.mem_map.mp hx
    rw [Px_hi he _ _ _ _ (Nat.le_refl _) y hy 31 (fun i hi => (he i hi).1), bi_0]
  · have h3 := (Px_el L rm sq mt n b0 t0).length_eq
    rw [List.length_map] at h3
    have h4 := Sx_len (el L mt) n 0
    rw [el_len] at h4
    have h5 := fsC_le L mt
    have h6 : (fsC L mt + 1) ^ n ≤ 32 ^ n := Nat.pow_le_pow_left (by omega) n
    have h7 : 32 ^ n ≤ 32 ^ 4 := Nat.pow_le_pow_right (by decide) hn
    have h8 : (32 : Nat) ^ 4 = 2 ^ 20 := by decide
    omega
/-- what the class gathers is what the reference gathers -/
theorem pick_two {L : Int32} {rm : Nat → Int32} {sq mt n : Nat} {b0 t0 f : Nat → Int32} {co : Int32} {w : Nat} {wo wn : Nat → Int32} {P : Int32 → Bool} (hs : sq ≤ 20) (hb : mt ≤ 31) (hn : n ≤ 4) (hP : ∀ s, wok wo wn (brk rm sq s) w = P s) :
    ∃ A : List Int32, (pAll L rm sq mt n b0 t0 co w wo wn).1 = nI A.length ∧ (pAll L rm sq mt n b0 t0 co w wo wn).2.1 = A.headD 0 ∧ (pAll L rm sq mt n b0 t0 co w wo wn).2.2.1 = A.foldl (fun a b => a &&& b) (-1) ∧ A.length < 2 ^ 31 ∧
      (∀ acc, acc = (Lx (bo (fsR L f mt)) (fsC L mt) n (fsC L mt) 0).foldl (fun acc s => if P s then gth acc s else acc) (0, -4, 0) → acc.1 = nI A.length ∧ acc.2.1 = A.headD (-4) ∧ (A ≠ [] → acc.2.2 = A.foldl (fun a b => a &&& b) (-1))) := by
  obtain ⟨p1, p2, p3⟩ := Px_all L rm (sq := sq) b0 t0 hb hn
  have pe := (Px_el L rm sq mt n b0 t0).trans (Lx_el L f mt n).symm
  obtain ⟨u', hu⟩ := lk_fold (co := co) (w := w) (wo := wo) (wn := wn) (P := P) (Px (pbR L b0 mt) (ptR L rm sq t0 mt) n (fsC L mt) 0 0) 0 0 (-1) 0 (fun y hy => by rw [Px_b L rm n b0 t0 hs hb y hy]; exact hP y.1) (by omega)
  have hl := List.length_filter_le P ((Px (pbR L b0 mt) (ptR L rm sq t0 mt) n (fsC L mt) 0 0).map Prod.fst)
  rw [List.length_map] at hl
  refine ⟨((Px (pbR L b0 mt) (ptR L rm sq t0 mt) n (fsC L mt) 0 0).map Prod.fst).filter P, ?_, ?_, ?_, by omega, fun acc ha => ?_⟩
  · unfold pAll; rw [show ((0 : Int32), (0 : Int32), (-1 : Int32), (0 : Int32)) = (nI 0, 0, -1, 0) from rfl, hu, Nat.zero_add]
  · unfold pAll; rw [show ((0 : Int32), (0 : Int32), (-1 : Int32), (0 : Int32)) = (nI 0, 0, -1, 0) from rfl, hu, if_pos rfl]
  · unfold pAll; rw [show ((0 : Int32), (0 : Int32), (-1 : Int32), (0 : Int32)) = (nI 0, 0, -1, 0) from rfl, hu]
  · rw [ha, ← List.foldl_filter]
    exact two_sets (pe.filter P) (p1.filter P) (fun x hx => p2 x (List.mem_filter.mp hx).1) (by omega)
theorem lk_u {co : Int32} {w : Nat} {wo wn : Nat → Int32} : ∀ (l : List (Int32 × Int32)) (a : Pk), (l.foldl (lkS co w wo wn) a).2.2.2 = l.foldl (fun u y => u ||| ((1 : Int32) <<< (bcE (co &&& (y.2 ^^^ (-1))) &&& 31))) a.2.2.2
  | [], a => rfl
  | y :: l, a => by
    rw [List.foldl_cons, List.foldl_cons, lk_u l]
    congr 1
    unfold lkS
    split <;> rfl
theorem foldl_cg {α β : Type} {f g : β → α → β} : ∀ {l : List α} {a : β}, (∀ x, x ∈ l → ∀ z, f z x = g z x) → l.foldl f a = l.foldl g a
  | [], _, _ => rfl
  | x :: l, a, h => by
    rw [List.foldl_cons, List.foldl_cons, h x (List.mem_cons_self ..)]
    exact foldl_cg (fun y hy => h y (List.mem_cons_of_mem _ hy))
theorem eqm_rf {M M1 : Mm} (hE : Eqm M M1) : M1 49 = M 49 ∧ M1 51 = M 51 ∧ M1 54 = M 54 ∧ M1 48 4 = M 48 4 ∧ M1 48 5 = M 48 5 ∧ M1 48 2 = M 48 2 ∧ M1 48 3 = M 48 3 :=
  ⟨funext fun q => hE 49 q rfl, funext fun q => hE 51 q rfl, funext fun q => hE 54 q rfl, hE 48 4 rfl, hE 48 5 rfl, hE 48 2 rfl, hE 48 3 rfl⟩
section PO
variable {Z : List (Option Nat)} {ext : List Ds} {M : Mm}
theorem op_between (hI : Inv Z ext M) (a : Int32) : OpI mX9_between mX10_between [.int a] Z ext M := by
  obtain ⟨w, h, n0, k0, k1, hw, hG, hT, hIm, hP, hS, hF1, hF2, hF3⟩ := id hI
  have hf := gf hw
  cases hx : rg a 0 4 with
  | false => exact op_pure hI (c_betweenX a hx) (c_m_betweenX a hx) rfl
  | true =>
    obtain ⟨n, -, hn, rfl⟩ := rg_nat (x := a) (a := 0) (b := 4) (by decide) (by decide) hx
    have hpc := fsC_pc hT.2.2.2.2.1 hf.2.2.1
    have hfl := fsC_le (M 10 0) (mtN w h)
    have hmb := hf.2.2.1
    by_cases hc : n ≤ fsC (M 10 0) (mtN w h)
    · refine op_eq hI (c_between n hn hG.1.2.2.1 hf.2.2.1 hG.1.2.2.2 hf.1 (by rw [hpc]; exact nI_le hc (by omega))) (fun M1 hI1 hE => ?_)
      obtain ⟨e49, e51, e54, e4, e5, -, -⟩ := eqm_rf hE
      have hr := c_m_between (Z := Z) (ext := ext) (M := M1) (mt := mtN w h) (sq := sqN w h) n hn (by rw [e4]; exact hG.2.1.2.2.1) hf.2.2.1 (by rw [e5]; exact hG.2.1.2.2.2) hf.1 (by rw [e49, hT.1]; exact hc)
      rw [e49, e51, e54, hT.1, show M 49 32 = M 10 1 from hT.2.1] at hr
      refine Ct.imp hr (fun r M' q => ⟨?_, q.2⟩)
      rw [q.1]
      refine oi ?_
      unfold btw pAll
      rw [lk_u]
      have e1 : (Px (pbR (M 10 0) (M 27) (mtN w h)) (ptR (M 10 0) (M 5) (sqN w h) (M 28) (mtN w h)) n (fsC (M 10 0) (mtN w h)) 0 0).foldl (fun u y => u ||| ((1 : Int32) <<< (bcE (lsq (M 10 1) (M 6) (M 5) (sqN w h) (M 10 0) &&& (y.2 ^^^ (-1))) &&& 31))) 0 = ((Px (pbR (M 10 0) (M 27) (mtN w h)) (ptR (M 10 0) (M 5) (sqN w h) (M 28) (mtN w h)) n (fsC (M 10 0) (mtN w h)) 0 0).map Prod.fst).foldl (fun a s => a ||| ((1 : Int32) <<< (Lf (M 10 1) (M 51) (M 54) (M 10 0 &&& (s ^^^ (-1))) (sqN w h) &&& 31))) 0 := by
        rw [List.foldl_map]
        refine foldl_cg (fun y hy z => ?_)
        rw [left_b hG hf, lsq_out _ _ _ hf.1, ← Px_b (M 10 0) (M 5) n (M 27) (M 28) hf.1 hf.2.2.1 y hy]
      rw [e1]
      exact (((Lx_el (M 10 0) (M1 63) (mtN w h) n).trans (Px_el (M 10 0) (M 5) (sqN w h) (mtN w h) n (M 27) (M 28)).symm).foldl_eq' (f := fun a s => a ||| ((1 : Int32) <<< (Lf (M 10 1) (M 51) (M 54) (M 10 0 &&& (s ^^^ (-1))) (sqN w h) &&& 31))) (fun x _ y _ z => or_ac z _ _) 0)
    · have hc2 : fsC (M 49 0) (mtN w h) < n := by rw [hT.1]; omega
      refine op_eq hI (Ct.eq0 (c_betweenN n hn (by rw [hpc]; exact nI_ge (by omega) (by omega)))) (fun M1 hI1 hE => ?_)
      obtain ⟨e49, e51, e54, e4, e5, -, -⟩ := eqm_rf hE
      exact c_m_betweenN (mt := mtN w h) n hn (by rw [e4]; exact hG.2.1.2.2.1) hf.2.2.1 (by rw [e49]; exact hc2)
theorem op_just (hI : Inv Z ext M) (a k x : Int32) : OpI mX9_just mX10_just [.int a, .int k, .int x] Z ext M := by
  obtain ⟨w, h, n0, k0, k1, hw, hG, hT, hIm, hP, hS, hF1, hF2, hF3⟩ := id hI
  have hf := gf hw
  cases hx : (rg a 0 4 && rg k 0 20 && rg x 0 1) with
  | false => exact op_pure hI (c_justX a k x hx) (c_m_justX a k x hx) rfl
  | true =>
    rw [Bool.and_eq_true, Bool.and_eq_true] at hx
    obtain ⟨⟨x1, x2⟩, x3⟩ := hx
    obtain ⟨n, -, hn, rfl⟩ := rg_nat (x := a) (a := 0) (b := 4) (by decide) (by decide) x1
    refine op_eq hI (c_just n k x hn x2 x3 hG.1.2.2.1 hf.2.2.1 hG.1.2.2.2 hf.1) (fun M1 hI1 hE => ?_)
    obtain ⟨e49, e51, e54, e4, e5, -, -⟩ := eqm_rf hE
    have hr := c_m_just (Z := Z) (ext := ext) (M := M1) (mt := mtN w h) (sq := sqN w h) n k x hn x2 x3 (by rw [e4]; exact hG.2.1.2.2.1) hf.2.2.1 (by rw [e5]; exact hG.2.1.2.2.2) hf.1
    rw [e49, e51, e54, hT.1, show M 49 32 = M 10 1 from hT.2.1] at hr
    refine Ct.imp hr (fun r M' q => ⟨?_, q.2⟩)
    rw [q.1]
    refine oi ?_
    obtain ⟨A, a1, a2, a3, a4, a5⟩ := pick_two (L := M 10 0) (rm := M 5) (sq := sqN w h) (mt := mtN w h) (n := n) (b0 := M 27) (t0 := M 28) (f := M1 63) (co := 0) (w := 1) (wo := upd (M 25) 0 (lsq (M 10 1) (M 6) (M 5) (sqN w h) (M 10 0))) (wn := upd (M 26) 0 k) (P := fun s => decide (Lf (M 10 1) (M 51) (M 54) (M 10 0 &&& (s ^^^ (-1))) (sqN w h) = k)) hf.1 hf.2.2.1 hn (fun s => by
      show (true && decide (bcE (upd (M 25) 0 (lsq (M 10 1) (M 6) (M 5) (sqN w h) (M 10 0)) 0 &&& (brk (M 5) (sqN w h) s ^^^ (-1))) = upd (M 26) 0 k 0)) = _
      rw [left_b hG hf, lsq_out _ _ _ hf.1, Bool.true_and]
      simp [upd])
    have b := a5 _ rfl
    unfold vJust cJust
    show (if decide (x = 0) then ((Lx (bo (fsR (M 10 0) (M1 63) (mtN w h))) (fsC (M 10 0) (mtN w h)) n (fsC (M 10 0) (mtN w h)) 0).foldl (fun acc s => if decide (Lf (M 10 1) (M 51) (M 54) (M 10 0 &&& (s ^^^ (-1))) (sqN w h) = k) then gth acc s else acc) (0, -4, 0)).1 else ((Lx (bo (fsR (M 10 0) (M1 63) (mtN w h))) (fsC (M 10 0) (mtN w h)) n (fsC (M 10 0) (mtN w h)) 0).foldl (fun acc s => if decide (Lf (M 10 1) (M 51) (M 54) (M 10 0 &&& (s ^^^ (-1))) (sqN w h) = k) then gth acc s else acc) (0, -4, 0)).2.1) = _
    rw [b.1, b.2.1, a1, a2]
    cases decide (x = 0) with
    | true => rfl
    | false =>
      cases A with
      | nil => rfl
      | cons y A => rw [decide_eq_false (nI_ne0 (by rw [List.length_cons]; omega) a4)]; rfl
theorem gwt_wok (se os : Nat → Int32) (wh : Int32) (wo wn : Nat → Int32) (br : Int32) : ∀ k, wok (gwt se os wh wo wn k).2.1 (gwt se os wh wo wn k).2.2 br (gwt se os wh wo wn k).1 = (List.range k).all (fun j => decide (se (j + 1) = -4) || decide (bcE ((wh &&& os (j + 1)) &&& (br ^^^ (-1))) = se (j + 1)))
  | 0 => rfl
  | k + 1 => by
    have cg : ∀ (wo wn : Nat → Int32) (c : Nat) (a b : Int32) (m : Nat), m ≤ c → wok (upd wo c a) (upd wn c b) br m = wok wo wn br m := by
      intro wo wn c a b m
      induction m with
      | zero => intro _; rfl
      | succ m ih =>
        intro hm
        show (wok _ _ br m && decide (bcE (upd wo c a m &&& _) = upd wn c b m)) = (wok _ _ br m && _)
        rw [ih (by omega)]
        unfold upd
        rw [if_neg (by omega), if_neg (by omega)]
    rw [gwt_s, List.range_succ, List.all_append, ← gwt_wok se os wh wo wn br k]
    by_cases h : se (k + 1) = -4
    · rw [decide_eq_true h, if_pos rfl]
      simp [h]
    · rw [decide_eq_false h, if_neg (by decide)]
      show (wok (upd _ _ _) (upd _ _ _) br (gwt se os wh wo wn k).1 && decide (bcE (upd (gwt se os wh wo wn k).2.1 (gwt se os wh wo wn k).1 (wh &&& os (k + 1)) (gwt se os wh wo wn k).1 &&& (br ^^^ (-1))) = upd (gwt se os wh wo wn k).2.2 (gwt se os wh wo wn k).1 (se (k + 1)) (gwt se os wh wo wn k).1)) = _
      rw [cg _ _ _ _ _ _ (Nat.le_refl _)]
      simp [upd, h]
theorem so3_all (se sz rm : Nat → Int32) (sq : Nat) (set : Int32) : ∀ k, so3 se sz rm sq set k = (List.range k).all (fun j => decide (se (j + 1) = -4) || decide (Wh sz rm (nI (j + 1)) set sq = se (j + 1)))
  | 0 => rfl
  | k + 1 => by rw [so3_s, List.range_succ, List.all_append, ← so3_all se sz rm sq set k]; simp
theorem op_gone (hI : Inv Z ext M) (a x : Int32) : OpI mX9_gone mX10_gone [.int a, .int x] Z ext M := by
  obtain ⟨w, h, n0, k0, k1, hw, hG, hT, hIm, hP, hS, hF1, hF2, hF3⟩ := id hI
  have hf := gf hw
  cases hx : (rg a 0 4 && rg x 0 2) with
  | false => exact op_pure hI (c_goneX a x hx) (c_m_goneX a x hx) rfl
  | true =>
    rw [Bool.and_eq_true] at hx
    obtain ⟨x1, x3⟩ := hx
    obtain ⟨n, -, hn, rfl⟩ := rg_nat (x := a) (a := 0) (b := 4) (by decide) (by decide) x1
    refine op_eq hI (c_gone n x hn x3 hG.1.2.2.1 hf.2.2.1 hG.1.2.2.2 hf.1 rfl) (fun M1 hI1 hE => ?_)
    obtain ⟨e49, e51, e54, e4, e5, -, -⟩ := eqm_rf hE
    have hr := c_m_gone (Z := Z) (ext := ext) (M := M1) (mt := mtN w h) (sq := sqN w h) n x hn x3 (by rw [e4]; exact hG.2.1.2.2.1) hf.2.2.1 (by rw [e5]; exact hG.2.1.2.2.2) hf.1
    rw [e49, e51, e54, hT.1] at hr
    refine Ct.imp hr (fun r M' q => ⟨?_, q.2⟩)
    rw [q.1]
    refine oi ?_
    obtain ⟨A, a1, a2, a3, a4, a5⟩ := pick_two (L := M 10 0) (rm := M 5) (sq := sqN w h) (mt := mtN w h) (n := n) (b0 := M 27) (t0 := M 28) (f := M1 63) (co := 0) (w := (gwt (M 12) (M 6) (orb (inc (M 5) (M 10 0)) (sqN w h)) (M 25) (M 26) 3).1) (wo := (gwt (M 12) (M 6) (orb (inc (M 5) (M 10 0)) (sqN w h)) (M 25) (M 26) 3).2.1) (wn := (gwt (M 12) (M 6) (orb (inc (M 5) (M 10 0)) (sqN w h)) (M 25) (M 26) 3).2.2) (P := fun s => so3 (fun k => M 49 (32 + k)) (M 51) (M 54) (sqN w h) (M 10 0 &&& (s ^^^ (-1))) 3) hf.1 hf.2.2.1 hn (fun s => by
      rw [gwt_wok, so3_all]
      have step : ∀ j, j < 3 → (decide (M 12 (j + 1) = -4) || decide (bcE ((orb (inc (M 5) (M 10 0)) (sqN w h) &&& M 6 (j + 1)) &&& (brk (M 5) (sqN w h) s ^^^ (-1))) = M 12 (j + 1))) = (decide (M 49 (32 + (j + 1)) = -4) || decide (Wh (M 51) (M 54) (nI (j + 1)) (M 10 0 &&& (s ^^^ (-1))) (sqN w h) = M 49 (32 + (j + 1)))) := by
        intro j hj
        have e12 : M 49 (32 + (j + 1)) = M 12 (j + 1) := by have := hT.2.2.2.1 (j + 1) (by omega) (by omega); rw [Nat.zero_add] at this; exact this
        rw [e12, whole_b hG hf (by omega) (by omega), orb_out _ hf.1, and_ac]
      show ((_ || _) && ((_ || _) && ((_ || _) && true))) = ((_ || _) && ((_ || _) && ((_ || _) && true)))
      rw [step 0 (by decide), step 1 (by decide), step 2 (by decide)])
    have b := a5 _ rfl
    unfold vGone cGone
    have ef : (Lx (bo (fsR (M 10 0) (M1 63) (mtN w h))) (fsC (M 10 0) (mtN w h)) n (fsC (M 10 0) (mtN w h)) 0).foldl (stG (fun k => M 49 (32 + k)) (M 51) (M 54) (sqN w h) (M 10 0)) (0, -4, 0) = (Lx (bo (fsR (M 10 0) (M1 63) (mtN w h))) (fsC (M 10 0) (mtN w h)) n (fsC (M 10 0) (mtN w h)) 0).foldl (fun acc s => if so3 (fun k => M 49 (32 + k)) (M 51) (M 54) (sqN w h) (M 10 0 &&& (s ^^^ (-1))) 3 then gth acc s else acc) (0, -4, 0) := rfl
    rw [ef, b.1, b.2.1, a1, a2, a3]
    cases decide (x = 0) with
    | true => rfl
    | false =>
      cases A with
      | nil => rfl
      | cons y A => rw [decide_eq_false (nI_ne0 (by rw [List.length_cons]; omega) a4), b.2.2 (by simp)]; rfl
end PO
