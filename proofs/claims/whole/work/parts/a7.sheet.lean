/-! ===== calls: count, sheet, lay, read ===== -/
theorem mBits_ct (v : Int32) : ∀ n, n ≤ 32 → mBits v n = nI (fb_ct (bi v) n)
  | 0, _ => rfl
  | n + 1, h => by
    rw [show mBits v (n + 1) = mBits v n + ((v >>> (nI n &&& 31)) &&& 1) from rfl, mBits_ct v n (by omega), shr_bi v (by omega), fb_ct_succ]
    cases bi v n
    · exact Int32.add_zero _
    · exact nI_1 _
theorem csR_e {st co : Nat → Int32} (h : ∀ k, k < 31 → st (k + 1) = co k) : ∀ n, n ≤ 31 → csl (st 0) co n = csR st n
  | 0, _ => rfl
  | n + 1, hn => by
    rw [csl_s, show csR st (n + 1) = csR st n + (if lies (st 0) (nI n) then st (n + 1) else 0) from rfl, csR_e h n (by omega), h n (by omega)]
    by_cases hb : (st 0 >>> (nI n &&& 31)) &&& 1 = 0
    · rw [decide_eq_true hb, if_pos rfl, lies_f hb, if_neg (by decide), Int32.add_zero]
    · rw [decide_eq_false hb, if_neg (by decide), lies_t hb, if_pos rfl]
theorem csR_z {st : Nat → Int32} {mt : Nat} (h : ∀ i, bi (st 0) i = true → i < mt) : ∀ d, mt + d ≤ 31 → csR st (mt + d) = csR st mt
  | 0, _ => rfl
  | d + 1, hd => by
    rw [show mt + (d + 1) = mt + d + 1 by omega, show csR st (mt + d + 1) = csR st (mt + d) + (if lies (st 0) (nI (mt + d)) then st (mt + d + 1) else 0) from rfl, csR_z h d (by omega)]
    have : lies (st 0) (nI (mt + d)) = false := by
      rw [lies_bi _ (by omega)]
      cases hb : bi (st 0) (mt + d) with
      | false => rfl
      | true => have := h _ hb; omega
    rw [this, if_neg (by decide), Int32.add_zero]
theorem kp_ct : ∀ k0 k1, b2i k0 + b2i k1 = bcE (nI (kpN k0 k1)) := by decide +kernel
section QO
variable {Z : List (Option Nat)} {ext : List Ds} {M : Mm}
theorem count_e {w h n : Nat} {k0 k1 : Bool} (hI : InvW w h n k0 k1 Z ext M) (s0 : Option Nat) (hs0 : (match s0 with | none => (-4 : Int32) | some z => nI z) = (if decide (M 68 0 = -4) then -4 else M 69 0)) (a : Int32) : vCountR (M 49) (M 50) (mtN w h) (M 48 19) (M 68 0) (M 69 0) a = vCountC (M 10 0) (M 11) (M 12) (M 0 11) (M 13 1) s0 a := by
  obtain ⟨hw, hG, ⟨t1, t2, t3, t4, t5, t6⟩, ⟨i1, i2, i3, i4, i5⟩, ⟨p1, p2, p3, p4⟩, hS, hF1, hF2, hF3⟩ := hI
  have hf := gf hw
  have hm := hf.2.2.1
  have e0 : mBits (M 49 0) 31 = bcE (M 10 0) := by
    rw [t1, mBits_ct _ 31 (by decide), bcE_pc]
    have : bi (M 10 0) 31 = false := by
      cases hb : bi (M 10 0) 31 with
      | false => rfl
      | true => have := t5 31 hb; omega
    rw [pc_ct (p := bi (M 10 0)) (n := 31) (by decide) (fun _ _ => rfl) (fun q h1 h2 => by rw [show q = 31 by omega]; exact this)]
  have e1 : szR (M 49) 3 = szs (M 12) 3 := by
    have s1 : M 49 33 = M 12 1 := t4 1 (by decide) (by decide)
    have s2 : M 49 34 = M 12 2 := t4 2 (by decide) (by decide)
    have s3 : M 49 35 = M 12 3 := t4 3 (by decide) (by decide)
    have st : ∀ (x y : Int32) (c : Bool), x + b2i (!c) = if c then x else x + 1 := by
      intro x y c
      cases c
      · rfl
      · exact Int32.add_zero _
    rw [show szR (M 49) 3 = 0 + b2i (!decide (M 49 33 = -4)) + b2i (!decide (M 49 34 = -4)) + b2i (!decide (M 49 35 = -4)) from rfl, s1, s2, s3, st _ 0, st _ 0, st _ 0]
    rfl
  have e5 : csR (M 49) (mtN w h) = csl (M 10 0) (M 11) 31 := by
    rw [← t1, csR_e (fun k hk => (show M 49 (k + 1) = M 11 k by have := t3 k hk; rw [show 0 + 1 + k = k + 1 by omega] at this; exact this)) 31 (by decide)]
    have := csR_z (st := M 49) (mt := mtN w h) (fun i hi => t5 i (by rw [← t1]; exact hi)) (31 - mtN w h) (by omega)
    rw [show mtN w h + (31 - mtN w h) = 31 by omega] at this
    exact this.symm
  unfold vCountR vCountC
  rw [e0, e1, e5, i2, i3, kp_ct, i1, p2, p3]
  cases s0 with
  | none => dsimp only at hs0 ⊢; rw [← hs0]
  | some z => dsimp only at hs0 ⊢; rw [← hs0]
theorem op_count (hI : Inv Z ext M) (a : Int32) : OpI mX9_count mX10_count [.int a] Z ext M := by
  obtain ⟨w, h, n, k0, k1, hIW⟩ := id hI
  obtain ⟨hw, hG, hT, ⟨i1, i2, i3, i4, i5⟩, hP, ⟨s1, s2, s3, s4⟩, hF⟩ := id hIW
  have hf := gf hw
  have cr := c_m_count (Z := Z) (ext := ext) (M := M) a hG.2.1.2.2.1 hf.2.2.1 i2 i3
  rcases s3 0 (by decide) with ⟨c1, c2, c3⟩ | ⟨c, z, c1, c2, c3, c4, c5, c6⟩
  · exact op_pure hI (c_countN a s1 c1) cr (count_e hIW none (by rw [c2]; rfl) a)
  · have hne : ¬ M 68 0 = -4 := fun q => by rw [q] at c4; revert c4; decide
    exact op_pure hI (c_count a s1 c2) cr (count_e hIW (some z) (by rw [decide_eq_false hne, c5]; rfl) a)
theorem ix4 (a : Int32) : ix a 4 = rg a 0 3 := (rg_ix a (n := 4) (by decide)).symm
theorem ix3 (a : Int32) : ix a 3 = rg a 0 2 := (rg_ix a (n := 3) (by decide)).symm
theorem op_lay (hI : Inv Z ext M) (a b c : Int32) : OpI mX9_lay mX10_lay [.int a, .int b, .int c] Z ext M := by
  obtain ⟨w, h, n, k0, k1, hIW⟩ := id hI
  obtain ⟨hw, hG, hT, hIm, hP, ⟨s1, s2, s3, s4⟩, hF1, hF2, hF3⟩ := id hIW
  cases hx : ix a 4 with
  | false => exact op_pure hI (c_layX a b c hx) (c_m_layX a b c (by rw [← ix4]; exact hx)) rfl
  | true =>
    obtain ⟨k, hk, rfl⟩ := (ix_t (by decide)).mp hx
    rcases s3 k hk with ⟨c1, c2, c3⟩ | ⟨q, z, c1, c2, c3, c4, c5, c6⟩
    · exact op_pure hI (c_layN k b c hk s1 c1) (c_m_layN k b c hk c2) rfl
    · have hne : ¬ M 68 k = -4 := fun q => by rw [q] at c4; revert c4; decide
      have hz := c2.2.2.2
      cases hi : ix b z with
      | false => exact op_pure hI (c_layI k b c hk s1 c2 hi) (c_m_layI k b c hk hne c5 hz hi) rfl
      | true =>
        obtain ⟨j, hj, rfl⟩ := (ix_t (by omega)).mp hi
        have hq70 : q + 1 ≠ 70 := by omega
        have cr := c_m_lay (Z := Z) (ext := ext) (M := up2 M (q + 1) j (lnv (M q 0) c)) k j c hk (z := z) (by rw [up2_n _ _ (show 68 ≠ q + 1 by omega)]; exact hne) (by rw [up2_n _ _ (show 69 ≠ q + 1 by omega)]; exact c5) hz hj
        rw [up2_n M (lnv (M q 0) c) (show 68 ≠ q + 1 by omega), ← c3] at cr
        refine op_rt (c_lay k j c hk s1 c2 hj) cr rfl ?_
        have lo : ∀ x, x < 70 → up2 (up2 M (q + 1) j (lnv (M q 0) c)) 70 (40 * k + j) (lnv (M q 0) c) x = M x := by
          intro x hx
          rw [up2_n _ _ (show x ≠ 70 by omega), up2_n _ _ (show x ≠ q + 1 by omega)]
        refine ⟨w, h, n, k0, k1, hw, hG.c ⟨⟨lo 1 (by decide), lo 2 (by decide), lo 3 (by decide), lo 4 (by decide), lo 5 (by decide), lo 6 (by decide), lo 7 (by decide), lo 8 (by decide), lo 9 (by decide)⟩, ⟨lo 51 (by decide), lo 52 (by decide), lo 53 (by decide), lo 54 (by decide)⟩, congrFun (lo 48 (by decide)) 2, congrFun (lo 48 (by decide)) 3, congrFun (lo 48 (by decide)) 4, congrFun (lo 48 (by decide)) 5⟩, hT.c (fun k _ _ => congrFun (lo 49 (by decide)) k) (lo 10 (by decide)) (lo 11 (by decide)) (lo 12 (by decide)), hIm.c (congrFun (lo 0 (by decide)) 11) (lo 50 (by decide)) (fun k _ => congrFun (lo 49 (by decide)) k) ⟨lo 42 (by decide), lo 43 (by decide), lo 44 (by decide), lo 45 (by decide), lo 46 (by decide), lo 47 (by decide)⟩, hP.c (congrFun (lo 13 (by decide)) 1) (congrFun (lo 48 (by decide)) 19) (lo 14 (by decide)) (lo 57 (by decide)), ⟨s1, s2, fun k' hk' => ?_, s4⟩, ?_, ?_, fun x hx => ?_⟩
        · rw [lo 68 (by decide), lo 69 (by decide)]
          rcases s3 k' hk' with hn | ⟨q', z', d1, d2, d3, d4, d5, d6⟩
          · exact Or.inl hn
          · have hqa : q' ≠ q + 1 := by
              intro e
              have e1 := d2.2.1
              have e2 := c2.2.2.1
              rw [e, e2] at e1
              cases e1
            refine Or.inr ⟨q', z', d1, d2, ?_, d4, d5, fun i hi => ?_⟩
            · rw [up2_n _ _ (show q' ≠ 70 by omega), up2_n _ _ hqa]; exact d3
            · rw [up2_n _ _ (show q' + 1 ≠ 70 by omega), up2_s (up2 M (q + 1) j (lnv (M q 0) c)) 70]
              have hz' := d2.2.2.2
              by_cases hkk : k' = k
              · subst hkk
                have : q' = q := by
                  have e1 := d2.1
                  rw [c2.1] at e1
                  injection e1 with e1
                  injection e1 with e1
                  exact e1.symm
                subst this
                rw [up2_s M (q' + 1) j, up2_n M _ (show 70 ≠ q' + 1 by omega)]
                unfold upd
                by_cases hij : i = j
                · rw [if_pos hij, if_pos (by omega)]
                · rw [if_neg hij, if_neg (by omega)]
                  exact d6 i hi
              · have hqq : q' ≠ q := fun e => hkk (s4 k' k q hk' hk (by rw [← e]; exact d2.1) c2.1)
                rw [up2_n M _ (show q' + 1 ≠ q + 1 by omega), up2_n M _ (show 70 ≠ q + 1 by omega)]
                unfold upd
                rw [if_neg (by omega)]
                exact d6 i hi
        · rw [lo 15 (by decide), lo 48 (by decide)]; exact hF1
        · rw [lo 0 (by decide), lo 48 (by decide)]; exact hF2
        · rw [lo 40 (by decide)]; exact hF3 x hx
theorem rdF_cg {fl ce ce' : Nat → Int32} {mt : Nat} {L0 : Int32} (h : ∀ i, fl i = 0 → ce i = ce' i) : ∀ (r i t : Nat) (L : Int32), rdF fl ce mt L0 r i t L = rdF fl ce' mt L0 r i t L
  | 0, _, _, _ => rfl
  | r + 1, i, t, L => by
    rw [rdF_s, rdF_s]
    by_cases h0 : fl i = 0
    · rw [decide_eq_true h0, if_pos rfl, if_pos rfl, h i h0, rdF_cg h r]
    · rw [decide_eq_false h0, if_neg (by decide), if_neg (by decide)]
theorem rdF_cg2 {fl ce ce' : Nat → Int32} {mt : Nat} {L0 : Int32} (z : Nat) (hz : z ≤ 40) (h : ∀ i, i < 100 → fl i = 0 → ce i = ce' i) : ∀ (r i t : Nat) (L : Int32), i + r < 100 → rdF fl ce mt L0 r i t L = rdF fl ce' mt L0 r i t L
  | 0, _, _, _, _ => rfl
  | r + 1, i, t, L, hi => by
    rw [rdF_s, rdF_s]
    by_cases h0 : fl i = 0
    · rw [decide_eq_true h0, if_pos rfl, if_pos rfl, h i (by omega) h0, rdF_cg2 z hz h r (i + 1) (t + 1) _ (by omega)]
    · rw [decide_eq_false h0, if_neg (by decide), if_neg (by decide)]
theorem rdF_L {fl ce : Nat → Int32} {mt : Nat} (hm : mt ≤ 31) {L0 : Int32} {j : Nat} : ∀ (r i t : Nat) (L : Int32), bi (rdF fl ce mt L0 r i t L).2.2 j = true → bi L j = true ∨ bi L0 j = true
  | 0, _, _, _, hb => Or.inl hb
  | r + 1, i, t, L, hb => by
    rw [rdF_s] at hb
    split at hb
    · split at hb
      · rename_i h1
        rw [Bool.and_eq_true] at h1
        obtain ⟨q, hq, he⟩ := (ix_t (by omega)).mp h1.1
        rcases rdF_L hm r _ _ _ hb with h2 | h2
        · rw [he, bi_outS _ (by omega), Bool.and_eq_true] at h2
          exact Or.inl h2.1
        · exact Or.inr h2
      · exact Or.inr hb
    · exact Or.inl hb
theorem rd_inv {w h n : Nat} {k0 k1 : Bool} (hI : InvW w h n k0 k1 Z ext M) (x : Int32 × Option Int32 × Int32) (hb : ∀ i, bi x.2.2 i = true → i < mtN w h) : Inv Z ext (rdM (rdC M x) x) := by
  obtain ⟨v, o, L⟩ := x
  cases o with
  | none => exact inv_L hI hb
  | some t =>
    have h1 := inv_L hI hb
    obtain ⟨w', h', n', a0, a1, hw, hG, hT, hIm, hP, hS, hF1, hF2, hF3⟩ := h1
    show Inv Z ext (up2 (up2 (up2 (up2 M 10 0 L) 0 12 t) 49 0 L) 48 46 t)
    refine ⟨w', h', n', a0, a1, hw, hG.c ⟨⟨rfl, rfl, rfl, rfl, rfl, rfl, rfl, rfl, rfl⟩, ⟨rfl, rfl, rfl, rfl⟩, rfl, rfl, rfl, rfl⟩, hT.c (fun _ _ _ => rfl) rfl rfl rfl, hIm.c rfl rfl (fun _ _ => rfl) ⟨rfl, rfl, rfl, rfl, rfl, rfl⟩, hP.c rfl rfl rfl rfl, hS.c rfl rfl rfl (fun c hc => ?_), hF1, rfl, hF3⟩
    rw [up2_hi (by decide) c hc, up2_hi (by decide) c hc, up2_hi (by decide) c hc, up2_hi (by decide) c hc, up2_hi (by decide) c hc, up2_hi (by decide) c hc]
theorem rdC_lo (x : Int32 × Option Int32 × Int32) {c : Nat} (h0 : c ≠ 0) (h10 : c ≠ 10) : rdC M x c = M c := by
  obtain ⟨v, o, L⟩ := x
  cases o with
  | none => exact up2_n M L h10
  | some t =>
    show up2 (up2 M 10 0 L) 0 12 t c = M c
    rw [up2_n _ _ h0, up2_n _ _ h10]
theorem op_read (hI : Inv Z ext M) (a b c d : Int32) : OpI mX9_read mX10_read [.int a, .int b, .int c, .int d] Z ext M := by
  obtain ⟨w, h, n, k0, k1, hIW⟩ := id hI
  obtain ⟨hw, hG, hT, hIm, hP, ⟨s1, s2, s3, s4⟩, hF1, hF2, hF3⟩ := id hIW
  have hf := gf hw
  have hm := hf.2.2.1
  cases hx : (ix a 4 && ix b 3 && rg d 0 20) with
  | false => exact op_pure hI (c_readX a b c d hx) (c_m_readX a b c d (by rw [← ix4, ← ix3]; exact hx)) rfl
  | true =>
    rw [Bool.and_eq_true, Bool.and_eq_true] at hx
    obtain ⟨⟨h1, h2⟩, h3⟩ := hx
    obtain ⟨k, hk, rfl⟩ := (ix_t (by decide)).mp h1
    obtain ⟨m, -, hm20, rfl⟩ := rg_nat (a := 0) (b := 20) (by decide) (by decide) h3
    have hl : rg b 0 2 = true := by rw [← ix3]; exact h2
    have mk : ∀ (x : Int32 × Option Int32 × Int32) (z : Nat) (hz40 : z ≤ 40) (hz : M 69 k = nI z), rdF (fltR (M 68 k) b c z) (fun i => M 70 (40 * k + (c + nI i).toNatClampNeg)) (mtN w h) (M 10 0) m 0 0 (M 10 0) = x → Ct mX9_read [.ref 0, .int (nI k), .int b, .int c, .int (nI m)] (SS Z ext) M (Rt (some (.int x.1)) (rdC M x)) → OpI mX9_read mX10_read [.int (nI k), .int b, .int c, .int (nI m)] Z ext M := by
      intro x z hz40 hz hx cc
      have e48 := rdC_lo (M := M) x (c := 48) (by decide) (by decide)
      have e49 := rdC_lo (M := M) x (c := 49) (by decide) (by decide)
      have e68 := rdC_lo (M := M) x (c := 68) (by decide) (by decide)
      have e69 := rdC_lo (M := M) x (c := 69) (by decide) (by decide)
      have e70 := rdC_lo (M := M) x (c := 70) (by decide) (by decide)
      have cr := c_m_read (Z := Z) (ext := ext) (M := rdC M x) (mt := mtN w h) (sq := sqN w h) (z := z) k m b c hk hl hm20 (by rw [e69]; exact hz) hz40 (by rw [e48]; exact hG.2.1.2.2.1) hm (by rw [e48]; exact hG.2.1.2.2.2) hf.1
      rw [e49, e68, e70, hT.1, hx] at cr
      refine op_rt cc cr rfl (rd_inv hIW x (fun i hi => ?_))
      rw [← hx] at hi
      rcases rdF_L hm m 0 0 _ hi with h4 | h4 <;> exact hT.2.2.2.2.1 i h4
    rcases s3 k hk with ⟨c1, c2, c3⟩ | ⟨q, z, c1, c2, c3, c4, c5, c6⟩
    · refine mk _ 0 (by decide) c3 rfl ?_
      rw [c2]
      exact c_readN (Z := Z) (ext := ext) (M := M) (mt := mtN w h) (z := 0) k m b c (fun i => M 70 (40 * k + (c + nI i).toNatClampNeg)) hk h2 hm20 s1 c1
    · have hne : ¬ M q 0 = -4 := fun e => by rw [c3] at e; rw [e] at c4; revert c4; decide
      have hz := c2.2.2.2
      have cc := c_read (Z := Z) (ext := ext) (M := M) (mt := mtN w h) k m b c hk h2 hm20 s1 c2 hne (by omega) (by omega) hG.1.2.2.1
      have e : rdF (fltR (M 68 k) b c z) (fun i => M 70 (40 * k + (c + nI i).toNatClampNeg)) (mtN w h) (M 10 0) m 0 0 (M 10 0) = rdF (fltR (M q 0) b c z) (fun i => M (q + 1) (c + nI i).toNatClampNeg) (mtN w h) (M 10 0) m 0 0 (M 10 0) := by
        rw [c3]
        refine rdF_cg2 z hz ?_ m 0 0 _ (by omega)
        intro i hi h0
        obtain ⟨r, hr1, hr2⟩ := idx_q (f := c) (i := i) (by omega) hz (fltR_0 h0)
        rw [hr2, nI_clamp (by omega)]
        exact (c6 r hr1).symm
      refine mk _ z hz c5 e ?_
      exact cc
end QO
