/-! ===== calls: sheet ===== -/
theorem wfSS {n : Nat} (hn : 71 ≤ n) (Z : List (Option Nat)) (ext : List Ds) : wfS n (SS Z ext) = (Z.all (oko n) && wfS n ext) := by
  have h : ∀ q, q ≤ 70 → decide (q < n) = true := fun q hq => decide_eq_true (by omega)
  have e : wfS n (SS Z ext) = (wfS n (SC Zn) && (Z.all (oko n) && wfS n ext)) := by
    have h38 : wfS n (SC Zn) = true := wfS_mono (n := 48) (by omega) (by decide +kernel)
    have h71 : wfS n (SS Zn []) = true := wfS_mono (n := 71) hn (by decide +kernel)
    rw [h38, Bool.true_and]
    have s1 : SS Z ext = (SS Zn []).take 38 ++ (.inr (.inl (RX5, Z)) :: (SS Zn []).drop 39) ++ ext := rfl
    have a1 : wfS n ((SS Zn []).take 38) = true := by
      rw [← List.take_append_drop 38 (SS Zn []), wfS_app, Bool.and_eq_true] at h71
      exact h71.1
    have a2 : wfS n ((SS Zn []).drop 39) = true := by
      rw [← List.take_append_drop 39 (SS Zn []), wfS_app, Bool.and_eq_true] at h71
      exact h71.2
    rw [s1, wfS_app, wfS_app, a1, Bool.true_and]
    show ((okd n (.inr (.inl (RX5, Z))) && wfS n ((SS Zn []).drop 39)) && wfS n ext) = _
    rw [a2, Bool.and_true]
    rfl
  have h38 : wfS n (SC Zn) = true := wfS_mono (n := 48) (by omega) (by decide +kernel)
  rw [e, h38, Bool.true_and]
theorem lkSS (Z : List (Option Nat)) (ext : List Ds) (c : Nat) : lk (SS Z ext) (c + 71) = lk ext c := rfl
theorem lk_append {α : Type} {l l2 : List α} {n : Nat} {a : α} (h : lk l n = some a) : lk (l ++ l2) n = some a := by
  rw [lk_eq] at h ⊢
  rw [List.getElem?_append_left (List.getElem?_eq_some_iff.mp h).1]
  exact h
theorem lk_lt {α : Type} {l : List α} {n : Nat} {a : α} (h : lk l n = some a) : n < l.length := by
  rw [lk_eq] at h
  exact (List.getElem?_eq_some_iff.mp h).1
theorem lk_set {α : Type} {l : List α} {n k : Nat} {a : α} (h : k ≠ n) : lk (l.set k a) n = lk l n := by
  rw [lk_eq, lk_eq, List.getElem?_set_ne h]
theorem lk_self {α : Type} {l : List α} {k : Nat} {a : α} (h : k < l.length) : lk (l.set k a) k = some a := by
  rw [lk_eq, List.getElem?_set_self h]
section NO
variable {Z : List (Option Nat)} {ext : List Ds} {M : Mm}
theorem ops_pure {args : List Value} {v : Int32} (hI : Inv Z ext M) (hc : Ct mX9_sheet (.ref 0 :: args) (SS Z ext) M (Rt (some (.int v)) M)) (hr : Ct mX10_sheet (.ref 48 :: args) (SS Z ext) M (Rt (some (.int v)) M)) : OpS args Z ext M :=
  ⟨v, Cg.imp hc (fun r S1 M1 q => ⟨q.2.1, Z, ext, q.1, by rw [q.2.2]; exact Ct.imp hr (fun r2 M2 q2 => ⟨q2.1, by rw [q2.2]; exact hI⟩)⟩)⟩
theorem op_sheet (hI : Inv Z ext M) (a b c : Int32) : OpS [.int a, .int b, .int c] Z ext M := by
  obtain ⟨w, h, n, k0, k1, hIW⟩ := id hI
  obtain ⟨hw, hG, hT, hIm, hP, ⟨s1, s2, s3, s4⟩, hF1, hF2, hF3⟩ := id hIW
  cases hx : (ix a 4 && ix b 3 && decide (c ≤ 40)) with
  | false => exact ops_pure hI (c_sheetX a b c hx) (c_m_sheetX a b c (by rw [← ix4, ← ix3]; exact hx))
  | true =>
    have hx2 : (rg a 0 3 && rg b 0 2 && decide (c ≤ 40)) = true := by rw [← ix4, ← ix3]; exact hx
    rw [Bool.and_eq_true, Bool.and_eq_true] at hx
    obtain ⟨⟨h1, h2⟩, h3⟩ := hx
    by_cases hn : c < 0
    · exact ops_pure hI (c_sheetN a b c h1 h2 hn) (c_m_sheetN a b c hx2 hn)
    · obtain ⟨k, hk, rfl⟩ := (ix_t (by decide)).mp h1
      have h40 : c ≤ 40 := of_decide_eq_true h3
      have h0 : 0 ≤ c := fa_of_nlt hn
      obtain ⟨N, -, hN, rfl⟩ := rg_nat (x := c) (a := 0) (b := 40) (by decide) (by decide) (rg_t.mpr ⟨h0, h40⟩)
      have hl : rg b 0 2 = true := by rw [← ix3]; exact h2
      have hcs := c_sheet (Z := Z) (ext := ext) (M := M) k N b hk h2 hN s1 s2
      refine ⟨1, Cg.imp hcs (fun r S1 M1 q => ⟨q.1, _, _, q.2.1, ?_⟩)⟩
      rw [q.2.2]
      refine Ct.imp (c_m_sheet (M := shC M (ext.length + 71) b) k b (nI N) hk hl h40 h0) (fun r2 M2 q2 => ⟨q2.1, ?_⟩)
      rw [q2.2]
      clear hcs q q2
      generalize hcc : ext.length + 71 = cc at *
      have lo : ∀ x, x < 68 → shM (shC M cc b) k b (nI N) x = M x := by
        intro x hx
        unfold shM shC
        rw [upr_n _ _ (show x ≠ 70 by omega), up2_n _ _ (show x ≠ 69 by omega), up2_n _ _ (show x ≠ 68 by omega), upr_n _ _ (show x ≠ cc + 1 by omega), up2_n _ _ (show x ≠ cc by omega), upr_n _ _ (show x ≠ cc by omega)]
      have e68 : shM (shC M cc b) k b (nI N) 68 = upd (M 68) k b := by
        unfold shM shC
        rw [upr_n _ _ (by decide), up2_n _ _ (by decide), up2_s, upr_n _ _ (show 68 ≠ cc + 1 by omega), up2_n _ _ (show 68 ≠ cc by omega), upr_n _ _ (show 68 ≠ cc by omega)]
      have e69 : shM (shC M cc b) k b (nI N) 69 = upd (M 69) k (nI N) := by
        unfold shM shC
        rw [upr_n _ _ (by decide), up2_s, up2_n _ _ (by decide), upr_n _ _ (show 69 ≠ cc + 1 by omega), up2_n _ _ (show 69 ≠ cc by omega), upr_n _ _ (show 69 ≠ cc by omega)]
      have e70 : shM (shC M cc b) k b (nI N) 70 = clz (M 70) (40 * k) 40 := by
        unfold shM
        rw [upr_s]
        unfold shC
        rw [upr_n _ _ (show 70 ≠ cc + 1 by omega), up2_n _ _ (show 70 ≠ cc by omega), upr_n _ _ (show 70 ≠ cc by omega)]
      have eo : ∀ x, 71 ≤ x → x ≠ cc → x ≠ cc + 1 → shM (shC M cc b) k b (nI N) x = M x := by
        intro x hx x1 x2
        unfold shM shC
        rw [upr_n _ _ (show x ≠ 70 by omega), up2_n _ _ (show x ≠ 69 by omega), up2_n _ _ (show x ≠ 68 by omega), upr_n _ _ x2, up2_n _ _ x1, upr_n _ _ x1]
      have ec : shM (shC M cc b) k b (nI N) cc 0 = b := by
        unfold shM shC
        rw [upr_n _ _ (show cc ≠ 70 by omega), up2_n _ _ (show cc ≠ 69 by omega), up2_n _ _ (show cc ≠ 68 by omega), upr_n _ _ (show cc ≠ cc + 1 by omega), up2_s]
        simp [upd]
      have ea : shM (shC M cc b) k b (nI N) (cc + 1) = fun _ => 0 := by
        unfold shM shC
        rw [upr_n _ _ (show cc + 1 ≠ 70 by omega), up2_n _ _ (show cc + 1 ≠ 69 by omega), up2_n _ _ (show cc + 1 ≠ 68 by omega), upr_s]
      have lkn : lk (SS (Z.set k (some cc)) (ext ++ [.inr (.inr (5, [none, some (some (cc + 1))])), .inl (.int, N)])) cc = some (.inr (.inr (5, [none, some (some (cc + 1))]))) := by
        rw [← hcc, lkSS, lk_eq, List.getElem?_append_right (Nat.le_refl _)]; simp
      have lkn2 : lk (SS (Z.set k (some cc)) (ext ++ [.inr (.inr (5, [none, some (some (cc + 1))])), .inl (.int, N)])) (cc + 1) = some (.inl (.int, N)) := by
        rw [← hcc, show ext.length + 71 + 1 = (ext.length + 1) + 71 by omega, lkSS, lk_eq, List.getElem?_append_right (by omega)]; simp
      have old : ∀ x d, 71 ≤ x → lk (SS Z ext) x = some d → x < cc ∧ lk (SS (Z.set k (some cc)) (ext ++ [.inr (.inr (5, [none, some (some (cc + 1))])), .inl (.int, N)])) x = some d := by
        intro x d hx hd
        obtain ⟨y, rfl⟩ : ∃ y, x = y + 71 := ⟨x - 71, by omega⟩
        rw [lkSS] at hd
        exact ⟨by have := lk_lt hd; omega, by rw [lkSS]; exact lk_append hd⟩
      have oldZ : ∀ j q, j < 4 → lk Z j = some (some q) → q < cc := by
        intro j q hj hq
        rcases s3 j hj with ⟨e1, -⟩ | ⟨q', z, d1, d2, -⟩
        · rw [e1] at hq; cases hq
        · rw [d2.1] at hq
          injection hq with hq; injection hq with hq
          subst hq
          exact (old q' _ d1 d2.2.1).1
      refine ⟨w, h, n, k0, k1, hw, hG.c ⟨⟨lo 1 (by decide), lo 2 (by decide), lo 3 (by decide), lo 4 (by decide), lo 5 (by decide), lo 6 (by decide), lo 7 (by decide), lo 8 (by decide), lo 9 (by decide)⟩, ⟨lo 51 (by decide), lo 52 (by decide), lo 53 (by decide), lo 54 (by decide)⟩, congrFun (lo 48 (by decide)) 2, congrFun (lo 48 (by decide)) 3, congrFun (lo 48 (by decide)) 4, congrFun (lo 48 (by decide)) 5⟩, hT.c (fun k _ _ => congrFun (lo 49 (by decide)) k) (lo 10 (by decide)) (lo 11 (by decide)) (lo 12 (by decide)), hIm.c (congrFun (lo 0 (by decide)) 11) (lo 50 (by decide)) (fun k _ => congrFun (lo 49 (by decide)) k) ⟨lo 42 (by decide), lo 43 (by decide), lo 44 (by decide), lo 45 (by decide), lo 46 (by decide), lo 47 (by decide)⟩, hP.c (congrFun (lo 13 (by decide)) 1) (congrFun (lo 48 (by decide)) 19) (lo 14 (by decide)) (lo 57 (by decide)), ⟨by rw [List.length_set]; exact s1, ?_, fun k' hk' => ?_, fun j k' q hj hk' h5 h6 => ?_⟩, ?_, ?_, fun x hx => ?_⟩
      · have hlen : (SS (Z.set k (some cc)) (ext ++ [.inr (.inr (5, [none, some (some (cc + 1))])), .inl (.int, N)])).length = cc + 2 := by
          show List.length (α := Ds) (ext ++ [.inr (.inr (5, [none, some (some (cc + 1))])), .inl (.int, N)]) + 71 = cc + 2
          rw [List.length_append]
          show ext.length + 2 + 71 = cc + 2
          omega
        have hlo : (SS Z ext).length = cc := hcc
        rw [hlen, wfSS (by omega)]
        rw [hlo, wfSS (by omega), Bool.and_eq_true] at s2
        rw [Bool.and_eq_true, wfS_app, Bool.and_eq_true]
        refine ⟨List.all_eq_true.mpr (fun o ho => ?_), wfS_mono (by omega) s2.2, ?_⟩
        · rcases List.mem_or_eq_of_mem_set ho with ho | rfl
          · exact oko_mono (by omega) (List.all_eq_true.mp s2.1 o ho)
          · exact decide_eq_true (by omega)
        · show ((true && (decide (cc + 1 < cc + 2) && true)) && (true && true)) = true
          rw [decide_eq_true (by omega)]
          rfl
      · rw [e68, e69, e70]
        by_cases hkk : k' = k
        · subst hkk
          refine Or.inr ⟨cc, N, by omega, ⟨lk_self (by omega), lkn, lkn2, hN⟩, ?_, ?_, ?_, fun i hi => ?_⟩
          · rw [ec]; simp [upd]
          · rw [show upd (M 68) k' b k' = b by simp [upd]]; exact hl
          · simp [upd]
          · rw [ea]
            unfold clz
            rw [if_pos (by omega)]
        · rcases s3 k' hk' with ⟨e1, e2, e3⟩ | ⟨q, z, d1, d2, d3, d4, d5, d6⟩
          · refine Or.inl ⟨by rw [lk_set (Ne.symm hkk)]; exact e1, ?_, ?_⟩
            · unfold upd; rw [if_neg hkk]; exact e2
            · unfold upd; rw [if_neg hkk]; exact e3
          · have o1 := old q _ d1 d2.2.1
            have o2 := old (q + 1) _ (by omega) d2.2.2.1
            refine Or.inr ⟨q, z, d1, ⟨by rw [lk_set (Ne.symm hkk)]; exact d2.1, o1.2, o2.2, d2.2.2.2⟩, ?_, ?_, ?_, fun i hi => ?_⟩
            · rw [eo q d1 (by omega) (by omega)]; unfold upd; rw [if_neg hkk]; exact d3
            · unfold upd; rw [if_neg hkk]; exact d4
            · unfold upd; rw [if_neg hkk]; exact d5
            · have hz := d2.2.2.2
              rw [eo (q + 1) (by omega) (by omega) (by omega)]
              unfold clz
              rw [if_neg (by omega)]
              exact d6 i hi
      · by_cases hj : j = k
        · by_cases hk2 : k' = k
          · rw [hj, hk2]
          · exfalso
            rw [hj, lk_self (by omega)] at h5
            rw [lk_set (Ne.symm hk2)] at h6
            injection h5 with h5; injection h5 with h5
            have := oldZ k' q hk' h6
            omega
        · by_cases hk2 : k' = k
          · exfalso
            rw [hk2, lk_self (by omega)] at h6
            rw [lk_set (Ne.symm hj)] at h5
            injection h6 with h6; injection h6 with h6
            have := oldZ j q ‹_› h5
            omega
          · rw [lk_set (Ne.symm hj)] at h5
            rw [lk_set (Ne.symm hk2)] at h6
            exact s4 j k' q ‹_› hk' h5 h6
      · rw [lo 15 (by decide), lo 48 (by decide)]; exact hF1
      · rw [lo 0 (by decide), lo 48 (by decide)]; exact hF2
      · rw [lo 40 (by decide)]; exact hF3 x hx
end NO
