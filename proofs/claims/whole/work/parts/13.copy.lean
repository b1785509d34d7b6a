/-! ===== System.arraycopy of ints ===== -/
theorem ac_nat : Cond.native arraycopyName ∈ gw := tb 575 (by decide +kernel) (by decide +kernel)
theorem ac_sta : Cond.static arraycopyName ∈ gw := tb 574 (by decide +kernel) (by decide +kernel)
theorem ac_ini : Cond.initialized "java/lang/System" ∈ gw := tb 16 (by decide +kernel) (by decide +kernel)
theorem ml_X6_31 : Cond.methodLink RX6 31 arraycopyName ∈ gw := tb 573 (by decide +kernel) (by decide +kernel)
theorem ml_X0_38 : Cond.methodLink RX0 38 arraycopyName ∈ gw := tb 662 (by decide +kernel) (by decide +kernel)
theorem x_copy {i : Mi} {F : Fn} {cells slots : Nat} {S : List Ds} {M : Mm} {pc : Nat} {lv : Lv} {st : List Value} {idx c0 c1 n0 n1 n : Nat} {vn v0 v1 : Int32} (hl0 : Cond.methodLink (mY i).cls idx arraycopyName ∈ gw) (hd : decode (mC i) pc = .ok (.invokestatic idx, 3)) (h0 : lk S c0 = some (.inl (.int, n0))) (h1 : lk S c1 = some (.inl (.int, n1))) (hn : vn = nI n) (e0 : v0 = 0) (e1 : v1 = 0) (hle0 : n ≤ n0) (hle1 : n ≤ n1) (hn31 : n < 2 ^ 31)
    (hR : 1 ≤ (mM i).frames ∧ (st.map fun v => v.category).sum + 18 ≤ (mM i).locals) (kk : XW i F cells slots S (upr M c1 (va_cpy (M c0) (M c1) 0 0 n)) (pc + 3) lv st) : XW i F cells slots S M pc lv (.int vn :: .int v1 :: .ref c1 :: .int v0 :: .ref c0 :: st) := by
  intro p l e s m args below meth cd D cA rw A ad0 ad H locs ls cx hpre hlen hP hD hS hl
  subst hn; subst e0; subst e1
  have hc : (nI n).toNatClampNeg = n := nI_clamp hn31
  have hz : (0 : Int32).toNatClampNeg = 0 := rfl
  refine va_copyi (D := D) (cl := vwCl) (ws := wl cA ad rw M 0 S) (tys := ktys cA) (A := A) (ty := .int) (f := M c0) (g := M c1) (n0 := n0) (n1 := n1) (sp := 0) (dp := 0) (n := nI n) cx.1 cx.2.1 (by rw [cx.2.2.1, hl.1]) cx.2.2.2.2.1 (cx.2.2.2.2.2.2.2.1 _ hl0) (cx.2.2.2.2.2.2.2.1 _ ac_nat) (cx.2.2.2.2.2.2.2.1 _ ac_sta) (cx.2.2.2.2.2.2.2.1 _ ac_ini) cx.2.2.2.2.2.2.2.2.1 hP hD hS c0 c1 0 0 (wl_lk h0) (wl_lk h1) rfl rfl rfl (by decide) (by decide) (nI_pos hn31) (by rw [hc, hz]; omega) (by rw [hc, hz]; omega) (fun _ _ => rfl) hR.1 (by rw [cat_map]; exact hR.2) hd (fun H1 locs1 hP1 hD1 hS1 => ?_)
  rw [hc, hz] at hP1 hD1
  rw [wl_set (M' := upr M c1 (va_cpy (M c0) (M c1) 0 0 n)) h1 (fun j hj => upr_n M _ hj) (by simp [en, upr_s])] at hP1 hD1
  exact kk p l e s m args below meth cd D cA rw A ad0 ad H1 locs1 ls cx hpre hlen hP1 hD1 hS1 hl
