/-! ===== the start ===== -/

theorem start_walk {L : Nat} {xs : Nat → Int32} (hI : Inv Zn [] Mst) (ops : Ops) (hL : L ≤ 2560) : XW mL_law (Flaw L xs) 0 0 [] M0 0 [some (.retAddr 300), none, none, none] [] := by
  refine x_newo (rs := [some none, some none, some none, some none, some none, some none, some none, some none, some none, some none, some none, none, none]) nw_X9 rfl cl_L_7 dL_law_0 rfl rfl rfl rfl (by decide +kernel) (by decide +kernel) ?_
  refine x_dup dL_law_3 rfl ?_
  refine x_callI mf_X9_init ml_L_9 dL_law_4 rfl ⟨by decide +kernel, by decide +kernel⟩ (Nat.le_of_ble_eq_true rfl) ⟨by decide +kernel, by decide +kernel⟩ rfl rfl c_X9_init (fun r S' M' h => ?_)
  obtain ⟨h1, h2, h3⟩ := h
  subst h1; subst h2; subst h3
  refine x_astore_n dL_law_7 (by decide) ?_
  refine x_newo (rs := [some none, some none, none, none, none, none, some none, some none, some none, some none, none, none, none, some none, none, some none, none, none, some none, none, none, none, none, none, none, none, some none, some none, some none, some none, some none, none, none, none, some none, none, some none, none, none, none, some none, some none, some none, some none, some none, some none, none]) nw_X10 rfl cl_L_10 dL_law_8 rfl rfl rfl rfl (by decide +kernel) (by decide +kernel) ?_
  refine x_dup dL_law_11 rfl ?_
  refine x_callI mf_X10_init ml_L_12 dL_law_12 rfl ⟨by decide +kernel, by decide +kernel⟩ (Nat.le_of_ble_eq_true rfl) ⟨by decide +kernel, by decide +kernel⟩ rfl rfl c_X10_init (fun r S' M' h => ?_)
  obtain ⟨h1, h2, h3⟩ := h
  subst h1; subst h2; subst h3
  refine x_astore_n dL_law_15 (by decide) ?_
  refine x_iconst (v := 0) dL_law_16 (by decide) ?_
  refine x_istore_n dL_law_17 (by decide) ?_
  exact law_at ops hL (L + 1) 0 _ _ Zn [] Mst (by omega) (by omega) (by decide +kernel) (by decide +kernel) hI
