/-! ===== the class: Game, setUp, playTaking ===== -/
def ndL (sqs : Int32) (rn : Nat → Int32) : Nat → List Int32
  | 0 => []
  | k + 1 => if lies sqs (nI k) && !decide (rn k = 0) then ndL sqs rn k ++ [rn k] else ndL sqs rn k
theorem ndL_s (sqs : Int32) (rn : Nat → Int32) (k : Nat) : ndL sqs rn (k + 1) = if lies sqs (nI k) && !decide (rn k = 0) then ndL sqs rn k ++ [rn k] else ndL sqs rn k := rfl
theorem ndL_len (sqs : Int32) (rn : Nat → Int32) : ∀ k, (ndL sqs rn k).length ≤ k
  | 0 => Nat.le_refl _
  | k + 1 => by
    have := ndL_len sqs rn k
    rw [ndL_s]; split
    · rw [List.length_append]; show _ + 1 ≤ _; omega
    · omega
theorem fsC_mono (g : Int32) : ∀ {a b : Nat}, a ≤ b → fsC g a ≤ fsC g b
  | a, 0, h => by rw [show a = 0 by omega]; exact Nat.le_refl _
  | a, b + 1, h => by
    rcases (show a = b + 1 ∨ a ≤ b by omega) with rfl | h1
    · exact Nat.le_refl _
    · have := fsC_mono g h1
      rw [fsC_s]; split <;> omega
theorem fsR_stay (g : Int32) (f : Nat → Int32) : ∀ {a b : Nat}, a ≤ b → fsC g a = fsC g b → fsR g f a = fsR g f b
  | a, 0, h, _ => by rw [show a = 0 by omega]
  | a, b + 1, h, he => by
    rcases (show a = b + 1 ∨ a ≤ b by omega) with rfl | h1
    · rfl
    · have hm := fsC_mono g h1
      rw [fsC_s] at he
      rw [fsR_s]
      split at he
      · omega
      · rename_i hl
        rw [if_neg hl]
        exact fsR_stay g f h1 he
def suM (M : Mm) (g sqs : Int32) (sq mt : Nat) : Mm := gmM M (M 33 0) (M 33 1) (nI (fsC g mt)) (nI (ndL sqs (fun q => rnm (fsR g (M 34) mt) (M 5 q) (fsC g mt)) sq).length) (fsR g (M 34) mt) (rowL (ndL sqs (fun q => rnm (fsR g (M 34) mt) (M 5 q) (fsC g mt)) sq) (M 35)) (M 36)
theorem su_needs {Z : List (Option Nat)} {ext : List Ds} {M : Mm} {sq p : Nat} (sqs g : Int32) (r34 : Nat → Int32) (hq : M 1 3 = nI sq) (hb : sq ≤ 20) (hp : p ≤ 12) (s0 : Int32) (l4 : Option Value) :
    XW mX1_setUp (Fc mX1_setUp (fun r S' M' => S' = SS Z ext ∧ Rt none (gmM M (M 33 0) (M 33 1) (nI p) (nI (ndL sqs (fun q => rnm r34 (M 5 q) p) sq).length) r34 (rowL (ndL sqs (fun q => rnm r34 (M 5 q) p) sq) (M 35)) (M 36)) r M')) 0 0 (SS Z ext) (gmM M (M 33 0) (M 33 1) (nI p) s0 r34 (M 35) (M 36)) 62 [some (.ref 33), some (.ref 1), some (.int sqs), some (.int g), l4, none] [] := by
  refine x_aload_n dX1_setUp_62 rfl ?_
  refine x_iconst (v := 0) dX1_setUp_63 (by decide) ?_
  refine x_put fl_X1_31 dX1_setUp_64 sf_33 rfl rfl rfl ?_
  refine x_iconst (v := 0) dX1_setUp_67 (by decide) ?_
  refine x_istore dX1_setUp_68 (by decide) ?_
  rw [gm_3]
  refine (lup (P := fun k => ∀ l5, XW _ _ 0 0 (SS Z ext) (gmM M (M 33 0) (M 33 1) (nI p) (nI (ndL sqs (fun q => rnm r34 (M 5 q) p) k).length) r34 (rowL (ndL sqs (fun q => rnm r34 (M 5 q) p) k) (M 35)) (M 36)) 70 [some (.ref 33), some (.ref 1), some (.int sqs), some (.int g), some (.int (nI k)), l5] []) (N := sq) ?_ ?_ 0 (by omega)) none
  · intro l5
    refine x_iload dX1_setUp_70 rfl ?_
    refine x_aload_n dX1_setUp_72 rfl ?_
    refine x_geti fl_X1_34 dX1_setUp_73 sf_1 rfl ?_
    refine x_icmp_ge 133 dX1_setUp_76 (by decide) (fun _ => ?_) (fun hc_ => absurd (by show M 1 3 ≤ nI sq; rw [hq]; exact nI_le (Nat.le_refl _) (by omega)) hc_)
    exact x_ret dX1_setUp_133 rfl (Nat.le_refl _) (Nat.le_refl _) ⟨rfl, ⟨rfl, rfl⟩⟩
  · intro k hk ih l5
    have hll := ndL_len sqs (fun q => rnm r34 (M 5 q) p) k
    rw [nI_succ k, ndL_s _ _ k] at ih
    generalize ndL sqs (fun q => rnm r34 (M 5 q) p) k = nd at ih hll ⊢
    have hc := c_renumbered (Z := Z) (ext := ext) (M := gmM M (M 33 0) (M 33 1) (nI p) (nI nd.length) r34 (rowL nd (M 35)) (M 36)) (M 5 k) (p := p) rfl hp
    rw [show (gmM M (M 33 0) (M 33 1) (nI p) (nI nd.length) r34 (rowL nd (M 35)) (M 36)) 34 = r34 from rfl] at hc
    refine x_iload dX1_setUp_70 rfl ?_
    refine x_aload_n dX1_setUp_72 rfl ?_
    refine x_geti fl_X1_34 dX1_setUp_73 sf_1 rfl ?_
    refine x_icmp_ge 133 dX1_setUp_76 (by decide) (fun hc_ => absurd hc_ (by show ¬ M 1 3 ≤ nI k; rw [hq]; exact nI_ge hk (by omega))) (fun _ => ?_)
    refine x_aload_n dX1_setUp_79 rfl ?_
    refine x_aload_n dX1_setUp_80 rfl ?_
    refine x_getr fl_X1_35 dX1_setUp_81 sf_1 rfl ?_
    refine x_iload dX1_setUp_84 rfl ?_
    refine x_iald dX1_setUp_86 sf_5 rfl (by omega) (by decide) ?_
    refine x_cvd mf_X1_renumbered ml_X1_38 dX1_setUp_87 rfl sf_33 rfl ⟨by decide, by decide⟩ (Nat.le_of_ble_eq_true rfl) ⟨rfl, rfl⟩ ⟨Nat.le_of_ble_eq_true rfl, Nat.le_of_ble_eq_true rfl⟩ (hc) ?_
    refine x_istore dX1_setUp_90 (by decide) ?_
    refine x_iload_n dX1_setUp_92 rfl ?_
    refine x_iload dX1_setUp_93 rfl ?_
    refine x_ishr dX1_setUp_95 ?_
    refine x_iconst (v := 1) dX1_setUp_96 (by decide) ?_
    refine x_iand dX1_setUp_97 ?_
    refine x_if_eq 127 dX1_setUp_98 (by decide) (fun h98 => ?_) (fun h98 => ?_)
    · refine x_iinc1 dX1_setUp_127 rfl (by decide) ?_
      refine x_goto 70 dX1_setUp_130 (by decide) ?_
      first | (rw [lies_f h98, Bool.false_and, if_neg (by decide)] at ih; exact ih _) | (rw [decide_eq_true h103, Bool.not_true, Bool.and_false, if_neg (by decide)] at ih; exact ih _) | (rw [lies_t h98, decide_eq_false h103, Bool.not_false, Bool.and_true, if_pos rfl, ← rowL_push, List.length_append, List.length_singleton, nI_succ nd.length] at ih; rw [gm_35, gm_3]; exact ih _)
    · refine x_iload dX1_setUp_101 rfl ?_
      refine x_if_eq 127 dX1_setUp_103 (by decide) (fun h103 => ?_) (fun h103 => ?_)
      · refine x_iinc1 dX1_setUp_127 rfl (by decide) ?_
        refine x_goto 70 dX1_setUp_130 (by decide) ?_
        first | (rw [lies_f h98, Bool.false_and, if_neg (by decide)] at ih; exact ih _) | (rw [decide_eq_true h103, Bool.not_true, Bool.and_false, if_neg (by decide)] at ih; exact ih _) | (rw [lies_t h98, decide_eq_false h103, Bool.not_false, Bool.and_true, if_pos rfl, ← rowL_push, List.length_append, List.length_singleton, nI_succ nd.length] at ih; rw [gm_35, gm_3]; exact ih _)
      · refine x_aload_n dX1_setUp_106 rfl ?_
        refine x_getr fl_X1_15 dX1_setUp_107 sf_33 rfl ?_
        refine x_aload_n dX1_setUp_110 rfl ?_
        refine x_geti fl_X1_31 dX1_setUp_111 sf_33 rfl ?_
        refine x_iload dX1_setUp_114 rfl ?_
        refine x_iast dX1_setUp_116 sf_35 rfl (by omega) (by decide) ?_
        refine x_aload_n dX1_setUp_117 rfl ?_
        refine x_dup dX1_setUp_118 rfl ?_
        refine x_geti fl_X1_31 dX1_setUp_119 sf_33 rfl ?_
        refine x_iconst (v := 1) dX1_setUp_122 (by decide) ?_
        refine x_iadd dX1_setUp_123 ?_
        refine x_put fl_X1_31 dX1_setUp_124 sf_33 rfl rfl rfl ?_
        refine x_iinc1 dX1_setUp_127 rfl (by decide) ?_
        refine x_goto 70 dX1_setUp_130 (by decide) ?_
        first | (rw [lies_f h98, Bool.false_and, if_neg (by decide)] at ih; exact ih _) | (rw [decide_eq_true h103, Bool.not_true, Bool.and_false, if_neg (by decide)] at ih; exact ih _) | (rw [lies_t h98, decide_eq_false h103, Bool.not_false, Bool.and_true, if_pos rfl, ← rowL_push, List.length_append, List.length_singleton, nI_succ nd.length] at ih; rw [gm_35, gm_3]; exact ih _)
theorem c_setUp {Z : List (Option Nat)} {ext : List Ds} {M : Mm} {sq mt : Nat} (sqs g : Int32) (hm : M 1 2 = nI mt) (hmb : mt ≤ 31) (hq : M 1 3 = nI sq) (hb : sq ≤ 20) (hp : fsC g mt ≤ 12) : Ct mX1_setUp [.ref 33, .ref 1, .int sqs, .int g] (SS Z ext) M (Rt none (suM M g sqs sq mt)) := by
  have hn := su_needs (Z := Z) (ext := ext) (M := M) sqs g (fsR g (M 34) mt) hq hb hp (M 33 3)
  rw [← suM] at hn
  refine Ct.of (by decide) (Nat.le_of_ble_eq_true rfl) ?_
  refine x_aload_n dX1_setUp_0 rfl ?_
  refine x_iconst (v := 0) dX1_setUp_1 (by decide) ?_
  refine x_put fl_X1_22 dX1_setUp_2 sf_33 rfl rfl rfl ?_
  refine x_iconst (v := 0) dX1_setUp_5 (by decide) ?_
  refine x_istore dX1_setUp_6 (by decide) ?_
  refine x_eq (M := gmM M (M 33 0) (M 33 1) (nI (fsC g 0)) (M 33 3) (fsR g (M 34) 0) (M 35) (M 36)) (by have e := gm_id M; have e2 := gm_2 M (M 33 0) (M 33 1) (M 33 2) (M 33 3) 0 (M 34) (M 35) (M 36); rw [e] at e2; exact e2) rfl rfl rfl ?_
  refine lup (P := fun k => XW _ _ 0 0 (SS Z ext) (gmM M (M 33 0) (M 33 1) (nI (fsC g k)) (M 33 3) (fsR g (M 34) k) (M 35) (M 36)) 8 [some (.ref 33), some (.ref 1), some (.int sqs), some (.int g), some (.int (nI k)), none] []) (N := mt) ?_ ?_ 0 (by omega)
  · refine x_iload dX1_setUp_8 rfl ?_
    refine x_aload_n dX1_setUp_10 rfl ?_
    refine x_geti fl_X1_26 dX1_setUp_11 sf_1 rfl ?_
    refine x_icmp_ge 62 dX1_setUp_14 (by decide) (fun _ => ?_) (fun hc_ => absurd (by show M 1 2 ≤ nI mt; rw [hm]; exact nI_le (Nat.le_refl _) (by omega)) hc_)
    exact hn _
  · intro k hk ih
    have hmn := fsC_mono g (show k ≤ mt by omega)
    by_cases h12 : fsC g k < 12
    · rw [nI_succ k, fsC_s g k, fsR_s g _ k] at ih
      refine x_iload dX1_setUp_8 rfl ?_
      refine x_aload_n dX1_setUp_10 rfl ?_
      refine x_geti fl_X1_26 dX1_setUp_11 sf_1 rfl ?_
      refine x_icmp_ge 62 dX1_setUp_14 (by decide) (fun hc_ => absurd hc_ (by show ¬ M 1 2 ≤ nI k; rw [hm]; exact nI_ge hk (by omega))) (fun _ => ?_)
      refine x_aload_n dX1_setUp_17 rfl ?_
      refine x_geti fl_X1_22 dX1_setUp_18 sf_33 rfl ?_
      refine x_bipush (v := 12) dX1_setUp_21 (by decide) ?_
      refine x_icmp_ge 62 dX1_setUp_23 (by decide) (fun hc_ => absurd hc_ (nI_ge (b := 12) h12 (by decide))) (fun _ => ?_)
      refine x_iload_n dX1_setUp_26 rfl ?_
      refine x_iload dX1_setUp_27 rfl ?_
      refine x_ishr dX1_setUp_29 ?_
      refine x_iconst (v := 1) dX1_setUp_30 (by decide) ?_
      refine x_iand dX1_setUp_31 ?_
      refine x_if_eq 56 dX1_setUp_32 (by decide) (fun h32 => ?_) (fun h32 => ?_)
      · refine x_iinc1 dX1_setUp_56 rfl (by decide) ?_
        refine x_goto 8 dX1_setUp_59 (by decide) ?_
        first | (rw [lies_f h32, if_neg (by decide), if_neg (by decide)] at ih; exact ih) | (rw [lies_t h32, if_pos rfl, if_pos rfl, nI_succ (fsC g k)] at ih; rw [gm_34, gm_2]; exact ih)
      · refine x_aload_n dX1_setUp_35 rfl ?_
        refine x_getr fl_X1_11 dX1_setUp_36 sf_33 rfl ?_
        refine x_aload_n dX1_setUp_39 rfl ?_
        refine x_geti fl_X1_22 dX1_setUp_40 sf_33 rfl ?_
        refine x_iload dX1_setUp_43 rfl ?_
        refine x_iast dX1_setUp_45 sf_34 rfl h12 (by decide) ?_
        refine x_aload_n dX1_setUp_46 rfl ?_
        refine x_dup dX1_setUp_47 rfl ?_
        refine x_geti fl_X1_22 dX1_setUp_48 sf_33 rfl ?_
        refine x_iconst (v := 1) dX1_setUp_51 (by decide) ?_
        refine x_iadd dX1_setUp_52 ?_
        refine x_put fl_X1_22 dX1_setUp_53 sf_33 rfl rfl rfl ?_
        refine x_iinc1 dX1_setUp_56 rfl (by decide) ?_
        refine x_goto 8 dX1_setUp_59 (by decide) ?_
        first | (rw [lies_f h32, if_neg (by decide), if_neg (by decide)] at ih; exact ih) | (rw [lies_t h32, if_pos rfl, if_pos rfl, nI_succ (fsC g k)] at ih; rw [gm_34, gm_2]; exact ih)
    · have he : fsC g k = fsC g mt := by omega
      have hr : fsR g (M 34) k = fsR g (M 34) mt := fsR_stay g (M 34) (by omega) he
      rw [he, hr]
      refine x_iload dX1_setUp_8 rfl ?_
      refine x_aload_n dX1_setUp_10 rfl ?_
      refine x_geti fl_X1_26 dX1_setUp_11 sf_1 rfl ?_
      refine x_icmp_ge 62 dX1_setUp_14 (by decide) (fun hc_ => absurd hc_ (by show ¬ M 1 2 ≤ nI k; rw [hm]; exact nI_ge hk (by omega))) (fun _ => ?_)
      refine x_aload_n dX1_setUp_17 rfl ?_
      refine x_geti fl_X1_22 dX1_setUp_18 sf_33 rfl ?_
      refine x_bipush (v := 12) dX1_setUp_21 (by decide) ?_
      refine x_icmp_ge 62 dX1_setUp_23 (by decide) (fun _ => ?_) (fun hc_ => absurd (nI_le (a := 12) (b := fsC g mt) (by omega) (by omega)) hc_)
      exact hn _
