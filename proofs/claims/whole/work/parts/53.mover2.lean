/-! ===== the class: moveAll, riddle ===== -/
theorem take_s {T : List Int32} {t : Nat} (ht : t < T.length) : T.take (t + 1) = T.take t ++ [T.getD t 0] := by
  rw [List.take_succ, List.getElem?_eq_getElem ht, List.getD_eq_getElem?_getD, List.getElem?_eq_getElem ht]
  rfl
def whw (rm : Nat → Int32) (sq : Nat) (L cs s : Int32) : Int32 := orb (inc rm (L ||| s)) sq &&& cs
def cid (rm : Nat → Int32) (sq : Nat) (L cs al k t : Int32) (acc : Mv) (s : Int32) : Mv := if decide (bcE (whw rm sq L cs s &&& orb (inc rm (al &&& (t ^^^ (-1)))) sq) = k) then mvs acc t s else acc
def cAll (rm : Nat → Int32) (sq : Nat) (L cs al k : Int32) (T R : List Int32) (a : Mv) : Mv := T.foldl (fun acc t => R.foldl (cid rm sq L cs al k t) acc) a
theorem cAll_s {rm : Nat → Int32} {sq : Nat} {L cs al k : Int32} {T R : List Int32} {a : Mv} {i : Nat} (hi : i < T.length) : cAll rm sq L cs al k (T.take (i + 1)) R a = R.foldl (cid rm sq L cs al k (T.getD i 0)) (cAll rm sq L cs al k (T.take i) R a) := by
  rw [cAll, take_s hi, List.foldl_append]
  rfl
theorem move_in {Z : List (Option Nat)} {ext : List Ds} {M2 : Mm} {Q : Option Value → List Ds → Mm → Prop} {rm : Nat → Int32} {L cs al k tt : Int32} {n sq ii nt : Nat} {R : List Int32} {acc : Mv} {g31 g32 : Nat → Int32} (hR : R.length ≤ 465) (hi : ii < 465) (k31 : M2 31 = rowL R g31) (k32 : M2 32 = rowL (R.map (whw rm sq L cs)) g32) (k30 : M2 30 ii = tt) :
    (∀ l10, XW mX3_moveAll (Fc mX3_moveAll Q) 0 0 (SS Z ext) (mvM M2 (R.foldl (cid rm sq L cs al k tt) acc)) 156 [some (.ref 29), some (.ref 1), some (.int L), some (.int cs), some (.int (nI n)), some (.int k), some (.int (nI nt)), some (.int (nI R.length)), some (.int (nI ii)), some (.int (orb (inc rm (al &&& (tt ^^^ (-1)))) sq)), l10] []) →
    XW mX3_moveAll (Fc mX3_moveAll Q) 0 0 (SS Z ext) (mvM M2 acc) 107 [some (.ref 29), some (.ref 1), some (.int L), some (.int cs), some (.int (nI n)), some (.int k), some (.int (nI nt)), some (.int (nI R.length)), some (.int (nI ii)), some (.int (orb (inc rm (al &&& (tt ^^^ (-1)))) sq)), some (.int (nI 0))] [] := by
  intro fin
  refine lup (P := fun j => XW _ _ 0 0 (SS Z ext) (mvM M2 ((R.take j).foldl (cid rm sq L cs al k tt) acc)) 107 [some (.ref 29), some (.ref 1), some (.int L), some (.int cs), some (.int (nI n)), some (.int k), some (.int (nI nt)), some (.int (nI R.length)), some (.int (nI ii)), some (.int (orb (inc rm (al &&& (tt ^^^ (-1)))) sq)), some (.int (nI j))] []) (N := R.length) ?_ ?_ 0 (by omega)
  · rw [List.take_length]
    refine x_iload dX3_moveAll_107 rfl ?_
    refine x_iload dX3_moveAll_109 rfl ?_
    refine x_icmp_ge 156 dX3_moveAll_111 (by decide) (fun _ => ?_) (fun hc_ => absurd (nI_le (Nat.le_refl _) (by omega)) hc_)
    exact fin _
  · intro j hj ih
    rw [take_s hj, List.foldl_append, List.foldl_cons, List.foldl_nil, nI_succ j] at ih
    generalize (R.take j).foldl (cid rm sq L cs al k tt) acc = ac at ih ⊢
    have e31 : M2 31 j = R.getD j 0 := by rw [k31, rowL_at hj]
    have e32 : M2 32 j = whw rm sq L cs (R.getD j 0) := by
      rw [k32, rowL_at (by rw [List.length_map]; exact hj), List.getD_eq_getElem?_getD, List.getElem?_map, List.getD_eq_getElem?_getD, List.getElem?_eq_getElem hj]
      rfl
    by_cases hk : bcE (whw rm sq L cs (R.getD j 0) &&& orb (inc rm (al &&& (tt ^^^ (-1)))) sq) = k
    · rw [cid, if_pos (decide_eq_true hk)] at ih
      refine x_iload dX3_moveAll_107 rfl ?_
      refine x_iload dX3_moveAll_109 rfl ?_
      refine x_icmp_ge 156 dX3_moveAll_111 (by decide) (fun hc_ => absurd hc_ (nI_ge hj (by omega))) (fun _ => ?_)
      refine x_aload_n dX3_moveAll_114 rfl ?_
      refine x_getr fl_X3_18 dX3_moveAll_115 sf_29 rfl ?_
      refine x_iload dX3_moveAll_118 rfl ?_
      refine x_iald dX3_moveAll_120 sf_32 rfl (by omega) (by decide) ?_
      rw [show mvM M2 ac 32 j = whw rm sq L cs (R.getD j 0) from e32]
      refine x_iload dX3_moveAll_121 rfl ?_
      refine x_iand dX3_moveAll_123 ?_
      refine x_csd mf_J6_bitCount_0f7a4 ml_X3_39 dX3_moveAll_124 rfl ⟨by decide, by decide⟩ (Nat.le_of_ble_eq_true rfl) ⟨rfl, rfl⟩ ⟨Nat.le_of_ble_eq_true rfl, Nat.le_of_ble_eq_true rfl⟩ (c_bitCount _) ?_
      refine x_iload dX3_moveAll_127 rfl ?_
      refine x_icmp_ne 150 dX3_moveAll_129 (by decide) (fun hc_ => absurd (hk) hc_) (fun _ => ?_)
      refine x_aload_n dX3_moveAll_132 rfl ?_
      refine x_aload_n dX3_moveAll_133 rfl ?_
      refine x_getr fl_X3_11 dX3_moveAll_134 sf_29 rfl ?_
      refine x_iload dX3_moveAll_137 rfl ?_
      refine x_iald dX3_moveAll_139 sf_30 rfl (by omega) (by decide) ?_
      rw [show mvM M2 ac 30 ii = tt from k30]
      refine x_aload_n dX3_moveAll_140 rfl ?_
      refine x_getr fl_X3_15 dX3_moveAll_141 sf_29 rfl ?_
      refine x_iload dX3_moveAll_144 rfl ?_
      refine x_iald dX3_moveAll_146 sf_31 rfl (by omega) (by decide) ?_
      rw [show mvM M2 ac 31 j = R.getD j 0 from e31]
      refine x_cvd mf_X3_noteMove ml_X3_44 dX3_moveAll_147 rfl sf_29 rfl ⟨by decide, by decide⟩ (Nat.le_of_ble_eq_true rfl) ⟨rfl, rfl⟩ ⟨Nat.le_of_ble_eq_true rfl, Nat.le_of_ble_eq_true rfl⟩ (c_noteMove ac _ _) ?_
      refine x_iinc1 dX3_moveAll_150 rfl (by decide) ?_
      refine x_goto 107 dX3_moveAll_153 (by decide) ?_
      exact ih
    · rw [cid, if_neg (fun q => hk (of_decide_eq_true q))] at ih
      refine x_iload dX3_moveAll_107 rfl ?_
      refine x_iload dX3_moveAll_109 rfl ?_
      refine x_icmp_ge 156 dX3_moveAll_111 (by decide) (fun hc_ => absurd hc_ (nI_ge hj (by omega))) (fun _ => ?_)
      refine x_aload_n dX3_moveAll_114 rfl ?_
      refine x_getr fl_X3_18 dX3_moveAll_115 sf_29 rfl ?_
      refine x_iload dX3_moveAll_118 rfl ?_
      refine x_iald dX3_moveAll_120 sf_32 rfl (by omega) (by decide) ?_
      rw [show mvM M2 ac 32 j = whw rm sq L cs (R.getD j 0) from e32]
      refine x_iload dX3_moveAll_121 rfl ?_
      refine x_iand dX3_moveAll_123 ?_
      refine x_csd mf_J6_bitCount_0f7a4 ml_X3_39 dX3_moveAll_124 rfl ⟨by decide, by decide⟩ (Nat.le_of_ble_eq_true rfl) ⟨rfl, rfl⟩ ⟨Nat.le_of_ble_eq_true rfl, Nat.le_of_ble_eq_true rfl⟩ (c_bitCount _) ?_
      refine x_iload dX3_moveAll_127 rfl ?_
      refine x_icmp_ne 150 dX3_moveAll_129 (by decide) (fun _ => ?_) (fun hc_ => absurd hc_ (hk))
      refine x_iinc1 dX3_moveAll_150 rfl (by decide) ?_
      refine x_goto 107 dX3_moveAll_153 (by decide) ?_
      exact ih
theorem move_out {Z : List (Option Nat)} {ext : List Ds} {M2 : Mm} {L cs k : Int32} {n sq : Nat} {T R : List Int32} {acc : Mv} {g30 g31 g32 : Nat → Int32} (hT : T.length ≤ 465) (hR : R.length ≤ 465) (k30 : M2 30 = rowL T g30) (k31 : M2 31 = rowL R g31) (k32 : M2 32 = rowL (R.map (whw (M2 5) sq L cs)) g32) (hq : M2 1 3 = nI sq) (hb : sq ≤ 20) (l9 l10 : Option Value) :
    XW mX3_moveAll (Fc mX3_moveAll (fun r S' M' => S' = SS Z ext ∧ Rt none (mvM M2 (cAll (M2 5) sq L cs (((1 : Int32) <<< (M2 1 2 &&& 31)) - 1) k T R acc)) r M')) 0 0 (SS Z ext) (mvM M2 acc) 77 [some (.ref 29), some (.ref 1), some (.int L), some (.int cs), some (.int (nI n)), some (.int k), some (.int (nI T.length)), some (.int (nI R.length)), some (.int (nI 0)), l9, l10] [] := by
  refine (lup (P := fun i => ∀ l9 l10, XW _ _ 0 0 (SS Z ext) (mvM M2 (cAll (M2 5) sq L cs (((1 : Int32) <<< (M2 1 2 &&& 31)) - 1) k (T.take i) R acc)) 77 [some (.ref 29), some (.ref 1), some (.int L), some (.int cs), some (.int (nI n)), some (.int k), some (.int (nI T.length)), some (.int (nI R.length)), some (.int (nI i)), l9, l10] []) (N := T.length) ?_ ?_ 0 (by omega)) l9 l10
  · intro l9 l10
    rw [List.take_length]
    refine x_iload dX3_moveAll_77 rfl ?_
    refine x_iload dX3_moveAll_79 rfl ?_
    refine x_icmp_ge 162 dX3_moveAll_81 (by decide) (fun _ => ?_) (fun hc_ => absurd (nI_le (Nat.le_refl _) (by omega)) hc_)
    exact x_ret dX3_moveAll_162 rfl (Nat.le_refl _) (Nat.le_refl _) ⟨rfl, ⟨rfl, rfl⟩⟩
  · intro i hi ih l9 l10
    rw [cAll_s hi, nI_succ i] at ih
    generalize cAll (M2 5) sq L cs (((1 : Int32) <<< (M2 1 2 &&& 31)) - 1) k (T.take i) R acc = ac at ih ⊢
    have e30 : M2 30 i = T.getD i 0 := by rw [k30, rowL_at hi]
    have hin := move_in (Z := Z) (ext := ext) (M2 := M2) (Q := fun r S' M' => S' = SS Z ext ∧ Rt none (mvM M2 (cAll (M2 5) sq L cs (((1 : Int32) <<< (M2 1 2 &&& 31)) - 1) k T R acc)) r M') (rm := M2 5) (L := L) (cs := cs) (al := ((1 : Int32) <<< (M2 1 2 &&& 31)) - 1) (k := k) (n := n) (sq := sq) (nt := T.length) (acc := ac) hR (by omega) k31 k32 e30
    refine x_iload dX3_moveAll_77 rfl ?_
    refine x_iload dX3_moveAll_79 rfl ?_
    refine x_icmp_ge 162 dX3_moveAll_81 (by decide) (fun hc_ => absurd hc_ (nI_ge hi (by omega))) (fun _ => ?_)
    refine x_aload_n dX3_moveAll_84 rfl ?_
    refine x_aload_n dX3_moveAll_85 rfl ?_
    refine x_cvd mf_X2_all ml_X3_25 dX3_moveAll_86 rfl sf_1 rfl ⟨by decide, by decide⟩ (Nat.le_of_ble_eq_true rfl) ⟨rfl, rfl⟩ ⟨Nat.le_of_ble_eq_true rfl, Nat.le_of_ble_eq_true rfl⟩ (c_all (ShG_SS Z ext)) ?_
    refine x_aload_n dX3_moveAll_89 rfl ?_
    refine x_getr fl_X3_11 dX3_moveAll_90 sf_29 rfl ?_
    refine x_iload dX3_moveAll_93 rfl ?_
    refine x_iald dX3_moveAll_95 sf_30 rfl (by omega) (by decide) ?_
    rw [show mvM M2 ac 30 i = T.getD i 0 from e30]
    refine x_iconst (v := -1) dX3_moveAll_96 (by decide) ?_
    refine x_ixor dX3_moveAll_97 ?_
    refine x_iand dX3_moveAll_98 ?_
    refine x_cvd mf_X2_wholeAmong ml_X3_31 dX3_moveAll_99 rfl sf_1 rfl ⟨by decide, by decide⟩ (Nat.le_of_ble_eq_true rfl) ⟨rfl, rfl⟩ ⟨Nat.le_of_ble_eq_true rfl, Nat.le_of_ble_eq_true rfl⟩ (c_wholeAmong (ShG_SS Z ext) _ hq hb) ?_
    refine x_istore dX3_moveAll_102 (by decide) ?_
    refine x_iconst (v := 0) dX3_moveAll_104 (by decide) ?_
    refine x_istore dX3_moveAll_105 (by decide) ?_
    refine hin (fun l10 => ?_)
    refine x_iinc1 dX3_moveAll_156 rfl (by decide) ?_
    refine x_goto 77 dX3_moveAll_159 (by decide) ?_
    exact ih _ _
def mvM3 (M : Mm) (T R : List Int32) (w : Int32 → Int32) (j : Nat) : Mm := upr (upr (upr M 30 (rowL T (M 30))) 31 (rowL R (M 31))) 32 (rowL ((R.take j).map w) (M 32))
def mvM2 (M : Mm) (T R : List Int32) (w : Int32 → Int32) : Mm := upr (upr (upr M 30 (rowL T (M 30))) 31 (rowL R (M 31))) 32 (rowL (R.map w) (M 32))
theorem mvM_0 (M : Mm) : up2 M 29 0 0 = mvM M (0, M 29 1, M 29 2) := by
  funext c
  unfold up2 mvM upr
  by_cases hc : c = 29
  · subst hc
    funext k
    unfold upd
    by_cases h2 : k = 2
    · simp [h2]
    · by_cases h1 : k = 1
      · simp [h1]
      · by_cases h0 : k = 0 <;> simp [h0, h1, h2]
  · simp [hc]
theorem c_moveAll {Z : List (Option Nat)} {ext : List Ds} {M : Mm} {sq : Nat} {T R : List Int32} {al : Int32} (L cs k : Int32) (n : Nat) (h1 : 1 ≤ n) (h2 : n ≤ 2) (hq : M 1 3 = nI sq) (hb : sq ≤ 20) (hal : ((1 : Int32) <<< (M 1 2 &&& 31)) - 1 = al) (hT : lsn L n = T) (hR : lsn (al &&& (L ^^^ (-1))) n = R) : Ct mX3_moveAll [.ref 29, .ref 1, .int L, .int cs, .int (nI n), .int k] (SS Z ext) M (Rt none (mvM (mvM2 M T R (whw (M 5) sq L cs)) (cAll (M 5) sq L cs al k T R (0, M 29 1, M 29 2)))) := by
  have hTl : T.length ≤ 465 := by rw [← hT]; exact lsn_465 _ _
  have hRl : R.length ≤ 465 := by rw [← hR]; exact lsn_465 _ _
  have c1 := c_listSets_30 (Z := Z) (ext := ext) (M := M) L n h1 h2
  have c2 := c_listSets_31 (Z := Z) (ext := ext) (M := upr M 30 (rowL T (M 30))) (al &&& (L ^^^ (-1))) n h1 h2
  have c3 := c_all (M := upr M 30 (rowL T (M 30))) (ShG_SS Z ext)
  rw [hT] at c1
  rw [hR, show (upr M 30 (rowL T (M 30))) 31 = M 31 from rfl] at c2
  rw [show ((1 : Int32) <<< ((upr M 30 (rowL T (M 30))) 1 2 &&& 31)) - 1 = al from hal] at c3
  have fin := move_out (Z := Z) (ext := ext) (M2 := mvM2 M T R (whw (M 5) sq L cs)) (L := L) (cs := cs) (k := k) (n := n) (sq := sq) (T := T) (R := R) (acc := (0, M 29 1, M 29 2)) (g30 := M 30) (g31 := M 31) (g32 := M 32) hTl hRl rfl rfl rfl hq hb none none
  rw [show mvM2 M T R (whw (M 5) sq L cs) 5 = M 5 from rfl, show ((1 : Int32) <<< (mvM2 M T R (whw (M 5) sq L cs) 1 2 &&& 31)) - 1 = al from hal] at fin
  refine Ct.of (by decide) (Nat.le_of_ble_eq_true rfl) ?_
  refine x_aload_n dX3_moveAll_0 rfl ?_
  refine x_getr fl_X3_11 dX3_moveAll_1 sf_29 rfl ?_
  refine x_iload_n dX3_moveAll_4 rfl ?_
  refine x_iload dX3_moveAll_5 rfl ?_
  refine x_csd mf_X3_listSets ml_X3_21 dX3_moveAll_7 rfl ⟨by decide, by decide⟩ (Nat.le_of_ble_eq_true rfl) ⟨rfl, rfl⟩ ⟨Nat.le_of_ble_eq_true rfl, Nat.le_of_ble_eq_true rfl⟩ (c1) ?_
  refine x_istore dX3_moveAll_10 (by decide) ?_
  refine x_aload_n dX3_moveAll_12 rfl ?_
  refine x_getr fl_X3_15 dX3_moveAll_13 sf_29 rfl ?_
  refine x_aload_n dX3_moveAll_16 rfl ?_
  refine x_cvd mf_X2_all ml_X3_25 dX3_moveAll_17 rfl sf_1 rfl ⟨by decide, by decide⟩ (Nat.le_of_ble_eq_true rfl) ⟨rfl, rfl⟩ ⟨Nat.le_of_ble_eq_true rfl, Nat.le_of_ble_eq_true rfl⟩ (c3) ?_
  refine x_iload_n dX3_moveAll_20 rfl ?_
  refine x_iconst (v := -1) dX3_moveAll_21 (by decide) ?_
  refine x_ixor dX3_moveAll_22 ?_
  refine x_iand dX3_moveAll_23 ?_
  refine x_iload dX3_moveAll_24 rfl ?_
  refine x_csd mf_X3_listSets ml_X3_21 dX3_moveAll_26 rfl ⟨by decide, by decide⟩ (Nat.le_of_ble_eq_true rfl) ⟨rfl, rfl⟩ ⟨Nat.le_of_ble_eq_true rfl, Nat.le_of_ble_eq_true rfl⟩ (c2) ?_
  refine x_istore dX3_moveAll_29 (by decide) ?_
  refine x_iconst (v := 0) dX3_moveAll_31 (by decide) ?_
  refine x_istore dX3_moveAll_32 (by decide) ?_
  refine x_eq (M := mvM3 M T R (whw (M 5) sq L cs) 0) (by rw [mvM3, List.take_zero, List.map_nil, rowL_0, show M 32 = (upr (upr M 30 (rowL T (M 30))) 31 (rowL R (M 31))) 32 from rfl, upr_self]) rfl rfl rfl ?_
  refine lup (P := fun j => XW _ _ 0 0 (SS Z ext) (mvM3 M T R (whw (M 5) sq L cs) j) 34 [some (.ref 29), some (.ref 1), some (.int L), some (.int cs), some (.int (nI n)), some (.int k), some (.int (nI T.length)), some (.int (nI R.length)), some (.int (nI j)), none, none] []) (N := R.length) ?_ ?_ 0 (by omega)
  · rw [show mvM3 M T R (whw (M 5) sq L cs) R.length = mvM2 M T R (whw (M 5) sq L cs) by rw [mvM3, List.take_length]; rfl]
    refine x_iload dX3_moveAll_34 rfl ?_
    refine x_iload dX3_moveAll_36 rfl ?_
    refine x_icmp_ge 69 dX3_moveAll_38 (by decide) (fun _ => ?_) (fun hc_ => absurd (nI_le (Nat.le_refl _) (by omega)) hc_)
    refine x_aload_n dX3_moveAll_69 rfl ?_
    refine x_iconst (v := 0) dX3_moveAll_70 (by decide) ?_
    refine x_put fl_X3_35 dX3_moveAll_71 sf_29 rfl rfl rfl ?_
    refine x_iconst (v := 0) dX3_moveAll_74 (by decide) ?_
    refine x_istore dX3_moveAll_75 (by decide) ?_
    rw [mvM_0]
    exact fin
  · intro j hj ih
    have hl : ((R.take j).map (whw (M 5) sq L cs)).length = j := by rw [List.length_map, List.length_take]; omega
    have e : mvM3 M T R (whw (M 5) sq L cs) (j + 1) = up2 (mvM3 M T R (whw (M 5) sq L cs) j) 32 j (whw (M 5) sq L cs (R.getD j 0)) := by
      rw [mvM3, take_s hj, List.map_append, List.map_cons, List.map_nil, ← rowL_push, hl, mvM3, up2_upr2]
    rw [nI_succ j, e] at ih
    have e31 : mvM3 M T R (whw (M 5) sq L cs) j 31 j = R.getD j 0 := by
      show rowL R (M 31) j = R.getD j 0
      exact rowL_at hj
    generalize hMj : mvM3 M T R (whw (M 5) sq L cs) j = Mj at ih e31 ⊢
    have e5 : Mj 5 = M 5 := by rw [← hMj]; rfl
    have eq3 : Mj 1 3 = nI sq := by rw [← hMj]; exact hq
    have cw := c_wholeAmong (M := Mj) (ShG_SS Z ext) (L ||| R.getD j 0) eq3 hb
    rw [e5] at cw
    refine x_iload dX3_moveAll_34 rfl ?_
    refine x_iload dX3_moveAll_36 rfl ?_
    refine x_icmp_ge 69 dX3_moveAll_38 (by decide) (fun hc_ => absurd hc_ (nI_ge hj (by omega))) (fun _ => ?_)
    refine x_aload_n dX3_moveAll_41 rfl ?_
    refine x_getr fl_X3_18 dX3_moveAll_42 sf_29 rfl ?_
    refine x_iload dX3_moveAll_45 rfl ?_
    refine x_aload_n dX3_moveAll_47 rfl ?_
    refine x_iload_n dX3_moveAll_48 rfl ?_
    refine x_aload_n dX3_moveAll_49 rfl ?_
    refine x_getr fl_X3_15 dX3_moveAll_50 sf_29 rfl ?_
    refine x_iload dX3_moveAll_53 rfl ?_
    refine x_iald dX3_moveAll_55 sf_31 rfl (by omega) (by decide) ?_
    rw [e31]
    refine x_ior dX3_moveAll_56 ?_
    refine x_cvd mf_X2_wholeAmong ml_X3_31 dX3_moveAll_57 rfl sf_1 rfl ⟨by decide, by decide⟩ (Nat.le_of_ble_eq_true rfl) ⟨rfl, rfl⟩ ⟨Nat.le_of_ble_eq_true rfl, Nat.le_of_ble_eq_true rfl⟩ (cw) ?_
    refine x_iload_n dX3_moveAll_60 rfl ?_
    refine x_iand dX3_moveAll_61 ?_
    refine x_iast dX3_moveAll_62 sf_32 rfl (by omega) (by decide) ?_
    refine x_iinc1 dX3_moveAll_63 rfl (by decide) ?_
    refine x_goto 34 dX3_moveAll_66 (by decide) ?_
    exact ih
theorem c_riddleX {Z : List (Option Nat)} {ext : List Ds} {M : Mm} (n k x : Int32) (hx : (rg n 1 2 && rg k 0 20 && rg x 0 2) = false) : Ct mX9_riddle [.ref 0, .int n, .int k, .int x] (SS Z ext) M (Rt (some (.int (-1))) M) := by
  refine Ct.of (by decide) (Nat.le_of_ble_eq_true rfl) ?_
  refine x_iload_n dX9_riddle_0 rfl ?_
  refine x_iconst (v := 1) dX9_riddle_1 (by decide) ?_
  refine x_icmp_lt 29 dX9_riddle_2 (by decide) (fun h2 => ?_) (fun h2 => ?_)
  · refine x_iconst (v := -1) dX9_riddle_29 (by decide) ?_
    exact x_iret dX9_riddle_30 rfl rfl (Nat.le_refl _) (Nat.le_refl _) ⟨rfl, ⟨rfl, rfl⟩⟩
  · refine x_iload_n dX9_riddle_5 rfl ?_
    refine x_iconst (v := 2) dX9_riddle_6 (by decide) ?_
    refine x_icmp_gt 29 dX9_riddle_7 (by decide) (fun h7 => ?_) (fun h7 => ?_)
    · refine x_iconst (v := -1) dX9_riddle_29 (by decide) ?_
      exact x_iret dX9_riddle_30 rfl rfl (Nat.le_refl _) (Nat.le_refl _) ⟨rfl, ⟨rfl, rfl⟩⟩
    · refine x_iload_n dX9_riddle_10 rfl ?_
      refine x_if_lt 29 dX9_riddle_11 (by decide) (fun h11 => ?_) (fun h11 => ?_)
      · refine x_iconst (v := -1) dX9_riddle_29 (by decide) ?_
        exact x_iret dX9_riddle_30 rfl rfl (Nat.le_refl _) (Nat.le_refl _) ⟨rfl, ⟨rfl, rfl⟩⟩
      · refine x_iload_n dX9_riddle_14 rfl ?_
        refine x_bipush (v := 20) dX9_riddle_15 (by decide) ?_
        refine x_icmp_gt 29 dX9_riddle_17 (by decide) (fun h17 => ?_) (fun h17 => ?_)
        · refine x_iconst (v := -1) dX9_riddle_29 (by decide) ?_
          exact x_iret dX9_riddle_30 rfl rfl (Nat.le_refl _) (Nat.le_refl _) ⟨rfl, ⟨rfl, rfl⟩⟩
        · refine x_iload_n dX9_riddle_20 rfl ?_
          refine x_if_lt 29 dX9_riddle_21 (by decide) (fun h21 => ?_) (fun h21 => ?_)
          · refine x_iconst (v := -1) dX9_riddle_29 (by decide) ?_
            exact x_iret dX9_riddle_30 rfl rfl (Nat.le_refl _) (Nat.le_refl _) ⟨rfl, ⟨rfl, rfl⟩⟩
          · refine x_iload_n dX9_riddle_24 rfl ?_
            refine x_iconst (v := 2) dX9_riddle_25 (by decide) ?_
            refine x_icmp_le 31 dX9_riddle_26 (by decide) (fun h26 => ?_) (fun h26 => ?_)
            · rw [rg_t1 h2 h7, rg_t1 h11 h17, rg_t2 h21 h26] at hx; exact absurd hx (by decide)
            · refine x_iconst (v := -1) dX9_riddle_29 (by decide) ?_
              exact x_iret dX9_riddle_30 rfl rfl (Nat.le_refl _) (Nat.le_refl _) ⟨rfl, ⟨rfl, rfl⟩⟩
def vRidC (acc : Mv) (x : Int32) : Int32 := if decide (x = 0) then acc.1 else if decide (acc.1 = 0) then -4 else if decide (x = 1) then acc.2.1 else acc.2.2
theorem c_riddle {Z : List (Option Nat)} {ext : List Ds} {M : Mm} {sq : Nat} {al : Int32} (n : Nat) (k x : Int32) (h1 : 1 ≤ n) (h2 : n ≤ 2) (hk : rg k 0 20 = true) (hx : rg x 0 2 = true) (hq : M 1 3 = nI sq) (hb : sq ≤ 20) (hal : ((1 : Int32) <<< (M 1 2 &&& 31)) - 1 = al) :
    Ct mX9_riddle [.ref 0, .int (nI n), .int k, .int x] (SS Z ext) M (fun r M' => r = some (.int (vRidC (cAll (M 5) sq (M 10 0) (csq (M 10 1) (M 6) 3) al k (lsn (M 10 0) n) (lsn (al &&& (M 10 0 ^^^ (-1))) n) (0, M 29 1, M 29 2)) x)) ∧ Eqm M M') := by
  have hk2 := rg_t.mp hk
  have hx2 := rg_t.mp hx
  have hm := c_moveAll (Z := Z) (ext := ext) (M := M) (M 10 0) (csq (M 10 1) (M 6) 3) k n h1 h2 hq hb hal rfl rfl
  generalize cAll (M 5) sq (M 10 0) (csq (M 10 1) (M 6) 3) al k (lsn (M 10 0) n) (lsn (al &&& (M 10 0 ^^^ (-1))) n) (0, M 29 1, M 29 2) = acc at hm ⊢
  have hE : Eqm M (mvM (mvM2 M (lsn (M 10 0) n) (lsn (al &&& (M 10 0 ^^^ (-1))) n) (whw (M 5) sq (M 10 0) (csq (M 10 1) (M 6) 3))) acc) := ((((Eqm.rf M).ur (fun _ => rfl)).ur (fun _ => rfl)).ur (fun _ => rfl)).ur (fun _ => rfl)
  refine Ct.of (by decide) (Nat.le_of_ble_eq_true rfl) ?_
  refine x_iload_n dX9_riddle_0 rfl ?_
  refine x_iconst (v := 1) dX9_riddle_1 (by decide) ?_
  refine x_icmp_lt 29 dX9_riddle_2 (by decide) (fun hc_ => absurd hc_ (nI_nlt (a := n) (b := 1) h1 (by omega))) (fun _ => ?_)
  refine x_iload_n dX9_riddle_5 rfl ?_
  refine x_iconst (v := 2) dX9_riddle_6 (by decide) ?_
  refine x_icmp_gt 29 dX9_riddle_7 (by decide) (fun hc_ => absurd hc_ (nI_nlt (a := 2) h2 (by decide))) (fun _ => ?_)
  refine x_iload_n dX9_riddle_10 rfl ?_
  refine x_if_lt 29 dX9_riddle_11 (by decide) (fun hc_ => absurd hc_ (fun q => absurd hk2.1 (by rw [fa_le]; rw [fa_lt] at q; omega))) (fun _ => ?_)
  refine x_iload_n dX9_riddle_14 rfl ?_
  refine x_bipush (v := 20) dX9_riddle_15 (by decide) ?_
  refine x_icmp_gt 29 dX9_riddle_17 (by decide) (fun hc_ => absurd hc_ (fun q => absurd hk2.2 (by rw [fa_le]; rw [fa_lt] at q; omega))) (fun _ => ?_)
  refine x_iload_n dX9_riddle_20 rfl ?_
  refine x_if_lt 29 dX9_riddle_21 (by decide) (fun hc_ => absurd hc_ (fun q => absurd hx2.1 (by rw [fa_le]; rw [fa_lt] at q; omega))) (fun _ => ?_)
  refine x_iload_n dX9_riddle_24 rfl ?_
  refine x_iconst (v := 2) dX9_riddle_25 (by decide) ?_
  refine x_icmp_le 31 dX9_riddle_26 (by decide) (fun _ => ?_) (fun hc_ => absurd (hx2.2) hc_)
  refine x_aload_n dX9_riddle_31 rfl ?_
  refine x_getr fl_X9_56 dX9_riddle_32 sf_0 rfl ?_
  refine x_aload_n dX9_riddle_35 rfl ?_
  refine x_getr fl_X9_10 dX9_riddle_36 sf_0 rfl ?_
  refine x_aload_n dX9_riddle_39 rfl ?_
  refine x_getr fl_X9_19 dX9_riddle_40 sf_0 rfl ?_
  refine x_geti fl_X9_137 dX9_riddle_43 sf_10 rfl ?_
  refine x_aload_n dX9_riddle_46 rfl ?_
  refine x_cvd mf_X9_countedSquares ml_X9_224 dX9_riddle_47 rfl sf_0 rfl ⟨by decide, by decide⟩ (Nat.le_of_ble_eq_true rfl) ⟨rfl, rfl⟩ ⟨Nat.le_of_ble_eq_true rfl, Nat.le_of_ble_eq_true rfl⟩ (c_countedSquares) ?_
  refine x_iload_n dX9_riddle_50 rfl ?_
  refine x_iload_n dX9_riddle_51 rfl ?_
  refine x_cvd mf_X3_moveAll ml_X9_227 dX9_riddle_52 rfl sf_29 rfl ⟨by decide, by decide⟩ (Nat.le_of_ble_eq_true rfl) ⟨rfl, rfl⟩ ⟨Nat.le_of_ble_eq_true rfl, Nat.le_of_ble_eq_true rfl⟩ (hm) ?_
  refine x_iload_n dX9_riddle_55 rfl ?_
  refine x_if_ne 67 dX9_riddle_56 (by decide) (fun h56 => ?_) (fun h56 => ?_)
  · refine x_aload_n dX9_riddle_67 rfl ?_
    refine x_getr fl_X9_56 dX9_riddle_68 sf_0 rfl ?_
    refine x_geti fl_X9_231 dX9_riddle_71 sf_29 rfl ?_
    refine x_if_ne 80 dX9_riddle_74 (by decide) (fun h74 => ?_) (fun h74 => ?_)
    · refine x_iload_n dX9_riddle_80 rfl ?_
      refine x_iconst (v := 1) dX9_riddle_81 (by decide) ?_
      refine x_icmp_ne 95 dX9_riddle_82 (by decide) (fun h82 => ?_) (fun h82 => ?_)
      · refine x_aload_n dX9_riddle_95 rfl ?_
        refine x_getr fl_X9_56 dX9_riddle_96 sf_0 rfl ?_
        refine x_geti fl_X9_235 dX9_riddle_99 sf_29 rfl ?_
        exact x_iret dX9_riddle_102 rfl rfl (Nat.le_refl _) (Nat.le_refl _) ⟨rfl, ⟨by first | (exact oi (by rw [vRidC, decide_eq_true h56]; rfl)) | (exact oi (by rw [vRidC, decide_eq_false h56, decide_eq_true (show acc.1 = 0 from h74)]; rfl)) | (exact oi (by rw [vRidC, decide_eq_false h56, decide_eq_false (show ¬ acc.1 = 0 from h74), decide_eq_true h82]; rfl)) | (exact oi (by rw [vRidC, decide_eq_false h56, decide_eq_false (show ¬ acc.1 = 0 from h74), decide_eq_false h82]; rfl)), hE⟩⟩
      · refine x_aload_n dX9_riddle_85 rfl ?_
        refine x_getr fl_X9_56 dX9_riddle_86 sf_0 rfl ?_
        refine x_geti fl_X9_232 dX9_riddle_89 sf_29 rfl ?_
        refine x_goto 102 dX9_riddle_92 (by decide) ?_
        exact x_iret dX9_riddle_102 rfl rfl (Nat.le_refl _) (Nat.le_refl _) ⟨rfl, ⟨by first | (exact oi (by rw [vRidC, decide_eq_true h56]; rfl)) | (exact oi (by rw [vRidC, decide_eq_false h56, decide_eq_true (show acc.1 = 0 from h74)]; rfl)) | (exact oi (by rw [vRidC, decide_eq_false h56, decide_eq_false (show ¬ acc.1 = 0 from h74), decide_eq_true h82]; rfl)) | (exact oi (by rw [vRidC, decide_eq_false h56, decide_eq_false (show ¬ acc.1 = 0 from h74), decide_eq_false h82]; rfl)), hE⟩⟩
    · refine x_bipush (v := -4) dX9_riddle_77 (by decide) ?_
      exact x_iret dX9_riddle_79 rfl rfl (Nat.le_refl _) (Nat.le_refl _) ⟨rfl, ⟨by first | (exact oi (by rw [vRidC, decide_eq_true h56]; rfl)) | (exact oi (by rw [vRidC, decide_eq_false h56, decide_eq_true (show acc.1 = 0 from h74)]; rfl)) | (exact oi (by rw [vRidC, decide_eq_false h56, decide_eq_false (show ¬ acc.1 = 0 from h74), decide_eq_true h82]; rfl)) | (exact oi (by rw [vRidC, decide_eq_false h56, decide_eq_false (show ¬ acc.1 = 0 from h74), decide_eq_false h82]; rfl)), hE⟩⟩
  · refine x_aload_n dX9_riddle_59 rfl ?_
    refine x_getr fl_X9_56 dX9_riddle_60 sf_0 rfl ?_
    refine x_geti fl_X9_231 dX9_riddle_63 sf_29 rfl ?_
    exact x_iret dX9_riddle_66 rfl rfl (Nat.le_refl _) (Nat.le_refl _) ⟨rfl, ⟨by first | (exact oi (by rw [vRidC, decide_eq_true h56]; rfl)) | (exact oi (by rw [vRidC, decide_eq_false h56, decide_eq_true (show acc.1 = 0 from h74)]; rfl)) | (exact oi (by rw [vRidC, decide_eq_false h56, decide_eq_false (show ¬ acc.1 = 0 from h74), decide_eq_true h82]; rfl)) | (exact oi (by rw [vRidC, decide_eq_false h56, decide_eq_false (show ¬ acc.1 = 0 from h74), decide_eq_false h82]; rfl)), hE⟩⟩
