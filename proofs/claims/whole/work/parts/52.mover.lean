/-! ===== the class: Mover, riddle ===== -/
def tri : Nat → Nat
  | 0 => 0
  | k + 1 => tri k + k
theorem tri_mono : ∀ {a b : Nat}, a ≤ b → tri a ≤ tri b
  | a, 0, h => by rw [show a = 0 by omega]; exact Nat.le_refl _
  | a, b + 1, h => by
    rcases (show a = b + 1 ∨ a ≤ b by omega) with rfl | h1
    · exact Nat.le_refl _
    · have := tri_mono h1
      rw [tri]; omega
theorem tri31 : tri 31 = 465 := by decide
def b1 (k : Nat) : Int32 := (1 : Int32) <<< (nI k &&& 31)
/-- the sets of one, of two: the least first -/
def ls1 (L : Int32) : Nat → List Int32
  | 0 => []
  | k + 1 => if decide (L &&& b1 k = 0) then ls1 L k else ls1 L k ++ [b1 k]
def lsI (L : Int32) (h : Nat) : Nat → List Int32
  | 0 => []
  | j + 1 => if lies L (nI j) then lsI L h j ++ [b1 h ||| b1 j] else lsI L h j
def ls2 (L : Int32) : Nat → List Int32
  | 0 => []
  | k + 1 => if decide (L &&& b1 k = 0) then ls2 L k else ls2 L k ++ lsI L k k
theorem ls1_s (L : Int32) (k : Nat) : ls1 L (k + 1) = if decide (L &&& b1 k = 0) then ls1 L k else ls1 L k ++ [b1 k] := rfl
theorem ls2_s (L : Int32) (k : Nat) : ls2 L (k + 1) = if decide (L &&& b1 k = 0) then ls2 L k else ls2 L k ++ lsI L k k := rfl
theorem lsI_s (L : Int32) (h j : Nat) : lsI L h (j + 1) = if lies L (nI j) then lsI L h j ++ [b1 h ||| b1 j] else lsI L h j := rfl
theorem ls1_len (L : Int32) : ∀ k, (ls1 L k).length ≤ k
  | 0 => Nat.le_refl _
  | k + 1 => by
    have := ls1_len L k
    rw [ls1_s]; split
    · omega
    · rw [List.length_append]; show _ + 1 ≤ _; omega
theorem lsI_len (L : Int32) (h : Nat) : ∀ j, (lsI L h j).length ≤ j
  | 0 => Nat.le_refl _
  | j + 1 => by
    have := lsI_len L h j
    rw [lsI_s]; split
    · rw [List.length_append]; show _ + 1 ≤ _; omega
    · omega
theorem ls2_len (L : Int32) : ∀ k, (ls2 L k).length ≤ tri k
  | 0 => Nat.le_refl _
  | k + 1 => by
    have := ls2_len L k
    have h2 := lsI_len L k k
    rw [ls2_s, tri]; split
    · omega
    · rw [List.length_append]; omega
def lsn (L : Int32) (n : Nat) : List Int32 := if n = 1 then ls1 L 31 else ls2 L 31
theorem c_listSets1_30 {Z : List (Option Nat)} {ext : List Ds} {M : Mm} (L : Int32) : Ct mX3_listSets [.ref 30, .int L, .int 1] (SS Z ext) M (Rt (some (.int (nI (ls1 L 31).length))) (upr M 30 (rowL (ls1 L 31) (M 30)))) := by
  refine Ct.of (by decide) (Nat.le_of_ble_eq_true rfl) ?_
  refine x_iconst (v := 0) dX3_listSets_0 (by decide) ?_
  refine x_istore_n dX3_listSets_1 (by decide) ?_
  refine x_iconst (v := 0) dX3_listSets_2 (by decide) ?_
  refine x_istore dX3_listSets_3 (by decide) ?_
  refine x_eq (M := upr M 30 (rowL (ls1 L 0) (M 30))) (by rw [show ls1 L 0 = [] from rfl, rowL_0, upr_self]) rfl rfl rfl ?_
  refine (lup (P := fun k => ∀ l5 l6, XW _ _ 0 0 (SS Z ext) (upr M 30 (rowL (ls1 L k) (M 30))) 5 [some (.ref 30), some (.int L), some (.int 1), some (.int (nI (ls1 L k).length)), some (.int (nI k)), l5, l6] []) (N := 31) ?_ ?_ 0 (by omega)) none none
  · intro l5 l6
    refine x_iload dX3_listSets_5 rfl ?_
    refine x_bipush (v := 31) dX3_listSets_7 (by decide) ?_
    refine x_icmp_ge 106 dX3_listSets_9 (by decide) (fun _ => ?_) (fun hc_ => absurd (by decide) hc_)
    refine x_iload_n dX3_listSets_106 rfl ?_
    exact x_iret dX3_listSets_107 rfl rfl (Nat.le_refl _) (Nat.le_refl _) ⟨rfl, ⟨rfl, rfl⟩⟩
  · intro k hk ih l5 l6
    rw [nI_succ k, ls1_s L k] at ih
    have hl := ls1_len L k
    by_cases hb : L &&& b1 k = 0
    · rw [if_pos (decide_eq_true hb)] at ih
      refine x_iload dX3_listSets_5 rfl ?_
      refine x_bipush (v := 31) dX3_listSets_7 (by decide) ?_
      refine x_icmp_ge 106 dX3_listSets_9 (by decide) (fun hc_ => absurd hc_ (nI_ge (a := k) (b := 31) hk (by decide))) (fun _ => ?_)
      refine x_iconst (v := 1) dX3_listSets_12 (by decide) ?_
      refine x_iload dX3_listSets_13 rfl ?_
      refine x_ishl dX3_listSets_15 ?_
      refine x_istore dX3_listSets_16 (by decide) ?_
      refine x_iload_n dX3_listSets_18 rfl ?_
      refine x_iload dX3_listSets_19 rfl ?_
      refine x_iand dX3_listSets_21 ?_
      refine x_if_eq 44 dX3_listSets_22 (by decide) (fun _ => ?_) (fun hc_ => absurd (hb) hc_)
      refine x_iconst (v := 0) dX3_listSets_44 (by decide) ?_
      refine x_istore dX3_listSets_45 (by decide) ?_
      refine x_iload dX3_listSets_47 rfl ?_
      refine x_iload dX3_listSets_49 rfl ?_
      refine x_icmp_ge 100 dX3_listSets_51 (by decide) (fun h51 => ?_) (fun h51 => ?_)
      · refine x_iinc1 dX3_listSets_100 rfl (by decide) ?_
        refine x_goto 5 dX3_listSets_103 (by decide) ?_
        exact ih _ _
      · refine x_iload_n dX3_listSets_54 rfl ?_
        refine x_iconst (v := 2) dX3_listSets_55 (by decide) ?_
        refine x_icmp_ne 100 dX3_listSets_56 (by decide) (fun _ => ?_) (fun hc_ => absurd hc_ (by decide))
        refine x_iinc1 dX3_listSets_100 rfl (by decide) ?_
        refine x_goto 5 dX3_listSets_103 (by decide) ?_
        exact ih _ _
    · rw [if_neg (by rw [decide_eq_false hb]; decide), ← rowL_push, List.length_append, show [b1 k].length = 1 from rfl, nI_succ (ls1 L k).length] at ih
      refine x_iload dX3_listSets_5 rfl ?_
      refine x_bipush (v := 31) dX3_listSets_7 (by decide) ?_
      refine x_icmp_ge 106 dX3_listSets_9 (by decide) (fun hc_ => absurd hc_ (nI_ge (a := k) (b := 31) hk (by decide))) (fun _ => ?_)
      refine x_iconst (v := 1) dX3_listSets_12 (by decide) ?_
      refine x_iload dX3_listSets_13 rfl ?_
      refine x_ishl dX3_listSets_15 ?_
      refine x_istore dX3_listSets_16 (by decide) ?_
      refine x_iload_n dX3_listSets_18 rfl ?_
      refine x_iload dX3_listSets_19 rfl ?_
      refine x_iand dX3_listSets_21 ?_
      refine x_if_eq 44 dX3_listSets_22 (by decide) (fun hc_ => absurd hc_ (hb)) (fun _ => ?_)
      refine x_iload_n dX3_listSets_25 rfl ?_
      refine x_iconst (v := 1) dX3_listSets_26 (by decide) ?_
      refine x_icmp_ne 44 dX3_listSets_27 (by decide) (fun hc_ => absurd (rfl) hc_) (fun _ => ?_)
      refine x_iload_n dX3_listSets_30 rfl ?_
      refine x_aload_n dX3_listSets_31 rfl ?_
      refine x_alen (v := 465) dX3_listSets_32 (Or.inl rfl) sf_30 (by decide) ?_
      refine x_icmp_ge 44 dX3_listSets_33 (by decide) (fun hc_ => absurd hc_ (nI_ge (b := 465) (a := (ls1 L k).length) (by omega) (by decide))) (fun _ => ?_)
      refine x_aload_n dX3_listSets_36 rfl ?_
      refine x_iload_n dX3_listSets_37 rfl ?_
      refine x_iinc1 dX3_listSets_38 rfl (by decide) ?_
      refine x_iload dX3_listSets_41 rfl ?_
      refine x_iast dX3_listSets_43 sf_30 rfl (by omega) (by decide) ?_
      refine x_iconst (v := 0) dX3_listSets_44 (by decide) ?_
      refine x_istore dX3_listSets_45 (by decide) ?_
      refine x_iload dX3_listSets_47 rfl ?_
      refine x_iload dX3_listSets_49 rfl ?_
      refine x_icmp_ge 100 dX3_listSets_51 (by decide) (fun h51 => ?_) (fun h51 => ?_)
      · refine x_iinc1 dX3_listSets_100 rfl (by decide) ?_
        refine x_goto 5 dX3_listSets_103 (by decide) ?_
        first | exact ih _ _ | (rw [up2_upr2]; exact ih _ _)
      · refine x_iload_n dX3_listSets_54 rfl ?_
        refine x_iconst (v := 2) dX3_listSets_55 (by decide) ?_
        refine x_icmp_ne 100 dX3_listSets_56 (by decide) (fun _ => ?_) (fun hc_ => absurd hc_ (by decide))
        refine x_iinc1 dX3_listSets_100 rfl (by decide) ?_
        refine x_goto 5 dX3_listSets_103 (by decide) ?_
        first | exact ih _ _ | (rw [up2_upr2]; exact ih _ _)
theorem c_listSets2_30 {Z : List (Option Nat)} {ext : List Ds} {M : Mm} (L : Int32) : Ct mX3_listSets [.ref 30, .int L, .int 2] (SS Z ext) M (Rt (some (.int (nI (ls2 L 31).length))) (upr M 30 (rowL (ls2 L 31) (M 30)))) := by
  refine Ct.of (by decide) (Nat.le_of_ble_eq_true rfl) ?_
  refine x_iconst (v := 0) dX3_listSets_0 (by decide) ?_
  refine x_istore_n dX3_listSets_1 (by decide) ?_
  refine x_iconst (v := 0) dX3_listSets_2 (by decide) ?_
  refine x_istore dX3_listSets_3 (by decide) ?_
  refine x_eq (M := upr M 30 (rowL (ls2 L 0) (M 30))) (by rw [show ls2 L 0 = [] from rfl, rowL_0, upr_self]) rfl rfl rfl ?_
  refine (lup (P := fun k => ∀ l5 l6, XW _ _ 0 0 (SS Z ext) (upr M 30 (rowL (ls2 L k) (M 30))) 5 [some (.ref 30), some (.int L), some (.int 2), some (.int (nI (ls2 L k).length)), some (.int (nI k)), l5, l6] []) (N := 31) ?_ ?_ 0 (by omega)) none none
  · intro l5 l6
    refine x_iload dX3_listSets_5 rfl ?_
    refine x_bipush (v := 31) dX3_listSets_7 (by decide) ?_
    refine x_icmp_ge 106 dX3_listSets_9 (by decide) (fun _ => ?_) (fun hc_ => absurd (by decide) hc_)
    refine x_iload_n dX3_listSets_106 rfl ?_
    exact x_iret dX3_listSets_107 rfl rfl (Nat.le_refl _) (Nat.le_refl _) ⟨rfl, ⟨rfl, rfl⟩⟩
  · intro k hk ih l5 l6
    rw [nI_succ k, ls2_s L k] at ih
    have hl := ls2_len L k
    by_cases hb : L &&& b1 k = 0
    · rw [if_pos (decide_eq_true hb)] at ih
      refine x_iload dX3_listSets_5 rfl ?_
      refine x_bipush (v := 31) dX3_listSets_7 (by decide) ?_
      refine x_icmp_ge 106 dX3_listSets_9 (by decide) (fun hc_ => absurd hc_ (nI_ge (a := k) (b := 31) hk (by decide))) (fun _ => ?_)
      refine x_iconst (v := 1) dX3_listSets_12 (by decide) ?_
      refine x_iload dX3_listSets_13 rfl ?_
      refine x_ishl dX3_listSets_15 ?_
      refine x_istore dX3_listSets_16 (by decide) ?_
      refine x_iload_n dX3_listSets_18 rfl ?_
      refine x_iload dX3_listSets_19 rfl ?_
      refine x_iand dX3_listSets_21 ?_
      refine x_if_eq 44 dX3_listSets_22 (by decide) (fun _ => ?_) (fun hc_ => absurd (hb) hc_)
      refine x_iconst (v := 0) dX3_listSets_44 (by decide) ?_
      refine x_istore dX3_listSets_45 (by decide) ?_
      refine x_iload dX3_listSets_47 rfl ?_
      refine x_iload dX3_listSets_49 rfl ?_
      refine x_icmp_ge 100 dX3_listSets_51 (by decide) (fun h51 => ?_) (fun h51 => ?_)
      · refine x_iinc1 dX3_listSets_100 rfl (by decide) ?_
        refine x_goto 5 dX3_listSets_103 (by decide) ?_
        exact ih _ _
      · refine x_iload_n dX3_listSets_54 rfl ?_
        refine x_iconst (v := 2) dX3_listSets_55 (by decide) ?_
        refine x_icmp_ne 100 dX3_listSets_56 (by decide) (fun hc_ => absurd (by decide) hc_) (fun _ => ?_)
        refine x_iload_n dX3_listSets_59 rfl ?_
        refine x_iload dX3_listSets_60 rfl ?_
        refine x_iand dX3_listSets_62 ?_
        refine x_if_eq 100 dX3_listSets_63 (by decide) (fun _ => ?_) (fun hc_ => absurd (hb) hc_)
        refine x_iinc1 dX3_listSets_100 rfl (by decide) ?_
        refine x_goto 5 dX3_listSets_103 (by decide) ?_
        exact ih _ _
    · rw [if_neg (by rw [decide_eq_false hb]; decide)] at ih
      have h31 : tri (k + 1) ≤ tri 31 := tri_mono (by omega)
      rw [tri31, tri] at h31
      have loop := lup (P := fun j => XW mX3_listSets (Fc mX3_listSets (fun r S' M' => S' = SS Z ext ∧ Rt (some (.int (nI (ls2 L 31).length))) (upr M 30 (rowL (ls2 L 31) (M 30))) r M')) 0 0 (SS Z ext) (upr M 30 (rowL (ls2 L k ++ lsI L k j) (M 30))) 47 [some (.ref 30), some (.int L), some (.int 2), some (.int (nI (ls2 L k ++ lsI L k j).length)), some (.int (nI k)), some (.int (b1 k)), some (.int (nI j))] []) (N := k) ?_ ?_ 0 (by omega)
      · rw [show lsI L k 0 = [] from rfl, List.append_nil] at loop
        refine x_iload dX3_listSets_5 rfl ?_
        refine x_bipush (v := 31) dX3_listSets_7 (by decide) ?_
        refine x_icmp_ge 106 dX3_listSets_9 (by decide) (fun hc_ => absurd hc_ (nI_ge (a := k) (b := 31) hk (by decide))) (fun _ => ?_)
        refine x_iconst (v := 1) dX3_listSets_12 (by decide) ?_
        refine x_iload dX3_listSets_13 rfl ?_
        refine x_ishl dX3_listSets_15 ?_
        refine x_istore dX3_listSets_16 (by decide) ?_
        refine x_iload_n dX3_listSets_18 rfl ?_
        refine x_iload dX3_listSets_19 rfl ?_
        refine x_iand dX3_listSets_21 ?_
        refine x_if_eq 44 dX3_listSets_22 (by decide) (fun hc_ => absurd hc_ (hb)) (fun _ => ?_)
        refine x_iload_n dX3_listSets_25 rfl ?_
        refine x_iconst (v := 1) dX3_listSets_26 (by decide) ?_
        refine x_icmp_ne 44 dX3_listSets_27 (by decide) (fun _ => ?_) (fun hc_ => absurd hc_ (by decide))
        refine x_iconst (v := 0) dX3_listSets_44 (by decide) ?_
        refine x_istore dX3_listSets_45 (by decide) ?_
        exact loop
      · refine x_iload dX3_listSets_47 rfl ?_
        refine x_iload dX3_listSets_49 rfl ?_
        refine x_icmp_ge 100 dX3_listSets_51 (by decide) (fun _ => ?_) (fun hc_ => absurd (nI_le (Nat.le_refl _) (by omega)) hc_)
        refine x_iinc1 dX3_listSets_100 rfl (by decide) ?_
        refine x_goto 5 dX3_listSets_103 (by decide) ?_
        exact ih _ _
      · intro j hj ih2
        rw [nI_succ j, lsI_s L k j] at ih2
        have hl2 := lsI_len L k j
        have hll : (ls2 L k ++ lsI L k j).length < 465 := by rw [List.length_append]; omega
        refine x_iload dX3_listSets_47 rfl ?_
        refine x_iload dX3_listSets_49 rfl ?_
        refine x_icmp_ge 100 dX3_listSets_51 (by decide) (fun hc_ => absurd hc_ (nI_ge (a := j) (b := k) hj (by omega))) (fun _ => ?_)
        refine x_iload_n dX3_listSets_54 rfl ?_
        refine x_iconst (v := 2) dX3_listSets_55 (by decide) ?_
        refine x_icmp_ne 100 dX3_listSets_56 (by decide) (fun hc_ => absurd (by decide) hc_) (fun _ => ?_)
        refine x_iload_n dX3_listSets_59 rfl ?_
        refine x_iload dX3_listSets_60 rfl ?_
        refine x_iand dX3_listSets_62 ?_
        refine x_if_eq 100 dX3_listSets_63 (by decide) (fun hc_ => absurd hc_ (hb)) (fun _ => ?_)
        refine x_iload_n dX3_listSets_66 rfl ?_
        refine x_iload dX3_listSets_67 rfl ?_
        refine x_ishr dX3_listSets_69 ?_
        refine x_iconst (v := 1) dX3_listSets_70 (by decide) ?_
        refine x_iand dX3_listSets_71 ?_
        refine x_if_eq 94 dX3_listSets_72 (by decide) (fun h72 => ?_) (fun h72 => ?_)
        · refine x_iinc1 dX3_listSets_94 rfl (by decide) ?_
          refine x_goto 47 dX3_listSets_97 (by decide) ?_
          first | (rw [lies_f h72] at ih2; exact ih2) | (rw [lies_t h72, if_pos rfl, ← List.append_assoc, ← rowL_push, List.length_append (as := ls2 L k ++ lsI L k j), show [b1 k ||| b1 j].length = 1 from rfl, nI_succ (ls2 L k ++ lsI L k j).length] at ih2; rw [up2_upr2]; exact ih2)
        · refine x_iload_n dX3_listSets_75 rfl ?_
          refine x_aload_n dX3_listSets_76 rfl ?_
          refine x_alen (v := 465) dX3_listSets_77 (Or.inl rfl) sf_30 (by decide) ?_
          refine x_icmp_ge 94 dX3_listSets_78 (by decide) (fun hc_ => absurd hc_ (nI_ge (b := 465) (a := (ls2 L k ++ lsI L k j).length) hll (by decide))) (fun _ => ?_)
          refine x_aload_n dX3_listSets_81 rfl ?_
          refine x_iload_n dX3_listSets_82 rfl ?_
          refine x_iinc1 dX3_listSets_83 rfl (by decide) ?_
          refine x_iload dX3_listSets_86 rfl ?_
          refine x_iconst (v := 1) dX3_listSets_88 (by decide) ?_
          refine x_iload dX3_listSets_89 rfl ?_
          refine x_ishl dX3_listSets_91 ?_
          refine x_ior dX3_listSets_92 ?_
          refine x_iast dX3_listSets_93 sf_30 rfl hll (by decide) ?_
          refine x_iinc1 dX3_listSets_94 rfl (by decide) ?_
          refine x_goto 47 dX3_listSets_97 (by decide) ?_
          first | (rw [lies_f h72] at ih2; exact ih2) | (rw [lies_t h72, if_pos rfl, ← List.append_assoc, ← rowL_push, List.length_append (as := ls2 L k ++ lsI L k j), show [b1 k ||| b1 j].length = 1 from rfl, nI_succ (ls2 L k ++ lsI L k j).length] at ih2; rw [up2_upr2]; exact ih2)
theorem c_listSets_30 {Z : List (Option Nat)} {ext : List Ds} {M : Mm} (L : Int32) (n : Nat) (h1 : 1 ≤ n) (h2 : n ≤ 2) : Ct mX3_listSets [.ref 30, .int L, .int (nI n)] (SS Z ext) M (Rt (some (.int (nI (lsn L n).length))) (upr M 30 (rowL (lsn L n) (M 30)))) := by
  rcases (show n = 1 ∨ n = 2 by omega) with rfl | rfl
  · exact c_listSets1_30 L
  · exact c_listSets2_30 L
theorem c_listSets1_31 {Z : List (Option Nat)} {ext : List Ds} {M : Mm} (L : Int32) : Ct mX3_listSets [.ref 31, .int L, .int 1] (SS Z ext) M (Rt (some (.int (nI (ls1 L 31).length))) (upr M 31 (rowL (ls1 L 31) (M 31)))) := by
  refine Ct.of (by decide) (Nat.le_of_ble_eq_true rfl) ?_
  refine x_iconst (v := 0) dX3_listSets_0 (by decide) ?_
  refine x_istore_n dX3_listSets_1 (by decide) ?_
  refine x_iconst (v := 0) dX3_listSets_2 (by decide) ?_
  refine x_istore dX3_listSets_3 (by decide) ?_
  refine x_eq (M := upr M 31 (rowL (ls1 L 0) (M 31))) (by rw [show ls1 L 0 = [] from rfl, rowL_0, upr_self]) rfl rfl rfl ?_
  refine (lup (P := fun k => ∀ l5 l6, XW _ _ 0 0 (SS Z ext) (upr M 31 (rowL (ls1 L k) (M 31))) 5 [some (.ref 31), some (.int L), some (.int 1), some (.int (nI (ls1 L k).length)), some (.int (nI k)), l5, l6] []) (N := 31) ?_ ?_ 0 (by omega)) none none
  · intro l5 l6
    refine x_iload dX3_listSets_5 rfl ?_
    refine x_bipush (v := 31) dX3_listSets_7 (by decide) ?_
    refine x_icmp_ge 106 dX3_listSets_9 (by decide) (fun _ => ?_) (fun hc_ => absurd (by decide) hc_)
    refine x_iload_n dX3_listSets_106 rfl ?_
    exact x_iret dX3_listSets_107 rfl rfl (Nat.le_refl _) (Nat.le_refl _) ⟨rfl, ⟨rfl, rfl⟩⟩
  · intro k hk ih l5 l6
    rw [nI_succ k, ls1_s L k] at ih
    have hl := ls1_len L k
    by_cases hb : L &&& b1 k = 0
    · rw [if_pos (decide_eq_true hb)] at ih
      refine x_iload dX3_listSets_5 rfl ?_
      refine x_bipush (v := 31) dX3_listSets_7 (by decide) ?_
      refine x_icmp_ge 106 dX3_listSets_9 (by decide) (fun hc_ => absurd hc_ (nI_ge (a := k) (b := 31) hk (by decide))) (fun _ => ?_)
      refine x_iconst (v := 1) dX3_listSets_12 (by decide) ?_
      refine x_iload dX3_listSets_13 rfl ?_
      refine x_ishl dX3_listSets_15 ?_
      refine x_istore dX3_listSets_16 (by decide) ?_
      refine x_iload_n dX3_listSets_18 rfl ?_
      refine x_iload dX3_listSets_19 rfl ?_
      refine x_iand dX3_listSets_21 ?_
      refine x_if_eq 44 dX3_listSets_22 (by decide) (fun _ => ?_) (fun hc_ => absurd (hb) hc_)
      refine x_iconst (v := 0) dX3_listSets_44 (by decide) ?_
      refine x_istore dX3_listSets_45 (by decide) ?_
      refine x_iload dX3_listSets_47 rfl ?_
      refine x_iload dX3_listSets_49 rfl ?_
      refine x_icmp_ge 100 dX3_listSets_51 (by decide) (fun h51 => ?_) (fun h51 => ?_)
      · refine x_iinc1 dX3_listSets_100 rfl (by decide) ?_
        refine x_goto 5 dX3_listSets_103 (by decide) ?_
        exact ih _ _
      · refine x_iload_n dX3_listSets_54 rfl ?_
        refine x_iconst (v := 2) dX3_listSets_55 (by decide) ?_
        refine x_icmp_ne 100 dX3_listSets_56 (by decide) (fun _ => ?_) (fun hc_ => absurd hc_ (by decide))
        refine x_iinc1 dX3_listSets_100 rfl (by decide) ?_
        refine x_goto 5 dX3_listSets_103 (by decide) ?_
        exact ih _ _
    · rw [if_neg (by rw [decide_eq_false hb]; decide), ← rowL_push, List.length_append, show [b1 k].length = 1 from rfl, nI_succ (ls1 L k).length] at ih
      refine x_iload dX3_listSets_5 rfl ?_
      refine x_bipush (v := 31) dX3_listSets_7 (by decide) ?_
      refine x_icmp_ge 106 dX3_listSets_9 (by decide) (fun hc_ => absurd hc_ (nI_ge (a := k) (b := 31) hk (by decide))) (fun _ => ?_)
      refine x_iconst (v := 1) dX3_listSets_12 (by decide) ?_
      refine x_iload dX3_listSets_13 rfl ?_
      refine x_ishl dX3_listSets_15 ?_
      refine x_istore dX3_listSets_16 (by decide) ?_
      refine x_iload_n dX3_listSets_18 rfl ?_
      refine x_iload dX3_listSets_19 rfl ?_
      refine x_iand dX3_listSets_21 ?_
      refine x_if_eq 44 dX3_listSets_22 (by decide) (fun hc_ => absurd hc_ (hb)) (fun _ => ?_)
      refine x_iload_n dX3_listSets_25 rfl ?_
      refine x_iconst (v := 1) dX3_listSets_26 (by decide) ?_
      refine x_icmp_ne 44 dX3_listSets_27 (by decide) (fun hc_ => absurd (rfl) hc_) (fun _ => ?_)
      refine x_iload_n dX3_listSets_30 rfl ?_
      refine x_aload_n dX3_listSets_31 rfl ?_
      refine x_alen (v := 465) dX3_listSets_32 (Or.inl rfl) sf_31 (by decide) ?_
      refine x_icmp_ge 44 dX3_listSets_33 (by decide) (fun hc_ => absurd hc_ (nI_ge (b := 465) (a := (ls1 L k).length) (by omega) (by decide))) (fun _ => ?_)
      refine x_aload_n dX3_listSets_36 rfl ?_
      refine x_iload_n dX3_listSets_37 rfl ?_
      refine x_iinc1 dX3_listSets_38 rfl (by decide) ?_
      refine x_iload dX3_listSets_41 rfl ?_
      refine x_iast dX3_listSets_43 sf_31 rfl (by omega) (by decide) ?_
      refine x_iconst (v := 0) dX3_listSets_44 (by decide) ?_
      refine x_istore dX3_listSets_45 (by decide) ?_
      refine x_iload dX3_listSets_47 rfl ?_
      refine x_iload dX3_listSets_49 rfl ?_
      refine x_icmp_ge 100 dX3_listSets_51 (by decide) (fun h51 => ?_) (fun h51 => ?_)
      · refine x_iinc1 dX3_listSets_100 rfl (by decide) ?_
        refine x_goto 5 dX3_listSets_103 (by decide) ?_
        first | exact ih _ _ | (rw [up2_upr2]; exact ih _ _)
      · refine x_iload_n dX3_listSets_54 rfl ?_
        refine x_iconst (v := 2) dX3_listSets_55 (by decide) ?_
        refine x_icmp_ne 100 dX3_listSets_56 (by decide) (fun _ => ?_) (fun hc_ => absurd hc_ (by decide))
        refine x_iinc1 dX3_listSets_100 rfl (by decide) ?_
        refine x_goto 5 dX3_listSets_103 (by decide) ?_
        first | exact ih _ _ | (rw [up2_upr2]; exact ih _ _)
theorem c_listSets2_31 {Z : List (Option Nat)} {ext : List Ds} {M : Mm} (L : Int32) : Ct mX3_listSets [.ref 31, .int L, .int 2] (SS Z ext) M (Rt (some (.int (nI (ls2 L 31).length))) (upr M 31 (rowL (ls2 L 31) (M 31)))) := by
  refine Ct.of (by decide) (Nat.le_of_ble_eq_true rfl) ?_
  refine x_iconst (v := 0) dX3_listSets_0 (by decide) ?_
  refine x_istore_n dX3_listSets_1 (by decide) ?_
  refine x_iconst (v := 0) dX3_listSets_2 (by decide) ?_
  refine x_istore dX3_listSets_3 (by decide) ?_
  refine x_eq (M := upr M 31 (rowL (ls2 L 0) (M 31))) (by rw [show ls2 L 0 = [] from rfl, rowL_0, upr_self]) rfl rfl rfl ?_
  refine (lup (P := fun k => ∀ l5 l6, XW _ _ 0 0 (SS Z ext) (upr M 31 (rowL (ls2 L k) (M 31))) 5 [some (.ref 31), some (.int L), some (.int 2), some (.int (nI (ls2 L k).length)), some (.int (nI k)), l5, l6] []) (N := 31) ?_ ?_ 0 (by omega)) none none
  · intro l5 l6
    refine x_iload dX3_listSets_5 rfl ?_
    refine x_bipush (v := 31) dX3_listSets_7 (by decide) ?_
    refine x_icmp_ge 106 dX3_listSets_9 (by decide) (fun _ => ?_) (fun hc_ => absurd (by decide) hc_)
    refine x_iload_n dX3_listSets_106 rfl ?_
    exact x_iret dX3_listSets_107 rfl rfl (Nat.le_refl _) (Nat.le_refl _) ⟨rfl, ⟨rfl, rfl⟩⟩
  · intro k hk ih l5 l6
    rw [nI_succ k, ls2_s L k] at ih
    have hl := ls2_len L k
    by_cases hb : L &&& b1 k = 0
    · rw [if_pos (decide_eq_true hb)] at ih
      refine x_iload dX3_listSets_5 rfl ?_
      refine x_bipush (v := 31) dX3_listSets_7 (by decide) ?_
      refine x_icmp_ge 106 dX3_listSets_9 (by decide) (fun hc_ => absurd hc_ (nI_ge (a := k) (b := 31) hk (by decide))) (fun _ => ?_)
      refine x_iconst (v := 1) dX3_listSets_12 (by decide) ?_
      refine x_iload dX3_listSets_13 rfl ?_
      refine x_ishl dX3_listSets_15 ?_
      refine x_istore dX3_listSets_16 (by decide) ?_
      refine x_iload_n dX3_listSets_18 rfl ?_
      refine x_iload dX3_listSets_19 rfl ?_
      refine x_iand dX3_listSets_21 ?_
      refine x_if_eq 44 dX3_listSets_22 (by decide) (fun _ => ?_) (fun hc_ => absurd (hb) hc_)
      refine x_iconst (v := 0) dX3_listSets_44 (by decide) ?_
      refine x_istore dX3_listSets_45 (by decide) ?_
      refine x_iload dX3_listSets_47 rfl ?_
      refine x_iload dX3_listSets_49 rfl ?_
      refine x_icmp_ge 100 dX3_listSets_51 (by decide) (fun h51 => ?_) (fun h51 => ?_)
      · refine x_iinc1 dX3_listSets_100 rfl (by decide) ?_
        refine x_goto 5 dX3_listSets_103 (by decide) ?_
        exact ih _ _
      · refine x_iload_n dX3_listSets_54 rfl ?_
        refine x_iconst (v := 2) dX3_listSets_55 (by decide) ?_
        refine x_icmp_ne 100 dX3_listSets_56 (by decide) (fun hc_ => absurd (by decide) hc_) (fun _ => ?_)
        refine x_iload_n dX3_listSets_59 rfl ?_
        refine x_iload dX3_listSets_60 rfl ?_
        refine x_iand dX3_listSets_62 ?_
        refine x_if_eq 100 dX3_listSets_63 (by decide) (fun _ => ?_) (fun hc_ => absurd (hb) hc_)
        refine x_iinc1 dX3_listSets_100 rfl (by decide) ?_
        refine x_goto 5 dX3_listSets_103 (by decide) ?_
        exact ih _ _
    · rw [if_neg (by rw [decide_eq_false hb]; decide)] at ih
      have h31 : tri (k + 1) ≤ tri 31 := tri_mono (by omega)
      rw [tri31, tri] at h31
      have loop := lup (P := fun j => XW mX3_listSets (Fc mX3_listSets (fun r S' M' => S' = SS Z ext ∧ Rt (some (.int (nI (ls2 L 31).length))) (upr M 31 (rowL (ls2 L 31) (M 31))) r M')) 0 0 (SS Z ext) (upr M 31 (rowL (ls2 L k ++ lsI L k j) (M 31))) 47 [some (.ref 31), some (.int L), some (.int 2), some (.int (nI (ls2 L k ++ lsI L k j).length)), some (.int (nI k)), some (.int (b1 k)), some (.int (nI j))] []) (N := k) ?_ ?_ 0 (by omega)
      · rw [show lsI L k 0 = [] from rfl, List.append_nil] at loop
        refine x_iload dX3_listSets_5 rfl ?_
        refine x_bipush (v := 31) dX3_listSets_7 (by decide) ?_
        refine x_icmp_ge 106 dX3_listSets_9 (by decide) (fun hc_ => absurd hc_ (nI_ge (a := k) (b := 31) hk (by decide))) (fun _ => ?_)
        refine x_iconst (v := 1) dX3_listSets_12 (by decide) ?_
        refine x_iload dX3_listSets_13 rfl ?_
        refine x_ishl dX3_listSets_15 ?_
        refine x_istore dX3_listSets_16 (by decide) ?_
        refine x_iload_n dX3_listSets_18 rfl ?_
        refine x_iload dX3_listSets_19 rfl ?_
        refine x_iand dX3_listSets_21 ?_
        refine x_if_eq 44 dX3_listSets_22 (by decide) (fun hc_ => absurd hc_ (hb)) (fun _ => ?_)
        refine x_iload_n dX3_listSets_25 rfl ?_
        refine x_iconst (v := 1) dX3_listSets_26 (by decide) ?_
        refine x_icmp_ne 44 dX3_listSets_27 (by decide) (fun _ => ?_) (fun hc_ => absurd hc_ (by decide))
        refine x_iconst (v := 0) dX3_listSets_44 (by decide) ?_
        refine x_istore dX3_listSets_45 (by decide) ?_
        exact loop
      · refine x_iload dX3_listSets_47 rfl ?_
        refine x_iload dX3_listSets_49 rfl ?_
        refine x_icmp_ge 100 dX3_listSets_51 (by decide) (fun _ => ?_) (fun hc_ => absurd (nI_le (Nat.le_refl _) (by omega)) hc_)
        refine x_iinc1 dX3_listSets_100 rfl (by decide) ?_
        refine x_goto 5 dX3_listSets_103 (by decide) ?_
        exact ih _ _
      · intro j hj ih2
        rw [nI_succ j, lsI_s L k j] at ih2
        have hl2 := lsI_len L k j
        have hll : (ls2 L k ++ lsI L k j).length < 465 := by rw [List.length_append]; omega
        refine x_iload dX3_listSets_47 rfl ?_
        refine x_iload dX3_listSets_49 rfl ?_
        refine x_icmp_ge 100 dX3_listSets_51 (by decide) (fun hc_ => absurd hc_ (nI_ge (a := j) (b := k) hj (by omega))) (fun _ => ?_)
        refine x_iload_n dX3_listSets_54 rfl ?_
        refine x_iconst (v := 2) dX3_listSets_55 (by decide) ?_
        refine x_icmp_ne 100 dX3_listSets_56 (by decide) (fun hc_ => absurd (by decide) hc_) (fun _ => ?_)
        refine x_iload_n dX3_listSets_59 rfl ?_
        refine x_iload dX3_listSets_60 rfl ?_
        refine x_iand dX3_listSets_62 ?_
        refine x_if_eq 100 dX3_listSets_63 (by decide) (fun hc_ => absurd hc_ (hb)) (fun _ => ?_)
        refine x_iload_n dX3_listSets_66 rfl ?_
        refine x_iload dX3_listSets_67 rfl ?_
        refine x_ishr dX3_listSets_69 ?_
        refine x_iconst (v := 1) dX3_listSets_70 (by decide) ?_
        refine x_iand dX3_listSets_71 ?_
        refine x_if_eq 94 dX3_listSets_72 (by decide) (fun h72 => ?_) (fun h72 => ?_)
        · refine x_iinc1 dX3_listSets_94 rfl (by decide) ?_
          refine x_goto 47 dX3_listSets_97 (by decide) ?_
          first | (rw [lies_f h72] at ih2; exact ih2) | (rw [lies_t h72, if_pos rfl, ← List.append_assoc, ← rowL_push, List.length_append (as := ls2 L k ++ lsI L k j), show [b1 k ||| b1 j].length = 1 from rfl, nI_succ (ls2 L k ++ lsI L k j).length] at ih2; rw [up2_upr2]; exact ih2)
        · refine x_iload_n dX3_listSets_75 rfl ?_
          refine x_aload_n dX3_listSets_76 rfl ?_
          refine x_alen (v := 465) dX3_listSets_77 (Or.inl rfl) sf_31 (by decide) ?_
          refine x_icmp_ge 94 dX3_listSets_78 (by decide) (fun hc_ => absurd hc_ (nI_ge (b := 465) (a := (ls2 L k ++ lsI L k j).length) hll (by decide))) (fun _ => ?_)
          refine x_aload_n dX3_listSets_81 rfl ?_
          refine x_iload_n dX3_listSets_82 rfl ?_
          refine x_iinc1 dX3_listSets_83 rfl (by decide) ?_
          refine x_iload dX3_listSets_86 rfl ?_
          refine x_iconst (v := 1) dX3_listSets_88 (by decide) ?_
          refine x_iload dX3_listSets_89 rfl ?_
          refine x_ishl dX3_listSets_91 ?_
          refine x_ior dX3_listSets_92 ?_
          refine x_iast dX3_listSets_93 sf_31 rfl hll (by decide) ?_
          refine x_iinc1 dX3_listSets_94 rfl (by decide) ?_
          refine x_goto 47 dX3_listSets_97 (by decide) ?_
          first | (rw [lies_f h72] at ih2; exact ih2) | (rw [lies_t h72, if_pos rfl, ← List.append_assoc, ← rowL_push, List.length_append (as := ls2 L k ++ lsI L k j), show [b1 k ||| b1 j].length = 1 from rfl, nI_succ (ls2 L k ++ lsI L k j).length] at ih2; rw [up2_upr2]; exact ih2)
theorem c_listSets_31 {Z : List (Option Nat)} {ext : List Ds} {M : Mm} (L : Int32) (n : Nat) (h1 : 1 ≤ n) (h2 : n ≤ 2) : Ct mX3_listSets [.ref 31, .int L, .int (nI n)] (SS Z ext) M (Rt (some (.int (nI (lsn L n).length))) (upr M 31 (rowL (lsn L n) (M 31)))) := by
  rcases (show n = 1 ∨ n = 2 by omega) with rfl | rfl
  · exact c_listSets1_31 L
  · exact c_listSets2_31 L
theorem lsn_465 (L : Int32) (n : Nat) : (lsn L n).length ≤ 465 := by
  unfold lsn
  split
  · have := ls1_len L 31; omega
  · have := ls2_len L 31; rw [tri31] at this; exact this
abbrev Mv : Type := Int32 × Int32 × Int32
def mvM (M : Mm) (k : Mv) : Mm := upr M 29 (upd (upd (upd (M 29) 0 k.1) 1 k.2.1) 2 k.2.2)
theorem mvM_mvM (M : Mm) (a b : Mv) : mvM (mvM M a) b = mvM M b := by
  unfold mvM
  rw [upr_s, upr_upr]
  congr 1
  funext k
  unfold upd
  by_cases h2 : k = 2
  · simp [h2]
  · by_cases h1 : k = 1
    · simp [h1]
    · by_cases h0 : k = 0 <;> simp [h0, h1, h2]
def mvs (k : Mv) (t l : Int32) : Mv := (k.1 + 1, if decide (k.1 = 0) then t else k.2.1, if decide (k.1 = 0) then l else k.2.2)
theorem c_noteMove {Z : List (Option Nat)} {ext : List Ds} {M : Mm} (k : Mv) (t l : Int32) : Ct mX3_noteMove [.ref 29, .int t, .int l] (SS Z ext) (mvM M k) (Rt none (mvM M (mvs k t l))) := by
  have e : ∀ a b, (a = if decide (k.1 = 0) then t else k.2.1) → (b = if decide (k.1 = 0) then l else k.2.2) → up2 (up2 (up2 (mvM M k) 29 1 a) 29 2 b) 29 0 (k.1 + 1) = mvM M (mvs k t l) := by
    intro a b ha hb
    rw [mvs, ← ha, ← hb]
    funext c
    unfold up2 mvM upr
    by_cases hc : c = 29
    · subst hc
      funext k
      unfold upd
      by_cases h2 : k = 2
      · simp [h2]
      · by_cases h1 : k = 1
        · simp [h1]
        · by_cases h0 : k = 0 <;> simp [h0, h1, h2]
    · simp [hc]
  refine Ct.of (by decide) (Nat.le_of_ble_eq_true rfl) ?_
  refine x_aload_n dX3_noteMove_0 rfl ?_
  refine x_geti fl_X3_35 dX3_noteMove_1 sf_29 rfl ?_
  refine x_if_ne 17 dX3_noteMove_4 (by decide) (fun h4 => ?_) (fun h4 => ?_)
  · refine x_aload_n dX3_noteMove_17 rfl ?_
    refine x_dup dX3_noteMove_18 rfl ?_
    refine x_geti fl_X3_35 dX3_noteMove_19 sf_29 rfl ?_
    refine x_iconst (v := 1) dX3_noteMove_22 (by decide) ?_
    refine x_iadd dX3_noteMove_23 ?_
    refine x_put fl_X3_35 dX3_noteMove_24 sf_29 rfl rfl rfl ?_
    exact x_ret dX3_noteMove_27 rfl (Nat.le_refl _) (Nat.le_refl _) ⟨rfl, ⟨rfl, by first | (refine Eq.trans ?_ (e k.2.1 k.2.2 (by rw [decide_eq_false (show ¬ k.1 = 0 from h4)]; rfl) (by rw [decide_eq_false (show ¬ k.1 = 0 from h4)]; rfl)); rw [up2_self (c := 29) (k := 1) (show mvM M k 29 1 = k.2.1 from rfl), up2_self (c := 29) (k := 2) (show mvM M k 29 2 = k.2.2 from rfl)]; rfl) | (exact e t l (by rw [decide_eq_true (show k.1 = 0 from h4)]; rfl) (by rw [decide_eq_true (show k.1 = 0 from h4)]; rfl))⟩⟩
  · refine x_aload_n dX3_noteMove_7 rfl ?_
    refine x_iload_n dX3_noteMove_8 rfl ?_
    refine x_put fl_X3_48 dX3_noteMove_9 sf_29 rfl rfl rfl ?_
    refine x_aload_n dX3_noteMove_12 rfl ?_
    refine x_iload_n dX3_noteMove_13 rfl ?_
    refine x_put fl_X3_51 dX3_noteMove_14 sf_29 rfl rfl rfl ?_
    refine x_aload_n dX3_noteMove_17 rfl ?_
    refine x_dup dX3_noteMove_18 rfl ?_
    refine x_geti fl_X3_35 dX3_noteMove_19 sf_29 rfl ?_
    refine x_iconst (v := 1) dX3_noteMove_22 (by decide) ?_
    refine x_iadd dX3_noteMove_23 ?_
    refine x_put fl_X3_35 dX3_noteMove_24 sf_29 rfl rfl rfl ?_
    exact x_ret dX3_noteMove_27 rfl (Nat.le_refl _) (Nat.le_refl _) ⟨rfl, ⟨rfl, by first | (refine Eq.trans ?_ (e k.2.1 k.2.2 (by rw [decide_eq_false (show ¬ k.1 = 0 from h4)]; rfl) (by rw [decide_eq_false (show ¬ k.1 = 0 from h4)]; rfl)); rw [up2_self (c := 29) (k := 1) (show mvM M k 29 1 = k.2.1 from rfl), up2_self (c := 29) (k := 2) (show mvM M k 29 2 = k.2.2 from rfl)]; rfl) | (exact e t l (by rw [decide_eq_true (show k.1 = 0 from h4)]; rfl) (by rw [decide_eq_true (show k.1 = 0 from h4)]; rfl))⟩⟩
