/-! ===== the reference: matchAt, turned, turnedSet, alike ===== -/
def rmd (a b : Int32) : Int32 := a - a / b * b
def mat (w h x y : Int32) : Int32 := if decide (rmd y 2 = 0) then y / 2 * w + x / 2 else w * (h + 1) + y / 2 * (w + 1) + x / 2
theorem c_m_matchAt {Z : List (Option Nat)} {ext : List Ds} {M : Mm} (x y : Int32) : Ct mX10_matchAt [.ref 48, .int x, .int y] (SS Z ext) M (Rt (some (.int (mat (M 48 2) (M 48 3) x y))) M) := by
  refine Ct.of (by decide) (Nat.le_of_ble_eq_true rfl) ?_
  refine x_iload_n dX10_matchAt_0 rfl ?_
  refine x_iconst (v := 2) dX10_matchAt_1 (by decide) ?_
  refine x_irem dX10_matchAt_2 (by decide) ?_
  refine x_if_ne 19 dX10_matchAt_3 (by decide) (fun h3 => ?_) (fun h3 => ?_)
  · refine x_aload_n dX10_matchAt_19 rfl ?_
    refine x_iload_n dX10_matchAt_20 rfl ?_
    refine x_iconst (v := 2) dX10_matchAt_21 (by decide) ?_
    refine x_idiv dX10_matchAt_22 (by decide) ?_
    refine x_iload_n dX10_matchAt_23 rfl ?_
    refine x_iconst (v := 2) dX10_matchAt_24 (by decide) ?_
    refine x_idiv dX10_matchAt_25 (by decide) ?_
    refine x_cvd mf_X10_standsAt ml_X10_113 dX10_matchAt_26 rfl sf_48 rfl ⟨by decide, by decide⟩ (Nat.le_of_ble_eq_true rfl) ⟨rfl, rfl⟩ ⟨Nat.le_of_ble_eq_true rfl, Nat.le_of_ble_eq_true rfl⟩ (c_m_standsAt _ _) ?_
    exact x_iret dX10_matchAt_29 rfl rfl (Nat.le_refl _) (Nat.le_refl _) ⟨rfl, ⟨by first | (exact oi (by rw [mat, decide_eq_true (show rmd y 2 = 0 from h3)]; rfl)) | (exact oi (by rw [mat, decide_eq_false (show ¬ rmd y 2 = 0 from h3)]; rfl)), rfl⟩⟩
  · refine x_aload_n dX10_matchAt_6 rfl ?_
    refine x_iload_n dX10_matchAt_7 rfl ?_
    refine x_iconst (v := 2) dX10_matchAt_8 (by decide) ?_
    refine x_idiv dX10_matchAt_9 (by decide) ?_
    refine x_iload_n dX10_matchAt_10 rfl ?_
    refine x_iconst (v := 2) dX10_matchAt_11 (by decide) ?_
    refine x_idiv dX10_matchAt_12 (by decide) ?_
    refine x_cvd mf_X10_acrossAt ml_X10_109 dX10_matchAt_13 rfl sf_48 rfl ⟨by decide, by decide⟩ (Nat.le_of_ble_eq_true rfl) ⟨rfl, rfl⟩ ⟨Nat.le_of_ble_eq_true rfl, Nat.le_of_ble_eq_true rfl⟩ (c_m_acrossAt _ _) ?_
    refine x_goto 29 dX10_matchAt_16 (by decide) ?_
    exact x_iret dX10_matchAt_29 rfl rfl (Nat.le_refl _) (Nat.le_refl _) ⟨rfl, ⟨by first | (exact oi (by rw [mat, decide_eq_true (show rmd y 2 = 0 from h3)]; rfl)) | (exact oi (by rw [mat, decide_eq_false (show ¬ rmd y 2 = 0 from h3)]; rfl)), rfl⟩⟩
def trX (w h m : Int32) : Int32 := if decide (m < w * (h + 1)) then 2 * rmd m w + 1 else 2 * rmd (m - w * (h + 1)) (w + 1)
def trY (w h m : Int32) : Int32 := if decide (m < w * (h + 1)) then 2 * (m / w) else 2 * ((m - w * (h + 1)) / (w + 1)) + 1
def trn (w h m how : Int32) : Int32 := if decide (how &&& 4 = 4) then mat w h (if decide (how &&& 2 = 2) then 2 * h - trY w h m else trY w h m) (if decide (how &&& 1 = 1) then 2 * w - trX w h m else trX w h m) else mat w h (if decide (how &&& 1 = 1) then 2 * w - trX w h m else trX w h m) (if decide (how &&& 2 = 2) then 2 * h - trY w h m else trY w h m)
theorem c_m_turned {Z : List (Option Nat)} {ext : List Ds} {M : Mm} {w : Nat} (m how : Int32) (hw : M 48 2 = nI w) (hw1 : 1 ≤ w) (hw4 : w ≤ 4) : Ct mX10_turned [.ref 48, .int m, .int how] (SS Z ext) M (Rt (some (.int (trn (M 48 2) (M 48 3) m how))) M) := by
  have n0 : M 48 2 ≠ 0 := by rw [hw]; exact nI_ne0 (by omega) (by omega)
  have n1 : M 48 2 + 1 ≠ 0 := by rw [hw, ← nI_succ]; exact nI_ne0 (by omega) (by omega)
  rw [trn]
  generalize hX : trX (M 48 2) (M 48 3) m = X0
  generalize hY : trY (M 48 2) (M 48 3) m = Y0
  generalize hX1 : (if decide (how &&& 1 = 1) then 2 * M 48 2 - X0 else X0) = X1
  generalize hY1 : (if decide (how &&& 2 = 2) then 2 * M 48 3 - Y0 else Y0) = Y1
  refine Ct.of (by decide) (Nat.le_of_ble_eq_true rfl) ?_
  refine x_join M 140 [some (.ref 48), some (.int m), some (.int how), some (.int (b2i (decide (m < M 48 2 * (M 48 3 + 1))))), some (.int (m - M 48 2 * (M 48 3 + 1))), some (.int X1), some (.int Y0)] [.int Y1] ?_ (fun fin => ?_)
  · refine x_istore dX10_turned_140 (by decide) ?_
    refine x_iload_n dX10_turned_142 rfl ?_
    refine x_iconst (v := 4) dX10_turned_143 (by decide) ?_
    refine x_iand dX10_turned_144 ?_
    refine x_iconst (v := 4) dX10_turned_145 (by decide) ?_
    refine x_icmp_ne 160 dX10_turned_146 (by decide) (fun h146 => ?_) (fun h146 => ?_)
    · refine x_aload_n dX10_turned_160 rfl ?_
      refine x_iload dX10_turned_161 rfl ?_
      refine x_iload dX10_turned_163 rfl ?_
      refine x_cvd mf_X10_matchAt ml_X10_255 dX10_turned_165 rfl sf_48 rfl ⟨by decide, by decide⟩ (Nat.le_of_ble_eq_true rfl) ⟨rfl, rfl⟩ ⟨Nat.le_of_ble_eq_true rfl, Nat.le_of_ble_eq_true rfl⟩ (c_m_matchAt _ _) ?_
      exact x_iret dX10_turned_168 rfl rfl (Nat.le_refl _) (Nat.le_refl _) ⟨rfl, ⟨by first | (exact oi (by rw [decide_eq_false h146]; rfl)) | (exact oi (by rw [decide_eq_true h146]; rfl)), rfl⟩⟩
    · refine x_aload_n dX10_turned_149 rfl ?_
      refine x_iload dX10_turned_150 rfl ?_
      refine x_iload dX10_turned_152 rfl ?_
      refine x_cvd mf_X10_matchAt ml_X10_255 dX10_turned_154 rfl sf_48 rfl ⟨by decide, by decide⟩ (Nat.le_of_ble_eq_true rfl) ⟨rfl, rfl⟩ ⟨Nat.le_of_ble_eq_true rfl, Nat.le_of_ble_eq_true rfl⟩ (c_m_matchAt _ _) ?_
      refine x_goto 168 dX10_turned_157 (by decide) ?_
      exact x_iret dX10_turned_168 rfl rfl (Nat.le_refl _) (Nat.le_refl _) ⟨rfl, ⟨by first | (exact oi (by rw [decide_eq_false h146]; rfl)) | (exact oi (by rw [decide_eq_true h146]; rfl)), rfl⟩⟩
  · refine x_join M 117 [some (.ref 48), some (.int m), some (.int how), some (.int (b2i (decide (m < M 48 2 * (M 48 3 + 1))))), some (.int (m - M 48 2 * (M 48 3 + 1))), some (.int X0), some (.int Y0)] [.int X1] ?_ (fun fin => ?_)
    · refine x_istore dX10_turned_117 (by decide) ?_
      refine x_iload_n dX10_turned_119 rfl ?_
      refine x_iconst (v := 2) dX10_turned_120 (by decide) ?_
      refine x_iand dX10_turned_121 ?_
      refine x_iconst (v := 2) dX10_turned_122 (by decide) ?_
      refine x_icmp_ne 138 dX10_turned_123 (by decide) (fun h123 => ?_) (fun h123 => ?_)
      · refine x_iload dX10_turned_138 rfl ?_
        first | (rw [decide_eq_false h123] at hY1; have e : Y0 = Y1 := hY1; subst e; exact fin) | (rw [decide_eq_true h123] at hY1; have e : 2 * M 48 3 - Y0 = Y1 := hY1; subst e; exact fin)
      · refine x_iconst (v := 2) dX10_turned_126 (by decide) ?_
        refine x_aload_n dX10_turned_127 rfl ?_
        refine x_geti fl_X10_106 dX10_turned_128 sf_48 rfl ?_
        refine x_imul dX10_turned_131 ?_
        refine x_iload dX10_turned_132 rfl ?_
        refine x_isub dX10_turned_134 ?_
        refine x_goto 140 dX10_turned_135 (by decide) ?_
        first | (rw [decide_eq_false h123] at hY1; have e : Y0 = Y1 := hY1; subst e; exact fin) | (rw [decide_eq_true h123] at hY1; have e : 2 * M 48 3 - Y0 = Y1 := hY1; subst e; exact fin)
    · refine x_join M 94 [some (.ref 48), some (.int m), some (.int how), some (.int (b2i (decide (m < M 48 2 * (M 48 3 + 1))))), some (.int (m - M 48 2 * (M 48 3 + 1))), some (.int X0), none] [.int Y0] ?_ (fun fin => ?_)
      · refine x_istore dX10_turned_94 (by decide) ?_
        refine x_iload_n dX10_turned_96 rfl ?_
        refine x_iconst (v := 1) dX10_turned_97 (by decide) ?_
        refine x_iand dX10_turned_98 ?_
        refine x_iconst (v := 1) dX10_turned_99 (by decide) ?_
        refine x_icmp_ne 115 dX10_turned_100 (by decide) (fun h100 => ?_) (fun h100 => ?_)
        · refine x_iload dX10_turned_115 rfl ?_
          first | (rw [decide_eq_false h100] at hX1; have e : X0 = X1 := hX1; subst e; exact fin) | (rw [decide_eq_true h100] at hX1; have e : 2 * M 48 2 - X0 = X1 := hX1; subst e; exact fin)
        · refine x_iconst (v := 2) dX10_turned_103 (by decide) ?_
          refine x_aload_n dX10_turned_104 rfl ?_
          refine x_geti fl_X10_103 dX10_turned_105 sf_48 rfl ?_
          refine x_imul dX10_turned_108 ?_
          refine x_iload dX10_turned_109 rfl ?_
          refine x_isub dX10_turned_111 ?_
          refine x_goto 117 dX10_turned_112 (by decide) ?_
          first | (rw [decide_eq_false h100] at hX1; have e : X0 = X1 := hX1; subst e; exact fin) | (rw [decide_eq_true h100] at hX1; have e : 2 * M 48 2 - X0 = X1 := hX1; subst e; exact fin)
      · by_cases hac : m < M 48 2 * (M 48 3 + 1)
        · rw [decide_eq_true hac] at fin
          rw [trX, decide_eq_true hac] at hX
          rw [trY, decide_eq_true hac] at hY
          refine x_iload_n dX10_turned_0 rfl ?_
          refine x_aload_n dX10_turned_1 rfl ?_
          refine x_geti fl_X10_103 dX10_turned_2 sf_48 rfl ?_
          refine x_aload_n dX10_turned_5 rfl ?_
          refine x_geti fl_X10_106 dX10_turned_6 sf_48 rfl ?_
          refine x_iconst (v := 1) dX10_turned_9 (by decide) ?_
          refine x_iadd dX10_turned_10 ?_
          refine x_imul dX10_turned_11 ?_
          refine x_icmp_ge 19 dX10_turned_12 (by decide) (fun hc_ => absurd hc_ (fun q => absurd hac (by rw [fa_lt]; rw [fa_le] at q; omega))) (fun _ => ?_)
          refine x_iconst (v := 1) dX10_turned_15 (by decide) ?_
          refine x_goto 20 dX10_turned_16 (by decide) ?_
          refine x_istore_n dX10_turned_20 (by decide) ?_
          refine x_iload_n dX10_turned_21 rfl ?_
          refine x_aload_n dX10_turned_22 rfl ?_
          refine x_geti fl_X10_103 dX10_turned_23 sf_48 rfl ?_
          refine x_aload_n dX10_turned_26 rfl ?_
          refine x_geti fl_X10_106 dX10_turned_27 sf_48 rfl ?_
          refine x_iconst (v := 1) dX10_turned_30 (by decide) ?_
          refine x_iadd dX10_turned_31 ?_
          refine x_imul dX10_turned_32 ?_
          refine x_isub dX10_turned_33 ?_
          refine x_istore dX10_turned_34 (by decide) ?_
          refine x_iload_n dX10_turned_36 rfl ?_
          refine x_if_eq 53 dX10_turned_37 (by decide) (fun hc_ => absurd hc_ (by decide)) (fun _ => ?_)
          refine x_iconst (v := 2) dX10_turned_40 (by decide) ?_
          refine x_iload_n dX10_turned_41 rfl ?_
          refine x_aload_n dX10_turned_42 rfl ?_
          refine x_geti fl_X10_103 dX10_turned_43 sf_48 rfl ?_
          refine x_irem dX10_turned_46 n0 ?_
          refine x_imul dX10_turned_47 ?_
          refine x_iconst (v := 1) dX10_turned_48 (by decide) ?_
          refine x_iadd dX10_turned_49 ?_
          refine x_goto 64 dX10_turned_50 (by decide) ?_
          refine x_istore dX10_turned_64 (by decide) ?_
          refine x_iload_n dX10_turned_66 rfl ?_
          refine x_if_eq 81 dX10_turned_67 (by decide) (fun hc_ => absurd hc_ (by decide)) (fun _ => ?_)
          refine x_iconst (v := 2) dX10_turned_70 (by decide) ?_
          refine x_iload_n dX10_turned_71 rfl ?_
          refine x_aload_n dX10_turned_72 rfl ?_
          refine x_geti fl_X10_103 dX10_turned_73 sf_48 rfl ?_
          refine x_idiv dX10_turned_76 n0 ?_
          refine x_imul dX10_turned_77 ?_
          refine x_goto 94 dX10_turned_78 (by decide) ?_
          rw [← hX, ← hY] at fin
          exact fin
        · rw [decide_eq_false hac] at fin
          rw [trX, decide_eq_false hac] at hX
          rw [trY, decide_eq_false hac] at hY
          refine x_iload_n dX10_turned_0 rfl ?_
          refine x_aload_n dX10_turned_1 rfl ?_
          refine x_geti fl_X10_103 dX10_turned_2 sf_48 rfl ?_
          refine x_aload_n dX10_turned_5 rfl ?_
          refine x_geti fl_X10_106 dX10_turned_6 sf_48 rfl ?_
          refine x_iconst (v := 1) dX10_turned_9 (by decide) ?_
          refine x_iadd dX10_turned_10 ?_
          refine x_imul dX10_turned_11 ?_
          refine x_icmp_ge 19 dX10_turned_12 (by decide) (fun _ => ?_) (fun hc_ => absurd (fa_of_nlt hac) hc_)
          refine x_iconst (v := 0) dX10_turned_19 (by decide) ?_
          refine x_istore_n dX10_turned_20 (by decide) ?_
          refine x_iload_n dX10_turned_21 rfl ?_
          refine x_aload_n dX10_turned_22 rfl ?_
          refine x_geti fl_X10_103 dX10_turned_23 sf_48 rfl ?_
          refine x_aload_n dX10_turned_26 rfl ?_
          refine x_geti fl_X10_106 dX10_turned_27 sf_48 rfl ?_
          refine x_iconst (v := 1) dX10_turned_30 (by decide) ?_
          refine x_iadd dX10_turned_31 ?_
          refine x_imul dX10_turned_32 ?_
          refine x_isub dX10_turned_33 ?_
          refine x_istore dX10_turned_34 (by decide) ?_
          refine x_iload_n dX10_turned_36 rfl ?_
          refine x_if_eq 53 dX10_turned_37 (by decide) (fun _ => ?_) (fun hc_ => absurd (rfl) hc_)
          refine x_iconst (v := 2) dX10_turned_53 (by decide) ?_
          refine x_iload dX10_turned_54 rfl ?_
          refine x_aload_n dX10_turned_56 rfl ?_
          refine x_geti fl_X10_103 dX10_turned_57 sf_48 rfl ?_
          refine x_iconst (v := 1) dX10_turned_60 (by decide) ?_
          refine x_iadd dX10_turned_61 ?_
          refine x_irem dX10_turned_62 n1 ?_
          refine x_imul dX10_turned_63 ?_
          refine x_istore dX10_turned_64 (by decide) ?_
          refine x_iload_n dX10_turned_66 rfl ?_
          refine x_if_eq 81 dX10_turned_67 (by decide) (fun _ => ?_) (fun hc_ => absurd (rfl) hc_)
          refine x_iconst (v := 2) dX10_turned_81 (by decide) ?_
          refine x_iload dX10_turned_82 rfl ?_
          refine x_aload_n dX10_turned_84 rfl ?_
          refine x_geti fl_X10_103 dX10_turned_85 sf_48 rfl ?_
          refine x_iconst (v := 1) dX10_turned_88 (by decide) ?_
          refine x_iadd dX10_turned_89 ?_
          refine x_idiv dX10_turned_90 n1 ?_
          refine x_imul dX10_turned_91 ?_
          refine x_iconst (v := 1) dX10_turned_92 (by decide) ?_
          refine x_iadd dX10_turned_93 ?_
          rw [← hX, ← hY] at fin
          exact fin
def trS (w h set how : Int32) (n : Nat) : Int32 := fld (fun m a => a ||| (((set >>> (nI m &&& 31)) &&& 1) <<< (trn w h (nI m) how &&& 31))) n 0
theorem c_m_turnedSet {Z : List (Option Nat)} {ext : List Ds} {M : Mm} {w mt : Nat} (set how : Int32) (hw : M 48 2 = nI w) (hw1 : 1 ≤ w) (hw4 : w ≤ 4) (hm : M 48 4 = nI mt) (hmb : mt ≤ 31) : Ct mX10_turnedSet [.ref 48, .int set, .int how] (SS Z ext) M (Rt (some (.int (trS (M 48 2) (M 48 3) set how mt))) M) := by
  refine Ct.of (by decide) (Nat.le_of_ble_eq_true rfl) ?_
  refine x_iconst (v := 0) dX10_turnedSet_0 (by decide) ?_
  refine x_istore_n dX10_turnedSet_1 (by decide) ?_
  refine x_iconst (v := 0) dX10_turnedSet_2 (by decide) ?_
  refine x_istore dX10_turnedSet_3 (by decide) ?_
  refine lup (P := fun k => XW _ _ 0 0 (SS Z ext) M 5 [some (.ref 48), some (.int set), some (.int how), some (.int (trS (M 48 2) (M 48 3) set how k)), some (.int (nI k))] []) (N := mt) ?_ ?_ 0 (by omega)
  · refine x_iload dX10_turnedSet_5 rfl ?_
    refine x_aload_n dX10_turnedSet_7 rfl ?_
    refine x_geti fl_X10_123 dX10_turnedSet_8 sf_48 rfl ?_
    refine x_icmp_ge 37 dX10_turnedSet_11 (by decide) (fun _ => ?_) (fun hc_ => absurd (by rw [hm]; exact nI_le (Nat.le_refl _) (by omega)) hc_)
    refine x_iload_n dX10_turnedSet_37 rfl ?_
    exact x_iret dX10_turnedSet_38 rfl rfl (Nat.le_refl _) (Nat.le_refl _) ⟨rfl, ⟨rfl, rfl⟩⟩
  · intro k hk ih
    rw [nI_succ k] at ih
    refine x_iload dX10_turnedSet_5 rfl ?_
    refine x_aload_n dX10_turnedSet_7 rfl ?_
    refine x_geti fl_X10_123 dX10_turnedSet_8 sf_48 rfl ?_
    refine x_icmp_ge 37 dX10_turnedSet_11 (by decide) (fun hc_ => absurd hc_ (by rw [hm]; exact nI_ge hk (by omega))) (fun _ => ?_)
    refine x_iload_n dX10_turnedSet_14 rfl ?_
    refine x_iload_n dX10_turnedSet_15 rfl ?_
    refine x_iload dX10_turnedSet_16 rfl ?_
    refine x_ishr dX10_turnedSet_18 ?_
    refine x_iconst (v := 1) dX10_turnedSet_19 (by decide) ?_
    refine x_iand dX10_turnedSet_20 ?_
    refine x_aload_n dX10_turnedSet_21 rfl ?_
    refine x_iload dX10_turnedSet_22 rfl ?_
    refine x_iload_n dX10_turnedSet_24 rfl ?_
    refine x_cvd mf_X10_turned ml_X10_258 dX10_turnedSet_25 rfl sf_48 rfl ⟨by decide, by decide⟩ (Nat.le_of_ble_eq_true rfl) ⟨rfl, rfl⟩ ⟨Nat.le_of_ble_eq_true rfl, Nat.le_of_ble_eq_true rfl⟩ (c_m_turned _ _ hw hw1 hw4) ?_
    refine x_ishl dX10_turnedSet_28 ?_
    refine x_ior dX10_turnedSet_29 ?_
    refine x_istore_n dX10_turnedSet_30 (by decide) ?_
    refine x_iinc1 dX10_turnedSet_31 rfl (by decide) ?_
    refine x_goto 5 dX10_turnedSet_34 (by decide) ?_
    exact ih
/-- some of the first n turns sends a to b -/
def trA (w h a b : Int32) (mt : Nat) : Nat → Bool
  | 0 => false
  | k + 1 => trA w h a b mt k || decide (trS w h a (nI k) mt = b)
theorem c_m_alikeX {Z : List (Option Nat)} {ext : List Ds} {M : Mm} {mt : Nat} (a b : Int32) (hm : M 48 4 = nI mt) (hx : (vIsSet mt a && vIsSet mt b) = false) : Ct mX10_alike [.ref 48, .int a, .int b] (SS Z ext) M (Rt (some (.int (-1))) M) := by
  refine Ct.of (by decide) (Nat.le_of_ble_eq_true rfl) ?_
  refine x_aload_n dX10_alike_0 rfl ?_
  refine x_iload_n dX10_alike_1 rfl ?_
  refine x_cvd mf_X10_isSet ml_X10_261 dX10_alike_2 rfl sf_48 rfl ⟨by decide, by decide⟩ (Nat.le_of_ble_eq_true rfl) ⟨rfl, rfl⟩ ⟨Nat.le_of_ble_eq_true rfl, Nat.le_of_ble_eq_true rfl⟩ (c_m_isSet a hm) ?_
  refine x_ifb_eq 16 dX10_alike_5 (by decide) (fun h5 => ?_) (fun h5 => ?_)
  · refine x_iconst (v := -1) dX10_alike_16 (by decide) ?_
    exact x_iret dX10_alike_17 rfl rfl (Nat.le_refl _) (Nat.le_refl _) ⟨rfl, ⟨rfl, rfl⟩⟩
  · refine x_aload_n dX10_alike_8 rfl ?_
    refine x_iload_n dX10_alike_9 rfl ?_
    refine x_cvd mf_X10_isSet ml_X10_261 dX10_alike_10 rfl sf_48 rfl ⟨by decide, by decide⟩ (Nat.le_of_ble_eq_true rfl) ⟨rfl, rfl⟩ ⟨Nat.le_of_ble_eq_true rfl, Nat.le_of_ble_eq_true rfl⟩ (c_m_isSet b hm) ?_
    refine x_ifb_ne 18 dX10_alike_13 (by decide) (fun h13 => ?_) (fun h13 => ?_)
    · rw [h5, h13] at hx; cases hx
    · refine x_iconst (v := -1) dX10_alike_16 (by decide) ?_
      exact x_iret dX10_alike_17 rfl rfl (Nat.le_refl _) (Nat.le_refl _) ⟨rfl, ⟨rfl, rfl⟩⟩
theorem c_m_alike {Z : List (Option Nat)} {ext : List Ds} {M : Mm} {w h mt : Nat} (a b : Int32) (hw : M 48 2 = nI w) (hw1 : 1 ≤ w) (hw4 : w ≤ 4) (hh : M 48 3 = nI h) (hh3 : h ≤ 3) (hm : M 48 4 = nI mt) (hmb : mt ≤ 31) (hx : (vIsSet mt a && vIsSet mt b) = true) : Ct mX10_alike [.ref 48, .int a, .int b] (SS Z ext) M (Rt (some (.int (b2i (trA (M 48 2) (M 48 3) a b mt (if w = h then 8 else 4))))) M) := by
  rw [Bool.and_eq_true] at hx
  refine Ct.of (by decide) (Nat.le_of_ble_eq_true rfl) ?_
  have hN : ∀ (N : Nat), N ≤ 8 → (∀ k : Nat, XW mX10_alike (Fc mX10_alike (fun r S' M' => S' = SS Z ext ∧ Rt (some (.int (b2i (trA (M 48 2) (M 48 3) a b mt N)))) M r M')) 0 0 (SS Z ext) M 42 [some (.ref 48), some (.int a), some (.int b), some (.int (b2i (trA (M 48 2) (M 48 3) a b mt k))), some (.int (nI k))] [.int (nI N), .int (nI k)] → XW mX10_alike (Fc mX10_alike (fun r S' M' => S' = SS Z ext ∧ Rt (some (.int (b2i (trA (M 48 2) (M 48 3) a b mt N)))) M r M')) 0 0 (SS Z ext) M 23 [some (.ref 48), some (.int a), some (.int b), some (.int (b2i (trA (M 48 2) (M 48 3) a b mt k))), some (.int (nI k))] []) → XW mX10_alike (Fc mX10_alike (fun r S' M' => S' = SS Z ext ∧ Rt (some (.int (b2i (trA (M 48 2) (M 48 3) a b mt N)))) M r M')) 0 0 (SS Z ext) M 23 [some (.ref 48), some (.int a), some (.int b), some (.int (b2i (trA (M 48 2) (M 48 3) a b mt 0))), some (.int (nI 0))] [] := by
    intro N hN8 hgo
    refine lup (P := fun k => XW mX10_alike (Fc mX10_alike (fun r S' M' => S' = SS Z ext ∧ Rt (some (.int (b2i (trA (M 48 2) (M 48 3) a b mt N)))) M r M')) 0 0 (SS Z ext) M 23 [some (.ref 48), some (.int a), some (.int b), some (.int (b2i (trA (M 48 2) (M 48 3) a b mt k))), some (.int (nI k))] []) (N := N) ?_ ?_ 0 (by omega)
    · refine hgo N ?_
      refine x_icmp_ge 72 dX10_alike_42 (by decide) (fun _ => ?_) (fun hc_ => absurd (nI_le (Nat.le_refl _) (by omega)) hc_)
      refine x_iload_n dX10_alike_72 rfl ?_
      refine x_csd mf_X10_flag ml_X10_209 dX10_alike_73 rfl ⟨by decide, by decide⟩ (Nat.le_of_ble_eq_true rfl) ⟨rfl, rfl⟩ ⟨Nat.le_of_ble_eq_true rfl, Nat.le_of_ble_eq_true rfl⟩ (c_m_flag _) ?_
      exact x_iret dX10_alike_76 rfl rfl (Nat.le_refl _) (Nat.le_refl _) ⟨rfl, ⟨rfl, rfl⟩⟩
    · intro k hk ih
      refine hgo k ?_
      rw [nI_succ k, show trA (M 48 2) (M 48 3) a b mt (k + 1) = (trA (M 48 2) (M 48 3) a b mt k || decide (trS (M 48 2) (M 48 3) a (nI k) mt = b)) from rfl] at ih
      cases hA : trA (M 48 2) (M 48 3) a b mt k with
      | true =>
        rw [hA] at ih
        refine x_icmp_ge 72 dX10_alike_42 (by decide) (fun hc_ => absurd hc_ (nI_ge hk (by omega))) (fun _ => ?_)
        refine x_iload_n dX10_alike_45 rfl ?_
        refine x_if_ne 60 dX10_alike_46 (by decide) (fun _ => ?_) (fun hc_ => absurd hc_ (by decide))
        refine x_iconst (v := 1) dX10_alike_60 (by decide) ?_
        refine x_goto 65 dX10_alike_61 (by decide) ?_
        refine x_istore_n dX10_alike_65 (by decide) ?_
        refine x_iinc1 dX10_alike_66 rfl (by decide) ?_
        refine x_goto 23 dX10_alike_69 (by decide) ?_
        exact ih
      | false =>
        rw [hA] at ih
        refine x_icmp_ge 72 dX10_alike_42 (by decide) (fun hc_ => absurd hc_ (nI_ge hk (by omega))) (fun _ => ?_)
        refine x_iload_n dX10_alike_45 rfl ?_
        refine x_if_ne 60 dX10_alike_46 (by decide) (fun hc_ => absurd (rfl) hc_) (fun _ => ?_)
        refine x_aload_n dX10_alike_49 rfl ?_
        refine x_iload_n dX10_alike_50 rfl ?_
        refine x_iload dX10_alike_51 rfl ?_
        refine x_cvd mf_X10_turnedSet ml_X10_264 dX10_alike_53 rfl sf_48 rfl ⟨by decide, by decide⟩ (Nat.le_of_ble_eq_true rfl) ⟨rfl, rfl⟩ ⟨Nat.le_of_ble_eq_true rfl, Nat.le_of_ble_eq_true rfl⟩ (c_m_turnedSet _ _ hw hw1 hw4 hm hmb) ?_
        refine x_iload_n dX10_alike_56 rfl ?_
        refine x_icmp_ne 64 dX10_alike_57 (by decide) (fun h57 => ?_) (fun h57 => ?_)
        · refine x_iconst (v := 0) dX10_alike_64 (by decide) ?_
          refine x_istore_n dX10_alike_65 (by decide) ?_
          refine x_iinc1 dX10_alike_66 rfl (by decide) ?_
          refine x_goto 23 dX10_alike_69 (by decide) ?_
          first | (rw [decide_eq_false h57] at ih; exact ih) | (rw [decide_eq_true h57] at ih; exact ih)
        · refine x_iconst (v := 1) dX10_alike_60 (by decide) ?_
          refine x_goto 65 dX10_alike_61 (by decide) ?_
          refine x_istore_n dX10_alike_65 (by decide) ?_
          refine x_iinc1 dX10_alike_66 rfl (by decide) ?_
          refine x_goto 23 dX10_alike_69 (by decide) ?_
          first | (rw [decide_eq_false h57] at ih; exact ih) | (rw [decide_eq_true h57] at ih; exact ih)
  by_cases he : w = h
  · rw [if_pos he]
    have fin := hN 8 (by omega) (fun k fin => by
      refine x_iload dX10_alike_23 rfl ?_
      refine x_aload_n dX10_alike_25 rfl ?_
      refine x_geti fl_X10_103 dX10_alike_26 sf_48 rfl ?_
      refine x_aload_n dX10_alike_29 rfl ?_
      refine x_geti fl_X10_106 dX10_alike_30 sf_48 rfl ?_
      refine x_icmp_ne 41 dX10_alike_33 (by decide) (fun hc_ => absurd (by rw [hw, hh, he]) hc_) (fun _ => ?_)
      refine x_bipush (v := 8) dX10_alike_36 (by decide) ?_
      refine x_goto 42 dX10_alike_38 (by decide) ?_
      exact fin
      )
    refine x_aload_n dX10_alike_0 rfl ?_
    refine x_iload_n dX10_alike_1 rfl ?_
    refine x_cvd mf_X10_isSet ml_X10_261 dX10_alike_2 rfl sf_48 rfl ⟨by decide, by decide⟩ (Nat.le_of_ble_eq_true rfl) ⟨rfl, rfl⟩ ⟨Nat.le_of_ble_eq_true rfl, Nat.le_of_ble_eq_true rfl⟩ (c_m_isSet a hm) ?_
    refine x_ifb_eq 16 dX10_alike_5 (by decide) (fun hc_ => absurd (hc_.symm.trans (hx.1)) Bool.false_ne_true) (fun _ => ?_)
    refine x_aload_n dX10_alike_8 rfl ?_
    refine x_iload_n dX10_alike_9 rfl ?_
    refine x_cvd mf_X10_isSet ml_X10_261 dX10_alike_10 rfl sf_48 rfl ⟨by decide, by decide⟩ (Nat.le_of_ble_eq_true rfl) ⟨rfl, rfl⟩ ⟨Nat.le_of_ble_eq_true rfl, Nat.le_of_ble_eq_true rfl⟩ (c_m_isSet b hm) ?_
    refine x_ifb_ne 18 dX10_alike_13 (by decide) (fun _ => ?_) (fun hc_ => absurd (hc_.symm.trans (hx.2)) Bool.false_ne_true)
    refine x_iconst (v := 0) dX10_alike_18 (by decide) ?_
    refine x_istore_n dX10_alike_19 (by decide) ?_
    refine x_iconst (v := 0) dX10_alike_20 (by decide) ?_
    refine x_istore dX10_alike_21 (by decide) ?_
    exact fin
  · rw [if_neg he]
    have fin := hN 4 (by omega) (fun k fin => by
      refine x_iload dX10_alike_23 rfl ?_
      refine x_aload_n dX10_alike_25 rfl ?_
      refine x_geti fl_X10_103 dX10_alike_26 sf_48 rfl ?_
      refine x_aload_n dX10_alike_29 rfl ?_
      refine x_geti fl_X10_106 dX10_alike_30 sf_48 rfl ?_
      refine x_icmp_ne 41 dX10_alike_33 (by decide) (fun _ => ?_) (fun hc_ => absurd hc_ (by rw [hw, hh]; exact fun q => he ((nI_eq (by omega) (by omega)).mp q)))
      refine x_iconst (v := 4) dX10_alike_41 (by decide) ?_
      exact fin
      )
    refine x_aload_n dX10_alike_0 rfl ?_
    refine x_iload_n dX10_alike_1 rfl ?_
    refine x_cvd mf_X10_isSet ml_X10_261 dX10_alike_2 rfl sf_48 rfl ⟨by decide, by decide⟩ (Nat.le_of_ble_eq_true rfl) ⟨rfl, rfl⟩ ⟨Nat.le_of_ble_eq_true rfl, Nat.le_of_ble_eq_true rfl⟩ (c_m_isSet a hm) ?_
    refine x_ifb_eq 16 dX10_alike_5 (by decide) (fun hc_ => absurd (hc_.symm.trans (hx.1)) Bool.false_ne_true) (fun _ => ?_)
    refine x_aload_n dX10_alike_8 rfl ?_
    refine x_iload_n dX10_alike_9 rfl ?_
    refine x_cvd mf_X10_isSet ml_X10_261 dX10_alike_10 rfl sf_48 rfl ⟨by decide, by decide⟩ (Nat.le_of_ble_eq_true rfl) ⟨rfl, rfl⟩ ⟨Nat.le_of_ble_eq_true rfl, Nat.le_of_ble_eq_true rfl⟩ (c_m_isSet b hm) ?_
    refine x_ifb_ne 18 dX10_alike_13 (by decide) (fun _ => ?_) (fun hc_ => absurd (hc_.symm.trans (hx.2)) Bool.false_ne_true)
    refine x_iconst (v := 0) dX10_alike_18 (by decide) ?_
    refine x_istore_n dX10_alike_19 (by decide) ?_
    refine x_iconst (v := 0) dX10_alike_20 (by decide) ?_
    refine x_istore dX10_alike_21 (by decide) ?_
    exact fin
