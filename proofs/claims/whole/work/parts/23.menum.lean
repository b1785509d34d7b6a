/-! ===== the reference: which matches, and the sets of n of them one behind another ===== -/
theorem up2_upr_ne (M : Mm) {c c' k : Nat} (f : Nat → Int32) (v : Int32) (h : c' ≠ c) : up2 (upr M c f) c' k v = upr (up2 M c' k v) c f := by
  funext d
  unfold up2 upr
  by_cases h1 : d = c'
  · subst h1; simp [h]
  · by_cases h2 : d = c
    · subst h2; simp [h1]
    · simp [h1, h2]
theorem up2_up2 (M : Mm) (c k : Nat) (v w : Int32) : up2 (up2 M c k v) c k w = up2 M c k w := by
  funext d
  unfold up2
  by_cases h : d = c
  · simp [h, fa_upd_twice]
  · simp [h]
theorem upr_upr (M : Mm) (c : Nat) (f g : Nat → Int32) : upr (upr M c f) c g = upr M c g := by
  funext d
  unfold upr
  by_cases h : d = c <;> simp [h]
theorem upr_comm (M : Mm) {c c' : Nat} (f g : Nat → Int32) (h : c' ≠ c) : upr (upr M c f) c' g = upr (upr M c' g) c f := by
  funext d
  unfold upr
  by_cases h1 : d = c'
  · subst h1; simp [h]
  · by_cases h2 : d = c
    · subst h2; simp [h1]
    · simp [h1, h2]
theorem lupb {P : Nat → Prop} {N k0 : Nat} (hend : P N) (hstep : ∀ k, k0 ≤ k → k < N → P (k + 1) → P k) (h0 : k0 ≤ N) : P k0 := by
  have h := lup (P := fun k => P (k0 + k)) (N := N - k0) (by rw [show k0 + (N - k0) = N by omega]; exact hend) (fun k hk ih => hstep (k0 + k) (by omega) (by omega) ih) 0 (by omega)
  exact h
/-- how many bits of the set stand below k; and the row that holds their numbers -/
def fsC (set : Int32) : Nat → Nat
  | 0 => 0
  | k + 1 => if lies set (nI k) then fsC set k + 1 else fsC set k
def fsR (set : Int32) (f : Nat → Int32) : Nat → Nat → Int32
  | 0 => f
  | k + 1 => if lies set (nI k) then upd (fsR set f k) (fsC set k) (nI k) else fsR set f k
theorem fsC_s (set : Int32) (k : Nat) : fsC set (k + 1) = if lies set (nI k) then fsC set k + 1 else fsC set k := rfl
theorem fsR_s (set : Int32) (f : Nat → Int32) (k : Nat) : fsR set f (k + 1) = if lies set (nI k) then upd (fsR set f k) (fsC set k) (nI k) else fsR set f k := rfl
theorem fsC_le (set : Int32) : ∀ k, fsC set k ≤ k
  | 0 => Nat.le_refl 0
  | k + 1 => by
    have h := fsC_le set k
    rw [fsC]
    split <;> omega
def fsM (M : Mm) (set : Int32) (k : Nat) : Mm := upr (up2 M 48 35 (nI (fsC set k))) 63 (fsR set (M 63) k)
theorem c_m_findSome {Z : List (Option Nat)} {ext : List Ds} {M : Mm} {mt : Nat} (set : Int32) (hm : M 48 4 = nI mt) (hb : mt ≤ 31) : Ct mX10_findSome [.ref 48, .int set] (SS Z ext) M (Rt none (fsM M set mt)) := by
  refine Ct.of (by decide) (Nat.le_of_ble_eq_true rfl) ?_
  refine x_aload_n dX10_findSome_0 rfl ?_
  refine x_iconst (v := 0) dX10_findSome_1 (by decide) ?_
  refine x_put fl_X10_267 dX10_findSome_2 sf_48 rfl rfl rfl ?_
  refine x_iconst (v := 0) dX10_findSome_5 (by decide) ?_
  refine x_istore_n dX10_findSome_6 (by decide) ?_
  refine x_eq (M := fsM M set 0) (by rw [fsM, show fsR set (M 63) 0 = (up2 M 48 35 (nI (fsC set 0))) 63 from rfl, upr_self]; rfl) rfl rfl rfl ?_
  refine lup (P := fun k => XW _ _ 0 0 (SS Z ext) (fsM M set k) 7 [some (.ref 48), some (.int set), some (.int (nI k))] []) (N := mt) ?_ ?_ 0 (by omega)
  · refine x_iload_n dX10_findSome_7 rfl ?_
    refine x_aload_n dX10_findSome_8 rfl ?_
    refine x_geti fl_X10_123 dX10_findSome_9 sf_48 rfl ?_
    refine x_icmp_ge 50 dX10_findSome_12 (by decide) (fun _ => ?_) (fun hc => absurd (by show M 48 4 ≤ _; rw [hm]; exact nI_le (Nat.le_refl _) (by omega)) hc)
    exact x_ret dX10_findSome_50 rfl (Nat.le_refl _) (Nat.le_refl _) ⟨rfl, ⟨rfl, rfl⟩⟩
  · intro k hk ih
    rw [nI_succ k, show fsM M set (k + 1) = upr (up2 M 48 35 (nI (fsC set (k + 1)))) 63 (fsR set (M 63) (k + 1)) from rfl, fsC_s set k, fsR_s set _ k] at ih
    refine x_iload_n dX10_findSome_7 rfl ?_
    refine x_aload_n dX10_findSome_8 rfl ?_
    refine x_geti fl_X10_123 dX10_findSome_9 sf_48 rfl ?_
    refine x_icmp_ge 50 dX10_findSome_12 (by decide) (fun hc => absurd hc (by show ¬ M 48 4 ≤ _; rw [hm]; exact nI_ge hk (by omega))) (fun _ => ?_)
    refine x_iload_n dX10_findSome_15 rfl ?_
    refine x_iload_n dX10_findSome_16 rfl ?_
    refine x_ishr dX10_findSome_17 ?_
    refine x_iconst (v := 1) dX10_findSome_18 (by decide) ?_
    refine x_iand dX10_findSome_19 ?_
    refine x_iconst (v := 1) dX10_findSome_20 (by decide) ?_
    refine x_icmp_ne 44 dX10_findSome_21 (by decide) (fun h21 => ?_) (fun h21 => ?_)
    · refine x_iinc1 dX10_findSome_44 rfl (by decide) ?_
      refine x_goto 7 dX10_findSome_47 (by decide) ?_
      first | (rw [if_neg (by rw [lies, decide_eq_false h21]; decide), if_neg (by rw [lies, decide_eq_false h21]; decide)] at ih; exact ih) | (rw [if_pos (by rw [lies, decide_eq_true h21]), if_pos (by rw [lies, decide_eq_true h21]), nI_succ] at ih; rw [show fsM M set k = upr (up2 M 48 35 (nI (fsC set k))) 63 (fsR set (M 63) k) from rfl, up2_upr2, up2_upr_ne _ _ _ (by decide), up2_up2]; exact ih)
    · refine x_aload_n dX10_findSome_24 rfl ?_
      refine x_getr fl_X10_53 dX10_findSome_25 sf_48 rfl ?_
      refine x_aload_n dX10_findSome_28 rfl ?_
      refine x_geti fl_X10_267 dX10_findSome_29 sf_48 rfl ?_
      refine x_iload_n dX10_findSome_32 rfl ?_
      refine x_iast dX10_findSome_33 sf_63 (q := fsC set k) rfl (by have := fsC_le set k; omega) (by decide) ?_
      refine x_aload_n dX10_findSome_34 rfl ?_
      refine x_dup dX10_findSome_35 rfl ?_
      refine x_geti fl_X10_267 dX10_findSome_36 sf_48 rfl ?_
      refine x_iconst (v := 1) dX10_findSome_39 (by decide) ?_
      refine x_iadd dX10_findSome_40 ?_
      refine x_put fl_X10_267 dX10_findSome_41 sf_48 rfl rfl rfl ?_
      refine x_iinc1 dX10_findSome_44 rfl (by decide) ?_
      refine x_goto 7 dX10_findSome_47 (by decide) ?_
      first | (rw [if_neg (by rw [lies, decide_eq_false h21]; decide), if_neg (by rw [lies, decide_eq_false h21]; decide)] at ih; exact ih) | (rw [if_pos (by rw [lies, decide_eq_true h21]), if_pos (by rw [lies, decide_eq_true h21]), nI_succ] at ih; rw [show fsM M set k = upr (up2 M 48 35 (nI (fsC set k))) 63 (fsR set (M 63) k) from rfl, up2_upr2, up2_upr_ne _ _ _ (by decide), up2_up2]; exact ih)
/-- a row that begins with the n places a -/
def atr (n : Nat) (a : Nat → Nat) (f : Nat → Int32) : Nat → Int32 := fun j => if j < n then nI (a j) else f j
theorem atr_in {n : Nat} {a : Nat → Nat} {f : Nat → Int32} {j : Nat} (h : j < n) : atr n a f j = nI (a j) := by simp [atr, h]
theorem atr_s (n : Nat) (a : Nat → Nat) (f : Nat → Int32) : upd (atr n a f) n (nI (a n)) = atr (n + 1) a f := by
  funext j
  unfold upd atr
  by_cases h : j = n
  · subst h; simp
  · by_cases h2 : j < n
    · simp [h, h2, show j < n + 1 by omega]
    · simp [h, h2, show ¬ j < n + 1 by omega]
theorem atr_0 (a : Nat → Nat) (f : Nat → Int32) : atr 0 a f = f := by funext j; simp [atr]
theorem c_m_firstOf {Z : List (Option Nat)} {ext : List Ds} {M : Mm} (n : Nat) (hn : n ≤ 4) : Ct mX10_firstOf [.ref 48, .int (nI n)] (SS Z ext) M (Rt none (upr M 64 (atr n (fun j => j) (M 64)))) := by
  refine Ct.of (by decide) (Nat.le_of_ble_eq_true rfl) ?_
  refine x_iconst (v := 0) dX10_firstOf_0 (by decide) ?_
  refine x_istore_n dX10_firstOf_1 (by decide) ?_
  refine x_eq (M := upr M 64 (atr 0 (fun j => j) (M 64))) (by rw [atr_0, upr_self]) rfl rfl rfl ?_
  refine lup (P := fun k => XW _ _ 0 0 (SS Z ext) (upr M 64 (atr k (fun j => j) (M 64))) 2 [some (.ref 48), some (.int (nI n)), some (.int (nI k))] []) (N := n) ?_ ?_ 0 (by omega)
  · refine x_iload_n dX10_firstOf_2 rfl ?_
    refine x_iload_n dX10_firstOf_3 rfl ?_
    refine x_icmp_ge 20 dX10_firstOf_4 (by decide) (fun _ => ?_) (fun hc => absurd (nI_le (Nat.le_refl _) (by omega)) hc)
    exact x_ret dX10_firstOf_20 rfl (Nat.le_refl _) (Nat.le_refl _) ⟨rfl, ⟨rfl, rfl⟩⟩
  · intro k hk ih
    rw [nI_succ k, ← atr_s, ← up2_upr2] at ih
    refine x_iload_n dX10_firstOf_2 rfl ?_
    refine x_iload_n dX10_firstOf_3 rfl ?_
    refine x_icmp_ge 20 dX10_firstOf_4 (by decide) (fun hc => absurd hc (nI_ge hk (by omega))) (fun _ => ?_)
    refine x_aload_n dX10_firstOf_7 rfl ?_
    refine x_getr fl_X10_56 dX10_firstOf_8 sf_48 rfl ?_
    refine x_iload_n dX10_firstOf_11 rfl ?_
    refine x_iload_n dX10_firstOf_12 rfl ?_
    refine x_iast dX10_firstOf_13 sf_64 rfl (by omega) (by decide) ?_
    refine x_iinc1 dX10_firstOf_14 rfl (by decide) ?_
    refine x_goto 2 dX10_firstOf_17 (by decide) ?_
    exact ih
/-- the set of the first k of the places a, in the row so -/
def snw (so : Nat → Int32) (a : Nat → Nat) (k : Nat) : Int32 := fld (fun j s => s ||| ((1 : Int32) <<< (so (a j) &&& 31))) k 0
theorem c_m_setNow {Z : List (Option Nat)} {ext : List Ds} {M : Mm} (n : Nat) (a : Nat → Nat) (hn : n ≤ 4) (ha : ∀ j, j < n → a j < 31) (hr : ∀ j, j < n → M 64 j = nI (a j)) : Ct mX10_setNow [.ref 48, .int (nI n)] (SS Z ext) M (Rt (some (.int (snw (M 63) a n))) M) := by
  refine Ct.of (by decide) (Nat.le_of_ble_eq_true rfl) ?_
  refine x_iconst (v := 0) dX10_setNow_0 (by decide) ?_
  refine x_istore_n dX10_setNow_1 (by decide) ?_
  refine x_iconst (v := 0) dX10_setNow_2 (by decide) ?_
  refine x_istore_n dX10_setNow_3 (by decide) ?_
  refine lup (P := fun k => XW _ _ 0 0 (SS Z ext) M 4 [some (.ref 48), some (.int (nI n)), some (.int (snw (M 63) a k)), some (.int (nI k))] []) (N := n) ?_ ?_ 0 (by omega)
  · refine x_iload_n dX10_setNow_4 rfl ?_
    refine x_iload_n dX10_setNow_5 rfl ?_
    refine x_icmp_ge 31 dX10_setNow_6 (by decide) (fun _ => ?_) (fun hc => absurd (nI_le (Nat.le_refl _) (by omega)) hc)
    refine x_iload_n dX10_setNow_31 rfl ?_
    exact x_iret dX10_setNow_32 rfl rfl (Nat.le_refl _) (Nat.le_refl _) ⟨rfl, ⟨rfl, rfl⟩⟩
  · intro k hk ih
    rw [nI_succ] at ih
    have h1 := ha k hk
    refine x_iload_n dX10_setNow_4 rfl ?_
    refine x_iload_n dX10_setNow_5 rfl ?_
    refine x_icmp_ge 31 dX10_setNow_6 (by decide) (fun hc => absurd hc (nI_ge hk (by omega))) (fun _ => ?_)
    refine x_iload_n dX10_setNow_9 rfl ?_
    refine x_iconst (v := 1) dX10_setNow_10 (by decide) ?_
    refine x_aload_n dX10_setNow_11 rfl ?_
    refine x_getr fl_X10_53 dX10_setNow_12 sf_48 rfl ?_
    refine x_aload_n dX10_setNow_15 rfl ?_
    refine x_getr fl_X10_56 dX10_setNow_16 sf_48 rfl ?_
    refine x_iload_n dX10_setNow_19 rfl ?_
    refine x_iald dX10_setNow_20 sf_64 rfl (by omega) (by decide) ?_
    refine x_iald dX10_setNow_21 sf_63 (hr k hk) (by omega) (by decide) ?_
    refine x_ishl dX10_setNow_22 ?_
    refine x_ior dX10_setNow_23 ?_
    refine x_istore_n dX10_setNow_24 (by decide) ?_
    refine x_iinc1 dX10_setNow_25 rfl (by decide) ?_
    refine x_goto 4 dX10_setNow_28 (by decide) ?_
    exact ih
/-- the last of the first k places for which p holds -/
def lstk (p : Nat → Bool) : Nat → Option Nat
  | 0 => none
  | k + 1 => if p k then some k else lstk p k
/-- the places behind a: place k one more, those behind it one behind another -/
def nxa (a : Nat → Nat) (k : Nat) : Nat → Nat := fun j => if j < k then a j else a k + 1 + (j - k)
/-- place k can still grow -/
def cang (m n : Nat) (a : Nat → Nat) (k : Nat) : Bool := !decide (a k = m - n + k)
theorem nI_m (x : Int32) : x + (-1) = x - 1 := by
  rw [Int32.sub_eq_add_neg]
theorem c_m_nextOf {Z : List (Option Nat)} {ext : List Ds} {M : Mm} (m n : Nat) (a : Nat → Nat) (f : Nat → Int32) (hn : n ≤ 4) (hnm : n ≤ m) (hm : m ≤ 31) (ha : ∀ j, j < n → a j ≤ m - n + j) (h35 : M 48 35 = nI m) (hr : M 64 = atr n a f) :
    Ct mX10_nextOf [.ref 48, .int (nI n)] (SS Z ext) M (Rt (some (.int (b2i (lstk (cang m n a) n).isSome))) (match lstk (cang m n a) n with | none => M | some k => upr M 64 (atr n (nxa a k) f))) := by
  have main : ∀ k', k' ≤ n → lstk (cang m n a) k' = lstk (cang m n a) n → XW mX10_nextOf (Fc mX10_nextOf (fun r S' M' => S' = SS Z ext ∧ Rt (some (.int (b2i (lstk (cang m n a) n).isSome))) (match lstk (cang m n a) n with | none => M | some k => upr M 64 (atr n (nxa a k) f)) r M')) 0 0 (SS Z ext) M 4 [some (.ref 48), some (.int (nI n)), some (.int (nI k' - 1)), none] [] := by
    intro k'
    induction k' with
    | zero =>
      intro _ hk
      refine x_iload_n dX10_nextOf_4 rfl ?_
      refine x_if_lt 31 dX10_nextOf_5 (by decide) (fun _ => ?_) (fun hc => absurd (by decide) hc)
      refine x_iload_n dX10_nextOf_31 rfl ?_
      refine x_if_ge 37 dX10_nextOf_32 (by decide) (fun hc => absurd hc (by decide)) (fun _ => ?_)
      refine x_iconst (v := 0) dX10_nextOf_35 (by decide) ?_
      exact x_iret dX10_nextOf_36 rfl rfl (Nat.le_refl _) (Nat.le_refl _) ⟨rfl, ⟨oi (by rw [← hk]; rfl), by rw [← hk]; rfl⟩⟩
    | succ k ih =>
      intro hk1 hk
      have hak := ha k (by omega)
      have hrow : M 64 k = nI (a k) := by rw [hr]; exact atr_in (by omega)
      have hidx : (M 48 35 - nI n) + nI k = nI (m - n + k) := by rw [h35, pk_sub hnm, nI_add]
      rw [nI_pred]
      by_cases hck : a k = m - n + k
      · have hcg : cang m n a k = false := by simp [cang, hck]
        have hk2 : lstk (cang m n a) k = lstk (cang m n a) n := by rw [← hk, lstk, hcg]; rfl
        have ih := ih (by omega) hk2
        rw [← nI_m] at ih
        refine x_iload_n dX10_nextOf_4 rfl ?_
        refine x_if_lt 31 dX10_nextOf_5 (by decide) (fun hc => absurd hc (nI_pos (by omega))) (fun _ => ?_)
        refine x_aload_n dX10_nextOf_8 rfl ?_
        refine x_getr fl_X10_56 dX10_nextOf_9 sf_48 rfl ?_
        refine x_iload_n dX10_nextOf_12 rfl ?_
        refine x_iald dX10_nextOf_13 sf_64 rfl (by omega) (by decide) ?_
        refine x_aload_n dX10_nextOf_14 rfl ?_
        refine x_geti fl_X10_267 dX10_nextOf_15 sf_48 rfl ?_
        refine x_iload_n dX10_nextOf_18 rfl ?_
        refine x_isub dX10_nextOf_19 ?_
        refine x_iload_n dX10_nextOf_20 rfl ?_
        refine x_iadd dX10_nextOf_21 ?_
        refine x_icmp_ne 31 dX10_nextOf_22 (by decide) (fun hc => absurd (by rw [hrow, hidx, hck]) hc) (fun _ => ?_)
        refine x_iincm dX10_nextOf_25 rfl (by decide) ?_
        refine x_goto 4 dX10_nextOf_28 (by decide) ?_
        exact ih
      · have hcg : cang m n a k = true := by simp [cang, hck]
        have hk2 : lstk (cang m n a) n = some k := by rw [← hk, lstk, hcg]; rfl
        rw [hk2]
        refine x_join (upr M 64 (atr (k + 1) (nxa a k) (atr n a f))) 51 [some (.ref 48), some (.int (nI n)), some (.int (nI k)), some (.int (nI (k + 1)))] [] ?_ (fun fin => ?_)
        · refine lupb (P := fun j => XW _ _ 0 0 (SS Z ext) (upr M 64 (atr j (nxa a k) (atr n a f))) 51 [some (.ref 48), some (.int (nI n)), some (.int (nI k)), some (.int (nI j))] []) (N := n) (k0 := k + 1) ?_ ?_ (by omega)
          · refine x_iload_n dX10_nextOf_51 rfl ?_
            refine x_iload_n dX10_nextOf_52 rfl ?_
            refine x_icmp_ge 78 dX10_nextOf_53 (by decide) (fun _ => ?_) (fun hc => absurd (nI_le (Nat.le_refl _) (by omega)) hc)
            refine x_iconst (v := 1) dX10_nextOf_78 (by decide) ?_
            exact x_iret dX10_nextOf_79 rfl rfl (Nat.le_refl _) (Nat.le_refl _) ⟨rfl, ⟨rfl, by show _ = upr M 64 (atr n (nxa a k) f); congr 1; funext j; unfold atr; by_cases h : j < n <;> simp [h]⟩⟩
          · intro j hj0 hj ih2
            obtain ⟨j', rfl⟩ : ∃ j', j = j' + 1 := ⟨j - 1, by omega⟩
            have hv : atr (j' + 1) (nxa a k) (atr n a f) j' + 1 = nI (nxa a k (j' + 1)) := by
              rw [atr_in (by omega), nI_1]
              congr 1
              unfold nxa
              rw [if_neg (by omega), if_neg (by omega)]
              omega
            rw [nI_succ (j' + 1), ← atr_s, ← hv, ← up2_upr2] at ih2
            refine x_iload_n dX10_nextOf_51 rfl ?_
            refine x_iload_n dX10_nextOf_52 rfl ?_
            refine x_icmp_ge 78 dX10_nextOf_53 (by decide) (fun hc => absurd hc (nI_ge hj (by omega))) (fun _ => ?_)
            refine x_aload_n dX10_nextOf_56 rfl ?_
            refine x_getr fl_X10_56 dX10_nextOf_57 sf_48 rfl ?_
            refine x_iload_n dX10_nextOf_60 rfl ?_
            refine x_aload_n dX10_nextOf_61 rfl ?_
            refine x_getr fl_X10_56 dX10_nextOf_62 sf_48 rfl ?_
            refine x_iload_n dX10_nextOf_65 rfl ?_
            refine x_iconst (v := 1) dX10_nextOf_66 (by decide) ?_
            refine x_isub dX10_nextOf_67 ?_
            refine x_iald dX10_nextOf_68 sf_64 (nI_pred j') (by omega) (by decide) ?_
            refine x_iconst (v := 1) dX10_nextOf_69 (by decide) ?_
            refine x_iadd dX10_nextOf_70 ?_
            refine x_iast dX10_nextOf_71 sf_64 rfl (by omega) (by decide) ?_
            refine x_iinc1 dX10_nextOf_72 rfl (by decide) ?_
            refine x_goto 51 dX10_nextOf_75 (by decide) ?_
            exact ih2
        · have hrow2 : atr (k + 1) (nxa a k) (atr n a f) = upd (M 64) k (M 64 k + 1) := by
            rw [hrow, hr]
            funext j
            unfold upd atr nxa
            by_cases h : j = k
            · subst h; simp [nI_1]
            · by_cases h2 : j < k
              · simp [h, h2, show j < k + 1 by omega, show j < n by omega]
              · simp [h, show ¬ j < k + 1 by omega]
          rw [nI_succ k, hrow2, ← up2_upr] at fin
          refine x_iload_n dX10_nextOf_4 rfl ?_
          refine x_if_lt 31 dX10_nextOf_5 (by decide) (fun hc => absurd hc (nI_pos (by omega))) (fun _ => ?_)
          refine x_aload_n dX10_nextOf_8 rfl ?_
          refine x_getr fl_X10_56 dX10_nextOf_9 sf_48 rfl ?_
          refine x_iload_n dX10_nextOf_12 rfl ?_
          refine x_iald dX10_nextOf_13 sf_64 rfl (by omega) (by decide) ?_
          refine x_aload_n dX10_nextOf_14 rfl ?_
          refine x_geti fl_X10_267 dX10_nextOf_15 sf_48 rfl ?_
          refine x_iload_n dX10_nextOf_18 rfl ?_
          refine x_isub dX10_nextOf_19 ?_
          refine x_iload_n dX10_nextOf_20 rfl ?_
          refine x_iadd dX10_nextOf_21 ?_
          refine x_icmp_ne 31 dX10_nextOf_22 (by decide) (fun _ => ?_) (fun hc => absurd hc (by rw [hrow, hidx]; exact fun q => hck ((nI_eq (by omega) (by omega)).mp q)))
          refine x_iload_n dX10_nextOf_31 rfl ?_
          refine x_if_ge 37 dX10_nextOf_32 (by decide) (fun _ => ?_) (fun hc => absurd (nI_pos' (by omega)) hc)
          refine x_aload_n dX10_nextOf_37 rfl ?_
          refine x_getr fl_X10_56 dX10_nextOf_38 sf_48 rfl ?_
          refine x_iload_n dX10_nextOf_41 rfl ?_
          refine x_dup2 dX10_nextOf_42 rfl rfl ?_
          refine x_iald dX10_nextOf_43 sf_64 rfl (by omega) (by decide) ?_
          refine x_iconst (v := 1) dX10_nextOf_44 (by decide) ?_
          refine x_iadd dX10_nextOf_45 ?_
          refine x_iast dX10_nextOf_46 sf_64 rfl (by omega) (by decide) ?_
          refine x_iload_n dX10_nextOf_47 rfl ?_
          refine x_iconst (v := 1) dX10_nextOf_48 (by decide) ?_
          refine x_iadd dX10_nextOf_49 ?_
          refine x_istore_n dX10_nextOf_50 (by decide) ?_
          exact fin
  refine Ct.of (by decide) (Nat.le_of_ble_eq_true rfl) ?_
  refine x_iload_n dX10_nextOf_0 rfl ?_
  refine x_iconst (v := 1) dX10_nextOf_1 (by decide) ?_
  refine x_isub dX10_nextOf_2 ?_
  refine x_istore_n dX10_nextOf_3 (by decide) ?_
  exact main n (Nat.le_refl _) rfl
