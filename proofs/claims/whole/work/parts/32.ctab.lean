/-! ===== the class: tables, tape, and what is changed ===== -/
section XA
variable {i : Mi} {F : Fn} {cells slots : Nat} {S : List Ds} {M : Mm} {pc : Nat} {lv : Lv} {st : List Value}
/-- a reference out of an array of references -/
theorem x_aald {c q k : Nat} {C : String} {l : List (Option Nat)} {a : Int32} (hd : decode (mC i) pc = .ok (.aaload, 1)) (ho : lk S c = some (.inr (.inl (C, l)))) (ha : a = nI k) (hk : lk l k = some (some q)) (hn : l.length < 2 ^ 31) (hC : C = RX6 ∨ C = RX5) (kk : XW i F cells slots S M (pc + 1) lv (.ref q :: st)) : XW i F cells slots S M pc lv (.int a :: .ref c :: st) := by
  intro p l0 e s m args below meth cd D cA rw A ad0 ad H locs ls cx hpre hlen hP hD hS hl
  subst ha
  rw [lk_eq] at hk
  have hkl := (List.getElem?_eq_some_iff.mp hk).1
  have hv : va_rf ((fun i => (l.getD i none).map (fun q => ad.getD q 0)) (nI k).toNatClampNeg) = Value.ref (ad.getD q 0) := by
    rw [nI_clamp (by omega)]
    simp [List.getD, hk, va_rf]
  have key := fun t0 ht => va_aldq (D := D) (cl := vwCl) (ws := wl cA ad rw M 0 S) (tys := ktys cA) (C := C) (n := l.length) (f := fun i => (l.getD i none).map (fun q => ad.getD q 0)) (Q := F below args s D cA rw A ad0) (rest := st.map (cv ad rw)) (locs := locs) (cells := cells) (slots := slots) (ls := ls) (l := l0) (e := e) (R := mM i) (below := below) (meth := meth) cx.1 cx.2.1 cx.2.2.2.2.2.2.2.2.1 hP c t0 (wl_lk ho) ht (vp_in_nI hkl hn) hd (by rw [hv]; exact kk p l0 e s m args below meth cd D cA rw A ad0 ad H locs ls cx hpre hlen hP hD hS hl)
  rcases hC with rfl | rfl
  · exact key 3 rfl
  · exact key 4 rfl
/-- null out of an array of references -/
theorem x_aaldN {c k : Nat} {C : String} {l : List (Option Nat)} {a : Int32} (hd : decode (mC i) pc = .ok (.aaload, 1)) (ho : lk S c = some (.inr (.inl (C, l)))) (ha : a = nI k) (hk : lk l k = some none) (hn : l.length < 2 ^ 31) (hC : C = RX6 ∨ C = RX5) (kk : XW i F cells slots S M (pc + 1) lv (.null :: st)) : XW i F cells slots S M pc lv (.int a :: .ref c :: st) := by
  intro p l0 e s m args below meth cd D cA rw A ad0 ad H locs ls cx hpre hlen hP hD hS hl
  subst ha
  rw [lk_eq] at hk
  have hkl := (List.getElem?_eq_some_iff.mp hk).1
  have hv : va_rf ((fun i => (l.getD i none).map (fun q => ad.getD q 0)) (nI k).toNatClampNeg) = Value.null := by
    rw [nI_clamp (by omega)]
    simp [List.getD, hk, va_rf]
  have key := fun t0 ht => va_aldq (D := D) (cl := vwCl) (ws := wl cA ad rw M 0 S) (tys := ktys cA) (C := C) (n := l.length) (f := fun i => (l.getD i none).map (fun q => ad.getD q 0)) (Q := F below args s D cA rw A ad0) (rest := st.map (cv ad rw)) (locs := locs) (cells := cells) (slots := slots) (ls := ls) (l := l0) (e := e) (R := mM i) (below := below) (meth := meth) cx.1 cx.2.1 cx.2.2.2.2.2.2.2.2.1 hP c t0 (wl_lk ho) ht (vp_in_nI hkl hn) hd (by rw [hv]; exact kk p l0 e s m args below meth cd D cA rw A ad0 ad H locs ls cx hpre hlen hP hD hS hl)
  rcases hC with rfl | rfl
  · exact key 3 rfl
  · exact key 4 rfl
end XA
/-- the first k places filled with v -/
def fillv (k : Nat) (v : Int32) (f : Nat → Int32) : Nat → Int32 := fun j => if j < k then v else f j
theorem fillv_s (k : Nat) (v : Int32) (f : Nat → Int32) : upd (fillv k v f) k v = fillv (k + 1) v f := by
  funext j
  unfold upd fillv
  by_cases h : j = k
  · subst h; simp
  · by_cases h2 : j < k
    · simp [h, h2, show j < k + 1 by omega]
    · simp [h, h2, show ¬ j < k + 1 by omega]
theorem fillv_0 (v : Int32) (f : Nat → Int32) : fillv 0 v f = f := by funext j; simp [fillv]
theorem c_fill {S : List Ds} {M : Mm} {c n : Nat} (ho_c : lk S c = some (.inl (.int, n))) (hn_c : n < 2 ^ 31) (v : Int32) : Ct mJ7_fill_53178 [.ref c, .int v] S M (Rt none (upr M c (fillv n v (M c)))) := by
  refine Ct.of (by decide) (Nat.le_of_ble_eq_true rfl) ?_
  refine x_iconst (v := 0) dJ7_fill_53178_0 (by decide) ?_
  refine x_istore_n dJ7_fill_53178_1 (by decide) ?_
  refine x_aload_n dJ7_fill_53178_2 rfl ?_
  refine x_alen dJ7_fill_53178_3 (Or.inl rfl) ho_c rfl ?_
  refine x_istore_n dJ7_fill_53178_4 (by decide) ?_
  refine x_eq (M := upr M c (fillv 0 v (M c))) (by rw [fillv_0, upr_self]) rfl rfl rfl ?_
  refine lup (P := fun k => XW _ _ 0 0 S (upr M c (fillv k v (M c))) 5 [some (.ref c), some (.int v), some (.int (nI k)), some (.int (nI n))] []) (N := n) ?_ ?_ 0 (by omega)
  · refine x_iload_n dJ7_fill_53178_5 rfl ?_
    refine x_iload_n dJ7_fill_53178_6 rfl ?_
    refine x_icmp_ge 20 dJ7_fill_53178_7 (by decide) (fun _ => ?_) (fun hc => absurd (nI_le (Nat.le_refl _) hn_c) hc)
    exact x_ret dJ7_fill_53178_20 rfl (Nat.le_refl _) (Nat.le_refl _) ⟨rfl, ⟨rfl, rfl⟩⟩
  · intro k hk ih
    rw [nI_succ, ← fillv_s, ← up2_upr2] at ih
    refine x_iload_n dJ7_fill_53178_5 rfl ?_
    refine x_iload_n dJ7_fill_53178_6 rfl ?_
    refine x_icmp_ge 20 dJ7_fill_53178_7 (by decide) (fun hc => absurd hc (nI_ge hk hn_c)) (fun _ => ?_)
    refine x_aload_n dJ7_fill_53178_10 rfl ?_
    refine x_iload_n dJ7_fill_53178_11 rfl ?_
    refine x_iload_n dJ7_fill_53178_12 rfl ?_
    refine x_iast dJ7_fill_53178_13 ho_c rfl (by omega) hn_c ?_
    refine x_iinc1 dJ7_fill_53178_14 rfl (by decide) ?_
    refine x_goto 5 dJ7_fill_53178_17 (by decide) ?_
    exact ih
/-- a Table at t, its costs at t + 1, its sizes seen at t + 2 -/
def ShT (S : List Ds) (t : Nat) : Prop := lk S t = some (.inr (.inr (6, [none, none, some (some (t + 1)), some (some (t + 2))]))) ∧ lk S (t + 1) = some (.inl (.int, 31)) ∧ lk S (t + 2) = some (.inl (.int, 4))
theorem ShT_10 (Z : List (Option Nat)) (ext : List Ds) : ShT (SS Z ext) 10 := ⟨rfl, rfl, rfl⟩
theorem ShT_16 (Z : List (Option Nat)) (ext : List Ds) : ShT (SS Z ext) 16 := ⟨rfl, rfl, rfl⟩
theorem ShT_39 (Z : List (Option Nat)) (ext : List Ds) : ShT (SS Z ext) 39 := ⟨rfl, rfl, rfl⟩
theorem ShT_42 (Z : List (Option Nat)) (ext : List Ds) : ShT (SS Z ext) 42 := ⟨rfl, rfl, rfl⟩
theorem ShT_45 (Z : List (Option Nat)) (ext : List Ds) : ShT (SS Z ext) 45 := ⟨rfl, rfl, rfl⟩
def rnM (M : Mm) (t : Nat) (L : Int32) : Mm := upr (upr (up2 (up2 M t 0 L) t 1 14) (t + 1) (fillv 31 1 (M (t + 1)))) (t + 2) (fillv 4 (-4) (M (t + 2)))
theorem c_renew {S : List Ds} {M : Mm} {t : Nat} (h : ShT S t) (L : Int32) : Ct mX6_renew [.ref t, .int L] S M (Rt none (rnM M t L)) := by
  obtain ⟨ho_t, ho_a, ho_b⟩ := h
  refine Ct.of (by decide) (Nat.le_of_ble_eq_true rfl) ?_
  refine x_aload_n dX6_renew_0 rfl ?_
  refine x_iload_n dX6_renew_1 rfl ?_
  refine x_put fl_X6_18 dX6_renew_2 ho_t rfl rfl rfl ?_
  refine x_aload_n dX6_renew_5 rfl ?_
  refine x_bipush (v := 14) dX6_renew_6 (by decide) ?_
  refine x_put fl_X6_22 dX6_renew_8 ho_t rfl rfl rfl ?_
  refine x_aload_n dX6_renew_11 rfl ?_
  refine x_getr fl_X6_9 dX6_renew_12 ho_t rfl ?_
  refine x_iconst (v := 1) dX6_renew_15 (by decide) ?_
  refine x_csd mf_J7_fill_53178 ml_X6_25 dX6_renew_16 rfl ⟨by decide, by decide⟩ (Nat.le_of_ble_eq_true rfl) ⟨rfl, rfl⟩ ⟨Nat.le_of_ble_eq_true rfl, Nat.le_of_ble_eq_true rfl⟩ (c_fill ho_a (by decide) _) ?_
  refine x_aload_n dX6_renew_19 rfl ?_
  refine x_getr fl_X6_15 dX6_renew_20 ho_t rfl ?_
  refine x_bipush (v := -4) dX6_renew_23 (by decide) ?_
  refine x_csd mf_J7_fill_53178 ml_X6_25 dX6_renew_25 rfl ⟨by decide, by decide⟩ (Nat.le_of_ble_eq_true rfl) ⟨rfl, rfl⟩ ⟨Nat.le_of_ble_eq_true rfl, Nat.le_of_ble_eq_true rfl⟩ (c_fill ho_b (by decide) _) ?_
  exact x_ret dX6_renew_28 rfl (Nat.le_refl _) (Nat.le_refl _) ⟨rfl, ⟨rfl, by rw [rnM, upr_n _ _ (show t + 2 ≠ t + 1 by omega), up2_n _ _ (show t + 2 ≠ t by omega), up2_n _ _ (show t + 2 ≠ t by omega), up2_n _ _ (show t + 1 ≠ t by omega), up2_n _ _ (show t + 1 ≠ t by omega)]⟩⟩
/-- table t becomes as table u -/
def bcM (M : Mm) (t u : Nat) : Mm := upr (upr (up2 (up2 M t 0 (M u 0)) t 1 (M u 1)) (t + 1) (va_cpy (M (u + 1)) (M (t + 1)) 0 0 31)) (t + 2) (va_cpy (M (u + 2)) (M (t + 2)) 0 0 4)
theorem c_becomes {S : List Ds} {M : Mm} {t u : Nat} (h : ShT S t) (h2 : ShT S u) (hd : t + 3 ≤ u ∨ u + 3 ≤ t) : Ct mX6_becomes [.ref t, .ref u] S M (Rt none (bcM M t u)) := by
  obtain ⟨ho_t, ho_a, ho_b⟩ := h
  obtain ⟨ho_u, ho_a2, ho_b2⟩ := h2
  refine Ct.of (by decide) (Nat.le_of_ble_eq_true rfl) ?_
  refine x_aload_n dX6_becomes_0 rfl ?_
  refine x_aload_n dX6_becomes_1 rfl ?_
  refine x_geti fl_X6_18 dX6_becomes_2 ho_u rfl ?_
  refine x_put fl_X6_18 dX6_becomes_5 ho_t rfl rfl rfl ?_
  refine x_aload_n dX6_becomes_8 rfl ?_
  refine x_aload_n dX6_becomes_9 rfl ?_
  refine x_geti fl_X6_22 dX6_becomes_10 ho_u rfl ?_
  refine x_put fl_X6_22 dX6_becomes_13 ho_t rfl rfl rfl ?_
  refine x_aload_n dX6_becomes_16 rfl ?_
  refine x_getr fl_X6_9 dX6_becomes_17 ho_u rfl ?_
  refine x_iconst (v := 0) dX6_becomes_20 (by decide) ?_
  refine x_aload_n dX6_becomes_21 rfl ?_
  refine x_getr fl_X6_9 dX6_becomes_22 ho_t rfl ?_
  refine x_iconst (v := 0) dX6_becomes_25 (by decide) ?_
  refine x_bipush (v := 31) dX6_becomes_26 (by decide) ?_
  refine x_copy (n := 31) ml_X6_31 dX6_becomes_28 ho_a2 ho_a rfl rfl rfl (by decide) (by decide) (by decide) ⟨by decide, Nat.le_of_ble_eq_true rfl⟩ ?_
  refine x_aload_n dX6_becomes_31 rfl ?_
  refine x_getr fl_X6_15 dX6_becomes_32 ho_u rfl ?_
  refine x_iconst (v := 0) dX6_becomes_35 (by decide) ?_
  refine x_aload_n dX6_becomes_36 rfl ?_
  refine x_getr fl_X6_15 dX6_becomes_37 ho_t rfl ?_
  refine x_iconst (v := 0) dX6_becomes_40 (by decide) ?_
  refine x_iconst (v := 4) dX6_becomes_41 (by decide) ?_
  refine x_copy (n := 4) ml_X6_31 dX6_becomes_42 ho_b2 ho_b rfl rfl rfl (by decide) (by decide) (by decide) ⟨by decide, Nat.le_of_ble_eq_true rfl⟩ ?_
  exact x_ret dX6_becomes_45 rfl (Nat.le_refl _) (Nat.le_refl _) ⟨rfl, ⟨rfl, by rw [bcM]; simp only [upr_n _ _ (show t + 2 ≠ t + 1 by omega), upr_n _ _ (show u + 2 ≠ t + 1 by omega), up2_n _ _ (show t + 2 ≠ t by omega), up2_n _ _ (show u + 2 ≠ t by omega), up2_n _ _ (show t + 1 ≠ t by omega), up2_n _ _ (show u + 1 ≠ t by omega), up2_n _ _ (show u ≠ t by omega)]⟩⟩
def szs (se : Nat → Int32) : Nat → Int32
  | 0 => 0
  | n + 1 => if decide (se (n + 1) = -4) then szs se n else szs se n + 1
theorem szs_s (se : Nat → Int32) (n : Nat) : szs se (n + 1) = if decide (se (n + 1) = -4) then szs se n else szs se n + 1 := rfl
theorem c_sizesSeen {Z : List (Option Nat)} {ext : List Ds} {M : Mm} : Ct mX6_sizesSeen [.ref 10] (SS Z ext) M (Rt (some (.int (szs (M 12) 3))) M) := by
  refine Ct.of (by decide) (Nat.le_of_ble_eq_true rfl) ?_
  refine x_iconst (v := 0) dX6_sizesSeen_0 (by decide) ?_
  refine x_istore_n dX6_sizesSeen_1 (by decide) ?_
  refine x_iconst (v := 1) dX6_sizesSeen_2 (by decide) ?_
  refine x_istore_n dX6_sizesSeen_3 (by decide) ?_
  refine lup (P := fun k => XW _ _ 0 0 (SS Z ext) M 4 [some (.ref 10), some (.int (szs (M 12) k)), some (.int (nI (k + 1)))] []) (N := 3) ?_ ?_ 0 (by omega)
  · refine x_iload_n dX6_sizesSeen_4 rfl ?_
    refine x_iconst (v := 3) dX6_sizesSeen_5 (by decide) ?_
    refine x_icmp_gt 29 dX6_sizesSeen_6 (by decide) (fun _ => ?_) (fun hc => absurd (by decide) hc)
    refine x_iload_n dX6_sizesSeen_29 rfl ?_
    exact x_iret dX6_sizesSeen_30 rfl rfl (Nat.le_refl _) (Nat.le_refl _) ⟨rfl, ⟨rfl, rfl⟩⟩
  · intro k hk ih
    rw [nI_succ (k + 1), szs_s _ k] at ih
    refine x_iload_n dX6_sizesSeen_4 rfl ?_
    refine x_iconst (v := 3) dX6_sizesSeen_5 (by decide) ?_
    refine x_icmp_gt 29 dX6_sizesSeen_6 (by decide) (fun hc => absurd hc (nI_nlt (b := k + 1) (a := 3) (by omega) (by decide))) (fun _ => ?_)
    refine x_aload_n dX6_sizesSeen_9 rfl ?_
    refine x_getr fl_X6_15 dX6_sizesSeen_10 sf_10 rfl ?_
    refine x_iload_n dX6_sizesSeen_13 rfl ?_
    refine x_iald dX6_sizesSeen_14 sf_12 rfl (by omega) (by decide) ?_
    refine x_bipush (v := -4) dX6_sizesSeen_15 (by decide) ?_
    refine x_icmp_eq 23 dX6_sizesSeen_17 (by decide) (fun h17 => ?_) (fun h17 => ?_)
    · refine x_iinc1 dX6_sizesSeen_23 rfl (by decide) ?_
      refine x_goto 4 dX6_sizesSeen_26 (by decide) ?_
      first | (rw [if_pos (by rw [decide_eq_true h17])] at ih; exact ih) | (rw [if_neg (by rw [decide_eq_false h17]; decide)] at ih; exact ih)
    · refine x_iinc1 dX6_sizesSeen_20 rfl (by decide) ?_
      refine x_iinc1 dX6_sizesSeen_23 rfl (by decide) ?_
      refine x_goto 4 dX6_sizesSeen_26 (by decide) ?_
      first | (rw [if_pos (by rw [decide_eq_true h17])] at ih; exact ih) | (rw [if_neg (by rw [decide_eq_false h17]; decide)] at ih; exact ih)
def csl (L : Int32) (co : Nat → Int32) (n : Nat) : Int32 := fld (fun m a => if decide ((L >>> (nI m &&& 31)) &&& 1 = 0) then a else a + co m) n 0
theorem csl_s (L : Int32) (co : Nat → Int32) (n : Nat) : csl L co (n + 1) = if decide ((L >>> (nI n &&& 31)) &&& 1 = 0) then csl L co n else csl L co n + co n := rfl
theorem c_costsLying {Z : List (Option Nat)} {ext : List Ds} {M : Mm} : Ct mX6_costsLying [.ref 10] (SS Z ext) M (Rt (some (.int (csl (M 10 0) (M 11) 31))) M) := by
  refine Ct.of (by decide) (Nat.le_of_ble_eq_true rfl) ?_
  refine x_iconst (v := 0) dX6_costsLying_0 (by decide) ?_
  refine x_istore_n dX6_costsLying_1 (by decide) ?_
  refine x_iconst (v := 0) dX6_costsLying_2 (by decide) ?_
  refine x_istore_n dX6_costsLying_3 (by decide) ?_
  refine lup (P := fun k => XW _ _ 0 0 (SS Z ext) M 4 [some (.ref 10), some (.int (csl (M 10 0) (M 11) k)), some (.int (nI k))] []) (N := 31) ?_ ?_ 0 (by omega)
  · refine x_iload_n dX6_costsLying_4 rfl ?_
    refine x_bipush (v := 31) dX6_costsLying_5 (by decide) ?_
    refine x_icmp_ge 36 dX6_costsLying_7 (by decide) (fun _ => ?_) (fun hc => absurd (by decide) hc)
    refine x_iload_n dX6_costsLying_36 rfl ?_
    exact x_iret dX6_costsLying_37 rfl rfl (Nat.le_refl _) (Nat.le_refl _) ⟨rfl, ⟨rfl, rfl⟩⟩
  · intro k hk ih
    rw [nI_succ, csl_s _ _ k] at ih
    refine x_iload_n dX6_costsLying_4 rfl ?_
    refine x_bipush (v := 31) dX6_costsLying_5 (by decide) ?_
    refine x_icmp_ge 36 dX6_costsLying_7 (by decide) (fun hc => absurd hc (nI_ge (b := 31) hk (by decide))) (fun _ => ?_)
    refine x_aload_n dX6_costsLying_10 rfl ?_
    refine x_geti fl_X6_18 dX6_costsLying_11 sf_10 rfl ?_
    refine x_iload_n dX6_costsLying_14 rfl ?_
    refine x_ishr dX6_costsLying_15 ?_
    refine x_iconst (v := 1) dX6_costsLying_16 (by decide) ?_
    refine x_iand dX6_costsLying_17 ?_
    refine x_if_eq 30 dX6_costsLying_18 (by decide) (fun h18 => ?_) (fun h18 => ?_)
    · refine x_iinc1 dX6_costsLying_30 rfl (by decide) ?_
      refine x_goto 4 dX6_costsLying_33 (by decide) ?_
      first | (rw [if_pos (by rw [decide_eq_true h18])] at ih; exact ih) | (rw [if_neg (by rw [decide_eq_false h18]; decide)] at ih; exact ih)
    · refine x_iload_n dX6_costsLying_21 rfl ?_
      refine x_aload_n dX6_costsLying_22 rfl ?_
      refine x_getr fl_X6_9 dX6_costsLying_23 sf_10 rfl ?_
      refine x_iload_n dX6_costsLying_26 rfl ?_
      refine x_iald dX6_costsLying_27 sf_11 rfl (by omega) (by decide) ?_
      refine x_iadd dX6_costsLying_28 ?_
      refine x_istore_n dX6_costsLying_29 (by decide) ?_
      refine x_iinc1 dX6_costsLying_30 rfl (by decide) ?_
      refine x_goto 4 dX6_costsLying_33 (by decide) ?_
      first | (rw [if_pos (by rw [decide_eq_true h18])] at ih; exact ih) | (rw [if_neg (by rw [decide_eq_false h18]; decide)] at ih; exact ih)
/-- the byte of place k that append() lays -/
def apB (v : Int64) (k : Nat) : Int32 := ((v.toUInt64 >>> (((56 : Int32) - 8 * nI k).toInt64.toUInt64 &&& Int64.toUInt64 63)).toInt64.toInt32.toInt8.toInt32).toInt8.toInt32
def apT (f : Nat → Int32) (t : Nat) (v : Int64) (n : Nat) : Nat → Int32 := fld (fun k g => upd g (t + k) (apB v k)) n f
theorem c_append {Z : List (Option Nat)} {ext : List Ds} {M : Mm} (t : Nat) (v : Int64) (ht : M 13 1 = nI t) (hb : t + 8 ≤ 320) : Ct mX7_append [.ref 13, .long v] (SS Z ext) M (Rt (some (.int 1)) (up2 (upr M 14 (apT (M 14) t v 8)) 13 1 (nI (t + 8)))) := by
  refine Ct.of (by decide) (Nat.le_of_ble_eq_true rfl) ?_
  refine x_aload_n dX7_append_0 rfl ?_
  refine x_geti fl_X7_13 dX7_append_1 sf_13 rfl ?_
  refine x_bipush (v := 8) dX7_append_4 (by decide) ?_
  refine x_iadd dX7_append_6 ?_
  refine x_sipush (v := 320) dX7_append_7 (by decide) ?_
  refine x_icmp_le 15 dX7_append_10 (by decide) (fun _ => ?_) (fun hc => absurd (by rw [ht, show (8 : Int32) = nI 8 from rfl, nI_add, show (320 : Int32) = nI 320 from rfl]; exact nI_le hb (by decide)) hc)
  refine x_iconst (v := 0) dX7_append_15 (by decide) ?_
  refine x_istore_n dX7_append_16 (by decide) ?_
  refine x_eq (M := upr M 14 (apT (M 14) t v 0)) (upr_self M 14).symm rfl rfl rfl ?_
  refine lup (P := fun k => XW _ _ 0 0 (SS Z ext) (upr M 14 (apT (M 14) t v k)) 17 [some (.ref 13), some (.long v), none, some (.int (nI k))] []) (N := 8) ?_ ?_ 0 (by omega)
  · refine x_iload_n dX7_append_17 rfl ?_
    refine x_bipush (v := 8) dX7_append_18 (by decide) ?_
    refine x_icmp_ge 51 dX7_append_20 (by decide) (fun _ => ?_) (fun hc => absurd (by decide) hc)
    refine x_aload_n dX7_append_51 rfl ?_
    refine x_dup dX7_append_52 rfl ?_
    refine x_geti fl_X7_13 dX7_append_53 sf_13 rfl ?_
    refine x_bipush (v := 8) dX7_append_56 (by decide) ?_
    refine x_iadd dX7_append_58 ?_
    refine x_put fl_X7_13 dX7_append_59 sf_13 rfl rfl rfl ?_
    refine x_iconst (v := 1) dX7_append_62 (by decide) ?_
    exact x_iret dX7_append_63 rfl rfl (Nat.le_refl _) (Nat.le_refl _) ⟨rfl, ⟨rfl, by show up2 _ 13 1 (M 13 1 + 8) = _; rw [ht, show (8 : Int32) = nI 8 from rfl, nI_add]⟩⟩
  · intro k hk ih
    rw [nI_succ k] at ih
    refine x_iload_n dX7_append_17 rfl ?_
    refine x_bipush (v := 8) dX7_append_18 (by decide) ?_
    refine x_icmp_ge 51 dX7_append_20 (by decide) (fun hc => absurd hc (nI_ge (b := 8) hk (by decide))) (fun _ => ?_)
    refine x_aload_n dX7_append_23 rfl ?_
    refine x_getr fl_X7_9 dX7_append_24 sf_13 rfl ?_
    refine x_aload_n dX7_append_27 rfl ?_
    refine x_geti fl_X7_13 dX7_append_28 sf_13 rfl ?_
    refine x_iload_n dX7_append_31 rfl ?_
    refine x_iadd dX7_append_32 ?_
    refine x_lload_n dX7_append_33 rfl ?_
    refine x_bipush (v := 56) dX7_append_34 (by decide) ?_
    refine x_bipush (v := 8) dX7_append_36 (by decide) ?_
    refine x_iload_n dX7_append_38 rfl ?_
    refine x_imul dX7_append_39 ?_
    refine x_isub dX7_append_40 ?_
    refine x_lushr dX7_append_41 ?_
    refine x_l2i dX7_append_42 ?_
    refine x_i2b dX7_append_43 ?_
    refine x_bast dX7_append_44 sf_14 (q := t + k) (by show M 13 1 + nI k = _; rw [ht, nI_add]) (by omega) (by decide) ?_
    refine x_iinc1 dX7_append_45 rfl (by decide) ?_
    refine x_goto 17 dX7_append_48 (by decide) ?_
    rw [up2_upr2]
    exact ih
theorem c_appendX {Z : List (Option Nat)} {ext : List Ds} {M : Mm} (t : Nat) (v : Int64) (ht : M 13 1 = nI t) (hb : ¬ t + 8 ≤ 320) (hb2 : t ≤ 320) : Ct mX7_append [.ref 13, .long v] (SS Z ext) M (Rt (some (.int 0)) M) := by
  refine Ct.of (by decide) (Nat.le_of_ble_eq_true rfl) ?_
  refine x_aload_n dX7_append_0 rfl ?_
  refine x_geti fl_X7_13 dX7_append_1 sf_13 rfl ?_
  refine x_bipush (v := 8) dX7_append_4 (by decide) ?_
  refine x_iadd dX7_append_6 ?_
  refine x_sipush (v := 320) dX7_append_7 (by decide) ?_
  refine x_icmp_le 15 dX7_append_10 (by decide) (fun hc => absurd hc (by rw [ht, show (8 : Int32) = nI 8 from rfl, nI_add, show (320 : Int32) = nI 320 from rfl]; exact nI_ge (by omega) (by omega))) (fun _ => ?_)
  refine x_iconst (v := 0) dX7_append_13 (by decide) ?_
  exact x_iret dX7_append_14 rfl rfl (Nat.le_refl _) (Nat.le_refl _) ⟨rfl, ⟨rfl, rfl⟩⟩
theorem c_feed {Z : List (Option Nat)} {ext : List Ds} {M : Mm} (t : Nat) (v : Int64) (ht : M 13 1 = nI t) (hb : t + 8 ≤ 320) : Ct mX9_feed [.ref 0, .long v] (SS Z ext) M (Rt (some (.int (nI (t + 8)))) (up2 (upr M 14 (apT (M 14) t v 8)) 13 1 (nI (t + 8)))) := by
  refine Ct.of (by decide) (Nat.le_of_ble_eq_true rfl) ?_
  refine x_aload_n dX9_feed_0 rfl ?_
  refine x_getr fl_X9_26 dX9_feed_1 sf_0 rfl ?_
  refine x_lload_n dX9_feed_4 rfl ?_
  refine x_cv mf_X7_append ml_X9_92 dX9_feed_5 rfl sf_13 rfl ⟨by decide, by decide⟩ (Nat.le_of_ble_eq_true rfl) ⟨rfl, rfl⟩ ⟨Nat.le_of_ble_eq_true rfl, Nat.le_of_ble_eq_true rfl⟩ (c_append t v ht hb) (fun r M' ⟨e1, e2⟩ => ?_)
  subst e1; subst e2
  refine x_if_eq 21 dX9_feed_8 (by decide) (fun hc => absurd hc (by decide)) (fun _ => ?_)
  refine x_aload_n dX9_feed_11 rfl ?_
  refine x_getr fl_X9_26 dX9_feed_12 sf_0 rfl ?_
  refine x_geti fl_X9_96 dX9_feed_15 sf_13 rfl ?_
  refine x_goto 23 dX9_feed_18 (by decide) ?_
  exact x_iret dX9_feed_23 rfl rfl (Nat.le_refl _) (Nat.le_refl _) ⟨rfl, ⟨rfl, rfl⟩⟩
theorem c_feedX {Z : List (Option Nat)} {ext : List Ds} {M : Mm} (t : Nat) (v : Int64) (ht : M 13 1 = nI t) (hb : ¬ t + 8 ≤ 320) (hb2 : t ≤ 320) : Ct mX9_feed [.ref 0, .long v] (SS Z ext) M (Rt (some (.int (-3))) M) := by
  refine Ct.of (by decide) (Nat.le_of_ble_eq_true rfl) ?_
  refine x_aload_n dX9_feed_0 rfl ?_
  refine x_getr fl_X9_26 dX9_feed_1 sf_0 rfl ?_
  refine x_lload_n dX9_feed_4 rfl ?_
  refine x_cv mf_X7_append ml_X9_92 dX9_feed_5 rfl sf_13 rfl ⟨by decide, by decide⟩ (Nat.le_of_ble_eq_true rfl) ⟨rfl, rfl⟩ ⟨Nat.le_of_ble_eq_true rfl, Nat.le_of_ble_eq_true rfl⟩ (c_appendX t v ht hb hb2) (fun r M' ⟨e1, e2⟩ => ?_)
  subst e1; subst e2
  refine x_if_eq 21 dX9_feed_8 (by decide) (fun _ => ?_) (fun hc => absurd (by decide) hc)
  refine x_bipush (v := -3) dX9_feed_21 (by decide) ?_
  exact x_iret dX9_feed_23 rfl rfl (Nat.le_refl _) (Nat.le_refl _) ⟨rfl, ⟨rfl, rfl⟩⟩
def tkv (mt : Nat) (L x : Int32) : Int32 := if ix x mt then (if lies L x then 0 else -2) else -1
theorem c_take {Z : List (Option Nat)} {ext : List Ds} {M : Mm} {mt sq : Nat} (x : Int32) (hm : M 1 2 = nI mt) (hq : M 1 3 = nI sq) (hb2 : sq ≤ 20) : Ct mX9_take [.ref 0, .int x] (SS Z ext) M (Rt (some (.int (if ix x mt then (if lies (M 10 0) x then bcE (lsq (M 10 1) (M 6) (M 5) sq (outS (M 10 0) x)) else -2) else -1))) (up2 M 10 0 (wTake mt (M 10 0) x))) := by
  refine Ct.of (by decide) (Nat.le_of_ble_eq_true rfl) ?_
  cases h1 : ix x mt with
  | false =>
    refine x_aload_n dX9_take_0 rfl ?_
    refine x_iload_n dX9_take_1 rfl ?_
    refine x_cv mf_X9_takeOne ml_X9_181 dX9_take_2 rfl sf_0 rfl ⟨by decide, by decide⟩ (Nat.le_of_ble_eq_true rfl) ⟨rfl, rfl⟩ ⟨Nat.le_of_ble_eq_true rfl, Nat.le_of_ble_eq_true rfl⟩ (c_takeOne x hm) (fun r M' ⟨e1, e2⟩ => ?_)
    simp only [h1, Bool.false_eq_true, if_false] at e1; subst e1; subst e2
    refine x_istore_n dX9_take_5 (by decide) ?_
    refine x_iload_n dX9_take_6 rfl ?_
    refine x_if_ge 14 dX9_take_7 (by decide) (fun hc => absurd hc (by decide)) (fun _ => ?_)
    refine x_iload_n dX9_take_10 rfl ?_
    refine x_goto 25 dX9_take_11 (by decide) ?_
    exact x_iret dX9_take_25 rfl rfl (Nat.le_refl _) (Nat.le_refl _) ⟨rfl, ⟨rfl, rfl⟩⟩
  | true =>
    cases h2 : lies (M 10 0) x with
    | false =>
      refine x_aload_n dX9_take_0 rfl ?_
      refine x_iload_n dX9_take_1 rfl ?_
      refine x_cv mf_X9_takeOne ml_X9_181 dX9_take_2 rfl sf_0 rfl ⟨by decide, by decide⟩ (Nat.le_of_ble_eq_true rfl) ⟨rfl, rfl⟩ ⟨Nat.le_of_ble_eq_true rfl, Nat.le_of_ble_eq_true rfl⟩ (c_takeOne x hm) (fun r M' ⟨e1, e2⟩ => ?_)
      simp only [h1, h2, Bool.false_eq_true, if_false, if_true] at e1; subst e1; subst e2
      refine x_istore_n dX9_take_5 (by decide) ?_
      refine x_iload_n dX9_take_6 rfl ?_
      refine x_if_ge 14 dX9_take_7 (by decide) (fun hc => absurd hc (by decide)) (fun _ => ?_)
      refine x_iload_n dX9_take_10 rfl ?_
      refine x_goto 25 dX9_take_11 (by decide) ?_
      exact x_iret dX9_take_25 rfl rfl (Nat.le_refl _) (Nat.le_refl _) ⟨rfl, ⟨rfl, rfl⟩⟩
    | true =>
      refine x_aload_n dX9_take_0 rfl ?_
      refine x_iload_n dX9_take_1 rfl ?_
      refine x_cv mf_X9_takeOne ml_X9_181 dX9_take_2 rfl sf_0 rfl ⟨by decide, by decide⟩ (Nat.le_of_ble_eq_true rfl) ⟨rfl, rfl⟩ ⟨Nat.le_of_ble_eq_true rfl, Nat.le_of_ble_eq_true rfl⟩ (c_takeOne x hm) (fun r M' ⟨e1, e2⟩ => ?_)
      simp only [h1, h2, if_true] at e1; subst e1; subst e2
      refine x_istore_n dX9_take_5 (by decide) ?_
      refine x_iload_n dX9_take_6 rfl ?_
      refine x_if_ge 14 dX9_take_7 (by decide) (fun _ => ?_) (fun hc => absurd (by decide) hc)
      refine x_aload_n dX9_take_14 rfl ?_
      refine x_aload_n dX9_take_15 rfl ?_
      refine x_getr fl_X9_19 dX9_take_16 sf_0 rfl ?_
      refine x_geti fl_X9_137 dX9_take_19 sf_10 rfl ?_
      refine x_cvd mf_X9_leftOf ml_X9_178 dX9_take_22 rfl sf_0 rfl ⟨by decide, by decide⟩ (Nat.le_of_ble_eq_true rfl) ⟨rfl, rfl⟩ ⟨Nat.le_of_ble_eq_true rfl, Nat.le_of_ble_eq_true rfl⟩ (c_leftOf (sq := sq) _ hq hb2) ?_
      exact x_iret dX9_take_25 rfl rfl (Nat.le_refl _) (Nat.le_refl _) ⟨rfl, ⟨oi (by show bcE (lsq _ _ _ _ (wTake mt (M 10 0) x)) = _; rw [wTake, h1, h2]; rfl), rfl⟩⟩
/-- n draws of play(), as the class has them -/
def drawc (mt : Int32) (L seed : Int32) : Nat → Int32 × Int32
  | 0 => (seed, L)
  | n + 1 => let d := (drawc mt L seed n).1 * 1103515245 + 12345
    (d, (drawc mt L seed n).2 &&& (((1 : Int32) <<< (((us d 16 &&& 32767) - (us d 16 &&& 32767) / mt * mt) &&& 31)) ^^^ (-1)))
theorem c_playX {Z : List (Option Nat)} {ext : List Ds} {M : Mm} (seed n : Int32) (hn : rg n 0 60 = false) : Ct mX9_play [.ref 0, .int seed, .int n] (SS Z ext) M (Rt (some (.int (-1))) M) := by
  refine Ct.of (by decide) (Nat.le_of_ble_eq_true rfl) ?_
  refine x_iload_n dX9_play_0 rfl ?_
  refine x_if_lt 10 dX9_play_1 (by decide) (fun h1 => ?_) (fun h1 => ?_)
  · refine x_iconst (v := -1) dX9_play_10 (by decide) ?_
    exact x_iret dX9_play_11 rfl rfl (Nat.le_refl _) (Nat.le_refl _) ⟨rfl, ⟨rfl, rfl⟩⟩
  · refine x_iload_n dX9_play_4 rfl ?_
    refine x_bipush (v := 60) dX9_play_5 (by decide) ?_
    refine x_icmp_le 12 dX9_play_7 (by decide) (fun h7 => ?_) (fun h7 => ?_)
    · rw [rg_t2 h1 h7] at hn; exact absurd hn (by decide)
    · refine x_iconst (v := -1) dX9_play_10 (by decide) ?_
      exact x_iret dX9_play_11 rfl rfl (Nat.le_refl _) (Nat.le_refl _) ⟨rfl, ⟨rfl, rfl⟩⟩
theorem c_play {Z : List (Option Nat)} {ext : List Ds} {M : Mm} {mt sq : Nat} (seed : Int32) (j : Nat) (hj : j ≤ 60) (hm : M 1 2 = nI mt) (hm0 : 0 < mt) (hb : mt ≤ 31) (hq : M 1 3 = nI sq) (hb2 : sq ≤ 20) : Ct mX9_play [.ref 0, .int seed, .int (nI j)] (SS Z ext) M (Rt (some (.int (bcE (lsq (M 10 1) (M 6) (M 5) sq (drawc (M 1 2) (M 10 0) seed j).2)))) M) := by
  refine Ct.of (by decide) (Nat.le_of_ble_eq_true rfl) ?_
  have hne : ¬ M 1 2 = 0 := by rw [hm]; exact nI_ne0 hm0 (by omega)
  refine x_iload_n dX9_play_0 rfl ?_
  refine x_if_lt 10 dX9_play_1 (by decide) (fun hc => absurd hc (nI_pos (by omega))) (fun _ => ?_)
  refine x_iload_n dX9_play_4 rfl ?_
  refine x_bipush (v := 60) dX9_play_5 (by decide) ?_
  refine x_icmp_le 12 dX9_play_7 (by decide) (fun _ => ?_) (fun hc => absurd (nI_le (b := 60) hj (by decide)) hc)
  refine x_aload_n dX9_play_12 rfl ?_
  refine x_getr fl_X9_19 dX9_play_13 sf_0 rfl ?_
  refine x_geti fl_X9_137 dX9_play_16 sf_10 rfl ?_
  refine x_istore_n dX9_play_19 (by decide) ?_
  refine x_iload_n dX9_play_20 rfl ?_
  refine x_istore dX9_play_21 (by decide) ?_
  refine x_iconst (v := 0) dX9_play_23 (by decide) ?_
  refine x_istore dX9_play_24 (by decide) ?_
  refine lup (P := fun k => XW _ _ 0 0 (SS Z ext) M 26 [some (.ref 0), some (.int seed), some (.int (nI j)), some (.int (drawc (M 1 2) (M 10 0) seed k).2), some (.int (drawc (M 1 2) (M 10 0) seed k).1), some (.int (nI k))] []) (N := j) ?_ ?_ 0 (by omega)
  · refine x_iload dX9_play_26 rfl ?_
    refine x_iload_n dX9_play_28 rfl ?_
    refine x_icmp_ge 84 dX9_play_29 (by decide) (fun _ => ?_) (fun hc => absurd (nI_le (Nat.le_refl _) (by omega)) hc)
    refine x_aload_n dX9_play_84 rfl ?_
    refine x_iload_n dX9_play_85 rfl ?_
    refine x_cvd mf_X9_leftOf ml_X9_178 dX9_play_86 rfl sf_0 rfl ⟨by decide, by decide⟩ (Nat.le_of_ble_eq_true rfl) ⟨rfl, rfl⟩ ⟨Nat.le_of_ble_eq_true rfl, Nat.le_of_ble_eq_true rfl⟩ (c_leftOf _ hq hb2) ?_
    exact x_iret dX9_play_89 rfl rfl (Nat.le_refl _) (Nat.le_refl _) ⟨rfl, ⟨rfl, rfl⟩⟩
  · intro k hk ih
    rw [nI_succ] at ih
    refine x_iload dX9_play_26 rfl ?_
    refine x_iload_n dX9_play_28 rfl ?_
    refine x_icmp_ge 84 dX9_play_29 (by decide) (fun hc => absurd hc (nI_ge hk (by omega))) (fun _ => ?_)
    refine x_aload_n dX9_play_32 rfl ?_
    refine x_getr fl_X9_10 dX9_play_33 sf_0 rfl ?_
    refine x_geti fl_X9_131 dX9_play_36 sf_1 rfl ?_
    refine x_if_le 84 dX9_play_39 (by decide) (fun hc => absurd hc (by rw [hm]; exact nI_nle hm0 (by omega))) (fun _ => ?_)
    refine x_iload dX9_play_42 rfl ?_
    refine x_ldcw dX9_play_44 kc_X9_273 ?_
    refine x_imul dX9_play_47 ?_
    refine x_sipush (v := 12345) dX9_play_48 (by decide) ?_
    refine x_iadd dX9_play_51 ?_
    refine x_istore dX9_play_52 (by decide) ?_
    refine x_iload_n dX9_play_54 rfl ?_
    refine x_iconst (v := 1) dX9_play_55 (by decide) ?_
    refine x_iload dX9_play_56 rfl ?_
    refine x_bipush (v := 16) dX9_play_58 (by decide) ?_
    refine x_iushr dX9_play_60 ?_
    refine x_sipush (v := 32767) dX9_play_61 (by decide) ?_
    refine x_iand dX9_play_64 ?_
    refine x_aload_n dX9_play_65 rfl ?_
    refine x_getr fl_X9_10 dX9_play_66 sf_0 rfl ?_
    refine x_geti fl_X9_131 dX9_play_69 sf_1 rfl ?_
    refine x_irem dX9_play_72 hne ?_
    refine x_ishl dX9_play_73 ?_
    refine x_iconst (v := -1) dX9_play_74 (by decide) ?_
    refine x_ixor dX9_play_75 ?_
    refine x_iand dX9_play_76 ?_
    refine x_istore_n dX9_play_77 (by decide) ?_
    refine x_iinc1 dX9_play_78 rfl (by decide) ?_
    refine x_goto 26 dX9_play_81 (by decide) ?_
    exact ih
theorem c_alike {Z : List (Option Nat)} {ext : List Ds} {M : Mm} {mt : Nat} (a b : Int32) (hm : M 1 2 = nI mt) (hb : mt ≤ 31) : Ct mX9_alike [.ref 0, .int a, .int b] (SS Z ext) M (Rt (some (.int (if decide ((a ||| b) &&& ((((1 : Int32) <<< (M 1 2 &&& 31)) - 1) ^^^ (-1)) = 0) then b2i (vTurns (M 1 0) (M 1 1) a b (M 7) (M 8) (M 9) mt) else -1))) M) := by
  refine Ct.of (by decide) (Nat.le_of_ble_eq_true rfl) ?_
  refine x_iload_n dX9_alike_0 rfl ?_
  refine x_iload_n dX9_alike_1 rfl ?_
  refine x_ior dX9_alike_2 ?_
  refine x_aload_n dX9_alike_3 rfl ?_
  refine x_getr fl_X9_10 dX9_alike_4 sf_0 rfl ?_
  refine x_cvd mf_X2_all ml_X9_84 dX9_alike_7 rfl sf_1 rfl ⟨by decide, by decide⟩ (Nat.le_of_ble_eq_true rfl) ⟨rfl, rfl⟩ ⟨Nat.le_of_ble_eq_true rfl, Nat.le_of_ble_eq_true rfl⟩ (c_all (ShG_SS Z ext)) ?_
  refine x_iconst (v := -1) dX9_alike_10 (by decide) ?_
  refine x_ixor dX9_alike_11 ?_
  refine x_iand dX9_alike_12 ?_
  refine x_if_eq 18 dX9_alike_13 (by decide) (fun h13 => ?_) (fun h13 => ?_)
  · refine x_aload_n dX9_alike_18 rfl ?_
    refine x_getr fl_X9_10 dX9_alike_19 sf_0 rfl ?_
    refine x_iload_n dX9_alike_22 rfl ?_
    refine x_iload_n dX9_alike_23 rfl ?_
    refine x_cvd mf_X2_turnsInto ml_X9_203 dX9_alike_24 rfl sf_1 rfl ⟨by decide, by decide⟩ (Nat.le_of_ble_eq_true rfl) ⟨rfl, rfl⟩ ⟨Nat.le_of_ble_eq_true rfl, Nat.le_of_ble_eq_true rfl⟩ (c_turnsInto (ShG_SS Z ext) a b hm hb) ?_
    refine x_ifb_eq 34 dX9_alike_27 (by decide) (fun h27 => ?_) (fun h27 => ?_)
    · refine x_iconst (v := 0) dX9_alike_34 (by decide) ?_
      exact x_iret dX9_alike_35 rfl rfl (Nat.le_refl _) (Nat.le_refl _) ⟨rfl, ⟨oi (by first | (rw [decide_eq_true h13, h27]; rfl) | (rw [decide_eq_false h13]; rfl)), rfl⟩⟩
    · refine x_iconst (v := 1) dX9_alike_30 (by decide) ?_
      refine x_goto 35 dX9_alike_31 (by decide) ?_
      exact x_iret dX9_alike_35 rfl rfl (Nat.le_refl _) (Nat.le_refl _) ⟨rfl, ⟨oi (by first | (rw [decide_eq_true h13, h27]; rfl) | (rw [decide_eq_false h13]; rfl)), rfl⟩⟩
  · refine x_iconst (v := -1) dX9_alike_16 (by decide) ?_
    exact x_iret dX9_alike_17 rfl rfl (Nat.le_refl _) (Nat.le_refl _) ⟨rfl, ⟨oi (by first | (rw [decide_eq_true h13, h27]; rfl) | (rw [decide_eq_false h13]; rfl)), rfl⟩⟩
theorem c_keepX {Z : List (Option Nat)} {ext : List Ds} {M : Mm} (x : Int32) (hx : ix x 2 = false) : Ct mX9_keep [.ref 0, .int x] (SS Z ext) M (Rt (some (.int (-1))) M) := by
  refine Ct.of (by decide) (Nat.le_of_ble_eq_true rfl) ?_
  refine x_iload_n dX9_keep_0 rfl ?_
  refine x_csd mf_X9_isImage ml_X9_274 dX9_keep_1 rfl ⟨by decide, by decide⟩ (Nat.le_of_ble_eq_true rfl) ⟨rfl, rfl⟩ ⟨Nat.le_of_ble_eq_true rfl, Nat.le_of_ble_eq_true rfl⟩ (c_isImage x) ?_
  refine x_ifb_ne 9 dX9_keep_4 (by decide) (fun hc => absurd ((hx).symm.trans hc) Bool.false_ne_true) (fun _ => ?_)
  refine x_iconst (v := -1) dX9_keep_7 (by decide) ?_
  exact x_iret dX9_keep_8 rfl rfl (Nat.le_refl _) (Nat.le_refl _) ⟨rfl, ⟨rfl, rfl⟩⟩
theorem c_backX {Z : List (Option Nat)} {ext : List Ds} {M : Mm} (x : Int32) (hx : ix x 2 = false) : Ct mX9_back [.ref 0, .int x] (SS Z ext) M (Rt (some (.int (-1))) M) := by
  refine Ct.of (by decide) (Nat.le_of_ble_eq_true rfl) ?_
  refine x_iload_n dX9_back_0 rfl ?_
  refine x_csd mf_X9_isImage ml_X9_274 dX9_back_1 rfl ⟨by decide, by decide⟩ (Nat.le_of_ble_eq_true rfl) ⟨rfl, rfl⟩ ⟨Nat.le_of_ble_eq_true rfl, Nat.le_of_ble_eq_true rfl⟩ (c_isImage x) ?_
  refine x_ifb_ne 9 dX9_back_4 (by decide) (fun hc => absurd ((hx).symm.trans hc) Bool.false_ne_true) (fun _ => ?_)
  refine x_iconst (v := -1) dX9_back_7 (by decide) ?_
  exact x_iret dX9_back_8 rfl rfl (Nat.le_refl _) (Nat.le_refl _) ⟨rfl, ⟨rfl, rfl⟩⟩
theorem c_keep0 {Z : List (Option Nat)} {ext : List Ds} {M : Mm} : Ct mX9_keep [.ref 0, .int 0] (SS Z ext) M (Rt (some (.int ((M 0 11 >>> ((0 : Int32) &&& 31)) &&& 1))) (up2 (bcM M 42 10) 0 11 (inS (M 0 11) 0))) := by
  refine Ct.of (by decide) (Nat.le_of_ble_eq_true rfl) ?_
  refine x_iload_n dX9_keep_0 rfl ?_
  refine x_csd mf_X9_isImage ml_X9_274 dX9_keep_1 rfl ⟨by decide, by decide⟩ (Nat.le_of_ble_eq_true rfl) ⟨rfl, rfl⟩ ⟨Nat.le_of_ble_eq_true rfl, Nat.le_of_ble_eq_true rfl⟩ (c_isImage 0) ?_
  refine x_ifb_ne 9 dX9_keep_4 (by decide) (fun _ => ?_) (fun hc => absurd (hc.symm.trans (by decide)) Bool.false_ne_true)
  refine x_aload_n dX9_keep_9 rfl ?_
  refine x_geti fl_X9_120 dX9_keep_10 sf_0 rfl ?_
  refine x_iload_n dX9_keep_13 rfl ?_
  refine x_ishr dX9_keep_14 ?_
  refine x_iconst (v := 1) dX9_keep_15 (by decide) ?_
  refine x_iand dX9_keep_16 ?_
  refine x_istore_n dX9_keep_17 (by decide) ?_
  refine x_aload_n dX9_keep_18 rfl ?_
  refine x_getr fl_X9_67 dX9_keep_19 sf_0 rfl ?_
  refine x_iload_n dX9_keep_22 rfl ?_
  refine x_aald dX9_keep_23 sf_37 rfl rfl (by decide) (Or.inl rfl) ?_
  refine x_aload_n dX9_keep_24 rfl ?_
  refine x_getr fl_X9_19 dX9_keep_25 sf_0 rfl ?_
  refine x_cvd mf_X6_becomes ml_X9_116 dX9_keep_28 rfl sf_42 rfl ⟨by decide, by decide⟩ (Nat.le_of_ble_eq_true rfl) ⟨rfl, rfl⟩ ⟨Nat.le_of_ble_eq_true rfl, Nat.le_of_ble_eq_true rfl⟩ (c_becomes (ShT_42 Z ext) (ShT_10 Z ext) (by decide)) ?_
  refine x_aload_n dX9_keep_31 rfl ?_
  refine x_dup dX9_keep_32 rfl ?_
  refine x_geti fl_X9_120 dX9_keep_33 sf_0 rfl ?_
  refine x_iconst (v := 1) dX9_keep_36 (by decide) ?_
  refine x_iload_n dX9_keep_37 rfl ?_
  refine x_ishl dX9_keep_38 ?_
  refine x_ior dX9_keep_39 ?_
  refine x_put fl_X9_120 dX9_keep_40 sf_0 rfl rfl rfl ?_
  refine x_iload_n dX9_keep_43 rfl ?_
  exact x_iret dX9_keep_44 rfl rfl (Nat.le_refl _) (Nat.le_refl _) ⟨rfl, ⟨rfl, rfl⟩⟩
theorem c_back0 {Z : List (Option Nat)} {ext : List Ds} {M : Mm} {sq : Nat} (hq : M 1 3 = nI sq) (hb2 : sq ≤ 20) (hk : ¬ (M 0 11 >>> ((0 : Int32) &&& 31)) &&& 1 = 0) : Ct mX9_back [.ref 0, .int 0] (SS Z ext) M (Rt (some (.int (bcE (lsq (M (42) 1) (M 6) (M 5) sq (M (42) 0))))) (bcM M 10 42)) := by
  refine Ct.of (by decide) (Nat.le_of_ble_eq_true rfl) ?_
  refine x_iload_n dX9_back_0 rfl ?_
  refine x_csd mf_X9_isImage ml_X9_274 dX9_back_1 rfl ⟨by decide, by decide⟩ (Nat.le_of_ble_eq_true rfl) ⟨rfl, rfl⟩ ⟨Nat.le_of_ble_eq_true rfl, Nat.le_of_ble_eq_true rfl⟩ (c_isImage 0) ?_
  refine x_ifb_ne 9 dX9_back_4 (by decide) (fun _ => ?_) (fun hc => absurd (hc.symm.trans (by decide)) Bool.false_ne_true)
  refine x_aload_n dX9_back_9 rfl ?_
  refine x_geti fl_X9_120 dX9_back_10 sf_0 rfl ?_
  refine x_iload_n dX9_back_13 rfl ?_
  refine x_ishr dX9_back_14 ?_
  refine x_iconst (v := 1) dX9_back_15 (by decide) ?_
  refine x_iand dX9_back_16 ?_
  refine x_if_ne 23 dX9_back_17 (by decide) (fun _ => ?_) (fun hc => absurd hc (hk))
  refine x_aload_n dX9_back_23 rfl ?_
  refine x_getr fl_X9_19 dX9_back_24 sf_0 rfl ?_
  refine x_aload_n dX9_back_27 rfl ?_
  refine x_getr fl_X9_67 dX9_back_28 sf_0 rfl ?_
  refine x_iload_n dX9_back_31 rfl ?_
  refine x_aald dX9_back_32 sf_37 rfl rfl (by decide) (Or.inl rfl) ?_
  refine x_cvd mf_X6_becomes ml_X9_116 dX9_back_33 rfl sf_10 rfl ⟨by decide, by decide⟩ (Nat.le_of_ble_eq_true rfl) ⟨rfl, rfl⟩ ⟨Nat.le_of_ble_eq_true rfl, Nat.le_of_ble_eq_true rfl⟩ (c_becomes (ShT_10 Z ext) (ShT_42 Z ext) (by decide)) ?_
  refine x_aload_n dX9_back_36 rfl ?_
  refine x_aload_n dX9_back_37 rfl ?_
  refine x_getr fl_X9_19 dX9_back_38 sf_0 rfl ?_
  refine x_geti fl_X9_137 dX9_back_41 sf_10 rfl ?_
  refine x_cvd mf_X9_leftOf ml_X9_178 dX9_back_44 rfl sf_0 rfl ⟨by decide, by decide⟩ (Nat.le_of_ble_eq_true rfl) ⟨rfl, rfl⟩ ⟨Nat.le_of_ble_eq_true rfl, Nat.le_of_ble_eq_true rfl⟩ (c_leftOf (sq := sq) _ hq hb2) ?_
  exact x_iret dX9_back_47 rfl rfl (Nat.le_refl _) (Nat.le_refl _) ⟨rfl, ⟨rfl, rfl⟩⟩
theorem c_backN0 {Z : List (Option Nat)} {ext : List Ds} {M : Mm} (hk : (M 0 11 >>> ((0 : Int32) &&& 31)) &&& 1 = 0) : Ct mX9_back [.ref 0, .int 0] (SS Z ext) M (Rt (some (.int (-2))) M) := by
  refine Ct.of (by decide) (Nat.le_of_ble_eq_true rfl) ?_
  refine x_iload_n dX9_back_0 rfl ?_
  refine x_csd mf_X9_isImage ml_X9_274 dX9_back_1 rfl ⟨by decide, by decide⟩ (Nat.le_of_ble_eq_true rfl) ⟨rfl, rfl⟩ ⟨Nat.le_of_ble_eq_true rfl, Nat.le_of_ble_eq_true rfl⟩ (c_isImage 0) ?_
  refine x_ifb_ne 9 dX9_back_4 (by decide) (fun _ => ?_) (fun hc => absurd (hc.symm.trans (by decide)) Bool.false_ne_true)
  refine x_aload_n dX9_back_9 rfl ?_
  refine x_geti fl_X9_120 dX9_back_10 sf_0 rfl ?_
  refine x_iload_n dX9_back_13 rfl ?_
  refine x_ishr dX9_back_14 ?_
  refine x_iconst (v := 1) dX9_back_15 (by decide) ?_
  refine x_iand dX9_back_16 ?_
  refine x_if_ne 23 dX9_back_17 (by decide) (fun hc => absurd (hk) hc) (fun _ => ?_)
  refine x_bipush (v := -2) dX9_back_20 (by decide) ?_
  exact x_iret dX9_back_22 rfl rfl (Nat.le_refl _) (Nat.le_refl _) ⟨rfl, ⟨rfl, rfl⟩⟩
theorem c_keep1 {Z : List (Option Nat)} {ext : List Ds} {M : Mm} : Ct mX9_keep [.ref 0, .int 1] (SS Z ext) M (Rt (some (.int ((M 0 11 >>> ((1 : Int32) &&& 31)) &&& 1))) (up2 (bcM M 45 10) 0 11 (inS (M 0 11) 1))) := by
  refine Ct.of (by decide) (Nat.le_of_ble_eq_true rfl) ?_
  refine x_iload_n dX9_keep_0 rfl ?_
  refine x_csd mf_X9_isImage ml_X9_274 dX9_keep_1 rfl ⟨by decide, by decide⟩ (Nat.le_of_ble_eq_true rfl) ⟨rfl, rfl⟩ ⟨Nat.le_of_ble_eq_true rfl, Nat.le_of_ble_eq_true rfl⟩ (c_isImage 1) ?_
  refine x_ifb_ne 9 dX9_keep_4 (by decide) (fun _ => ?_) (fun hc => absurd (hc.symm.trans (by decide)) Bool.false_ne_true)
  refine x_aload_n dX9_keep_9 rfl ?_
  refine x_geti fl_X9_120 dX9_keep_10 sf_0 rfl ?_
  refine x_iload_n dX9_keep_13 rfl ?_
  refine x_ishr dX9_keep_14 ?_
  refine x_iconst (v := 1) dX9_keep_15 (by decide) ?_
  refine x_iand dX9_keep_16 ?_
  refine x_istore_n dX9_keep_17 (by decide) ?_
  refine x_aload_n dX9_keep_18 rfl ?_
  refine x_getr fl_X9_67 dX9_keep_19 sf_0 rfl ?_
  refine x_iload_n dX9_keep_22 rfl ?_
  refine x_aald dX9_keep_23 sf_37 rfl rfl (by decide) (Or.inl rfl) ?_
  refine x_aload_n dX9_keep_24 rfl ?_
  refine x_getr fl_X9_19 dX9_keep_25 sf_0 rfl ?_
  refine x_cvd mf_X6_becomes ml_X9_116 dX9_keep_28 rfl sf_45 rfl ⟨by decide, by decide⟩ (Nat.le_of_ble_eq_true rfl) ⟨rfl, rfl⟩ ⟨Nat.le_of_ble_eq_true rfl, Nat.le_of_ble_eq_true rfl⟩ (c_becomes (ShT_45 Z ext) (ShT_10 Z ext) (by decide)) ?_
  refine x_aload_n dX9_keep_31 rfl ?_
  refine x_dup dX9_keep_32 rfl ?_
  refine x_geti fl_X9_120 dX9_keep_33 sf_0 rfl ?_
  refine x_iconst (v := 1) dX9_keep_36 (by decide) ?_
  refine x_iload_n dX9_keep_37 rfl ?_
  refine x_ishl dX9_keep_38 ?_
  refine x_ior dX9_keep_39 ?_
  refine x_put fl_X9_120 dX9_keep_40 sf_0 rfl rfl rfl ?_
  refine x_iload_n dX9_keep_43 rfl ?_
  exact x_iret dX9_keep_44 rfl rfl (Nat.le_refl _) (Nat.le_refl _) ⟨rfl, ⟨rfl, rfl⟩⟩
theorem c_back1 {Z : List (Option Nat)} {ext : List Ds} {M : Mm} {sq : Nat} (hq : M 1 3 = nI sq) (hb2 : sq ≤ 20) (hk : ¬ (M 0 11 >>> ((1 : Int32) &&& 31)) &&& 1 = 0) : Ct mX9_back [.ref 0, .int 1] (SS Z ext) M (Rt (some (.int (bcE (lsq (M (45) 1) (M 6) (M 5) sq (M (45) 0))))) (bcM M 10 45)) := by
  refine Ct.of (by decide) (Nat.le_of_ble_eq_true rfl) ?_
  refine x_iload_n dX9_back_0 rfl ?_
  refine x_csd mf_X9_isImage ml_X9_274 dX9_back_1 rfl ⟨by decide, by decide⟩ (Nat.le_of_ble_eq_true rfl) ⟨rfl, rfl⟩ ⟨Nat.le_of_ble_eq_true rfl, Nat.le_of_ble_eq_true rfl⟩ (c_isImage 1) ?_
  refine x_ifb_ne 9 dX9_back_4 (by decide) (fun _ => ?_) (fun hc => absurd (hc.symm.trans (by decide)) Bool.false_ne_true)
  refine x_aload_n dX9_back_9 rfl ?_
  refine x_geti fl_X9_120 dX9_back_10 sf_0 rfl ?_
  refine x_iload_n dX9_back_13 rfl ?_
  refine x_ishr dX9_back_14 ?_
  refine x_iconst (v := 1) dX9_back_15 (by decide) ?_
  refine x_iand dX9_back_16 ?_
  refine x_if_ne 23 dX9_back_17 (by decide) (fun _ => ?_) (fun hc => absurd hc (hk))
  refine x_aload_n dX9_back_23 rfl ?_
  refine x_getr fl_X9_19 dX9_back_24 sf_0 rfl ?_
  refine x_aload_n dX9_back_27 rfl ?_
  refine x_getr fl_X9_67 dX9_back_28 sf_0 rfl ?_
  refine x_iload_n dX9_back_31 rfl ?_
  refine x_aald dX9_back_32 sf_37 rfl rfl (by decide) (Or.inl rfl) ?_
  refine x_cvd mf_X6_becomes ml_X9_116 dX9_back_33 rfl sf_10 rfl ⟨by decide, by decide⟩ (Nat.le_of_ble_eq_true rfl) ⟨rfl, rfl⟩ ⟨Nat.le_of_ble_eq_true rfl, Nat.le_of_ble_eq_true rfl⟩ (c_becomes (ShT_10 Z ext) (ShT_45 Z ext) (by decide)) ?_
  refine x_aload_n dX9_back_36 rfl ?_
  refine x_aload_n dX9_back_37 rfl ?_
  refine x_getr fl_X9_19 dX9_back_38 sf_0 rfl ?_
  refine x_geti fl_X9_137 dX9_back_41 sf_10 rfl ?_
  refine x_cvd mf_X9_leftOf ml_X9_178 dX9_back_44 rfl sf_0 rfl ⟨by decide, by decide⟩ (Nat.le_of_ble_eq_true rfl) ⟨rfl, rfl⟩ ⟨Nat.le_of_ble_eq_true rfl, Nat.le_of_ble_eq_true rfl⟩ (c_leftOf (sq := sq) _ hq hb2) ?_
  exact x_iret dX9_back_47 rfl rfl (Nat.le_refl _) (Nat.le_refl _) ⟨rfl, ⟨rfl, rfl⟩⟩
theorem c_backN1 {Z : List (Option Nat)} {ext : List Ds} {M : Mm} (hk : (M 0 11 >>> ((1 : Int32) &&& 31)) &&& 1 = 0) : Ct mX9_back [.ref 0, .int 1] (SS Z ext) M (Rt (some (.int (-2))) M) := by
  refine Ct.of (by decide) (Nat.le_of_ble_eq_true rfl) ?_
  refine x_iload_n dX9_back_0 rfl ?_
  refine x_csd mf_X9_isImage ml_X9_274 dX9_back_1 rfl ⟨by decide, by decide⟩ (Nat.le_of_ble_eq_true rfl) ⟨rfl, rfl⟩ ⟨Nat.le_of_ble_eq_true rfl, Nat.le_of_ble_eq_true rfl⟩ (c_isImage 1) ?_
  refine x_ifb_ne 9 dX9_back_4 (by decide) (fun _ => ?_) (fun hc => absurd (hc.symm.trans (by decide)) Bool.false_ne_true)
  refine x_aload_n dX9_back_9 rfl ?_
  refine x_geti fl_X9_120 dX9_back_10 sf_0 rfl ?_
  refine x_iload_n dX9_back_13 rfl ?_
  refine x_ishr dX9_back_14 ?_
  refine x_iconst (v := 1) dX9_back_15 (by decide) ?_
  refine x_iand dX9_back_16 ?_
  refine x_if_ne 23 dX9_back_17 (by decide) (fun hc => absurd (hk) hc) (fun _ => ?_)
  refine x_bipush (v := -2) dX9_back_20 (by decide) ?_
  exact x_iret dX9_back_22 rfl rfl (Nat.le_refl _) (Nat.le_refl _) ⟨rfl, ⟨rfl, rfl⟩⟩
