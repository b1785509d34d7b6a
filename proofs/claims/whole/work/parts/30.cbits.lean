/-! ===== the class: Integer.bitCount, the Grid's reads, the Table's ===== -/
/-- what Integer.bitCount computes -/
def us (x : Int32) (k : Int32) : Int32 := (x.toUInt32 >>> (k.toUInt32 &&& Int32.toUInt32 31)).toInt32
def bc1 (x : Int32) : Int32 := x - (us x 1 &&& 1431655765)
def bc2 (x : Int32) : Int32 := (x &&& 858993459) + (us x 2 &&& 858993459)
def bc3 (x : Int32) : Int32 := (x + us x 4) &&& 252645135
def bc4 (x : Int32) : Int32 := x + us x 8
def bc5 (x : Int32) : Int32 := x + us x 16
def bcE (x : Int32) : Int32 := bc5 (bc4 (bc3 (bc2 (bc1 x)))) &&& 63
theorem c_bitCount {S : List Ds} {M : Mm} (x : Int32) : Ct mJ6_bitCount_0f7a4 [.int x] S M (Rt (some (.int (bcE x))) M) := by
  refine Ct.of (by decide) (Nat.le_of_ble_eq_true rfl) ?_
  refine x_iload_n dJ6_bitCount_0f7a4_0 rfl ?_
  refine x_iload_n dJ6_bitCount_0f7a4_1 rfl ?_
  refine x_iconst (v := 1) dJ6_bitCount_0f7a4_2 (by decide) ?_
  refine x_iushr dJ6_bitCount_0f7a4_3 ?_
  refine x_ldcw dJ6_bitCount_0f7a4_4 kc_J6_265 ?_
  refine x_iand dJ6_bitCount_0f7a4_7 ?_
  refine x_isub dJ6_bitCount_0f7a4_8 ?_
  refine x_istore_n dJ6_bitCount_0f7a4_9 (by decide) ?_
  refine x_iload_n dJ6_bitCount_0f7a4_10 rfl ?_
  refine x_ldcw dJ6_bitCount_0f7a4_11 kc_J6_266 ?_
  refine x_iand dJ6_bitCount_0f7a4_14 ?_
  refine x_iload_n dJ6_bitCount_0f7a4_15 rfl ?_
  refine x_iconst (v := 2) dJ6_bitCount_0f7a4_16 (by decide) ?_
  refine x_iushr dJ6_bitCount_0f7a4_17 ?_
  refine x_ldcw dJ6_bitCount_0f7a4_18 kc_J6_266 ?_
  refine x_iand dJ6_bitCount_0f7a4_21 ?_
  refine x_iadd dJ6_bitCount_0f7a4_22 ?_
  refine x_istore_n dJ6_bitCount_0f7a4_23 (by decide) ?_
  refine x_iload_n dJ6_bitCount_0f7a4_24 rfl ?_
  refine x_iload_n dJ6_bitCount_0f7a4_25 rfl ?_
  refine x_iconst (v := 4) dJ6_bitCount_0f7a4_26 (by decide) ?_
  refine x_iushr dJ6_bitCount_0f7a4_27 ?_
  refine x_iadd dJ6_bitCount_0f7a4_28 ?_
  refine x_ldcw dJ6_bitCount_0f7a4_29 kc_J6_267 ?_
  refine x_iand dJ6_bitCount_0f7a4_32 ?_
  refine x_istore_n dJ6_bitCount_0f7a4_33 (by decide) ?_
  refine x_iload_n dJ6_bitCount_0f7a4_34 rfl ?_
  refine x_iload_n dJ6_bitCount_0f7a4_35 rfl ?_
  refine x_bipush (v := 8) dJ6_bitCount_0f7a4_36 (by decide) ?_
  refine x_iushr dJ6_bitCount_0f7a4_38 ?_
  refine x_iadd dJ6_bitCount_0f7a4_39 ?_
  refine x_istore_n dJ6_bitCount_0f7a4_40 (by decide) ?_
  refine x_iload_n dJ6_bitCount_0f7a4_41 rfl ?_
  refine x_iload_n dJ6_bitCount_0f7a4_42 rfl ?_
  refine x_bipush (v := 16) dJ6_bitCount_0f7a4_43 (by decide) ?_
  refine x_iushr dJ6_bitCount_0f7a4_45 ?_
  refine x_iadd dJ6_bitCount_0f7a4_46 ?_
  refine x_istore_n dJ6_bitCount_0f7a4_47 (by decide) ?_
  refine x_iload_n dJ6_bitCount_0f7a4_48 rfl ?_
  refine x_bipush (v := 63) dJ6_bitCount_0f7a4_49 (by decide) ?_
  refine x_iand dJ6_bitCount_0f7a4_51 ?_
  exact x_iret dJ6_bitCount_0f7a4_52 rfl rfl (Nat.le_refl _) (Nat.le_refl _) ⟨rfl, ⟨rfl, rfl⟩⟩
/-- the bits of those of the first n places where p holds -/
def orb (p : Nat → Bool) (n : Nat) : Int32 := fld (fun q a => if p q then a ||| ((1 : Int32) <<< (nI q &&& 31)) else a) n 0
theorem orb_s (p : Nat → Bool) (n : Nat) : orb p (n + 1) = if p n then orb p n ||| ((1 : Int32) <<< (nI n &&& 31)) else orb p n := rfl
/-- the rim is in the set, as the class asks it -/
def inc (rm : Nat → Int32) (set : Int32) (q : Nat) : Bool := decide (set &&& rm q = rm q)
theorem c_wholeAmong {S : List Ds} {M : Mm} {sq : Nat} (hS : ShG S) (set : Int32) (hq : M 1 3 = nI sq) (hb : sq ≤ 20) : Ct mX2_wholeAmong [.ref 1, .int set] S M (Rt (some (.int (orb (inc (M 5) set) sq))) M) := by
  refine Ct.of (by decide) (Nat.le_of_ble_eq_true rfl) ?_
  refine x_iconst (v := 0) dX2_wholeAmong_0 (by decide) ?_
  refine x_istore_n dX2_wholeAmong_1 (by decide) ?_
  refine x_iconst (v := 0) dX2_wholeAmong_2 (by decide) ?_
  refine x_istore_n dX2_wholeAmong_3 (by decide) ?_
  refine lup (P := fun k => XW _ _ 0 0 S M 4 [some (.ref 1), some (.int set), some (.int (orb (inc (M 5) set) k)), some (.int (nI k))] []) (N := sq) ?_ ?_ 0 (by omega)
  · refine x_iload_n dX2_wholeAmong_4 rfl ?_
    refine x_aload_n dX2_wholeAmong_5 rfl ?_
    refine x_geti fl_X2_50 dX2_wholeAmong_6 (sg_1 hS) rfl ?_
    refine x_icmp_ge 41 dX2_wholeAmong_9 (by decide) (fun _ => ?_) (fun hc => absurd (by rw [hq]; exact nI_le (Nat.le_refl _) (by omega)) hc)
    refine x_iload_n dX2_wholeAmong_41 rfl ?_
    exact x_iret dX2_wholeAmong_42 rfl rfl (Nat.le_refl _) (Nat.le_refl _) ⟨rfl, ⟨rfl, rfl⟩⟩
  · intro k hk ih
    rw [nI_succ, orb_s] at ih
    refine x_iload_n dX2_wholeAmong_4 rfl ?_
    refine x_aload_n dX2_wholeAmong_5 rfl ?_
    refine x_geti fl_X2_50 dX2_wholeAmong_6 (sg_1 hS) rfl ?_
    refine x_icmp_ge 41 dX2_wholeAmong_9 (by decide) (fun hc => absurd hc (by rw [hq]; exact nI_ge hk (by omega))) (fun _ => ?_)
    refine x_iload_n dX2_wholeAmong_12 rfl ?_
    refine x_aload_n dX2_wholeAmong_13 rfl ?_
    refine x_getr fl_X2_21 dX2_wholeAmong_14 (sg_1 hS) rfl ?_
    refine x_iload_n dX2_wholeAmong_17 rfl ?_
    refine x_iald dX2_wholeAmong_18 (sg_5 hS) rfl (by omega) (by decide) ?_
    refine x_iand dX2_wholeAmong_19 ?_
    refine x_aload_n dX2_wholeAmong_20 rfl ?_
    refine x_getr fl_X2_21 dX2_wholeAmong_21 (sg_1 hS) rfl ?_
    refine x_iload_n dX2_wholeAmong_24 rfl ?_
    refine x_iald dX2_wholeAmong_25 (sg_5 hS) rfl (by omega) (by decide) ?_
    refine x_icmp_ne 35 dX2_wholeAmong_26 (by decide) (fun h26 => ?_) (fun h26 => ?_)
    · refine x_iinc1 dX2_wholeAmong_35 rfl (by decide) ?_
      refine x_goto 4 dX2_wholeAmong_38 (by decide) ?_
      first | (rw [if_neg (by simp [inc, h26])] at ih; exact ih) | (rw [if_pos (by simp [inc, h26])] at ih; exact ih)
    · refine x_iload_n dX2_wholeAmong_29 rfl ?_
      refine x_iconst (v := 1) dX2_wholeAmong_30 (by decide) ?_
      refine x_iload_n dX2_wholeAmong_31 rfl ?_
      refine x_ishl dX2_wholeAmong_32 ?_
      refine x_ior dX2_wholeAmong_33 ?_
      refine x_istore_n dX2_wholeAmong_34 (by decide) ?_
      refine x_iinc1 dX2_wholeAmong_35 rfl (by decide) ?_
      refine x_goto 4 dX2_wholeAmong_38 (by decide) ?_
      first | (rw [if_neg (by simp [inc, h26])] at ih; exact ih) | (rw [if_pos (by simp [inc, h26])] at ih; exact ih)
/-- square q is touched by match x, among some -/
def tou (rm : Nat → Int32) (some x : Int32) (q : Nat) : Bool := !decide (((some >>> (nI q &&& 31)) &&& (rm q >>> (x &&& 31))) &&& 1 = 0)
theorem c_touching {S : List Ds} {M : Mm} {sq : Nat} (hS : ShG S) (some x : Int32) (hq : M 1 3 = nI sq) (hb : sq ≤ 20) : Ct mX2_touching [.ref 1, .int some, .int x] S M (Rt (Option.some (.int (orb (tou (M 5) some x) sq))) M) := by
  refine Ct.of (by decide) (Nat.le_of_ble_eq_true rfl) ?_
  refine x_iconst (v := 0) dX2_touching_0 (by decide) ?_
  refine x_istore_n dX2_touching_1 (by decide) ?_
  refine x_iconst (v := 0) dX2_touching_2 (by decide) ?_
  refine x_istore dX2_touching_3 (by decide) ?_
  refine lup (P := fun k => XW _ _ 0 0 S M 5 [Option.some (.ref 1), Option.some (.int some), Option.some (.int x), Option.some (.int (orb (tou (M 5) some x) k)), Option.some (.int (nI k))] []) (N := sq) ?_ ?_ 0 (by omega)
  · refine x_iload dX2_touching_5 rfl ?_
    refine x_aload_n dX2_touching_7 rfl ?_
    refine x_geti fl_X2_50 dX2_touching_8 (sg_1 hS) rfl ?_
    refine x_icmp_ge 46 dX2_touching_11 (by decide) (fun _ => ?_) (fun hc => absurd (by rw [hq]; exact nI_le (Nat.le_refl _) (by omega)) hc)
    refine x_iload_n dX2_touching_46 rfl ?_
    exact x_iret dX2_touching_47 rfl rfl (Nat.le_refl _) (Nat.le_refl _) ⟨rfl, ⟨rfl, rfl⟩⟩
  · intro k hk ih
    rw [nI_succ, orb_s] at ih
    refine x_iload dX2_touching_5 rfl ?_
    refine x_aload_n dX2_touching_7 rfl ?_
    refine x_geti fl_X2_50 dX2_touching_8 (sg_1 hS) rfl ?_
    refine x_icmp_ge 46 dX2_touching_11 (by decide) (fun hc => absurd hc (by rw [hq]; exact nI_ge hk (by omega))) (fun _ => ?_)
    refine x_iload_n dX2_touching_14 rfl ?_
    refine x_iload dX2_touching_15 rfl ?_
    refine x_ishr dX2_touching_17 ?_
    refine x_aload_n dX2_touching_18 rfl ?_
    refine x_getr fl_X2_21 dX2_touching_19 (sg_1 hS) rfl ?_
    refine x_iload dX2_touching_22 rfl ?_
    refine x_iald dX2_touching_24 (sg_5 hS) rfl (by omega) (by decide) ?_
    refine x_iload_n dX2_touching_25 rfl ?_
    refine x_ishr dX2_touching_26 ?_
    refine x_iand dX2_touching_27 ?_
    refine x_iconst (v := 1) dX2_touching_28 (by decide) ?_
    refine x_iand dX2_touching_29 ?_
    refine x_if_eq 40 dX2_touching_30 (by decide) (fun h30 => ?_) (fun h30 => ?_)
    · refine x_iinc1 dX2_touching_40 rfl (by decide) ?_
      refine x_goto 5 dX2_touching_43 (by decide) ?_
      first | (rw [if_neg (by rw [tou, decide_eq_true h30]; decide)] at ih; exact ih) | (rw [if_pos (by rw [tou, decide_eq_false h30]; decide)] at ih; exact ih)
    · refine x_iload_n dX2_touching_33 rfl ?_
      refine x_iconst (v := 1) dX2_touching_34 (by decide) ?_
      refine x_iload dX2_touching_35 rfl ?_
      refine x_ishl dX2_touching_37 ?_
      refine x_ior dX2_touching_38 ?_
      refine x_istore_n dX2_touching_39 (by decide) ?_
      refine x_iinc1 dX2_touching_40 rfl (by decide) ?_
      refine x_goto 5 dX2_touching_43 (by decide) ?_
      first | (rw [if_neg (by rw [tou, decide_eq_true h30]; decide)] at ih; exact ih) | (rw [if_pos (by rw [tou, decide_eq_false h30]; decide)] at ih; exact ih)
/-- the bits of the set, each moved -/
def mvd (set : Int32) (to : Nat → Int32) (n : Nat) : Int32 := fld (fun m a => if decide ((set >>> (nI m &&& 31)) &&& 1 = 0) then a else a ||| ((1 : Int32) <<< (to m &&& 31))) n 0
theorem mvd_s (set : Int32) (to : Nat → Int32) (n : Nat) : mvd set to (n + 1) = if decide ((set >>> (nI n &&& 31)) &&& 1 = 0) then mvd set to n else mvd set to n ||| ((1 : Int32) <<< (to n &&& 31)) := rfl
theorem c_moved7 {S : List Ds} {M : Mm} {mt : Nat} (hS : ShG S) (set : Int32) (hm : M 1 2 = nI mt) (hb : mt ≤ 31) : Ct mX2_moved [.ref 1, .int set, .ref 7] S M (Rt (some (.int (mvd set (M 7) mt))) M) := by
  refine Ct.of (by decide) (Nat.le_of_ble_eq_true rfl) ?_
  refine x_iconst (v := 0) dX2_moved_0 (by decide) ?_
  refine x_istore_n dX2_moved_1 (by decide) ?_
  refine x_iconst (v := 0) dX2_moved_2 (by decide) ?_
  refine x_istore dX2_moved_3 (by decide) ?_
  refine lup (P := fun k => XW _ _ 0 0 S M 5 [some (.ref 1), some (.int set), some (.ref 7), some (.int (mvd set (M 7) k)), some (.int (nI k))] []) (N := mt) ?_ ?_ 0 (by omega)
  · refine x_iload dX2_moved_5 rfl ?_
    refine x_aload_n dX2_moved_7 rfl ?_
    refine x_geti fl_X2_47 dX2_moved_8 (sg_1 hS) rfl ?_
    refine x_icmp_ge 38 dX2_moved_11 (by decide) (fun _ => ?_) (fun hc => absurd (by rw [hm]; exact nI_le (Nat.le_refl _) (by omega)) hc)
    refine x_iload_n dX2_moved_38 rfl ?_
    exact x_iret dX2_moved_39 rfl rfl (Nat.le_refl _) (Nat.le_refl _) ⟨rfl, ⟨rfl, rfl⟩⟩
  · intro k hk ih
    rw [nI_succ, mvd_s] at ih
    refine x_iload dX2_moved_5 rfl ?_
    refine x_aload_n dX2_moved_7 rfl ?_
    refine x_geti fl_X2_47 dX2_moved_8 (sg_1 hS) rfl ?_
    refine x_icmp_ge 38 dX2_moved_11 (by decide) (fun hc => absurd hc (by rw [hm]; exact nI_ge hk (by omega))) (fun _ => ?_)
    refine x_iload_n dX2_moved_14 rfl ?_
    refine x_iload dX2_moved_15 rfl ?_
    refine x_ishr dX2_moved_17 ?_
    refine x_iconst (v := 1) dX2_moved_18 (by decide) ?_
    refine x_iand dX2_moved_19 ?_
    refine x_if_eq 32 dX2_moved_20 (by decide) (fun h20 => ?_) (fun h20 => ?_)
    · refine x_iinc1 dX2_moved_32 rfl (by decide) ?_
      refine x_goto 5 dX2_moved_35 (by decide) ?_
      first | (rw [if_pos (by rw [decide_eq_true h20])] at ih; exact ih) | (rw [if_neg (by rw [decide_eq_false h20]; decide)] at ih; exact ih)
    · refine x_iload_n dX2_moved_23 rfl ?_
      refine x_iconst (v := 1) dX2_moved_24 (by decide) ?_
      refine x_aload_n dX2_moved_25 rfl ?_
      refine x_iload dX2_moved_26 rfl ?_
      refine x_iald dX2_moved_28 (sg_7 hS) rfl (by omega) (by decide) ?_
      refine x_ishl dX2_moved_29 ?_
      refine x_ior dX2_moved_30 ?_
      refine x_istore_n dX2_moved_31 (by decide) ?_
      refine x_iinc1 dX2_moved_32 rfl (by decide) ?_
      refine x_goto 5 dX2_moved_35 (by decide) ?_
      first | (rw [if_pos (by rw [decide_eq_true h20])] at ih; exact ih) | (rw [if_neg (by rw [decide_eq_false h20]; decide)] at ih; exact ih)
theorem c_moved8 {S : List Ds} {M : Mm} {mt : Nat} (hS : ShG S) (set : Int32) (hm : M 1 2 = nI mt) (hb : mt ≤ 31) : Ct mX2_moved [.ref 1, .int set, .ref 8] S M (Rt (some (.int (mvd set (M 8) mt))) M) := by
  refine Ct.of (by decide) (Nat.le_of_ble_eq_true rfl) ?_
  refine x_iconst (v := 0) dX2_moved_0 (by decide) ?_
  refine x_istore_n dX2_moved_1 (by decide) ?_
  refine x_iconst (v := 0) dX2_moved_2 (by decide) ?_
  refine x_istore dX2_moved_3 (by decide) ?_
  refine lup (P := fun k => XW _ _ 0 0 S M 5 [some (.ref 1), some (.int set), some (.ref 8), some (.int (mvd set (M 8) k)), some (.int (nI k))] []) (N := mt) ?_ ?_ 0 (by omega)
  · refine x_iload dX2_moved_5 rfl ?_
    refine x_aload_n dX2_moved_7 rfl ?_
    refine x_geti fl_X2_47 dX2_moved_8 (sg_1 hS) rfl ?_
    refine x_icmp_ge 38 dX2_moved_11 (by decide) (fun _ => ?_) (fun hc => absurd (by rw [hm]; exact nI_le (Nat.le_refl _) (by omega)) hc)
    refine x_iload_n dX2_moved_38 rfl ?_
    exact x_iret dX2_moved_39 rfl rfl (Nat.le_refl _) (Nat.le_refl _) ⟨rfl, ⟨rfl, rfl⟩⟩
  · intro k hk ih
    rw [nI_succ, mvd_s] at ih
    refine x_iload dX2_moved_5 rfl ?_
    refine x_aload_n dX2_moved_7 rfl ?_
    refine x_geti fl_X2_47 dX2_moved_8 (sg_1 hS) rfl ?_
    refine x_icmp_ge 38 dX2_moved_11 (by decide) (fun hc => absurd hc (by rw [hm]; exact nI_ge hk (by omega))) (fun _ => ?_)
    refine x_iload_n dX2_moved_14 rfl ?_
    refine x_iload dX2_moved_15 rfl ?_
    refine x_ishr dX2_moved_17 ?_
    refine x_iconst (v := 1) dX2_moved_18 (by decide) ?_
    refine x_iand dX2_moved_19 ?_
    refine x_if_eq 32 dX2_moved_20 (by decide) (fun h20 => ?_) (fun h20 => ?_)
    · refine x_iinc1 dX2_moved_32 rfl (by decide) ?_
      refine x_goto 5 dX2_moved_35 (by decide) ?_
      first | (rw [if_pos (by rw [decide_eq_true h20])] at ih; exact ih) | (rw [if_neg (by rw [decide_eq_false h20]; decide)] at ih; exact ih)
    · refine x_iload_n dX2_moved_23 rfl ?_
      refine x_iconst (v := 1) dX2_moved_24 (by decide) ?_
      refine x_aload_n dX2_moved_25 rfl ?_
      refine x_iload dX2_moved_26 rfl ?_
      refine x_iald dX2_moved_28 (sg_8 hS) rfl (by omega) (by decide) ?_
      refine x_ishl dX2_moved_29 ?_
      refine x_ior dX2_moved_30 ?_
      refine x_istore_n dX2_moved_31 (by decide) ?_
      refine x_iinc1 dX2_moved_32 rfl (by decide) ?_
      refine x_goto 5 dX2_moved_35 (by decide) ?_
      first | (rw [if_pos (by rw [decide_eq_true h20])] at ih; exact ih) | (rw [if_neg (by rw [decide_eq_false h20]; decide)] at ih; exact ih)
theorem c_moved9 {S : List Ds} {M : Mm} {mt : Nat} (hS : ShG S) (set : Int32) (hm : M 1 2 = nI mt) (hb : mt ≤ 31) : Ct mX2_moved [.ref 1, .int set, .ref 9] S M (Rt (some (.int (mvd set (M 9) mt))) M) := by
  refine Ct.of (by decide) (Nat.le_of_ble_eq_true rfl) ?_
  refine x_iconst (v := 0) dX2_moved_0 (by decide) ?_
  refine x_istore_n dX2_moved_1 (by decide) ?_
  refine x_iconst (v := 0) dX2_moved_2 (by decide) ?_
  refine x_istore dX2_moved_3 (by decide) ?_
  refine lup (P := fun k => XW _ _ 0 0 S M 5 [some (.ref 1), some (.int set), some (.ref 9), some (.int (mvd set (M 9) k)), some (.int (nI k))] []) (N := mt) ?_ ?_ 0 (by omega)
  · refine x_iload dX2_moved_5 rfl ?_
    refine x_aload_n dX2_moved_7 rfl ?_
    refine x_geti fl_X2_47 dX2_moved_8 (sg_1 hS) rfl ?_
    refine x_icmp_ge 38 dX2_moved_11 (by decide) (fun _ => ?_) (fun hc => absurd (by rw [hm]; exact nI_le (Nat.le_refl _) (by omega)) hc)
    refine x_iload_n dX2_moved_38 rfl ?_
    exact x_iret dX2_moved_39 rfl rfl (Nat.le_refl _) (Nat.le_refl _) ⟨rfl, ⟨rfl, rfl⟩⟩
  · intro k hk ih
    rw [nI_succ, mvd_s] at ih
    refine x_iload dX2_moved_5 rfl ?_
    refine x_aload_n dX2_moved_7 rfl ?_
    refine x_geti fl_X2_47 dX2_moved_8 (sg_1 hS) rfl ?_
    refine x_icmp_ge 38 dX2_moved_11 (by decide) (fun hc => absurd hc (by rw [hm]; exact nI_ge hk (by omega))) (fun _ => ?_)
    refine x_iload_n dX2_moved_14 rfl ?_
    refine x_iload dX2_moved_15 rfl ?_
    refine x_ishr dX2_moved_17 ?_
    refine x_iconst (v := 1) dX2_moved_18 (by decide) ?_
    refine x_iand dX2_moved_19 ?_
    refine x_if_eq 32 dX2_moved_20 (by decide) (fun h20 => ?_) (fun h20 => ?_)
    · refine x_iinc1 dX2_moved_32 rfl (by decide) ?_
      refine x_goto 5 dX2_moved_35 (by decide) ?_
      first | (rw [if_pos (by rw [decide_eq_true h20])] at ih; exact ih) | (rw [if_neg (by rw [decide_eq_false h20]; decide)] at ih; exact ih)
    · refine x_iload_n dX2_moved_23 rfl ?_
      refine x_iconst (v := 1) dX2_moved_24 (by decide) ?_
      refine x_aload_n dX2_moved_25 rfl ?_
      refine x_iload dX2_moved_26 rfl ?_
      refine x_iald dX2_moved_28 (sg_9 hS) rfl (by omega) (by decide) ?_
      refine x_ishl dX2_moved_29 ?_
      refine x_ior dX2_moved_30 ?_
      refine x_istore_n dX2_moved_31 (by decide) ?_
      refine x_iinc1 dX2_moved_32 rfl (by decide) ?_
      refine x_goto 5 dX2_moved_35 (by decide) ?_
      first | (rw [if_pos (by rw [decide_eq_true h20])] at ih; exact ih) | (rw [if_neg (by rw [decide_eq_false h20]; decide)] at ih; exact ih)
def vMirr (a b : Int32) (mi fl : Nat → Int32) (mt : Nat) : Bool := decide (a = b) || decide (mvd a fl mt = b) || decide (mvd a mi mt = b) || decide (mvd (mvd a fl mt) mi mt = b)
theorem c_mirrorsInto {S : List Ds} {M : Mm} {mt : Nat} (hS : ShG S) (a b : Int32) (hm : M 1 2 = nI mt) (hb : mt ≤ 31) : Ct mX2_mirrorsInto [.ref 1, .int a, .int b] S M (Rt (some (.int (b2i (vMirr a b (M 7) (M 8) mt)))) M) := by
  refine Ct.of (by decide) (Nat.le_of_ble_eq_true rfl) ?_
  refine x_aload_n dX2_mirrorsInto_0 rfl ?_
  refine x_iload_n dX2_mirrorsInto_1 rfl ?_
  refine x_aload_n dX2_mirrorsInto_2 rfl ?_
  refine x_getr fl_X2_30 dX2_mirrorsInto_3 (sg_1 hS) rfl ?_
  refine x_cvd mf_X2_moved ml_X2_75 dX2_mirrorsInto_6 rfl (sg_1 hS) rfl ⟨by decide, by decide⟩ (Nat.le_of_ble_eq_true rfl) ⟨rfl, rfl⟩ ⟨Nat.le_of_ble_eq_true rfl, Nat.le_of_ble_eq_true rfl⟩ (c_moved8 hS a hm hb) ?_
  refine x_istore_n dX2_mirrorsInto_9 (by decide) ?_
  refine x_iload_n dX2_mirrorsInto_10 rfl ?_
  refine x_iload_n dX2_mirrorsInto_11 rfl ?_
  refine x_icmp_eq 46 dX2_mirrorsInto_12 (by decide) (fun h12 => ?_) (fun h12 => ?_)
  · refine x_iconst (v := 1) dX2_mirrorsInto_46 (by decide) ?_
    refine x_goto 51 dX2_mirrorsInto_47 (by decide) ?_
    exact x_iret dX2_mirrorsInto_51 rfl rfl (Nat.le_refl _) (Nat.le_refl _) ⟨rfl, ⟨oi (by first | (simp [vMirr, h12, b2i]; done) | (simp [vMirr, h12, h17, b2i]; done) | (simp [vMirr, h12, h17, h30, b2i]; done) | (simp [vMirr, h12, h17, h30, h43, b2i]; done)), rfl⟩⟩
  · refine x_iload_n dX2_mirrorsInto_15 rfl ?_
    refine x_iload_n dX2_mirrorsInto_16 rfl ?_
    refine x_icmp_eq 46 dX2_mirrorsInto_17 (by decide) (fun h17 => ?_) (fun h17 => ?_)
    · refine x_iconst (v := 1) dX2_mirrorsInto_46 (by decide) ?_
      refine x_goto 51 dX2_mirrorsInto_47 (by decide) ?_
      exact x_iret dX2_mirrorsInto_51 rfl rfl (Nat.le_refl _) (Nat.le_refl _) ⟨rfl, ⟨oi (by first | (simp [vMirr, h12, b2i]; done) | (simp [vMirr, h12, h17, b2i]; done) | (simp [vMirr, h12, h17, h30, b2i]; done) | (simp [vMirr, h12, h17, h30, h43, b2i]; done)), rfl⟩⟩
    · refine x_aload_n dX2_mirrorsInto_20 rfl ?_
      refine x_iload_n dX2_mirrorsInto_21 rfl ?_
      refine x_aload_n dX2_mirrorsInto_22 rfl ?_
      refine x_getr fl_X2_27 dX2_mirrorsInto_23 (sg_1 hS) rfl ?_
      refine x_cvd mf_X2_moved ml_X2_75 dX2_mirrorsInto_26 rfl (sg_1 hS) rfl ⟨by decide, by decide⟩ (Nat.le_of_ble_eq_true rfl) ⟨rfl, rfl⟩ ⟨Nat.le_of_ble_eq_true rfl, Nat.le_of_ble_eq_true rfl⟩ (c_moved7 hS a hm hb) ?_
      refine x_iload_n dX2_mirrorsInto_29 rfl ?_
      refine x_icmp_eq 46 dX2_mirrorsInto_30 (by decide) (fun h30 => ?_) (fun h30 => ?_)
      · refine x_iconst (v := 1) dX2_mirrorsInto_46 (by decide) ?_
        refine x_goto 51 dX2_mirrorsInto_47 (by decide) ?_
        exact x_iret dX2_mirrorsInto_51 rfl rfl (Nat.le_refl _) (Nat.le_refl _) ⟨rfl, ⟨oi (by first | (simp [vMirr, h12, b2i]; done) | (simp [vMirr, h12, h17, b2i]; done) | (simp [vMirr, h12, h17, h30, b2i]; done) | (simp [vMirr, h12, h17, h30, h43, b2i]; done)), rfl⟩⟩
      · refine x_aload_n dX2_mirrorsInto_33 rfl ?_
        refine x_iload_n dX2_mirrorsInto_34 rfl ?_
        refine x_aload_n dX2_mirrorsInto_35 rfl ?_
        refine x_getr fl_X2_27 dX2_mirrorsInto_36 (sg_1 hS) rfl ?_
        refine x_cvd mf_X2_moved ml_X2_75 dX2_mirrorsInto_39 rfl (sg_1 hS) rfl ⟨by decide, by decide⟩ (Nat.le_of_ble_eq_true rfl) ⟨rfl, rfl⟩ ⟨Nat.le_of_ble_eq_true rfl, Nat.le_of_ble_eq_true rfl⟩ (c_moved7 hS _ hm hb) ?_
        refine x_iload_n dX2_mirrorsInto_42 rfl ?_
        refine x_icmp_ne 50 dX2_mirrorsInto_43 (by decide) (fun h43 => ?_) (fun h43 => ?_)
        · refine x_iconst (v := 0) dX2_mirrorsInto_50 (by decide) ?_
          exact x_iret dX2_mirrorsInto_51 rfl rfl (Nat.le_refl _) (Nat.le_refl _) ⟨rfl, ⟨oi (by first | (simp [vMirr, h12, b2i]; done) | (simp [vMirr, h12, h17, b2i]; done) | (simp [vMirr, h12, h17, h30, b2i]; done) | (simp [vMirr, h12, h17, h30, h43, b2i]; done)), rfl⟩⟩
        · refine x_iconst (v := 1) dX2_mirrorsInto_46 (by decide) ?_
          refine x_goto 51 dX2_mirrorsInto_47 (by decide) ?_
          exact x_iret dX2_mirrorsInto_51 rfl rfl (Nat.le_refl _) (Nat.le_refl _) ⟨rfl, ⟨oi (by first | (simp [vMirr, h12, b2i]; done) | (simp [vMirr, h12, h17, b2i]; done) | (simp [vMirr, h12, h17, h30, b2i]; done) | (simp [vMirr, h12, h17, h30, h43, b2i]; done)), rfl⟩⟩
def vTurns (w h : Int32) (a b : Int32) (mi fl sw : Nat → Int32) (mt : Nat) : Bool := vMirr a b mi fl mt || (decide (w = h) && vMirr (mvd a sw mt) b mi fl mt)
theorem c_turnsInto {S : List Ds} {M : Mm} {mt : Nat} (hS : ShG S) (a b : Int32) (hm : M 1 2 = nI mt) (hb : mt ≤ 31) : Ct mX2_turnsInto [.ref 1, .int a, .int b] S M (Rt (some (.int (b2i (vTurns (M 1 0) (M 1 1) a b (M 7) (M 8) (M 9) mt)))) M) := by
  refine Ct.of (by decide) (Nat.le_of_ble_eq_true rfl) ?_
  refine x_aload_n dX2_turnsInto_0 rfl ?_
  refine x_iload_n dX2_turnsInto_1 rfl ?_
  refine x_iload_n dX2_turnsInto_2 rfl ?_
  refine x_cvd mf_X2_mirrorsInto ml_X2_79 dX2_turnsInto_3 rfl (sg_1 hS) rfl ⟨by decide, by decide⟩ (Nat.le_of_ble_eq_true rfl) ⟨rfl, rfl⟩ ⟨Nat.le_of_ble_eq_true rfl, Nat.le_of_ble_eq_true rfl⟩ (c_mirrorsInto hS a b hm hb) ?_
  refine x_ifb_ne 37 dX2_turnsInto_6 (by decide) (fun h6 => ?_) (fun h6 => ?_)
  · refine x_iconst (v := 1) dX2_turnsInto_37 (by decide) ?_
    refine x_goto 42 dX2_turnsInto_38 (by decide) ?_
    exact x_iret dX2_turnsInto_42 rfl rfl (Nat.le_refl _) (Nat.le_refl _) ⟨rfl, ⟨oi (by first | (simp [vTurns, h6, b2i]; done) | (simp [vTurns, h6, h17, b2i]; done) | (simp [vTurns, h6, h17, h34, b2i]; done)), rfl⟩⟩
  · refine x_aload_n dX2_turnsInto_9 rfl ?_
    refine x_geti fl_X2_36 dX2_turnsInto_10 (sg_1 hS) rfl ?_
    refine x_aload_n dX2_turnsInto_13 rfl ?_
    refine x_geti fl_X2_40 dX2_turnsInto_14 (sg_1 hS) rfl ?_
    refine x_icmp_ne 41 dX2_turnsInto_17 (by decide) (fun h17 => ?_) (fun h17 => ?_)
    · refine x_iconst (v := 0) dX2_turnsInto_41 (by decide) ?_
      exact x_iret dX2_turnsInto_42 rfl rfl (Nat.le_refl _) (Nat.le_refl _) ⟨rfl, ⟨oi (by first | (simp [vTurns, h6, b2i]; done) | (simp [vTurns, h6, h17, b2i]; done) | (simp [vTurns, h6, h17, h34, b2i]; done)), rfl⟩⟩
    · refine x_aload_n dX2_turnsInto_20 rfl ?_
      refine x_aload_n dX2_turnsInto_21 rfl ?_
      refine x_iload_n dX2_turnsInto_22 rfl ?_
      refine x_aload_n dX2_turnsInto_23 rfl ?_
      refine x_getr fl_X2_33 dX2_turnsInto_24 (sg_1 hS) rfl ?_
      refine x_cvd mf_X2_moved ml_X2_75 dX2_turnsInto_27 rfl (sg_1 hS) rfl ⟨by decide, by decide⟩ (Nat.le_of_ble_eq_true rfl) ⟨rfl, rfl⟩ ⟨Nat.le_of_ble_eq_true rfl, Nat.le_of_ble_eq_true rfl⟩ (c_moved9 hS a hm hb) ?_
      refine x_iload_n dX2_turnsInto_30 rfl ?_
      refine x_cvd mf_X2_mirrorsInto ml_X2_79 dX2_turnsInto_31 rfl (sg_1 hS) rfl ⟨by decide, by decide⟩ (Nat.le_of_ble_eq_true rfl) ⟨rfl, rfl⟩ ⟨Nat.le_of_ble_eq_true rfl, Nat.le_of_ble_eq_true rfl⟩ (c_mirrorsInto hS _ b hm hb) ?_
      refine x_ifb_eq 41 dX2_turnsInto_34 (by decide) (fun h34 => ?_) (fun h34 => ?_)
      · refine x_iconst (v := 0) dX2_turnsInto_41 (by decide) ?_
        exact x_iret dX2_turnsInto_42 rfl rfl (Nat.le_refl _) (Nat.le_refl _) ⟨rfl, ⟨oi (by first | (simp [vTurns, h6, b2i]; done) | (simp [vTurns, h6, h17, b2i]; done) | (simp [vTurns, h6, h17, h34, b2i]; done)), rfl⟩⟩
      · refine x_iconst (v := 1) dX2_turnsInto_37 (by decide) ?_
        refine x_goto 42 dX2_turnsInto_38 (by decide) ?_
        exact x_iret dX2_turnsInto_42 rfl rfl (Nat.le_refl _) (Nat.le_refl _) ⟨rfl, ⟨oi (by first | (simp [vTurns, h6, b2i]; done) | (simp [vTurns, h6, h17, b2i]; done) | (simp [vTurns, h6, h17, h34, b2i]; done)), rfl⟩⟩
theorem c_setOfAll {S : List Ds} {M : Mm} (x : Int32) : Ct mX2_setOfAll [.int x] S M (Rt (some (.int (((1 : Int32) <<< (x &&& 31)) - 1))) M) := by
  refine Ct.of (by decide) (Nat.le_of_ble_eq_true rfl) ?_
  refine x_iconst (v := 1) dX2_setOfAll_0 (by decide) ?_
  refine x_iload_n dX2_setOfAll_1 rfl ?_
  refine x_ishl dX2_setOfAll_2 ?_
  refine x_iconst (v := 1) dX2_setOfAll_3 (by decide) ?_
  refine x_isub dX2_setOfAll_4 ?_
  exact x_iret dX2_setOfAll_5 rfl rfl (Nat.le_refl _) (Nat.le_refl _) ⟨rfl, ⟨rfl, rfl⟩⟩
theorem c_all {S : List Ds} {M : Mm} (hS : ShG S) : Ct mX2_all [.ref 1] S M (Rt (some (.int (((1 : Int32) <<< (M 1 2 &&& 31)) - 1))) M) := by
  refine Ct.of (by decide) (Nat.le_of_ble_eq_true rfl) ?_
  refine x_aload_n dX2_all_0 rfl ?_
  refine x_geti fl_X2_47 dX2_all_1 (sg_1 hS) rfl ?_
  refine x_csd mf_X2_setOfAll ml_X2_61 dX2_all_4 rfl ⟨by decide, by decide⟩ (Nat.le_of_ble_eq_true rfl) ⟨rfl, rfl⟩ ⟨Nat.le_of_ble_eq_true rfl, Nat.le_of_ble_eq_true rfl⟩ (c_setOfAll _) ?_
  exact x_iret dX2_all_7 rfl rfl (Nat.le_refl _) (Nat.le_refl _) ⟨rfl, ⟨rfl, rfl⟩⟩
theorem c_placesOf {S : List Ds} {M : Mm} (w h : Int32) : Ct mX2_placesOf [.int w, .int h] S M (Rt (some (.int (w * (h + 1) + h * (w + 1)))) M) := by
  refine Ct.of (by decide) (Nat.le_of_ble_eq_true rfl) ?_
  refine x_iload_n dX2_placesOf_0 rfl ?_
  refine x_iload_n dX2_placesOf_1 rfl ?_
  refine x_iconst (v := 1) dX2_placesOf_2 (by decide) ?_
  refine x_iadd dX2_placesOf_3 ?_
  refine x_imul dX2_placesOf_4 ?_
  refine x_iload_n dX2_placesOf_5 rfl ?_
  refine x_iload_n dX2_placesOf_6 rfl ?_
  refine x_iconst (v := 1) dX2_placesOf_7 (by decide) ?_
  refine x_iadd dX2_placesOf_8 ?_
  refine x_imul dX2_placesOf_9 ?_
  refine x_iadd dX2_placesOf_10 ?_
  exact x_iret dX2_placesOf_11 rfl rfl (Nat.le_refl _) (Nat.le_refl _) ⟨rfl, ⟨rfl, rfl⟩⟩
theorem c_across {S : List Ds} {M : Mm} (hS : ShG S) (r p : Int32) : Ct mX2_across [.ref 1, .int r, .int p] S M (Rt (some (.int (r * M 1 0 + p))) M) := by
  refine Ct.of (by decide) (Nat.le_of_ble_eq_true rfl) ?_
  refine x_iload_n dX2_across_0 rfl ?_
  refine x_aload_n dX2_across_1 rfl ?_
  refine x_geti fl_X2_36 dX2_across_2 (sg_1 hS) rfl ?_
  refine x_imul dX2_across_5 ?_
  refine x_iload_n dX2_across_6 rfl ?_
  refine x_iadd dX2_across_7 ?_
  exact x_iret dX2_across_8 rfl rfl (Nat.le_refl _) (Nat.le_refl _) ⟨rfl, ⟨rfl, rfl⟩⟩
theorem c_standing {S : List Ds} {M : Mm} (hS : ShG S) (r p : Int32) : Ct mX2_standing [.ref 1, .int r, .int p] S M (Rt (some (.int (M 1 0 * (M 1 1 + 1) + r * (M 1 0 + 1) + p))) M) := by
  refine Ct.of (by decide) (Nat.le_of_ble_eq_true rfl) ?_
  refine x_aload_n dX2_standing_0 rfl ?_
  refine x_geti fl_X2_36 dX2_standing_1 (sg_1 hS) rfl ?_
  refine x_aload_n dX2_standing_4 rfl ?_
  refine x_geti fl_X2_40 dX2_standing_5 (sg_1 hS) rfl ?_
  refine x_iconst (v := 1) dX2_standing_8 (by decide) ?_
  refine x_iadd dX2_standing_9 ?_
  refine x_imul dX2_standing_10 ?_
  refine x_iload_n dX2_standing_11 rfl ?_
  refine x_aload_n dX2_standing_12 rfl ?_
  refine x_geti fl_X2_36 dX2_standing_13 (sg_1 hS) rfl ?_
  refine x_iconst (v := 1) dX2_standing_16 (by decide) ?_
  refine x_iadd dX2_standing_17 ?_
  refine x_imul dX2_standing_18 ?_
  refine x_iadd dX2_standing_19 ?_
  refine x_iload_n dX2_standing_20 rfl ?_
  refine x_iadd dX2_standing_21 ?_
  exact x_iret dX2_standing_22 rfl rfl (Nat.le_refl _) (Nat.le_refl _) ⟨rfl, ⟨rfl, rfl⟩⟩
