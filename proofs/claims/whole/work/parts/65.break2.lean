/-! ===== the class: breakOn ===== -/
def lowk (x : Int32) : Nat := fa_first (bi x) 32
theorem lowk_ok {x : Int32} (hx : ¬ x = 0) : lowk x < 32 ∧ x &&& -x = b1 (lowk x) ∧ bi x (lowk x) = true ∧ ∀ i, i < lowk x → bi x i = false := by
  obtain ⟨k, h1, h2, h3, h4⟩ := low_bit hx
  have he : lowk x = k := by
    have hle := fa_first_le (bi x) 32
    rcases Nat.lt_trichotomy (lowk x) k with h | h | h
    · have := fa_first_yes (bi x) 32 (by show lowk x < 32; omega)
      rw [show fa_first (bi x) 32 = lowk x from rfl, h4 _ h] at this
      cases this
    · exact h
    · have := fa_first_no (bi x) 32 k h
      rw [h3] at this
      cases this
  rw [he]
  exact ⟨h1, h2, h3, h4⟩
def bkI (rec : Int32 → Int32 → Int32 → Int32 → Bk → Bk) (to co : Nat → Int32) (U T sp : Int32) : Nat → Int32 → Int32 → Bk → Bk
  | 0, _, _, st => st
  | r + 1, o, f, st => if o = 0 then st else bkI rec to co U T sp r (o ^^^ b1 (lowk o)) (f ^^^ b1 (lowk o)) (rec (U &&& (to (lowk o) ^^^ (-1))) (f ^^^ b1 (lowk o)) (T ||| b1 (lowk o)) (sp + co (lowk o)) st)
theorem bkI_s (rec : Int32 → Int32 → Int32 → Int32 → Bk → Bk) (to co : Nat → Int32) (U T sp : Int32) (r : Nat) (o f : Int32) (st : Bk) : bkI rec to co U T sp (r + 1) o f st = if o = 0 then st else bkI rec to co U T sp r (o ^^^ b1 (lowk o)) (f ^^^ b1 (lowk o)) (rec (U &&& (to (lowk o) ^^^ (-1))) (f ^^^ b1 (lowk o)) (T ||| b1 (lowk o)) (sp + co (lowk o)) st) := rfl
def bkW (st : Bk) (p : Int32) : Bk := (st.1, st.2.1, st.2.2.1, p)
/-- breakOn, 20 - r deep -/
def bk (rm up to co : Nat → Int32) (sq : Nat) : Nat → Int32 → Int32 → Int32 → Int32 → Bk → Bk
  | 0, U, _, T, sp, st => if U = 0 then ntS st T sp else st
  | r + 1, U, F, T, sp, st => if U = 0 then ntS st T sp else if decide (sp + calV rm up U F st.2.2.2 sq ≤ st.1) then bkI (bk rm up to co sq r) to co U T sp 12 (calP rm up U F st.2.2.2 sq) F (bkW st (calP rm up U F st.2.2.2 sq)) else bkW st (calP rm up U F st.2.2.2 sq)
theorem bk_s (rm up to co : Nat → Int32) (sq r : Nat) (U F T sp : Int32) (st : Bk) : bk rm up to co sq (r + 1) U F T sp st = if U = 0 then ntS st T sp else if decide (sp + calV rm up U F st.2.2.2 sq ≤ st.1) then bkI (bk rm up to co sq r) to co U T sp 12 (calP rm up U F st.2.2.2 sq) F (bkW st (calP rm up U F st.2.2.2 sq)) else bkW st (calP rm up U F st.2.2.2 sq) := rfl
theorem ntS_best {st : Bk} {s c : Int32} (h : st.1.toInt ≤ 279) : (ntS st s c).1.toInt ≤ 279 := by
  unfold ntS
  split
  · rename_i h1
    have h2 : c ≤ st.1 := of_decide_eq_true h1
    rw [fa_le] at h2
    split
    · show c.toInt ≤ 279; omega
    · exact h
  · exact h
theorem bkI_best {rec : Int32 → Int32 → Int32 → Int32 → Bk → Bk} {to co : Nat → Int32} {U T sp : Int32} (hrec : ∀ U F T sp st, st.1.toInt ≤ 279 → (rec U F T sp st).1.toInt ≤ 279) : ∀ (r : Nat) (o f : Int32) (st : Bk), st.1.toInt ≤ 279 → (bkI rec to co U T sp r o f st).1.toInt ≤ 279
  | 0, _, _, st, h => h
  | r + 1, o, f, st, h => by
    rw [bkI_s]
    split
    · exact h
    · exact bkI_best hrec r _ _ _ (hrec _ _ _ _ _ h)
theorem bk_best {rm up to co : Nat → Int32} {sq : Nat} : ∀ (r : Nat) (U F T sp : Int32) (st : Bk), st.1.toInt ≤ 279 → (bk rm up to co sq r U F T sp st).1.toInt ≤ 279
  | 0, U, F, T, sp, st, h => by
    rw [bk]; split
    · exact ntS_best h
    · exact h
  | r + 1, U, F, T, sp, st, h => by
    rw [bk_s]; split
    · exact ntS_best h
    · split
      · exact bkI_best (fun U F T sp st => bk_best r U F T sp st) 12 _ _ _ h
      · exact h
theorem calF_psv {rm up : Nat → Int32} {U F p0 : Int32} {sq : Nat} (hF : psv F) (hr : ∀ q, q < sq → ∀ F, ¬ (31 : Int32) ≤ bcE (rm q &&& F)) : ∀ k, k ≤ sq → ((∀ q, q < k → lies U (nI q) = false) ∧ calF rm up U F p0 k = (0, 0, 31, p0)) ∨ psv (calF rm up U F p0 k).2.2.2
  | 0, _ => Or.inl ⟨fun q h => absurd h (by omega), rfl⟩
  | k + 1, h => by
    have hh := hr k (by omega) F
    rw [calF_s]
    rcases calF_psv hF hr k (by omega) with ⟨h1, h2⟩ | h1
    · rw [h2, calS]
      cases hl : lies U (nI k) with
      | false =>
        left
        refine ⟨fun q hq => ?_, rfl⟩
        rcases (show q = k ∨ q < k by omega) with rfl | h3
        · exact hl
        · exact h1 q h3
      | true =>
        right
        rw [if_pos rfl]
        show psv (if decide ((31 : Int32) ≤ bcE (rm k &&& F)) then p0 else rm k &&& F)
        rw [decide_eq_false hh]
        exact psv_and hF
    · right
      rw [calS]
      split
      · show psv (if decide ((calF rm up U F p0 k).2.2.1 ≤ bcE (rm k &&& F)) then (calF rm up U F p0 k).2.2.2 else rm k &&& F)
        split
        · exact h1
        · exact psv_and hF
      · exact h1
theorem calP_psv {rm up : Nat → Int32} {U F p0 : Int32} {sq : Nat} (hb : sq ≤ 20) (hF : psv F) (hr : ∀ q, q < sq → ∀ F, ¬ (31 : Int32) ≤ bcE (rm q &&& F)) (hU : ∀ i, bi U i = true → i < sq) (hU0 : ¬ U = 0) (hz : ¬ calZ rm U F sq < sq) : psv (calP rm up U F p0 sq) := by
  have hle : calZ rm U F sq ≤ sq := fa_first_le _ _
  rw [calP, show calZ rm U F sq = sq by omega]
  rcases calF_psv (rm := rm) (up := up) (U := U) (p0 := p0) hF hr sq (Nat.le_refl _) with ⟨h1, h2⟩ | h1
  · obtain ⟨i, hi, hb2⟩ := bi_nz hU0
    have h3 := hU i hb2
    have h4 := h1 i h3
    rw [lies_bi U hi, hb2] at h4
    cases h4
  · exact h1
theorem psv_x {x : Int32} {k : Nat} (hk : k < 31) (h : psv x) : psv (x ^^^ b1 k) := by
  unfold psv at *
  rw [bi_xor, bi_b1 (by omega), h]
  simp; omega
theorem psv_low {x : Int32} (hx : ¬ x = 0) (h : psv x) : lowk x < 31 := by
  have h1 := lowk_ok hx
  rcases (show lowk x < 31 ∨ lowk x = 31 by omega) with h2 | h2
  · exact h2
  · rw [h2] at h1
    unfold psv at h
    rw [h] at h1
    cases h1.2.2.1
theorem add_toInt {a b : Int32} (h1 : -2000000000 ≤ a.toInt + b.toInt) (h2 : a.toInt + b.toInt ≤ 2000000000) : (a + b).toInt = a.toInt + b.toInt := by
  rw [Int32.toInt_add, Int.bmod_eq_of_le] <;> omega
theorem c_breakOn {Z : List (Option Nat)} {ext : List Ds} {M : Mm} {sq : Nat} (hq : M 19 3 = nI sq) (hb : sq ≤ 20) (hr : ∀ q, q < sq → ∀ F, ¬ (31 : Int32) ≤ bcE (M 21 q &&& F)) (hco : ∀ k, k < 31 → 0 ≤ (M 20 k).toInt ∧ (M 20 k).toInt ≤ 9) :
    ∀ (r d dp : Nat) (U F T sp : Int32) (st : Bk), dp + r = 20 → r + 3 ≤ d → psv F → (∀ i, bi U i = true → i < sq) → 0 ≤ sp.toInt → sp.toInt ≤ 9 * (dp : Int) → st.1.toInt ≤ 279 → Ct (mX0_breakOn d) [.ref 19, .int (nI dp), .int U, .int F, .int T, .int sp] (SS Z ext) (bkM M st) (Rt none (bkM M (bk (M 21) (M 23) (M 22) (M 20) sq r U F T sp st))) := by
  intro r
  induction r with
  | zero =>
    intro d dp U F T sp st hdp hd hF hU hs1 hs2 hbest
    obtain ⟨d, rfl⟩ : ∃ d', d = d' + 1 := ⟨d - 1, by omega⟩
    obtain rfl : dp = 20 := by omega
    rw [bk]
    refine Ct.of rfl (Nat.le_of_ble_eq_true rfl) ?_
    by_cases hU0 : U = 0
    · rw [if_pos hU0]
      refine x_iload_n dX0_breakOn_0 rfl ?_
      refine x_if_ne 13 dX0_breakOn_1 (by decide) (fun hc_ => absurd (hU0) hc_) (fun _ => ?_)
      refine x_aload_n dX0_breakOn_4 rfl ?_
      refine x_iload dX0_breakOn_5 rfl ?_
      refine x_iload dX0_breakOn_7 rfl ?_
      refine x_cvd mf_X0_noteSet ml_X0_71 dX0_breakOn_9 rfl sf_19 rfl ⟨by show 1 + 1 ≤ d + 1; omega, by show 8 + (3 + 11) + 40 * 1 ≤ 40 * (d + 1); omega⟩ (Nat.le_of_ble_eq_true rfl) ⟨rfl, rfl⟩ ⟨Nat.le_of_ble_eq_true rfl, Nat.le_of_ble_eq_true rfl⟩ (c_noteSet st T sp) ?_
      exact x_ret dX0_breakOn_12 rfl (Nat.le_refl _) (Nat.le_refl _) ⟨rfl, ⟨rfl, rfl⟩⟩
    · rw [if_neg hU0]
      refine x_iload_n dX0_breakOn_0 rfl ?_
      refine x_if_ne 13 dX0_breakOn_1 (by decide) (fun _ => ?_) (fun hc_ => absurd hc_ (hU0))
      refine x_iload_n dX0_breakOn_13 rfl ?_
      refine x_bipush (v := 20) dX0_breakOn_14 (by decide) ?_
      refine x_icmp_ge 35 dX0_breakOn_16 (by decide) (fun _ => ?_) (fun hc_ => absurd (by decide) hc_)
      exact x_ret dX0_breakOn_35 rfl (Nat.le_refl _) (Nat.le_refl _) ⟨rfl, ⟨rfl, rfl⟩⟩
  | succ r ih =>
    intro d dp U F T sp st hdp hd hF hU hs1 hs2 hbest
    obtain ⟨d, rfl⟩ : ∃ d', d = d' + 1 := ⟨d - 1, by omega⟩
    rw [bk_s]
    refine Ct.of rfl (Nat.le_of_ble_eq_true rfl) ?_
    by_cases hU0 : U = 0
    · rw [if_pos hU0]
      refine x_iload_n dX0_breakOn_0 rfl ?_
      refine x_if_ne 13 dX0_breakOn_1 (by decide) (fun hc_ => absurd (hU0) hc_) (fun _ => ?_)
      refine x_aload_n dX0_breakOn_4 rfl ?_
      refine x_iload dX0_breakOn_5 rfl ?_
      refine x_iload dX0_breakOn_7 rfl ?_
      refine x_cvd mf_X0_noteSet ml_X0_71 dX0_breakOn_9 rfl sf_19 rfl ⟨by show 1 + 1 ≤ d + 1; omega, by show 8 + (3 + 11) + 40 * 1 ≤ 40 * (d + 1); omega⟩ (Nat.le_of_ble_eq_true rfl) ⟨rfl, rfl⟩ ⟨Nat.le_of_ble_eq_true rfl, Nat.le_of_ble_eq_true rfl⟩ (c_noteSet st T sp) ?_
      exact x_ret dX0_breakOn_12 rfl (Nat.le_refl _) (Nat.le_refl _) ⟨rfl, ⟨rfl, rfl⟩⟩
    · rw [if_neg hU0]
      by_cases hc : sp + calV (M 21) (M 23) U F st.2.2.2 sq ≤ st.1
      · rw [if_pos (decide_eq_true hc)]
        have hz : ¬ calZ (M 21) U F sq < sq := by
          intro hz
          rw [calV, if_pos hz, fa_le] at hc
          have h280 : (280 : Int32).toInt = 280 := by decide
          rw [add_toInt (by omega) (by omega)] at hc
          omega
        have hpk : psv (calP (M 21) (M 23) U F st.2.2.2 sq) := calP_psv hb hF hr hU hU0 hz
        have hcal := c_costAtLeast (Z := Z) (ext := ext) (M := M) st U F hq hb
        generalize calP (M 21) (M 23) U F st.2.2.2 sq = pk at hpk hcal ⊢
        have loop : ∀ (r' i : Nat) (o f : Int32) (st2 : Bk) (l9 l10 l11 : Option Value), i + r' = 12 → psv o → psv f → st2.1.toInt ≤ 279 → XW (mX0_breakOn (d + 1)) (Fc (mX0_breakOn (d + 1)) (fun rr S' M' => S' = SS Z ext ∧ Rt none (bkM M (bkI (bk (M 21) (M 23) (M 22) (M 20) sq r) (M 22) (M 20) U T sp r' o f st2)) rr M')) 0 0 (SS Z ext) (bkM M st2) 48 [some (.ref 19), some (.int (nI dp)), some (.int U), some (.int F), some (.int T), some (.int sp), some (.int o), some (.int f), some (.int (nI i)), l9, l10, l11] [] := by
          intro r'
          induction r' with
          | zero =>
            intro i o f st2 l9 l10 l11 hi ho hf hb2
            obtain rfl : i = 12 := by omega
            refine x_iload dX0_breakOn_48 rfl ?_
            refine x_bipush (v := 12) dX0_breakOn_50 (by decide) ?_
            refine x_icmp_ge 136 dX0_breakOn_52 (by decide) (fun _ => ?_) (fun hc_ => absurd (by decide) hc_)
            exact x_ret dX0_breakOn_136 rfl (Nat.le_refl _) (Nat.le_refl _) ⟨rfl, ⟨rfl, rfl⟩⟩
          | succ r' ih2 =>
            intro i o f st2 l9 l10 l11 hi ho hf hb2
            rw [bkI_s]
            by_cases ho0 : o = 0
            · rw [if_pos ho0]
              refine x_iload dX0_breakOn_48 rfl ?_
              refine x_bipush (v := 12) dX0_breakOn_50 (by decide) ?_
              refine x_icmp_ge 136 dX0_breakOn_52 (by decide) (fun hc_ => absurd hc_ (nI_ge (b := 12) (a := i) (by omega) (by decide))) (fun _ => ?_)
              refine x_iload dX0_breakOn_55 rfl ?_
              refine x_if_eq 136 dX0_breakOn_57 (by decide) (fun _ => ?_) (fun hc_ => absurd (ho0) hc_)
              exact x_ret dX0_breakOn_136 rfl (Nat.le_refl _) (Nat.le_refl _) ⟨rfl, ⟨rfl, rfl⟩⟩
            · rw [if_neg ho0]
              have hk := lowk_ok ho0
              have hk31 := psv_low ho0 ho
              generalize lowk o = k at hk hk31
              have hcc := ih d (dp + 1) (U &&& (M 22 k ^^^ (-1))) (f ^^^ b1 k) (T ||| b1 k) (sp + M 20 k) st2 (by omega) (by omega) (psv_x hk31 hf) (fun i h => hU i (by rw [bi_and, Bool.and_eq_true] at h; exact h.1)) (by have := hco k hk31; rw [add_toInt (by omega) (by omega)]; omega) (by have := hco k hk31; rw [add_toInt (by omega) (by omega)]; omega) hb2
              rw [nI_succ] at hcc
              have hfin := ih2 (i + 1) (o ^^^ b1 k) (f ^^^ b1 k) (bk (M 21) (M 23) (M 22) (M 20) sq r (U &&& (M 22 k ^^^ (-1))) (f ^^^ b1 k) (T ||| b1 k) (sp + M 20 k) st2) (some (.int (b1 k))) (some (.int (nI k))) (some (.int (U &&& (M 22 k ^^^ (-1))))) (by omega) (psv_x hk31 ho) (psv_x hk31 hf) (bk_best _ _ _ _ _ _ hb2)
              rw [nI_succ] at hfin
              refine x_iload dX0_breakOn_48 rfl ?_
              refine x_bipush (v := 12) dX0_breakOn_50 (by decide) ?_
              refine x_icmp_ge 136 dX0_breakOn_52 (by decide) (fun hc_ => absurd hc_ (nI_ge (b := 12) (a := i) (by omega) (by decide))) (fun _ => ?_)
              refine x_iload dX0_breakOn_55 rfl ?_
              refine x_if_eq 136 dX0_breakOn_57 (by decide) (fun hc_ => absurd hc_ (ho0)) (fun _ => ?_)
              refine x_iload dX0_breakOn_60 rfl ?_
              refine x_iload dX0_breakOn_62 rfl ?_
              refine x_ineg dX0_breakOn_64 ?_
              refine x_iand dX0_breakOn_65 ?_
              rw [hk.2.1]
              refine x_istore dX0_breakOn_66 (Nat.le_of_ble_eq_true rfl) ?_
              refine x_iload dX0_breakOn_68 rfl ?_
              refine x_iconst (v := 1) dX0_breakOn_70 (by decide) ?_
              refine x_isub dX0_breakOn_71 ?_
              refine x_csd mf_J6_bitCount_0f7a4 ml_X0_81 dX0_breakOn_72 rfl ⟨by show 0 + 1 ≤ d + 1; omega, by show 8 + (1 + 11) + 40 * 0 ≤ 40 * (d + 1); omega⟩ (Nat.le_of_ble_eq_true rfl) ⟨rfl, rfl⟩ ⟨Nat.le_of_ble_eq_true rfl, Nat.le_of_ble_eq_true rfl⟩ (c_bitCount _) ?_
              rw [low_ix (by omega)]
              refine x_istore dX0_breakOn_75 (Nat.le_of_ble_eq_true rfl) ?_
              refine x_iload dX0_breakOn_77 rfl ?_
              refine x_iload dX0_breakOn_79 rfl ?_
              refine x_ixor dX0_breakOn_81 ?_
              refine x_istore dX0_breakOn_82 (Nat.le_of_ble_eq_true rfl) ?_
              refine x_iload dX0_breakOn_84 rfl ?_
              refine x_iload dX0_breakOn_86 rfl ?_
              refine x_ixor dX0_breakOn_88 ?_
              refine x_istore dX0_breakOn_89 (Nat.le_of_ble_eq_true rfl) ?_
              refine x_iload_n dX0_breakOn_91 rfl ?_
              refine x_aload_n dX0_breakOn_92 rfl ?_
              refine x_getr fl_X0_18 dX0_breakOn_93 sf_19 rfl ?_
              refine x_iload dX0_breakOn_96 rfl ?_
              refine x_iald dX0_breakOn_98 sf_22 rfl (by omega) (by decide) ?_
              refine x_iconst (v := -1) dX0_breakOn_99 (by decide) ?_
              refine x_ixor dX0_breakOn_100 ?_
              refine x_iand dX0_breakOn_101 ?_
              refine x_istore dX0_breakOn_102 (Nat.le_of_ble_eq_true rfl) ?_
              refine x_aload_n dX0_breakOn_104 rfl ?_
              refine x_iload_n dX0_breakOn_105 rfl ?_
              refine x_iconst (v := 1) dX0_breakOn_106 (by decide) ?_
              refine x_iadd dX0_breakOn_107 ?_
              refine x_iload dX0_breakOn_108 rfl ?_
              refine x_iload dX0_breakOn_110 rfl ?_
              refine x_iload dX0_breakOn_112 rfl ?_
              refine x_iload dX0_breakOn_114 rfl ?_
              refine x_ior dX0_breakOn_116 ?_
              refine x_iload dX0_breakOn_117 rfl ?_
              refine x_aload_n dX0_breakOn_119 rfl ?_
              refine x_getr fl_X0_9 dX0_breakOn_120 sf_19 rfl ?_
              refine x_iload dX0_breakOn_123 rfl ?_
              refine x_iald dX0_breakOn_125 sf_20 rfl (by omega) (by decide) ?_
              refine x_iadd dX0_breakOn_126 ?_
              refine x_csd (mf_X0_breakOn _) ml_X0_67 dX0_breakOn_127 rfl ⟨Nat.le_refl _, by show 8 + (12 + 11) + 40 * d ≤ 40 * (d + 1); omega⟩ (Nat.le_of_ble_eq_true rfl) ⟨rfl, rfl⟩ ⟨Nat.le_of_ble_eq_true rfl, Nat.le_of_ble_eq_true rfl⟩ (hcc) ?_
              refine x_iinc1 dX0_breakOn_130 rfl (Nat.le_of_ble_eq_true rfl) ?_
              refine x_goto 48 dX0_breakOn_133 (by decide) ?_
              exact hfin
        have fin := loop 12 0 pk F (bkW st pk) none none none (by omega) hpk hF hbest
        refine x_iload_n dX0_breakOn_0 rfl ?_
        refine x_if_ne 13 dX0_breakOn_1 (by decide) (fun _ => ?_) (fun hc_ => absurd hc_ (hU0))
        refine x_iload_n dX0_breakOn_13 rfl ?_
        refine x_bipush (v := 20) dX0_breakOn_14 (by decide) ?_
        refine x_icmp_ge 35 dX0_breakOn_16 (by decide) (fun hc_ => absurd hc_ (nI_ge (b := 20) (a := dp) (by omega) (by decide))) (fun _ => ?_)
        refine x_iload dX0_breakOn_19 rfl ?_
        refine x_aload_n dX0_breakOn_21 rfl ?_
        refine x_iload_n dX0_breakOn_22 rfl ?_
        refine x_iload_n dX0_breakOn_23 rfl ?_
        refine x_cvd mf_X0_costAtLeast ml_X0_75 dX0_breakOn_24 rfl sf_19 rfl ⟨by show 1 + 1 ≤ d + 1; omega, by show 8 + (9 + 11) + 40 * 1 ≤ 40 * (d + 1); omega⟩ (Nat.le_of_ble_eq_true rfl) ⟨rfl, rfl⟩ ⟨Nat.le_of_ble_eq_true rfl, Nat.le_of_ble_eq_true rfl⟩ (hcal) ?_
        refine x_iadd dX0_breakOn_27 ?_
        refine x_aload_n dX0_breakOn_28 rfl ?_
        refine x_geti fl_X0_54 dX0_breakOn_29 sf_19 rfl ?_
        refine x_icmp_le 36 dX0_breakOn_32 (by decide) (fun _ => ?_) (fun hc_ => absurd (hc) hc_)
        refine x_aload_n dX0_breakOn_36 rfl ?_
        refine x_geti fl_X0_78 dX0_breakOn_37 sf_19 rfl ?_
        refine x_istore dX0_breakOn_40 (Nat.le_of_ble_eq_true rfl) ?_
        refine x_iload_n dX0_breakOn_42 rfl ?_
        refine x_istore dX0_breakOn_43 (Nat.le_of_ble_eq_true rfl) ?_
        refine x_iconst (v := 0) dX0_breakOn_45 (by decide) ?_
        refine x_istore dX0_breakOn_46 (Nat.le_of_ble_eq_true rfl) ?_
        exact fin
      · rw [if_neg (fun q => hc (of_decide_eq_true q))]
        refine x_iload_n dX0_breakOn_0 rfl ?_
        refine x_if_ne 13 dX0_breakOn_1 (by decide) (fun _ => ?_) (fun hc_ => absurd hc_ (hU0))
        refine x_iload_n dX0_breakOn_13 rfl ?_
        refine x_bipush (v := 20) dX0_breakOn_14 (by decide) ?_
        refine x_icmp_ge 35 dX0_breakOn_16 (by decide) (fun hc_ => absurd hc_ (nI_ge (b := 20) (a := dp) (by omega) (by decide))) (fun _ => ?_)
        refine x_iload dX0_breakOn_19 rfl ?_
        refine x_aload_n dX0_breakOn_21 rfl ?_
        refine x_iload_n dX0_breakOn_22 rfl ?_
        refine x_iload_n dX0_breakOn_23 rfl ?_
        refine x_cvd mf_X0_costAtLeast ml_X0_75 dX0_breakOn_24 rfl sf_19 rfl ⟨by show 1 + 1 ≤ d + 1; omega, by show 8 + (9 + 11) + 40 * 1 ≤ 40 * (d + 1); omega⟩ (Nat.le_of_ble_eq_true rfl) ⟨rfl, rfl⟩ ⟨Nat.le_of_ble_eq_true rfl, Nat.le_of_ble_eq_true rfl⟩ (c_costAtLeast st U F hq hb) ?_
        refine x_iadd dX0_breakOn_27 ?_
        refine x_aload_n dX0_breakOn_28 rfl ?_
        refine x_geti fl_X0_54 dX0_breakOn_29 sf_19 rfl ?_
        refine x_icmp_le 36 dX0_breakOn_32 (by decide) (fun hc_ => absurd hc_ (hc)) (fun _ => ?_)
        exact x_ret dX0_breakOn_35 rfl (Nat.le_refl _) (Nat.le_refl _) ⟨rfl, ⟨rfl, rfl⟩⟩
