/-! ===== the reference: read, count ===== -/
theorem Lf_s (C : Int32) (sz rm : Nat → Int32) (set : Int32) (n : Nat) : Lf C sz rm set (n + 1) = Lf C sz rm set n + b2i (cntq C sz n && inq rm set n) := rfl
theorem Lf_ct (C : Int32) (sz rm : Nat → Int32) (set : Int32) : ∀ n, Lf C sz rm set n = nI (fb_ct (fun q => cntq C sz q && inq rm set q) n)
  | 0 => rfl
  | n + 1 => by
    rw [Lf_s, Lf_ct C sz rm set n, fb_ct_succ]
    cases (cntq C sz n && inq rm set n)
    · exact Int32.add_zero _
    · exact nI_1 _
theorem Lf_pos (C : Int32) (sz rm : Nat → Int32) (set : Int32) {n : Nat} (hn : n ≤ 20) : 0 ≤ Lf C sz rm set n := by
  rw [Lf_ct]
  have := fb_ct_le (fun q => cntq C sz q && inq rm set q) n
  exact nI_pos' (by omega)
def fltR (la lane f : Int32) (z i : Nat) : Int32 := if decide (la = -4) then 1 else if decide (la = lane) then (if decide (0 ≤ f.toInt + (i : Int) ∧ f.toInt + (i : Int) < (z : Int)) then 0 else 2) else 3
def rdF (fl ce : Nat → Int32) (mt : Nat) (L0 : Int32) : Nat → Nat → Nat → Int32 → Int32 × Option Int32 × Int32
  | 0, _, t, L => (nI t, some 0, L)
  | r + 1, i, t, L => if decide (fl i = 0) then (if ix (ce i) mt && lies L (ce i) then rdF fl ce mt L0 r (i + 1) (t + 1) (outS L (ce i)) else (-20 - nI i, none, L0)) else (nI t, some (fl i), L)
theorem rdF_s (fl ce : Nat → Int32) (mt : Nat) (L0 : Int32) (r i t : Nat) (L : Int32) : rdF fl ce mt L0 (r + 1) i t L = if decide (fl i = 0) then (if ix (ce i) mt && lies L (ce i) then rdF fl ce mt L0 r (i + 1) (t + 1) (outS L (ce i)) else (-20 - nI i, none, L0)) else (nI t, some (fl i), L) := rfl
def rdM (M : Mm) (x : Int32 × Option Int32 × Int32) : Mm := match x.2.1 with
  | none => up2 M 49 0 x.2.2
  | some t => up2 (up2 M 49 0 x.2.2) 48 46 t
theorem sum64 (f : Int32) {i : Nat} (hi : i < 100) : (f.toInt64 + (nI i).toInt64).toInt = f.toInt + (i : Int) := by
  have h1 : (f.toInt64).toInt = f.toInt := Int32.toInt_toInt64 f
  have h2 : ((nI i).toInt64).toInt = (i : Int) := by rw [Int32.toInt_toInt64, nI_toInt (by omega)]
  have h3 := f.toInt_lt
  have h4 := f.le_toInt
  rw [Int64.toInt_add, h1, h2, Int.bmod_eq_of_le] <;> omega
theorem c_m_readX {Z : List (Option Nat)} {ext : List Ds} {M : Mm} (k l f n : Int32) (hx : (rg k 0 3 && rg l 0 2 && rg n 0 20) = false) : Ct mX10_read [.ref 48, .int k, .int l, .int f, .int n] (SS Z ext) M (Rt (some (.int (-1))) M) := by
  refine Ct.of (by decide) (Nat.le_of_ble_eq_true rfl) ?_
  refine x_iload_n dX10_read_0 rfl ?_
  refine x_iload_n dX10_read_1 rfl ?_
  refine x_csd mf_X10_isSheet ml_X10_357 dX10_read_2 rfl ⟨by decide, by decide⟩ (Nat.le_of_ble_eq_true rfl) ⟨rfl, rfl⟩ ⟨Nat.le_of_ble_eq_true rfl, Nat.le_of_ble_eq_true rfl⟩ (c_m_isSheet k l) ?_
  refine x_ifb_eq 21 dX10_read_5 (by decide) (fun h5 => ?_) (fun h5 => ?_)
  · refine x_iconst (v := -1) dX10_read_21 (by decide) ?_
    exact x_iret dX10_read_22 rfl rfl (Nat.le_refl _) (Nat.le_refl _) ⟨rfl, ⟨rfl, rfl⟩⟩
  · refine x_iload dX10_read_8 rfl ?_
    refine x_i2l dX10_read_10 ?_
    refine x_lconst (v := 0) dX10_read_11 (by decide) ?_
    refine x_ldc2 dX10_read_12 kc_X10_293 ?_
    refine x_csd mf_X10_in ml_X10_134 dX10_read_15 rfl ⟨by decide, by decide⟩ (Nat.le_of_ble_eq_true rfl) ⟨rfl, rfl⟩ ⟨Nat.le_of_ble_eq_true rfl, Nat.le_of_ble_eq_true rfl⟩ (c_m_rg (a := 0) (b := 20) (by decide) (by decide)) ?_
    refine x_ifb_ne 23 dX10_read_18 (by decide) (fun h18 => ?_) (fun h18 => ?_)
    · rw [h5, h18] at hx; cases hx
    · refine x_iconst (v := -1) dX10_read_21 (by decide) ?_
      exact x_iret dX10_read_22 rfl rfl (Nat.le_refl _) (Nat.le_refl _) ⟨rfl, ⟨rfl, rfl⟩⟩
abbrev rdQ (Z : List (Option Nat)) (ext : List Ds) (M : Mm) (x : Int32 × Option Int32 × Int32) : Fn := Fc mX10_read (fun r' S' M' => S' = SS Z ext ∧ Rt (some (.int x.1)) (rdM M x) r' M')
theorem idx_q {f : Int32} {i z : Nat} (hi : i < 100) (hz : z ≤ 40) (hin : 0 ≤ f.toInt + (i : Int) ∧ f.toInt + (i : Int) < (z : Int)) : ∃ q : Nat, q < z ∧ f + nI i = nI q := by
  refine ⟨(f.toInt + (i : Int)).toNat, by omega, ?_⟩
  apply Int32.toInt_inj.mp
  rw [nI_toInt (by omega), add_toInt (by rw [nI_toInt (by omega)]; omega) (by rw [nI_toInt (by omega)]; omega), nI_toInt (by omega)]
  omega
theorem fltR_0 {la l f : Int32} {z i : Nat} (h0 : fltR la l f z i = 0) : 0 ≤ f.toInt + (i : Int) ∧ f.toInt + (i : Int) < (z : Int) := by
  unfold fltR at h0
  split at h0
  · exact absurd h0 (by decide)
  · split at h0
    · split at h0
      · rename_i h; exact of_decide_eq_true h
      · exact absurd h0 (by decide)
    · exact absurd h0 (by decide)
theorem rd_at {Z : List (Option Nat)} {ext : List Ds} {M : Mm} {mt sq k z n : Nat} {l f L0 : Int32} {fl ce : Nat → Int32} (hfl : fl = fltR (M 68 k) l f z) (hce : ce = fun i => M 70 (40 * k + (f + nI i).toNatClampNeg)) (hk : k < 4) (hz : M 69 k = nI z) (hz40 : z ≤ 40) (hn : n ≤ 20) (hm : M 48 4 = nI mt) (hmb : mt ≤ 31) (hq : M 48 5 = nI sq) (hb : sq ≤ 20) :
    ∀ (r i t : Nat) (L : Int32) (l9 l10 : Option Value), i + r = n → t ≤ i → XW mX10_read (rdQ Z ext M (rdF fl ce mt L0 r i t L)) 0 0 (SS Z ext) (up2 M 49 0 L) 40 [some (.ref 48), some (.int (nI k)), some (.int l), some (.int f), some (.int (nI n)), some (.int L0), some (.int 0), some (.int (nI t)), some (.int (nI i)), l9, l10] [] := by
  intro r
  induction r with
  | zero =>
    intro i t L l9 l10 hi ht
    refine x_iload dX10_read_40 rfl ?_
    refine x_iload dX10_read_42 rfl ?_
    refine x_icmp_ge 165 dX10_read_44 (by decide) (fun _ => ?_) (fun hc_ => absurd (nI_le (by omega) (by omega)) hc_)
    refine x_aload_n dX10_read_165 rfl ?_
    refine x_iload dX10_read_166 rfl ?_
    refine x_put fl_X10_363 dX10_read_168 sf_48 rfl rfl rfl ?_
    refine x_iload dX10_read_171 rfl ?_
    exact x_iret dX10_read_173 rfl rfl (Nat.le_refl _) (Nat.le_refl _) ⟨rfl, ⟨rfl, rfl⟩⟩
  | succ r ih =>
    intro i t L l9 l10 hi ht
    have hs := sum64 f (i := i) (by omega)
    have z0 : (0 : Int64).toInt = 0 := by decide
    have go : XW mX10_read (rdQ Z ext M (rdF fl ce mt L0 (r + 1) i t L)) 0 0 (SS Z ext) (up2 M 49 0 L) 114 [some (.ref 48), some (.int (nI k)), some (.int l), some (.int f), some (.int (nI n)), some (.int L0), some (.int 0), some (.int (nI t)), some (.int (nI i)), some (.long (f.toInt64 + (nI i).toInt64)), none] [.int (fl i)] := by
      rw [rdF_s]
      by_cases h0 : fl i = 0
      · obtain ⟨q, hq1, hq2⟩ := idx_q (f := f) (i := i) (by omega) hz40 (fltR_0 (by rw [← h0, hfl]))
        have hidx : (40 : Int32) * nI k + f + nI i = nI (40 * k + q) := by rw [Int32.add_assoc, hq2, show (40 : Int32) = nI 40 from rfl, nI_mulN, nI_add]
        have hcq : ce i = M 70 (40 * k + q) := by rw [hce]; show M 70 (40 * k + (f + nI i).toNatClampNeg) = _; rw [hq2, nI_clamp (by omega)]
        rw [if_pos (decide_eq_true h0), h0]
        have ct := c_m_take (Z := Z) (ext := ext) (M := up2 M 49 0 L) (ce i) hm hmb hq hb
        rw [up2_up2, show (up2 M 49 0 L) 49 0 = L from rfl] at ct
        by_cases hok : (ix (ce i) mt && lies L (ce i)) = true
        · rw [if_pos hok]
          have ih1 := ih (i + 1) (t + 1) (outS L (ce i)) (some (.long (f.toInt64 + (nI i).toInt64))) none (by omega) (by omega)
          rw [nI_succ i, nI_succ t] at ih1
          rw [wTake, if_pos hok] at ct
          rw [Bool.and_eq_true] at hok
          rw [vTake, hok.1, hok.2, if_pos rfl, if_pos rfl] at ct
          refine x_istore dX10_read_114 (by decide) ?_
          refine x_iload dX10_read_116 rfl ?_
          refine x_if_ne 159 dX10_read_118 (by decide) (fun hc_ => absurd (rfl) hc_) (fun _ => ?_)
          refine x_aload_n dX10_read_121 rfl ?_
          refine x_aload_n dX10_read_122 rfl ?_
          refine x_getr fl_X10_74 dX10_read_123 sf_48 rfl ?_
          refine x_bipush (v := 40) dX10_read_126 (by decide) ?_
          refine x_iload_n dX10_read_128 rfl ?_
          refine x_imul dX10_read_129 ?_
          refine x_iload_n dX10_read_130 rfl ?_
          refine x_iadd dX10_read_131 ?_
          refine x_iload dX10_read_132 rfl ?_
          refine x_iadd dX10_read_134 ?_
          rw [hidx]
          refine x_iald dX10_read_135 sf_70 rfl (by omega) (by decide) ?_
          rw [show (up2 M 49 0 L) 70 (40 * k + q) = ce i from hcq.symm]
          refine x_cvd mf_X10_take ml_X10_360 dX10_read_136 rfl sf_48 rfl ⟨by decide, by decide⟩ (Nat.le_of_ble_eq_true rfl) ⟨rfl, rfl⟩ ⟨Nat.le_of_ble_eq_true rfl, Nat.le_of_ble_eq_true rfl⟩ (ct) ?_
          refine x_if_ge 156 dX10_read_139 (by decide) (fun _ => ?_) (fun hc_ => absurd (Lf_pos _ _ _ _ hb) hc_)
          refine x_iinc1 dX10_read_156 rfl (by decide) ?_
          refine x_iinc1 dX10_read_159 rfl (by decide) ?_
          refine x_goto 40 dX10_read_162 (by decide) ?_
          exact ih1
        · rw [if_neg hok]
          have hw : wTake mt L (ce i) = L := by rw [wTake, if_neg hok]
          have hv : vTake mt ((up2 M 49 0 L) 49 32) ((up2 M 49 0 L) 51) ((up2 M 49 0 L) 54) sq L (ce i) < 0 := by
            rw [vTake]
            cases h1 : ix (ce i) mt with
            | false => exact (by decide : (-1 : Int32) < 0)
            | true =>
              cases h2 : lies L (ce i) with
              | false => exact (by decide : (-2 : Int32) < 0)
              | true => rw [h1, h2] at hok; exact absurd rfl hok
          rw [hw] at ct
          refine x_istore dX10_read_114 (by decide) ?_
          refine x_iload dX10_read_116 rfl ?_
          refine x_if_ne 159 dX10_read_118 (by decide) (fun hc_ => absurd (rfl) hc_) (fun _ => ?_)
          refine x_aload_n dX10_read_121 rfl ?_
          refine x_aload_n dX10_read_122 rfl ?_
          refine x_getr fl_X10_74 dX10_read_123 sf_48 rfl ?_
          refine x_bipush (v := 40) dX10_read_126 (by decide) ?_
          refine x_iload_n dX10_read_128 rfl ?_
          refine x_imul dX10_read_129 ?_
          refine x_iload_n dX10_read_130 rfl ?_
          refine x_iadd dX10_read_131 ?_
          refine x_iload dX10_read_132 rfl ?_
          refine x_iadd dX10_read_134 ?_
          rw [hidx]
          refine x_iald dX10_read_135 sf_70 rfl (by omega) (by decide) ?_
          rw [show (up2 M 49 0 L) 70 (40 * k + q) = ce i from hcq.symm]
          refine x_cvd mf_X10_take ml_X10_360 dX10_read_136 rfl sf_48 rfl ⟨by decide, by decide⟩ (Nat.le_of_ble_eq_true rfl) ⟨rfl, rfl⟩ ⟨Nat.le_of_ble_eq_true rfl, Nat.le_of_ble_eq_true rfl⟩ (ct) ?_
          refine x_if_ge 156 dX10_read_139 (by decide) (fun hc_ => absurd hc_ (fun q => absurd hv (by rw [fa_lt]; rw [fa_le] at q; omega))) (fun _ => ?_)
          refine x_aload_n dX10_read_142 rfl ?_
          refine x_getr fl_X10_7 dX10_read_143 sf_48 rfl ?_
          refine x_iconst (v := 0) dX10_read_146 (by decide) ?_
          refine x_iload dX10_read_147 rfl ?_
          refine x_iast (q := 0) dX10_read_149 sf_49 (by decide) (by decide) (by decide) ?_
          refine x_bipush (v := -20) dX10_read_150 (by decide) ?_
          refine x_iload dX10_read_152 rfl ?_
          refine x_isub dX10_read_154 ?_
          exact x_iret dX10_read_155 rfl rfl (Nat.le_refl _) (Nat.le_refl _) ⟨rfl, ⟨rfl, by rw [up2_up2]; rfl⟩⟩
      · rw [if_neg (fun q => h0 (of_decide_eq_true q))]
        by_cases hin : i + 1 < n
        · refine x_istore dX10_read_114 (by decide) ?_
          refine x_iload dX10_read_116 rfl ?_
          refine x_if_ne 159 dX10_read_118 (by decide) (fun _ => ?_) (fun hc_ => absurd hc_ (h0))
          refine x_iinc1 dX10_read_159 rfl (by decide) ?_
          refine x_goto 40 dX10_read_162 (by decide) ?_
          rw [← nI_succ i]
          refine x_iload dX10_read_40 rfl ?_
          refine x_iload dX10_read_42 rfl ?_
          refine x_icmp_ge 165 dX10_read_44 (by decide) (fun hc_ => absurd hc_ (nI_ge hin (by omega))) (fun _ => ?_)
          refine x_iload dX10_read_47 rfl ?_
          refine x_if_ne 165 dX10_read_49 (by decide) (fun _ => ?_) (fun hc_ => absurd hc_ (h0))
          refine x_aload_n dX10_read_165 rfl ?_
          refine x_iload dX10_read_166 rfl ?_
          refine x_put fl_X10_363 dX10_read_168 sf_48 rfl rfl rfl ?_
          refine x_iload dX10_read_171 rfl ?_
          exact x_iret dX10_read_173 rfl rfl (Nat.le_refl _) (Nat.le_refl _) ⟨rfl, ⟨rfl, rfl⟩⟩
        · refine x_istore dX10_read_114 (by decide) ?_
          refine x_iload dX10_read_116 rfl ?_
          refine x_if_ne 159 dX10_read_118 (by decide) (fun _ => ?_) (fun hc_ => absurd hc_ (h0))
          refine x_iinc1 dX10_read_159 rfl (by decide) ?_
          refine x_goto 40 dX10_read_162 (by decide) ?_
          rw [← nI_succ i]
          refine x_iload dX10_read_40 rfl ?_
          refine x_iload dX10_read_42 rfl ?_
          refine x_icmp_ge 165 dX10_read_44 (by decide) (fun _ => ?_) (fun hc_ => absurd (nI_le (show n ≤ i + 1 by omega) (by omega)) hc_)
          refine x_aload_n dX10_read_165 rfl ?_
          refine x_iload dX10_read_166 rfl ?_
          refine x_put fl_X10_363 dX10_read_168 sf_48 rfl rfl rfl ?_
          refine x_iload dX10_read_171 rfl ?_
          exact x_iret dX10_read_173 rfl rfl (Nat.le_refl _) (Nat.le_refl _) ⟨rfl, ⟨rfl, rfl⟩⟩
    have hfi : fl i = fltR (M 68 k) l f z i := by rw [hfl]
    rw [fltR] at hfi
    by_cases hla : M 68 k = -4
    · rw [decide_eq_true hla, if_pos rfl] at hfi
      rw [hfi] at go
      refine x_iload dX10_read_40 rfl ?_
      refine x_iload dX10_read_42 rfl ?_
      refine x_icmp_ge 165 dX10_read_44 (by decide) (fun hc_ => absurd hc_ (nI_ge (show i < n by omega) (by omega))) (fun _ => ?_)
      refine x_iload dX10_read_47 rfl ?_
      refine x_if_ne 165 dX10_read_49 (by decide) (fun hc_ => absurd (rfl) hc_) (fun _ => ?_)
      refine x_iload_n dX10_read_52 rfl ?_
      refine x_i2l dX10_read_53 ?_
      refine x_iload dX10_read_54 rfl ?_
      refine x_i2l dX10_read_56 ?_
      refine x_ladd dX10_read_57 ?_
      refine x_lstore dX10_read_58 (by decide) ?_
      refine x_aload_n dX10_read_60 rfl ?_
      refine x_getr fl_X10_68 dX10_read_61 sf_48 rfl ?_
      refine x_iload_n dX10_read_64 rfl ?_
      refine x_iald dX10_read_65 sf_68 rfl (by omega) (by decide) ?_
      refine x_bipush (v := -4) dX10_read_66 (by decide) ?_
      refine x_icmp_ne 75 dX10_read_68 (by decide) (fun hc_ => absurd (hla) hc_) (fun _ => ?_)
      refine x_iconst (v := 1) dX10_read_71 (by decide) ?_
      refine x_goto 114 dX10_read_72 (by decide) ?_
      exact go
    · rw [decide_eq_false hla, if_neg (by decide)] at hfi
      by_cases hle : M 68 k = l
      · rw [decide_eq_true hle, if_pos rfl] at hfi
        by_cases hin : 0 ≤ f.toInt + (i : Int) ∧ f.toInt + (i : Int) < (z : Int)
        · rw [decide_eq_true hin, if_pos rfl] at hfi
          rw [hfi] at go
          refine x_iload dX10_read_40 rfl ?_
          refine x_iload dX10_read_42 rfl ?_
          refine x_icmp_ge 165 dX10_read_44 (by decide) (fun hc_ => absurd hc_ (nI_ge (show i < n by omega) (by omega))) (fun _ => ?_)
          refine x_iload dX10_read_47 rfl ?_
          refine x_if_ne 165 dX10_read_49 (by decide) (fun hc_ => absurd (rfl) hc_) (fun _ => ?_)
          refine x_iload_n dX10_read_52 rfl ?_
          refine x_i2l dX10_read_53 ?_
          refine x_iload dX10_read_54 rfl ?_
          refine x_i2l dX10_read_56 ?_
          refine x_ladd dX10_read_57 ?_
          refine x_lstore dX10_read_58 (by decide) ?_
          refine x_aload_n dX10_read_60 rfl ?_
          refine x_getr fl_X10_68 dX10_read_61 sf_48 rfl ?_
          refine x_iload_n dX10_read_64 rfl ?_
          refine x_iald dX10_read_65 sf_68 rfl (by omega) (by decide) ?_
          refine x_bipush (v := -4) dX10_read_66 (by decide) ?_
          refine x_icmp_ne 75 dX10_read_68 (by decide) (fun _ => ?_) (fun hc_ => absurd hc_ (hla))
          refine x_aload_n dX10_read_75 rfl ?_
          refine x_getr fl_X10_68 dX10_read_76 sf_48 rfl ?_
          refine x_iload_n dX10_read_79 rfl ?_
          refine x_iald dX10_read_80 sf_68 rfl (by omega) (by decide) ?_
          refine x_iload_n dX10_read_81 rfl ?_
          refine x_icmp_eq 89 dX10_read_82 (by decide) (fun _ => ?_) (fun hc_ => absurd (hle) hc_)
          refine x_lload dX10_read_89 rfl ?_
          refine x_lconst (v := 0) dX10_read_91 (by decide) ?_
          refine x_lcmp dX10_read_92 ?_
          refine x_if_lt 109 dX10_read_93 (by decide) (fun hc_ => absurd hc_ (by rw [lg_cmp_lt, Int64.lt_iff_toInt_lt, hs, z0]; omega)) (fun _ => ?_)
          refine x_lload dX10_read_96 rfl ?_
          refine x_aload_n dX10_read_98 rfl ?_
          refine x_getr fl_X10_71 dX10_read_99 sf_48 rfl ?_
          refine x_iload_n dX10_read_102 rfl ?_
          refine x_iald dX10_read_103 sf_69 rfl (by omega) (by decide) ?_
          refine x_i2l dX10_read_104 ?_
          refine x_lcmp dX10_read_105 ?_
          refine x_if_lt 113 dX10_read_106 (by decide) (fun _ => ?_) (fun hc_ => absurd (by rw [lg_cmp_lt, Int64.lt_iff_toInt_lt, hs, Int32.toInt_toInt64]; show _ < (M 69 k).toInt; rw [hz, nI_toInt (by omega)]; omega) hc_)
          refine x_iconst (v := 0) dX10_read_113 (by decide) ?_
          exact go
        · rw [decide_eq_false hin, if_neg (by decide)] at hfi
          rw [hfi] at go
          by_cases hneg : f.toInt + (i : Int) < 0
          · refine x_iload dX10_read_40 rfl ?_
            refine x_iload dX10_read_42 rfl ?_
            refine x_icmp_ge 165 dX10_read_44 (by decide) (fun hc_ => absurd hc_ (nI_ge (show i < n by omega) (by omega))) (fun _ => ?_)
            refine x_iload dX10_read_47 rfl ?_
            refine x_if_ne 165 dX10_read_49 (by decide) (fun hc_ => absurd (rfl) hc_) (fun _ => ?_)
            refine x_iload_n dX10_read_52 rfl ?_
            refine x_i2l dX10_read_53 ?_
            refine x_iload dX10_read_54 rfl ?_
            refine x_i2l dX10_read_56 ?_
            refine x_ladd dX10_read_57 ?_
            refine x_lstore dX10_read_58 (by decide) ?_
            refine x_aload_n dX10_read_60 rfl ?_
            refine x_getr fl_X10_68 dX10_read_61 sf_48 rfl ?_
            refine x_iload_n dX10_read_64 rfl ?_
            refine x_iald dX10_read_65 sf_68 rfl (by omega) (by decide) ?_
            refine x_bipush (v := -4) dX10_read_66 (by decide) ?_
            refine x_icmp_ne 75 dX10_read_68 (by decide) (fun _ => ?_) (fun hc_ => absurd hc_ (hla))
            refine x_aload_n dX10_read_75 rfl ?_
            refine x_getr fl_X10_68 dX10_read_76 sf_48 rfl ?_
            refine x_iload_n dX10_read_79 rfl ?_
            refine x_iald dX10_read_80 sf_68 rfl (by omega) (by decide) ?_
            refine x_iload_n dX10_read_81 rfl ?_
            refine x_icmp_eq 89 dX10_read_82 (by decide) (fun _ => ?_) (fun hc_ => absurd (hle) hc_)
            refine x_lload dX10_read_89 rfl ?_
            refine x_lconst (v := 0) dX10_read_91 (by decide) ?_
            refine x_lcmp dX10_read_92 ?_
            refine x_if_lt 109 dX10_read_93 (by decide) (fun _ => ?_) (fun hc_ => absurd (by rw [lg_cmp_lt, Int64.lt_iff_toInt_lt, hs, z0]; omega) hc_)
            refine x_iconst (v := 2) dX10_read_109 (by decide) ?_
            refine x_goto 114 dX10_read_110 (by decide) ?_
            exact go
          · refine x_iload dX10_read_40 rfl ?_
            refine x_iload dX10_read_42 rfl ?_
            refine x_icmp_ge 165 dX10_read_44 (by decide) (fun hc_ => absurd hc_ (nI_ge (show i < n by omega) (by omega))) (fun _ => ?_)
            refine x_iload dX10_read_47 rfl ?_
            refine x_if_ne 165 dX10_read_49 (by decide) (fun hc_ => absurd (rfl) hc_) (fun _ => ?_)
            refine x_iload_n dX10_read_52 rfl ?_
            refine x_i2l dX10_read_53 ?_
            refine x_iload dX10_read_54 rfl ?_
            refine x_i2l dX10_read_56 ?_
            refine x_ladd dX10_read_57 ?_
            refine x_lstore dX10_read_58 (by decide) ?_
            refine x_aload_n dX10_read_60 rfl ?_
            refine x_getr fl_X10_68 dX10_read_61 sf_48 rfl ?_
            refine x_iload_n dX10_read_64 rfl ?_
            refine x_iald dX10_read_65 sf_68 rfl (by omega) (by decide) ?_
            refine x_bipush (v := -4) dX10_read_66 (by decide) ?_
            refine x_icmp_ne 75 dX10_read_68 (by decide) (fun _ => ?_) (fun hc_ => absurd hc_ (hla))
            refine x_aload_n dX10_read_75 rfl ?_
            refine x_getr fl_X10_68 dX10_read_76 sf_48 rfl ?_
            refine x_iload_n dX10_read_79 rfl ?_
            refine x_iald dX10_read_80 sf_68 rfl (by omega) (by decide) ?_
            refine x_iload_n dX10_read_81 rfl ?_
            refine x_icmp_eq 89 dX10_read_82 (by decide) (fun _ => ?_) (fun hc_ => absurd (hle) hc_)
            refine x_lload dX10_read_89 rfl ?_
            refine x_lconst (v := 0) dX10_read_91 (by decide) ?_
            refine x_lcmp dX10_read_92 ?_
            refine x_if_lt 109 dX10_read_93 (by decide) (fun hc_ => absurd hc_ (by rw [lg_cmp_lt, Int64.lt_iff_toInt_lt, hs, z0]; omega)) (fun _ => ?_)
            refine x_lload dX10_read_96 rfl ?_
            refine x_aload_n dX10_read_98 rfl ?_
            refine x_getr fl_X10_71 dX10_read_99 sf_48 rfl ?_
            refine x_iload_n dX10_read_102 rfl ?_
            refine x_iald dX10_read_103 sf_69 rfl (by omega) (by decide) ?_
            refine x_i2l dX10_read_104 ?_
            refine x_lcmp dX10_read_105 ?_
            refine x_if_lt 113 dX10_read_106 (by decide) (fun hc_ => absurd hc_ (by rw [lg_cmp_lt, Int64.lt_iff_toInt_lt, hs, Int32.toInt_toInt64]; show ¬ _ < (M 69 k).toInt; rw [hz, nI_toInt (by omega)]; omega)) (fun _ => ?_)
            refine x_iconst (v := 2) dX10_read_109 (by decide) ?_
            refine x_goto 114 dX10_read_110 (by decide) ?_
            exact go
      · rw [decide_eq_false hle, if_neg (by decide)] at hfi
        rw [hfi] at go
        refine x_iload dX10_read_40 rfl ?_
        refine x_iload dX10_read_42 rfl ?_
        refine x_icmp_ge 165 dX10_read_44 (by decide) (fun hc_ => absurd hc_ (nI_ge (show i < n by omega) (by omega))) (fun _ => ?_)
        refine x_iload dX10_read_47 rfl ?_
        refine x_if_ne 165 dX10_read_49 (by decide) (fun hc_ => absurd (rfl) hc_) (fun _ => ?_)
        refine x_iload_n dX10_read_52 rfl ?_
        refine x_i2l dX10_read_53 ?_
        refine x_iload dX10_read_54 rfl ?_
        refine x_i2l dX10_read_56 ?_
        refine x_ladd dX10_read_57 ?_
        refine x_lstore dX10_read_58 (by decide) ?_
        refine x_aload_n dX10_read_60 rfl ?_
        refine x_getr fl_X10_68 dX10_read_61 sf_48 rfl ?_
        refine x_iload_n dX10_read_64 rfl ?_
        refine x_iald dX10_read_65 sf_68 rfl (by omega) (by decide) ?_
        refine x_bipush (v := -4) dX10_read_66 (by decide) ?_
        refine x_icmp_ne 75 dX10_read_68 (by decide) (fun _ => ?_) (fun hc_ => absurd hc_ (hla))
        refine x_aload_n dX10_read_75 rfl ?_
        refine x_getr fl_X10_68 dX10_read_76 sf_48 rfl ?_
        refine x_iload_n dX10_read_79 rfl ?_
        refine x_iald dX10_read_80 sf_68 rfl (by omega) (by decide) ?_
        refine x_iload_n dX10_read_81 rfl ?_
        refine x_icmp_eq 89 dX10_read_82 (by decide) (fun hc_ => absurd hc_ (hle)) (fun _ => ?_)
        refine x_iconst (v := 3) dX10_read_85 (by decide) ?_
        refine x_goto 114 dX10_read_86 (by decide) ?_
        exact go
theorem c_m_read {Z : List (Option Nat)} {ext : List Ds} {M : Mm} {mt sq z : Nat} (k n : Nat) (l f : Int32) (hk : k < 4) (hl : rg l 0 2 = true) (hn : n ≤ 20) (hz : M 69 k = nI z) (hz40 : z ≤ 40) (hm : M 48 4 = nI mt) (hmb : mt ≤ 31) (hq : M 48 5 = nI sq) (hb : sq ≤ 20) :
    Ct mX10_read [.ref 48, .int (nI k), .int l, .int f, .int (nI n)] (SS Z ext) M (Rt (some (.int (rdF (fltR (M 68 k) l f z) (fun i => M 70 (40 * k + (f + nI i).toNatClampNeg)) mt (M 49 0) n 0 0 (M 49 0)).1)) (rdM M (rdF (fltR (M 68 k) l f z) (fun i => M 70 (40 * k + (f + nI i).toNatClampNeg)) mt (M 49 0) n 0 0 (M 49 0)))) := by
  have fin := rd_at (Z := Z) (ext := ext) (M := M) (mt := mt) (sq := sq) (k := k) (z := z) (n := n) (l := l) (f := f) (L0 := M 49 0) rfl rfl hk hz hz40 hn hm hmb hq hb n 0 0 (M 49 0) none none (by omega) (by omega)
  rw [up2_self rfl] at fin
  refine Ct.of (by decide) (Nat.le_of_ble_eq_true rfl) ?_
  refine x_iload_n dX10_read_0 rfl ?_
  refine x_iload_n dX10_read_1 rfl ?_
  refine x_csd mf_X10_isSheet ml_X10_357 dX10_read_2 rfl ⟨by decide, by decide⟩ (Nat.le_of_ble_eq_true rfl) ⟨rfl, rfl⟩ ⟨Nat.le_of_ble_eq_true rfl, Nat.le_of_ble_eq_true rfl⟩ (c_m_isSheet (nI k) l) ?_
  refine x_ifb_eq 21 dX10_read_5 (by decide) (fun hc_ => absurd (hc_.symm.trans (by rw [rg03 hk, hl]; rfl)) Bool.false_ne_true) (fun _ => ?_)
  refine x_iload dX10_read_8 rfl ?_
  refine x_i2l dX10_read_10 ?_
  refine x_lconst (v := 0) dX10_read_11 (by decide) ?_
  refine x_ldc2 dX10_read_12 kc_X10_293 ?_
  refine x_csd mf_X10_in ml_X10_134 dX10_read_15 rfl ⟨by decide, by decide⟩ (Nat.le_of_ble_eq_true rfl) ⟨rfl, rfl⟩ ⟨Nat.le_of_ble_eq_true rfl, Nat.le_of_ble_eq_true rfl⟩ (c_m_rg (a := 0) (b := 20) (by decide) (by decide)) ?_
  refine x_ifb_ne 23 dX10_read_18 (by decide) (fun _ => ?_) (fun hc_ => absurd (hc_.symm.trans (rg_nI (a := 0) (b := 20) (by omega) (by omega) (by decide))) Bool.false_ne_true)
  refine x_aload_n dX10_read_23 rfl ?_
  refine x_getr fl_X10_7 dX10_read_24 sf_48 rfl ?_
  refine x_iconst (v := 0) dX10_read_27 (by decide) ?_
  refine x_iald (q := 0) dX10_read_28 sf_49 (by decide) (by decide) (by decide) ?_
  refine x_istore dX10_read_29 (by decide) ?_
  refine x_iconst (v := 0) dX10_read_31 (by decide) ?_
  refine x_istore dX10_read_32 (by decide) ?_
  refine x_iconst (v := 0) dX10_read_34 (by decide) ?_
  refine x_istore dX10_read_35 (by decide) ?_
  refine x_iconst (v := 0) dX10_read_37 (by decide) ?_
  refine x_istore dX10_read_38 (by decide) ?_
  exact fin
/-- how many sizes were seen; what the lying matches cost -/
def szR (st : Nat → Int32) (n : Nat) : Int32 := fld (fun k a => a + b2i (!decide (st (k + 33) = -4))) n 0
def csR (st : Nat → Int32) (n : Nat) : Int32 := fld (fun m a => a + (if lies (st 0) (nI m) then st (m + 1) else 0)) n 0
def vCountR (st kp : Nat → Int32) (mt : Nat) (tp l0 z0 x : Int32) : Int32 := if x = 0 then mBits (st 0) 31 else if x = 1 then szR st 3 else if x = 2 then kp 0 + kp 1 else if x = 3 then tp else if x = 4 then (if decide (l0 = -4) then -4 else z0) else if x = 5 then csR st mt else -1
theorem c_m_count {Z : List (Option Nat)} {ext : List Ds} {M : Mm} {mt : Nat} {k0 k1 : Bool} (x : Int32) (hm : M 48 4 = nI mt) (hmb : mt ≤ 31) (h0 : M 50 0 = b2i k0) (h1 : M 50 1 = b2i k1) : Ct mX10_count [.ref 48, .int x] (SS Z ext) M (Rt (some (.int (vCountR (M 49) (M 50) mt (M 48 19) (M 68 0) (M 69 0) x))) M) := by
  refine Ct.of (by decide) (Nat.le_of_ble_eq_true rfl) ?_
  refine x_iconst (v := 0) dX10_count_0 (by decide) ?_
  refine x_istore_n dX10_count_1 (by decide) ?_
  refine x_iconst (v := 1) dX10_count_2 (by decide) ?_
  refine x_istore_n dX10_count_3 (by decide) ?_
  refine lup (P := fun k => XW _ _ 0 0 (SS Z ext) M 4 [some (.ref 48), some (.int x), some (.int (szR (M 49) k)), some (.int (nI (k + 1))), none] []) (N := 3) ?_ ?_ 0 (by omega)
  · refine x_join M 45 [some (.ref 48), some (.int x), some (.int (szR (M 49) 3)), some (.int (csR (M 49) 0)), some (.int (nI 0))] [] ?_ (fun fin => ?_)
    · refine lup (P := fun k => XW _ _ 0 0 (SS Z ext) M 45 [some (.ref 48), some (.int x), some (.int (szR (M 49) 3)), some (.int (csR (M 49) k)), some (.int (nI k))] []) (N := mt) ?_ ?_ 0 (by omega)
      · refine x_iload dX10_count_45 rfl ?_
        refine x_aload_n dX10_count_47 rfl ?_
        refine x_geti fl_X10_123 dX10_count_48 sf_48 rfl ?_
        refine x_icmp_ge 85 dX10_count_51 (by decide) (fun _ => ?_) (fun hc_ => absurd (by rw [hm]; exact nI_le (Nat.le_refl _) (by omega)) hc_)
        refine x_iload_n dX10_count_85 rfl ?_
        rcases sw6 x with rfl | rfl | rfl | rfl | rfl | rfl | hsw
        · refine x_tabIn (off := 38) 124 dX10_count_86 (by decide) (by decide) (by decide) (by decide) ?_
          refine x_aload_n dX10_count_124 rfl ?_
          refine x_getr fl_X10_7 dX10_count_125 sf_48 rfl ?_
          refine x_iconst (v := 0) dX10_count_128 (by decide) ?_
          refine x_iald (q := 0) dX10_count_129 sf_49 (by decide) (by decide) (by decide) ?_
          refine x_csd mf_X10_bitsOf ml_X10_366 dX10_count_130 rfl ⟨by decide, by decide⟩ (Nat.le_of_ble_eq_true rfl) ⟨rfl, rfl⟩ ⟨Nat.le_of_ble_eq_true rfl, Nat.le_of_ble_eq_true rfl⟩ (c_m_bitsOf _) ?_
          exact x_iret dX10_count_133 rfl rfl (Nat.le_refl _) (Nat.le_refl _) ⟨rfl, ⟨oi (by rw [vCountR]; first | rfl | (rw [h0, h1]; rfl) | (rw [decide_eq_true h169]; rfl) | (rw [decide_eq_false h169]; rfl) | (rw [if_neg (sw_ne hsw 0 (by decide) (by decide)), if_neg (sw_ne hsw 1 (by decide) (by decide)), if_neg (sw_ne hsw 2 (by decide) (by decide)), if_neg (sw_ne hsw 3 (by decide) (by decide)), if_neg (sw_ne hsw 4 (by decide) (by decide)), if_neg (sw_ne hsw 5 (by decide) (by decide))])), rfl⟩⟩
        · refine x_tabIn (off := 48) 134 dX10_count_86 (by decide) (by decide) (by decide) (by decide) ?_
          refine x_iload_n dX10_count_134 rfl ?_
          exact x_iret dX10_count_135 rfl rfl (Nat.le_refl _) (Nat.le_refl _) ⟨rfl, ⟨oi (by rw [vCountR]; first | rfl | (rw [h0, h1]; rfl) | (rw [decide_eq_true h169]; rfl) | (rw [decide_eq_false h169]; rfl) | (rw [if_neg (sw_ne hsw 0 (by decide) (by decide)), if_neg (sw_ne hsw 1 (by decide) (by decide)), if_neg (sw_ne hsw 2 (by decide) (by decide)), if_neg (sw_ne hsw 3 (by decide) (by decide)), if_neg (sw_ne hsw 4 (by decide) (by decide)), if_neg (sw_ne hsw 5 (by decide) (by decide))])), rfl⟩⟩
        · refine x_tabIn (off := 50) 136 dX10_count_86 (by decide) (by decide) (by decide) (by decide) ?_
          refine x_aload_n dX10_count_136 rfl ?_
          refine x_getr fl_X10_13 dX10_count_137 sf_48 rfl ?_
          refine x_iconst (v := 0) dX10_count_140 (by decide) ?_
          refine x_zald (q := 0) dX10_count_141 sf_50 (by decide) (by decide) (by decide) ?_
          rw [h0]
          refine x_csd mf_X10_flag ml_X10_209 dX10_count_142 rfl ⟨by decide, by decide⟩ (Nat.le_of_ble_eq_true rfl) ⟨rfl, rfl⟩ ⟨Nat.le_of_ble_eq_true rfl, Nat.le_of_ble_eq_true rfl⟩ (c_m_flag _) ?_
          refine x_aload_n dX10_count_145 rfl ?_
          refine x_getr fl_X10_13 dX10_count_146 sf_48 rfl ?_
          refine x_iconst (v := 1) dX10_count_149 (by decide) ?_
          refine x_zald (q := 1) dX10_count_150 sf_50 (by decide) (by decide) (by decide) ?_
          rw [h1]
          refine x_csd mf_X10_flag ml_X10_209 dX10_count_151 rfl ⟨by decide, by decide⟩ (Nat.le_of_ble_eq_true rfl) ⟨rfl, rfl⟩ ⟨Nat.le_of_ble_eq_true rfl, Nat.le_of_ble_eq_true rfl⟩ (c_m_flag _) ?_
          refine x_iadd dX10_count_154 ?_
          exact x_iret dX10_count_155 rfl rfl (Nat.le_refl _) (Nat.le_refl _) ⟨rfl, ⟨oi (by rw [vCountR]; first | rfl | (rw [h0, h1]; rfl) | (rw [decide_eq_true h169]; rfl) | (rw [decide_eq_false h169]; rfl) | (rw [if_neg (sw_ne hsw 0 (by decide) (by decide)), if_neg (sw_ne hsw 1 (by decide) (by decide)), if_neg (sw_ne hsw 2 (by decide) (by decide)), if_neg (sw_ne hsw 3 (by decide) (by decide)), if_neg (sw_ne hsw 4 (by decide) (by decide)), if_neg (sw_ne hsw 5 (by decide) (by decide))])), rfl⟩⟩
        · refine x_tabIn (off := 70) 156 dX10_count_86 (by decide) (by decide) (by decide) (by decide) ?_
          refine x_aload_n dX10_count_156 rfl ?_
          refine x_geti fl_X10_129 dX10_count_157 sf_48 rfl ?_
          exact x_iret dX10_count_160 rfl rfl (Nat.le_refl _) (Nat.le_refl _) ⟨rfl, ⟨oi (by rw [vCountR]; first | rfl | (rw [h0, h1]; rfl) | (rw [decide_eq_true h169]; rfl) | (rw [decide_eq_false h169]; rfl) | (rw [if_neg (sw_ne hsw 0 (by decide) (by decide)), if_neg (sw_ne hsw 1 (by decide) (by decide)), if_neg (sw_ne hsw 2 (by decide) (by decide)), if_neg (sw_ne hsw 3 (by decide) (by decide)), if_neg (sw_ne hsw 4 (by decide) (by decide)), if_neg (sw_ne hsw 5 (by decide) (by decide))])), rfl⟩⟩
        · refine x_tabIn (off := 75) 161 dX10_count_86 (by decide) (by decide) (by decide) (by decide) ?_
          refine x_aload_n dX10_count_161 rfl ?_
          refine x_getr fl_X10_68 dX10_count_162 sf_48 rfl ?_
          refine x_iconst (v := 0) dX10_count_165 (by decide) ?_
          refine x_iald (q := 0) dX10_count_166 sf_68 (by decide) (by decide) (by decide) ?_
          refine x_bipush (v := -4) dX10_count_167 (by decide) ?_
          refine x_icmp_ne 177 dX10_count_169 (by decide) (fun h169 => ?_) (fun h169 => ?_)
          · refine x_aload_n dX10_count_177 rfl ?_
            refine x_getr fl_X10_71 dX10_count_178 sf_48 rfl ?_
            refine x_iconst (v := 0) dX10_count_181 (by decide) ?_
            refine x_iald (q := 0) dX10_count_182 sf_69 (by decide) (by decide) (by decide) ?_
            exact x_iret dX10_count_183 rfl rfl (Nat.le_refl _) (Nat.le_refl _) ⟨rfl, ⟨oi (by rw [vCountR]; first | rfl | (rw [h0, h1]; rfl) | (rw [decide_eq_true h169]; rfl) | (rw [decide_eq_false h169]; rfl) | (rw [if_neg (sw_ne hsw 0 (by decide) (by decide)), if_neg (sw_ne hsw 1 (by decide) (by decide)), if_neg (sw_ne hsw 2 (by decide) (by decide)), if_neg (sw_ne hsw 3 (by decide) (by decide)), if_neg (sw_ne hsw 4 (by decide) (by decide)), if_neg (sw_ne hsw 5 (by decide) (by decide))])), rfl⟩⟩
          · refine x_bipush (v := -4) dX10_count_172 (by decide) ?_
            refine x_goto 183 dX10_count_174 (by decide) ?_
            exact x_iret dX10_count_183 rfl rfl (Nat.le_refl _) (Nat.le_refl _) ⟨rfl, ⟨oi (by rw [vCountR]; first | rfl | (rw [h0, h1]; rfl) | (rw [decide_eq_true h169]; rfl) | (rw [decide_eq_false h169]; rfl) | (rw [if_neg (sw_ne hsw 0 (by decide) (by decide)), if_neg (sw_ne hsw 1 (by decide) (by decide)), if_neg (sw_ne hsw 2 (by decide) (by decide)), if_neg (sw_ne hsw 3 (by decide) (by decide)), if_neg (sw_ne hsw 4 (by decide) (by decide)), if_neg (sw_ne hsw 5 (by decide) (by decide))])), rfl⟩⟩
        · refine x_tabIn (off := 98) 184 dX10_count_86 (by decide) (by decide) (by decide) (by decide) ?_
          refine x_iload_n dX10_count_184 rfl ?_
          exact x_iret dX10_count_185 rfl rfl (Nat.le_refl _) (Nat.le_refl _) ⟨rfl, ⟨oi (by rw [vCountR]; first | rfl | (rw [h0, h1]; rfl) | (rw [decide_eq_true h169]; rfl) | (rw [decide_eq_false h169]; rfl) | (rw [if_neg (sw_ne hsw 0 (by decide) (by decide)), if_neg (sw_ne hsw 1 (by decide) (by decide)), if_neg (sw_ne hsw 2 (by decide) (by decide)), if_neg (sw_ne hsw 3 (by decide) (by decide)), if_neg (sw_ne hsw 4 (by decide) (by decide)), if_neg (sw_ne hsw 5 (by decide) (by decide))])), rfl⟩⟩
        · refine x_tabOut 186 dX10_count_86 hsw (by decide) ?_
          refine x_iconst (v := -1) dX10_count_186 (by decide) ?_
          exact x_iret dX10_count_187 rfl rfl (Nat.le_refl _) (Nat.le_refl _) ⟨rfl, ⟨oi (by rw [vCountR]; first | rfl | (rw [h0, h1]; rfl) | (rw [decide_eq_true h169]; rfl) | (rw [decide_eq_false h169]; rfl) | (rw [if_neg (sw_ne hsw 0 (by decide) (by decide)), if_neg (sw_ne hsw 1 (by decide) (by decide)), if_neg (sw_ne hsw 2 (by decide) (by decide)), if_neg (sw_ne hsw 3 (by decide) (by decide)), if_neg (sw_ne hsw 4 (by decide) (by decide)), if_neg (sw_ne hsw 5 (by decide) (by decide))])), rfl⟩⟩
      · intro k hk ih
        rw [nI_succ] at ih
        refine x_join M 77 [some (.ref 48), some (.int x), some (.int (szR (M 49) 3)), some (.int (csR (M 49) k)), some (.int (nI k))] [.int (if lies (M 49 0) (nI k) then M 49 (k + 1) else 0), .int (csR (M 49) k)] ?_ (fun fin => ?_)
        · refine x_iadd dX10_count_77 ?_
          refine x_istore_n dX10_count_78 (by decide) ?_
          refine x_iinc1 dX10_count_79 rfl (by decide) ?_
          refine x_goto 45 dX10_count_82 (by decide) ?_
          exact ih
        · refine x_iload dX10_count_45 rfl ?_
          refine x_aload_n dX10_count_47 rfl ?_
          refine x_geti fl_X10_123 dX10_count_48 sf_48 rfl ?_
          refine x_icmp_ge 85 dX10_count_51 (by decide) (fun hc_ => absurd hc_ (by rw [hm]; exact nI_ge hk (by omega))) (fun _ => ?_)
          refine x_iload_n dX10_count_54 rfl ?_
          refine x_aload_n dX10_count_55 rfl ?_
          refine x_iload dX10_count_56 rfl ?_
          refine x_cvd mf_X10_doesLie ml_X10_224 dX10_count_58 rfl sf_48 rfl ⟨by decide, by decide⟩ (Nat.le_of_ble_eq_true rfl) ⟨rfl, rfl⟩ ⟨Nat.le_of_ble_eq_true rfl, Nat.le_of_ble_eq_true rfl⟩ (c_m_doesLie (nI k)) ?_
          refine x_ifb_eq 76 dX10_count_61 (by decide) (fun h61 => ?_) (fun h61 => ?_)
          · refine x_iconst (v := 0) dX10_count_76 (by decide) ?_
            rw [h61] at fin; exact fin
          · refine x_aload_n dX10_count_64 rfl ?_
            refine x_getr fl_X10_7 dX10_count_65 sf_48 rfl ?_
            refine x_iconst (v := 1) dX10_count_68 (by decide) ?_
            refine x_iload dX10_count_69 rfl ?_
            refine x_iadd dX10_count_71 ?_
            rw [show (1 : Int32) + nI k = nI (k + 1) by rw [Int32.add_comm, ← nI_succ]]
            refine x_iald dX10_count_72 sf_49 rfl (by omega) (by decide) ?_
            refine x_goto 77 dX10_count_73 (by decide) ?_
            rw [h61] at fin; exact fin
    · refine x_iload_n dX10_count_4 rfl ?_
      refine x_iconst (v := 3) dX10_count_5 (by decide) ?_
      refine x_icmp_gt 40 dX10_count_6 (by decide) (fun _ => ?_) (fun hc_ => absurd (by decide) hc_)
      refine x_iconst (v := 0) dX10_count_40 (by decide) ?_
      refine x_istore_n dX10_count_41 (by decide) ?_
      refine x_iconst (v := 0) dX10_count_42 (by decide) ?_
      refine x_istore dX10_count_43 (by decide) ?_
      exact fin
  · intro k hk ih
    rw [nI_succ (k + 1)] at ih
    refine x_join M 29 [some (.ref 48), some (.int x), some (.int (szR (M 49) k)), some (.int (nI (k + 1))), none] [.int (b2i (!decide (M 49 (k + 33) = -4))), .int (szR (M 49) k)] ?_ (fun fin => ?_)
    · refine x_csd mf_X10_flag ml_X10_209 dX10_count_29 rfl ⟨by decide, by decide⟩ (Nat.le_of_ble_eq_true rfl) ⟨rfl, rfl⟩ ⟨Nat.le_of_ble_eq_true rfl, Nat.le_of_ble_eq_true rfl⟩ (c_m_flag _) ?_
      refine x_iadd dX10_count_32 ?_
      refine x_istore_n dX10_count_33 (by decide) ?_
      refine x_iinc1 dX10_count_34 rfl (by decide) ?_
      refine x_goto 4 dX10_count_37 (by decide) ?_
      exact ih
    · refine x_iload_n dX10_count_4 rfl ?_
      refine x_iconst (v := 3) dX10_count_5 (by decide) ?_
      refine x_icmp_gt 40 dX10_count_6 (by decide) (fun hc_ => absurd hc_ (nI_nlt (a := 3) (b := k + 1) (by omega) (by decide))) (fun _ => ?_)
      refine x_iload_n dX10_count_9 rfl ?_
      refine x_aload_n dX10_count_10 rfl ?_
      refine x_getr fl_X10_7 dX10_count_11 sf_48 rfl ?_
      refine x_bipush (v := 32) dX10_count_14 (by decide) ?_
      refine x_iload_n dX10_count_16 rfl ?_
      refine x_iadd dX10_count_17 ?_
      rw [show (32 : Int32) + nI (k + 1) = nI (k + 33) by rw [show (32 : Int32) = nI 32 from rfl, nI_add]; congr 1; omega]
      refine x_iald dX10_count_18 sf_49 rfl (by omega) (by decide) ?_
      refine x_bipush (v := -4) dX10_count_19 (by decide) ?_
      refine x_icmp_eq 28 dX10_count_21 (by decide) (fun h21 => ?_) (fun h21 => ?_)
      · refine x_iconst (v := 0) dX10_count_28 (by decide) ?_
        first | (rw [decide_eq_true h21] at fin; exact fin) | (rw [decide_eq_false h21] at fin; exact fin)
      · refine x_iconst (v := 1) dX10_count_24 (by decide) ?_
        refine x_goto 29 dX10_count_25 (by decide) ?_
        first | (rw [decide_eq_true h21] at fin; exact fin) | (rw [decide_eq_false h21] at fin; exact fin)
