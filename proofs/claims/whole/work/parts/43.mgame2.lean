/-! ===== the reference: taking ===== -/
def vTaking (lef : Nat → Int32) (W : Nat → Bool) (so : Nat → Int32) (m : Nat) (x : Int32) : Int32 := if decide (x = 0) then 2 - b2i (W 0) else if W 0 then so (fa_first (winT lef W 0) m) else -4
theorem anyk_first (p : Nat → Bool) : ∀ n, anyk p n = true → fa_first p n < n
  | 0, h => by simp [anyk] at h
  | n + 1, h => by
    rw [fa_first]
    by_cases h1 : fa_first p n < n
    · rw [if_pos h1]; omega
    · rw [if_neg h1]
      have h2 : anyk p n = false := by
        cases h3 : anyk p n with
        | false => rfl
        | true => exact absurd (anyk_first p n h3) h1
      rw [anyk, h2, Bool.false_or] at h
      rw [if_pos h]; omega
/-- the search for the first place that wins -/
theorem tk_find {Z : List (Option Nat)} {ext : List Ds} {M M0 : Mm} {m : Nat} {x all : Int32} {l4 : Option Value} {lef so : Nat → Int32} {W : Nat → Bool} {V : Int32} (hm : m ≤ 12) (h63 : M0 63 = so) (hE : Eqm M M0) (r67 r66 : Nat → Int32) (h67 : ∀ i, i < 2 ^ m → r67 i = lef i) (h66 : ∀ i, i < 2 ^ m → r66 i = b2i (W i)) (hW0 : W 0 = true) (hW : okW lef m W) (hV : so (fa_first (winT lef W 0) m) = V) :
    XW mX10_taking (Fc mX10_taking (fun r S' M' => S' = SS Z ext ∧ r = some (.int V) ∧ Eqm M M')) 0 0 (SS Z ext) (taM M0 r67 r66) 195 [some (.ref 48), some (.int x), some (.int all), some (.int (nI 0)), l4] [] := by
  have hp : 0 < 2 ^ m := Nat.pow_pos (by decide)
  have h0 := hW 0 hp
  rw [hW0] at h0
  have hany : anyk (winT lef W 0) m = true := by
    cases h : anyk (winT lef W 0) m with
    | true => rfl
    | false => rw [h, Bool.and_false] at h0; cases h0
  have hlt := anyk_first _ _ hany
  have hw : ∀ k, k < m → (decide ((taM M0 r67 r66) 67 (0 ||| 2 ^ k) = 0) || decide ((taM M0 r67 r66) 66 (0 ||| 2 ^ k) = 0)) = winT lef W 0 k := by
    intro k hk
    have hl := or_lt hp hk
    show (decide (r67 (0 ||| 2 ^ k) = 0) || decide (r66 (0 ||| 2 ^ k) = 0)) = _
    rw [h67 _ hl, h66 _ hl, winT, Nat.zero_testBit]
    cases W (0 ||| 2 ^ k) <;> rfl
  refine lup (P := fun k => XW mX10_taking (Fc mX10_taking (fun r S' M' => S' = SS Z ext ∧ r = some (.int V) ∧ Eqm M M')) 0 0 (SS Z ext) (taM M0 r67 r66) 195 [some (.ref 48), some (.int x), some (.int all), some (.int (nI k)), l4] []) (N := fa_first (winT lef W 0) m) ?_ ?_ 0 (by omega)
  · have hc := c_m_winsBy (Z := Z) (ext := ext) (M := taM M0 r67 r66) hp hlt hm
    rw [hw _ hlt, fa_first_yes _ _ hlt] at hc
    refine x_aload_n dX10_taking_195 rfl ?_
    refine x_iconst (v := 0) dX10_taking_196 (by decide) ?_
    refine x_iload_n dX10_taking_197 rfl ?_
    refine x_cvd mf_X10_winsBy ml_X10_307 dX10_taking_198 rfl sf_48 rfl ⟨by decide, by decide⟩ (Nat.le_of_ble_eq_true rfl) ⟨rfl, rfl⟩ ⟨Nat.le_of_ble_eq_true rfl, Nat.le_of_ble_eq_true rfl⟩ (hc) ?_
    refine x_ifb_ne 210 dX10_taking_201 (by decide) (fun _ => ?_) (fun hc_ => absurd (hc_.symm.trans (rfl)) Bool.false_ne_true)
    refine x_aload_n dX10_taking_210 rfl ?_
    refine x_getr fl_X10_53 dX10_taking_211 sf_48 rfl ?_
    refine x_iload_n dX10_taking_214 rfl ?_
    refine x_iald dX10_taking_215 sf_63 rfl (by omega) (by decide) ?_
    exact x_iret dX10_taking_216 rfl rfl (Nat.le_refl _) (Nat.le_refl _) ⟨rfl, ⟨by rw [← hV, ← h63]; rfl, (hE.ur (fun _ => rfl)).ur (fun _ => rfl)⟩⟩
  · intro k hk ih
    rw [nI_succ] at ih
    have hc := c_m_winsBy (Z := Z) (ext := ext) (M := taM M0 r67 r66) hp (show k < m by omega) hm
    rw [hw _ (by omega), fa_first_no _ _ _ hk] at hc
    refine x_aload_n dX10_taking_195 rfl ?_
    refine x_iconst (v := 0) dX10_taking_196 (by decide) ?_
    refine x_iload_n dX10_taking_197 rfl ?_
    refine x_cvd mf_X10_winsBy ml_X10_307 dX10_taking_198 rfl sf_48 rfl ⟨by decide, by decide⟩ (Nat.le_of_ble_eq_true rfl) ⟨rfl, rfl⟩ ⟨Nat.le_of_ble_eq_true rfl, Nat.le_of_ble_eq_true rfl⟩ (hc) ?_
    refine x_ifb_ne 210 dX10_taking_201 (by decide) (fun hc_ => absurd ((rfl).symm.trans hc_) Bool.false_ne_true) (fun _ => ?_)
    refine x_iinc1 dX10_taking_204 rfl (by decide) ?_
    refine x_goto 195 dX10_taking_207 (by decide) ?_
    exact ih
/-- behind the loop over the masks -/
theorem tk_end {Z : List (Option Nat)} {ext : List Ds} {M M0 : Mm} {m : Nat} {x all l3 : Int32} {l4 : Option Value} {lef so : Nat → Int32} {W : Nat → Bool} {V : Int32} (hm : m ≤ 12) (h63 : M0 63 = so) (hE : Eqm M M0) (r67 r66 : Nat → Int32) (h67 : ∀ i, i < 2 ^ m → r67 i = lef i) (h66 : ∀ i, i < 2 ^ m → r66 i = b2i (W i)) (hW : okW lef m W) (hV : vTaking lef W so m x = V) :
    XW mX10_taking (Fc mX10_taking (fun r S' M' => S' = SS Z ext ∧ r = some (.int V) ∧ Eqm M M')) 0 0 (SS Z ext) (taM M0 r67 r66) 162 [some (.ref 48), some (.int x), some (.int all), some (.int l3), l4] [] := by
  have hp : 0 < 2 ^ m := Nat.pow_pos (by decide)
  have hr0 : r66 0 = b2i (W 0) := h66 0 hp
  by_cases hx : x = 0
  · rw [vTaking, decide_eq_true hx] at hV
    refine x_iload_n dX10_taking_162 rfl ?_
    refine x_if_eq 175 dX10_taking_163 (by decide) (fun _ => ?_) (fun hc_ => absurd (hx) hc_)
    refine x_iload_n dX10_taking_175 rfl ?_
    refine x_if_ne 190 dX10_taking_176 (by decide) (fun hc_ => absurd (hx) hc_) (fun _ => ?_)
    refine x_iconst (v := 2) dX10_taking_179 (by decide) ?_
    refine x_aload_n dX10_taking_180 rfl ?_
    refine x_getr fl_X10_62 dX10_taking_181 sf_48 rfl ?_
    refine x_iconst (v := 0) dX10_taking_184 (by decide) ?_
    refine x_iald (q := 0) dX10_taking_185 sf_66 (by decide) (by decide) (by decide) ?_
    refine x_isub dX10_taking_186 ?_
    refine x_goto 192 dX10_taking_187 (by decide) ?_
    exact x_iret dX10_taking_192 rfl rfl (Nat.le_refl _) (Nat.le_refl _) ⟨rfl, ⟨by rw [← hV, ← hr0]; rfl, (hE.ur (fun _ => rfl)).ur (fun _ => rfl)⟩⟩
  · rw [vTaking, decide_eq_false hx] at hV
    cases hW0 : W 0 with
    | true =>
      rw [hW0] at hV
      have fin := tk_find (Z := Z) (ext := ext) (x := x) (all := all) (l4 := l4) hm h63 hE r67 r66 h67 h66 hW0 hW hV
      refine x_iload_n dX10_taking_162 rfl ?_
      refine x_if_eq 175 dX10_taking_163 (by decide) (fun hc_ => absurd hc_ (hx)) (fun _ => ?_)
      refine x_aload_n dX10_taking_166 rfl ?_
      refine x_getr fl_X10_62 dX10_taking_167 sf_48 rfl ?_
      refine x_iconst (v := 0) dX10_taking_170 (by decide) ?_
      refine x_iald (q := 0) dX10_taking_171 sf_66 (by decide) (by decide) (by decide) ?_
      refine x_if_ne 193 dX10_taking_172 (by decide) (fun _ => ?_) (fun hc_ => absurd hc_ (by show ¬ r66 0 = 0; rw [hr0, hW0]; decide))
      refine x_iconst (v := 0) dX10_taking_193 (by decide) ?_
      refine x_istore_n dX10_taking_194 (by decide) ?_
      exact fin
    | false =>
      rw [hW0] at hV
      refine x_iload_n dX10_taking_162 rfl ?_
      refine x_if_eq 175 dX10_taking_163 (by decide) (fun hc_ => absurd hc_ (hx)) (fun _ => ?_)
      refine x_aload_n dX10_taking_166 rfl ?_
      refine x_getr fl_X10_62 dX10_taking_167 sf_48 rfl ?_
      refine x_iconst (v := 0) dX10_taking_170 (by decide) ?_
      refine x_iald (q := 0) dX10_taking_171 sf_66 (by decide) (by decide) (by decide) ?_
      refine x_if_ne 193 dX10_taking_172 (by decide) (fun hc_ => absurd (by show r66 0 = 0; rw [hr0, hW0]; rfl) hc_) (fun _ => ?_)
      refine x_iload_n dX10_taking_175 rfl ?_
      refine x_if_ne 190 dX10_taking_176 (by decide) (fun _ => ?_) (fun hc_ => absurd hc_ (hx))
      refine x_bipush (v := -4) dX10_taking_190 (by decide) ?_
      exact x_iret dX10_taking_192 rfl rfl (Nat.le_refl _) (Nat.le_refl _) ⟨rfl, ⟨by rw [← hV]; rfl, (hE.ur (fun _ => rfl)).ur (fun _ => rfl)⟩⟩
theorem taM_67 (M : Mm) (r67 r66 : Nat → Int32) (k : Nat) (v : Int32) : up2 (taM M r67 r66) 67 k v = taM M (upd r67 k v) r66 := by
  rw [taM, up2_upr_ne _ _ _ (by decide), up2_upr2]; rfl
theorem taM_66 (M : Mm) (r67 r66 : Nat → Int32) (k : Nat) (v : Int32) : up2 (taM M r67 r66) 66 k v = taM M r67 (upd r66 k v) := by
  rw [taM, up2_upr2]; rfl
theorem tk_loop {Z : List (Option Nat)} {ext : List Ds} {M M0 : Mm} {m sq : Nat} {x all : Int32} {so : Nat → Int32} {W : Nat → Bool} {V : Int32} (hm : m ≤ 12) (h35 : M0 48 35 = nI m) (h63 : M0 63 = so) (h49 : M0 49 = M 49) (h51 : M0 51 = M 51) (h54 : M0 54 = M 54) (hq0 : M0 48 5 = nI sq) (hb2 : sq ≤ 20) (hE : Eqm M M0) (hW : okW (lefT (M 49 32) (M 51) (M 54) sq (M 49 0) so m) m W) (hV : vTaking (lefT (M 49 32) (M 51) (M 54) sq (M 49 0) so m) W so m x = V) :
    ∀ k', k' ≤ 2 ^ m → ∀ (r67 r66 : Nat → Int32) (l4 : Option Value), (∀ i, k' ≤ i → i < 2 ^ m → r67 i = lefT (M 49 32) (M 51) (M 54) sq (M 49 0) so m i) → (∀ i, k' ≤ i → i < 2 ^ m → r66 i = b2i (W i)) → XW mX10_taking (Fc mX10_taking (fun r S' M' => S' = SS Z ext ∧ r = some (.int V) ∧ Eqm M M')) 0 0 (SS Z ext) (taM M0 r67 r66) 58 [some (.ref 48), some (.int x), some (.int all), some (.int (nI k' - 1)), l4] [] := by
  have hp12 := pow12 hm
  intro k'
  induction k' with
  | zero =>
    intro _ r67 r66 l4 h67 h66
    have fin := tk_end (Z := Z) (ext := ext) (all := all) (l3 := nI 0 - 1) (l4 := l4) hm h63 hE r67 r66 (fun i hi => h67 i (by omega) hi) (fun i hi => h66 i (by omega) hi) hW hV
    refine x_iload_n dX10_taking_58 rfl ?_
    refine x_if_lt 162 dX10_taking_59 (by decide) (fun _ => ?_) (fun hc_ => absurd (by decide) hc_)
    exact fin
  | succ k ih =>
    intro hk r67 r66 l4 h67 h66
    have hWk := hW k (by omega)
    generalize hlef : lefT (M 49 32) (M 51) (M 54) sq (M 49 0) so m = lef at *
    have hlk : Lf (M0 49 32) (M0 51) (M0 54) (M0 49 0 &&& (ofR (M0 63) (nI k) m ^^^ (-1))) sq = lef k := by rw [← hlef, h49, h51, h54, h63]; rfl
    rw [nI_pred]
    have h67' : ∀ i, k ≤ i → i < 2 ^ m → upd r67 k (lef k) i = lef i := by
      intro i h1 h2
      by_cases h3 : i = k
      · subst h3; exact pk_us
      · rw [pk_un h3]; exact h67 i (by omega) h2
    refine x_join (taM M0 (upd r67 k (lef k)) (upd r66 k 0)) 96 [some (.ref 48), some (.int x), some (.int all), some (.int (nI k)), some (.int (nI 0))] [] ?_ (fun fin => ?_)
    · by_cases hpos : 0 < lef k
      · rw [decide_eq_true hpos, Bool.true_and] at hWk
        have ih := ih (by omega) (upd r67 k (lef k)) (upd r66 k (b2i (anyk (winT lef W k) m))) (some (.int (nI m))) h67' (by
          intro i h1 h2
          by_cases h3 : i = k
          · subst h3; rw [pk_us, hWk]
          · rw [pk_un h3]; exact h66 i (by omega) h2)
        rw [← nI_m] at ih
        refine tk_inner (lef := lef) (W := W) hm (by omega) h35 (upd r67 k (lef k)) h67' hpos r66 (fun i h1 h2 => h66 i (by omega) h2) ?_
        refine x_iload dX10_taking_96 rfl ?_
        refine x_aload_n dX10_taking_98 rfl ?_
        refine x_geti fl_X10_267 dX10_taking_99 sf_48 rfl ?_
        refine x_icmp_ge 156 dX10_taking_102 (by decide) (fun _ => ?_) (fun hc_ => absurd (by show M0 48 35 ≤ nI m; rw [h35]; exact nI_le (Nat.le_refl _) (by omega)) hc_)
        refine x_iincm dX10_taking_156 rfl (by decide) ?_
        refine x_goto 58 dX10_taking_159 (by decide) ?_
        exact ih
      · rw [decide_eq_false hpos, Bool.false_and] at hWk
        have ih := ih (by omega) (upd r67 k (lef k)) (upd r66 k 0) (some (.int (nI 0))) h67' (by
          intro i h1 h2
          by_cases h3 : i = k
          · subst h3; rw [pk_us, hWk]; rfl
          · rw [pk_un h3]; exact h66 i (by omega) h2)
        rw [← nI_m] at ih
        refine x_join (taM M0 (upd r67 k (lef k)) (upd r66 k 0)) 156 [some (.ref 48), some (.int x), some (.int all), some (.int (nI k)), some (.int (nI 0))] [] ?_ (fun fin => ?_)
        · refine x_iincm dX10_taking_156 rfl (by decide) ?_
          refine x_goto 58 dX10_taking_159 (by decide) ?_
          exact ih
        · refine x_iload dX10_taking_96 rfl ?_
          refine x_aload_n dX10_taking_98 rfl ?_
          refine x_geti fl_X10_267 dX10_taking_99 sf_48 rfl ?_
          refine x_icmp_ge 156 dX10_taking_102 (by decide) (fun h102 => ?_) (fun h102 => ?_)
          · exact fin
          · refine x_aload_n dX10_taking_105 rfl ?_
            refine x_getr fl_X10_65 dX10_taking_106 sf_48 rfl ?_
            refine x_iload_n dX10_taking_109 rfl ?_
            refine x_iald dX10_taking_110 sf_67 rfl (by omega) (by decide) ?_
            refine x_if_le 156 dX10_taking_111 (by decide) (fun _ => ?_) (fun hc_ => absurd (by show upd r67 k (lef k) k ≤ 0; rw [pk_us]; exact fa_of_nlt hpos) hc_)
            exact fin
    · rw [← taM_66, ← taM_67, ← hlk] at fin
      refine x_iload_n dX10_taking_58 rfl ?_
      refine x_if_lt 162 dX10_taking_59 (by decide) (fun hc_ => absurd hc_ (nI_pos (by omega))) (fun _ => ?_)
      refine x_aload_n dX10_taking_62 rfl ?_
      refine x_getr fl_X10_65 dX10_taking_63 sf_48 rfl ?_
      refine x_iload_n dX10_taking_66 rfl ?_
      refine x_aload_n dX10_taking_67 rfl ?_
      refine x_aload_n dX10_taking_68 rfl ?_
      refine x_getr fl_X10_7 dX10_taking_69 sf_48 rfl ?_
      refine x_iconst (v := 0) dX10_taking_72 (by decide) ?_
      refine x_iald (q := 0) dX10_taking_73 sf_49 (by decide) (by decide) (by decide) ?_
      refine x_aload_n dX10_taking_74 rfl ?_
      refine x_iload_n dX10_taking_75 rfl ?_
      refine x_cvd mf_X10_ofRow ml_X10_304 dX10_taking_76 rfl sf_48 rfl ⟨by decide, by decide⟩ (Nat.le_of_ble_eq_true rfl) ⟨rfl, rfl⟩ ⟨Nat.le_of_ble_eq_true rfl, Nat.le_of_ble_eq_true rfl⟩ (c_m_ofRow (m := m) (nI k) h35 (by omega)) ?_
      refine x_iconst (v := -1) dX10_taking_79 (by decide) ?_
      refine x_ixor dX10_taking_80 ?_
      refine x_iand dX10_taking_81 ?_
      refine x_cvd mf_X10_leftOf ml_X10_221 dX10_taking_82 rfl sf_48 rfl ⟨by decide, by decide⟩ (Nat.le_of_ble_eq_true rfl) ⟨rfl, rfl⟩ ⟨Nat.le_of_ble_eq_true rfl, Nat.le_of_ble_eq_true rfl⟩ (c_m_leftOf (sq := sq) _ hq0 hb2) ?_
      refine x_iast dX10_taking_85 sf_67 rfl (by omega) (by decide) ?_
      refine x_aload_n dX10_taking_86 rfl ?_
      refine x_getr fl_X10_62 dX10_taking_87 sf_48 rfl ?_
      refine x_iload_n dX10_taking_90 rfl ?_
      refine x_iconst (v := 0) dX10_taking_91 (by decide) ?_
      refine x_iast dX10_taking_92 sf_66 rfl (by omega) (by decide) ?_
      refine x_iconst (v := 0) dX10_taking_93 (by decide) ?_
      refine x_istore dX10_taking_94 (by decide) ?_
      exact fin
theorem tb_all {m : Nat} (hm : m ≤ 30) : ((1 : Int32) <<< (nI m &&& 31)) - 1 = nI (2 ^ m) - 1 := by rw [tb_sh (by omega)]
theorem c_m_taking {Z : List (Option Nat)} {ext : List Ds} {M : Mm} {mt sq : Nat} {W : Nat → Bool} (x : Int32) (hx : rg x 0 1 = true) (hm : M 48 4 = nI mt) (hb : mt ≤ 31) (hq : M 48 5 = nI sq) (hb2 : sq ≤ 20) (hL : ¬ Lf (M 49 32) (M 51) (M 54) (M 49 0) sq = 0) (hc : fsC (M 49 0) mt ≤ 12) (hW : okW (lefT (M 49 32) (M 51) (M 54) sq (M 49 0) (fsR (M 49 0) (M 63) mt) (fsC (M 49 0) mt)) (fsC (M 49 0) mt) W) :
    Ct mX10_taking [.ref 48, .int x] (SS Z ext) M (fun r M' => r = some (.int (vTaking (lefT (M 49 32) (M 51) (M 54) sq (M 49 0) (fsR (M 49 0) (M 63) mt) (fsC (M 49 0) mt)) W (fsR (M 49 0) (M 63) mt) (fsC (M 49 0) mt) x)) ∧ Eqm M M') := by
  refine Ct.of (by decide) (Nat.le_of_ble_eq_true rfl) ?_
  generalize hcm : fsC (M 49 0) mt = m at *
  generalize hso : fsR (M 49 0) (M 63) mt = so at *
  generalize hV : vTaking (lefT (M 49 32) (M 51) (M 54) sq (M 49 0) so m) W so m x = V
  have h35 : fsM M (M 49 0) mt 48 35 = nI m := by rw [← hcm]; rfl
  have h63 : fsM M (M 49 0) mt 63 = so := hso
  have fin := tk_loop (Z := Z) (ext := ext) (M := M) (M0 := fsM M (M 49 0) mt) (x := x) (all := nI (2 ^ m) - 1) hc h35 h63 rfl rfl rfl hq hb2 (fsM_eqm M (M 49 0) mt) hW hV (2 ^ m) (Nat.le_refl _) (M 67) (M 66) none (fun i h1 h2 => absurd h1 (by omega)) (fun i h1 h2 => absurd h1 (by omega))
  have e : taM (fsM M (M 49 0) mt) (M 67) (M 66) = fsM M (M 49 0) mt := by
    rw [taM, show M 67 = (fsM M (M 49 0) mt) 67 from rfl, upr_self, show M 66 = (fsM M (M 49 0) mt) 66 from rfl, upr_self]
  rw [e] at fin
  refine x_iload_n dX10_taking_0 rfl ?_
  refine x_i2l dX10_taking_1 ?_
  refine x_lconst (v := 0) dX10_taking_2 (by decide) ?_
  refine x_lconst (v := 1) dX10_taking_3 (by decide) ?_
  refine x_csd mf_X10_in ml_X10_134 dX10_taking_4 rfl ⟨by decide, by decide⟩ (Nat.le_of_ble_eq_true rfl) ⟨rfl, rfl⟩ ⟨Nat.le_of_ble_eq_true rfl, Nat.le_of_ble_eq_true rfl⟩ (c_m_rg (a := 0) (b := 1) (by decide) (by decide)) ?_
  refine x_ifb_ne 12 dX10_taking_7 (by decide) (fun _ => ?_) (fun hc_ => absurd (hc_.symm.trans (hx)) Bool.false_ne_true)
  refine x_aload_n dX10_taking_12 rfl ?_
  refine x_aload_n dX10_taking_13 rfl ?_
  refine x_getr fl_X10_7 dX10_taking_14 sf_48 rfl ?_
  refine x_iconst (v := 0) dX10_taking_17 (by decide) ?_
  refine x_iald (q := 0) dX10_taking_18 sf_49 (by decide) (by decide) (by decide) ?_
  refine x_cvd mf_X10_findSome ml_X10_272 dX10_taking_19 rfl sf_48 rfl ⟨by decide, by decide⟩ (Nat.le_of_ble_eq_true rfl) ⟨rfl, rfl⟩ ⟨Nat.le_of_ble_eq_true rfl, Nat.le_of_ble_eq_true rfl⟩ (c_m_findSome _ hm hb) ?_
  refine x_aload_n dX10_taking_22 rfl ?_
  refine x_aload_n dX10_taking_23 rfl ?_
  refine x_getr fl_X10_7 dX10_taking_24 sf_48 rfl ?_
  refine x_iconst (v := 0) dX10_taking_27 (by decide) ?_
  refine x_iald (q := 0) dX10_taking_28 sf_49 (by decide) (by decide) (by decide) ?_
  refine x_cvd mf_X10_leftOf ml_X10_221 dX10_taking_29 rfl sf_48 rfl ⟨by decide, by decide⟩ (Nat.le_of_ble_eq_true rfl) ⟨rfl, rfl⟩ ⟨Nat.le_of_ble_eq_true rfl, Nat.le_of_ble_eq_true rfl⟩ (c_m_leftOf (sq := sq) _ hq hb2) ?_
  refine x_if_eq 44 dX10_taking_32 (by decide) (fun hc_ => absurd hc_ (hL)) (fun _ => ?_)
  refine x_aload_n dX10_taking_35 rfl ?_
  refine x_geti fl_X10_267 dX10_taking_36 sf_48 rfl ?_
  refine x_bipush (v := 12) dX10_taking_39 (by decide) ?_
  refine x_icmp_le 47 dX10_taking_41 (by decide) (fun _ => ?_) (fun hc_ => absurd (by rw [h35]; exact nI_le (b := 12) hc (by decide)) hc_)
  refine x_iconst (v := 1) dX10_taking_47 (by decide) ?_
  refine x_aload_n dX10_taking_48 rfl ?_
  refine x_geti fl_X10_267 dX10_taking_49 sf_48 rfl ?_
  refine x_ishl dX10_taking_52 ?_
  refine x_iconst (v := 1) dX10_taking_53 (by decide) ?_
  refine x_isub dX10_taking_54 ?_
  rw [h35, tb_all (by omega)]
  refine x_istore_n dX10_taking_55 (by decide) ?_
  refine x_iload_n dX10_taking_56 rfl ?_
  refine x_istore_n dX10_taking_57 (by decide) ?_
  exact fin
