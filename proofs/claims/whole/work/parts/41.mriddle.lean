/-! ===== the reference: riddle ===== -/
def alo (n : Nat) : Int32 := fld (fun m a => a ||| ((1 : Int32) <<< (nI m &&& 31))) n 0
theorem c_m_allOutside {Z : List (Option Nat)} {ext : List Ds} {M : Mm} {mt : Nat} (hm : M 48 4 = nI mt) (hb : mt ≤ 31) : Ct mX10_allOutside [.ref 48] (SS Z ext) M (Rt (some (.int (alo mt &&& (M 49 0 ^^^ (-1))))) M) := by
  refine Ct.of (by decide) (Nat.le_of_ble_eq_true rfl) ?_
  refine x_iconst (v := 0) dX10_allOutside_0 (by decide) ?_
  refine x_istore_n dX10_allOutside_1 (by decide) ?_
  refine x_iconst (v := 0) dX10_allOutside_2 (by decide) ?_
  refine x_istore_n dX10_allOutside_3 (by decide) ?_
  refine lup (P := fun k => XW _ _ 0 0 (SS Z ext) M 4 [some (.ref 48), some (.int (alo k)), some (.int (nI k))] []) (N := mt) ?_ ?_ 0 (by omega)
  · refine x_iload_n dX10_allOutside_4 rfl ?_
    refine x_aload_n dX10_allOutside_5 rfl ?_
    refine x_geti fl_X10_123 dX10_allOutside_6 sf_48 rfl ?_
    refine x_icmp_ge 24 dX10_allOutside_9 (by decide) (fun _ => ?_) (fun hc_ => absurd (by rw [hm]; exact nI_le (Nat.le_refl _) (by omega)) hc_)
    refine x_iload_n dX10_allOutside_24 rfl ?_
    refine x_aload_n dX10_allOutside_25 rfl ?_
    refine x_getr fl_X10_7 dX10_allOutside_26 sf_48 rfl ?_
    refine x_iconst (v := 0) dX10_allOutside_29 (by decide) ?_
    refine x_iald (q := 0) dX10_allOutside_30 sf_49 (by decide) (by decide) (by decide) ?_
    refine x_iconst (v := -1) dX10_allOutside_31 (by decide) ?_
    refine x_ixor dX10_allOutside_32 ?_
    refine x_iand dX10_allOutside_33 ?_
    exact x_iret dX10_allOutside_34 rfl rfl (Nat.le_refl _) (Nat.le_refl _) ⟨rfl, ⟨rfl, rfl⟩⟩
  · intro k hk ih
    rw [nI_succ] at ih
    refine x_iload_n dX10_allOutside_4 rfl ?_
    refine x_aload_n dX10_allOutside_5 rfl ?_
    refine x_geti fl_X10_123 dX10_allOutside_6 sf_48 rfl ?_
    refine x_icmp_ge 24 dX10_allOutside_9 (by decide) (fun hc_ => absurd hc_ (by rw [hm]; exact nI_ge hk (by omega))) (fun _ => ?_)
    refine x_iload_n dX10_allOutside_12 rfl ?_
    refine x_iconst (v := 1) dX10_allOutside_13 (by decide) ?_
    refine x_iload_n dX10_allOutside_14 rfl ?_
    refine x_ishl dX10_allOutside_15 ?_
    refine x_ior dX10_allOutside_16 ?_
    refine x_istore_n dX10_allOutside_17 (by decide) ?_
    refine x_iinc1 dX10_allOutside_18 rfl (by decide) ?_
    refine x_goto 4 dX10_allOutside_21 (by decide) ?_
    exact ih
/-- a row that begins with a list -/
def rowL (l : List Int32) (f : Nat → Int32) : Nat → Int32 := fun j => if j < l.length then l.getD j 0 else f j
theorem rowL_0 (f : Nat → Int32) : rowL [] f = f := by funext j; simp [rowL]
theorem rowL_push (l : List Int32) (s : Int32) (f : Nat → Int32) : upd (rowL l f) l.length s = rowL (l ++ [s]) f := by
  funext j
  unfold upd rowL
  by_cases h : j = l.length
  · subst h; simp
  · by_cases h2 : j < l.length
    · simp [h, h2, show j < l.length + 1 by omega, List.getElem?_append_left h2]
    · simp [h, show ¬ j < l.length + 1 by omega, h2]
theorem rowL_at {l : List Int32} {f : Nat → Int32} {j : Nat} (h : j < l.length) : rowL l f j = l.getD j 0 := by simp [rowL, h]
theorem Lx_len1 (b : Nat → Int32) (m : Nat) : ∀ (d : Nat) (s : Int32), (Lx b m 1 d s).length = d
  | 0, s => rfl
  | d + 1, s => by
    rw [Lx, List.length_append, Lx_len1 b m d s]
    cases d <;> simp [Lx] <;> omega
theorem Lx_len2 (b : Nat → Int32) (m : Nat) : ∀ (d : Nat) (s : Int32), 2 * (Lx b m 2 d s).length + d = d * d
  | 0, s => rfl
  | d + 1, s => by
    have h : 2 * (Lx b m (1 + 1) d s).length + d = d * d := Lx_len2 b m d s
    rw [Lx, List.length_append, Lx_len1 b m d]
    rw [Nat.mul_add, Nat.mul_add, Nat.add_mul]
    omega
theorem Lx_465 (b : Nat → Int32) {m n : Nat} (s : Int32) (hm : m ≤ 31) (h1 : 1 ≤ n) (h2 : n ≤ 2) : (Lx b m n m s).length ≤ 465 := by
  rcases (show n = 1 ∨ n = 2 by omega) with rfl | rfl
  · rw [Lx_len1]; omega
  · have h := Lx_len2 b m m s
    have h3 : m * m ≤ 31 * m := Nat.mul_le_mul_right m hm
    omega
def ris (acc : Int32 × Int32 × Int32) (t s : Int32) : Bool := decide (acc.1 = 0) || decide (t < acc.2.1) || (decide (t = acc.2.1) && decide (s < acc.2.2))
def rid (C : Int32) (sz rm : Nat → Int32) (sq : Nat) (L k t : Int32) (acc : Int32 × Int32 × Int32) (s : Int32) : Int32 × Int32 × Int32 := if decide (Lf C sz rm ((L &&& (t ^^^ (-1))) ||| s) sq = k) then (acc.1 + 1, if ris acc t s then t else acc.2.1, if ris acc t s then s else acc.2.2) else acc
def vRid (acc : Int32 × Int32 × Int32) (x : Int32) : Int32 := if decide (x = 0) then acc.1 else if decide (x = 1) then acc.2.1 else acc.2.2
def rAll (C : Int32) (sz rm : Nat → Int32) (sq : Nat) (L k : Int32) (T R : List Int32) : Int32 × Int32 × Int32 := T.foldl (fun acc t => R.foldl (rid C sz rm sq L k t) acc) (0, -4, -4)
set_option maxRecDepth 100000 in
theorem rid_body {Z : List (Option Nat)} {ext : List Ds} {M M2 : Mm} {V k x tt : Int32} {T : List Int32} {so2 : Nat → Int32} {n m2 t sq : Nat} (hn2 : n ≤ 2) (hle2 : m2 ≤ 31) (ht : t < T.length) (hT465 : T.length ≤ 465) (k63 : M2 63 = so2) (k49 : M2 49 = M 49) (k51 : M2 51 = M 51) (k54 : M2 54 = M 54) (k65t : M2 65 t = tt) (kq : M2 48 5 = nI sq) (hb2 : sq ≤ 20) :
    ∀ (a : Nat → Nat) (acc : Int32 × Int32 × Int32) (l10 l11 : Option Value) (f2 : Nat → Int32), okA m2 n a → n ≤ m2 → (∀ l11, XW mX10_riddle (Fc mX10_riddle (fun r S' M' => S' = SS Z ext ∧ r = some (.int V) ∧ Eqm M M')) 0 0 (SS Z ext) (upr M2 64 (atr n a f2)) 268 [some (.ref 48), some (.int (nI n)), some (.int k), some (.int x), some (.int (nI T.length)), some (.int 1), some (.int (rid (M 49 32) (M 51) (M 54) sq (M 49 0) k tt acc (sna (bo so2) a n)).1), some (.int (rid (M 49 32) (M 51) (M 54) sq (M 49 0) k tt acc (sna (bo so2) a n)).2.1), some (.int (rid (M 49 32) (M 51) (M 54) sq (M 49 0) k tt acc (sna (bo so2) a n)).2.2), some (.int (nI t)), some (.int (sna (bo so2) a n)), l11] []) → XW mX10_riddle (Fc mX10_riddle (fun r S' M' => S' = SS Z ext ∧ r = some (.int V) ∧ Eqm M M')) 0 0 (SS Z ext) (upr M2 64 (atr n a f2)) 150 [some (.ref 48), some (.int (nI n)), some (.int k), some (.int x), some (.int (nI T.length)), some (.int 1), some (.int acc.1), some (.int acc.2.1), some (.int acc.2.2), some (.int (nI t)), l10, l11] [] := by

  intro a acc l10 l11 f2 ha hc2 fin3
  rw [← k49, ← k51, ← k54, ← k63] at fin3
  rw [rid] at fin3
  by_cases hl : Lf (M2 49 32) (M2 51) (M2 54) ((M2 49 0 &&& (tt ^^^ (-1))) ||| sna (bo (M2 63)) a n) sq = k
  · rw [if_pos (decide_eq_true hl)] at fin3
    refine x_join (upr M2 64 (atr n a f2)) 230 [some (.ref 48), some (.int (nI n)), some (.int k), some (.int x), some (.int (nI T.length)), some (.int 1), some (.int acc.1), some (.int acc.2.1), some (.int acc.2.2), some (.int (nI t)), some (.int (sna (bo (M2 63)) a n)), l11] [.int (b2i (ris acc tt (sna (bo (M2 63)) a n)))] ?_ (fun fin4 => ?_)
    · cases hris : ris acc tt (sna (bo (M2 63)) a n) with
      | true =>
        rw [hris] at fin3
        refine x_istore dX10_riddle_230 (by decide) ?_
        refine x_iload dX10_riddle_232 rfl ?_
        refine x_if_eq 247 dX10_riddle_234 (by decide) (fun hc_ => absurd hc_ (by decide)) (fun _ => ?_)
        refine x_aload_n dX10_riddle_237 rfl ?_
        refine x_getr fl_X10_59 dX10_riddle_238 sf_48 rfl ?_
        refine x_iload dX10_riddle_241 rfl ?_
        refine x_iald dX10_riddle_243 sf_65 rfl (by omega) (by decide) ?_
        refine x_goto 249 dX10_riddle_244 (by decide) ?_
        rw [show (upr M2 64 (atr n a f2)) 65 t = tt from k65t]
        refine x_istore dX10_riddle_249 (by decide) ?_
        refine x_iload dX10_riddle_251 rfl ?_
        refine x_if_eq 261 dX10_riddle_253 (by decide) (fun hc_ => absurd hc_ (by decide)) (fun _ => ?_)
        refine x_iload dX10_riddle_256 rfl ?_
        refine x_goto 263 dX10_riddle_258 (by decide) ?_
        refine x_istore dX10_riddle_263 (by decide) ?_
        refine x_iinc1 dX10_riddle_265 rfl (by decide) ?_
        exact fin3 _
      | false =>
        rw [hris] at fin3
        refine x_istore dX10_riddle_230 (by decide) ?_
        refine x_iload dX10_riddle_232 rfl ?_
        refine x_if_eq 247 dX10_riddle_234 (by decide) (fun _ => ?_) (fun hc_ => absurd (rfl) hc_)
        refine x_iload dX10_riddle_247 rfl ?_
        refine x_istore dX10_riddle_249 (by decide) ?_
        refine x_iload dX10_riddle_251 rfl ?_
        refine x_if_eq 261 dX10_riddle_253 (by decide) (fun _ => ?_) (fun hc_ => absurd (rfl) hc_)
        refine x_iload dX10_riddle_261 rfl ?_
        refine x_istore dX10_riddle_263 (by decide) ?_
        refine x_iinc1 dX10_riddle_265 rfl (by decide) ?_
        exact fin3 _
    · rw [ris] at fin4
      refine x_iload dX10_riddle_150 rfl ?_
      refine x_if_eq 278 dX10_riddle_152 (by decide) (fun hc_ => absurd hc_ (by decide)) (fun _ => ?_)
      refine x_aload_n dX10_riddle_155 rfl ?_
      refine x_iload_n dX10_riddle_156 rfl ?_
      refine x_cvd mf_X10_setNow ml_X10_278 dX10_riddle_157 rfl sf_48 rfl ⟨by decide, by decide⟩ (Nat.le_of_ble_eq_true rfl) ⟨rfl, rfl⟩ ⟨Nat.le_of_ble_eq_true rfl, Nat.le_of_ble_eq_true rfl⟩ (c_m_setNow n a (by omega) (okA_lt ha hc2 hle2) (fun j hj => atr_in hj)) ?_
      rw [show snw ((upr M2 64 (atr n a f2)) 63) a n = sna (bo (M2 63)) a n from rfl]
      refine x_istore dX10_riddle_160 (by decide) ?_
      refine x_aload_n dX10_riddle_162 rfl ?_
      refine x_aload_n dX10_riddle_163 rfl ?_
      refine x_getr fl_X10_7 dX10_riddle_164 sf_48 rfl ?_
      refine x_iconst (v := 0) dX10_riddle_167 (by decide) ?_
      refine x_iald (q := 0) dX10_riddle_168 sf_49 (by decide) (by decide) (by decide) ?_
      refine x_aload_n dX10_riddle_169 rfl ?_
      refine x_getr fl_X10_59 dX10_riddle_170 sf_48 rfl ?_
      refine x_iload dX10_riddle_173 rfl ?_
      refine x_iald dX10_riddle_175 sf_65 rfl (by omega) (by decide) ?_
      rw [show (upr M2 64 (atr n a f2)) 65 t = tt from k65t]
      refine x_iconst (v := -1) dX10_riddle_176 (by decide) ?_
      refine x_ixor dX10_riddle_177 ?_
      refine x_iand dX10_riddle_178 ?_
      refine x_iload dX10_riddle_179 rfl ?_
      refine x_ior dX10_riddle_181 ?_
      refine x_cvd mf_X10_leftOf ml_X10_221 dX10_riddle_182 rfl sf_48 rfl ⟨by decide, by decide⟩ (Nat.le_of_ble_eq_true rfl) ⟨rfl, rfl⟩ ⟨Nat.le_of_ble_eq_true rfl, Nat.le_of_ble_eq_true rfl⟩ (c_m_leftOf (sq := sq) _ kq hb2) ?_
      refine x_iload_n dX10_riddle_185 rfl ?_
      refine x_icmp_ne 268 dX10_riddle_186 (by decide) (fun hc_ => absurd (hl) hc_) (fun _ => ?_)
      refine x_iload dX10_riddle_189 rfl ?_
      refine x_if_eq 225 dX10_riddle_191 (by decide) (fun h191 => ?_) (fun h191 => ?_)
      · refine x_iconst (v := 1) dX10_riddle_225 (by decide) ?_
        refine x_goto 230 dX10_riddle_226 (by decide) ?_
        first | (rw [decide_eq_true h191] at fin4; exact fin4) | (rw [decide_eq_false h191, decide_eq_true h203] at fin4; exact fin4) | (rw [decide_eq_false h191, decide_eq_false h203, decide_eq_false h215] at fin4; exact fin4) | (rw [decide_eq_false h191, decide_eq_false h203, decide_eq_true h215, decide_eq_true (fa_of_nle h222)] at fin4; exact fin4) | (rw [decide_eq_false h191, decide_eq_false h203, decide_eq_true h215, decide_eq_false (show ¬ _ < _ from fun q => absurd h222 (by rw [fa_le]; rw [fa_lt] at q; omega))] at fin4; exact fin4)
      · refine x_aload_n dX10_riddle_194 rfl ?_
        refine x_getr fl_X10_59 dX10_riddle_195 sf_48 rfl ?_
        refine x_iload dX10_riddle_198 rfl ?_
        refine x_iald dX10_riddle_200 sf_65 rfl (by omega) (by decide) ?_
        rw [show (upr M2 64 (atr n a f2)) 65 t = tt from k65t]
        refine x_iload dX10_riddle_201 rfl ?_
        refine x_icmp_lt 225 dX10_riddle_203 (by decide) (fun h203 => ?_) (fun h203 => ?_)
        · refine x_iconst (v := 1) dX10_riddle_225 (by decide) ?_
          refine x_goto 230 dX10_riddle_226 (by decide) ?_
          first | (rw [decide_eq_true h191] at fin4; exact fin4) | (rw [decide_eq_false h191, decide_eq_true h203] at fin4; exact fin4) | (rw [decide_eq_false h191, decide_eq_false h203, decide_eq_false h215] at fin4; exact fin4) | (rw [decide_eq_false h191, decide_eq_false h203, decide_eq_true h215, decide_eq_true (fa_of_nle h222)] at fin4; exact fin4) | (rw [decide_eq_false h191, decide_eq_false h203, decide_eq_true h215, decide_eq_false (show ¬ _ < _ from fun q => absurd h222 (by rw [fa_le]; rw [fa_lt] at q; omega))] at fin4; exact fin4)
        · refine x_aload_n dX10_riddle_206 rfl ?_
          refine x_getr fl_X10_59 dX10_riddle_207 sf_48 rfl ?_
          refine x_iload dX10_riddle_210 rfl ?_
          refine x_iald dX10_riddle_212 sf_65 rfl (by omega) (by decide) ?_
          rw [show (upr M2 64 (atr n a f2)) 65 t = tt from k65t]
          refine x_iload dX10_riddle_213 rfl ?_
          refine x_icmp_ne 229 dX10_riddle_215 (by decide) (fun h215 => ?_) (fun h215 => ?_)
          · refine x_iconst (v := 0) dX10_riddle_229 (by decide) ?_
            first | (rw [decide_eq_true h191] at fin4; exact fin4) | (rw [decide_eq_false h191, decide_eq_true h203] at fin4; exact fin4) | (rw [decide_eq_false h191, decide_eq_false h203, decide_eq_false h215] at fin4; exact fin4) | (rw [decide_eq_false h191, decide_eq_false h203, decide_eq_true h215, decide_eq_true (fa_of_nle h222)] at fin4; exact fin4) | (rw [decide_eq_false h191, decide_eq_false h203, decide_eq_true h215, decide_eq_false (show ¬ _ < _ from fun q => absurd h222 (by rw [fa_le]; rw [fa_lt] at q; omega))] at fin4; exact fin4)
          · refine x_iload dX10_riddle_218 rfl ?_
            refine x_iload dX10_riddle_220 rfl ?_
            refine x_icmp_ge 229 dX10_riddle_222 (by decide) (fun h222 => ?_) (fun h222 => ?_)
            · refine x_iconst (v := 0) dX10_riddle_229 (by decide) ?_
              first | (rw [decide_eq_true h191] at fin4; exact fin4) | (rw [decide_eq_false h191, decide_eq_true h203] at fin4; exact fin4) | (rw [decide_eq_false h191, decide_eq_false h203, decide_eq_false h215] at fin4; exact fin4) | (rw [decide_eq_false h191, decide_eq_false h203, decide_eq_true h215, decide_eq_true (fa_of_nle h222)] at fin4; exact fin4) | (rw [decide_eq_false h191, decide_eq_false h203, decide_eq_true h215, decide_eq_false (show ¬ _ < _ from fun q => absurd h222 (by rw [fa_le]; rw [fa_lt] at q; omega))] at fin4; exact fin4)
            · refine x_iconst (v := 1) dX10_riddle_225 (by decide) ?_
              refine x_goto 230 dX10_riddle_226 (by decide) ?_
              first | (rw [decide_eq_true h191] at fin4; exact fin4) | (rw [decide_eq_false h191, decide_eq_true h203] at fin4; exact fin4) | (rw [decide_eq_false h191, decide_eq_false h203, decide_eq_false h215] at fin4; exact fin4) | (rw [decide_eq_false h191, decide_eq_false h203, decide_eq_true h215, decide_eq_true (fa_of_nle h222)] at fin4; exact fin4) | (rw [decide_eq_false h191, decide_eq_false h203, decide_eq_true h215, decide_eq_false (show ¬ _ < _ from fun q => absurd h222 (by rw [fa_le]; rw [fa_lt] at q; omega))] at fin4; exact fin4)
  · rw [if_neg (by rw [decide_eq_false hl]; decide)] at fin3
    refine x_iload dX10_riddle_150 rfl ?_
    refine x_if_eq 278 dX10_riddle_152 (by decide) (fun hc_ => absurd hc_ (by decide)) (fun _ => ?_)
    refine x_aload_n dX10_riddle_155 rfl ?_
    refine x_iload_n dX10_riddle_156 rfl ?_
    refine x_cvd mf_X10_setNow ml_X10_278 dX10_riddle_157 rfl sf_48 rfl ⟨by decide, by decide⟩ (Nat.le_of_ble_eq_true rfl) ⟨rfl, rfl⟩ ⟨Nat.le_of_ble_eq_true rfl, Nat.le_of_ble_eq_true rfl⟩ (c_m_setNow n a (by omega) (okA_lt ha hc2 hle2) (fun j hj => atr_in hj)) ?_
    rw [show snw ((upr M2 64 (atr n a f2)) 63) a n = sna (bo (M2 63)) a n from rfl]
    refine x_istore dX10_riddle_160 (by decide) ?_
    refine x_aload_n dX10_riddle_162 rfl ?_
    refine x_aload_n dX10_riddle_163 rfl ?_
    refine x_getr fl_X10_7 dX10_riddle_164 sf_48 rfl ?_
    refine x_iconst (v := 0) dX10_riddle_167 (by decide) ?_
    refine x_iald (q := 0) dX10_riddle_168 sf_49 (by decide) (by decide) (by decide) ?_
    refine x_aload_n dX10_riddle_169 rfl ?_
    refine x_getr fl_X10_59 dX10_riddle_170 sf_48 rfl ?_
    refine x_iload dX10_riddle_173 rfl ?_
    refine x_iald dX10_riddle_175 sf_65 rfl (by omega) (by decide) ?_
    rw [show (upr M2 64 (atr n a f2)) 65 t = tt from k65t]
    refine x_iconst (v := -1) dX10_riddle_176 (by decide) ?_
    refine x_ixor dX10_riddle_177 ?_
    refine x_iand dX10_riddle_178 ?_
    refine x_iload dX10_riddle_179 rfl ?_
    refine x_ior dX10_riddle_181 ?_
    refine x_cvd mf_X10_leftOf ml_X10_221 dX10_riddle_182 rfl sf_48 rfl ⟨by decide, by decide⟩ (Nat.le_of_ble_eq_true rfl) ⟨rfl, rfl⟩ ⟨Nat.le_of_ble_eq_true rfl, Nat.le_of_ble_eq_true rfl⟩ (c_m_leftOf (sq := sq) _ kq hb2) ?_
    refine x_iload_n dX10_riddle_185 rfl ?_
    refine x_icmp_ne 268 dX10_riddle_186 (by decide) (fun _ => ?_) (fun hc_ => absurd hc_ (hl))
    exact fin3 _

set_option maxRecDepth 100000 in
theorem rid_outer {Z : List (Option Nat)} {ext : List Ds} {M M2 : Mm} {V k x : Int32} {T Rr : List Int32} {so2 g : Nat → Int32} {n m2 sq : Nat} (hn1 : 1 ≤ n) (hn2 : n ≤ 2) (hle2 : m2 ≤ 31) (hT465 : T.length ≤ 465) (hR : Lx (bo so2) m2 n m2 0 = Rr) (hV : vRid (rAll (M 49 32) (M 51) (M 54) sq (M 49 0) k T Rr) x = V) (k63 : M2 63 = so2) (k35 : M2 48 35 = nI m2) (k49 : M2 49 = M 49) (k51 : M2 51 = M 51) (k54 : M2 54 = M 54) (k65 : M2 65 = rowL T g) (kq : M2 48 5 = nI sq) (kE : Eqm M M2) (hb2 : sq ≤ 20) :
    ∀ (r2 : Nat → Int32) (l5 l10 l11 : Option Value), XW mX10_riddle (Fc mX10_riddle (fun r S' M' => S' = SS Z ext ∧ r = some (.int V) ∧ Eqm M M')) 0 0 (SS Z ext) (upr M2 64 r2) 123 [some (.ref 48), some (.int (nI n)), some (.int k), some (.int x), some (.int (nI T.length)), l5, some (.int 0), some (.int (-4)), some (.int (-4)), some (.int (nI 0)), l10, l11] [] := by

  refine lup (P := fun t => ∀ (r2 : Nat → Int32) (l5 l10 l11 : Option Value), XW mX10_riddle (Fc mX10_riddle (fun r S' M' => S' = SS Z ext ∧ r = some (.int V) ∧ Eqm M M')) 0 0 (SS Z ext) (upr M2 64 r2) 123 [some (.ref 48), some (.int (nI n)), some (.int k), some (.int x), some (.int (nI T.length)), l5, some (.int (rAll (M 49 32) (M 51) (M 54) sq (M 49 0) k (T.take t) Rr).1), some (.int (rAll (M 49 32) (M 51) (M 54) sq (M 49 0) k (T.take t) Rr).2.1), some (.int (rAll (M 49 32) (M 51) (M 54) sq (M 49 0) k (T.take t) Rr).2.2), some (.int (nI t)), l10, l11] []) (N := T.length) ?_ ?_ 0 (by omega)
  · intro r2 l5 l10 l11
    rw [List.take_length]
    refine x_iload dX10_riddle_123 rfl ?_
    refine x_iload dX10_riddle_125 rfl ?_
    refine x_icmp_ge 284 dX10_riddle_127 (by decide) (fun _ => ?_) (fun hc_ => absurd (nI_le (Nat.le_refl _) (by omega)) hc_)
    refine x_iload_n dX10_riddle_284 rfl ?_
    refine x_if_ne 293 dX10_riddle_285 (by decide) (fun h285 => ?_) (fun h285 => ?_)
    · refine x_iload_n dX10_riddle_293 rfl ?_
      refine x_iconst (v := 1) dX10_riddle_294 (by decide) ?_
      refine x_icmp_ne 303 dX10_riddle_295 (by decide) (fun h295 => ?_) (fun h295 => ?_)
      · refine x_iload dX10_riddle_303 rfl ?_
        exact x_iret dX10_riddle_305 rfl rfl (Nat.le_refl _) (Nat.le_refl _) ⟨rfl, ⟨by rw [← hV]; first | (exact oi (by rw [vRid, decide_eq_true h285]; rfl)) | (exact oi (by rw [vRid, decide_eq_false h285, decide_eq_true h295]; rfl)) | (exact oi (by rw [vRid, decide_eq_false h285, decide_eq_false h295]; rfl)), kE.ur (fun _ => rfl)⟩⟩
      · refine x_iload dX10_riddle_298 rfl ?_
        refine x_goto 305 dX10_riddle_300 (by decide) ?_
        exact x_iret dX10_riddle_305 rfl rfl (Nat.le_refl _) (Nat.le_refl _) ⟨rfl, ⟨by rw [← hV]; first | (exact oi (by rw [vRid, decide_eq_true h285]; rfl)) | (exact oi (by rw [vRid, decide_eq_false h285, decide_eq_true h295]; rfl)) | (exact oi (by rw [vRid, decide_eq_false h285, decide_eq_false h295]; rfl)), kE.ur (fun _ => rfl)⟩⟩
    · refine x_iload dX10_riddle_288 rfl ?_
      refine x_goto 305 dX10_riddle_290 (by decide) ?_
      exact x_iret dX10_riddle_305 rfl rfl (Nat.le_refl _) (Nat.le_refl _) ⟨rfl, ⟨by rw [← hV]; first | (exact oi (by rw [vRid, decide_eq_true h285]; rfl)) | (exact oi (by rw [vRid, decide_eq_false h285, decide_eq_true h295]; rfl)) | (exact oi (by rw [vRid, decide_eq_false h285, decide_eq_false h295]; rfl)), kE.ur (fun _ => rfl)⟩⟩
  · intro t ht ih r2 l5 l10 l11
    have hTt : rowL T g t = T.getD t 0 := rowL_at ht
    have htake : T.take (t + 1) = T.take t ++ [T.getD t 0] := by
      rw [List.take_succ]
      simp [List.getD, List.getElem?_eq_getElem ht]
    rw [htake] at ih
    have hacc : rAll (M 49 32) (M 51) (M 54) sq (M 49 0) k (T.take t ++ [T.getD t 0]) Rr = Rr.foldl (rid (M 49 32) (M 51) (M 54) sq (M 49 0) k (T.getD t 0)) (rAll (M 49 32) (M 51) (M 54) sq (M 49 0) k (T.take t) Rr) := by
      rw [rAll, List.foldl_append]; rfl
    rw [hacc] at ih
    generalize rAll (M 49 32) (M 51) (M 54) sq (M 49 0) k (T.take t) Rr = acc0 at ih ⊢
    generalize htg : T.getD t 0 = tt at hTt ih
    have k65t : M2 65 t = tt := by rw [k65, hTt]
    generalize hend : Rr.foldl (rid (M 49 32) (M 51) (M 54) sq (M 49 0) k tt) acc0 = accE at ih
    have fin2 : ∀ (r2 : Nat → Int32) (l10 l11 : Option Value), XW mX10_riddle (Fc mX10_riddle (fun r S' M' => S' = SS Z ext ∧ r = some (.int V) ∧ Eqm M M')) 0 0 (SS Z ext) (upr M2 64 r2) 150 [some (.ref 48), some (.int (nI n)), some (.int k), some (.int x), some (.int (nI T.length)), some (.int 0), some (.int accE.1), some (.int accE.2.1), some (.int accE.2.2), some (.int (nI t)), l10, l11] [] := by
      intro r2 l10 l11
      have ih := ih r2 (some (.int 0)) l10 l11
      rw [nI_succ] at ih
      refine x_iload dX10_riddle_150 rfl ?_
      refine x_if_eq 278 dX10_riddle_152 (by decide) (fun _ => ?_) (fun hc_ => absurd (rfl) hc_)
      refine x_iinc1 dX10_riddle_278 rfl (by decide) ?_
      refine x_goto 123 dX10_riddle_281 (by decide) ?_
      exact ih
    have body := rid_body (Z := Z) (ext := ext) (M := M) (V := V) (k := k) (x := x) (T := T) (t := t) hn2 hle2 ht hT465 k63 k49 k51 k54 k65t kq hb2
    by_cases hc2 : n ≤ m2
    · rw [← hR, ← Rm_first _ hc2] at hend
      have loop2 : ∀ (f2 : Nat → Int32) (a : Nat → Nat), okA m2 n a → ∀ (acc : Int32 × Int32 × Int32) (l10 l11 : Option Value), (sna (bo so2) a n :: Rm (bo so2) m2 n a n).foldl (rid (M 49 32) (M 51) (M 54) sq (M 49 0) k tt) acc = accE → XW mX10_riddle (Fc mX10_riddle (fun r S' M' => S' = SS Z ext ∧ r = some (.int V) ∧ Eqm M M')) 0 0 (SS Z ext) (upr M2 64 (atr n a f2)) 150 [some (.ref 48), some (.int (nI n)), some (.int k), some (.int x), some (.int (nI T.length)), some (.int 1), some (.int acc.1), some (.int acc.2.1), some (.int acc.2.2), some (.int (nI t)), l10, l11] [] := by
        intro f2
        refine enumI (bo so2) hc2 (P := fun a l => ∀ (acc : Int32 × Int32 × Int32) (l10 l11 : Option Value), (sna (bo so2) a n :: l).foldl (rid (M 49 32) (M 51) (M 54) sq (M 49 0) k tt) acc = accE → XW mX10_riddle (Fc mX10_riddle (fun r S' M' => S' = SS Z ext ∧ r = some (.int V) ∧ Eqm M M')) 0 0 (SS Z ext) (upr M2 64 (atr n a f2)) 150 [some (.ref 48), some (.int (nI n)), some (.int k), some (.int x), some (.int (nI T.length)), some (.int 1), some (.int acc.1), some (.int acc.2.1), some (.int acc.2.2), some (.int (nI t)), l10, l11] []) ?_ ?_
        · intro a ha hK acc l10 l11 hacc
          refine body a acc l10 l11 f2 ha hc2 (fun l11 => ?_)
          rw [show rid (M 49 32) (M 51) (M 54) sq (M 49 0) k tt acc (sna (bo so2) a n) = accE from hacc]
          refine x_aload_n dX10_riddle_268 rfl ?_
          refine x_iload_n dX10_riddle_269 rfl ?_
          refine x_cvd mf_X10_nextOf ml_X10_281 dX10_riddle_270 rfl sf_48 rfl ⟨by decide, by decide⟩ (Nat.le_of_ble_eq_true rfl) ⟨rfl, rfl⟩ ⟨Nat.le_of_ble_eq_true rfl, Nat.le_of_ble_eq_true rfl⟩ (c_m_next0 (f := f2) (by omega) hc2 hle2 ha k35 rfl hK) ?_
          refine x_istore dX10_riddle_273 (by decide) ?_
          refine x_goto 150 dX10_riddle_275 (by decide) ?_
          exact fin2 _ _ _
        · intro a K ha hK hok ih2 acc l10 l11 hacc
          refine body a acc l10 l11 f2 ha hc2 (fun l11 => ?_)
          have ih2 := ih2 (rid (M 49 32) (M 51) (M 54) sq (M 49 0) k tt acc (sna (bo so2) a n)) (some (.int (sna (bo so2) a n))) l11 hacc
          refine x_aload_n dX10_riddle_268 rfl ?_
          refine x_iload_n dX10_riddle_269 rfl ?_
          refine x_cvd mf_X10_nextOf ml_X10_281 dX10_riddle_270 rfl sf_48 rfl ⟨by decide, by decide⟩ (Nat.le_of_ble_eq_true rfl) ⟨rfl, rfl⟩ ⟨Nat.le_of_ble_eq_true rfl, Nat.le_of_ble_eq_true rfl⟩ (c_m_next1 (f := f2) (by omega) hc2 hle2 ha k35 rfl hK) ?_
          refine x_istore dX10_riddle_273 (by decide) ?_
          refine x_goto 150 dX10_riddle_275 (by decide) ?_
          rw [upr_upr]
          exact ih2
      refine x_iload dX10_riddle_123 rfl ?_
      refine x_iload dX10_riddle_125 rfl ?_
      refine x_icmp_ge 284 dX10_riddle_127 (by decide) (fun hc_ => absurd hc_ (nI_ge ht (by omega))) (fun _ => ?_)
      refine x_aload_n dX10_riddle_130 rfl ?_
      refine x_iload_n dX10_riddle_131 rfl ?_
      refine x_cvd mf_X10_firstOf ml_X10_275 dX10_riddle_132 rfl sf_48 rfl ⟨by decide, by decide⟩ (Nat.le_of_ble_eq_true rfl) ⟨rfl, rfl⟩ ⟨Nat.le_of_ble_eq_true rfl, Nat.le_of_ble_eq_true rfl⟩ (c_m_firstOf n (by omega)) ?_
      rw [upr_upr]
      refine x_aload_n dX10_riddle_135 rfl ?_
      refine x_geti fl_X10_267 dX10_riddle_136 sf_48 rfl ?_
      refine x_iload_n dX10_riddle_139 rfl ?_
      refine x_icmp_lt 147 dX10_riddle_140 (by decide) (fun hc_ => absurd hc_ (by show ¬ M2 48 35 < nI n; rw [k35]; exact nI_nlt hc2 (by omega))) (fun _ => ?_)
      refine x_iconst (v := 1) dX10_riddle_143 (by decide) ?_
      refine x_goto 148 dX10_riddle_144 (by decide) ?_
      refine x_istore dX10_riddle_148 (by decide) ?_
      exact loop2 _ (fun j => j) ok_first acc0 _ _ hend
    · rw [← hR, Lx_nil _ _ _ _ _ (by omega)] at hend
      rw [List.foldl_nil] at hend
      subst hend
      refine x_iload dX10_riddle_123 rfl ?_
      refine x_iload dX10_riddle_125 rfl ?_
      refine x_icmp_ge 284 dX10_riddle_127 (by decide) (fun hc_ => absurd hc_ (nI_ge ht (by omega))) (fun _ => ?_)
      refine x_aload_n dX10_riddle_130 rfl ?_
      refine x_iload_n dX10_riddle_131 rfl ?_
      refine x_cvd mf_X10_firstOf ml_X10_275 dX10_riddle_132 rfl sf_48 rfl ⟨by decide, by decide⟩ (Nat.le_of_ble_eq_true rfl) ⟨rfl, rfl⟩ ⟨Nat.le_of_ble_eq_true rfl, Nat.le_of_ble_eq_true rfl⟩ (c_m_firstOf n (by omega)) ?_
      rw [upr_upr]
      refine x_aload_n dX10_riddle_135 rfl ?_
      refine x_geti fl_X10_267 dX10_riddle_136 sf_48 rfl ?_
      refine x_iload_n dX10_riddle_139 rfl ?_
      refine x_icmp_lt 147 dX10_riddle_140 (by decide) (fun _ => ?_) (fun hc_ => absurd (by show M2 48 35 < nI n; rw [k35]; exact nI_lt (by omega) (by omega)) hc_)
      refine x_iconst (v := 0) dX10_riddle_147 (by decide) ?_
      refine x_istore dX10_riddle_148 (by decide) ?_
      exact fin2 _ _ _

set_option maxRecDepth 100000 in
theorem rid_second {Z : List (Option Nat)} {ext : List Ds} {M M0 : Mm} {V k x : Int32} {T Rr : List Int32} {so so2 g : Nat → Int32} {n m2 mt sq : Nat} (hn1 : 1 ≤ n) (hn2 : n ≤ 2) (hle2 : m2 ≤ 31) (hT465 : T.length ≤ 465) (hcm2 : fsC (alo mt &&& (M 49 0 ^^^ (-1))) mt = m2) (hso2 : fsR (alo mt &&& (M 49 0 ^^^ (-1))) so mt = so2) (hR : Lx (bo so2) m2 n m2 0 = Rr) (hV : vRid (rAll (M 49 32) (M 51) (M 54) sq (M 49 0) k T Rr) x = V) (h63 : M0 63 = so) (h49 : M0 49 = M 49) (h51 : M0 51 = M 51) (h54 : M0 54 = M 54) (hq0 : M0 48 5 = nI sq) (hm0 : M0 48 4 = nI mt) (hE : Eqm M M0) (hb : mt ≤ 31) (hb2 : sq ≤ 20) :
    ∀ (r : Nat → Int32), XW mX10_riddle (Fc mX10_riddle (fun r S' M' => S' = SS Z ext ∧ r = some (.int V) ∧ Eqm M M')) 0 0 (SS Z ext) (upr (upr M0 65 (rowL T g)) 64 r) 71 [some (.ref 48), some (.int (nI n)), some (.int k), some (.int x), some (.int (nI T.length)), some (.int 0), none, none, none, none, none, none] [] := by

  intro r
  have hO : ∀ Mx : Mm, Mx 49 = M 49 → Mx 63 = so → Mx 48 4 = nI mt → fsM Mx (alo mt &&& (Mx 49 0 ^^^ (-1))) mt 63 = so2 ∧ fsM Mx (alo mt &&& (Mx 49 0 ^^^ (-1))) mt 48 35 = nI m2 := by
    intro Mx e1 e2 e3
    rw [e1]
    refine ⟨?_, ?_⟩
    · show fsR _ (Mx 63) mt = so2
      rw [e2]; exact hso2
    · show nI (fsC _ mt) = nI m2
      rw [hcm2]
  refine x_iload dX10_riddle_71 rfl ?_
  refine x_if_eq 101 dX10_riddle_73 (by decide) (fun _ => ?_) (fun hc_ => absurd (rfl) hc_)
  refine x_aload_n dX10_riddle_101 rfl ?_
  refine x_aload_n dX10_riddle_102 rfl ?_
  refine x_cvd mf_X10_allOutside ml_X10_301 dX10_riddle_103 rfl sf_48 rfl ⟨by decide, by decide⟩ (Nat.le_of_ble_eq_true rfl) ⟨rfl, rfl⟩ ⟨Nat.le_of_ble_eq_true rfl, Nat.le_of_ble_eq_true rfl⟩ (c_m_allOutside hm0 hb) ?_
  refine x_cvd mf_X10_findSome ml_X10_272 dX10_riddle_106 rfl sf_48 rfl ⟨by decide, by decide⟩ (Nat.le_of_ble_eq_true rfl) ⟨rfl, rfl⟩ ⟨Nat.le_of_ble_eq_true rfl, Nat.le_of_ble_eq_true rfl⟩ (c_m_findSome _ hm0 hb) ?_
  refine x_iconst (v := 0) dX10_riddle_109 (by decide) ?_
  refine x_istore dX10_riddle_110 (by decide) ?_
  refine x_bipush (v := -4) dX10_riddle_112 (by decide) ?_
  refine x_istore dX10_riddle_114 (by decide) ?_
  refine x_bipush (v := -4) dX10_riddle_116 (by decide) ?_
  refine x_istore dX10_riddle_118 (by decide) ?_
  refine x_iconst (v := 0) dX10_riddle_120 (by decide) ?_
  refine x_istore dX10_riddle_121 (by decide) ?_
  skip
  obtain ⟨k63, k35⟩ := hO (upr (upr M0 65 (rowL T g)) 64 r) h49 h63 hm0
  have k49 : fsM (upr (upr M0 65 (rowL T g)) 64 r) (alo mt &&& ((upr (upr M0 65 (rowL T g)) 64 r) 49 0 ^^^ (-1))) mt 49 = M 49 := h49
  have k51 : fsM (upr (upr M0 65 (rowL T g)) 64 r) (alo mt &&& ((upr (upr M0 65 (rowL T g)) 64 r) 49 0 ^^^ (-1))) mt 51 = M 51 := h51
  have k54 : fsM (upr (upr M0 65 (rowL T g)) 64 r) (alo mt &&& ((upr (upr M0 65 (rowL T g)) 64 r) 49 0 ^^^ (-1))) mt 54 = M 54 := h54
  have k65 : fsM (upr (upr M0 65 (rowL T g)) 64 r) (alo mt &&& ((upr (upr M0 65 (rowL T g)) 64 r) 49 0 ^^^ (-1))) mt 65 = rowL T g := rfl
  have kq : fsM (upr (upr M0 65 (rowL T g)) 64 r) (alo mt &&& ((upr (upr M0 65 (rowL T g)) 64 r) 49 0 ^^^ (-1))) mt 48 5 = nI sq := hq0
  have kE : Eqm M (fsM (upr (upr M0 65 (rowL T g)) 64 r) (alo mt &&& ((upr (upr M0 65 (rowL T g)) 64 r) 49 0 ^^^ (-1))) mt) := ((hE.ur (fun _ => rfl)).ur (fun _ => rfl)).tr (fsM_eqm _ _ _)
  generalize fsM (upr (upr M0 65 (rowL T g)) 64 r) (alo mt &&& ((upr (upr M0 65 (rowL T g)) 64 r) 49 0 ^^^ (-1))) mt = M2 at k63 k35 k49 k51 k54 k65 kq kE ⊢
  have outer := rid_outer (Z := Z) (ext := ext) (V := V) (k := k) (x := x) hn1 hn2 hle2 hT465 hR hV k63 k35 k49 k51 k54 k65 kq kE hb2
  rw [← upr_self M2 64]
  exact outer (M2 64) _ _ _

set_option maxRecDepth 100000 in
theorem rid_first {Z : List (Option Nat)} {ext : List Ds} {M M0 : Mm} {V k x : Int32} {T : List Int32} {so f g : Nat → Int32} {n m : Nat} (hn2 : n ≤ 2) (hc : n ≤ m) (hle : m ≤ 31) (hT465 : T.length ≤ 465) (h63 : M0 63 = so) (h35 : M0 48 35 = nI m)
    (fin1 : ∀ (r : Nat → Int32), XW mX10_riddle (Fc mX10_riddle (fun r S' M' => S' = SS Z ext ∧ r = some (.int V) ∧ Eqm M M')) 0 0 (SS Z ext) (upr (upr M0 65 (rowL T g)) 64 r) 71 [some (.ref 48), some (.int (nI n)), some (.int k), some (.int x), some (.int (nI T.length)), some (.int 0), none, none, none, none, none, none] []) :
    ∀ a, okA m n a → ∀ (pre : List Int32), pre ++ (sna (bo so) a n :: Rm (bo so) m n a n) = T → XW mX10_riddle (Fc mX10_riddle (fun r S' M' => S' = SS Z ext ∧ r = some (.int V) ∧ Eqm M M')) 0 0 (SS Z ext) (upr (upr M0 65 (rowL pre g)) 64 (atr n a f)) 71 [some (.ref 48), some (.int (nI n)), some (.int k), some (.int x), some (.int (nI pre.length)), some (.int 1), none, none, none, none, none, none] [] := by

  refine enumI (bo so) hc (P := fun a l => ∀ (pre : List Int32), pre ++ (sna (bo so) a n :: l) = T → XW mX10_riddle (Fc mX10_riddle (fun r S' M' => S' = SS Z ext ∧ r = some (.int V) ∧ Eqm M M')) 0 0 (SS Z ext) (upr (upr M0 65 (rowL pre g)) 64 (atr n a f)) 71 [some (.ref 48), some (.int (nI n)), some (.int k), some (.int x), some (.int (nI pre.length)), some (.int 1), none, none, none, none, none, none] []) ?_ ?_
  · intro a ha hK pre hpre
    have hl : pre.length < 465 := by rw [← hpre] at hT465; simp at hT465; omega
    have hrow : rowL (pre ++ [sna (bo so) a n]) g = upd (rowL pre g) pre.length (sna (bo so) a n) := (rowL_push _ _ _).symm
    have hlen : T.length = pre.length + 1 := by rw [← hpre]; simp
    rw [show pre ++ [sna (bo so) a n] = T from hpre] at hrow
    have hfin := fin1 (atr n a f)
    rw [hlen, nI_succ, hrow, ← up2_upr2, ← up2_upr_ne _ _ _ (by decide), ← h63] at hfin
    refine x_iload dX10_riddle_71 rfl ?_
    refine x_if_eq 101 dX10_riddle_73 (by decide) (fun hc_ => absurd hc_ (by decide)) (fun _ => ?_)
    refine x_aload_n dX10_riddle_76 rfl ?_
    refine x_getr fl_X10_59 dX10_riddle_77 sf_48 rfl ?_
    refine x_iload dX10_riddle_80 rfl ?_
    refine x_aload_n dX10_riddle_82 rfl ?_
    refine x_iload_n dX10_riddle_83 rfl ?_
    refine x_cvd mf_X10_setNow ml_X10_278 dX10_riddle_84 rfl sf_48 rfl ⟨by decide, by decide⟩ (Nat.le_of_ble_eq_true rfl) ⟨rfl, rfl⟩ ⟨Nat.le_of_ble_eq_true rfl, Nat.le_of_ble_eq_true rfl⟩ (c_m_setNow n a (by omega) (okA_lt ha hc hle) (fun j hj => atr_in hj)) ?_
    refine x_iast dX10_riddle_87 sf_65 rfl (by omega) (by decide) ?_
    refine x_iinc1 dX10_riddle_88 rfl (by decide) ?_
    refine x_aload_n dX10_riddle_91 rfl ?_
    refine x_iload_n dX10_riddle_92 rfl ?_
    refine x_cvd mf_X10_nextOf ml_X10_281 dX10_riddle_93 rfl sf_48 rfl ⟨by decide, by decide⟩ (Nat.le_of_ble_eq_true rfl) ⟨rfl, rfl⟩ ⟨Nat.le_of_ble_eq_true rfl, Nat.le_of_ble_eq_true rfl⟩ (c_m_next0 (f := f) (by omega) hc hle ha h35 rfl hK) ?_
    refine x_istore dX10_riddle_96 (by decide) ?_
    refine x_goto 71 dX10_riddle_98 (by decide) ?_
    exact hfin
  · intro a K ha hK hok ih pre hpre
    have hl : pre.length < 465 := by rw [← hpre] at hT465; simp at hT465; omega
    have ih := ih (pre ++ [sna (bo so) a n]) (by rw [List.append_assoc]; exact hpre)
    rw [List.length_append, List.length_singleton, nI_succ, ← rowL_push, ← up2_upr2] at ih
    rw [← h63] at ih
    refine x_iload dX10_riddle_71 rfl ?_
    refine x_if_eq 101 dX10_riddle_73 (by decide) (fun hc_ => absurd hc_ (by decide)) (fun _ => ?_)
    refine x_aload_n dX10_riddle_76 rfl ?_
    refine x_getr fl_X10_59 dX10_riddle_77 sf_48 rfl ?_
    refine x_iload dX10_riddle_80 rfl ?_
    refine x_aload_n dX10_riddle_82 rfl ?_
    refine x_iload_n dX10_riddle_83 rfl ?_
    refine x_cvd mf_X10_setNow ml_X10_278 dX10_riddle_84 rfl sf_48 rfl ⟨by decide, by decide⟩ (Nat.le_of_ble_eq_true rfl) ⟨rfl, rfl⟩ ⟨Nat.le_of_ble_eq_true rfl, Nat.le_of_ble_eq_true rfl⟩ (c_m_setNow n a (by omega) (okA_lt ha hc hle) (fun j hj => atr_in hj)) ?_
    refine x_iast dX10_riddle_87 sf_65 rfl (by omega) (by decide) ?_
    refine x_iinc1 dX10_riddle_88 rfl (by decide) ?_
    refine x_aload_n dX10_riddle_91 rfl ?_
    refine x_iload_n dX10_riddle_92 rfl ?_
    refine x_cvd mf_X10_nextOf ml_X10_281 dX10_riddle_93 rfl sf_48 rfl ⟨by decide, by decide⟩ (Nat.le_of_ble_eq_true rfl) ⟨rfl, rfl⟩ ⟨Nat.le_of_ble_eq_true rfl, Nat.le_of_ble_eq_true rfl⟩ (c_m_next1 (f := f) (by omega) hc hle ha h35 rfl hK) ?_
    refine x_istore dX10_riddle_96 (by decide) ?_
    refine x_goto 71 dX10_riddle_98 (by decide) ?_
    rw [up2_upr_ne _ _ _ (by decide), upr_upr]
    exact ih

theorem c_m_riddleX {Z : List (Option Nat)} {ext : List Ds} {M : Mm} (n k x : Int32) (hx : (rg n 1 2 && rg k 0 20 && rg x 0 2) = false) : Ct mX10_riddle [.ref 48, .int n, .int k, .int x] (SS Z ext) M (Rt (some (.int (-1))) M) := by
  refine Ct.of (by decide) (Nat.le_of_ble_eq_true rfl) ?_
  refine x_iload_n dX10_riddle_0 rfl ?_
  refine x_i2l dX10_riddle_1 ?_
  refine x_lconst (v := 1) dX10_riddle_2 (by decide) ?_
  refine x_ldc2 dX10_riddle_3 kc_X10_249 ?_
  refine x_csd mf_X10_in ml_X10_134 dX10_riddle_6 rfl ⟨by decide, by decide⟩ (Nat.le_of_ble_eq_true rfl) ⟨rfl, rfl⟩ ⟨Nat.le_of_ble_eq_true rfl, Nat.le_of_ble_eq_true rfl⟩ (c_m_rg (a := 1) (b := 2) (by decide) (by decide)) ?_
  refine x_ifb_eq 36 dX10_riddle_9 (by decide) (fun h9 => ?_) (fun h9 => ?_)
  · refine x_iconst (v := -1) dX10_riddle_36 (by decide) ?_
    exact x_iret dX10_riddle_37 rfl rfl (Nat.le_refl _) (Nat.le_refl _) ⟨rfl, ⟨rfl, rfl⟩⟩
  · refine x_iload_n dX10_riddle_12 rfl ?_
    refine x_i2l dX10_riddle_13 ?_
    refine x_lconst (v := 0) dX10_riddle_14 (by decide) ?_
    refine x_ldc2 dX10_riddle_15 kc_X10_293 ?_
    refine x_csd mf_X10_in ml_X10_134 dX10_riddle_18 rfl ⟨by decide, by decide⟩ (Nat.le_of_ble_eq_true rfl) ⟨rfl, rfl⟩ ⟨Nat.le_of_ble_eq_true rfl, Nat.le_of_ble_eq_true rfl⟩ (c_m_rg (a := 0) (b := 20) (by decide) (by decide)) ?_
    refine x_ifb_eq 36 dX10_riddle_21 (by decide) (fun h21 => ?_) (fun h21 => ?_)
    · refine x_iconst (v := -1) dX10_riddle_36 (by decide) ?_
      exact x_iret dX10_riddle_37 rfl rfl (Nat.le_refl _) (Nat.le_refl _) ⟨rfl, ⟨rfl, rfl⟩⟩
    · refine x_iload_n dX10_riddle_24 rfl ?_
      refine x_i2l dX10_riddle_25 ?_
      refine x_lconst (v := 0) dX10_riddle_26 (by decide) ?_
      refine x_ldc2 dX10_riddle_27 kc_X10_249 ?_
      refine x_csd mf_X10_in ml_X10_134 dX10_riddle_30 rfl ⟨by decide, by decide⟩ (Nat.le_of_ble_eq_true rfl) ⟨rfl, rfl⟩ ⟨Nat.le_of_ble_eq_true rfl, Nat.le_of_ble_eq_true rfl⟩ (c_m_rg (a := 0) (b := 2) (by decide) (by decide)) ?_
      refine x_ifb_ne 38 dX10_riddle_33 (by decide) (fun h33 => ?_) (fun h33 => ?_)
      · rw [h9, h21, h33] at hx; exact absurd hx (by decide)
      · refine x_iconst (v := -1) dX10_riddle_36 (by decide) ?_
        exact x_iret dX10_riddle_37 rfl rfl (Nat.le_refl _) (Nat.le_refl _) ⟨rfl, ⟨rfl, rfl⟩⟩
set_option maxRecDepth 100000 in
theorem c_m_riddle {Z : List (Option Nat)} {ext : List Ds} {M : Mm} {mt sq : Nat} (n : Nat) (k x : Int32) (hn1 : 1 ≤ n) (hn2 : n ≤ 2) (hk : rg k 0 20 = true) (hx : rg x 0 2 = true) (hm : M 48 4 = nI mt) (hb : mt ≤ 31) (hq : M 48 5 = nI sq) (hb2 : sq ≤ 20) : Ct mX10_riddle [.ref 48, .int (nI n), .int k, .int x] (SS Z ext) M (fun r M' => r = some (.int (vRid (rAll (M 49 32) (M 51) (M 54) sq (M 49 0) k (Lx (bo (fsR (M 49 0) (M 63) mt)) (fsC (M 49 0) mt) n (fsC (M 49 0) mt) 0) (Lx (bo (fsR (alo mt &&& (M 49 0 ^^^ (-1))) (fsR (M 49 0) (M 63) mt) mt)) (fsC (alo mt &&& (M 49 0 ^^^ (-1))) mt) n (fsC (alo mt &&& (M 49 0 ^^^ (-1))) mt) 0)) x)) ∧ Eqm M M') := by
  refine Ct.of (by decide) (Nat.le_of_ble_eq_true rfl) ?_
  have hle : fsC (M 49 0) mt ≤ 31 := Nat.le_trans (fsC_le _ _) hb
  have hle2 : fsC (alo mt &&& (M 49 0 ^^^ (-1))) mt ≤ 31 := Nat.le_trans (fsC_le _ _) hb
  generalize hcm : fsC (M 49 0) mt = m at hle
  generalize hso : fsR (M 49 0) (M 63) mt = so
  have h35 : fsM M (M 49 0) mt 48 35 = nI m := by rw [← hcm]; rfl
  have h63 : fsM M (M 49 0) mt 63 = so := hso
  have hE := fsM_eqm M (M 49 0) mt
  have h49 : fsM M (M 49 0) mt 49 = M 49 := rfl
  have h51 : fsM M (M 49 0) mt 51 = M 51 := rfl
  have h54 : fsM M (M 49 0) mt 54 = M 54 := rfl
  have hq0 : fsM M (M 49 0) mt 48 5 = nI sq := hq
  have hm0 : fsM M (M 49 0) mt 48 4 = nI mt := hm
  refine x_iload_n dX10_riddle_0 rfl ?_
  refine x_i2l dX10_riddle_1 ?_
  refine x_lconst (v := 1) dX10_riddle_2 (by decide) ?_
  refine x_ldc2 dX10_riddle_3 kc_X10_249 ?_
  refine x_csd mf_X10_in ml_X10_134 dX10_riddle_6 rfl ⟨by decide, by decide⟩ (Nat.le_of_ble_eq_true rfl) ⟨rfl, rfl⟩ ⟨Nat.le_of_ble_eq_true rfl, Nat.le_of_ble_eq_true rfl⟩ (c_m_rg (a := 1) (b := 2) (by decide) (by decide)) ?_
  refine x_ifb_eq 36 dX10_riddle_9 (by decide) (fun hc_ => absurd (hc_.symm.trans (rg_nI (a := 1) (b := 2) hn1 hn2 (by decide))) Bool.false_ne_true) (fun _ => ?_)
  refine x_iload_n dX10_riddle_12 rfl ?_
  refine x_i2l dX10_riddle_13 ?_
  refine x_lconst (v := 0) dX10_riddle_14 (by decide) ?_
  refine x_ldc2 dX10_riddle_15 kc_X10_293 ?_
  refine x_csd mf_X10_in ml_X10_134 dX10_riddle_18 rfl ⟨by decide, by decide⟩ (Nat.le_of_ble_eq_true rfl) ⟨rfl, rfl⟩ ⟨Nat.le_of_ble_eq_true rfl, Nat.le_of_ble_eq_true rfl⟩ (c_m_rg (a := 0) (b := 20) (by decide) (by decide)) ?_
  refine x_ifb_eq 36 dX10_riddle_21 (by decide) (fun hc_ => absurd (hc_.symm.trans (hk)) Bool.false_ne_true) (fun _ => ?_)
  refine x_iload_n dX10_riddle_24 rfl ?_
  refine x_i2l dX10_riddle_25 ?_
  refine x_lconst (v := 0) dX10_riddle_26 (by decide) ?_
  refine x_ldc2 dX10_riddle_27 kc_X10_249 ?_
  refine x_csd mf_X10_in ml_X10_134 dX10_riddle_30 rfl ⟨by decide, by decide⟩ (Nat.le_of_ble_eq_true rfl) ⟨rfl, rfl⟩ ⟨Nat.le_of_ble_eq_true rfl, Nat.le_of_ble_eq_true rfl⟩ (c_m_rg (a := 0) (b := 2) (by decide) (by decide)) ?_
  refine x_ifb_ne 38 dX10_riddle_33 (by decide) (fun _ => ?_) (fun hc_ => absurd (hc_.symm.trans (hx)) Bool.false_ne_true)
  refine x_aload_n dX10_riddle_38 rfl ?_
  refine x_aload_n dX10_riddle_39 rfl ?_
  refine x_getr fl_X10_7 dX10_riddle_40 sf_48 rfl ?_
  refine x_iconst (v := 0) dX10_riddle_43 (by decide) ?_
  refine x_iald (q := 0) dX10_riddle_44 sf_49 (by decide) (by decide) (by decide) ?_
  refine x_cvd mf_X10_findSome ml_X10_272 dX10_riddle_45 rfl sf_48 rfl ⟨by decide, by decide⟩ (Nat.le_of_ble_eq_true rfl) ⟨rfl, rfl⟩ ⟨Nat.le_of_ble_eq_true rfl, Nat.le_of_ble_eq_true rfl⟩ (c_m_findSome _ hm hb) ?_
  refine x_iconst (v := 0) dX10_riddle_48 (by decide) ?_
  refine x_istore dX10_riddle_49 (by decide) ?_
  refine x_aload_n dX10_riddle_51 rfl ?_
  refine x_iload_n dX10_riddle_52 rfl ?_
  refine x_cvd mf_X10_firstOf ml_X10_275 dX10_riddle_53 rfl sf_48 rfl ⟨by decide, by decide⟩ (Nat.le_of_ble_eq_true rfl) ⟨rfl, rfl⟩ ⟨Nat.le_of_ble_eq_true rfl, Nat.le_of_ble_eq_true rfl⟩ (c_m_firstOf n (by omega)) ?_
  refine x_aload_n dX10_riddle_56 rfl ?_
  refine x_geti fl_X10_267 dX10_riddle_57 sf_48 rfl ?_
  refine x_iload_n dX10_riddle_60 rfl ?_
  skip
  generalize fsM M (M 49 0) mt = M0 at h35 h63 hE h49 h51 h54 hq0 hm0 ⊢
  generalize hf : M0 64 = f
  generalize hg : M0 65 = g
  have hT465 : (Lx (bo so) m n m 0).length ≤ 465 := Lx_465 _ _ hle hn1 hn2
  generalize hT : Lx (bo so) m n m 0 = T at hT465 ⊢
  generalize hcm2 : fsC (alo mt &&& (M 49 0 ^^^ (-1))) mt = m2 at hle2 ⊢
  generalize hso2 : fsR (alo mt &&& (M 49 0 ^^^ (-1))) so mt = so2
  generalize hR : Lx (bo so2) m2 n m2 0 = Rr
  generalize hV : vRid (rAll (M 49 32) (M 51) (M 54) sq (M 49 0) k T Rr) x = V
  -- behind the first loop
  have fin1 := rid_second (Z := Z) (ext := ext) (g := g) (x := x) hn1 hn2 hle2 hT465 hcm2 hso2 hR hV h63 h49 h51 h54 hq0 hm0 hE hb hb2
  by_cases hc : n ≤ m
  · rw [← Rm_first _ hc] at hT
    have loop := rid_first (M0 := M0) (f := f) (g := g) hn2 hc hle hT465 h63 h35 fin1
    refine x_icmp_lt 68 dX10_riddle_61 (by decide) (fun hc_ => absurd hc_ (by show ¬ M0 48 35 < nI n; rw [h35]; exact nI_nlt hc (by omega))) (fun _ => ?_)
    refine x_iconst (v := 1) dX10_riddle_64 (by decide) ?_
    refine x_goto 69 dX10_riddle_65 (by decide) ?_
    refine x_istore dX10_riddle_69 (by decide) ?_
    have h0 := loop (fun j => j) ok_first [] (by rw [hT]; rfl)
    rw [rowL_0, ← hg, upr_self] at h0
    exact h0
  · rw [Lx_nil _ _ _ _ _ (by omega)] at hT
    refine x_icmp_lt 68 dX10_riddle_61 (by decide) (fun _ => ?_) (fun hc_ => absurd (by show M0 48 35 < nI n; rw [h35]; exact nI_lt (by omega) (by omega)) hc_)
    refine x_iconst (v := 0) dX10_riddle_68 (by decide) ?_
    refine x_istore dX10_riddle_69 (by decide) ?_
    have h0 := fin1 (atr n (fun j => j) f)
    rw [← hT, rowL_0, ← hg, upr_self] at h0
    exact h0
