/-! ===== the reference: findBreaks ===== -/
theorem inq_bi {rm : Nat → Int32} {set : Int32} {q : Nat} : inq rm set q = true ↔ ∀ i, i < 32 → bi (rm q) i = true → bi set i = true := by
  unfold inq
  rw [decide_eq_true_eq]
  constructor
  · intro h i hi h1
    have h2 := congrArg (fun z => bi z i) h
    simp only [bi_and, bi_not, h1, bi_0, decide_eq_true hi] at h2
    cases hb : bi set i with
    | true => rfl
    | false => rw [hb] at h2; cases h2
  · intro h
    apply bi_z
    intro i hi
    rw [bi_and, bi_not]
    cases h1 : bi (rm q) i with
    | false => rfl
    | true => rw [h i hi h1]; simp
theorem ct_mono {p q : Nat → Bool} : ∀ {n : Nat}, (∀ k, k < n → p k = true → q k = true) → fb_ct p n ≤ fb_ct q n
  | 0, _ => Nat.le_refl _
  | n + 1, h => by
    have ih := ct_mono (p := p) (q := q) (n := n) (fun k hk => h k (by omega))
    rw [fb_ct_succ, fb_ct_succ]
    have h1 := h n (by omega)
    cases hp : p n with
    | false => simp; omega
    | true => rw [h1 hp]; simp; omega
theorem ct_lt {p q : Nat → Bool} : ∀ {n k : Nat}, (∀ k, k < n → p k = true → q k = true) → k < n → p k = false → q k = true → fb_ct p n < fb_ct q n
  | 0, k, _, hk, _, _ => absurd hk (by omega)
  | n + 1, k, h, hk, h1, h2 => by
    rw [fb_ct_succ, fb_ct_succ]
    rcases (show k = n ∨ k < n by omega) with rfl | h3
    · have ih := ct_mono (p := p) (q := q) (n := k) (fun k hk => h k (by omega))
      rw [h1, h2]; simp; omega
    · have ih := ct_lt (p := p) (q := q) (n := n) (k := k) (fun k hk => h k (by omega)) h3 h1 h2
      have h4 := h n (by omega)
      cases hp : p n with
      | false => simp; omega
      | true => rw [h4 hp]; simp; omega
def wct (C : Int32) (sz rm : Nat → Int32) (sq : Nat) (L x : Int32) : Nat := fb_ct (fwP C sz rm L x) sq
theorem wct_child {C : Int32} {sz rm : Nat → Int32} {sq : Nat} {L x : Int32} {m : Nat} (hm : m < 32) (hlt : fwq C sz rm sq L x < sq) (hb : bi (rm (fwq C sz rm sq L x)) m = true) : wct C sz rm sq L (x ||| b1 m) < wct C sz rm sq L x := by
  have hy := fa_first_yes _ _ hlt
  refine ct_lt (k := fwq C sz rm sq L x) ?_ hlt ?_ hy
  · intro k hk h
    rw [fwP, Bool.and_eq_true, inq_bi] at h ⊢
    refine ⟨h.1, fun i hi h1 => ?_⟩
    have h2 := h.2 i hi h1
    rw [bi_and, bi_not, bi_or] at h2
    rw [bi_and, bi_not]
    cases hL : bi L i <;> cases hx : bi x i <;> simp_all
  · cases h : fwP C sz rm L (x ||| b1 m) (fwq C sz rm sq L x) with
    | false => rfl
    | true =>
      rw [fwP, Bool.and_eq_true, inq_bi] at h
      have h2 := h.2 m hm hb
      rw [bi_and, bi_not, bi_or, bi_b1 hm] at h2
      simp at h2
def dnS (rec : Int32 → Int32 → Int32 → Tk → Tk) (rq : Int32) (co : Nat → Int32) (c s : Int32) (m : Nat) (x : Int32 × Tk) : Int32 × Tk := if lies rq (nI m) && !lies x.1 (nI m) then (x.1 ||| b1 m, if decide (s + co m ≤ x.2.1) then rec (c ||| b1 m) x.1 (s + co m) x.2 else x.2) else x
/-- the search from a node on: what is found then -/
def dn (C : Int32) (sz rm : Nat → Int32) (sq : Nat) (L : Int32) (co : Nat → Int32) (mt : Nat) : Nat → Int32 → Int32 → Int32 → Tk → Tk
  | 0, _, _, _, st => st
  | r + 1, c, b, s, st => if fwq C sz rm sq L c < sq then (fld (dnS (dn C sz rm sq L co mt r) (rm (fwq C sz rm sq L c)) co c s) mt (b, st)).2 else tkS st c s
def cof (M : Mm) (e : Bool) (m : Nat) : Int32 := if e then M 49 (m + 1) else 1
theorem dn_node {Z : List (Option Nat)} {ext : List Ds} {M : Mm} {F : Fn} {sq mt : Nat} {e : Bool} (hq : M 48 5 = nI sq) (hb : sq ≤ 20) (hm : M 48 4 = nI mt) (hmb : mt ≤ 31) :
    ∀ (r d : Nat) (k : Tk) (p t c b s : Nat → Int32) (l3 l4 l5 : Option Value), d + r = 21 → wct (M 49 32) (M 51) (M 54) sq (M 49 0) (c d) < r →
      (∀ (p' t' c' b' s' : Nat → Int32) (l3 l4 l5 : Option Value), (∀ j, j < d → p' j = p j ∧ t' j = t j ∧ c' j = c j ∧ b' j = b j ∧ s' j = s j) → XW mX10_findBreaks F 0 0 (SS Z ext) (dM M (dn (M 49 32) (M 51) (M 54) sq (M 49 0) (cof M e) mt r (c d) (b d) (s d) k) p' t' c' b' s') 44 [some (.ref 48), some (.int (b2i e)), some (.int (nI d - 1)), l3, l4, l5] []) →
      XW mX10_findBreaks F 0 0 (SS Z ext) (dM M (enT (M 49 32) (M 51) (M 54) sq (M 49 0) k (c d) (s d)) (upd p d (fwV (M 49 32) (M 51) (M 54) sq (M 49 0) (c d))) (upd t d 0) c b s) 44 [some (.ref 48), some (.int (b2i e)), some (.int (nI d)), l3, l4, l5] [] := by
  intro r
  induction r with
  | zero => intro d k p t c b s l3 l4 l5 hdr hw; exact absurd hw (by omega)
  | succ r ih =>
    intro d k p t c b s l3 l4 l5 hdr hw cont
    by_cases hlt : fwq (M 49 32) (M 51) (M 54) sq (M 49 0) (c d) < sq
    · rw [dn, if_pos hlt] at cont
      rw [enT, if_pos hlt, fwV, if_pos hlt]
      have hchild := fun (m : Nat) (hm : m < 32) (hbm : bi (M 54 (fwq (M 49 32) (M 51) (M 54) sq (M 49 0) (c d))) m = true) => wct_child (C := M 49 32) (sz := M 51) (sq := sq) (L := M 49 0) (x := c d) hm hlt hbm
      generalize fwq (M 49 32) (M 51) (M 54) sq (M 49 0) (c d) = q at hlt cont hchild ⊢
      have loop := lup (P := fun m => ∀ (p' t' c' b' s' : Nat → Int32) (l3 l4 l5 : Option Value), (∀ j, j < d → p' j = p j ∧ t' j = t j ∧ c' j = c j ∧ b' j = b j ∧ s' j = s j) → p' d = nI q → t' d = nI m → c' d = c d → s' d = s d → b' d = (fld (dnS (dn (M 49 32) (M 51) (M 54) sq (M 49 0) (cof M e) mt r) (M 54 q) (cof M e) (c d) (s d)) m (b d, k)).1 → XW mX10_findBreaks F 0 0 (SS Z ext) (dM M (fld (dnS (dn (M 49 32) (M 51) (M 54) sq (M 49 0) (cof M e) mt r) (M 54 q) (cof M e) (c d) (s d)) m (b d, k)).2 p' t' c' b' s') 44 [some (.ref 48), some (.int (b2i e)), some (.int (nI d)), l3, l4, l5] []) (N := mt) ?_ ?_ 0 (by omega)
      · exact loop _ _ _ _ _ l3 l4 l5 (fun j hj => ⟨pk_un (by omega), pk_un (by omega), rfl, rfl, rfl⟩) pk_us pk_us rfl rfl rfl
      · intro p' t' c' b' s' l3 l4 l5 hag hp ht hc hs hbd
        have cc := cont p' t' c' b' s' l3 l4 l5 hag
        rw [← nI_m] at cc
        refine x_iload_n dX10_findBreaks_44 rfl ?_
        refine x_if_lt 258 dX10_findBreaks_45 (by decide) (fun hc_ => absurd hc_ (nI_pos (by omega))) (fun _ => ?_)
        refine x_aload_n dX10_findBreaks_48 rfl ?_
        refine x_getr fl_X10_38 dX10_findBreaks_49 sf_48 rfl ?_
        refine x_iload_n dX10_findBreaks_52 rfl ?_
        refine x_iald dX10_findBreaks_53 sf_58 rfl (by omega) (by decide) ?_
        refine x_bipush (v := -4) dX10_findBreaks_54 (by decide) ?_
        refine x_icmp_eq 72 dX10_findBreaks_56 (by decide) (fun hc_ => absurd hc_ (by show ¬ p' d = -4; rw [hp]; intro e; have h0 := nI_pos (n := q) (by omega); rw [e] at h0; exact h0 (by decide))) (fun _ => ?_)
        refine x_aload_n dX10_findBreaks_59 rfl ?_
        refine x_getr fl_X10_41 dX10_findBreaks_60 sf_48 rfl ?_
        refine x_iload_n dX10_findBreaks_63 rfl ?_
        refine x_iald dX10_findBreaks_64 sf_59 rfl (by omega) (by decide) ?_
        refine x_aload_n dX10_findBreaks_65 rfl ?_
        refine x_geti fl_X10_123 dX10_findBreaks_66 sf_48 rfl ?_
        refine x_icmp_ne 78 dX10_findBreaks_69 (by decide) (fun hc_ => absurd (by show t' d = M 48 4; rw [ht, hm]) hc_) (fun _ => ?_)
        refine x_iincm dX10_findBreaks_72 rfl (by decide) ?_
        refine x_goto 44 dX10_findBreaks_75 (by decide) ?_
        exact cc
      · intro m hmm ihm p' t' c' b' s' l3 l4 l5 hag hp ht hc hs hbd
        rw [fld_s] at ihm
        generalize fld (dnS (dn (M 49 32) (M 51) (M 54) sq (M 49 0) (cof M e) mt r) (M 54 q) (cof M e) (c d) (s d)) m (b d, k) = x at ihm hbd ⊢
        rw [dnS] at ihm
        have hne : ∀ f : Nat → Int32, ∀ v, upd f (d + 1) v d = f d := fun f v => pk_un (by omega)
        have hagt : ∀ v, ∀ j, j < d → p' j = p j ∧ upd t' d v j = t j ∧ c' j = c j ∧ b' j = b j ∧ s' j = s j := fun v j hj => by rw [pk_un (by omega)]; exact hag j hj
        have htm : upd t' d (nI m + 1) d = nI (m + 1) := by rw [pk_us, nI_succ]
        refine x_join (dM M x.2 p' (upd t' d (nI m + 1)) c' b' s') 132 [some (.ref 48), some (.int (b2i e)), some (.int (nI d)), some (.int (nI m)), l4, l5] [.int (b2i (lies (M 54 q) (nI m) && !lies x.1 (nI m)))] ?_ (fun fin => ?_)
        · refine x_join (dM M x.2 p' (upd t' d (nI m + 1)) c' b' s') 156 [some (.ref 48), some (.int (b2i e)), some (.int (nI d)), some (.int (nI m)), some (.int (b2i (lies (M 54 q) (nI m) && !lies x.1 (nI m)))), l5] [.int (cof M e m), .int (s d)] ?_ (fun fin => ?_)
          · cases hcan : (lies (M 54 q) (nI m) && !lies x.1 (nI m)) with
            | false =>
              rw [hcan, if_neg (by decide)] at ihm
              refine x_iadd dX10_findBreaks_156 ?_
              refine x_istore dX10_findBreaks_157 (by decide) ?_
              refine x_iload dX10_findBreaks_159 rfl ?_
              refine x_if_eq 238 dX10_findBreaks_161 (by decide) (fun _ => ?_) (fun hc_ => absurd (rfl) hc_)
              refine x_iload dX10_findBreaks_238 rfl ?_
              refine x_if_eq 255 dX10_findBreaks_240 (by decide) (fun _ => ?_) (fun hc_ => absurd (rfl) hc_)
              refine x_goto 44 dX10_findBreaks_255 (by decide) ?_
              exact ihm _ _ _ _ _ _ _ _ (hagt _) hp htm hc hs hbd
            | true =>
              rw [hcan, if_pos rfl] at ihm
              by_cases hsum : s d + cof M e m ≤ x.2.1
              · rw [if_pos (decide_eq_true hsum)] at ihm
                have hbm : bi (M 54 q) m = true := by
                  rw [Bool.and_eq_true, lies_bi _ (by omega)] at hcan
                  exact hcan.1
                have hw2 := hchild m (by omega) hbm
                have hin := ih (d + 1) x.2 p' (upd t' d (nI m + 1)) (upd c' (d + 1) (c' d ||| b1 m)) (upd (upd b' (d + 1) (b' d)) d (upd b' (d + 1) (b' d) d ||| b1 m)) (upd s' (d + 1) (s d + cof M e m)) (some (.int (nI m))) (some (.int (b2i true))) (some (.int (s d + cof M e m))) (by omega) (by rw [pk_us, hc]; omega) (by
                  intro p2 t2 c2 b2 s2 l3 l4 l5 hag2
                  have h0 := hag2 d (by omega)
                  have hh := ihm p2 t2 c2 b2 s2 l3 l4 l5 (fun j hj => by
                    have h1 := hag2 j (by omega)
                    have h2 := hag j hj
                    rw [pk_un (by omega)] at h1
                    rw [pk_un (by omega)] at h1
                    rw [pk_un (by omega), pk_un (by omega)] at h1
                    rw [pk_un (by omega)] at h1
                    exact ⟨h1.1.trans h2.1, h1.2.1.trans h2.2.1, h1.2.2.1.trans h2.2.2.1, h1.2.2.2.1.trans h2.2.2.2.1, h1.2.2.2.2.trans h2.2.2.2.2⟩) (h0.1.trans hp) (h0.2.1.trans htm) (by rw [h0.2.2.1, hne]; exact hc) (by rw [h0.2.2.2.2, hne]; exact hs) (by rw [h0.2.2.2.1, pk_us, hne, hbd])
                  rw [pk_us, pk_un (by omega), pk_us, pk_us, nI_pred, hc, hbd]
                  exact hh)
                have hcE := c_m_enters (Z := Z) (ext := ext) (M := M) (p := p') (t := upd t' d (nI m + 1)) (c := upd c' (d + 1) (c' d ||| b1 m)) (b := upd (upd b' (d + 1) (b' d)) d (upd b' (d + 1) (b' d) d ||| b1 m)) (s := upd s' (d + 1) (s d + cof M e m)) x.2 (d + 1) (by omega) hq hb
                refine x_iadd dX10_findBreaks_156 ?_
                refine x_istore dX10_findBreaks_157 (by decide) ?_
                refine x_iload dX10_findBreaks_159 rfl ?_
                refine x_if_eq 238 dX10_findBreaks_161 (by decide) (fun hc_ => absurd hc_ (by decide)) (fun _ => ?_)
                refine x_iload dX10_findBreaks_164 rfl ?_
                refine x_aload_n dX10_findBreaks_166 rfl ?_
                refine x_geti fl_X10_229 dX10_findBreaks_167 sf_48 rfl ?_
                refine x_icmp_gt 238 dX10_findBreaks_170 (by decide) (fun hc_ => absurd hc_ (show ¬ x.2.1 < s d + cof M e m from fun q => absurd hsum (by rw [fa_le]; rw [fa_lt] at q; omega))) (fun _ => ?_)
                refine x_aload_n dX10_findBreaks_173 rfl ?_
                refine x_getr fl_X10_44 dX10_findBreaks_174 sf_48 rfl ?_
                refine x_iload_n dX10_findBreaks_177 rfl ?_
                refine x_iconst (v := 1) dX10_findBreaks_178 (by decide) ?_
                refine x_iadd dX10_findBreaks_179 ?_
                refine x_aload_n dX10_findBreaks_180 rfl ?_
                refine x_getr fl_X10_44 dX10_findBreaks_181 sf_48 rfl ?_
                refine x_iload_n dX10_findBreaks_184 rfl ?_
                refine x_iald dX10_findBreaks_185 sf_60 rfl (by omega) (by decide) ?_
                refine x_iconst (v := 1) dX10_findBreaks_186 (by decide) ?_
                refine x_iload_n dX10_findBreaks_187 rfl ?_
                refine x_ishl dX10_findBreaks_188 ?_
                refine x_ior dX10_findBreaks_189 ?_
                refine x_iast dX10_findBreaks_190 sf_60 (nI_succ d).symm (by omega) (by decide) ?_
                rw [dm_60]
                refine x_aload_n dX10_findBreaks_191 rfl ?_
                refine x_getr fl_X10_47 dX10_findBreaks_192 sf_48 rfl ?_
                refine x_iload_n dX10_findBreaks_195 rfl ?_
                refine x_iconst (v := 1) dX10_findBreaks_196 (by decide) ?_
                refine x_iadd dX10_findBreaks_197 ?_
                refine x_aload_n dX10_findBreaks_198 rfl ?_
                refine x_getr fl_X10_47 dX10_findBreaks_199 sf_48 rfl ?_
                refine x_iload_n dX10_findBreaks_202 rfl ?_
                refine x_iald dX10_findBreaks_203 sf_61 rfl (by omega) (by decide) ?_
                refine x_iast dX10_findBreaks_204 sf_61 (nI_succ d).symm (by omega) (by decide) ?_
                rw [dm_61]
                refine x_aload_n dX10_findBreaks_205 rfl ?_
                refine x_getr fl_X10_50 dX10_findBreaks_206 sf_48 rfl ?_
                refine x_iload_n dX10_findBreaks_209 rfl ?_
                refine x_iconst (v := 1) dX10_findBreaks_210 (by decide) ?_
                refine x_iadd dX10_findBreaks_211 ?_
                refine x_iload dX10_findBreaks_212 rfl ?_
                refine x_iast dX10_findBreaks_214 sf_62 (nI_succ d).symm (by omega) (by decide) ?_
                rw [dm_62]
                refine x_aload_n dX10_findBreaks_215 rfl ?_
                refine x_getr fl_X10_47 dX10_findBreaks_216 sf_48 rfl ?_
                refine x_iload_n dX10_findBreaks_219 rfl ?_
                refine x_dup2 dX10_findBreaks_220 rfl rfl ?_
                refine x_iald dX10_findBreaks_221 sf_61 rfl (by omega) (by decide) ?_
                refine x_iconst (v := 1) dX10_findBreaks_222 (by decide) ?_
                refine x_iload_n dX10_findBreaks_223 rfl ?_
                refine x_ishl dX10_findBreaks_224 ?_
                refine x_ior dX10_findBreaks_225 ?_
                refine x_iast dX10_findBreaks_226 sf_61 rfl (by omega) (by decide) ?_
                rw [dm_61]
                refine x_iinc1 dX10_findBreaks_227 rfl (by decide) ?_
                rw [← nI_succ d]
                refine x_aload_n dX10_findBreaks_230 rfl ?_
                refine x_iload_n dX10_findBreaks_231 rfl ?_
                refine x_cvd mf_X10_enters ml_X10_246 dX10_findBreaks_232 rfl sf_48 rfl ⟨by decide, by decide⟩ (Nat.le_of_ble_eq_true rfl) ⟨rfl, rfl⟩ ⟨Nat.le_of_ble_eq_true rfl, Nat.le_of_ble_eq_true rfl⟩ (hcE) ?_
                refine x_goto 255 dX10_findBreaks_235 (by decide) ?_
                refine x_goto 44 dX10_findBreaks_255 (by decide) ?_
                exact hin
              · rw [if_neg (fun q => hsum (of_decide_eq_true q))] at ihm
                refine x_iadd dX10_findBreaks_156 ?_
                refine x_istore dX10_findBreaks_157 (by decide) ?_
                refine x_iload dX10_findBreaks_159 rfl ?_
                refine x_if_eq 238 dX10_findBreaks_161 (by decide) (fun hc_ => absurd hc_ (by decide)) (fun _ => ?_)
                refine x_iload dX10_findBreaks_164 rfl ?_
                refine x_aload_n dX10_findBreaks_166 rfl ?_
                refine x_geti fl_X10_229 dX10_findBreaks_167 sf_48 rfl ?_
                refine x_icmp_gt 238 dX10_findBreaks_170 (by decide) (fun _ => ?_) (fun hc_ => absurd (show x.2.1 < s d + cof M e m from fa_of_nle hsum) hc_)
                refine x_iload dX10_findBreaks_238 rfl ?_
                refine x_if_eq 255 dX10_findBreaks_240 (by decide) (fun hc_ => absurd hc_ (by decide)) (fun _ => ?_)
                refine x_aload_n dX10_findBreaks_243 rfl ?_
                refine x_getr fl_X10_47 dX10_findBreaks_244 sf_48 rfl ?_
                refine x_iload_n dX10_findBreaks_247 rfl ?_
                refine x_dup2 dX10_findBreaks_248 rfl rfl ?_
                refine x_iald dX10_findBreaks_249 sf_61 rfl (by omega) (by decide) ?_
                refine x_iconst (v := 1) dX10_findBreaks_250 (by decide) ?_
                refine x_iload_n dX10_findBreaks_251 rfl ?_
                refine x_ishl dX10_findBreaks_252 ?_
                refine x_ior dX10_findBreaks_253 ?_
                refine x_iast dX10_findBreaks_254 sf_61 rfl (by omega) (by decide) ?_
                rw [dm_61]
                refine x_goto 44 dX10_findBreaks_255 (by decide) ?_
                exact ihm _ _ _ _ _ _ _ _ (fun j hj => by rw [pk_un (show j ≠ d by omega)]; rw [pk_un (show j ≠ d by omega)]; exact hag j hj) hp htm hc hs (by rw [pk_us]; exact congrArg (fun z => z ||| b1 m) hbd)
          · cases e with
            | false =>
              refine x_istore dX10_findBreaks_132 (by decide) ?_
              refine x_aload_n dX10_findBreaks_134 rfl ?_
              refine x_getr fl_X10_50 dX10_findBreaks_135 sf_48 rfl ?_
              refine x_iload_n dX10_findBreaks_138 rfl ?_
              refine x_iald dX10_findBreaks_139 sf_62 rfl (by omega) (by decide) ?_
              refine x_iload_n dX10_findBreaks_140 rfl ?_
              refine x_if_eq 155 dX10_findBreaks_141 (by decide) (fun _ => ?_) (fun hc_ => absurd (rfl) hc_)
              rw [show (dM M x.2 p' (upd t' d (nI m + 1)) c' b' s') 62 d = s d from hs]
              refine x_iconst (v := 1) dX10_findBreaks_155 (by decide) ?_
              exact fin
            | true =>
              refine x_istore dX10_findBreaks_132 (by decide) ?_
              refine x_aload_n dX10_findBreaks_134 rfl ?_
              refine x_getr fl_X10_50 dX10_findBreaks_135 sf_48 rfl ?_
              refine x_iload_n dX10_findBreaks_138 rfl ?_
              refine x_iald dX10_findBreaks_139 sf_62 rfl (by omega) (by decide) ?_
              refine x_iload_n dX10_findBreaks_140 rfl ?_
              refine x_if_eq 155 dX10_findBreaks_141 (by decide) (fun hc_ => absurd hc_ (by decide)) (fun _ => ?_)
              rw [show (dM M x.2 p' (upd t' d (nI m + 1)) c' b' s') 62 d = s d from hs]
              refine x_aload_n dX10_findBreaks_144 rfl ?_
              refine x_getr fl_X10_7 dX10_findBreaks_145 sf_48 rfl ?_
              refine x_iconst (v := 1) dX10_findBreaks_148 (by decide) ?_
              refine x_iload_n dX10_findBreaks_149 rfl ?_
              refine x_iadd dX10_findBreaks_150 ?_
              refine x_iald dX10_findBreaks_151 sf_49 (show (1 : Int32) + nI m = nI (m + 1) by rw [Int32.add_comm, ← nI_succ]) (by omega) (by decide) ?_
              refine x_goto 156 dX10_findBreaks_152 (by decide) ?_
              exact fin
        · refine x_iload_n dX10_findBreaks_44 rfl ?_
          refine x_if_lt 258 dX10_findBreaks_45 (by decide) (fun hc_ => absurd hc_ (nI_pos (by omega))) (fun _ => ?_)
          refine x_aload_n dX10_findBreaks_48 rfl ?_
          refine x_getr fl_X10_38 dX10_findBreaks_49 sf_48 rfl ?_
          refine x_iload_n dX10_findBreaks_52 rfl ?_
          refine x_iald dX10_findBreaks_53 sf_58 rfl (by omega) (by decide) ?_
          refine x_bipush (v := -4) dX10_findBreaks_54 (by decide) ?_
          refine x_icmp_eq 72 dX10_findBreaks_56 (by decide) (fun hc_ => absurd hc_ (by show ¬ p' d = -4; rw [hp]; intro e; have h0 := nI_pos (n := q) (by omega); rw [e] at h0; exact h0 (by decide))) (fun _ => ?_)
          refine x_aload_n dX10_findBreaks_59 rfl ?_
          refine x_getr fl_X10_41 dX10_findBreaks_60 sf_48 rfl ?_
          refine x_iload_n dX10_findBreaks_63 rfl ?_
          refine x_iald dX10_findBreaks_64 sf_59 rfl (by omega) (by decide) ?_
          refine x_aload_n dX10_findBreaks_65 rfl ?_
          refine x_geti fl_X10_123 dX10_findBreaks_66 sf_48 rfl ?_
          refine x_icmp_ne 78 dX10_findBreaks_69 (by decide) (fun _ => ?_) (fun hc_ => absurd hc_ (by show ¬ t' d = M 48 4; rw [ht, hm]; exact fun q => absurd ((nI_eq (by omega) (by omega)).mp q) (by omega)))
          refine x_aload_n dX10_findBreaks_78 rfl ?_
          refine x_getr fl_X10_41 dX10_findBreaks_79 sf_48 rfl ?_
          refine x_iload_n dX10_findBreaks_82 rfl ?_
          refine x_iald dX10_findBreaks_83 sf_59 rfl (by omega) (by decide) ?_
          rw [show (dM M x.2 p' t' c' b' s') 59 d = nI m from ht]
          refine x_istore_n dX10_findBreaks_84 (by decide) ?_
          refine x_aload_n dX10_findBreaks_85 rfl ?_
          refine x_getr fl_X10_41 dX10_findBreaks_86 sf_48 rfl ?_
          refine x_iload_n dX10_findBreaks_89 rfl ?_
          refine x_dup2 dX10_findBreaks_90 rfl rfl ?_
          refine x_iald dX10_findBreaks_91 sf_59 rfl (by omega) (by decide) ?_
          rw [show (dM M x.2 p' t' c' b' s') 59 d = nI m from ht]
          refine x_iconst (v := 1) dX10_findBreaks_92 (by decide) ?_
          refine x_iadd dX10_findBreaks_93 ?_
          refine x_iast dX10_findBreaks_94 sf_59 rfl (by omega) (by decide) ?_
          rw [dm_59]
          refine x_aload_n dX10_findBreaks_95 rfl ?_
          refine x_getr fl_X10_26 dX10_findBreaks_96 sf_48 rfl ?_
          refine x_aload_n dX10_findBreaks_99 rfl ?_
          refine x_getr fl_X10_38 dX10_findBreaks_100 sf_48 rfl ?_
          refine x_iload_n dX10_findBreaks_103 rfl ?_
          refine x_iald dX10_findBreaks_104 sf_58 rfl (by omega) (by decide) ?_
          refine x_iald dX10_findBreaks_105 sf_54 hp (by omega) (by decide) ?_
          refine x_iload_n dX10_findBreaks_106 rfl ?_
          refine x_ishr dX10_findBreaks_107 ?_
          refine x_iconst (v := 1) dX10_findBreaks_108 (by decide) ?_
          refine x_iand dX10_findBreaks_109 ?_
          refine x_iconst (v := 1) dX10_findBreaks_110 (by decide) ?_
          refine x_icmp_ne 131 dX10_findBreaks_111 (by decide) (fun h111 => ?_) (fun h111 => ?_)
          · refine x_iconst (v := 0) dX10_findBreaks_131 (by decide) ?_
            first | (rw [show lies (M 54 q) (nI m) = false from decide_eq_false h111] at fin; exact fin) | (rw [show lies (M 54 q) (nI m) = true from decide_eq_true h111, ← hbd, show lies (b' d) (nI m) = true from lies_t h124] at fin; exact fin) | (rw [show lies (M 54 q) (nI m) = true from decide_eq_true h111, ← hbd, show lies (b' d) (nI m) = false from lies_f h124] at fin; exact fin)
          · refine x_aload_n dX10_findBreaks_114 rfl ?_
            refine x_getr fl_X10_47 dX10_findBreaks_115 sf_48 rfl ?_
            refine x_iload_n dX10_findBreaks_118 rfl ?_
            refine x_iald dX10_findBreaks_119 sf_61 rfl (by omega) (by decide) ?_
            refine x_iload_n dX10_findBreaks_120 rfl ?_
            refine x_ishr dX10_findBreaks_121 ?_
            refine x_iconst (v := 1) dX10_findBreaks_122 (by decide) ?_
            refine x_iand dX10_findBreaks_123 ?_
            refine x_if_ne 131 dX10_findBreaks_124 (by decide) (fun h124 => ?_) (fun h124 => ?_)
            · refine x_iconst (v := 0) dX10_findBreaks_131 (by decide) ?_
              first | (rw [show lies (M 54 q) (nI m) = false from decide_eq_false h111] at fin; exact fin) | (rw [show lies (M 54 q) (nI m) = true from decide_eq_true h111, ← hbd, show lies (b' d) (nI m) = true from lies_t h124] at fin; exact fin) | (rw [show lies (M 54 q) (nI m) = true from decide_eq_true h111, ← hbd, show lies (b' d) (nI m) = false from lies_f h124] at fin; exact fin)
            · refine x_iconst (v := 1) dX10_findBreaks_127 (by decide) ?_
              refine x_goto 132 dX10_findBreaks_128 (by decide) ?_
              first | (rw [show lies (M 54 q) (nI m) = false from decide_eq_false h111] at fin; exact fin) | (rw [show lies (M 54 q) (nI m) = true from decide_eq_true h111, ← hbd, show lies (b' d) (nI m) = true from lies_t h124] at fin; exact fin) | (rw [show lies (M 54 q) (nI m) = true from decide_eq_true h111, ← hbd, show lies (b' d) (nI m) = false from lies_f h124] at fin; exact fin)
    · rw [dn, if_neg hlt] at cont
      rw [enT, if_neg hlt, fwV, if_neg hlt]
      have cc := cont (upd p d (-4)) (upd t d 0) c b s l3 l4 l5 (fun j hj => ⟨pk_un (by omega), pk_un (by omega), rfl, rfl, rfl⟩)
      rw [← nI_m] at cc
      refine x_iload_n dX10_findBreaks_44 rfl ?_
      refine x_if_lt 258 dX10_findBreaks_45 (by decide) (fun hc_ => absurd hc_ (nI_pos (by omega))) (fun _ => ?_)
      refine x_aload_n dX10_findBreaks_48 rfl ?_
      refine x_getr fl_X10_38 dX10_findBreaks_49 sf_48 rfl ?_
      refine x_iload_n dX10_findBreaks_52 rfl ?_
      refine x_iald dX10_findBreaks_53 sf_58 rfl (by omega) (by decide) ?_
      refine x_bipush (v := -4) dX10_findBreaks_54 (by decide) ?_
      refine x_icmp_eq 72 dX10_findBreaks_56 (by decide) (fun _ => ?_) (fun hc_ => absurd (by show upd p d (-4) d = -4; rw [pk_us]) hc_)
      refine x_iincm dX10_findBreaks_72 rfl (by decide) ?_
      refine x_goto 44 dX10_findBreaks_75 (by decide) ?_
      exact cc
