/-! THE CLAIM OUT OF ONE WALK OF THE LAW'S BODY. Your part is whole_start (and what it stands on); all else here is the same for every law, but numbers. -/
def R_law : String := "NoSquareLaw"
def lw_P (b : Addr) (xs : List Int32) (args : Array Value) (s : State) : Prop := args = #[.ref b] ∧ s.IntsAt b xs ∧ xs.length ≤ 2560 ∧ (Jvm.Cond.and given_1 narrow_1).before args s = true
def lw_Q (_ : Array Value) (s : State) (o : Outcome) (t : State) : Prop := o = .returned (some (.int 1)) ∧ Framed s o t [] 600000 7302250
def lw_Z (below : List Frame) (a : Array Value) (s : State) : State → Prop := fun t => ∃ o, t.status = .running ∧ Ended t below o ∧ lw_Q a s o t
/-- the law's own end, with 1 on the stack, nothing written that was there before, its room as the claim has it -/
theorem lw_ret {p : Program} {l : Launch} {e : Env} {s : State} {m : MethodId} {below : List Frame} {meth : Method} {c : Code} {b : Nat} (hx : p.tables.exec = Jvm.exec) (hb : c.code = code) (hr : meth.sig.returnType = ret) (hlocks : meth.locks = false) {pc : Nat} {H : Heap} {ls : Array Slot} (hdg : decode code pc = .ok (.ireturn, 1)) : W p l e room_1 s m #[Value.ref b] below meth c H [] 600000 7302250 (lw_Z below #[Value.ref b] s) (F0 m pc ls [.int 1]) := by
  intro T hT X
  obtain ⟨fs, hret, hrun, hended, hW, hframe⟩ := X.leave (v := some (.int 1)) (hlocks := hlocks) (fun h => by rw [hr] at h; cases h)
  have hmeth' : T.vm.method? m = some meth := X.method'
  refine ⟨T.setFrames fs, ?_, .returned (some (.int 1)), hrun, hended, rfl, ⟨_, rfl⟩, hW, hframe⟩
  jvm_step X.here [X.here.top, hx, hb, hdg, hmeth', hr, ret, narrow_b1]
  (try refine ⟨rfl, ?_⟩); (try refine ⟨rfl, ?_⟩)
  first | (intro acts; rw [hret _ acts rfl rfl rfl]) | rw [hret _ _ rfl rfl rfl]
  exact Steps.refl _
/-- what holds at the law's entry: the machine, the code, the tables' words (any of lw_tbl by 'hts w (by decide +kernel)'), the script of L ints xs at the cell b, what the Statement gives of the start (any of its parts by flat_of_before) -/
def lw_At (p : Program) (s : State) (m : MethodId) (meth : Method) (c : Code) (b L : Nat) (xs : Nat → Int32) : Prop :=
  p.tables.exec = Jvm.exec ∧ c.code = code ∧ meth.sig.returnType = ret ∧ c.maxLocals = 4 ∧ s.vm.findClass R_law = some m.cls ∧ (∀ w ∈ lw_tbl, w.before #[Value.ref b] s = true) ∧ va_X b L xs s s.heap ∧ b < s.heap.size ∧ meth.locks = false ∧ (Jvm.Cond.and given_1 narrow_1).before #[Value.ref b] s = true

abbrev mL_law : Mi := (yL_law, cL_law, 4, ret, room_1)
/-- what the law's own start says of the script -/
def Scr (L : Nat) (xs : Nat → Int32) (args : Array Value) (s : State) (rw : Nat → Nat) (A : Nat → Prop) : Prop := va_X (rw 300) L xs s s.heap ∧ rw 300 < s.heap.size ∧ (∀ q, A q → s.heap.size ≤ q) ∧ args = #[Value.ref (rw 300)]
def Flaw (L : Nat) (xs : Nat → Int32) : Fn := fun below args s _ _ rw A _ t => Scr L xs args s rw A → lw_Z below args s t
section XLAW
variable {L : Nat} {xs : Nat → Int32} {cells slots : Nat} {S : List Ds} {M : Mm} {pc : Nat} {lv : Lv} {st : List Value}
theorem W.of_no {p : Program} {l : Launch} {e : Env} {R : Room} {s : State} {m : MethodId} {args : Array Value} {below : List Frame} {meth : Method} {c : Code} {H : Heap} {locs : List Loc} {cells slots : Nat} {Q : Prop} {Q2 : State → Prop} {g : JFrame} (h : ¬ Q) : W p l e R s m args below meth c H locs cells slots (fun t => Q → Q2 t) g := by
  intro U hU X
  exact ⟨_, Steps.refl _, fun q => absurd q h⟩
theorem W.imp {p : Program} {l : Launch} {e : Env} {R : Room} {s : State} {m : MethodId} {args : Array Value} {below : List Frame} {meth : Method} {c : Code} {H : Heap} {locs : List Loc} {cells slots : Nat} {Q Q2 : State → Prop} {g : JFrame} (h : W p l e R s m args below meth c H locs cells slots Q g) (hq : ∀ t, Q t → Q2 t) : W p l e R s m args below meth c H locs cells slots Q2 g := by
  intro U hU X
  obtain ⟨t, a, b⟩ := h U hU X
  exact ⟨t, a, hq t b⟩
theorem x_sld {a : Int32} {q : Nat} (hd : decode code pc = .ok (.iaload, 1)) (ha : a = nI q) (hq : q < L) (hL : L ≤ 2560) (kk : XW mL_law (Flaw L xs) cells slots S M (pc + 1) lv (.int (xs q) :: st)) : XW mL_law (Flaw L xs) cells slots S M pc lv (.int a :: .retAddr 300 :: st) := by
  intro p l e s m args below meth cd D cA rw A ad0 ad H locs ls cx hpre hlen hP hD hS hl
  subst ha
  by_cases hs : Scr L xs args s rw A
  · refine va_sld cx.1 cx.2.1 hs.1 hs.2.1 (fun q => absurd (hs.2.2.1 _ q) (by have := hs.2.1; omega)) hS (vp_in_nI hq (by omega)) hd ?_
    rw [nI_clamp (by omega)]
    exact kk p l e s m args below meth cd D cA rw A ad0 ad H locs ls cx hpre hlen hP hD hS hl
  · exact W.of_no hs
theorem x_slenL (hd : decode code pc = .ok (.arraylength, 1)) (kk : XW mL_law (Flaw L xs) cells slots S M (pc + 1) lv (.int (nI L) :: st)) : XW mL_law (Flaw L xs) cells slots S M pc lv (.retAddr 300 :: st) := by
  intro p l e s m args below meth cd D cA rw A ad0 ad H locs ls cx hpre hlen hP hD hS hl
  by_cases hs : Scr L xs args s rw A
  · exact va_slen cx.1 cx.2.1 hs.1 hs.2.1 (fun q => absurd (hs.2.2.1 _ q) (by have := hs.2.1; omega)) hS hd (kk p l e s m args below meth cd D cA rw A ad0 ad H locs ls cx hpre hlen hP hD hS hl)
  · exact W.of_no hs
theorem x_lend (hd : decode code pc = .ok (.ireturn, 1)) (hc : cells ≤ 600000) (hs2 : slots ≤ 7302250) : XW mL_law (Flaw L xs) cells slots S M pc lv [.int 1] := by
  intro p l e s m args below meth cd D cA rw A ad0 ad H locs ls cx hpre hlen hP hD hS hl
  by_cases hs : Scr L xs args s rw A
  · obtain ⟨h1, h2, h3, h4⟩ := id hs
    subst h4
    refine va_forget (fun q hq => h3 _ (hS.2.2 q hq)) ?_
    refine W.widen hc hs2 ?_
    refine W.imp (lw_ret cx.1 cx.2.1 cx.2.2.2.1 cx.2.2.2.2.2.1 hd) (fun t ht _ => ht)
  · exact W.of_no hs
end XLAW
theorem lc_feed {L i cells slots : Nat} {xs : Nat → Int32} {Z : List (Option Nat)} {ext : List Ds} {M : Mm} (hL : L ≤ 2560) (hi : i + 5 ≤ L) (hce : cells ≤ 500000) (hsl : slots ≤ 7000000) (hop : ∀ (a : Int64), OpI mX9_feed mX10_feed [.long a] Z ext M) (fin : ∀ M2 : Mm, Inv Z ext M2 → XW mL_law (Flaw L xs) cells slots (SS Z ext) M2 1181 [some (.retAddr 300), some (.ref 0), some (.ref 48), some (.int (nI i))] []) : XW mL_law (Flaw L xs) cells slots (SS Z ext) M 188 [some (.retAddr 300), some (.ref 0), some (.ref 48), some (.int (nI i))] [] := by
  obtain ⟨v, hC⟩ := hop (((xs (i + 1)).toInt64 <<< ((32 : Int32).toInt64 &&& 63)) ||| ((xs (i + 2)).toInt64 &&& 4294967295))
  have hce2 : cells ≤ 600000 := by omega
  have hsl2 : slots ≤ 7302250 := by omega
  refine x_aload_n dL_law_188 rfl ?_
  refine x_aload_nR dL_law_189 rfl ?_
  refine x_iload_n dL_law_190 rfl ?_
  refine x_iconst (v := 1) dL_law_191 (by decide) ?_
  refine x_iadd dL_law_192 ?_
  refine x_sld (q := i + 1) dL_law_193 (nI_add i 1) (by omega) hL ?_
  refine x_i2l dL_law_194 ?_
  refine x_bipush (v := 32) dL_law_195 (by decide) ?_
  refine x_lshl dL_law_197 ?_
  refine x_aload_nR dL_law_198 rfl ?_
  refine x_iload_n dL_law_199 rfl ?_
  refine x_iconst (v := 2) dL_law_200 (by decide) ?_
  refine x_iadd dL_law_201 ?_
  refine x_sld (q := i + 2) dL_law_202 (nI_add i 2) (by omega) hL ?_
  refine x_i2l dL_law_203 ?_
  refine x_ldc2 dL_law_204 kc_L_13 ?_
  refine x_land dL_law_207 ?_
  refine x_lor dL_law_208 ?_
  refine x_cv mf_X9_feed ml_L_15 dL_law_209 rfl sf_0 rfl ⟨by decide, by decide⟩ (Nat.le_of_ble_eq_true rfl) ⟨rfl, rfl⟩ ⟨hce2, hsl2⟩ hC (fun r M1 h => ?_)
  obtain ⟨hr, hC2⟩ := h
  subst hr
  refine x_aload_n dL_law_212 rfl ?_
  refine x_aload_nR dL_law_213 rfl ?_
  refine x_iload_n dL_law_214 rfl ?_
  refine x_iconst (v := 1) dL_law_215 (by decide) ?_
  refine x_iadd dL_law_216 ?_
  refine x_sld (q := i + 1) dL_law_217 (nI_add i 1) (by omega) hL ?_
  refine x_i2l dL_law_218 ?_
  refine x_bipush (v := 32) dL_law_219 (by decide) ?_
  refine x_lshl dL_law_221 ?_
  refine x_aload_nR dL_law_222 rfl ?_
  refine x_iload_n dL_law_223 rfl ?_
  refine x_iconst (v := 2) dL_law_224 (by decide) ?_
  refine x_iadd dL_law_225 ?_
  refine x_sld (q := i + 2) dL_law_226 (nI_add i 2) (by omega) hL ?_
  refine x_i2l dL_law_227 ?_
  refine x_ldc2 dL_law_228 kc_L_13 ?_
  refine x_land dL_law_231 ?_
  refine x_lor dL_law_232 ?_
  refine x_cv mf_X10_feed ml_L_19 dL_law_233 rfl sf_48 rfl ⟨by decide, by decide⟩ (Nat.le_of_ble_eq_true rfl) ⟨rfl, rfl⟩ ⟨hce2, hsl2⟩ hC2 (fun r M2 h => ?_)
  obtain ⟨hr, hI⟩ := h
  subst hr
  exact x_icmp_eq 1181 dL_law_236 (by decide) (fun _ => fin M2 hI) (fun hc => absurd rfl hc)
theorem lc_end {L i cells slots : Nat} {xs : Nat → Int32} {Z : List (Option Nat)} {ext : List Ds} {M : Mm} (hL : L ≤ 2560) (hi : i + 5 ≤ L) (hce : cells ≤ 500000) (hsl : slots ≤ 7000000) (hop : ∀ (a : Int32), OpI mX9_end mX10_end [.int a] Z ext M) (fin : ∀ M2 : Mm, Inv Z ext M2 → XW mL_law (Flaw L xs) cells slots (SS Z ext) M2 1181 [some (.retAddr 300), some (.ref 0), some (.ref 48), some (.int (nI i))] []) : XW mL_law (Flaw L xs) cells slots (SS Z ext) M 241 [some (.retAddr 300), some (.ref 0), some (.ref 48), some (.int (nI i))] [] := by
  obtain ⟨v, hC⟩ := hop (xs (i + 1))
  have hce2 : cells ≤ 600000 := by omega
  have hsl2 : slots ≤ 7302250 := by omega
  refine x_aload_n dL_law_241 rfl ?_
  refine x_aload_nR dL_law_242 rfl ?_
  refine x_iload_n dL_law_243 rfl ?_
  refine x_iconst (v := 1) dL_law_244 (by decide) ?_
  refine x_iadd dL_law_245 ?_
  refine x_sld (q := i + 1) dL_law_246 (nI_add i 1) (by omega) hL ?_
  refine x_cv mf_X9_end ml_L_20 dL_law_247 rfl sf_0 rfl ⟨by decide, by decide⟩ (Nat.le_of_ble_eq_true rfl) ⟨rfl, rfl⟩ ⟨hce2, hsl2⟩ hC (fun r M1 h => ?_)
  obtain ⟨hr, hC2⟩ := h
  subst hr
  refine x_aload_n dL_law_250 rfl ?_
  refine x_aload_nR dL_law_251 rfl ?_
  refine x_iload_n dL_law_252 rfl ?_
  refine x_iconst (v := 1) dL_law_253 (by decide) ?_
  refine x_iadd dL_law_254 ?_
  refine x_sld (q := i + 1) dL_law_255 (nI_add i 1) (by omega) hL ?_
  refine x_cv mf_X10_end ml_L_24 dL_law_256 rfl sf_48 rfl ⟨by decide, by decide⟩ (Nat.le_of_ble_eq_true rfl) ⟨rfl, rfl⟩ ⟨hce2, hsl2⟩ hC2 (fun r M2 h => ?_)
  obtain ⟨hr, hI⟩ := h
  subst hr
  exact x_icmp_eq 1181 dL_law_259 (by decide) (fun _ => fin M2 hI) (fun hc => absurd rfl hc)
theorem lc_text {L i cells slots : Nat} {xs : Nat → Int32} {Z : List (Option Nat)} {ext : List Ds} {M : Mm} (hL : L ≤ 2560) (hi : i + 5 ≤ L) (hce : cells ≤ 500000) (hsl : slots ≤ 7000000) (hop : OpI mX9_text mX10_text [] Z ext M) (fin : ∀ M2 : Mm, Inv Z ext M2 → XW mL_law (Flaw L xs) cells slots (SS Z ext) M2 1181 [some (.retAddr 300), some (.ref 0), some (.ref 48), some (.int (nI i))] []) : XW mL_law (Flaw L xs) cells slots (SS Z ext) M 264 [some (.retAddr 300), some (.ref 0), some (.ref 48), some (.int (nI i))] [] := by
  obtain ⟨v, hC⟩ := hop 
  have hce2 : cells ≤ 600000 := by omega
  have hsl2 : slots ≤ 7302250 := by omega
  refine x_aload_n dL_law_264 rfl ?_
  refine x_cv mf_X9_text ml_L_25 dL_law_265 rfl sf_0 rfl ⟨by decide, by decide⟩ (Nat.le_of_ble_eq_true rfl) ⟨rfl, rfl⟩ ⟨hce2, hsl2⟩ hC (fun r M1 h => ?_)
  obtain ⟨hr, hC2⟩ := h
  subst hr
  refine x_aload_n dL_law_268 rfl ?_
  refine x_cv mf_X10_text ml_L_29 dL_law_269 rfl sf_48 rfl ⟨by decide, by decide⟩ (Nat.le_of_ble_eq_true rfl) ⟨rfl, rfl⟩ ⟨hce2, hsl2⟩ hC2 (fun r M2 h => ?_)
  obtain ⟨hr, hI⟩ := h
  subst hr
  exact x_icmp_eq 1181 dL_law_272 (by decide) (fun _ => fin M2 hI) (fun hc => absurd rfl hc)
theorem lc_fault {L i cells slots : Nat} {xs : Nat → Int32} {Z : List (Option Nat)} {ext : List Ds} {M : Mm} (hL : L ≤ 2560) (hi : i + 5 ≤ L) (hce : cells ≤ 500000) (hsl : slots ≤ 7000000) (hop : OpI mX9_fault mX10_fault [] Z ext M) (fin : ∀ M2 : Mm, Inv Z ext M2 → XW mL_law (Flaw L xs) cells slots (SS Z ext) M2 1181 [some (.retAddr 300), some (.ref 0), some (.ref 48), some (.int (nI i))] []) : XW mL_law (Flaw L xs) cells slots (SS Z ext) M 277 [some (.retAddr 300), some (.ref 0), some (.ref 48), some (.int (nI i))] [] := by
  obtain ⟨v, hC⟩ := hop 
  have hce2 : cells ≤ 600000 := by omega
  have hsl2 : slots ≤ 7302250 := by omega
  refine x_aload_n dL_law_277 rfl ?_
  refine x_cv mf_X9_fault ml_L_30 dL_law_278 rfl sf_0 rfl ⟨by decide, by decide⟩ (Nat.le_of_ble_eq_true rfl) ⟨rfl, rfl⟩ ⟨hce2, hsl2⟩ hC (fun r M1 h => ?_)
  obtain ⟨hr, hC2⟩ := h
  subst hr
  refine x_aload_n dL_law_281 rfl ?_
  refine x_cv mf_X10_fault ml_L_33 dL_law_282 rfl sf_48 rfl ⟨by decide, by decide⟩ (Nat.le_of_ble_eq_true rfl) ⟨rfl, rfl⟩ ⟨hce2, hsl2⟩ hC2 (fun r M2 h => ?_)
  obtain ⟨hr, hI⟩ := h
  subst hr
  exact x_icmp_eq 1181 dL_law_285 (by decide) (fun _ => fin M2 hI) (fun hc => absurd rfl hc)
theorem lc_rule {L i cells slots : Nat} {xs : Nat → Int32} {Z : List (Option Nat)} {ext : List Ds} {M : Mm} (hL : L ≤ 2560) (hi : i + 5 ≤ L) (hce : cells ≤ 500000) (hsl : slots ≤ 7000000) (hop : ∀ (a : Int32), OpI mX9_rule mX10_rule [.int a] Z ext M) (fin : ∀ M2 : Mm, Inv Z ext M2 → XW mL_law (Flaw L xs) cells slots (SS Z ext) M2 1181 [some (.retAddr 300), some (.ref 0), some (.ref 48), some (.int (nI i))] []) : XW mL_law (Flaw L xs) cells slots (SS Z ext) M 290 [some (.retAddr 300), some (.ref 0), some (.ref 48), some (.int (nI i))] [] := by
  obtain ⟨v, hC⟩ := hop (xs (i + 1))
  have hce2 : cells ≤ 600000 := by omega
  have hsl2 : slots ≤ 7302250 := by omega
  refine x_aload_n dL_law_290 rfl ?_
  refine x_aload_nR dL_law_291 rfl ?_
  refine x_iload_n dL_law_292 rfl ?_
  refine x_iconst (v := 1) dL_law_293 (by decide) ?_
  refine x_iadd dL_law_294 ?_
  refine x_sld (q := i + 1) dL_law_295 (nI_add i 1) (by omega) hL ?_
  refine x_cv mf_X9_rule ml_L_34 dL_law_296 rfl sf_0 rfl ⟨by decide, by decide⟩ (Nat.le_of_ble_eq_true rfl) ⟨rfl, rfl⟩ ⟨hce2, hsl2⟩ hC (fun r M1 h => ?_)
  obtain ⟨hr, hC2⟩ := h
  subst hr
  refine x_aload_n dL_law_299 rfl ?_
  refine x_aload_nR dL_law_300 rfl ?_
  refine x_iload_n dL_law_301 rfl ?_
  refine x_iconst (v := 1) dL_law_302 (by decide) ?_
  refine x_iadd dL_law_303 ?_
  refine x_sld (q := i + 1) dL_law_304 (nI_add i 1) (by omega) hL ?_
  refine x_cv mf_X10_rule ml_L_37 dL_law_305 rfl sf_48 rfl ⟨by decide, by decide⟩ (Nat.le_of_ble_eq_true rfl) ⟨rfl, rfl⟩ ⟨hce2, hsl2⟩ hC2 (fun r M2 h => ?_)
  obtain ⟨hr, hI⟩ := h
  subst hr
  exact x_icmp_eq 1181 dL_law_308 (by decide) (fun _ => fin M2 hI) (fun hc => absurd rfl hc)
theorem lc_square {L i cells slots : Nat} {xs : Nat → Int32} {Z : List (Option Nat)} {ext : List Ds} {M : Mm} (hL : L ≤ 2560) (hi : i + 5 ≤ L) (hce : cells ≤ 500000) (hsl : slots ≤ 7000000) (hop : ∀ (a : Int32) (b : Int32), OpI mX9_square mX10_square [.int a, .int b] Z ext M) (fin : ∀ M2 : Mm, Inv Z ext M2 → XW mL_law (Flaw L xs) cells slots (SS Z ext) M2 1181 [some (.retAddr 300), some (.ref 0), some (.ref 48), some (.int (nI i))] []) : XW mL_law (Flaw L xs) cells slots (SS Z ext) M 313 [some (.retAddr 300), some (.ref 0), some (.ref 48), some (.int (nI i))] [] := by
  obtain ⟨v, hC⟩ := hop (xs (i + 1)) (xs (i + 2))
  have hce2 : cells ≤ 600000 := by omega
  have hsl2 : slots ≤ 7302250 := by omega
  refine x_aload_n dL_law_313 rfl ?_
  refine x_aload_nR dL_law_314 rfl ?_
  refine x_iload_n dL_law_315 rfl ?_
  refine x_iconst (v := 1) dL_law_316 (by decide) ?_
  refine x_iadd dL_law_317 ?_
  refine x_sld (q := i + 1) dL_law_318 (nI_add i 1) (by omega) hL ?_
  refine x_aload_nR dL_law_319 rfl ?_
  refine x_iload_n dL_law_320 rfl ?_
  refine x_iconst (v := 2) dL_law_321 (by decide) ?_
  refine x_iadd dL_law_322 ?_
  refine x_sld (q := i + 2) dL_law_323 (nI_add i 2) (by omega) hL ?_
  refine x_cv mf_X9_square ml_L_38 dL_law_324 rfl sf_0 rfl ⟨by decide, by decide⟩ (Nat.le_of_ble_eq_true rfl) ⟨rfl, rfl⟩ ⟨hce2, hsl2⟩ hC (fun r M1 h => ?_)
  obtain ⟨hr, hC2⟩ := h
  subst hr
  refine x_aload_n dL_law_327 rfl ?_
  refine x_aload_nR dL_law_328 rfl ?_
  refine x_iload_n dL_law_329 rfl ?_
  refine x_iconst (v := 1) dL_law_330 (by decide) ?_
  refine x_iadd dL_law_331 ?_
  refine x_sld (q := i + 1) dL_law_332 (nI_add i 1) (by omega) hL ?_
  refine x_aload_nR dL_law_333 rfl ?_
  refine x_iload_n dL_law_334 rfl ?_
  refine x_iconst (v := 2) dL_law_335 (by decide) ?_
  refine x_iadd dL_law_336 ?_
  refine x_sld (q := i + 2) dL_law_337 (nI_add i 2) (by omega) hL ?_
  refine x_cv mf_X10_square ml_L_42 dL_law_338 rfl sf_48 rfl ⟨by decide, by decide⟩ (Nat.le_of_ble_eq_true rfl) ⟨rfl, rfl⟩ ⟨hce2, hsl2⟩ hC2 (fun r M2 h => ?_)
  obtain ⟨hr, hI⟩ := h
  subst hr
  exact x_icmp_eq 1181 dL_law_341 (by decide) (fun _ => fin M2 hI) (fun hc => absurd rfl hc)
theorem lc_cost {L i cells slots : Nat} {xs : Nat → Int32} {Z : List (Option Nat)} {ext : List Ds} {M : Mm} (hL : L ≤ 2560) (hi : i + 5 ≤ L) (hce : cells ≤ 500000) (hsl : slots ≤ 7000000) (hop : ∀ (a : Int32), OpI mX9_cost mX10_cost [.int a] Z ext M) (fin : ∀ M2 : Mm, Inv Z ext M2 → XW mL_law (Flaw L xs) cells slots (SS Z ext) M2 1181 [some (.retAddr 300), some (.ref 0), some (.ref 48), some (.int (nI i))] []) : XW mL_law (Flaw L xs) cells slots (SS Z ext) M 346 [some (.retAddr 300), some (.ref 0), some (.ref 48), some (.int (nI i))] [] := by
  obtain ⟨v, hC⟩ := hop (xs (i + 1))
  have hce2 : cells ≤ 600000 := by omega
  have hsl2 : slots ≤ 7302250 := by omega
  refine x_aload_n dL_law_346 rfl ?_
  refine x_aload_nR dL_law_347 rfl ?_
  refine x_iload_n dL_law_348 rfl ?_
  refine x_iconst (v := 1) dL_law_349 (by decide) ?_
  refine x_iadd dL_law_350 ?_
  refine x_sld (q := i + 1) dL_law_351 (nI_add i 1) (by omega) hL ?_
  refine x_cv mf_X9_cost ml_L_43 dL_law_352 rfl sf_0 rfl ⟨by decide, by decide⟩ (Nat.le_of_ble_eq_true rfl) ⟨rfl, rfl⟩ ⟨hce2, hsl2⟩ hC (fun r M1 h => ?_)
  obtain ⟨hr, hC2⟩ := h
  subst hr
  refine x_aload_n dL_law_355 rfl ?_
  refine x_aload_nR dL_law_356 rfl ?_
  refine x_iload_n dL_law_357 rfl ?_
  refine x_iconst (v := 1) dL_law_358 (by decide) ?_
  refine x_iadd dL_law_359 ?_
  refine x_sld (q := i + 1) dL_law_360 (nI_add i 1) (by omega) hL ?_
  refine x_cv mf_X10_cost ml_L_46 dL_law_361 rfl sf_48 rfl ⟨by decide, by decide⟩ (Nat.le_of_ble_eq_true rfl) ⟨rfl, rfl⟩ ⟨hce2, hsl2⟩ hC2 (fun r M2 h => ?_)
  obtain ⟨hr, hI⟩ := h
  subst hr
  exact x_icmp_eq 1181 dL_law_364 (by decide) (fun _ => fin M2 hI) (fun hc => absurd rfl hc)
theorem lc_whole {L i cells slots : Nat} {xs : Nat → Int32} {Z : List (Option Nat)} {ext : List Ds} {M : Mm} (hL : L ≤ 2560) (hi : i + 5 ≤ L) (hce : cells ≤ 500000) (hsl : slots ≤ 7000000) (hop : ∀ (a : Int32), OpI mX9_whole mX10_whole [.int a] Z ext M) (fin : ∀ M2 : Mm, Inv Z ext M2 → XW mL_law (Flaw L xs) cells slots (SS Z ext) M2 1181 [some (.retAddr 300), some (.ref 0), some (.ref 48), some (.int (nI i))] []) : XW mL_law (Flaw L xs) cells slots (SS Z ext) M 369 [some (.retAddr 300), some (.ref 0), some (.ref 48), some (.int (nI i))] [] := by
  obtain ⟨v, hC⟩ := hop (xs (i + 1))
  have hce2 : cells ≤ 600000 := by omega
  have hsl2 : slots ≤ 7302250 := by omega
  refine x_aload_n dL_law_369 rfl ?_
  refine x_aload_nR dL_law_370 rfl ?_
  refine x_iload_n dL_law_371 rfl ?_
  refine x_iconst (v := 1) dL_law_372 (by decide) ?_
  refine x_iadd dL_law_373 ?_
  refine x_sld (q := i + 1) dL_law_374 (nI_add i 1) (by omega) hL ?_
  refine x_cv mf_X9_whole ml_L_47 dL_law_375 rfl sf_0 rfl ⟨by decide, by decide⟩ (Nat.le_of_ble_eq_true rfl) ⟨rfl, rfl⟩ ⟨hce2, hsl2⟩ hC (fun r M1 h => ?_)
  obtain ⟨hr, hC2⟩ := h
  subst hr
  refine x_aload_n dL_law_378 rfl ?_
  refine x_aload_nR dL_law_379 rfl ?_
  refine x_iload_n dL_law_380 rfl ?_
  refine x_iconst (v := 1) dL_law_381 (by decide) ?_
  refine x_iadd dL_law_382 ?_
  refine x_sld (q := i + 1) dL_law_383 (nI_add i 1) (by omega) hL ?_
  refine x_cv mf_X10_whole ml_L_50 dL_law_384 rfl sf_48 rfl ⟨by decide, by decide⟩ (Nat.le_of_ble_eq_true rfl) ⟨rfl, rfl⟩ ⟨hce2, hsl2⟩ hC2 (fun r M2 h => ?_)
  obtain ⟨hr, hI⟩ := h
  subst hr
  exact x_icmp_eq 1181 dL_law_387 (by decide) (fun _ => fin M2 hI) (fun hc => absurd rfl hc)
theorem lc_left {L i cells slots : Nat} {xs : Nat → Int32} {Z : List (Option Nat)} {ext : List Ds} {M : Mm} (hL : L ≤ 2560) (hi : i + 5 ≤ L) (hce : cells ≤ 500000) (hsl : slots ≤ 7000000) (hop : OpI mX9_left mX10_left [] Z ext M) (fin : ∀ M2 : Mm, Inv Z ext M2 → XW mL_law (Flaw L xs) cells slots (SS Z ext) M2 1181 [some (.retAddr 300), some (.ref 0), some (.ref 48), some (.int (nI i))] []) : XW mL_law (Flaw L xs) cells slots (SS Z ext) M 392 [some (.retAddr 300), some (.ref 0), some (.ref 48), some (.int (nI i))] [] := by
  obtain ⟨v, hC⟩ := hop 
  have hce2 : cells ≤ 600000 := by omega
  have hsl2 : slots ≤ 7302250 := by omega
  refine x_aload_n dL_law_392 rfl ?_
  refine x_cv mf_X9_left ml_L_51 dL_law_393 rfl sf_0 rfl ⟨by decide, by decide⟩ (Nat.le_of_ble_eq_true rfl) ⟨rfl, rfl⟩ ⟨hce2, hsl2⟩ hC (fun r M1 h => ?_)
  obtain ⟨hr, hC2⟩ := h
  subst hr
  refine x_aload_n dL_law_396 rfl ?_
  refine x_cv mf_X10_left ml_L_54 dL_law_397 rfl sf_48 rfl ⟨by decide, by decide⟩ (Nat.le_of_ble_eq_true rfl) ⟨rfl, rfl⟩ ⟨hce2, hsl2⟩ hC2 (fun r M2 h => ?_)
  obtain ⟨hr, hI⟩ := h
  subst hr
  exact x_icmp_eq 1181 dL_law_400 (by decide) (fun _ => fin M2 hI) (fun hc => absurd rfl hc)
theorem lc_take {L i cells slots : Nat} {xs : Nat → Int32} {Z : List (Option Nat)} {ext : List Ds} {M : Mm} (hL : L ≤ 2560) (hi : i + 5 ≤ L) (hce : cells ≤ 500000) (hsl : slots ≤ 7000000) (hop : ∀ (a : Int32), OpI mX9_take mX10_take [.int a] Z ext M) (fin : ∀ M2 : Mm, Inv Z ext M2 → XW mL_law (Flaw L xs) cells slots (SS Z ext) M2 1181 [some (.retAddr 300), some (.ref 0), some (.ref 48), some (.int (nI i))] []) : XW mL_law (Flaw L xs) cells slots (SS Z ext) M 405 [some (.retAddr 300), some (.ref 0), some (.ref 48), some (.int (nI i))] [] := by
  obtain ⟨v, hC⟩ := hop (xs (i + 1))
  have hce2 : cells ≤ 600000 := by omega
  have hsl2 : slots ≤ 7302250 := by omega
  refine x_aload_n dL_law_405 rfl ?_
  refine x_aload_nR dL_law_406 rfl ?_
  refine x_iload_n dL_law_407 rfl ?_
  refine x_iconst (v := 1) dL_law_408 (by decide) ?_
  refine x_iadd dL_law_409 ?_
  refine x_sld (q := i + 1) dL_law_410 (nI_add i 1) (by omega) hL ?_
  refine x_cv mf_X9_take ml_L_55 dL_law_411 rfl sf_0 rfl ⟨by decide, by decide⟩ (Nat.le_of_ble_eq_true rfl) ⟨rfl, rfl⟩ ⟨hce2, hsl2⟩ hC (fun r M1 h => ?_)
  obtain ⟨hr, hC2⟩ := h
  subst hr
  refine x_aload_n dL_law_414 rfl ?_
  refine x_aload_nR dL_law_415 rfl ?_
  refine x_iload_n dL_law_416 rfl ?_
  refine x_iconst (v := 1) dL_law_417 (by decide) ?_
  refine x_iadd dL_law_418 ?_
  refine x_sld (q := i + 1) dL_law_419 (nI_add i 1) (by omega) hL ?_
  refine x_cv mf_X10_take ml_L_58 dL_law_420 rfl sf_48 rfl ⟨by decide, by decide⟩ (Nat.le_of_ble_eq_true rfl) ⟨rfl, rfl⟩ ⟨hce2, hsl2⟩ hC2 (fun r M2 h => ?_)
  obtain ⟨hr, hI⟩ := h
  subst hr
  exact x_icmp_eq 1181 dL_law_423 (by decide) (fun _ => fin M2 hI) (fun hc => absurd rfl hc)
theorem lc_lie {L i cells slots : Nat} {xs : Nat → Int32} {Z : List (Option Nat)} {ext : List Ds} {M : Mm} (hL : L ≤ 2560) (hi : i + 5 ≤ L) (hce : cells ≤ 500000) (hsl : slots ≤ 7000000) (hop : ∀ (a : Int32), OpI mX9_lie mX10_lie [.int a] Z ext M) (fin : ∀ M2 : Mm, Inv Z ext M2 → XW mL_law (Flaw L xs) cells slots (SS Z ext) M2 1181 [some (.retAddr 300), some (.ref 0), some (.ref 48), some (.int (nI i))] []) : XW mL_law (Flaw L xs) cells slots (SS Z ext) M 428 [some (.retAddr 300), some (.ref 0), some (.ref 48), some (.int (nI i))] [] := by
  obtain ⟨v, hC⟩ := hop (xs (i + 1))
  have hce2 : cells ≤ 600000 := by omega
  have hsl2 : slots ≤ 7302250 := by omega
  refine x_aload_n dL_law_428 rfl ?_
  refine x_aload_nR dL_law_429 rfl ?_
  refine x_iload_n dL_law_430 rfl ?_
  refine x_iconst (v := 1) dL_law_431 (by decide) ?_
  refine x_iadd dL_law_432 ?_
  refine x_sld (q := i + 1) dL_law_433 (nI_add i 1) (by omega) hL ?_
  refine x_cv mf_X9_lie ml_L_59 dL_law_434 rfl sf_0 rfl ⟨by decide, by decide⟩ (Nat.le_of_ble_eq_true rfl) ⟨rfl, rfl⟩ ⟨hce2, hsl2⟩ hC (fun r M1 h => ?_)
  obtain ⟨hr, hC2⟩ := h
  subst hr
  refine x_aload_n dL_law_437 rfl ?_
  refine x_aload_nR dL_law_438 rfl ?_
  refine x_iload_n dL_law_439 rfl ?_
  refine x_iconst (v := 1) dL_law_440 (by decide) ?_
  refine x_iadd dL_law_441 ?_
  refine x_sld (q := i + 1) dL_law_442 (nI_add i 1) (by omega) hL ?_
  refine x_cv mf_X10_lie ml_L_62 dL_law_443 rfl sf_48 rfl ⟨by decide, by decide⟩ (Nat.le_of_ble_eq_true rfl) ⟨rfl, rfl⟩ ⟨hce2, hsl2⟩ hC2 (fun r M2 h => ?_)
  obtain ⟨hr, hI⟩ := h
  subst hr
  exact x_icmp_eq 1181 dL_law_446 (by decide) (fun _ => fin M2 hI) (fun hc => absurd rfl hc)
theorem lc_price {L i cells slots : Nat} {xs : Nat → Int32} {Z : List (Option Nat)} {ext : List Ds} {M : Mm} (hL : L ≤ 2560) (hi : i + 5 ≤ L) (hce : cells ≤ 500000) (hsl : slots ≤ 7000000) (hop : ∀ (a : Int32) (b : Int32), OpI mX9_price mX10_price [.int a, .int b] Z ext M) (fin : ∀ M2 : Mm, Inv Z ext M2 → XW mL_law (Flaw L xs) cells slots (SS Z ext) M2 1181 [some (.retAddr 300), some (.ref 0), some (.ref 48), some (.int (nI i))] []) : XW mL_law (Flaw L xs) cells slots (SS Z ext) M 451 [some (.retAddr 300), some (.ref 0), some (.ref 48), some (.int (nI i))] [] := by
  obtain ⟨v, hC⟩ := hop (xs (i + 1)) (xs (i + 2))
  have hce2 : cells ≤ 600000 := by omega
  have hsl2 : slots ≤ 7302250 := by omega
  refine x_aload_n dL_law_451 rfl ?_
  refine x_aload_nR dL_law_452 rfl ?_
  refine x_iload_n dL_law_453 rfl ?_
  refine x_iconst (v := 1) dL_law_454 (by decide) ?_
  refine x_iadd dL_law_455 ?_
  refine x_sld (q := i + 1) dL_law_456 (nI_add i 1) (by omega) hL ?_
  refine x_aload_nR dL_law_457 rfl ?_
  refine x_iload_n dL_law_458 rfl ?_
  refine x_iconst (v := 2) dL_law_459 (by decide) ?_
  refine x_iadd dL_law_460 ?_
  refine x_sld (q := i + 2) dL_law_461 (nI_add i 2) (by omega) hL ?_
  refine x_cv mf_X9_price ml_L_63 dL_law_462 rfl sf_0 rfl ⟨by decide, by decide⟩ (Nat.le_of_ble_eq_true rfl) ⟨rfl, rfl⟩ ⟨hce2, hsl2⟩ hC (fun r M1 h => ?_)
  obtain ⟨hr, hC2⟩ := h
  subst hr
  refine x_aload_n dL_law_465 rfl ?_
  refine x_aload_nR dL_law_466 rfl ?_
  refine x_iload_n dL_law_467 rfl ?_
  refine x_iconst (v := 1) dL_law_468 (by decide) ?_
  refine x_iadd dL_law_469 ?_
  refine x_sld (q := i + 1) dL_law_470 (nI_add i 1) (by omega) hL ?_
  refine x_aload_nR dL_law_471 rfl ?_
  refine x_iload_n dL_law_472 rfl ?_
  refine x_iconst (v := 2) dL_law_473 (by decide) ?_
  refine x_iadd dL_law_474 ?_
  refine x_sld (q := i + 2) dL_law_475 (nI_add i 2) (by omega) hL ?_
  refine x_cv mf_X10_price ml_L_66 dL_law_476 rfl sf_48 rfl ⟨by decide, by decide⟩ (Nat.le_of_ble_eq_true rfl) ⟨rfl, rfl⟩ ⟨hce2, hsl2⟩ hC2 (fun r M2 h => ?_)
  obtain ⟨hr, hI⟩ := h
  subst hr
  exact x_icmp_eq 1181 dL_law_479 (by decide) (fun _ => fin M2 hI) (fun hc => absurd rfl hc)
theorem lc_counts {L i cells slots : Nat} {xs : Nat → Int32} {Z : List (Option Nat)} {ext : List Ds} {M : Mm} (hL : L ≤ 2560) (hi : i + 5 ≤ L) (hce : cells ≤ 500000) (hsl : slots ≤ 7000000) (hop : ∀ (a : Int32) (b : Bool), OpI mX9_counts mX10_counts [.int a, .int (b2i b)] Z ext M) (fin : ∀ M2 : Mm, Inv Z ext M2 → XW mL_law (Flaw L xs) cells slots (SS Z ext) M2 1181 [some (.retAddr 300), some (.ref 0), some (.ref 48), some (.int (nI i))] []) : XW mL_law (Flaw L xs) cells slots (SS Z ext) M 484 [some (.retAddr 300), some (.ref 0), some (.ref 48), some (.int (nI i))] [] := by
  obtain ⟨v, hC⟩ := hop (xs (i + 1)) (!decide (xs (i + 2) = 0))
  have hce2 : cells ≤ 600000 := by omega
  have hsl2 : slots ≤ 7302250 := by omega
  refine x_aload_n dL_law_484 rfl ?_
  refine x_aload_nR dL_law_485 rfl ?_
  refine x_iload_n dL_law_486 rfl ?_
  refine x_iconst (v := 1) dL_law_487 (by decide) ?_
  refine x_iadd dL_law_488 ?_
  refine x_sld (q := i + 1) dL_law_489 (nI_add i 1) (by omega) hL ?_
  refine x_aload_nR dL_law_490 rfl ?_
  refine x_iload_n dL_law_491 rfl ?_
  refine x_iconst (v := 2) dL_law_492 (by decide) ?_
  refine x_iadd dL_law_493 ?_
  refine x_sld (q := i + 2) dL_law_494 (nI_add i 2) (by omega) hL ?_
  refine x_join M 503 [some (.retAddr 300), some (.ref 0), some (.ref 48), some (.int (nI i))] [.int (b2i (!decide (xs (i + 2) = 0))), .int (xs (i + 1)), .ref 0] ?_ (fun jn => ?_)
  · refine x_cv mf_X9_counts ml_L_67 dL_law_503 rfl sf_0 rfl ⟨by decide, by decide⟩ (Nat.le_of_ble_eq_true rfl) ⟨rfl, rfl⟩ ⟨hce2, hsl2⟩ hC (fun r M1 h => ?_)
    obtain ⟨hr, hC2⟩ := h
    subst hr
    refine x_aload_n dL_law_506 rfl ?_
    refine x_aload_nR dL_law_507 rfl ?_
    refine x_iload_n dL_law_508 rfl ?_
    refine x_iconst (v := 1) dL_law_509 (by decide) ?_
    refine x_iadd dL_law_510 ?_
    refine x_sld (q := i + 1) dL_law_511 (nI_add i 1) (by omega) hL ?_
    refine x_aload_nR dL_law_512 rfl ?_
    refine x_iload_n dL_law_513 rfl ?_
    refine x_iconst (v := 2) dL_law_514 (by decide) ?_
    refine x_iadd dL_law_515 ?_
    refine x_sld (q := i + 2) dL_law_516 (nI_add i 2) (by omega) hL ?_
    refine x_join M1 525 [some (.retAddr 300), some (.ref 0), some (.ref 48), some (.int (nI i))] [.int (b2i (!decide (xs (i + 2) = 0))), .int (xs (i + 1)), .ref 48, .int v] ?_ (fun jn => ?_)
    · refine x_cv mf_X10_counts ml_L_71 dL_law_525 rfl sf_48 rfl ⟨by decide, by decide⟩ (Nat.le_of_ble_eq_true rfl) ⟨rfl, rfl⟩ ⟨hce2, hsl2⟩ hC2 (fun r M2 h => ?_)
      obtain ⟨hr, hI⟩ := h
      subst hr
      exact x_icmp_eq 1181 dL_law_528 (by decide) (fun _ => fin M2 hI) (fun hc => absurd rfl hc)
    · refine x_if_eq 524 dL_law_517 (by decide) (fun hz => ?_) (fun hz => ?_)
      · refine x_iconst (v := 0) dL_law_524 (by decide) ?_
        rw [decide_eq_true hz] at jn
        exact jn
      · refine x_iconst (v := 1) dL_law_520 (by decide) ?_
        refine x_goto 525 dL_law_521 (by decide) ?_
        rw [decide_eq_false hz] at jn
        exact jn
  · refine x_if_eq 502 dL_law_495 (by decide) (fun hz => ?_) (fun hz => ?_)
    · refine x_iconst (v := 0) dL_law_502 (by decide) ?_
      rw [decide_eq_true hz] at jn
      exact jn
    · refine x_iconst (v := 1) dL_law_498 (by decide) ?_
      refine x_goto 503 dL_law_499 (by decide) ?_
      rw [decide_eq_false hz] at jn
      exact jn
theorem lc_fewest {L i cells slots : Nat} {xs : Nat → Int32} {Z : List (Option Nat)} {ext : List Ds} {M : Mm} (hL : L ≤ 2560) (hi : i + 5 ≤ L) (hce : cells ≤ 500000) (hsl : slots ≤ 7000000) (hop : ∀ (a : Int32), OpI mX9_fewest mX10_fewest [.int a] Z ext M) (fin : ∀ M2 : Mm, Inv Z ext M2 → XW mL_law (Flaw L xs) cells slots (SS Z ext) M2 1181 [some (.retAddr 300), some (.ref 0), some (.ref 48), some (.int (nI i))] []) : XW mL_law (Flaw L xs) cells slots (SS Z ext) M 533 [some (.retAddr 300), some (.ref 0), some (.ref 48), some (.int (nI i))] [] := by
  obtain ⟨v, hC⟩ := hop (xs (i + 1))
  have hce2 : cells ≤ 600000 := by omega
  have hsl2 : slots ≤ 7302250 := by omega
  refine x_aload_n dL_law_533 rfl ?_
  refine x_aload_nR dL_law_534 rfl ?_
  refine x_iload_n dL_law_535 rfl ?_
  refine x_iconst (v := 1) dL_law_536 (by decide) ?_
  refine x_iadd dL_law_537 ?_
  refine x_sld (q := i + 1) dL_law_538 (nI_add i 1) (by omega) hL ?_
  refine x_cv mf_X9_fewest ml_L_72 dL_law_539 rfl sf_0 rfl ⟨by decide, by decide⟩ (Nat.le_of_ble_eq_true rfl) ⟨rfl, rfl⟩ ⟨hce2, hsl2⟩ hC (fun r M1 h => ?_)
  obtain ⟨hr, hC2⟩ := h
  subst hr
  refine x_aload_n dL_law_542 rfl ?_
  refine x_aload_nR dL_law_543 rfl ?_
  refine x_iload_n dL_law_544 rfl ?_
  refine x_iconst (v := 1) dL_law_545 (by decide) ?_
  refine x_iadd dL_law_546 ?_
  refine x_sld (q := i + 1) dL_law_547 (nI_add i 1) (by omega) hL ?_
  refine x_cv mf_X10_fewest ml_L_75 dL_law_548 rfl sf_48 rfl ⟨by decide, by decide⟩ (Nat.le_of_ble_eq_true rfl) ⟨rfl, rfl⟩ ⟨hce2, hsl2⟩ hC2 (fun r M2 h => ?_)
  obtain ⟨hr, hI⟩ := h
  subst hr
  exact x_icmp_eq 1181 dL_law_551 (by decide) (fun _ => fin M2 hI) (fun hc => absurd rfl hc)
theorem lc_cheapest {L i cells slots : Nat} {xs : Nat → Int32} {Z : List (Option Nat)} {ext : List Ds} {M : Mm} (hL : L ≤ 2560) (hi : i + 5 ≤ L) (hce : cells ≤ 500000) (hsl : slots ≤ 7000000) (hop : ∀ (a : Int32), OpI mX9_cheapest mX10_cheapest [.int a] Z ext M) (fin : ∀ M2 : Mm, Inv Z ext M2 → XW mL_law (Flaw L xs) cells slots (SS Z ext) M2 1181 [some (.retAddr 300), some (.ref 0), some (.ref 48), some (.int (nI i))] []) : XW mL_law (Flaw L xs) cells slots (SS Z ext) M 556 [some (.retAddr 300), some (.ref 0), some (.ref 48), some (.int (nI i))] [] := by
  obtain ⟨v, hC⟩ := hop (xs (i + 1))
  have hce2 : cells ≤ 600000 := by omega
  have hsl2 : slots ≤ 7302250 := by omega
  refine x_aload_n dL_law_556 rfl ?_
  refine x_aload_nR dL_law_557 rfl ?_
  refine x_iload_n dL_law_558 rfl ?_
  refine x_iconst (v := 1) dL_law_559 (by decide) ?_
  refine x_iadd dL_law_560 ?_
  refine x_sld (q := i + 1) dL_law_561 (nI_add i 1) (by omega) hL ?_
  refine x_cv mf_X9_cheapest ml_L_76 dL_law_562 rfl sf_0 rfl ⟨by decide, by decide⟩ (Nat.le_of_ble_eq_true rfl) ⟨rfl, rfl⟩ ⟨hce2, hsl2⟩ hC (fun r M1 h => ?_)
  obtain ⟨hr, hC2⟩ := h
  subst hr
  refine x_aload_n dL_law_565 rfl ?_
  refine x_aload_nR dL_law_566 rfl ?_
  refine x_iload_n dL_law_567 rfl ?_
  refine x_iconst (v := 1) dL_law_568 (by decide) ?_
  refine x_iadd dL_law_569 ?_
  refine x_sld (q := i + 1) dL_law_570 (nI_add i 1) (by omega) hL ?_
  refine x_cv mf_X10_cheapest ml_L_79 dL_law_571 rfl sf_48 rfl ⟨by decide, by decide⟩ (Nat.le_of_ble_eq_true rfl) ⟨rfl, rfl⟩ ⟨hce2, hsl2⟩ hC2 (fun r M2 h => ?_)
  obtain ⟨hr, hI⟩ := h
  subst hr
  exact x_icmp_eq 1181 dL_law_574 (by decide) (fun _ => fin M2 hI) (fun hc => absurd rfl hc)
theorem lc_without {L i cells slots : Nat} {xs : Nat → Int32} {Z : List (Option Nat)} {ext : List Ds} {M : Mm} (hL : L ≤ 2560) (hi : i + 5 ≤ L) (hce : cells ≤ 500000) (hsl : slots ≤ 7000000) (hop : ∀ (a : Int32), OpI mX9_without mX10_without [.int a] Z ext M) (fin : ∀ M2 : Mm, Inv Z ext M2 → XW mL_law (Flaw L xs) cells slots (SS Z ext) M2 1181 [some (.retAddr 300), some (.ref 0), some (.ref 48), some (.int (nI i))] []) : XW mL_law (Flaw L xs) cells slots (SS Z ext) M 579 [some (.retAddr 300), some (.ref 0), some (.ref 48), some (.int (nI i))] [] := by
  obtain ⟨v, hC⟩ := hop (xs (i + 1))
  have hce2 : cells ≤ 600000 := by omega
  have hsl2 : slots ≤ 7302250 := by omega
  refine x_aload_n dL_law_579 rfl ?_
  refine x_aload_nR dL_law_580 rfl ?_
  refine x_iload_n dL_law_581 rfl ?_
  refine x_iconst (v := 1) dL_law_582 (by decide) ?_
  refine x_iadd dL_law_583 ?_
  refine x_sld (q := i + 1) dL_law_584 (nI_add i 1) (by omega) hL ?_
  refine x_cv mf_X9_without ml_L_80 dL_law_585 rfl sf_0 rfl ⟨by decide, by decide⟩ (Nat.le_of_ble_eq_true rfl) ⟨rfl, rfl⟩ ⟨hce2, hsl2⟩ hC (fun r M1 h => ?_)
  obtain ⟨hr, hC2⟩ := h
  subst hr
  refine x_aload_n dL_law_588 rfl ?_
  refine x_aload_nR dL_law_589 rfl ?_
  refine x_iload_n dL_law_590 rfl ?_
  refine x_iconst (v := 1) dL_law_591 (by decide) ?_
  refine x_iadd dL_law_592 ?_
  refine x_sld (q := i + 1) dL_law_593 (nI_add i 1) (by omega) hL ?_
  refine x_cv mf_X10_without ml_L_83 dL_law_594 rfl sf_48 rfl ⟨by decide, by decide⟩ (Nat.le_of_ble_eq_true rfl) ⟨rfl, rfl⟩ ⟨hce2, hsl2⟩ hC2 (fun r M2 h => ?_)
  obtain ⟨hr, hI⟩ := h
  subst hr
  exact x_icmp_eq 1181 dL_law_597 (by decide) (fun _ => fin M2 hI) (fun hc => absurd rfl hc)
theorem lc_alike {L i cells slots : Nat} {xs : Nat → Int32} {Z : List (Option Nat)} {ext : List Ds} {M : Mm} (hL : L ≤ 2560) (hi : i + 5 ≤ L) (hce : cells ≤ 500000) (hsl : slots ≤ 7000000) (hop : ∀ (a : Int32) (b : Int32), OpI mX9_alike mX10_alike [.int a, .int b] Z ext M) (fin : ∀ M2 : Mm, Inv Z ext M2 → XW mL_law (Flaw L xs) cells slots (SS Z ext) M2 1181 [some (.retAddr 300), some (.ref 0), some (.ref 48), some (.int (nI i))] []) : XW mL_law (Flaw L xs) cells slots (SS Z ext) M 602 [some (.retAddr 300), some (.ref 0), some (.ref 48), some (.int (nI i))] [] := by
  obtain ⟨v, hC⟩ := hop (xs (i + 1)) (xs (i + 2))
  have hce2 : cells ≤ 600000 := by omega
  have hsl2 : slots ≤ 7302250 := by omega
  refine x_aload_n dL_law_602 rfl ?_
  refine x_aload_nR dL_law_603 rfl ?_
  refine x_iload_n dL_law_604 rfl ?_
  refine x_iconst (v := 1) dL_law_605 (by decide) ?_
  refine x_iadd dL_law_606 ?_
  refine x_sld (q := i + 1) dL_law_607 (nI_add i 1) (by omega) hL ?_
  refine x_aload_nR dL_law_608 rfl ?_
  refine x_iload_n dL_law_609 rfl ?_
  refine x_iconst (v := 2) dL_law_610 (by decide) ?_
  refine x_iadd dL_law_611 ?_
  refine x_sld (q := i + 2) dL_law_612 (nI_add i 2) (by omega) hL ?_
  refine x_cv mf_X9_alike ml_L_84 dL_law_613 rfl sf_0 rfl ⟨by decide, by decide⟩ (Nat.le_of_ble_eq_true rfl) ⟨rfl, rfl⟩ ⟨hce2, hsl2⟩ hC (fun r M1 h => ?_)
  obtain ⟨hr, hC2⟩ := h
  subst hr
  refine x_aload_n dL_law_616 rfl ?_
  refine x_aload_nR dL_law_617 rfl ?_
  refine x_iload_n dL_law_618 rfl ?_
  refine x_iconst (v := 1) dL_law_619 (by decide) ?_
  refine x_iadd dL_law_620 ?_
  refine x_sld (q := i + 1) dL_law_621 (nI_add i 1) (by omega) hL ?_
  refine x_aload_nR dL_law_622 rfl ?_
  refine x_iload_n dL_law_623 rfl ?_
  refine x_iconst (v := 2) dL_law_624 (by decide) ?_
  refine x_iadd dL_law_625 ?_
  refine x_sld (q := i + 2) dL_law_626 (nI_add i 2) (by omega) hL ?_
  refine x_cv mf_X10_alike ml_L_87 dL_law_627 rfl sf_48 rfl ⟨by decide, by decide⟩ (Nat.le_of_ble_eq_true rfl) ⟨rfl, rfl⟩ ⟨hce2, hsl2⟩ hC2 (fun r M2 h => ?_)
  obtain ⟨hr, hI⟩ := h
  subst hr
  exact x_icmp_eq 1181 dL_law_630 (by decide) (fun _ => fin M2 hI) (fun hc => absurd rfl hc)
theorem lc_between {L i cells slots : Nat} {xs : Nat → Int32} {Z : List (Option Nat)} {ext : List Ds} {M : Mm} (hL : L ≤ 2560) (hi : i + 5 ≤ L) (hce : cells ≤ 500000) (hsl : slots ≤ 7000000) (hop : ∀ (a : Int32), OpI mX9_between mX10_between [.int a] Z ext M) (fin : ∀ M2 : Mm, Inv Z ext M2 → XW mL_law (Flaw L xs) cells slots (SS Z ext) M2 1181 [some (.retAddr 300), some (.ref 0), some (.ref 48), some (.int (nI i))] []) : XW mL_law (Flaw L xs) cells slots (SS Z ext) M 635 [some (.retAddr 300), some (.ref 0), some (.ref 48), some (.int (nI i))] [] := by
  obtain ⟨v, hC⟩ := hop (xs (i + 1))
  have hce2 : cells ≤ 600000 := by omega
  have hsl2 : slots ≤ 7302250 := by omega
  refine x_aload_n dL_law_635 rfl ?_
  refine x_aload_nR dL_law_636 rfl ?_
  refine x_iload_n dL_law_637 rfl ?_
  refine x_iconst (v := 1) dL_law_638 (by decide) ?_
  refine x_iadd dL_law_639 ?_
  refine x_sld (q := i + 1) dL_law_640 (nI_add i 1) (by omega) hL ?_
  refine x_cv mf_X9_between ml_L_88 dL_law_641 rfl sf_0 rfl ⟨by decide, by decide⟩ (Nat.le_of_ble_eq_true rfl) ⟨rfl, rfl⟩ ⟨hce2, hsl2⟩ hC (fun r M1 h => ?_)
  obtain ⟨hr, hC2⟩ := h
  subst hr
  refine x_aload_n dL_law_644 rfl ?_
  refine x_aload_nR dL_law_645 rfl ?_
  refine x_iload_n dL_law_646 rfl ?_
  refine x_iconst (v := 1) dL_law_647 (by decide) ?_
  refine x_iadd dL_law_648 ?_
  refine x_sld (q := i + 1) dL_law_649 (nI_add i 1) (by omega) hL ?_
  refine x_cv mf_X10_between ml_L_91 dL_law_650 rfl sf_48 rfl ⟨by decide, by decide⟩ (Nat.le_of_ble_eq_true rfl) ⟨rfl, rfl⟩ ⟨hce2, hsl2⟩ hC2 (fun r M2 h => ?_)
  obtain ⟨hr, hI⟩ := h
  subst hr
  exact x_icmp_eq 1181 dL_law_653 (by decide) (fun _ => fin M2 hI) (fun hc => absurd rfl hc)
theorem lc_just {L i cells slots : Nat} {xs : Nat → Int32} {Z : List (Option Nat)} {ext : List Ds} {M : Mm} (hL : L ≤ 2560) (hi : i + 5 ≤ L) (hce : cells ≤ 500000) (hsl : slots ≤ 7000000) (hop : ∀ (a : Int32) (b : Int32) (c : Int32), OpI mX9_just mX10_just [.int a, .int b, .int c] Z ext M) (fin : ∀ M2 : Mm, Inv Z ext M2 → XW mL_law (Flaw L xs) cells slots (SS Z ext) M2 1181 [some (.retAddr 300), some (.ref 0), some (.ref 48), some (.int (nI i))] []) : XW mL_law (Flaw L xs) cells slots (SS Z ext) M 658 [some (.retAddr 300), some (.ref 0), some (.ref 48), some (.int (nI i))] [] := by
  obtain ⟨v, hC⟩ := hop (xs (i + 1)) (xs (i + 2)) (xs (i + 3))
  have hce2 : cells ≤ 600000 := by omega
  have hsl2 : slots ≤ 7302250 := by omega
  refine x_aload_n dL_law_658 rfl ?_
  refine x_aload_nR dL_law_659 rfl ?_
  refine x_iload_n dL_law_660 rfl ?_
  refine x_iconst (v := 1) dL_law_661 (by decide) ?_
  refine x_iadd dL_law_662 ?_
  refine x_sld (q := i + 1) dL_law_663 (nI_add i 1) (by omega) hL ?_
  refine x_aload_nR dL_law_664 rfl ?_
  refine x_iload_n dL_law_665 rfl ?_
  refine x_iconst (v := 2) dL_law_666 (by decide) ?_
  refine x_iadd dL_law_667 ?_
  refine x_sld (q := i + 2) dL_law_668 (nI_add i 2) (by omega) hL ?_
  refine x_aload_nR dL_law_669 rfl ?_
  refine x_iload_n dL_law_670 rfl ?_
  refine x_iconst (v := 3) dL_law_671 (by decide) ?_
  refine x_iadd dL_law_672 ?_
  refine x_sld (q := i + 3) dL_law_673 (nI_add i 3) (by omega) hL ?_
  refine x_cv mf_X9_just ml_L_92 dL_law_674 rfl sf_0 rfl ⟨by decide, by decide⟩ (Nat.le_of_ble_eq_true rfl) ⟨rfl, rfl⟩ ⟨hce2, hsl2⟩ hC (fun r M1 h => ?_)
  obtain ⟨hr, hC2⟩ := h
  subst hr
  refine x_aload_n dL_law_677 rfl ?_
  refine x_aload_nR dL_law_678 rfl ?_
  refine x_iload_n dL_law_679 rfl ?_
  refine x_iconst (v := 1) dL_law_680 (by decide) ?_
  refine x_iadd dL_law_681 ?_
  refine x_sld (q := i + 1) dL_law_682 (nI_add i 1) (by omega) hL ?_
  refine x_aload_nR dL_law_683 rfl ?_
  refine x_iload_n dL_law_684 rfl ?_
  refine x_iconst (v := 2) dL_law_685 (by decide) ?_
  refine x_iadd dL_law_686 ?_
  refine x_sld (q := i + 2) dL_law_687 (nI_add i 2) (by omega) hL ?_
  refine x_aload_nR dL_law_688 rfl ?_
  refine x_iload_n dL_law_689 rfl ?_
  refine x_iconst (v := 3) dL_law_690 (by decide) ?_
  refine x_iadd dL_law_691 ?_
  refine x_sld (q := i + 3) dL_law_692 (nI_add i 3) (by omega) hL ?_
  refine x_cv mf_X10_just ml_L_96 dL_law_693 rfl sf_48 rfl ⟨by decide, by decide⟩ (Nat.le_of_ble_eq_true rfl) ⟨rfl, rfl⟩ ⟨hce2, hsl2⟩ hC2 (fun r M2 h => ?_)
  obtain ⟨hr, hI⟩ := h
  subst hr
  exact x_icmp_eq 1181 dL_law_696 (by decide) (fun _ => fin M2 hI) (fun hc => absurd rfl hc)
theorem lc_riddle {L i cells slots : Nat} {xs : Nat → Int32} {Z : List (Option Nat)} {ext : List Ds} {M : Mm} (hL : L ≤ 2560) (hi : i + 5 ≤ L) (hce : cells ≤ 500000) (hsl : slots ≤ 7000000) (hop : ∀ (a : Int32) (b : Int32) (c : Int32), OpI mX9_riddle mX10_riddle [.int a, .int b, .int c] Z ext M) (fin : ∀ M2 : Mm, Inv Z ext M2 → XW mL_law (Flaw L xs) cells slots (SS Z ext) M2 1181 [some (.retAddr 300), some (.ref 0), some (.ref 48), some (.int (nI i))] []) : XW mL_law (Flaw L xs) cells slots (SS Z ext) M 701 [some (.retAddr 300), some (.ref 0), some (.ref 48), some (.int (nI i))] [] := by
  obtain ⟨v, hC⟩ := hop (xs (i + 1)) (xs (i + 2)) (xs (i + 3))
  have hce2 : cells ≤ 600000 := by omega
  have hsl2 : slots ≤ 7302250 := by omega
  refine x_aload_n dL_law_701 rfl ?_
  refine x_aload_nR dL_law_702 rfl ?_
  refine x_iload_n dL_law_703 rfl ?_
  refine x_iconst (v := 1) dL_law_704 (by decide) ?_
  refine x_iadd dL_law_705 ?_
  refine x_sld (q := i + 1) dL_law_706 (nI_add i 1) (by omega) hL ?_
  refine x_aload_nR dL_law_707 rfl ?_
  refine x_iload_n dL_law_708 rfl ?_
  refine x_iconst (v := 2) dL_law_709 (by decide) ?_
  refine x_iadd dL_law_710 ?_
  refine x_sld (q := i + 2) dL_law_711 (nI_add i 2) (by omega) hL ?_
  refine x_aload_nR dL_law_712 rfl ?_
  refine x_iload_n dL_law_713 rfl ?_
  refine x_iconst (v := 3) dL_law_714 (by decide) ?_
  refine x_iadd dL_law_715 ?_
  refine x_sld (q := i + 3) dL_law_716 (nI_add i 3) (by omega) hL ?_
  refine x_cv mf_X9_riddle ml_L_97 dL_law_717 rfl sf_0 rfl ⟨by decide, by decide⟩ (Nat.le_of_ble_eq_true rfl) ⟨rfl, rfl⟩ ⟨hce2, hsl2⟩ hC (fun r M1 h => ?_)
  obtain ⟨hr, hC2⟩ := h
  subst hr
  refine x_aload_n dL_law_720 rfl ?_
  refine x_aload_nR dL_law_721 rfl ?_
  refine x_iload_n dL_law_722 rfl ?_
  refine x_iconst (v := 1) dL_law_723 (by decide) ?_
  refine x_iadd dL_law_724 ?_
  refine x_sld (q := i + 1) dL_law_725 (nI_add i 1) (by omega) hL ?_
  refine x_aload_nR dL_law_726 rfl ?_
  refine x_iload_n dL_law_727 rfl ?_
  refine x_iconst (v := 2) dL_law_728 (by decide) ?_
  refine x_iadd dL_law_729 ?_
  refine x_sld (q := i + 2) dL_law_730 (nI_add i 2) (by omega) hL ?_
  refine x_aload_nR dL_law_731 rfl ?_
  refine x_iload_n dL_law_732 rfl ?_
  refine x_iconst (v := 3) dL_law_733 (by decide) ?_
  refine x_iadd dL_law_734 ?_
  refine x_sld (q := i + 3) dL_law_735 (nI_add i 3) (by omega) hL ?_
  refine x_cv mf_X10_riddle ml_L_100 dL_law_736 rfl sf_48 rfl ⟨by decide, by decide⟩ (Nat.le_of_ble_eq_true rfl) ⟨rfl, rfl⟩ ⟨hce2, hsl2⟩ hC2 (fun r M2 h => ?_)
  obtain ⟨hr, hI⟩ := h
  subst hr
  exact x_icmp_eq 1181 dL_law_739 (by decide) (fun _ => fin M2 hI) (fun hc => absurd rfl hc)
theorem lc_taking {L i cells slots : Nat} {xs : Nat → Int32} {Z : List (Option Nat)} {ext : List Ds} {M : Mm} (hL : L ≤ 2560) (hi : i + 5 ≤ L) (hce : cells ≤ 500000) (hsl : slots ≤ 7000000) (hop : ∀ (a : Int32), OpI mX9_taking mX10_taking [.int a] Z ext M) (fin : ∀ M2 : Mm, Inv Z ext M2 → XW mL_law (Flaw L xs) cells slots (SS Z ext) M2 1181 [some (.retAddr 300), some (.ref 0), some (.ref 48), some (.int (nI i))] []) : XW mL_law (Flaw L xs) cells slots (SS Z ext) M 744 [some (.retAddr 300), some (.ref 0), some (.ref 48), some (.int (nI i))] [] := by
  obtain ⟨v, hC⟩ := hop (xs (i + 1))
  have hce2 : cells ≤ 600000 := by omega
  have hsl2 : slots ≤ 7302250 := by omega
  refine x_aload_n dL_law_744 rfl ?_
  refine x_aload_nR dL_law_745 rfl ?_
  refine x_iload_n dL_law_746 rfl ?_
  refine x_iconst (v := 1) dL_law_747 (by decide) ?_
  refine x_iadd dL_law_748 ?_
  refine x_sld (q := i + 1) dL_law_749 (nI_add i 1) (by omega) hL ?_
  refine x_cv mf_X9_taking ml_L_101 dL_law_750 rfl sf_0 rfl ⟨by decide, by decide⟩ (Nat.le_of_ble_eq_true rfl) ⟨rfl, rfl⟩ ⟨hce2, hsl2⟩ hC (fun r M1 h => ?_)
  obtain ⟨hr, hC2⟩ := h
  subst hr
  refine x_aload_n dL_law_753 rfl ?_
  refine x_aload_nR dL_law_754 rfl ?_
  refine x_iload_n dL_law_755 rfl ?_
  refine x_iconst (v := 1) dL_law_756 (by decide) ?_
  refine x_iadd dL_law_757 ?_
  refine x_sld (q := i + 1) dL_law_758 (nI_add i 1) (by omega) hL ?_
  refine x_cv mf_X10_taking ml_L_104 dL_law_759 rfl sf_48 rfl ⟨by decide, by decide⟩ (Nat.le_of_ble_eq_true rfl) ⟨rfl, rfl⟩ ⟨hce2, hsl2⟩ hC2 (fun r M2 h => ?_)
  obtain ⟨hr, hI⟩ := h
  subst hr
  exact x_icmp_eq 1181 dL_law_762 (by decide) (fun _ => fin M2 hI) (fun hc => absurd rfl hc)
theorem lc_laying {L i cells slots : Nat} {xs : Nat → Int32} {Z : List (Option Nat)} {ext : List Ds} {M : Mm} (hL : L ≤ 2560) (hi : i + 5 ≤ L) (hce : cells ≤ 500000) (hsl : slots ≤ 7000000) (hop : ∀ (a : Int32), OpI mX9_laying mX10_laying [.int a] Z ext M) (fin : ∀ M2 : Mm, Inv Z ext M2 → XW mL_law (Flaw L xs) cells slots (SS Z ext) M2 1181 [some (.retAddr 300), some (.ref 0), some (.ref 48), some (.int (nI i))] []) : XW mL_law (Flaw L xs) cells slots (SS Z ext) M 767 [some (.retAddr 300), some (.ref 0), some (.ref 48), some (.int (nI i))] [] := by
  obtain ⟨v, hC⟩ := hop (xs (i + 1))
  have hce2 : cells ≤ 600000 := by omega
  have hsl2 : slots ≤ 7302250 := by omega
  refine x_aload_n dL_law_767 rfl ?_
  refine x_aload_nR dL_law_768 rfl ?_
  refine x_iload_n dL_law_769 rfl ?_
  refine x_iconst (v := 1) dL_law_770 (by decide) ?_
  refine x_iadd dL_law_771 ?_
  refine x_sld (q := i + 1) dL_law_772 (nI_add i 1) (by omega) hL ?_
  refine x_cv mf_X9_laying ml_L_105 dL_law_773 rfl sf_0 rfl ⟨by decide, by decide⟩ (Nat.le_of_ble_eq_true rfl) ⟨rfl, rfl⟩ ⟨hce2, hsl2⟩ hC (fun r M1 h => ?_)
  obtain ⟨hr, hC2⟩ := h
  subst hr
  refine x_aload_n dL_law_776 rfl ?_
  refine x_aload_nR dL_law_777 rfl ?_
  refine x_iload_n dL_law_778 rfl ?_
  refine x_iconst (v := 1) dL_law_779 (by decide) ?_
  refine x_iadd dL_law_780 ?_
  refine x_sld (q := i + 1) dL_law_781 (nI_add i 1) (by omega) hL ?_
  refine x_cv mf_X10_laying ml_L_108 dL_law_782 rfl sf_48 rfl ⟨by decide, by decide⟩ (Nat.le_of_ble_eq_true rfl) ⟨rfl, rfl⟩ ⟨hce2, hsl2⟩ hC2 (fun r M2 h => ?_)
  obtain ⟨hr, hI⟩ := h
  subst hr
  exact x_icmp_eq 1181 dL_law_785 (by decide) (fun _ => fin M2 hI) (fun hc => absurd rfl hc)
theorem lc_boxes {L i cells slots : Nat} {xs : Nat → Int32} {Z : List (Option Nat)} {ext : List Ds} {M : Mm} (hL : L ≤ 2560) (hi : i + 5 ≤ L) (hce : cells ≤ 500000) (hsl : slots ≤ 7000000) (hop : ∀ (a : Int32), OpI mX9_boxes mX10_boxes [.int a] Z ext M) (fin : ∀ M2 : Mm, Inv Z ext M2 → XW mL_law (Flaw L xs) cells slots (SS Z ext) M2 1181 [some (.retAddr 300), some (.ref 0), some (.ref 48), some (.int (nI i))] []) : XW mL_law (Flaw L xs) cells slots (SS Z ext) M 790 [some (.retAddr 300), some (.ref 0), some (.ref 48), some (.int (nI i))] [] := by
  obtain ⟨v, hC⟩ := hop (xs (i + 1))
  have hce2 : cells ≤ 600000 := by omega
  have hsl2 : slots ≤ 7302250 := by omega
  refine x_aload_n dL_law_790 rfl ?_
  refine x_aload_nR dL_law_791 rfl ?_
  refine x_iload_n dL_law_792 rfl ?_
  refine x_iconst (v := 1) dL_law_793 (by decide) ?_
  refine x_iadd dL_law_794 ?_
  refine x_sld (q := i + 1) dL_law_795 (nI_add i 1) (by omega) hL ?_
  refine x_cv mf_X9_boxes ml_L_109 dL_law_796 rfl sf_0 rfl ⟨by decide, by decide⟩ (Nat.le_of_ble_eq_true rfl) ⟨rfl, rfl⟩ ⟨hce2, hsl2⟩ hC (fun r M1 h => ?_)
  obtain ⟨hr, hC2⟩ := h
  subst hr
  refine x_aload_n dL_law_799 rfl ?_
  refine x_aload_nR dL_law_800 rfl ?_
  refine x_iload_n dL_law_801 rfl ?_
  refine x_iconst (v := 1) dL_law_802 (by decide) ?_
  refine x_iadd dL_law_803 ?_
  refine x_sld (q := i + 1) dL_law_804 (nI_add i 1) (by omega) hL ?_
  refine x_cv mf_X10_boxes ml_L_112 dL_law_805 rfl sf_48 rfl ⟨by decide, by decide⟩ (Nat.le_of_ble_eq_true rfl) ⟨rfl, rfl⟩ ⟨hce2, hsl2⟩ hC2 (fun r M2 h => ?_)
  obtain ⟨hr, hI⟩ := h
  subst hr
  exact x_icmp_eq 1181 dL_law_808 (by decide) (fun _ => fin M2 hI) (fun hc => absurd rfl hc)
theorem lc_mean {L i cells slots : Nat} {xs : Nat → Int32} {Z : List (Option Nat)} {ext : List Ds} {M : Mm} (hL : L ≤ 2560) (hi : i + 5 ≤ L) (hce : cells ≤ 500000) (hsl : slots ≤ 7000000) (hop : ∀ (a : Int32), OpL mX9_mean mX10_mean [.int a] Z ext M) (fin : ∀ M2 : Mm, Inv Z ext M2 → XW mL_law (Flaw L xs) cells slots (SS Z ext) M2 1181 [some (.retAddr 300), some (.ref 0), some (.ref 48), some (.int (nI i))] []) : XW mL_law (Flaw L xs) cells slots (SS Z ext) M 813 [some (.retAddr 300), some (.ref 0), some (.ref 48), some (.int (nI i))] [] := by
  obtain ⟨v, hC⟩ := hop (xs (i + 1))
  have hce2 : cells ≤ 600000 := by omega
  have hsl2 : slots ≤ 7302250 := by omega
  refine x_aload_n dL_law_813 rfl ?_
  refine x_aload_nR dL_law_814 rfl ?_
  refine x_iload_n dL_law_815 rfl ?_
  refine x_iconst (v := 1) dL_law_816 (by decide) ?_
  refine x_iadd dL_law_817 ?_
  refine x_sld (q := i + 1) dL_law_818 (nI_add i 1) (by omega) hL ?_
  refine x_cv mf_X9_mean ml_L_113 dL_law_819 rfl sf_0 rfl ⟨by decide, by decide⟩ (Nat.le_of_ble_eq_true rfl) ⟨rfl, rfl⟩ ⟨hce2, hsl2⟩ hC (fun r M1 h => ?_)
  obtain ⟨hr, hC2⟩ := h
  subst hr
  refine x_aload_n dL_law_822 rfl ?_
  refine x_aload_nR dL_law_823 rfl ?_
  refine x_iload_n dL_law_824 rfl ?_
  refine x_iconst (v := 1) dL_law_825 (by decide) ?_
  refine x_iadd dL_law_826 ?_
  refine x_sld (q := i + 1) dL_law_827 (nI_add i 1) (by omega) hL ?_
  refine x_cv mf_X10_mean ml_L_117 dL_law_828 rfl sf_48 rfl ⟨by decide, by decide⟩ (Nat.le_of_ble_eq_true rfl) ⟨rfl, rfl⟩ ⟨hce2, hsl2⟩ hC2 (fun r M2 h => ?_)
  obtain ⟨hr, hI⟩ := h
  subst hr
  refine x_lcmp dL_law_831 ?_
  exact x_if_eq 1181 dL_law_832 (by decide) (fun _ => fin M2 hI) (fun hc => absurd (by unfold lg_cmp; simp) hc)
theorem lc_chance {L i cells slots : Nat} {xs : Nat → Int32} {Z : List (Option Nat)} {ext : List Ds} {M : Mm} (hL : L ≤ 2560) (hi : i + 5 ≤ L) (hce : cells ≤ 500000) (hsl : slots ≤ 7000000) (hop : ∀ (a : Int32), OpL mX9_chance mX10_chance [.int a] Z ext M) (fin : ∀ M2 : Mm, Inv Z ext M2 → XW mL_law (Flaw L xs) cells slots (SS Z ext) M2 1181 [some (.retAddr 300), some (.ref 0), some (.ref 48), some (.int (nI i))] []) : XW mL_law (Flaw L xs) cells slots (SS Z ext) M 837 [some (.retAddr 300), some (.ref 0), some (.ref 48), some (.int (nI i))] [] := by
  obtain ⟨v, hC⟩ := hop (xs (i + 1))
  have hce2 : cells ≤ 600000 := by omega
  have hsl2 : slots ≤ 7302250 := by omega
  refine x_aload_n dL_law_837 rfl ?_
  refine x_aload_nR dL_law_838 rfl ?_
  refine x_iload_n dL_law_839 rfl ?_
  refine x_iconst (v := 1) dL_law_840 (by decide) ?_
  refine x_iadd dL_law_841 ?_
  refine x_sld (q := i + 1) dL_law_842 (nI_add i 1) (by omega) hL ?_
  refine x_cv mf_X9_chance ml_L_118 dL_law_843 rfl sf_0 rfl ⟨by decide, by decide⟩ (Nat.le_of_ble_eq_true rfl) ⟨rfl, rfl⟩ ⟨hce2, hsl2⟩ hC (fun r M1 h => ?_)
  obtain ⟨hr, hC2⟩ := h
  subst hr
  refine x_aload_n dL_law_846 rfl ?_
  refine x_aload_nR dL_law_847 rfl ?_
  refine x_iload_n dL_law_848 rfl ?_
  refine x_iconst (v := 1) dL_law_849 (by decide) ?_
  refine x_iadd dL_law_850 ?_
  refine x_sld (q := i + 1) dL_law_851 (nI_add i 1) (by omega) hL ?_
  refine x_cv mf_X10_chance ml_L_121 dL_law_852 rfl sf_48 rfl ⟨by decide, by decide⟩ (Nat.le_of_ble_eq_true rfl) ⟨rfl, rfl⟩ ⟨hce2, hsl2⟩ hC2 (fun r M2 h => ?_)
  obtain ⟨hr, hI⟩ := h
  subst hr
  refine x_lcmp dL_law_855 ?_
  exact x_if_eq 1181 dL_law_856 (by decide) (fun _ => fin M2 hI) (fun hc => absurd (by unfold lg_cmp; simp) hc)
theorem lc_see {L i cells slots : Nat} {xs : Nat → Int32} {Z : List (Option Nat)} {ext : List Ds} {M : Mm} (hL : L ≤ 2560) (hi : i + 5 ≤ L) (hce : cells ≤ 500000) (hsl : slots ≤ 7000000) (hop : ∀ (a : Int32) (b : Int32), OpI mX9_see mX10_see [.int a, .int b] Z ext M) (fin : ∀ M2 : Mm, Inv Z ext M2 → XW mL_law (Flaw L xs) cells slots (SS Z ext) M2 1181 [some (.retAddr 300), some (.ref 0), some (.ref 48), some (.int (nI i))] []) : XW mL_law (Flaw L xs) cells slots (SS Z ext) M 861 [some (.retAddr 300), some (.ref 0), some (.ref 48), some (.int (nI i))] [] := by
  obtain ⟨v, hC⟩ := hop (xs (i + 1)) (xs (i + 2))
  have hce2 : cells ≤ 600000 := by omega
  have hsl2 : slots ≤ 7302250 := by omega
  refine x_aload_n dL_law_861 rfl ?_
  refine x_aload_nR dL_law_862 rfl ?_
  refine x_iload_n dL_law_863 rfl ?_
  refine x_iconst (v := 1) dL_law_864 (by decide) ?_
  refine x_iadd dL_law_865 ?_
  refine x_sld (q := i + 1) dL_law_866 (nI_add i 1) (by omega) hL ?_
  refine x_aload_nR dL_law_867 rfl ?_
  refine x_iload_n dL_law_868 rfl ?_
  refine x_iconst (v := 2) dL_law_869 (by decide) ?_
  refine x_iadd dL_law_870 ?_
  refine x_sld (q := i + 2) dL_law_871 (nI_add i 2) (by omega) hL ?_
  refine x_cv mf_X9_see ml_L_122 dL_law_872 rfl sf_0 rfl ⟨by decide, by decide⟩ (Nat.le_of_ble_eq_true rfl) ⟨rfl, rfl⟩ ⟨hce2, hsl2⟩ hC (fun r M1 h => ?_)
  obtain ⟨hr, hC2⟩ := h
  subst hr
  refine x_aload_n dL_law_875 rfl ?_
  refine x_aload_nR dL_law_876 rfl ?_
  refine x_iload_n dL_law_877 rfl ?_
  refine x_iconst (v := 1) dL_law_878 (by decide) ?_
  refine x_iadd dL_law_879 ?_
  refine x_sld (q := i + 1) dL_law_880 (nI_add i 1) (by omega) hL ?_
  refine x_aload_nR dL_law_881 rfl ?_
  refine x_iload_n dL_law_882 rfl ?_
  refine x_iconst (v := 2) dL_law_883 (by decide) ?_
  refine x_iadd dL_law_884 ?_
  refine x_sld (q := i + 2) dL_law_885 (nI_add i 2) (by omega) hL ?_
  refine x_cv mf_X10_see ml_L_125 dL_law_886 rfl sf_48 rfl ⟨by decide, by decide⟩ (Nat.le_of_ble_eq_true rfl) ⟨rfl, rfl⟩ ⟨hce2, hsl2⟩ hC2 (fun r M2 h => ?_)
  obtain ⟨hr, hI⟩ := h
  subst hr
  exact x_icmp_eq 1181 dL_law_889 (by decide) (fun _ => fin M2 hI) (fun hc => absurd rfl hc)
theorem lc_gone {L i cells slots : Nat} {xs : Nat → Int32} {Z : List (Option Nat)} {ext : List Ds} {M : Mm} (hL : L ≤ 2560) (hi : i + 5 ≤ L) (hce : cells ≤ 500000) (hsl : slots ≤ 7000000) (hop : ∀ (a : Int32) (b : Int32), OpI mX9_gone mX10_gone [.int a, .int b] Z ext M) (fin : ∀ M2 : Mm, Inv Z ext M2 → XW mL_law (Flaw L xs) cells slots (SS Z ext) M2 1181 [some (.retAddr 300), some (.ref 0), some (.ref 48), some (.int (nI i))] []) : XW mL_law (Flaw L xs) cells slots (SS Z ext) M 894 [some (.retAddr 300), some (.ref 0), some (.ref 48), some (.int (nI i))] [] := by
  obtain ⟨v, hC⟩ := hop (xs (i + 1)) (xs (i + 2))
  have hce2 : cells ≤ 600000 := by omega
  have hsl2 : slots ≤ 7302250 := by omega
  refine x_aload_n dL_law_894 rfl ?_
  refine x_aload_nR dL_law_895 rfl ?_
  refine x_iload_n dL_law_896 rfl ?_
  refine x_iconst (v := 1) dL_law_897 (by decide) ?_
  refine x_iadd dL_law_898 ?_
  refine x_sld (q := i + 1) dL_law_899 (nI_add i 1) (by omega) hL ?_
  refine x_aload_nR dL_law_900 rfl ?_
  refine x_iload_n dL_law_901 rfl ?_
  refine x_iconst (v := 2) dL_law_902 (by decide) ?_
  refine x_iadd dL_law_903 ?_
  refine x_sld (q := i + 2) dL_law_904 (nI_add i 2) (by omega) hL ?_
  refine x_cv mf_X9_gone ml_L_126 dL_law_905 rfl sf_0 rfl ⟨by decide, by decide⟩ (Nat.le_of_ble_eq_true rfl) ⟨rfl, rfl⟩ ⟨hce2, hsl2⟩ hC (fun r M1 h => ?_)
  obtain ⟨hr, hC2⟩ := h
  subst hr
  refine x_aload_n dL_law_908 rfl ?_
  refine x_aload_nR dL_law_909 rfl ?_
  refine x_iload_n dL_law_910 rfl ?_
  refine x_iconst (v := 1) dL_law_911 (by decide) ?_
  refine x_iadd dL_law_912 ?_
  refine x_sld (q := i + 1) dL_law_913 (nI_add i 1) (by omega) hL ?_
  refine x_aload_nR dL_law_914 rfl ?_
  refine x_iload_n dL_law_915 rfl ?_
  refine x_iconst (v := 2) dL_law_916 (by decide) ?_
  refine x_iadd dL_law_917 ?_
  refine x_sld (q := i + 2) dL_law_918 (nI_add i 2) (by omega) hL ?_
  refine x_cv mf_X10_gone ml_L_129 dL_law_919 rfl sf_48 rfl ⟨by decide, by decide⟩ (Nat.le_of_ble_eq_true rfl) ⟨rfl, rfl⟩ ⟨hce2, hsl2⟩ hC2 (fun r M2 h => ?_)
  obtain ⟨hr, hI⟩ := h
  subst hr
  exact x_icmp_eq 1181 dL_law_922 (by decide) (fun _ => fin M2 hI) (fun hc => absurd rfl hc)
theorem lc_play {L i cells slots : Nat} {xs : Nat → Int32} {Z : List (Option Nat)} {ext : List Ds} {M : Mm} (hL : L ≤ 2560) (hi : i + 5 ≤ L) (hce : cells ≤ 500000) (hsl : slots ≤ 7000000) (hop : ∀ (a : Int32) (b : Int32), OpI mX9_play mX10_play [.int a, .int b] Z ext M) (fin : ∀ M2 : Mm, Inv Z ext M2 → XW mL_law (Flaw L xs) cells slots (SS Z ext) M2 1181 [some (.retAddr 300), some (.ref 0), some (.ref 48), some (.int (nI i))] []) : XW mL_law (Flaw L xs) cells slots (SS Z ext) M 927 [some (.retAddr 300), some (.ref 0), some (.ref 48), some (.int (nI i))] [] := by
  obtain ⟨v, hC⟩ := hop (xs (i + 1)) (xs (i + 2))
  have hce2 : cells ≤ 600000 := by omega
  have hsl2 : slots ≤ 7302250 := by omega
  refine x_aload_n dL_law_927 rfl ?_
  refine x_aload_nR dL_law_928 rfl ?_
  refine x_iload_n dL_law_929 rfl ?_
  refine x_iconst (v := 1) dL_law_930 (by decide) ?_
  refine x_iadd dL_law_931 ?_
  refine x_sld (q := i + 1) dL_law_932 (nI_add i 1) (by omega) hL ?_
  refine x_aload_nR dL_law_933 rfl ?_
  refine x_iload_n dL_law_934 rfl ?_
  refine x_iconst (v := 2) dL_law_935 (by decide) ?_
  refine x_iadd dL_law_936 ?_
  refine x_sld (q := i + 2) dL_law_937 (nI_add i 2) (by omega) hL ?_
  refine x_cv mf_X9_play ml_L_130 dL_law_938 rfl sf_0 rfl ⟨by decide, by decide⟩ (Nat.le_of_ble_eq_true rfl) ⟨rfl, rfl⟩ ⟨hce2, hsl2⟩ hC (fun r M1 h => ?_)
  obtain ⟨hr, hC2⟩ := h
  subst hr
  refine x_aload_n dL_law_941 rfl ?_
  refine x_aload_nR dL_law_942 rfl ?_
  refine x_iload_n dL_law_943 rfl ?_
  refine x_iconst (v := 1) dL_law_944 (by decide) ?_
  refine x_iadd dL_law_945 ?_
  refine x_sld (q := i + 1) dL_law_946 (nI_add i 1) (by omega) hL ?_
  refine x_aload_nR dL_law_947 rfl ?_
  refine x_iload_n dL_law_948 rfl ?_
  refine x_iconst (v := 2) dL_law_949 (by decide) ?_
  refine x_iadd dL_law_950 ?_
  refine x_sld (q := i + 2) dL_law_951 (nI_add i 2) (by omega) hL ?_
  refine x_cv mf_X10_play ml_L_133 dL_law_952 rfl sf_48 rfl ⟨by decide, by decide⟩ (Nat.le_of_ble_eq_true rfl) ⟨rfl, rfl⟩ ⟨hce2, hsl2⟩ hC2 (fun r M2 h => ?_)
  obtain ⟨hr, hI⟩ := h
  subst hr
  exact x_icmp_eq 1181 dL_law_955 (by decide) (fun _ => fin M2 hI) (fun hc => absurd rfl hc)
theorem lc_keep {L i cells slots : Nat} {xs : Nat → Int32} {Z : List (Option Nat)} {ext : List Ds} {M : Mm} (hL : L ≤ 2560) (hi : i + 5 ≤ L) (hce : cells ≤ 500000) (hsl : slots ≤ 7000000) (hop : ∀ (a : Int32), OpI mX9_keep mX10_keep [.int a] Z ext M) (fin : ∀ M2 : Mm, Inv Z ext M2 → XW mL_law (Flaw L xs) cells slots (SS Z ext) M2 1181 [some (.retAddr 300), some (.ref 0), some (.ref 48), some (.int (nI i))] []) : XW mL_law (Flaw L xs) cells slots (SS Z ext) M 960 [some (.retAddr 300), some (.ref 0), some (.ref 48), some (.int (nI i))] [] := by
  obtain ⟨v, hC⟩ := hop (xs (i + 1))
  have hce2 : cells ≤ 600000 := by omega
  have hsl2 : slots ≤ 7302250 := by omega
  refine x_aload_n dL_law_960 rfl ?_
  refine x_aload_nR dL_law_961 rfl ?_
  refine x_iload_n dL_law_962 rfl ?_
  refine x_iconst (v := 1) dL_law_963 (by decide) ?_
  refine x_iadd dL_law_964 ?_
  refine x_sld (q := i + 1) dL_law_965 (nI_add i 1) (by omega) hL ?_
  refine x_cv mf_X9_keep ml_L_134 dL_law_966 rfl sf_0 rfl ⟨by decide, by decide⟩ (Nat.le_of_ble_eq_true rfl) ⟨rfl, rfl⟩ ⟨hce2, hsl2⟩ hC (fun r M1 h => ?_)
  obtain ⟨hr, hC2⟩ := h
  subst hr
  refine x_aload_n dL_law_969 rfl ?_
  refine x_aload_nR dL_law_970 rfl ?_
  refine x_iload_n dL_law_971 rfl ?_
  refine x_iconst (v := 1) dL_law_972 (by decide) ?_
  refine x_iadd dL_law_973 ?_
  refine x_sld (q := i + 1) dL_law_974 (nI_add i 1) (by omega) hL ?_
  refine x_cv mf_X10_keep ml_L_137 dL_law_975 rfl sf_48 rfl ⟨by decide, by decide⟩ (Nat.le_of_ble_eq_true rfl) ⟨rfl, rfl⟩ ⟨hce2, hsl2⟩ hC2 (fun r M2 h => ?_)
  obtain ⟨hr, hI⟩ := h
  subst hr
  exact x_icmp_eq 1181 dL_law_978 (by decide) (fun _ => fin M2 hI) (fun hc => absurd rfl hc)
theorem lc_back {L i cells slots : Nat} {xs : Nat → Int32} {Z : List (Option Nat)} {ext : List Ds} {M : Mm} (hL : L ≤ 2560) (hi : i + 5 ≤ L) (hce : cells ≤ 500000) (hsl : slots ≤ 7000000) (hop : ∀ (a : Int32), OpI mX9_back mX10_back [.int a] Z ext M) (fin : ∀ M2 : Mm, Inv Z ext M2 → XW mL_law (Flaw L xs) cells slots (SS Z ext) M2 1181 [some (.retAddr 300), some (.ref 0), some (.ref 48), some (.int (nI i))] []) : XW mL_law (Flaw L xs) cells slots (SS Z ext) M 983 [some (.retAddr 300), some (.ref 0), some (.ref 48), some (.int (nI i))] [] := by
  obtain ⟨v, hC⟩ := hop (xs (i + 1))
  have hce2 : cells ≤ 600000 := by omega
  have hsl2 : slots ≤ 7302250 := by omega
  refine x_aload_n dL_law_983 rfl ?_
  refine x_aload_nR dL_law_984 rfl ?_
  refine x_iload_n dL_law_985 rfl ?_
  refine x_iconst (v := 1) dL_law_986 (by decide) ?_
  refine x_iadd dL_law_987 ?_
  refine x_sld (q := i + 1) dL_law_988 (nI_add i 1) (by omega) hL ?_
  refine x_cv mf_X9_back ml_L_138 dL_law_989 rfl sf_0 rfl ⟨by decide, by decide⟩ (Nat.le_of_ble_eq_true rfl) ⟨rfl, rfl⟩ ⟨hce2, hsl2⟩ hC (fun r M1 h => ?_)
  obtain ⟨hr, hC2⟩ := h
  subst hr
  refine x_aload_n dL_law_992 rfl ?_
  refine x_aload_nR dL_law_993 rfl ?_
  refine x_iload_n dL_law_994 rfl ?_
  refine x_iconst (v := 1) dL_law_995 (by decide) ?_
  refine x_iadd dL_law_996 ?_
  refine x_sld (q := i + 1) dL_law_997 (nI_add i 1) (by omega) hL ?_
  refine x_cv mf_X10_back ml_L_141 dL_law_998 rfl sf_48 rfl ⟨by decide, by decide⟩ (Nat.le_of_ble_eq_true rfl) ⟨rfl, rfl⟩ ⟨hce2, hsl2⟩ hC2 (fun r M2 h => ?_)
  obtain ⟨hr, hI⟩ := h
  subst hr
  exact x_icmp_eq 1181 dL_law_1001 (by decide) (fun _ => fin M2 hI) (fun hc => absurd rfl hc)
theorem lc_sheet {L i cells slots : Nat} {xs : Nat → Int32} {Z : List (Option Nat)} {ext : List Ds} {M : Mm} (hL : L ≤ 2560) (hi : i + 5 ≤ L) (hce : cells ≤ 500000) (hsl : slots ≤ 7000000) (hop : ∀ (a : Int32) (b : Int32) (c : Int32), OpS [.int a, .int b, .int c] Z ext M) (fin : ∀ (Z' : List (Option Nat)) (ext' : List Ds) (M2 : Mm), Inv Z' ext' M2 → XW mL_law (Flaw L xs) (cells + 2) (slots + 42) (SS Z' ext') M2 1181 [some (.retAddr 300), some (.ref 0), some (.ref 48), some (.int (nI i))] []) : XW mL_law (Flaw L xs) cells slots (SS Z ext) M 1006 [some (.retAddr 300), some (.ref 0), some (.ref 48), some (.int (nI i))] [] := by
  obtain ⟨v, hC⟩ := hop (xs (i + 1)) (xs (i + 2)) (xs (i + 3))
  have hce2 : cells ≤ 600000 := by omega
  have hsl2 : slots ≤ 7302250 := by omega
  refine x_aload_n dL_law_1006 rfl ?_
  refine x_aload_nR dL_law_1007 rfl ?_
  refine x_iload_n dL_law_1008 rfl ?_
  refine x_iconst (v := 1) dL_law_1009 (by decide) ?_
  refine x_iadd dL_law_1010 ?_
  refine x_sld (q := i + 1) dL_law_1011 (nI_add i 1) (by omega) hL ?_
  refine x_aload_nR dL_law_1012 rfl ?_
  refine x_iload_n dL_law_1013 rfl ?_
  refine x_iconst (v := 2) dL_law_1014 (by decide) ?_
  refine x_iadd dL_law_1015 ?_
  refine x_sld (q := i + 2) dL_law_1016 (nI_add i 2) (by omega) hL ?_
  refine x_aload_nR dL_law_1017 rfl ?_
  refine x_iload_n dL_law_1018 rfl ?_
  refine x_iconst (v := 3) dL_law_1019 (by decide) ?_
  refine x_iadd dL_law_1020 ?_
  refine x_sld (q := i + 3) dL_law_1021 (nI_add i 3) (by omega) hL ?_
  refine x_callG mf_X9_sheet ml_L_142 dL_law_1022 rfl sf_0 rfl ⟨by decide, by decide⟩ (Nat.le_of_ble_eq_true rfl) ⟨by show cells + 2 ≤ 600000; omega, by show slots + 42 ≤ 7302250; omega⟩ rfl rfl hC (fun r S1 M1 h => ?_)
  obtain ⟨hr, Z', ext', hS1, hC2⟩ := h
  subst hr; subst hS1
  refine x_aload_n dL_law_1025 rfl ?_
  refine x_aload_nR dL_law_1026 rfl ?_
  refine x_iload_n dL_law_1027 rfl ?_
  refine x_iconst (v := 1) dL_law_1028 (by decide) ?_
  refine x_iadd dL_law_1029 ?_
  refine x_sld (q := i + 1) dL_law_1030 (nI_add i 1) (by omega) hL ?_
  refine x_aload_nR dL_law_1031 rfl ?_
  refine x_iload_n dL_law_1032 rfl ?_
  refine x_iconst (v := 2) dL_law_1033 (by decide) ?_
  refine x_iadd dL_law_1034 ?_
  refine x_sld (q := i + 2) dL_law_1035 (nI_add i 2) (by omega) hL ?_
  refine x_aload_nR dL_law_1036 rfl ?_
  refine x_iload_n dL_law_1037 rfl ?_
  refine x_iconst (v := 3) dL_law_1038 (by decide) ?_
  refine x_iadd dL_law_1039 ?_
  refine x_sld (q := i + 3) dL_law_1040 (nI_add i 3) (by omega) hL ?_
  refine x_cv mf_X10_sheet ml_L_145 dL_law_1041 rfl sf_48 rfl ⟨by decide, by decide⟩ (Nat.le_of_ble_eq_true rfl) ⟨rfl, rfl⟩ ⟨by show cells + 2 ≤ 600000; omega, by show slots + 42 ≤ 7302250; omega⟩ hC2 (fun r M2 h => ?_)
  obtain ⟨hr, hI⟩ := h
  subst hr
  exact x_icmp_eq 1181 dL_law_1044 (by decide) (fun _ => fin Z' ext' M2 hI) (fun hc => absurd rfl hc)
theorem lc_lay {L i cells slots : Nat} {xs : Nat → Int32} {Z : List (Option Nat)} {ext : List Ds} {M : Mm} (hL : L ≤ 2560) (hi : i + 5 ≤ L) (hce : cells ≤ 500000) (hsl : slots ≤ 7000000) (hop : ∀ (a : Int32) (b : Int32) (c : Int32), OpI mX9_lay mX10_lay [.int a, .int b, .int c] Z ext M) (fin : ∀ M2 : Mm, Inv Z ext M2 → XW mL_law (Flaw L xs) cells slots (SS Z ext) M2 1181 [some (.retAddr 300), some (.ref 0), some (.ref 48), some (.int (nI i))] []) : XW mL_law (Flaw L xs) cells slots (SS Z ext) M 1049 [some (.retAddr 300), some (.ref 0), some (.ref 48), some (.int (nI i))] [] := by
  obtain ⟨v, hC⟩ := hop (xs (i + 1)) (xs (i + 2)) (xs (i + 3))
  have hce2 : cells ≤ 600000 := by omega
  have hsl2 : slots ≤ 7302250 := by omega
  refine x_aload_n dL_law_1049 rfl ?_
  refine x_aload_nR dL_law_1050 rfl ?_
  refine x_iload_n dL_law_1051 rfl ?_
  refine x_iconst (v := 1) dL_law_1052 (by decide) ?_
  refine x_iadd dL_law_1053 ?_
  refine x_sld (q := i + 1) dL_law_1054 (nI_add i 1) (by omega) hL ?_
  refine x_aload_nR dL_law_1055 rfl ?_
  refine x_iload_n dL_law_1056 rfl ?_
  refine x_iconst (v := 2) dL_law_1057 (by decide) ?_
  refine x_iadd dL_law_1058 ?_
  refine x_sld (q := i + 2) dL_law_1059 (nI_add i 2) (by omega) hL ?_
  refine x_aload_nR dL_law_1060 rfl ?_
  refine x_iload_n dL_law_1061 rfl ?_
  refine x_iconst (v := 3) dL_law_1062 (by decide) ?_
  refine x_iadd dL_law_1063 ?_
  refine x_sld (q := i + 3) dL_law_1064 (nI_add i 3) (by omega) hL ?_
  refine x_cv mf_X9_lay ml_L_146 dL_law_1065 rfl sf_0 rfl ⟨by decide, by decide⟩ (Nat.le_of_ble_eq_true rfl) ⟨rfl, rfl⟩ ⟨hce2, hsl2⟩ hC (fun r M1 h => ?_)
  obtain ⟨hr, hC2⟩ := h
  subst hr
  refine x_aload_n dL_law_1068 rfl ?_
  refine x_aload_nR dL_law_1069 rfl ?_
  refine x_iload_n dL_law_1070 rfl ?_
  refine x_iconst (v := 1) dL_law_1071 (by decide) ?_
  refine x_iadd dL_law_1072 ?_
  refine x_sld (q := i + 1) dL_law_1073 (nI_add i 1) (by omega) hL ?_
  refine x_aload_nR dL_law_1074 rfl ?_
  refine x_iload_n dL_law_1075 rfl ?_
  refine x_iconst (v := 2) dL_law_1076 (by decide) ?_
  refine x_iadd dL_law_1077 ?_
  refine x_sld (q := i + 2) dL_law_1078 (nI_add i 2) (by omega) hL ?_
  refine x_aload_nR dL_law_1079 rfl ?_
  refine x_iload_n dL_law_1080 rfl ?_
  refine x_iconst (v := 3) dL_law_1081 (by decide) ?_
  refine x_iadd dL_law_1082 ?_
  refine x_sld (q := i + 3) dL_law_1083 (nI_add i 3) (by omega) hL ?_
  refine x_cv mf_X10_lay ml_L_149 dL_law_1084 rfl sf_48 rfl ⟨by decide, by decide⟩ (Nat.le_of_ble_eq_true rfl) ⟨rfl, rfl⟩ ⟨hce2, hsl2⟩ hC2 (fun r M2 h => ?_)
  obtain ⟨hr, hI⟩ := h
  subst hr
  exact x_icmp_eq 1181 dL_law_1087 (by decide) (fun _ => fin M2 hI) (fun hc => absurd rfl hc)
theorem lc_read {L i cells slots : Nat} {xs : Nat → Int32} {Z : List (Option Nat)} {ext : List Ds} {M : Mm} (hL : L ≤ 2560) (hi : i + 5 ≤ L) (hce : cells ≤ 500000) (hsl : slots ≤ 7000000) (hop : ∀ (a : Int32) (b : Int32) (c : Int32) (d : Int32), OpI mX9_read mX10_read [.int a, .int b, .int c, .int d] Z ext M) (fin : ∀ M2 : Mm, Inv Z ext M2 → XW mL_law (Flaw L xs) cells slots (SS Z ext) M2 1181 [some (.retAddr 300), some (.ref 0), some (.ref 48), some (.int (nI i))] []) : XW mL_law (Flaw L xs) cells slots (SS Z ext) M 1092 [some (.retAddr 300), some (.ref 0), some (.ref 48), some (.int (nI i))] [] := by
  obtain ⟨v, hC⟩ := hop (xs (i + 1)) (xs (i + 2)) (xs (i + 3)) (xs (i + 4))
  have hce2 : cells ≤ 600000 := by omega
  have hsl2 : slots ≤ 7302250 := by omega
  refine x_aload_n dL_law_1092 rfl ?_
  refine x_aload_nR dL_law_1093 rfl ?_
  refine x_iload_n dL_law_1094 rfl ?_
  refine x_iconst (v := 1) dL_law_1095 (by decide) ?_
  refine x_iadd dL_law_1096 ?_
  refine x_sld (q := i + 1) dL_law_1097 (nI_add i 1) (by omega) hL ?_
  refine x_aload_nR dL_law_1098 rfl ?_
  refine x_iload_n dL_law_1099 rfl ?_
  refine x_iconst (v := 2) dL_law_1100 (by decide) ?_
  refine x_iadd dL_law_1101 ?_
  refine x_sld (q := i + 2) dL_law_1102 (nI_add i 2) (by omega) hL ?_
  refine x_aload_nR dL_law_1103 rfl ?_
  refine x_iload_n dL_law_1104 rfl ?_
  refine x_iconst (v := 3) dL_law_1105 (by decide) ?_
  refine x_iadd dL_law_1106 ?_
  refine x_sld (q := i + 3) dL_law_1107 (nI_add i 3) (by omega) hL ?_
  refine x_aload_nR dL_law_1108 rfl ?_
  refine x_iload_n dL_law_1109 rfl ?_
  refine x_iconst (v := 4) dL_law_1110 (by decide) ?_
  refine x_iadd dL_law_1111 ?_
  refine x_sld (q := i + 4) dL_law_1112 (nI_add i 4) (by omega) hL ?_
  refine x_cv mf_X9_read ml_L_150 dL_law_1113 rfl sf_0 rfl ⟨by decide, by decide⟩ (Nat.le_of_ble_eq_true rfl) ⟨rfl, rfl⟩ ⟨hce2, hsl2⟩ hC (fun r M1 h => ?_)
  obtain ⟨hr, hC2⟩ := h
  subst hr
  refine x_aload_n dL_law_1116 rfl ?_
  refine x_aload_nR dL_law_1117 rfl ?_
  refine x_iload_n dL_law_1118 rfl ?_
  refine x_iconst (v := 1) dL_law_1119 (by decide) ?_
  refine x_iadd dL_law_1120 ?_
  refine x_sld (q := i + 1) dL_law_1121 (nI_add i 1) (by omega) hL ?_
  refine x_aload_nR dL_law_1122 rfl ?_
  refine x_iload_n dL_law_1123 rfl ?_
  refine x_iconst (v := 2) dL_law_1124 (by decide) ?_
  refine x_iadd dL_law_1125 ?_
  refine x_sld (q := i + 2) dL_law_1126 (nI_add i 2) (by omega) hL ?_
  refine x_aload_nR dL_law_1127 rfl ?_
  refine x_iload_n dL_law_1128 rfl ?_
  refine x_iconst (v := 3) dL_law_1129 (by decide) ?_
  refine x_iadd dL_law_1130 ?_
  refine x_sld (q := i + 3) dL_law_1131 (nI_add i 3) (by omega) hL ?_
  refine x_aload_nR dL_law_1132 rfl ?_
  refine x_iload_n dL_law_1133 rfl ?_
  refine x_iconst (v := 4) dL_law_1134 (by decide) ?_
  refine x_iadd dL_law_1135 ?_
  refine x_sld (q := i + 4) dL_law_1136 (nI_add i 4) (by omega) hL ?_
  refine x_cv mf_X10_read ml_L_154 dL_law_1137 rfl sf_48 rfl ⟨by decide, by decide⟩ (Nat.le_of_ble_eq_true rfl) ⟨rfl, rfl⟩ ⟨hce2, hsl2⟩ hC2 (fun r M2 h => ?_)
  obtain ⟨hr, hI⟩ := h
  subst hr
  exact x_icmp_eq 1181 dL_law_1140 (by decide) (fun _ => fin M2 hI) (fun hc => absurd rfl hc)
theorem lc_torn {L i cells slots : Nat} {xs : Nat → Int32} {Z : List (Option Nat)} {ext : List Ds} {M : Mm} (hL : L ≤ 2560) (hi : i + 5 ≤ L) (hce : cells ≤ 500000) (hsl : slots ≤ 7000000) (hop : OpI mX9_torn mX10_torn [] Z ext M) (fin : ∀ M2 : Mm, Inv Z ext M2 → XW mL_law (Flaw L xs) cells slots (SS Z ext) M2 1181 [some (.retAddr 300), some (.ref 0), some (.ref 48), some (.int (nI i))] []) : XW mL_law (Flaw L xs) cells slots (SS Z ext) M 1145 [some (.retAddr 300), some (.ref 0), some (.ref 48), some (.int (nI i))] [] := by
  obtain ⟨v, hC⟩ := hop 
  have hce2 : cells ≤ 600000 := by omega
  have hsl2 : slots ≤ 7302250 := by omega
  refine x_aload_n dL_law_1145 rfl ?_
  refine x_cv mf_X9_torn ml_L_155 dL_law_1146 rfl sf_0 rfl ⟨by decide, by decide⟩ (Nat.le_of_ble_eq_true rfl) ⟨rfl, rfl⟩ ⟨hce2, hsl2⟩ hC (fun r M1 h => ?_)
  obtain ⟨hr, hC2⟩ := h
  subst hr
  refine x_aload_n dL_law_1149 rfl ?_
  refine x_cv mf_X10_torn ml_L_158 dL_law_1150 rfl sf_48 rfl ⟨by decide, by decide⟩ (Nat.le_of_ble_eq_true rfl) ⟨rfl, rfl⟩ ⟨hce2, hsl2⟩ hC2 (fun r M2 h => ?_)
  obtain ⟨hr, hI⟩ := h
  subst hr
  exact x_icmp_eq 1181 dL_law_1153 (by decide) (fun _ => fin M2 hI) (fun hc => absurd rfl hc)
theorem lc_count {L i cells slots : Nat} {xs : Nat → Int32} {Z : List (Option Nat)} {ext : List Ds} {M : Mm} (hL : L ≤ 2560) (hi : i + 5 ≤ L) (hce : cells ≤ 500000) (hsl : slots ≤ 7000000) (hop : ∀ (a : Int32), OpI mX9_count mX10_count [.int a] Z ext M) (fin : ∀ M2 : Mm, Inv Z ext M2 → XW mL_law (Flaw L xs) cells slots (SS Z ext) M2 1181 [some (.retAddr 300), some (.ref 0), some (.ref 48), some (.int (nI i))] []) : XW mL_law (Flaw L xs) cells slots (SS Z ext) M 1158 [some (.retAddr 300), some (.ref 0), some (.ref 48), some (.int (nI i))] [] := by
  obtain ⟨v, hC⟩ := hop (xs (i + 1))
  have hce2 : cells ≤ 600000 := by omega
  have hsl2 : slots ≤ 7302250 := by omega
  refine x_aload_n dL_law_1158 rfl ?_
  refine x_aload_nR dL_law_1159 rfl ?_
  refine x_iload_n dL_law_1160 rfl ?_
  refine x_iconst (v := 1) dL_law_1161 (by decide) ?_
  refine x_iadd dL_law_1162 ?_
  refine x_sld (q := i + 1) dL_law_1163 (nI_add i 1) (by omega) hL ?_
  refine x_cv mf_X9_count ml_L_159 dL_law_1164 rfl sf_0 rfl ⟨by decide, by decide⟩ (Nat.le_of_ble_eq_true rfl) ⟨rfl, rfl⟩ ⟨hce2, hsl2⟩ hC (fun r M1 h => ?_)
  obtain ⟨hr, hC2⟩ := h
  subst hr
  refine x_aload_n dL_law_1167 rfl ?_
  refine x_aload_nR dL_law_1168 rfl ?_
  refine x_iload_n dL_law_1169 rfl ?_
  refine x_iconst (v := 1) dL_law_1170 (by decide) ?_
  refine x_iadd dL_law_1171 ?_
  refine x_sld (q := i + 1) dL_law_1172 (nI_add i 1) (by omega) hL ?_
  refine x_cv mf_X10_count ml_L_162 dL_law_1173 rfl sf_48 rfl ⟨by decide, by decide⟩ (Nat.le_of_ble_eq_true rfl) ⟨rfl, rfl⟩ ⟨hce2, hsl2⟩ hC2 (fun r M2 h => ?_)
  obtain ⟨hr, hI⟩ := h
  subst hr
  exact x_icmp_eq 1181 dL_law_1176 (by decide) (fun _ => fin M2 hI) (fun hc => absurd rfl hc)
/-- all calls -/
def Ops : Prop :=
  (∀ (Z : List (Option Nat)) (ext : List Ds) (M : Mm), Inv Z ext M → ∀ (a : Int64), OpI mX9_feed mX10_feed [.long a] Z ext M) ∧
  (∀ (Z : List (Option Nat)) (ext : List Ds) (M : Mm), Inv Z ext M → ∀ (a : Int32), OpI mX9_end mX10_end [.int a] Z ext M) ∧
  (∀ (Z : List (Option Nat)) (ext : List Ds) (M : Mm), Inv Z ext M → OpI mX9_text mX10_text [] Z ext M) ∧
  (∀ (Z : List (Option Nat)) (ext : List Ds) (M : Mm), Inv Z ext M → OpI mX9_fault mX10_fault [] Z ext M) ∧
  (∀ (Z : List (Option Nat)) (ext : List Ds) (M : Mm), Inv Z ext M → ∀ (a : Int32), OpI mX9_rule mX10_rule [.int a] Z ext M) ∧
  (∀ (Z : List (Option Nat)) (ext : List Ds) (M : Mm), Inv Z ext M → ∀ (a : Int32) (b : Int32), OpI mX9_square mX10_square [.int a, .int b] Z ext M) ∧
  (∀ (Z : List (Option Nat)) (ext : List Ds) (M : Mm), Inv Z ext M → ∀ (a : Int32), OpI mX9_cost mX10_cost [.int a] Z ext M) ∧
  (∀ (Z : List (Option Nat)) (ext : List Ds) (M : Mm), Inv Z ext M → ∀ (a : Int32), OpI mX9_whole mX10_whole [.int a] Z ext M) ∧
  (∀ (Z : List (Option Nat)) (ext : List Ds) (M : Mm), Inv Z ext M → OpI mX9_left mX10_left [] Z ext M) ∧
  (∀ (Z : List (Option Nat)) (ext : List Ds) (M : Mm), Inv Z ext M → ∀ (a : Int32), OpI mX9_take mX10_take [.int a] Z ext M) ∧
  (∀ (Z : List (Option Nat)) (ext : List Ds) (M : Mm), Inv Z ext M → ∀ (a : Int32), OpI mX9_lie mX10_lie [.int a] Z ext M) ∧
  (∀ (Z : List (Option Nat)) (ext : List Ds) (M : Mm), Inv Z ext M → ∀ (a : Int32) (b : Int32), OpI mX9_price mX10_price [.int a, .int b] Z ext M) ∧
  (∀ (Z : List (Option Nat)) (ext : List Ds) (M : Mm), Inv Z ext M → ∀ (a : Int32) (b : Bool), OpI mX9_counts mX10_counts [.int a, .int (b2i b)] Z ext M) ∧
  (∀ (Z : List (Option Nat)) (ext : List Ds) (M : Mm), Inv Z ext M → ∀ (a : Int32), OpI mX9_fewest mX10_fewest [.int a] Z ext M) ∧
  (∀ (Z : List (Option Nat)) (ext : List Ds) (M : Mm), Inv Z ext M → ∀ (a : Int32), OpI mX9_cheapest mX10_cheapest [.int a] Z ext M) ∧
  (∀ (Z : List (Option Nat)) (ext : List Ds) (M : Mm), Inv Z ext M → ∀ (a : Int32), OpI mX9_without mX10_without [.int a] Z ext M) ∧
  (∀ (Z : List (Option Nat)) (ext : List Ds) (M : Mm), Inv Z ext M → ∀ (a : Int32) (b : Int32), OpI mX9_alike mX10_alike [.int a, .int b] Z ext M) ∧
  (∀ (Z : List (Option Nat)) (ext : List Ds) (M : Mm), Inv Z ext M → ∀ (a : Int32), OpI mX9_between mX10_between [.int a] Z ext M) ∧
  (∀ (Z : List (Option Nat)) (ext : List Ds) (M : Mm), Inv Z ext M → ∀ (a : Int32) (b : Int32) (c : Int32), OpI mX9_just mX10_just [.int a, .int b, .int c] Z ext M) ∧
  (∀ (Z : List (Option Nat)) (ext : List Ds) (M : Mm), Inv Z ext M → ∀ (a : Int32) (b : Int32) (c : Int32), OpI mX9_riddle mX10_riddle [.int a, .int b, .int c] Z ext M) ∧
  (∀ (Z : List (Option Nat)) (ext : List Ds) (M : Mm), Inv Z ext M → ∀ (a : Int32), OpI mX9_taking mX10_taking [.int a] Z ext M) ∧
  (∀ (Z : List (Option Nat)) (ext : List Ds) (M : Mm), Inv Z ext M → ∀ (a : Int32), OpI mX9_laying mX10_laying [.int a] Z ext M) ∧
  (∀ (Z : List (Option Nat)) (ext : List Ds) (M : Mm), Inv Z ext M → ∀ (a : Int32), OpI mX9_boxes mX10_boxes [.int a] Z ext M) ∧
  (∀ (Z : List (Option Nat)) (ext : List Ds) (M : Mm), Inv Z ext M → ∀ (a : Int32), OpL mX9_mean mX10_mean [.int a] Z ext M) ∧
  (∀ (Z : List (Option Nat)) (ext : List Ds) (M : Mm), Inv Z ext M → ∀ (a : Int32), OpL mX9_chance mX10_chance [.int a] Z ext M) ∧
  (∀ (Z : List (Option Nat)) (ext : List Ds) (M : Mm), Inv Z ext M → ∀ (a : Int32) (b : Int32), OpI mX9_see mX10_see [.int a, .int b] Z ext M) ∧
  (∀ (Z : List (Option Nat)) (ext : List Ds) (M : Mm), Inv Z ext M → ∀ (a : Int32) (b : Int32), OpI mX9_gone mX10_gone [.int a, .int b] Z ext M) ∧
  (∀ (Z : List (Option Nat)) (ext : List Ds) (M : Mm), Inv Z ext M → ∀ (a : Int32) (b : Int32), OpI mX9_play mX10_play [.int a, .int b] Z ext M) ∧
  (∀ (Z : List (Option Nat)) (ext : List Ds) (M : Mm), Inv Z ext M → ∀ (a : Int32), OpI mX9_keep mX10_keep [.int a] Z ext M) ∧
  (∀ (Z : List (Option Nat)) (ext : List Ds) (M : Mm), Inv Z ext M → ∀ (a : Int32), OpI mX9_back mX10_back [.int a] Z ext M) ∧
  (∀ (Z : List (Option Nat)) (ext : List Ds) (M : Mm), Inv Z ext M → ∀ (a : Int32) (b : Int32) (c : Int32), OpS [.int a, .int b, .int c] Z ext M) ∧
  (∀ (Z : List (Option Nat)) (ext : List Ds) (M : Mm), Inv Z ext M → ∀ (a : Int32) (b : Int32) (c : Int32), OpI mX9_lay mX10_lay [.int a, .int b, .int c] Z ext M) ∧
  (∀ (Z : List (Option Nat)) (ext : List Ds) (M : Mm), Inv Z ext M → ∀ (a : Int32) (b : Int32) (c : Int32) (d : Int32), OpI mX9_read mX10_read [.int a, .int b, .int c, .int d] Z ext M) ∧
  (∀ (Z : List (Option Nat)) (ext : List Ds) (M : Mm), Inv Z ext M → OpI mX9_torn mX10_torn [] Z ext M) ∧
  (∀ (Z : List (Option Nat)) (ext : List Ds) (M : Mm), Inv Z ext M → ∀ (a : Int32), OpI mX9_count mX10_count [.int a] Z ext M)
theorem sub5 {L : Nat} (hL : L ≤ 2560) : (nI L - 5).toInt = (L : Int) - 5 := by
  have h1 : (nI L).toInt = (L : Int) := nI_toInt (by omega)
  have h5 : (5 : Int32).toInt = 5 := by decide
  rw [Int32.toInt_sub, h1, h5, Int.bmod_eq_of_le] <;> omega
set_option maxRecDepth 4000 in
theorem law_at {L : Nat} {xs : Nat → Int32} (ops : Ops) (hL : L ≤ 2560) : ∀ (r t cells slots : Nat) (Z : List (Option Nat)) (ext : List Ds) (M : Mm), L < 5 * t + r → t ≤ 512 → cells ≤ 71 + 2 * t → slots ≤ 17000 + 42 * t → Inv Z ext M → XW mL_law (Flaw L xs) cells slots (SS Z ext) M 18 [some (.retAddr 300), some (.ref 0), some (.ref 48), some (.int (nI (5 * t)))] [] := by
  intro r
  induction r with
  | zero =>
    intro t cells slots Z ext M hr ht hce hsl hI
    refine x_iload_n dL_law_18 rfl ?_
    refine x_aload_nR dL_law_19 rfl ?_
    refine x_slenL dL_law_20 ?_
    refine x_iconst (v := 5) dL_law_21 (by decide) ?_
    refine x_isub dL_law_22 ?_
    refine x_icmp_gt 1187 dL_law_23 (by decide) (fun _ => ?_) (fun hc => absurd (by rw [fa_lt, sub5 hL, nI_toInt (by omega)]; omega) hc)
    refine x_iconst (v := 1) dL_law_1187 (by decide) ?_
    exact x_lend dL_law_1188 (by omega) (by omega)
  | succ r ih =>
    intro t cells slots Z ext M hr ht hce hsl hI
    refine x_iload_n dL_law_18 rfl ?_
    refine x_aload_nR dL_law_19 rfl ?_
    refine x_slenL dL_law_20 ?_
    refine x_iconst (v := 5) dL_law_21 (by decide) ?_
    refine x_isub dL_law_22 ?_
    refine x_icmp_gt 1187 dL_law_23 (by decide) (fun _ => ?_) (fun hc => ?_)
    · refine x_iconst (v := 1) dL_law_1187 (by decide) ?_
      exact x_lend dL_law_1188 (by omega) (by omega)
    · have hi : 5 * t + 5 ≤ L := by
        rw [fa_lt, sub5 hL, nI_toInt (by omega)] at hc
        omega
      have fin : ∀ (c s : Nat) (Z' : List (Option Nat)) (ext' : List Ds) (M2 : Mm), c ≤ cells + 2 → s ≤ slots + 42 → Inv Z' ext' M2 → XW mL_law (Flaw L xs) c s (SS Z' ext') M2 1181 [some (.retAddr 300), some (.ref 0), some (.ref 48), some (.int (nI (5 * t)))] [] := by
        intro c s Z' ext' M2 h1 h2 h3
        refine x_iinc dL_law_1181 rfl rfl (by decide) ?_
        refine x_goto 18 dL_law_1184 (by decide) ?_
        refine x_eq rfl rfl (by show [_, _, _, some (Value.int (nI (5 * t) + 5))] = _; rw [show nI (5 * t) + 5 = nI (5 * (t + 1)) from nI_add (5 * t) 5]; rfl) rfl (ih (t + 1) c s Z' ext' M2 (by omega) (by omega) (by omega) (by omega) h3)
      have fin2 : ∀ M2 : Mm, Inv Z ext M2 → XW mL_law (Flaw L xs) cells slots (SS Z ext) M2 1181 [some (.retAddr 300), some (.ref 0), some (.ref 48), some (.int (nI (5 * t)))] [] := fun M2 h => fin cells slots Z ext M2 (by omega) (by omega) h
      have hce2 : cells ≤ 500000 := by omega
      have hsl2 : slots ≤ 7000000 := by omega
      refine x_aload_nR dL_law_26 rfl ?_
      refine x_iload_n dL_law_27 rfl ?_
      refine x_sld (q := 5 * t) dL_law_28 rfl (by omega) hL ?_
      refine x_bipush (v := 63) dL_law_29 (by decide) ?_
      refine x_iand dL_law_31 ?_
      generalize xs (5 * t) &&& 63 = x
      obtain ⟨o0, o1, o2, o3, o4, o5, o6, o7, o8, o9, o10, o11, o12, o13, o14, o15, o16, o17, o18, o19, o20, o21, o22, o23, o24, o25, o26, o27, o28, o29, o30, o31, o32, o33, o34⟩ := ops
      by_cases hx : 0 ≤ x.toInt ∧ x.toInt ≤ 34
      · obtain ⟨k, hk, rfl⟩ : ∃ k, k < 35 ∧ x = nI k := ⟨x.toInt.toNat, by omega, by rw [fa_eq, nI_toInt (by omega)]; omega⟩
        rcases (show k = 0 ∨ k = 1 ∨ k = 2 ∨ k = 3 ∨ k = 4 ∨ k = 5 ∨ k = 6 ∨ k = 7 ∨ k = 8 ∨ k = 9 ∨ k = 10 ∨ k = 11 ∨ k = 12 ∨ k = 13 ∨ k = 14 ∨ k = 15 ∨ k = 16 ∨ k = 17 ∨ k = 18 ∨ k = 19 ∨ k = 20 ∨ k = 21 ∨ k = 22 ∨ k = 23 ∨ k = 24 ∨ k = 25 ∨ k = 26 ∨ k = 27 ∨ k = 28 ∨ k = 29 ∨ k = 30 ∨ k = 31 ∨ k = 32 ∨ k = 33 ∨ k = 34 by omega) with rfl | rfl | rfl | rfl | rfl | rfl | rfl | rfl | rfl | rfl | rfl | rfl | rfl | rfl | rfl | rfl | rfl | rfl | rfl | rfl | rfl | rfl | rfl | rfl | rfl | rfl | rfl | rfl | rfl | rfl | rfl | rfl | rfl | rfl | rfl
        · exact x_tabIn (off := 156) 188 dL_law_32 (by decide) (by decide) (by decide) (by decide) (lc_feed hL hi hce2 hsl2 (o0 Z ext M hI) fin2)
        · exact x_tabIn (off := 209) 241 dL_law_32 (by decide) (by decide) (by decide) (by decide) (lc_end hL hi hce2 hsl2 (o1 Z ext M hI) fin2)
        · exact x_tabIn (off := 232) 264 dL_law_32 (by decide) (by decide) (by decide) (by decide) (lc_text hL hi hce2 hsl2 (o2 Z ext M hI) fin2)
        · exact x_tabIn (off := 245) 277 dL_law_32 (by decide) (by decide) (by decide) (by decide) (lc_fault hL hi hce2 hsl2 (o3 Z ext M hI) fin2)
        · exact x_tabIn (off := 258) 290 dL_law_32 (by decide) (by decide) (by decide) (by decide) (lc_rule hL hi hce2 hsl2 (o4 Z ext M hI) fin2)
        · exact x_tabIn (off := 281) 313 dL_law_32 (by decide) (by decide) (by decide) (by decide) (lc_square hL hi hce2 hsl2 (o5 Z ext M hI) fin2)
        · exact x_tabIn (off := 314) 346 dL_law_32 (by decide) (by decide) (by decide) (by decide) (lc_cost hL hi hce2 hsl2 (o6 Z ext M hI) fin2)
        · exact x_tabIn (off := 337) 369 dL_law_32 (by decide) (by decide) (by decide) (by decide) (lc_whole hL hi hce2 hsl2 (o7 Z ext M hI) fin2)
        · exact x_tabIn (off := 360) 392 dL_law_32 (by decide) (by decide) (by decide) (by decide) (lc_left hL hi hce2 hsl2 (o8 Z ext M hI) fin2)
        · exact x_tabIn (off := 373) 405 dL_law_32 (by decide) (by decide) (by decide) (by decide) (lc_take hL hi hce2 hsl2 (o9 Z ext M hI) fin2)
        · exact x_tabIn (off := 396) 428 dL_law_32 (by decide) (by decide) (by decide) (by decide) (lc_lie hL hi hce2 hsl2 (o10 Z ext M hI) fin2)
        · exact x_tabIn (off := 419) 451 dL_law_32 (by decide) (by decide) (by decide) (by decide) (lc_price hL hi hce2 hsl2 (o11 Z ext M hI) fin2)
        · exact x_tabIn (off := 452) 484 dL_law_32 (by decide) (by decide) (by decide) (by decide) (lc_counts hL hi hce2 hsl2 (o12 Z ext M hI) fin2)
        · exact x_tabIn (off := 501) 533 dL_law_32 (by decide) (by decide) (by decide) (by decide) (lc_fewest hL hi hce2 hsl2 (o13 Z ext M hI) fin2)
        · exact x_tabIn (off := 524) 556 dL_law_32 (by decide) (by decide) (by decide) (by decide) (lc_cheapest hL hi hce2 hsl2 (o14 Z ext M hI) fin2)
        · exact x_tabIn (off := 547) 579 dL_law_32 (by decide) (by decide) (by decide) (by decide) (lc_without hL hi hce2 hsl2 (o15 Z ext M hI) fin2)
        · exact x_tabIn (off := 570) 602 dL_law_32 (by decide) (by decide) (by decide) (by decide) (lc_alike hL hi hce2 hsl2 (o16 Z ext M hI) fin2)
        · exact x_tabIn (off := 603) 635 dL_law_32 (by decide) (by decide) (by decide) (by decide) (lc_between hL hi hce2 hsl2 (o17 Z ext M hI) fin2)
        · exact x_tabIn (off := 626) 658 dL_law_32 (by decide) (by decide) (by decide) (by decide) (lc_just hL hi hce2 hsl2 (o18 Z ext M hI) fin2)
        · exact x_tabIn (off := 669) 701 dL_law_32 (by decide) (by decide) (by decide) (by decide) (lc_riddle hL hi hce2 hsl2 (o19 Z ext M hI) fin2)
        · exact x_tabIn (off := 712) 744 dL_law_32 (by decide) (by decide) (by decide) (by decide) (lc_taking hL hi hce2 hsl2 (o20 Z ext M hI) fin2)
        · exact x_tabIn (off := 735) 767 dL_law_32 (by decide) (by decide) (by decide) (by decide) (lc_laying hL hi hce2 hsl2 (o21 Z ext M hI) fin2)
        · exact x_tabIn (off := 758) 790 dL_law_32 (by decide) (by decide) (by decide) (by decide) (lc_boxes hL hi hce2 hsl2 (o22 Z ext M hI) fin2)
        · exact x_tabIn (off := 781) 813 dL_law_32 (by decide) (by decide) (by decide) (by decide) (lc_mean hL hi hce2 hsl2 (o23 Z ext M hI) fin2)
        · exact x_tabIn (off := 805) 837 dL_law_32 (by decide) (by decide) (by decide) (by decide) (lc_chance hL hi hce2 hsl2 (o24 Z ext M hI) fin2)
        · exact x_tabIn (off := 829) 861 dL_law_32 (by decide) (by decide) (by decide) (by decide) (lc_see hL hi hce2 hsl2 (o25 Z ext M hI) fin2)
        · exact x_tabIn (off := 862) 894 dL_law_32 (by decide) (by decide) (by decide) (by decide) (lc_gone hL hi hce2 hsl2 (o26 Z ext M hI) fin2)
        · exact x_tabIn (off := 895) 927 dL_law_32 (by decide) (by decide) (by decide) (by decide) (lc_play hL hi hce2 hsl2 (o27 Z ext M hI) fin2)
        · exact x_tabIn (off := 928) 960 dL_law_32 (by decide) (by decide) (by decide) (by decide) (lc_keep hL hi hce2 hsl2 (o28 Z ext M hI) fin2)
        · exact x_tabIn (off := 951) 983 dL_law_32 (by decide) (by decide) (by decide) (by decide) (lc_back hL hi hce2 hsl2 (o29 Z ext M hI) fin2)
        · exact x_tabIn (off := 974) 1006 dL_law_32 (by decide) (by decide) (by decide) (by decide) (lc_sheet hL hi hce2 hsl2 (o30 Z ext M hI) (fun Z' ext' M2 h => fin _ _ Z' ext' M2 (by omega) (by omega) h))
        · exact x_tabIn (off := 1017) 1049 dL_law_32 (by decide) (by decide) (by decide) (by decide) (lc_lay hL hi hce2 hsl2 (o31 Z ext M hI) fin2)
        · exact x_tabIn (off := 1060) 1092 dL_law_32 (by decide) (by decide) (by decide) (by decide) (lc_read hL hi hce2 hsl2 (o32 Z ext M hI) fin2)
        · exact x_tabIn (off := 1113) 1145 dL_law_32 (by decide) (by decide) (by decide) (by decide) (lc_torn hL hi hce2 hsl2 (o33 Z ext M hI) fin2)
        · exact x_tabIn (off := 1126) 1158 dL_law_32 (by decide) (by decide) (by decide) (by decide) (lc_count hL hi hce2 hsl2 (o34 Z ext M hI) fin2)
      · exact x_tabOut 1181 dL_law_32 (by omega) (by decide) (fin2 M hI)
