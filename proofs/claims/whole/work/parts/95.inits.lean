/-! ===== constructors ===== -/
theorem wfS_app (n : Nat) (S T : List Ds) : wfS n (S ++ T) = (wfS n S && wfS n T) := List.all_append
theorem oko_mono {n m : Nat} (h : n ≤ m) {r : Option Nat} (hr : oko n r = true) : oko m r = true := by
  cases r with
  | none => rfl
  | some q => simp only [oko, decide_eq_true_eq] at hr ⊢; omega
theorem wfS_mono {n m : Nat} (h : n ≤ m) {S : List Ds} (hS : wfS n S = true) : wfS m S = true := by
  refine List.all_eq_true.mpr (fun d hd => ?_)
  have h1 := List.all_eq_true.mp hS d hd
  rcases d with ⟨ty, k⟩ | ⟨C, l⟩ | ⟨ci, rs⟩
  · rfl
  · exact List.all_eq_true.mpr (fun r hr => oko_mono h (List.all_eq_true.mp h1 r hr))
  · refine List.all_eq_true.mpr (fun r hr => ?_)
    have h2 := List.all_eq_true.mp h1 r hr
    cases r with
    | none => rfl
    | some r => exact oko_mono h h2
theorem wf2 {S0 T : List Ds} {c : Nat} (hc : S0.length + T.length = c) (hwf : wfS S0.length S0 = true) (hT : wfS c T = true) : wfS (S0 ++ T).length (S0 ++ T) = true := by
  rw [List.length_append, hc, wfS_app, hT, wfS_mono (by omega) hwf]; rfl
theorem lk_app {S0 : List Ds} {o : Ds} {R : List Ds} {a : Nat} (ha : S0.length = a) : lk (S0 ++ o :: R) a = some o := by
  rw [lk_eq, ← ha, List.getElem?_append_right (Nat.le_refl _)]; simp
theorem set_app {S0 : List Ds} {o o' : Ds} {R : List Ds} {a : Nat} (ha : S0.length = a) : (S0 ++ o :: R).set a o' = S0 ++ o' :: R := by
  rw [← ha, List.set_append_right _ _ (Nat.le_refl _)]; simp
section XP
variable {i j : Mi} {F : Fn} {cells slots : Nat} {S0 T : List Ds} {M : Mm} {pc : Nat} {lv : Lv} {st stk : List Value}
theorem x_shape {S S' : List Ds} (h : S = S') (kk : XW i F cells slots S' M pc lv st) : XW i F cells slots S M pc lv st := by rw [h]; exact kk
theorem x_newaA {aty : ArrayType} {ty : FieldType} {n : Int32} {N c : Nat} (hc : S0.length + T.length = c) (hwf : wfS S0.length S0 = true) (hT : wfS c T = true) (hty : newarray.typeOf aty = ty) (h3 : ty = .int ∨ ty = .byte ∨ ty = .boolean) (hw : Cond.arrayClass ty ∈ gw) (hn : n = nI N) (hN : N ≤ 5000) (hd : decode (mC i) pc = .ok (.newarray aty, 2)) (hlv : lv.all (okl c) = true) (hst : st.all (okv c) = true) (hcells : cells + 1 ≤ (mM i).cells) (hslots : slots + N ≤ (mM i).slots)
    (kk : XW i F (cells + 1) (slots + N) (S0 ++ (T ++ [.inl (ty, N)])) (upr M c (fun _ => 0)) (pc + 2) lv (.ref c :: st)) : XW i F cells slots (S0 ++ T) M pc lv (.int n :: st) := by
  have hl : (S0 ++ T).length = c := by rw [List.length_append, hc]
  refine x_newaT (t0 := 0) hty h3 hw hn hN hd (wf2 hc hwf hT) (by rw [hl]; exact hlv) (by rw [hl]; exact hst) hcells hslots ?_
  rw [hl, List.append_assoc]
  exact kk
theorem x_newoA {idx ci c : Nat} {C : String} {rs : List (Option (Option Nat))} (hc : S0.length + T.length = c) (hwf : wfS S0.length S0 = true) (hT : wfS c T = true) (nw : NWd ci rs) (hC : (vwCl[ci]?).map (fun x => x.1) = some C) (hw1 : Cond.classLink (mY i).cls idx C ∈ gw) (hd : decode (mC i) pc = .ok (.new idx, 3)) (had : allD rs = true) (hlv : lv.all (okl c) = true) (hst : st.all (okv c) = true) (hcells : cells + 1 ≤ (mM i).cells) (hslots : slots + rs.length ≤ (mM i).slots)
    (kk : XW i F (cells + 1) (slots + rs.length) (S0 ++ (T ++ [.inr (.inr (ci, rs))])) (upr M c (fun _ => 0)) (pc + 3) lv (.ref c :: st)) : XW i F cells slots (S0 ++ T) M pc lv st := by
  have hl : (S0 ++ T).length = c := by rw [List.length_append, hc]
  refine x_newo nw hC hw1 hd had (wf2 hc hwf hT) (by rw [hl]; exact hlv) (by rw [hl]; exact hst) hcells hslots ?_
  rw [hl, List.append_assoc]
  exact kk
theorem x_putA {idx ci kf a q : Nat} {ty : FieldType} {rs : List (Option (Option Nat))} {r0 : Option (Option Nat)} {R : List Ds} (ha : S0.length = a) (fl : FLd (mY i).cls idx ci kf ty true) (hin : (mY i).name = "<init>") (hcl : (vwCl[ci]?).map (fun x => x.1) = some (mY i).cls) (hd : decode (mC i) pc = .ok (.putfield idx, 3)) (hr : lk rs kf = some r0) (hn : ∀ a, narrow ty (.ref a) = .ref a) (hf : ∀ a, fits ty (.ref a) = true)
    (kk : XW i F cells slots (S0 ++ .inr (.inr (ci, rs.set kf (some (some q)))) :: R) M (pc + 3) lv st) : XW i F cells slots (S0 ++ .inr (.inr (ci, rs)) :: R) M pc lv (.ref q :: .ref a :: st) := by
  refine x_putF fl hin hcl hd (lk_app ha) hr hn hf ?_
  rw [set_app ha]
  exact kk
end XP
/-- the room of a method that makes c cells of s slots, at most d calls deep -/
abbrev rmA (d c s : Nat) : Room := { frames := d, cells := c, slots := s, locals := 40 * d }
theorem oi_i : Cond.instanceMethod Lib.objectInit ∈ gw := tb 26 (by decide +kernel) (by decide +kernel)
theorem oi_c : Cond.code Lib.objectInit ⟨#[0xb1]⟩ 1 none ∈ gw := tb 27 (by decide +kernel) (by decide +kernel)
theorem ac_int : Cond.arrayClass .int ∈ gw := tb 87 (by decide +kernel) (by decide +kernel)
theorem ac_byte : Cond.arrayClass .byte ∈ gw := tb 145 (by decide +kernel) (by decide +kernel)
theorem ac_boolean : Cond.arrayClass .boolean ∈ gw := tb 1078 (by decide +kernel) (by decide +kernel)
theorem cl_L_7 : Cond.classLink RL 7 RX9 ∈ gw := tb 20 (by decide +kernel) (by decide +kernel)
theorem oi_X9 : Cond.methodLink RX9 1 Lib.objectInit ∈ gw := tb 25 (by decide +kernel) (by decide +kernel)
theorem cl_X9_7 : Cond.classLink RX9 7 RX2 ∈ gw := tb 28 (by decide +kernel) (by decide +kernel)
theorem oi_X2 : Cond.methodLink RX2 3 Lib.objectInit ∈ gw := tb 33 (by decide +kernel) (by decide +kernel)
theorem cl_X9_16 : Cond.classLink RX9 16 RX6 ∈ gw := tb 88 (by decide +kernel) (by decide +kernel)
theorem oi_X6 : Cond.methodLink RX6 3 Lib.objectInit ∈ gw := tb 93 (by decide +kernel) (by decide +kernel)
theorem cl_X9_23 : Cond.classLink RX9 23 RX7 ∈ gw := tb 116 (by decide +kernel) (by decide +kernel)
theorem oi_X7 : Cond.methodLink RX7 1 Lib.objectInit ∈ gw := tb 121 (by decide +kernel) (by decide +kernel)
theorem cl_X9_30 : Cond.classLink RX9 30 RX8 ∈ gw := tb 146 (by decide +kernel) (by decide +kernel)
theorem oi_X8 : Cond.methodLink RX8 3 Lib.objectInit ∈ gw := tb 151 (by decide +kernel) (by decide +kernel)
theorem cl_X8_9 : Cond.classLink RX8 9 RX6 ∈ gw := tb 152 (by decide +kernel) (by decide +kernel)
theorem cl_X9_39 : Cond.classLink RX9 39 RX0 ∈ gw := tb 197 (by decide +kernel) (by decide +kernel)
theorem oi_X0 : Cond.methodLink RX0 3 Lib.objectInit ∈ gw := tb 202 (by decide +kernel) (by decide +kernel)
theorem cl_X9_46 : Cond.classLink RX9 46 RX4 ∈ gw := tb 234 (by decide +kernel) (by decide +kernel)
theorem oi_X4 : Cond.methodLink RX4 3 Lib.objectInit ∈ gw := tb 239 (by decide +kernel) (by decide +kernel)
theorem cl_X9_53 : Cond.classLink RX9 53 RX3 ∈ gw := tb 275 (by decide +kernel) (by decide +kernel)
theorem oi_X3 : Cond.methodLink RX3 3 Lib.objectInit ∈ gw := tb 280 (by decide +kernel) (by decide +kernel)
theorem cl_X9_60 : Cond.classLink RX9 60 RX1 ∈ gw := tb 303 (by decide +kernel) (by decide +kernel)
theorem oi_X1 : Cond.methodLink RX1 3 Lib.objectInit ∈ gw := tb 308 (by decide +kernel) (by decide +kernel)
theorem cl_X9_71 : Cond.classLink RX9 71 RX5 ∈ gw := tb 334 (by decide +kernel) (by decide +kernel)
theorem oi_X5 : Cond.methodLink RX5 1 Lib.objectInit ∈ gw := tb 863 (by decide +kernel) (by decide +kernel)
theorem cl_L_10 : Cond.classLink RL 10 RX10 ∈ gw := tb 906 (by decide +kernel) (by decide +kernel)
theorem oi_X10 : Cond.methodLink RX10 1 Lib.objectInit ∈ gw := tb 911 (by decide +kernel) (by decide +kernel)
theorem nw_X0 : NWd 0 [none, none, none, none, some none, some none, some none, some none, none] := ⟨RX0, TX0, 9, tyX0, rfl, rfl, inX0, tyX0_ok, tb 198 (by decide +kernel) (by decide +kernel), tb 6 (by decide +kernel) (by decide +kernel), by decide +kernel⟩
theorem nw_X1 : NWd 1 [none, none, none, none, some none, some none, some none] := ⟨RX1, TX1, 7, tyX1, rfl, rfl, inX1, tyX1_ok, tb 304 (by decide +kernel) (by decide +kernel), tb 9 (by decide +kernel) (by decide +kernel), by decide +kernel⟩
theorem nw_X2 : NWd 2 [none, none, none, none, some none, some none, some none, some none, some none, some none, some none, some none] := ⟨RX2, TX2, 12, tyX2, rfl, rfl, inX2, tyX2_ok, tb 29 (by decide +kernel) (by decide +kernel), tb 2 (by decide +kernel) (by decide +kernel), by decide +kernel⟩
theorem nw_X3 : NWd 3 [none, none, none, some none, some none, some none] := ⟨RX3, TX3, 6, tyX3, rfl, rfl, inX3, tyX3_ok, tb 276 (by decide +kernel) (by decide +kernel), tb 8 (by decide +kernel) (by decide +kernel), by decide +kernel⟩
theorem nw_X4 : NWd 4 [none, none, none, none, none, some none, some none, some none, some none, none] := ⟨RX4, TX4, 10, tyX4, rfl, rfl, inX4, tyX4_ok, tb 235 (by decide +kernel) (by decide +kernel), tb 7 (by decide +kernel) (by decide +kernel), by decide +kernel⟩
theorem nw_X5 : NWd 5 [none, some none] := ⟨RX5, TX5, 2, tyX5, rfl, rfl, inX5, tyX5_ok, tb 859 (by decide +kernel) (by decide +kernel), tb 19 (by decide +kernel) (by decide +kernel), by decide +kernel⟩
theorem nw_X6 : NWd 6 [none, none, some none, some none] := ⟨RX6, TX6, 4, tyX6, rfl, rfl, inX6, tyX6_ok, tb 89 (by decide +kernel) (by decide +kernel), tb 3 (by decide +kernel) (by decide +kernel), by decide +kernel⟩
theorem nw_X7 : NWd 7 [some none, none, none, none, none, none] := ⟨RX7, TX7, 6, tyX7, rfl, rfl, inX7, tyX7_ok, tb 117 (by decide +kernel) (by decide +kernel), tb 4 (by decide +kernel) (by decide +kernel), by decide +kernel⟩
theorem nw_X8 : NWd 8 [some none, some none, none, none, none, none, none, none, none, none, none, none] := ⟨RX8, TX8, 12, tyX8, rfl, rfl, inX8, tyX8_ok, tb 147 (by decide +kernel) (by decide +kernel), tb 5 (by decide +kernel) (by decide +kernel), by decide +kernel⟩
theorem nw_X9 : NWd 9 [some none, some none, some none, some none, some none, some none, some none, some none, some none, some none, some none, none, none] := ⟨RX9, TX9, 13, tyX9, rfl, rfl, inX9, tyX9_ok, tb 21 (by decide +kernel) (by decide +kernel), tb 1 (by decide +kernel) (by decide +kernel), by decide +kernel⟩
theorem nw_X10 : NWd 10 [some none, some none, none, none, none, none, some none, some none, some none, some none, none, none, none, some none, none, some none, none, none, some none, none, none, none, none, none, none, none, some none, some none, some none, some none, some none, none, none, none, some none, none, some none, none, none, none, some none, some none, some none, some none, some none, some none, none] := ⟨RX10, TX10, 47, tyX10, rfl, rfl, inX10, tyX10_ok, tb 907 (by decide +kernel) (by decide +kernel), tb 11 (by decide +kernel) (by decide +kernel), by decide +kernel⟩
abbrev mX0_init : Mi := (yX0_init, cX0_init, 1, none, rmA 1 4 92)
theorem mf_X0_init : MFi mX0_init 0 := ⟨⟨tb 201 (by decide +kernel) (by decide +kernel), tb 6 (by decide +kernel) (by decide +kernel), by decide +kernel, by decide +kernel, by decide +kernel⟩, tb 200 (by decide +kernel) (by decide +kernel), rfl, rfl⟩
abbrev mX1_init : Mi := (yX1_init, cX1_init, 1, none, rmA 1 3 4128)
theorem mf_X1_init : MFi mX1_init 0 := ⟨⟨tb 307 (by decide +kernel) (by decide +kernel), tb 9 (by decide +kernel) (by decide +kernel), by decide +kernel, by decide +kernel, by decide +kernel⟩, tb 306 (by decide +kernel) (by decide +kernel), rfl, rfl⟩
abbrev mX2_init : Mi := (yX2_init, cX2_init, 1, none, rmA 1 8 177)
theorem mf_X2_init : MFi mX2_init 0 := ⟨⟨tb 32 (by decide +kernel) (by decide +kernel), tb 2 (by decide +kernel) (by decide +kernel), by decide +kernel, by decide +kernel, by decide +kernel⟩, tb 31 (by decide +kernel) (by decide +kernel), rfl, rfl⟩
abbrev mX3_init : Mi := (yX3_init, cX3_init, 1, none, rmA 1 3 1395)
theorem mf_X3_init : MFi mX3_init 0 := ⟨⟨tb 279 (by decide +kernel) (by decide +kernel), tb 8 (by decide +kernel) (by decide +kernel), by decide +kernel, by decide +kernel, by decide +kernel⟩, tb 278 (by decide +kernel) (by decide +kernel), rfl, rfl⟩
abbrev mX4_init : Mi := (yX4_init, cX4_init, 1, none, rmA 1 4 68)
theorem mf_X4_init : MFi mX4_init 0 := ⟨⟨tb 238 (by decide +kernel) (by decide +kernel), tb 7 (by decide +kernel) (by decide +kernel), by decide +kernel, by decide +kernel, by decide +kernel⟩, tb 237 (by decide +kernel) (by decide +kernel), rfl, rfl⟩
abbrev mX5_init : Mi := (yX5_init, cX5_init, 3, none, rmA 1 1 40)
theorem mf_X5_init : MFi mX5_init 2 := ⟨⟨tb 862 (by decide +kernel) (by decide +kernel), tb 19 (by decide +kernel) (by decide +kernel), by decide +kernel, by decide +kernel, by decide +kernel⟩, tb 861 (by decide +kernel) (by decide +kernel), rfl, rfl⟩
abbrev mX6_init : Mi := (yX6_init, cX6_init, 1, none, rmA 1 2 35)
theorem mf_X6_init : MFi mX6_init 0 := ⟨⟨tb 92 (by decide +kernel) (by decide +kernel), tb 3 (by decide +kernel) (by decide +kernel), by decide +kernel, by decide +kernel, by decide +kernel⟩, tb 91 (by decide +kernel) (by decide +kernel), rfl, rfl⟩
abbrev mX7_init : Mi := (yX7_init, cX7_init, 1, none, rmA 1 1 320)
theorem mf_X7_init : MFi mX7_init 0 := ⟨⟨tb 120 (by decide +kernel) (by decide +kernel), tb 4 (by decide +kernel) (by decide +kernel), by decide +kernel, by decide +kernel, by decide +kernel⟩, tb 119 (by decide +kernel) (by decide +kernel), rfl, rfl⟩
abbrev mX8_init : Mi := (yX8_init, cX8_init, 2, none, rmA 2 3 39)
theorem mf_X8_init : MFi mX8_init 1 := ⟨⟨tb 150 (by decide +kernel) (by decide +kernel), tb 5 (by decide +kernel) (by decide +kernel), by decide +kernel, by decide +kernel, by decide +kernel⟩, tb 149 (by decide +kernel) (by decide +kernel), rfl, rfl⟩
abbrev mX9_init : Mi := (yX9_init, cX9_init, 2, none, rmA 10 47 6443)
theorem mf_X9_init : MFi mX9_init 0 := ⟨⟨tb 24 (by decide +kernel) (by decide +kernel), tb 1 (by decide +kernel) (by decide +kernel), by decide +kernel, by decide +kernel, by decide +kernel⟩, tb 23 (by decide +kernel) (by decide +kernel), rfl, rfl⟩
abbrev mX10_init : Mi := (yX10_init, cX10_init, 2, none, rmA 10 22 9565)
theorem mf_X10_init : MFi mX10_init 0 := ⟨⟨tb 910 (by decide +kernel) (by decide +kernel), tb 11 (by decide +kernel) (by decide +kernel), by decide +kernel, by decide +kernel, by decide +kernel⟩, tb 909 (by decide +kernel) (by decide +kernel), rfl, rfl⟩
theorem c_X6_init {S0 : List Ds} {M : Mm} {a : Nat} (ha : S0.length = a) (hwf : wfS S0.length S0 = true) : Cg mX6_init [.ref a] (S0 ++ [.inr (.inr (6, [none, none, some none, some none]))]) M (fun r S' M' => r = none ∧ S' = S0 ++ [.inr (.inr (6, [none, none, some (some (a + 1)), some (some (a + 2))])), .inl (.int, 31), .inl (.int, 4)] ∧ M' = (upr (upr M (a + 1) (fun _ => 0)) (a + 2) (fun _ => 0))) := by
  refine Cg.of (by decide) (Nat.le_of_ble_eq_true rfl) ?_
  refine x_aload_n dX6_init_0 rfl ?_
  refine x_objI oi_X6 oi_i oi_c dX6_init_1 ⟨by decide, by decide⟩ (by decide) ?_
  refine x_aload_n dX6_init_4 rfl ?_
  refine x_bipush (v := 31) dX6_init_5 (by decide) ?_
  refine x_newaA (S0 := S0) (T := [.inr (.inr (6, [none, none, some none, some none]))]) (c := a + 1) (ty := .int) (N := 31) (by rw [ha]; rfl) hwf (by simp [wfS, okd, okr, oko]) rfl (Or.inl rfl) ac_int rfl (by decide) dX6_init_7 (by show ([some (Value.ref a)] : Lv).all _ = true; simp [okl, okv]) (by simp [okv]) (by decide) (by decide) ?_
  refine x_putA (S0 := S0) (ci := 6) (rs := [none, none, some none, some none]) (R := [.inl (.int, 31)]) ha fl_X6_9 rfl rfl dX6_init_9 rfl (fun _ => rfl) (fun _ => rfl) ?_
  refine x_aload_n dX6_init_12 rfl ?_
  refine x_iconst (v := 4) dX6_init_13 (by decide) ?_
  refine x_newaA (S0 := S0) (T := [.inr (.inr (6, [none, none, some (some (a + 1)), some none])), .inl (.int, 31)]) (c := a + 2) (ty := .int) (N := 4) (by rw [ha]; rfl) hwf (by simp [wfS, okd, okr, oko]) rfl (Or.inl rfl) ac_int rfl (by decide) dX6_init_14 (by show ([some (Value.ref a)] : Lv).all _ = true; simp [okl, okv]) (by simp [okv]) (by decide) (by decide) ?_
  refine x_putA (S0 := S0) (ci := 6) (rs := [none, none, some (some (a + 1)), some none]) (R := [.inl (.int, 31), .inl (.int, 4)]) ha fl_X6_15 rfl rfl dX6_init_16 rfl (fun _ => rfl) (fun _ => rfl) ?_
  exact x_ret dX6_init_19 rfl (by decide) (by decide) ⟨rfl, rfl, rfl⟩
theorem c_X7_init {S0 : List Ds} {M : Mm} {a : Nat} (ha : S0.length = a) (hwf : wfS S0.length S0 = true) : Cg mX7_init [.ref a] (S0 ++ [.inr (.inr (7, [some none, none, none, none, none, none]))]) M (fun r S' M' => r = none ∧ S' = S0 ++ [.inr (.inr (7, [some (some (a + 1)), none, none, none, none, none])), .inl (.byte, 320)] ∧ M' = (upr M (a + 1) (fun _ => 0))) := by
  refine Cg.of (by decide) (Nat.le_of_ble_eq_true rfl) ?_
  refine x_aload_n dX7_init_0 rfl ?_
  refine x_objI oi_X7 oi_i oi_c dX7_init_1 ⟨by decide, by decide⟩ (by decide) ?_
  refine x_aload_n dX7_init_4 rfl ?_
  refine x_sipush (v := 320) dX7_init_5 (by decide) ?_
  refine x_newaA (S0 := S0) (T := [.inr (.inr (7, [some none, none, none, none, none, none]))]) (c := a + 1) (ty := .byte) (N := 320) (by rw [ha]; rfl) hwf (by simp [wfS, okd, okr, oko]) rfl (Or.inr (Or.inl rfl)) ac_byte rfl (by decide) dX7_init_8 (by show ([some (Value.ref a)] : Lv).all _ = true; simp [okl, okv]) (by simp [okv]) (by decide) (by decide) ?_
  refine x_putA (S0 := S0) (ci := 7) (rs := [some none, none, none, none, none, none]) (R := [.inl (.byte, 320)]) ha fl_X7_9 rfl rfl dX7_init_10 rfl (fun _ => rfl) (fun _ => rfl) ?_
  exact x_ret dX7_init_13 rfl (by decide) (by decide) ⟨rfl, rfl, rfl⟩
theorem c_X2_init {S0 : List Ds} {M : Mm} {a : Nat} (ha : S0.length = a) (hwf : wfS S0.length S0 = true) : Cg mX2_init [.ref a] (S0 ++ [.inr (.inr (2, [none, none, none, none, some none, some none, some none, some none, some none, some none, some none, some none]))]) M (fun r S' M' => r = none ∧ S' = S0 ++ [.inr (.inr (2, [none, none, none, none, some (some (a + 1)), some (some (a + 2)), some (some (a + 3)), some (some (a + 4)), some (some (a + 5)), some (some (a + 6)), some (some (a + 7)), some (some (a + 8))])), .inl (.int, 20), .inl (.int, 20), .inl (.int, 20), .inl (.int, 20), .inl (.int, 4), .inl (.int, 31), .inl (.int, 31), .inl (.int, 31)] ∧ M' = (upr (upr (upr (upr (upr (upr (upr (upr M (a + 1) (fun _ => 0)) (a + 2) (fun _ => 0)) (a + 3) (fun _ => 0)) (a + 4) (fun _ => 0)) (a + 5) (fun _ => 0)) (a + 6) (fun _ => 0)) (a + 7) (fun _ => 0)) (a + 8) (fun _ => 0))) := by
  refine Cg.of (by decide) (Nat.le_of_ble_eq_true rfl) ?_
  refine x_aload_n dX2_init_0 rfl ?_
  refine x_objI oi_X2 oi_i oi_c dX2_init_1 ⟨by decide, by decide⟩ (by decide) ?_
  refine x_aload_n dX2_init_4 rfl ?_
  refine x_bipush (v := 20) dX2_init_5 (by decide) ?_
  refine x_newaA (S0 := S0) (T := [.inr (.inr (2, [none, none, none, none, some none, some none, some none, some none, some none, some none, some none, some none]))]) (c := a + 1) (ty := .int) (N := 20) (by rw [ha]; rfl) hwf (by simp [wfS, okd, okr, oko]) rfl (Or.inl rfl) ac_int rfl (by decide) dX2_init_7 (by show ([some (Value.ref a)] : Lv).all _ = true; simp [okl, okv]) (by simp [okv]) (by decide) (by decide) ?_
  refine x_putA (S0 := S0) (ci := 2) (rs := [none, none, none, none, some none, some none, some none, some none, some none, some none, some none, some none]) (R := [.inl (.int, 20)]) ha fl_X2_9 rfl rfl dX2_init_9 rfl (fun _ => rfl) (fun _ => rfl) ?_
  refine x_aload_n dX2_init_12 rfl ?_
  refine x_bipush (v := 20) dX2_init_13 (by decide) ?_
  refine x_newaA (S0 := S0) (T := [.inr (.inr (2, [none, none, none, none, some (some (a + 1)), some none, some none, some none, some none, some none, some none, some none])), .inl (.int, 20)]) (c := a + 2) (ty := .int) (N := 20) (by rw [ha]; rfl) hwf (by simp [wfS, okd, okr, oko]) rfl (Or.inl rfl) ac_int rfl (by decide) dX2_init_15 (by show ([some (Value.ref a)] : Lv).all _ = true; simp [okl, okv]) (by simp [okv]) (by decide) (by decide) ?_
  refine x_putA (S0 := S0) (ci := 2) (rs := [none, none, none, none, some (some (a + 1)), some none, some none, some none, some none, some none, some none, some none]) (R := [.inl (.int, 20), .inl (.int, 20)]) ha fl_X2_15 rfl rfl dX2_init_17 rfl (fun _ => rfl) (fun _ => rfl) ?_
  refine x_aload_n dX2_init_20 rfl ?_
  refine x_bipush (v := 20) dX2_init_21 (by decide) ?_
  refine x_newaA (S0 := S0) (T := [.inr (.inr (2, [none, none, none, none, some (some (a + 1)), some (some (a + 2)), some none, some none, some none, some none, some none, some none])), .inl (.int, 20), .inl (.int, 20)]) (c := a + 3) (ty := .int) (N := 20) (by rw [ha]; rfl) hwf (by simp [wfS, okd, okr, oko]) rfl (Or.inl rfl) ac_int rfl (by decide) dX2_init_23 (by show ([some (Value.ref a)] : Lv).all _ = true; simp [okl, okv]) (by simp [okv]) (by decide) (by decide) ?_
  refine x_putA (S0 := S0) (ci := 2) (rs := [none, none, none, none, some (some (a + 1)), some (some (a + 2)), some none, some none, some none, some none, some none, some none]) (R := [.inl (.int, 20), .inl (.int, 20), .inl (.int, 20)]) ha fl_X2_18 rfl rfl dX2_init_25 rfl (fun _ => rfl) (fun _ => rfl) ?_
  refine x_aload_n dX2_init_28 rfl ?_
  refine x_bipush (v := 20) dX2_init_29 (by decide) ?_
  refine x_newaA (S0 := S0) (T := [.inr (.inr (2, [none, none, none, none, some (some (a + 1)), some (some (a + 2)), some (some (a + 3)), some none, some none, some none, some none, some none])), .inl (.int, 20), .inl (.int, 20), .inl (.int, 20)]) (c := a + 4) (ty := .int) (N := 20) (by rw [ha]; rfl) hwf (by simp [wfS, okd, okr, oko]) rfl (Or.inl rfl) ac_int rfl (by decide) dX2_init_31 (by show ([some (Value.ref a)] : Lv).all _ = true; simp [okl, okv]) (by simp [okv]) (by decide) (by decide) ?_
  refine x_putA (S0 := S0) (ci := 2) (rs := [none, none, none, none, some (some (a + 1)), some (some (a + 2)), some (some (a + 3)), some none, some none, some none, some none, some none]) (R := [.inl (.int, 20), .inl (.int, 20), .inl (.int, 20), .inl (.int, 20)]) ha fl_X2_21 rfl rfl dX2_init_33 rfl (fun _ => rfl) (fun _ => rfl) ?_
  refine x_aload_n dX2_init_36 rfl ?_
  refine x_iconst (v := 4) dX2_init_37 (by decide) ?_
  refine x_newaA (S0 := S0) (T := [.inr (.inr (2, [none, none, none, none, some (some (a + 1)), some (some (a + 2)), some (some (a + 3)), some (some (a + 4)), some none, some none, some none, some none])), .inl (.int, 20), .inl (.int, 20), .inl (.int, 20), .inl (.int, 20)]) (c := a + 5) (ty := .int) (N := 4) (by rw [ha]; rfl) hwf (by simp [wfS, okd, okr, oko]) rfl (Or.inl rfl) ac_int rfl (by decide) dX2_init_38 (by show ([some (Value.ref a)] : Lv).all _ = true; simp [okl, okv]) (by simp [okv]) (by decide) (by decide) ?_
  refine x_putA (S0 := S0) (ci := 2) (rs := [none, none, none, none, some (some (a + 1)), some (some (a + 2)), some (some (a + 3)), some (some (a + 4)), some none, some none, some none, some none]) (R := [.inl (.int, 20), .inl (.int, 20), .inl (.int, 20), .inl (.int, 20), .inl (.int, 4)]) ha fl_X2_24 rfl rfl dX2_init_40 rfl (fun _ => rfl) (fun _ => rfl) ?_
  refine x_aload_n dX2_init_43 rfl ?_
  refine x_bipush (v := 31) dX2_init_44 (by decide) ?_
  refine x_newaA (S0 := S0) (T := [.inr (.inr (2, [none, none, none, none, some (some (a + 1)), some (some (a + 2)), some (some (a + 3)), some (some (a + 4)), some (some (a + 5)), some none, some none, some none])), .inl (.int, 20), .inl (.int, 20), .inl (.int, 20), .inl (.int, 20), .inl (.int, 4)]) (c := a + 6) (ty := .int) (N := 31) (by rw [ha]; rfl) hwf (by simp [wfS, okd, okr, oko]) rfl (Or.inl rfl) ac_int rfl (by decide) dX2_init_46 (by show ([some (Value.ref a)] : Lv).all _ = true; simp [okl, okv]) (by simp [okv]) (by decide) (by decide) ?_
  refine x_putA (S0 := S0) (ci := 2) (rs := [none, none, none, none, some (some (a + 1)), some (some (a + 2)), some (some (a + 3)), some (some (a + 4)), some (some (a + 5)), some none, some none, some none]) (R := [.inl (.int, 20), .inl (.int, 20), .inl (.int, 20), .inl (.int, 20), .inl (.int, 4), .inl (.int, 31)]) ha fl_X2_27 rfl rfl dX2_init_48 rfl (fun _ => rfl) (fun _ => rfl) ?_
  refine x_aload_n dX2_init_51 rfl ?_
  refine x_bipush (v := 31) dX2_init_52 (by decide) ?_
  refine x_newaA (S0 := S0) (T := [.inr (.inr (2, [none, none, none, none, some (some (a + 1)), some (some (a + 2)), some (some (a + 3)), some (some (a + 4)), some (some (a + 5)), some (some (a + 6)), some none, some none])), .inl (.int, 20), .inl (.int, 20), .inl (.int, 20), .inl (.int, 20), .inl (.int, 4), .inl (.int, 31)]) (c := a + 7) (ty := .int) (N := 31) (by rw [ha]; rfl) hwf (by simp [wfS, okd, okr, oko]) rfl (Or.inl rfl) ac_int rfl (by decide) dX2_init_54 (by show ([some (Value.ref a)] : Lv).all _ = true; simp [okl, okv]) (by simp [okv]) (by decide) (by decide) ?_
  refine x_putA (S0 := S0) (ci := 2) (rs := [none, none, none, none, some (some (a + 1)), some (some (a + 2)), some (some (a + 3)), some (some (a + 4)), some (some (a + 5)), some (some (a + 6)), some none, some none]) (R := [.inl (.int, 20), .inl (.int, 20), .inl (.int, 20), .inl (.int, 20), .inl (.int, 4), .inl (.int, 31), .inl (.int, 31)]) ha fl_X2_30 rfl rfl dX2_init_56 rfl (fun _ => rfl) (fun _ => rfl) ?_
  refine x_aload_n dX2_init_59 rfl ?_
  refine x_bipush (v := 31) dX2_init_60 (by decide) ?_
  refine x_newaA (S0 := S0) (T := [.inr (.inr (2, [none, none, none, none, some (some (a + 1)), some (some (a + 2)), some (some (a + 3)), some (some (a + 4)), some (some (a + 5)), some (some (a + 6)), some (some (a + 7)), some none])), .inl (.int, 20), .inl (.int, 20), .inl (.int, 20), .inl (.int, 20), .inl (.int, 4), .inl (.int, 31), .inl (.int, 31)]) (c := a + 8) (ty := .int) (N := 31) (by rw [ha]; rfl) hwf (by simp [wfS, okd, okr, oko]) rfl (Or.inl rfl) ac_int rfl (by decide) dX2_init_62 (by show ([some (Value.ref a)] : Lv).all _ = true; simp [okl, okv]) (by simp [okv]) (by decide) (by decide) ?_
  refine x_putA (S0 := S0) (ci := 2) (rs := [none, none, none, none, some (some (a + 1)), some (some (a + 2)), some (some (a + 3)), some (some (a + 4)), some (some (a + 5)), some (some (a + 6)), some (some (a + 7)), some none]) (R := [.inl (.int, 20), .inl (.int, 20), .inl (.int, 20), .inl (.int, 20), .inl (.int, 4), .inl (.int, 31), .inl (.int, 31), .inl (.int, 31)]) ha fl_X2_33 rfl rfl dX2_init_64 rfl (fun _ => rfl) (fun _ => rfl) ?_
  exact x_ret dX2_init_67 rfl (by decide) (by decide) ⟨rfl, rfl, rfl⟩
theorem c_X0_init {S0 : List Ds} {M : Mm} {a : Nat} (ha : S0.length = a) (hwf : wfS S0.length S0 = true) : Cg mX0_init [.ref a] (S0 ++ [.inr (.inr (0, [none, none, none, none, some none, some none, some none, some none, none]))]) M (fun r S' M' => r = none ∧ S' = S0 ++ [.inr (.inr (0, [none, none, none, none, some (some (a + 1)), some (some (a + 2)), some (some (a + 3)), some (some (a + 4)), none])), .inl (.int, 31), .inl (.int, 20), .inl (.int, 31), .inl (.int, 10)] ∧ M' = (upr (upr (upr (upr M (a + 1) (fun _ => 0)) (a + 2) (fun _ => 0)) (a + 3) (fun _ => 0)) (a + 4) (fun _ => 0))) := by
  refine Cg.of (by decide) (Nat.le_of_ble_eq_true rfl) ?_
  refine x_aload_n dX0_init_0 rfl ?_
  refine x_objI oi_X0 oi_i oi_c dX0_init_1 ⟨by decide, by decide⟩ (by decide) ?_
  refine x_aload_n dX0_init_4 rfl ?_
  refine x_bipush (v := 31) dX0_init_5 (by decide) ?_
  refine x_newaA (S0 := S0) (T := [.inr (.inr (0, [none, none, none, none, some none, some none, some none, some none, none]))]) (c := a + 1) (ty := .int) (N := 31) (by rw [ha]; rfl) hwf (by simp [wfS, okd, okr, oko]) rfl (Or.inl rfl) ac_int rfl (by decide) dX0_init_7 (by show ([some (Value.ref a)] : Lv).all _ = true; simp [okl, okv]) (by simp [okv]) (by decide) (by decide) ?_
  refine x_putA (S0 := S0) (ci := 0) (rs := [none, none, none, none, some none, some none, some none, some none, none]) (R := [.inl (.int, 31)]) ha fl_X0_9 rfl rfl dX0_init_9 rfl (fun _ => rfl) (fun _ => rfl) ?_
  refine x_aload_n dX0_init_12 rfl ?_
  refine x_bipush (v := 20) dX0_init_13 (by decide) ?_
  refine x_newaA (S0 := S0) (T := [.inr (.inr (0, [none, none, none, none, some (some (a + 1)), some none, some none, some none, none])), .inl (.int, 31)]) (c := a + 2) (ty := .int) (N := 20) (by rw [ha]; rfl) hwf (by simp [wfS, okd, okr, oko]) rfl (Or.inl rfl) ac_int rfl (by decide) dX0_init_15 (by show ([some (Value.ref a)] : Lv).all _ = true; simp [okl, okv]) (by simp [okv]) (by decide) (by decide) ?_
  refine x_putA (S0 := S0) (ci := 0) (rs := [none, none, none, none, some (some (a + 1)), some none, some none, some none, none]) (R := [.inl (.int, 31), .inl (.int, 20)]) ha fl_X0_15 rfl rfl dX0_init_17 rfl (fun _ => rfl) (fun _ => rfl) ?_
  refine x_aload_n dX0_init_20 rfl ?_
  refine x_bipush (v := 31) dX0_init_21 (by decide) ?_
  refine x_newaA (S0 := S0) (T := [.inr (.inr (0, [none, none, none, none, some (some (a + 1)), some (some (a + 2)), some none, some none, none])), .inl (.int, 31), .inl (.int, 20)]) (c := a + 3) (ty := .int) (N := 31) (by rw [ha]; rfl) hwf (by simp [wfS, okd, okr, oko]) rfl (Or.inl rfl) ac_int rfl (by decide) dX0_init_23 (by show ([some (Value.ref a)] : Lv).all _ = true; simp [okl, okv]) (by simp [okv]) (by decide) (by decide) ?_
  refine x_putA (S0 := S0) (ci := 0) (rs := [none, none, none, none, some (some (a + 1)), some (some (a + 2)), some none, some none, none]) (R := [.inl (.int, 31), .inl (.int, 20), .inl (.int, 31)]) ha fl_X0_18 rfl rfl dX0_init_25 rfl (fun _ => rfl) (fun _ => rfl) ?_
  refine x_aload_n dX0_init_28 rfl ?_
  refine x_bipush (v := 10) dX0_init_29 (by decide) ?_
  refine x_newaA (S0 := S0) (T := [.inr (.inr (0, [none, none, none, none, some (some (a + 1)), some (some (a + 2)), some (some (a + 3)), some none, none])), .inl (.int, 31), .inl (.int, 20), .inl (.int, 31)]) (c := a + 4) (ty := .int) (N := 10) (by rw [ha]; rfl) hwf (by simp [wfS, okd, okr, oko]) rfl (Or.inl rfl) ac_int rfl (by decide) dX0_init_31 (by show ([some (Value.ref a)] : Lv).all _ = true; simp [okl, okv]) (by simp [okv]) (by decide) (by decide) ?_
  refine x_putA (S0 := S0) (ci := 0) (rs := [none, none, none, none, some (some (a + 1)), some (some (a + 2)), some (some (a + 3)), some none, none]) (R := [.inl (.int, 31), .inl (.int, 20), .inl (.int, 31), .inl (.int, 10)]) ha fl_X0_21 rfl rfl dX0_init_33 rfl (fun _ => rfl) (fun _ => rfl) ?_
  exact x_ret dX0_init_36 rfl (by decide) (by decide) ⟨rfl, rfl, rfl⟩
theorem c_X4_init {S0 : List Ds} {M : Mm} {a : Nat} (ha : S0.length = a) (hwf : wfS S0.length S0 = true) : Cg mX4_init [.ref a] (S0 ++ [.inr (.inr (4, [none, none, none, none, none, some none, some none, some none, some none, none]))]) M (fun r S' M' => r = none ∧ S' = S0 ++ [.inr (.inr (4, [none, none, none, none, none, some (some (a + 1)), some (some (a + 2)), some (some (a + 3)), some (some (a + 4)), none])), .inl (.int, 3), .inl (.int, 3), .inl (.int, 31), .inl (.int, 31)] ∧ M' = (upr (upr (upr (upr M (a + 1) (fun _ => 0)) (a + 2) (fun _ => 0)) (a + 3) (fun _ => 0)) (a + 4) (fun _ => 0))) := by
  refine Cg.of (by decide) (Nat.le_of_ble_eq_true rfl) ?_
  refine x_aload_n dX4_init_0 rfl ?_
  refine x_objI oi_X4 oi_i oi_c dX4_init_1 ⟨by decide, by decide⟩ (by decide) ?_
  refine x_aload_n dX4_init_4 rfl ?_
  refine x_iconst (v := 3) dX4_init_5 (by decide) ?_
  refine x_newaA (S0 := S0) (T := [.inr (.inr (4, [none, none, none, none, none, some none, some none, some none, some none, none]))]) (c := a + 1) (ty := .int) (N := 3) (by rw [ha]; rfl) hwf (by simp [wfS, okd, okr, oko]) rfl (Or.inl rfl) ac_int rfl (by decide) dX4_init_6 (by show ([some (Value.ref a)] : Lv).all _ = true; simp [okl, okv]) (by simp [okv]) (by decide) (by decide) ?_
  refine x_putA (S0 := S0) (ci := 4) (rs := [none, none, none, none, none, some none, some none, some none, some none, none]) (R := [.inl (.int, 3)]) ha fl_X4_9 rfl rfl dX4_init_8 rfl (fun _ => rfl) (fun _ => rfl) ?_
  refine x_aload_n dX4_init_11 rfl ?_
  refine x_iconst (v := 3) dX4_init_12 (by decide) ?_
  refine x_newaA (S0 := S0) (T := [.inr (.inr (4, [none, none, none, none, none, some (some (a + 1)), some none, some none, some none, none])), .inl (.int, 3)]) (c := a + 2) (ty := .int) (N := 3) (by rw [ha]; rfl) hwf (by simp [wfS, okd, okr, oko]) rfl (Or.inl rfl) ac_int rfl (by decide) dX4_init_13 (by show ([some (Value.ref a)] : Lv).all _ = true; simp [okl, okv]) (by simp [okv]) (by decide) (by decide) ?_
  refine x_putA (S0 := S0) (ci := 4) (rs := [none, none, none, none, none, some (some (a + 1)), some none, some none, some none, none]) (R := [.inl (.int, 3), .inl (.int, 3)]) ha fl_X4_15 rfl rfl dX4_init_15 rfl (fun _ => rfl) (fun _ => rfl) ?_
  refine x_aload_n dX4_init_18 rfl ?_
  refine x_bipush (v := 31) dX4_init_19 (by decide) ?_
  refine x_newaA (S0 := S0) (T := [.inr (.inr (4, [none, none, none, none, none, some (some (a + 1)), some (some (a + 2)), some none, some none, none])), .inl (.int, 3), .inl (.int, 3)]) (c := a + 3) (ty := .int) (N := 31) (by rw [ha]; rfl) hwf (by simp [wfS, okd, okr, oko]) rfl (Or.inl rfl) ac_int rfl (by decide) dX4_init_21 (by show ([some (Value.ref a)] : Lv).all _ = true; simp [okl, okv]) (by simp [okv]) (by decide) (by decide) ?_
  refine x_putA (S0 := S0) (ci := 4) (rs := [none, none, none, none, none, some (some (a + 1)), some (some (a + 2)), some none, some none, none]) (R := [.inl (.int, 3), .inl (.int, 3), .inl (.int, 31)]) ha fl_X4_18 rfl rfl dX4_init_23 rfl (fun _ => rfl) (fun _ => rfl) ?_
  refine x_aload_n dX4_init_26 rfl ?_
  refine x_bipush (v := 31) dX4_init_27 (by decide) ?_
  refine x_newaA (S0 := S0) (T := [.inr (.inr (4, [none, none, none, none, none, some (some (a + 1)), some (some (a + 2)), some (some (a + 3)), some none, none])), .inl (.int, 3), .inl (.int, 3), .inl (.int, 31)]) (c := a + 4) (ty := .int) (N := 31) (by rw [ha]; rfl) hwf (by simp [wfS, okd, okr, oko]) rfl (Or.inl rfl) ac_int rfl (by decide) dX4_init_29 (by show ([some (Value.ref a)] : Lv).all _ = true; simp [okl, okv]) (by simp [okv]) (by decide) (by decide) ?_
  refine x_putA (S0 := S0) (ci := 4) (rs := [none, none, none, none, none, some (some (a + 1)), some (some (a + 2)), some (some (a + 3)), some none, none]) (R := [.inl (.int, 3), .inl (.int, 3), .inl (.int, 31), .inl (.int, 31)]) ha fl_X4_21 rfl rfl dX4_init_31 rfl (fun _ => rfl) (fun _ => rfl) ?_
  exact x_ret dX4_init_34 rfl (by decide) (by decide) ⟨rfl, rfl, rfl⟩
theorem c_X3_init {S0 : List Ds} {M : Mm} {a : Nat} (ha : S0.length = a) (hwf : wfS S0.length S0 = true) : Cg mX3_init [.ref a] (S0 ++ [.inr (.inr (3, [none, none, none, some none, some none, some none]))]) M (fun r S' M' => r = none ∧ S' = S0 ++ [.inr (.inr (3, [none, none, none, some (some (a + 1)), some (some (a + 2)), some (some (a + 3))])), .inl (.int, 465), .inl (.int, 465), .inl (.int, 465)] ∧ M' = (upr (upr (upr M (a + 1) (fun _ => 0)) (a + 2) (fun _ => 0)) (a + 3) (fun _ => 0))) := by
  refine Cg.of (by decide) (Nat.le_of_ble_eq_true rfl) ?_
  refine x_aload_n dX3_init_0 rfl ?_
  refine x_objI oi_X3 oi_i oi_c dX3_init_1 ⟨by decide, by decide⟩ (by decide) ?_
  refine x_aload_n dX3_init_4 rfl ?_
  refine x_sipush (v := 465) dX3_init_5 (by decide) ?_
  refine x_newaA (S0 := S0) (T := [.inr (.inr (3, [none, none, none, some none, some none, some none]))]) (c := a + 1) (ty := .int) (N := 465) (by rw [ha]; rfl) hwf (by simp [wfS, okd, okr, oko]) rfl (Or.inl rfl) ac_int rfl (by decide) dX3_init_8 (by show ([some (Value.ref a)] : Lv).all _ = true; simp [okl, okv]) (by simp [okv]) (by decide) (by decide) ?_
  refine x_putA (S0 := S0) (ci := 3) (rs := [none, none, none, some none, some none, some none]) (R := [.inl (.int, 465)]) ha fl_X3_11 rfl rfl dX3_init_10 rfl (fun _ => rfl) (fun _ => rfl) ?_
  refine x_aload_n dX3_init_13 rfl ?_
  refine x_sipush (v := 465) dX3_init_14 (by decide) ?_
  refine x_newaA (S0 := S0) (T := [.inr (.inr (3, [none, none, none, some (some (a + 1)), some none, some none])), .inl (.int, 465)]) (c := a + 2) (ty := .int) (N := 465) (by rw [ha]; rfl) hwf (by simp [wfS, okd, okr, oko]) rfl (Or.inl rfl) ac_int rfl (by decide) dX3_init_17 (by show ([some (Value.ref a)] : Lv).all _ = true; simp [okl, okv]) (by simp [okv]) (by decide) (by decide) ?_
  refine x_putA (S0 := S0) (ci := 3) (rs := [none, none, none, some (some (a + 1)), some none, some none]) (R := [.inl (.int, 465), .inl (.int, 465)]) ha fl_X3_15 rfl rfl dX3_init_19 rfl (fun _ => rfl) (fun _ => rfl) ?_
  refine x_aload_n dX3_init_22 rfl ?_
  refine x_sipush (v := 465) dX3_init_23 (by decide) ?_
  refine x_newaA (S0 := S0) (T := [.inr (.inr (3, [none, none, none, some (some (a + 1)), some (some (a + 2)), some none])), .inl (.int, 465), .inl (.int, 465)]) (c := a + 3) (ty := .int) (N := 465) (by rw [ha]; rfl) hwf (by simp [wfS, okd, okr, oko]) rfl (Or.inl rfl) ac_int rfl (by decide) dX3_init_26 (by show ([some (Value.ref a)] : Lv).all _ = true; simp [okl, okv]) (by simp [okv]) (by decide) (by decide) ?_
  refine x_putA (S0 := S0) (ci := 3) (rs := [none, none, none, some (some (a + 1)), some (some (a + 2)), some none]) (R := [.inl (.int, 465), .inl (.int, 465), .inl (.int, 465)]) ha fl_X3_18 rfl rfl dX3_init_28 rfl (fun _ => rfl) (fun _ => rfl) ?_
  exact x_ret dX3_init_31 rfl (by decide) (by decide) ⟨rfl, rfl, rfl⟩
theorem c_X1_init {S0 : List Ds} {M : Mm} {a : Nat} (ha : S0.length = a) (hwf : wfS S0.length S0 = true) : Cg mX1_init [.ref a] (S0 ++ [.inr (.inr (1, [none, none, none, none, some none, some none, some none]))]) M (fun r S' M' => r = none ∧ S' = S0 ++ [.inr (.inr (1, [none, none, none, none, some (some (a + 1)), some (some (a + 2)), some (some (a + 3))])), .inl (.int, 12), .inl (.int, 20), .inl (.byte, 4096)] ∧ M' = (upr (upr (upr M (a + 1) (fun _ => 0)) (a + 2) (fun _ => 0)) (a + 3) (fun _ => 0))) := by
  refine Cg.of (by decide) (Nat.le_of_ble_eq_true rfl) ?_
  refine x_aload_n dX1_init_0 rfl ?_
  refine x_objI oi_X1 oi_i oi_c dX1_init_1 ⟨by decide, by decide⟩ (by decide) ?_
  refine x_aload_n dX1_init_4 rfl ?_
  refine x_bipush (v := 12) dX1_init_5 (by decide) ?_
  refine x_newaA (S0 := S0) (T := [.inr (.inr (1, [none, none, none, none, some none, some none, some none]))]) (c := a + 1) (ty := .int) (N := 12) (by rw [ha]; rfl) hwf (by simp [wfS, okd, okr, oko]) rfl (Or.inl rfl) ac_int rfl (by decide) dX1_init_7 (by show ([some (Value.ref a)] : Lv).all _ = true; simp [okl, okv]) (by simp [okv]) (by decide) (by decide) ?_
  refine x_putA (S0 := S0) (ci := 1) (rs := [none, none, none, none, some none, some none, some none]) (R := [.inl (.int, 12)]) ha fl_X1_11 rfl rfl dX1_init_9 rfl (fun _ => rfl) (fun _ => rfl) ?_
  refine x_aload_n dX1_init_12 rfl ?_
  refine x_bipush (v := 20) dX1_init_13 (by decide) ?_
  refine x_newaA (S0 := S0) (T := [.inr (.inr (1, [none, none, none, none, some (some (a + 1)), some none, some none])), .inl (.int, 12)]) (c := a + 2) (ty := .int) (N := 20) (by rw [ha]; rfl) hwf (by simp [wfS, okd, okr, oko]) rfl (Or.inl rfl) ac_int rfl (by decide) dX1_init_15 (by show ([some (Value.ref a)] : Lv).all _ = true; simp [okl, okv]) (by simp [okv]) (by decide) (by decide) ?_
  refine x_putA (S0 := S0) (ci := 1) (rs := [none, none, none, none, some (some (a + 1)), some none, some none]) (R := [.inl (.int, 12), .inl (.int, 20)]) ha fl_X1_15 rfl rfl dX1_init_17 rfl (fun _ => rfl) (fun _ => rfl) ?_
  refine x_aload_n dX1_init_20 rfl ?_
  refine x_sipush (v := 4096) dX1_init_21 (by decide) ?_
  refine x_newaA (S0 := S0) (T := [.inr (.inr (1, [none, none, none, none, some (some (a + 1)), some (some (a + 2)), some none])), .inl (.int, 12), .inl (.int, 20)]) (c := a + 3) (ty := .byte) (N := 4096) (by rw [ha]; rfl) hwf (by simp [wfS, okd, okr, oko]) rfl (Or.inr (Or.inl rfl)) ac_byte rfl (by decide) dX1_init_24 (by show ([some (Value.ref a)] : Lv).all _ = true; simp [okl, okv]) (by simp [okv]) (by decide) (by decide) ?_
  refine x_putA (S0 := S0) (ci := 1) (rs := [none, none, none, none, some (some (a + 1)), some (some (a + 2)), some none]) (R := [.inl (.int, 12), .inl (.int, 20), .inl (.byte, 4096)]) ha fl_X1_18 rfl rfl dX1_init_26 rfl (fun _ => rfl) (fun _ => rfl) ?_
  exact x_ret dX1_init_29 rfl (by decide) (by decide) ⟨rfl, rfl, rfl⟩
