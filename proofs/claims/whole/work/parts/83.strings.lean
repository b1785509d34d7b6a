/-! ===== String constants: rules, and the JDK's own methods over them ===== -/
theorem wl_rw (cA : FieldType → ClassId) (ad : List Nat) (rw rw' : Nat → Nat) (M : Mm) : ∀ (S : List Ds) (c : Nat), wl cA ad rw M c S = wl cA ad rw' M c S
  | [], c => rfl
  | d :: l, c => by
    have h := wl_rw cA ad rw rw' M l (c + 1)
    have he : en cA ad rw M c d = en cA ad rw' M c d := by
      rcases d with ⟨ty, n⟩ | ⟨C, l⟩ | ⟨ci, rs⟩
      · rfl
      · rfl
      · have : ∀ (rs : List (Option (Option Nat))) (k : Nat), (fvs M c k rs).map (cv ad rw) = (fvs M c k rs).map (cv ad rw') := by
          intro rs
          induction rs with
          | nil => intro k; rfl
          | cons r l ih =>
            intro k
            have hr : cv ad rw (fv M c k r) = cv ad rw' (fv M c k r) := by rcases r with _ | _ | q <;> rfl
            simp [fvs, ih, hr]
        simp [en, this]
    simp only [wl, h, he]
def sBt : List (List Int32) := [[103, 114, 105, 100], [103, 111, 110, 101], [99, 111, 115, 116], [115, 105, 122, 101], [115, 101, 101, 110]]
def chS (k q : Nat) : Int32 := (sBt.getD k []).getD q 0
theorem len4 {k : Nat} (hk : k < 5) : ([4, 4, 4, 4, 4] : List Nat).getD k 0 = 4 := by
  rcases (show k = 0 ∨ k = 1 ∨ k = 2 ∨ k = 3 ∨ k = 4 by omega) with rfl | rfl | rfl | rfl | rfl <;> rfl
theorem gsR_102 : ∀ (rw : Nat → Nat) (A : Nat → Prop) (U : State) (H : Heap), Gs rw A U H → vk_R RX8 102 "grid" (rw 0) U := fun _ _ _ _ h => h.2.1.1
theorem gsR_111 : ∀ (rw : Nat → Nat) (A : Nat → Prop) (U : State) (H : Heap), Gs rw A U H → vk_R RX8 111 "gone" (rw 1) U := fun _ _ _ _ h => h.2.1.2.1
theorem gsR_116 : ∀ (rw : Nat → Nat) (A : Nat → Prop) (U : State) (H : Heap), Gs rw A U H → vk_R RX8 116 "cost" (rw 2) U := fun _ _ _ _ h => h.2.1.2.2.1
theorem gsR_121 : ∀ (rw : Nat → Nat) (A : Nat → Prop) (U : State) (H : Heap), Gs rw A U H → vk_R RX8 121 "size" (rw 3) U := fun _ _ _ _ h => h.2.1.2.2.2.1
theorem gsR_126 : ∀ (rw : Nat → Nat) (A : Nat → Prop) (U : State) (H : Heap), Gs rw A U H → vk_R RX8 126 "seen" (rw 4) U := fun _ _ _ _ h => h.2.1.2.2.2.2
theorem fj_38 : Cond.fieldLink RJ0 38 "java/lang/String" "COMPACT_STRINGS" "Z" ∈ gw := tb 485 (by decide +kernel) (by decide +kernel)
theorem fj_1053 : Cond.fieldLink RJ0 1053 "jdk/internal/util/Preconditions" "SIOOBE_FORMATTER" "Ljava/util/function/BiFunction;" ∈ gw := tb 501 (by decide +kernel) (by decide +kernel)
theorem fj_9 : Cond.fieldLink RJ0 9 "java/lang/String" "value" "[B" ∈ gw := tb 1425 (by decide +kernel) (by decide +kernel)
theorem fj_15 : Cond.fieldLink RJ0 15 "java/lang/String" "coder" "B" ∈ gw := tb 1426 (by decide +kernel) (by decide +kernel)
section XS
variable {i j : Mi} {F : Fn} {cells slots : Nat} {S : List Ds} {M : Mm} {pc : Nat} {lv : Lv} {st stk : List Value}
theorem x_ldcS {idx k : Nat} {tx : String} (hd : decode (mC i) pc = .ok (.ldc idx, 2)) (hR : ∀ (rw : Nat → Nat) (A : Nat → Prop) (U : State) (H : Heap), Gs rw A U H → vk_R (mY i).cls idx tx (rw k) U) (kk : XW i F cells slots S M (pc + 2) lv (.retAddr k :: st)) : XW i F cells slots S M pc lv st := by
  intro p l e s m args below meth c D cA rw A ad0 ad H locs ls cx hpre hlen hP hD hS hl
  exact va_ldcS cx.1 cx.2.1 cx.2.2.2.2.1 (hR rw A s s.heap cx.2.2.2.2.2.2.2.2.2.2) hd (kk p l e s m args below meth c D cA rw A ad0 ad H locs ls cx hpre hlen hP hD hS hl)
theorem x_getSv {k : Nat} (hk : k < 5) (hw : Cond.fieldLink (mY i).cls 9 "java/lang/String" "value" "[B" ∈ gw) (hd : decode (mC i) pc = .ok (.getfield 9, 3)) (kk : XW i F cells slots S M (pc + 3) lv (.retAddr (100 + k) :: st)) : XW i F cells slots S M pc lv (.retAddr k :: st) := by
  intro p l e s m args below meth c D cA rw A ad0 ad H locs ls cx hpre hlen hP hD hS hl
  exact vk_getf (v := .ref (rw (100 + k))) cx.1 cx.2.1 (cx.2.2.2.2.2.2.2.2.2.2.1.1 k hk).2.2.1 hS cx.2.2.2.2.1 (cx.2.2.2.2.2.2.2.1 _ hw) (fun _ h => h) hd (kk p l e s m args below meth c D cA rw A ad0 ad H locs ls cx hpre hlen hP hD hS hl)
theorem x_getSc {k : Nat} (hk : k < 5) (hw : Cond.fieldLink (mY i).cls 15 "java/lang/String" "coder" "B" ∈ gw) (hd : decode (mC i) pc = .ok (.getfield 15, 3)) (kk : XW i F cells slots S M (pc + 3) lv (.int 0 :: st)) : XW i F cells slots S M pc lv (.retAddr k :: st) := by
  intro p l e s m args below meth c D cA rw A ad0 ad H locs ls cx hpre hlen hP hD hS hl
  exact vk_getf (v := .int 0) cx.1 cx.2.1 (cx.2.2.2.2.2.2.2.2.2.2.1.1 k hk).2.1 hS cx.2.2.2.2.1 (cx.2.2.2.2.2.2.2.1 _ hw) (fun _ h => h) hd (kk p l e s m args below meth c D cA rw A ad0 ad H locs ls cx hpre hlen hP hD hS hl)
theorem x_slen {k : Nat} (hk : k < 5) (hd : decode (mC i) pc = .ok (.arraylength, 1)) (kk : XW i F cells slots S M (pc + 1) lv (.int 4 :: st)) : XW i F cells slots S M pc lv (.retAddr (100 + k) :: st) := by
  intro p l e s m args below meth c D cA rw A ad0 ad H locs ls cx hpre hlen hP hD hS hl
  exact va_tlen (v := 4) cx.1 cx.2.1 (cx.2.2.2.2.2.2.2.2.2.2.1.1 k hk).2.2.2 hS (by rw [len4 hk]; rfl) hd (kk p l e s m args below meth c D cA rw A ad0 ad H locs ls cx hpre hlen hP hD hS hl)
theorem x_sbld {k q : Nat} {a : Int32} (hk : k < 5) (ha : a = nI q) (hq : q < 4) (hd : decode (mC i) pc = .ok (.baload, 1)) (kk : XW i F cells slots S M (pc + 1) lv (.int (chS k q) :: st)) : XW i F cells slots S M pc lv (.int a :: .retAddr (100 + k) :: st) := by
  intro p l e s m args below meth c D cA rw A ad0 ad H locs ls cx hpre hlen hP hD hS hl
  subst ha
  exact va_tb (v := .int (chS k q)) cx.1 cx.2.1 (cx.2.2.2.2.2.2.2.2.2.2.1.1 k hk).2.2.2 hS (vp_in_nI (by rw [len4 hk]; exact hq) (by rw [len4 hk]; decide)) (by rw [nI_clamp (by omega)]; rfl) hd (kk p l e s m args below meth c D cA rw A ad0 ad H locs ls cx hpre hlen hP hD hS hl)
theorem x_gcs (hw : Cond.fieldLink (mY i).cls 38 "java/lang/String" "COMPACT_STRINGS" "Z" ∈ gw) (hd : decode (mC i) pc = .ok (.getstatic 38, 3)) (kk : XW i F cells slots S M (pc + 3) lv (.int 1 :: st)) : XW i F cells slots S M pc lv st := by
  intro p l e s m args below meth c D cA rw A ad0 ad H locs ls cx hpre hlen hP hD hS hl
  exact va_gets (v := .int 1) cx.1 cx.2.1 cx.2.2.2.2.2.2.2.2.2.2.2.2.1 hS cx.2.2.2.2.1 (cx.2.2.2.2.2.2.2.1 _ hw) (fun _ h => h) hd (kk p l e s m args below meth c D cA rw A ad0 ad H locs ls cx hpre hlen hP hD hS hl)
/-- a method of a String constant -/
theorem x_cvRd {n idx k : Nat} {As : List Value} {v : Option Value} {M1 : Mm} (hf : MFv j n) (hl0 : Cond.methodLink (mY i).cls idx (mY j) ∈ gw) (hd : decode (mC i) pc = .ok (.invokevirtual idx, 3)) (hs : popn n stk [] = some (As, .retAddr k :: st)) (hk : k < 5) (hcl : (mY j).cls = "java/lang/String")
    (hR : (mM j).frames + 1 ≤ (mM i).frames ∧ 8 + (mL j + 11) + (mM j).locals ≤ (mM i).locals) (hcat : (st.map fun v => v.category).sum ≤ 8) (hz : (mM j).cells = 0 ∧ (mM j).slots = 0) (hmk : cells ≤ (mM i).cells ∧ slots ≤ (mM i).slots) (hC : Ct j (.retAddr k :: As) S M (Rt v M1))
    (kk : XW i F cells slots S M1 (pc + 3) lv (v.toList ++ st)) : XW i F cells slots S M pc lv stk := by
  intro p l e s m args below meth cd D cA rw A ad0 ad H locs ls cx hpre hlen hP hD hS hl
  obtain ⟨hx, hb, hml, hr, hown, hlk, hnm, hts, hK, hA, hG⟩ := id cx
  obtain ⟨B, e1, e2, e3⟩ := popn_eq n stk [] As _ hs
  rw [List.append_nil] at e1
  subst e1
  have hAA := x_inA (D := D) hD hS hA
  have hrecv := vk_recv (i := k) hG.1 hk hS
  rw [← hcl] at hrecv
  have hcb : CallB (mM i) s args (mY i).cls idx (mY j) (mC j) (mL j) (mR j) (wY j) (mM j) (mM j).cells (mM j).slots n := callB_of (ws' := gw) n hts (gw_good0 hf.1) rfl rfl rfl (hts _ hf.1.2.1) (hts _ hl0) hf.1.2.2 hR
  have hrun := va_runV (p := p) (l := l) (e := e) (R := mM i) (s := s) (m := m) (args := args) (below := below) (meth := meth) (c := cd) (H := H) (locs := locs) (cells := cells) (slots := slots) (As := As.map (cv ad rw)) (rest := st.map (cv ad rw)) (g := F0 m pc ls (stk.map (cv ad rw))) (Ts := gw) ⟨hx, hb, hml, hown, hts⟩ (hC l D cA rw ad H.size hlen) ⟨hcb, hts _ hf.2.1, hts _ hf.2.2⟩
    ⟨Cg.blind, hrecv, fun U hU hW => ⟨rfl, by rw [hU], by rw [hU]; exact hP, va_K.moved hW.alike hK, hD.weaken (fun _ _ _ _ => trivial), by rw [hU]; exact hG.go (fun a h1 h2 => hS.2.1 a h1 h2) hAA hW⟩⟩ rfl (by rw [List.length_map]; exact e2) hl.1 (by show stk.map _ = _; rw [e3, List.map_append, List.map_reverse]; rfl) (lv_room (by rw [cat_map]; exact hcat)) hd (by rw [hz.1, hz.2]; exact hmk)
  refine x_after hrun hS hAA (fun r S' M' ad' H1 locs1 hp hpre1 hlen1 hP1 hD1 hS1 => ?_)
  obtain ⟨hp1, hp2, hp3⟩ := hp
  subst hp1; subst hp2; subst hp3
  have hsa : ad' = ad := same_ad hpre1 hlen hlen1
  subst hsa
  have hk := kk p l e s m args below meth cd D cA rw A ad0 ad' H1 locs1 ls cx hpre hlen1 hP1 (hD1.weaken (fun k q _ h => hAA q.1 h)) hS1 hl
  rw [List.map_append] at hk
  rw [hz.1, hz.2]
  cases r <;> exact hk
/-- a static that is a reference or null, handed to a static method at once -/
theorem x_fmt {n idx idx2 : Nat} {As : List Value} {w : Int32} (hw : Cond.fieldLink (mY i).cls idx "jdk/internal/util/Preconditions" "SIOOBE_FORMATTER" "Ljava/util/function/BiFunction;" ∈ gw) (hd : decode (mC i) pc = .ok (.getstatic idx, 3)) (hf : MFs j (n + 1)) (hl0 : Cond.methodLink (mY i).cls idx2 (mY j) ∈ gw) (hd2 : decode (mC i) (pc + 3) = .ok (.invokestatic idx2, 3)) (hs : popn n stk [] = some (As, st)) (hnr : ∀ v ∈ As, ∀ rw rw' ad, cv ad rw v = cv ad rw' v) (hns : ∀ v ∈ st, ∀ rw rw' ad, cv ad rw v = cv ad rw' v)
    (hR : (mM j).frames + 1 ≤ (mM i).frames ∧ 8 + (mL j + 11) + (mM j).locals ≤ (mM i).locals) (hcat : (st.map fun v => v.category).sum ≤ 8) (hz : (mM j).cells = 0 ∧ (mM j).slots = 0) (hmk : cells ≤ (mM i).cells ∧ slots ≤ (mM i).slots) (hC1 : Ct j (As ++ [.null]) S M (Rt (some (.int w)) M)) (hC2 : Ct j (As ++ [.retAddr 200]) S M (Rt (some (.int w)) M))
    (kk : XW i F cells slots S M (pc + 6) lv (.int w :: st)) : XW i F cells slots S M pc lv stk := by
  intro p l e s m args below meth cd D cA rw A ad0 ad H locs ls cx hpre hlen hP hD hS hl
  obtain ⟨hx, hb, hml, hr, hown, hlk, hnm, hts, hK, hA, hG⟩ := id cx
  obtain ⟨B, e1, e2, e3⟩ := popn_eq n stk [] As _ hs
  rw [List.append_nil] at e1
  subst e1
  have hAA := x_inA (D := D) hD hS hA
  have hcb : CallB (mM i) s args (mY i).cls idx2 (mY j) (mC j) (mL j) (mR j) (wY j) (mM j) (mM j).cells (mM j).slots (n + 1) := callB_of (ws' := gw) (n + 1) hts (gw_good0 hf.1) rfl rfl rfl (hts _ hf.1.2.1) (hts _ hl0) hf.1.2.2 hR
  have key : ∀ (x : Value) (rw' : Nat → Nat), (∀ k, k < 200 → rw' k = rw k) → Ct j (As ++ [x]) S M (Rt (some (.int w)) M) → W p l e (mM i) s m args below meth cd H locs cells slots (F below args s D cA rw A ad0) (F0 m (pc + 3) ls (cv ad rw' x :: stk.map (cv ad rw))) := by
    intro x rw' hrw hC
    have hwl := wl_rw cA ad rw rw' M S 0
    have hG' : ∀ (B : Nat → Prop) (U : State) (H : Heap), Gs rw B U H → Gs rw' B U H := by
      intro B U H hG
      have e5 : ∀ k, k < 5 → rw' k = rw k := fun k hk => hrw k (by omega)
      refine ⟨⟨fun k hk => ?_, fun a b ha hb hab => ?_⟩, ?_, hG.2.2⟩
      · have := hG.1.1 k hk
        dsimp only at this ⊢
        rw [e5 k hk, hrw (100 + k) (by omega)]
        exact this
      · exact hG.1.2 a b ha hb (by dsimp only at hab ⊢; rw [← e5 a ha, ← e5 b hb]; exact hab)
      · rw [e5 0 (by omega), e5 1 (by omega), e5 2 (by omega), e5 3 (by omega), e5 4 (by omega)]
        exact hG.2.1
    have hmA : As.map (cv ad rw') = As.map (cv ad rw) := List.map_congr_left (fun v hv => hnr v hv rw' rw ad)
    have hrun := va_runS (p := p) (l := l) (e := e) (R := mM i) (s := s) (m := m) (args := args) (below := below) (meth := meth) (c := cd) (H := H) (locs := locs) (cells := cells) (slots := slots) (As := (As ++ [x]).map (cv ad rw')) (rest := st.map (cv ad rw)) (g := F0 m (pc + 3) ls (cv ad rw' x :: stk.map (cv ad rw))) (Ts := gw) ⟨hx, hb, hml, hown, hts⟩ (hC l D cA rw' ad H.size hlen) ⟨hcb, hts _ hf.2⟩
      ⟨Cg.blind, fun U hU hW => ⟨rfl, by rw [hU], by rw [hU, ← hwl]; exact hP, va_K.moved hW.alike hK, by rw [← hwl]; exact hD.weaken (fun _ _ _ _ => trivial), by rw [hU, ← hwl]; exact hG' _ _ _ (hG.go (fun a h1 h2 => hS.2.1 a h1 h2) hAA hW)⟩⟩ rfl (by rw [List.length_map, List.length_append, e2]; rfl) hl.1 (by show _ :: stk.map _ = _; rw [e3, List.map_append, List.map_reverse, List.map_append, hmA, List.reverse_append]; rfl) (lv_room (by rw [cat_map]; exact hcat)) hd2 (by rw [hz.1, hz.2]; exact hmk)
    rw [← hwl] at hrun
    refine x_after hrun hS hAA (fun r S' M' ad' H1 locs1 hp hpre1 hlen1 hP1 hD1 hS1 => ?_)
    obtain ⟨hp1, hp2, hp3⟩ := hp
    subst hp1; subst hp2; subst hp3
    have hsa : ad' = ad := same_ad hpre1 hlen hlen1
    subst hsa
    rw [← wl_rw cA ad' rw rw'] at hP1 hD1
    rw [hz.1, hz.2]
    exact kk p l e s m args below meth cd D cA rw A ad0 ad' H1 locs1 ls cx hpre hlen1 hP1 (hD1.weaken (fun k q _ h => hAA q.1 h)) hS1 hl
  rcases hG.2.2.2.1 with hZ | ⟨t, hZ⟩
  · exact va_gets (v := .null) hx hb hZ hS hown (hts _ hw) (fun _ h => h) hd (key .null rw (fun _ _ => rfl) hC1)
  · have h2 := key (.retAddr 200) (fun k => if k = 200 then t else rw k) (fun k hk => by simp [show k ≠ 200 by omega]) hC2
    have h3 : cv ad (fun k => if k = 200 then t else rw k) (.retAddr 200) = .ref t := by simp [cv]
    rw [h3] at h2
    exact va_gets (v := .ref t) hx hb hZ hS hown (hts _ hw) (fun _ h => h) hd h2
end XS
theorem c_coder {S : List Ds} {M : Mm} {k : Nat} (hk : k < 5) : Ct mJ0_coder_7d493 [.retAddr k] S M (Rt (some (.int 0)) M) := by
  refine Ct.of (by decide) (Nat.le_of_ble_eq_true rfl) ?_
  refine x_gcs fj_38 dJ0_coder_7d493_0 ?_
  refine x_if_eq 13 dJ0_coder_7d493_3 (by decide) (fun hc => absurd hc (by decide)) (fun _ => ?_)
  refine x_aload_nR dJ0_coder_7d493_6 rfl ?_
  refine x_getSc hk fj_15 dJ0_coder_7d493_7 ?_
  refine x_goto 14 dJ0_coder_7d493_10 (by decide) ?_
  exact x_iret dJ0_coder_7d493_14 rfl rfl (Nat.le_refl _) (Nat.le_refl _) ⟨rfl, rfl, rfl⟩
theorem c_isLatin1 {S : List Ds} {M : Mm} {k : Nat} (hk : k < 5) : Ct mJ0_isLatin1_aae02 [.retAddr k] S M (Rt (some (.int 1)) M) := by
  refine Ct.of (by decide) (Nat.le_of_ble_eq_true rfl) ?_
  refine x_gcs fj_38 dJ0_isLatin1_aae02_0 ?_
  refine x_if_eq 17 dJ0_isLatin1_aae02_3 (by decide) (fun hc => absurd hc (by decide)) (fun _ => ?_)
  refine x_aload_nR dJ0_isLatin1_aae02_6 rfl ?_
  refine x_getSc hk fj_15 dJ0_isLatin1_aae02_7 ?_
  refine x_if_ne 17 dJ0_isLatin1_aae02_10 (by decide) (fun hc => absurd rfl hc) (fun _ => ?_)
  refine x_iconst (v := 1) dJ0_isLatin1_aae02_13 (by decide) ?_
  refine x_goto 18 dJ0_isLatin1_aae02_14 (by decide) ?_
  exact x_iret dJ0_isLatin1_aae02_18 rfl rfl (Nat.le_refl _) (Nat.le_refl _) ⟨rfl, rfl, rfl⟩
theorem c_slength {S : List Ds} {M : Mm} {k : Nat} (hkR : k < 5) : Ct mJ0_length_8abf5 [.retAddr k] S M (Rt (some (.int 4)) M) := by
  refine Ct.of (by decide) (Nat.le_of_ble_eq_true rfl) ?_
  refine x_aload_nR dJ0_length_8abf5_0 rfl ?_
  refine x_getSv hkR fj_9 dJ0_length_8abf5_1 ?_
  refine x_slen hkR dJ0_length_8abf5_4 ?_
  refine x_aload_nR dJ0_length_8abf5_5 rfl ?_
  refine x_cvRd mf_J0_coder_7d493 ml_J0_335 dJ0_length_8abf5_6 rfl hkR rfl ⟨by decide, by decide⟩ (Nat.le_of_ble_eq_true rfl) ⟨rfl, rfl⟩ ⟨Nat.le_of_ble_eq_true rfl, Nat.le_of_ble_eq_true rfl⟩ (c_coder hkR) ?_
  refine x_ishr dJ0_length_8abf5_9 ?_
  exact x_iret dJ0_length_8abf5_10 rfl rfl (Nat.le_refl _) (Nat.le_refl _) ⟨rfl, rfl, rfl⟩
theorem c_ckI {S : List Ds} {M : Mm} {q : Nat} (hq : q < 4) (v : Value) (hv : v = .null ∨ v = .retAddr 200) : Ct mJ3_checkIndex_8e157 [.int (nI q), .int 4, v] S M (Rt (some (.int (nI q))) M) := by
  have h1 : ¬ nI q < 0 := nI_pos (by omega)
  have h2 : nI q < 4 := nI_lt (b := 4) hq (by decide)
  rcases hv with rfl | rfl
  · refine Ct.of (by decide) (Nat.le_of_ble_eq_true rfl) ?_
    refine x_iload_n dJ3_checkIndex_8e157_0 rfl ?_
    refine x_if_lt 9 dJ3_checkIndex_8e157_1 (by decide) (fun hc => absurd hc h1) (fun _ => ?_)
    refine x_iload_n dJ3_checkIndex_8e157_4 rfl ?_
    refine x_iload_n dJ3_checkIndex_8e157_5 rfl ?_
    refine x_icmp_lt 16 dJ3_checkIndex_8e157_6 (by decide) (fun _ => ?_) (fun hc => absurd h2 hc)
    refine x_iload_n dJ3_checkIndex_8e157_16 rfl ?_
    exact x_iret dJ3_checkIndex_8e157_17 rfl rfl (Nat.le_refl _) (Nat.le_refl _) ⟨rfl, rfl, rfl⟩
  · refine Ct.of (by decide) (Nat.le_of_ble_eq_true rfl) ?_
    refine x_iload_n dJ3_checkIndex_8e157_0 rfl ?_
    refine x_if_lt 9 dJ3_checkIndex_8e157_1 (by decide) (fun hc => absurd hc h1) (fun _ => ?_)
    refine x_iload_n dJ3_checkIndex_8e157_4 rfl ?_
    refine x_iload_n dJ3_checkIndex_8e157_5 rfl ?_
    refine x_icmp_lt 16 dJ3_checkIndex_8e157_6 (by decide) (fun _ => ?_) (fun hc => absurd h2 hc)
    refine x_iload_n dJ3_checkIndex_8e157_16 rfl ?_
    exact x_iret dJ3_checkIndex_8e157_17 rfl rfl (Nat.le_refl _) (Nat.le_refl _) ⟨rfl, rfl, rfl⟩
theorem c_scheck {S : List Ds} {M : Mm} {q : Nat} (hq : q < 4) : Ct mJ0_checkIndex_df160 [.int (nI q), .int 4] S M (Rt none M) := by
  refine Ct.of (by decide) (Nat.le_of_ble_eq_true rfl) ?_
  refine x_iload_n dJ0_checkIndex_df160_0 rfl ?_
  refine x_iload_n dJ0_checkIndex_df160_1 rfl ?_
  refine x_fmt (n := 2) (w := nI q) fj_1053 dJ0_checkIndex_df160_2 mf_J3_checkIndex_8e157 ml_J0_1059 dJ0_checkIndex_df160_5 rfl (fun v hv _ _ _ => ?_) (fun v hv => absurd hv List.not_mem_nil) ⟨by decide, by decide⟩ (Nat.le_of_ble_eq_true rfl) ⟨rfl, rfl⟩ ⟨Nat.le_of_ble_eq_true rfl, Nat.le_of_ble_eq_true rfl⟩ (c_ckI hq .null (Or.inl rfl)) (c_ckI hq (.retAddr 200) (Or.inr rfl)) ?_
  · rcases List.mem_cons.mp hv with rfl | hv
    · rfl
    · rcases List.mem_cons.mp hv with rfl | hv
      · rfl
      · exact absurd hv List.not_mem_nil
  · refine x_pop dJ0_checkIndex_df160_8 rfl ?_
    exact x_ret dJ0_checkIndex_df160_9 rfl (Nat.le_refl _) (Nat.le_refl _) ⟨rfl, rfl, rfl⟩
theorem chS_c : ∀ k, k < 5 → ∀ q, q < 4 → ((((chS k q) &&& 255).toUInt32 % 65536).toInt32 = chS k q ∧ narrow .char (.int (chS k q)) = .int (chS k q)) := by decide +kernel
theorem c_lcharAt {S : List Ds} {M : Mm} {k q : Nat} (hk : k < 5) (hq : q < 4) : Ct mJ1_charAt_3b067 [.retAddr (100 + k), .int (nI q)] S M (Rt (some (.int (chS k q))) M) := by
  refine Ct.of (by decide) (Nat.le_of_ble_eq_true rfl) ?_
  refine x_iload_n dJ1_charAt_3b067_0 rfl ?_
  refine x_aload_nR dJ1_charAt_3b067_1 rfl ?_
  refine x_slen hk dJ1_charAt_3b067_2 ?_
  refine x_csd mf_J0_checkIndex_df160 ml_J1_9 dJ1_charAt_3b067_3 rfl ⟨by decide, by decide⟩ (Nat.le_of_ble_eq_true rfl) ⟨rfl, rfl⟩ ⟨Nat.le_of_ble_eq_true rfl, Nat.le_of_ble_eq_true rfl⟩ (c_scheck hq) ?_
  refine x_aload_nR dJ1_charAt_3b067_6 rfl ?_
  refine x_iload_n dJ1_charAt_3b067_7 rfl ?_
  refine x_sbld hk rfl hq dJ1_charAt_3b067_8 ?_
  refine x_sipush (v := 255) dJ1_charAt_3b067_9 (by decide) ?_
  refine x_iand dJ1_charAt_3b067_12 ?_
  refine x_i2c dJ1_charAt_3b067_13 ?_
  rw [(chS_c k hk q hq).1]
  exact x_iret dJ1_charAt_3b067_14 rfl (chS_c k hk q hq).2 (Nat.le_refl _) (Nat.le_refl _) ⟨rfl, rfl, rfl⟩
theorem c_charAt {S : List Ds} {M : Mm} {k q : Nat} (hkR : k < 5) (hq : q < 4) : Ct mJ0_charAt_5068e [.retAddr k, .int (nI q)] S M (Rt (some (.int (chS k q))) M) := by
  refine Ct.of (by decide) (Nat.le_of_ble_eq_true rfl) ?_
  refine x_aload_nR dJ0_charAt_5068e_0 rfl ?_
  refine x_cvRd mf_J0_isLatin1_aae02 ml_J0_492 dJ0_charAt_5068e_1 rfl hkR rfl ⟨by decide, by decide⟩ (Nat.le_of_ble_eq_true rfl) ⟨rfl, rfl⟩ ⟨Nat.le_of_ble_eq_true rfl, Nat.le_of_ble_eq_true rfl⟩ (c_isLatin1 hkR) ?_
  refine x_if_eq 16 dJ0_charAt_5068e_4 (by decide) (fun hc => absurd hc (by decide)) (fun _ => ?_)
  refine x_aload_nR dJ0_charAt_5068e_7 rfl ?_
  refine x_getSv hkR fj_9 dJ0_charAt_5068e_8 ?_
  refine x_iload_n dJ0_charAt_5068e_11 rfl ?_
  refine x_csd mf_J1_charAt_3b067 ml_J0_495 dJ0_charAt_5068e_12 rfl ⟨by decide, by decide⟩ (Nat.le_of_ble_eq_true rfl) ⟨rfl, rfl⟩ ⟨Nat.le_of_ble_eq_true rfl, Nat.le_of_ble_eq_true rfl⟩ (c_lcharAt hkR hq) ?_
  exact x_iret dJ0_charAt_5068e_15 rfl (chS_c k hkR q hq).2 (Nat.le_refl _) (Nat.le_refl _) ⟨rfl, rfl, rfl⟩
