/-! ===== calls ===== -/
def popn : Nat → List Value → List Value → Option (List Value × List Value)
  | 0, st, acc => some (acc, st)
  | _ + 1, [], _ => none
  | n + 1, v :: st, acc => popn n st (v :: acc)
theorem popn_eq : ∀ (n : Nat) (st acc As rest : List Value), popn n st acc = some (As, rest) → ∃ B, As = B ++ acc ∧ B.length = n ∧ st = B.reverse ++ rest
  | 0, st, acc, As, rest, h => by
    simp only [popn, Option.some.injEq, Prod.mk.injEq] at h
    exact ⟨[], by simp [h.1], rfl, by simp [h.2]⟩
  | n + 1, [], acc, As, rest, h => by simp [popn] at h
  | n + 1, v :: st, acc, As, rest, h => by
    obtain ⟨B, h1, h2, h3⟩ := popn_eq n st (v :: acc) As rest h
    exact ⟨B ++ [v], by simp [h1], by simp [h2], by simp [h3]⟩
/-- what the tables say of a method -/
def MFb (j : Mi) (n : Nat) : Prop := Cond.code (mY j) (mC j) (mL j) (mR j) ∈ gw ∧ Cond.initialized (mY j).cls ∈ gw ∧ ((mY j).cls ≠ "java/lang/invoke/MethodHandle" ∧ (mY j).cls ≠ "java/lang/invoke/VarHandle" ∧ (parseMethodDescriptor (mY j).desc).map (fun d => d.parameters.length) = some n)
def MFv (j : Mi) (n : Nat) : Prop := MFb j n ∧ Cond.instanceMethod (mY j) ∈ gw ∧ Cond.selects (mY j).cls (mY j) (mY j) ∈ gw
def MFs (j : Mi) (n : Nat) : Prop := MFb j n ∧ Cond.static (mY j) ∈ gw
def MFi (j : Mi) (n : Nat) : Prop := MFb j n ∧ Cond.instanceMethod (mY j) ∈ gw ∧ (mY j).name = "<init>" ∧ mR j = none
theorem gw_good {c : Cond} {j : Mi} {n : Nat} (h : MFb j n) : GoodIn (c :: gw) (wY j) := fun w hw => by
  have h1 : w ∈ gw := by
    rcases List.mem_cons.mp hw with rfl | h2
    · exact h.1
    · exact h2
  exact ⟨List.mem_cons_of_mem _ h1, gw_ok w h1⟩
theorem gw_good0 {j : Mi} {n : Nat} (h : MFb j n) : GoodIn gw (wY j) := fun w hw => by
  have h1 : w ∈ gw := by
    rcases List.mem_cons.mp hw with rfl | h2
    · exact h.1
    · exact h2
  exact ⟨h1, gw_ok w h1⟩
theorem Cg.blind {avs : List Value} {D : va_G} {cA : FieldType → ClassId} {rw : Nat → Nat} {ad : List Nat} {S : List Ds} {M : Mm} {sz : Nat} : FrameBlind (va_Pc (avs.map (cv ad rw)) (fun U => U.heap.size = sz ∧ va_P D vwCl (wl cA ad rw M 0 S) U.heap ∧ va_K D vwCl (ktys cA) U ∧ va_D (fun _ => True) (wl cA ad rw M 0 S) ∧ Gs rw (va_A (wl cA ad rw M 0 S) sz) U U.heap)) := by
  intro a U g mk q
  obtain ⟨q0, q1, qP, qK, qD, qG⟩ := q
  exact ⟨q0, q1, qP, va_K.moved (u := U) (U := U.calling g mk a) (Vm.Alike.refl U.vm) qK, qD, Gs.same (s := U) qG rfl⟩
section XC
variable {p : Program} {l : Launch} {e : Env} {R : Room} {s : State} {m : MethodId} {args : Array Value} {below : List Frame} {meth : Method} {c : Code} {H : Heap} {locs : List Loc} {cells slots : Nat} {Q : State → Prop}
theorem x_after {pc mc ms : Nat} {ls : Array Slot} {rest st0 : List Value} {a : Array Value} {A0 A1 : Nat → Prop} {D : va_G} {cA : FieldType → ClassId} {rw : Nat → Nat} {ad : List Nat} {post : Option Value → List Ds → Mm → Prop}
    (hr : va_Run p l e R s m args below meth c H locs cells slots mc ms (F0 m pc ls st0) rest (Qx D cA rw A1 ad post a) A1) (hS : va_S A0 s.heap H locs) (hA : ∀ q, A1 q → A0 q)
    (kk : ∀ (r : Option Value) (S' : List Ds) (M' : Mm) (ad' : List Nat) (H1 : Heap) (locs1 : List Loc), post r S' M' → (∃ z, ad' = ad ++ z) → ad'.length = S'.length → va_P D vwCl (wl cA ad' rw M' 0 S') H1 → va_D A1 (wl cA ad' rw M' 0 S') → va_S A0 s.heap H1 locs1 → W p l e R s m args below meth c H1 locs1 (cells + mc) (slots + ms) Q (F0 m (pc + 3) ls ((r.map (cv ad' rw)).toList ++ rest))) : W p l e R s m args below meth c H locs cells slots Q (F0 m pc ls st0) := by
  intro T hT X
  obtain ⟨v, st₀, t, T', L, h0, X', hL, e1, e2, ⟨⟨r, S', M', ad', hv, hp, hpre, hlen, hP, hD⟩, hz, hk⟩, st⟩ := hr T hT X
  cases hv
  rw [h0] at hz hk
  obtain ⟨t2, a1, b1⟩ := kk r S' M' ad' T'.heap (locs ++ L) hp hpre hlen (by rw [e1]; exact hP) hD
    ⟨Nat.le_trans hS.1 (by rw [e1]; exact hz), fun q h1 h2 => by rw [e1, hk q (Nat.lt_of_lt_of_le h1 hS.1) (fun z => h2 (hA q z))]; exact hS.2.1 q h1 h2, fun q hq => by
      rcases List.mem_append.mp hq with h | h
      · exact hS.2.2 q h
      · exact hA _ (hL q h)⟩ T' rfl X'
  exact ⟨t2, st t2 a1, b1⟩
end XC
theorem cat_map (ad : List Nat) (rw : Nat → Nat) (st : List Value) : ((st.map (cv ad rw)).map fun v => v.category) = st.map (fun v => v.category) := by
  rw [List.map_map]
  exact List.map_congr_left fun v _ => cv_cat ad rw v
theorem same_ad {ad ad' : List Nat} {n : Nat} (h : ∃ z, ad' = ad ++ z) (h1 : ad.length = n) (h2 : ad'.length = n) : ad' = ad := by
  obtain ⟨z, rfl⟩ := h
  rw [List.length_append] at h2
  have : z.length = 0 := by omega
  rw [List.length_eq_zero_iff.mp this, List.append_nil]
section XD
variable {i j : Mi} {F : Fn} {cells slots : Nat} {S : List Ds} {M : Mm} {pc : Nat} {lv : Lv} {st stk : List Value}
theorem x_inA {A : Nat → Prop} {D : va_G} {cA : FieldType → ClassId} {rw : Nat → Nat} {ad : List Nat} {s : State} {H : Heap} {locs : List Loc} (hD : va_D A (wl cA ad rw M 0 S)) (hS : va_S A s.heap H locs) (hA : ∀ q : Nat, s.heap.size ≤ q → A q) : ∀ q, va_A (wl cA ad rw M 0 S) H.size q → A q := by
  intro q h
  rcases h with ⟨k, e, h⟩ | h
  · exact hD.2 k (q, e) h
  · exact hA q (Nat.le_trans hS.1 h)
/-- a method of an object, that makes nothing -/
theorem x_callV {n idx co ci : Nat} {As : List Value} {rs : List (Option (Option Nat))} {post : Option Value → List Ds → Mm → Prop} (hf : MFv j n) (hl0 : Cond.methodLink (mY i).cls idx (mY j) ∈ gw) (hd : decode (mC i) pc = .ok (.invokevirtual idx, 3)) (hs : popn n stk [] = some (As, .ref co :: st)) (ho : lk S co = some (.inr (.inr (ci, rs)))) (hcl : (vwCl[ci]?).map (fun x => x.1) = some (mY j).cls)
    (hR : (mM j).frames + 1 ≤ (mM i).frames ∧ 8 + (mL j + 11) + (mM j).locals ≤ (mM i).locals) (hcat : (st.map fun v => v.category).sum ≤ 8) (hmk : cells + (mM j).cells ≤ (mM i).cells ∧ slots + (mM j).slots ≤ (mM i).slots) (hC : Cg j (.ref co :: As) S M post) (hlen2 : ∀ r S' M', post r S' M' → S'.length = S.length)
    (kk : ∀ r S' M', post r S' M' → XW i F (cells + (mM j).cells) (slots + (mM j).slots) S' M' (pc + 3) lv (r.toList ++ st)) : XW i F cells slots S M pc lv stk := by
  intro p l e s m args below meth cd D cA rw A ad0 ad H locs ls cx hpre hlen hP hD hS hl
  obtain ⟨hx, hb, hml, hr, hown, hlk, hnm, hts, hK, hA, hG⟩ := id cx
  obtain ⟨B, e1, e2, e3⟩ := popn_eq n stk [] As _ hs
  rw [List.append_nil] at e1
  subst e1
  have hAA := x_inA (D := D) hD hS hA
  obtain ⟨C, hcl1, hcl2⟩ : ∃ q, vwCl[ci]? = some q ∧ q.1 = (mY j).cls := by
    cases h : vwCl[ci]? with
    | none => rw [h] at hcl; cases hcl
    | some q => rw [h] at hcl; exact ⟨q, rfl, Option.some.inj hcl⟩
  have hrecv := va_recv (q0 := co) (ci := ci) hK hP hcl1 (wl_lk ho)
  rw [hcl2] at hrecv
  have hcb : CallB (mM i) s args (mY i).cls idx (mY j) (mC j) (mL j) (mR j) (wY j) (mM j) (mM j).cells (mM j).slots n := callB_of (ws' := gw) n hts (gw_good0 hf.1) rfl rfl rfl (hts _ hf.1.2.1) (hts _ hl0) hf.1.2.2 hR
  have hrun := va_runV (p := p) (l := l) (e := e) (R := mM i) (s := s) (m := m) (args := args) (below := below) (meth := meth) (c := cd) (H := H) (locs := locs) (cells := cells) (slots := slots) (As := As.map (cv ad rw)) (rest := st.map (cv ad rw)) (g := F0 m pc ls (stk.map (cv ad rw))) (Ts := gw) ⟨hx, hb, hml, hown, hts⟩ (hC l D cA rw ad H.size hlen) ⟨hcb, hts _ hf.2.1, hts _ hf.2.2⟩
    ⟨Cg.blind, hrecv, fun U hU hW => ⟨rfl, by rw [hU], by rw [hU]; exact hP, va_K.moved hW.alike hK, hD.weaken (fun _ _ _ _ => trivial), by rw [hU]; exact hG.go (fun a h1 h2 => hS.2.1 a h1 h2) hAA hW⟩⟩ rfl (by rw [List.length_map]; exact e2) hl.1 (by show stk.map _ = _; rw [e3, List.map_append, List.map_reverse]; rfl) (lv_room (by rw [cat_map]; exact hcat)) hd hmk
  refine x_after hrun hS hAA (fun r S' M' ad' H1 locs1 hp hpre1 hlen1 hP1 hD1 hS1 => ?_)
  have hsa : ad' = ad := same_ad hpre1 hlen (hlen1.trans (hlen2 r S' M' hp))
  subst hsa
  have hk := kk r S' M' hp p l e s m args below meth cd D cA rw A ad0 ad' H1 locs1 ls cx hpre hlen1 hP1 (hD1.weaken (fun k q _ h => hAA q.1 h)) hS1 hl
  rw [List.map_append] at hk
  cases r <;> exact hk
/-- a static method, that makes nothing -/
theorem x_callS {n idx : Nat} {As : List Value} {post : Option Value → List Ds → Mm → Prop} (hf : MFs j n) (hl0 : Cond.methodLink (mY i).cls idx (mY j) ∈ gw) (hd : decode (mC i) pc = .ok (.invokestatic idx, 3)) (hs : popn n stk [] = some (As, st))
    (hR : (mM j).frames + 1 ≤ (mM i).frames ∧ 8 + (mL j + 11) + (mM j).locals ≤ (mM i).locals) (hcat : (st.map fun v => v.category).sum ≤ 8) (hmk : cells + (mM j).cells ≤ (mM i).cells ∧ slots + (mM j).slots ≤ (mM i).slots) (hC : Cg j As S M post) (hlen2 : ∀ r S' M', post r S' M' → S'.length = S.length)
    (kk : ∀ r S' M', post r S' M' → XW i F (cells + (mM j).cells) (slots + (mM j).slots) S' M' (pc + 3) lv (r.toList ++ st)) : XW i F cells slots S M pc lv stk := by
  intro p l e s m args below meth cd D cA rw A ad0 ad H locs ls cx hpre hlen hP hD hS hl
  obtain ⟨hx, hb, hml, hr, hown, hlk, hnm, hts, hK, hA, hG⟩ := id cx
  obtain ⟨B, e1, e2, e3⟩ := popn_eq n stk [] As _ hs
  rw [List.append_nil] at e1
  subst e1
  have hAA := x_inA (D := D) hD hS hA
  have hcb : CallB (mM i) s args (mY i).cls idx (mY j) (mC j) (mL j) (mR j) (wY j) (mM j) (mM j).cells (mM j).slots n := callB_of (ws' := gw) n hts (gw_good0 hf.1) rfl rfl rfl (hts _ hf.1.2.1) (hts _ hl0) hf.1.2.2 hR
  have hrun := va_runS (p := p) (l := l) (e := e) (R := mM i) (s := s) (m := m) (args := args) (below := below) (meth := meth) (c := cd) (H := H) (locs := locs) (cells := cells) (slots := slots) (As := As.map (cv ad rw)) (rest := st.map (cv ad rw)) (g := F0 m pc ls (stk.map (cv ad rw))) (Ts := gw) ⟨hx, hb, hml, hown, hts⟩ (hC l D cA rw ad H.size hlen) ⟨hcb, hts _ hf.2⟩
    ⟨Cg.blind, fun U hU hW => ⟨rfl, by rw [hU], by rw [hU]; exact hP, va_K.moved hW.alike hK, hD.weaken (fun _ _ _ _ => trivial), by rw [hU]; exact hG.go (fun a h1 h2 => hS.2.1 a h1 h2) hAA hW⟩⟩ rfl (by rw [List.length_map]; exact e2) hl.1 (by show stk.map _ = _; rw [e3, List.map_append, List.map_reverse]) (lv_room (by rw [cat_map]; exact hcat)) hd hmk
  refine x_after hrun hS hAA (fun r S' M' ad' H1 locs1 hp hpre1 hlen1 hP1 hD1 hS1 => ?_)
  have hsa : ad' = ad := same_ad hpre1 hlen (hlen1.trans (hlen2 r S' M' hp))
  subst hsa
  have hk := kk r S' M' hp p l e s m args below meth cd D cA rw A ad0 ad' H1 locs1 ls cx hpre hlen1 hP1 (hD1.weaken (fun k q _ h => hAA q.1 h)) hS1 hl
  rw [List.map_append] at hk
  cases r <;> exact hk
end XD
