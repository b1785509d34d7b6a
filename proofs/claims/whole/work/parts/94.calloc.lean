/-! ===== calls that make cells ===== -/
section XK
variable {i j : Mi} {F : Fn} {cells slots : Nat} {S : List Ds} {M : Mm} {pc : Nat} {lv : Lv} {st stk : List Value}
theorem x_callI {n idx co : Nat} {As : List Value} {post : Option Value → List Ds → Mm → Prop} (hf : MFi j n) (hl0 : Cond.methodLink (mY i).cls idx (mY j) ∈ gw) (hd : decode (mC i) pc = .ok (.invokespecial idx, 3)) (hs : popn n stk [] = some (As, .ref co :: st))
    (hR : (mM j).frames + 1 ≤ (mM i).frames ∧ 8 + (mL j + 11) + (mM j).locals ≤ (mM i).locals) (hcat : (st.map fun v => v.category).sum ≤ 8) (hmk : cells + (mM j).cells ≤ (mM i).cells ∧ slots + (mM j).slots ≤ (mM i).slots) (hlv : lv.all (okl S.length) = true) (hst : st.all (okv S.length) = true) (hC : Cg j (.ref co :: As) S M post)
    (kk : ∀ r S' M', post r S' M' → XW i F (cells + (mM j).cells) (slots + (mM j).slots) S' M' (pc + 3) lv (r.toList ++ st)) : XW i F cells slots S M pc lv stk := by
  intro p l e s m args below meth cd D cA rw A ad0 ad H locs ls cx hpre hlen hP hD hS hl
  obtain ⟨hx, hb, hml, hr, hown, hlk, hnm, hts, hK, hA, hG⟩ := id cx
  obtain ⟨B, e1, e2, e3⟩ := popn_eq n stk [] As _ hs
  rw [List.append_nil] at e1
  subst e1
  have hAA := x_inA (D := D) hD hS hA
  have hcb0 : CallB (mM i) s args (mY i).cls idx (mY j) (mC j) (mL j) (mR j) (wY j) (mM j) (mM j).cells (mM j).slots n := callB_of (ws' := gw) n hts (gw_good0 hf.1) rfl rfl rfl (hts _ hf.1.2.1) (hts _ hl0) hf.1.2.2 hR
  have hcb : CallB (mM i) s args (mY i).cls idx (mY j) (mC j) (mL j) none (wY j) (mM j) (mM j).cells (mM j).slots n := hf.2.2.2 ▸ hcb0
  have hrun := va_runI (p := p) (l := l) (e := e) (R := mM i) (s := s) (m := m) (args := args) (below := below) (meth := meth) (c := cd) (H := H) (locs := locs) (cells := cells) (slots := slots) (As := As.map (cv ad rw)) (rest := st.map (cv ad rw)) (g := F0 m pc ls (stk.map (cv ad rw))) (Ts := gw) ⟨hx, hb, hml, hown, hts⟩ (hC l D cA rw ad H.size hlen) ⟨hcb, hf.2.2.1, hts _ hf.2.1⟩
    ⟨Cg.blind, fun U hU hW => ⟨rfl, by rw [hU], by rw [hU]; exact hP, va_K.moved hW.alike hK, hD.weaken (fun _ _ _ _ => trivial), by rw [hU]; exact hG.go (fun a h1 h2 => hS.2.1 a h1 h2) hAA hW⟩⟩ rfl (by rw [List.length_map]; exact e2) hl.1 (by show stk.map _ = _; rw [e3, List.map_append, List.map_reverse]; rfl) (lv_room (by rw [cat_map]; exact hcat)) hd hmk
  refine x_after hrun hS hAA (fun r S' M' ad' H1 locs1 hp hpre1 hlen1 hP1 hD1 hS1 => ?_)
  obtain ⟨z, rfl⟩ := hpre1
  obtain ⟨z0, hz0⟩ := hpre
  have hk := kk r S' M' hp p l e s m args below meth cd D cA rw A ad0 (ad ++ z) H1 locs1 ls cx ⟨z0 ++ z, by rw [hz0, List.append_assoc]⟩ hlen1 hP1 (hD1.weaken (fun k q _ h => hAA q.1 h)) hS1 (lh_ext hlen hlv hl)
  rw [List.map_append, cvs_ext z rw hlen hst] at hk
  cases r <;> exact hk
theorem x_callIN {n idx co : Nat} {As : List Value} {post : Option Value → List Ds → Mm → Prop} (hf : MFi j n) (hl0 : ((mY i).cls, idx, mY j) ∈ nestL) (hd : decode (mC i) pc = .ok (.invokespecial idx, 3)) (hs : popn n stk [] = some (As, .ref co :: st))
    (hR : (mM j).frames + 1 ≤ (mM i).frames ∧ 8 + (mL j + 11) + (mM j).locals ≤ (mM i).locals) (hcat : (st.map fun v => v.category).sum ≤ 8) (hmk : cells + (mM j).cells ≤ (mM i).cells ∧ slots + (mM j).slots ≤ (mM i).slots) (hlv : lv.all (okl S.length) = true) (hst : st.all (okv S.length) = true) (hC : Cg j (.ref co :: As) S M post)
    (kk : ∀ r S' M', post r S' M' → XW i F (cells + (mM j).cells) (slots + (mM j).slots) S' M' (pc + 3) lv (r.toList ++ st)) : XW i F cells slots S M pc lv stk := by
  intro p l e s m args below meth cd D cA rw A ad0 ad H locs ls cx hpre hlen hP hD hS hl
  obtain ⟨hx, hb, hml, hr, hown, hlk, hnm, hts, hK, hA, hG⟩ := id cx
  obtain ⟨B, e1, e2, e3⟩ := popn_eq n stk [] As _ hs
  rw [List.append_nil] at e1
  subst e1
  have hAA := x_inA (D := D) hD hS hA
  have hcb0 : va_CN (mM i) s args (mY i).cls idx (mY j) RX9 (mC j) (mL j) (mR j) (wY j) (mM j) (mM j).cells (mM j).slots n := va_cnB (ws' := gw) n hts (gw_good0 hf.1) rfl rfl rfl (hG.2.2.2.2.2 _ hl0) (hts _ hf.1.2.1) hf.1.2.2 hR
  have hcb : va_CN (mM i) s args (mY i).cls idx (mY j) RX9 (mC j) (mL j) none (wY j) (mM j) (mM j).cells (mM j).slots n := hf.2.2.2 ▸ hcb0
  have hrun := va_runIN (p := p) (l := l) (e := e) (R := mM i) (s := s) (m := m) (args := args) (below := below) (meth := meth) (c := cd) (H := H) (locs := locs) (cells := cells) (slots := slots) (As := As.map (cv ad rw)) (rest := st.map (cv ad rw)) (g := F0 m pc ls (stk.map (cv ad rw))) (Ts := gw) ⟨hx, hb, hml, hown, hts⟩ (hC l D cA rw ad H.size hlen) ⟨hcb, hf.2.2.1, hts _ hf.2.1⟩
    ⟨Cg.blind, fun U hU hW => ⟨rfl, by rw [hU], by rw [hU]; exact hP, va_K.moved hW.alike hK, hD.weaken (fun _ _ _ _ => trivial), by rw [hU]; exact hG.go (fun a h1 h2 => hS.2.1 a h1 h2) hAA hW⟩⟩ rfl (by rw [List.length_map]; exact e2) hl.1 (by show stk.map _ = _; rw [e3, List.map_append, List.map_reverse]; rfl) (lv_room (by rw [cat_map]; exact hcat)) hd hmk
  refine x_after hrun hS hAA (fun r S' M' ad' H1 locs1 hp hpre1 hlen1 hP1 hD1 hS1 => ?_)
  obtain ⟨z, rfl⟩ := hpre1
  obtain ⟨z0, hz0⟩ := hpre
  have hk := kk r S' M' hp p l e s m args below meth cd D cA rw A ad0 (ad ++ z) H1 locs1 ls cx ⟨z0 ++ z, by rw [hz0, List.append_assoc]⟩ hlen1 hP1 (hD1.weaken (fun k q _ h => hAA q.1 h)) hS1 (lh_ext hlen hlv hl)
  rw [List.map_append, cvs_ext z rw hlen hst] at hk
  cases r <;> exact hk
/-- a method of an object, that may make cells -/
theorem x_callG {n idx co ci : Nat} {As : List Value} {rs : List (Option (Option Nat))} {post : Option Value → List Ds → Mm → Prop} (hf : MFv j n) (hl0 : Cond.methodLink (mY i).cls idx (mY j) ∈ gw) (hd : decode (mC i) pc = .ok (.invokevirtual idx, 3)) (hs : popn n stk [] = some (As, .ref co :: st)) (ho : lk S co = some (.inr (.inr (ci, rs)))) (hcl : (vwCl[ci]?).map (fun x => x.1) = some (mY j).cls)
    (hR : (mM j).frames + 1 ≤ (mM i).frames ∧ 8 + (mL j + 11) + (mM j).locals ≤ (mM i).locals) (hcat : (st.map fun v => v.category).sum ≤ 8) (hmk : cells + (mM j).cells ≤ (mM i).cells ∧ slots + (mM j).slots ≤ (mM i).slots) (hlv : lv.all (okl S.length) = true) (hst : st.all (okv S.length) = true) (hC : Cg j (.ref co :: As) S M post)
    (kk : ∀ r S' M', post r S' M' → XW i F (cells + (mM j).cells) (slots + (mM j).slots) S' M' (pc + 3) lv (r.toList ++ st)) : XW i F cells slots S M pc lv stk := by
  intro p l e s m args below meth cd D cA rw A ad0 ad H locs ls cx hpre hlen hP hD hS hl
  obtain ⟨hx, hb, hml, hr, hown, hlk, hnm, hts, hK, hA, hG⟩ := id cx
  obtain ⟨B, e1, e2, e3⟩ := popn_eq n stk [] As _ hs
  rw [List.append_nil] at e1
  subst e1
  have hAA := x_inA (D := D) hD hS hA
  obtain ⟨C, hcl1, hcl2⟩ : ∃ q, vwCl[ci]? = some q ∧ q.1 = (mY j).cls := by
    cases h : vwCl[ci]? with
    | none => rw [h] at hcl; cases hcl
    | some q => rw [h] at hcl; exact ⟨q, rfl, Option.some.inj hcl⟩
  have hrecv := va_recv (q0 := co) (ci := ci) hK hP hcl1 (wl_lk ho)
  rw [hcl2] at hrecv
  have hcb : CallB (mM i) s args (mY i).cls idx (mY j) (mC j) (mL j) (mR j) (wY j) (mM j) (mM j).cells (mM j).slots n := callB_of (ws' := gw) n hts (gw_good0 hf.1) rfl rfl rfl (hts _ hf.1.2.1) (hts _ hl0) hf.1.2.2 hR
  have hrun := va_runV (p := p) (l := l) (e := e) (R := mM i) (s := s) (m := m) (args := args) (below := below) (meth := meth) (c := cd) (H := H) (locs := locs) (cells := cells) (slots := slots) (As := As.map (cv ad rw)) (rest := st.map (cv ad rw)) (g := F0 m pc ls (stk.map (cv ad rw))) (Ts := gw) ⟨hx, hb, hml, hown, hts⟩ (hC l D cA rw ad H.size hlen) ⟨hcb, hts _ hf.2.1, hts _ hf.2.2⟩
    ⟨Cg.blind, hrecv, fun U hU hW => ⟨rfl, by rw [hU], by rw [hU]; exact hP, va_K.moved hW.alike hK, hD.weaken (fun _ _ _ _ => trivial), by rw [hU]; exact hG.go (fun a h1 h2 => hS.2.1 a h1 h2) hAA hW⟩⟩ rfl (by rw [List.length_map]; exact e2) hl.1 (by show stk.map _ = _; rw [e3, List.map_append, List.map_reverse]; rfl) (lv_room (by rw [cat_map]; exact hcat)) hd hmk
  refine x_after hrun hS hAA (fun r S' M' ad' H1 locs1 hp hpre1 hlen1 hP1 hD1 hS1 => ?_)
  obtain ⟨z, rfl⟩ := hpre1
  obtain ⟨z0, hz0⟩ := hpre
  have hk := kk r S' M' hp p l e s m args below meth cd D cA rw A ad0 (ad ++ z) H1 locs1 ls cx ⟨z0 ++ z, by rw [hz0, List.append_assoc]⟩ hlen1 hP1 (hD1.weaken (fun k q _ h => hAA q.1 h)) hS1 (lh_ext hlen hlv hl)
  rw [List.map_append, cvs_ext z rw hlen hst] at hk
  cases r with
  | none => exact hk
  | some v =>
    exact hk
end XK
