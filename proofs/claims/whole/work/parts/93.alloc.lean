/-! ===== rules of what is made: objects, arrays; constructors called ===== -/
def okv (n : Nat) : Value → Bool
  | .ref c => decide (c < n)
  | _ => true
def okl (n : Nat) : Option Value → Bool
  | some v => okv n v
  | none => true
def oko (n : Nat) : Option Nat → Bool
  | some q => decide (q < n)
  | none => true
def okr (n : Nat) : Option (Option Nat) → Bool
  | some o => oko n o
  | none => true
def okd (n : Nat) : Ds → Bool
  | .inl _ => true
  | .inr (.inl (_, l)) => l.all (oko n)
  | .inr (.inr (_, rs)) => rs.all (okr n)
def wfS (n : Nat) (S : List Ds) : Bool := S.all (okd n)
theorem getD_ext {ad : List Nat} (z : List Nat) {c : Nat} (h : c < ad.length) : (ad ++ z).getD c 0 = ad.getD c 0 := by
  simp [List.getD, List.getElem?_append_left h]
theorem cv_ext {ad : List Nat} {n : Nat} (z : List Nat) (rw : Nat → Nat) {v : Value} (hn : ad.length = n) (h : okv n v = true) : cv (ad ++ z) rw v = cv ad rw v := by
  cases v with
  | ref c =>
    have h2 : c < n := of_decide_eq_true h
    show Value.ref ((ad ++ z).getD c 0) = Value.ref (ad.getD c 0)
    rw [getD_ext z (by rw [hn]; exact h2)]
  | _ => rfl
theorem cvs_ext {ad : List Nat} {n : Nat} (z : List Nat) (rw : Nat → Nat) {vs : List Value} (hn : ad.length = n) (h : vs.all (okv n) = true) : vs.map (cv (ad ++ z) rw) = vs.map (cv ad rw) :=
  List.map_congr_left (fun v hv => cv_ext z rw hn (List.all_eq_true.mp h v hv))
theorem lk_mem {α : Type} {l : List α} {n : Nat} {a : α} (h : lk l n = some a) : a ∈ l := by
  rw [lk_eq] at h
  exact List.mem_of_getElem? h
theorem lh_ext {ad : List Nat} {n : Nat} {z : List Nat} {rw : Nat → Nat} {ls : Array Slot} {nL : Nat} {lv : Lv} (hn : ad.length = n) (h : lv.all (okl n) = true) (hl : lh ad rw ls nL lv) : lh (ad ++ z) rw ls nL lv := by
  refine ⟨hl.1, hl.2.1, fun i v hv => ?_⟩
  have h1 := List.all_eq_true.mp h (some v) (lk_mem hv)
  rw [cv_ext z rw hn h1]
  exact hl.2.2 i v hv
theorem en_ext {cA : FieldType → ClassId} {ad : List Nat} {n : Nat} {z : List Nat} {rw : Nat → Nat} {M : Mm} {c : Nat} {d : Ds} (hn : ad.length = n) (h : okd n d = true) : en cA (ad ++ z) rw M c d = en cA ad rw M c d := by
  rcases d with ⟨ty, k⟩ | ⟨C, l⟩ | ⟨ci, rs⟩
  · rfl
  · have : (fun i => (l.getD i none).map (fun q => (ad ++ z).getD q 0)) = (fun i => (l.getD i none).map (fun q => ad.getD q 0)) := by
      funext i
      cases hi : l[i]? with
      | none => simp [List.getD, hi]
      | some o =>
        cases o with
        | none => simp [List.getD, hi]
        | some q =>
          have h1 := List.all_eq_true.mp h (some q) (List.mem_of_getElem? hi)
          simp only [oko, decide_eq_true_eq] at h1
          simp only [List.getD, hi, Option.getD_some, Option.map_some]
          exact congrArg some (getD_ext z (by omega))
    simp only [en, this]
  · have : ∀ (rs : List (Option (Option Nat))) (k : Nat), rs.all (okr n) = true → (fvs M c k rs).map (cv (ad ++ z) rw) = (fvs M c k rs).map (cv ad rw) := by
      intro rs
      induction rs with
      | nil => intro k _; rfl
      | cons r l ih =>
        intro k hk
        rw [List.all_cons, Bool.and_eq_true] at hk
        have hr : cv (ad ++ z) rw (fv M c k r) = cv ad rw (fv M c k r) := by
          rcases r with _ | _ | q
          · rfl
          · rfl
          · exact cv_ext z rw hn hk.1
        simp only [fvs, List.map_cons, ih (k + 1) hk.2, hr]
    simp only [en, this rs 0 h]
theorem wl_ext {cA : FieldType → ClassId} {ad : List Nat} {n : Nat} {z : List Nat} {rw : Nat → Nat} {M M' : Mm} (hn : ad.length = n) : ∀ (S : List Ds) (c : Nat), c + S.length ≤ n → wfS n S = true → (∀ j, j < n → M' j = M j) → wl cA (ad ++ z) rw M' c S = wl cA ad rw M c S
  | [], c, _, _, _ => rfl
  | d :: l, c, h1, h2, h3 => by
    simp only [wfS, List.all_cons, Bool.and_eq_true] at h2
    simp only [List.length_cons] at h1
    have h4 := wl_ext (cA := cA) (z := z) (rw := rw) (M := M) (M' := M') hn l (c + 1) (by omega) h2.2 h3
    simp only [wl, h4, getD_ext z (show c < ad.length by omega), en_ext hn h2.1, en_congr (h3 c (by omega))]
theorem wl_app (cA : FieldType → ClassId) (ad : List Nat) (rw : Nat → Nat) (M : Mm) : ∀ (S T : List Ds) (c : Nat), wl cA ad rw M c (S ++ T) = wl cA ad rw M c S ++ wl cA ad rw M (c + S.length) T
  | [], T, c => by simp [wl]
  | d :: l, T, c => by
    have h := wl_app cA ad rw M l T (c + 1)
    simp only [List.cons_append, wl, h, List.length_cons]
    rw [show c + 1 + l.length = c + (l.length + 1) by omega]
theorem wl_push {cA : FieldType → ClassId} {ad : List Nat} {rw : Nat → Nat} {M : Mm} {S : List Ds} (f : Nat → Int32) (q : Nat) (d : Ds) (hlen : ad.length = S.length) (hwf : wfS S.length S = true) : wl cA (ad ++ [q]) rw (upr M S.length f) 0 (S ++ [d]) = wl cA ad rw M 0 S ++ [(q, en cA (ad ++ [q]) rw (upr M S.length f) S.length d)] := by
  rw [wl_app, wl_ext hlen S 0 (by omega) hwf (fun j hj => upr_n M f (by omega))]
  simp only [wl, Nat.zero_add]
  have : (ad ++ [q]).getD S.length 0 = q := by rw [← hlen]; simp [List.getD]
  rw [this]
/-- what a fresh field holds -/
def dfl : Option (Option Nat) → Value
  | none => .int 0
  | some _ => .null
theorem fvs_dfl {M : Mm} {c : Nat} (hM : M c = fun _ => 0) (ad : List Nat) (rw : Nat → Nat) : ∀ (rs : List (Option (Option Nat))) (k : Nat), (∀ r ∈ rs, r = none ∨ r = some none) → (fvs M c k rs).map (cv ad rw) = rs.map dfl
  | [], k, _ => rfl
  | r :: l, k, h => by
    have h1 := fvs_dfl hM ad rw l (k + 1) (fun r hr => h r (List.mem_cons_of_mem _ hr))
    have h2 : cv ad rw (fv M c k r) = dfl r := by
      rcases h r List.mem_cons_self with rfl | rfl
      · simp [fv, cv, dfl, hM]
      · rfl
    simp only [fvs, List.map_cons, h1, h2]
def allD (rs : List (Option (Option Nat))) : Bool := rs.all (fun r => match r with | none => true | some none => true | some (some _) => false)
theorem allD_of {rs : List (Option (Option Nat))} (h : allD rs = true) : ∀ r ∈ rs, r = none ∨ r = some none := by
  intro r hr
  have := List.all_eq_true.mp h r hr
  rcases r with _ | _ | q
  · exact Or.inl rfl
  · exact Or.inr rfl
  · simp at this
/-- a class that can be made: its number, its fields -/
def NWd (ci : Nat) (rs : List (Option (Option Nat))) : Prop := ∃ (C : String) (T : u_T) (N : Nat) (ty0 : Nat → FieldType), vwCl[ci]? = some (C, T, N) ∧ rs.length = N ∧ (∀ w ∈ u_ws C T N, w ∈ gw) ∧ (∀ k, k < N → parseFieldDescriptor (T k).2.2.1 = some (ty0 k)) ∧ Cond.instantiable C N ∈ gw ∧ Cond.initialized C ∈ gw ∧ (∀ j, j < N → defaultValue (ty0 j) = vp_V (rs.map dfl) j)
section XN
variable {i j : Mi} {F : Fn} {cells slots : Nat} {S : List Ds} {M : Mm} {pc : Nat} {lv : Lv} {st stk : List Value}
theorem x_newo {idx ci : Nat} {C : String} {rs : List (Option (Option Nat))} (nw : NWd ci rs) (hC : (vwCl[ci]?).map (fun x => x.1) = some C) (hw1 : Cond.classLink (mY i).cls idx C ∈ gw) (hd : decode (mC i) pc = .ok (.new idx, 3)) (had : allD rs = true) (hwf : wfS S.length S = true) (hlv : lv.all (okl S.length) = true) (hst : st.all (okv S.length) = true) (hcells : cells + 1 ≤ (mM i).cells) (hslots : slots + rs.length ≤ (mM i).slots)
    (kk : XW i F (cells + 1) (slots + rs.length) (S ++ [.inr (.inr (ci, rs))]) (upr M S.length (fun _ => 0)) (pc + 3) lv (.ref S.length :: st)) : XW i F cells slots S M pc lv st := by
  intro p l e s m args below meth cd D cA rw A ad0 ad H locs ls cx hpre hlen hP hD hS hl
  obtain ⟨C', T, N, ty0, h1, h2, h3, h4, h5, h6, h7⟩ := nw
  rw [h1] at hC
  cases hC
  have hts := cx.2.2.2.2.2.2.2.1
  have hA := cx.2.2.2.2.2.2.2.2.2.1
  refine va_new (D := D) (cl := vwCl) (ws := wl cA ad rw M 0 S) (Ts := gw) (fs := rs.map dfl) cx.1 cx.2.1 hts h3 ty0 h4 cx.2.2.2.2.1 (hts _ hw1) (hts _ h5) (hts _ h6) cx.2.2.2.2.2.2.2.2.1 hP hD hS hA h1 h7 hcells (by rw [← h2]; exact hslots) hd (fun q H1 hP1 hD1 hS1 => ?_)
  have hwl : wl cA ad rw M 0 S ++ [(q, .inr (ci, rs.map dfl))] = wl cA (ad ++ [q]) rw (upr M S.length (fun _ => 0)) 0 (S ++ [.inr (.inr (ci, rs))]) := by
    rw [wl_push _ _ _ hlen hwf]
    simp only [en]
    rw [fvs_dfl (upr_s M S.length _) (ad ++ [q]) rw rs 0 (allD_of had)]
  rw [hwl] at hP1 hD1
  obtain ⟨z, hz⟩ := hpre
  have hk := kk p l e s m args below meth cd D cA rw A ad0 (ad ++ [q]) H1 locs ls cx ⟨z ++ [q], by rw [hz, List.append_assoc]⟩ (by simp [hlen]) hP1 hD1 hS1 (lh_ext hlen hlv hl)
  rw [List.map_cons, cvs_ext [q] rw hlen hst, show cv (ad ++ [q]) rw (.ref S.length) = .ref q by rw [← hlen]; simp [cv, List.getD], h2] at hk
  exact hk
theorem x_newaT {aty : ArrayType} {ty : FieldType} {n : Int32} {N t0 : Nat} (hty : newarray.typeOf aty = ty) (h3 : ty = .int ∨ ty = .byte ∨ ty = .boolean) (hw : Cond.arrayClass ty ∈ gw) (hn : n = nI N) (hN : N ≤ 5000) (hd : decode (mC i) pc = .ok (.newarray aty, 2)) (hwf : wfS S.length S = true) (hlv : lv.all (okl S.length) = true) (hst : st.all (okv S.length) = true) (hcells : cells + 1 ≤ (mM i).cells) (hslots : slots + N ≤ (mM i).slots)
    (kk : XW i F (cells + 1) (slots + N) (S ++ [.inl (ty, N)]) (upr M S.length (fun _ => 0)) (pc + 2) lv (.ref S.length :: st)) : XW i F cells slots S M pc lv (.int n :: st) := by
  intro p l e s m args below meth cd D cA rw A ad0 ad H locs ls cx hpre hlen hP hD hS hl
  subst hn
  have hts := cx.2.2.2.2.2.2.2.1
  have hA := cx.2.2.2.2.2.2.2.2.2.1
  have hK := cx.2.2.2.2.2.2.2.2.1
  refine va_newa (D := D) (cl := vwCl) (ws := wl cA ad rw M 0 S) (tys := ktys cA) (a0 := (N, .inl (fun _ => 0))) cx.1 cx.2.1 (by rw [hty]; exact hts _ hw) hty hK hP hD hS hA (fun c => by rcases h3 with rfl | rfl | rfl <;> rfl) (nI_pos (by omega)) (nI_clamp (by omega)) (by rcases h3 with rfl | rfl | rfl <;> simp [componentBytes] <;> omega) hcells hslots hd (fun q c2 H1 hK1 hP1 hD1 hS1 => ?_)
  have hc2 : c2 = cA ty := by
    have h5 := (hK1.2 5 (c2, ty) rfl).2
    rcases h3 with rfl | rfl | rfl
    · have h0 := (hK.2 0 (cA .int, .int) rfl).2
      exact Option.some.inj (h5.symm.trans h0)
    · have h0 := (hK.2 1 (cA .byte, .byte) rfl).2
      exact Option.some.inj (h5.symm.trans h0)
    · have h0 := (hK.2 2 (cA .boolean, .boolean) rfl).2
      exact Option.some.inj (h5.symm.trans h0)
  subst hc2
  have hwl : wl cA ad rw M 0 S ++ [(q, .inl (cA ty, N, .inl (fun _ => 0)))] = wl cA (ad ++ [q]) rw (upr M S.length (fun _ => 0)) 0 (S ++ [.inl (ty, N)]) := by
    rw [wl_push _ _ _ hlen hwf]
    simp only [en, upr_s]
  rw [hwl] at hP1 hD1
  obtain ⟨z, hz⟩ := hpre
  have hk := kk p l e s m args below meth cd D cA rw A ad0 (ad ++ [q]) H1 locs ls cx ⟨z ++ [q], by rw [hz, List.append_assoc]⟩ (by simp [hlen]) hP1 hD1 hS1 (lh_ext hlen hlv hl)
  rw [List.map_cons, cvs_ext [q] rw hlen hst, show cv (ad ++ [q]) rw (.ref S.length) = .ref q by rw [← hlen]; simp [cv, List.getD]] at hk
  exact hk
theorem x_newq {idx N : Nat} {C : String} {n : Int32} (hC : C = RX6 ∨ C = RX5) (hw1 : Cond.classLink (mY i).cls idx C ∈ gw) (hn : n = nI N) (hN : N ≤ 5000) (hd : decode (mC i) pc = .ok (.anewarray idx, 3)) (hwf : wfS S.length S = true) (hlv : lv.all (okl S.length) = true) (hst : st.all (okv S.length) = true) (hcells : cells + 1 ≤ (mM i).cells) (hslots : slots + N ≤ (mM i).slots)
    (kk : XW i F (cells + 1) (slots + N) (S ++ [.inr (.inl (C, List.replicate N none))]) (upr M S.length (fun _ => 0)) (pc + 3) lv (.ref S.length :: st)) : XW i F cells slots S M pc lv (.int n :: st) := by
  intro p l e s m args below meth cd D cA rw A ad0 ad H locs ls cx hpre hlen hP hD hS hl
  subst hn
  have hts := cx.2.2.2.2.2.2.2.1
  have hA := cx.2.2.2.2.2.2.2.2.2.1
  have hK := cx.2.2.2.2.2.2.2.2.1
  have hG := cx.2.2.2.2.2.2.2.2.2.2
  have hAO : va_AO C s := by
    rcases hC with rfl | rfl
    · exact hG.2.2.2.2.1.1
    · exact hG.2.2.2.2.1.2
  refine va_newq (D := D) (cl := vwCl) (ws := wl cA ad rw M 0 S) (tys := ktys cA) cx.1 cx.2.1 cx.2.2.2.2.1 (hts _ hw1) hAO hK hP hD hS hA (nI_pos (by omega)) (nI_clamp (by omega)) (by omega) hcells hslots hd (fun q c2 H1 hK1 hP1 hD1 hS1 => ?_)
  have hc2 : c2 = cA (.object C) := by
    obtain ⟨-, -, -, -, -, h5⟩ := (hK1.2 5 (c2, .object C) rfl).2
    rcases hC with rfl | rfl
    · obtain ⟨-, -, -, -, -, h0⟩ := (hK.2 3 (cA (.object RX6), .object RX6) rfl).2
      exact Option.some.inj (h5.symm.trans h0)
    · obtain ⟨-, -, -, -, -, h0⟩ := (hK.2 4 (cA (.object RX5), .object RX5) rfl).2
      exact Option.some.inj (h5.symm.trans h0)
  subst hc2
  have hf : (fun i => ((List.replicate N (none : Option Nat)).getD i none).map (fun q' => (ad ++ [q]).getD q' 0)) = (fun _ => none) := by
    funext i
    simp only [List.getD, List.getElem?_replicate]
    split <;> rfl
  have hwl : wl cA ad rw M 0 S ++ [(q, .inl (cA (.object C), N, .inr (.inr (.inr (.inr (fun _ => none))))))] = wl cA (ad ++ [q]) rw (upr M S.length (fun _ => 0)) 0 (S ++ [.inr (.inl (C, List.replicate N none))]) := by
    rw [wl_push _ _ _ hlen hwf]
    simp only [en, List.length_replicate, hf]
  rw [hwl] at hP1 hD1
  obtain ⟨z, hz⟩ := hpre
  have hk := kk p l e s m args below meth cd D cA rw A ad0 (ad ++ [q]) H1 locs ls cx ⟨z ++ [q], by rw [hz, List.append_assoc]⟩ (by simp [hlen]) hP1 hD1 hS1 (lh_ext hlen hlv hl)
  rw [List.map_cons, cvs_ext [q] rw hlen hst, show cv (ad ++ [q]) rw (.ref S.length) = .ref q by rw [← hlen]; simp [cv, List.getD]] at hk
  exact hk
theorem x_aast {c q k ci : Nat} {C : String} {l : List (Option Nat)} {a : Int32} {rs : List (Option (Option Nat))} (hd : decode (mC i) pc = .ok (.aastore, 1)) (ho : lk S c = some (.inr (.inl (C, l)))) (hq : lk S q = some (.inr (.inr (ci, rs)))) (hci : (vwCl[ci]?).map (fun x => x.1) = some C) (ha : a = nI k) (hk : k < l.length) (hn : l.length < 2 ^ 31) (hC : C = RX6 ∨ C = RX5)
    (kk : XW i F cells slots (S.set c (.inr (.inl (C, l.set k (some q))))) M (pc + 1) lv st) : XW i F cells slots S M pc lv (.ref q :: .int a :: .ref c :: st) := by
  intro p l0 e s m args below meth cd D cA rw A ad0 ad H locs ls cx hpre hlen hP hD hS hl
  subst ha
  cases hcl : vwCl[ci]? with
  | none => rw [hcl] at hci; cases hci
  | some r =>
    rw [hcl] at hci
    have hrC : r.1 = C := Option.some.inj hci
    have hup : va_up (fun i => (l.getD i none).map (fun q => ad.getD q 0)) (nI k).toNatClampNeg (some (ad.getD q 0)) = (fun i => ((l.set k (some q)).getD i none).map (fun q => ad.getD q 0)) := by
      rw [nI_clamp (by omega)]
      funext x
      unfold va_up
      by_cases hx : x = k
      · subst hx
        simp [List.getD, hk]
      · simp [List.getD, hx, List.getElem?_set_ne (fun h => hx h.symm)]
    have hw : (wl cA ad rw M 0 S).set c (ad.getD c 0, .inl (cA (.object C), l.length, .inr (.inr (.inr (.inr (va_up (fun i => (l.getD i none).map (fun q => ad.getD q 0)) (nI k).toNatClampNeg (some (ad.getD q 0)))))))) = wl cA ad rw M 0 (S.set c (.inr (.inl (C, l.set k (some q))))) := wl_setS ho (by rw [hup]; simp [en])
    have key := fun t0 ht => va_astq (D := D) (cl := vwCl) (ws := wl cA ad rw M 0 S) (tys := ktys cA) (r := r) (n := l.length) (f := fun i => (l.getD i none).map (fun q => ad.getD q 0)) (Q := F below args s D cA rw A ad0) (rest := st.map (cv ad rw)) (locs := locs) (cells := cells) (slots := slots) (ls := ls) (l := l0) (e := e) (R := mM i) (below := below) (meth := meth) cx.1 cx.2.1 cx.2.2.2.2.2.2.2.2.1 hP hD hS c t0 q ci (wl_lk ho) ht (wl_lk hq) hcl (vp_in_nI hk hn) hd (fun H1 locs1 hP1 hD1 hS1 => by
      rw [hw] at hP1 hD1
      exact kk p l0 e s m args below meth cd D cA rw A ad0 ad H1 locs1 ls cx hpre (by rw [hlen, List.length_set]) hP1 hD1 hS1 hl)
    rcases hC with rfl | rfl
    · exact key 3 (by rw [hrC]; rfl)
    · exact key 4 (by rw [hrC]; rfl)
theorem x_objI {idx c : Nat} (hw1 : Cond.methodLink (mY i).cls idx Lib.objectInit ∈ gw) (hw2 : Cond.instanceMethod Lib.objectInit ∈ gw) (hw3 : Cond.code Lib.objectInit ⟨#[0xb1]⟩ 1 none ∈ gw) (hd : decode (mC i) pc = .ok (.invokespecial idx, 3)) (hR : 1 ≤ (mM i).frames ∧ 8 + 12 ≤ (mM i).locals) (hcat : (st.map fun v => v.category).sum ≤ 8) (kk : XW i F cells slots S M (pc + 3) lv st) : XW i F cells slots S M pc lv (.ref c :: st) := by
  intro p l e s m args below meth cd D cA rw A ad0 ad H locs ls cx hpre hlen hP hD hS hl
  have hts := cx.2.2.2.2.2.2.2.1
  have hrm := lv_room (m := m) (pc := pc) (ls := ls) (rest := (Value.ref c :: st).map (cv ad rw)) (st := st.map (cv ad rw)) (by rw [cat_map]; exact hcat)
  exact W.objInit cx.1 cx.2.1 cx.2.2.2.2.1 (hts _ hw1) (hts _ hw2) (hts _ hw3) rfl (by rw [cx.2.2.1]; exact hl.1) rfl hd hR.1 (Nat.le_trans (Nat.add_le_add_right hrm 12) hR.2) (kk p l e s m args below meth cd D cA rw A ad0 ad H locs ls cx hpre hlen hP hD hS hl)
end XN
