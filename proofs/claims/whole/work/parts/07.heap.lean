/-! ===== rules of fields, arrays, calls, returns ===== -/
/-- a field's link: class own's entry idx is the field k of class ci, of type ty -/
def FLd (own : String) (idx ci k : Nat) (ty : FieldType) (fin : Bool) : Prop := ∃ (C : String) (T : u_T) (N : Nat) (ty0 : Nat → FieldType), vwCl[ci]? = some (C, T, N) ∧ k < N ∧ Cond.fieldLink own idx (T k).1 (T k).2.1 (T k).2.2.1 ∈ gw ∧ (∀ w ∈ u_ws C T N, w ∈ gw) ∧ (∀ k, k < N → parseFieldDescriptor (T k).2.2.1 = some (ty0 k)) ∧ (∀ a, a < N → ∀ b, b < N → a ≠ b → (T a).2.1 ≠ (T b).2.1) ∧ ty0 k = ty ∧ (T k).2.2.2 = fin ∧ (T k).1 = C
theorem fvs_v {M : Mm} {c : Nat} {rs : List (Option (Option Nat))} {k : Nat} {r : Option (Option Nat)} (h : lk rs k = some r) (ad : List Nat) (rw : Nat → Nat) : ((fvs M c 0 rs).map (cv ad rw))[k]? = some (cv ad rw (fv M c k r)) := by
  rw [lk_eq] at h
  rw [List.getElem?_map, fvs_at, h]
  simp
theorem fvs_put {M : Mm} {c : Nat} {rs : List (Option (Option Nat))} {k : Nat} (h : lk rs k = some none) (v : Int32) (ad : List Nat) (rw : Nat → Nat) : ((fvs M c 0 rs).map (cv ad rw)).set k (.int v) = (fvs (up2 M c k v) c 0 rs).map (cv ad rw) := by
  rw [lk_eq] at h
  apply List.ext_getElem?
  intro j
  by_cases hj : j = k
  · subst hj
    have hl : j < ((fvs M c 0 rs).map (cv ad rw)).length := by rw [List.length_map, fvs_len]; exact (List.getElem?_eq_some_iff.mp h).1
    rw [List.getElem?_set_self hl, List.getElem?_map, fvs_at, h]
    simp [fv, cv, up2_s, upd]
  · rw [List.getElem?_set_ne (fun q => hj q.symm), List.getElem?_map, List.getElem?_map, fvs_at, fvs_at]
    cases hr : rs[j]? with
    | none => rfl
    | some r =>
      rcases r with _ | _ | q
      · simp [fv, up2_s, upd, hj]
      · simp [fv]
      · simp [fv]
theorem fvs_putS {M : Mm} {c : Nat} {rs : List (Option (Option Nat))} {k : Nat} {r0 : Option (Option Nat)} (h : lk rs k = some r0) (r : Option Nat) (ad : List Nat) (rw : Nat → Nat) : ((fvs M c 0 rs).map (cv ad rw)).set k (cv ad rw (fv M c k (some r))) = (fvs M c 0 (rs.set k (some r))).map (cv ad rw) := by
  rw [lk_eq] at h
  have hk := (List.getElem?_eq_some_iff.mp h).1
  apply List.ext_getElem?
  intro j
  by_cases hj : j = k
  · subst hj
    have hl : j < ((fvs M c 0 rs).map (cv ad rw)).length := by rw [List.length_map, fvs_len]; exact hk
    rw [List.getElem?_set_self hl, List.getElem?_map, fvs_at, List.getElem?_set_self hk]
    simp
  · rw [List.getElem?_set_ne (fun q => hj q.symm), List.getElem?_map, List.getElem?_map, fvs_at, fvs_at, List.getElem?_set_ne (fun q => hj q.symm)]
section XH
variable {i : Mi} {F : Fn} {cells slots : Nat} {S : List Ds} {M : Mm} {pc : Nat} {lv : Lv} {st : List Value}
theorem x_get {idx ci k c : Nat} {ty : FieldType} {fin : Bool} {rs : List (Option (Option Nat))} {r : Option (Option Nat)} {v : Value} (fl : FLd (mY i).cls idx ci k ty fin) (hd : decode (mC i) pc = .ok (.getfield idx, 3)) (ho : lk S c = some (.inr (.inr (ci, rs)))) (hr : lk rs k = some r) (hv : fv M c k r = v)
    (kk : XW i F cells slots S M (pc + 3) lv (v :: st)) : XW i F cells slots S M pc lv (.ref c :: st) := by
  intro p l e s m args below meth cd D cA rw A ad0 ad H locs ls cx hpre hlen hP hD hS hl
  obtain ⟨C, T, N, ty0, h1, h2, h3, h4, h5, h6, h7, h8, h9⟩ := fl
  subst hv
  exact va_get (D := D) (cl := vwCl) (ws := wl cA ad rw M 0 S) (Ts := gw) cx.1 cx.2.1 cx.2.2.2.2.2.2.2.1 h4 cx.2.2.2.2.1 cx.2.2.2.2.2.2.2.2.1 hP c (wl_lk ho) h1 k h2 (cx.2.2.2.2.2.2.2.1 _ h3) (fun _ q => q) (fvs_v hr ad rw) hd (kk p l e s m args below meth cd D cA rw A ad0 ad H locs ls cx hpre hlen hP hD hS hl)
theorem x_put {idx ci k c : Nat} {ty : FieldType} {v : Int32} {rs : List (Option (Option Nat))} (fl : FLd (mY i).cls idx ci k ty false) (hd : decode (mC i) pc = .ok (.putfield idx, 3)) (ho : lk S c = some (.inr (.inr (ci, rs)))) (hr : lk rs k = some none) (hn : narrow ty (.int v) = .int v) (hf : fits ty (.int v) = true)
    (kk : XW i F cells slots S (up2 M c k v) (pc + 3) lv st) : XW i F cells slots S M pc lv (.int v :: .ref c :: st) := by
  intro p l e s m args below meth cd D cA rw A ad0 ad H locs ls cx hpre hlen hP hD hS hl
  obtain ⟨C, T, N, ty0, h1, h2, h3, h4, h5, h6, h7, h8, h9⟩ := fl
  have hw : (wl cA ad rw M 0 S).set c (ad.getD c 0, .inr (ci, ((fvs M c 0 rs).map (cv ad rw)).set k (.int v))) = wl cA ad rw (up2 M c k v) 0 S := wl_set ho (fun j hj => up2_n M v hj) (by rw [fvs_put hr]; rfl)
  refine va_put (D := D) (cl := vwCl) (ws := wl cA ad rw M 0 S) (Ts := gw) (v := .int v) (ty := ty) cx.1 cx.2.1 cx.2.2.2.2.2.2.2.1 h4 ty0 h5 h6 cx.2.2.2.2.1 cx.2.2.2.2.2.2.2.2.1 hP hD hS c (wl_lk ho) h1 k h2 (cx.2.2.2.2.2.2.2.1 _ h3) (fun _ q => q) h8 (by rw [h5 k h2, h7]) hn hf ?_ hd (fun H1 locs1 hP1 hD1 hS1 => ?_)
  · rw [List.length_map, fvs_len]
    rw [lk_eq] at hr
    exact (List.getElem?_eq_some_iff.mp hr).1
  · rw [hw] at hP1 hD1
    exact kk p l e s m args below meth cd D cA rw A ad0 ad H1 locs1 ls cx hpre hlen hP1 hD1 hS1 hl
/-- a reference into a final field, in a constructor -/
theorem x_putF {idx ci k c q : Nat} {ty : FieldType} {rs : List (Option (Option Nat))} {r0 : Option (Option Nat)} (fl : FLd (mY i).cls idx ci k ty true) (hin : (mY i).name = "<init>") (hcl : (vwCl[ci]?).map (fun x => x.1) = some (mY i).cls) (hd : decode (mC i) pc = .ok (.putfield idx, 3)) (ho : lk S c = some (.inr (.inr (ci, rs)))) (hr : lk rs k = some r0) (hn : ∀ a, narrow ty (.ref a) = .ref a) (hf : ∀ a, fits ty (.ref a) = true)
    (kk : XW i F cells slots (S.set c (.inr (.inr (ci, rs.set k (some (some q)))))) M (pc + 3) lv st) : XW i F cells slots S M pc lv (.ref q :: .ref c :: st) := by
  intro p l e s m args below meth cd D cA rw A ad0 ad H locs ls cx hpre hlen hP hD hS hl
  obtain ⟨C, T, N, ty0, h1, h2, h3, h4, h5, h6, h7, h8, h9⟩ := fl
  have hw : (wl cA ad rw M 0 S).set c (ad.getD c 0, .inr (ci, ((fvs M c 0 rs).map (cv ad rw)).set k (.ref (ad.getD q 0)))) = wl cA ad rw M 0 (S.set c (.inr (.inr (ci, rs.set k (some (some q)))))) := wl_setS ho (by rw [show Value.ref (ad.getD q 0) = cv ad rw (fv M c k (some (some q))) from rfl, fvs_putS hr]; rfl)
  refine va_putF (D := D) (cl := vwCl) (ws := wl cA ad rw M 0 S) (Ts := gw) (v := .ref (ad.getD q 0)) (ty := ty) cx.1 cx.2.1 cx.2.2.2.2.2.2.2.1 h4 ty0 h5 h6 cx.2.2.2.2.1 cx.2.2.2.2.2.2.2.2.1 hP hD hS c (wl_lk ho) h1 k h2 (cx.2.2.2.2.2.2.2.1 _ h3) (fun _ q => q) h8 (by rw [cx.2.2.2.2.2.2.1]; exact hin) (by rw [h9]; rw [h1] at hcl; exact Option.some.inj hcl) (by rw [h5 k h2, h7]) (hn _) (hf _) ?_ hd (fun H1 locs1 hP1 hD1 hS1 => ?_)
  · rw [List.length_map, fvs_len]
    rw [lk_eq] at hr
    exact (List.getElem?_eq_some_iff.mp hr).1
  · rw [hw] at hP1 hD1
    exact kk p l e s m args below meth cd D cA rw A ad0 ad H1 locs1 ls cx hpre (by rw [hlen, List.length_set]) hP1 hD1 hS1 hl
/-- an int into a final field, in a constructor -/
theorem x_putFi {idx ci k c : Nat} {ty : FieldType} {v : Int32} {rs : List (Option (Option Nat))} (fl : FLd (mY i).cls idx ci k ty true) (hin : (mY i).name = "<init>") (hcl : (vwCl[ci]?).map (fun x => x.1) = some (mY i).cls) (hd : decode (mC i) pc = .ok (.putfield idx, 3)) (ho : lk S c = some (.inr (.inr (ci, rs)))) (hr : lk rs k = some none) (hn : narrow ty (.int v) = .int v) (hf : fits ty (.int v) = true)
    (kk : XW i F cells slots S (up2 M c k v) (pc + 3) lv st) : XW i F cells slots S M pc lv (.int v :: .ref c :: st) := by
  intro p l e s m args below meth cd D cA rw A ad0 ad H locs ls cx hpre hlen hP hD hS hl
  obtain ⟨C, T, N, ty0, h1, h2, h3, h4, h5, h6, h7, h8, h9⟩ := fl
  have hw : (wl cA ad rw M 0 S).set c (ad.getD c 0, .inr (ci, ((fvs M c 0 rs).map (cv ad rw)).set k (.int v))) = wl cA ad rw (up2 M c k v) 0 S := wl_set ho (fun j hj => up2_n M v hj) (by rw [fvs_put hr]; rfl)
  refine va_putF (D := D) (cl := vwCl) (ws := wl cA ad rw M 0 S) (Ts := gw) (v := .int v) (ty := ty) cx.1 cx.2.1 cx.2.2.2.2.2.2.2.1 h4 ty0 h5 h6 cx.2.2.2.2.1 cx.2.2.2.2.2.2.2.2.1 hP hD hS c (wl_lk ho) h1 k h2 (cx.2.2.2.2.2.2.2.1 _ h3) (fun _ q => q) h8 (by rw [cx.2.2.2.2.2.2.1]; exact hin) (by rw [h9]; rw [h1] at hcl; exact Option.some.inj hcl) (by rw [h5 k h2, h7]) hn hf ?_ hd (fun H1 locs1 hP1 hD1 hS1 => ?_)
  · rw [List.length_map, fvs_len]
    rw [lk_eq] at hr
    exact (List.getElem?_eq_some_iff.mp hr).1
  · rw [hw] at hP1 hD1
    exact kk p l e s m args below meth cd D cA rw A ad0 ad H1 locs1 ls cx hpre hlen hP1 hD1 hS1 hl
theorem x_iald {n c q : Nat} {a : Int32} (hd : decode (mC i) pc = .ok (.iaload, 1)) (ho : lk S c = some (.inl (.int, n))) (ha : a = nI q) (hq : q < n) (hn : n < 2 ^ 31) (kk : XW i F cells slots S M (pc + 1) lv (.int (M c q) :: st)) : XW i F cells slots S M pc lv (.int a :: .ref c :: st) := by
  intro p l e s m args below meth cd D cA rw A ad0 ad H locs ls cx hpre hlen hP hD hS hl
  subst ha
  refine va_iald (D := D) (cl := vwCl) (ws := wl cA ad rw M 0 S) (tys := ktys cA) (cA := cA .int) (n := n) (f := M c) cx.1 cx.2.1 cx.2.2.2.2.2.2.2.2.1 hP c 0 (wl_lk ho) rfl (vp_in_nI hq hn) hd ?_
  rw [nI_clamp (by omega)]
  exact kk p l e s m args below meth cd D cA rw A ad0 ad H locs ls cx hpre hlen hP hD hS hl
theorem x_bald {n c q : Nat} {a : Int32} (hd : decode (mC i) pc = .ok (.baload, 1)) (ho : lk S c = some (.inl (.byte, n))) (ha : a = nI q) (hq : q < n) (hn : n < 2 ^ 31) (kk : XW i F cells slots S M (pc + 1) lv (.int (M c q) :: st)) : XW i F cells slots S M pc lv (.int a :: .ref c :: st) := by
  intro p l e s m args below meth cd D cA rw A ad0 ad H locs ls cx hpre hlen hP hD hS hl
  subst ha
  refine va_bald (D := D) (cl := vwCl) (ws := wl cA ad rw M 0 S) (tys := ktys cA) (cA := cA .byte) (n := n) (f := M c) cx.1 cx.2.1 cx.2.2.2.2.2.2.2.2.1 hP c 1 (wl_lk ho) rfl (vp_in_nI hq hn) hd ?_
  rw [nI_clamp (by omega)]
  exact kk p l e s m args below meth cd D cA rw A ad0 ad H locs ls cx hpre hlen hP hD hS hl
theorem x_zald {n c q : Nat} {a : Int32} (hd : decode (mC i) pc = .ok (.baload, 1)) (ho : lk S c = some (.inl (.boolean, n))) (ha : a = nI q) (hq : q < n) (hn : n < 2 ^ 31) (kk : XW i F cells slots S M (pc + 1) lv (.int (M c q) :: st)) : XW i F cells slots S M pc lv (.int a :: .ref c :: st) := by
  intro p l e s m args below meth cd D cA rw A ad0 ad H locs ls cx hpre hlen hP hD hS hl
  subst ha
  refine va_zald (D := D) (cl := vwCl) (ws := wl cA ad rw M 0 S) (tys := ktys cA) (cA := cA .boolean) (n := n) (f := M c) cx.1 cx.2.1 cx.2.2.2.2.2.2.2.2.1 hP c 2 (wl_lk ho) rfl (vp_in_nI hq hn) hd ?_
  rw [nI_clamp (by omega)]
  exact kk p l e s m args below meth cd D cA rw A ad0 ad H locs ls cx hpre hlen hP hD hS hl
theorem x_iast {n c q : Nat} {a v : Int32} (hd : decode (mC i) pc = .ok (.iastore, 1)) (ho : lk S c = some (.inl (.int, n))) (ha : a = nI q) (hq : q < n) (hn : n < 2 ^ 31) (kk : XW i F cells slots S (up2 M c q v) (pc + 1) lv st) : XW i F cells slots S M pc lv (.int v :: .int a :: .ref c :: st) := by
  intro p l e s m args below meth cd D cA rw A ad0 ad H locs ls cx hpre hlen hP hD hS hl
  subst ha
  refine va_iast (D := D) (cl := vwCl) (ws := wl cA ad rw M 0 S) (tys := ktys cA) (cA := cA .int) (n := n) (f := M c) cx.1 cx.2.1 cx.2.2.2.2.2.2.2.2.1 hP hD hS c 0 (wl_lk ho) rfl (vp_in_nI hq hn) hd (fun H1 locs1 hP1 hD1 hS1 => ?_)
  rw [nI_clamp (by omega)] at hP1 hD1
  rw [wl_set (M' := up2 M c q v) ho (fun j hj => up2_n M v hj) (by simp [en, up2_s])] at hP1 hD1
  exact kk p l e s m args below meth cd D cA rw A ad0 ad H1 locs1 ls cx hpre hlen hP1 hD1 hS1 hl
theorem x_bast {n c q : Nat} {a v : Int32} (hd : decode (mC i) pc = .ok (.bastore, 1)) (ho : lk S c = some (.inl (.byte, n))) (ha : a = nI q) (hq : q < n) (hn : n < 2 ^ 31) (kk : XW i F cells slots S (up2 M c q v.toInt8.toInt32) (pc + 1) lv st) : XW i F cells slots S M pc lv (.int v :: .int a :: .ref c :: st) := by
  intro p l e s m args below meth cd D cA rw A ad0 ad H locs ls cx hpre hlen hP hD hS hl
  subst ha
  refine va_bast (D := D) (cl := vwCl) (ws := wl cA ad rw M 0 S) (tys := ktys cA) (cA := cA .byte) (n := n) (f := M c) cx.1 cx.2.1 cx.2.2.2.2.2.2.2.2.1 hP hD hS c 1 (wl_lk ho) rfl (vp_in_nI hq hn) hd (fun H1 locs1 hP1 hD1 hS1 => ?_)
  rw [nI_clamp (by omega)] at hP1 hD1
  rw [wl_set (M' := up2 M c q v.toInt8.toInt32) ho (fun j hj => up2_n M _ hj) (by simp [en, up2_s, vp_nar_byte])] at hP1 hD1
  exact kk p l e s m args below meth cd D cA rw A ad0 ad H1 locs1 ls cx hpre hlen hP1 hD1 hS1 hl
theorem x_zast {n c q : Nat} {a v : Int32} (hd : decode (mC i) pc = .ok (.bastore, 1)) (ho : lk S c = some (.inl (.boolean, n))) (ha : a = nI q) (hq : q < n) (hn : n < 2 ^ 31) (kk : XW i F cells slots S (up2 M c q (vp_nar .boolean v)) (pc + 1) lv st) : XW i F cells slots S M pc lv (.int v :: .int a :: .ref c :: st) := by
  intro p l e s m args below meth cd D cA rw A ad0 ad H locs ls cx hpre hlen hP hD hS hl
  subst ha
  refine va_zast (D := D) (cl := vwCl) (ws := wl cA ad rw M 0 S) (tys := ktys cA) (cA := cA .boolean) (n := n) (f := M c) cx.1 cx.2.1 cx.2.2.2.2.2.2.2.2.1 hP hD hS c 2 (wl_lk ho) rfl (vp_in_nI hq hn) hd (fun H1 locs1 hP1 hD1 hS1 => ?_)
  rw [nI_clamp (by omega)] at hP1 hD1
  rw [wl_set (M' := up2 M c q (vp_nar .boolean v)) ho (fun j hj => up2_n M _ hj) (by simp [en, up2_s])] at hP1 hD1
  exact kk p l e s m args below meth cd D cA rw A ad0 ad H1 locs1 ls cx hpre hlen hP1 hD1 hS1 hl
theorem x_alen {n c : Nat} {v : Int32} {ty : FieldType} (hd : decode (mC i) pc = .ok (.arraylength, 1)) (hty : ty = .int ∨ ty = .byte ∨ ty = .boolean) (ho : lk S c = some (.inl (ty, n))) (hv : v = nI n) (kk : XW i F cells slots S M (pc + 1) lv (.int v :: st)) : XW i F cells slots S M pc lv (.ref c :: st) := by
  intro p l e s m args below meth cd D cA rw A ad0 ad H locs ls cx hpre hlen hP hD hS hl
  subst hv
  rcases hty with rfl | rfl | rfl
  · exact va_alen (D := D) (cl := vwCl) (ws := wl cA ad rw M 0 S) (tys := ktys cA) (v := nI n) cx.1 cx.2.1 cx.2.2.2.2.2.2.2.2.1 hP c 0 (wl_lk ho) rfl rfl hd (kk p l e s m args below meth cd D cA rw A ad0 ad H locs ls cx hpre hlen hP hD hS hl)
  · exact va_alen (D := D) (cl := vwCl) (ws := wl cA ad rw M 0 S) (tys := ktys cA) (v := nI n) cx.1 cx.2.1 cx.2.2.2.2.2.2.2.2.1 hP c 1 (wl_lk ho) rfl rfl hd (kk p l e s m args below meth cd D cA rw A ad0 ad H locs ls cx hpre hlen hP hD hS hl)
  · exact va_alen (D := D) (cl := vwCl) (ws := wl cA ad rw M 0 S) (tys := ktys cA) (v := nI n) cx.1 cx.2.1 cx.2.2.2.2.2.2.2.2.1 hP c 2 (wl_lk ho) rfl rfl hd (kk p l e s m args below meth cd D cA rw A ad0 ad H locs ls cx hpre hlen hP hD hS hl)
/-- returns -/
theorem x_iret {post : Option Value → List Ds → Mm → Prop} {v : Int32} (hd : decode (mC i) pc = .ok (.ireturn, 1)) {ty : FieldType} (hr : mR i = some ty) (hn : narrow ty (.int v) = .int v) (hc : cells ≤ (mM i).cells) (hs : slots ≤ (mM i).slots) (hp : post (some (.int v)) S M) : XW i (Fc i post) cells slots S M pc lv [.int v] := by
  intro p l e s m args below meth c D cA rw A ad0 ad H locs ls cx hpre hlen hP hD hS hl
  refine W.widen hc hs ?_
  exact W.zret (v := v) cx.1 cx.2.1 (cx.2.2.2.1.trans hr) hn (fun t ht hW => ⟨⟨some (.int v), S, M, ad, rfl, hp, hpre, hlen, by rw [ht]; exact hP, hD⟩, hS.F ht⟩) hS.2.2 hd cx.2.2.2.2.2.1
theorem x_lret {post : Option Value → List Ds → Mm → Prop} {v : Int64} (hd : decode (mC i) pc = .ok (.lreturn, 1)) (hr : mR i = some .long) (hc : cells ≤ (mM i).cells) (hs : slots ≤ (mM i).slots) (hp : post (some (.long v)) S M) : XW i (Fc i post) cells slots S M pc lv [.long v] := by
  intro p l e s m args below meth c D cA rw A ad0 ad H locs ls cx hpre hlen hP hD hS hl
  refine W.widen hc hs ?_
  exact W.lret (v := v) cx.1 cx.2.1 (cx.2.2.2.1.trans hr) (fun t ht hW => ⟨⟨some (.long v), S, M, ad, rfl, hp, hpre, hlen, by rw [ht]; exact hP, hD⟩, hS.F ht⟩) hS.2.2 hd cx.2.2.2.2.2.1
theorem x_ret {post : Option Value → List Ds → Mm → Prop} (hd : decode (mC i) pc = .ok (.return_, 1)) (hr : mR i = none) (hc : cells ≤ (mM i).cells) (hs : slots ≤ (mM i).slots) (hp : post none S M) : XW i (Fc i post) cells slots S M pc lv [] := by
  intro p l e s m args below meth c D cA rw A ad0 ad H locs ls cx hpre hlen hP hD hS hl
  refine W.widen hc hs ?_
  exact W.vret cx.1 cx.2.1 (cx.2.2.2.1.trans hr) (fun t ht hW => ⟨⟨none, S, M, ad, rfl, hp, hpre, hlen, by rw [ht]; exact hP, hD⟩, hS.F ht⟩) hS.2.2 hd cx.2.2.2.2.2.1
end XH
