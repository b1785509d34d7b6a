/-! ===== calls that answer alike: the frame ===== -/
theorem scr_hi {c k : Nat} (h : 68 ≤ c) : scr c k = false := by
  have e1 : decide (c = 48) = false := decide_eq_false (by omega)
  have e2 : decide (c ≤ 56) = false := decide_eq_false (by omega)
  have e3 : decide (c ≤ 67) = false := decide_eq_false (by omega)
  have e4 : decide (c = 13) = false := decide_eq_false (by omega)
  have e5 : decide (c = 15) = false := decide_eq_false (by omega)
  have e6 : decide (c ≤ 36) = false := decide_eq_false (by omega)
  unfold scr
  rw [e1, e2, e3, e4, e5, e6]
  simp
theorem ImE.eqm {mt t o : Nat} {M M' : Mm} (h : ImE mt t o M) (hE : Eqm M M') (ht : ∀ k, scr t k = false) (ht1 : ∀ k, scr (t + 1) k = false) (ht2 : ∀ k, scr (t + 2) k = false) : ImE mt t o M' := by
  have e49 : M' 49 = M 49 := funext fun k => hE 49 k rfl
  have et : M' t = M t := funext fun k => hE t k (ht k)
  have et1 : M' (t + 1) = M (t + 1) := funext fun k => hE (t + 1) k (ht1 k)
  have et2 : M' (t + 2) = M (t + 2) := funext fun k => hE (t + 2) k (ht2 k)
  unfold ImE
  rw [e49, et, et1, et2]
  exact h
theorem Inv.eqm {Z : List (Option Nat)} {ext : List Ds} {M M' : Mm} (h : Inv Z ext M) (hE : Eqm M M') : Inv Z ext M' := by
  obtain ⟨w, hh, n, k0, k1, hwh, hG, hT, hI, hP, hS, hF1, hF2, hF3⟩ := h
  refine ⟨w, hh, n, k0, k1, hwh, ?_, hT.eqm hE (fun _ => rfl) (fun _ => rfl) (fun _ => rfl), ?_, ?_, ?_, ?_, ?_, ?_⟩
  · unfold GrI at hG ⊢
    rw [hE 1 0 rfl, hE 1 1 rfl, hE 1 2 rfl, hE 1 3 rfl, hE 48 2 rfl, hE 48 3 rfl, hE 48 4 rfl, hE 48 5 rfl]
    obtain ⟨g1, g2, g3, g4, g5⟩ := hG
    refine ⟨g1, g2, fun q hq => ?_, fun s h1 h2 => ?_, fun m hm => ?_⟩
    · rw [hE 2 q rfl, hE 3 q rfl, hE 4 q rfl, hE 5 q rfl, hE 51 q rfl, hE 52 q rfl, hE 53 q rfl, hE 54 q rfl]; exact g3 q hq
    · rw [hE 6 s rfl]; exact g4 s h1 h2
    · rw [hE 7 m rfl, hE 8 m rfl, hE 9 m rfl]; exact g5 m hm
  · obtain ⟨i1, i2, i3, i4, i5⟩ := hI
    refine ⟨?_, ?_, ?_, fun q => (i4 q).eqm hE (fun _ => rfl) (fun _ => rfl) (fun _ => rfl), fun q => (i5 q).eqm hE (fun _ => rfl) (fun _ => rfl) (fun _ => rfl)⟩
    · rw [hE 0 11 rfl]; exact i1
    · rw [hE 50 0 rfl]; exact i2
    · rw [hE 50 1 rfl]; exact i3
  · obtain ⟨p1, p2, p3, p4⟩ := hP
    refine ⟨p1, by rw [hE 13 1 rfl]; exact p2, by rw [hE 48 19 rfl]; exact p3, fun k hk => by rw [hE 14 k rfl, hE 57 k rfl]; exact p4 k hk⟩
  · obtain ⟨s1, s2, s3, s4⟩ := hS
    refine ⟨s1, s2, fun k hk => ?_, s4⟩
    rw [hE 68 k rfl, hE 69 k rfl]
    rcases s3 k hk with h | ⟨c, z, c1, c2, c3, c4, c5, c6⟩
    · exact Or.inl h
    · exact Or.inr ⟨c, z, c1, c2, by rw [hE c 0 (scr_hi (by omega))]; exact c3, c4, c5, fun i hi => by rw [hE (c + 1) i (scr_hi (by omega)), hE 70 _ rfl]; exact c6 i hi⟩
  · rw [hE 15 5 rfl, hE 48 24 rfl]; exact hF1
  · rw [hE 0 12 rfl, hE 48 46 rfl]; exact hF2
  · intro k hk; rw [hE 40 k rfl]; exact hF3 k hk
theorem op_rt {cm rm : Mi} {args : List Value} {Z : List (Option Nat)} {ext : List Ds} {M M1 M2 : Mm} {v vr : Int32} (hc : Ct cm (.ref 0 :: args) (SS Z ext) M (Rt (some (.int v)) M1)) (hr : Ct rm (.ref 48 :: args) (SS Z ext) M1 (Rt (some (.int vr)) M2)) (h : vr = v) (hI : Inv Z ext M2) : OpI cm rm args Z ext M :=
  ⟨v, Ct.imp hc (fun r M1' q => ⟨q.1, by rw [q.2]; exact Ct.imp hr (fun r2 M2' q2 => ⟨by rw [q2.1, h], by rw [q2.2]; exact hI⟩)⟩)⟩
theorem op_pure {cm rm : Mi} {args : List Value} {Z : List (Option Nat)} {ext : List Ds} {M : Mm} {v vr : Int32} (hI : Inv Z ext M) (hc : Ct cm (.ref 0 :: args) (SS Z ext) M (Rt (some (.int v)) M)) (hr : Ct rm (.ref 48 :: args) (SS Z ext) M (Rt (some (.int vr)) M)) (h : vr = v) : OpI cm rm args Z ext M := op_rt hc hr h hI
/-- both search: only what no later call reads is changed -/
theorem op_eq {cm rm : Mi} {args : List Value} {Z : List (Option Nat)} {ext : List Ds} {M : Mm} {v : Int32} (hI : Inv Z ext M) (hc : Ct cm (.ref 0 :: args) (SS Z ext) M (fun r M' => r = some (.int v) ∧ Eqm M M')) (hr : ∀ M1, Inv Z ext M1 → Eqm M M1 → Ct rm (.ref 48 :: args) (SS Z ext) M1 (fun r M' => r = some (.int v) ∧ Eqm M1 M')) : OpI cm rm args Z ext M :=
  ⟨v, Ct.imp hc (fun r M1 q => ⟨q.1, Ct.imp (hr M1 (hI.eqm q.2) q.2) (fun r2 M2 q2 => ⟨q2.1, (hI.eqm q.2).eqm q2.2⟩)⟩)⟩
theorem op_eqL {cm rm : Mi} {args : List Value} {Z : List (Option Nat)} {ext : List Ds} {M : Mm} {v : Int64} (hI : Inv Z ext M) (hc : Ct cm (.ref 0 :: args) (SS Z ext) M (fun r M' => r = some (.long v) ∧ Eqm M M')) (hr : ∀ M1, Inv Z ext M1 → Eqm M M1 → Ct rm (.ref 48 :: args) (SS Z ext) M1 (fun r M' => r = some (.long v) ∧ Eqm M1 M')) : OpL cm rm args Z ext M :=
  ⟨v, Ct.imp hc (fun r M1 q => ⟨q.1, Ct.imp (hr M1 (hI.eqm q.2) q.2) (fun r2 M2 q2 => ⟨q2.1, (hI.eqm q.2).eqm q2.2⟩)⟩)⟩
theorem Ct.eq0 {i : Mi} {avs : List Value} {S : List Ds} {M : Mm} {v : Option Value} (h : Ct i avs S M (Rt v M)) : Ct i avs S M (fun r M' => r = v ∧ Eqm M M') := Ct.imp h (fun r M' q => ⟨q.1, by rw [q.2]; exact Eqm.rf M⟩)
/-! ===== facts of the twelve grids ===== -/
theorem gr_all {P : Nat → Nat → Prop} (h11 : P 1 1) (h12 : P 1 2) (h13 : P 1 3) (h21 : P 2 1) (h22 : P 2 2) (h23 : P 2 3) (h31 : P 3 1) (h32 : P 3 2) (h33 : P 3 3) (h41 : P 4 1) (h42 : P 4 2) (h43 : P 4 3) {w h : Nat} (hw : 1 ≤ w ∧ w ≤ 4 ∧ 1 ≤ h ∧ h ≤ 3) : P w h := by
  rcases (show w = 1 ∨ w = 2 ∨ w = 3 ∨ w = 4 by omega) with rfl | rfl | rfl | rfl <;> rcases (show h = 1 ∨ h = 2 ∨ h = 3 by omega) with rfl | rfl | rfl <;> assumption
def twOk (w h : Nat) : Bool := decide (sqN w h ≤ 20) && decide (1 ≤ mtN w h) && decide (mtN w h ≤ 31) && (List.range (sqN w h)).all (fun q => (decide (szF w h q = nI 1) || decide (szF w h q = nI 2) || decide (szF w h q = nI 3))) && (List.range 4).all (fun s => decide (s = 0) || (List.range 32).all (fun q => bi (ofF w h s) q == (decide (q < sqN w h) && decide (szF w h q = nI s)))) && (List.range (sqN w h)).all (fun q => (List.range 32).all (fun i => !bi (rmF w h q) i || decide (i < mtN w h)) && decide (pc (rmF w h q) ≤ 12) && decide (1 ≤ pc (rmF w h q)))
theorem tw_ok {w h : Nat} (hw : 1 ≤ w ∧ w ≤ 4 ∧ 1 ≤ h ∧ h ≤ 3) : twOk w h = true := gr_all (P := fun w h => twOk w h = true) (by decide +kernel) (by decide +kernel) (by decide +kernel) (by decide +kernel) (by decide +kernel) (by decide +kernel) (by decide +kernel) (by decide +kernel) (by decide +kernel) (by decide +kernel) (by decide +kernel) (by decide +kernel) hw
