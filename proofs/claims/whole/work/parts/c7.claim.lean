/-! ===== the claim ===== -/
theorem tq {args : Array Value} {s : State} (hts : ∀ w ∈ lw_tbl, w.before args s = true) (n : Nat) {w : Cond} (h : tables_1[n]? = some w) : w.before args s = true := hts w (List.mem_append_right _ (List.mem_of_getElem? h))
def stx (i : Nat) : Nat := [102, 111, 116, 121, 126].getD i 0
theorem start_G {args : Array Value} {s : State} {b : Nat} (hts : ∀ w ∈ lw_tbl, w.before args s = true) (hs : ∀ c ∈ flatC (Jvm.Cond.and given_1 narrow_1), c.before args s = true) : ∃ rw : Nat → Nat, rw 300 = b ∧ Gs rw (fun q => s.heap.size ≤ q) s s.heap := by
  have hA : ∀ a : Nat, a < s.heap.size → ¬ (fun q : Nat => s.heap.size ≤ q) a := fun a h q => absurd h (Nat.not_lt.mpr q)
  obtain ⟨adK, adV, hvs, htm⟩ := vk_Sof (args := args) (s := s) (N := 5) (tm := fun i => Term.string RX8 (stx i)) (len := [4, 4, 4, 4, 4]) (byt := [[103, 114, 105, 100], [103, 111, 110, 101], [99, 111, 115, 116], [115, 105, 122, 101], [115, 101, 101, 110]]) (A := fun q => s.heap.size ≤ q)
    (fun i hi => by rw [len4 hi]; decide)
    (fun i hi => by rcases (show i = 0 ∨ i = 1 ∨ i = 2 ∨ i = 3 ∨ i = 4 by omega) with rfl | rfl | rfl | rfl | rfl <;> exact hs _ (by decide +kernel))
    (fun i hi => by rcases (show i = 0 ∨ i = 1 ∨ i = 2 ∨ i = 3 ∨ i = 4 by omega) with rfl | rfl | rfl | rfl | rfl <;> exact hs _ (by decide +kernel))
    (fun i hi => by rcases (show i = 0 ∨ i = 1 ∨ i = 2 ∨ i = 3 ∨ i = 4 by omega) with rfl | rfl | rfl | rfl | rfl <;> exact hs _ (by decide +kernel))
    (fun i hi => by rcases (show i = 0 ∨ i = 1 ∨ i = 2 ∨ i = 3 ∨ i = 4 by omega) with rfl | rfl | rfl | rfl | rfl <;> exact hs _ (by decide +kernel))
    (fun i hi j hj => by
      rw [len4 hi] at hj
      rcases (show i = 0 ∨ i = 1 ∨ i = 2 ∨ i = 3 ∨ i = 4 by omega) with rfl | rfl | rfl | rfl | rfl <;> rcases (show j = 0 ∨ j = 1 ∨ j = 2 ∨ j = 3 by omega) with rfl | rfl | rfl | rfl <;> exact hs _ (by decide +kernel))
    (fun i j hi hj hij => by
      rcases (show i = 0 ∨ i = 1 ∨ i = 2 ∨ i = 3 ∨ i = 4 by omega) with rfl | rfl | rfl | rfl | rfl <;> rcases (show j = 0 ∨ j = 1 ∨ j = 2 ∨ j = 3 ∨ j = 4 by omega) with rfl | rfl | rfl | rfl | rfl <;> first | exact absurd rfl hij | exact Or.inl (hs _ (by decide +kernel)) | exact Or.inr (hs _ (by decide +kernel)))
    hA
  refine ⟨fun i => if i < 5 then adK i else if i < 105 then adV (i - 100) else b, rfl, ⟨fun i hi => ?_, fun i j hi hj h => ?_⟩, ?_, ?_, ?_, ⟨?_, ?_⟩, ?_⟩
  · have h := hvs.1 i hi
    dsimp only
    rw [if_pos hi, if_neg (by omega), if_pos (by omega), show 100 + i - 100 = i by omega]
    exact h
  · dsimp only at h
    rw [if_pos hi, if_pos hj] at h
    exact hvs.2 i j hi hj h
  · exact ⟨vk_R.of (tq hts 472 (by decide +kernel)) (htm 0 (by decide)), vk_R.of (tq hts 545 (by decide +kernel)) (htm 1 (by decide)), vk_R.of (tq hts 554 (by decide +kernel)) (htm 2 (by decide)), vk_R.of (tq hts 559 (by decide +kernel)) (htm 3 (by decide)), vk_R.of (tq hts 564 (by decide +kernel)) (htm 4 (by decide))⟩
  · exact va_Zof (tq hts 486 (by decide +kernel)) (tq hts 12 (by decide +kernel)) (va_eqt (hs _ (by decide +kernel))) hA
  · exact va_Zqof (tq hts 502 (by decide +kernel)) (tq hts 14 (by decide +kernel)) (hs _ (by decide +kernel)) hA
  · exact va_AO.of (tq hts 333 (by decide +kernel))
  · exact va_AO.of (tq hts 335 (by decide +kernel))
  · intro q hq
    simp only [nestL, List.mem_cons, List.not_mem_nil, or_false] at hq
    rcases hq with rfl | rfl | rfl | rfl | rfl | rfl | rfl | rfl
    · exact va_Nw.of rfl (tq hts 30 (by decide +kernel))
    · exact va_Nw.of rfl (tq hts 90 (by decide +kernel))
    · exact va_Nw.of rfl (tq hts 118 (by decide +kernel))
    · exact va_Nw.of rfl (tq hts 153 (by decide +kernel))
    · exact va_Nw.of rfl (tq hts 199 (by decide +kernel))
    · exact va_Nw.of rfl (tq hts 236 (by decide +kernel))
    · exact va_Nw.of rfl (tq hts 277 (by decide +kernel))
    · exact va_Nw.of rfl (tq hts 305 (by decide +kernel))
theorem start_K {args : Array Value} {s : State} (hts : ∀ w ∈ lw_tbl, w.before args s = true) : ∃ (D : va_G) (cA : FieldType → ClassId), va_K D vwCl (ktys cA) s := by
  have hgw : ∀ w ∈ gw, w.before args s = true := fun w hw => hts w (List.mem_filter.mp hw).1
  obtain ⟨c0, i0, k0⟩ := u_known (C := RX0) (T := TX0) (N := 9) (n := 9) hgw inX0 (hgw _ (tb 198 (by decide +kernel) (by decide +kernel)))
  obtain ⟨c1, i1, k1⟩ := u_known (C := RX1) (T := TX1) (N := 7) (n := 7) hgw inX1 (hgw _ (tb 304 (by decide +kernel) (by decide +kernel)))
  obtain ⟨c2, i2, k2⟩ := u_known (C := RX2) (T := TX2) (N := 12) (n := 12) hgw inX2 (hgw _ (tb 29 (by decide +kernel) (by decide +kernel)))
  obtain ⟨c3, i3, k3⟩ := u_known (C := RX3) (T := TX3) (N := 6) (n := 6) hgw inX3 (hgw _ (tb 276 (by decide +kernel) (by decide +kernel)))
  obtain ⟨c4, i4, k4⟩ := u_known (C := RX4) (T := TX4) (N := 10) (n := 10) hgw inX4 (hgw _ (tb 235 (by decide +kernel) (by decide +kernel)))
  obtain ⟨c5, i5, k5⟩ := u_known (C := RX5) (T := TX5) (N := 2) (n := 2) hgw inX5 (hgw _ (tb 859 (by decide +kernel) (by decide +kernel)))
  obtain ⟨c6, i6, k6⟩ := u_known (C := RX6) (T := TX6) (N := 4) (n := 4) hgw inX6 (hgw _ (tb 89 (by decide +kernel) (by decide +kernel)))
  obtain ⟨c7, i7, k7⟩ := u_known (C := RX7) (T := TX7) (N := 6) (n := 6) hgw inX7 (hgw _ (tb 117 (by decide +kernel) (by decide +kernel)))
  obtain ⟨c8, i8, k8⟩ := u_known (C := RX8) (T := TX8) (N := 12) (n := 12) hgw inX8 (hgw _ (tb 147 (by decide +kernel) (by decide +kernel)))
  obtain ⟨c9, i9, k9⟩ := u_known (C := RX9) (T := TX9) (N := 13) (n := 13) hgw inX9 (hgw _ (tb 21 (by decide +kernel) (by decide +kernel)))
  obtain ⟨c10, i10, k10⟩ := u_known (C := RX10) (T := TX10) (N := 47) (n := 47) hgw inX10 (hgw _ (tb 907 (by decide +kernel) (by decide +kernel)))
  obtain ⟨ai, ki, pi, ai1, ai2, ai3⟩ := Cond.arrayClass_spec (type := .int) (hgw _ ac_int)
  obtain ⟨ab, kb, pb, ab1, ab2, ab3⟩ := Cond.arrayClass_spec (type := .byte) (hgw _ ac_byte)
  obtain ⟨az, kz, pz, az1, az2, az3⟩ := Cond.arrayClass_spec (type := .boolean) (hgw _ ac_boolean)
  obtain ⟨p6, a6, q6, a61, a62, a63, a64, a65⟩ := Cond.arrayOver_spec (n := RX6) (tq hts 333 (by decide +kernel))
  obtain ⟨p5, a5, q5, a51, a52, a53, a54, a55⟩ := Cond.arrayOver_spec (n := RX5) (tq hts 335 (by decide +kernel))
  refine ⟨(fun k => if k = 0 then c0 else if k = 1 then c1 else if k = 2 then c2 else if k = 3 then c3 else if k = 4 then c4 else if k = 5 then c5 else if k = 6 then c6 else if k = 7 then c7 else if k = 8 then c8 else if k = 9 then c9 else c10, fun k => if k = 0 then i0 else if k = 1 then i1 else if k = 2 then i2 else if k = 3 then i3 else if k = 4 then i4 else if k = 5 then i5 else if k = 6 then i6 else if k = 7 then i7 else if k = 8 then i8 else if k = 9 then i9 else i10), (fun ty => if ty = .int then ai else if ty = .byte then ab else if ty = .boolean then az else if ty = .object RX6 then a6 else a5), ?_, ?_⟩
  · intro k q hq
    match k, hq with
    | 0, hq => cases hq; exact k0
    | 1, hq => cases hq; exact k1
    | 2, hq => cases hq; exact k2
    | 3, hq => cases hq; exact k3
    | 4, hq => cases hq; exact k4
    | 5, hq => cases hq; exact k5
    | 6, hq => cases hq; exact k6
    | 7, hq => cases hq; exact k7
    | 8, hq => cases hq; exact k8
    | 9, hq => cases hq; exact k9
    | 10, hq => cases hq; exact k10
    | k + 11, hq => simp [vwCl] at hq
  · intro k q hq
    match k, hq with
    | 0, hq => cases hq; exact ⟨fun N z => ⟨(fun k h => by cases h), ki, ai2, pi, ai3⟩, ai1⟩
    | 1, hq => cases hq; exact ⟨fun N z => ⟨(fun k h => by cases h), kb, ab2, pb, ab3⟩, ab1⟩
    | 2, hq => cases hq; exact ⟨fun N z => ⟨(fun k h => by cases h), kz, az2, pz, az3⟩, az1⟩
    | 3, hq => cases hq; exact ⟨fun N z => ⟨(fun k h => by cases h), q6, a63, p6, a64⟩, q6, p6, a63, a64, a61, a65⟩
    | 4, hq => cases hq; exact ⟨fun N z => ⟨(fun k h => by cases h), q5, a53, p5, a54⟩, q5, p5, a53, a54, a51, a55⟩
    | k + 5, hq => simp [ktys] at hq
theorem whole_start {p : Program} {e : Env} {s : State} {m : MethodId} {below : List Frame} {meth : Method} {c : Code} (hI : Inv Zn [] Mst) (ops : Ops) (l : Launch) {b L : Nat} {xs : Nat → Int32} (hnm : meth.name = "law") (hL : L ≤ 2560) (C0 : lw_At p s m meth c b L xs) : W p l e room_1 s m #[Value.ref b] below meth c s.heap [] 0 0 (lw_Z below #[Value.ref b] s) (entryFrame m ([Value.ref b] : List Value).toArray 4) := by
  obtain ⟨hx, hb, hr, hml, hown, hts, hX, hbl, hlocks, hgv⟩ := id C0
  have hgw : ∀ w ∈ gw, w.before #[Value.ref b] s = true := fun w hw => hts w (List.mem_filter.mp hw).1
  obtain ⟨rw, hrw, hG⟩ := start_G (b := b) hts (flat_of_before _ hgv)
  obtain ⟨D, cA, hK⟩ := start_K hts
  have hl := lv_entry ([.ref b]) (n := 4) (Nat.le_of_ble_eq_true rfl)
  rw [lg_entry_eq]
  have h := start_walk (L := L) (xs := xs) hI ops hL p l e s m #[Value.ref b] below meth c D cA rw (fun q => s.heap.size ≤ q) [] [] s.heap [] _ ⟨hx, hb, hml, hr, hown, hlocks, hnm, hgw, hK, fun _ h => h, hG⟩ ⟨[], rfl⟩ rfl (fun k q h => by simp [wl] at h) ⟨fun i j p q h => by simp [wl] at h, fun k q h => by simp [wl] at h⟩ va_S.rf ⟨hl.1, hl.2.1, fun i v hv => ?_⟩
  · exact W.imp h (fun t ht => ht ⟨by rw [hrw]; exact hX, by rw [hrw]; exact hbl, fun _ h => h, by rw [hrw]⟩)
  · match i, hv with
    | 0, hv =>
      simp only [lk, Option.some.injEq] at hv
      subst hv
      have := hl.2.2 (0, .ref b) (by simp [lv_args])
      simpa [cv, hrw] using this
    | 1, hv => simp [lk] at hv
    | 2, hv => simp [lk] at hv
    | 3, hv => simp [lk] at hv
    | i + 4, hv => simp [lk] at hv
