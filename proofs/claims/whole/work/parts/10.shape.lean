/-! ===== the shape of the world: 48 cells of the class, 23 of the reference, then the sheets ===== -/
def SS (Z : List (Option Nat)) (ext : List Ds) : List Ds :=
  .inr (.inr (9, [some (some 1), some (some 10), some (some 13), some (some 15), some (some 19), some (some 24), some (some 29), some (some 33), some (some 37), some (some 38), some (some 39), none, none])) ::
  .inr (.inr (2, [none, none, none, none, some (some 2), some (some 3), some (some 4), some (some 5), some (some 6), some (some 7), some (some 8), some (some 9)])) ::
  .inl (.int, 20) ::
  .inl (.int, 20) ::
  .inl (.int, 20) ::
  .inl (.int, 20) ::
  .inl (.int, 4) ::
  .inl (.int, 31) ::
  .inl (.int, 31) ::
  .inl (.int, 31) ::
  .inr (.inr (6, [none, none, some (some 11), some (some 12)])) ::
  .inl (.int, 31) ::
  .inl (.int, 4) ::
  .inr (.inr (7, [some (some 14), none, none, none, none, none])) ::
  .inl (.byte, 320) ::
  .inr (.inr (8, [some (some 13), some (some 16), none, none, none, none, none, none, none, none, none, none])) ::
  .inr (.inr (6, [none, none, some (some 17), some (some 18)])) ::
  .inl (.int, 31) ::
  .inl (.int, 4) ::
  .inr (.inr (0, [none, none, none, none, some (some 20), some (some 21), some (some 22), some (some 23), none])) ::
  .inl (.int, 31) ::
  .inl (.int, 20) ::
  .inl (.int, 31) ::
  .inl (.int, 10) ::
  .inr (.inr (4, [none, none, none, none, none, some (some 25), some (some 26), some (some 27), some (some 28), none])) ::
  .inl (.int, 3) ::
  .inl (.int, 3) ::
  .inl (.int, 31) ::
  .inl (.int, 31) ::
  .inr (.inr (3, [none, none, none, some (some 30), some (some 31), some (some 32)])) ::
  .inl (.int, 465) ::
  .inl (.int, 465) ::
  .inl (.int, 465) ::
  .inr (.inr (1, [none, none, none, none, some (some 34), some (some 35), some (some 36)])) ::
  .inl (.int, 12) ::
  .inl (.int, 20) ::
  .inl (.byte, 4096) ::
  .inr (.inl (RX6, [some 42, some 45])) ::
  .inr (.inl (RX5, Z)) ::
  .inr (.inr (6, [none, none, some (some 40), some (some 41)])) ::
  .inl (.int, 31) ::
  .inl (.int, 4) ::
  .inr (.inr (6, [none, none, some (some 43), some (some 44)])) ::
  .inl (.int, 31) ::
  .inl (.int, 4) ::
  .inr (.inr (6, [none, none, some (some 46), some (some 47)])) ::
  .inl (.int, 31) ::
  .inl (.int, 4) ::
  .inr (.inr (10, [some (some 49), some (some 50), none, none, none, none, some (some 51), some (some 52), some (some 53), some (some 54), none, none, none, some (some 55), none, some (some 56), none, none, some (some 57), none, none, none, none, none, none, none, some (some 58), some (some 59), some (some 60), some (some 61), some (some 62), none, none, none, some (some 63), none, some (some 64), none, none, none, some (some 65), some (some 66), some (some 67), some (some 68), some (some 69), some (some 70), none])) ::
  .inl (.int, 108) ::
  .inl (.boolean, 2) ::
  .inl (.int, 20) ::
  .inl (.int, 20) ::
  .inl (.int, 20) ::
  .inl (.int, 20) ::
  .inl (.int, 31) ::
  .inl (.int, 4) ::
  .inl (.int, 320) ::
  .inl (.int, 32) ::
  .inl (.int, 32) ::
  .inl (.int, 32) ::
  .inl (.int, 32) ::
  .inl (.int, 32) ::
  .inl (.int, 31) ::
  .inl (.int, 4) ::
  .inl (.int, 465) ::
  .inl (.int, 4096) ::
  .inl (.int, 4096) ::
  .inl (.int, 4) ::
  .inl (.int, 4) ::
  .inl (.int, 160) :: ext
theorem sf_0 {Z : List (Option Nat)} {ext : List Ds} : lk (SS Z ext) 0 = some (.inr (.inr (9, [some (some 1), some (some 10), some (some 13), some (some 15), some (some 19), some (some 24), some (some 29), some (some 33), some (some 37), some (some 38), some (some 39), none, none]))) := rfl
theorem sf_1 {Z : List (Option Nat)} {ext : List Ds} : lk (SS Z ext) 1 = some (.inr (.inr (2, [none, none, none, none, some (some 2), some (some 3), some (some 4), some (some 5), some (some 6), some (some 7), some (some 8), some (some 9)]))) := rfl
theorem sf_2 {Z : List (Option Nat)} {ext : List Ds} : lk (SS Z ext) 2 = some (.inl (.int, 20)) := rfl
theorem sf_3 {Z : List (Option Nat)} {ext : List Ds} : lk (SS Z ext) 3 = some (.inl (.int, 20)) := rfl
theorem sf_4 {Z : List (Option Nat)} {ext : List Ds} : lk (SS Z ext) 4 = some (.inl (.int, 20)) := rfl
theorem sf_5 {Z : List (Option Nat)} {ext : List Ds} : lk (SS Z ext) 5 = some (.inl (.int, 20)) := rfl
theorem sf_6 {Z : List (Option Nat)} {ext : List Ds} : lk (SS Z ext) 6 = some (.inl (.int, 4)) := rfl
theorem sf_7 {Z : List (Option Nat)} {ext : List Ds} : lk (SS Z ext) 7 = some (.inl (.int, 31)) := rfl
theorem sf_8 {Z : List (Option Nat)} {ext : List Ds} : lk (SS Z ext) 8 = some (.inl (.int, 31)) := rfl
theorem sf_9 {Z : List (Option Nat)} {ext : List Ds} : lk (SS Z ext) 9 = some (.inl (.int, 31)) := rfl
theorem sf_10 {Z : List (Option Nat)} {ext : List Ds} : lk (SS Z ext) 10 = some (.inr (.inr (6, [none, none, some (some 11), some (some 12)]))) := rfl
theorem sf_11 {Z : List (Option Nat)} {ext : List Ds} : lk (SS Z ext) 11 = some (.inl (.int, 31)) := rfl
theorem sf_12 {Z : List (Option Nat)} {ext : List Ds} : lk (SS Z ext) 12 = some (.inl (.int, 4)) := rfl
theorem sf_13 {Z : List (Option Nat)} {ext : List Ds} : lk (SS Z ext) 13 = some (.inr (.inr (7, [some (some 14), none, none, none, none, none]))) := rfl
theorem sf_14 {Z : List (Option Nat)} {ext : List Ds} : lk (SS Z ext) 14 = some (.inl (.byte, 320)) := rfl
theorem sf_15 {Z : List (Option Nat)} {ext : List Ds} : lk (SS Z ext) 15 = some (.inr (.inr (8, [some (some 13), some (some 16), none, none, none, none, none, none, none, none, none, none]))) := rfl
theorem sf_16 {Z : List (Option Nat)} {ext : List Ds} : lk (SS Z ext) 16 = some (.inr (.inr (6, [none, none, some (some 17), some (some 18)]))) := rfl
theorem sf_17 {Z : List (Option Nat)} {ext : List Ds} : lk (SS Z ext) 17 = some (.inl (.int, 31)) := rfl
theorem sf_18 {Z : List (Option Nat)} {ext : List Ds} : lk (SS Z ext) 18 = some (.inl (.int, 4)) := rfl
theorem sf_19 {Z : List (Option Nat)} {ext : List Ds} : lk (SS Z ext) 19 = some (.inr (.inr (0, [none, none, none, none, some (some 20), some (some 21), some (some 22), some (some 23), none]))) := rfl
theorem sf_20 {Z : List (Option Nat)} {ext : List Ds} : lk (SS Z ext) 20 = some (.inl (.int, 31)) := rfl
theorem sf_21 {Z : List (Option Nat)} {ext : List Ds} : lk (SS Z ext) 21 = some (.inl (.int, 20)) := rfl
theorem sf_22 {Z : List (Option Nat)} {ext : List Ds} : lk (SS Z ext) 22 = some (.inl (.int, 31)) := rfl
theorem sf_23 {Z : List (Option Nat)} {ext : List Ds} : lk (SS Z ext) 23 = some (.inl (.int, 10)) := rfl
theorem sf_24 {Z : List (Option Nat)} {ext : List Ds} : lk (SS Z ext) 24 = some (.inr (.inr (4, [none, none, none, none, none, some (some 25), some (some 26), some (some 27), some (some 28), none]))) := rfl
theorem sf_25 {Z : List (Option Nat)} {ext : List Ds} : lk (SS Z ext) 25 = some (.inl (.int, 3)) := rfl
theorem sf_26 {Z : List (Option Nat)} {ext : List Ds} : lk (SS Z ext) 26 = some (.inl (.int, 3)) := rfl
theorem sf_27 {Z : List (Option Nat)} {ext : List Ds} : lk (SS Z ext) 27 = some (.inl (.int, 31)) := rfl
theorem sf_28 {Z : List (Option Nat)} {ext : List Ds} : lk (SS Z ext) 28 = some (.inl (.int, 31)) := rfl
theorem sf_29 {Z : List (Option Nat)} {ext : List Ds} : lk (SS Z ext) 29 = some (.inr (.inr (3, [none, none, none, some (some 30), some (some 31), some (some 32)]))) := rfl
theorem sf_30 {Z : List (Option Nat)} {ext : List Ds} : lk (SS Z ext) 30 = some (.inl (.int, 465)) := rfl
theorem sf_31 {Z : List (Option Nat)} {ext : List Ds} : lk (SS Z ext) 31 = some (.inl (.int, 465)) := rfl
theorem sf_32 {Z : List (Option Nat)} {ext : List Ds} : lk (SS Z ext) 32 = some (.inl (.int, 465)) := rfl
theorem sf_33 {Z : List (Option Nat)} {ext : List Ds} : lk (SS Z ext) 33 = some (.inr (.inr (1, [none, none, none, none, some (some 34), some (some 35), some (some 36)]))) := rfl
theorem sf_34 {Z : List (Option Nat)} {ext : List Ds} : lk (SS Z ext) 34 = some (.inl (.int, 12)) := rfl
theorem sf_35 {Z : List (Option Nat)} {ext : List Ds} : lk (SS Z ext) 35 = some (.inl (.int, 20)) := rfl
theorem sf_36 {Z : List (Option Nat)} {ext : List Ds} : lk (SS Z ext) 36 = some (.inl (.byte, 4096)) := rfl
theorem sf_37 {Z : List (Option Nat)} {ext : List Ds} : lk (SS Z ext) 37 = some (.inr (.inl (RX6, [some 42, some 45]))) := rfl
theorem sf_38 {Z : List (Option Nat)} {ext : List Ds} : lk (SS Z ext) 38 = some (.inr (.inl (RX5, Z))) := rfl
theorem sf_39 {Z : List (Option Nat)} {ext : List Ds} : lk (SS Z ext) 39 = some (.inr (.inr (6, [none, none, some (some 40), some (some 41)]))) := rfl
theorem sf_40 {Z : List (Option Nat)} {ext : List Ds} : lk (SS Z ext) 40 = some (.inl (.int, 31)) := rfl
theorem sf_41 {Z : List (Option Nat)} {ext : List Ds} : lk (SS Z ext) 41 = some (.inl (.int, 4)) := rfl
theorem sf_42 {Z : List (Option Nat)} {ext : List Ds} : lk (SS Z ext) 42 = some (.inr (.inr (6, [none, none, some (some 43), some (some 44)]))) := rfl
theorem sf_43 {Z : List (Option Nat)} {ext : List Ds} : lk (SS Z ext) 43 = some (.inl (.int, 31)) := rfl
theorem sf_44 {Z : List (Option Nat)} {ext : List Ds} : lk (SS Z ext) 44 = some (.inl (.int, 4)) := rfl
theorem sf_45 {Z : List (Option Nat)} {ext : List Ds} : lk (SS Z ext) 45 = some (.inr (.inr (6, [none, none, some (some 46), some (some 47)]))) := rfl
theorem sf_46 {Z : List (Option Nat)} {ext : List Ds} : lk (SS Z ext) 46 = some (.inl (.int, 31)) := rfl
theorem sf_47 {Z : List (Option Nat)} {ext : List Ds} : lk (SS Z ext) 47 = some (.inl (.int, 4)) := rfl
theorem sf_48 {Z : List (Option Nat)} {ext : List Ds} : lk (SS Z ext) 48 = some (.inr (.inr (10, [some (some 49), some (some 50), none, none, none, none, some (some 51), some (some 52), some (some 53), some (some 54), none, none, none, some (some 55), none, some (some 56), none, none, some (some 57), none, none, none, none, none, none, none, some (some 58), some (some 59), some (some 60), some (some 61), some (some 62), none, none, none, some (some 63), none, some (some 64), none, none, none, some (some 65), some (some 66), some (some 67), some (some 68), some (some 69), some (some 70), none]))) := rfl
theorem sf_49 {Z : List (Option Nat)} {ext : List Ds} : lk (SS Z ext) 49 = some (.inl (.int, 108)) := rfl
theorem sf_50 {Z : List (Option Nat)} {ext : List Ds} : lk (SS Z ext) 50 = some (.inl (.boolean, 2)) := rfl
theorem sf_51 {Z : List (Option Nat)} {ext : List Ds} : lk (SS Z ext) 51 = some (.inl (.int, 20)) := rfl
theorem sf_52 {Z : List (Option Nat)} {ext : List Ds} : lk (SS Z ext) 52 = some (.inl (.int, 20)) := rfl
theorem sf_53 {Z : List (Option Nat)} {ext : List Ds} : lk (SS Z ext) 53 = some (.inl (.int, 20)) := rfl
theorem sf_54 {Z : List (Option Nat)} {ext : List Ds} : lk (SS Z ext) 54 = some (.inl (.int, 20)) := rfl
theorem sf_55 {Z : List (Option Nat)} {ext : List Ds} : lk (SS Z ext) 55 = some (.inl (.int, 31)) := rfl
theorem sf_56 {Z : List (Option Nat)} {ext : List Ds} : lk (SS Z ext) 56 = some (.inl (.int, 4)) := rfl
theorem sf_57 {Z : List (Option Nat)} {ext : List Ds} : lk (SS Z ext) 57 = some (.inl (.int, 320)) := rfl
theorem sf_58 {Z : List (Option Nat)} {ext : List Ds} : lk (SS Z ext) 58 = some (.inl (.int, 32)) := rfl
theorem sf_59 {Z : List (Option Nat)} {ext : List Ds} : lk (SS Z ext) 59 = some (.inl (.int, 32)) := rfl
theorem sf_60 {Z : List (Option Nat)} {ext : List Ds} : lk (SS Z ext) 60 = some (.inl (.int, 32)) := rfl
theorem sf_61 {Z : List (Option Nat)} {ext : List Ds} : lk (SS Z ext) 61 = some (.inl (.int, 32)) := rfl
theorem sf_62 {Z : List (Option Nat)} {ext : List Ds} : lk (SS Z ext) 62 = some (.inl (.int, 32)) := rfl
theorem sf_63 {Z : List (Option Nat)} {ext : List Ds} : lk (SS Z ext) 63 = some (.inl (.int, 31)) := rfl
theorem sf_64 {Z : List (Option Nat)} {ext : List Ds} : lk (SS Z ext) 64 = some (.inl (.int, 4)) := rfl
theorem sf_65 {Z : List (Option Nat)} {ext : List Ds} : lk (SS Z ext) 65 = some (.inl (.int, 465)) := rfl
theorem sf_66 {Z : List (Option Nat)} {ext : List Ds} : lk (SS Z ext) 66 = some (.inl (.int, 4096)) := rfl
theorem sf_67 {Z : List (Option Nat)} {ext : List Ds} : lk (SS Z ext) 67 = some (.inl (.int, 4096)) := rfl
theorem sf_68 {Z : List (Option Nat)} {ext : List Ds} : lk (SS Z ext) 68 = some (.inl (.int, 4)) := rfl
theorem sf_69 {Z : List (Option Nat)} {ext : List Ds} : lk (SS Z ext) 69 = some (.inl (.int, 4)) := rfl
theorem sf_70 {Z : List (Option Nat)} {ext : List Ds} : lk (SS Z ext) 70 = some (.inl (.int, 160)) := rfl
def SG : List Ds := [.inl (.int, 0), .inr (.inr (2, [none, none, none, none, some (some 2), some (some 3), some (some 4), some (some 5), some (some 6), some (some 7), some (some 8), some (some 9)])), .inl (.int, 20), .inl (.int, 20), .inl (.int, 20), .inl (.int, 20), .inl (.int, 4), .inl (.int, 31), .inl (.int, 31), .inl (.int, 31), .inr (.inr (6, [none, none, some (some 11), some (some 12)])), .inl (.int, 31), .inl (.int, 4)]
/-- a world that has the Grid and the Table in their places -/
def ShG (S : List Ds) : Prop := ∀ (c : Nat) (d : Ds), 0 < c → lk SG c = some d → lk S c = some d
theorem sg_1 {S : List Ds} (h : ShG S) : lk S 1 = some (.inr (.inr (2, [none, none, none, none, some (some 2), some (some 3), some (some 4), some (some 5), some (some 6), some (some 7), some (some 8), some (some 9)]))) := h 1 _ (by decide) rfl
theorem sg_2 {S : List Ds} (h : ShG S) : lk S 2 = some (.inl (.int, 20)) := h 2 _ (by decide) rfl
theorem sg_3 {S : List Ds} (h : ShG S) : lk S 3 = some (.inl (.int, 20)) := h 3 _ (by decide) rfl
theorem sg_4 {S : List Ds} (h : ShG S) : lk S 4 = some (.inl (.int, 20)) := h 4 _ (by decide) rfl
theorem sg_5 {S : List Ds} (h : ShG S) : lk S 5 = some (.inl (.int, 20)) := h 5 _ (by decide) rfl
theorem sg_6 {S : List Ds} (h : ShG S) : lk S 6 = some (.inl (.int, 4)) := h 6 _ (by decide) rfl
theorem sg_7 {S : List Ds} (h : ShG S) : lk S 7 = some (.inl (.int, 31)) := h 7 _ (by decide) rfl
theorem sg_8 {S : List Ds} (h : ShG S) : lk S 8 = some (.inl (.int, 31)) := h 8 _ (by decide) rfl
theorem sg_9 {S : List Ds} (h : ShG S) : lk S 9 = some (.inl (.int, 31)) := h 9 _ (by decide) rfl
theorem sg_10 {S : List Ds} (h : ShG S) : lk S 10 = some (.inr (.inr (6, [none, none, some (some 11), some (some 12)]))) := h 10 _ (by decide) rfl
theorem sg_11 {S : List Ds} (h : ShG S) : lk S 11 = some (.inl (.int, 31)) := h 11 _ (by decide) rfl
theorem sg_12 {S : List Ds} (h : ShG S) : lk S 12 = some (.inl (.int, 4)) := h 12 _ (by decide) rfl
theorem ShG_SS (Z : List (Option Nat)) (ext : List Ds) : ShG (SS Z ext) := by
  intro c d h0 h
  match c, h0, h with
  | 1, _, h => exact h
  | 2, _, h => exact h
  | 3, _, h => exact h
  | 4, _, h => exact h
  | 5, _, h => exact h
  | 6, _, h => exact h
  | 7, _, h => exact h
  | 8, _, h => exact h
  | 9, _, h => exact h
  | 10, _, h => exact h
  | 11, _, h => exact h
  | 12, _, h => exact h
  | n + 13, _, h => simp [SG, lk] at h
/-- a contract of a method that leaves the shape as it is -/
def Ct (i : Mi) (avs : List Value) (S : List Ds) (M : Mm) (post : Option Value → Mm → Prop) : Prop := Cg i avs S M (fun r S' M' => S' = S ∧ post r M')
/-- one answer, one memory -/
abbrev Rt (v : Option Value) (M1 : Mm) : Option Value → Mm → Prop := fun r M' => r = v ∧ M' = M1
section XE
variable {i j : Mi} {F : Fn} {cells slots : Nat} {S : List Ds} {M : Mm} {pc : Nat} {lv : Lv} {st stk : List Value}
theorem Ct.of {avs : List Value} {post : Option Value → Mm → Prop} (hy : plainName (mY i).cls = true) (hlen : Cg.len avs ≤ mL i) (h : XW i (Fc i (fun r S' M' => S' = S ∧ post r M')) 0 0 S M 0 (lv0 avs (mL i)) []) : Ct i avs S M post := Cg.of hy hlen h
theorem x_geti {idx ci k c : Nat} {ty : FieldType} {fin : Bool} {rs : List (Option (Option Nat))} (fl : FLd (mY i).cls idx ci k ty fin) (hd : decode (mC i) pc = .ok (.getfield idx, 3)) (ho : lk S c = some (.inr (.inr (ci, rs)))) (hr : lk rs k = some none) (kk : XW i F cells slots S M (pc + 3) lv (.int (M c k) :: st)) : XW i F cells slots S M pc lv (.ref c :: st) := x_get fl hd ho hr rfl kk
theorem x_getr {idx ci k c q : Nat} {ty : FieldType} {fin : Bool} {rs : List (Option (Option Nat))} (fl : FLd (mY i).cls idx ci k ty fin) (hd : decode (mC i) pc = .ok (.getfield idx, 3)) (ho : lk S c = some (.inr (.inr (ci, rs)))) (hr : lk rs k = some (some (some q))) (kk : XW i F cells slots S M (pc + 3) lv (.ref q :: st)) : XW i F cells slots S M pc lv (.ref c :: st) := x_get fl hd ho hr rfl kk
theorem x_cv {n idx co ci : Nat} {As : List Value} {rs : List (Option (Option Nat))} {post : Option Value → Mm → Prop} (hf : MFv j n) (hl0 : Cond.methodLink (mY i).cls idx (mY j) ∈ gw) (hd : decode (mC i) pc = .ok (.invokevirtual idx, 3)) (hs : popn n stk [] = some (As, .ref co :: st)) (ho : lk S co = some (.inr (.inr (ci, rs)))) (hcl : (vwCl[ci]?).map (fun x => x.1) = some (mY j).cls)
    (hR : (mM j).frames + 1 ≤ (mM i).frames ∧ 8 + (mL j + 11) + (mM j).locals ≤ (mM i).locals) (hcat : (st.map fun v => v.category).sum ≤ 8) (hz : (mM j).cells = 0 ∧ (mM j).slots = 0) (hmk : cells ≤ (mM i).cells ∧ slots ≤ (mM i).slots) (hC : Ct j (.ref co :: As) S M post)
    (kk : ∀ r M', post r M' → XW i F cells slots S M' (pc + 3) lv (r.toList ++ st)) : XW i F cells slots S M pc lv stk := by
  refine x_callV hf hl0 hd hs ho hcl hR hcat (by rw [hz.1, hz.2]; exact hmk) hC (fun r S' M' h => by rw [h.1]) (fun r S' M' h => ?_)
  rw [hz.1, hz.2, h.1]
  exact kk r M' h.2
theorem x_cs {n idx : Nat} {As : List Value} {post : Option Value → Mm → Prop} (hf : MFs j n) (hl0 : Cond.methodLink (mY i).cls idx (mY j) ∈ gw) (hd : decode (mC i) pc = .ok (.invokestatic idx, 3)) (hs : popn n stk [] = some (As, st))
    (hR : (mM j).frames + 1 ≤ (mM i).frames ∧ 8 + (mL j + 11) + (mM j).locals ≤ (mM i).locals) (hcat : (st.map fun v => v.category).sum ≤ 8) (hz : (mM j).cells = 0 ∧ (mM j).slots = 0) (hmk : cells ≤ (mM i).cells ∧ slots ≤ (mM i).slots) (hC : Ct j As S M post)
    (kk : ∀ r M', post r M' → XW i F cells slots S M' (pc + 3) lv (r.toList ++ st)) : XW i F cells slots S M pc lv stk := by
  refine x_callS hf hl0 hd hs hR hcat (by rw [hz.1, hz.2]; exact hmk) hC (fun r S' M' h => by rw [h.1]) (fun r S' M' h => ?_)
  rw [hz.1, hz.2, h.1]
  exact kk r M' h.2
theorem x_cvd {n idx co ci : Nat} {As : List Value} {rs : List (Option (Option Nat))} {v : Option Value} {M1 : Mm} (hf : MFv j n) (hl0 : Cond.methodLink (mY i).cls idx (mY j) ∈ gw) (hd : decode (mC i) pc = .ok (.invokevirtual idx, 3)) (hs : popn n stk [] = some (As, .ref co :: st)) (ho : lk S co = some (.inr (.inr (ci, rs)))) (hcl : (vwCl[ci]?).map (fun x => x.1) = some (mY j).cls)
    (hR : (mM j).frames + 1 ≤ (mM i).frames ∧ 8 + (mL j + 11) + (mM j).locals ≤ (mM i).locals) (hcat : (st.map fun v => v.category).sum ≤ 8) (hz : (mM j).cells = 0 ∧ (mM j).slots = 0) (hmk : cells ≤ (mM i).cells ∧ slots ≤ (mM i).slots) (hC : Ct j (.ref co :: As) S M (Rt v M1))
    (kk : XW i F cells slots S M1 (pc + 3) lv (v.toList ++ st)) : XW i F cells slots S M pc lv stk :=
  x_cv hf hl0 hd hs ho hcl hR hcat hz hmk hC (fun r M' h => by rw [h.1, h.2]; exact kk)
theorem x_csd {n idx : Nat} {As : List Value} {v : Option Value} {M1 : Mm} (hf : MFs j n) (hl0 : Cond.methodLink (mY i).cls idx (mY j) ∈ gw) (hd : decode (mC i) pc = .ok (.invokestatic idx, 3)) (hs : popn n stk [] = some (As, st))
    (hR : (mM j).frames + 1 ≤ (mM i).frames ∧ 8 + (mL j + 11) + (mM j).locals ≤ (mM i).locals) (hcat : (st.map fun v => v.category).sum ≤ 8) (hz : (mM j).cells = 0 ∧ (mM j).slots = 0) (hmk : cells ≤ (mM i).cells ∧ slots ≤ (mM i).slots) (hC : Ct j As S M (Rt v M1))
    (kk : XW i F cells slots S M1 (pc + 3) lv (v.toList ++ st)) : XW i F cells slots S M pc lv stk :=
  x_cs hf hl0 hd hs hR hcat hz hmk hC (fun r M' h => by rw [h.1, h.2]; exact kk)
theorem x_iinc1 {k : Nat} {v : Int32} (hd : decode (mC i) pc = .ok (.iinc k 1, 3)) (hv : lk lv k = some (some (.int v))) (hi : k < mL i) (kk : XW i F cells slots S M (pc + 3) (stl lv k (.int (v + 1))) st) : XW i F cells slots S M pc lv st := x_iinc hd hv rfl hi kk
theorem x_iincm {k : Nat} {v : Int32} (hd : decode (mC i) pc = .ok (.iinc k (-1), 3)) (hv : lk lv k = some (some (.int v))) (hi : k < mL i) (kk : XW i F cells slots S M (pc + 3) (stl lv k (.int (v + (-1)))) st) : XW i F cells slots S M pc lv st := x_iinc hd hv rfl hi kk
theorem x_join {pc0 : Nat} {lv0 : Lv} {st0 : List Value} {M0 : Mm} (M : Mm) (pc : Nat) (lv : Lv) (st : List Value) (fin : XW i F cells slots S M pc lv st) (k : XW i F cells slots S M pc lv st → XW i F cells slots S M0 pc0 lv0 st0) : XW i F cells slots S M0 pc0 lv0 st0 := k fin
end XE
