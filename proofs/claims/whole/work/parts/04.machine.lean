/-! ===== THE MACHINE OF NUMBERED CELLS: a world is a list of shapes S and a memory M of ints; references are cell numbers ===== -/
def gw : List Cond := lw_tbl.filter goodWord
theorem gw_in {w : Cond} (h : w ∈ lw_tbl) (hg : goodWord w = true) : w ∈ gw := List.mem_filter.mpr ⟨h, hg⟩
theorem gw_ok : ∀ w ∈ gw, (w.onTables && w.keeps) = true ∨ ∃ ty, w = .arrayClass ty := fun _ h => good_of_word (List.mem_filter.mp h).2
/-- a method: its name, code, number of locals, return type, room -/
abbrev Mi : Type := MethodName × ByteArray × Nat × Option FieldType × Room
abbrev mY (i : Mi) : MethodName := i.1
abbrev mC (i : Mi) : ByteArray := i.2.1
abbrev mL (i : Mi) : Nat := i.2.2.1
abbrev mR (i : Mi) : Option FieldType := i.2.2.2.1
abbrev mM (i : Mi) : Room := i.2.2.2.2
def wY (i : Mi) : List Cond := .code (mY i) (mC i) (mL i) (mR i) :: gw
/-- the room of a method that makes nothing, at most d calls deep -/
abbrev rmk (d : Nat) : Room := { frames := d, cells := 0, slots := 0, locals := 40 * d }
/-- a cell's shape: an array of ints (its type, its length); an array of references; an object (its number, for each field none: an int, or a reference) -/
abbrev Ds : Type := (FieldType × Nat) ⊕ ((String × List (Option Nat)) ⊕ (Nat × List (Option (Option Nat))))
abbrev Mm : Type := Nat → Nat → Int32
def lk {α : Type} : List α → Nat → Option α
  | [], _ => none
  | a :: _, 0 => some a
  | _ :: l, n + 1 => lk l n
theorem lk_eq {α : Type} : ∀ (l : List α) (n : Nat), lk l n = l[n]?
  | [], n => by simp [lk]
  | a :: l, 0 => by simp [lk]
  | a :: l, n + 1 => by simp [lk, lk_eq l n]
/-- a value: a reference is a cell's number; retAddr: an address that lies outside the world -/
def cv (ad : List Nat) (rw : Nat → Nat) : Value → Value
  | .ref c => .ref (ad.getD c 0)
  | .retAddr a => .ref (rw a)
  | v => v
def fv (M : Mm) (c k : Nat) : Option (Option Nat) → Value
  | none => .int (M c k)
  | some none => .null
  | some (some q) => .ref q
def fvs (M : Mm) (c : Nat) : Nat → List (Option (Option Nat)) → List Value
  | _, [] => []
  | k, r :: l => fv M c k r :: fvs M c (k + 1) l
theorem fvs_at (M : Mm) (c : Nat) : ∀ (rs : List (Option (Option Nat))) (k0 k : Nat), (fvs M c k0 rs)[k]? = (rs[k]?).map (fv M c (k0 + k))
  | [], k0, k => by simp [fvs]
  | r :: l, k0, 0 => by simp [fvs]
  | r :: l, k0, k + 1 => by
    have h := fvs_at M c l (k0 + 1) k
    simp only [fvs, List.getElem?_cons_succ, h]
    rw [show k0 + 1 + k = k0 + (k + 1) by omega]
theorem fvs_len (M : Mm) (c : Nat) : ∀ (rs : List (Option (Option Nat))) (k0 : Nat), (fvs M c k0 rs).length = rs.length
  | [], k0 => rfl
  | r :: l, k0 => by simp [fvs, fvs_len M c l (k0 + 1)]
def en (cA : FieldType → ClassId) (ad : List Nat) (rw : Nat → Nat) (M : Mm) (c : Nat) : Ds → va_E
  | .inl (ty, n) => .inl (cA ty, n, .inl (M c))
  | .inr (.inl (C, l)) => .inl (cA (.object C), l.length, .inr (.inr (.inr (.inr (fun i => (l.getD i none).map (fun q => ad.getD q 0))))))
  | .inr (.inr (ci, rs)) => .inr (ci, (fvs M c 0 rs).map (cv ad rw))
def wl (cA : FieldType → ClassId) (ad : List Nat) (rw : Nat → Nat) (M : Mm) : Nat → List Ds → va_W
  | _, [] => []
  | c, d :: l => (ad.getD c 0, en cA ad rw M c d) :: wl cA ad rw M (c + 1) l
theorem wl_at (cA : FieldType → ClassId) (ad : List Nat) (rw : Nat → Nat) (M : Mm) : ∀ (S : List Ds) (c0 j : Nat), (wl cA ad rw M c0 S)[j]? = (S[j]?).map (fun d => (ad.getD (c0 + j) 0, en cA ad rw M (c0 + j) d))
  | [], c0, j => by simp [wl]
  | d :: l, c0, 0 => by simp [wl]
  | d :: l, c0, j + 1 => by
    have h := wl_at cA ad rw M l (c0 + 1) j
    simp only [wl, List.getElem?_cons_succ, h]
    rw [show c0 + 1 + j = c0 + (j + 1) by omega]
theorem wl_lk {cA : FieldType → ClassId} {ad : List Nat} {rw : Nat → Nat} {M : Mm} {S : List Ds} {c : Nat} {d : Ds} (h : lk S c = some d) : (wl cA ad rw M 0 S)[c]? = some (ad.getD c 0, en cA ad rw M c d) := by
  rw [lk_eq] at h
  rw [wl_at, h]
  simp
theorem wl_len (cA : FieldType → ClassId) (ad : List Nat) (rw : Nat → Nat) (M : Mm) : ∀ (S : List Ds) (c0 : Nat), (wl cA ad rw M c0 S).length = S.length
  | [], c0 => rfl
  | d :: l, c0 => by simp [wl, wl_len cA ad rw M l (c0 + 1)]
/-- one int of the memory is written -/
def up2 (M : Mm) (c k : Nat) (v : Int32) : Mm := fun c' => if c' = c then upd (M c) k v else M c'
theorem up2_s (M : Mm) (c k : Nat) (v : Int32) : up2 M c k v c = upd (M c) k v := by simp [up2]
theorem up2_n (M : Mm) {c k c' : Nat} (v : Int32) (h : c' ≠ c) : up2 M c k v c' = M c' := by simp [up2, h]
/-- a row of the memory is written -/
def upr (M : Mm) (c : Nat) (f : Nat → Int32) : Mm := fun c' => if c' = c then f else M c'
theorem upr_s (M : Mm) (c : Nat) (f : Nat → Int32) : upr M c f c = f := by simp [upr]
theorem upr_n (M : Mm) {c c' : Nat} (f : Nat → Int32) (h : c' ≠ c) : upr M c f c' = M c' := by simp [upr, h]
theorem up2_upr (M : Mm) (c k : Nat) (v : Int32) : up2 M c k v = upr M c (upd (M c) k v) := rfl
theorem en_congr {cA : FieldType → ClassId} {ad : List Nat} {rw : Nat → Nat} {M M' : Mm} {c : Nat} (h : M' c = M c) (d : Ds) : en cA ad rw M' c d = en cA ad rw M c d := by
  rcases d with ⟨ty, n⟩ | ⟨C, l⟩ | ⟨ci, rs⟩
  · simp [en, h]
  · rfl
  · have : ∀ (rs : List (Option (Option Nat))) (k : Nat), fvs M' c k rs = fvs M c k rs := by
      intro rs
      induction rs with
      | nil => intro k; rfl
      | cons r l ih =>
        intro k
        have hr : fv M' c k r = fv M c k r := by rcases r with _ | _ | q <;> simp [fv, h]
        simp [fvs, ih, hr]
    simp [en, this]
theorem wl_set {cA : FieldType → ClassId} {ad : List Nat} {rw : Nat → Nat} {M M' : Mm} {S : List Ds} {c : Nat} {d : Ds} {e : va_E} (h : lk S c = some d) (hM : ∀ j, j ≠ c → M' j = M j) (he : e = en cA ad rw M' c d) : (wl cA ad rw M 0 S).set c (ad.getD c 0, e) = wl cA ad rw M' 0 S := by
  rw [lk_eq] at h
  apply List.ext_getElem?
  intro j
  by_cases hj : j = c
  · subst hj
    have hl : j < (wl cA ad rw M 0 S).length := by rw [wl_len]; exact (List.getElem?_eq_some_iff.mp h).1
    rw [List.getElem?_set_self hl, wl_at, h, he]
    simp
  · rw [List.getElem?_set_ne (fun q => hj q.symm), wl_at, wl_at]
    cases hS : S[j]? with
    | none => simp
    | some d' => simp [en_congr (hM j hj)]
theorem wl_setS {cA : FieldType → ClassId} {ad : List Nat} {rw : Nat → Nat} {M : Mm} {S : List Ds} {c : Nat} {d d' : Ds} {e : va_E} (h : lk S c = some d) (he : e = en cA ad rw M c d') : (wl cA ad rw M 0 S).set c (ad.getD c 0, e) = wl cA ad rw M 0 (S.set c d') := by
  rw [lk_eq] at h
  apply List.ext_getElem?
  intro j
  by_cases hj : j = c
  · subst hj
    have hl : j < S.length := (List.getElem?_eq_some_iff.mp h).1
    rw [List.getElem?_set_self (by rw [wl_len]; exact hl), wl_at, List.getElem?_set_self hl, he]
    simp
  · rw [List.getElem?_set_ne (fun q => hj q.symm), wl_at, wl_at, List.getElem?_set_ne (fun q => hj q.symm)]
/-- the locals: by their places; none: not known -/
def isL : Value → Bool
  | .long _ => true
  | .double _ => true
  | _ => false
theorem isL_cat (v : Value) : isL v = true ↔ v.category = 2 := by cases v <;> simp [isL, Value.category]
theorem cv_cat (ad : List Nat) (rw : Nat → Nat) (v : Value) : (cv ad rw v).category = v.category := by cases v <;> rfl
abbrev Lv : Type := List (Option Value)
def lh (ad : List Nat) (rw : Nat → Nat) (ls : Array Slot) (nL : Nat) (lv : Lv) : Prop := ls.size = nL ∧ lv_wf ls ∧ ∀ (i : Nat) (v : Value), lk lv i = some (some v) → ls[i]? = some (.val (cv ad rw v))
def killL : Option Value → Option Value
  | some v => if isL v then none else some v
  | none => none
def dropH : Lv → Lv
  | [] => []
  | _ :: l => none :: l
def stl : Lv → Nat → Value → Lv
  | [], _, _ => []
  | _ :: l, 0, v => some v :: (if isL v then dropH l else l)
  | o :: l, 1, v => killL o :: stl l 0 v
  | o :: l, i + 2, v => o :: stl l (i + 1) v
theorem stl_at : ∀ (lv : Lv) (i j : Nat) (v w : Value), lk (stl lv i v) j = some (some w) → (j = i ∧ w = v) ∨ (j ≠ i ∧ lk lv j = some (some w) ∧ ¬ (j + 1 = i ∧ isL w = true) ∧ ¬ (j = i + 1 ∧ isL v = true))
  | [], i, j, v, w, h => by simp [stl, lk] at h
  | o :: l, 0, 0, v, w, h => by
    simp only [stl, lk, Option.some.injEq] at h
    exact Or.inl ⟨rfl, h.symm⟩
  | o :: l, 0, j + 1, v, w, h => by
    right
    simp only [stl, lk] at h
    refine ⟨by omega, ?_, by omega, ?_⟩
    · by_cases hv : isL v = true
      · rw [if_pos hv] at h
        cases l with
        | nil => simp [dropH, lk] at h
        | cons a l =>
          cases j with
          | zero => simp [dropH, lk] at h
          | succ j => simpa [dropH, lk] using h
      · rw [if_neg hv] at h
        simpa [lk] using h
    · rintro ⟨hj, hv⟩
      have hj : j = 0 := by omega
      subst hj
      rw [if_pos hv] at h
      cases l with
      | nil => simp [dropH, lk] at h
      | cons a l => simp [dropH, lk] at h
  | o :: l, 1, 0, v, w, h => by
    right
    simp only [stl, lk, Option.some.injEq] at h
    cases o with
    | none => simp [killL] at h
    | some x =>
      simp only [killL] at h
      by_cases hx : isL x = true
      · simp [hx] at h
      · simp only [hx, if_false, Option.some.injEq, Bool.false_eq_true] at h
        subst h
        exact ⟨by omega, by simp [lk], fun q => hx q.2, by omega⟩
  | o :: l, 1, j + 1, v, w, h => by
    simp only [stl, lk] at h
    rcases stl_at l 0 j v w h with ⟨a, b⟩ | ⟨a, b, c, d⟩
    · exact Or.inl ⟨by omega, b⟩
    · exact Or.inr ⟨by omega, by simpa [lk] using b, by omega, fun q => d ⟨by omega, q.2⟩⟩
  | o :: l, i + 2, 0, v, w, h => by
    right
    simp only [stl, lk, Option.some.injEq] at h
    exact ⟨by omega, by simp [lk, h], by omega, by omega⟩
  | o :: l, i + 2, j + 1, v, w, h => by
    simp only [stl, lk] at h
    rcases stl_at l (i + 1) j v w h with ⟨a, b⟩ | ⟨a, b, c, d⟩
    · exact Or.inl ⟨by omega, b⟩
    · exact Or.inr ⟨by omega, by simpa [lk] using b, fun q => c ⟨by omega, q.2⟩, fun q => d ⟨by omega, q.2⟩⟩
/-- the listed locals, in the kit's own words -/
def lvm (ad : List Nat) (rw : Nat → Nat) : Nat → Lv → List (Nat × Value)
  | _, [] => []
  | i, none :: l => lvm ad rw (i + 1) l
  | i, some v :: l => (i, cv ad rw v) :: lvm ad rw (i + 1) l
theorem lvm_mem (ad : List Nat) (rw : Nat → Nat) : ∀ (lv : Lv) (i : Nat) (q : Nat × Value), q ∈ lvm ad rw i lv ↔ ∃ (j : Nat) (v : Value), lk lv j = some (some v) ∧ q = (i + j, cv ad rw v)
  | [], i, q => by simp [lvm, lk]
  | none :: l, i, q => by
    rw [lvm, lvm_mem ad rw l (i + 1) q]
    constructor
    · rintro ⟨j, v, h, e⟩
      exact ⟨j + 1, v, by simpa [lk] using h, by rw [e, show i + 1 + j = i + (j + 1) by omega]⟩
    · rintro ⟨j, v, h, e⟩
      cases j with
      | zero => simp [lk] at h
      | succ j => exact ⟨j, v, by simpa [lk] using h, by rw [e, show i + 1 + j = i + (j + 1) by omega]⟩
  | some x :: l, i, q => by
    rw [lvm, List.mem_cons, lvm_mem ad rw l (i + 1) q]
    constructor
    · rintro (e | ⟨j, v, h, e⟩)
      · exact ⟨0, x, by simp [lk], by simpa using e⟩
      · exact ⟨j + 1, v, by simpa [lk] using h, by rw [e, show i + 1 + j = i + (j + 1) by omega]⟩
    · rintro ⟨j, v, h, e⟩
      cases j with
      | zero =>
        simp only [lk, Option.some.injEq] at h
        subst h
        exact Or.inl (by simpa using e)
      | succ j => exact Or.inr ⟨j, v, by simpa [lk] using h, by rw [e, show i + 1 + j = i + (j + 1) by omega]⟩
theorem lh_has {ad : List Nat} {rw : Nat → Nat} {ls : Array Slot} {nL : Nat} {lv : Lv} : lh ad rw ls nL lv ↔ lv_has ls nL (lvm ad rw 0 lv) := by
  constructor
  · rintro ⟨h1, h2, h3⟩
    refine ⟨h1, h2, fun q hq => ?_⟩
    obtain ⟨j, v, h, e⟩ := (lvm_mem ad rw lv 0 q).mp hq
    rw [e]
    simpa using h3 j v h
  · rintro ⟨h1, h2, h3⟩
    exact ⟨h1, h2, fun i v h => h3 (i, cv ad rw v) ((lvm_mem ad rw lv 0 _).mpr ⟨i, v, h, by simp⟩)⟩
theorem lh_store1 {ad : List Nat} {rw : Nat → Nat} {ls' : Array Slot} {nL i : Nat} {lv : Lv} {v : Value} (h : lv_has ls' nL ((i, cv ad rw v) :: (lvm ad rw 0 lv).filter (fun q => !(q.1 == i) && !(q.1 + 1 == i && q.2.category == 2)))) : lh ad rw ls' nL (stl lv i v) := by
  refine ⟨h.1, h.2.1, fun j w hw => ?_⟩
  rcases stl_at lv i j v w hw with ⟨a, b⟩ | ⟨a, b, c, d⟩
  · subst a; subst b
    exact h.2.2 (j, cv ad rw w) List.mem_cons_self
  · refine h.2.2 (j, cv ad rw w) (List.mem_cons_of_mem _ (List.mem_filter.mpr ⟨(lvm_mem ad rw lv 0 _).mpr ⟨j, w, b, by simp⟩, ?_⟩))
    have hc : ¬ (j + 1 = i ∧ w.category = 2) := fun q => c ⟨q.1, (isL_cat w).mpr q.2⟩
    simp only [cv_cat]
    simp [a]
    omega
theorem lh_store2 {ad : List Nat} {rw : Nat → Nat} {ls' : Array Slot} {nL i : Nat} {lv : Lv} {v : Value} (hv : isL v = true) (h : lv_has ls' nL ((i, cv ad rw v) :: (lvm ad rw 0 lv).filter (fun q => !(q.1 == i) && (!(q.1 == i + 1) && !(q.1 + 1 == i && q.2.category == 2))))) : lh ad rw ls' nL (stl lv i v) := by
  refine ⟨h.1, h.2.1, fun j w hw => ?_⟩
  rcases stl_at lv i j v w hw with ⟨a, b⟩ | ⟨a, b, c, d⟩
  · subst a; subst b
    exact h.2.2 (j, cv ad rw w) List.mem_cons_self
  · refine h.2.2 (j, cv ad rw w) (List.mem_cons_of_mem _ (List.mem_filter.mpr ⟨(lvm_mem ad rw lv 0 _).mpr ⟨j, w, b, by simp⟩, ?_⟩))
    have hc : ¬ (j + 1 = i ∧ w.category = 2) := fun q => c ⟨q.1, (isL_cat w).mpr q.2⟩
    have hd : j ≠ i + 1 := fun q => d ⟨q, hv⟩
    simp only [cv_cat]
    simp [a, hd]
    omega
/-- fewer locals known -/
def lsub : Lv → Lv → Bool
  | _, [] => true
  | [], none :: l => lsub [] l
  | [], some _ :: _ => false
  | _ :: l, none :: l' => lsub l l'
  | none :: _, some _ :: _ => false
  | some _ :: l, some _ :: l' => lsub l l'
