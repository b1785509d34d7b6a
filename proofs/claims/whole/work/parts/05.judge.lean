/-! ===== the judgement XW, contracts Cg, and the rules ===== -/
def ktys (cA : FieldType → ClassId) : List (ClassId × FieldType) := [(cA .int, .int), (cA .byte, .byte), (cA .boolean, .boolean), (cA (.object RX6), .object RX6), (cA (.object RX5), .object RX5)]
/-- the constructors that are called across the nest -/
def nestL : List (String × Nat × MethodName) := [(RX9, 9, yX2_init), (RX9, 18, yX6_init), (RX9, 25, yX7_init), (RX8, 11, yX6_init), (RX9, 41, yX0_init), (RX9, 48, yX4_init), (RX9, 55, yX3_init), (RX9, 62, yX1_init)]
def Nst (U : State) : Prop := ∀ q ∈ nestL, va_Nw (.methodLinkNest q.1 q.2.1 q.2.2 RX9) U
/-- the String constants: their addresses are rw 0 .. rw 4, their bytes' rw 100 .. rw 104; statics, nest links, classes of arrays of references -/
def Gs (rw : Nat → Nat) (A : Nat → Prop) (U : State) (H : Heap) : Prop :=
  vk_S 5 [4, 4, 4, 4, 4] [[103, 114, 105, 100], [103, 111, 110, 101], [99, 111, 115, 116], [115, 105, 122, 101], [115, 101, 101, 110]] (fun i => rw i) (fun i => rw (100 + i)) A U H ∧
  (vk_R RX8 102 "grid" (rw 0) U ∧ vk_R RX8 111 "gone" (rw 1) U ∧ vk_R RX8 116 "cost" (rw 2) U ∧ vk_R RX8 121 "size" (rw 3) U ∧ vk_R RX8 126 "seen" (rw 4) U) ∧
  va_Z "java/lang/String" "COMPACT_STRINGS" "Z" (.int 1) A U H ∧
  va_Zq "jdk/internal/util/Preconditions" "SIOOBE_FORMATTER" "Ljava/util/function/BiFunction;" A U H ∧ (va_AO RX6 U ∧ va_AO RX5 U) ∧ Nst U
theorem Nst.warm {s U : State} (hW : s.WarmedH U.vm) (h : Nst s) : Nst U := fun q hq => va_Nw.warmM hW (h q hq)
theorem Nst.same {s U : State} (hv : U.vm = s.vm) (h : Nst s) : Nst U := fun q hq => va_Nw.same rfl hv.symm (h q hq)
theorem Gs.go {rw : Nat → Nat} {A B : Nat → Prop} {s U : State} {H H1 : Heap} (h : Gs rw A s H) (hq : ∀ a : Nat, a < H.size → ¬ A a → H1[a]? = H[a]?) (hAB : ∀ q, B q → A q) (hW : s.WarmedH U.vm) : Gs rw B U H1 :=
  ⟨((h.1.kept hq).narrow hAB).moved hW.alike, ⟨h.2.1.1.warm hW, h.2.1.2.1.warm hW, h.2.1.2.2.1.warm hW, h.2.1.2.2.2.1.warm hW, h.2.1.2.2.2.2.warm hW⟩, ((h.2.2.1.kept hq).narrow hAB).moved hW.alike, ((h.2.2.2.1.kept hq).narrow hAB).moved hW.alike, ⟨h.2.2.2.2.1.1.moved hW.alike, h.2.2.2.2.1.2.moved hW.alike⟩, h.2.2.2.2.2.warm hW⟩
theorem Gs.same {rw : Nat → Nat} {A : Nat → Prop} {s U : State} {H : Heap} (h : Gs rw A s H) (hv : U.vm = s.vm) : Gs rw A U H :=
  have hal : s.vm.Alike U.vm := by rw [hv]; exact Vm.Alike.refl _
  ⟨h.1.moved hal, ⟨h.2.1.1.same hv, h.2.1.2.1.same hv, h.2.1.2.2.1.same hv, h.2.1.2.2.2.1.same hv, h.2.1.2.2.2.2.same hv⟩, h.2.2.1.moved hal, h.2.2.2.1.moved hal, ⟨h.2.2.2.2.1.1.moved hal, h.2.2.2.2.1.2.moved hal⟩, h.2.2.2.2.2.same hv⟩
/-- what stands through a method's run -/
def Cx (i : Mi) (p : Program) (s : State) (m : MethodId) (args : Array Value) (meth : Method) (c : Code) (D : va_G) (cA : FieldType → ClassId) (rw : Nat → Nat) (A : Nat → Prop) : Prop :=
  p.tables.exec = Jvm.exec ∧ c.code = mC i ∧ c.maxLocals = mL i ∧ meth.sig.returnType = mR i ∧ s.vm.findClass (mY i).cls = some m.cls ∧ meth.locks = false ∧ meth.name = (mY i).name ∧ (∀ w ∈ gw, w.before args s = true) ∧ va_K D vwCl (ktys cA) s ∧ (∀ q : Nat, s.heap.size ≤ q → A q) ∧ Gs rw A s s.heap
/-- how a run is to end -/
abbrev Fn : Type := List Frame → Array Value → State → va_G → (FieldType → ClassId) → (Nat → Nat) → (Nat → Prop) → List Nat → State → Prop
def XW (i : Mi) (F : Fn) (cells slots : Nat) (S : List Ds) (M : Mm) (pc : Nat) (lv : Lv) (st : List Value) : Prop :=
  ∀ (p : Program) (l : Launch) (e : Env) (s : State) (m : MethodId) (args : Array Value) (below : List Frame) (meth : Method) (c : Code) (D : va_G) (cA : FieldType → ClassId) (rw : Nat → Nat) (A : Nat → Prop) (ad0 ad : List Nat) (H : Heap) (locs : List Loc) (ls : Array Slot),
    Cx i p s m args meth c D cA rw A → (∃ z, ad = ad0 ++ z) → ad.length = S.length → va_P D vwCl (wl cA ad rw M 0 S) H → va_D A (wl cA ad rw M 0 S) → va_S A s.heap H locs → lh ad rw ls (mL i) lv →
    W p l e (mM i) s m args below meth c H locs cells slots (F below args s D cA rw A ad0) (F0 m pc ls (st.map (cv ad rw)))
def Qx (D : va_G) (cA : FieldType → ClassId) (rw : Nat → Nat) (A : Nat → Prop) (ad0 : List Nat) (post : Option Value → List Ds → Mm → Prop) : Array Value → State → Outcome → State → Prop := fun _ st oc t =>
  (∃ (r : Option Value) (S : List Ds) (M : Mm) (ad : List Nat), oc = .returned (r.map (cv ad rw)) ∧ post r S M ∧ (∃ z, ad = ad0 ++ z) ∧ ad.length = S.length ∧ va_P D vwCl (wl cA ad rw M 0 S) t.heap ∧ va_D A (wl cA ad rw M 0 S)) ∧ va_F A st t
/-- the end of a contract -/
def Fc (i : Mi) (post : Option Value → List Ds → Mm → Prop) : Fn := fun below args s D cA rw A ad0 => MQ below (Qx D cA rw A ad0 post) args s (mM i).cells (mM i).slots A
/-- A CONTRACT: from any state that holds the world S, M the method with these arguments returns, and post holds of its answer and its world -/
def Cg (i : Mi) (avs : List Value) (S : List Ds) (M : Mm) (post : Option Value → List Ds → Mm → Prop) : Prop :=
  ∀ (l : Launch) (D : va_G) (cA : FieldType → ClassId) (rw : Nat → Nat) (ad : List Nat) (sz : Nat), ad.length = S.length →
    Met l (mY i) (wY i) (mM i) (va_Pc (avs.map (cv ad rw)) (fun U => U.heap.size = sz ∧ va_P D vwCl (wl cA ad rw M 0 S) U.heap ∧ va_K D vwCl (ktys cA) U ∧ va_D (fun _ => True) (wl cA ad rw M 0 S) ∧ Gs rw (va_A (wl cA ad rw M 0 S) sz) U U.heap))
      (Qx D cA rw (va_A (wl cA ad rw M 0 S) sz) ad post) (mM i).cells (mM i).slots (va_A (wl cA ad rw M 0 S) sz)
/-- the arguments as locals -/
def lv0 : List Value → Nat → Lv
  | [], n => List.replicate n none
  | _ :: _, 0 => []
  | v :: l, n + 1 => some v :: (if isL v then (match n with | 0 => [] | n + 1 => none :: lv0 l n) else lv0 l n)
def Cg.len : List Value → Nat
  | [] => 0
  | v :: l => (if isL v then 2 else 1) + Cg.len l
theorem lg_sl_len (ad : List Nat) (rw : Nat → Nat) : ∀ (vs : List Value), (lg_sl (vs.map (cv ad rw))).length = Cg.len vs
  | [] => rfl
  | v :: l => by
    have h := lg_sl_len ad rw l
    have hc := cv_cat ad rw v
    by_cases hv : isL v = true
    · have h2 : (cv ad rw v).category = 2 := by rw [hc]; exact (isL_cat v).mp hv
      rw [lg_sl] at h ⊢
      simp only [List.map_cons, List.flatMap_cons, h2, if_true, List.length_append, h, Cg.len, hv]
      rfl
    · have h2 : ¬ (cv ad rw v).category = 2 := by rw [hc]; exact fun q => hv ((isL_cat v).mpr q)
      rw [lg_sl] at h ⊢
      simp only [List.map_cons, List.flatMap_cons, h2, if_false, List.length_append, h, Cg.len, hv]
      rfl
theorem lv0_mem (ad : List Nat) (rw : Nat → Nat) : ∀ (vs : List Value) (n k j : Nat) (w : Value), lk (lv0 vs n) j = some (some w) → (k + j, cv ad rw w) ∈ lv_args k (vs.map (cv ad rw))
  | [], n, k, j, w, h => by
    exfalso
    rw [lv0, lk_eq] at h
    rw [List.getElem?_replicate] at h
    split at h <;> simp at h
  | v :: l, 0, k, j, w, h => by simp [lv0, lk] at h
  | v :: l, n + 1, k, 0, w, h => by
    simp only [lv0, lk, Option.some.injEq] at h
    subst h
    simp only [List.map_cons, lv_args]
    split <;> simp
  | v :: l, n + 1, k, j + 1, w, h => by
    simp only [lv0, lk] at h
    by_cases hv : isL v = true
    · have h2 : (cv ad rw v).category = 2 := by rw [cv_cat]; exact (isL_cat v).mp hv
      rw [if_pos hv] at h
      cases n with
      | zero => simp [lk] at h
      | succ n =>
        cases j with
        | zero => simp [lk] at h
        | succ j =>
          simp only [lk] at h
          have h3 := lv0_mem ad rw l n (k + 2) j w h
          simp only [List.map_cons, lv_args, h2, if_true]
          refine List.mem_cons_of_mem _ ?_
          rw [show k + (j + 1 + 1) = k + 2 + j by omega]
          exact h3
    · have h2 : ¬ (cv ad rw v).category = 2 := by rw [cv_cat]; exact fun q => hv ((isL_cat v).mpr q)
      rw [if_neg hv] at h
      have h3 := lv0_mem ad rw l n (k + 1) j w h
      simp only [List.map_cons, lv_args, h2, if_false]
      refine List.mem_cons_of_mem _ ?_
      rw [show k + (j + 1) = k + 1 + j by omega]
      exact h3
theorem Cg.of {i : Mi} {avs : List Value} {S : List Ds} {M : Mm} {post : Option Value → List Ds → Mm → Prop} (hy : plainName (mY i).cls = true) (hlen : Cg.len avs ≤ mL i)
    (h : XW i (Fc i post) 0 0 S M 0 (lv0 avs (mL i)) []) : Cg i avs S M post := by
  intro l D cA rw ad sz hl
  refine Met.ofW (cc := mC i) (maxL := mL i) (ret := mR i) hy rfl ?_
  intro p e s m args below meth c s₁ B hml hv
  obtain ⟨rfl, hsz, hP, hK, hD0, hG⟩ := hv
  subst hsz
  have hts := atoms_spec (ws := wY i) B.pre
  have hD := hD0.self (sz := s.heap.size)
  have hle := lv_entry (avs.map (cv ad rw)) (n := mL i) (by rw [lg_sl_len]; exact hlen)
  rw [lg_entry_eq]
  refine h p l e s m _ below meth c D cA rw (va_A (wl cA ad rw M 0 S) s.heap.size) ad ad s.heap [] _ ⟨B.exec, B.bytes, hml, B.returns, findClass_of_methodNamed B.named, B.notSynchronized, (name_of_methodNamed B.named B.method).1, fun w hw => hts w (List.mem_cons_of_mem _ hw), hK, fun q h => Or.inr h, hG⟩ ⟨[], by simp⟩ hl hP hD va_S.rf ⟨hle.1, hle.2.1, fun j w hj => ?_⟩
  have hm := hle.2.2 (0 + j, cv ad rw w) (lv0_mem ad rw avs (mL i) 0 j w hj)
  simpa using hm
