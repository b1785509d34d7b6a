/-! ===== the sets of n among m, one behind another: as a list ===== -/
def Lx (b : Nat → Int32) (m : Nat) : Nat → Nat → Int32 → List Int32
  | 0, _, s => [s]
  | _ + 1, 0, _ => []
  | j + 1, d + 1, s => Lx b m j d (s ||| b (m - (d + 1))) ++ Lx b m (j + 1) d s
def sna (b : Nat → Int32) (a : Nat → Nat) (k : Nat) : Int32 := fld (fun j s => s ||| b (a j)) k 0
def bo (so : Nat → Int32) (k : Nat) : Int32 := (1 : Int32) <<< (so k &&& 31)
theorem snw_sna (so : Nat → Int32) (a : Nat → Nat) (k : Nat) : snw so a k = sna (bo so) a k := rfl
def Rm (b : Nat → Int32) (m n : Nat) (a : Nat → Nat) : Nat → List Int32
  | 0 => []
  | k + 1 => Lx b m (n - k) (m - (a k + 1)) (sna b a k) ++ Rm b m n a k
theorem Lx_nil (b : Nat → Int32) (m : Nat) : ∀ (d j : Nat) (s : Int32), d < j → Lx b m j d s = []
  | 0, 0, _, h => absurd h (by omega)
  | 0, j + 1, s, _ => rfl
  | d + 1, 0, _, h => absurd h (by omega)
  | d + 1, j + 1, s, h => by rw [Lx, Lx_nil b m d j _ (by omega), Lx_nil b m d (j + 1) s (by omega)]; rfl
def cns (b : Nat → Int32) (m : Nat) : Nat → Nat → Int32 → Int32
  | 0, _, s => s
  | _ + 1, 0, s => s
  | j + 1, d + 1, s => cns b m j d (s ||| b (m - (d + 1)))
def Cc (b : Nat → Int32) (m : Nat) : Nat → Nat → Int32 → List Int32
  | 0, _, _ => []
  | _ + 1, 0, _ => []
  | j + 1, d + 1, s => Cc b m j d (s ||| b (m - (d + 1))) ++ Lx b m (j + 1) d s
theorem Lx_cons (b : Nat → Int32) (m : Nat) : ∀ (j d : Nat) (s : Int32), j ≤ d → Lx b m j d s = cns b m j d s :: Cc b m j d s
  | 0, d, s, _ => by cases d <;> rfl
  | j + 1, 0, s, h => absurd h (by omega)
  | j + 1, d + 1, s, h => by rw [Lx, Lx_cons b m j d _ (by omega)]; rfl
/-- the places a are within their bounds -/
def okA (m n : Nat) (a : Nat → Nat) : Prop := ∀ j, j < n → a j ≤ m - n + j
theorem Rm_last (b : Nat → Int32) {m n : Nat} {a : Nat → Nat} (hnm : n ≤ m) : ∀ k, k ≤ n → Rm b m n a k = (match lstk (cang m n a) k with | none => [] | some K => Rm b m n a (K + 1))
  | 0, _ => rfl
  | k + 1, h => by
    by_cases hc : cang m n a k = true
    · simp only [lstk, hc, if_true]
    · have hc2 : a k = m - n + k := by simpa [cang] using hc
      have hc3 : cang m n a k = false := by simpa using hc
      simp only [lstk, hc3, Bool.false_eq_true, if_false]
      rw [Rm, Lx_nil b m _ _ _ (by omega), List.nil_append]
      exact Rm_last b hnm k (by omega)
theorem lstk_lt (p : Nat → Bool) : ∀ (n K : Nat), lstk p n = some K → K < n ∧ p K = true
  | 0, K, h => by simp [lstk] at h
  | n + 1, K, h => by
    rw [lstk] at h
    by_cases hp : p n = true
    · rw [if_pos hp] at h
      cases h
      exact ⟨by omega, hp⟩
    · rw [if_neg hp] at h
      have := lstk_lt p n K h
      exact ⟨by omega, this.2⟩
theorem sna_congr (b : Nat → Int32) {a a' : Nat → Nat} {k : Nat} (h : ∀ j, j < k → a j = a' j) : sna b a k = sna b a' k := fld_congr (fun j s hj => by rw [h j hj])
theorem Rm_congr (b : Nat → Int32) (m n : Nat) {a a' : Nat → Nat} : ∀ {k : Nat}, (∀ j, j < k → a j = a' j) → Rm b m n a k = Rm b m n a' k
  | 0, _ => rfl
  | k + 1, h => by rw [Rm, Rm, h k (by omega), sna_congr b (fun j hj => h j (by omega)), Rm_congr b m n (fun j hj => h j (by omega))]
theorem Rm_run (b : Nat → Int32) (m n : Nat) (a : Nat → Nat) : ∀ (j d K : Nat), K + j = n → j ≤ d → d ≤ m → (∀ i, i < j → a (K + i) = m - d + i) → Rm b m n a (K + j) = Cc b m j d (sna b a K) ++ Rm b m n a K ∧ sna b a (K + j) = cns b m j d (sna b a K)
  | 0, d, K, _, _, _, _ => by
    cases d <;> exact ⟨rfl, rfl⟩
  | j + 1, 0, K, _, h, _, _ => absurd h (by omega)
  | j + 1, d + 1, K, hn, hd, hm, ha => by
    have h0 : a K = m - (d + 1) := by have := ha 0 (by omega); simpa using this
    have hs : sna b a (K + 1) = sna b a K ||| b (m - (d + 1)) := by
      show sna b a K ||| b (a K) = _
      rw [h0]
    have h := Rm_run b m n a j d (K + 1) (by omega) (by omega) (by omega) (fun i hi => by
      have h2 := ha (i + 1) (by omega)
      rw [show K + 1 + i = K + (i + 1) by omega, h2]
      omega)
    rw [show K + (j + 1) = K + 1 + j by omega]
    constructor
    · rw [h.1, hs, Rm, Cc, h0, show n - K = j + 1 by omega, show m - (m - (d + 1) + 1) = d by omega, List.append_assoc]
    · rw [h.2, hs, cns]
theorem nxa_ok {m n : Nat} {a : Nat → Nat} {K : Nat} (hnm : n ≤ m) (ha : okA m n a) (hK : K < n) (hc : cang m n a K = true) : okA m n (nxa a K) := by
  intro j hj
  have h1 := ha K hK
  have h2 : ¬ a K = m - n + K := by simpa [cang] using hc
  unfold nxa
  by_cases h : j < K
  · rw [if_pos h]; exact ha j hj
  · rw [if_neg h]; omega
theorem Rm_next (b : Nat → Int32) {m n : Nat} {a : Nat → Nat} {K : Nat} (hnm : n ≤ m) (ha : okA m n a) (hK : lstk (cang m n a) n = some K) : Rm b m n a n = sna b (nxa a K) n :: Rm b m n (nxa a K) n := by
  obtain ⟨h1, h2⟩ := lstk_lt _ n K hK
  have h3 := ha K h1
  have h4 : ¬ a K = m - n + K := by simpa [cang] using h2
  have hl := Rm_last b (a := a) hnm n (Nat.le_refl n)
  rw [hK] at hl
  have hr := Rm_run b m n (nxa a K) (n - K) (m - (a K + 1)) K (by omega) (by omega) (by omega) (fun i hi => by
    unfold nxa
    rw [if_neg (by omega)]
    omega)
  rw [show K + (n - K) = n by omega] at hr
  have hb : ∀ j, j < K → a j = nxa a K j := fun j hj => by unfold nxa; rw [if_pos hj]
  rw [hl]
  show Lx b m (n - K) (m - (a K + 1)) (sna b a K) ++ Rm b m n a K = _
  rw [Lx_cons b m _ _ _ (by omega), hr.1, hr.2, sna_congr b hb, Rm_congr b m n hb]
  rfl
theorem Rm_none (b : Nat → Int32) {m n : Nat} {a : Nat → Nat} (hnm : n ≤ m) (hK : lstk (cang m n a) n = none) : Rm b m n a n = [] := by
  have hl := Rm_last b (a := a) hnm n (Nat.le_refl n)
  rw [hK] at hl
  exact hl
theorem Rm_first (b : Nat → Int32) {m n : Nat} (hnm : n ≤ m) : sna b (fun j => j) n :: Rm b m n (fun j => j) n = Lx b m n m 0 := by
  have hr := Rm_run b m n (fun j => j) n m 0 (by omega) hnm (Nat.le_refl m) (fun i _ => by omega)
  rw [Nat.zero_add] at hr
  rw [Lx_cons b m _ _ _ hnm, hr.1, hr.2]
  simp [Rm, sna, fld]
theorem ok_first {m n : Nat} : okA m n (fun j => j) := fun j _ => Nat.le_add_left j (m - n)
/-- going through the sets: from the last one backward -/
theorem enumI (b : Nat → Int32) {m n : Nat} (hnm : n ≤ m) {P : (Nat → Nat) → List Int32 → Prop} (hlast : ∀ a, okA m n a → lstk (cang m n a) n = none → P a [])
    (hnext : ∀ a K, okA m n a → lstk (cang m n a) n = some K → okA m n (nxa a K) → P (nxa a K) (Rm b m n (nxa a K) n) → P a (sna b (nxa a K) n :: Rm b m n (nxa a K) n)) : ∀ a, okA m n a → P a (Rm b m n a n) := by
  have key : ∀ (l : Nat) (a : Nat → Nat), (Rm b m n a n).length = l → okA m n a → P a (Rm b m n a n) := by
    intro l
    induction l with
    | zero =>
      intro a hl ha
      cases hK : lstk (cang m n a) n with
      | none => rw [Rm_none b hnm hK]; exact hlast a ha hK
      | some K => rw [Rm_next b hnm ha hK] at hl; simp at hl
    | succ l ih =>
      intro a hl ha
      cases hK : lstk (cang m n a) n with
      | none => rw [Rm_none b hnm hK]; exact hlast a ha hK
      | some K =>
        obtain ⟨h1, h2⟩ := lstk_lt _ n K hK
        have hok := nxa_ok hnm ha h1 h2
        rw [Rm_next b hnm ha hK] at hl ⊢
        exact hnext a K ha hK hok (ih _ (by simpa using hl) hok)
  exact fun a ha => key _ a rfl ha
