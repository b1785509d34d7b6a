/-! ===== the state, as the class and the reference hold it ===== -/
def sqL (w h : Nat) : List Sq := (gS w h ([], fun _ => 0) 3).1
def ofF (w h s : Nat) : Int32 := (gS w h ([], fun _ => 0) 3).2 s
def trF (w h : Nat) : T3 := tpR w h ((fun _ => 0), (fun _ => 0), (fun _ => 0)) (h + 1)
def sqN (w h : Nat) : Nat := (sqL w h).length
def szF (w h q : Nat) : Int32 := ((sqL w h).map qS).getD q 0
def roF (w h q : Nat) : Int32 := ((sqL w h).map qR).getD q 0
def coF (w h q : Nat) : Int32 := ((sqL w h).map qC).getD q 0
def rmF (w h q : Nat) : Int32 := ((sqL w h).map (qM (nI w) (nI h))).getD q 0
/-- the grid -/
def GrI (w h : Nat) (M : Mm) : Prop :=
  (M 1 0 = nI w ∧ M 1 1 = nI h ∧ M 1 2 = nI (mtN w h) ∧ M 1 3 = nI (sqN w h)) ∧ (M 48 2 = nI w ∧ M 48 3 = nI h ∧ M 48 4 = nI (mtN w h) ∧ M 48 5 = nI (sqN w h)) ∧
  (∀ q, q < sqN w h → (M 2 q = szF w h q ∧ M 3 q = roF w h q ∧ M 4 q = coF w h q ∧ M 5 q = rmF w h q) ∧ (M 51 q = szF w h q ∧ M 52 q = roF w h q ∧ M 53 q = coF w h q ∧ M 54 q = rmF w h q)) ∧
  (∀ s, 1 ≤ s → s ≤ 3 → M 6 s = ofF w h s) ∧ (∀ m, m < mtN w h → M 7 m = (trF w h).1 m ∧ M 8 m = (trF w h).2.1 m ∧ M 9 m = (trF w h).2.2 m)
/-- a table at t, held by the reference from o on -/
def ImE (mt t o : Nat) (M : Mm) : Prop := M 49 o = M t 0 ∧ M 49 (o + 32) = M t 1 ∧ (∀ k, k < 31 → M 49 (o + 1 + k) = M (t + 1) k) ∧ (∀ k, 1 ≤ k → k ≤ 3 → M 49 (o + 32 + k) = M (t + 2) k) ∧ (∀ i, bi (M t 0) i = true → i < mt) ∧ (∀ k, k < 31 → ∃ c, 1 ≤ c ∧ c ≤ 9 ∧ M (t + 1) k = nI c)
def kpN (k0 k1 : Bool) : Nat := (if k0 then 1 else 0) + (if k1 then 2 else 0)
def ImI (mt : Nat) (k0 k1 : Bool) (M : Mm) : Prop := M 0 11 = nI (kpN k0 k1) ∧ M 50 0 = b2i k0 ∧ M 50 1 = b2i k1 ∧ (k0 = true → ImE mt 42 36 M) ∧ (k1 = true → ImE mt 45 72 M)
/-- a byte, as both hold it -/
def sim (a b : Int32) : Prop := ∃ n : Nat, n < 256 ∧ b = nI n ∧ a = (nI n).toInt8.toInt32
def TpI (n : Nat) (M : Mm) : Prop := n ≤ 320 ∧ M 13 1 = nI n ∧ M 48 19 = nI n ∧ ∀ k, k < n → sim (M 14 k) (M 57 k)
def ShI (Z : List (Option Nat)) (ext : List Ds) (M : Mm) : Prop := Z.length = 4 ∧ wfS (SS Z ext).length (SS Z ext) = true ∧
  (∀ k, k < 4 → (lk Z k = some none ∧ M 68 k = -4 ∧ M 69 k = nI 0) ∨ ∃ c z, 71 ≤ c ∧ ShS Z ext k c (c + 1) z ∧ M c 0 = M 68 k ∧ rg (M 68 k) 0 2 = true ∧ M 69 k = nI z ∧ ∀ i, i < z → M (c + 1) i = M 70 (40 * k + i)) ∧
  (∀ j k c, j < 4 → k < 4 → lk Z j = some (some c) → lk Z k = some (some c) → j = k)
def Inv (Z : List (Option Nat)) (ext : List Ds) (M : Mm) : Prop := ∃ (w h n : Nat) (k0 k1 : Bool), (1 ≤ w ∧ w ≤ 4 ∧ 1 ≤ h ∧ h ≤ 3) ∧ GrI w h M ∧ ImE (mtN w h) 10 0 M ∧ ImI (mtN w h) k0 k1 M ∧ TpI n M ∧ ShI Z ext M ∧ (M 15 5 = M 48 24 ∧ M 0 12 = M 48 46 ∧ ∀ k, k < 31 → M 40 k = 1)
/-- both answer alike, and the state stays alike -/
def OpI (cm rm : Mi) (args : List Value) (Z : List (Option Nat)) (ext : List Ds) (M : Mm) : Prop := ∃ v : Int32, Ct cm (.ref 0 :: args) (SS Z ext) M (fun r M1 => r = some (.int v) ∧ Ct rm (.ref 48 :: args) (SS Z ext) M1 (fun r2 M2 => r2 = some (.int v) ∧ Inv Z ext M2))
def OpL (cm rm : Mi) (args : List Value) (Z : List (Option Nat)) (ext : List Ds) (M : Mm) : Prop := ∃ v : Int64, Ct cm (.ref 0 :: args) (SS Z ext) M (fun r M1 => r = some (.long v) ∧ Ct rm (.ref 48 :: args) (SS Z ext) M1 (fun r2 M2 => r2 = some (.long v) ∧ Inv Z ext M2))
def OpS (args : List Value) (Z : List (Option Nat)) (ext : List Ds) (M : Mm) : Prop := ∃ v : Int32, Cg mX9_sheet (.ref 0 :: args) (SS Z ext) M (fun r S1 M1 => r = some (.int v) ∧ ∃ Z' ext', S1 = SS Z' ext' ∧ Ct mX10_sheet (.ref 48 :: args) (SS Z' ext') M1 (fun r2 M2 => r2 = some (.int v) ∧ Inv Z' ext' M2))
