/-! ===== what the simple methods answer, over either side's data ===== -/
/-- a square of this size counts -/
def cntq (C : Int32) (sz : Nat → Int32) (q : Nat) : Bool := decide ((C >>> (sz q &&& 31)) &&& 1 = 1)
/-- the rim of square q lies in the set -/
def inq (rm : Nat → Int32) (set : Int32) (q : Nat) : Bool := decide (rm q &&& (set ^^^ (-1)) = 0)
theorem inq_t {rm : Nat → Int32} {set : Int32} {q : Nat} (h : rm q &&& (set ^^^ (-1)) = 0) : inq rm set q = true := decide_eq_true h
theorem inq_f {rm : Nat → Int32} {set : Int32} {q : Nat} (h : ¬ rm q &&& (set ^^^ (-1)) = 0) : inq rm set q = false := decide_eq_false h
def Lf (C : Int32) (sz rm : Nat → Int32) (set : Int32) (n : Nat) : Int32 := fld (fun q a => a + b2i (cntq C sz q && inq rm set q)) n 0
def Wh (sz rm : Nat → Int32) (size set : Int32) (n : Nat) : Int32 := fld (fun q a => a + b2i (decide (sz q = size) && inq rm set q)) n 0
/-- bit x of the set -/
def lies (L x : Int32) : Bool := decide ((L >>> (x &&& 31)) &&& 1 = 1)
/-- the set without x, with x -/
def outS (L x : Int32) : Int32 := L &&& (((1 : Int32) <<< (x &&& 31)) ^^^ (-1))
def inS (L x : Int32) : Int32 := L ||| ((1 : Int32) <<< (x &&& 31))
def vRule (w h mt sq L C x : Int32) : Int32 := if x = 0 then w else if x = 1 then h else if x = 2 then mt else if x = 3 then sq else if x = 4 then L else if x = 5 then C else -1
def vSquare (sq : Nat) (sz ro co rm : Nat → Int32) (L q x : Int32) : Int32 := if ix q sq then (if x = 0 then sz q.toNatClampNeg else if x = 1 then ro q.toNatClampNeg else if x = 2 then co q.toNatClampNeg else if x = 3 then rm q.toNatClampNeg else if x = 4 then b2i (inq rm L q.toNatClampNeg) else -1) else -1
def vCost (mt : Nat) (co : Nat → Int32) (x : Int32) : Int32 := if ix x mt then co x.toNatClampNeg else -1
def vWhole (sz rm : Nat → Int32) (L : Int32) (sq : Nat) (x : Int32) : Int32 := if rg x 1 3 then Wh sz rm x L sq else -1
def vTake (mt : Nat) (C : Int32) (sz rm : Nat → Int32) (sq : Nat) (L x : Int32) : Int32 := if ix x mt then (if lies L x then Lf C sz rm (outS L x) sq else -2) else -1
def wTake (mt : Nat) (L x : Int32) : Int32 := if ix x mt && lies L x then outS L x else L
def vLie (mt : Nat) (C : Int32) (sz rm : Nat → Int32) (sq : Nat) (L x : Int32) : Int32 := if ix x mt then (if lies L x then -2 else Lf C sz rm (inS L x) sq) else -1
def wLie (mt : Nat) (L x : Int32) : Int32 := if ix x mt && !lies L x then inS L x else L
def vPrice (mt : Nat) (co : Nat → Int32) (x v : Int32) : Int32 := if ix x mt && rg v 1 9 then co x.toNatClampNeg else -1
def vCounts (C x : Int32) : Int32 := if rg x 1 3 then (C >>> (x &&& 31)) &&& 1 else -1
def wCounts (C x : Int32) (b : Bool) : Int32 := if rg x 1 3 then (if b then inS C x else outS C x) else C
def vWithout (C : Int32) (sz rm : Nat → Int32) (sq : Nat) (L x : Int32) : Int32 := if decide (x < 0) || !decide (x &&& (L ^^^ (-1)) = 0) then -1 else Lf C sz rm (L &&& (x ^^^ (-1))) sq
def okSee (x n : Int32) : Bool := rg x 1 3 && (decide (n = -4) || rg n 0 12)
def vSee (se : Nat → Int32) (x n : Int32) : Int32 := if okSee x n then se x.toNatClampNeg else -1
/-- n draws of play() -/
def draws (mt : Int32) (L seed : Int32) : Nat → Int32 × Int32
  | 0 => (seed, L)
  | n + 1 => let d := (draws mt L seed n).1 * 1103515245 + 12345
    (d, (draws mt L seed n).2 &&& (((1 : Int32) <<< ((((d >>> ((16 : Int32) &&& 31)) &&& 32767) - ((d >>> ((16 : Int32) &&& 31)) &&& 32767) / mt * mt) &&& 31)) ^^^ (-1)))
def vPlay (mt C : Int32) (sz rm : Nat → Int32) (sq : Nat) (L seed n : Int32) : Int32 := if rg n 0 60 then Lf C sz rm (draws mt L seed n.toNatClampNeg).2 sq else -1
theorem sw5 (x : Int32) : x = 0 ∨ x = 1 ∨ x = 2 ∨ x = 3 ∨ x = 4 ∨ (x.toInt < 0 ∨ 4 < x.toInt) := by
  have h0 : (0 : Int32).toInt = 0 := by decide
  have h1 : (1 : Int32).toInt = 1 := by decide
  have h2 : (2 : Int32).toInt = 2 := by decide
  have h3 : (3 : Int32).toInt = 3 := by decide
  have h4 : (4 : Int32).toInt = 4 := by decide
  simp only [fa_eq, h0, h1, h2, h3, h4]
  omega
theorem sw6 (x : Int32) : x = 0 ∨ x = 1 ∨ x = 2 ∨ x = 3 ∨ x = 4 ∨ x = 5 ∨ (x.toInt < 0 ∨ 5 < x.toInt) := by
  have h0 : (0 : Int32).toInt = 0 := by decide
  have h1 : (1 : Int32).toInt = 1 := by decide
  have h2 : (2 : Int32).toInt = 2 := by decide
  have h3 : (3 : Int32).toInt = 3 := by decide
  have h4 : (4 : Int32).toInt = 4 := by decide
  have h5 : (5 : Int32).toInt = 5 := by decide
  simp only [fa_eq, h0, h1, h2, h3, h4, h5]
  omega
theorem sw_ne {x : Int32} {lo hi : Int} (h : x.toInt < lo ∨ hi < x.toInt) (k : Int32) (h1 : lo ≤ k.toInt) (h2 : k.toInt ≤ hi) : ¬ x = k := by
  intro e
  subst e
  omega
theorem up2_self {M : Mm} {c k : Nat} {v : Int32} (h : M c k = v) : up2 M c k v = M := by
  funext c' k'
  unfold up2 upd
  by_cases hc : c' = c
  · subst hc
    by_cases hk : k' = k
    · subst hk; simp [h]
    · simp [hk]
  · simp [hc]
theorem ia (a j : Nat) : nI a + nI j = nI (a + j) := nI_add a j
