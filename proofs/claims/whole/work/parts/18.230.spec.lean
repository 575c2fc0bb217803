/-! the house as told (E, by the places of the reference's row 'now'; E 4 and the place one more than they are), and its leaves -/
def ijL (n a : Nat) : List (Nat × Nat) := if a = 0 then (List.range n).map (fun i => (i, 0)) else if a = 2 then (List.range n).map (fun i => (0, i + 1)) else if n = 1 then [(0, 1)] else if n = 2 then [(0, 1), (1, 1)] else [(0, 1), (1, 1), (1, 2), (2, 2)]
def zFar (n g : Nat) : Int := if g % 2 = 0 then 0 else (n : Int) - 1
def zAl (g : Nat) : Int := if g % 2 = 0 then 1 else -1
def zOut (g : Nat) : Int := if g < 2 then -1 else 1
def zX (x ac n g : Nat) (q : Nat × Nat) : Int := if ac = 0 then (x : Int) + zFar n g + zAl g * (q.1 : Int) else (x : Int) + zOut g * (q.2 : Int)
def zY (y ac n g : Nat) (q : Nat × Nat) : Int := if ac = 0 then (y : Int) + zOut g * (q.2 : Int) else (y : Int) + zFar n g + zAl g * (q.1 : Int)
def dX (E : Nat → Nat) (d : Nat) : Nat := E (110 + 10 * d)
def dYy (E : Nat → Nat) (d : Nat) : Nat := E (111 + 10 * d)
def dAc (E : Nat → Nat) (d : Nat) : Nat := E (112 + 10 * d)
def dLn (E : Nat → Nat) (d : Nat) : Nat := E (113 + 10 * d)
def dHg (E : Nat → Nat) (d : Nat) : Nat := E (114 + 10 * d)
def dTd (E : Nat → Nat) (d : Nat) : Nat := E (115 + 10 * d)
def dCs (E : Nat → Nat) (d : Nat) : Nat := E (116 + 10 * d)
def dWh (E : Nat → Nat) (d : Nat) : Nat := E (117 + 10 * d)
/-- the cells of a leaf, in their order -/
def lfc (E : Nat → Nat) (d g a : Nat) : List (Int × Int) := (ijL (dLn E d) a).map fun q => (zX (dX E d) (dAc E d) (dLn E d) g q, zY (dYy E d) (dAc E d) (dLn E d) g q)
def inB (p : Int × Int) : Bool := decide (0 ≤ p.1 ∧ p.1 < 10 ∧ 0 ≤ p.2 ∧ p.2 < 10)
def cN (p : Int × Int) : Nat := (10 * p.2 + p.1).toNat
def lfH (E : Nat → Nat) (d g a c : Nat) : Bool := (lfc E d g a).any fun p => inB p && cN p == c
def loM (l : List (Int × Int)) : Nat := l.foldl (fun m p => if inB p = true ∧ cN p < 50 then m ||| 2 ^ cN p else m) 0
def hiM (l : List (Int × Int)) : Nat := l.foldl (fun m p => if inB p = true ∧ 50 ≤ cN p then m ||| 2 ^ (cN p - 50) else m) 0
def inE (E : Nat → Nat) (p : Int × Int) : Bool := decide (0 ≤ p.1 ∧ p.1 < E 0 ∧ 0 ≤ p.2 ∧ p.2 < E 1)
def flE (E : Nat → Nat) (p : Int × Int) : Bool := inE E p && E (10 + cN p) == 0
def canB (E : Nat → Nat) (d g a : Nat) : Bool := a == 0 || (lfc E d g a).all (flE E)
def swp (E : Nat → Nat) (d g : Nat) : List (Int × Int) := (if canB E d g 1 = true then lfc E d g 1 else []) ++ (if canB E d g 2 = true then lfc E d g 2 else [])
def swL (E : Nat → Nat) (d g : Nat) : Nat := loM (swp E d g)
def swH (E : Nat → Nat) (d g : Nat) : Nat := hiM (swp E d g)
def canM (E : Nat → Nat) (d g : Nat) : Nat := 1 + (if canB E d g 1 = true then 2 else 0) + (if canB E d g 2 = true then 4 else 0)
def fitB (E : Nat → Nat) (d g : Nat) : Bool := canB E d g 1 && (dWh E d == 0 || canB E d g 2)
def mayB (E : Nat → Nat) (d g : Nat) : Bool := (dTd E d).testBit g && fitB E d g
/-- the cell's number in the class -/
def cellV (E : Nat → Nat) (c : Nat) : Nat := if 0 < E (210 + c) then 9 + E (210 + c) else E (10 + c)
def dwc (E : Nat → Nat) (d i : Nat) : Nat := if dAc E d = 0 then 10 * dYy E d + dX E d + i else 10 * (dYy E d + i) + dX E d
/-- what a told house keeps -/
def WF (E : Nat → Nat) : Prop := E 0 ≤ 10 ∧ E 1 ≤ 10 ∧ E 2 ≤ 10 ∧ E 3 ≤ 6 ∧ E 4 ≤ 100 ∧ (∀ c, c < 100 → E (10 + c) ≤ 2 ∧ E (210 + c) ≤ E 2) ∧
  (∀ d, d < E 2 → (dX E d < E 0 ∧ dYy E d < E 1 ∧ dAc E d ≤ 1 ∧ 1 ≤ dLn E d ∧ dLn E d ≤ 3 ∧ dHg E d < 4 ∧ dTd E d < 16 ∧ 1 ≤ dCs E d ∧ dCs E d ≤ 99 ∧ dWh E d ≤ 1) ∧ (dAc E d = 0 → dX E d + dLn E d ≤ E 0) ∧ (dAc E d = 1 → dYy E d + dLn E d ≤ E 1) ∧
    (∀ i, i < dLn E d → E (10 + dwc E d i) = 1 ∧ E (210 + dwc E d i) = d + 1)) ∧
  (∀ c d, c < 100 → E (210 + c) = d + 1 → ∃ i, i < dLn E d ∧ c = dwc E d i) ∧ (∀ i, i < 3 * E 3 → E (310 + i) < E 2)
def rq (h : Hp) (p k : Nat) : Nat := (hQ h p k).getD 0
/-- an array of a kind and a length, held by a field, marked as never changed -/
def ArT (τ : Nat → Nat) (h : Hp) (p k ar n : Nat) : Prop := hQ h p k = some (rq h p k) ∧ hK h (rq h p k) = ar ∧ hL h (rq h p k) = n ∧ 30 ≤ rq h p k ∧ τ (rq h p k) = 1
/-- a Door of the class -/
def DoR (τ : Nat → Nat) (h : Hp) (p : Nat) (E : Nat → Nat) (d : Nat) : Prop := hK h p = 1 ∧ 30 ≤ p ∧ τ p = 1 ∧ ArT τ h p 0 13 12 ∧ ArT τ h p 1 13 12 ∧ ArT τ h p 2 13 4 ∧ ArT τ h p 3 13 4 ∧ ArT τ h p 4 12 4 ∧
  (hI h p 6 = nI (dX E d) ∧ hI h p 7 = nI (dYy E d) ∧ hI h p 8 = nI (dAc E d) ∧ hI h p 9 = nI (dLn E d) ∧ hI h p 11 = nI (dTd E d) ∧ hI h p 12 = nI (dCs E d) ∧ hI h p 13 = nI (dWh E d)) ∧
  (∀ g a, g < 4 → a < 3 → hJ h (rq h p 0) (3 * g + a) = lN (loM (lfc E d g a)) ∧ hJ h (rq h p 1) (3 * g + a) = lN (hiM (lfc E d g a))) ∧
  (∀ g, g < 4 → hJ h (rq h p 2) g = lN (swL E d g) ∧ hJ h (rq h p 3) g = lN (swH E d g) ∧ hI h (rq h p 4) g = nI (canM E d g))
/-- a House of the class -/
def HoR (τ : Nat → Nat) (h : Hp) (a : Nat) (E : Nat → Nat) : Prop := hK h a = 4 ∧ 30 ≤ a ∧ τ a = 1 ∧ ArT τ h a 0 12 100 ∧ ArT τ h a 1 16 10 ∧ ArT τ h a 2 12 18 ∧
  (hI h a 3 = nI (E 0) ∧ hI h a 4 = nI (E 1) ∧ hI h a 5 = nI (E 2) ∧ hI h a 6 = nI (E 3) ∧ hI h a 7 = mI (E 4)) ∧
  (∀ c, c < 100 → hI h (rq h a 0) c = nI (cellV E c)) ∧
  (∀ d, d < E 2 → hQ h (rq h a 1) d = some (rq h (rq h a 1) d) ∧ DoR τ h (rq h (rq h a 1) d) E d) ∧
  (∀ i, i < 3 * E 3 → hI h (rq h a 2) i = nI (E (310 + i)))
