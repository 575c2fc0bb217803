/-! the house's lines, read: pure. A fault is (code, place), an answer (place, draft) -/
abbrev RsT := Except (Nat × Nat) (Nat × (Nat → Nat))
def upX (X : Nat → Nat) (i v : Nat) : Nat → Nat := fun j => if j = i then v else X j
theorem upX_e (X : Nat → Nat) (i v j : Nat) : upX X i v j = if j = i then v else X j := rfl
theorem upX_i (X : Nat → Nat) (i v : Nat) : upX X i v i = v := if_pos rfl
theorem upX_n {X : Nat → Nat} {i v j : Nat} (hj : j ≠ i) : upX X i v j = X j := if_neg hj
/-- the first of r from i on that is so -/
def ffi (f : Nat → Bool) : Nat → Nat → Nat
  | i, 0 => i
  | i, r + 1 => if f i = true then i else ffi f (i + 1) r
theorem ffi_le (f : Nat → Bool) : ∀ r i, i ≤ ffi f i r ∧ ffi f i r ≤ i + r := by
  intro r
  induction r with
  | zero => intro i; exact ⟨Nat.le_refl _, Nat.le_refl _⟩
  | succ r ih =>
    intro i
    have := ih (i + 1)
    show i ≤ (if f i = true then i else ffi f (i + 1) r) ∧ (if f i = true then i else ffi f (i + 1) r) ≤ _
    split <;> omega
theorem ffi_cg {f g : Nat → Bool} : ∀ r i, (∀ j, i ≤ j → j < i + r → f j = g j) → ffi f i r = ffi g i r := by
  intro r
  induction r with
  | zero => intro i _; rfl
  | succ r ih =>
    intro i hj
    show (if f i = true then i else ffi f (i + 1) r) = (if g i = true then i else ffi g (i + 1) r)
    rw [hj i (by omega) (by omega), ih (i + 1) (fun j a b => hj j (by omega) (by omega))]
/-- the row's cells -/
def rowX (T : Nat → Nat) (X : Nat → Nat) (a : Nat) : Nat → (Nat → Nat)
  | 0 => X
  | n + 1 => upX (rowX T X a n) (10 + 10 * X 1 + n) (clV (T (a + n)) - 1)
def dwx (x ac i : Nat) : Nat := if ac = 0 then x + i else x
def dwy (y ac i : Nat) : Nat := if ac = 1 then y + i else y
/-- what is wrong with a doorway: 2 no wall, 3 a door's already -/
def dwR (X : Nat → Nat) (x y ac : Nat) : Nat → Nat → Nat → Nat
  | 0, _, fl => fl
  | r + 1, i, fl => if dwx x ac i < X 0 ∧ dwy y ac i < X 1 ∧ X (10 + (10 * dwy y ac i + dwx x ac i)) = 1 then dwR X x y ac r (i + 1) (if 0 < X (210 + (10 * dwy y ac i + dwx x ac i)) then 3 else fl) else 2
def filX (X : Nat → Nat) (x y ac v : Nat) : Nat → (Nat → Nat)
  | 0 => X
  | n + 1 => upX (filX X x y ac v n) (210 + (10 * dwy y ac n + dwx x ac n)) v
section HREAD
variable (T : Nat → Nat) (sz lim : Nat)
def nV (p : Nat) : Nat := vB 27 T (tkA T sz lim p) (tkN T sz lim p - tkA T sz lim p)
def fdN (X : Nat → Nat) (v : Nat) : Nat := ffi (fun d => decide (X (1000 + d) = v)) 0 (X 2)
def erA (k p : Nat) : RsT := .error (k, tkA T sz lim p)
def rowR (p : Nat) (X : Nat → Nat) : RsT :=
  if X 1 = 10 then erA T sz lim 4 p
  else if tkK T sz lim (tkN T sz lim p) ≠ 2 then erA T sz lim 1 (tkN T sz lim p)
  else if alC T (tkA T sz lim (tkN T sz lim p)) (tkN T sz lim (tkN T sz lim p)) = false ∨ (0 < X 1 ∧ tkN T sz lim (tkN T sz lim p) - tkA T sz lim (tkN T sz lim p) ≠ X 0) then erA T sz lim 2 (tkN T sz lim p)
  else .ok (tkN T sz lim (tkN T sz lim p), upX (rowX T (upX X 0 (tkN T sz lim (tkN T sz lim p) - tkA T sz lim (tkN T sz lim p))) (tkA T sz lim (tkN T sz lim p)) (tkN T sz lim (tkN T sz lim p) - tkA T sz lim (tkN T sz lim p))) 1 (X 1 + 1))
def dorE (X : Nat → Nat) (d : Nat) : Nat → Nat := upX (filX X (dX X d) (dYy X d) (dAc X d) (d + 1) (dLn X d)) 2 (X 2 + 1)
def dorW (q : Nat) (X : Nat → Nat) (d : Nat) : RsT := if isW T sz lim q 6 = true then .ok (tkN T sz lim q, dorE (upX X (117 + 10 * d) 1) d) else .ok (q, dorE (upX X (117 + 10 * d) 0) d)
def dorC (q : Nat) (X : Nat → Nat) (d : Nat) : RsT :=
  if isW T sz lim q 5 = true then (if nmB T sz lim (tkN T sz lim q) 1 99 = true then dorW T sz lim (tkN T sz lim (tkN T sz lim q)) (upX (upX X (116 + 10 * d) 1) (116 + 10 * d) (tkV T sz lim (tkN T sz lim q))) d else erA T sz lim (nmF T sz lim (tkN T sz lim q)) (tkN T sz lim q))
  else dorW T sz lim q (upX X (116 + 10 * d) 1) d
def dorT (d : Nat) : Nat → Nat → (Nat → Nat) → RsT
  | 0, q, X => dorC T sz lim q X d
  | r + 1, q, X => if isW T sz lim q 4 = true then
      (if nmB T sz lim (tkN T sz lim q) 0 3 = true then
        (if (dTd X d).testBit (tkV T sz lim (tkN T sz lim q)) = true then erA T sz lim 3 (tkN T sz lim q)
         else dorT d r (tkN T sz lim (tkN T sz lim q)) (upX X (115 + 10 * d) (dTd X d ||| 2 ^ tkV T sz lim (tkN T sz lim q))))
       else erA T sz lim (nmF T sz lim (tkN T sz lim q)) (tkN T sz lim q))
    else dorC T sz lim q X d
def dorH (q : Nat) (X : Nat → Nat) (d : Nat) : RsT := if nmB T sz lim q 0 3 = true then dorT T sz lim d 4 (tkN T sz lim q) (upX (upX X (114 + 10 * d) (tkV T sz lim q)) (115 + 10 * d) (2 ^ tkV T sz lim q)) else erA T sz lim (nmF T sz lim q) q
def dorL (q : Nat) (X : Nat → Nat) (d : Nat) : RsT :=
  if nmB T sz lim q 1 3 = true then
    (if dwR X (dX X d) (dYy X d) (dAc X d) (tkV T sz lim q) 0 0 = 0 then dorH T sz lim (tkN T sz lim q) (upX X (113 + 10 * d) (tkV T sz lim q)) d
     else erA T sz lim (dwR X (dX X d) (dYy X d) (dAc X d) (tkV T sz lim q) 0 0) q)
  else erA T sz lim (nmF T sz lim q) q
def dorA (q : Nat) (X : Nat → Nat) (d : Nat) : RsT :=
  if isW T sz lim q 2 = true ∨ isW T sz lim q 3 = true then dorL T sz lim (tkN T sz lim q) (upX X (112 + 10 * d) (if isW T sz lim q 3 = true then 1 else 0)) d else erA T sz lim 1 q
def dorY (q : Nat) (X : Nat → Nat) (d : Nat) : RsT := if nmB T sz lim q 0 ((X 1 : Int) - 1) = true then dorA T sz lim (tkN T sz lim q) (upX X (111 + 10 * d) (tkV T sz lim q)) d else erA T sz lim (nmF T sz lim q) q
def dorX (q : Nat) (X : Nat → Nat) (d : Nat) : RsT := if nmB T sz lim q 0 ((X 0 : Int) - 1) = true then dorY T sz lim (tkN T sz lim q) (upX X (110 + 10 * d) (tkV T sz lim q)) d else erA T sz lim (nmF T sz lim q) q
def dorN (q : Nat) (X : Nat → Nat) (d : Nat) : RsT :=
  if isNm T sz lim q = false then erA T sz lim 1 q
  else if fdN X (nV T sz lim q) < X 2 then erA T sz lim 3 q
  else dorX T sz lim (tkN T sz lim q) (upX X (1000 + d) (nV T sz lim q)) d
def dorR (p : Nat) (X : Nat → Nat) : RsT := if X 2 = 10 then erA T sz lim 4 p else dorN T sz lim (tkN T sz lim p) X (X 2)
/-- three doors of a rule; b those already there -/
def rulT (j : Nat) : Nat → Nat → Nat → (Nat → Nat) → Nat → RsT
  | 0, _, q, X, _ => .ok (q, upX X 3 (X 3 + 1))
  | r + 1, i, q, X, b =>
    if isNm T sz lim q = false then erA T sz lim 1 q
    else if X 2 ≤ fdN X (nV T sz lim q) then erA T sz lim 3 q
    else if b.testBit (fdN X (nV T sz lim q)) = true then erA T sz lim 3 q
    else rulT j r (i + 1) (tkN T sz lim q) (upX X (310 + 3 * j + i) (fdN X (nV T sz lim q))) (b ||| 2 ^ fdN X (nV T sz lim q))
def rulR (p : Nat) (X : Nat → Nat) : RsT := if X 3 = 6 then erA T sz lim 4 p else rulT T sz lim (X 3) 3 0 (tkN T sz lim p) X 0
def stdR (p : Nat) (X : Nat → Nat) : RsT :=
  if X 4 ≠ 0 then erA T sz lim 3 p
  else if nmB T sz lim (tkN T sz lim p) 0 ((X 0 : Int) - 1) = false then erA T sz lim (nmF T sz lim (tkN T sz lim p)) (tkN T sz lim p)
  else if nmB T sz lim (tkN T sz lim (tkN T sz lim p)) 0 ((X 1 : Int) - 1) = false then erA T sz lim (nmF T sz lim (tkN T sz lim (tkN T sz lim p))) (tkN T sz lim (tkN T sz lim p))
  else if X (10 + (10 * tkV T sz lim (tkN T sz lim (tkN T sz lim p)) + tkV T sz lim (tkN T sz lim p))) ≠ 0 then erA T sz lim 2 (tkN T sz lim (tkN T sz lim p))
  else .ok (tkN T sz lim (tkN T sz lim (tkN T sz lim p)), upX X 4 (10 * tkV T sz lim (tkN T sz lim (tkN T sz lim p)) + tkV T sz lim (tkN T sz lim p) + 1))
def kinR (p : Nat) (X : Nat → Nat) : RsT :=
  if isW T sz lim p 0 = true then rowR T sz lim p X else if isW T sz lim p 1 = true then dorR T sz lim p X
  else if isW T sz lim p 7 = true then rulR T sz lim p X else if isW T sz lim p 8 = true then stdR T sz lim p X else erA T sz lim 1 p
/-- the line's end -/
def endR : RsT → RsT
  | .error e => .error e
  | .ok (q, X) => if tkK T sz lim q = 59 then .ok (tkN T sz lim q, X) else erA T sz lim 1 q
def linR (p : Nat) (X : Nat → Nat) : RsT := endR T sz lim (kinR T sz lim p X)
/-- all lines; n those passed -/
def hsR : Nat → Nat → (Nat → Nat) → Nat → Except (Nat × Nat) (Nat × (Nat → Nat))
  | 0, _, X, n => .ok (n, X)
  | r + 1, p, X, n => if tkK T sz lim p = 0 then .ok (n, X) else match linR T sz lim p X with
    | .error e => .error e
    | .ok (q, Y) => hsR r q (upX Y 900 (n + 1)) (n + 1)
end HREAD
