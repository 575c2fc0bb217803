/-! tokens of a text: T its bytes, sz how many, lim the limit -/
def isLt (c : Nat) : Bool := decide (97 ≤ c ∧ c ≤ 122)
def isDg (c : Nat) : Bool := decide (48 ≤ c ∧ c ≤ 57)
def isBl (c : Nat) : Bool := decide (c = 32 ∨ c = 10)
def isSg (c : Nat) : Bool := decide (c = 59 ∨ c = 60 ∨ c = 61 ∨ c = 62 ∨ c = 40 ∨ c = 41)
def skp (T : Nat → Nat) : Nat → Nat → Nat
  | 0, p => p
  | r + 1, p => if isBl (T p) = true then skp T r (p + 1) else p
def rne (T : Nat → Nat) : Nat → Nat → Nat
  | 0, p => p
  | r + 1, p => if (isLt (T p) || isDg (T p)) = true then rne T r (p + 1) else p
def vB (B : Nat) (T : Nat → Nat) (a : Nat) : Nat → Nat
  | 0 => 0
  | n + 1 => B * vB B T a n + (T (a + n) - 96)
def vN (T : Nat → Nat) (a : Nat) : Nat → Nat
  | 0 => 0
  | n + 1 => 10 * vN T a n + (T (a + n) - 48)
/-- how many letters, digits -/
def nL (T : Nat → Nat) (a n : Nat) : Nat := fb_ct (fun i => isLt (T (a + i))) n
def nD (T : Nat → Nat) (a n : Nat) : Nat := fb_ct (fun i => isDg (T (a + i))) n
def rnK (T : Nat → Nat) (a n : Nat) : Nat := if nD T a n = 0 ∧ n ≤ 10 then 2 else if nL T a n = 0 ∧ n ≤ 2 then 3 else 1
def tkQ (T : Nat → Nat) (sz p : Nat) : Nat := skp T (sz - p) p
def tkE (T : Nat → Nat) (sz p : Nat) : Nat := rne T (sz - tkQ T sz p) (tkQ T sz p)
/-- kind: 0 the end, 1 wrong, 2 a word, 3 a number, else the sign -/
def tkK (T : Nat → Nat) (sz lim p : Nat) : Nat := if lim < sz ∧ lim ≤ tkQ T sz p then 1 else if sz ≤ tkQ T sz p then 0 else if (isLt (T (tkQ T sz p)) || isDg (T (tkQ T sz p))) = true then rnK T (tkQ T sz p) (tkE T sz p - tkQ T sz p) else if isSg (T (tkQ T sz p)) = true then T (tkQ T sz p) else 1
def tkA (T : Nat → Nat) (sz lim p : Nat) : Nat := if lim < sz ∧ lim ≤ tkQ T sz p then lim else tkQ T sz p
def tkN (T : Nat → Nat) (sz lim p : Nat) : Nat := if lim < sz ∧ lim ≤ tkQ T sz p then tkQ T sz p else if sz ≤ tkQ T sz p then tkQ T sz p else if (isLt (T (tkQ T sz p)) || isDg (T (tkQ T sz p))) = true then tkE T sz p else tkQ T sz p + 1
def kcl (K : Nat) : Nat := if K = 1 then 3 else if K = 2 then 1 else if K = 3 then 2 else K
theorem skp_le (T : Nat → Nat) : ∀ r p, p ≤ skp T r p ∧ skp T r p ≤ p + r := by
  intro r
  induction r with
  | zero => intro p; exact ⟨Nat.le_refl _, Nat.le_refl _⟩
  | succ r ih =>
    intro p
    show p ≤ (if isBl (T p) = true then skp T r (p + 1) else p) ∧ (if isBl (T p) = true then skp T r (p + 1) else p) ≤ p + (r + 1)
    have := ih (p + 1)
    split <;> omega
theorem rne_le (T : Nat → Nat) : ∀ r p, p ≤ rne T r p ∧ rne T r p ≤ p + r := by
  intro r
  induction r with
  | zero => intro p; exact ⟨Nat.le_refl _, Nat.le_refl _⟩
  | succ r ih =>
    intro p
    show p ≤ (if (isLt (T p) || isDg (T p)) = true then rne T r (p + 1) else p) ∧ (if (isLt (T p) || isDg (T p)) = true then rne T r (p + 1) else p) ≤ p + (r + 1)
    have := ih (p + 1)
    split <;> omega
theorem tkQ_le {T : Nat → Nat} {sz p : Nat} (hp : p ≤ sz) : p ≤ tkQ T sz p ∧ tkQ T sz p ≤ sz := by
  have := skp_le T (sz - p) p
  unfold tkQ
  omega
theorem tkE_le {T : Nat → Nat} {sz p : Nat} (hp : p ≤ sz) : tkQ T sz p ≤ tkE T sz p ∧ tkE T sz p ≤ sz := by
  have h1 := tkQ_le (T := T) hp
  have := rne_le T (sz - tkQ T sz p) (tkQ T sz p)
  unfold tkE
  omega
theorem tkN_le {T : Nat → Nat} {sz lim p : Nat} (hp : p ≤ sz) : p ≤ tkN T sz lim p ∧ tkN T sz lim p ≤ sz := by
  have h1 := tkQ_le (T := T) hp
  have h2 := tkE_le (T := T) hp
  unfold tkN
  split
  · omega
  · split
    · omega
    · split <;> omega
/-! the class's Text -/
def TX (h : Hp) (T : Nat → Nat) (sz lim : Nat) : Prop := hI h 31 1 = nI sz ∧ hI h 31 8 = nI lim ∧ sz ≤ 940 ∧ lim ≤ 1000 ∧ ∀ i, i < sz → hI h 32 i = nI (T i) ∧ T i < 256
section TOK
variable {T : Nat → Nat} {sz lim : Nat}
theorem TX.cz {h g : Hp} (hX : TX h T sz lim) (hz : Fz [3000031, 4000031, 5000031, 6000031, 10000031] h g) : TX g T sz lim := by
  obtain ⟨a, b, c, d, e⟩ := hX
  refine ⟨by rw [hz.I1 (by decide) (by decide)]; exact a, by rw [hz.I1 (by decide) (by decide)]; exact b, c, d, fun i hi => by rw [hz.I (a := 32) (by decide)]; exact e i hi⟩
theorem i2l {k : Nat} (h : k < 2147483648) : (nI k).toInt64 = lN k := by
  apply Int64.toInt_inj.1
  rw [Int32.toInt_toInt64, toI_nI h]
  have : (lN k).toInt = (k : Int) := by
    show (Int64.ofNat k).toInt = _
    rw [Int64.toInt_ofNat', Int.bmod_eq_of_le (by have : Int64.size = 18446744073709551616 := rfl; omega) (by have : Int64.size = 18446744073709551616 := rfl; omega)]
  rw [this]
end TOK
