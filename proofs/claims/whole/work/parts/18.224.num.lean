/-! integers as Int32, shifts and bits -/
def zI (z : Int) : Int32 := Int32.ofInt z
theorem zI_nat (n : Nat) : zI (n : Int) = nI n := rfl
theorem nz (n : Nat) : nI n = zI (n : Int) := rfl
theorem zI_neg1 : (-1 : Int32) = zI (-1) := by decide
theorem zI_0 : (0 : Int32) = zI 0 := by decide
theorem zI_add (a b : Int) : zI a + zI b = zI (a + b) := (Int32.ofInt_add a b).symm
theorem zI_mul (a b : Int) : zI a * zI b = zI (a * b) := (Int32.ofInt_mul a b).symm
theorem zI_sub (a b : Int) : zI a - zI b = zI (a - b) := (Int32.ofInt_sub a b).symm
theorem zI_toInt {z : Int} (h1 : -2147483648 ≤ z) (h2 : z < 2147483648) : (zI z).toInt = z := fb_ofI h1 h2
theorem zI_of (x : Int32) : x = zI x.toInt := (fb_asI x).symm
theorem zI_lt {a b : Int} (h1 : -2147483648 ≤ a) (h2 : a < 2147483648) (h3 : -2147483648 ≤ b) (h4 : b < 2147483648) : zI a < zI b ↔ a < b := by rw [Int32.lt_iff_toInt_lt, zI_toInt h1 h2, zI_toInt h3 h4]
theorem zI_le {a b : Int} (h1 : -2147483648 ≤ a) (h2 : a < 2147483648) (h3 : -2147483648 ≤ b) (h4 : b < 2147483648) : zI a ≤ zI b ↔ a ≤ b := by rw [Int32.le_iff_toInt_le, zI_toInt h1 h2, zI_toInt h3 h4]
theorem zI_eq {a b : Int} (h1 : -2147483648 ≤ a) (h2 : a < 2147483648) (h3 : -2147483648 ≤ b) (h4 : b < 2147483648) : zI a = zI b ↔ a = b := by
  rw [← Int32.toInt_inj, zI_toInt h1 h2, zI_toInt h3 h4]
theorem zI_toNat {z : Int} (h : 0 ≤ z) : zI z = nI z.toNat := by rw [nz, Int.toNat_of_nonneg h]
theorem mI_z (n : Nat) : mI n = zI ((n : Int) - 1) := by
  cases n with
  | zero => decide
  | succ n => rw [mI_s, nz]; congr 1; omega
theorem sh31 : ∀ k, k < 32 → (((nI k &&& 31 : Int32).toBitVec.smod 32).toNat = k) := by decide
theorem nI_shr {n k : Nat} (hn : n < 2147483648) (hk : k < 32) : nI n >>> (nI k &&& 31) = nI (n / 2 ^ k) := pk_shrN hn _ k (sh31 k hk)
theorem nI_shl {n k : Nat} (hk : k < 32) (h : n * 2 ^ k < 4294967296) : nI n <<< (nI k &&& 31) = nI (n * 2 ^ k) := pk_shlN _ k (sh31 k hk) h
theorem pw_lt {k n : Nat} (h : k < n) : 2 ^ k < 2 ^ n := Nat.pow_lt_pow_right (by decide) h
theorem nI_1shl {k : Nat} (hk : k < 31) : nI 1 <<< (nI k &&& 31) = nI (2 ^ k) := by
  have := pw_lt hk
  rw [nI_shl (by omega) (by rw [Nat.one_mul]; omega), Nat.one_mul]
theorem tb_div (n k : Nat) : n / 2 ^ k % 2 = if n.testBit k = true then 1 else 0 := by
  have := Nat.toNat_testBit n k
  cases hb : n.testBit k <;> rw [hb] at this <;> simp at this <;> simp <;> omega
theorem and1 (n : Nat) : n &&& 1 = n % 2 := Nat.and_one_is_mod n
theorem nI_hasP {n k : Nat} (hn : n < 2147483648) (hk : k < 32) : ((nI n >>> (nI k &&& 31)) &&& nI 1 = nI 1) = (n.testBit k = true) := by
  apply propext
  rw [nI_shr hn hk, fa_and, and1, tb_div, nI_eq (by split <;> omega) (by omega)]
  cases n.testBit k <;> simp
theorem nI_has0 {n k : Nat} (hn : n < 2147483648) (hk : k < 32) : ((nI n >>> (nI k &&& 31)) &&& nI 1 = 0) = (n.testBit k = false) := by
  apply propext
  rw [nI_shr hn hk, fa_and, and1, tb_div, ← nI_0, nI_eq (by split <;> omega) (by omega)]
  cases n.testBit k <;> simp
theorem lN_bitP {n k : Nat} (hn : n < 2 ^ 64) (hk : k < 64) : (((lN n).toUInt64 >>> ((nI k).toInt64.toUInt64 &&& Int64.toUInt64 63)).toInt64 &&& lN 1 = lN 1) = (n.testBit k = true) := by
  apply propext
  have e : ((lN n).toUInt64 >>> ((nI k).toInt64.toUInt64 &&& Int64.toUInt64 63)).toInt64 &&& lN 1 = lN (n / 2 ^ k % 2) := wb_bit hn hk
  rw [e, tb_div, fb_lN_inj (by split <;> omega) (by omega)]
  cases n.testBit k <;> simp
theorem lN_1shl {k : Nat} (hk : k < 64) : lN 1 <<< ((nI k).toInt64 &&& 63) = lN (2 ^ k) := by rw [wb_shl 1 hk, Nat.one_mul]
theorem lN_eq0 {n : Nat} (h : n < 9223372036854775808) : (lN n = 0) = (n = 0) := by
  apply propext
  exact fb_lN_inj (a := n) (b := 0) h (by omega)
theorem nI_eq0 {n : Nat} (h : n < 2147483648) : (nI n = 0) = (n = 0) := by
  apply propext
  rw [← nI_0, nI_eq h (by omega)]
theorem bI_if {P : Prop} [Decidable P] : (if P then nI 1 else nI 0) = bI (decide P) := by
  by_cases h : P <;> simp [h, bI]
theorem FU_ge (k : Nat) (h : k ≤ 90000) : ∃ m, FU = k + m := ⟨FU - k, by have := FU_big; omega⟩
