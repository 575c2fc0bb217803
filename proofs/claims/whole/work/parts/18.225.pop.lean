/-! how many bits: by halves (pcf), by dropping the lowest (ones, bits), by fields (bitCount) -/
def pcf : Nat → Nat → Nat
  | 0, _ => 0
  | k + 1, n => n % 2 + pcf k (n / 2)
def pc (n : Nat) : Nat := pcf 64 n
theorem and_ee (a b : Nat) : (2 * a) &&& (2 * b + 1) = 2 * (a &&& b) := by
  apply Nat.eq_of_testBit_eq
  intro i
  cases i with
  | zero => simp [Nat.testBit_zero]
  | succ i =>
    rw [Nat.testBit_and, Nat.testBit_succ, Nat.testBit_succ, Nat.testBit_succ, show 2 * a / 2 = a by omega, show (2 * b + 1) / 2 = b by omega, show 2 * (a &&& b) / 2 = a &&& b by omega, Nat.testBit_and]
theorem and_oe (a b : Nat) : (2 * a + 1) &&& (2 * b) = 2 * (a &&& b) := by rw [Nat.and_comm, and_ee, Nat.and_comm]
theorem pcf_0 : ∀ k, pcf k 0 = 0
  | 0 => rfl
  | k + 1 => by show 0 % 2 + pcf k (0 / 2) = 0; rw [Nat.zero_div, pcf_0 k]
theorem pcf_low : ∀ k n, n ≠ 0 → n < 2 ^ k → pcf k (n &&& (n - 1)) + 1 = pcf k n ∧ (n &&& (n - 1)) < 2 ^ k := by
  intro k
  induction k with
  | zero => intro n h0 h1; exact absurd h1 (by rw [Nat.pow_zero]; omega)
  | succ k ih =>
    intro n h0 h1
    rw [Nat.pow_succ] at h1
    obtain ⟨m, hm | hm⟩ : ∃ m, n = 2 * m ∨ n = 2 * m + 1 := ⟨n / 2, by omega⟩
    · subst hm
      obtain ⟨a, b⟩ := ih m (by omega) (by omega)
      rw [show 2 * m - 1 = 2 * (m - 1) + 1 by omega, and_ee]
      refine ⟨?_, by rw [Nat.pow_succ]; omega⟩
      show (2 * (m &&& (m - 1))) % 2 + pcf k (2 * (m &&& (m - 1)) / 2) + 1 = 2 * m % 2 + pcf k (2 * m / 2)
      rw [show 2 * (m &&& (m - 1)) / 2 = m &&& (m - 1) by omega, show 2 * m / 2 = m by omega]
      omega
    · subst hm
      rw [show 2 * m + 1 - 1 = 2 * m by omega, and_oe, Nat.and_self]
      refine ⟨?_, by rw [Nat.pow_succ]; omega⟩
      show 2 * m % 2 + pcf k (2 * m / 2) + 1 = (2 * m + 1) % 2 + pcf k ((2 * m + 1) / 2)
      rw [show 2 * m / 2 = m by omega, show (2 * m + 1) / 2 = m by omega]
      omega
theorem pcf_le : ∀ k n, pcf k n ≤ k
  | 0, _ => Nat.le_refl 0
  | k + 1, n => by show n % 2 + pcf k (n / 2) ≤ k + 1; have := pcf_le k (n / 2); omega
theorem pc_eq0 : ∀ k n, n < 2 ^ k → (pcf k n = 0 ↔ n = 0) := by
  intro k
  induction k with
  | zero => intro n h; rw [Nat.pow_zero] at h; exact ⟨fun _ => by omega, fun _ => rfl⟩
  | succ k ih =>
    intro n h
    rw [Nat.pow_succ] at h
    have := ih (n / 2) (by omega)
    show n % 2 + pcf k (n / 2) = 0 ↔ _
    constructor
    · intro z; have := this.1 (by omega); omega
    · intro z; subst z; exact (by rw [Nat.zero_div, pcf_0])
theorem lc0 (x y : Int64) : (lg_cmp x y = 0) = (x = y) := propext (lg_cmp_eq x y)
theorem l_185 : ∀ k n s m h, n < 9223372036854775808 → pc n = k → l_185_4 (k + 1 + m) (nI s) (lN n) h = some (nI (s + k), h) := by
  intro k
  induction k with
  | zero =>
    intro n s m h hn hp
    have h0 := (pc_eq0 64 n (by omega)).1 hp
    subst h0
    simp only [Nat.zero_add, Nat.add_comm 1 m, l_185_4, f_185, b_185_0, b_185_4, b_185_10, b_185_22, ↓reduceIte, lc0, if_true, Nat.add_zero]
  | succ k ih =>
    intro n s m h hn hp
    have h0 : n ≠ 0 := fun z => by rw [z, show pc 0 = 0 from rfl] at hp; omega
    have h1 := pcf_low 64 n h0 (by omega)
    have h2 := Nat.and_le_left (n := n) (m := n - 1)
    have h3 := ih (n &&& (n - 1)) (s + 1) m h (by omega) (by have := h1.1; unfold pc at hp ⊢; omega)
    have e1 : (lN n = lN 0) = False := eq_false (fun z => h0 ((fb_lN_inj hn (by omega)).1 z))
    rw [show k + 1 + 1 + m = (k + 1 + m) + 1 by omega]
    simp only [l_185_4, f_185, b_185_0, b_185_4, b_185_10, b_185_22, ↓reduceIte, lc0, e1, if_false, bnd_e, lN_sub (show 1 ≤ n by omega), fb_andL, nI_add]
    rw [h3, show s + 1 + k = s + (k + 1) by omega]
theorem s_185 {n : Nat} {h : Hp} (hn : n < 9223372036854775808) : f_185 (lN n) h = some (nI (pc n), h) := by
  obtain ⟨m, hm⟩ := FU_ge (pc n + 1) (by have := pcf_le 64 n; unfold pc; omega)
  simp only [f_185, b_185_0, b_185_4, b_185_10, b_185_22, ↓reduceIte, bnd_e]
  rw [hm, l_185 (pc n) n 0 m h hn rfl, Nat.zero_add]
theorem l_184 : ∀ k n s m h, n < 2147483648 → pc n = k → l_184_4 (k + 1 + m) (nI s) (nI n) h = some (nI (s + k), h) := by
  intro k
  induction k with
  | zero =>
    intro n s m h hn hp
    have h0 := (pc_eq0 64 n (by omega)).1 hp
    subst h0
    simp only [Nat.zero_add, Nat.add_comm 1 m, l_184_4, f_184, b_184_0, b_184_4, b_184_8, b_184_20, ↓reduceIte, nI_0, if_true, Nat.add_zero]
  | succ k ih =>
    intro n s m h hn hp
    have h0 : n ≠ 0 := fun z => by rw [z, show pc 0 = 0 from rfl] at hp; omega
    have h1 := pcf_low 64 n h0 (by omega)
    have h2 := Nat.and_le_left (n := n) (m := n - 1)
    have h3 := ih (n &&& (n - 1)) (s + 1) m h (by omega) (by have := h1.1; unfold pc at hp ⊢; omega)
    have e1 : (nI n = 0) = False := eq_false (by rw [nI_eq0 hn]; exact h0)
    rw [show k + 1 + 1 + m = (k + 1 + m) + 1 by omega]
    simp only [l_184_4, f_184, b_184_0, b_184_4, b_184_8, b_184_20, ↓reduceIte, e1, if_false, bnd_e, pk_sub (show 1 ≤ n by omega), fa_and, nI_add]
    rw [h3, show s + 1 + k = s + (k + 1) by omega]
theorem s_184 {n : Nat} {h : Hp} (hn : n < 2147483648) : f_184 (nI n) h = some (nI (pc n), h) := by
  obtain ⟨m, hm⟩ := FU_ge (pc n + 1) (by have := pcf_le 64 n; unfold pc; omega)
  simp only [f_184, b_184_0, b_184_4, b_184_8, b_184_20, ↓reduceIte, bnd_e]
  rw [hm, l_184 (pc n) n 0 m h hn rfl, Nat.zero_add]
/-- the number of bits of an int of ten -/
def bcI (v0 : Int32) : Int32 := (f_302 v0 (bd_h0 (fun _ => 0) 0)).elim 0 (·.1)
theorem s_302a (v0 : Int32) (h : Hp) : f_302 v0 h = some (bcI v0, h) := rfl
theorem bcI_e : ∀ n, n < 1024 → bcI (nI n) = nI (pc n) := by decide +kernel
theorem s_302 {n : Nat} {h : Hp} (hn : n < 1024) : f_302 (nI n) h = some (nI (pc n), h) := by rw [s_302a, bcI_e n hn]
