/-! Long.bitCount, byte by byte -/
theorem and_sp {a b c d : Nat} (ha : a < 256) (hc : c < 256) : (a + 256 * b) &&& (c + 256 * d) = (a &&& c) + 256 * (b &&& d) := by
  have e (x y : Nat) (hx : x < 256) : x + 256 * y = 2 ^ 8 * y ||| x := by rw [← Nat.two_pow_add_eq_or_of_lt (by omega : x < 2 ^ 8)]; omega
  have hac : (a &&& c) < 256 := Nat.lt_of_le_of_lt Nat.and_le_left ha
  rw [e a b ha, e c d hc, e _ _ hac]
  apply Nat.eq_of_testBit_eq
  intro i
  simp only [Nat.testBit_and, Nat.testBit_or, Nat.testBit_two_pow_mul]
  by_cases hi : i < 8
  · have h1 : decide (i ≥ 8) = false := decide_eq_false (by omega)
    simp [h1]
  · have h2 : a.testBit i = false := Nat.testBit_lt_two_pow (Nat.lt_of_lt_of_le ha (by have := Nat.pow_le_pow_right (n := 2) (by decide) (show 8 ≤ i by omega); omega))
    have h3 : c.testBit i = false := Nat.testBit_lt_two_pow (Nat.lt_of_lt_of_le hc (by have := Nat.pow_le_pow_right (n := 2) (by decide) (show 8 ≤ i by omega); omega))
    have h1 : decide (i ≥ 8) = true := decide_eq_true (by omega)
    rw [h1, h2, h3]
    cases b.testBit (i - 8) <;> cases d.testBit (i - 8) <;> rfl
def mkA (c : Nat) : Nat → Nat
  | 0 => 0
  | k + 1 => c + 256 * mkA c k
def sw1 (A n : Nat) : Nat := n - ((n / 2) &&& A)
def sw2 (B n : Nat) : Nat := (n &&& B) + ((n / 4) &&& B)
def sw3 (C n : Nat) : Nat := (n + n / 16) &&& C
def swW : Nat → Nat → Nat
  | 0, _ => 0
  | k + 1, n => pcf 8 (n % 256) + 256 * swW k (n / 256)
theorem sw_b1 : ∀ r, r < 256 → ∀ b, b < 2 → (r / 2 + 128 * b) &&& 85 = (r / 2) &&& 85 := by decide +kernel
theorem sw_b2 : ∀ r, r < 256 → ∀ b, b < 4 → (r / 4 + 64 * b) &&& 51 = (r / 4) &&& 51 := by decide +kernel
theorem sw_b3 : ∀ r, r < 256 → sw1 85 r < 256 ∧ sw2 51 (sw1 85 r) < 69 ∧ (sw2 51 (sw1 85 r) + sw2 51 (sw1 85 r) / 16) % 16 = pcf 8 r := by decide +kernel
theorem sw_n16 (x : Nat) : ∀ k, (x &&& mkA 51 k) % 16 ≤ 3 := by
  intro k
  have e : (x &&& mkA 51 k) % 2 ^ 4 = (x % 2 ^ 4) &&& (mkA 51 k % 2 ^ 4) := Nat.and_mod_two_pow
  have e2 : mkA 51 k % 2 ^ 4 ≤ 3 := by
    cases k with
    | zero => decide
    | succ k => show (51 + 256 * mkA 51 k) % 2 ^ 4 ≤ 3; omega
  have e3 := Nat.and_le_right (n := x % 2 ^ 4) (m := mkA 51 k % 2 ^ 4)
  omega
theorem sw_all : ∀ k n, n < 256 ^ k → sw3 (mkA 15 k) (sw2 (mkA 51 k) (sw1 (mkA 85 k) n)) = swW k n := by
  intro k
  induction k with
  | zero => intro n _; show (_ &&& 0) = 0; exact Nat.and_zero _
  | succ k ih =>
    intro n hn
    rw [Nat.pow_succ] at hn
    obtain ⟨r, q, hr, hq⟩ : ∃ r q, r < 256 ∧ n = r + 256 * q := ⟨n % 256, n / 256, by omega, by omega⟩
    have ihq := ih q (by omega)
    have hr3 := sw_b3 r hr
    have s1 : sw1 (mkA 85 (k + 1)) n = sw1 85 r + 256 * sw1 (mkA 85 k) q := by
      show n - ((n / 2) &&& (85 + 256 * mkA 85 k)) = (r - ((r / 2) &&& 85)) + 256 * (q - ((q / 2) &&& mkA 85 k))
      have e1 : n / 2 = (r / 2 + 128 * (q % 2)) + 256 * (q / 2) := by omega
      have b1 := Nat.and_le_left (n := r / 2) (m := 85)
      have b2 := Nat.and_le_left (n := q / 2) (m := mkA 85 k)
      rw [e1, and_sp (by omega) (by omega), sw_b1 r hr _ (by omega)]
      omega
    generalize hx : sw1 85 r = r1 at s1 hr3
    generalize hy : sw1 (mkA 85 k) q = q1 at s1 ihq
    have s2 : sw2 (mkA 51 (k + 1)) (r1 + 256 * q1) = sw2 51 r1 + 256 * sw2 (mkA 51 k) q1 := by
      show ((r1 + 256 * q1) &&& (51 + 256 * mkA 51 k)) + (((r1 + 256 * q1) / 4) &&& (51 + 256 * mkA 51 k)) = ((r1 &&& 51) + ((r1 / 4) &&& 51)) + 256 * ((q1 &&& mkA 51 k) + ((q1 / 4) &&& mkA 51 k))
      have e1 : (r1 + 256 * q1) / 4 = (r1 / 4 + 64 * (q1 % 4)) + 256 * (q1 / 4) := by omega
      rw [e1, and_sp hr3.1 (by omega), and_sp (by omega) (by omega), sw_b2 r1 hr3.1 _ (by omega)]
      omega
    have q16 : sw2 (mkA 51 k) q1 % 16 ≤ 6 := by
      have h1 := sw_n16 q1 k
      have h2 := sw_n16 (q1 / 4) k
      unfold sw2
      omega
    rw [s1, s2]
    generalize hz : sw2 51 r1 = r2 at hr3
    generalize hw : sw2 (mkA 51 k) q1 = q2 at ihq q16
    have e3 : sw3 (mkA 15 (k + 1)) (r2 + 256 * q2) = (r2 + r2 / 16) % 16 + 256 * sw3 (mkA 15 k) q2 := by
      show ((r2 + 256 * q2) + (r2 + 256 * q2) / 16) &&& (15 + 256 * mkA 15 k) = (r2 + r2 / 16) % 16 + 256 * ((q2 + q2 / 16) &&& mkA 15 k)
      have e1 : (r2 + 256 * q2) + (r2 + 256 * q2) / 16 = (r2 + r2 / 16 + 16 * (q2 % 16)) + 256 * (q2 + q2 / 16) := by omega
      have e2 : (r2 + r2 / 16 + 16 * (q2 % 16)) &&& 15 = (r2 + r2 / 16 + 16 * (q2 % 16)) % 16 := Nat.and_two_pow_sub_one_eq_mod _ 4
      rw [e1, and_sp (by omega) (by omega), e2]
      omega
    rw [e3, hr3.2.2, ihq]
    show _ = pcf 8 (n % 256) + 256 * swW k (n / 256)
    rw [show n % 256 = r by omega, show n / 256 = q by omega]
theorem pcf_add (k n : Nat) : pcf (k + 8) n = pcf 8 (n % 256) + pcf k (n / 256) := by
  show n % 2 + (n / 2 % 2 + (n / 2 / 2 % 2 + (n / 2 / 2 / 2 % 2 + (n / 2 / 2 / 2 / 2 % 2 + (n / 2 / 2 / 2 / 2 / 2 % 2 + (n / 2 / 2 / 2 / 2 / 2 / 2 % 2 + (n / 2 / 2 / 2 / 2 / 2 / 2 / 2 % 2 + pcf k (n / 2 / 2 / 2 / 2 / 2 / 2 / 2 / 2)))))))) = (n % 256 % 2 + (n % 256 / 2 % 2 + (n % 256 / 2 / 2 % 2 + (n % 256 / 2 / 2 / 2 % 2 + (n % 256 / 2 / 2 / 2 / 2 % 2 + (n % 256 / 2 / 2 / 2 / 2 / 2 % 2 + (n % 256 / 2 / 2 / 2 / 2 / 2 / 2 % 2 + (n % 256 / 2 / 2 / 2 / 2 / 2 / 2 / 2 % 2 + 0)))))))) + pcf k (n / 256)
  rw [show n / 2 / 2 / 2 / 2 / 2 / 2 / 2 / 2 = n / 256 by omega]
  omega
theorem sw_fin {p0 p1 p2 p3 p4 p5 p6 p7 : Nat} (h0 : p0 ≤ 8) (h1 : p1 ≤ 8) (h2 : p2 ≤ 8) (h3 : p3 ≤ 8) (h4 : p4 ≤ 8) (h5 : p5 ≤ 8) (h6 : p6 ≤ 8) (h7 : p7 ≤ 8) {x x4 x5 x6 : Nat}
    (hx : x = p0 + 256 * (p1 + 256 * (p2 + 256 * (p3 + 256 * (p4 + 256 * (p5 + 256 * (p6 + 256 * p7))))))) (hx4 : x4 = x + x / 256) (hx5 : x5 = x4 + x4 / 65536) (hx6 : x6 = x5 + x5 / 4294967296) :
    x6 % 128 = p0 + p1 + p2 + p3 + p4 + p5 + p6 + p7 ∧ x < 1152921504606846976 ∧ x4 < 2305843009213693952 ∧ x5 < 4611686018427387904 := by
  generalize y6e : p6 + 256 * p7 = y6 at hx
  generalize y5e : p5 + 256 * y6 = y5 at hx
  generalize y4e : p4 + 256 * y5 = y4 at hx
  generalize y3e : p3 + 256 * y4 = y3 at hx
  generalize y2e : p2 + 256 * y3 = y2 at hx
  generalize y1e : p1 + 256 * y2 = y1 at hx
  have b6 : y6 ≤ 2056 := by omega
  have b5 : y5 ≤ 526344 := by omega
  have b4 : y4 ≤ 134744072 := by omega
  have b3 : y3 ≤ 34494482440 := by omega
  have b2 : y2 ≤ 8830587504648 := by omega
  have b1 : y1 ≤ 2260630401189896 := by omega
  have b0 : x ≤ 578721382704613384 := by omega
  have e1 : x / 256 = y1 := by omega
  rw [e1] at hx4
  have e2 : x4 / 65536 = y2 + y3 := by
    clear e1 hx5 hx6 y6e y5e y4e
    omega
  rw [e2] at hx5
  have e3 : x5 / 4294967296 = y4 + y5 + y6 + p7 := by
    have t1 : y3 = p3 + 256 * y4 := y3e.symm
    have t2 : y2 = p2 + 256 * p3 + 65536 * y4 := by omega
    have t3 : y1 = p1 + 256 * p2 + 65536 * p3 + 16777216 * y4 := by omega
    have t4 : x = p0 + 256 * p1 + 65536 * p2 + 16777216 * p3 + 4294967296 * y4 := by omega
    have u1 : y1 = p1 + 256 * p2 + 65536 * p3 + 16777216 * p4 + 4294967296 * y5 := by omega
    have u2 : y2 = p2 + 256 * p3 + 65536 * p4 + 16777216 * p5 + 4294967296 * y6 := by omega
    have u3 : y3 = p3 + 256 * p4 + 65536 * p5 + 16777216 * p6 + 4294967296 * p7 := by omega
    have v : x5 = (p0 + 256 * p1 + 65536 * p2 + 16777216 * p3 + p1 + 256 * p2 + 65536 * p3 + 16777216 * p4 + p2 + 256 * p3 + 65536 * p4 + 16777216 * p5 + p3 + 256 * p4 + 65536 * p5 + 16777216 * p6) + 4294967296 * (y4 + y5 + y6 + p7) := by omega
    generalize y4 + y5 + y6 + p7 = w at v
    clear t1 t2 t3 t4 u1 u2 u3 e1 e2 hx hx4 hx5 hx6 y1e y2e y3e y4e y5e y6e
    omega
  rw [e3] at hx6
  refine ⟨?_, by omega, by omega, by omega⟩
  have v : x6 = (p0 + p1 + p2 + p3 + p4 + p5 + p6 + p7) + 256 * (y1 + y2 + y3 + y4 + y5 + y6 + p7) := by omega
  generalize y1 + y2 + y3 + y4 + y5 + y6 + p7 = w at v
  clear e1 e2 e3 hx hx4 hx5 hx6 y1e y2e y3e y4e y5e y6e
  omega
theorem swW_8 (n : Nat) : swW 8 n = pcf 8 (n % 256) + 256 * (pcf 8 (n / 256 % 256) + 256 * (pcf 8 (n / 256 / 256 % 256) + 256 * (pcf 8 (n / 256 / 256 / 256 % 256) + 256 * (pcf 8 (n / 256 / 256 / 256 / 256 % 256) + 256 * (pcf 8 (n / 256 / 256 / 256 / 256 / 256 % 256) + 256 * (pcf 8 (n / 256 / 256 / 256 / 256 / 256 / 256 % 256) + 256 * pcf 8 (n / 256 / 256 / 256 / 256 / 256 / 256 / 256 % 256))))))) := rfl
theorem pcf_64 (n : Nat) : pcf 64 n = pcf 8 (n % 256) + pcf 8 (n / 256 % 256) + pcf 8 (n / 256 / 256 % 256) + pcf 8 (n / 256 / 256 / 256 % 256) + pcf 8 (n / 256 / 256 / 256 / 256 % 256) + pcf 8 (n / 256 / 256 / 256 / 256 / 256 % 256) + pcf 8 (n / 256 / 256 / 256 / 256 / 256 / 256 % 256) + pcf 8 (n / 256 / 256 / 256 / 256 / 256 / 256 / 256 % 256) := by
  rw [pcf_add 56, pcf_add 48, pcf_add 40, pcf_add 32, pcf_add 24, pcf_add 16, pcf_add 8, show pcf 8 (n / 256 / 256 / 256 / 256 / 256 / 256 / 256) = pcf 8 (n / 256 / 256 / 256 / 256 / 256 / 256 / 256 % 256) from pcf_add 0 _]
  omega
theorem s_303 {n : Nat} {h : Hp} (hn : n < 18446744073709551616) : f_303 (lN n) h = some (nI (pc n), h) := by
  have a1 := sw_all 8 n (by omega)
  have ca : mkA 85 8 = 6148914691236517205 := rfl
  have cb : mkA 51 8 = 3689348814741910323 := rfl
  have cc : mkA 15 8 = 1085102592571150095 := rfl
  rw [ca, cb, cc] at a1
  have f1 := sw_fin (x := swW 8 n) (pcf_le 8 _) (pcf_le 8 _) (pcf_le 8 _) (pcf_le 8 _) (pcf_le 8 _) (pcf_le 8 _) (pcf_le 8 _) (pcf_le 8 _) (swW_8 n) rfl rfl rfl
  obtain ⟨f1, f2, f3, f4⟩ := f1
  rw [← pcf_64] at f1
  have b1 : sw1 6148914691236517205 n < 18446744073709551616 := by unfold sw1; omega
  have b2 : sw2 3689348814741910323 (sw1 6148914691236517205 n) < 18446744073709551616 := by
    unfold sw2
    have h1 := Nat.and_le_right (n := sw1 6148914691236517205 n) (m := 3689348814741910323)
    have h2 := Nat.and_le_right (n := sw1 6148914691236517205 n / 4) (m := 3689348814741910323)
    omega
  have k1 : lN n - (((lN n).toUInt64 >>> ((nI 1).toInt64.toUInt64 &&& Int64.toUInt64 63)).toInt64 &&& lN 6148914691236517205) = lN (sw1 6148914691236517205 n) := by
    rw [wb_shr hn (by omega), fb_andL, lN_sub]
    · rfl
    · have h1 := Nat.and_le_left (n := n / 2 ^ 1) (m := 6148914691236517205)
      omega
  have k2 (x : Nat) (hx : x < 18446744073709551616) : (lN x &&& lN 3689348814741910323) + (((lN x).toUInt64 >>> ((nI 2).toInt64.toUInt64 &&& Int64.toUInt64 63)).toInt64 &&& lN 3689348814741910323) = lN (sw2 3689348814741910323 x) := by
    rw [wb_shr hx (by omega), fb_andL, fb_andL, lN_add]
    rfl
  have k3 (x : Nat) (hx : x < 18446744073709551616) : (lN x + ((lN x).toUInt64 >>> ((nI 4).toInt64.toUInt64 &&& Int64.toUInt64 63)).toInt64) &&& lN 1085102592571150095 = lN (sw3 1085102592571150095 x) := by
    rw [wb_shr hx (by omega), lN_add, fb_andL]
    rfl
  simp only [f_303, b_303_0, ↓reduceIte, bnd_e]
  rw [k1, k2 _ b1, k3 _ b2, a1, wb_shr (by omega) (by omega), lN_add, wb_shr (by omega) (by omega), lN_add, wb_shr (by omega) (by omega), lN_add, lN_i]
  have e7 : nI 127 = nI (2 ^ 7 - 1) := rfl
  rw [e7, fa_mask]
  unfold pc
  rw [← f1]
