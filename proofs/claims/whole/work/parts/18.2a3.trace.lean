/-! a door's leaves are traced -/
def prB (n a i j : Nat) : Bool := if a = 0 then decide (j = 0) else if a = 2 then decide (i = 0 ∧ 0 < j) else decide (0 < j ∧ j ≤ (if 1 < n - 1 then n - 1 else 1) ∧ (j = i ∨ j = i + 1))
def ljs (n a i : Nat) : Nat → Nat → List (Nat × Nat)
  | _, 0 => []
  | j, r + 1 => if prB n a i j = true then (i, j) :: ljs n a i (j + 1) r else ljs n a i (j + 1) r
def lis (n a : Nat) : Nat → Nat → List (Nat × Nat)
  | _, 0 => []
  | i, r + 1 => ljs n a i 0 (n + 1) ++ lis n a (i + 1) r
theorem lis_e : ∀ n, n < 4 → 1 ≤ n → ∀ a, a < 3 → lis n a 0 n = ijL n a := by decide
def HC (h : Hp) (a : Nat) (X : Nat → Nat) : Prop := hK h a = 4 ∧ hQ h a 0 = some (a + 1) ∧ hK h (a + 1) = 12 ∧ hL h (a + 1) = 100 ∧ hI h a 3 = nI (X 0) ∧ hI h a 4 = nI (X 1) ∧ (X 0 ≤ 10 ∧ X 1 ≤ 10) ∧ ∀ c, c < 100 → hI h (a + 1) c = nI (cellV X c)
theorem s_50h {h : Hp} {a : Nat} {X : Nat → Nat} {x y : Int32} (hH : HC h a X) : f_50 (some a) x y h = some (if inE X (x.toInt, y.toInt) = true then nI (cellV X (cN (x.toInt, y.toInt))) else -1, h) := by
  obtain ⟨k, a0, a1, a2, f0, f1, hW, hc⟩ := hH
  unfold inE
  simp only [f_50, b_50_0, b_50_4, b_50_12, b_50_16, b_50_24, b_50_28, b_50_29, b_50_34, b_50_48, b_50_49, ↓reduceIte, gI_e k, gQ_e k, Option.bind_some, f0, f1, fa_lt, fa_le, toI_0, toI_nI (show X 0 < 2147483648 by omega), toI_nI (show X 1 < 2147483648 by omega), nI00, if_true, nI10, if_false, a0]
  by_cases c : 0 ≤ x.toInt ∧ x.toInt < X 0 ∧ 0 ≤ y.toInt ∧ y.toInt < X 1
  · have c2 : 0 ≤ x.toInt ∧ x.toInt < 10 ∧ 0 ≤ y.toInt ∧ y.toInt < 10 := by omega
    rw [if_neg (by omega), if_neg (by omega), if_neg (by omega), if_neg (by omega), decide_eq_true c, if_pos rfl]
    have e : nI 10 * y + x = nI (cN (x.toInt, y.toInt)) := by rw [← zI_cN c2, ← zI_of, ← zI_of]
    have b := cN_lt c2
    rw [e, aI_n a1 a2 b (by omega), hc _ b]
    rfl
  · simp only [decide_eq_false c, Bool.false_eq_true, if_false]
    repeat' split
    all_goals first | rfl | (exfalso; omega)
/-- a door to be traced, and its house -/
def TC (h : Hp) (p a : Nat) (X : Nat → Nat) (d : Nat) : Prop := hK h p = 1 ∧ (hQ h p 0 = some (p + 1) ∧ hQ h p 1 = some (p + 2)) ∧ (hK h (p + 1) = 13 ∧ hL h (p + 1) = 12) ∧ (hK h (p + 2) = 13 ∧ hL h (p + 2) = 12) ∧ (hI h p 6 = nI (dX X d) ∧ hI h p 7 = nI (dYy X d) ∧ hI h p 8 = nI (dAc X d) ∧ hI h p 9 = nI (dLn X d)) ∧ HC h a X ∧ (98 ≤ a ∧ a + 1 < p ∧ p + 10 < 1000000) ∧ (dX X d < 10 ∧ dYy X d < 10 ∧ dAc X d ≤ 1 ∧ 1 ≤ dLn X d ∧ dLn X d ≤ 3)
theorem TC.cg {h g : Hp} {p a d : Nat} {X : Nat → Nat} (t : TC h p a X d) (eK : hK g = hK h) (eL : hL g = hL h) (eQ : hQ g = hQ h) (e1 : hI g p = hI h p) (e2 : hI g a = hI h a) (e3 : hI g (a + 1) = hI h (a + 1)) : TC g p a X d := by
  unfold TC HC at *
  rw [eK, eL, eQ, e1, e2, e3]
  exact t
def ZT (p ix : Nat) : List Nat := [1000000 * (ix + 1) + (p + 1), 1000000 * (ix + 1) + (p + 2)]
theorem TC.fz {h g : Hp} {p a d ix : Nat} {X : Nat → Nat} (t : TC h p a X d) (hz : Fz (ZT p ix) h g) : TC g p a X d := by
  have b := t.2.2.2.2.2.2.1
  have m : ∀ z, z ∈ ZT p ix → z % 1000000 = p + 1 ∨ z % 1000000 = p + 2 := by
    intro z hz
    unfold ZT at hz
    simp only [List.mem_cons, List.not_mem_nil, or_false] at hz
    omega
  exact t.cg hz.K hz.L hz.Q (hz.I (fun z hm => by have := m z hm; omega)) (hz.I (fun z hm => by have := m z hm; omega)) (hz.I (fun z hm => by have := m z hm; omega))
def lfp (X : Nat → Nat) (d g : Nat) (q : Nat × Nat) : Int × Int := (zX (dX X d) (dAc X d) (dLn X d) g q, zY (dYy X d) (dAc X d) (dLn X d) g q)
theorem s_20 {h : Hp} {p a d ix A B : Nat} {X : Nat → Nat} {x y : Int} (t : TC h p a X d) (hi : ix < 12) (hx : -1000 ≤ x ∧ x ≤ 1000) (hy : -1000 ≤ y ∧ y ≤ 1000) (hA : hJ h (p + 1) ix = lN A) (hB : hJ h (p + 2) ix = lN B) :
    ∃ g, f_20 (some p) (nI ix) (zI x) (zI y) h = some g ∧ Fz (ZT p ix) h g ∧ hJ g (p + 1) ix = lN (if inB (x, y) = true ∧ cN (x, y) < 50 then A ||| 2 ^ cN (x, y) else A) ∧ hJ g (p + 2) ix = lN (if inB (x, y) = true ∧ 50 ≤ cN (x, y) then B ||| 2 ^ (cN (x, y) - 50) else B) := by
  obtain ⟨kp, ⟨q0, q1⟩, ⟨k1, l1⟩, ⟨k2, l2⟩, _, _, bb, _⟩ := t
  have no : ¬ (0 ≤ x ∧ x < 10 ∧ 0 ≤ y ∧ y < 10) → inB (x, y) = false := fun c => decide_eq_false c
  have dn : inB (x, y) = false → ∃ g, some h = some g ∧ Fz (ZT p ix) h g ∧ hJ g (p + 1) ix = lN (if inB (x, y) = true ∧ cN (x, y) < 50 then A ||| 2 ^ cN (x, y) else A) ∧ hJ g (p + 2) ix = lN (if inB (x, y) = true ∧ 50 ≤ cN (x, y) then B ||| 2 ^ (cN (x, y) - 50) else B) := fun c => by
    refine ⟨h, rfl, Fz.rfl', ?_, ?_⟩
    · rw [if_neg (by rw [c]; exact fun z => absurd z.1 (by decide))]; exact hA
    · rw [if_neg (by rw [c]; exact fun z => absurd z.1 (by decide))]; exact hB
  have z0 : (0 : Int32) = zI 0 := zI_0
  rw [f_20, b_20_0]
  by_cases c1 : x < 0
  · rw [if_pos (by rw [z0, zI_lt (by omega) (by omega) (by omega) (by omega)]; exact c1), b_20_20]
    exact dn (no (by omega))
  rw [if_neg (by rw [z0, zI_lt (by omega) (by omega) (by omega) (by omega)]; exact c1), b_20_4]
  by_cases c2 : 10 ≤ x
  · rw [if_pos (by rw [nz, zI_le (by omega) (by omega) (by omega) (by omega)]; exact c2), b_20_20]
    exact dn (no (by omega))
  rw [if_neg (by rw [nz, zI_le (by omega) (by omega) (by omega) (by omega)]; exact c2), b_20_10]
  by_cases c3 : y < 0
  · rw [if_pos (by rw [z0, zI_lt (by omega) (by omega) (by omega) (by omega)]; exact c3), b_20_20]
    exact dn (no (by omega))
  rw [if_neg (by rw [z0, zI_lt (by omega) (by omega) (by omega) (by omega)]; exact c3), b_20_14]
  by_cases c4 : y < 10
  · rw [if_pos (by rw [nz, zI_lt (by omega) (by omega) (by omega) (by omega)]; exact c4), b_20_21, zI_cN (by omega), bnd_e]
    have ib : inB (x, y) = true := decide_eq_true (by show 0 ≤ x ∧ x < 10 ∧ 0 ≤ y ∧ y < 10; omega)
    have cl := cN_lt (x := x) (y := y) (by omega)
    generalize cN (x, y) = c at *
    by_cases c5 : 50 ≤ c
    · refine ⟨sJ h (p + 2) ix (lN (B ||| 2 ^ (c - 50))), ?_, Fz.sJ Fz.rfl' (Or.inr (by unfold ZT; simp)), ?_, ?_⟩
      · rw [if_pos (by rw [nI_leI (by omega) (by omega)]; exact c5), b_20_52, gQ_e kp, Option.bind_some, q1, aJ_n k2 l2 hi (by omega), Option.bind_some, hB, pk_sub c5, lN_1shl (by omega), fb_orL, wJ_n k2 (by omega) l2 hi (by omega), Option.bind_some, b_20_68]
      · rw [hJ_sJ, if_neg (by omega), if_neg (by omega)]; exact hA
      · rw [hJ_sJ, if_pos ⟨rfl, rfl⟩, if_pos ⟨ib, c5⟩]
    · refine ⟨sJ h (p + 1) ix (lN (A ||| 2 ^ c)), ?_, Fz.sJ Fz.rfl' (Or.inr (by unfold ZT; simp)), ?_, ?_⟩
      · rw [if_neg (by rw [nI_leI (by omega) (by omega)]; exact c5), b_20_36, gQ_e kp, Option.bind_some, q0, aJ_n k1 l1 hi (by omega), Option.bind_some, hA, lN_1shl (by omega), fb_orL, wJ_n k1 (by omega) l1 hi (by omega), Option.bind_some, b_20_68]
      · rw [hJ_sJ, if_pos ⟨rfl, rfl⟩, if_pos ⟨ib, by omega⟩]
      · rw [hJ_sJ, if_neg (by omega), if_neg (by omega)]; exact hB
  · rw [if_neg (by rw [nz, zI_lt (by omega) (by omega) (by omega) (by omega)]; exact c4), b_20_20]
    exact dn (no (by omega))
theorem s_19 {h : Hp} {p a d i j an : Nat} {X : Nat → Nat} (t : TC h p a X d) (ha : an < 3) (hi : i < 4) (hj : j < 5) : f_19 (some p) (nI an) (nI i) (nI j) h = some (bI (prB (dLn X d) an i j), h) := by
  obtain ⟨kp, _, _, _, ⟨_, _, _, i9⟩, _, _, ⟨_, _, _, n1, n3⟩⟩ := t
  have g9 : gI 1 9 (some p) h = some (nI (dLn X d)) := by rw [gI_e kp, i9]
  generalize dLn X d = n at *
  have sb : nI n - nI 1 = nI (n - 1) := pk_sub n1
  rw [f_19, b_19_0]
  unfold prB
  by_cases a0 : an = 0
  · rw [if_neg (fun z => z (by rw [a0]; rfl)), if_pos a0, b_19_4]
    by_cases c : j = 0
    · rw [if_neg (fun z => z (by rw [c]; rfl)), b_19_8, b_19_13, grd1, Option.bind_some, decide_eq_true c]; rfl
    · rw [if_pos (nI_n0 (by omega) c), b_19_12, b_19_13, grd0, Option.bind_some, decide_eq_false c]; rfl
  · rw [if_pos (nI_n0 (by omega) a0), if_neg a0, b_19_14]
    by_cases a2 : an = 2
    · rw [if_neg (fun z => z (by rw [a2])), if_pos a2, b_19_19]
      by_cases c : i = 0
      · rw [if_neg (fun z => z (by rw [c]; rfl)), b_19_23]
        by_cases c2 : j = 0
        · rw [if_pos (nI_l0 (by omega) c2), b_19_31, b_19_32, grd0, Option.bind_some, decide_eq_false (by omega)]; rfl
        · rw [if_neg (nI_g0 (by omega) (by omega)), b_19_27, b_19_32, grd1, Option.bind_some, decide_eq_true (by omega)]; rfl
      · rw [if_pos (nI_n0 (by omega) c), b_19_31, b_19_32, grd0, Option.bind_some, decide_eq_false (by omega)]; rfl
    · rw [if_pos (nI_nn (by omega) (by omega) a2), if_neg a2, b_19_33]
      have no : ∀ P : Prop, [Decidable P] → ¬ P → b_19_67 h = some (bI (decide P), h) := fun P _ hP => by rw [b_19_67, b_19_68, grd0, Option.bind_some, decide_eq_false hP]; rfl
      have ye : ∀ P : Prop, [Decidable P] → P → b_19_63 h = some (bI (decide P), h) := fun P _ hP => by rw [b_19_63, b_19_68, grd1, Option.bind_some, decide_eq_true hP]; rfl
      by_cases c : j = 0
      · rw [if_pos (nI_l0 (by omega) c)]
        exact no _ (by omega)
      · rw [if_neg (nI_g0 (by omega) (by omega)), b_19_37, g9, Option.bind_some, sb]
        have mx : (if nI 1 < nI (n - 1) then nI (n - 1) else nI 1) = nI (if 1 < n - 1 then n - 1 else 1) := by
          by_cases c : 1 < n - 1
          · rw [if_pos (by rw [nI_ltI (by omega) (by omega)]; exact c), if_pos c]
          · rw [if_neg (by rw [nI_ltI (by omega) (by omega)]; exact c), if_neg c]
        rw [mx]
        generalize hm : (if 1 < n - 1 then n - 1 else 1) = m at *
        have ml : m ≤ 3 := by rw [← hm]; split <;> omega
        by_cases c2 : m < j
        · rw [if_pos (by rw [nI_ltI (by omega) (by omega)]; exact c2)]
          exact no _ (by omega)
        · rw [if_neg (by rw [nI_ltI (by omega) (by omega)]; exact c2), b_19_51]
          by_cases c3 : j = i
          · rw [if_pos (by rw [c3])]
            exact ye _ (by omega)
          · rw [if_neg (nI_nn (by omega) (by omega) c3), b_19_56, nI_add]
            by_cases c4 : j = i + 1
            · rw [if_neg (fun z => z (by rw [c4]))]
              exact ye _ (by omega)
            · rw [if_pos (nI_nn (by omega) (by omega) c4)]
              exact no _ (by omega)
