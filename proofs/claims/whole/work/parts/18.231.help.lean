/-! more helpers: arrays of a known length, booleans -/
section HH
variable {h : Hp} {a : Nat}
theorem aI_n {ar n i : Nat} (hk : hK h a = ar) (hl : hL h a = n) (hi : i < n) (hn : n ≤ 100000) : aI ar (some a) (nI i) h = some (hI h a i) := aI_e hk (by omega) (by omega)
theorem aJ_n {n i : Nat} (hk : hK h a = 13) (hl : hL h a = n) (hi : i < n) (hn : n ≤ 100000) : aJ (some a) (nI i) h = some (hJ h a i) := aJ_e hk (by omega) (by omega)
theorem wI_n {n i : Nat} {x : Int32} (hk : hK h a = 12) (ha : 30 ≤ a) (hl : hL h a = n) (hi : i < n) (hn : n ≤ 100000) : wI (some a) (nI i) x h = some (sI h a i x) := wI_e hk ha (by omega) (by omega)
theorem wJ_n {n i : Nat} {x : Int64} (hk : hK h a = 13) (ha : 30 ≤ a) (hl : hL h a = n) (hi : i < n) (hn : n ≤ 100000) : wJ (some a) (nI i) x h = some (sJ h a i x) := wJ_e hk ha (by omega) (by omega)
theorem aQ_n {ar n i : Nat} (hk : hK h a = ar) (har : 15 ≤ ar ∧ ar ≤ 18) (hl : hL h a = n) (hi : i < n) (hn : n ≤ 100000) : aQ (some a) (nI i) h = some (hQ h a i) := aQ_e (by omega) (by omega) (by omega)
end HH
theorem bI_T {P : Prop} [Decidable P] (h : P) : bI (decide P) = nI 1 := by unfold bI; rw [decide_eq_true h, if_pos rfl]
theorem bI_F {P : Prop} [Decidable P] (h : ¬ P) : bI (decide P) = nI 0 := by unfold bI; rw [decide_eq_false h]; rfl
theorem bI_0' (b : Bool) : (bI b = 0) = (b = false) := propext bI_0
theorem grdB (b : Bool) : grd (decide (bI b = 0 ∨ bI b = 1)) = some () := by cases b <;> rfl
theorem ifB {α : Type} {b : Bool} (x y : α) : (if b = false then x else y) = if b = true then y else x := by cases b <;> rfl
theorem nIb (b : Bool) : (nI (if b = true then 1 else 0)) = bI b := by cases b <;> rfl
theorem toI_nI {n : Nat} (h : n < 2147483648) : (nI n).toInt = (n : Int) := nI_toInt h
theorem toI_0 : (0 : Int32).toInt = 0 := by decide
theorem toI_m1 : (-1 : Int32).toInt = -1 := by decide
/-- bits of the masks -/
theorem tb_or2 (m k c : Nat) : (m ||| 2 ^ k).testBit c = (m.testBit c || decide (c = k)) := fb_bit_set m k c
theorem loM_tb (l : List (Int × Int)) (c : Nat) (hc : c < 50) : (loM l).testBit c = l.any (fun p => inB p && cN p == c) := by
  have key : ∀ (l : List (Int × Int)) (m : Nat), (l.foldl (fun m p => if inB p = true ∧ cN p < 50 then m ||| 2 ^ cN p else m) m).testBit c = (m.testBit c || l.any (fun p => inB p && cN p == c)) := by
    intro l
    induction l with
    | nil => intro m; simp
    | cons p l ih =>
      intro m
      rw [List.foldl_cons, ih, List.any_cons]
      by_cases h1 : inB p = true ∧ cN p < 50
      · rw [if_pos h1, tb_or2, h1.1, Bool.true_and]
        by_cases h2 : c = cN p
        · simp [h2]
        · have h3 : (cN p == c) = false := by simp; exact fun z => h2 z.symm
          rw [h3, decide_eq_false h2]
          simp
      · rw [if_neg h1]
        have h3 : (inB p && cN p == c) = false := by
          cases hb : inB p with
          | false => rfl
          | true =>
            have : ¬ cN p < 50 := fun z => h1 ⟨hb, z⟩
            simp
            omega
        rw [h3, Bool.false_or]
  unfold loM
  rw [key l 0]
  simp
theorem hiM_tb (l : List (Int × Int)) (c : Nat) : (hiM l).testBit c = l.any (fun p => inB p && cN p == c + 50) := by
  have key : ∀ (l : List (Int × Int)) (m : Nat), (l.foldl (fun m p => if inB p = true ∧ 50 ≤ cN p then m ||| 2 ^ (cN p - 50) else m) m).testBit c = (m.testBit c || l.any (fun p => inB p && cN p == c + 50)) := by
    intro l
    induction l with
    | nil => intro m; simp
    | cons p l ih =>
      intro m
      rw [List.foldl_cons, ih, List.any_cons]
      by_cases h1 : inB p = true ∧ 50 ≤ cN p
      · rw [if_pos h1, tb_or2, h1.1, Bool.true_and]
        by_cases h2 : c = cN p - 50
        · have : cN p = c + 50 := by omega
          simp [this]
        · have h3 : (cN p == c + 50) = false := by simp; omega
          rw [h3, decide_eq_false h2]
          simp
      · rw [if_neg h1]
        have h3 : (inB p && cN p == c + 50) = false := by
          cases hb : inB p with
          | false => rfl
          | true =>
            have : ¬ 50 ≤ cN p := fun z => h1 ⟨hb, z⟩
            simp
            omega
        rw [h3, Bool.false_or]
  unfold hiM
  rw [key l 0]
  simp
theorem inB_lt {p : Int × Int} (h : inB p = true) : cN p < 100 := by
  unfold inB at h
  have := of_decide_eq_true h
  unfold cN
  omega
theorem or_lt {a b k : Nat} (ha : a < 2 ^ k) (hb : b < 2 ^ k) : a ||| b < 2 ^ k := Nat.or_lt_two_pow ha hb
theorem loM_lt (l : List (Int × Int)) : loM l < 2 ^ 50 := by
  have key : ∀ (l : List (Int × Int)) (m : Nat), m < 2 ^ 50 → l.foldl (fun m p => if inB p = true ∧ cN p < 50 then m ||| 2 ^ cN p else m) m < 2 ^ 50 := by
    intro l
    induction l with
    | nil => intro m hm; exact hm
    | cons p l ih =>
      intro m hm
      rw [List.foldl_cons]
      apply ih
      by_cases h1 : inB p = true ∧ cN p < 50
      · rw [if_pos h1]; exact or_lt hm (pw_lt h1.2)
      · rw [if_neg h1]; exact hm
  exact key l 0 (by decide)
theorem hiM_lt (l : List (Int × Int)) : hiM l < 2 ^ 50 := by
  have key : ∀ (l : List (Int × Int)) (m : Nat), m < 2 ^ 50 → l.foldl (fun m p => if inB p = true ∧ 50 ≤ cN p then m ||| 2 ^ (cN p - 50) else m) m < 2 ^ 50 := by
    intro l
    induction l with
    | nil => intro m hm; exact hm
    | cons p l ih =>
      intro m hm
      rw [List.foldl_cons]
      apply ih
      by_cases h1 : inB p = true ∧ 50 ≤ cN p
      · rw [if_pos h1]; exact or_lt hm (pw_lt (by have := inB_lt h1.1; omega))
      · rw [if_neg h1]; exact hm
  exact key l 0 (by decide)
