/-! fixed places stay -/
theorem Fix_sI {h : Hp} {a k : Nat} (ha : 30 ≤ a) (x : Int32) : Fix (sI h a k x) ↔ Fix h := by
  have e (b : Nat) (hb : b < 30) : hI (sI h a k x) b = hI h b := by funext j; rw [hI_sI, if_neg (by omega)]
  unfold Fix
  rw [e 27 (by decide), e 28 (by decide)]
  exact Iff.rfl
theorem Fix_sJ {h : Hp} {a k : Nat} (ha : 30 ≤ a) (x : Int64) : Fix (sJ h a k x) ↔ Fix h := by
  have e (b : Nat) (hb : b < 30) : hJ (sJ h a k x) b = hJ h b := by funext j; rw [hJ_sJ, if_neg (by omega)]
  constructor
  · rintro ⟨h1, h2, h3, h4, h5, h6, h7⟩
    refine ⟨h1, h2, h3, h4, fun j hj => ?_, h6, h7⟩
    have := h5 j hj
    rw [e j (by omega)] at this
    exact this
  · rintro ⟨h1, h2, h3, h4, h5, h6, h7⟩
    refine ⟨h1, h2, h3, h4, fun j hj => ?_, h6, h7⟩
    rw [e j (by omega)]
    exact h5 j hj

theorem i32_le (a b : Int32) : (a ≤ b) = ¬ b < a := by
  apply propext
  rw [Int32.le_iff_toInt_le, Int32.lt_iff_toInt_lt]
  omega
/-- a number from -1 on, told by one more -/
def mI (n : Nat) : Int32 := if n = 0 then -1 else nI (n - 1)
theorem mI_0 : mI 0 = -1 := rfl
theorem mI_s (n : Nat) : mI (n + 1) = nI n := rfl
theorem mI_lt0 {n : Nat} (hn : n < 2147483648) : mI n < 0 ↔ n = 0 := by
  cases n with
  | zero => decide
  | succ n => rw [mI_s]; constructor
              · intro z; exact absurd z (nI_pos (by omega))
              · intro z; cases z
theorem mI_inj {a b : Nat} (ha : a < 2147483648) (hb : b < 2147483648) : mI a = mI b ↔ a = b := by
  cases a with
  | zero => cases b with
    | zero => simp
    | succ b => rw [mI_s, mI_0]; constructor
                · intro z
                  have := congrArg Int32.toInt z
                  rw [nI_toInt (by omega)] at this
                  have e : (-1 : Int32).toInt = -1 := by decide
                  rw [e] at this
                  omega
                · intro z; cases z
  | succ a => cases b with
    | zero => rw [mI_s, mI_0]; constructor
              · intro z
                have := congrArg Int32.toInt z
                rw [nI_toInt (by omega)] at this
                have e : (-1 : Int32).toInt = -1 := by decide
                rw [e] at this
                omega
              · intro z; cases z
    | succ b => rw [mI_s, mI_s, nI_eq (by omega) (by omega)]; omega
/-- what a run leaves alone: no cell made, no pointer set, ints and longs outside Z as they were -/
def Fz (Z : List Nat) (h g : Hp) : Prop := hK g = hK h ∧ hL g = hL h ∧ hQ g = hQ h ∧ hN g = hN h ∧ hC g = hC h ∧ hS g = hS h ∧ ∀ a, a ∉ Z → hI g a = hI h a ∧ hJ g a = hJ h a
theorem Fz.rfl' {Z : List Nat} {h : Hp} : Fz Z h h := ⟨rfl, rfl, rfl, rfl, rfl, rfl, fun _ _ => ⟨rfl, rfl⟩⟩
theorem Fz.trans {Y Z : List Nat} {h g f : Hp} (h1 : Fz Y h g) (h2 : Fz Z g f) : Fz (Y ++ Z) h f := by
  obtain ⟨a1, a2, a3, a4, a5, a6, a7⟩ := h1
  obtain ⟨b1, b2, b3, b4, b5, b6, b7⟩ := h2
  refine ⟨b1.trans a1, b2.trans a2, b3.trans a3, b4.trans a4, b5.trans a5, b6.trans a6, fun a ha => ?_⟩
  rw [List.mem_append, not_or] at ha
  exact ⟨(b7 a ha.2).1.trans (a7 a ha.1).1, (b7 a ha.2).2.trans (a7 a ha.1).2⟩
theorem Fz.wid {Y Z : List Nat} {h g : Hp} (h1 : Fz Y h g) (hs : ∀ a, a ∈ Y → a ∈ Z) : Fz Z h g := by
  obtain ⟨a1, a2, a3, a4, a5, a6, a7⟩ := h1
  exact ⟨a1, a2, a3, a4, a5, a6, fun a ha => a7 a (fun z => ha (hs a z))⟩
theorem Fz.then {Z : List Nat} {h g f : Hp} (h1 : Fz Z h g) (h2 : Fz Z g f) : Fz Z h f := (h1.trans h2).wid (fun a ha => by rw [List.mem_append] at ha; rcases ha with z | z <;> exact z)
theorem Fz.sI {Z : List Nat} {h g : Hp} (h1 : Fz Z h g) {a k : Nat} {x : Int32} (ha : a ∈ Z) : Fz Z h (sI g a k x) := by
  obtain ⟨a1, a2, a3, a4, a5, a6, a7⟩ := h1
  refine ⟨a1, a2, a3, a4, a5, a6, fun b hb => ⟨?_, (a7 b hb).2⟩⟩
  rw [← (a7 b hb).1]
  funext j
  rw [hI_sI, if_neg]
  rintro ⟨e, _⟩
  exact hb (e ▸ ha)
theorem Fz.sJ {Z : List Nat} {h g : Hp} (h1 : Fz Z h g) {a k : Nat} {x : Int64} (ha : a ∈ Z) : Fz Z h (sJ g a k x) := by
  obtain ⟨a1, a2, a3, a4, a5, a6, a7⟩ := h1
  refine ⟨a1, a2, a3, a4, a5, a6, fun b hb => ⟨(a7 b hb).1, ?_⟩⟩
  rw [← (a7 b hb).2]
  funext j
  rw [hJ_sJ, if_neg]
  rintro ⟨e, _⟩
  exact hb (e ▸ ha)
theorem Fz.fix {Z : List Nat} {h g : Hp} (h1 : Fz Z h g) (hF : Fix h) (hZ : ∀ a, a ∈ Z → 30 ≤ a) : Fix g := by
  obtain ⟨a1, a2, a3, a4, a5, a6, a7⟩ := h1
  obtain ⟨b1, b2, b3, b4, b5, b6, b7⟩ := hF
  have z (j : Nat) (hj : j < 30) : j ∉ Z := fun m => by have := hZ j m; omega
  refine ⟨by rw [a4]; exact b1, by rw [a1]; exact b2, by rw [a2]; exact b3, by rw [a3]; exact b4, fun j hj => ?_, ?_, ?_⟩
  · rw [(a7 j (z j (by omega))).2, a3]; exact b5 j hj
  · rw [(a7 27 (z 27 (by omega))).1]; exact b6
  · rw [(a7 28 (z 28 (by omega))).1]; exact b7
theorem Fz.I {Z : List Nat} {h g : Hp} (h1 : Fz Z h g) {a : Nat} (ha : a ∉ Z) : hI g a = hI h a := (h1.2.2.2.2.2.2 a ha).1
theorem Fz.J {Z : List Nat} {h g : Hp} (h1 : Fz Z h g) {a : Nat} (ha : a ∉ Z) : hJ g a = hJ h a := (h1.2.2.2.2.2.2 a ha).2
