/-! fixed places stay -/
theorem Fix_sI {h : Hp} {a k : Nat} (ha : 30 ≤ a) (x : Int32) : Fix (sI h a k x) ↔ Fix h := by
  have e (b : Nat) (hb : b < 30) : hI (sI h a k x) b = hI h b := by funext j; rw [hI_sI, if_neg (by omega)]
  unfold Fix
  rw [e 27 (by decide), e 28 (by decide)]
  exact Iff.rfl
theorem Fix_sJ {h : Hp} {a k : Nat} (ha : 30 ≤ a) (x : Int64) : Fix (sJ h a k x) ↔ Fix h := by
  have e (b : Nat) (hb : b < 30) : hJ (sJ h a k x) b = hJ h b := by funext j; rw [hJ_sJ, if_neg (by omega)]
  constructor
  · rintro ⟨h1, h2, h3, h4, h5, h6, h7⟩
    refine ⟨h1, h2, h3, h4, fun j hj => ?_, h6, h7⟩
    have := h5 j hj
    rw [e j (by omega)] at this
    exact this
  · rintro ⟨h1, h2, h3, h4, h5, h6, h7⟩
    refine ⟨h1, h2, h3, h4, fun j hj => ?_, h6, h7⟩
    rw [e j (by omega)]
    exact h5 j hj

theorem fx_sI {h : Hp} {a k : Nat} {x : Int32} (hF : Fix h) (ha : 30 ≤ a) : Fix (sI h a k x) := (Fix_sI ha x).2 hF
theorem fx_sJ {h : Hp} {a k : Nat} {x : Int64} (hF : Fix h) (ha : 30 ≤ a) : Fix (sJ h a k x) := (Fix_sJ ha x).2 hF
theorem i32_le (a b : Int32) : (a ≤ b) = ¬ b < a := by
  apply propext
  rw [Int32.le_iff_toInt_le, Int32.lt_iff_toInt_lt]
  omega
/-- a number from -1 on, told by one more -/
def mI (n : Nat) : Int32 := if n = 0 then -1 else nI (n - 1)
theorem mI_0 : mI 0 = -1 := rfl
theorem mI_s (n : Nat) : mI (n + 1) = nI n := rfl
theorem mI_lt0 {n : Nat} (hn : n < 2147483648) : mI n < 0 ↔ n = 0 := by
  cases n with
  | zero => decide
  | succ n => rw [mI_s]; constructor
              · intro z; exact absurd z (nI_pos (by omega))
              · intro z; cases z
theorem mI_inj {a b : Nat} (ha : a < 2147483648) (hb : b < 2147483648) : mI a = mI b ↔ a = b := by
  cases a with
  | zero => cases b with
    | zero => simp
    | succ b => rw [mI_s, mI_0]; constructor
                · intro z
                  have := congrArg Int32.toInt z
                  rw [nI_toInt (by omega)] at this
                  have e : (-1 : Int32).toInt = -1 := by decide
                  rw [e] at this
                  omega
                · intro z; cases z
  | succ a => cases b with
    | zero => rw [mI_s, mI_0]; constructor
              · intro z
                have := congrArg Int32.toInt z
                rw [nI_toInt (by omega)] at this
                have e : (-1 : Int32).toInt = -1 := by decide
                rw [e] at this
                omega
              · intro z; cases z
    | succ b => rw [mI_s, mI_s, nI_eq (by omega) (by omega)]; omega
/-- what a run leaves alone: no cell made, no pointer set, ints and longs outside Z as they were. In Z stands a whole place a by a, the number k of a place a by 1000000 * (k + 1) + a -/
def Fz (Z : List Nat) (h g : Hp) : Prop := hK g = hK h ∧ hL g = hL h ∧ hQ g = hQ h ∧ hN g = hN h ∧ hC g = hC h ∧ hS g = hS h ∧ ∀ a j, a < 1000000 → a ∉ Z → 1000000 * (j + 1) + a ∉ Z → hI g a j = hI h a j ∧ hJ g a j = hJ h a j
theorem Fz.rfl' {Z : List Nat} {h : Hp} : Fz Z h h := ⟨rfl, rfl, rfl, rfl, rfl, rfl, fun _ _ _ _ _ => ⟨rfl, rfl⟩⟩
theorem Fz.K {Z : List Nat} {h g : Hp} (h1 : Fz Z h g) : hK g = hK h := h1.1
theorem Fz.L {Z : List Nat} {h g : Hp} (h1 : Fz Z h g) : hL g = hL h := h1.2.1
theorem Fz.Q {Z : List Nat} {h g : Hp} (h1 : Fz Z h g) : hQ g = hQ h := h1.2.2.1
theorem Fz.N {Z : List Nat} {h g : Hp} (h1 : Fz Z h g) : hN g = hN h := h1.2.2.2.1
theorem Fz.C {Z : List Nat} {h g : Hp} (h1 : Fz Z h g) : hC g = hC h := h1.2.2.2.2.1
theorem Fz.S {Z : List Nat} {h g : Hp} (h1 : Fz Z h g) : hS g = hS h := h1.2.2.2.2.2.1
/-- the frame is wider: a place or number stands there, or its whole place does -/
theorem Fz.wid {Y Z : List Nat} {h g : Hp} (h1 : Fz Y h g) (hs : ∀ z, z ∈ Y → z ∈ Z ∨ z % 1000000 ∈ Z) : Fz Z h g := by
  obtain ⟨a1, a2, a3, a4, a5, a6, a7⟩ := h1
  refine ⟨a1, a2, a3, a4, a5, a6, fun a j hl ha hb => a7 a j hl (fun z => ?_) (fun z => ?_)⟩
  · rcases hs _ z with q | q
    · exact ha q
    · rw [Nat.mod_eq_of_lt hl] at q; exact ha q
  · rcases hs _ z with q | q
    · exact hb q
    · rw [show (1000000 * (j + 1) + a) % 1000000 = a by omega] at q; exact ha q
theorem Fz.then {Z : List Nat} {h g f : Hp} (h1 : Fz Z h g) (h2 : Fz Z g f) : Fz Z h f := by
  obtain ⟨a1, a2, a3, a4, a5, a6, a7⟩ := h1
  obtain ⟨b1, b2, b3, b4, b5, b6, b7⟩ := h2
  exact ⟨b1.trans a1, b2.trans a2, b3.trans a3, b4.trans a4, b5.trans a5, b6.trans a6, fun a j hl ha hb => ⟨(b7 a j hl ha hb).1.trans (a7 a j hl ha hb).1, (b7 a j hl ha hb).2.trans (a7 a j hl ha hb).2⟩⟩
theorem Fz.trans {Y Z : List Nat} {h g f : Hp} (h1 : Fz Y h g) (h2 : Fz Z g f) : Fz (Y ++ Z) h f := (h1.wid (fun a ha => Or.inl (List.mem_append.2 (Or.inl ha)))).then (h2.wid (fun a ha => Or.inl (List.mem_append.2 (Or.inr ha))))
theorem Fz.sI {Z : List Nat} {h g : Hp} (h1 : Fz Z h g) {a k : Nat} {x : Int32} (ha : a ∈ Z ∨ 1000000 * (k + 1) + a ∈ Z) : Fz Z h (sI g a k x) := by
  obtain ⟨a1, a2, a3, a4, a5, a6, a7⟩ := h1
  refine ⟨a1, a2, a3, a4, a5, a6, fun b j hl hb hc => ⟨?_, (a7 b j hl hb hc).2⟩⟩
  rw [← (a7 b j hl hb hc).1, hI_sI, if_neg]
  rintro ⟨e, f⟩
  subst e f
  exact ha.elim hb hc
theorem Fz.sJ {Z : List Nat} {h g : Hp} (h1 : Fz Z h g) {a k : Nat} {x : Int64} (ha : a ∈ Z ∨ 1000000 * (k + 1) + a ∈ Z) : Fz Z h (sJ g a k x) := by
  obtain ⟨a1, a2, a3, a4, a5, a6, a7⟩ := h1
  refine ⟨a1, a2, a3, a4, a5, a6, fun b j hl hb hc => ⟨(a7 b j hl hb hc).1, ?_⟩⟩
  rw [← (a7 b j hl hb hc).2, hJ_sJ, if_neg]
  rintro ⟨e, f⟩
  subst e f
  exact ha.elim hb hc
theorem Fz.I1 {Z : List Nat} {h g : Hp} (h1 : Fz Z h g) {a j : Nat} (ha : a ∉ Z) (hb : 1000000 * (j + 1) + a ∉ Z) (hl : a < 1000000 := by omega) : hI g a j = hI h a j := (h1.2.2.2.2.2.2 a j hl ha hb).1
theorem Fz.J1 {Z : List Nat} {h g : Hp} (h1 : Fz Z h g) {a j : Nat} (ha : a ∉ Z) (hb : 1000000 * (j + 1) + a ∉ Z) (hl : a < 1000000 := by omega) : hJ g a j = hJ h a j := (h1.2.2.2.2.2.2 a j hl ha hb).2
theorem Fz.I {Z : List Nat} {h g : Hp} (h1 : Fz Z h g) {a : Nat} (ha : ∀ z, z ∈ Z → z % 1000000 ≠ a) (hl : a < 1000000 := by omega) : hI g a = hI h a := by
  funext j
  exact h1.I1 (fun z => ha _ z (by omega)) (fun z => ha _ z (by omega)) hl
theorem Fz.J {Z : List Nat} {h g : Hp} (h1 : Fz Z h g) {a : Nat} (ha : ∀ z, z ∈ Z → z % 1000000 ≠ a) (hl : a < 1000000 := by omega) : hJ g a = hJ h a := by
  funext j
  exact h1.J1 (fun z => ha _ z (by omega)) (fun z => ha _ z (by omega)) hl
theorem Fz.fix {Z : List Nat} {h g : Hp} (h1 : Fz Z h g) (hF : Fix h) (hZ : ∀ a, a ∈ Z → 30 ≤ a % 1000000) : Fix g := by
  obtain ⟨b1, b2, b3, b4, b5, b6, b7⟩ := hF
  have z (j : Nat) (hj : j < 30) : ∀ z, z ∈ Z → z % 1000000 ≠ j := fun m hm => by have := hZ m hm; omega
  refine ⟨by rw [h1.N]; exact b1, by rw [h1.K]; exact b2, by rw [h1.L]; exact b3, by rw [h1.Q]; exact b4, fun j hj => ?_, ?_, ?_⟩
  · rw [h1.J (z j (by omega)), h1.Q]; exact b5 j hj
  · rw [h1.I (z 27 (by omega))]; exact b6
  · rw [h1.I (z 28 (by omega))]; exact b7
