/-! heaps written and read; helpers at known kinds -/
section HB
variable {h : Hp} {a b k j : Nat}
theorem hK_sI (x : Int32) : hK (sI h a k x) = hK h := rfl
theorem hL_sI (x : Int32) : hL (sI h a k x) = hL h := rfl
theorem hJ_sI (x : Int32) : hJ (sI h a k x) = hJ h := rfl
theorem hQ_sI (x : Int32) : hQ (sI h a k x) = hQ h := rfl
theorem hN_sI (x : Int32) : hN (sI h a k x) = hN h := rfl
theorem hC_sI (x : Int32) : hC (sI h a k x) = hC h := rfl
theorem hS_sI (x : Int32) : hS (sI h a k x) = hS h := rfl
theorem hI_sI (x : Int32) : hI (sI h a k x) b j = if b = a ∧ j = k then x else hI h b j := by
  show up2 (hI h) a k x b j = _
  unfold up2
  by_cases h1 : b = a <;> by_cases h2 : j = k <;> simp [h1, h2]
theorem hK_sJ (x : Int64) : hK (sJ h a k x) = hK h := rfl
theorem hL_sJ (x : Int64) : hL (sJ h a k x) = hL h := rfl
theorem hI_sJ (x : Int64) : hI (sJ h a k x) = hI h := rfl
theorem hQ_sJ (x : Int64) : hQ (sJ h a k x) = hQ h := rfl
theorem hN_sJ (x : Int64) : hN (sJ h a k x) = hN h := rfl
theorem hC_sJ (x : Int64) : hC (sJ h a k x) = hC h := rfl
theorem hS_sJ (x : Int64) : hS (sJ h a k x) = hS h := rfl
theorem hJ_sJ (x : Int64) : hJ (sJ h a k x) b j = if b = a ∧ j = k then x else hJ h b j := by
  show up2 (hJ h) a k x b j = _
  unfold up2
  by_cases h1 : b = a <;> by_cases h2 : j = k <;> simp [h1, h2]
theorem hK_sQ (x : Option Nat) : hK (sQ h a k x) = hK h := rfl
theorem hL_sQ (x : Option Nat) : hL (sQ h a k x) = hL h := rfl
theorem hI_sQ (x : Option Nat) : hI (sQ h a k x) = hI h := rfl
theorem hJ_sQ (x : Option Nat) : hJ (sQ h a k x) = hJ h := rfl
theorem hN_sQ (x : Option Nat) : hN (sQ h a k x) = hN h := rfl
theorem hC_sQ (x : Option Nat) : hC (sQ h a k x) = hC h := rfl
theorem hS_sQ (x : Option Nat) : hS (sQ h a k x) = hS h := rfl
theorem hQ_sQ (x : Option Nat) : hQ (sQ h a k x) b j = if b = a ∧ j = k then x else hQ h b j := by
  show up2 (hQ h) a k x b j = _
  unfold up2
  by_cases h1 : b = a <;> by_cases h2 : j = k <;> simp [h1, h2]
theorem bd_in_nI {i n : Nat} (hi : i < n) (hn : i < 2147483648) : bd_in (nI i) n = true := by
  unfold bd_in
  rw [nI_toInt (by omega)]
  exact decide_eq_true ⟨by omega, by omega⟩
theorem gI_e {c : Nat} (hk : hK h a = c) : gI c k (some a) h = some (hI h a k) := by unfold gI; dsimp only; rw [if_pos hk]
theorem gJ_e {c : Nat} (hk : hK h a = c) : gJ c k (some a) h = some (hJ h a k) := by unfold gJ; dsimp only; rw [if_pos hk]
theorem gQ_e {c : Nat} (hk : hK h a = c) : gQ c k (some a) h = some (hQ h a k) := by unfold gQ; dsimp only; rw [if_pos hk]
theorem pI_e {c : Nat} {x : Int32} (hk : hK h a = c) (ha : 30 ≤ a) : pI c k (some a) x h = some (sI h a k x) := by unfold pI; dsimp only; rw [if_pos ⟨hk, ha⟩]
theorem pZ_e {c : Nat} {x : Int32} (hk : hK h a = c) (ha : 30 ≤ a) (hx : x = 0 ∨ x = 1) : pZ c k (some a) x h = some (sI h a k x) := by unfold pZ; dsimp only; rw [if_pos ⟨hk, ha, hx⟩]
theorem pJ_e {c : Nat} {x : Int64} (hk : hK h a = c) (ha : 30 ≤ a) : pJ c k (some a) x h = some (sJ h a k x) := by unfold pJ; dsimp only; rw [if_pos ⟨hk, ha⟩]
theorem pQ_e {c : Nat} {x : Option Nat} (hk : hK h a = c) (ha : 30 ≤ a) : pQ c k (some a) x h = some (sQ h a k x) := by unfold pQ; dsimp only; rw [if_pos ⟨hk, ha⟩]
theorem rC_e {c : Nat} (hk : hK h a = c) (ha : 30 ≤ a) : rC c (some a) h = true := decide_eq_true ⟨hk, ha⟩
theorem aI_e {ar i : Nat} (hk : hK h a = ar) (hi : i < hL h a) (hn : i < 2147483647) : aI ar (some a) (nI i) h = some (hI h a i) := by
  unfold aI
  dsimp only
  rw [if_pos ⟨hk, bd_in_nI hi (by omega)⟩, nI_clamp (by omega)]
theorem aJ_e {i : Nat} (hk : hK h a = 13) (hi : i < hL h a) (hn : i < 2147483647) : aJ (some a) (nI i) h = some (hJ h a i) := by
  unfold aJ
  dsimp only
  rw [if_pos ⟨hk, bd_in_nI hi (by omega)⟩, nI_clamp (by omega)]
theorem aQ_e {i : Nat} (hk : 15 ≤ hK h a ∧ hK h a ≤ 20 ∧ hK h a ≠ 19) (hi : i < hL h a) (hn : i < 2147483647) : aQ (some a) (nI i) h = some (hQ h a i) := by
  unfold aQ
  dsimp only
  rw [if_pos ⟨hk.1, hk.2.1, hk.2.2, bd_in_nI hi (by omega)⟩, nI_clamp (by omega)]
theorem wI_e {i : Nat} {x : Int32} (hk : hK h a = 12) (ha : 30 ≤ a) (hi : i < hL h a) (hn : i < 2147483647) : wI (some a) (nI i) x h = some (sI h a i x) := by
  unfold wI
  dsimp only
  rw [if_pos ⟨hk, ha, bd_in_nI hi (by omega)⟩, nI_clamp (by omega)]
theorem wZ_e {i : Nat} {x : Int32} (hk : hK h a = 14) (ha : 30 ≤ a) (hi : i < hL h a) (hn : i < 2147483647) : wZ (some a) (nI i) x h = some (sI h a i (x &&& 1)) := by
  unfold wZ
  dsimp only
  rw [if_pos ⟨hk, ha, bd_in_nI hi (by omega)⟩, nI_clamp (by omega)]
theorem wJ_e {i : Nat} {x : Int64} (hk : hK h a = 13) (ha : 30 ≤ a) (hi : i < hL h a) (hn : i < 2147483647) : wJ (some a) (nI i) x h = some (sJ h a i x) := by
  unfold wJ
  dsimp only
  rw [if_pos ⟨hk, ha, bd_in_nI hi (by omega)⟩, nI_clamp (by omega)]
theorem aL_e {ar n : Nat} (hk : hK h a = ar) (hl : hL h a = n) (har : 12 ≤ ar ∧ ar ≤ 20 ∧ ar ≠ 19) : aL (some a) h = some (nI n) := by
  unfold aL
  dsimp only
  rw [if_pos (by rw [hk]; exact har), hl]
  rfl
theorem nA_e {ar n : Nat} (har : 12 ≤ ar ∧ ar ≤ 18) (hn : n < 100000) : nA ar (nI n) h = some (hNew h ar n n) := by
  unfold nA
  rw [if_pos ⟨har.1, har.2, bd_in_nI hn (by omega)⟩, nI_clamp (by omega)]
theorem bnd_e {α β : Type} (e : α) (F : α → Option β) : bnd e F = F e := rfl
theorem grd_e : grd true = some () := rfl
theorem grd0 : grd (decide (nI 0 = 0 ∨ nI 0 = 1)) = some () := rfl
theorem grd1 : grd (decide (nI 1 = 0 ∨ nI 1 = 1)) = some () := rfl
/-- a boolean as an int -/
def bI (b : Bool) : Int32 := if b = true then nI 1 else nI 0
theorem bI_t : bI true = nI 1 := rfl
theorem bI_f : bI false = nI 0 := rfl
theorem bI_0 {b : Bool} : bI b = 0 ↔ b = false := by cases b <;> decide
theorem bI_01 {b : Bool} : bI b = 0 ∨ bI b = 1 := by cases b <;> decide
theorem bI_inj {b c : Bool} : bI b = bI c ↔ b = c := by cases b <;> cases c <;> decide
theorem FU_big : 90000 ≤ FU := by decide
theorem nI10 : ¬ (nI 1 = 0) := by decide
theorem nI00 : (nI 0 = 0) = True := eq_true rfl
end HB
