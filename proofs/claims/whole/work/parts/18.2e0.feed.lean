/-! text comes: both -/
def btE (x : Int32) (k : Int32) : Int32 := ((x.toUInt32 >>> (k.toUInt32 &&& Int32.toUInt32 31)).toInt32) &&& nI 255
def btN (x : Int32) (i : Nat) : Nat := (btE x (nI (24 - 8 * i))).toBitVec.toNat
theorem and255 (y : Int32) : (y &&& nI 255).toBitVec.toNat < 256 := by
  show (y.toBitVec &&& BitVec.ofNat 32 255).toNat < 256
  rw [BitVec.toNat_and]
  exact Nat.lt_of_le_of_lt Nat.and_le_right (by decide)
theorem i32_nI (y : Int32) : y = nI y.toBitVec.toNat := by
  apply Int32.toBitVec_inj.1
  show y.toBitVec = BitVec.ofNat 32 y.toBitVec.toNat
  rw [BitVec.ofNat_toNat, BitVec.setWidth_eq]
theorem btN_e (x : Int32) (i : Nat) : btE x (nI (24 - 8 * i)) = nI (btN x i) := i32_nI _
theorem btN_lt (x : Int32) (i : Nat) : btN x i < 256 := and255 _
theorem s_115 {h : Hp} {x : Int32} {n : Nat} (hF : Fix h) (h1 : hI h 31 1 = nI n) (hn : n + 4 ≤ 940) : ∃ g, f_115 (some 31) x h = some g ∧ Fz [2000031, 32] h g ∧ hI g 31 1 = nI (n + 4) ∧ ∀ j, hI g 32 j = if n ≤ j ∧ j < n + 4 then nI (btN x (j - n)) else hI h 32 j := by
  have key : ∀ r i m g, i + r = 4 → Fix g → hI g 31 1 = nI (n + i) → ∃ f, l_115_3 (r + 1 + m) (some 31) x (zI (24 - 8 * (i : Int))) g = some f ∧ Fz [2000031, 32] g f ∧ hI f 31 1 = nI (n + 4) ∧ ∀ j, hI f 32 j = if n + i ≤ j ∧ j < n + 4 then nI (btN x (j - n)) else hI g 32 j := by
    intro r
    induction r with
    | zero =>
      intro i m g hi F h2
      have ei : i = 4 := by omega
      subst ei
      refine ⟨g, ?_, Fz.rfl', h2, fun j => by rw [if_neg (by omega)]⟩
      rw [Nat.zero_add, Nat.add_comm 1 m, l_115_3, b_115_3, if_pos (show zI (24 - 8 * ((4 : Nat) : Int)) < 0 by decide), b_115_39]
    | succ r ih =>
      intro i m g hi F h2
      have ez : zI (24 - 8 * (i : Int)) = nI (24 - 8 * i) := by rw [nz]; exact congrArg zI (by omega)
      generalize x1 : sI g 32 (n + i) (nI (btN x i)) = g1
      generalize x2 : sI g1 31 1 (nI (n + i + 1)) = g2
      have F1 : Fix g1 := by rw [← x1]; exact fx_sI F (by omega)
      have F2 : Fix g2 := by rw [← x2]; exact fx_sI F1 (by omega)
      have z2 : Fz [2000031, 32] g g2 := by rw [← x2, ← x1]; exact Fz.sI (Fz.sI Fz.rfl' (Or.inl (by simp))) (Or.inr (by simp))
      have j1 : hI g1 31 1 = nI (n + i) := by rw [← x1, hI_sI, if_neg (by omega)]; exact h2
      have j2 : hI g2 31 1 = nI (n + (i + 1)) := by rw [← x2, hI_sI]; exact if_pos ⟨rfl, rfl⟩
      have v2 : ∀ j, hI g2 32 j = if j = n + i then nI (btN x i) else hI g 32 j := fun j => by
        rw [← x2, hI_sI, if_neg (by omega), ← x1, hI_sI]
        by_cases c : j = n + i
        · rw [if_pos ⟨rfl, c⟩, if_pos c]
        · rw [if_neg (fun z => c z.2), if_neg c]
      obtain ⟨f, a1, a2, a3, a4⟩ := ih (i + 1) m g2 (by omega) F2 j2
      refine ⟨f, ?_, z2.then a2, a3, fun j => ?_⟩
      · have e8 : zI (24 - 8 * (i : Int)) + (-8) = zI (24 - 8 * ((i + 1 : Nat) : Int)) := by
          rw [show (-8 : Int32) = zI (-8) by decide, zI_add]
          exact congrArg zI (by omega)
        have bt : ((x.toUInt32 >>> ((zI (24 - 8 * (i : Int))).toUInt32 &&& Int32.toUInt32 31)).toInt32) &&& nI 255 = nI (btN x i) := by rw [ez]; exact btN_e x i
        rw [← a1, show r + 1 + 1 + m = (r + 1 + m) + 1 by omega, l_115_3, b_115_3, if_neg (by rw [zI_0, zI_lt (by omega) (by omega) (by omega) (by omega)]; omega), b_115_7, gQ31_0 F, Option.bind_some, gI31 F, Option.bind_some, h2, bt, wI32 F (by omega), Option.bind_some, x1, gI31 F1, Option.bind_some, j1, nI_add, pI31 F1, Option.bind_some, x2, bnd_e, e8]
      · rw [a4, v2]
        by_cases c : j = n + i
        · rw [if_neg (by omega), if_pos c, if_pos (by omega), c, show n + i - n = i by omega]
        · rw [if_neg c]
          by_cases c2 : n + (i + 1) ≤ j ∧ j < n + 4
          · rw [if_pos c2, if_pos (by omega)]
          · rw [if_neg c2, if_neg (by omega)]
  obtain ⟨m, hm⟩ := FU_ge (4 + 1) (by omega)
  obtain ⟨g, a1, a2, a3, a4⟩ := key 4 0 m h (by omega) hF h1
  refine ⟨g, ?_, a2, a3, a4⟩
  rw [← a1, f_115, b_115_0, bnd_e, hm]
  rfl
theorem s_178 {h : Hp} {x : Int32} {n : Nat} (hF : Fix h) (h1 : hI h 64 2 = nI n) (hn : n + 4 ≤ 940) : ∃ g, f_178 (some 64) x h = some g ∧ Fz [3000064, 65] h g ∧ hI g 64 2 = nI (n + 4) ∧ ∀ j, hI g 65 j = if n ≤ j ∧ j < n + 4 then nI (btN x (j - n)) else hI h 65 j := by
  have key : ∀ r i m g, i + r = 4 → Fix g → hI g 64 2 = nI (n + i) → ∃ f, l_178_3 (r + 1 + m) (some 64) x (zI (24 - 8 * (i : Int))) g = some f ∧ Fz [3000064, 65] g f ∧ hI f 64 2 = nI (n + 4) ∧ ∀ j, hI f 65 j = if n + i ≤ j ∧ j < n + 4 then nI (btN x (j - n)) else hI g 65 j := by
    intro r
    induction r with
    | zero =>
      intro i m g hi F h2
      have ei : i = 4 := by omega
      subst ei
      refine ⟨g, ?_, Fz.rfl', h2, fun j => by rw [if_neg (by omega)]⟩
      rw [Nat.zero_add, Nat.add_comm 1 m, l_178_3, b_178_3, if_pos (show zI (24 - 8 * ((4 : Nat) : Int)) < 0 by decide), b_178_39]
    | succ r ih =>
      intro i m g hi F h2
      have ez : zI (24 - 8 * (i : Int)) = nI (24 - 8 * i) := by rw [nz]; exact congrArg zI (by omega)
      generalize x1 : sI g 65 (n + i) (nI (btN x i)) = g1
      generalize x2 : sI g1 64 2 (nI (n + i + 1)) = g2
      have F1 : Fix g1 := by rw [← x1]; exact fx_sI F (by omega)
      have F2 : Fix g2 := by rw [← x2]; exact fx_sI F1 (by omega)
      have z2 : Fz [3000064, 65] g g2 := by rw [← x2, ← x1]; exact Fz.sI (Fz.sI Fz.rfl' (Or.inl (by simp))) (Or.inr (by simp))
      have j1 : hI g1 64 2 = nI (n + i) := by rw [← x1, hI_sI, if_neg (by omega)]; exact h2
      have j2 : hI g2 64 2 = nI (n + (i + 1)) := by rw [← x2, hI_sI]; exact if_pos ⟨rfl, rfl⟩
      have v2 : ∀ j, hI g2 65 j = if j = n + i then nI (btN x i) else hI g 65 j := fun j => by
        rw [← x2, hI_sI, if_neg (by omega), ← x1, hI_sI]
        by_cases c : j = n + i
        · rw [if_pos ⟨rfl, c⟩, if_pos c]
        · rw [if_neg (fun z => c z.2), if_neg c]
      obtain ⟨f, a1, a2, a3, a4⟩ := ih (i + 1) m g2 (by omega) F2 j2
      refine ⟨f, ?_, z2.then a2, a3, fun j => ?_⟩
      · have e8 : zI (24 - 8 * (i : Int)) + (-8) = zI (24 - 8 * ((i + 1 : Nat) : Int)) := by
          rw [show (-8 : Int32) = zI (-8) by decide, zI_add]
          exact congrArg zI (by omega)
        have bt : ((x.toUInt32 >>> ((zI (24 - 8 * (i : Int))).toUInt32 &&& Int32.toUInt32 31)).toInt32) &&& nI 255 = nI (btN x i) := by rw [ez]; exact btN_e x i
        rw [← a1, show r + 1 + 1 + m = (r + 1 + m) + 1 by omega, l_178_3, b_178_3, if_neg (by rw [zI_0, zI_lt (by omega) (by omega) (by omega) (by omega)]; omega), b_178_7, gQ64_1 F, Option.bind_some, gI64 F, Option.bind_some, h2, bt, wI65 F (by omega), Option.bind_some, x1, gI64 F1, Option.bind_some, j1, nI_add, pI64 F1, Option.bind_some, x2, bnd_e, e8]
      · rw [a4, v2]
        by_cases c : j = n + i
        · rw [if_neg (by omega), if_pos c, if_pos (by omega), c, show n + i - n = i by omega]
        · rw [if_neg c]
          by_cases c2 : n + (i + 1) ≤ j ∧ j < n + 4
          · rw [if_pos c2, if_pos (by omega)]
          · rw [if_neg c2, if_neg (by omega)]
  obtain ⟨m, hm⟩ := FU_ge (4 + 1) (by omega)
  obtain ⟨g, a1, a2, a3, a4⟩ := key 4 0 m h (by omega) hF h1
  refine ⟨g, ?_, a2, a3, a4⟩
  rw [← a1, f_178, b_178_0, bnd_e, hm]
  rfl
