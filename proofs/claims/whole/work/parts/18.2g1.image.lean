/-! image, restore: the reference; a scene made; image, restore of the class -/
theorem wQ_s {h : Hp} {a i b : Nat} (hk : 15 ≤ hK h a ∧ hK h a ≤ 18) (ha : 30 ≤ a) (hi : i < hL h a) (hn : i < 2147483647) (hb : 30 ≤ b) (hc : hK h b = bd_comp (hK h a)) : wQ (some a) (nI i) (some b) h = some (sQ h a i (some b)) := by
  unfold wQ
  dsimp only
  rw [if_pos ⟨hk.1, hk.2, ha, bd_in_nI hi (by omega), hb, hc⟩, nI_clamp (by omega)]
theorem wQ_0 {h : Hp} {a i : Nat} (hk : 15 ≤ hK h a ∧ hK h a ≤ 18) (ha : 30 ≤ a) (hi : i < hL h a) (hn : i < 2147483647) : wQ (some a) (nI i) none h = some (sQ h a i none) := by
  unfold wQ
  dsimp only
  rw [if_pos ⟨hk.1, hk.2, ha, bd_in_nI hi (by omega)⟩, nI_clamp (by omega)]
def imB (x : Int32) : Bool := decide (0 ≤ x.toInt ∧ x.toInt < 2)
theorem vE_n {E : Nat → Nat} {i : Nat} (h1 : i ≠ 4) (h2 : i ≠ 340) : vE E i = nI (E i) := by unfold vE; rw [if_neg (by omega)]
theorem NowE.v {h : Hp} {E : Nat → Nat} (hE : NowE h E) {i : Nat} (hi : i < 704) : hI h 66 i = vE E i := by
  unfold vE
  by_cases c : i = 4 ∨ i = 340
  · rw [if_pos c]
    rcases c with rfl | rfl
    · exact hE.2.1
    · exact hE.2.2.1
  · rw [if_neg c]; exact hE.1 i hi (by omega) (by omega)
theorem NowE.of {h : Hp} {E : Nat → Nat} (h1 : ∀ i, i < 704 → hI h 66 i = vE E i) (h2 : ∀ i, E i < 100000) : NowE h E := by
  refine ⟨fun i hi a b => by rw [h1 i hi, vE_n a b], ?_, ?_, h2⟩
  · rw [h1 4 (by omega)]; rfl
  · rw [h1 340 (by omega)]; rfl
section IMG
variable {τ : Nat → Nat} {h : Hp} {E N : Nat → Nat} {x : Int32}
theorem l_299a {k : Nat} (hk : k < 2) {v : Nat → Int32} : ∀ r i m h, i + r = 704 → Fix h → (∀ j, j < 704 → hI h 66 j = v j) → (∀ j, j < i → hI h 69 (704 * k + j) = v j) →
    ∃ g, l_299_22 (r + 1 + m) (some 64) (nI k) (nI i) h = b_299_53 (some 64) (nI k) g ∧ Fz [69] h g ∧ (∀ j, j < 704 → hI g 69 (704 * k + j) = v j) ∧ ∀ j, (j < 704 * k ∨ 704 * k + 704 ≤ j) → hI g 69 j = hI h 69 j := by
  intro r
  induction r with
  | zero =>
    intro i m h hi hF h66 h69
    obtain rfl : i = 704 := by omega
    refine ⟨h, ?_, Fz.rfl', h69, fun _ _ => rfl⟩
    rw [show 0 + 1 + m = m + 1 by omega, l_299_22, b_299_22, if_pos (Int32.le_refl _)]
  | succ r ih =>
    intro i m h hi hF h66 h69
    have z1 : Fz [69] h (sI h 69 (704 * k + i) (v i)) := Fz.sI Fz.rfl' (Or.inl (by decide))
    obtain ⟨g, b1, b2, b3, b4⟩ := ih (i + 1) m (sI h 69 (704 * k + i) (v i)) (by omega) (fx_sI hF (by omega)) (fun j hj => by rw [z1.I (by decide)]; exact h66 j hj) (fun j hj => by
      rw [hI_sI]
      by_cases q : j = i
      · rw [if_pos ⟨rfl, by omega⟩, q]
      · rw [if_neg (by omega)]; exact h69 j (by omega))
    refine ⟨g, ?_, z1.then b2, b3, fun j hj => by rw [b4 j hj, hI_sI, if_neg (by omega)]⟩
    rw [← b1, show r + 1 + 1 + m = (r + 1 + m) + 1 by omega, l_299_22, b_299_22, if_neg (by rw [nI_leI (by omega) (by omega)]; omega), b_299_29, gQ64_17 hF, Option.bind_some, gQ64_14 hF, Option.bind_some, aI66 hF (by omega), Option.bind_some, h66 i (by omega), pk_mul, nI_add, wI69 hF (by omega), Option.bind_some, bnd_e, nI_add]
theorem l_299b {k : Nat} (hk : k < 2) {v : Nat → Int64} : ∀ r i m h, i + r = 10 → Fix h → (∀ j, j < 10 → hJ h 70 j = v j) → (∀ j, j < i → hJ h 72 (10 * k + j) = v j) →
    ∃ g, l_299_55 (r + 1 + m) (some 64) (nI k) (nI i) h = b_299_84 (some 64) (nI k) g ∧ Fz [72] h g ∧ (∀ j, j < 10 → hJ g 72 (10 * k + j) = v j) ∧ ∀ j, (j < 10 * k ∨ 10 * k + 10 ≤ j) → hJ g 72 j = hJ h 72 j := by
  intro r
  induction r with
  | zero =>
    intro i m h hi hF h66 h69
    obtain rfl : i = 10 := by omega
    refine ⟨h, ?_, Fz.rfl', h69, fun _ _ => rfl⟩
    rw [show 0 + 1 + m = m + 1 by omega, l_299_55, b_299_55, if_pos (Int32.le_refl _)]
  | succ r ih =>
    intro i m h hi hF h66 h69
    have z1 : Fz [72] h (sJ h 72 (10 * k + i) (v i)) := Fz.sJ Fz.rfl' (Or.inl (by decide))
    obtain ⟨g, b1, b2, b3, b4⟩ := ih (i + 1) m (sJ h 72 (10 * k + i) (v i)) (by omega) (fx_sJ hF (by omega)) (fun j hj => by rw [z1.J (by decide)]; exact h66 j hj) (fun j hj => by
      rw [hJ_sJ]
      by_cases q : j = i
      · rw [if_pos ⟨rfl, by omega⟩, q]
      · rw [if_neg (by omega)]; exact h69 j (by omega))
    refine ⟨g, ?_, z1.then b2, b3, fun j hj => by rw [b4 j hj, hJ_sJ, if_neg (by omega)]⟩
    rw [← b1, show r + 1 + 1 + m = (r + 1 + m) + 1 by omega, l_299_55, b_299_55, if_neg (by rw [nI_leI (by omega) (by omega)]; omega), b_299_61, gQ64_20 hF, Option.bind_some, gQ64_18 hF, Option.bind_some, aJ70 hF (by omega), Option.bind_some, h66 i (by omega), pk_mul, nI_add, wJ72 hF (by omega), Option.bind_some, bnd_e, nI_add]
abbrev Zi : List Nat := [1000064, 23000064, 66, 69, 72, 73]
theorem s_299 (hF : Fix h) (hB : Bg h E) : ∃ g, f_299 (some 64) x h = some (bI (imB x), g) ∧ Fz Zi h g ∧ NowE g E ∧ hI g 64 22 = 1 ∧ (imB x = false → hI g 69 = hI h 69 ∧ hJ g 72 = hJ h 72 ∧ hI g 73 = hI h 73) ∧
    (imB x = true → (∀ j, j < 704 → hI g 69 (704 * x.toInt.toNat + j) = vE E j) ∧ (∀ j, (j < 704 * x.toInt.toNat ∨ 704 * x.toInt.toNat + 704 ≤ j) → hI g 69 j = hI h 69 j) ∧ (∀ j, j < 10 → hJ g 72 (10 * x.toInt.toNat + j) = hJ h 70 j) ∧ (∀ j, (j < 10 * x.toInt.toNat ∨ 10 * x.toInt.toNat + 10 ≤ j) → hJ g 72 j = hJ h 72 j) ∧ hI g 73 x.toInt.toNat = 1 ∧ ∀ j, j ≠ x.toInt.toNat → hI g 73 j = hI h 73 j) := by
  obtain ⟨g, a1, a2, a3, a4, a5, F0, F1⟩ := askM hF hB
  rw [f_299, b_299_0, pI64 hF, Option.bind_some, rC64 F0, grd_e, Option.bind_some, a1, Option.bind_some, s_182, Option.bind_some, toI_nI (by omega), toI_nI (by omega)]
  dsimp only
  by_cases c : ((0 : Nat) : Int) ≤ x.toInt ∧ x.toInt ≤ ((1 : Nat) : Int)
  · have hb : imB x = true := decide_eq_true (by omega)
    have ex := na_of (show 0 ≤ x.toInt by omega)
    have hx : x.toInt.toNat < 2 := by omega
    rw [bI_T c, if_pos nI10, b_299_20, bnd_e, hb]
    generalize x.toInt.toNat = k at *
    subst ex
    obtain ⟨m, hm⟩ := FU_ge (704 + 1) (by omega)
    obtain ⟨m2, hm2⟩ := FU_ge (10 + 1) (by omega)
    obtain ⟨g2, b1, b2, b3, b4⟩ := l_299a hx (v := fun j => hI g 66 j) 704 0 m g (by omega) F1 (fun _ _ => rfl) (fun j hj => absurd hj (Nat.not_lt_zero j))
    have F2 := b2.fix F1 (by decide)
    obtain ⟨g3, d1, d2, d3, d4⟩ := l_299b hx (v := fun j => hJ h 70 j) 10 0 m2 g2 (by omega) F2 (fun j _ => by rw [b2.J (by decide), a2.J (by decide)]) (fun j hj => absurd hj (Nat.not_lt_zero j))
    have F3 := d2.fix F2 (by decide)
    have z4 : Fz [73] g3 (sI g3 73 k (nI 1 &&& 1)) := Fz.sI Fz.rfl' (Or.inl (by decide))
    refine ⟨sI g3 73 k (nI 1 &&& 1), ?_, (a2.wid (by decide)).then ((b2.wid (by decide)).then ((d2.wid (by decide)).then (z4.wid (by decide)))), ?_, ?_, fun z => (by cases z), fun _ => ⟨fun j hj => ?_, fun j hj => ?_, fun j hj => ?_, fun j hj => ?_, ?_, fun j hj => ?_⟩⟩
    · rw [hm]
      refine (b1.trans ?_)
      rw [b_299_53, bnd_e, hm2]
      refine (d1.trans ?_)
      rw [b_299_84, gQ64_21 F3, Option.bind_some, wZ73 F3 hx, Option.bind_some, grd1, Option.bind_some]
      rfl
    · exact ((a3.cg (b2.I (by decide))).cg (d2.I (by decide))).cg (z4.I (by decide))
    · rw [z4.I (by decide), d2.I (by decide), b2.I (by decide)]; exact a4
    · rw [z4.I (by decide), d2.I (by decide), b3 j hj]; exact a3.v hj
    · rw [z4.I (by decide), d2.I (by decide), b4 j hj, a2.I (by decide)]
    · rw [z4.J (by decide)]; exact d3 j hj
    · rw [z4.J (by decide), d4 j hj, b2.J (by decide), a2.J (by decide)]
    · rw [hI_sI, if_pos ⟨rfl, rfl⟩]; decide
    · rw [hI_sI, if_neg (fun z => hj z.2), d2.I (by decide), b2.I (by decide), a2.I (by decide)]
  · have hb : imB x = false := decide_eq_false (by omega)
    rw [bI_F c, if_neg (fun z => z rfl), b_299_18, grd0, Option.bind_some, hb]
    exact ⟨g, rfl, a2.wid (by decide), a3, a4, fun _ => ⟨a2.I (by decide), a2.J (by decide), a2.I (by decide)⟩, fun z => by cases z⟩
theorem l_300a {k : Nat} (hk : k < 2) {v : Nat → Int32} : ∀ r i m h, i + r = 704 → Fix h → (∀ j, j < 704 → hI h 69 (704 * k + j) = v j) → (∀ j, j < i → hI h 66 j = v j) →
    ∃ g, l_300_31 (r + 1 + m) (some 64) (nI k) (nI i) h = b_300_62 (some 64) (nI k) g ∧ Fz [66] h g ∧ ∀ j, j < 704 → hI g 66 j = v j := by
  intro r
  induction r with
  | zero =>
    intro i m h hi hF h69 h66
    obtain rfl : i = 704 := by omega
    refine ⟨h, ?_, Fz.rfl', h66⟩
    rw [show 0 + 1 + m = m + 1 by omega, l_300_31, b_300_31, if_pos (Int32.le_refl _)]
  | succ r ih =>
    intro i m h hi hF h69 h66
    have z1 : Fz [66] h (sI h 66 i (v i)) := Fz.sI Fz.rfl' (Or.inl (by decide))
    obtain ⟨g, b1, b2, b3⟩ := ih (i + 1) m (sI h 66 i (v i)) (by omega) (fx_sI hF (by omega)) (fun j hj => by rw [z1.I (by decide)]; exact h69 j hj) (fun j hj => by
      rw [hI_sI]
      by_cases q : j = i
      · rw [if_pos ⟨rfl, by omega⟩, q]
      · rw [if_neg (by omega)]; exact h66 j (by omega))
    refine ⟨g, ?_, z1.then b2, b3⟩
    rw [← b1, show r + 1 + 1 + m = (r + 1 + m) + 1 by omega, l_300_31, b_300_31, if_neg (by rw [nI_leI (by omega) (by omega)]; omega), b_300_38, gQ64_14 hF, Option.bind_some, gQ64_17 hF, Option.bind_some, pk_mul, nI_add, aI69 hF (by omega), Option.bind_some, h69 i (by omega), wI66 hF (by omega), Option.bind_some, bnd_e, nI_add]
theorem l_300b {k : Nat} (hk : k < 2) {v : Nat → Int64} : ∀ r i m h, i + r = 10 → Fix h → (∀ j, j < 10 → hJ h 72 (10 * k + j) = v j) → (∀ j, j < i → hJ h 70 j = v j) →
    ∃ g, l_300_64 (r + 1 + m) (some 64) (nI k) (nI i) h = some (nI 1, g) ∧ Fz [70] h g ∧ ∀ j, j < 10 → hJ g 70 j = v j := by
  intro r
  induction r with
  | zero =>
    intro i m h hi hF h72 h70
    obtain rfl : i = 10 := by omega
    refine ⟨h, ?_, Fz.rfl', h70⟩
    rw [show 0 + 1 + m = m + 1 by omega, l_300_64, b_300_64, if_pos (Int32.le_refl _), b_300_93, grd1, Option.bind_some]
  | succ r ih =>
    intro i m h hi hF h72 h70
    have z1 : Fz [70] h (sJ h 70 i (v i)) := Fz.sJ Fz.rfl' (Or.inl (by decide))
    obtain ⟨g, b1, b2, b3⟩ := ih (i + 1) m (sJ h 70 i (v i)) (by omega) (fx_sJ hF (by omega)) (fun j hj => by rw [z1.J (by decide)]; exact h72 j hj) (fun j hj => by
      rw [hJ_sJ]
      by_cases q : j = i
      · rw [if_pos ⟨rfl, by omega⟩, q]
      · rw [if_neg (by omega)]; exact h70 j (by omega))
    refine ⟨g, ?_, z1.then b2, b3⟩
    rw [← b1, show r + 1 + 1 + m = (r + 1 + m) + 1 by omega, l_300_64, b_300_64, if_neg (by rw [nI_leI (by omega) (by omega)]; omega), b_300_70, gQ64_18 hF, Option.bind_some, gQ64_20 hF, Option.bind_some, pk_mul, nI_add, aJ72 hF (by omega), Option.bind_some, h72 i (by omega), wJ70 hF (by omega), Option.bind_some, bnd_e, nI_add]
abbrev Zo : List Nat := [1000064, 23000064, 66, 70]
theorem s_300 (hF : Fix h) (hB : Bg h E) (h01 : ∀ k, k < 2 → hI h 73 k = 0 ∨ hI h 73 k = 1) : ∃ g, f_300 (some 64) x h = some (bI (imB x && decide (hI h 73 x.toInt.toNat = 1)), g) ∧ Fz Zo h g ∧ hI g 64 22 = 1 ∧ ((imB x && decide (hI h 73 x.toInt.toNat = 1)) = false → NowE g E ∧ hJ g 70 = hJ h 70) ∧
    ((imB x && decide (hI h 73 x.toInt.toNat = 1)) = true → (∀ j, j < 704 → hI g 66 j = hI h 69 (704 * x.toInt.toNat + j)) ∧ ∀ j, j < 10 → hJ g 70 j = hJ h 72 (10 * x.toInt.toNat + j)) := by
  obtain ⟨g, a1, a2, a3, a4, a5, F0, F1⟩ := askM hF hB
  have e73 : hI g 73 = hI h 73 := a2.I (by decide)
  rw [f_300, b_300_0, pI64 hF, Option.bind_some, rC64 F0, grd_e, Option.bind_some, a1, Option.bind_some, s_182, Option.bind_some, toI_nI (by omega), toI_nI (by omega)]
  dsimp only
  by_cases c : ((0 : Nat) : Int) ≤ x.toInt ∧ x.toInt ≤ ((1 : Nat) : Int)
  · have hb : imB x = true := decide_eq_true (by omega)
    have ex := na_of (show 0 ≤ x.toInt by omega)
    have hx : x.toInt.toNat < 2 := by omega
    rw [bI_T c, if_neg nI10, b_300_18, gQ64_21 F1, Option.bind_some, hb, Bool.true_and]
    generalize x.toInt.toNat = k at *
    subst ex
    rw [aZ73 F1 hx, Option.bind_some, e73]
    rcases h01 k hx with q | q
    · rw [q, if_neg (fun z => z rfl), b_300_27, grd0, Option.bind_some, show decide ((0 : Int32) = 1) = false from rfl]
      exact ⟨g, rfl, a2.wid (by decide), a4, fun _ => ⟨a3, a2.J (by decide)⟩, fun z => by cases z⟩
    · obtain ⟨m, hm⟩ := FU_ge (704 + 1) (by omega)
      obtain ⟨m2, hm2⟩ := FU_ge (10 + 1) (by omega)
      obtain ⟨g2, b1, b2, b3⟩ := l_300a hx (v := fun j => hI h 69 (704 * k + j)) 704 0 m g (by omega) F1 (fun j _ => by rw [a2.I (by decide)]) (fun j hj => absurd hj (Nat.not_lt_zero j))
      have F2 := b2.fix F1 (by decide)
      obtain ⟨g3, d1, d2, d3⟩ := l_300b hx (v := fun j => hJ h 72 (10 * k + j)) 10 0 m2 g2 (by omega) F2 (fun j _ => by rw [b2.J (by decide), a2.J (by decide)]) (fun j hj => absurd hj (Nat.not_lt_zero j))
      rw [q, if_pos (by decide), b_300_29, bnd_e, show decide ((1 : Int32) = 1) = true from rfl]
      refine ⟨g3, ?_, (a2.wid (by decide)).then ((b2.wid (by decide)).then (d2.wid (by decide))), ?_, fun z => (by cases z), fun _ => ⟨fun j hj => ?_, fun j hj => d3 j hj⟩⟩
      · rw [hm]
        refine (b1.trans ?_)
        rw [b_300_62, bnd_e, hm2]
        exact d1
      · rw [d2.I (by decide), b2.I (by decide)]; exact a4
      · rw [d2.I (by decide)]; exact b3 j hj
  · have hb : imB x = false := decide_eq_false (by omega)
    rw [bI_F c, if_pos (show nI 0 = 0 from rfl), b_300_27, grd0, Option.bind_some, hb, Bool.false_and]
    exact ⟨g, rfl, a2.wid (by decide), a4, fun _ => ⟨a3, a2.J (by decide)⟩, fun z => by cases z⟩
end IMG
