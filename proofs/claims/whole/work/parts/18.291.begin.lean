/-! a text is begun -/
section BEGIN
variable {T : Nat → Nat} {sz lim : Nat}
theorem s_116 {h : Hp} (hF : Fix h) (h1 : hI h 31 1 = nI sz) (hs : sz ≤ 940) (hl : lim ≤ 1000) (hb : ∀ i, i < sz → hI h 32 i = nI (T i) ∧ T i < 256) : ∃ g, f_116 (some 31) (nI lim) h = some g ∧ Fz [9000031, 10000031, 7000031, 3000031, 4000031, 5000031, 6000031] h g ∧ CT g T sz lim 0 ∧ hI g 31 6 = nI 0 := by
  generalize x1 : sI h 31 8 (nI lim) = g1
  generalize x2 : sI g1 31 9 (nI 0) = g2
  generalize x3 : sI g2 31 6 (nI 0) = g3
  have F1 : Fix g1 := by rw [← x1]; exact fx_sI hF (by omega)
  have F2 : Fix g2 := by rw [← x2]; exact fx_sI F1 (by omega)
  have F3 : Fix g3 := by rw [← x3]; exact fx_sI F2 (by omega)
  have z3 : Fz [9000031, 10000031, 7000031] h g3 := by
    rw [← x3, ← x2, ← x1]
    exact Fz.sI (Fz.sI (Fz.sI Fz.rfl' (Or.inr (by simp))) (Or.inr (by simp))) (Or.inr (by simp))
  have v8 : hI g3 31 8 = nI lim := by rw [← x3, hI_sI, if_neg (by omega), ← x2, hI_sI, if_neg (by omega), ← x1, hI_sI, if_pos ⟨rfl, rfl⟩]
  have v9 : hI g3 31 9 = nI 0 := by rw [← x3, hI_sI, if_neg (by omega), ← x2, hI_sI, if_pos ⟨rfl, rfl⟩]
  have X3 : TX g3 T sz lim := ⟨by rw [z3.I1 (by decide) (by decide)]; exact h1, v8, hs, hl, fun i hi => by rw [z3.I (a := 32) (by decide)]; exact hb i hi⟩
  obtain ⟨g, a1, a2, a3⟩ := s_117 (lim := lim) (Nat.zero_le sz) F3 X3 v9
  refine ⟨g, ?_, (z3.wid (by intro z hz; simp only [List.mem_cons, List.not_mem_nil, or_false] at hz ⊢; omega)).then (a2.wid (by intro z hz; simp only [List.mem_cons, List.not_mem_nil, or_false] at hz ⊢; omega)), ⟨a2.fix F3 (by decide), X3.cz a2, a3, Nat.zero_le _⟩, ?_⟩
  · rw [f_116, b_116_0, pI31 hF, Option.bind_some, x1, pI31 F1, Option.bind_some, x2, pI31 F2, Option.bind_some, x3, rC31 F3, grd_e, Option.bind_some, a1, Option.bind_some]
  · rw [a2.I1 (by decide) (by decide), ← x3, hI_sI, if_pos ⟨rfl, rfl⟩]
theorem s_201 {h : Hp} {E : Nat → Nat} (hF : Fix h) (hB : Bg h E) (h1 : hI h 64 2 = nI sz) (hs : sz ≤ 940) (hl : lim ≤ 1000) (hb : ∀ i, i < sz → hI h 65 i = nI (T i) ∧ T i < 256) :
    ∃ g, f_201 (some 64) (nI lim) h = some g ∧ Fz [1000064, 23000064, 66, 3000064, 4000064, 5000064, 11000064, 6000064, 7000064, 8000064, 9000064, 10000064, 13000064] h g ∧ MTk g T sz lim 0 ∧ NowE g E ∧ hI g 64 22 = 1 ∧ hI g 64 10 = nI 0 ∧ hI g 64 2 = nI 0 ∧ hI g 64 0 = nI 0 := by
  have z0 : Fz [1000064] h (sI h 64 0 (nI 0)) := Fz.sI Fz.rfl' (Or.inr (by simp))
  have F0 : Fix (sI h 64 0 (nI 0)) := fx_sI hF (by omega)
  obtain ⟨k1, a1, a2, a3, a4⟩ := s_202 F0 (hB.cg (z0.I1 (by decide) (by decide)) (z0.I (a := 66) (by decide)))
  have K1 := a2.fix F0 (by decide)
  have v2 : hI k1 64 2 = nI sz := by rw [a2.I1 (by decide) (by decide), z0.I1 (by decide) (by decide)]; exact h1
  generalize x1 : sI k1 64 2 (nI 0) = g1
  generalize x2 : sI g1 64 3 (nI sz) = g2
  generalize x3 : sI g2 64 4 (nI lim) = g3
  generalize x4 : sI g3 64 10 (nI 0) = g4
  generalize x5 : sI g4 64 5 (nI 0) = g5
  have F1 : Fix g1 := by rw [← x1]; exact fx_sI K1 (by omega)
  have F2 : Fix g2 := by rw [← x2]; exact fx_sI F1 (by omega)
  have F3 : Fix g3 := by rw [← x3]; exact fx_sI F2 (by omega)
  have F4 : Fix g4 := by rw [← x4]; exact fx_sI F3 (by omega)
  have F5 : Fix g5 := by rw [← x5]; exact fx_sI F4 (by omega)
  have z5 : Fz [3000064, 4000064, 5000064, 11000064, 6000064] k1 g5 := by
    rw [← x5, ← x4, ← x3, ← x2, ← x1]
    exact Fz.sI (Fz.sI (Fz.sI (Fz.sI (Fz.sI Fz.rfl' (Or.inr (by simp))) (Or.inr (by simp))) (Or.inr (by simp))) (Or.inr (by simp))) (Or.inr (by simp))
  have i5 : ∀ j, hI g5 64 j = if j = 5 then nI 0 else if j = 10 then nI 0 else if j = 4 then nI lim else if j = 3 then nI sz else if j = 2 then nI 0 else hI k1 64 j := by
    intro j
    have q : ∀ (g : Hp) (k : Nat) (x : Int32), hI (sI g 64 k x) 64 j = if j = k then x else hI g 64 j := fun g k x => by
      rw [hI_sI]
      by_cases c : j = k
      · rw [if_pos ⟨rfl, c⟩, if_pos c]
      · rw [if_neg (fun z => c z.2), if_neg c]
    rw [← x5, q, ← x4, q, ← x3, q, ← x2, q, ← x1, q]
  have X5 : MX g5 T sz lim := ⟨by rw [i5]; rfl, by rw [i5]; rfl, hs, hl, fun i hi => by rw [z5.I (a := 65) (by decide), a2.I (a := 65) (by decide), z0.I (a := 65) (by decide)]; exact hb i hi⟩
  obtain ⟨g, b1, b2, b3⟩ := s_189 (lim := lim) (Nat.zero_le sz) F5 X5 (by rw [i5]; rfl)
  refine ⟨g, ?_, (z0.wid (by intro z hz; simp only [List.mem_cons, List.not_mem_nil, or_false] at hz ⊢; omega)).then ((a2.wid (by intro z hz; simp only [List.mem_cons, List.not_mem_nil, or_false] at hz ⊢; omega)).then ((z5.wid (by intro z hz; simp only [List.mem_cons, List.not_mem_nil, or_false] at hz ⊢; omega)).then (b2.wid (by intro z hz; simp only [List.mem_cons, List.not_mem_nil, or_false] at hz ⊢; omega)))), ⟨b2.fix F5 (by decide), X5.cz b2, b3, Nat.zero_le _⟩, ?_, ?_, ?_, ?_, ?_⟩
  · rw [f_201, b_201_0, pI64 hF, Option.bind_some, rC64 F0, grd_e, Option.bind_some, a1, Option.bind_some, rC64 K1, grd_e, Option.bind_some, f_181, b_181_0, gI64 K1, Option.bind_some, v2, pI64 K1, Option.bind_some, Option.bind_some, x1, pI64 F1, Option.bind_some, x2, pI64 F2, Option.bind_some, x3, pI64 F3, Option.bind_some, x4, pI64 F4, Option.bind_some, x5, rC64 F5, grd_e, Option.bind_some, b1, Option.bind_some]
  · exact a3.cg ((b2.I (a := 66) (by decide)).trans (z5.I (a := 66) (by decide)))
  · rw [b2.I1 (by decide) (by decide), i5]; exact a4
  · rw [b2.I1 (by decide) (by decide), i5]; rfl
  · rw [b2.I1 (by decide) (by decide), i5]; rfl
  · rw [b2.I1 (by decide) (by decide), i5]
    show hI k1 64 0 = nI 0
    rw [a2.I1 (by decide) (by decide), hI_sI]
    exact if_pos ⟨rfl, rfl⟩
end BEGIN
