/-! reading on: what both readers do with a token -/
def CT (h : Hp) (T : Nat → Nat) (sz lim p : Nat) : Prop := Fix h ∧ TX h T sz lim ∧ TS h T sz lim p ∧ p ≤ sz
def MTk (h : Hp) (T : Nat → Nat) (sz lim p : Nat) : Prop := Fix h ∧ MX h T sz lim ∧ TM h T sz lim p ∧ p ≤ sz
section PARS
variable {T : Nat → Nat} {sz lim p : Nat}
theorem c_step {h : Hp} (hC : CT h T sz lim p) : ∃ g, f_117 (some 31) h = some g ∧ Fz [3000031, 4000031, 5000031, 6000031, 10000031] h g ∧ CT g T sz lim (tkN T sz lim p) := by
  obtain ⟨c1, c2, c3, c4⟩ := hC
  have nl := tkN_le (T := T) (lim := lim) c4
  obtain ⟨g, a1, a2, a3⟩ := s_117 (lim := lim) nl.2 c1 c2 c3.2.2.1
  exact ⟨g, a1, a2, a2.fix c1 (by decide), c2.cz a2, a3, nl.2⟩
theorem m_step {h : Hp} (hC : MTk h T sz lim p) : ∃ g, f_189 (some 64) h = some g ∧ Fz [6000064, 7000064, 8000064, 9000064, 10000064, 13000064] h g ∧ MTk g T sz lim (tkN T sz lim p) := by
  obtain ⟨c1, c2, c3, c4⟩ := hC
  have nl := tkN_le (T := T) (lim := lim) c4
  obtain ⟨g, a1, a2, a3⟩ := s_189 (lim := lim) nl.2 c1 c2 c3.2.2.1
  exact ⟨g, a1, a2, a2.fix c1 (by decide), c2.cz a2, a3, nl.2⟩
/-- a fault, told by the class -/
theorem s_119 {h : Hp} {k : Nat} (hC : CT h T sz lim p) : ∃ g, f_119 (some 31) (nI k) h = some (bI false, g) ∧ Fz [7000031, 8000031] h g ∧ hI g 31 6 = nI k ∧ hI g 31 7 = nI (tkA T sz lim p) := by
  obtain ⟨c1, c2, c3, c4⟩ := hC
  have F1 : Fix (sI h 31 6 (nI k)) := fx_sI c1 (by omega)
  have v3 : hI (sI h 31 6 (nI k)) 31 3 = nI (tkA T sz lim p) := by rw [hI_sI, if_neg (by omega)]; exact c3.2.1
  refine ⟨sI (sI h 31 6 (nI k)) 31 7 (nI (tkA T sz lim p)), ?_, Fz.sI (Fz.sI Fz.rfl' (Or.inr (by simp))) (Or.inr (by simp)), by rw [hI_sI, if_neg (by omega), hI_sI, if_pos ⟨rfl, rfl⟩], by rw [hI_sI, if_pos ⟨rfl, rfl⟩]⟩
  rw [f_119, b_119_0, pI31 c1, Option.bind_some, gI31 F1, Option.bind_some, v3, pI31 F1, Option.bind_some, grd0, Option.bind_some]
  rfl
/-- and by the reference -/
theorem s_198 {h : Hp} {k : Nat} (hC : MTk h T sz lim p) : ∃ g, f_198 (some 64) (nI k) h = some (bI false, g) ∧ Fz [11000064, 12000064] h g ∧ hI g 64 10 = nI (if tkK T sz lim p = 1 then 1 else k) ∧ hI g 64 11 = nI (tkA T sz lim p) := by
  obtain ⟨c1, c2, c3, c4⟩ := hC
  have kl := tkK_le (T := T) (sz := sz) (lim := lim) (p := p)
  have kc := kmd_e kl
  have fin : ∀ x, ∃ g, b_198_14 (some 64) (some 64) (nI x) h = some (bI false, g) ∧ Fz [11000064, 12000064] h g ∧ hI g 64 10 = nI x ∧ hI g 64 11 = nI (tkA T sz lim p) := by
    intro x
    have F1 : Fix (sI h 64 10 (nI x)) := fx_sI c1 (by omega)
    have v3 : hI (sI h 64 10 (nI x)) 64 6 = nI (tkA T sz lim p) := by rw [hI_sI, if_neg (by omega)]; exact c3.2.1
    refine ⟨sI (sI h 64 10 (nI x)) 64 11 (nI (tkA T sz lim p)), ?_, Fz.sI (Fz.sI Fz.rfl' (Or.inr (by simp))) (Or.inr (by simp)), by rw [hI_sI, if_neg (by omega), hI_sI, if_pos ⟨rfl, rfl⟩], by rw [hI_sI, if_pos ⟨rfl, rfl⟩]⟩
    rw [b_198_14, pI64 c1, Option.bind_some, gI64 F1, Option.bind_some, v3, pI64 F1, Option.bind_some, grd0, Option.bind_some]
    rfl
  rw [f_198, b_198_0, gI64 c1, Option.bind_some, c3.1]
  by_cases c : tkK T sz lim p = 1
  · rw [if_neg (fun z => z (by rw [c]; rfl)), b_198_9, if_pos c]
    exact fin 1
  · rw [if_pos (fun z => c (kc.2.1.1 ((nI_eq (by omega) (by omega)).1 z))), b_198_13, if_neg c]
    exact fin k
/-- a word passed, by the class -/
theorem s_122 {h : Hp} {k : Nat} (hC : CT h T sz lim p) (hk : k < 26) : ∃ g, f_122 (some 31) (some k) h = some (bI (isW T sz lim p k), g) ∧ Fz [3000031, 4000031, 5000031, 6000031, 10000031] h g ∧ CT g T sz lim (if isW T sz lim p k = true then tkN T sz lim p else p) := by
  obtain ⟨c1, c2, c3, c4⟩ := id hC
  rw [f_122, b_122_0, rC31 c1, grd_e, Option.bind_some, s_120 c1 c3 c4 hk, Option.bind_some]
  dsimp only
  cases hw : isW T sz lim p k
  · rw [if_neg (show ¬ ¬ bI false = 0 from fun z => z rfl), if_neg (by decide)]
    exact ⟨h, rfl, Fz.rfl', hC⟩
  · rw [if_pos (show ¬ bI true = 0 by decide), if_pos rfl, b_122_10]
    obtain ⟨g, a1, a2, a3⟩ := c_step hC
    exact ⟨g, by rw [rC31 c1, grd_e, Option.bind_some, a1, Option.bind_some, grd1, Option.bind_some]; rfl, a2, a3⟩
/-- a sign passed -/
theorem s_123 {h : Hp} {c : Nat} (hC : CT h T sz lim p) (hc : 40 ≤ c ∧ c ≤ 62) : ∃ g, f_123 (some 31) (nI c) h = some (bI (decide (tkK T sz lim p = c)), g) ∧ Fz [3000031, 4000031, 5000031, 6000031, 10000031, 7000031, 8000031] h g ∧ (tkK T sz lim p = c → CT g T sz lim (tkN T sz lim p) ∧ Fz [3000031, 4000031, 5000031, 6000031, 10000031] h g) ∧ (tkK T sz lim p ≠ c → hI g 31 6 = nI 1 ∧ hI g 31 7 = nI (tkA T sz lim p)) := by
  obtain ⟨c1, c2, c3, c4⟩ := id hC
  have kl := tkK_le (T := T) (sz := sz) (lim := lim) (p := p)
  have kc := kcl_e (x := c) kl
  rw [f_123, b_123_0, gI31 c1, Option.bind_some, c3.1]
  by_cases e : tkK T sz lim p = c
  · rw [if_pos (by rw [(kc.2.2.2.2.1 hc.1).2 e]), bI_T e, b_123_14]
    obtain ⟨g, a1, a2, a3⟩ := c_step hC
    exact ⟨g, by rw [rC31 c1, grd_e, Option.bind_some, a1, Option.bind_some, grd1, Option.bind_some], a2.wid (by intro z hz; simp only [List.mem_cons, List.not_mem_nil, or_false] at hz ⊢; omega), fun _ => ⟨a3, a2⟩, fun z => absurd e z⟩
  · rw [if_neg (fun z => e ((kc.2.2.2.2.1 hc.1).1 ((nI_eq (by omega) (by omega)).1 z))), bI_F e, b_123_8]
    obtain ⟨g, a1, a2, a3, a4⟩ := s_119 (k := 1) hC
    exact ⟨g, by rw [rC31 c1, grd_e, Option.bind_some, a1, Option.bind_some]; rfl, a2.wid (by intro z hz; simp only [List.mem_cons, List.not_mem_nil, or_false] at hz ⊢; omega), fun z => absurd z e, fun _ => ⟨a3, a4⟩⟩
/-- the end of a line, by the reference -/
theorem s_200 {h : Hp} (hC : MTk h T sz lim p) : ∃ g, f_200 (some 64) h = some (bI (decide (tkK T sz lim p = 59)), g) ∧ Fz [6000064, 7000064, 8000064, 9000064, 10000064, 13000064, 11000064, 12000064] h g ∧ (tkK T sz lim p = 59 → MTk g T sz lim (tkN T sz lim p) ∧ hI g 64 10 = hI h 64 10) ∧ (tkK T sz lim p ≠ 59 → hI g 64 10 = nI 1 ∧ hI g 64 11 = nI (tkA T sz lim p)) := by
  obtain ⟨c1, c2, c3, c4⟩ := id hC
  rw [f_200, b_200_0, rC64 c1, grd_e, Option.bind_some, s_194 c1 c3 (by omega), Option.bind_some]
  dsimp only
  by_cases e : tkK T sz lim p = 59
  · rw [bI_T e, if_pos nI10, b_200_15]
    obtain ⟨g, a1, a2, a3⟩ := m_step hC
    exact ⟨g, by rw [rC64 c1, grd_e, Option.bind_some, a1, Option.bind_some, grd1, Option.bind_some], a2.wid (by intro z hz; simp only [List.mem_cons, List.not_mem_nil, or_false] at hz ⊢; omega), fun _ => ⟨a3, a2.I1 (by decide) (by decide)⟩, fun z => absurd e z⟩
  · rw [bI_F e, if_neg (fun z => z rfl), b_200_9]
    obtain ⟨g, a1, a2, a3, a4⟩ := s_198 (k := 1) hC
    refine ⟨g, by rw [rC64 c1, grd_e, Option.bind_some, a1, Option.bind_some]; rfl, a2.wid (by intro z hz; simp only [List.mem_cons, List.not_mem_nil, or_false] at hz ⊢; omega), fun z => absurd z e, fun _ => ⟨?_, a4⟩⟩
    rw [a3]
    split <;> rfl
end PARS
