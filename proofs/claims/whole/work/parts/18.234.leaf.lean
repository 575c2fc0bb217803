/-! the reference lays a leaf -/
section LEAF
variable {h : Hp} {E : Nat → Nat}
theorem zI_am (a b : Int) (k : Nat) : zI a + zI b * nI k = zI (a + b * (k : Int)) := by rw [nz, zI_mul, zI_add]
theorem zI_bm (b : Int) (k : Nat) : zI b * nI k = zI (b * (k : Int)) := by rw [nz, zI_mul]
theorem zI_a0 (a : Int) : zI a + nI 0 = zI a := by rw [nz, zI_add]; congr 1; omega
theorem LfS.nil (h : Hp) : LfS (sI h 64 26 (nI 0)) [] := ⟨by rw [hI_sI, if_pos ⟨rfl, rfl⟩]; rfl, fun i hi => absurd hi (Nat.not_lt_zero i)⟩
def FcA (al ou hx hy : Int) (ac a i : Nat) : Int × Int :=
  if a = 0 then (if ac = 0 then (hx + al * (i : Int), hy) else (hx, hy + al * (i : Int))) else (if ac = 0 then (hx, hy + ou * ((i + 1 : Nat) : Int)) else (hx + ou * ((i + 1 : Nat) : Int), hy))
theorem l_219A {al ou hx hy : Int} {ac a n : Nat} (hac : ac = 0 ∨ ac = 1) (ha : a = 0 ∨ a = 2) (hn : n ≤ 3) : ∀ r i m h, Fix h → i + r = n → LfS h ((List.range i).map (FcA al ou hx hy ac a)) →
    ∃ g, l_219_222 (r + 1 + m) (some 64) (nI a) (nI n) (nI ac) (zI al) (zI ou) (zI hx) (zI hy) (nI i) h = some g ∧ Fz [27000064, 74, 75] h g ∧ LfS g ((List.range n).map (FcA al ou hx hy ac a)) := by
  intro r
  induction r with
  | zero =>
    intro i m h hF hi hl
    obtain rfl : i = n := by omega
    refine ⟨h, ?_, Fz.rfl', hl⟩
    rw [show 0 + 1 + m = m + 1 by omega]
    simp (disch := first | assumption | (repeat' (first | apply fx_sI | apply fx_sJ | assumption | omega))) only [l_219_222, f_219, b_219_0, b_219_22, b_219_26, b_219_27, b_219_34, b_219_38, b_219_39, b_219_47, b_219_51, b_219_55, b_219_68, b_219_73, b_219_74, b_219_89, b_219_94, b_219_95, b_219_108, b_219_114, b_219_121, b_219_122, b_219_127, b_219_134, b_219_137, b_219_144, b_219_151, b_219_160, b_219_168, b_219_176, b_219_181, b_219_189, b_219_197, b_219_202, b_219_206, b_219_212, b_219_218, b_219_219, b_219_222, b_219_229, b_219_233, b_219_241, b_219_248, b_219_254, b_219_259, b_219_263, b_219_267, b_219_273, b_219_277, b_219_278, b_219_288, b_219_293, b_219_294, b_219_302, b_219_306, b_219_308, b_219_318, ↓reduceIte, nI_leI, Nat.le_refl, if_true]
  | succ r ih =>
    intro i m h hF hi hl
    obtain ⟨g1, e1, z1, L1⟩ := s_218 (x := (FcA al ou hx hy ac a i).1) (y := (FcA al ou hx hy ac a i).2) hF hl (by rw [List.length_map, List.length_range]; omega)
    have hF1 := z1.fix hF (by decide)
    have L2 : LfS g1 ((List.range (i + 1)).map (FcA al ou hx hy ac a)) := by rw [List.range_succ, List.map_append]; exact L1
    obtain ⟨g2, e2, z2, L3⟩ := ih (i + 1) m g1 hF1 (by omega) L2
    refine ⟨g2, ?_, z1.then z2, L3⟩
    rw [show r + 1 + 1 + m = (r + 1 + m) + 1 by omega]
    have n1 : ¬ nI 1 = 0 := by decide
    have n2 : ¬ nI 2 = 0 := by decide
    have n3 : ¬ nI 0 = nI 1 := by decide
    rcases ha with rfl | rfl <;> rcases hac with rfl | rfl
    all_goals
      simp only [FcA, if_true, if_false, show ¬ (1 = 0) by decide, show ¬ (2 = 0) by decide] at e1
      simp (disch := first | assumption | (repeat' (first | apply fx_sI | apply fx_sJ | assumption | omega))) only [l_219_222, f_219, b_219_0, b_219_22, b_219_26, b_219_27, b_219_34, b_219_38, b_219_39, b_219_47, b_219_51, b_219_55, b_219_68, b_219_73, b_219_74, b_219_89, b_219_94, b_219_95, b_219_108, b_219_114, b_219_121, b_219_122, b_219_127, b_219_134, b_219_137, b_219_144, b_219_151, b_219_160, b_219_168, b_219_176, b_219_181, b_219_189, b_219_197, b_219_202, b_219_206, b_219_212, b_219_218, b_219_219, b_219_222, b_219_229, b_219_233, b_219_241, b_219_248, b_219_254, b_219_259, b_219_263, b_219_267, b_219_273, b_219_277, b_219_278, b_219_288, b_219_293, b_219_294, b_219_302, b_219_306, b_219_308, b_219_318, ↓reduceIte, nI_leI, show ¬ n ≤ i by omega, if_false, nI00, if_true, n1, n2, n3, eq_self, not_true, not_false_eq_true, rC64 hF, grd_e, Option.bind_some, nI_add, zI_bm, zI_a0, zI_add, e1, bnd_e]
      exact e2
/-- angle 1, by its doors' lengths -/
def FcB (al ou hx hy : Int) (ac : Nat) (q : Nat × Nat) : Int × Int := if ac = 0 then (hx + al * (q.1 : Int), hy + ou * (q.2 : Int)) else (hx + ou * (q.2 : Int), hy + al * (q.1 : Int))
section L1
variable (k : Option Nat → Int32 → Int32 → Int32 → Int32 → Int32 → Int32 → Int32 → Int32 → Hp → Option Hp) {al ou hx hy : Int} {ac N D i j n : Nat}
theorem l_219p (hac : ac = 0 ∨ ac = 1) {l : List (Int × Int)} (hF : Fix h) (hl : LfS h l) (h4 : l.length < 4) (hi : i < 10) (hj : j ≤ D) (hD : D < 10) (hc : j = i ∨ j = i + 1) :
    ∃ g, l_219_137 k (n + 1) (some 64) (nI N) (nI ac) (zI al) (zI ou) (zI hx) (zI hy) (nI D) (nI i) (nI j) h = l_219_137 k n (some 64) (nI N) (nI ac) (zI al) (zI ou) (zI hx) (zI hy) (nI D) (nI i) (nI (j + 1)) g ∧ Fix g ∧ Fz [27000064, 74, 75] h g ∧ LfS g (l ++ [FcB al ou hx hy ac (i, j)]) := by
  obtain ⟨g, e, z, L⟩ := s_218 (x := (FcB al ou hx hy ac (i, j)).1) (y := (FcB al ou hx hy ac (i, j)).2) hF hl h4
  refine ⟨g, ?_, z.fix hF (by decide), z, L⟩
  have n1 : ¬ nI 1 = 0 := by decide
  rw [l_219_137, b_219_137]
  have t : ∀ x, b_219_144 k x (some 64) (nI N) (nI ac) (zI al) (zI ou) (zI hx) (zI hy) (nI D) (nI i) (nI j) h = b_219_160 k x (some 64) (nI N) (nI ac) (zI al) (zI ou) (zI hx) (zI hy) (nI D) (nI i) (nI j) h := by
    intro x
    rw [b_219_144]
    rcases hc with c | c
    · rw [if_pos (by rw [c])]
    · rw [if_neg (by rw [nI_eq (by omega) (by omega)]; omega), b_219_151, nI_add, if_neg (by rw [c]; exact fun z => z rfl)]
  rw [if_neg (by rw [nI_ltI (by omega) (by omega)]; omega), t]
  rcases hac with rfl | rfl
  all_goals
    simp only [FcB, if_true, if_false, show ¬ (1 = 0) by decide] at e
    simp (disch := first | assumption | (repeat' (first | apply fx_sI | apply fx_sJ | assumption | omega))) only [b_219_160, b_219_168, b_219_176, b_219_181, b_219_189, b_219_197, b_219_202, b_219_206, ↓reduceIte, nI00, not_true, not_false_eq_true, n1, zI_am, rC64 hF, grd_e, Option.bind_some, e, bnd_e, nI_add]
theorem l_219n (hi : i < 10) (hj : j ≤ D) (hD : D < 10) (hc : ¬ (j = i ∨ j = i + 1)) :
    l_219_137 k (n + 1) (some 64) (nI N) (nI ac) (zI al) (zI ou) (zI hx) (zI hy) (nI D) (nI i) (nI j) h = l_219_137 k n (some 64) (nI N) (nI ac) (zI al) (zI ou) (zI hx) (zI hy) (nI D) (nI i) (nI (j + 1)) h := by
  rw [l_219_137, b_219_137, if_neg (by rw [nI_ltI (by omega) (by omega)]; omega), b_219_144, if_neg (by rw [nI_eq (by omega) (by omega)]; omega), b_219_151, nI_add, if_pos (by rw [nI_eq (by omega) (by omega)]; omega), b_219_206, bnd_e, nI_add]
theorem l_219x (hi : i < 10) (hj : D < j) (hD : j < 10) :
    l_219_137 k (n + 1) (some 64) (nI N) (nI ac) (zI al) (zI ou) (zI hx) (zI hy) (nI D) (nI i) (nI j) h = k (some 64) (nI N) (nI ac) (zI al) (zI ou) (zI hx) (zI hy) (nI D) (nI (i + 1)) h := by
  rw [l_219_137, b_219_137, if_pos (by rw [nI_ltI (by omega) (by omega)]; omega), b_219_212, bnd_e, nI_add]
theorem l_219o (hi : i < N) (hD : N < 10) :
    l_219_127 (n + 1) (some 64) (nI N) (nI ac) (zI al) (zI ou) (zI hx) (zI hy) (nI D) (nI i) h = l_219_137 (l_219_127 n) FU (some 64) (nI N) (nI ac) (zI al) (zI ou) (zI hx) (zI hy) (nI D) (nI i) (nI 1) h := by
  rw [l_219_127, b_219_127, if_neg (by rw [nI_leI (by omega) (by omega)]; omega), b_219_134, bnd_e]
theorem l_219e : l_219_127 (n + 1) (some 64) (nI N) (nI ac) (zI al) (zI ou) (zI hx) (zI hy) (nI D) (nI N) h = some h := by
  rw [l_219_127, b_219_127, if_pos (Int32.le_refl _), b_219_218]
end L1
theorem l_219B {al ou hx hy : Int} {ac n : Nat} (hac : ac = 0 ∨ ac = 1) (hn : n = 1 ∨ n = 2 ∨ n = 3) (hF : Fix h) (hl : LfS h []) :
    ∃ g, b_219_108 (some 64) (nI n) (nI ac) (zI al) (zI ou) (zI hx) (zI hy) h = some g ∧ Fz [27000064, 74, 75] h g ∧ LfS g ((ijL n 1).map (FcB al ou hx hy ac)) := by
  obtain ⟨m, hm⟩ := FU_ge 6 (by omega)
  have hm : FU = m + 6 := by omega
  have s2 : nI 2 - nI 1 = nI 1 := by decide
  have s3 : nI 3 - nI 1 = nI 2 := by decide
  rcases hn with rfl | rfl | rfl
  · obtain ⟨g1, e1, f1, z1, L1⟩ := l_219p (l_219_127 (m + 5)) (N := 1) (D := 1) (i := 0) (j := 1) (n := m + 5) (al := al) (ou := ou) (hx := hx) (hy := hy) hac hF hl (by simp) (by omega) (by omega) (by omega) (by omega)
    refine ⟨g1, ?_, z1, L1⟩
    rw [b_219_108, if_pos (by decide), b_219_121, b_219_122, bnd_e, hm, l_219o (by omega) (by omega), hm, e1, l_219x _ (by omega) (by omega) (by omega), l_219e]
  · obtain ⟨g1, e1, f1, z1, L1⟩ := l_219p (l_219_127 (m + 5)) (N := 2) (D := 1) (i := 0) (j := 1) (n := m + 5) (al := al) (ou := ou) (hx := hx) (hy := hy) hac hF hl (by simp) (by omega) (by omega) (by omega) (by omega)
    obtain ⟨g2, e2, f2, z2, L2⟩ := l_219p (l_219_127 (m + 4)) (N := 2) (D := 1) (i := 1) (j := 1) (n := m + 5) (al := al) (ou := ou) (hx := hx) (hy := hy) hac f1 L1 (by simp) (by omega) (by omega) (by omega) (by omega)
    refine ⟨g2, ?_, z1.then z2, L2⟩
    rw [b_219_108, if_neg (by decide), b_219_114, s2, b_219_122, bnd_e, hm, l_219o (by omega) (by omega), hm, e1, l_219x _ (by omega) (by omega) (by omega), l_219o (by omega) (by omega), hm, e2, l_219x _ (by omega) (by omega) (by omega), l_219e]
  · obtain ⟨g1, e1, f1, z1, L1⟩ := l_219p (l_219_127 (m + 5)) (N := 3) (D := 2) (i := 0) (j := 1) (n := m + 5) (al := al) (ou := ou) (hx := hx) (hy := hy) hac hF hl (by simp) (by omega) (by omega) (by omega) (by omega)
    obtain ⟨g2, e2, f2, z2, L2⟩ := l_219p (l_219_127 (m + 4)) (N := 3) (D := 2) (i := 1) (j := 1) (n := m + 5) (al := al) (ou := ou) (hx := hx) (hy := hy) hac f1 L1 (by simp) (by omega) (by omega) (by omega) (by omega)
    obtain ⟨g3, e3, f3, z3, L3⟩ := l_219p (l_219_127 (m + 4)) (N := 3) (D := 2) (i := 1) (j := 2) (n := m + 4) (al := al) (ou := ou) (hx := hx) (hy := hy) hac f2 L2 (by simp) (by omega) (by omega) (by omega) (by omega)
    obtain ⟨g4, e4, f4, z4, L4⟩ := l_219p (l_219_127 (m + 3)) (N := 3) (D := 2) (i := 2) (j := 2) (n := m + 4) (al := al) (ou := ou) (hx := hx) (hy := hy) hac f3 L3 (by simp) (by omega) (by omega) (by omega) (by omega)
    refine ⟨g4, ?_, ((z1.then z2).then z3).then z4, L4⟩
    rw [b_219_108, if_neg (by decide), b_219_114, s3, b_219_122, bnd_e, hm, l_219o (by omega) (by omega), hm, e1, l_219n _ (by omega) (by omega) (by omega) (by omega), l_219x _ (by omega) (by omega) (by omega), l_219o (by omega) (by omega), hm, e2, e3, l_219x _ (by omega) (by omega) (by omega), l_219o (by omega) (by omega), hm, l_219n _ (by omega) (by omega) (by omega) (by omega), e4, l_219x _ (by omega) (by omega) (by omega), l_219e]
theorem s_219 {d g a : Nat} (hF : Fix h) (hE : NowE h E) (hd : d < 10) (hg : g < 4) (ha : a < 3) (hac : dAc E d ≤ 1) (hn : 1 ≤ dLn E d ∧ dLn E d ≤ 3) :
    ∃ g', f_219 (some 64) (nI d) (nI g) (nI a) h = some g' ∧ Fz [27000064, 74, 75] h g' ∧ LfS g' (lfc E d g a) := by
  have h3 := s_205 hF hE hd (show 3 < 10 by omega)
  have h2 := s_205 hF hE hd (show 2 < 10 by omega)
  have h0 := s_205 hF hE hd (show 0 < 10 by omega)
  have h1 := s_205 hF hE hd (show 1 < 10 by omega)
  have e3 : E (110 + 10 * d + 3) = dLn E d := by unfold dLn; congr 1; omega
  have e2 : E (110 + 10 * d + 2) = dAc E d := by unfold dAc; congr 1; omega
  have e1 : E (110 + 10 * d + 1) = dYy E d := by unfold dYy; congr 1; omega
  have e0 : E (110 + 10 * d + 0) = dX E d := rfl
  rw [e3] at h3; rw [e2] at h2; rw [e1] at h1; rw [e0] at h0
  have hF2 : Fix (sI h 64 26 (nI 0)) := (Fix_sI (by omega) _).2 hF
  have z2 : Fz [27000064, 74, 75] h (sI h 64 26 (nI 0)) := Fz.rfl'.sI (by decide)
  generalize hX : (dX E d : Int) + (if dAc E d = 0 then zFar (dLn E d) g else 0) = hx
  generalize hY : (dYy E d : Int) + (if dAc E d = 0 then 0 else zFar (dLn E d) g) = hy
  have key : f_219 (some 64) (nI d) (nI g) (nI a) h = if a = 1 then b_219_108 (some 64) (nI (dLn E d)) (nI (dAc E d)) (zI (zAl g)) (zI (zOut g)) (zI hx) (zI hy) (sI h 64 26 (nI 0)) else b_219_219 (some 64) (nI a) (nI (dLn E d)) (nI (dAc E d)) (zI (zAl g)) (zI (zOut g)) (zI hx) (zI hy) (sI h 64 26 (nI 0)) := by
    have d2 : (decide (¬ (nI 2 : Int32) = 0)) = true := by decide
    have n1 : ¬ nI 1 = 0 := by decide
    have n3 : ¬ nI 0 = nI 1 := by decide
    subst hX hY
    have cA : zI (zAl g) = if g % 2 = 0 then nI 1 else (-1 : Int32) := by unfold zAl; split <;> decide
    have cO : zI (zOut g) = if 2 ≤ g then nI 1 else (-1 : Int32) := by
      unfold zOut
      by_cases c : 2 ≤ g
      · rw [if_neg (by omega), if_pos c]; decide
      · rw [if_pos (by omega), if_neg c]; decide
    have cF : zI (zFar (dLn E d) g) = if g % 2 = 0 then nI 0 else nI (dLn E d) - nI 1 := by unfold zFar; split; decide; rw [nz, nz, zI_sub]; rfl
    have cX : zI ((dX E d : Int) + (if dAc E d = 0 then zFar (dLn E d) g else 0)) = nI (dX E d) + if dAc E d = 0 then (if g % 2 = 0 then nI 0 else nI (dLn E d) - nI 1) else nI 0 := by
      rw [← zI_add, zI_nat, ← cF]
      split <;> rfl
    have cY : zI ((dYy E d : Int) + (if dAc E d = 0 then 0 else zFar (dLn E d) g)) = nI (dYy E d) + if dAc E d = 0 then nI 0 else (if g % 2 = 0 then nI 0 else nI (dLn E d) - nI 1) := by
      rw [← zI_add, zI_nat, ← cF]
      split <;> rfl
    rw [cX, cY, cA, cO]
    have ac : dAc E d = 0 ∨ dAc E d = 1 := by omega
    have tf : ¬ (1 = 0) := by decide
    rcases ac with ac | ac <;> rw [ac] at h2 ⊢ <;> rcases (show g % 2 = 0 ∨ g % 2 = 1 by omega) with o | o <;> by_cases c : 2 ≤ g
    all_goals
      simp (disch := first | assumption | (repeat' (first | apply fx_sI | apply fx_sJ | assumption | omega))) only [↓reduceIte, f_219, b_219_0, b_219_22, b_219_26, b_219_27, b_219_34, b_219_38, b_219_39, b_219_47, b_219_51, b_219_55, b_219_68, b_219_73, b_219_74, b_219_89, b_219_94, b_219_95, rC64 hF, h0, h1, h2, h3, grd_e, Option.bind_some, bnd_e, d2, pk_rem, o, nI00, n1, n3, eq_self, not_true, not_false_eq_true, nI_leI, c, tf, pI64, hF, nI_eq, ite_not]
  rw [key]
  by_cases c1 : a = 1
  · rw [if_pos c1]
    obtain ⟨g', r1, r2, r3⟩ := l_219B (al := zAl g) (ou := zOut g) (hx := hx) (hy := hy) (ac := dAc E d) (n := dLn E d) (by omega) (by omega) hF2 (LfS.nil h)
    refine ⟨g', r1, z2.then r2, ?_⟩
    have : lfc E d g a = (ijL (dLn E d) 1).map (FcB (zAl g) (zOut g) hx hy (dAc E d)) := by
      rw [c1]
      unfold lfc
      apply List.map_congr_left
      intro q _
      unfold FcB zX zY
      subst hX hY
      by_cases ac : dAc E d = 0 <;> simp [ac]
    rw [this]
    exact r3
  · rw [if_neg c1]
    obtain ⟨m, hm⟩ := FU_ge (dLn E d + 1) (by omega)
    obtain ⟨g', r1, r2, r3⟩ := l_219A (al := zAl g) (ou := zOut g) (hx := hx) (hy := hy) (ac := dAc E d) (a := a) (n := dLn E d) (by omega) (by omega) (by omega) (dLn E d) 0 m (sI h 64 26 (nI 0)) hF2 (by omega) (LfS.nil h)
    refine ⟨g', ?_, z2.then r2, ?_⟩
    · simp only [f_219, b_219_0, b_219_22, b_219_26, b_219_27, b_219_34, b_219_38, b_219_39, b_219_47, b_219_51, b_219_55, b_219_68, b_219_73, b_219_74, b_219_89, b_219_94, b_219_95, b_219_108, b_219_114, b_219_121, b_219_122, b_219_127, b_219_134, b_219_137, b_219_144, b_219_151, b_219_160, b_219_168, b_219_176, b_219_181, b_219_189, b_219_197, b_219_202, b_219_206, b_219_212, b_219_218, b_219_219, b_219_222, b_219_229, b_219_233, b_219_241, b_219_248, b_219_254, b_219_259, b_219_263, b_219_267, b_219_273, b_219_277, b_219_278, b_219_288, b_219_293, b_219_294, b_219_302, b_219_306, b_219_308, b_219_318, ↓reduceIte, bnd_e]
      rw [hm]
      exact r1
    · have : lfc E d g a = (List.range (dLn E d)).map (FcA (zAl g) (zOut g) hx hy (dAc E d) a) := by
        unfold lfc ijL
        rcases (show a = 0 ∨ a = 2 by omega) with rfl | rfl
        · rw [if_pos rfl, List.map_map]
          apply List.map_congr_left
          intro q _
          unfold FcA zX zY
          subst hX hY
          by_cases ac : dAc E d = 0 <;> simp [ac]
        · rw [if_neg (by decide), if_pos rfl, List.map_map]
          apply List.map_congr_left
          intro q _
          unfold FcA zX zY
          subst hX hY
          by_cases ac : dAc E d = 0 <;> simp [ac]
      rw [this]
      exact r3
end LEAF
