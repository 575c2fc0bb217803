/-! door, leaf, place, count, judged: both -/
theorem na_of {x : Int32} (h : 0 ≤ x.toInt) : x = nI x.toInt.toNat := by rw [← zI_toNat h, ← zI_of]
def drB (E : Nat → Nat) (x y : Int32) : Bool := decide ((0 ≤ x.toInt ∧ x.toInt < E 2) ∧ 0 ≤ y.toInt ∧ y.toInt ≤ 8)
def drV (E : Nat → Nat) (d w : Nat) : Int32 := if w < 5 then nI (E (110 + 10 * d + w)) else if w = 5 then nI (E (330 + d)) else nI (E (110 + 10 * d + (w - 1)))
section SMALL
variable {τ : Nat → Nat} {h : Hp} {E an : Nat → Nat} {pl : Nat} {x y u v : Int32}
theorem s_7 {p d w : Nat} (hD : DoR τ h p E d) (ha : dAc E d ≤ 1) (hb : dWh E d ≤ 1) (hw : w ≤ 8) (h4 : w ≠ 4) (h5 : w ≠ 5) : f_7 (some p) (nI w) h = some (drV E d w, h) := by
  obtain ⟨k, ge, t, a0, a1, a2, a3, a4, ⟨fx, fy, fac, fl, ft, fc, fw⟩, m1, m2⟩ := hD
  rw [f_7, b_7_0]
  unfold drV
  rcases (show w = 0 ∨ w = 1 ∨ w = 2 ∨ w = 3 ∨ w = 6 ∨ w = 7 ∨ w = 8 by omega) with e | e | e | e | e | e | e <;> subst e
  · rw [if_pos rfl, b_7_52, gI_e k, Option.bind_some, fx]; rfl
  · rw [if_neg (by decide), if_pos rfl, b_7_57, gI_e k, Option.bind_some, fy]
    show _ = some (nI (E (110 + 10 * d + 1)), h)
    rw [show E (110 + 10 * d + 1) = dYy E d by show _ = E (111 + 10 * d); congr 1; omega]
  · rw [if_neg (by decide), if_neg (by decide), if_pos rfl, b_7_62, gI_e k, Option.bind_some, fac]
    show _ = some (nI (E (110 + 10 * d + 2)), h)
    have e2 : E (110 + 10 * d + 2) = dAc E d := by show _ = E (112 + 10 * d); congr 1; omega
    rw [e2]
    rcases (show dAc E d = 0 ∨ dAc E d = 1 by omega) with c | c
    · rw [c, if_pos (show nI 0 = 0 from rfl), b_7_73, b_7_74]
    · rw [c, if_neg (show ¬ nI 1 = 0 by decide), b_7_69, b_7_74]
  · rw [if_neg (by decide), if_neg (by decide), if_neg (by decide), if_pos rfl, b_7_75, gI_e k, Option.bind_some, fl]
    show _ = some (nI (E (110 + 10 * d + 3)), h)
    have e2 : E (110 + 10 * d + 3) = dLn E d := by show _ = E (113 + 10 * d); congr 1; omega
    rw [e2]
  · rw [if_neg (by decide), if_neg (by decide), if_neg (by decide), if_neg (by decide), if_neg (by decide), if_neg (by decide), if_pos rfl, b_7_80, gI_e k, Option.bind_some, ft]
    show _ = some (nI (E (110 + 10 * d + (6 - 1))), h)
    have e2 : E (110 + 10 * d + (6 - 1)) = dTd E d := by show _ = E (115 + 10 * d); congr 1; omega
    rw [e2]
  · rw [if_neg (by decide), if_neg (by decide), if_neg (by decide), if_neg (by decide), if_neg (by decide), if_neg (by decide), if_neg (by decide), if_pos rfl, b_7_85, gI_e k, Option.bind_some, fc]
    show _ = some (nI (E (110 + 10 * d + (7 - 1))), h)
    have e2 : E (110 + 10 * d + (7 - 1)) = dCs E d := by show _ = E (116 + 10 * d); congr 1; omega
    rw [e2]
  · rw [if_neg (by decide), if_neg (by decide), if_neg (by decide), if_neg (by decide), if_neg (by decide), if_neg (by decide), if_neg (by decide), if_neg (by decide), if_pos rfl, b_7_90, gI_e k, Option.bind_some, fw]
    show _ = some (nI (E (110 + 10 * d + (8 - 1))), h)
    have e2 : E (110 + 10 * d + (8 - 1)) = dWh E d := by show _ = E (117 + 10 * d); congr 1; omega
    rw [e2]
    rcases (show dWh E d = 0 ∨ dWh E d = 1 by omega) with c | c
    · rw [c, if_pos (show nI 0 = 0 from rfl), b_7_101, b_7_102]
    · rw [c, if_neg (show ¬ nI 1 = 0 by decide), b_7_97, b_7_102]
theorem s_135 (hF : Fix h) (hR : ScR τ h 33 E (anE E) pl) (hW : WF E) : f_135 (some 30) x y h = some (if drB E x y = true then (some (drV E x.toInt.toNat y.toInt.toNat), h) else (none, hLost h 6)) := by
  obtain ⟨q, r⟩ := ask33 hF hR
  have w2 := hW.2.2.1
  rw [f_135, b_135_0, gQ30_1 hF, Option.bind_some, q, Option.bind_some, r, grd_e, Option.bind_some, s_52 hR.2.1 hW.2.2.1, Option.bind_some]
  dsimp only
  by_cases c1 : 0 ≤ x.toInt ∧ x.toInt < E 2
  · rw [bI_T c1, if_neg nI10, b_135_14]
    by_cases c2 : y.toInt < 0
    · rw [if_pos (by rw [fa_lt, toI_0]; exact c2), b_135_24, show drB E x y = false from decide_eq_false (by omega), if_neg (by decide)]
    · rw [if_neg (by rw [fa_lt, toI_0]; exact c2), b_135_18]
      by_cases c3 : y.toInt ≤ 8
      · have e8 : (nI 8).toInt = 8 := by decide
        rw [if_pos (by rw [fa_le, e8]; exact c3), b_135_32, show drB E x y = true from decide_eq_true ⟨c1, by omega⟩, if_pos rfl]
        have ex := na_of c1.1
        have ey := na_of (show 0 ≤ y.toInt by omega)
        have hd : x.toInt.toNat < E 2 := by omega
        have hy : y.toInt.toNat ≤ 8 := by omega
        generalize x.toInt.toNat = d at *
        generalize y.toInt.toNat = w at *
        subst ex ey
        have e3 := hR.2.2.1 d hd
        have wd := hW.2.2.2.2.2.2.1 d hd
        by_cases c4 : w = 4
        · subst c4
          rw [if_neg (fun z => z rfl), b_135_37, gQ30_1 hF, Option.bind_some, gQ33_0 hF, Option.bind_some, aI34 hF (by omega), Option.bind_some, e3.1]
          show _ = some (some (nI (E (110 + 10 * d + 4))), h)
          rw [show E (110 + 10 * d + 4) = dHg E d by show _ = E (114 + 10 * d); congr 1; omega]
        · rw [if_pos (nI_nn (b := 4) (by omega) (by omega) c4), b_135_47]
          by_cases c5 : w = 5
          · subst c5
            rw [if_neg (fun z => z rfl), b_135_52, gQ30_1 hF, Option.bind_some, gQ33_1 hF, Option.bind_some, aI35 hF (by omega), Option.bind_some, b_135_80, e3.2]
            rfl
          · obtain ⟨d1, d2, hD⟩ := dr33 hR hW hd
            rw [if_pos (nI_nn (b := 5) (by omega) (by omega) c5), b_135_64, gQ30_1 hF, Option.bind_some, q, Option.bind_some, d1, Option.bind_some, d2, Option.bind_some, rC_e hD.1 hD.2.1, grd_e, Option.bind_some, s_7 hD (by omega) (by omega) hy c4 c5, Option.bind_some, b_135_80]
      · have e8 : (nI 8).toInt = 8 := by decide
        rw [if_neg (by rw [fa_le, e8]; exact c3), b_135_24, show drB E x y = false from decide_eq_false (by omega), if_neg (by decide)]
  · rw [bI_F c1, if_pos (show nI 0 = 0 from rfl), b_135_24, show drB E x y = false from decide_eq_false (by omega), if_neg (by decide)]
theorem s_217 (hF : Fix h) (hB : Bg h E) (hW : WF E) : ∃ g, f_217 (some 64) x y h = some (if drB E x y = true then drV E x.toInt.toNat y.toInt.toNat else nI 0, g) ∧ Fz Zq h g ∧ NowE g E ∧ hI g 64 22 = 1 ∧ hI g 64 0 = if drB E x y = true then nI 0 else nI 1 := by
  obtain ⟨g, a1, a2, a3, a4⟩ := s_202 hF hB
  have F1 := a2.fix hF (by decide)
  have w2 := hW.2.2.1
  have no : drB E x y = false → ∃ k, b_217_22 (some 64) g = some (if drB E x y = true then drV E x.toInt.toNat y.toInt.toNat else nI 0, k) ∧ Fz Zq h k ∧ NowE k E ∧ hI k 64 22 = 1 ∧ hI k 64 0 = if drB E x y = true then nI 0 else nI 1 := fun c => by
    refine ⟨sI g 64 0 (nI 1), ?_, (a2.wid (by decide)).then (Fz.sI Fz.rfl' (Or.inr (by decide))), a3.cg (funext fun j => by rw [hI_sI, if_neg (by omega)]), by rw [hI_sI, if_neg (by omega)]; exact a4, ?_⟩
    · rw [b_217_22, rC64 F1, grd_e, Option.bind_some, f_177, b_177_0, pI64 F1, Option.bind_some, Option.bind_some, c, if_neg (by decide)]
    · rw [hI_sI, if_pos ⟨rfl, rfl⟩, c, if_neg (by decide)]
  rw [f_217, b_217_0, rC64 hF, grd_e, Option.bind_some, a1, Option.bind_some, rC64 F1, grd_e, Option.bind_some, s_204 F1 a3, Option.bind_some]
  dsimp only
  by_cases c1 : 0 ≤ x.toInt ∧ x.toInt < E 2
  · rw [bI_T c1, if_neg nI10, b_217_12, s_182, Option.bind_some, toI_nI (by omega), toI_nI (by omega)]
    dsimp only
    by_cases c2 : ((0 : Nat) : Int) ≤ y.toInt ∧ y.toInt ≤ ((8 : Nat) : Int)
    · have hc : drB E x y = true := decide_eq_true ⟨c1, by omega⟩
      have F2 : Fix (sI g 64 0 (nI 0)) := fx_sI F1 (by omega)
      have z2 : Fz [1000064] g (sI g 64 0 (nI 0)) := Fz.sI Fz.rfl' (Or.inr (by decide))
      have E2 : NowE (sI g 64 0 (nI 0)) E := a3.cg (z2.I (by decide))
      rw [bI_T c2, if_pos nI10, b_217_27, pI64 F1, Option.bind_some, hc, if_pos rfl, if_pos rfl]
      refine ⟨sI g 64 0 (nI 0), ?_, (a2.wid (by decide)).then (z2.wid (by decide)), E2, by rw [hI_sI, if_neg (by omega)]; exact a4, by rw [hI_sI, if_pos ⟨rfl, rfl⟩]⟩
      have ex := na_of c1.1
      have ey := na_of (show 0 ≤ y.toInt by omega)
      have hd : x.toInt.toNat < E 2 := by omega
      have hy : y.toInt.toNat ≤ 8 := by omega
      generalize x.toInt.toNat = d at *
      generalize y.toInt.toNat = w at *
      subst ex ey
      generalize sI g 64 0 (nI 0) = k at *
      unfold drV
      by_cases c5 : 5 ≤ w
      · rw [if_pos (by rw [nI_leI (by omega) (by omega)]; exact c5), b_217_46, if_neg (show ¬ w < 5 by omega)]
        by_cases c6 : w = 5
        · subst c6
          rw [if_neg (fun z => z rfl), b_217_51, gQ64_14 F2, Option.bind_some, nI_add, aI66 F2 (by omega), Option.bind_some, b_217_72, E2.1 (330 + d) (by omega) (by omega) (by omega), if_pos rfl]
        · rw [if_pos (nI_nn (b := 5) (by omega) (by omega) c6), b_217_64, rC64 F2, grd_e, Option.bind_some, pk_sub (by omega), s_205 F2 E2 (by omega) (by omega), Option.bind_some, b_217_72, if_neg c6]
      · rw [if_neg (by rw [nI_leI (by omega) (by omega)]; exact c5), b_217_37, rC64 F2, grd_e, Option.bind_some, s_205 F2 E2 (by omega) (by omega), Option.bind_some, b_217_72, if_pos (show w < 5 by omega)]
    · rw [bI_F c2, if_neg (fun z => z rfl)]
      exact no (decide_eq_false (by omega))
  · rw [bI_F c1, if_pos (show nI 0 = 0 from rfl)]
    exact no (decide_eq_false (by omega))
theorem s_154 (hF : Fix h) (hR : ScR τ h 33 E an pl) : f_154 (some 30) h = some (mI pl, h) := by
  rw [f_154, b_154_0, gQ30_1 hF, Option.bind_some, gI33 hF, Option.bind_some, hR.2.2.2]
theorem s_263 (hF : Fix h) (hB : Bg h E) : ∃ g, f_263 (some 64) h = some (mI (E 340), g) ∧ Fz Zq h g ∧ NowE g E ∧ hI g 64 22 = 1 ∧ hI g 64 0 = nI 0 := by
  obtain ⟨g, a1, a2, a3, a4, a5, F0, F1⟩ := askM hF hB
  refine ⟨g, ?_, a2.wid (by decide), a3, a4, a5⟩
  rw [f_263, b_263_0, pI64 hF, Option.bind_some, rC64 F0, grd_e, Option.bind_some, a1, Option.bind_some, gQ64_14 F1, Option.bind_some, aI66 F1 (i := 340) (by omega), Option.bind_some, a3.2.2.1]
/-- what count answers -/
def cntA (E : Nat → Nat) (n : Nat) (x : Int32) : Int32 := if x = nI 0 then nI (E 0) else if x = nI 1 then nI (E 1) else if x = nI 2 then nI (E 2) else if x = nI 3 then nI (E 3) else if x = nI 4 then nI (E 341) else if x = nI 5 then nI n else -1
theorem s_171 {n : Nat} (hF : Fix h) (hR : ScR τ h 33 E an pl) (hP : PlR τ h E) (hn : hI h 31 1 = nI n) : f_171 (some 30) x h = some (cntA E n x, h) := by
  obtain ⟨q, r⟩ := ask33 hF hR
  obtain ⟨k, ge, t, a0, a1, a2, ⟨f0, f1, f2, f3, f4⟩, hc, hd, hw⟩ := id hR.2.1
  rw [f_171, b_171_0]
  unfold cntA
  by_cases c0 : x = nI 0
  · rw [if_pos c0, if_pos c0, b_171_40, gQ30_1 hF, Option.bind_some, q, Option.bind_some, gI_e k, Option.bind_some, f0]
  · rw [if_neg c0, if_neg c0]
    by_cases c1 : x = nI 1
    · rw [if_pos c1, if_pos c1, b_171_51, gQ30_1 hF, Option.bind_some, q, Option.bind_some, gI_e k, Option.bind_some, f1]
    · rw [if_neg c1, if_neg c1]
      by_cases c2 : x = nI 2
      · rw [if_pos c2, if_pos c2, b_171_62, gQ30_1 hF, Option.bind_some, q, Option.bind_some, gI_e k, Option.bind_some, f2]
      · rw [if_neg c2, if_neg c2]
        by_cases c3 : x = nI 3
        · rw [if_pos c3, if_pos c3, b_171_73, gQ30_1 hF, Option.bind_some, q, Option.bind_some, gI_e k, Option.bind_some, f3]
        · rw [if_neg c3, if_neg c3]
          by_cases c4 : x = nI 4
          · rw [if_pos c4, if_pos c4, b_171_84, gR30 hF, Option.bind_some]
            rcases hP with ⟨p1, p2⟩ | ⟨p1, p2⟩
            · rw [p1, if_neg (fun z => z rfl), b_171_91, b_171_102, p2]
            · rw [p1, if_pos (fun z => by cases z), b_171_95, gR30 hF, Option.bind_some, p1, gI_e p2.1, Option.bind_some, b_171_102, p2.2.2.2.2.2.1]
          · rw [if_neg c4, if_neg c4]
            by_cases c5 : x = nI 5
            · rw [if_pos c5, if_pos c5, b_171_103, gQ30_0 hF, Option.bind_some, gI31 hF, Option.bind_some, hn]
            · rw [if_neg c5, if_neg c5, b_171_111]
theorem s_301 {n : Nat} (hF : Fix h) (hB : Bg h E) (hn : hI h 64 2 = nI n) : ∃ g, f_301 (some 64) x h = some (cntA E n x, g) ∧ Fz Zq h g ∧ NowE g E ∧ hI g 64 22 = 1 ∧ hI g 64 0 = nI 0 := by
  obtain ⟨g, a1, a2, a3, a4, a5, F0, F1⟩ := askM hF hB
  refine ⟨g, ?_, a2.wid (by decide), a3, a4, a5⟩
  have n1 : hI g 64 2 = nI n := by rw [a2.I1 (by decide) (by decide)]; exact hn
  rw [f_301, b_301_0, pI64 hF, Option.bind_some, rC64 F0, grd_e, Option.bind_some, a1, Option.bind_some]
  unfold cntA
  by_cases c0 : x = nI 0
  · rw [if_pos c0, if_pos c0, b_301_48, gQ64_14 F1, Option.bind_some, aI66 F1 (i := 0) (by omega), Option.bind_some, a3.1 0 (by omega) (by omega) (by omega)]
  · rw [if_neg c0, if_neg c0]
    by_cases c1 : x = nI 1
    · rw [if_pos c1, if_pos c1, b_301_55, gQ64_14 F1, Option.bind_some, aI66 F1 (i := 1) (by omega), Option.bind_some, a3.1 1 (by omega) (by omega) (by omega)]
    · rw [if_neg c1, if_neg c1]
      by_cases c2 : x = nI 2
      · rw [if_pos c2, if_pos c2, b_301_62, rC64 F1, grd_e, Option.bind_some, s_203 F1 a3, Option.bind_some]
      · rw [if_neg c2, if_neg c2]
        by_cases c3 : x = nI 3
        · rw [if_pos c3, if_pos c3, b_301_67, gQ64_14 F1, Option.bind_some, aI66 F1 (i := 3) (by omega), Option.bind_some, a3.1 3 (by omega) (by omega) (by omega)]
        · rw [if_neg c3, if_neg c3]
          by_cases c4 : x = nI 4
          · rw [if_pos c4, if_pos c4, b_301_74, gQ64_14 F1, Option.bind_some, aI66 F1 (i := 341) (by omega), Option.bind_some, a3.1 341 (by omega) (by omega) (by omega)]
          · rw [if_neg c4, if_neg c4]
            by_cases c5 : x = nI 5
            · rw [if_pos c5, if_pos c5, b_301_83, gI64 F1, Option.bind_some, n1]
            · rw [if_neg c5, if_neg c5, b_301_88]
/-- what judged answers: class, reference -/
theorem s_159 (hF : Fix h) (h01 : hI h 30 10 = 0 ∨ hI h 30 10 = 1) : f_159 (some 30) x h = some (if hI h 30 10 = 1 ∧ 0 ≤ x.toInt ∧ x.toInt < 5 then hI h 59 x.toInt.toNat else -2, h) := by
  have e5 : (nI 5).toInt = 5 := by decide
  rw [f_159, b_159_0, gI30 hF, Option.bind_some]
  rcases h01 with c | c
  · rw [if_pos c, b_159_29, b_159_31, c, if_neg (fun z => absurd z.1 (by decide))]
  · rw [c, if_neg (by decide), b_159_7]
    by_cases c2 : x.toInt < 0
    · rw [if_pos (by rw [fa_lt, toI_0]; exact c2), b_159_29, b_159_31, if_neg (by omega)]
    · rw [if_neg (by rw [fa_lt, toI_0]; exact c2), b_159_11, gQ30_9 hF, Option.bind_some, aL59 hF, Option.bind_some]
      by_cases c3 : 5 ≤ x.toInt
      · rw [if_pos (by rw [fa_le, e5]; exact c3), b_159_29, b_159_31, if_neg (by omega)]
      · have hd : x.toInt.toNat < 5 := by omega
        rw [if_neg (by rw [fa_le, e5]; exact c3), if_pos ⟨rfl, by omega, by omega⟩, b_159_20, gQ30_9 hF, Option.bind_some]
        have ex := na_of (show 0 ≤ x.toInt by omega)
        generalize x.toInt.toNat = d at *
        rw [ex, aI59 hF hd, Option.bind_some, b_159_31]
theorem s_273 (hF : Fix h) : f_273 (some 64) x h = some (if 0 ≤ x.toInt ∧ x.toInt < 5 then hI h 89 x.toInt.toNat else -2, sI h 64 0 (nI 0)) ∧ Fz [1000064] h (sI h 64 0 (nI 0)) := by
  have F0 : Fix (sI h 64 0 (nI 0)) := fx_sI hF (by omega)
  refine ⟨?_, Fz.sI Fz.rfl' (Or.inr (by decide))⟩
  rw [f_273, b_273_0, pI64 hF, Option.bind_some, s_182, Option.bind_some, toI_nI (by omega), toI_nI (by omega)]
  dsimp only
  by_cases c : ((0 : Nat) : Int) ≤ x.toInt ∧ x.toInt ≤ ((4 : Nat) : Int)
  · have hd : x.toInt.toNat < 5 := by omega
    rw [bI_T c, if_neg nI10, if_pos (by omega), b_273_14, gQ64_48 F0, Option.bind_some]
    have ex := na_of (show 0 ≤ x.toInt by omega)
    generalize x.toInt.toNat = d at *
    rw [ex, aI89 F0 hd, Option.bind_some, b_273_25, hI_sI, if_neg (by omega)]
  · rw [bI_F c, if_pos (show nI 0 = 0 from rfl), if_neg (by omega), b_273_23, b_273_25]
end SMALL
