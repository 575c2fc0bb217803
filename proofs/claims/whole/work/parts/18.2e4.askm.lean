/-! can, bites of the reference; fault, minutes of both -/
section ASKN
variable {h : Hp} {E : Nat → Nat} {x y u v : Int32}
theorem s_222 (hF : Fix h) (hB : Bg h E) (hW : WF E) : ∃ g, f_222 (some 64) x y h = some (cnA E x y, g) ∧ Fz Zq h g ∧ NowE g E ∧ hI g 64 22 = 1 ∧ hI g 64 0 = nI 0 := by
  obtain ⟨g, a1, a2, a3, a4, a5, F0, F1⟩ := askM hF hB
  rw [f_222, b_222_0, pI64 hF, Option.bind_some, rC64 F0, grd_e, Option.bind_some, a1, Option.bind_some, rC64 F1, grd_e, Option.bind_some, s_204 F1 a3, Option.bind_some]
  dsimp only
  unfold cnA
  by_cases c1 : 0 ≤ x.toInt ∧ x.toInt < E 2
  · rw [bI_T c1, if_neg nI10, b_222_17, s_182, Option.bind_some, toI_nI (by omega), toI_nI (by omega)]
    dsimp only
    by_cases c2 : 0 ≤ y.toInt ∧ y.toInt ≤ 3
    · have hc : dgB E x y = true := decide_eq_true ⟨c1, by omega⟩
      obtain ⟨ex, ey, hd, hg⟩ := dgB_n hc
      rw [bI_T (show ((0 : Nat) : Int) ≤ y.toInt ∧ y.toInt ≤ ((3 : Nat) : Int) from c2), if_pos nI10, hc, if_pos rfl, b_222_28, rC64 F1, grd_e, Option.bind_some]
      generalize x.toInt.toNat = d at *
      generalize y.toInt.toNat = g' at *
      obtain ⟨g2, b1, b2, _⟩ := s_221 (a := 1) F1 a3 (hW.dr hd) hg (by omega)
      have F2 := b2.fix F1 (by decide)
      have E2 := a3.cg (b2.I (a := 66) (by decide))
      obtain ⟨g3, d1, d2, _⟩ := s_221 (a := 2) F2 E2 (hW.dr hd) hg (by omega)
      have zz := (a2.wid (Z := Zq) (by decide)).then ((b2.wid (by decide)).then (d2.wid (by decide)))
      have fr : Fz Zq h g3 ∧ NowE g3 E ∧ hI g3 64 22 = 1 ∧ hI g3 64 0 = nI 0 := ⟨zz, E2.cg (d2.I (by decide)), by rw [d2.I1 (by decide) (by decide), b2.I1 (by decide) (by decide)]; exact a4, by rw [d2.I1 (by decide) (by decide), b2.I1 (by decide) (by decide)]; exact a5⟩
      rw [ex, ey, b1, Option.bind_some]
      dsimp only
      refine ⟨g3, ?_, fr⟩
      unfold canM
      cases canB E d g' 1
      · rw [if_pos (show bI false = 0 from rfl), b_222_43, b_222_44, rC64 F2, grd_e, Option.bind_some, d1, Option.bind_some]
        dsimp only
        cases canB E d g' 2 <;> rfl
      · rw [if_neg (show ¬ bI true = 0 by decide), b_222_39, b_222_44, rC64 F2, grd_e, Option.bind_some, d1, Option.bind_some]
        dsimp only
        cases canB E d g' 2 <;> rfl
    · have hc : dgB E x y = false := decide_eq_false (by omega)
      rw [bI_F (show ¬ (((0 : Nat) : Int) ≤ y.toInt ∧ y.toInt ≤ ((3 : Nat) : Int)) from c2), if_neg (fun z => z rfl), hc, if_neg (by decide), b_222_26]
      exact ⟨g, rfl, a2.wid (by decide), a3, a4, a5⟩
  · have hc : dgB E x y = false := decide_eq_false (by omega)
    rw [bI_F c1, if_pos (show nI 0 = 0 from rfl), hc, if_neg (by decide), b_222_26]
    exact ⟨g, rfl, a2.wid (by decide), a3, a4, a5⟩
theorem s_228 (hF : Fix h) (hB : Bg h E) (hW : WF E) : ∃ g, f_228 (some 64) x y u v h = some (btA E x y u v, g) ∧ Fz Zq h g ∧ NowE g E ∧ hI g 64 22 = 1 ∧ hI g 64 0 = nI 0 := by
  obtain ⟨g, a1, a2, a3, a4, a5, F0, F1⟩ := askM hF hB
  have w2 := hW.2.2.1
  have no : ¬ (x ≠ u ∧ dgB E x y = true ∧ dgB E u v = true) → ∃ g', b_228_49 g = some (btA E x y u v, g') ∧ Fz Zq h g' ∧ NowE g' E ∧ hI g' 64 22 = 1 ∧ hI g' 64 0 = nI 0 := fun c => ⟨g, by unfold btA; rw [if_neg c, b_228_49], a2.wid (by decide), a3, a4, a5⟩
  rw [f_228, b_228_0, pI64 hF, Option.bind_some, rC64 F0, grd_e, Option.bind_some, a1, Option.bind_some, rC64 F1, grd_e, Option.bind_some, s_204 F1 a3, Option.bind_some]
  dsimp only
  by_cases c1 : 0 ≤ x.toInt ∧ x.toInt < E 2
  · rw [bI_T c1, if_neg nI10, b_228_17, rC64 F1, grd_e, Option.bind_some, s_204 F1 a3, Option.bind_some]
    dsimp only
    by_cases c2 : 0 ≤ u.toInt ∧ u.toInt < E 2
    · rw [bI_T c2, if_neg nI10, b_228_25]
      by_cases c3 : x = u
      · rw [if_pos c3]; exact no (fun z => z.1 c3)
      · rw [if_neg c3, b_228_30, s_182, Option.bind_some, toI_nI (by omega), toI_nI (by omega)]
        dsimp only
        by_cases c4 : ((0 : Nat) : Int) ≤ y.toInt ∧ y.toInt ≤ ((3 : Nat) : Int)
        · rw [bI_T c4, if_neg nI10, b_228_39, s_182, Option.bind_some, toI_nI (by omega), toI_nI (by omega)]
          dsimp only
          by_cases c5 : ((0 : Nat) : Int) ≤ v.toInt ∧ v.toInt ≤ ((3 : Nat) : Int)
          · have hc : dgB E x y = true := decide_eq_true ⟨c1, by omega⟩
            have hc2 : dgB E u v = true := decide_eq_true ⟨c2, by omega⟩
            obtain ⟨ex, ey, hd, hg⟩ := dgB_n hc
            obtain ⟨eu, ev, he, hj⟩ := dgB_n hc2
            obtain ⟨g2, b1, b2, b3, b4, b5⟩ := s_225 F1 (Or.inl ⟨a4, a3⟩) hW
            have F2 := b2.fix F1 (by decide)
            unfold btA
            rw [bI_T c5, if_pos nI10, if_pos ⟨c3, hc, hc2⟩, b_228_51, rC64 F1, grd_e, Option.bind_some, b1, Option.bind_some, rC64 F2, grd_e, Option.bind_some]
            generalize x.toInt.toNat = d at *
            generalize y.toInt.toNat = g' at *
            generalize u.toInt.toNat = e at *
            generalize v.toInt.toNat = j at *
            rw [ex, ey, eu, ev, s_226 F2 b5 w2 hd hg he hj, Option.bind_some]
            exact ⟨g2, rfl, (a2.wid (by decide)).then (b2.wid (by decide)), b3, b4, by rw [b2.I1 (by decide) (by decide)]; exact a5⟩
          · rw [bI_F c5, if_neg (fun z => z rfl)]
            exact no (fun z => c5 (by have := of_decide_eq_true z.2.2; omega))
        · rw [bI_F c4, if_pos (show nI 0 = 0 from rfl)]
          exact no (fun z => c4 (by have := of_decide_eq_true z.2.1; omega))
    · rw [bI_F c2, if_pos (show nI 0 = 0 from rfl)]
      exact no (fun z => c2 (by have := of_decide_eq_true z.2.2; omega))
  · rw [bI_F c1, if_pos (show nI 0 = 0 from rfl)]
    exact no (fun z => c1 (by have := of_decide_eq_true z.2.1; omega))
theorem s_133 (hF : Fix h) : f_133 (some 30) h = some (hI h 31 6, h) := by
  rw [f_133, b_133_0, gQ30_0 hF, Option.bind_some, gI31 hF, Option.bind_some]
theorem s_156 (hF : Fix h) : f_156 (some 30) h = some (hI h 30 13, h) := by
  rw [f_156, b_156_0, gI30 hF, Option.bind_some]
theorem s_215 (hF : Fix h) : f_215 (some 64) h = some (hI h 64 10, sI h 64 0 (nI 0)) ∧ Fz [1000064] h (sI h 64 0 (nI 0)) := by
  have F0 : Fix (sI h 64 0 (nI 0)) := fx_sI hF (by omega)
  refine ⟨?_, Fz.sI Fz.rfl' (Or.inr (by simp))⟩
  rw [f_215, b_215_0, pI64 hF, Option.bind_some, gI64 F0, Option.bind_some, hI_sI, if_neg (by omega)]
theorem s_266 (hF : Fix h) : f_266 (some 64) h = some (hI h 64 23, sI h 64 0 (nI 0)) ∧ Fz [1000064] h (sI h 64 0 (nI 0)) := by
  have F0 : Fix (sI h 64 0 (nI 0)) := fx_sI hF (by omega)
  refine ⟨?_, Fz.sI Fz.rfl' (Or.inr (by simp))⟩
  rw [f_266, b_266_0, pI64 hF, Option.bind_some, gI64 F0, Option.bind_some, hI_sI, if_neg (by omega)]
end ASKN
