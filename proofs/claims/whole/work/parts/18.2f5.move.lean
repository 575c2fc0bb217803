/-! joiner of the class; rehang, stand, judge, live of both -/
def rhB (E : Nat → Nat) (x y : Int32) : Bool := dgB E x y && decide (E (330 + x.toInt.toNat) = 0) && mayB E x.toInt.toNat y.toInt.toNat
def rhE (E : Nat → Nat) (x y : Int32) : Nat → Nat := if rhB E x y = true then upX E (114 + 10 * x.toInt.toNat) y.toInt.toNat else E
def stB (E : Nat → Nat) (x y : Int32) : Bool := wkB E (x.toInt, y.toInt) && !leafB E (anE E) (cN (x.toInt, y.toInt))
def stE (E : Nat → Nat) (x y : Int32) : Nat → Nat := if stB E x y = true then upX E 340 (cN (x.toInt, y.toInt) + 1) else E
theorem dayL_ta {E : Nat → Nat} (hW : WF E) {o : Nat} (ho : o < 5 + 2 * E 2) : ∀ r k an pl sp sh d, E 2 ≤ d → (dayL E o r k an pl sp sh).2.1 d = an d := by
  intro r
  induction r with
  | zero => intro k an pl sp sh d _; rfl
  | succ r ih =>
    intro k an pl sp sh d hd
    unfold dayL
    have o2 : (if 0 < k ∧ soB E an o = true then 0 else o) < 5 + 2 * E 2 := by split <;> omega
    generalize (if 0 < k ∧ soB E an o = true then 0 else o) = oo at *
    split
    · rw [ih _ _ _ _ _ d hd, mnA_ta hW o2 d hd]
    · rfl
theorem actD_ta {E : Nat → Nat} (hW : WF E) {o t : Nat} (ho : o < 5 + 2 * E 2) {an : Nat → Nat} {pl sp sh d : Nat} (hd : E 2 ≤ d) : (actD E o t an pl sp sh).2.1 d = an d := by
  unfold actD
  split
  · exact dayL_ta hW ho _ _ _ _ _ _ d hd
  · split
    · rfl
    · exact dayL_ta hW ho _ _ _ _ _ _ d hd
theorem dyR_ta {E : Nat → Nat} (hW : WF E) (hD : DW E) : ∀ r i an pl sp sh d, i + r ≤ E 341 → E 2 ≤ d → (dyR E r i an pl sp sh).2.2.1 d = an d := by
  intro r
  induction r with
  | zero => intro i an pl sp sh d _ _; rfl
  | succ r ih =>
    intro i an pl sp sh d hi hd
    have oo := (hD.o (show i < E 341 by omega)).1
    unfold dyR
    split
    · rw [ih _ _ _ _ _ d (by omega) hd, actD_ta hW oo hd]
    · exact actD_ta hW oo hd
section MOVE
variable {τ : Nat → Nat} {h : Hp} {E an : Nat → Nat} {pl : Nat} {x y w : Int32}
theorem s_150 {pk : Nat} (hF : Fix h) (hT : TG τ) (hN' : ∀ p, τ p = 1 → p < hN h) (hN1 : hN h + 1 < 1000000) (hR : ScR τ h 33 E an pl) (hW : WF E) (hI' : HGI τ h) (hr : hQ h 39 15 = none ∨ PKP h pk ∧ τ pk ≠ 1) :
    (solW E (dHg E) (wC E) = none ∧ ∃ g, f_150 (some 30) h = some (-1, g) ∧ Fa Zl h g ∧ Fix g ∧ Hk τ g E ∧ hN g = hN h ∧ hC g = hC h ∧ hS g = hS h) ∨
    ∃ b g pk' W S o z, solW E (dHg E) (wC E) = some b ∧ f_150 (some 30) h = some (nI (W 0), g) ∧ PKq E b.2 (chM E b.2) 0 W ∧ ORp W (chM E b.2) (E 2) z S o ∧ S z = chM E b.2 ∧ hI g 39 9 = nI z ∧ (∀ j, j < z → hI g 44 j = nI (o j)) ∧
      Fa ([2000039, 3000039, 40, 41, 6000039, 8000039, 45, 46, 47, 14000039, 15000039, 42, 44, 10000039, 16000039] ++ [pk]) h g ∧ Fix g ∧ Hk τ g E ∧ PKP g pk' ∧ (pk' = pk ∨ hN h ≤ pk') ∧ τ pk' ≠ 1 ∧ hN g ≤ hN h + 1 ∧ hC g ≤ hC h + 1 ∧ hS g ≤ hS h + 1024 := by
  obtain ⟨g, a1, a2, a3, a4, a5, a6, a7, a8⟩ := lk27 hF hT hN' hR hW hI'
  have n98 := hF.1
  have hr2 : hQ g 39 15 = none ∨ PKP g pk ∧ τ pk ≠ 1 := by
    have q : hQ g 39 15 = hQ h 39 15 := a2.Q1 (by omega) (by decide) (by decide)
    rcases hr with z | ⟨⟨p1, p2, p3, p4, p5⟩, z2⟩
    · exact Or.inl (by rw [q]; exact z)
    · exact Or.inr ⟨⟨by rw [q]; exact p1, by rw [(a2.2.1 pk p5).1]; exact p2, by rw [(a2.2.1 pk p5).2]; exact p3, p4, by omega⟩, z2⟩
  have hd : ∀ r, f_150 (some 30) h = r ↔ f_44 (some 39) g = r := fun r => by
    rw [f_150, b_150_0, gQ30_3 hF, Option.bind_some, gQ30_1 hF, Option.bind_some, rC39 hF, grd_e, Option.bind_some, a1, Option.bind_some, gQ30_3 a3, Option.bind_some, rC39 a3, grd_e, Option.bind_some]
    cases f_44 (some 39) g <;> rfl
  rcases s_44 (pk := pk) a3 hT (fun p hp => by rw [a5]; exact hN' p hp) (by omega) hW a4 hr2 with ⟨b0, g2, b1, b2, b3, b4⟩ | ⟨b, g2, pk', W, S, o, z, b0, b1, b2, b3, b4, b5, b6, b7, b8, b9, b10, b11, b12, b13, b14, b15⟩
  · exact Or.inl ⟨b0, g2, (hd _).2 b1, (a2.wid (by decide)).then (b2.fa.wid (by decide)), b3, b4, by rw [b2.N]; exact a5, by rw [b2.C]; exact a6, by rw [b2.S]; exact a7⟩
  · refine Or.inr ⟨b, g2, pk', W, S, o, z, b0, (hd _).2 b1, b2, b3, b4, b5, b6, ?_, b8, b9, b10, by omega, b12, by omega, by omega, by omega⟩
    refine (a2.wid (fun z hz => ?_)).then (b7.wid (fun z hz => ?_))
    · left; simp only [Zk, List.cons_append, List.nil_append, List.mem_cons, List.not_mem_nil, or_false] at hz ⊢; omega
    · left; simp only [List.cons_append, List.nil_append, List.mem_cons, List.not_mem_nil, or_false] at hz ⊢; omega
theorem s_152 (hF : Fix h) (hR : ScR τ h 33 E (anE E) pl) (hW : WF E) (hV : ∀ d, d < E 2 → anE E d < 3) : f_152 (some 30) x y h = some (bI (rhB E x y), if rhB E x y = true then sI h 34 x.toInt.toNat (nI y.toInt.toNat) else h) := by
  obtain ⟨q, r⟩ := ask33 hF hR
  have w2 := hW.2.2.1
  have f53 : f_53 (some (rq h 33 2)) x y h = some (bI (dgB E x y), h) := s_53 hR.2.1 hW.2.2.1
  have no : rhB E x y = false → b_152_46 h = some (bI (rhB E x y), if rhB E x y = true then sI h 34 x.toInt.toNat (nI y.toInt.toNat) else h) := fun c => by rw [c, if_neg (by decide), b_152_46, grd0, Option.bind_some]; rfl
  rw [f_152, b_152_0, gQ30_1 hF, Option.bind_some, q, Option.bind_some, r, grd_e, Option.bind_some, f53, Option.bind_some]
  dsimp only
  cases hc : dgB E x y
  · rw [if_pos (show bI false = 0 from rfl)]
    exact no (by unfold rhB; rw [hc]; rfl)
  · obtain ⟨ex, ey, hd, hg⟩ := dgB_n hc
    obtain ⟨d1, d2, hD⟩ := dr33 hR hW hd
    have wd := (hW.2.2.2.2.2.2.1 _ hd).1
    have e3 := hR.2.2.1 _ hd
    have a3 := hV _ hd
    rw [if_neg (show ¬ bI true = 0 by decide), b_152_15, gQ30_1 hF, Option.bind_some, gQ33_1 hF, Option.bind_some, ex, aI35 hF (by omega), Option.bind_some, e3.2]
    by_cases c0 : anE E x.toInt.toNat = 0
    · rw [if_neg (fun z => z (by rw [c0]; rfl)), b_152_27, gQ30_1 hF, Option.bind_some, q, Option.bind_some, d1, Option.bind_some, d2, Option.bind_some, rC_e hD.1 hD.2.1, grd_e, Option.bind_some, ey, s_10 hD (by omega) (by omega) hg, Option.bind_some, ← ex, ← ey]
      dsimp only
      cases hm : mayB E x.toInt.toNat y.toInt.toNat
      · rw [if_neg (fun z => z rfl)]
        exact no (by unfold rhB; rw [hm, Bool.and_false])
      · have hb : rhB E x y = true := by unfold rhB; rw [hm, hc, decide_eq_true (show E (330 + x.toInt.toNat) = 0 from c0)]; rfl
        have w34 : wI (some 34) x y h = some (sI h 34 x.toInt.toNat (nI y.toInt.toNat)) := by
          have := wI34 hF (show x.toInt.toNat < 10 by omega) (nI y.toInt.toNat)
          rw [← ex, ← ey] at this
          rw [← ey]
          exact this
        rw [if_pos (show ¬ bI true = 0 by decide), b_152_48, gQ30_1 hF, Option.bind_some, gQ33_0 hF, Option.bind_some, w34, Option.bind_some, grd1, Option.bind_some, hb, if_pos rfl]
        rfl
    · rw [if_pos (nI_n0 (by omega) c0), ← ex]
      exact no (by unfold rhB; rw [decide_eq_false (show ¬ E (330 + x.toInt.toNat) = 0 from c0), Bool.and_false]; rfl)
theorem s_251 (hF : Fix h) (hB : Bg h E) (hW : WF E) (hV : ∀ d, d < E 2 → anE E d < 3) : ∃ g, f_251 (some 64) x y h = some (bI (rhB E x y), g) ∧ Fz Zq h g ∧ NowE g (rhE E x y) ∧ hI g 64 22 = 1 ∧ hI g 64 0 = nI 0 := by
  obtain ⟨g, a1, a2, a3, a4, a5, F0, F1⟩ := askM hF hB
  have w2 := hW.2.2.1
  have no : ∀ k, Fz Zq h k → NowE k E → hI k 64 22 = 1 → hI k 64 0 = nI 0 → rhB E x y = false → ∃ g, b_251_61 k = some (bI (rhB E x y), g) ∧ Fz Zq h g ∧ NowE g (rhE E x y) ∧ hI g 64 22 = 1 ∧ hI g 64 0 = nI 0 := fun k h1 h2 h3 h4 c => ⟨k, by rw [c, b_251_61, grd0, Option.bind_some]; rfl, h1, by unfold rhE; rw [c, if_neg (by decide)]; exact h2, h3, h4⟩
  rw [f_251, b_251_0, pI64 hF, Option.bind_some, rC64 F0, grd_e, Option.bind_some, a1, Option.bind_some, rC64 F1, grd_e, Option.bind_some, s_204 F1 a3, Option.bind_some]
  dsimp only
  by_cases c1 : 0 ≤ x.toInt ∧ x.toInt < E 2
  · rw [bI_T c1, if_neg nI10, b_251_17, s_182, Option.bind_some, toI_nI (by omega), toI_nI (by omega)]
    dsimp only
    by_cases c2 : ((0 : Nat) : Int) ≤ y.toInt ∧ y.toInt ≤ ((3 : Nat) : Int)
    · have hc : dgB E x y = true := decide_eq_true ⟨c1, by omega⟩
      obtain ⟨ex, ey, hd, hg⟩ := dgB_n hc
      have dr := hW.dr hd
      have v3 := hV _ hd
      rw [bI_T c2, if_neg nI10, b_251_26, rC64 F1, grd_e, Option.bind_some, ex, s_205 F1 a3 (d := x.toInt.toNat) (w := 5) (by omega) (by omega), Option.bind_some]
      dsimp only
      have e5 : E (110 + 10 * x.toInt.toNat + 5) = dTd E x.toInt.toNat := by show _ = E (115 + 10 * x.toInt.toNat); congr 1; omega
      rw [e5, ey, s_183 (by have := dr.2.2.2.2.2.2.1; omega) (by omega), Option.bind_some]
      dsimp only
      cases ht : (dTd E x.toInt.toNat).testBit y.toInt.toNat
      · rw [if_pos (show bI false = 0 from rfl), ← ex, ← ey]
        exact no g (a2.wid (by decide)) a3 a4 a5 (by unfold rhB mayB; rw [ht]; simp)
      · rw [if_neg (show ¬ bI true = 0 by decide), b_251_39, gQ64_14 F1, Option.bind_some, nI_add, aI66 F1 (by omega), Option.bind_some, a3.1 (330 + x.toInt.toNat) (by omega) (by omega) (by omega)]
        by_cases c0 : E (330 + x.toInt.toNat) = 0
        · obtain ⟨g2, b1, b2⟩ := s_223 (d := x.toInt.toNat) (g := y.toInt.toNat) F1 a3 dr hg
          have F2 := b2.fix F1 (by decide)
          have E2 := a3.cg (b2.I (a := 66) (by decide))
          have zz : Fz Zq h g2 := (a2.wid (by decide)).then (b2.wid (by decide))
          have m22 : hI g2 64 22 = 1 := by rw [b2.I1 (by decide) (by decide)]; exact a4
          have m0 : hI g2 64 0 = nI 0 := by rw [b2.I1 (by decide) (by decide)]; exact a5
          rw [if_neg (fun z => z (by rw [c0]; rfl)), b_251_52, rC64 F1, grd_e, Option.bind_some, b1, Option.bind_some]
          dsimp only
          cases hm : fitB E x.toInt.toNat y.toInt.toNat
          · rw [if_neg (fun z => z rfl), ← ex, ← ey]
            exact no g2 zz E2 m22 m0 (by unfold rhB mayB; rw [hm]; simp)
          · have hb : rhB E x y = true := by unfold rhB mayB; rw [hm, ht, hc, decide_eq_true c0]; rfl
            have hy4 : y.toInt.toNat < 4 := hg
            refine ⟨sI g2 66 (114 + 10 * x.toInt.toNat) (nI y.toInt.toNat), ?_, zz.then (Fz.sI Fz.rfl' (Or.inl (by decide))), ?_, by rw [hI_sI, if_neg (by omega)]; exact m22, by rw [hI_sI, if_neg (by omega)]; exact m0⟩
            · rw [if_pos (show ¬ bI true = 0 by decide), b_251_63, gQ64_14 F2, Option.bind_some, pk_mul, nI_add, nI_add, wI66 F2 (by omega), Option.bind_some, grd1, Option.bind_some, show rhB E (nI x.toInt.toNat) (nI y.toInt.toNat) = true by rw [← ex, ← ey]; exact hb, show 110 + 10 * x.toInt.toNat + 4 = 114 + 10 * x.toInt.toNat by omega]
              rfl
            · rw [show rhE E (nI x.toInt.toNat) (nI y.toInt.toNat) = upX E (114 + 10 * x.toInt.toNat) y.toInt.toNat by rw [← ex, ← ey]; unfold rhE; rw [if_pos hb]]
              generalize x.toInt.toNat = d at *
              generalize y.toInt.toNat = v at *
              refine ⟨fun i hi n4 n3 => ?_, ?_, ?_, fun i => ?_⟩
              · rw [hI_sI, upX_e]
                by_cases c : i = 114 + 10 * d
                · rw [if_pos ⟨rfl, c⟩, if_pos c]
                · rw [if_neg (fun z => c z.2), if_neg c]; exact E2.1 i hi n4 n3
              · rw [hI_sI, if_neg (by omega), upX_n (by omega)]; exact E2.2.1
              · rw [hI_sI, if_neg (by omega), upX_n (by omega)]; exact E2.2.2.1
              · rw [upX_e]; split
                · omega
                · exact E2.2.2.2 i
        · rw [if_pos (nI_n0 (by have : E (330 + x.toInt.toNat) < 3 := v3; omega) c0), ← ex, ← ey]
          exact no g (a2.wid (by decide)) a3 a4 a5 (by unfold rhB; rw [decide_eq_false c0, Bool.and_false]; rfl)
    · rw [bI_F c2, if_pos (show nI 0 = 0 from rfl)]
      exact no g (a2.wid (by decide)) a3 a4 a5 (by unfold rhB; rw [show dgB E x y = false from decide_eq_false (by omega)]; rfl)
  · rw [bI_F c1, if_pos (show nI 0 = 0 from rfl)]
    exact no g (a2.wid (by decide)) a3 a4 a5 (by unfold rhB; rw [show dgB E x y = false from decide_eq_false (by omega)]; rfl)
theorem s_153 (hF : Fix h) (hR : ScR τ h 33 E (anE E) pl) (hW : WF E) (hV : ∀ d, d < E 2 → anE E d < 3) : f_153 (some 30) x y h = some (bI (stB E x y), if stB E x y = true then sI h 33 3 (nI (cN (x.toInt, y.toInt))) else h) := by
  obtain ⟨q, r⟩ := ask33 hF hR
  have no : stB E x y = false → b_153_31 h = some (bI (stB E x y), if stB E x y = true then sI h 33 3 (nI (cN (x.toInt, y.toInt))) else h) := fun c => by rw [c, if_neg (by decide), b_153_31, grd0, Option.bind_some]; rfl
  have f51 : f_51 (some (rq h 33 2)) x y h = some (bI (wkB E (x.toInt, y.toInt)), h) := s_51 hR.2.1 hW
  rw [f_153, b_153_0, gQ30_1 hF, Option.bind_some, q, Option.bind_some, r, grd_e, Option.bind_some, f51, Option.bind_some]
  dsimp only
  cases hc : wkB E (x.toInt, y.toInt)
  · rw [if_pos (show bI false = 0 from rfl)]
    exact no (by unfold stB; rw [hc]; rfl)
  · have b := wkB_in ⟨hW.1, hW.2.1⟩ hc
    have e : nI 10 * y + x = nI (cN (x.toInt, y.toInt)) := by rw [← zI_cN b, ← zI_of, ← zI_of]
    rw [if_neg (show ¬ bI true = 0 by decide), b_153_15, gQ30_1 hF, Option.bind_some, rC33 hF, grd_e, Option.bind_some, e, s_85 hF (Or.inl rfl) hR hW hV (cN_lt b), Option.bind_some]
    dsimp only
    cases hl : leafB E (anE E) (cN (x.toInt, y.toInt))
    · have hb : stB E x y = true := by unfold stB; rw [hc, hl]; rfl
      rw [if_pos (show bI false = 0 from rfl), b_153_33, gQ30_1 hF, Option.bind_some, e, pI33 hF, Option.bind_some, grd1, Option.bind_some, hb, if_pos rfl]
      rfl
    · rw [if_neg (show ¬ bI true = 0 by decide)]
      exact no (by unfold stB; rw [hl, Bool.not_true, Bool.and_false])
theorem s_262 (hF : Fix h) (hB : Bg h E) (hW : WF E) (hV : VA E (anE E) (E 340)) : ∃ g, f_262 (some 64) x y h = some (bI (stB E x y), g) ∧ Fz [1000064, 23000064, 66, 87, 46000064, 47000064, 27000064, 74, 75, 88] h g ∧ NowE g (stE E x y) ∧ hI g 64 22 = 1 ∧ hI g 64 0 = nI 0 := by
  have z0 : Fz [1000064] h (sI h 64 0 (nI 0)) := Fz.sI Fz.rfl' (Or.inr (by decide))
  have F0 : Fix (sI h 64 0 (nI 0)) := fx_sI hF (by omega)
  have B0 : Bg (sI h 64 0 (nI 0)) E := hB.cg (z0.I1 (by decide) (by decide)) (z0.I (by decide))
  have i0 : hI (sI h 64 0 (nI 0)) 64 0 = nI 0 := by rw [hI_sI, if_pos ⟨rfl, rfl⟩]
  obtain ⟨g, a1, a2, a3, a4, a5⟩ := s_253 F0 B0 hW hV.1 hV.2.1
  have F1 := a2.fix F0 (by decide)
  have zz : Fz [1000064, 23000064, 66, 87, 46000064, 47000064, 27000064, 74, 75, 88] h g := (z0.wid (by decide)).then (a2.wid (by decide))
  have m0 : hI g 64 0 = nI 0 := by rw [a2.I1 (by decide) (by decide)]; exact i0
  have no : stB E x y = false → ∃ k, b_262_32 g = some (bI (stB E x y), k) ∧ Fz [1000064, 23000064, 66, 87, 46000064, 47000064, 27000064, 74, 75, 88] h k ∧ NowE k (stE E x y) ∧ hI k 64 22 = 1 ∧ hI k 64 0 = nI 0 := fun c => ⟨g, by rw [c, b_262_32, grd0, Option.bind_some]; rfl, zz, by unfold stE; rw [c, if_neg (by decide)]; exact a3.1, a4, m0⟩
  rw [f_262, b_262_0, pI64 hF, Option.bind_some, rC64 F0, grd_e, Option.bind_some, a1, Option.bind_some, rC64 F1, grd_e, Option.bind_some, s_255 F1 a3.1 ⟨hW.1, hW.2.1⟩, Option.bind_some]
  dsimp only
  cases hc : wkB E (x.toInt, y.toInt)
  · rw [if_pos (show bI false = 0 from rfl)]
    exact no (by unfold stB; rw [hc]; rfl)
  · have b := wkB_in ⟨hW.1, hW.2.1⟩ hc
    have b9 := cN_lt b
    have e : nI 10 * y + x = nI (cN (x.toInt, y.toInt)) := by rw [← zI_cN b, ← zI_of, ← zI_of]
    have ll := lonV_le (E := E) (an := anE E) (cN (x.toInt, y.toInt)) (E 2)
    have l0 := lonV_0 (E := E) (an := anE E) (cN (x.toInt, y.toInt)) (E 2)
    have w2 := hW.2.2.1
    rw [if_neg (show ¬ bI true = 0 by decide), b_262_18, gQ64_44 F1, Option.bind_some, e, aI88 F1 b9, Option.bind_some, a3.2.2.2 _ b9]
    by_cases c0 : lonV E (anE E) (E 2) (cN (x.toInt, y.toInt)) = 0
    · have lf : leafB E (anE E) (cN (x.toInt, y.toInt)) = false := by
        unfold leafB
        cases hx : exB (fun d => lf E (anE E) d (cN (x.toInt, y.toInt))) 0 (E 2)
        · rfl
        · obtain ⟨j, _, j2, j3⟩ := (exB_iff _ _ _).1 hx
          have := l0.1 c0 j (by omega)
          rw [this] at j3
          cases j3
      have hb : stB E x y = true := by unfold stB; rw [hc, lf]; rfl
      refine ⟨sI g 66 340 (nI (cN (x.toInt, y.toInt))), ?_, zz.then (Fz.sI Fz.rfl' (Or.inl (by decide))), ?_, by rw [hI_sI, if_neg (by omega)]; exact a4, by rw [hI_sI, if_neg (by omega)]; exact m0⟩
      · rw [if_pos (by rw [c0]; rfl), b_262_34, gQ64_14 F1, Option.bind_some, e, wI66 F1 (i := 340) (by omega), Option.bind_some, grd1, Option.bind_some, hb]
        rfl
      · unfold stE
        rw [if_pos hb]
        generalize cN (x.toInt, y.toInt) = c at *
        refine ⟨fun i hi n4 n3 => ?_, ?_, ?_, fun i => ?_⟩
        · rw [hI_sI, if_neg (by omega), upX_n (by omega)]; exact a3.1.1 i hi n4 n3
        · rw [hI_sI, if_neg (by omega), upX_n (by omega)]; exact a3.1.2.1
        · rw [hI_sI, if_pos ⟨rfl, rfl⟩, upX_i]; rfl
        · rw [upX_e]; split
          · omega
          · exact a3.1.2.2.2 i
    · have lf : leafB E (anE E) (cN (x.toInt, y.toInt)) = true := by
        cases hx : leafB E (anE E) (cN (x.toInt, y.toInt))
        · exfalso
          apply c0
          apply l0.2
          intro d hd
          cases hy : lf E (anE E) d (cN (x.toInt, y.toInt))
          · rfl
          · have := (exB_iff (fun d => lf E (anE E) d (cN (x.toInt, y.toInt))) (E 2) 0).2 ⟨d, by omega, by omega, hy⟩
            unfold leafB at hx
            rw [this] at hx
            cases hx
        · rfl
      rw [if_neg (nI_n0 (by omega) c0)]
      exact no (by unfold stB; rw [lf, Bool.not_true, Bool.and_false])
theorem s_158 (hF : Fix h) (hT : TG τ) (hN' : ∀ x, τ x = 1 → x < hN h) (hW : WF E) (hD : DW E) (hP : PlR τ h E) (hR : ScR τ h 33 E (anE E) (E 340)) (hV : VA E (anE E) (E 340)) : ∃ g, f_158 (some 30) h = some (mI (dyN E).2.1, g) ∧ Fa [3000036, 4000036, 37, 38, 59, 11000030] h g ∧ (hN g = hN h ∧ hC g = hC h ∧ hS g = hS h) ∧ RpR g 59 E ∧ hI g 30 10 = nI 1 := by
  have w2 := hW.2.2.1
  have t1 : ∀ p, p < 60 → τ p ≠ 1 := fun p hp z => by have := (hT p z).1; omega
  have n98 := hF.1
  obtain ⟨g1, a1, a2, a3, a4, a5, a6⟩ := s_84 (q := 36) (qh := 37) (qa := 38) hT hN' (hR.g hF (Or.inl rfl)) (K36 hF) (Q36_0 hF) (Q36_1 hF) (K37 hF) (L37 hF) (K38 hF) (L38 hF) (by omega) (by omega) ⟨t1 36 (by omega), t1 37 (by omega), t1 38 (by omega)⟩ (by omega) w2
  have F1 : Fix g1 := a2.fix hF (by decide) (by decide)
  have ag : Ag τ h g1 := a2.ag hT hN' (fun z hz q => by
    have := hT _ q
    simp only [List.mem_cons, List.not_mem_nil, or_false] at hz
    omega)
  have P1 : PlR τ g1 E := by
    have q : hQ g1 30 = hQ h 30 := (a2.all (by omega) (by decide)).2.2
    have q2 : rq g1 30 11 = rq h 30 11 := rq_e q 11
    rcases hP with ⟨p1, p2⟩ | ⟨p1, p2⟩
    · exact Or.inl ⟨by rw [q]; exact p1, p2⟩
    · exact Or.inr ⟨by rw [q, q2]; exact p1, by rw [q2]; exact p2.ag ag⟩
  obtain ⟨g2, b1, b2, b3, b4, b5, b6⟩ := s_172 (s := 36) F1 hT (Or.inr (Or.inl rfl)) (by omega) hW hD P1 (ScG.r (s := 36) a6) hV
  refine ⟨g2, ?_, (a2.wid (by decide)).then (b2.fa.wid (by decide)), ⟨by rw [b2.N]; exact a3, by rw [b2.C]; exact a4, by rw [b2.S]; exact a5⟩, b5, b6⟩
  have a1' : f_84 (some 36) (some 33) h = some g1 := a1
  rw [f_158, b_158_0, gQ30_2 hF, Option.bind_some, gQ30_1 hF, Option.bind_some, rC36 hF, grd_e, Option.bind_some, a1', Option.bind_some, gQ30_2 F1, Option.bind_some, rC30 F1, grd_e, Option.bind_some, b1, Option.bind_some]
theorem s_160 {n0 : Nat} (hF : Fix h) (hT : TG τ) (hW : WF E) (hD : DW E) (hP : PlR τ h E) (hR : ScR τ h 33 E (anE E) (E 340)) (hV : VA E (anE E) (E 340)) (hn : hI h 30 13 = nI n0) : ∃ g, f_160 (some 30) h = some (mI (dyN E).2.1, g) ∧ Fz [35, 4000033, 59, 11000030, 14000030] h g ∧ ScR τ g 33 E (dyN E).2.2.1 (dyN E).2.2.2.1 ∧ VA E (dyN E).2.2.1 (dyN E).2.2.2.1 ∧ RpR g 59 E ∧ hI g 30 10 = nI 1 ∧ hI g 30 13 = nI (n0 + (dyN E).2.2.2.2.1) := by
  obtain ⟨g, b1, b2, b3, b4, b5, b6⟩ := s_172 (s := 33) hF hT (Or.inl rfl) (by omega) hW hD hP hR hV
  have F1 := b2.fix hF (by decide)
  have n1 : hI g 30 13 = nI n0 := by rw [b2.I1 (by decide) (by decide)]; exact hn
  have z2 : Fz [14000030] g (sI g 30 13 (nI (n0 + (dyN E).2.2.2.2.1))) := Fz.sI Fz.rfl' (Or.inr (by decide))
  refine ⟨sI g 30 13 (nI (n0 + (dyN E).2.2.2.2.1)), ?_, (b2.wid (by decide)).then (z2.wid (by decide)), ?_, b4, ?_, ?_, ?_⟩
  · rw [f_160, b_160_0, gQ30_1 hF, Option.bind_some, rC30 hF, grd_e, Option.bind_some, b1, Option.bind_some, bnd_e]
    dsimp only
    rw [gI30 F1, Option.bind_some, n1, gQ30_9 F1, Option.bind_some, aI59 F1 (i := 1) (by omega), Option.bind_some, b5.2.1, nI_add, pI30 F1, Option.bind_some]
  · refine b3.ag (fun p hp => ⟨rfl, rfl, rfl, ?_, rfl⟩) rfl (z2.I (by decide)) (z2.I (by decide)) (by rw [z2.I (by decide)])
    exact funext fun j => by rw [hI_sI, if_neg (by have := (hT p hp).1; omega)]
  · unfold RpR
    rw [z2.I (a := 59) (by decide)]
    exact b5
  · rw [hI_sI, if_neg (by omega)]; exact b6
  · rw [hI_sI, if_pos ⟨rfl, rfl⟩]
abbrev Zd : List Nat := [1000064, 23000064, 66, 87, 46000064, 47000064, 50000064, 27000064, 74, 75, 88, 89]
theorem s_272 (hF : Fix h) (hB : Bg h E) (hW : WF E) (hV : VA E (anE E) (E 340)) (hD : DW E) : ∃ g, f_272 (some 64) h = some (mI (dyN E).2.1, g) ∧ Fz Zd h g ∧ NowE g E ∧ hI g 64 22 = 1 ∧ RpR g 89 E := by
  have z0 : Fz [1000064] h (sI h 64 0 (nI 0)) := Fz.sI Fz.rfl' (Or.inr (by decide))
  have F0 : Fix (sI h 64 0 (nI 0)) := fx_sI hF (by omega)
  have B0 : Bg (sI h 64 0 (nI 0)) E := hB.cg (z0.I1 (by decide) (by decide)) (z0.I (by decide))
  obtain ⟨g, a1, a2, a3, a4, a5⟩ := s_271 F0 B0 hW hV hD
  refine ⟨g, ?_, (z0.wid (by decide)).then (a2.wid (by decide)), a3.1.1, a4, a5⟩
  rw [f_272, b_272_0, pI64 hF, Option.bind_some, rC64 F0, grd_e, Option.bind_some, a1, Option.bind_some]
theorem s_274 {n0 : Nat} (hF : Fix h) (hB : Bg h E) (hW : WF E) (hV : VA E (anE E) (E 340)) (hD : DW E) (hE : ∀ i, E i < 100000) (hn : hI h 64 23 = nI n0) : ∃ g, f_274 (some 64) h = some (mI (dyN E).2.1, g) ∧ Fz [1000064, 23000064, 24000064, 66, 87, 46000064, 47000064, 50000064, 27000064, 74, 75, 88, 89] h g ∧ NowE g (kpE E (dyN E).2.2.1 (dyN E).2.2.2.1) ∧ hI g 64 22 = 1 ∧ RpR g 89 E ∧ hI g 64 23 = nI (n0 + (dyN E).2.2.2.2.1) := by
  have z0 : Fz [1000064] h (sI h 64 0 (nI 0)) := Fz.sI Fz.rfl' (Or.inr (by decide))
  have F0 : Fix (sI h 64 0 (nI 0)) := fx_sI hF (by omega)
  have B0 : Bg (sI h 64 0 (nI 0)) E := hB.cg (z0.I1 (by decide) (by decide)) (z0.I (by decide))
  have w2 := hW.2.2.1
  obtain ⟨g, a1, a2, a3, a4, a5⟩ := s_271 F0 B0 hW hV hD
  have F1 := a2.fix F0 (by decide)
  have n1 : hI g 64 23 = nI n0 := by rw [a2.I1 (by decide) (by decide), z0.I1 (by decide) (by decide)]; exact hn
  obtain ⟨k, b1, b2, b3⟩ := s_254 F1 a3.1 (fun d hd => by
    by_cases c : d < E 2
    · have := a3.2.1.1 d c; omega
    · have e : (dyN E).2.2.1 d = anE E d := dyR_ta hW hD (E 341) 0 (anE E) (E 340) 0 0 d (by omega) (by omega)
      rw [e]; exact hE (330 + d)) a3.2.1.2.2.2
  have F2 := b2.fix F1 (by decide)
  have n2 : hI k 64 23 = nI n0 := by rw [b2.I (by decide)]; exact n1
  have s2 : hI k 64 49 = nI (dyN E).2.2.2.2.1 := by rw [b2.I (by decide)]; exact a3.2.2.1
  have z3 : Fz [24000064] k (sI k 64 23 (nI (n0 + (dyN E).2.2.2.2.1))) := Fz.sI Fz.rfl' (Or.inr (by decide))
  refine ⟨sI k 64 23 (nI (n0 + (dyN E).2.2.2.2.1)), ?_, (z0.wid (by decide)).then ((a2.wid (by decide)).then ((b2.wid (by decide)).then (z3.wid (by decide)))), b3.cg (z3.I (by decide)), ?_, ?_, ?_⟩
  · rw [f_274, b_274_0, pI64 hF, Option.bind_some, rC64 F0, grd_e, Option.bind_some, a1, Option.bind_some, bnd_e, rC64 F1, grd_e, Option.bind_some, b1, Option.bind_some, gI64 F2, Option.bind_some, n2, gI64 F2, Option.bind_some, s2, nI_add, pI64 F2, Option.bind_some]
  · rw [hI_sI, if_neg (by omega), b2.I (by decide)]; exact a4
  · unfold RpR
    rw [z3.I (a := 89) (by decide), b2.I (a := 89) (by decide)]
    exact a5
  · rw [hI_sI, if_pos ⟨rfl, rfl⟩]
end MOVE
