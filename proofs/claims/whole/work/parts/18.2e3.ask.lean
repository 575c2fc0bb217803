/-! cell, can, fit, bites: both -/
abbrev Zq : List Nat := [1000064, 23000064, 66, 27000064, 74, 75, 76, 77, 78]
def dgB (E : Nat → Nat) (x y : Int32) : Bool := decide ((0 ≤ x.toInt ∧ x.toInt < E 2) ∧ 0 ≤ y.toInt ∧ y.toInt < 4)
def celA (E : Nat → Nat) (x y : Int32) : Int32 := if inE E (x.toInt, y.toInt) = true then nI (cellV E (cN (x.toInt, y.toInt))) else -1
def cnA (E : Nat → Nat) (x y : Int32) : Int32 := if dgB E x y = true then nI (canM E x.toInt.toNat y.toInt.toNat) else -1
def ftA (E : Nat → Nat) (x y : Int32) : Int32 := if dgB E x y = true then bI (fitB E x.toInt.toNat y.toInt.toNat) else -1
def btA (E : Nat → Nat) (x y u v : Int32) : Int32 := if x ≠ u ∧ dgB E x y = true ∧ dgB E u v = true then nI (shr E x.toInt.toNat y.toInt.toNat u.toInt.toNat v.toInt.toNat) else -1
theorem dgB_n {E : Nat → Nat} {x y : Int32} (h : dgB E x y = true) : x = nI x.toInt.toNat ∧ y = nI y.toInt.toNat ∧ x.toInt.toNat < E 2 ∧ y.toInt.toNat < 4 := by
  have := of_decide_eq_true h
  exact ⟨by rw [← zI_toNat (by omega), ← zI_of], by rw [← zI_toNat (by omega), ← zI_of], by omega, by omega⟩
section ASK
variable {τ : Nat → Nat} {h : Hp} {E an : Nat → Nat} {pl : Nat} {x y u v : Int32}
theorem ask33 (hF : Fix h) (hR : ScR τ h 33 E an pl) : gQ 7 2 (some 33) h = some (some (rq h 33 2)) ∧ rC 4 (some (rq h 33 2)) h = true := ⟨by rw [gR33 hF, hR.1], rC_e hR.2.1.1 hR.2.1.2.1⟩
theorem s_134 (hF : Fix h) (hR : ScR τ h 33 E an pl) (hW : WF E) : f_134 (some 30) x y h = some (celA E x y, h) := by
  obtain ⟨q, r⟩ := ask33 hF hR
  rw [f_134, b_134_0, gQ30_1 hF, Option.bind_some, q, Option.bind_some, r, grd_e, Option.bind_some, s_50 hR.2.1 ⟨hW.1, hW.2.1⟩, Option.bind_some]
  rfl
theorem dr33 {d : Nat} (hR : ScR τ h 33 E an pl) (hW : WF E) (hd : d < E 2) : gQ 4 1 (some (rq h 33 2)) h = some (some (rq h (rq h 33 2) 1)) ∧ aQ (some (rq h (rq h 33 2) 1)) (nI d) h = some (some (rq h (rq h (rq h 33 2) 1) d)) ∧ DoR τ h (rq h (rq h (rq h 33 2) 1) d) E d := by
  have w2 := hW.2.2.1
  obtain ⟨k, _, _, a0, a1, a2, _, _, hdo, _⟩ := id hR.2.1
  obtain ⟨q, hD⟩ := hdo d hd
  exact ⟨by rw [gQ_e k, a1.1], by rw [aQ_n a1.2.1 (by omega) a1.2.2.1 (by omega) (by omega), q], hD⟩
theorem s_137 (hF : Fix h) (hR : ScR τ h 33 E an pl) (hW : WF E) : f_137 (some 30) x y h = some (cnA E x y, h) := by
  obtain ⟨q, r⟩ := ask33 hF hR
  have f53 : f_53 (some (rq h 33 2)) x y h = some (bI (dgB E x y), h) := s_53 hR.2.1 hW.2.2.1
  rw [f_137, b_137_0, gQ30_1 hF, Option.bind_some, q, Option.bind_some, r, grd_e, Option.bind_some, f53, Option.bind_some]
  dsimp only
  unfold cnA
  cases hc : dgB E x y
  · rw [if_pos (show bI false = 0 from rfl), if_neg (by decide), b_137_35, b_137_36]
  · obtain ⟨ex, ey, hd, hg⟩ := dgB_n hc
    obtain ⟨d1, d2, hD⟩ := dr33 hR hW hd
    rw [if_neg (show ¬ bI true = 0 by decide), if_pos rfl, b_137_15, gQ30_1 hF, Option.bind_some, q, Option.bind_some, d1, Option.bind_some]
    generalize x.toInt.toNat = d at *
    generalize y.toInt.toNat = g at *
    rw [ex, ey, d2, Option.bind_some]
    obtain ⟨k, ge, t, a0, a1, a2, a3, a4, _, m1, m2⟩ := hD
    rw [gQ_e k, Option.bind_some, a4.1, aI_n a4.2.1 a4.2.2.1 hg (by omega), Option.bind_some, (m2 g hg).2.2, b_137_36]
theorem s_138 (hF : Fix h) (hR : ScR τ h 33 E an pl) (hW : WF E) : f_138 (some 30) x y h = some (ftA E x y, h) := by
  obtain ⟨q, r⟩ := ask33 hF hR
  have f53 : f_53 (some (rq h 33 2)) x y h = some (bI (dgB E x y), h) := s_53 hR.2.1 hW.2.2.1
  rw [f_138, b_138_0, gQ30_1 hF, Option.bind_some, q, Option.bind_some, r, grd_e, Option.bind_some, f53, Option.bind_some]
  dsimp only
  unfold ftA
  cases hc : dgB E x y
  · rw [if_neg (show ¬ ¬ bI false = 0 from fun z => z rfl), if_neg (by decide), b_138_15]
  · obtain ⟨ex, ey, hd, hg⟩ := dgB_n hc
    obtain ⟨d1, d2, hD⟩ := dr33 hR hW hd
    have wd := (hW.2.2.2.2.2.2.1 _ hd).1
    rw [if_pos (show ¬ bI true = 0 by decide), if_pos rfl, b_138_17, gQ30_1 hF, Option.bind_some, q, Option.bind_some, d1, Option.bind_some]
    generalize x.toInt.toNat = d at *
    generalize y.toInt.toNat = g at *
    rw [ex, ey, d2, Option.bind_some, rC_e hD.1 hD.2.1, grd_e, Option.bind_some, s_9 hD (by omega) hg, Option.bind_some]
    dsimp only
    cases fitB E d g <;> rfl
theorem s_139 (hF : Fix h) (hR : ScR τ h 33 E an pl) (hW : WF E) : f_139 (some 30) x y u v h = some (btA E x y u v, h) := by
  obtain ⟨q, r⟩ := ask33 hF hR
  have f53 : ∀ x y, f_53 (some (rq h 33 2)) x y h = some (bI (dgB E x y), h) := fun x y => s_53 hR.2.1 hW.2.2.1
  rw [f_139, b_139_0]
  unfold btA
  by_cases c : x = u
  · rw [if_pos c, if_neg (fun z => z.1 c), b_139_36]
  · rw [if_neg c, b_139_5, gQ30_1 hF, Option.bind_some, q, Option.bind_some, r, grd_e, Option.bind_some, f53 x y, Option.bind_some]
    dsimp only
    cases hc : dgB E x y
    · rw [if_pos (show bI false = 0 from rfl), if_neg (fun z => absurd z.2.1 (by decide)), b_139_36]
    · rw [if_neg (show ¬ bI true = 0 by decide), b_139_20, gQ30_1 hF, Option.bind_some, q, Option.bind_some, r, grd_e, Option.bind_some, f53 u v, Option.bind_some]
      dsimp only
      cases hc2 : dgB E u v
      · rw [if_neg (show ¬ ¬ bI false = 0 from fun z => z rfl), if_neg (fun z => absurd z.2.2 (by decide)), b_139_36]
      · obtain ⟨ex, ey, hd, hg⟩ := dgB_n hc
        obtain ⟨eu, ev, he, hj⟩ := dgB_n hc2
        obtain ⟨d1, d2, hD⟩ := dr33 hR hW hd
        obtain ⟨_, d3, hD2⟩ := dr33 hR hW he
        rw [if_pos (show ¬ bI true = 0 by decide), if_pos ⟨c, rfl, rfl⟩, b_139_38, gQ30_1 hF, Option.bind_some, q, Option.bind_some, d1, Option.bind_some]
        generalize x.toInt.toNat = d at *
        generalize y.toInt.toNat = g at *
        generalize u.toInt.toNat = e at *
        generalize v.toInt.toNat = j at *
        rw [ex, ey, eu, ev, d2, Option.bind_some, Option.bind_some, q, Option.bind_some, d1, Option.bind_some, d3, Option.bind_some, rC_e hD.1 hD.2.1, grd_e, Option.bind_some, s_14 hD hD2 hg hj, Option.bind_some]
        rfl
end ASK
section ASKM
variable {h : Hp} {E : Nat → Nat} {x y u v : Int32}
/-- each question begins so -/
theorem askM (hF : Fix h) (hB : Bg h E) : ∃ g, f_202 (some 64) (sI h 64 0 (nI 0)) = some g ∧ Fz [1000064, 23000064, 66] h g ∧ NowE g E ∧ hI g 64 22 = 1 ∧ hI g 64 0 = nI 0 ∧ Fix (sI h 64 0 (nI 0)) ∧ Fix g := by
  have z0 : Fz [1000064] h (sI h 64 0 (nI 0)) := Fz.sI Fz.rfl' (Or.inr (by simp))
  have F0 : Fix (sI h 64 0 (nI 0)) := fx_sI hF (by omega)
  have B0 : Bg (sI h 64 0 (nI 0)) E := hB.cg (z0.I1 (by decide) (by decide)) (z0.I (a := 66) (by decide))
  obtain ⟨g, a1, a2, a3, a4⟩ := s_202 F0 B0
  refine ⟨g, a1, (z0.wid (by decide)).then (a2.wid (by decide)), a3, a4, ?_, F0, a2.fix F0 (by decide)⟩
  rw [a2.I1 (by decide) (by decide), hI_sI]; exact if_pos ⟨rfl, rfl⟩
theorem s_216 (hF : Fix h) (hB : Bg h E) (hW : WF E) : ∃ g, f_216 (some 64) x y h = some (celA E x y, g) ∧ Fz Zq h g ∧ NowE g E ∧ hI g 64 22 = 1 ∧ hI g 64 0 = nI 0 := by
  obtain ⟨g, a1, a2, a3, a4, a5, F0, F1⟩ := askM hF hB
  refine ⟨g, ?_, a2.wid (by decide), a3, a4, a5⟩
  rw [f_216, b_216_0, pI64 hF, Option.bind_some, rC64 F0, grd_e, Option.bind_some, a1, Option.bind_some, rC64 F1, grd_e, Option.bind_some, s_206 F1 a3, Option.bind_some]
  dsimp only
  unfold celA
  cases hc : inE E (x.toInt, y.toInt)
  · rw [if_neg (show ¬ ¬ bI false = 0 from fun z => z rfl), if_neg (by decide), b_216_18]
  · obtain ⟨w0, w1, w2, w3, w4, w5, _⟩ := id hW
    have c' := of_decide_eq_true hc
    have c2 : 0 ≤ x.toInt ∧ x.toInt < 10 ∧ 0 ≤ y.toInt ∧ y.toInt < 10 := by omega
    have e : nI 10 * y + x = nI (cN (x.toInt, y.toInt)) := by rw [← zI_cN c2, ← zI_of, ← zI_of]
    have b := cN_lt c2
    generalize cN (x.toInt, y.toInt) = c at *
    have e1 : nI 210 + nI 10 * y + x = nI (210 + c) := by rw [Int32.add_assoc, e, nI_add]
    have e2 : nI 10 + nI 10 * y + x = nI (10 + c) := by rw [Int32.add_assoc, e, nI_add]
    have wc := w5 c b
    rw [if_pos (show ¬ bI true = 0 by decide), if_pos rfl, b_216_20, gQ64_14 F1, Option.bind_some, e1, aI66 F1 (by omega), Option.bind_some, a3.1 _ (by omega) (by omega) (by omega)]
    unfold cellV
    by_cases k : 0 < E (210 + c)
    · rw [if_neg (nI_g0 (by omega) k), if_pos k, b_216_40, b_216_61, nI_add]
    · rw [if_pos (nI_l0 (by omega) (by omega)), if_neg k, b_216_47, gQ64_14 F1, Option.bind_some, e2, aI66 F1 (by omega), Option.bind_some, b_216_61, a3.1 _ (by omega) (by omega) (by omega)]
theorem s_224 (hF : Fix h) (hB : Bg h E) (hW : WF E) : ∃ g, f_224 (some 64) x y h = some (ftA E x y, g) ∧ Fz Zq h g ∧ NowE g E ∧ hI g 64 22 = 1 ∧ hI g 64 0 = nI 0 := by
  obtain ⟨g, a1, a2, a3, a4, a5, F0, F1⟩ := askM hF hB
  rw [f_224, b_224_0, pI64 hF, Option.bind_some, rC64 F0, grd_e, Option.bind_some, a1, Option.bind_some, rC64 F1, grd_e, Option.bind_some, s_204 F1 a3, Option.bind_some]
  dsimp only
  unfold ftA
  by_cases c1 : 0 ≤ x.toInt ∧ x.toInt < E 2
  · rw [bI_T c1, if_neg nI10, b_224_17, s_182, Option.bind_some, toI_nI (by omega), toI_nI (by omega)]
    dsimp only
    by_cases c2 : 0 ≤ y.toInt ∧ y.toInt ≤ 3
    · have hc : dgB E x y = true := decide_eq_true ⟨c1, by omega⟩
      obtain ⟨ex, ey, hd, hg⟩ := dgB_n hc
      rw [bI_T (show ((0 : Nat) : Int) ≤ y.toInt ∧ y.toInt ≤ ((3 : Nat) : Int) from c2), if_pos nI10, hc, if_pos rfl, b_224_28, rC64 F1, grd_e, Option.bind_some]
      generalize x.toInt.toNat = d at *
      generalize y.toInt.toNat = g' at *
      obtain ⟨g2, b1, b2⟩ := s_223 F1 a3 (hW.dr hd) hg
      rw [ex, ey, b1, Option.bind_some]
      dsimp only
      refine ⟨g2, ?_, (a2.wid (by decide)).then (b2.wid (by decide)), a3.cg (b2.I (by decide)), by rw [b2.I1 (by decide) (by decide)]; exact a4, by rw [b2.I1 (by decide) (by decide)]; exact a5⟩
      cases fitB E d g' <;> rfl
    · have hc : dgB E x y = false := decide_eq_false (by omega)
      rw [bI_F (show ¬ (((0 : Nat) : Int) ≤ y.toInt ∧ y.toInt ≤ ((3 : Nat) : Int)) from c2), if_neg (fun z => z rfl), hc, if_neg (by decide), b_224_26]
      exact ⟨g, rfl, a2.wid (by decide), a3, a4, a5⟩
  · have hc : dgB E x y = false := decide_eq_false (by omega)
    rw [bI_F c1, if_pos (show nI 0 = 0 from rfl), hc, if_neg (by decide), b_224_26]
    exact ⟨g, rfl, a2.wid (by decide), a3, a4, a5⟩
end ASKM
