/-! forces, forced, forcedAt, joiner, joinerAt: both -/
def foB (E : Nat → Nat) (x y w : Int32) : Bool := decide (0 ≤ w.toInt ∧ w.toInt ≤ 2) && dgB E x y && mayB E x.toInt.toNat y.toInt.toNat
def foA (E : Nat → Nat) (x y w : Int32) : Int32 := if foB E x y w = true then fcA E x.toInt.toNat y.toInt.toNat w.toInt.toNat else -2
abbrev Zf : List Nat := [2000039, 3000039, 40, 41, 6000039, 8000039, 48, 49, 50]
section FORCE
variable {τ : Nat → Nat} {h : Hp} {E an : Nat → Nat} {pl : Nat} {x y w : Int32}
theorem s_146 (hF : Fix h) (hT : TG τ) (hN' : ∀ p, τ p = 1 → p < hN h) (hR : ScR τ h 33 E an pl) (hW : WF E) (hI' : HGI τ h) : ∃ g, f_146 (some 30) x y w h = some (foA E x y w, g) ∧ (foB E x y w = false → g = h) ∧ (foB E x y w = true → Fa Zf h g ∧ Fix g ∧ Hk τ g E ∧ (hN g = hN h ∧ hC g = hC h ∧ hS g = hS h) ∧ fcI E x.toInt.toNat (fcE E x.toInt.toNat y.toInt.toNat) ∧ CF g (fcE E x.toInt.toNat y.toInt.toNat) (fcD E x.toInt.toNat (fcE E x.toInt.toNat y.toInt.toNat))) := by
  obtain ⟨q, r⟩ := ask33 hF hR
  have f53 : f_53 (some (rq h 33 2)) x y h = some (bI (dgB E x y), h) := s_53 hR.2.1 hW.2.2.1
  have e2 : (nI 2).toInt = 2 := by decide
  have no : foB E x y w = false → ∃ g, some (-2, h) = some (foA E x y w, g) ∧ (foB E x y w = false → g = h) ∧ (foB E x y w = true → Fa Zf h g ∧ Fix g ∧ Hk τ g E ∧ (hN g = hN h ∧ hC g = hC h ∧ hS g = hS h) ∧ fcI E x.toInt.toNat (fcE E x.toInt.toNat y.toInt.toNat) ∧ CF g (fcE E x.toInt.toNat y.toInt.toNat) (fcD E x.toInt.toNat (fcE E x.toInt.toNat y.toInt.toNat))) := fun c => ⟨h, by unfold foA; rw [if_neg (by rw [c]; decide)], fun _ => rfl, fun z => by rw [c] at z; cases z⟩
  rw [f_146, b_146_0]
  by_cases c1 : w.toInt < 0
  · rw [if_pos (by rw [fa_lt, toI_0]; exact c1), b_146_24]
    exact no (by unfold foB; rw [decide_eq_false (by omega)]; rfl)
  · rw [if_neg (by rw [fa_lt, toI_0]; exact c1), b_146_4]
    by_cases c2 : 2 < w.toInt
    · rw [if_pos (by rw [fa_lt, e2]; exact c2), b_146_24]
      exact no (by unfold foB; rw [decide_eq_false (by omega)]; rfl)
    · rw [if_neg (by rw [fa_lt, e2]; exact c2), b_146_9, gQ30_1 hF, Option.bind_some, q, Option.bind_some, r, grd_e, Option.bind_some, f53, Option.bind_some]
      dsimp only
      cases hc : dgB E x y
      · rw [if_neg (fun z => z rfl), b_146_24]
        exact no (by unfold foB; rw [hc, Bool.and_false]; rfl)
      · obtain ⟨ex, ey, hd, hg⟩ := dgB_n hc
        obtain ⟨d1, d2, hD⟩ := dr33 hR hW hd
        have wd := (hW.2.2.2.2.2.2.1 _ hd).1
        have ew := na_of (show 0 ≤ w.toInt by omega)
        have hw3 : w.toInt.toNat < 3 := by omega
        rw [if_pos (show ¬ bI true = 0 by decide), b_146_27, gQ30_1 hF, Option.bind_some, q, Option.bind_some, d1, Option.bind_some, ex, ey, d2, Option.bind_some, rC_e hD.1 hD.2.1, grd_e, Option.bind_some, s_10 hD (by omega) (by omega) hg, Option.bind_some, ← ex, ← ey]
        dsimp only
        cases hm : mayB E x.toInt.toNat y.toInt.toNat
        · rw [if_neg (fun z => z rfl), b_146_46]
          exact no (by unfold foB; rw [hm, Bool.and_false])
        · have hb : foB E x y w = true := by unfold foB; rw [hm, hc, decide_eq_true (by omega)]; rfl
          obtain ⟨g, a1, a2, a3, a4, a5, a6, a7, a8⟩ := lk27 hF hT hN' hR hW hI'
          obtain ⟨g2, b1, b2, b3, b4, b5⟩ := s_22 (d0 := x.toInt.toNat) (h0 := y.toInt.toNat) a3 hT a4.1 hW.2.2.1 hd hg
          have F2 := b2.fix a3 (by decide)
          refine ⟨g2, ?_, fun z => (by rw [hb] at z; cases z), fun _ => ⟨(a2.wid (by decide)).then (b2.fa.wid (by decide)), F2, Hk.fz hT a4 b2 (by decide) (by decide), ⟨by rw [b2.N]; exact a5, by rw [b2.C]; exact a6, by rw [b2.S]; exact a7⟩, b3, b4⟩⟩
          rw [if_pos (show ¬ bI true = 0 by decide), b_146_49, gQ30_3 hF, Option.bind_some, gQ30_1 hF, Option.bind_some, rC39 hF, grd_e, Option.bind_some, a1, Option.bind_some, gQ30_4 a3, Option.bind_some, gQ30_3 a3, Option.bind_some, rC48 a3, grd_e, Option.bind_some, ex, ey, b1, Option.bind_some, ← ex, ← ey]
          unfold foA fcA
          rw [if_pos hb]
          generalize w.toInt.toNat = v at *
          rw [ew]
          by_cases k0 : v = 0
          · subst k0
            rw [if_neg (fun z => z rfl), if_pos rfl, b_146_77, gQ30_4 F2, Option.bind_some, gI48 F2, Option.bind_some, b4.1]
          · rw [if_pos (nI_n0 (by omega) k0), if_neg k0, b_146_85]
            by_cases k1 : v = 1
            · subst k1
              rw [if_neg (fun z => z rfl), if_pos rfl, b_146_90, gQ30_4 F2, Option.bind_some, gI48 F2, Option.bind_some, b4.2.1, b_146_107]
            · rw [if_pos (nI_nn (b := 1) (by omega) (by omega) k1), if_neg k1, b_146_100, gQ30_4 F2, Option.bind_some, gI48 F2, Option.bind_some, b4.2.2.2.2, b_146_107]
theorem s_244 (hF : Fix h) (hB : Bg h E) (hW : WF E) : ∃ g, f_244 (some 64) x y w h = some (foA E x y w, g) ∧ NowE g E ∧ hI g 64 22 = 1 ∧ (foB E x y w = false → Fz Zq h g) ∧ (foB E x y w = true → Fz [1000064, 23000064, 66, 27000064, 74, 75, 76, 77, 78, 81, 82, 83, 38000064, 39000064] h g ∧ MF E x.toInt.toNat g (fcE E x.toInt.toNat y.toInt.toNat) ∧ hI g 64 38 = nI (E 2)) := by
  obtain ⟨g, a1, a2, a3, a4, a5, F0, F1⟩ := askM hF hB
  have w2 := hW.2.2.1
  have no : ∀ k, Fz Zq h k → NowE k E → hI k 64 22 = 1 → foB E x y w = false → ∃ g, some (-2, k) = some (foA E x y w, g) ∧ NowE g E ∧ hI g 64 22 = 1 ∧ (foB E x y w = false → Fz Zq h g) ∧ (foB E x y w = true → Fz [1000064, 23000064, 66, 27000064, 74, 75, 76, 77, 78, 81, 82, 83, 38000064, 39000064] h g ∧ MF E x.toInt.toNat g (fcE E x.toInt.toNat y.toInt.toNat) ∧ hI g 64 38 = nI (E 2)) := fun k h1 h2 h3 c => ⟨k, by unfold foA; rw [if_neg (by rw [c]; decide)], h2, h3, fun _ => h1, fun z => by rw [c] at z; cases z⟩
  rw [f_244, b_244_0, pI64 hF, Option.bind_some, rC64 F0, grd_e, Option.bind_some, a1, Option.bind_some, rC64 F1, grd_e, Option.bind_some, s_204 F1 a3, Option.bind_some]
  dsimp only
  by_cases c1 : 0 ≤ x.toInt ∧ x.toInt < E 2
  · rw [bI_T c1, if_neg nI10, b_244_17, s_182, Option.bind_some, toI_nI (by omega), toI_nI (by omega)]
    dsimp only
    by_cases c2 : ((0 : Nat) : Int) ≤ y.toInt ∧ y.toInt ≤ ((3 : Nat) : Int)
    · rw [bI_T c2, if_neg nI10, b_244_26, s_182, Option.bind_some, toI_nI (by omega), toI_nI (by omega)]
      dsimp only
      by_cases c3 : ((0 : Nat) : Int) ≤ w.toInt ∧ w.toInt ≤ ((2 : Nat) : Int)
      · have hc : dgB E x y = true := decide_eq_true ⟨c1, by omega⟩
        obtain ⟨ex, ey, hd, hg⟩ := dgB_n hc
        have ew := na_of (show 0 ≤ w.toInt by omega)
        have hw3 : w.toInt.toNat < 3 := by omega
        obtain ⟨g2, b1, b2, b3, b4, b5⟩ := s_225 F1 (Or.inl ⟨a4, a3⟩) hW
        have F2 := b2.fix F1 (by decide)
        have zz : Fz Zq h g2 := (a2.wid (by decide)).then (b2.wid (by decide))
        rw [bI_T c3, if_pos nI10, b_244_38, rC64 F1, grd_e, Option.bind_some, b1, Option.bind_some, gQ64_29 F2, Option.bind_some, ex, ey, aI78 F2 (by omega), Option.bind_some, (b5 _ hd).1, s_183 (Nat.lt_of_lt_of_le (fitM_lt E _) (by omega)) (by omega), Option.bind_some, fitM_tb E _ hg, ← ex, ← ey]
        dsimp only
        cases hm : mayB E x.toInt.toNat y.toInt.toNat
        · rw [if_neg (fun z => z rfl), b_244_55]
          exact no g2 zz b3 b4 (by unfold foB; rw [hm, Bool.and_false])
        · have hb : foB E x y w = true := by unfold foB; rw [hm, hc, decide_eq_true (by omega)]; rfl
          obtain ⟨g3, d1, d2, d3, d4⟩ := s_244f (E := E) (h := g2) (d0 := x.toInt.toNat) (h0 := y.toInt.toNat) (w := w.toInt.toNat) hW ⟨F2, b3, b5⟩ hd hg hw3
          refine ⟨g3, ?_, d3.1.2.1, by rw [d2.I1 (by decide) (by decide)]; exact b4, fun z => (by rw [hb] at z; cases z), fun _ => ⟨(zz.wid (by decide)).then (d2.wid (by decide)), d3, d4⟩⟩
          rw [if_pos (show ¬ bI true = 0 by decide)]
          unfold foA
          rw [if_pos hb, ← d1, ← ex, ← ey, ← ew]
      · rw [bI_F c3, if_neg (fun z => z rfl), b_244_35]
        exact no g (a2.wid (by decide)) a3 a4 (by unfold foB; rw [decide_eq_false (show ¬ (0 ≤ w.toInt ∧ w.toInt ≤ 2) by omega)]; rfl)
    · rw [bI_F c2, if_pos (show nI 0 = 0 from rfl), b_244_35]
      exact no g (a2.wid (by decide)) a3 a4 (by unfold foB; rw [show dgB E x y = false from decide_eq_false (by omega), Bool.and_false]; rfl)
  · rw [bI_F c1, if_pos (show nI 0 = 0 from rfl), b_244_35]
    exact no g (a2.wid (by decide)) a3 a4 (by unfold foB; rw [show dgB E x y = false from decide_eq_false (by omega), Bool.and_false]; rfl)
/-- forced, as the class holds it, and as the reference does -/
theorem s_147 {z S : Nat} {o hg : Nat → Nat} (hF : Fix h) (hC' : FoC h z S o hg) (hS1 : S < 1024) : f_147 (some 30) x h = some (if 0 ≤ x.toInt ∧ S.testBit x.toInt.toNat = true then nI (hg x.toInt.toNat) else -1, h) := by
  have e10 : (nI 10).toInt = 10 := by decide
  rw [f_147, b_147_0, gQ30_4 hF, Option.bind_some, rC48 hF, grd_e, Option.bind_some, f_25, b_25_0]
  by_cases c1 : x.toInt < 0
  · rw [if_pos (by rw [fa_lt, toI_0]; exact c1), b_25_31, b_25_32, Option.bind_some, if_neg (by omega)]
  · rw [if_neg (by rw [fa_lt, toI_0]; exact c1), b_25_4]
    by_cases c2 : 10 ≤ x.toInt
    · have nb : S.testBit x.toInt.toNat = false := Nat.testBit_lt_two_pow (Nat.lt_of_lt_of_le hS1 (Nat.pow_le_pow_right (n := 2) (by omega) (show 10 ≤ x.toInt.toNat by omega)))
      rw [if_pos (by rw [fa_le, e10]; exact c2), b_25_31, b_25_32, Option.bind_some, if_neg (fun z => by rw [nb] at z; cases z.2)]
    · rw [if_neg (by rw [fa_le, e10]; exact c2), b_25_10, gI48 hF, Option.bind_some, hC'.2.1]
      have ex := na_of (show 0 ≤ x.toInt by omega)
      have hx : x.toInt.toNat < 10 := by omega
      have h0 : 0 ≤ x.toInt := by omega
      generalize hxi : x.toInt.toNat = d at *
      rw [ex]
      by_cases c3 : S.testBit d = true
      · rw [if_neg (fun z => z (by rw [nI_hasP (by omega) (by omega)]; exact c3)), b_25_22, gQ48_1 hF, Option.bind_some, aI50 hF hx, Option.bind_some, hC'.2.2.2 d c3, b_25_32, Option.bind_some, if_pos ⟨by rw [toI_nI (by omega)]; omega, c3⟩]
      · rw [if_pos (by rw [nI_hasP (by omega) (by omega)]; exact c3), b_25_31, b_25_32, Option.bind_some, if_neg (fun z => c3 z.2)]
theorem s_245 {z S n : Nat} {o hg : Nat → Nat} (hF : Fix h) (hM : FoM h z S n o hg) (hn : n ≤ 10) (hS1 : S < 2 ^ n) : f_245 (some 64) x h = some (if 0 ≤ x.toInt ∧ S.testBit x.toInt.toNat = true then nI (hg x.toInt.toNat) else -1, sI h 64 0 (nI 0)) ∧ Fz [1000064] h (sI h 64 0 (nI 0)) := by
  have F0 : Fix (sI h 64 0 (nI 0)) := fx_sI hF (by omega)
  refine ⟨?_, Fz.sI Fz.rfl' (Or.inr (by decide))⟩
  have e38 : hI (sI h 64 0 (nI 0)) 64 38 = nI n := by rw [hI_sI, if_neg (by omega)]; exact hM.2.1
  have e82 : hI (sI h 64 0 (nI 0)) 82 = hI h 82 := funext fun j => by rw [hI_sI, if_neg (by omega)]
  rw [f_245, b_245_0, pI64 hF, Option.bind_some]
  generalize sI h 64 0 (nI 0) = g at *
  by_cases c1 : x.toInt < 0
  · rw [if_pos (by rw [fa_lt, toI_0]; exact c1), b_245_26, b_245_27, if_neg (by omega)]
  · rw [if_neg (by rw [fa_lt, toI_0]; exact c1), b_245_9, gI64 F0, Option.bind_some, e38]
    by_cases c2 : (n : Int) ≤ x.toInt
    · have nb : S.testBit x.toInt.toNat = false := Nat.testBit_lt_two_pow (Nat.lt_of_lt_of_le hS1 (Nat.pow_le_pow_right (n := 2) (by omega) (show n ≤ x.toInt.toNat by omega)))
      rw [if_pos (by rw [fa_le, toI_nI (by omega)]; exact c2), b_245_26, b_245_27, if_neg (fun z => by rw [nb] at z; cases z.2)]
    · rw [if_neg (by rw [fa_le, toI_nI (by omega)]; exact c2), b_245_17, gQ64_35 F0, Option.bind_some]
      have ex := na_of (show 0 ≤ x.toInt by omega)
      have hx : x.toInt.toNat < n := by omega
      have h0 : 0 ≤ x.toInt := by omega
      generalize hxi : x.toInt.toNat = d at *
      rw [ex, aI82 F0 (by omega), Option.bind_some, e82, hM.2.2.2 d hx, b_245_27]
      by_cases c3 : S.testBit d = true
      · rw [if_pos c3, if_pos ⟨by rw [toI_nI (by omega)]; omega, c3⟩]
      · rw [if_neg c3, if_neg (fun z => c3 z.2)]
theorem s_148 {z S : Nat} {o hg : Nat → Nat} (hF : Fix h) (hC' : FoC h z S o hg) (hz : z ≤ 10) : f_148 (some 30) x h = some (if 0 ≤ x.toInt ∧ x.toInt < z then nI (o x.toInt.toNat) else -1, h) := by
  rw [f_148, b_148_0]
  by_cases c1 : x.toInt < 0
  · rw [if_pos (by rw [fa_lt, toI_0]; exact c1), b_148_27, b_148_28, if_neg (by omega)]
  · rw [if_neg (by rw [fa_lt, toI_0]; exact c1), b_148_4, gQ30_4 hF, Option.bind_some, gI48 hF, Option.bind_some, hC'.1]
    by_cases c2 : (z : Int) ≤ x.toInt
    · rw [if_pos (by rw [fa_le, toI_nI (by omega)]; exact c2), b_148_27, b_148_28, if_neg (by omega)]
    · rw [if_neg (by rw [fa_le, toI_nI (by omega)]; exact c2), if_pos (by omega), b_148_15, gQ30_4 hF, Option.bind_some, gQ48_0 hF, Option.bind_some]
      have ex := na_of (show 0 ≤ x.toInt by omega)
      have hx : x.toInt.toNat < z := by omega
      generalize x.toInt.toNat = d at *
      rw [ex, aI49 hF (by omega), Option.bind_some, hC'.2.2.1 d hx, b_148_28]
theorem s_246 {z S n : Nat} {o hg : Nat → Nat} (hF : Fix h) (hM : FoM h z S n o hg) (hz : z ≤ 10) : f_246 (some 64) x h = some (if 0 ≤ x.toInt ∧ x.toInt < z then nI (o x.toInt.toNat) else -1, sI h 64 0 (nI 0)) ∧ Fz [1000064] h (sI h 64 0 (nI 0)) := by
  have F0 : Fix (sI h 64 0 (nI 0)) := fx_sI hF (by omega)
  refine ⟨?_, Fz.sI Fz.rfl' (Or.inr (by decide))⟩
  have e37 : hI (sI h 64 0 (nI 0)) 64 37 = nI z := by rw [hI_sI, if_neg (by omega)]; exact hM.1
  have e83 : hI (sI h 64 0 (nI 0)) 83 = hI h 83 := funext fun j => by rw [hI_sI, if_neg (by omega)]
  rw [f_246, b_246_0, pI64 hF, Option.bind_some]
  generalize sI h 64 0 (nI 0) = g at *
  by_cases c1 : x.toInt < 0
  · rw [if_pos (by rw [fa_lt, toI_0]; exact c1), b_246_26, b_246_27, if_neg (by omega)]
  · rw [if_neg (by rw [fa_lt, toI_0]; exact c1), b_246_9, gI64 F0, Option.bind_some, e37]
    by_cases c2 : (z : Int) ≤ x.toInt
    · rw [if_pos (by rw [fa_le, toI_nI (by omega)]; exact c2), b_246_26, b_246_27, if_neg (by omega)]
    · rw [if_neg (by rw [fa_le, toI_nI (by omega)]; exact c2), if_pos (by omega), b_246_17, gQ64_36 F0, Option.bind_some]
      have ex := na_of (show 0 ≤ x.toInt by omega)
      have hx : x.toInt.toNat < z := by omega
      generalize x.toInt.toNat = d at *
      rw [ex, aI83 F0 (by omega), Option.bind_some, e83, hM.2.2.1 d hx, b_246_27]
theorem s_151 {z : Nat} {o : Nat → Nat} (hF : Fix h) (h9 : hI h 39 9 = nI z) (ho : ∀ j, j < z → hI h 44 j = nI (o j)) (hz : z ≤ 10) : f_151 (some 30) x h = some (if 0 ≤ x.toInt ∧ x.toInt < z then nI (o x.toInt.toNat) else -1, h) := by
  rw [f_151, b_151_0]
  by_cases c1 : x.toInt < 0
  · rw [if_pos (by rw [fa_lt, toI_0]; exact c1), b_151_27, b_151_28, if_neg (by omega)]
  · rw [if_neg (by rw [fa_lt, toI_0]; exact c1), b_151_4, gQ30_3 hF, Option.bind_some, gI39 hF, Option.bind_some, h9]
    by_cases c2 : (z : Int) ≤ x.toInt
    · rw [if_pos (by rw [fa_le, toI_nI (by omega)]; exact c2), b_151_27, b_151_28, if_neg (by omega)]
    · rw [if_neg (by rw [fa_le, toI_nI (by omega)]; exact c2), if_pos (by omega), b_151_15, gQ30_3 hF, Option.bind_some, gQ39_8 hF, Option.bind_some]
      have ex := na_of (show 0 ≤ x.toInt by omega)
      have hx : x.toInt.toNat < z := by omega
      generalize x.toInt.toNat = d at *
      rw [ex, aI44 hF (by omega), Option.bind_some, ho d hx, b_151_28]
theorem s_250 {z : Nat} {o : Nat → Nat} (hF : Fix h) (h9 : hI h 64 42 = nI z) (ho : ∀ j, j < z → hI h 86 j = nI (o j)) (hz : z ≤ 10) : f_250 (some 64) x h = some (if 0 ≤ x.toInt ∧ x.toInt < z then nI (o x.toInt.toNat) else -1, sI h 64 0 (nI 0)) ∧ Fz [1000064] h (sI h 64 0 (nI 0)) := by
  have F0 : Fix (sI h 64 0 (nI 0)) := fx_sI hF (by omega)
  refine ⟨?_, Fz.sI Fz.rfl' (Or.inr (by decide))⟩
  have e37 : hI (sI h 64 0 (nI 0)) 64 42 = nI z := by rw [hI_sI, if_neg (by omega)]; exact h9
  have e83 : hI (sI h 64 0 (nI 0)) 86 = hI h 86 := funext fun j => by rw [hI_sI, if_neg (by omega)]
  rw [f_250, b_250_0, pI64 hF, Option.bind_some]
  generalize sI h 64 0 (nI 0) = g at *
  by_cases c1 : x.toInt < 0
  · rw [if_pos (by rw [fa_lt, toI_0]; exact c1), b_250_26, b_250_27, if_neg (by omega)]
  · rw [if_neg (by rw [fa_lt, toI_0]; exact c1), b_250_9, gI64 F0, Option.bind_some, e37]
    by_cases c2 : (z : Int) ≤ x.toInt
    · rw [if_pos (by rw [fa_le, toI_nI (by omega)]; exact c2), b_250_26, b_250_27, if_neg (by omega)]
    · rw [if_neg (by rw [fa_le, toI_nI (by omega)]; exact c2), if_pos (by omega), b_250_17, gQ64_41 F0, Option.bind_some]
      have ex := na_of (show 0 ≤ x.toInt by omega)
      have hx : x.toInt.toNat < z := by omega
      generalize x.toInt.toNat = d at *
      rw [ex, aI86 F0 (by omega), Option.bind_some, e83, ho d hx, b_250_27]
end FORCE
