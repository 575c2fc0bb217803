/-! clashes, cheapest, hung, fewest, fewestBy, ways, stuck of the class; cheapest .. fewestBy of the reference -/
def chA (E : Nat → Nat) (U : Nat) (R : HR) : Int32 := match R with
  | none => -1
  | some b => nI (b.1 / U)
def huA (E : Nat → Nat) (x : Int32) (R : HR) : Int32 := match R with
  | none => -1
  | some b => if 0 ≤ x.toInt ∧ x.toInt < E 2 then nI (b.2 x.toInt.toNat) else -1
abbrev Zk : List Nat := [2000039, 3000039, 40, 41, 6000039, 8000039]
abbrev Zl : List Nat := [2000039, 3000039, 40, 41, 6000039, 8000039, 45, 46, 47, 14000039, 15000039, 42, 43]
section HUNG
variable {τ : Nat → Nat} {h : Hp} {E an : Nat → Nat} {pl : Nat} {x y u v : Int32}
theorem Hk.fz {Z : List Nat} {g : Hp} (hT : TG τ) (hk : Hk τ h E) (hz : Fz Z h g) (h1 : ∀ z, z ∈ Z → z % 1000000 < 60 ∨ 64 ≤ z % 1000000 ∧ z % 1000000 < 98) (h2 : (∀ z, z ∈ Z → z % 1000000 ≠ 40 ∧ z % 1000000 ≠ 41 ∧ z % 1000000 ≠ 42 ∧ z % 1000000 ≠ 43) ∧ 39 ∉ Z ∧ 2000039 ∉ Z ∧ 6000039 ∉ Z ∧ 8000039 ∉ Z) : Hk τ g E := by
  obtain ⟨k1, k2, k3, k4⟩ := hk
  obtain ⟨p0, p1, p2, p3, p4⟩ := h2
  refine ⟨k1.cz hT hz h1 (fun z hz' => (p0 z hz').1) p1 p2, fun d hd => ?_, k3.cg (hz.I1 p1 p3) (hz.I (fun z hz' => (p0 z hz').2.2.1)), k4.cg (hz.I1 p1 p4) (hz.I (fun z hz' => (p0 z hz').2.2.2))⟩
  rw [hz.I (a := 41) (fun z hz' => (p0 z hz').2.1)]
  exact k2 d hd
/-- looked, and the scene stays -/
theorem lk27 (hF : Fix h) (hT : TG τ) (hN' : ∀ p, τ p = 1 → p < hN h) (hR : ScR τ h 33 E an pl) (hW : WF E) (hI' : HGI τ h) : ∃ g, f_27 (some 39) (some 33) h = some g ∧ Fa Zk h g ∧ Fix g ∧ Hk τ g E ∧ hN g = hN h ∧ hC g = hC h ∧ hS g = hS h ∧ ScR τ g 33 E an pl := by
  obtain ⟨g, a1, a2, a3, a4, a5, a6, a7⟩ := s_27 hF hT hN' hR hW hI'
  refine ⟨g, a1, a2, a3, a4, a5, a6, a7, ?_⟩
  have n98 := hF.1
  have ag := a2.ag hT hN' (fun z hz => by
    intro q
    have := hT _ q
    simp only [Zk, List.mem_cons, List.not_mem_nil, or_false] at hz
    omega)
  refine hR.ag ag ?_ ?_ ?_ ?_
  · exact a2.Q1 (by omega) (by decide) (by decide)
  · exact (a2.all (by omega) (by decide)).1
  · exact (a2.all (by omega) (by decide)).1
  · exact a2.I1 (by omega) (by decide) (by decide)
theorem s_140 (hF : Fix h) (hT : TG τ) (hN' : ∀ p, τ p = 1 → p < hN h) (hR : ScR τ h 33 E an pl) (hW : WF E) (hI' : HGI τ h) : ∃ g, f_140 (some 30) h = some (nI (prs E (dHg E) (E 2)), g) ∧ Fa Zl h g ∧ Fix g ∧ Hk τ g E ∧ hN g = hN h ∧ hC g = hC h ∧ hS g = hS h := by
  obtain ⟨g, a1, a2, a3, a4, a5, a6, a7, a8⟩ := lk27 hF hT hN' hR hW hI'
  refine ⟨g, ?_, a2.wid (by decide), a3, a4, a5, a6, a7⟩
  rw [f_140, b_140_0, gQ30_3 hF, Option.bind_some, gQ30_1 hF, Option.bind_some, rC39 hF, grd_e, Option.bind_some, a1, Option.bind_some, gQ30_3 a3, Option.bind_some, gQ30_1 a3, Option.bind_some, gQ33_0 a3, Option.bind_some, rC39 a3, grd_e, Option.bind_some, s_43 a3 a4.1 hW.2.2.1 (K34 a3) (L34 a3) (fun i hi => ⟨(a8.2.2.1 i hi).1, hW.hg hi⟩), Option.bind_some]
theorem s_145 (hF : Fix h) (hT : TG τ) (hN' : ∀ p, τ p = 1 → p < hN h) (hR : ScR τ h 33 E an pl) (hW : WF E) (hI' : HGI τ h) : ∃ g, f_145 (some 30) h = some (nI (cnt E (E 2) 0 (fitL E)), g) ∧ Fa Zl h g ∧ Fix g ∧ Hk τ g E ∧ hN g = hN h ∧ hC g = hC h ∧ hS g = hS h := by
  obtain ⟨g, a1, a2, a3, a4, a5, a6, a7, a8⟩ := lk27 hF hT hN' hR hW hI'
  obtain ⟨g2, b1, b2⟩ := s_39 a3 hT a4.1 hW.2.2.1
  refine ⟨g2, ?_, (a2.wid (by decide)).then (b2.fa.wid (by decide)), b2.fix a3 (by decide), ?_, by rw [b2.N]; exact a5, by rw [b2.C]; exact a6, by rw [b2.S]; exact a7⟩
  · rw [f_145, b_145_0, gQ30_3 hF, Option.bind_some, gQ30_1 hF, Option.bind_some, rC39 hF, grd_e, Option.bind_some, a1, Option.bind_some, gQ30_3 a3, Option.bind_some, rC39 a3, grd_e, Option.bind_some, b1, Option.bind_some]
  · exact Hk.fz hT a4 b2 (by decide) (by decide)
theorem s_149 (hF : Fix h) (hT : TG τ) (hN' : ∀ p, τ p = 1 → p < hN h) (hR : ScR τ h 33 E an pl) (hW : WF E) (hI' : HGI τ h) : ∃ g f, f_149 (some 30) h = some (nI f, g) ∧ stuckR E f (2 ^ E 2) ∧ Fa Zl h g ∧ Fix g ∧ Hk τ g E ∧ hN g = hN h ∧ hC g = hC h ∧ hS g = hS h := by
  obtain ⟨g, a1, a2, a3, a4, a5, a6, a7, a8⟩ := lk27 hF hT hN' hR hW hI'
  obtain ⟨g2, f, b1, b2, b3⟩ := s_42 a3 hT hW a4
  refine ⟨g2, f, ?_, b3, (a2.wid (by decide)).then (b2.fa.wid (by decide)), b2.fix a3 (by decide), ?_, by rw [b2.N]; exact a5, by rw [b2.C]; exact a6, by rw [b2.S]; exact a7⟩
  · rw [f_149, b_149_0, gQ30_3 hF, Option.bind_some, gQ30_1 hF, Option.bind_some, rC39 hF, grd_e, Option.bind_some, a1, Option.bind_some, gQ30_3 a3, Option.bind_some, rC39 a3, grd_e, Option.bind_some, b1, Option.bind_some]
  · exact Hk.fz hT a4 b2 (by decide) (by decide)
theorem s_141 (hF : Fix h) (hT : TG τ) (hN' : ∀ p, τ p = 1 → p < hN h) (hR : ScR τ h 33 E an pl) (hW : WF E) (hI' : HGI τ h) : ∃ g, f_141 (some 30) h = some (chA E 16 (solW E (dHg E) (wC E)), g) ∧ Fa Zl h g ∧ Fix g ∧ Hk τ g E ∧ hN g = hN h ∧ hC g = hC h ∧ hS g = hS h := by
  obtain ⟨g, a1, a2, a3, a4, a5, a6, a7, a8⟩ := lk27 hF hT hN' hR hW hI'
  obtain ⟨g2, b1, b2, b3, b4, b5⟩ := s_34 a3 hT hW a4
  have F2 := b2.fix a3 (by decide)
  refine ⟨g2, ?_, (a2.wid (by decide)).then (b2.fa.wid (by decide)), F2, b3, by rw [b2.N]; exact a5, by rw [b2.C]; exact a6, by rw [b2.S]; exact a7⟩
  rw [f_141, b_141_0, gQ30_3 hF, Option.bind_some, gQ30_1 hF, Option.bind_some, rC39 hF, grd_e, Option.bind_some, a1, Option.bind_some, gQ30_3 a3, Option.bind_some, rC39 a3, grd_e, Option.bind_some, b1, Option.bind_some]
  dsimp only
  generalize solW E (dHg E) (wC E) = R at *
  cases R with
  | none => rw [if_pos (by decide), b_141_34, b_141_35]; rfl
  | some b =>
    have b9 := (b5 b rfl).1
    rw [if_neg (by rw [bI_T (fun q => by cases q)]; exact nI10), b_141_21, gQ30_3 F2, Option.bind_some, gI39 F2, Option.bind_some, show grd (decide (¬ nI 16 = 0)) = some () from rfl, Option.bind_some, b4]
    show b_141_35 (nI b.1 / nI 16) g2 = _
    rw [pk_div (by omega) (by omega) (by omega), b_141_35]
    rfl
theorem s_143 (hF : Fix h) (hT : TG τ) (hN' : ∀ p, τ p = 1 → p < hN h) (hR : ScR τ h 33 E an pl) (hW : WF E) (hI' : HGI τ h) : ∃ g, f_143 (some 30) h = some (chA E 1024 (solW E (dHg E) (wFw E)), g) ∧ Fa Zl h g ∧ Fix g ∧ Hk τ g E ∧ hN g = hN h ∧ hC g = hC h ∧ hS g = hS h := by
  obtain ⟨g, a1, a2, a3, a4, a5, a6, a7, a8⟩ := lk27 hF hT hN' hR hW hI'
  obtain ⟨g2, b1, b2, b3, b4, b5⟩ := s_35 a3 hT hW a4
  have F2 := b2.fix a3 (by decide)
  refine ⟨g2, ?_, (a2.wid (by decide)).then (b2.fa.wid (by decide)), F2, b3, by rw [b2.N]; exact a5, by rw [b2.C]; exact a6, by rw [b2.S]; exact a7⟩
  rw [f_143, b_143_0, gQ30_3 hF, Option.bind_some, gQ30_1 hF, Option.bind_some, rC39 hF, grd_e, Option.bind_some, a1, Option.bind_some, gQ30_3 a3, Option.bind_some, rC39 a3, grd_e, Option.bind_some, b1, Option.bind_some]
  dsimp only
  generalize solW E (dHg E) (wFw E) = R at *
  cases R with
  | none => rw [if_pos (by decide), b_143_35, b_143_36]; rfl
  | some b =>
    have b9 := (b5 b rfl).1
    rw [if_neg (by rw [bI_T (fun q => by cases q)]; exact nI10), b_143_21, gQ30_3 F2, Option.bind_some, gI39 F2, Option.bind_some, show grd (decide (¬ nI 1024 = 0)) = some () from rfl, Option.bind_some, b4]
    show b_143_36 (nI b.1 / nI 1024) g2 = _
    rw [pk_div (by omega) (by omega) (by omega), b_143_36]
    rfl
theorem s_142 (hF : Fix h) (hT : TG τ) (hN' : ∀ p, τ p = 1 → p < hN h) (hR : ScR τ h 33 E an pl) (hW : WF E) (hI' : HGI τ h) : ∃ g, f_142 (some 30) x h = some (huA E x (solW E (dHg E) (wC E)), g) ∧ Fa Zl h g ∧ Fix g ∧ Hk τ g E ∧ hN g = hN h ∧ hC g = hC h ∧ hS g = hS h := by
  obtain ⟨g, a1, a2, a3, a4, a5, a6, a7, a8⟩ := lk27 hF hT hN' hR hW hI'
  have w2 := hW.2.2.1
  rw [f_142, b_142_0, gQ30_3 hF, Option.bind_some, gQ30_1 hF, Option.bind_some, rC39 hF, grd_e, Option.bind_some, a1, Option.bind_some, gQ30_1 a3, Option.bind_some, gR33 a3, Option.bind_some, a8.1, rC_e a8.2.1.1 a8.2.1.2.1, grd_e, Option.bind_some, s_52 a8.2.1 hW.2.2.1, Option.bind_some]
  dsimp only
  by_cases c : 0 ≤ x.toInt ∧ x.toInt < E 2
  · obtain ⟨g2, b1, b2, b3, b4, b5⟩ := s_34 a3 hT hW a4
    have F2 := b2.fix a3 (by decide)
    refine ⟨g2, ?_, (a2.wid (by decide)).then (b2.fa.wid (by decide)), F2, b3, by rw [b2.N]; exact a5, by rw [b2.C]; exact a6, by rw [b2.S]; exact a7⟩
    rw [bI_T c, if_neg nI10, b_142_25, gQ30_3 a3, Option.bind_some, rC39 a3, grd_e, Option.bind_some, b1, Option.bind_some]
    dsimp only
    generalize solW E (dHg E) (wC E) = R at *
    cases R with
    | none => rw [if_pos (by decide), b_142_47, b_142_48]; rfl
    | some b =>
      have b9 := (b5 b rfl).2 x.toInt.toNat (by omega)
      have hx : x.toInt.toNat < 10 := by omega
      have ex := na_of c.1
      show _ = some (if 0 ≤ x.toInt ∧ x.toInt < E 2 then nI (b.2 x.toInt.toNat) else -1, g2)
      rw [if_pos c, if_neg (by rw [bI_T (fun q => by cases q)]; exact nI10), b_142_35, gQ30_3 F2, Option.bind_some, gQ39_4 F2, Option.bind_some]
      generalize x.toInt.toNat = d at *
      rw [ex, aI42 F2 hx, Option.bind_some, b9, b_142_48]
  · refine ⟨g, ?_, a2.wid (by decide), a3, a4, a5, a6, a7⟩
    rw [bI_F c, if_pos (show nI 0 = 0 from rfl), b_142_47, b_142_48]
    unfold huA
    cases solW E (dHg E) (wC E) with
    | none => rfl
    | some b => dsimp only; rw [if_neg c]
theorem s_144 (hF : Fix h) (hT : TG τ) (hN' : ∀ p, τ p = 1 → p < hN h) (hR : ScR τ h 33 E an pl) (hW : WF E) (hI' : HGI τ h) : ∃ g, f_144 (some 30) x h = some (huA E x (solW E (dHg E) (wFw E)), g) ∧ Fa Zl h g ∧ Fix g ∧ Hk τ g E ∧ hN g = hN h ∧ hC g = hC h ∧ hS g = hS h := by
  obtain ⟨g, a1, a2, a3, a4, a5, a6, a7, a8⟩ := lk27 hF hT hN' hR hW hI'
  have w2 := hW.2.2.1
  rw [f_144, b_144_0, gQ30_3 hF, Option.bind_some, gQ30_1 hF, Option.bind_some, rC39 hF, grd_e, Option.bind_some, a1, Option.bind_some, gQ30_1 a3, Option.bind_some, gR33 a3, Option.bind_some, a8.1, rC_e a8.2.1.1 a8.2.1.2.1, grd_e, Option.bind_some, s_52 a8.2.1 hW.2.2.1, Option.bind_some]
  dsimp only
  by_cases c : 0 ≤ x.toInt ∧ x.toInt < E 2
  · obtain ⟨g2, b1, b2, b3, b4, b5⟩ := s_35 a3 hT hW a4
    have F2 := b2.fix a3 (by decide)
    refine ⟨g2, ?_, (a2.wid (by decide)).then (b2.fa.wid (by decide)), F2, b3, by rw [b2.N]; exact a5, by rw [b2.C]; exact a6, by rw [b2.S]; exact a7⟩
    rw [bI_T c, if_neg nI10, b_144_25, gQ30_3 a3, Option.bind_some, rC39 a3, grd_e, Option.bind_some, b1, Option.bind_some]
    dsimp only
    generalize solW E (dHg E) (wFw E) = R at *
    cases R with
    | none => rw [if_pos (by decide), b_144_47, b_144_48]; rfl
    | some b =>
      have b9 := (b5 b rfl).2 x.toInt.toNat (by omega)
      have hx : x.toInt.toNat < 10 := by omega
      have ex := na_of c.1
      show _ = some (if 0 ≤ x.toInt ∧ x.toInt < E 2 then nI (b.2 x.toInt.toNat) else -1, g2)
      rw [if_pos c, if_neg (by rw [bI_T (fun q => by cases q)]; exact nI10), b_144_35, gQ30_3 F2, Option.bind_some, gQ39_6 F2, Option.bind_some]
      generalize x.toInt.toNat = d at *
      rw [ex, aI43 F2 hx, Option.bind_some, b9, b_144_48]
  · refine ⟨g, ?_, a2.wid (by decide), a3, a4, a5, a6, a7⟩
    rw [bI_F c, if_pos (show nI 0 = 0 from rfl), b_144_47, b_144_48]
    unfold huA
    cases solW E (dHg E) (wFw E) with
    | none => rfl
    | some b => dsimp only; rw [if_neg c]
/-! the reference's -/
abbrev Zm : List Nat := [1000064, 23000064, 66, 27000064, 74, 75, 76, 77, 78, 79, 80, 33000064]
theorem m234 {bc : Bool} (hF : Fix h) (hB : Bg h E) (hW : WF E) : ∃ g, f_234 (some 64) (bI bc) (sI h 64 0 (nI 0)) = some (lkI (solW E (dHg E) (wM bc E)), g) ∧ Fz Zm h g ∧ NowE g E ∧ hI g 64 22 = 1 ∧ (Fix (sI h 64 0 (nI 0)) ∧ Fix g) ∧ ∀ b, solW E (dHg E) (wM bc E) = some b → b.1 ≤ 200000 ∧ ∀ i, i < E 2 → hI g 80 i = nI (b.2 i) := by
  have z0 : Fz [1000064] h (sI h 64 0 (nI 0)) := Fz.sI Fz.rfl' (Or.inr (by decide))
  have F0 : Fix (sI h 64 0 (nI 0)) := fx_sI hF (by omega)
  have B0 : Bg (sI h 64 0 (nI 0)) E := hB.cg (z0.I1 (by decide) (by decide)) (z0.I (by decide))
  obtain ⟨g, a1, a2, a3, a4, a5⟩ := s_234 (bc := bc) F0 B0 hW
  exact ⟨g, a1, (z0.wid (by decide)).then (a2.wid (by decide)), a3.2.1, a4, ⟨F0, a3.1⟩, a5⟩
theorem lk_c {R : HR} (hb : ∀ b, R = some b → b.1 ≤ 200000) : (lkI R = -1 ↔ R = none) := by
  cases R with
  | none => exact ⟨fun _ => rfl, fun _ => rfl⟩
  | some b => exact ⟨fun z => absurd z (nI_m1 (by have := hb b rfl; omega)), fun z => by cases z⟩
theorem s_235 (hF : Fix h) (hB : Bg h E) (hW : WF E) : ∃ g, f_235 (some 64) h = some (chA E 16 (solW E (dHg E) (wC E)), g) ∧ Fz Zm h g ∧ NowE g E ∧ hI g 64 22 = 1 := by
  obtain ⟨g, a1, a2, a3, a4, ⟨F0, F1⟩, a5⟩ := m234 (bc := true) hF hB hW
  refine ⟨g, ?_, a2, a3, a4⟩
  have rl := kr_C hW (dHg E)
  rw [f_235, b_235_0, pI64 hF, Option.bind_some, rC64 F0, grd_e, Option.bind_some, show (nI 1 : Int32) = bI true from rfl, a1, Option.bind_some, bnd_e]
  dsimp only
  rcases rl with ⟨r1, r2⟩ | ⟨c, m, a, r1, r2, r3⟩
  · rw [r1, r2, if_neg (fun z => z rfl), b_235_16, b_235_24]; rfl
  · have b9 := (a5 _ r2).1
    rw [r1, r2]
    show (if ¬ nI (100 * c + m) = -1 then b_235_20 (nI (100 * c + m)) g else b_235_16 g) = some (nI ((16 * c + m) / 16), g)
    dsimp only at b9
    rw [if_pos (nI_m1 (by omega)), b_235_20, show grd (decide (¬ nI 100 = 0)) = some () from rfl, Option.bind_some, pk_div (by omega) (by omega) (by omega), b_235_24, show (100 * c + m) / 100 = (16 * c + m) / 16 by omega]
theorem s_237 (hF : Fix h) (hB : Bg h E) (hW : WF E) : ∃ g, f_237 (some 64) h = some (chA E 1024 (solW E (dHg E) (wFw E)), g) ∧ Fz Zm h g ∧ NowE g E ∧ hI g 64 22 = 1 := by
  obtain ⟨g, a1, a2, a3, a4, ⟨F0, F1⟩, a5⟩ := m234 (bc := false) hF hB hW
  refine ⟨g, ?_, a2, a3, a4⟩
  have rl := kr_F hW (dHg E)
  rw [f_237, b_237_0, pI64 hF, Option.bind_some, rC64 F0, grd_e, Option.bind_some, show f_234 (some 64) (nI 0) (sI h 64 0 (nI 0)) = f_234 (some 64) (bI false) (sI h 64 0 (nI 0)) from rfl, a1, Option.bind_some, bnd_e]
  dsimp only
  rcases rl with ⟨r1, r2⟩ | ⟨c, m, a, r1, r2, r3⟩
  · rw [r1, r2, if_neg (fun z => z rfl), b_237_16, b_237_25]; rfl
  · have b9 := (a5 _ r2).1
    rw [r1, r2]
    show (if ¬ nI (10000 * c + m) = -1 then b_237_20 (nI (10000 * c + m)) g else b_237_16 g) = some (nI ((1024 * c + m) / 1024), g)
    dsimp only at b9
    rw [if_pos (nI_m1 (by omega)), b_237_20, show grd (decide (¬ nI 10000 = 0)) = some () from rfl, Option.bind_some, pk_div (by omega) (by omega) (by omega), b_237_25, show (10000 * c + m) / 10000 = (1024 * c + m) / 1024 by omega]
theorem s_236 (hF : Fix h) (hB : Bg h E) (hW : WF E) : ∃ g, f_236 (some 64) x h = some (huA E x (solW E (dHg E) (wC E)), g) ∧ Fz Zm h g ∧ NowE g E ∧ hI g 64 22 = 1 := by
  obtain ⟨g, a1, a2, a3, a4, ⟨F0, F1⟩, a5⟩ := m234 (bc := true) hF hB hW
  refine ⟨g, ?_, a2, a3, a4⟩
  have w2 := hW.2.2.1
  have rl := kr_C hW (dHg E)
  rw [f_236, b_236_0, pI64 hF, Option.bind_some, rC64 F0, grd_e, Option.bind_some, show (nI 1 : Int32) = bI true from rfl, a1, Option.bind_some]
  dsimp only
  rcases rl with ⟨r1, r2⟩ | ⟨c, m, a, r1, r2, r3⟩
  · rw [r1, r2, if_pos (show lkI none = -1 from rfl), b_236_22, b_236_32]; rfl
  · have b9 := a5 _ r2
    rw [r1, r2]
    show (if nI (100 * c + m) = -1 then b_236_22 g else b_236_14 (some 64) x g) = some (if 0 ≤ x.toInt ∧ x.toInt < E 2 then nI (a x.toInt.toNat) else -1, g)
    dsimp only at b9
    rw [if_neg (nI_m1 (by omega)), b_236_14, rC64 F1, grd_e, Option.bind_some, s_204 F1 a3, Option.bind_some]
    dsimp only
    by_cases k : 0 ≤ x.toInt ∧ x.toInt < E 2
    · have b8 := b9.2 x.toInt.toNat (by omega)
      have hx : x.toInt.toNat < 10 := by omega
      have ex := na_of k.1
      rw [bI_T k, if_pos nI10, if_pos k, b_236_26, gQ64_31 F1, Option.bind_some]
      generalize x.toInt.toNat = d at *
      rw [ex, aI80 F1 hx, Option.bind_some, b8, b_236_32]
    · rw [bI_F k, if_neg (fun z => z rfl), if_neg k, b_236_22, b_236_32]
theorem s_238 (hF : Fix h) (hB : Bg h E) (hW : WF E) : ∃ g, f_238 (some 64) x h = some (huA E x (solW E (dHg E) (wFw E)), g) ∧ Fz Zm h g ∧ NowE g E ∧ hI g 64 22 = 1 := by
  obtain ⟨g, a1, a2, a3, a4, ⟨F0, F1⟩, a5⟩ := m234 (bc := false) hF hB hW
  refine ⟨g, ?_, a2, a3, a4⟩
  have w2 := hW.2.2.1
  have rl := kr_F hW (dHg E)
  rw [f_238, b_238_0, pI64 hF, Option.bind_some, rC64 F0, grd_e, Option.bind_some, show f_234 (some 64) (nI 0) (sI h 64 0 (nI 0)) = f_234 (some 64) (bI false) (sI h 64 0 (nI 0)) from rfl, a1, Option.bind_some]
  dsimp only
  rcases rl with ⟨r1, r2⟩ | ⟨c, m, a, r1, r2, r3⟩
  · rw [r1, r2, if_pos (show lkI none = -1 from rfl), b_238_22, b_238_32]; rfl
  · have b9 := a5 _ r2
    rw [r1, r2]
    show (if nI (10000 * c + m) = -1 then b_238_22 g else b_238_14 (some 64) x g) = some (if 0 ≤ x.toInt ∧ x.toInt < E 2 then nI (a x.toInt.toNat) else -1, g)
    dsimp only at b9
    rw [if_neg (nI_m1 (by omega)), b_238_14, rC64 F1, grd_e, Option.bind_some, s_204 F1 a3, Option.bind_some]
    dsimp only
    by_cases k : 0 ≤ x.toInt ∧ x.toInt < E 2
    · have b8 := b9.2 x.toInt.toNat (by omega)
      have hx : x.toInt.toNat < 10 := by omega
      have ex := na_of k.1
      rw [bI_T k, if_pos nI10, if_pos k, b_238_26, gQ64_31 F1, Option.bind_some]
      generalize x.toInt.toNat = d at *
      rw [ex, aI80 F1 hx, Option.bind_some, b8, b_238_32]
    · rw [bI_F k, if_neg (fun z => z rfl), if_neg k, b_238_22, b_238_32]
end HUNG
