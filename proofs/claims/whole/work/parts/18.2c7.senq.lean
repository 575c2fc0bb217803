/-! the reference reads a sentence, all of it -/
/-- the nodes as the reference keeps them -/
def sgX (Y : Nat → Nat) (j : Nat) : Nat := if j % 4 = 0 then rkX (Y j) else Y j
section SENQ2
variable {T : Nat → Nat} {sz lim : Nat} {N E : Nat → Nat} {ne : Nat}
theorem l_295 : ∀ r i m h, i + r = 240 → Fix h → (∀ j, j < i → hI h 66 (464 + j) = hI h 96 j) →
    ∃ g, l_295_79 (r + 1 + m) (some 64) (nI i) h = b_295_108 (some 64) g ∧ Fz [66] h g ∧ (∀ j, j < 240 → hI g 66 (464 + j) = hI h 96 j) ∧ ∀ j, j < 464 → hI g 66 j = hI h 66 j := by
  intro r
  induction r with
  | zero =>
    intro i m h hi hF hj
    refine ⟨h, ?_, Fz.rfl', fun j h1 => hj j (by omega), fun _ _ => rfl⟩
    rw [Nat.zero_add, Nat.add_comm 1 m, l_295_79, b_295_79, if_pos (by rw [nI_leI (by omega) (by omega)]; omega)]
  | succ r ih =>
    intro i m h hi hF hj
    generalize x1 : sI h 66 (464 + i) (hI h 96 i) = g1
    have z : Fz [66] h g1 := by rw [← x1]; exact Fz.sI Fz.rfl' (Or.inl (by simp))
    have F1 := z.fix hF (by decide)
    have e8 : hI g1 96 = hI h 96 := z.I (by decide)
    have e6 : ∀ j, hI g1 66 j = if j = 464 + i then hI h 96 i else hI h 66 j := fun j => by
      rw [← x1, hI_sI]
      by_cases c : j = 464 + i
      · rw [if_pos ⟨rfl, c⟩, if_pos c]
      · rw [if_neg (fun z => c z.2), if_neg c]
    obtain ⟨g, a1, a2, a3, a4⟩ := ih (i + 1) m g1 (by omega) F1 (fun j h1 => by
      rw [e6, e8]
      by_cases c : j = i
      · rw [if_pos (by omega), c]
      · rw [if_neg (by omega)]; exact hj j (by omega))
    refine ⟨g, ?_, z.then a2, fun j h1 => by rw [a3 j h1, e8], fun j h1 => by rw [a4 j h1, e6, if_neg (by omega)]⟩
    rw [← a1, show r + 1 + 1 + m = (r + 1 + m) + 1 by omega, l_295_79, b_295_79, if_neg (by rw [nI_leI (by omega) (by omega)]; omega), b_295_86, gQ64_14 hF, Option.bind_some, gQ64_59 hF, Option.bind_some, aI96 hF (by omega), Option.bind_some, nI_add, wI66 hF (by omega), Option.bind_some, x1, bnd_e, nI_add]
abbrev ZS : List Nat := [96, 66, 61000064, 62000064, 63000064, 64000064, 6000064, 7000064, 8000064, 9000064, 10000064, 13000064, 11000064, 12000064, 14000064, 1000064, 23000064, 3000064, 4000064, 5000064]
/-- what the house and all is, once the sentence Y is kept -/
def SaE (E Y E' : Nat → Nat) : Prop := E' 462 = 1 ∧ E' 463 = Y 902 ∧ (∀ j, j < 4 * Y 900 → nI (E' (464 + j)) = nI (sgX Y j)) ∧ ∀ i, i < 462 ∨ 704 ≤ i → E' i = E i
theorem s_295 {h : Hp} (hF : Fix h) (hB : Bg h E) (hG : GB h) (h1 : hI h 64 2 = nI sz) (hs : sz ≤ 940) (hb : ∀ i, i < sz → hI h 65 i = nI (T i) ∧ T i < 256) (h2 : E 2 = ne) (hne : ne ≤ 10) (hn : ∀ d, d < ne → hJ h 70 d = lN (N d) ∧ N d < 1125899906842625) :
    (∀ k a, snP T sz 200 N ne 0 X0 = .error (k, a) → ∃ g, f_295 (some 64) h = some (-1 - nI a, g) ∧ Fz ZS h g ∧ NowE g E ∧ GB g ∧ hI g 64 22 = 1 ∧ hI g 64 10 = nI k ∧ hI g 64 2 = nI 0 ∧ hI g 64 0 = nI 0) ∧
    (∀ q Y, snP T sz 200 N ne 0 X0 = .ok (q, Y) → ∃ g E', f_295 (some 64) h = some (nI (Y 901), g) ∧ Fz ZS h g ∧ NowE g E' ∧ SaE E Y E' ∧ GB g ∧ hI g 64 22 = 1 ∧ hI g 64 10 = nI 0 ∧ hI g 64 2 = nI 0 ∧ hI g 64 0 = nI 0 ∧ PS ne X0 Y) := by
  obtain ⟨g1, a1, a2, a3, a4, a5, a6, a7, a8⟩ := s_201 (T := T) (lim := 200) hF hB h1 hs (by omega) hb
  generalize x2 : sI g1 64 60 (nI 0) = g2
  generalize x3 : sI g2 64 61 (nI 0) = g3
  generalize x4 : sI g3 64 62 (nI 0) = g4
  have F2 : Fix g2 := by rw [← x2]; exact fx_sI a3.1 (by omega)
  have F3 : Fix g3 := by rw [← x3]; exact fx_sI F2 (by omega)
  have F4 : Fix g4 := by rw [← x4]; exact fx_sI F3 (by omega)
  have z4 : Fz [61000064, 62000064, 63000064] g1 g4 := by
    rw [← x4, ← x3, ← x2]
    exact Fz.sI (Fz.sI (Fz.sI Fz.rfl' (Or.inr (by simp))) (Or.inr (by simp))) (Or.inr (by simp))
  have i4 : ∀ j, hI g4 64 j = if j = 62 then nI 0 else if j = 61 then nI 0 else if j = 60 then nI 0 else hI g1 64 j := fun j => by
    have q : ∀ (g : Hp) (k : Nat) (x : Int32), hI (sI g 64 k x) 64 j = if j = k then x else hI g 64 j := fun g k x => by
      rw [hI_sI]
      by_cases c : j = k
      · rw [if_pos ⟨rfl, c⟩, if_pos c]
      · rw [if_neg (fun z => c z.2), if_neg c]
    rw [← x4, q, ← x3, q, ← x2, q]
  have i4' : ∀ j, j < 60 → hI g4 64 j = hI g1 64 j := fun j hj => by rw [i4, if_neg (by omega), if_neg (by omega), if_neg (by omega)]
  have M4 : MNs T sz 200 N ne E g4 0 X0 0 := by
    refine ⟨a3.cy (Z := []) F4 (fun j hj => i4' j (by omega)) (by rw [← x4, ← x3, ← x2]; rfl) (z4.I (by decide)), ⟨a4.cg (z4.I (by decide)), h2, hne, fun d hd => ?_⟩, ⟨by rw [i4]; rfl, by rw [i4]; rfl, by rw [i4]; rfl⟩, fun i hi => absurd hi (Nat.not_lt_zero i)⟩
    rw [z4.J (by decide), a2.J (by decide)]; exact hn d hd
  have G4 : GB g4 := hG.cg ((z4.I (by decide)).trans (a2.I (by decide)))
  have hR := s_290 (T := T) (sz := sz) (lim := 200) (N := N) (E := E) (ne := ne) 10 RF 0 (by decide) (by omega) (by omega)
  have hP := onP_P (T := T) (sz := sz) (lim := 200) (N := N) (ne := ne) 10 0
  obtain ⟨g5, c1, ⟨c2, c2g⟩, c3⟩ := s_287 hR hP 0 X0 g4 SX_0 M4
  have c1' : F_287 (f_290 RF) (some 64) g4 = some (bI (okB (orP T sz 200 (onP T sz 200 N ne 10 0) 0 X0)), g5) := c1
  have pk := orP_P (T := T) (lim := 200) hP 0 X0 (by omega) SX_0
  have F5 := c2.fix F4 (by decide)
  have G5 := c2g G4
  have w4 : Fz ZS h g4 := (a2.wid (by decide)).then (z4.wid (by decide))
  have w5 : Fz ZS h g5 := w4.then (c2.wid (by decide))
  have E5 : NowE g5 E := M4.2.1.1.cg (c2.I (by decide))
  have b22 : hI g5 64 22 = 1 := by rw [c2.I1 (by decide) (by decide), i4' 22 (by omega)]; exact a5
  have b2 : hI g5 64 2 = nI 0 := by rw [c2.I1 (by decide) (by decide), i4' 2 (by omega)]; exact a7
  have b0 : hI g5 64 0 = nI 0 := by rw [c2.I1 (by decide) (by decide), i4' 0 (by omega)]; exact a8
  have hd : f_295 (some 64) h = if ¬ bI (okB (orP T sz 200 (onP T sz 200 N ne 10 0) 0 X0)) = 0 then b_295_36 (some 64) g5 else b_295_29 (some 64) g5 := by
    rw [f_295, b_295_0, rC64 hF, grd_e, Option.bind_some, a1, Option.bind_some, pI64 a3.1, Option.bind_some, x2, pI64 F2, Option.bind_some, x3, pI64 F3, Option.bind_some, x4, rC64 F4, grd_e, Option.bind_some, c1', Option.bind_some]
  cases ho : orP T sz 200 (onP T sz 200 N ne 10 0) 0 X0 with
  | error e =>
    obtain ⟨k, e⟩ := e
    have sn : snP T sz 200 N ne 0 X0 = .error (k, e) := by unfold snP; rw [ho]; rfl
    rw [ho] at c3 hd
    obtain ⟨d1, d2⟩ := c3
    refine ⟨fun k' e' z => ?_, fun q Y z => by rw [sn] at z; cases z⟩
    rw [sn] at z
    injection z with z
    injection z with z1 z2
    subst z1 z2
    refine ⟨g5, ?_, w5, E5, G5, b22, d1, b2, b0⟩
    rw [hd, if_neg (show ¬ ¬ bI (okB (Except.error (k, e) : RsT)) = 0 from fun z => z rfl), b_295_29, gI64 F5, Option.bind_some, d2]
  | ok x =>
    obtain ⟨q, Y⟩ := x
    rw [ho] at c3 hd pk
    obtain ⟨⟨m5, r5⟩, e10⟩ := c3
    have kl := tkK_le (T := T) (sz := sz) (lim := 200) (p := q)
    have kc := kmd_e kl
    have sn : snP T sz 200 N ne 0 X0 = if tkK T sz 200 q = 0 then .ok (q, Y) else erA T sz 200 1 q := by unfold snP; rw [ho]; rfl
    have hd2 : f_295 (some 64) h = if nI (kmd (tkK T sz 200 q)) = 0 then b_295_56 (some 64) g5 else b_295_43 (some 64) g5 := by
      rw [hd, if_pos (show ¬ bI (okB (Except.ok (q, Y) : RsT)) = 0 from show ¬ bI true = 0 by decide), b_295_36, gI64 F5, Option.bind_some, m5.1.2.2.1.1]
    have ps := pk.2.2
    by_cases k0 : tkK T sz 200 q = 0
    · rw [if_pos k0] at sn
      refine ⟨fun k' e' z => (by rw [sn] at z; cases z), fun q' Y' z => ?_⟩
      rw [sn] at z
      injection z with z
      injection z with z1 z2
      subst z1 z2
      have sy := ps.sx SX_0
      have y1 := sy.1
      have y2 := sy.2
      have y3 := ps.2.2.2
      generalize u1 : sI g5 66 462 (nI 1) = g6
      generalize u2 : sI g6 66 463 (nI (Y 902)) = g7
      have F6 : Fix g6 := by rw [← u1]; exact fx_sI F5 (by omega)
      have F7 : Fix g7 := by rw [← u2]; exact fx_sI F6 (by omega)
      have z7 : Fz [66] g5 g7 := by rw [← u2, ← u1]; exact Fz.sI (Fz.sI Fz.rfl' (Or.inl (by simp))) (Or.inl (by simp))
      have r6 : hI g6 64 63 = nI (Y 902) := by rw [← u1, hI_sI, if_neg (by omega)]; exact r5
      obtain ⟨m, hm⟩ := FU_ge (240 + 1) (by omega)
      obtain ⟨g8, v1, v2, v3, v4⟩ := l_295 240 0 m g7 (by omega) F7 (fun j hj => absurd hj (by omega))
      have F8 := v2.fix F7 (by decide)
      have z8 := z7.then v2
      have h64 : hI g8 64 = hI g5 64 := z8.I (by decide)
      have h96 : hI g8 96 = hI g5 96 := z8.I (by decide)
      have v7 : ∀ j, hI g7 66 j = if j = 463 then nI (Y 902) else if j = 462 then nI 1 else hI g5 66 j := fun j => by
        have q : ∀ (g : Hp) (k : Nat) (x : Int32), hI (sI g 66 k x) 66 j = if j = k then x else hI g 66 j := fun g k x => by
          rw [hI_sI]
          by_cases c : j = k
          · rw [if_pos ⟨rfl, c⟩, if_pos c]
          · rw [if_neg (fun z => c z.2), if_neg c]
        rw [← u2, q, ← u1, q]
      let W : Nat → Nat := fun j => if hj : j < 240 then Classical.choose (G5 j hj) else 0
      have hW : ∀ j, j < 240 → W j < 100000 ∧ hI g5 96 j = nI (W j) := fun j hj => by
        show (if hj : j < 240 then Classical.choose (G5 j hj) else 0) < 100000 ∧ hI g5 96 j = nI (if hj : j < 240 then Classical.choose (G5 j hj) else 0)
        rw [dif_pos hj]
        exact Classical.choose_spec (G5 j hj)
      have nd : ∀ j, j < 4 * Y 900 → hI g5 96 j = nI (sgX Y j) := fun j hj => by
        have := m5.2.2.2 (j / 4) (by omega)
        unfold sgX
        rcases (show j % 4 = 0 ∨ j % 4 = 1 ∨ j % 4 = 2 ∨ j % 4 = 3 by omega) with e | e | e | e
        · rw [if_pos e, show j = 4 * (j / 4) by omega]; exact this.1
        · rw [if_neg (by omega), show j = 4 * (j / 4) + 1 by omega]; exact this.2.1
        · rw [if_neg (by omega), show j = 4 * (j / 4) + 2 by omega]; exact this.2.2.1
        · rw [if_neg (by omega), show j = 4 * (j / 4) + 3 by omega]; exact this.2.2.2
      have eW : ∀ j, j < 240 → 464 + j ≠ 462 ∧ 464 + j ≠ 463 := fun j _ => by omega
      refine ⟨g8, fun i => if i = 462 then 1 else if i = 463 then Y 902 else if 464 ≤ i ∧ i < 704 then W (i - 464) else E i, ?_, w5.then (z8.wid (by decide)), ⟨fun i hi h4 h340 => ?_, ?_, ?_, fun i => ?_⟩, ⟨?_, ?_, fun j hj => ?_, fun i hi => ?_⟩, G5.cg h96, by rw [h64]; exact b22, ?_, by rw [h64]; exact b2, by rw [h64]; exact b0, ps⟩
      · rw [hd2, if_pos (by rw [k0]; rfl), b_295_56, gQ64_14 F5, Option.bind_some, wI66 F5 (by omega), Option.bind_some, u1, gQ64_14 F6, Option.bind_some, gI64 F6, Option.bind_some, r6, wI66 F6 (by omega), Option.bind_some, u2, bnd_e, hm, v1, b_295_108, gI64 F8, Option.bind_some, h64, m5.2.2.1.2.1]
      · show hI g8 66 i = nI (if i = 462 then 1 else if i = 463 then Y 902 else if 464 ≤ i ∧ i < 704 then W (i - 464) else E i)
        by_cases c1 : 464 ≤ i
        · have := v3 (i - 464) (by omega)
          rw [show 464 + (i - 464) = i by omega, z7.I (by decide)] at this
          rw [if_neg (by omega), if_neg (by omega), if_pos ⟨c1, hi⟩, this]
          exact (hW (i - 464) (by omega)).2
        · rw [v4 i (by omega), v7]
          by_cases c2 : i = 463
          · rw [if_pos c2, if_neg (by omega), if_pos c2]
          · by_cases c3 : i = 462
            · rw [if_neg c2, if_pos c3, if_pos c3]
            · rw [if_neg c2, if_neg c3, if_neg c3, if_neg c2, if_neg (by omega)]
              exact E5.1 i hi h4 h340
      · show hI g8 66 4 = mI (if (4 : Nat) = 462 then 1 else if (4 : Nat) = 463 then Y 902 else if 464 ≤ 4 ∧ 4 < 704 then W (4 - 464) else E 4)
        rw [if_neg (by omega), if_neg (by omega), if_neg (by omega), v4 4 (by omega), v7, if_neg (by omega), if_neg (by omega)]
        exact E5.2.1
      · show hI g8 66 340 = mI (if (340 : Nat) = 462 then 1 else if (340 : Nat) = 463 then Y 902 else if 464 ≤ 340 ∧ 340 < 704 then W (340 - 464) else E 340)
        rw [if_neg (by omega), if_neg (by omega), if_neg (by omega), v4 340 (by omega), v7, if_neg (by omega), if_neg (by omega)]
        exact E5.2.2.1
      · show (if i = 462 then 1 else if i = 463 then Y 902 else if 464 ≤ i ∧ i < 704 then W (i - 464) else E i) < 100000
        have := E5.2.2.2 i
        split
        · omega
        · split
          · omega
          · split
            · rename_i c; exact (hW (i - 464) (by omega)).1
            · exact this
      · show (if (462 : Nat) = 462 then 1 else _) = 1
        rw [if_pos rfl]
      · show (if (463 : Nat) = 462 then 1 else if (463 : Nat) = 463 then Y 902 else _) = Y 902
        rw [if_neg (by omega), if_pos rfl]
      · show nI (if 464 + j = 462 then 1 else if 464 + j = 463 then Y 902 else if 464 ≤ 464 + j ∧ 464 + j < 704 then W (464 + j - 464) else E (464 + j)) = nI (sgX Y j)
        rw [if_neg (by omega), if_neg (by omega), if_pos (by omega), show 464 + j - 464 = j by omega, ← (hW j (by omega)).2]
        exact nd j hj
      · show (if i = 462 then 1 else if i = 463 then Y 902 else if 464 ≤ i ∧ i < 704 then W (i - 464) else E i) = E i
        rw [if_neg (by omega), if_neg (by omega), if_neg (by omega)]
      · rw [h64, e10, i4' 10 (by omega)]; exact a6
    · rw [if_neg k0] at sn
      refine ⟨fun k' e' z => ?_, fun q' Y' z => by rw [sn] at z; unfold erA at z; cases z⟩
      rw [sn] at z
      unfold erA at z
      injection z with z
      injection z with z1 z2
      subst z1 z2
      obtain ⟨g6, d1, d2, d3, d4⟩ := s_198 (k := 1) m5.1
      have d3' : hI g6 64 10 = nI 1 := by rw [d3]; split <;> rfl
      refine ⟨g6, ?_, w5.then (d2.wid (by decide)), E5.cg (d2.I (by decide)), G5.cg (d2.I (by decide)), ?_, d3', ?_, ?_⟩
      · rw [hd2, if_neg (nI_n0 (by omega) (fun z => k0 (kc.1.1 z))), b_295_43, rC64 F5, grd_e, Option.bind_some, d1, Option.bind_some, gI64 (d2.fix F5 (by decide)), Option.bind_some, d4]
      · rw [d2.I1 (by decide) (by decide)]; exact b22
      · rw [d2.I1 (by decide) (by decide)]; exact b2
      · rw [d2.I1 (by decide) (by decide)]; exact b0
end SENQ2
