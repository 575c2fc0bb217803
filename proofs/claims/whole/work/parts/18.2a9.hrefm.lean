/-! the reference reads a house -/
theorem WB_X0 : WB X0 := ⟨Nat.zero_le _, Nat.zero_le _, Nat.zero_le _, Nat.zero_le _, Nat.zero_le _, fun c _ => ⟨Nat.zero_le _, Nat.zero_le _⟩, fun d => (by show 0 < 1125899906842625; decide), fun i _ => Nat.zero_le _⟩
section HREFM
variable {T : Nat → Nat} {sz lim : Nat}
theorem l_214a {v0 : Hp → Prop} : ∀ r i m h, i + r = 330 → MTk h T sz lim 0 → (∀ j, j < i → hI h 67 j = nI 0) → ∃ g, l_214_9 (r + 1 + m) (some 64) (nI i) h = b_214_29 (some 64) g ∧ Fz [67, 71] h g ∧ ∀ j, j < 330 → hI g 67 j = nI 0 := by
  intro r
  induction r with
  | zero =>
    intro i m h hi hT hj
    refine ⟨h, ?_, Fz.rfl', fun j h1 => hj j (by omega)⟩
    rw [Nat.zero_add, Nat.add_comm 1 m, l_214_9, b_214_9, if_pos (by rw [nI_leI (by omega) (by omega)]; omega)]
  | succ r ih =>
    intro i m h hi hT hj
    have z : Fz [67, 71] h (sI h 67 i (nI 0)) := Fz.sI Fz.rfl' (Or.inl (by simp))
    obtain ⟨g, a1, a2, a3⟩ := ih (i + 1) m (sI h 67 i (nI 0)) (by omega) (hT.cz z) (fun j h1 => by
      rw [hI_sI]
      by_cases c : j = i
      · rw [if_pos ⟨rfl, c⟩]
      · rw [if_neg (fun z => c z.2)]; exact hj j (by omega))
    refine ⟨g, ?_, z.then a2, a3⟩
    rw [← a1, show r + 1 + 1 + m = (r + 1 + m) + 1 by omega, l_214_9, b_214_9, if_neg (by rw [nI_leI (by omega) (by omega)]; omega), b_214_16, gQ64_15 hT.1, Option.bind_some, wI67 hT.1 (by omega), Option.bind_some, bnd_e, nI_add]
theorem l_214l : ∀ r p X n m h, sz < p + r → 2 * n ≤ p → p ≤ sz → WF X → X 900 = n → MH T sz lim h p X (X 2) →
    (∀ k a, hsR T sz lim r p X n = .error (k, a) → ∃ g, l_214_38 (r + 1 + m) (some 64) (nI n) h = some (-1 - nI a, g) ∧ Fz ZR h g ∧ hI g 64 10 = nI k ∧ hI g 64 11 = nI a) ∧
    (∀ n' Y, hsR T sz lim r p X n = .ok (n', Y) → ∃ g q, l_214_38 (r + 1 + m) (some 64) (nI n) h = b_214_65 (some 64) (nI n') g ∧ FQ h g ∧ MH T sz lim g q Y (Y 2) ∧ WF Y ∧ n' ≤ 500) := by
  intro r
  induction r with
  | zero => intro p X n m h h1 h2 h3; omega
  | succ r ih =>
    intro p X n m h h1 h2 h3 hW hn hM
    have hF := hM.1.1
    have kl := tkK_le (T := T) (sz := sz) (lim := lim) (p := p)
    have kc := kmd_e kl
    have sl := hM.1.2.1.2.2.1
    have un : hsR T sz lim (r + 1) p X n = if tkK T sz lim p = 0 then .ok (n, X) else match linR T sz lim p X with
      | .error e => .error e
      | .ok (q, Y) => hsR T sz lim r q (upX Y 900 (n + 1)) (n + 1) := rfl
    rw [un, show r + 1 + 1 + m = (r + 1 + m) + 1 by omega, l_214_38, b_214_38, gI64 hF, Option.bind_some, hM.1.2.2.1.1]
    by_cases c0 : tkK T sz lim p = 0
    · rw [if_pos c0, if_pos (by rw [c0]; rfl)]
      refine ⟨fun k a e => (by cases e), fun n' Y e => ?_⟩
      injection e with e
      injection e with e1 e2
      subst e1 e2
      exact ⟨h, p, rfl, ⟨Fz.rfl', rfl⟩, hM, hW, by omega⟩
    · rw [if_neg c0, if_neg (nI_n0 (by omega) (fun z => c0 (kc.1.1 z))), b_214_45, rC64 hF, grd_e, Option.bind_some]
      obtain ⟨g, a1, a2, a3⟩ := s_213 hM
      rw [a1, Option.bind_some]
      dsimp only
      have lp := linR_P (T := T) (lim := lim) h3 hW
      cases hl : linR T sz lim p X with
      | error e =>
        obtain ⟨k0, a0⟩ := e
        rw [hl] at a3
        rw [if_neg (show ¬ ¬ bI (okB (Except.error (k0, a0) : RsT)) = 0 from fun z => z rfl), b_214_52]
        refine ⟨fun k a e => ?_, fun n' Y e => (by cases e)⟩
        injection e with e
        injection e with e1 e2
        subst e1 e2
        refine ⟨g, ?_, a2, a3⟩
        rw [gI64 (a2.fix hF (by decide)), Option.bind_some, a3.2]
      | ok x =>
        obtain ⟨q, Y⟩ := x
        rw [hl] at a3 lp
        obtain ⟨l1, l2, l3⟩ := lp
        have w3 := l3.2.2.1
        obtain ⟨mY, e10⟩ := a3
        rw [if_pos (show ¬ bI (okB (Except.ok (q, Y) : RsT)) = 0 from show ¬ bI true = 0 by decide), b_214_59, bnd_e, nI_add]
        have m2 : MH T sz lim g q (upX Y 900 (n + 1)) (upX Y 900 (n + 1) 2) := by
          rw [upX_n (show 2 ≠ 900 by omega)]
          refine ⟨mY.1, ⟨fun i hi h4 => ?_, ?_, fun d hd => ?_⟩, ?_⟩
          · rw [upX_n (by omega)]; exact mY.2.1.1 i hi h4
          · rw [upX_n (by omega)]; exact mY.2.1.2.1
          · rw [upX_n (by omega)]; exact mY.2.1.2.2 d hd
          · obtain ⟨w0, w1, w2, w3, w4, w5, w6, w7⟩ := mY.2.2
            refine ⟨?_, ?_, ?_, ?_, ?_, fun c hc => ?_, fun d => ?_, fun i hi => ?_⟩
            · rw [upX_n (by omega)]; exact w0
            · rw [upX_n (by omega)]; exact w1
            · rw [upX_n (by omega)]; exact w2
            · rw [upX_n (by omega)]; exact w3
            · rw [upX_n (by omega)]; exact w4
            · rw [upX_n (by omega), upX_n (by omega)]; exact w5 c hc
            · rw [upX_n (by omega)]; exact w6 d
            · rw [upX_n (by omega)]; exact w7 i hi
        obtain ⟨i1, i2⟩ := ih q (upX Y 900 (n + 1)) (n + 1) m g (by omega) (by omega) l2 (l3.cg (fun j hj => upX_n (by omega))) (upX_i _ _ _) m2
        refine ⟨fun k a e => ?_, fun n' Y' e => ?_⟩
        · obtain ⟨g2, j1, j2, j3⟩ := i1 k a e
          exact ⟨g2, j1, a2.then j2, j3⟩
        · obtain ⟨g2, q2, j1, j2, j3⟩ := i2 n' Y' e
          exact ⟨g2, q2, j1, ⟨a2.then j2.1, j2.2.trans e10⟩, j3⟩
/-- the draft becomes the house -/
def nwE (E X : Nat → Nat) : Nat → Nat := fun i => if i < 330 then X i else if i < 340 then 0 else if i = 340 then X 4 else if i = 341 ∨ i = 462 then 0 else E i
theorem l_214c {n : Nat} : ∀ r i m h, i + r = 330 → Fix h → (∀ j, j < i → hI h 66 j = hI h 67 j) →
    ∃ g, l_214_67 (r + 1 + m) (some 64) (nI n) (nI i) h = b_214_92 (some 64) (nI n) g ∧ Fz [66] h g ∧ (∀ j, j < 330 → hI g 66 j = hI h 67 j) ∧ ∀ j, 330 ≤ j → hI g 66 j = hI h 66 j := by
  intro r
  induction r with
  | zero =>
    intro i m h hi hF hj
    refine ⟨h, ?_, Fz.rfl', fun j h1 => hj j (by omega), fun _ _ => rfl⟩
    rw [Nat.zero_add, Nat.add_comm 1 m, l_214_67, b_214_67, if_pos (by rw [nI_leI (by omega) (by omega)]; omega)]
  | succ r ih =>
    intro i m h hi hF hj
    generalize x1 : sI h 66 i (hI h 67 i) = g1
    have z : Fz [66] h g1 := by rw [← x1]; exact Fz.sI Fz.rfl' (Or.inl (by simp))
    have F1 := z.fix hF (by decide)
    have e7 : hI g1 67 = hI h 67 := z.I (by decide)
    have e6 : ∀ j, hI g1 66 j = if j = i then hI h 67 i else hI h 66 j := fun j => by
      rw [← x1, hI_sI]
      by_cases c : j = i
      · rw [if_pos ⟨rfl, c⟩, if_pos c]
      · rw [if_neg (fun z => c z.2), if_neg c]
    obtain ⟨g, a1, a2, a3, a4⟩ := ih (i + 1) m g1 (by omega) F1 (fun j h1 => by
      rw [e6, e7]
      by_cases c : j = i
      · rw [if_pos c, c]
      · rw [if_neg c]; exact hj j (by omega))
    refine ⟨g, ?_, z.then a2, fun j h1 => by rw [a3 j h1, e7], fun j h1 => by rw [a4 j h1, e6, if_neg (by omega)]⟩
    rw [← a1, show r + 1 + 1 + m = (r + 1 + m) + 1 by omega, l_214_67, b_214_67, if_neg (by rw [nI_leI (by omega) (by omega)]; omega), b_214_74, gQ64_14 hF, Option.bind_some, gQ64_15 hF, Option.bind_some, aI67 hF (by omega), Option.bind_some, wI66 hF (by omega), Option.bind_some, x1, bnd_e, nI_add]
theorem l_214d {n : Nat} : ∀ r d m h, d + r = 10 → Fix h → (∀ e, e < d → hJ h 70 e = hJ h 71 e ∧ hI h 66 (330 + e) = nI 0) →
    ∃ g, l_214_94 (r + 1 + m) (some 64) (nI n) (nI d) h = b_214_129 (some 64) (nI n) g ∧ Fz [66, 70] h g ∧ (∀ e, e < 10 → hJ g 70 e = hJ h 71 e ∧ hI g 66 (330 + e) = nI 0) ∧ ∀ j, j < 330 ∨ 340 ≤ j → hI g 66 j = hI h 66 j := by
  intro r
  induction r with
  | zero =>
    intro d m h hd hF hj
    refine ⟨h, ?_, Fz.rfl', fun e he => hj e (by omega), fun _ _ => rfl⟩
    rw [Nat.zero_add, Nat.add_comm 1 m, l_214_94, b_214_94, if_pos (by rw [nI_leI (by omega) (by omega)]; omega)]
  | succ r ih =>
    intro d m h hd hF hj
    generalize x1 : sJ h 70 d (hJ h 71 d) = g1
    generalize x2 : sI g1 66 (330 + d) (nI 0) = g2
    have F1 : Fix g1 := by rw [← x1]; exact fx_sJ hF (by omega)
    have F2 : Fix g2 := by rw [← x2]; exact fx_sI F1 (by omega)
    have z : Fz [66, 70] h g2 := by rw [← x2, ← x1]; exact Fz.sI (Fz.sJ Fz.rfl' (Or.inl (by simp))) (Or.inl (by simp))
    have e71 : hJ g2 71 = hJ h 71 := z.J (by decide)
    have e70 : ∀ j, hJ g2 70 j = if j = d then hJ h 71 d else hJ h 70 j := fun j => by
      rw [← x2, hJ_sI, ← x1, hJ_sJ]
      by_cases c : j = d
      · rw [if_pos ⟨rfl, c⟩, if_pos c]
      · rw [if_neg (fun z => c z.2), if_neg c]
    have e66 : ∀ j, hI g2 66 j = if j = 330 + d then nI 0 else hI h 66 j := fun j => by
      rw [← x2, hI_sI, ← x1, hI_sJ]
      by_cases c : j = 330 + d
      · rw [if_pos ⟨rfl, c⟩, if_pos c]
      · rw [if_neg (fun z => c z.2), if_neg c]
    obtain ⟨g, a1, a2, a3, a4⟩ := ih (d + 1) m g2 (by omega) F2 (fun e he => by
      rw [e70, e71, e66]
      by_cases c : e = d
      · rw [if_pos c, if_pos (by omega), c]; exact ⟨rfl, rfl⟩
      · rw [if_neg c, if_neg (by omega)]; exact hj e (by omega))
    refine ⟨g, ?_, z.then a2, fun e he => by rw [← e71]; exact a3 e he, fun j h1 => by rw [a4 j h1, e66, if_neg (by omega)]⟩
    rw [← a1, show r + 1 + 1 + m = (r + 1 + m) + 1 by omega, l_214_94, b_214_94, if_neg (by rw [nI_leI (by omega) (by omega)]; omega), b_214_100, gQ64_18 hF, Option.bind_some, gQ64_19 hF, Option.bind_some, aJ71 hF (by omega), Option.bind_some, wJ70 hF (by omega), Option.bind_some, x1, gQ64_14 F1, Option.bind_some, nI_add, wI66 F1 (by omega), Option.bind_some, x2, bnd_e, nI_add]
abbrev ZH : List Nat := [67, 71, 66, 70, 6000064, 7000064, 8000064, 9000064, 10000064, 13000064, 11000064, 12000064, 14000064, 1000064, 23000064, 3000064, 4000064, 5000064, 24000064]
theorem s_214 {h : Hp} {E : Nat → Nat} (hF : Fix h) (hB : Bg h E) (h1 : hI h 64 2 = nI sz) (hs : sz ≤ 940) (hb : ∀ i, i < sz → hI h 65 i = nI (T i) ∧ T i < 256) :
    (∀ k a, hsR T sz 900 (sz + 1) 0 X0 0 = .error (k, a) → ∃ g, f_214 (some 64) h = some (-1 - nI a, g) ∧ Fz ZH h g ∧ NowE g E ∧ hI g 64 22 = 1 ∧ hI g 64 10 = nI k ∧ hI g 64 2 = nI 0 ∧ hI g 64 0 = nI 0 ∧ hI g 64 23 = hI h 64 23 ∧ hJ g 70 = hJ h 70) ∧
    (∀ n' Y, hsR T sz 900 (sz + 1) 0 X0 0 = .ok (n', Y) → ∃ g, f_214 (some 64) h = some (nI n', g) ∧ Fz ZH h g ∧ NowE g (nwE E Y) ∧ hI g 64 22 = 1 ∧ hI g 64 10 = nI 0 ∧ hI g 64 2 = nI 0 ∧ hI g 64 0 = nI 0 ∧ hI g 64 23 = 0 ∧ (∀ d, d < Y 2 → hJ g 70 d = lN (Y (1000 + d))) ∧ WF Y ∧ n' ≤ 500) := by
  obtain ⟨g1, a1, a2, a3, a4, a5, a6, a7, a8⟩ := s_201 (T := T) (lim := 900) hF hB h1 hs (by omega) hb
  obtain ⟨m, hm⟩ := FU_ge (330 + 1) (by omega)
  obtain ⟨g2, b1, b2, b3⟩ := l_214a (v0 := fun _ => True) 330 0 m g1 (by omega) a3 (fun j hj => absurd hj (by omega))
  have T2 := a3.cz b2
  generalize x1 : sI g2 67 4 (-1) = g3
  have z3 : Fz [67, 71] g2 g3 := by rw [← x1]; exact Fz.sI Fz.rfl' (Or.inl (by simp))
  have T3 := T2.cz z3
  have z13 := b2.then z3
  have M3 : MH T sz 900 g3 0 X0 (X0 2) := by
    refine ⟨T3, ⟨fun i hi h4 => ?_, ?_, fun d hd => absurd hd (Nat.not_lt_zero d)⟩, WB_X0⟩
    · rw [← x1, hI_sI, if_neg (fun z => h4 z.2)]; exact b3 i hi
    · rw [← x1, hI_sI]; exact if_pos ⟨rfl, rfl⟩
  have i3 : hI g3 64 = hI g1 64 := z13.I (by decide)
  have E3 : NowE g3 E := a4.cg (z13.I (by decide))
  have J3 : hJ g3 70 = hJ h 70 := (z13.J (by decide)).trans (a2.J (by decide))
  obtain ⟨m2, hm2⟩ := FU_ge (sz + 1 + 1) (by omega)
  obtain ⟨c1, c2⟩ := l_214l (sz + 1) 0 X0 0 m2 g3 (by omega) (by omega) (by omega) WF_X0 rfl M3
  have hd : f_214 (some 64) h = l_214_38 (sz + 1 + 1 + m2) (some 64) (nI 0) g3 := by
    rw [f_214, b_214_0, rC64 hF, grd_e, Option.bind_some, a1, Option.bind_some, bnd_e, hm, b1, b_214_29, gQ64_15 T2.1, Option.bind_some, wI67 T2.1 (by omega), Option.bind_some, x1, bnd_e, hm2]
  have w13 : Fz ZH h g3 := (a2.wid (by decide)).then (z13.wid (by decide))
  refine ⟨fun k a e => ?_, fun n' Y e => ?_⟩
  · obtain ⟨g, d1, d2, d3, d4⟩ := c1 k a e
    refine ⟨g, by rw [hd]; exact d1, w13.then (d2.wid (by decide)), E3.cg (d2.I (by decide)), ?_, d3, ?_, ?_, ?_, ?_⟩
    · rw [d2.I1 (by decide) (by decide), i3]; exact a5
    · rw [d2.I1 (by decide) (by decide), i3]; exact a7
    · rw [d2.I1 (by decide) (by decide), i3]; exact a8
    · rw [d2.I1 (by decide) (by decide), i3, a2.I1 (by decide) (by decide)]
    · rw [d2.J (by decide)]; exact J3
  · obtain ⟨g4, q, d1, d2, d3, d4, d5⟩ := c2 n' Y e
    obtain ⟨k1, hk1⟩ := FU_ge (330 + 1) (by omega)
    obtain ⟨k2, hk2⟩ := FU_ge (10 + 1) (by omega)
    obtain ⟨g5, e1, e2, e3, e4⟩ := l_214c (n := n') 330 0 k1 g4 (by omega) d3.1.1 (fun j hj => absurd hj (by omega))
    have F5 := e2.fix d3.1.1 (by decide)
    obtain ⟨g6, f1, f2, f3, f4⟩ := l_214d (n := n') 10 0 k2 g5 (by omega) F5 (fun j hj => absurd hj (by omega))
    have F6 := f2.fix F5 (by decide)
    have E4 : NowE g4 E := E3.cg (d2.1.I (by decide))
    have h64 : hI g6 64 = hI g4 64 := (f2.I (by decide)).trans (e2.I (by decide))
    have v6 : ∀ j, hI g6 66 j = if j < 330 then hI g4 67 j else if j < 340 then nI 0 else hI g4 66 j := fun j => by
      by_cases c : j < 330
      · rw [if_pos c, f4 j (by omega), e3 j c]
      · rw [if_neg c]
        by_cases c2 : j < 340
        · rw [if_pos c2]
          have := (f3 (j - 330) (by omega)).2
          rwa [show 330 + (j - 330) = j by omega] at this
        · rw [if_neg c2, f4 j (by omega), e4 j (by omega)]
    generalize y1 : sI g6 66 340 (hI g6 66 4) = g7
    generalize y2 : sI g7 66 341 (nI 0) = g8
    generalize y3 : sI g8 66 462 (nI 0) = g9
    generalize y4 : sI g9 64 23 (nI 0) = g10
    have F7 : Fix g7 := by rw [← y1]; exact fx_sI F6 (by omega)
    have F8 : Fix g8 := by rw [← y2]; exact fx_sI F7 (by omega)
    have F9 : Fix g9 := by rw [← y3]; exact fx_sI F8 (by omega)
    have v9 : ∀ j, hI g10 66 j = if j = 462 then nI 0 else if j = 341 then nI 0 else if j = 340 then hI g6 66 4 else hI g6 66 j := fun j => by
      have q : ∀ (g : Hp) (k : Nat) (x : Int32), hI (sI g 66 k x) 66 j = if j = k then x else hI g 66 j := fun g k x => by
        rw [hI_sI]
        by_cases c : j = k
        · rw [if_pos ⟨rfl, c⟩, if_pos c]
        · rw [if_neg (fun z => c z.2), if_neg c]
      rw [← y4, hI_sI, if_neg (by omega), ← y3, q, ← y2, q, ← y1, q]
    have z10 : Fz [66, 24000064] g6 g10 := by
      rw [← y4, ← y3, ← y2, ← y1]
      exact Fz.sI (Fz.sI (Fz.sI (Fz.sI Fz.rfl' (Or.inl (by simp))) (Or.inl (by simp))) (Or.inl (by simp))) (Or.inr (by simp))
    have h10 : ∀ j, j ≠ 23 → hI g10 64 j = hI g4 64 j := fun j hj => by
      rw [z10.I1 (by decide) (by simp only [List.mem_cons, List.not_mem_nil, or_false]; omega), h64]
    have i4 : ∀ j, j ≠ 10 → 1000000 * (j + 1) + 64 ∉ ZR → hI g4 64 j = hI g1 64 j := fun j _ hj => by rw [d2.1.I1 (by decide) hj, i3]
    have wX := d3.2.2
    obtain ⟨_, _, _, _, w4, _, _, w7⟩ := id wX
    refine ⟨g10, ?_, ?_, ⟨fun i hi h4 h340 => ?_, ?_, ?_, fun i => ?_⟩, ?_, ?_, ?_, ?_, ?_, fun d hd' => ?_, d4, d5⟩
    · rw [hd, d1, b_214_65, bnd_e, hk1, e1, b_214_92, bnd_e, hk2, f1, b_214_129, gQ64_14 F6, Option.bind_some, Option.bind_some, aI66 F6 (by omega), Option.bind_some, wI66 F6 (by omega), Option.bind_some, y1, gQ64_14 F7, Option.bind_some, wI66 F7 (by omega), Option.bind_some, y2, gQ64_14 F8, Option.bind_some, wI66 F8 (by omega), Option.bind_some, y3, pI64 F9, Option.bind_some, y4]
    · exact w13.then ((d2.1.wid (by decide)).then ((e2.wid (by decide)).then ((f2.wid (by decide)).then (z10.wid (by decide)))))
    · rw [v9]
      unfold nwE
      by_cases c1 : i = 462
      · rw [if_pos c1, if_neg (by omega), if_neg (by omega), if_neg (by omega), if_pos (by omega)]
      · by_cases c2 : i = 341
        · rw [if_neg c1, if_pos c2, if_neg (by omega), if_neg (by omega), if_neg (by omega), if_pos (by omega)]
        · rw [if_neg c1, if_neg c2, if_neg h340, v6]
          by_cases c3 : i < 330
          · rw [if_pos c3, if_pos c3]; exact d3.2.1.1 i c3 h4
          · rw [if_neg c3, if_neg c3]
            by_cases c4 : i < 340
            · rw [if_pos c4, if_pos c4]
            · rw [if_neg c4, if_neg c4, if_neg h340, if_neg (by omega)]; exact E4.1 i hi h4 h340
    · rw [v9, if_neg (by omega), if_neg (by omega), if_neg (by omega), v6, if_pos (by omega)]
      exact d3.2.1.2.1
    · rw [v9, if_neg (by omega), if_neg (by omega), if_pos rfl, v6, if_pos (by omega)]
      exact d3.2.1.2.1
    · unfold nwE
      have := E4.2.2.2 i
      by_cases c3 : i < 330
      · rw [if_pos c3]; have := w7 i c3; omega
      · rw [if_neg c3]
        split
        · omega
        · split
          · omega
          · split <;> omega
    · rw [h10 22 (by omega), i4 22 (by omega) (by decide)]; exact a5
    · rw [h10 10 (by omega), d2.2, i3]; exact a6
    · rw [h10 2 (by omega), i4 2 (by omega) (by decide)]; exact a7
    · rw [h10 0 (by omega), i4 0 (by omega) (by decide)]; exact a8
    · rw [← y4, hI_sI]; exact if_pos ⟨rfl, rfl⟩
    · have w2 := wX.2.2.1
      rw [z10.J (by decide), (f3 d (by omega)).1, e2.J (by decide)]
      exact d3.2.1.2.2 d hd'
end HREFM
