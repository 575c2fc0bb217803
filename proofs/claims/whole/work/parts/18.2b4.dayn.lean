/-! the reference reads a day, all of it -/
section DAYN
variable {T : Nat → Nat} {sz lim : Nat} {N E : Nat → Nat} {ne : Nat}
theorem s_267 {h : Hp} {p : Nat} {X : Nat → Nat} (hD : DX ne X) (s : MYs T sz lim N ne E h p X (2 * X 900)) : MOy T sz lim N ne E (f_267 (some 64) h) h (dyE T sz lim (dyK T sz lim N ne p X)) := by
  have hF := s.1.1
  have d1 := hD.1
  have w : ∀ k, k < 26 → 9 ≤ k → f_193 (some 64) (nI k) h = some (bI (isW T sz lim p k), h) := fun k hk h9 => by
    have em : mw k = k := (show ∀ k, k < 26 → 9 ≤ k → mw k = k by decide) k hk h9
    have := s_193 (k := k) hF s.1.2.2.1 s.1.2.2.2 hk
    rwa [em] at this
  have main : (isW T sz lim p 9 || isW T sz lim p 10 || isW T sz lim p 11 || isW T sz lim p 12) = true → tkK T sz lim p = 2 → MOy T sz lim N ne E (b_267_48 (some 64) (bI (isW T sz lim p 9)) (bI (isW T sz lim p 10)) (bI (isW T sz lim p 11)) h) h (dyE T sz lim (dyK T sz lim N ne p X)) := by
    intro any k2
    unfold dyK
    rw [if_neg (by rw [any]; decide), b_267_48, gI64 hF, Option.bind_some, s.2.2.1]
    by_cases c6 : X 900 = 60
    · rw [if_neg (fun z => z (by rw [c6])), if_pos c6, b_267_57]
      exact y_err s.1 (Or.inl (by omega))
    · obtain ⟨g, a1, a2, a3⟩ := y_step s
      rw [if_pos (nI_nn (by omega) (by omega) c6), if_neg c6, b_267_63, gI64 hF, Option.bind_some, s.2.2.1, pk_mul, bnd_e, rC64 hF, grd_e, Option.bind_some, a1, Option.bind_some]
      refine MOy.pre a2 ?_
      generalize tkN T sz lim p = q at *
      have F2 := a3.1.1
      cases h10 : isW T sz lim p 10
      · rw [if_neg (show ¬ ¬ bI false = 0 from fun z => z rfl), b_267_79]
        cases h11 : isW T sz lim p 11
        · rw [if_pos (show bI false = 0 from rfl), if_neg (show ¬ (false || false) = true by decide), b_267_178, gQ64_16 F2, Option.bind_some]
          refine y_w a3 (by omega) (Nat.le_refl _) (fun g2 hG _ => ?_)
          rw [if_pos rfl] at hG
          cases h9 : isW T sz lim p 9
          · rw [if_pos (show bI false = 0 from rfl), if_neg (show ¬ false = true by decide)]
            exact s_267t hG (upX_n (by omega)) (by omega)
          · have sl := sdN_le (T := T) (sz := sz) (lim := lim) q
            obtain ⟨m, hm⟩ := FU_ge (4 + 1) (by omega)
            rw [if_neg (show ¬ bI true = 0 by decide), if_pos rfl, b_267_191, bnd_e, hm, l_267d hG 4 0 m (by omega), sdN_f, b_267_218]
            by_cases c4 : sdN T sz lim q = 4
            · rw [if_neg (fun z => z (by rw [c4])), if_pos c4, b_267_224]
              exact y_err hG.1 (Or.inr rfl)
            · rw [if_pos (nI_nn (by omega) (by omega) c4), if_neg c4, b_267_230, gQ64_16 hG.1.1, Option.bind_some]
              refine y_w hG (by omega) (by omega) (fun g3 hG3 _ => ?_)
              rw [if_neg (show ¬ 2 * X 900 = 2 * X 900 + 1 by omega), upX_tw] at hG3
              obtain ⟨g4, b1, b2, b3⟩ := y_step hG3
              rw [rC64 hG3.1.1, grd_e, Option.bind_some, b1, Option.bind_some]
              exact MOy.pre b2 (s_267t b3 (upX_n (by omega)) (by omega))
        · rw [if_neg (show ¬ bI true = 0 by decide), if_pos (show (false || true) = true from rfl)]
          exact s_267s (o := false) a3 rfl (by omega)
      · rw [if_pos (show ¬ bI true = 0 by decide), if_pos (show (true || isW T sz lim p 11) = true from rfl)]
        exact s_267s (o := true) a3 rfl (by omega)
  rw [f_267, b_267_0, rC64 hF, grd_e, Option.bind_some, w 9 (by omega) (by omega), Option.bind_some, bnd_e]
  dsimp only
  rw [rC64 hF, grd_e, Option.bind_some, w 10 (by omega) (by omega), Option.bind_some, bnd_e]
  dsimp only
  rw [rC64 hF, grd_e, Option.bind_some, w 11 (by omega) (by omega), Option.bind_some, bnd_e]
  dsimp only
  cases h9 : isW T sz lim p 9
  · rw [h9] at main
    rw [if_neg (show ¬ ¬ bI false = 0 from fun z => z rfl), b_267_25]
    cases h10 : isW T sz lim p 10
    · rw [h10] at main
      rw [if_neg (show ¬ ¬ bI false = 0 from fun z => z rfl), b_267_29]
      cases h11 : isW T sz lim p 11
      · rw [h11] at main
        rw [if_neg (show ¬ ¬ bI false = 0 from fun z => z rfl), b_267_33, rC64 hF, grd_e, Option.bind_some, w 12 (by omega) (by omega), Option.bind_some]
        dsimp only
        cases h12 : isW T sz lim p 12
        · unfold dyK
          rw [if_neg (show ¬ ¬ bI false = 0 from fun z => z rfl), h9, h10, h11, h12, if_pos (show (false || false || false || false) = false from rfl), b_267_42]
          exact y_err s.1 (Or.inr rfl)
        · rw [h12] at main
          rw [if_pos (show ¬ bI true = 0 by decide)]
          exact main rfl (isW_k h12)
      · rw [h11] at main
        rw [if_pos (show ¬ bI true = 0 by decide)]
        exact main rfl (isW_k h11)
    · rw [h10] at main
      rw [if_pos (show ¬ bI true = 0 by decide)]
      exact main rfl (isW_k h10)
  · rw [h9] at main
    rw [if_pos (show ¬ bI true = 0 by decide)]
    exact main rfl (isW_k h9)
theorem l_268l : ∀ r p X m h, sz < p + r → p ≤ sz → DX ne X → MYs T sz lim N ne E h p X (2 * X 900) →
    (∀ k a, dyA T sz lim N ne r p X = .error (k, a) → ∃ g, l_268_12 (r + 1 + m) (some 64) h = some (-1 - nI a, g) ∧ Fz ZY h g ∧ hI g 64 10 = nI k ∧ hI g 64 11 = nI a) ∧
    (∀ q Y, dyA T sz lim N ne r p X = .ok (q, Y) → ∃ g, l_268_12 (r + 1 + m) (some 64) h = b_268_33 (some 64) g ∧ FY h g ∧ MYs T sz lim N ne E g q Y (2 * Y 900) ∧ DX ne Y) := by
  intro r
  induction r with
  | zero => intro p X m h h1 h2; omega
  | succ r ih =>
    intro p X m h h1 h2 hD hM
    have hF := hM.1.1
    have kl := tkK_le (T := T) (sz := sz) (lim := lim) (p := p)
    have kc := kmd_e kl
    have un : dyA T sz lim N ne (r + 1) p X = if tkK T sz lim p = 0 then .ok (p, X) else match dyE T sz lim (dyK T sz lim N ne p X) with
      | .error e => .error e
      | .ok (q, Y) => dyA T sz lim N ne r q Y := rfl
    rw [un, show r + 1 + 1 + m = (r + 1 + m) + 1 by omega, l_268_12, b_268_12, gI64 hF, Option.bind_some, hM.1.2.2.1.1]
    by_cases c0 : tkK T sz lim p = 0
    · rw [if_pos c0, if_pos (by rw [c0]; rfl)]
      refine ⟨fun k a e => (by cases e), fun q Y e => ?_⟩
      injection e with e
      injection e with e1 e2
      subst e1 e2
      exact ⟨h, rfl, ⟨Fz.rfl', rfl⟩, hM, hD⟩
    · rw [if_neg c0, if_neg (nI_n0 (by omega) (fun z => c0 (kc.1.1 z))), b_268_19, rC64 hF, grd_e, Option.bind_some]
      obtain ⟨g, a1, a2, a3⟩ := s_267 hD hM
      rw [a1, Option.bind_some]
      dsimp only
      have lp := dyE_P (T := T) (lim := lim) (N := N) h2 hD
      cases hl : dyE T sz lim (dyK T sz lim N ne p X) with
      | error e =>
        obtain ⟨k0, a0⟩ := e
        rw [hl] at a3
        rw [if_neg (show ¬ ¬ bI (okB (Except.error (k0, a0) : RsT)) = 0 from fun z => z rfl), b_268_26]
        refine ⟨fun k a e => ?_, fun n' Y e => (by cases e)⟩
        injection e with e
        injection e with e1 e2
        subst e1 e2
        refine ⟨g, ?_, a2, a3⟩
        rw [gI64 (a2.fix hF (by decide)), Option.bind_some, a3.2]
      | ok x =>
        obtain ⟨q, Y⟩ := x
        rw [hl] at a3 lp
        obtain ⟨l1, l2, l3⟩ := lp
        obtain ⟨mY, e10⟩ := a3
        rw [if_pos (show ¬ bI (okB (Except.ok (q, Y) : RsT)) = 0 from show ¬ bI true = 0 by decide)]
        obtain ⟨i1, i2⟩ := ih q Y m g (by omega) l2 l3 mY
        refine ⟨fun k a e => ?_, fun n' Y' e => ?_⟩
        · obtain ⟨g2, j1, j2, j3⟩ := i1 k a e
          exact ⟨g2, j1, a2.then j2, j3⟩
        · obtain ⟨g2, j1, j2, j3⟩ := i2 n' Y' e
          exact ⟨g2, j1, ⟨a2.then j2.1, j2.2.trans e10⟩, j3⟩
def dyX (E Y : Nat → Nat) : Nat → Nat := fun i => if i = 341 then Y 900 else if 342 ≤ i ∧ i < 342 + 2 * Y 900 then Y (i - 342) else E i
theorem l_268c {c : Nat} (hc60 : c ≤ 60) : ∀ r i m h, i + r = 2 * c → Fix h → hI h 64 47 = nI c → (∀ j, j < i → hI h 66 (342 + j) = hI h 68 j) →
    ∃ g, l_268_35 (r + 1 + m) (some 64) (nI i) h = b_268_67 (some 64) g ∧ Fz [66] h g ∧ (∀ j, j < 2 * c → hI g 66 (342 + j) = hI h 68 j) ∧ ∀ j, j < 342 ∨ 342 + 2 * c ≤ j → hI g 66 j = hI h 66 j := by
  intro r
  induction r with
  | zero =>
    intro i m h hi hF h47 hj
    refine ⟨h, ?_, Fz.rfl', fun j h1 => hj j (by omega), fun _ _ => rfl⟩
    rw [Nat.zero_add, Nat.add_comm 1 m, l_268_35, b_268_35, gI64 hF, Option.bind_some, h47, pk_mul, if_pos (by rw [nI_leI (by omega) (by omega)]; omega)]
  | succ r ih =>
    intro i m h hi hF h47 hj
    generalize x1 : sI h 66 (342 + i) (hI h 68 i) = g1
    have z : Fz [66] h g1 := by rw [← x1]; exact Fz.sI Fz.rfl' (Or.inl (by simp))
    have F1 := z.fix hF (by decide)
    have e8 : hI g1 68 = hI h 68 := z.I (by decide)
    have e6 : ∀ j, hI g1 66 j = if j = 342 + i then hI h 68 i else hI h 66 j := fun j => by
      rw [← x1, hI_sI]
      by_cases c : j = 342 + i
      · rw [if_pos ⟨rfl, c⟩, if_pos c]
      · rw [if_neg (fun z => c z.2), if_neg c]
    obtain ⟨g, a1, a2, a3, a4⟩ := ih (i + 1) m g1 (by omega) F1 (by rw [z.I (by decide)]; exact h47) (fun j h1 => by
      rw [e6, e8]
      by_cases c : j = i
      · rw [if_pos (by omega), c]
      · rw [if_neg (by omega)]; exact hj j (by omega))
    refine ⟨g, ?_, z.then a2, fun j h1 => by rw [a3 j h1, e8], fun j h1 => by rw [a4 j h1, e6, if_neg (by omega)]⟩
    rw [← a1, show r + 1 + 1 + m = (r + 1 + m) + 1 by omega, l_268_35, b_268_35, gI64 hF, Option.bind_some, h47, pk_mul, if_neg (by rw [nI_leI (by omega) (by omega)]; omega), b_268_45, gQ64_14 hF, Option.bind_some, gQ64_16 hF, Option.bind_some, aI68 hF (by omega), Option.bind_some, nI_add, wI66 hF (by omega), Option.bind_some, x1, bnd_e, nI_add]
abbrev ZV : List Nat := [68, 66, 48000064, 6000064, 7000064, 8000064, 9000064, 10000064, 13000064, 11000064, 12000064, 14000064, 1000064, 23000064, 3000064, 4000064, 5000064]
theorem s_268 {h : Hp} (hF : Fix h) (hB : Bg h E) (h1 : hI h 64 2 = nI sz) (hs : sz ≤ 940) (hb : ∀ i, i < sz → hI h 65 i = nI (T i) ∧ T i < 256) (h2 : E 2 = ne) (hne : ne ≤ 10) (hn : ∀ d, d < ne → hJ h 70 d = lN (N d) ∧ N d < 1125899906842625) :
    (∀ k a, dyA T sz 600 N ne (sz + 1) 0 X0 = .error (k, a) → ∃ g, f_268 (some 64) h = some (-1 - nI a, g) ∧ Fz ZV h g ∧ NowE g E ∧ hI g 64 22 = 1 ∧ hI g 64 10 = nI k ∧ hI g 64 2 = nI 0 ∧ hI g 64 0 = nI 0) ∧
    (∀ q Y, dyA T sz 600 N ne (sz + 1) 0 X0 = .ok (q, Y) → ∃ g, f_268 (some 64) h = some (nI (Y 900), g) ∧ Fz ZV h g ∧ NowE g (dyX E Y) ∧ hI g 64 22 = 1 ∧ hI g 64 10 = nI 0 ∧ hI g 64 2 = nI 0 ∧ hI g 64 0 = nI 0 ∧ DX ne Y) := by
  obtain ⟨g1, a1, a2, a3, a4, a5, a6, a7, a8⟩ := s_201 (T := T) (lim := 600) hF hB h1 hs (by omega) hb
  have z2 : Fz [48000064] g1 (sI g1 64 47 (nI 0)) := Fz.sI Fz.rfl' (Or.inr (by simp))
  have i2 : ∀ j, j ≠ 47 → hI (sI g1 64 47 (nI 0)) 64 j = hI g1 64 j := fun j hj => by rw [hI_sI, if_neg (by omega)]
  have M2 : MYs T sz 600 N ne E (sI g1 64 47 (nI 0)) 0 X0 (2 * X0 900) := by
    refine ⟨a3.cy (Z := []) (fx_sI a3.1 (by omega)) (fun j hj => i2 j (by omega)) rfl (z2.I (by decide)), ⟨a4.cg (z2.I (by decide)), h2, hne, fun d hd => ?_⟩, ?_, fun i hi => absurd hi (Nat.not_lt_zero i)⟩
    · rw [hJ_sI, a2.J (by decide)]; exact hn d hd
    · rw [hI_sI]; exact if_pos ⟨rfl, rfl⟩
  obtain ⟨m, hm⟩ := FU_ge (sz + 1 + 1) (by omega)
  obtain ⟨c1, c2⟩ := l_268l (sz + 1) 0 X0 m _ (by omega) (by omega) DX_0 M2
  have hd : f_268 (some 64) h = l_268_12 (sz + 1 + 1 + m) (some 64) (sI g1 64 47 (nI 0)) := by
    rw [f_268, b_268_0, rC64 hF, grd_e, Option.bind_some, a1, Option.bind_some, pI64 a3.1, Option.bind_some, hm]
  have w2 : Fz ZV h (sI g1 64 47 (nI 0)) := (a2.wid (by decide)).then (z2.wid (by decide))
  generalize sI g1 64 47 (nI 0) = g2 at *
  refine ⟨fun k a e => ?_, fun q Y e => ?_⟩
  · obtain ⟨g, d1, d2, d3, d4⟩ := c1 k a e
    refine ⟨g, by rw [hd]; exact d1, w2.then (d2.wid (by decide)), M2.2.1.1.cg (d2.I (by decide)), ?_, d3, ?_, ?_⟩
    · rw [d2.I1 (by decide) (by decide), i2 22 (by omega)]; exact a5
    · rw [d2.I1 (by decide) (by decide), i2 2 (by omega)]; exact a7
    · rw [d2.I1 (by decide) (by decide), i2 0 (by omega)]; exact a8
  · obtain ⟨g3, d1, d2, d3, d4⟩ := c2 q Y e
    have y60 := d4.1
    obtain ⟨k1, hk1⟩ := FU_ge (2 * Y 900 + 1) (by omega)
    obtain ⟨g4, e1, e2, e3, e4⟩ := l_268c y60 (2 * Y 900) 0 k1 g3 (by omega) d3.1.1 d3.2.2.1 (fun j hj => absurd hj (by omega))
    have F4 := e2.fix d3.1.1 (by decide)
    have h47 : hI g4 64 47 = nI (Y 900) := by rw [e2.I (by decide)]; exact d3.2.2.1
    have z5 : Fz [66] g4 (sI g4 66 341 (nI (Y 900))) := Fz.sI Fz.rfl' (Or.inl (by simp))
    have F5 : Fix (sI g4 66 341 (nI (Y 900))) := fx_sI F4 (by omega)
    have h64 : hI (sI g4 66 341 (nI (Y 900))) 64 = hI g3 64 := (z5.I (by decide)).trans (e2.I (by decide))
    have v5 : ∀ j, hI (sI g4 66 341 (nI (Y 900))) 66 j = if j = 341 then nI (Y 900) else hI g4 66 j := fun j => by
      rw [hI_sI]
      by_cases c : j = 341
      · rw [if_pos ⟨rfl, c⟩, if_pos c]
      · rw [if_neg (fun z => c z.2), if_neg c]
    have E3 := d3.2.1.1
    refine ⟨sI g4 66 341 (nI (Y 900)), ?_, w2.then ((d2.1.wid (by decide)).then ((e2.wid (by decide)).then (z5.wid (by decide)))), ⟨fun i hi h4 h340 => ?_, ?_, ?_, fun i => ?_⟩, ?_, ?_, ?_, ?_, d4⟩
    · rw [hd, d1, b_268_33, bnd_e, hk1, e1, b_268_67, gQ64_14 F4, Option.bind_some, gI64 F4, Option.bind_some, h47, wI66 F4 (by omega), Option.bind_some, gI64 F5, Option.bind_some, h64, d3.2.2.1]
    · rw [v5]
      unfold dyX
      by_cases c1 : i = 341
      · rw [if_pos c1, if_pos c1]
      · rw [if_neg c1, if_neg c1]
        by_cases c2 : 342 ≤ i ∧ i < 342 + 2 * Y 900
        · rw [if_pos c2]
          have := e3 (i - 342) (by omega)
          rw [show 342 + (i - 342) = i by omega] at this
          rw [this]
          exact d3.2.2.2 (i - 342) (by omega)
        · rw [if_neg c2, e4 i (by omega)]
          exact E3.1 i hi h4 h340
    · rw [v5, if_neg (by omega), e4 4 (by omega)]
      show _ = mI (dyX E Y 4)
      unfold dyX
      rw [if_neg (by omega), if_neg (by omega)]
      exact E3.2.1
    · rw [v5, if_neg (by omega), e4 340 (by omega)]
      show _ = mI (dyX E Y 340)
      unfold dyX
      rw [if_neg (by omega), if_neg (by omega)]
      exact E3.2.2.1
    · unfold dyX
      have := E3.2.2.2 i
      split
      · omega
      · split
        · rename_i c
          have := d4.2 ((i - 342) / 2) (by omega)
          by_cases ev : (i - 342) % 2 = 0
          · rw [show i - 342 = 2 * ((i - 342) / 2) by omega]; omega
          · rw [show i - 342 = 2 * ((i - 342) / 2) + 1 by omega]; omega
        · omega
    · rw [h64, d2.1.I1 (by decide) (by decide), i2 22 (by omega)]; exact a5
    · rw [h64, d2.2, i2 10 (by omega)]; exact a6
    · rw [h64, d2.1.I1 (by decide) (by decide), i2 2 (by omega)]; exact a7
    · rw [h64, d2.1.I1 (by decide) (by decide), i2 0 (by omega)]; exact a8
end DAYN
