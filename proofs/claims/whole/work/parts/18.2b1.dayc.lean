/-! the class reads a day, continued -/
def DyC (h : Hp) (b : Nat) (X : Nat → Nat) (c : Nat) : Prop := (hK h b = 0 ∧ hQ h b 0 = some (b + 1) ∧ hQ h b 1 = some (b + 2) ∧ (hK h (b + 1) = 12 ∧ hL h (b + 1) = 60) ∧ hK h (b + 2) = 12 ∧ hL h (b + 2) = 60) ∧ (∀ i, i < c → hI h (b + 1) i = mI (ow (X (2 * i)) (X (2 * i + 1))) ∧ hI h (b + 2) i = nI (if ow (X (2 * i)) (X (2 * i + 1)) < 5 then X (2 * i + 1) else 0)) ∧ ∀ i, c ≤ i → hI h (b + 2) i = nI 0
section DAYC
variable {T : Nat → Nat} {sz lim : Nat} {N : Nat → Nat} {ne a : Nat}
def DYs (T : Nat → Nat) (sz lim : Nat) (N : Nat → Nat) (ne a : Nat) (h0 h : Hp) (b q : Nat) (X : Nat → Nat) (c : Nat) : Prop := CT h T sz lim q ∧ FRg h0 h b 3 130 ∧ DyC h b X c ∧ hI h b 2 = nI (X 900) ∧ NmB h0 b a ne N
theorem DYs.nm {h0 h : Hp} {b q c : Nat} {X : Nat → Nat} (s : DYs T sz lim N ne a h0 h b q X c) : NmH h a ne N := s.2.2.2.2.fa s.2.1.1 s.2.1.2.1 (by have := s.2.1.2.2.1; omega)
theorem DyC.ab {h g : Hp} {b c : Nat} {X : Nat → Nat} (d : DyC h b X c) (e : Ab (fun x => b ≤ x ∧ x < b + 3) h g) : DyC g b X c := by
  unfold DyC at *
  obtain ⟨k0, l0, i0, j0, q0⟩ := e b (by omega)
  obtain ⟨k1, l1, i1, j1, q1⟩ := e (b + 1) (by omega)
  obtain ⟨k2, l2, i2, j2, q2⟩ := e (b + 2) (by omega)
  rw [k0, q0, k1, l1, k2, l2, i1, i2]
  exact d
theorem DYs.fz {h0 h g : Hp} {b q q' c : Nat} {X : Nat → Nat} {Y : List Nat} (s : DYs T sz lim N ne a h0 h b q X c) (hT : CT g T sz lim q') (hz : Fz Y h g) (hY : ∀ z, z ∈ Y → z % 1000000 < 98) (hY2 : ∀ z, z ∈ Y → z ∈ Zs) : DYs T sz lim N ne a h0 g b q' X c := by
  obtain ⟨s1, s2, s3, s4, s5⟩ := s
  have bb := s2.2.2.1
  have ab := hz.ab (P := fun x => b ≤ x ∧ x < b + 3) hY (fun a ha => by omega)
  exact ⟨hT, s2.fz hz hY2, s3.ab ab, by rw [(ab b (by omega)).2.2.1]; exact s4, s5⟩
theorem dy_step {h0 h : Hp} {b q c : Nat} {X : Nat → Nat} (s : DYs T sz lim N ne a h0 h b q X c) : ∃ g, f_117 (some 31) h = some g ∧ DYs T sz lim N ne a h0 g b (tkN T sz lim q) X c := by
  obtain ⟨g, a1, a2, a3⟩ := c_step s.1
  exact ⟨g, a1, s.fz a3 a2 (by decide) (by decide)⟩
theorem d_err {h0 h : Hp} {b q n k s : Nat} {S : Hp → Nat → (Nat → Nat) → Prop} {nx : Nat → (Nat → Nat) → RsT} (hT : CT h T sz lim q) (hf : FRg h0 h b n s) (hn : n ≤ 100) (hs : s ≤ 1500) : CR h0 b ((grd (rC 9 (some 31) h)).bind fun _ => (f_119 (some 31) (nI k) h).bind fun p2 => (grd (decide (p2.1 = 0 ∨ p2.1 = 1))).bind fun _ => some (p2.1, p2.2)) (erA T sz lim k q) S nx := by
  obtain ⟨g, a1, a2, a3, a4⟩ := s_119 (k := k) hT
  refine ⟨g, false, ?_, fun _ => ⟨_, _, rfl, hf.er hn hs (a2.fix hT.1 (by decide)) a2 a3 a4⟩, fun z => by cases z⟩
  rw [rC31 hT.1, grd_e, Option.bind_some, a1, Option.bind_some]
  rfl
theorem d_num {h0 h : Hp} {b q n s : Nat} {u z : Int} {x y : Int32} {A B : Hp → Option (Int32 × Hp)} {st : RsT} {S : Hp → Nat → (Nat → Nat) → Prop} {nx : Nat → (Nat → Nat) → RsT} (s1 : CT h T sz lim q) (hf : FRg h0 h b n s) (hn : n ≤ 100) (hs : s ≤ 1500) (hx : zI u = x) (hy : zI z = y) (ha : -1000 ≤ u ∧ u ≤ 1000) (hz : -1000 ≤ z ∧ z ≤ 1000) (hB : ∀ g, B g = some (nI 0, g))
    (hA : nmB T sz lim q u z = true → hI h 31 4 = nI (tkV T sz lim q) → CR h0 b (A h) st S nx) (hr : nmB T sz lim q u z = false → st = erA T sz lim (nmF T sz lim q) q) :
    CR h0 b ((grd (rC 9 (some 31) h)).bind fun _ => (f_124 (some 31) x y h).bind fun p => if ¬ p.1 = 0 then A p.2 else B p.2) st S nx := by
  obtain ⟨g, a1, a2, a3, a4⟩ := s_124 s1 ha hz
  rw [hx, hy] at a1
  rw [rC31 s1.1, grd_e, Option.bind_some, a1, Option.bind_some]
  dsimp only
  cases c : nmB T sz lim q u z
  · rw [if_neg (show ¬ ¬ bI false = 0 from fun z => z rfl), hB, hr c]
    exact ⟨g, false, rfl, fun _ => ⟨_, _, rfl, hf.er hn hs (a2.fix s1.1 (by decide)) a2 (a4 c).1 (a4 c).2⟩, fun z => (by cases z)⟩
  · obtain ⟨e1, e2⟩ := a3 c
    subst e1
    rw [if_pos (show ¬ bI true = 0 by decide)]
    exact hA c e2
def SDy (T : Nat → Nat) (sz lim : Nat) (N : Nat → Nat) (ne a : Nat) (h0 : Hp) (b c : Nat) (g : Hp) (q : Nat) (X : Nat → Nat) : Prop := DYs T sz lim N ne a h0 g b q X (c + 1) ∧ X 900 = c
theorem s_3 {h0 h : Hp} {b q c s : Nat} {X : Nat → Nat} (hs : DYs T sz lim N ne a h0 h b q X c) (hc : X 900 = c) (hc60 : c < 60) (hs1 : s ≤ 1) : CR h0 b (f_3 (some b) (some 31) (some a) (nI s) h) (dyS T sz lim N ne q X (4 + s)) (SDy T sz lim N ne a h0 b c) okR := by
  have nm := hs.nm
  have bb := hs.2.1.2.2.1
  have n10 := nm.2.2.1
  obtain ⟨g, a1, a2, a3⟩ := s_125 hs.1 hs.2.2.2.2.2.1.1 nm
  rw [f_3, b_3_0, rC31 hs.1.1, grd_e, Option.bind_some, a1, Option.bind_some, bnd_e]
  dsimp only
  unfold dyS
  by_cases cc : isNm T sz lim q = true ∧ fdD N ne (nV T sz lim q) < ne
  · have eg := a2 cc
    subst eg
    obtain ⟨⟨k0, q0, q1, ⟨k1, l1⟩, k2, l2⟩, dv, dz⟩ := hs.2.2.1
    rw [if_pos cc, if_pos (nI_m1 (by omega)), if_neg (by rw [cc.1]; decide), if_neg (by omega), b_3_15, gQ_e k0, q0, Option.bind_some, gI_e k0, Option.bind_some, hs.2.2.2.1, hc, pk_mul, nI_add, nI_add, wI_n k1 (by omega) l1 hc60 (by omega), Option.bind_some]
    generalize hk : fdD N ne (nV T sz lim q) = k at *
    have D1 : DYs T sz lim N ne a h0 (sI g (b + 1) c (nI (4 + 2 * k + s))) b q (upX (upX X (2 * c) (4 + s)) (2 * c + 1) k) (c + 1) := by
      obtain ⟨s1, s2, s3, s4, s5⟩ := hs
      refine ⟨s1.wsI (by omega), s2.wsI (by omega), ⟨⟨k0, q0, q1, ⟨k1, l1⟩, k2, l2⟩, fun i hi => ?_, fun i hi => ?_⟩, ?_, s5⟩
      · rw [hI_sI, hI_sI, if_neg (show ¬ (b + 2 = b + 1 ∧ i = c) by omega)]
        by_cases e : i = c
        · subst e
          rw [if_pos ⟨rfl, rfl⟩, upX_n (show 2 * i ≠ 2 * i + 1 by omega), upX_i, upX_i]
          have eo : ow (4 + s) k = 1 + (2 * k + (4 + s)) := by unfold ow; rw [if_neg (by omega), if_neg (by omega)]
          rw [eo, if_neg (by omega)]
          refine ⟨?_, dz i (Nat.le_refl _)⟩
          rw [Nat.add_comm 1, mI_s]
          exact congrArg nI (by omega)
        · rw [if_neg (fun z => e z.2), upX_n (by omega), upX_n (by omega), upX_n (by omega), upX_n (by omega)]
          exact dv i (by omega)
      · rw [hI_sI, if_neg (by omega)]; exact dz i (by omega)
      · rw [hI_sI, if_neg (by omega), upX_n (by omega), upX_n (by omega)]; exact s4
    obtain ⟨g2, b1, b2⟩ := dy_step D1
    refine ⟨g2, true, ?_, fun z => (by cases z), fun _ => ⟨_, _, rfl, ?_, ?_⟩⟩
    · rw [rC31 D1.1.1, grd_e, Option.bind_some, b1, Option.bind_some, grd1, Option.bind_some]
      rfl
    · exact b2
    · rw [upX_n (by omega), upX_n (by omega)]; exact hc
  · obtain ⟨b1, b2, b3⟩ := a3 cc
    rw [if_neg cc, if_neg (fun z => z rfl), b_3_13]
    refine ⟨g, false, by rw [grd0, Option.bind_some]; rfl, fun _ => ⟨_, _, ?_, hs.2.1.er (by omega) (by omega) (b1.fix hs.1.1 (by decide)) b1 b2 b3⟩, fun z => (by cases z)⟩
    cases hn : isNm T sz lim q
    · rw [if_pos rfl, if_neg (by decide)]; rfl
    · rw [if_neg (by decide), if_pos (by have : ¬ fdD N ne (nV T sz lim q) < ne := fun z => cc ⟨hn, z⟩; omega), if_pos rfl]; rfl
theorem s_4 {h : Hp} {q : Nat} (hC : CT h T sz lim q) : f_4 (some 31) h = some (if sdN T sz lim q = 4 then -1 else nI (sdN T sz lim q), h) := by
  have w : ∀ k, k < 26 → f_120 (some 31) (some k) h = some (bI (isW T sz lim q k), h) := fun k hk => s_120 hC.1 hC.2.2.1 hC.2.2.2 hk
  unfold sdN
  rw [f_4, b_4_0, rC31 hC.1, grd_e, Option.bind_some, w 13 (by omega), Option.bind_some]
  dsimp only
  cases isW T sz lim q 13
  · rw [if_pos (show bI false = 0 from rfl), b_4_12, rC31 hC.1, grd_e, Option.bind_some, w 14 (by omega), Option.bind_some]
    dsimp only
    cases isW T sz lim q 14
    · rw [if_pos (show bI false = 0 from rfl), b_4_24, rC31 hC.1, grd_e, Option.bind_some, w 15 (by omega), Option.bind_some]
      dsimp only
      cases isW T sz lim q 15
      · rw [if_pos (show bI false = 0 from rfl), b_4_36, rC31 hC.1, grd_e, Option.bind_some, w 16 (by omega), Option.bind_some]
        dsimp only
        cases isW T sz lim q 16 <;> rfl
      · rfl
    · rfl
  · rfl
/-- before the times are read -/
def DyM (h : Hp) (b : Nat) (X : Nat → Nat) (c : Nat) : Prop := (X (2 * c) < 4 ∨ X (2 * c) = 6) ∧ hI h (b + 1) c = mI (if X (2 * c) < 4 then X (2 * c) + 1 else 0)
theorem s_5 {h0 h : Hp} {b q c : Nat} {X : Nat → Nat} (hs : DYs T sz lim N ne a h0 h b q X c) (hc : X 900 = c) (hc60 : c < 60) (hm : DyM h b X c) : CR h0 b (f_5 (some b) (some 31) h) (dyT T sz lim q X) (SDy T sz lim N ne a h0 b c) okR := by
  have bb := hs.2.1.2.2.1
  rw [f_5, b_5_0]
  unfold dyT
  refine d_num (A := fun g => b_5_12 (some b) (some 31) g) (B := fun g => b_5_10 g) hs.1 hs.2.1 (by omega) (by omega) (u := 1) (z := 30) rfl rfl (by omega) (by omega) (fun g => rfl) (fun cb v => ?_) (fun cb => by rw [cb]; rfl)
  have nk := nmB_k cb
  rw [cb, if_pos rfl]
  obtain ⟨⟨k0, q0, q1, ⟨k1, l1⟩, k2, l2⟩, dv, dz⟩ := hs.2.2.1
  show CR h0 b (b_5_12 (some b) (some 31) h) _ _ _
  rw [b_5_12, gQ_e k0, q1, Option.bind_some, gI_e k0, Option.bind_some, hs.2.2.2.1, gI31 hs.1.1, Option.bind_some, v, hc, wI_n k2 (by omega) l2 hc60 (by omega), Option.bind_some]
  generalize tkV T sz lim q = t at *
  have D1 : DYs T sz lim N ne a h0 (sI h (b + 2) c (nI t)) b q (upX X (2 * c + 1) t) (c + 1) := by
    obtain ⟨s1, s2, s3, s4, s5⟩ := hs
    refine ⟨s1.wsI (by omega), s2.wsI (by omega), ⟨⟨k0, q0, q1, ⟨k1, l1⟩, k2, l2⟩, fun i hi => ?_, fun i hi => ?_⟩, ?_, s5⟩
    · rw [hI_sI, hI_sI, if_neg (show ¬ (b + 1 = b + 2 ∧ i = c) by omega)]
      by_cases e : i = c
      · subst e
        rw [if_pos ⟨rfl, rfl⟩, upX_n (show 2 * i ≠ 2 * i + 1 by omega), upX_i]
        have eo : ow (X (2 * i)) t = if X (2 * i) < 4 then X (2 * i) + 1 else 0 := by
          unfold ow
          by_cases c4 : X (2 * i) < 4
          · rw [if_pos c4, if_pos c4]
          · rw [if_neg c4, if_neg c4, if_pos (by have := hm.1; omega)]
        rw [eo]
        refine ⟨hm.2, ?_⟩
        rw [if_pos (by split <;> omega)]
      · rw [if_neg (fun z => e z.2), upX_n (by omega), upX_n (by omega)]
        exact dv i (by omega)
    · rw [hI_sI, if_neg (by omega)]; exact dz i (by omega)
    · rw [hI_sI, if_neg (by omega), upX_n (by omega)]; exact s4
  obtain ⟨g2, b1, b2⟩ := dy_step D1
  refine ⟨g2, true, ?_, fun z => (by cases z), fun _ => ⟨_, _, rfl, b2, (upX_n (by omega)).trans hc⟩⟩
  rw [rC31 D1.1.1, grd_e, Option.bind_some, b1, Option.bind_some, grd1, Option.bind_some]
  rfl
theorem s_2 {h0 h : Hp} {b q c : Nat} {X : Nat → Nat} (hs : DYs T sz lim N ne a h0 h b q X c) (hc : X 900 = c) (hc60 : c ≤ 60) : CR h0 b (f_2 (some b) (some 31) (some a) h) (dyK T sz lim N ne q X) (SDy T sz lim N ne a h0 b c) okR := by
  have bb := hs.2.1.2.2.1
  have hF := hs.1.1
  have w : ∀ k, k < 26 → f_120 (some 31) (some k) h = some (bI (isW T sz lim q k), h) := fun k hk => s_120 hF hs.1.2.2.1 hs.1.2.2.2 hk
  obtain ⟨⟨k0, q0, q1, ⟨k1, l1⟩, k2, l2⟩, dv, dz⟩ := id hs.2.2.1
  /- from the count on -/
  have main : (isW T sz lim q 9 || isW T sz lim q 10 || isW T sz lim q 11 || isW T sz lim q 12) = true → CR h0 b (b_2_64 (some b) (some 31) (some a) (bI (isW T sz lim q 9)) (bI (isW T sz lim q 10)) (bI (isW T sz lim q 10 || isW T sz lim q 11)) h) (dyK T sz lim N ne q X) (SDy T sz lim N ne a h0 b c) okR := by
    intro any
    unfold dyK
    rw [if_neg (by rw [any]; decide), b_2_64, gI_e k0, Option.bind_some, hs.2.2.2.1]
    by_cases c6 : X 900 = 60
    · rw [if_neg (fun z => z (by rw [c6])), if_pos c6, b_2_73]
      exact d_err hs.1 hs.2.1 (by omega) (by omega)
    · obtain ⟨g, a1, a2⟩ := dy_step hs
      rw [if_pos (nI_nn (by omega) (by omega) c6), if_neg c6, b_2_79, rC31 hF, grd_e, Option.bind_some, a1, Option.bind_some]
      obtain ⟨⟨k0', q0', q1', ⟨k1', l1'⟩, k2', l2'⟩, dv', dz'⟩ := id a2.2.2.1
      have F2 := a2.1.1
      generalize tkN T sz lim q = p1 at *
      have fin3 : ∀ s w', s ≤ 1 → w' = 4 + s → CR h0 b (b_2_101 (some b) (some 31) (some a) (nI s) g) (dyS T sz lim N ne p1 X w') (SDy T sz lim N ne a h0 b c) okR := by
        intro s w' hs1 ew
        obtain ⟨g3, v3, b1, b2, b3⟩ := s_3 a2 hc (by omega) hs1
        rw [ew]
        refine ⟨g3, v3, ?_, b2, b3⟩
        rw [b_2_101, rC_e k0' (by omega), grd_e, Option.bind_some, b1, Option.bind_some]
        dsimp only
        rw [grdB, Option.bind_some]
      have fin5 : ∀ g2 q2 X2, DYs T sz lim N ne a h0 g2 b q2 X2 c → X2 900 = c → DyM g2 b X2 c → CR h0 b (b_2_157 (some b) (some 31) g2) (dyT T sz lim q2 X2) (SDy T sz lim N ne a h0 b c) okR := by
        intro g2 q2 X2 d2 e9 m2
        obtain ⟨g3, v3, b1, b2, b3⟩ := s_5 d2 e9 (by omega) m2
        refine ⟨g3, v3, ?_, b2, b3⟩
        rw [b_2_157, rC_e d2.2.2.1.1.1 (by omega), grd_e, Option.bind_some, b1, Option.bind_some]
        dsimp only
        rw [grdB, Option.bind_some]
      have wr : ∀ w', (w' < 4 ∨ w' = 6) → DYs T sz lim N ne a h0 (sI g (b + 1) c (mI (if w' < 4 then w' + 1 else 0))) b p1 (upX X (2 * c) w') c ∧ upX X (2 * c) w' 900 = c ∧ DyM (sI g (b + 1) c (mI (if w' < 4 then w' + 1 else 0))) b (upX X (2 * c) w') c := by
        intro w' hw'
        obtain ⟨s1, s2, s3, s4, s5⟩ := a2
        refine ⟨⟨s1.wsI (by omega), s2.wsI (by omega), ⟨⟨k0', q0', q1', ⟨k1', l1'⟩, k2', l2'⟩, fun i hi => ?_, fun i hi => ?_⟩, ?_, s5⟩, (upX_n (by omega)).trans hc, ?_, ?_⟩
        · rw [hI_sI, hI_sI, if_neg (by omega), if_neg (by omega), upX_n (by omega), upX_n (by omega)]
          exact dv' i hi
        · rw [hI_sI, if_neg (by omega)]; exact dz' i hi
        · rw [hI_sI, if_neg (by omega), upX_n (by omega)]; exact s4
        · rw [upX_i]; exact hw'
        · rw [hI_sI, if_pos ⟨rfl, rfl⟩, upX_i]
      have m1e : (-1 : Int32) = mI 0 := rfl
      have hv : ∀ x, hI (sI g (b + 1) c x) (b + 1) c = x := fun x => by rw [hI_sI]; exact if_pos ⟨rfl, rfl⟩
      cases h10 : isW T sz lim q 10
      · cases h11 : isW T sz lim q 11
        · rw [if_pos (show bI (false || false) = 0 from rfl), if_neg (by decide), b_2_105, gQ_e k0', q0', Option.bind_some, gI_e k0', Option.bind_some, a2.2.2.2.1, hc]
          cases h9 : isW T sz lim q 9
          · obtain ⟨d6, e6, m6⟩ := wr 6 (Or.inr rfl)
            rw [if_neg (show ¬ (6 : Nat) < 4 by omega)] at d6 m6
            rw [if_pos (show bI false = 0 from rfl), if_neg (by decide), b_2_124, b_2_125, wI_n k1' (by omega) l1' (by omega) (by omega), Option.bind_some, if_pos (show bI false = 0 from rfl), b_2_149, if_pos (show bI false = 0 from rfl)]
            exact fin5 _ _ _ d6 e6 m6
          · have sl := sdN_le (T := T) (sz := sz) (lim := lim) p1
            rw [if_neg (show ¬ bI true = 0 by decide), if_pos rfl, b_2_117, s_4 a2.1, Option.bind_some]
            dsimp only
            rw [b_2_125]
            by_cases c4 : sdN T sz lim p1 = 4
            · rw [if_pos c4, if_pos c4, wI_n k1' (by omega) l1' (by omega) (by omega), Option.bind_some, if_neg (show ¬ bI true = 0 by decide), b_2_130]
              obtain ⟨d6, e6, m6⟩ := wr 6 (Or.inr rfl)
              rw [if_neg (show ¬ (6 : Nat) < 4 by omega)] at d6 m6
              rw [m1e, gQ_e d6.2.2.1.1.1, Option.bind_some, hQ_sI, q0', gI_e d6.2.2.1.1.1, Option.bind_some, d6.2.2.2.1, e6, aI_n d6.2.2.1.1.2.2.2.1.1 d6.2.2.1.1.2.2.2.1.2 (by omega) (by omega), Option.bind_some, hv, if_neg (show ¬ ¬ mI 0 = mI 0 from fun z => z rfl), b_2_143]
              exact d_err d6.1 d6.2.1 (by omega) (by omega)
            · obtain ⟨d6, e6, m6⟩ := wr (sdN T sz lim p1) (Or.inl (by omega))
              have em : nI (sdN T sz lim p1) = mI (if sdN T sz lim p1 < 4 then sdN T sz lim p1 + 1 else 0) := by rw [if_pos (by omega)]; rfl
              rw [if_neg c4, if_neg c4, em, wI_n k1' (by omega) l1' (by omega) (by omega), Option.bind_some, if_neg (show ¬ bI true = 0 by decide), b_2_130, gQ_e d6.2.2.1.1.1, Option.bind_some, hQ_sI, q0', gI_e d6.2.2.1.1.1, Option.bind_some, d6.2.2.2.1, e6, aI_n d6.2.2.1.1.2.2.2.1.1 d6.2.2.1.1.2.2.2.1.2 (by omega) (by omega), Option.bind_some, hv, ← em, if_pos (nI_m1 (by omega)), b_2_149, if_neg (show ¬ bI true = 0 by decide), b_2_153]
              rw [em]
              obtain ⟨g3, b1, b2, b3⟩ := c_step d6.1
              rw [rC31 d6.1.1, grd_e, Option.bind_some, b1, Option.bind_some]
              have d7 := d6.fz b3 b2 (by decide) (by decide)
              have ab := b2.ab (P := fun x => x = b + 1) (by decide) (fun x hx => by omega)
              exact fin5 _ _ _ d7 e6 ⟨m6.1, by rw [(ab (b + 1) rfl).2.2.1]; exact m6.2⟩
        · rw [if_neg (show ¬ bI (false || true) = 0 by decide), if_pos (show (false || true) = true from rfl), b_2_88, if_pos (show bI false = 0 from rfl), b_2_100, if_neg (by decide)]
          exact fin3 1 5 (by omega) rfl
      · rw [if_neg (show ¬ bI (true || isW T sz lim q 11) = 0 from show ¬ bI true = 0 by decide), if_pos (show (true || isW T sz lim q 11) = true from rfl), b_2_88, if_neg (show ¬ bI true = 0 by decide), b_2_96, if_pos rfl]
        exact fin3 0 4 (by omega) rfl
  rw [f_2, b_2_0, rC31 hF, grd_e, Option.bind_some, w 9 (by omega), Option.bind_some, bnd_e]
  dsimp only
  rw [rC31 hF, grd_e, Option.bind_some, w 10 (by omega), Option.bind_some, bnd_e]
  dsimp only
  cases h10 : isW T sz lim q 10
  · rw [h10] at main
    rw [if_neg (show ¬ ¬ bI false = 0 from fun z => z rfl), b_2_22, rC31 hF, grd_e, Option.bind_some, w 11 (by omega), Option.bind_some]
    dsimp only
    cases h11 : isW T sz lim q 11
    · rw [h11] at main
      rw [if_pos (show bI false = 0 from rfl), b_2_36, b_2_37]
      cases h9 : isW T sz lim q 9
      · rw [h9] at main
        rw [if_neg (show ¬ ¬ bI false = 0 from fun z => z rfl), b_2_43, if_neg (show ¬ ¬ nI 0 = 0 from fun z => z rfl), b_2_48, rC31 hF, grd_e, Option.bind_some, w 12 (by omega), Option.bind_some]
        dsimp only
        cases h12 : isW T sz lim q 12
        · unfold dyK
          rw [if_neg (show ¬ ¬ bI false = 0 from fun z => z rfl), h9, h10, h11, h12, if_pos (show (false || false || false || false) = false from rfl), b_2_58]
          exact d_err hs.1 hs.2.1 (by omega) (by omega)
        · rw [h12] at main
          rw [if_pos (show ¬ bI true = 0 by decide)]
          exact main rfl
      · rw [h9] at main
        rw [if_pos (show ¬ bI true = 0 by decide)]
        exact main rfl
    · rw [h11] at main
      rw [if_neg (show ¬ bI true = 0 by decide), b_2_32, b_2_37]
      cases h9 : isW T sz lim q 9
      · rw [h9] at main
        rw [if_neg (show ¬ ¬ bI false = 0 from fun z => z rfl), b_2_43, if_pos (show ¬ nI 1 = 0 from nI10)]
        exact main rfl
      · rw [h9] at main
        rw [if_pos (show ¬ bI true = 0 by decide)]
        exact main rfl
  · rw [h10] at main
    rw [if_pos (show ¬ bI true = 0 by decide), b_2_32, b_2_37]
    cases h9 : isW T sz lim q 9
    · rw [h9] at main
      rw [if_neg (show ¬ ¬ bI false = 0 from fun z => z rfl), b_2_43, if_pos (show ¬ nI 1 = 0 from nI10)]
      exact main rfl
    · rw [h9] at main
      rw [if_pos (show ¬ bI true = 0 by decide)]
      exact main rfl
end DAYC
