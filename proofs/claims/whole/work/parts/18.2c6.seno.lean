/-! the reference reads a sentence: a one -/
section SENO
variable {T : Nat → Nat} {sz lim : Nat} {N E : Nat → Nat} {ne : Nat}
theorem lay902 {X : Nat → Nat} {k a b c : Nat} (h : X 900 < 60) : layX X k a b c 902 = X 900 := by
  unfold layX
  rw [if_neg (by omega), if_neg (by omega), if_neg (by omega), if_neg (by omega), if_pos rfl]
/-- a field 60 + j of the reader set -/
theorem n_f {h : Hp} {q d d' : Nat} {X Y : Nat → Nat} {j : Nat} {x : Int32} (s : MNs T sz lim N ne E h q X d) (hj : j = 61 ∨ j = 62) (h1 : Y 900 = X 900 ∧ ∀ i, i < 4 * X 900 → Y i = X i) (h2 : (if j = 61 then x else hI h 64 61) = nI (Y 901)) (h3 : (if j = 62 then x else hI h 64 62) = nI d') : FN h (sI h 64 j x) ∧ MNs T sz lim N ne E (sI h 64 j x) q Y d' ∧ hI (sI h 64 j x) 64 63 = hI h 64 63 := by
  have z : Fz [62000064, 63000064] h (sI h 64 j x) := Fz.sI Fz.rfl' (Or.inr (by rcases hj with e | e <;> subst e <;> simp))
  have i : ∀ k, k ≠ j → hI (sI h 64 j x) 64 k = hI h 64 k := fun k hk => by rw [hI_sI, if_neg (by omega)]
  have ij : hI (sI h 64 j x) 64 j = x := by rw [hI_sI]; exact if_pos ⟨rfl, rfl⟩
  obtain ⟨s1, ⟨s2, s3, s4, s5⟩, ⟨s6, s7, s8⟩, s9⟩ := s
  refine ⟨⟨z.wid (by decide), i 10 (by omega), fun y => y.cg (z.I (by decide))⟩, ⟨s1.cy (Z := []) (fx_sI s1.1 (by omega)) (fun k hk => i k (by omega)) rfl (z.I (by decide)), ⟨s2.cg (z.I (by decide)), s3, s4, s5⟩, ⟨?_, ?_, ?_⟩, ?_⟩, i 63 (by omega)⟩
  · rw [i 60 (by omega), h1.1]; exact s6
  · rcases hj with e | e
    · subst e; rw [if_pos rfl] at h2; rw [ij]; exact h2
    · rw [if_neg (by omega)] at h2; rw [i 61 (by omega)]; exact h2
  · rcases hj with e | e
    · rw [if_neg (by omega)] at h3; rw [i 62 (by omega)]; exact h3
    · subst e; rw [if_pos rfl] at h3; rw [ij]; exact h3
  · unfold NdM
    rw [h1.1, z.I (by decide)]
    intro k hk
    rw [h1.2 _ (by omega), h1.2 _ (by omega), h1.2 _ (by omega), h1.2 _ (by omega)]
    exact s9 k hk
theorem wr_176 {d : Nat} {R : Option Nat → Hp → Option (Int32 × Hp)} {o : Option (Int32 × Hp)} {h : Hp} {r : RsT} (hF : Fix h) (hM : MOn T sz lim N ne E (d + 1) o h r) : MOn T sz lim N ne E d (o.bind fun p => b_290_176 R (some 64) p.1 p.2) h r := by
  obtain ⟨g, a1, a2, a3⟩ := hM
  have Fg := a2.1.fix hF (by decide)
  rw [a1, Option.bind_some]
  dsimp only
  rw [b_290_176, gI64 Fg, Option.bind_some, pI64 Fg, Option.bind_some, grdB, Option.bind_some]
  have z : Fz [63000064] g (sI g 64 62 (hI g 64 62 - nI 1)) := Fz.sI Fz.rfl' (Or.inr (by simp))
  refine ⟨_, rfl, ⟨a2.1.then (z.wid (by decide)), fun y => (a2.2 y).cg (z.I (by decide))⟩, ?_⟩
  cases r with
  | error e =>
    obtain ⟨k, e⟩ := e
    obtain ⟨b1, b2⟩ := a3
    exact ⟨by rw [hI_sI, if_neg (by omega)]; exact b1, by rw [hI_sI, if_neg (by omega)]; exact b2⟩
  | ok x =>
    obtain ⟨q, X⟩ := x
    obtain ⟨⟨b1, b2⟩, b3⟩ := a3
    have e62 : hI g 64 62 - nI 1 = nI d := by rw [b1.2.2.1.2.2, pk_sub (by omega)]; rfl
    rw [e62]
    obtain ⟨c1, c2, c3⟩ := n_f (d' := d) (Y := X) (j := 62) (x := nI d) b1 (Or.inr rfl) ⟨rfl, fun _ _ => rfl⟩ (by rw [if_neg (by omega)]; exact b1.2.2.1.2.1) (by rw [if_pos rfl])
    exact ⟨⟨c2, c3.trans b2⟩, by rw [c1.2.1]; exact b3⟩
theorem s_290 : ∀ n k d, n ≤ k → d ≤ 8 → 9 ≤ d + n → RMm T sz lim N ne E d (fun h => f_290 k (some 64) h) (onP T sz lim N ne n d) := by
  intro n
  induction n with
  | zero => intro k d _ h8 h9; omega
  | succ n ih =>
    intro k d hk h8 h9 q X h hX s
    obtain ⟨k', rfl⟩ : ∃ k', k = k' + 1 := ⟨k - 1, by omega⟩
    have hF := s.1.1
    have x1 := hX.1
    have x2 := hX.2
    have kn := kN_le (T := T) (sz := sz) (lim := lim) q
    have nw40 : tkK T sz lim q = 40 → kN T sz lim q = 99 := fun k40 => by
      have nw : ∀ k, isW T sz lim q k = false := fun k => by
        unfold isW
        rw [decide_eq_false (by omega), Bool.false_and]
      unfold kN
      rw [nw, nw, nw, nw, nw, nw, nw, nw, nw, nw]
      rfl
    have kw : kN T sz lim q ≠ 99 → tkK T sz lim q ≠ 1 := fun hne h1 => hne (by
      have nw : ∀ k, isW T sz lim q k = false := fun k => by
        unfold isW
        rw [decide_eq_false (by omega), Bool.false_and]
      unfold kN
      rw [nw, nw, nw, nw, nw, nw, nw, nw, nw, nw]
      rfl)
    have un : onP T sz lim N ne (n + 1) d q X = if kN T sz lim q = 99 ∧ tkK T sz lim q ≠ 40 then erA T sz lim 1 q
      else if X 901 = 20 then erA T sz lim 4 q
      else if d = 8 then erA T sz lim 4 q
      else if tkK T sz lim q = 40 then bindR (orP T sz lim (onP T sz lim N ne n (d + 1)) (tkN T sz lim q) (upX X 901 (X 901 + 1))) (fun q2 Y => if tkK T sz lim q2 = 41 then .ok (tkN T sz lim q2, Y) else erA T sz lim 1 q2)
      else if kN T sz lim q = 2 then bindR (onP T sz lim N ne n (d + 1) (tkN T sz lim q) (upX X 901 (X 901 + 1))) (fun q2 Y => .ok (q2, layX Y 2 (Y 902) 0 0))
      else if kN T sz lim q ≤ 5 then .ok (tkN T sz lim q, layX (upX X 901 (X 901 + 1)) (kN T sz lim q) 0 0 0)
      else if kN T sz lim q = 6 then btP T sz lim N ne (tkN T sz lim q) (upX X 901 (X 901 + 1))
      else cmP T sz lim (tkN T sz lim q) (upX X 901 (X 901 + 1)) (kN T sz lim q) := rfl
    have main : ∀ v1 v2 : Int32, v1 = bI (decide (tkK T sz lim q = 40)) → v2 = (if kN T sz lim q = 99 then -1 else nI (rwk (kN T sz lim q))) → (kN T sz lim q = 99 → tkK T sz lim q = 40) → MOn T sz lim N ne E d (b_290_27 (f_290 k') (some 64) v1 v2 h) h (onP T sz lim N ne (n + 1) d q X) := by
      intro v1 v2 hv1 hv2 hb1
      have k1 : tkK T sz lim q ≠ 1 := by
        by_cases c : kN T sz lim q = 99
        · rw [hb1 c]; omega
        · exact kw c
      rw [un, if_neg (fun z => z.2 (hb1 z.1)), b_290_27, gI64 hF, Option.bind_some, s.2.2.1.2.1]
      by_cases c20 : X 901 = 20
      · rw [if_pos (by rw [c20]), if_pos c20, b_290_45]
        exact n_err s.1 (Or.inl k1)
      · rw [if_neg (nI_nn (by omega) (by omega) c20), if_neg c20, b_290_36, gI64 hF, Option.bind_some, s.2.2.1.2.2]
        by_cases c8 : d = 8
        · rw [if_neg (fun z => z (by rw [c8])), if_pos c8, b_290_45]
          exact n_err s.1 (Or.inl k1)
        · rw [if_pos (nI_nn (by omega) (by omega) c8), if_neg c8, b_290_51, gI64 hF, Option.bind_some, s.2.2.1.2.1, nI_add, pI64 hF, Option.bind_some]
          have h900 : upX X 901 (X 901 + 1) 900 = X 900 := upX_n (by omega)
          obtain ⟨a1, a2, _⟩ := n_f (d' := d) (Y := upX X 901 (X 901 + 1)) (j := 61) (x := nI (X 901 + 1)) s (Or.inl rfl) ⟨h900, fun i hi => upX_n (by omega)⟩ (by rw [if_pos rfl, upX_i]) (by rw [if_neg (by omega)]; exact s.2.2.1.2.2)
          refine MOn.pre a1 ?_
          have sx1 : SX (upX X 901 (X 901 + 1)) := ⟨by rw [upX_i]; omega, by rw [upX_i, upX_n (by omega)]; omega⟩
          have n40 : upX X 901 (X 901 + 1) 900 < 60 := by rw [upX_n (by omega)]; omega
          have ihR := ih k' (d + 1) (by omega) (by omega) (by omega)
          have ihP := onP_P (T := T) (sz := sz) (lim := lim) (N := N) (ne := ne) n (d + 1)
          generalize sI h 64 61 (nI (X 901 + 1)) = g1 at *
          generalize upX X 901 (X 901 + 1) = X1 at *
          rw [gI64 a2.1.1, Option.bind_some, a2.2.2.1.2.2, nI_add, pI64 a2.1.1, Option.bind_some]
          obtain ⟨b1, b2, _⟩ := n_f (d' := d + 1) (Y := X1) (j := 62) (x := nI (d + 1)) a2 (Or.inr rfl) ⟨rfl, fun _ _ => rfl⟩ (by rw [if_neg (by omega)]; exact a2.2.2.1.2.1) (by rw [if_pos rfl])
          refine MOn.pre b1 ?_
          generalize sI g1 64 62 (nI (d + 1)) = g2 at *
          obtain ⟨g, c1, c2, c3, _⟩ := n_step b2
          rw [rC64 b2.1.1, grd_e, Option.bind_some, c1, Option.bind_some, bnd_e, hv1]
          refine MOn.pre c2 ?_
          generalize hq1 : tkN T sz lim q = q1 at *
          have Fg := c3.1.1
          by_cases k40 : tkK T sz lim q = 40
          · rw [bI_T k40, if_neg nI10, if_pos k40, b_290_81, rC64 Fg, grd_e, Option.bind_some]
            refine wr_176 (R := f_290 k') Fg ?_
            rw [F_292, b_292_0, rC64 Fg, grd_e, Option.bind_some]
            refine MOn.bindR (A := fun g => b_292_9 (f_290 k') (some 64) g) (B := fun g => b_292_7 (f_290 k') g) (s_287 ihR ihP _ _ _ sx1 c3) (fun g => rfl) (fun g3 q2 Y e2 s2 => ?_)
            show MOn T sz lim N ne E (d + 1) (b_292_9 (f_290 k') (some 64) g3) g3 _
            rw [b_292_9, rC64 s2.1.1.1, grd_e, Option.bind_some, s_194 s2.1.1.1 s2.1.1.2.2.1 (by omega), Option.bind_some]
            dsimp only
            by_cases k41 : tkK T sz lim q2 = 41
            · rw [bI_T k41, if_pos nI10, if_pos k41, b_292_24]
              obtain ⟨g4, d1, d2, d3, d4⟩ := n_step s2.1
              exact ⟨g4, by rw [rC64 s2.1.1.1, grd_e, Option.bind_some, d1, Option.bind_some, grd1, Option.bind_some]; rfl, ⟨d2.1, d2.2.2⟩, ⟨d3, d4.trans s2.2⟩, d2.2.1⟩
            · rw [bI_F k41, if_neg (fun z => z rfl), if_neg k41, b_292_18]
              exact n_err s2.1.1 (Or.inr rfl)
          · have cb : kN T sz lim q ≠ 99 := fun z => k40 (hb1 z)
            rw [bI_F k40, if_pos (show nI 0 = 0 from rfl), if_neg k40, b_290_89, hv2, if_neg cb]
            have leaf : ∀ kk rk, kk = kN T sz lim q → rk = rkX kk → MOn T sz lim N ne E d (b_290_145 (f_290 k') (some 64) (nI 1) (some 64) (some 64) (nI rk) g) g (.ok (q1, layX X1 kk 0 0 0)) := by
              intro kk rk hkk hrk
              obtain ⟨g3, d1, d2, d3⟩ := s_286 (k := kk) (a := 0) (b := 0) (c := 0) c3 n40 (by omega) (by omega) (by omega) (by omega)
              obtain ⟨f1, f2, f3⟩ := n_root (x := nI (X1 900)) d3
              rw [b_290_145, rC64 Fg, grd_e, Option.bind_some, hrk, d1, Option.bind_some]
              dsimp only
              rw [pI64 d3.1.1, Option.bind_some]
              have := wr_176 (d := d) (R := f_290 k') (o := some (nI 1, sI g3 64 63 (nI (X1 900)))) (h := g) (r := .ok (q1, layX X1 kk 0 0 0)) Fg ⟨_, rfl, ⟨(d2.then f1).1, (d2.then f1).2.2⟩, ⟨f2, by rw [f3, lay902 n40]⟩, (d2.then f1).2.1⟩
              exact this
            rcases (show kN T sz lim q = 2 ∨ kN T sz lim q = 3 ∨ kN T sz lim q = 4 ∨ kN T sz lim q = 5 ∨ kN T sz lim q = 6 ∨ (7 ≤ kN T sz lim q ∧ kN T sz lim q ≤ 11) by omega) with ek | ek | ek | ek | ek | ek
            · rw [ek, if_pos (show (2 : Nat) = 2 from rfl), if_neg (show ¬ ¬ nI (rwk 2) = nI 19 from fun z => z rfl), b_290_95, rC64 Fg, grd_e, Option.bind_some]
              refine wr_176 (R := f_290 k') Fg ?_
              rw [F_291, b_291_0, rC64 Fg, grd_e, Option.bind_some]
              refine MOn.bindR (A := fun g => b_291_9 (f_290 k') (some 64) g) (B := fun g => b_291_7 (f_290 k') g) (ihR _ _ _ sx1 c3) (fun g => rfl) (fun g3 q2 Y e2 s2 => ?_)
              have pk := ihP q1 X1 c3.1.2.2.2 sx1
              rw [e2] at pk
              obtain ⟨_, _, ps⟩ := pk
              obtain ⟨_, _, y40⟩ := SX_lay (k := 2) (x := Y 902) (y := 0) (z := 0) sx1 ps
              obtain ⟨g4, d1, d2, d3⟩ := s_286 (k := 2) (a := Y 902) (b := 0) (c := 0) s2.1 (by omega) (by omega) (by have := ps.2.2.2; omega) (by omega) (by omega)
              have d1' : f_286 (some 64) (nI 1) (nI (Y 902)) (nI 0) (nI 0) g3 = some (nI (Y 900), g4) := d1
              obtain ⟨f1, f2, f3⟩ := n_root (x := nI (Y 900)) d3
              show MOn T sz lim N ne E (d + 1) (b_291_9 (f_290 k') (some 64) g3) g3 _
              rw [b_291_9, gI64 s2.1.1.1, Option.bind_some, s2.2, rC64 s2.1.1.1, grd_e, Option.bind_some, d1', Option.bind_some]
              dsimp only
              rw [pI64 d3.1.1, Option.bind_some, grd1, Option.bind_some]
              exact ⟨_, rfl, ⟨(d2.then f1).1, (d2.then f1).2.2⟩, ⟨f2, by rw [f3, lay902 (by omega)]⟩, (d2.then f1).2.1⟩
            · rw [ek, if_neg (show ¬ (3 : Nat) = 2 by omega), if_pos (show (3 : Nat) ≤ 5 by omega), if_pos (show ¬ nI (rwk 3) = nI 19 by decide), b_290_103, if_pos (show nI (rwk 3) = nI 10 from rfl), b_290_121, if_neg (show ¬ ¬ nI (rwk 3) = nI 10 from fun z => z rfl), b_290_129]
              exact leaf 3 4 ek.symm rfl
            · rw [ek, if_neg (show ¬ (4 : Nat) = 2 by omega), if_pos (show (4 : Nat) ≤ 5 by omega), if_pos (show ¬ nI (rwk 4) = nI 19 by decide), b_290_103, if_neg (show ¬ nI (rwk 4) = nI 10 by decide), b_290_109, if_pos (show nI (rwk 4) = nI 20 from rfl), b_290_121, if_pos (show ¬ nI (rwk 4) = nI 10 by decide), b_290_133, if_neg (show ¬ ¬ nI (rwk 4) = nI 20 from fun z => z rfl), b_290_139]
              exact leaf 4 5 ek.symm rfl
            · rw [ek, if_neg (show ¬ (5 : Nat) = 2 by omega), if_pos (show (5 : Nat) ≤ 5 by omega), if_pos (show ¬ nI (rwk 5) = nI 19 by decide), b_290_103, if_neg (show ¬ nI (rwk 5) = nI 10 by decide), b_290_109, if_neg (show ¬ nI (rwk 5) = nI 20 by decide), b_290_115, if_neg (show ¬ ¬ nI (rwk 5) = nI 21 from fun z => z rfl), b_290_121, if_pos (show ¬ nI (rwk 5) = nI 10 by decide), b_290_133, if_pos (show ¬ nI (rwk 5) = nI 20 by decide), b_290_143]
              exact leaf 5 6 ek.symm rfl
            · rw [ek, if_neg (show ¬ (6 : Nat) = 2 by omega), if_neg (show ¬ (6 : Nat) ≤ 5 by omega), if_pos (show (6 : Nat) = 6 from rfl), if_pos (show ¬ nI (rwk 6) = nI 19 by decide), b_290_103, if_neg (show ¬ nI (rwk 6) = nI 10 by decide), b_290_109, if_neg (show ¬ nI (rwk 6) = nI 20 by decide), b_290_115, if_pos (show ¬ nI (rwk 6) = nI 21 by decide), b_290_157, if_neg (show ¬ ¬ nI (rwk 6) = nI 22 from fun z => z rfl), b_290_163, rC64 Fg, grd_e, Option.bind_some]
              exact wr_176 (R := f_290 k') Fg (s_293 c3 n40)
            · have rr : rwk (kN T sz lim q) ≠ 19 ∧ rwk (kN T sz lim q) ≠ 10 ∧ rwk (kN T sz lim q) ≠ 20 ∧ rwk (kN T sz lim q) ≠ 21 ∧ rwk (kN T sz lim q) ≠ 22 ∧ rwk (kN T sz lim q) < 100 := (show ∀ k, k < 12 → 7 ≤ k → rwk k ≠ 19 ∧ rwk k ≠ 10 ∧ rwk k ≠ 20 ∧ rwk k ≠ 21 ∧ rwk k ≠ 22 ∧ rwk k < 100 by decide) _ (by omega) ek.1
              rw [if_neg (show ¬ kN T sz lim q = 2 by omega), if_neg (show ¬ kN T sz lim q ≤ 5 by omega), if_neg (show ¬ kN T sz lim q = 6 by omega), if_pos (nI_nn (by omega) (by omega) rr.1), b_290_103, if_neg (nI_nn (by omega) (by omega) rr.2.1), b_290_109, if_neg (nI_nn (by omega) (by omega) rr.2.2.1), b_290_115, if_pos (nI_nn (by omega) (by omega) rr.2.2.2.1), b_290_157, if_pos (nI_nn (by omega) (by omega) rr.2.2.2.2.1), b_290_170, rC64 Fg, grd_e, Option.bind_some]
              exact wr_176 (R := f_290 k') Fg (s_294 c3 n40 ek)
    show MOn T sz lim N ne E d (f_290 (k' + 1) (some 64) h) h _
    rw [f_290, F_290, b_290_0, rC64 hF, grd_e, Option.bind_some, s_194 hF s.1.2.2.1 (by omega), Option.bind_some, bnd_e]
    dsimp only
    rw [rC64 hF, grd_e, Option.bind_some, s_289 s.1, Option.bind_some, bnd_e]
    dsimp only
    by_cases k40 : tkK T sz lim q = 40
    · have := main _ _ rfl rfl (fun _ => k40)
      rw [bI_T k40] at this ⊢
      rw [if_pos nI10]
      exact this
    · by_cases cb : kN T sz lim q = 99
      · rw [bI_F k40, if_neg (fun z => z rfl), b_290_16, if_pos cb, if_neg (fun z => z rfl), b_290_21, un, if_pos ⟨cb, k40⟩]
        exact n_err s.1 (Or.inr rfl)
      · have := main _ _ rfl rfl (fun z => absurd z cb)
        have r99 : rwk (kN T sz lim q) < 100 := (show ∀ k, k < 12 → rwk k < 100 by decide) _ (by omega)
        rw [bI_F k40] at this ⊢
        rw [if_neg (fun z => z rfl), b_290_16]
        rw [if_neg cb] at this ⊢
        rw [if_pos (nI_m1 (by omega))]
        exact this
end SENO
