/-! the class reads a sentence: ones -/
section SEND
variable {T : Nat → Nat} {sz lim : Nat} {N : Nat → Nat} {ne a : Nat}
theorem crB' {h0 : Hp} {b : Nat} {o : Option (Int32 × Hp)} {st : RsT} {S1 S2 : Hp → Nat → (Nat → Nat) → Prop} {n2 : Nat → (Nat → Nat) → RsT} {f : Nat → (Nat → Nat) → RsT} {A B : Hp → Option (Int32 × Hp)} (h1 : CR h0 b o st S1 okR) (hB : ∀ g, B g = some (nI 0, g)) (hA : ∀ g q X, st = .ok (q, X) → S1 g q X → CR h0 b (A g) (f q X) S2 n2) : CR h0 b (o.bind fun p => if p.1 = 0 then B p.2 else A p.2) (bindR st f) S2 n2 := by
  have := CR.bindR (f := f) h1 hB hA
  simp only [ifsw] at this ⊢
  exact this
theorem s_108 {h : Hp} {q : Nat} (hC : CT h T sz lim q) : f_108 (some 31) h = some (if isW T sz lim q 23 = true then nI 7 else if isW T sz lim q 24 = true then nI 8 else if isW T sz lim q 25 = true then nI 9 else if isW T sz lim q 4 = true then nI 10 else if isW T sz lim q 5 = true then nI 11 else -1, h) := by
  have w : ∀ k, k < 26 → f_120 (some 31) (some k) h = some (bI (isW T sz lim q k), h) := fun k hk => s_120 hC.1 hC.2.2.1 hC.2.2.2 hk
  rw [f_108, b_108_0, rC31 hC.1, grd_e, Option.bind_some, w 23 (by omega), Option.bind_some]
  dsimp only
  cases isW T sz lim q 23
  · rw [if_pos (show bI false = 0 from rfl), if_neg (by decide), b_108_13, rC31 hC.1, grd_e, Option.bind_some, w 24 (by omega), Option.bind_some]
    dsimp only
    cases isW T sz lim q 24
    · rw [if_pos (show bI false = 0 from rfl), if_neg (by decide), b_108_26, rC31 hC.1, grd_e, Option.bind_some, w 25 (by omega), Option.bind_some]
      dsimp only
      cases isW T sz lim q 25
      · rw [if_pos (show bI false = 0 from rfl), if_neg (by decide), b_108_39, rC31 hC.1, grd_e, Option.bind_some, w 4 (by omega), Option.bind_some]
        dsimp only
        cases isW T sz lim q 4
        · rw [if_pos (show bI false = 0 from rfl), if_neg (by decide), b_108_52, rC31 hC.1, grd_e, Option.bind_some, w 5 (by omega), Option.bind_some]
          dsimp only
          cases isW T sz lim q 5 <;> rfl
        · rfl
      · rfl
    · rfl
  · rfl
theorem s_107 {h : Hp} {q : Nat} (hC : CT h T sz lim q) : f_107 (some 31) h = some (if kN T sz lim q = 99 then -1 else nI (kN T sz lim q), h) := by
  have w : ∀ k, k < 26 → f_120 (some 31) (some k) h = some (bI (isW T sz lim q k), h) := fun k hk => s_120 hC.1 hC.2.2.1 hC.2.2.2 hk
  unfold kN
  rw [f_107, b_107_0, rC31 hC.1, grd_e, Option.bind_some, w 19 (by omega), Option.bind_some]
  dsimp only
  cases isW T sz lim q 19
  · rw [if_pos (show bI false = 0 from rfl), b_107_12, rC31 hC.1, grd_e, Option.bind_some, w 10 (by omega), Option.bind_some]
    dsimp only
    cases isW T sz lim q 10
    · rw [if_pos (show bI false = 0 from rfl), b_107_24, rC31 hC.1, grd_e, Option.bind_some, w 20 (by omega), Option.bind_some]
      dsimp only
      cases isW T sz lim q 20
      · rw [if_pos (show bI false = 0 from rfl), b_107_36, rC31 hC.1, grd_e, Option.bind_some, w 21 (by omega), Option.bind_some]
        dsimp only
        cases isW T sz lim q 21
        · rw [if_pos (show bI false = 0 from rfl), b_107_48, rC31 hC.1, grd_e, Option.bind_some, w 22 (by omega), Option.bind_some]
          dsimp only
          cases isW T sz lim q 22
          · rw [if_pos (show bI false = 0 from rfl), b_107_63, s_108 hC, Option.bind_some, b_107_67]
            cases isW T sz lim q 23 <;> cases isW T sz lim q 24 <;> cases isW T sz lim q 25 <;> cases isW T sz lim q 4 <;> cases isW T sz lim q 5 <;> rfl
          · rfl
        · rfl
      · rfl
    · rfl
  · rfl
theorem s_105 {h0 h : Hp} {b q k : Nat} {X : Nat → Nat} (s : SNs T sz lim N ne a h0 b h q X) (hn : X 900 < 40) (hk : 7 ≤ k ∧ k ≤ 11) : CR h0 b (f_105 (some b) (some 31) (nI k) h) (cmP T sz lim q X k) (SNs T sz lim N ne a h0 b) okR := by
  have bb := s.2.1.2.2.1
  have kl := tkK_le (T := T) (sz := sz) (lim := lim) (p := q)
  have e60 := (kcl_e (x := 60) kl).2.2.2.2.1 (by omega)
  have e61 := (kcl_e (x := 61) kl).2.2.2.2.1 (by omega)
  have e62 := (kcl_e (x := 62) kl).2.2.2.2
  rw [f_105, b_105_0, gI31 s.1.1, Option.bind_some, s.1.2.2.1.1]
  unfold cmP
  have main : tkK T sz lim q = 60 ∨ tkK T sz lim q = 61 ∨ tkK T sz lim q = 62 → CR h0 b (b_105_29 (some b) (some 31) (nI k) (nI (kcl (tkK T sz lim q))) h) (if tkK T sz lim (tkN T sz lim q) = 3 then .ok (tkN T sz lim (tkN T sz lim q), layX X k 0 (tkV T sz lim (tkN T sz lim q)) (tkK T sz lim q)) else erA T sz lim 1 (tkN T sz lim q)) (SNs T sz lim N ne a h0 b) okR := by
    intro cs
    have ek : kcl (tkK T sz lim q) = tkK T sz lim q := by
      have := (kcl_e (x := tkK T sz lim q) kl).2.2.2.2.1 (by omega)
      exact this.2 rfl
    rw [ek]
    obtain ⟨g, a1, a2⟩ := sn_step s
    have kl2 := tkK_le (T := T) (sz := sz) (lim := lim) (p := tkN T sz lim q)
    have kc2 := kcl_e (x := 40) kl2
    generalize tkK T sz lim q = sg at *
    generalize tkN T sz lim q = q1 at *
    rw [b_105_29, rC31 s.1.1, grd_e, Option.bind_some, a1, Option.bind_some, gI31 a2.1.1, Option.bind_some, a2.1.2.2.1.1]
    by_cases c3 : tkK T sz lim q1 = 3
    · have v4 : hI g 31 4 = nI (tkV T sz lim q1) := a2.1.2.2.1.2.2.2.2 c3
      rw [if_pos (by rw [c3]; rfl), if_pos c3, b_105_47, gI31 a2.1.1, Option.bind_some, v4, rC31 a2.1.1, grd_e, Option.bind_some]
      obtain ⟨g2, b1, b2⟩ := sn_step a2
      obtain ⟨g3, c1, c2⟩ := s_106 (k := k) (av := sg) (bv := tkV T sz lim q1) (x := 0) (y := tkV T sz lim q1) b2 hn (by rw [if_neg (by omega), if_pos (by omega)])
      refine ⟨g3, true, ?_, fun z => (by cases z), fun _ => ⟨_, _, rfl, c2⟩⟩
      rw [b1, Option.bind_some, rC_e b2.2.2.1.1.1 (by omega), grd_e, Option.bind_some, c1, Option.bind_some]
      rfl
    · rw [if_neg (fun z => c3 (kc2.2.2.1.1 ((nI_eq (by omega) (by omega)).1 z))), if_neg c3, b_105_41]
      exact sn_err a2
  by_cases c0 : tkK T sz lim q = 60
  · rw [if_pos (Or.inl c0)]
    have := main (Or.inl c0)
    rw [if_pos (by rw [e60.2 c0])]
    exact this
  · rw [if_neg (fun z => c0 (e60.1 ((nI_eq (by omega) (by omega)).1 z))), b_105_11]
    by_cases c1 : tkK T sz lim q = 61
    · rw [if_pos (Or.inr (Or.inl c1)), if_pos (by rw [e61.2 c1])]
      exact main (Or.inr (Or.inl c1))
    · rw [if_neg (fun z => c1 (e61.1 ((nI_eq (by omega) (by omega)).1 z))), b_105_17]
      by_cases c2 : tkK T sz lim q = 62
      · rw [if_pos (Or.inr (Or.inr c2)), if_pos (by rw [(e62.1 (by omega)).2 c2])]
        exact main (Or.inr (Or.inr c2))
      · rw [if_neg (fun z => c2 ((e62.1 (by omega)).1 ((nI_eq (by omega) (by omega)).1 z))), if_neg (by omega), b_105_23]
        exact sn_err s
theorem s_104 {h0 : Hp} {b : Nat} : ∀ n k d, n ≤ k → d ≤ 8 → 9 ≤ d + n → RC T sz lim N ne a h0 b (fun h => f_104 k (some b) (some 31) (some a) (nI (d + 1)) h) (onP T sz lim N ne n d) := by
  intro n
  induction n with
  | zero => intro k d _ h8 h9; omega
  | succ n ih =>
    intro k d hk h8 h9 q X h hX s
    obtain ⟨k', rfl⟩ : ∃ k', k = k' + 1 := ⟨k - 1, by omega⟩
    have bb := s.2.1.2.2.1
    have x1 := hX.1
    have x2 := hX.2
    have kn := kN_le (T := T) (sz := sz) (lim := lim) q
    have kl := tkK_le (T := T) (sz := sz) (lim := lim) (p := q)
    have kc := kcl_e (x := 40) kl
    have kc40 := kc.2.2.2.2.1 (by omega)
    have un : onP T sz lim N ne (n + 1) d q X = if kN T sz lim q = 99 ∧ tkK T sz lim q ≠ 40 then erA T sz lim 1 q
      else if X 901 = 20 then erA T sz lim 4 q
      else if d = 8 then erA T sz lim 4 q
      else if tkK T sz lim q = 40 then bindR (orP T sz lim (onP T sz lim N ne n (d + 1)) (tkN T sz lim q) (upX X 901 (X 901 + 1))) (fun q2 Y => if tkK T sz lim q2 = 41 then .ok (tkN T sz lim q2, Y) else erA T sz lim 1 q2)
      else if kN T sz lim q = 2 then bindR (onP T sz lim N ne n (d + 1) (tkN T sz lim q) (upX X 901 (X 901 + 1))) (fun q2 Y => .ok (q2, layX Y 2 (Y 902) 0 0))
      else if kN T sz lim q ≤ 5 then .ok (tkN T sz lim q, layX (upX X 901 (X 901 + 1)) (kN T sz lim q) 0 0 0)
      else if kN T sz lim q = 6 then btP T sz lim N ne (tkN T sz lim q) (upX X 901 (X 901 + 1))
      else cmP T sz lim (tkN T sz lim q) (upX X 901 (X 901 + 1)) (kN T sz lim q) := rfl
    have main : ∀ v4 : Int32, v4 = (if kN T sz lim q = 99 then -1 else nI (kN T sz lim q)) → (kN T sz lim q = 99 → tkK T sz lim q = 40) → (kN T sz lim q ≠ 99 → tkK T sz lim q ≠ 40) → CR h0 b (b_104_27 (f_104 k') (some b) (some 31) (some a) (nI (d + 1)) v4 h) (onP T sz lim N ne (n + 1) d q X) (SNs T sz lim N ne a h0 b) okR := by
      intro v4 hv hb1 hb2
      rw [un, if_neg (fun z => z.2 (hb1 z.1)), b_104_27, gI_e s.2.2.1.1.1, Option.bind_some, s.2.2.1.2.1.2]
      by_cases c20 : X 901 = 20
      · rw [if_pos (by rw [c20]), if_pos c20, b_104_42]
        exact sn_err s
      · rw [if_neg (nI_nn (by omega) (by omega) c20), if_neg c20, b_104_36]
        by_cases c8 : d = 8
        · rw [if_neg (by rw [nI_leI (by omega) (by omega)]; omega), if_pos c8, b_104_42]
          exact sn_err s
        · rw [if_pos (by rw [nI_leI (by omega) (by omega)]; omega), if_neg c8, b_104_48, gI_e s.2.2.1.1.1, Option.bind_some, s.2.2.1.2.1.2, nI_add, pI_e s.2.2.1.1.1 (by omega), Option.bind_some]
          have S1 : SNs T sz lim N ne a h0 b (sI h b 4 (nI (X 901 + 1))) q (upX X 901 (X 901 + 1)) := by
            obtain ⟨s1, s2, ⟨u1, ⟨u2, u3⟩, u4⟩, s4⟩ := s
            refine ⟨s1.wsI (by omega), s2.wsI (by omega), ⟨u1, ⟨?_, ?_⟩, fun i hi => ?_⟩, s4⟩
            · rw [hI_sI, if_neg (by omega), upX_n (by omega)]; exact u2
            · rw [hI_sI, upX_i]; exact if_pos ⟨rfl, rfl⟩
            · rw [upX_n (by omega)] at hi
              unfold cbX
              rw [hI_sI, hI_sI, hI_sI, if_neg (by omega), if_neg (by omega), if_neg (by omega), upX_n (by omega), upX_n (by omega), upX_n (by omega), upX_n (by omega)]
              exact u4 i hi
          have sx1 : SX (upX X 901 (X 901 + 1)) := ⟨by rw [upX_i]; omega, by rw [upX_i, upX_n (by omega)]; omega⟩
          have n40 : upX X 901 (X 901 + 1) 900 < 40 := by rw [upX_n (by omega)]; omega
          have ihR := ih k' (d + 1) (by omega) (by omega) (by omega)
          have ihP := onP_P (T := T) (sz := sz) (lim := lim) (N := N) (ne := ne) n (d + 1)
          generalize sI h b 4 (nI (X 901 + 1)) = g1 at *
          generalize hX1 : upX X 901 (X 901 + 1) = X1 at *
          obtain ⟨g, a1, a2⟩ := sn_step S1
          rw [rC31 S1.1.1, grd_e, Option.bind_some, a1, Option.bind_some, hv]
          generalize hq1 : tkN T sz lim q = q1 at *
          have e94 : ∀ g, b_104_93 (f_104 k') g = some (nI 0, g) := fun g => rfl
          have e127 : ∀ g, b_104_127 (f_104 k') g = some (nI 0, g) := fun g => rfl
          by_cases cb : kN T sz lim q = 99
          · have k40 := hb1 cb
            rw [if_pos cb, if_neg (fun z => z rfl), if_pos k40, b_104_68, rC_e a2.2.2.1.1.1 (by omega), grd_e, Option.bind_some, nI_add]
            refine crB' (A := fun g => b_104_80 (f_104 k') (some 31) g) (B := fun g => b_104_93 (f_104 k') g) (s_102 ihR ihP _ _ _ sx1 a2) e94 (fun g2 q2 Y e2 s2 => ?_)
            obtain ⟨g3, b1, b2, b3, b4⟩ := s_123 (c := 41) s2.1 (by omega)
            show CR h0 b (b_104_80 (f_104 k') (some 31) g2) _ _ _
            rw [b_104_80, rC31 s2.1.1, grd_e, Option.bind_some, b1, Option.bind_some]
            dsimp only
            by_cases c41 : tkK T sz lim q2 = 41
            · rw [bI_T c41, if_neg nI10, if_pos c41, b_104_89, b_104_94, grd1, Option.bind_some]
              exact ⟨g3, true, rfl, fun z => (by cases z), fun _ => ⟨_, _, rfl, s2.fz (b3 c41).1 (b3 c41).2 (by decide) (by decide)⟩⟩
            · rw [bI_F c41, if_pos (show nI 0 = 0 from rfl), if_neg c41, b_104_93, b_104_94, grd0, Option.bind_some]
              obtain ⟨f1, f2, f3, f4, f5, f6⟩ := s2.2.1
              exact ⟨g3, false, rfl, fun _ => ⟨_, _, rfl, b2.fix s2.1.1 (by decide), f1.then (b2.fa.wid (by decide)), ⟨by rw [b2.C, b2.N]; exact f5, by rw [b2.N]; omega, by rw [b2.S]; omega⟩, (b4 c41).1, (b4 c41).2⟩, fun z => (by cases z)⟩
          · rw [if_neg cb, if_pos (nI_m1 (by omega)), if_neg (hb2 cb), b_104_95]
            by_cases ck2 : kN T sz lim q = 2
            · rw [if_neg (fun z => z (by rw [ck2])), if_pos ck2, b_104_101, rC_e a2.2.2.1.1.1 (by omega), grd_e, Option.bind_some, nI_add]
              refine crB' (A := fun g => b_104_113 (f_104 k') (some b) g) (B := fun g => b_104_127 (f_104 k') g) (ihR _ _ _ sx1 a2) e127 (fun g2 q2 Y e2 s2 => ?_)
              have pk := ihP q1 X1 a2.1.2.2.2 sx1
              rw [e2] at pk
              obtain ⟨_, _, ps⟩ := pk
              obtain ⟨_, _, y40⟩ := SX_lay (k := 2) (x := Y 902) (y := 0) (z := 0) sx1 ps
              obtain ⟨g3, c1, c2⟩ := s_106 (k := 2) (av := 0) (bv := 0) (x := Y 902) (y := 0) s2 y40 rfl
              show CR h0 b (b_104_113 (f_104 k') (some b) g2) _ _ _
              rw [b_104_113, rC_e s2.2.2.1.1.1 (by omega), grd_e, Option.bind_some, c1, Option.bind_some]
              dsimp only
              rw [if_neg nI10, b_104_123, b_104_128, grd1, Option.bind_some]
              exact ⟨g3, true, rfl, fun z => (by cases z), fun _ => ⟨_, _, rfl, c2⟩⟩
            · rw [if_pos (nI_nn (by omega) (by omega) ck2), if_neg ck2, b_104_129]
              by_cases ck6 : kN T sz lim q = 6
              · rw [if_neg (fun z => z (by rw [ck6])), if_neg (by omega), if_pos ck6, b_104_136]
                have nm := a2.nm
                have n10 := nm.2.2.1
                obtain ⟨g2, b1, b2, b3⟩ := s_125 a2.1 a2.2.2.2.2.1.1 nm
                rw [rC31 a2.1.1, grd_e, Option.bind_some, b1, Option.bind_some, bnd_e]
                dsimp only
                unfold btP
                by_cases cc : isNm T sz lim q1 = true ∧ fdD N ne (nV T sz lim q1) < ne
                · have eg := b2 cc
                  subst eg
                  rw [if_pos cc, if_pos (nI_m1 (by omega)), if_neg (show ¬ isNm T sz lim q1 = false by rw [cc.1]; decide), if_neg (show ¬ ne ≤ fdD N ne (nV T sz lim q1) by omega), b_104_151, rC31 a2.1.1, grd_e, Option.bind_some]
                  obtain ⟨g3, c1, c2⟩ := sn_step a2
                  obtain ⟨g4, d1, d2⟩ := s_106 (k := 6) (av := 0) (bv := fdD N ne (nV T sz lim q1)) (x := fdD N ne (nV T sz lim q1)) (y := 0) c2 n40 rfl
                  refine ⟨g4, true, ?_, fun z => (by cases z), fun _ => ⟨_, _, rfl, d2⟩⟩
                  rw [c1, Option.bind_some, rC_e c2.2.2.1.1.1 (by omega), grd_e, Option.bind_some, d1, Option.bind_some]
                  rfl
                · obtain ⟨d1, d2, d3⟩ := b3 cc
                  rw [if_neg cc, if_neg (fun z => z rfl), b_104_149]
                  refine ⟨g2, false, by rw [grd0, Option.bind_some]; rfl, fun _ => ⟨_, _, ?_, a2.2.1.er (by omega) (by omega) (d1.fix a2.1.1 (by decide)) d1 d2 d3⟩, fun z => (by cases z)⟩
                  cases hn : isNm T sz lim q1
                  · rw [if_pos rfl, if_neg (by decide)]; rfl
                  · rw [if_neg (by decide), if_pos (by have : ¬ fdD N ne (nV T sz lim q1) < ne := fun z => cc ⟨hn, z⟩; omega), if_pos rfl]; rfl
              · rw [if_pos (nI_nn (by omega) (by omega) ck6), b_104_165]
                by_cases ck5 : kN T sz lim q ≤ 5
                · rw [if_neg (by rw [nI_leI (by omega) (by omega)]; omega), if_pos ck5, b_104_172, rC_e a2.2.2.1.1.1 (by omega), grd_e, Option.bind_some]
                  obtain ⟨g3, c1, c2⟩ := s_106 (k := kN T sz lim q) (av := 0) (bv := 0) (x := 0) (y := 0) a2 n40 (by rw [if_neg ck6, if_neg (by omega)])
                  refine ⟨g3, true, ?_, fun z => (by cases z), fun _ => ⟨_, _, rfl, c2⟩⟩
                  rw [c1, Option.bind_some]
                  dsimp only
                  rw [b_104_190, grd1, Option.bind_some]
                  rfl
                · rw [if_pos (by rw [nI_leI (by omega) (by omega)]; omega), if_neg ck5, if_neg ck6, b_104_183, rC_e a2.2.2.1.1.1 (by omega), grd_e, Option.bind_some]
                  obtain ⟨g3, w, c1, c2, c3⟩ := s_105 (k := kN T sz lim q) a2 n40 (by omega)
                  refine ⟨g3, w, ?_, c2, c3⟩
                  rw [c1, Option.bind_some]
                  dsimp only
                  rw [b_104_190, grdB, Option.bind_some]
    show CR h0 b (f_104 (k' + 1) (some b) (some 31) (some a) (nI (d + 1)) h) _ _ _
    rw [f_104, F_104, b_104_0, s_107 s.1, Option.bind_some, bnd_e]
    dsimp only
    by_cases cb : kN T sz lim q = 99
    · rw [if_pos cb, if_neg (show ¬ ¬ (-1 : Int32) = -1 from fun z => z rfl), b_104_12, gI31 s.1.1, Option.bind_some, s.1.2.2.1.1]
      by_cases k40 : tkK T sz lim q = 40
      · rw [if_pos (by rw [kc40.2 k40])]
        exact main _ (by rw [if_pos cb]) (fun _ => k40) (fun z => absurd cb z)
      · rw [if_neg (fun z => k40 (kc40.1 ((nI_eq (by omega) (by omega)).1 z))), un, if_pos ⟨cb, k40⟩, b_104_21]
        exact sn_err s
    · rw [if_neg cb, if_pos (nI_m1 (by omega))]
      refine main _ (by rw [if_neg cb]) (fun z => absurd z cb) (fun _ k40 => cb ?_)
      have nw : ∀ k, isW T sz lim q k = false := fun k => by
        unfold isW
        rw [decide_eq_false (by omega), Bool.false_and]
      unfold kN
      rw [nw, nw, nw, nw, nw, nw, nw, nw, nw, nw]
      rfl
end SEND
