/-! image, restore -/
section IMAGE
variable {τ : Nat → Nat} {h g k : Hp} {E N : Nat → Nat} {x y w : Int32} {W Z : List Nat}
theorem KpC.fv {i : Nat} (n : KpC τ h i E N) (z : Fw τ Z W h g) (ag : Ag τ h g) (b : Ba τ h) (e6 : hQ g 56 i = hQ h 56 i) (e7 : hQ g 57 i = hQ h 57 i) (e8 : hQ g 58 i = hQ h 58 i) (hw : 6 + 3 * i ∉ W ∧ 7 + 3 * i ∉ W ∧ 8 + 3 * i ∉ W) : KpC τ g i E N := by
  obtain ⟨p, ph, pa, q, ⟨⟨s1, s2, s3, s4, s5, s6, s7, s8⟩, t1, t2, t3, t4⟩, ⟨u1, u2, u3⟩, nm, pl, sy⟩ := n
  have m : ∀ a, 6 ≤ τ a → 98 ≤ a ∧ a < hN h := fun a ha => ⟨b.2.2.2.1 a (by omega), b.2.1 a (by omega)⟩
  obtain ⟨p1, p2⟩ := m p (by omega)
  obtain ⟨h1, h2⟩ := m ph (by omega)
  obtain ⟨a1, a2⟩ := m pa (by omega)
  have P := z.pl p1 p2 (by rw [u1]; exact hw.1)
  have PH := z.pl h1 h2 (by rw [u2]; exact hw.2.1)
  have PA := z.pl a1 a2 (by rw [u3]; exact hw.2.2)
  have r2 : rq g p 2 = rq h p 2 := by unfold rq; rw [P.2.2]
  exact ⟨p, ph, pa, by rw [e6]; exact q, ⟨⟨by rw [z.K p2]; exact s1, by rw [P.2.2]; exact s2, by rw [P.2.2]; exact s3, by rw [z.K h2]; exact s4, by rw [z.L h2]; exact s5, by rw [z.K a2]; exact s6, by rw [z.L a2]; exact s7, s8⟩, by rw [r2, P.2.2]; exact t1, by rw [r2]; exact t2.ag ag, fun d hd => by rw [PH.1, PA.1]; exact t3 d hd, by rw [P.1]; exact t4⟩, ⟨u1, u2, u3⟩, by rw [r2]; exact nm.ag ag, by rw [e7]; exact pl.ag ag, by rw [e8]; exact sy.ag ag⟩
theorem KpM.fv {i : Nat} (n : KpM h i E N) (hW : WF E) (e3 : hI g 73 i = hI h 73 i) (e9 : ∀ j, 704 * i ≤ j → j < 704 * i + 704 → hI g 69 j = hI h 69 j) (e2 : ∀ j, 10 * i ≤ j → j < 10 * i + 10 → hJ g 72 j = hJ h 72 j) : KpM g i E N := by
  obtain ⟨m1, m2, m3, m4⟩ := n
  have w2 := hW.2.2.1
  exact ⟨by rw [e3]; exact m1, fun j hj => by rw [e9 _ (by omega) (by omega)]; exact m2 j hj, m3, fun d hd => by rw [e2 _ (by omega) (by omega)]; exact m4 d hd⟩
theorem KpC.shp {i : Nat} (n : KpC τ h i E N) (b : Ba τ h) : ∃ p ph pa, hQ h 56 i = some p ∧ Shp h p ph pa ∧ (τ p = 6 + 3 * i ∧ τ ph = 7 + 3 * i ∧ τ pa = 8 + 3 * i) := by
  obtain ⟨p, ph, pa, q, ⟨⟨s1, s2, s3, s4, s5, s6, s7, s8⟩, _⟩, ⟨u1, u2, u3⟩, _⟩ := n
  have m : ∀ a, 6 ≤ τ a → 98 ≤ a ∧ a < hN h := fun a ha => ⟨b.2.2.2.1 a (by omega), b.2.1 a (by omega)⟩
  have p1 := m p (by omega)
  have h1 := m ph (by omega)
  have a1 := m pa (by omega)
  refine ⟨p, ph, pa, q, ⟨⟨s1, s2, s3, s4, s5, s6, s7⟩, ⟨p1.1, h1.1, a1.1, fun e => ?_, fun e => ?_, fun e => ?_⟩, p1.2, h1.2, a1.2⟩, u1, u2, u3⟩
  · rw [e] at u1; omega
  · rw [e] at u1; omega
  · rw [e] at u2; omega
theorem f169n (hb : imB x = false) : f_169 (some 30) x h = some (nI 0, h) := by
  have e2 : (nI 2).toInt = 2 := by decide
  rw [f_169, b_169_0]
  by_cases c : x.toInt < 0
  · rw [if_pos (by rw [fa_lt, toI_0]; exact c), b_169_9, grd0, Option.bind_some]
  · have c2 : ¬ x.toInt < 2 := fun z => by have := of_decide_eq_false hb; omega
    rw [if_neg (by rw [fa_lt, toI_0]; exact c), b_169_4, if_neg (by rw [fa_lt, e2]; exact c2), b_169_9, grd0, Option.bind_some]
theorem f170n (hF : Fix h) (hb : imB x = false ∨ hQ h 56 x.toInt.toNat = none) : f_170 (some 30) x h = some (nI 0, h) := by
  have e2 : (nI 2).toInt = 2 := by decide
  rw [f_170, b_170_0]
  by_cases c : x.toInt < 0
  · rw [if_pos (by rw [fa_lt, toI_0]; exact c), b_170_18, grd0, Option.bind_some]
  · rw [if_neg (by rw [fa_lt, toI_0]; exact c), b_170_4]
    by_cases c2 : 2 ≤ x.toInt
    · rw [if_pos (by rw [fa_le, e2]; exact c2), b_170_18, grd0, Option.bind_some]
    · rw [if_neg (by rw [fa_le, e2]; exact c2), b_170_9, gQ30_6 hF, Option.bind_some]
      rcases hb with q | q
      · exact absurd (of_decide_eq_false q) (fun z => z (by omega))
      · have ex := na_of (show 0 ≤ x.toInt by omega)
        have hx : x.toInt.toNat < 2 := by omega
        generalize x.toInt.toNat = d at *
        rw [ex, aQ_n (K56 hF) (by omega) (L56 hF) (by omega) (by omega), Option.bind_some, q, if_neg (fun z => z rfl), b_170_18, grd0, Option.bind_some]
theorem call_39 (G : Gd τ E N h) (hn : hN h ≤ 800000) : Call h (f_169 (some 30) x) (f_299 (some 64) x) := by
  have n98 := G.F.1
  have w2 := G.W.2.2.1
  cases hb : imB x
  · obtain ⟨k, b, z2, b1, b2, b3, _⟩ := s_299 (x := x) G.F G.B
    obtain ⟨b4, b5, b6⟩ := b3 hb
    have F2 := z2.fix G.F (by decide)
    have fw : Fw τ Zi [] h k := z2.fw (by decide) (by omega)
    obtain ⟨ba, ag, p1, p2, p3, p4, p5, p6, p7, p8, p9, p10, p11, p12⟩ := G.all fw F2 (by rw [z2.N]; omega) (by decide)
    rw [hb] at b
    have im : Dim τ k := fun i hi => by
      rcases G.im i hi with ⟨c1, c2⟩ | ⟨E1, N1, kc, km, ve⟩
      · exact Or.inl ⟨by rw [z2.Q]; exact c1, by rw [b6]; exact c2⟩
      · exact Or.inr ⟨E1, N1, kc.fv fw ag G.1.1 (by rw [z2.Q]) (by rw [z2.Q]) (by rw [z2.Q]) ⟨List.not_mem_nil, List.not_mem_nil, List.not_mem_nil⟩, km.fv ve.1 (by rw [b6]) (fun j _ _ => by rw [b4]) (fun j _ _ => by rw [b5]), ve⟩
    exact ⟨_, h, k, τ, E, N, f169n hb, b, G.F, ⟨rfl, rfl⟩, ⟨⟨ba, G.1.2⟩, p1 (by decide), G.2.2.1.now fw b1 b2 rfl (by decide), p2 (by decide), p3 (by decide), p4 (by decide), p5 (by decide), p6 (by decide), p7 (by decide), p8 (by decide), im, p10 (by decide), p11 (by decide), p12 (by decide)⟩, fw.st n98 (by decide) z2.cost⟩
  · have hx := of_decide_eq_true hb
    have ex := na_of hx.1
    have hk : x.toInt.toNat < 2 := by omega
    generalize hx0 : x.toInt.toNat = i at *
    obtain ⟨nC, nM⟩ := G.2.1.2.2.1, G.2.1.2.2.2
    have pl := G.2.1.2.2.1
    have sy := G.2.1.2.2.2
    have hs : hQ h 56 i = none ∨ ∃ p ph pa, hQ h 56 i = some p ∧ Shp h p ph pa ∧ τ p ≠ 1 ∧ τ ph ≠ 1 ∧ τ pa ≠ 1 := by
      rcases G.im i hk with ⟨c1, _⟩ | ⟨E1, N1, kc, _⟩
      · exact Or.inl c1
      · obtain ⟨p, ph, pa, q, s, u1, u2, u3⟩ := kc.shp G.1.1
        exact Or.inr ⟨p, ph, pa, q, s, by omega, by omega, by omega⟩
    obtain ⟨g, p, ph, pa, a, z1, F1, n1, q56, sc, r2, q57, q58, oth, pp', nw⟩ := s_169 (k := i) hk G.F G.tg G.tn (by omega) G.S G.W hs (by
      rcases pl with ⟨q, _⟩ | ⟨q, e, d⟩
      · exact Or.inl q
      · exact Or.inr ⟨q, e, d.1, d.2.1, G.tn q d.2.2.1⟩) (by
      rcases sy with ⟨q, _⟩ | ⟨q, e, _, d, Y, t, s, _⟩
      · exact Or.inl q
      · exact Or.inr ⟨q, e, s.1.1, d, G.tn q t.1⟩)
    have tg : (τ p = 0 ∧ hN h ≤ p ∨ τ p = 6 + 3 * i) ∧ (τ ph = 0 ∧ hN h ≤ ph ∨ τ ph = 7 + 3 * i) ∧ (τ pa = 0 ∧ hN h ≤ pa ∨ τ pa = 8 + 3 * i) ∧ p ≠ ph ∧ p ≠ pa ∧ ph ≠ pa := by
      rcases nw with ⟨c1, c2, _⟩ | ⟨_, c1, c2, c3, _⟩
      · rcases G.im i hk with ⟨d1, _⟩ | ⟨E1, N1, kc, _⟩
        · rw [d1] at c1; cases c1
        · obtain ⟨p', ph', pa', q', s', u1, u2, u3⟩ := kc.shp G.1.1
          rw [q'] at c1
          cases c1
          have v1 := c2.1.2.1
          have v2 := c2.1.2.2.1
          rw [s'.1.2.1] at v1
          rw [s'.1.2.2.1] at v2
          cases v1
          cases v2
          have := s'.2.1
          exact ⟨Or.inr u1, Or.inr u2, Or.inr u3, by omega, by omega, by omega⟩
      · exact ⟨Or.inl ⟨G.1.1.z0 (by omega), by omega⟩, Or.inl ⟨G.1.1.z0 (by omega), by omega⟩, Or.inl ⟨G.1.1.z0 (by omega), by omega⟩, by omega, by omega, by omega⟩
    obtain ⟨t1, t2, t3, e1, e2, e3⟩ := tg
    have f1 : Fw τ [56, 57, 58] [6 + 3 * i, 7 + 3 * i, 8 + 3 * i] h g := Fa.fw z1 G.1.1.n1 n98 (fun z hz => ⟨hz, (by decide : ∀ z, z ∈ [56, 57, 58] → z % 1000000 < 98) z hz⟩) (fun q hq => by
      simp only [List.mem_cons, List.not_mem_nil, or_false] at hq
      refine ⟨by omega, Or.inr ⟨by omega, ?_⟩⟩
      simp only [List.mem_cons, List.not_mem_nil, or_false]
      rcases hq with rfl | rfl | rfl <;> omega)
    obtain ⟨k, b, z2, b1, b2, _, b3⟩ := s_299 (x := x) F1 (G.bf f1 (by decide))
    obtain ⟨b4, b5, b6, b7, b8, b9⟩ := b3 hb
    rw [hx0] at b4 b5 b6 b7 b8 b9
    have F2 := z2.fix F1 (by decide)
    have f2 : Fw τ Zi [6 + 3 * i, 7 + 3 * i, 8 + 3 * i] g k := z2.fw (by decide) (by omega)
    have fw : Fw τ ([56, 57, 58] ++ Zi) [6 + 3 * i, 7 + 3 * i, 8 + 3 * i] h k := (f1.wid (by decide) (fun _ q => q)).then (f2.wid (by decide) (fun _ q => q)) n98
    have w1 : 1 ∉ [6 + 3 * i, 7 + 3 * i, 8 + 3 * i] := by simp only [List.mem_cons, List.not_mem_nil, or_false]; omega
    have w4 : 4 ∉ [6 + 3 * i, 7 + 3 * i, 8 + 3 * i] := by simp only [List.mem_cons, List.not_mem_nil, or_false]; omega
    obtain ⟨ba, ag, p1, p2, p3, p4, p5, p6, p7, p8, p9, p10, p11, p12⟩ := G.all fw F2 (by rw [z2.N]; omega) ⟨by decide, w1⟩
    have m1 := upn_m (τ := τ) (p0 := p) (v := 6 + 3 * i) (by rcases t1 with u | u; exact Or.inl u.1; exact Or.inr u)
    have m2 : ∀ q, upn τ p (6 + 3 * i) q ≠ 0 → upn (upn τ p (6 + 3 * i)) ph (7 + 3 * i) q = upn τ p (6 + 3 * i) q := upn_m (by rw [upn_n (Ne.symm e1)]; rcases t2 with u | u; exact Or.inl u.1; exact Or.inr u)
    have m3 : ∀ q, upn (upn τ p (6 + 3 * i)) ph (7 + 3 * i) q ≠ 0 → upn (upn (upn τ p (6 + 3 * i)) ph (7 + 3 * i)) pa (8 + 3 * i) q = upn (upn τ p (6 + 3 * i)) ph (7 + 3 * i) q := upn_m (by rw [upn_n (Ne.symm e3), upn_n (Ne.symm e2)]; rcases t3 with u | u; exact Or.inl u.1; exact Or.inr u)
    have mm := m_t (m_t m1 m2) m3
    have kN : hN k = hN g := z2.N
    have bs := ((ba.up (p0 := p) (v := 6 + 3 * i) (by omega) (by omega)).up (p0 := ph) (v := 7 + 3 * i) (by omega) (by omega)).up (p0 := pa) (v := 8 + 3 * i) (by omega) (by omega)
    have ag2 : Ag τ g k := z2.ag G.tg (by decide)
    have lo : ∀ q, 98 ≤ q → q < 1000000 → hI k q = hI g q := fun q hq hq2 => z2.I (fun y hy => by have := (by decide : ∀ z, z ∈ Zi → z % 1000000 < 98) y hy; omega) hq2
    have rk : rq k p 2 = rq h 33 2 := by rw [show rq k p 2 = rq g p 2 by unfold rq; rw [z2.Q]]; exact r2
    have kc : KpC (upn (upn (upn τ p (6 + 3 * i)) ph (7 + 3 * i)) pa (8 + 3 * i)) k i E N := by
      obtain ⟨⟨s1, s2, s3, s4, s5, s6, s7, s8⟩, y1, y2, y3, y4⟩ := sc
      refine ⟨p, ph, pa, by rw [z2.Q]; exact q56, ⟨⟨by rw [z2.K]; exact s1, by rw [z2.Q]; exact s2, by rw [z2.Q]; exact s3, by rw [z2.K]; exact s4, by rw [z2.L]; exact s5, by rw [z2.K]; exact s6, by rw [z2.L]; exact s7, s8⟩, ?_, ?_, fun d hd => ?_, ?_⟩, ⟨?_, ?_, ?_⟩, ?_, ?_, ?_⟩
      · rw [show rq k p 2 = rq g p 2 by unfold rq; rw [z2.Q], z2.Q]; exact y1
      · rw [show rq k p 2 = rq g p 2 by unfold rq; rw [z2.Q]]; exact (y2.ag ag2).mt (m_1 mm)
      · rw [lo ph (by omega) (by omega), lo pa (by omega) (by omega)]; exact y3 d hd
      · rw [lo p (by omega) (by omega)]; exact y4
      · rw [upn_n e2, upn_n e1, upn_e]
      · rw [upn_n e3, upn_e]
      · exact upn_e _ _
      · rw [rk]; exact (G.2.1.2.1.ag ag).mt (m_1 mm)
      · rw [z2.Q, q57]; exact (pl.ag ag).mt (m_1 mm)
      · rw [z2.Q, q58]; exact (sy.ag ag).mt (m_1 mm)
    have km : KpM k i E N := ⟨b8, b4, b1.2.2.2, fun d hd => by rw [b6 d (by omega), f1.J (a := 70) (by decide)]; exact G.2.2.1.2.1 d hd⟩
    have im : Dim (upn (upn (upn τ p (6 + 3 * i)) ph (7 + 3 * i)) pa (8 + 3 * i)) k := fun j hj => by
      by_cases c : j = i
      · subst c; exact Or.inr ⟨E, N, kc, km, G.1.2⟩
      · obtain ⟨o1, o2, o3⟩ := oth j c
        rcases G.im j hj with ⟨c1, c2⟩ | ⟨E1, N1, kc1, km1, ve1⟩
        · exact Or.inl ⟨by rw [z2.Q, o1]; exact c1, by rw [b9 j c, f1.I (a := 73) (by decide)]; exact c2⟩
        · refine Or.inr ⟨E1, N1, (kc1.fv fw ag G.1.1 (by rw [z2.Q]; exact o1) (by rw [z2.Q]; exact o2) (by rw [z2.Q]; exact o3) ?_).mt mm, km1.fv ve1.1 (by rw [b9 j c, f1.I (a := 73) (by decide)]) (fun q h1 h2 => by rw [b5 q (by omega), f1.I (a := 69) (by decide)]) (fun q h1 h2 => by rw [b7 q (by omega), f1.J (a := 72) (by decide)]), ve1⟩
          simp only [List.mem_cons, List.not_mem_nil, or_false]
          omega
    have okw : okWy ([56, 57, 58] ++ Zi) [6 + 3 * i, 7 + 3 * i, 8 + 3 * i] := ⟨by decide, by decide, by decide, by decide, w4⟩
    rw [hb] at b
    have a' : f_169 (some 30) x h = some (bI true, g) := by rw [ex]; exact a
    exact ⟨_, g, k, _, E, N, a', b, F1, ⟨f1.I (by decide), f1.L (by omega)⟩, ⟨⟨bs, G.1.2⟩, (p1 (by decide)).mt mm, G.2.2.1.now fw b1 b2 rfl (by decide), p2 (by decide), p3 (by decide), p4 (by decide), p5 (by decide), p6 (by decide), (p7 okw).mt mm, p8 (by decide), im, (p10 (by decide)).mt mm, (p11 (by decide)).mt mm, (p12 (by decide)).mt mm⟩, fw.st n98 (by decide) (by rw [z2.N, z2.C, z2.S]; omega)⟩
theorem call_40 (G : Gd τ E N h) (hn : hN h ≤ 800000) : Call h (f_170 (some 30) x) (f_300 (some 64) x) := by
  have n98 := G.F.1
  have h01 : ∀ i, i < 2 → hI h 73 i = 0 ∨ hI h 73 i = 1 := fun i hi => by
    rcases G.im i hi with c | ⟨_, _, _, c, _⟩
    · exact Or.inl c.2
    · exact Or.inr c.1
  by_cases hb : (imB x && decide (hI h 73 x.toInt.toNat = 1)) = true
  · rw [Bool.and_eq_true] at hb
    have hx := of_decide_eq_true hb.1
    have e73 : hI h 73 x.toInt.toNat = 1 := of_decide_eq_true hb.2
    have ex := na_of hx.1
    have hk : x.toInt.toNat < 2 := by omega
    rcases G.im _ hk with ⟨_, c⟩ | ⟨E1, N1, kc, ⟨m1, m2, m3, m4⟩, ve⟩
    · rw [c] at e73; exact absurd e73 (by decide)
    · have w2 := ve.1.2.2.1
      obtain ⟨p, ph, pa, q56, sc, ⟨u1, u2, u3⟩, nm, pl, sy⟩ := kc
      have m : ∀ a, 6 ≤ τ a → 98 ≤ a := fun a ha => G.1.1.2.2.2.1 a (by omega)
      obtain ⟨g, a, z1, F1, ⟨n1, n2, n3⟩, R, q11, q12, r2⟩ := s_170 hk G.F G.tg G.tn q56 sc ⟨m p (by omega), m ph (by omega), m pa (by omega)⟩ w2
      have f1 : Fw τ [3000033, 4000033, 34, 35, 12000030, 13000030] [] h g := G.fl z1 (by decide)
      obtain ⟨k, b, z2, b2, _, b3⟩ := s_300 (x := x) F1 (G.bf f1 (by decide)) (fun i hi => by rw [f1.I (a := 73) (by decide)]; exact h01 i hi)
      have hb2 : (imB x && decide (hI g 73 x.toInt.toNat = 1)) = true := by rw [f1.I (a := 73) (by decide), hb.1, decide_eq_true e73]; rfl
      obtain ⟨b4, b5⟩ := b3 hb2
      have F2 := z2.fix F1 (by decide)
      have f2 : Fw τ Zo [] g k := z2.fw (by decide) (by omega)
      have fw : Fw τ ([3000033, 4000033, 34, 35, 12000030, 13000030] ++ Zo) [] h k := (f1.wid (by decide) (by decide)).then (f2.wid (by decide) (by decide)) n98
      obtain ⟨ba, ag, p1, p2, p3, p4, p5, p6, p7, p8, p9, p10, p11, p12⟩ := G.all fw F2 (by rw [z2.N]; omega) (by decide)
      have hE : NowE k E1 := NowE.of (fun j hj => by rw [b4 j hj, f1.I (a := 69) (by decide)]; exact m2 j hj) m3
      have rk : rq k 33 2 = rq h p 2 := by rw [show rq k 33 2 = rq g 33 2 by unfold rq; rw [z2.Q]]; exact r2
      have nc : NwC τ k E1 N1 := ⟨R.z2 z2 G.tg (by decide), by rw [rk]; exact nm.ag ag, by rw [z2.Q, q11]; exact pl.ag ag, by rw [z2.Q, q12]; exact sy.ag ag⟩
      have nmm : NwM k E1 N1 := ⟨Or.inl ⟨b2, hE⟩, fun d hd => by rw [b5 d (by omega), f1.J (a := 72) (by decide)]; exact m4 d hd, fun i hi => by rw [fw.I (a := 96) (by decide)]; exact G.2.2.1.2.2 i hi⟩
      rw [hb2] at b
      have a' : f_170 (some 30) x h = some (bI true, g) := by rw [ex]; exact a
      exact ⟨_, g, k, τ, E1, N1, a', b, F1, ⟨f1.I (by decide), f1.L (by omega)⟩, ⟨⟨ba, ve⟩, nc, nmm, p2 (by decide), p3 (by decide), p4 (by decide), p5 (by decide), p6 (by decide), p7 (by decide), p8 (by decide), p9 (by decide), p10 (by decide), p11 (by decide), p12 (by decide)⟩, fw.st n98 (by decide) (by rw [z2.N, z2.C, z2.S]; omega)⟩
  · have hb' : (imB x && decide (hI h 73 x.toInt.toNat = 1)) = false := by cases hq : (imB x && decide (hI h 73 x.toInt.toNat = 1)); rfl; exact absurd hq hb
    obtain ⟨k, b, z2, b2, b3, _⟩ := s_300 (x := x) G.F G.B h01
    obtain ⟨b1, b5⟩ := b3 hb'
    have F2 := z2.fix G.F (by decide)
    have fw : Fw τ Zo [] h k := z2.fw (by decide) (by omega)
    obtain ⟨ba, ag, p1, p2, p3, p4, p5, p6, p7, p8, p9, p10, p11, p12⟩ := G.all fw F2 (by rw [z2.N]; omega) (by decide)
    have a := f170n (x := x) G.F (by
      cases hi : imB x
      · exact Or.inl rfl
      · rw [hi, Bool.true_and] at hb'
        have hx := of_decide_eq_true hi
        rcases G.im x.toInt.toNat (by omega) with c | ⟨_, _, _, c, _⟩
        · exact Or.inr c.1
        · exact absurd c.1 (of_decide_eq_false hb'))
    rw [hb'] at b
    exact ⟨_, h, k, τ, E, N, a, b, G.F, ⟨rfl, rfl⟩, ⟨⟨ba, G.1.2⟩, p1 (by decide), ⟨Or.inl ⟨b2, b1⟩, by rw [b5]; exact G.2.2.1.2.1, fun i hi => by rw [fw.I (a := 96) (by decide)]; exact G.2.2.1.2.2 i hi⟩, p2 (by decide), p3 (by decide), p4 (by decide), p5 (by decide), p6 (by decide), p7 (by decide), p8 (by decide), p9 (by decide), p10 (by decide), p11 (by decide), p12 (by decide)⟩, fw.st n98 (by decide) z2.cost⟩
end IMAGE
