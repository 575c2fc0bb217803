/-! joiner, way, reach, stride: calls that make rows -/
section ROWS
variable {τ : Nat → Nat} {h g k : Hp} {E N : Nat → Nat} {x y w : Int32}
theorem Ba.z0 (b : Ba τ h) {p : Nat} (hp : hN h ≤ p) : τ p = 0 := by
  by_cases c : τ p = 0
  · exact c
  · have := b.2.1 p c; omega
theorem PKP.zz {Z : List Nat} {pk : Nat} (p : PKP g pk) (z : Fz Z g k) : PKP k pk := ⟨by rw [z.Q]; exact p.1, by rw [z.K]; exact p.2.1, by rw [z.L]; exact p.2.2.1, p.2.2.2.1, by rw [z.N]; exact p.2.2.2.2⟩
theorem PR.zz {Z : List Nat} {po pq : Nat} (p : PR g po pq) (z : Fz Z g k) : PR k po pq := by
  obtain ⟨p0, p1, p2, p3, p4, p5, p6, p7⟩ := p
  exact ⟨by rw [z.N]; exact p0, by rw [z.Q]; exact p1, by rw [z.Q]; exact p2, by rw [z.K]; exact p3, by rw [z.L]; exact p4, by rw [z.K]; exact p5, by rw [z.L]; exact p6, p7⟩
abbrev Zj : List Nat := [1000064, 23000064, 66, 27000064, 74, 75, 76, 77, 78, 79, 80, 33000064, 84, 85, 86, 43000064]
abbrev Zt : List Nat := [2000039, 3000039, 40, 41, 6000039, 8000039, 45, 46, 47, 14000039, 15000039, 42, 44, 10000039, 16000039]
theorem call_20 (G : Gd τ E N h) (hn : hN h ≤ 800000) : Call h (f_150 (some 30)) (f_249 (some 64)) := by
  have n98 := G.F.1
  have w2 := G.W.2.2.1
  obtain ⟨pk, hr, pl, pt⟩ : ∃ pk, (hQ h 39 15 = none ∨ PKP h pk ∧ τ pk ≠ 1) ∧ (98 ≤ pk ∧ pk < 1000000) ∧ ((τ pk = 0 ∧ hN h ≤ pk) ∨ τ pk = 5) := by
    rcases G.rp with z | ⟨pk, z1, z2⟩
    · exact ⟨hN h, Or.inl z, by omega, Or.inl ⟨G.1.1.z0 (Nat.le_refl _), Nat.le_refl _⟩⟩
    · exact ⟨pk, Or.inr ⟨z1, by omega⟩, by have := z1.2.2.2; omega, Or.inr z2⟩
  have rl := kr_C G.W (dHg E)
  rcases s_150 (pk := pk) G.F G.tg G.tn (by omega) G.S G.W G.H hr with ⟨s0, g, a, z1, F1, hk, n1, n2, n3⟩ | ⟨b, g, pk', Wq, S, o, z, s0, a, q1, q2, q3, q4, q5, z1, F1, hk, pp', pe, pt', n1, n2, n3⟩
  · have rn : solW E (dHg E) (wM true E) = none := by
      rcases rl with ⟨_, r⟩ | ⟨c, m, a, r, _⟩
      · exact r
      · rw [s0] at r; cases r
    obtain ⟨k, z2, b1, b2, b3⟩ := s_249 F1 (G.bg z1 (by decide)) G.W
    rcases b3 with ⟨_, bb, b4, b5⟩ | ⟨b', W', S', o', z', r, _⟩
    · have F2 := z2.fix F1 (by decide)
      have f1 : Fw τ Zl [] h g := G.fl z1 (by decide)
      have f2 : Fw τ Zj [] g k := z2.fw (by decide) (by omega)
      have fw : Fw τ (Zl ++ Zj) [] h k := (f1.wid (by decide) (by decide)).then (f2.wid (by decide) (by decide)) n98
      obtain ⟨ba, ag, p1, p2, p3, p4, p5, p6, p7, p8, p9, p10, p11, p12⟩ := G.all fw F2 (by rw [z2.N]; omega) (by decide)
      have bg : Ba τ g := f1.ba G.1.1 F1 (by omega)
      have od : Dor k := by
        obtain ⟨z, o, ⟨c1, c2⟩, ⟨c3, c4⟩, z10⟩ := G.od
        exact ⟨z, o, ⟨by rw [z2.I (by decide), f1.I1 (by decide) (by decide)]; exact c1, by rw [z2.I (a := 44) (by decide), f1.I (a := 44) (by decide)]; exact c2⟩, ⟨by rw [b4, f1.I (by decide)]; exact c3, by rw [b5, f1.I (a := 86) (by decide)]; exact c4⟩, z10⟩
      exact ⟨_, g, k, τ, E, N, a, bb, F1, ⟨f1.I (by decide), f1.L (by omega)⟩, ⟨⟨ba, G.1.2⟩, p1 (by decide), G.2.2.1.now fw b1 b2 rfl (by decide), p2 (by decide), p3 (by decide), p4 (by decide), p5 (by decide), od, p7 (by decide), p8 (by decide), p9 (by decide), (hk.I G.W).fw f2 (f2.ag bg (by decide) (by decide)) (by decide), p11 (by decide), p12 (by decide)⟩, fw.st n98 (by decide) (by rw [z2.N, z2.C, z2.S]; omega)⟩
    · rw [rn] at r; cases r
  · have f1 : Fw τ Zt [5] h g := Fa.fw z1 G.1.1.n1 n98 (fun z hz => ⟨hz, (by decide : ∀ z, z ∈ Zt → z % 1000000 < 98) z hz⟩) (fun p hp => by
      simp only [List.mem_cons, List.not_mem_nil, or_false] at hp
      subst hp
      refine ⟨pl.2, Or.inr ⟨pl.1, ?_⟩⟩
      rcases pt with q | q
      · exact Or.inl q.2
      · exact Or.inr (by rw [q]; decide))
    obtain ⟨k, z2, b1, b2, b3⟩ := s_249 F1 (G.bf f1 (by decide)) G.W
    rcases rl with ⟨r, _⟩ | ⟨c, m, aa, r1, r2, _⟩
    · rw [s0] at r; cases r
    · rw [s0] at r1
      cases r1
      rcases b3 with ⟨r, _⟩ | ⟨b', W', S', o', z', r, bb, q1', q2', q3', q4', q5'⟩
      · rw [r2] at r; cases r
      · rw [r2] at r
        cases r
        dsimp only at q1 q2 q3 q1' q2' q3'
        have hv : ∀ x, sbs x (chM E aa) → Wq x = W' x := fun x hx => PKq.u q1 q1' (chM E aa - x + 1) x (by omega) hx
        have hw0 : Wq 0 = W' 0 := hv 0 (by unfold sbs; simp)
        obtain ⟨ez, eo⟩ := ORp.u q2 q3 q2' q3' hv
        have zl := q2.le
        have F2 := z2.fix F1 (by decide)
        have f2 : Fw τ Zj [5] g k := z2.fw (by decide) (by omega)
        have fw : Fw τ (Zt ++ Zj) [5] h k := (f1.wid (by decide) (by decide)).then (f2.wid (by decide) (by decide)) n98
        obtain ⟨ba, ag, p1, p2, p3, p4, p5, p6, p7, p8, p9, p10, p11, p12⟩ := G.all fw F2 (by rw [z2.N]; omega) (by decide)
        have bg : Ba τ g := f1.ba G.1.1 F1 (by omega)
        have pk2 := pp'.zz z2
        have mm : ∀ q, τ q ≠ 0 → upn τ pk' 5 q = τ q := upn_m (by
          rcases pe with e | e
          · subst e
            rcases pt with q | q
            · exact Or.inl q.1
            · exact Or.inr q
          · exact Or.inl (G.1.1.z0 e))
        have od : Dor k := ⟨z, o, ⟨by rw [z2.I (by decide)]; exact q4, by rw [z2.I (a := 44) (by decide)]; exact q5⟩, ⟨by rw [q4', ez], fun j hj => by rw [q5' j (by omega), eo j hj]⟩, by omega⟩
        rw [← hw0] at bb
        exact ⟨_, g, k, upn τ pk' 5, E, N, a, bb, F1, ⟨f1.I (by decide), f1.L (by omega)⟩, ⟨⟨ba.up pk2.2.2.2.1 pk2.2.2.2.2, G.1.2⟩, (p1 (by decide)).mt mm, G.2.2.1.now fw b1 b2 rfl (by decide), p2 (by decide), p3 (by decide), p4 (by decide), p5 (by decide), od, (p7 (by decide)).mt mm, p8 (by decide), (p9 (by decide)).mt mm, ((hk.I G.W).fw f2 (f2.ag bg (by decide) (by decide)) (by decide)).mt mm, (p11 (by decide)).mt mm, Or.inr ⟨pk', pk2, upn_e _ _⟩⟩, fw.st n98 (by decide) (by rw [z2.N, z2.C, z2.S]; omega)⟩
theorem Gd.row (G : Gd τ E N h) (hn : hN h ≤ 800000) : ∃ po pq, (hQ h 51 3 = none ∨ PR h po pq ∧ τ po ≠ 1 ∧ τ pq ≠ 1) ∧ (98 ≤ po ∧ 98 ≤ pq ∧ po < 1000000 ∧ pq < 1000000) ∧ ((τ po = 0 ∧ hN h ≤ po) ∨ τ po = 2) ∧ ((τ pq = 0 ∧ hN h ≤ pq) ∨ τ pq = 3) := by
  have n98 := G.F.1
  rcases G.rs with z | ⟨po, pq, z, t1, t2⟩
  · exact ⟨hN h, hN h, Or.inl z, by omega, Or.inl ⟨G.1.1.z0 (Nat.le_refl _), Nat.le_refl _⟩, Or.inl ⟨G.1.1.z0 (Nat.le_refl _), Nat.le_refl _⟩⟩
  · obtain ⟨p0, p1, p2, p3, p4, p5, p6, p7, p8, p9, p10, p11⟩ := id z
    exact ⟨po, pq, Or.inr ⟨z, by omega, by omega⟩, by omega, Or.inr t1, Or.inr t2⟩
abbrev Zs2 : List Nat := [4000051, 5000051, 6000051, 3000053, 4000053, 54, 55]
/-- rows made, nothing else -/
theorem Gd.rw2 {r : Int32} {A B : Hp → Option (Int32 × Hp)} {Z2 : List Nat} {po pq po' pq' : Nat} (G : Gd τ E N h) (hn : hN h ≤ 800000) (hp : 98 ≤ po ∧ 98 ≤ pq ∧ po < 1000000 ∧ pq < 1000000) (t1 : (τ po = 0 ∧ hN h ≤ po) ∨ τ po = 2) (t2 : (τ pq = 0 ∧ hN h ≤ pq) ∨ τ pq = 3) (a : A h = some (r, g)) (z1 : Fa (Zs2 ++ [po, pq]) h g) (F1 : Fix g) (P : PR g po' pq') (n1 : hN g ≤ hN h + 3 ∧ hC g ≤ hC h + 3 ∧ hS g ≤ hS h + 72900) (e : (po' = po ∧ pq' = pq) ∨ (hN h ≤ po' ∧ hN h ≤ pq'))
    (bb : ∀ f, Fw τ Zs2 [2, 3] h g → f = g → ∃ k, B f = some (r, k) ∧ Fz Z2 g k ∧ NowE k E ∧ hI k 64 22 = 1)
    (c2 : ∀ z, z ∈ Z2 → 64 ≤ z % 1000000 ∧ z % 1000000 < 98) (c : (∀ z, z ∈ Z2 → z % 1000000 ≠ 70) ∧ (∀ z, z ∈ Z2 → z % 1000000 ≠ 96)) (c3 : okNw (Zs2 ++ Z2) ∧ okTx (Zs2 ++ Z2) ∧ okFk (Zs2 ++ Z2) ∧ okMn (Zs2 ++ Z2) ∧ okFo (Zs2 ++ Z2) ∧ okOr (Zs2 ++ Z2) ∧ okWy (Zs2 ++ Z2) [2, 3] ∧ okJu (Zs2 ++ Z2) ∧ okIm (Zs2 ++ Z2) [2, 3] ∧ okHg (Zs2 ++ Z2) ∧ okPk (Zs2 ++ Z2)) : Call h A B := by
  have n98 := G.F.1
  have f1 : Fw τ Zs2 [2, 3] h g := Fa.fw z1 G.1.1.n1 n98 (fun z hz => ⟨hz, (by decide : ∀ z, z ∈ Zs2 → z % 1000000 < 98) z hz⟩) (fun p hp' => by
    simp only [List.mem_cons, List.not_mem_nil, or_false] at hp'
    rcases hp' with rfl | rfl
    · refine ⟨hp.2.2.1, Or.inr ⟨hp.1, ?_⟩⟩
      rcases t1 with q | q
      · exact Or.inl q.2
      · exact Or.inr (by rw [q]; decide)
    · refine ⟨hp.2.2.2, Or.inr ⟨hp.2.1, ?_⟩⟩
      rcases t2 with q | q
      · exact Or.inl q.2
      · exact Or.inr (by rw [q]; decide))
  obtain ⟨k, b, z2, b1, b2⟩ := bb g f1 rfl
  have F2 : Fix k := z2.fix F1 (fun y hy => by have := c2 y hy; omega)
  have f2 : Fw τ Z2 [2, 3] g k := z2.fw (fun y hy => (c2 y hy).2) (by omega)
  have fw : Fw τ (Zs2 ++ Z2) [2, 3] h k := (f1.wid (fun z hz => Or.inl (List.mem_append.2 (Or.inl hz))) (fun _ q => q)).then (f2.wid (fun z hz => Or.inl (List.mem_append.2 (Or.inr hz))) (fun _ q => q)) n98
  have c12 : ∀ z, z ∈ Zs2 ++ Z2 → 30 ≤ z % 1000000 ∧ (z % 1000000 < 60 ∨ 64 ≤ z % 1000000) ∧ (z % 1000000 < 60 ∨ z ∈ Z2) := fun z hz => by
    rcases List.mem_append.1 hz with q | q
    · have := (by decide : ∀ z, z ∈ Zs2 → 30 ≤ z % 1000000 ∧ z % 1000000 < 60) z q; omega
    · have := c2 z q; exact ⟨by omega, by omega, Or.inr q⟩
  obtain ⟨e1, e2, e3, e4, e5, e6, e7, e8, e9, e10, e12⟩ := c3
  obtain ⟨ba, ag, p1, p2, p3, p4, p5, p6, p7, p8, p9, p10, p11, p12⟩ := G.all fw F2 (by rw [z2.N]; omega) ⟨fun z hz => (c12 z hz).2.1, by decide⟩
  have P2 := P.zz z2
  have ne : po' ≠ pq' := P.2.2.2.2.2.2.2.2.2.1
  have s1 : τ po' = 0 ∨ τ po' = 2 := by
    rcases e with ⟨q, _⟩ | ⟨q, _⟩
    · subst q; rcases t1 with u | u; exact Or.inl u.1; exact Or.inr u
    · exact Or.inl (G.1.1.z0 q)
  have s2 : τ pq' = 0 ∨ τ pq' = 3 := by
    rcases e with ⟨_, q⟩ | ⟨_, q⟩
    · subst q; rcases t2 with u | u; exact Or.inl u.1; exact Or.inr u
    · exact Or.inl (G.1.1.z0 q)
  have m1 := upn_m (v := 2) s1
  have m2 : ∀ q, upn τ po' 2 q ≠ 0 → upn (upn τ po' 2) pq' 3 q = upn τ po' 2 q := upn_m (v := 3) (by rw [upn_n (Ne.symm ne)]; exact s2)
  have mm := m_t m1 m2
  have l1 := P2.1
  have l2 : 98 ≤ po' ∧ 98 ≤ pq' := by obtain ⟨_, _, _, _, _, _, _, q1, q2, _⟩ := P2; exact ⟨q1, q2⟩
  refine ⟨r, g, k, upn (upn τ po' 2) pq' 3, E, N, a, b, F1, ⟨f1.I (by decide), f1.L (by omega)⟩, ⟨⟨(ba.up l2.1 l1.1).up l2.2 l1.2, G.1.2⟩, (p1 e1).mt mm, G.2.2.1.now fw b1 b2 rfl ⟨fun z hz => ?_, fun z hz => ?_⟩, p2 e2, p3 e3, p4 e4, p5 e5, p6 e6, (p7 e7).mt mm, p8 e8, (p9 e9).mt mm, (p10 e10).mt mm, Or.inr ⟨po', pq', P2, by rw [upn_n ne, upn_e], upn_e _ _⟩, (p12 e12).mt mm⟩, fw.st n98 (fun z hz => by have := c12 z hz; omega) (by rw [z2.N, z2.C, z2.S]; omega)⟩
  · rcases (c12 z hz).2.2 with q | q
    · omega
    · exact c.1 z q
  · rcases (c12 z hz).2.2 with q | q
    · omega
    · exact c.2 z q
theorem Gd.pw {po pq : Nat} (G : Gd τ E N h) (hp : 98 ≤ po ∧ 98 ≤ pq ∧ po < 1000000 ∧ pq < 1000000) (t1 : (τ po = 0 ∧ hN h ≤ po) ∨ τ po = 2) (t2 : (τ pq = 0 ∧ hN h ≤ pq) ∨ τ pq = 3) {pw : Nat} (q : pw = 52 ∨ τ pw = 4) : pw ≠ po ∧ pw ≠ pq := by
  constructor
  · intro e; subst e; omega
  · intro e; subst e; omega
theorem call_34 (G : Gd τ E N h) (hn : hN h ≤ 800000) : Call h (f_164 (some 30) x) (f_282 (some 64) x) := by
  obtain ⟨po, pq, hr, hp, t1, t2⟩ := G.row hn
  obtain ⟨w, q, ⟨q1, pw, ar, q3, q4, q5⟩, _⟩ := G.wy
  obtain ⟨g, a, gg⟩ := s_164 (x := x) G.F G.tg G.tn (by omega) hr hp G.S G.W G.V ar (G.pw hp t1 t2 q3)
  rcases gg with rfl | ⟨po', pq', z1, F1, P, n1, e⟩
  · obtain ⟨k, b, z2, b1, b2⟩ := s_282 (x := x) G.F G.B G.W G.V
    exact G.rz a b z2 b1 b2 (by decide) ⟨by decide, ⟨by decide, by decide, by decide, by decide, by decide, by decide, by decide, by decide, by decide, by decide, by decide⟩, by decide⟩
  · refine G.rw2 hn hp t1 t2 a z1 F1 P n1 e (fun f f1 ef => ?_) (by decide : ∀ z, z ∈ ZM ++ [95] → 64 ≤ z % 1000000 ∧ z % 1000000 < 98) (by decide) ⟨by decide, by decide, by decide, by decide, by decide, by decide, by decide, by decide, by decide, by decide, by decide⟩
    subst ef
    exact s_282 (x := x) F1 (G.bf f1 (by decide)) G.W G.V
theorem call_36 (G : Gd τ E N h) (hn : hN h ≤ 800000) : Call h (f_166 (some 30)) (f_285 (some 64)) := by
  obtain ⟨po, pq, hr, hp, t1, t2⟩ := G.row hn
  obtain ⟨g, a, gg⟩ := s_166 G.F G.tg G.tn (by omega) hr G.S G.W G.V
  rcases gg with rfl | ⟨po', pq', z1, F1, P, n1, e⟩
  · obtain ⟨k, b, z2, b1, b2⟩ := s_285 G.F G.B G.W G.V
    exact G.rz a b z2 b1 b2 (by decide) ⟨by decide, ⟨by decide, by decide, by decide, by decide, by decide, by decide, by decide, by decide, by decide, by decide, by decide⟩, by decide⟩
  · refine G.rw2 hn hp t1 t2 a z1 F1 P n1 e (fun f f1 ef => ?_) (by decide : ∀ z, z ∈ ZM → 64 ≤ z % 1000000 ∧ z % 1000000 < 98) (by decide) ⟨by decide, by decide, by decide, by decide, by decide, by decide, by decide, by decide, by decide, by decide, by decide⟩
    subst ef
    exact s_285 F1 (G.bf f1 (by decide)) G.W G.V
theorem call_31 (G : Gd τ E N h) (hn : hN h ≤ 800000) : Call h (f_161 (some 30) x y) (f_279 (some 64) x y) := by
  have n98 := G.F.1
  obtain ⟨po, pq, hr, hp, t1, t2⟩ := G.row hn
  obtain ⟨wn, q, ⟨q1, pw, ar, q3, q4, q5⟩, ⟨q6, q7⟩, q8⟩ := G.wy
  obtain ⟨g, a, a1, a2⟩ := s_161 (x := x) (y := y) G.F G.tg G.tn (by omega) hr hp G.S G.W G.V ar (G.pw hp t1 t2 q3)
  cases hb : wyB E x y
  · have e := a1 hb
    subst e
    obtain ⟨k, b, z2, b1, b2, b3, _⟩ := s_279 (x := x) (y := y) G.F G.B G.W G.V
    obtain ⟨b4, b5⟩ := b3 (Or.inl hb)
    have F2 := z2.fix G.F (by decide)
    have fw : Fw τ (ZM ++ [58000064, 94]) [] g k := z2.fw (by decide) (by omega)
    obtain ⟨ba, ag, p1, p2, p3, p4, p5, p6, p7, p8, p9, p10, p11, p12⟩ := G.all fw F2 (by rw [z2.N]; omega) (by decide)
    have wy : Dwy τ k := ⟨wn, q, ⟨by rw [z2.I (by decide)]; exact q1, pw, ⟨by rw [z2.Q]; exact ar.1, by rw [z2.K]; exact ar.2.1, ar.2.2.1, by rw [z2.N]; exact ar.2.2.2.1, by rw [z2.L]; exact ar.2.2.2.2⟩, q3, by rw [z2.L]; exact q4, fun t ht => by rw [z2.I (a := pw) (fun z hz => by have := (by decide : ∀ z, z ∈ ZM ++ [58000064, 94] → 64 ≤ z % 1000000 ∧ z % 1000000 < 98) z hz; have := ar.2.2.1; omega) (by have := ar.2.2.2.1; omega)]; exact q5 t ht⟩, ⟨by rw [b4]; exact q6, by rw [b5]; exact q7⟩, q8⟩
    exact ⟨_, g, k, τ, E, N, a, b, G.F, ⟨rfl, rfl⟩, ⟨⟨ba, G.1.2⟩, p1 (by decide), G.2.2.1.now fw b1 b2 rfl (by decide), p2 (by decide), p3 (by decide), p4 (by decide), p5 (by decide), p6 (by decide), wy, p8 (by decide), p9 (by decide), p10 (by decide), p11 (by decide), p12 (by decide)⟩, fw.st n98 (by decide) z2.cost⟩
  · obtain ⟨po', pq', z1, F1, P, n1, e, c0, c1⟩ := a2 hb
    have f1 : Fw τ (Zy ++ [52]) [2, 3, 4] h g := Fa.fw z1 G.1.1.n1 n98 (fun z hz => ⟨List.mem_append.2 (Or.inl hz), (by decide : ∀ z, z ∈ Zy → z % 1000000 < 98) z hz⟩) (fun p hp' => by
      simp only [List.mem_cons, List.not_mem_nil, or_false] at hp'
      rcases hp' with rfl | rfl | rfl
      · refine ⟨hp.2.2.1, Or.inr ⟨hp.1, ?_⟩⟩
        rcases t1 with u | u
        · exact Or.inl u.2
        · exact Or.inr (by rw [u]; decide)
      · refine ⟨hp.2.2.2, Or.inr ⟨hp.2.1, ?_⟩⟩
        rcases t2 with u | u
        · exact Or.inl u.2
        · exact Or.inr (by rw [u]; decide)
      · rcases q3 with u | u
        · subst u; exact ⟨by omega, Or.inl ⟨by decide, by omega⟩⟩
        · exact ⟨by have := ar.2.2.2.1; omega, Or.inr ⟨G.1.1.2.2.2.1 _ (by omega), Or.inr (by rw [u]; decide)⟩⟩)
    obtain ⟨k, b, z2, b1, b2, b3, b4⟩ := s_279 (x := x) (y := y) F1 (G.bf f1 (by decide)) G.W G.V
    have F2 := z2.fix F1 (by decide)
    have c2 : ∀ z, z ∈ ZM ++ [58000064, 94] → 64 ≤ z % 1000000 ∧ z % 1000000 < 98 := by decide
    have f2 : Fw τ (ZM ++ [58000064, 94]) [2, 3, 4] g k := z2.fw (by decide) (by omega)
    have fw : Fw τ ((Zy ++ [52]) ++ (ZM ++ [58000064, 94])) [2, 3, 4] h k := (f1.wid (by decide) (by decide)).then (f2.wid (by decide) (by decide)) n98
    obtain ⟨ba, ag, p1, p2, p3, p4, p5, p6, p7, p8, p9, p10, p11, p12⟩ := G.all fw F2 (by rw [z2.N]; omega) (by decide)
    have P2 := P.zz z2
    have ne : po' ≠ pq' := P.2.2.2.2.2.2.2.2.2.1
    have s1 : τ po' = 0 ∨ τ po' = 2 := by
      rcases e with ⟨u, _⟩ | ⟨u, _⟩
      · subst u; rcases t1 with u | u; exact Or.inl u.1; exact Or.inr u
      · exact Or.inl (G.1.1.z0 u)
    have s2 : τ pq' = 0 ∨ τ pq' = 3 := by
      rcases e with ⟨_, u⟩ | ⟨_, u⟩
      · subst u; rcases t2 with u | u; exact Or.inl u.1; exact Or.inr u
      · exact Or.inl (G.1.1.z0 u)
    have m1 := upn_m (v := 2) s1
    have m2 : ∀ q, upn τ po' 2 q ≠ 0 → upn (upn τ po' 2) pq' 3 q = upn τ po' 2 q := upn_m (v := 3) (by rw [upn_n (Ne.symm ne)]; exact s2)
    have mm := m_t m1 m2
    have l1 := P2.1
    have l2 : 98 ≤ po' ∧ 98 ≤ pq' := by obtain ⟨_, _, _, _, _, _, _, u1, u2, _⟩ := P2; exact ⟨u1, u2⟩
    have ba2 := (ba.up (v := 2) l2.1 l1.1).up (v := 3) l2.2 l1.2
    have fin : ∀ σ, Ba σ k → (∀ q, τ q ≠ 0 → σ q = τ q) → Dwy σ k → σ po' = 2 → σ pq' = 3 → Call h (f_161 (some 30) x y) (f_279 (some 64) x y) := fun σ bs ms wy h2 h3 =>
      ⟨_, g, k, σ, E, N, a, b, F1, ⟨f1.I (by decide), f1.L (by omega)⟩, ⟨⟨bs, G.1.2⟩, (p1 (by decide)).mt ms, G.2.2.1.now fw b1 b2 rfl (by decide), p2 (by decide), p3 (by decide), p4 (by decide), p5 (by decide), p6 (by decide), wy, p8 (by decide), (p9 (by decide)).mt ms, (p10 (by decide)).mt ms, Or.inr ⟨po', pq', P2, h2, h3⟩, (p12 (by decide)).mt ms⟩, fw.st n98 (by decide) (by rw [z2.N, z2.C, z2.S]; omega)⟩
    have art : ∀ p, AR g p → AR k p := fun p r => ⟨by rw [z2.Q]; exact r.1, by rw [z2.K]; exact r.2.1, r.2.2.1, by rw [z2.N]; exact r.2.2.2.1, by rw [z2.L]; exact r.2.2.2.2⟩
    have pI : ∀ p, AR g p → hI k p = hI g p := fun p r => z2.I (a := p) (fun z hz => by have := c2 z hz; have := r.2.2.1; omega) (by have := r.2.2.2.1; omega)
    by_cases c9 : wyN E (cN (x.toInt, y.toInt) + 1) = 0
    · obtain ⟨r1, r2, r3⟩ := c0 c9
      obtain ⟨b5, b6⟩ := b3 (Or.inr c9)
      have kl := z1.2.1 pw ar.2.2.2.1
      refine fin _ ba2 mm ⟨wn, q, ⟨by rw [z2.I (by decide), r3]; exact q1, pw, art pw r1, ?_, by rw [z2.L, kl.2]; exact q4, fun t ht => by rw [pI pw r1, r2]; exact q5 t ht⟩, ⟨by rw [b5, f1.I (by decide)]; exact q6, by rw [b6, f1.I (a := 94) (by decide)]; exact q7⟩, q8⟩ (by rw [upn_n ne, upn_e]) (upn_e _ _)
      rcases q3 with u | u
      · exact Or.inl u
      · exact Or.inr (by rw [mm pw (by omega)]; exact u)
    · obtain ⟨pw', r1, r2, r3, r4, r5, r6⟩ := c1 c9
      obtain ⟨b5, b6, b7⟩ := b4 hb c9
      have wy : ∀ σ, (pw' = 52 ∨ σ pw' = 4) → Dwy σ k := fun σ hs => ⟨_, _, ⟨by rw [z2.I (by decide)]; exact r4, pw', art pw' r1, hs, by rw [z2.L]; exact r5, fun t ht => by rw [pI pw' r1]; exact r6 t ht⟩, ⟨b6, b7⟩, by omega⟩
      rcases r1.2.2.1 with u | u
      · exact fin _ ba2 mm (wy _ (Or.inl u)) (by rw [upn_n ne, upn_e]) (upn_e _ _)
      · have s3 : τ pw' = 0 ∨ τ pw' = 4 := by
          rcases r2 with v | v
          · subst v
            rcases q3 with z | z
            · omega
            · exact Or.inr z
          · exact Or.inl (G.1.1.z0 v)
        have m3 : ∀ q, upn (upn τ po' 2) pq' 3 q ≠ 0 → upn (upn (upn τ po' 2) pq' 3) pw' 4 q = upn (upn τ po' 2) pq' 3 q := upn_m (v := 4) (by rw [upn_n r3.2, upn_n r3.1]; exact s3)
        exact fin _ (ba2.up u (by rw [z2.N]; exact r1.2.2.2.1)) (m_t mm m3) (wy _ (Or.inr (upn_e _ _))) (by rw [upn_n (Ne.symm r3.1), upn_n ne, upn_e]) (by rw [upn_n (Ne.symm r3.2), upn_e])
end ROWS
