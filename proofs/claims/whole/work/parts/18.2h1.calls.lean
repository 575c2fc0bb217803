/-! calls that change nothing -/
abbrev okRo (Z W : List Nat) : Prop := okNw Z ∧ okTx Z ∧ okFk Z ∧ okMn Z ∧ okFo Z ∧ okOr Z ∧ okWy Z W ∧ okJu Z ∧ okIm Z W ∧ okRw Z ∧ okPk Z
section CALLS
variable {τ : Nat → Nat} {h : Hp} {E N : Nat → Nat} {x y u v w : Int32}
theorem PlQ.r (hP : PlQ τ h (hQ h 30 11) E) : PlR τ h E := by
  rcases hP with a | ⟨p, a, b⟩
  · exact Or.inl a
  · exact Or.inr ⟨by rw [rqs a]; exact a, by rw [rqs a]; exact b⟩
theorem Gd.W (G : Gd τ E N h) : WF E := G.1.2.1
theorem Gd.V (G : Gd τ E N h) : VA E (anE E) (E 340) := G.1.2.2.1
theorem Gd.D (G : Gd τ E N h) : DW E := G.1.2.2.2
theorem Gd.F (G : Gd τ E N h) : Fix h := G.1.1.F
theorem Gd.S (G : Gd τ E N h) : ScR τ h 33 E (anE E) (E 340) := G.2.1.1
theorem Gd.B (G : Gd τ E N h) : Bg h E := G.2.2.1.1
theorem Gd.tg (G : Gd τ E N h) : TG τ := G.1.1.tg
theorem Gd.tn (G : Gd τ E N h) : ∀ p, τ p = 1 → p < hN h := G.1.1.tn
theorem Gd.H (G : Gd τ E N h) : HGI τ h := G.2.2.2.2.2.2.2.2.2.2.2.1
theorem Gd.r0 {k : Hp} {r : Int32} {A B : Hp → Option (Int32 × Hp)} (G : Gd τ E N h) (a : A h = some (r, h)) (b : B h = some (r, k)) (z : Fz [1000064] h k) : Call h A B := by
  have F0 := G.F
  have F2 : Fix k := z.fix F0 (by decide)
  have fw : Fw τ [1000064] [] h k := z.fw (by decide) (by have := G.1.1.n1; omega)
  obtain ⟨ba, ag, p1, p2, p3, p4, p5, p6, p7, p8, p9, p10, p11, p12⟩ := G.all fw F2 (by rw [z.N]; exact G.1.1.n1) (by decide)
  exact ⟨r, h, k, τ, E, N, a, b, F0, ⟨rfl, rfl⟩, ⟨⟨ba, G.1.2⟩, p1 (by decide), G.2.2.1.fw fw (by decide), p2 (by decide), p3 (by decide), p4 (by decide), p5 (by decide), p6 (by decide), p7 (by decide), p8 (by decide), p9 (by decide), p10 (by decide), p11 (by decide), p12 (by decide)⟩, fw.st F0.1 (by decide) z.cost⟩
theorem Gd.rz {k : Hp} {r : Int32} {A B : Hp → Option (Int32 × Hp)} {Z : List Nat} (G : Gd τ E N h) (a : A h = some (r, h)) (b : B h = some (r, k)) (z : Fz Z h k) (hE : NowE k E) (h22 : hI k 64 22 = 1)
    (c1 : ∀ z, z ∈ Z → 64 ≤ z % 1000000 ∧ z % 1000000 < 98) (c : ((∀ z, z ∈ Z → z % 1000000 ≠ 70) ∧ (∀ z, z ∈ Z → z % 1000000 ≠ 96)) ∧ okRo Z [] ∧ okHg Z) : Call h A B := by
  have F0 := G.F
  have F2 : Fix k := z.fix F0 (fun y hy => by have := c1 y hy; omega)
  have fw : Fw τ Z [] h k := z.fw (fun y hy => (c1 y hy).2) (by have := G.1.1.n1; omega)
  obtain ⟨d, ⟨e1, e2, e3, e4, e5, e6, e7, e8, e9, e11, e12⟩, e10⟩ := c
  obtain ⟨ba, ag, p1, p2, p3, p4, p5, p6, p7, p8, p9, p10, p11, p12⟩ := G.all fw F2 (by rw [z.N]; exact G.1.1.n1) ⟨fun y hy => by have := c1 y hy; omega, by decide⟩
  exact ⟨r, h, k, τ, E, N, a, b, F0, ⟨rfl, rfl⟩, ⟨⟨ba, G.1.2⟩, p1 e1, G.2.2.1.now fw hE h22 rfl d, p2 e2, p3 e3, p4 e4, p5 e5, p6 e6, p7 e7, p8 e8, p9 e9, p10 e10, p11 e11, p12 e12⟩, fw.st F0.1 (fun y hy => by have := c1 y hy; omega) z.cost⟩
/-- the class first, by a frame; then the reference, which lays its own anew -/
theorem Gd.rf {g k : Hp} {r : Int32} {A B : Hp → Option (Int32 × Hp)} {Z1 Z2 W : List Nat} (G : Gd τ E N h) (a : A h = some (r, g)) (b : B g = some (r, k)) (f1 : Fw τ Z1 W h g) (F1 : Fix g) (n1 : hN g ≤ hN h + 100 ∧ hC g ≤ hC h + 100 ∧ hS g ≤ hS h + 90000) (hn : hN h ≤ 800000) (z2 : Fz Z2 g k) (hE : NowE k E) (h22 : hI k 64 22 = 1)
    (hg : HGI τ g) (rs : DrS τ g) (rp : DrP τ g)
    (c1 : ∀ z, z ∈ Z1 → 30 ≤ z % 1000000 ∧ z % 1000000 < 60) (c2 : ∀ z, z ∈ Z2 → 64 ≤ z % 1000000 ∧ z % 1000000 < 98)
    (c : (1 ∉ W ∧ (∀ z, z ∈ Z2 → z % 1000000 ≠ 70) ∧ (∀ z, z ∈ Z2 → z % 1000000 ≠ 96)) ∧ (okNw (Z1 ++ Z2) ∧ okTx (Z1 ++ Z2) ∧ okFk (Z1 ++ Z2) ∧ okMn (Z1 ++ Z2) ∧ okFo (Z1 ++ Z2) ∧ okOr (Z1 ++ Z2) ∧ okWy (Z1 ++ Z2) W ∧ okJu (Z1 ++ Z2) ∧ okIm (Z1 ++ Z2) W) ∧ okHg Z2 ∧ okRw Z2 ∧ okPk Z2) : Call h A B := by
  have F0 := G.F
  have n98 := F0.1
  have F2 : Fix k := z2.fix F1 (fun y hy => by have := c2 y hy; omega)
  have f2 : Fw τ Z2 W g k := z2.fw (fun y hy => (c2 y hy).2) (by omega)
  have fw : Fw τ (Z1 ++ Z2) W h k := (f1.wid (fun z hz => Or.inl (List.mem_append.2 (Or.inl hz))) (fun _ q => q)).then (f2.wid (fun z hz => Or.inl (List.mem_append.2 (Or.inr hz))) (fun _ q => q)) n98
  have c12 : ∀ z, z ∈ Z1 ++ Z2 → 30 ≤ z % 1000000 ∧ (z % 1000000 < 60 ∨ 64 ≤ z % 1000000) ∧ (z % 1000000 < 60 ∨ z ∈ Z2) := fun z hz => by
    rcases List.mem_append.1 hz with q | q
    · have := c1 z q; omega
    · have := c2 z q; exact ⟨by omega, by omega, Or.inr q⟩
  obtain ⟨⟨d0, d1, d2⟩, ⟨e1, e2, e3, e4, e5, e6, e7, e8, e9⟩, e10, e11, e12⟩ := c
  have bg : Ba τ g := f1.ba G.1.1 F1 (by omega)
  have ag2 : Ag τ g k := f2.ag bg (fun y hy => by have := c2 y hy; omega) d0
  obtain ⟨ba, ag, p1, p2, p3, p4, p5, p6, p7, p8, p9, p10, p11, p12⟩ := G.all fw F2 (by rw [z2.N]; omega) ⟨fun z hz => (c12 z hz).2.1, d0⟩
  refine ⟨r, g, k, τ, E, N, a, b, F1, ⟨f1.I (fun z hz => by have := c1 z hz; omega), f1.L (by omega)⟩, ⟨⟨ba, G.1.2⟩, p1 e1, G.2.2.1.now fw hE h22 rfl ⟨fun z hz => ?_, fun z hz => ?_⟩, p2 e2, p3 e3, p4 e4, p5 e5, p6 e6, p7 e7, p8 e8, p9 e9, hg.fw f2 ag2 e10, rs.fw f2 e11, rp.fw f2 e12⟩, fw.st n98 (fun z hz => by have := c12 z hz; omega) (by rw [z2.N, z2.C, z2.S]; omega)⟩
  · rcases (c12 z hz).2.2 with q | q
    · omega
    · exact d1 z q
  · rcases (c12 z hz).2.2 with q | q
    · omega
    · exact d2 z q
theorem call_3 (G : Gd τ E N h) : Call h (f_133 (some 30)) (f_215 (some 64)) := by
  obtain ⟨b, z⟩ := s_215 G.F
  refine G.r0 (s_133 G.F) ?_ z
  rw [b, show hI h 64 10 = hI h 31 6 from (G.2.2.2.2.1).symm]
theorem call_26 (G : Gd τ E N h) : Call h (f_156 (some 30)) (f_266 (some 64)) := by
  obtain ⟨b, z⟩ := s_266 G.F
  obtain ⟨n, n1, n2⟩ := G.2.2.2.2.2.1
  refine G.r0 (s_156 G.F) ?_ z
  rw [b, n1, n2]
theorem call_17 (G : Gd τ E N h) : Call h (f_147 (some 30) x) (f_245 (some 64) x) := by
  obtain ⟨z, S, n, o, hg, fc, fm, z10, n10, hs⟩ := G.2.2.2.2.2.2.1
  have s4 : S < 1024 := Nat.lt_of_lt_of_le hs (Nat.pow_le_pow_right (n := 2) (by omega) n10)
  exact G.r0 (s_147 G.F fc s4) (s_245 G.F fm n10 hs).1 (s_245 (x := x) G.F fm n10 hs).2
theorem call_18 (G : Gd τ E N h) : Call h (f_148 (some 30) x) (f_246 (some 64) x) := by
  obtain ⟨z, S, n, o, hg, fc, fm, z10, n10, hs⟩ := G.2.2.2.2.2.2.1
  exact G.r0 (s_148 G.F fc z10) (s_246 G.F fm z10).1 (s_246 (x := x) G.F fm z10).2
theorem call_21 (G : Gd τ E N h) : Call h (f_151 (some 30) x) (f_250 (some 64) x) := by
  obtain ⟨z, o, ⟨a1, a2⟩, ⟨b1, b2⟩, z10⟩ := G.2.2.2.2.2.2.2.1
  exact G.r0 (s_151 G.F a1 a2 z10) (s_250 G.F b1 b2 z10).1 (s_250 (x := x) G.F b1 b2 z10).2
theorem call_32 (G : Gd τ E N h) : Call h (f_162 (some 30) x) (f_280 (some 64) x) := by
  obtain ⟨w, a, ⟨a1, pw, ar, a3, a4, a5⟩, ⟨b1, b2⟩, b3⟩ := G.2.2.2.2.2.2.2.2.1
  exact G.r0 (s_162 G.F ar a1 a4 a5) (s_280 G.F b1 b3 b2).1 (s_280 (x := x) G.F b1 b3 b2).2
theorem call_29 (G : Gd τ E N h) : Call h (f_159 (some 30) x) (f_273 (some 64) x) := by
  have ju := G.2.2.2.2.2.2.2.2.2.1
  obtain ⟨b, z⟩ := s_273 (x := x) G.F
  refine G.r0 (s_159 G.F (by rcases ju with j | j; exact Or.inl j.1; exact Or.inr j.1)) ?_ z
  rw [b]
  congr 2
  by_cases c : 0 ≤ x.toInt ∧ x.toInt < 5
  · rw [if_pos c]
    rcases ju with ⟨j1, j2⟩ | ⟨j1, j2⟩
    · rw [if_neg (fun z => by rw [j1] at z; exact absurd z.1 (by decide)), j2 _ (by omega)]
    · rw [if_pos ⟨j1, c⟩, j2 _ (by omega)]
  · rw [if_neg c, if_neg (fun z => c z.2)]
theorem call_4 (G : Gd τ E N h) : Call h (f_134 (some 30) x y) (f_216 (some 64) x y) := by
  obtain ⟨k, b, z, e1, e2, _⟩ := s_216 (x := x) (y := y) G.F G.B G.W
  exact G.rz (s_134 G.F G.S G.W) b z e1 e2 (by decide) ⟨by decide, ⟨by decide, by decide, by decide, by decide, by decide, by decide, by decide, by decide, by decide, by decide, by decide⟩, by decide⟩
theorem call_6 (G : Gd τ E N h) : Call h (f_136 (some 30) x y u v) (f_220 (some 64) x y u v) := by
  obtain ⟨k, b, z, e1, e2, _⟩ := s_220 (x := x) (y := y) (u := u) (v := v) G.F G.B G.W
  exact G.rz (s_136 G.F G.S G.W) b z e1 e2 (by decide) ⟨by decide, ⟨by decide, by decide, by decide, by decide, by decide, by decide, by decide, by decide, by decide, by decide, by decide⟩, by decide⟩
theorem call_7 (G : Gd τ E N h) : Call h (f_137 (some 30) x y) (f_222 (some 64) x y) := by
  obtain ⟨k, b, z, e1, e2, _⟩ := s_222 (x := x) (y := y) G.F G.B G.W
  exact G.rz (s_137 G.F G.S G.W) b z e1 e2 (by decide) ⟨by decide, ⟨by decide, by decide, by decide, by decide, by decide, by decide, by decide, by decide, by decide, by decide, by decide⟩, by decide⟩
theorem call_8 (G : Gd τ E N h) : Call h (f_138 (some 30) x y) (f_224 (some 64) x y) := by
  obtain ⟨k, b, z, e1, e2, _⟩ := s_224 (x := x) (y := y) G.F G.B G.W
  exact G.rz (s_138 G.F G.S G.W) b z e1 e2 (by decide) ⟨by decide, ⟨by decide, by decide, by decide, by decide, by decide, by decide, by decide, by decide, by decide, by decide, by decide⟩, by decide⟩
theorem call_9 (G : Gd τ E N h) : Call h (f_139 (some 30) x y u v) (f_228 (some 64) x y u v) := by
  obtain ⟨k, b, z, e1, e2, _⟩ := s_228 (x := x) (y := y) (u := u) (v := v) G.F G.B G.W
  exact G.rz (s_139 G.F G.S G.W) b z e1 e2 (by decide) ⟨by decide, ⟨by decide, by decide, by decide, by decide, by decide, by decide, by decide, by decide, by decide, by decide, by decide⟩, by decide⟩
theorem call_24 (G : Gd τ E N h) : Call h (f_154 (some 30)) (f_263 (some 64)) := by
  obtain ⟨k, b, z, e1, e2, _⟩ := s_263 G.F G.B
  exact G.rz (s_154 G.F G.S) b z e1 e2 (by decide) ⟨by decide, ⟨by decide, by decide, by decide, by decide, by decide, by decide, by decide, by decide, by decide, by decide, by decide⟩, by decide⟩
theorem call_41 (G : Gd τ E N h) : Call h (f_171 (some 30) x) (f_301 (some 64) x) := by
  obtain ⟨T, sz, tc, tm⟩ := G.2.2.2.1
  obtain ⟨k, b, z, e1, e2, _⟩ := s_301 (x := x) G.F G.B tm.1
  exact G.rz (s_171 G.F G.S G.2.1.2.2.1.r tc.1) b z e1 e2 (by decide) ⟨by decide, ⟨by decide, by decide, by decide, by decide, by decide, by decide, by decide, by decide, by decide, by decide, by decide⟩, by decide⟩
theorem call_38 (G : Gd τ E N h) : Call h (f_168 (some 30)) (f_298 (some 64)) := by
  obtain ⟨r, k, a, b, z, e1, e2⟩ := said2 G.F G.S G.W G.V G.2.1.2.2.2 G.B
  exact G.rz a b z e1 e2 (by decide) ⟨by decide, ⟨by decide, by decide, by decide, by decide, by decide, by decide, by decide, by decide, by decide, by decide, by decide⟩, by decide⟩
/-- the hanger's questions -/
theorem Gd.fl {g : Hp} {Z : List Nat} (G : Gd τ E N h) (z : Fa Z h g) (hZ : ∀ z, z ∈ Z → z % 1000000 < 98) : Fw τ Z [] h g := z.fw0 G.1.1.n1 G.F.1 (fun y hy => ⟨hy, hZ y hy⟩)
theorem Gd.hq {g k : Hp} {r : Int32} {A B : Hp → Option (Int32 × Hp)} {Z2 : List Nat} (G : Gd τ E N h) (hn : hN h ≤ 800000) (a : A h = some (r, g)) (z1 : Fa Zl h g) (F1 : Fix g) (hk : Hk τ g E) (n1 : hN g = hN h) (n2 : hC g = hC h) (n3 : hS g = hS h) (b : B g = some (r, k)) (z2 : Fz Z2 g k) (hE : NowE k E) (h22 : hI k 64 22 = 1)
    (c2 : ∀ z, z ∈ Z2 → 64 ≤ z % 1000000 ∧ z % 1000000 < 98) (c : ((∀ z, z ∈ Z2 → z % 1000000 ≠ 70) ∧ (∀ z, z ∈ Z2 → z % 1000000 ≠ 96)) ∧ (okNw (Zl ++ Z2) ∧ okTx (Zl ++ Z2) ∧ okFk (Zl ++ Z2) ∧ okMn (Zl ++ Z2) ∧ okFo (Zl ++ Z2) ∧ okOr (Zl ++ Z2) ∧ okWy (Zl ++ Z2) [] ∧ okJu (Zl ++ Z2) ∧ okIm (Zl ++ Z2) []) ∧ okHg Z2 ∧ okRw Z2 ∧ okPk Z2) : Call h A B := by
  have fw := G.fl z1 (by decide)
  exact G.rf a b fw F1 (by omega) hn z2 hE h22 (hk.I G.W) (G.2.2.2.2.2.2.2.2.2.2.2.2.1.fw fw (by decide)) (G.2.2.2.2.2.2.2.2.2.2.2.2.2.fw fw (by decide)) (by decide) c2 ⟨⟨by decide, c.1⟩, c.2⟩
theorem Gd.bg {g : Hp} {Z : List Nat} (G : Gd τ E N h) (z : Fa Z h g) (hZ : ∀ z, z ∈ Z → z % 1000000 < 64) : Bg g E := by
  have fw := G.fl z (fun y hy => by have := hZ y hy; omega)
  exact G.B.cg (fw.I1 (fun q => by have := hZ _ q; omega) (fun q => by have := hZ _ q; omega)) (fw.I (fun y hy => by have := hZ y hy; omega))
theorem call_10 (G : Gd τ E N h) (hn : hN h ≤ 800000) : Call h (f_140 (some 30)) (f_230 (some 64)) := by
  obtain ⟨g, a, z1, F1, hk, n1, n2, n3⟩ := s_140 G.F G.tg G.tn G.S G.W G.H
  obtain ⟨k, b, z2, e1, e2⟩ := s_230 F1 (G.bg z1 (by decide)) G.W
  exact G.hq hn a z1 F1 hk n1 n2 n3 b z2 e1 e2 (by decide) ⟨by decide, ⟨by decide, by decide, by decide, by decide, by decide, by decide, by decide, by decide, by decide⟩, by decide, by decide, by decide⟩
theorem call_11 (G : Gd τ E N h) (hn : hN h ≤ 800000) : Call h (f_141 (some 30)) (f_235 (some 64)) := by
  obtain ⟨g, a, z1, F1, hk, n1, n2, n3⟩ := s_141 G.F G.tg G.tn G.S G.W G.H
  obtain ⟨k, b, z2, e1, e2⟩ := s_235 F1 (G.bg z1 (by decide)) G.W
  exact G.hq hn a z1 F1 hk n1 n2 n3 b z2 e1 e2 (by decide) ⟨by decide, ⟨by decide, by decide, by decide, by decide, by decide, by decide, by decide, by decide, by decide⟩, by decide, by decide, by decide⟩
theorem call_12 (G : Gd τ E N h) (hn : hN h ≤ 800000) : Call h (f_142 (some 30) x) (f_236 (some 64) x) := by
  obtain ⟨g, a, z1, F1, hk, n1, n2, n3⟩ := s_142 (x := x) G.F G.tg G.tn G.S G.W G.H
  obtain ⟨k, b, z2, e1, e2⟩ := s_236 (x := x) F1 (G.bg z1 (by decide)) G.W
  exact G.hq hn a z1 F1 hk n1 n2 n3 b z2 e1 e2 (by decide) ⟨by decide, ⟨by decide, by decide, by decide, by decide, by decide, by decide, by decide, by decide, by decide⟩, by decide, by decide, by decide⟩
theorem call_13 (G : Gd τ E N h) (hn : hN h ≤ 800000) : Call h (f_143 (some 30)) (f_237 (some 64)) := by
  obtain ⟨g, a, z1, F1, hk, n1, n2, n3⟩ := s_143 G.F G.tg G.tn G.S G.W G.H
  obtain ⟨k, b, z2, e1, e2⟩ := s_237 F1 (G.bg z1 (by decide)) G.W
  exact G.hq hn a z1 F1 hk n1 n2 n3 b z2 e1 e2 (by decide) ⟨by decide, ⟨by decide, by decide, by decide, by decide, by decide, by decide, by decide, by decide, by decide⟩, by decide, by decide, by decide⟩
theorem call_14 (G : Gd τ E N h) (hn : hN h ≤ 800000) : Call h (f_144 (some 30) x) (f_238 (some 64) x) := by
  obtain ⟨g, a, z1, F1, hk, n1, n2, n3⟩ := s_144 (x := x) G.F G.tg G.tn G.S G.W G.H
  obtain ⟨k, b, z2, e1, e2⟩ := s_238 (x := x) F1 (G.bg z1 (by decide)) G.W
  exact G.hq hn a z1 F1 hk n1 n2 n3 b z2 e1 e2 (by decide) ⟨by decide, ⟨by decide, by decide, by decide, by decide, by decide, by decide, by decide, by decide, by decide⟩, by decide, by decide, by decide⟩
theorem call_15 (G : Gd τ E N h) (hn : hN h ≤ 800000) : Call h (f_145 (some 30)) (f_240 (some 64)) := by
  obtain ⟨g, a, z1, F1, hk, n1, n2, n3⟩ := s_145 G.F G.tg G.tn G.S G.W G.H
  obtain ⟨k, b, z2, e1, e2⟩ := s_240 F1 (G.bg z1 (by decide)) G.W
  exact G.hq hn a z1 F1 hk n1 n2 n3 b z2 e1 e2 (by decide) ⟨by decide, ⟨by decide, by decide, by decide, by decide, by decide, by decide, by decide, by decide, by decide⟩, by decide, by decide, by decide⟩
theorem call_19 (G : Gd τ E N h) (hn : hN h ≤ 800000) : Call h (f_149 (some 30)) (f_248 (some 64)) := by
  obtain ⟨g, f, a, sk, z1, F1, hk, n1, n2, n3⟩ := s_149 G.F G.tg G.tn G.S G.W G.H
  obtain ⟨k, f2, b, z2, e1, e2, sk2⟩ := s_248 F1 (G.bg z1 (by decide)) G.W
  have e : f2 = f := stuck_u sk2 sk
  subst e
  exact G.hq hn a z1 F1 hk n1 n2 n3 b z2 e1 e2 (by decide) ⟨by decide, ⟨by decide, by decide, by decide, by decide, by decide, by decide, by decide, by decide, by decide⟩, by decide, by decide, by decide⟩
end CALLS
