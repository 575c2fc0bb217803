/-! the parts of the state stay -/
def kI (Z : List Nat) (a j : Nat) : Prop := a ∉ Z ∧ 1000000 * (j + 1) + a ∉ Z
def kA (Z : List Nat) (a : Nat) : Prop := ∀ z, z ∈ Z → z % 1000000 ≠ a
abbrev okNw (Z : List Nat) : Prop := (33 ∉ Z ∧ 3000033 ∉ Z ∧ 4000033 ∉ Z) ∧ (∀ z, z ∈ Z → z % 1000000 ≠ 34) ∧ (∀ z, z ∈ Z → z % 1000000 ≠ 35) ∧ 30 ∉ Z ∧ 12000030 ∉ Z ∧ 13000030 ∉ Z
abbrev okTx (Z : List Nat) : Prop := (31 ∉ Z ∧ 2000031 ∉ Z) ∧ (∀ z, z ∈ Z → z % 1000000 ≠ 32) ∧ (64 ∉ Z ∧ 3000064 ∉ Z) ∧ ∀ z, z ∈ Z → z % 1000000 ≠ 65
abbrev okFk (Z : List Nat) : Prop := (31 ∉ Z ∧ 7000031 ∉ Z) ∧ 64 ∉ Z ∧ 11000064 ∉ Z
abbrev okMn (Z : List Nat) : Prop := (30 ∉ Z ∧ 14000030 ∉ Z) ∧ 64 ∉ Z ∧ 24000064 ∉ Z
abbrev okFo (Z : List Nat) : Prop := (48 ∉ Z ∧ 3000048 ∉ Z ∧ 4000048 ∉ Z) ∧ ((∀ z, z ∈ Z → z % 1000000 ≠ 49) ∧ ∀ z, z ∈ Z → z % 1000000 ≠ 50) ∧ (64 ∉ Z ∧ 38000064 ∉ Z ∧ 39000064 ∉ Z) ∧ (∀ z, z ∈ Z → z % 1000000 ≠ 82) ∧ ∀ z, z ∈ Z → z % 1000000 ≠ 83
abbrev okOr (Z : List Nat) : Prop := (39 ∉ Z ∧ 10000039 ∉ Z) ∧ (∀ z, z ∈ Z → z % 1000000 ≠ 44) ∧ (64 ∉ Z ∧ 43000064 ∉ Z) ∧ ∀ z, z ∈ Z → z % 1000000 ≠ 86
abbrev okWy (Z W : List Nat) : Prop := (51 ∉ Z ∧ 2000051 ∉ Z ∧ 1000051 ∉ Z) ∧ (∀ z, z ∈ Z → z % 1000000 ≠ 52) ∧ (64 ∉ Z ∧ 58000064 ∉ Z) ∧ (∀ z, z ∈ Z → z % 1000000 ≠ 94) ∧ 4 ∉ W
abbrev okJu (Z : List Nat) : Prop := (30 ∉ Z ∧ 11000030 ∉ Z) ∧ (∀ z, z ∈ Z → z % 1000000 ≠ 59) ∧ ∀ z, z ∈ Z → z % 1000000 ≠ 89
abbrev okIm (Z W : List Nat) : Prop := ((∀ z, z ∈ Z → z % 1000000 ≠ 56) ∧ (∀ z, z ∈ Z → z % 1000000 ≠ 57) ∧ ∀ z, z ∈ Z → z % 1000000 ≠ 58) ∧ ((∀ z, z ∈ Z → z % 1000000 ≠ 69) ∧ (∀ z, z ∈ Z → z % 1000000 ≠ 72) ∧ ∀ z, z ∈ Z → z % 1000000 ≠ 73) ∧ ∀ w, w ∈ W → w < 6
abbrev okHg (Z : List Nat) : Prop := (39 ∉ Z ∧ 3000039 ∉ Z ∧ 2000039 ∉ Z ∧ 6000039 ∉ Z ∧ 8000039 ∉ Z) ∧ (∀ z, z ∈ Z → z % 1000000 ≠ 40) ∧ (∀ z, z ∈ Z → z % 1000000 ≠ 41) ∧ (∀ z, z ∈ Z → z % 1000000 ≠ 42) ∧ ∀ z, z ∈ Z → z % 1000000 ≠ 43
abbrev okRw (Z : List Nat) : Prop := (51 ∉ Z ∧ 4000051 ∉ Z ∧ 5000051 ∉ Z) ∧ True
abbrev okPk (Z : List Nat) : Prop := 39 ∉ Z ∧ 16000039 ∉ Z
/-- rows of the search, row of peaks -/
def DrS (τ : Nat → Nat) (h : Hp) : Prop := hQ h 51 3 = none ∨ ∃ po pq, PR h po pq ∧ τ po = 2 ∧ τ pq = 3
def DrP (τ : Nat → Nat) (h : Hp) : Prop := hQ h 39 15 = none ∨ ∃ pk, PKP h pk ∧ τ pk = 5
def Gd (τ E N : Nat → Nat) (h : Hp) : Prop := (Ba τ h ∧ VE E) ∧ NwC τ h E N ∧ NwM h E N ∧ Dtx h ∧ Dfk h ∧ Dmn h ∧ Dfo h ∧ Dor h ∧ Dwy τ h ∧ Dju h ∧ Dim τ h ∧ HGI τ h ∧ DrS τ h ∧ DrP τ h
section TOPF
variable {τ : Nat → Nat} {Z W : List Nat} {h g : Hp} {E N : Nat → Nat}
theorem NwC.fw (n : NwC τ h E N) (z : Fw τ Z W h g) (ag : Ag τ h g) (c : okNw Z) : NwC τ g E N := by
  obtain ⟨⟨s1, s2, s3, s4⟩, nm, pl, sy⟩ := n
  have q2 : hQ g 33 2 = hQ h 33 2 := z.Q1 c.1.1 c.1.2.1
  have r2 : rq g 33 2 = rq h 33 2 := by unfold rq; rw [q2]
  refine ⟨⟨by rw [r2, q2]; exact s1, by rw [r2]; exact s2.ag ag, fun d hd => ?_, ?_⟩, by rw [r2]; exact nm.ag ag, ?_, ?_⟩
  · rw [z.I (a := 34) c.2.1, z.I (a := 35) c.2.2.1]; exact s3 d hd
  · rw [z.I1 c.1.1 c.1.2.2]; exact s4
  · rw [z.Q1 (a := 30) (j := 11) c.2.2.2.1 c.2.2.2.2.1]; exact pl.ag ag
  · rw [z.Q1 (a := 30) (j := 12) c.2.2.2.1 c.2.2.2.2.2]; exact sy.ag ag
theorem Dtx.fw (n : Dtx h) (z : Fw τ Z W h g) (c : okTx Z) : Dtx g := by
  obtain ⟨T, sz, ⟨a1, a2, a3⟩, ⟨b1, b2, b3⟩⟩ := n
  refine ⟨T, sz, ⟨by rw [z.I1 c.1.1 c.1.2]; exact a1, a2, fun i hi => ?_⟩, ⟨by rw [z.I1 c.2.2.1.1 c.2.2.1.2]; exact b1, b2, fun i hi => ?_⟩⟩
  · rw [z.I (a := 32) c.2.1]; exact a3 i hi
  · rw [z.I (a := 65) c.2.2.2]; exact b3 i hi
theorem Dfk.fw (n : Dfk h) (z : Fw τ Z W h g) (c : okFk Z) : Dfk g := by
  unfold Dfk
  rw [z.I1 (a := 31) (j := 6) c.1.1 c.1.2, z.I1 (a := 64) (j := 10) c.2.1 c.2.2]; exact n
theorem Dmn.fw (n : Dmn h) (z : Fw τ Z W h g) (c : okMn Z) : Dmn g := by
  unfold Dmn
  rw [z.I1 (a := 30) (j := 13) c.1.1 c.1.2, z.I1 (a := 64) (j := 23) c.2.1 c.2.2]; exact n
theorem Dfo.fw (n : Dfo h) (z : Fw τ Z W h g) (c : okFo Z) : Dfo g := by
  obtain ⟨y, S, n, o, hg, ⟨a1, a2, a3, a4⟩, ⟨b1, b2, b3, b4⟩, b5⟩ := n
  obtain ⟨c1, c2, c3, c4, c5⟩ := c
  refine ⟨y, S, n, o, hg, ⟨by rw [z.I1 c1.1 c1.2.1]; exact a1, by rw [z.I1 c1.1 c1.2.2]; exact a2, by rw [z.I (a := 49) c2.1]; exact a3, by rw [z.I (a := 50) c2.2]; exact a4⟩, ⟨by rw [z.I1 c3.1 c3.2.1]; exact b1, by rw [z.I1 c3.1 c3.2.2]; exact b2, by rw [z.I (a := 83) c5]; exact b3, by rw [z.I (a := 82) c4]; exact b4⟩, b5⟩
theorem Dor.fw (n : Dor h) (z : Fw τ Z W h g) (c : okOr Z) : Dor g := by
  obtain ⟨y, o, ⟨a1, a2⟩, ⟨b1, b2⟩, b3⟩ := n
  exact ⟨y, o, ⟨by rw [z.I1 c.1.1 c.1.2]; exact a1, by rw [z.I (a := 44) c.2.1]; exact a2⟩, ⟨by rw [z.I1 c.2.2.1.1 c.2.2.1.2]; exact b1, by rw [z.I (a := 86) c.2.2.2]; exact b2⟩, b3⟩
theorem Dwy.fw (n : Dwy τ h) (z : Fw τ Z W h g) (c : okWy Z W) : Dwy τ g := by
  obtain ⟨w, a, ⟨a1, pw, ⟨r1, r2, r3, r4, r5⟩, a3, a4, a5⟩, ⟨b1, b2⟩, b3⟩ := n
  obtain ⟨c1, c2, c3, c4, c5⟩ := c
  have kl := z.2.1 pw r4
  have pI : hI g pw = hI h pw := by
    rcases r3 with e | e
    · subst e; exact z.I c2
    · refine (z.pl e r4 ?_).1
      rcases a3 with q | q
      · omega
      · rw [q]; exact c5
  have := z.1
  refine ⟨w, a, ⟨by rw [z.I1 c1.1 c1.2.1]; exact a1, pw, ⟨by rw [z.Q1 c1.1 c1.2.2]; exact r1, by rw [kl.1]; exact r2, r3, by omega, by rw [kl.2]; exact r5⟩, a3, by rw [kl.2]; exact a4, by rw [pI]; exact a5⟩, ⟨by rw [z.I1 c3.1 c3.2]; exact b1, by rw [z.I (a := 94) c4]; exact b2⟩, b3⟩
theorem Dju.fw (n : Dju h) (z : Fw τ Z W h g) (c : okJu Z) : Dju g := by
  unfold Dju
  rw [z.I1 (a := 30) (j := 10) c.1.1 c.1.2, z.I (a := 59) c.2.1, z.I (a := 89) c.2.2]; exact n
theorem KpC.fw {k : Nat} (n : KpC τ h k E N) (z : Fw τ Z W h g) (ag : Ag τ h g) (b : Ba τ h) (hk : k < 2) (c : okIm Z W) : KpC τ g k E N := by
  obtain ⟨p, ph, pa, q, ⟨⟨s1, s2, s3, s4, s5, s6, s7, s8⟩, t1, t2, t3, t4⟩, ⟨u1, u2, u3⟩, nm, pl, sy⟩ := n
  obtain ⟨⟨c1, c2, c3⟩, _, c4⟩ := c
  have m : ∀ a, 6 ≤ τ a → 98 ≤ a ∧ a < hN h ∧ τ a ∉ W := fun a ha => ⟨b.2.2.2.1 a (by omega), b.2.1 a (by omega), fun w => by have := c4 _ w; omega⟩
  obtain ⟨p1, p2, p3⟩ := m p (by omega)
  obtain ⟨h1, h2, h3⟩ := m ph (by omega)
  obtain ⟨a1, a2, a3⟩ := m pa (by omega)
  have P := z.pl p1 p2 p3
  have PH := z.pl h1 h2 h3
  have PA := z.pl a1 a2 a3
  have r2 : rq g p 2 = rq h p 2 := by unfold rq; rw [P.2.2]
  refine ⟨p, ph, pa, by rw [z.Q (a := 56) c1]; exact q, ⟨⟨by rw [z.K p2]; exact s1, by rw [P.2.2]; exact s2, by rw [P.2.2]; exact s3, by rw [z.K h2]; exact s4, by rw [z.L h2]; exact s5, by rw [z.K a2]; exact s6, by rw [z.L a2]; exact s7, s8⟩, by rw [r2, P.2.2]; exact t1, by rw [r2]; exact t2.ag ag, fun d hd => by rw [PH.1, PA.1]; exact t3 d hd, by rw [P.1]; exact t4⟩, ⟨u1, u2, u3⟩, by rw [r2]; exact nm.ag ag, by rw [z.Q (a := 57) c2]; exact pl.ag ag, by rw [z.Q (a := 58) c3]; exact sy.ag ag⟩
theorem Dim.fw (n : Dim τ h) (z : Fw τ Z W h g) (ag : Ag τ h g) (b : Ba τ h) (c : okIm Z W) : Dim τ g := by
  intro k hk
  obtain ⟨c1, c2, c3⟩ := c.2.1
  rcases n k hk with ⟨a1, a2⟩ | ⟨E, N, kc, ⟨m1, m2, m3, m4⟩, ve⟩
  · exact Or.inl ⟨by rw [z.Q (a := 56) c.1.1]; exact a1, by rw [z.I (a := 73) c3]; exact a2⟩
  · exact Or.inr ⟨E, N, kc.fw z ag b hk c, ⟨by rw [z.I (a := 73) c3]; exact m1, by rw [z.I (a := 69) c1]; exact m2, m3, by rw [z.J (a := 72) c2]; exact m4⟩, ve⟩
theorem HGI.fw (n : HGI τ h) (z : Fw τ Z W h g) (ag : Ag τ h g) (c : okHg Z) : HGI τ g := by
  obtain ⟨⟨c1, c2, c3, c4, c5⟩, c6, c7, c8, c9⟩ := c
  have q2 : hQ g 39 2 = hQ h 39 2 := z.Q1 c1 c2
  have r2 : rq g 39 2 = rq h 39 2 := by unfold rq; rw [q2]
  rcases n with a | ⟨D, cur, ⟨a1, a2, a3, a4⟩, b1, b2, b3, b4⟩
  · exact Or.inl (by rw [q2]; exact a)
  · exact Or.inr ⟨D, cur, ⟨by rw [q2, r2]; exact a1, by rw [r2]; exact a2.ag ag, by rw [z.J1 c1 c3]; exact a3, by rw [z.J (a := 40) c6]; exact a4⟩, b1, by rw [z.I (a := 41) c7]; exact b2, b3.cg (z.I1 c1 c4) (z.I c8), b4.cg (z.I1 c1 c5) (z.I c9)⟩
theorem DrS.fw (n : DrS τ h) (z : Fw τ Z W h g) (c : okRw Z) : DrS τ g := by
  have q3 : hQ g 51 3 = hQ h 51 3 := z.Q1 c.1.1 c.1.2.1
  have q4 : hQ g 51 4 = hQ h 51 4 := z.Q1 c.1.1 c.1.2.2
  rcases n with a | ⟨po, pq, ⟨⟨p0, p0'⟩, p1, p2, p3, p4, p5, p6, p7⟩, t⟩
  · exact Or.inl (by rw [q3]; exact a)
  · have := z.1
    exact Or.inr ⟨po, pq, ⟨by omega, by rw [q3]; exact p1, by rw [q4]; exact p2, by rw [z.K p0]; exact p3, by rw [z.L p0]; exact p4, by rw [z.K p0']; exact p5, by rw [z.L p0']; exact p6, p7⟩, t⟩
theorem DrP.fw (n : DrP τ h) (z : Fw τ Z W h g) (c : okPk Z) : DrP τ g := by
  have q3 : hQ g 39 15 = hQ h 39 15 := z.Q1 c.1 c.2
  rcases n with a | ⟨pk, ⟨p1, p2, p3, p4, p5⟩, t⟩
  · exact Or.inl (by rw [q3]; exact a)
  · have := z.1
    exact Or.inr ⟨pk, ⟨by rw [q3]; exact p1, by rw [z.K p5]; exact p2, by rw [z.L p5]; exact p3, p4, by omega⟩, t⟩
theorem NwM.fw (n : NwM h E N) (z : Fw τ Z W h g) (c : (64 ∉ Z ∧ 23000064 ∉ Z) ∧ (∀ z, z ∈ Z → z % 1000000 ≠ 66) ∧ (∀ z, z ∈ Z → z % 1000000 ≠ 70) ∧ ∀ z, z ∈ Z → z % 1000000 ≠ 96) : NwM g E N := by
  obtain ⟨n1, n2, n3⟩ := n
  refine ⟨n1.cg (z.I1 c.1.1 c.1.2) (z.I c.2.1), by rw [z.J (a := 70) c.2.2.1]; exact n2, fun i hi => by rw [z.I (a := 96) c.2.2.2]; exact n3 i hi⟩
theorem NwM.now {D : Nat → Nat} (n : NwM h E N) (z : Fw τ Z W h g) (hE : NowE g D) (h22 : hI g 64 22 = 1) (e2 : D 2 = E 2) (c : (∀ z, z ∈ Z → z % 1000000 ≠ 70) ∧ ∀ z, z ∈ Z → z % 1000000 ≠ 96) : NwM g D N := by
  obtain ⟨n1, n2, n3⟩ := n
  exact ⟨Or.inl ⟨h22, hE⟩, by rw [z.J (a := 70) c.1, e2]; exact n2, fun i hi => by rw [z.I (a := 96) c.2]; exact n3 i hi⟩
/-- all that may stay -/
theorem Gd.all (G : Gd τ E N h) (z : Fw τ Z W h g) (hF : Fix g) (hn : hN g ≤ 900000) (hZ : (∀ z, z ∈ Z → z % 1000000 < 60 ∨ 64 ≤ z % 1000000) ∧ 1 ∉ W) :
    Ba τ g ∧ Ag τ h g ∧ (okNw Z → NwC τ g E N) ∧ (okTx Z → Dtx g) ∧ (okFk Z → Dfk g) ∧ (okMn Z → Dmn g) ∧ (okFo Z → Dfo g) ∧ (okOr Z → Dor g) ∧ (okWy Z W → Dwy τ g) ∧ (okJu Z → Dju g) ∧ (okIm Z W → Dim τ g) ∧ (okHg Z → HGI τ g) ∧ (okRw Z → DrS τ g) ∧ (okPk Z → DrP τ g) := by
  obtain ⟨⟨b, ve⟩, nc, nm, tx, fk, mn, fo, od, wy, ju, im, hg, rs, rp⟩ := G
  have ag := z.ag b hZ.1 hZ.2
  exact ⟨z.ba b hF hn, ag, nc.fw z ag, tx.fw z, fk.fw z, mn.fw z, fo.fw z, od.fw z, wy.fw z, ju.fw z, im.fw z ag b, hg.fw z ag, rs.fw z, rp.fw z⟩
/-- a step's cost; the script stays -/
def St (h g : Hp) : Prop := (hI g 29 = hI h 29 ∧ hL g 29 = hL h 29) ∧ hN g ≤ hN h + 200 ∧ hC g ≤ hC h + 200 ∧ hS g ≤ hS h + 100000
theorem Fw.st (z : Fw τ Z W h g) (hF : 98 ≤ hN h) (h29 : ∀ z, z ∈ Z → z % 1000000 ≠ 29) (c : hN g ≤ hN h + 200 ∧ hC g ≤ hC h + 200 ∧ hS g ≤ hS h + 100000) : St h g := ⟨⟨z.I h29, z.L (by omega)⟩, c⟩
theorem Fz.cost (z : Fz Z h g) : hN g ≤ hN h + 200 ∧ hC g ≤ hC h + 200 ∧ hS g ≤ hS h + 100000 := ⟨by rw [z.N]; omega, by rw [z.C]; omega, by rw [z.S]; omega⟩
/-- a call, both -/
def Call (h : Hp) (A B : Hp → Option (Int32 × Hp)) : Prop := ∃ r g k τ E N, A h = some (r, g) ∧ B g = some (r, k) ∧ Fix g ∧ (hI g 29 = hI h 29 ∧ hL g 29 = hL h 29) ∧ Gd τ E N k ∧ St h k
/-- nothing changes but what the reference lays anew -/
theorem Gd.ro {k : Hp} {Z1 Z2 : List Nat} {r : Int32} {A B : Hp → Option (Int32 × Hp)} (G : Gd τ E N h) (a : A h = some (r, g)) (b : B g = some (r, k)) (z1 : Fz Z1 h g) (z2 : Fz Z2 g k) (hE : NowE k E) (h22 : hI k 64 22 = 1)
    (c1 : ∀ z, z ∈ Z1 → 30 ≤ z % 1000000 ∧ z % 1000000 < 98) (c2 : ∀ z, z ∈ Z2 → 30 ≤ z % 1000000 ∧ z % 1000000 < 98)
    (c : ((∀ z, z ∈ Z1 ++ Z2 → z % 1000000 < 60 ∨ 64 ≤ z % 1000000) ∧ (∀ z, z ∈ Z1 ++ Z2 → z % 1000000 ≠ 70) ∧ (∀ z, z ∈ Z1 ++ Z2 → z % 1000000 ≠ 96)) ∧ okNw (Z1 ++ Z2) ∧ okTx (Z1 ++ Z2) ∧ okFk (Z1 ++ Z2) ∧ okMn (Z1 ++ Z2) ∧ okFo (Z1 ++ Z2) ∧ okOr (Z1 ++ Z2) ∧ okWy (Z1 ++ Z2) [] ∧ okJu (Z1 ++ Z2) ∧ okIm (Z1 ++ Z2) [] ∧ okHg (Z1 ++ Z2) ∧ okRw (Z1 ++ Z2) ∧ okPk (Z1 ++ Z2)) : Call h A B := by
  have F0 := G.1.1.F
  have n0 := G.1.1.n1
  have n98 := F0.1
  have F1 : Fix g := z1.fix F0 (fun z hz => (c1 z hz).1)
  have F2 : Fix k := z2.fix F1 (fun z hz => (c2 z hz).1)
  have zz : Fz (Z1 ++ Z2) h k := z1.trans z2
  have c12 : ∀ z, z ∈ Z1 ++ Z2 → 30 ≤ z % 1000000 ∧ z % 1000000 < 98 := fun z hz => by
    rcases List.mem_append.1 hz with q | q
    · exact c1 z q
    · exact c2 z q
  have fw : Fw τ (Z1 ++ Z2) [] h k := zz.fw (fun z hz => (c12 z hz).2)
  obtain ⟨⟨d0, d1, d2⟩, e1, e2, e3, e4, e5, e6, e7, e8, e9, e10, e11, e12⟩ := c
  obtain ⟨ba, ag, p1, p2, p3, p4, p5, p6, p7, p8, p9, p10, p11, p12⟩ := G.all fw F2 (by rw [zz.N]; exact n0) ⟨d0, by decide⟩
  have n29 : ∀ z, z ∈ Z1 ++ Z2 → z % 1000000 ≠ 29 := fun z hz => by have := c12 z hz; omega
  exact ⟨r, g, k, τ, E, N, a, b, F1, ⟨z1.I (fun z hz => by have := c1 z hz; omega), by rw [z1.L]⟩, ⟨⟨ba, G.1.2⟩, p1 e1, G.2.2.1.now fw hE h22 rfl ⟨d1, d2⟩, p2 e2, p3 e3, p4 e4, p5 e5, p6 e6, p7 e7, p8 e8, p9 e9, p10 e10, p11 e11, p12 e12⟩, fw.st n98 n29 zz.cost⟩
end TOPF
