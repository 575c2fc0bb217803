/-! the class reads a sentence -/
def cbX (X : Nat → Nat) (i : Nat) : Nat := if X (4 * i) = 6 then X (4 * i + 1) else if 7 ≤ X (4 * i) then X (4 * i + 2) else 0
def SnC (h : Hp) (b : Nat) (X : Nat → Nat) : Prop := (hK h b = 8 ∧ hQ h b 0 = some (b + 1) ∧ hQ h b 1 = some (b + 2) ∧ hQ h b 2 = some (b + 3) ∧ (hK h (b + 1) = 12 ∧ hL h (b + 1) = 40) ∧ (hK h (b + 2) = 12 ∧ hL h (b + 2) = 40) ∧ hK h (b + 3) = 12 ∧ hL h (b + 3) = 40) ∧ (hI h b 3 = nI (X 900) ∧ hI h b 4 = nI (X 901)) ∧ ∀ i, i < X 900 → hI h (b + 1) i = nI (X (4 * i)) ∧ hI h (b + 2) i = nI (X (4 * i + 3)) ∧ hI h (b + 3) i = nI (cbX X i)
section SENC
variable {T : Nat → Nat} {sz lim : Nat} {N : Nat → Nat} {ne a : Nat}
def SNs (T : Nat → Nat) (sz lim : Nat) (N : Nat → Nat) (ne a : Nat) (h0 : Hp) (b : Nat) (h : Hp) (q : Nat) (X : Nat → Nat) : Prop := CT h T sz lim q ∧ FRg h0 h b 4 200 ∧ SnC h b X ∧ NmB h0 b a ne N
theorem SNs.nm {h0 h : Hp} {b q : Nat} {X : Nat → Nat} (s : SNs T sz lim N ne a h0 b h q X) : NmH h a ne N := s.2.2.2.fa s.2.1.1 s.2.1.2.1 (by have := s.2.1.2.2.1; omega)
theorem SnC.ab {h g : Hp} {b : Nat} {X : Nat → Nat} (d : SnC h b X) (e : Ab (fun x => b ≤ x ∧ x < b + 4) h g) : SnC g b X := by
  unfold SnC at *
  obtain ⟨k0, l0, i0, j0, q0⟩ := e b (by omega)
  obtain ⟨k1, l1, i1, j1, q1⟩ := e (b + 1) (by omega)
  obtain ⟨k2, l2, i2, j2, q2⟩ := e (b + 2) (by omega)
  obtain ⟨k3, l3, i3, j3, q3⟩ := e (b + 3) (by omega)
  rw [k0, q0, k1, l1, k2, l2, k3, l3, i0, i1, i2, i3]
  exact d
theorem SNs.fz {h0 h g : Hp} {b q q' : Nat} {X : Nat → Nat} {Y : List Nat} (s : SNs T sz lim N ne a h0 b h q X) (hT : CT g T sz lim q') (hz : Fz Y h g) (hY : ∀ z, z ∈ Y → z % 1000000 < 98) (hY2 : ∀ z, z ∈ Y → z ∈ Zs) : SNs T sz lim N ne a h0 b g q' X := by
  obtain ⟨s1, s2, s3, s4⟩ := s
  have bb := s2.2.2.1
  exact ⟨hT, s2.fz hz hY2, s3.ab (hz.ab hY (fun a ha => by omega)), s4⟩
theorem sn_step {h0 h : Hp} {b q : Nat} {X : Nat → Nat} (s : SNs T sz lim N ne a h0 b h q X) : ∃ g, f_117 (some 31) h = some g ∧ SNs T sz lim N ne a h0 b g (tkN T sz lim q) X := by
  obtain ⟨g, a1, a2, a3⟩ := c_step s.1
  exact ⟨g, a1, s.fz a3 a2 (by decide) (by decide)⟩
theorem CR.bindR {h0 : Hp} {b : Nat} {o : Option (Int32 × Hp)} {st : RsT} {S1 S2 : Hp → Nat → (Nat → Nat) → Prop} {n2 : Nat → (Nat → Nat) → RsT} {f : Nat → (Nat → Nat) → RsT} {A B : Hp → Option (Int32 × Hp)} (h1 : CR h0 b o st S1 okR) (hB : ∀ g, B g = some (nI 0, g)) (hA : ∀ g q X, st = .ok (q, X) → S1 g q X → CR h0 b (A g) (f q X) S2 n2) : CR h0 b (o.bind fun p => if ¬ p.1 = 0 then A p.2 else B p.2) (bindR st f) S2 n2 := by
  obtain ⟨g, w, a1, a2, a3⟩ := h1
  rw [a1, Option.bind_some]
  dsimp only
  cases w
  · obtain ⟨k, e, e1, e2⟩ := a2 rfl
    rw [if_neg (show ¬ ¬ bI false = 0 from fun z => z rfl), hB, e1]
    exact ⟨g, false, rfl, fun _ => ⟨k, e, rfl, e2⟩, fun z => (by cases z)⟩
  · obtain ⟨q, X, e, s⟩ := a3 rfl
    have e' : st = .ok (q, X) := e
    have := hA g q X e' s
    rw [if_pos (show ¬ bI true = 0 by decide), e']
    exact this
theorem ifsw {α : Type} {x : Int32} (u v : α) : (if x = 0 then u else v) = if ¬ x = 0 then v else u := by
  by_cases c : x = 0
  · rw [if_pos c, if_neg (fun z => z c)]
  · rw [if_neg c, if_pos c]
/-- a code laid -/
theorem s_106 {h0 h : Hp} {b q k av bv : Nat} {X : Nat → Nat} (s : SNs T sz lim N ne a h0 b h q X) (hn : X 900 < 40) {x y : Nat} (he : (if k = 6 then x else if 7 ≤ k then y else 0) = bv) : ∃ g, f_106 (some b) (nI k) (nI av) (nI bv) h = some (nI 1, g) ∧ SNs T sz lim N ne a h0 b g q (layX X k x y av) := by
  obtain ⟨s1, s2, ⟨⟨k0, q0, q1, q2, ⟨k1, l1⟩, ⟨k2, l2⟩, k3, l3⟩, ⟨i3, i4'⟩, iv⟩, s4⟩ := s
  have bb := s2.2.2.1
  generalize hh : X 900 = n at *
  generalize x1 : sI h (b + 1) n (nI k) = g1
  generalize x2 : sI g1 (b + 2) n (nI av) = g2
  generalize x3 : sI g2 (b + 3) n (nI bv) = g3
  generalize x4 : sI g3 b 3 (nI (n + 1)) = g4
  have K1 : hK g1 = hK h := by rw [← x1]; rfl
  have L1 : hL g1 = hL h := by rw [← x1]; rfl
  have Q1 : hQ g1 = hQ h := by rw [← x1]; rfl
  have K2 : hK g2 = hK h := by rw [← x2]; exact K1
  have L2 : hL g2 = hL h := by rw [← x2]; exact L1
  have Q2 : hQ g2 = hQ h := by rw [← x2]; exact Q1
  have K3 : hK g3 = hK h := by rw [← x3]; exact K2
  have I4 : ∀ P j, hI g4 P j = if P = b ∧ j = 3 then nI (n + 1) else if P = b + 3 ∧ j = n then nI bv else if P = b + 2 ∧ j = n then nI av else if P = b + 1 ∧ j = n then nI k else hI h P j := fun P j => by rw [← x4, hI_sI, ← x3, hI_sI, ← x2, hI_sI, ← x1, hI_sI]
  have j1 : hI g1 b 3 = nI n := by rw [← x1, hI_sI, if_neg (by omega)]; exact i3
  have j2 : hI g2 b 3 = nI n := by rw [← x2, hI_sI, if_neg (by omega)]; exact j1
  have j3 : hI g3 b 3 = nI n := by rw [← x3, hI_sI, if_neg (by omega)]; exact j2
  have v := layX_v (X := X) (k := k) (a := x) (b := y) (c := av) (by omega)
  rw [hh] at v
  obtain ⟨v1, v2, v3, v4, v5, v6, v7⟩ := v
  refine ⟨g4, ?_, ?_, ?_, ⟨?_, ⟨?_, ?_⟩, fun i hi => ?_⟩, s4⟩
  · rw [f_106, b_106_0, gI_e k0, Option.bind_some, i3, gQ_e k0, Option.bind_some, q0, aL_e k1 l1 (by omega), Option.bind_some, if_pos (by rw [nI_ltI (by omega) (by omega)]; exact hn), b_106_14, gQ_e k0, Option.bind_some, q0, gI_e k0, Option.bind_some, i3, wI_n k1 (by omega) l1 hn (by omega), Option.bind_some, x1, gQ_e (show hK g1 b = 8 by rw [K1]; exact k0), Option.bind_some, Q1, q1, gI_e (show hK g1 b = 8 by rw [K1]; exact k0), Option.bind_some, j1, wI_n (show hK g1 (b + 2) = 12 by rw [K1]; exact k2) (by omega) (show hL g1 (b + 2) = 40 by rw [L1]; exact l2) hn (by omega), Option.bind_some, x2, gQ_e (show hK g2 b = 8 by rw [K2]; exact k0), Option.bind_some, Q2, q2, gI_e (show hK g2 b = 8 by rw [K2]; exact k0), Option.bind_some, j2, wI_n (show hK g2 (b + 3) = 12 by rw [K2]; exact k3) (by omega) (show hL g2 (b + 3) = 40 by rw [L2]; exact l3) hn (by omega), Option.bind_some, x3, gI_e (show hK g3 b = 8 by rw [K3]; exact k0), Option.bind_some, j3, nI_add, pI_e (show hK g3 b = 8 by rw [K3]; exact k0) (by omega), Option.bind_some, x4, grd1, Option.bind_some]
  · rw [← x4, ← x3, ← x2, ← x1]
    exact (((s1.wsI (by omega)).wsI (by omega)).wsI (by omega)).wsI (by omega)
  · rw [← x4, ← x3, ← x2, ← x1]
    exact (((s2.wsI (by omega)).wsI (by omega)).wsI (by omega)).wsI (by omega)
  · rw [← x4, ← x3, ← x2, ← x1]
    exact ⟨k0, q0, q1, q2, ⟨k1, l1⟩, ⟨k2, l2⟩, k3, l3⟩
  · rw [I4, if_pos ⟨rfl, rfl⟩, v6]
  · rw [I4, if_neg (by omega), if_neg (by omega), if_neg (by omega), if_neg (by omega), v7 901 (by omega) (by omega) (by omega)]; exact i4'
  · rw [v6] at hi
    unfold cbX
    by_cases e : i = n
    · subst e
      have u1 : hI g4 (b + 1) i = nI k := by rw [I4, if_neg (by omega), if_neg (by omega), if_neg (by omega), if_pos ⟨rfl, rfl⟩]
      have u2 : hI g4 (b + 2) i = nI av := by rw [I4, if_neg (by omega), if_neg (by omega), if_pos ⟨rfl, rfl⟩]
      have u3 : hI g4 (b + 3) i = nI bv := by rw [I4, if_neg (by omega), if_pos ⟨rfl, rfl⟩]
      rw [u1, u2, u3, v1, v2, v3, v4, he]
      exact ⟨rfl, rfl, rfl⟩
    · have u : ∀ P, P = b + 1 ∨ P = b + 2 ∨ P = b + 3 → hI g4 P i = hI h P i := fun P hP => by rw [I4, if_neg (by omega), if_neg (by omega), if_neg (by omega), if_neg (by omega)]
      rw [u _ (by omega), u _ (by omega), u _ (by omega), v7 _ (by omega) (by omega) (by omega), v7 _ (by omega) (by omega) (by omega), v7 _ (by omega) (by omega) (by omega), v7 _ (by omega) (by omega) (by omega)]
      exact iv i (by omega)
theorem sn_err {h0 h : Hp} {b q k : Nat} {X : Nat → Nat} {S : Hp → Nat → (Nat → Nat) → Prop} {nx : Nat → (Nat → Nat) → RsT} (s : SNs T sz lim N ne a h0 b h q X) : CR h0 b ((grd (rC 9 (some 31) h)).bind fun _ => (f_119 (some 31) (nI k) h).bind fun p2 => (grd (decide (p2.1 = 0 ∨ p2.1 = 1))).bind fun _ => some (p2.1, p2.2)) (erA T sz lim k q) S nx := d_err s.1 s.2.1 (by omega) (by omega)
/-- what a reader of the class does as the pure one -/
def RC (T : Nat → Nat) (sz lim : Nat) (N : Nat → Nat) (ne a : Nat) (h0 : Hp) (b : Nat) (R : Hp → Option (Int32 × Hp)) (Rp : Nat → (Nat → Nat) → RsT) : Prop := ∀ q X h, SX X → SNs T sz lim N ne a h0 b h q X → CR h0 b (R h) (Rp q X) (SNs T sz lim N ne a h0 b) okR
theorem SX_lay {X Y : Nat → Nat} {k x y z : Nat} (hX : SX X) (p : PS ne X Y) : SX (layX Y k x y z) ∧ layX Y k x y z 901 = Y 901 ∧ Y 900 < 40 := by
  obtain ⟨x1, x2⟩ := hX
  obtain ⟨⟨a1, a2, a3⟩, _⟩ := p
  obtain ⟨v1, v2, v3, v4, v5, v6, v7⟩ := layX_v (X := Y) (k := k) (a := x) (b := y) (c := z) (by omega)
  have w1 : layX Y k x y z 901 = Y 901 := v7 901 (by omega) (by omega) (by omega)
  exact ⟨⟨by omega, by omega⟩, w1, by omega⟩
theorem l_103 {h0 : Hp} {b dd : Nat} {R : Option Nat → Option Nat → Option Nat → Int32 → Hp → Option (Int32 × Hp)} {Rp : Nat → (Nat → Nat) → RsT} (hR : RC T sz lim N ne a h0 b (fun h => R (some b) (some 31) (some a) (nI dd) h) Rp) (hP : RP sz ne Rp) : ∀ r v q X m h, v + r = 21 → 21 ≤ X 901 + r → SX X → SNs T sz lim N ne a h0 b h q X → CR h0 b (l_103_15 R (r + 1 + m) (some b) (some 31) (some a) (nI dd) (nI v) h) (jnP T sz lim 18 1 Rp r q X) (SNs T sz lim N ne a h0 b) okR := by
  intro r
  induction r with
  | zero => intro v q X m h _ h1 hX; have := hX.1; omega
  | succ r ih =>
    intro v q X m h hv h1 hX s
    have bb := s.2.1.2.2.1
    obtain ⟨g, a1, a2, a3⟩ := s_122 (k := 18) s.1 (by omega)
    rw [show r + 1 + 1 + m = (r + 1 + m) + 1 by omega, l_103_15, b_103_15, if_neg (by rw [nI_leI (by omega) (by omega)]; omega), b_103_23, rC31 s.1.1, grd_e, Option.bind_some, a1, Option.bind_some]
    dsimp only
    show CR h0 b _ (if isW T sz lim q 18 = true then _ else _) _ _
    cases hw : isW T sz lim q 18
    · rw [hw, if_neg (by decide)] at a3
      rw [if_pos (show bI false = 0 from rfl), if_neg (by decide), b_103_59]
      exact ⟨g, true, by rw [grd1, Option.bind_some]; rfl, fun z => (by cases z), fun _ => ⟨q, X, rfl, s.fz a3 a2 (by decide) (by decide)⟩⟩
    · rw [hw, if_pos rfl] at a3
      have s' := s.fz a3 a2 (by decide) (by decide)
      rw [if_neg (show ¬ bI true = 0 by decide), if_pos rfl, b_103_33, rC_e s'.2.2.1.1.1 (by omega), grd_e, Option.bind_some]
      refine CR.bindR (A := fun g => b_103_45 R (l_103_15 R (r + 1 + m)) (some b) (some 31) (some a) (nI dd) (nI v) g) (B := fun g => b_103_43 R g) (hR _ X g hX s') (fun g => rfl) (fun g2 q2 Y e2 s2 => ?_)
      have pk := hP (tkN T sz lim q) X s'.1.2.2.2 hX
      rw [e2] at pk
      obtain ⟨_, _, ps⟩ := pk
      obtain ⟨sx, o1, y40⟩ := SX_lay (k := 1) (x := X 902) (y := Y 902) (z := 0) hX ps
      obtain ⟨g3, c1, c2⟩ := s_106 (k := 1) (av := 0) (bv := 0) (x := X 902) (y := Y 902) s2 y40 rfl
      show CR h0 b (b_103_45 R (l_103_15 R (r + 1 + m)) (some b) (some 31) (some a) (nI dd) (nI v) g2) _ _ _
      rw [b_103_45, rC_e s2.2.2.1.1.1 (by omega), grd_e, Option.bind_some, c1, Option.bind_some, bnd_e, nI_add]
      have := ps.1.1
      exact ih (v + 1) q2 _ m g3 (by omega) (by omega) sx c2
theorem s_103 {h0 : Hp} {b dd : Nat} {R : Option Nat → Option Nat → Option Nat → Int32 → Hp → Option (Int32 × Hp)} {Rp : Nat → (Nat → Nat) → RsT} (hR : RC T sz lim N ne a h0 b (fun h => R (some b) (some 31) (some a) (nI dd) h) Rp) (hP : RP sz ne Rp) : RC T sz lim N ne a h0 b (fun h => F_103 R (some b) (some 31) (some a) (nI dd) h) (anP T sz lim Rp) := by
  intro q X h hX s
  have bb := s.2.1.2.2.1
  show CR h0 b (F_103 R (some b) (some 31) (some a) (nI dd) h) _ _ _
  rw [F_103, b_103_0, rC_e s.2.2.1.1.1 (by omega), grd_e, Option.bind_some]
  refine CR.bindR (A := fun g => b_103_12 R (some b) (some 31) (some a) (nI dd) g) (B := fun g => b_103_10 R g) (hR _ X h hX s) (fun g => rfl) (fun g2 q2 Y e2 s2 => ?_)
  have pk := hP q X s.1.2.2.2 hX
  rw [e2] at pk
  obtain ⟨_, _, ps⟩ := pk
  have := ps.1.1
  obtain ⟨m, hm⟩ := FU_ge (21 + 1) (by omega)
  show CR h0 b (b_103_12 R (some b) (some 31) (some a) (nI dd) g2) _ _ _
  rw [b_103_12, bnd_e, hm]
  exact l_103 hR hP 21 0 q2 Y m g2 (by omega) (by omega) (ps.sx hX) s2
theorem l_102 {h0 : Hp} {b dd : Nat} {R : Option Nat → Option Nat → Option Nat → Int32 → Hp → Option (Int32 × Hp)} {Rp : Nat → (Nat → Nat) → RsT} (hR : RC T sz lim N ne a h0 b (fun h => F_103 R (some b) (some 31) (some a) (nI dd) h) Rp) (hP : RP sz ne Rp) : ∀ r v q X m h, v + r = 21 → 21 ≤ X 901 + r → SX X → SNs T sz lim N ne a h0 b h q X → CR h0 b (l_102_15 R (r + 1 + m) (some b) (some 31) (some a) (nI dd) (nI v) h) (jnP T sz lim 17 0 Rp r q X) (SNs T sz lim N ne a h0 b) okR := by
  intro r
  induction r with
  | zero => intro v q X m h _ h1 hX; have := hX.1; omega
  | succ r ih =>
    intro v q X m h hv h1 hX s
    have bb := s.2.1.2.2.1
    obtain ⟨g, a1, a2, a3⟩ := s_122 (k := 17) s.1 (by omega)
    rw [show r + 1 + 1 + m = (r + 1 + m) + 1 by omega, l_102_15, b_102_15, if_neg (by rw [nI_leI (by omega) (by omega)]; omega), b_102_23, rC31 s.1.1, grd_e, Option.bind_some, a1, Option.bind_some]
    dsimp only
    show CR h0 b _ (if isW T sz lim q 17 = true then _ else _) _ _
    cases hw : isW T sz lim q 17
    · rw [hw, if_neg (by decide)] at a3
      rw [if_pos (show bI false = 0 from rfl), if_neg (by decide), b_102_59]
      exact ⟨g, true, by rw [grd1, Option.bind_some]; rfl, fun z => (by cases z), fun _ => ⟨q, X, rfl, s.fz a3 a2 (by decide) (by decide)⟩⟩
    · rw [hw, if_pos rfl] at a3
      have s' := s.fz a3 a2 (by decide) (by decide)
      rw [if_neg (show ¬ bI true = 0 by decide), if_pos rfl, b_102_33, rC_e s'.2.2.1.1.1 (by omega), grd_e, Option.bind_some]
      refine CR.bindR (A := fun g => b_102_45 R (l_102_15 R (r + 1 + m)) (some b) (some 31) (some a) (nI dd) (nI v) g) (B := fun g => b_102_43 R g) (hR _ X g hX s') (fun g => rfl) (fun g2 q2 Y e2 s2 => ?_)
      have pk := hP (tkN T sz lim q) X s'.1.2.2.2 hX
      rw [e2] at pk
      obtain ⟨_, _, ps⟩ := pk
      obtain ⟨sx, o1, y40⟩ := SX_lay (k := 0) (x := X 902) (y := Y 902) (z := 0) hX ps
      obtain ⟨g3, c1, c2⟩ := s_106 (k := 0) (av := 0) (bv := 0) (x := X 902) (y := Y 902) s2 y40 rfl
      show CR h0 b (b_102_45 R (l_102_15 R (r + 1 + m)) (some b) (some 31) (some a) (nI dd) (nI v) g2) _ _ _
      rw [b_102_45, rC_e s2.2.2.1.1.1 (by omega), grd_e, Option.bind_some, c1, Option.bind_some, bnd_e, nI_add]
      have := ps.1.1
      exact ih (v + 1) q2 _ m g3 (by omega) (by omega) sx c2
theorem s_102 {h0 : Hp} {b dd : Nat} {R : Option Nat → Option Nat → Option Nat → Int32 → Hp → Option (Int32 × Hp)} {Rp : Nat → (Nat → Nat) → RsT} (hR : RC T sz lim N ne a h0 b (fun h => R (some b) (some 31) (some a) (nI dd) h) Rp) (hP : RP sz ne Rp) : RC T sz lim N ne a h0 b (fun h => F_102 R (some b) (some 31) (some a) (nI dd) h) (orP T sz lim Rp) := by
  intro q X h hX s
  have bb := s.2.1.2.2.1
  have h3 := s_103 hR hP
  have p3 := anP_P (T := T) (lim := lim) hP
  show CR h0 b (F_102 R (some b) (some 31) (some a) (nI dd) h) _ _ _
  rw [F_102, b_102_0, rC_e s.2.2.1.1.1 (by omega), grd_e, Option.bind_some]
  refine CR.bindR (A := fun g => b_102_12 R (some b) (some 31) (some a) (nI dd) g) (B := fun g => b_102_10 R g) (h3 _ X h hX s) (fun g => rfl) (fun g2 q2 Y e2 s2 => ?_)
  have pk := p3 q X s.1.2.2.2 hX
  rw [e2] at pk
  obtain ⟨_, _, ps⟩ := pk
  have := ps.1.1
  obtain ⟨m, hm⟩ := FU_ge (21 + 1) (by omega)
  show CR h0 b (b_102_12 R (some b) (some 31) (some a) (nI dd) g2) _ _ _
  rw [b_102_12, bnd_e, hm]
  exact l_102 h3 p3 21 0 q2 Y m g2 (by omega) (by omega) (ps.sx hX) s2
end SENC
