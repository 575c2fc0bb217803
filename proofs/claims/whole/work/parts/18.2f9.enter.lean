/-! a house is entered; house, day, sentence, said of the class -/
section ENTER
variable {τ : Nat → Nat} {h : Hp}
theorem l_83 {a r n : Nat} {hg : Nat → Nat} (hn : n ≤ 10) (ha : a ≠ 34) (hr : r ≠ 34) : ∀ k i m h, i + k = n → Fix h → hK h a = 4 → hI h a 5 = nI n → hQ h a 1 = some r → hK h r = 16 → hL h r = 10 → (∀ d, d < n → ∃ p, p ≠ 34 ∧ hQ h r d = some p ∧ hK h p = 1 ∧ hI h p 10 = nI (hg d)) →
    ∃ g, l_83_23 (k + 1 + m) (some 33) (some a) (nI i) h = some g ∧ Fz [34] h g ∧ (∀ d, i ≤ d → d < n → hI g 34 d = nI (hg d)) ∧ ∀ d, d < i → hI g 34 d = hI h 34 d := by
  intro k
  induction k with
  | zero =>
    intro i m h hi hF ka ia qa kr lr hp
    obtain rfl : i = n := by omega
    refine ⟨h, ?_, Fz.rfl', fun d h1 h2 => by omega, fun _ _ => rfl⟩
    rw [show 0 + 1 + m = m + 1 by omega, l_83_23, b_83_23, gI_e ka, Option.bind_some, ia, if_pos (Int32.le_refl _), b_83_52]
  | succ k ih =>
    intro i m h hi hF ka ia qa kr lr hp
    obtain ⟨p, p0, p1, p2, p3⟩ := hp i (by omega)
    have z1 : Fz [34] h (sI h 34 i (nI (hg i))) := Fz.sI Fz.rfl' (Or.inl (by decide))
    have I1 : ∀ q, q ≠ 34 → hI (sI h 34 i (nI (hg i))) q = hI h q := fun q hq => funext fun j => by rw [hI_sI, if_neg (fun z => hq z.1)]
    obtain ⟨g, b1, b2, b3, b4⟩ := ih (i + 1) m (sI h 34 i (nI (hg i))) (by omega) (fx_sI hF (by omega)) ka (by rw [I1 a ha]; exact ia) qa kr lr (fun d hd => by
      obtain ⟨p, p0, p1, p2, p3⟩ := hp d hd
      exact ⟨p, p0, p1, p2, by rw [I1 p p0]; exact p3⟩)
    refine ⟨g, ?_, z1.then b2, fun d h1 h2 => ?_, fun d hd => ?_⟩
    · rw [← b1, show k + 1 + 1 + m = (k + 1 + m) + 1 by omega, l_83_23, b_83_23, gI_e ka, Option.bind_some, ia, if_neg (by rw [nI_leI (by omega) (by omega)]; omega), b_83_31, gQ33_0 hF, Option.bind_some, gQ_e ka, Option.bind_some, qa, aQ_n kr (by omega) lr (by omega) (by omega), Option.bind_some, p1, gI_e p2, Option.bind_some, p3, wI34 hF (by omega), Option.bind_some, bnd_e, nI_add]
    · by_cases e : d = i
      · subst e
        rw [b4 d (by omega), hI_sI, if_pos ⟨rfl, rfl⟩]
      · exact b3 d (by omega) h2
    · rw [b4 d (by omega), hI_sI, if_neg (by omega)]
theorem s_83 {a r n v : Nat} {hg : Nat → Nat} (hF : Fix h) (hn : n ≤ 10) (ha : (a < 33 ∨ 35 < a) ∧ a < 1000000) (hr : (r < 33 ∨ 35 < r) ∧ r < 1000000) (ka : hK h a = 4) (ia : hI h a 5 = nI n) (i7 : hI h a 7 = mI v) (qa : hQ h a 1 = some r) (kr : hK h r = 16) (lr : hL h r = 10) (hp : ∀ d, d < n → ∃ p, ((p < 33 ∨ 35 < p) ∧ p < 1000000) ∧ hQ h r d = some p ∧ hK h p = 1 ∧ hI h p 10 = nI (hg d)) :
    ∃ g, f_83 (some 33) (some a) h = some g ∧ Fa [3000033, 4000033, 34, 35] h g ∧ Fix g ∧ (hN g = hN h ∧ hC g = hC h ∧ hS g = hS h) ∧ hQ g 33 2 = some a ∧ hI g 33 3 = mI v ∧ (∀ d, d < 10 → hI g 35 d = nI 0) ∧ ∀ d, d < n → hI g 34 d = nI (hg d) := by
  generalize x1 : sQ h 33 2 (some a) = g1
  generalize x2 : sI g1 33 3 (mI v) = g2
  have a1 : Fa [3000033, 4000033, 34, 35] h g1 := by rw [← x1]; exact Fa.sQ Fa.rfl' (Or.inr (Or.inl (by decide)))
  have a2 : Fa [3000033, 4000033, 34, 35] h g2 := by rw [← x2]; exact Fa.sI a1 (Or.inr (Or.inl (by decide)))
  have F1 : Fix g1 := a1.fix hF (by decide) (by decide)
  have F2 : Fix g2 := a2.fix hF (by decide) (by decide)
  have K1 : hK g1 = hK h := by rw [← x1]; rfl
  have K2 : hK g2 = hK h := by rw [← x2]; exact K1
  have L2 : hL g2 = hL h := by rw [← x2, ← x1]; rfl
  have N2 : hN g2 = hN h ∧ hC g2 = hC h ∧ hS g2 = hS h := by rw [← x2, ← x1]; exact ⟨rfl, rfl, rfl⟩
  have I1 : hI g1 = hI h := by rw [← x1]; rfl
  have Q2 : ∀ p j, p ≠ 33 → hQ g2 p j = hQ h p j := fun p j hp' => by rw [← x2, hQ_sI, ← x1, hQ_sQ, if_neg (fun z => hp' z.1)]
  have I2 : ∀ p j, p ≠ 33 → hI g2 p j = hI h p j := fun p j hp' => by rw [← x2, hI_sI, if_neg (fun z => hp' z.1), I1]
  have q3 : hQ g2 33 2 = some a := by rw [← x2, hQ_sI, ← x1, hQ_sQ, if_pos ⟨rfl, rfl⟩]
  have i3 : hI g2 33 3 = mI v := by rw [← x2, hI_sI, if_pos ⟨rfl, rfl⟩]
  obtain ⟨g3, b1, b2, b3⟩ := s_306 (a := 35) (n := 10) (x := nI 0) (h := g2) (by omega) (by omega) (K35 F2) (L35 F2)
  have F3 := b2.fix F2 (by decide)
  have I3 : ∀ p j, p ≠ 33 → p ≠ 35 → p < 1000000 → hI g3 p j = hI h p j := fun p j h1 h2 h4 => by
    rw [b2.I (a := p) (fun z hz => by simp only [List.mem_cons, List.not_mem_nil, or_false] at hz; omega) h4]; exact I2 p j h1
  obtain ⟨m, hm⟩ := FU_ge (n + 1) (by omega)
  obtain ⟨g4, d1, d2, d3, d4⟩ := l_83 (a := a) (r := r) (hg := hg) hn (by omega) (by omega) n 0 m g3 (by omega) F3 (by rw [b2.K, K2]; exact ka) (by rw [I3 a 5 (by omega) (by omega) ha.2]; exact ia) (by rw [b2.Q, Q2 a 1 (by omega)]; exact qa) (by rw [b2.K, K2]; exact kr) (by rw [b2.L, L2]; exact lr) (fun d hd => by
    obtain ⟨p, p0, p1, p2, p3⟩ := hp d hd
    exact ⟨p, by omega, by rw [b2.Q, Q2 r d (by omega)]; exact p1, by rw [b2.K, K2]; exact p2, by rw [I3 p 10 (by omega) (by omega) p0.2]; exact p3⟩)
  refine ⟨g4, ?_, a2.then ((b2.fa.wid (by decide)).then (d2.fa.wid (by decide))), d2.fix F3 (by decide), ⟨by rw [d2.N, b2.N]; exact N2.1, by rw [d2.C, b2.C]; exact N2.2.1, by rw [d2.S, b2.S]; exact N2.2.2⟩, by rw [d2.Q, b2.Q]; exact q3, by rw [d2.I (by decide), b2.I (by decide)]; exact i3, fun d hd => by rw [d2.I (by decide)]; exact b3 d hd, fun d hd => d3 d (by omega) hd⟩
  rw [f_83, b_83_0, pQ33 hF, Option.bind_some, x1, gI_e (by rw [K1]; exact ka), Option.bind_some, I1, i7, pI33 F1, Option.bind_some, x2, gQ33_1 F2, Option.bind_some, b1, Option.bind_some, bnd_e, hm]
  exact d1
abbrev Zh : List Nat := [3000031, 4000031, 5000031, 6000031, 10000031, 7000031, 8000031, 9000031, 2000031, 3000033, 4000033, 34, 35, 12000030, 13000030, 14000030]
abbrev Ze : List Nat := [3000031, 4000031, 5000031, 6000031, 10000031, 7000031, 8000031, 9000031, 2000031]
/-- a text refused -/
def Rf (h g : Hp) (k : Nat) : Prop := Fix g ∧ Fa Ze h g ∧ (hN g ≤ hN h + 100 ∧ hC g ≤ hC h + 100 ∧ hS g ≤ hS h + 1500) ∧ hI g 31 6 = nI k ∧ hI g 31 1 = nI 0
theorem ER.rf {g : Hp} {k e : Nat} (z : ER h g (hN h) k e) : Rf h (sI g 31 1 (nI 0)) k ∧ hI (sI g 31 1 (nI 0)) 31 7 = nI e := by
  obtain ⟨a1, a2, a3, a4, a5⟩ := z
  refine ⟨⟨fx_sI a1 (by omega), (a2.wid (by decide)).then (Fa.sI Fa.rfl' (Or.inr (Or.inl (by decide)))), ⟨by rw [hN_sI]; omega, by rw [hC_sI]; omega, by rw [hS_sI]; omega⟩, by rw [hI_sI, if_neg (by omega)]; exact a4, by rw [hI_sI, if_pos ⟨rfl, rfl⟩]⟩, by rw [hI_sI, if_neg (by omega)]; exact a5⟩
theorem sI_ag {p k : Nat} {x : Int32} (hp : τ p ≠ 1) : Ag τ h (sI h p k x) := fun q hq => ⟨rfl, rfl, rfl, funext fun j => by rw [hI_sI, if_neg (fun z => hp (by rw [← z.1]; exact hq))], rfl⟩
theorem sQ_ag {p k : Nat} {x : Option Nat} (hp : τ p ≠ 1) : Ag τ h (sQ h p k x) := fun q hq => ⟨rfl, rfl, funext fun j => by rw [hQ_sQ, if_neg (fun z => hp (by rw [← z.1]; exact hq))], rfl, rfl⟩
theorem s_132 {T : Nat → Nat} {sz : Nat} (hF : Fix h) (hT : TG τ) (hN' : ∀ q, τ q = 1 → q < hN h) (hb2 : hN h + 200 ≤ 1000000) (h1 : hI h 31 1 = nI sz) (hs : sz ≤ 940) (ht : ∀ i, i < sz → hI h 32 i = nI (T i) ∧ T i < 256) :
    (∀ k e, hsR T sz 900 (sz + 1) 0 X0 0 = .error (k, e) → ∃ g, f_132 (some 30) h = some (-1 - nI e, g) ∧ Rf h g k) ∧
    (∀ n' Y, hsR T sz 900 (sz + 1) 0 X0 0 = .ok (n', Y) → ∃ g, f_132 (some 30) h = some (nI n', g) ∧ Fix g ∧ Fa Zh h g ∧ (hN g ≤ hN h + 100 ∧ hC g ≤ hC h + 100 ∧ hS g ≤ hS h + 1500) ∧ hN h + 5 + 6 * Y 2 = hN g ∧ hI g 31 6 = nI 0 ∧ hI g 31 1 = nI 0 ∧ WF Y ∧
      HoR (tgx τ (hN h + 1) (hN h + 5 + 6 * Y 2) 1) g (hN h + 1) Y ∧ NmT (tgx τ (hN h + 1) (hN h + 5 + 6 * Y 2) 1) g (hN h + 1) (Y 2) (fun d => Y (1000 + d)) ∧ hQ g 33 2 = some (hN h + 1) ∧ hI g 33 3 = mI (Y 4) ∧ (∀ d, d < 10 → hI g 35 d = nI 0) ∧ (∀ d, d < Y 2 → hI g 34 d = nI (dHg Y d)) ∧ hQ g 30 11 = none ∧ hQ g 30 12 = none ∧ hI g 30 13 = nI 0) := by
  obtain ⟨g1, g, x, a1, a2, a3, a4, a5⟩ := s_56 (T := T) (b := hN h) hF rfl hb2 h1 hs ht
  have n98 := hF.1
  have hd : ∀ f, Fix f → f_56 (some (hN h)) g1 = some (x, f) → Fix g1 → f_132 (some 30) h = if ¬ x = none then b_132_37 (some 30) x (sI f 31 1 (nI 0)) else b_132_27 (some 30) (sI f 31 1 (nI 0)) := fun f hf h56 _ => by
    rw [f_132, b_132_0, bnd_e, gQ30_0 ((Fa.new (Z := [])).fix hF (by decide) (by decide) : Fix (hNew h 5 0 (bd_nf 5))), Option.bind_some, Option.isSome_some, grd_e, Option.bind_some, a1, Option.bind_some, a2, grd_e, Option.bind_some, h56, Option.bind_some, bnd_e]
    dsimp only
    rw [gQ30_0 hf, Option.bind_some, pI31 hf, Option.bind_some]
  have F1 : Fix g1 := by
    obtain ⟨g1', q1, _, _, q4, q5, q6, q7⟩ := s_55 (h := h) (b := hN h) rfl n98
    rw [q1] at a1
    cases a1
    exact q7.fix hF (by decide) (by decide)
  constructor
  · intro k e he
    obtain ⟨rfl, er⟩ := a4 k e he
    obtain ⟨r1, r2⟩ := er.rf
    refine ⟨sI g 31 1 (nI 0), ?_, r1⟩
    rw [hd g er.1 a3 F1, if_neg (fun z => z rfl), b_132_27, gQ30_0 r1.1, Option.bind_some, gI31 r1.1, Option.bind_some, r2]
  · intro n' Y hY
    obtain ⟨rfl, hk, fr, Fg, wf, i8, n5, i6⟩ := a5 n' Y hY
    obtain ⟨fa, _, _, fN, fC, fS⟩ := fr
    have w2 := wf.2.2.1
    generalize hτ : tgx τ (hN h + 1) (hN h + 5 + 6 * Y 2) 1 = τ'
    have t1 : ∀ q, hN h + 1 ≤ q → q < hN h + 5 + 6 * Y 2 → τ' q = 1 := fun q q1 q2 => by rw [← hτ]; exact tgx_in q1 q2
    have t0 : ∀ q, q < 60 → τ' q ≠ 1 := fun q hq z => by rw [← hτ, tgx_lo (by omega)] at z; have := (hT q z).1; omega
    have ho : HoR τ' g (hN h + 1) Y := hk.hor n98 t1
    have nm : NmT τ' g (hN h + 1) (Y 2) (fun d => Y (1000 + d)) := by
      obtain ⟨n1, n2, n3, n4⟩ := hk.nm w2
      obtain ⟨⟨_, sb⟩, _, _, hdo, _⟩ := hk
      obtain ⟨r, r1, r2, r3, r4⟩ := n4
      have sb1 := sb.1.2.2.1
      rw [sb1] at r1
      cases r1
      refine ⟨⟨t1 _ (by omega) (by omega), n1, n2, n3⟩, _, t1 _ (by omega) (by omega), sb1, r2, r3, fun d hd => ?_⟩
      obtain ⟨p, w, u1, u2⟩ := r4 d hd
      have := (hdo d hd).1
      rw [this] at u1
      cases u1
      exact ⟨_, w, t1 _ (by omega) (by omega), this, u2⟩
    have hg10 : ∀ d, d < Y 2 → hI g (hN h + 5 + 6 * d) 10 = nI (dHg Y d) ∧ hQ g (hN h + 3) d = some (hN h + 5 + 6 * d) ∧ hK g (hN h + 5 + 6 * d) = 1 := fun d hd => by
      have dd := hk.2.2.2.1 d hd
      exact ⟨dd.2.1.2.2.2 10 (by omega) (by omega), dd.1, dd.2.1.1.1⟩
    have sb := hk.1
    have i7 : hI g (hN h + 1) 7 = mI (Y 4) := hk.2.1.2.2.2.2.1
    have i5 : hI g (hN h + 1) 5 = nI (Y 2) := hk.2.1.2.2.1
    generalize x2 : sI g 31 1 (nI 0) = g2
    have F2 : Fix g2 := by rw [← x2]; exact fx_sI Fg (by omega)
    have I2 : ∀ p j, p ≠ 31 → hI g2 p j = hI g p j := fun p j hp => by rw [← x2, hI_sI, if_neg (fun z => hp z.1)]
    have K2 : hK g2 = hK g := by rw [← x2]; rfl
    have L2 : hL g2 = hL g := by rw [← x2]; rfl
    have Q2 : hQ g2 = hQ g := by rw [← x2]; rfl
    have N2 : hN g2 = hN g ∧ hC g2 = hC g ∧ hS g2 = hS g := by rw [← x2]; exact ⟨rfl, rfl, rfl⟩
    obtain ⟨g3, e1, e2, e3, e4, e5, e6, e7, e8⟩ := s_83 (a := hN h + 1) (r := hN h + 3) (n := Y 2) (v := Y 4) (hg := dHg Y) F2 w2 (by omega) (by omega) (by rw [K2]; exact sb.2.1.1) (by rw [I2 _ _ (by omega)]; exact i5) (by rw [I2 _ _ (by omega)]; exact i7) (by rw [Q2]; exact sb.2.1.2.2.1) (by rw [K2]; exact sb.2.2.2.1.1) (by rw [L2]; exact sb.2.2.2.1.2) (fun d hd => ⟨hN h + 5 + 6 * d, by omega, by rw [Q2]; exact (hg10 d hd).2.1, by rw [K2]; exact (hg10 d hd).2.2, by rw [I2 _ _ (by omega)]; exact (hg10 d hd).1⟩)
    generalize x4 : sQ g3 30 11 none = g4
    generalize x5 : sQ g4 30 12 none = g5
    generalize x6 : sI g5 30 13 (nI 0) = g6
    have f4 : Fa Zh g3 g4 := by rw [← x4]; exact Fa.sQ Fa.rfl' (Or.inr (Or.inl (by decide)))
    have f5 : Fa Zh g4 g5 := by rw [← x5]; exact Fa.sQ Fa.rfl' (Or.inr (Or.inl (by decide)))
    have f6 : Fa Zh g5 g6 := by rw [← x6]; exact Fa.sI Fa.rfl' (Or.inr (Or.inl (by decide)))
    have F4 : Fix g4 := f4.fix e3 (by decide) (by decide)
    have F5 : Fix g5 := f5.fix F4 (by decide) (by decide)
    have F6 : Fix g6 := f6.fix F5 (by decide) (by decide)
    have N6 : hN g6 = hN g ∧ hC g6 = hC g ∧ hS g6 = hS g := by
      rw [← x6, ← x5, ← x4]
      exact ⟨e4.1.trans N2.1, e4.2.1.trans N2.2.1, e4.2.2.trans N2.2.2⟩
    have f2 : Fa Zh g g2 := by rw [← x2]; exact Fa.sI Fa.rfl' (Or.inr (Or.inl (by decide)))
    have f36 : Fa Zh g3 g6 := f4.then (f5.then f6)
    have fz : Fa Zh g g6 := f2.then ((e2.wid (by decide)).then f36)
    have gN : hN h ≤ hN g := by omega
    have ag : Ag τ' g g6 := by
      refine ((?_ : Ag τ' g g2).then (?_ : Ag τ' g2 g3)).then (((?_ : Ag τ' g3 g4).then (?_ : Ag τ' g4 g5)).then (?_ : Ag τ' g5 g6))
      · rw [← x2]; exact sI_ag (t0 31 (by omega))
      · refine e2.ag (fun p hp => ?_) (fun p hp => ?_) (fun z hz => ?_)
        · by_cases c : p < hN h + 1 ∨ hN h + 5 + 6 * Y 2 ≤ p
          · rw [← hτ] at hp
            unfold tgx at hp
            rw [if_neg (by omega)] at hp
            exact hT p hp
          · exact ⟨by omega, by omega⟩
        · by_cases c : p < hN h + 1 ∨ hN h + 5 + 6 * Y 2 ≤ p
          · rw [← hτ] at hp
            unfold tgx at hp
            rw [if_neg (by omega)] at hp
            have := hN' p hp
            omega
          · omega
        · simp only [List.mem_cons, List.not_mem_nil, or_false] at hz
          rcases hz with rfl | rfl | rfl | rfl
          · exact t0 33 (by omega)
          · exact t0 33 (by omega)
          · exact t0 34 (by omega)
          · exact t0 35 (by omega)
      · rw [← x4]; exact sQ_ag (t0 30 (by omega))
      · rw [← x5]; exact sQ_ag (t0 30 (by omega))
      · rw [← x6]; exact sI_ag (t0 30 (by omega))
    have i86 : hI g6 (hN h + 1) 8 = nI n' := by
      rw [(ag _ (t1 _ (by omega) (by omega))).2.2.2.1]; exact i8
    have m3 : hN g3 = hN g := e4.1.trans N2.1
    refine ⟨g6, ?_, F6, (fa.wid (by decide)).then fz, ⟨by omega, by omega, by omega⟩, by omega, ?_, ?_, wf, ho.ag ag, nm.ag ag, ?_, ?_, fun d hd => ?_, fun d hd => ?_, ?_, ?_, ?_⟩
    · rw [hd g Fg a3 F1, if_pos (fun z => by cases z), x2, b_132_37, gQ30_1 F2, Option.bind_some, rC33 F2, grd_e, Option.bind_some, e1, Option.bind_some, pQ30 e3, Option.bind_some, x4, pQ30 F4, Option.bind_some, x5, pI30 F5, Option.bind_some, x6, gI_e (by rw [(ag _ (t1 (hN h + 1) (by omega) (by omega))).1]; exact sb.2.1.1), Option.bind_some, i86]
    · rw [show hI g6 31 6 = hI g3 31 6 by rw [← x6, hI_sI, if_neg (by omega), ← x5, hI_sQ, ← x4, hI_sQ], e2.I1 (by omega) (by decide) (by decide), ← x2, hI_sI, if_neg (by omega)]; exact i6
    · rw [show hI g6 31 1 = hI g3 31 1 by rw [← x6, hI_sI, if_neg (by omega), ← x5, hI_sQ, ← x4, hI_sQ], e2.I1 (by omega) (by decide) (by decide), ← x2, hI_sI, if_pos ⟨rfl, rfl⟩]
    · rw [← x6, hQ_sI, ← x5, hQ_sQ, if_neg (by omega), ← x4, hQ_sQ, if_neg (by omega)]; exact e5
    · rw [← x6, hI_sI, if_neg (by omega), ← x5, hI_sQ, ← x4, hI_sQ]; exact e6
    · rw [← x6, hI_sI, if_neg (by omega), ← x5, hI_sQ, ← x4, hI_sQ]; exact e7 d hd
    · rw [← x6, hI_sI, if_neg (by omega), ← x5, hI_sQ, ← x4, hI_sQ]; exact e8 d hd
    · rw [← x6, hQ_sI, ← x5, hQ_sQ, if_neg (by omega), ← x4, hQ_sQ, if_pos ⟨rfl, rfl⟩]
    · rw [← x6, hQ_sI, ← x5, hQ_sQ, if_pos ⟨rfl, rfl⟩]
    · rw [← x6, hI_sI, if_pos ⟨rfl, rfl⟩]
end ENTER
