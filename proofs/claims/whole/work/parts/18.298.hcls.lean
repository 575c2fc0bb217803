/-! the class reads a house: what it keeps -/
abbrev Zc : List Nat := [3000031, 4000031, 5000031, 6000031, 10000031, 7000031, 8000031, 9000031]
/-- a name by 27 and by 32 -/
def NmR (v w : Nat) : Prop := ∃ (f : Nat → Nat) (n : Nat), (∀ i, i < n → 1 ≤ f i ∧ f i ≤ 26) ∧ n ≤ 10 ∧ v = vF 27 f n ∧ w = vF 32 f n
theorem NmR.iff {v w v' w' : Nat} (a : NmR v w) (b : NmR v' w') : w = w' ↔ v = v' := by
  obtain ⟨f, n, h1, h2, h3, h4⟩ := a
  obtain ⟨g, m, k1, k2, k3, k4⟩ := b
  rw [h3, h4, k3, k4]
  exact vF_iff (by omega) (by omega) h1 k1
theorem NmR.lt {v w : Nat} (a : NmR v w) : w < 1125899906842625 := by
  obtain ⟨f, n, h1, h2, h3, h4⟩ := a
  have l := vF_lt (B := 32) (f := f) (by omega) n (fun i hi => (h1 i hi).2)
  have : (32 : Nat) ^ n ≤ 32 ^ 10 := Nat.pow_le_pow_right (by omega) h2
  have e : (32 : Nat) ^ 10 = 1125899906842624 := by decide
  omega
/-- the reader, its house and its rows -/
def SB (h : Hp) (b : Nat) : Prop := (hK h b = 5 ∧ hQ h b 0 = some 31 ∧ hQ h b 1 = some (b + 1)) ∧ (hK h (b + 1) = 4 ∧ hQ h (b + 1) 0 = some (b + 2) ∧ hQ h (b + 1) 1 = some (b + 3) ∧ hQ h (b + 1) 2 = some (b + 4)) ∧ (hK h (b + 2) = 12 ∧ hL h (b + 2) = 100) ∧ (hK h (b + 3) = 16 ∧ hL h (b + 3) = 10) ∧ (hK h (b + 4) = 12 ∧ hL h (b + 4) = 18)
/-- a Door's object, with nothing traced -/
def SD (h : Hp) (p : Nat) : Prop := (hK h p = 1 ∧ hQ h p 0 = some (p + 1) ∧ hQ h p 1 = some (p + 2) ∧ hQ h p 2 = some (p + 3) ∧ hQ h p 3 = some (p + 4) ∧ hQ h p 4 = some (p + 5)) ∧ ((hK h (p + 1) = 13 ∧ hL h (p + 1) = 12) ∧ (hK h (p + 2) = 13 ∧ hL h (p + 2) = 12) ∧ (hK h (p + 3) = 13 ∧ hL h (p + 3) = 4) ∧ (hK h (p + 4) = 13 ∧ hL h (p + 4) = 4) ∧ (hK h (p + 5) = 12 ∧ hL h (p + 5) = 4)) ∧
  ∀ j, hJ h (p + 1) j = 0 ∧ hJ h (p + 2) j = 0 ∧ hJ h (p + 3) j = 0 ∧ hJ h (p + 4) j = 0 ∧ hI h (p + 5) j = 0
/-- a door told up to its number m -/
def DP (h : Hp) (p : Nat) (X : Nat → Nat) (d m : Nat) : Prop := SD h p ∧ (∃ w, hJ h p 5 = lN w ∧ NmR (X (1000 + d)) w) ∧ ∀ k, 6 ≤ k → k < m → hI h p k = nI (X (104 + k + 10 * d))
def CN (h : Hp) (b : Nat) (X Z : Nat → Nat) : Prop := SB h b ∧ (hI h (b + 1) 3 = nI (X 0) ∧ hI h (b + 1) 4 = nI (X 1) ∧ hI h (b + 1) 5 = nI (X 2) ∧ hI h (b + 1) 6 = nI (X 3) ∧ hI h (b + 1) 7 = mI (X 4) ∧ hI h (b + 1) 8 = nI (X 900)) ∧ (∀ c, c < 100 → hI h (b + 2) c = nI (Z c)) ∧
  (∀ d, d < X 2 → hQ h (b + 3) d = some (b + 5 + 6 * d) ∧ DP h (b + 5 + 6 * d) X d 14) ∧ (∀ i, i < 3 * X 3 → hI h (b + 4) i = nI (X (310 + i)))
/-- places agree -/
def Ab (P : Nat → Prop) (h g : Hp) : Prop := ∀ a, P a → hK g a = hK h a ∧ hL g a = hL h a ∧ hI g a = hI h a ∧ hJ g a = hJ h a ∧ hQ g a = hQ h a
theorem Fz.ab {Z : List Nat} {h g : Hp} (hz : Fz Z h g) (hZ : ∀ z, z ∈ Z → z % 1000000 < 98) {P : Nat → Prop} (hP : ∀ a, P a → 98 ≤ a ∧ a < 1000000) : Ab P h g := fun a ha => by
  have := hP a ha
  exact ⟨by rw [hz.K], by rw [hz.L], hz.I (fun z hm e => by have := hZ z hm; omega) this.2, hz.J (fun z hm e => by have := hZ z hm; omega) this.2, by rw [hz.Q]⟩
theorem Ab.wsI {h : Hp} {P : Nat → Prop} {a k : Nat} {x : Int32} (hP : ¬ P a) : Ab P h (sI h a k x) := fun c hc =>
  ⟨rfl, rfl, funext fun j => by rw [hI_sI, if_neg (show ¬ (c = a ∧ j = k) from fun z => hP (z.1 ▸ hc))], rfl, rfl⟩
theorem Ab.wsJ {h : Hp} {P : Nat → Prop} {a k : Nat} {x : Int64} (hP : ¬ P a) : Ab P h (sJ h a k x) := fun c hc =>
  ⟨rfl, rfl, rfl, funext fun j => by rw [hJ_sJ, if_neg (show ¬ (c = a ∧ j = k) from fun z => hP (z.1 ▸ hc))], rfl⟩
theorem Ab.wsQ {h : Hp} {P : Nat → Prop} {a k : Nat} {x : Option Nat} (hP : ¬ P a) : Ab P h (sQ h a k x) := fun c hc =>
  ⟨rfl, rfl, rfl, rfl, funext fun j => by rw [hQ_sQ, if_neg (show ¬ (c = a ∧ j = k) from fun z => hP (z.1 ▸ hc))]⟩
theorem Ab.new {h : Hp} {P : Nat → Prop} {c n sl : Nat} (hP : ∀ a, P a → a < hN h) : Ab P h (hNew h c n sl) := fun a ha => by
  have := hP a ha
  rw [hK_new, hL_new, hI_new, hJ_new, hQ_new, if_neg (by omega), if_neg (by omega), if_neg (by omega), if_neg (by omega), if_neg (by omega)]
  exact ⟨rfl, rfl, rfl, rfl, rfl⟩
theorem Ab.then {h g f : Hp} {P : Nat → Prop} (a : Ab P h g) (b : Ab P g f) : Ab P h f := fun c hc =>
  ⟨(b c hc).1.trans (a c hc).1, (b c hc).2.1.trans (a c hc).2.1, (b c hc).2.2.1.trans (a c hc).2.2.1, (b c hc).2.2.2.1.trans (a c hc).2.2.2.1, (b c hc).2.2.2.2.trans (a c hc).2.2.2.2⟩
theorem Ab.mono {h g : Hp} {P Q : Nat → Prop} (a : Ab P h g) (hQ : ∀ c, Q c → P c) : Ab Q h g := fun c hc => a c (hQ c hc)
theorem SD.cg {h g : Hp} {p : Nat} (e : Ab (fun a => p ≤ a ∧ a < p + 6) h g) (s : SD h p) : SD g p := by
  unfold SD at *
  obtain ⟨k0, l0, i0, j0, q0⟩ := e p (by omega)
  obtain ⟨k1, l1, i1, j1, q1⟩ := e (p + 1) (by omega)
  obtain ⟨k2, l2, i2, j2, q2⟩ := e (p + 2) (by omega)
  obtain ⟨k3, l3, i3, j3, q3⟩ := e (p + 3) (by omega)
  obtain ⟨k4, l4, i4, j4, q4⟩ := e (p + 4) (by omega)
  obtain ⟨k5, l5, i5, j5, q5⟩ := e (p + 5) (by omega)
  rw [k0, q0, k1, l1, k2, l2, k3, l3, k4, l4, k5, l5, j1, j2, j3, j4, i5]
  exact s
theorem DP.cg {h g : Hp} {p d m : Nat} {X Y : Nat → Nat} (e : Ab (fun a => p ≤ a ∧ a < p + 6) h g) (ey : Y (1000 + d) = X (1000 + d) ∧ ∀ k, 6 ≤ k → k < m → Y (104 + k + 10 * d) = X (104 + k + 10 * d)) (s : DP h p X d m) : DP g p Y d m := by
  obtain ⟨k0, l0, i0, j0, q0⟩ := e p (by omega)
  obtain ⟨s1, s2, s3⟩ := s
  refine ⟨s1.cg e, by rw [j0, ey.1]; exact s2, fun k h1 h2 => ?_⟩
  rw [i0, ey.2 k h1 h2]
  exact s3 k h1 h2
theorem SB.cg {h g : Hp} {b : Nat} (eK : hK g = hK h) (eL : hL g = hL h) (eQ : hQ g b = hQ h b ∧ hQ g (b + 1) = hQ h (b + 1)) (s : SB h b) : SB g b := by
  unfold SB at *
  rw [eK, eL, eQ.1, eQ.2]
  exact s
abbrev Zs : List Nat := [3000031, 4000031, 5000031, 6000031, 10000031, 8000031, 9000031]
def FR (h0 h : Hp) (b n : Nat) : Prop := Fa Zc h0 h ∧ hN h0 = b ∧ (98 ≤ b ∧ b + 200 ≤ 1000000 ∧ hI h 31 6 = nI 0) ∧ hN h = b + 5 + 6 * n ∧ hC h + b = hC h0 + hN h ∧ hS h ≤ hS h0 + 300 + 100 * n
theorem Zs_c : ∀ z, z ∈ Zs → z ∈ Zc := by decide
theorem FR.fz {h0 h g : Hp} {b n : Nat} {Z : List Nat} (a : FR h0 h b n) (hz : Fz Z h g) (hZ : ∀ z, z ∈ Z → z ∈ Zs) : FR h0 g b n := by
  obtain ⟨f1, f2, f3, f4, f5, f6⟩ := a
  refine ⟨f1.then (hz.fa.wid (fun z hm => Or.inl (Zs_c z (hZ z hm)))), f2, ⟨f3.1, f3.2.1, ?_⟩, by rw [hz.N]; exact f4, by rw [hz.C, hz.N]; exact f5, by rw [hz.S]; exact f6⟩
  rw [hz.I1 (fun hm => absurd (hZ _ hm) (by decide)) (fun hm => absurd (hZ _ hm) (by decide))]
  exact f3.2.2
theorem FR.wsI {h0 h : Hp} {b n a k : Nat} {x : Int32} (f : FR h0 h b n) (ha : b ≤ a) : FR h0 (sI h a k x) b n := by
  obtain ⟨f1, f2, f3, f4, f5, f6⟩ := f
  exact ⟨f1.sI (Or.inr (Or.inr (by omega))), f2, ⟨f3.1, f3.2.1, by rw [hI_sI, if_neg (by omega)]; exact f3.2.2⟩, f4, f5, f6⟩
theorem FR.wsJ {h0 h : Hp} {b n a k : Nat} {x : Int64} (f : FR h0 h b n) (ha : b ≤ a) : FR h0 (sJ h a k x) b n := by
  obtain ⟨f1, f2, f3, f4, f5, f6⟩ := f
  exact ⟨f1.sJ (Or.inr (Or.inr (by omega))), f2, f3, f4, f5, f6⟩
theorem FR.wsQ {h0 h : Hp} {b n a k : Nat} {x : Option Nat} (f : FR h0 h b n) (ha : b ≤ a) : FR h0 (sQ h a k x) b n := by
  obtain ⟨f1, f2, f3, f4, f5, f6⟩ := f
  exact ⟨f1.sQ (Or.inr (Or.inr (by omega))), f2, f3, f4, f5, f6⟩
/-- all of the new places agree -/
theorem CN.ab {h g : Hp} {b : Nat} {X Z : Nat → Nat} (hC : CN h b X Z) (h10 : X 2 ≤ 10) (e : Ab (fun a => b ≤ a ∧ a < b + 5 + 6 * X 2) h g) : CN g b X Z := by
  obtain ⟨c1, c2, c3, c4, c5⟩ := hC
  obtain ⟨k0, l0, i0, j0, q0⟩ := e b (by omega)
  obtain ⟨k1, l1, i1, j1, q1⟩ := e (b + 1) (by omega)
  obtain ⟨k2, l2, i2, j2, q2⟩ := e (b + 2) (by omega)
  obtain ⟨k3, l3, i3, j3, q3⟩ := e (b + 3) (by omega)
  obtain ⟨k4, l4, i4, j4, q4⟩ := e (b + 4) (by omega)
  refine ⟨?_, by rw [i1]; exact c2, by rw [i2]; exact c3, fun d hd => ?_, by rw [i4]; exact c5⟩
  · unfold SB at *
    rw [k0, q0, k1, q1, k2, l2, k3, l3, k4, l4]
    exact c1
  · rw [q3]
    exact ⟨(c4 d hd).1, (c4 d hd).2.cg (e.mono (fun a ha => by omega)) ⟨rfl, fun _ _ _ => rfl⟩⟩
section HCLS
variable {T : Nat → Nat} {sz lim : Nat}
theorem CT.wsI {h : Hp} {q a k : Nat} {x : Int32} (hC : CT h T sz lim q) (ha : 98 ≤ a) : CT (sI h a k x) T sz lim q := by
  obtain ⟨c1, c2, c3, c4⟩ := hC
  have i : hI (sI h a k x) 31 = hI h 31 := funext fun j => by rw [hI_sI, if_neg (by omega)]
  have i2 : hI (sI h a k x) 32 = hI h 32 := funext fun j => by rw [hI_sI, if_neg (by omega)]
  refine ⟨fx_sI c1 (by omega), ?_, ?_, c4⟩
  · unfold TX at *; rw [i, i2]; exact c2
  · unfold TS at *; rw [i, hJ_sI]; exact c3
theorem CT.wsJ {h : Hp} {q a k : Nat} {x : Int64} (hC : CT h T sz lim q) (ha : 98 ≤ a) : CT (sJ h a k x) T sz lim q := by
  obtain ⟨c1, c2, c3, c4⟩ := hC
  have i : hJ (sJ h a k x) 31 = hJ h 31 := funext fun j => by rw [hJ_sJ, if_neg (by omega)]
  refine ⟨fx_sJ c1 (by omega), ?_, ?_, c4⟩
  · unfold TX at *; rw [hI_sJ]; exact c2
  · unfold TS at *; rw [hI_sJ, i]; exact c3
theorem CT.ab {h g : Hp} {q : Nat} (hC : CT h T sz lim q) (hF : Fix g) (e : Ab (fun a => a = 31 ∨ a = 32) h g) : CT g T sz lim q := by
  obtain ⟨c1, c2, c3, c4⟩ := hC
  obtain ⟨k0, l0, i0, j0, q0⟩ := e 31 (by omega)
  obtain ⟨k1, l1, i1, j1, q1⟩ := e 32 (by omega)
  refine ⟨hF, ?_, ?_, c4⟩
  · unfold TX at *; rw [i0, i1]; exact c2
  · unfold TS at *; rw [i0, j0]; exact c3
def CS (T : Nat → Nat) (sz lim : Nat) (h0 h : Hp) (b q : Nat) (X Z : Nat → Nat) (n : Nat) : Prop := CT h T sz lim q ∧ CN h b X Z ∧ FR h0 h b n ∧ X 2 ≤ 10
def ER (h0 g : Hp) (b k a : Nat) : Prop := Fix g ∧ Fa Zc h0 g ∧ (hC g + b = hC h0 + hN g ∧ hN g ≤ b + 100 ∧ hS g ≤ hS h0 + 1500) ∧ hI g 31 6 = nI k ∧ hI g 31 7 = nI a
def CR (h0 : Hp) (b : Nat) (o : Option (Int32 × Hp)) (st : RsT) (S : Hp → Nat → (Nat → Nat) → Prop) (nx : Nat → (Nat → Nat) → RsT) : Prop := ∃ g w, o = some (bI w, g) ∧ (w = false → ∃ k a, st = .error (k, a) ∧ ER h0 g b k a) ∧ (w = true → ∃ q X, st = nx q X ∧ S g q X)
theorem FR.er {h0 h g : Hp} {b n k a : Nat} (f : FR h0 h b n) (hn : n ≤ 11) (hF : Fix g) (hz : Fz [7000031, 8000031] h g) (h6 : hI g 31 6 = nI k) (h7 : hI g 31 7 = nI a) : ER h0 g b k a := by
  obtain ⟨f1, f2, f3, f4, f5, f6⟩ := f
  exact ⟨hF, f1.then (hz.fa.wid (by decide)), ⟨by rw [hz.C, hz.N]; exact f5, by rw [hz.N]; omega, by rw [hz.S]; omega⟩, h6, h7⟩
/-- a fault told -/
theorem c_err {h0 h : Hp} {b q n k : Nat} {S : Hp → Nat → (Nat → Nat) → Prop} {nx : Nat → (Nat → Nat) → RsT} (hT : CT h T sz lim q) (hB : SB h b) (hf : FR h0 h b n) (hn : n ≤ 11) : CR h0 b ((gQ 5 0 (some b) h).bind fun x1 => (grd (rC 9 x1 h)).bind fun _ => (f_119 x1 (nI k) h).bind fun p2 => (grd (decide (p2.1 = 0 ∨ p2.1 = 1))).bind fun _ => some (p2.1, p2.2)) (erA T sz lim k q) S nx := by
  obtain ⟨g, a1, a2, a3, a4⟩ := s_119 (k := k) hT
  refine ⟨g, false, ?_, fun _ => ⟨_, _, rfl, hf.er hn (a2.fix hT.1 (by decide)) a2 a3 a4⟩, fun z => by cases z⟩
  rw [gQ_e hB.1.1, hB.1.2.1, Option.bind_some, rC31 hT.1, grd_e, Option.bind_some, a1, Option.bind_some]
  rfl
theorem CS.fz {h0 h g : Hp} {b q q' n : Nat} {X Z : Nat → Nat} {Y : List Nat} (s : CS T sz lim h0 h b q X Z n) (hT : CT g T sz lim q') (hz : Fz Y h g) (hY : ∀ z, z ∈ Y → z % 1000000 < 98) (hY2 : ∀ z, z ∈ Y → z ∈ Zs) : CS T sz lim h0 g b q' X Z n := by
  obtain ⟨s1, s2, s3, s4⟩ := s
  exact ⟨hT, s2.ab s4 (hz.ab hY (fun a ha => by have := s3.2.2.1; omega)), s3.fz hz hY2, s4⟩
theorem q50 {h : Hp} {b : Nat} (hB : SB h b) : gQ 5 0 (some b) h = some (some 31) := by rw [gQ_e hB.1.1, hB.1.2.1]
theorem q51 {h : Hp} {b : Nat} (hB : SB h b) : gQ 5 1 (some b) h = some (some (b + 1)) := by rw [gQ_e hB.1.1, hB.1.2.2]
theorem q40 {h : Hp} {b : Nat} (hB : SB h b) : gQ 4 0 (some (b + 1)) h = some (some (b + 2)) := by rw [gQ_e hB.2.1.1, hB.2.1.2.1]
theorem q41 {h : Hp} {b : Nat} (hB : SB h b) : gQ 4 1 (some (b + 1)) h = some (some (b + 3)) := by rw [gQ_e hB.2.1.1, hB.2.1.2.2.1]
theorem q42 {h : Hp} {b : Nat} (hB : SB h b) : gQ 4 2 (some (b + 1)) h = some (some (b + 4)) := by rw [gQ_e hB.2.1.1, hB.2.1.2.2.2]
theorem i4 {h : Hp} {b k : Nat} (hB : SB h b) : gI 4 k (some (b + 1)) h = some (hI h (b + 1) k) := gI_e hB.2.1.1
theorem k_step {h0 h : Hp} {b q n : Nat} {X Z : Nat → Nat} (s : CS T sz lim h0 h b q X Z n) : ∃ g, f_117 (some 31) h = some g ∧ Fz [3000031, 4000031, 5000031, 6000031, 10000031] h g ∧ CS T sz lim h0 g b (tkN T sz lim q) X Z n := by
  obtain ⟨g, a1, a2, a3⟩ := c_step s.1
  exact ⟨g, a1, a2, s.fz a3 a2 (by decide) (by decide)⟩
theorem CN.up {h g : Hp} {b : Nat} {X Y Z Z' : Nat → Nat} (hC : CN h b X Z) (ek : hK g = hK h) (el : hL g = hL h) (eq : hQ g b = hQ h b ∧ hQ g (b + 1) = hQ h (b + 1) ∧ hQ g (b + 3) = hQ h (b + 3)) (e : Ab (fun a => b + 5 ≤ a ∧ a < b + 5 + 6 * X 2) h g) (y2 : Y 2 = X 2)
    (ints : hI g (b + 1) 3 = nI (Y 0) ∧ hI g (b + 1) 4 = nI (Y 1) ∧ hI g (b + 1) 5 = nI (Y 2) ∧ hI g (b + 1) 6 = nI (Y 3) ∧ hI g (b + 1) 7 = mI (Y 4) ∧ hI g (b + 1) 8 = nI (Y 900)) (cells : ∀ c, c < 100 → hI g (b + 2) c = nI (Z' c)) (rules : ∀ i, i < 3 * Y 3 → hI g (b + 4) i = nI (Y (310 + i)))
    (ey : ∀ j, (110 ≤ j ∧ j < 110 + 10 * X 2) ∨ (1000 ≤ j ∧ j < 1000 + X 2) → Y j = X j) : CN g b Y Z' := by
  obtain ⟨c1, c2, c3, c4, c5⟩ := hC
  refine ⟨c1.cg ek el ⟨eq.1, eq.2.1⟩, ints, cells, fun d hd => ?_, rules⟩
  rw [y2] at hd
  rw [eq.2.2]
  exact ⟨(c4 d hd).1, (c4 d hd).2.cg (e.mono (fun a ha => by omega)) ⟨ey _ (by omega), fun k h1 h2 => ey _ (by omega)⟩⟩
/-- a house's names -/
def NmH (h : Hp) (a n : Nat) (N : Nat → Nat) : Prop := hK h a = 4 ∧ hI h a 5 = nI n ∧ n ≤ 10 ∧ (∃ r, hQ h a 1 = some r ∧ hK h r = 16 ∧ hL h r = 10 ∧ ∀ d, d < n → ∃ p w, hQ h r d = some p ∧ hK h p = 1 ∧ hJ h p 5 = lN w ∧ NmR (N d) w)
theorem CN.nm {h : Hp} {b : Nat} {X Z : Nat → Nat} (hC : CN h b X Z) (h10 : X 2 ≤ 10) : NmH h (b + 1) (X 2) (fun d => X (1000 + d)) := by
  obtain ⟨c1, c2, c3, c4, c5⟩ := hC
  refine ⟨c1.2.1.1, c2.2.2.1, h10, b + 3, c1.2.1.2.2.1, c1.2.2.2.1.1, c1.2.2.2.1.2, fun d hd => ?_⟩
  obtain ⟨a1, a2, ⟨w, a3, a4⟩, a5⟩ := c4 d hd
  exact ⟨b + 5 + 6 * d, w, a1, a2.1.1, a3, a4⟩
theorem l_54 {h : Hp} {a n v w : Nat} {N : Nat → Nat} (hH : NmH h a n N) (hv : NmR v w) : ∀ r i m, i + r = n → l_54_2 (r + 1 + m) (some a) (lN w) (nI i) h = some (if ffi (fun d => decide (N d = v)) i r < n then nI (ffi (fun d => decide (N d = v)) i r) else -1, h) := by
  obtain ⟨k, i5, n10, rr, q1, k16, l10, hd⟩ := hH
  have vl := hv.lt
  intro r
  induction r with
  | zero =>
    intro i m hi
    rw [Nat.zero_add, Nat.add_comm 1 m, l_54_2, b_54_2, gI_e k, Option.bind_some, i5, if_pos (by rw [nI_leI (by omega) (by omega)]; omega), b_54_32, if_neg (by show ¬ i < n; omega)]
  | succ r ih =>
    intro i m hi
    obtain ⟨p, w', p1, p2, p3, p4⟩ := hd i (by omega)
    have wl := p4.lt
    rw [show r + 1 + 1 + m = (r + 1 + m) + 1 by omega, l_54_2, b_54_2, gI_e k, Option.bind_some, i5, if_neg (by rw [nI_leI (by omega) (by omega)]; omega), b_54_10, gQ_e k, Option.bind_some, q1, aQ_n k16 (by omega) l10 (by omega) (by omega), Option.bind_some, p1, gJ_e p2, Option.bind_some, p3]
    simp only [lc0, fb_lN_inj (show w' < 2 ^ 63 by omega) (show w < 2 ^ 63 by omega)]
    have eq := p4.iff hv
    by_cases c : N i = v
    · have e : ffi (fun d => decide (N d = v)) i (r + 1) = i := if_pos (decide_eq_true c)
      rw [if_neg (fun z => z (eq.2 c)), b_54_24, e, if_pos (show i < n by omega)]
    · have e : ffi (fun d => decide (N d = v)) i (r + 1) = ffi (fun d => decide (N d = v)) (i + 1) r := if_neg (by rw [decide_eq_true_eq]; exact c)
      rw [if_pos (fun z => c (eq.1 z)), b_54_26, bnd_e, nI_add, ih (i + 1) m (by omega), e]
def fdD (N : Nat → Nat) (n v : Nat) : Nat := ffi (fun d => decide (N d = v)) 0 n
theorem s_54 {h : Hp} {a n v w : Nat} {N : Nat → Nat} (hH : NmH h a n N) (hv : NmR v w) : f_54 (some a) (lN w) h = some (if fdD N n v < n then nI (fdD N n v) else -1, h) := by
  obtain ⟨m, hm⟩ := FU_ge (n + 1) (by have := hH.2.2.1; omega)
  rw [f_54, b_54_0, bnd_e, hm]
  exact l_54 hH hv n 0 m (by omega)
theorem tk_nm {q : Nat} (hq : q ≤ sz) (hk : tkK T sz lim q = 2) : NmR (nV T sz lim q) (vB 32 T (tkA T sz lim q) (tkN T sz lim q - tkA T sz lim q)) := by
  have tw := tk_word (T := T) (lim := lim) hq hk
  exact ⟨_, _, fun i hi => ⟨(tw.1 i hi).1, (tw.1 i hi).2.1⟩, tw.2.1, vB_F _ _ _ _, vB_F _ _ _ _⟩
theorem s_125 {h : Hp} {a n q : Nat} {N : Nat → Nat} (hC : CT h T sz lim q) (ha : 30 ≤ a) (hH : NmH h a n N) : ∃ g, f_125 (some 31) (some a) h = some (if isNm T sz lim q = true ∧ fdD N n (nV T sz lim q) < n then nI (fdD N n (nV T sz lim q)) else -1, g) ∧ (isNm T sz lim q = true ∧ fdD N n (nV T sz lim q) < n → g = h) ∧ (¬ (isNm T sz lim q = true ∧ fdD N n (nV T sz lim q) < n) → Fz [7000031, 8000031] h g ∧ hI g 31 6 = nI (if isNm T sz lim q = true then 3 else 1) ∧ hI g 31 7 = nI (tkA T sz lim q)) := by
  obtain ⟨c1, c2, c3, c4⟩ := id hC
  have n10 := hH.2.2.1
  rw [f_125, b_125_0, rC31 c1, grd_e, Option.bind_some, s_121 c1 c2 c3 c4 (tkA_le c4), Option.bind_some, bnd_e]
  dsimp only
  cases hn : isNm T sz lim q
  · rw [if_pos (show bI false = 0 from rfl), b_125_20, b_125_21, if_neg (fun z => z rfl), b_125_27, if_pos (show bI false = 0 from rfl), b_125_36, b_125_37]
    obtain ⟨g, a1, a2, a3, a4⟩ := s_119 (k := 1) hC
    refine ⟨g, ?_, fun z => absurd z.1 (by decide), fun _ => ⟨a2, a3, a4⟩⟩
    rw [rC31 c1, grd_e, Option.bind_some, a1, Option.bind_some, b_125_41, if_neg (fun z => absurd z.1 (by decide))]
  · have k2 := isNm_k hn
    have j5 : hJ h 31 5 = lN (vB 32 T (tkA T sz lim q) (tkN T sz lim q - tkA T sz lim q)) := c3.2.2.2.1 k2
    rw [if_neg (show ¬ bI true = 0 by decide), b_125_9, gJ31 c1, Option.bind_some, rC_e hH.1 ha, grd_e, Option.bind_some, j5, s_54 hH (tk_nm c4 k2), Option.bind_some]
    dsimp only
    by_cases c : fdD N n (nV T sz lim q) < n
    · refine ⟨h, ?_, fun _ => rfl, fun z => absurd ⟨rfl, c⟩ z⟩
      rw [if_pos c, b_125_21, if_pos (nI_m1 (by omega)), b_125_41, if_pos ⟨rfl, c⟩]
    · obtain ⟨g, a1, a2, a3, a4⟩ := s_119 (k := 3) hC
      refine ⟨g, ?_, fun z => absurd z.2 c, fun _ => ⟨a2, a3, a4⟩⟩
      rw [if_neg c, b_125_21, if_neg (fun z => z rfl), b_125_27, if_neg (show ¬ bI true = 0 by decide), b_125_32, b_125_37, rC31 c1, grd_e, Option.bind_some, a1, Option.bind_some, b_125_41, if_neg (fun z => c z.2)]
end HCLS
