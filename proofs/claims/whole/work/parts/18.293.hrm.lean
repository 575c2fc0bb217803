/-! the reference reads a house's line: what it keeps -/
abbrev ZR : List Nat := [67, 71, 6000064, 7000064, 8000064, 9000064, 10000064, 13000064, 11000064, 12000064, 14000064]
theorem nI_n0 {n : Nat} (h : n < 2147483648) (c : n ≠ 0) : ¬ nI n = 0 := by rw [nI_eq0 h]; exact c
theorem nI_nn {a b : Nat} (h1 : a < 2147483648) (h2 : b < 2147483648) (c : a ≠ b) : ¬ nI a = nI b := fun z => c ((nI_eq h1 h2).1 z)
def okB {ε α : Type} : Except ε α → Bool
  | .ok _ => true
  | .error _ => false
def WB (X : Nat → Nat) : Prop := X 0 ≤ 10 ∧ X 1 ≤ 10 ∧ X 2 ≤ 10 ∧ X 3 ≤ 6 ∧ X 4 ≤ 100 ∧ (∀ c, c < 100 → X (10 + c) ≤ 2 ∧ X (210 + c) ≤ 10) ∧ (∀ d, X (1000 + d) < 1125899906842625) ∧ ∀ i, i < 330 → X i ≤ 100
theorem WB.up {X : Nat → Nat} {i v : Nat} (hW : WB X) (hc : (110 ≤ i ∧ i < 210 ∧ v ≤ 100) ∨ (210 ≤ i ∧ i < 310 ∧ v ≤ 10) ∨ (310 ≤ i ∧ i < 1000 ∧ v ≤ 100) ∨ (i ≤ 2 ∧ v ≤ 10) ∨ (i = 3 ∧ v ≤ 6) ∨ (i = 4 ∧ v ≤ 100) ∨ (10 ≤ i ∧ i < 110 ∧ v ≤ 2) ∨ (1000 ≤ i ∧ v < 1125899906842625)) : WB (upX X i v) := by
  obtain ⟨a, b, c, d, e, f, g, k⟩ := hW
  refine ⟨?_, ?_, ?_, ?_, ?_, fun z hz => ⟨?_, ?_⟩, fun z => ?_, fun z hz => ?_⟩
  · rw [upX_e]; split <;> omega
  · rw [upX_e]; split <;> omega
  · rw [upX_e]; split <;> omega
  · rw [upX_e]; split <;> omega
  · rw [upX_e]; split <;> omega
  · have := f z hz; rw [upX_e]; split <;> omega
  · have := f z hz; rw [upX_e]; split <;> omega
  · have := g z; rw [upX_e]; split <;> omega
  · have := k z hz; rw [upX_e]; split <;> omega
/-- the draft of the reference -/
def MDr (h : Hp) (X : Nat → Nat) (n : Nat) : Prop := (∀ i, i < 330 → i ≠ 4 → hI h 67 i = nI (X i)) ∧ hI h 67 4 = mI (X 4) ∧ ∀ d, d < n → hJ h 71 d = lN (X (1000 + d))
section HRM
variable {T : Nat → Nat} {sz lim : Nat}
theorem MTk.cz {h g : Hp} {q : Nat} (hC : MTk h T sz lim q) (hz : Fz [67, 71] h g) : MTk g T sz lim q := by
  obtain ⟨c1, ⟨m1, m2, m3, m4, m5⟩, ⟨t1, t2, t3, t4, t5, t6⟩, c4⟩ := hC
  have i : hI g 64 = hI h 64 := hz.I (by decide)
  have j : hJ g 64 = hJ h 64 := hz.J (by decide)
  have b : hI g 65 = hI h 65 := hz.I (by decide)
  refine ⟨hz.fix c1 (by decide), ⟨by rw [i]; exact m1, by rw [i]; exact m2, m3, m4, fun x hx => by rw [b]; exact m5 x hx⟩, ⟨by rw [i]; exact t1, by rw [i]; exact t2, by rw [i]; exact t3, fun z => by rw [i]; exact t4 z, fun z => by rw [j]; exact t5 z, fun z => by rw [i]; exact t6 z⟩, c4⟩
def MH (T : Nat → Nat) (sz lim : Nat) (h : Hp) (q : Nat) (X : Nat → Nat) (n : Nat) : Prop := MTk h T sz lim q ∧ MDr h X n ∧ WB X
def RsM (T : Nat → Nat) (sz lim : Nat) (h g : Hp) : RsT → Prop
  | .error (k, a) => hI g 64 10 = nI k ∧ hI g 64 11 = nI a
  | .ok (q, X) => MH T sz lim g q X (X 2) ∧ hI g 64 10 = hI h 64 10
def FQ (h g : Hp) : Prop := Fz ZR h g ∧ hI g 64 10 = hI h 64 10
def MO (T : Nat → Nat) (sz lim : Nat) (o : Option (Int32 × Hp)) (h : Hp) (r : RsT) : Prop := ∃ g, o = some (bI (okB r), g) ∧ Fz ZR h g ∧ RsM T sz lim h g r
theorem MO.pre {o : Option (Int32 × Hp)} {h g : Hp} {r : RsT} (hz : FQ h g) (hM : MO T sz lim o g r) : MO T sz lim o h r := by
  obtain ⟨f, a1, a2, a3⟩ := hM
  refine ⟨f, a1, hz.1.then a2, ?_⟩
  cases r with
  | error e => exact a3
  | ok x => exact ⟨a3.1, a3.2.trans hz.2⟩
theorem m_err {h : Hp} {q k : Nat} (hC : MTk h T sz lim q) (hk : tkK T sz lim q ≠ 1 ∨ k = 1) : MO T sz lim ((grd (rC 11 (some 64) h)).bind fun _ => (f_198 (some 64) (nI k) h).bind fun p1 => (grd (decide (p1.1 = 0 ∨ p1.1 = 1))).bind fun _ => some (p1.1, p1.2)) h (erA T sz lim k q) := by
  obtain ⟨g, a1, a2, a3, a4⟩ := s_198 (k := k) hC
  refine ⟨g, by rw [rC64 hC.1, grd_e, Option.bind_some, a1, Option.bind_some]; rfl, a2.wid (by decide), ?_, a4⟩
  rw [a3]
  rcases hk with e | e
  · rw [if_neg e]
  · rw [e]; split <;> rfl
theorem MDr.cg {h g : Hp} {X : Nat → Nat} {n : Nat} (hD : MDr h X n) (e : hI g 67 = hI h 67) (e2 : hJ g 71 = hJ h 71) : MDr g X n := by
  unfold MDr; rw [e, e2]; exact hD
theorem mh_step {h : Hp} {q n : Nat} {X : Nat → Nat} (hM : MH T sz lim h q X n) : ∃ g, f_189 (some 64) h = some g ∧ FQ h g ∧ MH T sz lim g (tkN T sz lim q) X n := by
  obtain ⟨g, a1, a2, a3⟩ := m_step hM.1
  exact ⟨g, a1, ⟨a2.wid (by decide), a2.I1 (by decide) (by decide)⟩, a3, hM.2.1.cg (a2.I (by decide)) (a2.J (by decide)), hM.2.2⟩
theorem mh_num {h : Hp} {q n : Nat} {X : Nat → Nat} {a b : Int} (hM : MH T sz lim h q X n) (ha : -1000 ≤ a ∧ a ≤ 1000) (hb : -1000 ≤ b ∧ b ≤ 1000) : ∃ g, f_199 (some 64) (zI a) (zI b) h = some (bI (nmB T sz lim q a b), g) ∧ Fz ZR h g ∧ (nmB T sz lim q a b = true → MH T sz lim g (tkN T sz lim q) X n ∧ hI g 64 13 = nI (tkV T sz lim q) ∧ hI g 64 10 = hI h 64 10) ∧ (nmB T sz lim q a b = false → hI g 64 10 = nI (nmF T sz lim q) ∧ hI g 64 11 = nI (tkA T sz lim q)) := by
  obtain ⟨g, a1, a2, a3, a4⟩ := s_199 hM.1 ha hb
  exact ⟨g, a1, a2.wid (by decide), fun z => ⟨⟨(a3 z).1, hM.2.1.cg (a2.I (by decide)) (a2.J (by decide)), hM.2.2⟩, (a3 z).2⟩, a4⟩
theorem mh_w {h : Hp} {q n i v : Nat} {X : Nat → Nat} (hM : MH T sz lim h q X n) (hi : i < 330) (h4 : i ≠ 4) (hW : WB (upX X i v)) : wI (some 67) (nI i) (nI v) h = some (sI h 67 i (nI v)) ∧ FQ h (sI h 67 i (nI v)) ∧ MH T sz lim (sI h 67 i (nI v)) q (upX X i v) n ∧ hI (sI h 67 i (nI v)) 64 = hI h 64 := by
  have z : Fz [67, 71] h (sI h 67 i (nI v)) := Fz.sI Fz.rfl' (Or.inl (by simp))
  refine ⟨wI67 hM.1.1 hi _, ⟨z.wid (by decide), by rw [z.I (a := 64) (by decide)]⟩, ⟨hM.1.cz z, ⟨fun j hj h4j => ?_, ?_, fun d hd => ?_⟩, hW⟩, z.I (by decide)⟩
  · rw [hI_sI, upX_e]
    by_cases c : j = i
    · rw [if_pos ⟨rfl, c⟩, if_pos c]
    · rw [if_neg (fun z => c z.2), if_neg c]; exact hM.2.1.1 j hj h4j
  · rw [hI_sI, if_neg (fun z => h4 z.2.symm), upX_n (fun z => h4 z.symm)]; exact hM.2.1.2.1
  · rw [hJ_sI, upX_n (by omega)]; exact hM.2.1.2.2 d hd
theorem mh_r {h : Hp} {q n i : Nat} {X : Nat → Nat} (hM : MH T sz lim h q X n) (hi : i < 330) (h4 : i ≠ 4) : aI 12 (some 67) (nI i) h = some (nI (X i)) := by
  rw [aI67 hM.1.1 hi, hM.2.1.1 i hi h4]
theorem nmB_k {q : Nat} {a b : Int} (hn : nmB T sz lim q a b = true) : tkK T sz lim q = 3 ∧ a ≤ (tkV T sz lim q : Int) ∧ (tkV T sz lim q : Int) ≤ b := by
  unfold nmB at hn
  rw [Bool.and_eq_true] at hn
  exact ⟨of_decide_eq_true hn.1, of_decide_eq_true hn.2⟩
/-- the last of a door: its cells marked -/
def DWk (X : Nat → Nat) (d : Nat) : Prop := dLn X d ≤ 3 ∧ dAc X d ≤ 1 ∧ ∀ i, i < dLn X d → dwx (dX X d) (dAc X d) i < X 0 ∧ dwy (dYy X d) (dAc X d) i < X 1
theorem filX_n {X : Nat → Nat} {x y ac v : Nat} : ∀ n, (∀ i, i < n → dwx x ac i < 10 ∧ dwy y ac i < 10) → ∀ j, (j < 210 ∨ 310 ≤ j) → filX X x y ac v n j = X j := by
  intro n
  induction n with
  | zero => intro _ j _; rfl
  | succ n ih =>
    intro hb j hj
    have := hb n (by omega)
    show upX (filX X x y ac v n) (210 + (10 * dwy y ac n + dwx x ac n)) v j = X j
    rw [upX_n (by omega), ih (fun i hi => hb i (by omega)) j hj]
theorem DWk.lt {X : Nat → Nat} {d : Nat} (hD : DWk X d) (hW : WB X) : ∀ i, i < dLn X d → dwx (dX X d) (dAc X d) i < 10 ∧ dwy (dYy X d) (dAc X d) i < 10 := fun i hi => by
  have a := hD.2.2 i hi
  obtain ⟨w0, w1, _⟩ := hW
  omega
theorem filX_WB {X : Nat → Nat} {x y ac v : Nat} (hW : WB X) (hv : v ≤ 10) : ∀ n, (∀ i, i < n → dwx x ac i < 10 ∧ dwy y ac i < 10) → WB (filX X x y ac v n) := by
  intro n
  induction n with
  | zero => intro _; exact hW
  | succ n ih =>
    intro hb
    have := hb n (by omega)
    exact (ih (fun i hi => hb i (by omega))).up (by omega)
theorem l_210f {d q : Nat} {X : Nat → Nat} (hd : X 2 = d) (hd9 : d < 10) (hD : DWk X d) (hW : WB X) : ∀ r i m h, i + r = dLn X d → MH T sz lim h q (filX X (dX X d) (dYy X d) (dAc X d) (d + 1) i) (d + 1) →
    MO T sz lim (l_210_483 (r + 1 + m) (some 64) (nI d) (nI (110 + 10 * d)) (nI i) h) h (.ok (q, dorE X d)) := by
  have lt := hD.lt hW
  have fv : ∀ i j, i ≤ dLn X d → (j < 210 ∨ 310 ≤ j) → filX X (dX X d) (dYy X d) (dAc X d) (d + 1) i j = X j := fun i j hi hj => filX_n i (fun k hk => lt k (by omega)) j hj
  obtain ⟨d1, d2, d3⟩ := hD
  intro r
  induction r with
  | zero =>
    intro i m h hi hM
    have hF := hM.1.1
    have e3 : filX X (dX X d) (dYy X d) (dAc X d) (d + 1) i (113 + 10 * d) = dLn X d := fv i _ (by omega) (by omega)
    have e2 : filX X (dX X d) (dYy X d) (dAc X d) (d + 1) i 2 = d := (fv i 2 (by omega) (by omega)).trans hd
    have hi' : i = dLn X d := by omega
    have wb : WB (upX (filX X (dX X d) (dYy X d) (dAc X d) (d + 1) i) 2 (d + 1)) := hM.2.2.up (by omega)
    obtain ⟨w1, w2, w3, _⟩ := mh_w hM (i := 2) (v := d + 1) (by omega) (by omega) wb
    refine ⟨_, ?_, w2.1, ?_, w2.2⟩
    · show l_210_483 (0 + 1 + m) (some 64) (nI d) (nI (110 + 10 * d)) (nI i) h = some (nI 1, sI h 67 2 (nI (d + 1)))
      rw [Nat.zero_add, Nat.add_comm 1 m, l_210_483, b_210_483, gQ64_15 hF, Option.bind_some, nI_add, show 110 + 10 * d + 3 = 113 + 10 * d by omega, mh_r hM (by omega) (by omega), Option.bind_some, e3, if_pos (by rw [nI_leI (by omega) (by omega)]; omega), b_210_579, gQ64_15 hF, Option.bind_some, mh_r hM (by omega) (by omega), Option.bind_some, e2, nI_add, w1, Option.bind_some, grd1, Option.bind_some]
    · show MH T sz lim _ q (dorE X d) (dorE X d 2)
      have : dorE X d = upX (filX X (dX X d) (dYy X d) (dAc X d) (d + 1) i) 2 (d + 1) := by unfold dorE; rw [hi', hd]
      rw [this, upX_i]
      exact w3
  | succ r ih =>
    intro i m h hi hM
    have hF := hM.1.1
    have il : i < dLn X d := by omega
    have e0 : filX X (dX X d) (dYy X d) (dAc X d) (d + 1) i (110 + 10 * d) = dX X d := fv i _ (by omega) (by omega)
    have e1 : filX X (dX X d) (dYy X d) (dAc X d) (d + 1) i (111 + 10 * d) = dYy X d := fv i _ (by omega) (by omega)
    have e2 : filX X (dX X d) (dYy X d) (dAc X d) (d + 1) i (112 + 10 * d) = dAc X d := fv i _ (by omega) (by omega)
    have e3 : filX X (dX X d) (dYy X d) (dAc X d) (d + 1) i (113 + 10 * d) = dLn X d := fv i _ (by omega) (by omega)
    have l := lt i il
    have wb : WB (upX (filX X (dX X d) (dYy X d) (dAc X d) (d + 1) i) (210 + (10 * dwy (dYy X d) (dAc X d) i + dwx (dX X d) (dAc X d) i)) (d + 1)) := hM.2.2.up (by omega)
    obtain ⟨w1, w2, w3, _⟩ := mh_w hM (i := 210 + (10 * dwy (dYy X d) (dAc X d) i + dwx (dX X d) (dAc X d) i)) (v := d + 1) (by omega) (by omega) wb
    refine MO.pre w2 ?_
    have go := ih (i + 1) m _ (by omega) w3
    have st : b_210_483 (l_210_483 (r + 1 + m)) (some 64) (nI d) (nI (110 + 10 * d)) (nI i) h = l_210_483 (r + 1 + m) (some 64) (nI d) (nI (110 + 10 * d)) (nI (i + 1)) (sI h 67 (210 + (10 * dwy (dYy X d) (dAc X d) i + dwx (dX X d) (dAc X d) i)) (nI (d + 1))) := by
      have w1' := w1
      rw [b_210_483, gQ64_15 hF, Option.bind_some, nI_add, show 110 + 10 * d + 3 = 113 + 10 * d by omega, mh_r hM (by omega) (by omega), Option.bind_some, e3, if_neg (by rw [nI_leI (by omega) (by omega)]; omega), b_210_496, gQ64_15 hF, Option.bind_some, nI_add, Nat.add_zero, mh_r hM (by omega) (by omega), Option.bind_some, Option.bind_some, nI_add, show 110 + 10 * d + 2 = 112 + 10 * d by omega, mh_r hM (by omega) (by omega), Option.bind_some, e0, e2]
      have fin : ∀ xx yy, xx = dwx (dX X d) (dAc X d) i → yy = dwy (dYy X d) (dAc X d) i → (bnd (nI yy) fun x1 => (gQ 11 15 (some 64) h).bind fun x2 => (wI x2 ((nI 210 + (nI 10 * x1)) + nI xx) (nI d + nI 1) h).bind fun h3 => bnd (nI i + nI 1) fun x4 => l_210_483 (r + 1 + m) (some 64) (nI d) (nI (110 + 10 * d)) x4 h3) = l_210_483 (r + 1 + m) (some 64) (nI d) (nI (110 + 10 * d)) (nI (i + 1)) (sI h 67 (210 + (10 * dwy (dYy X d) (dAc X d) i + dwx (dX X d) (dAc X d) i)) (nI (d + 1))) := by
        intro xx yy h1 h2
        rw [bnd_e, gQ64_15 hF, Option.bind_some, pk_mul, nI_add, nI_add, nI_add, h1, h2, Nat.add_assoc, w1, Option.bind_some, bnd_e, nI_add]
      have mid : ∀ xx, xx = dwx (dX X d) (dAc X d) i → ((gQ 11 15 (some 64) h).bind fun x2 => (aI 12 x2 (nI (110 + 10 * d) + nI 1) h).bind fun x3 => (gQ 11 15 (some 64) h).bind fun x4 => (aI 12 x4 (nI (110 + 10 * d) + nI 2) h).bind fun x5 => if ¬ x5 = nI 1 then b_210_549 (l_210_483 (r + 1 + m)) (some 64) (nI d) (nI (110 + 10 * d)) (nI i) (nI xx) x3 h else b_210_544 (l_210_483 (r + 1 + m)) (some 64) (nI d) (nI (110 + 10 * d)) (nI i) (nI xx) x3 h) = l_210_483 (r + 1 + m) (some 64) (nI d) (nI (110 + 10 * d)) (nI (i + 1)) (sI h 67 (210 + (10 * dwy (dYy X d) (dAc X d) i + dwx (dX X d) (dAc X d) i)) (nI (d + 1))) := by
        intro xx h1
        rw [gQ64_15 hF, Option.bind_some, nI_add, show 110 + 10 * d + 1 = 111 + 10 * d by omega, mh_r hM (by omega) (by omega), Option.bind_some, Option.bind_some, nI_add, show 110 + 10 * d + 2 = 112 + 10 * d by omega, mh_r hM (by omega) (by omega), Option.bind_some, e1, e2]
        by_cases c : dAc X d = 1
        · rw [if_neg (fun z => z (by rw [c])), b_210_544, b_210_550, nI_add (dYy X d) i]
          exact fin xx _ h1 (by unfold dwy; rw [if_pos c])
        · rw [if_pos (nI_nn (by omega) (by omega) c), b_210_549, b_210_550, nI_add (dYy X d) 0]
          exact fin xx _ h1 (by unfold dwy; rw [if_neg c]; rfl)
      by_cases c : dAc X d = 0
      · rw [if_neg (fun z => z (by rw [c]; rfl)), b_210_515, b_210_521, bnd_e, nI_add (dX X d) i]
        exact mid _ (by unfold dwx; rw [if_pos c])
      · rw [if_pos (nI_n0 (by omega) c), b_210_520, b_210_521, bnd_e, nI_add (dX X d) 0]
        exact mid _ (by unfold dwx; rw [if_neg c]; rfl)
    rw [show r + 1 + 1 + m = (r + 1 + m) + 1 by omega, l_210_483, st]
    exact go
theorem s_210W {h : Hp} {d q : Nat} {X : Nat → Nat} (hd : X 2 = d) (hd9 : d < 10) (hD : DWk X d) (hM : MH T sz lim h q X (d + 1)) : MO T sz lim (b_210_444 (some 64) (nI d) (nI (110 + 10 * d)) h) h (dorW T sz lim q X d) := by
  have hF := hM.1.1
  have fin : ∀ g q' v, MH T sz lim g q' (upX X (117 + 10 * d) v) (d + 1) → MO T sz lim (b_210_480 (some 64) (nI d) (nI (110 + 10 * d)) g) g (.ok (q', dorE (upX X (117 + 10 * d) v) d)) := by
    intro g q' v hG
    have ux : ∀ j, j ≠ 117 + 10 * d → upX X (117 + 10 * d) v j = X j := fun j hj => upX_n hj
    obtain ⟨m, hm⟩ := FU_ge (dLn (upX X (117 + 10 * d) v) d + 1) (by have : dLn (upX X (117 + 10 * d) v) d = dLn X d := ux _ (by omega); have := hD.1; omega)
    rw [b_210_480, bnd_e, hm]
    refine l_210f (by rw [ux 2 (by omega)]; exact hd) hd9 ?_ hG.2.2 _ 0 m g (by omega) hG
    unfold DWk dLn dAc dX dYy
    rw [ux _ (by omega), ux _ (by omega), ux _ (by omega), ux _ (by omega), ux _ (by omega), ux _ (by omega)]
    exact hD
  rw [b_210_444, gQ64_15 hF, Option.bind_some, rC64 hF, grd_e, Option.bind_some, s_193 hF hM.1.2.2.1 hM.1.2.2.2 (by omega), Option.bind_some, nI_add, show 110 + 10 * d + 7 = 117 + 10 * d by omega]
  dsimp only
  unfold dorW
  have mid : ∀ v b, v ≤ 1 → isW T sz lim q (mw 8) = b → MO T sz lim (b_210_466 (some 64) (nI d) (nI (110 + 10 * d)) (some 67) (nI (117 + 10 * d)) (nI v) h) h (if b = true then .ok (tkN T sz lim q, dorE (upX X (117 + 10 * d) v) d) else .ok (q, dorE (upX X (117 + 10 * d) v) d)) := by
    intro v b hv hb
    obtain ⟨w1, w2, w3, _⟩ := mh_w hM (i := 117 + 10 * d) (v := v) (by omega) (by omega) (hM.2.2.up (by omega))
    rw [b_210_466, w1, Option.bind_some, rC64 w3.1.1, grd_e, Option.bind_some, s_193 w3.1.1 w3.1.2.2.1 w3.1.2.2.2 (by omega), Option.bind_some, hb]
    dsimp only
    refine MO.pre w2 ?_
    cases b
    · rw [if_pos (show bI false = 0 from rfl), if_neg (by decide)]
      exact fin _ q v w3
    · rw [if_neg (show ¬ bI true = 0 by decide), if_pos rfl, b_210_476, rC64 w3.1.1, grd_e, Option.bind_some]
      obtain ⟨g, a1, a2, a3⟩ := mh_step w3
      rw [a1, Option.bind_some]
      exact MO.pre a2 (fin g _ v a3)
  have e8 : mw 8 = 6 := rfl
  rw [e8] at mid ⊢
  cases hw : isW T sz lim q 6
  · rw [if_pos (show bI false = 0 from rfl), b_210_465, if_neg (by decide)]
    have := mid 0 false (by omega) hw
    rw [if_neg (by decide)] at this
    exact this
  · rw [if_neg (show ¬ bI true = 0 by decide), b_210_461, if_pos rfl]
    have := mid 1 true (by omega) hw
    rw [if_pos rfl] at this
    exact this
end HRM
