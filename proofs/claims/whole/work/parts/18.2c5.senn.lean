/-! the reference reads a sentence: ones and joins -/
section SENN
variable {T : Nat → Nat} {sz lim : Nat} {N E : Nat → Nat} {ne : Nat}
theorem l_293 {h : Hp} {q d : Nat} {X : Nat → Nat} (s : MNs T sz lim N ne E h q X d) (hk : tkK T sz lim q = 2) : ∀ r i m, i + r = ne → l_293_15 (r + 1 + m) (some 64) (nI i) h = b_293_43 (some 64) (nI (ffi (fun d => decide (N d = nV T sz lim q)) i r)) h := by
  obtain ⟨s1, ⟨s2, s3, s4, s5⟩, s6, s7⟩ := s
  have hF := s1.1
  have vl' : nV T sz lim q < 1125899906842625 := v_lt (B := 27) (by omega) (by omega) s1.2.2.2 hk
  have v12 : hJ h 64 12 = lN (nV T sz lim q) := s1.2.2.1.2.2.2.2.1 hk
  intro r
  induction r with
  | zero =>
    intro i m hi
    rw [Nat.zero_add, Nat.add_comm 1 m, l_293_15, b_293_15, rC64 hF, grd_e, Option.bind_some, s_203 hF s2, Option.bind_some]
    dsimp only
    rw [s3, if_pos (by rw [nI_leI (by omega) (by omega)]; omega)]
    rfl
  | succ r ih =>
    intro i m hi
    have wi := s5 i (by omega)
    rw [show r + 1 + 1 + m = (r + 1 + m) + 1 by omega, l_293_15, b_293_15, rC64 hF, grd_e, Option.bind_some, s_203 hF s2, Option.bind_some]
    dsimp only
    rw [s3, if_neg (by rw [nI_leI (by omega) (by omega)]; omega), b_293_23, gQ64_18 hF, Option.bind_some, aJ70 hF (by omega), Option.bind_some, gJ64 hF, Option.bind_some, v12, wi.1]
    simp only [lc0, fb_lN_inj (show N i < 2 ^ 63 by omega) (show nV T sz lim q < 2 ^ 63 by omega)]
    by_cases c : N i = nV T sz lim q
    · have e : ffi (fun d => decide (N d = nV T sz lim q)) i (r + 1) = i := if_pos (decide_eq_true c)
      rw [if_pos c, e]
    · have e : ffi (fun d => decide (N d = nV T sz lim q)) i (r + 1) = ffi (fun d => decide (N d = nV T sz lim q)) (i + 1) r := if_neg (by rw [decide_eq_true_eq]; exact c)
      rw [if_neg c, b_293_37, bnd_e, nI_add, ih (i + 1) m (by omega), e]
theorem s_293 {h : Hp} {q d : Nat} {X : Nat → Nat} (s : MNs T sz lim N ne E h q X d) (hn : X 900 < 60) : MOn T sz lim N ne E d (f_293 (some 64) h) h (btP T sz lim N ne q X) := by
  have hF := s.1.1
  have ne10 := s.2.1.2.2.1
  rw [f_293, b_293_0, rC64 hF, grd_e, Option.bind_some, s_197 hF s.1.2.1 s.1.2.2.1 s.1.2.2.2, Option.bind_some]
  dsimp only
  unfold btP
  cases hnm : isNm T sz lim q
  · rw [if_neg (show ¬ ¬ bI false = 0 from fun z => z rfl), if_pos rfl, b_293_7]
    exact n_err s.1 (Or.inr rfl)
  · have k2 := isNm_k hnm
    obtain ⟨m, hm⟩ := FU_ge (ne + 1) (by omega)
    have fe : ffi (fun d => decide (N d = nV T sz lim q)) 0 ne = fdD N ne (nV T sz lim q) := rfl
    have fl := (ffi_le (fun d => decide (N d = nV T sz lim q)) ne 0).2
    rw [fe] at fl
    rw [if_pos (show ¬ bI true = 0 by decide), if_neg (show ¬ true = false by decide), b_293_13, bnd_e, hm, l_293 s k2 ne 0 m (by omega), fe, b_293_43, rC64 hF, grd_e, Option.bind_some, s_203 hF s.2.1.1, Option.bind_some]
    dsimp only
    rw [s.2.1.2.1]
    by_cases c3 : ne ≤ fdD N ne (nV T sz lim q)
    · rw [if_neg (fun z => z (by rw [show fdD N ne (nV T sz lim q) = ne by omega])), if_pos c3, b_293_51]
      exact n_err s.1 (Or.inl (by omega))
    · rw [if_pos (nI_nn (by omega) (by omega) (by omega)), if_neg c3, b_293_57, rC64 hF, grd_e, Option.bind_some]
      obtain ⟨g, a1, a2, a3⟩ := s_286 (k := 6) (a := fdD N ne (nV T sz lim q)) (b := 0) (c := 0) s hn (by omega) (by omega) (by omega) (by omega)
      have a1' : f_286 (some 64) (nI 7) (nI (fdD N ne (nV T sz lim q))) (nI 0) (nI 0) h = some (nI (X 900), g) := a1
      rw [a1', Option.bind_some]
      dsimp only
      obtain ⟨b1, b2, b3⟩ := n_root (x := nI (X 900)) a3
      rw [pI64 a3.1.1, Option.bind_some]
      generalize sI g 64 63 (nI (X 900)) = g2 at *
      obtain ⟨g3, c1, c2, c3', c4⟩ := n_step b2
      refine ⟨g3, by rw [rC64 b2.1.1, grd_e, Option.bind_some, c1, Option.bind_some, grd1, Option.bind_some]; rfl, ⟨(a2.then (b1.then c2)).1, (a2.then (b1.then c2)).2.2⟩, ⟨c3', ?_⟩, (a2.then (b1.then c2)).2.1⟩
      rw [c4, b3]
      unfold layX
      rw [if_neg (by omega), if_neg (by omega), if_neg (by omega), if_neg (by omega), if_pos rfl]
theorem s_294 {h : Hp} {q d k : Nat} {X : Nat → Nat} (s : MNs T sz lim N ne E h q X d) (hn : X 900 < 60) (hk : 7 ≤ k ∧ k ≤ 11) : MOn T sz lim N ne E d (f_294 (some 64) (nI (rwk k)) h) h (cmP T sz lim q X k) := by
  have hF := s.1.1
  have w : ∀ c, 40 ≤ c ∧ c ≤ 62 → f_194 (some 64) (nI c) h = some (bI (decide (tkK T sz lim q = c)), h) := fun c hc => s_194 hF s.1.2.2.1 hc
  unfold cmP
  have main : tkK T sz lim q = 60 ∨ tkK T sz lim q = 61 ∨ tkK T sz lim q = 62 → MOn T sz lim N ne E d (b_294_33 (some 64) (nI (rwk k)) h) h (if tkK T sz lim (tkN T sz lim q) = 3 then .ok (tkN T sz lim (tkN T sz lim q), layX X k 0 (tkV T sz lim (tkN T sz lim q)) (tkK T sz lim q)) else erA T sz lim 1 (tkN T sz lim q)) := by
    intro cs
    have h9 : hI h 64 9 = nI (tkK T sz lim q) := s.1.2.2.1.2.2.2.1 (by omega)
    rw [b_294_33, gI64 hF, Option.bind_some, h9, rC64 hF, grd_e, Option.bind_some]
    obtain ⟨g, a1, a2, a3, _⟩ := n_step s
    rw [a1, Option.bind_some]
    refine MOn.pre a2 ?_
    generalize tkK T sz lim q = sg at *
    generalize tkN T sz lim q = q1 at *
    obtain ⟨g2, b1, b2, b3, b4⟩ := s_199 (a := 0) (b := 99) a3.1 (by omega) (by omega)
    have b1' : f_199 (some 64) (nI 0) (nI 99) g = some (bI (nmB T sz lim q1 0 99), g2) := b1
    rw [rC64 a3.1.1, grd_e, Option.bind_some, b1', Option.bind_some]
    dsimp only
    by_cases c3 : tkK T sz lim q1 = 3
    · have tv := tk_num (T := T) (lim := lim) a3.1.2.2.2 c3
      have nb : nmB T sz lim q1 0 99 = true := by
        unfold nmB
        rw [decide_eq_true c3, decide_eq_true ⟨by omega, by omega⟩]; rfl
      obtain ⟨d1, d2, d3⟩ := b3 nb
      have s2 := a3.fz d1 b2 (by decide) (by decide) (by decide) (by decide)
      have rk : rkX k = 50 + rwk k := by unfold rkX; rw [if_neg (by omega)]
      obtain ⟨g3, e1, e2, e3⟩ := s_286 (k := k) (a := 0) (b := tkV T sz lim q1) (c := sg) s2 hn (by omega) (by omega) (by omega) (by omega)
      rw [rk] at e1
      rw [nb, if_pos (show ¬ bI true = 0 by decide), if_pos c3, b_294_54, gI64 d1.1, Option.bind_some, d2, rC64 d1.1, grd_e, Option.bind_some, nI_add, e1, Option.bind_some]
      dsimp only
      obtain ⟨f1, f2, f3⟩ := n_root (x := nI (X 900)) e3
      have fr : FN g (sI g3 64 63 (nI (X 900))) := FN.then ⟨b2.wid (by decide), d3, fun z => z.cg (b2.I (by decide))⟩ (e2.then f1)
      refine ⟨_, by rw [pI64 e3.1.1, Option.bind_some, grd1, Option.bind_some]; rfl, ⟨fr.1, fr.2.2⟩, ⟨f2, ?_⟩, fr.2.1⟩
      rw [f3]
      unfold layX
      rw [if_neg (by omega), if_neg (by omega), if_neg (by omega), if_neg (by omega), if_pos rfl]
    · have nb : nmB T sz lim q1 0 99 = false := by
        unfold nmB
        rw [decide_eq_false c3, Bool.false_and]
      have nf : nmF T sz lim q1 = 1 := by unfold nmF; rw [if_neg c3]
      have := b4 nb
      rw [nf] at this
      rw [nb, if_neg (show ¬ ¬ bI false = 0 from fun z => z rfl), if_neg c3, b_294_52, grd0, Option.bind_some]
      exact ⟨g2, rfl, ⟨b2.wid (by decide), fun z => z.cg (b2.I (by decide))⟩, this⟩
  rw [f_294, b_294_0, rC64 hF, grd_e, Option.bind_some, w 60 (by omega), Option.bind_some]
  dsimp only
  by_cases c0 : tkK T sz lim q = 60
  · rw [bI_T c0, if_pos nI10, if_pos (Or.inl c0)]
    exact main (Or.inl c0)
  · rw [bI_F c0, if_neg (fun z => z rfl), b_294_9, rC64 hF, grd_e, Option.bind_some, w 61 (by omega), Option.bind_some]
    dsimp only
    by_cases c1 : tkK T sz lim q = 61
    · rw [bI_T c1, if_pos nI10, if_pos (Or.inr (Or.inl c1))]
      exact main (Or.inr (Or.inl c1))
    · rw [bI_F c1, if_neg (fun z => z rfl), b_294_18, rC64 hF, grd_e, Option.bind_some, w 62 (by omega), Option.bind_some]
      dsimp only
      by_cases c2 : tkK T sz lim q = 62
      · rw [bI_T c2, if_pos nI10, if_pos (Or.inr (Or.inr c2))]
        exact main (Or.inr (Or.inr c2))
      · rw [bI_F c2, if_neg (fun z => z rfl), if_neg (by omega), b_294_27]
        exact n_err s.1 (Or.inr rfl)
/-- what a reader of the reference does as the pure one -/
def RMm (T : Nat → Nat) (sz lim : Nat) (N : Nat → Nat) (ne : Nat) (E : Nat → Nat) (d : Nat) (R : Hp → Option (Int32 × Hp)) (Rp : Nat → (Nat → Nat) → RsT) : Prop := ∀ q X h, SX X → MNs T sz lim N ne E h q X d → MOn T sz lim N ne E d (R h) h (Rp q X)
theorem MOn.bindR {d : Nat} {o : Option (Int32 × Hp)} {h : Hp} {st : RsT} {f : Nat → (Nat → Nat) → RsT} {A B : Hp → Option (Int32 × Hp)} (h1 : MOn T sz lim N ne E d o h st) (hB : ∀ g, B g = some (nI 0, g)) (hA : ∀ g q X, st = .ok (q, X) → MNr T sz lim N ne E g q X d → MOn T sz lim N ne E d (A g) g (f q X)) : MOn T sz lim N ne E d (o.bind fun p => if ¬ p.1 = 0 then A p.2 else B p.2) h (bindR st f) := by
  obtain ⟨g, a1, a2, a3⟩ := h1
  rw [a1, Option.bind_some]
  dsimp only
  cases st with
  | error e =>
    rw [if_neg (show ¬ ¬ bI (okB (Except.error e : RsT)) = 0 from fun z => z rfl), hB]
    exact ⟨g, rfl, a2, a3⟩
  | ok x =>
    obtain ⟨q, X⟩ := x
    have := hA g q X rfl a3.1
    rw [if_pos (show ¬ bI (okB (Except.ok (q, X) : RsT)) = 0 from show ¬ bI true = 0 by decide)]
    exact MOn.pre ⟨a2.1, a3.2, a2.2⟩ this
theorem l_288 {d : Nat} {R : Option Nat → Hp → Option (Int32 × Hp)} {Rp : Nat → (Nat → Nat) → RsT} (hR : RMm T sz lim N ne E d (fun h => R (some 64) h) Rp) (hP : RP sz ne Rp) : ∀ r q X m h, 21 ≤ X 901 + r → SX X → X 902 < 60 → MNs T sz lim N ne E h q X d → MOn T sz lim N ne E d (l_288_14 R (r + 1 + m) (some 64) (nI (X 902)) h) h (jnP T sz lim 18 1 Rp r q X) := by
  intro r
  induction r with
  | zero => intro q X m h h1 hX; have := hX.1; omega
  | succ r ih =>
    intro q X m h h1 hX h902 s
    have hF := s.1.1
    rw [show r + 1 + 1 + m = (r + 1 + m) + 1 by omega, l_288_14, b_288_14, rC64 hF, grd_e, Option.bind_some, s_193 hF s.1.2.2.1 s.1.2.2.2 (by omega), Option.bind_some, show mw 18 = 18 from rfl]
    dsimp only
    show MOn T sz lim N ne E d _ h (if isW T sz lim q 18 = true then _ else _)
    cases hw : isW T sz lim q 18
    · rw [if_pos (show bI false = 0 from rfl), if_neg (by decide), b_288_51, pI64 hF, Option.bind_some, grd1, Option.bind_some]
      obtain ⟨b1, b2, b3⟩ := n_root (x := nI (X 902)) s
      exact ⟨_, rfl, ⟨b1.1, b1.2.2⟩, ⟨b2, b3⟩, b1.2.1⟩
    · rw [if_neg (show ¬ bI true = 0 by decide), if_pos rfl, b_288_23, rC64 hF, grd_e, Option.bind_some]
      obtain ⟨g, a1, a2, a3, _⟩ := n_step s
      rw [a1, Option.bind_some, rC64 a3.1.1, grd_e, Option.bind_some]
      refine MOn.pre a2 (MOn.bindR (A := fun g => b_288_36 R (l_288_14 R (r + 1 + m)) (some 64) (nI (X 902)) g) (B := fun g => b_288_34 R g) (hR _ X g hX a3) (fun g => rfl) (fun g2 q2 Y e2 s2 => ?_))
      have pk := hP (tkN T sz lim q) X a3.1.2.2.2 hX
      rw [e2] at pk
      obtain ⟨_, _, ps⟩ := pk
      obtain ⟨sx, o1, y40⟩ := SX_lay (k := 1) (x := X 902) (y := Y 902) (z := 0) hX ps
      obtain ⟨g3, c1, c2, c3⟩ := s_286 (k := 1) (a := X 902) (b := Y 902) (c := 0) s2.1 (by omega) (by omega) (by omega) (by have := ps.2.2.2; omega) (by omega)
      have c1' : f_286 (some 64) (nI 2) (nI (X 902)) (nI (Y 902)) (nI 0) g2 = some (nI (Y 900), g3) := c1
      show MOn T sz lim N ne E d (b_288_36 R (l_288_14 R (r + 1 + m)) (some 64) (nI (X 902)) g2) g2 _
      rw [b_288_36, gI64 s2.1.1.1, Option.bind_some, s2.2, rC64 s2.1.1.1, grd_e, Option.bind_some, c1', Option.bind_some, bnd_e]
      have e902 : layX Y 1 (X 902) (Y 902) 0 902 = Y 900 := by
        unfold layX
        rw [if_neg (by omega), if_neg (by omega), if_neg (by omega), if_neg (by omega), if_pos rfl]
      have := ps.1.1
      have go := ih q2 (layX Y 1 (X 902) (Y 902) 0) m g3 (by omega) sx (by rw [e902]; omega) c3
      rw [e902] at go
      exact MOn.pre c2 go
theorem s_288 {d : Nat} {R : Option Nat → Hp → Option (Int32 × Hp)} {Rp : Nat → (Nat → Nat) → RsT} (hR : RMm T sz lim N ne E d (fun h => R (some 64) h) Rp) (hP : RP sz ne Rp) : RMm T sz lim N ne E d (fun h => F_288 R (some 64) h) (anP T sz lim Rp) := by
  intro q X h hX s
  show MOn T sz lim N ne E d (F_288 R (some 64) h) h _
  rw [F_288, b_288_0, rC64 s.1.1, grd_e, Option.bind_some]
  refine MOn.bindR (A := fun g => b_288_9 R (some 64) g) (B := fun g => b_288_7 R g) (hR q X h hX s) (fun g => rfl) (fun g2 q2 Y e2 s2 => ?_)
  have pk := hP q X s.1.2.2.2 hX
  rw [e2] at pk
  obtain ⟨_, _, ps⟩ := pk
  have := ps.1.1
  obtain ⟨m, hm⟩ := FU_ge (21 + 1) (by omega)
  show MOn T sz lim N ne E d (b_288_9 R (some 64) g2) g2 _
  rw [b_288_9, gI64 s2.1.1.1, Option.bind_some, s2.2, hm]
  exact l_288 hR hP 21 q2 Y m g2 (by omega) (ps.sx hX) (by have := ps.2.2.2; have := (ps.sx hX).1; have := (ps.sx hX).2; omega) s2.1
theorem l_287 {d : Nat} {R : Option Nat → Hp → Option (Int32 × Hp)} {Rp : Nat → (Nat → Nat) → RsT} (hR : RMm T sz lim N ne E d (fun h => F_288 R (some 64) h) Rp) (hP : RP sz ne Rp) : ∀ r q X m h, 21 ≤ X 901 + r → SX X → X 902 < 60 → MNs T sz lim N ne E h q X d → MOn T sz lim N ne E d (l_287_14 R (r + 1 + m) (some 64) (nI (X 902)) h) h (jnP T sz lim 17 0 Rp r q X) := by
  intro r
  induction r with
  | zero => intro q X m h h1 hX; have := hX.1; omega
  | succ r ih =>
    intro q X m h h1 hX h902 s
    have hF := s.1.1
    rw [show r + 1 + 1 + m = (r + 1 + m) + 1 by omega, l_287_14, b_287_14, rC64 hF, grd_e, Option.bind_some, s_193 hF s.1.2.2.1 s.1.2.2.2 (by omega), Option.bind_some, show mw 17 = 17 from rfl]
    dsimp only
    show MOn T sz lim N ne E d _ h (if isW T sz lim q 17 = true then _ else _)
    cases hw : isW T sz lim q 17
    · rw [if_pos (show bI false = 0 from rfl), if_neg (by decide), b_287_51, pI64 hF, Option.bind_some, grd1, Option.bind_some]
      obtain ⟨b1, b2, b3⟩ := n_root (x := nI (X 902)) s
      exact ⟨_, rfl, ⟨b1.1, b1.2.2⟩, ⟨b2, b3⟩, b1.2.1⟩
    · rw [if_neg (show ¬ bI true = 0 by decide), if_pos rfl, b_287_23, rC64 hF, grd_e, Option.bind_some]
      obtain ⟨g, a1, a2, a3, _⟩ := n_step s
      rw [a1, Option.bind_some, rC64 a3.1.1, grd_e, Option.bind_some]
      refine MOn.pre a2 (MOn.bindR (A := fun g => b_287_36 R (l_287_14 R (r + 1 + m)) (some 64) (nI (X 902)) g) (B := fun g => b_287_34 R g) (hR _ X g hX a3) (fun g => rfl) (fun g2 q2 Y e2 s2 => ?_))
      have pk := hP (tkN T sz lim q) X a3.1.2.2.2 hX
      rw [e2] at pk
      obtain ⟨_, _, ps⟩ := pk
      obtain ⟨sx, o1, y40⟩ := SX_lay (k := 0) (x := X 902) (y := Y 902) (z := 0) hX ps
      obtain ⟨g3, c1, c2, c3⟩ := s_286 (k := 0) (a := X 902) (b := Y 902) (c := 0) s2.1 (by omega) (by omega) (by omega) (by have := ps.2.2.2; omega) (by omega)
      have c1' : f_286 (some 64) (nI 3) (nI (X 902)) (nI (Y 902)) (nI 0) g2 = some (nI (Y 900), g3) := c1
      show MOn T sz lim N ne E d (b_287_36 R (l_287_14 R (r + 1 + m)) (some 64) (nI (X 902)) g2) g2 _
      rw [b_287_36, gI64 s2.1.1.1, Option.bind_some, s2.2, rC64 s2.1.1.1, grd_e, Option.bind_some, c1', Option.bind_some, bnd_e]
      have e902 : layX Y 0 (X 902) (Y 902) 0 902 = Y 900 := by
        unfold layX
        rw [if_neg (by omega), if_neg (by omega), if_neg (by omega), if_neg (by omega), if_pos rfl]
      have := ps.1.1
      have go := ih q2 (layX Y 0 (X 902) (Y 902) 0) m g3 (by omega) sx (by rw [e902]; omega) c3
      rw [e902] at go
      exact MOn.pre c2 go
theorem s_287 {d : Nat} {R : Option Nat → Hp → Option (Int32 × Hp)} {Rp : Nat → (Nat → Nat) → RsT} (hR : RMm T sz lim N ne E d (fun h => R (some 64) h) Rp) (hP : RP sz ne Rp) : RMm T sz lim N ne E d (fun h => F_287 R (some 64) h) (orP T sz lim Rp) := by
  intro q X h hX s
  have h3 := s_288 hR hP
  have p3 := anP_P (T := T) (lim := lim) hP
  show MOn T sz lim N ne E d (F_287 R (some 64) h) h _
  rw [F_287, b_287_0, rC64 s.1.1, grd_e, Option.bind_some]
  refine MOn.bindR (A := fun g => b_287_9 R (some 64) g) (B := fun g => b_287_7 R g) (h3 q X h hX s) (fun g => rfl) (fun g2 q2 Y e2 s2 => ?_)
  have pk := p3 q X s.1.2.2.2 hX
  rw [e2] at pk
  obtain ⟨_, _, ps⟩ := pk
  have := ps.1.1
  obtain ⟨m, hm⟩ := FU_ge (21 + 1) (by omega)
  show MOn T sz lim N ne E d (b_287_9 R (some 64) g2) g2 _
  rw [b_287_9, gI64 s2.1.1.1, Option.bind_some, s2.2, hm]
  exact l_287 h3 p3 21 q2 Y m g2 (by omega) (ps.sx hX) (by have := ps.2.2.2; have := (ps.sx hX).1; have := (ps.sx hX).2; omega) s2.1
end SENN
