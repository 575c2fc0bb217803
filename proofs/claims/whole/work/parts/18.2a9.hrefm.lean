/-! the reference reads a house -/
theorem WB_X0 : WB X0 := ⟨Nat.zero_le _, Nat.zero_le _, Nat.zero_le _, Nat.zero_le _, Nat.zero_le _, fun c _ => ⟨Nat.zero_le _, Nat.zero_le _⟩, fun d => (by show 0 < 1125899906842625; decide), fun i _ => Nat.zero_le _⟩
section HREFM
variable {T : Nat → Nat} {sz lim : Nat}
theorem l_214a {v0 : Hp → Prop} : ∀ r i m h, i + r = 330 → MTk h T sz lim 0 → (∀ j, j < i → hI h 67 j = nI 0) → ∃ g, l_214_9 (r + 1 + m) (some 64) (nI i) h = b_214_29 (some 64) g ∧ Fz [67, 71] h g ∧ ∀ j, j < 330 → hI g 67 j = nI 0 := by
  intro r
  induction r with
  | zero =>
    intro i m h hi hT hj
    refine ⟨h, ?_, Fz.rfl', fun j h1 => hj j (by omega)⟩
    rw [Nat.zero_add, Nat.add_comm 1 m, l_214_9, b_214_9, if_pos (by rw [nI_leI (by omega) (by omega)]; omega)]
  | succ r ih =>
    intro i m h hi hT hj
    have z : Fz [67, 71] h (sI h 67 i (nI 0)) := Fz.sI Fz.rfl' (Or.inl (by simp))
    obtain ⟨g, a1, a2, a3⟩ := ih (i + 1) m (sI h 67 i (nI 0)) (by omega) (hT.cz z) (fun j h1 => by
      rw [hI_sI]
      by_cases c : j = i
      · rw [if_pos ⟨rfl, c⟩]
      · rw [if_neg (fun z => c z.2)]; exact hj j (by omega))
    refine ⟨g, ?_, z.then a2, a3⟩
    rw [← a1, show r + 1 + 1 + m = (r + 1 + m) + 1 by omega, l_214_9, b_214_9, if_neg (by rw [nI_leI (by omega) (by omega)]; omega), b_214_16, gQ64_15 hT.1, Option.bind_some, wI67 hT.1 (by omega), Option.bind_some, bnd_e, nI_add]
theorem l_214l : ∀ r p X n m h, sz < p + r → 2 * n ≤ p → p ≤ sz → WF X → X 900 = n → MH T sz lim h p X (X 2) →
    (∀ k a, hsR T sz lim r p X n = .error (k, a) → ∃ g, l_214_38 (r + 1 + m) (some 64) (nI n) h = some (-1 - nI a, g) ∧ Fz ZR h g ∧ hI g 64 10 = nI k ∧ hI g 64 11 = nI a) ∧
    (∀ n' Y, hsR T sz lim r p X n = .ok (n', Y) → ∃ g q, l_214_38 (r + 1 + m) (some 64) (nI n) h = b_214_65 (some 64) (nI n') g ∧ FQ h g ∧ MH T sz lim g q Y (Y 2) ∧ WF Y ∧ n' ≤ 500) := by
  intro r
  induction r with
  | zero => intro p X n m h h1 h2 h3; omega
  | succ r ih =>
    intro p X n m h h1 h2 h3 hW hn hM
    have hF := hM.1.1
    have kl := tkK_le (T := T) (sz := sz) (lim := lim) (p := p)
    have kc := kmd_e kl
    have sl := hM.1.2.1.2.2.1
    have un : hsR T sz lim (r + 1) p X n = if tkK T sz lim p = 0 then .ok (n, X) else match linR T sz lim p X with
      | .error e => .error e
      | .ok (q, Y) => hsR T sz lim r q (upX Y 900 (n + 1)) (n + 1) := rfl
    rw [un, show r + 1 + 1 + m = (r + 1 + m) + 1 by omega, l_214_38, b_214_38, gI64 hF, Option.bind_some, hM.1.2.2.1.1]
    by_cases c0 : tkK T sz lim p = 0
    · rw [if_pos c0, if_pos (by rw [c0]; rfl)]
      refine ⟨fun k a e => (by cases e), fun n' Y e => ?_⟩
      injection e with e
      injection e with e1 e2
      subst e1 e2
      exact ⟨h, p, rfl, ⟨Fz.rfl', rfl⟩, hM, hW, by omega⟩
    · rw [if_neg c0, if_neg (nI_n0 (by omega) (fun z => c0 (kc.1.1 z))), b_214_45, rC64 hF, grd_e, Option.bind_some]
      obtain ⟨g, a1, a2, a3⟩ := s_213 hM
      rw [a1, Option.bind_some]
      dsimp only
      have lp := linR_P (T := T) (lim := lim) h3 hW
      cases hl : linR T sz lim p X with
      | error e =>
        obtain ⟨k0, a0⟩ := e
        rw [hl] at a3
        rw [if_neg (show ¬ ¬ bI (okB (Except.error (k0, a0) : RsT)) = 0 from fun z => z rfl), b_214_52]
        refine ⟨fun k a e => ?_, fun n' Y e => (by cases e)⟩
        injection e with e
        injection e with e1 e2
        subst e1 e2
        refine ⟨g, ?_, a2, a3⟩
        rw [gI64 (a2.fix hF (by decide)), Option.bind_some, a3.2]
      | ok x =>
        obtain ⟨q, Y⟩ := x
        rw [hl] at a3 lp
        obtain ⟨l1, l2, l3⟩ := lp
        have w3 := l3.2.2.1
        obtain ⟨mY, e10⟩ := a3
        rw [if_pos (show ¬ bI (okB (Except.ok (q, Y) : RsT)) = 0 from show ¬ bI true = 0 by decide), b_214_59, bnd_e, nI_add]
        have m2 : MH T sz lim g q (upX Y 900 (n + 1)) (upX Y 900 (n + 1) 2) := by
          rw [upX_n (show 2 ≠ 900 by omega)]
          refine ⟨mY.1, ⟨fun i hi h4 => ?_, ?_, fun d hd => ?_⟩, ?_⟩
          · rw [upX_n (by omega)]; exact mY.2.1.1 i hi h4
          · rw [upX_n (by omega)]; exact mY.2.1.2.1
          · rw [upX_n (by omega)]; exact mY.2.1.2.2 d hd
          · obtain ⟨w0, w1, w2, w3, w4, w5, w6, w7⟩ := mY.2.2
            refine ⟨?_, ?_, ?_, ?_, ?_, fun c hc => ?_, fun d => ?_, fun i hi => ?_⟩
            · rw [upX_n (by omega)]; exact w0
            · rw [upX_n (by omega)]; exact w1
            · rw [upX_n (by omega)]; exact w2
            · rw [upX_n (by omega)]; exact w3
            · rw [upX_n (by omega)]; exact w4
            · rw [upX_n (by omega), upX_n (by omega)]; exact w5 c hc
            · rw [upX_n (by omega)]; exact w6 d
            · rw [upX_n (by omega)]; exact w7 i hi
        obtain ⟨i1, i2⟩ := ih q (upX Y 900 (n + 1)) (n + 1) m g (by omega) (by omega) l2 (l3.cg (fun j hj => upX_n (by omega))) (upX_i _ _ _) m2
        refine ⟨fun k a e => ?_, fun n' Y' e => ?_⟩
        · obtain ⟨g2, j1, j2, j3⟩ := i1 k a e
          exact ⟨g2, j1, a2.then j2, j3⟩
        · obtain ⟨g2, q2, j1, j2, j3⟩ := i2 n' Y' e
          exact ⟨g2, q2, j1, ⟨a2.then j2.1, j2.2.trans e10⟩, j3⟩
/-- the draft becomes the house -/
def nwE (E X : Nat → Nat) : Nat → Nat := fun i => if i < 330 then X i else if i < 340 then 0 else if i = 340 then X 4 else if i = 341 ∨ i = 462 then 0 else E i
theorem l_214c {E X : Nat → Nat} {q n : Nat} : ∀ r i m h, i + r = 330 → MH T sz lim h q X (X 2) → NowE h E → (∀ j, j < i → hI h 66 j = hI h 67 j) →
    ∃ g, l_214_67 (r + 1 + m) (some 64) (nI n) (nI i) h = b_214_92 (some 64) (nI n) g ∧ Fz [66] h g ∧ (∀ j, j < 330 → hI g 66 j = hI h 67 j) ∧ ∀ j, 330 ≤ j → hI g 66 j = hI h 66 j := by
  intro r
  induction r with
  | zero =>
    intro i m h hi hM hE hj
    refine ⟨h, ?_, Fz.rfl', fun j h1 => hj j (by omega), fun _ _ => rfl⟩
    rw [Nat.zero_add, Nat.add_comm 1 m, l_214_67, b_214_67, if_pos (by rw [nI_leI (by omega) (by omega)]; omega)]
  | succ r ih =>
    intro i m h hi hM hE hj
    sorry
end HREFM
