/-! the reference reads a token -/
def MX (h : Hp) (T : Nat → Nat) (sz lim : Nat) : Prop := hI h 64 3 = nI sz ∧ hI h 64 4 = nI lim ∧ sz ≤ 940 ∧ lim ≤ 1000 ∧ ∀ i, i < sz → hI h 65 i = nI (T i) ∧ T i < 256
def kmd (K : Nat) : Nat := if K ≤ 3 then K else 4
section TOKM
variable {T : Nat → Nat} {sz lim : Nat}
theorem MX.cz {h g : Hp} (hX : MX h T sz lim) (hz : Fz [6000064, 7000064, 8000064, 9000064, 10000064, 13000064] h g) : MX g T sz lim := by
  obtain ⟨a, b, c, d, e⟩ := hX
  exact ⟨by rw [hz.I1 (by decide) (by decide)]; exact a, by rw [hz.I1 (by decide) (by decide)]; exact b, c, d, fun i hi => by rw [hz.I (a := 65) (by decide)]; exact e i hi⟩
theorem s_187 {h : Hp} {c : Nat} (hc : c < 256) : f_187 (nI c) h = some (bI (isDg c), h) := by
  rw [f_187, b_187_0]
  unfold isDg
  by_cases c1 : c < 48
  · rw [if_pos ((nI_ltI (by omega) (by omega)).2 c1), bI_F (by omega)]; rfl
  · rw [if_neg (fun z => c1 ((nI_ltI (by omega) (by omega)).1 z)), b_187_6]
    by_cases c2 : 57 < c
    · rw [if_pos ((nI_ltI (by omega) (by omega)).2 c2), bI_F (by omega)]; rfl
    · rw [if_neg (fun z => c2 ((nI_ltI (by omega) (by omega)).1 z)), bI_T (by omega)]; rfl
theorem s_188 {h : Hp} {c : Nat} (hc : c < 256) : f_188 (nI c) h = some (bI (isLt c), h) := by
  rw [f_188, b_188_0]
  unfold isLt
  by_cases c1 : c < 97
  · rw [if_pos ((nI_ltI (by omega) (by omega)).2 c1), bI_F (by omega)]; rfl
  · rw [if_neg (fun z => c1 ((nI_ltI (by omega) (by omega)).1 z)), b_188_6]
    by_cases c2 : 122 < c
    · rw [if_pos ((nI_ltI (by omega) (by omega)).2 c2), bI_F (by omega)]; rfl
    · rw [if_neg (fun z => c2 ((nI_ltI (by omega) (by omega)).1 z)), bI_T (by omega)]; rfl
theorem s_186 {h : Hp} {p : Nat} (hF : Fix h) (hX : MX h T sz lim) (hp : p ≤ 1000) : f_186 (some 64) (nI p) h = some (nI (if p < sz then T p else 0), h) := by
  obtain ⟨x1, x2, x3, x4, x5⟩ := hX
  rw [f_186, b_186_0, gI64 hF, Option.bind_some, x1]
  by_cases c : p < sz
  · rw [if_neg (fun z => by have := (nI_leI (by omega) (by omega)).1 z; omega), if_pos c, b_186_8, gQ64_1 hF, Option.bind_some, aI_n (K65 hF) (L65 hF) (show p < 940 by omega) (by omega), Option.bind_some, (x5 p c).1]
    rfl
  · rw [if_pos ((nI_leI (by omega) (by omega)).2 (by omega)), if_neg c]
    rfl
/-- whether a run is of one sort so far -/
def gdB (lt : Bool) (T : Nat → Nat) (q n : Nat) : Bool := if lt = true then decide (nD T q n = 0) else decide (nL T q n = 0)
def RM (h : Hp) (T : Nat → Nat) (lt : Bool) (q p : Nat) : Prop := hI h 64 5 = nI p ∧ hI h 64 6 = nI q ∧ (lt = true → nD T q (p - q) = 0 → p - q ≤ 10 → hJ h 64 12 = lN (vB 27 T q (p - q))) ∧ (lt = false → nL T q (p - q) = 0 → p - q ≤ 2 → hI h 64 8 = nI (vN T q (p - q)))
theorem l_189r {q : Nat} {lt : Bool} : ∀ r p m h, p + r = sz → q ≤ p → Fix h → MX h T sz lim → RM h T lt q p →
    ∃ g, l_189_215 (r + 1 + m) (some 64) (bI lt) (bI (gdB lt T q (p - q))) h = b_189_350 (some 64) (bI lt) (bI (gdB lt T q (rne T r p - q))) g ∧ Fz [6000064, 9000064, 13000064] h g ∧ RM g T lt q (rne T r p) := by
  intro r
  induction r with
  | zero =>
    intro p m h hp hq hF hX hR
    obtain ⟨x1, x2, x3, x4, x5⟩ := id hX
    obtain rfl : p = sz := by omega
    have e0 := s_186 (p := p) hF hX (by omega)
    rw [if_neg (by omega)] at e0
    have d0 : isDg 0 = false := rfl
    have l0 : isLt 0 = false := rfl
    refine ⟨h, ?_, Fz.rfl', hR⟩
    rw [show 0 + 1 + m = m + 1 by omega, l_189_215, b_189_215, gI64 hF, Option.bind_some, hR.1, rC64 hF, grd_e, Option.bind_some, e0, Option.bind_some, s_188 (by omega), Option.bind_some, l0]
    dsimp only
    rw [if_neg (show ¬ ¬ bI false = 0 from fun z => z rfl), b_189_229, gI64 hF, Option.bind_some, hR.1, rC64 hF, grd_e, Option.bind_some, e0, Option.bind_some, s_187 (by omega), Option.bind_some, d0]
    dsimp only
    rw [if_pos (show bI false = 0 from rfl)]
    rfl
  | succ r ih =>
    intro p m h hp hq hF hX hR
    obtain ⟨x1, x2, x3, x4, x5⟩ := id hX
    obtain ⟨r1, r0, r2, r3⟩ := id hR
    obtain ⟨tb, tl⟩ := x5 p (by omega)
    have es : rne T (r + 1) p = if (isLt (T p) || isDg (T p)) = true then rne T r (p + 1) else p := rfl
    have pq : p + 1 - q = (p - q) + 1 := by omega
    have aq : q + (p - q) = p := by omega
    have e6 := s_186 (p := p) hF hX (by omega)
    rw [if_pos (show p < sz by omega)] at e6
    have rd : aI 12 (some 65) (nI p) h = some (nI (T p)) := by rw [aI_n (K65 hF) (L65 hF) (show p < 940 by omega) (by omega), tb]
    have pre : l_189_215 (r + 1 + 1 + m) (some 64) (bI lt) (bI (gdB lt T q (p - q))) h = if (isLt (T p) || isDg (T p)) = true then b_189_243 (l_189_215 (r + 1 + m)) (some 64) (bI lt) (bI (gdB lt T q (p - q))) h else b_189_350 (some 64) (bI lt) (bI (gdB lt T q (p - q))) h := by
      rw [show r + 1 + 1 + m = (r + 1 + m) + 1 by omega, l_189_215, b_189_215, gI64 hF, Option.bind_some, r1, rC64 hF, grd_e, Option.bind_some, e6, Option.bind_some, s_188 (by omega), Option.bind_some]
      dsimp only
      cases hl : isLt (T p)
      · rw [if_neg (show ¬ ¬ bI false = 0 from fun z => z rfl), b_189_229, gI64 hF, Option.bind_some, r1, rC64 hF, grd_e, Option.bind_some, e6, Option.bind_some, s_187 (by omega), Option.bind_some]
        dsimp only
        cases hd : isDg (T p)
        · rw [if_pos (show bI false = 0 from rfl)]; rfl
        · rw [if_neg (show ¬ bI true = 0 by decide)]; rfl
      · rw [if_pos (show ¬ bI true = 0 by decide)]; rfl
    rw [pre]
    by_cases ha : (isLt (T p) || isDg (T p)) = true
    · rw [if_pos ha, es, if_pos ha]
      have dl : isDg (T p) = !isLt (T p) := by
        unfold isLt isDg at ha ⊢
        rw [Bool.or_eq_true, decide_eq_true_eq, decide_eq_true_eq] at ha
        rcases ha with z | z
        · rw [decide_eq_true z, decide_eq_false (by omega)]; rfl
        · rw [decide_eq_true z, decide_eq_false (by omega)]; rfl
      have gs : gdB lt T q (p + 1 - q) = (gdB lt T q (p - q) && (isLt (T p) == lt)) := by
        unfold gdB
        rw [pq, nLs, nDs, aq, dl]
        cases lt <;> cases isLt (T p) <;> simp
      -- behind the good flag
      have fin : ∃ g, b_189_272 (l_189_215 (r + 1 + m)) (some 64) (bI lt) (nI (T p)) (bI (gdB lt T q (p + 1 - q))) h = b_189_350 (some 64) (bI lt) (bI (gdB lt T q (rne T r (p + 1) - q))) g ∧ Fz [6000064, 9000064, 13000064] h g ∧ RM g T lt q (rne T r (p + 1)) := by
        have last : ∀ h3 : Hp, Fz [9000064, 13000064] h h3 → (lt = true → nD T q (p + 1 - q) = 0 → p + 1 - q ≤ 10 → hJ h3 64 12 = lN (vB 27 T q (p + 1 - q))) → (lt = false → nL T q (p + 1 - q) = 0 → p + 1 - q ≤ 2 → hI h3 64 8 = nI (vN T q (p + 1 - q))) → ∃ g, b_189_337 (l_189_215 (r + 1 + m)) (some 64) (bI lt) (bI (gdB lt T q (p + 1 - q))) h3 = b_189_350 (some 64) (bI lt) (bI (gdB lt T q (rne T r (p + 1) - q))) g ∧ Fz [6000064, 9000064, 13000064] h g ∧ RM g T lt q (rne T r (p + 1)) := by
          intro h3 z3 w1 w2
          have F3 := z3.fix hF (by decide)
          have v5 : hI h3 64 5 = nI p := by rw [z3.I1 (by decide) (by decide)]; exact r1
          have v6 : hI h3 64 6 = nI q := by rw [z3.I1 (by decide) (by decide)]; exact r0
          have z4 : Fz [6000064, 9000064, 13000064] h (sI h3 64 5 (nI (p + 1))) := (z3.wid (by intro z hz; simp only [List.mem_cons, List.not_mem_nil, or_false] at hz ⊢; omega)).then (Fz.sI Fz.rfl' (Or.inr (by simp)))
          obtain ⟨g, a1, a2, a3⟩ := ih (p + 1) m (sI h3 64 5 (nI (p + 1))) (by omega) (by omega) (fx_sI F3 (by omega)) (hX.cz (z4.wid (by intro z hz; simp only [List.mem_cons, List.not_mem_nil, or_false] at hz ⊢; omega))) ⟨by rw [hI_sI, if_pos ⟨rfl, rfl⟩], by rw [hI_sI, if_neg (by omega)]; exact v6, fun y1 y2 y3 => by rw [hJ_sI]; exact w1 y1 y2 y3, fun y1 y2 y3 => by rw [hI_sI, if_neg (by omega)]; exact w2 y1 y2 y3⟩
          refine ⟨g, ?_, z4.then a2, a3⟩
          rw [b_189_337, gI64 F3, Option.bind_some, v5, nI_add, pI64 F3, Option.bind_some]
          exact a1
        have mid : ∀ h2 : Hp, Fz [13000064] h h2 → (lt = true → nD T q (p + 1 - q) = 0 → p + 1 - q ≤ 10 → hJ h2 64 12 = lN (vB 27 T q (p + 1 - q))) → ∃ g, b_189_307 (l_189_215 (r + 1 + m)) (some 64) (bI lt) (bI (gdB lt T q (p + 1 - q))) (nI (T p)) h2 = b_189_350 (some 64) (bI lt) (bI (gdB lt T q (rne T r (p + 1) - q))) g ∧ Fz [6000064, 9000064, 13000064] h g ∧ RM g T lt q (rne T r (p + 1)) := by
          intro h2 z2 w1
          have F2 := z2.fix hF (by decide)
          have v5 : hI h2 64 5 = nI p := by rw [z2.I1 (by decide) (by decide)]; exact r1
          have v6 : hI h2 64 6 = nI q := by rw [z2.I1 (by decide) (by decide)]; exact r0
          have v8 : hI h2 64 8 = hI h 64 8 := z2.I1 (by decide) (by decide)
          rw [b_189_307, gI64 F2, Option.bind_some, gI64 F2, Option.bind_some, v5, v6, pk_sub hq]
          by_cases c : 2 ≤ p - q
          · rw [if_pos ((nI_leI (by omega) (by omega)).2 c)]
            exact last h2 (z2.wid (by intro z hz; simp only [List.mem_cons, List.not_mem_nil, or_false] at hz ⊢; omega)) w1 (fun _ _ y => by omega)
          · rw [if_neg (fun z => c ((nI_leI (by omega) (by omega)).1 z)), b_189_320, gI64 F2, Option.bind_some, v8]
            generalize ex : nI 10 * hI h 64 8 + nI (T p) - nI 48 = x
            have z3 : Fz [9000064, 13000064] h (sI h2 64 8 x) := (z2.wid (by intro z hz; simp only [List.mem_cons, List.not_mem_nil, or_false] at hz ⊢; omega)).then (Fz.sI Fz.rfl' (Or.inr (by simp)))
            obtain ⟨g, a1, a2, a3⟩ := last (sI h2 64 8 x) z3 (fun y1 y2 y3 => by rw [hJ_sI]; exact w1 y1 y2 y3) (fun y1 y2 y3 => by
              rw [pq, nLs] at y2
              have y4 : nL T q (p - q) = 0 := by omega
              have y5 : isLt (T p) = false := by
                cases hl : isLt (T p)
                · rfl
                · rw [aq, hl] at y2; simp at y2
              have y6 : isDg (T p) = true := by rw [dl, y5]; rfl
              have y7 := of_decide_eq_true y6
              rw [hI_sI, if_pos ⟨rfl, rfl⟩, ← ex, r3 y1 y4 (by omega), pk_mul, nI_add, pk_sub (by omega), pq]
              show _ = nI (10 * vN T q (p - q) + (T (q + (p - q)) - 48))
              rw [aq]
              congr 1
              omega)
            refine ⟨g, ?_, a2, a3⟩
            rw [pI64 F2, Option.bind_some]
            exact a1
        rw [b_189_272, gI64 hF, Option.bind_some, gI64 hF, Option.bind_some, r1, r0, pk_sub hq]
        by_cases c : 10 ≤ p - q
        · rw [if_pos ((nI_leI (by omega) (by omega)).2 c)]
          exact mid h Fz.rfl' (fun _ _ y => by omega)
        · rw [if_neg (fun z => c ((nI_leI (by omega) (by omega)).1 z)), b_189_287, gJ64 hF, Option.bind_some]
          generalize ex : lN 27 * hJ h 64 12 + (nI (T p)).toInt64 - lN 96 = x
          have z2 : Fz [13000064] h (sJ h 64 12 x) := Fz.sJ Fz.rfl' (Or.inr (by simp))
          obtain ⟨g, a1, a2, a3⟩ := mid (sJ h 64 12 x) z2 (fun y1 y2 y3 => by
            rw [pq, nDs] at y2
            have y4 : nD T q (p - q) = 0 := by omega
            have y5 : isDg (T p) = false := by
              cases hl : isDg (T p)
              · rfl
              · rw [aq, hl] at y2; simp at y2
            have y6 : isLt (T p) = true := by
              cases hl : isLt (T p)
              · rw [hl, y5] at ha; cases ha
              · rfl
            have y7 := of_decide_eq_true y6
            rw [hJ_sJ, if_pos ⟨rfl, rfl⟩, ← ex, r2 y1 y4 (by omega), i2l (by omega), lN_mul, lN_add, lN_sub (by omega), pq]
            show _ = lN (27 * vB 27 T q (p - q) + (T (q + (p - q)) - 96))
            rw [aq]
            congr 1
            omega)
          refine ⟨g, ?_, a2, a3⟩
          rw [pJ64 hF, Option.bind_some]
          exact a1
      rw [b_189_243, gQ64_1 hF, Option.bind_some, gI64 hF, Option.bind_some, r1, rd, Option.bind_some]
      rw [gs] at fin
      cases hg : gdB lt T q (p - q)
      · rw [hg, Bool.false_and, bI_f] at fin
        rw [if_pos (by decide), b_189_271]
        exact fin
      · rw [hg, Bool.true_and] at fin
        rw [if_neg (by decide), b_189_258, s_188 (by omega), Option.bind_some]
        simp only [bI_inj]
        by_cases cl : isLt (T p) = lt
        · rw [if_neg (fun z => z cl), b_189_267]
          have e : (isLt (T p) == lt) = true := by rw [cl]; simp
          rw [e, bI_t] at fin
          exact fin
        · rw [if_pos cl, b_189_271]
          have e : (isLt (T p) == lt) = false := by
            cases hx : (isLt (T p) == lt)
            · rfl
            · exact absurd (by simpa using hx) cl
          rw [e, bI_f] at fin
          exact fin
    · rw [if_neg ha, es, if_neg ha]
      exact ⟨h, rfl, Fz.rfl', hR⟩
end TOKM
