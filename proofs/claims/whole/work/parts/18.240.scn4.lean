/-! scenes: draughts; what a day's act wants -/
section SC4
variable {τ : Nat → Nat} {s : Nat} {E an : Nat → Nat} {pl : Nat}
theorem WF.dg {i : Nat} (hW : WF E) (hi : i < 3 * E 3) : E (310 + i) < E 2 := hW.2.2.2.2.2.2.2.2 i hi
theorem bl_lt (hW : WF E) (h3 : ∀ d, d < E 2 → an d < 3) : ∀ k, k ≤ E 3 → ∀ d, d < E 2 → (bl E an pl k).1 d < 3 := by
  intro k
  induction k with
  | zero => intro _ d hd; exact h3 d hd
  | succ k ih =>
    intro hk d hd
    have h1 := ih (by omega)
    unfold bl
    split
    · rename_i c
      show upn _ _ _ d < 3
      unfold upn
      split
      · have := h1 _ (hW.dg (show 3 * k + 2 < 3 * E 3 by omega))
        rw [show 310 + (3 * k + 2) = 310 + 3 * k + 2 by omega] at this
        omega
      · exact h1 d hd
    · exact h1 d hd
theorem l_95 (hT : TG τ) (hs : SP s) (hW : WF E) (h3 : ∀ d, d < E 2 → an d < 3) (hp : pl ≤ 100) : ∀ r k m h, k + r = E 3 → Fix h → ScR τ h s E (bl E an pl k).1 pl → (bl E an pl k).2 ≤ k →
    ∃ g, l_95_4 (r + 1 + m) (some s) (nI (bl E an pl k).2) (nI k) h = some (nI (bl E an pl (E 3)).2, g) ∧ Fz [s + 2] h g ∧ ScR τ g s E (bl E an pl (E 3)).1 pl := by
  intro r
  induction r with
  | zero =>
    intro k m h hk hF hS hn
    obtain ⟨q0, q1, q2, q3, q4, q5, q6, q7⟩ := spF hF hs
    have hS' := hS
    obtain ⟨p0, hH, p1, p2⟩ := hS'
    obtain ⟨hk4, ge, t, a0, a1, a2, ⟨f0, f1, f2, f3, f4⟩, hcl, _, hw⟩ := hH
    obtain rfl : k = E 3 := by omega
    have w3 := hW.2.2.2.1
    refine ⟨h, ?_, Fz.rfl', hS⟩
    rw [show 0 + 1 + m = m + 1 by omega]
    rw [l_95_4]
    repeat ((first | rw [f_95] | rw [b_95_0] | rw [b_95_4] | rw [b_95_15] | rw [b_95_49] | rw [b_95_68] | rw [b_95_72] | rw [b_95_73] | rw [b_95_80] | rw [b_95_90] | rw [b_95_108] | rw [b_95_122] | rw [b_95_128]) <;> try simp (disch := first | assumption | (repeat' (first | apply fx_sI | apply fx_sJ | assumption | omega))) only [↓reduceIte, Option.bind_some, bnd_e, grd_e, grd0, grd1, gQ_e q0, p0, gI_e hk4, f3, Option.bind_some, nI_leI, Nat.le_refl])
  | succ r ih =>
    intro k m h hk hF hS hn
    obtain ⟨q0, q1, q2, q3, q4, q5, q6, q7⟩ := spF hF hs
    have w2 := hW.2.2.1
    have w3 := hW.2.2.2.1
    have g0 := hW.dg (show 3 * k < 3 * E 3 by omega)
    have g1 := hW.dg (show 3 * k + 1 < 3 * E 3 by omega)
    have g2 := hW.dg (show 3 * k + 2 < 3 * E 3 by omega)
    have h3k := bl_lt (pl := pl) hW h3 k (by omega)
    have hS' := hS
    obtain ⟨p0, hH, p1, p2⟩ := hS'
    obtain ⟨hk4, ge, t, a0, a1, a2, ⟨f0, f1, f2, f3, f4⟩, hcl, _, hw⟩ := hH
    have w0' := hw (3 * k) (by omega)
    have w1' := hw (3 * k + 1) (by omega)
    have w2' := hw (3 * k + 2) (by omega)
    have b0 := h3k _ g0
    have b1 := h3k _ g1
    have b2 := h3k _ g2
    have e92 := s_92 (z := ((bl E an pl k).1 (E (310 + (3 * k + 2))) : Int) - 1) hF hs hS hW h3k hp g2 (by omega)
    rw [← zI_sub, zI_nat, show zI 1 = nI 1 from rfl] at e92
    have bs : bl E an pl (k + 1) = if 0 < (bl E an pl k).1 (E (310 + (3 * k))) ∧ 0 < (bl E an pl k).1 (E (310 + (3 * k + 1))) ∧ 0 < (bl E an pl k).1 (E (310 + (3 * k + 2))) ∧ hndK E (bl E an pl k).1 pl (E (310 + (3 * k + 2))) ((bl E an pl k).1 (E (310 + (3 * k + 2))) - 1) = 0 then (upn (bl E an pl k).1 (E (310 + (3 * k + 2))) ((bl E an pl k).1 (E (310 + (3 * k + 2))) - 1), (bl E an pl k).2 + 1) else bl E an pl k := rfl
    rw [show r + 1 + 1 + m = (r + 1 + m) + 1 by omega]
    have nle (x : Nat) (hx : x < 3) : (nI x ≤ 0) = (x = 0) := by
      apply propext
      rw [← nI_0, nI_leI (by omega) (by omega)]
      omega
    have same : bl E an pl (k + 1) = bl E an pl k → l_95_4 ((r + 1 + m) + 1) (some s) (nI (bl E an pl k).2) (nI k) h = l_95_4 (r + 1 + m) (some s) (nI (bl E an pl k).2) (nI (k + 1)) h → ∃ g, l_95_4 ((r + 1 + m) + 1) (some s) (nI (bl E an pl k).2) (nI k) h = some (nI (bl E an pl (E 3)).2, g) ∧ Fz [s + 2] h g ∧ ScR τ g s E (bl E an pl (E 3)).1 pl := by
      intro e1 e2
      rw [e2]
      have := ih (k + 1) m h (by omega) hF (by rw [e1]; exact hS) (by rw [e1]; omega)
      rw [e1] at this
      exact this
    by_cases c0 : (bl E an pl k).1 (E (310 + (3 * k))) = 0
    · have t0 : nI ((bl E an pl k).1 (E (310 + (3 * k)))) ≤ 0 := by rw [nle _ b0]; exact c0
      apply same
      · rw [bs, if_neg (by omega)]
      · rw [l_95_4]
        repeat ((first | rw [f_95] | rw [b_95_0] | rw [b_95_4] | rw [b_95_15] | rw [b_95_49] | rw [b_95_68] | rw [b_95_72] | rw [b_95_73] | rw [b_95_80] | rw [b_95_90] | rw [b_95_108] | rw [b_95_122] | rw [b_95_128]) <;> try simp (disch := first | assumption | (repeat' (first | apply fx_sI | apply fx_sJ | assumption | omega))) only [↓reduceIte, Option.bind_some, bnd_e, grd_e, grd0, grd1, gQ_e q0, gQ_e hk4, p0, q2, a2.1, gI_e hk4, f3, Option.bind_some, nI_leI, show ¬ E 3 ≤ k by omega, bnd_e, pk_mul, nI_add, aI_n a2.2.1 a2.2.2.1, w0', w1', w2', aI_n q5 q6, (p1 _ g0).2, t0, nI00])
    have t0 : ¬ nI ((bl E an pl k).1 (E (310 + (3 * k)))) ≤ 0 := by rw [nle _ b0]; exact c0
    by_cases c1 : (bl E an pl k).1 (E (310 + (3 * k + 1))) = 0
    · have t1 : nI ((bl E an pl k).1 (E (310 + (3 * k + 1)))) ≤ 0 := by rw [nle _ b1]; exact c1
      apply same
      · rw [bs, if_neg (by omega)]
      · rw [l_95_4]
        repeat ((first | rw [f_95] | rw [b_95_0] | rw [b_95_4] | rw [b_95_15] | rw [b_95_49] | rw [b_95_68] | rw [b_95_72] | rw [b_95_73] | rw [b_95_80] | rw [b_95_90] | rw [b_95_108] | rw [b_95_122] | rw [b_95_128]) <;> try simp (disch := first | assumption | (repeat' (first | apply fx_sI | apply fx_sJ | assumption | omega))) only [↓reduceIte, Option.bind_some, bnd_e, grd_e, grd0, grd1, gQ_e q0, gQ_e hk4, p0, q2, a2.1, gI_e hk4, f3, Option.bind_some, nI_leI, show ¬ E 3 ≤ k by omega, bnd_e, pk_mul, nI_add, aI_n a2.2.1 a2.2.2.1, w0', w1', w2', aI_n q5 q6, (p1 _ g0).2, (p1 _ g1).2, t0, t1, nI00])
    have t1 : ¬ nI ((bl E an pl k).1 (E (310 + (3 * k + 1)))) ≤ 0 := by rw [nle _ b1]; exact c1
    by_cases c2 : (bl E an pl k).1 (E (310 + (3 * k + 2))) = 0
    · have t2 : nI ((bl E an pl k).1 (E (310 + (3 * k + 2)))) ≤ 0 := by rw [nle _ b2]; exact c2
      apply same
      · rw [bs, if_neg (by omega)]
      · rw [l_95_4]
        repeat ((first | rw [f_95] | rw [b_95_0] | rw [b_95_4] | rw [b_95_15] | rw [b_95_49] | rw [b_95_68] | rw [b_95_72] | rw [b_95_73] | rw [b_95_80] | rw [b_95_90] | rw [b_95_108] | rw [b_95_122] | rw [b_95_128]) <;> try simp (disch := first | assumption | (repeat' (first | apply fx_sI | apply fx_sJ | assumption | omega))) only [↓reduceIte, Option.bind_some, bnd_e, grd_e, grd0, grd1, gQ_e q0, gQ_e hk4, p0, q2, a2.1, gI_e hk4, f3, Option.bind_some, nI_leI, show ¬ E 3 ≤ k by omega, bnd_e, pk_mul, nI_add, aI_n a2.2.1 a2.2.2.1, w0', w1', w2', aI_n q5 q6, (p1 _ g0).2, (p1 _ g1).2, (p1 _ g2).2, t0, t1, t2, nI10])
    have t2 : ¬ nI ((bl E an pl k).1 (E (310 + (3 * k + 2)))) ≤ 0 := by rw [nle _ b2]; exact c2
    have sw : swK E (bl E an pl k).1 pl (E (310 + (3 * k + 2))) (((bl E an pl k).1 (E (310 + (3 * k + 2))) : Int) - 1) = hndK E (bl E an pl k).1 pl (E (310 + (3 * k + 2))) ((bl E an pl k).1 (E (310 + (3 * k + 2))) - 1) := by
      unfold swK
      rw [if_neg (by omega)]
      congr 1
      omega
    rw [sw] at e92
    have hb : hndK E (bl E an pl k).1 pl (E (310 + (3 * k + 2))) ((bl E an pl k).1 (E (310 + (3 * k + 2))) - 1) < 10 := by unfold hndK; (repeat' split) <;> omega
    by_cases c3 : hndK E (bl E an pl k).1 pl (E (310 + (3 * k + 2))) ((bl E an pl k).1 (E (310 + (3 * k + 2))) - 1) = 0
    · have e1 : bl E an pl (k + 1) = (upn (bl E an pl k).1 (E (310 + (3 * k + 2))) ((bl E an pl k).1 (E (310 + (3 * k + 2))) - 1), (bl E an pl k).2 + 1) := by rw [bs, if_pos ⟨by omega, by omega, by omega, c3⟩]
      have s60 : s + 2 < 60 := by unfold SP at hs; omega
      have hF1 : Fix (sI h (s + 2) (E (310 + (3 * k + 2))) (nI ((bl E an pl k).1 (E (310 + (3 * k + 2))) - 1))) := fx_sI hF (by omega)
      obtain ⟨g, r1, r2, r3⟩ := ih (k + 1) m (sI h (s + 2) (E (310 + (3 * k + 2))) (nI ((bl E an pl k).1 (E (310 + (3 * k + 2))) - 1))) (by omega) hF1 (by rw [e1]; exact hS.up hT hs) (by rw [e1]; show (bl E an pl k).2 + 1 ≤ k + 1; omega)
      refine ⟨g, ?_, Fz.then (Fz.sI Fz.rfl' (Or.inl (by simp))) r2, r3⟩
      rw [e1] at r1
      rw [pk_sub (show 1 ≤ (bl E an pl k).1 (E (310 + (3 * k + 2))) by omega)] at e92
      rw [l_95_4]
      repeat ((first | rw [f_95] | rw [b_95_0] | rw [b_95_4] | rw [b_95_15] | rw [b_95_49] | rw [b_95_68] | rw [b_95_72] | rw [b_95_73] | rw [b_95_80] | rw [b_95_90] | rw [b_95_108] | rw [b_95_122] | rw [b_95_128]) <;> try simp (disch := first | assumption | (repeat' (first | apply fx_sI | apply fx_sJ | assumption | omega))) only [↓reduceIte, Option.bind_some, bnd_e, grd_e, grd0, grd1, gQ_e q0, gQ_e hk4, p0, q2, a2.1, gI_e hk4, f3, Option.bind_some, nI_leI, show ¬ E 3 ≤ k by omega, bnd_e, pk_mul, nI_add, aI_n a2.2.1 a2.2.2.1, w0', w1', w2', aI_n q5 q6, (p1 _ g0).2, (p1 _ g1).2, (p1 _ g2).2, t0, t1, t2, nI10, rC_e q0 q7, grd_e, e92, nI_eq0 (show hndK E (bl E an pl k).1 pl (E (310 + (3 * k + 2))) ((bl E an pl k).1 (E (310 + (3 * k + 2))) - 1) < 2147483648 by omega), c3, not_true, pk_sub (show 1 ≤ (bl E an pl k).1 (E (310 + (3 * k + 2))) by omega), wI_n q5 (show 30 ≤ s + 2 by omega) q6])
      exact r1
    · apply same
      · rw [bs, if_neg (fun z => c3 z.2.2.2)]
      · rw [l_95_4]
        repeat ((first | rw [f_95] | rw [b_95_0] | rw [b_95_4] | rw [b_95_15] | rw [b_95_49] | rw [b_95_68] | rw [b_95_72] | rw [b_95_73] | rw [b_95_80] | rw [b_95_90] | rw [b_95_108] | rw [b_95_122] | rw [b_95_128]) <;> try simp (disch := first | assumption | (repeat' (first | apply fx_sI | apply fx_sJ | assumption | omega))) only [↓reduceIte, Option.bind_some, bnd_e, grd_e, grd0, grd1, gQ_e q0, gQ_e hk4, p0, q2, a2.1, gI_e hk4, f3, Option.bind_some, nI_leI, show ¬ E 3 ≤ k by omega, bnd_e, pk_mul, nI_add, aI_n a2.2.1 a2.2.2.1, w0', w1', w2', aI_n q5 q6, (p1 _ g0).2, (p1 _ g1).2, (p1 _ g2).2, t0, t1, t2, nI10, rC_e q0 q7, grd_e, e92, nI_eq0 (show hndK E (bl E an pl k).1 pl (E (310 + (3 * k + 2))) ((bl E an pl k).1 (E (310 + (3 * k + 2))) - 1) < 2147483648 by omega), c3, not_false_eq_true])
theorem s_95 {h : Hp} (hF : Fix h) (hT : TG τ) (hs : SP s) (hS : ScR τ h s E an pl) (hW : WF E) (h3 : ∀ d, d < E 2 → an d < 3) (hp : pl ≤ 100) :
    ∃ g, f_95 (some s) h = some (nI (bl E an pl (E 3)).2, g) ∧ Fz [s + 2] h g ∧ ScR τ g s E (bl E an pl (E 3)).1 pl ∧ (∀ d, d < E 2 → (bl E an pl (E 3)).1 d < 3) := by
  obtain ⟨m, hm⟩ := FU_ge (E 3 + 1) (by have := hW.2.2.2.1; omega)
  obtain ⟨g, r1, r2, r3⟩ := l_95 hT hs hW h3 hp (E 3) 0 m h (by omega) hF hS (Nat.le_refl _)
  refine ⟨g, ?_, r2, r3, bl_lt hW h3 (E 3) (Nat.le_refl _)⟩
  simp only [f_95, b_95_0, b_95_4, b_95_15, b_95_49, b_95_68, b_95_72, b_95_73, b_95_80, b_95_90, b_95_108, b_95_122, b_95_128, ↓reduceIte, bnd_e]
  rw [hm]
  exact r1
theorem bl_le : ∀ k, (bl E an pl k).2 ≤ k := by
  intro k
  induction k with
  | zero => exact Nat.le_refl _
  | succ k ih =>
    unfold bl
    split
    · show _ + 1 ≤ k + 1; omega
    · omega
/-- what a door lacks of what an act of a day wants -/
def lkZ (E an : Nat → Nat) (A : Nat) : Int := if A % 2 = 1 then (an (dA A) : Int) else (if canB E (dA A) (dHg E (dA A)) 2 = true then 2 else 1) - (an (dA A) : Int)
theorem s_97 {h : Hp} {A : Nat} (hF : Fix h) (hs : SP s) (hS : ScR τ h s E an pl) (hW : WF E) (hA : 4 ≤ A) (hd : dA A < E 2) : f_97 (some s) (nI A) h = some (zI (lkZ E an A), h) := by
  obtain ⟨q0, q1, q2, q3, q4, q5, q6, q7⟩ := spF hF hs
  obtain ⟨p0, hH, p1, p2⟩ := hS
  have w2 := hW.2.2.1
  have hA3 : A < 1000 := by unfold dA at hd; omega
  have hd2 := hH.dr hd
  obtain ⟨hk4, ge, t, a0, a1, a2, ⟨f0, f1, f2, f3, f4⟩, hcl, _, hw⟩ := hH
  have hp1 := p1 _ hd
  have hg := hW.hg hd
  unfold lkZ
  rcases (show A % 2 = 0 ∨ A % 2 = 1 by omega) with o | o
  · simp (disch := first | assumption | (repeat' (first | apply fx_sI | apply fx_sJ | assumption | omega))) only [f_97, b_97_0, b_97_12, b_97_19, b_97_41, b_97_45, b_97_46, ↓reduceIte, s_99 hA hA3, Option.bind_some, bnd_e, d2, grd_e, ↓pk_rem, o, show ¬ nI 0 = nI 1 by decide, not_false_eq_true, gQ_e q0, gQ_e hk4, p0, q1, q2, a1.1, aQ_n a1.2.1 (show 15 ≤ 16 ∧ 16 ≤ 18 by omega) a1.2.2.1, hd2.1, aI_n q3 q4, aI_n q5 q6, hp1.1, hp1.2, rC_e hd2.2.1 hd2.2.2.1, s_12 hd2.2 hg (show 2 < 3 by omega), bI_0', show ¬ (0 = 1) by decide]
    cases canB E (dA A) (dHg E (dA A)) 2
    · rw [if_pos rfl, if_neg (by decide), nz, nz, zI_sub]; rfl
    · rw [if_neg (by decide), if_pos rfl, nz, nz, zI_sub]; rfl
  · simp (disch := first | assumption | (repeat' (first | apply fx_sI | apply fx_sJ | assumption | omega))) only [f_97, b_97_0, b_97_12, b_97_19, b_97_41, b_97_45, b_97_46, ↓reduceIte, s_99 hA hA3, Option.bind_some, bnd_e, d2, grd_e, ↓pk_rem, o, not_true, gQ_e q0, q2, aI_n q5 q6, hp1.2, zI_nat]
theorem lk_bd {A : Nat} (h3 : an (dA A) < 3) : -3 < lkZ E an A ∧ lkZ E an A < 3 := by
  unfold lkZ
  repeat' split
  all_goals omega
theorem s_96 {h : Hp} {A : Nat} (hF : Fix h) (hs : SP s) (hS : ScR τ h s E an pl) (hW : WF E) (h3 : ∀ d, d < E 2 → an d < 3) (hA : A < 4 + 2 * E 2) : f_96 (some s) (nI A) h = some (bI (decide (4 ≤ A ∧ lkZ E an A = 0)), h) := by
  obtain ⟨q0, q1, q2, q3, q4, q5, q6, q7⟩ := spF hF hs
  have w2 := hW.2.2.1
  by_cases c4 : A < 4
  · simp (disch := first | assumption | (repeat' (first | apply fx_sI | apply fx_sJ | assumption | omega))) only [f_96, b_96_0, b_96_5, b_96_13, b_96_17, b_96_18, ↓reduceIte, nI_ltI, c4, grd0, Option.bind_some]
    rw [bI_F (by omega)]
  · have hd : dA A < E 2 := by unfold dA; omega
    have lb := lk_bd (E := E) (h3 _ hd)
    have e0 : (zI (lkZ E an A) = 0) = (lkZ E an A = 0) := by
      apply propext
      rw [zI_0]
      exact zI_eq (by omega) (by omega) (by omega) (by omega)
    simp (disch := first | assumption | (repeat' (first | apply fx_sI | apply fx_sJ | assumption | omega))) only [f_96, b_96_0, b_96_5, b_96_13, b_96_17, b_96_18, ↓reduceIte, nI_ltI, c4, rC_e q0 q7, grd_e, Option.bind_some, s_97 hF hs hS hW (show 4 ≤ A by omega) hd, e0, grd0, grd1]
    by_cases c : lkZ E an A = 0
    · rw [if_neg (fun z => z c), bI_T ⟨by omega, c⟩]
    · rw [if_pos c, bI_F (fun z => c z.2)]
theorem s_96w {h : Hp} : f_96 (some s) (-1) h = some (bI false, h) := by
  have c1 : (-1 : Int32) < nI 4 := by decide
  simp only [f_96, b_96_0, b_96_5, b_96_13, b_96_17, b_96_18, ↓reduceIte, c1, grd0, Option.bind_some]
  rfl
end SC4
