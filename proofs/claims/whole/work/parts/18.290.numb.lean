/-! numbers read -/
section NUMB
variable {T : Nat → Nat} {sz lim p : Nat}
def tkV (T : Nat → Nat) (sz lim p : Nat) : Nat := vN T (tkA T sz lim p) (tkN T sz lim p - tkA T sz lim p)
theorem tk_num (hp : p ≤ sz) (hk : tkK T sz lim p = 3) : tkV T sz lim p ≤ 99 := by
  have kk : tkK T sz lim p = if lim < sz ∧ lim ≤ tkQ T sz p then 1 else if sz ≤ tkQ T sz p then 0 else if (isLt (T (tkQ T sz p)) || isDg (T (tkQ T sz p))) = true then rnK T (tkQ T sz p) (tkE T sz p - tkQ T sz p) else if isSg (T (tkQ T sz p)) = true then T (tkQ T sz p) else 1 := rfl
  have ka : tkA T sz lim p = if lim < sz ∧ lim ≤ tkQ T sz p then lim else tkQ T sz p := rfl
  have kn : tkN T sz lim p = if lim < sz ∧ lim ≤ tkQ T sz p then tkQ T sz p else if sz ≤ tkQ T sz p then tkQ T sz p else if (isLt (T (tkQ T sz p)) || isDg (T (tkQ T sz p))) = true then tkE T sz p else tkQ T sz p + 1 := rfl
  unfold tkV
  rw [kk] at hk
  by_cases c : lim < sz ∧ lim ≤ tkQ T sz p
  · rw [if_pos c] at hk; omega
  · rw [if_neg c] at hk ka kn
    by_cases c2 : sz ≤ tkQ T sz p
    · rw [if_pos c2] at hk; omega
    · rw [if_neg c2] at hk kn
      by_cases c3 : (isLt (T (tkQ T sz p)) || isDg (T (tkQ T sz p))) = true
      · rw [if_pos c3] at hk kn
        unfold rnK at hk
        by_cases c4 : nD T (tkQ T sz p) (tkE T sz p - tkQ T sz p) = 0 ∧ tkE T sz p - tkQ T sz p ≤ 10
        · rw [if_pos c4] at hk; omega
        · rw [if_neg c4] at hk
          by_cases c5 : nL T (tkQ T sz p) (tkE T sz p - tkQ T sz p) = 0 ∧ tkE T sz p - tkQ T sz p ≤ 2
          · rw [ka, kn]
            have dg : ∀ i, i < tkE T sz p - tkQ T sz p → T (tkQ T sz p + i) - 48 ≤ 9 := by
              intro i hi
              have al := rne_al T (sz - tkQ T sz p) (tkQ T sz p) (tkQ T sz p + i) (by omega) (by
                have : tkE T sz p = rne T (sz - tkQ T sz p) (tkQ T sz p) := rfl
                omega)
              have nl : isLt (T (tkQ T sz p + i)) = false := fb_ct_zero.1 c5.1 i hi
              rw [nl, Bool.false_or] at al
              have := of_decide_eq_true al
              omega
            have c6 := c5.2
            generalize tkE T sz p - tkQ T sz p = n at *
            generalize tkQ T sz p = q at *
            rcases (show n = 0 ∨ n = 1 ∨ n = 2 by omega) with e | e | e <;> subst e
            · show 0 ≤ 99; omega
            · show 10 * 0 + (T (q + 0) - 48) ≤ 99
              have := dg 0 (by omega)
              omega
            · show 10 * (10 * 0 + (T (q + 0) - 48)) + (T (q + 1) - 48) ≤ 99
              have := dg 0 (by omega)
              have := dg 1 (by omega)
              omega
          · rw [if_neg c5] at hk; omega
      · rw [if_neg c3] at hk
        by_cases sg : isSg (T (tkQ T sz p)) = true
        · rw [if_pos sg] at hk
          have := of_decide_eq_true sg
          omega
        · rw [if_neg sg] at hk; omega
def nmB (T : Nat → Nat) (sz lim p : Nat) (a b : Int) : Bool := decide (tkK T sz lim p = 3) && decide (a ≤ (tkV T sz lim p : Int) ∧ (tkV T sz lim p : Int) ≤ b)
def nmF (T : Nat → Nat) (sz lim p : Nat) : Nat := if tkK T sz lim p = 3 then 2 else 1
theorem s_124 {h : Hp} {a b : Int} (hC : CT h T sz lim p) (ha : -1000 ≤ a ∧ a ≤ 1000) (hb : -1000 ≤ b ∧ b ≤ 1000) : ∃ g, f_124 (some 31) (zI a) (zI b) h = some (bI (nmB T sz lim p a b), g) ∧ Fz [7000031, 8000031] h g ∧ (nmB T sz lim p a b = true → g = h ∧ hI h 31 4 = nI (tkV T sz lim p)) ∧ (nmB T sz lim p a b = false → hI g 31 6 = nI (nmF T sz lim p) ∧ hI g 31 7 = nI (tkA T sz lim p)) := by
  obtain ⟨c1, c2, c3, c4⟩ := id hC
  have kl := tkK_le (T := T) (sz := sz) (lim := lim) (p := p)
  have kc := kcl_e (x := 40) kl
  rw [f_124, b_124_0, gI31 c1, Option.bind_some, c3.1]
  unfold nmB nmF
  by_cases c : tkK T sz lim p = 3
  · have vl := tk_num c4 c
    have v4 : hI h 31 4 = nI (tkV T sz lim p) := c3.2.2.2.2 c
    have bad : ∃ g, b_124_30 (some 31) h = some (bI false, g) ∧ Fz [7000031, 8000031] h g ∧ hI g 31 6 = nI 2 ∧ hI g 31 7 = nI (tkA T sz lim p) := by
      obtain ⟨g, a1, a2, a3, a4⟩ := s_119 (k := 2) hC
      refine ⟨g, ?_, a2, a3, a4⟩
      rw [b_124_30, rC31 c1, grd_e, Option.bind_some, a1, Option.bind_some]
      rfl
    rw [if_pos (by rw [c]; rfl), b_124_14, gI31 c1, Option.bind_some, v4, decide_eq_true c, Bool.true_and, if_pos c]
    by_cases d1 : (tkV T sz lim p : Int) < a
    · rw [if_pos (by rw [nz, zI_lt (by omega) (by omega) (by omega) (by omega)]; exact d1), decide_eq_false (by omega)]
      obtain ⟨g, a1, a2, a3, a4⟩ := bad
      exact ⟨g, a1, a2, fun z => (by cases z), fun _ => ⟨a3, a4⟩⟩
    · rw [if_neg (by rw [nz, zI_lt (by omega) (by omega) (by omega) (by omega)]; exact d1), b_124_22, gI31 c1, Option.bind_some, v4]
      by_cases d2 : (tkV T sz lim p : Int) ≤ b
      · rw [if_pos (by rw [nz, zI_le (by omega) (by omega) (by omega) (by omega)]; exact d2), decide_eq_true (by omega)]
        exact ⟨h, rfl, Fz.rfl', fun _ => ⟨rfl, rfl⟩, fun z => (by cases z)⟩
      · rw [if_neg (by rw [nz, zI_le (by omega) (by omega) (by omega) (by omega)]; exact d2), decide_eq_false (by omega)]
        obtain ⟨g, a1, a2, a3, a4⟩ := bad
        exact ⟨g, a1, a2, fun z => (by cases z), fun _ => ⟨a3, a4⟩⟩
  · rw [if_neg (fun z => c (kc.2.2.1.1 ((nI_eq (by omega) (by omega)).1 z))), decide_eq_false c, Bool.false_and, if_neg c, b_124_8]
    obtain ⟨g, a1, a2, a3, a4⟩ := s_119 (k := 1) hC
    exact ⟨g, by rw [rC31 c1, grd_e, Option.bind_some, a1, Option.bind_some]; rfl, a2, fun z => (by cases z), fun _ => ⟨a3, a4⟩⟩
theorem s_199 {h : Hp} {a b : Int} (hC : MTk h T sz lim p) (ha : -1000 ≤ a ∧ a ≤ 1000) (hb : -1000 ≤ b ∧ b ≤ 1000) : ∃ g, f_199 (some 64) (zI a) (zI b) h = some (bI (nmB T sz lim p a b), g) ∧ Fz [6000064, 7000064, 8000064, 9000064, 10000064, 13000064, 11000064, 12000064, 14000064] h g ∧ (nmB T sz lim p a b = true → MTk g T sz lim (tkN T sz lim p) ∧ hI g 64 13 = nI (tkV T sz lim p) ∧ hI g 64 10 = hI h 64 10) ∧ (nmB T sz lim p a b = false → hI g 64 10 = nI (nmF T sz lim p) ∧ hI g 64 11 = nI (tkA T sz lim p)) := by
  obtain ⟨c1, c2, c3, c4⟩ := id hC
  have kl := tkK_le (T := T) (sz := sz) (lim := lim) (p := p)
  have kc := kmd_e kl
  rw [f_199, b_199_0, gI64 c1, Option.bind_some, c3.1]
  unfold nmB nmF
  by_cases c : tkK T sz lim p = 3
  · have vl := tk_num c4 c
    have v8 : hI h 64 8 = nI (tkV T sz lim p) := c3.2.2.2.2.2 c
    rw [if_pos (by rw [c]; rfl), b_199_14, gI64 c1, Option.bind_some, v8, s_182, Option.bind_some, decide_eq_true c, Bool.true_and, if_pos c, toI_nI (by omega), zI_toInt (by omega) (by omega), zI_toInt (by omega) (by omega)]
    dsimp only
    by_cases d : a ≤ (tkV T sz lim p : Int) ∧ (tkV T sz lim p : Int) ≤ b
    · rw [bI_T d, if_pos nI10, decide_eq_true d, b_199_32, gI64 c1, Option.bind_some, v8, pI64 c1, Option.bind_some]
      have z1 : Fz [14000064] h (sI h 64 13 (nI (tkV T sz lim p))) := Fz.sI Fz.rfl' (Or.inr (by simp))
      have C1 : MTk (sI h 64 13 (nI (tkV T sz lim p))) T sz lim p := by
        obtain ⟨t1, t2, t3, t4, t5, t6⟩ := c3
        obtain ⟨m1, m2, m3, m4, m5⟩ := c2
        have i : ∀ j, j ≠ 13 → hI (sI h 64 13 (nI (tkV T sz lim p))) 64 j = hI h 64 j := fun j hj => by rw [hI_sI, if_neg (by omega)]
        refine ⟨fx_sI c1 (by omega), ⟨by rw [i 3 (by omega)]; exact m1, by rw [i 4 (by omega)]; exact m2, m3, m4, fun x hx => by rw [hI_sI, if_neg (by omega)]; exact m5 x hx⟩, ⟨by rw [i 7 (by omega)]; exact t1, by rw [i 6 (by omega)]; exact t2, by rw [i 5 (by omega)]; exact t3, fun z => by rw [i 9 (by omega)]; exact t4 z, fun z => by rw [hJ_sI]; exact t5 z, fun z => by rw [i 8 (by omega)]; exact t6 z⟩, c4⟩
      obtain ⟨g, a1, a2, a3⟩ := m_step C1
      refine ⟨g, by rw [rC64 C1.1, grd_e, Option.bind_some, a1, Option.bind_some, grd1, Option.bind_some], (z1.wid (by intro z hz; simp only [List.mem_cons, List.not_mem_nil, or_false] at hz ⊢; omega)).then (a2.wid (by intro z hz; simp only [List.mem_cons, List.not_mem_nil, or_false] at hz ⊢; omega)), fun _ => ⟨a3, ?_, ?_⟩, fun z => (by cases z)⟩
      · rw [a2.I1 (by decide) (by decide), hI_sI, if_pos ⟨rfl, rfl⟩]
      · rw [a2.I1 (by decide) (by decide), hI_sI, if_neg (by omega)]
    · rw [bI_F d, if_neg (fun z => z rfl), decide_eq_false d, b_199_26]
      obtain ⟨g, a1, a2, a3, a4⟩ := s_198 (k := 2) hC
      rw [if_neg (by omega)] at a3
      exact ⟨g, by rw [rC64 c1, grd_e, Option.bind_some, a1, Option.bind_some]; rfl, a2.wid (by intro z hz; simp only [List.mem_cons, List.not_mem_nil, or_false] at hz ⊢; omega), fun z => (by cases z), fun _ => ⟨a3, a4⟩⟩
  · rw [if_neg (fun z => c (kc.2.2.2.1.1 ((nI_eq (by omega) (by omega)).1 z))), decide_eq_false c, Bool.false_and, if_neg c, b_199_8]
    obtain ⟨g, a1, a2, a3, a4⟩ := s_198 (k := 1) hC
    refine ⟨g, by rw [rC64 c1, grd_e, Option.bind_some, a1, Option.bind_some]; rfl, a2.wid (by intro z hz; simp only [List.mem_cons, List.not_mem_nil, or_false] at hz ⊢; omega), fun z => (by cases z), fun _ => ⟨?_, a4⟩⟩
    rw [a3]
    split <;> rfl
end NUMB
