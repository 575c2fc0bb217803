/-! the reference goes on -/
section TOKN
variable {T : Nat → Nat} {sz lim : Nat}
theorem l_189s : ∀ r p m h, p + r = sz → Fix h → MX h T sz lim → hI h 64 5 = nI p → ∃ g, l_189_0 (r + 1 + m) (some 64) h = b_189_52 (some 64) g ∧ Fz [6000064] h g ∧ hI g 64 5 = nI (skp T r p) := by
  intro r
  induction r with
  | zero =>
    intro p m h hp hF hX h9
    obtain rfl : p = sz := by omega
    refine ⟨h, ?_, Fz.rfl', h9⟩
    have x3 := hX.2.2.1
    rw [show 0 + 1 + m = m + 1 by omega, l_189_0, b_189_0]
    simp (disch := first | assumption | (repeat' (first | apply fx_sI | apply fx_sJ | assumption | omega))) only [bnd_e, grd_e, grd0, grd1, Option.bind_some, Option.isSome_some, gQ30_0, gQ30_1, gQ30_2, gQ30_3, gQ30_4, gQ30_5, gQ30_6, gQ30_7, gQ30_8, gQ30_9, gQ31_0, gQ33_0, gQ33_1, gQ36_0, gQ36_1, gQ39_0, gQ39_3, gQ39_4, gQ39_6, gQ39_8, gQ39_10, gQ39_11, gQ39_12, gQ48_0, gQ48_1, gQ51_2, gQ53_0, gQ53_1, gQ60_0, gQ60_1, gQ60_2, gQ64_1, gQ64_14, gQ64_15, gQ64_16, gQ64_17, gQ64_18, gQ64_19, gQ64_20, gQ64_21, gQ64_24, gQ64_25, gQ64_27, gQ64_28, gQ64_29, gQ64_30, gQ64_31, gQ64_34, gQ64_35, gQ64_36, gQ64_39, gQ64_40, gQ64_41, gQ64_43, gQ64_44, gQ64_48, gQ64_50, gQ64_51, gQ64_52, gQ64_53, gQ64_54, gQ64_58, gQ64_59, gI30, gJ30, pI30, pJ30, rC30, gI31, gJ31, pI31, pJ31, rC31, gI33, gJ33, pI33, pJ33, rC33, gI36, gJ36, pI36, pJ36, rC36, gI39, gJ39, pI39, pJ39, rC39, gI48, gJ48, pI48, pJ48, rC48, gI51, gJ51, pI51, pJ51, rC51, gI53, gJ53, pI53, pJ53, rC53, gI60, gJ60, pI60, pJ60, rC60, gI64, gJ64, pI64, pJ64, rC64, hF, h9, hX.1, nI_leI, Nat.le_refl, if_true]
  | succ r ih =>
    intro p m h hp hF hX h9
    obtain ⟨x1, x2, x3, x4, x5⟩ := id hX
    obtain ⟨tb, tl⟩ := x5 p (by omega)
    have es : skp T (r + 1) p = if isBl (T p) = true then skp T r (p + 1) else p := rfl
    have rd : aI 12 (some 65) (nI p) h = some (nI (T p)) := by rw [aI_n (K65 hF) (L65 hF) (show p < 940 by omega) (by omega), tb]
    have go : isBl (T p) = true → ∃ g, b_189_39 (l_189_0 (r + 1 + m)) (some 64) h = b_189_52 (some 64) g ∧ Fz [6000064] h g ∧ hI g 64 5 = nI (skp T (r + 1) p) := by
      intro hb
      have z1 : Fz [6000064] h (sI h 64 5 (nI (p + 1))) := Fz.sI Fz.rfl' (Or.inr (by simp))
      obtain ⟨g, a1, a2, a3⟩ := ih (p + 1) m (sI h 64 5 (nI (p + 1))) (by omega) (fx_sI hF (by omega)) (hX.cz (z1.wid (by intro z hz; simp only [List.mem_cons, List.not_mem_nil, or_false] at hz ⊢; omega))) (by rw [hI_sI, if_pos ⟨rfl, rfl⟩])
      refine ⟨g, ?_, z1.then a2, by rw [es, if_pos hb]; exact a3⟩
      rw [b_189_39, gI64 hF, Option.bind_some, h9, nI_add, pI64 hF, Option.bind_some]
      exact a1
    rw [show r + 1 + 1 + m = (r + 1 + m) + 1 by omega, l_189_0, b_189_0]
    simp (disch := first | assumption | (repeat' (first | apply fx_sI | apply fx_sJ | assumption | omega))) only [bnd_e, grd_e, grd0, grd1, Option.bind_some, Option.isSome_some, gQ30_0, gQ30_1, gQ30_2, gQ30_3, gQ30_4, gQ30_5, gQ30_6, gQ30_7, gQ30_8, gQ30_9, gQ31_0, gQ33_0, gQ33_1, gQ36_0, gQ36_1, gQ39_0, gQ39_3, gQ39_4, gQ39_6, gQ39_8, gQ39_10, gQ39_11, gQ39_12, gQ48_0, gQ48_1, gQ51_2, gQ53_0, gQ53_1, gQ60_0, gQ60_1, gQ60_2, gQ64_1, gQ64_14, gQ64_15, gQ64_16, gQ64_17, gQ64_18, gQ64_19, gQ64_20, gQ64_21, gQ64_24, gQ64_25, gQ64_27, gQ64_28, gQ64_29, gQ64_30, gQ64_31, gQ64_34, gQ64_35, gQ64_36, gQ64_39, gQ64_40, gQ64_41, gQ64_43, gQ64_44, gQ64_48, gQ64_50, gQ64_51, gQ64_52, gQ64_53, gQ64_54, gQ64_58, gQ64_59, gI30, gJ30, pI30, pJ30, rC30, gI31, gJ31, pI31, pJ31, rC31, gI33, gJ33, pI33, pJ33, rC33, gI36, gJ36, pI36, pJ36, rC36, gI39, gJ39, pI39, pJ39, rC39, gI48, gJ48, pI48, pJ48, rC48, gI51, gJ51, pI51, pJ51, rC51, gI53, gJ53, pI53, pJ53, rC53, gI60, gJ60, pI60, pJ60, rC60, gI64, gJ64, pI64, pJ64, rC64, hF, h9, x1, nI_leI, show ¬ sz ≤ p by omega, if_false]
    rw [b_189_11, gQ64_1 hF, Option.bind_some, gI64 hF, Option.bind_some, h9, rd, Option.bind_some]
    by_cases c : T p = 32
    · rw [if_pos (by rw [c])]
      exact go (decide_eq_true (Or.inl c))
    · rw [if_neg (fun z => c ((nI_eq (by omega) (by omega)).1 z)), b_189_25, gQ64_1 hF, Option.bind_some, gI64 hF, Option.bind_some, h9, rd, Option.bind_some]
      by_cases c2 : T p = 10
      · rw [if_neg (fun z => z (by rw [c2]))]
        exact go (decide_eq_true (Or.inr c2))
      · rw [if_pos (fun z => c2 ((nI_eq (by omega) (by omega)).1 z)), es, if_neg (by unfold isBl; rw [decide_eq_true_eq]; omega)]
        exact ⟨h, rfl, Fz.rfl', h9⟩
/-- the reference's token, read from p on -/
def TM (h : Hp) (T : Nat → Nat) (sz lim p : Nat) : Prop := hI h 64 7 = nI (kmd (tkK T sz lim p)) ∧ hI h 64 6 = nI (tkA T sz lim p) ∧ hI h 64 5 = nI (tkN T sz lim p) ∧ (3 < tkK T sz lim p → hI h 64 9 = nI (tkK T sz lim p)) ∧
  (tkK T sz lim p = 2 → hJ h 64 12 = lN (vB 27 T (tkA T sz lim p) (tkN T sz lim p - tkA T sz lim p))) ∧ (tkK T sz lim p = 3 → hI h 64 8 = nI (vN T (tkA T sz lim p) (tkN T sz lim p - tkA T sz lim p)))
theorem s_189r {h : Hp} {q : Nat} (hq : q < sz) (hF : Fix h) (hX : MX h T sz lim) (h5 : hI h 64 5 = nI q) (h6 : hI h 64 6 = nI q) (ha : (isLt (T q) || isDg (T q)) = true) :
    ∃ g, b_189_198 (some 64) (nI (T q)) h = some g ∧ Fz [6000064, 8000064, 9000064, 13000064] h g ∧ hI g 64 5 = nI (rne T (sz - q) q) ∧ hI g 64 6 = nI q ∧ hI g 64 7 = nI (rnK T q (rne T (sz - q) q - q)) ∧ (rnK T q (rne T (sz - q) q - q) = 2 → hJ g 64 12 = lN (vB 27 T q (rne T (sz - q) q - q))) ∧ (rnK T q (rne T (sz - q) q - q) = 3 → hI g 64 8 = nI (vN T q (rne T (sz - q) q - q))) := by
  obtain ⟨x1, x2, x3, x4, x5⟩ := id hX
  obtain ⟨tb, tl⟩ := x5 q hq
  have rl := rne_le T (sz - q) q
  have al := nLD (T := T) (a := q) (rne T (sz - q) q - q) (fun i hi => rne_al T (sz - q) q (q + i) (by omega) (by omega))
  have e1 : q + 1 ≤ rne T (sz - q) q := by
    obtain ⟨r, hr⟩ : ∃ r, sz - q = r + 1 := ⟨sz - q - 1, by omega⟩
    rw [hr]
    show q + 1 ≤ if (isLt (T q) || isDg (T q)) = true then rne T r (q + 1) else q
    rw [if_pos ha]
    exact (rne_le T r (q + 1)).1
  have pL : isLt (T q) = true → 0 < nL T q (rne T (sz - q) q - q) := fun z => fb_ct_pos.2 ⟨0, by omega, z⟩
  have pD : isDg (T q) = true → 0 < nD T q (rne T (sz - q) q - q) := fun z => fb_ct_pos.2 ⟨0, by omega, z⟩
  obtain ⟨m, hm⟩ := FU_ge (sz - q + 1) (by omega)
  generalize hlt : isLt (T q) = lt at *
  generalize y1 : sJ h 64 12 (lN 0) = h1
  generalize y2 : sI h1 64 8 (nI 0) = h2
  have F1 : Fix h1 := by rw [← y1]; exact fx_sJ hF (by omega)
  have F2 : Fix h2 := by rw [← y2]; exact fx_sI F1 (by omega)
  have z2 : Fz [9000064, 13000064] h h2 := by
    rw [← y2, ← y1]
    exact Fz.sI (Fz.sJ Fz.rfl' (Or.inr (by simp))) (Or.inr (by simp))
  have R2 : RM h2 T lt q q := by
    refine ⟨by rw [z2.I1 (by decide) (by decide)]; exact h5, by rw [z2.I1 (by decide) (by decide)]; exact h6, fun _ _ _ => ?_, fun _ _ _ => ?_⟩
    · rw [← y2, hJ_sI, ← y1, hJ_sJ, if_pos ⟨rfl, rfl⟩, Nat.sub_self]; rfl
    · rw [← y2, hI_sI, if_pos ⟨rfl, rfl⟩, Nat.sub_self]; rfl
  obtain ⟨g, a1, a2, a3⟩ := l_189r (q := q) (lt := lt) (sz - q) q m h2 (by omega) (Nat.le_refl _) F2 (hX.cz (z2.wid (by intro z hz; simp only [List.mem_cons, List.not_mem_nil, or_false] at hz ⊢; omega))) R2
  have F3 := a2.fix F2 (by decide)
  have g0 : gdB lt T q (q - q) = true := by
    rw [Nat.sub_self]
    unfold gdB
    cases lt <;> rfl
  rw [g0] at a1
  have pre : b_189_198 (some 64) (nI (T q)) h = b_189_350 (some 64) (bI lt) (bI (gdB lt T q (rne T (sz - q) q - q))) g := by
    rw [b_189_198, s_188 (by omega), Option.bind_some, hlt, bnd_e, bnd_e, pJ64 hF, Option.bind_some, y1, pI64 F1, Option.bind_some, y2, hm]
    exact a1
  generalize rne T (sz - q) q = e at *
  obtain ⟨r1, r0, r2, r3⟩ := a3
  have K : rnK T q (e - q) = if nD T q (e - q) = 0 ∧ e - q ≤ 10 then 2 else if nL T q (e - q) = 0 ∧ e - q ≤ 2 then 3 else 1 := rfl
  have fin : ∀ k, k = rnK T q (e - q) → ∃ g', b_189_390 (some 64) (nI k) g = some g' ∧ Fz [6000064, 8000064, 9000064, 13000064] h g' ∧ hI g' 64 5 = nI e ∧ hI g' 64 6 = nI q ∧ hI g' 64 7 = nI (rnK T q (e - q)) ∧ (rnK T q (e - q) = 2 → hJ g' 64 12 = lN (vB 27 T q (e - q))) ∧ (rnK T q (e - q) = 3 → hI g' 64 8 = nI (vN T q (e - q))) := by
    intro k hk
    refine ⟨sI g 64 7 (nI k), by rw [b_189_390, pI64 F3, Option.bind_some], (z2.wid (by intro z hz; simp only [List.mem_cons, List.not_mem_nil, or_false] at hz ⊢; omega)).then ((a2.wid (by intro z hz; simp only [List.mem_cons, List.not_mem_nil, or_false] at hz ⊢; omega)).then (Fz.sI Fz.rfl' (Or.inr (by simp)))), by rw [hI_sI, if_neg (by omega)]; exact r1, by rw [hI_sI, if_neg (by omega)]; exact r0, by rw [hI_sI, if_pos ⟨rfl, rfl⟩, hk], fun z => ?_, fun z => ?_⟩
    · rw [hJ_sI]
      rw [K] at z
      by_cases c : nD T q (e - q) = 0 ∧ e - q ≤ 10
      · refine r2 ?_ c.1 c.2
        cases hl : lt
        · rw [hl] at ha
          have := pD ha
          omega
        · rfl
      · rw [if_neg c] at z
        split at z <;> omega
    · rw [hI_sI, if_neg (by omega)]
      rw [K] at z
      by_cases c : nD T q (e - q) = 0 ∧ e - q ≤ 10
      · rw [if_pos c] at z; omega
      · rw [if_neg c] at z
        by_cases c2 : nL T q (e - q) = 0 ∧ e - q ≤ 2
        · refine r3 ?_ c2.1 c2.2
          cases hl : lt
          · rfl
          · have := pL hl; omega
        · rw [if_neg c2] at z; omega
  rw [pre, b_189_350]
  cases hg : gdB lt T q (e - q)
  · rw [if_pos (show bI false = 0 from rfl), b_189_377]
    refine fin 1 ?_
    unfold gdB at hg
    rw [K]
    cases hl : lt
    · rw [hl] at hg ha
      rw [if_neg (by decide), decide_eq_false_iff_not] at hg
      have := pD ha
      rw [if_neg (by omega), if_neg (by omega)]
    · rw [hl] at hg
      rw [if_pos rfl, decide_eq_false_iff_not] at hg
      have := pL hl
      rw [if_neg (by omega), if_neg (by omega)]
  · rw [if_neg (show ¬ bI true = 0 by decide), b_189_355, gI64 F3, Option.bind_some, gI64 F3, Option.bind_some, r1, r0, pk_sub (by omega)]
    unfold gdB at hg
    cases hl : lt
    · rw [hl] at hg ha
      rw [if_neg (by decide), decide_eq_true_eq] at hg
      have := pD ha
      rw [if_pos (show bI false = 0 from rfl), b_189_373, b_189_374]
      by_cases c : e - q ≤ 2
      · rw [if_pos ((nI_leI (by omega) (by omega)).2 c), b_189_381, if_pos (show bI false = 0 from rfl), b_189_389]
        exact fin 3 (by rw [K, if_neg (by omega), if_pos ⟨hg, c⟩])
      · rw [if_neg (fun z => c ((nI_leI (by omega) (by omega)).1 z)), b_189_377]
        exact fin 1 (by rw [K, if_neg (by omega), if_neg (by omega)])
    · rw [hl] at hg
      rw [if_pos rfl, decide_eq_true_eq] at hg
      have := pL hl
      rw [if_neg (show ¬ bI true = 0 by decide), b_189_368, b_189_374]
      by_cases c : e - q ≤ 10
      · rw [if_pos ((nI_leI (by omega) (by omega)).2 c), b_189_381, if_neg (show ¬ bI true = 0 by decide), b_189_385]
        exact fin 2 (by rw [K, if_pos ⟨hg, c⟩])
      · rw [if_neg (fun z => c ((nI_leI (by omega) (by omega)).1 z)), b_189_377]
        exact fin 1 (by rw [K, if_neg (by omega), if_neg (by omega)])
theorem rnK_3 (T : Nat → Nat) (q n : Nat) : rnK T q n ≤ 3 := by
  unfold rnK
  split
  · omega
  · split <;> omega
theorem s_189 {h : Hp} {p : Nat} (hp : p ≤ sz) (hF : Fix h) (hX : MX h T sz lim) (h5 : hI h 64 5 = nI p) : ∃ g, f_189 (some 64) h = some g ∧ Fz [6000064, 7000064, 8000064, 9000064, 10000064, 13000064] h g ∧ TM g T sz lim p := by
  obtain ⟨x1, x2, x3, x4, x5⟩ := id hX
  obtain ⟨m, hm⟩ := FU_ge (sz - p + 1) (by omega)
  obtain ⟨h1, a1, a2, a3⟩ := l_189s (sz - p) p m h (by omega) hF hX h5
  have F1 := a2.fix hF (by decide)
  have X1 := hX.cz (a2.wid (by intro z hz; simp only [List.mem_cons, List.not_mem_nil, or_false] at hz ⊢; omega))
  have ql := tkQ_le (T := T) hp
  have a3 : hI h1 64 5 = nI (tkQ T sz p) := a3
  have pre : f_189 (some 64) h = b_189_52 (some 64) h1 := by
    show l_189_0 FU (some 64) h = _
    rw [hm, a1]
  have kk : tkK T sz lim p = if lim < sz ∧ lim ≤ tkQ T sz p then 1 else if sz ≤ tkQ T sz p then 0 else if (isLt (T (tkQ T sz p)) || isDg (T (tkQ T sz p))) = true then rnK T (tkQ T sz p) (tkE T sz p - tkQ T sz p) else if isSg (T (tkQ T sz p)) = true then T (tkQ T sz p) else 1 := rfl
  have ka : tkA T sz lim p = if lim < sz ∧ lim ≤ tkQ T sz p then lim else tkQ T sz p := rfl
  have kn : tkN T sz lim p = if lim < sz ∧ lim ≤ tkQ T sz p then tkQ T sz p else if sz ≤ tkQ T sz p then tkQ T sz p else if (isLt (T (tkQ T sz p)) || isDg (T (tkQ T sz p))) = true then tkE T sz p else tkQ T sz p + 1 := rfl
  have ee : tkE T sz p = rne T (sz - tkQ T sz p) (tkQ T sz p) := rfl
  unfold TM
  rw [pre]
  generalize tkQ T sz p = q at *
  generalize tkK T sz lim p = K at *
  generalize tkA T sz lim p = A at *
  generalize tkN T sz lim p = N at *
  generalize tkE T sz p = e at *
  generalize s1 : sI h1 64 6 (nI q) = h2
  have F2 : Fix h2 := by rw [← s1]; exact fx_sI F1 (by omega)
  have z2 : Fz [7000064] h1 h2 := by rw [← s1]; exact Fz.sI Fz.rfl' (Or.inr (by simp))
  have X2 := X1.cz (z2.wid (by intro z hz; simp only [List.mem_cons, List.not_mem_nil, or_false] at hz ⊢; omega))
  obtain ⟨y1, y2, _, _, y5⟩ := id X2
  have v5 : hI h2 64 5 = nI q := by rw [← s1, hI_sI, if_neg (by omega)]; exact a3
  have v6 : hI h2 64 6 = nI q := by rw [← s1, hI_sI, if_pos ⟨rfl, rfl⟩]
  have zz : Fz [6000064, 7000064, 8000064, 9000064, 10000064, 13000064] h h2 := (a2.wid (by intro z hz; simp only [List.mem_cons, List.not_mem_nil, or_false] at hz ⊢; omega)).then (z2.wid (by intro z hz; simp only [List.mem_cons, List.not_mem_nil, or_false] at hz ⊢; omega))
  have e52 : b_189_52 (some 64) h1 = if lim < sz ∧ lim ≤ q then b_189_82 (some 64) h2 else b_189_96 (some 64) h2 := by
    rw [b_189_52, gI64 F1, Option.bind_some, a3, pI64 F1, Option.bind_some, s1, gI64 F2, Option.bind_some, gI64 F2, Option.bind_some, y1, y2]
    by_cases c : sz ≤ lim
    · rw [if_pos ((nI_leI (by omega) (by omega)).2 c), if_neg (by omega)]
    · rw [if_neg (fun z => c ((nI_leI (by omega) (by omega)).1 z)), b_189_71, gI64 F2, Option.bind_some, gI64 F2, Option.bind_some, v6, y2]
      by_cases c2 : q < lim
      · rw [if_pos ((nI_ltI (by omega) (by omega)).2 c2), if_neg (by omega)]
      · rw [if_neg (fun z => c2 ((nI_ltI (by omega) (by omega)).1 z)), if_pos (by omega)]
  rw [e52]
  by_cases c : lim < sz ∧ lim ≤ q
  · rw [if_pos c] at kk ka kn ⊢
    have F3 : Fix (sI h2 64 6 (nI lim)) := fx_sI F2 (by omega)
    refine ⟨sI (sI h2 64 6 (nI lim)) 64 7 (nI 1), ?_, zz.then (Fz.sI (Fz.sI Fz.rfl' (Or.inr (by simp))) (Or.inr (by simp))), by rw [hI_sI, if_pos ⟨rfl, rfl⟩, kk]; rfl, by rw [hI_sI, if_neg (by omega), hI_sI, if_pos ⟨rfl, rfl⟩, ka], by rw [hI_sI, if_neg (by omega), hI_sI, if_neg (by omega), v5, kn], fun z => by omega, fun z => by omega, fun z => by omega⟩
    rw [b_189_82, gI64 F2, Option.bind_some, y2, pI64 F2, Option.bind_some, pI64 F3, Option.bind_some]
  · rw [if_neg c] at kk ka kn ⊢
    rw [b_189_96, gI64 F2, Option.bind_some, gI64 F2, Option.bind_some, v5, y1]
    by_cases c2 : sz ≤ q
    · rw [if_pos c2] at kk kn
      rw [if_neg (fun z => by have := (nI_ltI (by omega) (by omega)).1 z; omega), b_189_107]
      refine ⟨sI h2 64 7 (nI 0), by rw [pI64 F2, Option.bind_some], zz.then (Fz.sI Fz.rfl' (Or.inr (by simp))), by rw [hI_sI, if_pos ⟨rfl, rfl⟩, kk]; rfl, by rw [hI_sI, if_neg (by omega), v6, ka], by rw [hI_sI, if_neg (by omega), v5, kn], fun z => by omega, fun z => by omega, fun z => by omega⟩
    · rw [if_neg c2] at kk kn
      obtain ⟨tb, tl⟩ := y5 q (by omega)
      have rd : aI 12 (some 65) (nI q) h2 = some (nI (T q)) := by rw [aI_n (K65 F2) (L65 F2) (show q < 940 by omega) (by omega), tb]
      have run : (isLt (T q) || isDg (T q)) = true → ∃ g, b_189_198 (some 64) (nI (T q)) h2 = some g ∧ Fz [6000064, 7000064, 8000064, 9000064, 10000064, 13000064] h g ∧ hI g 64 7 = nI (kmd K) ∧ hI g 64 6 = nI A ∧ hI g 64 5 = nI N ∧ (3 < K → hI g 64 9 = nI K) ∧ (K = 2 → hJ g 64 12 = lN (vB 27 T A (N - A))) ∧ (K = 3 → hI g 64 8 = nI (vN T A (N - A))) := by
        intro ha
        obtain ⟨g, b1, b2, b3, b4, b5, b6, b7⟩ := s_189r (q := q) (by omega) F2 X2 v5 v6 ha
        rw [← ee] at b3 b5 b6 b7
        rw [if_pos ha] at kk kn
        have k3 := rnK_3 T q (e - q)
        refine ⟨g, b1, zz.then (b2.wid (by intro z hz; simp only [List.mem_cons, List.not_mem_nil, or_false] at hz ⊢; omega)), ?_, by rw [b4, ka], by rw [b3, kn], fun z => by omega, fun z => ?_, fun z => ?_⟩
        · rw [b5, ← kk]
          unfold kmd
          rw [if_pos (by omega)]
        · rw [kn, ka]; exact b6 (by rw [← kk]; exact z)
        · rw [kn, ka]; exact b7 (by rw [← kk]; exact z)
      rw [if_pos ((nI_ltI (by omega) (by omega)).2 (by omega)), b_189_113, gQ64_1 F2, Option.bind_some, gI64 F2, Option.bind_some, v5, rd, Option.bind_some, s_188 (by omega), Option.bind_some]
      dsimp only
      cases hl : isLt (T q)
      · rw [if_neg (show ¬ ¬ bI false = 0 from fun z => z rfl), b_189_130, s_187 (by omega), Option.bind_some]
        dsimp only
        cases hd : isDg (T q)
        · rw [if_neg (show ¬ ¬ bI false = 0 from fun z => z rfl), b_189_137]
          rw [hl, hd, if_neg (by decide)] at kk kn
          have fin : ∀ k, k = kmd K → (3 < K → T q = K) → ∃ g, b_189_179 (some 64) (nI (T q)) (some 64) (nI k) h2 = some g ∧ Fz [6000064, 7000064, 8000064, 9000064, 10000064, 13000064] h g ∧ hI g 64 7 = nI (kmd K) ∧ hI g 64 6 = nI A ∧ hI g 64 5 = nI N ∧ (3 < K → hI g 64 9 = nI K) ∧ (K = 2 → hJ g 64 12 = lN (vB 27 T A (N - A))) ∧ (K = 3 → hI g 64 8 = nI (vN T A (N - A))) := by
            intro k hk hs
            have F3 : Fix (sI h2 64 7 (nI k)) := fx_sI F2 (by omega)
            have F4 : Fix (sI (sI h2 64 7 (nI k)) 64 9 (nI (T q))) := fx_sI F3 (by omega)
            have w5 : hI (sI (sI h2 64 7 (nI k)) 64 9 (nI (T q))) 64 5 = nI q := by rw [hI_sI, if_neg (by omega), hI_sI, if_neg (by omega)]; exact v5
            have K2 : K = 1 ∨ 3 < K := by
              by_cases sg : isSg (T q) = true
              · rw [if_pos sg] at kk
                have := of_decide_eq_true sg
                omega
              · rw [if_neg sg] at kk; omega
            refine ⟨sI (sI (sI h2 64 7 (nI k)) 64 9 (nI (T q))) 64 5 (nI (q + 1)), ?_, zz.then (Fz.sI (Fz.sI (Fz.sI Fz.rfl' (Or.inr (by simp))) (Or.inr (by simp))) (Or.inr (by simp))), ?_, ?_, by rw [hI_sI, if_pos ⟨rfl, rfl⟩, kn], fun z => ?_, fun z => by omega, fun z => by omega⟩
            · rw [b_189_179, pI64 F2, Option.bind_some, pI64 F3, Option.bind_some, gI64 F4, Option.bind_some, w5, nI_add, pI64 F4, Option.bind_some]
            · rw [hI_sI, if_neg (by omega), hI_sI, if_neg (by omega), hI_sI, if_pos ⟨rfl, rfl⟩, hk]
            · rw [hI_sI, if_neg (by omega), hI_sI, if_neg (by omega), hI_sI, if_neg (by omega), v6, ka]
            · rw [hI_sI, if_neg (by omega), hI_sI, if_pos ⟨rfl, rfl⟩, hs z]
          have yes : isSg (T q) = true → ∃ g, b_189_174 (some 64) (nI (T q)) (some 64) h2 = some g ∧ Fz [6000064, 7000064, 8000064, 9000064, 10000064, 13000064] h g ∧ hI g 64 7 = nI (kmd K) ∧ hI g 64 6 = nI A ∧ hI g 64 5 = nI N ∧ (3 < K → hI g 64 9 = nI K) ∧ (K = 2 → hJ g 64 12 = lN (vB 27 T A (N - A))) ∧ (K = 3 → hI g 64 8 = nI (vN T A (N - A))) := by
            intro sg
            have sg' := of_decide_eq_true sg
            rw [if_pos sg] at kk
            rw [b_189_174]
            refine fin 4 ?_ (fun _ => kk.symm)
            unfold kmd
            rw [kk, if_neg (by omega)]
          have ne : ∀ k, k < 256 → (nI (T q) = nI k ↔ T q = k) := fun k hk => nI_eq (by omega) (by omega)
          by_cases d1 : T q = 59
          · rw [if_pos ((ne 59 (by omega)).2 d1)]; exact yes (decide_eq_true (by omega))
          · rw [if_neg (fun z => d1 ((ne 59 (by omega)).1 z)), b_189_144]
            by_cases d2 : T q = 60
            · rw [if_pos ((ne 60 (by omega)).2 d2)]; exact yes (decide_eq_true (by omega))
            · rw [if_neg (fun z => d2 ((ne 60 (by omega)).1 z)), b_189_150]
              by_cases d3 : T q = 61
              · rw [if_pos ((ne 61 (by omega)).2 d3)]; exact yes (decide_eq_true (by omega))
              · rw [if_neg (fun z => d3 ((ne 61 (by omega)).1 z)), b_189_156]
                by_cases d4 : T q = 62
                · rw [if_pos ((ne 62 (by omega)).2 d4)]; exact yes (decide_eq_true (by omega))
                · rw [if_neg (fun z => d4 ((ne 62 (by omega)).1 z)), b_189_162]
                  by_cases d5 : T q = 40
                  · rw [if_pos ((ne 40 (by omega)).2 d5)]; exact yes (decide_eq_true (by omega))
                  · rw [if_neg (fun z => d5 ((ne 40 (by omega)).1 z)), b_189_168]
                    by_cases d6 : T q = 41
                    · rw [if_neg (fun z => z ((ne 41 (by omega)).2 d6))]; exact yes (decide_eq_true (by omega))
                    · rw [if_pos (fun z => d6 ((ne 41 (by omega)).1 z)), b_189_178]
                      rw [if_neg (by unfold isSg; rw [decide_eq_true_eq]; omega)] at kk
                      refine fin 1 (by rw [kk]; rfl) (fun z => by omega)
        · rw [if_pos (show ¬ bI true = 0 by decide)]
          exact run (by rw [hl, hd]; rfl)
      · rw [if_pos (show ¬ bI true = 0 by decide)]
        exact run (by rw [hl]; rfl)
end TOKN
