/-! the class steps on -/
theorem rne_al (T : Nat → Nat) : ∀ r p i, p ≤ i → i < rne T r p → (isLt (T i) || isDg (T i)) = true := by
  intro r
  induction r with
  | zero => intro p i h1 h2; have : rne T 0 p = p := rfl; omega
  | succ r ih =>
    intro p i h1 h2
    have es : rne T (r + 1) p = if (isLt (T p) || isDg (T p)) = true then rne T r (p + 1) else p := rfl
    rw [es] at h2
    by_cases c : (isLt (T p) || isDg (T p)) = true
    · rw [if_pos c] at h2
      by_cases e : i = p
      · rw [e]; exact c
      · exact ih (p + 1) i (by omega) h2
    · rw [if_neg c] at h2; omega
theorem nLD {T : Nat → Nat} {a : Nat} : ∀ n, (∀ i, i < n → (isLt (T (a + i)) || isDg (T (a + i))) = true) → nL T a n + nD T a n = n
  | 0, _ => rfl
  | n + 1, h => by
    have ih := nLD (T := T) (a := a) n (fun i hi => h i (by omega))
    have hn := h n (by omega)
    rw [nLs, nDs]
    unfold isLt isDg at hn ⊢
    rw [Bool.or_eq_true, decide_eq_true_eq, decide_eq_true_eq] at hn
    rcases hn with z | z
    · rw [if_pos (decide_eq_true z), if_neg (by rw [decide_eq_true_eq]; omega)]; omega
    · rw [if_neg (by rw [decide_eq_true_eq]; omega), if_pos (decide_eq_true z)]; omega
section TOKD
variable {T : Nat → Nat} {sz lim : Nat}
theorem s_118 {h : Hp} {q : Nat} (hq : q ≤ sz) (hF : Fix h) (hX : TX h T sz lim) (h9 : hI h 31 9 = nI q) :
    ∃ g, f_118 (some 31) h = some g ∧ Fz [3000031, 5000031, 6000031, 10000031] h g ∧ hI g 31 9 = nI (rne T (sz - q) q) ∧ hI g 31 2 = nI (kcl (rnK T q (rne T (sz - q) q - q))) ∧ (rnK T q (rne T (sz - q) q - q) = 2 → hJ g 31 5 = lN (vB 32 T q (rne T (sz - q) q - q))) ∧ (rnK T q (rne T (sz - q) q - q) = 3 → hI g 31 4 = nI (vN T q (rne T (sz - q) q - q))) := by
  have x3 := hX.2.2.1
  have rl := rne_le T (sz - q) q
  have al := nLD (T := T) (a := q) (rne T (sz - q) q - q) (fun i hi => rne_al T (sz - q) q (q + i) (by omega) (by omega))
  obtain ⟨m, hm⟩ := FU_ge (sz - q + 1) (by omega)
  generalize x1 : sI h 31 4 (nI 0) = h1
  generalize x2 : sJ h1 31 5 (lN 0) = h2
  have F1 : Fix h1 := by rw [← x1]; exact fx_sI hF (by omega)
  have F2 : Fix h2 := by rw [← x2]; exact fx_sJ F1 (by omega)
  have z2 : Fz [5000031, 6000031] h h2 := by
    rw [← x2, ← x1]
    exact Fz.sJ (Fz.sI Fz.rfl' (Or.inr (by simp))) (Or.inr (by simp))
  have R2 : RS h2 T q q := by
    refine ⟨by rw [z2.I1 (by decide) (by decide)]; exact h9, fun _ => ?_, fun _ => ?_⟩
    · rw [← x2, hJ_sJ, if_pos ⟨rfl, rfl⟩, Nat.sub_self]; rfl
    · rw [← x2, hI_sJ, ← x1, hI_sI, if_pos ⟨rfl, rfl⟩, Nat.sub_self]; rfl
  obtain ⟨g, a1, a2, a3⟩ := l_118 (q := q) (sz - q) q m h2 (by omega) (Nat.le_refl _) F2 (hX.cz (z2.wid (by intro z hz; simp only [List.mem_cons, List.not_mem_nil, or_false] at hz ⊢; omega))) R2
  have F3 := a2.fix F2 (by decide)
  rw [Nat.sub_self] at a1
  have a1 : l_118_14 (sz - q + 1 + m) (some 31) (nI 0) (nI 0) h2 = b_118_115 (some 31) (nI (nL T q (rne T (sz - q) q - q))) (nI (nD T q (rne T (sz - q) q - q))) g := a1
  have pre : f_118 (some 31) h = b_118_115 (some 31) (nI (nL T q (rne T (sz - q) q - q))) (nI (nD T q (rne T (sz - q) q - q))) g := by
    rw [f_118, b_118_0, bnd_e, bnd_e, pI31 hF, Option.bind_some, x1, pJ31 F1, Option.bind_some, x2, hm, a1]
  generalize he : rne T (sz - q) q = e at *
  generalize hl : nL T q (e - q) = l at *
  generalize hd : nD T q (e - q) = d at *
  obtain ⟨r1, r2, r3⟩ := a3
  have fin : ∀ k, k = kcl (rnK T q (e - q)) → ∃ g', (pI 9 2 (some 31) (nI k) g).bind (fun h1 => b_118_151 h1) = some g' ∧ Fz [3000031, 5000031, 6000031, 10000031] h g' ∧ hI g' 31 9 = nI e ∧ hI g' 31 2 = nI (kcl (rnK T q (e - q))) ∧ (rnK T q (e - q) = 2 → hJ g' 31 5 = lN (vB 32 T q (e - q))) ∧ (rnK T q (e - q) = 3 → hI g' 31 4 = nI (vN T q (e - q))) := by
    intro k hk
    refine ⟨sI g 31 2 (nI k), ?_, (z2.wid (by intro z hz; simp only [List.mem_cons, List.not_mem_nil, or_false] at hz ⊢; omega)).then ((a2.wid (by intro z hz; simp only [List.mem_cons, List.not_mem_nil, or_false] at hz ⊢; omega)).then (Fz.sI Fz.rfl' (Or.inr (by simp)))), by rw [hI_sI, if_neg (by omega)]; exact r1, by rw [hI_sI, if_pos ⟨rfl, rfl⟩, hk], fun z => ?_, fun z => ?_⟩
    · rw [pI31 F3, Option.bind_some, b_118_151]
    · rw [hJ_sI]
      apply r2
      unfold rnK at z
      rw [hd]
      by_cases c : nD T q (e - q) = 0 ∧ e - q ≤ 10
      · rw [← hd]; exact c.1
      · rw [if_neg c] at z
        split at z <;> omega
    · rw [hI_sI, if_neg (by omega)]
      apply r3
      unfold rnK at z
      rw [hl]
      by_cases c : nD T q (e - q) = 0 ∧ e - q ≤ 10
      · rw [if_pos c] at z; omega
      · rw [if_neg c] at z
        by_cases c2 : nL T q (e - q) = 0 ∧ e - q ≤ 2
        · rw [← hl]; exact c2.1
        · rw [if_neg c2] at z; omega
  rw [pre, b_118_115]
  have K : rnK T q (e - q) = if d = 0 ∧ e - q ≤ 10 then 2 else if l = 0 ∧ e - q ≤ 2 then 3 else 1 := by unfold rnK; rw [hl, hd]
  have t33 : ∀ (hb : ¬ (d = 0 ∧ e - q ≤ 10)), ∃ g', b_118_133 (some 31) (nI l) (nI d) g = some g' ∧ Fz [3000031, 5000031, 6000031, 10000031] h g' ∧ hI g' 31 9 = nI e ∧ hI g' 31 2 = nI (kcl (rnK T q (e - q))) ∧ (rnK T q (e - q) = 2 → hJ g' 31 5 = lN (vB 32 T q (e - q))) ∧ (rnK T q (e - q) = 3 → hI g' 31 4 = nI (vN T q (e - q))) := by
    intro hb
    rw [if_neg hb] at K
    rw [b_118_133]
    by_cases c : l = 0
    · rw [if_neg (fun z => z (by rw [c]; rfl)), b_118_138]
      by_cases c2 : 2 < d
      · rw [if_pos ((nI_ltI (by omega) (by omega)).2 c2), b_118_147, b_118_148]
        exact fin 3 (by rw [K, if_neg (by omega)]; rfl)
      · rw [if_neg (fun z => c2 ((nI_ltI (by omega) (by omega)).1 z)), b_118_143, b_118_148]
        exact fin 2 (by rw [K, if_pos (by omega)]; rfl)
    · rw [if_pos (fun z => c (by rw [← nI_0, nI_eq (by omega) (by omega)] at z; exact z)), b_118_147, b_118_148]
      exact fin 3 (by rw [K, if_neg (fun z => c z.1)]; rfl)
  by_cases c : d = 0
  · rw [if_neg (fun z => z (by rw [c]; rfl)), b_118_119]
    by_cases c2 : 10 < l
    · rw [if_pos ((nI_ltI (by omega) (by omega)).2 c2)]
      exact t33 (by omega)
    · rw [if_neg (fun z => c2 ((nI_ltI (by omega) (by omega)).1 z)), b_118_125]
      exact fin 1 (by rw [K, if_pos (by omega)]; rfl)
  · rw [if_pos (fun z => c (by rw [← nI_0, nI_eq (by omega) (by omega)] at z; exact z))]
    exact t33 (fun z => c z.1)
theorem l_117 : ∀ r p m h, p + r = sz → Fix h → TX h T sz lim → hI h 31 9 = nI p → ∃ g, l_117_0 (r + 1 + m) (some 31) h = b_117_52 (some 31) g ∧ Fz [10000031] h g ∧ hI g 31 9 = nI (skp T r p) := by
  intro r
  induction r with
  | zero =>
    intro p m h hp hF hX h9
    obtain rfl : p = sz := by omega
    refine ⟨h, ?_, Fz.rfl', h9⟩
    have x3 := hX.2.2.1
    rw [show 0 + 1 + m = m + 1 by omega, l_117_0, b_117_0]
    simp (disch := first | assumption | (repeat' (first | apply fx_sI | apply fx_sJ | assumption | omega))) only [bnd_e, grd_e, grd0, grd1, Option.bind_some, Option.isSome_some, gQ30_0, gQ30_1, gQ30_2, gQ30_3, gQ30_4, gQ30_5, gQ30_6, gQ30_7, gQ30_8, gQ30_9, gQ31_0, gQ33_0, gQ33_1, gQ36_0, gQ36_1, gQ39_0, gQ39_3, gQ39_4, gQ39_6, gQ39_8, gQ39_10, gQ39_11, gQ39_12, gQ48_0, gQ48_1, gQ51_2, gQ53_0, gQ53_1, gQ60_0, gQ60_1, gQ60_2, gQ64_1, gQ64_14, gQ64_15, gQ64_16, gQ64_17, gQ64_18, gQ64_19, gQ64_20, gQ64_21, gQ64_24, gQ64_25, gQ64_27, gQ64_28, gQ64_29, gQ64_30, gQ64_31, gQ64_34, gQ64_35, gQ64_36, gQ64_39, gQ64_40, gQ64_41, gQ64_43, gQ64_44, gQ64_48, gQ64_50, gQ64_51, gQ64_52, gQ64_53, gQ64_54, gQ64_58, gQ64_59, gI30, gJ30, pI30, pJ30, rC30, gI31, gJ31, pI31, pJ31, rC31, gI33, gJ33, pI33, pJ33, rC33, gI36, gJ36, pI36, pJ36, rC36, gI39, gJ39, pI39, pJ39, rC39, gI48, gJ48, pI48, pJ48, rC48, gI51, gJ51, pI51, pJ51, rC51, gI53, gJ53, pI53, pJ53, rC53, gI60, gJ60, pI60, pJ60, rC60, gI64, gJ64, pI64, pJ64, rC64, hF, h9, hX.1, nI_leI, Nat.le_refl, if_true]
  | succ r ih =>
    intro p m h hp hF hX h9
    obtain ⟨x1, x2, x3, x4, x5⟩ := id hX
    obtain ⟨tb, tl⟩ := x5 p (by omega)
    have es : skp T (r + 1) p = if isBl (T p) = true then skp T r (p + 1) else p := rfl
    have rd : aI 12 (some 32) (nI p) h = some (nI (T p)) := by rw [aI_n (K32 hF) (L32 hF) (show p < 940 by omega) (by omega), tb]
    have go : isBl (T p) = true → ∃ g, b_117_39 (l_117_0 (r + 1 + m)) (some 31) h = b_117_52 (some 31) g ∧ Fz [10000031] h g ∧ hI g 31 9 = nI (skp T (r + 1) p) := by
      intro hb
      have z1 : Fz [10000031] h (sI h 31 9 (nI (p + 1))) := Fz.sI Fz.rfl' (Or.inr (by simp))
      obtain ⟨g, a1, a2, a3⟩ := ih (p + 1) m (sI h 31 9 (nI (p + 1))) (by omega) (fx_sI hF (by omega)) (hX.cz (z1.wid (by intro z hz; simp only [List.mem_cons, List.not_mem_nil, or_false] at hz ⊢; omega))) (by rw [hI_sI, if_pos ⟨rfl, rfl⟩])
      refine ⟨g, ?_, z1.then a2, by rw [es, if_pos hb]; exact a3⟩
      rw [b_117_39, gI31 hF, Option.bind_some, h9, nI_add, pI31 hF, Option.bind_some]
      exact a1
    rw [show r + 1 + 1 + m = (r + 1 + m) + 1 by omega, l_117_0, b_117_0]
    simp (disch := first | assumption | (repeat' (first | apply fx_sI | apply fx_sJ | assumption | omega))) only [bnd_e, grd_e, grd0, grd1, Option.bind_some, Option.isSome_some, gQ30_0, gQ30_1, gQ30_2, gQ30_3, gQ30_4, gQ30_5, gQ30_6, gQ30_7, gQ30_8, gQ30_9, gQ31_0, gQ33_0, gQ33_1, gQ36_0, gQ36_1, gQ39_0, gQ39_3, gQ39_4, gQ39_6, gQ39_8, gQ39_10, gQ39_11, gQ39_12, gQ48_0, gQ48_1, gQ51_2, gQ53_0, gQ53_1, gQ60_0, gQ60_1, gQ60_2, gQ64_1, gQ64_14, gQ64_15, gQ64_16, gQ64_17, gQ64_18, gQ64_19, gQ64_20, gQ64_21, gQ64_24, gQ64_25, gQ64_27, gQ64_28, gQ64_29, gQ64_30, gQ64_31, gQ64_34, gQ64_35, gQ64_36, gQ64_39, gQ64_40, gQ64_41, gQ64_43, gQ64_44, gQ64_48, gQ64_50, gQ64_51, gQ64_52, gQ64_53, gQ64_54, gQ64_58, gQ64_59, gI30, gJ30, pI30, pJ30, rC30, gI31, gJ31, pI31, pJ31, rC31, gI33, gJ33, pI33, pJ33, rC33, gI36, gJ36, pI36, pJ36, rC36, gI39, gJ39, pI39, pJ39, rC39, gI48, gJ48, pI48, pJ48, rC48, gI51, gJ51, pI51, pJ51, rC51, gI53, gJ53, pI53, pJ53, rC53, gI60, gJ60, pI60, pJ60, rC60, gI64, gJ64, pI64, pJ64, rC64, hF, h9, x1, nI_leI, show ¬ sz ≤ p by omega, if_false]
    rw [b_117_11, gQ31_0 hF, Option.bind_some, gI31 hF, Option.bind_some, h9, rd, Option.bind_some]
    by_cases c : T p = 32
    · rw [if_pos (by rw [c])]
      exact go (decide_eq_true (Or.inl c))
    · rw [if_neg (fun z => c ((nI_eq (by omega) (by omega)).1 z)), b_117_25, gQ31_0 hF, Option.bind_some, gI31 hF, Option.bind_some, h9, rd, Option.bind_some]
      by_cases c2 : T p = 10
      · rw [if_neg (fun z => z (by rw [c2]))]
        exact go (decide_eq_true (Or.inr c2))
      · rw [if_pos (fun z => c2 ((nI_eq (by omega) (by omega)).1 z)), es, if_neg (by unfold isBl; rw [decide_eq_true_eq]; omega)]
        exact ⟨h, rfl, Fz.rfl', h9⟩
/-- the class's token, read from p on -/
def TS (h : Hp) (T : Nat → Nat) (sz lim p : Nat) : Prop := hI h 31 2 = nI (kcl (tkK T sz lim p)) ∧ hI h 31 3 = nI (tkA T sz lim p) ∧ hI h 31 9 = nI (tkN T sz lim p) ∧
  (tkK T sz lim p = 2 → hJ h 31 5 = lN (vB 32 T (tkA T sz lim p) (tkN T sz lim p - tkA T sz lim p))) ∧ (tkK T sz lim p = 3 → hI h 31 4 = nI (vN T (tkA T sz lim p) (tkN T sz lim p - tkA T sz lim p)))
theorem s_117 {h : Hp} {p : Nat} (hp : p ≤ sz) (hF : Fix h) (hX : TX h T sz lim) (h9 : hI h 31 9 = nI p) : ∃ g, f_117 (some 31) h = some g ∧ Fz [3000031, 4000031, 5000031, 6000031, 10000031] h g ∧ TS g T sz lim p := by
  obtain ⟨x1, x2, x3, x4, x5⟩ := id hX
  obtain ⟨m, hm⟩ := FU_ge (sz - p + 1) (by omega)
  obtain ⟨h1, a1, a2, a3⟩ := l_117 (sz - p) p m h (by omega) hF hX h9
  have F1 := a2.fix hF (by decide)
  have X1 := hX.cz (a2.wid (by intro z hz; simp only [List.mem_cons, List.not_mem_nil, or_false] at hz ⊢; omega))
  have ql := tkQ_le (T := T) hp
  have a3 : hI h1 31 9 = nI (tkQ T sz p) := a3
  have pre : f_117 (some 31) h = b_117_52 (some 31) h1 := by
    show l_117_0 FU (some 31) h = _
    rw [hm, a1]
  have kk : tkK T sz lim p = if lim < sz ∧ lim ≤ tkQ T sz p then 1 else if sz ≤ tkQ T sz p then 0 else if (isLt (T (tkQ T sz p)) || isDg (T (tkQ T sz p))) = true then rnK T (tkQ T sz p) (tkE T sz p - tkQ T sz p) else if isSg (T (tkQ T sz p)) = true then T (tkQ T sz p) else 1 := rfl
  have ka : tkA T sz lim p = if lim < sz ∧ lim ≤ tkQ T sz p then lim else tkQ T sz p := rfl
  have kn : tkN T sz lim p = if lim < sz ∧ lim ≤ tkQ T sz p then tkQ T sz p else if sz ≤ tkQ T sz p then tkQ T sz p else if (isLt (T (tkQ T sz p)) || isDg (T (tkQ T sz p))) = true then tkE T sz p else tkQ T sz p + 1 := rfl
  have ee : tkE T sz p = rne T (sz - tkQ T sz p) (tkQ T sz p) := rfl
  unfold TS
  rw [pre]
  generalize tkQ T sz p = q at *
  generalize tkK T sz lim p = K at *
  generalize tkA T sz lim p = A at *
  generalize tkN T sz lim p = N at *
  generalize tkE T sz p = e at *
  obtain ⟨y1, y2, _, _, y5⟩ := id X1
  have e52 : b_117_52 (some 31) h1 = if sz ≤ q ∨ lim ≤ q then b_117_74 (some 31) h1 else b_117_110 (some 31) h1 := by
    rw [b_117_52, gI31 F1, Option.bind_some, gI31 F1, Option.bind_some, a3, y1]
    by_cases c : sz ≤ q
    · rw [if_pos ((nI_leI (by omega) (by omega)).2 c), if_pos (Or.inl c)]
    · rw [if_neg (fun z => c ((nI_leI (by omega) (by omega)).1 z)), b_117_63, gI31 F1, Option.bind_some, gI31 F1, Option.bind_some, a3, y2]
      by_cases c2 : q < lim
      · rw [if_pos ((nI_ltI (by omega) (by omega)).2 c2), if_neg (by omega)]
      · rw [if_neg (fun z => c2 ((nI_ltI (by omega) (by omega)).1 z)), if_pos (by omega)]
  rw [e52]
  by_cases c : sz ≤ q ∨ lim ≤ q
  · rw [if_pos c]
    generalize s1 : sI h1 31 3 (nI (if lim < sz then lim else sz)) = h2
    have F2 : Fix h2 := by rw [← s1]; exact fx_sI F1 (by omega)
    have v1 : hI h2 31 1 = nI sz := by rw [← s1, hI_sI, if_neg (by omega)]; exact y1
    have v8 : hI h2 31 8 = nI lim := by rw [← s1, hI_sI, if_neg (by omega)]; exact y2
    have em : (if nI lim < nI sz then nI lim else nI sz) = nI (if lim < sz then lim else sz) := by
      by_cases cc : lim < sz
      · rw [if_pos ((nI_ltI (by omega) (by omega)).2 cc), if_pos cc]
      · rw [if_neg (fun z => cc ((nI_ltI (by omega) (by omega)).1 z)), if_neg cc]
    have fin : ∀ k, k = kcl K → ∃ g, (pI 9 2 (some 31) (nI k) h2).bind (fun h1 => some h1) = some g ∧ Fz [3000031, 4000031, 5000031, 6000031, 10000031] h g ∧ hI g 31 2 = nI (kcl K) ∧ hI g 31 3 = nI A ∧ hI g 31 9 = nI N ∧ (K = 2 → hJ g 31 5 = lN (vB 32 T A (N - A))) ∧ (K = 3 → hI g 31 4 = nI (vN T A (N - A))) := by
      intro k hk
      refine ⟨sI h2 31 2 (nI k), by rw [pI31 F2, Option.bind_some], ?_, by rw [hI_sI, if_pos ⟨rfl, rfl⟩, hk], ?_, ?_, fun z => ?_, fun z => ?_⟩
      · rw [← s1]
        exact (a2.wid (by intro z hz; simp only [List.mem_cons, List.not_mem_nil, or_false] at hz ⊢; omega)).then (Fz.sI (Fz.sI Fz.rfl' (Or.inr (by simp))) (Or.inr (by simp)))
      · rw [hI_sI, if_neg (by omega), ← s1, hI_sI, if_pos ⟨rfl, rfl⟩, ka]
        congr 1
        by_cases cc : lim < sz
        · rw [if_pos cc, if_pos ⟨cc, by omega⟩]
        · rw [if_neg cc, if_neg (fun z => cc z.1)]; omega
      · rw [hI_sI, if_neg (by omega), ← s1, hI_sI, if_neg (by omega), a3, kn]
        congr 1
        by_cases cc : lim < sz ∧ lim ≤ q
        · rw [if_pos cc]
        · rw [if_neg cc, if_pos (by omega)]
      · rw [kk] at z
        by_cases cc : lim < sz ∧ lim ≤ q
        · rw [if_pos cc] at z; omega
        · rw [if_neg cc, if_pos (by omega)] at z; omega
      · rw [kk] at z
        by_cases cc : lim < sz ∧ lim ≤ q
        · rw [if_pos cc] at z; omega
        · rw [if_neg cc, if_pos (by omega)] at z; omega
    rw [b_117_74, gI31 F1, Option.bind_some, gI31 F1, Option.bind_some, y1, y2, em, pI31 F1, Option.bind_some, s1, gI31 F2, Option.bind_some, gI31 F2, Option.bind_some, v1, v8]
    by_cases cc : sz ≤ lim
    · rw [if_pos ((nI_leI (by omega) (by omega)).2 cc), b_117_105, b_117_106]
      exact fin 0 (by rw [kk, if_neg (by omega), if_pos (by omega)]; rfl)
    · rw [if_neg (fun z => cc ((nI_leI (by omega) (by omega)).1 z)), b_117_101, b_117_106]
      exact fin 3 (by rw [kk, if_pos ⟨by omega, by omega⟩]; rfl)
  · rw [if_neg c]
    obtain ⟨tb, tl⟩ := y5 q (by omega)
    generalize s1 : sI h1 31 3 (nI q) = h2
    have F2 : Fix h2 := by rw [← s1]; exact fx_sI F1 (by omega)
    have z2 : Fz [4000031] h1 h2 := by rw [← s1]; exact Fz.sI Fz.rfl' (Or.inr (by simp))
    have X2 := X1.cz (z2.wid (by intro z hz; simp only [List.mem_cons, List.not_mem_nil, or_false] at hz ⊢; omega))
    have v9 : hI h2 31 9 = nI q := by rw [← s1, hI_sI, if_neg (by omega)]; exact a3
    obtain ⟨h3, b1, b2, b3, b4, b5, b6⟩ := s_118 (q := q) (by omega) F2 X2 v9
    rw [← ee] at b3 b4 b5 b6
    have F3 := b2.fix F2 (by decide)
    have X3 := X2.cz (b2.wid (by intro z hz; simp only [List.mem_cons, List.not_mem_nil, or_false] at hz ⊢; omega))
    have v3 : hI h3 31 3 = nI q := by rw [b2.I1 (by decide) (by decide), ← s1, hI_sI, if_pos ⟨rfl, rfl⟩]
    have el := rne_le T (sz - q) q
    rw [← ee] at el
    have z3 : Fz [3000031, 4000031, 5000031, 6000031, 10000031] h h3 := (a2.wid (by intro z hz; simp only [List.mem_cons, List.not_mem_nil, or_false] at hz ⊢; omega)).then ((z2.wid (by intro z hz; simp only [List.mem_cons, List.not_mem_nil, or_false] at hz ⊢; omega)).then (b2.wid (by intro z hz; simp only [List.mem_cons, List.not_mem_nil, or_false] at hz ⊢; omega)))
    rw [if_neg (by omega)] at ka
    rw [if_neg (by omega), if_neg (by omega)] at kk kn
    rw [b_117_110, gI31 F1, Option.bind_some, a3, pI31 F1, Option.bind_some, s1, rC31 F2, grd_e, Option.bind_some, b1, Option.bind_some, gI31 F3, Option.bind_some, gI31 F3, Option.bind_some, b3, v3]
    have eq : (isLt (T q) || isDg (T q)) = true ↔ e ≠ q := by
      have : rne T (sz - q) q = if (isLt (T q) || isDg (T q)) = true then rne T (sz - q - 1) (q + 1) else q := by
        obtain ⟨r, hr⟩ : ∃ r, sz - q = r + 1 := ⟨sz - q - 1, by omega⟩
        rw [hr]
        rfl
      rw [ee, this]
      have := rne_le T (sz - q - 1) (q + 1)
      by_cases cc : (isLt (T q) || isDg (T q)) = true
      · rw [if_pos cc]; exact ⟨fun _ => by omega, fun _ => cc⟩
      · rw [if_neg cc]; exact ⟨fun z => absurd z cc, fun z => absurd rfl z⟩
    by_cases cc : (isLt (T q) || isDg (T q)) = true
    · have ne := eq.1 cc
      rw [if_pos cc] at kk kn
      rw [if_pos (fun z => ne ((nI_eq (by omega) (by omega)).1 z)), b_117_208]
      refine ⟨h3, rfl, z3, ?_, ?_, ?_, fun z => ?_, fun z => ?_⟩
      · rw [b4, kk]
      · rw [v3, ka]
      · rw [b3, kn]
      · rw [kn, ka]; exact b5 (by rw [← kk]; exact z)
      · rw [kn, ka]; exact b6 (by rw [← kk]; exact z)
    · have eqq : e = q := Classical.byContradiction (fun z => cc (eq.2 z))
      rw [if_neg cc] at kk kn
      rw [if_neg (fun z => z (by rw [eqq])), b_117_133, gQ31_0 F3, Option.bind_some, gI31 F3, Option.bind_some, b3, eqq, aI_n (K32 F3) (L32 F3) (show q < 940 by omega) (by omega), Option.bind_some, (X3.2.2.2.2 q (by omega)).1]
      have fin : ∀ k, k = kcl K → ∃ g, b_117_195 (some 31) (some 31) (nI k) h3 = some g ∧ Fz [3000031, 4000031, 5000031, 6000031, 10000031] h g ∧ hI g 31 2 = nI (kcl K) ∧ hI g 31 3 = nI A ∧ hI g 31 9 = nI N ∧ (K = 2 → hJ g 31 5 = lN (vB 32 T A (N - A))) ∧ (K = 3 → hI g 31 4 = nI (vN T A (N - A))) := by
        intro k hk
        have F4 : Fix (sI h3 31 2 (nI k)) := fx_sI F3 (by omega)
        have w9 : hI (sI h3 31 2 (nI k)) 31 9 = nI q := by rw [hI_sI, if_neg (by omega), b3, eqq]
        refine ⟨sI (sI h3 31 2 (nI k)) 31 9 (nI (q + 1)), ?_, z3.then (Fz.sI (Fz.sI Fz.rfl' (Or.inr (by simp))) (Or.inr (by simp))), by rw [hI_sI, if_neg (by omega), hI_sI, if_pos ⟨rfl, rfl⟩, hk], by rw [hI_sI, if_neg (by omega), hI_sI, if_neg (by omega), v3, ka], by rw [hI_sI, if_pos ⟨rfl, rfl⟩, kn], fun z => ?_, fun z => ?_⟩
        · rw [b_117_195, pI31 F3, Option.bind_some, gI31 F4, Option.bind_some, w9, nI_add, pI31 F4, Option.bind_some, b_117_208]
        · rw [kk] at z
          by_cases sg : isSg (T q) = true
          · rw [if_pos sg] at z
            have := of_decide_eq_true sg
            omega
          · rw [if_neg sg] at z; omega
        · rw [kk] at z
          by_cases sg : isSg (T q) = true
          · rw [if_pos sg] at z
            have := of_decide_eq_true sg
            omega
          · rw [if_neg sg] at z; omega
      have yes : isSg (T q) = true → ∃ g, b_117_179 (some 31) (nI (T q)) h3 = some g ∧ Fz [3000031, 4000031, 5000031, 6000031, 10000031] h g ∧ hI g 31 2 = nI (kcl K) ∧ hI g 31 3 = nI A ∧ hI g 31 9 = nI N ∧ (K = 2 → hJ g 31 5 = lN (vB 32 T A (N - A))) ∧ (K = 3 → hI g 31 4 = nI (vN T A (N - A))) := by
        intro sg
        rw [b_117_179, b_117_184, if_neg nI10, b_117_190]
        refine fin (T q) ?_
        have sg' := of_decide_eq_true sg
        rw [kk, if_pos sg]
        unfold kcl
        rw [if_neg (by omega), if_neg (by omega), if_neg (by omega)]
      have ne : ∀ k, k < 256 → (nI (T q) = nI k ↔ T q = k) := fun k hk => nI_eq (by omega) (by omega)
      by_cases d1 : T q = 40
      · rw [if_pos ((ne 40 (by omega)).2 d1)]; exact yes (decide_eq_true (by omega))
      · rw [if_neg (fun z => d1 ((ne 40 (by omega)).1 z)), b_117_149]
        by_cases d2 : T q = 41
        · rw [if_pos ((ne 41 (by omega)).2 d2)]; exact yes (decide_eq_true (by omega))
        · rw [if_neg (fun z => d2 ((ne 41 (by omega)).1 z)), b_117_155]
          by_cases d3 : T q = 59
          · rw [if_pos ((ne 59 (by omega)).2 d3)]; exact yes (decide_eq_true (by omega))
          · rw [if_neg (fun z => d3 ((ne 59 (by omega)).1 z)), b_117_161]
            by_cases d4 : T q = 60
            · rw [if_pos ((ne 60 (by omega)).2 d4)]; exact yes (decide_eq_true (by omega))
            · rw [if_neg (fun z => d4 ((ne 60 (by omega)).1 z)), b_117_167]
              by_cases d5 : T q = 61
              · rw [if_pos ((ne 61 (by omega)).2 d5)]; exact yes (decide_eq_true (by omega))
              · rw [if_neg (fun z => d5 ((ne 61 (by omega)).1 z)), b_117_173]
                by_cases d6 : T q = 62
                · rw [if_neg (fun z => z ((ne 62 (by omega)).2 d6))]; exact yes (decide_eq_true (by omega))
                · rw [if_pos (fun z => d6 ((ne 62 (by omega)).1 z)), b_117_183, b_117_184, if_pos (show nI 0 = 0 from rfl), b_117_194]
                  refine fin 3 ?_
                  rw [kk, if_neg (by unfold isSg; rw [decide_eq_true_eq]; omega)]
                  rfl
end TOKD
