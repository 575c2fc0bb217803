/-! the class reads a token -/
section TOKC
variable {T : Nat → Nat} {sz lim : Nat}
/-- a run of letters and digits, on the way: from q to p -/
def RS (h : Hp) (T : Nat → Nat) (q p : Nat) : Prop := hI h 31 9 = nI p ∧ (nD T q (p - q) = 0 → hJ h 31 5 = lN (vB 32 T q (p - q))) ∧ (nL T q (p - q) = 0 → hI h 31 4 = nI (vN T q (p - q)))
theorem nLs (T : Nat → Nat) (a n : Nat) : nL T a (n + 1) = nL T a n + (if isLt (T (a + n)) = true then 1 else 0) := rfl
theorem nDs (T : Nat → Nat) (a n : Nat) : nD T a (n + 1) = nD T a n + (if isDg (T (a + n)) = true then 1 else 0) := rfl
theorem l_118 {q : Nat} : ∀ r p m h, p + r = sz → q ≤ p → Fix h → TX h T sz lim → RS h T q p →
    ∃ g, l_118_14 (r + 1 + m) (some 31) (nI (nL T q (p - q))) (nI (nD T q (p - q))) h = b_118_115 (some 31) (nI (nL T q (rne T r p - q))) (nI (nD T q (rne T r p - q))) g ∧ Fz [5000031, 6000031, 10000031] h g ∧ RS g T q (rne T r p) := by
  intro r
  induction r with
  | zero =>
    intro p m h hp hq hF hX hR
    obtain rfl : p = sz := by omega
    refine ⟨h, ?_, Fz.rfl', hR⟩
    have x3 := hX.2.2.1
    rw [show 0 + 1 + m = m + 1 by omega, l_118_14, b_118_14]
    simp (disch := first | assumption | (repeat' (first | apply fx_sI | apply fx_sJ | assumption | omega))) only [bnd_e, grd_e, grd0, grd1, Option.bind_some, Option.isSome_some, gQ30_0, gQ30_1, gQ30_2, gQ30_3, gQ30_4, gQ30_5, gQ30_6, gQ30_7, gQ30_8, gQ30_9, gQ31_0, gQ33_0, gQ33_1, gQ36_0, gQ36_1, gQ39_0, gQ39_3, gQ39_4, gQ39_6, gQ39_8, gQ39_10, gQ39_11, gQ39_12, gQ48_0, gQ48_1, gQ51_2, gQ53_0, gQ53_1, gQ60_0, gQ60_1, gQ60_2, gQ64_1, gQ64_14, gQ64_15, gQ64_16, gQ64_17, gQ64_18, gQ64_19, gQ64_20, gQ64_21, gQ64_24, gQ64_25, gQ64_27, gQ64_28, gQ64_29, gQ64_30, gQ64_31, gQ64_34, gQ64_35, gQ64_36, gQ64_39, gQ64_40, gQ64_41, gQ64_43, gQ64_44, gQ64_48, gQ64_50, gQ64_51, gQ64_52, gQ64_53, gQ64_54, gQ64_58, gQ64_59, gI30, gJ30, pI30, pJ30, rC30, gI31, gJ31, pI31, pJ31, rC31, gI33, gJ33, pI33, pJ33, rC33, gI36, gJ36, pI36, pJ36, rC36, gI39, gJ39, pI39, pJ39, rC39, gI48, gJ48, pI48, pJ48, rC48, gI51, gJ51, pI51, pJ51, rC51, gI53, gJ53, pI53, pJ53, rC53, gI60, gJ60, pI60, pJ60, rC60, gI64, gJ64, pI64, pJ64, rC64, hF, hR.1, hX.1, nI_leI, Nat.le_refl, if_true]
    rfl
  | succ r ih =>
    intro p m h hp hq hF hX hR
    obtain ⟨x1, x2, x3, x4, x5⟩ := id hX
    obtain ⟨r1, r2, r3⟩ := id hR
    obtain ⟨tb, tl⟩ := x5 p (by omega)
    have es : rne T (r + 1) p = if (isLt (T p) || isDg (T p)) = true then rne T r (p + 1) else p := rfl
    have pq : p + 1 - q = (p - q) + 1 := by omega
    have aq : q + (p - q) = p := by omega
    have e14 : l_118_14 (r + 1 + 1 + m) (some 31) (nI (nL T q (p - q))) (nI (nD T q (p - q))) h = b_118_25 (l_118_14 (r + 1 + m)) (some 31) (nI (nL T q (p - q))) (nI (nD T q (p - q))) h := by
      rw [show r + 1 + 1 + m = (r + 1 + m) + 1 by omega, l_118_14, b_118_14]
      simp (disch := first | assumption | (repeat' (first | apply fx_sI | apply fx_sJ | assumption | omega))) only [bnd_e, grd_e, grd0, grd1, Option.bind_some, Option.isSome_some, gQ30_0, gQ30_1, gQ30_2, gQ30_3, gQ30_4, gQ30_5, gQ30_6, gQ30_7, gQ30_8, gQ30_9, gQ31_0, gQ33_0, gQ33_1, gQ36_0, gQ36_1, gQ39_0, gQ39_3, gQ39_4, gQ39_6, gQ39_8, gQ39_10, gQ39_11, gQ39_12, gQ48_0, gQ48_1, gQ51_2, gQ53_0, gQ53_1, gQ60_0, gQ60_1, gQ60_2, gQ64_1, gQ64_14, gQ64_15, gQ64_16, gQ64_17, gQ64_18, gQ64_19, gQ64_20, gQ64_21, gQ64_24, gQ64_25, gQ64_27, gQ64_28, gQ64_29, gQ64_30, gQ64_31, gQ64_34, gQ64_35, gQ64_36, gQ64_39, gQ64_40, gQ64_41, gQ64_43, gQ64_44, gQ64_48, gQ64_50, gQ64_51, gQ64_52, gQ64_53, gQ64_54, gQ64_58, gQ64_59, gI30, gJ30, pI30, pJ30, rC30, gI31, gJ31, pI31, pJ31, rC31, gI33, gJ33, pI33, pJ33, rC33, gI36, gJ36, pI36, pJ36, rC36, gI39, gJ39, pI39, pJ39, rC39, gI48, gJ48, pI48, pJ48, rC48, gI51, gJ51, pI51, pJ51, rC51, gI53, gJ53, pI53, pJ53, rC53, gI60, gJ60, pI60, pJ60, rC60, gI64, gJ64, pI64, pJ64, rC64, hF, r1, x1, nI_leI, show ¬ sz ≤ p by omega, if_false]
    have e25 : b_118_25 (l_118_14 (r + 1 + m)) (some 31) (nI (nL T q (p - q))) (nI (nD T q (p - q))) h = if nI (T p) < nI 97 then b_118_71 (l_118_14 (r + 1 + m)) (some 31) (nI (nL T q (p - q))) (nI (nD T q (p - q))) (nI (T p)) h else b_118_41 (l_118_14 (r + 1 + m)) (some 31) (nI (nL T q (p - q))) (nI (nD T q (p - q))) (nI (T p)) h := by
      rw [b_118_25]
      simp (disch := first | assumption | (repeat' (first | apply fx_sI | apply fx_sJ | assumption | omega))) only [bnd_e, grd_e, grd0, grd1, Option.bind_some, Option.isSome_some, gQ30_0, gQ30_1, gQ30_2, gQ30_3, gQ30_4, gQ30_5, gQ30_6, gQ30_7, gQ30_8, gQ30_9, gQ31_0, gQ33_0, gQ33_1, gQ36_0, gQ36_1, gQ39_0, gQ39_3, gQ39_4, gQ39_6, gQ39_8, gQ39_10, gQ39_11, gQ39_12, gQ48_0, gQ48_1, gQ51_2, gQ53_0, gQ53_1, gQ60_0, gQ60_1, gQ60_2, gQ64_1, gQ64_14, gQ64_15, gQ64_16, gQ64_17, gQ64_18, gQ64_19, gQ64_20, gQ64_21, gQ64_24, gQ64_25, gQ64_27, gQ64_28, gQ64_29, gQ64_30, gQ64_31, gQ64_34, gQ64_35, gQ64_36, gQ64_39, gQ64_40, gQ64_41, gQ64_43, gQ64_44, gQ64_48, gQ64_50, gQ64_51, gQ64_52, gQ64_53, gQ64_54, gQ64_58, gQ64_59, gI30, gJ30, pI30, pJ30, rC30, gI31, gJ31, pI31, pJ31, rC31, gI33, gJ33, pI33, pJ33, rC33, gI36, gJ36, pI36, pJ36, rC36, gI39, gJ39, pI39, pJ39, rC39, gI48, gJ48, pI48, pJ48, rC48, gI51, gJ51, pI51, pJ51, rC51, gI53, gJ53, pI53, pJ53, rC53, gI60, gJ60, pI60, pJ60, rC60, gI64, gJ64, pI64, pJ64, rC64, hF, r1, aI_n (K32 hF) (L32 hF), tb]
    -- what comes behind a step
    have fin : ∀ h2 : Hp, Fz [5000031, 6000031] h h2 → ((isLt (T p) || isDg (T p)) = true) → (nD T q (p + 1 - q) = 0 → hJ h2 31 5 = lN (vB 32 T q (p + 1 - q))) → (nL T q (p + 1 - q) = 0 → hI h2 31 4 = nI (vN T q (p + 1 - q))) → ∃ g, b_118_102 (l_118_14 (r + 1 + m)) (some 31) (nI (nL T q (p + 1 - q))) (nI (nD T q (p + 1 - q))) h2 = b_118_115 (some 31) (nI (nL T q (rne T (r + 1) p - q))) (nI (nD T q (rne T (r + 1) p - q))) g ∧ Fz [5000031, 6000031, 10000031] h g ∧ RS g T q (rne T (r + 1) p) := by
      intro h2 z2 ha w1 w2
      have F2 := z2.fix hF (by decide)
      have v9 : hI h2 31 9 = nI p := by rw [z2.I1 (by decide) (by decide)]; exact r1
      have z3 : Fz [10000031] h2 (sI h2 31 9 (nI (p + 1))) := Fz.sI Fz.rfl' (Or.inr (by simp))
      have z4 : Fz [5000031, 6000031, 10000031] h (sI h2 31 9 (nI (p + 1))) := (z2.wid (by intro z hz; simp only [List.mem_cons, List.not_mem_nil, or_false] at hz ⊢; omega)).then (z3.wid (by intro z hz; simp only [List.mem_cons, List.not_mem_nil, or_false] at hz ⊢; omega))
      obtain ⟨g, a1, a2, a3⟩ := ih (p + 1) m (sI h2 31 9 (nI (p + 1))) (by omega) (by omega) (fx_sI F2 (by omega)) (hX.cz (z4.wid (by intro z hz; simp only [List.mem_cons, List.not_mem_nil, or_false] at hz ⊢; omega))) ⟨by rw [hI_sI, if_pos ⟨rfl, rfl⟩], fun z => by rw [hJ_sI]; exact w1 z, fun z => by rw [hI_sI, if_neg (by omega)]; exact w2 z⟩
      rw [es, if_pos ha]
      refine ⟨g, ?_, z4.then a2, a3⟩
      rw [b_118_102]
      simp (disch := first | assumption | (repeat' (first | apply fx_sI | apply fx_sJ | assumption | omega))) only [bnd_e, grd_e, grd0, grd1, Option.bind_some, Option.isSome_some, gQ30_0, gQ30_1, gQ30_2, gQ30_3, gQ30_4, gQ30_5, gQ30_6, gQ30_7, gQ30_8, gQ30_9, gQ31_0, gQ33_0, gQ33_1, gQ36_0, gQ36_1, gQ39_0, gQ39_3, gQ39_4, gQ39_6, gQ39_8, gQ39_10, gQ39_11, gQ39_12, gQ48_0, gQ48_1, gQ51_2, gQ53_0, gQ53_1, gQ60_0, gQ60_1, gQ60_2, gQ64_1, gQ64_14, gQ64_15, gQ64_16, gQ64_17, gQ64_18, gQ64_19, gQ64_20, gQ64_21, gQ64_24, gQ64_25, gQ64_27, gQ64_28, gQ64_29, gQ64_30, gQ64_31, gQ64_34, gQ64_35, gQ64_36, gQ64_39, gQ64_40, gQ64_41, gQ64_43, gQ64_44, gQ64_48, gQ64_50, gQ64_51, gQ64_52, gQ64_53, gQ64_54, gQ64_58, gQ64_59, gI30, gJ30, pI30, pJ30, rC30, gI31, gJ31, pI31, pJ31, rC31, gI33, gJ33, pI33, pJ33, rC33, gI36, gJ36, pI36, pJ36, rC36, gI39, gJ39, pI39, pJ39, rC39, gI48, gJ48, pI48, pJ48, rC48, gI51, gJ51, pI51, pJ51, rC51, gI53, gJ53, pI53, pJ53, rC53, gI60, gJ60, pI60, pJ60, rC60, gI64, gJ64, pI64, pJ64, rC64, F2, v9, nI_add]
      exact a1
    rw [e14, e25]
    by_cases c1 : T p < 97
    · rw [if_pos ((nI_ltI (by omega) (by omega)).2 c1), b_118_71]
      have hl : isLt (T p) = false := decide_eq_false (by omega)
      by_cases c2 : T p < 48
      · rw [if_pos ((nI_ltI (by omega) (by omega)).2 c2)]
        have hd : isDg (T p) = false := decide_eq_false (by omega)
        rw [es, hl, hd, if_neg (by decide)]
        exact ⟨h, rfl, Fz.rfl', hR⟩
      · rw [if_neg (fun z => c2 ((nI_ltI (by omega) (by omega)).1 z)), b_118_77]
        by_cases c3 : 57 < T p
        · rw [if_pos ((nI_ltI (by omega) (by omega)).2 c3)]
          have hd : isDg (T p) = false := decide_eq_false (by omega)
          rw [es, hl, hd, if_neg (by decide)]
          exact ⟨h, rfl, Fz.rfl', hR⟩
        · rw [if_neg (fun z => c3 ((nI_ltI (by omega) (by omega)).1 z)), b_118_83]
          have hd : isDg (T p) = true := decide_eq_true (by omega)
          have eL : nL T q (p + 1 - q) = nL T q (p - q) := by rw [pq, nLs, aq, hl, if_neg (by decide), Nat.add_zero]
          have eD : nD T q (p + 1 - q) = nD T q (p - q) + 1 := by rw [pq, nDs, aq, hd, if_pos rfl]
          generalize ex : nI 10 * hI h 31 4 + (nI (T p) - nI 48) = x
          have z2 : Fz [5000031, 6000031] h (sI h 31 4 x) := Fz.sI Fz.rfl' (Or.inr (by simp))
          obtain ⟨g, a1, a2, a3⟩ := fin (sI h 31 4 x) z2 (by rw [hd]; simp) (fun z => by rw [eD] at z; omega) (fun z => by
            rw [eL] at z
            rw [hI_sI, if_pos ⟨rfl, rfl⟩, ← ex, r3 z, pk_sub (by omega), pk_mul, nI_add, pq]
            show _ = nI (10 * vN T q (p - q) + (T (q + (p - q)) - 48))
            rw [aq])
          refine ⟨g, ?_, a2, a3⟩
          rw [eL, eD] at a1
          rw [bnd_e, nI_add, gI31 hF, Option.bind_some, ex, pI31 hF, Option.bind_some]
          exact a1
    · rw [if_neg (fun z => c1 ((nI_ltI (by omega) (by omega)).1 z)), b_118_41]
      by_cases c2 : 122 < T p
      · rw [if_pos ((nI_ltI (by omega) (by omega)).2 c2), b_118_71, if_neg (fun z => by have := (nI_ltI (by omega) (by omega)).1 z; omega), b_118_77, if_pos ((nI_ltI (by omega) (by omega)).2 (by omega))]
        have hl : isLt (T p) = false := decide_eq_false (by omega)
        have hd : isDg (T p) = false := decide_eq_false (by omega)
        rw [es, hl, hd, if_neg (by decide)]
        exact ⟨h, rfl, Fz.rfl', hR⟩
      · rw [if_neg (fun z => c2 ((nI_ltI (by omega) (by omega)).1 z)), b_118_47]
        have hl : isLt (T p) = true := decide_eq_true (by omega)
        have hd : isDg (T p) = false := decide_eq_false (by omega)
        have eL : nL T q (p + 1 - q) = nL T q (p - q) + 1 := by rw [pq, nLs, aq, hl, if_pos rfl]
        have eD : nD T q (p + 1 - q) = nD T q (p - q) := by rw [pq, nDs, aq, hd, if_neg (by decide), Nat.add_zero]
        have ec : (nI (T p) - nI 97 + nI 1).toInt64 = lN (T p - 96) := by
          rw [pk_sub (by omega), nI_add, show T p - 97 + 1 = T p - 96 by omega]
          exact i2l (by omega)
        generalize ex : (hJ h 31 5 <<< ((nI 5).toInt64 &&& 63)) + (nI (T p) - nI 97 + nI 1).toInt64 = x
        have z2 : Fz [5000031, 6000031] h (sJ h 31 5 x) := Fz.sJ Fz.rfl' (Or.inr (by simp))
        obtain ⟨g, a1, a2, a3⟩ := fin (sJ h 31 5 x) z2 (by rw [hl]; rfl) (fun z => by
          rw [eD] at z
          rw [hJ_sJ, if_pos ⟨rfl, rfl⟩, ← ex, r2 z, wb_shl _ (by omega), ec, lN_add, pq]
          show _ = lN (32 * vB 32 T q (p - q) + (T (q + (p - q)) - 96))
          rw [aq, Nat.mul_comm 32]) (fun z => by rw [eL] at z; omega)
        refine ⟨g, ?_, a2, a3⟩
        rw [eL, eD] at a1
        rw [bnd_e, nI_add, gJ31 hF, Option.bind_some, ex, pJ31 hF, Option.bind_some]
        exact a1
end TOKC
