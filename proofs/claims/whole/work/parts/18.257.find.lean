/-! the class finds -/
section FIND
variable {τ : Nat → Nat} {E : Nat → Nat} {S : (Nat → Nat) × (Nat → Nat) × Nat} {po pq : Nat}
theorem s_73 {h : Hp} {st k : Nat} {an : Nat → Nat} {pl : Nat} (hF : Fix h) (hT : TG τ) (hpo : τ po ≠ 1) (hpq : τ pq ≠ 1) (hW : WF E) (h5 : E 2 ≤ 5) (hst : st < 24300) (hV : VA E (dcn E st) (st % 100 + 1)) (hC : CB h po pq S) (hQI : QI E S) (hk : k < S.2.2) (hs : S.2.1 k = st) (hS : ScR τ h 53 E an pl) :
    ∃ g, f_73 (some 51) (nI st) h = some g ∧ Fz [po, pq, 6000051, 55, 4000053] h g ∧ CB g po pq (exS E st (4 + 2 * E 2) 0 S) ∧ ScR τ g 53 E (dcn E st) (st % 100 + 1) := by
  have t1 : ∀ p, p < 60 → τ p ≠ 1 := fun p hp z => by have := (hT p z).1; omega
  obtain ⟨k1, a1, a2, a3⟩ := s_76 (st := st) hF hT hS (by omega) hst
  have hF1 := a2.fix hF (by decide)
  obtain ⟨m, hm⟩ := FU_ge (4 + 2 * E 2 + 1) (by omega)
  obtain ⟨g, b1, b2, b3, b4⟩ := l_73 hT hpo hpq ⟨t1 53 (by omega), t1 55 (by omega), t1 51 (by omega)⟩ hW h5 hst hV (4 + 2 * E 2) 0 m k1 S (by omega) hF1 (hC.cg a2) hQI hk hs a3
  refine ⟨g, ?_, (a2.wid (by intro z hz; simp only [List.mem_cons, List.not_mem_nil, or_false] at hz ⊢; omega)).then b2, b3, b4⟩
  obtain ⟨p0, hH, p1, p2⟩ := id hS
  obtain ⟨kk, ge, t, a0, a1', a2', ⟨f0, f1, f2, f3, f4⟩, hcl, _, hw⟩ := hH
  rw [f_73, b_73_0]
  simp (disch := first | assumption | (repeat' (first | apply fx_sI | apply fx_sJ | assumption | omega))) only [bnd_e, grd_e, grd0, grd1, Option.bind_some, Option.isSome_some, gQ30_0, gQ30_1, gQ30_2, gQ30_3, gQ30_4, gQ30_5, gQ30_6, gQ30_7, gQ30_8, gQ30_9, gQ31_0, gQ33_0, gQ33_1, gQ36_0, gQ36_1, gQ39_0, gQ39_3, gQ39_4, gQ39_6, gQ39_8, gQ39_10, gQ39_11, gQ39_12, gQ48_0, gQ48_1, gQ51_2, gQ53_0, gQ53_1, gQ60_0, gQ60_1, gQ60_2, gQ64_1, gQ64_14, gQ64_15, gQ64_16, gQ64_17, gQ64_18, gQ64_19, gQ64_20, gQ64_21, gQ64_24, gQ64_25, gQ64_27, gQ64_28, gQ64_29, gQ64_30, gQ64_31, gQ64_34, gQ64_35, gQ64_36, gQ64_39, gQ64_40, gQ64_41, gQ64_43, gQ64_44, gQ64_48, gQ64_50, gQ64_51, gQ64_52, gQ64_53, gQ64_54, gQ64_58, gQ64_59, gI30, gJ30, pI30, pJ30, rC30, gI31, gJ31, pI31, pJ31, rC31, gI33, gJ33, pI33, pJ33, rC33, gI36, gJ36, pI36, pJ36, rC36, gI39, gJ39, pI39, pJ39, rC39, gI48, gJ48, pI48, pJ48, rC48, gI51, gJ51, pI51, pJ51, rC51, gI53, gJ53, pI53, pJ53, rC53, gI60, gJ60, pI60, pJ60, rC60, gI64, gJ64, pI64, pJ64, rC64, hF, gQ_e (K53 hF), p0, gI_e kk, f2, pk_mul, nI_add, a1]
  rw [hm, b1]
theorem l_71 (hT : TG τ) (hpo : τ po ≠ 1) (hpq : τ pq ≠ 1) (hW : WF E) (h5 : E 2 ≤ 5) {cl : Nat} (hcl : cl ≤ 100) : ∀ r i m h (S : (Nat → Nat) × (Nat → Nat) × Nat) an pl, i + r = 24300 → Fix h → CB h po pq S → QI E S → ScR τ h 53 E an pl →
    ∃ g an' pl', l_71_36 (r + 1 + m) (some 51) (mI cl) (nI i) h = some (mI (bfS E cl (r + 1) i S).1, g) ∧ Fz [po, pq, 6000051, 55, 4000053] h g ∧ CB g po pq (bfS E cl (r + 1) i S).2 ∧ QI E (bfS E cl (r + 1) i S).2 ∧ ScR τ g 53 E an' pl' := by
  have gen : ∀ r, (∀ i m h (S : (Nat → Nat) × (Nat → Nat) × Nat) an pl, i + r = 24300 → Fix h → CB h po pq S → QI E S → ScR τ h 53 E an pl → i < S.2.2 → S.2.1 i % 100 + 1 ≠ cl → ∃ g an' pl', b_71_71 (l_71_36 (r + m)) (some 51) (mI cl) (nI i) h = some (mI (bfS E cl r (i + 1) (exS E (S.2.1 i) (4 + 2 * E 2) 0 S)).1, g) ∧ Fz [po, pq, 6000051, 55, 4000053] h g ∧ CB g po pq (bfS E cl r (i + 1) (exS E (S.2.1 i) (4 + 2 * E 2) 0 S)).2 ∧ QI E (bfS E cl r (i + 1) (exS E (S.2.1 i) (4 + 2 * E 2) 0 S)).2 ∧ ScR τ g 53 E an' pl') →
      ∀ i m h (S : (Nat → Nat) × (Nat → Nat) × Nat) an pl, i + r = 24300 → Fix h → CB h po pq S → QI E S → ScR τ h 53 E an pl →
    ∃ g an' pl', l_71_36 (r + 1 + m) (some 51) (mI cl) (nI i) h = some (mI (bfS E cl (r + 1) i S).1, g) ∧ Fz [po, pq, 6000051, 55, 4000053] h g ∧ CB g po pq (bfS E cl (r + 1) i S).2 ∧ QI E (bfS E cl (r + 1) i S).2 ∧ ScR τ g 53 E an' pl' := by
    intro r go i m h S an pl hi hF hC hQI hS
    have hC' := hC
    obtain ⟨⟨a1, a2, a3, a4, a5, a6, a7, a8, a9, a10, a11⟩, b, c, d⟩ := hC'
    have k51 := K51 hF
    have tl := hQI.le
    have es : bfS E cl (r + 1) i S = if S.2.2 ≤ i then (0, S) else if S.2.1 i % 100 + 1 = cl then (S.2.1 i + 1, S) else bfS E cl r (i + 1) (exS E (S.2.1 i) (4 + 2 * E 2) 0 S) := rfl
    rw [es, show r + 1 + m = (r + m) + 1 by omega, l_71_36, b_71_36]
    simp (disch := first | assumption | (repeat' (first | apply fx_sI | apply fx_sJ | assumption | omega))) only [gI_e k51, d, Option.bind_some, nI_leI]
    by_cases c1 : S.2.2 ≤ i
    · rw [if_pos c1, if_pos c1]
      exact ⟨h, an, pl, rfl, Fz.rfl', hC, hQI, hS⟩
    · rw [if_neg c1, if_neg c1]
      have qi := hQI.2.2.1 i (by omega)
      have e1 : (nI (S.2.1 i % 100) = mI cl) = (S.2.1 i % 100 + 1 = cl) := by
        apply propext
        rw [← mI_s, mI_inj (by omega) (by omega)]
      rw [b_71_44, if_neg (by rw [nI_leI (by omega) (by omega)]; omega), b_71_51]
      simp (disch := first | assumption | (repeat' (first | apply fx_sI | apply fx_sJ | assumption | omega))) only [gQ_e k51, a2, Option.bind_some, aI_n a5 a6, c i (show i < S.2.2 by omega), d100, grd_e, ↓pk_rem, e1]
      by_cases c2 : S.2.1 i % 100 + 1 = cl
      · rw [if_pos c2, if_neg (fun z => z c2)]
        refine ⟨h, an, pl, ?_, Fz.rfl', hC, hQI, hS⟩
        rw [b_71_64]
        simp (disch := first | assumption | (repeat' (first | apply fx_sI | apply fx_sJ | assumption | omega))) only [gQ_e k51, a2, Option.bind_some, aI_n a5 a6, c i (show i < S.2.2 by omega)]
        rfl
      · rw [if_neg c2, if_pos c2]
        exact go i m h S an pl hi hF hC hQI hS (by omega) c2
  intro r
  induction r with
  | zero =>
    apply gen 0
    intro i m h S an pl hi hF hC hQI hS h1 h2
    have := hQI.le
    omega
  | succ r ih =>
    apply gen (r + 1)
    intro i m h S an pl hi hF hC hQI hS h1 h2
    have qi := hQI.2.2.1 i h1
    obtain ⟨k1, b1, b2, b3, b4⟩ := s_73 hF hT hpo hpq hW h5 qi.1 qi.2.2 hC hQI h1 rfl hS
    have hC' := hC
    obtain ⟨⟨a1, a2, a3, a4, a5, a6, a7, a8, a9, a10, a11⟩, b, c, d⟩ := hC'
    have hF1 := b2.fix hF (by intro z hz; simp only [List.mem_cons, List.not_mem_nil, or_false] at hz; omega)
    obtain ⟨g, an', pl', c1, c2, c3, c4, c5⟩ := ih (i + 1) m k1 _ _ _ (by omega) hF1 b3 (hQI.ex hW h5 (k := i) (4 + 2 * E 2) 0 S (by omega) h1 rfl).1 b4
    refine ⟨g, an', pl', ?_, b2.then c2, c3, c4, c5⟩
    have k51 := K51 hF
    rw [b_71_71]
    simp (disch := first | assumption | (repeat' (first | apply fx_sI | apply fx_sJ | assumption | omega))) only [gQ_e k51, a2, Option.bind_some, aI_n a5 a6, c i h1, bnd_e, grd_e, grd0, grd1, Option.bind_some, Option.isSome_some, gQ30_0, gQ30_1, gQ30_2, gQ30_3, gQ30_4, gQ30_5, gQ30_6, gQ30_7, gQ30_8, gQ30_9, gQ31_0, gQ33_0, gQ33_1, gQ36_0, gQ36_1, gQ39_0, gQ39_3, gQ39_4, gQ39_6, gQ39_8, gQ39_10, gQ39_11, gQ39_12, gQ48_0, gQ48_1, gQ51_2, gQ53_0, gQ53_1, gQ60_0, gQ60_1, gQ60_2, gQ64_1, gQ64_14, gQ64_15, gQ64_16, gQ64_17, gQ64_18, gQ64_19, gQ64_20, gQ64_21, gQ64_24, gQ64_25, gQ64_27, gQ64_28, gQ64_29, gQ64_30, gQ64_31, gQ64_34, gQ64_35, gQ64_36, gQ64_39, gQ64_40, gQ64_41, gQ64_43, gQ64_44, gQ64_48, gQ64_50, gQ64_51, gQ64_52, gQ64_53, gQ64_54, gQ64_58, gQ64_59, gI30, gJ30, pI30, pJ30, rC30, gI31, gJ31, pI31, pJ31, rC31, gI33, gJ33, pI33, pJ33, rC33, gI36, gJ36, pI36, pJ36, rC36, gI39, gJ39, pI39, pJ39, rC39, gI48, gJ48, pI48, pJ48, rC48, gI51, gJ51, pI51, pJ51, rC51, gI53, gJ53, pI53, pJ53, rC53, gI60, gJ60, pI60, pJ60, rC60, gI64, gJ64, pI64, pJ64, rC64, hF, b1, nI_add]
    exact c1
end FIND
