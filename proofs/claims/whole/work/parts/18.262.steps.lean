/-! steps alone: the class, the reference -/
section STEPS
variable {τ : Nat → Nat} {E an : Nat → Nat} {S : (Nat → Nat) × (Nat → Nat) × Nat} {po pq : Nat}
theorem kn_step {c A : Nat} (hA : A < 4) : kn E an (c + 1) (A + 1) = stepK E an (c + 1) A := by
  unfold kn knkK
  rw [if_neg (by omega), if_neg (by omega), show A + 1 - 1 = A by omega, if_pos hA]
theorem VA.pl {pl c : Nat} (hV : VA E an pl) (hc : c ≤ 100) : VA E an c := ⟨hV.1, hV.2.1, hV.2.2.1, hc⟩
theorem l_81i (hT : TG τ) (hpo : τ po ≠ 1) (hpq : τ pq ≠ 1) (hW : WF E) {pl0 c i : Nat} {k36 : Option Nat → Int32 → Hp → Option (Int32 × Hp)} (hV : VA E an pl0) (hc : c < 100) : ∀ r A m h (S : (Nat → Nat) × (Nat → Nat) × Nat) pl, A + r = 4 → Fix h → CB h po pq S → WQ S → i < S.2.2 → S.2.1 i = c → ScR τ h 53 E an pl →
    ∃ g pl', l_81_52 k36 (r + 1 + m) (some 51) (nI i) (nI A) h = k36 (some 51) (nI (i + 1)) g ∧ Fz [po, pq, 6000051, 55, 4000053] h g ∧ CB g po pq (exW E an c r A S) ∧ ScR τ g 53 E an pl' := by
  intro r
  induction r with
  | zero =>
    intro A m h S pl hA hF hC hQ hi hs hS
    obtain rfl : A = 4 := by omega
    refine ⟨h, pl, ?_, Fz.rfl', hC, hS⟩
    rw [show 0 + 1 + m = m + 1 by omega, l_81_52, b_81_52, if_pos (Int32.le_refl _), b_81_107, bnd_e, nI_add]
  | succ r ih =>
    intro A m h S pl hA hF hC hQ hi hs hS
    have es : exW E an c (r + 1) A S = exW E an c r (A + 1) (if stepK E an (c + 1) A = 0 then seeS S (cN (tgt (c + 1) A)) 1 else S) := rfl
    have s53 : SP 53 := Or.inr (Or.inr rfl)
    obtain ⟨⟨a1, a2, a3, a4, a5, a6, a7, a8, a9, a10, a11⟩, b, cq, d⟩ := id hC
    have t1 : ∀ p, p < 60 → τ p ≠ 1 := fun p hp z => by have := (hT p z).1; omega
    have ql := hQ.le
    have hS1 : ScR τ (sI h 53 3 (mI (c + 1))) 53 E an (c + 1) := hS.mv (s := 53) hT s53
    have hF1 : Fix (sI h 53 3 (mI (c + 1))) := fx_sI hF (by omega)
    have z1 : Fz [55, 4000053] h (sI h 53 3 (mI (c + 1))) := Fz.sI Fz.rfl' (by decide)
    have hV1 : VA E an (c + 1) := hV.pl (by omega)
    have e90 := c_90 (o := A + 1) hF1 s53 hS1 hW hV1 (by omega)
    rw [mI_s, kn_step (by omega)] at e90
    have bk : stepK E an (c + 1) A < 10 := by unfold stepK; (repeat' split) <;> omega
    have hC1 := hC.cg z1
    have e0 : pI 7 3 (some 53) (nI c) h = some (sI h 53 3 (mI (c + 1))) := by rw [pI_e (K53 hF) (by omega), mI_s]
    rw [es, show r + 1 + 1 + m = (r + 1 + m) + 1 by omega, l_81_52, b_81_52, if_neg (by rw [nI_leI (by omega) (by omega)]; omega), b_81_57]
    simp (disch := first | assumption | (repeat' (first | apply fx_sI | apply fx_sJ | assumption | omega))) only [bnd_e, grd_e, grd0, grd1, Option.bind_some, Option.isSome_some, gQ30_0, gQ30_1, gQ30_2, gQ30_3, gQ30_4, gQ30_5, gQ30_6, gQ30_7, gQ30_8, gQ30_9, gQ31_0, gQ33_0, gQ33_1, gQ36_0, gQ36_1, gQ39_0, gQ39_3, gQ39_4, gQ39_6, gQ39_8, gQ39_10, gQ39_11, gQ39_12, gQ48_0, gQ48_1, gQ51_2, gQ53_0, gQ53_1, gQ60_0, gQ60_1, gQ60_2, gQ64_1, gQ64_14, gQ64_15, gQ64_16, gQ64_17, gQ64_18, gQ64_19, gQ64_20, gQ64_21, gQ64_24, gQ64_25, gQ64_27, gQ64_28, gQ64_29, gQ64_30, gQ64_31, gQ64_34, gQ64_35, gQ64_36, gQ64_39, gQ64_40, gQ64_41, gQ64_43, gQ64_44, gQ64_48, gQ64_50, gQ64_51, gQ64_52, gQ64_53, gQ64_54, gQ64_58, gQ64_59, gI30, gJ30, pI30, pJ30, rC30, gI31, gJ31, pI31, pJ31, rC31, gI33, gJ33, pI33, pJ33, rC33, gI36, gJ36, pI36, pJ36, rC36, gI39, gJ39, pI39, pJ39, rC39, gI48, gJ48, pI48, pJ48, rC48, gI51, gJ51, pI51, pJ51, rC51, gI53, gJ53, pI53, pJ53, rC53, gI60, gJ60, pI60, pJ60, rC60, gI64, gJ64, pI64, pJ64, rC64, hF, gQ_e (K51 hF), Q51_2 hF, a2, aI_n a5 a6, cq i hi, hs, e0, hF1, e90, nI_eq0 (show stepK E an (c + 1) A < 2147483648 by omega)]
    by_cases k : stepK E an (c + 1) A = 0
    · rw [if_pos k, if_neg (fun z => z k)]
      obtain ⟨wk, cl⟩ := step_in hW k
      have hk : kn E an (c + 1) (A + 1) = 0 := by rw [kn_step (by omega)]; exact k
      obtain ⟨k1, b1, b2, b3⟩ := c_94 (o := A + 1) hF1 hT s53 hS1 hW hV1 (by omega) hk
      have ea : pa an (A + 1) = an := by unfold pa prA; rw [if_neg (by omega), show A + 1 - 1 = A by omega, if_pos (by omega)]
      have ep : pp (c + 1) (A + 1) = cN (tgt (c + 1) A) + 1 := by unfold pp prP; rw [if_neg (by omega), show A + 1 - 1 = A by omega, if_pos (by omega)]
      rw [ea, ep] at b3
      rw [mI_s] at b1
      have hF2 := b2.fix hF1 (by decide)
      have z2 : Fz [55, 4000053] h k1 := z1.then (b2.wid (by intro z hz; simp only [List.mem_cons, List.not_mem_nil, or_false] at hz ⊢; omega))
      have hC2 := hC.cg z2
      have pv : hI k1 53 3 = nI (cN (tgt (c + 1) A)) := by rw [b3.2.2.2, mI_s]
      have ogb : S.1 (cN (tgt (c + 1) A)) ≤ 1 := hQ.2.1 _
      obtain ⟨k2, d1, d2', d3'⟩ := s_74 (st := cN (tgt (c + 1) A)) (v := 1) hF2 hC2 (by omega) (fun z => by have := hQ.rm cl z; omega) (by omega)
      have hF3 := d2'.fix hF2 (by intro z hz; simp only [List.mem_cons, List.not_mem_nil, or_false] at hz; omega)
      have tg := d2'.tag2 hT (by
        intro z hz
        simp only [List.mem_cons, List.not_mem_nil, or_false] at hz
        rcases hz with rfl | rfl | rfl
        · rw [Nat.mod_eq_of_lt a10]; exact hpo
        · rw [Nat.mod_eq_of_lt a11]; exact hpq
        · exact t1 51 (by omega))
      have i3 : ∀ a, a = 53 ∨ a = 54 ∨ a = 55 → hI k2 a = hI k1 a := fun a ha => d2'.I (a := a) (by intro z hz; simp only [List.mem_cons, List.not_mem_nil, or_false] at hz; omega) (by omega)
      have hS3 := b3.cg d2'.K d2'.L d2'.Q tg (fun d _ => by rw [i3 _ (Or.inr (Or.inl rfl))]) (fun d hd => by rw [i3 _ (Or.inr (Or.inr rfl))]; exact (b3.2.2.1 d hd).2) (by rw [i3 _ (Or.inl rfl)]; exact b3.2.2.2)
      have m' := see_mono (S := S) (cN (tgt (c + 1) A)) 1
      obtain ⟨g, pl', g1, g2, g3⟩ := ih (A + 1) m k2 _ _ (by omega) hF3 d3' (hQ.see cl) (by omega) (by rw [m'.2 i hi]; exact hs) hS3
      refine ⟨g, pl', ?_, ((z2.wid (by intro z hz; simp only [List.mem_cons, List.not_mem_nil, or_false] at hz ⊢; omega)).then (d2'.wid (by intro z hz; simp only [List.mem_cons, List.not_mem_nil, or_false] at hz ⊢; omega))).then g2, g3⟩
      rw [b_81_81]
      simp (disch := first | assumption | (repeat' (first | apply fx_sI | apply fx_sJ | assumption | omega))) only [bnd_e, grd_e, grd0, grd1, Option.bind_some, Option.isSome_some, gQ30_0, gQ30_1, gQ30_2, gQ30_3, gQ30_4, gQ30_5, gQ30_6, gQ30_7, gQ30_8, gQ30_9, gQ31_0, gQ33_0, gQ33_1, gQ36_0, gQ36_1, gQ39_0, gQ39_3, gQ39_4, gQ39_6, gQ39_8, gQ39_10, gQ39_11, gQ39_12, gQ48_0, gQ48_1, gQ51_2, gQ53_0, gQ53_1, gQ60_0, gQ60_1, gQ60_2, gQ64_1, gQ64_14, gQ64_15, gQ64_16, gQ64_17, gQ64_18, gQ64_19, gQ64_20, gQ64_21, gQ64_24, gQ64_25, gQ64_27, gQ64_28, gQ64_29, gQ64_30, gQ64_31, gQ64_34, gQ64_35, gQ64_36, gQ64_39, gQ64_40, gQ64_41, gQ64_43, gQ64_44, gQ64_48, gQ64_50, gQ64_51, gQ64_52, gQ64_53, gQ64_54, gQ64_58, gQ64_59, gI30, gJ30, pI30, pJ30, rC30, gI31, gJ31, pI31, pJ31, rC31, gI33, gJ33, pI33, pJ33, rC33, gI36, gJ36, pI36, pJ36, rC36, gI39, gJ39, pI39, pJ39, rC39, gI48, gJ48, pI48, pJ48, rC48, gI51, gJ51, pI51, pJ51, rC51, gI53, gJ53, pI53, pJ53, rC53, gI60, gJ60, pI60, pJ60, rC60, gI64, gJ64, pI64, pJ64, rC64, hF1, b1, hF2, pv, d1]
      rw [b_81_101, bnd_e, nI_add]
      exact g1
    · rw [if_neg k, if_pos k, b_81_101, bnd_e, nI_add]
      obtain ⟨g, pl', g1, g2, g3⟩ := ih (A + 1) m _ S _ (by omega) hF1 hC1 hQ hi hs hS1
      exact ⟨g, pl', g1, (z1.wid (by intro z hz; simp only [List.mem_cons, List.not_mem_nil, or_false] at hz ⊢; omega)).then g2, g3⟩
theorem l_81o (hT : TG τ) (hpo : τ po ≠ 1) (hpq : τ pq ≠ 1) (hW : WF E) {pl0 : Nat} (hV : VA E an pl0) : ∀ r i m h (S : (Nat → Nat) × (Nat → Nat) × Nat) pl, i + r = 100 → Fix h → CB h po pq S → WQ S → ScR τ h 53 E an pl →
    ∃ g, l_81_36 (r + 1 + m) (some 51) (nI i) h = some (nI (bfW E an (r + 1) i S).2.2, g) ∧ Fz [po, pq, 6000051, 55, 4000053] h g := by
  intro r
  induction r with
  | zero =>
    intro i m h S pl hi hF hC hQ hS
    have ql := hQ.le
    have d := hC.2.2.2
    have es : bfW E an (0 + 1) i S = S := by show (if S.2.2 ≤ i then S else _) = S; rw [if_pos (by omega)]
    refine ⟨h, ?_, Fz.rfl'⟩
    rw [es, show 0 + 1 + m = m + 1 by omega, l_81_36, b_81_36]
    simp (disch := first | assumption | (repeat' (first | apply fx_sI | apply fx_sJ | assumption | omega))) only [bnd_e, grd_e, grd0, grd1, Option.bind_some, Option.isSome_some, gQ30_0, gQ30_1, gQ30_2, gQ30_3, gQ30_4, gQ30_5, gQ30_6, gQ30_7, gQ30_8, gQ30_9, gQ31_0, gQ33_0, gQ33_1, gQ36_0, gQ36_1, gQ39_0, gQ39_3, gQ39_4, gQ39_6, gQ39_8, gQ39_10, gQ39_11, gQ39_12, gQ48_0, gQ48_1, gQ51_2, gQ53_0, gQ53_1, gQ60_0, gQ60_1, gQ60_2, gQ64_1, gQ64_14, gQ64_15, gQ64_16, gQ64_17, gQ64_18, gQ64_19, gQ64_20, gQ64_21, gQ64_24, gQ64_25, gQ64_27, gQ64_28, gQ64_29, gQ64_30, gQ64_31, gQ64_34, gQ64_35, gQ64_36, gQ64_39, gQ64_40, gQ64_41, gQ64_43, gQ64_44, gQ64_48, gQ64_50, gQ64_51, gQ64_52, gQ64_53, gQ64_54, gQ64_58, gQ64_59, gI30, gJ30, pI30, pJ30, rC30, gI31, gJ31, pI31, pJ31, rC31, gI33, gJ33, pI33, pJ33, rC33, gI36, gJ36, pI36, pJ36, rC36, gI39, gJ39, pI39, pJ39, rC39, gI48, gJ48, pI48, pJ48, rC48, gI51, gJ51, pI51, pJ51, rC51, gI53, gJ53, pI53, pJ53, rC53, gI60, gJ60, pI60, pJ60, rC60, gI64, gJ64, pI64, pJ64, rC64, hF, d, nI_leI, show S.2.2 ≤ i by omega, if_true]
    rw [b_81_113]
    simp (disch := first | assumption | (repeat' (first | apply fx_sI | apply fx_sJ | assumption | omega))) only [bnd_e, grd_e, grd0, grd1, Option.bind_some, Option.isSome_some, gQ30_0, gQ30_1, gQ30_2, gQ30_3, gQ30_4, gQ30_5, gQ30_6, gQ30_7, gQ30_8, gQ30_9, gQ31_0, gQ33_0, gQ33_1, gQ36_0, gQ36_1, gQ39_0, gQ39_3, gQ39_4, gQ39_6, gQ39_8, gQ39_10, gQ39_11, gQ39_12, gQ48_0, gQ48_1, gQ51_2, gQ53_0, gQ53_1, gQ60_0, gQ60_1, gQ60_2, gQ64_1, gQ64_14, gQ64_15, gQ64_16, gQ64_17, gQ64_18, gQ64_19, gQ64_20, gQ64_21, gQ64_24, gQ64_25, gQ64_27, gQ64_28, gQ64_29, gQ64_30, gQ64_31, gQ64_34, gQ64_35, gQ64_36, gQ64_39, gQ64_40, gQ64_41, gQ64_43, gQ64_44, gQ64_48, gQ64_50, gQ64_51, gQ64_52, gQ64_53, gQ64_54, gQ64_58, gQ64_59, gI30, gJ30, pI30, pJ30, rC30, gI31, gJ31, pI31, pJ31, rC31, gI33, gJ33, pI33, pJ33, rC33, gI36, gJ36, pI36, pJ36, rC36, gI39, gJ39, pI39, pJ39, rC39, gI48, gJ48, pI48, pJ48, rC48, gI51, gJ51, pI51, pJ51, rC51, gI53, gJ53, pI53, pJ53, rC53, gI60, gJ60, pI60, pJ60, rC60, gI64, gJ64, pI64, pJ64, rC64, hF, d]
  | succ r ih =>
    intro i m h S pl hi hF hC hQ hS
    have ql := hQ.le
    have d := hC.2.2.2
    have cb := hC.1
    have es : bfW E an (r + 1 + 1) i S = if S.2.2 ≤ i then S else bfW E an (r + 1) (i + 1) (exW E an (S.2.1 i) 4 0 S) := rfl
    rw [es, show r + 1 + 1 + m = (r + 1 + m) + 1 by omega, l_81_36, b_81_36]
    simp (disch := first | assumption | (repeat' (first | apply fx_sI | apply fx_sJ | assumption | omega))) only [bnd_e, grd_e, grd0, grd1, Option.bind_some, Option.isSome_some, gQ30_0, gQ30_1, gQ30_2, gQ30_3, gQ30_4, gQ30_5, gQ30_6, gQ30_7, gQ30_8, gQ30_9, gQ31_0, gQ33_0, gQ33_1, gQ36_0, gQ36_1, gQ39_0, gQ39_3, gQ39_4, gQ39_6, gQ39_8, gQ39_10, gQ39_11, gQ39_12, gQ48_0, gQ48_1, gQ51_2, gQ53_0, gQ53_1, gQ60_0, gQ60_1, gQ60_2, gQ64_1, gQ64_14, gQ64_15, gQ64_16, gQ64_17, gQ64_18, gQ64_19, gQ64_20, gQ64_21, gQ64_24, gQ64_25, gQ64_27, gQ64_28, gQ64_29, gQ64_30, gQ64_31, gQ64_34, gQ64_35, gQ64_36, gQ64_39, gQ64_40, gQ64_41, gQ64_43, gQ64_44, gQ64_48, gQ64_50, gQ64_51, gQ64_52, gQ64_53, gQ64_54, gQ64_58, gQ64_59, gI30, gJ30, pI30, pJ30, rC30, gI31, gJ31, pI31, pJ31, rC31, gI33, gJ33, pI33, pJ33, rC33, gI36, gJ36, pI36, pJ36, rC36, gI39, gJ39, pI39, pJ39, rC39, gI48, gJ48, pI48, pJ48, rC48, gI51, gJ51, pI51, pJ51, rC51, gI53, gJ53, pI53, pJ53, rC53, gI60, gJ60, pI60, pJ60, rC60, gI64, gJ64, pI64, pJ64, rC64, hF, d, nI_leI]
    by_cases c1 : S.2.2 ≤ i
    · rw [if_pos c1, if_pos c1]
      refine ⟨h, ?_, Fz.rfl'⟩
      rw [b_81_113]
      simp (disch := first | assumption | (repeat' (first | apply fx_sI | apply fx_sJ | assumption | omega))) only [bnd_e, grd_e, grd0, grd1, Option.bind_some, Option.isSome_some, gQ30_0, gQ30_1, gQ30_2, gQ30_3, gQ30_4, gQ30_5, gQ30_6, gQ30_7, gQ30_8, gQ30_9, gQ31_0, gQ33_0, gQ33_1, gQ36_0, gQ36_1, gQ39_0, gQ39_3, gQ39_4, gQ39_6, gQ39_8, gQ39_10, gQ39_11, gQ39_12, gQ48_0, gQ48_1, gQ51_2, gQ53_0, gQ53_1, gQ60_0, gQ60_1, gQ60_2, gQ64_1, gQ64_14, gQ64_15, gQ64_16, gQ64_17, gQ64_18, gQ64_19, gQ64_20, gQ64_21, gQ64_24, gQ64_25, gQ64_27, gQ64_28, gQ64_29, gQ64_30, gQ64_31, gQ64_34, gQ64_35, gQ64_36, gQ64_39, gQ64_40, gQ64_41, gQ64_43, gQ64_44, gQ64_48, gQ64_50, gQ64_51, gQ64_52, gQ64_53, gQ64_54, gQ64_58, gQ64_59, gI30, gJ30, pI30, pJ30, rC30, gI31, gJ31, pI31, pJ31, rC31, gI33, gJ33, pI33, pJ33, rC33, gI36, gJ36, pI36, pJ36, rC36, gI39, gJ39, pI39, pJ39, rC39, gI48, gJ48, pI48, pJ48, rC48, gI51, gJ51, pI51, pJ51, rC51, gI53, gJ53, pI53, pJ53, rC53, gI60, gJ60, pI60, pJ60, rC60, gI64, gJ64, pI64, pJ64, rC64, hF, d]
    · rw [if_neg c1, if_neg c1, b_81_44, if_neg (by rw [nI_leI (by omega) (by omega)]; omega), b_81_50, bnd_e]
      obtain ⟨m2, hm2⟩ := FU_ge (4 + 1) (by omega)
      have qc := hQ.1 i (by omega)
      obtain ⟨k1, pl', b1, b2, b3, b4⟩ := l_81i (i := i) (c := S.2.1 i) (k36 := l_81_36 (r + 1 + m)) hT hpo hpq hW hV qc 4 0 m2 h S pl (by omega) hF hC hQ (by omega) rfl hS
      obtain ⟨g, d1, d2'⟩ := ih (i + 1) m k1 _ _ (by omega) (b2.fix hF (by intro z hz; simp only [List.mem_cons, List.not_mem_nil, or_false] at hz; omega)) b3 (hQ.ex hW 4 0 S).1 b4
      refine ⟨g, ?_, b2.then d2'⟩
      rw [hm2, b1]
      exact d1
def wks (E : Nat → Nat) : (Nat → Nat) × (Nat → Nat) × Nat := bfW E (anE E) 101 0 (seeS S00 (E 340 - 1) 1)
theorem s_81 {h : Hp} (hF : Fix h) (hT : TG τ) (hN' : ∀ p, τ p = 1 → p < hN h) (hN1 : hN h + 2 < 1000000) (hr : hQ h 51 3 = none ∨ PR h po pq ∧ τ po ≠ 1 ∧ τ pq ≠ 1) (hSc : ScR τ h 33 E (anE E) (E 340)) (hW : WF E) (hV : VA E (anE E) (E 340)) (h0 : E 340 ≠ 0) :
    ∃ g po' pq', f_81 (some 51) (some 33) h = some (nI (wks E).2.2, g) ∧ PR g po' pq' ∧ Fa [4000051, 5000051, 6000051, 3000053, 4000053, 54, 55, po, pq] h g ∧ Fix g ∧ hN g ≤ hN h + 2 ∧ hC g ≤ hC h + 2 ∧ hS g ≤ hS h + 48600 ∧ ((po' = po ∧ pq' = pq) ∨ (hN h ≤ po' ∧ hN h ≤ pq')) ∧ (τ po' ≠ 1 ∧ τ pq' ≠ 1) := by
  obtain ⟨g1, g2, g3, po', pq', ⟨u1, hF1, u2, u3, hF2, u4, hF3⟩, hC, fr, hS33, hS53, n1, n2, n3, n4, n5, n6, n7⟩ := s_71a hF hT hN' hN1 hr hSc hW
  have hF4 : Fix (sI g3 51 5 (nI 0)) := fx_sI hF3 (by omega)
  have hp := hV.2.2.2
  have p33 : hI (sI g3 51 5 (nI 0)) 33 3 = nI (E 340 - 1) := by rw [hS33.2.2.2, mI_pos h0]
  obtain ⟨g5, b1, b2, b3⟩ := s_74 (st := E 340 - 1) (v := 1) hF4 hC (by omega) (fun _ => by show 0 < 24300; omega) (by show 0 < 1000000; omega)
  have cb := hC.1
  have hF5 : Fix g5 := b2.fix hF4 (by intro z hz; simp only [List.mem_cons, List.not_mem_nil, or_false] at hz; omega)
  have t1 : ∀ p, p < 60 → τ p ≠ 1 := fun p hp z => by have := (hT p z).1; omega
  have tg := b2.tag2 hT (by
    intro z hz
    simp only [List.mem_cons, List.not_mem_nil, or_false] at hz
    rcases hz with rfl | rfl | rfl
    · rw [Nat.mod_eq_of_lt (by omega)]; exact n5.1
    · rw [Nat.mod_eq_of_lt (by omega)]; exact n5.2
    · exact t1 51 (by omega))
  have i5 : ∀ a, a = 53 ∨ a = 54 ∨ a = 55 → hI g5 a = hI (sI g3 51 5 (nI 0)) a := fun a ha => b2.I (a := a) (by intro z hz; simp only [List.mem_cons, List.not_mem_nil, or_false] at hz; omega) (by omega)
  have hS5 := hS53.cg b2.K b2.L b2.Q tg (fun d _ => by rw [i5 _ (Or.inr (Or.inl rfl))]) (fun d hd => by rw [i5 _ (Or.inr (Or.inr rfl))]; exact (hS53.2.2.1 d hd).2) (by rw [i5 _ (Or.inl rfl)]; exact hS53.2.2.2)
  obtain ⟨m, hm⟩ := FU_ge (100 + 1) (by omega)
  obtain ⟨g, d1, d2'⟩ := l_81o hT n5.1 n5.2 hW hV 100 0 m g5 _ _ (by omega) hF5 b3 (WQ.one (by omega)) hS5
  have N5 : hN g = hN g3 := d2'.N.trans b2.N
  refine ⟨g, po', pq', ?_, ⟨⟨by omega, by omega⟩, by rw [d2'.Q, b2.Q]; exact cb.1, by rw [d2'.Q, b2.Q]; exact cb.2.1, by rw [d2'.K, b2.K]; exact cb.2.2.1, by rw [d2'.L, b2.L]; exact cb.2.2.2.1, by rw [d2'.K, b2.K]; exact cb.2.2.2.2.1, by rw [d2'.L, b2.L]; exact cb.2.2.2.2.2.1, cb.2.2.2.2.2.2⟩, ?_, ?_, by omega, ?_, ?_, n4, n5⟩
  · rw [f_81, b_81_0]
    simp (disch := first | assumption | (repeat' (first | apply fx_sI | apply fx_sJ | assumption | omega))) only [bnd_e, grd_e, grd0, grd1, Option.bind_some, Option.isSome_some, gQ30_0, gQ30_1, gQ30_2, gQ30_3, gQ30_4, gQ30_5, gQ30_6, gQ30_7, gQ30_8, gQ30_9, gQ31_0, gQ33_0, gQ33_1, gQ36_0, gQ36_1, gQ39_0, gQ39_3, gQ39_4, gQ39_6, gQ39_8, gQ39_10, gQ39_11, gQ39_12, gQ48_0, gQ48_1, gQ51_2, gQ53_0, gQ53_1, gQ60_0, gQ60_1, gQ60_2, gQ64_1, gQ64_14, gQ64_15, gQ64_16, gQ64_17, gQ64_18, gQ64_19, gQ64_20, gQ64_21, gQ64_24, gQ64_25, gQ64_27, gQ64_28, gQ64_29, gQ64_30, gQ64_31, gQ64_34, gQ64_35, gQ64_36, gQ64_39, gQ64_40, gQ64_41, gQ64_43, gQ64_44, gQ64_48, gQ64_50, gQ64_51, gQ64_52, gQ64_53, gQ64_54, gQ64_58, gQ64_59, gI30, gJ30, pI30, pJ30, rC30, gI31, gJ31, pI31, pJ31, rC31, gI33, gJ33, pI33, pJ33, rC33, gI36, gJ36, pI36, pJ36, rC36, gI39, gJ39, pI39, pJ39, rC39, gI48, gJ48, pI48, pJ48, rC48, gI51, gJ51, pI51, pJ51, rC51, gI53, gJ53, pI53, pJ53, rC53, gI60, gJ60, pI60, pJ60, rC60, gI64, gJ64, pI64, pJ64, rC64, hF, u1, gQ_e (K51 hF1), u2, u3, hF2, u4, hF3, hF4, p33, b1]
    rw [hm]
    exact d1
  · refine (fr.thn b2.fa ?_).thn d2'.fa ?_
    · intro y hy
      simp only [List.mem_cons, List.not_mem_nil, or_false] at hy ⊢
      omega
    · intro y hy
      simp only [List.mem_cons, List.not_mem_nil, or_false] at hy ⊢
      omega
  · exact d2'.fix hF5 (by intro z hz; simp only [List.mem_cons, List.not_mem_nil, or_false] at hz; omega)
  · have := d2'.C; have := b2.C; rw [hC_sI] at this; omega
  · have := d2'.S; have := b2.S; rw [hS_sI] at this; omega
/-- the reference -/
def WM (h : Hp) (S : (Nat → Nat) × (Nat → Nat) × Nat) : Prop := MET h (fun c => decide (S.1 c ≠ 0)) ∧ (∀ i, i < S.2.2 → hI h 90 i = nI (S.2.1 i)) ∧ hI h 64 55 = nI S.2.2
theorem w_283 {h : Hp} {k27 : Option Nat → Int32 → Hp → Option Hp} {k37 : Option Nat → Int32 → Int32 → Hp → Option Hp} {i A c : Nat} (hF : Fix h) (hE : NowE h E) (hW : WF E) (hq : hI h 90 i = nI c) (hi : i < 100) (hc : c < 100) (hA : A < 4) :
    b_283_42 k27 k37 (some 64) (nI i) (nI A) h = if wkB E (tgt (c + 1) A) = true then b_283_112 k27 k37 (some 64) (nI i) (nI A) (zI (tgt (c + 1) A).1) (zI (tgt (c + 1) A).2) h else b_283_184 k27 k37 (some 64) (nI i) (nI A) h := by
  have tb := tgt_bd (pl := c + 1) (A := A) (by omega)
  have z1 : (zI (tgt (c + 1) A).1).toInt = (tgt (c + 1) A).1 := zI_toInt (by omega) (by omega)
  have z2 : (zI (tgt (c + 1) A).2).toInt = (tgt (c + 1) A).2 := zI_toInt (by omega) (by omega)
  have e255 := s_255 (x := zI (tgt (c + 1) A).1) (y := zI (tgt (c + 1) A).2) hF hE ⟨hW.1, hW.2.1⟩
  rw [z1, z2] at e255
  have e255 : f_255 (some 64) (zI (tgt (c + 1) A).1) (zI (tgt (c + 1) A).2) h = some (bI (wkB E (tgt (c + 1) A)), h) := e255
  have eX : nI (c % 10) + zI (stX A) = zI (tgt (c + 1) A).1 := by rw [nz, zI_add]; rfl
  have eY : nI (c / 10) + zI (stY A) = zI (tgt (c + 1) A).2 := by rw [nz, zI_add]; rfl
  have e99 : b_283_99 k27 k37 (some 64) (nI i) (nI A) (zI (tgt (c + 1) A).1) (nI (c / 10)) (zI (stY A)) h = if wkB E (tgt (c + 1) A) = true then b_283_112 k27 k37 (some 64) (nI i) (nI A) (zI (tgt (c + 1) A).1) (zI (tgt (c + 1) A).2) h else b_283_184 k27 k37 (some 64) (nI i) (nI A) h := by
    rw [b_283_99]
    simp (disch := first | assumption | (repeat' (first | apply fx_sI | apply fx_sJ | assumption | omega))) only [bnd_e, grd_e, grd0, grd1, Option.bind_some, Option.isSome_some, gQ30_0, gQ30_1, gQ30_2, gQ30_3, gQ30_4, gQ30_5, gQ30_6, gQ30_7, gQ30_8, gQ30_9, gQ31_0, gQ33_0, gQ33_1, gQ36_0, gQ36_1, gQ39_0, gQ39_3, gQ39_4, gQ39_6, gQ39_8, gQ39_10, gQ39_11, gQ39_12, gQ48_0, gQ48_1, gQ51_2, gQ53_0, gQ53_1, gQ60_0, gQ60_1, gQ60_2, gQ64_1, gQ64_14, gQ64_15, gQ64_16, gQ64_17, gQ64_18, gQ64_19, gQ64_20, gQ64_21, gQ64_24, gQ64_25, gQ64_27, gQ64_28, gQ64_29, gQ64_30, gQ64_31, gQ64_34, gQ64_35, gQ64_36, gQ64_39, gQ64_40, gQ64_41, gQ64_43, gQ64_44, gQ64_48, gQ64_50, gQ64_51, gQ64_52, gQ64_53, gQ64_54, gQ64_58, gQ64_59, gI30, gJ30, pI30, pJ30, rC30, gI31, gJ31, pI31, pJ31, rC31, gI33, gJ33, pI33, pJ33, rC33, gI36, gJ36, pI36, pJ36, rC36, gI39, gJ39, pI39, pJ39, rC39, gI48, gJ48, pI48, pJ48, rC48, gI51, gJ51, pI51, pJ51, rC51, gI53, gJ53, pI53, pJ53, rC53, gI60, gJ60, pI60, pJ60, rC60, gI64, gJ64, pI64, pJ64, rC64, hF, eY, e255, bI_0']
    cases wkB E (tgt (c + 1) A) <;> rfl
  rw [← e99, ← eX]
  obtain ⟨x0, x1, x2, x3, y0, y1, y2, y3⟩ := stf
  obtain ⟨n01, n02, n03, n12, n10, n21, n23, n31, n32, n30⟩ := nff
  rw [b_283_42]
  simp (disch := first | assumption | (repeat' (first | apply fx_sI | apply fx_sJ | assumption | omega))) only [bnd_e, grd_e, grd0, grd1, Option.bind_some, Option.isSome_some, gQ30_0, gQ30_1, gQ30_2, gQ30_3, gQ30_4, gQ30_5, gQ30_6, gQ30_7, gQ30_8, gQ30_9, gQ31_0, gQ33_0, gQ33_1, gQ36_0, gQ36_1, gQ39_0, gQ39_3, gQ39_4, gQ39_6, gQ39_8, gQ39_10, gQ39_11, gQ39_12, gQ48_0, gQ48_1, gQ51_2, gQ53_0, gQ53_1, gQ60_0, gQ60_1, gQ60_2, gQ64_1, gQ64_14, gQ64_15, gQ64_16, gQ64_17, gQ64_18, gQ64_19, gQ64_20, gQ64_21, gQ64_24, gQ64_25, gQ64_27, gQ64_28, gQ64_29, gQ64_30, gQ64_31, gQ64_34, gQ64_35, gQ64_36, gQ64_39, gQ64_40, gQ64_41, gQ64_43, gQ64_44, gQ64_48, gQ64_50, gQ64_51, gQ64_52, gQ64_53, gQ64_54, gQ64_58, gQ64_59, gI30, gJ30, pI30, pJ30, rC30, gI31, gJ31, pI31, pJ31, rC31, gI33, gJ33, pI33, pJ33, rC33, gI36, gJ36, pI36, pJ36, rC36, gI39, gJ39, pI39, pJ39, rC39, gI48, gJ48, pI48, pJ48, rC48, gI51, gJ51, pI51, pJ51, rC51, gI53, gJ53, pI53, pJ53, rC53, gI60, gJ60, pI60, pJ60, rC60, gI64, gJ64, pI64, pJ64, rC64, aI27, aL27, aI28, aL28, aI32, wI32, aL32, aI34, wI34, aL34, aI35, wI35, aL35, aI37, wI37, aL37, aI38, wI38, aL38, aJ40, wJ40, aL40, aI41, wI41, aL41, aI42, wI42, aL42, aI43, wI43, aL43, aI44, wI44, aL44, aI45, wI45, aL45, aI46, wI46, aL46, aI47, wI47, aL47, aI49, wI49, aL49, aI50, wI50, aL50, aI52, wI52, aL52, aI54, wI54, aL54, aI55, wI55, aL55, aL56, aL57, aL58, aI59, wI59, aL59, aI61, wI61, aL61, aL62, aI63, wI63, aL63, aI65, wI65, aL65, aI66, wI66, aL66, aI67, wI67, aL67, aI68, wI68, aL68, aI69, wI69, aL69, aJ70, wJ70, aL70, aJ71, wJ71, aL71, aJ72, wJ72, aL72, aZ73, wZ73, aL73, aI74, wI74, aL74, aI75, wI75, aL75, aJ76, wJ76, aL76, aJ77, wJ77, aL77, aI78, wI78, aL78, aI79, wI79, aL79, aI80, wI80, aL80, aI81, wI81, aL81, aI82, wI82, aL82, aI83, wI83, aL83, aI84, wI84, aL84, aI85, wI85, aL85, aI86, wI86, aL86, aI87, wI87, aL87, aI88, wI88, aL88, aI89, wI89, aL89, aI90, wI90, aL90, aI91, wI91, aL91, aI92, wI92, aL92, aI93, wI93, aL93, aI94, wI94, aL94, aZ95, wZ95, aL95, aI96, wI96, aL96, aJ97, wJ97, aL97, hF, hq, d10, ↓pk_rem]
  have e70 : ∀ s0 s1 : Int32, b_283_70 k27 k37 (some 64) (nI i) (nI A) s0 s1 h = if ¬ nI A = nI 2 then b_283_90 k27 k37 (some 64) (nI i) (nI A) (s0 + s1) (nI (c / 10)) h else b_283_86 k27 k37 (some 64) (nI i) (nI A) (s0 + s1) (nI (c / 10)) h := by
    intro s0 s1
    rw [b_283_70]
    simp (disch := first | assumption | (repeat' (first | apply fx_sI | apply fx_sJ | assumption | omega))) only [bnd_e, grd_e, grd0, grd1, Option.bind_some, Option.isSome_some, gQ30_0, gQ30_1, gQ30_2, gQ30_3, gQ30_4, gQ30_5, gQ30_6, gQ30_7, gQ30_8, gQ30_9, gQ31_0, gQ33_0, gQ33_1, gQ36_0, gQ36_1, gQ39_0, gQ39_3, gQ39_4, gQ39_6, gQ39_8, gQ39_10, gQ39_11, gQ39_12, gQ48_0, gQ48_1, gQ51_2, gQ53_0, gQ53_1, gQ60_0, gQ60_1, gQ60_2, gQ64_1, gQ64_14, gQ64_15, gQ64_16, gQ64_17, gQ64_18, gQ64_19, gQ64_20, gQ64_21, gQ64_24, gQ64_25, gQ64_27, gQ64_28, gQ64_29, gQ64_30, gQ64_31, gQ64_34, gQ64_35, gQ64_36, gQ64_39, gQ64_40, gQ64_41, gQ64_43, gQ64_44, gQ64_48, gQ64_50, gQ64_51, gQ64_52, gQ64_53, gQ64_54, gQ64_58, gQ64_59, gI30, gJ30, pI30, pJ30, rC30, gI31, gJ31, pI31, pJ31, rC31, gI33, gJ33, pI33, pJ33, rC33, gI36, gJ36, pI36, pJ36, rC36, gI39, gJ39, pI39, pJ39, rC39, gI48, gJ48, pI48, pJ48, rC48, gI51, gJ51, pI51, pJ51, rC51, gI53, gJ53, pI53, pJ53, rC53, gI60, gJ60, pI60, pJ60, rC60, gI64, gJ64, pI64, pJ64, rC64, aI27, aL27, aI28, aL28, aI32, wI32, aL32, aI34, wI34, aL34, aI35, wI35, aL35, aI37, wI37, aL37, aI38, wI38, aL38, aJ40, wJ40, aL40, aI41, wI41, aL41, aI42, wI42, aL42, aI43, wI43, aL43, aI44, wI44, aL44, aI45, wI45, aL45, aI46, wI46, aL46, aI47, wI47, aL47, aI49, wI49, aL49, aI50, wI50, aL50, aI52, wI52, aL52, aI54, wI54, aL54, aI55, wI55, aL55, aL56, aL57, aL58, aI59, wI59, aL59, aI61, wI61, aL61, aL62, aI63, wI63, aL63, aI65, wI65, aL65, aI66, wI66, aL66, aI67, wI67, aL67, aI68, wI68, aL68, aI69, wI69, aL69, aJ70, wJ70, aL70, aJ71, wJ71, aL71, aJ72, wJ72, aL72, aZ73, wZ73, aL73, aI74, wI74, aL74, aI75, wI75, aL75, aJ76, wJ76, aL76, aJ77, wJ77, aL77, aI78, wI78, aL78, aI79, wI79, aL79, aI80, wI80, aL80, aI81, wI81, aL81, aI82, wI82, aL82, aI83, wI83, aL83, aI84, wI84, aL84, aI85, wI85, aL85, aI86, wI86, aL86, aI87, wI87, aL87, aI88, wI88, aL88, aI89, wI89, aL89, aI90, wI90, aL90, aI91, wI91, aL91, aI92, wI92, aL92, aI93, wI93, aL93, aI94, wI94, aL94, aZ95, wZ95, aL95, aI96, wI96, aL96, aJ97, wJ97, aL97, hF, hq, d10, pk_div]
  rcases (show A = 0 ∨ A = 1 ∨ A = 2 ∨ A = 3 by omega) with e | e | e | e <;> subst e
  · rw [if_pos n01, b_283_60, if_pos n03, b_283_69, e70, if_pos n02, b_283_90, if_neg (fun z => z rfl), b_283_94, x0, y0]
  · rw [if_neg (fun z => z rfl), b_283_56, e70, if_pos n12, b_283_90, if_pos n10, b_283_98, x1, y1]
  · rw [if_pos n21, b_283_60, if_pos n23, b_283_69, e70, if_neg (fun z => z rfl), b_283_86, x2, y2]
  · rw [if_pos n31, b_283_60, if_neg (fun z => z rfl), b_283_65, e70, if_pos n32, b_283_90, if_pos n30, b_283_98, x3, y3]
theorem l_283i (hW : WF E) {pl0 c i : Nat} {k27 : Option Nat → Int32 → Hp → Option Hp} (hc : c < 100) : ∀ r A m h (S : (Nat → Nat) × (Nat → Nat) × Nat), A + r = 4 → Fix h → MS h E an pl0 → WM h S → WQ S → i < S.2.2 → S.2.1 i = c →
    ∃ g, l_283_37 k27 (r + 1 + m) (some 64) (nI i) (nI A) h = k27 (some 64) (nI (i + 1)) g ∧ Fz [90, 95, 56000064] h g ∧ WM g (exW E an c r A S) := by
  intro r
  induction r with
  | zero =>
    intro A m h S hA hF hM hB hQ hi hs
    obtain rfl : A = 4 := by omega
    refine ⟨h, ?_, Fz.rfl', hB⟩
    rw [show 0 + 1 + m = m + 1 by omega, l_283_37, b_283_37, if_pos (Int32.le_refl _), b_283_190, bnd_e, nI_add]
  | succ r ih =>
    intro A m h S hA hF hM hB hQ hi hs
    have es : exW E an c (r + 1) A S = exW E an c r (A + 1) (if stepK E an (c + 1) A = 0 then seeS S (cN (tgt (c + 1) A)) 1 else S) := rfl
    have ql := hQ.le
    obtain ⟨hE, h7, h45, h8⟩ := id hM
    obtain ⟨q1, q2, q3⟩ := id hB
    rw [es, show r + 1 + 1 + m = (r + 1 + m) + 1 by omega, l_283_37, b_283_37, if_neg (by rw [nI_leI (by omega) (by omega)]; omega), w_283 (c := c) hF hE hW (by rw [q2 i hi, hs]) (by omega) hc (by omega)]
    have skip : stepK E an (c + 1) A ≠ 0 → ∃ g, b_283_184 k27 (l_283_37 k27 (r + 1 + m)) (some 64) (nI i) (nI A) h = k27 (some 64) (nI (i + 1)) g ∧ Fz [90, 95, 56000064] h g ∧ WM g (exW E an c r (A + 1) (if stepK E an (c + 1) A = 0 then seeS S (cN (tgt (c + 1) A)) 1 else S)) := by
      intro k
      rw [if_neg k, b_283_184, bnd_e, nI_add]
      exact ih (A + 1) m h S (by omega) hF hM hB hQ hi hs
    cases wk : wkB E (tgt (c + 1) A)
    · rw [if_neg (by decide)]
      exact skip (by unfold stepK; rw [wk, if_pos rfl]; omega)
    · rw [if_pos rfl, b_283_112]
      have b := wkB_in ⟨hW.1, hW.2.1⟩ wk
      have ec : nI 10 * zI (tgt (c + 1) A).2 + zI (tgt (c + 1) A).1 = nI (cN (tgt (c + 1) A)) := zI_cN b
      have cl : cN (tgt (c + 1) A) < 100 := cN_lt (x := (tgt (c + 1) A).1) (y := (tgt (c + 1) A).2) b
      have b1 := lonV_le (E := E) (an := an) (cN (tgt (c + 1) A)) (E 2)
      have w2 := hW.2.2.1
      have ks : stepK E an (c + 1) A = if lonV E an (E 2) (cN (tgt (c + 1) A)) = 0 then 0 else 3 := by
        unfold stepK
        rw [wk, if_neg (by decide), leafB_e]
        by_cases c0 : lonV E an (E 2) (cN (tgt (c + 1) A)) = 0
        · rw [if_pos c0, decide_eq_false (fun z => z c0)]; rfl
        · rw [if_neg c0, decide_eq_true c0]; rfl
      simp (disch := first | assumption | (repeat' (first | apply fx_sI | apply fx_sJ | assumption | omega))) only [bnd_e, grd_e, grd0, grd1, Option.bind_some, Option.isSome_some, gQ30_0, gQ30_1, gQ30_2, gQ30_3, gQ30_4, gQ30_5, gQ30_6, gQ30_7, gQ30_8, gQ30_9, gQ31_0, gQ33_0, gQ33_1, gQ36_0, gQ36_1, gQ39_0, gQ39_3, gQ39_4, gQ39_6, gQ39_8, gQ39_10, gQ39_11, gQ39_12, gQ48_0, gQ48_1, gQ51_2, gQ53_0, gQ53_1, gQ60_0, gQ60_1, gQ60_2, gQ64_1, gQ64_14, gQ64_15, gQ64_16, gQ64_17, gQ64_18, gQ64_19, gQ64_20, gQ64_21, gQ64_24, gQ64_25, gQ64_27, gQ64_28, gQ64_29, gQ64_30, gQ64_31, gQ64_34, gQ64_35, gQ64_36, gQ64_39, gQ64_40, gQ64_41, gQ64_43, gQ64_44, gQ64_48, gQ64_50, gQ64_51, gQ64_52, gQ64_53, gQ64_54, gQ64_58, gQ64_59, gI30, gJ30, pI30, pJ30, rC30, gI31, gJ31, pI31, pJ31, rC31, gI33, gJ33, pI33, pJ33, rC33, gI36, gJ36, pI36, pJ36, rC36, gI39, gJ39, pI39, pJ39, rC39, gI48, gJ48, pI48, pJ48, rC48, gI51, gJ51, pI51, pJ51, rC51, gI53, gJ53, pI53, pJ53, rC53, gI60, gJ60, pI60, pJ60, rC60, gI64, gJ64, pI64, pJ64, rC64, aI27, aL27, aI28, aL28, aI32, wI32, aL32, aI34, wI34, aL34, aI35, wI35, aL35, aI37, wI37, aL37, aI38, wI38, aL38, aJ40, wJ40, aL40, aI41, wI41, aL41, aI42, wI42, aL42, aI43, wI43, aL43, aI44, wI44, aL44, aI45, wI45, aL45, aI46, wI46, aL46, aI47, wI47, aL47, aI49, wI49, aL49, aI50, wI50, aL50, aI52, wI52, aL52, aI54, wI54, aL54, aI55, wI55, aL55, aL56, aL57, aL58, aI59, wI59, aL59, aI61, wI61, aL61, aL62, aI63, wI63, aL63, aI65, wI65, aL65, aI66, wI66, aL66, aI67, wI67, aL67, aI68, wI68, aL68, aI69, wI69, aL69, aJ70, wJ70, aL70, aJ71, wJ71, aL71, aJ72, wJ72, aL72, aZ73, wZ73, aL73, aI74, wI74, aL74, aI75, wI75, aL75, aJ76, wJ76, aL76, aJ77, wJ77, aL77, aI78, wI78, aL78, aI79, wI79, aL79, aI80, wI80, aL80, aI81, wI81, aL81, aI82, wI82, aL82, aI83, wI83, aL83, aI84, wI84, aL84, aI85, wI85, aL85, aI86, wI86, aL86, aI87, wI87, aL87, aI88, wI88, aL88, aI89, wI89, aL89, aI90, wI90, aL90, aI91, wI91, aL91, aI92, wI92, aL92, aI93, wI93, aL93, aI94, wI94, aL94, aZ95, wZ95, aL95, aI96, wI96, aL96, aJ97, wJ97, aL97, hF, ec, h8 _ cl, nI_eq0 (show lonV E an (E 2) (cN (tgt (c + 1) A)) < 2147483648 by omega)]
      by_cases c0 : lonV E an (E 2) (cN (tgt (c + 1) A)) = 0
      · have k : stepK E an (c + 1) A = 0 := by rw [ks, if_pos c0]
        rw [if_pos k, if_neg (fun z => z c0), b_283_127]
        generalize hx : cN (tgt (c + 1) A) = x at *
        simp (disch := first | assumption | (repeat' (first | apply fx_sI | apply fx_sJ | assumption | omega))) only [bnd_e, grd_e, grd0, grd1, Option.bind_some, Option.isSome_some, gQ30_0, gQ30_1, gQ30_2, gQ30_3, gQ30_4, gQ30_5, gQ30_6, gQ30_7, gQ30_8, gQ30_9, gQ31_0, gQ33_0, gQ33_1, gQ36_0, gQ36_1, gQ39_0, gQ39_3, gQ39_4, gQ39_6, gQ39_8, gQ39_10, gQ39_11, gQ39_12, gQ48_0, gQ48_1, gQ51_2, gQ53_0, gQ53_1, gQ60_0, gQ60_1, gQ60_2, gQ64_1, gQ64_14, gQ64_15, gQ64_16, gQ64_17, gQ64_18, gQ64_19, gQ64_20, gQ64_21, gQ64_24, gQ64_25, gQ64_27, gQ64_28, gQ64_29, gQ64_30, gQ64_31, gQ64_34, gQ64_35, gQ64_36, gQ64_39, gQ64_40, gQ64_41, gQ64_43, gQ64_44, gQ64_48, gQ64_50, gQ64_51, gQ64_52, gQ64_53, gQ64_54, gQ64_58, gQ64_59, gI30, gJ30, pI30, pJ30, rC30, gI31, gJ31, pI31, pJ31, rC31, gI33, gJ33, pI33, pJ33, rC33, gI36, gJ36, pI36, pJ36, rC36, gI39, gJ39, pI39, pJ39, rC39, gI48, gJ48, pI48, pJ48, rC48, gI51, gJ51, pI51, pJ51, rC51, gI53, gJ53, pI53, pJ53, rC53, gI60, gJ60, pI60, pJ60, rC60, gI64, gJ64, pI64, pJ64, rC64, aI27, aL27, aI28, aL28, aI32, wI32, aL32, aI34, wI34, aL34, aI35, wI35, aL35, aI37, wI37, aL37, aI38, wI38, aL38, aJ40, wJ40, aL40, aI41, wI41, aL41, aI42, wI42, aL42, aI43, wI43, aL43, aI44, wI44, aL44, aI45, wI45, aL45, aI46, wI46, aL46, aI47, wI47, aL47, aI49, wI49, aL49, aI50, wI50, aL50, aI52, wI52, aL52, aI54, wI54, aL54, aI55, wI55, aL55, aL56, aL57, aL58, aI59, wI59, aL59, aI61, wI61, aL61, aL62, aI63, wI63, aL63, aI65, wI65, aL65, aI66, wI66, aL66, aI67, wI67, aL67, aI68, wI68, aL68, aI69, wI69, aL69, aJ70, wJ70, aL70, aJ71, wJ71, aL71, aJ72, wJ72, aL72, aZ73, wZ73, aL73, aI74, wI74, aL74, aI75, wI75, aL75, aJ76, wJ76, aL76, aJ77, wJ77, aL77, aI78, wI78, aL78, aI79, wI79, aL79, aI80, wI80, aL80, aI81, wI81, aL81, aI82, wI82, aL82, aI83, wI83, aL83, aI84, wI84, aL84, aI85, wI85, aL85, aI86, wI86, aL86, aI87, wI87, aL87, aI88, wI88, aL88, aI89, wI89, aL89, aI90, wI90, aL90, aI91, wI91, aL91, aI92, wI92, aL92, aI93, wI93, aL93, aI94, wI94, aL94, aZ95, wZ95, aL95, aI96, wI96, aL96, aJ97, wJ97, aL97, hF, ec, q1 x cl, bI_0']
        by_cases c1 : S.1 x = 0
        · have ss : seeS S x 1 = (upn S.1 x 1, upn S.2.1 S.2.2 x, S.2.2 + 1) := by unfold seeS; rw [if_pos c1]
          have rm := hQ.rm cl c1
          rw [decide_eq_false (fun z => z c1), if_pos rfl, b_283_145]
          generalize e1 : sI h 95 x (nI 1) = g1
          generalize e2 : sI g1 90 S.2.2 (nI x) = g2
          generalize e3 : sI g2 64 55 (nI (S.2.2 + 1)) = g3
          have F1 : Fix g1 := by rw [← e1]; exact fx_sI hF (by omega)
          have F2 : Fix g2 := by rw [← e2]; exact fx_sI F1 (by omega)
          have F3 : Fix g3 := by rw [← e3]; exact fx_sI F2 (by omega)
          have z3 : Fz [90, 95, 56000064] h g3 := by
            rw [← e3, ← e2, ← e1]
            exact Fz.sI (Fz.sI (Fz.sI Fz.rfl' (Or.inl (by simp))) (Or.inl (by simp))) (Or.inr (by simp))
          have i1 : hI g1 64 55 = nI S.2.2 := by rw [← e1, hI_sI, if_neg (by omega)]; exact q3
          have i2 : hI g2 64 55 = nI S.2.2 := by rw [← e2, hI_sI, if_neg (by omega)]; exact i1
          have hM3 : MS g3 E an pl0 := hM.cg (z3.I (a := 66) (by decide)) (z3.I (a := 87) (by decide)) (z3.I1 (by decide) (by decide)) (z3.I (a := 88) (by decide))
          have hB3 : WM g3 (seeS S x 1) := by
            rw [ss]
            refine ⟨fun y hy => ?_, fun j hj => ?_, by rw [← e3, hI_sI, if_pos ⟨rfl, rfl⟩]⟩
            · rw [← e3, hI_sI, if_neg (by omega), ← e2, hI_sI, if_neg (by omega), ← e1, q1.set y hy]
              show bI _ = bI (decide (upn S.1 x 1 y ≠ 0))
              congr 1
              unfold upn
              by_cases f : y = x
              · simp [f]
              · simp [f]
            · have hj : j < S.2.2 + 1 := hj
              show hI g3 90 j = nI (upn S.2.1 S.2.2 x j)
              rw [← e3, hI_sI, if_neg (by omega), ← e2, hI_sI]
              unfold upn
              by_cases f : j = S.2.2
              · rw [if_pos ⟨rfl, f⟩, if_pos f]
              · rw [if_neg (fun z => f z.2), if_neg f, ← e1, hI_sI, if_neg (by omega)]
                exact q2 j (by omega)
          have m' := see_mono (S := S) x 1
          obtain ⟨g, g1', g2', g3'⟩ := ih (A + 1) m g3 _ (by omega) F3 hM3 hB3 (hQ.see cl) (by omega) (by rw [m'.2 i hi]; exact hs)
          refine ⟨g, ?_, z3.then g2', g3'⟩
          have w1 : wZ (some 95) (nI x) (nI 1) h = some g1 := by rw [wZ_e (K95 hF) (by omega) (by rw [L95 hF]; omega) (by omega), nI1a, e1]
          have w2 : wI (some 90) (nI S.2.2) (nI x) g1 = some g2 := by rw [wI_n (K90 F1) (by omega) (L90 F1) (show S.2.2 < 24300 by omega) (by omega), e2]
          simp (disch := first | assumption | (repeat' (first | apply fx_sI | apply fx_sJ | assumption | omega))) only [bnd_e, grd_e, grd0, grd1, Option.bind_some, Option.isSome_some, gQ30_0, gQ30_1, gQ30_2, gQ30_3, gQ30_4, gQ30_5, gQ30_6, gQ30_7, gQ30_8, gQ30_9, gQ31_0, gQ33_0, gQ33_1, gQ36_0, gQ36_1, gQ39_0, gQ39_3, gQ39_4, gQ39_6, gQ39_8, gQ39_10, gQ39_11, gQ39_12, gQ48_0, gQ48_1, gQ51_2, gQ53_0, gQ53_1, gQ60_0, gQ60_1, gQ60_2, gQ64_1, gQ64_14, gQ64_15, gQ64_16, gQ64_17, gQ64_18, gQ64_19, gQ64_20, gQ64_21, gQ64_24, gQ64_25, gQ64_27, gQ64_28, gQ64_29, gQ64_30, gQ64_31, gQ64_34, gQ64_35, gQ64_36, gQ64_39, gQ64_40, gQ64_41, gQ64_43, gQ64_44, gQ64_48, gQ64_50, gQ64_51, gQ64_52, gQ64_53, gQ64_54, gQ64_58, gQ64_59, gI30, gJ30, pI30, pJ30, rC30, gI31, gJ31, pI31, pJ31, rC31, gI33, gJ33, pI33, pJ33, rC33, gI36, gJ36, pI36, pJ36, rC36, gI39, gJ39, pI39, pJ39, rC39, gI48, gJ48, pI48, pJ48, rC48, gI51, gJ51, pI51, pJ51, rC51, gI53, gJ53, pI53, pJ53, rC53, gI60, gJ60, pI60, pJ60, rC60, gI64, gJ64, pI64, pJ64, rC64, hF, ec, w1, F1, i1, w2, F2, i2, nI_add, e3]
          rw [b_283_184, bnd_e, nI_add]
          exact g1'
        · have ss : seeS S x 1 = S := by unfold seeS; rw [if_neg c1]
          rw [decide_eq_true c1, if_neg (by decide), b_283_142, b_283_184, bnd_e, nI_add, ss]
          exact ih (A + 1) m h S (by omega) hF hM hB hQ hi hs
      · rw [if_pos c0]
        exact skip (by rw [ks, if_neg c0]; omega)
theorem l_283o (hW : WF E) {pl0 : Nat} : ∀ r i m h (S : (Nat → Nat) × (Nat → Nat) × Nat), i + r = 100 → Fix h → MS h E an pl0 → WM h S → WQ S →
    ∃ g, l_283_27 (r + 1 + m) (some 64) (nI i) h = some g ∧ Fz [90, 95, 56000064] h g ∧ WM g (bfW E an (r + 1) i S) := by
  intro r
  induction r with
  | zero =>
    intro i m h S hi hF hM hB hQ
    have ql := hQ.le
    have es : bfW E an (0 + 1) i S = S := by show (if S.2.2 ≤ i then S else _) = S; rw [if_pos (by omega)]
    refine ⟨h, ?_, Fz.rfl', by rw [es]; exact hB⟩
    rw [show 0 + 1 + m = m + 1 by omega, l_283_27, b_283_27]
    simp (disch := first | assumption | (repeat' (first | apply fx_sI | apply fx_sJ | assumption | omega))) only [bnd_e, grd_e, grd0, grd1, Option.bind_some, Option.isSome_some, gQ30_0, gQ30_1, gQ30_2, gQ30_3, gQ30_4, gQ30_5, gQ30_6, gQ30_7, gQ30_8, gQ30_9, gQ31_0, gQ33_0, gQ33_1, gQ36_0, gQ36_1, gQ39_0, gQ39_3, gQ39_4, gQ39_6, gQ39_8, gQ39_10, gQ39_11, gQ39_12, gQ48_0, gQ48_1, gQ51_2, gQ53_0, gQ53_1, gQ60_0, gQ60_1, gQ60_2, gQ64_1, gQ64_14, gQ64_15, gQ64_16, gQ64_17, gQ64_18, gQ64_19, gQ64_20, gQ64_21, gQ64_24, gQ64_25, gQ64_27, gQ64_28, gQ64_29, gQ64_30, gQ64_31, gQ64_34, gQ64_35, gQ64_36, gQ64_39, gQ64_40, gQ64_41, gQ64_43, gQ64_44, gQ64_48, gQ64_50, gQ64_51, gQ64_52, gQ64_53, gQ64_54, gQ64_58, gQ64_59, gI30, gJ30, pI30, pJ30, rC30, gI31, gJ31, pI31, pJ31, rC31, gI33, gJ33, pI33, pJ33, rC33, gI36, gJ36, pI36, pJ36, rC36, gI39, gJ39, pI39, pJ39, rC39, gI48, gJ48, pI48, pJ48, rC48, gI51, gJ51, pI51, pJ51, rC51, gI53, gJ53, pI53, pJ53, rC53, gI60, gJ60, pI60, pJ60, rC60, gI64, gJ64, pI64, pJ64, rC64, hF, hB.2.2, nI_leI, show S.2.2 ≤ i by omega, if_true]
    rw [b_283_196]
  | succ r ih =>
    intro i m h S hi hF hM hB hQ
    have ql := hQ.le
    have es : bfW E an (r + 1 + 1) i S = if S.2.2 ≤ i then S else bfW E an (r + 1) (i + 1) (exW E an (S.2.1 i) 4 0 S) := rfl
    rw [es, show r + 1 + 1 + m = (r + 1 + m) + 1 by omega, l_283_27, b_283_27]
    simp (disch := first | assumption | (repeat' (first | apply fx_sI | apply fx_sJ | assumption | omega))) only [bnd_e, grd_e, grd0, grd1, Option.bind_some, Option.isSome_some, gQ30_0, gQ30_1, gQ30_2, gQ30_3, gQ30_4, gQ30_5, gQ30_6, gQ30_7, gQ30_8, gQ30_9, gQ31_0, gQ33_0, gQ33_1, gQ36_0, gQ36_1, gQ39_0, gQ39_3, gQ39_4, gQ39_6, gQ39_8, gQ39_10, gQ39_11, gQ39_12, gQ48_0, gQ48_1, gQ51_2, gQ53_0, gQ53_1, gQ60_0, gQ60_1, gQ60_2, gQ64_1, gQ64_14, gQ64_15, gQ64_16, gQ64_17, gQ64_18, gQ64_19, gQ64_20, gQ64_21, gQ64_24, gQ64_25, gQ64_27, gQ64_28, gQ64_29, gQ64_30, gQ64_31, gQ64_34, gQ64_35, gQ64_36, gQ64_39, gQ64_40, gQ64_41, gQ64_43, gQ64_44, gQ64_48, gQ64_50, gQ64_51, gQ64_52, gQ64_53, gQ64_54, gQ64_58, gQ64_59, gI30, gJ30, pI30, pJ30, rC30, gI31, gJ31, pI31, pJ31, rC31, gI33, gJ33, pI33, pJ33, rC33, gI36, gJ36, pI36, pJ36, rC36, gI39, gJ39, pI39, pJ39, rC39, gI48, gJ48, pI48, pJ48, rC48, gI51, gJ51, pI51, pJ51, rC51, gI53, gJ53, pI53, pJ53, rC53, gI60, gJ60, pI60, pJ60, rC60, gI64, gJ64, pI64, pJ64, rC64, hF, hB.2.2, nI_leI]
    by_cases c1 : S.2.2 ≤ i
    · rw [if_pos c1, if_pos c1]
      exact ⟨h, rfl, Fz.rfl', hB⟩
    · rw [if_neg c1, if_neg c1, b_283_35, bnd_e]
      obtain ⟨m2, hm2⟩ := FU_ge (4 + 1) (by omega)
      have qc := hQ.1 i (by omega)
      obtain ⟨k1, b1, b2, b3⟩ := l_283i (i := i) (c := S.2.1 i) (k27 := l_283_27 (r + 1 + m)) hW qc 4 0 m2 h S (by omega) hF hM hB hQ (by omega) rfl
      have hM1 : MS k1 E an pl0 := hM.cg (b2.I (a := 66) (by decide)) (b2.I (a := 87) (by decide)) (b2.I1 (by decide) (by decide)) (b2.I (a := 88) (by decide))
      obtain ⟨g, d1, d2', d3'⟩ := ih (i + 1) m k1 _ (by omega) (b2.fix hF (by decide)) hM1 b3 (hQ.ex hW 4 0 S).1
      refine ⟨g, ?_, b2.then d2', d3'⟩
      rw [hm2, b1]
      exact d1
theorem s_283 {h : Hp} (hF : Fix h) (hM : MS h E (anE E) (E 340)) (hm0 : MET h (fun _ => false)) (hW : WF E) (hp : E 340 ≤ 100) (h0 : E 340 ≠ 0) :
    ∃ g, f_283 (some 64) h = some g ∧ Fz [90, 95, 56000064] h g ∧ WM g (wks E) := by
  have h45 := hM.2.2.1
  rw [mI_pos h0] at h45
  generalize hs : E 340 - 1 = s0 at h45
  generalize e1 : sI h 90 0 (nI s0) = g1
  generalize e2 : sI g1 64 55 (nI 1) = g2
  generalize e3 : sI g2 95 s0 (nI 1) = g3
  have F1 : Fix g1 := by rw [← e1]; exact fx_sI hF (by omega)
  have F2 : Fix g2 := by rw [← e2]; exact fx_sI F1 (by omega)
  have F3 : Fix g3 := by rw [← e3]; exact fx_sI F2 (by omega)
  have z3 : Fz [90, 95, 56000064] h g3 := by
    rw [← e3, ← e2, ← e1]
    exact Fz.sI (Fz.sI (Fz.sI Fz.rfl' (Or.inl (by simp))) (Or.inr (by simp))) (Or.inl (by simp))
  have hM3 : MS g3 E (anE E) (E 340) := hM.cg (z3.I (a := 66) (by decide)) (z3.I (a := 87) (by decide)) (z3.I1 (by decide) (by decide)) (z3.I (a := 88) (by decide))
  have m2 : MET g2 (fun _ => false) := fun c hc => by rw [← e2, hI_sI, if_neg (by omega), ← e1, hI_sI, if_neg (by omega)]; exact hm0 c hc
  have hB3 : WM g3 (seeS S00 s0 1) := by
    refine ⟨fun y hy => ?_, fun j hj => ?_, ?_⟩
    · rw [← e3, m2.set y hy]
      show bI _ = bI (decide (upn (fun _ => 0) s0 1 y ≠ 0))
      congr 1
      unfold upn
      by_cases f : y = s0
      · simp [f]
      · simp [f]
    · have hj : j < 1 := hj
      obtain rfl : j = 0 := by omega
      rw [← e3, hI_sI, if_neg (by omega), ← e2, hI_sI, if_neg (by omega), ← e1, hI_sI, if_pos ⟨rfl, rfl⟩]
      rfl
    · rw [← e3, hI_sI, if_neg (by omega), ← e2, hI_sI, if_pos ⟨rfl, rfl⟩]
      rfl
  obtain ⟨m, hm⟩ := FU_ge (100 + 1) (by omega)
  obtain ⟨g, d1, d2', d3'⟩ := l_283o hW 100 0 m g3 _ (by omega) F3 hM3 hB3 (WQ.one (by omega))
  refine ⟨g, ?_, z3.then d2', by unfold wks; rw [hs]; exact d3'⟩
  rw [f_283, b_283_0]
  have w1 : wI (some 90) (nI 0) (nI s0) h = some g1 := by rw [wI_n (K90 hF) (by omega) (L90 hF) (by omega) (by omega), e1]
  have w2 : wZ (some 95) (nI s0) (nI 1) g2 = some g3 := by rw [wZ_e (K95 F2) (by omega) (by rw [L95 F2]; omega) (by omega), nI1a, e3]
  have i2 : hI g2 64 45 = nI s0 := by rw [← e2, hI_sI, if_neg (by omega), ← e1, hI_sI, if_neg (by omega)]; exact h45
  simp (disch := first | assumption | (repeat' (first | apply fx_sI | apply fx_sJ | assumption | omega))) only [bnd_e, grd_e, grd0, grd1, Option.bind_some, Option.isSome_some, gQ30_0, gQ30_1, gQ30_2, gQ30_3, gQ30_4, gQ30_5, gQ30_6, gQ30_7, gQ30_8, gQ30_9, gQ31_0, gQ33_0, gQ33_1, gQ36_0, gQ36_1, gQ39_0, gQ39_3, gQ39_4, gQ39_6, gQ39_8, gQ39_10, gQ39_11, gQ39_12, gQ48_0, gQ48_1, gQ51_2, gQ53_0, gQ53_1, gQ60_0, gQ60_1, gQ60_2, gQ64_1, gQ64_14, gQ64_15, gQ64_16, gQ64_17, gQ64_18, gQ64_19, gQ64_20, gQ64_21, gQ64_24, gQ64_25, gQ64_27, gQ64_28, gQ64_29, gQ64_30, gQ64_31, gQ64_34, gQ64_35, gQ64_36, gQ64_39, gQ64_40, gQ64_41, gQ64_43, gQ64_44, gQ64_48, gQ64_50, gQ64_51, gQ64_52, gQ64_53, gQ64_54, gQ64_58, gQ64_59, gI30, gJ30, pI30, pJ30, rC30, gI31, gJ31, pI31, pJ31, rC31, gI33, gJ33, pI33, pJ33, rC33, gI36, gJ36, pI36, pJ36, rC36, gI39, gJ39, pI39, pJ39, rC39, gI48, gJ48, pI48, pJ48, rC48, gI51, gJ51, pI51, pJ51, rC51, gI53, gJ53, pI53, pJ53, rC53, gI60, gJ60, pI60, pJ60, rC60, gI64, gJ64, pI64, pJ64, rC64, hF, h45, w1, F1, e2, F2, i2, w2]
  rw [hm]
  exact d1
end STEPS
