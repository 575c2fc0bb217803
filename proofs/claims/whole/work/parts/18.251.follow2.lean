/-! the class follows its day -/
def tmD (E : Nat → Nat) (i : Nat) : Nat := if ow (E (342 + 2 * i)) (E (343 + 2 * i)) < 5 then E (343 + 2 * i) else 0
def DyR (τ : Nat → Nat) (h : Hp) (p : Nat) (E : Nat → Nat) : Prop := hK h p = 0 ∧ 30 ≤ p ∧ τ p = 1 ∧ ArT τ h p 0 12 60 ∧ ArT τ h p 1 12 60 ∧ hI h p 2 = nI (E 341) ∧ ∀ i, i < E 341 → hI h (rq h p 0) i = mI (ow (E (342 + 2 * i)) (E (343 + 2 * i))) ∧ hI h (rq h p 1) i = nI (tmD E i)
def PlR (τ : Nat → Nat) (h : Hp) (E : Nat → Nat) : Prop := (hQ h 30 11 = none ∧ E 341 = 0) ∨ (hQ h 30 11 = some (rq h 30 11) ∧ DyR τ h (rq h 30 11) E)
section FW
variable {τ : Nat → Nat} {s : Nat} {E : Nat → Nat}
theorem DyR.cg {h g : Hp} {p : Nat} (hH : DyR τ h p E) (hK' : hK g = hK h) (hL' : hL g = hL h) (hQ' : hQ g = hQ h) (ht : ∀ p, τ p = 1 → hI g p = hI h p ∧ hJ g p = hJ h p) : DyR τ g p E := by
  have rqe : ∀ p k, rq g p k = rq h p k := fun p k => by unfold rq; rw [hQ']
  have art : ∀ p k ar n, ArT τ h p k ar n → ArT τ g p k ar n := fun p k ar n z => by unfold ArT; rw [rqe, hQ', hK', hL']; exact z
  obtain ⟨k, ge, t, a0, a1, f, hd⟩ := hH
  refine ⟨by rw [hK']; exact k, ge, t, art _ _ _ _ a0, art _ _ _ _ a1, by rw [(ht p t).1]; exact f, fun i hi => ?_⟩
  rw [rqe, rqe, (ht _ a0.2.2.2.2).1, (ht _ a1.2.2.2.2).1]
  exact hd i hi
theorem PlR.cg {h g : Hp} (hP : PlR τ h E) (hK' : hK g = hK h) (hL' : hL g = hL h) (hQ' : hQ g = hQ h) (ht : ∀ p, τ p = 1 → hI g p = hI h p ∧ hJ g p = hJ h p) : PlR τ g E := by
  have rqe : rq g 30 11 = rq h 30 11 := by unfold rq; rw [hQ']
  rcases hP with ⟨a, b⟩ | ⟨a, b⟩
  · exact Or.inl ⟨by rw [hQ']; exact a, b⟩
  · exact Or.inr ⟨by rw [hQ', rqe]; exact a, by rw [rqe]; exact b.cg hK' hL' hQ' ht⟩
theorem Fz.tag {Z : List Nat} {h g : Hp} (hz : Fz Z h g) (hT : TG τ) (hZ : ∀ z, z ∈ Z → z % 1000000 < 98 ∧ (z % 1000000 < 60 ∨ 64 ≤ z % 1000000)) : ∀ p, τ p = 1 → hI g p = hI h p ∧ hJ g p = hJ h p := by
  intro p hp
  have h1 := hT p hp
  have no : ∀ z, z ∈ Z → z % 1000000 ≠ p := fun z hz' => by have := hZ z hz'; omega
  exact ⟨hz.I no h1.2, hz.J no h1.2⟩
theorem actD_t {o t t' : Nat} {an : Nat → Nat} {pl sp sh : Nat} (ho : 5 ≤ o) : actD E o t an pl sp sh = actD E o t' an pl sp sh := by
  unfold actD
  rw [if_neg (show ¬ o < 5 by omega), if_neg (show ¬ o < 5 by omega)]
theorem actD_tm {i : Nat} {an : Nat → Nat} {pl sp sh : Nat} : actD E (ow (E (342 + 2 * i)) (E (343 + 2 * i))) (tmD E i) an pl sp sh = actD E (ow (E (342 + 2 * i)) (E (343 + 2 * i))) (E (343 + 2 * i)) an pl sp sh := by
  unfold tmD
  by_cases c : ow (E (342 + 2 * i)) (E (343 + 2 * i)) < 5
  · rw [if_pos c]
  · rw [if_neg c]; exact actD_t (by omega)
theorem DW.o {i : Nat} (hD : DW E) (hi : i < E 341) : ow (E (342 + 2 * i)) (E (343 + 2 * i)) < 5 + 2 * E 2 ∧ tmD E i < 1000 := by
  rcases hD.2 i hi with ⟨a, b⟩ | ⟨a, b⟩
  · constructor
    · unfold ow; (repeat' split) <;> omega
    · unfold tmD; split <;> omega
  · constructor
    · unfold ow; (repeat' split) <;> omega
    · unfold tmD
      split
      · rename_i c; unfold ow at c; rw [if_neg (by omega), if_neg (by omega)] at c; omega
      · omega
theorem l_172 (hT : TG τ) (hs : SP s) (hs2 : s < 50) (hW : WF E) (hD : DW E) {p : Nat} : ∀ r i m h an pl sp sh, Fix h → hQ h 30 11 = some p → DyR τ h p E → ScR τ h s E an pl → VA E an pl → i + r = E 341 → RpC h 0 sp sh →
    ∃ g, l_172_37 (r + 1 + m) (some 30) (some s) (-1) (nI (E 341)) (nI i) h = b_172_85 (some 30) (some s) (mI (dyR E r i an pl sp sh).2.1) g ∧ Fz [s + 2, 4000000 + s, 59] h g ∧ ScR τ g s E (dyR E r i an pl sp sh).2.2.1 (dyR E r i an pl sp sh).2.2.2.1 ∧ VA E (dyR E r i an pl sp sh).2.2.1 (dyR E r i an pl sp sh).2.2.2.1 ∧ RpC g (dyR E r i an pl sp sh).1 (dyR E r i an pl sp sh).2.2.2.2.1 (dyR E r i an pl sp sh).2.2.2.2.2 := by
  have b60 := hD.1
  have sz : s = 33 ∨ s = 36 ∨ s = 53 := hs
  intro r
  induction r with
  | zero =>
    intro i m h an pl sp sh hF hQp hP hS hV hi hR
    obtain rfl : i = E 341 := by omega
    refine ⟨h, ?_, Fz.rfl', hS, hV, hR⟩
    rw [show 0 + 1 + m = m + 1 by omega, l_172_37, b_172_37, if_pos (Int32.le_refl _)]
    rfl
  | succ r ih =>
    intro i m h an pl sp sh hF hQp hP hS hV hi hR
    have hP' := hP
    obtain ⟨k, ge, t, a0, a1, f, hd⟩ := hP'
    have hdi := hd i (by omega)
    have oo := hD.o (show i < E 341 by omega)
    obtain ⟨g1, e1, e2, e3, e4, e5⟩ := s_173 (sp := sp) (sh := sh) hF hT hs hs2 hS hW hV oo.1 oo.2 hR
    rw [actD_tm] at e1 e3 e4 e5
    have hF1 := e2.fix hF (by intro z hz; simp only [List.mem_cons, List.not_mem_nil, or_false] at hz; omega)
    have tg := e2.tag hT (by intro z hz; simp only [List.mem_cons, List.not_mem_nil, or_false] at hz; omega)
    have st : l_172_37 (r + 1 + m + 1) (some 30) (some s) (-1) (nI (E 341)) (nI i) h = if (actD E (ow (E (342 + 2 * i)) (E (343 + 2 * i))) (E (343 + 2 * i)) an pl sp sh).1 = 0 then l_172_37 (r + 1 + m) (some 30) (some s) (-1) (nI (E 341)) (nI (i + 1)) g1 else l_172_37 (r + 1 + m) (some 30) (some s) (nI i) (nI (E 341)) (nI (i + 1)) g1 := by
      rw [l_172_37, b_172_37, if_neg (by rw [nI_leI (by omega) (by omega)]; omega), b_172_43, if_neg (fun z => z rfl), b_172_48]
      simp (disch := first | assumption | (repeat' (first | apply fx_sI | apply fx_sJ | assumption | omega))) only [bnd_e, grd_e, grd0, grd1, Option.bind_some, Option.isSome_some, gQ30_0, gQ30_1, gQ30_2, gQ30_3, gQ30_4, gQ30_5, gQ30_6, gQ30_7, gQ30_8, gQ30_9, gQ31_0, gQ33_0, gQ33_1, gQ36_0, gQ36_1, gQ39_0, gQ39_3, gQ39_4, gQ39_6, gQ39_8, gQ39_10, gQ39_11, gQ39_12, gQ48_0, gQ48_1, gQ51_2, gQ53_0, gQ53_1, gQ60_0, gQ60_1, gQ60_2, gQ64_1, gQ64_14, gQ64_15, gQ64_16, gQ64_17, gQ64_18, gQ64_19, gQ64_20, gQ64_21, gQ64_24, gQ64_25, gQ64_27, gQ64_28, gQ64_29, gQ64_30, gQ64_31, gQ64_34, gQ64_35, gQ64_36, gQ64_39, gQ64_40, gQ64_41, gQ64_43, gQ64_44, gQ64_48, gQ64_50, gQ64_51, gQ64_52, gQ64_53, gQ64_54, gQ64_58, gQ64_59, gI30, gJ30, pI30, pJ30, rC30, gI31, gJ31, pI31, pJ31, rC31, gI33, gJ33, pI33, pJ33, rC33, gI36, gJ36, pI36, pJ36, rC36, gI39, gJ39, pI39, pJ39, rC39, gI48, gJ48, pI48, pJ48, rC48, gI51, gJ51, pI51, pJ51, rC51, gI53, gJ53, pI53, pJ53, rC53, gI60, gJ60, pI60, pJ60, rC60, gI64, gJ64, pI64, pJ64, rC64, hF, gQ_e (K30 hF), hQp, gQ_e k, a0.1, a1.1, aI_n a0.2.1 a0.2.2.1, aI_n a1.2.1 a1.2.2.1, hdi.1, hdi.2, e1, bI_0']
      by_cases c : (actD E (ow (E (342 + 2 * i)) (E (343 + 2 * i))) (E (343 + 2 * i)) an pl sp sh).1 = 0
      · rw [if_pos c, decide_eq_true c, if_pos (by decide), b_172_79, bnd_e, nI_add]
      · rw [if_neg c, decide_eq_false c, if_neg (by decide), b_172_76, b_172_79, bnd_e, nI_add]
    rw [show r + 1 + 1 + m = r + 1 + m + 1 by omega, st]
    unfold dyR
    generalize hA : actD E (ow (E (342 + 2 * i)) (E (343 + 2 * i))) (E (343 + 2 * i)) an pl sp sh = A at e3 e4 e5
    by_cases c0 : A.1 = 0
    · rw [if_pos c0, if_pos c0]
      rw [c0] at e5
      obtain ⟨g2, b1, b2, b3⟩ := ih (i + 1) m g1 _ _ _ _ hF1 (by rw [e2.Q]; exact hQp) (hP.cg e2.K e2.L e2.Q tg) e3 e4 (by omega) e5
      exact ⟨g2, b1, e2.then b2, b3⟩
    · rw [if_neg c0, if_neg c0]
      refine ⟨g1, ?_, e2, e3, e4, e5⟩
      have nm : ¬ nI i = (-1 : Int32) := fun z => by
        have := congrArg Int32.toInt z
        rw [toI_nI (by omega), toI_m1] at this
        omega
      rw [show r + 1 + m = (r + m) + 1 by omega, l_172_37, b_172_37]
      by_cases ce : E 341 ≤ i + 1
      · rw [if_pos (by rw [nI_leI (by omega) (by omega)]; exact ce)]; rfl
      · rw [if_neg (by rw [nI_leI (by omega) (by omega)]; exact ce), b_172_43, if_pos nm]; rfl
theorem s_172 {h : Hp} (hF : Fix h) (hT : TG τ) (hs : SP s) (hs2 : s < 50) (hW : WF E) (hD : DW E) (hP : PlR τ h E) (hS : ScR τ h s E (anE E) (E 340)) (hV : VA E (anE E) (E 340)) :
    ∃ g, f_172 (some 30) (some s) h = some (mI (dyN E).2.1, g) ∧ Fz [s + 2, 4000000 + s, 59, 11000030] h g ∧ ScR τ g s E (dyN E).2.2.1 (dyN E).2.2.2.1 ∧ VA E (dyN E).2.2.1 (dyN E).2.2.2.1 ∧ RpR g 59 E ∧ hI g 30 10 = nI 1 := by
  have sz : s = 33 ∨ s = 36 ∨ s = 53 := hs
  obtain ⟨k1, a1, a2, a3⟩ := s_306 (x := nI 0) (h := h) (a := 59) (n := 5) (by omega) (by omega) (K59 hF) (L59 hF)
  have hF1 := a2.fix hF (by decide)
  have hF2 : Fix (sI k1 30 10 (nI 1)) := fx_sI hF1 (by omega)
  have z2 : Fz [s + 2, 4000000 + s, 59, 11000030] h (sI k1 30 10 (nI 1)) := Fz.sI (a2.wid (by intro z hz; simp only [List.mem_cons, List.not_mem_nil, or_false] at hz ⊢; omega)) (by right; simp)
  have tg2 := z2.tag hT (by intro z hz; simp only [List.mem_cons, List.not_mem_nil, or_false] at hz; omega)
  have hS2 : ScR τ (sI k1 30 10 (nI 1)) s E (anE E) (E 340) := by
    have i1 : ∀ a, a = s ∨ a = s + 1 ∨ a = s + 2 → hI (sI k1 30 10 (nI 1)) a = hI h a := fun a ha => by
      funext j
      rw [hI_sI, if_neg (by omega), a2.I (a := a) (by intro z hz; simp only [List.mem_cons, List.not_mem_nil, or_false] at hz; omega) (by omega)]
    exact hS.cg z2.K z2.L z2.Q tg2 (fun d _ => by rw [i1 _ (Or.inr (Or.inl rfl))]) (fun d hd => by rw [i1 _ (Or.inr (Or.inr rfl))]; exact (hS.2.2.1 d hd).2) (by rw [i1 _ (Or.inl rfl)]; exact hS.2.2.2)
  have hP2 := hP.cg z2.K z2.L z2.Q tg2
  have hR2 : RpC (sI k1 30 10 (nI 1)) 0 0 0 := ⟨by rw [hI_sI, if_neg (by omega)]; exact a3 0 (by omega), by rw [hI_sI, if_neg (by omega)]; exact a3 1 (by omega), by rw [hI_sI, if_neg (by omega)]; exact a3 3 (by omega)⟩
  -- the loop
  have lp : ∃ k3, f_172 (some 30) (some s) h = b_172_85 (some 30) (some s) (mI (dyN E).2.1) k3 ∧ Fz [s + 2, 4000000 + s, 59] (sI k1 30 10 (nI 1)) k3 ∧ ScR τ k3 s E (dyN E).2.2.1 (dyN E).2.2.2.1 ∧ VA E (dyN E).2.2.1 (dyN E).2.2.2.1 ∧ RpC k3 (dyN E).1 (dyN E).2.2.2.2.1 (dyN E).2.2.2.2.2 := by
    have pre : f_172 (some 30) (some s) h = if ¬ hQ h 30 11 = none then b_172_26 (some 30) (some s) (-1) (sI k1 30 10 (nI 1)) else b_172_22 (some 30) (some s) (-1) (sI k1 30 10 (nI 1)) := by
      have q11 : hQ (sI k1 30 10 (nI 1)) 30 11 = hQ h 30 11 := by rw [hQ_sI, a2.Q]
      rw [f_172, b_172_0]
      simp (disch := first | assumption | (repeat' (first | apply fx_sI | apply fx_sJ | assumption | omega))) only [bnd_e, grd_e, grd0, grd1, Option.bind_some, Option.isSome_some, gQ30_0, gQ30_1, gQ30_2, gQ30_3, gQ30_4, gQ30_5, gQ30_6, gQ30_7, gQ30_8, gQ30_9, gQ31_0, gQ33_0, gQ33_1, gQ36_0, gQ36_1, gQ39_0, gQ39_3, gQ39_4, gQ39_6, gQ39_8, gQ39_10, gQ39_11, gQ39_12, gQ48_0, gQ48_1, gQ51_2, gQ53_0, gQ53_1, gQ60_0, gQ60_1, gQ60_2, gQ64_1, gQ64_14, gQ64_15, gQ64_16, gQ64_17, gQ64_18, gQ64_19, gQ64_20, gQ64_21, gQ64_24, gQ64_25, gQ64_27, gQ64_28, gQ64_29, gQ64_30, gQ64_31, gQ64_34, gQ64_35, gQ64_36, gQ64_39, gQ64_40, gQ64_41, gQ64_43, gQ64_44, gQ64_48, gQ64_50, gQ64_51, gQ64_52, gQ64_53, gQ64_54, gQ64_58, gQ64_59, gI30, gJ30, pI30, pJ30, rC30, gI31, gJ31, pI31, pJ31, rC31, gI33, gJ33, pI33, pJ33, rC33, gI36, gJ36, pI36, pJ36, rC36, gI39, gJ39, pI39, pJ39, rC39, gI48, gJ48, pI48, pJ48, rC48, gI51, gJ51, pI51, pJ51, rC51, gI53, gJ53, pI53, pJ53, rC53, gI60, gJ60, pI60, pJ60, rC60, gI64, gJ64, pI64, pJ64, rC64, hF, a1, pZ_e (K30 hF1) (show 30 ≤ 30 by omega) (show nI 1 = 0 ∨ nI 1 = 1 by decide), gQ_e (K30 hF2), q11]
    rw [pre]
    rcases hP2 with ⟨n1, n2⟩ | ⟨n1, n2⟩
    · have n1' : hQ h 30 11 = none := by rw [← z2.Q]; exact n1
      obtain ⟨m, hm⟩ := FU_ge 1 (by omega)
      have hm : FU = m + 1 := by omega
      rw [if_neg (fun z => z n1'), b_172_22, b_172_33, bnd_e, hm, l_172_37, b_172_37, if_pos (Int32.le_refl _)]
      unfold dyN
      rw [n2]
      exact ⟨_, rfl, Fz.rfl', hS2, hV, hR2⟩
    · have n1' : ¬ hQ h 30 11 = none := by rw [← z2.Q, n1]; simp
      obtain ⟨m, hm⟩ := FU_ge (E 341 + 1) (by have := hD.1; omega)
      obtain ⟨g, b1, b2⟩ := l_172 hT hs hs2 hW hD (E 341) 0 m _ _ _ _ _ hF2 n1 n2 hS2 hV (by omega) hR2
      refine ⟨g, ?_, b2⟩
      rw [if_pos n1', b_172_26]
      simp (disch := first | assumption | (repeat' (first | apply fx_sI | apply fx_sJ | assumption | omega))) only [gQ_e (K30 hF2), n1, Option.bind_some, gI_e n2.1, n2.2.2.2.2.2.1]
      rw [b_172_33, bnd_e, hm, b1]
      rfl
  obtain ⟨k3, c1, c2, c3, c4, c5⟩ := lp
  have hF3 := c2.fix hF2 (by intro z hz; simp only [List.mem_cons, List.not_mem_nil, or_false] at hz; omega)
  obtain ⟨q0, q1, q2, q3, q4, q5, q6, q7⟩ := spF hF3 hs
  have hF4 : Fix (sI k3 59 2 (mI (dyN E).2.2.2.1)) := fx_sI hF3 (by omega)
  have hS4 : ScR τ (sI k3 59 2 (mI (dyN E).2.2.2.1)) s E (dyN E).2.2.1 (dyN E).2.2.2.1 := ScR.cg (g := sI k3 59 2 (mI (dyN E).2.2.2.1)) c3 rfl rfl rfl (tag_sI hT (by omega)) (fun e _ => by rw [hI_sI, if_neg (by omega)]) (fun e he => by rw [hI_sI, if_neg (by omega)]; exact (c3.2.2.1 e he).2) (by rw [hI_sI, if_neg (by omega)]; exact c3.2.2.2)
  have e86 := s_86 hF4 hs hS4 hW c4.1
  have fin : b_172_85 (some 30) (some s) (mI (dyN E).2.1) k3 = some (mI (dyN E).2.1, sI (sI k3 59 2 (mI (dyN E).2.2.2.1)) 59 4 (nI (opP (dyN E).2.2.1 (E 2)))) := by
    rw [b_172_85]
    simp (disch := first | assumption | (repeat' (first | apply fx_sI | apply fx_sJ | assumption | omega))) only [bnd_e, grd_e, grd0, grd1, Option.bind_some, Option.isSome_some, gQ30_0, gQ30_1, gQ30_2, gQ30_3, gQ30_4, gQ30_5, gQ30_6, gQ30_7, gQ30_8, gQ30_9, gQ31_0, gQ33_0, gQ33_1, gQ36_0, gQ36_1, gQ39_0, gQ39_3, gQ39_4, gQ39_6, gQ39_8, gQ39_10, gQ39_11, gQ39_12, gQ48_0, gQ48_1, gQ51_2, gQ53_0, gQ53_1, gQ60_0, gQ60_1, gQ60_2, gQ64_1, gQ64_14, gQ64_15, gQ64_16, gQ64_17, gQ64_18, gQ64_19, gQ64_20, gQ64_21, gQ64_24, gQ64_25, gQ64_27, gQ64_28, gQ64_29, gQ64_30, gQ64_31, gQ64_34, gQ64_35, gQ64_36, gQ64_39, gQ64_40, gQ64_41, gQ64_43, gQ64_44, gQ64_48, gQ64_50, gQ64_51, gQ64_52, gQ64_53, gQ64_54, gQ64_58, gQ64_59, gI30, gJ30, pI30, pJ30, rC30, gI31, gJ31, pI31, pJ31, rC31, gI33, gJ33, pI33, pJ33, rC33, gI36, gJ36, pI36, pJ36, rC36, gI39, gJ39, pI39, pJ39, rC39, gI48, gJ48, pI48, pJ48, rC48, gI51, gJ51, pI51, pJ51, rC51, gI53, gJ53, pI53, pJ53, rC53, gI60, gJ60, pI60, pJ60, rC60, gI64, gJ64, pI64, pJ64, rC64, aI27, aL27, aI28, aL28, aI32, wI32, aL32, aI34, wI34, aL34, aI35, wI35, aL35, aI37, wI37, aL37, aI38, wI38, aL38, aJ40, wJ40, aL40, aI41, wI41, aL41, aI42, wI42, aL42, aI43, wI43, aL43, aI44, wI44, aL44, aI45, wI45, aL45, aI46, wI46, aL46, aI47, wI47, aL47, aI49, wI49, aL49, aI50, wI50, aL50, aI52, wI52, aL52, aI54, wI54, aL54, aI55, wI55, aL55, aL56, aL57, aL58, aI59, wI59, aL59, aI61, wI61, aL61, aL62, aI63, wI63, aL63, aI65, wI65, aL65, aI66, wI66, aL66, aI67, wI67, aL67, aI68, wI68, aL68, aI69, wI69, aL69, aJ70, wJ70, aL70, aJ71, wJ71, aL71, aJ72, wJ72, aL72, aZ73, wZ73, aL73, aI74, wI74, aL74, aI75, wI75, aL75, aJ76, wJ76, aL76, aJ77, wJ77, aL77, aI78, wI78, aL78, aI79, wI79, aL79, aI80, wI80, aL80, aI81, wI81, aL81, aI82, wI82, aL82, aI83, wI83, aL83, aI84, wI84, aL84, aI85, wI85, aL85, aI86, wI86, aL86, aI87, wI87, aL87, aI88, wI88, aL88, aI89, wI89, aL89, aI90, wI90, aL90, aI91, wI91, aL91, aI92, wI92, aL92, aI93, wI93, aL93, aI94, wI94, aL94, aZ95, wZ95, aL95, aI96, wI96, aL96, aJ97, wJ97, aL97, hF3, hF4, gI_e q0, c3.2.2.2, rC_e (spF hF4 hs).1 q7, e86]
  rw [c1, fin]
  refine ⟨_, rfl, Fz.sI (Fz.sI (z2.then (c2.wid (by intro z hz; simp only [List.mem_cons, List.not_mem_nil, or_false] at hz ⊢; omega))) (Or.inl (by simp))) (Or.inl (by simp)), ?_, c4, ?_, ?_⟩
  · exact ScR.cg (g := sI (sI k3 59 2 (mI (dyN E).2.2.2.1)) 59 4 (nI (opP (dyN E).2.2.1 (E 2)))) hS4 rfl rfl rfl (tag_sI hT (by omega)) (fun e _ => by rw [hI_sI, if_neg (by omega)]) (fun e he => by rw [hI_sI, if_neg (by omega)]; exact (hS4.2.2.1 e he).2) (by rw [hI_sI, if_neg (by omega)]; exact hS4.2.2.2)
  · refine ⟨?_, ?_, ?_, ?_, ?_⟩
    · rw [hI_sI, if_neg (by omega), hI_sI, if_neg (by omega)]; exact c5.1
    · rw [hI_sI, if_neg (by omega), hI_sI, if_neg (by omega)]; exact c5.2.1
    · rw [hI_sI, if_neg (by omega), hI_sI, if_pos ⟨rfl, rfl⟩]
    · rw [hI_sI, if_neg (by omega), hI_sI, if_neg (by omega)]; exact c5.2.2
    · rw [hI_sI, if_pos ⟨rfl, rfl⟩]
  · rw [hI_sI, if_neg (by omega), hI_sI, if_neg (by omega), c2.I1 (by simp only [List.mem_cons, List.not_mem_nil, or_false]; omega) (by simp only [List.mem_cons, List.not_mem_nil, or_false]; omega), hI_sI, if_pos ⟨rfl, rfl⟩]
end FW
