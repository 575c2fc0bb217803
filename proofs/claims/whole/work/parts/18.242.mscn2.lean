/-! the reference's scene: taken, kept, walked, stood at -/
def MS (h : Hp) (E an : Nat → Nat) (pl : Nat) : Prop := NowE h E ∧ (∀ d, d < 10 → hI h 87 d = nI (an d)) ∧ hI h 64 45 = mI pl ∧ ∀ c, c < 100 → hI h 88 c = nI (lonV E an (E 2) c)
def anE (E : Nat → Nat) (d : Nat) : Nat := E (330 + d)
def kpE (E an : Nat → Nat) (pl : Nat) : Nat → Nat := fun i => if 330 ≤ i ∧ i < 340 then an (i - 330) else if i = 340 then pl else E i
section MS2
variable {E an : Nat → Nat} {pl : Nat}
theorem l_253 : ∀ r i m h, Fix h → NowE h E → i + r = 10 → (∀ d, d < i → hI h 87 d = nI (anE E d)) → ∃ g, l_253_6 (r + 1 + m) (some 64) (nI i) h = b_253_34 (some 64) g ∧ Fz [87] h g ∧ ∀ d, d < 10 → hI g 87 d = nI (anE E d) := by
  intro r
  induction r with
  | zero =>
    intro i m h hF hE hi hc
    obtain rfl : i = 10 := by omega
    refine ⟨h, ?_, Fz.rfl', hc⟩
    rw [show 0 + 1 + m = m + 1 by omega, l_253_6, b_253_6, if_pos (by decide)]
  | succ r ih =>
    intro i m h hF hE hi hc
    have hv := hE.1 (330 + i) (by omega) (by omega) (by omega)
    obtain ⟨g, a1, a2, a3⟩ := ih (i + 1) m (sI h 87 i (nI (anE E i))) (fx_sI hF (by omega)) (hE.cg (by funext j; rw [hI_sI, if_neg (by omega)])) (by omega) (fun c hc' => by
      rw [hI_sI]
      by_cases e : c = i
      · subst e; rw [if_pos ⟨rfl, rfl⟩]
      · rw [if_neg (fun z => e z.2)]; exact hc c (by omega))
    refine ⟨g, ?_, Fz.then (Fz.sI Fz.rfl' (Or.inl (by simp))) a2, a3⟩
    rw [show r + 1 + 1 + m = (r + 1 + m) + 1 by omega, l_253_6, b_253_6, if_neg (by rw [nI_leI (by omega) (by omega)]; omega), b_253_12]
    simp (disch := first | assumption | (repeat' (first | apply fx_sI | apply fx_sJ | assumption | omega))) only [bnd_e, grd_e, grd0, grd1, Option.bind_some, Option.isSome_some, gQ30_0, gQ30_1, gQ30_2, gQ30_3, gQ30_4, gQ30_5, gQ30_6, gQ30_7, gQ30_8, gQ30_9, gQ31_0, gQ33_0, gQ33_1, gQ36_0, gQ36_1, gQ39_0, gQ39_3, gQ39_4, gQ39_6, gQ39_8, gQ39_10, gQ39_11, gQ39_12, gQ48_0, gQ48_1, gQ51_2, gQ53_0, gQ53_1, gQ60_0, gQ60_1, gQ60_2, gQ64_1, gQ64_14, gQ64_15, gQ64_16, gQ64_17, gQ64_18, gQ64_19, gQ64_20, gQ64_21, gQ64_24, gQ64_25, gQ64_27, gQ64_28, gQ64_29, gQ64_30, gQ64_31, gQ64_34, gQ64_35, gQ64_36, gQ64_39, gQ64_40, gQ64_41, gQ64_43, gQ64_44, gQ64_48, gQ64_50, gQ64_51, gQ64_52, gQ64_53, gQ64_54, gQ64_58, gQ64_59, gI30, gJ30, pI30, pJ30, rC30, gI31, gJ31, pI31, pJ31, rC31, gI33, gJ33, pI33, pJ33, rC33, gI36, gJ36, pI36, pJ36, rC36, gI39, gJ39, pI39, pJ39, rC39, gI48, gJ48, pI48, pJ48, rC48, gI51, gJ51, pI51, pJ51, rC51, gI53, gJ53, pI53, pJ53, rC53, gI60, gJ60, pI60, pJ60, rC60, gI64, gJ64, pI64, pJ64, rC64, aI27, aL27, aI28, aL28, aI32, wI32, aL32, aI34, wI34, aL34, aI35, wI35, aL35, aI37, wI37, aL37, aI38, wI38, aL38, aJ40, wJ40, aL40, aI41, wI41, aL41, aI42, wI42, aL42, aI43, wI43, aL43, aI44, wI44, aL44, aI45, wI45, aL45, aI46, wI46, aL46, aI47, wI47, aL47, aI49, wI49, aL49, aI50, wI50, aL50, aI52, wI52, aL52, aI54, wI54, aL54, aI55, wI55, aL55, aL56, aL57, aL58, aI59, wI59, aL59, aI61, wI61, aL61, aL62, aI63, wI63, aL63, aI65, wI65, aL65, aI66, wI66, aL66, aI67, wI67, aL67, aI68, wI68, aL68, aI69, wI69, aL69, aJ70, wJ70, aL70, aJ71, wJ71, aL71, aJ72, wJ72, aL72, aZ73, wZ73, aL73, aI74, wI74, aL74, aI75, wI75, aL75, aJ76, wJ76, aL76, aJ77, wJ77, aL77, aI78, wI78, aL78, aI79, wI79, aL79, aI80, wI80, aL80, aI81, wI81, aL81, aI82, wI82, aL82, aI83, wI83, aL83, aI84, wI84, aL84, aI85, wI85, aL85, aI86, wI86, aL86, aI87, wI87, aL87, aI88, wI88, aL88, aI89, wI89, aL89, aI90, wI90, aL90, aI91, wI91, aL91, aI92, wI92, aL92, aI93, wI93, aL93, aI94, wI94, aL94, aZ95, wZ95, aL95, aI96, wI96, aL96, aJ97, wJ97, aL97, hF, nI_add, hv]
    exact a1
theorem s_253 {h : Hp} (hF : Fix h) (hB : Bg h E) (hW : WF E) (h3 : ∀ d, d < E 2 → anE E d < 3) (hcn : ∀ d, d < E 2 → canB E d (dHg E d) (anE E d) = true) :
    ∃ g, f_253 (some 64) h = some g ∧ Fz [23000064, 66, 87, 46000064, 47000064, 27000064, 74, 75, 88] h g ∧ MS g E (anE E) (E 340) ∧ hI g 64 22 = 1 ∧ hI g 64 46 = nI 0 := by
  obtain ⟨k1, a1, a2, a3, a4⟩ := s_202 hF hB
  have hF1 := a2.fix hF (by decide)
  obtain ⟨m, hm⟩ := FU_ge (10 + 1) (by omega)
  obtain ⟨k2, b1, b2, b3⟩ := l_253 10 0 m k1 hF1 a3 (by omega) (fun d hd => absurd hd (Nat.not_lt_zero d))
  have hF2 := b2.fix hF1 (by decide)
  have hE2 := a3.cg (b2.I (a := 66) (by decide))
  have hE3 : NowE (sI (sI k2 64 45 (mI (E 340))) 64 46 (nI 0)) E := hE2.cg (by funext j; rw [hI_sI, if_neg (by omega), hI_sI, if_neg (by omega)])
  have hF3 : Fix (sI (sI k2 64 45 (mI (E 340))) 64 46 (nI 0)) := fx_sI (fx_sI hF2 (by omega)) (by omega)
  obtain ⟨g, c1, c2, c3⟩ := s_252 (an := anE E) hF3 hE3 hW h3 hcn (fun e he => by
    rw [hI_sI, if_neg (by omega), hI_sI, if_neg (by omega)]
    exact b3 e (by have := hW.2.2.1; omega))
  have z3 : Fz [46000064, 47000064] k2 (sI (sI k2 64 45 (mI (E 340))) 64 46 (nI 0)) := Fz.sI (Fz.sI Fz.rfl' (by decide)) (by decide)
  refine ⟨g, ?_, (((a2.wid (by intro z hz; simp only [List.mem_cons, List.not_mem_nil, or_false] at hz ⊢; omega)).then (b2.wid (by intro z hz; simp only [List.mem_cons, List.not_mem_nil, or_false] at hz ⊢; omega))).then (z3.wid (by intro z hz; simp only [List.mem_cons, List.not_mem_nil, or_false] at hz ⊢; omega))).then (c2.wid (by intro z hz; simp only [List.mem_cons, List.not_mem_nil, or_false] at hz ⊢; omega)), ⟨hE3.cg (c2.I (a := 66) (by decide)), fun d hd => ?_, ?_, c3⟩, ?_, ?_⟩
  · have h340 : hI k2 66 340 = mI (E 340) := hE2.2.2.1
    rw [f_253, b_253_0]
    simp only [bnd_e, grd_e, grd0, grd1, Option.bind_some, Option.isSome_some, gQ30_0, gQ30_1, gQ30_2, gQ30_3, gQ30_4, gQ30_5, gQ30_6, gQ30_7, gQ30_8, gQ30_9, gQ31_0, gQ33_0, gQ33_1, gQ36_0, gQ36_1, gQ39_0, gQ39_3, gQ39_4, gQ39_6, gQ39_8, gQ39_10, gQ39_11, gQ39_12, gQ48_0, gQ48_1, gQ51_2, gQ53_0, gQ53_1, gQ60_0, gQ60_1, gQ60_2, gQ64_1, gQ64_14, gQ64_15, gQ64_16, gQ64_17, gQ64_18, gQ64_19, gQ64_20, gQ64_21, gQ64_24, gQ64_25, gQ64_27, gQ64_28, gQ64_29, gQ64_30, gQ64_31, gQ64_34, gQ64_35, gQ64_36, gQ64_39, gQ64_40, gQ64_41, gQ64_43, gQ64_44, gQ64_48, gQ64_50, gQ64_51, gQ64_52, gQ64_53, gQ64_54, gQ64_58, gQ64_59, gI30, gJ30, pI30, pJ30, rC30, gI31, gJ31, pI31, pJ31, rC31, gI33, gJ33, pI33, pJ33, rC33, gI36, gJ36, pI36, pJ36, rC36, gI39, gJ39, pI39, pJ39, rC39, gI48, gJ48, pI48, pJ48, rC48, gI51, gJ51, pI51, pJ51, rC51, gI53, gJ53, pI53, pJ53, rC53, gI60, gJ60, pI60, pJ60, rC60, gI64, gJ64, pI64, pJ64, rC64, hF, a1]
    rw [hm, b1, b_253_34]
    simp (disch := first | assumption | (repeat' (first | apply fx_sI | apply fx_sJ | assumption | omega))) only [bnd_e, grd_e, grd0, grd1, Option.bind_some, Option.isSome_some, gQ30_0, gQ30_1, gQ30_2, gQ30_3, gQ30_4, gQ30_5, gQ30_6, gQ30_7, gQ30_8, gQ30_9, gQ31_0, gQ33_0, gQ33_1, gQ36_0, gQ36_1, gQ39_0, gQ39_3, gQ39_4, gQ39_6, gQ39_8, gQ39_10, gQ39_11, gQ39_12, gQ48_0, gQ48_1, gQ51_2, gQ53_0, gQ53_1, gQ60_0, gQ60_1, gQ60_2, gQ64_1, gQ64_14, gQ64_15, gQ64_16, gQ64_17, gQ64_18, gQ64_19, gQ64_20, gQ64_21, gQ64_24, gQ64_25, gQ64_27, gQ64_28, gQ64_29, gQ64_30, gQ64_31, gQ64_34, gQ64_35, gQ64_36, gQ64_39, gQ64_40, gQ64_41, gQ64_43, gQ64_44, gQ64_48, gQ64_50, gQ64_51, gQ64_52, gQ64_53, gQ64_54, gQ64_58, gQ64_59, gI30, gJ30, pI30, pJ30, rC30, gI31, gJ31, pI31, pJ31, rC31, gI33, gJ33, pI33, pJ33, rC33, gI36, gJ36, pI36, pJ36, rC36, gI39, gJ39, pI39, pJ39, rC39, gI48, gJ48, pI48, pJ48, rC48, gI51, gJ51, pI51, pJ51, rC51, gI53, gJ53, pI53, pJ53, rC53, gI60, gJ60, pI60, pJ60, rC60, gI64, gJ64, pI64, pJ64, rC64, aI27, aL27, aI28, aL28, aI32, wI32, aL32, aI34, wI34, aL34, aI35, wI35, aL35, aI37, wI37, aL37, aI38, wI38, aL38, aJ40, wJ40, aL40, aI41, wI41, aL41, aI42, wI42, aL42, aI43, wI43, aL43, aI44, wI44, aL44, aI45, wI45, aL45, aI46, wI46, aL46, aI47, wI47, aL47, aI49, wI49, aL49, aI50, wI50, aL50, aI52, wI52, aL52, aI54, wI54, aL54, aI55, wI55, aL55, aL56, aL57, aL58, aI59, wI59, aL59, aI61, wI61, aL61, aL62, aI63, wI63, aL63, aI65, wI65, aL65, aI66, wI66, aL66, aI67, wI67, aL67, aI68, wI68, aL68, aI69, wI69, aL69, aJ70, wJ70, aL70, aJ71, wJ71, aL71, aJ72, wJ72, aL72, aZ73, wZ73, aL73, aI74, wI74, aL74, aI75, wI75, aL75, aJ76, wJ76, aL76, aJ77, wJ77, aL77, aI78, wI78, aL78, aI79, wI79, aL79, aI80, wI80, aL80, aI81, wI81, aL81, aI82, wI82, aL82, aI83, wI83, aL83, aI84, wI84, aL84, aI85, wI85, aL85, aI86, wI86, aL86, aI87, wI87, aL87, aI88, wI88, aL88, aI89, wI89, aL89, aI90, wI90, aL90, aI91, wI91, aL91, aI92, wI92, aL92, aI93, wI93, aL93, aI94, wI94, aL94, aZ95, wZ95, aL95, aI96, wI96, aL96, aJ97, wJ97, aL97, hF2, h340, c1]
  · rw [c2.I (a := 87) (by decide), hI_sI, if_neg (by omega), hI_sI, if_neg (by omega)]; exact b3 d hd
  · rw [c2.I1 (by decide) (by decide), hI_sI, if_neg (by omega), hI_sI, if_pos ⟨rfl, rfl⟩]
  · rw [c2.I1 (by decide) (by decide), hI_sI, if_neg (by omega), hI_sI, if_neg (by omega), b2.I1 (by decide) (by decide)]; exact a4
  · rw [c2.I1 (by decide) (by decide), hI_sI, if_pos ⟨rfl, rfl⟩]
theorem l_254 : ∀ r i m h, Fix h → (∀ d, d < 10 → hI h 87 d = nI (an d)) → i + r = 10 → (∀ j, j < 704 → j ≠ 4 → j ≠ 340 → hI h 66 j = nI (if 330 ≤ j ∧ j < 330 + i then an (j - 330) else E j)) → ∃ g, l_254_2 (r + 1 + m) (some 64) (nI i) h = b_254_30 (some 64) g ∧ Fz [66] h g ∧ hI g 66 4 = hI h 66 4 ∧ hI g 66 340 = hI h 66 340 ∧ ∀ j, j < 704 → j ≠ 4 → j ≠ 340 → hI g 66 j = nI (if 330 ≤ j ∧ j < 340 then an (j - 330) else E j) := by
  intro r
  induction r with
  | zero =>
    intro i m h hF h7 hi hc
    obtain rfl : i = 10 := by omega
    refine ⟨h, ?_, Fz.rfl', rfl, rfl, hc⟩
    rw [show 0 + 1 + m = m + 1 by omega, l_254_2, b_254_2, if_pos (by decide)]
  | succ r ih =>
    intro i m h hF h7 hi hc
    have hv := h7 i (by omega)
    obtain ⟨g, a1, a2, a3, a4, a5⟩ := ih (i + 1) m (sI h 66 (330 + i) (nI (an i))) (fx_sI hF (by omega)) (fun d hd => by rw [hI_sI, if_neg (by omega)]; exact h7 d hd) (by omega) (fun j hj n4 n3 => by
      rw [hI_sI]
      by_cases e : j = 330 + i
      · subst e; rw [if_pos ⟨rfl, rfl⟩, if_pos (by omega), Nat.add_sub_cancel_left]
      · rw [if_neg (fun z => e z.2), hc j hj n4 n3]
        by_cases f : 330 ≤ j ∧ j < 330 + i
        · rw [if_pos f, if_pos (by omega)]
        · rw [if_neg f, if_neg (by omega)])
    refine ⟨g, ?_, Fz.then (Fz.sI Fz.rfl' (Or.inl (by simp))) a2, by rw [a3, hI_sI, if_neg (by omega)], by rw [a4, hI_sI, if_neg (by omega)], a5⟩
    rw [show r + 1 + 1 + m = (r + 1 + m) + 1 by omega, l_254_2, b_254_2, if_neg (by rw [nI_leI (by omega) (by omega)]; omega), b_254_8]
    simp (disch := first | assumption | (repeat' (first | apply fx_sI | apply fx_sJ | assumption | omega))) only [bnd_e, grd_e, grd0, grd1, Option.bind_some, Option.isSome_some, gQ30_0, gQ30_1, gQ30_2, gQ30_3, gQ30_4, gQ30_5, gQ30_6, gQ30_7, gQ30_8, gQ30_9, gQ31_0, gQ33_0, gQ33_1, gQ36_0, gQ36_1, gQ39_0, gQ39_3, gQ39_4, gQ39_6, gQ39_8, gQ39_10, gQ39_11, gQ39_12, gQ48_0, gQ48_1, gQ51_2, gQ53_0, gQ53_1, gQ60_0, gQ60_1, gQ60_2, gQ64_1, gQ64_14, gQ64_15, gQ64_16, gQ64_17, gQ64_18, gQ64_19, gQ64_20, gQ64_21, gQ64_24, gQ64_25, gQ64_27, gQ64_28, gQ64_29, gQ64_30, gQ64_31, gQ64_34, gQ64_35, gQ64_36, gQ64_39, gQ64_40, gQ64_41, gQ64_43, gQ64_44, gQ64_48, gQ64_50, gQ64_51, gQ64_52, gQ64_53, gQ64_54, gQ64_58, gQ64_59, gI30, gJ30, pI30, pJ30, rC30, gI31, gJ31, pI31, pJ31, rC31, gI33, gJ33, pI33, pJ33, rC33, gI36, gJ36, pI36, pJ36, rC36, gI39, gJ39, pI39, pJ39, rC39, gI48, gJ48, pI48, pJ48, rC48, gI51, gJ51, pI51, pJ51, rC51, gI53, gJ53, pI53, pJ53, rC53, gI60, gJ60, pI60, pJ60, rC60, gI64, gJ64, pI64, pJ64, rC64, aI27, aL27, aI28, aL28, aI32, wI32, aL32, aI34, wI34, aL34, aI35, wI35, aL35, aI37, wI37, aL37, aI38, wI38, aL38, aJ40, wJ40, aL40, aI41, wI41, aL41, aI42, wI42, aL42, aI43, wI43, aL43, aI44, wI44, aL44, aI45, wI45, aL45, aI46, wI46, aL46, aI47, wI47, aL47, aI49, wI49, aL49, aI50, wI50, aL50, aI52, wI52, aL52, aI54, wI54, aL54, aI55, wI55, aL55, aL56, aL57, aL58, aI59, wI59, aL59, aI61, wI61, aL61, aL62, aI63, wI63, aL63, aI65, wI65, aL65, aI66, wI66, aL66, aI67, wI67, aL67, aI68, wI68, aL68, aI69, wI69, aL69, aJ70, wJ70, aL70, aJ71, wJ71, aL71, aJ72, wJ72, aL72, aZ73, wZ73, aL73, aI74, wI74, aL74, aI75, wI75, aL75, aJ76, wJ76, aL76, aJ77, wJ77, aL77, aI78, wI78, aL78, aI79, wI79, aL79, aI80, wI80, aL80, aI81, wI81, aL81, aI82, wI82, aL82, aI83, wI83, aL83, aI84, wI84, aL84, aI85, wI85, aL85, aI86, wI86, aL86, aI87, wI87, aL87, aI88, wI88, aL88, aI89, wI89, aL89, aI90, wI90, aL90, aI91, wI91, aL91, aI92, wI92, aL92, aI93, wI93, aL93, aI94, wI94, aL94, aZ95, wZ95, aL95, aI96, wI96, aL96, aJ97, wJ97, aL97, hF, nI_add, hv]
    exact a1
theorem s_254 {h : Hp} (hF : Fix h) (hM : MS h E an pl) (ha : ∀ d, d < 10 → an d < 100000) (hp : pl ≤ 100) : ∃ g, f_254 (some 64) h = some g ∧ Fz [66] h g ∧ NowE g (kpE E an pl) := by
  obtain ⟨m, hm⟩ := FU_ge (10 + 1) (by omega)
  obtain ⟨k1, a1, a2, a3, a4, a5⟩ := l_254 (E := E) (an := an) 10 0 m h hF hM.2.1 (by omega) (fun j hj n4 n3 => by rw [if_neg (by omega)]; exact hM.1.1 j hj n4 n3)
  have hF1 := a2.fix hF (by decide)
  have h45 : hI k1 64 45 = mI pl := by rw [a2.I1 (by decide) (by decide)]; exact hM.2.2.1
  refine ⟨sI k1 66 340 (mI pl), ?_, a2.sI (by decide), ⟨fun j hj n4 n3 => ?_, ?_, ?_, fun i => ?_⟩⟩
  · rw [f_254, b_254_0, bnd_e, hm, a1, b_254_30]
    simp (disch := first | assumption | (repeat' (first | apply fx_sI | apply fx_sJ | assumption | omega))) only [bnd_e, grd_e, grd0, grd1, Option.bind_some, Option.isSome_some, gQ30_0, gQ30_1, gQ30_2, gQ30_3, gQ30_4, gQ30_5, gQ30_6, gQ30_7, gQ30_8, gQ30_9, gQ31_0, gQ33_0, gQ33_1, gQ36_0, gQ36_1, gQ39_0, gQ39_3, gQ39_4, gQ39_6, gQ39_8, gQ39_10, gQ39_11, gQ39_12, gQ48_0, gQ48_1, gQ51_2, gQ53_0, gQ53_1, gQ60_0, gQ60_1, gQ60_2, gQ64_1, gQ64_14, gQ64_15, gQ64_16, gQ64_17, gQ64_18, gQ64_19, gQ64_20, gQ64_21, gQ64_24, gQ64_25, gQ64_27, gQ64_28, gQ64_29, gQ64_30, gQ64_31, gQ64_34, gQ64_35, gQ64_36, gQ64_39, gQ64_40, gQ64_41, gQ64_43, gQ64_44, gQ64_48, gQ64_50, gQ64_51, gQ64_52, gQ64_53, gQ64_54, gQ64_58, gQ64_59, gI30, gJ30, pI30, pJ30, rC30, gI31, gJ31, pI31, pJ31, rC31, gI33, gJ33, pI33, pJ33, rC33, gI36, gJ36, pI36, pJ36, rC36, gI39, gJ39, pI39, pJ39, rC39, gI48, gJ48, pI48, pJ48, rC48, gI51, gJ51, pI51, pJ51, rC51, gI53, gJ53, pI53, pJ53, rC53, gI60, gJ60, pI60, pJ60, rC60, gI64, gJ64, pI64, pJ64, rC64, aI27, aL27, aI28, aL28, aI32, wI32, aL32, aI34, wI34, aL34, aI35, wI35, aL35, aI37, wI37, aL37, aI38, wI38, aL38, aJ40, wJ40, aL40, aI41, wI41, aL41, aI42, wI42, aL42, aI43, wI43, aL43, aI44, wI44, aL44, aI45, wI45, aL45, aI46, wI46, aL46, aI47, wI47, aL47, aI49, wI49, aL49, aI50, wI50, aL50, aI52, wI52, aL52, aI54, wI54, aL54, aI55, wI55, aL55, aL56, aL57, aL58, aI59, wI59, aL59, aI61, wI61, aL61, aL62, aI63, wI63, aL63, aI65, wI65, aL65, aI66, wI66, aL66, aI67, wI67, aL67, aI68, wI68, aL68, aI69, wI69, aL69, aJ70, wJ70, aL70, aJ71, wJ71, aL71, aJ72, wJ72, aL72, aZ73, wZ73, aL73, aI74, wI74, aL74, aI75, wI75, aL75, aJ76, wJ76, aL76, aJ77, wJ77, aL77, aI78, wI78, aL78, aI79, wI79, aL79, aI80, wI80, aL80, aI81, wI81, aL81, aI82, wI82, aL82, aI83, wI83, aL83, aI84, wI84, aL84, aI85, wI85, aL85, aI86, wI86, aL86, aI87, wI87, aL87, aI88, wI88, aL88, aI89, wI89, aL89, aI90, wI90, aL90, aI91, wI91, aL91, aI92, wI92, aL92, aI93, wI93, aL93, aI94, wI94, aL94, aZ95, wZ95, aL95, aI96, wI96, aL96, aJ97, wJ97, aL97, hF1, h45]
  · rw [hI_sI, if_neg (by omega), a5 j hj n4 n3]
    unfold kpE
    split
    · rfl
    · rfl
  · rw [hI_sI, if_neg (by omega), a3, hM.1.2.1]
    unfold kpE
    rw [if_neg (by omega), if_neg (by omega)]
  · rw [hI_sI, if_pos ⟨rfl, rfl⟩]
    unfold kpE
    rw [if_neg (by omega), if_pos rfl]
  · unfold kpE
    split
    · exact ha _ (by omega)
    · split
      · omega
      · exact hM.1.2.2.2 i
theorem s_255 {h : Hp} {x y : Int32} (hF : Fix h) (hE : NowE h E) (hW : E 0 ≤ 10 ∧ E 1 ≤ 10) : f_255 (some 64) x y h = some (bI (wkB E (x.toInt, y.toInt)), h) := by
  unfold wkB
  rw [f_255, b_255_0]
  simp (disch := first | assumption | (repeat' (first | apply fx_sI | apply fx_sJ | assumption | omega))) only [bnd_e, grd_e, grd0, grd1, Option.bind_some, Option.isSome_some, gQ30_0, gQ30_1, gQ30_2, gQ30_3, gQ30_4, gQ30_5, gQ30_6, gQ30_7, gQ30_8, gQ30_9, gQ31_0, gQ33_0, gQ33_1, gQ36_0, gQ36_1, gQ39_0, gQ39_3, gQ39_4, gQ39_6, gQ39_8, gQ39_10, gQ39_11, gQ39_12, gQ48_0, gQ48_1, gQ51_2, gQ53_0, gQ53_1, gQ60_0, gQ60_1, gQ60_2, gQ64_1, gQ64_14, gQ64_15, gQ64_16, gQ64_17, gQ64_18, gQ64_19, gQ64_20, gQ64_21, gQ64_24, gQ64_25, gQ64_27, gQ64_28, gQ64_29, gQ64_30, gQ64_31, gQ64_34, gQ64_35, gQ64_36, gQ64_39, gQ64_40, gQ64_41, gQ64_43, gQ64_44, gQ64_48, gQ64_50, gQ64_51, gQ64_52, gQ64_53, gQ64_54, gQ64_58, gQ64_59, gI30, gJ30, pI30, pJ30, rC30, gI31, gJ31, pI31, pJ31, rC31, gI33, gJ33, pI33, pJ33, rC33, gI36, gJ36, pI36, pJ36, rC36, gI39, gJ39, pI39, pJ39, rC39, gI48, gJ48, pI48, pJ48, rC48, gI51, gJ51, pI51, pJ51, rC51, gI53, gJ53, pI53, pJ53, rC53, gI60, gJ60, pI60, pJ60, rC60, gI64, gJ64, pI64, pJ64, rC64, hF, s_206 hF hE, bI_0']
  cases c : inE E (x.toInt, y.toInt)
  · rfl
  · rw [if_neg (by decide), Bool.true_and]
    have c2 := inE_b hW c
    dsimp only at c2
    have e0 : nI 10 * y + x = nI (cN (x.toInt, y.toInt)) := by rw [← zI_cN (by omega), ← zI_of, ← zI_of]
    have e1 : nI 10 + nI 10 * y + x = nI (10 + cN (x.toInt, y.toInt)) := by rw [show nI 10 + nI 10 * y + x = nI 10 + (nI 10 * y + x) from Int32.add_assoc _ _ _, e0, nI_add]
    have e2 : nI 210 + nI 10 * y + x = nI (210 + cN (x.toInt, y.toInt)) := by rw [show nI 210 + nI 10 * y + x = nI 210 + (nI 10 * y + x) from Int32.add_assoc _ _ _, e0, nI_add]
    have v1 := hE.1 (10 + cN (x.toInt, y.toInt)) (by omega) (by omega) (by omega)
    have v2 := hE.1 (210 + cN (x.toInt, y.toInt)) (by omega) (by omega) (by omega)
    have b1 := hE.2.2.2 (10 + cN (x.toInt, y.toInt))
    have b2 := hE.2.2.2 (210 + cN (x.toInt, y.toInt))
    have n2 : (nI (E (210 + cN (x.toInt, y.toInt))) ≤ 0) = ¬ (0 < E (210 + cN (x.toInt, y.toInt))) := by
      apply propext
      rw [← nI_0, nI_leI (by omega) (by omega)]
      omega
    repeat ((first | rw [f_255] | rw [b_255_0] | rw [b_255_9] | rw [b_255_26] | rw [b_255_44] | rw [b_255_48] | rw [b_255_49]) <;> try simp (disch := first | assumption | (repeat' (first | apply fx_sI | apply fx_sJ | assumption | omega))) only [↓reduceIte, Option.bind_some, bnd_e, grd_e, grd0, grd1, bnd_e, grd_e, grd0, grd1, Option.bind_some, Option.isSome_some, gQ30_0, gQ30_1, gQ30_2, gQ30_3, gQ30_4, gQ30_5, gQ30_6, gQ30_7, gQ30_8, gQ30_9, gQ31_0, gQ33_0, gQ33_1, gQ36_0, gQ36_1, gQ39_0, gQ39_3, gQ39_4, gQ39_6, gQ39_8, gQ39_10, gQ39_11, gQ39_12, gQ48_0, gQ48_1, gQ51_2, gQ53_0, gQ53_1, gQ60_0, gQ60_1, gQ60_2, gQ64_1, gQ64_14, gQ64_15, gQ64_16, gQ64_17, gQ64_18, gQ64_19, gQ64_20, gQ64_21, gQ64_24, gQ64_25, gQ64_27, gQ64_28, gQ64_29, gQ64_30, gQ64_31, gQ64_34, gQ64_35, gQ64_36, gQ64_39, gQ64_40, gQ64_41, gQ64_43, gQ64_44, gQ64_48, gQ64_50, gQ64_51, gQ64_52, gQ64_53, gQ64_54, gQ64_58, gQ64_59, gI30, gJ30, pI30, pJ30, rC30, gI31, gJ31, pI31, pJ31, rC31, gI33, gJ33, pI33, pJ33, rC33, gI36, gJ36, pI36, pJ36, rC36, gI39, gJ39, pI39, pJ39, rC39, gI48, gJ48, pI48, pJ48, rC48, gI51, gJ51, pI51, pJ51, rC51, gI53, gJ53, pI53, pJ53, rC53, gI60, gJ60, pI60, pJ60, rC60, gI64, gJ64, pI64, pJ64, rC64, aI27, aL27, aI28, aL28, aI32, wI32, aL32, aI34, wI34, aL34, aI35, wI35, aL35, aI37, wI37, aL37, aI38, wI38, aL38, aJ40, wJ40, aL40, aI41, wI41, aL41, aI42, wI42, aL42, aI43, wI43, aL43, aI44, wI44, aL44, aI45, wI45, aL45, aI46, wI46, aL46, aI47, wI47, aL47, aI49, wI49, aL49, aI50, wI50, aL50, aI52, wI52, aL52, aI54, wI54, aL54, aI55, wI55, aL55, aL56, aL57, aL58, aI59, wI59, aL59, aI61, wI61, aL61, aL62, aI63, wI63, aL63, aI65, wI65, aL65, aI66, wI66, aL66, aI67, wI67, aL67, aI68, wI68, aL68, aI69, wI69, aL69, aJ70, wJ70, aL70, aJ71, wJ71, aL71, aJ72, wJ72, aL72, aZ73, wZ73, aL73, aI74, wI74, aL74, aI75, wI75, aL75, aJ76, wJ76, aL76, aJ77, wJ77, aL77, aI78, wI78, aL78, aI79, wI79, aL79, aI80, wI80, aL80, aI81, wI81, aL81, aI82, wI82, aL82, aI83, wI83, aL83, aI84, wI84, aL84, aI85, wI85, aL85, aI86, wI86, aL86, aI87, wI87, aL87, aI88, wI88, aL88, aI89, wI89, aL89, aI90, wI90, aL90, aI91, wI91, aL91, aI92, wI92, aL92, aI93, wI93, aL93, aI94, wI94, aL94, aZ95, wZ95, aL95, aI96, wI96, aL96, aJ97, wJ97, aL97, hF, e1, e2, v1, v2, nI_eq0 (show E (10 + cN (x.toInt, y.toInt)) < 2147483648 by omega), n2])
    by_cases f1 : E (10 + cN (x.toInt, y.toInt)) = 0
    · simp [f1, bI]
    · by_cases f2 : 0 < E (210 + cN (x.toInt, y.toInt))
      · simp [f1, f2, bI]
      · simp [f1, f2, bI]
/-- the doorway of a door, however it hangs -/
theorem dw_iff {d g c : Nat} (hW : WF E) (hd : d < E 2) (hc : c < 100) : lfH E d g 0 c = true ↔ E (210 + c) = d + 1 := by
  obtain ⟨hx, hy, hac, hn1, hn2, w1, w2⟩ := hW.dw hd
  obtain ⟨_, _, _, wq⟩ := hW.2.2.2.2.2.2.1 d hd
  have w0 := hW.1
  have w1' := hW.2.1
  have e : ∀ i, i < dLn E d → ∃ j, j < dLn E d ∧ inB (zX (dX E d) (dAc E d) (dLn E d) g (i, 0), zY (dYy E d) (dAc E d) (dLn E d) g (i, 0)) = true ∧ cN (zX (dX E d) (dAc E d) (dLn E d) g (i, 0), zY (dYy E d) (dAc E d) (dLn E d) g (i, 0)) = dwc E d j ∧ (j = i ∨ j + i + 1 = dLn E d) ∧ (g % 2 = 0 → j = i) ∧ (g % 2 = 1 → j + i + 1 = dLn E d) := by
    intro i hi
    refine ⟨if g % 2 = 0 then i else dLn E d - 1 - i, ?_, ?_, ?_, ?_, ?_, ?_⟩
    · split <;> omega
    · apply decide_eq_true
      unfold zX zY zFar zAl zOut
      rcases hac with ac | ac
      · have := w1 ac
        simp only [ac, if_true]
        repeat' split
        all_goals omega
      · have := w2 ac
        simp only [ac, show ¬ (1 = 0) by decide, if_false]
        repeat' split
        all_goals omega
    · unfold cN zX zY zFar zAl zOut dwc
      rcases hac with ac | ac
      · have := w1 ac
        simp only [ac, if_true]
        repeat' split
        all_goals omega
      · have := w2 ac
        simp only [ac, show ¬ (1 = 0) by decide, if_false]
        repeat' split
        all_goals omega
    · split <;> omega
    · intro z; rw [if_pos z]
    · intro z; rw [if_neg (by omega)]; omega
  unfold lfH lfc ijL
  rw [if_pos rfl, List.map_map, List.any_eq_true]
  constructor
  · rintro ⟨p, hp, hq⟩
    obtain ⟨i, hi, rfl⟩ := List.mem_map.1 hp
    have hi := List.mem_range.1 hi
    obtain ⟨j, hj, h1, h2, _⟩ := e i hi
    rw [Bool.and_eq_true] at hq
    have h3 := eq_of_beq hq.2
    dsimp only [Function.comp] at h3
    rw [h2] at h3
    rw [← h3]
    exact (wq j hj).2
  · intro z
    obtain ⟨j, hj, rfl⟩ := hW.2.2.2.2.2.2.2.1 c d hc z
    have hi : (if g % 2 = 0 then j else dLn E d - 1 - j) < dLn E d := by split <;> omega
    obtain ⟨j', hj', h1, h2, h3, h4, h5⟩ := e _ hi
    refine ⟨_, List.mem_map.2 ⟨_, List.mem_range.2 hi, rfl⟩, ?_⟩
    rw [Bool.and_eq_true]
    refine ⟨h1, ?_⟩
    dsimp only [Function.comp]
    rw [h2]
    have : j' = j := by
      by_cases o : g % 2 = 0
      · have := h4 o; rw [if_pos o] at this; exact this
      · have := h5 (by omega); rw [if_neg o] at this; omega
    rw [this]
    simp
end MS2
