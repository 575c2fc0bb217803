/-! the joiner of the reference -/
section JOINM
variable {E b W S o : Nat → Nat} {Ch : Nat}
def MJ (E b : Nat → Nat) (h : Hp) : Prop := MSw h E ∧ ∀ d, d < E 2 → hI h 80 d = nI (b d) ∧ b d < 4
theorem MJ.cz {h g : Hp} {Z : List Nat} (hM : MJ E b h) (hz : Fz Z h g) (h1 : ∀ z, z ∈ Z → 30 ≤ z % 1000000) (h2 : ∀ z, z ∈ Z → z % 1000000 ≠ 66 ∧ z % 1000000 ≠ 76 ∧ z % 1000000 ≠ 77 ∧ z % 1000000 ≠ 78 ∧ z % 1000000 ≠ 80) : MJ E b g :=
  ⟨hM.1.cz hz h1 (fun z q => ⟨(h2 z q).1, (h2 z q).2.1, (h2 z q).2.2.1, (h2 z q).2.2.2.1⟩), fun d hd => by rw [hz.I (a := 80) (fun z q => (h2 z q).2.2.2.2)]; exact hM.2 d hd⟩
theorem l_249a {h : Hp} (hW : WF E) (hM : MJ E b h) : ∀ r d m, d + r = E 2 → l_249_20 (r + 1 + m) (some 64) (nI (mkM (fun d => decide (b d ≠ dHg E d)) d)) (nI d) h = b_249_55 (some 64) (nI (chM E b)) h := by
  obtain ⟨⟨hF, hE, hS⟩, hb⟩ := id hM
  have w2 := hW.2.2.1
  intro r
  induction r with
  | zero =>
    intro d m hd
    obtain rfl : d = E 2 := by omega
    rw [show 0 + 1 + m = m + 1 by omega, l_249_20, b_249_20]
    simp (disch := first | assumption | (repeat' (first | apply fx_sI | apply fx_sJ | assumption | omega))) only [bnd_e, grd_e, grd0, grd1, Option.bind_some, Option.isSome_some, gQ30_0, gQ30_1, gQ30_2, gQ30_3, gQ30_4, gQ30_5, gQ30_6, gQ30_7, gQ30_8, gQ30_9, gQ31_0, gQ33_0, gQ33_1, gQ36_0, gQ36_1, gQ39_0, gQ39_3, gQ39_4, gQ39_6, gQ39_8, gQ39_10, gQ39_11, gQ39_12, gQ48_0, gQ48_1, gQ51_2, gQ53_0, gQ53_1, gQ60_0, gQ60_1, gQ60_2, gQ64_1, gQ64_14, gQ64_15, gQ64_16, gQ64_17, gQ64_18, gQ64_19, gQ64_20, gQ64_21, gQ64_24, gQ64_25, gQ64_27, gQ64_28, gQ64_29, gQ64_30, gQ64_31, gQ64_34, gQ64_35, gQ64_36, gQ64_39, gQ64_40, gQ64_41, gQ64_43, gQ64_44, gQ64_48, gQ64_50, gQ64_51, gQ64_52, gQ64_53, gQ64_54, gQ64_58, gQ64_59, gI30, gJ30, pI30, pJ30, rC30, gI31, gJ31, pI31, pJ31, rC31, gI33, gJ33, pI33, pJ33, rC33, gI36, gJ36, pI36, pJ36, rC36, gI39, gJ39, pI39, pJ39, rC39, gI48, gJ48, pI48, pJ48, rC48, gI51, gJ51, pI51, pJ51, rC51, gI53, gJ53, pI53, pJ53, rC53, gI60, gJ60, pI60, pJ60, rC60, gI64, gJ64, pI64, pJ64, rC64, hF, s_203 hF hE, nI_leI, Nat.le_refl, if_true]
    rfl
  | succ r ih =>
    intro d m hd
    have ih' := ih (d + 1) m (by omega)
    have es : mkM (fun d => decide (b d ≠ dHg E d)) (d + 1) = mkM (fun d => decide (b d ≠ dHg E d)) d ||| (if decide (b d ≠ dHg E d) = true then 2 ^ d else 0) := rfl
    rw [es] at ih'
    generalize mkM (fun d => decide (b d ≠ dHg E d)) d = v at *
    have cd := hb d (by omega)
    have hg := hW.hg (show d < E 2 by omega)
    have e4 : E (110 + 10 * d + 4) = dHg E d := by unfold dHg; congr 1; omega
    rw [show r + 1 + 1 + m = (r + 1 + m) + 1 by omega, l_249_20, b_249_20]
    simp (disch := first | assumption | (repeat' (first | apply fx_sI | apply fx_sJ | assumption | omega))) only [bnd_e, grd_e, grd0, grd1, Option.bind_some, Option.isSome_some, gQ30_0, gQ30_1, gQ30_2, gQ30_3, gQ30_4, gQ30_5, gQ30_6, gQ30_7, gQ30_8, gQ30_9, gQ31_0, gQ33_0, gQ33_1, gQ36_0, gQ36_1, gQ39_0, gQ39_3, gQ39_4, gQ39_6, gQ39_8, gQ39_10, gQ39_11, gQ39_12, gQ48_0, gQ48_1, gQ51_2, gQ53_0, gQ53_1, gQ60_0, gQ60_1, gQ60_2, gQ64_1, gQ64_14, gQ64_15, gQ64_16, gQ64_17, gQ64_18, gQ64_19, gQ64_20, gQ64_21, gQ64_24, gQ64_25, gQ64_27, gQ64_28, gQ64_29, gQ64_30, gQ64_31, gQ64_34, gQ64_35, gQ64_36, gQ64_39, gQ64_40, gQ64_41, gQ64_43, gQ64_44, gQ64_48, gQ64_50, gQ64_51, gQ64_52, gQ64_53, gQ64_54, gQ64_58, gQ64_59, gI30, gJ30, pI30, pJ30, rC30, gI31, gJ31, pI31, pJ31, rC31, gI33, gJ33, pI33, pJ33, rC33, gI36, gJ36, pI36, pJ36, rC36, gI39, gJ39, pI39, pJ39, rC39, gI48, gJ48, pI48, pJ48, rC48, gI51, gJ51, pI51, pJ51, rC51, gI53, gJ53, pI53, pJ53, rC53, gI60, gJ60, pI60, pJ60, rC60, gI64, gJ64, pI64, pJ64, rC64, hF, s_203 hF hE, nI_leI, show ¬ E 2 ≤ d by omega, if_false]
    rw [b_249_28]
    simp (disch := first | assumption | (repeat' (first | apply fx_sI | apply fx_sJ | assumption | omega))) only [bnd_e, grd_e, grd0, grd1, Option.bind_some, Option.isSome_some, gQ30_0, gQ30_1, gQ30_2, gQ30_3, gQ30_4, gQ30_5, gQ30_6, gQ30_7, gQ30_8, gQ30_9, gQ31_0, gQ33_0, gQ33_1, gQ36_0, gQ36_1, gQ39_0, gQ39_3, gQ39_4, gQ39_6, gQ39_8, gQ39_10, gQ39_11, gQ39_12, gQ48_0, gQ48_1, gQ51_2, gQ53_0, gQ53_1, gQ60_0, gQ60_1, gQ60_2, gQ64_1, gQ64_14, gQ64_15, gQ64_16, gQ64_17, gQ64_18, gQ64_19, gQ64_20, gQ64_21, gQ64_24, gQ64_25, gQ64_27, gQ64_28, gQ64_29, gQ64_30, gQ64_31, gQ64_34, gQ64_35, gQ64_36, gQ64_39, gQ64_40, gQ64_41, gQ64_43, gQ64_44, gQ64_48, gQ64_50, gQ64_51, gQ64_52, gQ64_53, gQ64_54, gQ64_58, gQ64_59, gI30, gJ30, pI30, pJ30, rC30, gI31, gJ31, pI31, pJ31, rC31, gI33, gJ33, pI33, pJ33, rC33, gI36, gJ36, pI36, pJ36, rC36, gI39, gJ39, pI39, pJ39, rC39, gI48, gJ48, pI48, pJ48, rC48, gI51, gJ51, pI51, pJ51, rC51, gI53, gJ53, pI53, pJ53, rC53, gI60, gJ60, pI60, pJ60, rC60, gI64, gJ64, pI64, pJ64, rC64, aI27, aL27, aI28, aL28, aI32, wI32, aL32, aI34, wI34, aL34, aI35, wI35, aL35, aI37, wI37, aL37, aI38, wI38, aL38, aJ40, wJ40, aL40, aI41, wI41, aL41, aI42, wI42, aL42, aI43, wI43, aL43, aI44, wI44, aL44, aI45, wI45, aL45, aI46, wI46, aL46, aI47, wI47, aL47, aI49, wI49, aL49, aI50, wI50, aL50, aI52, wI52, aL52, aI54, wI54, aL54, aI55, wI55, aL55, aL56, aL57, aL58, aI59, wI59, aL59, aI61, wI61, aL61, aL62, aI63, wI63, aL63, aI65, wI65, aL65, aI66, wI66, aL66, aI67, wI67, aL67, aI68, wI68, aL68, aI69, wI69, aL69, aJ70, wJ70, aL70, aJ71, wJ71, aL71, aJ72, wJ72, aL72, aZ73, wZ73, aL73, aI74, wI74, aL74, aI75, wI75, aL75, aJ76, wJ76, aL76, aJ77, wJ77, aL77, aI78, wI78, aL78, aI79, wI79, aL79, aI80, wI80, aL80, aI81, wI81, aL81, aI82, wI82, aL82, aI83, wI83, aL83, aI84, wI84, aL84, aI85, wI85, aL85, aI86, wI86, aL86, aI87, wI87, aL87, aI88, wI88, aL88, aI89, wI89, aL89, aI90, wI90, aL90, aI91, wI91, aL91, aI92, wI92, aL92, aI93, wI93, aL93, aI94, wI94, aL94, aZ95, wZ95, aL95, aI96, wI96, aL96, aJ97, wJ97, aL97, hF, cd.1, s_205 hF hE (show d < 10 by omega) (show 4 < 10 by omega), e4, nI_eq]
    by_cases c : b d = dHg E d
    · rw [if_pos c, b_249_49, bnd_e, nI_add]
      rw [if_neg (by simp [c]), Nat.or_zero] at ih'
      exact ih'
    · rw [if_neg c, b_249_43, nI_1shl (by omega), fa_or, bnd_e, b_249_49, bnd_e, nI_add]
      rw [if_pos (by simp [c])] at ih'
      exact ih'
theorem l_249t {s : Nat} {k64 : Option Nat → Int32 → Int32 → Hp → Option (Int32 × Hp)} {v1 : Int32} (hW : WF E) (hs : s < 1024) : ∀ r d m h, d + r = E 2 → MJ E b h → (∀ i, i < d → hI h 79 i = nI (xsH b (dHg E) s i)) → ∃ g, l_249_81 k64 (r + 1 + m) (some 64) v1 (nI s) (nI d) h = b_249_124 k64 (some 64) v1 (nI s) g ∧ Fz [79] h g ∧ ∀ i, i < E 2 → hI g 79 i = nI (xsH b (dHg E) s i) := by
  have w2 := hW.2.2.1
  intro r
  induction r with
  | zero =>
    intro d m h hd hM ht
    obtain ⟨⟨hF, hE, hS⟩, hb⟩ := id hM
    obtain rfl : d = E 2 := by omega
    refine ⟨h, ?_, Fz.rfl', ht⟩
    rw [show 0 + 1 + m = m + 1 by omega, l_249_81, b_249_81]
    simp (disch := first | assumption | (repeat' (first | apply fx_sI | apply fx_sJ | assumption | omega))) only [bnd_e, grd_e, grd0, grd1, Option.bind_some, Option.isSome_some, gQ30_0, gQ30_1, gQ30_2, gQ30_3, gQ30_4, gQ30_5, gQ30_6, gQ30_7, gQ30_8, gQ30_9, gQ31_0, gQ33_0, gQ33_1, gQ36_0, gQ36_1, gQ39_0, gQ39_3, gQ39_4, gQ39_6, gQ39_8, gQ39_10, gQ39_11, gQ39_12, gQ48_0, gQ48_1, gQ51_2, gQ53_0, gQ53_1, gQ60_0, gQ60_1, gQ60_2, gQ64_1, gQ64_14, gQ64_15, gQ64_16, gQ64_17, gQ64_18, gQ64_19, gQ64_20, gQ64_21, gQ64_24, gQ64_25, gQ64_27, gQ64_28, gQ64_29, gQ64_30, gQ64_31, gQ64_34, gQ64_35, gQ64_36, gQ64_39, gQ64_40, gQ64_41, gQ64_43, gQ64_44, gQ64_48, gQ64_50, gQ64_51, gQ64_52, gQ64_53, gQ64_54, gQ64_58, gQ64_59, gI30, gJ30, pI30, pJ30, rC30, gI31, gJ31, pI31, pJ31, rC31, gI33, gJ33, pI33, pJ33, rC33, gI36, gJ36, pI36, pJ36, rC36, gI39, gJ39, pI39, pJ39, rC39, gI48, gJ48, pI48, pJ48, rC48, gI51, gJ51, pI51, pJ51, rC51, gI53, gJ53, pI53, pJ53, rC53, gI60, gJ60, pI60, pJ60, rC60, gI64, gJ64, pI64, pJ64, rC64, hF, s_203 hF hE, nI_leI, Nat.le_refl, if_true]
  | succ r ih =>
    intro d m h hd hM ht
    obtain ⟨⟨hF, hE, hS⟩, hb⟩ := id hM
    have z1 : Fz [79] h (sI h 79 d (nI (xsH b (dHg E) s d))) := Fz.sI Fz.rfl' (Or.inl (by simp))
    obtain ⟨g, a1, a2, a3⟩ := ih (d + 1) m _ (by omega) (hM.cz z1 (by decide) (by decide)) (fun i hi => by
      rw [hI_sI]
      by_cases c : i = d
      · rw [if_pos ⟨rfl, c⟩, c]
      · rw [if_neg (fun z => c z.2)]; exact ht i (by omega))
    refine ⟨g, ?_, z1.then a2, a3⟩
    have e4 : E (110 + 10 * d + 4) = dHg E d := by unfold dHg; congr 1; omega
    rw [show r + 1 + 1 + m = (r + 1 + m) + 1 by omega, l_249_81, b_249_81]
    simp (disch := first | assumption | (repeat' (first | apply fx_sI | apply fx_sJ | assumption | omega))) only [bnd_e, grd_e, grd0, grd1, Option.bind_some, Option.isSome_some, gQ30_0, gQ30_1, gQ30_2, gQ30_3, gQ30_4, gQ30_5, gQ30_6, gQ30_7, gQ30_8, gQ30_9, gQ31_0, gQ33_0, gQ33_1, gQ36_0, gQ36_1, gQ39_0, gQ39_3, gQ39_4, gQ39_6, gQ39_8, gQ39_10, gQ39_11, gQ39_12, gQ48_0, gQ48_1, gQ51_2, gQ53_0, gQ53_1, gQ60_0, gQ60_1, gQ60_2, gQ64_1, gQ64_14, gQ64_15, gQ64_16, gQ64_17, gQ64_18, gQ64_19, gQ64_20, gQ64_21, gQ64_24, gQ64_25, gQ64_27, gQ64_28, gQ64_29, gQ64_30, gQ64_31, gQ64_34, gQ64_35, gQ64_36, gQ64_39, gQ64_40, gQ64_41, gQ64_43, gQ64_44, gQ64_48, gQ64_50, gQ64_51, gQ64_52, gQ64_53, gQ64_54, gQ64_58, gQ64_59, gI30, gJ30, pI30, pJ30, rC30, gI31, gJ31, pI31, pJ31, rC31, gI33, gJ33, pI33, pJ33, rC33, gI36, gJ36, pI36, pJ36, rC36, gI39, gJ39, pI39, pJ39, rC39, gI48, gJ48, pI48, pJ48, rC48, gI51, gJ51, pI51, pJ51, rC51, gI53, gJ53, pI53, pJ53, rC53, gI60, gJ60, pI60, pJ60, rC60, gI64, gJ64, pI64, pJ64, rC64, hF, s_203 hF hE, nI_leI, show ¬ E 2 ≤ d by omega, if_false]
    rw [b_249_89]
    simp (disch := first | assumption | (repeat' (first | apply fx_sI | apply fx_sJ | assumption | omega))) only [bnd_e, grd_e, grd0, grd1, Option.bind_some, Option.isSome_some, gQ30_0, gQ30_1, gQ30_2, gQ30_3, gQ30_4, gQ30_5, gQ30_6, gQ30_7, gQ30_8, gQ30_9, gQ31_0, gQ33_0, gQ33_1, gQ36_0, gQ36_1, gQ39_0, gQ39_3, gQ39_4, gQ39_6, gQ39_8, gQ39_10, gQ39_11, gQ39_12, gQ48_0, gQ48_1, gQ51_2, gQ53_0, gQ53_1, gQ60_0, gQ60_1, gQ60_2, gQ64_1, gQ64_14, gQ64_15, gQ64_16, gQ64_17, gQ64_18, gQ64_19, gQ64_20, gQ64_21, gQ64_24, gQ64_25, gQ64_27, gQ64_28, gQ64_29, gQ64_30, gQ64_31, gQ64_34, gQ64_35, gQ64_36, gQ64_39, gQ64_40, gQ64_41, gQ64_43, gQ64_44, gQ64_48, gQ64_50, gQ64_51, gQ64_52, gQ64_53, gQ64_54, gQ64_58, gQ64_59, gI30, gJ30, pI30, pJ30, rC30, gI31, gJ31, pI31, pJ31, rC31, gI33, gJ33, pI33, pJ33, rC33, gI36, gJ36, pI36, pJ36, rC36, gI39, gJ39, pI39, pJ39, rC39, gI48, gJ48, pI48, pJ48, rC48, gI51, gJ51, pI51, pJ51, rC51, gI53, gJ53, pI53, pJ53, rC53, gI60, gJ60, pI60, pJ60, rC60, gI64, gJ64, pI64, pJ64, rC64, hF, s_183 (show s < 2147483648 by omega) (show d < 32 by omega), bI_0']
    have w : ∀ x : Int32, x = nI (xsH b (dHg E) s d) → b_249_117 k64 (l_249_81 k64 (r + 1 + m)) (some 64) v1 (nI s) (nI d) (some 79) (nI d) x h = b_249_124 k64 (some 64) v1 (nI s) g := by
      intro x hx
      rw [b_249_117, hx]
      simp (disch := first | assumption | (repeat' (first | apply fx_sI | apply fx_sJ | assumption | omega))) only [aI27, aL27, aI28, aL28, aI32, wI32, aL32, aI34, wI34, aL34, aI35, wI35, aL35, aI37, wI37, aL37, aI38, wI38, aL38, aJ40, wJ40, aL40, aI41, wI41, aL41, aI42, wI42, aL42, aI43, wI43, aL43, aI44, wI44, aL44, aI45, wI45, aL45, aI46, wI46, aL46, aI47, wI47, aL47, aI49, wI49, aL49, aI50, wI50, aL50, aI52, wI52, aL52, aI54, wI54, aL54, aI55, wI55, aL55, aL56, aL57, aL58, aI59, wI59, aL59, aI61, wI61, aL61, aL62, aI63, wI63, aL63, aI65, wI65, aL65, aI66, wI66, aL66, aI67, wI67, aL67, aI68, wI68, aL68, aI69, wI69, aL69, aJ70, wJ70, aL70, aJ71, wJ71, aL71, aJ72, wJ72, aL72, aZ73, wZ73, aL73, aI74, wI74, aL74, aI75, wI75, aL75, aJ76, wJ76, aL76, aJ77, wJ77, aL77, aI78, wI78, aL78, aI79, wI79, aL79, aI80, wI80, aL80, aI81, wI81, aL81, aI82, wI82, aL82, aI83, wI83, aL83, aI84, wI84, aL84, aI85, wI85, aL85, aI86, wI86, aL86, aI87, wI87, aL87, aI88, wI88, aL88, aI89, wI89, aL89, aI90, wI90, aL90, aI91, wI91, aL91, aI92, wI92, aL92, aI93, wI93, aL93, aI94, wI94, aL94, aZ95, wZ95, aL95, aI96, wI96, aL96, aJ97, wJ97, aL97, hF, Option.bind_some, bnd_e, nI_add]
      exact a1
    cases hx : s.testBit d
    · rw [if_pos rfl, b_249_111]
      simp (disch := first | assumption | (repeat' (first | apply fx_sI | apply fx_sJ | assumption | omega))) only [bnd_e, grd_e, grd0, grd1, Option.bind_some, Option.isSome_some, gQ30_0, gQ30_1, gQ30_2, gQ30_3, gQ30_4, gQ30_5, gQ30_6, gQ30_7, gQ30_8, gQ30_9, gQ31_0, gQ33_0, gQ33_1, gQ36_0, gQ36_1, gQ39_0, gQ39_3, gQ39_4, gQ39_6, gQ39_8, gQ39_10, gQ39_11, gQ39_12, gQ48_0, gQ48_1, gQ51_2, gQ53_0, gQ53_1, gQ60_0, gQ60_1, gQ60_2, gQ64_1, gQ64_14, gQ64_15, gQ64_16, gQ64_17, gQ64_18, gQ64_19, gQ64_20, gQ64_21, gQ64_24, gQ64_25, gQ64_27, gQ64_28, gQ64_29, gQ64_30, gQ64_31, gQ64_34, gQ64_35, gQ64_36, gQ64_39, gQ64_40, gQ64_41, gQ64_43, gQ64_44, gQ64_48, gQ64_50, gQ64_51, gQ64_52, gQ64_53, gQ64_54, gQ64_58, gQ64_59, gI30, gJ30, pI30, pJ30, rC30, gI31, gJ31, pI31, pJ31, rC31, gI33, gJ33, pI33, pJ33, rC33, gI36, gJ36, pI36, pJ36, rC36, gI39, gJ39, pI39, pJ39, rC39, gI48, gJ48, pI48, pJ48, rC48, gI51, gJ51, pI51, pJ51, rC51, gI53, gJ53, pI53, pJ53, rC53, gI60, gJ60, pI60, pJ60, rC60, gI64, gJ64, pI64, pJ64, rC64, hF, s_205 hF hE (show d < 10 by omega) (show 4 < 10 by omega), e4]
      exact w _ (by unfold xsH; rw [hx, if_neg (by decide)])
    · rw [if_neg (by decide), b_249_102]
      simp (disch := first | assumption | (repeat' (first | apply fx_sI | apply fx_sJ | assumption | omega))) only [bnd_e, grd_e, grd0, grd1, Option.bind_some, Option.isSome_some, gQ30_0, gQ30_1, gQ30_2, gQ30_3, gQ30_4, gQ30_5, gQ30_6, gQ30_7, gQ30_8, gQ30_9, gQ31_0, gQ33_0, gQ33_1, gQ36_0, gQ36_1, gQ39_0, gQ39_3, gQ39_4, gQ39_6, gQ39_8, gQ39_10, gQ39_11, gQ39_12, gQ48_0, gQ48_1, gQ51_2, gQ53_0, gQ53_1, gQ60_0, gQ60_1, gQ60_2, gQ64_1, gQ64_14, gQ64_15, gQ64_16, gQ64_17, gQ64_18, gQ64_19, gQ64_20, gQ64_21, gQ64_24, gQ64_25, gQ64_27, gQ64_28, gQ64_29, gQ64_30, gQ64_31, gQ64_34, gQ64_35, gQ64_36, gQ64_39, gQ64_40, gQ64_41, gQ64_43, gQ64_44, gQ64_48, gQ64_50, gQ64_51, gQ64_52, gQ64_53, gQ64_54, gQ64_58, gQ64_59, gI30, gJ30, pI30, pJ30, rC30, gI31, gJ31, pI31, pJ31, rC31, gI33, gJ33, pI33, pJ33, rC33, gI36, gJ36, pI36, pJ36, rC36, gI39, gJ39, pI39, pJ39, rC39, gI48, gJ48, pI48, pJ48, rC48, gI51, gJ51, pI51, pJ51, rC51, gI53, gJ53, pI53, pJ53, rC53, gI60, gJ60, pI60, pJ60, rC60, gI64, gJ64, pI64, pJ64, rC64, aI27, aL27, aI28, aL28, aI32, wI32, aL32, aI34, wI34, aL34, aI35, wI35, aL35, aI37, wI37, aL37, aI38, wI38, aL38, aJ40, wJ40, aL40, aI41, wI41, aL41, aI42, wI42, aL42, aI43, wI43, aL43, aI44, wI44, aL44, aI45, wI45, aL45, aI46, wI46, aL46, aI47, wI47, aL47, aI49, wI49, aL49, aI50, wI50, aL50, aI52, wI52, aL52, aI54, wI54, aL54, aI55, wI55, aL55, aL56, aL57, aL58, aI59, wI59, aL59, aI61, wI61, aL61, aL62, aI63, wI63, aL63, aI65, wI65, aL65, aI66, wI66, aL66, aI67, wI67, aL67, aI68, wI68, aL68, aI69, wI69, aL69, aJ70, wJ70, aL70, aJ71, wJ71, aL71, aJ72, wJ72, aL72, aZ73, wZ73, aL73, aI74, wI74, aL74, aI75, wI75, aL75, aJ76, wJ76, aL76, aJ77, wJ77, aL77, aI78, wI78, aL78, aI79, wI79, aL79, aI80, wI80, aL80, aI81, wI81, aL81, aI82, wI82, aL82, aI83, wI83, aL83, aI84, wI84, aL84, aI85, wI85, aL85, aI86, wI86, aL86, aI87, wI87, aL87, aI88, wI88, aL88, aI89, wI89, aL89, aI90, wI90, aL90, aI91, wI91, aL91, aI92, wI92, aL92, aI93, wI93, aL93, aI94, wI94, aL94, aZ95, wZ95, aL95, aI96, wI96, aL96, aJ97, wJ97, aL97, hF, (hb d (show d < E 2 by omega)).1]
      exact w _ (by unfold xsH; rw [hx, if_pos rfl])
theorem l_249m {h : Hp} {s st : Nat} {k64 : Option Nat → Int32 → Int32 → Hp → Option (Int32 × Hp)} (hW : WF E) (hM : MJ E b h) (hCh : Ch < 1024) (hs : sbs s Ch) (hst : st ≤ 1000) (hw : ∀ x, s < x → sbs x Ch → hI h 85 x = nI (W x) ∧ W x ≤ 100) : ∀ r d m, d + r = E 2 → mnF W Ch s st d ≤ 1000 → l_249_154 k64 (r + 1 + m) (some 64) (nI Ch) (nI s) (nI (mnF W Ch s st d)) (nI d) h = b_249_214 k64 (some 64) (nI Ch) (nI s) (nI (mnF W Ch s st (E 2))) h := by
  obtain ⟨⟨hF, hE, hS⟩, hb⟩ := id hM
  have w2 := hW.2.2.1
  have sl := sbs_le hs
  intro r
  induction r with
  | zero =>
    intro d m hd _
    obtain rfl : d = E 2 := by omega
    rw [show 0 + 1 + m = m + 1 by omega, l_249_154, b_249_154]
    simp (disch := first | assumption | (repeat' (first | apply fx_sI | apply fx_sJ | assumption | omega))) only [bnd_e, grd_e, grd0, grd1, Option.bind_some, Option.isSome_some, gQ30_0, gQ30_1, gQ30_2, gQ30_3, gQ30_4, gQ30_5, gQ30_6, gQ30_7, gQ30_8, gQ30_9, gQ31_0, gQ33_0, gQ33_1, gQ36_0, gQ36_1, gQ39_0, gQ39_3, gQ39_4, gQ39_6, gQ39_8, gQ39_10, gQ39_11, gQ39_12, gQ48_0, gQ48_1, gQ51_2, gQ53_0, gQ53_1, gQ60_0, gQ60_1, gQ60_2, gQ64_1, gQ64_14, gQ64_15, gQ64_16, gQ64_17, gQ64_18, gQ64_19, gQ64_20, gQ64_21, gQ64_24, gQ64_25, gQ64_27, gQ64_28, gQ64_29, gQ64_30, gQ64_31, gQ64_34, gQ64_35, gQ64_36, gQ64_39, gQ64_40, gQ64_41, gQ64_43, gQ64_44, gQ64_48, gQ64_50, gQ64_51, gQ64_52, gQ64_53, gQ64_54, gQ64_58, gQ64_59, gI30, gJ30, pI30, pJ30, rC30, gI31, gJ31, pI31, pJ31, rC31, gI33, gJ33, pI33, pJ33, rC33, gI36, gJ36, pI36, pJ36, rC36, gI39, gJ39, pI39, pJ39, rC39, gI48, gJ48, pI48, pJ48, rC48, gI51, gJ51, pI51, pJ51, rC51, gI53, gJ53, pI53, pJ53, rC53, gI60, gJ60, pI60, pJ60, rC60, gI64, gJ64, pI64, pJ64, rC64, hF, s_203 hF hE, nI_leI, Nat.le_refl, if_true]
  | succ r ih =>
    intro d m hd hm
    have es := mnF_s W Ch s st d
    have ih' := ih (d + 1) m (by omega)
    rw [es] at ih'
    generalize mnF W Ch s st d = v at *
    have nxt : ∀ y, y ≤ 1000 → (if (Ch.testBit d && !s.testBit d) = true then (if W (s ||| 2 ^ d) < v then W (s ||| 2 ^ d) else v) else v) = y → b_249_208 k64 (l_249_154 k64 (r + 1 + m)) (some 64) (nI Ch) (nI s) (nI y) (nI d) h = b_249_214 k64 (some 64) (nI Ch) (nI s) (nI (mnF W Ch s st (E 2))) h := by
      intro y hy e
      rw [b_249_208, bnd_e, nI_add]
      rw [e] at ih'
      exact ih' hy
    rw [show r + 1 + 1 + m = (r + 1 + m) + 1 by omega, l_249_154, b_249_154]
    simp (disch := first | assumption | (repeat' (first | apply fx_sI | apply fx_sJ | assumption | omega))) only [bnd_e, grd_e, grd0, grd1, Option.bind_some, Option.isSome_some, gQ30_0, gQ30_1, gQ30_2, gQ30_3, gQ30_4, gQ30_5, gQ30_6, gQ30_7, gQ30_8, gQ30_9, gQ31_0, gQ33_0, gQ33_1, gQ36_0, gQ36_1, gQ39_0, gQ39_3, gQ39_4, gQ39_6, gQ39_8, gQ39_10, gQ39_11, gQ39_12, gQ48_0, gQ48_1, gQ51_2, gQ53_0, gQ53_1, gQ60_0, gQ60_1, gQ60_2, gQ64_1, gQ64_14, gQ64_15, gQ64_16, gQ64_17, gQ64_18, gQ64_19, gQ64_20, gQ64_21, gQ64_24, gQ64_25, gQ64_27, gQ64_28, gQ64_29, gQ64_30, gQ64_31, gQ64_34, gQ64_35, gQ64_36, gQ64_39, gQ64_40, gQ64_41, gQ64_43, gQ64_44, gQ64_48, gQ64_50, gQ64_51, gQ64_52, gQ64_53, gQ64_54, gQ64_58, gQ64_59, gI30, gJ30, pI30, pJ30, rC30, gI31, gJ31, pI31, pJ31, rC31, gI33, gJ33, pI33, pJ33, rC33, gI36, gJ36, pI36, pJ36, rC36, gI39, gJ39, pI39, pJ39, rC39, gI48, gJ48, pI48, pJ48, rC48, gI51, gJ51, pI51, pJ51, rC51, gI53, gJ53, pI53, pJ53, rC53, gI60, gJ60, pI60, pJ60, rC60, gI64, gJ64, pI64, pJ64, rC64, hF, s_203 hF hE, nI_leI, show ¬ E 2 ≤ d by omega, if_false]
    rw [b_249_163]
    simp (disch := first | assumption | (repeat' (first | apply fx_sI | apply fx_sJ | assumption | omega))) only [s_183 (show Ch < 2147483648 by omega) (show d < 32 by omega), Option.bind_some, bI_0']
    cases hc : Ch.testBit d
    · rw [if_pos rfl]
      exact nxt v hm (by rw [hc, Bool.false_and, if_neg (by decide)])
    · rw [if_neg (by decide), b_249_172]
      simp (disch := first | assumption | (repeat' (first | apply fx_sI | apply fx_sJ | assumption | omega))) only [s_183 (show s < 2147483648 by omega) (show d < 32 by omega), Option.bind_some, bI_0']
      cases hx : s.testBit d
      · rw [if_neg (fun z => z rfl), b_249_181]
        have g1 := or_gt hx
        have g2 := sbs_or hs hc
        have g3 := sbs_le g2
        obtain ⟨q1, q2⟩ := hw _ g1 g2
        simp (disch := first | assumption | (repeat' (first | apply fx_sI | apply fx_sJ | assumption | omega))) only [bnd_e, grd_e, grd0, grd1, Option.bind_some, Option.isSome_some, gQ30_0, gQ30_1, gQ30_2, gQ30_3, gQ30_4, gQ30_5, gQ30_6, gQ30_7, gQ30_8, gQ30_9, gQ31_0, gQ33_0, gQ33_1, gQ36_0, gQ36_1, gQ39_0, gQ39_3, gQ39_4, gQ39_6, gQ39_8, gQ39_10, gQ39_11, gQ39_12, gQ48_0, gQ48_1, gQ51_2, gQ53_0, gQ53_1, gQ60_0, gQ60_1, gQ60_2, gQ64_1, gQ64_14, gQ64_15, gQ64_16, gQ64_17, gQ64_18, gQ64_19, gQ64_20, gQ64_21, gQ64_24, gQ64_25, gQ64_27, gQ64_28, gQ64_29, gQ64_30, gQ64_31, gQ64_34, gQ64_35, gQ64_36, gQ64_39, gQ64_40, gQ64_41, gQ64_43, gQ64_44, gQ64_48, gQ64_50, gQ64_51, gQ64_52, gQ64_53, gQ64_54, gQ64_58, gQ64_59, gI30, gJ30, pI30, pJ30, rC30, gI31, gJ31, pI31, pJ31, rC31, gI33, gJ33, pI33, pJ33, rC33, gI36, gJ36, pI36, pJ36, rC36, gI39, gJ39, pI39, pJ39, rC39, gI48, gJ48, pI48, pJ48, rC48, gI51, gJ51, pI51, pJ51, rC51, gI53, gJ53, pI53, pJ53, rC53, gI60, gJ60, pI60, pJ60, rC60, gI64, gJ64, pI64, pJ64, rC64, hF, nI_1shl (show d < 31 by omega), fa_or, aI_n (K85 hF) (L85 hF), q1, nI_leI]
        by_cases cv : v ≤ W (s ||| 2 ^ d)
        · rw [if_pos cv]
          exact nxt v hm (by rw [hc, hx, if_pos (by decide), if_neg (by omega)])
        · rw [if_neg cv, b_249_196]
          simp (disch := first | assumption | (repeat' (first | apply fx_sI | apply fx_sJ | assumption | omega))) only [bnd_e, grd_e, grd0, grd1, Option.bind_some, Option.isSome_some, gQ30_0, gQ30_1, gQ30_2, gQ30_3, gQ30_4, gQ30_5, gQ30_6, gQ30_7, gQ30_8, gQ30_9, gQ31_0, gQ33_0, gQ33_1, gQ36_0, gQ36_1, gQ39_0, gQ39_3, gQ39_4, gQ39_6, gQ39_8, gQ39_10, gQ39_11, gQ39_12, gQ48_0, gQ48_1, gQ51_2, gQ53_0, gQ53_1, gQ60_0, gQ60_1, gQ60_2, gQ64_1, gQ64_14, gQ64_15, gQ64_16, gQ64_17, gQ64_18, gQ64_19, gQ64_20, gQ64_21, gQ64_24, gQ64_25, gQ64_27, gQ64_28, gQ64_29, gQ64_30, gQ64_31, gQ64_34, gQ64_35, gQ64_36, gQ64_39, gQ64_40, gQ64_41, gQ64_43, gQ64_44, gQ64_48, gQ64_50, gQ64_51, gQ64_52, gQ64_53, gQ64_54, gQ64_58, gQ64_59, gI30, gJ30, pI30, pJ30, rC30, gI31, gJ31, pI31, pJ31, rC31, gI33, gJ33, pI33, pJ33, rC33, gI36, gJ36, pI36, pJ36, rC36, gI39, gJ39, pI39, pJ39, rC39, gI48, gJ48, pI48, pJ48, rC48, gI51, gJ51, pI51, pJ51, rC51, gI53, gJ53, pI53, pJ53, rC53, gI60, gJ60, pI60, pJ60, rC60, gI64, gJ64, pI64, pJ64, rC64, hF, nI_1shl (show d < 31 by omega), fa_or, aI_n (K85 hF) (L85 hF), q1]
          exact nxt _ (by omega) (by rw [hc, hx, if_pos (by decide), if_pos (by omega)])
      · rw [if_pos (by decide)]
        exact nxt v hm (by rw [hc, hx, if_neg (by decide)])
/-- one set -/
theorem s_249s {h : Hp} {s : Nat} {k64 : Option Nat → Int32 → Int32 → Hp → Option (Int32 × Hp)} (hW : WF E) (hM : MJ E b h) (hCh : Ch < 1024) (hs : sbs s Ch) (hw : ∀ x, s < x → sbs x Ch → hI h 85 x = nI (W x) ∧ W x ≤ 100) (hv : pkE E b Ch W s ≤ 100) :
    ∃ g, b_249_79 k64 (some 64) (nI Ch) (nI s) h = b_249_240 k64 (some 64) (nI Ch) (nI s) g ∧ Fz [79, 84, 85] h g ∧ hI g 85 s = nI (pkE E b Ch W s) ∧ ∀ x, x ≠ s → hI g 85 x = hI h 85 x := by
  have w2 := hW.2.2.1
  have sl := sbs_le hs
  obtain ⟨m, hm⟩ := FU_ge (E 2 + 1) (by omega)
  obtain ⟨h1, a1, a2, a3⟩ := l_249t (s := s) (k64 := k64) (v1 := nI Ch) hW (by omega) (E 2) 0 m h (by omega) hM (fun i hi => absurd hi (Nat.not_lt_zero i))
  have M1 := hM.cz a2 (by decide) (by decide)
  have F1 := M1.1.1
  have e229 := s_229 (x := xsH b (dHg E) s) M1.1 w2 (fun i hi => ⟨a3 i hi, by
    unfold xsH
    split
    · exact (hM.2 i hi).2
    · exact hW.hg hi⟩)
  have pl := prs_le E (xsH b (dHg E) s) (E 2) w2
  have ev : pkE E b Ch W s = max (prs E (xsH b (dHg E) s) (E 2)) (if s = Ch then 0 else mnF W Ch s 1000 (E 2)) := rfl
  generalize hp : prs E (xsH b (dHg E) s) (E 2) = p at *
  generalize e1 : sI h1 84 s (nI p) = h2
  have z2 : Fz [84] h1 h2 := by rw [← e1]; exact Fz.sI Fz.rfl' (Or.inl (by simp))
  have M2 := M1.cz z2 (by decide) (by decide)
  have F2 := M2.1.1
  have hw2 : ∀ x, s < x → sbs x Ch → hI h2 85 x = nI (W x) ∧ W x ≤ 100 := fun x p1 p2 => by
    rw [z2.I (a := 85) (by decide), a2.I (a := 85) (by decide)]; exact hw x p1 p2
  have i84 : hI h2 84 s = nI p := by rw [← e1, hI_sI, if_pos ⟨rfl, rfl⟩]
  generalize hy : (if s = Ch then 0 else mnF W Ch s 1000 (E 2)) = y at *
  have fin : y ≤ 1000 → b_249_214 k64 (some 64) (nI Ch) (nI s) (nI y) h2 = b_249_240 k64 (some 64) (nI Ch) (nI s) (sI h2 85 s (nI (max p y))) := by
    intro hyl
    rw [b_249_214]
    simp (disch := first | assumption | (repeat' (first | apply fx_sI | apply fx_sJ | assumption | omega))) only [bnd_e, grd_e, grd0, grd1, Option.bind_some, Option.isSome_some, gQ30_0, gQ30_1, gQ30_2, gQ30_3, gQ30_4, gQ30_5, gQ30_6, gQ30_7, gQ30_8, gQ30_9, gQ31_0, gQ33_0, gQ33_1, gQ36_0, gQ36_1, gQ39_0, gQ39_3, gQ39_4, gQ39_6, gQ39_8, gQ39_10, gQ39_11, gQ39_12, gQ48_0, gQ48_1, gQ51_2, gQ53_0, gQ53_1, gQ60_0, gQ60_1, gQ60_2, gQ64_1, gQ64_14, gQ64_15, gQ64_16, gQ64_17, gQ64_18, gQ64_19, gQ64_20, gQ64_21, gQ64_24, gQ64_25, gQ64_27, gQ64_28, gQ64_29, gQ64_30, gQ64_31, gQ64_34, gQ64_35, gQ64_36, gQ64_39, gQ64_40, gQ64_41, gQ64_43, gQ64_44, gQ64_48, gQ64_50, gQ64_51, gQ64_52, gQ64_53, gQ64_54, gQ64_58, gQ64_59, gI30, gJ30, pI30, pJ30, rC30, gI31, gJ31, pI31, pJ31, rC31, gI33, gJ33, pI33, pJ33, rC33, gI36, gJ36, pI36, pJ36, rC36, gI39, gJ39, pI39, pJ39, rC39, gI48, gJ48, pI48, pJ48, rC48, gI51, gJ51, pI51, pJ51, rC51, gI53, gJ53, pI53, pJ53, rC53, gI60, gJ60, pI60, pJ60, rC60, gI64, gJ64, pI64, pJ64, rC64, F2, aI_n (K84 F2) (L84 F2), i84, nI_leI]
    have w : wI (some 85) (nI s) (nI (max p y)) h2 = some (sI h2 85 s (nI (max p y))) := wI_n (K85 F2) (by omega) (L85 F2) (show s < 1024 by omega) (by omega)
    by_cases c : y ≤ p
    · rw [if_pos c, b_249_233]
      simp (disch := first | assumption | (repeat' (first | apply fx_sI | apply fx_sJ | assumption | omega))) only [bnd_e, grd_e, grd0, grd1, Option.bind_some, Option.isSome_some, gQ30_0, gQ30_1, gQ30_2, gQ30_3, gQ30_4, gQ30_5, gQ30_6, gQ30_7, gQ30_8, gQ30_9, gQ31_0, gQ33_0, gQ33_1, gQ36_0, gQ36_1, gQ39_0, gQ39_3, gQ39_4, gQ39_6, gQ39_8, gQ39_10, gQ39_11, gQ39_12, gQ48_0, gQ48_1, gQ51_2, gQ53_0, gQ53_1, gQ60_0, gQ60_1, gQ60_2, gQ64_1, gQ64_14, gQ64_15, gQ64_16, gQ64_17, gQ64_18, gQ64_19, gQ64_20, gQ64_21, gQ64_24, gQ64_25, gQ64_27, gQ64_28, gQ64_29, gQ64_30, gQ64_31, gQ64_34, gQ64_35, gQ64_36, gQ64_39, gQ64_40, gQ64_41, gQ64_43, gQ64_44, gQ64_48, gQ64_50, gQ64_51, gQ64_52, gQ64_53, gQ64_54, gQ64_58, gQ64_59, gI30, gJ30, pI30, pJ30, rC30, gI31, gJ31, pI31, pJ31, rC31, gI33, gJ33, pI33, pJ33, rC33, gI36, gJ36, pI36, pJ36, rC36, gI39, gJ39, pI39, pJ39, rC39, gI48, gJ48, pI48, pJ48, rC48, gI51, gJ51, pI51, pJ51, rC51, gI53, gJ53, pI53, pJ53, rC53, gI60, gJ60, pI60, pJ60, rC60, gI64, gJ64, pI64, pJ64, rC64, F2, aI_n (K84 F2) (L84 F2), i84]
      rw [Nat.max_eq_left c] at w ⊢
      rw [b_249_239, w, Option.bind_some]
    · rw [if_neg c, b_249_229]
      rw [Nat.max_eq_right (by omega)] at w ⊢
      rw [b_249_239, w, Option.bind_some]
  have z3 : Fz [79, 84, 85] h (sI h2 85 s (nI (max p y))) := (a2.wid (by intro z hz; simp only [List.mem_cons, List.not_mem_nil, or_false] at hz ⊢; omega)).then ((z2.wid (by intro z hz; simp only [List.mem_cons, List.not_mem_nil, or_false] at hz ⊢; omega)).then (Fz.sI Fz.rfl' (Or.inl (by simp))))
  have yl : y ≤ 1000 := by rw [ev] at hv; omega
  refine ⟨_, ?_, z3, by rw [hI_sI, if_pos ⟨rfl, rfl⟩, ev], fun x hx => by rw [hI_sI, if_neg (fun z => hx z.2), z2.I (a := 85) (by decide), a2.I (a := 85) (by decide)]⟩
  rw [b_249_79, bnd_e, hm, a1, b_249_124]
  have w1 : wI (some 84) (nI s) (nI p) h1 = some h2 := by rw [wI_n (K84 F1) (by omega) (L84 F1) (show s < 1024 by omega) (by omega), e1]
  simp (disch := first | assumption | (repeat' (first | apply fx_sI | apply fx_sJ | assumption | omega))) only [bnd_e, grd_e, grd0, grd1, Option.bind_some, Option.isSome_some, gQ30_0, gQ30_1, gQ30_2, gQ30_3, gQ30_4, gQ30_5, gQ30_6, gQ30_7, gQ30_8, gQ30_9, gQ31_0, gQ33_0, gQ33_1, gQ36_0, gQ36_1, gQ39_0, gQ39_3, gQ39_4, gQ39_6, gQ39_8, gQ39_10, gQ39_11, gQ39_12, gQ48_0, gQ48_1, gQ51_2, gQ53_0, gQ53_1, gQ60_0, gQ60_1, gQ60_2, gQ64_1, gQ64_14, gQ64_15, gQ64_16, gQ64_17, gQ64_18, gQ64_19, gQ64_20, gQ64_21, gQ64_24, gQ64_25, gQ64_27, gQ64_28, gQ64_29, gQ64_30, gQ64_31, gQ64_34, gQ64_35, gQ64_36, gQ64_39, gQ64_40, gQ64_41, gQ64_43, gQ64_44, gQ64_48, gQ64_50, gQ64_51, gQ64_52, gQ64_53, gQ64_54, gQ64_58, gQ64_59, gI30, gJ30, pI30, pJ30, rC30, gI31, gJ31, pI31, pJ31, rC31, gI33, gJ33, pI33, pJ33, rC33, gI36, gJ36, pI36, pJ36, rC36, gI39, gJ39, pI39, pJ39, rC39, gI48, gJ48, pI48, pJ48, rC48, gI51, gJ51, pI51, pJ51, rC51, gI53, gJ53, pI53, pJ53, rC53, gI60, gJ60, pI60, pJ60, rC60, gI64, gJ64, pI64, pJ64, rC64, F1, e229, w1, nI_eq]
  by_cases c : s = Ch
  · rw [if_neg (fun z => z c), b_249_143, b_249_150, bnd_e, hm]
    rw [if_pos c] at hy
    have := l_249m (W := W) (st := 0) (k64 := k64) hW M2 hCh hs (by omega) hw2 (E 2) 0 m (by omega) (by show 0 ≤ 1000; omega)
    have m0 : mnF W Ch s 0 (E 2) = 0 := by
      have : ∀ n, mnF W Ch s 0 n = 0 := by
        intro n
        induction n with
        | zero => rfl
        | succ n ih =>
          rw [mnF_s, ih, c]
          cases Ch.testBit n <;> simp
      exact this _
    rw [m0] at this
    rw [← hy] at fin ⊢
    have this : l_249_154 k64 (E 2 + 1 + m) (some 64) (nI Ch) (nI s) (nI 0) (nI 0) h2 = b_249_214 k64 (some 64) (nI Ch) (nI s) (nI 0) h2 := this
    rw [this]
    exact fin (by omega)
  · rw [if_pos c, b_249_147, b_249_150, bnd_e, hm]
    rw [if_neg c] at hy
    have := l_249m (W := W) (st := 1000) (k64 := k64) hW M2 hCh hs (by omega) hw2 (E 2) 0 m (by omega) (by show 1000 ≤ 1000; omega)
    rw [hy] at this
    have this : l_249_154 k64 (E 2 + 1 + m) (some 64) (nI Ch) (nI s) (nI 1000) (nI 0) h2 = b_249_214 k64 (some 64) (nI Ch) (nI s) (nI y) h2 := this
    rw [this]
    exact fin yl
theorem pkE_le {s : Nat} (h10 : E 2 ≤ 10) (hCn : Ch < 2 ^ E 2) (hs : sbs s Ch) (hP : ∀ x, s < x → sbs x Ch → W x ≤ 100) : pkE E b Ch W s ≤ 100 := by
  have pl := prs_le E (xsH b (dHg E) s) (E 2) h10
  have ml : (if s = Ch then 0 else mnF W Ch s 1000 (E 2)) ≤ 100 := by
    by_cases ck : s = Ch
    · rw [if_pos ck]; omega
    · rw [if_neg ck]
      obtain ⟨d, d1, d2⟩ := sbs_ne hs ck
      have dn : d < E 2 := by
        apply Classical.byContradiction
        intro z
        rw [tb_out hCn (by omega)] at d1
        cases d1
      rcases mnF_at (W := W) (Ch := Ch) (s := s) (st := 1000) (E 2) with q | ⟨d, q1, q2, q3, q4⟩
      · rcases mnF_st (W := W) (Ch := Ch) (s := s) (a := 1000) (b := 1000) (E 2) (fun d hd p1 p2 => by
          have := hP _ (or_gt p2) (sbs_or hs p1)
          omega) with z | ⟨_, _, z⟩
        · omega
        · have := z d dn
          rw [d1, d2] at this
          cases this
      · rw [q4]; exact hP _ (or_gt q3) (sbs_or hs q2)
  unfold pkE
  omega
theorem l_249 (hW : WF E) (hCh : Ch < 1024) (hCn : Ch < 2 ^ E 2) : ∀ k m h (W : Nat → Nat), k ≤ 1024 → MJ E b h → (∀ x, k ≤ x → sbs x Ch → hI h 85 x = nI (W x)) → PKq E b Ch k W →
    ∃ g W', l_249_64 (k + 1 + m) (some 64) (nI Ch) (nI k + (-1)) h = b_249_246 (some 64) (nI Ch) g ∧ Fz [79, 84, 85] h g ∧ (∀ x, sbs x Ch → hI g 85 x = nI (W' x)) ∧ PKq E b Ch 0 W' := by
  have w2 := hW.2.2.1
  intro k
  induction k with
  | zero =>
    intro m h W hk hM hp hP
    refine ⟨h, W, ?_, Fz.rfl', fun x hx => hp x (by omega) hx, hP⟩
    rw [show 0 + 1 + m = m + 1 by omega, l_249_64, b_249_64, if_pos (by decide)]
  | succ k ih =>
    intro m h W hk hM hp hP
    have e : nI (k + 1) + (-1) = nI k := pk_m1 k
    have dl := dif_lt (a := k) (b := Ch) (by omega)
    have nx : ∀ g, b_249_240 (l_249_64 (k + 1 + m)) (some 64) (nI Ch) (nI k) g = l_249_64 (k + 1 + m) (some 64) (nI Ch) (nI k + (-1)) g := fun g => by rw [b_249_240, bnd_e]
    have ed : (nI k &&& (nI Ch ^^^ (-1)) = 0) = sbs k Ch := by
      rw [nI_andn (show k < 1024 by omega)]
      show (nI (dif k Ch) = 0) = _
      rw [nI_eq0 (by omega)]
      exact propext (dif_0 (by omega))
    rw [show k + 1 + 1 + m = (k + 1 + m) + 1 by omega, e, l_249_64, b_249_64, if_neg (nI_pos (by omega)), b_249_68]
    by_cases c : sbs k Ch
    · rw [if_pos (by rw [ed]; exact c)]
      have vl : pkE E b Ch W k ≤ 100 := pkE_le w2 hCn c (fun x p1 p2 => (hP x (by omega) p2).2)
      obtain ⟨h1, a1, a2, a3, a4⟩ := s_249s (W := W) (k64 := l_249_64 (k + 1 + m)) hW hM hCh c (fun x p1 p2 => ⟨hp x (by omega) p2, (hP x (by omega) p2).2⟩) vl
      generalize hv : pkE E b Ch W k = v at *
      have up : ∀ x, x ≠ k → upn W k v x = W x := fun x hx => by unfold upn; rw [if_neg hx]
      obtain ⟨g, W', b1, b2, b3, b4⟩ := ih m h1 (upn W k v) (by omega) (hM.cz a2 (by decide) (by decide)) (fun x hx hs => by
        by_cases cx : x = k
        · rw [cx, a3]; unfold upn; rw [if_pos rfl]
        · rw [a4 x cx, up x cx]; exact hp x (by omega) hs) (fun x hx hs => by
        have cgx : pkE E b Ch (upn W k v) x = pkE E b Ch W x := by
          unfold pkE
          congr 1
          split
          · rfl
          · apply mnF_cg
            intro d _ _ p2
            have := or_gt p2
            exact up _ (by omega)
        rw [cgx]
        by_cases cx : x = k
        · have : upn W k v x = v := by unfold upn; rw [if_pos cx]
          rw [this, cx]; exact ⟨hv.symm, vl⟩
        · rw [up x cx]; exact hP x (by omega) hs)
      refine ⟨g, W', ?_, a2.then b2, b3, b4⟩
      rw [a1, nx]
      exact b1
    · rw [if_neg (fun z => c (by rw [← ed]; exact z)), b_249_76, nx]
      exact ih m h W (by omega) hM (fun x hx hs => hp x (by
        have : x ≠ k := fun z => c (by rw [← z]; exact hs)
        omega) hs) (fun x hx hs => hP x (by
        have : x ≠ k := fun z => c (by rw [← z]; exact hs)
        omega) hs)
theorem l_249i {h : Hp} {s dn : Nat} {k253 : Option Nat → Int32 → Int32 → Hp → Option (Int32 × Hp)} (hF : Fix h) (hCh : Ch < 1024) (hs : sbs s Ch) (hp : ∀ x, sbs x Ch → hI h 85 x = nI (W x)) (hb : ∀ x, sbs x Ch → W x ≤ 100) (hn : isNx W Ch 10 s dn) : ∀ r d m, d + r = dn → l_249_260 k253 (r + 1 + m) (some 64) (nI Ch) (nI s) (nI d) h = b_249_301 k253 (some 64) (nI Ch) (nI s) (nI dn) h := by
  obtain ⟨n1, n2, n3⟩ := hn
  have sl := sbs_le hs
  have s0 : sbs 0 Ch := fun i hi => by rw [Nat.zero_testBit] at hi; cases hi
  have v0 := hp 0 s0
  have w0 := hb 0 s0
  have pre : ∀ (k260 : Option Nat → Int32 → Int32 → Int32 → Hp → Option (Int32 × Hp)) d, d < 10 → b_249_260 k253 k260 (some 64) (nI Ch) (nI s) (nI d) h = if ldb W Ch s d = true then b_249_301 k253 (some 64) (nI Ch) (nI s) (nI d) h else b_249_295 k253 k260 (some 64) (nI Ch) (nI s) (nI d) h := by
    intro k260 d hd
    rw [b_249_260]
    simp (disch := first | assumption | (repeat' (first | apply fx_sI | apply fx_sJ | assumption | omega))) only [s_183 (show Ch < 2147483648 by omega) (show d < 32 by omega), Option.bind_some, bI_0']
    unfold ldb
    cases hc : Ch.testBit d
    · rw [if_pos rfl, Bool.false_and, Bool.false_and, if_neg (by decide)]
    · rw [if_neg (by decide), b_249_268]
      simp (disch := first | assumption | (repeat' (first | apply fx_sI | apply fx_sJ | assumption | omega))) only [s_183 (show s < 2147483648 by omega) (show d < 32 by omega), Option.bind_some, bI_0']
      cases hx : s.testBit d
      · rw [if_neg (fun z => z rfl), b_249_276]
        have g2 := sbs_or hs hc
        have g3 := sbs_le g2
        have q1 := hp _ g2
        have q2 := hb _ g2
        simp (disch := first | assumption | (repeat' (first | apply fx_sI | apply fx_sJ | assumption | omega))) only [bnd_e, grd_e, grd0, grd1, Option.bind_some, Option.isSome_some, gQ30_0, gQ30_1, gQ30_2, gQ30_3, gQ30_4, gQ30_5, gQ30_6, gQ30_7, gQ30_8, gQ30_9, gQ31_0, gQ33_0, gQ33_1, gQ36_0, gQ36_1, gQ39_0, gQ39_3, gQ39_4, gQ39_6, gQ39_8, gQ39_10, gQ39_11, gQ39_12, gQ48_0, gQ48_1, gQ51_2, gQ53_0, gQ53_1, gQ60_0, gQ60_1, gQ60_2, gQ64_1, gQ64_14, gQ64_15, gQ64_16, gQ64_17, gQ64_18, gQ64_19, gQ64_20, gQ64_21, gQ64_24, gQ64_25, gQ64_27, gQ64_28, gQ64_29, gQ64_30, gQ64_31, gQ64_34, gQ64_35, gQ64_36, gQ64_39, gQ64_40, gQ64_41, gQ64_43, gQ64_44, gQ64_48, gQ64_50, gQ64_51, gQ64_52, gQ64_53, gQ64_54, gQ64_58, gQ64_59, gI30, gJ30, pI30, pJ30, rC30, gI31, gJ31, pI31, pJ31, rC31, gI33, gJ33, pI33, pJ33, rC33, gI36, gJ36, pI36, pJ36, rC36, gI39, gJ39, pI39, pJ39, rC39, gI48, gJ48, pI48, pJ48, rC48, gI51, gJ51, pI51, pJ51, rC51, gI53, gJ53, pI53, pJ53, rC53, gI60, gJ60, pI60, pJ60, rC60, gI64, gJ64, pI64, pJ64, rC64, hF, nI_1shl (show d < 31 by omega), fa_or, aI_n (K85 hF) (L85 hF), q1, v0, nI_leI]
        by_cases cv : W (s ||| 2 ^ d) ≤ W 0
        · rw [if_pos cv, decide_eq_true cv]; rfl
        · rw [if_neg cv, decide_eq_false cv]; rfl
      · rw [if_pos (by decide), if_neg (by simp)]
  intro r
  induction r with
  | zero =>
    intro d m hd
    obtain rfl : d = dn := by omega
    rw [show 0 + 1 + m = m + 1 by omega, l_249_260, pre _ d n1, if_pos (ldb_iff.2 n2)]
  | succ r ih =>
    intro d m hd
    rw [show r + 1 + 1 + m = (r + 1 + m) + 1 by omega, l_249_260, pre _ d (by omega), if_neg (fun z => n3 d (by omega) (ldb_iff.1 z)), b_249_295, bnd_e, nI_add]
    exact ih (d + 1) m (by omega)
theorem l_249o (hW : WF E) (hCh : Ch < 1024) (hP : PKq E b Ch 0 W) : ∀ r i m h (S o : Nat → Nat), i + r = E 2 → Fix h → (∀ x, sbs x Ch → hI h 85 x = nI (W x)) → ORp W Ch (E 2) i S o → W (S i) ≤ W 0 → hI h 64 42 = nI i → (∀ j, j < i → hI h 86 j = nI (o j)) →
    ∃ g z S' o', l_249_253 (r + 1 + m) (some 64) (nI Ch) (nI (S i)) h = some (nI (W 0), g) ∧ Fz [86, 43000064] h g ∧ ORp W Ch (E 2) z S' o' ∧ S' z = Ch ∧ hI g 64 42 = nI z ∧ ∀ j, j < z → hI g 86 j = nI (o' j) := by
  have w2 := hW.2.2.1
  have hb : ∀ x, sbs x Ch → W x ≤ 100 := fun x hx => (hP x (by omega) hx).2
  have s0 : sbs 0 Ch := fun i hi => by rw [Nat.zero_testBit] at hi; cases hi
  intro r
  induction r with
  | zero =>
    intro i m h S o hi hF hp hO hw h9 h44
    obtain rfl : i = E 2 := by omega
    have sb := (hO.sb (E 2) (Nat.le_refl _)).1
    have fin : S (E 2) = Ch := by
      apply Classical.byContradiction
      intro c
      obtain ⟨d, hd⟩ := nx_ex hP sb c hw
      have := (hO.ext c hd).le
      omega
    refine ⟨h, E 2, S, o, ?_, Fz.rfl', hO, fin, h9, h44⟩
    rw [show 0 + 1 + m = m + 1 by omega, l_249_253, b_249_253, if_pos (by rw [fin]), b_249_330]
    simp (disch := first | assumption | (repeat' (first | apply fx_sI | apply fx_sJ | assumption | omega))) only [bnd_e, grd_e, grd0, grd1, Option.bind_some, Option.isSome_some, gQ30_0, gQ30_1, gQ30_2, gQ30_3, gQ30_4, gQ30_5, gQ30_6, gQ30_7, gQ30_8, gQ30_9, gQ31_0, gQ33_0, gQ33_1, gQ36_0, gQ36_1, gQ39_0, gQ39_3, gQ39_4, gQ39_6, gQ39_8, gQ39_10, gQ39_11, gQ39_12, gQ48_0, gQ48_1, gQ51_2, gQ53_0, gQ53_1, gQ60_0, gQ60_1, gQ60_2, gQ64_1, gQ64_14, gQ64_15, gQ64_16, gQ64_17, gQ64_18, gQ64_19, gQ64_20, gQ64_21, gQ64_24, gQ64_25, gQ64_27, gQ64_28, gQ64_29, gQ64_30, gQ64_31, gQ64_34, gQ64_35, gQ64_36, gQ64_39, gQ64_40, gQ64_41, gQ64_43, gQ64_44, gQ64_48, gQ64_50, gQ64_51, gQ64_52, gQ64_53, gQ64_54, gQ64_58, gQ64_59, gI30, gJ30, pI30, pJ30, rC30, gI31, gJ31, pI31, pJ31, rC31, gI33, gJ33, pI33, pJ33, rC33, gI36, gJ36, pI36, pJ36, rC36, gI39, gJ39, pI39, pJ39, rC39, gI48, gJ48, pI48, pJ48, rC48, gI51, gJ51, pI51, pJ51, rC51, gI53, gJ53, pI53, pJ53, rC53, gI60, gJ60, pI60, pJ60, rC60, gI64, gJ64, pI64, pJ64, rC64, aI27, aL27, aI28, aL28, aI32, wI32, aL32, aI34, wI34, aL34, aI35, wI35, aL35, aI37, wI37, aL37, aI38, wI38, aL38, aJ40, wJ40, aL40, aI41, wI41, aL41, aI42, wI42, aL42, aI43, wI43, aL43, aI44, wI44, aL44, aI45, wI45, aL45, aI46, wI46, aL46, aI47, wI47, aL47, aI49, wI49, aL49, aI50, wI50, aL50, aI52, wI52, aL52, aI54, wI54, aL54, aI55, wI55, aL55, aL56, aL57, aL58, aI59, wI59, aL59, aI61, wI61, aL61, aL62, aI63, wI63, aL63, aI65, wI65, aL65, aI66, wI66, aL66, aI67, wI67, aL67, aI68, wI68, aL68, aI69, wI69, aL69, aJ70, wJ70, aL70, aJ71, wJ71, aL71, aJ72, wJ72, aL72, aZ73, wZ73, aL73, aI74, wI74, aL74, aI75, wI75, aL75, aJ76, wJ76, aL76, aJ77, wJ77, aL77, aI78, wI78, aL78, aI79, wI79, aL79, aI80, wI80, aL80, aI81, wI81, aL81, aI82, wI82, aL82, aI83, wI83, aL83, aI84, wI84, aL84, aI85, wI85, aL85, aI86, wI86, aL86, aI87, wI87, aL87, aI88, wI88, aL88, aI89, wI89, aL89, aI90, wI90, aL90, aI91, wI91, aL91, aI92, wI92, aL92, aI93, wI93, aL93, aI94, wI94, aL94, aZ95, wZ95, aL95, aI96, wI96, aL96, aJ97, wJ97, aL97, hF, hp 0 s0]
  | succ r ih =>
    intro i m h S o hi hF hp hO hw h9 h44
    have sb := (hO.sb i (Nat.le_refl _)).1
    have sl := sbs_le sb
    rw [show r + 1 + 1 + m = (r + 1 + m) + 1 by omega, l_249_253, b_249_253]
    simp (disch := first | assumption | (repeat' (first | apply fx_sI | apply fx_sJ | assumption | omega))) only [nI_eq]
    by_cases c : S i = Ch
    · rw [if_pos c, b_249_330]
      refine ⟨h, i, S, o, ?_, Fz.rfl', hO, c, h9, h44⟩
      simp (disch := first | assumption | (repeat' (first | apply fx_sI | apply fx_sJ | assumption | omega))) only [bnd_e, grd_e, grd0, grd1, Option.bind_some, Option.isSome_some, gQ30_0, gQ30_1, gQ30_2, gQ30_3, gQ30_4, gQ30_5, gQ30_6, gQ30_7, gQ30_8, gQ30_9, gQ31_0, gQ33_0, gQ33_1, gQ36_0, gQ36_1, gQ39_0, gQ39_3, gQ39_4, gQ39_6, gQ39_8, gQ39_10, gQ39_11, gQ39_12, gQ48_0, gQ48_1, gQ51_2, gQ53_0, gQ53_1, gQ60_0, gQ60_1, gQ60_2, gQ64_1, gQ64_14, gQ64_15, gQ64_16, gQ64_17, gQ64_18, gQ64_19, gQ64_20, gQ64_21, gQ64_24, gQ64_25, gQ64_27, gQ64_28, gQ64_29, gQ64_30, gQ64_31, gQ64_34, gQ64_35, gQ64_36, gQ64_39, gQ64_40, gQ64_41, gQ64_43, gQ64_44, gQ64_48, gQ64_50, gQ64_51, gQ64_52, gQ64_53, gQ64_54, gQ64_58, gQ64_59, gI30, gJ30, pI30, pJ30, rC30, gI31, gJ31, pI31, pJ31, rC31, gI33, gJ33, pI33, pJ33, rC33, gI36, gJ36, pI36, pJ36, rC36, gI39, gJ39, pI39, pJ39, rC39, gI48, gJ48, pI48, pJ48, rC48, gI51, gJ51, pI51, pJ51, rC51, gI53, gJ53, pI53, pJ53, rC53, gI60, gJ60, pI60, pJ60, rC60, gI64, gJ64, pI64, pJ64, rC64, aI27, aL27, aI28, aL28, aI32, wI32, aL32, aI34, wI34, aL34, aI35, wI35, aL35, aI37, wI37, aL37, aI38, wI38, aL38, aJ40, wJ40, aL40, aI41, wI41, aL41, aI42, wI42, aL42, aI43, wI43, aL43, aI44, wI44, aL44, aI45, wI45, aL45, aI46, wI46, aL46, aI47, wI47, aL47, aI49, wI49, aL49, aI50, wI50, aL50, aI52, wI52, aL52, aI54, wI54, aL54, aI55, wI55, aL55, aL56, aL57, aL58, aI59, wI59, aL59, aI61, wI61, aL61, aL62, aI63, wI63, aL63, aI65, wI65, aL65, aI66, wI66, aL66, aI67, wI67, aL67, aI68, wI68, aL68, aI69, wI69, aL69, aJ70, wJ70, aL70, aJ71, wJ71, aL71, aJ72, wJ72, aL72, aZ73, wZ73, aL73, aI74, wI74, aL74, aI75, wI75, aL75, aJ76, wJ76, aL76, aJ77, wJ77, aL77, aI78, wI78, aL78, aI79, wI79, aL79, aI80, wI80, aL80, aI81, wI81, aL81, aI82, wI82, aL82, aI83, wI83, aL83, aI84, wI84, aL84, aI85, wI85, aL85, aI86, wI86, aL86, aI87, wI87, aL87, aI88, wI88, aL88, aI89, wI89, aL89, aI90, wI90, aL90, aI91, wI91, aL91, aI92, wI92, aL92, aI93, wI93, aL93, aI94, wI94, aL94, aZ95, wZ95, aL95, aI96, wI96, aL96, aJ97, wJ97, aL97, hF, hp 0 s0]
    · rw [if_neg c, b_249_258, bnd_e]
      obtain ⟨d, hd⟩ := nx_ex hP sb c hw
      have dlt := hd.1
      obtain ⟨m2, hm2⟩ := FU_ge (d + 1) (by omega)
      have li := l_249i (k253 := l_249_253 (r + 1 + m)) hF hCh sb hp hb ⟨by omega, hd.2.1, hd.2.2⟩ d 0 m2 (by omega)
      have O1 := hO.ext c hd
      have si : upn S (i + 1) (S i ||| 2 ^ d) (i + 1) = S i ||| 2 ^ d := by unfold upn; rw [if_pos rfl]
      generalize e1 : sI h 86 i (nI d) = h1
      generalize e2 : sI h1 64 42 (nI (i + 1)) = h2
      have z2 : Fz [86, 43000064] h h2 := by
        rw [← e2, ← e1]
        exact Fz.sI (Fz.sI Fz.rfl' (Or.inl (by simp))) (Or.inr (by simp))
      have F1 : Fix h1 := by rw [← e1]; exact fx_sI hF (by omega)
      have i9 : hI h1 64 42 = nI i := by rw [← e1, hI_sI, if_neg (by omega)]; exact h9
      obtain ⟨g, z, S', o', b1, b2, b3, b4, b5, b6⟩ := ih (i + 1) m h2 _ _ (by omega) (z2.fix hF (by decide)) (fun x hx => by rw [z2.I (a := 85) (by decide)]; exact hp x hx) O1 (by rw [si]; exact hd.2.1.2.2) (by rw [← e2, hI_sI, if_pos ⟨rfl, rfl⟩]) (fun j hj => by
        rw [← e2, hI_sI, if_neg (by omega), ← e1, hI_sI]
        unfold upn
        by_cases cj : j = i
        · rw [if_pos ⟨rfl, cj⟩, if_pos cj]
        · rw [if_neg (fun z => cj z.2), if_neg cj]; exact h44 j (by omega))
      rw [si] at b1
      refine ⟨g, z, S', o', ?_, z2.then b2, b3, b4, b5, b6⟩
      rw [hm2, li, b_249_301]
      simp (disch := first | assumption | (repeat' (first | apply fx_sI | apply fx_sJ | assumption | omega))) only [bnd_e, grd_e, grd0, grd1, Option.bind_some, Option.isSome_some, gQ30_0, gQ30_1, gQ30_2, gQ30_3, gQ30_4, gQ30_5, gQ30_6, gQ30_7, gQ30_8, gQ30_9, gQ31_0, gQ33_0, gQ33_1, gQ36_0, gQ36_1, gQ39_0, gQ39_3, gQ39_4, gQ39_6, gQ39_8, gQ39_10, gQ39_11, gQ39_12, gQ48_0, gQ48_1, gQ51_2, gQ53_0, gQ53_1, gQ60_0, gQ60_1, gQ60_2, gQ64_1, gQ64_14, gQ64_15, gQ64_16, gQ64_17, gQ64_18, gQ64_19, gQ64_20, gQ64_21, gQ64_24, gQ64_25, gQ64_27, gQ64_28, gQ64_29, gQ64_30, gQ64_31, gQ64_34, gQ64_35, gQ64_36, gQ64_39, gQ64_40, gQ64_41, gQ64_43, gQ64_44, gQ64_48, gQ64_50, gQ64_51, gQ64_52, gQ64_53, gQ64_54, gQ64_58, gQ64_59, gI30, gJ30, pI30, pJ30, rC30, gI31, gJ31, pI31, pJ31, rC31, gI33, gJ33, pI33, pJ33, rC33, gI36, gJ36, pI36, pJ36, rC36, gI39, gJ39, pI39, pJ39, rC39, gI48, gJ48, pI48, pJ48, rC48, gI51, gJ51, pI51, pJ51, rC51, gI53, gJ53, pI53, pJ53, rC53, gI60, gJ60, pI60, pJ60, rC60, gI64, gJ64, pI64, pJ64, rC64, aI27, aL27, aI28, aL28, aI32, wI32, aL32, aI34, wI34, aL34, aI35, wI35, aL35, aI37, wI37, aL37, aI38, wI38, aL38, aJ40, wJ40, aL40, aI41, wI41, aL41, aI42, wI42, aL42, aI43, wI43, aL43, aI44, wI44, aL44, aI45, wI45, aL45, aI46, wI46, aL46, aI47, wI47, aL47, aI49, wI49, aL49, aI50, wI50, aL50, aI52, wI52, aL52, aI54, wI54, aL54, aI55, wI55, aL55, aL56, aL57, aL58, aI59, wI59, aL59, aI61, wI61, aL61, aL62, aI63, wI63, aL63, aI65, wI65, aL65, aI66, wI66, aL66, aI67, wI67, aL67, aI68, wI68, aL68, aI69, wI69, aL69, aJ70, wJ70, aL70, aJ71, wJ71, aL71, aJ72, wJ72, aL72, aZ73, wZ73, aL73, aI74, wI74, aL74, aI75, wI75, aL75, aJ76, wJ76, aL76, aJ77, wJ77, aL77, aI78, wI78, aL78, aI79, wI79, aL79, aI80, wI80, aL80, aI81, wI81, aL81, aI82, wI82, aL82, aI83, wI83, aL83, aI84, wI84, aL84, aI85, wI85, aL85, aI86, wI86, aL86, aI87, wI87, aL87, aI88, wI88, aL88, aI89, wI89, aL89, aI90, wI90, aL90, aI91, wI91, aL91, aI92, wI92, aL92, aI93, wI93, aL93, aI94, wI94, aL94, aZ95, wZ95, aL95, aI96, wI96, aL96, aJ97, wJ97, aL97, hF, h9, e1, F1, i9, nI_add, e2, nI_1shl (show d < 31 by omega), fa_or]
      exact b1
/-- from the best hangings on -/
theorem s_249t {h1 : Hp} (hW : WF E) (hJ1 : MJ E b h1) :
    ∃ g W S o z, b_249_16 (some 64) h1 = some (nI (W 0), g) ∧ Fz [79, 84, 85, 86, 43000064] h1 g ∧ PKq E b (chM E b) 0 W ∧ ORp W (chM E b) (E 2) z S o ∧ S z = chM E b ∧ hI g 64 42 = nI z ∧ ∀ j, j < z → hI g 86 j = nI (o j) := by
  have w2 := hW.2.2.1
  have F1 := hJ1.1.1
  have hE1 := hJ1.1.2.1
  have cl : chM E b < 1024 := chm_lt _ w2
  have cn : chM E b < 2 ^ E 2 := mkM_lt _ _
  have lc := l_249a hW hJ1 (E 2) 0
  have m0 : mkM (fun d => decide (b d ≠ dHg E d)) 0 = 0 := rfl
  rw [m0] at lc
  have LOOP := fun m2 => l_249 (b := b) hW cl cn (2 ^ E 2) m2 h1 (fun _ => 0) (Nat.le_trans (Nat.pow_le_pow_right (by decide) w2) (by decide)) hJ1 (fun x hx hs => by have := sbs_le hs; omega) (fun x hx hs => by have := sbs_le hs; omega)
  generalize chM E b = Ch at *
  have nl : 2 ^ E 2 ≤ 2 ^ 10 := Nat.pow_le_pow_right (by decide) w2
  have n1 : 1 ≤ 2 ^ E 2 := Nat.one_le_two_pow
  have esh : nI 1 <<< (nI (E 2) &&& 31) - nI 1 = nI (2 ^ E 2) + (-1) := by
    have := pk_m1 (2 ^ E 2 - 1)
    rw [show 2 ^ E 2 - 1 + 1 = 2 ^ E 2 by omega] at this
    rw [nI_1shl (by omega), pk_sub n1, this]
  generalize 2 ^ E 2 = N at *
  obtain ⟨m, hm⟩ := FU_ge (E 2 + 1) (by omega)
  obtain ⟨m2, hm2⟩ := FU_ge (N + 1) (by omega)
  obtain ⟨h2, W, c1, c2, c3, c4⟩ := LOOP m2
  have F2 := c2.fix F1 (by decide)
  generalize e2 : sI h2 64 42 (nI 0) = h3
  have z3 : Fz [86, 43000064] h2 h3 := by rw [← e2]; exact Fz.sI Fz.rfl' (Or.inr (by simp))
  have F3 := z3.fix F2 (by decide)
  obtain ⟨g, z, S, o, d1, d2', d3', d4, d5, d6⟩ := l_249o (W := W) hW cl c4 (E 2) 0 m h3 (fun _ => 0) (fun _ => 0) (by omega) F3 (fun x hx => by rw [z3.I (a := 85) (by decide)]; exact c3 x hx) ⟨rfl, fun j hj => absurd hj (Nat.not_lt_zero j)⟩ (Nat.le_refl _) (by rw [← e2, hI_sI, if_pos ⟨rfl, rfl⟩]) (fun j hj => absurd hj (Nat.not_lt_zero j))
  refine ⟨g, W, S, o, z, ?_, (c2.wid (by intro z hz; simp only [List.mem_cons, List.not_mem_nil, or_false] at hz ⊢; omega)).then ((z3.wid (by intro z hz; simp only [List.mem_cons, List.not_mem_nil, or_false] at hz ⊢; omega)).then (d2'.wid (by intro z hz; simp only [List.mem_cons, List.not_mem_nil, or_false] at hz ⊢; omega))), c4, d3', d4, d5, d6⟩
  have t1 : b_249_246 (some 64) (nI Ch) h2 = some (nI (W 0), g) := by
    rw [b_249_246]
    simp (disch := first | assumption | (repeat' (first | apply fx_sI | apply fx_sJ | assumption | omega))) only [bnd_e, grd_e, grd0, grd1, Option.bind_some, Option.isSome_some, gQ30_0, gQ30_1, gQ30_2, gQ30_3, gQ30_4, gQ30_5, gQ30_6, gQ30_7, gQ30_8, gQ30_9, gQ31_0, gQ33_0, gQ33_1, gQ36_0, gQ36_1, gQ39_0, gQ39_3, gQ39_4, gQ39_6, gQ39_8, gQ39_10, gQ39_11, gQ39_12, gQ48_0, gQ48_1, gQ51_2, gQ53_0, gQ53_1, gQ60_0, gQ60_1, gQ60_2, gQ64_1, gQ64_14, gQ64_15, gQ64_16, gQ64_17, gQ64_18, gQ64_19, gQ64_20, gQ64_21, gQ64_24, gQ64_25, gQ64_27, gQ64_28, gQ64_29, gQ64_30, gQ64_31, gQ64_34, gQ64_35, gQ64_36, gQ64_39, gQ64_40, gQ64_41, gQ64_43, gQ64_44, gQ64_48, gQ64_50, gQ64_51, gQ64_52, gQ64_53, gQ64_54, gQ64_58, gQ64_59, gI30, gJ30, pI30, pJ30, rC30, gI31, gJ31, pI31, pJ31, rC31, gI33, gJ33, pI33, pJ33, rC33, gI36, gJ36, pI36, pJ36, rC36, gI39, gJ39, pI39, pJ39, rC39, gI48, gJ48, pI48, pJ48, rC48, gI51, gJ51, pI51, pJ51, rC51, gI53, gJ53, pI53, pJ53, rC53, gI60, gJ60, pI60, pJ60, rC60, gI64, gJ64, pI64, pJ64, rC64, F2, e2]
    rw [hm]
    exact d1
  have t2 : b_249_55 (some 64) (nI Ch) h1 = some (nI (W 0), g) := by
    rw [b_249_55, rC64 F1, grd_e, Option.bind_some, s_203 F1 hE1, Option.bind_some, bnd_e, esh, hm2, c1]
    exact t1
  rw [b_249_16, bnd_e, bnd_e, hm, lc m (by omega)]
  exact t2
theorem s_249 {h : Hp} (hF : Fix h) (hB : Bg h E) (hW : WF E) :
    ∃ g, Fz [1000064, 23000064, 66, 27000064, 74, 75, 76, 77, 78, 79, 80, 33000064, 84, 85, 86, 43000064] h g ∧ NowE g E ∧ hI g 64 22 = 1 ∧ ((solW E (dHg E) (wM true E) = none ∧ f_249 (some 64) h = some (-1, g) ∧ hI g 64 42 = hI h 64 42 ∧ hI g 86 = hI h 86) ∨
      ∃ b W S o z, solW E (dHg E) (wM true E) = some b ∧ f_249 (some 64) h = some (nI (W 0), g) ∧ PKq E b.2 (chM E b.2) 0 W ∧ ORp W (chM E b.2) (E 2) z S o ∧ S z = chM E b.2 ∧ hI g 64 42 = nI z ∧ ∀ j, j < z → hI g 86 j = nI (o j)) := by
  have w2 := hW.2.2.1
  have z0 : Fz [1000064] h (sI h 64 0 (nI 0)) := Fz.sI Fz.rfl' (Or.inr (by simp))
  have F0 : Fix (sI h 64 0 (nI 0)) := fx_sI hF (by omega)
  obtain ⟨h1, a1, a2, a3, a4, a5⟩ := s_234 (bc := true) F0 (hB.cg (z0.I1 (by decide) (by decide)) (z0.I (a := 66) (by decide))) hW
  have a1 : f_234 (some 64) (nI 1) (sI h 64 0 (nI 0)) = some (lkI (solW E (dHg E) (wM true E)), h1) := a1
  have z1 : Fz [1000064, 23000064, 66, 27000064, 74, 75, 76, 77, 78, 79, 80, 33000064, 84, 85, 86, 43000064] h h1 := (z0.wid (by intro z hz; simp only [List.mem_cons, List.not_mem_nil, or_false] at hz ⊢; omega)).then (a2.wid (by intro z hz; simp only [List.mem_cons, List.not_mem_nil, or_false] at hz ⊢; omega))
  have pre : f_249 (some 64) h = if ¬ lkI (solW E (dHg E) (wM true E)) = -1 then b_249_16 (some 64) h1 else b_249_14 h1 := by
    rw [f_249, b_249_0]
    simp (disch := first | assumption | (repeat' (first | apply fx_sI | apply fx_sJ | assumption | omega))) only [bnd_e, grd_e, grd0, grd1, Option.bind_some, Option.isSome_some, gQ30_0, gQ30_1, gQ30_2, gQ30_3, gQ30_4, gQ30_5, gQ30_6, gQ30_7, gQ30_8, gQ30_9, gQ31_0, gQ33_0, gQ33_1, gQ36_0, gQ36_1, gQ39_0, gQ39_3, gQ39_4, gQ39_6, gQ39_8, gQ39_10, gQ39_11, gQ39_12, gQ48_0, gQ48_1, gQ51_2, gQ53_0, gQ53_1, gQ60_0, gQ60_1, gQ60_2, gQ64_1, gQ64_14, gQ64_15, gQ64_16, gQ64_17, gQ64_18, gQ64_19, gQ64_20, gQ64_21, gQ64_24, gQ64_25, gQ64_27, gQ64_28, gQ64_29, gQ64_30, gQ64_31, gQ64_34, gQ64_35, gQ64_36, gQ64_39, gQ64_40, gQ64_41, gQ64_43, gQ64_44, gQ64_48, gQ64_50, gQ64_51, gQ64_52, gQ64_53, gQ64_54, gQ64_58, gQ64_59, gI30, gJ30, pI30, pJ30, rC30, gI31, gJ31, pI31, pJ31, rC31, gI33, gJ33, pI33, pJ33, rC33, gI36, gJ36, pI36, pJ36, rC36, gI39, gJ39, pI39, pJ39, rC39, gI48, gJ48, pI48, pJ48, rC48, gI51, gJ51, pI51, pJ51, rC51, gI53, gJ53, pI53, pJ53, rC53, gI60, gJ60, pI60, pJ60, rC60, gI64, gJ64, pI64, pJ64, rC64, hF, F0, a1]
  cases hR : solW E (dHg E) (wM true E) with
  | none =>
    refine ⟨h1, z1, a3.2.1, a4, Or.inl ⟨rfl, ?_, ?_, ?_⟩⟩
    · rw [pre, hR, if_neg (fun z => z rfl), b_249_14]
    · rw [a2.I1 (by decide) (by decide), z0.I1 (by decide) (by decide)]
    · rw [a2.I (a := 86) (by decide), z0.I (a := 86) (by decide)]
  | some b =>
    obtain ⟨bl, ba⟩ := a5 b hR
    have b4 : ∀ d, d < E 2 → b.2 d < 4 := fun d hd => br_4 (E 2) 0 (fitL E) b hR d (by omega) (by omega) rfl
    have MJ1 : MJ E b.2 h1 := ⟨a3, fun d hd => ⟨ba d hd, b4 d hd⟩⟩
    obtain ⟨g, W, S, o, z, c1, c2, c3, c4, c5, c6, c7⟩ := s_249t hW MJ1
    refine ⟨g, z1.then (c2.wid (by intro z hz; simp only [List.mem_cons, List.not_mem_nil, or_false] at hz ⊢; omega)), ?_, ?_, Or.inr ⟨b, W, S, o, z, rfl, ?_, c3, c4, c5, c6, c7⟩⟩
    · exact a3.2.1.cg (c2.I (a := 66) (by decide))
    · rw [c2.I1 (by decide) (by decide)]; exact a4
    · rw [pre, hR, if_pos (show ¬ lkI (some b) = -1 from nI_m1 (n := b.1) (by omega))]
      exact c1
end JOINM
