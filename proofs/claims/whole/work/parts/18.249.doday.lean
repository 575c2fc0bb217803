/-! the reference's day -/
/-- a day from its i-th act on: why, one more than where, angles, place, minutes, shuts -/
def dyR (E : Nat → Nat) : Nat → Nat → (Nat → Nat) → Nat → Nat → Nat → Nat × Nat × (Nat → Nat) × Nat × Nat × Nat
  | 0, _, an, pl, sp, sh => (0, 0, an, pl, sp, sh)
  | r + 1, i, an, pl, sp, sh =>
    if (actD E (ow (E (342 + 2 * i)) (E (343 + 2 * i))) (E (343 + 2 * i)) an pl sp sh).1 = 0
    then dyR E r (i + 1) (actD E (ow (E (342 + 2 * i)) (E (343 + 2 * i))) (E (343 + 2 * i)) an pl sp sh).2.1 (actD E (ow (E (342 + 2 * i)) (E (343 + 2 * i))) (E (343 + 2 * i)) an pl sp sh).2.2.1 (actD E (ow (E (342 + 2 * i)) (E (343 + 2 * i))) (E (343 + 2 * i)) an pl sp sh).2.2.2.1 (actD E (ow (E (342 + 2 * i)) (E (343 + 2 * i))) (E (343 + 2 * i)) an pl sp sh).2.2.2.2
    else ((actD E (ow (E (342 + 2 * i)) (E (343 + 2 * i))) (E (343 + 2 * i)) an pl sp sh).1, i + 1, (actD E (ow (E (342 + 2 * i)) (E (343 + 2 * i))) (E (343 + 2 * i)) an pl sp sh).2.1, (actD E (ow (E (342 + 2 * i)) (E (343 + 2 * i))) (E (343 + 2 * i)) an pl sp sh).2.2.1, (actD E (ow (E (342 + 2 * i)) (E (343 + 2 * i))) (E (343 + 2 * i)) an pl sp sh).2.2.2.1, (actD E (ow (E (342 + 2 * i)) (E (343 + 2 * i))) (E (343 + 2 * i)) an pl sp sh).2.2.2.2)
/-- a day that was told -/
def DW (E : Nat → Nat) : Prop := E 341 ≤ 60 ∧ ∀ i, i < E 341 → ((E (342 + 2 * i) < 4 ∨ E (342 + 2 * i) = 6) ∧ E (343 + 2 * i) < 1000) ∨ ((E (342 + 2 * i) = 4 ∨ E (342 + 2 * i) = 5) ∧ E (343 + 2 * i) < E 2)
section DODAY
variable {E : Nat → Nat}
theorem s_270 {h : Hp} {an : Nat → Nat} {pl sp sh w n : Nat} (hF : Fix h) (hW : WF E) (hM : MD h E an pl sp sh) (hw : ((w < 4 ∨ w = 6) ∧ n < 1000) ∨ ((w = 4 ∨ w = 5) ∧ n < E 2)) :
    ∃ g, f_270 (some 64) (nI w) (nI n) h = some (nI (actD E (ow w n) n an pl sp sh).1, g) ∧ Fz [46000064, 47000064, 50000064, 87, 27000064, 74, 75, 88] h g ∧ MD g E (actD E (ow w n) n an pl sp sh).2.1 (actD E (ow w n) n an pl sp sh).2.2.1 (actD E (ow w n) n an pl sp sh).2.2.2.1 (actD E (ow w n) n an pl sp sh).2.2.2.2 := by
  have w2 := hW.2.2.1
  rcases hw with ⟨hw, hn⟩ | ⟨hw, hd⟩
  · have o5 : ow w n < 5 := by unfold ow; (repeat' split) <;> omega
    unfold actD
    rw [if_pos o5]
    obtain ⟨m, hm⟩ := FU_ge (n + 1) (by omega)
    obtain ⟨g, a1, a2⟩ := l_270a hW hw hn n 0 m h an pl sp sh hF hM (by omega)
    refine ⟨g, ?_, a2⟩
    have st : f_270 (some 64) (nI w) (nI n) h = b_270_11 (some 64) (nI w) (nI n) h := by
      rw [f_270, b_270_0]
      rcases hw with c | c
      · rw [if_pos (by rw [nI_ltI (by omega) (by omega)]; exact c)]
      · subst c
        rw [if_neg (by decide), b_270_5, if_neg (fun z => z rfl)]
    rw [st, b_270_11, bnd_e, hm, a1]
  · have oe : ow w n = 1 + (2 * n + w) := by unfold ow; rw [if_neg (by omega), if_neg (by omega)]
    have od : dA (ow w n - 1) = n := by rw [oe]; unfold dA; omega
    obtain ⟨g1, a1, a2⟩ := s_269 hF hM.1.1 hW hd hw
    have hF1 := a2.fix hF (by decide)
    have hM1 : MD g1 E an pl sp sh := ⟨hM.1.cg (a2.I (a := 66) (by decide)) (a2.I (a := 87) (by decide)) (a2.I1 (by decide) (by decide)) (a2.I (a := 88) (by decide)), hM.2.1, by rw [a2.I1 (by decide) (by decide)]; exact hM.2.2.1, by rw [a2.I1 (by decide) (by decide)]; exact hM.2.2.2⟩
    have h7 := hM1.1.2.1 n (by omega)
    have v3 := hM.2.1.1 n hd
    have lp := lk_pos (A := ow w n - 1) hM.2.1 (by rw [od]; exact hd)
    have lb := lk_bd (E := E) (an := an) (A := ow w n - 1) (by rw [od]; exact v3)
    have st : f_270 (some 64) (nI w) (nI n) h = b_270_90 (some 64) (nI w) (nI n) (nI (glN E w n)) (zI (lkZ E an (ow w n - 1))) g1 := by
      have c1 : ¬ nI w < nI 4 := by rw [nI_ltI (by omega) (by omega)]; omega
      have c2 : ¬ nI w = nI 6 := by rw [nI_eq (by omega) (by omega)]; omega
      rw [f_270, b_270_0, if_neg c1, b_270_5, if_pos c2, b_270_61]
      simp only [bnd_e, grd_e, grd0, grd1, Option.bind_some, Option.isSome_some, gQ30_0, gQ30_1, gQ30_2, gQ30_3, gQ30_4, gQ30_5, gQ30_6, gQ30_7, gQ30_8, gQ30_9, gQ31_0, gQ33_0, gQ33_1, gQ36_0, gQ36_1, gQ39_0, gQ39_3, gQ39_4, gQ39_6, gQ39_8, gQ39_10, gQ39_11, gQ39_12, gQ48_0, gQ48_1, gQ51_2, gQ53_0, gQ53_1, gQ60_0, gQ60_1, gQ60_2, gQ64_1, gQ64_14, gQ64_15, gQ64_16, gQ64_17, gQ64_18, gQ64_19, gQ64_20, gQ64_21, gQ64_24, gQ64_25, gQ64_27, gQ64_28, gQ64_29, gQ64_30, gQ64_31, gQ64_34, gQ64_35, gQ64_36, gQ64_39, gQ64_40, gQ64_41, gQ64_43, gQ64_44, gQ64_48, gQ64_50, gQ64_51, gQ64_52, gQ64_53, gQ64_54, gQ64_58, gQ64_59, gI30, gJ30, pI30, pJ30, rC30, gI31, gJ31, pI31, pJ31, rC31, gI33, gJ33, pI33, pJ33, rC33, gI36, gJ36, pI36, pJ36, rC36, gI39, gJ39, pI39, pJ39, rC39, gI48, gJ48, pI48, pJ48, rC48, gI51, gJ51, pI51, pJ51, rC51, gI53, gJ53, pI53, pJ53, rC53, gI60, gJ60, pI60, pJ60, rC60, gI64, gJ64, pI64, pJ64, rC64, hF, a1]
      rcases hw with rfl | rfl
      · have n45 : ¬ nI 4 = nI 5 := by decide
        rw [if_pos n45, b_270_82]
        simp (disch := first | assumption | (repeat' (first | apply fx_sI | apply fx_sJ | assumption | omega))) only [bnd_e, grd_e, grd0, grd1, Option.bind_some, Option.isSome_some, gQ30_0, gQ30_1, gQ30_2, gQ30_3, gQ30_4, gQ30_5, gQ30_6, gQ30_7, gQ30_8, gQ30_9, gQ31_0, gQ33_0, gQ33_1, gQ36_0, gQ36_1, gQ39_0, gQ39_3, gQ39_4, gQ39_6, gQ39_8, gQ39_10, gQ39_11, gQ39_12, gQ48_0, gQ48_1, gQ51_2, gQ53_0, gQ53_1, gQ60_0, gQ60_1, gQ60_2, gQ64_1, gQ64_14, gQ64_15, gQ64_16, gQ64_17, gQ64_18, gQ64_19, gQ64_20, gQ64_21, gQ64_24, gQ64_25, gQ64_27, gQ64_28, gQ64_29, gQ64_30, gQ64_31, gQ64_34, gQ64_35, gQ64_36, gQ64_39, gQ64_40, gQ64_41, gQ64_43, gQ64_44, gQ64_48, gQ64_50, gQ64_51, gQ64_52, gQ64_53, gQ64_54, gQ64_58, gQ64_59, gI30, gJ30, pI30, pJ30, rC30, gI31, gJ31, pI31, pJ31, rC31, gI33, gJ33, pI33, pJ33, rC33, gI36, gJ36, pI36, pJ36, rC36, gI39, gJ39, pI39, pJ39, rC39, gI48, gJ48, pI48, pJ48, rC48, gI51, gJ51, pI51, pJ51, rC51, gI53, gJ53, pI53, pJ53, rC53, gI60, gJ60, pI60, pJ60, rC60, gI64, gJ64, pI64, pJ64, rC64, aI27, aL27, aI28, aL28, aI32, wI32, aL32, aI34, wI34, aL34, aI35, wI35, aL35, aI37, wI37, aL37, aI38, wI38, aL38, aJ40, wJ40, aL40, aI41, wI41, aL41, aI42, wI42, aL42, aI43, wI43, aL43, aI44, wI44, aL44, aI45, wI45, aL45, aI46, wI46, aL46, aI47, wI47, aL47, aI49, wI49, aL49, aI50, wI50, aL50, aI52, wI52, aL52, aI54, wI54, aL54, aI55, wI55, aL55, aL56, aL57, aL58, aI59, wI59, aL59, aI61, wI61, aL61, aL62, aI63, wI63, aL63, aI65, wI65, aL65, aI66, wI66, aL66, aI67, wI67, aL67, aI68, wI68, aL68, aI69, wI69, aL69, aJ70, wJ70, aL70, aJ71, wJ71, aL71, aJ72, wJ72, aL72, aZ73, wZ73, aL73, aI74, wI74, aL74, aI75, wI75, aL75, aJ76, wJ76, aL76, aJ77, wJ77, aL77, aI78, wI78, aL78, aI79, wI79, aL79, aI80, wI80, aL80, aI81, wI81, aL81, aI82, wI82, aL82, aI83, wI83, aL83, aI84, wI84, aL84, aI85, wI85, aL85, aI86, wI86, aL86, aI87, wI87, aL87, aI88, wI88, aL88, aI89, wI89, aL89, aI90, wI90, aL90, aI91, wI91, aL91, aI92, wI92, aL92, aI93, wI93, aL93, aI94, wI94, aL94, aZ95, wZ95, aL95, aI96, wI96, aL96, aJ97, wJ97, aL97, hF1, h7]
        congr 1
        unfold lkZ glN
        rw [if_neg (show ¬ (ow 4 n - 1) % 2 = 1 by omega), od, if_neg (show ¬ (4 : Nat) = 5 by omega), nz, nz, zI_sub]
        split <;> rfl
      · rw [if_neg (fun z => z rfl), b_270_73]
        simp (disch := first | assumption | (repeat' (first | apply fx_sI | apply fx_sJ | assumption | omega))) only [bnd_e, grd_e, grd0, grd1, Option.bind_some, Option.isSome_some, gQ30_0, gQ30_1, gQ30_2, gQ30_3, gQ30_4, gQ30_5, gQ30_6, gQ30_7, gQ30_8, gQ30_9, gQ31_0, gQ33_0, gQ33_1, gQ36_0, gQ36_1, gQ39_0, gQ39_3, gQ39_4, gQ39_6, gQ39_8, gQ39_10, gQ39_11, gQ39_12, gQ48_0, gQ48_1, gQ51_2, gQ53_0, gQ53_1, gQ60_0, gQ60_1, gQ60_2, gQ64_1, gQ64_14, gQ64_15, gQ64_16, gQ64_17, gQ64_18, gQ64_19, gQ64_20, gQ64_21, gQ64_24, gQ64_25, gQ64_27, gQ64_28, gQ64_29, gQ64_30, gQ64_31, gQ64_34, gQ64_35, gQ64_36, gQ64_39, gQ64_40, gQ64_41, gQ64_43, gQ64_44, gQ64_48, gQ64_50, gQ64_51, gQ64_52, gQ64_53, gQ64_54, gQ64_58, gQ64_59, gI30, gJ30, pI30, pJ30, rC30, gI31, gJ31, pI31, pJ31, rC31, gI33, gJ33, pI33, pJ33, rC33, gI36, gJ36, pI36, pJ36, rC36, gI39, gJ39, pI39, pJ39, rC39, gI48, gJ48, pI48, pJ48, rC48, gI51, gJ51, pI51, pJ51, rC51, gI53, gJ53, pI53, pJ53, rC53, gI60, gJ60, pI60, pJ60, rC60, gI64, gJ64, pI64, pJ64, rC64, aI27, aL27, aI28, aL28, aI32, wI32, aL32, aI34, wI34, aL34, aI35, wI35, aL35, aI37, wI37, aL37, aI38, wI38, aL38, aJ40, wJ40, aL40, aI41, wI41, aL41, aI42, wI42, aL42, aI43, wI43, aL43, aI44, wI44, aL44, aI45, wI45, aL45, aI46, wI46, aL46, aI47, wI47, aL47, aI49, wI49, aL49, aI50, wI50, aL50, aI52, wI52, aL52, aI54, wI54, aL54, aI55, wI55, aL55, aL56, aL57, aL58, aI59, wI59, aL59, aI61, wI61, aL61, aL62, aI63, wI63, aL63, aI65, wI65, aL65, aI66, wI66, aL66, aI67, wI67, aL67, aI68, wI68, aL68, aI69, wI69, aL69, aJ70, wJ70, aL70, aJ71, wJ71, aL71, aJ72, wJ72, aL72, aZ73, wZ73, aL73, aI74, wI74, aL74, aI75, wI75, aL75, aJ76, wJ76, aL76, aJ77, wJ77, aL77, aI78, wI78, aL78, aI79, wI79, aL79, aI80, wI80, aL80, aI81, wI81, aL81, aI82, wI82, aL82, aI83, wI83, aL83, aI84, wI84, aL84, aI85, wI85, aL85, aI86, wI86, aL86, aI87, wI87, aL87, aI88, wI88, aL88, aI89, wI89, aL89, aI90, wI90, aL90, aI91, wI91, aL91, aI92, wI92, aL92, aI93, wI93, aL93, aI94, wI94, aL94, aZ95, wZ95, aL95, aI96, wI96, aL96, aJ97, wJ97, aL97, hF1, h7]
        congr 1
        unfold lkZ
        rw [if_pos (show (ow 5 n - 1) % 2 = 1 by omega), od, zI_nat]
    rw [st]
    unfold actD
    rw [if_neg (by omega)]
    have c0 : (0 < zI (lkZ E an (ow w n - 1))) = (0 < lkZ E an (ow w n - 1)) := propext (by rw [zI_0]; exact zI_lt (by omega) (by omega) (by omega) (by omega))
    rw [b_270_90]
    simp only [c0]
    by_cases cl : lkZ E an (ow w n - 1) ≤ 0
    · rw [if_pos cl, if_neg (by omega)]
      refine ⟨g1, ?_, a2.wid (by intro z hz; simp only [List.mem_cons, List.not_mem_nil, or_false] at hz ⊢; omega), hM1⟩
      have h45 := hM1.1.2.2.1
      have b := hM.2.1.2.2.2
      rw [b_270_97]
      simp only [bnd_e, grd_e, grd0, grd1, Option.bind_some, Option.isSome_some, gQ30_0, gQ30_1, gQ30_2, gQ30_3, gQ30_4, gQ30_5, gQ30_6, gQ30_7, gQ30_8, gQ30_9, gQ31_0, gQ33_0, gQ33_1, gQ36_0, gQ36_1, gQ39_0, gQ39_3, gQ39_4, gQ39_6, gQ39_8, gQ39_10, gQ39_11, gQ39_12, gQ48_0, gQ48_1, gQ51_2, gQ53_0, gQ53_1, gQ60_0, gQ60_1, gQ60_2, gQ64_1, gQ64_14, gQ64_15, gQ64_16, gQ64_17, gQ64_18, gQ64_19, gQ64_20, gQ64_21, gQ64_24, gQ64_25, gQ64_27, gQ64_28, gQ64_29, gQ64_30, gQ64_31, gQ64_34, gQ64_35, gQ64_36, gQ64_39, gQ64_40, gQ64_41, gQ64_43, gQ64_44, gQ64_48, gQ64_50, gQ64_51, gQ64_52, gQ64_53, gQ64_54, gQ64_58, gQ64_59, gI30, gJ30, pI30, pJ30, rC30, gI31, gJ31, pI31, pJ31, rC31, gI33, gJ33, pI33, pJ33, rC33, gI36, gJ36, pI36, pJ36, rC36, gI39, gJ39, pI39, pJ39, rC39, gI48, gJ48, pI48, pJ48, rC48, gI51, gJ51, pI51, pJ51, rC51, gI53, gJ53, pI53, pJ53, rC53, gI60, gJ60, pI60, pJ60, rC60, gI64, gJ64, pI64, pJ64, rC64, hF1, h45, mI_m1 (show pl < 2147483648 by omega)]
      rw [od]
      by_cases p0 : pl = 0
      · rw [if_neg (fun z => z p0), if_pos p0]; rfl
      · rw [if_pos p0, if_neg p0, b_270_109]
        simp only [bnd_e, grd_e, grd0, grd1, Option.bind_some, Option.isSome_some, gQ30_0, gQ30_1, gQ30_2, gQ30_3, gQ30_4, gQ30_5, gQ30_6, gQ30_7, gQ30_8, gQ30_9, gQ31_0, gQ33_0, gQ33_1, gQ36_0, gQ36_1, gQ39_0, gQ39_3, gQ39_4, gQ39_6, gQ39_8, gQ39_10, gQ39_11, gQ39_12, gQ48_0, gQ48_1, gQ51_2, gQ53_0, gQ53_1, gQ60_0, gQ60_1, gQ60_2, gQ64_1, gQ64_14, gQ64_15, gQ64_16, gQ64_17, gQ64_18, gQ64_19, gQ64_20, gQ64_21, gQ64_24, gQ64_25, gQ64_27, gQ64_28, gQ64_29, gQ64_30, gQ64_31, gQ64_34, gQ64_35, gQ64_36, gQ64_39, gQ64_40, gQ64_41, gQ64_43, gQ64_44, gQ64_48, gQ64_50, gQ64_51, gQ64_52, gQ64_53, gQ64_54, gQ64_58, gQ64_59, gI30, gJ30, pI30, pJ30, rC30, gI31, gJ31, pI31, pJ31, rC31, gI33, gJ33, pI33, pJ33, rC33, gI36, gJ36, pI36, pJ36, rC36, gI39, gJ39, pI39, pJ39, rC39, gI48, gJ48, pI48, pJ48, rC48, gI51, gJ51, pI51, pJ51, rC51, gI53, gJ53, pI53, pJ53, rC53, gI60, gJ60, pI60, pJ60, rC60, gI64, gJ64, pI64, pJ64, rC64, hF1, s_256 hF1 hM1.1 hW hM.2.1 hd, bI_0']
        cases nearB E an pl n <;> rfl
    · rw [if_neg cl, if_pos (by omega), zI_toNat lp]
      obtain ⟨m, hm⟩ := FU_ge ((lkZ E an (ow w n - 1)).toNat + 1) (by omega)
      obtain ⟨g, b1, b2⟩ := l_270b hW hw hd (L := (lkZ E an (ow w n - 1)).toNat) (by omega) (lkZ E an (ow w n - 1)).toNat 0 m g1 an pl sp sh hF1 hM1 (by omega) (fun _ => decide_eq_false (fun z => by omega))
      refine ⟨g, ?_, (a2.wid (by intro z hz; simp only [List.mem_cons, List.not_mem_nil, or_false] at hz ⊢; omega)).then b2.1, b2.2⟩
      rw [b_270_123, bnd_e, hm, b1]
/-- which doors are open -/
theorem l_271o {an : Nat → Nat} {x y : Int32} {h : Hp} (hF : Fix h) (hE : NowE h E) (h7 : ∀ d, d < 10 → hI h 87 d = nI (an d)) (h3 : ∀ d, d < E 2 → an d < 3) (h10 : E 2 ≤ 10) : ∀ r i m, i + r = E 2 → l_271_79 (r + 1 + m) (some 64) x y (nI (opP an i)) (nI i) h = b_271_111 (some 64) x y (nI (opP an (E 2))) h := by
  intro r
  induction r with
  | zero =>
    intro i m hi
    obtain rfl : i = E 2 := by omega
    rw [show 0 + 1 + m = m + 1 by omega, l_271_79, b_271_79]
    simp (disch := first | assumption | (repeat' (first | apply fx_sI | apply fx_sJ | assumption | omega))) only [bnd_e, grd_e, grd0, grd1, Option.bind_some, Option.isSome_some, gQ30_0, gQ30_1, gQ30_2, gQ30_3, gQ30_4, gQ30_5, gQ30_6, gQ30_7, gQ30_8, gQ30_9, gQ31_0, gQ33_0, gQ33_1, gQ36_0, gQ36_1, gQ39_0, gQ39_3, gQ39_4, gQ39_6, gQ39_8, gQ39_10, gQ39_11, gQ39_12, gQ48_0, gQ48_1, gQ51_2, gQ53_0, gQ53_1, gQ60_0, gQ60_1, gQ60_2, gQ64_1, gQ64_14, gQ64_15, gQ64_16, gQ64_17, gQ64_18, gQ64_19, gQ64_20, gQ64_21, gQ64_24, gQ64_25, gQ64_27, gQ64_28, gQ64_29, gQ64_30, gQ64_31, gQ64_34, gQ64_35, gQ64_36, gQ64_39, gQ64_40, gQ64_41, gQ64_43, gQ64_44, gQ64_48, gQ64_50, gQ64_51, gQ64_52, gQ64_53, gQ64_54, gQ64_58, gQ64_59, gI30, gJ30, pI30, pJ30, rC30, gI31, gJ31, pI31, pJ31, rC31, gI33, gJ33, pI33, pJ33, rC33, gI36, gJ36, pI36, pJ36, rC36, gI39, gJ39, pI39, pJ39, rC39, gI48, gJ48, pI48, pJ48, rC48, gI51, gJ51, pI51, pJ51, rC51, gI53, gJ53, pI53, pJ53, rC53, gI60, gJ60, pI60, pJ60, rC60, gI64, gJ64, pI64, pJ64, rC64, hF, s_203 hF hE, nI_leI, Nat.le_refl, if_true]
  | succ r ih =>
    intro i m hi
    have hv := h7 i (by omega)
    have ha := h3 i (by omega)
    rw [show r + 1 + 1 + m = (r + 1 + m) + 1 by omega, l_271_79, b_271_79]
    simp (disch := first | assumption | (repeat' (first | apply fx_sI | apply fx_sJ | assumption | omega))) only [bnd_e, grd_e, grd0, grd1, Option.bind_some, Option.isSome_some, gQ30_0, gQ30_1, gQ30_2, gQ30_3, gQ30_4, gQ30_5, gQ30_6, gQ30_7, gQ30_8, gQ30_9, gQ31_0, gQ33_0, gQ33_1, gQ36_0, gQ36_1, gQ39_0, gQ39_3, gQ39_4, gQ39_6, gQ39_8, gQ39_10, gQ39_11, gQ39_12, gQ48_0, gQ48_1, gQ51_2, gQ53_0, gQ53_1, gQ60_0, gQ60_1, gQ60_2, gQ64_1, gQ64_14, gQ64_15, gQ64_16, gQ64_17, gQ64_18, gQ64_19, gQ64_20, gQ64_21, gQ64_24, gQ64_25, gQ64_27, gQ64_28, gQ64_29, gQ64_30, gQ64_31, gQ64_34, gQ64_35, gQ64_36, gQ64_39, gQ64_40, gQ64_41, gQ64_43, gQ64_44, gQ64_48, gQ64_50, gQ64_51, gQ64_52, gQ64_53, gQ64_54, gQ64_58, gQ64_59, gI30, gJ30, pI30, pJ30, rC30, gI31, gJ31, pI31, pJ31, rC31, gI33, gJ33, pI33, pJ33, rC33, gI36, gJ36, pI36, pJ36, rC36, gI39, gJ39, pI39, pJ39, rC39, gI48, gJ48, pI48, pJ48, rC48, gI51, gJ51, pI51, pJ51, rC51, gI53, gJ53, pI53, pJ53, rC53, gI60, gJ60, pI60, pJ60, rC60, gI64, gJ64, pI64, pJ64, rC64, hF, s_203 hF hE, nI_leI, show ¬ E 2 ≤ i by omega, if_false]
    rw [b_271_88]
    simp (disch := first | assumption | (repeat' (first | apply fx_sI | apply fx_sJ | assumption | omega))) only [bnd_e, grd_e, grd0, grd1, Option.bind_some, Option.isSome_some, gQ30_0, gQ30_1, gQ30_2, gQ30_3, gQ30_4, gQ30_5, gQ30_6, gQ30_7, gQ30_8, gQ30_9, gQ31_0, gQ33_0, gQ33_1, gQ36_0, gQ36_1, gQ39_0, gQ39_3, gQ39_4, gQ39_6, gQ39_8, gQ39_10, gQ39_11, gQ39_12, gQ48_0, gQ48_1, gQ51_2, gQ53_0, gQ53_1, gQ60_0, gQ60_1, gQ60_2, gQ64_1, gQ64_14, gQ64_15, gQ64_16, gQ64_17, gQ64_18, gQ64_19, gQ64_20, gQ64_21, gQ64_24, gQ64_25, gQ64_27, gQ64_28, gQ64_29, gQ64_30, gQ64_31, gQ64_34, gQ64_35, gQ64_36, gQ64_39, gQ64_40, gQ64_41, gQ64_43, gQ64_44, gQ64_48, gQ64_50, gQ64_51, gQ64_52, gQ64_53, gQ64_54, gQ64_58, gQ64_59, gI30, gJ30, pI30, pJ30, rC30, gI31, gJ31, pI31, pJ31, rC31, gI33, gJ33, pI33, pJ33, rC33, gI36, gJ36, pI36, pJ36, rC36, gI39, gJ39, pI39, pJ39, rC39, gI48, gJ48, pI48, pJ48, rC48, gI51, gJ51, pI51, pJ51, rC51, gI53, gJ53, pI53, pJ53, rC53, gI60, gJ60, pI60, pJ60, rC60, gI64, gJ64, pI64, pJ64, rC64, aI27, aL27, aI28, aL28, aI32, wI32, aL32, aI34, wI34, aL34, aI35, wI35, aL35, aI37, wI37, aL37, aI38, wI38, aL38, aJ40, wJ40, aL40, aI41, wI41, aL41, aI42, wI42, aL42, aI43, wI43, aL43, aI44, wI44, aL44, aI45, wI45, aL45, aI46, wI46, aL46, aI47, wI47, aL47, aI49, wI49, aL49, aI50, wI50, aL50, aI52, wI52, aL52, aI54, wI54, aL54, aI55, wI55, aL55, aL56, aL57, aL58, aI59, wI59, aL59, aI61, wI61, aL61, aL62, aI63, wI63, aL63, aI65, wI65, aL65, aI66, wI66, aL66, aI67, wI67, aL67, aI68, wI68, aL68, aI69, wI69, aL69, aJ70, wJ70, aL70, aJ71, wJ71, aL71, aJ72, wJ72, aL72, aZ73, wZ73, aL73, aI74, wI74, aL74, aI75, wI75, aL75, aJ76, wJ76, aL76, aJ77, wJ77, aL77, aI78, wI78, aL78, aI79, wI79, aL79, aI80, wI80, aL80, aI81, wI81, aL81, aI82, wI82, aL82, aI83, wI83, aL83, aI84, wI84, aL84, aI85, wI85, aL85, aI86, wI86, aL86, aI87, wI87, aL87, aI88, wI88, aL88, aI89, wI89, aL89, aI90, wI90, aL90, aI91, wI91, aL91, aI92, wI92, aL92, aI93, wI93, aL93, aI94, wI94, aL94, aZ95, wZ95, aL95, aI96, wI96, aL96, aJ97, wJ97, aL97, hF, hv, nI_eq0 (show an i < 2147483648 by omega)]
    by_cases c : an i = 0
    · have : opP an (i + 1) = opP an i := by
        show opP an i ||| _ = _
        rw [if_neg (by simp [c]), Nat.or_zero]
      rw [if_pos c, b_271_105, bnd_e, nI_add, ← ih (i + 1) m (by omega), this]
    · have : opP an (i + 1) = opP an i ||| 2 ^ i := by
        show opP an i ||| _ = _
        rw [if_pos (by simp [c])]
      rw [if_neg c, b_271_98, bnd_e, nI_1shl (by omega), fa_or, b_271_105, bnd_e, nI_add, ← ih (i + 1) m (by omega), this]
theorem l_271 (hW : WF E) (hD : DW E) : ∀ r i m h an pl sp sh, Fix h → MD h E an pl sp sh → i + r = E 341 →
    ∃ g, l_271_15 (r + 1 + m) (some 64) (nI 0) (-1) (nI i) h = b_271_74 (some 64) (nI (dyR E r i an pl sp sh).1) (mI (dyR E r i an pl sp sh).2.1) g ∧ Fz [46000064, 47000064, 50000064, 87, 27000064, 74, 75, 88] h g ∧ MD g E (dyR E r i an pl sp sh).2.2.1 (dyR E r i an pl sp sh).2.2.2.1 (dyR E r i an pl sp sh).2.2.2.2.1 (dyR E r i an pl sp sh).2.2.2.2.2 := by
  have b60 := hD.1
  intro r
  induction r with
  | zero =>
    intro i m h an pl sp sh hF hM hi
    obtain rfl : i = E 341 := by omega
    have hE := hM.1.1
    refine ⟨h, ?_, Fz.rfl', hM⟩
    rw [show 0 + 1 + m = m + 1 by omega, l_271_15, b_271_15]
    simp (disch := first | assumption | (repeat' (first | apply fx_sI | apply fx_sJ | assumption | omega))) only [bnd_e, grd_e, grd0, grd1, Option.bind_some, Option.isSome_some, gQ30_0, gQ30_1, gQ30_2, gQ30_3, gQ30_4, gQ30_5, gQ30_6, gQ30_7, gQ30_8, gQ30_9, gQ31_0, gQ33_0, gQ33_1, gQ36_0, gQ36_1, gQ39_0, gQ39_3, gQ39_4, gQ39_6, gQ39_8, gQ39_10, gQ39_11, gQ39_12, gQ48_0, gQ48_1, gQ51_2, gQ53_0, gQ53_1, gQ60_0, gQ60_1, gQ60_2, gQ64_1, gQ64_14, gQ64_15, gQ64_16, gQ64_17, gQ64_18, gQ64_19, gQ64_20, gQ64_21, gQ64_24, gQ64_25, gQ64_27, gQ64_28, gQ64_29, gQ64_30, gQ64_31, gQ64_34, gQ64_35, gQ64_36, gQ64_39, gQ64_40, gQ64_41, gQ64_43, gQ64_44, gQ64_48, gQ64_50, gQ64_51, gQ64_52, gQ64_53, gQ64_54, gQ64_58, gQ64_59, gI30, gJ30, pI30, pJ30, rC30, gI31, gJ31, pI31, pJ31, rC31, gI33, gJ33, pI33, pJ33, rC33, gI36, gJ36, pI36, pJ36, rC36, gI39, gJ39, pI39, pJ39, rC39, gI48, gJ48, pI48, pJ48, rC48, gI51, gJ51, pI51, pJ51, rC51, gI53, gJ53, pI53, pJ53, rC53, gI60, gJ60, pI60, pJ60, rC60, gI64, gJ64, pI64, pJ64, rC64, aI27, aL27, aI28, aL28, aI32, wI32, aL32, aI34, wI34, aL34, aI35, wI35, aL35, aI37, wI37, aL37, aI38, wI38, aL38, aJ40, wJ40, aL40, aI41, wI41, aL41, aI42, wI42, aL42, aI43, wI43, aL43, aI44, wI44, aL44, aI45, wI45, aL45, aI46, wI46, aL46, aI47, wI47, aL47, aI49, wI49, aL49, aI50, wI50, aL50, aI52, wI52, aL52, aI54, wI54, aL54, aI55, wI55, aL55, aL56, aL57, aL58, aI59, wI59, aL59, aI61, wI61, aL61, aL62, aI63, wI63, aL63, aI65, wI65, aL65, aI66, wI66, aL66, aI67, wI67, aL67, aI68, wI68, aL68, aI69, wI69, aL69, aJ70, wJ70, aL70, aJ71, wJ71, aL71, aJ72, wJ72, aL72, aZ73, wZ73, aL73, aI74, wI74, aL74, aI75, wI75, aL75, aJ76, wJ76, aL76, aJ77, wJ77, aL77, aI78, wI78, aL78, aI79, wI79, aL79, aI80, wI80, aL80, aI81, wI81, aL81, aI82, wI82, aL82, aI83, wI83, aL83, aI84, wI84, aL84, aI85, wI85, aL85, aI86, wI86, aL86, aI87, wI87, aL87, aI88, wI88, aL88, aI89, wI89, aL89, aI90, wI90, aL90, aI91, wI91, aL91, aI92, wI92, aL92, aI93, wI93, aL93, aI94, wI94, aL94, aZ95, wZ95, aL95, aI96, wI96, aL96, aJ97, wJ97, aL97, hF, hE.1, nI_leI, Nat.le_refl, if_true]
    rfl
  | succ r ih =>
    intro i m h an pl sp sh hF hM hi
    have hE := hM.1.1
    have dw := hD.2 i (by omega)
    have v1 := hE.1 (342 + 2 * i) (by omega) (by omega) (by omega)
    have v2 := hE.1 (343 + 2 * i) (by omega) (by omega) (by omega)
    obtain ⟨g1, a1, a2, a3⟩ := s_270 hF hW hM dw
    have hF1 := a2.fix hF (by decide)
    have st : l_271_15 (r + 1 + m + 1) (some 64) (nI 0) (-1) (nI i) h = if nI (actD E (ow (E (342 + 2 * i)) (E (343 + 2 * i))) (E (343 + 2 * i)) an pl sp sh).1 = 0 then b_271_68 (l_271_15 (r + 1 + m)) (some 64) (nI (actD E (ow (E (342 + 2 * i)) (E (343 + 2 * i))) (E (343 + 2 * i)) an pl sp sh).1) (-1) (nI i) g1 else b_271_66 (l_271_15 (r + 1 + m)) (some 64) (nI (actD E (ow (E (342 + 2 * i)) (E (343 + 2 * i))) (E (343 + 2 * i)) an pl sp sh).1) (nI i) g1 := by
      rw [l_271_15, b_271_15]
      simp (disch := first | assumption | (repeat' (first | apply fx_sI | apply fx_sJ | assumption | omega))) only [bnd_e, grd_e, grd0, grd1, Option.bind_some, Option.isSome_some, gQ30_0, gQ30_1, gQ30_2, gQ30_3, gQ30_4, gQ30_5, gQ30_6, gQ30_7, gQ30_8, gQ30_9, gQ31_0, gQ33_0, gQ33_1, gQ36_0, gQ36_1, gQ39_0, gQ39_3, gQ39_4, gQ39_6, gQ39_8, gQ39_10, gQ39_11, gQ39_12, gQ48_0, gQ48_1, gQ51_2, gQ53_0, gQ53_1, gQ60_0, gQ60_1, gQ60_2, gQ64_1, gQ64_14, gQ64_15, gQ64_16, gQ64_17, gQ64_18, gQ64_19, gQ64_20, gQ64_21, gQ64_24, gQ64_25, gQ64_27, gQ64_28, gQ64_29, gQ64_30, gQ64_31, gQ64_34, gQ64_35, gQ64_36, gQ64_39, gQ64_40, gQ64_41, gQ64_43, gQ64_44, gQ64_48, gQ64_50, gQ64_51, gQ64_52, gQ64_53, gQ64_54, gQ64_58, gQ64_59, gI30, gJ30, pI30, pJ30, rC30, gI31, gJ31, pI31, pJ31, rC31, gI33, gJ33, pI33, pJ33, rC33, gI36, gJ36, pI36, pJ36, rC36, gI39, gJ39, pI39, pJ39, rC39, gI48, gJ48, pI48, pJ48, rC48, gI51, gJ51, pI51, pJ51, rC51, gI53, gJ53, pI53, pJ53, rC53, gI60, gJ60, pI60, pJ60, rC60, gI64, gJ64, pI64, pJ64, rC64, aI27, aL27, aI28, aL28, aI32, wI32, aL32, aI34, wI34, aL34, aI35, wI35, aL35, aI37, wI37, aL37, aI38, wI38, aL38, aJ40, wJ40, aL40, aI41, wI41, aL41, aI42, wI42, aL42, aI43, wI43, aL43, aI44, wI44, aL44, aI45, wI45, aL45, aI46, wI46, aL46, aI47, wI47, aL47, aI49, wI49, aL49, aI50, wI50, aL50, aI52, wI52, aL52, aI54, wI54, aL54, aI55, wI55, aL55, aL56, aL57, aL58, aI59, wI59, aL59, aI61, wI61, aL61, aL62, aI63, wI63, aL63, aI65, wI65, aL65, aI66, wI66, aL66, aI67, wI67, aL67, aI68, wI68, aL68, aI69, wI69, aL69, aJ70, wJ70, aL70, aJ71, wJ71, aL71, aJ72, wJ72, aL72, aZ73, wZ73, aL73, aI74, wI74, aL74, aI75, wI75, aL75, aJ76, wJ76, aL76, aJ77, wJ77, aL77, aI78, wI78, aL78, aI79, wI79, aL79, aI80, wI80, aL80, aI81, wI81, aL81, aI82, wI82, aL82, aI83, wI83, aL83, aI84, wI84, aL84, aI85, wI85, aL85, aI86, wI86, aL86, aI87, wI87, aL87, aI88, wI88, aL88, aI89, wI89, aL89, aI90, wI90, aL90, aI91, wI91, aL91, aI92, wI92, aL92, aI93, wI93, aL93, aI94, wI94, aL94, aZ95, wZ95, aL95, aI96, wI96, aL96, aJ97, wJ97, aL97, hF, hE.1, nI_leI, show ¬ E 341 ≤ i by omega, if_false]
      rw [b_271_27, if_neg (fun z => z rfl), b_271_31]
      simp (disch := first | assumption | (repeat' (first | apply fx_sI | apply fx_sJ | assumption | omega))) only [bnd_e, grd_e, grd0, grd1, Option.bind_some, Option.isSome_some, gQ30_0, gQ30_1, gQ30_2, gQ30_3, gQ30_4, gQ30_5, gQ30_6, gQ30_7, gQ30_8, gQ30_9, gQ31_0, gQ33_0, gQ33_1, gQ36_0, gQ36_1, gQ39_0, gQ39_3, gQ39_4, gQ39_6, gQ39_8, gQ39_10, gQ39_11, gQ39_12, gQ48_0, gQ48_1, gQ51_2, gQ53_0, gQ53_1, gQ60_0, gQ60_1, gQ60_2, gQ64_1, gQ64_14, gQ64_15, gQ64_16, gQ64_17, gQ64_18, gQ64_19, gQ64_20, gQ64_21, gQ64_24, gQ64_25, gQ64_27, gQ64_28, gQ64_29, gQ64_30, gQ64_31, gQ64_34, gQ64_35, gQ64_36, gQ64_39, gQ64_40, gQ64_41, gQ64_43, gQ64_44, gQ64_48, gQ64_50, gQ64_51, gQ64_52, gQ64_53, gQ64_54, gQ64_58, gQ64_59, gI30, gJ30, pI30, pJ30, rC30, gI31, gJ31, pI31, pJ31, rC31, gI33, gJ33, pI33, pJ33, rC33, gI36, gJ36, pI36, pJ36, rC36, gI39, gJ39, pI39, pJ39, rC39, gI48, gJ48, pI48, pJ48, rC48, gI51, gJ51, pI51, pJ51, rC51, gI53, gJ53, pI53, pJ53, rC53, gI60, gJ60, pI60, pJ60, rC60, gI64, gJ64, pI64, pJ64, rC64, aI27, aL27, aI28, aL28, aI32, wI32, aL32, aI34, wI34, aL34, aI35, wI35, aL35, aI37, wI37, aL37, aI38, wI38, aL38, aJ40, wJ40, aL40, aI41, wI41, aL41, aI42, wI42, aL42, aI43, wI43, aL43, aI44, wI44, aL44, aI45, wI45, aL45, aI46, wI46, aL46, aI47, wI47, aL47, aI49, wI49, aL49, aI50, wI50, aL50, aI52, wI52, aL52, aI54, wI54, aL54, aI55, wI55, aL55, aL56, aL57, aL58, aI59, wI59, aL59, aI61, wI61, aL61, aL62, aI63, wI63, aL63, aI65, wI65, aL65, aI66, wI66, aL66, aI67, wI67, aL67, aI68, wI68, aL68, aI69, wI69, aL69, aJ70, wJ70, aL70, aJ71, wJ71, aL71, aJ72, wJ72, aL72, aZ73, wZ73, aL73, aI74, wI74, aL74, aI75, wI75, aL75, aJ76, wJ76, aL76, aJ77, wJ77, aL77, aI78, wI78, aL78, aI79, wI79, aL79, aI80, wI80, aL80, aI81, wI81, aL81, aI82, wI82, aL82, aI83, wI83, aL83, aI84, wI84, aL84, aI85, wI85, aL85, aI86, wI86, aL86, aI87, wI87, aL87, aI88, wI88, aL88, aI89, wI89, aL89, aI90, wI90, aL90, aI91, wI91, aL91, aI92, wI92, aL92, aI93, wI93, aL93, aI94, wI94, aL94, aZ95, wZ95, aL95, aI96, wI96, aL96, aJ97, wJ97, aL97, hF, pk_mul, nI_add, show 342 + 2 * i + 1 = 343 + 2 * i by omega, v1, v2, a1]
    rw [show r + 1 + 1 + m = r + 1 + m + 1 by omega, st]
    unfold dyR
    have ab : (actD E (ow (E (342 + 2 * i)) (E (343 + 2 * i))) (E (343 + 2 * i)) an pl sp sh).1 < 10 := by
      have dl : ∀ o r k an pl sp sh, (dayL E o r k an pl sp sh).1 < 10 := by
        intro o r
        induction r with
        | zero => intros; show 0 < 10; omega
        | succ r ih =>
          intro k an pl sp sh
          unfold dayL
          generalize (if 0 < k ∧ soB E an o = true then 0 else o) = o'
          have b := kn_lt (E := E) (an := an) (pl := pl) (o := o')
          by_cases c : kn E an pl o' = 0
          · rw [if_pos c]; exact ih _ _ _ _ _
          · rw [if_neg c]; exact b
      unfold actD
      split
      · exact dl _ _ _ _ _ _ _
      · split
        · show (if pl = 0 then 1 else if nearB E an pl _ = true then 5 else 4) < 10
          repeat' split
          all_goals omega
        · exact dl _ _ _ _ _ _ _
    generalize hA : actD E (ow (E (342 + 2 * i)) (E (343 + 2 * i))) (E (343 + 2 * i)) an pl sp sh = A at a3 ab
    by_cases c0 : A.1 = 0
    · rw [if_pos c0, if_pos (by rw [c0]; rfl), b_271_68, bnd_e, c0, nI_add]
      obtain ⟨g2, b1, b2, b3⟩ := ih (i + 1) m g1 _ _ _ _ hF1 a3 (by omega)
      exact ⟨g2, b1, a2.then b2, b3⟩
    · have nz0 : ¬ nI A.1 = 0 := by rw [nI_eq0 (by omega)]; exact c0
      rw [if_neg c0, if_neg nz0, b_271_66, b_271_68, bnd_e, nI_add]
      refine ⟨g1, ?_, a2, a3⟩
      have hE1 := a3.1.1
      rw [show r + 1 + m = (r + m) + 1 by omega, l_271_15, b_271_15]
      simp (disch := first | assumption | (repeat' (first | apply fx_sI | apply fx_sJ | assumption | omega))) only [bnd_e, grd_e, grd0, grd1, Option.bind_some, Option.isSome_some, gQ30_0, gQ30_1, gQ30_2, gQ30_3, gQ30_4, gQ30_5, gQ30_6, gQ30_7, gQ30_8, gQ30_9, gQ31_0, gQ33_0, gQ33_1, gQ36_0, gQ36_1, gQ39_0, gQ39_3, gQ39_4, gQ39_6, gQ39_8, gQ39_10, gQ39_11, gQ39_12, gQ48_0, gQ48_1, gQ51_2, gQ53_0, gQ53_1, gQ60_0, gQ60_1, gQ60_2, gQ64_1, gQ64_14, gQ64_15, gQ64_16, gQ64_17, gQ64_18, gQ64_19, gQ64_20, gQ64_21, gQ64_24, gQ64_25, gQ64_27, gQ64_28, gQ64_29, gQ64_30, gQ64_31, gQ64_34, gQ64_35, gQ64_36, gQ64_39, gQ64_40, gQ64_41, gQ64_43, gQ64_44, gQ64_48, gQ64_50, gQ64_51, gQ64_52, gQ64_53, gQ64_54, gQ64_58, gQ64_59, gI30, gJ30, pI30, pJ30, rC30, gI31, gJ31, pI31, pJ31, rC31, gI33, gJ33, pI33, pJ33, rC33, gI36, gJ36, pI36, pJ36, rC36, gI39, gJ39, pI39, pJ39, rC39, gI48, gJ48, pI48, pJ48, rC48, gI51, gJ51, pI51, pJ51, rC51, gI53, gJ53, pI53, pJ53, rC53, gI60, gJ60, pI60, pJ60, rC60, gI64, gJ64, pI64, pJ64, rC64, aI27, aL27, aI28, aL28, aI32, wI32, aL32, aI34, wI34, aL34, aI35, wI35, aL35, aI37, wI37, aL37, aI38, wI38, aL38, aJ40, wJ40, aL40, aI41, wI41, aL41, aI42, wI42, aL42, aI43, wI43, aL43, aI44, wI44, aL44, aI45, wI45, aL45, aI46, wI46, aL46, aI47, wI47, aL47, aI49, wI49, aL49, aI50, wI50, aL50, aI52, wI52, aL52, aI54, wI54, aL54, aI55, wI55, aL55, aL56, aL57, aL58, aI59, wI59, aL59, aI61, wI61, aL61, aL62, aI63, wI63, aL63, aI65, wI65, aL65, aI66, wI66, aL66, aI67, wI67, aL67, aI68, wI68, aL68, aI69, wI69, aL69, aJ70, wJ70, aL70, aJ71, wJ71, aL71, aJ72, wJ72, aL72, aZ73, wZ73, aL73, aI74, wI74, aL74, aI75, wI75, aL75, aJ76, wJ76, aL76, aJ77, wJ77, aL77, aI78, wI78, aL78, aI79, wI79, aL79, aI80, wI80, aL80, aI81, wI81, aL81, aI82, wI82, aL82, aI83, wI83, aL83, aI84, wI84, aL84, aI85, wI85, aL85, aI86, wI86, aL86, aI87, wI87, aL87, aI88, wI88, aL88, aI89, wI89, aL89, aI90, wI90, aL90, aI91, wI91, aL91, aI92, wI92, aL92, aI93, wI93, aL93, aI94, wI94, aL94, aZ95, wZ95, aL95, aI96, wI96, aL96, aJ97, wJ97, aL97, hF1, hE1.1]
      by_cases ce : E 341 ≤ i + 1
      · rw [if_pos (by rw [nI_leI (by omega) (by omega)]; exact ce)]; rfl
      · rw [if_neg (by rw [nI_leI (by omega) (by omega)]; exact ce), b_271_27, if_pos nz0]; rfl
end DODAY
