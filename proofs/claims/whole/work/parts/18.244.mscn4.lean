/-! the reference's scene: what hinders, swings, acts, draughts, minutes -/
section MS4
variable {E an : Nat → Nat} {pl : Nat} {h : Hp}
def badB (E an : Nat → Nat) (pl d : Nat) (p : Int × Int) : Bool := decide ((lonV E an (E 2) (cN p) ≠ 0 ∧ lonV E an (E 2) (cN p) ≠ d + 1) ∨ cN p + 1 = pl)
theorem l_257 {l : List (Int × Int)} {d : Nat} (hF : Fix h) (hM : MS h E an pl) (hW : WF E) (hp : pl ≤ 100) (hd : d < E 2) (hl : LfS h l) (h4 : l.length ≤ 4) (hb : ∀ p, p ∈ l → inE E p = true) : ∀ r i m, i + r = l.length → l_257_32 (r + 1 + m) (some 64) (nI d) (nI i) h = some (nI (if (l.drop i).any (badB E an pl d) = true then 7 else 0), h) := by
  obtain ⟨hE, h7, h45, h8⟩ := hM
  have w2 := hW.2.2.1
  intro r
  induction r with
  | zero =>
    intro i m hi
    obtain rfl : i = l.length := by omega
    rw [show 0 + 1 + m = m + 1 by omega, l_257_32]
    repeat ((first | rw [f_257] | rw [b_257_0] | rw [b_257_15] | rw [b_257_18] | rw [b_257_32] | rw [b_257_40] | rw [b_257_68] | rw [b_257_81] | rw [b_257_90] | rw [b_257_93] | rw [b_257_99]) <;> try simp (disch := first | assumption | (repeat' (first | apply fx_sI | apply fx_sJ | assumption | omega))) only [↓reduceIte, Option.bind_some, bnd_e, grd_e, grd0, grd1, bnd_e, grd_e, grd0, grd1, Option.bind_some, Option.isSome_some, gQ30_0, gQ30_1, gQ30_2, gQ30_3, gQ30_4, gQ30_5, gQ30_6, gQ30_7, gQ30_8, gQ30_9, gQ31_0, gQ33_0, gQ33_1, gQ36_0, gQ36_1, gQ39_0, gQ39_3, gQ39_4, gQ39_6, gQ39_8, gQ39_10, gQ39_11, gQ39_12, gQ48_0, gQ48_1, gQ51_2, gQ53_0, gQ53_1, gQ60_0, gQ60_1, gQ60_2, gQ64_1, gQ64_14, gQ64_15, gQ64_16, gQ64_17, gQ64_18, gQ64_19, gQ64_20, gQ64_21, gQ64_24, gQ64_25, gQ64_27, gQ64_28, gQ64_29, gQ64_30, gQ64_31, gQ64_34, gQ64_35, gQ64_36, gQ64_39, gQ64_40, gQ64_41, gQ64_43, gQ64_44, gQ64_48, gQ64_50, gQ64_51, gQ64_52, gQ64_53, gQ64_54, gQ64_58, gQ64_59, gI30, gJ30, pI30, pJ30, rC30, gI31, gJ31, pI31, pJ31, rC31, gI33, gJ33, pI33, pJ33, rC33, gI36, gJ36, pI36, pJ36, rC36, gI39, gJ39, pI39, pJ39, rC39, gI48, gJ48, pI48, pJ48, rC48, gI51, gJ51, pI51, pJ51, rC51, gI53, gJ53, pI53, pJ53, rC53, gI60, gJ60, pI60, pJ60, rC60, gI64, gJ64, pI64, pJ64, rC64, hF, hl.1, nI_leI, Nat.le_refl, List.drop_length, List.any_nil, Bool.false_eq_true])
  | succ r ih =>
    intro i m hi
    have hi' : i < l.length := by omega
    have hpp := hl.2 i hi'
    have hm := hb _ (getD_mem hi')
    have ih' := ih (i + 1) m (by omega)
    rw [List.drop_eq_getElem_cons hi', ← getD_g hi', List.any_cons]
    generalize l.getD i (0, 0) = p at hpp hm
    obtain ⟨x, y⟩ := p
    have q := inE_b ⟨hW.1, hW.2.1⟩ hm
    dsimp only at q hpp
    have e1 : nI 10 * zI y + zI x = nI (cN (x, y)) := zI_cN (by omega)
    have v1 := h8 (cN (x, y)) q.2.2.2.2.2
    have b1 := lonV_le (E := E) (an := an) (cN (x, y)) (E 2)
    have m1 : (nI (cN (x, y)) = mI pl) = (cN (x, y) + 1 = pl) := by
      apply propext
      rw [← mI_s, mI_inj (by omega) (by omega)]
    rw [show r + 1 + 1 + m = (r + 1 + m) + 1 by omega, l_257_32]
    repeat ((first | rw [f_257] | rw [b_257_0] | rw [b_257_15] | rw [b_257_18] | rw [b_257_32] | rw [b_257_40] | rw [b_257_68] | rw [b_257_81] | rw [b_257_90] | rw [b_257_93] | rw [b_257_99]) <;> try simp (disch := first | assumption | (repeat' (first | apply fx_sI | apply fx_sJ | assumption | omega))) only [↓reduceIte, Option.bind_some, bnd_e, grd_e, grd0, grd1, bnd_e, grd_e, grd0, grd1, Option.bind_some, Option.isSome_some, gQ30_0, gQ30_1, gQ30_2, gQ30_3, gQ30_4, gQ30_5, gQ30_6, gQ30_7, gQ30_8, gQ30_9, gQ31_0, gQ33_0, gQ33_1, gQ36_0, gQ36_1, gQ39_0, gQ39_3, gQ39_4, gQ39_6, gQ39_8, gQ39_10, gQ39_11, gQ39_12, gQ48_0, gQ48_1, gQ51_2, gQ53_0, gQ53_1, gQ60_0, gQ60_1, gQ60_2, gQ64_1, gQ64_14, gQ64_15, gQ64_16, gQ64_17, gQ64_18, gQ64_19, gQ64_20, gQ64_21, gQ64_24, gQ64_25, gQ64_27, gQ64_28, gQ64_29, gQ64_30, gQ64_31, gQ64_34, gQ64_35, gQ64_36, gQ64_39, gQ64_40, gQ64_41, gQ64_43, gQ64_44, gQ64_48, gQ64_50, gQ64_51, gQ64_52, gQ64_53, gQ64_54, gQ64_58, gQ64_59, gI30, gJ30, pI30, pJ30, rC30, gI31, gJ31, pI31, pJ31, rC31, gI33, gJ33, pI33, pJ33, rC33, gI36, gJ36, pI36, pJ36, rC36, gI39, gJ39, pI39, pJ39, rC39, gI48, gJ48, pI48, pJ48, rC48, gI51, gJ51, pI51, pJ51, rC51, gI53, gJ53, pI53, pJ53, rC53, gI60, gJ60, pI60, pJ60, rC60, gI64, gJ64, pI64, pJ64, rC64, aI27, aL27, aI28, aL28, aI32, wI32, aL32, aI34, wI34, aL34, aI35, wI35, aL35, aI37, wI37, aL37, aI38, wI38, aL38, aJ40, wJ40, aL40, aI41, wI41, aL41, aI42, wI42, aL42, aI43, wI43, aL43, aI44, wI44, aL44, aI45, wI45, aL45, aI46, wI46, aL46, aI47, wI47, aL47, aI49, wI49, aL49, aI50, wI50, aL50, aI52, wI52, aL52, aI54, wI54, aL54, aI55, wI55, aL55, aL56, aL57, aL58, aI59, wI59, aL59, aI61, wI61, aL61, aL62, aI63, wI63, aL63, aI65, wI65, aL65, aI66, wI66, aL66, aI67, wI67, aL67, aI68, wI68, aL68, aI69, wI69, aL69, aJ70, wJ70, aL70, aJ71, wJ71, aL71, aJ72, wJ72, aL72, aZ73, wZ73, aL73, aI74, wI74, aL74, aI75, wI75, aL75, aJ76, wJ76, aL76, aJ77, wJ77, aL77, aI78, wI78, aL78, aI79, wI79, aL79, aI80, wI80, aL80, aI81, wI81, aL81, aI82, wI82, aL82, aI83, wI83, aL83, aI84, wI84, aL84, aI85, wI85, aL85, aI86, wI86, aL86, aI87, wI87, aL87, aI88, wI88, aL88, aI89, wI89, aL89, aI90, wI90, aL90, aI91, wI91, aL91, aI92, wI92, aL92, aI93, wI93, aL93, aI94, wI94, aL94, aZ95, wZ95, aL95, aI96, wI96, aL96, aJ97, wJ97, aL97, hF, hl.1, nI_leI, show ¬ l.length ≤ i by omega, hpp.1, hpp.2, e1, v1, nI_add, nI_eq0 (show lonV E an (E 2) (cN (x, y)) < 2147483648 by omega), nI_eq, h45, m1, ih'])
    by_cases f1 : lonV E an (E 2) (cN (x, y)) = 0
    · by_cases f3 : cN (x, y) + 1 = pl
      · rw [show badB E an pl d (x, y) = true from decide_eq_true (Or.inr f3)]; simp [f1, f3]
      · rw [show badB E an pl d (x, y) = false from decide_eq_false (by omega), Bool.false_or]; simp [f1, f3]
    · by_cases f2 : lonV E an (E 2) (cN (x, y)) = d + 1
      · by_cases f3 : cN (x, y) + 1 = pl
        · rw [show badB E an pl d (x, y) = true from decide_eq_true (Or.inr f3)]; simp [f2, f3]
        · rw [show badB E an pl d (x, y) = false from decide_eq_false (by omega), Bool.false_or]; simp [f2, f3]
      · rw [show badB E an pl d (x, y) = true from decide_eq_true (Or.inl ⟨f1, f2⟩)]; simp [f1, f2]
theorem blk_eq {d a : Nat} (hW : WF E) (hV : VA E an pl) (hd : d < E 2) (hcn : canB E d (dHg E d) a = true) : (lfc E d (dHg E d) a).any (badB E an pl d) = blkB E an pl d a := by
  have hp := hV.2.2.2
  rw [Bool.eq_iff_iff, List.any_eq_true]
  unfold blkB
  rw [Bool.or_eq_true, Bool.and_eq_true, exB_iff]
  constructor
  · rintro ⟨p, hpm, hb⟩
    have hi := lf_in hW hd hcn p hpm
    have hb2 := inE_b ⟨hW.1, hW.2.1⟩ hi
    have hl : lfH E d (dHg E d) a (cN p) = true := by
      unfold lfH
      rw [List.any_eq_true]
      exact ⟨p, hpm, by rw [hb2.2.2.2.2.1]; simp⟩
    rcases of_decide_eq_true hb with ⟨z1, z2⟩ | z
    · right
      obtain ⟨e, he⟩ : ∃ e, lonV E an (E 2) (cN p) = e + 1 := ⟨lonV E an (E 2) (cN p) - 1, by omega⟩
      have := (lonV_s hV (E 2) (Nat.le_refl _) e).1 he
      refine ⟨e, by omega, by omega, ?_⟩
      rw [Bool.and_eq_true]
      refine ⟨decide_eq_true (by omega), ?_⟩
      unfold shrB
      rw [exB_iff]
      exact ⟨cN p, by omega, by omega, by rw [hl, this.2]; rfl⟩
    · left
      refine ⟨decide_eq_true (by omega), ?_⟩
      rw [show pl - 1 = cN p by omega]
      exact hl
  · rintro (⟨z1, z2⟩ | ⟨e, _, he, z⟩)
    · have z1 := of_decide_eq_true z1
      unfold lfH at z2
      obtain ⟨p, hpm, hq⟩ := List.any_eq_true.1 z2
      rw [Bool.and_eq_true] at hq
      have := eq_of_beq hq.2
      exact ⟨p, hpm, decide_eq_true (Or.inr (by omega))⟩
    · rw [Bool.and_eq_true] at z
      have z1 := of_decide_eq_true z.1
      have z2 := z.2
      unfold shrB at z2
      rw [exB_iff] at z2
      obtain ⟨c, _, hc, hh⟩ := z2
      rw [Bool.and_eq_true] at hh
      have hl := hh.1
      unfold lfH at hl
      obtain ⟨p, hpm, hq⟩ := List.any_eq_true.1 hl
      rw [Bool.and_eq_true] at hq
      have ec := eq_of_beq hq.2
      have := (lonV_s hV (E 2) (Nat.le_refl _) e).2 ⟨by omega, hh.2⟩
      refine ⟨p, hpm, decide_eq_true (Or.inl ?_)⟩
      rw [ec, this]
      omega
theorem s_257 {d a : Nat} (hF : Fix h) (hM : MS h E an pl) (hW : WF E) (hV : VA E an pl) (hd : d < E 2) (ha : a < 3) : ∃ g, f_257 (some 64) (nI d) (nI a) h = some (nI (hndK E an pl d a), g) ∧ Fz [27000064, 74, 75] h g := by
  have hE := hM.1
  have hD := hW.dr hd
  have h10 := hD.1
  have hg := hW.hg hd
  have e4 : E (110 + 10 * d + 4) = dHg E d := by unfold dHg; congr 1; omega
  have h4 := s_205 (w := 4) hF hE h10 (by omega)
  rw [e4] at h4
  obtain ⟨k1, a1, a2, a3⟩ := s_221 (a := a) hF hE hD hg ha
  have hF1 := a2.fix hF (by decide)
  have hE1 := hE.cg (a2.I (a := 66) (by decide))
  have h41 := s_205 (w := 4) hF1 hE1 h10 (by omega)
  rw [e4] at h41
  unfold hndK
  cases c : canB E d (dHg E d) a
  · refine ⟨k1, ?_, a2⟩
    rw [c] at a1
    repeat ((first | rw [f_257] | rw [b_257_0] | rw [b_257_15] | rw [b_257_18] | rw [b_257_32] | rw [b_257_40] | rw [b_257_68] | rw [b_257_81] | rw [b_257_90] | rw [b_257_93] | rw [b_257_99]) <;> try simp (disch := first | assumption | (repeat' (first | apply fx_sI | apply fx_sJ | assumption | omega))) only [↓reduceIte, Option.bind_some, bnd_e, grd_e, grd0, grd1, bnd_e, grd_e, grd0, grd1, Option.bind_some, Option.isSome_some, gQ30_0, gQ30_1, gQ30_2, gQ30_3, gQ30_4, gQ30_5, gQ30_6, gQ30_7, gQ30_8, gQ30_9, gQ31_0, gQ33_0, gQ33_1, gQ36_0, gQ36_1, gQ39_0, gQ39_3, gQ39_4, gQ39_6, gQ39_8, gQ39_10, gQ39_11, gQ39_12, gQ48_0, gQ48_1, gQ51_2, gQ53_0, gQ53_1, gQ60_0, gQ60_1, gQ60_2, gQ64_1, gQ64_14, gQ64_15, gQ64_16, gQ64_17, gQ64_18, gQ64_19, gQ64_20, gQ64_21, gQ64_24, gQ64_25, gQ64_27, gQ64_28, gQ64_29, gQ64_30, gQ64_31, gQ64_34, gQ64_35, gQ64_36, gQ64_39, gQ64_40, gQ64_41, gQ64_43, gQ64_44, gQ64_48, gQ64_50, gQ64_51, gQ64_52, gQ64_53, gQ64_54, gQ64_58, gQ64_59, gI30, gJ30, pI30, pJ30, rC30, gI31, gJ31, pI31, pJ31, rC31, gI33, gJ33, pI33, pJ33, rC33, gI36, gJ36, pI36, pJ36, rC36, gI39, gJ39, pI39, pJ39, rC39, gI48, gJ48, pI48, pJ48, rC48, gI51, gJ51, pI51, pJ51, rC51, gI53, gJ53, pI53, pJ53, rC53, gI60, gJ60, pI60, pJ60, rC60, gI64, gJ64, pI64, pJ64, rC64, hF, h4, a1, bI_0', not_true])
  · rw [c] at a1
    obtain ⟨k2, b1, b2, b3⟩ := s_219 (a := a) hF1 hE1 h10 hg ha hD.2.2.2.1 ⟨hD.2.2.2.2.1, hD.2.2.2.2.2.1⟩
    have hF2 := b2.fix hF1 (by decide)
    have z := a2.then b2
    have hM2 : MS k2 E an pl := hM.cg (z.I (a := 66) (by decide)) (z.I (a := 87) (by decide)) (z.I1 (by decide) (by decide)) (z.I (a := 88) (by decide))
    obtain ⟨m, hm⟩ := FU_ge ((lfc E d (dHg E d) a).length + 1) (by have := lfc_len (E := E) (d := d) (g := dHg E d) (a := a) hD.2.2.2.2.2.1; omega)
    have lp := l_257 hF2 hM2 hW hV.2.2.2 hd b3 (lfc_len hD.2.2.2.2.2.1) (lf_in hW hd c) (lfc E d (dHg E d) a).length 0 m (by omega)
    refine ⟨k2, ?_, z⟩
    rw [List.drop_zero, blk_eq hW hV hd c] at lp
    repeat ((first | rw [f_257] | rw [b_257_0] | rw [b_257_15] | rw [b_257_18] | rw [b_257_32] | rw [b_257_40] | rw [b_257_68] | rw [b_257_81] | rw [b_257_90] | rw [b_257_93] | rw [b_257_99]) <;> try simp (disch := first | assumption | (repeat' (first | apply fx_sI | apply fx_sJ | assumption | omega))) only [↓reduceIte, Option.bind_some, bnd_e, grd_e, grd0, grd1, bnd_e, grd_e, grd0, grd1, Option.bind_some, Option.isSome_some, gQ30_0, gQ30_1, gQ30_2, gQ30_3, gQ30_4, gQ30_5, gQ30_6, gQ30_7, gQ30_8, gQ30_9, gQ31_0, gQ33_0, gQ33_1, gQ36_0, gQ36_1, gQ39_0, gQ39_3, gQ39_4, gQ39_6, gQ39_8, gQ39_10, gQ39_11, gQ39_12, gQ48_0, gQ48_1, gQ51_2, gQ53_0, gQ53_1, gQ60_0, gQ60_1, gQ60_2, gQ64_1, gQ64_14, gQ64_15, gQ64_16, gQ64_17, gQ64_18, gQ64_19, gQ64_20, gQ64_21, gQ64_24, gQ64_25, gQ64_27, gQ64_28, gQ64_29, gQ64_30, gQ64_31, gQ64_34, gQ64_35, gQ64_36, gQ64_39, gQ64_40, gQ64_41, gQ64_43, gQ64_44, gQ64_48, gQ64_50, gQ64_51, gQ64_52, gQ64_53, gQ64_54, gQ64_58, gQ64_59, gI30, gJ30, pI30, pJ30, rC30, gI31, gJ31, pI31, pJ31, rC31, gI33, gJ33, pI33, pJ33, rC33, gI36, gJ36, pI36, pJ36, rC36, gI39, gJ39, pI39, pJ39, rC39, gI48, gJ48, pI48, pJ48, rC48, gI51, gJ51, pI51, pJ51, rC51, gI53, gJ53, pI53, pJ53, rC53, gI60, gJ60, pI60, pJ60, rC60, gI64, gJ64, pI64, pJ64, rC64, hF, hF1, h4, h41, a1, b1, bI_0', Bool.true_eq_false, not_false_eq_true, hm, lp])
theorem s_258 {d a : Nat} (hF : Fix h) (hM : MS h E an pl) (hW : WF E) (hd : d < E 2) (h3 : ∀ e, e < E 2 → upn an d a e < 3) (hcn : ∀ e, e < E 2 → canB E e (dHg E e) (upn an d a e) = true) : ∃ g, f_258 (some 64) (nI d) (nI a) h = some g ∧ Fz [87, 27000064, 74, 75, 88] h g ∧ MS g E (upn an d a) pl := by
  obtain ⟨hE, h7, h45, h8⟩ := hM
  have w2 := hW.2.2.1
  have hF1 : Fix (sI h 87 d (nI a)) := fx_sI hF (by omega)
  have hE1 : NowE (sI h 87 d (nI a)) E := hE.cg (by funext j; rw [hI_sI, if_neg (by omega)])
  have h71 : ∀ e, e < 10 → hI (sI h 87 d (nI a)) 87 e = nI (upn an d a e) := fun e he => by
    rw [hI_sI]
    unfold upn
    by_cases c : e = d
    · rw [if_pos ⟨rfl, c⟩, if_pos c]
    · rw [if_neg (fun z => c z.2), if_neg c]; exact h7 e he
  obtain ⟨g, a1, a2, a3⟩ := s_252 hF1 hE1 hW h3 hcn (fun e he => h71 e (by omega))
  refine ⟨g, ?_, Fz.then (Fz.sI Fz.rfl' (Or.inl (by simp))) (a2.wid (by intro z hz; simp only [List.mem_cons, List.not_mem_nil, or_false] at hz ⊢; omega)), ⟨hE1.cg (a2.I (a := 66) (by decide)), fun e he => by rw [a2.I (a := 87) (by decide)]; exact h71 e he, ?_, a3⟩⟩
  · repeat ((first | rw [f_258] | rw [b_258_0]) <;> try simp (disch := first | assumption | (repeat' (first | apply fx_sI | apply fx_sJ | assumption | omega))) only [↓reduceIte, Option.bind_some, bnd_e, grd_e, grd0, grd1, bnd_e, grd_e, grd0, grd1, Option.bind_some, Option.isSome_some, gQ30_0, gQ30_1, gQ30_2, gQ30_3, gQ30_4, gQ30_5, gQ30_6, gQ30_7, gQ30_8, gQ30_9, gQ31_0, gQ33_0, gQ33_1, gQ36_0, gQ36_1, gQ39_0, gQ39_3, gQ39_4, gQ39_6, gQ39_8, gQ39_10, gQ39_11, gQ39_12, gQ48_0, gQ48_1, gQ51_2, gQ53_0, gQ53_1, gQ60_0, gQ60_1, gQ60_2, gQ64_1, gQ64_14, gQ64_15, gQ64_16, gQ64_17, gQ64_18, gQ64_19, gQ64_20, gQ64_21, gQ64_24, gQ64_25, gQ64_27, gQ64_28, gQ64_29, gQ64_30, gQ64_31, gQ64_34, gQ64_35, gQ64_36, gQ64_39, gQ64_40, gQ64_41, gQ64_43, gQ64_44, gQ64_48, gQ64_50, gQ64_51, gQ64_52, gQ64_53, gQ64_54, gQ64_58, gQ64_59, gI30, gJ30, pI30, pJ30, rC30, gI31, gJ31, pI31, pJ31, rC31, gI33, gJ33, pI33, pJ33, rC33, gI36, gJ36, pI36, pJ36, rC36, gI39, gJ39, pI39, pJ39, rC39, gI48, gJ48, pI48, pJ48, rC48, gI51, gJ51, pI51, pJ51, rC51, gI53, gJ53, pI53, pJ53, rC53, gI60, gJ60, pI60, pJ60, rC60, gI64, gJ64, pI64, pJ64, rC64, aI27, aL27, aI28, aL28, aI32, wI32, aL32, aI34, wI34, aL34, aI35, wI35, aL35, aI37, wI37, aL37, aI38, wI38, aL38, aJ40, wJ40, aL40, aI41, wI41, aL41, aI42, wI42, aL42, aI43, wI43, aL43, aI44, wI44, aL44, aI45, wI45, aL45, aI46, wI46, aL46, aI47, wI47, aL47, aI49, wI49, aL49, aI50, wI50, aL50, aI52, wI52, aL52, aI54, wI54, aL54, aI55, wI55, aL55, aL56, aL57, aL58, aI59, wI59, aL59, aI61, wI61, aL61, aL62, aI63, wI63, aL63, aI65, wI65, aL65, aI66, wI66, aL66, aI67, wI67, aL67, aI68, wI68, aL68, aI69, wI69, aL69, aJ70, wJ70, aL70, aJ71, wJ71, aL71, aJ72, wJ72, aL72, aZ73, wZ73, aL73, aI74, wI74, aL74, aI75, wI75, aL75, aJ76, wJ76, aL76, aJ77, wJ77, aL77, aI78, wI78, aL78, aI79, wI79, aL79, aI80, wI80, aL80, aI81, wI81, aL81, aI82, wI82, aL82, aI83, wI83, aL83, aI84, wI84, aL84, aI85, wI85, aL85, aI86, wI86, aL86, aI87, wI87, aL87, aI88, wI88, aL88, aI89, wI89, aL89, aI90, wI90, aL90, aI91, wI91, aL91, aI92, wI92, aL92, aI93, wI93, aL93, aI94, wI94, aL94, aZ95, wZ95, aL95, aI96, wI96, aL96, aJ97, wJ97, aL97, hF, a1])
  · rw [a2.I1 (by decide) (by decide), hI_sI, if_neg (by omega)]; exact h45
/-- a swing that nothing hinders keeps the scene one that may be -/
theorem VA.up {d a : Nat} (hV : VA E an pl) (hd : d < E 2) (ha : a < 3) (hk : hndK E an pl d a = 0) : VA E (upn an d a) pl := by
  obtain ⟨v1, v2, v3, v4⟩ := hV
  have hcn : canB E d (dHg E d) a = true := by
    unfold hndK at hk
    cases c : canB E d (dHg E d) a
    · rw [c, if_pos rfl] at hk; omega
    · rfl
  have hbl : blkB E an pl d a = false := by
    unfold hndK at hk
    rw [hcn, if_neg (by decide)] at hk
    cases c : blkB E an pl d a
    · rfl
    · rw [c, if_pos rfl] at hk; omega
  have lfo : ∀ e c, e ≠ d → lf E (upn an d a) e c = lf E an e c := fun e c he => by unfold lf upn; rw [if_neg he]
  have lfd : ∀ c, lf E (upn an d a) d c = lfH E d (dHg E d) a c := fun c => by unfold lf upn; rw [if_pos rfl]
  have lft : ∀ e c, lf E an e c = true → c < 100 := fun e c z => by
    unfold lf lfH at z
    obtain ⟨p, hp, hq⟩ := List.any_eq_true.1 z
    rw [Bool.and_eq_true] at hq
    have := inB_lt hq.1
    have := eq_of_beq hq.2
    omega
  have dis : ∀ e c, e < E 2 → e ≠ d → lfH E d (dHg E d) a c = true → lf E an e c = true → False := fun e c he hne z1 z2 => by
    have hc := lft e c z2
    unfold blkB at hbl
    rw [Bool.or_eq_false_iff] at hbl
    have := hbl.2
    rw [← Bool.not_eq_true, exB_iff] at this
    apply this
    refine ⟨e, by omega, by omega, ?_⟩
    rw [Bool.and_eq_true]
    refine ⟨decide_eq_true hne, ?_⟩
    unfold shrB
    rw [exB_iff]
    exact ⟨c, by omega, by omega, by rw [z1, z2]; rfl⟩
  refine ⟨fun e he => ?_, fun e he => ?_, fun e f c he hf hne hl => ?_, v4⟩
  · unfold upn
    split
    · exact ha
    · exact v1 e he
  · unfold upn
    by_cases c : e = d
    · rw [if_pos c, c]; exact hcn
    · rw [if_neg c]; exact v2 e he
  · by_cases c1 : e = d
    · subst c1
      rw [lfd] at hl
      rw [lfo f c (fun z => hne z.symm), ← Bool.not_eq_true]
      exact fun z => dis f c hf (fun z => hne z.symm) hl z
    · rw [lfo e c c1] at hl
      by_cases c2 : f = d
      · subst c2
        rw [lfd, ← Bool.not_eq_true]
        exact fun z => dis e c he c1 z hl
      · rw [lfo f c c2]
        exact v3 e f c he hf hne hl
end MS4
