/-! the reference: can be, is fit, what is swept -/
section CAN
variable {h : Hp} {E : Nat → Nat}
theorem ijL_bd {n a : Nat} (hn : n ≤ 3) : ∀ q, q ∈ ijL n a → q.1 ≤ 2 ∧ q.2 ≤ 3 := by
  intro q hq
  unfold ijL at hq
  split at hq
  · obtain ⟨i, hi, rfl⟩ := List.mem_map.1 hq
    have := List.mem_range.1 hi
    exact ⟨by dsimp only; omega, by dsimp only; omega⟩
  · split at hq
    · obtain ⟨i, hi, rfl⟩ := List.mem_map.1 hq
      have := List.mem_range.1 hi
      exact ⟨by dsimp only; omega, by dsimp only; omega⟩
    · split at hq
      · simp at hq; subst hq; exact ⟨by decide, by decide⟩
      · split at hq
        · simp at hq; rcases hq with rfl | rfl <;> exact ⟨by decide, by decide⟩
        · simp at hq; rcases hq with rfl | rfl | rfl | rfl <;> exact ⟨by decide, by decide⟩
def nrP (p : Int × Int) : Prop := -1000 < p.1 ∧ p.1 < 1000 ∧ -1000 < p.2 ∧ p.2 < 1000
theorem lfc_bd {d g a : Nat} (hx : dX E d < 10) (hy : dYy E d < 10) (hn : dLn E d ≤ 3) : ∀ p, p ∈ lfc E d g a → nrP p := by
  intro p hp
  unfold lfc at hp
  obtain ⟨q, hq, rfl⟩ := List.mem_map.1 hp
  have hb := ijL_bd hn q hq
  unfold nrP zX zY zFar zAl zOut
  dsimp only
  refine ⟨?_, ?_, ?_, ?_⟩ <;> (repeat' split) <;> omega
theorem ijL_len {n a : Nat} (hn : n ≤ 3) : (ijL n a).length ≤ 4 := by
  unfold ijL
  repeat' split
  all_goals simp <;> omega
theorem lfc_len {d g a : Nat} (hn : dLn E d ≤ 3) : (lfc E d g a).length ≤ 4 := by
  unfold lfc
  rw [List.length_map]
  exact ijL_len hn
theorem toI_z {p : Int × Int} (h : nrP p) : (zI p.1).toInt = p.1 ∧ (zI p.2).toInt = p.2 := ⟨zI_toInt (by unfold nrP at h; omega) (by unfold nrP at h; omega), zI_toInt (by unfold nrP at h; omega) (by unfold nrP at h; omega)⟩
theorem getD_g {l : List (Int × Int)} {i : Nat} (hi : i < l.length) : l.getD i (0, 0) = l[i] := by simp [List.getD, hi]
theorem getD_mem {l : List (Int × Int)} {i : Nat} (hi : i < l.length) : l.getD i (0, 0) ∈ l := by
  rw [getD_g hi]
  exact List.getElem_mem hi
theorem l_221 {l : List (Int × Int)} (hF : Fix h) (hE : NowE h E) (hW : E 0 ≤ 10 ∧ E 1 ≤ 10) (hl : LfS h l) (h4 : l.length ≤ 4) (hb : ∀ p, p ∈ l → nrP p) : ∀ r i m, i + r = l.length → l_221_16 (r + 1 + m) (some 64) (nI i) h = some (bI ((l.drop i).all (flE E)), h) := by
  intro r
  induction r with
  | zero =>
    intro i m hi
    obtain rfl : i = l.length := by omega
    rw [show 0 + 1 + m = m + 1 by omega]
    simp (disch := first | assumption | (repeat' (first | apply fx_sI | apply fx_sJ | assumption | omega))) only [l_221_16, f_221, b_221_0, b_221_4, b_221_6, b_221_16, b_221_25, b_221_46, b_221_75, b_221_77, b_221_83, ↓reduceIte, bnd_e, grd_e, grd0, grd1, Option.bind_some, Option.isSome_some, gQ30_0, gQ30_1, gQ30_2, gQ30_3, gQ30_4, gQ30_5, gQ30_6, gQ30_7, gQ30_8, gQ30_9, gQ31_0, gQ33_0, gQ33_1, gQ36_0, gQ36_1, gQ39_0, gQ39_3, gQ39_4, gQ39_6, gQ39_8, gQ39_10, gQ39_11, gQ39_12, gQ48_0, gQ48_1, gQ51_2, gQ53_0, gQ53_1, gQ60_0, gQ60_1, gQ60_2, gQ64_1, gQ64_14, gQ64_15, gQ64_16, gQ64_17, gQ64_18, gQ64_19, gQ64_20, gQ64_21, gQ64_24, gQ64_25, gQ64_27, gQ64_28, gQ64_29, gQ64_30, gQ64_31, gQ64_34, gQ64_35, gQ64_36, gQ64_39, gQ64_40, gQ64_41, gQ64_43, gQ64_44, gQ64_48, gQ64_50, gQ64_51, gQ64_52, gQ64_53, gQ64_54, gQ64_58, gQ64_59, gI30, gJ30, pI30, pJ30, rC30, gI31, gJ31, pI31, pJ31, rC31, gI33, gJ33, pI33, pJ33, rC33, gI36, gJ36, pI36, pJ36, rC36, gI39, gJ39, pI39, pJ39, rC39, gI48, gJ48, pI48, pJ48, rC48, gI51, gJ51, pI51, pJ51, rC51, gI53, gJ53, pI53, pJ53, rC53, gI60, gJ60, pI60, pJ60, rC60, gI64, gJ64, pI64, pJ64, rC64, hF, hl.1, nI_leI, Nat.le_refl, if_true, List.drop_length]
    rfl
  | succ r ih =>
    intro i m hi
    have hi' : i < l.length := by omega
    have hp := hl.2 i hi'
    have hz := toI_z (hb _ (getD_mem hi'))
    rw [show r + 1 + 1 + m = (r + 1 + m) + 1 by omega]
    have e : (l.drop i).all (flE E) = (flE E (l.getD i (0, 0)) && (l.drop (i + 1)).all (flE E)) := by
      rw [List.drop_eq_getElem_cons hi', List.all_cons, getD_g hi']
    rw [e]
    simp (disch := first | assumption | (repeat' (first | apply fx_sI | apply fx_sJ | assumption | omega))) only [l_221_16, f_221, b_221_0, b_221_4, b_221_6, b_221_16, b_221_25, b_221_46, b_221_75, b_221_77, b_221_83, ↓reduceIte, bnd_e, grd_e, grd0, grd1, Option.bind_some, Option.isSome_some, gQ30_0, gQ30_1, gQ30_2, gQ30_3, gQ30_4, gQ30_5, gQ30_6, gQ30_7, gQ30_8, gQ30_9, gQ31_0, gQ33_0, gQ33_1, gQ36_0, gQ36_1, gQ39_0, gQ39_3, gQ39_4, gQ39_6, gQ39_8, gQ39_10, gQ39_11, gQ39_12, gQ48_0, gQ48_1, gQ51_2, gQ53_0, gQ53_1, gQ60_0, gQ60_1, gQ60_2, gQ64_1, gQ64_14, gQ64_15, gQ64_16, gQ64_17, gQ64_18, gQ64_19, gQ64_20, gQ64_21, gQ64_24, gQ64_25, gQ64_27, gQ64_28, gQ64_29, gQ64_30, gQ64_31, gQ64_34, gQ64_35, gQ64_36, gQ64_39, gQ64_40, gQ64_41, gQ64_43, gQ64_44, gQ64_48, gQ64_50, gQ64_51, gQ64_52, gQ64_53, gQ64_54, gQ64_58, gQ64_59, gI30, gJ30, pI30, pJ30, rC30, gI31, gJ31, pI31, pJ31, rC31, gI33, gJ33, pI33, pJ33, rC33, gI36, gJ36, pI36, pJ36, rC36, gI39, gJ39, pI39, pJ39, rC39, gI48, gJ48, pI48, pJ48, rC48, gI51, gJ51, pI51, pJ51, rC51, gI53, gJ53, pI53, pJ53, rC53, gI60, gJ60, pI60, pJ60, rC60, gI64, gJ64, pI64, pJ64, rC64, aI27, aL27, aI28, aL28, aI32, wI32, aL32, aI34, wI34, aL34, aI35, wI35, aL35, aI37, wI37, aL37, aI38, wI38, aL38, aJ40, wJ40, aL40, aI41, wI41, aL41, aI42, wI42, aL42, aI43, wI43, aL43, aI44, wI44, aL44, aI45, wI45, aL45, aI46, wI46, aL46, aI47, wI47, aL47, aI49, wI49, aL49, aI50, wI50, aL50, aI52, wI52, aL52, aI54, wI54, aL54, aI55, wI55, aL55, aL56, aL57, aL58, aI59, wI59, aL59, aI61, wI61, aL61, aL62, aI63, wI63, aL63, aI65, wI65, aL65, aI66, wI66, aL66, aI67, wI67, aL67, aI68, wI68, aL68, aI69, wI69, aL69, aJ70, wJ70, aL70, aJ71, wJ71, aL71, aJ72, wJ72, aL72, aZ73, wZ73, aL73, aI74, wI74, aL74, aI75, wI75, aL75, aJ76, wJ76, aL76, aJ77, wJ77, aL77, aI78, wI78, aL78, aI79, wI79, aL79, aI80, wI80, aL80, aI81, wI81, aL81, aI82, wI82, aL82, aI83, wI83, aL83, aI84, wI84, aL84, aI85, wI85, aL85, aI86, wI86, aL86, aI87, wI87, aL87, aI88, wI88, aL88, aI89, wI89, aL89, aI90, wI90, aL90, aI91, wI91, aL91, aI92, wI92, aL92, aI93, wI93, aL93, aI94, wI94, aL94, aZ95, wZ95, aL95, aI96, wI96, aL96, aJ97, wJ97, aL97, hF, hl.1, nI_leI, show ¬ l.length ≤ i by omega, if_false, hp.1, hp.2, s_206 hF hE, hz.1, hz.2, bI_0']
    generalize l.getD i (0, 0) = p at hz
    obtain ⟨x, y⟩ := p
    dsimp only at hz ⊢
    unfold flE
    cases c : inE E (x, y)
    · rw [if_pos rfl]; rfl
    · rw [if_neg (by decide), Bool.true_and]
      have c2 := of_decide_eq_true c
      dsimp only at c2
      have b := cN_lt (x := x) (y := y) (by omega)
      have e2 : nI 10 + nI 10 * zI y + zI x = nI (10 + cN (x, y)) := by
        rw [show nI 10 + nI 10 * zI y + zI x = nI 10 + (nI 10 * zI y + zI x) from Int32.add_assoc _ _ _, zI_cN (by omega), nI_add]
      rw [e2, aI66 hF (by omega), Option.bind_some, hE.1 _ (by omega) (by omega) (by omega)]
      simp only [nI_eq0 (show E (10 + cN (x, y)) < 2147483648 by have := hE.2.2.2 (10 + cN (x, y)); omega)]
      by_cases f : E (10 + cN (x, y)) = 0
      · have : (E (10 + cN (x, y)) == 0) = true := by simp [f]
        rw [if_pos f, this, Bool.true_and, nI_add]
        exact ih (i + 1) m (by omega)
      · have : (E (10 + cN (x, y)) == 0) = false := by simp [f]
        rw [if_neg f, this, Bool.false_and]; rfl
/-- a door's row is in order -/
def DrW (E : Nat → Nat) (d : Nat) : Prop := d < 10 ∧ dX E d < 10 ∧ dYy E d < 10 ∧ dAc E d ≤ 1 ∧ 1 ≤ dLn E d ∧ dLn E d ≤ 3 ∧ dTd E d < 16 ∧ dWh E d ≤ 1 ∧ E 0 ≤ 10 ∧ E 1 ≤ 10
theorem WF.dr {d : Nat} (hW : WF E) (hd : d < E 2) : DrW E d := by
  obtain ⟨w0, w1, w2, w3, w4, wc, wd, wi, wr⟩ := hW
  obtain ⟨⟨a, b, c, e, f, g, i, j, k, l⟩, _⟩ := wd d hd
  exact ⟨by omega, by omega, by omega, c, e, f, i, l, w0, w1⟩
theorem s_221 {d g a : Nat} (hF : Fix h) (hE : NowE h E) (hD : DrW E d) (hg : g < 4) (ha : a < 3) : ∃ k, f_221 (some 64) (nI d) (nI g) (nI a) h = some (bI (canB E d g a), k) ∧ Fz [27000064, 74, 75] h k ∧ (a ≠ 0 → LfS k (lfc E d g a)) := by
  obtain ⟨hd, hx, hy, hac, hn1, hn2, ht, hw, h0, h1⟩ := hD
  by_cases c : a = 0
  · subst c
    refine ⟨h, ?_, Fz.rfl', fun z => absurd rfl z⟩
    simp only [f_221, b_221_0, b_221_4, b_221_6, b_221_16, b_221_25, b_221_46, b_221_75, b_221_77, b_221_83, ↓reduceIte, nI00, not_true, if_false, bnd_e, grd_e, grd0, grd1, Option.bind_some, Option.isSome_some, gQ30_0, gQ30_1, gQ30_2, gQ30_3, gQ30_4, gQ30_5, gQ30_6, gQ30_7, gQ30_8, gQ30_9, gQ31_0, gQ33_0, gQ33_1, gQ36_0, gQ36_1, gQ39_0, gQ39_3, gQ39_4, gQ39_6, gQ39_8, gQ39_10, gQ39_11, gQ39_12, gQ48_0, gQ48_1, gQ51_2, gQ53_0, gQ53_1, gQ60_0, gQ60_1, gQ60_2, gQ64_1, gQ64_14, gQ64_15, gQ64_16, gQ64_17, gQ64_18, gQ64_19, gQ64_20, gQ64_21, gQ64_24, gQ64_25, gQ64_27, gQ64_28, gQ64_29, gQ64_30, gQ64_31, gQ64_34, gQ64_35, gQ64_36, gQ64_39, gQ64_40, gQ64_41, gQ64_43, gQ64_44, gQ64_48, gQ64_50, gQ64_51, gQ64_52, gQ64_53, gQ64_54, gQ64_58, gQ64_59, gI30, gJ30, pI30, pJ30, rC30, gI31, gJ31, pI31, pJ31, rC31, gI33, gJ33, pI33, pJ33, rC33, gI36, gJ36, pI36, pJ36, rC36, gI39, gJ39, pI39, pJ39, rC39, gI48, gJ48, pI48, pJ48, rC48, gI51, gJ51, pI51, pJ51, rC51, gI53, gJ53, pI53, pJ53, rC53, gI60, gJ60, pI60, pJ60, rC60, gI64, gJ64, pI64, pJ64, rC64]
    rfl
  · obtain ⟨k, e1, z1, L1⟩ := s_219 hF hE hd hg ha hac ⟨hn1, hn2⟩
    have hF1 := z1.fix hF (by decide)
    have hE1 := hE.cg (z1.I (a := 66) (by decide))
    obtain ⟨m, hm⟩ := FU_ge ((lfc E d g a).length + 1) (by have := lfc_len (g := g) (a := a) hn2; omega)
    have e2 := l_221 hF1 hE1 ⟨h0, h1⟩ L1 (lfc_len hn2) (lfc_bd hx hy hn2) (lfc E d g a).length 0 m (by omega)
    refine ⟨k, ?_, z1, fun _ => L1⟩
    simp (disch := first | assumption | (repeat' (first | apply fx_sI | apply fx_sJ | assumption | omega))) only [f_221, b_221_0, b_221_4, b_221_6, b_221_16, b_221_25, b_221_46, b_221_75, b_221_77, b_221_83, ↓reduceIte, nI_eq0 (show a < 2147483648 by omega), c, not_false_eq_true, if_true, bnd_e, grd_e, grd0, grd1, Option.bind_some, Option.isSome_some, gQ30_0, gQ30_1, gQ30_2, gQ30_3, gQ30_4, gQ30_5, gQ30_6, gQ30_7, gQ30_8, gQ30_9, gQ31_0, gQ33_0, gQ33_1, gQ36_0, gQ36_1, gQ39_0, gQ39_3, gQ39_4, gQ39_6, gQ39_8, gQ39_10, gQ39_11, gQ39_12, gQ48_0, gQ48_1, gQ51_2, gQ53_0, gQ53_1, gQ60_0, gQ60_1, gQ60_2, gQ64_1, gQ64_14, gQ64_15, gQ64_16, gQ64_17, gQ64_18, gQ64_19, gQ64_20, gQ64_21, gQ64_24, gQ64_25, gQ64_27, gQ64_28, gQ64_29, gQ64_30, gQ64_31, gQ64_34, gQ64_35, gQ64_36, gQ64_39, gQ64_40, gQ64_41, gQ64_43, gQ64_44, gQ64_48, gQ64_50, gQ64_51, gQ64_52, gQ64_53, gQ64_54, gQ64_58, gQ64_59, gI30, gJ30, pI30, pJ30, rC30, gI31, gJ31, pI31, pJ31, rC31, gI33, gJ33, pI33, pJ33, rC33, gI36, gJ36, pI36, pJ36, rC36, gI39, gJ39, pI39, pJ39, rC39, gI48, gJ48, pI48, pJ48, rC48, gI51, gJ51, pI51, pJ51, rC51, gI53, gJ53, pI53, pJ53, rC53, gI60, gJ60, pI60, pJ60, rC60, gI64, gJ64, pI64, pJ64, rC64, hF, e1]
    rw [hm, e2]
    unfold canB
    rw [List.drop_zero]
    have : (a == 0) = false := by simp [c]
    rw [this, Bool.false_or]
theorem s_223 {d g : Nat} (hF : Fix h) (hE : NowE h E) (hD : DrW E d) (hg : g < 4) : ∃ k, f_223 (some 64) (nI d) (nI g) h = some (bI (fitB E d g), k) ∧ Fz [27000064, 74, 75] h k := by
  obtain ⟨k, e1, z1, L1⟩ := s_221 (a := 1) hF hE hD hg (by omega)
  have hF1 := z1.fix hF (by decide)
  have hE1 := hE.cg (z1.I (a := 66) (by decide))
  obtain ⟨k2, e2, z2, L2⟩ := s_221 (a := 2) hF1 hE1 hD hg (by omega)
  have e7 : E (110 + 10 * d + 7) = dWh E d := by unfold dWh; congr 1; omega
  have h7 := s_205 (w := 7) hF1 hE1 hD.1 (by omega)
  rw [e7] at h7
  have hw : dWh E d ≤ 1 := hD.2.2.2.2.2.2.2.1
  unfold fitB
  cases c1 : canB E d g 1
  · refine ⟨k, ?_, z1⟩
    rw [c1] at e1
    simp only [f_223, b_223_0, b_223_10, b_223_20, b_223_30, b_223_34, b_223_35, ↓reduceIte, bnd_e, grd_e, grd0, grd1, Option.bind_some, Option.isSome_some, gQ30_0, gQ30_1, gQ30_2, gQ30_3, gQ30_4, gQ30_5, gQ30_6, gQ30_7, gQ30_8, gQ30_9, gQ31_0, gQ33_0, gQ33_1, gQ36_0, gQ36_1, gQ39_0, gQ39_3, gQ39_4, gQ39_6, gQ39_8, gQ39_10, gQ39_11, gQ39_12, gQ48_0, gQ48_1, gQ51_2, gQ53_0, gQ53_1, gQ60_0, gQ60_1, gQ60_2, gQ64_1, gQ64_14, gQ64_15, gQ64_16, gQ64_17, gQ64_18, gQ64_19, gQ64_20, gQ64_21, gQ64_24, gQ64_25, gQ64_27, gQ64_28, gQ64_29, gQ64_30, gQ64_31, gQ64_34, gQ64_35, gQ64_36, gQ64_39, gQ64_40, gQ64_41, gQ64_43, gQ64_44, gQ64_48, gQ64_50, gQ64_51, gQ64_52, gQ64_53, gQ64_54, gQ64_58, gQ64_59, gI30, gJ30, pI30, pJ30, rC30, gI31, gJ31, pI31, pJ31, rC31, gI33, gJ33, pI33, pJ33, rC33, gI36, gJ36, pI36, pJ36, rC36, gI39, gJ39, pI39, pJ39, rC39, gI48, gJ48, pI48, pJ48, rC48, gI51, gJ51, pI51, pJ51, rC51, gI53, gJ53, pI53, pJ53, rC53, gI60, gJ60, pI60, pJ60, rC60, gI64, gJ64, pI64, pJ64, rC64, hF, e1, bI_0', if_true]
    rfl
  · rw [c1] at e1
    by_cases c7 : dWh E d = 0
    · refine ⟨k, ?_, z1⟩
      rw [c7] at h7
      simp only [f_223, b_223_0, b_223_10, b_223_20, b_223_30, b_223_34, b_223_35, ↓reduceIte, bnd_e, grd_e, grd0, grd1, Option.bind_some, Option.isSome_some, gQ30_0, gQ30_1, gQ30_2, gQ30_3, gQ30_4, gQ30_5, gQ30_6, gQ30_7, gQ30_8, gQ30_9, gQ31_0, gQ33_0, gQ33_1, gQ36_0, gQ36_1, gQ39_0, gQ39_3, gQ39_4, gQ39_6, gQ39_8, gQ39_10, gQ39_11, gQ39_12, gQ48_0, gQ48_1, gQ51_2, gQ53_0, gQ53_1, gQ60_0, gQ60_1, gQ60_2, gQ64_1, gQ64_14, gQ64_15, gQ64_16, gQ64_17, gQ64_18, gQ64_19, gQ64_20, gQ64_21, gQ64_24, gQ64_25, gQ64_27, gQ64_28, gQ64_29, gQ64_30, gQ64_31, gQ64_34, gQ64_35, gQ64_36, gQ64_39, gQ64_40, gQ64_41, gQ64_43, gQ64_44, gQ64_48, gQ64_50, gQ64_51, gQ64_52, gQ64_53, gQ64_54, gQ64_58, gQ64_59, gI30, gJ30, pI30, pJ30, rC30, gI31, gJ31, pI31, pJ31, rC31, gI33, gJ33, pI33, pJ33, rC33, gI36, gJ36, pI36, pJ36, rC36, gI39, gJ39, pI39, pJ39, rC39, gI48, gJ48, pI48, pJ48, rC48, gI51, gJ51, pI51, pJ51, rC51, gI53, gJ53, pI53, pJ53, rC53, gI60, gJ60, pI60, pJ60, rC60, gI64, gJ64, pI64, pJ64, rC64, hF, hF1, e1, bI_0', if_false, show ¬ (true = false) by decide, h7, nI00, if_true, c7]
      rfl
    · refine ⟨k2, ?_, z1.then z2⟩
      have : dWh E d = 1 := by omega
      rw [this] at h7
      simp only [f_223, b_223_0, b_223_10, b_223_20, b_223_30, b_223_34, b_223_35, ↓reduceIte, bnd_e, grd_e, grd0, grd1, Option.bind_some, Option.isSome_some, gQ30_0, gQ30_1, gQ30_2, gQ30_3, gQ30_4, gQ30_5, gQ30_6, gQ30_7, gQ30_8, gQ30_9, gQ31_0, gQ33_0, gQ33_1, gQ36_0, gQ36_1, gQ39_0, gQ39_3, gQ39_4, gQ39_6, gQ39_8, gQ39_10, gQ39_11, gQ39_12, gQ48_0, gQ48_1, gQ51_2, gQ53_0, gQ53_1, gQ60_0, gQ60_1, gQ60_2, gQ64_1, gQ64_14, gQ64_15, gQ64_16, gQ64_17, gQ64_18, gQ64_19, gQ64_20, gQ64_21, gQ64_24, gQ64_25, gQ64_27, gQ64_28, gQ64_29, gQ64_30, gQ64_31, gQ64_34, gQ64_35, gQ64_36, gQ64_39, gQ64_40, gQ64_41, gQ64_43, gQ64_44, gQ64_48, gQ64_50, gQ64_51, gQ64_52, gQ64_53, gQ64_54, gQ64_58, gQ64_59, gI30, gJ30, pI30, pJ30, rC30, gI31, gJ31, pI31, pJ31, rC31, gI33, gJ33, pI33, pJ33, rC33, gI36, gJ36, pI36, pJ36, rC36, gI39, gJ39, pI39, pJ39, rC39, gI48, gJ48, pI48, pJ48, rC48, gI51, gJ51, pI51, pJ51, rC51, gI53, gJ53, pI53, pJ53, rC53, gI60, gJ60, pI60, pJ60, rC60, gI64, gJ64, pI64, pJ64, rC64, hF, hF1, e1, bI_0', if_false, show ¬ (true = false) by decide, h7, nI10, e2, this]
      cases canB E d g 2 <;> rfl
end CAN
