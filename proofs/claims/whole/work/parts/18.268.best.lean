/-! the class's best hangings -/
section SOL2
variable {τ : Nat → Nat} {E : Nat → Nat}
theorem nI_max : nI 1073741824 = 1073741824 := by decide
theorem s_29 {h : Hp} (hF : Fix h) (hG : HgH τ h E) (h10 : E 2 ≤ 10) : f_29 (some 39) h = some (nI (2 ^ E 2 - 1), h) := by
  have := pw_lt (show E 2 < 31 by omega)
  have h1 : 1 ≤ 2 ^ E 2 := Nat.one_le_two_pow
  rw [f_29, b_29_0]
  simp (disch := first | assumption | (repeat' (first | apply fx_sI | apply fx_sJ | assumption | omega))) only [gQ_e (K39 hF), hG.1, Option.bind_some, hG.n.2, nI_1shl (show E 2 < 31 by omega)]
  rw [pk_sub h1]
theorem all_tb {n e : Nat} (he : e < n) : (2 ^ n - 1).testBit e = true := by rw [Nat.testBit_two_pow_sub_one]; exact decide_eq_true he
theorem all_lt {n : Nat} (hn : n ≤ 10) : 2 ^ n - 1 < 1024 := by
  have : 2 ^ n ≤ 2 ^ 10 := Nat.pow_le_pow_right (by decide) hn
  omega
theorem shf_0 {t : Nat → Nat} (s : HR) : s.map (shf 0 0 t) = s := by
  cases s with
  | none => rfl
  | some x =>
    show some (shf 0 0 t x) = some x
    congr 1
    show (0 + x.1, fun i => if i < 0 then t i else x.2 i) = x
    rw [Nat.zero_add]
    have : (fun i => if i < 0 then t i else x.2 i) = x.2 := by funext i; rw [if_neg (by omega)]
    rw [this]
theorem s_36 {h : Hp} {A : Nat} {cur wt : Nat → Nat} (hF : Fix h) (hT : TG τ) (hG : HgH τ h E) (h10 : E 2 ≤ 10) (hA : A < 1024) (hcur : ∀ i, i < E 2 → hI h 41 i = nI (cur i)) (hc4 : ∀ i, i < E 2 → cur i < 4) (hwt : ∀ i, i < E 2 → hI h 45 i = nI (wt i)) (hw : ∀ i, i < E 2 → wt i ≤ 2000) :
    ∃ g, f_36 (some 39) (nI A) h = some (nI (bkN (bq E (fun e => A.testBit e) cur wt (E 2) 0 (fitL E))), g) ∧ Fz [14000039, 15000039, 46, 47] h g ∧ ∀ b, bq E (fun e => A.testBit e) cur wt (E 2) 0 (fitL E) = some b → b.1 ≤ 20000 ∧ ∀ i, i < E 2 → A.testBit i = true → hI g 47 i = nI (b.2 i) := by
  generalize e1 : sI h 39 14 (nI A) = h1
  generalize e2 : sI h1 39 13 (nI 1073741824) = h2
  have F1 : Fix h1 := by rw [← e1]; exact fx_sI hF (by omega)
  have F2 : Fix h2 := by rw [← e2]; exact fx_sI F1 (by omega)
  have z2 : Fz [14000039, 15000039, 46, 47] h h2 := by
    rw [← e2, ← e1]
    exact Fz.sI (Fz.sI Fz.rfl' (Or.inr (by simp))) (Or.inr (by simp))
  have G2 := hG.cz hT z2 (by decide) (by decide) (by decide) (by decide)
  have v14 : hI h2 39 14 = nI A := by rw [← e2, hI_sI, if_neg (by omega), ← e1, hI_sI, if_pos ⟨rfl, rfl⟩]
  have v13 : hI h2 39 13 = nI 1073741824 := by rw [← e2, hI_sI, if_pos ⟨rfl, rfl⟩]
  have hC2 : CSr τ E A cur wt h2 := ⟨F2, G2, v14, fun i hi => by rw [z2.I (a := 41) (by decide)]; exact hcur i hi, fun i hi => by rw [z2.I (a := 45) (by decide)]; exact hwt i hi⟩
  have hB2 : BRc h2 (E 2) (fun e => A.testBit e) none := ⟨v13, fun b hb => by cases hb⟩
  have e32 := s_32 (d := 0) (L := fitL E) F2 G2 h10 v14 hA (by omega)
  have pre : f_36 (some 39) (nI A) h = if bI (ehs (E 2) (fun e => A.testBit e) (fitL E) 0) = 0 then b_36_33 (some 39) h2 else b_36_23 (some 39) h2 := by
    rw [f_36, b_36_0]
    simp (disch := first | assumption | (repeat' (first | apply fx_sI | apply fx_sJ | assumption | omega))) only [bnd_e, grd_e, grd0, grd1, Option.bind_some, Option.isSome_some, gQ30_0, gQ30_1, gQ30_2, gQ30_3, gQ30_4, gQ30_5, gQ30_6, gQ30_7, gQ30_8, gQ30_9, gQ31_0, gQ33_0, gQ33_1, gQ36_0, gQ36_1, gQ39_0, gQ39_3, gQ39_4, gQ39_6, gQ39_8, gQ39_10, gQ39_11, gQ39_12, gQ48_0, gQ48_1, gQ51_2, gQ53_0, gQ53_1, gQ60_0, gQ60_1, gQ60_2, gQ64_1, gQ64_14, gQ64_15, gQ64_16, gQ64_17, gQ64_18, gQ64_19, gQ64_20, gQ64_21, gQ64_24, gQ64_25, gQ64_27, gQ64_28, gQ64_29, gQ64_30, gQ64_31, gQ64_34, gQ64_35, gQ64_36, gQ64_39, gQ64_40, gQ64_41, gQ64_43, gQ64_44, gQ64_48, gQ64_50, gQ64_51, gQ64_52, gQ64_53, gQ64_54, gQ64_58, gQ64_59, gI30, gJ30, pI30, pJ30, rC30, gI31, gJ31, pI31, pJ31, rC31, gI33, gJ33, pI33, pJ33, rC33, gI36, gJ36, pI36, pJ36, rC36, gI39, gJ39, pI39, pJ39, rC39, gI48, gJ48, pI48, pJ48, rC48, gI51, gJ51, pI51, pJ51, rC51, gI53, gJ53, pI53, pJ53, rC53, gI60, gJ60, pI60, pJ60, rC60, gI64, gJ64, pI64, pJ64, rC64, hF, e1, F1, e2, F2, G2.2.2.1, e32]
  rw [pre]
  simp only [bI_0']
  cases he : ehs (E 2) (fun e => A.testBit e) (fitL E) 0
  · have no : bq E (fun e => A.testBit e) cur wt (E 2) 0 (fitL E) = none := by
      rw [bq_no]
      unfold ehs at he
      have hb : exB (fun e => A.testBit e && !exB (fitL E e) 0 4) 0 (E 2 - 0) = true := by
        cases hx : exB (fun e => A.testBit e && !exB (fitL E e) 0 4) 0 (E 2 - 0)
        · rw [hx] at he; cases he
        · rfl
      obtain ⟨e, h1, h2, h3⟩ := (exB_iff _ _ _).1 hb
      rw [Bool.and_eq_true] at h3
      refine br_0 (E 2) 0 (fitL E) e h1 (by omega) h3.1 (fun g hg => ?_)
      have h4 : exB (fitL E e) 0 4 = false := by
        cases hx : exB (fitL E e) 0 4
        · rfl
        · rw [hx] at h3; cases h3.2
      cases hq : fitL E e g
      · rfl
      · rw [(exB_iff _ _ _).2 ⟨g, by omega, by omega, hq⟩] at h4; cases h4
    rw [no, if_pos rfl, b_36_33]
    refine ⟨h2, ?_, z2, fun b hb => by cases hb⟩
    simp (disch := first | assumption | (repeat' (first | apply fx_sI | apply fx_sJ | assumption | omega))) only [bnd_e, grd_e, grd0, grd1, Option.bind_some, Option.isSome_some, gQ30_0, gQ30_1, gQ30_2, gQ30_3, gQ30_4, gQ30_5, gQ30_6, gQ30_7, gQ30_8, gQ30_9, gQ31_0, gQ33_0, gQ33_1, gQ36_0, gQ36_1, gQ39_0, gQ39_3, gQ39_4, gQ39_6, gQ39_8, gQ39_10, gQ39_11, gQ39_12, gQ48_0, gQ48_1, gQ51_2, gQ53_0, gQ53_1, gQ60_0, gQ60_1, gQ60_2, gQ64_1, gQ64_14, gQ64_15, gQ64_16, gQ64_17, gQ64_18, gQ64_19, gQ64_20, gQ64_21, gQ64_24, gQ64_25, gQ64_27, gQ64_28, gQ64_29, gQ64_30, gQ64_31, gQ64_34, gQ64_35, gQ64_36, gQ64_39, gQ64_40, gQ64_41, gQ64_43, gQ64_44, gQ64_48, gQ64_50, gQ64_51, gQ64_52, gQ64_53, gQ64_54, gQ64_58, gQ64_59, gI30, gJ30, pI30, pJ30, rC30, gI31, gJ31, pI31, pJ31, rC31, gI33, gJ33, pI33, pJ33, rC33, gI36, gJ36, pI36, pJ36, rC36, gI39, gJ39, pI39, pJ39, rC39, gI48, gJ48, pI48, pJ48, rC48, gI51, gJ51, pI51, pJ51, rC51, gI53, gJ53, pI53, pJ53, rC53, gI60, gJ60, pI60, pJ60, rC60, gI64, gJ64, pI64, pJ64, rC64, F2, v13]
    rfl
  · rw [if_neg (by decide), b_36_23]
    obtain ⟨g, a1, a2, a3, a4⟩ := s_37 (E := E) hT h10 hA hc4 hw (E 2) 0 RF 0 (fun _ => 0) (fitL E) none h2 (by omega) (by show E 2 < 64; omega) hC2 (fun i hi => absurd hi (Nat.not_lt_zero i)) hB2 (by omega)
    rw [none_mrg, shf_0] at a3
    have F3 := a2.fix F2 (by decide)
    refine ⟨g, ?_, z2.then (a2.wid (by intro z hz; simp only [List.mem_cons, List.not_mem_nil, or_false] at hz ⊢; omega)), fun b hb => a3.2 b hb⟩
    simp (disch := first | assumption | (repeat' (first | apply fx_sI | apply fx_sJ | assumption | omega))) only [bnd_e, grd_e, grd0, grd1, Option.bind_some, Option.isSome_some, gQ30_0, gQ30_1, gQ30_2, gQ30_3, gQ30_4, gQ30_5, gQ30_6, gQ30_7, gQ30_8, gQ30_9, gQ31_0, gQ33_0, gQ33_1, gQ36_0, gQ36_1, gQ39_0, gQ39_3, gQ39_4, gQ39_6, gQ39_8, gQ39_10, gQ39_11, gQ39_12, gQ48_0, gQ48_1, gQ51_2, gQ53_0, gQ53_1, gQ60_0, gQ60_1, gQ60_2, gQ64_1, gQ64_14, gQ64_15, gQ64_16, gQ64_17, gQ64_18, gQ64_19, gQ64_20, gQ64_21, gQ64_24, gQ64_25, gQ64_27, gQ64_28, gQ64_29, gQ64_30, gQ64_31, gQ64_34, gQ64_35, gQ64_36, gQ64_39, gQ64_40, gQ64_41, gQ64_43, gQ64_44, gQ64_48, gQ64_50, gQ64_51, gQ64_52, gQ64_53, gQ64_54, gQ64_58, gQ64_59, gI30, gJ30, pI30, pJ30, rC30, gI31, gJ31, pI31, pJ31, rC31, gI33, gJ33, pI33, pJ33, rC33, gI36, gJ36, pI36, pJ36, rC36, gI39, gJ39, pI39, pJ39, rC39, gI48, gJ48, pI48, pJ48, rC48, gI51, gJ51, pI51, pJ51, rC51, gI53, gJ53, pI53, pJ53, rC53, gI60, gJ60, pI60, pJ60, rC60, gI64, gJ64, pI64, pJ64, rC64, F2, G2.2.2.1, a1]
    rw [b_36_33]
    simp (disch := first | assumption | (repeat' (first | apply fx_sI | apply fx_sJ | assumption | omega))) only [bnd_e, grd_e, grd0, grd1, Option.bind_some, Option.isSome_some, gQ30_0, gQ30_1, gQ30_2, gQ30_3, gQ30_4, gQ30_5, gQ30_6, gQ30_7, gQ30_8, gQ30_9, gQ31_0, gQ33_0, gQ33_1, gQ36_0, gQ36_1, gQ39_0, gQ39_3, gQ39_4, gQ39_6, gQ39_8, gQ39_10, gQ39_11, gQ39_12, gQ48_0, gQ48_1, gQ51_2, gQ53_0, gQ53_1, gQ60_0, gQ60_1, gQ60_2, gQ64_1, gQ64_14, gQ64_15, gQ64_16, gQ64_17, gQ64_18, gQ64_19, gQ64_20, gQ64_21, gQ64_24, gQ64_25, gQ64_27, gQ64_28, gQ64_29, gQ64_30, gQ64_31, gQ64_34, gQ64_35, gQ64_36, gQ64_39, gQ64_40, gQ64_41, gQ64_43, gQ64_44, gQ64_48, gQ64_50, gQ64_51, gQ64_52, gQ64_53, gQ64_54, gQ64_58, gQ64_59, gI30, gJ30, pI30, pJ30, rC30, gI31, gJ31, pI31, pJ31, rC31, gI33, gJ33, pI33, pJ33, rC33, gI36, gJ36, pI36, pJ36, rC36, gI39, gJ39, pI39, pJ39, rC39, gI48, gJ48, pI48, pJ48, rC48, gI51, gJ51, pI51, pJ51, rC51, gI53, gJ53, pI53, pJ53, rC53, gI60, gJ60, pI60, pJ60, rC60, gI64, gJ64, pI64, pJ64, rC64, F3, a3.1]
theorem bq_sol {cur wt : Nat → Nat} (hw : ∀ d, 0 < wt d) : bq E (fun e => (2 ^ E 2 - 1).testBit e) cur wt (E 2) 0 (fitL E) = solW E cur wt := by
  rw [bq_br hw]
  exact br_am (E 2) 0 (fitL E) (fun e _ h2 => all_tb (by omega))
theorem bk_no {R : HR} (hR : ∀ b, R = some b → b.1 ≤ 20000) : (nI (bkN R) = nI 1073741824) = (R = none) := by
  cases R with
  | none => exact propext ⟨fun _ => rfl, fun _ => rfl⟩
  | some b =>
    have := hR b rfl
    apply propext
    rw [nI_eq (by show b.1 < _; omega) (by omega)]
    constructor
    · intro z
      have z : b.1 = 1073741824 := z
      omega
    · intro z; cases z
theorem l_34 (hT : TG τ) (hW : WF E) : ∀ r d m h, d + r = E 2 → Fix h → HgH τ h E → (∀ e, e < d → hI h 45 e = nI (wC E e)) →
    ∃ g, l_34_10 (r + 1 + m) (some 39) (nI d) h = b_34_50 (some 39) g ∧ Fz [45] h g ∧ ∀ e, e < E 2 → hI g 45 e = nI (wC E e) := by
  have w2 := hW.2.2.1
  intro r
  induction r with
  | zero =>
    intro d m h hd hF hG hw
    obtain rfl : d = E 2 := by omega
    refine ⟨h, ?_, Fz.rfl', hw⟩
    rw [show 0 + 1 + m = m + 1 by omega, l_34_10, b_34_10]
    simp (disch := first | assumption | (repeat' (first | apply fx_sI | apply fx_sJ | assumption | omega))) only [gQ_e (K39 hF), hG.1, Option.bind_some, hG.n.2, nI_leI, Nat.le_refl, if_true]
  | succ r ih =>
    intro d m h hd hF hG hw
    have hDd := hG.2.1.dr (show d < E 2 by omega)
    obtain ⟨k, ge, t, a0, a1, a2, ⟨f0, f1, f2, f3, f4⟩, _⟩ := id hG.2.1
    obtain ⟨dk, _, _, _, _, _, _, _, ⟨_, _, _, _, _, dc, _⟩, _⟩ := hDd.2
    have z1 : Fz [45] h (sI h 45 d (nI (wC E d))) := Fz.sI Fz.rfl' (Or.inl (by simp))
    obtain ⟨g, b1, b2, b3⟩ := ih (d + 1) m _ (by omega) (fx_sI hF (by omega)) (hG.cz hT z1 (by decide) (by decide) (by decide) (by decide)) (fun e he => by
      rw [hI_sI]
      by_cases c : e = d
      · rw [if_pos ⟨rfl, c⟩, c]
      · rw [if_neg (fun z => c z.2)]; exact hw e (by omega))
    refine ⟨g, ?_, z1.then b2, b3⟩
    have ew : nI 16 * nI (dCs E d) + nI 1 = nI (wC E d) := by first | (rw [pk_mul, nI_add]; rfl) | (rw [nI_add]; rfl)
    rw [show r + 1 + 1 + m = (r + 1 + m) + 1 by omega, l_34_10, b_34_10]
    simp (disch := first | assumption | (repeat' (first | apply fx_sI | apply fx_sJ | assumption | omega))) only [gQ_e (K39 hF), hG.1, Option.bind_some, hG.n.2, nI_leI, show ¬ E 2 ≤ d by omega, if_false]
    rw [b_34_21]
    simp (disch := first | assumption | (repeat' (first | apply fx_sI | apply fx_sJ | assumption | omega))) only [gQ_e (K39 hF), Q39_10 hF, hG.1, gQ_e k, a1.1, Option.bind_some, aQ_n a1.2.1 (show 15 ≤ 16 ∧ 16 ≤ 18 by omega) a1.2.2.1, hDd.1, gI_e dk, dc, ew, aI27, aL27, aI28, aL28, aI32, wI32, aL32, aI34, wI34, aL34, aI35, wI35, aL35, aI37, wI37, aL37, aI38, wI38, aL38, aJ40, wJ40, aL40, aI41, wI41, aL41, aI42, wI42, aL42, aI43, wI43, aL43, aI44, wI44, aL44, aI45, wI45, aL45, aI46, wI46, aL46, aI47, wI47, aL47, aI49, wI49, aL49, aI50, wI50, aL50, aI52, wI52, aL52, aI54, wI54, aL54, aI55, wI55, aL55, aL56, aL57, aL58, aI59, wI59, aL59, aI61, wI61, aL61, aL62, aI63, wI63, aL63, aI65, wI65, aL65, aI66, wI66, aL66, aI67, wI67, aL67, aI68, wI68, aL68, aI69, wI69, aL69, aJ70, wJ70, aL70, aJ71, wJ71, aL71, aJ72, wJ72, aL72, aZ73, wZ73, aL73, aI74, wI74, aL74, aI75, wI75, aL75, aJ76, wJ76, aL76, aJ77, wJ77, aL77, aI78, wI78, aL78, aI79, wI79, aL79, aI80, wI80, aL80, aI81, wI81, aL81, aI82, wI82, aL82, aI83, wI83, aL83, aI84, wI84, aL84, aI85, wI85, aL85, aI86, wI86, aL86, aI87, wI87, aL87, aI88, wI88, aL88, aI89, wI89, aL89, aI90, wI90, aL90, aI91, wI91, aL91, aI92, wI92, aL92, aI93, wI93, aL93, aI94, wI94, aL94, aZ95, wZ95, aL95, aI96, wI96, aL96, aJ97, wJ97, aL97, hF, bnd_e, nI_add]
    exact b1
theorem s_34 {h : Hp} (hF : Fix h) (hT : TG τ) (hW : WF E) (hk : Hk τ h E) :
    ∃ g, f_34 (some 39) h = some (bI (decide (solW E (dHg E) (wC E) ≠ none)), g) ∧ Fz [45, 46, 47, 14000039, 15000039, 6000039, 42] h g ∧ Hk τ g E ∧ hI g 39 5 = nI (bkN (solW E (dHg E) (wC E))) ∧ ∀ b, solW E (dHg E) (wC E) = some b → b.1 ≤ 20000 ∧ ∀ i, i < E 2 → hI g 42 i = nI (b.2 i) := by
  have w2 := hW.2.2.1
  have fin : ∀ g, Fix g → hI g 39 5 = nI (bkN (solW E (dHg E) (wC E))) → (∀ b, solW E (dHg E) (wC E) = some b → b.1 ≤ 20000) → b_34_77 (some 39) g = some (bI (decide (solW E (dHg E) (wC E) ≠ none)), g) := by
    intro g F v hR
    rw [b_34_77]
    simp (disch := first | assumption | (repeat' (first | apply fx_sI | apply fx_sJ | assumption | omega))) only [bnd_e, grd_e, grd0, grd1, Option.bind_some, Option.isSome_some, gQ30_0, gQ30_1, gQ30_2, gQ30_3, gQ30_4, gQ30_5, gQ30_6, gQ30_7, gQ30_8, gQ30_9, gQ31_0, gQ33_0, gQ33_1, gQ36_0, gQ36_1, gQ39_0, gQ39_3, gQ39_4, gQ39_6, gQ39_8, gQ39_10, gQ39_11, gQ39_12, gQ48_0, gQ48_1, gQ51_2, gQ53_0, gQ53_1, gQ60_0, gQ60_1, gQ60_2, gQ64_1, gQ64_14, gQ64_15, gQ64_16, gQ64_17, gQ64_18, gQ64_19, gQ64_20, gQ64_21, gQ64_24, gQ64_25, gQ64_27, gQ64_28, gQ64_29, gQ64_30, gQ64_31, gQ64_34, gQ64_35, gQ64_36, gQ64_39, gQ64_40, gQ64_41, gQ64_43, gQ64_44, gQ64_48, gQ64_50, gQ64_51, gQ64_52, gQ64_53, gQ64_54, gQ64_58, gQ64_59, gI30, gJ30, pI30, pJ30, rC30, gI31, gJ31, pI31, pJ31, rC31, gI33, gJ33, pI33, pJ33, rC33, gI36, gJ36, pI36, pJ36, rC36, gI39, gJ39, pI39, pJ39, rC39, gI48, gJ48, pI48, pJ48, rC48, gI51, gJ51, pI51, pJ51, rC51, gI53, gJ53, pI53, pJ53, rC53, gI60, gJ60, pI60, pJ60, rC60, gI64, gJ64, pI64, pJ64, rC64, F, v, bk_no hR]
    by_cases c : solW E (dHg E) (wC E) = none
    · rw [if_pos c, bI_F (fun z => z c)]; rfl
    · rw [if_neg c, bI_T c]; rfl
  obtain ⟨hG, hcur, k1, k2⟩ := id hk
  by_cases c : hI h 39 5 = -1
  · obtain ⟨m, hm⟩ := FU_ge (E 2 + 1) (by omega)
    obtain ⟨h1, a1, a2, a3⟩ := l_34 hT hW (E 2) 0 m h (by omega) hF hG (fun e he => absurd he (Nat.not_lt_zero e))
    have F1 := a2.fix hF (by decide)
    have G1 := hG.cz hT a2 (by decide) (by decide) (by decide) (by decide)
    obtain ⟨h2, b1, b2, b3⟩ := s_36 (A := 2 ^ E 2 - 1) (cur := dHg E) (wt := wC E) F1 hT G1 w2 (all_lt w2) (fun i hi => by rw [a2.I (a := 41) (by decide)]; exact hcur i hi) (fun i hi => hW.hg hi) a3 (fun i hi => by have := (hW.2.2.2.2.2.2.1 i hi).1.2.2.2.2.2.2.2.2.1; unfold wC; omega)
    rw [bq_sol (by intro d; unfold wC; omega)] at b1 b3
    have F2 := b2.fix F1 (by decide)
    generalize hR : solW E (dHg E) (wC E) = R at *
    generalize e1 : sI h2 39 5 (nI (bkN R)) = h3
    have F3 : Fix h3 := by rw [← e1]; exact fx_sI F2 (by omega)
    have ec := cP_e (h := h3) (a := 47) (b := 42) (K47 F3) (K42 F3) (by omega) (by omega) (L47 F3) (L42 F3)
    generalize e2 : hCopy h3 47 0 42 0 10 = h4 at ec
    have z4 : Fz [6000039, 42] h2 h4 := by
      rw [← e2, ← e1]
      refine ⟨rfl, rfl, rfl, rfl, rfl, rfl, fun a j hl ha hb => ⟨?_, rfl⟩⟩
      rw [hI_copy, if_neg (by intro z; apply ha; rw [z]; simp), hI_sI, if_neg]
      rintro ⟨q1, q2⟩
      apply hb
      rw [q1, q2]
      simp
    have F4 := z4.fix F2 (by decide)
    have v4 : hI h4 39 5 = nI (bkN R) := by rw [← e2, hI_copy, if_neg (by omega), ← e1, hI_sI, if_pos ⟨rfl, rfl⟩]
    have r4 : ∀ b, R = some b → b.1 ≤ 20000 ∧ ∀ i, i < E 2 → hI h4 42 i = nI (b.2 i) := fun b hb => ⟨(b3 b hb).1, fun i hi => by
      rw [← e2, hI_copy, if_pos rfl, pk_cpy_in (by omega) (by omega), show 0 + (i - 0) = i by omega, ← e1, hI_sI, if_neg (by omega)]
      exact (b3 b hb).2 i hi (all_tb hi)⟩
    have z : Fz [45, 46, 47, 14000039, 15000039, 6000039, 42] h h4 := ((a2.wid (by intro z hz; simp only [List.mem_cons, List.not_mem_nil, or_false] at hz ⊢; omega)).then (b2.wid (by intro z hz; simp only [List.mem_cons, List.not_mem_nil, or_false] at hz ⊢; omega))).then (z4.wid (by intro z hz; simp only [List.mem_cons, List.not_mem_nil, or_false] at hz ⊢; omega))
    refine ⟨h4, ?_, z, ⟨hG.cz hT z (by decide) (by decide) (by decide) (by decide), fun d hd => by rw [z.I (a := 41) (by decide)]; exact hcur d hd, ?_, ?_⟩, v4, r4⟩
    · rw [f_34, b_34_0]
      simp (disch := first | assumption | (repeat' (first | apply fx_sI | apply fx_sJ | assumption | omega))) only [bnd_e, grd_e, grd0, grd1, Option.bind_some, Option.isSome_some, gQ30_0, gQ30_1, gQ30_2, gQ30_3, gQ30_4, gQ30_5, gQ30_6, gQ30_7, gQ30_8, gQ30_9, gQ31_0, gQ33_0, gQ33_1, gQ36_0, gQ36_1, gQ39_0, gQ39_3, gQ39_4, gQ39_6, gQ39_8, gQ39_10, gQ39_11, gQ39_12, gQ48_0, gQ48_1, gQ51_2, gQ53_0, gQ53_1, gQ60_0, gQ60_1, gQ60_2, gQ64_1, gQ64_14, gQ64_15, gQ64_16, gQ64_17, gQ64_18, gQ64_19, gQ64_20, gQ64_21, gQ64_24, gQ64_25, gQ64_27, gQ64_28, gQ64_29, gQ64_30, gQ64_31, gQ64_34, gQ64_35, gQ64_36, gQ64_39, gQ64_40, gQ64_41, gQ64_43, gQ64_44, gQ64_48, gQ64_50, gQ64_51, gQ64_52, gQ64_53, gQ64_54, gQ64_58, gQ64_59, gI30, gJ30, pI30, pJ30, rC30, gI31, gJ31, pI31, pJ31, rC31, gI33, gJ33, pI33, pJ33, rC33, gI36, gJ36, pI36, pJ36, rC36, gI39, gJ39, pI39, pJ39, rC39, gI48, gJ48, pI48, pJ48, rC48, gI51, gJ51, pI51, pJ51, rC51, gI53, gJ53, pI53, pJ53, rC53, gI60, gJ60, pI60, pJ60, rC60, gI64, gJ64, pI64, pJ64, rC64, hF, c, not_true, if_false]
      rw [b_34_8, bnd_e, hm, a1, b_34_50]
      simp (disch := first | assumption | (repeat' (first | apply fx_sI | apply fx_sJ | assumption | omega))) only [bnd_e, grd_e, grd0, grd1, Option.bind_some, Option.isSome_some, gQ30_0, gQ30_1, gQ30_2, gQ30_3, gQ30_4, gQ30_5, gQ30_6, gQ30_7, gQ30_8, gQ30_9, gQ31_0, gQ33_0, gQ33_1, gQ36_0, gQ36_1, gQ39_0, gQ39_3, gQ39_4, gQ39_6, gQ39_8, gQ39_10, gQ39_11, gQ39_12, gQ48_0, gQ48_1, gQ51_2, gQ53_0, gQ53_1, gQ60_0, gQ60_1, gQ60_2, gQ64_1, gQ64_14, gQ64_15, gQ64_16, gQ64_17, gQ64_18, gQ64_19, gQ64_20, gQ64_21, gQ64_24, gQ64_25, gQ64_27, gQ64_28, gQ64_29, gQ64_30, gQ64_31, gQ64_34, gQ64_35, gQ64_36, gQ64_39, gQ64_40, gQ64_41, gQ64_43, gQ64_44, gQ64_48, gQ64_50, gQ64_51, gQ64_52, gQ64_53, gQ64_54, gQ64_58, gQ64_59, gI30, gJ30, pI30, pJ30, rC30, gI31, gJ31, pI31, pJ31, rC31, gI33, gJ33, pI33, pJ33, rC33, gI36, gJ36, pI36, pJ36, rC36, gI39, gJ39, pI39, pJ39, rC39, gI48, gJ48, pI48, pJ48, rC48, gI51, gJ51, pI51, pJ51, rC51, gI53, gJ53, pI53, pJ53, rC53, gI60, gJ60, pI60, pJ60, rC60, gI64, gJ64, pI64, pJ64, rC64, F1, s_29 F1 G1 w2, b1, F2, e1, F3, ec]
      exact fin h4 F4 v4 (fun b hb => (r4 b hb).1)
    · rw [hR]; exact Or.inr ⟨v4, r4⟩
    · exact k2.cg (by rw [z.I1 (by decide) (by decide)]) (z.I (a := 43) (by decide))
  · have c' := c
    have kk : CcI h (E 2) 5 42 (solW E (dHg E) (wC E)) := k1
    rcases kk with z | ⟨z1, z2⟩
    · exact absurd z c
    · refine ⟨h, ?_, Fz.rfl', hk, z1, z2⟩
      rw [f_34, b_34_0]
      simp (disch := first | assumption | (repeat' (first | apply fx_sI | apply fx_sJ | assumption | omega))) only [bnd_e, grd_e, grd0, grd1, Option.bind_some, Option.isSome_some, gQ30_0, gQ30_1, gQ30_2, gQ30_3, gQ30_4, gQ30_5, gQ30_6, gQ30_7, gQ30_8, gQ30_9, gQ31_0, gQ33_0, gQ33_1, gQ36_0, gQ36_1, gQ39_0, gQ39_3, gQ39_4, gQ39_6, gQ39_8, gQ39_10, gQ39_11, gQ39_12, gQ48_0, gQ48_1, gQ51_2, gQ53_0, gQ53_1, gQ60_0, gQ60_1, gQ60_2, gQ64_1, gQ64_14, gQ64_15, gQ64_16, gQ64_17, gQ64_18, gQ64_19, gQ64_20, gQ64_21, gQ64_24, gQ64_25, gQ64_27, gQ64_28, gQ64_29, gQ64_30, gQ64_31, gQ64_34, gQ64_35, gQ64_36, gQ64_39, gQ64_40, gQ64_41, gQ64_43, gQ64_44, gQ64_48, gQ64_50, gQ64_51, gQ64_52, gQ64_53, gQ64_54, gQ64_58, gQ64_59, gI30, gJ30, pI30, pJ30, rC30, gI31, gJ31, pI31, pJ31, rC31, gI33, gJ33, pI33, pJ33, rC33, gI36, gJ36, pI36, pJ36, rC36, gI39, gJ39, pI39, pJ39, rC39, gI48, gJ48, pI48, pJ48, rC48, gI51, gJ51, pI51, pJ51, rC51, gI53, gJ53, pI53, pJ53, rC53, gI60, gJ60, pI60, pJ60, rC60, gI64, gJ64, pI64, pJ64, rC64, hF, c, not_false_eq_true, if_true]
      exact fin h hF z1 (fun b hb => (z2 b hb).1)
theorem l_35 (hT : TG τ) (hW : WF E) : ∀ r d m h, d + r = E 2 → Fix h → HgH τ h E → (∀ e, e < d → hI h 45 e = nI (wFw E e)) →
    ∃ g, l_35_10 (r + 1 + m) (some 39) (nI d) h = b_35_49 (some 39) g ∧ Fz [45] h g ∧ ∀ e, e < E 2 → hI g 45 e = nI (wFw E e) := by
  have w2 := hW.2.2.1
  intro r
  induction r with
  | zero =>
    intro d m h hd hF hG hw
    obtain rfl : d = E 2 := by omega
    refine ⟨h, ?_, Fz.rfl', hw⟩
    rw [show 0 + 1 + m = m + 1 by omega, l_35_10, b_35_10]
    simp (disch := first | assumption | (repeat' (first | apply fx_sI | apply fx_sJ | assumption | omega))) only [gQ_e (K39 hF), hG.1, Option.bind_some, hG.n.2, nI_leI, Nat.le_refl, if_true]
  | succ r ih =>
    intro d m h hd hF hG hw
    have hDd := hG.2.1.dr (show d < E 2 by omega)
    obtain ⟨k, ge, t, a0, a1, a2, ⟨f0, f1, f2, f3, f4⟩, _⟩ := id hG.2.1
    obtain ⟨dk, _, _, _, _, _, _, _, ⟨_, _, _, _, _, dc, _⟩, _⟩ := hDd.2
    have z1 : Fz [45] h (sI h 45 d (nI (wFw E d))) := Fz.sI Fz.rfl' (Or.inl (by simp))
    obtain ⟨g, b1, b2, b3⟩ := ih (d + 1) m _ (by omega) (fx_sI hF (by omega)) (hG.cz hT z1 (by decide) (by decide) (by decide) (by decide)) (fun e he => by
      rw [hI_sI]
      by_cases c : e = d
      · rw [if_pos ⟨rfl, c⟩, c]
      · rw [if_neg (fun z => c z.2)]; exact hw e (by omega))
    refine ⟨g, ?_, z1.then b2, b3⟩
    have ew : nI 1024 + nI (dCs E d) = nI (wFw E d) := by first | (rw [pk_mul, nI_add]; rfl) | (rw [nI_add]; rfl)
    rw [show r + 1 + 1 + m = (r + 1 + m) + 1 by omega, l_35_10, b_35_10]
    simp (disch := first | assumption | (repeat' (first | apply fx_sI | apply fx_sJ | assumption | omega))) only [gQ_e (K39 hF), hG.1, Option.bind_some, hG.n.2, nI_leI, show ¬ E 2 ≤ d by omega, if_false]
    rw [b_35_21]
    simp (disch := first | assumption | (repeat' (first | apply fx_sI | apply fx_sJ | assumption | omega))) only [gQ_e (K39 hF), Q39_10 hF, hG.1, gQ_e k, a1.1, Option.bind_some, aQ_n a1.2.1 (show 15 ≤ 16 ∧ 16 ≤ 18 by omega) a1.2.2.1, hDd.1, gI_e dk, dc, ew, aI27, aL27, aI28, aL28, aI32, wI32, aL32, aI34, wI34, aL34, aI35, wI35, aL35, aI37, wI37, aL37, aI38, wI38, aL38, aJ40, wJ40, aL40, aI41, wI41, aL41, aI42, wI42, aL42, aI43, wI43, aL43, aI44, wI44, aL44, aI45, wI45, aL45, aI46, wI46, aL46, aI47, wI47, aL47, aI49, wI49, aL49, aI50, wI50, aL50, aI52, wI52, aL52, aI54, wI54, aL54, aI55, wI55, aL55, aL56, aL57, aL58, aI59, wI59, aL59, aI61, wI61, aL61, aL62, aI63, wI63, aL63, aI65, wI65, aL65, aI66, wI66, aL66, aI67, wI67, aL67, aI68, wI68, aL68, aI69, wI69, aL69, aJ70, wJ70, aL70, aJ71, wJ71, aL71, aJ72, wJ72, aL72, aZ73, wZ73, aL73, aI74, wI74, aL74, aI75, wI75, aL75, aJ76, wJ76, aL76, aJ77, wJ77, aL77, aI78, wI78, aL78, aI79, wI79, aL79, aI80, wI80, aL80, aI81, wI81, aL81, aI82, wI82, aL82, aI83, wI83, aL83, aI84, wI84, aL84, aI85, wI85, aL85, aI86, wI86, aL86, aI87, wI87, aL87, aI88, wI88, aL88, aI89, wI89, aL89, aI90, wI90, aL90, aI91, wI91, aL91, aI92, wI92, aL92, aI93, wI93, aL93, aI94, wI94, aL94, aZ95, wZ95, aL95, aI96, wI96, aL96, aJ97, wJ97, aL97, hF, bnd_e, nI_add]
    exact b1
theorem s_35 {h : Hp} (hF : Fix h) (hT : TG τ) (hW : WF E) (hk : Hk τ h E) :
    ∃ g, f_35 (some 39) h = some (bI (decide (solW E (dHg E) (wFw E) ≠ none)), g) ∧ Fz [45, 46, 47, 14000039, 15000039, 8000039, 43] h g ∧ Hk τ g E ∧ hI g 39 7 = nI (bkN (solW E (dHg E) (wFw E))) ∧ ∀ b, solW E (dHg E) (wFw E) = some b → b.1 ≤ 20000 ∧ ∀ i, i < E 2 → hI g 43 i = nI (b.2 i) := by
  have w2 := hW.2.2.1
  have fin : ∀ g, Fix g → hI g 39 7 = nI (bkN (solW E (dHg E) (wFw E))) → (∀ b, solW E (dHg E) (wFw E) = some b → b.1 ≤ 20000) → b_35_76 (some 39) g = some (bI (decide (solW E (dHg E) (wFw E) ≠ none)), g) := by
    intro g F v hR
    rw [b_35_76]
    simp (disch := first | assumption | (repeat' (first | apply fx_sI | apply fx_sJ | assumption | omega))) only [bnd_e, grd_e, grd0, grd1, Option.bind_some, Option.isSome_some, gQ30_0, gQ30_1, gQ30_2, gQ30_3, gQ30_4, gQ30_5, gQ30_6, gQ30_7, gQ30_8, gQ30_9, gQ31_0, gQ33_0, gQ33_1, gQ36_0, gQ36_1, gQ39_0, gQ39_3, gQ39_4, gQ39_6, gQ39_8, gQ39_10, gQ39_11, gQ39_12, gQ48_0, gQ48_1, gQ51_2, gQ53_0, gQ53_1, gQ60_0, gQ60_1, gQ60_2, gQ64_1, gQ64_14, gQ64_15, gQ64_16, gQ64_17, gQ64_18, gQ64_19, gQ64_20, gQ64_21, gQ64_24, gQ64_25, gQ64_27, gQ64_28, gQ64_29, gQ64_30, gQ64_31, gQ64_34, gQ64_35, gQ64_36, gQ64_39, gQ64_40, gQ64_41, gQ64_43, gQ64_44, gQ64_48, gQ64_50, gQ64_51, gQ64_52, gQ64_53, gQ64_54, gQ64_58, gQ64_59, gI30, gJ30, pI30, pJ30, rC30, gI31, gJ31, pI31, pJ31, rC31, gI33, gJ33, pI33, pJ33, rC33, gI36, gJ36, pI36, pJ36, rC36, gI39, gJ39, pI39, pJ39, rC39, gI48, gJ48, pI48, pJ48, rC48, gI51, gJ51, pI51, pJ51, rC51, gI53, gJ53, pI53, pJ53, rC53, gI60, gJ60, pI60, pJ60, rC60, gI64, gJ64, pI64, pJ64, rC64, F, v, bk_no hR]
    by_cases c : solW E (dHg E) (wFw E) = none
    · rw [if_pos c, bI_F (fun z => z c)]; rfl
    · rw [if_neg c, bI_T c]; rfl
  obtain ⟨hG, hcur, k1, k2⟩ := id hk
  by_cases c : hI h 39 7 = -1
  · obtain ⟨m, hm⟩ := FU_ge (E 2 + 1) (by omega)
    obtain ⟨h1, a1, a2, a3⟩ := l_35 hT hW (E 2) 0 m h (by omega) hF hG (fun e he => absurd he (Nat.not_lt_zero e))
    have F1 := a2.fix hF (by decide)
    have G1 := hG.cz hT a2 (by decide) (by decide) (by decide) (by decide)
    obtain ⟨h2, b1, b2, b3⟩ := s_36 (A := 2 ^ E 2 - 1) (cur := dHg E) (wt := wFw E) F1 hT G1 w2 (all_lt w2) (fun i hi => by rw [a2.I (a := 41) (by decide)]; exact hcur i hi) (fun i hi => hW.hg hi) a3 (fun i hi => by have := (hW.2.2.2.2.2.2.1 i hi).1.2.2.2.2.2.2.2.2.1; unfold wFw; omega)
    rw [bq_sol (by intro d; unfold wFw; omega)] at b1 b3
    have F2 := b2.fix F1 (by decide)
    generalize hR : solW E (dHg E) (wFw E) = R at *
    generalize e1 : sI h2 39 7 (nI (bkN R)) = h3
    have F3 : Fix h3 := by rw [← e1]; exact fx_sI F2 (by omega)
    have ec := cP_e (h := h3) (a := 47) (b := 43) (K47 F3) (K43 F3) (by omega) (by omega) (L47 F3) (L43 F3)
    generalize e2 : hCopy h3 47 0 43 0 10 = h4 at ec
    have z4 : Fz [8000039, 43] h2 h4 := by
      rw [← e2, ← e1]
      refine ⟨rfl, rfl, rfl, rfl, rfl, rfl, fun a j hl ha hb => ⟨?_, rfl⟩⟩
      rw [hI_copy, if_neg (by intro z; apply ha; rw [z]; simp), hI_sI, if_neg]
      rintro ⟨q1, q2⟩
      apply hb
      rw [q1, q2]
      simp
    have F4 := z4.fix F2 (by decide)
    have v4 : hI h4 39 7 = nI (bkN R) := by rw [← e2, hI_copy, if_neg (by omega), ← e1, hI_sI, if_pos ⟨rfl, rfl⟩]
    have r4 : ∀ b, R = some b → b.1 ≤ 20000 ∧ ∀ i, i < E 2 → hI h4 43 i = nI (b.2 i) := fun b hb => ⟨(b3 b hb).1, fun i hi => by
      rw [← e2, hI_copy, if_pos rfl, pk_cpy_in (by omega) (by omega), show 0 + (i - 0) = i by omega, ← e1, hI_sI, if_neg (by omega)]
      exact (b3 b hb).2 i hi (all_tb hi)⟩
    have z : Fz [45, 46, 47, 14000039, 15000039, 8000039, 43] h h4 := ((a2.wid (by intro z hz; simp only [List.mem_cons, List.not_mem_nil, or_false] at hz ⊢; omega)).then (b2.wid (by intro z hz; simp only [List.mem_cons, List.not_mem_nil, or_false] at hz ⊢; omega))).then (z4.wid (by intro z hz; simp only [List.mem_cons, List.not_mem_nil, or_false] at hz ⊢; omega))
    refine ⟨h4, ?_, z, ⟨hG.cz hT z (by decide) (by decide) (by decide) (by decide), fun d hd => by rw [z.I (a := 41) (by decide)]; exact hcur d hd, ?_, ?_⟩, v4, r4⟩
    · rw [f_35, b_35_0]
      simp (disch := first | assumption | (repeat' (first | apply fx_sI | apply fx_sJ | assumption | omega))) only [bnd_e, grd_e, grd0, grd1, Option.bind_some, Option.isSome_some, gQ30_0, gQ30_1, gQ30_2, gQ30_3, gQ30_4, gQ30_5, gQ30_6, gQ30_7, gQ30_8, gQ30_9, gQ31_0, gQ33_0, gQ33_1, gQ36_0, gQ36_1, gQ39_0, gQ39_3, gQ39_4, gQ39_6, gQ39_8, gQ39_10, gQ39_11, gQ39_12, gQ48_0, gQ48_1, gQ51_2, gQ53_0, gQ53_1, gQ60_0, gQ60_1, gQ60_2, gQ64_1, gQ64_14, gQ64_15, gQ64_16, gQ64_17, gQ64_18, gQ64_19, gQ64_20, gQ64_21, gQ64_24, gQ64_25, gQ64_27, gQ64_28, gQ64_29, gQ64_30, gQ64_31, gQ64_34, gQ64_35, gQ64_36, gQ64_39, gQ64_40, gQ64_41, gQ64_43, gQ64_44, gQ64_48, gQ64_50, gQ64_51, gQ64_52, gQ64_53, gQ64_54, gQ64_58, gQ64_59, gI30, gJ30, pI30, pJ30, rC30, gI31, gJ31, pI31, pJ31, rC31, gI33, gJ33, pI33, pJ33, rC33, gI36, gJ36, pI36, pJ36, rC36, gI39, gJ39, pI39, pJ39, rC39, gI48, gJ48, pI48, pJ48, rC48, gI51, gJ51, pI51, pJ51, rC51, gI53, gJ53, pI53, pJ53, rC53, gI60, gJ60, pI60, pJ60, rC60, gI64, gJ64, pI64, pJ64, rC64, hF, c, not_true, if_false]
      rw [b_35_8, bnd_e, hm, a1, b_35_49]
      simp (disch := first | assumption | (repeat' (first | apply fx_sI | apply fx_sJ | assumption | omega))) only [bnd_e, grd_e, grd0, grd1, Option.bind_some, Option.isSome_some, gQ30_0, gQ30_1, gQ30_2, gQ30_3, gQ30_4, gQ30_5, gQ30_6, gQ30_7, gQ30_8, gQ30_9, gQ31_0, gQ33_0, gQ33_1, gQ36_0, gQ36_1, gQ39_0, gQ39_3, gQ39_4, gQ39_6, gQ39_8, gQ39_10, gQ39_11, gQ39_12, gQ48_0, gQ48_1, gQ51_2, gQ53_0, gQ53_1, gQ60_0, gQ60_1, gQ60_2, gQ64_1, gQ64_14, gQ64_15, gQ64_16, gQ64_17, gQ64_18, gQ64_19, gQ64_20, gQ64_21, gQ64_24, gQ64_25, gQ64_27, gQ64_28, gQ64_29, gQ64_30, gQ64_31, gQ64_34, gQ64_35, gQ64_36, gQ64_39, gQ64_40, gQ64_41, gQ64_43, gQ64_44, gQ64_48, gQ64_50, gQ64_51, gQ64_52, gQ64_53, gQ64_54, gQ64_58, gQ64_59, gI30, gJ30, pI30, pJ30, rC30, gI31, gJ31, pI31, pJ31, rC31, gI33, gJ33, pI33, pJ33, rC33, gI36, gJ36, pI36, pJ36, rC36, gI39, gJ39, pI39, pJ39, rC39, gI48, gJ48, pI48, pJ48, rC48, gI51, gJ51, pI51, pJ51, rC51, gI53, gJ53, pI53, pJ53, rC53, gI60, gJ60, pI60, pJ60, rC60, gI64, gJ64, pI64, pJ64, rC64, F1, s_29 F1 G1 w2, b1, F2, e1, F3, ec]
      exact fin h4 F4 v4 (fun b hb => (r4 b hb).1)
    · exact k1.cg (by rw [z.I1 (by decide) (by decide)]) (z.I (a := 42) (by decide))
    · rw [hR]; exact Or.inr ⟨v4, r4⟩
  · have c' := c
    have kk : CcI h (E 2) 7 43 (solW E (dHg E) (wFw E)) := k2
    rcases kk with z | ⟨z1, z2⟩
    · exact absurd z c
    · refine ⟨h, ?_, Fz.rfl', hk, z1, z2⟩
      rw [f_35, b_35_0]
      simp (disch := first | assumption | (repeat' (first | apply fx_sI | apply fx_sJ | assumption | omega))) only [bnd_e, grd_e, grd0, grd1, Option.bind_some, Option.isSome_some, gQ30_0, gQ30_1, gQ30_2, gQ30_3, gQ30_4, gQ30_5, gQ30_6, gQ30_7, gQ30_8, gQ30_9, gQ31_0, gQ33_0, gQ33_1, gQ36_0, gQ36_1, gQ39_0, gQ39_3, gQ39_4, gQ39_6, gQ39_8, gQ39_10, gQ39_11, gQ39_12, gQ48_0, gQ48_1, gQ51_2, gQ53_0, gQ53_1, gQ60_0, gQ60_1, gQ60_2, gQ64_1, gQ64_14, gQ64_15, gQ64_16, gQ64_17, gQ64_18, gQ64_19, gQ64_20, gQ64_21, gQ64_24, gQ64_25, gQ64_27, gQ64_28, gQ64_29, gQ64_30, gQ64_31, gQ64_34, gQ64_35, gQ64_36, gQ64_39, gQ64_40, gQ64_41, gQ64_43, gQ64_44, gQ64_48, gQ64_50, gQ64_51, gQ64_52, gQ64_53, gQ64_54, gQ64_58, gQ64_59, gI30, gJ30, pI30, pJ30, rC30, gI31, gJ31, pI31, pJ31, rC31, gI33, gJ33, pI33, pJ33, rC33, gI36, gJ36, pI36, pJ36, rC36, gI39, gJ39, pI39, pJ39, rC39, gI48, gJ48, pI48, pJ48, rC48, gI51, gJ51, pI51, pJ51, rC51, gI53, gJ53, pI53, pJ53, rC53, gI60, gJ60, pI60, pJ60, rC60, gI64, gJ64, pI64, pJ64, rC64, hF, c, not_false_eq_true, if_true]
      exact fin h hF z1 (fun b hb => (z2 b hb).1)
end SOL2
