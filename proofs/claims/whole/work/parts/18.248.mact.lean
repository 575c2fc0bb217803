/-! the reference's act of a day -/
def ow (w n : Nat) : Nat := if w < 4 then w + 1 else if w = 6 then 0 else 1 + (2 * n + w)
/-- a scene of the reference with its minutes and shuts -/
def MD (h : Hp) (E an : Nat → Nat) (pl sp sh : Nat) : Prop := MS h E an pl ∧ VA E an pl ∧ hI h 64 49 = nI sp ∧ hI h 64 46 = nI sh
section MACT
variable {E : Nat → Nat}
theorem m_261 {h : Hp} {an : Nat → Nat} {pl sp sh o : Nat} (hF : Fix h) (hW : WF E) (hM : MD h E an pl sp sh) (ho : o < 5 + 2 * E 2) :
    ∃ g, f_261 (some 64) (mI o) h = some (nI (kn E an pl o), g) ∧ Fz [46000064, 47000064, 50000064, 87, 27000064, 74, 75, 88] h g ∧ Fix g ∧ (kn E an pl o = 0 → MD (sI g 64 49 (nI (sp + 1))) E (mnA E an pl o) (pp pl o) (sp + 1) (sh + mnN E an pl o)) ∧ (kn E an pl o ≠ 0 → MD g E an pl sp sh) ∧ hI g 64 49 = nI sp := by
  obtain ⟨m1, m2, m3, m4⟩ := hM
  obtain ⟨g, a1, a2, a3, a4⟩ := s_261 hF m1 hW m2 ho m4
  have hF1 := a2.fix hF (by decide)
  have h49 : hI g 64 49 = nI sp := by rw [a2.I1 (by decide) (by decide)]; exact m3
  refine ⟨g, a1, a2.wid (by intro z hz; simp only [List.mem_cons, List.not_mem_nil, or_false] at hz ⊢; omega), hF1, fun z => ?_, fun z => ⟨(a4 z).1, m2, h49, (a4 z).2⟩, h49⟩
  have q := a3 z
  refine ⟨q.1.cg ?_ ?_ ?_ ?_, m2.mn hW ho z, by rw [hI_sI, if_pos ⟨rfl, rfl⟩], by rw [hI_sI, if_neg (by omega)]; exact q.2⟩
  · funext j; rw [hI_sI, if_neg (by omega)]
  · funext j; rw [hI_sI, if_neg (by omega)]
  · rw [hI_sI, if_neg (by omega)]
  · funext j; rw [hI_sI, if_neg (by omega)]
theorem l_270a (hW : WF E) {w n : Nat} (hw : w < 4 ∨ w = 6) (hn : n < 1000) : ∀ r k m h an pl sp sh, Fix h → MD h E an pl sp sh → k + r = n →
    ∃ g, l_270_13 (r + 1 + m) (some 64) (nI w) (nI n) (nI k) h = some (nI (dayL E (ow w n) r k an pl sp sh).1, g) ∧ Fz [46000064, 47000064, 50000064, 87, 27000064, 74, 75, 88] h g ∧ MD g E (dayL E (ow w n) r k an pl sp sh).2.1 (dayL E (ow w n) r k an pl sp sh).2.2.1 (dayL E (ow w n) r k an pl sp sh).2.2.2.1 (dayL E (ow w n) r k an pl sp sh).2.2.2.2 := by
  have o5 : ow w n < 5 := by unfold ow; (repeat' split) <;> omega
  intro r
  induction r with
  | zero =>
    intro k m h an pl sp sh hF hM hk
    obtain rfl : k = n := by omega
    refine ⟨h, ?_, Fz.rfl', hM⟩
    rw [show 0 + 1 + m = m + 1 by omega, l_270_13, b_270_13, if_pos (Int32.le_refl _), b_270_59]
    rfl
  | succ r ih =>
    intro k m h an pl sp sh hF hM hk
    have b := kn_lt (E := E) (an := an) (pl := pl) (o := ow w n)
    have ns : ¬ (0 < k ∧ soB E an (ow w n) = true) := fun z => by have := of_decide_eq_true z.2; omega
    obtain ⟨g, a1, a2, a3, a4, a5, a6⟩ := m_261 (o := ow w n) hF hW hM (by omega)
    have st : l_270_13 (r + 1 + m + 1) (some 64) (nI w) (nI n) (nI k) h = b_270_30 (l_270_13 (r + 1 + m)) (some 64) (nI w) (nI n) (nI k) (some 64) (mI (ow w n)) h := by
      rw [l_270_13, b_270_13, if_neg (by rw [nI_leI (by omega) (by omega)]; omega), b_270_18]
      rcases hw with c | c
      · rw [if_pos (by rw [nI_eq (by omega) (by omega)]; omega), b_270_29]
        unfold ow
        rw [if_pos c]
        rfl
      · subst c
        rw [if_neg (fun z => z rfl), b_270_25]
        rfl
    rw [show r + 1 + 1 + m = r + 1 + m + 1 by omega, st]
    unfold dayL
    rw [if_neg ns]
    by_cases c0 : kn E an pl (ow w n) = 0
    · rw [if_pos c0]
      obtain ⟨g2, b1, b2, b3⟩ := ih (k + 1) m (sI g 64 49 (nI (sp + 1))) _ _ _ _ (fx_sI a3 (by omega)) (a4 c0) (by omega)
      refine ⟨g2, ?_, (Fz.sI a2 (by decide)).then b2, b3⟩
      rw [b_270_30]
      simp only [bnd_e, grd_e, grd0, grd1, Option.bind_some, Option.isSome_some, gQ30_0, gQ30_1, gQ30_2, gQ30_3, gQ30_4, gQ30_5, gQ30_6, gQ30_7, gQ30_8, gQ30_9, gQ31_0, gQ33_0, gQ33_1, gQ36_0, gQ36_1, gQ39_0, gQ39_3, gQ39_4, gQ39_6, gQ39_8, gQ39_10, gQ39_11, gQ39_12, gQ48_0, gQ48_1, gQ51_2, gQ53_0, gQ53_1, gQ60_0, gQ60_1, gQ60_2, gQ64_1, gQ64_14, gQ64_15, gQ64_16, gQ64_17, gQ64_18, gQ64_19, gQ64_20, gQ64_21, gQ64_24, gQ64_25, gQ64_27, gQ64_28, gQ64_29, gQ64_30, gQ64_31, gQ64_34, gQ64_35, gQ64_36, gQ64_39, gQ64_40, gQ64_41, gQ64_43, gQ64_44, gQ64_48, gQ64_50, gQ64_51, gQ64_52, gQ64_53, gQ64_54, gQ64_58, gQ64_59, gI30, gJ30, pI30, pJ30, rC30, gI31, gJ31, pI31, pJ31, rC31, gI33, gJ33, pI33, pJ33, rC33, gI36, gJ36, pI36, pJ36, rC36, gI39, gJ39, pI39, pJ39, rC39, gI48, gJ48, pI48, pJ48, rC48, gI51, gJ51, pI51, pJ51, rC51, gI53, gJ53, pI53, pJ53, rC53, gI60, gJ60, pI60, pJ60, rC60, gI64, gJ64, pI64, pJ64, rC64, hF, a1, c0, nI00, if_true]
      rw [b_270_43]
      simp (disch := first | assumption | (repeat' (first | apply fx_sI | apply fx_sJ | assumption | omega))) only [bnd_e, grd_e, grd0, grd1, Option.bind_some, Option.isSome_some, gQ30_0, gQ30_1, gQ30_2, gQ30_3, gQ30_4, gQ30_5, gQ30_6, gQ30_7, gQ30_8, gQ30_9, gQ31_0, gQ33_0, gQ33_1, gQ36_0, gQ36_1, gQ39_0, gQ39_3, gQ39_4, gQ39_6, gQ39_8, gQ39_10, gQ39_11, gQ39_12, gQ48_0, gQ48_1, gQ51_2, gQ53_0, gQ53_1, gQ60_0, gQ60_1, gQ60_2, gQ64_1, gQ64_14, gQ64_15, gQ64_16, gQ64_17, gQ64_18, gQ64_19, gQ64_20, gQ64_21, gQ64_24, gQ64_25, gQ64_27, gQ64_28, gQ64_29, gQ64_30, gQ64_31, gQ64_34, gQ64_35, gQ64_36, gQ64_39, gQ64_40, gQ64_41, gQ64_43, gQ64_44, gQ64_48, gQ64_50, gQ64_51, gQ64_52, gQ64_53, gQ64_54, gQ64_58, gQ64_59, gI30, gJ30, pI30, pJ30, rC30, gI31, gJ31, pI31, pJ31, rC31, gI33, gJ33, pI33, pJ33, rC33, gI36, gJ36, pI36, pJ36, rC36, gI39, gJ39, pI39, pJ39, rC39, gI48, gJ48, pI48, pJ48, rC48, gI51, gJ51, pI51, pJ51, rC51, gI53, gJ53, pI53, pJ53, rC53, gI60, gJ60, pI60, pJ60, rC60, gI64, gJ64, pI64, pJ64, rC64, a3, a6, nI_add]
      exact b1
    · rw [if_neg c0]
      refine ⟨g, ?_, a2, a5 c0⟩
      rw [b_270_30]
      simp only [bnd_e, grd_e, grd0, grd1, Option.bind_some, Option.isSome_some, gQ30_0, gQ30_1, gQ30_2, gQ30_3, gQ30_4, gQ30_5, gQ30_6, gQ30_7, gQ30_8, gQ30_9, gQ31_0, gQ33_0, gQ33_1, gQ36_0, gQ36_1, gQ39_0, gQ39_3, gQ39_4, gQ39_6, gQ39_8, gQ39_10, gQ39_11, gQ39_12, gQ48_0, gQ48_1, gQ51_2, gQ53_0, gQ53_1, gQ60_0, gQ60_1, gQ60_2, gQ64_1, gQ64_14, gQ64_15, gQ64_16, gQ64_17, gQ64_18, gQ64_19, gQ64_20, gQ64_21, gQ64_24, gQ64_25, gQ64_27, gQ64_28, gQ64_29, gQ64_30, gQ64_31, gQ64_34, gQ64_35, gQ64_36, gQ64_39, gQ64_40, gQ64_41, gQ64_43, gQ64_44, gQ64_48, gQ64_50, gQ64_51, gQ64_52, gQ64_53, gQ64_54, gQ64_58, gQ64_59, gI30, gJ30, pI30, pJ30, rC30, gI31, gJ31, pI31, pJ31, rC31, gI33, gJ33, pI33, pJ33, rC33, gI36, gJ36, pI36, pJ36, rC36, gI39, gJ39, pI39, pJ39, rC39, gI48, gJ48, pI48, pJ48, rC48, gI51, gJ51, pI51, pJ51, rC51, gI53, gJ53, pI53, pJ53, rC53, gI60, gJ60, pI60, pJ60, rC60, gI64, gJ64, pI64, pJ64, rC64, hF, a1, nI_eq0 (show kn E an pl (ow w n) < 2147483648 by omega), c0, if_false]
      rw [b_270_40]
/-- the goal of a swing -/
def glN (E : Nat → Nat) (w d : Nat) : Nat := if w = 5 then 0 else if canB E d (dHg E d) 2 = true then 2 else 1
theorem s_269 {h : Hp} {w d : Nat} (hF : Fix h) (hE : NowE h E) (hW : WF E) (hd : d < E 2) (hw : w = 4 ∨ w = 5) : ∃ g, f_269 (some 64) (nI w) (nI d) h = some (nI (glN E w d), g) ∧ Fz [27000064, 74, 75] h g := by
  unfold glN
  have n45 : ¬ nI 4 = nI 5 := by decide
  rcases hw with rfl | rfl
  · have hD := hW.dr hd
    have e4 : E (110 + 10 * d + 4) = dHg E d := by unfold dHg; congr 1; omega
    have h4 := s_205 (w := 4) hF hE hD.1 (by omega)
    rw [e4] at h4
    obtain ⟨g, a1, a2, _⟩ := s_221 (a := 2) hF hE hD (hW.hg hd) (by omega)
    refine ⟨g, ?_, a2⟩
    rw [if_neg (by omega), f_269, b_269_0, if_pos n45, b_269_9]
    simp only [bnd_e, grd_e, grd0, grd1, Option.bind_some, Option.isSome_some, gQ30_0, gQ30_1, gQ30_2, gQ30_3, gQ30_4, gQ30_5, gQ30_6, gQ30_7, gQ30_8, gQ30_9, gQ31_0, gQ33_0, gQ33_1, gQ36_0, gQ36_1, gQ39_0, gQ39_3, gQ39_4, gQ39_6, gQ39_8, gQ39_10, gQ39_11, gQ39_12, gQ48_0, gQ48_1, gQ51_2, gQ53_0, gQ53_1, gQ60_0, gQ60_1, gQ60_2, gQ64_1, gQ64_14, gQ64_15, gQ64_16, gQ64_17, gQ64_18, gQ64_19, gQ64_20, gQ64_21, gQ64_24, gQ64_25, gQ64_27, gQ64_28, gQ64_29, gQ64_30, gQ64_31, gQ64_34, gQ64_35, gQ64_36, gQ64_39, gQ64_40, gQ64_41, gQ64_43, gQ64_44, gQ64_48, gQ64_50, gQ64_51, gQ64_52, gQ64_53, gQ64_54, gQ64_58, gQ64_59, gI30, gJ30, pI30, pJ30, rC30, gI31, gJ31, pI31, pJ31, rC31, gI33, gJ33, pI33, pJ33, rC33, gI36, gJ36, pI36, pJ36, rC36, gI39, gJ39, pI39, pJ39, rC39, gI48, gJ48, pI48, pJ48, rC48, gI51, gJ51, pI51, pJ51, rC51, gI53, gJ53, pI53, pJ53, rC53, gI60, gJ60, pI60, pJ60, rC60, gI64, gJ64, pI64, pJ64, rC64, hF, h4, a1, bI_0']
    cases canB E d (dHg E d) 2 <;> rfl
  · exact ⟨h, rfl, Fz.rfl'⟩
theorem l_270b (hW : WF E) {w d L : Nat} (hw : w = 4 ∨ w = 5) (hd : d < E 2) (hL : L < 1000) : ∀ r k m h an pl sp sh, Fix h → MD h E an pl sp sh → k + r = L → (k = 0 → soB E an (ow w d) = false) →
    ∃ g, l_270_126 (r + 1 + m) (some 64) (nI w) (nI d) (nI (glN E w d)) (nI L) (nI k) h = some (nI (dayL E (ow w d) r k an pl sp sh).1, g) ∧ Fz [46000064, 47000064, 50000064, 87, 27000064, 74, 75, 88] h g ∧ MD g E (dayL E (ow w d) r k an pl sp sh).2.1 (dayL E (ow w d) r k an pl sp sh).2.2.1 (dayL E (ow w d) r k an pl sp sh).2.2.2.1 (dayL E (ow w d) r k an pl sp sh).2.2.2.2 := by
  have w2 := hW.2.2.1
  have oe : ow w d = 1 + (2 * d + w) := by unfold ow; rw [if_neg (by omega), if_neg (by omega)]
  have od : dA (ow w d - 1) = d := by rw [oe]; unfold dA; omega
  intro r
  induction r with
  | zero =>
    intro k m h an pl sp sh hF hM hk _
    obtain rfl : k = L := by omega
    refine ⟨h, ?_, Fz.rfl', hM⟩
    rw [show 0 + 1 + m = m + 1 by omega, l_270_126, b_270_126, if_pos (Int32.le_refl _), b_270_216]
    rfl
  | succ r ih =>
    intro k m h an pl sp sh hF hM hk hso
    generalize ho' : (if 0 < k ∧ soB E an (ow w d) = true then 0 else ow w d) = o'
    have ho2 : o' < 5 + 2 * E 2 := by rw [← ho']; split <;> omega
    have b := kn_lt (E := E) (an := an) (pl := pl) (o := o')
    obtain ⟨g, a1, a2, a3, a4, a5, a6⟩ := m_261 (o := o') hF hW hM ho2
    have h7 := hM.1.2.1 d (by omega)
    have v3 := hM.2.1.1 d hd
    have lp := lk_pos (A := ow w d - 1) hM.2.1 (by rw [od]; exact hd)
    have gl : glN E w d < 3 := by unfold glN; (repeat' split) <;> omega
    have st : l_270_126 (r + 1 + m + 1) (some 64) (nI w) (nI d) (nI (glN E w d)) (nI L) (nI k) h = b_270_187 (l_270_126 (r + 1 + m)) (some 64) (nI w) (nI d) (nI (glN E w d)) (nI L) (nI k) (some 64) (mI o') h := by
      have two : ∀ q : Bool, q = soB E an (ow w d) → b_270_170 (l_270_126 (r + 1 + m)) (some 64) (nI w) (nI d) (nI (glN E w d)) (nI L) (nI k) (bI q) h = b_270_187 (l_270_126 (r + 1 + m)) (some 64) (nI w) (nI d) (nI (glN E w d)) (nI L) (nI k) (some 64) (mI o') h := by
        intro q hq
        rw [b_270_170]
        cases q
        · have : o' = ow w d := by rw [← ho', if_neg (fun z => by rw [← hq] at z; exact Bool.noConfusion z.2)]
          rw [if_pos (show bI false = 0 by decide), b_270_182, this, oe, pk_mul, nI_add, show 1 + (2 * d + w) = (2 * d + w) + 1 by omega, mI_s]
        · have ck : 0 < k := by
            apply Nat.pos_of_ne_zero
            intro z
            rw [hso z] at hq
            exact Bool.noConfusion hq
          have : o' = 0 := by rw [← ho', if_pos ⟨ck, hq.symm⟩]
          rw [if_neg (by decide), b_270_178, this]
          rfl
      rw [l_270_126, b_270_126, if_neg (by rw [nI_leI (by omega) (by omega)]; omega), b_270_133]
      have n45 : ¬ nI 4 = nI 5 := by decide
      rcases hw with rfl | rfl
      · have so : soB E an (ow 4 d) = decide (¬ an d < glN E 4 d) := by
          unfold soB
          have lz : lkZ E an (ow 4 d - 1) = (glN E 4 d : Int) - (an d : Int) := by
            unfold lkZ glN
            rw [if_neg (show ¬ (ow 4 d - 1) % 2 = 1 by omega), od, if_neg (show ¬ (4 : Nat) = 5 by omega)]
            split <;> rfl
          by_cases c : an d < glN E 4 d
          · rw [decide_eq_false (fun z => by omega), decide_eq_false (fun z => z c)]
          · rw [decide_eq_true ⟨by omega, by omega⟩, decide_eq_true c]
        rw [if_pos n45, b_270_155]
        simp (disch := first | assumption | (repeat' (first | apply fx_sI | apply fx_sJ | assumption | omega))) only [bnd_e, grd_e, grd0, grd1, Option.bind_some, Option.isSome_some, gQ30_0, gQ30_1, gQ30_2, gQ30_3, gQ30_4, gQ30_5, gQ30_6, gQ30_7, gQ30_8, gQ30_9, gQ31_0, gQ33_0, gQ33_1, gQ36_0, gQ36_1, gQ39_0, gQ39_3, gQ39_4, gQ39_6, gQ39_8, gQ39_10, gQ39_11, gQ39_12, gQ48_0, gQ48_1, gQ51_2, gQ53_0, gQ53_1, gQ60_0, gQ60_1, gQ60_2, gQ64_1, gQ64_14, gQ64_15, gQ64_16, gQ64_17, gQ64_18, gQ64_19, gQ64_20, gQ64_21, gQ64_24, gQ64_25, gQ64_27, gQ64_28, gQ64_29, gQ64_30, gQ64_31, gQ64_34, gQ64_35, gQ64_36, gQ64_39, gQ64_40, gQ64_41, gQ64_43, gQ64_44, gQ64_48, gQ64_50, gQ64_51, gQ64_52, gQ64_53, gQ64_54, gQ64_58, gQ64_59, gI30, gJ30, pI30, pJ30, rC30, gI31, gJ31, pI31, pJ31, rC31, gI33, gJ33, pI33, pJ33, rC33, gI36, gJ36, pI36, pJ36, rC36, gI39, gJ39, pI39, pJ39, rC39, gI48, gJ48, pI48, pJ48, rC48, gI51, gJ51, pI51, pJ51, rC51, gI53, gJ53, pI53, pJ53, rC53, gI60, gJ60, pI60, pJ60, rC60, gI64, gJ64, pI64, pJ64, rC64, aI27, aL27, aI28, aL28, aI32, wI32, aL32, aI34, wI34, aL34, aI35, wI35, aL35, aI37, wI37, aL37, aI38, wI38, aL38, aJ40, wJ40, aL40, aI41, wI41, aL41, aI42, wI42, aL42, aI43, wI43, aL43, aI44, wI44, aL44, aI45, wI45, aL45, aI46, wI46, aL46, aI47, wI47, aL47, aI49, wI49, aL49, aI50, wI50, aL50, aI52, wI52, aL52, aI54, wI54, aL54, aI55, wI55, aL55, aL56, aL57, aL58, aI59, wI59, aL59, aI61, wI61, aL61, aL62, aI63, wI63, aL63, aI65, wI65, aL65, aI66, wI66, aL66, aI67, wI67, aL67, aI68, wI68, aL68, aI69, wI69, aL69, aJ70, wJ70, aL70, aJ71, wJ71, aL71, aJ72, wJ72, aL72, aZ73, wZ73, aL73, aI74, wI74, aL74, aI75, wI75, aL75, aJ76, wJ76, aL76, aJ77, wJ77, aL77, aI78, wI78, aL78, aI79, wI79, aL79, aI80, wI80, aL80, aI81, wI81, aL81, aI82, wI82, aL82, aI83, wI83, aL83, aI84, wI84, aL84, aI85, wI85, aL85, aI86, wI86, aL86, aI87, wI87, aL87, aI88, wI88, aL88, aI89, wI89, aL89, aI90, wI90, aL90, aI91, wI91, aL91, aI92, wI92, aL92, aI93, wI93, aL93, aI94, wI94, aL94, aZ95, wZ95, aL95, aI96, wI96, aL96, aJ97, wJ97, aL97, hF, h7, nI_ltI]
        by_cases c : an d < glN E 4 d
        · rw [if_pos c, b_270_169]
          exact two false (by rw [so, decide_eq_false (fun z => z c)])
        · rw [if_neg c, b_270_165]
          exact two true (by rw [so, decide_eq_true c])
      · have so : soB E an (ow 5 d) = decide (an d = 0) := by
          unfold soB
          have lz : lkZ E an (ow 5 d - 1) = (an d : Int) := by
            unfold lkZ
            rw [if_pos (by omega), od]
          by_cases c : an d = 0
          · rw [decide_eq_true ⟨by omega, by omega⟩, decide_eq_true c]
          · rw [decide_eq_false (fun z => by omega), decide_eq_false c]
        rw [if_neg (fun z => z rfl), b_270_138]
        simp (disch := first | assumption | (repeat' (first | apply fx_sI | apply fx_sJ | assumption | omega))) only [bnd_e, grd_e, grd0, grd1, Option.bind_some, Option.isSome_some, gQ30_0, gQ30_1, gQ30_2, gQ30_3, gQ30_4, gQ30_5, gQ30_6, gQ30_7, gQ30_8, gQ30_9, gQ31_0, gQ33_0, gQ33_1, gQ36_0, gQ36_1, gQ39_0, gQ39_3, gQ39_4, gQ39_6, gQ39_8, gQ39_10, gQ39_11, gQ39_12, gQ48_0, gQ48_1, gQ51_2, gQ53_0, gQ53_1, gQ60_0, gQ60_1, gQ60_2, gQ64_1, gQ64_14, gQ64_15, gQ64_16, gQ64_17, gQ64_18, gQ64_19, gQ64_20, gQ64_21, gQ64_24, gQ64_25, gQ64_27, gQ64_28, gQ64_29, gQ64_30, gQ64_31, gQ64_34, gQ64_35, gQ64_36, gQ64_39, gQ64_40, gQ64_41, gQ64_43, gQ64_44, gQ64_48, gQ64_50, gQ64_51, gQ64_52, gQ64_53, gQ64_54, gQ64_58, gQ64_59, gI30, gJ30, pI30, pJ30, rC30, gI31, gJ31, pI31, pJ31, rC31, gI33, gJ33, pI33, pJ33, rC33, gI36, gJ36, pI36, pJ36, rC36, gI39, gJ39, pI39, pJ39, rC39, gI48, gJ48, pI48, pJ48, rC48, gI51, gJ51, pI51, pJ51, rC51, gI53, gJ53, pI53, pJ53, rC53, gI60, gJ60, pI60, pJ60, rC60, gI64, gJ64, pI64, pJ64, rC64, aI27, aL27, aI28, aL28, aI32, wI32, aL32, aI34, wI34, aL34, aI35, wI35, aL35, aI37, wI37, aL37, aI38, wI38, aL38, aJ40, wJ40, aL40, aI41, wI41, aL41, aI42, wI42, aL42, aI43, wI43, aL43, aI44, wI44, aL44, aI45, wI45, aL45, aI46, wI46, aL46, aI47, wI47, aL47, aI49, wI49, aL49, aI50, wI50, aL50, aI52, wI52, aL52, aI54, wI54, aL54, aI55, wI55, aL55, aL56, aL57, aL58, aI59, wI59, aL59, aI61, wI61, aL61, aL62, aI63, wI63, aL63, aI65, wI65, aL65, aI66, wI66, aL66, aI67, wI67, aL67, aI68, wI68, aL68, aI69, wI69, aL69, aJ70, wJ70, aL70, aJ71, wJ71, aL71, aJ72, wJ72, aL72, aZ73, wZ73, aL73, aI74, wI74, aL74, aI75, wI75, aL75, aJ76, wJ76, aL76, aJ77, wJ77, aL77, aI78, wI78, aL78, aI79, wI79, aL79, aI80, wI80, aL80, aI81, wI81, aL81, aI82, wI82, aL82, aI83, wI83, aL83, aI84, wI84, aL84, aI85, wI85, aL85, aI86, wI86, aL86, aI87, wI87, aL87, aI88, wI88, aL88, aI89, wI89, aL89, aI90, wI90, aL90, aI91, wI91, aL91, aI92, wI92, aL92, aI93, wI93, aL93, aI94, wI94, aL94, aZ95, wZ95, aL95, aI96, wI96, aL96, aJ97, wJ97, aL97, hF, h7, nI_eq0 (show an d < 2147483648 by omega)]
        by_cases c : an d = 0
        · rw [if_neg (fun z => z c), b_270_147]
          exact two true (by rw [so, decide_eq_true c])
        · rw [if_pos c, b_270_151]
          exact two false (by rw [so, decide_eq_false c])
    rw [show r + 1 + 1 + m = r + 1 + m + 1 by omega, st]
    unfold dayL
    rw [ho']
    by_cases c0 : kn E an pl o' = 0
    · rw [if_pos c0]
      obtain ⟨g2, b1, b2, b3⟩ := ih (k + 1) m (sI g 64 49 (nI (sp + 1))) _ _ _ _ (fx_sI a3 (by omega)) (a4 c0) (by omega) (fun z => by omega)
      refine ⟨g2, ?_, (Fz.sI a2 (by decide)).then b2, b3⟩
      rw [b_270_187]
      simp only [bnd_e, grd_e, grd0, grd1, Option.bind_some, Option.isSome_some, gQ30_0, gQ30_1, gQ30_2, gQ30_3, gQ30_4, gQ30_5, gQ30_6, gQ30_7, gQ30_8, gQ30_9, gQ31_0, gQ33_0, gQ33_1, gQ36_0, gQ36_1, gQ39_0, gQ39_3, gQ39_4, gQ39_6, gQ39_8, gQ39_10, gQ39_11, gQ39_12, gQ48_0, gQ48_1, gQ51_2, gQ53_0, gQ53_1, gQ60_0, gQ60_1, gQ60_2, gQ64_1, gQ64_14, gQ64_15, gQ64_16, gQ64_17, gQ64_18, gQ64_19, gQ64_20, gQ64_21, gQ64_24, gQ64_25, gQ64_27, gQ64_28, gQ64_29, gQ64_30, gQ64_31, gQ64_34, gQ64_35, gQ64_36, gQ64_39, gQ64_40, gQ64_41, gQ64_43, gQ64_44, gQ64_48, gQ64_50, gQ64_51, gQ64_52, gQ64_53, gQ64_54, gQ64_58, gQ64_59, gI30, gJ30, pI30, pJ30, rC30, gI31, gJ31, pI31, pJ31, rC31, gI33, gJ33, pI33, pJ33, rC33, gI36, gJ36, pI36, pJ36, rC36, gI39, gJ39, pI39, pJ39, rC39, gI48, gJ48, pI48, pJ48, rC48, gI51, gJ51, pI51, pJ51, rC51, gI53, gJ53, pI53, pJ53, rC53, gI60, gJ60, pI60, pJ60, rC60, gI64, gJ64, pI64, pJ64, rC64, hF, a1, c0, nI00, if_true]
      rw [b_270_200]
      simp (disch := first | assumption | (repeat' (first | apply fx_sI | apply fx_sJ | assumption | omega))) only [bnd_e, grd_e, grd0, grd1, Option.bind_some, Option.isSome_some, gQ30_0, gQ30_1, gQ30_2, gQ30_3, gQ30_4, gQ30_5, gQ30_6, gQ30_7, gQ30_8, gQ30_9, gQ31_0, gQ33_0, gQ33_1, gQ36_0, gQ36_1, gQ39_0, gQ39_3, gQ39_4, gQ39_6, gQ39_8, gQ39_10, gQ39_11, gQ39_12, gQ48_0, gQ48_1, gQ51_2, gQ53_0, gQ53_1, gQ60_0, gQ60_1, gQ60_2, gQ64_1, gQ64_14, gQ64_15, gQ64_16, gQ64_17, gQ64_18, gQ64_19, gQ64_20, gQ64_21, gQ64_24, gQ64_25, gQ64_27, gQ64_28, gQ64_29, gQ64_30, gQ64_31, gQ64_34, gQ64_35, gQ64_36, gQ64_39, gQ64_40, gQ64_41, gQ64_43, gQ64_44, gQ64_48, gQ64_50, gQ64_51, gQ64_52, gQ64_53, gQ64_54, gQ64_58, gQ64_59, gI30, gJ30, pI30, pJ30, rC30, gI31, gJ31, pI31, pJ31, rC31, gI33, gJ33, pI33, pJ33, rC33, gI36, gJ36, pI36, pJ36, rC36, gI39, gJ39, pI39, pJ39, rC39, gI48, gJ48, pI48, pJ48, rC48, gI51, gJ51, pI51, pJ51, rC51, gI53, gJ53, pI53, pJ53, rC53, gI60, gJ60, pI60, pJ60, rC60, gI64, gJ64, pI64, pJ64, rC64, a3, a6, nI_add]
      exact b1
    · rw [if_neg c0]
      refine ⟨g, ?_, a2, a5 c0⟩
      rw [b_270_187]
      simp only [bnd_e, grd_e, grd0, grd1, Option.bind_some, Option.isSome_some, gQ30_0, gQ30_1, gQ30_2, gQ30_3, gQ30_4, gQ30_5, gQ30_6, gQ30_7, gQ30_8, gQ30_9, gQ31_0, gQ33_0, gQ33_1, gQ36_0, gQ36_1, gQ39_0, gQ39_3, gQ39_4, gQ39_6, gQ39_8, gQ39_10, gQ39_11, gQ39_12, gQ48_0, gQ48_1, gQ51_2, gQ53_0, gQ53_1, gQ60_0, gQ60_1, gQ60_2, gQ64_1, gQ64_14, gQ64_15, gQ64_16, gQ64_17, gQ64_18, gQ64_19, gQ64_20, gQ64_21, gQ64_24, gQ64_25, gQ64_27, gQ64_28, gQ64_29, gQ64_30, gQ64_31, gQ64_34, gQ64_35, gQ64_36, gQ64_39, gQ64_40, gQ64_41, gQ64_43, gQ64_44, gQ64_48, gQ64_50, gQ64_51, gQ64_52, gQ64_53, gQ64_54, gQ64_58, gQ64_59, gI30, gJ30, pI30, pJ30, rC30, gI31, gJ31, pI31, pJ31, rC31, gI33, gJ33, pI33, pJ33, rC33, gI36, gJ36, pI36, pJ36, rC36, gI39, gJ39, pI39, pJ39, rC39, gI48, gJ48, pI48, pJ48, rC48, gI51, gJ51, pI51, pJ51, rC51, gI53, gJ53, pI53, pJ53, rC53, gI60, gJ60, pI60, pJ60, rC60, gI64, gJ64, pI64, pJ64, rC64, hF, a1, nI_eq0 (show kn E an pl o' < 2147483648 by omega), c0, if_false]
      rw [b_270_197]
end MACT
