/-! an act of a day, in the class and in the reference -/
/-- minutes of an act: why, angles, place, minutes, shuts -/
def dayL (E : Nat → Nat) (o : Nat) : Nat → Nat → (Nat → Nat) → Nat → Nat → Nat → Nat × (Nat → Nat) × Nat × Nat × Nat
  | 0, _, an, pl, sp, sh => (0, an, pl, sp, sh)
  | r + 1, k, an, pl, sp, sh =>
    if kn E an pl (if 0 < k ∧ soB E an o = true then 0 else o) = 0
    then dayL E o r (k + 1) (mnA E an pl (if 0 < k ∧ soB E an o = true then 0 else o)) (pp pl (if 0 < k ∧ soB E an o = true then 0 else o)) (sp + 1) (sh + mnN E an pl (if 0 < k ∧ soB E an o = true then 0 else o))
    else (kn E an pl (if 0 < k ∧ soB E an o = true then 0 else o), an, pl, sp, sh)
def actD (E : Nat → Nat) (o t : Nat) (an : Nat → Nat) (pl sp sh : Nat) : Nat × (Nat → Nat) × Nat × Nat × Nat :=
  if o < 5 then dayL E o t 0 an pl sp sh else if lkZ E an (o - 1) ≤ 0 then ((if pl = 0 then 1 else if nearB E an pl (dA (o - 1)) = true then 5 else 4), an, pl, sp, sh) else dayL E o (lkZ E an (o - 1)).toNat 0 an pl sp sh
section ACT
variable {τ : Nat → Nat} {s : Nat} {E : Nat → Nat}
theorem lk_pos {an : Nat → Nat} {pl A : Nat} (hV : VA E an pl) (hd : dA A < E 2) : 0 ≤ lkZ E an A := by
  have h3 := hV.1 _ hd
  have hc := hV.2.1 _ hd
  unfold lkZ
  split
  · omega
  · split
    · omega
    · rename_i c
      have : an (dA A) ≠ 2 := fun z => by rw [z] at hc; exact c hc
      omega
/-- the class's knock in a day -/
theorem s_174 {an : Nat → Nat} {pl o : Nat} {h : Hp} {q : Option Nat} (hF : Fix h) (hs : SP s) (hS : ScR τ h s E an pl) (hW : WF E) (hV : VA E an pl) (ho : o < 5 + 2 * E 2) : f_174 q (some s) (mI o) h = some (nI (if 5 < kn E an pl o ∧ soB E an o = true then 5 else kn E an pl o), h) := by
  have b := kn_lt (E := E) (an := an) (pl := pl) (o := o)
  obtain ⟨q0, q1, q2, q3, q4, q5, q6, q7⟩ := spF hF hs
  by_cases c : kn E an pl o ≤ 5
  · rw [if_neg (by omega)]
    repeat ((first | rw [f_174] | rw [b_174_0] | rw [b_174_11] | rw [b_174_19] | rw [b_174_23] | rw [b_174_24]) <;> try simp (disch := first | assumption | (repeat' (first | apply fx_sI | apply fx_sJ | assumption | omega))) only [↓reduceIte, Option.bind_some, bnd_e, grd_e, grd0, grd1, rC_e q0 q7, c_90 hF hs hS hW hV ho, nI_leI, c])
  · repeat ((first | rw [f_174] | rw [b_174_0] | rw [b_174_11] | rw [b_174_19] | rw [b_174_23] | rw [b_174_24]) <;> try simp (disch := first | assumption | (repeat' (first | apply fx_sI | apply fx_sJ | assumption | omega))) only [↓reduceIte, Option.bind_some, bnd_e, grd_e, grd0, grd1, rC_e q0 q7, c_90 hF hs hS hW hV ho, nI_leI, c, c_96 hF hs hS hW hV ho, bI_0'])
    cases hq : soB E an o
    · simp
    · rw [if_neg (by decide), if_pos ⟨by omega, rfl⟩]
/-- the rows of the report that a day's minutes change -/
def RpC (h : Hp) (why sp sh : Nat) : Prop := hI h 59 0 = nI why ∧ hI h 59 1 = nI sp ∧ hI h 59 3 = nI sh
theorem l_173 (hT : TG τ) (hs : SP s) (hs2 : s < 50) (hW : WF E) {o : Nat} (ho : o < 5 + 2 * E 2) : ∀ r k M m h an pl sp sh, Fix h → ScR τ h s E an pl → VA E an pl → k + r = M → M < 1000 → RpC h 0 sp sh → (k = 0 → soB E an o = false) →
    ∃ g, l_173_23 (r + 1 + m) (some 30) (some s) (mI o) (nI M) (nI k) h = some (bI (decide ((dayL E o r k an pl sp sh).1 = 0)), g) ∧ Fz [s + 2, 4000000 + s, 59] h g ∧ ScR τ g s E (dayL E o r k an pl sp sh).2.1 (dayL E o r k an pl sp sh).2.2.1 ∧ VA E (dayL E o r k an pl sp sh).2.1 (dayL E o r k an pl sp sh).2.2.1 ∧ RpC g (dayL E o r k an pl sp sh).1 (dayL E o r k an pl sp sh).2.2.2.1 (dayL E o r k an pl sp sh).2.2.2.2 := by
  intro r
  induction r with
  | zero =>
    intro k M m h an pl sp sh hF hS hV hk hM hR _
    obtain rfl : k = M := by omega
    refine ⟨h, ?_, Fz.rfl', hS, hV, hR⟩
    rw [show 0 + 1 + m = m + 1 by omega, l_173_23, b_173_23, if_pos (Int32.le_refl _), b_173_125]
    rfl
  | succ r ih =>
    intro k M m h an pl sp sh hF hS hV hk hM hR hso
    obtain ⟨q0, q1, q2, q3, q4, q5, q6, q7⟩ := spF hF hs
    obtain ⟨r0, r1, r3⟩ := hR
    have w2 := hW.2.2.1
    have b := kn_lt (E := E) (an := an) (pl := pl) (o := o)
    -- first part: report[0]
    generalize ho' : (if 0 < k ∧ soB E an o = true then 0 else o) = o'
    have ho2 : o' < 5 + 2 * E 2 := by rw [← ho']; split <;> omega
    have b' := kn_lt (E := E) (an := an) (pl := pl) (o := o')
    have kw : o' = 0 → kn E an pl o' = 0 := fun z => by unfold kn; rw [if_pos z]
    have fst : l_173_23 (r + 1 + m + 1) (some 30) (some s) (mI o) (nI M) (nI k) h = if kn E an pl o' = 0 then b_173_93 (l_173_23 (r + 1 + m)) (some 30) (some s) (mI o) (nI M) (nI k) (some s) (mI o') (sI h 59 0 (nI 0)) else some (nI 0, sI h 59 0 (nI (kn E an pl o'))) := by
      rw [l_173_23, b_173_23, if_neg (by rw [nI_leI (by omega) (by omega)]; omega)]
      have two : ∀ w : Bool, (w = true ↔ 0 < k ∧ soB E an o = true) → b_173_48 (l_173_23 (r + 1 + m)) (some 30) (some s) (mI o) (nI M) (nI k) (bI w) h = if kn E an pl o' = 0 then b_173_93 (l_173_23 (r + 1 + m)) (some 30) (some s) (mI o) (nI M) (nI k) (some s) (mI o') (sI h 59 0 (nI 0)) else some (nI 0, sI h 59 0 (nI (kn E an pl o'))) := by
        intro w hw
        cases w
        · have nw : ¬ (0 < k ∧ soB E an o = true) := fun z => Bool.noConfusion (hw.2 z)
          rw [if_neg nw] at ho'
          subst ho'
          have ns : soB E an o = false := by
            cases hq : soB E an o
            · rfl
            · by_cases ck : k = 0
              · rw [hso ck] at hq; exact hq.symm
              · exact absurd ⟨by omega, hq⟩ nw
          have e174 := s_174 (q := some 30) hF hs hS hW hV ho
          rw [ns, if_neg (by simp)] at e174
          have e0 : (hI (sI h 59 0 (nI (kn E an pl o))) 59 0) = nI (kn E an pl o) := by rw [hI_sI, if_pos ⟨rfl, rfl⟩]
          have hF1 : Fix (sI h 59 0 (nI (kn E an pl o))) := fx_sI hF (by omega)
          repeat ((first | rw [f_173] | rw [b_173_0] | rw [b_173_5] | rw [b_173_9] | rw [b_173_18] | rw [b_173_23] | rw [b_173_30] | rw [b_173_35] | rw [b_173_43] | rw [b_173_47] | rw [b_173_48] | rw [b_173_60] | rw [b_173_64] | rw [b_173_70] | rw [b_173_80] | rw [b_173_82] | rw [b_173_88] | rw [b_173_92] | rw [b_173_125]) <;> try simp (disch := first | assumption | (repeat' (first | apply fx_sI | apply fx_sJ | assumption | omega))) only [↓reduceIte, Option.bind_some, bnd_e, grd_e, grd0, grd1, bnd_e, grd_e, grd0, grd1, Option.bind_some, Option.isSome_some, gQ30_0, gQ30_1, gQ30_2, gQ30_3, gQ30_4, gQ30_5, gQ30_6, gQ30_7, gQ30_8, gQ30_9, gQ31_0, gQ33_0, gQ33_1, gQ36_0, gQ36_1, gQ39_0, gQ39_3, gQ39_4, gQ39_6, gQ39_8, gQ39_10, gQ39_11, gQ39_12, gQ48_0, gQ48_1, gQ51_2, gQ53_0, gQ53_1, gQ60_0, gQ60_1, gQ60_2, gQ64_1, gQ64_14, gQ64_15, gQ64_16, gQ64_17, gQ64_18, gQ64_19, gQ64_20, gQ64_21, gQ64_24, gQ64_25, gQ64_27, gQ64_28, gQ64_29, gQ64_30, gQ64_31, gQ64_34, gQ64_35, gQ64_36, gQ64_39, gQ64_40, gQ64_41, gQ64_43, gQ64_44, gQ64_48, gQ64_50, gQ64_51, gQ64_52, gQ64_53, gQ64_54, gQ64_58, gQ64_59, gI30, gJ30, pI30, pJ30, rC30, gI31, gJ31, pI31, pJ31, rC31, gI33, gJ33, pI33, pJ33, rC33, gI36, gJ36, pI36, pJ36, rC36, gI39, gJ39, pI39, pJ39, rC39, gI48, gJ48, pI48, pJ48, rC48, gI51, gJ51, pI51, pJ51, rC51, gI53, gJ53, pI53, pJ53, rC53, gI60, gJ60, pI60, pJ60, rC60, gI64, gJ64, pI64, pJ64, rC64, aI27, aL27, aI28, aL28, aI32, wI32, aL32, aI34, wI34, aL34, aI35, wI35, aL35, aI37, wI37, aL37, aI38, wI38, aL38, aJ40, wJ40, aL40, aI41, wI41, aL41, aI42, wI42, aL42, aI43, wI43, aL43, aI44, wI44, aL44, aI45, wI45, aL45, aI46, wI46, aL46, aI47, wI47, aL47, aI49, wI49, aL49, aI50, wI50, aL50, aI52, wI52, aL52, aI54, wI54, aL54, aI55, wI55, aL55, aL56, aL57, aL58, aI59, wI59, aL59, aI61, wI61, aL61, aL62, aI63, wI63, aL63, aI65, wI65, aL65, aI66, wI66, aL66, aI67, wI67, aL67, aI68, wI68, aL68, aI69, wI69, aL69, aJ70, wJ70, aL70, aJ71, wJ71, aL71, aJ72, wJ72, aL72, aZ73, wZ73, aL73, aI74, wI74, aL74, aI75, wI75, aL75, aJ76, wJ76, aL76, aJ77, wJ77, aL77, aI78, wI78, aL78, aI79, wI79, aL79, aI80, wI80, aL80, aI81, wI81, aL81, aI82, wI82, aL82, aI83, wI83, aL83, aI84, wI84, aL84, aI85, wI85, aL85, aI86, wI86, aL86, aI87, wI87, aL87, aI88, wI88, aL88, aI89, wI89, aL89, aI90, wI90, aL90, aI91, wI91, aL91, aI92, wI92, aL92, aI93, wI93, aL93, aI94, wI94, aL94, aZ95, wZ95, aL95, aI96, wI96, aL96, aJ97, wJ97, aL97, hF, hF1, bI_0', e174, e0, nI_eq0 (show kn E an pl o < 2147483648 by omega)])
          by_cases c : kn E an pl o = 0
          · rw [if_pos c, if_pos c, c]
          · rw [if_neg c, if_neg c]
        · have yw := hw.1 rfl
          rw [if_pos yw] at ho'
          subst ho'
          have e0 : (hI (sI h 59 0 (nI 0)) 59 0) = nI 0 := by rw [hI_sI, if_pos ⟨rfl, rfl⟩]
          have hF1 : Fix (sI h 59 0 (nI 0)) := fx_sI hF (by omega)
          rw [if_pos (kw rfl)]
          rw [b_173_48]
          simp only [bnd_e, grd_e, grd0, grd1, Option.bind_some, Option.isSome_some, gQ30_0, gQ30_1, gQ30_2, gQ30_3, gQ30_4, gQ30_5, gQ30_6, gQ30_7, gQ30_8, gQ30_9, gQ31_0, gQ33_0, gQ33_1, gQ36_0, gQ36_1, gQ39_0, gQ39_3, gQ39_4, gQ39_6, gQ39_8, gQ39_10, gQ39_11, gQ39_12, gQ48_0, gQ48_1, gQ51_2, gQ53_0, gQ53_1, gQ60_0, gQ60_1, gQ60_2, gQ64_1, gQ64_14, gQ64_15, gQ64_16, gQ64_17, gQ64_18, gQ64_19, gQ64_20, gQ64_21, gQ64_24, gQ64_25, gQ64_27, gQ64_28, gQ64_29, gQ64_30, gQ64_31, gQ64_34, gQ64_35, gQ64_36, gQ64_39, gQ64_40, gQ64_41, gQ64_43, gQ64_44, gQ64_48, gQ64_50, gQ64_51, gQ64_52, gQ64_53, gQ64_54, gQ64_58, gQ64_59, gI30, gJ30, pI30, pJ30, rC30, gI31, gJ31, pI31, pJ31, rC31, gI33, gJ33, pI33, pJ33, rC33, gI36, gJ36, pI36, pJ36, rC36, gI39, gJ39, pI39, pJ39, rC39, gI48, gJ48, pI48, pJ48, rC48, gI51, gJ51, pI51, pJ51, rC51, gI53, gJ53, pI53, pJ53, rC53, gI60, gJ60, pI60, pJ60, rC60, gI64, gJ64, pI64, pJ64, rC64, hF, bI_0', Bool.true_eq_false, if_false]
          rw [b_173_60, b_173_70]
          simp (disch := first | assumption | (repeat' (first | apply fx_sI | apply fx_sJ | assumption | omega))) only [bnd_e, grd_e, grd0, grd1, Option.bind_some, Option.isSome_some, gQ30_0, gQ30_1, gQ30_2, gQ30_3, gQ30_4, gQ30_5, gQ30_6, gQ30_7, gQ30_8, gQ30_9, gQ31_0, gQ33_0, gQ33_1, gQ36_0, gQ36_1, gQ39_0, gQ39_3, gQ39_4, gQ39_6, gQ39_8, gQ39_10, gQ39_11, gQ39_12, gQ48_0, gQ48_1, gQ51_2, gQ53_0, gQ53_1, gQ60_0, gQ60_1, gQ60_2, gQ64_1, gQ64_14, gQ64_15, gQ64_16, gQ64_17, gQ64_18, gQ64_19, gQ64_20, gQ64_21, gQ64_24, gQ64_25, gQ64_27, gQ64_28, gQ64_29, gQ64_30, gQ64_31, gQ64_34, gQ64_35, gQ64_36, gQ64_39, gQ64_40, gQ64_41, gQ64_43, gQ64_44, gQ64_48, gQ64_50, gQ64_51, gQ64_52, gQ64_53, gQ64_54, gQ64_58, gQ64_59, gI30, gJ30, pI30, pJ30, rC30, gI31, gJ31, pI31, pJ31, rC31, gI33, gJ33, pI33, pJ33, rC33, gI36, gJ36, pI36, pJ36, rC36, gI39, gJ39, pI39, pJ39, rC39, gI48, gJ48, pI48, pJ48, rC48, gI51, gJ51, pI51, pJ51, rC51, gI53, gJ53, pI53, pJ53, rC53, gI60, gJ60, pI60, pJ60, rC60, gI64, gJ64, pI64, pJ64, rC64, aI27, aL27, aI28, aL28, aI32, wI32, aL32, aI34, wI34, aL34, aI35, wI35, aL35, aI37, wI37, aL37, aI38, wI38, aL38, aJ40, wJ40, aL40, aI41, wI41, aL41, aI42, wI42, aL42, aI43, wI43, aL43, aI44, wI44, aL44, aI45, wI45, aL45, aI46, wI46, aL46, aI47, wI47, aL47, aI49, wI49, aL49, aI50, wI50, aL50, aI52, wI52, aL52, aI54, wI54, aL54, aI55, wI55, aL55, aL56, aL57, aL58, aI59, wI59, aL59, aI61, wI61, aL61, aL62, aI63, wI63, aL63, aI65, wI65, aL65, aI66, wI66, aL66, aI67, wI67, aL67, aI68, wI68, aL68, aI69, wI69, aL69, aJ70, wJ70, aL70, aJ71, wJ71, aL71, aJ72, wJ72, aL72, aZ73, wZ73, aL73, aI74, wI74, aL74, aI75, wI75, aL75, aJ76, wJ76, aL76, aJ77, wJ77, aL77, aI78, wI78, aL78, aI79, wI79, aL79, aI80, wI80, aL80, aI81, wI81, aL81, aI82, wI82, aL82, aI83, wI83, aL83, aI84, wI84, aL84, aI85, wI85, aL85, aI86, wI86, aL86, aI87, wI87, aL87, aI88, wI88, aL88, aI89, wI89, aL89, aI90, wI90, aL90, aI91, wI91, aL91, aI92, wI92, aL92, aI93, wI93, aL93, aI94, wI94, aL94, aZ95, wZ95, aL95, aI96, wI96, aL96, aJ97, wJ97, aL97, hF, hF1, e0, nI00, if_true]
          rw [b_173_82, if_neg (by decide), b_173_88]
          rfl
      have k0 : (nI k ≤ 0) = (k = 0) := by
        apply propext
        rw [← nI_0, nI_leI (by omega) (by omega)]
        omega
      rw [b_173_30]
      by_cases c : k = 0
      · rw [if_pos (by rw [k0]; exact c), b_173_47]
        exact two false ⟨fun z => Bool.noConfusion z, fun z => absurd z.1 (by omega)⟩
      · rw [if_neg (by rw [k0]; exact c), b_173_35]
        simp only [rC_e q0 q7, grd_e, Option.bind_some, c_96 hF hs hS hW hV ho, bI_0']
        cases hq : soB E an o
        · rw [if_pos rfl, b_173_47]
          rw [hq] at two
          exact two false ⟨fun z => Bool.noConfusion z, fun z => Bool.noConfusion z.2⟩
        · rw [if_neg (by decide), b_173_43]
          rw [hq] at two
          exact two true ⟨fun _ => ⟨by omega, rfl⟩, fun _ => rfl⟩
    rw [show r + 1 + 1 + m = r + 1 + m + 1 by omega, fst]
    unfold dayL
    rw [ho']
    by_cases c0 : kn E an pl o' = 0
    · rw [if_pos c0, if_pos c0]
      have hF1 : Fix (sI h 59 0 (nI 0)) := fx_sI hF (by omega)
      have s60 : s < 50 := hs2
      have hS1 : ScR τ (sI h 59 0 (nI 0)) s E an pl := ScR.cg (g := sI h 59 0 (nI 0)) hS rfl rfl rfl (tag_sI hT (by omega)) (fun e _ => by rw [hI_sI, if_neg (by omega)]) (fun e he => by rw [hI_sI, if_neg (by omega)]; exact (hS.2.2.1 e he).2) (by rw [hI_sI, if_neg (by omega)]; exact hS.2.2.2)
      obtain ⟨k1, a1, a2, a3⟩ := c_94 hF1 hT hs hS1 hW hV ho2 c0
      have hF2 := a2.fix hF1 (by intro z hz; simp only [List.mem_cons, List.not_mem_nil, or_false] at hz; omega)
      have v1 : hI k1 59 1 = nI sp := by rw [a2.I1 (by simp only [List.mem_cons, List.not_mem_nil, or_false]; omega) (by simp only [List.mem_cons, List.not_mem_nil, or_false]; omega), hI_sI, if_neg (by omega)]; exact r1
      have hF3 : Fix (sI k1 59 1 (nI (sp + 1))) := fx_sI hF2 (by omega)
      have hS3 : ScR τ (sI k1 59 1 (nI (sp + 1))) s E (pa an o') (pp pl o') := ScR.cg (g := sI k1 59 1 (nI (sp + 1))) a3 rfl rfl rfl (tag_sI hT (by omega)) (fun e _ => by rw [hI_sI, if_neg (by omega)]) (fun e he => by rw [hI_sI, if_neg (by omega)]; exact (a3.2.2.1 e he).2) (by rw [hI_sI, if_neg (by omega)]; exact a3.2.2.2)
      have v3 : hI (sI k1 59 1 (nI (sp + 1))) 59 3 = nI sh := by rw [hI_sI, if_neg (by omega), a2.I1 (by simp only [List.mem_cons, List.not_mem_nil, or_false]; omega) (by simp only [List.mem_cons, List.not_mem_nil, or_false]; omega), hI_sI, if_neg (by omega)]; exact r3
      obtain ⟨k2, b1, b2, b3⟩ := c_95 (o := o') hF3 hT hs hS3 hW hV ho2 c0
      have hF4 := b2.fix hF3 (by intro z hz; simp only [List.mem_cons, List.not_mem_nil, or_false] at hz; omega)
      have hV4 := hV.mn hW ho2 c0
      have hF5 : Fix (sI k2 59 3 (nI (sh + mnN E an pl o'))) := fx_sI hF4 (by omega)
      have hS5 : ScR τ (sI k2 59 3 (nI (sh + mnN E an pl o'))) s E (mnA E an pl o') (pp pl o') := ScR.cg (g := sI k2 59 3 (nI (sh + mnN E an pl o'))) b3 rfl rfl rfl (tag_sI hT (by omega)) (fun e _ => by rw [hI_sI, if_neg (by omega)]) (fun e he => by rw [hI_sI, if_neg (by omega)]; exact (b3.2.2.1 e he).2) (by rw [hI_sI, if_neg (by omega)]; exact b3.2.2.2)
      have hR5 : RpC (sI k2 59 3 (nI (sh + mnN E an pl o'))) 0 (sp + 1) (sh + mnN E an pl o') := by
        refine ⟨?_, ?_, ?_⟩
        · rw [hI_sI, if_neg (by omega), b2.I1 (by simp only [List.mem_cons, List.not_mem_nil, or_false]; omega) (by simp only [List.mem_cons, List.not_mem_nil, or_false]; omega), hI_sI, if_neg (by omega), a2.I1 (by simp only [List.mem_cons, List.not_mem_nil, or_false]; omega) (by simp only [List.mem_cons, List.not_mem_nil, or_false]; omega), hI_sI, if_pos ⟨rfl, rfl⟩]
        · rw [hI_sI, if_neg (by omega), b2.I1 (by simp only [List.mem_cons, List.not_mem_nil, or_false]; omega) (by simp only [List.mem_cons, List.not_mem_nil, or_false]; omega), hI_sI, if_pos ⟨rfl, rfl⟩]
        · rw [hI_sI, if_pos ⟨rfl, rfl⟩]
      obtain ⟨g, c1, c2, c3, c4, c5⟩ := ih (k + 1) M m _ _ _ (sp + 1) (sh + mnN E an pl o') hF5 hS5 hV4 (by omega) hM hR5 (fun z => by omega)
      have z1 : Fz [s + 2, 4000000 + s, 59] h (sI h 59 0 (nI 0)) := Fz.sI Fz.rfl' (Or.inl (by simp))
      have z2 : Fz [s + 2, 4000000 + s, 59] h k1 := z1.then (a2.wid (by intro z hz; simp only [List.mem_cons, List.not_mem_nil, or_false] at hz ⊢; omega))
      have z3 : Fz [s + 2, 4000000 + s, 59] h (sI k1 59 1 (nI (sp + 1))) := Fz.sI z2 (Or.inl (by simp))
      have z4 : Fz [s + 2, 4000000 + s, 59] h k2 := z3.then (b2.wid (by intro z hz; simp only [List.mem_cons, List.not_mem_nil, or_false] at hz ⊢; omega))
      have z5 : Fz [s + 2, 4000000 + s, 59] h (sI k2 59 3 (nI (sh + mnN E an pl o'))) := Fz.sI z4 (Or.inl (by simp))
      refine ⟨g, ?_, z5.then c2, c3, c4, c5⟩
      rw [b_173_93]
      simp (disch := first | assumption | (repeat' (first | apply fx_sI | apply fx_sJ | assumption | omega))) only [rC_e (spF hF1 hs).1 q7, rC_e (spF hF3 hs).1 q7, grd_e, Option.bind_some, a1, bnd_e, grd_e, grd0, grd1, Option.bind_some, Option.isSome_some, gQ30_0, gQ30_1, gQ30_2, gQ30_3, gQ30_4, gQ30_5, gQ30_6, gQ30_7, gQ30_8, gQ30_9, gQ31_0, gQ33_0, gQ33_1, gQ36_0, gQ36_1, gQ39_0, gQ39_3, gQ39_4, gQ39_6, gQ39_8, gQ39_10, gQ39_11, gQ39_12, gQ48_0, gQ48_1, gQ51_2, gQ53_0, gQ53_1, gQ60_0, gQ60_1, gQ60_2, gQ64_1, gQ64_14, gQ64_15, gQ64_16, gQ64_17, gQ64_18, gQ64_19, gQ64_20, gQ64_21, gQ64_24, gQ64_25, gQ64_27, gQ64_28, gQ64_29, gQ64_30, gQ64_31, gQ64_34, gQ64_35, gQ64_36, gQ64_39, gQ64_40, gQ64_41, gQ64_43, gQ64_44, gQ64_48, gQ64_50, gQ64_51, gQ64_52, gQ64_53, gQ64_54, gQ64_58, gQ64_59, gI30, gJ30, pI30, pJ30, rC30, gI31, gJ31, pI31, pJ31, rC31, gI33, gJ33, pI33, pJ33, rC33, gI36, gJ36, pI36, pJ36, rC36, gI39, gJ39, pI39, pJ39, rC39, gI48, gJ48, pI48, pJ48, rC48, gI51, gJ51, pI51, pJ51, rC51, gI53, gJ53, pI53, pJ53, rC53, gI60, gJ60, pI60, pJ60, rC60, gI64, gJ64, pI64, pJ64, rC64, aI27, aL27, aI28, aL28, aI32, wI32, aL32, aI34, wI34, aL34, aI35, wI35, aL35, aI37, wI37, aL37, aI38, wI38, aL38, aJ40, wJ40, aL40, aI41, wI41, aL41, aI42, wI42, aL42, aI43, wI43, aL43, aI44, wI44, aL44, aI45, wI45, aL45, aI46, wI46, aL46, aI47, wI47, aL47, aI49, wI49, aL49, aI50, wI50, aL50, aI52, wI52, aL52, aI54, wI54, aL54, aI55, wI55, aL55, aL56, aL57, aL58, aI59, wI59, aL59, aI61, wI61, aL61, aL62, aI63, wI63, aL63, aI65, wI65, aL65, aI66, wI66, aL66, aI67, wI67, aL67, aI68, wI68, aL68, aI69, wI69, aL69, aJ70, wJ70, aL70, aJ71, wJ71, aL71, aJ72, wJ72, aL72, aZ73, wZ73, aL73, aI74, wI74, aL74, aI75, wI75, aL75, aJ76, wJ76, aL76, aJ77, wJ77, aL77, aI78, wI78, aL78, aI79, wI79, aL79, aI80, wI80, aL80, aI81, wI81, aL81, aI82, wI82, aL82, aI83, wI83, aL83, aI84, wI84, aL84, aI85, wI85, aL85, aI86, wI86, aL86, aI87, wI87, aL87, aI88, wI88, aL88, aI89, wI89, aL89, aI90, wI90, aL90, aI91, wI91, aL91, aI92, wI92, aL92, aI93, wI93, aL93, aI94, wI94, aL94, aZ95, wZ95, aL95, aI96, wI96, aL96, aJ97, wJ97, aL97, hF2, hF3, hF4, v1, v3, nI_add, b1, bnd_e]
      exact c1
    · rw [if_neg c0, if_neg c0]
      refine ⟨sI h 59 0 (nI (kn E an pl o')), ?_, Fz.sI Fz.rfl' (Or.inl (by simp)), ScR.cg (g := sI h 59 0 (nI (kn E an pl o'))) hS rfl rfl rfl (tag_sI hT (by omega)) (fun e _ => by rw [hI_sI, if_neg (by omega)]) (fun e he => by rw [hI_sI, if_neg (by omega)]; exact (hS.2.2.1 e he).2) (by rw [hI_sI, if_neg (by omega)]; exact hS.2.2.2), hV, ?_⟩
      · show _ = some (bI (decide (kn E an pl o' = 0)), _)
        rw [bI_F c0]
      · exact ⟨by rw [hI_sI, if_pos ⟨rfl, rfl⟩], by rw [hI_sI, if_neg (by omega)]; exact r1, by rw [hI_sI, if_neg (by omega)]; exact r3⟩
/-- the class's act of a day -/
theorem s_173 {an : Nat → Nat} {pl sp sh o t : Nat} {h : Hp} (hF : Fix h) (hT : TG τ) (hs : SP s) (hs2 : s < 50) (hS : ScR τ h s E an pl) (hW : WF E) (hV : VA E an pl) (ho : o < 5 + 2 * E 2) (ht : t < 1000) (hR : RpC h 0 sp sh) :
    ∃ g, f_173 (some 30) (some s) (mI o) (nI t) h = some (bI (decide ((actD E o t an pl sp sh).1 = 0)), g) ∧ Fz [s + 2, 4000000 + s, 59] h g ∧ ScR τ g s E (actD E o t an pl sp sh).2.1 (actD E o t an pl sp sh).2.2.1 ∧ VA E (actD E o t an pl sp sh).2.1 (actD E o t an pl sp sh).2.2.1 ∧ RpC g (actD E o t an pl sp sh).1 (actD E o t an pl sp sh).2.2.2.1 (actD E o t an pl sp sh).2.2.2.2 := by
  obtain ⟨q0, q1, q2, q3, q4, q5, q6, q7⟩ := spF hF hs
  have w2 := hW.2.2.1
  have c4 : (nI 4 ≤ mI o) = (5 ≤ o) := by
    apply propext
    rw [mI_z, nz 4, zI_le (by omega) (by omega) (by omega) (by omega)]
    omega
  unfold actD
  by_cases c5 : o < 5
  · rw [if_pos c5]
    obtain ⟨m, hm⟩ := FU_ge (t + 1) (by omega)
    obtain ⟨g, a1, a2⟩ := l_173 hT hs hs2 hW ho t 0 t m h an pl sp sh hF hS hV (by omega) ht hR (fun _ => decide_eq_false (by omega))
    refine ⟨g, ?_, a2⟩
    rw [f_173, b_173_0]
    simp only [c4, show ¬ 5 ≤ o by omega, if_false]
    rw [b_173_5, b_173_18, bnd_e, hm, a1]
  · rw [if_neg c5]
    have hd : dA (o - 1) < E 2 := by unfold dA; omega
    have lp := lk_pos (A := o - 1) hV hd
    have lb := lk_bd (E := E) (A := o - 1) (hV.1 _ hd)
    have e97 := s_97 (A := o - 1) hF hs hS hW (by omega) hd
    rw [← mI_pos (show o ≠ 0 by omega)] at e97
    have mx : (if nI 1 < zI (lkZ E an (o - 1)) then zI (lkZ E an (o - 1)) else nI 1) = nI (max 1 (lkZ E an (o - 1)).toNat) := by
      rw [zI_toNat lp]
      have e : (nI 1 < nI (lkZ E an (o - 1)).toNat) = (1 < (lkZ E an (o - 1)).toNat) := propext (nI_ltI (by omega) (by omega))
      by_cases c : 1 < (lkZ E an (o - 1)).toNat
      · rw [if_pos (by rw [e]; exact c)]; congr 1; omega
      · rw [if_neg (by rw [e]; exact c)]; congr 1; omega
    have st : f_173 (some 30) (some s) (mI o) (nI t) h = l_173_23 FU (some 30) (some s) (mI o) (nI (max 1 (lkZ E an (o - 1)).toNat)) (nI 0) h := by
      rw [f_173, b_173_0]
      simp only [c4, show 5 ≤ o by omega, if_true]
      rw [b_173_9]
      simp only [rC_e q0 q7, grd_e, Option.bind_some, e97, mx]
      rw [b_173_18, bnd_e]
    rw [st]
    by_cases cl : lkZ E an (o - 1) ≤ 0
    · rw [if_pos cl]
      have so : soB E an o = true := decide_eq_true ⟨by omega, by omega⟩
      -- one minute that knocks
      have kv : (if 5 < kn E an pl o ∧ soB E an o = true then 5 else kn E an pl o) = (if pl = 0 then 1 else if nearB E an pl (dA (o - 1)) = true then 5 else 4) := by
        rw [so]
        unfold kn knkK
        rw [if_neg (show ¬ o = 0 by omega)]
        by_cases p0 : pl = 0
        · rw [if_pos p0, if_pos p0]; simp
        · rw [if_neg p0, if_neg p0, if_neg (show ¬ o - 1 < 4 by omega)]
          cases nearB E an pl (dA (o - 1))
          · simp
          · simp only [if_true]
            have k5 : 5 ≤ swK E an pl (dA (o - 1)) (nxA an (o - 1)) := by
              have h3 := hV.1 _ hd
              have lz : lkZ E an (o - 1) = 0 := by omega
              unfold swK
              by_cases cz : nxA an (o - 1) < 0 ∨ 3 ≤ nxA an (o - 1)
              · rw [if_pos cz]; omega
              · rw [if_neg cz]
                have h2 : canB E (dA (o - 1)) (dHg E (dA (o - 1))) (nxA an (o - 1)).toNat = false := by
                  unfold lkZ at lz
                  unfold nxA at cz ⊢
                  by_cases o2 : (o - 1) % 2 = 1
                  · rw [if_pos o2] at lz
                    rw [if_neg (by omega)] at cz
                    omega
                  · rw [if_neg o2] at lz
                    rw [if_pos (by omega)] at cz ⊢
                    cases hc2 : canB E (dA (o - 1)) (dHg E (dA (o - 1))) 2
                    · rw [hc2, if_neg (by decide)] at lz
                      rw [show ((an (dA (o - 1)) : Int) + 1).toNat = 2 by omega]
                      exact hc2
                    · rw [hc2, if_pos rfl] at lz
                      omega
                unfold hndK
                rw [h2, if_pos rfl]
                omega
            by_cases c6 : 5 < swK E an pl (dA (o - 1)) (nxA an (o - 1))
            · rw [if_pos ⟨c6, trivial⟩]
            · rw [if_neg (fun z => c6 z.1)]; omega
      have vn : (if pl = 0 then 1 else if nearB E an pl (dA (o - 1)) = true then 5 else 4) ≠ 0 ∧ (if pl = 0 then 1 else if nearB E an pl (dA (o - 1)) = true then 5 else 4) < 10 := by
        repeat' split
        all_goals omega
      generalize (if pl = 0 then 1 else if nearB E an pl (dA (o - 1)) = true then 5 else 4) = V at kv vn
      have e174 := s_174 (q := some 30) hF hs hS hW hV ho
      rw [kv] at e174
      have e0 : (hI (sI h 59 0 (nI V)) 59 0) = nI V := by rw [hI_sI, if_pos ⟨rfl, rfl⟩]
      have hF1 : Fix (sI h 59 0 (nI V)) := fx_sI hF (by omega)
      have M1 : max 1 (lkZ E an (o - 1)).toNat = 1 := by omega
      have k0 : nI 0 ≤ 0 := by decide
      have k1 : ¬ nI 1 ≤ nI 0 := by decide
      obtain ⟨m, hm⟩ := FU_ge 1 (by omega)
      have hm : FU = m + 1 := by omega
      refine ⟨sI h 59 0 (nI V), ?_, Fz.sI Fz.rfl' (Or.inl (by simp)), ScR.cg (g := sI h 59 0 (nI V)) hS rfl rfl rfl (tag_sI hT (by omega)) (fun e _ => by rw [hI_sI, if_neg (by omega)]) (fun e he => by rw [hI_sI, if_neg (by omega)]; exact (hS.2.2.1 e he).2) (by rw [hI_sI, if_neg (by omega)]; exact hS.2.2.2), hV, ⟨by rw [hI_sI, if_pos ⟨rfl, rfl⟩], by rw [hI_sI, if_neg (by omega)]; exact hR.2.1, by rw [hI_sI, if_neg (by omega)]; exact hR.2.2⟩⟩
      rw [M1, hm, l_173_23, b_173_23, if_neg k1, b_173_30, if_pos k0, b_173_47, b_173_48]
      simp only [bnd_e, grd_e, grd0, grd1, Option.bind_some, Option.isSome_some, gQ30_0, gQ30_1, gQ30_2, gQ30_3, gQ30_4, gQ30_5, gQ30_6, gQ30_7, gQ30_8, gQ30_9, gQ31_0, gQ33_0, gQ33_1, gQ36_0, gQ36_1, gQ39_0, gQ39_3, gQ39_4, gQ39_6, gQ39_8, gQ39_10, gQ39_11, gQ39_12, gQ48_0, gQ48_1, gQ51_2, gQ53_0, gQ53_1, gQ60_0, gQ60_1, gQ60_2, gQ64_1, gQ64_14, gQ64_15, gQ64_16, gQ64_17, gQ64_18, gQ64_19, gQ64_20, gQ64_21, gQ64_24, gQ64_25, gQ64_27, gQ64_28, gQ64_29, gQ64_30, gQ64_31, gQ64_34, gQ64_35, gQ64_36, gQ64_39, gQ64_40, gQ64_41, gQ64_43, gQ64_44, gQ64_48, gQ64_50, gQ64_51, gQ64_52, gQ64_53, gQ64_54, gQ64_58, gQ64_59, gI30, gJ30, pI30, pJ30, rC30, gI31, gJ31, pI31, pJ31, rC31, gI33, gJ33, pI33, pJ33, rC33, gI36, gJ36, pI36, pJ36, rC36, gI39, gJ39, pI39, pJ39, rC39, gI48, gJ48, pI48, pJ48, rC48, gI51, gJ51, pI51, pJ51, rC51, gI53, gJ53, pI53, pJ53, rC53, gI60, gJ60, pI60, pJ60, rC60, gI64, gJ64, pI64, pJ64, rC64, hF, nI00, if_true]
      rw [b_173_64]
      simp only [bnd_e, grd_e, grd0, grd1, Option.bind_some, Option.isSome_some, gQ30_0, gQ30_1, gQ30_2, gQ30_3, gQ30_4, gQ30_5, gQ30_6, gQ30_7, gQ30_8, gQ30_9, gQ31_0, gQ33_0, gQ33_1, gQ36_0, gQ36_1, gQ39_0, gQ39_3, gQ39_4, gQ39_6, gQ39_8, gQ39_10, gQ39_11, gQ39_12, gQ48_0, gQ48_1, gQ51_2, gQ53_0, gQ53_1, gQ60_0, gQ60_1, gQ60_2, gQ64_1, gQ64_14, gQ64_15, gQ64_16, gQ64_17, gQ64_18, gQ64_19, gQ64_20, gQ64_21, gQ64_24, gQ64_25, gQ64_27, gQ64_28, gQ64_29, gQ64_30, gQ64_31, gQ64_34, gQ64_35, gQ64_36, gQ64_39, gQ64_40, gQ64_41, gQ64_43, gQ64_44, gQ64_48, gQ64_50, gQ64_51, gQ64_52, gQ64_53, gQ64_54, gQ64_58, gQ64_59, gI30, gJ30, pI30, pJ30, rC30, gI31, gJ31, pI31, pJ31, rC31, gI33, gJ33, pI33, pJ33, rC33, gI36, gJ36, pI36, pJ36, rC36, gI39, gJ39, pI39, pJ39, rC39, gI48, gJ48, pI48, pJ48, rC48, gI51, gJ51, pI51, pJ51, rC51, gI53, gJ53, pI53, pJ53, rC53, gI60, gJ60, pI60, pJ60, rC60, gI64, gJ64, pI64, pJ64, rC64, hF, e174]
      rw [b_173_70]
      simp (disch := first | assumption | (repeat' (first | apply fx_sI | apply fx_sJ | assumption | omega))) only [bnd_e, grd_e, grd0, grd1, Option.bind_some, Option.isSome_some, gQ30_0, gQ30_1, gQ30_2, gQ30_3, gQ30_4, gQ30_5, gQ30_6, gQ30_7, gQ30_8, gQ30_9, gQ31_0, gQ33_0, gQ33_1, gQ36_0, gQ36_1, gQ39_0, gQ39_3, gQ39_4, gQ39_6, gQ39_8, gQ39_10, gQ39_11, gQ39_12, gQ48_0, gQ48_1, gQ51_2, gQ53_0, gQ53_1, gQ60_0, gQ60_1, gQ60_2, gQ64_1, gQ64_14, gQ64_15, gQ64_16, gQ64_17, gQ64_18, gQ64_19, gQ64_20, gQ64_21, gQ64_24, gQ64_25, gQ64_27, gQ64_28, gQ64_29, gQ64_30, gQ64_31, gQ64_34, gQ64_35, gQ64_36, gQ64_39, gQ64_40, gQ64_41, gQ64_43, gQ64_44, gQ64_48, gQ64_50, gQ64_51, gQ64_52, gQ64_53, gQ64_54, gQ64_58, gQ64_59, gI30, gJ30, pI30, pJ30, rC30, gI31, gJ31, pI31, pJ31, rC31, gI33, gJ33, pI33, pJ33, rC33, gI36, gJ36, pI36, pJ36, rC36, gI39, gJ39, pI39, pJ39, rC39, gI48, gJ48, pI48, pJ48, rC48, gI51, gJ51, pI51, pJ51, rC51, gI53, gJ53, pI53, pJ53, rC53, gI60, gJ60, pI60, pJ60, rC60, gI64, gJ64, pI64, pJ64, rC64, aI27, aL27, aI28, aL28, aI32, wI32, aL32, aI34, wI34, aL34, aI35, wI35, aL35, aI37, wI37, aL37, aI38, wI38, aL38, aJ40, wJ40, aL40, aI41, wI41, aL41, aI42, wI42, aL42, aI43, wI43, aL43, aI44, wI44, aL44, aI45, wI45, aL45, aI46, wI46, aL46, aI47, wI47, aL47, aI49, wI49, aL49, aI50, wI50, aL50, aI52, wI52, aL52, aI54, wI54, aL54, aI55, wI55, aL55, aL56, aL57, aL58, aI59, wI59, aL59, aI61, wI61, aL61, aL62, aI63, wI63, aL63, aI65, wI65, aL65, aI66, wI66, aL66, aI67, wI67, aL67, aI68, wI68, aL68, aI69, wI69, aL69, aJ70, wJ70, aL70, aJ71, wJ71, aL71, aJ72, wJ72, aL72, aZ73, wZ73, aL73, aI74, wI74, aL74, aI75, wI75, aL75, aJ76, wJ76, aL76, aJ77, wJ77, aL77, aI78, wI78, aL78, aI79, wI79, aL79, aI80, wI80, aL80, aI81, wI81, aL81, aI82, wI82, aL82, aI83, wI83, aL83, aI84, wI84, aL84, aI85, wI85, aL85, aI86, wI86, aL86, aI87, wI87, aL87, aI88, wI88, aL88, aI89, wI89, aL89, aI90, wI90, aL90, aI91, wI91, aL91, aI92, wI92, aL92, aI93, wI93, aL93, aI94, wI94, aL94, aZ95, wZ95, aL95, aI96, wI96, aL96, aJ97, wJ97, aL97, hF, hF1, e0, nI_eq0 (show V < 2147483648 by omega), vn.1, if_false]
      rw [b_173_80]
      rfl
    · rw [if_neg cl]
      have M1 : max 1 (lkZ E an (o - 1)).toNat = (lkZ E an (o - 1)).toNat := by omega
      obtain ⟨m, hm⟩ := FU_ge ((lkZ E an (o - 1)).toNat + 1) (by omega)
      obtain ⟨g, a1, a2⟩ := l_173 hT hs hs2 hW ho (lkZ E an (o - 1)).toNat 0 (lkZ E an (o - 1)).toNat m h an pl sp sh hF hS hV (by omega) (by omega) hR (fun _ => decide_eq_false (fun z => by omega))
      refine ⟨g, ?_, a2⟩
      rw [M1, hm, a1]
end ACT
