/-! searching minute by minute: what both do, over what was seen, the queue and its length -/
section LAYST
variable {E : Nat → Nat}
theorem l_276 (h10 : E 2 ≤ 10) {st : Nat} (hst : st < 24300) : ∀ r i m h, Fix h → NowE h E → i + r = E 2 → (∀ d, d < i → hI h 87 d = nI (dcn E st d)) → (∀ d, E 2 ≤ d → d < 10 → hI h 87 d = nI (dcn E st d)) →
    ∃ g, l_276_15 (r + 1 + m) (some 64) (nI (st / 100 / 3 ^ i)) (nI i) h = b_276_42 (some 64) g ∧ Fz [87] h g ∧ ∀ d, d < 10 → hI g 87 d = nI (dcn E st d) := by
  intro r
  induction r with
  | zero =>
    intro i m h hF hE hi h1 h2
    obtain rfl : i = E 2 := by omega
    refine ⟨h, ?_, Fz.rfl', fun d hd => ?_⟩
    · rw [show 0 + 1 + m = m + 1 by omega, l_276_15, b_276_15]
      simp (disch := first | assumption | (repeat' (first | apply fx_sI | apply fx_sJ | assumption | omega))) only [bnd_e, grd_e, grd0, grd1, Option.bind_some, Option.isSome_some, gQ30_0, gQ30_1, gQ30_2, gQ30_3, gQ30_4, gQ30_5, gQ30_6, gQ30_7, gQ30_8, gQ30_9, gQ31_0, gQ33_0, gQ33_1, gQ36_0, gQ36_1, gQ39_0, gQ39_3, gQ39_4, gQ39_6, gQ39_8, gQ39_10, gQ39_11, gQ39_12, gQ48_0, gQ48_1, gQ51_2, gQ53_0, gQ53_1, gQ60_0, gQ60_1, gQ60_2, gQ64_1, gQ64_14, gQ64_15, gQ64_16, gQ64_17, gQ64_18, gQ64_19, gQ64_20, gQ64_21, gQ64_24, gQ64_25, gQ64_27, gQ64_28, gQ64_29, gQ64_30, gQ64_31, gQ64_34, gQ64_35, gQ64_36, gQ64_39, gQ64_40, gQ64_41, gQ64_43, gQ64_44, gQ64_48, gQ64_50, gQ64_51, gQ64_52, gQ64_53, gQ64_54, gQ64_58, gQ64_59, gI30, gJ30, pI30, pJ30, rC30, gI31, gJ31, pI31, pJ31, rC31, gI33, gJ33, pI33, pJ33, rC33, gI36, gJ36, pI36, pJ36, rC36, gI39, gJ39, pI39, pJ39, rC39, gI48, gJ48, pI48, pJ48, rC48, gI51, gJ51, pI51, pJ51, rC51, gI53, gJ53, pI53, pJ53, rC53, gI60, gJ60, pI60, pJ60, rC60, gI64, gJ64, pI64, pJ64, rC64, hF, s_203 hF hE, nI_leI, Nat.le_refl, if_true]
    · by_cases c : d < E 2
      · exact h1 d c
      · exact h2 d (by omega) hd
  | succ r ih =>
    intro i m h hF hE hi h1 h2
    have lt : st / 100 / 3 ^ i ≤ st / 100 := Nat.div_le_self _ _
    have hv : dcn E st i = st / 100 / 3 ^ i % 3 := by unfold dcn; rw [if_pos (by omega)]
    obtain ⟨g, a1, a2, a3⟩ := ih (i + 1) m (sI h 87 i (nI (st / 100 / 3 ^ i % 3))) (fx_sI hF (by omega)) (hE.cg (by funext j; rw [hI_sI, if_neg (by omega)])) (by omega) (fun d hd => by
      rw [hI_sI]
      by_cases c : d = i
      · rw [if_pos ⟨rfl, c⟩, c, hv]
      · rw [if_neg (fun z => c z.2)]; exact h1 d (by omega)) (fun d hd hd' => by rw [hI_sI, if_neg (by omega)]; exact h2 d hd hd')
    refine ⟨g, ?_, Fz.then (Fz.sI Fz.rfl' (Or.inl (by simp))) a2, a3⟩
    rw [show r + 1 + 1 + m = (r + 1 + m) + 1 by omega, l_276_15, b_276_15]
    simp (disch := first | assumption | (repeat' (first | apply fx_sI | apply fx_sJ | assumption | omega))) only [bnd_e, grd_e, grd0, grd1, Option.bind_some, Option.isSome_some, gQ30_0, gQ30_1, gQ30_2, gQ30_3, gQ30_4, gQ30_5, gQ30_6, gQ30_7, gQ30_8, gQ30_9, gQ31_0, gQ33_0, gQ33_1, gQ36_0, gQ36_1, gQ39_0, gQ39_3, gQ39_4, gQ39_6, gQ39_8, gQ39_10, gQ39_11, gQ39_12, gQ48_0, gQ48_1, gQ51_2, gQ53_0, gQ53_1, gQ60_0, gQ60_1, gQ60_2, gQ64_1, gQ64_14, gQ64_15, gQ64_16, gQ64_17, gQ64_18, gQ64_19, gQ64_20, gQ64_21, gQ64_24, gQ64_25, gQ64_27, gQ64_28, gQ64_29, gQ64_30, gQ64_31, gQ64_34, gQ64_35, gQ64_36, gQ64_39, gQ64_40, gQ64_41, gQ64_43, gQ64_44, gQ64_48, gQ64_50, gQ64_51, gQ64_52, gQ64_53, gQ64_54, gQ64_58, gQ64_59, gI30, gJ30, pI30, pJ30, rC30, gI31, gJ31, pI31, pJ31, rC31, gI33, gJ33, pI33, pJ33, rC33, gI36, gJ36, pI36, pJ36, rC36, gI39, gJ39, pI39, pJ39, rC39, gI48, gJ48, pI48, pJ48, rC48, gI51, gJ51, pI51, pJ51, rC51, gI53, gJ53, pI53, pJ53, rC53, gI60, gJ60, pI60, pJ60, rC60, gI64, gJ64, pI64, pJ64, rC64, hF, s_203 hF hE, nI_leI, show ¬ E 2 ≤ i by omega, if_false]
    rw [b_276_23]
    simp (disch := first | assumption | (repeat' (first | apply fx_sI | apply fx_sJ | assumption | omega))) only [bnd_e, grd_e, grd0, grd1, Option.bind_some, Option.isSome_some, gQ30_0, gQ30_1, gQ30_2, gQ30_3, gQ30_4, gQ30_5, gQ30_6, gQ30_7, gQ30_8, gQ30_9, gQ31_0, gQ33_0, gQ33_1, gQ36_0, gQ36_1, gQ39_0, gQ39_3, gQ39_4, gQ39_6, gQ39_8, gQ39_10, gQ39_11, gQ39_12, gQ48_0, gQ48_1, gQ51_2, gQ53_0, gQ53_1, gQ60_0, gQ60_1, gQ60_2, gQ64_1, gQ64_14, gQ64_15, gQ64_16, gQ64_17, gQ64_18, gQ64_19, gQ64_20, gQ64_21, gQ64_24, gQ64_25, gQ64_27, gQ64_28, gQ64_29, gQ64_30, gQ64_31, gQ64_34, gQ64_35, gQ64_36, gQ64_39, gQ64_40, gQ64_41, gQ64_43, gQ64_44, gQ64_48, gQ64_50, gQ64_51, gQ64_52, gQ64_53, gQ64_54, gQ64_58, gQ64_59, gI30, gJ30, pI30, pJ30, rC30, gI31, gJ31, pI31, pJ31, rC31, gI33, gJ33, pI33, pJ33, rC33, gI36, gJ36, pI36, pJ36, rC36, gI39, gJ39, pI39, pJ39, rC39, gI48, gJ48, pI48, pJ48, rC48, gI51, gJ51, pI51, pJ51, rC51, gI53, gJ53, pI53, pJ53, rC53, gI60, gJ60, pI60, pJ60, rC60, gI64, gJ64, pI64, pJ64, rC64, aI27, aL27, aI28, aL28, aI32, wI32, aL32, aI34, wI34, aL34, aI35, wI35, aL35, aI37, wI37, aL37, aI38, wI38, aL38, aJ40, wJ40, aL40, aI41, wI41, aL41, aI42, wI42, aL42, aI43, wI43, aL43, aI44, wI44, aL44, aI45, wI45, aL45, aI46, wI46, aL46, aI47, wI47, aL47, aI49, wI49, aL49, aI50, wI50, aL50, aI52, wI52, aL52, aI54, wI54, aL54, aI55, wI55, aL55, aL56, aL57, aL58, aI59, wI59, aL59, aI61, wI61, aL61, aL62, aI63, wI63, aL63, aI65, wI65, aL65, aI66, wI66, aL66, aI67, wI67, aL67, aI68, wI68, aL68, aI69, wI69, aL69, aJ70, wJ70, aL70, aJ71, wJ71, aL71, aJ72, wJ72, aL72, aZ73, wZ73, aL73, aI74, wI74, aL74, aI75, wI75, aL75, aJ76, wJ76, aL76, aJ77, wJ77, aL77, aI78, wI78, aL78, aI79, wI79, aL79, aI80, wI80, aL80, aI81, wI81, aL81, aI82, wI82, aL82, aI83, wI83, aL83, aI84, wI84, aL84, aI85, wI85, aL85, aI86, wI86, aL86, aI87, wI87, aL87, aI88, wI88, aL88, aI89, wI89, aL89, aI90, wI90, aL90, aI91, wI91, aL91, aI92, wI92, aL92, aI93, wI93, aL93, aI94, wI94, aL94, aZ95, wZ95, aL95, aI96, wI96, aL96, aJ97, wJ97, aL97, hF, d3, ↓pk_rem, pk_div, nI_add, ← div3]
    exact a1
theorem s_276 {h : Hp} {st : Nat} (hF : Fix h) (hE : NowE h E) (hW : WF E) (hst : st < 24300) (hcn : ∀ d, d < E 2 → canB E d (dHg E d) (dcn E st d) = true) (h7 : ∀ d, E 2 ≤ d → d < 10 → hI h 87 d = nI (anE E d)) :
    ∃ g, f_276 (some 64) (nI st) h = some g ∧ Fz [46000064, 87, 27000064, 74, 75, 88] h g ∧ MS g E (dcn E st) (st % 100 + 1) := by
  have w2 := hW.2.2.1
  obtain ⟨m, hm⟩ := FU_ge (E 2 + 1) (by omega)
  have hF1 : Fix (sI h 64 45 (nI (st % 100))) := fx_sI hF (by omega)
  obtain ⟨k1, a1, a2, a3⟩ := l_276 w2 hst (E 2) 0 m (sI h 64 45 (nI (st % 100))) hF1 (hE.cg (by funext j; rw [hI_sI, if_neg (by omega)])) (by omega) (fun d hd => absurd hd (Nat.not_lt_zero d)) (fun d hd hd' => by rw [hI_sI, if_neg (by omega), h7 d hd hd']; unfold dcn; rw [if_neg (by omega)])
  have hF2 := a2.fix hF1 (by decide)
  have hE2 : NowE k1 E := hE.cg (by rw [a2.I (a := 66) (by decide)]; funext j; rw [hI_sI, if_neg (by omega)])
  obtain ⟨g, b1, b2, b3⟩ := s_252 hF2 hE2 hW dcn_lt hcn (fun e he => a3 e (by omega))
  refine ⟨g, ?_, (Fz.then (Fz.sI Fz.rfl' (by decide)) (a2.wid (by intro z hz; simp only [List.mem_cons, List.not_mem_nil, or_false] at hz ⊢; omega))).then (b2.wid (by intro z hz; simp only [List.mem_cons, List.not_mem_nil, or_false] at hz ⊢; omega)), hE2.cg (b2.I (a := 66) (by decide)), fun d hd => by rw [b2.I (a := 87) (by decide)]; exact a3 d hd, ?_, b3⟩
  · rw [f_276, b_276_0]
    simp (disch := first | assumption | (repeat' (first | apply fx_sI | apply fx_sJ | assumption | omega))) only [bnd_e, grd_e, grd0, grd1, Option.bind_some, Option.isSome_some, gQ30_0, gQ30_1, gQ30_2, gQ30_3, gQ30_4, gQ30_5, gQ30_6, gQ30_7, gQ30_8, gQ30_9, gQ31_0, gQ33_0, gQ33_1, gQ36_0, gQ36_1, gQ39_0, gQ39_3, gQ39_4, gQ39_6, gQ39_8, gQ39_10, gQ39_11, gQ39_12, gQ48_0, gQ48_1, gQ51_2, gQ53_0, gQ53_1, gQ60_0, gQ60_1, gQ60_2, gQ64_1, gQ64_14, gQ64_15, gQ64_16, gQ64_17, gQ64_18, gQ64_19, gQ64_20, gQ64_21, gQ64_24, gQ64_25, gQ64_27, gQ64_28, gQ64_29, gQ64_30, gQ64_31, gQ64_34, gQ64_35, gQ64_36, gQ64_39, gQ64_40, gQ64_41, gQ64_43, gQ64_44, gQ64_48, gQ64_50, gQ64_51, gQ64_52, gQ64_53, gQ64_54, gQ64_58, gQ64_59, gI30, gJ30, pI30, pJ30, rC30, gI31, gJ31, pI31, pJ31, rC31, gI33, gJ33, pI33, pJ33, rC33, gI36, gJ36, pI36, pJ36, rC36, gI39, gJ39, pI39, pJ39, rC39, gI48, gJ48, pI48, pJ48, rC48, gI51, gJ51, pI51, pJ51, rC51, gI53, gJ53, pI53, pJ53, rC53, gI60, gJ60, pI60, pJ60, rC60, gI64, gJ64, pI64, pJ64, rC64, hF, d100, ↓pk_rem, pk_div]
    rw [show st / 100 / 3 ^ 0 = st / 100 by simp] at a1
    rw [hm, a1, b_276_42]
    simp only [bnd_e, grd_e, grd0, grd1, Option.bind_some, Option.isSome_some, gQ30_0, gQ30_1, gQ30_2, gQ30_3, gQ30_4, gQ30_5, gQ30_6, gQ30_7, gQ30_8, gQ30_9, gQ31_0, gQ33_0, gQ33_1, gQ36_0, gQ36_1, gQ39_0, gQ39_3, gQ39_4, gQ39_6, gQ39_8, gQ39_10, gQ39_11, gQ39_12, gQ48_0, gQ48_1, gQ51_2, gQ53_0, gQ53_1, gQ60_0, gQ60_1, gQ60_2, gQ64_1, gQ64_14, gQ64_15, gQ64_16, gQ64_17, gQ64_18, gQ64_19, gQ64_20, gQ64_21, gQ64_24, gQ64_25, gQ64_27, gQ64_28, gQ64_29, gQ64_30, gQ64_31, gQ64_34, gQ64_35, gQ64_36, gQ64_39, gQ64_40, gQ64_41, gQ64_43, gQ64_44, gQ64_48, gQ64_50, gQ64_51, gQ64_52, gQ64_53, gQ64_54, gQ64_58, gQ64_59, gI30, gJ30, pI30, pJ30, rC30, gI31, gJ31, pI31, pJ31, rC31, gI33, gJ33, pI33, pJ33, rC33, gI36, gJ36, pI36, pJ36, rC36, gI39, gJ39, pI39, pJ39, rC39, gI48, gJ48, pI48, pJ48, rC48, gI51, gJ51, pI51, pJ51, rC51, gI53, gJ53, pI53, pJ53, rC53, gI60, gJ60, pI60, pJ60, rC60, gI64, gJ64, pI64, pJ64, rC64, hF2, b1]
  · rw [b2.I1 (by decide) (by decide), a2.I1 (by decide) (by decide), hI_sI, if_pos ⟨rfl, rfl⟩]
    rfl
end LAYST
/-- seen, queue, its length -/
def seeS (S : (Nat → Nat) × (Nat → Nat) × Nat) (st v : Nat) : (Nat → Nat) × (Nat → Nat) × Nat := if S.1 st = 0 then (upn S.1 st v, upn S.2.1 S.2.2 st, S.2.2 + 1) else S
def nxK (E : Nat → Nat) (st A : Nat) : Nat := kn E (dcn E st) (st % 100 + 1) (A + 1)
def nxS (E : Nat → Nat) (st A : Nat) : Nat := enc E (mnA E (dcn E st) (st % 100 + 1) (A + 1)) (pp (st % 100 + 1) (A + 1))
def exS (E : Nat → Nat) (st : Nat) : Nat → Nat → (Nat → Nat) × (Nat → Nat) × Nat → (Nat → Nat) × (Nat → Nat) × Nat
  | 0, _, S => S
  | r + 1, A, S => exS E st r (A + 1) (if nxK E st A = 0 then seeS S (nxS E st A) (2 + 16 * st + A) else S)
def bfS (E : Nat → Nat) (cl : Nat) : Nat → Nat → (Nat → Nat) × (Nat → Nat) × Nat → Nat × (Nat → Nat) × (Nat → Nat) × Nat
  | 0, _, S => (0, S)
  | f + 1, i, S => if S.2.2 ≤ i then (0, S) else if S.2.1 i % 100 + 1 = cl then (S.2.1 i + 1, S) else bfS E cl f (i + 1) (exS E (S.2.1 i) (4 + 2 * E 2) 0 S)
def QI (E : Nat → Nat) (S : (Nat → Nat) × (Nat → Nat) × Nat) : Prop := 0 < S.2.2 ∧ S.1 (S.2.1 0) = 1 ∧ (∀ i, i < S.2.2 → S.2.1 i < 24300 ∧ S.1 (S.2.1 i) ≠ 0 ∧ VA E (dcn E (S.2.1 i)) (S.2.1 i % 100 + 1)) ∧ (∀ st, S.1 st ≠ 0 → ∃ i, i < S.2.2 ∧ S.2.1 i = st) ∧ (∀ i j, i < j → j < S.2.2 → S.2.1 i ≠ S.2.1 j) ∧
  (∀ i, 0 < i → i < S.2.2 → ∃ j A, j < i ∧ A < 16 ∧ S.1 (S.2.1 i) = 2 + 16 * S.2.1 j + A)
section QS
variable {E : Nat → Nat} {S : (Nat → Nat) × (Nat → Nat) × Nat}
theorem QI.le (hQI : QI E S) : S.2.2 ≤ 24300 := fb_holes 24300 S.2.2 S.2.1 (fun i hi => (hQI.2.2.1 i hi).1) hQI.2.2.2.2.1
theorem QI.see {st v k A : Nat} (hQI : QI E S) (hst : st < 24300) (hV : VA E (dcn E st) (st % 100 + 1)) (hk : k < S.2.2) (hA : A < 16) (hv : v = 2 + 16 * S.2.1 k + A) : QI E (seeS S st v) := by
  unfold seeS
  by_cases c : S.1 st = 0
  · rw [if_pos c]
    obtain ⟨q1, q2, q3, q4, q5, q6⟩ := hQI
    have ne : ∀ i, i < S.2.2 → S.2.1 i ≠ st := fun i hi z => (q3 i hi).2.1 (by rw [z]; exact c)
    have qo : ∀ i, i < S.2.2 → upn S.2.1 S.2.2 st i = S.2.1 i := fun i hi => by unfold upn; rw [if_neg (by omega)]
    have qn : upn S.2.1 S.2.2 st S.2.2 = st := by unfold upn; rw [if_pos rfl]
    have so : ∀ i, i < S.2.2 → upn S.1 st v (S.2.1 i) = S.1 (S.2.1 i) := fun i hi => by unfold upn; rw [if_neg (ne i hi)]
    have sn : upn S.1 st v st = v := by unfold upn; rw [if_pos rfl]
    refine ⟨by show 0 < S.2.2 + 1; omega, ?_, fun i hi => ?_, fun x hx => ?_, fun i j hij hj => ?_, fun i h0 hi => ?_⟩
    · show upn S.1 st v (upn S.2.1 S.2.2 st 0) = 1
      rw [qo 0 q1, so 0 q1]; exact q2
    · have hi : i < S.2.2 + 1 := hi
      show upn S.2.1 S.2.2 st i < 24300 ∧ upn S.1 st v (upn S.2.1 S.2.2 st i) ≠ 0 ∧ VA E (dcn E (upn S.2.1 S.2.2 st i)) (upn S.2.1 S.2.2 st i % 100 + 1)
      by_cases e : i = S.2.2
      · rw [e, qn, sn]; exact ⟨hst, by omega, hV⟩
      · rw [qo i (by omega), so i (by omega)]; exact q3 i (by omega)
    · have hx : upn S.1 st v x ≠ 0 := hx
      by_cases e : x = st
      · exact ⟨S.2.2, by show S.2.2 < S.2.2 + 1; omega, by show upn S.2.1 S.2.2 st S.2.2 = x; rw [qn, e]⟩
      · unfold upn at hx
        rw [if_neg e] at hx
        obtain ⟨i, hi, he⟩ := q4 x hx
        exact ⟨i, by show i < S.2.2 + 1; omega, by show upn S.2.1 S.2.2 st i = x; rw [qo i hi]; exact he⟩
    · have hj : j < S.2.2 + 1 := hj
      show upn S.2.1 S.2.2 st i ≠ upn S.2.1 S.2.2 st j
      by_cases e : j = S.2.2
      · rw [e, qn, qo i (by omega)]; exact ne i (by omega)
      · rw [qo i (by omega), qo j (by omega)]; exact q5 i j hij (by omega)
    · have hi : i < S.2.2 + 1 := hi
      show ∃ j A, j < i ∧ A < 16 ∧ upn S.1 st v (upn S.2.1 S.2.2 st i) = 2 + 16 * upn S.2.1 S.2.2 st j + A
      by_cases e : i = S.2.2
      · exact ⟨k, A, by omega, hA, by rw [e, qn, sn, qo k hk, hv]⟩
      · obtain ⟨j, B, h1, h2, h3⟩ := q6 i h0 (by omega)
        exact ⟨j, B, h1, h2, by rw [qo i (by omega), so i (by omega), qo j (by omega)]; exact h3⟩
  · rw [if_neg c]; exact hQI
theorem see_mono (st v : Nat) : S.2.2 ≤ (seeS S st v).2.2 ∧ ∀ i, i < S.2.2 → (seeS S st v).2.1 i = S.2.1 i := by
  unfold seeS
  split
  · exact ⟨by show S.2.2 ≤ S.2.2 + 1; omega, fun i hi => by show upn S.2.1 S.2.2 st i = _; unfold upn; rw [if_neg (by omega)]⟩
  · exact ⟨Nat.le_refl _, fun _ _ => rfl⟩
/-- the doors that are not there keep what they have -/
theorem bl_ta {an : Nat → Nat} {pl : Nat} (hW : WF E) : ∀ k, k ≤ E 3 → ∀ d, E 2 ≤ d → (bl E an pl k).1 d = an d := by
  intro k
  induction k with
  | zero => intro _ d _; rfl
  | succ k ih =>
    intro hk d hd
    have h1 := ih (by omega) d hd
    have g2 := hW.dg (show 3 * k + 2 < 3 * E 3 by omega)
    unfold bl
    split
    · show upn _ _ _ d = _
      unfold upn
      rw [if_neg (by rw [show 310 + (3 * k + 2) = 310 + 3 * k + 2 by omega] at g2; omega)]
      exact h1
    · exact h1
theorem mnA_ta {an : Nat → Nat} {pl o : Nat} (hW : WF E) (ho : o < 5 + 2 * E 2) : ∀ d, E 2 ≤ d → mnA E an pl o d = an d := by
  intro d hd
  unfold mnA
  rw [bl_ta hW (E 3) (Nat.le_refl _) d hd]
  unfold pa prA
  split
  · rfl
  · split
    · rfl
    · unfold upn
      rw [if_neg]
      unfold dA
      omega
theorem pp_pos {pl o : Nat} (h : pl ≠ 0) : pp pl o ≠ 0 := by
  unfold pp prP
  split
  · exact h
  · split
    · omega
    · exact h
theorem nx_ok {st A : Nat} (hW : WF E) (h5 : E 2 ≤ 5) (hV : VA E (dcn E st) (st % 100 + 1)) (hA : A < 4 + 2 * E 2) (hk : nxK E st A = 0) : nxS E st A < 24300 ∧ VA E (dcn E (nxS E st A)) (nxS E st A % 100 + 1) ∧ dcn E (nxS E st A) = mnA E (dcn E st) (st % 100 + 1) (A + 1) ∧ nxS E st A % 100 + 1 = pp (st % 100 + 1) (A + 1) := by
  have hV1 := hV.mn hW (show A + 1 < 5 + 2 * E 2 by omega) hk
  have e := enc_dcn hV1.1 (fun d hd => by rw [mnA_ta hW (by omega) d hd]; unfold dcn; rw [if_neg (by omega)]) (pp_pos (by omega)) hV1.2.2.2
  refine ⟨enc_lt hV1.1 h5 hV1.2.2.2, ?_, e.1, e.2⟩
  unfold nxS
  rw [e.1, e.2]
  exact hV1
theorem QI.ex {k : Nat} (hW : WF E) (h5 : E 2 ≤ 5) {st : Nat} : ∀ r A (S : (Nat → Nat) × (Nat → Nat) × Nat), A + r = 4 + 2 * E 2 → QI E S → k < S.2.2 → S.2.1 k = st → QI E (exS E st r A S) ∧ S.2.2 ≤ (exS E st r A S).2.2 ∧ ∀ i, i < S.2.2 → (exS E st r A S).2.1 i = S.2.1 i := by
  intro r
  induction r with
  | zero => intro A S _ hQI _ _; exact ⟨hQI, Nat.le_refl _, fun _ _ => rfl⟩
  | succ r ih =>
    intro A S hA hQI hk hs
    have hV := (hQI.2.2.1 k hk).2.2
    rw [hs] at hV
    have es : exS E st (r + 1) A S = exS E st r (A + 1) (if nxK E st A = 0 then seeS S (nxS E st A) (2 + 16 * st + A) else S) := rfl
    rw [es]
    by_cases c : nxK E st A = 0
    · simp only [if_pos c]
      have ok := nx_ok hW h5 hV (by omega) c
      have m := see_mono (S := S) (nxS E st A) (2 + 16 * st + A)
      obtain ⟨a, b, e⟩ := ih (A + 1) (seeS S (nxS E st A) (2 + 16 * st + A)) (by omega) (hQI.see ok.1 ok.2.1 hk (show A < 16 by omega) (by rw [hs])) (by omega) (by rw [m.2 k hk]; exact hs)
      exact ⟨a, by omega, fun i hi => by rw [e i (by omega), m.2 i hi]⟩
    · simp only [if_neg c]
      exact ih (A + 1) S (by omega) hQI hk hs
end QS
