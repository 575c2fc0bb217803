/-! the reference searches -/
def MB (h : Hp) (S : (Nat → Nat) × (Nat → Nat) × Nat) : Prop := (∀ st, st < 24300 → (S.1 st = 0 → hI h 92 st = -5) ∧ (S.1 st = 1 → hI h 92 st = -4) ∧ (2 ≤ S.1 st → hI h 92 st = nI ((S.1 st - 2) % 16) ∧ hI h 91 st = nI ((S.1 st - 2) / 16))) ∧ (∀ i, i < S.2.2 → hI h 90 i = nI (S.2.1 i)) ∧ hI h 64 55 = nI S.2.2
section MSEARCH
variable {E : Nat → Nat} {S : (Nat → Nat) × (Nat → Nat) × Nat}
theorem MB.cg {h g : Hp} (hB : MB h S) (e0 : hI g 90 = hI h 90) (e1 : hI g 91 = hI h 91) (e2 : hI g 92 = hI h 92) (e3 : hI g 64 55 = hI h 64 55) : MB g S := by
  unfold MB
  rw [e0, e1, e2, e3]
  exact hB
theorem MB.cz {h g : Hp} (hB : MB h S) (hz : Fz [46000064, 47000064, 87, 27000064, 74, 75, 88] h g) : MB g S := hB.cg (hz.I (a := 90) (by decide)) (hz.I (a := 91) (by decide)) (hz.I (a := 92) (by decide)) (hz.I1 (by decide) (by decide))
/-- what is left to it: the row of now, the angles of doors that are not there -/
def MT (h : Hp) (E : Nat → Nat) : Prop := NowE h E ∧ (∀ d, E 2 ≤ d → d < 10 → hI h 87 d = nI (anE E d)) ∧ ∃ n0, hI h 64 46 = nI n0
theorem neg5 (x : Nat) (hx : x < 2147483648) : ¬ nI x = (-5 : Int32) := fun z => by
  have := congrArg Int32.toInt z
  rw [toI_nI hx] at this
  have e : (-5 : Int32).toInt = -5 := by decide
  rw [e] at this
  omega
/-- one state seen -/
theorem m_see {k2 : Hp} {x st A cl i : Nat} {k50 : Option Nat → Int32 → Int32 → Hp → Option (Int32 × Hp)} {k81 : Option Nat → Int32 → Int32 → Int32 → Int32 → Hp → Option (Int32 × Hp)} (hF2 : Fix k2) (hB2 : MB k2 S) (hx : x < 24300) (hA : A < 16) (c0 : S.1 x = 0) (rm : S.2.2 < 24300) :
    ∃ g4, b_277_133 k50 k81 (some 64) (mI cl) (nI i) (nI st) (nI A) (nI x) k2 = b_277_172 k50 k81 (some 64) (mI cl) (nI i) (nI st) (nI A) g4 ∧ Fz [90, 91, 92, 56000064] k2 g4 ∧ MB g4 (seeS S x (2 + 16 * st + A)) := by
  obtain ⟨q1, q2, q3⟩ := id hB2
  have ss : seeS S x (2 + 16 * st + A) = (upn S.1 x (2 + 16 * st + A), upn S.2.1 S.2.2 x, S.2.2 + 1) := by unfold seeS; rw [if_pos c0]
  generalize e1 : sI k2 92 x (nI A) = g1
  generalize e2 : sI g1 91 x (nI st) = g2
  generalize e3 : sI g2 90 S.2.2 (nI x) = g3
  generalize e4 : sI g3 64 55 (nI (S.2.2 + 1)) = g4
  have F1 : Fix g1 := by rw [← e1]; exact fx_sI hF2 (by omega)
  have F2 : Fix g2 := by rw [← e2]; exact fx_sI F1 (by omega)
  have F3 : Fix g3 := by rw [← e3]; exact fx_sI F2 (by omega)
  have z4 : Fz [90, 91, 92, 56000064] k2 g4 := by
    rw [← e4, ← e3, ← e2, ← e1]
    exact Fz.sI (Fz.sI (Fz.sI (Fz.sI Fz.rfl' (Or.inl (by simp))) (Or.inl (by simp))) (Or.inl (by simp))) (Or.inr (by simp))
  have i55 : hI g2 64 55 = nI S.2.2 := by rw [← e2, hI_sI, if_neg (by omega), ← e1, hI_sI, if_neg (by omega)]; exact q3
  have i55' : hI g3 64 55 = nI S.2.2 := by rw [← e3, hI_sI, if_neg (by omega)]; exact i55
  refine ⟨g4, ?_, z4, ?_⟩
  · have w1 : wI (some 92) (nI x) (nI A) k2 = some g1 := by rw [wI_n (K92 hF2) (by omega) (L92 hF2) hx (by omega), e1]
    have w2 : wI (some 91) (nI x) (nI st) g1 = some g2 := by rw [wI_n (K91 F1) (by omega) (L91 F1) hx (by omega), e2]
    have w3 : wI (some 90) (nI S.2.2) (nI x) g2 = some g3 := by rw [wI_n (K90 F2) (by omega) (L90 F2) rm (by omega), e3]
    rw [b_277_133]
    simp (disch := first | assumption | (repeat' (first | apply fx_sI | apply fx_sJ | assumption | omega))) only [bnd_e, grd_e, grd0, grd1, Option.bind_some, Option.isSome_some, gQ30_0, gQ30_1, gQ30_2, gQ30_3, gQ30_4, gQ30_5, gQ30_6, gQ30_7, gQ30_8, gQ30_9, gQ31_0, gQ33_0, gQ33_1, gQ36_0, gQ36_1, gQ39_0, gQ39_3, gQ39_4, gQ39_6, gQ39_8, gQ39_10, gQ39_11, gQ39_12, gQ48_0, gQ48_1, gQ51_2, gQ53_0, gQ53_1, gQ60_0, gQ60_1, gQ60_2, gQ64_1, gQ64_14, gQ64_15, gQ64_16, gQ64_17, gQ64_18, gQ64_19, gQ64_20, gQ64_21, gQ64_24, gQ64_25, gQ64_27, gQ64_28, gQ64_29, gQ64_30, gQ64_31, gQ64_34, gQ64_35, gQ64_36, gQ64_39, gQ64_40, gQ64_41, gQ64_43, gQ64_44, gQ64_48, gQ64_50, gQ64_51, gQ64_52, gQ64_53, gQ64_54, gQ64_58, gQ64_59, gI30, gJ30, pI30, pJ30, rC30, gI31, gJ31, pI31, pJ31, rC31, gI33, gJ33, pI33, pJ33, rC33, gI36, gJ36, pI36, pJ36, rC36, gI39, gJ39, pI39, pJ39, rC39, gI48, gJ48, pI48, pJ48, rC48, gI51, gJ51, pI51, pJ51, rC51, gI53, gJ53, pI53, pJ53, rC53, gI60, gJ60, pI60, pJ60, rC60, gI64, gJ64, pI64, pJ64, rC64, hF2, w1, F1, w2, F2, i55, w3, F3, i55', nI_add, e4]
  · rw [ss]
    refine ⟨fun y hy => ?_, fun j hj => ?_, by rw [← e4, hI_sI, if_pos ⟨rfl, rfl⟩]⟩
    · have v2 : hI g4 92 y = if y = x then nI A else hI k2 92 y := by
        rw [← e4, hI_sI, if_neg (by omega), ← e3, hI_sI, if_neg (by omega), ← e2, hI_sI, if_neg (by omega), ← e1, hI_sI]
        by_cases f : y = x
        · rw [if_pos ⟨rfl, f⟩, if_pos f]
        · rw [if_neg (fun z => f z.2), if_neg f]
      have v1 : hI g4 91 y = if y = x then nI st else hI k2 91 y := by
        rw [← e4, hI_sI, if_neg (by omega), ← e3, hI_sI, if_neg (by omega), ← e2, hI_sI]
        by_cases f : y = x
        · rw [if_pos ⟨rfl, f⟩, if_pos f]
        · rw [if_neg (fun z => f z.2), if_neg f, ← e1, hI_sI, if_neg (by omega)]
      have u : (upn S.1 x (2 + 16 * st + A), upn S.2.1 S.2.2 x, S.2.2 + 1).1 y = if y = x then 2 + 16 * st + A else S.1 y := rfl
      rw [v1, v2, u]
      by_cases f : y = x
      · rw [if_pos f, if_pos f, if_pos f]
        refine ⟨fun z => by omega, fun z => by omega, fun _ => ⟨?_, ?_⟩⟩
        · rw [show (2 + 16 * st + A - 2) % 16 = A by omega]
        · rw [show (2 + 16 * st + A - 2) / 16 = st by omega]
      · rw [if_neg f, if_neg f, if_neg f]
        exact q1 y hy
    · have hj : j < S.2.2 + 1 := hj
      have u : (upn S.1 x (2 + 16 * st + A), upn S.2.1 S.2.2 x, S.2.2 + 1).2.1 j = if j = S.2.2 then x else S.2.1 j := rfl
      rw [u, ← e4, hI_sI, if_neg (by omega), ← e3, hI_sI]
      by_cases f : j = S.2.2
      · rw [if_pos ⟨rfl, f⟩, if_pos f]
      · rw [if_neg (fun z => f z.2), if_neg f, ← e2, hI_sI, if_neg (by omega), ← e1, hI_sI, if_neg (by omega)]
        exact q2 j (by omega)
/-- one act of a state -/
theorem m_act (hW : WF E) (h5 : E 2 ≤ 5) {h : Hp} {st cl i A : Nat} {k50 : Option Nat → Int32 → Int32 → Hp → Option (Int32 × Hp)} {k81 : Option Nat → Int32 → Int32 → Int32 → Int32 → Hp → Option (Int32 × Hp)} (hst : st < 24300) (hV : VA E (dcn E st) (st % 100 + 1)) (hA : A < 4 + 2 * E 2) (hF : Fix h) (hM : MT h E) (hB : MB h S) (hQI : QI E S) :
    ∃ g, b_277_94 k50 k81 (some 64) (mI cl) (nI i) (nI st) (nI A) h = b_277_172 k50 k81 (some 64) (mI cl) (nI i) (nI st) (nI A) g ∧ Fz [46000064, 47000064, 87, 27000064, 74, 75, 88, 90, 91, 92, 56000064] h g ∧ MT g E ∧ MB g (if nxK E st A = 0 then seeS S (nxS E st A) (2 + 16 * st + A) else S) := by
  obtain ⟨hE, h7, n0, hn⟩ := hM
  obtain ⟨k1, a1, a2, a3⟩ := s_276 (st := st) hF hE hW hst hV.2.1 h7
  have hF1 := a2.fix hF (by decide)
  obtain ⟨k2, b1, b2, b3, b4⟩ := s_261 (o := A + 1) (n0 := n0) hF1 a3 hW hV (by omega) (by rw [a2.I1 (by decide) (by decide)]; exact hn)
  rw [mI_s] at b1
  have hF2 := b2.fix hF1 (by decide)
  have z2 : Fz [46000064, 47000064, 87, 27000064, 74, 75, 88] h k2 := (a2.wid (by intro z hz; simp only [List.mem_cons, List.not_mem_nil, or_false] at hz ⊢; omega)).then b2
  have hB2 := hB.cz z2
  have b := kn_lt (E := E) (an := dcn E st) (pl := st % 100 + 1) (o := A + 1)
  have ta : ∀ d, E 2 ≤ d → dcn E st d = anE E d := fun d hd => by unfold dcn; rw [if_neg (by omega)]
  rw [b_277_94]
  simp (disch := first | assumption | (repeat' (first | apply fx_sI | apply fx_sJ | assumption | omega))) only [bnd_e, grd_e, grd0, grd1, Option.bind_some, Option.isSome_some, gQ30_0, gQ30_1, gQ30_2, gQ30_3, gQ30_4, gQ30_5, gQ30_6, gQ30_7, gQ30_8, gQ30_9, gQ31_0, gQ33_0, gQ33_1, gQ36_0, gQ36_1, gQ39_0, gQ39_3, gQ39_4, gQ39_6, gQ39_8, gQ39_10, gQ39_11, gQ39_12, gQ48_0, gQ48_1, gQ51_2, gQ53_0, gQ53_1, gQ60_0, gQ60_1, gQ60_2, gQ64_1, gQ64_14, gQ64_15, gQ64_16, gQ64_17, gQ64_18, gQ64_19, gQ64_20, gQ64_21, gQ64_24, gQ64_25, gQ64_27, gQ64_28, gQ64_29, gQ64_30, gQ64_31, gQ64_34, gQ64_35, gQ64_36, gQ64_39, gQ64_40, gQ64_41, gQ64_43, gQ64_44, gQ64_48, gQ64_50, gQ64_51, gQ64_52, gQ64_53, gQ64_54, gQ64_58, gQ64_59, gI30, gJ30, pI30, pJ30, rC30, gI31, gJ31, pI31, pJ31, rC31, gI33, gJ33, pI33, pJ33, rC33, gI36, gJ36, pI36, pJ36, rC36, gI39, gJ39, pI39, pJ39, rC39, gI48, gJ48, pI48, pJ48, rC48, gI51, gJ51, pI51, pJ51, rC51, gI53, gJ53, pI53, pJ53, rC53, gI60, gJ60, pI60, pJ60, rC60, gI64, gJ64, pI64, pJ64, rC64, hF, a1, hF1, b1, nI_eq0 (show kn E (dcn E st) (st % 100 + 1) (A + 1) < 2147483648 by omega)]
  by_cases c : nxK E st A = 0
  · have c' : kn E (dcn E st) (st % 100 + 1) (A + 1) = 0 := c
    rw [if_pos c, if_pos c']
    have ok := nx_ok hW h5 hV (show A < 4 + 2 * E 2 by omega) c
    have hVn := hV.mn hW (show A + 1 < 5 + 2 * E 2 by omega) c'
    obtain ⟨b5, b6⟩ := b3 c'
    have e75 : f_275 (some 64) k2 = some (nI (nxS E st A), k2) := s_275 hF2 b5 (by omega) (pp_pos (by omega)) hVn.2.2.2
    have hM2 : MT k2 E := ⟨b5.1, fun d hd hd' => by rw [b5.2.1 d hd', mnA_ta hW (by omega) d hd, ta d hd], _, b6⟩
    have og := hQI.og (nxS E st A)
    have rm := hQI.room ok.1 ok.2.1
    have xl := ok.1
    generalize nxS E st A = x at *
    rw [b_277_112]
    simp (disch := first | assumption | (repeat' (first | apply fx_sI | apply fx_sJ | assumption | omega))) only [bnd_e, grd_e, grd0, grd1, Option.bind_some, Option.isSome_some, gQ30_0, gQ30_1, gQ30_2, gQ30_3, gQ30_4, gQ30_5, gQ30_6, gQ30_7, gQ30_8, gQ30_9, gQ31_0, gQ33_0, gQ33_1, gQ36_0, gQ36_1, gQ39_0, gQ39_3, gQ39_4, gQ39_6, gQ39_8, gQ39_10, gQ39_11, gQ39_12, gQ48_0, gQ48_1, gQ51_2, gQ53_0, gQ53_1, gQ60_0, gQ60_1, gQ60_2, gQ64_1, gQ64_14, gQ64_15, gQ64_16, gQ64_17, gQ64_18, gQ64_19, gQ64_20, gQ64_21, gQ64_24, gQ64_25, gQ64_27, gQ64_28, gQ64_29, gQ64_30, gQ64_31, gQ64_34, gQ64_35, gQ64_36, gQ64_39, gQ64_40, gQ64_41, gQ64_43, gQ64_44, gQ64_48, gQ64_50, gQ64_51, gQ64_52, gQ64_53, gQ64_54, gQ64_58, gQ64_59, gI30, gJ30, pI30, pJ30, rC30, gI31, gJ31, pI31, pJ31, rC31, gI33, gJ33, pI33, pJ33, rC33, gI36, gJ36, pI36, pJ36, rC36, gI39, gJ39, pI39, pJ39, rC39, gI48, gJ48, pI48, pJ48, rC48, gI51, gJ51, pI51, pJ51, rC51, gI53, gJ53, pI53, pJ53, rC53, gI60, gJ60, pI60, pJ60, rC60, gI64, gJ64, pI64, pJ64, rC64, aI27, aL27, aI28, aL28, aI32, wI32, aL32, aI34, wI34, aL34, aI35, wI35, aL35, aI37, wI37, aL37, aI38, wI38, aL38, aJ40, wJ40, aL40, aI41, wI41, aL41, aI42, wI42, aL42, aI43, wI43, aL43, aI44, wI44, aL44, aI45, wI45, aL45, aI46, wI46, aL46, aI47, wI47, aL47, aI49, wI49, aL49, aI50, wI50, aL50, aI52, wI52, aL52, aI54, wI54, aL54, aI55, wI55, aL55, aL56, aL57, aL58, aI59, wI59, aL59, aI61, wI61, aL61, aL62, aI63, wI63, aL63, aI65, wI65, aL65, aI66, wI66, aL66, aI67, wI67, aL67, aI68, wI68, aL68, aI69, wI69, aL69, aJ70, wJ70, aL70, aJ71, wJ71, aL71, aJ72, wJ72, aL72, aZ73, wZ73, aL73, aI74, wI74, aL74, aI75, wI75, aL75, aJ76, wJ76, aL76, aJ77, wJ77, aL77, aI78, wI78, aL78, aI79, wI79, aL79, aI80, wI80, aL80, aI81, wI81, aL81, aI82, wI82, aL82, aI83, wI83, aL83, aI84, wI84, aL84, aI85, wI85, aL85, aI86, wI86, aL86, aI87, wI87, aL87, aI88, wI88, aL88, aI89, wI89, aL89, aI90, wI90, aL90, aI91, wI91, aL91, aI92, wI92, aL92, aI93, wI93, aL93, aI94, wI94, aL94, aZ95, wZ95, aL95, aI96, wI96, aL96, aJ97, wJ97, aL97, hF2, e75]
    have qn := hB2.1 x xl
    by_cases c0 : S.1 x = 0
    · rw [if_pos (qn.1 c0)]
      obtain ⟨g4, d1, d2', d3'⟩ := m_see (st := st) (A := A) (cl := cl) (i := i) (k50 := k50) (k81 := k81) hF2 hB2 xl (by omega) c0 (rm c0)
      refine ⟨g4, d1, (z2.wid (by intro z hz; simp only [List.mem_cons, List.not_mem_nil, or_false] at hz ⊢; omega)).then (d2'.wid (by intro z hz; simp only [List.mem_cons, List.not_mem_nil, or_false] at hz ⊢; omega)), ?_, d3'⟩
      obtain ⟨m1, m2, n2, m3⟩ := hM2
      exact ⟨m1.cg (d2'.I (a := 66) (by decide)), fun d hd hd' => by rw [d2'.I (a := 87) (by decide)]; exact m2 d hd hd', n2, by rw [d2'.I1 (by decide) (by decide)]; exact m3⟩
    · have ne : ¬ hI k2 92 x = -5 := by
        by_cases c1 : S.1 x = 1
        · rw [qn.2.1 c1]; decide
        · rw [(qn.2.2 (by omega)).1]; exact neg5 _ (by omega)
      have ss : seeS S x (2 + 16 * st + A) = S := by unfold seeS; rw [if_neg c0]
      rw [if_neg ne, b_277_130, ss]
      exact ⟨k2, rfl, z2.wid (by intro z hz; simp only [List.mem_cons, List.not_mem_nil, or_false] at hz ⊢; omega), hM2, hB2⟩
  · have c' : ¬ kn E (dcn E st) (st % 100 + 1) (A + 1) = 0 := c
    rw [if_neg c, if_neg c', b_277_109]
    obtain ⟨b5, b6⟩ := b4 c'
    exact ⟨k2, rfl, z2.wid (by intro z hz; simp only [List.mem_cons, List.not_mem_nil, or_false] at hz ⊢; omega), ⟨b5.1, fun d hd hd' => by rw [b5.2.1 d hd', ta d hd], _, b6⟩, hB2⟩
theorem l_277i (hW : WF E) (h5 : E 2 ≤ 5) {st k cl i : Nat} {k50 : Option Nat → Int32 → Int32 → Hp → Option (Int32 × Hp)} (hst : st < 24300) (hV : VA E (dcn E st) (st % 100 + 1)) : ∀ r A m h (S : (Nat → Nat) × (Nat → Nat) × Nat), A + r = 4 + 2 * E 2 → Fix h → MT h E → MB h S → QI E S → k < S.2.2 → S.2.1 k = st →
    ∃ g, l_277_81 k50 (r + 1 + m) (some 64) (mI cl) (nI i) (nI st) (nI A) h = k50 (some 64) (mI cl) (nI (i + 1)) g ∧ Fz [46000064, 47000064, 87, 27000064, 74, 75, 88, 90, 91, 92, 56000064] h g ∧ MT g E ∧ MB g (exS E st r A S) := by
  intro r
  induction r with
  | zero =>
    intro A m h S hA hF hM hB hQI hk hs
    obtain rfl : A = 4 + 2 * E 2 := by omega
    refine ⟨h, ?_, Fz.rfl', hM, hB⟩
    rw [show 0 + 1 + m = m + 1 by omega, l_277_81, b_277_81]
    simp (disch := first | assumption | (repeat' (first | apply fx_sI | apply fx_sJ | assumption | omega))) only [bnd_e, grd_e, grd0, grd1, Option.bind_some, Option.isSome_some, gQ30_0, gQ30_1, gQ30_2, gQ30_3, gQ30_4, gQ30_5, gQ30_6, gQ30_7, gQ30_8, gQ30_9, gQ31_0, gQ33_0, gQ33_1, gQ36_0, gQ36_1, gQ39_0, gQ39_3, gQ39_4, gQ39_6, gQ39_8, gQ39_10, gQ39_11, gQ39_12, gQ48_0, gQ48_1, gQ51_2, gQ53_0, gQ53_1, gQ60_0, gQ60_1, gQ60_2, gQ64_1, gQ64_14, gQ64_15, gQ64_16, gQ64_17, gQ64_18, gQ64_19, gQ64_20, gQ64_21, gQ64_24, gQ64_25, gQ64_27, gQ64_28, gQ64_29, gQ64_30, gQ64_31, gQ64_34, gQ64_35, gQ64_36, gQ64_39, gQ64_40, gQ64_41, gQ64_43, gQ64_44, gQ64_48, gQ64_50, gQ64_51, gQ64_52, gQ64_53, gQ64_54, gQ64_58, gQ64_59, gI30, gJ30, pI30, pJ30, rC30, gI31, gJ31, pI31, pJ31, rC31, gI33, gJ33, pI33, pJ33, rC33, gI36, gJ36, pI36, pJ36, rC36, gI39, gJ39, pI39, pJ39, rC39, gI48, gJ48, pI48, pJ48, rC48, gI51, gJ51, pI51, pJ51, rC51, gI53, gJ53, pI53, pJ53, rC53, gI60, gJ60, pI60, pJ60, rC60, gI64, gJ64, pI64, pJ64, rC64, hF, s_203 hF hM.1, pk_mul, nI_add, nI_leI, Nat.le_refl, if_true]
    rw [b_277_178, bnd_e, nI_add]
  | succ r ih =>
    intro A m h S hA hF hM hB hQI hk hs
    have es : exS E st (r + 1) A S = exS E st r (A + 1) (if nxK E st A = 0 then seeS S (nxS E st A) (2 + 16 * st + A) else S) := rfl
    obtain ⟨k1, a1, a2, a3, a4⟩ := m_act (cl := cl) (i := i) (A := A) (k50 := k50) (k81 := l_277_81 k50 (r + 1 + m)) hW h5 hst hV (by omega) hF hM hB hQI
    have st2 : QI E (if nxK E st A = 0 then seeS S (nxS E st A) (2 + 16 * st + A) else S) ∧ k < (if nxK E st A = 0 then seeS S (nxS E st A) (2 + 16 * st + A) else S).2.2 ∧ (if nxK E st A = 0 then seeS S (nxS E st A) (2 + 16 * st + A) else S).2.1 k = st := by
      by_cases c : nxK E st A = 0
      · rw [if_pos c]
        have ok := nx_ok hW h5 hV (show A < 4 + 2 * E 2 by omega) c
        have m' := see_mono (S := S) (nxS E st A) (2 + 16 * st + A)
        exact ⟨hQI.see ok.1 ok.2.1 hk (show A < 16 by omega) (by rw [hs]), by omega, by rw [m'.2 k hk]; exact hs⟩
      · rw [if_neg c]; exact ⟨hQI, hk, hs⟩
    obtain ⟨g, g1, g2, g3, g4⟩ := ih (A + 1) m k1 _ (by omega) (a2.fix hF (by decide)) a3 a4 st2.1 st2.2.1 st2.2.2
    refine ⟨g, ?_, a2.then g2, g3, by rw [es]; exact g4⟩
    rw [show r + 1 + 1 + m = (r + 1 + m) + 1 by omega, l_277_81, b_277_81]
    simp (disch := first | assumption | (repeat' (first | apply fx_sI | apply fx_sJ | assumption | omega))) only [bnd_e, grd_e, grd0, grd1, Option.bind_some, Option.isSome_some, gQ30_0, gQ30_1, gQ30_2, gQ30_3, gQ30_4, gQ30_5, gQ30_6, gQ30_7, gQ30_8, gQ30_9, gQ31_0, gQ33_0, gQ33_1, gQ36_0, gQ36_1, gQ39_0, gQ39_3, gQ39_4, gQ39_6, gQ39_8, gQ39_10, gQ39_11, gQ39_12, gQ48_0, gQ48_1, gQ51_2, gQ53_0, gQ53_1, gQ60_0, gQ60_1, gQ60_2, gQ64_1, gQ64_14, gQ64_15, gQ64_16, gQ64_17, gQ64_18, gQ64_19, gQ64_20, gQ64_21, gQ64_24, gQ64_25, gQ64_27, gQ64_28, gQ64_29, gQ64_30, gQ64_31, gQ64_34, gQ64_35, gQ64_36, gQ64_39, gQ64_40, gQ64_41, gQ64_43, gQ64_44, gQ64_48, gQ64_50, gQ64_51, gQ64_52, gQ64_53, gQ64_54, gQ64_58, gQ64_59, gI30, gJ30, pI30, pJ30, rC30, gI31, gJ31, pI31, pJ31, rC31, gI33, gJ33, pI33, pJ33, rC33, gI36, gJ36, pI36, pJ36, rC36, gI39, gJ39, pI39, pJ39, rC39, gI48, gJ48, pI48, pJ48, rC48, gI51, gJ51, pI51, pJ51, rC51, gI53, gJ53, pI53, pJ53, rC53, gI60, gJ60, pI60, pJ60, rC60, gI64, gJ64, pI64, pJ64, rC64, hF, s_203 hF hM.1, pk_mul, nI_add, nI_leI, show ¬ 4 + 2 * E 2 ≤ A by omega, if_false]
    rw [a1, b_277_172, bnd_e, nI_add]
    exact g1
theorem l_277o (hW : WF E) (h5 : E 2 ≤ 5) {cl : Nat} (hcl : cl ≤ 100) : ∀ r i m h (S : (Nat → Nat) × (Nat → Nat) × Nat), i + r = 24300 → Fix h → MT h E → MB h S → QI E S →
    ∃ g, l_277_50 (r + 1 + m) (some 64) (mI cl) (nI i) h = some (mI (bfS E cl (r + 1) i S).1, g) ∧ Fz [46000064, 47000064, 87, 27000064, 74, 75, 88, 90, 91, 92, 56000064] h g ∧ MT g E ∧ MB g (bfS E cl (r + 1) i S).2 := by
  have gen : ∀ r, (∀ i m h (S : (Nat → Nat) × (Nat → Nat) × Nat), i + r = 24300 → Fix h → MT h E → MB h S → QI E S → i < S.2.2 → ∃ g, l_277_50 (r + m) (some 64) (mI cl) (nI (i + 1)) h = some (mI (bfS E cl r (i + 1) S).1, g) ∧ Fz [46000064, 47000064, 87, 27000064, 74, 75, 88, 90, 91, 92, 56000064] h g ∧ MT g E ∧ MB g (bfS E cl r (i + 1) S).2) →
      ∀ i m h (S : (Nat → Nat) × (Nat → Nat) × Nat), i + r = 24300 → Fix h → MT h E → MB h S → QI E S →
    ∃ g, l_277_50 (r + 1 + m) (some 64) (mI cl) (nI i) h = some (mI (bfS E cl (r + 1) i S).1, g) ∧ Fz [46000064, 47000064, 87, 27000064, 74, 75, 88, 90, 91, 92, 56000064] h g ∧ MT g E ∧ MB g (bfS E cl (r + 1) i S).2 := by
    intro r go i m h S hi hF hM hB hQI
    obtain ⟨q1, q2, q3⟩ := id hB
    have tl := hQI.le
    have es : bfS E cl (r + 1) i S = if S.2.2 ≤ i then (0, S) else if S.2.1 i % 100 + 1 = cl then (S.2.1 i + 1, S) else bfS E cl r (i + 1) (exS E (S.2.1 i) (4 + 2 * E 2) 0 S) := rfl
    rw [es, show r + 1 + m = (r + m) + 1 by omega, l_277_50, b_277_50]
    simp (disch := first | assumption | (repeat' (first | apply fx_sI | apply fx_sJ | assumption | omega))) only [bnd_e, grd_e, grd0, grd1, Option.bind_some, Option.isSome_some, gQ30_0, gQ30_1, gQ30_2, gQ30_3, gQ30_4, gQ30_5, gQ30_6, gQ30_7, gQ30_8, gQ30_9, gQ31_0, gQ33_0, gQ33_1, gQ36_0, gQ36_1, gQ39_0, gQ39_3, gQ39_4, gQ39_6, gQ39_8, gQ39_10, gQ39_11, gQ39_12, gQ48_0, gQ48_1, gQ51_2, gQ53_0, gQ53_1, gQ60_0, gQ60_1, gQ60_2, gQ64_1, gQ64_14, gQ64_15, gQ64_16, gQ64_17, gQ64_18, gQ64_19, gQ64_20, gQ64_21, gQ64_24, gQ64_25, gQ64_27, gQ64_28, gQ64_29, gQ64_30, gQ64_31, gQ64_34, gQ64_35, gQ64_36, gQ64_39, gQ64_40, gQ64_41, gQ64_43, gQ64_44, gQ64_48, gQ64_50, gQ64_51, gQ64_52, gQ64_53, gQ64_54, gQ64_58, gQ64_59, gI30, gJ30, pI30, pJ30, rC30, gI31, gJ31, pI31, pJ31, rC31, gI33, gJ33, pI33, pJ33, rC33, gI36, gJ36, pI36, pJ36, rC36, gI39, gJ39, pI39, pJ39, rC39, gI48, gJ48, pI48, pJ48, rC48, gI51, gJ51, pI51, pJ51, rC51, gI53, gJ53, pI53, pJ53, rC53, gI60, gJ60, pI60, pJ60, rC60, gI64, gJ64, pI64, pJ64, rC64, hF, q3, nI_leI]
    by_cases c1 : S.2.2 ≤ i
    · rw [if_pos c1, if_pos c1]
      exact ⟨h, rfl, Fz.rfl', hM, hB⟩
    · rw [if_neg c1, if_neg c1]
      have qi := hQI.2.2.1 i (by omega)
      have e1 : (nI (S.2.1 i % 100) = mI cl) = (S.2.1 i % 100 + 1 = cl) := by
        apply propext
        rw [← mI_s, mI_inj (by omega) (by omega)]
      rw [b_277_58]
      simp (disch := first | assumption | (repeat' (first | apply fx_sI | apply fx_sJ | assumption | omega))) only [bnd_e, grd_e, grd0, grd1, Option.bind_some, Option.isSome_some, gQ30_0, gQ30_1, gQ30_2, gQ30_3, gQ30_4, gQ30_5, gQ30_6, gQ30_7, gQ30_8, gQ30_9, gQ31_0, gQ33_0, gQ33_1, gQ36_0, gQ36_1, gQ39_0, gQ39_3, gQ39_4, gQ39_6, gQ39_8, gQ39_10, gQ39_11, gQ39_12, gQ48_0, gQ48_1, gQ51_2, gQ53_0, gQ53_1, gQ60_0, gQ60_1, gQ60_2, gQ64_1, gQ64_14, gQ64_15, gQ64_16, gQ64_17, gQ64_18, gQ64_19, gQ64_20, gQ64_21, gQ64_24, gQ64_25, gQ64_27, gQ64_28, gQ64_29, gQ64_30, gQ64_31, gQ64_34, gQ64_35, gQ64_36, gQ64_39, gQ64_40, gQ64_41, gQ64_43, gQ64_44, gQ64_48, gQ64_50, gQ64_51, gQ64_52, gQ64_53, gQ64_54, gQ64_58, gQ64_59, gI30, gJ30, pI30, pJ30, rC30, gI31, gJ31, pI31, pJ31, rC31, gI33, gJ33, pI33, pJ33, rC33, gI36, gJ36, pI36, pJ36, rC36, gI39, gJ39, pI39, pJ39, rC39, gI48, gJ48, pI48, pJ48, rC48, gI51, gJ51, pI51, pJ51, rC51, gI53, gJ53, pI53, pJ53, rC53, gI60, gJ60, pI60, pJ60, rC60, gI64, gJ64, pI64, pJ64, rC64, aI27, aL27, aI28, aL28, aI32, wI32, aL32, aI34, wI34, aL34, aI35, wI35, aL35, aI37, wI37, aL37, aI38, wI38, aL38, aJ40, wJ40, aL40, aI41, wI41, aL41, aI42, wI42, aL42, aI43, wI43, aL43, aI44, wI44, aL44, aI45, wI45, aL45, aI46, wI46, aL46, aI47, wI47, aL47, aI49, wI49, aL49, aI50, wI50, aL50, aI52, wI52, aL52, aI54, wI54, aL54, aI55, wI55, aL55, aL56, aL57, aL58, aI59, wI59, aL59, aI61, wI61, aL61, aL62, aI63, wI63, aL63, aI65, wI65, aL65, aI66, wI66, aL66, aI67, wI67, aL67, aI68, wI68, aL68, aI69, wI69, aL69, aJ70, wJ70, aL70, aJ71, wJ71, aL71, aJ72, wJ72, aL72, aZ73, wZ73, aL73, aI74, wI74, aL74, aI75, wI75, aL75, aJ76, wJ76, aL76, aJ77, wJ77, aL77, aI78, wI78, aL78, aI79, wI79, aL79, aI80, wI80, aL80, aI81, wI81, aL81, aI82, wI82, aL82, aI83, wI83, aL83, aI84, wI84, aL84, aI85, wI85, aL85, aI86, wI86, aL86, aI87, wI87, aL87, aI88, wI88, aL88, aI89, wI89, aL89, aI90, wI90, aL90, aI91, wI91, aL91, aI92, wI92, aL92, aI93, wI93, aL93, aI94, wI94, aL94, aZ95, wZ95, aL95, aI96, wI96, aL96, aJ97, wJ97, aL97, hF, q2 i (show i < S.2.2 by omega), d100, ↓pk_rem, e1]
      by_cases c2 : S.2.1 i % 100 + 1 = cl
      · rw [if_pos c2, if_neg (fun z => z c2)]
        exact ⟨h, rfl, Fz.rfl', hM, hB⟩
      · rw [if_neg c2, if_pos c2, b_277_78, bnd_e]
        obtain ⟨m2, hm2⟩ := FU_ge (4 + 2 * E 2 + 1) (by omega)
        obtain ⟨k1, b1, b2, b3, b4⟩ := l_277i (cl := cl) (i := i) (k := i) (k50 := l_277_50 (r + m)) hW h5 qi.1 qi.2.2 (4 + 2 * E 2) 0 m2 h S (by omega) hF hM hB hQI (by omega) rfl
        have ex := hQI.ex hW h5 (k := i) (st := S.2.1 i) (4 + 2 * E 2) 0 S (by omega) (by omega) rfl
        obtain ⟨g, d1, d2', d3', d4⟩ := go i m k1 _ hi (b2.fix hF (by decide)) b3 b4 ex.1 (by omega)
        refine ⟨g, ?_, b2.then d2', d3', d4⟩
        rw [hm2, b1]
        exact d1
  intro r
  induction r with
  | zero =>
    apply gen 0
    intro i m h S hi hF hM hB hQI h1
    have := hQI.le
    omega
  | succ r ih =>
    apply gen (r + 1)
    intro i m h S hi hF hM hB hQI h1
    exact ih (i + 1) m h S (by omega) hF hM hB hQI
theorem l_277f {cl : Nat} : ∀ r i m h, i + r = 24300 → Fix h → (∀ j, j < i → hI h 92 j = -5) → ∃ g, l_277_2 (r + 1 + m) (some 64) (mI cl) (nI i) h = b_277_23 (some 64) (mI cl) g ∧ Fz [92] h g ∧ ∀ j, j < 24300 → hI g 92 j = -5 := by
  intro r
  induction r with
  | zero =>
    intro i m h hi hF hj
    obtain rfl : i = 24300 := by omega
    refine ⟨h, ?_, Fz.rfl', hj⟩
    rw [show 0 + 1 + m = m + 1 by omega, l_277_2, b_277_2, if_pos (Int32.le_refl _)]
  | succ r ih =>
    intro i m h hi hF hj
    obtain ⟨g, a1, a2, a3⟩ := ih (i + 1) m (sI h 92 i (-5)) (by omega) (fx_sI hF (by omega)) (fun j hj' => by
      rw [hI_sI]
      by_cases c : j = i
      · rw [if_pos ⟨rfl, c⟩]
      · rw [if_neg (fun z => c z.2)]; exact hj j (by omega))
    refine ⟨g, ?_, Fz.then (Fz.sI Fz.rfl' (Or.inl (by simp))) a2, a3⟩
    rw [show r + 1 + 1 + m = (r + 1 + m) + 1 by omega, l_277_2, b_277_2, if_neg (by rw [nI_leI (by omega) (by omega)]; omega), b_277_9]
    simp (disch := first | assumption | (repeat' (first | apply fx_sI | apply fx_sJ | assumption | omega))) only [bnd_e, grd_e, grd0, grd1, Option.bind_some, Option.isSome_some, gQ30_0, gQ30_1, gQ30_2, gQ30_3, gQ30_4, gQ30_5, gQ30_6, gQ30_7, gQ30_8, gQ30_9, gQ31_0, gQ33_0, gQ33_1, gQ36_0, gQ36_1, gQ39_0, gQ39_3, gQ39_4, gQ39_6, gQ39_8, gQ39_10, gQ39_11, gQ39_12, gQ48_0, gQ48_1, gQ51_2, gQ53_0, gQ53_1, gQ60_0, gQ60_1, gQ60_2, gQ64_1, gQ64_14, gQ64_15, gQ64_16, gQ64_17, gQ64_18, gQ64_19, gQ64_20, gQ64_21, gQ64_24, gQ64_25, gQ64_27, gQ64_28, gQ64_29, gQ64_30, gQ64_31, gQ64_34, gQ64_35, gQ64_36, gQ64_39, gQ64_40, gQ64_41, gQ64_43, gQ64_44, gQ64_48, gQ64_50, gQ64_51, gQ64_52, gQ64_53, gQ64_54, gQ64_58, gQ64_59, gI30, gJ30, pI30, pJ30, rC30, gI31, gJ31, pI31, pJ31, rC31, gI33, gJ33, pI33, pJ33, rC33, gI36, gJ36, pI36, pJ36, rC36, gI39, gJ39, pI39, pJ39, rC39, gI48, gJ48, pI48, pJ48, rC48, gI51, gJ51, pI51, pJ51, rC51, gI53, gJ53, pI53, pJ53, rC53, gI60, gJ60, pI60, pJ60, rC60, gI64, gJ64, pI64, pJ64, rC64, aI27, aL27, aI28, aL28, aI32, wI32, aL32, aI34, wI34, aL34, aI35, wI35, aL35, aI37, wI37, aL37, aI38, wI38, aL38, aJ40, wJ40, aL40, aI41, wI41, aL41, aI42, wI42, aL42, aI43, wI43, aL43, aI44, wI44, aL44, aI45, wI45, aL45, aI46, wI46, aL46, aI47, wI47, aL47, aI49, wI49, aL49, aI50, wI50, aL50, aI52, wI52, aL52, aI54, wI54, aL54, aI55, wI55, aL55, aL56, aL57, aL58, aI59, wI59, aL59, aI61, wI61, aL61, aL62, aI63, wI63, aL63, aI65, wI65, aL65, aI66, wI66, aL66, aI67, wI67, aL67, aI68, wI68, aL68, aI69, wI69, aL69, aJ70, wJ70, aL70, aJ71, wJ71, aL71, aJ72, wJ72, aL72, aZ73, wZ73, aL73, aI74, wI74, aL74, aI75, wI75, aL75, aJ76, wJ76, aL76, aJ77, wJ77, aL77, aI78, wI78, aL78, aI79, wI79, aL79, aI80, wI80, aL80, aI81, wI81, aL81, aI82, wI82, aL82, aI83, wI83, aL83, aI84, wI84, aL84, aI85, wI85, aL85, aI86, wI86, aL86, aI87, wI87, aL87, aI88, wI88, aL88, aI89, wI89, aL89, aI90, wI90, aL90, aI91, wI91, aL91, aI92, wI92, aL92, aI93, wI93, aL93, aI94, wI94, aL94, aZ95, wZ95, aL95, aI96, wI96, aL96, aJ97, wJ97, aL97, hF, nI_add]
    exact a1
theorem s_277 {h : Hp} {cl : Nat} (hF : Fix h) (hM : MS h E (anE E) (E 340)) {n0 : Nat} (hn : hI h 64 46 = nI n0) (hW : WF E) (hV : VA E (anE E) (E 340)) (h5 : E 2 ≤ 5) (h0 : E 340 ≠ 0) (hcl : cl ≤ 100) :
    ∃ g, f_277 (some 64) (mI cl) h = some (mI (fnd E cl).1, g) ∧ Fz [46000064, 47000064, 87, 27000064, 74, 75, 88, 90, 91, 92, 56000064] h g ∧ NowE g E ∧ MB g (fnd E cl).2 ∧ QI E (fnd E cl).2 := by
  obtain ⟨m, hm⟩ := FU_ge (24300 + 1) (by omega)
  obtain ⟨k1, a1, a2, a3⟩ := l_277f (cl := cl) 24300 0 m h (by omega) hF (fun j hj => absurd hj (Nat.not_lt_zero j))
  have hF1 := a2.fix hF (by decide)
  have hM1 : MS k1 E (anE E) (E 340) := hM.cg (a2.I (a := 66) (by decide)) (a2.I (a := 87) (by decide)) (a2.I1 (by decide) (by decide)) (a2.I (a := 88) (by decide))
  have e := enc_dcn (E := E) (an := anE E) (pl := E 340) hV.1 (fun _ _ => rfl) h0 hV.2.2.2
  have lt := enc_lt (E := E) (an := anE E) (pl := E 340) hV.1 h5 hV.2.2.2
  have hV' : VA E (dcn E (enc E (anE E) (E 340))) (enc E (anE E) (E 340) % 100 + 1) := by rw [e.1, e.2]; exact hV
  have e75 := s_275 hF1 hM1 (by omega) h0 hV.2.2.2
  have hQI := QI.one (E := E) lt hV'
  generalize es : enc E (anE E) (E 340) = s0 at *
  generalize e1 : sI k1 90 0 (nI s0) = g1
  generalize e2 : sI g1 64 55 (nI 1) = g2
  generalize e3 : sI g2 92 s0 (-4) = g3
  have F1 : Fix g1 := by rw [← e1]; exact fx_sI hF1 (by omega)
  have F2 : Fix g2 := by rw [← e2]; exact fx_sI F1 (by omega)
  have F3 : Fix g3 := by rw [← e3]; exact fx_sI F2 (by omega)
  have z3 : Fz [90, 92, 56000064] k1 g3 := by
    rw [← e3, ← e2, ← e1]
    exact Fz.sI (Fz.sI (Fz.sI Fz.rfl' (Or.inl (by simp))) (Or.inr (by simp))) (Or.inl (by simp))
  have hM3 : MT g3 E := ⟨hM1.1.cg (z3.I (a := 66) (by decide)), fun d _ hd' => by rw [z3.I (a := 87) (by decide)]; exact hM1.2.1 d hd', n0, by rw [z3.I1 (by decide) (by decide), a2.I1 (by decide) (by decide)]; exact hn⟩
  have hB3 : MB g3 (seeS S00 s0 1) := by
    refine ⟨fun x hx => ?_, fun i hi => ?_, by rw [← e3, hI_sI, if_neg (by omega), ← e2, hI_sI, if_pos ⟨rfl, rfl⟩]; rfl⟩
    · have u : (seeS S00 s0 1).1 x = if x = s0 then 1 else 0 := rfl
      have v : hI g3 92 x = if x = s0 then -4 else -5 := by
        rw [← e3, hI_sI]
        by_cases f : x = s0
        · rw [if_pos ⟨rfl, f⟩, if_pos f]
        · rw [if_neg (fun z => f z.2), if_neg f, ← e2, hI_sI, if_neg (by omega), ← e1, hI_sI, if_neg (by omega)]
          exact a3 x hx
      rw [u, v]
      by_cases f : x = s0
      · rw [if_pos f, if_pos f]
        exact ⟨fun z => by omega, fun _ => rfl, fun z => by omega⟩
      · rw [if_neg f, if_neg f]
        exact ⟨fun _ => rfl, fun z => by omega, fun z => by omega⟩
    · have hi : i < 1 := hi
      obtain rfl : i = 0 := by omega
      rw [← e3, hI_sI, if_neg (by omega), ← e2, hI_sI, if_neg (by omega), ← e1, hI_sI, if_pos ⟨rfl, rfl⟩]
      rfl
  obtain ⟨g, b1, b2, b3, b4⟩ := l_277o hW h5 hcl 24300 0 m g3 _ (by omega) F3 hM3 hB3 hQI
  have fe : fnd E cl = bfS E cl (24300 + 1) 0 (seeS S00 s0 1) := by unfold fnd; rw [es]
  rw [fe]
  have qe : ∀ f i (S : (Nat → Nat) × (Nat → Nat) × Nat), QI E S → QI E (bfS E cl f i S).2 := by
    intro f
    induction f with
    | zero => intro i S q; exact q
    | succ f ih =>
      intro i S q
      have es : bfS E cl (f + 1) i S = if S.2.2 ≤ i then (0, S) else if S.2.1 i % 100 + 1 = cl then (S.2.1 i + 1, S) else bfS E cl f (i + 1) (exS E (S.2.1 i) (4 + 2 * E 2) 0 S) := rfl
      rw [es]
      by_cases c1 : S.2.2 ≤ i
      · rw [if_pos c1]; exact q
      · rw [if_neg c1]
        by_cases c2 : S.2.1 i % 100 + 1 = cl
        · rw [if_pos c2]; exact q
        · rw [if_neg c2]
          exact ih (i + 1) _ (q.ex hW h5 (k := i) (4 + 2 * E 2) 0 S (by omega) (by omega) rfl).1
  refine ⟨g, ?_, (a2.wid (by intro z hz; simp only [List.mem_cons, List.not_mem_nil, or_false] at hz ⊢; omega)).then ((z3.wid (by intro z hz; simp only [List.mem_cons, List.not_mem_nil, or_false] at hz ⊢; omega)).then b2), b3.1, b4, qe _ _ _ hQI⟩
  rw [f_277, b_277_0, bnd_e, hm, a1, b_277_23]
  have w1 : wI (some 90) (nI 0) (nI s0) k1 = some g1 := by rw [wI_n (K90 hF1) (by omega) (L90 hF1) (by omega) (by omega), e1]
  have w2 : wI (some 92) (nI s0) (-4) g2 = some g3 := by rw [wI_n (K92 F2) (by omega) (L92 F2) lt (by omega), e3]
  simp (disch := first | assumption | (repeat' (first | apply fx_sI | apply fx_sJ | assumption | omega))) only [bnd_e, grd_e, grd0, grd1, Option.bind_some, Option.isSome_some, gQ30_0, gQ30_1, gQ30_2, gQ30_3, gQ30_4, gQ30_5, gQ30_6, gQ30_7, gQ30_8, gQ30_9, gQ31_0, gQ33_0, gQ33_1, gQ36_0, gQ36_1, gQ39_0, gQ39_3, gQ39_4, gQ39_6, gQ39_8, gQ39_10, gQ39_11, gQ39_12, gQ48_0, gQ48_1, gQ51_2, gQ53_0, gQ53_1, gQ60_0, gQ60_1, gQ60_2, gQ64_1, gQ64_14, gQ64_15, gQ64_16, gQ64_17, gQ64_18, gQ64_19, gQ64_20, gQ64_21, gQ64_24, gQ64_25, gQ64_27, gQ64_28, gQ64_29, gQ64_30, gQ64_31, gQ64_34, gQ64_35, gQ64_36, gQ64_39, gQ64_40, gQ64_41, gQ64_43, gQ64_44, gQ64_48, gQ64_50, gQ64_51, gQ64_52, gQ64_53, gQ64_54, gQ64_58, gQ64_59, gI30, gJ30, pI30, pJ30, rC30, gI31, gJ31, pI31, pJ31, rC31, gI33, gJ33, pI33, pJ33, rC33, gI36, gJ36, pI36, pJ36, rC36, gI39, gJ39, pI39, pJ39, rC39, gI48, gJ48, pI48, pJ48, rC48, gI51, gJ51, pI51, pJ51, rC51, gI53, gJ53, pI53, pJ53, rC53, gI60, gJ60, pI60, pJ60, rC60, gI64, gJ64, pI64, pJ64, rC64, hF1, e75, w1, F1, e2, F2, w2]
  rw [hm]
  exact b1
end MSEARCH
