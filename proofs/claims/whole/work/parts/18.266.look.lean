/-! the Hanger looks at a scene -/
theorem shr_le (E : Nat → Nat) (d g e j : Nat) : shr E d g e j ≤ 128 := by
  have h1 := pcf_le 64 (swL E d g &&& swL E e j)
  have h2 := pcf_le 64 (swH E d g &&& swH E e j)
  show pcf 64 _ + pcf 64 _ ≤ 128
  omega
theorem mkM_cg {p q : Nat → Bool} : ∀ n, (∀ i, i < n → p i = q i) → mkM p n = mkM q n
  | 0, _ => rfl
  | n + 1, h => by
    show mkM p n ||| _ = mkM q n ||| _
    rw [mkM_cg n (fun i hi => h i (by omega)), h n (by omega)]
section LOOK
variable {τ : Nat → Nat} {E : Nat → Nat}
theorem door_ptr {h : Hp} {a d e : Nat} (hW : WF E) (hH : HoR τ h a E) (hd : d < E 2) (he : e < E 2) : (rq h (rq h a 1) d = rq h (rq h a 1) e) ↔ d = e := by
  constructor
  · intro z
    have D1 := (hH.dr hd).2
    have D2 := (hH.dr he).2
    rw [← z] at D2
    obtain ⟨_, _, _, _, _, _, _, _, ⟨x1, y1, a1, _⟩, _⟩ := D1
    obtain ⟨_, _, _, _, _, _, _, _, ⟨x2, y2, a2, _⟩, _⟩ := D2
    obtain ⟨⟨b1, b2, b3, b4, _⟩, _, _, b5⟩ := hW.2.2.2.2.2.2.1 d hd
    obtain ⟨⟨c1, c2, c3, c4, _⟩, _, _, c5⟩ := hW.2.2.2.2.2.2.1 e he
    have w0 := hW.1
    have w1 := hW.2.1
    rw [x1] at x2
    rw [y1] at y2
    rw [a1] at a2
    have ex : dX E d = dX E e := (nI_eq (by omega) (by omega)).1 x2
    have ey : dYy E d = dYy E e := (nI_eq (by omega) (by omega)).1 y2
    have ea : dAc E d = dAc E e := (nI_eq (by omega) (by omega)).1 a2
    have q1 := (b5 0 (by omega)).2
    have q2 := (c5 0 (by omega)).2
    have : dwc E d 0 = dwc E e 0 := by unfold dwc; rw [ex, ey, ea]
    rw [this] at q1
    omega
  · intro z; rw [z]
theorem d4n : decide (¬ (nI 4 : Int32) = 0) = true := by decide
/-- the spared ones of one hanging -/
theorem l_28i (hT : TG τ) (hW : WF E) {i ho : Nat} {k7 : Option Nat → Int32 → Hp → Option Hp} (hi : i < 4 * E 2) : ∀ r j m h, j + r = 4 * E 2 → Fix h → hQ h 39 2 = some ho → HoR τ h ho E → hJ h 40 i = lN (mkM (fun j => sprL E i (j / 4) (j % 4)) j) →
    ∃ g, l_28_67 k7 (r + 1 + m) (some 39) (nI i) (some (rq h (rq h ho 1) (i / 4))) (nI j) h = k7 (some 39) (nI (i + 1)) g ∧ Fz [40] h g ∧ hJ g 40 i = lN (maskL (E 2) (sprL E i)) ∧ ∀ i', i' ≠ i → hJ g 40 i' = hJ h 40 i' := by
  have w2 := hW.2.2.1
  intro r
  induction r with
  | zero =>
    intro j m h hj hF hq hH h40
    obtain rfl : j = 4 * E 2 := by omega
    refine ⟨h, ?_, Fz.rfl', h40, fun _ _ => rfl⟩
    obtain ⟨k, ge, t, a0, a1, a2, ⟨f0, f1, f2, f3, f4⟩, _⟩ := hH
    rw [show 0 + 1 + m = m + 1 by omega, l_28_67, b_28_67]
    simp (disch := first | assumption | (repeat' (first | apply fx_sI | apply fx_sJ | assumption | omega))) only [gQ_e (K39 hF), hq, gI_e k, f2, Option.bind_some, pk_mul, nI_leI, Nat.le_refl, if_true]
    rw [b_28_148, bnd_e, nI_add]
  | succ r ih =>
    intro j m h hj hF hq hH h40
    have hDi := hH.dr (show i / 4 < E 2 by omega)
    have hDj := hH.dr (show j / 4 < E 2 by omega)
    have pp := door_ptr hW hH (show i / 4 < E 2 by omega) (show j / 4 < E 2 by omega)
    obtain ⟨k, ge, t, a0, a1, a2, ⟨f0, f1, f2, f3, f4⟩, _⟩ := id hH
    generalize hp : rq h (rq h ho 1) (i / 4) = p at *
    have set : ∀ b : Bool, b = sprL E i (j / 4) (j % 4) → ∃ g, b_28_119 k7 (l_28_67 k7 (r + 1 + m)) (some 39) (nI i) (some p) (nI j) (bI b) h = k7 (some 39) (nI (i + 1)) g ∧ Fz [40] h g ∧ hJ g 40 i = lN (maskL (E 2) (sprL E i)) ∧ ∀ i', i' ≠ i → hJ g 40 i' = hJ h 40 i' := by
      intro b hb
      have e1 : mkM (fun j => sprL E i (j / 4) (j % 4)) (j + 1) = mkM (fun j => sprL E i (j / 4) (j % 4)) j ||| (if b = true then 2 ^ j else 0) := by rw [hb]; rfl
      generalize hv : mkM (fun j => sprL E i (j / 4) (j % 4)) (j + 1) = v at *
      have z1 : Fz [40] h (sJ h 40 i (lN v)) := Fz.sJ Fz.rfl' (Or.inl (by simp))
      have hH1 : HoR τ (sJ h 40 i (lN v)) ho E := hH.cg rfl rfl rfl (fun p hp => ⟨rfl, by funext x; rw [hJ_sJ, if_neg (fun z => hT.no hp (show 40 < 98 by omega) (by omega) z.1)]⟩)
      obtain ⟨g, b1, b2, b3, b4⟩ := ih (j + 1) m (sJ h 40 i (lN v)) (by omega) (fx_sJ hF (by omega)) hq hH1 (by rw [hJ_sJ, if_pos ⟨rfl, rfl⟩, hv])
      have b1 : l_28_67 k7 (r + 1 + m) (some 39) (nI i) (some (rq h (rq h ho 1) (i / 4))) (nI (j + 1)) (sJ h 40 i (lN v)) = k7 (some 39) (nI (i + 1)) g := b1
      rw [hp] at b1
      refine ⟨g, ?_, z1.then b2, b3, fun i' hi' => by rw [b4 i' hi', hJ_sJ, if_neg (fun z => hi' z.2)]⟩
      rw [b_28_119]
      simp (disch := first | assumption | (repeat' (first | apply fx_sI | apply fx_sJ | assumption | omega))) only [bnd_e, grd_e, grd0, grd1, Option.bind_some, Option.isSome_some, gQ30_0, gQ30_1, gQ30_2, gQ30_3, gQ30_4, gQ30_5, gQ30_6, gQ30_7, gQ30_8, gQ30_9, gQ31_0, gQ33_0, gQ33_1, gQ36_0, gQ36_1, gQ39_0, gQ39_3, gQ39_4, gQ39_6, gQ39_8, gQ39_10, gQ39_11, gQ39_12, gQ48_0, gQ48_1, gQ51_2, gQ53_0, gQ53_1, gQ60_0, gQ60_1, gQ60_2, gQ64_1, gQ64_14, gQ64_15, gQ64_16, gQ64_17, gQ64_18, gQ64_19, gQ64_20, gQ64_21, gQ64_24, gQ64_25, gQ64_27, gQ64_28, gQ64_29, gQ64_30, gQ64_31, gQ64_34, gQ64_35, gQ64_36, gQ64_39, gQ64_40, gQ64_41, gQ64_43, gQ64_44, gQ64_48, gQ64_50, gQ64_51, gQ64_52, gQ64_53, gQ64_54, gQ64_58, gQ64_59, gI30, gJ30, pI30, pJ30, rC30, gI31, gJ31, pI31, pJ31, rC31, gI33, gJ33, pI33, pJ33, rC33, gI36, gJ36, pI36, pJ36, rC36, gI39, gJ39, pI39, pJ39, rC39, gI48, gJ48, pI48, pJ48, rC48, gI51, gJ51, pI51, pJ51, rC51, gI53, gJ53, pI53, pJ53, rC53, gI60, gJ60, pI60, pJ60, rC60, gI64, gJ64, pI64, pJ64, rC64, aI27, aL27, aI28, aL28, aI32, wI32, aL32, aI34, wI34, aL34, aI35, wI35, aL35, aI37, wI37, aL37, aI38, wI38, aL38, aJ40, wJ40, aL40, aI41, wI41, aL41, aI42, wI42, aL42, aI43, wI43, aL43, aI44, wI44, aL44, aI45, wI45, aL45, aI46, wI46, aL46, aI47, wI47, aL47, aI49, wI49, aL49, aI50, wI50, aL50, aI52, wI52, aL52, aI54, wI54, aL54, aI55, wI55, aL55, aL56, aL57, aL58, aI59, wI59, aL59, aI61, wI61, aL61, aL62, aI63, wI63, aL63, aI65, wI65, aL65, aI66, wI66, aL66, aI67, wI67, aL67, aI68, wI68, aL68, aI69, wI69, aL69, aJ70, wJ70, aL70, aJ71, wJ71, aL71, aJ72, wJ72, aL72, aZ73, wZ73, aL73, aI74, wI74, aL74, aI75, wI75, aL75, aJ76, wJ76, aL76, aJ77, wJ77, aL77, aI78, wI78, aL78, aI79, wI79, aL79, aI80, wI80, aL80, aI81, wI81, aL81, aI82, wI82, aL82, aI83, wI83, aL83, aI84, wI84, aL84, aI85, wI85, aL85, aI86, wI86, aL86, aI87, wI87, aL87, aI88, wI88, aL88, aI89, wI89, aL89, aI90, wI90, aL90, aI91, wI91, aL91, aI92, wI92, aL92, aI93, wI93, aL93, aI94, wI94, aL94, aZ95, wZ95, aL95, aI96, wI96, aL96, aJ97, wJ97, aL97, hF, h40, bI_0']
      have w : wJ (some 40) (nI i) (lN v) h = some (sJ h 40 i (lN v)) := wJ_n (K40 hF) (by omega) (L40 hF) (show i < 40 by omega) (by omega)
      cases b
      · rw [if_pos rfl, b_28_139, b_28_140, fb_orL]
        rw [if_neg (by decide)] at e1
        rw [← e1, w, Option.bind_some, bnd_e, nI_add]
        exact b1
      · rw [if_neg (by decide), b_28_133, b_28_140, lN_1shl (by omega), fb_orL]
        rw [if_pos rfl] at e1
        rw [← e1, w, Option.bind_some, bnd_e, nI_add]
        exact b1
    have s1 : b_28_114 k7 (l_28_67 k7 (r + 1 + m)) (some 39) (nI i) (some p) (nI j) h = b_28_119 k7 (l_28_67 k7 (r + 1 + m)) (some 39) (nI i) (some p) (nI j) (bI true) h := by rw [b_28_114]; rfl
    have s0 : b_28_118 k7 (l_28_67 k7 (r + 1 + m)) (some 39) (nI i) (some p) (nI j) h = b_28_119 k7 (l_28_67 k7 (r + 1 + m)) (some 39) (nI i) (some p) (nI j) (bI false) h := by rw [b_28_118]; rfl
    have dy : (dY (some p) && dY (some (rq h (rq h ho 1) (j / 4)))) = true := by
      show (decide (30 ≤ p) && decide (30 ≤ rq h (rq h ho 1) (j / 4))) = true
      rw [decide_eq_true hDi.2.2.1, decide_eq_true hDj.2.2.1]
      rfl
    rw [show r + 1 + 1 + m = (r + 1 + m) + 1 by omega, l_28_67, b_28_67]
    simp (disch := first | assumption | (repeat' (first | apply fx_sI | apply fx_sJ | assumption | omega))) only [gQ_e (K39 hF), hq, gI_e k, f2, Option.bind_some, pk_mul, nI_leI, show ¬ 4 * E 2 ≤ j by omega, if_false]
    rw [b_28_80]
    simp (disch := first | assumption | (repeat' (first | apply fx_sI | apply fx_sJ | assumption | omega))) only [gQ_e (K39 hF), hq, gQ_e k, a1.1, Option.bind_some, d4n, grd_e, pk_div, aQ_n a1.2.1 (show 15 ≤ 16 ∧ 16 ≤ 18 by omega) a1.2.2.1, hDj.1, dy]
    by_cases c : i / 4 = j / 4
    · rw [if_pos (by rw [← pp.2 c]), s1]
      exact set true (by unfold sprL spr; rw [decide_eq_true c]; rfl)
    · rw [if_neg (by intro z; cases z; exact c (pp.1 rfl)), b_28_99]
      have hs := shr_le E (i / 4) (i % 4) (j / 4) (j % 4)
      have e14 : f_14 (some p) (nI (i % 4)) (some (rq h (rq h ho 1) (j / 4))) (nI (j % 4)) h = some (nI (shr E (i / 4) (i % 4) (j / 4) (j % 4)), h) := s_14 hDi.2 hDj.2 (by omega) (by omega)
      simp (disch := first | assumption | (repeat' (first | apply fx_sI | apply fx_sJ | assumption | omega))) only [d4n, grd_e, Option.bind_some, rC_e hDi.2.1 hDi.2.2.1, ↓pk_rem, e14, nI_eq0 (show shr E (i / 4) (i % 4) (j / 4) (j % 4) < 2147483648 by omega)]
      have eb := bit_shr E (i / 4) (i % 4) (j / 4) (j % 4)
      by_cases c0 : shr E (i / 4) (i % 4) (j / 4) (j % 4) = 0
      · rw [if_neg (fun z => z c0), s1]
        refine set true ?_
        unfold sprL spr
        rw [eb, c0]
        simp
      · rw [if_pos c0, s0]
        refine set false ?_
        unfold sprL spr
        rw [eb, decide_eq_true c0, decide_eq_false c]
        rfl
theorem l_28 (hT : TG τ) (hW : WF E) {ho : Nat} : ∀ r i m h, i + r = 4 * E 2 → Fix h → hQ h 39 2 = some ho → HoR τ h ho E → hJ h 39 1 = lN (mkM (fun i => fitL E (i / 4) (i % 4)) i) → (∀ i', i' < i → hJ h 40 i' = lN (maskL (E 2) (sprL E i'))) →
    ∃ g, l_28_7 (r + 1 + m) (some 39) (nI i) h = some g ∧ Fz [2000039, 40] h g ∧ HgH τ g E := by
  have w2 := hW.2.2.1
  intro r
  induction r with
  | zero =>
    intro i m h hi hF hq hH h1 h40
    obtain rfl : i = 4 * E 2 := by omega
    have rqe : rq h 39 2 = ho := by unfold rq; rw [hq]; rfl
    refine ⟨h, ?_, Fz.rfl', by rw [rqe]; exact hq, by rw [rqe]; exact hH, h1, h40⟩
    obtain ⟨k, ge, t, a0, a1, a2, ⟨f0, f1, f2, f3, f4⟩, _⟩ := hH
    rw [show 0 + 1 + m = m + 1 by omega, l_28_7, b_28_7]
    simp (disch := first | assumption | (repeat' (first | apply fx_sI | apply fx_sJ | assumption | omega))) only [gQ_e (K39 hF), hq, gI_e k, f2, Option.bind_some, pk_mul, nI_leI, Nat.le_refl, if_true]
    rw [b_28_154]
  | succ r ih =>
    intro i m h hi hF hq hH h1 h40
    have hDi := hH.dr (show i / 4 < E 2 by omega)
    have hw := hW.2.2.2.2.2.2.1 (i / 4) (by omega)
    obtain ⟨k, ge, t, a0, a1, a2, ⟨f0, f1, f2, f3, f4⟩, _⟩ := id hH
    have e10 := s_10 hDi.2 hw.1.2.2.2.2.2.2.1 hw.1.2.2.2.2.2.2.2.2.2 (show i % 4 < 4 by omega)
    have e1 : mkM (fun i => fitL E (i / 4) (i % 4)) (i + 1) = mkM (fun i => fitL E (i / 4) (i % 4)) i ||| (if mayB E (i / 4) (i % 4) = true then 2 ^ i else 0) := rfl
    generalize hv : mkM (fun i => fitL E (i / 4) (i % 4)) (i + 1) = v at *
    generalize es : sJ (sJ h 39 1 (lN v)) 40 i (lN 0) = h2
    have F1 : Fix (sJ h 39 1 (lN v)) := fx_sJ hF (by omega)
    have F2 : Fix h2 := by rw [← es]; exact fx_sJ F1 (by omega)
    have z2 : Fz [2000039, 40] h h2 := by
      rw [← es]
      exact Fz.sJ (Fz.sJ Fz.rfl' (Or.inr (by simp))) (Or.inl (by simp))
    have hH2 : HoR τ h2 ho E := hH.cg z2.K z2.L z2.Q (z2.tag2 hT (fun z hz e => by
      have := (hT _ e).1
      simp only [List.mem_cons, List.not_mem_nil, or_false] at hz
      omega))
    have q2 : hQ h2 39 2 = some ho := by rw [z2.Q]; exact hq
    obtain ⟨m2, hm2⟩ := FU_ge (4 * E 2 + 1) (by omega)
    have j40 : hJ h2 40 i = lN (mkM (fun j => sprL E i (j / 4) (j % 4)) 0) := by rw [← es, hJ_sJ, if_pos ⟨rfl, rfl⟩]; rfl
    obtain ⟨g1, b1, b2, b3, b4⟩ := l_28i (i := i) (k7 := l_28_7 (r + 1 + m)) hT hW (by omega) (4 * E 2) 0 m2 h2 (by omega) F2 q2 hH2 j40
    have hH3 : HoR τ g1 ho E := hH2.cg b2.K b2.L b2.Q (b2.tag2 hT (fun z hz e => by
      have := (hT _ e).1
      simp only [List.mem_cons, List.not_mem_nil, or_false] at hz
      omega))
    have j1 : hJ h2 39 1 = lN v := by rw [← es, hJ_sJ, if_neg (by omega), hJ_sJ, if_pos ⟨rfl, rfl⟩]
    obtain ⟨g, c1, c2, c3⟩ := ih (i + 1) m g1 (by omega) (b2.fix F2 (by decide)) (by rw [b2.Q]; exact q2) hH3 (by rw [b2.J1 (by decide) (by decide), hv]; exact j1) (fun i' hi' => by
      by_cases ci : i' = i
      · rw [ci]; exact b3
      · rw [b4 i' ci, ← es, hJ_sJ, if_neg (fun z => ci z.2), hJ_sJ, if_neg (by omega)]; exact h40 i' (by omega))
    refine ⟨g, ?_, (z2.then (b2.wid (by intro z hz; simp only [List.mem_cons, List.not_mem_nil, or_false] at hz ⊢; omega))).then c2, c3⟩
    have rqd : rq h2 (rq h2 ho 1) (i / 4) = rq h (rq h ho 1) (i / 4) := by unfold rq; rw [z2.Q]
    rw [rqd] at b1
    have fin : ∀ s2 : Int64, s2 = lN (if mayB E (i / 4) (i % 4) = true then 2 ^ i else 0) → b_28_54 (l_28_7 (r + 1 + m)) (some 39) (nI i) (some (rq h (rq h ho 1) (i / 4))) (some 39) (lN (mkM (fun i => fitL E (i / 4) (i % 4)) i)) s2 h = some g := by
      intro s2 hs2
      rw [b_28_54, hs2, fb_orL, ← e1]
      have w : wJ (some 40) (nI i) (lN 0) (sJ h 39 1 (lN v)) = some h2 := by rw [wJ_n (K40 F1) (by omega) (L40 F1) (show i < 40 by omega) (by omega), es]
      simp (disch := first | assumption | (repeat' (first | apply fx_sI | apply fx_sJ | assumption | omega))) only [bnd_e, grd_e, grd0, grd1, Option.bind_some, Option.isSome_some, gQ30_0, gQ30_1, gQ30_2, gQ30_3, gQ30_4, gQ30_5, gQ30_6, gQ30_7, gQ30_8, gQ30_9, gQ31_0, gQ33_0, gQ33_1, gQ36_0, gQ36_1, gQ39_0, gQ39_3, gQ39_4, gQ39_6, gQ39_8, gQ39_10, gQ39_11, gQ39_12, gQ48_0, gQ48_1, gQ51_2, gQ53_0, gQ53_1, gQ60_0, gQ60_1, gQ60_2, gQ64_1, gQ64_14, gQ64_15, gQ64_16, gQ64_17, gQ64_18, gQ64_19, gQ64_20, gQ64_21, gQ64_24, gQ64_25, gQ64_27, gQ64_28, gQ64_29, gQ64_30, gQ64_31, gQ64_34, gQ64_35, gQ64_36, gQ64_39, gQ64_40, gQ64_41, gQ64_43, gQ64_44, gQ64_48, gQ64_50, gQ64_51, gQ64_52, gQ64_53, gQ64_54, gQ64_58, gQ64_59, gI30, gJ30, pI30, pJ30, rC30, gI31, gJ31, pI31, pJ31, rC31, gI33, gJ33, pI33, pJ33, rC33, gI36, gJ36, pI36, pJ36, rC36, gI39, gJ39, pI39, pJ39, rC39, gI48, gJ48, pI48, pJ48, rC48, gI51, gJ51, pI51, pJ51, rC51, gI53, gJ53, pI53, pJ53, rC53, gI60, gJ60, pI60, pJ60, rC60, gI64, gJ64, pI64, pJ64, rC64, hF, F1, w]
      rw [hm2, b1]
      exact c1
    rw [show r + 1 + 1 + m = (r + 1 + m) + 1 by omega, l_28_7, b_28_7]
    simp (disch := first | assumption | (repeat' (first | apply fx_sI | apply fx_sJ | assumption | omega))) only [gQ_e (K39 hF), hq, gI_e k, f2, Option.bind_some, pk_mul, nI_leI, show ¬ 4 * E 2 ≤ i by omega, if_false]
    rw [b_28_20]
    simp (disch := first | assumption | (repeat' (first | apply fx_sI | apply fx_sJ | assumption | omega))) only [gQ_e (K39 hF), hq, gQ_e k, a1.1, Option.bind_some, d4n, grd_e, pk_div, aQ_n a1.2.1 (show 15 ≤ 16 ∧ 16 ≤ 18 by omega) a1.2.2.1, hDi.1, gJ_e (K39 hF), h1, rC_e hDi.2.1 hDi.2.2.1, ↓pk_rem, e10, bI_0']
    cases hb : mayB E (i / 4) (i % 4)
    · rw [if_pos rfl, b_28_53]
      exact fin _ (by rw [hb]; rfl)
    · rw [if_neg (by decide), b_28_47]
      exact fin _ (by rw [hb, lN_1shl (by omega)]; rfl)
theorem s_28 {h : Hp} {ho : Nat} (hT : TG τ) (hW : WF E) (hF : Fix h) (hq : hQ h 39 2 = some ho) (hH : HoR τ h ho E) : ∃ g, f_28 (some 39) h = some g ∧ Fz [2000039, 40] h g ∧ HgH τ g E := by
  have w2 := hW.2.2.1
  obtain ⟨m, hm⟩ := FU_ge (4 * E 2 + 1) (by omega)
  have z1 : Fz [2000039, 40] h (sJ h 39 1 (lN 0)) := Fz.sJ Fz.rfl' (Or.inr (by simp))
  have F1 : Fix (sJ h 39 1 (lN 0)) := fx_sJ hF (by omega)
  have hH1 : HoR τ (sJ h 39 1 (lN 0)) ho E := hH.cg rfl rfl rfl (fun p hp => ⟨rfl, by funext x; rw [hJ_sJ, if_neg (fun z => hT.no hp (show 39 < 98 by omega) (by omega) z.1)]⟩)
  obtain ⟨g, c1, c2, c3⟩ := l_28 hT hW (4 * E 2) 0 m _ (by omega) F1 hq hH1 (by rw [hJ_sJ, if_pos ⟨rfl, rfl⟩]; rfl) (fun i' hi' => absurd hi' (Nat.not_lt_zero i'))
  refine ⟨g, ?_, z1.then c2, c3⟩
  rw [f_28, b_28_0]
  simp (disch := first | assumption | (repeat' (first | apply fx_sI | apply fx_sJ | assumption | omega))) only [bnd_e, grd_e, grd0, grd1, Option.bind_some, Option.isSome_some, gQ30_0, gQ30_1, gQ30_2, gQ30_3, gQ30_4, gQ30_5, gQ30_6, gQ30_7, gQ30_8, gQ30_9, gQ31_0, gQ33_0, gQ33_1, gQ36_0, gQ36_1, gQ39_0, gQ39_3, gQ39_4, gQ39_6, gQ39_8, gQ39_10, gQ39_11, gQ39_12, gQ48_0, gQ48_1, gQ51_2, gQ53_0, gQ53_1, gQ60_0, gQ60_1, gQ60_2, gQ64_1, gQ64_14, gQ64_15, gQ64_16, gQ64_17, gQ64_18, gQ64_19, gQ64_20, gQ64_21, gQ64_24, gQ64_25, gQ64_27, gQ64_28, gQ64_29, gQ64_30, gQ64_31, gQ64_34, gQ64_35, gQ64_36, gQ64_39, gQ64_40, gQ64_41, gQ64_43, gQ64_44, gQ64_48, gQ64_50, gQ64_51, gQ64_52, gQ64_53, gQ64_54, gQ64_58, gQ64_59, gI30, gJ30, pI30, pJ30, rC30, gI31, gJ31, pI31, pJ31, rC31, gI33, gJ33, pI33, pJ33, rC33, gI36, gJ36, pI36, pJ36, rC36, gI39, gJ39, pI39, pJ39, rC39, gI48, gJ48, pI48, pJ48, rC48, gI51, gJ51, pI51, pJ51, rC51, gI53, gJ53, pI53, pJ53, rC53, gI60, gJ60, pI60, pJ60, rC60, gI64, gJ64, pI64, pJ64, rC64, hF]
  rw [hm]
  exact c1
end LOOK
