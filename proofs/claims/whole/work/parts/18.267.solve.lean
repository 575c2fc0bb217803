/-! the Hanger's answers, kept for a house and its hangings -/
def solW (E cur wt : Nat → Nat) : HR := br E (fun _ => true) cur wt (E 2) 0 (fitL E)
def wC (E : Nat → Nat) (d : Nat) : Nat := 16 * dCs E d + 1
def wFw (E : Nat → Nat) (d : Nat) : Nat := 1024 + dCs E d
def CcI (h : Hp) (n kf ar : Nat) (R : HR) : Prop := hI h 39 kf = -1 ∨ (hI h 39 kf = nI (bkN R) ∧ ∀ b, R = some b → b.1 ≤ 20000 ∧ ∀ i, i < n → hI h ar i = nI (b.2 i))
def HGI (τ : Nat → Nat) (h : Hp) : Prop := hQ h 39 2 = none ∨ ∃ E cur, HgH τ h E ∧ WF E ∧ (∀ d, d < E 2 → hI h 41 d = nI (cur d) ∧ cur d < 4) ∧ CcI h (E 2) 5 42 (solW E cur (wC E)) ∧ CcI h (E 2) 7 43 (solW E cur (wFw E))
def Hk (τ : Nat → Nat) (h : Hp) (E : Nat → Nat) : Prop := HgH τ h E ∧ (∀ d, d < E 2 → hI h 41 d = nI (dHg E d)) ∧ CcI h (E 2) 5 42 (solW E (dHg E) (wC E)) ∧ CcI h (E 2) 7 43 (solW E (dHg E) (wFw E))
section SOLVE
variable {τ : Nat → Nat} {E : Nat → Nat}
theorem Hk.I {h : Hp} (hk : Hk τ h E) (hW : WF E) : HGI τ h := Or.inr ⟨E, dHg E, hk.1, hW, fun d hd => ⟨hk.2.1 d hd, hW.hg hd⟩, hk.2.2⟩
theorem HoR.same {h : Hp} {a : Nat} {D : Nat → Nat} (h1 : HoR τ h a E) (h2 : HoR τ h a D) (w1 : WF E) (w2 : WF D) : E 2 = D 2 ∧ ∀ d, d < E 2 → dCs E d = dCs D d ∧ ∀ g, g < 4 → swL E d g = swL D d g ∧ swH E d g = swH D d g ∧ mayB E d g = mayB D d g := by
  have n1 := w1.2.2.1
  have n2 := w2.2.2.1
  have en : E 2 = D 2 := by
    have e1 := h1.2.2.2.2.2.2.1.2.2.1
    have e2 := h2.2.2.2.2.2.2.1.2.2.1
    rw [e1] at e2
    exact (nI_eq (by omega) (by omega)).1 e2
  refine ⟨en, fun d hd => ?_⟩
  obtain ⟨_, _, _, _, _, _, _, _, ⟨_, _, _, _, t1, c1, v1⟩, _, m1⟩ := (h1.dr hd).2
  obtain ⟨_, _, _, _, _, _, _, _, ⟨_, _, _, _, t2, c2, v2⟩, _, m2⟩ := (h2.dr (show d < D 2 by omega)).2
  obtain ⟨⟨_, _, _, _, _, _, b1, _, b2, b3⟩, _⟩ := w1.2.2.2.2.2.2.1 d hd
  obtain ⟨⟨_, _, _, _, _, _, b4, _, b5, b6⟩, _⟩ := w2.2.2.2.2.2.2.1 d (by omega)
  rw [c1] at c2
  rw [t1] at t2
  rw [v1] at v2
  have et : dTd E d = dTd D d := (nI_eq (by omega) (by omega)).1 t2
  have ev : dWh E d = dWh D d := (nI_eq (by omega) (by omega)).1 v2
  refine ⟨(nI_eq (by omega) (by omega)).1 c2, fun g hg => ?_⟩
  obtain ⟨p1, p2, p3⟩ := m1 g hg
  obtain ⟨q1, q2, q3⟩ := m2 g hg
  have l1 := swL_lt E d g
  have l2 := swL_lt D d g
  have l3 := swH_lt E d g
  have l4 := swH_lt D d g
  rw [p1] at q1
  rw [p2] at q2
  rw [p3] at q3
  have k1 : canM E d g < 8 := by unfold canM; split <;> split <;> omega
  have k2 : canM D d g < 8 := by unfold canM; split <;> split <;> omega
  have ec : canM E d g = canM D d g := (nI_eq (by omega) (by omega)).1 q3
  refine ⟨(fb_lN_inj (by omega) (by omega)).1 q1, (fb_lN_inj (by omega) (by omega)).1 q2, ?_⟩
  have cc : canB E d g 1 = canB D d g 1 ∧ canB E d g 2 = canB D d g 2 := by
    unfold canM at ec
    cases x1 : canB E d g 1 <;> cases x2 : canB E d g 2 <;> cases x3 : canB D d g 1 <;> cases x4 : canB D d g 2 <;> rw [x1, x2, x3, x4] at ec <;> simp at ec <;> simp
  unfold mayB fitB
  rw [et, ev, cc.1, cc.2]
theorem br_E {D : Nat → Nat} {am : Nat → Bool} {cur cur' wt wt' : Nat → Nat} {n : Nat} (hb : ∀ d g e j, d < n → g < 4 → e < n → j < 4 → bit E d g e j = bit D d g e j) (hc : ∀ d, d < n → cur d = cur' d ∧ wt d = wt' d) : ∀ r d (L : Nat → Nat → Bool), d + r = n → br E am cur wt r d L = br D am cur' wt' r d L := by
  intro r
  induction r with
  | zero => intro d L _; rfl
  | succ r ih =>
    intro d L hr
    rw [br_s, br_s, ih (d + 1) L (by omega)]
    split
    · apply fo_cg
      intro i hi
      refine ⟨rfl, fun _ => ?_⟩
      show Option.map _ _ = Option.map _ _
      rw [ih (d + 1) (nxL E L d i) (by omega), br_cg r (d + 1) (nxL E L d i) (nxL D L d i) (fun e g h1 h2 h3 => by unfold nxL spr; rw [hb d i e g (by omega) hi (by omega) h3])]
      congr 1
      funext x
      unfold adH
      rw [(hc d (by omega)).1, (hc d (by omega)).2]
    · rfl
theorem br_am {am am' : Nat → Bool} {cur wt : Nat → Nat} : ∀ r d (L : Nat → Nat → Bool), (∀ e, d ≤ e → e < d + r → am e = am' e) → br E am cur wt r d L = br E am' cur wt r d L := by
  intro r
  induction r with
  | zero => intro d L _; rfl
  | succ r ih =>
    intro d L h
    have ih' : ∀ M, br E am cur wt r (d + 1) M = br E am' cur wt r (d + 1) M := fun M => ih (d + 1) M (fun e h1 h2 => h e (by omega) (by omega))
    rw [br_s, br_s, h d (Nat.le_refl _) (by omega), ih' L]
    simp only [ih']
/-- the same house by another telling -/
theorem HgH.same {h : Hp} {D : Nat → Nat} {a : Nat} (hG : HgH τ h D) (hq : hQ h 39 2 = some a) (hH : HoR τ h a E) (wE : WF E) (wD : WF D) : HgH τ h E ∧ E 2 = D 2 ∧ ∀ cur cur', (∀ d, d < E 2 → cur d = cur' d) → solW E cur (wC E) = solW D cur' (wC D) ∧ solW E cur (wFw E) = solW D cur' (wFw D) := by
  have ra : rq h 39 2 = a := by unfold rq; rw [hq]; rfl
  obtain ⟨p0, p1, p2, p3⟩ := hG
  rw [ra] at p1
  obtain ⟨en, sm⟩ := hH.same p1 wE wD
  have hb : ∀ d g e j, d < E 2 → g < 4 → e < E 2 → j < 4 → bit E d g e j = bit D d g e j := by
    intro d g e j h1 h2 h3 h4
    unfold bit
    rw [((sm d h1).2 g h2).1, ((sm d h1).2 g h2).2.1, ((sm e h3).2 j h4).1, ((sm e h3).2 j h4).2.1]
  refine ⟨⟨by rw [ra]; exact hq, by rw [ra]; exact hH, ?_, fun i hi => ?_⟩, en, fun cur cur' hc => ?_⟩
  · rw [p2, en]
    unfold maskL
    congr 1
    exact mkM_cg (4 * D 2) (fun i hi => (((sm (i / 4) (by omega)).2 (i % 4) (by omega)).2.2).symm)
  · rw [p3 i (by omega), en]
    unfold maskL
    congr 1
    refine mkM_cg (4 * D 2) (fun j hj => ?_)
    unfold sprL spr
    rw [hb (i / 4) (i % 4) (j / 4) (j % 4) (by omega) (by omega) (by omega) (by omega)]
  · unfold solW
    have fl : ∀ e g, e < E 2 → g < 4 → fitL E e g = fitL D e g := fun e g h1 h2 => ((sm e h1).2 g h2).2.2
    constructor
    · rw [br_E (cur' := cur') (wt' := wC D) hb (fun d hd => ⟨hc d hd, by unfold wC; rw [(sm d hd).1]⟩) (E 2) 0 (fitL E) (by omega), ← en, br_cg (E 2) 0 (fitL E) (fitL D) (fun e g _ h2 h3 => fl e g (by omega) h3)]
    · rw [br_E (cur' := cur') (wt' := wFw D) hb (fun d hd => ⟨hc d hd, by unfold wFw; rw [(sm d hd).1]⟩) (E 2) 0 (fitL E) (by omega), ← en, br_cg (E 2) 0 (fitL E) (fitL D) (fun e g _ h2 h3 => fl e g (by omega) h3)]
theorem l_27 (hT : TG τ) (hW : WF E) {an : Nat → Nat} {pl : Nat} : ∀ r d m h (sm : Bool), d + r = E 2 → Fix h → HgH τ h E → ScR τ h 33 E an pl →
    ∃ g sm', l_27_35 (r + 1 + m) (some 39) (some 33) (bI sm) (nI d) h = b_27_89 (some 39) (bI sm') g ∧ Fz [41] h g ∧ (∀ e, e < d → hI g 41 e = hI h 41 e) ∧ (∀ e, d ≤ e → e < E 2 → hI g 41 e = nI (dHg E e)) ∧ (sm' = true → sm = true ∧ ∀ e, d ≤ e → e < E 2 → hI h 41 e = nI (dHg E e)) := by
  have w2 := hW.2.2.1
  intro r
  induction r with
  | zero =>
    intro d m h sm hd hF hG hS
    obtain rfl : d = E 2 := by omega
    refine ⟨h, sm, ?_, Fz.rfl', fun _ _ => rfl, fun e h1 h2 => by omega, fun z => ⟨z, fun e h1 h2 => by omega⟩⟩
    rw [show 0 + 1 + m = m + 1 by omega, l_27_35, b_27_35]
    simp (disch := first | assumption | (repeat' (first | apply fx_sI | apply fx_sJ | assumption | omega))) only [gQ_e (K39 hF), hG.1, Option.bind_some, hG.n.2, nI_leI, Nat.le_refl, if_true]
  | succ r ih =>
    intro d m h sm hd hF hG hS
    have hv := (hS.2.2.1 d (by omega)).1
    have hv : hI h 34 d = nI (dHg E d) := hv
    have z1 : Fz [41] h (sI h 41 d (nI (dHg E d))) := Fz.sI Fz.rfl' (Or.inl (by simp))
    have F1 : Fix (sI h 41 d (nI (dHg E d))) := fx_sI hF (by omega)
    have hG1 := hG.cz hT z1 (by decide) (by decide) (by decide) (by decide)
    have tg := z1.tag2 hT (fun z hz e => by
      have := (hT _ e).1
      simp only [List.mem_cons, List.not_mem_nil, or_false] at hz
      omega)
    have hS1 := hS.cg z1.K z1.L z1.Q tg (fun d _ => by rw [z1.I (a := 34) (by decide)]) (fun d hd => by rw [z1.I (a := 35) (by decide)]; exact (hS.2.2.1 d hd).2) (by rw [z1.I (a := 33) (by decide)]; exact hS.2.2.2)
    have go : ∀ b : Bool, (b = true → sm = true ∧ hI h 41 d = nI (dHg E d)) → ∃ g sm', b_27_70 (l_27_35 (r + 1 + m)) (some 39) (some 33) (nI d) (bI b) h = b_27_89 (some 39) (bI sm') g ∧ Fz [41] h g ∧ (∀ e, e < d → hI g 41 e = hI h 41 e) ∧ (∀ e, d ≤ e → e < E 2 → hI g 41 e = nI (dHg E e)) ∧ (sm' = true → sm = true ∧ ∀ e, d ≤ e → e < E 2 → hI h 41 e = nI (dHg E e)) := by
      intro b hb
      obtain ⟨g, sm', a1, a2, a3, a4, a5⟩ := ih (d + 1) m _ b (by omega) F1 hG1 hS1
      refine ⟨g, sm', ?_, z1.then a2, fun e he => by rw [a3 e (by omega), hI_sI, if_neg (by omega)], fun e h1 h2 => ?_, fun z => ?_⟩
      · rw [b_27_70]
        simp (disch := first | assumption | (repeat' (first | apply fx_sI | apply fx_sJ | assumption | omega))) only [bnd_e, grd_e, grd0, grd1, Option.bind_some, Option.isSome_some, gQ30_0, gQ30_1, gQ30_2, gQ30_3, gQ30_4, gQ30_5, gQ30_6, gQ30_7, gQ30_8, gQ30_9, gQ31_0, gQ33_0, gQ33_1, gQ36_0, gQ36_1, gQ39_0, gQ39_3, gQ39_4, gQ39_6, gQ39_8, gQ39_10, gQ39_11, gQ39_12, gQ48_0, gQ48_1, gQ51_2, gQ53_0, gQ53_1, gQ60_0, gQ60_1, gQ60_2, gQ64_1, gQ64_14, gQ64_15, gQ64_16, gQ64_17, gQ64_18, gQ64_19, gQ64_20, gQ64_21, gQ64_24, gQ64_25, gQ64_27, gQ64_28, gQ64_29, gQ64_30, gQ64_31, gQ64_34, gQ64_35, gQ64_36, gQ64_39, gQ64_40, gQ64_41, gQ64_43, gQ64_44, gQ64_48, gQ64_50, gQ64_51, gQ64_52, gQ64_53, gQ64_54, gQ64_58, gQ64_59, gI30, gJ30, pI30, pJ30, rC30, gI31, gJ31, pI31, pJ31, rC31, gI33, gJ33, pI33, pJ33, rC33, gI36, gJ36, pI36, pJ36, rC36, gI39, gJ39, pI39, pJ39, rC39, gI48, gJ48, pI48, pJ48, rC48, gI51, gJ51, pI51, pJ51, rC51, gI53, gJ53, pI53, pJ53, rC53, gI60, gJ60, pI60, pJ60, rC60, gI64, gJ64, pI64, pJ64, rC64, aI27, aL27, aI28, aL28, aI32, wI32, aL32, aI34, wI34, aL34, aI35, wI35, aL35, aI37, wI37, aL37, aI38, wI38, aL38, aJ40, wJ40, aL40, aI41, wI41, aL41, aI42, wI42, aL42, aI43, wI43, aL43, aI44, wI44, aL44, aI45, wI45, aL45, aI46, wI46, aL46, aI47, wI47, aL47, aI49, wI49, aL49, aI50, wI50, aL50, aI52, wI52, aL52, aI54, wI54, aL54, aI55, wI55, aL55, aL56, aL57, aL58, aI59, wI59, aL59, aI61, wI61, aL61, aL62, aI63, wI63, aL63, aI65, wI65, aL65, aI66, wI66, aL66, aI67, wI67, aL67, aI68, wI68, aL68, aI69, wI69, aL69, aJ70, wJ70, aL70, aJ71, wJ71, aL71, aJ72, wJ72, aL72, aZ73, wZ73, aL73, aI74, wI74, aL74, aI75, wI75, aL75, aJ76, wJ76, aL76, aJ77, wJ77, aL77, aI78, wI78, aL78, aI79, wI79, aL79, aI80, wI80, aL80, aI81, wI81, aL81, aI82, wI82, aL82, aI83, wI83, aL83, aI84, wI84, aL84, aI85, wI85, aL85, aI86, wI86, aL86, aI87, wI87, aL87, aI88, wI88, aL88, aI89, wI89, aL89, aI90, wI90, aL90, aI91, wI91, aL91, aI92, wI92, aL92, aI93, wI93, aL93, aI94, wI94, aL94, aZ95, wZ95, aL95, aI96, wI96, aL96, aJ97, wJ97, aL97, hF, hv, nI_add]
        exact a1
      · by_cases ce : e = d
        · rw [a3 e (by omega), hI_sI, if_pos ⟨rfl, ce⟩, ce]
        · exact a4 e (by omega) h2
      · obtain ⟨x1, x2⟩ := a5 z
        obtain ⟨x3, x4⟩ := hb x1
        refine ⟨x3, fun e h1 h2 => ?_⟩
        by_cases ce : e = d
        · rw [ce]; exact x4
        · have := x2 e (by omega) h2
          rw [hI_sI, if_neg (by omega)] at this
          exact this
    rw [show r + 1 + 1 + m = (r + 1 + m) + 1 by omega, l_27_35, b_27_35]
    simp (disch := first | assumption | (repeat' (first | apply fx_sI | apply fx_sJ | assumption | omega))) only [gQ_e (K39 hF), hG.1, Option.bind_some, hG.n.2, nI_leI, show ¬ E 2 ≤ d by omega, if_false]
    rw [b_27_46]
    simp only [bI_0']
    cases sm
    · rw [if_pos rfl, b_27_69]
      exact go false (fun z => by cases z)
    · have e50 : b_27_50 (l_27_35 (r + 1 + m)) (some 39) (some 33) (nI d) h = if ¬ hI h 41 d = nI (dHg E d) then b_27_69 (l_27_35 (r + 1 + m)) (some 39) (some 33) (nI d) h else b_27_65 (l_27_35 (r + 1 + m)) (some 39) (some 33) (nI d) h := by
        rw [b_27_50]
        simp (disch := first | assumption | (repeat' (first | apply fx_sI | apply fx_sJ | assumption | omega))) only [bnd_e, grd_e, grd0, grd1, Option.bind_some, Option.isSome_some, gQ30_0, gQ30_1, gQ30_2, gQ30_3, gQ30_4, gQ30_5, gQ30_6, gQ30_7, gQ30_8, gQ30_9, gQ31_0, gQ33_0, gQ33_1, gQ36_0, gQ36_1, gQ39_0, gQ39_3, gQ39_4, gQ39_6, gQ39_8, gQ39_10, gQ39_11, gQ39_12, gQ48_0, gQ48_1, gQ51_2, gQ53_0, gQ53_1, gQ60_0, gQ60_1, gQ60_2, gQ64_1, gQ64_14, gQ64_15, gQ64_16, gQ64_17, gQ64_18, gQ64_19, gQ64_20, gQ64_21, gQ64_24, gQ64_25, gQ64_27, gQ64_28, gQ64_29, gQ64_30, gQ64_31, gQ64_34, gQ64_35, gQ64_36, gQ64_39, gQ64_40, gQ64_41, gQ64_43, gQ64_44, gQ64_48, gQ64_50, gQ64_51, gQ64_52, gQ64_53, gQ64_54, gQ64_58, gQ64_59, gI30, gJ30, pI30, pJ30, rC30, gI31, gJ31, pI31, pJ31, rC31, gI33, gJ33, pI33, pJ33, rC33, gI36, gJ36, pI36, pJ36, rC36, gI39, gJ39, pI39, pJ39, rC39, gI48, gJ48, pI48, pJ48, rC48, gI51, gJ51, pI51, pJ51, rC51, gI53, gJ53, pI53, pJ53, rC53, gI60, gJ60, pI60, pJ60, rC60, gI64, gJ64, pI64, pJ64, rC64, aI27, aL27, aI28, aL28, aI32, wI32, aL32, aI34, wI34, aL34, aI35, wI35, aL35, aI37, wI37, aL37, aI38, wI38, aL38, aJ40, wJ40, aL40, aI41, wI41, aL41, aI42, wI42, aL42, aI43, wI43, aL43, aI44, wI44, aL44, aI45, wI45, aL45, aI46, wI46, aL46, aI47, wI47, aL47, aI49, wI49, aL49, aI50, wI50, aL50, aI52, wI52, aL52, aI54, wI54, aL54, aI55, wI55, aL55, aL56, aL57, aL58, aI59, wI59, aL59, aI61, wI61, aL61, aL62, aI63, wI63, aL63, aI65, wI65, aL65, aI66, wI66, aL66, aI67, wI67, aL67, aI68, wI68, aL68, aI69, wI69, aL69, aJ70, wJ70, aL70, aJ71, wJ71, aL71, aJ72, wJ72, aL72, aZ73, wZ73, aL73, aI74, wI74, aL74, aI75, wI75, aL75, aJ76, wJ76, aL76, aJ77, wJ77, aL77, aI78, wI78, aL78, aI79, wI79, aL79, aI80, wI80, aL80, aI81, wI81, aL81, aI82, wI82, aL82, aI83, wI83, aL83, aI84, wI84, aL84, aI85, wI85, aL85, aI86, wI86, aL86, aI87, wI87, aL87, aI88, wI88, aL88, aI89, wI89, aL89, aI90, wI90, aL90, aI91, wI91, aL91, aI92, wI92, aL92, aI93, wI93, aL93, aI94, wI94, aL94, aZ95, wZ95, aL95, aI96, wI96, aL96, aJ97, wJ97, aL97, hF, hv]
      rw [if_neg (by decide), e50]
      by_cases c : hI h 41 d = nI (dHg E d)
      · rw [if_neg (fun z => z c), b_27_65]
        exact go true (fun _ => ⟨rfl, c⟩)
      · rw [if_pos c, b_27_69]
        exact go false (fun z => by cases z)
theorem CcI.cg {h g : Hp} {n kf ar : Nat} {R : HR} (hc : CcI h n kf ar R) (e1 : hI g 39 kf = hI h 39 kf) (e2 : hI g ar = hI h ar) : CcI g n kf ar R := by
  unfold CcI
  rw [e1, e2]
  exact hc
theorem s_27 {h : Hp} {an : Nat → Nat} {pl : Nat} (hF : Fix h) (hT : TG τ) (hN' : ∀ p, τ p = 1 → p < hN h) (hSc : ScR τ h 33 E an pl) (hW : WF E) (hI' : HGI τ h) :
    ∃ g, f_27 (some 39) (some 33) h = some g ∧ Fa [2000039, 3000039, 40, 41, 6000039, 8000039] h g ∧ Fix g ∧ Hk τ g E ∧ hN g = hN h ∧ hC g = hC h ∧ hS g = hS h := by
  have w2 := hW.2.2.1
  have t39 : τ 39 ≠ 1 := fun z => by have := (hT 39 z).1; omega
  obtain ⟨m, hm⟩ := FU_ge (E 2 + 1) (by omega)
  obtain ⟨p0, hH, p1, p2⟩ := id hSc
  generalize hho : rq h 33 2 = ho at p0 hH
  have geo := hH.2.1
  -- behind the loop
  have beh : ∀ h1 (sm : Bool), Fix h1 → HgH τ h1 E → ScR τ h1 33 E an pl → Fa [2000039, 3000039, 40, 41, 6000039, 8000039] h h1 → hN h1 = hN h → hC h1 = hC h → hS h1 = hS h →
      (sm = true → (∀ e, e < E 2 → hI h1 41 e = nI (dHg E e)) → CcI h1 (E 2) 5 42 (solW E (dHg E) (wC E)) ∧ CcI h1 (E 2) 7 43 (solW E (dHg E) (wFw E))) →
      ∃ g, b_27_33 (some 39) (some 33) (bI sm) h1 = some g ∧ Fa [2000039, 3000039, 40, 41, 6000039, 8000039] h g ∧ Fix g ∧ Hk τ g E ∧ hN g = hN h ∧ hC g = hC h ∧ hS g = hS h := by
    intro h1 sm F1 G1 S1 f1 n1 n2 n3 hc
    obtain ⟨g, sm', a1, a2, a3, a4, a5⟩ := l_27 hT hW (E 2) 0 m h1 sm (by omega) F1 G1 S1
    have F2 := a2.fix F1 (by decide)
    have G2 := G1.cz hT a2 (by decide) (by decide) (by decide) (by decide)
    have fg : Fa [2000039, 3000039, 40, 41, 6000039, 8000039] h g := f1.thn a2.fa (by intro z hz; simp only [List.mem_cons, List.not_mem_nil, or_false] at hz ⊢; omega)
    rw [b_27_33, bnd_e, hm, a1, b_27_89]
    simp only [bI_0']
    cases hs : sm'
    · rw [if_neg (fun z => z rfl), b_27_93]
      generalize e1 : sI g 39 5 (-1) = g1
      generalize e2 : sI g1 39 7 (-1) = g2
      have F3 : Fix g1 := by rw [← e1]; exact fx_sI F2 (by omega)
      have F4 : Fix g2 := by rw [← e2]; exact fx_sI F3 (by omega)
      have z2 : Fz [6000039, 8000039] g g2 := by
        rw [← e2, ← e1]
        exact Fz.sI (Fz.sI Fz.rfl' (Or.inr (by simp))) (Or.inr (by simp))
      refine ⟨g2, ?_, fg.thn z2.fa (by intro z hz; simp only [List.mem_cons, List.not_mem_nil, or_false] at hz ⊢; omega), F4, ⟨G2.cz hT z2 (by decide) (by decide) (by decide) (by decide), fun d hd => ?_, Or.inl ?_, Or.inl ?_⟩, ?_, ?_, ?_⟩
      · simp (disch := first | assumption | (repeat' (first | apply fx_sI | apply fx_sJ | assumption | omega))) only [bnd_e, grd_e, grd0, grd1, Option.bind_some, Option.isSome_some, gQ30_0, gQ30_1, gQ30_2, gQ30_3, gQ30_4, gQ30_5, gQ30_6, gQ30_7, gQ30_8, gQ30_9, gQ31_0, gQ33_0, gQ33_1, gQ36_0, gQ36_1, gQ39_0, gQ39_3, gQ39_4, gQ39_6, gQ39_8, gQ39_10, gQ39_11, gQ39_12, gQ48_0, gQ48_1, gQ51_2, gQ53_0, gQ53_1, gQ60_0, gQ60_1, gQ60_2, gQ64_1, gQ64_14, gQ64_15, gQ64_16, gQ64_17, gQ64_18, gQ64_19, gQ64_20, gQ64_21, gQ64_24, gQ64_25, gQ64_27, gQ64_28, gQ64_29, gQ64_30, gQ64_31, gQ64_34, gQ64_35, gQ64_36, gQ64_39, gQ64_40, gQ64_41, gQ64_43, gQ64_44, gQ64_48, gQ64_50, gQ64_51, gQ64_52, gQ64_53, gQ64_54, gQ64_58, gQ64_59, gI30, gJ30, pI30, pJ30, rC30, gI31, gJ31, pI31, pJ31, rC31, gI33, gJ33, pI33, pJ33, rC33, gI36, gJ36, pI36, pJ36, rC36, gI39, gJ39, pI39, pJ39, rC39, gI48, gJ48, pI48, pJ48, rC48, gI51, gJ51, pI51, pJ51, rC51, gI53, gJ53, pI53, pJ53, rC53, gI60, gJ60, pI60, pJ60, rC60, gI64, gJ64, pI64, pJ64, rC64, F2, e1, F3, e2]
        rw [b_27_103]
      · rw [z2.I (a := 41) (by decide)]; exact a4 d (by omega) hd
      · rw [← e2, hI_sI, if_neg (by omega), ← e1, hI_sI, if_pos ⟨rfl, rfl⟩]
      · rw [← e2, hI_sI, if_pos ⟨rfl, rfl⟩]
      · rw [z2.N, a2.N]; exact n1
      · rw [z2.C, a2.C]; exact n2
      · rw [z2.S, a2.S]; exact n3
    · rw [if_pos (by decide), b_27_103]
      obtain ⟨x1, x2⟩ := a5 hs
      obtain ⟨y1, y2⟩ := hc x1 (fun e he => x2 e (by omega) he)
      exact ⟨g, rfl, fg, F2, ⟨G2, fun d hd => a4 d (by omega) hd, y1.cg (by rw [a2.I1 (by decide) (by decide)]) (a2.I (a := 42) (by decide)), y2.cg (by rw [a2.I1 (by decide) (by decide)]) (a2.I (a := 43) (by decide))⟩, by rw [a2.N]; exact n1, by rw [a2.C]; exact n2, by rw [a2.S]; exact n3⟩
  have dy : (dY (hQ h 39 2) && dY (some ho)) = true := by
    have d2 : dY (some ho) = true := decide_eq_true geo
    rw [d2, Bool.and_true]
    rcases hI' with z | ⟨D, cur, hG, _⟩
    · rw [z]; rfl
    · rw [hG.1]; exact decide_eq_true hG.2.1.2.1
  rw [f_27, b_27_0]
  simp (disch := first | assumption | (repeat' (first | apply fx_sI | apply fx_sJ | assumption | omega))) only [gQ_e (K39 hF), gQ_e (K33 hF), p0, Option.bind_some, dy, grd_e]
  by_cases c : hQ h 39 2 = some ho
  · rw [if_neg (fun z => z c), b_27_11, b_27_16, if_pos nI10]
    rcases hI' with z | ⟨D, cur, hG, wD, hcur, k1, k2⟩
    · rw [z] at c; cases c
    · obtain ⟨G, en, sv⟩ := hG.same c hH hW wD
      refine beh h true hF G hSc Fa.rfl' rfl rfl rfl (fun _ he => ?_)
      have hc : ∀ d, d < E 2 → dHg E d = cur d := fun d hd => by
        have x1 := he d hd
        have x2 := hcur d (by omega)
        rw [x2.1] at x1
        have := hW.hg hd
        exact ((nI_eq (by omega) (by omega)).1 x1).symm
      obtain ⟨s1, s2⟩ := sv (dHg E) cur hc
      rw [s1, s2, en]
      exact ⟨k1, k2⟩
  · rw [if_pos c, b_27_15, b_27_16, if_neg (fun z => z rfl), b_27_21]
    generalize e1 : sQ h 39 2 (some ho) = h1
    have f1 : Fa [2000039, 3000039, 40, 41, 6000039, 8000039] h h1 := by rw [← e1]; exact Fa.sQ Fa.rfl' (Or.inr (Or.inl (by simp)))
    have F1 : Fix h1 := f1.fix hF (by decide) (by decide)
    have ag : Ag τ h h1 := fun p hp => by rw [← e1]; exact ⟨rfl, rfl, by funext j; rw [hQ_sQ, if_neg (fun z => t39 (by rw [← z.1]; exact hp))], rfl, rfl⟩
    have hH1 : HoR τ h1 ho E := hH.ag ag
    have S1 : ScR τ h1 33 E an pl := hSc.ag ag (by rw [← e1, hQ_sQ, if_neg (by omega)]) (by rw [← e1]; rfl) (by rw [← e1]; rfl) (by rw [← e1]; rfl)
    obtain ⟨h2, a1, a2, a3⟩ := s_28 hT hW F1 (by rw [← e1, hQ_sQ, if_pos ⟨rfl, rfl⟩]) hH1
    have F2 := a2.fix F1 (by decide)
    have tg := a2.tag2 hT (fun z hz e => by
      have := (hT _ e).1
      simp only [List.mem_cons, List.not_mem_nil, or_false] at hz
      omega)
    have S2 := S1.cg a2.K a2.L a2.Q tg (fun d _ => by rw [a2.I (a := 34) (by decide)]) (fun d hd => by rw [a2.I (a := 35) (by decide)]; exact (S1.2.2.1 d hd).2) (by rw [a2.I (a := 33) (by decide)]; exact S1.2.2.2)
    obtain ⟨g, b1, b2⟩ := beh h2 false F2 a3 S2 (f1.thn a2.fa (by intro z hz; simp only [List.mem_cons, List.not_mem_nil, or_false] at hz ⊢; omega)) (by rw [a2.N, ← e1]; rfl) (by rw [a2.C, ← e1]; rfl) (by rw [a2.S, ← e1]; rfl) (fun z => by cases z)
    refine ⟨g, ?_, b2⟩
    simp (disch := first | assumption | (repeat' (first | apply fx_sI | apply fx_sJ | assumption | omega))) only [gQ_e (K33 hF), p0, Option.bind_some, pQ_e (K39 hF) (show 30 ≤ 39 by omega), e1, bnd_e, grd_e, grd0, grd1, Option.bind_some, Option.isSome_some, gQ30_0, gQ30_1, gQ30_2, gQ30_3, gQ30_4, gQ30_5, gQ30_6, gQ30_7, gQ30_8, gQ30_9, gQ31_0, gQ33_0, gQ33_1, gQ36_0, gQ36_1, gQ39_0, gQ39_3, gQ39_4, gQ39_6, gQ39_8, gQ39_10, gQ39_11, gQ39_12, gQ48_0, gQ48_1, gQ51_2, gQ53_0, gQ53_1, gQ60_0, gQ60_1, gQ60_2, gQ64_1, gQ64_14, gQ64_15, gQ64_16, gQ64_17, gQ64_18, gQ64_19, gQ64_20, gQ64_21, gQ64_24, gQ64_25, gQ64_27, gQ64_28, gQ64_29, gQ64_30, gQ64_31, gQ64_34, gQ64_35, gQ64_36, gQ64_39, gQ64_40, gQ64_41, gQ64_43, gQ64_44, gQ64_48, gQ64_50, gQ64_51, gQ64_52, gQ64_53, gQ64_54, gQ64_58, gQ64_59, gI30, gJ30, pI30, pJ30, rC30, gI31, gJ31, pI31, pJ31, rC31, gI33, gJ33, pI33, pJ33, rC33, gI36, gJ36, pI36, pJ36, rC36, gI39, gJ39, pI39, pJ39, rC39, gI48, gJ48, pI48, pJ48, rC48, gI51, gJ51, pI51, pJ51, rC51, gI53, gJ53, pI53, pJ53, rC53, gI60, gJ60, pI60, pJ60, rC60, gI64, gJ64, pI64, pJ64, rC64, F1, a1]
    exact b1
end SOLVE
