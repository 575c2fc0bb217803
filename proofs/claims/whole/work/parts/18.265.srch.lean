/-! the class searches for the best hangings -/
def bkN (B : HR) : Nat := match B with
  | none => 1073741824
  | some b => b.1
/-- the best one so far, as the class holds it -/
def BRc (h : Hp) (n : Nat) (am : Nat → Bool) (B : HR) : Prop := hI h 39 13 = nI (bkN B) ∧ (∀ b, B = some b → b.1 ≤ 20000 ∧ ∀ i, i < n → am i = true → hI h 47 i = nI (b.2 i))
/-- what a search rests on -/
def CSr (τ : Nat → Nat) (E : Nat → Nat) (A : Nat) (cur wt : Nat → Nat) (h : Hp) : Prop := Fix h ∧ HgH τ h E ∧ hI h 39 14 = nI A ∧ (∀ i, i < E 2 → hI h 41 i = nI (cur i)) ∧ (∀ i, i < E 2 → hI h 45 i = nI (wt i))
def foR (f : Nat → HR) (P : Nat → Bool) : Nat → Nat → HR → HR
  | 0, _, B => B
  | q + 1, j, B => foR f P q (j + 1) (if P j = true then mrg B (f j) else B)
theorem foR_4 (f : Nat → HR) (P : Nat → Bool) (B : HR) : foR f P 4 0 B = fo f P B 4 := rfl
section SRCH
variable {τ : Nat → Nat} {E : Nat → Nat} {A : Nat} {cur wt : Nat → Nat}
theorem CSr.cz {h g : Hp} (hT : TG τ) (hC : CSr τ E A cur wt h) (hz : Fz [46, 47, 14000039] h g) : CSr τ E A cur wt g := by
  obtain ⟨c1, c2, c3, c4, c5⟩ := hC
  exact ⟨hz.fix c1 (by decide), c2.cz hT hz (by decide) (by decide) (by decide) (by decide), by rw [hz.I1 (by decide) (by decide)]; exact c3, fun i hi => by rw [hz.I (a := 41) (by decide)]; exact c4 i hi, fun i hi => by rw [hz.I (a := 45) (by decide)]; exact c5 i hi⟩
theorem BRc.cg {h g : Hp} {n : Nat} {am : Nat → Bool} {B : HR} (hB : BRc h n am B) (e1 : hI g 39 13 = hI h 39 13) (e2 : hI g 47 = hI h 47) : BRc g n am B := ⟨by rw [e1]; exact hB.1, fun b hb => ⟨(hB.2 b hb).1, fun i hi ha => by rw [e2]; exact (hB.2 b hb).2 i hi ha⟩⟩
theorem bkN_lt {h : Hp} {n : Nat} {am : Nat → Bool} {B : HR} (hB : BRc h n am B) : bkN B < 2147483648 := by
  cases B with
  | none => decide
  | some b => have := (hB.2 b rfl).1; show b.1 < _; omega
/-- a door that is left out -/
theorem BRc.out {g : Hp} {n d k : Nat} {am : Nat → Bool} {B s : HR} {t : Nat → Nat} (ha : am d = false) (hB : BRc g n am (mrg B (s.map (shf k (d + 1) t)))) : BRc g n am (mrg B (s.map (shf k d t))) := by
  cases s with
  | none => exact hB
  | some x =>
    have e1 : (shf k (d + 1) t x).1 = (shf k d t x).1 := rfl
    have e2 : ∀ i, am i = true → (shf k (d + 1) t x).2 i = (shf k d t x).2 i := by
      intro i hi
      show (if i < d + 1 then t i else x.2 i) = if i < d then t i else x.2 i
      have : i ≠ d := fun z => by rw [z, ha] at hi; cases hi
      by_cases c : i < d
      · rw [if_pos c, if_pos (by omega)]
      · rw [if_neg c, if_neg (by omega)]
    have key : ∀ y z : Nat × (Nat → Nat), y.1 = z.1 → (∀ i, am i = true → y.2 i = z.2 i) → BRc g n am (some y) → BRc g n am (some z) := by
      intro y z h1 h2 hB
      refine ⟨by rw [hB.1]; show nI y.1 = nI z.1; rw [h1], fun b hb => ?_⟩
      cases hb
      have := hB.2 y rfl
      exact ⟨by omega, fun i hi hai => by rw [this.2 i hi hai, h2 i hai]⟩
    have hB : BRc g n am (mrg B (some (shf k (d + 1) t x))) := hB
    show BRc g n am (mrg B (some (shf k d t x)))
    cases B with
    | none => exact key _ _ e1 e2 hB
    | some b =>
      rw [mrg_some] at hB ⊢
      rw [e1] at hB
      by_cases c : (shf k d t x).1 < b.1
      · rw [if_pos c] at hB ⊢; exact key _ _ e1 e2 hB
      · rw [if_neg c] at hB ⊢; exact hB
theorem ehs_no {r d : Nat} {L : Nat → Nat → Bool} (hr : d + 1 + r = E 2) (hb : ehs (E 2) (fun e => A.testBit e) L (d + 1) = false) : bq E (fun e => A.testBit e) cur wt r (d + 1) L = none := by
  rw [bq_no]
  unfold ehs at hb
  have hb : exB (fun e => A.testBit e && !exB (L e) 0 4) (d + 1) (E 2 - (d + 1)) = true := by
    cases hx : exB (fun e => A.testBit e && !exB (L e) 0 4) (d + 1) (E 2 - (d + 1))
    · rw [hx] at hb; cases hb
    · rfl
  obtain ⟨e, h1, h2, h3⟩ := (exB_iff _ _ _).1 hb
  rw [Bool.and_eq_true] at h3
  refine br_0 r (d + 1) L e h1 (by omega) h3.1 (fun g hg => ?_)
  have h4 : exB (L e) 0 4 = false := by
    cases hx : exB (L e) 0 4
    · rfl
    · rw [hx] at h3; cases h3.2
  cases hq : L e g
  · rfl
  · rw [(exB_iff _ _ _).2 ⟨g, by omega, by omega, hq⟩] at h4; cases h4
theorem l_37 (hT : TG τ) (h10 : E 2 ≤ 10) (hA2 : A < 1024) (hc4 : ∀ i, i < E 2 → cur i < 4) (hw : ∀ i, i < E 2 → wt i ≤ 2000) {r d k fl : Nat} {t : Nat → Nat} {L : Nat → Nat → Bool} (hr : d + (r + 1) = E 2) (hk : k ≤ 2000 * d)
    (IH : ∀ (k : Nat) (t : Nat → Nat) (L : Nat → Nat → Bool) (B : HR) (h : Hp), CSr τ E A cur wt h → (∀ i, i < d + 1 → A.testBit i = true → hI h 46 i = nI (t i)) → BRc h (E 2) (fun e => A.testBit e) B → k ≤ 2000 * (d + 1) →
      ∃ g, f_37 fl (some 39) (nI (d + 1)) (lN (maskL (E 2) L)) (nI k) h = some g ∧ Fz [46, 47, 14000039] h g ∧ BRc g (E 2) (fun e => A.testBit e) (mrg B ((bq E (fun e => A.testBit e) cur wt r (d + 1) L).map (shf k (d + 1) t))) ∧ ∀ i, i < d + 1 → hI g 46 i = hI h 46 i) :
    ∀ q j m (B : HR) (h : Hp), j + q = 4 → CSr τ E A cur wt h → (∀ i, i < d → A.testBit i = true → hI h 46 i = nI (t i)) → BRc h (E 2) (fun e => A.testBit e) B →
      ∃ g, l_37_68 (f_37 fl) (q + 1 + m) (some 39) (nI d) (lN (maskL (E 2) L)) (nI k) (nI j) h = some g ∧ Fz [46, 47, 14000039] h g ∧ (∀ i, i < d → hI g 46 i = hI h 46 i) ∧
        BRc g (E 2) (fun e => A.testBit e) (foR (fun j => (bq E (fun e => A.testBit e) cur wt r (d + 1) (nxL E L d j)).map (shf (k + (if j = cur d then 0 else wt d)) (d + 1) (upn t d j))) (fun j => L d j && !btw E (E 2) cur L d j) q j B) := by
  intro q
  induction q with
  | zero =>
    intro j m B h hj hC ht hB
    refine ⟨h, ?_, Fz.rfl', fun _ _ => rfl, hB⟩
    obtain rfl : j = 4 := by omega
    rw [show 0 + 1 + m = m + 1 by omega, l_37_68, b_37_68, if_pos (Int32.le_refl _), b_37_169]
  | succ q ih =>
    intro j m B h hj hC ht hB
    obtain ⟨c1, c2, c3, c4, c5⟩ := id hC
    generalize hf : (fun j => (bq E (fun e => A.testBit e) cur wt r (d + 1) (nxL E L d j)).map (shf (k + (if j = cur d then 0 else wt d)) (d + 1) (upn t d j))) = f at *
    have hfj : f j = (bq E (fun e => A.testBit e) cur wt r (d + 1) (nxL E L d j)).map (shf (k + (if j = cur d then 0 else wt d)) (d + 1) (upn t d j)) := by rw [← hf]
    generalize hP : (fun j => L d j && !btw E (E 2) cur L d j) = P at *
    have hPj : P j = (L d j && !btw E (E 2) cur L d j) := by rw [← hP]
    have es : foR f P (q + 1) j B = foR f P q (j + 1) (if P j = true then mrg B (f j) else B) := rfl
    rw [es, show q + 1 + 1 + m = (q + 1 + m) + 1 by omega, l_37_68, b_37_68, if_neg (by rw [nI_leI (by omega) (by omega)]; omega), b_37_74]
    have skip : ∀ h1 : Hp, CSr τ E A cur wt h1 → Fz [46, 47, 14000039] h h1 → (∀ i, i < d → hI h1 46 i = hI h 46 i) → BRc h1 (E 2) (fun e => A.testBit e) (if P j = true then mrg B (f j) else B) → ∃ g, b_37_163 (f_37 fl) (l_37_68 (f_37 fl) (q + 1 + m)) (some 39) (nI d) (lN (maskL (E 2) L)) (nI k) (nI j) h1 = some g ∧ Fz [46, 47, 14000039] h g ∧ (∀ i, i < d → hI g 46 i = hI h 46 i) ∧ BRc g (E 2) (fun e => A.testBit e) (foR f P q (j + 1) (if P j = true then mrg B (f j) else B)) := by
      intro h1 d1 d2 d3 d4
      obtain ⟨g, g1, g2, g3, g4⟩ := ih (j + 1) m _ h1 (by omega) d1 (fun i hi ha => by rw [d3 i hi]; exact ht i hi ha) d4
      refine ⟨g, ?_, d2.then g2, fun i hi => by rw [g3 i hi, d3 i hi], g4⟩
      rw [b_37_163, bnd_e, nI_add]
      exact g1
    simp (disch := first | assumption | (repeat' (first | apply fx_sI | apply fx_sJ | assumption | omega))) only [s_31 h10 (show d < E 2 by omega) (show j < 4 by omega), Option.bind_some, bI_0']
    cases hl : L d j
    · rw [if_pos rfl]
      exact skip h hC Fz.rfl' (fun _ _ => rfl) (by rw [hPj, hl, Bool.false_and, if_neg (by decide)]; exact hB)
    · rw [if_neg (by decide), b_37_84]
      simp (disch := first | assumption | (repeat' (first | apply fx_sI | apply fx_sJ | assumption | omega))) only [bnd_e, grd_e, grd0, grd1, Option.bind_some, Option.isSome_some, gQ30_0, gQ30_1, gQ30_2, gQ30_3, gQ30_4, gQ30_5, gQ30_6, gQ30_7, gQ30_8, gQ30_9, gQ31_0, gQ33_0, gQ33_1, gQ36_0, gQ36_1, gQ39_0, gQ39_3, gQ39_4, gQ39_6, gQ39_8, gQ39_10, gQ39_11, gQ39_12, gQ48_0, gQ48_1, gQ51_2, gQ53_0, gQ53_1, gQ60_0, gQ60_1, gQ60_2, gQ64_1, gQ64_14, gQ64_15, gQ64_16, gQ64_17, gQ64_18, gQ64_19, gQ64_20, gQ64_21, gQ64_24, gQ64_25, gQ64_27, gQ64_28, gQ64_29, gQ64_30, gQ64_31, gQ64_34, gQ64_35, gQ64_36, gQ64_39, gQ64_40, gQ64_41, gQ64_43, gQ64_44, gQ64_48, gQ64_50, gQ64_51, gQ64_52, gQ64_53, gQ64_54, gQ64_58, gQ64_59, gI30, gJ30, pI30, pJ30, rC30, gI31, gJ31, pI31, pJ31, rC31, gI33, gJ33, pI33, pJ33, rC33, gI36, gJ36, pI36, pJ36, rC36, gI39, gJ39, pI39, pJ39, rC39, gI48, gJ48, pI48, pJ48, rC48, gI51, gJ51, pI51, pJ51, rC51, gI53, gJ53, pI53, pJ53, rC53, gI60, gJ60, pI60, pJ60, rC60, gI64, gJ64, pI64, pJ64, rC64, c1, s_38 c1 c2 h10 (show d < E 2 by omega) (show j < 4 by omega) (c4 d (by omega)) (hc4 d (by omega)), bI_0']
      cases hb : btw E (E 2) cur L d j
      · rw [if_neg (fun z => z rfl), b_37_95]
        have hPt : P j = true := by rw [hPj, hl, hb]; rfl
        have z1 : Fz [46, 47, 14000039] h (sI h 46 d (nI j)) := Fz.sI Fz.rfl' (Or.inl (by simp))
        have hC1 := hC.cz hT z1
        have hF1 : Fix (sI h 46 d (nI j)) := hC1.1
        have hB1 : BRc (sI h 46 d (nI j)) (E 2) (fun e => A.testBit e) B := hB.cg (by rw [hI_sI, if_neg (by omega)]) (by funext i; rw [hI_sI, if_neg (by omega)])
        have e32 := s_32 (d := d + 1) (L := nxL E L d j) hF1 hC1.2.1 h10 hC1.2.2.1 hA2 (by omega)
        simp (disch := first | assumption | (repeat' (first | apply fx_sI | apply fx_sJ | assumption | omega))) only [bnd_e, grd_e, grd0, grd1, Option.bind_some, Option.isSome_some, gQ30_0, gQ30_1, gQ30_2, gQ30_3, gQ30_4, gQ30_5, gQ30_6, gQ30_7, gQ30_8, gQ30_9, gQ31_0, gQ33_0, gQ33_1, gQ36_0, gQ36_1, gQ39_0, gQ39_3, gQ39_4, gQ39_6, gQ39_8, gQ39_10, gQ39_11, gQ39_12, gQ48_0, gQ48_1, gQ51_2, gQ53_0, gQ53_1, gQ60_0, gQ60_1, gQ60_2, gQ64_1, gQ64_14, gQ64_15, gQ64_16, gQ64_17, gQ64_18, gQ64_19, gQ64_20, gQ64_21, gQ64_24, gQ64_25, gQ64_27, gQ64_28, gQ64_29, gQ64_30, gQ64_31, gQ64_34, gQ64_35, gQ64_36, gQ64_39, gQ64_40, gQ64_41, gQ64_43, gQ64_44, gQ64_48, gQ64_50, gQ64_51, gQ64_52, gQ64_53, gQ64_54, gQ64_58, gQ64_59, gI30, gJ30, pI30, pJ30, rC30, gI31, gJ31, pI31, pJ31, rC31, gI33, gJ33, pI33, pJ33, rC33, gI36, gJ36, pI36, pJ36, rC36, gI39, gJ39, pI39, pJ39, rC39, gI48, gJ48, pI48, pJ48, rC48, gI51, gJ51, pI51, pJ51, rC51, gI53, gJ53, pI53, pJ53, rC53, gI60, gJ60, pI60, pJ60, rC60, gI64, gJ64, pI64, pJ64, rC64, aI27, aL27, aI28, aL28, aI32, wI32, aL32, aI34, wI34, aL34, aI35, wI35, aL35, aI37, wI37, aL37, aI38, wI38, aL38, aJ40, wJ40, aL40, aI41, wI41, aL41, aI42, wI42, aL42, aI43, wI43, aL43, aI44, wI44, aL44, aI45, wI45, aL45, aI46, wI46, aL46, aI47, wI47, aL47, aI49, wI49, aL49, aI50, wI50, aL50, aI52, wI52, aL52, aI54, wI54, aL54, aI55, wI55, aL55, aL56, aL57, aL58, aI59, wI59, aL59, aI61, wI61, aL61, aL62, aI63, wI63, aL63, aI65, wI65, aL65, aI66, wI66, aL66, aI67, wI67, aL67, aI68, wI68, aL68, aI69, wI69, aL69, aJ70, wJ70, aL70, aJ71, wJ71, aL71, aJ72, wJ72, aL72, aZ73, wZ73, aL73, aI74, wI74, aL74, aI75, wI75, aL75, aJ76, wJ76, aL76, aJ77, wJ77, aL77, aI78, wI78, aL78, aI79, wI79, aL79, aI80, wI80, aL80, aI81, wI81, aL81, aI82, wI82, aL82, aI83, wI83, aL83, aI84, wI84, aL84, aI85, wI85, aL85, aI86, wI86, aL86, aI87, wI87, aL87, aI88, wI88, aL88, aI89, wI89, aL89, aI90, wI90, aL90, aI91, wI91, aL91, aI92, wI92, aL92, aI93, wI93, aL93, aI94, wI94, aL94, aZ95, wZ95, aL95, aI96, wI96, aL96, aJ97, wJ97, aL97, c1, pk_mul, nI_add, c2.2.2.2 (4 * d + j) (show 4 * d + j < 4 * E 2 by omega), fb_andL, nx_msk (show j < 4 by omega), hF1, e32, bI_0']
        cases he : ehs (E 2) (fun e => A.testBit e) (nxL E L d j) (d + 1)
        · rw [if_pos rfl]
          refine skip _ hC1 z1 (fun i hi => by rw [hI_sI, if_neg (by omega)]) ?_
          rw [if_pos hPt, hfj, ehs_no (by omega) he]
          show BRc _ _ _ (mrg B none)
          rw [mrg_none]
          exact hB1
        · rw [if_neg (by decide), b_37_130]
          have hw' := hw d (by omega)
          obtain ⟨g1, a1, a2, a3, a4⟩ := IH (k + (if j = cur d then 0 else wt d)) (upn t d j) (nxL E L d j) B (sI h 46 d (nI j)) hC1 (fun i hi ha => by
            unfold upn
            rw [hI_sI]
            by_cases ci : i = d
            · rw [if_pos ⟨rfl, ci⟩, if_pos ci]
            · rw [if_neg (fun z => ci z.2), if_neg ci]; exact ht i (by omega) ha) hB1 (by split <;> omega)
          have hC2 := hC1.cz hT a2
          have i3 : ∀ i, i < d → hI g1 46 i = hI h 46 i := fun i hi => by rw [a4 i (by omega), hI_sI, if_neg (by omega)]
          obtain ⟨g, b1, b2, b3, b4⟩ := skip g1 hC2 (z1.then a2) i3 (by rw [if_pos hPt, hfj]; exact a3)
          refine ⟨g, ?_, b2, b3, b4⟩
          have cv : hI (sI h 46 d (nI j)) 41 d = nI (cur d) := hC1.2.2.2.1 d (by omega)
          have wv : hI (sI h 46 d (nI j)) 45 d = nI (wt d) := hC1.2.2.2.2 d (by omega)
          have hcd := hc4 d (by omega)
          simp (disch := first | assumption | (repeat' (first | apply fx_sI | apply fx_sJ | assumption | omega))) only [bnd_e, grd_e, grd0, grd1, Option.bind_some, Option.isSome_some, gQ30_0, gQ30_1, gQ30_2, gQ30_3, gQ30_4, gQ30_5, gQ30_6, gQ30_7, gQ30_8, gQ30_9, gQ31_0, gQ33_0, gQ33_1, gQ36_0, gQ36_1, gQ39_0, gQ39_3, gQ39_4, gQ39_6, gQ39_8, gQ39_10, gQ39_11, gQ39_12, gQ48_0, gQ48_1, gQ51_2, gQ53_0, gQ53_1, gQ60_0, gQ60_1, gQ60_2, gQ64_1, gQ64_14, gQ64_15, gQ64_16, gQ64_17, gQ64_18, gQ64_19, gQ64_20, gQ64_21, gQ64_24, gQ64_25, gQ64_27, gQ64_28, gQ64_29, gQ64_30, gQ64_31, gQ64_34, gQ64_35, gQ64_36, gQ64_39, gQ64_40, gQ64_41, gQ64_43, gQ64_44, gQ64_48, gQ64_50, gQ64_51, gQ64_52, gQ64_53, gQ64_54, gQ64_58, gQ64_59, gI30, gJ30, pI30, pJ30, rC30, gI31, gJ31, pI31, pJ31, rC31, gI33, gJ33, pI33, pJ33, rC33, gI36, gJ36, pI36, pJ36, rC36, gI39, gJ39, pI39, pJ39, rC39, gI48, gJ48, pI48, pJ48, rC48, gI51, gJ51, pI51, pJ51, rC51, gI53, gJ53, pI53, pJ53, rC53, gI60, gJ60, pI60, pJ60, rC60, gI64, gJ64, pI64, pJ64, rC64, aI27, aL27, aI28, aL28, aI32, wI32, aL32, aI34, wI34, aL34, aI35, wI35, aL35, aI37, wI37, aL37, aI38, wI38, aL38, aJ40, wJ40, aL40, aI41, wI41, aL41, aI42, wI42, aL42, aI43, wI43, aL43, aI44, wI44, aL44, aI45, wI45, aL45, aI46, wI46, aL46, aI47, wI47, aL47, aI49, wI49, aL49, aI50, wI50, aL50, aI52, wI52, aL52, aI54, wI54, aL54, aI55, wI55, aL55, aL56, aL57, aL58, aI59, wI59, aL59, aI61, wI61, aL61, aL62, aI63, wI63, aL63, aI65, wI65, aL65, aI66, wI66, aL66, aI67, wI67, aL67, aI68, wI68, aL68, aI69, wI69, aL69, aJ70, wJ70, aL70, aJ71, wJ71, aL71, aJ72, wJ72, aL72, aZ73, wZ73, aL73, aI74, wI74, aL74, aI75, wI75, aL75, aJ76, wJ76, aL76, aJ77, wJ77, aL77, aI78, wI78, aL78, aI79, wI79, aL79, aI80, wI80, aL80, aI81, wI81, aL81, aI82, wI82, aL82, aI83, wI83, aL83, aI84, wI84, aL84, aI85, wI85, aL85, aI86, wI86, aL86, aI87, wI87, aL87, aI88, wI88, aL88, aI89, wI89, aL89, aI90, wI90, aL90, aI91, wI91, aL91, aI92, wI92, aL92, aI93, wI93, aL93, aI94, wI94, aL94, aZ95, wZ95, aL95, aI96, wI96, aL96, aJ97, wJ97, aL97, hF1, cv, nI_eq]
          by_cases cj : j = cur d
          · rw [if_neg (fun z => z cj), b_37_149, b_37_159]
            rw [if_pos cj] at a1
            simp (disch := first | assumption | (repeat' (first | apply fx_sI | apply fx_sJ | assumption | omega))) only [bnd_e, grd_e, grd0, grd1, Option.bind_some, Option.isSome_some, gQ30_0, gQ30_1, gQ30_2, gQ30_3, gQ30_4, gQ30_5, gQ30_6, gQ30_7, gQ30_8, gQ30_9, gQ31_0, gQ33_0, gQ33_1, gQ36_0, gQ36_1, gQ39_0, gQ39_3, gQ39_4, gQ39_6, gQ39_8, gQ39_10, gQ39_11, gQ39_12, gQ48_0, gQ48_1, gQ51_2, gQ53_0, gQ53_1, gQ60_0, gQ60_1, gQ60_2, gQ64_1, gQ64_14, gQ64_15, gQ64_16, gQ64_17, gQ64_18, gQ64_19, gQ64_20, gQ64_21, gQ64_24, gQ64_25, gQ64_27, gQ64_28, gQ64_29, gQ64_30, gQ64_31, gQ64_34, gQ64_35, gQ64_36, gQ64_39, gQ64_40, gQ64_41, gQ64_43, gQ64_44, gQ64_48, gQ64_50, gQ64_51, gQ64_52, gQ64_53, gQ64_54, gQ64_58, gQ64_59, gI30, gJ30, pI30, pJ30, rC30, gI31, gJ31, pI31, pJ31, rC31, gI33, gJ33, pI33, pJ33, rC33, gI36, gJ36, pI36, pJ36, rC36, gI39, gJ39, pI39, pJ39, rC39, gI48, gJ48, pI48, pJ48, rC48, gI51, gJ51, pI51, pJ51, rC51, gI53, gJ53, pI53, pJ53, rC53, gI60, gJ60, pI60, pJ60, rC60, gI64, gJ64, pI64, pJ64, rC64, hF1, nI_add, a1]
            exact b1
          · rw [if_pos cj, b_37_153]
            rw [if_neg cj] at a1
            simp (disch := first | assumption | (repeat' (first | apply fx_sI | apply fx_sJ | assumption | omega))) only [bnd_e, grd_e, grd0, grd1, Option.bind_some, Option.isSome_some, gQ30_0, gQ30_1, gQ30_2, gQ30_3, gQ30_4, gQ30_5, gQ30_6, gQ30_7, gQ30_8, gQ30_9, gQ31_0, gQ33_0, gQ33_1, gQ36_0, gQ36_1, gQ39_0, gQ39_3, gQ39_4, gQ39_6, gQ39_8, gQ39_10, gQ39_11, gQ39_12, gQ48_0, gQ48_1, gQ51_2, gQ53_0, gQ53_1, gQ60_0, gQ60_1, gQ60_2, gQ64_1, gQ64_14, gQ64_15, gQ64_16, gQ64_17, gQ64_18, gQ64_19, gQ64_20, gQ64_21, gQ64_24, gQ64_25, gQ64_27, gQ64_28, gQ64_29, gQ64_30, gQ64_31, gQ64_34, gQ64_35, gQ64_36, gQ64_39, gQ64_40, gQ64_41, gQ64_43, gQ64_44, gQ64_48, gQ64_50, gQ64_51, gQ64_52, gQ64_53, gQ64_54, gQ64_58, gQ64_59, gI30, gJ30, pI30, pJ30, rC30, gI31, gJ31, pI31, pJ31, rC31, gI33, gJ33, pI33, pJ33, rC33, gI36, gJ36, pI36, pJ36, rC36, gI39, gJ39, pI39, pJ39, rC39, gI48, gJ48, pI48, pJ48, rC48, gI51, gJ51, pI51, pJ51, rC51, gI53, gJ53, pI53, pJ53, rC53, gI60, gJ60, pI60, pJ60, rC60, gI64, gJ64, pI64, pJ64, rC64, aI27, aL27, aI28, aL28, aI32, wI32, aL32, aI34, wI34, aL34, aI35, wI35, aL35, aI37, wI37, aL37, aI38, wI38, aL38, aJ40, wJ40, aL40, aI41, wI41, aL41, aI42, wI42, aL42, aI43, wI43, aL43, aI44, wI44, aL44, aI45, wI45, aL45, aI46, wI46, aL46, aI47, wI47, aL47, aI49, wI49, aL49, aI50, wI50, aL50, aI52, wI52, aL52, aI54, wI54, aL54, aI55, wI55, aL55, aL56, aL57, aL58, aI59, wI59, aL59, aI61, wI61, aL61, aL62, aI63, wI63, aL63, aI65, wI65, aL65, aI66, wI66, aL66, aI67, wI67, aL67, aI68, wI68, aL68, aI69, wI69, aL69, aJ70, wJ70, aL70, aJ71, wJ71, aL71, aJ72, wJ72, aL72, aZ73, wZ73, aL73, aI74, wI74, aL74, aI75, wI75, aL75, aJ76, wJ76, aL76, aJ77, wJ77, aL77, aI78, wI78, aL78, aI79, wI79, aL79, aI80, wI80, aL80, aI81, wI81, aL81, aI82, wI82, aL82, aI83, wI83, aL83, aI84, wI84, aL84, aI85, wI85, aL85, aI86, wI86, aL86, aI87, wI87, aL87, aI88, wI88, aL88, aI89, wI89, aL89, aI90, wI90, aL90, aI91, wI91, aL91, aI92, wI92, aL92, aI93, wI93, aL93, aI94, wI94, aL94, aZ95, wZ95, aL95, aI96, wI96, aL96, aJ97, wJ97, aL97, hF1, wv]
            rw [b_37_159]
            simp (disch := first | assumption | (repeat' (first | apply fx_sI | apply fx_sJ | assumption | omega))) only [bnd_e, grd_e, grd0, grd1, Option.bind_some, Option.isSome_some, gQ30_0, gQ30_1, gQ30_2, gQ30_3, gQ30_4, gQ30_5, gQ30_6, gQ30_7, gQ30_8, gQ30_9, gQ31_0, gQ33_0, gQ33_1, gQ36_0, gQ36_1, gQ39_0, gQ39_3, gQ39_4, gQ39_6, gQ39_8, gQ39_10, gQ39_11, gQ39_12, gQ48_0, gQ48_1, gQ51_2, gQ53_0, gQ53_1, gQ60_0, gQ60_1, gQ60_2, gQ64_1, gQ64_14, gQ64_15, gQ64_16, gQ64_17, gQ64_18, gQ64_19, gQ64_20, gQ64_21, gQ64_24, gQ64_25, gQ64_27, gQ64_28, gQ64_29, gQ64_30, gQ64_31, gQ64_34, gQ64_35, gQ64_36, gQ64_39, gQ64_40, gQ64_41, gQ64_43, gQ64_44, gQ64_48, gQ64_50, gQ64_51, gQ64_52, gQ64_53, gQ64_54, gQ64_58, gQ64_59, gI30, gJ30, pI30, pJ30, rC30, gI31, gJ31, pI31, pJ31, rC31, gI33, gJ33, pI33, pJ33, rC33, gI36, gJ36, pI36, pJ36, rC36, gI39, gJ39, pI39, pJ39, rC39, gI48, gJ48, pI48, pJ48, rC48, gI51, gJ51, pI51, pJ51, rC51, gI53, gJ53, pI53, pJ53, rC53, gI60, gJ60, pI60, pJ60, rC60, gI64, gJ64, pI64, pJ64, rC64, hF1, nI_add, a1]
            exact b1
      · rw [if_pos (by decide)]
        exact skip h hC Fz.rfl' (fun _ _ => rfl) (by rw [hPj, hl, hb, if_neg (by decide)]; exact hB)
theorem s_37 (hT : TG τ) (h10 : E 2 ≤ 10) (hA2 : A < 1024) (hc4 : ∀ i, i < E 2 → cur i < 4) (hw : ∀ i, i < E 2 → wt i ≤ 2000) : ∀ (r d fl k : Nat) (t : Nat → Nat) (L : Nat → Nat → Bool) (B : HR) (h : Hp), d + r = E 2 → r < fl → CSr τ E A cur wt h → (∀ i, i < d → A.testBit i = true → hI h 46 i = nI (t i)) → BRc h (E 2) (fun e => A.testBit e) B → k ≤ 2000 * d →
    ∃ g, f_37 fl (some 39) (nI d) (lN (maskL (E 2) L)) (nI k) h = some g ∧ Fz [46, 47, 14000039] h g ∧ BRc g (E 2) (fun e => A.testBit e) (mrg B ((bq E (fun e => A.testBit e) cur wt r d L).map (shf k d t))) ∧ ∀ i, i < d → hI g 46 i = hI h 46 i := by
  intro r
  induction r with
  | zero =>
    intro d fl k t L B h hr hfl hC ht hB hk
    obtain ⟨fl, rfl⟩ : ∃ n, fl = n + 1 := ⟨fl - 1, by omega⟩
    obtain ⟨c1, c2, c3, c4, c5⟩ := id hC
    have bl := bkN_lt hB
    show ∃ g, F_37 (f_37 fl) (some 39) (nI d) (lN (maskL (E 2) L)) (nI k) h = some g ∧ _
    rw [F_37, b_37_0]
    simp (disch := first | assumption | (repeat' (first | apply fx_sI | apply fx_sJ | assumption | omega))) only [bnd_e, grd_e, grd0, grd1, Option.bind_some, Option.isSome_some, gQ30_0, gQ30_1, gQ30_2, gQ30_3, gQ30_4, gQ30_5, gQ30_6, gQ30_7, gQ30_8, gQ30_9, gQ31_0, gQ33_0, gQ33_1, gQ36_0, gQ36_1, gQ39_0, gQ39_3, gQ39_4, gQ39_6, gQ39_8, gQ39_10, gQ39_11, gQ39_12, gQ48_0, gQ48_1, gQ51_2, gQ53_0, gQ53_1, gQ60_0, gQ60_1, gQ60_2, gQ64_1, gQ64_14, gQ64_15, gQ64_16, gQ64_17, gQ64_18, gQ64_19, gQ64_20, gQ64_21, gQ64_24, gQ64_25, gQ64_27, gQ64_28, gQ64_29, gQ64_30, gQ64_31, gQ64_34, gQ64_35, gQ64_36, gQ64_39, gQ64_40, gQ64_41, gQ64_43, gQ64_44, gQ64_48, gQ64_50, gQ64_51, gQ64_52, gQ64_53, gQ64_54, gQ64_58, gQ64_59, gI30, gJ30, pI30, pJ30, rC30, gI31, gJ31, pI31, pJ31, rC31, gI33, gJ33, pI33, pJ33, rC33, gI36, gJ36, pI36, pJ36, rC36, gI39, gJ39, pI39, pJ39, rC39, gI48, gJ48, pI48, pJ48, rC48, gI51, gJ51, pI51, pJ51, rC51, gI53, gJ53, pI53, pJ53, rC53, gI60, gJ60, pI60, pJ60, rC60, gI64, gJ64, pI64, pJ64, rC64, c1, hB.1, nI_ltI]
    by_cases ck : k < bkN B
    · rw [if_pos ck, b_37_10]
      simp (disch := first | assumption | (repeat' (first | apply fx_sI | apply fx_sJ | assumption | omega))) only [gQ_e (K39 c1), c2.1, Option.bind_some, c2.n.2, nI_ltI, show ¬ d < E 2 by omega, if_false]
      rw [b_37_21]
      have F1 : Fix (sI h 39 13 (nI k)) := fx_sI c1 (by omega)
      have ec := cP_e (h := sI h 39 13 (nI k)) (a := 46) (b := 47) (K46 F1) (K47 F1) (by omega) (by omega) (L46 F1) (L47 F1)
      refine ⟨hCopy (sI h 39 13 (nI k)) 46 0 47 0 10, ?_, ?_, ?_, ?_⟩
      · simp (disch := first | assumption | (repeat' (first | apply fx_sI | apply fx_sJ | assumption | omega))) only [bnd_e, grd_e, grd0, grd1, Option.bind_some, Option.isSome_some, gQ30_0, gQ30_1, gQ30_2, gQ30_3, gQ30_4, gQ30_5, gQ30_6, gQ30_7, gQ30_8, gQ30_9, gQ31_0, gQ33_0, gQ33_1, gQ36_0, gQ36_1, gQ39_0, gQ39_3, gQ39_4, gQ39_6, gQ39_8, gQ39_10, gQ39_11, gQ39_12, gQ48_0, gQ48_1, gQ51_2, gQ53_0, gQ53_1, gQ60_0, gQ60_1, gQ60_2, gQ64_1, gQ64_14, gQ64_15, gQ64_16, gQ64_17, gQ64_18, gQ64_19, gQ64_20, gQ64_21, gQ64_24, gQ64_25, gQ64_27, gQ64_28, gQ64_29, gQ64_30, gQ64_31, gQ64_34, gQ64_35, gQ64_36, gQ64_39, gQ64_40, gQ64_41, gQ64_43, gQ64_44, gQ64_48, gQ64_50, gQ64_51, gQ64_52, gQ64_53, gQ64_54, gQ64_58, gQ64_59, gI30, gJ30, pI30, pJ30, rC30, gI31, gJ31, pI31, pJ31, rC31, gI33, gJ33, pI33, pJ33, rC33, gI36, gJ36, pI36, pJ36, rC36, gI39, gJ39, pI39, pJ39, rC39, gI48, gJ48, pI48, pJ48, rC48, gI51, gJ51, pI51, pJ51, rC51, gI53, gJ53, pI53, pJ53, rC53, gI60, gJ60, pI60, pJ60, rC60, gI64, gJ64, pI64, pJ64, rC64, c1, F1, ec]
      · refine ⟨rfl, rfl, rfl, rfl, rfl, rfl, fun a j hl ha hb => ⟨?_, rfl⟩⟩
        rw [hI_copy, if_neg (by intro z; apply ha; rw [z]; simp), hI_sI, if_neg]
        rintro ⟨e1, e2⟩
        apply hb
        rw [e1, e2]
        simp
      · have eb : mrg B ((bq E (fun e => A.testBit e) cur wt 0 d L).map (shf k d t)) = some (k, fun i => if i < d then t i else 0) := by
          show mrg B (some (k + 0, fun i => if i < d then t i else 0)) = _
          cases B with
          | none => rfl
          | some b => rw [mrg_some, if_pos (show k + 0 < b.1 from ck)]; rfl
        rw [eb]
        refine ⟨?_, fun b hb => ?_⟩
        · rw [hI_copy, if_neg (by omega), hI_sI, if_pos ⟨rfl, rfl⟩]; rfl
        · cases hb
          refine ⟨by show k ≤ 20000; omega, fun i hi ha => ?_⟩
          rw [hI_copy, if_pos rfl, pk_cpy_in (by omega) (by omega), show 0 + (i - 0) = i by omega, hI_sI, if_neg (by omega), ht i (by omega) ha]
          show nI (t i) = nI (if i < d then t i else 0)
          rw [if_pos (by omega)]
      · intro i hi
        rw [hI_copy, if_neg (by omega), hI_sI, if_neg (by omega)]
    · rw [if_neg ck, b_37_9]
      refine ⟨h, rfl, Fz.rfl', ?_, fun _ _ => rfl⟩
      cases B with
      | none => exact absurd (show k < 1073741824 by omega) ck
      | some b => rw [mrg_cut _ (by have : ¬ k < b.1 := ck; omega)]; exact hB
  | succ r ih =>
    intro d fl k t L B h hr hfl hC ht hB hk
    obtain ⟨fl, rfl⟩ : ∃ n, fl = n + 1 := ⟨fl - 1, by omega⟩
    obtain ⟨c1, c2, c3, c4, c5⟩ := id hC
    have bl := bkN_lt hB
    show ∃ g, F_37 (f_37 fl) (some 39) (nI d) (lN (maskL (E 2) L)) (nI k) h = some g ∧ _
    rw [F_37, b_37_0]
    simp (disch := first | assumption | (repeat' (first | apply fx_sI | apply fx_sJ | assumption | omega))) only [bnd_e, grd_e, grd0, grd1, Option.bind_some, Option.isSome_some, gQ30_0, gQ30_1, gQ30_2, gQ30_3, gQ30_4, gQ30_5, gQ30_6, gQ30_7, gQ30_8, gQ30_9, gQ31_0, gQ33_0, gQ33_1, gQ36_0, gQ36_1, gQ39_0, gQ39_3, gQ39_4, gQ39_6, gQ39_8, gQ39_10, gQ39_11, gQ39_12, gQ48_0, gQ48_1, gQ51_2, gQ53_0, gQ53_1, gQ60_0, gQ60_1, gQ60_2, gQ64_1, gQ64_14, gQ64_15, gQ64_16, gQ64_17, gQ64_18, gQ64_19, gQ64_20, gQ64_21, gQ64_24, gQ64_25, gQ64_27, gQ64_28, gQ64_29, gQ64_30, gQ64_31, gQ64_34, gQ64_35, gQ64_36, gQ64_39, gQ64_40, gQ64_41, gQ64_43, gQ64_44, gQ64_48, gQ64_50, gQ64_51, gQ64_52, gQ64_53, gQ64_54, gQ64_58, gQ64_59, gI30, gJ30, pI30, pJ30, rC30, gI31, gJ31, pI31, pJ31, rC31, gI33, gJ33, pI33, pJ33, rC33, gI36, gJ36, pI36, pJ36, rC36, gI39, gJ39, pI39, pJ39, rC39, gI48, gJ48, pI48, pJ48, rC48, gI51, gJ51, pI51, pJ51, rC51, gI53, gJ53, pI53, pJ53, rC53, gI60, gJ60, pI60, pJ60, rC60, gI64, gJ64, pI64, pJ64, rC64, c1, hB.1, nI_ltI]
    by_cases ck : k < bkN B
    · rw [if_pos ck, b_37_10]
      simp (disch := first | assumption | (repeat' (first | apply fx_sI | apply fx_sJ | assumption | omega))) only [gQ_e (K39 c1), c2.1, Option.bind_some, c2.n.2, nI_ltI, show d < E 2 by omega, if_true]
      rw [b_37_43]
      simp (disch := first | assumption | (repeat' (first | apply fx_sI | apply fx_sJ | assumption | omega))) only [bnd_e, grd_e, grd0, grd1, Option.bind_some, Option.isSome_some, gQ30_0, gQ30_1, gQ30_2, gQ30_3, gQ30_4, gQ30_5, gQ30_6, gQ30_7, gQ30_8, gQ30_9, gQ31_0, gQ33_0, gQ33_1, gQ36_0, gQ36_1, gQ39_0, gQ39_3, gQ39_4, gQ39_6, gQ39_8, gQ39_10, gQ39_11, gQ39_12, gQ48_0, gQ48_1, gQ51_2, gQ53_0, gQ53_1, gQ60_0, gQ60_1, gQ60_2, gQ64_1, gQ64_14, gQ64_15, gQ64_16, gQ64_17, gQ64_18, gQ64_19, gQ64_20, gQ64_21, gQ64_24, gQ64_25, gQ64_27, gQ64_28, gQ64_29, gQ64_30, gQ64_31, gQ64_34, gQ64_35, gQ64_36, gQ64_39, gQ64_40, gQ64_41, gQ64_43, gQ64_44, gQ64_48, gQ64_50, gQ64_51, gQ64_52, gQ64_53, gQ64_54, gQ64_58, gQ64_59, gI30, gJ30, pI30, pJ30, rC30, gI31, gJ31, pI31, pJ31, rC31, gI33, gJ33, pI33, pJ33, rC33, gI36, gJ36, pI36, pJ36, rC36, gI39, gJ39, pI39, pJ39, rC39, gI48, gJ48, pI48, pJ48, rC48, gI51, gJ51, pI51, pJ51, rC51, gI53, gJ53, pI53, pJ53, rC53, gI60, gJ60, pI60, pJ60, rC60, gI64, gJ64, pI64, pJ64, rC64, c1, c3, nI_has0 (show A < 2147483648 by omega) (show d < 32 by omega)]
      rw [bq_s]
      cases ha : A.testBit d
      · rw [if_neg (fun z => z rfl), b_37_54, if_neg (by decide)]
        obtain ⟨g, a1, a2, a3, a4⟩ := ih (d + 1) fl k t L B h (by omega) (by omega) hC (fun i hi hai => by
          by_cases ci : i = d
          · rw [ci, ha] at hai; cases hai
          · exact ht i (by omega) hai) hB (by omega)
        refine ⟨g, ?_, a2, BRc.out ha a3, fun i hi => a4 i (by omega)⟩
        simp (disch := first | assumption | (repeat' (first | apply fx_sI | apply fx_sJ | assumption | omega))) only [bnd_e, grd_e, grd0, grd1, Option.bind_some, Option.isSome_some, gQ30_0, gQ30_1, gQ30_2, gQ30_3, gQ30_4, gQ30_5, gQ30_6, gQ30_7, gQ30_8, gQ30_9, gQ31_0, gQ33_0, gQ33_1, gQ36_0, gQ36_1, gQ39_0, gQ39_3, gQ39_4, gQ39_6, gQ39_8, gQ39_10, gQ39_11, gQ39_12, gQ48_0, gQ48_1, gQ51_2, gQ53_0, gQ53_1, gQ60_0, gQ60_1, gQ60_2, gQ64_1, gQ64_14, gQ64_15, gQ64_16, gQ64_17, gQ64_18, gQ64_19, gQ64_20, gQ64_21, gQ64_24, gQ64_25, gQ64_27, gQ64_28, gQ64_29, gQ64_30, gQ64_31, gQ64_34, gQ64_35, gQ64_36, gQ64_39, gQ64_40, gQ64_41, gQ64_43, gQ64_44, gQ64_48, gQ64_50, gQ64_51, gQ64_52, gQ64_53, gQ64_54, gQ64_58, gQ64_59, gI30, gJ30, pI30, pJ30, rC30, gI31, gJ31, pI31, pJ31, rC31, gI33, gJ33, pI33, pJ33, rC33, gI36, gJ36, pI36, pJ36, rC36, gI39, gJ39, pI39, pJ39, rC39, gI48, gJ48, pI48, pJ48, rC48, gI51, gJ51, pI51, pJ51, rC51, gI53, gJ53, pI53, pJ53, rC53, gI60, gJ60, pI60, pJ60, rC60, gI64, gJ64, pI64, pJ64, rC64, c1, nI_add, a1]
      · rw [if_pos (by decide), b_37_65, bnd_e, if_pos rfl]
        obtain ⟨m, hm⟩ := FU_ge (4 + 1) (by omega)
        obtain ⟨g, a1, a2, a3, a4⟩ := l_37 (t := t) (L := L) (k := k) (fl := fl) hT h10 hA2 hc4 hw hr hk (fun k t L B h q1 q2 q3 q4 => ih (d + 1) fl k t L B h (by omega) (by omega) q1 q2 q3 q4) 4 0 m B h (by omega) hC ht hB
        refine ⟨g, by rw [hm]; exact a1, a2, ?_, a3⟩
        rw [foR_4, fo_B] at a4
        rw [show d + 1 + r = E 2 by omega, fo_shf (fun h => bq E (fun e => A.testBit e) cur wt r (d + 1) (nxL E L d h))]
        exact a4
    · rw [if_neg ck, b_37_9]
      refine ⟨h, rfl, Fz.rfl', ?_, fun _ _ => rfl⟩
      cases B with
      | none => exact absurd (show k < 1073741824 by omega) ck
      | some b => rw [mrg_cut _ (by have : ¬ k < b.1 := ck; omega)]; exact hB
end SRCH
