/-! the reference searches for the best hangings -/
theorem exB_sn (p : Nat → Bool) (n : Nat) : exB p 0 (n + 1) = (exB p 0 n || p n) := by
  cases h1 : exB p 0 n
  · cases h2 : p n
    · show _ = false
      rw [← Bool.not_eq_true, exB_iff]
      rintro ⟨j, _, h4, h5⟩
      by_cases c : j = n
      · rw [c, h2] at h5; cases h5
      · rw [(exB_iff p n 0).2 ⟨j, by omega, by omega, h5⟩] at h1; cases h1
    · show _ = true
      rw [exB_iff]
      exact ⟨n, by omega, by omega, h2⟩
  · obtain ⟨j, h3, h4, h5⟩ := (exB_iff p n 0).1 h1
    show _ = true
    rw [exB_iff]
    exact ⟨j, by omega, by omega, h5⟩
/-- what is left where the doors below d hang as t says -/
def LT (E : Nat → Nat) (am : Nat → Bool) (t : Nat → Nat) (d : Nat) : Nat → Nat → Bool := fun e g => mayB E e g && !exB (fun i => am i && bit E e g i (t i)) 0 d
theorem LT_0 {E : Nat → Nat} {am : Nat → Bool} {t : Nat → Nat} : LT E am t 0 = fitL E := by
  funext e g
  unfold LT fitL
  show (mayB E e g && !false) = _
  simp
theorem LT_nx {E : Nat → Nat} {am : Nat → Bool} {t : Nat → Nat} {d h e g : Nat} (ha : am d = true) (he : d < e) : nxL E (LT E am t d) d h e g = LT E am (upn t d h) (d + 1) e g := by
  unfold nxL LT spr
  rw [exB_sn, decide_eq_false (by omega), Bool.false_or, bit_comm E d h e g]
  have e1 : exB (fun i => am i && bit E e g i (upn t d h i)) 0 d = exB (fun i => am i && bit E e g i (t i)) 0 d := exB_cg d 0 (fun j _ h2 => by
    unfold upn
    rw [if_neg (by omega)])
  have e2 : upn t d h d = h := by unfold upn; rw [if_pos rfl]
  rw [e1, e2, ha, Bool.true_and]
  cases mayB E e g <;> cases exB (fun i => am i && bit E e g i (t i)) 0 d <;> cases bit E e g d h <;> rfl
theorem LT_sk {E : Nat → Nat} {am : Nat → Bool} {t : Nat → Nat} {d e g : Nat} (ha : am d = false) : LT E am t (d + 1) e g = LT E am t d e g := by
  unfold LT
  rw [exB_sn, ha, Bool.false_and, Bool.or_false]
section HANG
variable {E : Nat → Nat}
/-- what the reference rests on -/
def MSw (h : Hp) (E : Nat → Nat) : Prop := Fix h ∧ NowE h E ∧ Sw h E
theorem MSw.cz {h g : Hp} {Z : List Nat} (hM : MSw h E) (hz : Fz Z h g) (h1 : ∀ z, z ∈ Z → 30 ≤ z % 1000000) (h2 : ∀ z, z ∈ Z → z % 1000000 ≠ 66 ∧ z % 1000000 ≠ 76 ∧ z % 1000000 ≠ 77 ∧ z % 1000000 ≠ 78) : MSw g E := by
  obtain ⟨a, b, c⟩ := hM
  refine ⟨hz.fix a h1, b.cg (hz.I (a := 66) (fun z hz' => (h2 z hz').1)), fun d hd => ?_⟩
  unfold SwD
  rw [hz.I (a := 78) (fun z hz' => (h2 z hz').2.2.2), hz.J (a := 76) (fun z hz' => (h2 z hz').2.1), hz.J (a := 77) (fun z hz' => (h2 z hz').2.2.1)]
  exact c d hd
theorem l_232 {h : Hp} {d g A : Nat} {t : Nat → Nat} (hM : MSw h E) (h10 : E 2 ≤ 10) (hd : d < E 2) (hg : g < 4) (hA : A < 1024) (ht : ∀ e, e < d → A.testBit e = true → hI h 79 e = nI (t e) ∧ t e < 4) : ∀ r e m, e + r = d → l_232_3 (r + 1 + m) (some 64) (nI d) (nI g) (nI A) (nI e) h = some (bI (!exB (fun i => A.testBit i && bit E d g i (t i)) e r), h) := by
  obtain ⟨hF, hE, hS⟩ := hM
  intro r
  induction r with
  | zero =>
    intro e m he
    obtain rfl : e = d := by omega
    rw [show 0 + 1 + m = m + 1 by omega, l_232_3, b_232_3, if_pos (Int32.le_refl _), b_232_44]
    rfl
  | succ r ih =>
    intro e m he
    have es : exB (fun i => A.testBit i && bit E d g i (t i)) e (r + 1) = ((A.testBit e && bit E d g e (t e)) || exB (fun i => A.testBit i && bit E d g i (t i)) (e + 1) r) := rfl
    rw [es, show r + 1 + 1 + m = (r + 1 + m) + 1 by omega, l_232_3, b_232_3, if_neg (by rw [nI_leI (by omega) (by omega)]; omega), b_232_9]
    simp only [s_183 (show A < 2147483648 by omega) (show e < 32 by omega), Option.bind_some, bI_0']
    cases ha : A.testBit e
    · rw [if_pos rfl, b_232_38, bnd_e, nI_add, ih (e + 1) m (by omega), Bool.false_and, Bool.false_or]
    · have hv := ht e (by omega) ha
      rw [if_neg (by decide), b_232_18]
      simp (disch := first | assumption | (repeat' (first | apply fx_sI | apply fx_sJ | assumption | omega))) only [bnd_e, grd_e, grd0, grd1, Option.bind_some, Option.isSome_some, gQ30_0, gQ30_1, gQ30_2, gQ30_3, gQ30_4, gQ30_5, gQ30_6, gQ30_7, gQ30_8, gQ30_9, gQ31_0, gQ33_0, gQ33_1, gQ36_0, gQ36_1, gQ39_0, gQ39_3, gQ39_4, gQ39_6, gQ39_8, gQ39_10, gQ39_11, gQ39_12, gQ48_0, gQ48_1, gQ51_2, gQ53_0, gQ53_1, gQ60_0, gQ60_1, gQ60_2, gQ64_1, gQ64_14, gQ64_15, gQ64_16, gQ64_17, gQ64_18, gQ64_19, gQ64_20, gQ64_21, gQ64_24, gQ64_25, gQ64_27, gQ64_28, gQ64_29, gQ64_30, gQ64_31, gQ64_34, gQ64_35, gQ64_36, gQ64_39, gQ64_40, gQ64_41, gQ64_43, gQ64_44, gQ64_48, gQ64_50, gQ64_51, gQ64_52, gQ64_53, gQ64_54, gQ64_58, gQ64_59, gI30, gJ30, pI30, pJ30, rC30, gI31, gJ31, pI31, pJ31, rC31, gI33, gJ33, pI33, pJ33, rC33, gI36, gJ36, pI36, pJ36, rC36, gI39, gJ39, pI39, pJ39, rC39, gI48, gJ48, pI48, pJ48, rC48, gI51, gJ51, pI51, pJ51, rC51, gI53, gJ53, pI53, pJ53, rC53, gI60, gJ60, pI60, pJ60, rC60, gI64, gJ64, pI64, pJ64, rC64, aI27, aL27, aI28, aL28, aI32, wI32, aL32, aI34, wI34, aL34, aI35, wI35, aL35, aI37, wI37, aL37, aI38, wI38, aL38, aJ40, wJ40, aL40, aI41, wI41, aL41, aI42, wI42, aL42, aI43, wI43, aL43, aI44, wI44, aL44, aI45, wI45, aL45, aI46, wI46, aL46, aI47, wI47, aL47, aI49, wI49, aL49, aI50, wI50, aL50, aI52, wI52, aL52, aI54, wI54, aL54, aI55, wI55, aL55, aL56, aL57, aL58, aI59, wI59, aL59, aI61, wI61, aL61, aL62, aI63, wI63, aL63, aI65, wI65, aL65, aI66, wI66, aL66, aI67, wI67, aL67, aI68, wI68, aL68, aI69, wI69, aL69, aJ70, wJ70, aL70, aJ71, wJ71, aL71, aJ72, wJ72, aL72, aZ73, wZ73, aL73, aI74, wI74, aL74, aI75, wI75, aL75, aJ76, wJ76, aL76, aJ77, wJ77, aL77, aI78, wI78, aL78, aI79, wI79, aL79, aI80, wI80, aL80, aI81, wI81, aL81, aI82, wI82, aL82, aI83, wI83, aL83, aI84, wI84, aL84, aI85, wI85, aL85, aI86, wI86, aL86, aI87, wI87, aL87, aI88, wI88, aL88, aI89, wI89, aL89, aI90, wI90, aL90, aI91, wI91, aL91, aI92, wI92, aL92, aI93, wI93, aL93, aI94, wI94, aL94, aZ95, wZ95, aL95, aI96, wI96, aL96, aJ97, wJ97, aL97, hF, hv.1, s_227 hF hS h10 hd hg (show e < E 2 by omega) hv.2, bI_0']
      cases hb : bit E d g e (t e)
      · rw [if_pos rfl, b_232_38, bnd_e, nI_add, ih (e + 1) m (by omega)]
        rfl
      · rw [if_neg (by decide), b_232_36]
        rfl
theorem s_232 {h : Hp} {d g A : Nat} {t : Nat → Nat} (hM : MSw h E) (h10 : E 2 ≤ 10) (hd : d < E 2) (hg : g < 4) (hA : A < 1024) (ht : ∀ e, e < d → A.testBit e = true → hI h 79 e = nI (t e) ∧ t e < 4) : f_232 (some 64) (nI d) (nI g) (nI A) h = some (bI (!exB (fun i => A.testBit i && bit E d g i (t i)) 0 d), h) := by
  obtain ⟨m, hm⟩ := FU_ge (d + 1) (by omega)
  rw [f_232, b_232_0, bnd_e, hm, l_232 hM h10 hd hg hA ht d 0 m (by omega)]
def wM (bc : Bool) (E : Nat → Nat) (d : Nat) : Nat := if bc = true then 100 * dCs E d + 1 else 10000 + dCs E d
theorem s_231 {h : Hp} {d : Nat} {bc : Bool} (hF : Fix h) (hE : NowE h E) (hd : d < 10) : f_231 (some 64) (nI d) (bI bc) h = some (nI (wM bc E d), h) := by
  have e6 : E (110 + 10 * d + 6) = dCs E d := by unfold dCs; congr 1; omega
  rw [f_231, b_231_0]
  simp only [bI_0']
  unfold wM
  cases bc
  · rw [if_pos rfl, b_231_19, if_neg (by decide)]
    simp (disch := first | assumption | (repeat' (first | apply fx_sI | apply fx_sJ | assumption | omega))) only [bnd_e, grd_e, grd0, grd1, Option.bind_some, Option.isSome_some, gQ30_0, gQ30_1, gQ30_2, gQ30_3, gQ30_4, gQ30_5, gQ30_6, gQ30_7, gQ30_8, gQ30_9, gQ31_0, gQ33_0, gQ33_1, gQ36_0, gQ36_1, gQ39_0, gQ39_3, gQ39_4, gQ39_6, gQ39_8, gQ39_10, gQ39_11, gQ39_12, gQ48_0, gQ48_1, gQ51_2, gQ53_0, gQ53_1, gQ60_0, gQ60_1, gQ60_2, gQ64_1, gQ64_14, gQ64_15, gQ64_16, gQ64_17, gQ64_18, gQ64_19, gQ64_20, gQ64_21, gQ64_24, gQ64_25, gQ64_27, gQ64_28, gQ64_29, gQ64_30, gQ64_31, gQ64_34, gQ64_35, gQ64_36, gQ64_39, gQ64_40, gQ64_41, gQ64_43, gQ64_44, gQ64_48, gQ64_50, gQ64_51, gQ64_52, gQ64_53, gQ64_54, gQ64_58, gQ64_59, gI30, gJ30, pI30, pJ30, rC30, gI31, gJ31, pI31, pJ31, rC31, gI33, gJ33, pI33, pJ33, rC33, gI36, gJ36, pI36, pJ36, rC36, gI39, gJ39, pI39, pJ39, rC39, gI48, gJ48, pI48, pJ48, rC48, gI51, gJ51, pI51, pJ51, rC51, gI53, gJ53, pI53, pJ53, rC53, gI60, gJ60, pI60, pJ60, rC60, gI64, gJ64, pI64, pJ64, rC64, hF, s_205 hF hE hd (show 6 < 10 by omega), e6, nI_add]
    rw [b_231_30]
  · rw [if_neg (by decide), b_231_4, if_pos rfl]
    simp (disch := first | assumption | (repeat' (first | apply fx_sI | apply fx_sJ | assumption | omega))) only [bnd_e, grd_e, grd0, grd1, Option.bind_some, Option.isSome_some, gQ30_0, gQ30_1, gQ30_2, gQ30_3, gQ30_4, gQ30_5, gQ30_6, gQ30_7, gQ30_8, gQ30_9, gQ31_0, gQ33_0, gQ33_1, gQ36_0, gQ36_1, gQ39_0, gQ39_3, gQ39_4, gQ39_6, gQ39_8, gQ39_10, gQ39_11, gQ39_12, gQ48_0, gQ48_1, gQ51_2, gQ53_0, gQ53_1, gQ60_0, gQ60_1, gQ60_2, gQ64_1, gQ64_14, gQ64_15, gQ64_16, gQ64_17, gQ64_18, gQ64_19, gQ64_20, gQ64_21, gQ64_24, gQ64_25, gQ64_27, gQ64_28, gQ64_29, gQ64_30, gQ64_31, gQ64_34, gQ64_35, gQ64_36, gQ64_39, gQ64_40, gQ64_41, gQ64_43, gQ64_44, gQ64_48, gQ64_50, gQ64_51, gQ64_52, gQ64_53, gQ64_54, gQ64_58, gQ64_59, gI30, gJ30, pI30, pJ30, rC30, gI31, gJ31, pI31, pJ31, rC31, gI33, gJ33, pI33, pJ33, rC33, gI36, gJ36, pI36, pJ36, rC36, gI39, gJ39, pI39, pJ39, rC39, gI48, gJ48, pI48, pJ48, rC48, gI51, gJ51, pI51, pJ51, rC51, gI53, gJ53, pI53, pJ53, rC53, gI60, gJ60, pI60, pJ60, rC60, gI64, gJ64, pI64, pJ64, rC64, hF, s_205 hF hE hd (show 6 < 10 by omega), e6, pk_mul, nI_add]
    rw [b_231_30]
def lkI (B : HR) : Int32 := match B with
  | none => -1
  | some b => nI b.1
/-- the best one so far, as the reference holds it -/
def MRr (h : Hp) (n : Nat) (B : HR) : Prop := hI h 64 32 = lkI B ∧ (∀ b, B = some b → b.1 ≤ 200000 ∧ ∀ i, i < n → hI h 80 i = nI (b.2 i))
theorem MRr.cg {h g : Hp} {n : Nat} {B : HR} (hB : MRr h n B) (e1 : hI g 64 32 = hI h 64 32) (e2 : hI g 80 = hI h 80) : MRr g n B := by
  unfold MRr
  rw [e1, e2]
  exact hB
theorem nI_m1 {n : Nat} (h : n < 2147483648) : ¬ nI n = (-1 : Int32) := fun z => by
  have := congrArg Int32.toInt z
  rw [toI_nI h, toI_m1] at this
  omega
theorem l_233c {n : Nat} {R : Option Nat → Int32 → Int32 → Int32 → Hp → Option Hp} (hn : n ≤ 10) : ∀ r i m h, i + r = n → Fix h → (∀ j, j < i → hI h 80 j = hI h 79 j) → ∃ g, l_233_33 R (r + 1 + m) (some 64) (nI n) (nI i) h = some g ∧ Fz [80] h g ∧ ∀ j, j < n → hI g 80 j = hI h 79 j := by
  intro r
  induction r with
  | zero =>
    intro i m h hi hF hj
    obtain rfl : i = n := by omega
    refine ⟨h, ?_, Fz.rfl', hj⟩
    rw [show 0 + 1 + m = m + 1 by omega, l_233_33, b_233_33, if_pos (Int32.le_refl _), b_233_59]
  | succ r ih =>
    intro i m h hi hF hj
    have z1 : Fz [80] h (sI h 80 i (hI h 79 i)) := Fz.sI Fz.rfl' (Or.inl (by simp))
    obtain ⟨g, a1, a2, a3⟩ := ih (i + 1) m (sI h 80 i (hI h 79 i)) (by omega) (fx_sI hF (by omega)) (fun j hj' => by
      rw [hI_sI, hI_sI, if_neg (show ¬ (79 = 80 ∧ j = i) by omega)]
      by_cases c : j = i
      · rw [if_pos ⟨rfl, c⟩, c]
      · rw [if_neg (fun z => c z.2)]; exact hj j (by omega))
    refine ⟨g, ?_, z1.then a2, fun j hj' => by rw [a3 j hj', hI_sI, if_neg (by omega)]⟩
    rw [show r + 1 + 1 + m = (r + 1 + m) + 1 by omega, l_233_33, b_233_33, if_neg (by rw [nI_leI (by omega) (by omega)]; omega), b_233_39]
    simp (disch := first | assumption | (repeat' (first | apply fx_sI | apply fx_sJ | assumption | omega))) only [bnd_e, grd_e, grd0, grd1, Option.bind_some, Option.isSome_some, gQ30_0, gQ30_1, gQ30_2, gQ30_3, gQ30_4, gQ30_5, gQ30_6, gQ30_7, gQ30_8, gQ30_9, gQ31_0, gQ33_0, gQ33_1, gQ36_0, gQ36_1, gQ39_0, gQ39_3, gQ39_4, gQ39_6, gQ39_8, gQ39_10, gQ39_11, gQ39_12, gQ48_0, gQ48_1, gQ51_2, gQ53_0, gQ53_1, gQ60_0, gQ60_1, gQ60_2, gQ64_1, gQ64_14, gQ64_15, gQ64_16, gQ64_17, gQ64_18, gQ64_19, gQ64_20, gQ64_21, gQ64_24, gQ64_25, gQ64_27, gQ64_28, gQ64_29, gQ64_30, gQ64_31, gQ64_34, gQ64_35, gQ64_36, gQ64_39, gQ64_40, gQ64_41, gQ64_43, gQ64_44, gQ64_48, gQ64_50, gQ64_51, gQ64_52, gQ64_53, gQ64_54, gQ64_58, gQ64_59, gI30, gJ30, pI30, pJ30, rC30, gI31, gJ31, pI31, pJ31, rC31, gI33, gJ33, pI33, pJ33, rC33, gI36, gJ36, pI36, pJ36, rC36, gI39, gJ39, pI39, pJ39, rC39, gI48, gJ48, pI48, pJ48, rC48, gI51, gJ51, pI51, pJ51, rC51, gI53, gJ53, pI53, pJ53, rC53, gI60, gJ60, pI60, pJ60, rC60, gI64, gJ64, pI64, pJ64, rC64, aI27, aL27, aI28, aL28, aI32, wI32, aL32, aI34, wI34, aL34, aI35, wI35, aL35, aI37, wI37, aL37, aI38, wI38, aL38, aJ40, wJ40, aL40, aI41, wI41, aL41, aI42, wI42, aL42, aI43, wI43, aL43, aI44, wI44, aL44, aI45, wI45, aL45, aI46, wI46, aL46, aI47, wI47, aL47, aI49, wI49, aL49, aI50, wI50, aL50, aI52, wI52, aL52, aI54, wI54, aL54, aI55, wI55, aL55, aL56, aL57, aL58, aI59, wI59, aL59, aI61, wI61, aL61, aL62, aI63, wI63, aL63, aI65, wI65, aL65, aI66, wI66, aL66, aI67, wI67, aL67, aI68, wI68, aL68, aI69, wI69, aL69, aJ70, wJ70, aL70, aJ71, wJ71, aL71, aJ72, wJ72, aL72, aZ73, wZ73, aL73, aI74, wI74, aL74, aI75, wI75, aL75, aJ76, wJ76, aL76, aJ77, wJ77, aL77, aI78, wI78, aL78, aI79, wI79, aL79, aI80, wI80, aL80, aI81, wI81, aL81, aI82, wI82, aL82, aI83, wI83, aL83, aI84, wI84, aL84, aI85, wI85, aL85, aI86, wI86, aL86, aI87, wI87, aL87, aI88, wI88, aL88, aI89, wI89, aL89, aI90, wI90, aL90, aI91, wI91, aL91, aI92, wI92, aL92, aI93, wI93, aL93, aI94, wI94, aL94, aZ95, wZ95, aL95, aI96, wI96, aL96, aJ97, wJ97, aL97, hF, nI_add]
    exact a1
theorem s_233p {h : Hp} {d k : Nat} {bc : Bool} {B : HR} {R : Option Nat → Int32 → Int32 → Int32 → Hp → Option Hp} (hF : Fix h) (hB : MRr h (E 2) B) (hk : k ≤ 110000) : b_233_0 R (some 64) (nI d) (nI k) (bI bc) h = if k < bkN B then b_233_17 R (some 64) (nI d) (nI k) (bI bc) h else some h := by
  rw [b_233_0]
  simp (disch := first | assumption | (repeat' (first | apply fx_sI | apply fx_sJ | assumption | omega))) only [bnd_e, grd_e, grd0, grd1, Option.bind_some, Option.isSome_some, gQ30_0, gQ30_1, gQ30_2, gQ30_3, gQ30_4, gQ30_5, gQ30_6, gQ30_7, gQ30_8, gQ30_9, gQ31_0, gQ33_0, gQ33_1, gQ36_0, gQ36_1, gQ39_0, gQ39_3, gQ39_4, gQ39_6, gQ39_8, gQ39_10, gQ39_11, gQ39_12, gQ48_0, gQ48_1, gQ51_2, gQ53_0, gQ53_1, gQ60_0, gQ60_1, gQ60_2, gQ64_1, gQ64_14, gQ64_15, gQ64_16, gQ64_17, gQ64_18, gQ64_19, gQ64_20, gQ64_21, gQ64_24, gQ64_25, gQ64_27, gQ64_28, gQ64_29, gQ64_30, gQ64_31, gQ64_34, gQ64_35, gQ64_36, gQ64_39, gQ64_40, gQ64_41, gQ64_43, gQ64_44, gQ64_48, gQ64_50, gQ64_51, gQ64_52, gQ64_53, gQ64_54, gQ64_58, gQ64_59, gI30, gJ30, pI30, pJ30, rC30, gI31, gJ31, pI31, pJ31, rC31, gI33, gJ33, pI33, pJ33, rC33, gI36, gJ36, pI36, pJ36, rC36, gI39, gJ39, pI39, pJ39, rC39, gI48, gJ48, pI48, pJ48, rC48, gI51, gJ51, pI51, pJ51, rC51, gI53, gJ53, pI53, pJ53, rC53, gI60, gJ60, pI60, pJ60, rC60, gI64, gJ64, pI64, pJ64, rC64, hF, hB.1]
  cases B with
  | none => rw [if_pos (show lkI none = -1 from rfl), if_pos (show k < bkN none by show k < 1073741824; omega)]
  | some b =>
    have := (hB.2 b rfl).1
    have e : lkI (some b) = nI b.1 := rfl
    rw [e, if_neg (nI_m1 (by omega)), b_233_8]
    simp (disch := first | assumption | (repeat' (first | apply fx_sI | apply fx_sJ | assumption | omega))) only [bnd_e, grd_e, grd0, grd1, Option.bind_some, Option.isSome_some, gQ30_0, gQ30_1, gQ30_2, gQ30_3, gQ30_4, gQ30_5, gQ30_6, gQ30_7, gQ30_8, gQ30_9, gQ31_0, gQ33_0, gQ33_1, gQ36_0, gQ36_1, gQ39_0, gQ39_3, gQ39_4, gQ39_6, gQ39_8, gQ39_10, gQ39_11, gQ39_12, gQ48_0, gQ48_1, gQ51_2, gQ53_0, gQ53_1, gQ60_0, gQ60_1, gQ60_2, gQ64_1, gQ64_14, gQ64_15, gQ64_16, gQ64_17, gQ64_18, gQ64_19, gQ64_20, gQ64_21, gQ64_24, gQ64_25, gQ64_27, gQ64_28, gQ64_29, gQ64_30, gQ64_31, gQ64_34, gQ64_35, gQ64_36, gQ64_39, gQ64_40, gQ64_41, gQ64_43, gQ64_44, gQ64_48, gQ64_50, gQ64_51, gQ64_52, gQ64_53, gQ64_54, gQ64_58, gQ64_59, gI30, gJ30, pI30, pJ30, rC30, gI31, gJ31, pI31, pJ31, rC31, gI33, gJ33, pI33, pJ33, rC33, gI36, gJ36, pI36, pJ36, rC36, gI39, gJ39, pI39, pJ39, rC39, gI48, gJ48, pI48, pJ48, rC48, gI51, gJ51, pI51, pJ51, rC51, gI53, gJ53, pI53, pJ53, rC53, gI60, gJ60, pI60, pJ60, rC60, gI64, gJ64, pI64, pJ64, rC64, hF, hB.1, e, nI_ltI]
    by_cases c : k < b.1
    · rw [if_pos c, if_pos (show k < bkN (some b) from c)]
    · rw [if_neg c, if_neg (show ¬ k < bkN (some b) from c), b_233_16]
theorem l_233 (hW : WF E) {bc : Bool} {r d k fl : Nat} {t : Nat → Nat} (hr : d + (r + 1) = E 2) (hk : k ≤ 11000 * d) (ht4 : ∀ i, i < d → t i < 4)
    (IH : ∀ (k : Nat) (t : Nat → Nat) (B : HR) (h : Hp), MSw h E → (∀ i, i < d + 1 → hI h 79 i = nI (t i) ∧ t i < 4) → MRr h (E 2) B → k ≤ 11000 * (d + 1) →
      ∃ g, f_233 fl (some 64) (nI (d + 1)) (nI k) (bI bc) h = some g ∧ Fz [79, 80, 33000064] h g ∧ MRr g (E 2) (mrg B ((br E (fun _ => true) (dHg E) (wM bc E) r (d + 1) (LT E (fun _ => true) t (d + 1))).map (shf k (d + 1) t))) ∧ ∀ i, i < d + 1 → hI g 79 i = hI h 79 i) :
    ∀ q j m (B : HR) (h : Hp), j + q = 4 → MSw h E → (∀ i, i < d → hI h 79 i = nI (t i)) → MRr h (E 2) B →
      ∃ g, l_233_63 (f_233 fl) (q + 1 + m) (some 64) (nI d) (nI k) (bI bc) (nI j) h = some g ∧ Fz [79, 80, 33000064] h g ∧ (∀ i, i < d → hI g 79 i = hI h 79 i) ∧
        MRr g (E 2) (foR (fun j => (br E (fun _ => true) (dHg E) (wM bc E) r (d + 1) (nxL E (LT E (fun _ => true) t d) d j)).map (shf (k + (if j = dHg E d then 0 else wM bc E d)) (d + 1) (upn t d j))) (LT E (fun _ => true) t d d) q j B) := by
  have w2 := hW.2.2.1
  have w5 := (hW.2.2.2.2.2.2.1 d (by omega)).1.2.2.2.2.2.2.2.2.1
  have wb : wM bc E d ≤ 11000 := by unfold wM; split <;> omega
  intro q
  induction q with
  | zero =>
    intro j m B h hj hM ht hB
    refine ⟨h, ?_, Fz.rfl', fun _ _ => rfl, hB⟩
    obtain rfl : j = 4 := by omega
    rw [show 0 + 1 + m = m + 1 by omega, l_233_63, b_233_63, if_pos (Int32.le_refl _), b_233_146]
  | succ q ih =>
    intro j m B h hj hM ht hB
    obtain ⟨hF, hE, hS⟩ := id hM
    generalize hf : (fun j => (br E (fun _ => true) (dHg E) (wM bc E) r (d + 1) (nxL E (LT E (fun _ => true) t d) d j)).map (shf (k + (if j = dHg E d then 0 else wM bc E d)) (d + 1) (upn t d j))) = f at *
    have hfj : f j = (br E (fun _ => true) (dHg E) (wM bc E) r (d + 1) (LT E (fun _ => true) (upn t d j) (d + 1))).map (shf (k + (if j = dHg E d then 0 else wM bc E d)) (d + 1) (upn t d j)) := by
      rw [← hf]
      show (br E (fun _ => true) (dHg E) (wM bc E) r (d + 1) (nxL E (LT E (fun _ => true) t d) d j)).map _ = _
      rw [br_cg r (d + 1) _ _ (fun e g h1 _ _ => LT_nx (am := fun _ => true) rfl (by omega))]
    generalize hP : LT E (fun _ => true) t d d = P at *
    have hPj : P j = (mayB E d j && !exB (fun i => bit E d j i (t i)) 0 d) := by rw [← hP]; unfold LT; simp only [Bool.true_and]
    have es : foR f P (q + 1) j B = foR f P q (j + 1) (if P j = true then mrg B (f j) else B) := rfl
    have skip : ∀ h1 : Hp, MSw h1 E → Fz [79, 80, 33000064] h h1 → (∀ i, i < d → hI h1 79 i = hI h 79 i) → MRr h1 (E 2) (if P j = true then mrg B (f j) else B) → ∃ g, b_233_140 (f_233 fl) (l_233_63 (f_233 fl) (q + 1 + m)) (some 64) (nI d) (nI k) (bI bc) (nI j) h1 = some g ∧ Fz [79, 80, 33000064] h g ∧ (∀ i, i < d → hI g 79 i = hI h 79 i) ∧ MRr g (E 2) (foR f P q (j + 1) (if P j = true then mrg B (f j) else B)) := by
      intro h1 d1 d2 d3 d4
      obtain ⟨g, g1, g2, g3, g4⟩ := ih (j + 1) m _ h1 (by omega) d1 (fun i hi => by rw [d3 i hi]; exact ht i hi) d4
      refine ⟨g, ?_, d2.then g2, fun i hi => by rw [g3 i hi, d3 i hi], g4⟩
      rw [b_233_140, bnd_e, nI_add]
      exact g1
    have fm := (hS d (by omega)).1
    have fl16 := fitM_lt E d
    have e183 := s_183 (h := h) (show fitM E d < 2147483648 by omega) (show j < 32 by omega)
    rw [fitM_tb E d (show j < 4 by omega)] at e183
    have pd := pw_lt (show d < 10 by omega)
    have p1 : 1 ≤ 2 ^ d := Nat.one_le_two_pow
    have esh : nI 1 <<< (nI d &&& 31) - nI 1 = nI (2 ^ d - 1) := by rw [nI_1shl (by omega), pk_sub p1]
    have e232 := s_232 (d := d) (g := j) (A := 2 ^ d - 1) (t := t) hM w2 (by omega) (by omega) (by omega) (fun e he _ => ⟨ht e he, ht4 e he⟩)
    have ex : exB (fun i => (2 ^ d - 1).testBit i && bit E d j i (t i)) 0 d = exB (fun i => bit E d j i (t i)) 0 d := exB_cg d 0 (fun i _ h2 => by rw [all_tb (by omega), Bool.true_and])
    rw [ex] at e232
    rw [es, show q + 1 + 1 + m = (q + 1 + m) + 1 by omega, l_233_63, b_233_63, if_neg (by rw [nI_leI (by omega) (by omega)]; omega), b_233_69]
    simp (disch := first | assumption | (repeat' (first | apply fx_sI | apply fx_sJ | assumption | omega))) only [bnd_e, grd_e, grd0, grd1, Option.bind_some, Option.isSome_some, gQ30_0, gQ30_1, gQ30_2, gQ30_3, gQ30_4, gQ30_5, gQ30_6, gQ30_7, gQ30_8, gQ30_9, gQ31_0, gQ33_0, gQ33_1, gQ36_0, gQ36_1, gQ39_0, gQ39_3, gQ39_4, gQ39_6, gQ39_8, gQ39_10, gQ39_11, gQ39_12, gQ48_0, gQ48_1, gQ51_2, gQ53_0, gQ53_1, gQ60_0, gQ60_1, gQ60_2, gQ64_1, gQ64_14, gQ64_15, gQ64_16, gQ64_17, gQ64_18, gQ64_19, gQ64_20, gQ64_21, gQ64_24, gQ64_25, gQ64_27, gQ64_28, gQ64_29, gQ64_30, gQ64_31, gQ64_34, gQ64_35, gQ64_36, gQ64_39, gQ64_40, gQ64_41, gQ64_43, gQ64_44, gQ64_48, gQ64_50, gQ64_51, gQ64_52, gQ64_53, gQ64_54, gQ64_58, gQ64_59, gI30, gJ30, pI30, pJ30, rC30, gI31, gJ31, pI31, pJ31, rC31, gI33, gJ33, pI33, pJ33, rC33, gI36, gJ36, pI36, pJ36, rC36, gI39, gJ39, pI39, pJ39, rC39, gI48, gJ48, pI48, pJ48, rC48, gI51, gJ51, pI51, pJ51, rC51, gI53, gJ53, pI53, pJ53, rC53, gI60, gJ60, pI60, pJ60, rC60, gI64, gJ64, pI64, pJ64, rC64, aI27, aL27, aI28, aL28, aI32, wI32, aL32, aI34, wI34, aL34, aI35, wI35, aL35, aI37, wI37, aL37, aI38, wI38, aL38, aJ40, wJ40, aL40, aI41, wI41, aL41, aI42, wI42, aL42, aI43, wI43, aL43, aI44, wI44, aL44, aI45, wI45, aL45, aI46, wI46, aL46, aI47, wI47, aL47, aI49, wI49, aL49, aI50, wI50, aL50, aI52, wI52, aL52, aI54, wI54, aL54, aI55, wI55, aL55, aL56, aL57, aL58, aI59, wI59, aL59, aI61, wI61, aL61, aL62, aI63, wI63, aL63, aI65, wI65, aL65, aI66, wI66, aL66, aI67, wI67, aL67, aI68, wI68, aL68, aI69, wI69, aL69, aJ70, wJ70, aL70, aJ71, wJ71, aL71, aJ72, wJ72, aL72, aZ73, wZ73, aL73, aI74, wI74, aL74, aI75, wI75, aL75, aJ76, wJ76, aL76, aJ77, wJ77, aL77, aI78, wI78, aL78, aI79, wI79, aL79, aI80, wI80, aL80, aI81, wI81, aL81, aI82, wI82, aL82, aI83, wI83, aL83, aI84, wI84, aL84, aI85, wI85, aL85, aI86, wI86, aL86, aI87, wI87, aL87, aI88, wI88, aL88, aI89, wI89, aL89, aI90, wI90, aL90, aI91, wI91, aL91, aI92, wI92, aL92, aI93, wI93, aL93, aI94, wI94, aL94, aZ95, wZ95, aL95, aI96, wI96, aL96, aJ97, wJ97, aL97, hF, fm, e183, bI_0']
    cases hl : mayB E d j
    · rw [if_pos rfl]
      exact skip h hM Fz.rfl' (fun _ _ => rfl) (by rw [hPj, hl, Bool.false_and, if_neg (by decide)]; exact hB)
    · rw [if_neg (by decide), b_233_83]
      simp (disch := first | assumption | (repeat' (first | apply fx_sI | apply fx_sJ | assumption | omega))) only [bnd_e, grd_e, grd0, grd1, Option.bind_some, Option.isSome_some, gQ30_0, gQ30_1, gQ30_2, gQ30_3, gQ30_4, gQ30_5, gQ30_6, gQ30_7, gQ30_8, gQ30_9, gQ31_0, gQ33_0, gQ33_1, gQ36_0, gQ36_1, gQ39_0, gQ39_3, gQ39_4, gQ39_6, gQ39_8, gQ39_10, gQ39_11, gQ39_12, gQ48_0, gQ48_1, gQ51_2, gQ53_0, gQ53_1, gQ60_0, gQ60_1, gQ60_2, gQ64_1, gQ64_14, gQ64_15, gQ64_16, gQ64_17, gQ64_18, gQ64_19, gQ64_20, gQ64_21, gQ64_24, gQ64_25, gQ64_27, gQ64_28, gQ64_29, gQ64_30, gQ64_31, gQ64_34, gQ64_35, gQ64_36, gQ64_39, gQ64_40, gQ64_41, gQ64_43, gQ64_44, gQ64_48, gQ64_50, gQ64_51, gQ64_52, gQ64_53, gQ64_54, gQ64_58, gQ64_59, gI30, gJ30, pI30, pJ30, rC30, gI31, gJ31, pI31, pJ31, rC31, gI33, gJ33, pI33, pJ33, rC33, gI36, gJ36, pI36, pJ36, rC36, gI39, gJ39, pI39, pJ39, rC39, gI48, gJ48, pI48, pJ48, rC48, gI51, gJ51, pI51, pJ51, rC51, gI53, gJ53, pI53, pJ53, rC53, gI60, gJ60, pI60, pJ60, rC60, gI64, gJ64, pI64, pJ64, rC64, hF, esh, e232, bI_0']
      cases hb : exB (fun i => bit E d j i (t i)) 0 d
      · have hPt : P j = true := by rw [hPj, hl, hb]; rfl
        rw [if_pos (by decide), b_233_101]
        have z1 : Fz [79, 80, 33000064] h (sI h 79 d (nI j)) := Fz.sI Fz.rfl' (Or.inl (by simp))
        have hM1 := hM.cz z1 (by decide) (by decide)
        have hF1 := hM1.1
        have hB1 : MRr (sI h 79 d (nI j)) (E 2) B := hB.cg (by rw [hI_sI, if_neg (by omega)]) (by funext i; rw [hI_sI, if_neg (by omega)])
        obtain ⟨g1, a1, a2, a3, a4⟩ := IH (k + (if j = dHg E d then 0 else wM bc E d)) (upn t d j) B (sI h 79 d (nI j)) hM1 (fun i hi => by
          unfold upn
          rw [hI_sI]
          by_cases ci : i = d
          · rw [if_pos ⟨rfl, ci⟩, if_pos ci]; exact ⟨rfl, by omega⟩
          · rw [if_neg (fun z => ci z.2), if_neg ci]; exact ⟨ht i (by omega), ht4 i (by omega)⟩) hB1 (by split <;> omega)
        have hM2 := hM1.cz a2 (by decide) (by decide)
        have i3 : ∀ i, i < d → hI g1 79 i = hI h 79 i := fun i hi => by rw [a4 i (by omega), hI_sI, if_neg (by omega)]
        obtain ⟨g, b1, b2, b3, b4⟩ := skip g1 hM2 (z1.then a2) i3 (by rw [if_pos hPt, hfj]; exact a3)
        refine ⟨g, ?_, b2, b3, b4⟩
        have hg4 := hW.hg (show d < E 2 by omega)
        have e4 : E (110 + 10 * d + 4) = dHg E d := by unfold dHg; congr 1; omega
        simp (disch := first | assumption | (repeat' (first | apply fx_sI | apply fx_sJ | assumption | omega))) only [bnd_e, grd_e, grd0, grd1, Option.bind_some, Option.isSome_some, gQ30_0, gQ30_1, gQ30_2, gQ30_3, gQ30_4, gQ30_5, gQ30_6, gQ30_7, gQ30_8, gQ30_9, gQ31_0, gQ33_0, gQ33_1, gQ36_0, gQ36_1, gQ39_0, gQ39_3, gQ39_4, gQ39_6, gQ39_8, gQ39_10, gQ39_11, gQ39_12, gQ48_0, gQ48_1, gQ51_2, gQ53_0, gQ53_1, gQ60_0, gQ60_1, gQ60_2, gQ64_1, gQ64_14, gQ64_15, gQ64_16, gQ64_17, gQ64_18, gQ64_19, gQ64_20, gQ64_21, gQ64_24, gQ64_25, gQ64_27, gQ64_28, gQ64_29, gQ64_30, gQ64_31, gQ64_34, gQ64_35, gQ64_36, gQ64_39, gQ64_40, gQ64_41, gQ64_43, gQ64_44, gQ64_48, gQ64_50, gQ64_51, gQ64_52, gQ64_53, gQ64_54, gQ64_58, gQ64_59, gI30, gJ30, pI30, pJ30, rC30, gI31, gJ31, pI31, pJ31, rC31, gI33, gJ33, pI33, pJ33, rC33, gI36, gJ36, pI36, pJ36, rC36, gI39, gJ39, pI39, pJ39, rC39, gI48, gJ48, pI48, pJ48, rC48, gI51, gJ51, pI51, pJ51, rC51, gI53, gJ53, pI53, pJ53, rC53, gI60, gJ60, pI60, pJ60, rC60, gI64, gJ64, pI64, pJ64, rC64, aI27, aL27, aI28, aL28, aI32, wI32, aL32, aI34, wI34, aL34, aI35, wI35, aL35, aI37, wI37, aL37, aI38, wI38, aL38, aJ40, wJ40, aL40, aI41, wI41, aL41, aI42, wI42, aL42, aI43, wI43, aL43, aI44, wI44, aL44, aI45, wI45, aL45, aI46, wI46, aL46, aI47, wI47, aL47, aI49, wI49, aL49, aI50, wI50, aL50, aI52, wI52, aL52, aI54, wI54, aL54, aI55, wI55, aL55, aL56, aL57, aL58, aI59, wI59, aL59, aI61, wI61, aL61, aL62, aI63, wI63, aL63, aI65, wI65, aL65, aI66, wI66, aL66, aI67, wI67, aL67, aI68, wI68, aL68, aI69, wI69, aL69, aJ70, wJ70, aL70, aJ71, wJ71, aL71, aJ72, wJ72, aL72, aZ73, wZ73, aL73, aI74, wI74, aL74, aI75, wI75, aL75, aJ76, wJ76, aL76, aJ77, wJ77, aL77, aI78, wI78, aL78, aI79, wI79, aL79, aI80, wI80, aL80, aI81, wI81, aL81, aI82, wI82, aL82, aI83, wI83, aL83, aI84, wI84, aL84, aI85, wI85, aL85, aI86, wI86, aL86, aI87, wI87, aL87, aI88, wI88, aL88, aI89, wI89, aL89, aI90, wI90, aL90, aI91, wI91, aL91, aI92, wI92, aL92, aI93, wI93, aL93, aI94, wI94, aL94, aZ95, wZ95, aL95, aI96, wI96, aL96, aJ97, wJ97, aL97, hF, hF1, s_205 hF1 hM1.2.1 (show d < 10 by omega) (show 4 < 10 by omega), e4, nI_eq]
        by_cases cj : j = dHg E d
        · rw [if_neg (fun z => z cj), b_233_125, b_233_135]
          rw [if_pos cj] at a1
          simp (disch := first | assumption | (repeat' (first | apply fx_sI | apply fx_sJ | assumption | omega))) only [bnd_e, grd_e, grd0, grd1, Option.bind_some, Option.isSome_some, gQ30_0, gQ30_1, gQ30_2, gQ30_3, gQ30_4, gQ30_5, gQ30_6, gQ30_7, gQ30_8, gQ30_9, gQ31_0, gQ33_0, gQ33_1, gQ36_0, gQ36_1, gQ39_0, gQ39_3, gQ39_4, gQ39_6, gQ39_8, gQ39_10, gQ39_11, gQ39_12, gQ48_0, gQ48_1, gQ51_2, gQ53_0, gQ53_1, gQ60_0, gQ60_1, gQ60_2, gQ64_1, gQ64_14, gQ64_15, gQ64_16, gQ64_17, gQ64_18, gQ64_19, gQ64_20, gQ64_21, gQ64_24, gQ64_25, gQ64_27, gQ64_28, gQ64_29, gQ64_30, gQ64_31, gQ64_34, gQ64_35, gQ64_36, gQ64_39, gQ64_40, gQ64_41, gQ64_43, gQ64_44, gQ64_48, gQ64_50, gQ64_51, gQ64_52, gQ64_53, gQ64_54, gQ64_58, gQ64_59, gI30, gJ30, pI30, pJ30, rC30, gI31, gJ31, pI31, pJ31, rC31, gI33, gJ33, pI33, pJ33, rC33, gI36, gJ36, pI36, pJ36, rC36, gI39, gJ39, pI39, pJ39, rC39, gI48, gJ48, pI48, pJ48, rC48, gI51, gJ51, pI51, pJ51, rC51, gI53, gJ53, pI53, pJ53, rC53, gI60, gJ60, pI60, pJ60, rC60, gI64, gJ64, pI64, pJ64, rC64, hF1, nI_add, a1]
          exact b1
        · rw [if_pos cj, b_233_129]
          rw [if_neg cj] at a1
          simp (disch := first | assumption | (repeat' (first | apply fx_sI | apply fx_sJ | assumption | omega))) only [bnd_e, grd_e, grd0, grd1, Option.bind_some, Option.isSome_some, gQ30_0, gQ30_1, gQ30_2, gQ30_3, gQ30_4, gQ30_5, gQ30_6, gQ30_7, gQ30_8, gQ30_9, gQ31_0, gQ33_0, gQ33_1, gQ36_0, gQ36_1, gQ39_0, gQ39_3, gQ39_4, gQ39_6, gQ39_8, gQ39_10, gQ39_11, gQ39_12, gQ48_0, gQ48_1, gQ51_2, gQ53_0, gQ53_1, gQ60_0, gQ60_1, gQ60_2, gQ64_1, gQ64_14, gQ64_15, gQ64_16, gQ64_17, gQ64_18, gQ64_19, gQ64_20, gQ64_21, gQ64_24, gQ64_25, gQ64_27, gQ64_28, gQ64_29, gQ64_30, gQ64_31, gQ64_34, gQ64_35, gQ64_36, gQ64_39, gQ64_40, gQ64_41, gQ64_43, gQ64_44, gQ64_48, gQ64_50, gQ64_51, gQ64_52, gQ64_53, gQ64_54, gQ64_58, gQ64_59, gI30, gJ30, pI30, pJ30, rC30, gI31, gJ31, pI31, pJ31, rC31, gI33, gJ33, pI33, pJ33, rC33, gI36, gJ36, pI36, pJ36, rC36, gI39, gJ39, pI39, pJ39, rC39, gI48, gJ48, pI48, pJ48, rC48, gI51, gJ51, pI51, pJ51, rC51, gI53, gJ53, pI53, pJ53, rC53, gI60, gJ60, pI60, pJ60, rC60, gI64, gJ64, pI64, pJ64, rC64, hF1, s_231 hF1 hM1.2.1 (show d < 10 by omega)]
          rw [b_233_135]
          simp (disch := first | assumption | (repeat' (first | apply fx_sI | apply fx_sJ | assumption | omega))) only [bnd_e, grd_e, grd0, grd1, Option.bind_some, Option.isSome_some, gQ30_0, gQ30_1, gQ30_2, gQ30_3, gQ30_4, gQ30_5, gQ30_6, gQ30_7, gQ30_8, gQ30_9, gQ31_0, gQ33_0, gQ33_1, gQ36_0, gQ36_1, gQ39_0, gQ39_3, gQ39_4, gQ39_6, gQ39_8, gQ39_10, gQ39_11, gQ39_12, gQ48_0, gQ48_1, gQ51_2, gQ53_0, gQ53_1, gQ60_0, gQ60_1, gQ60_2, gQ64_1, gQ64_14, gQ64_15, gQ64_16, gQ64_17, gQ64_18, gQ64_19, gQ64_20, gQ64_21, gQ64_24, gQ64_25, gQ64_27, gQ64_28, gQ64_29, gQ64_30, gQ64_31, gQ64_34, gQ64_35, gQ64_36, gQ64_39, gQ64_40, gQ64_41, gQ64_43, gQ64_44, gQ64_48, gQ64_50, gQ64_51, gQ64_52, gQ64_53, gQ64_54, gQ64_58, gQ64_59, gI30, gJ30, pI30, pJ30, rC30, gI31, gJ31, pI31, pJ31, rC31, gI33, gJ33, pI33, pJ33, rC33, gI36, gJ36, pI36, pJ36, rC36, gI39, gJ39, pI39, pJ39, rC39, gI48, gJ48, pI48, pJ48, rC48, gI51, gJ51, pI51, pJ51, rC51, gI53, gJ53, pI53, pJ53, rC53, gI60, gJ60, pI60, pJ60, rC60, gI64, gJ64, pI64, pJ64, rC64, hF1, nI_add, a1]
          exact b1
      · rw [if_neg (fun z => z rfl), b_233_98]
        exact skip h hM Fz.rfl' (fun _ _ => rfl) (by rw [hPj, hl, hb, if_neg (by decide)]; exact hB)
theorem s_233 (hW : WF E) {bc : Bool} : ∀ (r d fl k : Nat) (t : Nat → Nat) (B : HR) (h : Hp), d + r = E 2 → r < fl → MSw h E → (∀ i, i < d → hI h 79 i = nI (t i) ∧ t i < 4) → MRr h (E 2) B → k ≤ 11000 * d →
    ∃ g, f_233 fl (some 64) (nI d) (nI k) (bI bc) h = some g ∧ Fz [79, 80, 33000064] h g ∧ MRr g (E 2) (mrg B ((br E (fun _ => true) (dHg E) (wM bc E) r d (LT E (fun _ => true) t d)).map (shf k d t))) ∧ ∀ i, i < d → hI g 79 i = hI h 79 i := by
  have w2 := hW.2.2.1
  have cut : ∀ (h : Hp) (B : HR) (k d : Nat) (t : Nat → Nat) (s : HR), MRr h (E 2) B → k ≤ 110000 → ¬ k < bkN B → mrg B (s.map (shf k d t)) = B := by
    intro h B k d t s hB hk ck
    cases B with
    | none => exact absurd (show k < 1073741824 by omega) ck
    | some b => exact mrg_cut _ (by have : ¬ k < b.1 := ck; omega)
  intro r
  induction r with
  | zero =>
    intro d fl k t B h hr hfl hM ht hB hk
    obtain ⟨fl, rfl⟩ : ∃ n, fl = n + 1 := ⟨fl - 1, by omega⟩
    obtain ⟨hF, hE, hS⟩ := id hM
    show ∃ g, F_233 (f_233 fl) (some 64) (nI d) (nI k) (bI bc) h = some g ∧ _
    rw [F_233, s_233p hF hB (by omega)]
    by_cases ck : k < bkN B
    · rw [if_pos ck, b_233_17]
      obtain rfl : d = E 2 := by omega
      simp (disch := first | assumption | (repeat' (first | apply fx_sI | apply fx_sJ | assumption | omega))) only [bnd_e, grd_e, grd0, grd1, Option.bind_some, Option.isSome_some, gQ30_0, gQ30_1, gQ30_2, gQ30_3, gQ30_4, gQ30_5, gQ30_6, gQ30_7, gQ30_8, gQ30_9, gQ31_0, gQ33_0, gQ33_1, gQ36_0, gQ36_1, gQ39_0, gQ39_3, gQ39_4, gQ39_6, gQ39_8, gQ39_10, gQ39_11, gQ39_12, gQ48_0, gQ48_1, gQ51_2, gQ53_0, gQ53_1, gQ60_0, gQ60_1, gQ60_2, gQ64_1, gQ64_14, gQ64_15, gQ64_16, gQ64_17, gQ64_18, gQ64_19, gQ64_20, gQ64_21, gQ64_24, gQ64_25, gQ64_27, gQ64_28, gQ64_29, gQ64_30, gQ64_31, gQ64_34, gQ64_35, gQ64_36, gQ64_39, gQ64_40, gQ64_41, gQ64_43, gQ64_44, gQ64_48, gQ64_50, gQ64_51, gQ64_52, gQ64_53, gQ64_54, gQ64_58, gQ64_59, gI30, gJ30, pI30, pJ30, rC30, gI31, gJ31, pI31, pJ31, rC31, gI33, gJ33, pI33, pJ33, rC33, gI36, gJ36, pI36, pJ36, rC36, gI39, gJ39, pI39, pJ39, rC39, gI48, gJ48, pI48, pJ48, rC48, gI51, gJ51, pI51, pJ51, rC51, gI53, gJ53, pI53, pJ53, rC53, gI60, gJ60, pI60, pJ60, rC60, gI64, gJ64, pI64, pJ64, rC64, hF, s_203 hF hE, not_true, if_false]
      rw [b_233_25]
      generalize e1 : sI h 64 32 (nI k) = h1
      have F1 : Fix h1 := by rw [← e1]; exact fx_sI hF (by omega)
      have z1 : Fz [79, 80, 33000064] h h1 := by rw [← e1]; exact Fz.sI Fz.rfl' (Or.inr (by simp))
      obtain ⟨m, hm⟩ := FU_ge (E 2 + 1) (by omega)
      obtain ⟨g, a1, a2, a3⟩ := l_233c (R := f_233 fl) w2 (E 2) 0 m h1 (by omega) F1 (fun j hj => absurd hj (Nat.not_lt_zero j))
      refine ⟨g, ?_, z1.then (a2.wid (by intro z hz; simp only [List.mem_cons, List.not_mem_nil, or_false] at hz ⊢; omega)), ?_, fun i hi => ?_⟩
      · simp (disch := first | assumption | (repeat' (first | apply fx_sI | apply fx_sJ | assumption | omega))) only [bnd_e, grd_e, grd0, grd1, Option.bind_some, Option.isSome_some, gQ30_0, gQ30_1, gQ30_2, gQ30_3, gQ30_4, gQ30_5, gQ30_6, gQ30_7, gQ30_8, gQ30_9, gQ31_0, gQ33_0, gQ33_1, gQ36_0, gQ36_1, gQ39_0, gQ39_3, gQ39_4, gQ39_6, gQ39_8, gQ39_10, gQ39_11, gQ39_12, gQ48_0, gQ48_1, gQ51_2, gQ53_0, gQ53_1, gQ60_0, gQ60_1, gQ60_2, gQ64_1, gQ64_14, gQ64_15, gQ64_16, gQ64_17, gQ64_18, gQ64_19, gQ64_20, gQ64_21, gQ64_24, gQ64_25, gQ64_27, gQ64_28, gQ64_29, gQ64_30, gQ64_31, gQ64_34, gQ64_35, gQ64_36, gQ64_39, gQ64_40, gQ64_41, gQ64_43, gQ64_44, gQ64_48, gQ64_50, gQ64_51, gQ64_52, gQ64_53, gQ64_54, gQ64_58, gQ64_59, gI30, gJ30, pI30, pJ30, rC30, gI31, gJ31, pI31, pJ31, rC31, gI33, gJ33, pI33, pJ33, rC33, gI36, gJ36, pI36, pJ36, rC36, gI39, gJ39, pI39, pJ39, rC39, gI48, gJ48, pI48, pJ48, rC48, gI51, gJ51, pI51, pJ51, rC51, gI53, gJ53, pI53, pJ53, rC53, gI60, gJ60, pI60, pJ60, rC60, gI64, gJ64, pI64, pJ64, rC64, hF, e1]
        rw [hm]
        exact a1
      · have eb : mrg B ((br E (fun _ => true) (dHg E) (wM bc E) 0 (E 2) (LT E (fun _ => true) t (E 2))).map (shf k (E 2) t)) = some (k, fun i => if i < E 2 then t i else 0) := by
          show mrg B (some (k + 0, fun i => if i < E 2 then t i else 0)) = _
          cases B with
          | none => rfl
          | some b => rw [mrg_some, if_pos (show k + 0 < b.1 from ck)]; rfl
        rw [eb]
        refine ⟨?_, fun b hb => ?_⟩
        · rw [a2.I1 (by decide) (by decide), ← e1, hI_sI, if_pos ⟨rfl, rfl⟩]; rfl
        · cases hb
          refine ⟨by show k ≤ 200000; omega, fun i hi => ?_⟩
          rw [a3 i hi, ← e1, hI_sI, if_neg (by omega), (ht i hi).1]
          show nI (t i) = nI (if i < E 2 then t i else 0)
          rw [if_pos hi]
      · rw [a2.I (a := 79) (by decide), ← e1, hI_sI, if_neg (by omega)]
    · rw [if_neg ck]
      exact ⟨h, rfl, Fz.rfl', by rw [cut h B k d t _ hB (by omega) ck]; exact hB, fun _ _ => rfl⟩
  | succ r ih =>
    intro d fl k t B h hr hfl hM ht hB hk
    obtain ⟨fl, rfl⟩ : ∃ n, fl = n + 1 := ⟨fl - 1, by omega⟩
    obtain ⟨hF, hE, hS⟩ := id hM
    show ∃ g, F_233 (f_233 fl) (some 64) (nI d) (nI k) (bI bc) h = some g ∧ _
    rw [F_233, s_233p hF hB (by omega)]
    by_cases ck : k < bkN B
    · rw [if_pos ck, b_233_17]
      simp (disch := first | assumption | (repeat' (first | apply fx_sI | apply fx_sJ | assumption | omega))) only [bnd_e, grd_e, grd0, grd1, Option.bind_some, Option.isSome_some, gQ30_0, gQ30_1, gQ30_2, gQ30_3, gQ30_4, gQ30_5, gQ30_6, gQ30_7, gQ30_8, gQ30_9, gQ31_0, gQ33_0, gQ33_1, gQ36_0, gQ36_1, gQ39_0, gQ39_3, gQ39_4, gQ39_6, gQ39_8, gQ39_10, gQ39_11, gQ39_12, gQ48_0, gQ48_1, gQ51_2, gQ53_0, gQ53_1, gQ60_0, gQ60_1, gQ60_2, gQ64_1, gQ64_14, gQ64_15, gQ64_16, gQ64_17, gQ64_18, gQ64_19, gQ64_20, gQ64_21, gQ64_24, gQ64_25, gQ64_27, gQ64_28, gQ64_29, gQ64_30, gQ64_31, gQ64_34, gQ64_35, gQ64_36, gQ64_39, gQ64_40, gQ64_41, gQ64_43, gQ64_44, gQ64_48, gQ64_50, gQ64_51, gQ64_52, gQ64_53, gQ64_54, gQ64_58, gQ64_59, gI30, gJ30, pI30, pJ30, rC30, gI31, gJ31, pI31, pJ31, rC31, gI33, gJ33, pI33, pJ33, rC33, gI36, gJ36, pI36, pJ36, rC36, gI39, gJ39, pI39, pJ39, rC39, gI48, gJ48, pI48, pJ48, rC48, gI51, gJ51, pI51, pJ51, rC51, gI53, gJ53, pI53, pJ53, rC53, gI60, gJ60, pI60, pJ60, rC60, gI64, gJ64, pI64, pJ64, rC64, hF, s_203 hF hE, nI_eq, show ¬ d = E 2 by omega, not_false_eq_true, if_true]
      rw [b_233_60, bnd_e]
      obtain ⟨m, hm⟩ := FU_ge (4 + 1) (by omega)
      obtain ⟨g, a1, a2, a3, a4⟩ := l_233 (bc := bc) (t := t) (k := k) (fl := fl) hW hr hk (fun i hi => (ht i hi).2) (fun k t B h q1 q2 q3 q4 => ih (d + 1) fl k t B h (by omega) (by omega) q1 q2 q3 q4) 4 0 m B h (by omega) hM (fun i hi => (ht i hi).1) hB
      refine ⟨g, by rw [hm]; exact a1, a2, ?_, a3⟩
      rw [foR_4, fo_B] at a4
      rw [br_s, if_pos rfl, fo_shf (fun h => br E (fun _ => true) (dHg E) (wM bc E) r (d + 1) (nxL E (LT E (fun _ => true) t d) d h))]
      exact a4
    · rw [if_neg ck]
      exact ⟨h, rfl, Fz.rfl', by rw [cut h B k d t _ hB (by omega) ck]; exact hB, fun _ _ => rfl⟩
theorem s_234 {h : Hp} {bc : Bool} (hF : Fix h) (hB : Bg h E) (hW : WF E) :
    ∃ g, f_234 (some 64) (bI bc) h = some (lkI (solW E (dHg E) (wM bc E)), g) ∧ Fz [23000064, 66, 27000064, 74, 75, 76, 77, 78, 79, 80, 33000064] h g ∧ MSw g E ∧ hI g 64 22 = 1 ∧ ∀ b, solW E (dHg E) (wM bc E) = some b → b.1 ≤ 200000 ∧ ∀ i, i < E 2 → hI g 80 i = nI (b.2 i) := by
  have w2 := hW.2.2.1
  obtain ⟨h1, a1, a2, a3, a4, a5⟩ := s_225 hF hB hW
  have F1 := a2.fix hF (by decide)
  have z2 : Fz [79, 80, 33000064] h1 (sI h1 64 32 (-1)) := Fz.sI Fz.rfl' (Or.inr (by simp))
  have M2 : MSw (sI h1 64 32 (-1)) E := MSw.cz ⟨F1, a3, a5⟩ z2 (by decide) (by decide)
  obtain ⟨g, b1, b2, b3, b4⟩ := s_233 (bc := bc) hW (E 2) 0 RF 0 (fun _ => 0) none _ (by omega) (by show E 2 < 64; omega) M2 (fun i hi => absurd hi (Nat.not_lt_zero i)) ⟨by rw [hI_sI, if_pos ⟨rfl, rfl⟩]; rfl, fun b hb => by cases hb⟩ (by omega)
  rw [none_mrg, shf_0, LT_0] at b3
  have F2 := M2.1
  have F3 := b2.fix F2 (by decide)
  refine ⟨g, ?_, (a2.wid (by intro z hz; simp only [List.mem_cons, List.not_mem_nil, or_false] at hz ⊢; omega)).then ((z2.wid (by intro z hz; simp only [List.mem_cons, List.not_mem_nil, or_false] at hz ⊢; omega)).then (b2.wid (by intro z hz; simp only [List.mem_cons, List.not_mem_nil, or_false] at hz ⊢; omega))), M2.cz b2 (by decide) (by decide), ?_, b3.2⟩
  · rw [f_234, b_234_0]
    simp (disch := first | assumption | (repeat' (first | apply fx_sI | apply fx_sJ | assumption | omega))) only [bnd_e, grd_e, grd0, grd1, Option.bind_some, Option.isSome_some, gQ30_0, gQ30_1, gQ30_2, gQ30_3, gQ30_4, gQ30_5, gQ30_6, gQ30_7, gQ30_8, gQ30_9, gQ31_0, gQ33_0, gQ33_1, gQ36_0, gQ36_1, gQ39_0, gQ39_3, gQ39_4, gQ39_6, gQ39_8, gQ39_10, gQ39_11, gQ39_12, gQ48_0, gQ48_1, gQ51_2, gQ53_0, gQ53_1, gQ60_0, gQ60_1, gQ60_2, gQ64_1, gQ64_14, gQ64_15, gQ64_16, gQ64_17, gQ64_18, gQ64_19, gQ64_20, gQ64_21, gQ64_24, gQ64_25, gQ64_27, gQ64_28, gQ64_29, gQ64_30, gQ64_31, gQ64_34, gQ64_35, gQ64_36, gQ64_39, gQ64_40, gQ64_41, gQ64_43, gQ64_44, gQ64_48, gQ64_50, gQ64_51, gQ64_52, gQ64_53, gQ64_54, gQ64_58, gQ64_59, gI30, gJ30, pI30, pJ30, rC30, gI31, gJ31, pI31, pJ31, rC31, gI33, gJ33, pI33, pJ33, rC33, gI36, gJ36, pI36, pJ36, rC36, gI39, gJ39, pI39, pJ39, rC39, gI48, gJ48, pI48, pJ48, rC48, gI51, gJ51, pI51, pJ51, rC51, gI53, gJ53, pI53, pJ53, rC53, gI60, gJ60, pI60, pJ60, rC60, gI64, gJ64, pI64, pJ64, rC64, hF, a1, F1, F2, b1, F3, b3.1]
    rfl
  · rw [b2.I1 (by decide) (by decide), z2.I1 (by decide) (by decide)]; exact a4
end HANG
