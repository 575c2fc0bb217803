/-! states of a search as numbers -/
def eN (an : Nat → Nat) : Nat → Nat → Nat
  | 0, v => v
  | d + 1, v => eN an d (3 * v + an d)
def enc (E an : Nat → Nat) (pl : Nat) : Nat := 100 * eN an (E 2) 0 + (pl - 1)
def dcn (E : Nat → Nat) (st : Nat) : Nat → Nat := fun d => if d < E 2 then st / 100 / 3 ^ d % 3 else anE E d
theorem eN_div (an : Nat → Nat) : ∀ n v, (∀ d, d < n → an d < 3) → eN an n v / 3 ^ n = v ∧ ∀ d, d < n → eN an n v / 3 ^ d % 3 = an d := by
  intro n
  induction n with
  | zero => intro v _; exact ⟨by show v / 3 ^ 0 = v; simp, fun d hd => absurd hd (Nat.not_lt_zero d)⟩
  | succ n ih =>
    intro v h3
    obtain ⟨h1, h2⟩ := ih (3 * v + an n) (fun d hd => h3 d (by omega))
    have h4 := h3 n (by omega)
    refine ⟨?_, fun d hd => ?_⟩
    · show eN an n (3 * v + an n) / 3 ^ (n + 1) = v
      rw [Nat.pow_succ, ← Nat.div_div_eq_div_mul, h1]
      omega
    · show eN an n (3 * v + an n) / 3 ^ d % 3 = an d
      by_cases c : d = n
      · subst c; rw [h1]; omega
      · exact h2 d (by omega)
theorem eN_lt {an : Nat → Nat} {n : Nat} (h3 : ∀ d, d < n → an d < 3) : eN an n 0 < 3 ^ n := by
  have h1 := (eN_div an n 0 h3).1
  have hp : 0 < 3 ^ n := Nat.pow_pos (by decide)
  exact (Nat.div_eq_zero_iff_lt hp).1 h1
theorem enc_lt {E an : Nat → Nat} {pl : Nat} (h3 : ∀ d, d < E 2 → an d < 3) (h5 : E 2 ≤ 5) (hp : pl ≤ 100) : enc E an pl < 24300 := by
  have h1 := eN_lt h3
  have h2 : 3 ^ E 2 ≤ 3 ^ 5 := Nat.pow_le_pow_right (by decide) h5
  unfold enc
  omega
theorem enc_dcn {E an : Nat → Nat} {pl : Nat} (h3 : ∀ d, d < E 2 → an d < 3) (ht : ∀ d, E 2 ≤ d → an d = anE E d) (h0 : pl ≠ 0) (hp : pl ≤ 100) : dcn E (enc E an pl) = an ∧ enc E an pl % 100 + 1 = pl := by
  have e1 : enc E an pl / 100 = eN an (E 2) 0 := by unfold enc; omega
  refine ⟨?_, by unfold enc; omega⟩
  funext d
  unfold dcn
  rw [e1]
  by_cases c : d < E 2
  · rw [if_pos c]; exact (eN_div an (E 2) 0 h3).2 d c
  · rw [if_neg c]; exact (ht d (by omega)).symm
theorem dcn_lt {E : Nat → Nat} {st : Nat} : ∀ d, d < E 2 → dcn E st d < 3 := by
  intro d hd
  unfold dcn
  rw [if_pos hd]
  omega
section CODE
variable {τ : Nat → Nat} {E an : Nat → Nat} {pl : Nat}
theorem l_75 {h : Hp} (hF : Fix h) (hS : ScR τ h 53 E an pl) (h10 : E 2 ≤ 10) (h0 : pl ≠ 0) (hp : pl ≤ 100) : ∀ n v m, n ≤ E 2 → l_75_15 (n + 1 + m) (some 51) (nI v) (nI n + (-1)) h = some (nI (100 * eN an n v + (pl - 1)), h) := by
  have h3 := hS.2.2.2
  rw [mI_pos h0] at h3
  intro n
  induction n with
  | zero =>
    intro v m _
    have c : nI 0 + (-1) < 0 := by decide
    rw [show 0 + 1 + m = m + 1 by omega, l_75_15, b_75_15, if_pos c, b_75_39]
    simp (disch := first | assumption | (repeat' (first | apply fx_sI | apply fx_sJ | assumption | omega))) only [bnd_e, grd_e, grd0, grd1, Option.bind_some, Option.isSome_some, gQ30_0, gQ30_1, gQ30_2, gQ30_3, gQ30_4, gQ30_5, gQ30_6, gQ30_7, gQ30_8, gQ30_9, gQ31_0, gQ33_0, gQ33_1, gQ36_0, gQ36_1, gQ39_0, gQ39_3, gQ39_4, gQ39_6, gQ39_8, gQ39_10, gQ39_11, gQ39_12, gQ48_0, gQ48_1, gQ51_2, gQ53_0, gQ53_1, gQ60_0, gQ60_1, gQ60_2, gQ64_1, gQ64_14, gQ64_15, gQ64_16, gQ64_17, gQ64_18, gQ64_19, gQ64_20, gQ64_21, gQ64_24, gQ64_25, gQ64_27, gQ64_28, gQ64_29, gQ64_30, gQ64_31, gQ64_34, gQ64_35, gQ64_36, gQ64_39, gQ64_40, gQ64_41, gQ64_43, gQ64_44, gQ64_48, gQ64_50, gQ64_51, gQ64_52, gQ64_53, gQ64_54, gQ64_58, gQ64_59, gI30, gJ30, pI30, pJ30, rC30, gI31, gJ31, pI31, pJ31, rC31, gI33, gJ33, pI33, pJ33, rC33, gI36, gJ36, pI36, pJ36, rC36, gI39, gJ39, pI39, pJ39, rC39, gI48, gJ48, pI48, pJ48, rC48, gI51, gJ51, pI51, pJ51, rC51, gI53, gJ53, pI53, pJ53, rC53, gI60, gJ60, pI60, pJ60, rC60, gI64, gJ64, pI64, pJ64, rC64, hF, h3, pk_mul, nI_add]
    rfl
  | succ n ih =>
    intro v m hn
    have e : nI (n + 1) + (-1) = nI n := pk_m1 n
    have hv := (hS.2.2.1 n (by omega)).2
    have c : ¬ nI n < 0 := nI_pos (by omega)
    rw [show n + 1 + 1 + m = (n + 1 + m) + 1 by omega, e, l_75_15, b_75_15, if_neg c, b_75_19]
    simp (disch := first | assumption | (repeat' (first | apply fx_sI | apply fx_sJ | assumption | omega))) only [bnd_e, grd_e, grd0, grd1, Option.bind_some, Option.isSome_some, gQ30_0, gQ30_1, gQ30_2, gQ30_3, gQ30_4, gQ30_5, gQ30_6, gQ30_7, gQ30_8, gQ30_9, gQ31_0, gQ33_0, gQ33_1, gQ36_0, gQ36_1, gQ39_0, gQ39_3, gQ39_4, gQ39_6, gQ39_8, gQ39_10, gQ39_11, gQ39_12, gQ48_0, gQ48_1, gQ51_2, gQ53_0, gQ53_1, gQ60_0, gQ60_1, gQ60_2, gQ64_1, gQ64_14, gQ64_15, gQ64_16, gQ64_17, gQ64_18, gQ64_19, gQ64_20, gQ64_21, gQ64_24, gQ64_25, gQ64_27, gQ64_28, gQ64_29, gQ64_30, gQ64_31, gQ64_34, gQ64_35, gQ64_36, gQ64_39, gQ64_40, gQ64_41, gQ64_43, gQ64_44, gQ64_48, gQ64_50, gQ64_51, gQ64_52, gQ64_53, gQ64_54, gQ64_58, gQ64_59, gI30, gJ30, pI30, pJ30, rC30, gI31, gJ31, pI31, pJ31, rC31, gI33, gJ33, pI33, pJ33, rC33, gI36, gJ36, pI36, pJ36, rC36, gI39, gJ39, pI39, pJ39, rC39, gI48, gJ48, pI48, pJ48, rC48, gI51, gJ51, pI51, pJ51, rC51, gI53, gJ53, pI53, pJ53, rC53, gI60, gJ60, pI60, pJ60, rC60, gI64, gJ64, pI64, pJ64, rC64, aI27, aL27, aI28, aL28, aI32, wI32, aL32, aI34, wI34, aL34, aI35, wI35, aL35, aI37, wI37, aL37, aI38, wI38, aL38, aJ40, wJ40, aL40, aI41, wI41, aL41, aI42, wI42, aL42, aI43, wI43, aL43, aI44, wI44, aL44, aI45, wI45, aL45, aI46, wI46, aL46, aI47, wI47, aL47, aI49, wI49, aL49, aI50, wI50, aL50, aI52, wI52, aL52, aI54, wI54, aL54, aI55, wI55, aL55, aL56, aL57, aL58, aI59, wI59, aL59, aI61, wI61, aL61, aL62, aI63, wI63, aL63, aI65, wI65, aL65, aI66, wI66, aL66, aI67, wI67, aL67, aI68, wI68, aL68, aI69, wI69, aL69, aJ70, wJ70, aL70, aJ71, wJ71, aL71, aJ72, wJ72, aL72, aZ73, wZ73, aL73, aI74, wI74, aL74, aI75, wI75, aL75, aJ76, wJ76, aL76, aJ77, wJ77, aL77, aI78, wI78, aL78, aI79, wI79, aL79, aI80, wI80, aL80, aI81, wI81, aL81, aI82, wI82, aL82, aI83, wI83, aL83, aI84, wI84, aL84, aI85, wI85, aL85, aI86, wI86, aL86, aI87, wI87, aL87, aI88, wI88, aL88, aI89, wI89, aL89, aI90, wI90, aL90, aI91, wI91, aL91, aI92, wI92, aL92, aI93, wI93, aL93, aI94, wI94, aL94, aZ95, wZ95, aL95, aI96, wI96, aL96, aJ97, wJ97, aL97, hF, hv, pk_mul, nI_add]
    exact ih (3 * v + an n) m (by omega)
theorem s_75 {h : Hp} (hF : Fix h) (hS : ScR τ h 53 E an pl) (h10 : E 2 ≤ 10) (h0 : pl ≠ 0) (hp : pl ≤ 100) : f_75 (some 51) h = some (nI (enc E an pl), h) := by
  obtain ⟨m, hm⟩ := FU_ge (E 2 + 1) (by omega)
  obtain ⟨p0, hH, p1, p2⟩ := id hS
  obtain ⟨k, ge, t, a0, a1, a2, ⟨f0, f1, f2, f3, f4⟩, hcl, _, hw⟩ := hH
  have e : nI (E 2) - nI 1 = nI (E 2) + (-1) := by rw [nz, nz, zI_neg1, zI_sub, zI_add]; rfl
  rw [f_75, b_75_0]
  simp (disch := first | assumption | (repeat' (first | apply fx_sI | apply fx_sJ | assumption | omega))) only [bnd_e, grd_e, grd0, grd1, Option.bind_some, Option.isSome_some, gQ30_0, gQ30_1, gQ30_2, gQ30_3, gQ30_4, gQ30_5, gQ30_6, gQ30_7, gQ30_8, gQ30_9, gQ31_0, gQ33_0, gQ33_1, gQ36_0, gQ36_1, gQ39_0, gQ39_3, gQ39_4, gQ39_6, gQ39_8, gQ39_10, gQ39_11, gQ39_12, gQ48_0, gQ48_1, gQ51_2, gQ53_0, gQ53_1, gQ60_0, gQ60_1, gQ60_2, gQ64_1, gQ64_14, gQ64_15, gQ64_16, gQ64_17, gQ64_18, gQ64_19, gQ64_20, gQ64_21, gQ64_24, gQ64_25, gQ64_27, gQ64_28, gQ64_29, gQ64_30, gQ64_31, gQ64_34, gQ64_35, gQ64_36, gQ64_39, gQ64_40, gQ64_41, gQ64_43, gQ64_44, gQ64_48, gQ64_50, gQ64_51, gQ64_52, gQ64_53, gQ64_54, gQ64_58, gQ64_59, gI30, gJ30, pI30, pJ30, rC30, gI31, gJ31, pI31, pJ31, rC31, gI33, gJ33, pI33, pJ33, rC33, gI36, gJ36, pI36, pJ36, rC36, gI39, gJ39, pI39, pJ39, rC39, gI48, gJ48, pI48, pJ48, rC48, gI51, gJ51, pI51, pJ51, rC51, gI53, gJ53, pI53, pJ53, rC53, gI60, gJ60, pI60, pJ60, rC60, gI64, gJ64, pI64, pJ64, rC64, hF, gQ_e (K53 hF), p0, gI_e k, f2]
  rw [e, hm, l_75 hF hS h10 h0 hp (E 2) 0 m (Nat.le_refl _)]
  rfl
theorem l_275 {h : Hp} (hF : Fix h) (hM : MS h E an pl) (h10 : E 2 ≤ 10) (h0 : pl ≠ 0) (hp : pl ≤ 100) : ∀ n v m, n ≤ E 2 → l_275_9 (n + 1 + m) (some 64) (nI v) (nI n + (-1)) h = some (nI (100 * eN an n v + (pl - 1)), h) := by
  have h3 := hM.2.2.1
  rw [mI_pos h0] at h3
  intro n
  induction n with
  | zero =>
    intro v m _
    have c : nI 0 + (-1) < 0 := by decide
    rw [show 0 + 1 + m = m + 1 by omega, l_275_9, b_275_9, if_pos c, b_275_30]
    simp (disch := first | assumption | (repeat' (first | apply fx_sI | apply fx_sJ | assumption | omega))) only [bnd_e, grd_e, grd0, grd1, Option.bind_some, Option.isSome_some, gQ30_0, gQ30_1, gQ30_2, gQ30_3, gQ30_4, gQ30_5, gQ30_6, gQ30_7, gQ30_8, gQ30_9, gQ31_0, gQ33_0, gQ33_1, gQ36_0, gQ36_1, gQ39_0, gQ39_3, gQ39_4, gQ39_6, gQ39_8, gQ39_10, gQ39_11, gQ39_12, gQ48_0, gQ48_1, gQ51_2, gQ53_0, gQ53_1, gQ60_0, gQ60_1, gQ60_2, gQ64_1, gQ64_14, gQ64_15, gQ64_16, gQ64_17, gQ64_18, gQ64_19, gQ64_20, gQ64_21, gQ64_24, gQ64_25, gQ64_27, gQ64_28, gQ64_29, gQ64_30, gQ64_31, gQ64_34, gQ64_35, gQ64_36, gQ64_39, gQ64_40, gQ64_41, gQ64_43, gQ64_44, gQ64_48, gQ64_50, gQ64_51, gQ64_52, gQ64_53, gQ64_54, gQ64_58, gQ64_59, gI30, gJ30, pI30, pJ30, rC30, gI31, gJ31, pI31, pJ31, rC31, gI33, gJ33, pI33, pJ33, rC33, gI36, gJ36, pI36, pJ36, rC36, gI39, gJ39, pI39, pJ39, rC39, gI48, gJ48, pI48, pJ48, rC48, gI51, gJ51, pI51, pJ51, rC51, gI53, gJ53, pI53, pJ53, rC53, gI60, gJ60, pI60, pJ60, rC60, gI64, gJ64, pI64, pJ64, rC64, hF, h3, pk_mul, nI_add]
    rfl
  | succ n ih =>
    intro v m hn
    have e : nI (n + 1) + (-1) = nI n := pk_m1 n
    have hv := hM.2.1 n (by omega)
    have c : ¬ nI n < 0 := nI_pos (by omega)
    rw [show n + 1 + 1 + m = (n + 1 + m) + 1 by omega, e, l_275_9, b_275_9, if_neg c, b_275_13]
    simp (disch := first | assumption | (repeat' (first | apply fx_sI | apply fx_sJ | assumption | omega))) only [bnd_e, grd_e, grd0, grd1, Option.bind_some, Option.isSome_some, gQ30_0, gQ30_1, gQ30_2, gQ30_3, gQ30_4, gQ30_5, gQ30_6, gQ30_7, gQ30_8, gQ30_9, gQ31_0, gQ33_0, gQ33_1, gQ36_0, gQ36_1, gQ39_0, gQ39_3, gQ39_4, gQ39_6, gQ39_8, gQ39_10, gQ39_11, gQ39_12, gQ48_0, gQ48_1, gQ51_2, gQ53_0, gQ53_1, gQ60_0, gQ60_1, gQ60_2, gQ64_1, gQ64_14, gQ64_15, gQ64_16, gQ64_17, gQ64_18, gQ64_19, gQ64_20, gQ64_21, gQ64_24, gQ64_25, gQ64_27, gQ64_28, gQ64_29, gQ64_30, gQ64_31, gQ64_34, gQ64_35, gQ64_36, gQ64_39, gQ64_40, gQ64_41, gQ64_43, gQ64_44, gQ64_48, gQ64_50, gQ64_51, gQ64_52, gQ64_53, gQ64_54, gQ64_58, gQ64_59, gI30, gJ30, pI30, pJ30, rC30, gI31, gJ31, pI31, pJ31, rC31, gI33, gJ33, pI33, pJ33, rC33, gI36, gJ36, pI36, pJ36, rC36, gI39, gJ39, pI39, pJ39, rC39, gI48, gJ48, pI48, pJ48, rC48, gI51, gJ51, pI51, pJ51, rC51, gI53, gJ53, pI53, pJ53, rC53, gI60, gJ60, pI60, pJ60, rC60, gI64, gJ64, pI64, pJ64, rC64, aI27, aL27, aI28, aL28, aI32, wI32, aL32, aI34, wI34, aL34, aI35, wI35, aL35, aI37, wI37, aL37, aI38, wI38, aL38, aJ40, wJ40, aL40, aI41, wI41, aL41, aI42, wI42, aL42, aI43, wI43, aL43, aI44, wI44, aL44, aI45, wI45, aL45, aI46, wI46, aL46, aI47, wI47, aL47, aI49, wI49, aL49, aI50, wI50, aL50, aI52, wI52, aL52, aI54, wI54, aL54, aI55, wI55, aL55, aL56, aL57, aL58, aI59, wI59, aL59, aI61, wI61, aL61, aL62, aI63, wI63, aL63, aI65, wI65, aL65, aI66, wI66, aL66, aI67, wI67, aL67, aI68, wI68, aL68, aI69, wI69, aL69, aJ70, wJ70, aL70, aJ71, wJ71, aL71, aJ72, wJ72, aL72, aZ73, wZ73, aL73, aI74, wI74, aL74, aI75, wI75, aL75, aJ76, wJ76, aL76, aJ77, wJ77, aL77, aI78, wI78, aL78, aI79, wI79, aL79, aI80, wI80, aL80, aI81, wI81, aL81, aI82, wI82, aL82, aI83, wI83, aL83, aI84, wI84, aL84, aI85, wI85, aL85, aI86, wI86, aL86, aI87, wI87, aL87, aI88, wI88, aL88, aI89, wI89, aL89, aI90, wI90, aL90, aI91, wI91, aL91, aI92, wI92, aL92, aI93, wI93, aL93, aI94, wI94, aL94, aZ95, wZ95, aL95, aI96, wI96, aL96, aJ97, wJ97, aL97, hF, hv, pk_mul, nI_add]
    exact ih (3 * v + an n) m (by omega)
theorem s_275 {h : Hp} (hF : Fix h) (hM : MS h E an pl) (h10 : E 2 ≤ 10) (h0 : pl ≠ 0) (hp : pl ≤ 100) : f_275 (some 64) h = some (nI (enc E an pl), h) := by
  obtain ⟨m, hm⟩ := FU_ge (E 2 + 1) (by omega)
  have e : nI (E 2) - nI 1 = nI (E 2) + (-1) := by rw [nz, nz, zI_neg1, zI_sub, zI_add]; rfl
  rw [f_275, b_275_0]
  simp (disch := first | assumption | (repeat' (first | apply fx_sI | apply fx_sJ | assumption | omega))) only [bnd_e, grd_e, grd0, grd1, Option.bind_some, Option.isSome_some, gQ30_0, gQ30_1, gQ30_2, gQ30_3, gQ30_4, gQ30_5, gQ30_6, gQ30_7, gQ30_8, gQ30_9, gQ31_0, gQ33_0, gQ33_1, gQ36_0, gQ36_1, gQ39_0, gQ39_3, gQ39_4, gQ39_6, gQ39_8, gQ39_10, gQ39_11, gQ39_12, gQ48_0, gQ48_1, gQ51_2, gQ53_0, gQ53_1, gQ60_0, gQ60_1, gQ60_2, gQ64_1, gQ64_14, gQ64_15, gQ64_16, gQ64_17, gQ64_18, gQ64_19, gQ64_20, gQ64_21, gQ64_24, gQ64_25, gQ64_27, gQ64_28, gQ64_29, gQ64_30, gQ64_31, gQ64_34, gQ64_35, gQ64_36, gQ64_39, gQ64_40, gQ64_41, gQ64_43, gQ64_44, gQ64_48, gQ64_50, gQ64_51, gQ64_52, gQ64_53, gQ64_54, gQ64_58, gQ64_59, gI30, gJ30, pI30, pJ30, rC30, gI31, gJ31, pI31, pJ31, rC31, gI33, gJ33, pI33, pJ33, rC33, gI36, gJ36, pI36, pJ36, rC36, gI39, gJ39, pI39, pJ39, rC39, gI48, gJ48, pI48, pJ48, rC48, gI51, gJ51, pI51, pJ51, rC51, gI53, gJ53, pI53, pJ53, rC53, gI60, gJ60, pI60, pJ60, rC60, gI64, gJ64, pI64, pJ64, rC64, hF, s_203 hF hM.1]
  rw [e, hm, l_275 hF hM h10 h0 hp (E 2) 0 m (Nat.le_refl _)]
  rfl
theorem div3 (x d : Nat) : x / 3 ^ (d + 1) = x / 3 ^ d / 3 := by rw [Nat.pow_succ, Nat.div_div_eq_div_mul]
theorem d100 : decide (¬ (nI 100 : Int32) = 0) = true := by decide
theorem l_76 (hT : TG τ) (h10 : E 2 ≤ 10) {st : Nat} (hst : st < 24300) : ∀ r i m h an, Fix h → ScR τ h 53 E an (st % 100 + 1) → i + r = E 2 → (∀ d, d < i → an d = dcn E st d) →
    ∃ g, l_76_18 (r + 1 + m) (some 51) (nI (st / 100 / 3 ^ i)) (nI i) h = some g ∧ Fz [55] h g ∧ ScR τ g 53 E (dcn E st) (st % 100 + 1) := by
  intro r
  induction r with
  | zero =>
    intro i m h an hF hS hi ha
    obtain rfl : i = E 2 := by omega
    obtain ⟨p0, hH, p1, p2⟩ := id hS
    have hH' := hH
    obtain ⟨k, ge, t, a0, a1, a2, ⟨f0, f1, f2, f3, f4⟩, hcl, _, hw⟩ := hH'
    refine ⟨h, ?_, Fz.rfl', p0, hH, fun d hd => ⟨(p1 d hd).1, by rw [← ha d hd]; exact (p1 d hd).2⟩, p2⟩
    rw [show 0 + 1 + m = m + 1 by omega, l_76_18, b_76_18]
    simp (disch := first | assumption | (repeat' (first | apply fx_sI | apply fx_sJ | assumption | omega))) only [bnd_e, grd_e, grd0, grd1, Option.bind_some, Option.isSome_some, gQ30_0, gQ30_1, gQ30_2, gQ30_3, gQ30_4, gQ30_5, gQ30_6, gQ30_7, gQ30_8, gQ30_9, gQ31_0, gQ33_0, gQ33_1, gQ36_0, gQ36_1, gQ39_0, gQ39_3, gQ39_4, gQ39_6, gQ39_8, gQ39_10, gQ39_11, gQ39_12, gQ48_0, gQ48_1, gQ51_2, gQ53_0, gQ53_1, gQ60_0, gQ60_1, gQ60_2, gQ64_1, gQ64_14, gQ64_15, gQ64_16, gQ64_17, gQ64_18, gQ64_19, gQ64_20, gQ64_21, gQ64_24, gQ64_25, gQ64_27, gQ64_28, gQ64_29, gQ64_30, gQ64_31, gQ64_34, gQ64_35, gQ64_36, gQ64_39, gQ64_40, gQ64_41, gQ64_43, gQ64_44, gQ64_48, gQ64_50, gQ64_51, gQ64_52, gQ64_53, gQ64_54, gQ64_58, gQ64_59, gI30, gJ30, pI30, pJ30, rC30, gI31, gJ31, pI31, pJ31, rC31, gI33, gJ33, pI33, pJ33, rC33, gI36, gJ36, pI36, pJ36, rC36, gI39, gJ39, pI39, pJ39, rC39, gI48, gJ48, pI48, pJ48, rC48, gI51, gJ51, pI51, pJ51, rC51, gI53, gJ53, pI53, pJ53, rC53, gI60, gJ60, pI60, pJ60, rC60, gI64, gJ64, pI64, pJ64, rC64, hF, gQ_e (K53 hF), p0, gI_e k, f2, nI_leI, Nat.le_refl, if_true]
    rw [b_76_54]
  | succ r ih =>
    intro i m h an hF hS hi ha
    obtain ⟨p0, hH, p1, p2⟩ := id hS
    obtain ⟨k, ge, t, a0, a1, a2, ⟨f0, f1, f2, f3, f4⟩, hcl, _, hw⟩ := hH
    have lt : st / 100 / 3 ^ i ≤ st / 100 := Nat.div_le_self _ _
    have hv : dcn E st i = st / 100 / 3 ^ i % 3 := by unfold dcn; rw [if_pos (by omega)]
    have hS1 : ScR τ (sI h 55 i (nI (st / 100 / 3 ^ i % 3))) 53 E (upn an i (st / 100 / 3 ^ i % 3)) (st % 100 + 1) := hS.up (s := 53) hT (Or.inr (Or.inr rfl))
    obtain ⟨g, a1', a2', a3'⟩ := ih (i + 1) m _ _ (fx_sI hF (by omega)) hS1 (by omega) (fun d hd => by
      unfold upn
      by_cases c : d = i
      · rw [if_pos c, c]; exact hv.symm
      · rw [if_neg c]; exact ha d (by omega))
    refine ⟨g, ?_, Fz.then (Fz.sI Fz.rfl' (Or.inl (by simp))) a2', a3'⟩
    rw [show r + 1 + 1 + m = (r + 1 + m) + 1 by omega, l_76_18, b_76_18]
    simp (disch := first | assumption | (repeat' (first | apply fx_sI | apply fx_sJ | assumption | omega))) only [bnd_e, grd_e, grd0, grd1, Option.bind_some, Option.isSome_some, gQ30_0, gQ30_1, gQ30_2, gQ30_3, gQ30_4, gQ30_5, gQ30_6, gQ30_7, gQ30_8, gQ30_9, gQ31_0, gQ33_0, gQ33_1, gQ36_0, gQ36_1, gQ39_0, gQ39_3, gQ39_4, gQ39_6, gQ39_8, gQ39_10, gQ39_11, gQ39_12, gQ48_0, gQ48_1, gQ51_2, gQ53_0, gQ53_1, gQ60_0, gQ60_1, gQ60_2, gQ64_1, gQ64_14, gQ64_15, gQ64_16, gQ64_17, gQ64_18, gQ64_19, gQ64_20, gQ64_21, gQ64_24, gQ64_25, gQ64_27, gQ64_28, gQ64_29, gQ64_30, gQ64_31, gQ64_34, gQ64_35, gQ64_36, gQ64_39, gQ64_40, gQ64_41, gQ64_43, gQ64_44, gQ64_48, gQ64_50, gQ64_51, gQ64_52, gQ64_53, gQ64_54, gQ64_58, gQ64_59, gI30, gJ30, pI30, pJ30, rC30, gI31, gJ31, pI31, pJ31, rC31, gI33, gJ33, pI33, pJ33, rC33, gI36, gJ36, pI36, pJ36, rC36, gI39, gJ39, pI39, pJ39, rC39, gI48, gJ48, pI48, pJ48, rC48, gI51, gJ51, pI51, pJ51, rC51, gI53, gJ53, pI53, pJ53, rC53, gI60, gJ60, pI60, pJ60, rC60, gI64, gJ64, pI64, pJ64, rC64, hF, gQ_e (K53 hF), p0, gI_e k, f2, nI_leI, show ¬ E 2 ≤ i by omega, if_false]
    rw [b_76_32]
    simp (disch := first | assumption | (repeat' (first | apply fx_sI | apply fx_sJ | assumption | omega))) only [bnd_e, grd_e, grd0, grd1, Option.bind_some, Option.isSome_some, gQ30_0, gQ30_1, gQ30_2, gQ30_3, gQ30_4, gQ30_5, gQ30_6, gQ30_7, gQ30_8, gQ30_9, gQ31_0, gQ33_0, gQ33_1, gQ36_0, gQ36_1, gQ39_0, gQ39_3, gQ39_4, gQ39_6, gQ39_8, gQ39_10, gQ39_11, gQ39_12, gQ48_0, gQ48_1, gQ51_2, gQ53_0, gQ53_1, gQ60_0, gQ60_1, gQ60_2, gQ64_1, gQ64_14, gQ64_15, gQ64_16, gQ64_17, gQ64_18, gQ64_19, gQ64_20, gQ64_21, gQ64_24, gQ64_25, gQ64_27, gQ64_28, gQ64_29, gQ64_30, gQ64_31, gQ64_34, gQ64_35, gQ64_36, gQ64_39, gQ64_40, gQ64_41, gQ64_43, gQ64_44, gQ64_48, gQ64_50, gQ64_51, gQ64_52, gQ64_53, gQ64_54, gQ64_58, gQ64_59, gI30, gJ30, pI30, pJ30, rC30, gI31, gJ31, pI31, pJ31, rC31, gI33, gJ33, pI33, pJ33, rC33, gI36, gJ36, pI36, pJ36, rC36, gI39, gJ39, pI39, pJ39, rC39, gI48, gJ48, pI48, pJ48, rC48, gI51, gJ51, pI51, pJ51, rC51, gI53, gJ53, pI53, pJ53, rC53, gI60, gJ60, pI60, pJ60, rC60, gI64, gJ64, pI64, pJ64, rC64, aI27, aL27, aI28, aL28, aI32, wI32, aL32, aI34, wI34, aL34, aI35, wI35, aL35, aI37, wI37, aL37, aI38, wI38, aL38, aJ40, wJ40, aL40, aI41, wI41, aL41, aI42, wI42, aL42, aI43, wI43, aL43, aI44, wI44, aL44, aI45, wI45, aL45, aI46, wI46, aL46, aI47, wI47, aL47, aI49, wI49, aL49, aI50, wI50, aL50, aI52, wI52, aL52, aI54, wI54, aL54, aI55, wI55, aL55, aL56, aL57, aL58, aI59, wI59, aL59, aI61, wI61, aL61, aL62, aI63, wI63, aL63, aI65, wI65, aL65, aI66, wI66, aL66, aI67, wI67, aL67, aI68, wI68, aL68, aI69, wI69, aL69, aJ70, wJ70, aL70, aJ71, wJ71, aL71, aJ72, wJ72, aL72, aZ73, wZ73, aL73, aI74, wI74, aL74, aI75, wI75, aL75, aJ76, wJ76, aL76, aJ77, wJ77, aL77, aI78, wI78, aL78, aI79, wI79, aL79, aI80, wI80, aL80, aI81, wI81, aL81, aI82, wI82, aL82, aI83, wI83, aL83, aI84, wI84, aL84, aI85, wI85, aL85, aI86, wI86, aL86, aI87, wI87, aL87, aI88, wI88, aL88, aI89, wI89, aL89, aI90, wI90, aL90, aI91, wI91, aL91, aI92, wI92, aL92, aI93, wI93, aL93, aI94, wI94, aL94, aZ95, wZ95, aL95, aI96, wI96, aL96, aJ97, wJ97, aL97, hF, d3, ↓pk_rem, pk_div, nI_add, ← div3]
    exact a1'
theorem s_76 {h : Hp} {st : Nat} (hF : Fix h) (hT : TG τ) (hS : ScR τ h 53 E an pl) (h10 : E 2 ≤ 10) (hst : st < 24300) : ∃ g, f_76 (some 51) (nI st) h = some g ∧ Fz [55, 4000053] h g ∧ ScR τ g 53 E (dcn E st) (st % 100 + 1) := by
  obtain ⟨m, hm⟩ := FU_ge (E 2 + 1) (by omega)
  have hS1 : ScR τ (sI h 53 3 (mI (st % 100 + 1))) 53 E an (st % 100 + 1) := hS.mv (s := 53) hT (Or.inr (Or.inr rfl))
  obtain ⟨g, a1, a2, a3⟩ := l_76 hT h10 hst (E 2) 0 m _ _ (fx_sI hF (by omega)) hS1 (by omega) (fun d hd => absurd hd (Nat.not_lt_zero d))
  refine ⟨g, ?_, Fz.then (Fz.sI Fz.rfl' (by decide)) (a2.wid (by intro z hz; simp only [List.mem_cons, List.not_mem_nil, or_false] at hz ⊢; omega)), a3⟩
  rw [f_76, b_76_0]
  simp (disch := first | assumption | (repeat' (first | apply fx_sI | apply fx_sJ | assumption | omega))) only [bnd_e, grd_e, grd0, grd1, Option.bind_some, Option.isSome_some, gQ30_0, gQ30_1, gQ30_2, gQ30_3, gQ30_4, gQ30_5, gQ30_6, gQ30_7, gQ30_8, gQ30_9, gQ31_0, gQ33_0, gQ33_1, gQ36_0, gQ36_1, gQ39_0, gQ39_3, gQ39_4, gQ39_6, gQ39_8, gQ39_10, gQ39_11, gQ39_12, gQ48_0, gQ48_1, gQ51_2, gQ53_0, gQ53_1, gQ60_0, gQ60_1, gQ60_2, gQ64_1, gQ64_14, gQ64_15, gQ64_16, gQ64_17, gQ64_18, gQ64_19, gQ64_20, gQ64_21, gQ64_24, gQ64_25, gQ64_27, gQ64_28, gQ64_29, gQ64_30, gQ64_31, gQ64_34, gQ64_35, gQ64_36, gQ64_39, gQ64_40, gQ64_41, gQ64_43, gQ64_44, gQ64_48, gQ64_50, gQ64_51, gQ64_52, gQ64_53, gQ64_54, gQ64_58, gQ64_59, gI30, gJ30, pI30, pJ30, rC30, gI31, gJ31, pI31, pJ31, rC31, gI33, gJ33, pI33, pJ33, rC33, gI36, gJ36, pI36, pJ36, rC36, gI39, gJ39, pI39, pJ39, rC39, gI48, gJ48, pI48, pJ48, rC48, gI51, gJ51, pI51, pJ51, rC51, gI53, gJ53, pI53, pJ53, rC53, gI60, gJ60, pI60, pJ60, rC60, gI64, gJ64, pI64, pJ64, rC64, hF, d100, ↓pk_rem, pk_div]
  rw [hm]
  rw [show st / 100 / 3 ^ 0 = st / 100 by simp] at a1
  exact a1
end CODE
