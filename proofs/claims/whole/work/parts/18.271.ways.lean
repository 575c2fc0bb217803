/-! how many ways there are -/
def smP (f : Nat → Nat) (P : Nat → Bool) : Nat → Nat
  | 0 => 0
  | n + 1 => smP f P n + (if P n = true then f n else 0)
theorem smP_cg {f g : Nat → Nat} {P Q : Nat → Bool} : ∀ n, (∀ i, i < n → P i = Q i ∧ (P i = true → f i = g i)) → smP f P n = smP g Q n
  | 0, _ => rfl
  | n + 1, h => by
    have h1 := h n (by omega)
    show smP f P n + _ = smP g Q n + _
    rw [smP_cg n (fun i hi => h i (by omega)), ← h1.1]
    split
    · rename_i c; rw [h1.2 c]
    · rfl
theorem smP_or {f : Nat → Nat} {P Q : Nat → Bool} : ∀ n, (∀ i, i < n → ¬ (P i = true ∧ Q i = true)) → smP f (fun i => P i || Q i) n = smP f P n + smP f Q n
  | 0, _ => rfl
  | n + 1, h => by
    have h1 := h n (by omega)
    show smP f (fun i => P i || Q i) n + (if (P n || Q n) = true then f n else 0) = (smP f P n + (if P n = true then f n else 0)) + (smP f Q n + (if Q n = true then f n else 0))
    rw [smP_or n (fun i hi => h i (by omega))]
    cases hp : P n <;> cases hq : Q n
    · simp
    · simp; omega
    · simp; omega
    · exact absurd ⟨hp, hq⟩ h1
theorem smP_k {f : Nat → Nat} {P : Nat → Bool} {k : Nat} : ∀ n, (∀ i, i < n → P i = true → f i = k) → smP f P n = fb_ct P n * k
  | 0, _ => (Nat.zero_mul k).symm
  | n + 1, h => by
    show smP f P n + _ = (fb_ct P n + _) * k
    rw [smP_k n (fun i hi => h i (by omega)), Nat.add_mul]
    cases hp : P n
    · simp
    · rw [if_pos rfl, if_pos rfl, Nat.one_mul, h n (by omega) hp]
theorem pc4 (q : Nat → Bool) : pc (mkM q 4) = fb_ct q 4 := by
  have e : mkM q 4 = (((0 ||| (if q 0 = true then 2 ^ 0 else 0)) ||| (if q 1 = true then 2 ^ 1 else 0)) ||| (if q 2 = true then 2 ^ 2 else 0)) ||| (if q 3 = true then 2 ^ 3 else 0) := rfl
  have f : fb_ct q 4 = (((0 + (if q 0 = true then 1 else 0)) + (if q 1 = true then 1 else 0)) + (if q 2 = true then 1 else 0)) + (if q 3 = true then 1 else 0) := rfl
  rw [e, f]
  cases q 0 <;> cases q 1 <;> cases q 2 <;> cases q 3 <;> decide
def cnt (E : Nat → Nat) : Nat → Nat → (Nat → Nat → Bool) → Nat
  | 0, _, _ => 1
  | r + 1, d, L => smP (fun h => cnt E r (d + 1) (nxL E L d h)) (L d) 4
section WAYS
variable {τ : Nat → Nat} {E : Nat → Nat}
theorem cnt_s (r d : Nat) (L : Nat → Nat → Bool) : cnt E (r + 1) d L = smP (fun h => cnt E r (d + 1) (nxL E L d h)) (L d) 4 := rfl
theorem cnt_cg : ∀ r d (L M : Nat → Nat → Bool), (∀ e g, d ≤ e → e < d + r → g < 4 → L e g = M e g) → cnt E r d L = cnt E r d M := by
  intro r
  induction r with
  | zero => intro d L M _; rfl
  | succ r ih =>
    intro d L M h
    rw [cnt_s, cnt_s]
    apply smP_cg
    intro i hi
    refine ⟨h d i (Nat.le_refl _) (by omega) hi, fun _ => ?_⟩
    exact ih (d + 1) _ _ (fun e g h1 h2 h3 => by unfold nxL; rw [h e g (by omega) (by omega) h3])
theorem cnt_0 : ∀ r d (L : Nat → Nat → Bool) e, d ≤ e → e < d + r → (∀ g, g < 4 → L e g = false) → cnt E r d L = 0 := by
  intro r
  induction r with
  | zero => intro d L e h1 h2; omega
  | succ r ih =>
    intro d L e h1 h2 h4
    rw [cnt_s]
    by_cases c : e = d
    · subst c
      rw [smP_cg (g := fun _ => 0) (Q := fun _ => false) 4 (fun i hi => ⟨h4 i hi, fun z => by rw [h4 i hi] at z; cases z⟩)]
      rfl
    · rw [smP_k (k := 0) 4 (fun i hi _ => ih (d + 1) (nxL E L d i) e (by omega) (by omega) (fun g hg => by unfold nxL; rw [h4 g hg]; rfl)), Nat.mul_zero]
theorem l_41 {h : Hp} {d g : Nat} {L : Nat → Nat → Bool} (hF : Fix h) (hG : HgH τ h E) (h10 : E 2 ≤ 10) (hd : d < E 2) (hg : g < 4) : ∀ r j m, j + r = 4 → l_41_6 (r + 1 + m) (some 39) (lN (maskL (E 2) L)) (nI d) (nI g) (nI (mkM (fun j => L d j && twn E (E 2) L d j g) j)) (nI j) h = some (nI (mkM (fun j => L d j && twn E (E 2) L d j g) 4), h) := by
  intro r
  induction r with
  | zero =>
    intro j m hj
    obtain rfl : j = 4 := by omega
    rw [show 0 + 1 + m = m + 1 by omega, l_41_6, b_41_6, if_pos (Int32.le_refl _), b_41_73]
  | succ r ih =>
    intro j m hj
    have ih' := ih (j + 1) m (by omega)
    have es : mkM (fun j => L d j && twn E (E 2) L d j g) (j + 1) = mkM (fun j => L d j && twn E (E 2) L d j g) j ||| (if (L d j && twn E (E 2) L d j g) = true then 2 ^ j else 0) := rfl
    rw [es] at ih'
    generalize mkM (fun j => L d j && twn E (E 2) L d j g) j = v at *
    have e47 : ∀ b : Bool, b = (L d j && twn E (E 2) L d j g) → b_41_47 (l_41_6 (r + 1 + m)) (some 39) (lN (maskL (E 2) L)) (nI d) (nI g) (nI v) (nI j) (bI b) h = some (nI (mkM (fun j => L d j && twn E (E 2) L d j g) 4), h) := by
      intro b hb
      rw [b_41_47]
      simp only [bI_0']
      rw [← hb] at ih'
      cases b
      · rw [if_pos rfl, b_41_63, b_41_64, fa_or, bnd_e, bnd_e, nI_add]
        rw [if_neg (by decide)] at ih'
        exact ih'
      · rw [if_neg (by decide), b_41_56, b_41_64, nI_1shl (by omega), fa_or, bnd_e, bnd_e, nI_add]
        rw [if_pos rfl] at ih'
        exact ih'
    rw [show r + 1 + 1 + m = (r + 1 + m) + 1 by omega, l_41_6, b_41_6, if_neg (by rw [nI_leI (by omega) (by omega)]; omega), b_41_12]
    simp (disch := first | assumption | (repeat' (first | apply fx_sI | apply fx_sJ | assumption | omega))) only [s_31 h10 hd (show j < 4 by omega), Option.bind_some, bI_0']
    cases hl : L d j
    · rw [if_pos rfl, b_41_46]
      exact e47 false (by rw [hl]; rfl)
    · rw [if_neg (by decide), b_41_22]
      simp (disch := first | assumption | (repeat' (first | apply fx_sI | apply fx_sJ | assumption | omega))) only [bnd_e, grd_e, grd0, grd1, Option.bind_some, Option.isSome_some, gQ30_0, gQ30_1, gQ30_2, gQ30_3, gQ30_4, gQ30_5, gQ30_6, gQ30_7, gQ30_8, gQ30_9, gQ31_0, gQ33_0, gQ33_1, gQ36_0, gQ36_1, gQ39_0, gQ39_3, gQ39_4, gQ39_6, gQ39_8, gQ39_10, gQ39_11, gQ39_12, gQ48_0, gQ48_1, gQ51_2, gQ53_0, gQ53_1, gQ60_0, gQ60_1, gQ60_2, gQ64_1, gQ64_14, gQ64_15, gQ64_16, gQ64_17, gQ64_18, gQ64_19, gQ64_20, gQ64_21, gQ64_24, gQ64_25, gQ64_27, gQ64_28, gQ64_29, gQ64_30, gQ64_31, gQ64_34, gQ64_35, gQ64_36, gQ64_39, gQ64_40, gQ64_41, gQ64_43, gQ64_44, gQ64_48, gQ64_50, gQ64_51, gQ64_52, gQ64_53, gQ64_54, gQ64_58, gQ64_59, gI30, gJ30, pI30, pJ30, rC30, gI31, gJ31, pI31, pJ31, rC31, gI33, gJ33, pI33, pJ33, rC33, gI36, gJ36, pI36, pJ36, rC36, gI39, gJ39, pI39, pJ39, rC39, gI48, gJ48, pI48, pJ48, rC48, gI51, gJ51, pI51, pJ51, rC51, gI53, gJ53, pI53, pJ53, rC53, gI60, gJ60, pI60, pJ60, rC60, gI64, gJ64, pI64, pJ64, rC64, hF, s_33 hF hG h10 hd (show j < 4 by omega), s_33 hF hG h10 hd hg, lc0, twn_msk h10]
      cases ht : twn E (E 2) L d j g
      · rw [if_pos (by decide), b_41_46]
        exact e47 false (by rw [hl, ht]; rfl)
      · rw [if_neg (fun z => z rfl), b_41_42]
        exact e47 true (by rw [hl, ht]; rfl)
theorem s_41 {h : Hp} {d g : Nat} {L : Nat → Nat → Bool} (hF : Fix h) (hG : HgH τ h E) (h10 : E 2 ≤ 10) (hd : d < E 2) (hg : g < 4) : f_41 (some 39) (lN (maskL (E 2) L)) (nI d) (nI g) h = some (nI (mkM (fun j => L d j && twn E (E 2) L d j g) 4), h) := by
  obtain ⟨m, hm⟩ := FU_ge (4 + 1) (by omega)
  rw [f_41, b_41_0, bnd_e, bnd_e, hm]
  exact l_41 hF hG h10 hd hg 4 0 m (by omega)
theorem twn_sy {n d g h : Nat} {L : Nat → Nat → Bool} (a : twn E n L d g h = true) : twn E n L d h g = true := twn_iff.2 (fun e j h1 h2 h3 => (twn_iff.1 a e j h1 h2 h3).symm)
theorem l_40 {h : Hp} (hF : Fix h) (hG : HgH τ h E) (h10 : E 2 ≤ 10) (hA : hI h 39 14 = nI (2 ^ E 2 - 1)) {r d fl : Nat} {L : Nat → Nat → Bool} (hr : d + (r + 1) = E 2)
    (IH : ∀ (L : Nat → Nat → Bool), f_40 fl (some 39) (nI (d + 1)) (lN (maskL (E 2) L)) h = some (nI (cnt E r (d + 1) L), h)) :
    ∀ q j m (C : Nat), j + q = 4 → C < 16 → (∀ g, g < 4 → C.testBit g = true → L d g = true ∧ ∀ g', g' < 4 → L d g' = true → twn E (E 2) L d g' g = true → C.testBit g' = true) → (∀ g, g < j → L d g = true → C.testBit g = true) →
      l_40_22 (f_40 fl) (q + 1 + m) (some 39) (nI d) (lN (maskL (E 2) L)) (nI (smP (fun g => cnt E r (d + 1) (nxL E L d g)) (fun g => C.testBit g) 4)) (nI C) (nI j) h = some (nI (cnt E (r + 1) d L), h) := by
  intro q
  induction q with
  | zero =>
    intro j m C hj hC h1 h2
    obtain rfl : j = 4 := by omega
    rw [show 0 + 1 + m = m + 1 by omega, l_40_22, b_40_22, if_pos (Int32.le_refl _), b_40_126, cnt_s]
    rw [smP_cg (g := fun g => cnt E r (d + 1) (nxL E L d g)) (Q := L d) 4 (fun i hi => ⟨?_, fun _ => rfl⟩)]
    cases hl : L d i
    · cases hc : C.testBit i
      · rfl
      · rw [(h1 i hi hc).1] at hl; cases hl
    · exact h2 i hi hl
  | succ q ih =>
    intro j m C hj hC h1 h2
    rw [show q + 1 + 1 + m = (q + 1 + m) + 1 by omega, l_40_22, b_40_22, if_neg (by rw [nI_leI (by omega) (by omega)]; omega), b_40_28]
    simp (disch := first | assumption | (repeat' (first | apply fx_sI | apply fx_sJ | assumption | omega))) only [s_31 h10 (show d < E 2 by omega) (show j < 4 by omega), Option.bind_some, bI_0']
    cases hl : L d j
    · rw [if_pos rfl, b_40_120, bnd_e, nI_add]
      refine ih (j + 1) m C (by omega) hC h1 (fun g hg hlg => ?_)
      by_cases c : g = j
      · rw [c, hl] at hlg; cases hlg
      · exact h2 g (by omega) hlg
    · rw [if_neg (by decide), b_40_38]
      simp only [nI_has0 (show C < 2147483648 by omega) (show j < 32 by omega)]
      cases hc : C.testBit j
      · rw [if_neg (fun z => z rfl), b_40_48]
        generalize hT : (fun g => L d g && twn E (E 2) L d g j) = T
        have hTg : ∀ g, T g = (L d g && twn E (E 2) L d g j) := fun g => by rw [← hT]
        have e41 := s_41 (L := L) (g := j) hF hG h10 (show d < E 2 by omega) (by omega)
        rw [hT] at e41
        have tl : mkM T 4 < 16 := mkM_lt T 4
        have e32 := s_32 (d := d + 1) (L := nxL E L d j) hF hG h10 hA (all_lt h10) (by omega)
        have tb : ∀ g, g < 4 → (C ||| mkM T 4).testBit g = (C.testBit g || T g) := fun g hg => by rw [Nat.testBit_or, mkM_tb, decide_eq_true hg, Bool.true_and]
        have sum : smP (fun g => cnt E r (d + 1) (nxL E L d g)) (fun g => C.testBit g) 4 + pc (mkM T 4) * cnt E r (d + 1) (nxL E L d j) = smP (fun g => cnt E r (d + 1) (nxL E L d g)) (fun g => (C ||| mkM T 4).testBit g) 4 := by
          rw [smP_cg (g := fun g => cnt E r (d + 1) (nxL E L d g)) (P := fun g => (C ||| mkM T 4).testBit g) (Q := fun g => C.testBit g || T g) 4 (fun i hi => ⟨tb i hi, fun _ => rfl⟩), smP_or 4 (fun i hi z => ?_), smP_k (P := T) (k := cnt E r (d + 1) (nxL E L d j)) 4 (fun i hi z => ?_), pc4]
          · rw [hTg, Bool.and_eq_true] at z
            exact cnt_cg r (d + 1) _ _ (fun e g p1 p2 p3 => twn_iff.1 z.2 e g (by omega) (by omega) p3)
          · have z2 := z.2
            rw [hTg, Bool.and_eq_true] at z2
            have := (h1 i hi z.1).2 j (by omega) hl (twn_sy z2.2)
            rw [hc] at this; cases this
        have nxt : ∀ x : Nat, x = cnt E r (d + 1) (nxL E L d j) → b_40_105 (f_40 fl) (l_40_22 (f_40 fl) (q + 1 + m)) (some 39) (nI d) (lN (maskL (E 2) L)) (nI (smP (fun g => cnt E r (d + 1) (nxL E L d g)) (fun g => C.testBit g) 4)) (nI (C ||| mkM T 4)) (nI j) (nI (mkM T 4)) (nI x) h = some (nI (cnt E (r + 1) d L), h) := by
          intro x hx
          rw [b_40_105]
          simp (disch := first | assumption | (repeat' (first | apply fx_sI | apply fx_sJ | assumption | omega))) only [s_302 (show mkM T 4 < 1024 by omega), Option.bind_some]
          rw [bnd_e, hx, pk_mul, nI_add, sum, b_40_120, bnd_e, nI_add]
          refine ih (j + 1) m (C ||| mkM T 4) (by omega) (or_lt (k := 4) hC tl) (fun g hg hcg => ?_) (fun g hg hlg => ?_)
          · rw [tb g hg, Bool.or_eq_true] at hcg
            rcases hcg with z | z
            · refine ⟨(h1 g hg z).1, fun g' hg' p1 p2 => ?_⟩
              rw [tb g' hg', (h1 g hg z).2 g' hg' p1 p2, Bool.true_or]
            · rw [hTg, Bool.and_eq_true] at z
              refine ⟨z.1, fun g' hg' p1 p2 => ?_⟩
              rw [tb g' hg', hTg, p1, twn_tr p2 z.2]
              simp
          · rw [tb g (by omega)]
            by_cases c : g = j
            · rw [c, hTg, hl, twn_rf]; simp
            · rw [h2 g (by omega) hlg, Bool.true_or]
        simp (disch := first | assumption | (repeat' (first | apply fx_sI | apply fx_sJ | assumption | omega))) only [bnd_e, grd_e, grd0, grd1, Option.bind_some, Option.isSome_some, gQ30_0, gQ30_1, gQ30_2, gQ30_3, gQ30_4, gQ30_5, gQ30_6, gQ30_7, gQ30_8, gQ30_9, gQ31_0, gQ33_0, gQ33_1, gQ36_0, gQ36_1, gQ39_0, gQ39_3, gQ39_4, gQ39_6, gQ39_8, gQ39_10, gQ39_11, gQ39_12, gQ48_0, gQ48_1, gQ51_2, gQ53_0, gQ53_1, gQ60_0, gQ60_1, gQ60_2, gQ64_1, gQ64_14, gQ64_15, gQ64_16, gQ64_17, gQ64_18, gQ64_19, gQ64_20, gQ64_21, gQ64_24, gQ64_25, gQ64_27, gQ64_28, gQ64_29, gQ64_30, gQ64_31, gQ64_34, gQ64_35, gQ64_36, gQ64_39, gQ64_40, gQ64_41, gQ64_43, gQ64_44, gQ64_48, gQ64_50, gQ64_51, gQ64_52, gQ64_53, gQ64_54, gQ64_58, gQ64_59, gI30, gJ30, pI30, pJ30, rC30, gI31, gJ31, pI31, pJ31, rC31, gI33, gJ33, pI33, pJ33, rC33, gI36, gJ36, pI36, pJ36, rC36, gI39, gJ39, pI39, pJ39, rC39, gI48, gJ48, pI48, pJ48, rC48, gI51, gJ51, pI51, pJ51, rC51, gI53, gJ53, pI53, pJ53, rC53, gI60, gJ60, pI60, pJ60, rC60, gI64, gJ64, pI64, pJ64, rC64, aI27, aL27, aI28, aL28, aI32, wI32, aL32, aI34, wI34, aL34, aI35, wI35, aL35, aI37, wI37, aL37, aI38, wI38, aL38, aJ40, wJ40, aL40, aI41, wI41, aL41, aI42, wI42, aL42, aI43, wI43, aL43, aI44, wI44, aL44, aI45, wI45, aL45, aI46, wI46, aL46, aI47, wI47, aL47, aI49, wI49, aL49, aI50, wI50, aL50, aI52, wI52, aL52, aI54, wI54, aL54, aI55, wI55, aL55, aL56, aL57, aL58, aI59, wI59, aL59, aI61, wI61, aL61, aL62, aI63, wI63, aL63, aI65, wI65, aL65, aI66, wI66, aL66, aI67, wI67, aL67, aI68, wI68, aL68, aI69, wI69, aL69, aJ70, wJ70, aL70, aJ71, wJ71, aL71, aJ72, wJ72, aL72, aZ73, wZ73, aL73, aI74, wI74, aL74, aI75, wI75, aL75, aJ76, wJ76, aL76, aJ77, wJ77, aL77, aI78, wI78, aL78, aI79, wI79, aL79, aI80, wI80, aL80, aI81, wI81, aL81, aI82, wI82, aL82, aI83, wI83, aL83, aI84, wI84, aL84, aI85, wI85, aL85, aI86, wI86, aL86, aI87, wI87, aL87, aI88, wI88, aL88, aI89, wI89, aL89, aI90, wI90, aL90, aI91, wI91, aL91, aI92, wI92, aL92, aI93, wI93, aL93, aI94, wI94, aL94, aZ95, wZ95, aL95, aI96, wI96, aL96, aJ97, wJ97, aL97, hF, e41, fa_or, pk_mul, nI_add, hG.2.2.2 (4 * d + j) (show 4 * d + j < 4 * E 2 by omega), fb_andL, nx_msk (show j < 4 by omega), e32, bI_0']
        cases he : ehs (E 2) (fun e => (2 ^ E 2 - 1).testBit e) (nxL E L d j) (d + 1)
        · rw [if_pos rfl, b_40_104]
          refine nxt 0 ?_
          unfold ehs at he
          have hb : exB (fun e => (2 ^ E 2 - 1).testBit e && !exB (nxL E L d j e) 0 4) (d + 1) (E 2 - (d + 1)) = true := by
            cases hx : exB (fun e => (2 ^ E 2 - 1).testBit e && !exB (nxL E L d j e) 0 4) (d + 1) (E 2 - (d + 1))
            · rw [hx] at he; cases he
            · rfl
          obtain ⟨e, p1, p2, p3⟩ := (exB_iff _ _ _).1 hb
          rw [Bool.and_eq_true] at p3
          have h4 : exB (nxL E L d j e) 0 4 = false := by
            cases hx : exB (nxL E L d j e) 0 4
            · rfl
            · rw [hx] at p3; cases p3.2
          symm
          refine cnt_0 r (d + 1) _ e p1 (by omega) (fun g hg => ?_)
          cases hq : nxL E L d j e g
          · rfl
          · rw [(exB_iff _ _ _).2 ⟨g, by omega, by omega, hq⟩] at h4; cases h4
        · rw [if_neg (by decide), b_40_92]
          simp (disch := first | assumption | (repeat' (first | apply fx_sI | apply fx_sJ | assumption | omega))) only [bnd_e, grd_e, grd0, grd1, Option.bind_some, Option.isSome_some, gQ30_0, gQ30_1, gQ30_2, gQ30_3, gQ30_4, gQ30_5, gQ30_6, gQ30_7, gQ30_8, gQ30_9, gQ31_0, gQ33_0, gQ33_1, gQ36_0, gQ36_1, gQ39_0, gQ39_3, gQ39_4, gQ39_6, gQ39_8, gQ39_10, gQ39_11, gQ39_12, gQ48_0, gQ48_1, gQ51_2, gQ53_0, gQ53_1, gQ60_0, gQ60_1, gQ60_2, gQ64_1, gQ64_14, gQ64_15, gQ64_16, gQ64_17, gQ64_18, gQ64_19, gQ64_20, gQ64_21, gQ64_24, gQ64_25, gQ64_27, gQ64_28, gQ64_29, gQ64_30, gQ64_31, gQ64_34, gQ64_35, gQ64_36, gQ64_39, gQ64_40, gQ64_41, gQ64_43, gQ64_44, gQ64_48, gQ64_50, gQ64_51, gQ64_52, gQ64_53, gQ64_54, gQ64_58, gQ64_59, gI30, gJ30, pI30, pJ30, rC30, gI31, gJ31, pI31, pJ31, rC31, gI33, gJ33, pI33, pJ33, rC33, gI36, gJ36, pI36, pJ36, rC36, gI39, gJ39, pI39, pJ39, rC39, gI48, gJ48, pI48, pJ48, rC48, gI51, gJ51, pI51, pJ51, rC51, gI53, gJ53, pI53, pJ53, rC53, gI60, gJ60, pI60, pJ60, rC60, gI64, gJ64, pI64, pJ64, rC64, hF, nI_add, IH]
          exact nxt _ rfl
      · rw [if_pos (by decide), b_40_120, bnd_e, nI_add]
        refine ih (j + 1) m C (by omega) hC h1 (fun g hg hlg => ?_)
        by_cases c : g = j
        · rw [c]; exact hc
        · exact h2 g (by omega) hlg
theorem s_40 {h : Hp} (hF : Fix h) (hG : HgH τ h E) (h10 : E 2 ≤ 10) (hA : hI h 39 14 = nI (2 ^ E 2 - 1)) : ∀ r d fl (L : Nat → Nat → Bool), d + r = E 2 → r < fl → f_40 fl (some 39) (nI d) (lN (maskL (E 2) L)) h = some (nI (cnt E r d L), h) := by
  intro r
  induction r with
  | zero =>
    intro d fl L hr hfl
    obtain ⟨fl, rfl⟩ : ∃ n, fl = n + 1 := ⟨fl - 1, by omega⟩
    show F_40 (f_40 fl) (some 39) (nI d) (lN (maskL (E 2) L)) h = _
    rw [F_40, b_40_0]
    simp (disch := first | assumption | (repeat' (first | apply fx_sI | apply fx_sJ | assumption | omega))) only [gQ_e (K39 hF), hG.1, Option.bind_some, hG.n.2, nI_ltI, show ¬ d < E 2 by omega, if_false]
    rw [b_40_11]
    rfl
  | succ r ih =>
    intro d fl L hr hfl
    obtain ⟨fl, rfl⟩ : ∃ n, fl = n + 1 := ⟨fl - 1, by omega⟩
    show F_40 (f_40 fl) (some 39) (nI d) (lN (maskL (E 2) L)) h = _
    rw [F_40, b_40_0]
    simp (disch := first | assumption | (repeat' (first | apply fx_sI | apply fx_sJ | assumption | omega))) only [gQ_e (K39 hF), hG.1, Option.bind_some, hG.n.2, nI_ltI, show d < E 2 by omega, if_true]
    obtain ⟨m, hm⟩ := FU_ge (4 + 1) (by omega)
    have := l_40 (L := L) hF hG h10 hA hr (fun L => ih (d + 1) fl L (by omega) (by omega)) 4 0 m 0 (by omega) (by omega) (fun g _ z => by rw [Nat.zero_testBit] at z; cases z) (fun g hg => absurd hg (Nat.not_lt_zero g))
    have z0 : smP (fun g => cnt E r (d + 1) (nxL E L d g)) (fun g => (0 : Nat).testBit g) 4 = 0 := by
      rw [smP_cg (g := fun _ => 0) (Q := fun _ => false) 4 (fun i hi => ⟨Nat.zero_testBit i, fun z => by rw [Nat.zero_testBit] at z; cases z⟩)]
      rfl
    rw [z0] at this
    rw [b_40_13, bnd_e, bnd_e, bnd_e, hm]
    exact this
theorem s_39 {h : Hp} (hF : Fix h) (hT : TG τ) (hG : HgH τ h E) (h10 : E 2 ≤ 10) : ∃ g, f_39 (some 39) h = some (nI (cnt E (E 2) 0 (fitL E)), g) ∧ Fz [15000039] h g := by
  have z1 : Fz [15000039] h (sI h 39 14 (nI (2 ^ E 2 - 1))) := Fz.sI Fz.rfl' (Or.inr (by simp))
  have F1 : Fix (sI h 39 14 (nI (2 ^ E 2 - 1))) := fx_sI hF (by omega)
  have G1 := hG.cz hT z1 (by decide) (by decide) (by decide) (by decide)
  have e40 := s_40 F1 G1 h10 (by rw [hI_sI, if_pos ⟨rfl, rfl⟩]) (E 2) 0 RF (fitL E) (by omega) (by show E 2 < 64; omega)
  refine ⟨_, ?_, z1⟩
  rw [f_39, b_39_0]
  simp (disch := first | assumption | (repeat' (first | apply fx_sI | apply fx_sJ | assumption | omega))) only [bnd_e, grd_e, grd0, grd1, Option.bind_some, Option.isSome_some, gQ30_0, gQ30_1, gQ30_2, gQ30_3, gQ30_4, gQ30_5, gQ30_6, gQ30_7, gQ30_8, gQ30_9, gQ31_0, gQ33_0, gQ33_1, gQ36_0, gQ36_1, gQ39_0, gQ39_3, gQ39_4, gQ39_6, gQ39_8, gQ39_10, gQ39_11, gQ39_12, gQ48_0, gQ48_1, gQ51_2, gQ53_0, gQ53_1, gQ60_0, gQ60_1, gQ60_2, gQ64_1, gQ64_14, gQ64_15, gQ64_16, gQ64_17, gQ64_18, gQ64_19, gQ64_20, gQ64_21, gQ64_24, gQ64_25, gQ64_27, gQ64_28, gQ64_29, gQ64_30, gQ64_31, gQ64_34, gQ64_35, gQ64_36, gQ64_39, gQ64_40, gQ64_41, gQ64_43, gQ64_44, gQ64_48, gQ64_50, gQ64_51, gQ64_52, gQ64_53, gQ64_54, gQ64_58, gQ64_59, gI30, gJ30, pI30, pJ30, rC30, gI31, gJ31, pI31, pJ31, rC31, gI33, gJ33, pI33, pJ33, rC33, gI36, gJ36, pI36, pJ36, rC36, gI39, gJ39, pI39, pJ39, rC39, gI48, gJ48, pI48, pJ48, rC48, gI51, gJ51, pI51, pJ51, rC51, gI53, gJ53, pI53, pJ53, rC53, gI60, gJ60, pI60, pJ60, rC60, gI64, gJ64, pI64, pJ64, rC64, hF, s_29 hF hG h10, F1, G1.2.2.1, e40]
/-- the reference counts -/
theorem l_239 (hW : WF E) {r d fl : Nat} {t : Nat → Nat} (hr : d + (r + 1) = E 2) (ht4 : ∀ i, i < d → t i < 4)
    (IH : ∀ (w : Nat) (t : Nat → Nat) (h : Hp), MSw h E → (∀ i, i < d + 1 → hI h 79 i = nI (t i) ∧ t i < 4) → hI h 64 33 = nI w →
      ∃ g, f_239 fl (some 64) (nI (d + 1)) h = some g ∧ Fz [79, 34000064] h g ∧ hI g 64 33 = nI (w + cnt E r (d + 1) (LT E (fun _ => true) t (d + 1))) ∧ ∀ i, i < d + 1 → hI g 79 i = hI h 79 i) :
    ∀ q j m w (h : Hp), j + q = 4 → MSw h E → (∀ i, i < d → hI h 79 i = nI (t i)) → hI h 64 33 = nI (w + smP (fun g => cnt E r (d + 1) (nxL E (LT E (fun _ => true) t d) d g)) (LT E (fun _ => true) t d d) j) →
      ∃ g, l_239_21 (f_239 fl) (q + 1 + m) (some 64) (nI d) (nI j) h = some g ∧ Fz [79, 34000064] h g ∧ hI g 64 33 = nI (w + cnt E (r + 1) d (LT E (fun _ => true) t d)) ∧ ∀ i, i < d → hI g 79 i = hI h 79 i := by
  have w2 := hW.2.2.1
  intro q
  induction q with
  | zero =>
    intro j m w h hj hM ht hw
    obtain rfl : j = 4 := by omega
    refine ⟨h, ?_, Fz.rfl', by rw [cnt_s]; exact hw, fun _ _ => rfl⟩
    rw [show 0 + 1 + m = m + 1 by omega, l_239_21, b_239_21, if_pos (Int32.le_refl _), b_239_76]
  | succ q ih =>
    intro j m w h hj hM ht hw
    obtain ⟨hF, hE, hS⟩ := id hM
    have es : smP (fun g => cnt E r (d + 1) (nxL E (LT E (fun _ => true) t d) d g)) (LT E (fun _ => true) t d d) (j + 1) = smP (fun g => cnt E r (d + 1) (nxL E (LT E (fun _ => true) t d) d g)) (LT E (fun _ => true) t d d) j + (if LT E (fun _ => true) t d d j = true then cnt E r (d + 1) (nxL E (LT E (fun _ => true) t d) d j) else 0) := rfl
    have hPj : LT E (fun _ => true) t d d j = (mayB E d j && !exB (fun i => bit E d j i (t i)) 0 d) := by unfold LT; simp only [Bool.true_and]
    have skip : ∀ h1 : Hp, MSw h1 E → Fz [79, 34000064] h h1 → (∀ i, i < d → hI h1 79 i = hI h 79 i) → hI h1 64 33 = nI (w + smP (fun g => cnt E r (d + 1) (nxL E (LT E (fun _ => true) t d) d g)) (LT E (fun _ => true) t d d) (j + 1)) → ∃ g, b_239_70 (f_239 fl) (l_239_21 (f_239 fl) (q + 1 + m)) (some 64) (nI d) (nI j) h1 = some g ∧ Fz [79, 34000064] h g ∧ hI g 64 33 = nI (w + cnt E (r + 1) d (LT E (fun _ => true) t d)) ∧ ∀ i, i < d → hI g 79 i = hI h 79 i := by
      intro h1 d1 d2 d3 d4
      obtain ⟨g, g1, g2, g3, g4⟩ := ih (j + 1) m w h1 (by omega) d1 (fun i hi => by rw [d3 i hi]; exact ht i hi) d4
      refine ⟨g, ?_, d2.then g2, g3, fun i hi => by rw [g4 i hi, d3 i hi]⟩
      rw [b_239_70, bnd_e, nI_add]
      exact g1
    have fm := (hS d (by omega)).1
    have fl16 := fitM_lt E d
    have e183 := s_183 (h := h) (show fitM E d < 2147483648 by omega) (show j < 32 by omega)
    rw [fitM_tb E d (show j < 4 by omega)] at e183
    have pd := pw_lt (show d < 10 by omega)
    have p1 : 1 ≤ 2 ^ d := Nat.one_le_two_pow
    have esh : nI 1 <<< (nI d &&& 31) - nI 1 = nI (2 ^ d - 1) := by rw [nI_1shl (by omega), pk_sub p1]
    have e232 := s_232 (d := d) (g := j) (A := 2 ^ d - 1) (t := t) hM w2 (by omega) (by omega) (by omega) (fun e he _ => ⟨ht e he, ht4 e he⟩)
    have ex : exB (fun i => (2 ^ d - 1).testBit i && bit E d j i (t i)) 0 d = exB (fun i => bit E d j i (t i)) 0 d := exB_cg d 0 (fun i _ h2 => by rw [all_tb (by omega), Bool.true_and])
    rw [ex] at e232
    rw [show q + 1 + 1 + m = (q + 1 + m) + 1 by omega, l_239_21, b_239_21, if_neg (by rw [nI_leI (by omega) (by omega)]; omega), b_239_26]
    simp (disch := first | assumption | (repeat' (first | apply fx_sI | apply fx_sJ | assumption | omega))) only [bnd_e, grd_e, grd0, grd1, Option.bind_some, Option.isSome_some, gQ30_0, gQ30_1, gQ30_2, gQ30_3, gQ30_4, gQ30_5, gQ30_6, gQ30_7, gQ30_8, gQ30_9, gQ31_0, gQ33_0, gQ33_1, gQ36_0, gQ36_1, gQ39_0, gQ39_3, gQ39_4, gQ39_6, gQ39_8, gQ39_10, gQ39_11, gQ39_12, gQ48_0, gQ48_1, gQ51_2, gQ53_0, gQ53_1, gQ60_0, gQ60_1, gQ60_2, gQ64_1, gQ64_14, gQ64_15, gQ64_16, gQ64_17, gQ64_18, gQ64_19, gQ64_20, gQ64_21, gQ64_24, gQ64_25, gQ64_27, gQ64_28, gQ64_29, gQ64_30, gQ64_31, gQ64_34, gQ64_35, gQ64_36, gQ64_39, gQ64_40, gQ64_41, gQ64_43, gQ64_44, gQ64_48, gQ64_50, gQ64_51, gQ64_52, gQ64_53, gQ64_54, gQ64_58, gQ64_59, gI30, gJ30, pI30, pJ30, rC30, gI31, gJ31, pI31, pJ31, rC31, gI33, gJ33, pI33, pJ33, rC33, gI36, gJ36, pI36, pJ36, rC36, gI39, gJ39, pI39, pJ39, rC39, gI48, gJ48, pI48, pJ48, rC48, gI51, gJ51, pI51, pJ51, rC51, gI53, gJ53, pI53, pJ53, rC53, gI60, gJ60, pI60, pJ60, rC60, gI64, gJ64, pI64, pJ64, rC64, aI27, aL27, aI28, aL28, aI32, wI32, aL32, aI34, wI34, aL34, aI35, wI35, aL35, aI37, wI37, aL37, aI38, wI38, aL38, aJ40, wJ40, aL40, aI41, wI41, aL41, aI42, wI42, aL42, aI43, wI43, aL43, aI44, wI44, aL44, aI45, wI45, aL45, aI46, wI46, aL46, aI47, wI47, aL47, aI49, wI49, aL49, aI50, wI50, aL50, aI52, wI52, aL52, aI54, wI54, aL54, aI55, wI55, aL55, aL56, aL57, aL58, aI59, wI59, aL59, aI61, wI61, aL61, aL62, aI63, wI63, aL63, aI65, wI65, aL65, aI66, wI66, aL66, aI67, wI67, aL67, aI68, wI68, aL68, aI69, wI69, aL69, aJ70, wJ70, aL70, aJ71, wJ71, aL71, aJ72, wJ72, aL72, aZ73, wZ73, aL73, aI74, wI74, aL74, aI75, wI75, aL75, aJ76, wJ76, aL76, aJ77, wJ77, aL77, aI78, wI78, aL78, aI79, wI79, aL79, aI80, wI80, aL80, aI81, wI81, aL81, aI82, wI82, aL82, aI83, wI83, aL83, aI84, wI84, aL84, aI85, wI85, aL85, aI86, wI86, aL86, aI87, wI87, aL87, aI88, wI88, aL88, aI89, wI89, aL89, aI90, wI90, aL90, aI91, wI91, aL91, aI92, wI92, aL92, aI93, wI93, aL93, aI94, wI94, aL94, aZ95, wZ95, aL95, aI96, wI96, aL96, aJ97, wJ97, aL97, hF, fm, e183, bI_0']
    cases hl : mayB E d j
    · rw [if_pos rfl]
      exact skip h hM Fz.rfl' (fun _ _ => rfl) (by rw [es, hPj, hl, Bool.false_and, if_neg (by decide)]; exact hw)
    · rw [if_neg (by decide), b_239_39]
      simp (disch := first | assumption | (repeat' (first | apply fx_sI | apply fx_sJ | assumption | omega))) only [bnd_e, grd_e, grd0, grd1, Option.bind_some, Option.isSome_some, gQ30_0, gQ30_1, gQ30_2, gQ30_3, gQ30_4, gQ30_5, gQ30_6, gQ30_7, gQ30_8, gQ30_9, gQ31_0, gQ33_0, gQ33_1, gQ36_0, gQ36_1, gQ39_0, gQ39_3, gQ39_4, gQ39_6, gQ39_8, gQ39_10, gQ39_11, gQ39_12, gQ48_0, gQ48_1, gQ51_2, gQ53_0, gQ53_1, gQ60_0, gQ60_1, gQ60_2, gQ64_1, gQ64_14, gQ64_15, gQ64_16, gQ64_17, gQ64_18, gQ64_19, gQ64_20, gQ64_21, gQ64_24, gQ64_25, gQ64_27, gQ64_28, gQ64_29, gQ64_30, gQ64_31, gQ64_34, gQ64_35, gQ64_36, gQ64_39, gQ64_40, gQ64_41, gQ64_43, gQ64_44, gQ64_48, gQ64_50, gQ64_51, gQ64_52, gQ64_53, gQ64_54, gQ64_58, gQ64_59, gI30, gJ30, pI30, pJ30, rC30, gI31, gJ31, pI31, pJ31, rC31, gI33, gJ33, pI33, pJ33, rC33, gI36, gJ36, pI36, pJ36, rC36, gI39, gJ39, pI39, pJ39, rC39, gI48, gJ48, pI48, pJ48, rC48, gI51, gJ51, pI51, pJ51, rC51, gI53, gJ53, pI53, pJ53, rC53, gI60, gJ60, pI60, pJ60, rC60, gI64, gJ64, pI64, pJ64, rC64, hF, esh, e232, bI_0']
      cases hb : exB (fun i => bit E d j i (t i)) 0 d
      · rw [if_pos (by decide), b_239_56]
        have z1 : Fz [79, 34000064] h (sI h 79 d (nI j)) := Fz.sI Fz.rfl' (Or.inl (by simp))
        have hM1 := hM.cz z1 (by decide) (by decide)
        have hF1 := hM1.1
        obtain ⟨g1, a1, a2, a3, a4⟩ := IH _ (upn t d j) (sI h 79 d (nI j)) hM1 (fun i hi => by
          unfold upn
          rw [hI_sI]
          by_cases ci : i = d
          · rw [if_pos ⟨rfl, ci⟩, if_pos ci]; exact ⟨rfl, by omega⟩
          · rw [if_neg (fun z => ci z.2), if_neg ci]; exact ⟨ht i (by omega), ht4 i (by omega)⟩) (by rw [hI_sI, if_neg (by omega)]; exact hw)
        have hM2 := hM1.cz a2 (by decide) (by decide)
        obtain ⟨g, b1, b2⟩ := skip g1 hM2 (z1.then a2) (fun i hi => by rw [a4 i (by omega), hI_sI, if_neg (by omega)]) (by
          rw [a3, es, hPj, hl, hb, if_pos (by decide), cnt_cg r (d + 1) (nxL E (LT E (fun _ => true) t d) d j) _ (fun e g h1 _ _ => LT_nx (am := fun _ => true) rfl (by omega)), Nat.add_assoc])
        refine ⟨g, ?_, b2⟩
        simp (disch := first | assumption | (repeat' (first | apply fx_sI | apply fx_sJ | assumption | omega))) only [bnd_e, grd_e, grd0, grd1, Option.bind_some, Option.isSome_some, gQ30_0, gQ30_1, gQ30_2, gQ30_3, gQ30_4, gQ30_5, gQ30_6, gQ30_7, gQ30_8, gQ30_9, gQ31_0, gQ33_0, gQ33_1, gQ36_0, gQ36_1, gQ39_0, gQ39_3, gQ39_4, gQ39_6, gQ39_8, gQ39_10, gQ39_11, gQ39_12, gQ48_0, gQ48_1, gQ51_2, gQ53_0, gQ53_1, gQ60_0, gQ60_1, gQ60_2, gQ64_1, gQ64_14, gQ64_15, gQ64_16, gQ64_17, gQ64_18, gQ64_19, gQ64_20, gQ64_21, gQ64_24, gQ64_25, gQ64_27, gQ64_28, gQ64_29, gQ64_30, gQ64_31, gQ64_34, gQ64_35, gQ64_36, gQ64_39, gQ64_40, gQ64_41, gQ64_43, gQ64_44, gQ64_48, gQ64_50, gQ64_51, gQ64_52, gQ64_53, gQ64_54, gQ64_58, gQ64_59, gI30, gJ30, pI30, pJ30, rC30, gI31, gJ31, pI31, pJ31, rC31, gI33, gJ33, pI33, pJ33, rC33, gI36, gJ36, pI36, pJ36, rC36, gI39, gJ39, pI39, pJ39, rC39, gI48, gJ48, pI48, pJ48, rC48, gI51, gJ51, pI51, pJ51, rC51, gI53, gJ53, pI53, pJ53, rC53, gI60, gJ60, pI60, pJ60, rC60, gI64, gJ64, pI64, pJ64, rC64, aI27, aL27, aI28, aL28, aI32, wI32, aL32, aI34, wI34, aL34, aI35, wI35, aL35, aI37, wI37, aL37, aI38, wI38, aL38, aJ40, wJ40, aL40, aI41, wI41, aL41, aI42, wI42, aL42, aI43, wI43, aL43, aI44, wI44, aL44, aI45, wI45, aL45, aI46, wI46, aL46, aI47, wI47, aL47, aI49, wI49, aL49, aI50, wI50, aL50, aI52, wI52, aL52, aI54, wI54, aL54, aI55, wI55, aL55, aL56, aL57, aL58, aI59, wI59, aL59, aI61, wI61, aL61, aL62, aI63, wI63, aL63, aI65, wI65, aL65, aI66, wI66, aL66, aI67, wI67, aL67, aI68, wI68, aL68, aI69, wI69, aL69, aJ70, wJ70, aL70, aJ71, wJ71, aL71, aJ72, wJ72, aL72, aZ73, wZ73, aL73, aI74, wI74, aL74, aI75, wI75, aL75, aJ76, wJ76, aL76, aJ77, wJ77, aL77, aI78, wI78, aL78, aI79, wI79, aL79, aI80, wI80, aL80, aI81, wI81, aL81, aI82, wI82, aL82, aI83, wI83, aL83, aI84, wI84, aL84, aI85, wI85, aL85, aI86, wI86, aL86, aI87, wI87, aL87, aI88, wI88, aL88, aI89, wI89, aL89, aI90, wI90, aL90, aI91, wI91, aL91, aI92, wI92, aL92, aI93, wI93, aL93, aI94, wI94, aL94, aZ95, wZ95, aL95, aI96, wI96, aL96, aJ97, wJ97, aL97, hF, hF1, nI_add, a1]
        exact b1
      · rw [if_neg (fun z => z rfl), b_239_53]
        exact skip h hM Fz.rfl' (fun _ _ => rfl) (by rw [es, hPj, hl, hb, if_neg (by decide)]; exact hw)
theorem s_239 (hW : WF E) : ∀ (r d fl w : Nat) (t : Nat → Nat) (h : Hp), d + r = E 2 → r < fl → MSw h E → (∀ i, i < d → hI h 79 i = nI (t i) ∧ t i < 4) → hI h 64 33 = nI w →
    ∃ g, f_239 fl (some 64) (nI d) h = some g ∧ Fz [79, 34000064] h g ∧ hI g 64 33 = nI (w + cnt E r d (LT E (fun _ => true) t d)) ∧ ∀ i, i < d → hI g 79 i = hI h 79 i := by
  have w2 := hW.2.2.1
  intro r
  induction r with
  | zero =>
    intro d fl w t h hr hfl hM ht hw
    obtain ⟨fl, rfl⟩ : ∃ n, fl = n + 1 := ⟨fl - 1, by omega⟩
    obtain ⟨hF, hE, hS⟩ := id hM
    obtain rfl : d = E 2 := by omega
    show ∃ g, F_239 (f_239 fl) (some 64) (nI (E 2)) h = some g ∧ _
    rw [F_239, b_239_0]
    simp (disch := first | assumption | (repeat' (first | apply fx_sI | apply fx_sJ | assumption | omega))) only [bnd_e, grd_e, grd0, grd1, Option.bind_some, Option.isSome_some, gQ30_0, gQ30_1, gQ30_2, gQ30_3, gQ30_4, gQ30_5, gQ30_6, gQ30_7, gQ30_8, gQ30_9, gQ31_0, gQ33_0, gQ33_1, gQ36_0, gQ36_1, gQ39_0, gQ39_3, gQ39_4, gQ39_6, gQ39_8, gQ39_10, gQ39_11, gQ39_12, gQ48_0, gQ48_1, gQ51_2, gQ53_0, gQ53_1, gQ60_0, gQ60_1, gQ60_2, gQ64_1, gQ64_14, gQ64_15, gQ64_16, gQ64_17, gQ64_18, gQ64_19, gQ64_20, gQ64_21, gQ64_24, gQ64_25, gQ64_27, gQ64_28, gQ64_29, gQ64_30, gQ64_31, gQ64_34, gQ64_35, gQ64_36, gQ64_39, gQ64_40, gQ64_41, gQ64_43, gQ64_44, gQ64_48, gQ64_50, gQ64_51, gQ64_52, gQ64_53, gQ64_54, gQ64_58, gQ64_59, gI30, gJ30, pI30, pJ30, rC30, gI31, gJ31, pI31, pJ31, rC31, gI33, gJ33, pI33, pJ33, rC33, gI36, gJ36, pI36, pJ36, rC36, gI39, gJ39, pI39, pJ39, rC39, gI48, gJ48, pI48, pJ48, rC48, gI51, gJ51, pI51, pJ51, rC51, gI53, gJ53, pI53, pJ53, rC53, gI60, gJ60, pI60, pJ60, rC60, gI64, gJ64, pI64, pJ64, rC64, hF, s_203 hF hE, not_true, if_false]
    rw [b_239_8]
    refine ⟨sI h 64 33 (nI (w + 1)), ?_, Fz.sI Fz.rfl' (Or.inr (by simp)), by rw [hI_sI, if_pos ⟨rfl, rfl⟩]; rfl, fun i hi => by rw [hI_sI, if_neg (by omega)]⟩
    simp (disch := first | assumption | (repeat' (first | apply fx_sI | apply fx_sJ | assumption | omega))) only [bnd_e, grd_e, grd0, grd1, Option.bind_some, Option.isSome_some, gQ30_0, gQ30_1, gQ30_2, gQ30_3, gQ30_4, gQ30_5, gQ30_6, gQ30_7, gQ30_8, gQ30_9, gQ31_0, gQ33_0, gQ33_1, gQ36_0, gQ36_1, gQ39_0, gQ39_3, gQ39_4, gQ39_6, gQ39_8, gQ39_10, gQ39_11, gQ39_12, gQ48_0, gQ48_1, gQ51_2, gQ53_0, gQ53_1, gQ60_0, gQ60_1, gQ60_2, gQ64_1, gQ64_14, gQ64_15, gQ64_16, gQ64_17, gQ64_18, gQ64_19, gQ64_20, gQ64_21, gQ64_24, gQ64_25, gQ64_27, gQ64_28, gQ64_29, gQ64_30, gQ64_31, gQ64_34, gQ64_35, gQ64_36, gQ64_39, gQ64_40, gQ64_41, gQ64_43, gQ64_44, gQ64_48, gQ64_50, gQ64_51, gQ64_52, gQ64_53, gQ64_54, gQ64_58, gQ64_59, gI30, gJ30, pI30, pJ30, rC30, gI31, gJ31, pI31, pJ31, rC31, gI33, gJ33, pI33, pJ33, rC33, gI36, gJ36, pI36, pJ36, rC36, gI39, gJ39, pI39, pJ39, rC39, gI48, gJ48, pI48, pJ48, rC48, gI51, gJ51, pI51, pJ51, rC51, gI53, gJ53, pI53, pJ53, rC53, gI60, gJ60, pI60, pJ60, rC60, gI64, gJ64, pI64, pJ64, rC64, hF, hw, nI_add]
  | succ r ih =>
    intro d fl w t h hr hfl hM ht hw
    obtain ⟨fl, rfl⟩ : ∃ n, fl = n + 1 := ⟨fl - 1, by omega⟩
    obtain ⟨hF, hE, hS⟩ := id hM
    show ∃ g, F_239 (f_239 fl) (some 64) (nI d) h = some g ∧ _
    rw [F_239, b_239_0]
    simp (disch := first | assumption | (repeat' (first | apply fx_sI | apply fx_sJ | assumption | omega))) only [bnd_e, grd_e, grd0, grd1, Option.bind_some, Option.isSome_some, gQ30_0, gQ30_1, gQ30_2, gQ30_3, gQ30_4, gQ30_5, gQ30_6, gQ30_7, gQ30_8, gQ30_9, gQ31_0, gQ33_0, gQ33_1, gQ36_0, gQ36_1, gQ39_0, gQ39_3, gQ39_4, gQ39_6, gQ39_8, gQ39_10, gQ39_11, gQ39_12, gQ48_0, gQ48_1, gQ51_2, gQ53_0, gQ53_1, gQ60_0, gQ60_1, gQ60_2, gQ64_1, gQ64_14, gQ64_15, gQ64_16, gQ64_17, gQ64_18, gQ64_19, gQ64_20, gQ64_21, gQ64_24, gQ64_25, gQ64_27, gQ64_28, gQ64_29, gQ64_30, gQ64_31, gQ64_34, gQ64_35, gQ64_36, gQ64_39, gQ64_40, gQ64_41, gQ64_43, gQ64_44, gQ64_48, gQ64_50, gQ64_51, gQ64_52, gQ64_53, gQ64_54, gQ64_58, gQ64_59, gI30, gJ30, pI30, pJ30, rC30, gI31, gJ31, pI31, pJ31, rC31, gI33, gJ33, pI33, pJ33, rC33, gI36, gJ36, pI36, pJ36, rC36, gI39, gJ39, pI39, pJ39, rC39, gI48, gJ48, pI48, pJ48, rC48, gI51, gJ51, pI51, pJ51, rC51, gI53, gJ53, pI53, pJ53, rC53, gI60, gJ60, pI60, pJ60, rC60, gI64, gJ64, pI64, pJ64, rC64, hF, s_203 hF hE, nI_eq, show ¬ d = E 2 by omega, not_false_eq_true, if_true]
    rw [b_239_19, bnd_e]
    obtain ⟨m, hm⟩ := FU_ge (4 + 1) (by omega)
    rw [hm]
    exact l_239 (t := t) (fl := fl) hW hr (fun i hi => (ht i hi).2) (fun w t h q1 q2 q3 => ih (d + 1) fl w t h (by omega) (by omega) q1 q2 q3) 4 0 m w h (by omega) hM (fun i hi => (ht i hi).1) hw
theorem Bg.cg {h g : Hp} (hB : Bg h E) (e1 : hI g 64 22 = hI h 64 22) (e2 : hI g 66 = hI h 66) : Bg g E := by
  rcases hB with ⟨a, b⟩ | ⟨a, b, c⟩
  · exact Or.inl ⟨by rw [e1]; exact a, b.cg e2⟩
  · exact Or.inr ⟨by rw [e1]; exact a, fun i hi => by rw [e2]; exact b i hi, c⟩
theorem s_240 {h : Hp} (hF : Fix h) (hB : Bg h E) (hW : WF E) : ∃ g, f_240 (some 64) h = some (nI (cnt E (E 2) 0 (fitL E)), g) ∧ Fz [1000064, 23000064, 66, 27000064, 74, 75, 76, 77, 78, 79, 34000064] h g ∧ NowE g E ∧ hI g 64 22 = 1 := by
  have w2 := hW.2.2.1
  have z0 : Fz [1000064] h (sI h 64 0 (nI 0)) := Fz.sI Fz.rfl' (Or.inr (by simp))
  have F0 : Fix (sI h 64 0 (nI 0)) := fx_sI hF (by omega)
  obtain ⟨h1, a1, a2, a3, a4, a5⟩ := s_225 F0 (hB.cg (z0.I1 (by decide) (by decide)) (z0.I (a := 66) (by decide))) hW
  have F1 := a2.fix F0 (by decide)
  have z2 : Fz [79, 34000064] h1 (sI h1 64 33 (nI 0)) := Fz.sI Fz.rfl' (Or.inr (by simp))
  have M2 : MSw (sI h1 64 33 (nI 0)) E := MSw.cz ⟨F1, a3, a5⟩ z2 (by decide) (by decide)
  obtain ⟨g, b1, b2, b3, b4⟩ := s_239 hW (E 2) 0 RF 0 (fun _ => 0) _ (by omega) (by show E 2 < 64; omega) M2 (fun i hi => absurd hi (Nat.not_lt_zero i)) (by rw [hI_sI, if_pos ⟨rfl, rfl⟩])
  rw [LT_0, Nat.zero_add] at b3
  have F2 := M2.1
  have F3 := b2.fix F2 (by decide)
  refine ⟨g, ?_, (z0.wid (by intro z hz; simp only [List.mem_cons, List.not_mem_nil, or_false] at hz ⊢; omega)).then ((a2.wid (by intro z hz; simp only [List.mem_cons, List.not_mem_nil, or_false] at hz ⊢; omega)).then ((z2.wid (by intro z hz; simp only [List.mem_cons, List.not_mem_nil, or_false] at hz ⊢; omega)).then (b2.wid (by intro z hz; simp only [List.mem_cons, List.not_mem_nil, or_false] at hz ⊢; omega)))), (M2.2.1).cg (b2.I (a := 66) (by decide)), ?_⟩
  · rw [f_240, b_240_0]
    simp (disch := first | assumption | (repeat' (first | apply fx_sI | apply fx_sJ | assumption | omega))) only [bnd_e, grd_e, grd0, grd1, Option.bind_some, Option.isSome_some, gQ30_0, gQ30_1, gQ30_2, gQ30_3, gQ30_4, gQ30_5, gQ30_6, gQ30_7, gQ30_8, gQ30_9, gQ31_0, gQ33_0, gQ33_1, gQ36_0, gQ36_1, gQ39_0, gQ39_3, gQ39_4, gQ39_6, gQ39_8, gQ39_10, gQ39_11, gQ39_12, gQ48_0, gQ48_1, gQ51_2, gQ53_0, gQ53_1, gQ60_0, gQ60_1, gQ60_2, gQ64_1, gQ64_14, gQ64_15, gQ64_16, gQ64_17, gQ64_18, gQ64_19, gQ64_20, gQ64_21, gQ64_24, gQ64_25, gQ64_27, gQ64_28, gQ64_29, gQ64_30, gQ64_31, gQ64_34, gQ64_35, gQ64_36, gQ64_39, gQ64_40, gQ64_41, gQ64_43, gQ64_44, gQ64_48, gQ64_50, gQ64_51, gQ64_52, gQ64_53, gQ64_54, gQ64_58, gQ64_59, gI30, gJ30, pI30, pJ30, rC30, gI31, gJ31, pI31, pJ31, rC31, gI33, gJ33, pI33, pJ33, rC33, gI36, gJ36, pI36, pJ36, rC36, gI39, gJ39, pI39, pJ39, rC39, gI48, gJ48, pI48, pJ48, rC48, gI51, gJ51, pI51, pJ51, rC51, gI53, gJ53, pI53, pJ53, rC53, gI60, gJ60, pI60, pJ60, rC60, gI64, gJ64, pI64, pJ64, rC64, hF, F0, a1, F1, F2, b1, F3, b3]
  · rw [b2.I1 (by decide) (by decide), z2.I1 (by decide) (by decide)]; exact a4
end WAYS
