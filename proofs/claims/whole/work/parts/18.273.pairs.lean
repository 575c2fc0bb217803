/-! pairs that bite; the least peaks -/
def prs (E x : Nat → Nat) : Nat → Nat
  | 0 => 0
  | d + 1 => prs E x d + fb_ct (fun e => bit E d (x d) e (x e)) d
theorem prs_le (E x : Nat → Nat) : ∀ n, n ≤ 10 → prs E x n ≤ 10 * n
  | 0, _ => Nat.le_refl 0
  | d + 1, h => by
    have h1 := prs_le E x d (by omega)
    have h2 := fb_ct_le (fun e => bit E d (x d) e (x e)) d
    show prs E x d + _ ≤ _
    omega
theorem prs_cg {E x y : Nat → Nat} : ∀ n, (∀ i, i < n → x i = y i) → prs E x n = prs E y n
  | 0, _ => rfl
  | d + 1, h => by
    show prs E x d + _ = prs E y d + _
    rw [prs_cg d (fun i hi => h i (by omega)), h d (by omega), fb_ct_cong (q := fun e => bit E d (y d) e (y e)) (fun k hk => by rw [h k (by omega)])]
section PAIRS
variable {τ : Nat → Nat} {E : Nat → Nat}
theorem l_43i {h : Hp} {a d : Nat} {x : Nat → Nat} {k4 : Option Nat → Option Nat → Int32 → Int32 → Hp → Option (Int32 × Hp)} (hF : Fix h) (hG : HgH τ h E) (h10 : E 2 ≤ 10) (hk : hK h a = 12) (hl : hL h a = 10) (hx : ∀ i, i < E 2 → hI h a i = nI (x i) ∧ x i < 4) (hd : d < E 2) : ∀ r e n m, e + r = d → l_43_18 k4 (r + 1 + m) (some 39) (some a) (nI (n + fb_ct (fun e => bit E d (x d) e (x e)) e)) (nI d) (nI e) h = k4 (some 39) (some a) (nI (n + fb_ct (fun e => bit E d (x d) e (x e)) d)) (nI (d + 1)) h := by
  intro r
  induction r with
  | zero =>
    intro e n m he
    obtain rfl : e = d := by omega
    rw [show 0 + 1 + m = m + 1 by omega, l_43_18, b_43_18, if_pos (Int32.le_refl _), b_43_62, bnd_e, nI_add]
  | succ r ih =>
    intro e n m he
    have ih' := ih (e + 1) n m (by omega)
    have xd := hx d hd
    have xe := hx e (by omega)
    have e31 := s_31 (h := h) (n := E 2) (L := sprL E (4 * d + x d)) h10 (show e < E 2 by omega) xe.2
    have sp : sprL E (4 * d + x d) e (x e) = !bit E d (x d) e (x e) := by
      unfold sprL spr
      rw [show (4 * d + x d) / 4 = d by omega, show (4 * d + x d) % 4 = x d by omega, decide_eq_false (by omega), Bool.false_or]
    rw [sp] at e31
    have fs := fb_ct_succ (fun e => bit E d (x d) e (x e)) e
    rw [fs] at ih'
    generalize fb_ct (fun e => bit E d (x d) e (x e)) e = c at *
    rw [show r + 1 + 1 + m = (r + 1 + m) + 1 by omega, l_43_18, b_43_18, if_neg (by rw [nI_leI (by omega) (by omega)]; omega), b_43_24]
    simp (disch := first | assumption | (repeat' (first | apply fx_sI | apply fx_sJ | assumption | omega))) only [gQ_e (K39 hF), Q39_0 hF, Option.bind_some, aI_n hk hl, xd.1, xe.1, pk_mul, nI_add, aJ_n (K40 hF) (L40 hF), hG.2.2.2 (4 * d + x d) (show 4 * d + x d < 4 * E 2 by omega), e31, bI_0']
    cases hb : bit E d (x d) e (x e)
    · rw [if_neg (by decide), b_43_49, b_43_54, bnd_e, bnd_e, nI_add, nI_add]
      rw [hb] at ih'
      exact ih'
    · rw [if_pos (by decide), b_43_53, b_43_54, bnd_e, bnd_e, nI_add, nI_add]
      rw [hb] at ih'
      rw [show n + c + 1 = n + (c + 1) by omega]
      exact ih'
theorem l_43 {h : Hp} {a : Nat} {x : Nat → Nat} (hF : Fix h) (hG : HgH τ h E) (h10 : E 2 ≤ 10) (hk : hK h a = 12) (hl : hL h a = 10) (hx : ∀ i, i < E 2 → hI h a i = nI (x i) ∧ x i < 4) : ∀ r d m, d + r = E 2 → l_43_4 (r + 1 + m) (some 39) (some a) (nI (prs E x d)) (nI d) h = some (nI (prs E x (E 2)), h) := by
  intro r
  induction r with
  | zero =>
    intro d m hd
    obtain rfl : d = E 2 := by omega
    rw [show 0 + 1 + m = m + 1 by omega, l_43_4, b_43_4]
    simp (disch := first | assumption | (repeat' (first | apply fx_sI | apply fx_sJ | assumption | omega))) only [gQ_e (K39 hF), hG.1, Option.bind_some, hG.n.2, nI_leI, Nat.le_refl, if_true]
    rw [b_43_68]
  | succ r ih =>
    intro d m hd
    obtain ⟨m2, hm2⟩ := FU_ge (d + 1) (by omega)
    have li := l_43i (k4 := l_43_4 (r + 1 + m)) hF hG h10 hk hl hx (show d < E 2 by omega) d 0 (prs E x d) m2 (by omega)
    have f0 : fb_ct (fun e => bit E d (x d) e (x e)) 0 = 0 := rfl
    rw [f0, show prs E x d + 0 = prs E x d by rfl] at li
    rw [show r + 1 + 1 + m = (r + 1 + m) + 1 by omega, l_43_4, b_43_4]
    simp (disch := first | assumption | (repeat' (first | apply fx_sI | apply fx_sJ | assumption | omega))) only [gQ_e (K39 hF), hG.1, Option.bind_some, hG.n.2, nI_leI, show ¬ E 2 ≤ d by omega, if_false]
    rw [b_43_15, bnd_e, hm2, li]
    exact ih (d + 1) m (by omega)
theorem s_43 {h : Hp} {a : Nat} {x : Nat → Nat} (hF : Fix h) (hG : HgH τ h E) (h10 : E 2 ≤ 10) (hk : hK h a = 12) (hl : hL h a = 10) (hx : ∀ i, i < E 2 → hI h a i = nI (x i) ∧ x i < 4) : f_43 (some 39) (some a) h = some (nI (prs E x (E 2)), h) := by
  obtain ⟨m, hm⟩ := FU_ge (E 2 + 1) (by omega)
  rw [f_43, b_43_0, bnd_e, bnd_e, hm]
  exact l_43 hF hG h10 hk hl hx (E 2) 0 m (by omega)
theorem l_229i {h : Hp} {d : Nat} {x : Nat → Nat} {k4 : Option Nat → Option Nat → Int32 → Int32 → Hp → Option (Int32 × Hp)} (hM : MSw h E) (h10 : E 2 ≤ 10) (hx : ∀ i, i < E 2 → hI h 79 i = nI (x i) ∧ x i < 4) (hd : d < E 2) : ∀ r e n m, e + r = d → l_229_15 k4 (r + 1 + m) (some 64) (some 79) (nI (n + fb_ct (fun e => bit E d (x d) e (x e)) e)) (nI d) (nI e) h = k4 (some 64) (some 79) (nI (n + fb_ct (fun e => bit E d (x d) e (x e)) d)) (nI (d + 1)) h := by
  obtain ⟨hF, hE, hS⟩ := hM
  intro r
  induction r with
  | zero =>
    intro e n m he
    obtain rfl : e = d := by omega
    rw [show 0 + 1 + m = m + 1 by omega, l_229_15, b_229_15, if_pos (Int32.le_refl _), b_229_47, bnd_e, nI_add]
  | succ r ih =>
    intro e n m he
    have ih' := ih (e + 1) n m (by omega)
    have xd := hx d hd
    have xe := hx e (by omega)
    have fs := fb_ct_succ (fun e => bit E d (x d) e (x e)) e
    rw [fs] at ih'
    generalize fb_ct (fun e => bit E d (x d) e (x e)) e = c at *
    rw [show r + 1 + 1 + m = (r + 1 + m) + 1 by omega, l_229_15, b_229_15, if_neg (by rw [nI_leI (by omega) (by omega)]; omega), b_229_21]
    simp (disch := first | assumption | (repeat' (first | apply fx_sI | apply fx_sJ | assumption | omega))) only [bnd_e, grd_e, grd0, grd1, Option.bind_some, Option.isSome_some, gQ30_0, gQ30_1, gQ30_2, gQ30_3, gQ30_4, gQ30_5, gQ30_6, gQ30_7, gQ30_8, gQ30_9, gQ31_0, gQ33_0, gQ33_1, gQ36_0, gQ36_1, gQ39_0, gQ39_3, gQ39_4, gQ39_6, gQ39_8, gQ39_10, gQ39_11, gQ39_12, gQ48_0, gQ48_1, gQ51_2, gQ53_0, gQ53_1, gQ60_0, gQ60_1, gQ60_2, gQ64_1, gQ64_14, gQ64_15, gQ64_16, gQ64_17, gQ64_18, gQ64_19, gQ64_20, gQ64_21, gQ64_24, gQ64_25, gQ64_27, gQ64_28, gQ64_29, gQ64_30, gQ64_31, gQ64_34, gQ64_35, gQ64_36, gQ64_39, gQ64_40, gQ64_41, gQ64_43, gQ64_44, gQ64_48, gQ64_50, gQ64_51, gQ64_52, gQ64_53, gQ64_54, gQ64_58, gQ64_59, gI30, gJ30, pI30, pJ30, rC30, gI31, gJ31, pI31, pJ31, rC31, gI33, gJ33, pI33, pJ33, rC33, gI36, gJ36, pI36, pJ36, rC36, gI39, gJ39, pI39, pJ39, rC39, gI48, gJ48, pI48, pJ48, rC48, gI51, gJ51, pI51, pJ51, rC51, gI53, gJ53, pI53, pJ53, rC53, gI60, gJ60, pI60, pJ60, rC60, gI64, gJ64, pI64, pJ64, rC64, aI27, aL27, aI28, aL28, aI32, wI32, aL32, aI34, wI34, aL34, aI35, wI35, aL35, aI37, wI37, aL37, aI38, wI38, aL38, aJ40, wJ40, aL40, aI41, wI41, aL41, aI42, wI42, aL42, aI43, wI43, aL43, aI44, wI44, aL44, aI45, wI45, aL45, aI46, wI46, aL46, aI47, wI47, aL47, aI49, wI49, aL49, aI50, wI50, aL50, aI52, wI52, aL52, aI54, wI54, aL54, aI55, wI55, aL55, aL56, aL57, aL58, aI59, wI59, aL59, aI61, wI61, aL61, aL62, aI63, wI63, aL63, aI65, wI65, aL65, aI66, wI66, aL66, aI67, wI67, aL67, aI68, wI68, aL68, aI69, wI69, aL69, aJ70, wJ70, aL70, aJ71, wJ71, aL71, aJ72, wJ72, aL72, aZ73, wZ73, aL73, aI74, wI74, aL74, aI75, wI75, aL75, aJ76, wJ76, aL76, aJ77, wJ77, aL77, aI78, wI78, aL78, aI79, wI79, aL79, aI80, wI80, aL80, aI81, wI81, aL81, aI82, wI82, aL82, aI83, wI83, aL83, aI84, wI84, aL84, aI85, wI85, aL85, aI86, wI86, aL86, aI87, wI87, aL87, aI88, wI88, aL88, aI89, wI89, aL89, aI90, wI90, aL90, aI91, wI91, aL91, aI92, wI92, aL92, aI93, wI93, aL93, aI94, wI94, aL94, aZ95, wZ95, aL95, aI96, wI96, aL96, aJ97, wJ97, aL97, hF, xd.1, xe.1, s_227 hF hS h10 hd xd.2 (show e < E 2 by omega) xe.2, bI_0']
    cases hb : bit E d (x d) e (x e)
    · rw [if_pos rfl, b_229_41, bnd_e, nI_add]
      rw [hb] at ih'
      exact ih'
    · rw [if_neg (by decide), b_229_38, bnd_e, b_229_41, bnd_e, nI_add, nI_add]
      rw [hb] at ih'
      rw [show n + c + 1 = n + (c + 1) by omega]
      exact ih'
theorem l_229 {h : Hp} {x : Nat → Nat} (hM : MSw h E) (h10 : E 2 ≤ 10) (hx : ∀ i, i < E 2 → hI h 79 i = nI (x i) ∧ x i < 4) : ∀ r d m, d + r = E 2 → l_229_4 (r + 1 + m) (some 64) (some 79) (nI (prs E x d)) (nI d) h = some (nI (prs E x (E 2)), h) := by
  obtain ⟨hF, hE, hS⟩ := id hM
  intro r
  induction r with
  | zero =>
    intro d m hd
    obtain rfl : d = E 2 := by omega
    rw [show 0 + 1 + m = m + 1 by omega, l_229_4, b_229_4]
    simp (disch := first | assumption | (repeat' (first | apply fx_sI | apply fx_sJ | assumption | omega))) only [bnd_e, grd_e, grd0, grd1, Option.bind_some, Option.isSome_some, gQ30_0, gQ30_1, gQ30_2, gQ30_3, gQ30_4, gQ30_5, gQ30_6, gQ30_7, gQ30_8, gQ30_9, gQ31_0, gQ33_0, gQ33_1, gQ36_0, gQ36_1, gQ39_0, gQ39_3, gQ39_4, gQ39_6, gQ39_8, gQ39_10, gQ39_11, gQ39_12, gQ48_0, gQ48_1, gQ51_2, gQ53_0, gQ53_1, gQ60_0, gQ60_1, gQ60_2, gQ64_1, gQ64_14, gQ64_15, gQ64_16, gQ64_17, gQ64_18, gQ64_19, gQ64_20, gQ64_21, gQ64_24, gQ64_25, gQ64_27, gQ64_28, gQ64_29, gQ64_30, gQ64_31, gQ64_34, gQ64_35, gQ64_36, gQ64_39, gQ64_40, gQ64_41, gQ64_43, gQ64_44, gQ64_48, gQ64_50, gQ64_51, gQ64_52, gQ64_53, gQ64_54, gQ64_58, gQ64_59, gI30, gJ30, pI30, pJ30, rC30, gI31, gJ31, pI31, pJ31, rC31, gI33, gJ33, pI33, pJ33, rC33, gI36, gJ36, pI36, pJ36, rC36, gI39, gJ39, pI39, pJ39, rC39, gI48, gJ48, pI48, pJ48, rC48, gI51, gJ51, pI51, pJ51, rC51, gI53, gJ53, pI53, pJ53, rC53, gI60, gJ60, pI60, pJ60, rC60, gI64, gJ64, pI64, pJ64, rC64, hF, s_203 hF hE, nI_leI, Nat.le_refl, if_true]
    rw [b_229_53]
  | succ r ih =>
    intro d m hd
    obtain ⟨m2, hm2⟩ := FU_ge (d + 1) (by omega)
    have li := l_229i (k4 := l_229_4 (r + 1 + m)) hM h10 hx (show d < E 2 by omega) d 0 (prs E x d) m2 (by omega)
    have f0 : fb_ct (fun e => bit E d (x d) e (x e)) 0 = 0 := rfl
    rw [f0, show prs E x d + 0 = prs E x d by rfl] at li
    rw [show r + 1 + 1 + m = (r + 1 + m) + 1 by omega, l_229_4, b_229_4]
    simp (disch := first | assumption | (repeat' (first | apply fx_sI | apply fx_sJ | assumption | omega))) only [bnd_e, grd_e, grd0, grd1, Option.bind_some, Option.isSome_some, gQ30_0, gQ30_1, gQ30_2, gQ30_3, gQ30_4, gQ30_5, gQ30_6, gQ30_7, gQ30_8, gQ30_9, gQ31_0, gQ33_0, gQ33_1, gQ36_0, gQ36_1, gQ39_0, gQ39_3, gQ39_4, gQ39_6, gQ39_8, gQ39_10, gQ39_11, gQ39_12, gQ48_0, gQ48_1, gQ51_2, gQ53_0, gQ53_1, gQ60_0, gQ60_1, gQ60_2, gQ64_1, gQ64_14, gQ64_15, gQ64_16, gQ64_17, gQ64_18, gQ64_19, gQ64_20, gQ64_21, gQ64_24, gQ64_25, gQ64_27, gQ64_28, gQ64_29, gQ64_30, gQ64_31, gQ64_34, gQ64_35, gQ64_36, gQ64_39, gQ64_40, gQ64_41, gQ64_43, gQ64_44, gQ64_48, gQ64_50, gQ64_51, gQ64_52, gQ64_53, gQ64_54, gQ64_58, gQ64_59, gI30, gJ30, pI30, pJ30, rC30, gI31, gJ31, pI31, pJ31, rC31, gI33, gJ33, pI33, pJ33, rC33, gI36, gJ36, pI36, pJ36, rC36, gI39, gJ39, pI39, pJ39, rC39, gI48, gJ48, pI48, pJ48, rC48, gI51, gJ51, pI51, pJ51, rC51, gI53, gJ53, pI53, pJ53, rC53, gI60, gJ60, pI60, pJ60, rC60, gI64, gJ64, pI64, pJ64, rC64, hF, s_203 hF hE, nI_leI, show ¬ E 2 ≤ d by omega, if_false]
    rw [b_229_12, bnd_e, hm2, li]
    exact ih (d + 1) m (by omega)
theorem s_229 {h : Hp} {x : Nat → Nat} (hM : MSw h E) (h10 : E 2 ≤ 10) (hx : ∀ i, i < E 2 → hI h 79 i = nI (x i) ∧ x i < 4) : f_229 (some 64) (some 79) h = some (nI (prs E x (E 2)), h) := by
  obtain ⟨m, hm⟩ := FU_ge (E 2 + 1) (by omega)
  rw [f_229, b_229_0, bnd_e, bnd_e, hm]
  exact l_229 hM h10 hx (E 2) 0 m (by omega)
theorem l_230 (hW : WF E) : ∀ r d m h, d + r = E 2 → MSw h E → (∀ i, i < d → hI h 79 i = nI (dHg E i)) → ∃ g, l_230_11 (r + 1 + m) (some 64) (nI d) h = some (nI (prs E (dHg E) (E 2)), g) ∧ Fz [79] h g := by
  have w2 := hW.2.2.1
  intro r
  induction r with
  | zero =>
    intro d m h hd hM ht
    obtain ⟨hF, hE, hS⟩ := id hM
    obtain rfl : d = E 2 := by omega
    refine ⟨h, ?_, Fz.rfl'⟩
    rw [show 0 + 1 + m = m + 1 by omega, l_230_11, b_230_11]
    simp (disch := first | assumption | (repeat' (first | apply fx_sI | apply fx_sJ | assumption | omega))) only [bnd_e, grd_e, grd0, grd1, Option.bind_some, Option.isSome_some, gQ30_0, gQ30_1, gQ30_2, gQ30_3, gQ30_4, gQ30_5, gQ30_6, gQ30_7, gQ30_8, gQ30_9, gQ31_0, gQ33_0, gQ33_1, gQ36_0, gQ36_1, gQ39_0, gQ39_3, gQ39_4, gQ39_6, gQ39_8, gQ39_10, gQ39_11, gQ39_12, gQ48_0, gQ48_1, gQ51_2, gQ53_0, gQ53_1, gQ60_0, gQ60_1, gQ60_2, gQ64_1, gQ64_14, gQ64_15, gQ64_16, gQ64_17, gQ64_18, gQ64_19, gQ64_20, gQ64_21, gQ64_24, gQ64_25, gQ64_27, gQ64_28, gQ64_29, gQ64_30, gQ64_31, gQ64_34, gQ64_35, gQ64_36, gQ64_39, gQ64_40, gQ64_41, gQ64_43, gQ64_44, gQ64_48, gQ64_50, gQ64_51, gQ64_52, gQ64_53, gQ64_54, gQ64_58, gQ64_59, gI30, gJ30, pI30, pJ30, rC30, gI31, gJ31, pI31, pJ31, rC31, gI33, gJ33, pI33, pJ33, rC33, gI36, gJ36, pI36, pJ36, rC36, gI39, gJ39, pI39, pJ39, rC39, gI48, gJ48, pI48, pJ48, rC48, gI51, gJ51, pI51, pJ51, rC51, gI53, gJ53, pI53, pJ53, rC53, gI60, gJ60, pI60, pJ60, rC60, gI64, gJ64, pI64, pJ64, rC64, hF, s_203 hF hE, nI_leI, Nat.le_refl, if_true]
    rw [b_230_37]
    simp (disch := first | assumption | (repeat' (first | apply fx_sI | apply fx_sJ | assumption | omega))) only [bnd_e, grd_e, grd0, grd1, Option.bind_some, Option.isSome_some, gQ30_0, gQ30_1, gQ30_2, gQ30_3, gQ30_4, gQ30_5, gQ30_6, gQ30_7, gQ30_8, gQ30_9, gQ31_0, gQ33_0, gQ33_1, gQ36_0, gQ36_1, gQ39_0, gQ39_3, gQ39_4, gQ39_6, gQ39_8, gQ39_10, gQ39_11, gQ39_12, gQ48_0, gQ48_1, gQ51_2, gQ53_0, gQ53_1, gQ60_0, gQ60_1, gQ60_2, gQ64_1, gQ64_14, gQ64_15, gQ64_16, gQ64_17, gQ64_18, gQ64_19, gQ64_20, gQ64_21, gQ64_24, gQ64_25, gQ64_27, gQ64_28, gQ64_29, gQ64_30, gQ64_31, gQ64_34, gQ64_35, gQ64_36, gQ64_39, gQ64_40, gQ64_41, gQ64_43, gQ64_44, gQ64_48, gQ64_50, gQ64_51, gQ64_52, gQ64_53, gQ64_54, gQ64_58, gQ64_59, gI30, gJ30, pI30, pJ30, rC30, gI31, gJ31, pI31, pJ31, rC31, gI33, gJ33, pI33, pJ33, rC33, gI36, gJ36, pI36, pJ36, rC36, gI39, gJ39, pI39, pJ39, rC39, gI48, gJ48, pI48, pJ48, rC48, gI51, gJ51, pI51, pJ51, rC51, gI53, gJ53, pI53, pJ53, rC53, gI60, gJ60, pI60, pJ60, rC60, gI64, gJ64, pI64, pJ64, rC64, hF, s_229 hM w2 (fun i hi => ⟨ht i hi, hW.hg hi⟩)]
  | succ r ih =>
    intro d m h hd hM ht
    obtain ⟨hF, hE, hS⟩ := id hM
    have z1 : Fz [79] h (sI h 79 d (nI (dHg E d))) := Fz.sI Fz.rfl' (Or.inl (by simp))
    obtain ⟨g, a1, a2⟩ := ih (d + 1) m _ (by omega) (hM.cz z1 (by decide) (by decide)) (fun i hi => by
      rw [hI_sI]
      by_cases c : i = d
      · rw [if_pos ⟨rfl, c⟩, c]
      · rw [if_neg (fun z => c z.2)]; exact ht i (by omega))
    refine ⟨g, ?_, z1.then a2⟩
    have e4 : E (110 + 10 * d + 4) = dHg E d := by unfold dHg; congr 1; omega
    rw [show r + 1 + 1 + m = (r + 1 + m) + 1 by omega, l_230_11, b_230_11]
    simp (disch := first | assumption | (repeat' (first | apply fx_sI | apply fx_sJ | assumption | omega))) only [bnd_e, grd_e, grd0, grd1, Option.bind_some, Option.isSome_some, gQ30_0, gQ30_1, gQ30_2, gQ30_3, gQ30_4, gQ30_5, gQ30_6, gQ30_7, gQ30_8, gQ30_9, gQ31_0, gQ33_0, gQ33_1, gQ36_0, gQ36_1, gQ39_0, gQ39_3, gQ39_4, gQ39_6, gQ39_8, gQ39_10, gQ39_11, gQ39_12, gQ48_0, gQ48_1, gQ51_2, gQ53_0, gQ53_1, gQ60_0, gQ60_1, gQ60_2, gQ64_1, gQ64_14, gQ64_15, gQ64_16, gQ64_17, gQ64_18, gQ64_19, gQ64_20, gQ64_21, gQ64_24, gQ64_25, gQ64_27, gQ64_28, gQ64_29, gQ64_30, gQ64_31, gQ64_34, gQ64_35, gQ64_36, gQ64_39, gQ64_40, gQ64_41, gQ64_43, gQ64_44, gQ64_48, gQ64_50, gQ64_51, gQ64_52, gQ64_53, gQ64_54, gQ64_58, gQ64_59, gI30, gJ30, pI30, pJ30, rC30, gI31, gJ31, pI31, pJ31, rC31, gI33, gJ33, pI33, pJ33, rC33, gI36, gJ36, pI36, pJ36, rC36, gI39, gJ39, pI39, pJ39, rC39, gI48, gJ48, pI48, pJ48, rC48, gI51, gJ51, pI51, pJ51, rC51, gI53, gJ53, pI53, pJ53, rC53, gI60, gJ60, pI60, pJ60, rC60, gI64, gJ64, pI64, pJ64, rC64, hF, s_203 hF hE, nI_leI, show ¬ E 2 ≤ d by omega, if_false]
    rw [b_230_19]
    simp (disch := first | assumption | (repeat' (first | apply fx_sI | apply fx_sJ | assumption | omega))) only [bnd_e, grd_e, grd0, grd1, Option.bind_some, Option.isSome_some, gQ30_0, gQ30_1, gQ30_2, gQ30_3, gQ30_4, gQ30_5, gQ30_6, gQ30_7, gQ30_8, gQ30_9, gQ31_0, gQ33_0, gQ33_1, gQ36_0, gQ36_1, gQ39_0, gQ39_3, gQ39_4, gQ39_6, gQ39_8, gQ39_10, gQ39_11, gQ39_12, gQ48_0, gQ48_1, gQ51_2, gQ53_0, gQ53_1, gQ60_0, gQ60_1, gQ60_2, gQ64_1, gQ64_14, gQ64_15, gQ64_16, gQ64_17, gQ64_18, gQ64_19, gQ64_20, gQ64_21, gQ64_24, gQ64_25, gQ64_27, gQ64_28, gQ64_29, gQ64_30, gQ64_31, gQ64_34, gQ64_35, gQ64_36, gQ64_39, gQ64_40, gQ64_41, gQ64_43, gQ64_44, gQ64_48, gQ64_50, gQ64_51, gQ64_52, gQ64_53, gQ64_54, gQ64_58, gQ64_59, gI30, gJ30, pI30, pJ30, rC30, gI31, gJ31, pI31, pJ31, rC31, gI33, gJ33, pI33, pJ33, rC33, gI36, gJ36, pI36, pJ36, rC36, gI39, gJ39, pI39, pJ39, rC39, gI48, gJ48, pI48, pJ48, rC48, gI51, gJ51, pI51, pJ51, rC51, gI53, gJ53, pI53, pJ53, rC53, gI60, gJ60, pI60, pJ60, rC60, gI64, gJ64, pI64, pJ64, rC64, aI27, aL27, aI28, aL28, aI32, wI32, aL32, aI34, wI34, aL34, aI35, wI35, aL35, aI37, wI37, aL37, aI38, wI38, aL38, aJ40, wJ40, aL40, aI41, wI41, aL41, aI42, wI42, aL42, aI43, wI43, aL43, aI44, wI44, aL44, aI45, wI45, aL45, aI46, wI46, aL46, aI47, wI47, aL47, aI49, wI49, aL49, aI50, wI50, aL50, aI52, wI52, aL52, aI54, wI54, aL54, aI55, wI55, aL55, aL56, aL57, aL58, aI59, wI59, aL59, aI61, wI61, aL61, aL62, aI63, wI63, aL63, aI65, wI65, aL65, aI66, wI66, aL66, aI67, wI67, aL67, aI68, wI68, aL68, aI69, wI69, aL69, aJ70, wJ70, aL70, aJ71, wJ71, aL71, aJ72, wJ72, aL72, aZ73, wZ73, aL73, aI74, wI74, aL74, aI75, wI75, aL75, aJ76, wJ76, aL76, aJ77, wJ77, aL77, aI78, wI78, aL78, aI79, wI79, aL79, aI80, wI80, aL80, aI81, wI81, aL81, aI82, wI82, aL82, aI83, wI83, aL83, aI84, wI84, aL84, aI85, wI85, aL85, aI86, wI86, aL86, aI87, wI87, aL87, aI88, wI88, aL88, aI89, wI89, aL89, aI90, wI90, aL90, aI91, wI91, aL91, aI92, wI92, aL92, aI93, wI93, aL93, aI94, wI94, aL94, aZ95, wZ95, aL95, aI96, wI96, aL96, aJ97, wJ97, aL97, hF, s_205 hF hE (show d < 10 by omega) (show 4 < 10 by omega), e4, nI_add]
    exact a1
theorem s_230 {h : Hp} (hF : Fix h) (hB : Bg h E) (hW : WF E) : ∃ g, f_230 (some 64) h = some (nI (prs E (dHg E) (E 2)), g) ∧ Fz [1000064, 23000064, 66, 27000064, 74, 75, 76, 77, 78, 79] h g ∧ NowE g E ∧ hI g 64 22 = 1 := by
  have w2 := hW.2.2.1
  have z0 : Fz [1000064] h (sI h 64 0 (nI 0)) := Fz.sI Fz.rfl' (Or.inr (by simp))
  have F0 : Fix (sI h 64 0 (nI 0)) := fx_sI hF (by omega)
  obtain ⟨h1, a1, a2, a3, a4, a5⟩ := s_225 F0 (hB.cg (z0.I1 (by decide) (by decide)) (z0.I (a := 66) (by decide))) hW
  have F1 := a2.fix F0 (by decide)
  obtain ⟨m, hm⟩ := FU_ge (E 2 + 1) (by omega)
  obtain ⟨g, b1, b2⟩ := l_230 hW (E 2) 0 m h1 (by omega) ⟨F1, a3, a5⟩ (fun i hi => absurd hi (Nat.not_lt_zero i))
  refine ⟨g, ?_, (z0.wid (by intro z hz; simp only [List.mem_cons, List.not_mem_nil, or_false] at hz ⊢; omega)).then ((a2.wid (by intro z hz; simp only [List.mem_cons, List.not_mem_nil, or_false] at hz ⊢; omega)).then (b2.wid (by intro z hz; simp only [List.mem_cons, List.not_mem_nil, or_false] at hz ⊢; omega))), a3.cg (b2.I (a := 66) (by decide)), by rw [b2.I1 (by decide) (by decide)]; exact a4⟩
  rw [f_230, b_230_0]
  simp (disch := first | assumption | (repeat' (first | apply fx_sI | apply fx_sJ | assumption | omega))) only [bnd_e, grd_e, grd0, grd1, Option.bind_some, Option.isSome_some, gQ30_0, gQ30_1, gQ30_2, gQ30_3, gQ30_4, gQ30_5, gQ30_6, gQ30_7, gQ30_8, gQ30_9, gQ31_0, gQ33_0, gQ33_1, gQ36_0, gQ36_1, gQ39_0, gQ39_3, gQ39_4, gQ39_6, gQ39_8, gQ39_10, gQ39_11, gQ39_12, gQ48_0, gQ48_1, gQ51_2, gQ53_0, gQ53_1, gQ60_0, gQ60_1, gQ60_2, gQ64_1, gQ64_14, gQ64_15, gQ64_16, gQ64_17, gQ64_18, gQ64_19, gQ64_20, gQ64_21, gQ64_24, gQ64_25, gQ64_27, gQ64_28, gQ64_29, gQ64_30, gQ64_31, gQ64_34, gQ64_35, gQ64_36, gQ64_39, gQ64_40, gQ64_41, gQ64_43, gQ64_44, gQ64_48, gQ64_50, gQ64_51, gQ64_52, gQ64_53, gQ64_54, gQ64_58, gQ64_59, gI30, gJ30, pI30, pJ30, rC30, gI31, gJ31, pI31, pJ31, rC31, gI33, gJ33, pI33, pJ33, rC33, gI36, gJ36, pI36, pJ36, rC36, gI39, gJ39, pI39, pJ39, rC39, gI48, gJ48, pI48, pJ48, rC48, gI51, gJ51, pI51, pJ51, rC51, gI53, gJ53, pI53, pJ53, rC53, gI60, gJ60, pI60, pJ60, rC60, gI64, gJ64, pI64, pJ64, rC64, hF, F0, a1]
  rw [hm]
  exact b1
end PAIRS
/-! peaks -/
theorem nI_andn {a b : Nat} (ha : a < 1024) : nI a &&& (nI b ^^^ (-1)) = nI (a &&& (1023 ^^^ b)) := by
  apply Int32.toBitVec_inj.1
  show BitVec.ofNat 32 a &&& (BitVec.ofNat 32 b ^^^ BitVec.allOnes 32) = BitVec.ofNat 32 (a &&& (1023 ^^^ b))
  apply BitVec.eq_of_getLsbD_eq
  intro i hi
  rw [BitVec.getLsbD_and, BitVec.getLsbD_xor, BitVec.getLsbD_ofNat, BitVec.getLsbD_ofNat, BitVec.getLsbD_ofNat, BitVec.getLsbD_allOnes, Nat.testBit_and, Nat.testBit_xor, show 1023 = 2 ^ 10 - 1 by rfl, Nat.testBit_two_pow_sub_one, decide_eq_true hi]
  by_cases c : i < 10
  · rw [decide_eq_true c]
    cases a.testBit i <;> cases b.testBit i <;> rfl
  · rw [tb_out (k := 10) ha (by omega)]
    simp
def dif (a b : Nat) : Nat := a &&& (1023 ^^^ b)
theorem dif_tb {a b i : Nat} (ha : a < 1024) : (dif a b).testBit i = (a.testBit i && !b.testBit i) := by
  unfold dif
  rw [Nat.testBit_and, Nat.testBit_xor, show 1023 = 2 ^ 10 - 1 by rfl, Nat.testBit_two_pow_sub_one]
  by_cases c : i < 10
  · rw [decide_eq_true c]
    cases b.testBit i <;> simp
  · rw [tb_out (k := 10) ha (by omega)]
    simp
theorem dif_lt {a b : Nat} (ha : a < 1024) : dif a b < 1024 := by
  unfold dif
  have := Nat.and_le_left (n := a) (m := 1023 ^^^ b)
  omega
def sbs (a b : Nat) : Prop := ∀ i, a.testBit i = true → b.testBit i = true
theorem dif_0 {a b : Nat} (ha : a < 1024) : dif a b = 0 ↔ sbs a b := by
  rw [tb0]
  constructor
  · intro z i hi
    have := z i
    rw [dif_tb ha, hi, Bool.true_and] at this
    cases hb : b.testBit i
    · rw [hb] at this; cases this
    · rfl
  · intro z i
    rw [dif_tb ha]
    cases hi : a.testBit i
    · rfl
    · rw [z i hi]; rfl
theorem sbs_le {a b : Nat} (h : sbs a b) : a ≤ b := by
  have : a &&& b = a := by
    apply Nat.eq_of_testBit_eq
    intro i
    rw [Nat.testBit_and]
    cases hi : a.testBit i
    · rfl
    · rw [h i hi]; rfl
  rw [← this]
  exact Nat.and_le_right
theorem sbs_or {a b d : Nat} (h : sbs a b) (hd : b.testBit d = true) : sbs (a ||| 2 ^ d) b := by
  intro i hi
  rw [tb_or2, Bool.or_eq_true, decide_eq_true_eq] at hi
  rcases hi with z | z
  · exact h i z
  · rw [z]; exact hd
theorem or_gt {a d : Nat} (hd : a.testBit d = false) : a < a ||| 2 ^ d := by
  have h1 : a ≤ a ||| 2 ^ d := Nat.left_le_or
  have h2 : a ≠ a ||| 2 ^ d := fun z => by
    have := congrArg (fun x => x.testBit d) z
    simp only [tb_or2, hd] at this
    simp at this
  omega
theorem sbs_ne {a b : Nat} (h : sbs a b) (hn : a ≠ b) : ∃ d, b.testBit d = true ∧ a.testBit d = false := by
  apply Classical.byContradiction
  intro c
  apply hn
  apply Nat.eq_of_testBit_eq
  intro i
  cases ha : a.testBit i
  · cases hb : b.testBit i
    · rfl
    · exact absurd ⟨i, hb, ha⟩ c
  · rw [h i ha]
def xsH (b c : Nat → Nat) (s : Nat) : Nat → Nat := fun d => if s.testBit d = true then b d else c d
def mnF (W : Nat → Nat) (Ch s st : Nat) : Nat → Nat
  | 0 => st
  | d + 1 => if (Ch.testBit d && !s.testBit d) = true then (if W (s ||| 2 ^ d) < mnF W Ch s st d then W (s ||| 2 ^ d) else mnF W Ch s st d) else mnF W Ch s st d
theorem mnF_s (W : Nat → Nat) (Ch s st d : Nat) : mnF W Ch s st (d + 1) = if (Ch.testBit d && !s.testBit d) = true then (if W (s ||| 2 ^ d) < mnF W Ch s st d then W (s ||| 2 ^ d) else mnF W Ch s st d) else mnF W Ch s st d := rfl
theorem mnF_cg {W V : Nat → Nat} {Ch s st : Nat} : ∀ n, (∀ d, d < n → Ch.testBit d = true → s.testBit d = false → W (s ||| 2 ^ d) = V (s ||| 2 ^ d)) → mnF W Ch s st n = mnF V Ch s st n
  | 0, _ => rfl
  | n + 1, h => by
    rw [mnF_s, mnF_s, mnF_cg n (fun d hd => h d (by omega))]
    split
    · rename_i c
      rw [Bool.and_eq_true, Bool.not_eq_true'] at c
      rw [h n (by omega) c.1 c.2]
    · rfl
/-- where it begins does not matter, if one is met -/
theorem mnF_st {W : Nat → Nat} {Ch s a b : Nat} : ∀ n, (∀ d, d < n → Ch.testBit d = true → s.testBit d = false → W (s ||| 2 ^ d) < a ∧ W (s ||| 2 ^ d) < b) → (mnF W Ch s a n = mnF W Ch s b n ∧ mnF W Ch s a n < a ∧ mnF W Ch s a n < b) ∨ (mnF W Ch s a n = a ∧ mnF W Ch s b n = b ∧ ∀ d, d < n → (Ch.testBit d && !s.testBit d) = false)
  | 0, _ => Or.inr ⟨rfl, rfl, fun d hd => absurd hd (Nat.not_lt_zero d)⟩
  | n + 1, h => by
    rw [mnF_s, mnF_s]
    have ih := mnF_st (W := W) (Ch := Ch) (s := s) (a := a) (b := b) n (fun d hd => h d (by omega))
    cases c : (Ch.testBit n && !s.testBit n)
    · rw [if_neg (by decide), if_neg (by decide)]
      rcases ih with q | ⟨q1, q2, q3⟩
      · exact Or.inl q
      · refine Or.inr ⟨q1, q2, fun d hd => ?_⟩
        by_cases e : d = n
        · rw [e]; exact c
        · exact q3 d (by omega)
    · rw [if_pos rfl, if_pos rfl]
      rw [Bool.and_eq_true, Bool.not_eq_true'] at c
      have hw := h n (by omega) c.1 c.2
      left
      rcases ih with ⟨q1, q2, q3⟩ | ⟨q1, q2, q3⟩
      · rw [← q1]
        by_cases cw : W (s ||| 2 ^ n) < mnF W Ch s a n
        · rw [if_pos cw]; omega
        · rw [if_neg cw]; omega
      · rw [q1, q2, if_pos hw.1, if_pos hw.2]; omega
/-- the least is that of one -/
theorem mnF_at {W : Nat → Nat} {Ch s st : Nat} : ∀ n, mnF W Ch s st n = st ∨ ∃ d, d < n ∧ Ch.testBit d = true ∧ s.testBit d = false ∧ mnF W Ch s st n = W (s ||| 2 ^ d)
  | 0 => Or.inl rfl
  | n + 1 => by
    rw [mnF_s]
    have ih := mnF_at (W := W) (Ch := Ch) (s := s) (st := st) n
    cases c : (Ch.testBit n && !s.testBit n)
    · rw [if_neg (by decide)]
      rcases ih with q | ⟨d, d1, d2⟩
      · exact Or.inl q
      · exact Or.inr ⟨d, by omega, d2⟩
    · rw [if_pos rfl]
      by_cases cw : W (s ||| 2 ^ n) < mnF W Ch s st n
      · rw [if_pos cw]
        rw [Bool.and_eq_true, Bool.not_eq_true'] at c
        exact Or.inr ⟨n, by omega, c.1, c.2, rfl⟩
      · rw [if_neg cw]
        rcases ih with q | ⟨d, d1, d2⟩
        · exact Or.inl q
        · exact Or.inr ⟨d, by omega, d2⟩
/-- the peak of a set, out of those of the greater ones -/
def pkE (E b : Nat → Nat) (Ch : Nat) (W : Nat → Nat) (s : Nat) : Nat := max (prs E (xsH b (dHg E) s) (E 2)) (if s = Ch then 0 else mnF W Ch s 1000 (E 2))
def PKq (E b : Nat → Nat) (Ch lo : Nat) (W : Nat → Nat) : Prop := ∀ s, lo ≤ s → sbs s Ch → W s = pkE E b Ch W s ∧ W s ≤ 100
theorem PKq.u {E b : Nat → Nat} {Ch : Nat} {W V : Nat → Nat} (h1 : PKq E b Ch 0 W) (h2 : PKq E b Ch 0 V) : ∀ k s, Ch - s < k → sbs s Ch → W s = V s := by
  intro k
  induction k with
  | zero => intro s h; omega
  | succ k ih =>
    intro s hk hs
    rw [(h1 s (by omega) hs).1, (h2 s (by omega) hs).1]
    unfold pkE
    congr 1
    split
    · rfl
    · apply mnF_cg
      intro d hd c1 c2
      have g1 := or_gt c2
      have g2 := sbs_or hs c1
      have g3 := sbs_le g2
      exact ih _ (by omega) g2
theorem chm_lt {n : Nat} (q : Nat → Bool) (hn : n ≤ 10) : mkM q n < 1024 := by
  have h1 := mkM_lt q n
  have h2 : 2 ^ n ≤ 2 ^ 10 := Nat.pow_le_pow_right (by decide) hn
  omega
