/-! the joiner of the class, whole -/
def ldb (W : Nat → Nat) (Ch s d : Nat) : Bool := (Ch.testBit d && !s.testBit d) && decide (W (s ||| 2 ^ d) ≤ W 0)
theorem ldb_iff {W : Nat → Nat} {Ch s d : Nat} : ldb W Ch s d = true ↔ ldB W Ch s d := by
  unfold ldb ldB
  rw [Bool.and_eq_true, Bool.and_eq_true, Bool.not_eq_true', decide_eq_true_eq]
  exact and_assoc
def chM (E b : Nat → Nat) : Nat := mkM (fun d => decide (b d ≠ dHg E d)) (E 2)
def PKP (h : Hp) (pk : Nat) : Prop := hQ h 39 15 = some pk ∧ hK h pk = 12 ∧ hL h pk = 1024 ∧ 98 ≤ pk ∧ pk < hN h
section JOIN2
variable {τ : Nat → Nat} {E b W S o : Nat → Nat} {Ch : Nat}
theorem s_48 {h : Hp} {pk s d : Nat} (hC : CJ τ E b pk h) (hCh : Ch < 1024) (hs : sbs s Ch) (hd : d < 10) (hp : ∀ x, sbs x Ch → hI h pk x = nI (W x)) (hb : ∀ x, sbs x Ch → W x ≤ 100) : f_48 (some 39) (nI (W 0)) (nI s) (nI Ch) (nI d) h = some (bI (ldb W Ch s d), h) := by
  obtain ⟨c1, c2, c3, c4, c5, c6, c7, c8, c9⟩ := hC
  have dl := dif_lt (b := s) hCh
  have w0 := hb 0 (fun i hi => by rw [Nat.zero_testBit] at hi; cases hi)
  rw [f_48, b_48_0, nI_andn hCh]
  have ed : Ch &&& (1023 ^^^ s) = dif Ch s := rfl
  simp only [ed, nI_hasP (show dif Ch s < 2147483648 by omega) (show d < 32 by omega), dif_tb hCh]
  unfold ldb
  cases hx : (Ch.testBit d && !s.testBit d)
  · rw [if_pos (by decide)]; rfl
  · rw [if_neg (fun z => z rfl), b_48_14, Bool.true_and]
    rw [Bool.and_eq_true, Bool.not_eq_true'] at hx
    have g2 := sbs_or hs hx.1
    have g3 := sbs_le g2
    have g4 := hb _ g2
    simp (disch := first | assumption | (repeat' (first | apply fx_sI | apply fx_sJ | assumption | omega))) only [gQ_e (K39 c1), c4, Option.bind_some, nI_1shl (show d < 31 by omega), fa_or, aI_n c5 c6, hp _ g2, nI_ltI]
    by_cases c : W 0 < W (s ||| 2 ^ d)
    · rw [if_pos c, decide_eq_false (by omega)]; rfl
    · rw [if_neg c, decide_eq_true (by omega)]; rfl
theorem l_47i {h : Hp} {pk s dn t : Nat} {k10 : Option Nat → Int32 → Int32 → Int32 → Int32 → Hp → Option Hp} (hW : WF E) (hC : CJ τ E b pk h) (hCh : Ch < 1024) (hs : sbs s Ch) (hp : ∀ x, sbs x Ch → hI h pk x = nI (W x)) (hb : ∀ x, sbs x Ch → W x ≤ 100) (hn : isNx W Ch (E 2) s dn) : ∀ r d m, d + r = dn → l_47_30 k10 (r + 1 + m) (some 39) (nI (W 0)) (nI Ch) (nI s) (nI t) (nI d) h = b_47_62 k10 (some 39) (nI (W 0)) (nI Ch) (nI s) (nI t) (nI dn) h := by
  obtain ⟨c1, c2, _⟩ := id hC
  have w2 := hW.2.2.1
  obtain ⟨n1, n2, n3⟩ := hn
  intro r
  induction r with
  | zero =>
    intro d m hd
    obtain rfl : d = dn := by omega
    rw [show 0 + 1 + m = m + 1 by omega, l_47_30, b_47_30]
    simp (disch := first | assumption | (repeat' (first | apply fx_sI | apply fx_sJ | assumption | omega))) only [gQ_e (K39 c1), c2.1, Option.bind_some, c2.n.2, pk_sub (show 1 ≤ E 2 by omega), nI_leI]
    by_cases c : E 2 - 1 ≤ d
    · rw [if_pos c]
    · rw [if_neg c, b_47_44]
      simp (disch := first | assumption | (repeat' (first | apply fx_sI | apply fx_sJ | assumption | omega))) only [bnd_e, grd_e, grd0, grd1, Option.bind_some, Option.isSome_some, gQ30_0, gQ30_1, gQ30_2, gQ30_3, gQ30_4, gQ30_5, gQ30_6, gQ30_7, gQ30_8, gQ30_9, gQ31_0, gQ33_0, gQ33_1, gQ36_0, gQ36_1, gQ39_0, gQ39_3, gQ39_4, gQ39_6, gQ39_8, gQ39_10, gQ39_11, gQ39_12, gQ48_0, gQ48_1, gQ51_2, gQ53_0, gQ53_1, gQ60_0, gQ60_1, gQ60_2, gQ64_1, gQ64_14, gQ64_15, gQ64_16, gQ64_17, gQ64_18, gQ64_19, gQ64_20, gQ64_21, gQ64_24, gQ64_25, gQ64_27, gQ64_28, gQ64_29, gQ64_30, gQ64_31, gQ64_34, gQ64_35, gQ64_36, gQ64_39, gQ64_40, gQ64_41, gQ64_43, gQ64_44, gQ64_48, gQ64_50, gQ64_51, gQ64_52, gQ64_53, gQ64_54, gQ64_58, gQ64_59, gI30, gJ30, pI30, pJ30, rC30, gI31, gJ31, pI31, pJ31, rC31, gI33, gJ33, pI33, pJ33, rC33, gI36, gJ36, pI36, pJ36, rC36, gI39, gJ39, pI39, pJ39, rC39, gI48, gJ48, pI48, pJ48, rC48, gI51, gJ51, pI51, pJ51, rC51, gI53, gJ53, pI53, pJ53, rC53, gI60, gJ60, pI60, pJ60, rC60, gI64, gJ64, pI64, pJ64, rC64, c1, s_48 hC hCh hs (show d < 10 by omega) hp hb, bI_0']
      rw [ldb_iff.2 n2, if_pos (by decide)]
  | succ r ih =>
    intro d m hd
    rw [show r + 1 + 1 + m = (r + 1 + m) + 1 by omega, l_47_30, b_47_30]
    simp (disch := first | assumption | (repeat' (first | apply fx_sI | apply fx_sJ | assumption | omega))) only [gQ_e (K39 c1), c2.1, Option.bind_some, c2.n.2, pk_sub (show 1 ≤ E 2 by omega), nI_leI, show ¬ E 2 - 1 ≤ d by omega, if_false]
    rw [b_47_44]
    have nl : ldb W Ch s d = false := by
      cases hx : ldb W Ch s d
      · rfl
      · exact absurd (ldb_iff.1 hx) (n3 d (by omega))
    simp (disch := first | assumption | (repeat' (first | apply fx_sI | apply fx_sJ | assumption | omega))) only [bnd_e, grd_e, grd0, grd1, Option.bind_some, Option.isSome_some, gQ30_0, gQ30_1, gQ30_2, gQ30_3, gQ30_4, gQ30_5, gQ30_6, gQ30_7, gQ30_8, gQ30_9, gQ31_0, gQ33_0, gQ33_1, gQ36_0, gQ36_1, gQ39_0, gQ39_3, gQ39_4, gQ39_6, gQ39_8, gQ39_10, gQ39_11, gQ39_12, gQ48_0, gQ48_1, gQ51_2, gQ53_0, gQ53_1, gQ60_0, gQ60_1, gQ60_2, gQ64_1, gQ64_14, gQ64_15, gQ64_16, gQ64_17, gQ64_18, gQ64_19, gQ64_20, gQ64_21, gQ64_24, gQ64_25, gQ64_27, gQ64_28, gQ64_29, gQ64_30, gQ64_31, gQ64_34, gQ64_35, gQ64_36, gQ64_39, gQ64_40, gQ64_41, gQ64_43, gQ64_44, gQ64_48, gQ64_50, gQ64_51, gQ64_52, gQ64_53, gQ64_54, gQ64_58, gQ64_59, gI30, gJ30, pI30, pJ30, rC30, gI31, gJ31, pI31, pJ31, rC31, gI33, gJ33, pI33, pJ33, rC33, gI36, gJ36, pI36, pJ36, rC36, gI39, gJ39, pI39, pJ39, rC39, gI48, gJ48, pI48, pJ48, rC48, gI51, gJ51, pI51, pJ51, rC51, gI53, gJ53, pI53, pJ53, rC53, gI60, gJ60, pI60, pJ60, rC60, gI64, gJ64, pI64, pJ64, rC64, c1, s_48 hC hCh hs (show d < 10 by omega) hp hb, bI_0']
    rw [nl, if_neg (fun z => z rfl), b_47_56, bnd_e, nI_add]
    exact ih (d + 1) m (by omega)
theorem l_47 {pk : Nat} (hT : TG τ) (hW : WF E) (hCh : Ch < 1024) (hP : PKq E b Ch 0 W) : ∀ r i m h (S o : Nat → Nat), i + r = E 2 → CJ τ E b pk h → (∀ x, sbs x Ch → hI h pk x = nI (W x)) → ORp W Ch (E 2) i S o → W (S i) ≤ W 0 → hI h 39 9 = nI i → (∀ j, j < i → hI h 44 j = nI (o j)) →
    ∃ g z S' o', l_47_10 (r + 1 + m) (some 39) (nI (W 0)) (nI Ch) (nI (S i)) (nI i) h = some g ∧ Fz [44, 10000039] h g ∧ ORp W Ch (E 2) z S' o' ∧ S' z = Ch ∧ hI g 39 9 = nI z ∧ ∀ j, j < z → hI g 44 j = nI (o' j) := by
  have w2 := hW.2.2.1
  have hb : ∀ x, sbs x Ch → W x ≤ 100 := fun x hx => (hP x (by omega) hx).2
  intro r
  induction r with
  | zero =>
    intro i m h S o hi hC hp hO hw h9 h44
    obtain ⟨c1, c2, _⟩ := id hC
    obtain rfl : i = E 2 := by omega
    have sb := (hO.sb (E 2) (Nat.le_refl _)).1
    have fin : S (E 2) = Ch := by
      apply Classical.byContradiction
      intro c
      obtain ⟨d, hd⟩ := nx_ex hP sb c hw
      have := (hO.ext c hd).le
      omega
    refine ⟨h, E 2, S, o, ?_, Fz.rfl', hO, fin, h9, h44⟩
    rw [show 0 + 1 + m = m + 1 by omega, l_47_10, b_47_10]
    simp (disch := first | assumption | (repeat' (first | apply fx_sI | apply fx_sJ | assumption | omega))) only [gQ_e (K39 c1), c2.1, Option.bind_some, c2.n.2, nI_leI, Nat.le_refl, if_true]
    rw [b_47_96]
  | succ r ih =>
    intro i m h S o hi hC hp hO hw h9 h44
    obtain ⟨c1, c2, c3, c4, c5, c6, c7, c8, c9⟩ := id hC
    have sb := (hO.sb i (Nat.le_refl _)).1
    have sl := sbs_le sb
    rw [show r + 1 + 1 + m = (r + 1 + m) + 1 by omega, l_47_10, b_47_10]
    simp (disch := first | assumption | (repeat' (first | apply fx_sI | apply fx_sJ | assumption | omega))) only [gQ_e (K39 c1), c2.1, Option.bind_some, c2.n.2, nI_leI, show ¬ E 2 ≤ i by omega, if_false]
    rw [b_47_22]
    simp (disch := first | assumption | (repeat' (first | apply fx_sI | apply fx_sJ | assumption | omega))) only [nI_eq]
    by_cases c : S i = Ch
    · rw [if_pos c, b_47_96]
      exact ⟨h, i, S, o, rfl, Fz.rfl', hO, c, h9, h44⟩
    · rw [if_neg c, b_47_27, bnd_e]
      obtain ⟨d, hd⟩ := nx_ex hP sb c hw
      obtain ⟨m2, hm2⟩ := FU_ge (d + 1) (by have := hd.1; omega)
      have li := l_47i (t := i) (k10 := l_47_10 (r + 1 + m)) hW hC hCh sb hp hb hd d 0 m2 (by omega)
      have O1 := hO.ext c hd
      have si : upn S (i + 1) (S i ||| 2 ^ d) (i + 1) = S i ||| 2 ^ d := by unfold upn; rw [if_pos rfl]
      have dlt := hd.1
      generalize e1 : sI h 44 i (nI d) = h1
      generalize e2 : sI h1 39 9 (nI (i + 1)) = h2
      have z2 : Fz [44, 10000039] h h2 := by
        rw [← e2, ← e1]
        exact Fz.sI (Fz.sI Fz.rfl' (Or.inl (by simp))) (Or.inr (by simp))
      have z2' : Fz [46, pk, 44, 10000039] h h2 := z2.wid (by intro z hz; simp only [List.mem_cons, List.not_mem_nil, or_false] at hz ⊢; omega)
      have F1 : Fix h1 := by rw [← e1]; exact fx_sI c1 (by omega)
      have i9 : hI h1 39 9 = nI i := by rw [← e1, hI_sI, if_neg (by omega)]; exact h9
      obtain ⟨g, z, S', o', b1, b2, b3, b4, b5, b6⟩ := ih (i + 1) m h2 _ _ (by omega) (hC.cz hT z2') (fun x hx => by rw [z2.I (a := pk) (by intro z hz; simp only [List.mem_cons, List.not_mem_nil, or_false] at hz; omega)]; exact hp x hx) O1 (by rw [si]; exact hd.2.1.2.2) (by rw [← e2, hI_sI, if_pos ⟨rfl, rfl⟩]) (fun j hj => by
        rw [← e2, hI_sI, if_neg (by omega), ← e1, hI_sI]
        unfold upn
        by_cases cj : j = i
        · rw [if_pos ⟨rfl, cj⟩, if_pos cj]
        · rw [if_neg (fun z => cj z.2), if_neg cj]; exact h44 j (by omega))
      rw [si] at b1
      refine ⟨g, z, S', o', ?_, z2.then b2, b3, b4, b5, b6⟩
      rw [hm2, li, b_47_62]
      simp (disch := first | assumption | (repeat' (first | apply fx_sI | apply fx_sJ | assumption | omega))) only [bnd_e, grd_e, grd0, grd1, Option.bind_some, Option.isSome_some, gQ30_0, gQ30_1, gQ30_2, gQ30_3, gQ30_4, gQ30_5, gQ30_6, gQ30_7, gQ30_8, gQ30_9, gQ31_0, gQ33_0, gQ33_1, gQ36_0, gQ36_1, gQ39_0, gQ39_3, gQ39_4, gQ39_6, gQ39_8, gQ39_10, gQ39_11, gQ39_12, gQ48_0, gQ48_1, gQ51_2, gQ53_0, gQ53_1, gQ60_0, gQ60_1, gQ60_2, gQ64_1, gQ64_14, gQ64_15, gQ64_16, gQ64_17, gQ64_18, gQ64_19, gQ64_20, gQ64_21, gQ64_24, gQ64_25, gQ64_27, gQ64_28, gQ64_29, gQ64_30, gQ64_31, gQ64_34, gQ64_35, gQ64_36, gQ64_39, gQ64_40, gQ64_41, gQ64_43, gQ64_44, gQ64_48, gQ64_50, gQ64_51, gQ64_52, gQ64_53, gQ64_54, gQ64_58, gQ64_59, gI30, gJ30, pI30, pJ30, rC30, gI31, gJ31, pI31, pJ31, rC31, gI33, gJ33, pI33, pJ33, rC33, gI36, gJ36, pI36, pJ36, rC36, gI39, gJ39, pI39, pJ39, rC39, gI48, gJ48, pI48, pJ48, rC48, gI51, gJ51, pI51, pJ51, rC51, gI53, gJ53, pI53, pJ53, rC53, gI60, gJ60, pI60, pJ60, rC60, gI64, gJ64, pI64, pJ64, rC64, aI27, aL27, aI28, aL28, aI32, wI32, aL32, aI34, wI34, aL34, aI35, wI35, aL35, aI37, wI37, aL37, aI38, wI38, aL38, aJ40, wJ40, aL40, aI41, wI41, aL41, aI42, wI42, aL42, aI43, wI43, aL43, aI44, wI44, aL44, aI45, wI45, aL45, aI46, wI46, aL46, aI47, wI47, aL47, aI49, wI49, aL49, aI50, wI50, aL50, aI52, wI52, aL52, aI54, wI54, aL54, aI55, wI55, aL55, aL56, aL57, aL58, aI59, wI59, aL59, aI61, wI61, aL61, aL62, aI63, wI63, aL63, aI65, wI65, aL65, aI66, wI66, aL66, aI67, wI67, aL67, aI68, wI68, aL68, aI69, wI69, aL69, aJ70, wJ70, aL70, aJ71, wJ71, aL71, aJ72, wJ72, aL72, aZ73, wZ73, aL73, aI74, wI74, aL74, aI75, wI75, aL75, aJ76, wJ76, aL76, aJ77, wJ77, aL77, aI78, wI78, aL78, aI79, wI79, aL79, aI80, wI80, aL80, aI81, wI81, aL81, aI82, wI82, aL82, aI83, wI83, aL83, aI84, wI84, aL84, aI85, wI85, aL85, aI86, wI86, aL86, aI87, wI87, aL87, aI88, wI88, aL88, aI89, wI89, aL89, aI90, wI90, aL90, aI91, wI91, aL91, aI92, wI92, aL92, aI93, wI93, aL93, aI94, wI94, aL94, aZ95, wZ95, aL95, aI96, wI96, aL96, aJ97, wJ97, aL97, c1, h9, e1, F1, i9, nI_add, e2, nI_1shl (show d < 31 by omega), fa_or]
      exact b1
theorem l_44c {h : Hp} {pk : Nat} (hW : WF E) (hC : CJ τ E b pk h) : ∀ r d m, d + r = E 2 → l_44_29 (r + 1 + m) (some 39) (nI (mkM (fun d => decide (b d ≠ dHg E d)) d)) (nI d) h = b_44_71 (some 39) (nI (chM E b)) h := by
  obtain ⟨c1, c2, c3, _⟩ := id hC
  have w2 := hW.2.2.1
  intro r
  induction r with
  | zero =>
    intro d m hd
    obtain rfl : d = E 2 := by omega
    rw [show 0 + 1 + m = m + 1 by omega, l_44_29, b_44_29]
    simp (disch := first | assumption | (repeat' (first | apply fx_sI | apply fx_sJ | assumption | omega))) only [gQ_e (K39 c1), c2.1, Option.bind_some, c2.n.2, nI_leI, Nat.le_refl, if_true]
    rfl
  | succ r ih =>
    intro d m hd
    have ih' := ih (d + 1) m (by omega)
    have es : mkM (fun d => decide (b d ≠ dHg E d)) (d + 1) = mkM (fun d => decide (b d ≠ dHg E d)) d ||| (if decide (b d ≠ dHg E d) = true then 2 ^ d else 0) := rfl
    rw [es] at ih'
    generalize mkM (fun d => decide (b d ≠ dHg E d)) d = v at *
    have cd := c3 d (by omega)
    have hg := hW.hg (show d < E 2 by omega)
    rw [show r + 1 + 1 + m = (r + 1 + m) + 1 by omega, l_44_29, b_44_29]
    simp (disch := first | assumption | (repeat' (first | apply fx_sI | apply fx_sJ | assumption | omega))) only [gQ_e (K39 c1), c2.1, Option.bind_some, c2.n.2, nI_leI, show ¬ E 2 ≤ d by omega, if_false]
    rw [b_44_40]
    simp (disch := first | assumption | (repeat' (first | apply fx_sI | apply fx_sJ | assumption | omega))) only [bnd_e, grd_e, grd0, grd1, Option.bind_some, Option.isSome_some, gQ30_0, gQ30_1, gQ30_2, gQ30_3, gQ30_4, gQ30_5, gQ30_6, gQ30_7, gQ30_8, gQ30_9, gQ31_0, gQ33_0, gQ33_1, gQ36_0, gQ36_1, gQ39_0, gQ39_3, gQ39_4, gQ39_6, gQ39_8, gQ39_10, gQ39_11, gQ39_12, gQ48_0, gQ48_1, gQ51_2, gQ53_0, gQ53_1, gQ60_0, gQ60_1, gQ60_2, gQ64_1, gQ64_14, gQ64_15, gQ64_16, gQ64_17, gQ64_18, gQ64_19, gQ64_20, gQ64_21, gQ64_24, gQ64_25, gQ64_27, gQ64_28, gQ64_29, gQ64_30, gQ64_31, gQ64_34, gQ64_35, gQ64_36, gQ64_39, gQ64_40, gQ64_41, gQ64_43, gQ64_44, gQ64_48, gQ64_50, gQ64_51, gQ64_52, gQ64_53, gQ64_54, gQ64_58, gQ64_59, gI30, gJ30, pI30, pJ30, rC30, gI31, gJ31, pI31, pJ31, rC31, gI33, gJ33, pI33, pJ33, rC33, gI36, gJ36, pI36, pJ36, rC36, gI39, gJ39, pI39, pJ39, rC39, gI48, gJ48, pI48, pJ48, rC48, gI51, gJ51, pI51, pJ51, rC51, gI53, gJ53, pI53, pJ53, rC53, gI60, gJ60, pI60, pJ60, rC60, gI64, gJ64, pI64, pJ64, rC64, aI27, aL27, aI28, aL28, aI32, wI32, aL32, aI34, wI34, aL34, aI35, wI35, aL35, aI37, wI37, aL37, aI38, wI38, aL38, aJ40, wJ40, aL40, aI41, wI41, aL41, aI42, wI42, aL42, aI43, wI43, aL43, aI44, wI44, aL44, aI45, wI45, aL45, aI46, wI46, aL46, aI47, wI47, aL47, aI49, wI49, aL49, aI50, wI50, aL50, aI52, wI52, aL52, aI54, wI54, aL54, aI55, wI55, aL55, aL56, aL57, aL58, aI59, wI59, aL59, aI61, wI61, aL61, aL62, aI63, wI63, aL63, aI65, wI65, aL65, aI66, wI66, aL66, aI67, wI67, aL67, aI68, wI68, aL68, aI69, wI69, aL69, aJ70, wJ70, aL70, aJ71, wJ71, aL71, aJ72, wJ72, aL72, aZ73, wZ73, aL73, aI74, wI74, aL74, aI75, wI75, aL75, aJ76, wJ76, aL76, aJ77, wJ77, aL77, aI78, wI78, aL78, aI79, wI79, aL79, aI80, wI80, aL80, aI81, wI81, aL81, aI82, wI82, aL82, aI83, wI83, aL83, aI84, wI84, aL84, aI85, wI85, aL85, aI86, wI86, aL86, aI87, wI87, aL87, aI88, wI88, aL88, aI89, wI89, aL89, aI90, wI90, aL90, aI91, wI91, aL91, aI92, wI92, aL92, aI93, wI93, aL93, aI94, wI94, aL94, aZ95, wZ95, aL95, aI96, wI96, aL96, aJ97, wJ97, aL97, c1, cd.1, cd.2.1, nI_eq]
    by_cases c : b d = dHg E d
    · rw [if_neg (fun z => z c), b_44_56, b_44_63, fa_or, bnd_e, bnd_e, nI_add]
      rw [if_neg (by simp [c])] at ih'
      exact ih'
    · rw [if_pos c, b_44_60, b_44_63, nI_1shl (by omega), fa_or, bnd_e, bnd_e, nI_add]
      rw [if_pos (by simp [c])] at ih'
      exact ih'
/-- from the peaks' row on -/
theorem s_44t {h : Hp} {pk : Nat} (hT : TG τ) (hW : WF E) (hC : CJ τ E b pk h) :
    ∃ g W S o z, b_44_25 (some 39) h = some (nI (W 0), g) ∧ Fz [46, pk, 44, 10000039] h g ∧ PKq E b (chM E b) 0 W ∧ ORp W (chM E b) (E 2) z S o ∧ S z = chM E b ∧ hI g 39 9 = nI z ∧ ∀ j, j < z → hI g 44 j = nI (o j) := by
  have w2 := hW.2.2.1
  have cl : chM E b < 1024 := chm_lt _ w2
  have cn : chM E b < 2 ^ E 2 := mkM_lt _ _
  obtain ⟨m, hm⟩ := FU_ge (E 2 + 1) (by omega)
  obtain ⟨m2, hm2⟩ := FU_ge (chM E b + 1 + 1) (by omega)
  have lc := l_44c hW hC (E 2) 0 m (by omega)
  obtain ⟨h1, W, a1, a2, a3, a4⟩ := l_44 (b := b) hT hW cl cn (chM E b + 1) m2 h (fun _ => 0) (Nat.le_refl _) hC (fun x hx hs => by have := sbs_le hs; omega) (fun x hx hs => by have := sbs_le hs; omega)
  have e1 : nI (chM E b + 1) + (-1) = nI (chM E b) := pk_m1 _
  rw [e1] at a1
  have z1 : Fz [46, pk, 44, 10000039] h h1 := a2.wid (by intro z hz; simp only [List.mem_cons, List.not_mem_nil, or_false] at hz ⊢; omega)
  have C1 := hC.cz hT z1
  obtain ⟨c1, c2, c3, c4, c5, c6, c7, c8, c9⟩ := id C1
  have s0 : sbs 0 (chM E b) := fun i hi => by rw [Nat.zero_testBit] at hi; cases hi
  have v0 := a3 0 s0
  generalize e2 : sI h1 39 9 (nI 0) = h2
  have F1 : Fix h2 := by rw [← e2]; exact fx_sI c1 (by omega)
  have z2 : Fz [44, 10000039] h1 h2 := by rw [← e2]; exact Fz.sI Fz.rfl' (Or.inr (by simp))
  have z2' : Fz [46, pk, 44, 10000039] h1 h2 := z2.wid (by intro z hz; simp only [List.mem_cons, List.not_mem_nil, or_false] at hz ⊢; omega)
  have C2 := C1.cz hT z2'
  obtain ⟨g, z, S, o, b1, b2, b3, b4, b5, b6⟩ := l_47 (W := W) hT hW cl a4 (E 2) 0 m h2 (fun _ => 0) (fun _ => 0) (by omega) C2 (fun x hx => by rw [z2.I (a := pk) (by intro z hz; simp only [List.mem_cons, List.not_mem_nil, or_false] at hz; omega)]; exact a3 x hx) ⟨rfl, fun j hj => absurd hj (Nat.not_lt_zero j)⟩ (Nat.le_refl _) (by rw [← e2, hI_sI, if_pos ⟨rfl, rfl⟩]) (fun j hj => absurd hj (Nat.not_lt_zero j))
  have b2' : Fz [46, pk, 44, 10000039] h2 g := b2.wid (by intro z hz; simp only [List.mem_cons, List.not_mem_nil, or_false] at hz ⊢; omega)
  have C3 := C2.cz hT b2'
  obtain ⟨d1, _, _, d4, d5, d6, _⟩ := id C3
  have v1 : hI g pk 0 = nI (W 0) := by rw [b2.I (a := pk) (by intro z hz; simp only [List.mem_cons, List.not_mem_nil, or_false] at hz; omega), z2.I (a := pk) (by intro z hz; simp only [List.mem_cons, List.not_mem_nil, or_false] at hz; omega)]; exact v0
  refine ⟨g, W, S, o, z, ?_, (z1.then z2').then b2', a4, b3, b4, b5, b6⟩
  have f47 : f_47 (some 39) (nI (W 0)) (nI (chM E b)) h1 = some g := by
    rw [f_47, b_47_0]
    simp (disch := first | assumption | (repeat' (first | apply fx_sI | apply fx_sJ | assumption | omega))) only [bnd_e, grd_e, grd0, grd1, Option.bind_some, Option.isSome_some, gQ30_0, gQ30_1, gQ30_2, gQ30_3, gQ30_4, gQ30_5, gQ30_6, gQ30_7, gQ30_8, gQ30_9, gQ31_0, gQ33_0, gQ33_1, gQ36_0, gQ36_1, gQ39_0, gQ39_3, gQ39_4, gQ39_6, gQ39_8, gQ39_10, gQ39_11, gQ39_12, gQ48_0, gQ48_1, gQ51_2, gQ53_0, gQ53_1, gQ60_0, gQ60_1, gQ60_2, gQ64_1, gQ64_14, gQ64_15, gQ64_16, gQ64_17, gQ64_18, gQ64_19, gQ64_20, gQ64_21, gQ64_24, gQ64_25, gQ64_27, gQ64_28, gQ64_29, gQ64_30, gQ64_31, gQ64_34, gQ64_35, gQ64_36, gQ64_39, gQ64_40, gQ64_41, gQ64_43, gQ64_44, gQ64_48, gQ64_50, gQ64_51, gQ64_52, gQ64_53, gQ64_54, gQ64_58, gQ64_59, gI30, gJ30, pI30, pJ30, rC30, gI31, gJ31, pI31, pJ31, rC31, gI33, gJ33, pI33, pJ33, rC33, gI36, gJ36, pI36, pJ36, rC36, gI39, gJ39, pI39, pJ39, rC39, gI48, gJ48, pI48, pJ48, rC48, gI51, gJ51, pI51, pJ51, rC51, gI53, gJ53, pI53, pJ53, rC53, gI60, gJ60, pI60, pJ60, rC60, gI64, gJ64, pI64, pJ64, rC64, c1, e2]
    rw [hm]
    exact b1
  rw [b_44_25, bnd_e, bnd_e, hm]
  have lc : l_44_29 (E 2 + 1 + m) (some 39) (nI 0) (nI 0) h = b_44_71 (some 39) (nI (chM E b)) h := lc
  rw [lc, b_44_71, hm2, a1, b_44_111]
  simp (disch := first | assumption | (repeat' (first | apply fx_sI | apply fx_sJ | assumption | omega))) only [gQ_e (K39 c1), c4, aI_n c5 c6, v0, Option.bind_some, bnd_e, grd_e, grd0, grd1, Option.bind_some, Option.isSome_some, gQ30_0, gQ30_1, gQ30_2, gQ30_3, gQ30_4, gQ30_5, gQ30_6, gQ30_7, gQ30_8, gQ30_9, gQ31_0, gQ33_0, gQ33_1, gQ36_0, gQ36_1, gQ39_0, gQ39_3, gQ39_4, gQ39_6, gQ39_8, gQ39_10, gQ39_11, gQ39_12, gQ48_0, gQ48_1, gQ51_2, gQ53_0, gQ53_1, gQ60_0, gQ60_1, gQ60_2, gQ64_1, gQ64_14, gQ64_15, gQ64_16, gQ64_17, gQ64_18, gQ64_19, gQ64_20, gQ64_21, gQ64_24, gQ64_25, gQ64_27, gQ64_28, gQ64_29, gQ64_30, gQ64_31, gQ64_34, gQ64_35, gQ64_36, gQ64_39, gQ64_40, gQ64_41, gQ64_43, gQ64_44, gQ64_48, gQ64_50, gQ64_51, gQ64_52, gQ64_53, gQ64_54, gQ64_58, gQ64_59, gI30, gJ30, pI30, pJ30, rC30, gI31, gJ31, pI31, pJ31, rC31, gI33, gJ33, pI33, pJ33, rC33, gI36, gJ36, pI36, pJ36, rC36, gI39, gJ39, pI39, pJ39, rC39, gI48, gJ48, pI48, pJ48, rC48, gI51, gJ51, pI51, pJ51, rC51, gI53, gJ53, pI53, pJ53, rC53, gI60, gJ60, pI60, pJ60, rC60, gI64, gJ64, pI64, pJ64, rC64, c1, f47, gQ_e (K39 d1), d4, aI_n d5 d6, v1]
end JOIN2
