/-! the joiner: the order, and the class -/
theorem lst {P : Nat → Prop} : ∀ n, P n → ∃ d, d ≤ n ∧ P d ∧ ∀ k, k < d → ¬ P k := by
  intro n
  induction n using Nat.strongRecOn with
  | ind n ih =>
    intro hn
    by_cases c : ∃ k, k < n ∧ P k
    · obtain ⟨k, h1, h2⟩ := c
      obtain ⟨d, d1, d2⟩ := ih k h1 h2
      exact ⟨d, by omega, d2⟩
    · exact ⟨n, Nat.le_refl _, hn, fun k hk hp => c ⟨k, hk, hp⟩⟩
def ldB (W : Nat → Nat) (Ch s d : Nat) : Prop := Ch.testBit d = true ∧ s.testBit d = false ∧ W (s ||| 2 ^ d) ≤ W 0
def isNx (W : Nat → Nat) (Ch n s d : Nat) : Prop := d < n ∧ ldB W Ch s d ∧ ∀ k, k < d → ¬ ldB W Ch s k
def ORp (W : Nat → Nat) (Ch n z : Nat) (S o : Nat → Nat) : Prop := S 0 = 0 ∧ ∀ j, j < z → S j ≠ Ch ∧ isNx W Ch n (S j) (o j) ∧ S (j + 1) = S j ||| 2 ^ o j
section JOIN
variable {τ : Nat → Nat} {E b W V S o : Nat → Nat} {Ch : Nat}
theorem nx_ex {s : Nat} (hP : PKq E b Ch 0 W) (hs : sbs s Ch) (hn : s ≠ Ch) (hw : W s ≤ W 0) : ∃ d, isNx W Ch (E 2) s d := by
  obtain ⟨e, le⟩ := hP s (by omega) hs
  have l0 := (hP 0 (by omega) (fun i hi => by rw [Nat.zero_testBit] at hi; cases hi)).2
  unfold pkE at e
  rw [if_neg hn] at e
  have m1 : mnF W Ch s 1000 (E 2) ≤ W s := by rw [e]; exact Nat.le_max_right _ _
  rcases mnF_at (W := W) (Ch := Ch) (s := s) (st := 1000) (E 2) with q | ⟨d, d1, d2, d3, d4⟩
  · omega
  · obtain ⟨k, k1, k2, k3⟩ := lst (P := ldB W Ch s) d ⟨d2, d3, by omega⟩
    exact ⟨k, by omega, k2, k3⟩
theorem ORp.sb {z n : Nat} (h : ORp W Ch n z S o) : ∀ j, j ≤ z → sbs (S j) Ch ∧ ∀ k, k < j → (S j).testBit (o k) = true := by
  intro j
  induction j with
  | zero => intro _; rw [h.1]; exact ⟨fun i hi => (by rw [Nat.zero_testBit] at hi; cases hi), fun k hk => absurd hk (Nat.not_lt_zero k)⟩
  | succ j ih =>
    intro hj
    obtain ⟨a, b⟩ := ih (by omega)
    obtain ⟨c1, c2, c3⟩ := h.2 j (by omega)
    rw [c3]
    refine ⟨sbs_or a c2.2.1.1, fun k hk => ?_⟩
    rw [tb_or2]
    by_cases e : k = j
    · rw [e]; simp
    · rw [b k (by omega)]; rfl
theorem ORp.le {z n : Nat} (h : ORp W Ch n z S o) : z ≤ n := by
  refine fb_holes n z o (fun i hi => (h.2 i hi).2.1.1) (fun i j hij hj e => ?_)
  have h1 := (h.sb j (by omega)).2 i hij
  have h2 := (h.2 j hj).2.1.2.1.2.1
  rw [e, h2] at h1
  cases h1
theorem ORp.ext {z n d : Nat} (h : ORp W Ch n z S o) (hn : S z ≠ Ch) (hd : isNx W Ch n (S z) d) : ORp W Ch n (z + 1) (upn S (z + 1) (S z ||| 2 ^ d)) (upn o z d) := by
  have so : ∀ j, j ≤ z → upn S (z + 1) (S z ||| 2 ^ d) j = S j := fun j hj => by unfold upn; rw [if_neg (by omega)]
  refine ⟨by rw [so 0 (by omega)]; exact h.1, fun j hj => ?_⟩
  rw [so j (by omega)]
  by_cases e : j = z
  · subst e
    have e1 : upn o j d j = d := by unfold upn; rw [if_pos rfl]
    have e2 : upn S (j + 1) (S j ||| 2 ^ d) (j + 1) = S j ||| 2 ^ d := by unfold upn; rw [if_pos rfl]
    rw [e1, e2]
    exact ⟨hn, hd, rfl⟩
  · have e1 : upn o z d j = o j := by unfold upn; rw [if_neg e]
    rw [e1, so (j + 1) (by omega)]
    exact h.2 j (by omega)
theorem isNx.u {n s d k : Nat} (h1 : isNx W Ch n s d) (h2 : isNx V Ch n s k) (hs : sbs s Ch) (hv : ∀ x, sbs x Ch → W x = V x) : d = k := by
  have z0 : sbs 0 Ch := fun i hi => by rw [Nat.zero_testBit] at hi; cases hi
  have tr : ∀ j, ldB W Ch s j ↔ ldB V Ch s j := by
    intro j
    unfold ldB
    constructor
    · rintro ⟨a1, a2, a3⟩
      refine ⟨a1, a2, ?_⟩
      rw [← hv _ (sbs_or hs a1), ← hv 0 z0]; exact a3
    · rintro ⟨a1, a2, a3⟩
      refine ⟨a1, a2, ?_⟩
      rw [hv _ (sbs_or hs a1), hv 0 z0]; exact a3
  rcases Nat.lt_trichotomy d k with c | c | c
  · exact absurd ((tr d).1 h1.2.1) (h2.2.2 d c)
  · exact c
  · exact absurd ((tr k).2 h2.2.1) (h1.2.2 k c)
theorem ORp.u {z y n : Nat} {T p : Nat → Nat} (h1 : ORp W Ch n z S o) (e1 : S z = Ch) (h2 : ORp V Ch n y T p) (e2 : T y = Ch) (hv : ∀ x, sbs x Ch → W x = V x) : z = y ∧ ∀ j, j < z → o j = p j := by
  have key : ∀ j, j ≤ z → j ≤ y → S j = T j ∧ ∀ k, k < j → o k = p k := by
    intro j
    induction j with
    | zero => intro _ _; exact ⟨by rw [h1.1, h2.1], fun k hk => absurd hk (Nat.not_lt_zero k)⟩
    | succ j ih =>
      intro hz hy
      obtain ⟨a, b⟩ := ih (by omega) (by omega)
      obtain ⟨_, c2, c3⟩ := h1.2 j (by omega)
      obtain ⟨_, d2, d3⟩ := h2.2 j (by omega)
      rw [← a] at d2 d3
      have e := c2.u d2 (h1.sb j (by omega)).1 hv
      refine ⟨by rw [c3, d3, e], fun k hk => ?_⟩
      by_cases ek : k = j
      · rw [ek]; exact e
      · exact b k (by omega)
  have zy : z = y := by
    rcases Nat.lt_trichotomy z y with c | c | c
    · have := (key z (Nat.le_refl _) (by omega)).1
      rw [e1] at this
      exact absurd this.symm (h2.2 z c).1
    · exact c
    · have := (key y (by omega) (Nat.le_refl _)).1
      rw [e2] at this
      exact absurd this (h1.2 y c).1
  exact ⟨zy, fun j hj => (key z (Nat.le_refl _) (by omega)).2 j hj⟩
theorem fo_in {f : Nat → HR} {P : Nat → Bool} {x : Nat × (Nat → Nat)} : ∀ n, fo f P none n = some x → ∃ i, i < n ∧ P i = true ∧ f i = some x
  | 0, h => by cases h
  | n + 1, h => by
    rw [fo_s] at h
    cases hp : P n
    · rw [hp, if_neg (by decide)] at h
      obtain ⟨i, i1, i2⟩ := fo_in n h
      exact ⟨i, by omega, i2⟩
    · rw [hp, if_pos rfl] at h
      cases hr : fo f P none n with
      | none =>
        rw [hr, none_mrg] at h
        exact ⟨n, by omega, hp, h⟩
      | some r =>
        rw [hr] at h
        cases hf : f n with
        | none =>
          rw [hf, mrg_none] at h
          obtain ⟨i, i1, i2⟩ := fo_in n (hr.trans h)
          exact ⟨i, by omega, i2⟩
        | some y =>
          rw [hf, mrg_some] at h
          by_cases c : y.1 < r.1
          · rw [if_pos c] at h
            exact ⟨n, by omega, hp, by rw [hf, h]⟩
          · rw [if_neg c] at h
            obtain ⟨i, i1, i2⟩ := fo_in n (hr.trans h)
            exact ⟨i, by omega, i2⟩
theorem br_4 {am : Nat → Bool} {cur wt : Nat → Nat} : ∀ r d (L : Nat → Nat → Bool) x, br E am cur wt r d L = some x → ∀ i, d ≤ i → i < d + r → am i = true → x.2 i < 4 := by
  intro r
  induction r with
  | zero => intro d L x _ i h1 h2; omega
  | succ r ih =>
    intro d L x hx i h1 h2 h3
    rw [br_s] at hx
    cases ha : am d
    · rw [ha, if_neg (by decide)] at hx
      refine ih (d + 1) L x hx i ?_ (by omega) h3
      have : i ≠ d := fun z => by rw [z, ha] at h3; cases h3
      omega
    · rw [ha, if_pos rfl] at hx
      obtain ⟨j, j1, j2, j3⟩ := fo_in 4 hx
      have j3 : (br E am cur wt r (d + 1) (nxL E L d j)).map (adH cur wt d j) = some x := j3
      cases hs : br E am cur wt r (d + 1) (nxL E L d j) with
      | none => rw [hs] at j3; cases j3
      | some y =>
        rw [hs] at j3
        have j3 : some (adH cur wt d j y) = some x := j3
        cases j3
        show upn y.2 d j i < 4
        unfold upn
        by_cases c : i = d
        · rw [if_pos c]; exact j1
        · rw [if_neg c]; exact ih (d + 1) _ y hs i (by omega) (by omega) h3
/-- the class: what a joiner rests on -/
def CJ (τ : Nat → Nat) (E b : Nat → Nat) (pk : Nat) (h : Hp) : Prop := Fix h ∧ HgH τ h E ∧ (∀ d, d < E 2 → hI h 41 d = nI (dHg E d) ∧ hI h 42 d = nI (b d) ∧ b d < 4) ∧ hQ h 39 15 = some pk ∧ hK h pk = 12 ∧ hL h pk = 1024 ∧ 98 ≤ pk ∧ pk < 1000000 ∧ τ pk ≠ 1
theorem CJ.cz {h g : Hp} {pk : Nat} (hT : TG τ) (hC : CJ τ E b pk h) (hz : Fz [46, pk, 44, 10000039] h g) : CJ τ E b pk g := by
  obtain ⟨c1, c2, c3, c4, c5, c6, c7, c8, c9⟩ := hC
  have t1 : ∀ p, p < 60 → τ p ≠ 1 := fun p hp z => by have := (hT p z).1; omega
  refine ⟨hz.fix c1 (by intro z hz'; simp only [List.mem_cons, List.not_mem_nil, or_false] at hz'; omega), ?_, fun d hd => ⟨?_, ?_, (c3 d hd).2.2⟩, by rw [hz.Q]; exact c4, by rw [hz.K]; exact c5, by rw [hz.L]; exact c6, c7, c8, c9⟩
  · refine c2.cg hz.K hz.L hz.Q (hz.tag2 hT (fun z hz' => ?_)) (hz.J1 (by simp only [List.mem_cons, List.not_mem_nil, or_false]; omega) (by simp only [List.mem_cons, List.not_mem_nil, or_false]; omega)) (hz.J (a := 40) (by intro z hz; simp only [List.mem_cons, List.not_mem_nil, or_false] at hz; omega))
    simp only [List.mem_cons, List.not_mem_nil, or_false] at hz'
    rcases hz' with rfl | rfl | rfl | rfl
    · exact t1 46 (by omega)
    · rw [Nat.mod_eq_of_lt c8]; exact c9
    · exact t1 44 (by omega)
    · exact t1 39 (by omega)
  · rw [hz.I (a := 41) (by intro z hz; simp only [List.mem_cons, List.not_mem_nil, or_false] at hz; omega)]; exact (c3 d hd).1
  · rw [hz.I (a := 42) (by intro z hz; simp only [List.mem_cons, List.not_mem_nil, or_false] at hz; omega)]; exact (c3 d hd).2.1
theorem l_45 {pk s : Nat} (hT : TG τ) (hW : WF E) (hs : s < 1024) : ∀ r d m h, d + r = E 2 → CJ τ E b pk h → (∀ i, i < d → hI h 46 i = nI (xsH b (dHg E) s i)) → ∃ g, l_45_2 (r + 1 + m) (some 39) (nI s) (nI d) h = some (nI (prs E (xsH b (dHg E) s) (E 2)), g) ∧ Fz [46] h g := by
  have w2 := hW.2.2.1
  intro r
  induction r with
  | zero =>
    intro d m h hd hC ht
    obtain ⟨c1, c2, c3, c4, c5, c6, c7, c8, c9⟩ := id hC
    obtain rfl : d = E 2 := by omega
    refine ⟨h, ?_, Fz.rfl'⟩
    rw [show 0 + 1 + m = m + 1 by omega, l_45_2, b_45_2]
    simp (disch := first | assumption | (repeat' (first | apply fx_sI | apply fx_sJ | assumption | omega))) only [gQ_e (K39 c1), c2.1, Option.bind_some, c2.n.2, nI_leI, Nat.le_refl, if_true]
    rw [b_45_49]
    have e43 := s_43 (a := 46) (x := xsH b (dHg E) s) c1 c2 w2 (K46 c1) (L46 c1) (fun i hi => ⟨ht i hi, by
      unfold xsH
      split
      · exact (c3 i hi).2.2
      · exact hW.hg hi⟩)
    simp (disch := first | assumption | (repeat' (first | apply fx_sI | apply fx_sJ | assumption | omega))) only [bnd_e, grd_e, grd0, grd1, Option.bind_some, Option.isSome_some, gQ30_0, gQ30_1, gQ30_2, gQ30_3, gQ30_4, gQ30_5, gQ30_6, gQ30_7, gQ30_8, gQ30_9, gQ31_0, gQ33_0, gQ33_1, gQ36_0, gQ36_1, gQ39_0, gQ39_3, gQ39_4, gQ39_6, gQ39_8, gQ39_10, gQ39_11, gQ39_12, gQ48_0, gQ48_1, gQ51_2, gQ53_0, gQ53_1, gQ60_0, gQ60_1, gQ60_2, gQ64_1, gQ64_14, gQ64_15, gQ64_16, gQ64_17, gQ64_18, gQ64_19, gQ64_20, gQ64_21, gQ64_24, gQ64_25, gQ64_27, gQ64_28, gQ64_29, gQ64_30, gQ64_31, gQ64_34, gQ64_35, gQ64_36, gQ64_39, gQ64_40, gQ64_41, gQ64_43, gQ64_44, gQ64_48, gQ64_50, gQ64_51, gQ64_52, gQ64_53, gQ64_54, gQ64_58, gQ64_59, gI30, gJ30, pI30, pJ30, rC30, gI31, gJ31, pI31, pJ31, rC31, gI33, gJ33, pI33, pJ33, rC33, gI36, gJ36, pI36, pJ36, rC36, gI39, gJ39, pI39, pJ39, rC39, gI48, gJ48, pI48, pJ48, rC48, gI51, gJ51, pI51, pJ51, rC51, gI53, gJ53, pI53, pJ53, rC53, gI60, gJ60, pI60, pJ60, rC60, gI64, gJ64, pI64, pJ64, rC64, c1, e43]
  | succ r ih =>
    intro d m h hd hC ht
    obtain ⟨c1, c2, c3, c4, c5, c6, c7, c8, c9⟩ := id hC
    have z1 : Fz [46] h (sI h 46 d (nI (xsH b (dHg E) s d))) := Fz.sI Fz.rfl' (Or.inl (by simp))
    obtain ⟨g, a1, a2⟩ := ih (d + 1) m _ (by omega) (hC.cz hT (z1.wid (by intro z hz; simp only [List.mem_cons, List.not_mem_nil, or_false] at hz ⊢; omega))) (fun i hi => by
      rw [hI_sI]
      by_cases c : i = d
      · rw [if_pos ⟨rfl, c⟩, c]
      · rw [if_neg (fun z => c z.2)]; exact ht i (by omega))
    refine ⟨g, ?_, z1.then a2⟩
    have cd := c3 d (by omega)
    rw [show r + 1 + 1 + m = (r + 1 + m) + 1 by omega, l_45_2, b_45_2]
    simp (disch := first | assumption | (repeat' (first | apply fx_sI | apply fx_sJ | assumption | omega))) only [gQ_e (K39 c1), c2.1, Option.bind_some, c2.n.2, nI_leI, show ¬ E 2 ≤ d by omega, if_false]
    rw [b_45_13]
    simp (disch := first | assumption | (repeat' (first | apply fx_sI | apply fx_sJ | assumption | omega))) only [bnd_e, grd_e, grd0, grd1, Option.bind_some, Option.isSome_some, gQ30_0, gQ30_1, gQ30_2, gQ30_3, gQ30_4, gQ30_5, gQ30_6, gQ30_7, gQ30_8, gQ30_9, gQ31_0, gQ33_0, gQ33_1, gQ36_0, gQ36_1, gQ39_0, gQ39_3, gQ39_4, gQ39_6, gQ39_8, gQ39_10, gQ39_11, gQ39_12, gQ48_0, gQ48_1, gQ51_2, gQ53_0, gQ53_1, gQ60_0, gQ60_1, gQ60_2, gQ64_1, gQ64_14, gQ64_15, gQ64_16, gQ64_17, gQ64_18, gQ64_19, gQ64_20, gQ64_21, gQ64_24, gQ64_25, gQ64_27, gQ64_28, gQ64_29, gQ64_30, gQ64_31, gQ64_34, gQ64_35, gQ64_36, gQ64_39, gQ64_40, gQ64_41, gQ64_43, gQ64_44, gQ64_48, gQ64_50, gQ64_51, gQ64_52, gQ64_53, gQ64_54, gQ64_58, gQ64_59, gI30, gJ30, pI30, pJ30, rC30, gI31, gJ31, pI31, pJ31, rC31, gI33, gJ33, pI33, pJ33, rC33, gI36, gJ36, pI36, pJ36, rC36, gI39, gJ39, pI39, pJ39, rC39, gI48, gJ48, pI48, pJ48, rC48, gI51, gJ51, pI51, pJ51, rC51, gI53, gJ53, pI53, pJ53, rC53, gI60, gJ60, pI60, pJ60, rC60, gI64, gJ64, pI64, pJ64, rC64, c1, nI_hasP (show s < 2147483648 by omega) (show d < 32 by omega)]
    have w : ∀ x : Int32, x = nI (xsH b (dHg E) s d) → b_45_42 (l_45_2 (r + 1 + m)) (some 39) (nI s) (nI d) (some 46) (nI d) x h = some (nI (prs E (xsH b (dHg E) s) (E 2)), g) := by
      intro x hx
      rw [b_45_42, hx]
      simp (disch := first | assumption | (repeat' (first | apply fx_sI | apply fx_sJ | assumption | omega))) only [aI27, aL27, aI28, aL28, aI32, wI32, aL32, aI34, wI34, aL34, aI35, wI35, aL35, aI37, wI37, aL37, aI38, wI38, aL38, aJ40, wJ40, aL40, aI41, wI41, aL41, aI42, wI42, aL42, aI43, wI43, aL43, aI44, wI44, aL44, aI45, wI45, aL45, aI46, wI46, aL46, aI47, wI47, aL47, aI49, wI49, aL49, aI50, wI50, aL50, aI52, wI52, aL52, aI54, wI54, aL54, aI55, wI55, aL55, aL56, aL57, aL58, aI59, wI59, aL59, aI61, wI61, aL61, aL62, aI63, wI63, aL63, aI65, wI65, aL65, aI66, wI66, aL66, aI67, wI67, aL67, aI68, wI68, aL68, aI69, wI69, aL69, aJ70, wJ70, aL70, aJ71, wJ71, aL71, aJ72, wJ72, aL72, aZ73, wZ73, aL73, aI74, wI74, aL74, aI75, wI75, aL75, aJ76, wJ76, aL76, aJ77, wJ77, aL77, aI78, wI78, aL78, aI79, wI79, aL79, aI80, wI80, aL80, aI81, wI81, aL81, aI82, wI82, aL82, aI83, wI83, aL83, aI84, wI84, aL84, aI85, wI85, aL85, aI86, wI86, aL86, aI87, wI87, aL87, aI88, wI88, aL88, aI89, wI89, aL89, aI90, wI90, aL90, aI91, wI91, aL91, aI92, wI92, aL92, aI93, wI93, aL93, aI94, wI94, aL94, aZ95, wZ95, aL95, aI96, wI96, aL96, aJ97, wJ97, aL97, c1, Option.bind_some, bnd_e, nI_add]
      exact a1
    cases hb : s.testBit d
    · rw [if_pos (by decide), b_45_36]
      simp (disch := first | assumption | (repeat' (first | apply fx_sI | apply fx_sJ | assumption | omega))) only [bnd_e, grd_e, grd0, grd1, Option.bind_some, Option.isSome_some, gQ30_0, gQ30_1, gQ30_2, gQ30_3, gQ30_4, gQ30_5, gQ30_6, gQ30_7, gQ30_8, gQ30_9, gQ31_0, gQ33_0, gQ33_1, gQ36_0, gQ36_1, gQ39_0, gQ39_3, gQ39_4, gQ39_6, gQ39_8, gQ39_10, gQ39_11, gQ39_12, gQ48_0, gQ48_1, gQ51_2, gQ53_0, gQ53_1, gQ60_0, gQ60_1, gQ60_2, gQ64_1, gQ64_14, gQ64_15, gQ64_16, gQ64_17, gQ64_18, gQ64_19, gQ64_20, gQ64_21, gQ64_24, gQ64_25, gQ64_27, gQ64_28, gQ64_29, gQ64_30, gQ64_31, gQ64_34, gQ64_35, gQ64_36, gQ64_39, gQ64_40, gQ64_41, gQ64_43, gQ64_44, gQ64_48, gQ64_50, gQ64_51, gQ64_52, gQ64_53, gQ64_54, gQ64_58, gQ64_59, gI30, gJ30, pI30, pJ30, rC30, gI31, gJ31, pI31, pJ31, rC31, gI33, gJ33, pI33, pJ33, rC33, gI36, gJ36, pI36, pJ36, rC36, gI39, gJ39, pI39, pJ39, rC39, gI48, gJ48, pI48, pJ48, rC48, gI51, gJ51, pI51, pJ51, rC51, gI53, gJ53, pI53, pJ53, rC53, gI60, gJ60, pI60, pJ60, rC60, gI64, gJ64, pI64, pJ64, rC64, aI27, aL27, aI28, aL28, aI32, wI32, aL32, aI34, wI34, aL34, aI35, wI35, aL35, aI37, wI37, aL37, aI38, wI38, aL38, aJ40, wJ40, aL40, aI41, wI41, aL41, aI42, wI42, aL42, aI43, wI43, aL43, aI44, wI44, aL44, aI45, wI45, aL45, aI46, wI46, aL46, aI47, wI47, aL47, aI49, wI49, aL49, aI50, wI50, aL50, aI52, wI52, aL52, aI54, wI54, aL54, aI55, wI55, aL55, aL56, aL57, aL58, aI59, wI59, aL59, aI61, wI61, aL61, aL62, aI63, wI63, aL63, aI65, wI65, aL65, aI66, wI66, aL66, aI67, wI67, aL67, aI68, wI68, aL68, aI69, wI69, aL69, aJ70, wJ70, aL70, aJ71, wJ71, aL71, aJ72, wJ72, aL72, aZ73, wZ73, aL73, aI74, wI74, aL74, aI75, wI75, aL75, aJ76, wJ76, aL76, aJ77, wJ77, aL77, aI78, wI78, aL78, aI79, wI79, aL79, aI80, wI80, aL80, aI81, wI81, aL81, aI82, wI82, aL82, aI83, wI83, aL83, aI84, wI84, aL84, aI85, wI85, aL85, aI86, wI86, aL86, aI87, wI87, aL87, aI88, wI88, aL88, aI89, wI89, aL89, aI90, wI90, aL90, aI91, wI91, aL91, aI92, wI92, aL92, aI93, wI93, aL93, aI94, wI94, aL94, aZ95, wZ95, aL95, aI96, wI96, aL96, aJ97, wJ97, aL97, c1, cd.1]
      exact w _ (by unfold xsH; rw [hb, if_neg (by decide)])
    · rw [if_neg (fun z => z rfl), b_45_27]
      simp (disch := first | assumption | (repeat' (first | apply fx_sI | apply fx_sJ | assumption | omega))) only [bnd_e, grd_e, grd0, grd1, Option.bind_some, Option.isSome_some, gQ30_0, gQ30_1, gQ30_2, gQ30_3, gQ30_4, gQ30_5, gQ30_6, gQ30_7, gQ30_8, gQ30_9, gQ31_0, gQ33_0, gQ33_1, gQ36_0, gQ36_1, gQ39_0, gQ39_3, gQ39_4, gQ39_6, gQ39_8, gQ39_10, gQ39_11, gQ39_12, gQ48_0, gQ48_1, gQ51_2, gQ53_0, gQ53_1, gQ60_0, gQ60_1, gQ60_2, gQ64_1, gQ64_14, gQ64_15, gQ64_16, gQ64_17, gQ64_18, gQ64_19, gQ64_20, gQ64_21, gQ64_24, gQ64_25, gQ64_27, gQ64_28, gQ64_29, gQ64_30, gQ64_31, gQ64_34, gQ64_35, gQ64_36, gQ64_39, gQ64_40, gQ64_41, gQ64_43, gQ64_44, gQ64_48, gQ64_50, gQ64_51, gQ64_52, gQ64_53, gQ64_54, gQ64_58, gQ64_59, gI30, gJ30, pI30, pJ30, rC30, gI31, gJ31, pI31, pJ31, rC31, gI33, gJ33, pI33, pJ33, rC33, gI36, gJ36, pI36, pJ36, rC36, gI39, gJ39, pI39, pJ39, rC39, gI48, gJ48, pI48, pJ48, rC48, gI51, gJ51, pI51, pJ51, rC51, gI53, gJ53, pI53, pJ53, rC53, gI60, gJ60, pI60, pJ60, rC60, gI64, gJ64, pI64, pJ64, rC64, aI27, aL27, aI28, aL28, aI32, wI32, aL32, aI34, wI34, aL34, aI35, wI35, aL35, aI37, wI37, aL37, aI38, wI38, aL38, aJ40, wJ40, aL40, aI41, wI41, aL41, aI42, wI42, aL42, aI43, wI43, aL43, aI44, wI44, aL44, aI45, wI45, aL45, aI46, wI46, aL46, aI47, wI47, aL47, aI49, wI49, aL49, aI50, wI50, aL50, aI52, wI52, aL52, aI54, wI54, aL54, aI55, wI55, aL55, aL56, aL57, aL58, aI59, wI59, aL59, aI61, wI61, aL61, aL62, aI63, wI63, aL63, aI65, wI65, aL65, aI66, wI66, aL66, aI67, wI67, aL67, aI68, wI68, aL68, aI69, wI69, aL69, aJ70, wJ70, aL70, aJ71, wJ71, aL71, aJ72, wJ72, aL72, aZ73, wZ73, aL73, aI74, wI74, aL74, aI75, wI75, aL75, aJ76, wJ76, aL76, aJ77, wJ77, aL77, aI78, wI78, aL78, aI79, wI79, aL79, aI80, wI80, aL80, aI81, wI81, aL81, aI82, wI82, aL82, aI83, wI83, aL83, aI84, wI84, aL84, aI85, wI85, aL85, aI86, wI86, aL86, aI87, wI87, aL87, aI88, wI88, aL88, aI89, wI89, aL89, aI90, wI90, aL90, aI91, wI91, aL91, aI92, wI92, aL92, aI93, wI93, aL93, aI94, wI94, aL94, aZ95, wZ95, aL95, aI96, wI96, aL96, aJ97, wJ97, aL97, c1, cd.2.1]
      exact w _ (by unfold xsH; rw [hb, if_pos rfl])
theorem s_45 {h : Hp} {pk s : Nat} (hT : TG τ) (hW : WF E) (hs : s < 1024) (hC : CJ τ E b pk h) : ∃ g, f_45 (some 39) (nI s) h = some (nI (prs E (xsH b (dHg E) s) (E 2)), g) ∧ Fz [46] h g := by
  have w2 := hW.2.2.1
  obtain ⟨m, hm⟩ := FU_ge (E 2 + 1) (by omega)
  obtain ⟨g, a1, a2⟩ := l_45 hT hW hs (E 2) 0 m h (by omega) hC (fun i hi => absurd hi (Nat.not_lt_zero i))
  exact ⟨g, by rw [f_45, b_45_0, bnd_e, hm]; exact a1, a2⟩
theorem l_46 {h : Hp} {pk s st : Nat} (hW : WF E) (hC : CJ τ E b pk h) (hCh : Ch < 1024) (hs : sbs s Ch) (hst : st < 2147483648) (hw : ∀ x, s < x → sbs x Ch → hI h pk x = nI (W x) ∧ W x ≤ 100) : ∀ r d m, d + r = E 2 → mnF W Ch s st d < 2147483648 → l_46_15 (r + 1 + m) (some 39) (nI s) (nI Ch) (nI (mnF W Ch s st d)) (nI d) h = some (nI (mnF W Ch s st (E 2)), h) := by
  obtain ⟨c1, c2, c3, c4, c5, c6, c7, c8, c9⟩ := id hC
  have w2 := hW.2.2.1
  have sl := sbs_le hs
  intro r
  induction r with
  | zero =>
    intro d m hd _
    obtain rfl : d = E 2 := by omega
    rw [show 0 + 1 + m = m + 1 by omega, l_46_15, b_46_15]
    simp (disch := first | assumption | (repeat' (first | apply fx_sI | apply fx_sJ | assumption | omega))) only [gQ_e (K39 c1), c2.1, Option.bind_some, c2.n.2, nI_leI, Nat.le_refl, if_true]
    rw [b_46_63]
  | succ r ih =>
    intro d m hd hm
    have es := mnF_s W Ch s st d
    have ih' := ih (d + 1) m (by omega)
    rw [es] at ih'
    generalize mnF W Ch s st d = v at *
    have nxt : ∀ y, y < 2147483648 → (if (Ch.testBit d && !s.testBit d) = true then (if W (s ||| 2 ^ d) < v then W (s ||| 2 ^ d) else v) else v) = y → b_46_57 (l_46_15 (r + 1 + m)) (some 39) (nI s) (nI Ch) (nI y) (nI d) h = some (nI (mnF W Ch s st (E 2)), h) := by
      intro y hy e
      rw [b_46_57, bnd_e, nI_add]
      rw [e] at ih'
      exact ih' hy
    rw [show r + 1 + 1 + m = (r + 1 + m) + 1 by omega, l_46_15, b_46_15]
    simp (disch := first | assumption | (repeat' (first | apply fx_sI | apply fx_sJ | assumption | omega))) only [gQ_e (K39 c1), c2.1, Option.bind_some, c2.n.2, nI_leI, show ¬ E 2 ≤ d by omega, if_false]
    have dl := dif_lt (b := s) hCh
    rw [b_46_27, nI_andn hCh]
    have ed : Ch &&& (1023 ^^^ s) = dif Ch s := rfl
    simp only [ed, nI_hasP (show dif Ch s < 2147483648 by omega) (show d < 32 by omega), dif_tb hCh]
    cases hb : (Ch.testBit d && !s.testBit d)
    · rw [if_pos (by decide)]
      exact nxt v hm (by rw [hb, if_neg (by decide)])
    · rw [if_neg (fun z => z rfl), b_46_41]
      have hb' := hb
      rw [Bool.and_eq_true, Bool.not_eq_true'] at hb'
      have g1 := or_gt hb'.2
      have g2 := sbs_or hs hb'.1
      have g3 := sbs_le g2
      obtain ⟨q1, q2⟩ := hw _ g1 g2
      simp (disch := first | assumption | (repeat' (first | apply fx_sI | apply fx_sJ | assumption | omega))) only [gQ_e (K39 c1), c4, Option.bind_some, nI_1shl (show d < 31 by omega), fa_or, aI_n c5 c6, q1, nI_ltI, bnd_e]
      have ei : (if W (s ||| 2 ^ d) < v then nI (W (s ||| 2 ^ d)) else nI v) = nI (if W (s ||| 2 ^ d) < v then W (s ||| 2 ^ d) else v) := by split <;> rfl
      rw [ei]
      exact nxt _ (by split <;> omega) (by rw [hb, if_pos rfl])
theorem s_46 {h : Hp} {pk s : Nat} (hW : WF E) (hC : CJ τ E b pk h) (hCh : Ch < 1024) (hCn : Ch < 2 ^ E 2) (hs : sbs s Ch) (hw : ∀ x, s < x → sbs x Ch → hI h pk x = nI (W x) ∧ W x ≤ 100) : f_46 (some 39) (nI s) (nI Ch) h = some (nI (if s = Ch then 0 else mnF W Ch s 1000 (E 2)), h) := by
  have w2 := hW.2.2.1
  have sl := sbs_le hs
  obtain ⟨m, hm⟩ := FU_ge (E 2 + 1) (by omega)
  rw [f_46, b_46_0]
  simp (disch := first | assumption | (repeat' (first | apply fx_sI | apply fx_sJ | assumption | omega))) only [nI_eq]
  by_cases c : s = Ch
  · rw [if_neg (fun z => z c), if_pos c, b_46_5, b_46_11, bnd_e, hm]
    have := l_46 (W := W) (st := 0) hW hC hCh hs (by omega) hw (E 2) 0 m (by omega) (by show 0 < 2147483648; omega)
    have m0 : mnF W Ch s 0 (E 2) = 0 := by
      have : ∀ n, mnF W Ch s 0 n = 0 := by
        intro n
        induction n with
        | zero => rfl
        | succ n ih =>
          rw [mnF_s, ih, c]
          cases Ch.testBit n <;> simp
      exact this _
    rw [m0] at this
    exact this
  · rw [if_pos c, if_neg c, b_46_9, b_46_11, bnd_e, hm]
    have := l_46 (W := W) (st := 1073741824) hW hC hCh hs (by omega) hw (E 2) 0 m (by omega) (by show 1073741824 < 2147483648; omega)
    obtain ⟨d, d1, d2⟩ := sbs_ne hs c
    have dn : d < E 2 := by
      apply Classical.byContradiction
      intro z
      rw [tb_out hCn (by omega)] at d1
      cases d1
    rcases mnF_st (W := W) (Ch := Ch) (s := s) (a := 1073741824) (b := 1000) (E 2) (fun d hd p1 p2 => by
      have g1 := or_gt p2
      have g2 := sbs_or hs p1
      have := (hw _ g1 g2).2
      omega) with q | ⟨_, _, q⟩
    · rw [q.1] at this; exact this
    · have := q d dn
      rw [d1, d2] at this
      cases this
/-- the peaks of all sets -/
theorem l_44 {pk : Nat} (hT : TG τ) (hW : WF E) (hCh : Ch < 1024) (hCn : Ch < 2 ^ E 2) : ∀ k m h (W : Nat → Nat), k ≤ Ch + 1 → CJ τ E b pk h → (∀ x, k ≤ x → sbs x Ch → hI h pk x = nI (W x)) → PKq E b Ch k W →
    ∃ g W', l_44_73 (k + 1 + m) (some 39) (nI Ch) (nI k + (-1)) h = b_44_111 (some 39) (nI Ch) g ∧ Fz [46, pk] h g ∧ (∀ x, sbs x Ch → hI g pk x = nI (W' x)) ∧ PKq E b Ch 0 W' := by
  have w2 := hW.2.2.1
  intro k
  induction k with
  | zero =>
    intro m h W hk hC hp hP
    refine ⟨h, W, ?_, Fz.rfl', fun x hx => hp x (by omega) hx, hP⟩
    rw [show 0 + 1 + m = m + 1 by omega, l_44_73, b_44_73, if_pos (by decide)]
  | succ k ih =>
    intro m h W hk hC hp hP
    obtain ⟨c1, c2, c3, c4, c5, c6, c7, c8, c9⟩ := id hC
    have e : nI (k + 1) + (-1) = nI k := pk_m1 k
    have dl := dif_lt (a := k) (b := Ch) (by omega)
    have nx : ∀ g, b_44_105 (l_44_73 (k + 1 + m)) (some 39) (nI Ch) (nI k) g = l_44_73 (k + 1 + m) (some 39) (nI Ch) (nI k + (-1)) g := fun g => by rw [b_44_105, bnd_e]
    have ed : (nI k &&& (nI Ch ^^^ (-1)) = 0) = sbs k Ch := by
      rw [nI_andn (show k < 1024 by omega)]
      show (nI (dif k Ch) = 0) = _
      rw [nI_eq0 (by omega)]
      exact propext (dif_0 (by omega))
    rw [show k + 1 + 1 + m = (k + 1 + m) + 1 by omega, e, l_44_73, b_44_73, if_neg (nI_pos (by omega)), b_44_77]
    by_cases c : sbs k Ch
    · rw [if_neg (fun z => z (by rw [ed]; exact c)), b_44_85]
      obtain ⟨h1, a1, a2⟩ := s_45 (s := k) hT hW (by omega) hC
      have z1 : Fz [46, pk, 44, 10000039] h h1 := a2.wid (by intro z hz; simp only [List.mem_cons, List.not_mem_nil, or_false] at hz ⊢; omega)
      have C1 := hC.cz hT z1
      have F1 := C1.1
      have i1 : hI h1 pk = hI h pk := a2.I (a := pk) (by intro z hz; simp only [List.mem_cons, List.not_mem_nil, or_false] at hz; omega)
      have e46 := s_46 (W := W) hW C1 hCh hCn c (fun x h1 h2 => ⟨by rw [i1]; exact hp x (by omega) h2, (hP x (by omega) h2).2⟩)
      have pl := prs_le E (xsH b (dHg E) k) (E 2) w2
      have ml : (if k = Ch then 0 else mnF W Ch k 1000 (E 2)) ≤ 100 := by
        by_cases ck : k = Ch
        · rw [if_pos ck]; omega
        · rw [if_neg ck]
          obtain ⟨d, d1, d2⟩ := sbs_ne c ck
          have dn : d < E 2 := by
            apply Classical.byContradiction
            intro z
            rw [tb_out hCn (by omega)] at d1
            cases d1
          rcases mnF_at (W := W) (Ch := Ch) (s := k) (st := 1000) (E 2) with q | ⟨d, q1, q2, q3, q4⟩
          · rcases mnF_st (W := W) (Ch := Ch) (s := k) (a := 1000) (b := 1000) (E 2) (fun d hd p1 p2 => by
              have := (hP _ (by have := or_gt p2; omega) (sbs_or c p1)).2
              omega) with z | ⟨_, _, z⟩
            · omega
            · have := z d dn
              rw [d1, d2] at this
              cases this
          · rw [q4]; exact (hP _ (by have := or_gt q3; omega) (sbs_or c q2)).2
      generalize hv : pkE E b Ch W k = v
      have hv' : v = max (prs E (xsH b (dHg E) k) (E 2)) (if k = Ch then 0 else mnF W Ch k 1000 (E 2)) := hv.symm
      have vl : v ≤ 100 := by rw [hv']; omega
      have z2 : Fz [46, pk, 44, 10000039] h1 (sI h1 pk k (nI v)) := Fz.sI Fz.rfl' (Or.inl (by simp))
      have C2 := C1.cz hT z2
      have up : ∀ x, x ≠ k → upn W k v x = W x := fun x hx => by unfold upn; rw [if_neg hx]
      obtain ⟨g, W', b1, b2, b3, b4⟩ := ih m (sI h1 pk k (nI v)) (upn W k v) (by omega) C2 (fun x hx hs => by
        rw [hI_sI]
        by_cases cx : x = k
        · rw [if_pos ⟨rfl, cx⟩]; unfold upn; rw [if_pos cx]
        · rw [if_neg (fun z => cx z.2), up x cx, i1]; exact hp x (by omega) hs) (fun x hx hs => by
        have cgx : pkE E b Ch (upn W k v) x = pkE E b Ch W x := by
          unfold pkE
          congr 1
          split
          · rfl
          · apply mnF_cg
            intro d _ _ p2
            have := or_gt p2
            exact up _ (by omega)
        rw [cgx]
        by_cases cx : x = k
        · have : upn W k v x = v := by unfold upn; rw [if_pos cx]
          rw [this, cx]; exact ⟨hv.symm, vl⟩
        · rw [up x cx]; exact hP x (by omega) hs)
      refine ⟨g, W', ?_, (a2.wid (by intro z hz; simp only [List.mem_cons, List.not_mem_nil, or_false] at hz ⊢; omega)).then (Fz.then (Fz.sI Fz.rfl' (Or.inl (by simp))) b2), b3, b4⟩
      have em : (if nI (prs E (xsH b (dHg E) k) (E 2)) < nI (if k = Ch then 0 else mnF W Ch k 1000 (E 2)) then nI (if k = Ch then 0 else mnF W Ch k 1000 (E 2)) else nI (prs E (xsH b (dHg E) k) (E 2))) = nI v := by
        rw [hv']
        generalize (if k = Ch then 0 else mnF W Ch k 1000 (E 2)) = y at *
        by_cases cc : prs E (xsH b (dHg E) k) (E 2) < y
        · rw [if_pos ((nI_ltI (by omega) (by omega)).2 cc), Nat.max_eq_right (by omega)]
        · rw [if_neg (fun z => cc ((nI_ltI (by omega) (by omega)).1 z)), Nat.max_eq_left (by omega)]
      have k1 : hK h1 pk = 12 := by rw [a2.K]; exact c5
      have l1 : hL h1 pk = 1024 := by rw [a2.L]; exact c6
      simp (disch := first | assumption | (repeat' (first | apply fx_sI | apply fx_sJ | assumption | omega))) only [gQ_e (K39 c1), c4, Option.bind_some, bnd_e, grd_e, grd0, grd1, Option.bind_some, Option.isSome_some, gQ30_0, gQ30_1, gQ30_2, gQ30_3, gQ30_4, gQ30_5, gQ30_6, gQ30_7, gQ30_8, gQ30_9, gQ31_0, gQ33_0, gQ33_1, gQ36_0, gQ36_1, gQ39_0, gQ39_3, gQ39_4, gQ39_6, gQ39_8, gQ39_10, gQ39_11, gQ39_12, gQ48_0, gQ48_1, gQ51_2, gQ53_0, gQ53_1, gQ60_0, gQ60_1, gQ60_2, gQ64_1, gQ64_14, gQ64_15, gQ64_16, gQ64_17, gQ64_18, gQ64_19, gQ64_20, gQ64_21, gQ64_24, gQ64_25, gQ64_27, gQ64_28, gQ64_29, gQ64_30, gQ64_31, gQ64_34, gQ64_35, gQ64_36, gQ64_39, gQ64_40, gQ64_41, gQ64_43, gQ64_44, gQ64_48, gQ64_50, gQ64_51, gQ64_52, gQ64_53, gQ64_54, gQ64_58, gQ64_59, gI30, gJ30, pI30, pJ30, rC30, gI31, gJ31, pI31, pJ31, rC31, gI33, gJ33, pI33, pJ33, rC33, gI36, gJ36, pI36, pJ36, rC36, gI39, gJ39, pI39, pJ39, rC39, gI48, gJ48, pI48, pJ48, rC48, gI51, gJ51, pI51, pJ51, rC51, gI53, gJ53, pI53, pJ53, rC53, gI60, gJ60, pI60, pJ60, rC60, gI64, gJ64, pI64, pJ64, rC64, c1, a1, F1, e46]
      rw [em, wI_n k1 (by omega) l1 (show k < 1024 by omega) (by omega), Option.bind_some, nx]
      exact b1
    · rw [if_pos (fun z => c (by rw [← ed]; exact z)), nx]
      exact ih m h W (by omega) hC (fun x hx hs => hp x (by
        have : x ≠ k := fun z => c (by rw [← z]; exact hs)
        omega) hs) (fun x hx hs => hP x (by
        have : x ≠ k := fun z => c (by rw [← z]; exact hs)
        omega) hs)
end JOIN
