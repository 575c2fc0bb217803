/-! the reference's scene: leaves laid out -/
section MS1
variable {E an : Nat → Nat} {pl : Nat}
theorem WF.dw {d : Nat} (hW : WF E) (hd : d < E 2) : dX E d < E 0 ∧ dYy E d < E 1 ∧ (dAc E d = 0 ∨ dAc E d = 1) ∧ 1 ≤ dLn E d ∧ dLn E d ≤ 3 ∧ (dAc E d = 0 → dX E d + dLn E d ≤ E 0) ∧ (dAc E d = 1 → dYy E d + dLn E d ≤ E 1) := by
  obtain ⟨⟨a, b, c, e, f, g, i, j, k, l⟩, m, n, _⟩ := hW.2.2.2.2.2.2.1 d hd
  exact ⟨a, b, by omega, e, f, m, n⟩
theorem lf_in {d g a : Nat} (hW : WF E) (hd : d < E 2) (hc : canB E d g a = true) : ∀ p, p ∈ lfc E d g a → inE E p = true := by
  obtain ⟨hx, hy, hac, hn1, hn2, w1, w2⟩ := hW.dw hd
  intro p hp
  by_cases c : a = 0
  · subst c
    unfold lfc ijL at hp
    rw [if_pos rfl, List.map_map] at hp
    obtain ⟨i, hi, rfl⟩ := List.mem_map.1 hp
    have hi := List.mem_range.1 hi
    apply decide_eq_true
    unfold zX zY zFar zAl zOut
    dsimp only [Function.comp]
    rcases hac with ac | ac
    · have := w1 ac
      simp only [ac, if_true]
      repeat' split
      all_goals omega
    · have := w2 ac
      simp only [ac, show ¬ (1 = 0) by decide, if_false]
      repeat' split
      all_goals omega
  · unfold canB at hc
    have e : (a == 0) = false := by simp [c]
    rw [e, Bool.false_or] at hc
    have := List.all_eq_true.1 hc p hp
    unfold flE at this
    rw [Bool.and_eq_true] at this
    exact this.1
theorem inE_b {p : Int × Int} (h0 : E 0 ≤ 10 ∧ E 1 ≤ 10) (h : inE E p = true) : 0 ≤ p.1 ∧ p.1 < 10 ∧ 0 ≤ p.2 ∧ p.2 < 10 ∧ inB p = true ∧ cN p < 100 := by
  have := of_decide_eq_true h
  have e : inB p = true := decide_eq_true (by omega)
  exact ⟨by omega, by omega, by omega, by omega, e, inB_lt e⟩
/-- the last door whose leaf is on a cell, one more; 0 for none -/
def lonV (E an : Nat → Nat) : Nat → Nat → Nat
  | 0, _ => 0
  | n + 1, c => if lf E an n c = true then n + 1 else lonV E an n c
theorem lonV_le (c : Nat) : ∀ n, lonV E an n c ≤ n
  | 0 => Nat.le_refl 0
  | n + 1 => by
    have := lonV_le c n
    unfold lonV
    split <;> omega
theorem lonV_0 (c : Nat) : ∀ n, lonV E an n c = 0 ↔ ∀ d, d < n → lf E an d c = false
  | 0 => ⟨fun _ d hd => absurd hd (Nat.not_lt_zero d), fun _ => rfl⟩
  | n + 1 => by
    unfold lonV
    cases hq : lf E an n c
    · rw [if_neg (by decide), lonV_0 c n]
      constructor
      · intro z d hd
        by_cases e : d = n
        · subst e; exact hq
        · exact z d (by omega)
      · intro z d hd; exact z d (by omega)
    · rw [if_pos rfl]
      constructor
      · intro z; omega
      · intro z; rw [z n (by omega)] at hq; exact Bool.noConfusion hq
/-- a scene that may be -/
def VA (E an : Nat → Nat) (pl : Nat) : Prop := (∀ d, d < E 2 → an d < 3) ∧ (∀ d, d < E 2 → canB E d (dHg E d) (an d) = true) ∧ (∀ d e c, d < E 2 → e < E 2 → d ≠ e → lf E an d c = true → lf E an e c = false) ∧ pl ≤ 100
theorem lonV_s {c : Nat} (hV : VA E an pl) : ∀ n, n ≤ E 2 → ∀ d, lonV E an n c = d + 1 ↔ d < n ∧ lf E an d c = true := by
  intro n
  induction n with
  | zero => intro _ d; constructor
            · intro z; exact absurd z (by show ¬ 0 = d + 1; omega)
            · intro z; omega
  | succ n ih =>
    intro hn d
    unfold lonV
    cases hq : lf E an n c
    · rw [if_neg (by decide), ih (by omega) d]
      constructor
      · intro z; exact ⟨by omega, z.2⟩
      · intro z
        refine ⟨?_, z.2⟩
        by_cases e : d = n
        · subst e; rw [hq] at z; exact Bool.noConfusion z.2
        · omega
    · rw [if_pos rfl]
      constructor
      · intro z
        obtain rfl : n = d := by omega
        exact ⟨by omega, hq⟩
      · intro z
        by_cases e : d = n
        · omega
        · have := hV.2.2.1 n d c (by omega) (by omega) (fun t => e t.symm) hq
          rw [this] at z
          exact Bool.noConfusion z.2
theorem leafB_e (c : Nat) : leafB E an c = decide (lonV E an (E 2) c ≠ 0) := by
  unfold leafB
  by_cases h0 : lonV E an (E 2) c = 0
  · rw [decide_eq_false (fun z => z h0), ← Bool.not_eq_true, exB_iff]
    rintro ⟨j, _, h2, h3⟩
    have := (lonV_0 c (E 2)).1 h0 j (by omega)
    rw [this] at h3
    exact Bool.noConfusion h3
  · rw [decide_eq_true h0, exB_iff]
    apply Classical.byContradiction
    intro z
    apply h0
    rw [lonV_0]
    intro d hd
    rw [← Bool.not_eq_true]
    intro q
    exact z ⟨d, by omega, by omega, q⟩
theorem l_252c (k23) {l : List (Int × Int)} {d : Nat} (hW : E 0 ≤ 10 ∧ E 1 ≤ 10) (h4 : l.length ≤ 4) (hd : d < 10) (hb : ∀ p, p ∈ l → inE E p = true) : ∀ r i m h, Fix h → LfS h l → i + r = l.length →
    ∃ g, l_252_50 k23 (r + 1 + m) (some 64) (nI d) (nI i) h = k23 (some 64) (nI (d + 1)) g ∧ Fz [88] h g ∧ ∀ c, c < 100 → hI g 88 c = if (l.drop i).any (fun p => inB p && cN p == c) = true then nI (d + 1) else hI h 88 c := by
  intro r
  induction r with
  | zero =>
    intro i m h hF hl hi
    obtain rfl : i = l.length := by omega
    refine ⟨h, ?_, Fz.rfl', fun c _ => ?_⟩
    · rw [show 0 + 1 + m = m + 1 by omega, l_252_50]
      repeat ((first | rw [f_252] | rw [b_252_0] | rw [b_252_2] | rw [b_252_8] | rw [b_252_21] | rw [b_252_23] | rw [b_252_31] | rw [b_252_50] | rw [b_252_58] | rw [b_252_88] | rw [b_252_94]) <;> try simp (disch := first | assumption | (repeat' (first | apply fx_sI | apply fx_sJ | assumption | omega))) only [↓reduceIte, Option.bind_some, bnd_e, grd_e, grd0, grd1, bnd_e, grd_e, grd0, grd1, Option.bind_some, Option.isSome_some, gQ30_0, gQ30_1, gQ30_2, gQ30_3, gQ30_4, gQ30_5, gQ30_6, gQ30_7, gQ30_8, gQ30_9, gQ31_0, gQ33_0, gQ33_1, gQ36_0, gQ36_1, gQ39_0, gQ39_3, gQ39_4, gQ39_6, gQ39_8, gQ39_10, gQ39_11, gQ39_12, gQ48_0, gQ48_1, gQ51_2, gQ53_0, gQ53_1, gQ60_0, gQ60_1, gQ60_2, gQ64_1, gQ64_14, gQ64_15, gQ64_16, gQ64_17, gQ64_18, gQ64_19, gQ64_20, gQ64_21, gQ64_24, gQ64_25, gQ64_27, gQ64_28, gQ64_29, gQ64_30, gQ64_31, gQ64_34, gQ64_35, gQ64_36, gQ64_39, gQ64_40, gQ64_41, gQ64_43, gQ64_44, gQ64_48, gQ64_50, gQ64_51, gQ64_52, gQ64_53, gQ64_54, gQ64_58, gQ64_59, gI30, gJ30, pI30, pJ30, rC30, gI31, gJ31, pI31, pJ31, rC31, gI33, gJ33, pI33, pJ33, rC33, gI36, gJ36, pI36, pJ36, rC36, gI39, gJ39, pI39, pJ39, rC39, gI48, gJ48, pI48, pJ48, rC48, gI51, gJ51, pI51, pJ51, rC51, gI53, gJ53, pI53, pJ53, rC53, gI60, gJ60, pI60, pJ60, rC60, gI64, gJ64, pI64, pJ64, rC64, hF, hl.1, nI_leI, Nat.le_refl, nI_add])
    · rw [List.drop_length]; rfl
  | succ r ih =>
    intro i m h hF hl hi
    have hi' : i < l.length := by omega
    have hp := hl.2 i hi'
    have hm := hb _ (getD_mem hi')
    rw [List.drop_eq_getElem_cons hi', ← getD_g hi']
    generalize l.getD i (0, 0) = p at hp hm
    obtain ⟨x, y⟩ := p
    have q := inE_b hW hm
    dsimp only at q hp
    have e1 : nI 10 * zI y + zI x = nI (cN (x, y)) := zI_cN (by omega)
    have hF1 : Fix (sI h 88 (cN (x, y)) (nI (d + 1))) := fx_sI hF (by omega)
    have hl1 : LfS (sI h 88 (cN (x, y)) (nI (d + 1))) l := ⟨by rw [hI_sI, if_neg (by omega)]; exact hl.1, fun j hj => by rw [hI_sI, if_neg (by omega), hI_sI, if_neg (by omega)]; exact hl.2 j hj⟩
    obtain ⟨g, r1, r2, r3⟩ := ih (i + 1) m _ hF1 hl1 (by omega)
    refine ⟨g, ?_, Fz.then (Fz.sI Fz.rfl' (Or.inl (by simp))) r2, fun c hc => ?_⟩
    · rw [show r + 1 + 1 + m = (r + 1 + m) + 1 by omega, l_252_50]
      repeat ((first | rw [f_252] | rw [b_252_0] | rw [b_252_2] | rw [b_252_8] | rw [b_252_21] | rw [b_252_23] | rw [b_252_31] | rw [b_252_50] | rw [b_252_58] | rw [b_252_88] | rw [b_252_94]) <;> try simp (disch := first | assumption | (repeat' (first | apply fx_sI | apply fx_sJ | assumption | omega))) only [↓reduceIte, Option.bind_some, bnd_e, grd_e, grd0, grd1, bnd_e, grd_e, grd0, grd1, Option.bind_some, Option.isSome_some, gQ30_0, gQ30_1, gQ30_2, gQ30_3, gQ30_4, gQ30_5, gQ30_6, gQ30_7, gQ30_8, gQ30_9, gQ31_0, gQ33_0, gQ33_1, gQ36_0, gQ36_1, gQ39_0, gQ39_3, gQ39_4, gQ39_6, gQ39_8, gQ39_10, gQ39_11, gQ39_12, gQ48_0, gQ48_1, gQ51_2, gQ53_0, gQ53_1, gQ60_0, gQ60_1, gQ60_2, gQ64_1, gQ64_14, gQ64_15, gQ64_16, gQ64_17, gQ64_18, gQ64_19, gQ64_20, gQ64_21, gQ64_24, gQ64_25, gQ64_27, gQ64_28, gQ64_29, gQ64_30, gQ64_31, gQ64_34, gQ64_35, gQ64_36, gQ64_39, gQ64_40, gQ64_41, gQ64_43, gQ64_44, gQ64_48, gQ64_50, gQ64_51, gQ64_52, gQ64_53, gQ64_54, gQ64_58, gQ64_59, gI30, gJ30, pI30, pJ30, rC30, gI31, gJ31, pI31, pJ31, rC31, gI33, gJ33, pI33, pJ33, rC33, gI36, gJ36, pI36, pJ36, rC36, gI39, gJ39, pI39, pJ39, rC39, gI48, gJ48, pI48, pJ48, rC48, gI51, gJ51, pI51, pJ51, rC51, gI53, gJ53, pI53, pJ53, rC53, gI60, gJ60, pI60, pJ60, rC60, gI64, gJ64, pI64, pJ64, rC64, aI27, aL27, aI28, aL28, aI32, wI32, aL32, aI34, wI34, aL34, aI35, wI35, aL35, aI37, wI37, aL37, aI38, wI38, aL38, aJ40, wJ40, aL40, aI41, wI41, aL41, aI42, wI42, aL42, aI43, wI43, aL43, aI44, wI44, aL44, aI45, wI45, aL45, aI46, wI46, aL46, aI47, wI47, aL47, aI49, wI49, aL49, aI50, wI50, aL50, aI52, wI52, aL52, aI54, wI54, aL54, aI55, wI55, aL55, aL56, aL57, aL58, aI59, wI59, aL59, aI61, wI61, aL61, aL62, aI63, wI63, aL63, aI65, wI65, aL65, aI66, wI66, aL66, aI67, wI67, aL67, aI68, wI68, aL68, aI69, wI69, aL69, aJ70, wJ70, aL70, aJ71, wJ71, aL71, aJ72, wJ72, aL72, aZ73, wZ73, aL73, aI74, wI74, aL74, aI75, wI75, aL75, aJ76, wJ76, aL76, aJ77, wJ77, aL77, aI78, wI78, aL78, aI79, wI79, aL79, aI80, wI80, aL80, aI81, wI81, aL81, aI82, wI82, aL82, aI83, wI83, aL83, aI84, wI84, aL84, aI85, wI85, aL85, aI86, wI86, aL86, aI87, wI87, aL87, aI88, wI88, aL88, aI89, wI89, aL89, aI90, wI90, aL90, aI91, wI91, aL91, aI92, wI92, aL92, aI93, wI93, aL93, aI94, wI94, aL94, aZ95, wZ95, aL95, aI96, wI96, aL96, aJ97, wJ97, aL97, hF, hl.1, nI_leI, show ¬ l.length ≤ i by omega, hp.1, hp.2, e1, nI_add])
      exact r1
    · rw [r3 c hc, List.any_cons, q.2.2.2.2.1, Bool.true_and, hI_sI]
      by_cases e : c = cN (x, y)
      · have : (cN (x, y) == c) = true := by simp [e]
        rw [this, Bool.true_or, if_pos (rfl : true = true)]
        split
        · rfl
        · exact if_pos ⟨rfl, e⟩
      · have : (cN (x, y) == c) = false := by simp; exact fun z => e z.symm
        have t : ¬ ((88 : Nat) = 88 ∧ c = cN (x, y)) := fun z => e z.2
        rw [this, Bool.false_or, if_neg t]
theorem l_252b (hW : WF E) (h3 : ∀ d, d < E 2 → an d < 3) (hcn : ∀ d, d < E 2 → canB E d (dHg E d) (an d) = true) : ∀ r d m h, Fix h → NowE h E → (∀ e, e < E 2 → hI h 87 e = nI (an e)) → d + r = E 2 → (∀ c, c < 100 → hI h 88 c = nI (lonV E an d c)) →
    ∃ g, l_252_23 (r + 1 + m) (some 64) (nI d) h = some g ∧ Fz [27000064, 74, 75, 88] h g ∧ ∀ c, c < 100 → hI g 88 c = nI (lonV E an (E 2) c) := by
  intro r
  induction r with
  | zero =>
    intro d m h hF hE h7 hi hc
    obtain rfl : d = E 2 := by omega
    have b := hE.2.2.2 2
    refine ⟨h, ?_, Fz.rfl', hc⟩
    rw [show 0 + 1 + m = m + 1 by omega, l_252_23]
    repeat ((first | rw [f_252] | rw [b_252_0] | rw [b_252_2] | rw [b_252_8] | rw [b_252_21] | rw [b_252_23] | rw [b_252_31] | rw [b_252_50] | rw [b_252_58] | rw [b_252_88] | rw [b_252_94]) <;> try simp (disch := first | assumption | (repeat' (first | apply fx_sI | apply fx_sJ | assumption | omega))) only [↓reduceIte, Option.bind_some, bnd_e, grd_e, grd0, grd1, bnd_e, grd_e, grd0, grd1, Option.bind_some, Option.isSome_some, gQ30_0, gQ30_1, gQ30_2, gQ30_3, gQ30_4, gQ30_5, gQ30_6, gQ30_7, gQ30_8, gQ30_9, gQ31_0, gQ33_0, gQ33_1, gQ36_0, gQ36_1, gQ39_0, gQ39_3, gQ39_4, gQ39_6, gQ39_8, gQ39_10, gQ39_11, gQ39_12, gQ48_0, gQ48_1, gQ51_2, gQ53_0, gQ53_1, gQ60_0, gQ60_1, gQ60_2, gQ64_1, gQ64_14, gQ64_15, gQ64_16, gQ64_17, gQ64_18, gQ64_19, gQ64_20, gQ64_21, gQ64_24, gQ64_25, gQ64_27, gQ64_28, gQ64_29, gQ64_30, gQ64_31, gQ64_34, gQ64_35, gQ64_36, gQ64_39, gQ64_40, gQ64_41, gQ64_43, gQ64_44, gQ64_48, gQ64_50, gQ64_51, gQ64_52, gQ64_53, gQ64_54, gQ64_58, gQ64_59, gI30, gJ30, pI30, pJ30, rC30, gI31, gJ31, pI31, pJ31, rC31, gI33, gJ33, pI33, pJ33, rC33, gI36, gJ36, pI36, pJ36, rC36, gI39, gJ39, pI39, pJ39, rC39, gI48, gJ48, pI48, pJ48, rC48, gI51, gJ51, pI51, pJ51, rC51, gI53, gJ53, pI53, pJ53, rC53, gI60, gJ60, pI60, pJ60, rC60, gI64, gJ64, pI64, pJ64, rC64, hF, s_203 hF hE, nI_leI, Nat.le_refl])
  | succ r ih =>
    intro d m h hF hE h7 hi hc
    have b := hE.2.2.2 2
    have hd : d < E 2 := by omega
    have hD := hW.dr hd
    have h10 := hD.1
    have hg := hW.hg hd
    have h4 := s_205 (w := 4) hF hE h10 (by omega)
    have e4 : E (110 + 10 * d + 4) = dHg E d := by unfold dHg; congr 1; omega
    rw [e4] at h4
    obtain ⟨k1, a1, a2, a3⟩ := s_219 (a := an d) hF hE h10 hg (h3 d hd) hD.2.2.2.1 ⟨hD.2.2.2.2.1, hD.2.2.2.2.2.1⟩
    have hF1 := a2.fix hF (by decide)
    obtain ⟨m2, hm2⟩ := FU_ge ((lfc E d (dHg E d) (an d)).length + 1) (by have := lfc_len (E := E) (d := d) (g := dHg E d) (a := an d) hD.2.2.2.2.2.1; omega)
    obtain ⟨k2, b1, b2, b3⟩ := l_252c (l_252_23 (r + 1 + m)) (E := E) ⟨hW.1, hW.2.1⟩ (lfc_len hD.2.2.2.2.2.1) h10 (lf_in hW hd (hcn d hd)) (lfc E d (dHg E d) (an d)).length 0 m2 k1 hF1 a3 (by omega)
    have z := (a2.wid (Z := [27000064, 74, 75, 88]) (by intro z hz; simp only [List.mem_cons, List.not_mem_nil, or_false] at hz ⊢; omega)).then (b2.wid (by intro z hz; simp only [List.mem_cons, List.not_mem_nil, or_false] at hz ⊢; omega))
    have hF2 := z.fix hF (by decide)
    obtain ⟨g, c1, c2, c3⟩ := ih (d + 1) m k2 hF2 (hE.cg (z.I (a := 66) (by decide))) (fun e he => by rw [z.I (a := 87) (by decide)]; exact h7 e he) (by omega) (fun c hc' => by
      rw [b3 c hc', List.drop_zero, a2.I (a := 88) (by decide), hc c hc']
      show _ = nI (if lf E an d c = true then d + 1 else lonV E an d c)
      unfold lf lfH
      split <;> rfl)
    refine ⟨g, ?_, z.then c2, c3⟩
    rw [show r + 1 + 1 + m = (r + 1 + m) + 1 by omega, l_252_23]
    repeat ((first | rw [f_252] | rw [b_252_0] | rw [b_252_2] | rw [b_252_8] | rw [b_252_21] | rw [b_252_23] | rw [b_252_31] | rw [b_252_50] | rw [b_252_58] | rw [b_252_88] | rw [b_252_94]) <;> try simp (disch := first | assumption | (repeat' (first | apply fx_sI | apply fx_sJ | assumption | omega))) only [↓reduceIte, Option.bind_some, bnd_e, grd_e, grd0, grd1, bnd_e, grd_e, grd0, grd1, Option.bind_some, Option.isSome_some, gQ30_0, gQ30_1, gQ30_2, gQ30_3, gQ30_4, gQ30_5, gQ30_6, gQ30_7, gQ30_8, gQ30_9, gQ31_0, gQ33_0, gQ33_1, gQ36_0, gQ36_1, gQ39_0, gQ39_3, gQ39_4, gQ39_6, gQ39_8, gQ39_10, gQ39_11, gQ39_12, gQ48_0, gQ48_1, gQ51_2, gQ53_0, gQ53_1, gQ60_0, gQ60_1, gQ60_2, gQ64_1, gQ64_14, gQ64_15, gQ64_16, gQ64_17, gQ64_18, gQ64_19, gQ64_20, gQ64_21, gQ64_24, gQ64_25, gQ64_27, gQ64_28, gQ64_29, gQ64_30, gQ64_31, gQ64_34, gQ64_35, gQ64_36, gQ64_39, gQ64_40, gQ64_41, gQ64_43, gQ64_44, gQ64_48, gQ64_50, gQ64_51, gQ64_52, gQ64_53, gQ64_54, gQ64_58, gQ64_59, gI30, gJ30, pI30, pJ30, rC30, gI31, gJ31, pI31, pJ31, rC31, gI33, gJ33, pI33, pJ33, rC33, gI36, gJ36, pI36, pJ36, rC36, gI39, gJ39, pI39, pJ39, rC39, gI48, gJ48, pI48, pJ48, rC48, gI51, gJ51, pI51, pJ51, rC51, gI53, gJ53, pI53, pJ53, rC53, gI60, gJ60, pI60, pJ60, rC60, gI64, gJ64, pI64, pJ64, rC64, aI27, aL27, aI28, aL28, aI32, wI32, aL32, aI34, wI34, aL34, aI35, wI35, aL35, aI37, wI37, aL37, aI38, wI38, aL38, aJ40, wJ40, aL40, aI41, wI41, aL41, aI42, wI42, aL42, aI43, wI43, aL43, aI44, wI44, aL44, aI45, wI45, aL45, aI46, wI46, aL46, aI47, wI47, aL47, aI49, wI49, aL49, aI50, wI50, aL50, aI52, wI52, aL52, aI54, wI54, aL54, aI55, wI55, aL55, aL56, aL57, aL58, aI59, wI59, aL59, aI61, wI61, aL61, aL62, aI63, wI63, aL63, aI65, wI65, aL65, aI66, wI66, aL66, aI67, wI67, aL67, aI68, wI68, aL68, aI69, wI69, aL69, aJ70, wJ70, aL70, aJ71, wJ71, aL71, aJ72, wJ72, aL72, aZ73, wZ73, aL73, aI74, wI74, aL74, aI75, wI75, aL75, aJ76, wJ76, aL76, aJ77, wJ77, aL77, aI78, wI78, aL78, aI79, wI79, aL79, aI80, wI80, aL80, aI81, wI81, aL81, aI82, wI82, aL82, aI83, wI83, aL83, aI84, wI84, aL84, aI85, wI85, aL85, aI86, wI86, aL86, aI87, wI87, aL87, aI88, wI88, aL88, aI89, wI89, aL89, aI90, wI90, aL90, aI91, wI91, aL91, aI92, wI92, aL92, aI93, wI93, aL93, aI94, wI94, aL94, aZ95, wZ95, aL95, aI96, wI96, aL96, aJ97, wJ97, aL97, hF, s_203 hF hE, nI_leI, show ¬ E 2 ≤ d by omega, h4, h7 d hd, a1])
    rw [hm2, b1, c1]
theorem l_252a : ∀ r i m h, Fix h → i + r = 100 → (∀ c, c < i → hI h 88 c = nI 0) → ∃ g, l_252_2 (r + 1 + m) (some 64) (nI i) h = b_252_21 (some 64) g ∧ Fz [88] h g ∧ ∀ c, c < 100 → hI g 88 c = nI 0 := by
  intro r
  induction r with
  | zero =>
    intro i m h hF hi hc
    obtain rfl : i = 100 := by omega
    refine ⟨h, ?_, Fz.rfl', hc⟩
    rw [show 0 + 1 + m = m + 1 by omega, l_252_2, b_252_2, if_pos (by decide)]
  | succ r ih =>
    intro i m h hF hi hc
    obtain ⟨g, a1, a2, a3⟩ := ih (i + 1) m (sI h 88 i (nI 0)) (fx_sI hF (by omega)) (by omega) (fun c hc' => by
      rw [hI_sI]
      by_cases e : c = i
      · rw [if_pos ⟨rfl, e⟩]
      · rw [if_neg (fun z => e z.2)]; exact hc c (by omega))
    refine ⟨g, ?_, Fz.then (Fz.sI Fz.rfl' (Or.inl (by simp))) a2, a3⟩
    rw [show r + 1 + 1 + m = (r + 1 + m) + 1 by omega, l_252_2, b_252_2, if_neg (by rw [nI_leI (by omega) (by omega)]; omega), b_252_8]
    simp (disch := first | assumption | (repeat' (first | apply fx_sI | apply fx_sJ | assumption | omega))) only [bnd_e, grd_e, grd0, grd1, Option.bind_some, Option.isSome_some, gQ30_0, gQ30_1, gQ30_2, gQ30_3, gQ30_4, gQ30_5, gQ30_6, gQ30_7, gQ30_8, gQ30_9, gQ31_0, gQ33_0, gQ33_1, gQ36_0, gQ36_1, gQ39_0, gQ39_3, gQ39_4, gQ39_6, gQ39_8, gQ39_10, gQ39_11, gQ39_12, gQ48_0, gQ48_1, gQ51_2, gQ53_0, gQ53_1, gQ60_0, gQ60_1, gQ60_2, gQ64_1, gQ64_14, gQ64_15, gQ64_16, gQ64_17, gQ64_18, gQ64_19, gQ64_20, gQ64_21, gQ64_24, gQ64_25, gQ64_27, gQ64_28, gQ64_29, gQ64_30, gQ64_31, gQ64_34, gQ64_35, gQ64_36, gQ64_39, gQ64_40, gQ64_41, gQ64_43, gQ64_44, gQ64_48, gQ64_50, gQ64_51, gQ64_52, gQ64_53, gQ64_54, gQ64_58, gQ64_59, gI30, gJ30, pI30, pJ30, rC30, gI31, gJ31, pI31, pJ31, rC31, gI33, gJ33, pI33, pJ33, rC33, gI36, gJ36, pI36, pJ36, rC36, gI39, gJ39, pI39, pJ39, rC39, gI48, gJ48, pI48, pJ48, rC48, gI51, gJ51, pI51, pJ51, rC51, gI53, gJ53, pI53, pJ53, rC53, gI60, gJ60, pI60, pJ60, rC60, gI64, gJ64, pI64, pJ64, rC64, aI27, aL27, aI28, aL28, aI32, wI32, aL32, aI34, wI34, aL34, aI35, wI35, aL35, aI37, wI37, aL37, aI38, wI38, aL38, aJ40, wJ40, aL40, aI41, wI41, aL41, aI42, wI42, aL42, aI43, wI43, aL43, aI44, wI44, aL44, aI45, wI45, aL45, aI46, wI46, aL46, aI47, wI47, aL47, aI49, wI49, aL49, aI50, wI50, aL50, aI52, wI52, aL52, aI54, wI54, aL54, aI55, wI55, aL55, aL56, aL57, aL58, aI59, wI59, aL59, aI61, wI61, aL61, aL62, aI63, wI63, aL63, aI65, wI65, aL65, aI66, wI66, aL66, aI67, wI67, aL67, aI68, wI68, aL68, aI69, wI69, aL69, aJ70, wJ70, aL70, aJ71, wJ71, aL71, aJ72, wJ72, aL72, aZ73, wZ73, aL73, aI74, wI74, aL74, aI75, wI75, aL75, aJ76, wJ76, aL76, aJ77, wJ77, aL77, aI78, wI78, aL78, aI79, wI79, aL79, aI80, wI80, aL80, aI81, wI81, aL81, aI82, wI82, aL82, aI83, wI83, aL83, aI84, wI84, aL84, aI85, wI85, aL85, aI86, wI86, aL86, aI87, wI87, aL87, aI88, wI88, aL88, aI89, wI89, aL89, aI90, wI90, aL90, aI91, wI91, aL91, aI92, wI92, aL92, aI93, wI93, aL93, aI94, wI94, aL94, aZ95, wZ95, aL95, aI96, wI96, aL96, aJ97, wJ97, aL97, hF, nI_add]
    exact a1
theorem s_252 {h : Hp} (hF : Fix h) (hE : NowE h E) (hW : WF E) (h3 : ∀ d, d < E 2 → an d < 3) (hcn : ∀ d, d < E 2 → canB E d (dHg E d) (an d) = true) (h7 : ∀ e, e < E 2 → hI h 87 e = nI (an e)) :
    ∃ g, f_252 (some 64) h = some g ∧ Fz [27000064, 74, 75, 88] h g ∧ ∀ c, c < 100 → hI g 88 c = nI (lonV E an (E 2) c) := by
  obtain ⟨m, hm⟩ := FU_ge (100 + 1) (by omega)
  obtain ⟨m2, hm2⟩ := FU_ge (E 2 + 1) (by have := hW.2.2.1; omega)
  obtain ⟨k1, a1, a2, a3⟩ := l_252a 100 0 m h hF (by omega) (fun c hc => absurd hc (Nat.not_lt_zero c))
  have hF1 := a2.fix hF (by decide)
  obtain ⟨g, b1, b2, b3⟩ := l_252b hW h3 hcn (E 2) 0 m2 k1 hF1 (hE.cg (a2.I (a := 66) (by decide))) (fun e he => by rw [a2.I (a := 87) (by decide)]; exact h7 e he) (by omega) (fun c hc => a3 c hc)
  refine ⟨g, ?_, (a2.wid (by intro z hz; simp only [List.mem_cons, List.not_mem_nil, or_false] at hz ⊢; omega)).then b2, b3⟩
  rw [f_252, b_252_0, bnd_e, hm, a1, b_252_21, bnd_e, hm2, b1]
end MS1
