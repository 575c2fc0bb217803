/-! forcing of the reference -/
section FORCEM
variable {E : Nat → Nat} {d0 : Nat} {X : FC}
theorem mk_drop {q : Nat → Bool} {x : Nat} (hx : x < 4) : nI (mkM q 4) &&& (nI 1 <<< (nI x &&& 31) ^^^ (-1)) = nI (mkM (fun y => q y && decide (y ≠ x)) 4) := by
  have b16 : mkM q 4 < 16 := mkM_lt q 4
  rw [nI_1shl (by omega), nI_andn (by omega)]
  show nI (dif (mkM q 4) (2 ^ x)) = _
  congr 1
  apply Nat.eq_of_testBit_eq
  intro i
  rw [dif_tb (by omega), mkM_tb, mkM_tb]
  by_cases c : i = x
  · subst c
    rw [Nat.testBit_two_pow_self]
    simp
  · rw [Nat.testBit_two_pow_of_ne (by omega)]
    simp [c]
theorem l_241i {e g f : Nat} {L : Nat → Nat → Bool} {k3 : Option Nat → Int32 → Int32 → Int32 → Int32 → Hp → Option Hp} {v3 : Int32} (h10 : E 2 ≤ 10) (he : e < E 2) (hg : g < 4) (hf : f < E 2) : ∀ r x m h, x + r = 4 → MSw h E → hI h 81 f = nI (mkM (fun y => L f y && (decide (x ≤ y) || !bit E e g f y)) 4) →
    ∃ h', l_241_30 k3 (r + 1 + m) (some 64) (nI e) (nI g) v3 (nI f) (nI x) h = k3 (some 64) (nI e) (nI g) v3 (nI (f + 1)) h' ∧ Fz [81] h h' ∧ hI h' 81 f = nI (mkM (fun y => L f y && !bit E e g f y) 4) ∧ ∀ a, a ≠ f → hI h' 81 a = hI h 81 a := by
  intro r
  induction r with
  | zero =>
    intro x m h hx hM hl
    obtain rfl : x = 4 := by omega
    refine ⟨h, ?_, Fz.rfl', ?_, fun _ _ => rfl⟩
    · rw [show 0 + 1 + m = m + 1 by omega, l_241_30, b_241_30, if_pos (Int32.le_refl _), b_241_71, bnd_e, nI_add]
    · rw [hl, mkM_cg 4 (fun y hy => by rw [decide_eq_false (show ¬ 4 ≤ y by omega), Bool.false_or])]
  | succ r ih =>
    intro x m h hx hM hl
    obtain ⟨hF, hE, hS⟩ := id hM
    rw [show r + 1 + 1 + m = (r + 1 + m) + 1 by omega, l_241_30, b_241_30, if_neg (by rw [nI_leI (by omega) (by omega)]; omega), b_241_36]
    simp (disch := first | assumption | (repeat' (first | apply fx_sI | apply fx_sJ | assumption | omega))) only [bnd_e, grd_e, grd0, grd1, Option.bind_some, Option.isSome_some, gQ30_0, gQ30_1, gQ30_2, gQ30_3, gQ30_4, gQ30_5, gQ30_6, gQ30_7, gQ30_8, gQ30_9, gQ31_0, gQ33_0, gQ33_1, gQ36_0, gQ36_1, gQ39_0, gQ39_3, gQ39_4, gQ39_6, gQ39_8, gQ39_10, gQ39_11, gQ39_12, gQ48_0, gQ48_1, gQ51_2, gQ53_0, gQ53_1, gQ60_0, gQ60_1, gQ60_2, gQ64_1, gQ64_14, gQ64_15, gQ64_16, gQ64_17, gQ64_18, gQ64_19, gQ64_20, gQ64_21, gQ64_24, gQ64_25, gQ64_27, gQ64_28, gQ64_29, gQ64_30, gQ64_31, gQ64_34, gQ64_35, gQ64_36, gQ64_39, gQ64_40, gQ64_41, gQ64_43, gQ64_44, gQ64_48, gQ64_50, gQ64_51, gQ64_52, gQ64_53, gQ64_54, gQ64_58, gQ64_59, gI30, gJ30, pI30, pJ30, rC30, gI31, gJ31, pI31, pJ31, rC31, gI33, gJ33, pI33, pJ33, rC33, gI36, gJ36, pI36, pJ36, rC36, gI39, gJ39, pI39, pJ39, rC39, gI48, gJ48, pI48, pJ48, rC48, gI51, gJ51, pI51, pJ51, rC51, gI53, gJ53, pI53, pJ53, rC53, gI60, gJ60, pI60, pJ60, rC60, gI64, gJ64, pI64, pJ64, rC64, hF, s_227 hF hS h10 he hg hf (show x < 4 by omega), bI_0']
    cases hb : bit E e g f x
    · rw [if_pos rfl, b_241_65, bnd_e, nI_add]
      refine ih (x + 1) m h (by omega) hM ?_
      rw [hl, mkM_cg 4 (fun y hy => ?_)]
      by_cases c : y = x
      · rw [c, hb]; simp
      · have : decide (x ≤ y) = decide (x + 1 ≤ y) := by
          by_cases d : x ≤ y
          · rw [decide_eq_true d, decide_eq_true (by omega)]
          · rw [decide_eq_false d, decide_eq_false (by omega)]
        rw [this]
    · rw [if_neg (by decide), b_241_49]
      generalize hv : mkM (fun y => (fun y => L f y && (decide (x ≤ y) || !bit E e g f y)) y && decide (y ≠ x)) 4 = v
      have ed := mk_drop (q := fun y => L f y && (decide (x ≤ y) || !bit E e g f y)) (show x < 4 by omega)
      rw [hv] at ed
      have z1 : Fz [81] h (sI h 81 f (nI v)) := Fz.sI Fz.rfl' (Or.inl (by simp))
      obtain ⟨h', a1, a2, a3, a4⟩ := ih (x + 1) m _ (by omega) (hM.cz z1 (by decide) (by decide)) (by
        rw [hI_sI, if_pos ⟨rfl, rfl⟩, ← hv, mkM_cg 4 (fun y hy => ?_)]
        by_cases c : y = x
        · rw [c, hb]; simp
        · have : decide (x ≤ y) = decide (x + 1 ≤ y) := by
            by_cases d : x ≤ y
            · rw [decide_eq_true d, decide_eq_true (by omega)]
            · rw [decide_eq_false d, decide_eq_false (by omega)]
          show ((L f y && (decide (x ≤ y) || !bit E e g f y)) && decide (y ≠ x)) = _
          rw [this, decide_eq_true c, Bool.and_true])
      refine ⟨h', ?_, z1.then a2, a3, fun a ha => by rw [a4 a ha, hI_sI, if_neg (fun z => ha z.2)]⟩
      have w : wI (some 81) (nI f) (nI v) h = some (sI h 81 f (nI v)) := wI_n (K81 hF) (by omega) (L81 hF) (show f < 10 by omega) (by omega)
      have rd : aI 12 (some 81) (nI f) h = some (hI h 81 f) := aI_n (K81 hF) (L81 hF) (show f < 10 by omega) (by omega)
      have q81 : gQ 11 34 (some 64) h = some (some 81) := gQ64_34 hF
      rw [q81, Option.bind_some, rd, Option.bind_some, hl, ed, w, Option.bind_some, b_241_65, bnd_e, nI_add]
      exact a1
theorem l_241 {e g : Nat} {L : Nat → Nat → Bool} (h10 : E 2 ≤ 10) (he : e < E 2) (hg : g < 4) (hd : d0 < E 2) : ∀ r f m h, f + r = E 2 → MSw h E → (∀ a, a < E 2 → a ≠ d0 → hI h 81 a = nI (mkM (if a < f then nxL E L e g a else L a) 4)) →
    ∃ h', l_241_3 (r + 1 + m) (some 64) (nI e) (nI g) (nI d0) (nI f) h = some h' ∧ Fz [81] h h' ∧ ∀ a, a < E 2 → a ≠ d0 → hI h' 81 a = nI (mkM (nxL E L e g a) 4) := by
  intro r
  induction r with
  | zero =>
    intro f m h hf hM hl
    obtain ⟨hF, hE, hS⟩ := id hM
    obtain rfl : f = E 2 := by omega
    refine ⟨h, ?_, Fz.rfl', fun a ha hn => by rw [hl a ha hn, if_pos ha]⟩
    rw [show 0 + 1 + m = m + 1 by omega, l_241_3, b_241_3]
    simp (disch := first | assumption | (repeat' (first | apply fx_sI | apply fx_sJ | assumption | omega))) only [bnd_e, grd_e, grd0, grd1, Option.bind_some, Option.isSome_some, gQ30_0, gQ30_1, gQ30_2, gQ30_3, gQ30_4, gQ30_5, gQ30_6, gQ30_7, gQ30_8, gQ30_9, gQ31_0, gQ33_0, gQ33_1, gQ36_0, gQ36_1, gQ39_0, gQ39_3, gQ39_4, gQ39_6, gQ39_8, gQ39_10, gQ39_11, gQ39_12, gQ48_0, gQ48_1, gQ51_2, gQ53_0, gQ53_1, gQ60_0, gQ60_1, gQ60_2, gQ64_1, gQ64_14, gQ64_15, gQ64_16, gQ64_17, gQ64_18, gQ64_19, gQ64_20, gQ64_21, gQ64_24, gQ64_25, gQ64_27, gQ64_28, gQ64_29, gQ64_30, gQ64_31, gQ64_34, gQ64_35, gQ64_36, gQ64_39, gQ64_40, gQ64_41, gQ64_43, gQ64_44, gQ64_48, gQ64_50, gQ64_51, gQ64_52, gQ64_53, gQ64_54, gQ64_58, gQ64_59, gI30, gJ30, pI30, pJ30, rC30, gI31, gJ31, pI31, pJ31, rC31, gI33, gJ33, pI33, pJ33, rC33, gI36, gJ36, pI36, pJ36, rC36, gI39, gJ39, pI39, pJ39, rC39, gI48, gJ48, pI48, pJ48, rC48, gI51, gJ51, pI51, pJ51, rC51, gI53, gJ53, pI53, pJ53, rC53, gI60, gJ60, pI60, pJ60, rC60, gI64, gJ64, pI64, pJ64, rC64, hF, s_203 hF hE, nI_leI, Nat.le_refl, if_true]
    rw [b_241_77]
  | succ r ih =>
    intro f m h hf hM hl
    obtain ⟨hF, hE, hS⟩ := id hM
    have skip : (f = d0 ∨ f = e) → ∃ h', b_241_71 (l_241_3 (r + 1 + m)) (some 64) (nI e) (nI g) (nI d0) (nI f) h = some h' ∧ Fz [81] h h' ∧ ∀ a, a < E 2 → a ≠ d0 → hI h' 81 a = nI (mkM (nxL E L e g a) 4) := by
      intro hc
      rw [b_241_71, bnd_e, nI_add]
      refine ih (f + 1) m h (by omega) hM (fun a ha hn => ?_)
      rw [hl a ha hn]
      by_cases ca : a = f
      · have ce : f = e := by
          rcases hc with z | z
          · exact absurd (ca.trans z) hn
          · exact z
        rw [if_neg (by omega), if_pos (by omega), ca, ce]
        congr 1
        refine mkM_cg 4 (fun y _ => ?_)
        unfold nxL spr
        simp
      · by_cases cl : a < f
        · rw [if_pos cl, if_pos (by omega)]
        · rw [if_neg cl, if_neg (by omega)]
    rw [show r + 1 + 1 + m = (r + 1 + m) + 1 by omega, l_241_3, b_241_3]
    simp (disch := first | assumption | (repeat' (first | apply fx_sI | apply fx_sJ | assumption | omega))) only [bnd_e, grd_e, grd0, grd1, Option.bind_some, Option.isSome_some, gQ30_0, gQ30_1, gQ30_2, gQ30_3, gQ30_4, gQ30_5, gQ30_6, gQ30_7, gQ30_8, gQ30_9, gQ31_0, gQ33_0, gQ33_1, gQ36_0, gQ36_1, gQ39_0, gQ39_3, gQ39_4, gQ39_6, gQ39_8, gQ39_10, gQ39_11, gQ39_12, gQ48_0, gQ48_1, gQ51_2, gQ53_0, gQ53_1, gQ60_0, gQ60_1, gQ60_2, gQ64_1, gQ64_14, gQ64_15, gQ64_16, gQ64_17, gQ64_18, gQ64_19, gQ64_20, gQ64_21, gQ64_24, gQ64_25, gQ64_27, gQ64_28, gQ64_29, gQ64_30, gQ64_31, gQ64_34, gQ64_35, gQ64_36, gQ64_39, gQ64_40, gQ64_41, gQ64_43, gQ64_44, gQ64_48, gQ64_50, gQ64_51, gQ64_52, gQ64_53, gQ64_54, gQ64_58, gQ64_59, gI30, gJ30, pI30, pJ30, rC30, gI31, gJ31, pI31, pJ31, rC31, gI33, gJ33, pI33, pJ33, rC33, gI36, gJ36, pI36, pJ36, rC36, gI39, gJ39, pI39, pJ39, rC39, gI48, gJ48, pI48, pJ48, rC48, gI51, gJ51, pI51, pJ51, rC51, gI53, gJ53, pI53, pJ53, rC53, gI60, gJ60, pI60, pJ60, rC60, gI64, gJ64, pI64, pJ64, rC64, hF, s_203 hF hE, nI_leI, show ¬ E 2 ≤ f by omega, if_false]
    rw [b_241_12]
    simp (disch := first | assumption | (repeat' (first | apply fx_sI | apply fx_sJ | assumption | omega))) only [nI_eq]
    by_cases c1 : f = e
    · rw [if_pos c1]; exact skip (Or.inr c1)
    · rw [if_neg c1, b_241_18]
      simp (disch := first | assumption | (repeat' (first | apply fx_sI | apply fx_sJ | assumption | omega))) only [nI_eq]
      by_cases c2 : f = d0
      · rw [if_neg (fun z => z c2), b_241_24]; exact skip (Or.inl c2)
      · rw [if_pos c2, b_241_27, bnd_e]
        obtain ⟨m2, hm2⟩ := FU_ge (4 + 1) (by omega)
        have l0 := hl f (by omega) c2
        rw [if_neg (by omega)] at l0
        obtain ⟨h1, a1, a2, a3, a4⟩ := l_241i (e := e) (g := g) (f := f) (L := L) (k3 := l_241_3 (r + 1 + m)) (v3 := nI d0) h10 he hg (by omega) 4 0 m2 h (by omega) hM (by
          rw [l0]
          congr 1
          refine mkM_cg 4 (fun y _ => ?_)
          rw [decide_eq_true (show 0 ≤ y by omega)]
          simp)
        obtain ⟨h', b1, b2, b3⟩ := ih (f + 1) m h1 (by omega) (hM.cz a2 (by decide) (by decide)) (fun a ha hn => by
          by_cases ca : a = f
          · rw [ca, a3, if_pos (by omega)]
            congr 1
            refine mkM_cg 4 (fun y _ => ?_)
            unfold nxL spr
            rw [decide_eq_false (fun z => c1 z.symm), Bool.false_or]
          · rw [a4 a ca, hl a ha hn]
            by_cases cl : a < f
            · rw [if_pos cl, if_pos (by omega)]
            · rw [if_neg cl, if_neg (by omega)])
        refine ⟨h', ?_, a2.then b2, b3⟩
        rw [hm2, a1]
        exact b1
theorem s_241 {h : Hp} {e g : Nat} {L : Nat → Nat → Bool} (h10 : E 2 ≤ 10) (he : e < E 2) (hg : g < 4) (hd : d0 < E 2) (hM : MSw h E) (hl : ∀ a, a < E 2 → a ≠ d0 → hI h 81 a = nI (mkM (L a) 4)) :
    ∃ h', f_241 (some 64) (nI e) (nI g) (nI d0) h = some h' ∧ Fz [81] h h' ∧ ∀ a, a < E 2 → a ≠ d0 → hI h' 81 a = nI (mkM (nxL E L e g a) 4) := by
  obtain ⟨m, hm⟩ := FU_ge (E 2 + 1) (by omega)
  obtain ⟨h', a1, a2, a3⟩ := l_241 (e := e) (g := g) (L := L) h10 he hg hd (E 2) 0 m h (by omega) hM (fun a ha hn => by rw [if_neg (by omega)]; exact hl a ha hn)
  exact ⟨h', by rw [f_241, b_241_0, bnd_e, hm]; exact a1, a2, a3⟩
theorem ct0 {q : Nat → Bool} : mkM q 4 = 0 ↔ fb_ct q 4 = 0 := by
  rw [mkM4_0, fb_ct_zero, ← Bool.not_eq_true, exB_iff]
  constructor
  · intro z k hk
    cases hq : q k
    · rfl
    · exact absurd ⟨k, by omega, by omega, hq⟩ z
  · rintro z ⟨j, _, h2, h3⟩
    rw [z j (by omega)] at h3; cases h3
theorem l_242 {h : Hp} (hF : Fix h) (hE : NowE h E) (h10 : E 2 ≤ 10) (hd : d0 < E 2) {L : Nat → Nat → Bool} (hl : ∀ a, a < E 2 → a ≠ d0 → hI h 81 a = nI (mkM (L a) 4)) : ∀ r i m, i + r = E 2 → l_242_2 (r + 1 + m) (some 64) (nI d0) (nI i) h = some (mI (fi (fun e => decide (e ≠ d0) && decide (fb_ct (L e) 4 = 0)) r i), h) := by
  intro r
  induction r with
  | zero =>
    intro i m hi
    obtain rfl : i = E 2 := by omega
    rw [show 0 + 1 + m = m + 1 by omega, l_242_2, b_242_2]
    simp (disch := first | assumption | (repeat' (first | apply fx_sI | apply fx_sJ | assumption | omega))) only [bnd_e, grd_e, grd0, grd1, Option.bind_some, Option.isSome_some, gQ30_0, gQ30_1, gQ30_2, gQ30_3, gQ30_4, gQ30_5, gQ30_6, gQ30_7, gQ30_8, gQ30_9, gQ31_0, gQ33_0, gQ33_1, gQ36_0, gQ36_1, gQ39_0, gQ39_3, gQ39_4, gQ39_6, gQ39_8, gQ39_10, gQ39_11, gQ39_12, gQ48_0, gQ48_1, gQ51_2, gQ53_0, gQ53_1, gQ60_0, gQ60_1, gQ60_2, gQ64_1, gQ64_14, gQ64_15, gQ64_16, gQ64_17, gQ64_18, gQ64_19, gQ64_20, gQ64_21, gQ64_24, gQ64_25, gQ64_27, gQ64_28, gQ64_29, gQ64_30, gQ64_31, gQ64_34, gQ64_35, gQ64_36, gQ64_39, gQ64_40, gQ64_41, gQ64_43, gQ64_44, gQ64_48, gQ64_50, gQ64_51, gQ64_52, gQ64_53, gQ64_54, gQ64_58, gQ64_59, gI30, gJ30, pI30, pJ30, rC30, gI31, gJ31, pI31, pJ31, rC31, gI33, gJ33, pI33, pJ33, rC33, gI36, gJ36, pI36, pJ36, rC36, gI39, gJ39, pI39, pJ39, rC39, gI48, gJ48, pI48, pJ48, rC48, gI51, gJ51, pI51, pJ51, rC51, gI53, gJ53, pI53, pJ53, rC53, gI60, gJ60, pI60, pJ60, rC60, gI64, gJ64, pI64, pJ64, rC64, hF, s_203 hF hE, nI_leI, Nat.le_refl, if_true]
    rfl
  | succ r ih =>
    intro i m hi
    have ih' := ih (i + 1) m (by omega)
    rw [show r + 1 + 1 + m = (r + 1 + m) + 1 by omega, l_242_2, b_242_2, fi_s]
    simp (disch := first | assumption | (repeat' (first | apply fx_sI | apply fx_sJ | assumption | omega))) only [bnd_e, grd_e, grd0, grd1, Option.bind_some, Option.isSome_some, gQ30_0, gQ30_1, gQ30_2, gQ30_3, gQ30_4, gQ30_5, gQ30_6, gQ30_7, gQ30_8, gQ30_9, gQ31_0, gQ33_0, gQ33_1, gQ36_0, gQ36_1, gQ39_0, gQ39_3, gQ39_4, gQ39_6, gQ39_8, gQ39_10, gQ39_11, gQ39_12, gQ48_0, gQ48_1, gQ51_2, gQ53_0, gQ53_1, gQ60_0, gQ60_1, gQ60_2, gQ64_1, gQ64_14, gQ64_15, gQ64_16, gQ64_17, gQ64_18, gQ64_19, gQ64_20, gQ64_21, gQ64_24, gQ64_25, gQ64_27, gQ64_28, gQ64_29, gQ64_30, gQ64_31, gQ64_34, gQ64_35, gQ64_36, gQ64_39, gQ64_40, gQ64_41, gQ64_43, gQ64_44, gQ64_48, gQ64_50, gQ64_51, gQ64_52, gQ64_53, gQ64_54, gQ64_58, gQ64_59, gI30, gJ30, pI30, pJ30, rC30, gI31, gJ31, pI31, pJ31, rC31, gI33, gJ33, pI33, pJ33, rC33, gI36, gJ36, pI36, pJ36, rC36, gI39, gJ39, pI39, pJ39, rC39, gI48, gJ48, pI48, pJ48, rC48, gI51, gJ51, pI51, pJ51, rC51, gI53, gJ53, pI53, pJ53, rC53, gI60, gJ60, pI60, pJ60, rC60, gI64, gJ64, pI64, pJ64, rC64, hF, s_203 hF hE, nI_leI, show ¬ E 2 ≤ i by omega, if_false]
    rw [b_242_10]
    simp (disch := first | assumption | (repeat' (first | apply fx_sI | apply fx_sJ | assumption | omega))) only [nI_eq]
    by_cases c : i = d0
    · rw [if_pos c, b_242_26, bnd_e, nI_add, ih', if_neg (by simp [c])]
    · rw [if_neg c, b_242_15]
      have b16 : mkM (L i) 4 < 16 := mkM_lt (L i) 4
      simp (disch := first | assumption | (repeat' (first | apply fx_sI | apply fx_sJ | assumption | omega))) only [bnd_e, grd_e, grd0, grd1, Option.bind_some, Option.isSome_some, gQ30_0, gQ30_1, gQ30_2, gQ30_3, gQ30_4, gQ30_5, gQ30_6, gQ30_7, gQ30_8, gQ30_9, gQ31_0, gQ33_0, gQ33_1, gQ36_0, gQ36_1, gQ39_0, gQ39_3, gQ39_4, gQ39_6, gQ39_8, gQ39_10, gQ39_11, gQ39_12, gQ48_0, gQ48_1, gQ51_2, gQ53_0, gQ53_1, gQ60_0, gQ60_1, gQ60_2, gQ64_1, gQ64_14, gQ64_15, gQ64_16, gQ64_17, gQ64_18, gQ64_19, gQ64_20, gQ64_21, gQ64_24, gQ64_25, gQ64_27, gQ64_28, gQ64_29, gQ64_30, gQ64_31, gQ64_34, gQ64_35, gQ64_36, gQ64_39, gQ64_40, gQ64_41, gQ64_43, gQ64_44, gQ64_48, gQ64_50, gQ64_51, gQ64_52, gQ64_53, gQ64_54, gQ64_58, gQ64_59, gI30, gJ30, pI30, pJ30, rC30, gI31, gJ31, pI31, pJ31, rC31, gI33, gJ33, pI33, pJ33, rC33, gI36, gJ36, pI36, pJ36, rC36, gI39, gJ39, pI39, pJ39, rC39, gI48, gJ48, pI48, pJ48, rC48, gI51, gJ51, pI51, pJ51, rC51, gI53, gJ53, pI53, pJ53, rC53, gI60, gJ60, pI60, pJ60, rC60, gI64, gJ64, pI64, pJ64, rC64, aI27, aL27, aI28, aL28, aI32, wI32, aL32, aI34, wI34, aL34, aI35, wI35, aL35, aI37, wI37, aL37, aI38, wI38, aL38, aJ40, wJ40, aL40, aI41, wI41, aL41, aI42, wI42, aL42, aI43, wI43, aL43, aI44, wI44, aL44, aI45, wI45, aL45, aI46, wI46, aL46, aI47, wI47, aL47, aI49, wI49, aL49, aI50, wI50, aL50, aI52, wI52, aL52, aI54, wI54, aL54, aI55, wI55, aL55, aL56, aL57, aL58, aI59, wI59, aL59, aI61, wI61, aL61, aL62, aI63, wI63, aL63, aI65, wI65, aL65, aI66, wI66, aL66, aI67, wI67, aL67, aI68, wI68, aL68, aI69, wI69, aL69, aJ70, wJ70, aL70, aJ71, wJ71, aL71, aJ72, wJ72, aL72, aZ73, wZ73, aL73, aI74, wI74, aL74, aI75, wI75, aL75, aJ76, wJ76, aL76, aJ77, wJ77, aL77, aI78, wI78, aL78, aI79, wI79, aL79, aI80, wI80, aL80, aI81, wI81, aL81, aI82, wI82, aL82, aI83, wI83, aL83, aI84, wI84, aL84, aI85, wI85, aL85, aI86, wI86, aL86, aI87, wI87, aL87, aI88, wI88, aL88, aI89, wI89, aL89, aI90, wI90, aL90, aI91, wI91, aL91, aI92, wI92, aL92, aI93, wI93, aL93, aI94, wI94, aL94, aZ95, wZ95, aL95, aI96, wI96, aL96, aJ97, wJ97, aL97, hF, hl i (show i < E 2 by omega) c, nI_eq0 (show mkM (L i) 4 < 2147483648 by omega), ct0]
      by_cases c0 : fb_ct (L i) 4 = 0
      · rw [if_neg (fun z => z c0), b_242_24, if_pos (by simp [c, c0])]; rfl
      · rw [if_pos c0, b_242_26, bnd_e, nI_add, ih', if_neg (by simp [c0])]
theorem s_242 {h : Hp} (hF : Fix h) (hE : NowE h E) (h10 : E 2 ≤ 10) (hd : d0 < E 2) (hI' : fcI E d0 X) (hl : ∀ a, a < E 2 → a ≠ d0 → hI h 81 a = nI (mkM (X.1 a) 4)) : f_242 (some 64) (nI d0) h = some (mI (fcD E d0 X), h) := by
  obtain ⟨m, hm⟩ := FU_ge (E 2 + 1) (by omega)
  rw [f_242, b_242_0, bnd_e, hm, l_242 hF hE h10 hd hl (E 2) 0 m (by omega)]
  congr 3
  refine fi_cg (E 2) 0 (fun e _ h2 => ?_)
  unfold nfr
  cases hs : X.2.1.testBit e
  · simp
  · have := hI'.2.2.2 e hs
    have n0 : fb_ct (X.1 e) 4 ≠ 0 := fun z => by
      have := fb_ct_zero.1 z (X.2.2.2.2 e) this.2.2.1
      rw [(hI'.2.2.2 e hs).2.2.2.1] at this
      cases this
    simp [n0]
theorem l_243 {h : Hp} (hF : Fix h) (hE : NowE h E) (h10 : E 2 ≤ 10) (hd : d0 < E 2) (hS2 : X.2.1 < 1024) (hl : ∀ a, a < E 2 → a ≠ d0 → hI h 81 a = nI (mkM (X.1 a) 4)) : ∀ r i m, i + r = E 2 → l_243_2 (r + 1 + m) (some 64) (nI d0) (nI X.2.1) (nI i) h = some (mI (fi (nfr d0 X.1 X.2.1 1) r i), h) := by
  intro r
  induction r with
  | zero =>
    intro i m hi
    obtain rfl : i = E 2 := by omega
    rw [show 0 + 1 + m = m + 1 by omega, l_243_2, b_243_2]
    simp (disch := first | assumption | (repeat' (first | apply fx_sI | apply fx_sJ | assumption | omega))) only [bnd_e, grd_e, grd0, grd1, Option.bind_some, Option.isSome_some, gQ30_0, gQ30_1, gQ30_2, gQ30_3, gQ30_4, gQ30_5, gQ30_6, gQ30_7, gQ30_8, gQ30_9, gQ31_0, gQ33_0, gQ33_1, gQ36_0, gQ36_1, gQ39_0, gQ39_3, gQ39_4, gQ39_6, gQ39_8, gQ39_10, gQ39_11, gQ39_12, gQ48_0, gQ48_1, gQ51_2, gQ53_0, gQ53_1, gQ60_0, gQ60_1, gQ60_2, gQ64_1, gQ64_14, gQ64_15, gQ64_16, gQ64_17, gQ64_18, gQ64_19, gQ64_20, gQ64_21, gQ64_24, gQ64_25, gQ64_27, gQ64_28, gQ64_29, gQ64_30, gQ64_31, gQ64_34, gQ64_35, gQ64_36, gQ64_39, gQ64_40, gQ64_41, gQ64_43, gQ64_44, gQ64_48, gQ64_50, gQ64_51, gQ64_52, gQ64_53, gQ64_54, gQ64_58, gQ64_59, gI30, gJ30, pI30, pJ30, rC30, gI31, gJ31, pI31, pJ31, rC31, gI33, gJ33, pI33, pJ33, rC33, gI36, gJ36, pI36, pJ36, rC36, gI39, gJ39, pI39, pJ39, rC39, gI48, gJ48, pI48, pJ48, rC48, gI51, gJ51, pI51, pJ51, rC51, gI53, gJ53, pI53, pJ53, rC53, gI60, gJ60, pI60, pJ60, rC60, gI64, gJ64, pI64, pJ64, rC64, hF, s_203 hF hE, nI_leI, Nat.le_refl, if_true]
    rfl
  | succ r ih =>
    intro i m hi
    have ih' := ih (i + 1) m (by omega)
    have nx : nfr d0 X.1 X.2.1 1 i = false → b_243_38 (l_243_2 (r + 1 + m)) (some 64) (nI d0) (nI X.2.1) (nI i) h = some (mI (fi (nfr d0 X.1 X.2.1 1) (r + 1) i), h) := by
      intro z
      rw [fi_s, z, if_neg (by decide), b_243_38, bnd_e, nI_add]
      exact ih'
    rw [show r + 1 + 1 + m = (r + 1 + m) + 1 by omega, l_243_2, b_243_2]
    simp (disch := first | assumption | (repeat' (first | apply fx_sI | apply fx_sJ | assumption | omega))) only [bnd_e, grd_e, grd0, grd1, Option.bind_some, Option.isSome_some, gQ30_0, gQ30_1, gQ30_2, gQ30_3, gQ30_4, gQ30_5, gQ30_6, gQ30_7, gQ30_8, gQ30_9, gQ31_0, gQ33_0, gQ33_1, gQ36_0, gQ36_1, gQ39_0, gQ39_3, gQ39_4, gQ39_6, gQ39_8, gQ39_10, gQ39_11, gQ39_12, gQ48_0, gQ48_1, gQ51_2, gQ53_0, gQ53_1, gQ60_0, gQ60_1, gQ60_2, gQ64_1, gQ64_14, gQ64_15, gQ64_16, gQ64_17, gQ64_18, gQ64_19, gQ64_20, gQ64_21, gQ64_24, gQ64_25, gQ64_27, gQ64_28, gQ64_29, gQ64_30, gQ64_31, gQ64_34, gQ64_35, gQ64_36, gQ64_39, gQ64_40, gQ64_41, gQ64_43, gQ64_44, gQ64_48, gQ64_50, gQ64_51, gQ64_52, gQ64_53, gQ64_54, gQ64_58, gQ64_59, gI30, gJ30, pI30, pJ30, rC30, gI31, gJ31, pI31, pJ31, rC31, gI33, gJ33, pI33, pJ33, rC33, gI36, gJ36, pI36, pJ36, rC36, gI39, gJ39, pI39, pJ39, rC39, gI48, gJ48, pI48, pJ48, rC48, gI51, gJ51, pI51, pJ51, rC51, gI53, gJ53, pI53, pJ53, rC53, gI60, gJ60, pI60, pJ60, rC60, gI64, gJ64, pI64, pJ64, rC64, hF, s_203 hF hE, nI_leI, show ¬ E 2 ≤ i by omega, if_false]
    rw [b_243_10]
    simp (disch := first | assumption | (repeat' (first | apply fx_sI | apply fx_sJ | assumption | omega))) only [nI_eq]
    by_cases c : i = d0
    · rw [if_pos c]
      exact nx (by unfold nfr; simp [c])
    · rw [if_neg c, b_243_15]
      simp (disch := first | assumption | (repeat' (first | apply fx_sI | apply fx_sJ | assumption | omega))) only [s_183 (show X.2.1 < 2147483648 by omega) (show i < 32 by omega), Option.bind_some, bI_0']
      cases hs : X.2.1.testBit i
      · rw [if_neg (fun z => z rfl), b_243_23]
        have b16 : mkM (X.1 i) 4 < 16 := mkM_lt (X.1 i) 4
        have fl := fb_ct_le (X.1 i) 4
        simp (disch := first | assumption | (repeat' (first | apply fx_sI | apply fx_sJ | assumption | omega))) only [bnd_e, grd_e, grd0, grd1, Option.bind_some, Option.isSome_some, gQ30_0, gQ30_1, gQ30_2, gQ30_3, gQ30_4, gQ30_5, gQ30_6, gQ30_7, gQ30_8, gQ30_9, gQ31_0, gQ33_0, gQ33_1, gQ36_0, gQ36_1, gQ39_0, gQ39_3, gQ39_4, gQ39_6, gQ39_8, gQ39_10, gQ39_11, gQ39_12, gQ48_0, gQ48_1, gQ51_2, gQ53_0, gQ53_1, gQ60_0, gQ60_1, gQ60_2, gQ64_1, gQ64_14, gQ64_15, gQ64_16, gQ64_17, gQ64_18, gQ64_19, gQ64_20, gQ64_21, gQ64_24, gQ64_25, gQ64_27, gQ64_28, gQ64_29, gQ64_30, gQ64_31, gQ64_34, gQ64_35, gQ64_36, gQ64_39, gQ64_40, gQ64_41, gQ64_43, gQ64_44, gQ64_48, gQ64_50, gQ64_51, gQ64_52, gQ64_53, gQ64_54, gQ64_58, gQ64_59, gI30, gJ30, pI30, pJ30, rC30, gI31, gJ31, pI31, pJ31, rC31, gI33, gJ33, pI33, pJ33, rC33, gI36, gJ36, pI36, pJ36, rC36, gI39, gJ39, pI39, pJ39, rC39, gI48, gJ48, pI48, pJ48, rC48, gI51, gJ51, pI51, pJ51, rC51, gI53, gJ53, pI53, pJ53, rC53, gI60, gJ60, pI60, pJ60, rC60, gI64, gJ64, pI64, pJ64, rC64, aI27, aL27, aI28, aL28, aI32, wI32, aL32, aI34, wI34, aL34, aI35, wI35, aL35, aI37, wI37, aL37, aI38, wI38, aL38, aJ40, wJ40, aL40, aI41, wI41, aL41, aI42, wI42, aL42, aI43, wI43, aL43, aI44, wI44, aL44, aI45, wI45, aL45, aI46, wI46, aL46, aI47, wI47, aL47, aI49, wI49, aL49, aI50, wI50, aL50, aI52, wI52, aL52, aI54, wI54, aL54, aI55, wI55, aL55, aL56, aL57, aL58, aI59, wI59, aL59, aI61, wI61, aL61, aL62, aI63, wI63, aL63, aI65, wI65, aL65, aI66, wI66, aL66, aI67, wI67, aL67, aI68, wI68, aL68, aI69, wI69, aL69, aJ70, wJ70, aL70, aJ71, wJ71, aL71, aJ72, wJ72, aL72, aZ73, wZ73, aL73, aI74, wI74, aL74, aI75, wI75, aL75, aJ76, wJ76, aL76, aJ77, wJ77, aL77, aI78, wI78, aL78, aI79, wI79, aL79, aI80, wI80, aL80, aI81, wI81, aL81, aI82, wI82, aL82, aI83, wI83, aL83, aI84, wI84, aL84, aI85, wI85, aL85, aI86, wI86, aL86, aI87, wI87, aL87, aI88, wI88, aL88, aI89, wI89, aL89, aI90, wI90, aL90, aI91, wI91, aL91, aI92, wI92, aL92, aI93, wI93, aL93, aI94, wI94, aL94, aZ95, wZ95, aL95, aI96, wI96, aL96, aJ97, wJ97, aL97, hF, hl i (show i < E 2 by omega) c, s_184 (show mkM (X.1 i) 4 < 2147483648 by omega), pc4, nI_eq]
        by_cases ck : fb_ct (X.1 i) 4 = 1
        · rw [if_neg (fun z => z ck), b_243_36, fi_s, if_pos (by unfold nfr; simp [c, hs, ck])]
          rfl
        · rw [if_pos ck]
          exact nx (by unfold nfr; simp [ck])
      · rw [if_pos (by decide)]
        exact nx (by unfold nfr; simp [hs])
theorem s_243 {h : Hp} (hF : Fix h) (hE : NowE h E) (h10 : E 2 ≤ 10) (hd : d0 < E 2) (hS2 : X.2.1 < 1024) (hl : ∀ a, a < E 2 → a ≠ d0 → hI h 81 a = nI (mkM (X.1 a) 4)) : f_243 (some 64) (nI d0) (nI X.2.1) h = some (mI (fcN E d0 X), h) := by
  obtain ⟨m, hm⟩ := FU_ge (E 2 + 1) (by omega)
  rw [f_243, b_243_0, bnd_e, hm, l_243 hF hE h10 hd hS2 hl (E 2) 0 m (by omega)]
  rfl
theorem onl_b {q : Nat → Bool} {j : Nat} (hj : j < onl q) : q j = false := by
  unfold onl at hj
  cases h0 : q 0
  · rw [h0, if_neg (by decide)] at hj
    cases h1 : q 1
    · rw [h1, if_neg (by decide)] at hj
      cases h2 : q 2
      · rw [h2, if_neg (by decide)] at hj
        rcases (show j = 0 ∨ j = 1 ∨ j = 2 by omega) with e | e | e <;> rw [e] <;> assumption
      · rw [h2, if_pos rfl] at hj
        rcases (show j = 0 ∨ j = 1 by omega) with e | e <;> rw [e] <;> assumption
    · rw [h1, if_pos rfl] at hj
      obtain rfl : j = 0 := by omega
      exact h0
  · rw [h0, if_pos rfl] at hj
    omega
/-- what the reference holds of it -/
def MF (E : Nat → Nat) (d0 : Nat) (h : Hp) (X : FC) : Prop := MSw h E ∧ (∀ a, a < E 2 → a ≠ d0 → hI h 81 a = nI (mkM (X.1 a) 4)) ∧ (∀ e, e < E 2 → hI h 82 e = if X.2.1.testBit e = true then nI (X.2.2.2.2 e) else -1) ∧ (∀ i, i < X.2.2.1 → hI h 83 i = nI (X.2.2.2.1 i)) ∧ hI h 64 37 = nI X.2.2.1
theorem l_244g {h : Hp} {e : Nat} {q : Nat → Bool} {k121 : Option Nat → Int32 → Int32 → Int32 → Hp → Option (Int32 × Hp)} {v1 v3 v4 : Int32} (hF : Fix h) (he : e < 10) (hl : hI h 81 e = nI (mkM q 4)) (hc : fb_ct q 4 = 1) : ∀ r j m, j + r = onl q → l_244_151 k121 (r + 1 + m) (some 64) v1 v3 v4 (nI e) (nI j) h = b_244_172 k121 (some 64) v1 v3 v4 (nI e) (nI (onl q)) h := by
  obtain ⟨o1, o2, o3⟩ := onl_4 hc
  have b16 : mkM q 4 < 16 := mkM_lt q 4
  have pre : ∀ (k151 : Option Nat → Int32 → Int32 → Int32 → Int32 → Int32 → Hp → Option (Int32 × Hp)) j, j < 4 → b_244_151 k121 k151 (some 64) v1 v3 v4 (nI e) (nI j) h = if q j = true then b_244_172 k121 (some 64) v1 v3 v4 (nI e) (nI j) h else b_244_166 k121 k151 (some 64) v1 v3 v4 (nI e) (nI j) h := by
    intro k151 j hj
    rw [b_244_151]
    simp (disch := first | assumption | (repeat' (first | apply fx_sI | apply fx_sJ | assumption | omega))) only [bnd_e, grd_e, grd0, grd1, Option.bind_some, Option.isSome_some, gQ30_0, gQ30_1, gQ30_2, gQ30_3, gQ30_4, gQ30_5, gQ30_6, gQ30_7, gQ30_8, gQ30_9, gQ31_0, gQ33_0, gQ33_1, gQ36_0, gQ36_1, gQ39_0, gQ39_3, gQ39_4, gQ39_6, gQ39_8, gQ39_10, gQ39_11, gQ39_12, gQ48_0, gQ48_1, gQ51_2, gQ53_0, gQ53_1, gQ60_0, gQ60_1, gQ60_2, gQ64_1, gQ64_14, gQ64_15, gQ64_16, gQ64_17, gQ64_18, gQ64_19, gQ64_20, gQ64_21, gQ64_24, gQ64_25, gQ64_27, gQ64_28, gQ64_29, gQ64_30, gQ64_31, gQ64_34, gQ64_35, gQ64_36, gQ64_39, gQ64_40, gQ64_41, gQ64_43, gQ64_44, gQ64_48, gQ64_50, gQ64_51, gQ64_52, gQ64_53, gQ64_54, gQ64_58, gQ64_59, gI30, gJ30, pI30, pJ30, rC30, gI31, gJ31, pI31, pJ31, rC31, gI33, gJ33, pI33, pJ33, rC33, gI36, gJ36, pI36, pJ36, rC36, gI39, gJ39, pI39, pJ39, rC39, gI48, gJ48, pI48, pJ48, rC48, gI51, gJ51, pI51, pJ51, rC51, gI53, gJ53, pI53, pJ53, rC53, gI60, gJ60, pI60, pJ60, rC60, gI64, gJ64, pI64, pJ64, rC64, aI27, aL27, aI28, aL28, aI32, wI32, aL32, aI34, wI34, aL34, aI35, wI35, aL35, aI37, wI37, aL37, aI38, wI38, aL38, aJ40, wJ40, aL40, aI41, wI41, aL41, aI42, wI42, aL42, aI43, wI43, aL43, aI44, wI44, aL44, aI45, wI45, aL45, aI46, wI46, aL46, aI47, wI47, aL47, aI49, wI49, aL49, aI50, wI50, aL50, aI52, wI52, aL52, aI54, wI54, aL54, aI55, wI55, aL55, aL56, aL57, aL58, aI59, wI59, aL59, aI61, wI61, aL61, aL62, aI63, wI63, aL63, aI65, wI65, aL65, aI66, wI66, aL66, aI67, wI67, aL67, aI68, wI68, aL68, aI69, wI69, aL69, aJ70, wJ70, aL70, aJ71, wJ71, aL71, aJ72, wJ72, aL72, aZ73, wZ73, aL73, aI74, wI74, aL74, aI75, wI75, aL75, aJ76, wJ76, aL76, aJ77, wJ77, aL77, aI78, wI78, aL78, aI79, wI79, aL79, aI80, wI80, aL80, aI81, wI81, aL81, aI82, wI82, aL82, aI83, wI83, aL83, aI84, wI84, aL84, aI85, wI85, aL85, aI86, wI86, aL86, aI87, wI87, aL87, aI88, wI88, aL88, aI89, wI89, aL89, aI90, wI90, aL90, aI91, wI91, aL91, aI92, wI92, aL92, aI93, wI93, aL93, aI94, wI94, aL94, aZ95, wZ95, aL95, aI96, wI96, aL96, aJ97, wJ97, aL97, hF, hl, s_183 (show mkM q 4 < 2147483648 by omega) (show j < 32 by omega), bI_0', mkM_tb, decide_eq_true hj, Bool.true_and]
    cases q j <;> rfl
  intro r
  induction r with
  | zero =>
    intro j m hj
    obtain rfl : j = onl q := by omega
    rw [show 0 + 1 + m = m + 1 by omega, l_244_151, pre _ _ o1, if_pos o2]
  | succ r ih =>
    intro j m hj
    rw [show r + 1 + 1 + m = (r + 1 + m) + 1 by omega, l_244_151, pre _ j (by omega), onl_b (q := q) (show j < onl q by omega), if_neg (by decide), b_244_166, bnd_e, nI_add]
    exact ih (j + 1) m (by omega)
theorem l_244 (h10 : E 2 ≤ 10) (hd : d0 < E 2) {v3 : Int32} : ∀ r (X : FC) m h, X.2.2.1 + r = E 2 → fcI E d0 X → MF E d0 h X →
    ∃ g, l_244_121 (r + 1 + m) (some 64) (nI d0) v3 (nI X.2.1) h = b_244_223 (some 64) (nI d0) v3 (nI (fcR E d0 r X).2.1) g ∧ Fz [81, 82, 83, 38000064] h g ∧ fcI E d0 (fcR E d0 r X) ∧ MF E d0 g (fcR E d0 r X) := by
  have stopd : ∀ (X : FC) (k121 : Option Nat → Int32 → Int32 → Int32 → Hp → Option (Int32 × Hp)) (h : Hp), fcI E d0 X → MF E d0 h X → (fcD E d0 X ≠ 0 ∨ fcN E d0 X = 0) → b_244_121 k121 (some 64) (nI d0) v3 (nI X.2.1) h = b_244_223 (some 64) (nI d0) v3 (nI X.2.1) h := by
    intro X k121 h hI' hM hs
    obtain ⟨⟨hF, hE, hS⟩, m1, m2, m3, m4⟩ := hM
    have dl : fcD E d0 X ≤ E 2 := fiN_le _ _
    have sl : X.2.1 < 1024 := by
      have := hI'.1
      have h2 : 2 ^ E 2 ≤ 2 ^ 10 := Nat.pow_le_pow_right (by decide) h10
      omega
    have e0 : (mI (fcD E d0 X) = -1) = (fcD E d0 X = 0) := propext (by rw [show (-1 : Int32) = mI 0 from rfl, mI_inj (by omega) (by omega)])
    rw [b_244_121]
    simp (disch := first | assumption | (repeat' (first | apply fx_sI | apply fx_sJ | assumption | omega))) only [bnd_e, grd_e, grd0, grd1, Option.bind_some, Option.isSome_some, gQ30_0, gQ30_1, gQ30_2, gQ30_3, gQ30_4, gQ30_5, gQ30_6, gQ30_7, gQ30_8, gQ30_9, gQ31_0, gQ33_0, gQ33_1, gQ36_0, gQ36_1, gQ39_0, gQ39_3, gQ39_4, gQ39_6, gQ39_8, gQ39_10, gQ39_11, gQ39_12, gQ48_0, gQ48_1, gQ51_2, gQ53_0, gQ53_1, gQ60_0, gQ60_1, gQ60_2, gQ64_1, gQ64_14, gQ64_15, gQ64_16, gQ64_17, gQ64_18, gQ64_19, gQ64_20, gQ64_21, gQ64_24, gQ64_25, gQ64_27, gQ64_28, gQ64_29, gQ64_30, gQ64_31, gQ64_34, gQ64_35, gQ64_36, gQ64_39, gQ64_40, gQ64_41, gQ64_43, gQ64_44, gQ64_48, gQ64_50, gQ64_51, gQ64_52, gQ64_53, gQ64_54, gQ64_58, gQ64_59, gI30, gJ30, pI30, pJ30, rC30, gI31, gJ31, pI31, pJ31, rC31, gI33, gJ33, pI33, pJ33, rC33, gI36, gJ36, pI36, pJ36, rC36, gI39, gJ39, pI39, pJ39, rC39, gI48, gJ48, pI48, pJ48, rC48, gI51, gJ51, pI51, pJ51, rC51, gI53, gJ53, pI53, pJ53, rC53, gI60, gJ60, pI60, pJ60, rC60, gI64, gJ64, pI64, pJ64, rC64, hF, s_242 hF hE h10 hd hI' m1, e0]
    by_cases c : fcD E d0 X = 0
    · rw [if_neg (fun z => z c), b_244_130]
      have cn : fcN E d0 X = 0 := hs.elim (fun z => absurd c z) id
      simp (disch := first | assumption | (repeat' (first | apply fx_sI | apply fx_sJ | assumption | omega))) only [bnd_e, grd_e, grd0, grd1, Option.bind_some, Option.isSome_some, gQ30_0, gQ30_1, gQ30_2, gQ30_3, gQ30_4, gQ30_5, gQ30_6, gQ30_7, gQ30_8, gQ30_9, gQ31_0, gQ33_0, gQ33_1, gQ36_0, gQ36_1, gQ39_0, gQ39_3, gQ39_4, gQ39_6, gQ39_8, gQ39_10, gQ39_11, gQ39_12, gQ48_0, gQ48_1, gQ51_2, gQ53_0, gQ53_1, gQ60_0, gQ60_1, gQ60_2, gQ64_1, gQ64_14, gQ64_15, gQ64_16, gQ64_17, gQ64_18, gQ64_19, gQ64_20, gQ64_21, gQ64_24, gQ64_25, gQ64_27, gQ64_28, gQ64_29, gQ64_30, gQ64_31, gQ64_34, gQ64_35, gQ64_36, gQ64_39, gQ64_40, gQ64_41, gQ64_43, gQ64_44, gQ64_48, gQ64_50, gQ64_51, gQ64_52, gQ64_53, gQ64_54, gQ64_58, gQ64_59, gI30, gJ30, pI30, pJ30, rC30, gI31, gJ31, pI31, pJ31, rC31, gI33, gJ33, pI33, pJ33, rC33, gI36, gJ36, pI36, pJ36, rC36, gI39, gJ39, pI39, pJ39, rC39, gI48, gJ48, pI48, pJ48, rC48, gI51, gJ51, pI51, pJ51, rC51, gI53, gJ53, pI53, pJ53, rC53, gI60, gJ60, pI60, pJ60, rC60, gI64, gJ64, pI64, pJ64, rC64, hF, s_243 hF hE h10 hd sl m1, cn]
      rw [if_neg (fun z => z rfl), b_244_145]
    · rw [if_pos c]
  intro r
  induction r with
  | zero =>
    intro X m h hz hI' hM
    refine ⟨h, ?_, Fz.rfl', hI', hM⟩
    have stop : fcN E d0 X = 0 := by
      apply Classical.byContradiction
      intro c
      obtain ⟨e, e1, e2, e3, e4, e5⟩ := fcN_at c
      have := hI'.lt e2 e4
      omega
    rw [show 0 + 1 + m = m + 1 by omega, l_244_121, stopd X _ h hI' hM (Or.inr stop)]
    rfl
  | succ r ih =>
    intro X m h hz hI' hM
    rw [fcR_s, show r + 1 + 1 + m = (r + 1 + m) + 1 by omega, l_244_121]
    by_cases cs : fcD E d0 X ≠ 0 ∨ fcN E d0 X = 0
    · rw [if_pos cs, stopd X _ h hI' hM cs]
      exact ⟨h, rfl, Fz.rfl', hI', hM⟩
    · rw [if_neg cs]
      have cd : fcD E d0 X = 0 := Classical.byContradiction (fun z => cs (Or.inl z))
      have cn : fcN E d0 X ≠ 0 := fun z => cs (Or.inr z)
      obtain ⟨e, q1, q2, q3, q4, q5⟩ := fcN_at cn
      have zl := hI'.lt q2 q4
      obtain ⟨o1, o2, o3⟩ := onl_4 q5
      have IT := hI'.T h10 q2 q3 q4 q5
      obtain ⟨⟨hF, hE, hS⟩, m1, m2, m3, m4⟩ := id hM
      have sl : X.2.1 < 1024 := by
        have := hI'.1
        have h2 : 2 ^ E 2 ≤ 2 ^ 10 := Nat.pow_le_pow_right (by decide) h10
        omega
      generalize hg : onl (X.1 e) = g0 at *
      have TT : fcT E X e = (nxL E X.1 e g0, X.2.1 ||| 2 ^ e, X.2.2.1 + 1, upn X.2.2.2.1 X.2.2.1 e, upn X.2.2.2.2 e g0) := by unfold fcT; rw [hg]
      generalize x1 : sI h 82 e (nI g0) = h1
      generalize x2 : sI h1 83 X.2.2.1 (nI e) = h2
      generalize x3 : sI h2 64 37 (nI (X.2.2.1 + 1)) = h3
      have F1 : Fix h1 := by rw [← x1]; exact fx_sI hF (by omega)
      have F2 : Fix h2 := by rw [← x2]; exact fx_sI F1 (by omega)
      have z3 : Fz [82, 83, 38000064] h h3 := by
        rw [← x3, ← x2, ← x1]
        exact Fz.sI (Fz.sI (Fz.sI Fz.rfl' (Or.inl (by simp))) (Or.inl (by simp))) (Or.inr (by simp))
      have M3 := hM.1.cz z3 (by decide) (by decide)
      have F3 := M3.1
      have v1 : hI h1 64 37 = nI X.2.2.1 := by rw [← x1, hI_sI, if_neg (by omega)]; exact m4
      have v2 : hI h2 64 37 = nI X.2.2.1 := by rw [← x2, hI_sI, if_neg (by omega)]; exact v1
      obtain ⟨h4, a1, a2, a3⟩ := s_241 (e := e) (g := g0) (L := X.1) h10 q2 o1 hd M3 (fun a ha hn => by rw [z3.I (a := 81) (by decide)]; exact m1 a ha hn)
      have M4 := M3.cz a2 (by decide) (by decide)
      have MT : MF E d0 h4 (fcT E X e) := by
        rw [TT]
        refine ⟨M4, a3, fun f hf => ?_, fun i hi => ?_, ?_⟩
        · show hI h4 82 f = if (X.2.1 ||| 2 ^ e).testBit f = true then nI (upn X.2.2.2.2 e g0 f) else -1
          rw [a2.I (a := 82) (by decide), ← x3, hI_sI, if_neg (by omega), ← x2, hI_sI, if_neg (by omega), ← x1, hI_sI, tb_or2]
          unfold upn
          by_cases c : f = e
          · rw [if_pos ⟨rfl, c⟩, if_pos c, if_pos (by simp [c])]
          · rw [if_neg (fun z => c z.2), if_neg c, decide_eq_false c, Bool.or_false]; exact m2 f hf
        · have hi : i < X.2.2.1 + 1 := hi
          show hI h4 83 i = nI (upn X.2.2.2.1 X.2.2.1 e i)
          rw [a2.I (a := 83) (by decide), ← x3, hI_sI, if_neg (by omega), ← x2, hI_sI]
          unfold upn
          by_cases c : i = X.2.2.1
          · rw [if_pos ⟨rfl, c⟩, if_pos c]
          · rw [if_neg (fun z => c z.2), if_neg c, ← x1, hI_sI, if_neg (by omega)]; exact m3 i (by omega)
        · rw [a2.I1 (by decide) (by decide), ← x3, hI_sI, if_pos ⟨rfl, rfl⟩]
      have zT : (fcT E X e).2.2.1 = X.2.2.1 + 1 := by rw [TT]
      have sT : (fcT E X e).2.1 = X.2.1 ||| 2 ^ e := by rw [TT]
      rw [q1, show e + 1 - 1 = e by omega]
      obtain ⟨g, b1, b2, b3, b4⟩ := ih (fcT E X e) m h4 (by omega) IT MT
      rw [sT] at b1
      refine ⟨g, ?_, (z3.wid (by intro z hz; simp only [List.mem_cons, List.not_mem_nil, or_false] at hz ⊢; omega)).then ((a2.wid (by intro z hz; simp only [List.mem_cons, List.not_mem_nil, or_false] at hz ⊢; omega)).then b2), b3, b4⟩
      obtain ⟨m2', hm2⟩ := FU_ge (g0 + 1) (by omega)
      have lg := l_244g (k121 := l_244_121 (r + 1 + m)) (v1 := nI d0) (v3 := v3) (v4 := nI X.2.1) hF (show e < 10 by omega) (m1 e q2 q3) q5 g0 0 m2' (by rw [hg]; omega)
      rw [hg] at lg
      have nm : ¬ nI e = (-1 : Int32) := nI_m1 (by omega)
      have t1 : b_244_172 (l_244_121 (r + 1 + m)) (some 64) (nI d0) v3 (nI X.2.1) (nI e) (nI g0) h = b_244_223 (some 64) (nI d0) v3 (nI (fcR E d0 r (fcT E X e)).2.1) g := by
        have w1 : wI (some 82) (nI e) (nI g0) h = some h1 := by rw [wI_n (K82 hF) (by omega) (L82 hF) (show e < 10 by omega) (by omega), x1]
        have w2 : wI (some 83) (nI X.2.2.1) (nI e) h1 = some h2 := by rw [wI_n (K83 F1) (by omega) (L83 F1) (show X.2.2.1 < 10 by omega) (by omega), x2]
        rw [b_244_172]
        simp (disch := first | assumption | (repeat' (first | apply fx_sI | apply fx_sJ | assumption | omega))) only [bnd_e, grd_e, grd0, grd1, Option.bind_some, Option.isSome_some, gQ30_0, gQ30_1, gQ30_2, gQ30_3, gQ30_4, gQ30_5, gQ30_6, gQ30_7, gQ30_8, gQ30_9, gQ31_0, gQ33_0, gQ33_1, gQ36_0, gQ36_1, gQ39_0, gQ39_3, gQ39_4, gQ39_6, gQ39_8, gQ39_10, gQ39_11, gQ39_12, gQ48_0, gQ48_1, gQ51_2, gQ53_0, gQ53_1, gQ60_0, gQ60_1, gQ60_2, gQ64_1, gQ64_14, gQ64_15, gQ64_16, gQ64_17, gQ64_18, gQ64_19, gQ64_20, gQ64_21, gQ64_24, gQ64_25, gQ64_27, gQ64_28, gQ64_29, gQ64_30, gQ64_31, gQ64_34, gQ64_35, gQ64_36, gQ64_39, gQ64_40, gQ64_41, gQ64_43, gQ64_44, gQ64_48, gQ64_50, gQ64_51, gQ64_52, gQ64_53, gQ64_54, gQ64_58, gQ64_59, gI30, gJ30, pI30, pJ30, rC30, gI31, gJ31, pI31, pJ31, rC31, gI33, gJ33, pI33, pJ33, rC33, gI36, gJ36, pI36, pJ36, rC36, gI39, gJ39, pI39, pJ39, rC39, gI48, gJ48, pI48, pJ48, rC48, gI51, gJ51, pI51, pJ51, rC51, gI53, gJ53, pI53, pJ53, rC53, gI60, gJ60, pI60, pJ60, rC60, gI64, gJ64, pI64, pJ64, rC64, hF, nI_1shl (show e < 31 by omega), fa_or, w1, F1, v1, w2, F2, v2, nI_add, x3, F3, a1]
        exact b1
      rw [b_244_121]
      simp (disch := first | assumption | (repeat' (first | apply fx_sI | apply fx_sJ | assumption | omega))) only [bnd_e, grd_e, grd0, grd1, Option.bind_some, Option.isSome_some, gQ30_0, gQ30_1, gQ30_2, gQ30_3, gQ30_4, gQ30_5, gQ30_6, gQ30_7, gQ30_8, gQ30_9, gQ31_0, gQ33_0, gQ33_1, gQ36_0, gQ36_1, gQ39_0, gQ39_3, gQ39_4, gQ39_6, gQ39_8, gQ39_10, gQ39_11, gQ39_12, gQ48_0, gQ48_1, gQ51_2, gQ53_0, gQ53_1, gQ60_0, gQ60_1, gQ60_2, gQ64_1, gQ64_14, gQ64_15, gQ64_16, gQ64_17, gQ64_18, gQ64_19, gQ64_20, gQ64_21, gQ64_24, gQ64_25, gQ64_27, gQ64_28, gQ64_29, gQ64_30, gQ64_31, gQ64_34, gQ64_35, gQ64_36, gQ64_39, gQ64_40, gQ64_41, gQ64_43, gQ64_44, gQ64_48, gQ64_50, gQ64_51, gQ64_52, gQ64_53, gQ64_54, gQ64_58, gQ64_59, gI30, gJ30, pI30, pJ30, rC30, gI31, gJ31, pI31, pJ31, rC31, gI33, gJ33, pI33, pJ33, rC33, gI36, gJ36, pI36, pJ36, rC36, gI39, gJ39, pI39, pJ39, rC39, gI48, gJ48, pI48, pJ48, rC48, gI51, gJ51, pI51, pJ51, rC51, gI53, gJ53, pI53, pJ53, rC53, gI60, gJ60, pI60, pJ60, rC60, gI64, gJ64, pI64, pJ64, rC64, hF, s_242 hF hE h10 hd hI' m1, cd]
      rw [if_neg (fun z => z rfl), b_244_130]
      simp (disch := first | assumption | (repeat' (first | apply fx_sI | apply fx_sJ | assumption | omega))) only [bnd_e, grd_e, grd0, grd1, Option.bind_some, Option.isSome_some, gQ30_0, gQ30_1, gQ30_2, gQ30_3, gQ30_4, gQ30_5, gQ30_6, gQ30_7, gQ30_8, gQ30_9, gQ31_0, gQ33_0, gQ33_1, gQ36_0, gQ36_1, gQ39_0, gQ39_3, gQ39_4, gQ39_6, gQ39_8, gQ39_10, gQ39_11, gQ39_12, gQ48_0, gQ48_1, gQ51_2, gQ53_0, gQ53_1, gQ60_0, gQ60_1, gQ60_2, gQ64_1, gQ64_14, gQ64_15, gQ64_16, gQ64_17, gQ64_18, gQ64_19, gQ64_20, gQ64_21, gQ64_24, gQ64_25, gQ64_27, gQ64_28, gQ64_29, gQ64_30, gQ64_31, gQ64_34, gQ64_35, gQ64_36, gQ64_39, gQ64_40, gQ64_41, gQ64_43, gQ64_44, gQ64_48, gQ64_50, gQ64_51, gQ64_52, gQ64_53, gQ64_54, gQ64_58, gQ64_59, gI30, gJ30, pI30, pJ30, rC30, gI31, gJ31, pI31, pJ31, rC31, gI33, gJ33, pI33, pJ33, rC33, gI36, gJ36, pI36, pJ36, rC36, gI39, gJ39, pI39, pJ39, rC39, gI48, gJ48, pI48, pJ48, rC48, gI51, gJ51, pI51, pJ51, rC51, gI53, gJ53, pI53, pJ53, rC53, gI60, gJ60, pI60, pJ60, rC60, gI64, gJ64, pI64, pJ64, rC64, hF, s_243 hF hE h10 hd sl m1, q1, mI_s]
      rw [if_pos nm, b_244_148, bnd_e, hm2, lg]
      exact t1
end FORCEM
