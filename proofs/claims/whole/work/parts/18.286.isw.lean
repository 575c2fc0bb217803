/-! words at hand, on both sides -/
section ISW
variable {T : Nat → Nat} {sz lim p : Nat}
theorem tkK_le : tkK T sz lim p ≤ 3 ∨ (40 ≤ tkK T sz lim p ∧ tkK T sz lim p ≤ 62) := by
  unfold tkK
  have k3 := rnK_3 T (tkQ T sz p) (tkE T sz p - tkQ T sz p)
  by_cases c : lim < sz ∧ lim ≤ tkQ T sz p
  · rw [if_pos c]; omega
  · rw [if_neg c]
    by_cases c2 : sz ≤ tkQ T sz p
    · rw [if_pos c2]; omega
    · rw [if_neg c2]
      by_cases c3 : (isLt (T (tkQ T sz p)) || isDg (T (tkQ T sz p))) = true
      · rw [if_pos c3]; omega
      · rw [if_neg c3]
        by_cases sg : isSg (T (tkQ T sz p)) = true
        · rw [if_pos sg]
          have := of_decide_eq_true sg
          omega
        · rw [if_neg sg]; omega
theorem kcl_e {K x : Nat} (hK : K ≤ 3 ∨ (40 ≤ K ∧ K ≤ 62)) : (kcl K = 0 ↔ K = 0) ∧ (kcl K = 1 ↔ K = 2) ∧ (kcl K = 2 ↔ K = 3) ∧ (kcl K = 3 ↔ K = 1) ∧ (40 ≤ x → (kcl K = x ↔ K = x)) ∧ kcl K ≤ 62 := by
  unfold kcl
  by_cases c1 : K = 1
  · rw [if_pos c1]; omega
  · rw [if_neg c1]
    by_cases c2 : K = 2
    · rw [if_pos c2]; omega
    · rw [if_neg c2]
      by_cases c3 : K = 3
      · rw [if_pos c3]; omega
      · rw [if_neg c3]; omega
theorem kmd_e {K : Nat} (hK : K ≤ 3 ∨ (40 ≤ K ∧ K ≤ 62)) : (kmd K = 0 ↔ K = 0) ∧ (kmd K = 1 ↔ K = 1) ∧ (kmd K = 2 ↔ K = 2) ∧ (kmd K = 3 ↔ K = 3) ∧ (kmd K = 4 ↔ 3 < K) ∧ kmd K ≤ 4 := by
  unfold kmd
  by_cases c1 : K ≤ 3
  · rw [if_pos c1]; omega
  · rw [if_neg c1]; omega
theorem v_lt {B : Nat} (hB : 27 ≤ B) (hB2 : B ≤ 32) (hp : p ≤ sz) (hK : tkK T sz lim p = 2) : vB B T (tkA T sz lim p) (tkN T sz lim p - tkA T sz lim p) < 1125899906842625 := by
  obtain ⟨w1, w2, w3, w4⟩ := tk_word hp hK
  rw [vB_F]
  have h1 := vF_lt hB (tkN T sz lim p - tkA T sz lim p) (fun i hi => (w1 i hi).2.1)
  have h2 : B ^ (tkN T sz lim p - tkA T sz lim p) ≤ 32 ^ 10 := Nat.le_trans (Nat.pow_le_pow_left hB2 _) (Nat.pow_le_pow_right (by decide) w2)
  omega
theorem wl_lt {B : Nat} (hB : 27 ≤ B) (hB2 : B ≤ 32) {k : Nat} (hk : k < 26) : vF B (wlF k) (wlN k) < 1125899906842625 := by
  have h1 := vF_lt hB (wlN k) (fun i hi => (wl_26 hk hi).2)
  have h3 := (wl_ok k hk).1
  have h2 : B ^ wlN k ≤ 32 ^ 10 := Nat.le_trans (Nat.pow_le_pow_left hB2 _) (Nat.pow_le_pow_right (by decide) (by omega))
  omega
theorem s_120 {h : Hp} {k : Nat} (hF : Fix h) (hS : TS h T sz lim p) (hp : p ≤ sz) (hk : k < 26) : f_120 (some 31) (some k) h = some (bI (isW T sz lim p k), h) := by
  obtain ⟨t1, t2, t3, t4, t5⟩ := hS
  have kl := tkK_le (T := T) (sz := sz) (lim := lim) (p := p)
  have kc := kcl_e (x := 40) kl
  have k19 : hK h k = 19 := by
    rw [hF.2.1 k (by omega)]
    exact (show ∀ k, k < 26 → fkT.getD k 99 = 19 by decide) k hk
  rw [f_120, b_120_0, gI31 hF, Option.bind_some, t1]
  unfold isW
  by_cases c : tkK T sz lim p = 2
  · rw [if_neg (fun z => z (by rw [c]; rfl)), b_120_8, gJ31 hF, Option.bind_some, gJ_e k19, Option.bind_some, t4 c, (hF.2.2.2.2.1 k hk).1, wl_32 k hk, decide_eq_true c, Bool.true_and]
    have l1 := v_lt (B := 32) (by omega) (by omega) hp c
    have l2 := wl_lt (B := 32) (by omega) (by omega) hk
    obtain ⟨w1, w2, w3, w4⟩ := tk_word hp c
    have iff : vB 32 T (tkA T sz lim p) (tkN T sz lim p - tkA T sz lim p) = vF 32 (wlF k) (wlN k) ↔ vB 27 T (tkA T sz lim p) (tkN T sz lim p - tkA T sz lim p) = vF 27 (wlF k) (wlN k) := by
      rw [vB_F, vB_F]
      exact vF_iff (by omega) (by omega) (fun i hi => ⟨(w1 i hi).1, (w1 i hi).2.1⟩) (fun i hi => wl_26 hk hi)
    simp only [lc0, fb_lN_inj (show vB 32 T (tkA T sz lim p) (tkN T sz lim p - tkA T sz lim p) < 2 ^ 63 by omega) (show vF 32 (wlF k) (wlN k) < 2 ^ 63 by omega), iff]
    by_cases e : vB 27 T (tkA T sz lim p) (tkN T sz lim p - tkA T sz lim p) = vF 27 (wlF k) (wlN k)
    · rw [if_neg (fun z => z e), bI_T e]; rfl
    · rw [if_pos e, bI_F e]; rfl
  · rw [if_pos (fun z => c (kc.2.1.1 ((nI_eq (by omega) (by omega)).1 z))), decide_eq_false c, Bool.false_and]
    rfl
theorem s_193 {h : Hp} {k : Nat} (hF : Fix h) (hS : TM h T sz lim p) (hp : p ≤ sz) (hk : k < 26) : f_193 (some 64) (nI k) h = some (bI (isW T sz lim p (mw k)), h) := by
  obtain ⟨t1, t2, t3, t4, t5, t6⟩ := hS
  have kl := tkK_le (T := T) (sz := sz) (lim := lim) (p := p)
  have kc := kmd_e kl
  have mk := mw_lt hk
  rw [f_193, b_193_0, gI64 hF, Option.bind_some, t1]
  unfold isW
  by_cases c : tkK T sz lim p = 2
  · rw [if_neg (fun z => z (by rw [c]; rfl)), b_193_8, gJ64 hF, Option.bind_some, s_192 hk, Option.bind_some, t5 c, decide_eq_true c, Bool.true_and]
    have l1 := v_lt (B := 27) (by omega) (by omega) hp c
    have l2 := wl_lt (B := 27) (by omega) (by omega) mk
    simp only [lc0, fb_lN_inj (show vB 27 T (tkA T sz lim p) (tkN T sz lim p - tkA T sz lim p) < 2 ^ 63 by omega) (show vF 27 (wlF (mw k)) (wlN (mw k)) < 2 ^ 63 by omega)]
    by_cases e : vB 27 T (tkA T sz lim p) (tkN T sz lim p - tkA T sz lim p) = vF 27 (wlF (mw k)) (wlN (mw k))
    · rw [if_neg (fun z => z e), bI_T e]; rfl
    · rw [if_pos e, bI_F e]; rfl
  · rw [if_pos (fun z => c (kc.2.2.1.1 ((nI_eq (by omega) (by omega)).1 z))), decide_eq_false c, Bool.false_and]
    rfl
theorem s_194 {h : Hp} {x : Nat} (hF : Fix h) (hS : TM h T sz lim p) (hx : 40 ≤ x ∧ x ≤ 62) : f_194 (some 64) (nI x) h = some (bI (decide (tkK T sz lim p = x)), h) := by
  obtain ⟨t1, t2, t3, t4, t5, t6⟩ := hS
  have kl := tkK_le (T := T) (sz := sz) (lim := lim) (p := p)
  have kc := kmd_e kl
  rw [f_194, b_194_0, gI64 hF, Option.bind_some, t1]
  by_cases c : 3 < tkK T sz lim p
  · rw [if_neg (fun z => z (by rw [kc.2.2.2.2.1.2 c])), b_194_8, gI64 hF, Option.bind_some, t4 c]
    by_cases e : tkK T sz lim p = x
    · rw [if_neg (fun z => z (by rw [e])), bI_T e]; rfl
    · rw [if_pos (fun z => e ((nI_eq (by omega) (by omega)).1 z)), bI_F e]; rfl
  · rw [if_pos (fun z => c (kc.2.2.2.2.1.1 ((nI_eq (by omega) (by omega)).1 z))), bI_F (by omega)]
    rfl
end ISW
