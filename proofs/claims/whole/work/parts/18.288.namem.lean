/-! names, the reference -/
section NAMEM
variable {T : Nat → Nat} {sz lim p : Nat}
theorem tkA_le (hp : p ≤ sz) : tkA T sz lim p ≤ tkN T sz lim p := by
  have h2 := tkE_le (T := T) hp
  unfold tkA tkN
  by_cases c : lim < sz ∧ lim ≤ tkQ T sz p
  · rw [if_pos c, if_pos c]; exact c.2
  · rw [if_neg c, if_neg c]
    split
    · omega
    · split <;> omega
theorem l_196 {h : Hp} (hF : Fix h) (hX : MX h T sz lim) (hN9 : hI h 64 5 = nI (tkN T sz lim p)) (hp : p ≤ sz) : ∀ r i m, i + r = tkN T sz lim p → l_196_5 (r + 1 + m) (some 64) (nI i) h = some (bI (!exB (fun i => !isCl (T i)) i r), h) := by
  have nl := tkN_le (T := T) (lim := lim) hp
  obtain ⟨x1, x2, x3, x4, x5⟩ := hX
  intro r
  induction r with
  | zero =>
    intro i m hi
    rw [show 0 + 1 + m = m + 1 by omega, l_196_5, b_196_5, gI64 hF, Option.bind_some, hN9, if_pos ((nI_leI (by omega) (by omega)).2 (by omega)), b_196_33]
    rfl
  | succ r ih =>
    intro i m hi
    obtain ⟨tb, tl⟩ := x5 i (by omega)
    have es : exB (fun i => !isCl (T i)) i (r + 1) = (!isCl (T i) || exB (fun i => !isCl (T i)) (i + 1) r) := rfl
    have rd : aI 12 (some 65) (nI i) h = some (nI (T i)) := by rw [aI_n (K65 hF) (L65 hF) (show i < 940 by omega) (by omega), tb]
    rw [es, show r + 1 + 1 + m = (r + 1 + m) + 1 by omega, l_196_5, b_196_5, gI64 hF, Option.bind_some, hN9, if_neg (fun z => by have := (nI_leI (by omega) (by omega)).1 z; omega), b_196_13, gQ64_1 hF, Option.bind_some, rd, Option.bind_some, s_195 (by omega), Option.bind_some]
    dsimp only
    cases hc : isCl (T i)
    · rw [if_neg (show ¬ ¬ bI false = 0 from fun z => z rfl), b_196_25]
      rfl
    · rw [if_pos (show ¬ bI true = 0 by decide), b_196_27, bnd_e, nI_add, ih (i + 1) m (by omega)]
      rfl
theorem s_196 {h : Hp} (hF : Fix h) (hX : MX h T sz lim) (hS : TM h T sz lim p) (hp : p ≤ sz) : f_196 (some 64) h = some (bI (alC T (tkA T sz lim p) (tkN T sz lim p)), h) := by
  obtain ⟨t1, t2, t3, t4, t5, t6⟩ := hS
  have nl := tkN_le (T := T) (lim := lim) hp
  have al := tkA_le (T := T) (lim := lim) hp
  have x3 := hX.2.2.1
  obtain ⟨m, hm⟩ := FU_ge (tkN T sz lim p - tkA T sz lim p + 1) (by omega)
  rw [f_196, b_196_0, gI64 hF, Option.bind_some, t2, hm, l_196 hF hX t3 hp (tkN T sz lim p - tkA T sz lim p) (tkA T sz lim p) m (by omega)]
  rfl
theorem l_197 {h : Hp} (hF : Fix h) (hp : p ≤ sz) (hk2 : tkK T sz lim p = 2) (hw : hJ h 64 12 = lN (vB 27 T (tkA T sz lim p) (tkN T sz lim p - tkA T sz lim p))) : ∀ r k m, k + r = 26 → l_197_19 (r + 1 + m) (some 64) (nI k) h = some (bI (!exB (fun k => isW T sz lim p (mw k)) k r), h) := by
  have l1 := v_lt (B := 27) (by omega) (by omega) hp hk2
  intro r
  induction r with
  | zero =>
    intro k m hk
    obtain rfl : k = 26 := by omega
    rw [show 0 + 1 + m = m + 1 by omega, l_197_19, b_197_19, if_pos (by decide), b_197_45]
    rfl
  | succ r ih =>
    intro k m hk
    have mk := mw_lt (show k < 26 by omega)
    have l2 := wl_lt (B := 27) (by omega) (by omega) mk
    have es : exB (fun k => isW T sz lim p (mw k)) k (r + 1) = (isW T sz lim p (mw k) || exB (fun k => isW T sz lim p (mw k)) (k + 1) r) := rfl
    have ew : isW T sz lim p (mw k) = decide (vB 27 T (tkA T sz lim p) (tkN T sz lim p - tkA T sz lim p) = vF 27 (wlF (mw k)) (wlN (mw k))) := by unfold isW; rw [decide_eq_true hk2, Bool.true_and]
    have e25 : b_197_25 (l_197_19 (r + 1 + m)) (some 64) (nI k) h = if ¬ vB 27 T (tkA T sz lim p) (tkN T sz lim p - tkA T sz lim p) = vF 27 (wlF (mw k)) (wlN (mw k)) then b_197_39 (l_197_19 (r + 1 + m)) (some 64) (nI k) h else b_197_37 h := by
      rw [b_197_25, gJ64 hF, Option.bind_some, s_192 (by omega), Option.bind_some, hw]
      simp only [lc0, fb_lN_inj (show vB 27 T (tkA T sz lim p) (tkN T sz lim p - tkA T sz lim p) < 2 ^ 63 by omega) (show vF 27 (wlF (mw k)) (wlN (mw k)) < 2 ^ 63 by omega)]
    rw [es, ew, show r + 1 + 1 + m = (r + 1 + m) + 1 by omega, l_197_19, b_197_19, if_neg (fun z => by have := (nI_ltI (by omega) (by omega)).1 z; omega), e25]
    by_cases e : vB 27 T (tkA T sz lim p) (tkN T sz lim p - tkA T sz lim p) = vF 27 (wlF (mw k)) (wlN (mw k))
    · rw [if_neg (fun z => z e), b_197_37, decide_eq_true e, Bool.true_or]
      rfl
    · rw [if_pos e, b_197_39, bnd_e, nI_add, decide_eq_false e, Bool.false_or]
      exact ih (k + 1) m (by omega)
theorem mw_ex (f : Nat → Bool) : exB (fun k => f (mw k)) 0 26 = exB f 0 26 := by
  have h1 : ∀ k, k < 26 → ∃ j, j < 26 ∧ mw j = k := by decide
  cases hx : exB f 0 26
  · rw [← Bool.not_eq_true, exB_iff]
    rintro ⟨k, _, k2, k3⟩
    rw [(exB_iff f 26 0).2 ⟨mw k, by omega, by have := mw_lt (show k < 26 by omega); omega, k3⟩] at hx
    cases hx
  · obtain ⟨k, _, k2, k3⟩ := (exB_iff _ _ _).1 hx
    obtain ⟨j, j1, j2⟩ := h1 k (by omega)
    rw [exB_iff]
    exact ⟨j, by omega, by omega, by show f (mw j) = true; rw [j2]; exact k3⟩
theorem s_197 {h : Hp} (hF : Fix h) (hX : MX h T sz lim) (hS : TM h T sz lim p) (hp : p ≤ sz) : f_197 (some 64) h = some (bI (isNm T sz lim p), h) := by
  obtain ⟨t1, t2, t3, t4, t5, t6⟩ := id hS
  have kl := tkK_le (T := T) (sz := sz) (lim := lim) (p := p)
  have kc := kmd_e kl
  rw [f_197, b_197_0, gI64 hF, Option.bind_some, t1]
  unfold isNm
  by_cases c : tkK T sz lim p = 2
  · rw [if_neg (fun z => z (by rw [c]; rfl)), b_197_8, rC64 hF, grd_e, Option.bind_some, s_196 hF hX hS hp, Option.bind_some, decide_eq_true c, Bool.true_and]
    dsimp only
    cases hc : alC T (tkA T sz lim p) (tkN T sz lim p)
    · obtain ⟨m2, hm2⟩ := FU_ge (26 + 1) (by omega)
      rw [if_pos (show bI false = 0 from rfl), b_197_17, bnd_e, hm2, l_197 hF hp c (t5 c) 26 0 m2 (by omega), mw_ex]
      rfl
    · rw [if_neg (show ¬ bI true = 0 by decide)]; rfl
  · rw [if_pos (fun z => c (kc.2.2.1.1 ((nI_eq (by omega) (by omega)).1 z))), decide_eq_false c]
    rfl
end NAMEM
