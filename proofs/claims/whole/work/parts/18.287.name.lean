/-! names -/
def isCl (c : Nat) : Bool := decide (c = 119 ∨ c = 102 ∨ c = 116)
def clV (c : Nat) : Nat := if c = 119 then 2 else if c = 102 then 1 else if c = 116 then 3 else 0
/-- letters of cells alone -/
def alC (T : Nat → Nat) (a b : Nat) : Bool := !exB (fun i => !isCl (T i)) a (b - a)
def isNm (T : Nat → Nat) (sz lim p : Nat) : Bool := (decide (tkK T sz lim p = 2) && !alC T (tkA T sz lim p) (tkN T sz lim p)) && !exB (fun k => isW T sz lim p k) 0 26
section NAME
variable {T : Nat → Nat} {sz lim p : Nat}
theorem s_126 {h : Hp} {c : Nat} (hc : c < 256) : f_126 (nI c) h = some (mI (clV c), h) := by
  have ne : ∀ k, k < 256 → (nI c = nI k ↔ c = k) := fun k hk => nI_eq (by omega) (by omega)
  rw [f_126, b_126_0]
  unfold clV
  by_cases c1 : c = 119
  · rw [if_neg (fun z => z ((ne 119 (by omega)).2 c1)), if_pos c1]; rfl
  · rw [if_pos (fun z => c1 ((ne 119 (by omega)).1 z)), if_neg c1, b_126_8]
    by_cases c2 : c = 102
    · rw [if_neg (fun z => z ((ne 102 (by omega)).2 c2)), if_pos c2]; rfl
    · rw [if_pos (fun z => c2 ((ne 102 (by omega)).1 z)), if_neg c2, b_126_16]
      by_cases c3 : c = 116
      · rw [if_neg (fun z => z ((ne 116 (by omega)).2 c3)), if_pos c3]; rfl
      · rw [if_pos (fun z => c3 ((ne 116 (by omega)).1 z)), if_neg c3]; rfl
theorem clV_0 {c : Nat} : clV c = 0 ↔ isCl c = false := by
  unfold clV isCl
  rw [decide_eq_false_iff_not]
  by_cases c1 : c = 119
  · rw [if_pos c1]; omega
  · rw [if_neg c1]
    by_cases c2 : c = 102
    · rw [if_pos c2]; omega
    · rw [if_neg c2]
      by_cases c3 : c = 116
      · rw [if_pos c3]; omega
      · rw [if_neg c3]; omega
theorem clV_le (c : Nat) : clV c ≤ 3 := by
  unfold clV
  split
  · omega
  · split
    · omega
    · split <;> omega
theorem s_195 {h : Hp} {c : Nat} (hc : c < 256) : f_195 (nI c) h = some (bI (isCl c), h) := by
  have ne : ∀ k, k < 256 → (nI c = nI k ↔ c = k) := fun k hk => nI_eq (by omega) (by omega)
  rw [f_195, b_195_0]
  unfold isCl
  by_cases c1 : c = 119
  · rw [if_pos ((ne 119 (by omega)).2 c1), bI_T (by omega)]; rfl
  · rw [if_neg (fun z => c1 ((ne 119 (by omega)).1 z)), b_195_6]
    by_cases c2 : c = 102
    · rw [if_pos ((ne 102 (by omega)).2 c2), bI_T (by omega)]; rfl
    · rw [if_neg (fun z => c2 ((ne 102 (by omega)).1 z)), b_195_12]
      by_cases c3 : c = 116
      · rw [if_neg (fun z => z ((ne 116 (by omega)).2 c3)), bI_T (by omega)]; rfl
      · rw [if_pos (fun z => c3 ((ne 116 (by omega)).1 z)), bI_F (by omega)]; rfl
/-- taken words, by the class -/
theorem l_128 {h : Hp} (hF : Fix h) (hp : p ≤ sz) (hk2 : tkK T sz lim p = 2) : ∀ r k m, k + r = 26 → l_128_2 (r + 1 + m) (lN (vB 32 T (tkA T sz lim p) (tkN T sz lim p - tkA T sz lim p))) (nI k) h = some (bI (exB (fun k => isW T sz lim p k) k r), h) := by
  have l1 := v_lt (B := 32) (by omega) (by omega) hp hk2
  obtain ⟨w1, w2, w3, w4⟩ := tk_word hp hk2
  have al : aL (some 26) h = some (nI 26) := aL_e (K26 hF) (L26 hF) (by omega)
  intro r
  induction r with
  | zero =>
    intro k m hk
    obtain rfl : k = 26 := by omega
    rw [show 0 + 1 + m = m + 1 by omega, l_128_2, b_128_2, al, Option.bind_some, if_pos (Int32.le_refl _), b_128_31]
    rfl
  | succ r ih =>
    intro k m hk
    have l2 := wl_lt (B := 32) (by omega) (by omega) (show k < 26 by omega)
    have k19 : hK h k = 19 := by
      rw [hF.2.1 k (by omega)]
      exact (show ∀ k, k < 26 → fkT.getD k 99 = 19 by decide) k (by omega)
    have es : exB (fun k => isW T sz lim p k) k (r + 1) = (isW T sz lim p k || exB (fun k => isW T sz lim p k) (k + 1) r) := rfl
    have iff : vF 32 (wlF k) (wlN k) = vB 32 T (tkA T sz lim p) (tkN T sz lim p - tkA T sz lim p) ↔ vB 27 T (tkA T sz lim p) (tkN T sz lim p - tkA T sz lim p) = vF 27 (wlF k) (wlN k) := by
      rw [vB_F, vB_F]
      constructor
      · intro z
        exact (vF_iff (B := 32) (by omega) (by omega) (fun i hi => ⟨(w1 i hi).1, (w1 i hi).2.1⟩) (fun i hi => wl_26 (show k < 26 by omega) hi)).1 z.symm
      · intro z
        exact ((vF_iff (B := 32) (by omega) (by omega) (fun i hi => ⟨(w1 i hi).1, (w1 i hi).2.1⟩) (fun i hi => wl_26 (show k < 26 by omega) hi)).2 z).symm
    have rd : aQ (some 26) (nI k) h = some (some k) := by rw [aQ_e (by rw [K26 hF]; omega) (by rw [L26 hF]; omega) (by omega), (hF.2.2.2.2.1 k (by omega)).2]
    have e10 : b_128_10 (l_128_2 (r + 1 + m)) (lN (vB 32 T (tkA T sz lim p) (tkN T sz lim p - tkA T sz lim p))) (nI k) h = if ¬ vB 27 T (tkA T sz lim p) (tkN T sz lim p - tkA T sz lim p) = vF 27 (wlF k) (wlN k) then b_128_25 (l_128_2 (r + 1 + m)) (lN (vB 32 T (tkA T sz lim p) (tkN T sz lim p - tkA T sz lim p))) (nI k) h else b_128_23 h := by
      rw [b_128_10, rd, Option.bind_some, gJ_e k19, Option.bind_some, (hF.2.2.2.2.1 k (by omega)).1, wl_32 k (by omega)]
      simp only [lc0, fb_lN_inj (show vF 32 (wlF k) (wlN k) < 2 ^ 63 by omega) (show vB 32 T (tkA T sz lim p) (tkN T sz lim p - tkA T sz lim p) < 2 ^ 63 by omega), iff]
    have ew : isW T sz lim p k = decide (vB 27 T (tkA T sz lim p) (tkN T sz lim p - tkA T sz lim p) = vF 27 (wlF k) (wlN k)) := by unfold isW; rw [decide_eq_true hk2, Bool.true_and]
    rw [es, ew, show r + 1 + 1 + m = (r + 1 + m) + 1 by omega, l_128_2, b_128_2, al, Option.bind_some, if_neg (fun z => by have := (nI_leI (by omega) (by omega)).1 z; omega), e10]
    by_cases e : vB 27 T (tkA T sz lim p) (tkN T sz lim p - tkA T sz lim p) = vF 27 (wlF k) (wlN k)
    · rw [if_neg (fun z => z e), b_128_23, decide_eq_true e, Bool.true_or]
      rfl
    · rw [if_pos e, b_128_25, bnd_e, nI_add, decide_eq_false e, Bool.false_or]
      exact ih (k + 1) m (by omega)
theorem l_121 {h : Hp} (hF : Fix h) (hX : TX h T sz lim) (hN9 : hI h 31 9 = nI (tkN T sz lim p)) (hp : p ≤ sz) : ∀ r i m (b : Bool), i + r = tkN T sz lim p → l_121_7 (r + 1 + m) (some 31) (bI b) (nI i) h = b_121_44 (some 31) (bI (b && !exB (fun i => !isCl (T i)) i r)) h := by
  have nl := tkN_le (T := T) (lim := lim) hp
  obtain ⟨x1, x2, x3, x4, x5⟩ := hX
  intro r
  induction r with
  | zero =>
    intro i m b hi
    rw [show 0 + 1 + m = m + 1 by omega, l_121_7, b_121_7, gI31 hF, Option.bind_some, hN9, if_pos ((nI_leI (by omega) (by omega)).2 (by omega))]
    show _ = b_121_44 (some 31) (bI (b && !false)) h
    rw [Bool.not_false, Bool.and_true]
  | succ r ih =>
    intro i m b hi
    obtain ⟨tb, tl⟩ := x5 i (by omega)
    have es : exB (fun i => !isCl (T i)) i (r + 1) = (!isCl (T i) || exB (fun i => !isCl (T i)) (i + 1) r) := rfl
    have rd : aI 12 (some 32) (nI i) h = some (nI (T i)) := by rw [aI_n (K32 hF) (L32 hF) (show i < 940 by omega) (by omega), tb]
    have cl := clV_le (T i)
    have em : (mI (clV (T i)) = -1) = (isCl (T i) = false) := by
      apply propext
      rw [show (-1 : Int32) = mI 0 from rfl, mI_inj (by omega) (by omega), clV_0]
    have i0 := ih (i + 1) m false (by omega)
    have i1 := ih (i + 1) m true (by omega)
    rw [bI_f] at i0
    rw [bI_t] at i1
    rw [es, show r + 1 + 1 + m = (r + 1 + m) + 1 by omega, l_121_7, b_121_7, gI31 hF, Option.bind_some, hN9, if_neg (fun z => by have := (nI_leI (by omega) (by omega)).1 z; omega), b_121_15]
    cases b
    · rw [if_pos (show bI false = 0 from rfl), b_121_36, b_121_37, bnd_e, nI_add, i0]
      rfl
    · rw [if_neg (show ¬ bI true = 0 by decide), b_121_19, gQ31_0 hF, Option.bind_some, rd, Option.bind_some, s_126 (by omega), Option.bind_some]
      simp only [em]
      cases hc : isCl (T i)
      · rw [if_pos rfl, b_121_36, b_121_37, bnd_e, nI_add, i0]
        rfl
      · rw [if_neg (by decide), b_121_32, b_121_37, bnd_e, nI_add, i1]
        rfl
theorem s_121 {h : Hp} (hF : Fix h) (hX : TX h T sz lim) (hS : TS h T sz lim p) (hp : p ≤ sz) (hA : tkA T sz lim p ≤ tkN T sz lim p) : f_121 (some 31) h = some (bI (isNm T sz lim p), h) := by
  obtain ⟨t1, t2, t3, t4, t5⟩ := hS
  have nl := tkN_le (T := T) (lim := lim) hp
  have kl := tkK_le (T := T) (sz := sz) (lim := lim) (p := p)
  have kc := kcl_e (x := 40) kl
  have x3 := hX.2.2.1
  obtain ⟨m, hm⟩ := FU_ge (tkN T sz lim p - tkA T sz lim p + 1) (by omega)
  have li := l_121 (p := p) hF hX t3 hp (tkN T sz lim p - tkA T sz lim p) (tkA T sz lim p) m true (by omega)
  rw [bI_t, Bool.true_and] at li
  rw [f_121, b_121_0, bnd_e, gI31 hF, Option.bind_some, t2, hm, li, b_121_44, gI31 hF, Option.bind_some, t1]
  unfold isNm
  by_cases c : tkK T sz lim p = 2
  · rw [if_neg (fun z => z (by rw [c]; rfl)), b_121_52, decide_eq_true c, Bool.true_and]
    have ea : (!exB (fun i => !isCl (T i)) (tkA T sz lim p) (tkN T sz lim p - tkA T sz lim p)) = alC T (tkA T sz lim p) (tkN T sz lim p) := rfl
    rw [ea]
    cases hc : alC T (tkA T sz lim p) (tkN T sz lim p)
    · rw [if_neg (show ¬ ¬ bI false = 0 from fun z => z rfl), b_121_56, gJ31 hF, Option.bind_some, t4 c]
      obtain ⟨m2, hm2⟩ := FU_ge (26 + 1) (by omega)
      have e128 : f_128 (lN (vB 32 T (tkA T sz lim p) (tkN T sz lim p - tkA T sz lim p))) h = some (bI (exB (fun k => isW T sz lim p k) 0 26), h) := by
        rw [f_128, b_128_0, bnd_e, hm2]
        exact l_128 hF hp c 26 0 m2 (by omega)
      rw [e128, Option.bind_some]
      dsimp only
      cases exB (fun k => isW T sz lim p k) 0 26
      · rw [if_neg (show ¬ ¬ bI false = 0 from fun z => z rfl)]; rfl
      · rw [if_pos (show ¬ bI true = 0 by decide)]; rfl
    · rw [if_pos (show ¬ bI true = 0 by decide)]; rfl
  · rw [if_pos (fun z => c (kc.2.1.1 ((nI_eq (by omega) (by omega)).1 z))), decide_eq_false c]
    rfl
end NAME
