/-! what a hanging forces -/
def fi (p : Nat → Bool) : Nat → Nat → Nat
  | 0, _ => 0
  | r + 1, i => if p i = true then i + 1 else fi p r (i + 1)
theorem fi_s (p : Nat → Bool) (r i : Nat) : fi p (r + 1) i = if p i = true then i + 1 else fi p r (i + 1) := rfl
theorem fi_cg {p q : Nat → Bool} : ∀ r i, (∀ j, i ≤ j → j < i + r → p j = q j) → fi p r i = fi q r i := by
  intro r
  induction r with
  | zero => intro i _; rfl
  | succ r ih =>
    intro i h
    rw [fi_s, fi_s, h i (Nat.le_refl _) (by omega), ih (i + 1) (fun j h1 h2 => h j (by omega) (by omega))]
theorem fi_at {p : Nat → Bool} : ∀ r i, fi p r i = 0 ∨ ∃ e, fi p r i = e + 1 ∧ i ≤ e ∧ e < i + r ∧ p e = true := by
  intro r
  induction r with
  | zero => intro i; exact Or.inl rfl
  | succ r ih =>
    intro i
    rw [fi_s]
    cases hp : p i
    · rw [if_neg (by decide)]
      rcases ih (i + 1) with q | ⟨e, e1, e2, e3, e4⟩
      · exact Or.inl q
      · exact Or.inr ⟨e, e1, by omega, by omega, e4⟩
    · rw [if_pos rfl]
      exact Or.inr ⟨i, rfl, Nat.le_refl _, by omega, hp⟩
abbrev FC := (Nat → Nat → Bool) × Nat × Nat × (Nat → Nat) × (Nat → Nat)
def nfr (d0 : Nat) (L : Nat → Nat → Bool) (S k : Nat) : Nat → Bool := fun e => (decide (e ≠ d0) && !S.testBit e) && decide (fb_ct (L e) 4 = k)
def onl (q : Nat → Bool) : Nat := if q 0 = true then 0 else if q 1 = true then 1 else if q 2 = true then 2 else 3
def fcN (E : Nat → Nat) (d0 : Nat) (X : FC) : Nat := fi (nfr d0 X.1 X.2.1 1) (E 2) 0
def fcD (E : Nat → Nat) (d0 : Nat) (X : FC) : Nat := fi (nfr d0 X.1 X.2.1 0) (E 2) 0
def fcT (E : Nat → Nat) (X : FC) (e : Nat) : FC := (nxL E X.1 e (onl (X.1 e)), X.2.1 ||| 2 ^ e, X.2.2.1 + 1, upn X.2.2.2.1 X.2.2.1 e, upn X.2.2.2.2 e (onl (X.1 e)))
def fcR (E : Nat → Nat) (d0 : Nat) : Nat → FC → FC
  | 0, X => X
  | r + 1, X => if fcD E d0 X ≠ 0 ∨ fcN E d0 X = 0 then X else fcR E d0 r (fcT E X (fcN E d0 X - 1))
def fcI (E : Nat → Nat) (d0 : Nat) (X : FC) : Prop := X.2.1 < 2 ^ E 2 ∧ X.2.2.1 = fb_ct (fun e => X.2.1.testBit e) (E 2) ∧ (∀ i, i < X.2.2.1 → X.2.2.2.1 i < E 2) ∧
  ∀ e, X.2.1.testBit e = true → e < E 2 ∧ e ≠ d0 ∧ X.2.2.2.2 e < 4 ∧ X.1 e (X.2.2.2.2 e) = true ∧ ∀ f x, f ≠ e → X.1 f x = true → bit E e (X.2.2.2.2 e) f x = false
theorem onl_4 {q : Nat → Bool} (h : fb_ct q 4 = 1) : onl q < 4 ∧ q (onl q) = true ∧ mkM q 4 = 2 ^ onl q := by
  have e : mkM q 4 = (((0 ||| (if q 0 = true then 2 ^ 0 else 0)) ||| (if q 1 = true then 2 ^ 1 else 0)) ||| (if q 2 = true then 2 ^ 2 else 0)) ||| (if q 3 = true then 2 ^ 3 else 0) := rfl
  have f : fb_ct q 4 = (((0 + (if q 0 = true then 1 else 0)) + (if q 1 = true then 1 else 0)) + (if q 2 = true then 1 else 0)) + (if q 3 = true then 1 else 0) := rfl
  rw [f] at h
  rw [e]
  unfold onl
  cases h0 : q 0 <;> cases h1 : q 1 <;> cases h2 : q 2 <;> cases h3 : q 3 <;> rw [h0, h1, h2, h3] at h <;> simp at h <;> simp [h0, h1, h2, h3]
section FORCE
variable {τ : Nat → Nat} {E : Nat → Nat} {d0 : Nat} {X : FC}
theorem fcN_at (h : fcN E d0 X ≠ 0) : ∃ e, fcN E d0 X = e + 1 ∧ e < E 2 ∧ e ≠ d0 ∧ X.2.1.testBit e = false ∧ fb_ct (X.1 e) 4 = 1 := by
  rcases fi_at (p := nfr d0 X.1 X.2.1 1) (E 2) 0 with q | ⟨e, e1, e2, e3, e4⟩
  · exact absurd q h
  · unfold nfr at e4
    rw [Bool.and_eq_true, Bool.and_eq_true, Bool.not_eq_true', decide_eq_true_eq, decide_eq_true_eq] at e4
    exact ⟨e, e1, by omega, e4.1.1, e4.1.2, e4.2⟩
theorem fcI.lt (hI' : fcI E d0 X) {e : Nat} (he : e < E 2) (hS : X.2.1.testBit e = false) : X.2.2.1 < E 2 := by
  have u := fb_ct_upd (fun e => X.2.1.testBit e) true he
  have l := fb_ct_le (fun k => if k = e then true else X.2.1.testBit k) (E 2)
  have z := hI'.2.1
  simp only [hS] at u
  simp at u l
  omega
theorem fcI.T (h10 : E 2 ≤ 10) (hI' : fcI E d0 X) {e : Nat} (he : e < E 2) (hd : e ≠ d0) (hS : X.2.1.testBit e = false) (hc : fb_ct (X.1 e) 4 = 1) : fcI E d0 (fcT E X e) := by
  have lt := hI'.lt he hS
  obtain ⟨i1, i2, i3, i4⟩ := hI'
  obtain ⟨o1, o2, o3⟩ := onl_4 hc
  refine ⟨or_lt i1 (pw_lt he), ?_, fun i hi => ?_, fun f hf => ?_⟩
  · show X.2.2.1 + 1 = fb_ct (fun k => (X.2.1 ||| 2 ^ e).testBit k) (E 2)
    have u := fb_ct_upd (fun e => X.2.1.testBit e) true he
    have c : fb_ct (fun k => (X.2.1 ||| 2 ^ e).testBit k) (E 2) = fb_ct (fun k => if k = e then true else X.2.1.testBit k) (E 2) := fb_ct_cong (fun k _ => by
      rw [tb_or2]
      by_cases ck : k = e
      · simp [ck]
      · simp [ck])
    rw [c]
    simp only [hS] at u
    simp at u
    simp
    omega
  · have hi : i < X.2.2.1 + 1 := hi
    show upn X.2.2.2.1 X.2.2.1 e i < E 2
    unfold upn
    split
    · exact he
    · exact i3 i (by omega)
  · have hf : (X.2.1 ||| 2 ^ e).testBit f = true := hf
    rw [tb_or2, Bool.or_eq_true, decide_eq_true_eq] at hf
    show f < E 2 ∧ f ≠ d0 ∧ upn X.2.2.2.2 e (onl (X.1 e)) f < 4 ∧ nxL E X.1 e (onl (X.1 e)) f (upn X.2.2.2.2 e (onl (X.1 e)) f) = true ∧ ∀ f' x, f' ≠ f → nxL E X.1 e (onl (X.1 e)) f' x = true → bit E f (upn X.2.2.2.2 e (onl (X.1 e)) f) f' x = false
    unfold upn
    by_cases c : f = e
    · rw [if_pos c, c]
      refine ⟨he, hd, o1, ?_, fun f' x hx hb => ?_⟩
      · unfold nxL spr
        rw [o2]; simp
      · unfold nxL spr at hb
        rw [Bool.and_eq_true, Bool.or_eq_true, decide_eq_true_eq, Bool.not_eq_true'] at hb
        rcases hb.2 with z | z
        · exact absurd z.symm hx
        · exact z
    · rw [if_neg c]
      have hf : X.2.1.testBit f = true := by
        rcases hf with z | z
        · exact z
        · exact absurd z c
      obtain ⟨j1, j2, j3, j4, j5⟩ := i4 f hf
      refine ⟨j1, j2, j3, ?_, fun f' x hx hb => ?_⟩
      · have := j5 e (onl (X.1 e)) (fun z => c z.symm) o2
        unfold nxL spr
        rw [j4, bit_comm E e (onl (X.1 e)) f, this]
        simp
      · unfold nxL at hb
        rw [Bool.and_eq_true] at hb
        exact j5 f' x hx hb.1
theorem fcR_s (r : Nat) (X : FC) : fcR E d0 (r + 1) X = if fcD E d0 X ≠ 0 ∨ fcN E d0 X = 0 then X else fcR E d0 r (fcT E X (fcN E d0 X - 1)) := rfl
theorem s_24 {g : Nat} {h : Hp} (hg : g < 4) : f_24 (nI (2 ^ g)) h = some (nI g, h) := by
  obtain ⟨m, hm⟩ := FU_ge 4 (by omega)
  have st : ∀ j, j < 32 → nI (2 ^ g) >>> (nI j &&& 31) = nI (2 ^ g / 2 ^ j) := fun j hj => nI_shr (by have := pw_lt hg; omega) hj
  have key : ∀ r j m, j + r = g → l_24_2 (r + 1 + m) (nI (2 ^ g)) (nI j) h = some (nI g, h) := by
    intro r
    induction r with
    | zero =>
      intro j m hj
      obtain rfl : j = g := by omega
      rw [show 0 + 1 + m = m + 1 by omega, l_24_2, b_24_2]
      by_cases c : nI 3 ≤ nI j
      · rw [if_pos c, b_24_20]
      · rw [if_neg c, b_24_7, st j (by omega), Nat.div_self (Nat.two_pow_pos j), if_pos rfl, b_24_20]
    | succ r ih =>
      intro j m hj
      have ne : ¬ nI (2 ^ g / 2 ^ j) = nI 1 := by
        rw [show 2 ^ g = 2 ^ (g - j) * 2 ^ j by rw [← Nat.pow_add]; congr 1; omega, Nat.mul_div_cancel _ (Nat.two_pow_pos j)]
        have h1 : 2 ^ 1 ≤ 2 ^ (g - j) := Nat.pow_le_pow_right (by decide) (by omega)
        have h2 : 2 ^ (g - j) ≤ 2 ^ 4 := Nat.pow_le_pow_right (by decide) (by omega)
        rw [nI_eq (by omega) (by omega)]
        omega
      rw [show r + 1 + 1 + m = (r + 1 + m) + 1 by omega, l_24_2, b_24_2, if_neg (by rw [nI_leI (by omega) (by omega)]; omega), b_24_7, st j (by omega), if_neg ne, b_24_14, bnd_e, nI_add]
      exact ih (j + 1) m (by omega)
  obtain ⟨m2, hm2⟩ := FU_ge (g + 1) (by omega)
  rw [f_24, b_24_0, bnd_e, hm2]
  exact key g 0 m2 (by omega)
theorem l_23 {h : Hp} {k S : Nat} {L : Nat → Nat → Bool} (hF : Fix h) (h10 : E 2 ≤ 10) (hd : d0 < E 2) (hk : k ≤ 1) (hS : hI h 48 3 = nI S) (hS2 : S < 1024) : ∀ r i m, i + r = E 2 → l_23_3 (r + 1 + m) (some 48) (nI k) (lN (maskL (E 2) L)) (nI d0) (nI (E 2)) (nI i) h = some (mI (fi (nfr d0 L S k) r i), h) := by
  intro r
  induction r with
  | zero =>
    intro i m hi
    obtain rfl : i = E 2 := by omega
    rw [show 0 + 1 + m = m + 1 by omega, l_23_3, b_23_3, if_pos (Int32.le_refl _), b_23_63]
    rfl
  | succ r ih =>
    intro i m hi
    have ih' := ih (i + 1) m (by omega)
    have nx : nfr d0 L S k i = false → b_23_57 (l_23_3 (r + 1 + m)) (some 48) (nI k) (lN (maskL (E 2) L)) (nI d0) (nI (E 2)) (nI i) h = some (mI (fi (nfr d0 L S k) (r + 1) i), h) := by
      intro z
      rw [fi_s, z, if_neg (by decide), b_23_57, bnd_e, nI_add]
      exact ih'
    rw [show r + 1 + 1 + m = (r + 1 + m) + 1 by omega, l_23_3, b_23_3, if_neg (by rw [nI_leI (by omega) (by omega)]; omega), b_23_10]
    simp (disch := first | assumption | (repeat' (first | apply fx_sI | apply fx_sJ | assumption | omega))) only [nI_eq]
    by_cases c : i = d0
    · rw [if_pos c, b_23_33, b_23_34, if_pos (show nI 0 = 0 from rfl)]
      exact nx (by unfold nfr; simp [c])
    · rw [if_neg c, b_23_17]
      simp (disch := first | assumption | (repeat' (first | apply fx_sI | apply fx_sJ | assumption | omega))) only [bnd_e, grd_e, grd0, grd1, Option.bind_some, Option.isSome_some, gQ30_0, gQ30_1, gQ30_2, gQ30_3, gQ30_4, gQ30_5, gQ30_6, gQ30_7, gQ30_8, gQ30_9, gQ31_0, gQ33_0, gQ33_1, gQ36_0, gQ36_1, gQ39_0, gQ39_3, gQ39_4, gQ39_6, gQ39_8, gQ39_10, gQ39_11, gQ39_12, gQ48_0, gQ48_1, gQ51_2, gQ53_0, gQ53_1, gQ60_0, gQ60_1, gQ60_2, gQ64_1, gQ64_14, gQ64_15, gQ64_16, gQ64_17, gQ64_18, gQ64_19, gQ64_20, gQ64_21, gQ64_24, gQ64_25, gQ64_27, gQ64_28, gQ64_29, gQ64_30, gQ64_31, gQ64_34, gQ64_35, gQ64_36, gQ64_39, gQ64_40, gQ64_41, gQ64_43, gQ64_44, gQ64_48, gQ64_50, gQ64_51, gQ64_52, gQ64_53, gQ64_54, gQ64_58, gQ64_59, gI30, gJ30, pI30, pJ30, rC30, gI31, gJ31, pI31, pJ31, rC31, gI33, gJ33, pI33, pJ33, rC33, gI36, gJ36, pI36, pJ36, rC36, gI39, gJ39, pI39, pJ39, rC39, gI48, gJ48, pI48, pJ48, rC48, gI51, gJ51, pI51, pJ51, rC51, gI53, gJ53, pI53, pJ53, rC53, gI60, gJ60, pI60, pJ60, rC60, gI64, gJ64, pI64, pJ64, rC64, hF, hS, nI_has0 (show S < 2147483648 by omega) (show i < 32 by omega)]
      cases hs : S.testBit i
      · rw [if_neg (fun z => z rfl), b_23_29, b_23_34, if_neg nI10, b_23_41]
        have b16 : mkM (L i) 4 < 16 := mkM_lt (L i) 4
        have fl := fb_ct_le (L i) 4
        simp (disch := first | assumption | (repeat' (first | apply fx_sI | apply fx_sJ | assumption | omega))) only [s_30L h10 (show i < E 2 by omega), Option.bind_some, s_302 (show mkM (L i) 4 < 1024 by omega), pc4, nI_eq]
        by_cases ck : fb_ct (L i) 4 = k
        · rw [if_neg (fun z => z ck), b_23_54, fi_s, if_pos (by unfold nfr; simp [c, hs, ck])]
          rfl
        · rw [if_pos ck]
          exact nx (by unfold nfr; simp [ck])
      · rw [if_pos (by decide), b_23_33, b_23_34, if_pos (show nI 0 = 0 from rfl)]
        exact nx (by unfold nfr; simp [hs])
theorem s_23 {h : Hp} {k S : Nat} {L : Nat → Nat → Bool} (hF : Fix h) (h10 : E 2 ≤ 10) (hd : d0 < E 2) (hk : k ≤ 1) (hS : hI h 48 3 = nI S) (hS2 : S < 1024) : f_23 (some 48) (nI k) (lN (maskL (E 2) L)) (nI d0) (nI (E 2)) h = some (mI (fi (nfr d0 L S k) (E 2) 0), h) := by
  obtain ⟨m, hm⟩ := FU_ge (E 2 + 1) (by omega)
  rw [f_23, b_23_0, bnd_e, hm, l_23 hF h10 hd hk hS hS2 (E 2) 0 m (by omega)]
/-- the class's Forcing -/
def CF (h : Hp) (X : FC) (dd : Nat) : Prop := hI h 48 2 = nI X.2.2.1 ∧ hI h 48 3 = nI X.2.1 ∧ (∀ i, i < X.2.2.1 → hI h 49 i = nI (X.2.2.2.1 i)) ∧ (∀ e, X.2.1.testBit e = true → hI h 50 e = nI (X.2.2.2.2 e)) ∧ hI h 48 4 = mI dd
theorem fiN_le (p : Nat → Bool) (n : Nat) : fi p n 0 ≤ n := by
  rcases fi_at (p := p) n 0 with q | ⟨e, e1, e2, e3, e4⟩ <;> omega
theorem l_22 (hT : TG τ) (h10 : E 2 ≤ 10) (hd : d0 < E 2) : ∀ r (X : FC) m h, X.2.2.1 + r = E 2 → Fix h → HgH τ h E → fcI E d0 X → CF h X (fcD E d0 X) →
    ∃ g, l_22_62 (r + 1 + m) (some 48) (some 39) (nI d0) (nI (E 2)) (lN (maskL (E 2) X.1)) (mI (fcN E d0 X)) h = some g ∧ Fz [48, 49, 50] h g ∧ fcI E d0 (fcR E d0 r X) ∧ CF g (fcR E d0 r X) (fcD E d0 (fcR E d0 r X)) ∧ (fcD E d0 (fcR E d0 r X) ≠ 0 ∨ fcN E d0 (fcR E d0 r X) = 0) := by
  intro r
  induction r with
  | zero =>
    intro X m h hz hF hG hI' hC
    have stop : fcN E d0 X = 0 := by
      apply Classical.byContradiction
      intro c
      obtain ⟨e, e1, e2, e3, e4, e5⟩ := fcN_at c
      have := hI'.lt e2 e4
      omega
    refine ⟨h, ?_, Fz.rfl', hI', hC, Or.inr stop⟩
    obtain ⟨c1, c2, c3, c4, c5⟩ := hC
    have dl : fcD E d0 X ≤ E 2 := fiN_le _ _
    have e0 : (mI (fcD E d0 X) = -1) = (fcD E d0 X = 0) := propext (by rw [show (-1 : Int32) = mI 0 from rfl, mI_inj (by omega) (by omega)])
    rw [show 0 + 1 + m = m + 1 by omega, l_22_62, b_22_62]
    simp (disch := first | assumption | (repeat' (first | apply fx_sI | apply fx_sJ | assumption | omega))) only [bnd_e, grd_e, grd0, grd1, Option.bind_some, Option.isSome_some, gQ30_0, gQ30_1, gQ30_2, gQ30_3, gQ30_4, gQ30_5, gQ30_6, gQ30_7, gQ30_8, gQ30_9, gQ31_0, gQ33_0, gQ33_1, gQ36_0, gQ36_1, gQ39_0, gQ39_3, gQ39_4, gQ39_6, gQ39_8, gQ39_10, gQ39_11, gQ39_12, gQ48_0, gQ48_1, gQ51_2, gQ53_0, gQ53_1, gQ60_0, gQ60_1, gQ60_2, gQ64_1, gQ64_14, gQ64_15, gQ64_16, gQ64_17, gQ64_18, gQ64_19, gQ64_20, gQ64_21, gQ64_24, gQ64_25, gQ64_27, gQ64_28, gQ64_29, gQ64_30, gQ64_31, gQ64_34, gQ64_35, gQ64_36, gQ64_39, gQ64_40, gQ64_41, gQ64_43, gQ64_44, gQ64_48, gQ64_50, gQ64_51, gQ64_52, gQ64_53, gQ64_54, gQ64_58, gQ64_59, gI30, gJ30, pI30, pJ30, rC30, gI31, gJ31, pI31, pJ31, rC31, gI33, gJ33, pI33, pJ33, rC33, gI36, gJ36, pI36, pJ36, rC36, gI39, gJ39, pI39, pJ39, rC39, gI48, gJ48, pI48, pJ48, rC48, gI51, gJ51, pI51, pJ51, rC51, gI53, gJ53, pI53, pJ53, rC53, gI60, gJ60, pI60, pJ60, rC60, gI64, gJ64, pI64, pJ64, rC64, hF, c5, e0]
    by_cases c : fcD E d0 X = 0
    · rw [if_neg (fun z => z c), b_22_70, if_pos (by rw [stop]; rfl), b_22_187]
    · rw [if_pos c, b_22_187]
  | succ r ih =>
    intro X m h hz hF hG hI' hC
    obtain ⟨c1, c2, c3, c4, c5⟩ := id hC
    have dl : fcD E d0 X ≤ E 2 := fiN_le _ _
    have nl : fcN E d0 X ≤ E 2 := fiN_le _ _
    have e0 : (mI (fcD E d0 X) = -1) = (fcD E d0 X = 0) := propext (by rw [show (-1 : Int32) = mI 0 from rfl, mI_inj (by omega) (by omega)])
    have e1 : (mI (fcN E d0 X) = -1) = (fcN E d0 X = 0) := propext (by rw [show (-1 : Int32) = mI 0 from rfl, mI_inj (by omega) (by omega)])
    rw [fcR_s, show r + 1 + 1 + m = (r + 1 + m) + 1 by omega, l_22_62, b_22_62]
    simp (disch := first | assumption | (repeat' (first | apply fx_sI | apply fx_sJ | assumption | omega))) only [bnd_e, grd_e, grd0, grd1, Option.bind_some, Option.isSome_some, gQ30_0, gQ30_1, gQ30_2, gQ30_3, gQ30_4, gQ30_5, gQ30_6, gQ30_7, gQ30_8, gQ30_9, gQ31_0, gQ33_0, gQ33_1, gQ36_0, gQ36_1, gQ39_0, gQ39_3, gQ39_4, gQ39_6, gQ39_8, gQ39_10, gQ39_11, gQ39_12, gQ48_0, gQ48_1, gQ51_2, gQ53_0, gQ53_1, gQ60_0, gQ60_1, gQ60_2, gQ64_1, gQ64_14, gQ64_15, gQ64_16, gQ64_17, gQ64_18, gQ64_19, gQ64_20, gQ64_21, gQ64_24, gQ64_25, gQ64_27, gQ64_28, gQ64_29, gQ64_30, gQ64_31, gQ64_34, gQ64_35, gQ64_36, gQ64_39, gQ64_40, gQ64_41, gQ64_43, gQ64_44, gQ64_48, gQ64_50, gQ64_51, gQ64_52, gQ64_53, gQ64_54, gQ64_58, gQ64_59, gI30, gJ30, pI30, pJ30, rC30, gI31, gJ31, pI31, pJ31, rC31, gI33, gJ33, pI33, pJ33, rC33, gI36, gJ36, pI36, pJ36, rC36, gI39, gJ39, pI39, pJ39, rC39, gI48, gJ48, pI48, pJ48, rC48, gI51, gJ51, pI51, pJ51, rC51, gI53, gJ53, pI53, pJ53, rC53, gI60, gJ60, pI60, pJ60, rC60, gI64, gJ64, pI64, pJ64, rC64, hF, c5, e0]
    by_cases c : fcD E d0 X = 0
    · rw [if_neg (fun z => z c), b_22_70]
      simp only [e1]
      by_cases cn : fcN E d0 X = 0
      · rw [if_pos cn, if_pos (Or.inr cn), b_22_187]
        exact ⟨h, rfl, Fz.rfl', hI', hC, Or.inr cn⟩
      · rw [if_neg cn, if_neg (show ¬ (fcD E d0 X ≠ 0 ∨ fcN E d0 X = 0) from fun z => z.elim (fun y => y c) cn), b_22_76]
        obtain ⟨e, q1, q2, q3, q4, q5⟩ := fcN_at cn
        have zl := hI'.lt q2 q4
        obtain ⟨o1, o2, o3⟩ := onl_4 q5
        have IT := hI'.T h10 q2 q3 q4 q5
        rw [q1, show e + 1 - 1 = e by omega, mI_s]
        simp (disch := first | assumption | (repeat' (first | apply fx_sI | apply fx_sJ | assumption | omega))) only [bnd_e, grd_e, grd0, grd1, Option.bind_some, Option.isSome_some, gQ30_0, gQ30_1, gQ30_2, gQ30_3, gQ30_4, gQ30_5, gQ30_6, gQ30_7, gQ30_8, gQ30_9, gQ31_0, gQ33_0, gQ33_1, gQ36_0, gQ36_1, gQ39_0, gQ39_3, gQ39_4, gQ39_6, gQ39_8, gQ39_10, gQ39_11, gQ39_12, gQ48_0, gQ48_1, gQ51_2, gQ53_0, gQ53_1, gQ60_0, gQ60_1, gQ60_2, gQ64_1, gQ64_14, gQ64_15, gQ64_16, gQ64_17, gQ64_18, gQ64_19, gQ64_20, gQ64_21, gQ64_24, gQ64_25, gQ64_27, gQ64_28, gQ64_29, gQ64_30, gQ64_31, gQ64_34, gQ64_35, gQ64_36, gQ64_39, gQ64_40, gQ64_41, gQ64_43, gQ64_44, gQ64_48, gQ64_50, gQ64_51, gQ64_52, gQ64_53, gQ64_54, gQ64_58, gQ64_59, gI30, gJ30, pI30, pJ30, rC30, gI31, gJ31, pI31, pJ31, rC31, gI33, gJ33, pI33, pJ33, rC33, gI36, gJ36, pI36, pJ36, rC36, gI39, gJ39, pI39, pJ39, rC39, gI48, gJ48, pI48, pJ48, rC48, gI51, gJ51, pI51, pJ51, rC51, gI53, gJ53, pI53, pJ53, rC53, gI60, gJ60, pI60, pJ60, rC60, gI64, gJ64, pI64, pJ64, rC64, hF, c1, nI_leI, show ¬ 10 ≤ X.2.2.1 by omega, if_false]
        rw [b_22_85]
        have sl : X.2.1 < 1024 := by
          have := hI'.1
          have h2 : 2 ^ E 2 ≤ 2 ^ 10 := Nat.pow_le_pow_right (by decide) h10
          omega
        have sl2 : X.2.1 ||| 2 ^ e < 1024 := or_lt (k := 10) sl (pw_lt (by omega))
        generalize hg : onl (X.1 e) = g0 at *
        generalize x1 : sI h 50 e (nI g0) = h1
        generalize x2 : sI h1 49 X.2.2.1 (nI e) = h2
        generalize x3 : sI h2 48 2 (nI (X.2.2.1 + 1)) = h3
        generalize x4 : sI h3 48 3 (nI (X.2.1 ||| 2 ^ e)) = h4
        have F1 : Fix h1 := by rw [← x1]; exact fx_sI hF (by omega)
        have F2 : Fix h2 := by rw [← x2]; exact fx_sI F1 (by omega)
        have F3 : Fix h3 := by rw [← x3]; exact fx_sI F2 (by omega)
        have F4 : Fix h4 := by rw [← x4]; exact fx_sI F3 (by omega)
        have z4 : Fz [48, 49, 50] h h4 := by
          rw [← x4, ← x3, ← x2, ← x1]
          exact Fz.sI (Fz.sI (Fz.sI (Fz.sI Fz.rfl' (Or.inl (by simp))) (Or.inl (by simp))) (Or.inl (by simp))) (Or.inl (by simp))
        have G4 := hG.cz hT z4 (by decide) (by decide) (by decide) (by decide)
        have v2 : hI h1 48 2 = nI X.2.2.1 := by rw [← x1, hI_sI, if_neg (by omega)]; exact c1
        have v2' : hI h2 48 2 = nI X.2.2.1 := by rw [← x2, hI_sI, if_neg (by omega)]; exact v2
        have v3 : hI h3 48 3 = nI X.2.1 := by rw [← x3, hI_sI, if_neg (by omega), ← x2, hI_sI, if_neg (by omega), ← x1, hI_sI, if_neg (by omega)]; exact c2
        have v50 : hI h4 50 e = nI g0 := by rw [← x4, hI_sI, if_neg (by omega), ← x3, hI_sI, if_neg (by omega), ← x2, hI_sI, if_neg (by omega), ← x1, hI_sI, if_pos ⟨rfl, rfl⟩]
        have v43 : hI h4 48 3 = nI (X.2.1 ||| 2 ^ e) := by rw [← x4, hI_sI, if_pos ⟨rfl, rfl⟩]
        have TT : fcT E X e = (nxL E X.1 e g0, X.2.1 ||| 2 ^ e, X.2.2.1 + 1, upn X.2.2.2.1 X.2.2.1 e, upn X.2.2.2.2 e g0) := by unfold fcT; rw [hg]
        have d23 : f_23 (some 48) (nI 0) (lN (maskL (E 2) (nxL E X.1 e g0))) (nI d0) (nI (E 2)) h4 = some (mI (fcD E d0 (fcT E X e)), h4) := by
          rw [s_23 F4 h10 hd (by omega) v43 sl2, TT]; rfl
        generalize x5 : sI h4 48 4 (mI (fcD E d0 (fcT E X e))) = h5
        have F5 : Fix h5 := by rw [← x5]; exact fx_sI F4 (by omega)
        have z5 : Fz [48, 49, 50] h4 h5 := by rw [← x5]; exact Fz.sI Fz.rfl' (Or.inl (by simp))
        have G5 := G4.cz hT z5 (by decide) (by decide) (by decide) (by decide)
        have v53 : hI h5 48 3 = nI (X.2.1 ||| 2 ^ e) := by rw [← x5, hI_sI, if_neg (by omega)]; exact v43
        have n23 : f_23 (some 48) (nI 1) (lN (maskL (E 2) (nxL E X.1 e g0))) (nI d0) (nI (E 2)) h5 = some (mI (fcN E d0 (fcT E X e)), h5) := by
          rw [s_23 F5 h10 hd (by omega) v53 sl2, TT]; rfl
        have i5 : ∀ a j, a ≠ 48 ∨ (j ≠ 2 ∧ j ≠ 3 ∧ j ≠ 4) → a ≠ 49 ∨ j ≠ X.2.2.1 → a ≠ 50 ∨ j ≠ e → hI h5 a j = hI h a j := by
          intro a j p1 p2 p3
          rw [← x5, hI_sI, if_neg (by omega), ← x4, hI_sI, if_neg (by omega), ← x3, hI_sI, if_neg (by omega), ← x2, hI_sI, if_neg (by omega), ← x1, hI_sI, if_neg (by omega)]
        have C5 : CF h5 (fcT E X e) (fcD E d0 (fcT E X e)) := by
          refine ⟨?_, ?_, fun i hi => ?_, fun f hf => ?_, by rw [← x5, hI_sI, if_pos ⟨rfl, rfl⟩]⟩
          · rw [← x5, hI_sI, if_neg (by omega), ← x4, hI_sI, if_neg (by omega), ← x3, hI_sI, if_pos ⟨rfl, rfl⟩, TT]
          · rw [v53, TT]
          · rw [TT] at hi ⊢
            have hi : i < X.2.2.1 + 1 := hi
            show hI h5 49 i = nI (upn X.2.2.2.1 X.2.2.1 e i)
            unfold upn
            by_cases ci : i = X.2.2.1
            · rw [if_pos ci, ci, ← x5, hI_sI, if_neg (by omega), ← x4, hI_sI, if_neg (by omega), ← x3, hI_sI, if_neg (by omega), ← x2, hI_sI, if_pos ⟨rfl, rfl⟩]
            · rw [if_neg ci, i5 49 i (by omega) (by omega) (by omega)]; exact c3 i (by omega)
          · rw [TT] at hf ⊢
            have hf : (X.2.1 ||| 2 ^ e).testBit f = true := hf
            show hI h5 50 f = nI (upn X.2.2.2.2 e g0 f)
            unfold upn
            by_cases cf : f = e
            · rw [if_pos cf, cf, ← x5, hI_sI, if_neg (by omega)]; exact v50
            · rw [if_neg cf, i5 50 f (by omega) (by omega) (by omega)]
              apply c4
              rw [tb_or2, Bool.or_eq_true, decide_eq_true_eq] at hf
              rcases hf with z | z
              · exact z
              · exact absurd z cf
        have zT : (fcT E X e).2.2.1 = X.2.2.1 + 1 := by rw [TT]
        obtain ⟨g, b1, b2, b3, b4, b5⟩ := ih (fcT E X e) m h5 (by omega) F5 G5 IT C5
        refine ⟨g, ?_, (z4.then z5).then b2, b3, b4, b5⟩
        have LT1 : (fcT E X e).1 = nxL E X.1 e g0 := by rw [TT]
        rw [LT1] at b1
        have w1 : wI (some 50) (nI e) (nI g0) h = some h1 := by rw [wI_n (K50 hF) (by omega) (L50 hF) (show e < 10 by omega) (by omega), x1]
        have w2 : wI (some 49) (nI X.2.2.1) (nI e) h1 = some h2 := by rw [wI_n (K49 F1) (by omega) (L49 F1) (show X.2.2.1 < 10 by omega) (by omega), x2]
        have sp := G4.2.2.2 (4 * e + g0) (show 4 * e + g0 < 4 * E 2 by omega)
        simp (disch := first | assumption | (repeat' (first | apply fx_sI | apply fx_sJ | assumption | omega))) only [bnd_e, grd_e, grd0, grd1, Option.bind_some, Option.isSome_some, gQ30_0, gQ30_1, gQ30_2, gQ30_3, gQ30_4, gQ30_5, gQ30_6, gQ30_7, gQ30_8, gQ30_9, gQ31_0, gQ33_0, gQ33_1, gQ36_0, gQ36_1, gQ39_0, gQ39_3, gQ39_4, gQ39_6, gQ39_8, gQ39_10, gQ39_11, gQ39_12, gQ48_0, gQ48_1, gQ51_2, gQ53_0, gQ53_1, gQ60_0, gQ60_1, gQ60_2, gQ64_1, gQ64_14, gQ64_15, gQ64_16, gQ64_17, gQ64_18, gQ64_19, gQ64_20, gQ64_21, gQ64_24, gQ64_25, gQ64_27, gQ64_28, gQ64_29, gQ64_30, gQ64_31, gQ64_34, gQ64_35, gQ64_36, gQ64_39, gQ64_40, gQ64_41, gQ64_43, gQ64_44, gQ64_48, gQ64_50, gQ64_51, gQ64_52, gQ64_53, gQ64_54, gQ64_58, gQ64_59, gI30, gJ30, pI30, pJ30, rC30, gI31, gJ31, pI31, pJ31, rC31, gI33, gJ33, pI33, pJ33, rC33, gI36, gJ36, pI36, pJ36, rC36, gI39, gJ39, pI39, pJ39, rC39, gI48, gJ48, pI48, pJ48, rC48, gI51, gJ51, pI51, pJ51, rC51, gI53, gJ53, pI53, pJ53, rC53, gI60, gJ60, pI60, pJ60, rC60, gI64, gJ64, pI64, pJ64, rC64, hF, s_30L h10 (show e < E 2 by omega), o3, s_24 o1, w1, F1, v2, w2, F2, v2', nI_add, x3, F3, v3, nI_1shl (show e < 31 by omega), fa_or, x4, F4, aI_n (K50 F4) (L50 F4), v50, pk_mul, aJ_n (K40 F4) (L40 F4), sp, fb_andL, nx_msk o1, d23, x5, F5, n23]
        exact b1
    · rw [if_pos c, if_pos (Or.inl c), b_22_187]
      exact ⟨h, rfl, Fz.rfl', hI', hC, Or.inl c⟩
def fc0 (E : Nat → Nat) (d0 h0 : Nat) : FC := (nxL E (fitL E) d0 h0, 0, 0, fun _ => 0, fun _ => 0)
def fcE (E : Nat → Nat) (d0 h0 : Nat) : FC := fcR E d0 (E 2) (fc0 E d0 h0)
theorem fc0_I {h0 : Nat} : fcI E d0 (fc0 E d0 h0) := by
  refine ⟨Nat.two_pow_pos _, ?_, fun i hi => absurd hi (Nat.not_lt_zero i), fun e he => ?_⟩
  · show 0 = fb_ct (fun e => (0 : Nat).testBit e) (E 2)
    symm
    rw [fb_ct_zero]
    intro k _
    exact Nat.zero_testBit k
  · have he : (0 : Nat).testBit e = true := he
    rw [Nat.zero_testBit] at he
    cases he
theorem s_22 {h : Hp} {h0 : Nat} (hF : Fix h) (hT : TG τ) (hG : HgH τ h E) (h10 : E 2 ≤ 10) (hd : d0 < E 2) (hh : h0 < 4) :
    ∃ g, f_22 (some 48) (some 39) (nI d0) (nI h0) h = some g ∧ Fz [48, 49, 50] h g ∧ fcI E d0 (fcE E d0 h0) ∧ CF g (fcE E d0 h0) (fcD E d0 (fcE E d0 h0)) ∧ (fcD E d0 (fcE E d0 h0) ≠ 0 ∨ fcN E d0 (fcE E d0 h0) = 0) := by
  generalize x1 : sI h 48 2 (nI 0) = h1
  generalize x2 : sI h1 48 3 (nI 0) = h2
  have F1 : Fix h1 := by rw [← x1]; exact fx_sI hF (by omega)
  have F2 : Fix h2 := by rw [← x2]; exact fx_sI F1 (by omega)
  have v23 : hI h2 48 3 = nI 0 := by rw [← x2, hI_sI, if_pos ⟨rfl, rfl⟩]
  have d23 : f_23 (some 48) (nI 0) (lN (maskL (E 2) (nxL E (fitL E) d0 h0))) (nI d0) (nI (E 2)) h2 = some (mI (fcD E d0 (fc0 E d0 h0)), h2) := s_23 (S := 0) F2 h10 hd (by omega) v23 (by omega)
  generalize x3 : sI h2 48 4 (mI (fcD E d0 (fc0 E d0 h0))) = h3
  have F3 : Fix h3 := by rw [← x3]; exact fx_sI F2 (by omega)
  have v33 : hI h3 48 3 = nI 0 := by rw [← x3, hI_sI, if_neg (by omega)]; exact v23
  have n23 : f_23 (some 48) (nI 1) (lN (maskL (E 2) (nxL E (fitL E) d0 h0))) (nI d0) (nI (E 2)) h3 = some (mI (fcN E d0 (fc0 E d0 h0)), h3) := s_23 (S := 0) F3 h10 hd (by omega) v33 (by omega)
  have z3 : Fz [48, 49, 50] h h3 := by
    rw [← x3, ← x2, ← x1]
    exact Fz.sI (Fz.sI (Fz.sI Fz.rfl' (Or.inl (by simp))) (Or.inl (by simp))) (Or.inl (by simp))
  have G3 := hG.cz hT z3 (by decide) (by decide) (by decide) (by decide)
  have C3 : CF h3 (fc0 E d0 h0) (fcD E d0 (fc0 E d0 h0)) := by
    refine ⟨?_, v33, fun i hi => absurd hi (Nat.not_lt_zero i), fun e he => ?_, by rw [← x3, hI_sI, if_pos ⟨rfl, rfl⟩]⟩
    · rw [← x3, hI_sI, if_neg (by omega), ← x2, hI_sI, if_neg (by omega), ← x1, hI_sI, if_pos ⟨rfl, rfl⟩]; rfl
    · have he : (0 : Nat).testBit e = true := he
      rw [Nat.zero_testBit] at he
      cases he
  obtain ⟨m, hm⟩ := FU_ge (E 2 + 1) (by omega)
  obtain ⟨g, b1, b2, b3, b4, b5⟩ := l_22 hT h10 hd (E 2) (fc0 E d0 h0) m h3 (by show 0 + E 2 = E 2; omega) F3 G3 fc0_I C3
  refine ⟨g, ?_, z3.then b2, b3, b4, b5⟩
  have sp := hG.2.2.2 (4 * d0 + h0) (show 4 * d0 + h0 < 4 * E 2 by omega)
  have b1 : l_22_62 (E 2 + 1 + m) (some 48) (some 39) (nI d0) (nI (E 2)) (lN (maskL (E 2) (nxL E (fitL E) d0 h0))) (mI (fcN E d0 (fc0 E d0 h0))) h3 = some g := b1
  rw [f_22, b_22_0]
  simp (disch := first | assumption | (repeat' (first | apply fx_sI | apply fx_sJ | assumption | omega))) only [gQ_e (K39 hF), hG.1, hG.n.2, Option.bind_some, gJ_e (K39 hF), hG.2.2.1, Q39_0 hF, pk_mul, nI_add, aJ_n (K40 hF) (L40 hF), sp, fb_andL, nx_msk hh, bnd_e, bnd_e, grd_e, grd0, grd1, Option.bind_some, Option.isSome_some, gQ30_0, gQ30_1, gQ30_2, gQ30_3, gQ30_4, gQ30_5, gQ30_6, gQ30_7, gQ30_8, gQ30_9, gQ31_0, gQ33_0, gQ33_1, gQ36_0, gQ36_1, gQ39_0, gQ39_3, gQ39_4, gQ39_6, gQ39_8, gQ39_10, gQ39_11, gQ39_12, gQ48_0, gQ48_1, gQ51_2, gQ53_0, gQ53_1, gQ60_0, gQ60_1, gQ60_2, gQ64_1, gQ64_14, gQ64_15, gQ64_16, gQ64_17, gQ64_18, gQ64_19, gQ64_20, gQ64_21, gQ64_24, gQ64_25, gQ64_27, gQ64_28, gQ64_29, gQ64_30, gQ64_31, gQ64_34, gQ64_35, gQ64_36, gQ64_39, gQ64_40, gQ64_41, gQ64_43, gQ64_44, gQ64_48, gQ64_50, gQ64_51, gQ64_52, gQ64_53, gQ64_54, gQ64_58, gQ64_59, gI30, gJ30, pI30, pJ30, rC30, gI31, gJ31, pI31, pJ31, rC31, gI33, gJ33, pI33, pJ33, rC33, gI36, gJ36, pI36, pJ36, rC36, gI39, gJ39, pI39, pJ39, rC39, gI48, gJ48, pI48, pJ48, rC48, gI51, gJ51, pI51, pJ51, rC51, gI53, gJ53, pI53, pJ53, rC53, gI60, gJ60, pI60, pJ60, rC60, gI64, gJ64, pI64, pJ64, rC64, hF, x1, F1, x2, F2, d23, x3, F3, n23]
  rw [hm]
  exact b1
end FORCE
