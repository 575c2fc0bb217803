/-! the class's Hanger: sets of hangings as bits -/
def maskL (n : Nat) (L : Nat → Nat → Bool) : Nat := mkM (fun i => L (i / 4) (i % 4)) (4 * n)
theorem maskL_tb {n : Nat} {L : Nat → Nat → Bool} {e g : Nat} (he : e < n) (hg : g < 4) : (maskL n L).testBit (4 * e + g) = L e g := by
  unfold maskL
  rw [mkM_tb, decide_eq_true (by omega), Bool.true_and, show (4 * e + g) / 4 = e by omega, show (4 * e + g) % 4 = g by omega]
theorem maskL_t {n : Nat} {L : Nat → Nat → Bool} (i : Nat) : (maskL n L).testBit i = (decide (i < 4 * n) && L (i / 4) (i % 4)) := mkM_tb _ _ _
theorem maskL_lt {n : Nat} {L : Nat → Nat → Bool} (hn : n ≤ 10) : maskL n L < 1099511627776 := by
  have h1 := mkM_lt (fun i => L (i / 4) (i % 4)) (4 * n)
  have h2 : 2 ^ (4 * n) ≤ 2 ^ 40 := Nat.pow_le_pow_right (by decide) (by omega)
  unfold maskL
  omega
theorem maskL_and {n : Nat} {L M : Nat → Nat → Bool} : maskL n L &&& maskL n M = maskL n (fun e g => L e g && M e g) := by
  apply Nat.eq_of_testBit_eq
  intro i
  rw [Nat.testBit_and, maskL_t, maskL_t, maskL_t]
  cases decide (i < 4 * n) <;> simp
theorem maskL_sh {n d : Nat} {L M : Nat → Nat → Bool} : maskL n L / 2 ^ (4 * (d + 1)) = maskL n M / 2 ^ (4 * (d + 1)) ↔ ∀ e j, d < e → e < n → j < 4 → L e j = M e j := by
  constructor
  · intro z e j h1 h2 h3
    have := congrArg (fun x => x.testBit (4 * (e - (d + 1)) + j)) z
    simp only [Nat.testBit_div_two_pow] at this
    rw [show 4 * (e - (d + 1)) + j + 4 * (d + 1) = 4 * e + j by omega, maskL_tb h2 h3, maskL_tb h2 h3] at this
    exact this
  · intro z
    apply Nat.eq_of_testBit_eq
    intro i
    rw [Nat.testBit_div_two_pow, Nat.testBit_div_two_pow, maskL_t, maskL_t]
    by_cases c : i + 4 * (d + 1) < 4 * n
    · rw [z ((i + 4 * (d + 1)) / 4) ((i + 4 * (d + 1)) % 4) (by omega) (by omega) (by omega)]
    · rw [decide_eq_false c]; rfl
theorem maskL_4 {n e : Nat} {L : Nat → Nat → Bool} (he : e < n) : maskL n L / 2 ^ (4 * e) % 16 = mkM (L e) 4 := by
  apply Nat.eq_of_testBit_eq
  intro i
  rw [show 16 = 2 ^ 4 by rfl, Nat.testBit_mod_two_pow, Nat.testBit_div_two_pow, mkM_tb]
  by_cases c : i < 4
  · rw [decide_eq_true c, Bool.true_and, Bool.true_and, show i + 4 * e = 4 * e + i by omega, maskL_tb he c]
  · rw [decide_eq_false c]; rfl
theorem mkM4_0 {q : Nat → Bool} : mkM q 4 = 0 ↔ exB q 0 4 = false := by
  rw [tb0, ← Bool.not_eq_true, exB_iff]
  constructor
  · rintro z ⟨j, _, h2, h3⟩
    have := z j
    rw [mkM_tb, decide_eq_true (by omega), h3] at this
    cases this
  · intro z i
    rw [mkM_tb]
    by_cases c : i < 4
    · rw [decide_eq_true c, Bool.true_and]
      cases hq : q i
      · rfl
      · exact absurd ⟨i, by omega, by omega, hq⟩ z
    · rw [decide_eq_false c]; rfl
theorem l2i (a : Nat) : (lN a).toInt32 = nI a := by
  apply Int32.toBitVec_inj.mp
  rw [Int64.toBitVec_toInt32, wb_tb]
  first | rw [BitVec.signExtend_eq_setWidth_of_le _ (by decide)] | skip
  show (BitVec.ofNat 64 a).setWidth 32 = BitVec.ofNat 32 a
  apply BitVec.eq_of_toNat_eq
  rw [BitVec.toNat_setWidth, BitVec.toNat_ofNat, BitVec.toNat_ofNat]
  omega
theorem nI_a15 (a : Nat) : nI a &&& nI 15 = nI (a % 16) := by
  rw [fa_and, show 15 = 2 ^ 4 - 1 by rfl, Nat.and_two_pow_sub_one_eq_mod]
section HG
variable {τ : Nat → Nat} {h : Hp} {E : Nat → Nat}
theorem s_30 {M d : Nat} (hM : M < 1099511627776) (hd : d < 10) : f_30 (lN M) (nI d) h = some (nI (M / 2 ^ (4 * d) % 16), h) := by
  rw [f_30, b_30_0, pk_mul, wb_shr (by omega) (by omega), l2i, nI_a15]
theorem s_30L {n d : Nat} {L : Nat → Nat → Bool} (hn : n ≤ 10) (hd : d < n) : f_30 (lN (maskL n L)) (nI d) h = some (nI (mkM (L d) 4), h) := by
  rw [s_30 (maskL_lt hn) (by omega), maskL_4 hd]
theorem s_31 {n d g : Nat} {L : Nat → Nat → Bool} (hn : n ≤ 10) (hd : d < n) (hg : g < 4) : f_31 (lN (maskL n L)) (nI d) (nI g) h = some (bI (L d g), h) := by
  have lt := maskL_lt (n := n) (L := L) hn
  rw [f_31, b_31_0]
  simp only [pk_mul, nI_add, lc0, lN_bitP (show maskL n L < 2 ^ 64 by omega) (show 4 * d + g < 64 by omega), maskL_tb hd hg]
  cases L d g <;> rfl
/-- what the Hanger knows of a house -/
def fitL (E : Nat → Nat) : Nat → Nat → Bool := fun e g => mayB E e g
def sprL (E : Nat → Nat) (i : Nat) : Nat → Nat → Bool := fun e g => spr E (i / 4) (i % 4) e g
def HgH (τ : Nat → Nat) (h : Hp) (E : Nat → Nat) : Prop := hQ h 39 2 = some (rq h 39 2) ∧ HoR τ h (rq h 39 2) E ∧ hJ h 39 1 = lN (maskL (E 2) (fitL E)) ∧ ∀ i, i < 4 * E 2 → hJ h 40 i = lN (maskL (E 2) (sprL E i))
theorem HgH.n (hG : HgH τ h E) : gQ 4 1 (some (rq h 39 2)) h = some (hQ h (rq h 39 2) 1) ∧ gI 4 5 (some (rq h 39 2)) h = some (nI (E 2)) := by
  obtain ⟨p0, ⟨k, ge, t, a0, a1, a2, ⟨f0, f1, f2, f3, f4⟩, _⟩, p1, p2⟩ := hG
  exact ⟨gQ_e k, by rw [gI_e k, f2]⟩
theorem HgH.cg {g : Hp} (hG : HgH τ h E) (hK' : hK g = hK h) (hL' : hL g = hL h) (hQ' : hQ g = hQ h) (ht : ∀ p, τ p = 1 → hI g p = hI h p ∧ hJ g p = hJ h p) (e1 : hJ g 39 1 = hJ h 39 1) (e2 : hJ g 40 = hJ h 40) : HgH τ g E := by
  obtain ⟨p0, p1, p2, p3⟩ := hG
  have r : rq g 39 2 = rq h 39 2 := by unfold rq; rw [hQ']
  exact ⟨by rw [hQ', r]; exact p0, by rw [r]; exact p1.cg hK' hL' hQ' ht, by rw [e1]; exact p2, by rw [e2]; exact p3⟩
theorem HgH.cz {g : Hp} {Z : List Nat} (hG : HgH τ h E) (hT : TG τ) (hz : Fz Z h g) (h1 : ∀ z, z ∈ Z → z % 1000000 < 60 ∨ 64 ≤ z % 1000000 ∧ z % 1000000 < 98) (h2 : ∀ z, z ∈ Z → z % 1000000 ≠ 40) (h3 : 39 ∉ Z) (h4 : 2000039 ∉ Z) : HgH τ g E := by
  refine hG.cg hz.K hz.L hz.Q (hz.tag2 hT (fun z hz' e => ?_)) (hz.J1 h3 h4) (hz.J (a := 40) h2)
  have := (hT _ e).1
  have := h1 z hz'
  omega
def ehs (n : Nat) (am : Nat → Bool) (L : Nat → Nat → Bool) (d : Nat) : Bool := !exB (fun e => am e && !exB (L e) 0 4) d (n - d)
theorem l_32 {A : Nat} {L : Nat → Nat → Bool} (hF : Fix h) (hG : HgH τ h E) (h10 : E 2 ≤ 10) (hA : hI h 39 14 = nI A) (hA2 : A < 1024) : ∀ r d m, d + r = E 2 → l_32_3 (r + 1 + m) (some 39) (lN (maskL (E 2) L)) (nI d) h = some (bI (!exB (fun e => A.testBit e && !exB (L e) 0 4) d r), h) := by
  have hn := hG.n
  intro r
  induction r with
  | zero =>
    intro d m hd
    obtain rfl : d = E 2 := by omega
    rw [show 0 + 1 + m = m + 1 by omega, l_32_3, b_32_3]
    simp (disch := first | assumption | (repeat' (first | apply fx_sI | apply fx_sJ | assumption | omega))) only [gQ_e (K39 hF), hG.1, Option.bind_some, hn.2, nI_leI, Nat.le_refl, if_true]
    rw [b_32_45]
    rfl
  | succ r ih =>
    intro d m hd
    have es : exB (fun e => A.testBit e && !exB (L e) 0 4) d (r + 1) = ((A.testBit d && !exB (L d) 0 4) || exB (fun e => A.testBit e && !exB (L e) 0 4) (d + 1) r) := rfl
    have b16 : mkM (L d) 4 < 16 := mkM_lt (L d) 4
    rw [es, show r + 1 + 1 + m = (r + 1 + m) + 1 by omega, l_32_3, b_32_3]
    simp (disch := first | assumption | (repeat' (first | apply fx_sI | apply fx_sJ | assumption | omega))) only [gQ_e (K39 hF), hG.1, Option.bind_some, hn.2, nI_leI, show ¬ E 2 ≤ d by omega, if_false]
    rw [b_32_15]
    simp (disch := first | assumption | (repeat' (first | apply fx_sI | apply fx_sJ | assumption | omega))) only [gI_e (K39 hF), hA, Option.bind_some, nI_hasP (show A < 2147483648 by omega) (show d < 32 by omega)]
    cases ha : A.testBit d
    · rw [if_pos (by decide), b_32_39, bnd_e, nI_add, ih (d + 1) m (by omega), Bool.false_and, Bool.false_or]
    · rw [if_neg (by simp), b_32_28]
      simp (disch := first | assumption | (repeat' (first | apply fx_sI | apply fx_sJ | assumption | omega))) only [s_30L h10 (show d < E 2 by omega), Option.bind_some, nI_eq0 (show mkM (L d) 4 < 2147483648 by omega), mkM4_0]
      cases hb : exB (L d) 0 4
      · rw [if_neg (fun z => z rfl), b_32_37]
        rfl
      · rw [if_pos (by decide), b_32_39, bnd_e, nI_add, ih (d + 1) m (by omega)]
        rfl
theorem s_32 {A d : Nat} {L : Nat → Nat → Bool} (hF : Fix h) (hG : HgH τ h E) (h10 : E 2 ≤ 10) (hA : hI h 39 14 = nI A) (hA2 : A < 1024) (hd : d ≤ E 2) : f_32 (some 39) (lN (maskL (E 2) L)) (nI d) h = some (bI (ehs (E 2) (fun e => A.testBit e) L d), h) := by
  obtain ⟨m, hm⟩ := FU_ge (E 2 - d + 1) (by omega)
  rw [f_32, b_32_0, hm, l_32 hF hG h10 hA hA2 (E 2 - d) d m (by omega)]
  rfl
theorem nx_msk {n : Nat} {L : Nat → Nat → Bool} {d g : Nat} (hg : g < 4) : maskL n L &&& maskL n (sprL E (4 * d + g)) = maskL n (nxL E L d g) := by
  rw [maskL_and]
  unfold nxL sprL
  rw [show (4 * d + g) / 4 = d by omega, show (4 * d + g) % 4 = g by omega]
theorem s_33 {d g : Nat} {L : Nat → Nat → Bool} (hF : Fix h) (hG : HgH τ h E) (h10 : E 2 ≤ 10) (hd : d < E 2) (hg : g < 4) : f_33 (some 39) (lN (maskL (E 2) L)) (nI d) (nI g) h = some (lN (maskL (E 2) (nxL E L d g) / 2 ^ (4 * (d + 1))), h) := by
  have lt := maskL_lt (n := E 2) (L := nxL E L d g) h10
  rw [f_33, b_33_0]
  simp (disch := first | assumption | (repeat' (first | apply fx_sI | apply fx_sJ | assumption | omega))) only [bnd_e, grd_e, grd0, grd1, Option.bind_some, Option.isSome_some, gQ30_0, gQ30_1, gQ30_2, gQ30_3, gQ30_4, gQ30_5, gQ30_6, gQ30_7, gQ30_8, gQ30_9, gQ31_0, gQ33_0, gQ33_1, gQ36_0, gQ36_1, gQ39_0, gQ39_3, gQ39_4, gQ39_6, gQ39_8, gQ39_10, gQ39_11, gQ39_12, gQ48_0, gQ48_1, gQ51_2, gQ53_0, gQ53_1, gQ60_0, gQ60_1, gQ60_2, gQ64_1, gQ64_14, gQ64_15, gQ64_16, gQ64_17, gQ64_18, gQ64_19, gQ64_20, gQ64_21, gQ64_24, gQ64_25, gQ64_27, gQ64_28, gQ64_29, gQ64_30, gQ64_31, gQ64_34, gQ64_35, gQ64_36, gQ64_39, gQ64_40, gQ64_41, gQ64_43, gQ64_44, gQ64_48, gQ64_50, gQ64_51, gQ64_52, gQ64_53, gQ64_54, gQ64_58, gQ64_59, gI30, gJ30, pI30, pJ30, rC30, gI31, gJ31, pI31, pJ31, rC31, gI33, gJ33, pI33, pJ33, rC33, gI36, gJ36, pI36, pJ36, rC36, gI39, gJ39, pI39, pJ39, rC39, gI48, gJ48, pI48, pJ48, rC48, gI51, gJ51, pI51, pJ51, rC51, gI53, gJ53, pI53, pJ53, rC53, gI60, gJ60, pI60, pJ60, rC60, gI64, gJ64, pI64, pJ64, rC64, aI27, aL27, aI28, aL28, aI32, wI32, aL32, aI34, wI34, aL34, aI35, wI35, aL35, aI37, wI37, aL37, aI38, wI38, aL38, aJ40, wJ40, aL40, aI41, wI41, aL41, aI42, wI42, aL42, aI43, wI43, aL43, aI44, wI44, aL44, aI45, wI45, aL45, aI46, wI46, aL46, aI47, wI47, aL47, aI49, wI49, aL49, aI50, wI50, aL50, aI52, wI52, aL52, aI54, wI54, aL54, aI55, wI55, aL55, aL56, aL57, aL58, aI59, wI59, aL59, aI61, wI61, aL61, aL62, aI63, wI63, aL63, aI65, wI65, aL65, aI66, wI66, aL66, aI67, wI67, aL67, aI68, wI68, aL68, aI69, wI69, aL69, aJ70, wJ70, aL70, aJ71, wJ71, aL71, aJ72, wJ72, aL72, aZ73, wZ73, aL73, aI74, wI74, aL74, aI75, wI75, aL75, aJ76, wJ76, aL76, aJ77, wJ77, aL77, aI78, wI78, aL78, aI79, wI79, aL79, aI80, wI80, aL80, aI81, wI81, aL81, aI82, wI82, aL82, aI83, wI83, aL83, aI84, wI84, aL84, aI85, wI85, aL85, aI86, wI86, aL86, aI87, wI87, aL87, aI88, wI88, aL88, aI89, wI89, aL89, aI90, wI90, aL90, aI91, wI91, aL91, aI92, wI92, aL92, aI93, wI93, aL93, aI94, wI94, aL94, aZ95, wZ95, aL95, aI96, wI96, aL96, aJ97, wJ97, aL97, hF, pk_mul, nI_add, hG.2.2.2 (4 * d + g) (show 4 * d + g < 4 * E 2 by omega), fb_andL, nx_msk hg, wb_shr (show maskL (E 2) (nxL E L d g) < 2 ^ 64 by omega) (show 4 * (d + 1) < 64 by omega)]
theorem twn_msk {d g j : Nat} {L : Nat → Nat → Bool} (h10 : E 2 ≤ 10) : (lN (maskL (E 2) (nxL E L d g) / 2 ^ (4 * (d + 1))) = lN (maskL (E 2) (nxL E L d j) / 2 ^ (4 * (d + 1)))) = (twn E (E 2) L d g j = true) := by
  have l1 := maskL_lt (n := E 2) (L := nxL E L d g) h10
  have l2 := maskL_lt (n := E 2) (L := nxL E L d j) h10
  have l3 := Nat.div_le_self (maskL (E 2) (nxL E L d g)) (2 ^ (4 * (d + 1)))
  have l4 := Nat.div_le_self (maskL (E 2) (nxL E L d j)) (2 ^ (4 * (d + 1)))
  apply propext
  rw [fb_lN_inj (by omega) (by omega), twn_iff]
  exact maskL_sh
theorem l_38 {d g : Nat} {cur : Nat → Nat} {L : Nat → Nat → Bool} (hF : Fix h) (hG : HgH τ h E) (h10 : E 2 ≤ 10) (hd : d < E 2) (hg : g < 4) (hc : hI h 41 d = nI (cur d)) (hc4 : cur d < 4) : ∀ r j m, j + r = 4 → l_38_3 (r + 1 + m) (some 39) (lN (maskL (E 2) L)) (nI d) (nI g) (nI j) h = some (bI (exB (fun j => (decide (j = cur d) || (decide (j < g) && decide (g ≠ cur d))) && (decide (j ≠ g) && (L d j && twn E (E 2) L d j g))) j r), h) := by
  intro r
  induction r with
  | zero =>
    intro j m hj
    obtain rfl : j = 4 := by omega
    rw [show 0 + 1 + m = m + 1 by omega, l_38_3, b_38_3, if_pos (Int32.le_refl _), b_38_107]
    rfl
  | succ r ih =>
    intro j m hj
    have ih' := ih (j + 1) m (by omega)
    generalize hP : (fun j => (decide (j = cur d) || (decide (j < g) && decide (g ≠ cur d))) && (decide (j ≠ g) && (L d j && twn E (E 2) L d j g))) = P at *
    have hPj : P j = ((decide (j = cur d) || (decide (j < g) && decide (g ≠ cur d))) && (decide (j ≠ g) && (L d j && twn E (E 2) L d j g))) := by rw [← hP]
    have es : exB P j (r + 1) = (P j || exB P (j + 1) r) := rfl
    have nxt : b_38_101 (l_38_3 (r + 1 + m)) (some 39) (lN (maskL (E 2) L)) (nI d) (nI g) (nI j) h = some (bI (exB P (j + 1) r), h) := by
      rw [b_38_101, bnd_e, nI_add]; exact ih'
    have e87 : ∀ b c : Bool, b_38_87 (l_38_3 (r + 1 + m)) (some 39) (lN (maskL (E 2) L)) (nI d) (nI g) (nI j) (bI b) (bI c) h = some (bI ((b && c) || exB P (j + 1) r), h) := by
      intro b c
      rw [b_38_87]
      simp only [bI_0']
      cases b
      · rw [if_pos rfl, nxt]; rfl
      · rw [if_neg (by decide), b_38_94]
        simp only [bI_0']
        cases c
        · rw [if_pos rfl, nxt]; rfl
        · rw [if_neg (by decide), b_38_99]; rfl
    have e43 : ∀ b : Bool, b_38_43 (l_38_3 (r + 1 + m)) (some 39) (lN (maskL (E 2) L)) (nI d) (nI g) (nI j) (bI b) h = some (bI ((b && (decide (j ≠ g) && (L d j && twn E (E 2) L d j g))) || exB P (j + 1) r), h) := by
      intro b
      rw [b_38_43]
      by_cases c1 : j = g
      · rw [if_pos (by rw [c1]), b_38_86]
        have := e87 b false
        rw [bI_f] at this
        rw [this]
        have : decide (j ≠ g) = false := by simp [c1]
        rw [this, Bool.false_and]
      · rw [if_neg (by rw [nI_eq (by omega) (by omega)]; exact c1), b_38_52]
        simp (disch := first | assumption | (repeat' (first | apply fx_sI | apply fx_sJ | assumption | omega))) only [s_31 h10 hd (show j < 4 by omega), Option.bind_some, bI_0']
        have : decide (j ≠ g) = true := by simp [c1]
        rw [this, Bool.true_and]
        cases hl : L d j
        · rw [if_pos rfl, b_38_86]
          have := e87 b false
          rw [bI_f] at this
          rw [this, Bool.false_and]
        · rw [if_neg (by decide), b_38_62]
          simp (disch := first | assumption | (repeat' (first | apply fx_sI | apply fx_sJ | assumption | omega))) only [bnd_e, grd_e, grd0, grd1, Option.bind_some, Option.isSome_some, gQ30_0, gQ30_1, gQ30_2, gQ30_3, gQ30_4, gQ30_5, gQ30_6, gQ30_7, gQ30_8, gQ30_9, gQ31_0, gQ33_0, gQ33_1, gQ36_0, gQ36_1, gQ39_0, gQ39_3, gQ39_4, gQ39_6, gQ39_8, gQ39_10, gQ39_11, gQ39_12, gQ48_0, gQ48_1, gQ51_2, gQ53_0, gQ53_1, gQ60_0, gQ60_1, gQ60_2, gQ64_1, gQ64_14, gQ64_15, gQ64_16, gQ64_17, gQ64_18, gQ64_19, gQ64_20, gQ64_21, gQ64_24, gQ64_25, gQ64_27, gQ64_28, gQ64_29, gQ64_30, gQ64_31, gQ64_34, gQ64_35, gQ64_36, gQ64_39, gQ64_40, gQ64_41, gQ64_43, gQ64_44, gQ64_48, gQ64_50, gQ64_51, gQ64_52, gQ64_53, gQ64_54, gQ64_58, gQ64_59, gI30, gJ30, pI30, pJ30, rC30, gI31, gJ31, pI31, pJ31, rC31, gI33, gJ33, pI33, pJ33, rC33, gI36, gJ36, pI36, pJ36, rC36, gI39, gJ39, pI39, pJ39, rC39, gI48, gJ48, pI48, pJ48, rC48, gI51, gJ51, pI51, pJ51, rC51, gI53, gJ53, pI53, pJ53, rC53, gI60, gJ60, pI60, pJ60, rC60, gI64, gJ64, pI64, pJ64, rC64, hF, s_33 hF hG h10 hd (show j < 4 by omega), s_33 hF hG h10 hd hg, lc0, twn_msk h10]
          rw [Bool.true_and]
          cases ht : twn E (E 2) L d j g
          · rw [if_pos (by decide), b_38_86]
            have := e87 b false
            rw [bI_f] at this
            rw [this]
          · rw [if_neg (fun z => z rfl), b_38_82]
            have := e87 b true
            rw [bI_t] at this
            rw [this]
    rw [es, hPj, show r + 1 + 1 + m = (r + 1 + m) + 1 by omega, l_38_3, b_38_3, if_neg (by rw [nI_leI (by omega) (by omega)]; omega), b_38_9]
    simp (disch := first | assumption | (repeat' (first | apply fx_sI | apply fx_sJ | assumption | omega))) only [bnd_e, grd_e, grd0, grd1, Option.bind_some, Option.isSome_some, gQ30_0, gQ30_1, gQ30_2, gQ30_3, gQ30_4, gQ30_5, gQ30_6, gQ30_7, gQ30_8, gQ30_9, gQ31_0, gQ33_0, gQ33_1, gQ36_0, gQ36_1, gQ39_0, gQ39_3, gQ39_4, gQ39_6, gQ39_8, gQ39_10, gQ39_11, gQ39_12, gQ48_0, gQ48_1, gQ51_2, gQ53_0, gQ53_1, gQ60_0, gQ60_1, gQ60_2, gQ64_1, gQ64_14, gQ64_15, gQ64_16, gQ64_17, gQ64_18, gQ64_19, gQ64_20, gQ64_21, gQ64_24, gQ64_25, gQ64_27, gQ64_28, gQ64_29, gQ64_30, gQ64_31, gQ64_34, gQ64_35, gQ64_36, gQ64_39, gQ64_40, gQ64_41, gQ64_43, gQ64_44, gQ64_48, gQ64_50, gQ64_51, gQ64_52, gQ64_53, gQ64_54, gQ64_58, gQ64_59, gI30, gJ30, pI30, pJ30, rC30, gI31, gJ31, pI31, pJ31, rC31, gI33, gJ33, pI33, pJ33, rC33, gI36, gJ36, pI36, pJ36, rC36, gI39, gJ39, pI39, pJ39, rC39, gI48, gJ48, pI48, pJ48, rC48, gI51, gJ51, pI51, pJ51, rC51, gI53, gJ53, pI53, pJ53, rC53, gI60, gJ60, pI60, pJ60, rC60, gI64, gJ64, pI64, pJ64, rC64, aI27, aL27, aI28, aL28, aI32, wI32, aL32, aI34, wI34, aL34, aI35, wI35, aL35, aI37, wI37, aL37, aI38, wI38, aL38, aJ40, wJ40, aL40, aI41, wI41, aL41, aI42, wI42, aL42, aI43, wI43, aL43, aI44, wI44, aL44, aI45, wI45, aL45, aI46, wI46, aL46, aI47, wI47, aL47, aI49, wI49, aL49, aI50, wI50, aL50, aI52, wI52, aL52, aI54, wI54, aL54, aI55, wI55, aL55, aL56, aL57, aL58, aI59, wI59, aL59, aI61, wI61, aL61, aL62, aI63, wI63, aL63, aI65, wI65, aL65, aI66, wI66, aL66, aI67, wI67, aL67, aI68, wI68, aL68, aI69, wI69, aL69, aJ70, wJ70, aL70, aJ71, wJ71, aL71, aJ72, wJ72, aL72, aZ73, wZ73, aL73, aI74, wI74, aL74, aI75, wI75, aL75, aJ76, wJ76, aL76, aJ77, wJ77, aL77, aI78, wI78, aL78, aI79, wI79, aL79, aI80, wI80, aL80, aI81, wI81, aL81, aI82, wI82, aL82, aI83, wI83, aL83, aI84, wI84, aL84, aI85, wI85, aL85, aI86, wI86, aL86, aI87, wI87, aL87, aI88, wI88, aL88, aI89, wI89, aL89, aI90, wI90, aL90, aI91, wI91, aL91, aI92, wI92, aL92, aI93, wI93, aL93, aI94, wI94, aL94, aZ95, wZ95, aL95, aI96, wI96, aL96, aJ97, wJ97, aL97, hF, hc, nI_eq]
    by_cases c1 : j = cur d
    · rw [if_pos c1, b_38_38]
      have := e43 true
      rw [bI_t] at this
      rw [this, decide_eq_true c1, Bool.true_or]
    · rw [if_neg c1, b_38_20, decide_eq_false c1, Bool.false_or]
      by_cases c2 : j < g
      · rw [if_neg (by rw [nI_leI (by omega) (by omega)]; omega), b_38_27, decide_eq_true c2, Bool.true_and]
        simp (disch := first | assumption | (repeat' (first | apply fx_sI | apply fx_sJ | assumption | omega))) only [bnd_e, grd_e, grd0, grd1, Option.bind_some, Option.isSome_some, gQ30_0, gQ30_1, gQ30_2, gQ30_3, gQ30_4, gQ30_5, gQ30_6, gQ30_7, gQ30_8, gQ30_9, gQ31_0, gQ33_0, gQ33_1, gQ36_0, gQ36_1, gQ39_0, gQ39_3, gQ39_4, gQ39_6, gQ39_8, gQ39_10, gQ39_11, gQ39_12, gQ48_0, gQ48_1, gQ51_2, gQ53_0, gQ53_1, gQ60_0, gQ60_1, gQ60_2, gQ64_1, gQ64_14, gQ64_15, gQ64_16, gQ64_17, gQ64_18, gQ64_19, gQ64_20, gQ64_21, gQ64_24, gQ64_25, gQ64_27, gQ64_28, gQ64_29, gQ64_30, gQ64_31, gQ64_34, gQ64_35, gQ64_36, gQ64_39, gQ64_40, gQ64_41, gQ64_43, gQ64_44, gQ64_48, gQ64_50, gQ64_51, gQ64_52, gQ64_53, gQ64_54, gQ64_58, gQ64_59, gI30, gJ30, pI30, pJ30, rC30, gI31, gJ31, pI31, pJ31, rC31, gI33, gJ33, pI33, pJ33, rC33, gI36, gJ36, pI36, pJ36, rC36, gI39, gJ39, pI39, pJ39, rC39, gI48, gJ48, pI48, pJ48, rC48, gI51, gJ51, pI51, pJ51, rC51, gI53, gJ53, pI53, pJ53, rC53, gI60, gJ60, pI60, pJ60, rC60, gI64, gJ64, pI64, pJ64, rC64, aI27, aL27, aI28, aL28, aI32, wI32, aL32, aI34, wI34, aL34, aI35, wI35, aL35, aI37, wI37, aL37, aI38, wI38, aL38, aJ40, wJ40, aL40, aI41, wI41, aL41, aI42, wI42, aL42, aI43, wI43, aL43, aI44, wI44, aL44, aI45, wI45, aL45, aI46, wI46, aL46, aI47, wI47, aL47, aI49, wI49, aL49, aI50, wI50, aL50, aI52, wI52, aL52, aI54, wI54, aL54, aI55, wI55, aL55, aL56, aL57, aL58, aI59, wI59, aL59, aI61, wI61, aL61, aL62, aI63, wI63, aL63, aI65, wI65, aL65, aI66, wI66, aL66, aI67, wI67, aL67, aI68, wI68, aL68, aI69, wI69, aL69, aJ70, wJ70, aL70, aJ71, wJ71, aL71, aJ72, wJ72, aL72, aZ73, wZ73, aL73, aI74, wI74, aL74, aI75, wI75, aL75, aJ76, wJ76, aL76, aJ77, wJ77, aL77, aI78, wI78, aL78, aI79, wI79, aL79, aI80, wI80, aL80, aI81, wI81, aL81, aI82, wI82, aL82, aI83, wI83, aL83, aI84, wI84, aL84, aI85, wI85, aL85, aI86, wI86, aL86, aI87, wI87, aL87, aI88, wI88, aL88, aI89, wI89, aL89, aI90, wI90, aL90, aI91, wI91, aL91, aI92, wI92, aL92, aI93, wI93, aL93, aI94, wI94, aL94, aZ95, wZ95, aL95, aI96, wI96, aL96, aJ97, wJ97, aL97, hF, hc, nI_eq]
        by_cases c3 : g = cur d
        · rw [if_pos c3, b_38_42]
          have := e43 false
          rw [bI_f] at this
          have e : decide (g ≠ cur d) = false := by simp [c3]
          rw [this, e]
        · rw [if_neg c3, b_38_38]
          have := e43 true
          rw [bI_t] at this
          have e : decide (g ≠ cur d) = true := by simp [c3]
          rw [this, e]
      · rw [if_pos (by rw [nI_leI (by omega) (by omega)]; omega), b_38_42, decide_eq_false c2, Bool.false_and]
        have := e43 false
        rw [bI_f] at this
        rw [this]
theorem s_38 {d g : Nat} {cur : Nat → Nat} {L : Nat → Nat → Bool} (hF : Fix h) (hG : HgH τ h E) (h10 : E 2 ≤ 10) (hd : d < E 2) (hg : g < 4) (hc : hI h 41 d = nI (cur d)) (hc4 : cur d < 4) : f_38 (some 39) (lN (maskL (E 2) L)) (nI d) (nI g) h = some (bI (btw E (E 2) cur L d g), h) := by
  obtain ⟨m, hm⟩ := FU_ge (4 + 1) (by omega)
  rw [f_38, b_38_0, bnd_e, hm, l_38 hF hG h10 hd hg hc hc4 4 0 m (by omega)]
  rfl
end HG
