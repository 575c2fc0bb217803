/-! the class's Door and House, read -/
section DOOR
variable {τ : Nat → Nat} {h : Hp} {p d g : Nat} {E : Nat → Nat}
theorem s_8 (hD : DoR τ h p E d) (ht : dTd E d < 16) (hg : g < 4) : f_8 (some p) (nI g) h = some (bI ((dTd E d).testBit g), h) := by
  obtain ⟨k, ge, t, a0, a1, a2, a3, a4, ⟨fx, fy, fac, fl, ft, fc, fw⟩, m1, m2⟩ := hD
  simp only [f_8, b_8_0, b_8_12, b_8_16, b_8_17, ↓reduceIte, gI_e k, Option.bind_some, ft, nI_hasP (show dTd E d < 2147483648 by omega) (show g < 32 by omega)]
  cases (dTd E d).testBit g <;> rfl
theorem s_9 (hD : DoR τ h p E d) (hw : dWh E d ≤ 1) (hg : g < 4) : f_9 (some p) (nI g) h = some (bI (fitB E d g), h) := by
  obtain ⟨k, ge, t, a0, a1, a2, a3, a4, ⟨fx, fy, fac, fl, ft, fc, fw⟩, m1, m2⟩ := hD
  simp (disch := omega) only [f_9, b_9_0, b_9_7, b_9_12, b_9_13, b_9_26, b_9_30, b_9_31, ↓reduceIte, gI_e k, gQ_e k, Option.bind_some, fw, a4.1, aI_n a4.2.1 a4.2.2.1, (m2 g hg).2.2, nI_eq0 (show dWh E d < 2147483648 by omega), fa_and]
  unfold fitB canM
  rcases (show dWh E d = 0 ∨ dWh E d = 1 by omega) with e | e <;> rw [e] <;> cases canB E d g 1 <;> cases canB E d g 2 <;> rfl
theorem s_10 (hD : DoR τ h p E d) (ht : dTd E d < 16) (hw : dWh E d ≤ 1) (hg : g < 4) : f_10 (some p) (nI g) h = some (bI (mayB E d g), h) := by
  have hk := hD.1
  have ge := hD.2.1
  simp only [f_10, b_10_0, b_10_8, b_10_16, b_10_20, b_10_21, ↓reduceIte, rC_e hk ge, grd_e, Option.bind_some, s_8 hD ht hg, s_9 hD hw hg, bI_0']
  unfold mayB
  cases (dTd E d).testBit g <;> cases fitB E d g <;> rfl
theorem l_11 (hD : DoR τ h p E d) (ht : dTd E d < 16) (hw : dWh E d ≤ 1) : ∀ r i s m, i + r = 4 → l_11_4 (r + 1 + m) (some p) (nI s) (nI i) h = some (nI (s + fb_ct (mayB E d) 4 - fb_ct (mayB E d) i), h) := by
  intro r
  induction r with
  | zero =>
    intro i s m hi
    obtain rfl : i = 4 := by omega
    rw [show 0 + 1 + m = m + 1 by omega]
    simp (disch := omega) only [l_11_4, f_11, b_11_0, b_11_4, b_11_9, b_11_18, b_11_22, b_11_23, b_11_31, ↓reduceIte, nI_leI, Nat.le_refl, if_true]
    congr 3
    omega
  | succ r ih =>
    intro i s m hi
    have e := fb_ct_succ (mayB E d) i
    have f := fb_ct_mono (mayB E d) (show i + 1 ≤ 4 by omega)
    rw [show r + 1 + 1 + m = (r + 1 + m) + 1 by omega]
    simp (disch := omega) only [l_11_4, f_11, b_11_0, b_11_4, b_11_9, b_11_18, b_11_22, b_11_23, b_11_31, ↓reduceIte, nI_leI, show ¬ 4 ≤ i by omega, if_false, rC_e hD.1 hD.2.1, grd_e, Option.bind_some, s_10 hD ht hw (show i < 4 by omega), bI_0', bnd_e, nI_add]
    cases hb : mayB E d i
    · simp only [if_true]
      rw [ih (i + 1) (s + 0) m (by omega), e, hb]
      congr 3
    · rw [if_neg (by simp), ih (i + 1) (s + 1) m (by omega), e, hb]
      rw [hb] at e
      simp at e
      congr 3
      simp
      omega
theorem s_11 (hD : DoR τ h p E d) (ht : dTd E d < 16) (hw : dWh E d ≤ 1) : f_11 (some p) h = some (nI (fb_ct (mayB E d) 4), h) := by
  obtain ⟨m, hm⟩ := FU_ge (4 + 1) (by omega)
  simp only [f_11, b_11_0, b_11_4, b_11_9, b_11_18, b_11_22, b_11_23, b_11_31, ↓reduceIte, bnd_e]
  rw [hm, l_11 hD ht hw 4 0 0 m (by omega)]
  congr 3
  simp [fb_ct]
theorem s_12 {a : Nat} (hD : DoR τ h p E d) (hg : g < 4) (ha : a < 3) : f_12 (some p) (nI g) (nI a) h = some (bI (canB E d g a), h) := by
  obtain ⟨k, ge, t, a0, a1, a2, a3, a4, ⟨fx, fy, fac, fl, ft, fc, fw⟩, m1, m2⟩ := hD
  have hb : canM E d g < 8 := by unfold canM; split <;> split <;> omega
  simp (disch := omega) only [f_12, b_12_0, b_12_14, b_12_18, b_12_19, ↓reduceIte, gQ_e k, Option.bind_some, a4.1, aI_n a4.2.1 a4.2.2.1, (m2 g hg).2.2, nI_hasP (show canM E d g < 2147483648 by omega) (show a < 32 by omega)]
  unfold canM
  have h0 : canB E d g 0 = true := rfl
  rcases (show a = 0 ∨ a = 1 ∨ a = 2 by omega) with e | e | e <;> subst e
  · rw [h0]; cases canB E d g 1 <;> cases canB E d g 2 <;> rfl
  · cases canB E d g 1 <;> cases canB E d g 2 <;> rfl
  · cases canB E d g 1 <;> cases canB E d g 2 <;> rfl
theorem swL_lt (E : Nat → Nat) (d g : Nat) : swL E d g < 1125899906842624 := loM_lt _
theorem swH_lt (E : Nat → Nat) (d g : Nat) : swH E d g < 1125899906842624 := hiM_lt _
theorem s_13 (hD : DoR τ h p E d) (hg : g < 4) : f_13 (some p) (nI g) h = some (nI (pc (swL E d g) + pc (swH E d g)), h) := by
  obtain ⟨k, ge, t, a0, a1, a2, a3, a4, ⟨fx, fy, fac, fl, ft, fc, fw⟩, m1, m2⟩ := hD
  have b1 := swL_lt E d g
  have b2 := swH_lt E d g
  simp (disch := omega) only [f_13, b_13_0, ↓reduceIte, gQ_e k, Option.bind_some, a2.1, a3.1, aJ_n a2.2.1 a2.2.2.1, aJ_n a3.2.1 a3.2.2.1, (m2 g hg).1, (m2 g hg).2.1, s_303, nI_add]
theorem s_14 {q e j : Nat} (hD : DoR τ h p E d) (hE : DoR τ h q E e) (hg : g < 4) (hj : j < 4) : f_14 (some p) (nI g) (some q) (nI j) h = some (nI (pc (swL E d g &&& swL E e j) + pc (swH E d g &&& swH E e j)), h) := by
  obtain ⟨k, ge, t, a0, a1, a2, a3, a4, ⟨fx, fy, fac, fl, ft, fc, fw⟩, m1, m2⟩ := hD
  obtain ⟨k', ge', t', a0', a1', a2', a3', a4', _, m1', m2'⟩ := hE
  have b1 := swL_lt E d g
  have b2 := swH_lt E d g
  have b3 := Nat.and_le_left (n := swL E d g) (m := swL E e j)
  have b4 := Nat.and_le_left (n := swH E d g) (m := swH E e j)
  simp (disch := omega) only [f_14, b_14_0, ↓reduceIte, gQ_e k, gQ_e k', Option.bind_some, a2.1, a3.1, a2'.1, a3'.1, aJ_n a2.2.1 a2.2.2.1, aJ_n a3.2.1 a3.2.2.1, aJ_n a2'.2.1 a2'.2.2.1, aJ_n a3'.2.1 a3'.2.2.1, (m2 g hg).1, (m2 g hg).2.1, (m2' j hj).1, (m2' j hj).2.1, fb_andL, s_303, nI_add]
theorem lfH_lo {a c : Nat} (hc : c < 50) : (loM (lfc E d g a)).testBit c = lfH E d g a c := loM_tb _ _ hc
theorem lfH_hi {a c : Nat} (hc : 50 ≤ c) : (hiM (lfc E d g a)).testBit (c - 50) = lfH E d g a c := by
  rw [hiM_tb]
  unfold lfH
  rw [show c - 50 + 50 = c by omega]
theorem s_15 {a c : Nat} (hD : DoR τ h p E d) (hg : g < 4) (ha : a < 3) (hc : c < 100) : f_15 (some p) (nI g) (nI a) (nI c) h = some (bI (lfH E d g a c), h) := by
  obtain ⟨k, ge, t, a0, a1, a2, a3, a4, ⟨fx, fy, fac, fl, ft, fc, fw⟩, m1, m2⟩ := hD
  have b1 := loM_lt (lfc E d g a)
  have b2 := hiM_lt (lfc E d g a)
  by_cases h5 : 50 ≤ c
  · simp (disch := omega) only [f_15, b_15_0, b_15_13, b_15_17, b_15_18, b_15_25, b_15_39, b_15_53, b_15_58, b_15_62, b_15_63, ↓reduceIte, bnd_e, pk_mul, nI_add, pk_sub h5, nI_leI, h5, if_true, nI_0, gQ_e k, Option.bind_some, a1.1, aJ_n a1.2.1 a1.2.2.1, (m1 g a hg ha).2, lc0, lN_bitP (show hiM (lfc E d g a) < 2 ^ 64 by omega) (show c - 50 < 64 by omega), lfH_hi h5]
    cases lfH E d g a c <;> rfl
  · simp (disch := omega) only [f_15, b_15_0, b_15_13, b_15_17, b_15_18, b_15_25, b_15_39, b_15_53, b_15_58, b_15_62, b_15_63, ↓reduceIte, bnd_e, pk_mul, nI_add, nI_leI, h5, if_false, nI10, gQ_e k, Option.bind_some, a0.1, aJ_n a0.2.1 a0.2.2.1, (m1 g a hg ha).1, lc0, lN_bitP (show loM (lfc E d g a) < 2 ^ 64 by omega) (show c < 64 by omega), lfH_lo (show c < 50 by omega)]
    cases lfH E d g a c <;> rfl
/-- the k-th of the cells from 100 - r on, n already passed -/
def scn (q : Nat → Bool) (k : Int32) : Nat → Nat → Int32
  | 0, _ => -1
  | r + 1, n => if q (99 - r) = true then (if nI n = k then nI (99 - r) else scn q k r (n + 1)) else scn q k r n
theorem l_16 {a : Nat} {x : Int32} (hD : DoR τ h p E d) (hg : g < 4) (ha : a < 3) : ∀ r i n m, i + r = 100 → l_16_6 (r + 1 + m) (some p) (nI g) (nI a) x (nI n) (nI i) h = some (scn (lfH E d g a) x r n, h) := by
  intro r
  induction r with
  | zero =>
    intro i n m hi
    obtain rfl : i = 100 := by omega
    rw [show 0 + 1 + m = m + 1 by omega]
    simp (disch := omega) only [l_16_6, f_16, b_16_0, b_16_6, b_16_13, b_16_24, b_16_30, b_16_33, b_16_36, b_16_42, ↓reduceIte, nI_leI, Nat.le_refl, if_true, scn]
  | succ r ih =>
    intro i n m hi
    obtain rfl : i = 99 - r := by omega
    rw [show r + 1 + 1 + m = (r + 1 + m) + 1 by omega]
    simp (disch := omega) only [l_16_6, f_16, b_16_0, b_16_6, b_16_13, b_16_24, b_16_30, b_16_33, b_16_36, b_16_42, ↓reduceIte, nI_leI, show ¬ 100 ≤ 99 - r by omega, if_false, rC_e hD.1 hD.2.1, grd_e, Option.bind_some, s_15 hD hg ha (show 99 - r < 100 by omega), bI_0', bnd_e, nI_add, ih (99 - r + 1) _ m (by omega)]
    show _ = some (if lfH E d g a (99 - r) = true then (if nI n = x then nI (99 - r) else scn (lfH E d g a) x r (n + 1)) else scn (lfH E d g a) x r n, h)
    cases lfH E d g a (99 - r)
    · simp
    · by_cases hx : nI n = x <;> simp [hx]
theorem s_16 {a : Nat} {x : Int32} (hD : DoR τ h p E d) (hg : g < 4) (ha : a < 3) : f_16 (some p) (nI g) (nI a) x h = some (scn (lfH E d g a) x 100 0, h) := by
  obtain ⟨m, hm⟩ := FU_ge (100 + 1) (by omega)
  simp only [f_16, b_16_0, b_16_6, b_16_13, b_16_24, b_16_30, b_16_33, b_16_36, b_16_42, ↓reduceIte, bnd_e]
  rw [hm, l_16 hD hg ha 100 0 0 m (by omega)]
theorem cN_lt {x y : Int} (h : 0 ≤ x ∧ x < 10 ∧ 0 ≤ y ∧ y < 10) : cN (x, y) < 100 := by
  unfold cN
  dsimp only
  omega
theorem zI_cN {x y : Int} (h : 0 ≤ x ∧ x < 10 ∧ 0 ≤ y ∧ y < 10) : nI 10 * zI y + zI x = nI (cN (x, y)) := by
  rw [nz 10, zI_mul, zI_add, zI_toNat (by omega)]
  rfl
theorem s_50 {a : Nat} {x y : Int32} (hH : HoR τ h a E) (hW : E 0 ≤ 10 ∧ E 1 ≤ 10) : f_50 (some a) x y h = some (if inE E (x.toInt, y.toInt) = true then nI (cellV E (cN (x.toInt, y.toInt))) else -1, h) := by
  obtain ⟨k, ge, t, a0, a1, a2, ⟨f0, f1, f2, f3, f4⟩, hc, hd, hw⟩ := hH
  unfold inE
  simp only [f_50, b_50_0, b_50_4, b_50_12, b_50_16, b_50_24, b_50_28, b_50_29, b_50_34, b_50_48, b_50_49, ↓reduceIte, gI_e k, gQ_e k, Option.bind_some, f0, f1, fa_lt, fa_le, toI_0, toI_nI (show E 0 < 2147483648 by omega), toI_nI (show E 1 < 2147483648 by omega), nI00, if_true, nI10, if_false, a0.1]
  by_cases c : 0 ≤ x.toInt ∧ x.toInt < E 0 ∧ 0 ≤ y.toInt ∧ y.toInt < E 1
  · have c2 : 0 ≤ x.toInt ∧ x.toInt < 10 ∧ 0 ≤ y.toInt ∧ y.toInt < 10 := by omega
    rw [if_neg (by omega), if_neg (by omega), if_neg (by omega), if_neg (by omega), decide_eq_true c, if_pos rfl]
    have e : nI 10 * y + x = nI (cN (x.toInt, y.toInt)) := by rw [← zI_cN c2, ← zI_of, ← zI_of]
    have b := cN_lt c2
    rw [e, aI_n a0.2.1 a0.2.2.1 b (by omega), hc _ b]
    rfl
  · simp only [decide_eq_false c, Bool.false_eq_true, if_false]
    repeat' split
    all_goals first | rfl | (exfalso; omega)
theorem s_51 {a : Nat} {x y : Int32} (hH : HoR τ h a E) (hW : WF E) : f_51 (some a) x y h = some (bI (inE E (x.toInt, y.toInt) && (E (10 + cN (x.toInt, y.toInt)) == 0 || decide (0 < E (210 + cN (x.toInt, y.toInt))))), h) := by
  have hk := hH.1
  have ge := hH.2.1
  obtain ⟨w0, w1, w2, w3, w4, wc, wd, wi, wr⟩ := hW
  simp only [f_51, b_51_0, b_51_11, b_51_17, b_51_21, b_51_22, ↓reduceIte, rC_e hk ge, grd_e, Option.bind_some, s_50 hH ⟨w0, w1⟩, bnd_e]
  by_cases c : inE E (x.toInt, y.toInt) = true
  · rw [if_pos c, c, Bool.true_and]
    have c2 := of_decide_eq_true c
    dsimp only at c2
    have b := cN_lt (x := x.toInt) (y := y.toInt) (by omega)
    have b2 := wc _ b
    generalize cN (x.toInt, y.toInt) = v at b b2
    unfold cellV
    by_cases e : 0 < E (210 + v)
    · rw [if_pos e, decide_eq_true e, Bool.or_true, if_neg (by rw [nI_eq0 (by omega)]; omega), if_neg (by rw [nI_ltI (by omega) (by omega)]; omega)]
      rfl
    · rw [if_neg e, decide_eq_false e, Bool.or_false]
      simp only [nI_eq0 (show E (10 + v) < 2147483648 by omega)]
      by_cases f : E (10 + v) = 0
      · rw [if_pos f, f]; rfl
      · rw [if_neg f, if_pos (by rw [nI_ltI (by omega) (by omega)]; omega)]
        have : (E (10 + v) == 0) = false := by simp [f]
        rw [this]; rfl
  · rw [if_neg c, if_neg (by decide), if_pos (by decide)]
    have : inE E (x.toInt, y.toInt) = false := by simpa using c
    rw [this]; rfl
theorem s_52 {a : Nat} {x : Int32} (hH : HoR τ h a E) (hW : E 2 ≤ 10) : f_52 (some a) x h = some (bI (decide (0 ≤ x.toInt ∧ x.toInt < E 2)), h) := by
  obtain ⟨k, ge, t, a0, a1, a2, ⟨f0, f1, f2, f3, f4⟩, hc, hd, hw⟩ := hH
  simp only [f_52, b_52_0, b_52_4, b_52_12, b_52_16, b_52_17, ↓reduceIte, gI_e k, Option.bind_some, f2, fa_lt, fa_le, toI_0, toI_nI (show E 2 < 2147483648 by omega), grd0, grd1]
  repeat' split
  all_goals first | rw [bI_T (by omega)] | rw [bI_F (by omega)]
theorem s_53 {a : Nat} {x y : Int32} (hH : HoR τ h a E) (hW : E 2 ≤ 10) : f_53 (some a) x y h = some (bI (decide ((0 ≤ x.toInt ∧ x.toInt < E 2) ∧ 0 ≤ y.toInt ∧ y.toInt < 4)), h) := by
  have hk := hH.1
  have ge := hH.2.1
  simp only [f_53, b_53_0, b_53_8, b_53_12, b_53_17, b_53_21, b_53_22, ↓reduceIte, rC_e hk ge, grd_e, Option.bind_some, s_52 hH hW, bI_0', decide_eq_false_iff_not, fa_lt, fa_le, toI_0, toI_nI (show 4 < 2147483648 by omega), grd0, grd1]
  repeat' split
  all_goals first | rw [bI_T (by omega)] | rw [bI_F (by omega)]
end DOOR
