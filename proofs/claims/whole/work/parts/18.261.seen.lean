/-! cells that can be come to -/
def seenC (og : Nat → Nat) (c : Nat) : Bool := exB (fun j => decide (og (c + 100 * j) ≠ 0)) 0 243
section SEEN
variable {τ : Nat → Nat} {E an : Nat → Nat} {S : (Nat → Nat) × (Nat → Nat) × Nat} {po pq : Nat}
theorem l_80i {h : Hp} {n : Int32} {c : Nat} {k4 : Option Nat → Int32 → Int32 → Hp → Option (Int32 × Hp)} (hF : Fix h) (hC : CB h po pq S) (hog : ∀ st, S.1 st < 1000000) (hc : c < 100) : ∀ r j m, j + r = 243 → l_80_15 k4 (r + 2 + m) (some 51) n (nI c) (nI 0) (nI (c + 100 * j)) h = b_80_49 k4 (some 51) n (nI c) (bI (exB (fun j => decide (S.1 (c + 100 * j) ≠ 0)) j r)) h := by
  obtain ⟨⟨a1, a2, a3, a4, a5, a6, a7, a8, a9, a10, a11⟩, b, _, d⟩ := hC
  intro r
  induction r with
  | zero =>
    intro j m hj
    rw [show 0 + 2 + m = (1 + m) + 1 by omega, l_80_15, b_80_15, if_pos (by rw [nI_leI (by omega) (by omega)]; omega)]
    rfl
  | succ r ih =>
    intro j m hj
    have hb := hog (c + 100 * j)
    rw [show r + 1 + 2 + m = (r + 2 + m) + 1 by omega, l_80_15, b_80_15, if_neg (by rw [nI_leI (by omega) (by omega)]; omega), b_80_23, if_neg (fun z => z rfl), b_80_27]
    simp (disch := first | assumption | (repeat' (first | apply fx_sI | apply fx_sJ | assumption | omega))) only [gQ_e (K51 hF), a1, Option.bind_some, aI_n a3 a4, b (c + 100 * j) (show c + 100 * j < 24300 by omega), nI_eq0 (show S.1 (c + 100 * j) < 2147483648 by omega)]
    have es : exB (fun j => decide (S.1 (c + 100 * j) ≠ 0)) j (r + 1) = (decide (S.1 (c + 100 * j) ≠ 0) || exB (fun j => decide (S.1 (c + 100 * j) ≠ 0)) (j + 1) r) := rfl
    rw [es]
    by_cases c0 : S.1 (c + 100 * j) = 0
    · rw [if_pos c0, b_80_41, b_80_42, bnd_e, nI_add, show c + 100 * j + 100 = c + 100 * (j + 1) by omega, ih (j + 1) m (by omega), decide_eq_false (fun z => z c0), Bool.false_or]
    · rw [if_neg c0, b_80_37, b_80_42, bnd_e, nI_add, decide_eq_true c0, Bool.true_or, show r + 2 + m = (r + 1 + m) + 1 by omega, l_80_15, b_80_15]
      by_cases c1 : nI 24300 ≤ nI (c + 100 * j + 100)
      · rw [if_pos c1]; rfl
      · rw [if_neg c1, b_80_23, if_pos nI10]; rfl
theorem l_80 {h : Hp} (hF : Fix h) (hC : CB h po pq S) (hog : ∀ st, S.1 st < 1000000) : ∀ r c n m, c + r = 100 → l_80_4 (r + 1 + m) (some 51) (nI n) (nI c) h = some (nI (n + fb_ct (seenC S.1) 100 - fb_ct (seenC S.1) c), h) := by
  intro r
  induction r with
  | zero =>
    intro c n m hc
    obtain rfl : c = 100 := by omega
    rw [show 0 + 1 + m = m + 1 by omega, l_80_4, b_80_4, if_pos (Int32.le_refl _), b_80_67]
    congr 3
    omega
  | succ r ih =>
    intro c n m hc
    have e := fb_ct_succ (seenC S.1) c
    have f := fb_ct_mono (seenC S.1) (show c + 1 ≤ 100 by omega)
    obtain ⟨m2, hm2⟩ := FU_ge (243 + 2) (by omega)
    rw [show r + 1 + 1 + m = (r + 1 + m) + 1 by omega, l_80_4, b_80_4, if_neg (by rw [nI_leI (by omega) (by omega)]; omega), b_80_10, bnd_e, hm2]
    have li := l_80i (n := nI n) (k4 := l_80_4 (r + 1 + m)) hF hC hog (show c < 100 by omega) 243 0 m2 (by omega)
    rw [show c + 100 * 0 = c by omega] at li
    rw [li, b_80_49]
    have sc : exB (fun j => decide (S.1 (c + 100 * j) ≠ 0)) 0 243 = seenC S.1 c := rfl
    rw [sc]
    simp only [bI_0']
    cases hb : seenC S.1 c
    · rw [if_pos rfl, b_80_58, b_80_59, bnd_e, bnd_e, nI_add, nI_add, ih (c + 1) (n + 0) m (by omega), e, hb]
      congr 3
    · rw [if_neg (by simp), b_80_54, b_80_59, bnd_e, bnd_e, nI_add, nI_add, ih (c + 1) (n + 1) m (by omega), e, hb]
      rw [hb] at e
      simp at e
      congr 3
      simp
      omega
theorem s_80 {h : Hp} (hF : Fix h) (hC : CB h po pq S) (hQI : QI E S) : f_80 (some 51) h = some (nI (fb_ct (seenC S.1) 100), h) := by
  obtain ⟨m, hm⟩ := FU_ge (100 + 1) (by omega)
  rw [f_80, b_80_0, bnd_e, bnd_e, hm, l_80 hF hC hQI.og 100 0 0 m (by omega)]
  congr 3
  show 0 + _ - fb_ct (seenC S.1) 0 = _
  have : fb_ct (seenC S.1) 0 = 0 := rfl
  omega
theorem seenC_iff (hQI : QI E S) {c : Nat} (hc : c < 100) : seenC S.1 c = true ↔ ∃ t, t < S.2.2 ∧ S.2.1 t % 100 = c := by
  unfold seenC
  rw [exB_iff]
  constructor
  · rintro ⟨j, _, h2, h3⟩
    obtain ⟨i, hi, he⟩ := hQI.2.2.2.1 _ (of_decide_eq_true h3)
    exact ⟨i, hi, by rw [he]; omega⟩
  · rintro ⟨t, ht, he⟩
    have q := hQI.2.2.1 t ht
    refine ⟨S.2.1 t / 100, by omega, by omega, decide_eq_true ?_⟩
    rw [show c + 100 * (S.2.1 t / 100) = S.2.1 t by omega]
    exact q.2.1
/-- cells that were met -/
def MET (h : Hp) (p : Nat → Bool) : Prop := ∀ c, c < 100 → hI h 95 c = bI (p c)
theorem nI1a : nI 1 &&& 1 = nI 1 := by decide
theorem nI0a : nI 0 &&& 1 = nI 0 := by decide
theorem MET.set {h : Hp} {p : Nat → Bool} {x : Nat} (hM : MET h p) : MET (sI h 95 x (nI 1)) (fun c => decide (c = x) || p c) := by
  intro c hc
  rw [hI_sI]
  by_cases e : c = x
  · rw [if_pos ⟨rfl, e⟩]
    show nI 1 = bI (decide (c = x) || p c)
    have : (decide (c = x) || p c) = true := by simp [e]
    rw [this]; rfl
  · rw [if_neg (fun z => e z.2), hM c hc]
    show bI (p c) = bI (decide (c = x) || p c)
    have : (decide (c = x) || p c) = p c := by simp [e]
    rw [this]
theorem l_282c {v1 : Int32} : ∀ r i m h, i + r = 100 → Fix h → (∀ j, j < i → hI h 95 j = nI 0) → ∃ g, l_282_54 (r + 1 + m) (some 64) v1 (nI i) h = b_282_73 (some 64) v1 g ∧ Fz [95] h g ∧ MET g (fun _ => false) := by
  intro r
  induction r with
  | zero =>
    intro i m h hi hF hj
    obtain rfl : i = 100 := by omega
    refine ⟨h, ?_, Fz.rfl', fun c hc => by rw [hj c hc]; rfl⟩
    rw [show 0 + 1 + m = m + 1 by omega, l_282_54, b_282_54, if_pos (Int32.le_refl _)]
  | succ r ih =>
    intro i m h hi hF hj
    obtain ⟨g, a1, a2, a3⟩ := ih (i + 1) m (sI h 95 i (nI 0)) (by omega) (fx_sI hF (by omega)) (fun j hj' => by
      rw [hI_sI]
      by_cases c : j = i
      · rw [if_pos ⟨rfl, c⟩]
      · rw [if_neg (fun z => c z.2)]; exact hj j (by omega))
    refine ⟨g, ?_, Fz.then (Fz.sI Fz.rfl' (Or.inl (by simp))) a2, a3⟩
    rw [show r + 1 + 1 + m = (r + 1 + m) + 1 by omega, l_282_54, b_282_54, if_neg (by rw [nI_leI (by omega) (by omega)]; omega), b_282_60]
    simp (disch := first | assumption | (repeat' (first | apply fx_sI | apply fx_sJ | assumption | omega))) only [bnd_e, grd_e, grd0, grd1, Option.bind_some, Option.isSome_some, gQ30_0, gQ30_1, gQ30_2, gQ30_3, gQ30_4, gQ30_5, gQ30_6, gQ30_7, gQ30_8, gQ30_9, gQ31_0, gQ33_0, gQ33_1, gQ36_0, gQ36_1, gQ39_0, gQ39_3, gQ39_4, gQ39_6, gQ39_8, gQ39_10, gQ39_11, gQ39_12, gQ48_0, gQ48_1, gQ51_2, gQ53_0, gQ53_1, gQ60_0, gQ60_1, gQ60_2, gQ64_1, gQ64_14, gQ64_15, gQ64_16, gQ64_17, gQ64_18, gQ64_19, gQ64_20, gQ64_21, gQ64_24, gQ64_25, gQ64_27, gQ64_28, gQ64_29, gQ64_30, gQ64_31, gQ64_34, gQ64_35, gQ64_36, gQ64_39, gQ64_40, gQ64_41, gQ64_43, gQ64_44, gQ64_48, gQ64_50, gQ64_51, gQ64_52, gQ64_53, gQ64_54, gQ64_58, gQ64_59, gI30, gJ30, pI30, pJ30, rC30, gI31, gJ31, pI31, pJ31, rC31, gI33, gJ33, pI33, pJ33, rC33, gI36, gJ36, pI36, pJ36, rC36, gI39, gJ39, pI39, pJ39, rC39, gI48, gJ48, pI48, pJ48, rC48, gI51, gJ51, pI51, pJ51, rC51, gI53, gJ53, pI53, pJ53, rC53, gI60, gJ60, pI60, pJ60, rC60, gI64, gJ64, pI64, pJ64, rC64, aI27, aL27, aI28, aL28, aI32, wI32, aL32, aI34, wI34, aL34, aI35, wI35, aL35, aI37, wI37, aL37, aI38, wI38, aL38, aJ40, wJ40, aL40, aI41, wI41, aL41, aI42, wI42, aL42, aI43, wI43, aL43, aI44, wI44, aL44, aI45, wI45, aL45, aI46, wI46, aL46, aI47, wI47, aL47, aI49, wI49, aL49, aI50, wI50, aL50, aI52, wI52, aL52, aI54, wI54, aL54, aI55, wI55, aL55, aL56, aL57, aL58, aI59, wI59, aL59, aI61, wI61, aL61, aL62, aI63, wI63, aL63, aI65, wI65, aL65, aI66, wI66, aL66, aI67, wI67, aL67, aI68, wI68, aL68, aI69, wI69, aL69, aJ70, wJ70, aL70, aJ71, wJ71, aL71, aJ72, wJ72, aL72, aZ73, wZ73, aL73, aI74, wI74, aL74, aI75, wI75, aL75, aJ76, wJ76, aL76, aJ77, wJ77, aL77, aI78, wI78, aL78, aI79, wI79, aL79, aI80, wI80, aL80, aI81, wI81, aL81, aI82, wI82, aL82, aI83, wI83, aL83, aI84, wI84, aL84, aI85, wI85, aL85, aI86, wI86, aL86, aI87, wI87, aL87, aI88, wI88, aL88, aI89, wI89, aL89, aI90, wI90, aL90, aI91, wI91, aL91, aI92, wI92, aL92, aI93, wI93, aL93, aI94, wI94, aL94, aZ95, wZ95, aL95, aI96, wI96, aL96, aJ97, wJ97, aL97, hF, nI0a, nI_add]
    exact a1
theorem l_282n {h : Hp} {p : Nat → Bool} (hF : Fix h) (hM : MET h p) : ∀ r c n m, c + r = 100 → l_282_126 (r + 1 + m) (some 64) (nI n) (nI c) h = some (nI (n + fb_ct p 100 - fb_ct p c), h) := by
  intro r
  induction r with
  | zero =>
    intro c n m hc
    obtain rfl : c = 100 := by omega
    rw [show 0 + 1 + m = m + 1 by omega, l_282_126, b_282_126, if_pos (Int32.le_refl _), b_282_150]
    congr 3
    omega
  | succ r ih =>
    intro c n m hc
    have e := fb_ct_succ p c
    have f := fb_ct_mono p (show c + 1 ≤ 100 by omega)
    rw [show r + 1 + 1 + m = (r + 1 + m) + 1 by omega, l_282_126, b_282_126, if_neg (by rw [nI_leI (by omega) (by omega)]; omega), b_282_132]
    simp (disch := first | assumption | (repeat' (first | apply fx_sI | apply fx_sJ | assumption | omega))) only [bnd_e, grd_e, grd0, grd1, Option.bind_some, Option.isSome_some, gQ30_0, gQ30_1, gQ30_2, gQ30_3, gQ30_4, gQ30_5, gQ30_6, gQ30_7, gQ30_8, gQ30_9, gQ31_0, gQ33_0, gQ33_1, gQ36_0, gQ36_1, gQ39_0, gQ39_3, gQ39_4, gQ39_6, gQ39_8, gQ39_10, gQ39_11, gQ39_12, gQ48_0, gQ48_1, gQ51_2, gQ53_0, gQ53_1, gQ60_0, gQ60_1, gQ60_2, gQ64_1, gQ64_14, gQ64_15, gQ64_16, gQ64_17, gQ64_18, gQ64_19, gQ64_20, gQ64_21, gQ64_24, gQ64_25, gQ64_27, gQ64_28, gQ64_29, gQ64_30, gQ64_31, gQ64_34, gQ64_35, gQ64_36, gQ64_39, gQ64_40, gQ64_41, gQ64_43, gQ64_44, gQ64_48, gQ64_50, gQ64_51, gQ64_52, gQ64_53, gQ64_54, gQ64_58, gQ64_59, gI30, gJ30, pI30, pJ30, rC30, gI31, gJ31, pI31, pJ31, rC31, gI33, gJ33, pI33, pJ33, rC33, gI36, gJ36, pI36, pJ36, rC36, gI39, gJ39, pI39, pJ39, rC39, gI48, gJ48, pI48, pJ48, rC48, gI51, gJ51, pI51, pJ51, rC51, gI53, gJ53, pI53, pJ53, rC53, gI60, gJ60, pI60, pJ60, rC60, gI64, gJ64, pI64, pJ64, rC64, aI27, aL27, aI28, aL28, aI32, wI32, aL32, aI34, wI34, aL34, aI35, wI35, aL35, aI37, wI37, aL37, aI38, wI38, aL38, aJ40, wJ40, aL40, aI41, wI41, aL41, aI42, wI42, aL42, aI43, wI43, aL43, aI44, wI44, aL44, aI45, wI45, aL45, aI46, wI46, aL46, aI47, wI47, aL47, aI49, wI49, aL49, aI50, wI50, aL50, aI52, wI52, aL52, aI54, wI54, aL54, aI55, wI55, aL55, aL56, aL57, aL58, aI59, wI59, aL59, aI61, wI61, aL61, aL62, aI63, wI63, aL63, aI65, wI65, aL65, aI66, wI66, aL66, aI67, wI67, aL67, aI68, wI68, aL68, aI69, wI69, aL69, aJ70, wJ70, aL70, aJ71, wJ71, aL71, aJ72, wJ72, aL72, aZ73, wZ73, aL73, aI74, wI74, aL74, aI75, wI75, aL75, aJ76, wJ76, aL76, aJ77, wJ77, aL77, aI78, wI78, aL78, aI79, wI79, aL79, aI80, wI80, aL80, aI81, wI81, aL81, aI82, wI82, aL82, aI83, wI83, aL83, aI84, wI84, aL84, aI85, wI85, aL85, aI86, wI86, aL86, aI87, wI87, aL87, aI88, wI88, aL88, aI89, wI89, aL89, aI90, wI90, aL90, aI91, wI91, aL91, aI92, wI92, aL92, aI93, wI93, aL93, aI94, wI94, aL94, aZ95, wZ95, aL95, aI96, wI96, aL96, aJ97, wJ97, aL97, hF, hM c (show c < 100 by omega), bI_0']
    cases hb : p c
    · rw [if_pos rfl, b_282_144, bnd_e, nI_add, ih (c + 1) n m (by omega), e, hb]
      congr 3
    · rw [if_neg (by simp), b_282_141, bnd_e, b_282_144, bnd_e, nI_add, nI_add, ih (c + 1) (n + 1) m (by omega), e, hb]
      rw [hb] at e
      simp at e
      congr 3
      simp
      omega
theorem s_282n {h : Hp} {p : Nat → Bool} (hF : Fix h) (hM : MET h p) : b_282_124 (some 64) (nI 0) h = some (nI (fb_ct p 100), h) := by
  obtain ⟨m, hm⟩ := FU_ge (100 + 1) (by omega)
  rw [b_282_124, bnd_e, hm, l_282n hF hM 100 0 0 m (by omega)]
  congr 3
  have : fb_ct p 0 = 0 := rfl
  omega
theorem l_282q (hQI : QI E S) : ∀ r i m h p, i + r = S.2.2 → Fix h → (∀ i, i < S.2.2 → hI h 90 i = nI (S.2.1 i)) → hI h 64 55 = nI S.2.2 → MET h p → (∀ c, p c = true ↔ ∃ t, t < i ∧ S.2.1 t % 100 = c) →
    ∃ g p', l_282_88 (r + 1 + m) (some 64) (nI 0) (nI i) h = b_282_124 (some 64) (nI 0) g ∧ Fz [95] h g ∧ MET g p' ∧ (∀ c, p' c = true ↔ ∃ t, t < S.2.2 ∧ S.2.1 t % 100 = c) := by
  have ql := hQI.le
  intro r
  induction r with
  | zero =>
    intro i m h p hi hF hq h55 hM hp
    obtain rfl : i = S.2.2 := by omega
    refine ⟨h, p, ?_, Fz.rfl', hM, hp⟩
    rw [show 0 + 1 + m = m + 1 by omega, l_282_88, b_282_88]
    simp (disch := first | assumption | (repeat' (first | apply fx_sI | apply fx_sJ | assumption | omega))) only [bnd_e, grd_e, grd0, grd1, Option.bind_some, Option.isSome_some, gQ30_0, gQ30_1, gQ30_2, gQ30_3, gQ30_4, gQ30_5, gQ30_6, gQ30_7, gQ30_8, gQ30_9, gQ31_0, gQ33_0, gQ33_1, gQ36_0, gQ36_1, gQ39_0, gQ39_3, gQ39_4, gQ39_6, gQ39_8, gQ39_10, gQ39_11, gQ39_12, gQ48_0, gQ48_1, gQ51_2, gQ53_0, gQ53_1, gQ60_0, gQ60_1, gQ60_2, gQ64_1, gQ64_14, gQ64_15, gQ64_16, gQ64_17, gQ64_18, gQ64_19, gQ64_20, gQ64_21, gQ64_24, gQ64_25, gQ64_27, gQ64_28, gQ64_29, gQ64_30, gQ64_31, gQ64_34, gQ64_35, gQ64_36, gQ64_39, gQ64_40, gQ64_41, gQ64_43, gQ64_44, gQ64_48, gQ64_50, gQ64_51, gQ64_52, gQ64_53, gQ64_54, gQ64_58, gQ64_59, gI30, gJ30, pI30, pJ30, rC30, gI31, gJ31, pI31, pJ31, rC31, gI33, gJ33, pI33, pJ33, rC33, gI36, gJ36, pI36, pJ36, rC36, gI39, gJ39, pI39, pJ39, rC39, gI48, gJ48, pI48, pJ48, rC48, gI51, gJ51, pI51, pJ51, rC51, gI53, gJ53, pI53, pJ53, rC53, gI60, gJ60, pI60, pJ60, rC60, gI64, gJ64, pI64, pJ64, rC64, hF, h55, nI_leI, Nat.le_refl, if_true]
    rw [b_282_117]
  | succ r ih =>
    intro i m h p hi hF hq h55 hM hp
    have qi := (hQI.2.2.1 i (by omega)).1
    have z1 : Fz [95] h (sI h 95 (S.2.1 i % 100) (nI 1)) := Fz.sI Fz.rfl' (Or.inl (by simp))
    obtain ⟨g, p', a1, a2, a3, a4⟩ := ih (i + 1) m (sI h 95 (S.2.1 i % 100) (nI 1)) _ (by omega) (fx_sI hF (by omega)) (fun j hj => by rw [hI_sI, if_neg (by omega)]; exact hq j hj) (by rw [hI_sI, if_neg (by omega)]; exact h55) hM.set (fun c => by
      simp only [Bool.or_eq_true, decide_eq_true_eq, hp]
      constructor
      · rintro (e | ⟨t, h1, h2⟩)
        · exact ⟨i, by omega, e.symm⟩
        · exact ⟨t, by omega, h2⟩
      · rintro ⟨t, h1, h2⟩
        by_cases e : t = i
        · left; rw [← h2, e]
        · right; exact ⟨t, by omega, h2⟩)
    refine ⟨g, p', ?_, z1.then a2, a3, a4⟩
    rw [show r + 1 + 1 + m = (r + 1 + m) + 1 by omega, l_282_88, b_282_88]
    simp (disch := first | assumption | (repeat' (first | apply fx_sI | apply fx_sJ | assumption | omega))) only [bnd_e, grd_e, grd0, grd1, Option.bind_some, Option.isSome_some, gQ30_0, gQ30_1, gQ30_2, gQ30_3, gQ30_4, gQ30_5, gQ30_6, gQ30_7, gQ30_8, gQ30_9, gQ31_0, gQ33_0, gQ33_1, gQ36_0, gQ36_1, gQ39_0, gQ39_3, gQ39_4, gQ39_6, gQ39_8, gQ39_10, gQ39_11, gQ39_12, gQ48_0, gQ48_1, gQ51_2, gQ53_0, gQ53_1, gQ60_0, gQ60_1, gQ60_2, gQ64_1, gQ64_14, gQ64_15, gQ64_16, gQ64_17, gQ64_18, gQ64_19, gQ64_20, gQ64_21, gQ64_24, gQ64_25, gQ64_27, gQ64_28, gQ64_29, gQ64_30, gQ64_31, gQ64_34, gQ64_35, gQ64_36, gQ64_39, gQ64_40, gQ64_41, gQ64_43, gQ64_44, gQ64_48, gQ64_50, gQ64_51, gQ64_52, gQ64_53, gQ64_54, gQ64_58, gQ64_59, gI30, gJ30, pI30, pJ30, rC30, gI31, gJ31, pI31, pJ31, rC31, gI33, gJ33, pI33, pJ33, rC33, gI36, gJ36, pI36, pJ36, rC36, gI39, gJ39, pI39, pJ39, rC39, gI48, gJ48, pI48, pJ48, rC48, gI51, gJ51, pI51, pJ51, rC51, gI53, gJ53, pI53, pJ53, rC53, gI60, gJ60, pI60, pJ60, rC60, gI64, gJ64, pI64, pJ64, rC64, hF, h55, nI_leI, show ¬ S.2.2 ≤ i by omega, if_false]
    rw [b_282_96]
    simp (disch := first | assumption | (repeat' (first | apply fx_sI | apply fx_sJ | assumption | omega))) only [bnd_e, grd_e, grd0, grd1, Option.bind_some, Option.isSome_some, gQ30_0, gQ30_1, gQ30_2, gQ30_3, gQ30_4, gQ30_5, gQ30_6, gQ30_7, gQ30_8, gQ30_9, gQ31_0, gQ33_0, gQ33_1, gQ36_0, gQ36_1, gQ39_0, gQ39_3, gQ39_4, gQ39_6, gQ39_8, gQ39_10, gQ39_11, gQ39_12, gQ48_0, gQ48_1, gQ51_2, gQ53_0, gQ53_1, gQ60_0, gQ60_1, gQ60_2, gQ64_1, gQ64_14, gQ64_15, gQ64_16, gQ64_17, gQ64_18, gQ64_19, gQ64_20, gQ64_21, gQ64_24, gQ64_25, gQ64_27, gQ64_28, gQ64_29, gQ64_30, gQ64_31, gQ64_34, gQ64_35, gQ64_36, gQ64_39, gQ64_40, gQ64_41, gQ64_43, gQ64_44, gQ64_48, gQ64_50, gQ64_51, gQ64_52, gQ64_53, gQ64_54, gQ64_58, gQ64_59, gI30, gJ30, pI30, pJ30, rC30, gI31, gJ31, pI31, pJ31, rC31, gI33, gJ33, pI33, pJ33, rC33, gI36, gJ36, pI36, pJ36, rC36, gI39, gJ39, pI39, pJ39, rC39, gI48, gJ48, pI48, pJ48, rC48, gI51, gJ51, pI51, pJ51, rC51, gI53, gJ53, pI53, pJ53, rC53, gI60, gJ60, pI60, pJ60, rC60, gI64, gJ64, pI64, pJ64, rC64, aI27, aL27, aI28, aL28, aI32, wI32, aL32, aI34, wI34, aL34, aI35, wI35, aL35, aI37, wI37, aL37, aI38, wI38, aL38, aJ40, wJ40, aL40, aI41, wI41, aL41, aI42, wI42, aL42, aI43, wI43, aL43, aI44, wI44, aL44, aI45, wI45, aL45, aI46, wI46, aL46, aI47, wI47, aL47, aI49, wI49, aL49, aI50, wI50, aL50, aI52, wI52, aL52, aI54, wI54, aL54, aI55, wI55, aL55, aL56, aL57, aL58, aI59, wI59, aL59, aI61, wI61, aL61, aL62, aI63, wI63, aL63, aI65, wI65, aL65, aI66, wI66, aL66, aI67, wI67, aL67, aI68, wI68, aL68, aI69, wI69, aL69, aJ70, wJ70, aL70, aJ71, wJ71, aL71, aJ72, wJ72, aL72, aZ73, wZ73, aL73, aI74, wI74, aL74, aI75, wI75, aL75, aJ76, wJ76, aL76, aJ77, wJ77, aL77, aI78, wI78, aL78, aI79, wI79, aL79, aI80, wI80, aL80, aI81, wI81, aL81, aI82, wI82, aL82, aI83, wI83, aL83, aI84, wI84, aL84, aI85, wI85, aL85, aI86, wI86, aL86, aI87, wI87, aL87, aI88, wI88, aL88, aI89, wI89, aL89, aI90, wI90, aL90, aI91, wI91, aL91, aI92, wI92, aL92, aI93, wI93, aL93, aI94, wI94, aL94, aZ95, wZ95, aL95, aI96, wI96, aL96, aJ97, wJ97, aL97, hF, hq i (show i < S.2.2 by omega), d100, ↓pk_rem, nI1a, nI_add]
    exact a1
/-! steps alone -/
def exW (E an : Nat → Nat) (c : Nat) : Nat → Nat → (Nat → Nat) × (Nat → Nat) × Nat → (Nat → Nat) × (Nat → Nat) × Nat
  | 0, _, S => S
  | r + 1, A, S => exW E an c r (A + 1) (if stepK E an (c + 1) A = 0 then seeS S (cN (tgt (c + 1) A)) 1 else S)
def bfW (E an : Nat → Nat) : Nat → Nat → (Nat → Nat) × (Nat → Nat) × Nat → (Nat → Nat) × (Nat → Nat) × Nat
  | 0, _, S => S
  | f + 1, i, S => if S.2.2 ≤ i then S else bfW E an f (i + 1) (exW E an (S.2.1 i) 4 0 S)
def WQ (S : (Nat → Nat) × (Nat → Nat) × Nat) : Prop := (∀ i, i < S.2.2 → S.2.1 i < 100) ∧ (∀ c, S.1 c ≤ 1) ∧ S.2.2 = fb_ct (fun c => decide (S.1 c ≠ 0)) 100
theorem WQ.le (h : WQ S) : S.2.2 ≤ 100 := by rw [h.2.2]; exact fb_ct_le _ _
theorem WQ.see {st : Nat} (h : WQ S) (hst : st < 100) : WQ (seeS S st 1) := by
  unfold seeS
  by_cases c : S.1 st = 0
  · rw [if_pos c]
    obtain ⟨h1, h2, h3⟩ := h
    refine ⟨fun i hi => ?_, fun x => ?_, ?_⟩
    · have hi : i < S.2.2 + 1 := hi
      show upn S.2.1 S.2.2 st i < 100
      unfold upn
      split
      · exact hst
      · exact h1 i (by omega)
    · show upn S.1 st 1 x ≤ 1
      unfold upn
      split
      · omega
      · exact h2 x
    · show S.2.2 + 1 = fb_ct (fun c => decide (upn S.1 st 1 c ≠ 0)) 100
      have u := fb_ct_upd (fun c => decide (S.1 c ≠ 0)) true hst
      have e : (fun c => decide (upn S.1 st 1 c ≠ 0)) = (fun k => if k = st then true else decide (S.1 k ≠ 0)) := by
        funext k
        unfold upn
        by_cases ek : k = st
        · simp [ek]
        · simp [ek]
      rw [e]
      have e2 : decide (S.1 st ≠ 0) = false := decide_eq_false (fun z => z c)
      rw [e2] at u
      simp at u
      simp at h3
      simp
      omega
  · rw [if_neg c]; exact h
theorem WQ.rm {st : Nat} (h : WQ S) (hst : st < 100) (h0 : S.1 st = 0) : S.2.2 < 100 := by
  have h1 := (h.see hst).le
  unfold seeS at h1
  rw [if_pos h0] at h1
  have h1 : S.2.2 + 1 ≤ 100 := h1
  omega
theorem step_in (hW : WF E) {c A : Nat} (hk : stepK E an (c + 1) A = 0) : wkB E (tgt (c + 1) A) = true ∧ cN (tgt (c + 1) A) < 100 := by
  unfold stepK at hk
  cases hw : wkB E (tgt (c + 1) A)
  · rw [hw, if_pos rfl] at hk; omega
  · have b := wkB_in ⟨hW.1, hW.2.1⟩ hw
    exact ⟨rfl, cN_lt (x := (tgt (c + 1) A).1) (y := (tgt (c + 1) A).2) b⟩
theorem WQ.ex (hW : WF E) {c : Nat} : ∀ r A (S : (Nat → Nat) × (Nat → Nat) × Nat), WQ S → WQ (exW E an c r A S) ∧ S.2.2 ≤ (exW E an c r A S).2.2 ∧ ∀ i, i < S.2.2 → (exW E an c r A S).2.1 i = S.2.1 i := by
  intro r
  induction r with
  | zero => intro A S h; exact ⟨h, Nat.le_refl _, fun _ _ => rfl⟩
  | succ r ih =>
    intro A S h
    have es : exW E an c (r + 1) A S = exW E an c r (A + 1) (if stepK E an (c + 1) A = 0 then seeS S (cN (tgt (c + 1) A)) 1 else S) := rfl
    rw [es]
    by_cases k : stepK E an (c + 1) A = 0
    · simp only [if_pos k]
      have m := see_mono (S := S) (cN (tgt (c + 1) A)) 1
      obtain ⟨a, b, e⟩ := ih (A + 1) _ (h.see (step_in hW k).2)
      exact ⟨a, by omega, fun i hi => by rw [e i (by omega), m.2 i hi]⟩
    · simp only [if_neg k]
      exact ih (A + 1) S h
theorem WQ.bf (hW : WF E) : ∀ f i (S : (Nat → Nat) × (Nat → Nat) × Nat), WQ S → WQ (bfW E an f i S) := by
  intro f
  induction f with
  | zero => intro i S h; exact h
  | succ f ih =>
    intro i S h
    show WQ (if S.2.2 ≤ i then S else _)
    split
    · exact h
    · exact ih _ _ (h.ex hW 4 0 S).1
theorem WQ.one {st : Nat} (hst : st < 100) : WQ (seeS S00 st 1) := by
  apply WQ.see (S := S00) _ hst
  refine ⟨fun i hi => absurd hi (Nat.not_lt_zero i), fun _ => by show 0 ≤ 1; omega, ?_⟩
  show 0 = fb_ct (fun c => decide ((0 : Nat) ≠ 0)) 100
  symm
  rw [fb_ct_zero]
  intro k _
  rfl
end SEEN
