/-! the reference: what is swept, which hangings fit -/
def fitP (E : Nat → Nat) (d : Nat) : Nat → Nat
  | 0 => 0
  | g + 1 => fitP E d g ||| (if mayB E d g = true then 2 ^ g else 0)
def fitM (E : Nat → Nat) (d : Nat) : Nat := fitP E d 4
theorem fitP_lt (E : Nat → Nat) (d : Nat) : ∀ g, fitP E d g < 2 ^ g
  | 0 => Nat.zero_lt_one
  | g + 1 => by
    have h1 := fitP_lt E d g
    have h2 := pw_lt (show g < g + 1 by omega)
    show fitP E d g ||| _ < 2 ^ (g + 1)
    apply or_lt
    · omega
    · split
      · exact h2
      · omega
theorem fitP_tb (E : Nat → Nat) (d j : Nat) : ∀ g, (fitP E d g).testBit j = (decide (j < g) && mayB E d j)
  | 0 => by show (0 : Nat).testBit j = _; simp
  | g + 1 => by
    show (fitP E d g ||| _).testBit j = _
    rw [Nat.testBit_or, fitP_tb E d j g]
    by_cases c : j = g
    · subst c
      have : decide (j < j) = false := by simp
      rw [this, Bool.false_and, Bool.false_or, decide_eq_true (by omega), Bool.true_and]
      cases hm : mayB E d j
      · simp
      · simp [Nat.testBit_two_pow_self]
    · have h2 : (if mayB E d g = true then 2 ^ g else 0).testBit j = false := by
        split
        · rw [Nat.testBit_two_pow_of_ne (by omega)]
        · exact Nat.zero_testBit j
      rw [h2, Bool.or_false]
      by_cases e : j < g
      · rw [decide_eq_true e, decide_eq_true (by omega)]
      · rw [decide_eq_false e, decide_eq_false (by omega)]
theorem fitM_tb (E : Nat → Nat) (d : Nat) {j : Nat} (hj : j < 4) : (fitM E d).testBit j = mayB E d j := by
  unfold fitM
  rw [fitP_tb, decide_eq_true hj, Bool.true_and]
theorem fitM_lt (E : Nat → Nat) (d : Nat) : fitM E d < 16 := fitP_lt E d 4
def loF (l : List (Int × Int)) (m : Nat) : Nat := l.foldl (fun m p => if inB p = true ∧ cN p < 50 then m ||| 2 ^ cN p else m) m
def hiF (l : List (Int × Int)) (m : Nat) : Nat := l.foldl (fun m p => if inB p = true ∧ 50 ≤ cN p then m ||| 2 ^ (cN p - 50) else m) m
theorem loM_app (a b : List (Int × Int)) : loM (a ++ b) = loF b (loM a) := List.foldl_append
theorem hiM_app (a b : List (Int × Int)) : hiM (a ++ b) = hiF b (hiM a) := List.foldl_append
theorem flE_in {E : Nat → Nat} {p : Int × Int} (h0 : E 0 ≤ 10 ∧ E 1 ≤ 10) (h : flE E p = true) : 0 ≤ p.1 ∧ p.1 < 10 ∧ 0 ≤ p.2 ∧ p.2 < 10 ∧ inB p = true ∧ cN p < 100 := by
  unfold flE at h
  rw [Bool.and_eq_true] at h
  have := of_decide_eq_true h.1
  have e : inB p = true := decide_eq_true (by omega)
  exact ⟨by omega, by omega, by omega, by omega, e, inB_lt e⟩
section SWEPT
variable {E : Nat → Nat}
theorem l_225a {l : List (Int × Int)} (k6 k23 k85) {d g k a : Nat} (hW : E 0 ≤ 10 ∧ E 1 ≤ 10) (h4 : l.length ≤ 4) (hk : k < 40) (ha : a < 100) (hb : l.all (flE E) = true) : ∀ r i m h A B, Fix h → LfS h l → i + r = l.length → hJ h 76 k = lN A → hJ h 77 k = lN B →
    ∃ h', l_225_108 k6 k23 k85 (r + 1 + m) (some 64) (nI d) (nI g) (nI k) (nI a) (nI i) h = k85 (some 64) (nI d) (nI g) (nI k) (nI (a + 1)) h' ∧ Fz [1000000 * (k + 1) + 76, 1000000 * (k + 1) + 77] h h' ∧ hJ h' 76 k = lN (loF (l.drop i) A) ∧ hJ h' 77 k = lN (hiF (l.drop i) B) := by
  intro r
  induction r with
  | zero =>
    intro i m h A B hF hl hi h6 h7
    obtain rfl : i = l.length := by omega
    refine ⟨h, ?_, Fz.rfl', ?_, ?_⟩
    · rw [show 0 + 1 + m = m + 1 by omega]
      simp (disch := first | assumption | (repeat' (first | apply fx_sI | apply fx_sJ | assumption | omega))) only [l_225_108, f_225, b_225_0, b_225_6, b_225_14, b_225_23, b_225_28, b_225_61, b_225_70, b_225_82, b_225_85, b_225_91, b_225_102, b_225_105, b_225_108, b_225_117, b_225_144, b_225_160, b_225_176, b_225_182, b_225_188, b_225_194, b_225_200, ↓reduceIte, bnd_e, grd_e, grd0, grd1, Option.bind_some, Option.isSome_some, gQ30_0, gQ30_1, gQ30_2, gQ30_3, gQ30_4, gQ30_5, gQ30_6, gQ30_7, gQ30_8, gQ30_9, gQ31_0, gQ33_0, gQ33_1, gQ36_0, gQ36_1, gQ39_0, gQ39_3, gQ39_4, gQ39_6, gQ39_8, gQ39_10, gQ39_11, gQ39_12, gQ48_0, gQ48_1, gQ51_2, gQ53_0, gQ53_1, gQ60_0, gQ60_1, gQ60_2, gQ64_1, gQ64_14, gQ64_15, gQ64_16, gQ64_17, gQ64_18, gQ64_19, gQ64_20, gQ64_21, gQ64_24, gQ64_25, gQ64_27, gQ64_28, gQ64_29, gQ64_30, gQ64_31, gQ64_34, gQ64_35, gQ64_36, gQ64_39, gQ64_40, gQ64_41, gQ64_43, gQ64_44, gQ64_48, gQ64_50, gQ64_51, gQ64_52, gQ64_53, gQ64_54, gQ64_58, gQ64_59, gI30, gJ30, pI30, pJ30, rC30, gI31, gJ31, pI31, pJ31, rC31, gI33, gJ33, pI33, pJ33, rC33, gI36, gJ36, pI36, pJ36, rC36, gI39, gJ39, pI39, pJ39, rC39, gI48, gJ48, pI48, pJ48, rC48, gI51, gJ51, pI51, pJ51, rC51, gI53, gJ53, pI53, pJ53, rC53, gI60, gJ60, pI60, pJ60, rC60, gI64, gJ64, pI64, pJ64, rC64, hF, hl.1, nI_leI, Nat.le_refl, if_true, nI_add]
    · rw [List.drop_length]; exact h6
    · rw [List.drop_length]; exact h7
  | succ r ih =>
    intro i m h A B hF hl hi h6 h7
    have hi' : i < l.length := by omega
    have hp := hl.2 i hi'
    have hm := List.all_eq_true.1 hb _ (getD_mem hi')
    rw [List.drop_eq_getElem_cons hi', ← getD_g hi']
    generalize l.getD i (0, 0) = p at hp hm
    obtain ⟨x, y⟩ := p
    have q := flE_in hW hm
    dsimp only at q hp
    have e1 : nI 10 * zI y + zI x = nI (cN (x, y)) := zI_cN (by omega)
    by_cases c : 50 ≤ cN (x, y)
    · have e2 : lN B ||| lN (2 ^ (cN (x, y) - 50)) = lN (B ||| 2 ^ (cN (x, y) - 50)) := fb_orL _ _
      have hF1 : Fix (sJ h 77 k (lN (B ||| 2 ^ (cN (x, y) - 50)))) := (Fix_sJ (by omega) _).2 hF
      obtain ⟨h', r1, r2, r3, r4⟩ := ih (i + 1) m (sJ h 77 k (lN (B ||| 2 ^ (cN (x, y) - 50)))) A (B ||| 2 ^ (cN (x, y) - 50)) hF1 hl (by omega) (by rw [hJ_sJ, if_neg (by omega)]; exact h6) (by rw [hJ_sJ, if_pos ⟨rfl, rfl⟩])
      refine ⟨h', ?_, Fz.then (Fz.sJ Fz.rfl' (Or.inr (by simp))) r2, ?_, ?_⟩
      · rw [show r + 1 + 1 + m = (r + 1 + m) + 1 by omega]
        simp (disch := first | assumption | (repeat' (first | apply fx_sI | apply fx_sJ | assumption | omega))) only [l_225_108, f_225, b_225_0, b_225_6, b_225_14, b_225_23, b_225_28, b_225_61, b_225_70, b_225_82, b_225_85, b_225_91, b_225_102, b_225_105, b_225_108, b_225_117, b_225_144, b_225_160, b_225_176, b_225_182, b_225_188, b_225_194, b_225_200, ↓reduceIte, bnd_e, grd_e, grd0, grd1, Option.bind_some, Option.isSome_some, gQ30_0, gQ30_1, gQ30_2, gQ30_3, gQ30_4, gQ30_5, gQ30_6, gQ30_7, gQ30_8, gQ30_9, gQ31_0, gQ33_0, gQ33_1, gQ36_0, gQ36_1, gQ39_0, gQ39_3, gQ39_4, gQ39_6, gQ39_8, gQ39_10, gQ39_11, gQ39_12, gQ48_0, gQ48_1, gQ51_2, gQ53_0, gQ53_1, gQ60_0, gQ60_1, gQ60_2, gQ64_1, gQ64_14, gQ64_15, gQ64_16, gQ64_17, gQ64_18, gQ64_19, gQ64_20, gQ64_21, gQ64_24, gQ64_25, gQ64_27, gQ64_28, gQ64_29, gQ64_30, gQ64_31, gQ64_34, gQ64_35, gQ64_36, gQ64_39, gQ64_40, gQ64_41, gQ64_43, gQ64_44, gQ64_48, gQ64_50, gQ64_51, gQ64_52, gQ64_53, gQ64_54, gQ64_58, gQ64_59, gI30, gJ30, pI30, pJ30, rC30, gI31, gJ31, pI31, pJ31, rC31, gI33, gJ33, pI33, pJ33, rC33, gI36, gJ36, pI36, pJ36, rC36, gI39, gJ39, pI39, pJ39, rC39, gI48, gJ48, pI48, pJ48, rC48, gI51, gJ51, pI51, pJ51, rC51, gI53, gJ53, pI53, pJ53, rC53, gI60, gJ60, pI60, pJ60, rC60, gI64, gJ64, pI64, pJ64, rC64, aI27, aL27, aI28, aL28, aI32, wI32, aL32, aI34, wI34, aL34, aI35, wI35, aL35, aI37, wI37, aL37, aI38, wI38, aL38, aJ40, wJ40, aL40, aI41, wI41, aL41, aI42, wI42, aL42, aI43, wI43, aL43, aI44, wI44, aL44, aI45, wI45, aL45, aI46, wI46, aL46, aI47, wI47, aL47, aI49, wI49, aL49, aI50, wI50, aL50, aI52, wI52, aL52, aI54, wI54, aL54, aI55, wI55, aL55, aL56, aL57, aL58, aI59, wI59, aL59, aI61, wI61, aL61, aL62, aI63, wI63, aL63, aI65, wI65, aL65, aI66, wI66, aL66, aI67, wI67, aL67, aI68, wI68, aL68, aI69, wI69, aL69, aJ70, wJ70, aL70, aJ71, wJ71, aL71, aJ72, wJ72, aL72, aZ73, wZ73, aL73, aI74, wI74, aL74, aI75, wI75, aL75, aJ76, wJ76, aL76, aJ77, wJ77, aL77, aI78, wI78, aL78, aI79, wI79, aL79, aI80, wI80, aL80, aI81, wI81, aL81, aI82, wI82, aL82, aI83, wI83, aL83, aI84, wI84, aL84, aI85, wI85, aL85, aI86, wI86, aL86, aI87, wI87, aL87, aI88, wI88, aL88, aI89, wI89, aL89, aI90, wI90, aL90, aI91, wI91, aL91, aI92, wI92, aL92, aI93, wI93, aL93, aI94, wI94, aL94, aZ95, wZ95, aL95, aI96, wI96, aL96, aJ97, wJ97, aL97, hF, hl.1, nI_leI, show ¬ l.length ≤ i by omega, if_false, hp.1, hp.2, e1, c, if_true, h7, pk_sub c, lN_1shl (show cN (x, y) - 50 < 64 by omega), e2, nI_add]
        exact r1
      · rw [r3]; unfold loF; rw [List.foldl_cons, if_neg (by omega)]
      · rw [r4]; unfold hiF; rw [List.foldl_cons, if_pos ⟨q.2.2.2.2.1, c⟩]
    · have e2 : lN A ||| lN (2 ^ (cN (x, y))) = lN (A ||| 2 ^ (cN (x, y))) := fb_orL _ _
      have hF1 : Fix (sJ h 76 k (lN (A ||| 2 ^ (cN (x, y))))) := (Fix_sJ (by omega) _).2 hF
      obtain ⟨h', r1, r2, r3, r4⟩ := ih (i + 1) m (sJ h 76 k (lN (A ||| 2 ^ (cN (x, y))))) (A ||| 2 ^ (cN (x, y))) B hF1 hl (by omega) (by rw [hJ_sJ, if_pos ⟨rfl, rfl⟩]) (by rw [hJ_sJ, if_neg (by omega)]; exact h7)
      refine ⟨h', ?_, Fz.then (Fz.sJ Fz.rfl' (Or.inr (by simp))) r2, ?_, ?_⟩
      · rw [show r + 1 + 1 + m = (r + 1 + m) + 1 by omega]
        simp (disch := first | assumption | (repeat' (first | apply fx_sI | apply fx_sJ | assumption | omega))) only [l_225_108, f_225, b_225_0, b_225_6, b_225_14, b_225_23, b_225_28, b_225_61, b_225_70, b_225_82, b_225_85, b_225_91, b_225_102, b_225_105, b_225_108, b_225_117, b_225_144, b_225_160, b_225_176, b_225_182, b_225_188, b_225_194, b_225_200, ↓reduceIte, bnd_e, grd_e, grd0, grd1, Option.bind_some, Option.isSome_some, gQ30_0, gQ30_1, gQ30_2, gQ30_3, gQ30_4, gQ30_5, gQ30_6, gQ30_7, gQ30_8, gQ30_9, gQ31_0, gQ33_0, gQ33_1, gQ36_0, gQ36_1, gQ39_0, gQ39_3, gQ39_4, gQ39_6, gQ39_8, gQ39_10, gQ39_11, gQ39_12, gQ48_0, gQ48_1, gQ51_2, gQ53_0, gQ53_1, gQ60_0, gQ60_1, gQ60_2, gQ64_1, gQ64_14, gQ64_15, gQ64_16, gQ64_17, gQ64_18, gQ64_19, gQ64_20, gQ64_21, gQ64_24, gQ64_25, gQ64_27, gQ64_28, gQ64_29, gQ64_30, gQ64_31, gQ64_34, gQ64_35, gQ64_36, gQ64_39, gQ64_40, gQ64_41, gQ64_43, gQ64_44, gQ64_48, gQ64_50, gQ64_51, gQ64_52, gQ64_53, gQ64_54, gQ64_58, gQ64_59, gI30, gJ30, pI30, pJ30, rC30, gI31, gJ31, pI31, pJ31, rC31, gI33, gJ33, pI33, pJ33, rC33, gI36, gJ36, pI36, pJ36, rC36, gI39, gJ39, pI39, pJ39, rC39, gI48, gJ48, pI48, pJ48, rC48, gI51, gJ51, pI51, pJ51, rC51, gI53, gJ53, pI53, pJ53, rC53, gI60, gJ60, pI60, pJ60, rC60, gI64, gJ64, pI64, pJ64, rC64, aI27, aL27, aI28, aL28, aI32, wI32, aL32, aI34, wI34, aL34, aI35, wI35, aL35, aI37, wI37, aL37, aI38, wI38, aL38, aJ40, wJ40, aL40, aI41, wI41, aL41, aI42, wI42, aL42, aI43, wI43, aL43, aI44, wI44, aL44, aI45, wI45, aL45, aI46, wI46, aL46, aI47, wI47, aL47, aI49, wI49, aL49, aI50, wI50, aL50, aI52, wI52, aL52, aI54, wI54, aL54, aI55, wI55, aL55, aL56, aL57, aL58, aI59, wI59, aL59, aI61, wI61, aL61, aL62, aI63, wI63, aL63, aI65, wI65, aL65, aI66, wI66, aL66, aI67, wI67, aL67, aI68, wI68, aL68, aI69, wI69, aL69, aJ70, wJ70, aL70, aJ71, wJ71, aL71, aJ72, wJ72, aL72, aZ73, wZ73, aL73, aI74, wI74, aL74, aI75, wI75, aL75, aJ76, wJ76, aL76, aJ77, wJ77, aL77, aI78, wI78, aL78, aI79, wI79, aL79, aI80, wI80, aL80, aI81, wI81, aL81, aI82, wI82, aL82, aI83, wI83, aL83, aI84, wI84, aL84, aI85, wI85, aL85, aI86, wI86, aL86, aI87, wI87, aL87, aI88, wI88, aL88, aI89, wI89, aL89, aI90, wI90, aL90, aI91, wI91, aL91, aI92, wI92, aL92, aI93, wI93, aL93, aI94, wI94, aL94, aZ95, wZ95, aL95, aI96, wI96, aL96, aJ97, wJ97, aL97, hF, hl.1, nI_leI, show ¬ l.length ≤ i by omega, if_false, hp.1, hp.2, e1, c, h6, lN_1shl (show cN (x, y) < 64 by omega), e2, nI_add]
        exact r1
      · rw [r3]; unfold loF; rw [List.foldl_cons, if_pos ⟨q.2.2.2.2.1, by omega⟩]
      · rw [r4]; unfold hiF; rw [List.foldl_cons, if_neg (by omega)]
/-- one angle -/
theorem l_225b (k6 k23) {d g a : Nat} (hD : DrW E d) (hg : g < 4) (ha : a = 1 ∨ a = 2) {h : Hp} {A B n : Nat} (hF : Fix h) (hE : NowE h E) (h6 : hJ h 76 (4 * d + g) = lN A) (h7 : hJ h 77 (4 * d + g) = lN B) :
    ∃ h', l_225_85 k6 k23 (n + 1) (some 64) (nI d) (nI g) (nI (4 * d + g)) (nI a) h = l_225_85 k6 k23 n (some 64) (nI d) (nI g) (nI (4 * d + g)) (nI (a + 1)) h' ∧ Fz [27000064, 74, 75, 1000000 * (4 * d + g + 1) + 76, 1000000 * (4 * d + g + 1) + 77] h h' ∧
      hJ h' 76 (4 * d + g) = lN (loF (if canB E d g a = true then lfc E d g a else []) A) ∧ hJ h' 77 (4 * d + g) = lN (hiF (if canB E d g a = true then lfc E d g a else []) B) := by
  obtain ⟨k, e1, z1, L1⟩ := s_221 (a := a) hF hE hD hg (by omega)
  have hF1 := z1.fix hF (by decide)
  have hE1 := hE.cg (z1.I (a := 66) (by decide))
  have hd := hD.1
  have na : ¬ 3 ≤ a := by omega
  cases c : canB E d g a
  · refine ⟨k, ?_, z1.wid (by intro z hz; simp only [List.mem_cons, List.not_mem_nil, or_false] at hz ⊢; omega), ?_, ?_⟩
    · rw [c] at e1
      simp (disch := first | assumption | (repeat' (first | apply fx_sI | apply fx_sJ | assumption | omega))) only [l_225_85, f_225, b_225_0, b_225_6, b_225_14, b_225_23, b_225_28, b_225_61, b_225_70, b_225_82, b_225_85, b_225_91, b_225_102, b_225_105, b_225_108, b_225_117, b_225_144, b_225_160, b_225_176, b_225_182, b_225_188, b_225_194, b_225_200, ↓reduceIte, bnd_e, grd_e, grd0, grd1, Option.bind_some, Option.isSome_some, gQ30_0, gQ30_1, gQ30_2, gQ30_3, gQ30_4, gQ30_5, gQ30_6, gQ30_7, gQ30_8, gQ30_9, gQ31_0, gQ33_0, gQ33_1, gQ36_0, gQ36_1, gQ39_0, gQ39_3, gQ39_4, gQ39_6, gQ39_8, gQ39_10, gQ39_11, gQ39_12, gQ48_0, gQ48_1, gQ51_2, gQ53_0, gQ53_1, gQ60_0, gQ60_1, gQ60_2, gQ64_1, gQ64_14, gQ64_15, gQ64_16, gQ64_17, gQ64_18, gQ64_19, gQ64_20, gQ64_21, gQ64_24, gQ64_25, gQ64_27, gQ64_28, gQ64_29, gQ64_30, gQ64_31, gQ64_34, gQ64_35, gQ64_36, gQ64_39, gQ64_40, gQ64_41, gQ64_43, gQ64_44, gQ64_48, gQ64_50, gQ64_51, gQ64_52, gQ64_53, gQ64_54, gQ64_58, gQ64_59, gI30, gJ30, pI30, pJ30, rC30, gI31, gJ31, pI31, pJ31, rC31, gI33, gJ33, pI33, pJ33, rC33, gI36, gJ36, pI36, pJ36, rC36, gI39, gJ39, pI39, pJ39, rC39, gI48, gJ48, pI48, pJ48, rC48, gI51, gJ51, pI51, pJ51, rC51, gI53, gJ53, pI53, pJ53, rC53, gI60, gJ60, pI60, pJ60, rC60, gI64, gJ64, pI64, pJ64, rC64, hF, nI_leI, na, if_false, e1, bI_0', not_true, nI_add]
    · rw [z1.J (a := 76) (by decide)]; exact h6
    · rw [z1.J (a := 77) (by decide)]; exact h7
  · rw [c] at e1
    obtain ⟨m, hm⟩ := FU_ge ((lfc E d g a).length + 1) (by have := lfc_len (g := g) (a := a) hD.2.2.2.2.2.1; omega)
    have hall : (lfc E d g a).all (flE E) = true := by
      unfold canB at c
      rcases ha with rfl | rfl <;> simpa using c
    obtain ⟨h', r1, r2, r3, r4⟩ := l_225a (E := E) k6 k23 (l_225_85 k6 k23 n) (d := d) (g := g) (k := 4 * d + g) (a := a) hD.2.2.2.2.2.2.2.2 (lfc_len hD.2.2.2.2.2.1) (by omega) (by omega) hall (lfc E d g a).length 0 m k A B hF1 (L1 (by omega)) (by omega) (by rw [z1.J (a := 76) (by decide)]; exact h6) (by rw [z1.J (a := 77) (by decide)]; exact h7)
    refine ⟨h', ?_, (z1.wid (by intro z hz; simp only [List.mem_cons, List.not_mem_nil, or_false] at hz ⊢; omega)).then (r2.wid (by intro z hz; simp only [List.mem_cons, List.not_mem_nil, or_false] at hz ⊢; omega)), ?_, ?_⟩
    · simp (disch := first | assumption | (repeat' (first | apply fx_sI | apply fx_sJ | assumption | omega))) only [l_225_85, f_225, b_225_0, b_225_6, b_225_14, b_225_23, b_225_28, b_225_61, b_225_70, b_225_82, b_225_85, b_225_91, b_225_102, b_225_105, b_225_108, b_225_117, b_225_144, b_225_160, b_225_176, b_225_182, b_225_188, b_225_194, b_225_200, ↓reduceIte, bnd_e, grd_e, grd0, grd1, Option.bind_some, Option.isSome_some, gQ30_0, gQ30_1, gQ30_2, gQ30_3, gQ30_4, gQ30_5, gQ30_6, gQ30_7, gQ30_8, gQ30_9, gQ31_0, gQ33_0, gQ33_1, gQ36_0, gQ36_1, gQ39_0, gQ39_3, gQ39_4, gQ39_6, gQ39_8, gQ39_10, gQ39_11, gQ39_12, gQ48_0, gQ48_1, gQ51_2, gQ53_0, gQ53_1, gQ60_0, gQ60_1, gQ60_2, gQ64_1, gQ64_14, gQ64_15, gQ64_16, gQ64_17, gQ64_18, gQ64_19, gQ64_20, gQ64_21, gQ64_24, gQ64_25, gQ64_27, gQ64_28, gQ64_29, gQ64_30, gQ64_31, gQ64_34, gQ64_35, gQ64_36, gQ64_39, gQ64_40, gQ64_41, gQ64_43, gQ64_44, gQ64_48, gQ64_50, gQ64_51, gQ64_52, gQ64_53, gQ64_54, gQ64_58, gQ64_59, gI30, gJ30, pI30, pJ30, rC30, gI31, gJ31, pI31, pJ31, rC31, gI33, gJ33, pI33, pJ33, rC33, gI36, gJ36, pI36, pJ36, rC36, gI39, gJ39, pI39, pJ39, rC39, gI48, gJ48, pI48, pJ48, rC48, gI51, gJ51, pI51, pJ51, rC51, gI53, gJ53, pI53, pJ53, rC53, gI60, gJ60, pI60, pJ60, rC60, gI64, gJ64, pI64, pJ64, rC64, hF, nI_leI, na, if_false, e1, bI_0', show ¬ (true = false) by decide, not_false_eq_true, if_true]
      rw [hm]
      exact r1
    · rw [r3, List.drop_zero]; rfl
    · rw [r4, List.drop_zero]; rfl
/-- one hanging -/
theorem l_225c (k6) {d g : Nat} (hD : DrW E d) (hg : g < 4) {h : Hp} {n : Nat} (hF : Fix h) (hE : NowE h E) (h8 : hI h 78 d = nI (fitP E d g)) :
    ∃ h', l_225_23 k6 (n + 1) (some 64) (nI d) (nI g) h = l_225_23 k6 n (some 64) (nI d) (nI (g + 1)) h' ∧ Fz [27000064, 74, 75, 1000000 * (4 * d + g + 1) + 76, 1000000 * (4 * d + g + 1) + 77, 1000000 * (d + 1) + 78] h h' ∧
      hJ h' 76 (4 * d + g) = lN (swL E d g) ∧ hJ h' 77 (4 * d + g) = lN (swH E d g) ∧ hI h' 78 d = nI (fitP E d (g + 1)) := by
  have hd := hD.1
  have ht : dTd E d < 16 := hD.2.2.2.2.2.2.1
  have hF0 : Fix (sJ (sJ h 76 (4 * d + g) (lN 0)) 77 (4 * d + g) (lN 0)) := (Fix_sJ (by omega) _).2 ((Fix_sJ (by omega) _).2 hF)
  have z0 : Fz [27000064, 74, 75, 1000000 * (4 * d + g + 1) + 76, 1000000 * (4 * d + g + 1) + 77, 1000000 * (d + 1) + 78] h (sJ (sJ h 76 (4 * d + g) (lN 0)) 77 (4 * d + g) (lN 0)) := (Fz.rfl'.sJ (Or.inr (by simp))).sJ (Or.inr (by simp))
  generalize hk0 : sJ (sJ h 76 (4 * d + g) (lN 0)) 77 (4 * d + g) (lN 0) = k0 at hF0 z0
  have hE0 : NowE k0 E := by subst hk0; exact hE
  have h60 : hJ k0 76 (4 * d + g) = lN 0 := by subst hk0; rw [hJ_sJ, if_neg (by omega), hJ_sJ, if_pos ⟨rfl, rfl⟩]
  have h70 : hJ k0 77 (4 * d + g) = lN 0 := by subst hk0; rw [hJ_sJ, if_pos ⟨rfl, rfl⟩]
  have h80 : hI k0 78 d = nI (fitP E d g) := by subst hk0; exact h8
  have h5 := s_205 (w := 5) hF0 hE0 hd (by omega)
  have e5 : E (110 + 10 * d + 5) = dTd E d := by unfold dTd; congr 1; omega
  rw [e5] at h5
  -- the fitting bit
  have fit : ∃ k1, (if (dTd E d).testBit g = false then b_225_82 k6 (l_225_23 k6 n) (some 64) (nI d) (nI g) (nI (4 * d + g)) k0 else b_225_61 k6 (l_225_23 k6 n) (some 64) (nI d) (nI g) (nI (4 * d + g)) k0) = b_225_82 k6 (l_225_23 k6 n) (some 64) (nI d) (nI g) (nI (4 * d + g)) k1 ∧ Fz [27000064, 74, 75, 1000000 * (d + 1) + 78] k0 k1 ∧ hI k1 78 d = nI (fitP E d (g + 1)) := by
    have hm : mayB E d g = ((dTd E d).testBit g && fitB E d g) := rfl
    have hs : fitP E d (g + 1) = fitP E d g ||| (if mayB E d g = true then 2 ^ g else 0) := rfl
    cases c : (dTd E d).testBit g
    · refine ⟨k0, if_pos rfl, Fz.rfl', ?_⟩
      rw [hs, hm, c, Bool.false_and, if_neg (by decide), Nat.or_zero]
      exact h80
    · rw [if_neg (by decide)]
      obtain ⟨k1, e1, z1⟩ := s_223 hF0 hE0 hD hg
      have hF1 := z1.fix hF0 (by decide)
      cases c2 : fitB E d g
      · refine ⟨k1, ?_, z1.wid (by intro z hz; simp only [List.mem_cons, List.not_mem_nil, or_false] at hz ⊢; omega), ?_⟩
        · rw [c2] at e1
          rw [b_225_61]
          simp only [bnd_e, grd_e, grd0, grd1, Option.bind_some, Option.isSome_some, gQ30_0, gQ30_1, gQ30_2, gQ30_3, gQ30_4, gQ30_5, gQ30_6, gQ30_7, gQ30_8, gQ30_9, gQ31_0, gQ33_0, gQ33_1, gQ36_0, gQ36_1, gQ39_0, gQ39_3, gQ39_4, gQ39_6, gQ39_8, gQ39_10, gQ39_11, gQ39_12, gQ48_0, gQ48_1, gQ51_2, gQ53_0, gQ53_1, gQ60_0, gQ60_1, gQ60_2, gQ64_1, gQ64_14, gQ64_15, gQ64_16, gQ64_17, gQ64_18, gQ64_19, gQ64_20, gQ64_21, gQ64_24, gQ64_25, gQ64_27, gQ64_28, gQ64_29, gQ64_30, gQ64_31, gQ64_34, gQ64_35, gQ64_36, gQ64_39, gQ64_40, gQ64_41, gQ64_43, gQ64_44, gQ64_48, gQ64_50, gQ64_51, gQ64_52, gQ64_53, gQ64_54, gQ64_58, gQ64_59, gI30, gJ30, pI30, pJ30, rC30, gI31, gJ31, pI31, pJ31, rC31, gI33, gJ33, pI33, pJ33, rC33, gI36, gJ36, pI36, pJ36, rC36, gI39, gJ39, pI39, pJ39, rC39, gI48, gJ48, pI48, pJ48, rC48, gI51, gJ51, pI51, pJ51, rC51, gI53, gJ53, pI53, pJ53, rC53, gI60, gJ60, pI60, pJ60, rC60, gI64, gJ64, pI64, pJ64, rC64, hF0, e1, bI_0', if_true]
        · rw [hs, hm, c, c2, Bool.and_false, if_neg (by decide), Nat.or_zero, z1.I (a := 78) (by decide)]
          exact h80
      · rw [c2] at e1
        have h81 : hI k1 78 d = nI (fitP E d g) := by rw [z1.I (a := 78) (by decide)]; exact h80
        refine ⟨sI k1 78 d (nI (fitP E d (g + 1))), ?_, (z1.wid (by intro z hz; simp only [List.mem_cons, List.not_mem_nil, or_false] at hz ⊢; omega)).sI (Or.inr (by simp)), by rw [hI_sI, if_pos ⟨rfl, rfl⟩]⟩
        have hor : nI (fitP E d g) ||| nI (2 ^ g) = nI (fitP E d (g + 1)) := by rw [fa_or, hs, hm, c, c2, Bool.and_true, if_pos rfl]
        rw [b_225_61]
        simp only [bnd_e, grd_e, grd0, grd1, Option.bind_some, Option.isSome_some, gQ30_0, gQ30_1, gQ30_2, gQ30_3, gQ30_4, gQ30_5, gQ30_6, gQ30_7, gQ30_8, gQ30_9, gQ31_0, gQ33_0, gQ33_1, gQ36_0, gQ36_1, gQ39_0, gQ39_3, gQ39_4, gQ39_6, gQ39_8, gQ39_10, gQ39_11, gQ39_12, gQ48_0, gQ48_1, gQ51_2, gQ53_0, gQ53_1, gQ60_0, gQ60_1, gQ60_2, gQ64_1, gQ64_14, gQ64_15, gQ64_16, gQ64_17, gQ64_18, gQ64_19, gQ64_20, gQ64_21, gQ64_24, gQ64_25, gQ64_27, gQ64_28, gQ64_29, gQ64_30, gQ64_31, gQ64_34, gQ64_35, gQ64_36, gQ64_39, gQ64_40, gQ64_41, gQ64_43, gQ64_44, gQ64_48, gQ64_50, gQ64_51, gQ64_52, gQ64_53, gQ64_54, gQ64_58, gQ64_59, gI30, gJ30, pI30, pJ30, rC30, gI31, gJ31, pI31, pJ31, rC31, gI33, gJ33, pI33, pJ33, rC33, gI36, gJ36, pI36, pJ36, rC36, gI39, gJ39, pI39, pJ39, rC39, gI48, gJ48, pI48, pJ48, rC48, gI51, gJ51, pI51, pJ51, rC51, gI53, gJ53, pI53, pJ53, rC53, gI60, gJ60, pI60, pJ60, rC60, gI64, gJ64, pI64, pJ64, rC64, hF0, e1, bI_0', if_false, show ¬ (true = false) by decide]
        rw [b_225_70]
        simp (disch := first | assumption | (repeat' (first | apply fx_sI | apply fx_sJ | assumption | omega))) only [bnd_e, grd_e, grd0, grd1, Option.bind_some, Option.isSome_some, gQ30_0, gQ30_1, gQ30_2, gQ30_3, gQ30_4, gQ30_5, gQ30_6, gQ30_7, gQ30_8, gQ30_9, gQ31_0, gQ33_0, gQ33_1, gQ36_0, gQ36_1, gQ39_0, gQ39_3, gQ39_4, gQ39_6, gQ39_8, gQ39_10, gQ39_11, gQ39_12, gQ48_0, gQ48_1, gQ51_2, gQ53_0, gQ53_1, gQ60_0, gQ60_1, gQ60_2, gQ64_1, gQ64_14, gQ64_15, gQ64_16, gQ64_17, gQ64_18, gQ64_19, gQ64_20, gQ64_21, gQ64_24, gQ64_25, gQ64_27, gQ64_28, gQ64_29, gQ64_30, gQ64_31, gQ64_34, gQ64_35, gQ64_36, gQ64_39, gQ64_40, gQ64_41, gQ64_43, gQ64_44, gQ64_48, gQ64_50, gQ64_51, gQ64_52, gQ64_53, gQ64_54, gQ64_58, gQ64_59, gI30, gJ30, pI30, pJ30, rC30, gI31, gJ31, pI31, pJ31, rC31, gI33, gJ33, pI33, pJ33, rC33, gI36, gJ36, pI36, pJ36, rC36, gI39, gJ39, pI39, pJ39, rC39, gI48, gJ48, pI48, pJ48, rC48, gI51, gJ51, pI51, pJ51, rC51, gI53, gJ53, pI53, pJ53, rC53, gI60, gJ60, pI60, pJ60, rC60, gI64, gJ64, pI64, pJ64, rC64, aI27, aL27, aI28, aL28, aI32, wI32, aL32, aI34, wI34, aL34, aI35, wI35, aL35, aI37, wI37, aL37, aI38, wI38, aL38, aJ40, wJ40, aL40, aI41, wI41, aL41, aI42, wI42, aL42, aI43, wI43, aL43, aI44, wI44, aL44, aI45, wI45, aL45, aI46, wI46, aL46, aI47, wI47, aL47, aI49, wI49, aL49, aI50, wI50, aL50, aI52, wI52, aL52, aI54, wI54, aL54, aI55, wI55, aL55, aL56, aL57, aL58, aI59, wI59, aL59, aI61, wI61, aL61, aL62, aI63, wI63, aL63, aI65, wI65, aL65, aI66, wI66, aL66, aI67, wI67, aL67, aI68, wI68, aL68, aI69, wI69, aL69, aJ70, wJ70, aL70, aJ71, wJ71, aL71, aJ72, wJ72, aL72, aZ73, wZ73, aL73, aI74, wI74, aL74, aI75, wI75, aL75, aJ76, wJ76, aL76, aJ77, wJ77, aL77, aI78, wI78, aL78, aI79, wI79, aL79, aI80, wI80, aL80, aI81, wI81, aL81, aI82, wI82, aL82, aI83, wI83, aL83, aI84, wI84, aL84, aI85, wI85, aL85, aI86, wI86, aL86, aI87, wI87, aL87, aI88, wI88, aL88, aI89, wI89, aL89, aI90, wI90, aL90, aI91, wI91, aL91, aI92, wI92, aL92, aI93, wI93, aL93, aI94, wI94, aL94, aZ95, wZ95, aL95, aI96, wI96, aL96, aJ97, wJ97, aL97, hF1, h81, nI_1shl (show g < 31 by omega), hor]
        exact if_neg (by decide)
  obtain ⟨k1, f1, f2, f3⟩ := fit
  have hF1 := f2.fix hF0 (by intro z hz; simp only [List.mem_cons, List.not_mem_nil, or_false] at hz; omega)
  have hE1 := hE0.cg (f2.I (a := 66) (by intro z hz; simp only [List.mem_cons, List.not_mem_nil, or_false] at hz; omega))
  obtain ⟨m, hm⟩ := FU_ge 3 (by omega)
  have hm : FU = m + 3 := by omega
  obtain ⟨k2, a1, a2, a3, a4⟩ := l_225b k6 (l_225_23 k6 n) (n := m + 2) hD hg (Or.inl rfl) hF1 hE1 (A := 0) (B := 0) (by rw [f2.J (a := 76) (by intro z hz; simp only [List.mem_cons, List.not_mem_nil, or_false] at hz; omega)]; exact h60) (by rw [f2.J (a := 77) (by intro z hz; simp only [List.mem_cons, List.not_mem_nil, or_false] at hz; omega)]; exact h70)
  have hF2 := a2.fix hF1 (by intro z hz; simp only [List.mem_cons, List.not_mem_nil, or_false] at hz; omega)
  have hE2 := hE1.cg (a2.I (a := 66) (by intro z hz; simp only [List.mem_cons, List.not_mem_nil, or_false] at hz; omega))
  obtain ⟨k3, b1, b2, b3, b4⟩ := l_225b k6 (l_225_23 k6 n) (n := m + 1) hD hg (Or.inr rfl) hF2 hE2 a3 a4
  have wi : ∀ z, z ∈ [27000064, 74, 75, 1000000 * (4 * d + g + 1) + 76, 1000000 * (4 * d + g + 1) + 77] → z ∈ [27000064, 74, 75, 1000000 * (4 * d + g + 1) + 76, 1000000 * (4 * d + g + 1) + 77, 1000000 * (d + 1) + 78] ∨ z % 1000000 ∈ [27000064, 74, 75, 1000000 * (4 * d + g + 1) + 76, 1000000 * (4 * d + g + 1) + 77, 1000000 * (d + 1) + 78] := (by intro z hz; simp only [List.mem_cons, List.not_mem_nil, or_false] at hz ⊢; omega)
  refine ⟨k3, ?_, ((z0.then (f2.wid (by intro z hz; simp only [List.mem_cons, List.not_mem_nil, or_false] at hz ⊢; omega))).then (a2.wid wi)).then (b2.wid wi), ?_, ?_, ?_⟩
  · have t0 : l_225_23 k6 (n + 1) (some 64) (nI d) (nI g) h = if (dTd E d).testBit g = false then b_225_82 k6 (l_225_23 k6 n) (some 64) (nI d) (nI g) (nI (4 * d + g)) k0 else b_225_61 k6 (l_225_23 k6 n) (some 64) (nI d) (nI g) (nI (4 * d + g)) k0 := by
      rw [l_225_23, b_225_23, if_neg (by rw [nI_leI (by omega) (by omega)]; omega), b_225_28]
      subst hk0
      simp (disch := first | assumption | (repeat' (first | apply fx_sI | apply fx_sJ | assumption | omega))) only [bnd_e, grd_e, grd0, grd1, Option.bind_some, Option.isSome_some, gQ30_0, gQ30_1, gQ30_2, gQ30_3, gQ30_4, gQ30_5, gQ30_6, gQ30_7, gQ30_8, gQ30_9, gQ31_0, gQ33_0, gQ33_1, gQ36_0, gQ36_1, gQ39_0, gQ39_3, gQ39_4, gQ39_6, gQ39_8, gQ39_10, gQ39_11, gQ39_12, gQ48_0, gQ48_1, gQ51_2, gQ53_0, gQ53_1, gQ60_0, gQ60_1, gQ60_2, gQ64_1, gQ64_14, gQ64_15, gQ64_16, gQ64_17, gQ64_18, gQ64_19, gQ64_20, gQ64_21, gQ64_24, gQ64_25, gQ64_27, gQ64_28, gQ64_29, gQ64_30, gQ64_31, gQ64_34, gQ64_35, gQ64_36, gQ64_39, gQ64_40, gQ64_41, gQ64_43, gQ64_44, gQ64_48, gQ64_50, gQ64_51, gQ64_52, gQ64_53, gQ64_54, gQ64_58, gQ64_59, gI30, gJ30, pI30, pJ30, rC30, gI31, gJ31, pI31, pJ31, rC31, gI33, gJ33, pI33, pJ33, rC33, gI36, gJ36, pI36, pJ36, rC36, gI39, gJ39, pI39, pJ39, rC39, gI48, gJ48, pI48, pJ48, rC48, gI51, gJ51, pI51, pJ51, rC51, gI53, gJ53, pI53, pJ53, rC53, gI60, gJ60, pI60, pJ60, rC60, gI64, gJ64, pI64, pJ64, rC64, aI27, aL27, aI28, aL28, aI32, wI32, aL32, aI34, wI34, aL34, aI35, wI35, aL35, aI37, wI37, aL37, aI38, wI38, aL38, aJ40, wJ40, aL40, aI41, wI41, aL41, aI42, wI42, aL42, aI43, wI43, aL43, aI44, wI44, aL44, aI45, wI45, aL45, aI46, wI46, aL46, aI47, wI47, aL47, aI49, wI49, aL49, aI50, wI50, aL50, aI52, wI52, aL52, aI54, wI54, aL54, aI55, wI55, aL55, aL56, aL57, aL58, aI59, wI59, aL59, aI61, wI61, aL61, aL62, aI63, wI63, aL63, aI65, wI65, aL65, aI66, wI66, aL66, aI67, wI67, aL67, aI68, wI68, aL68, aI69, wI69, aL69, aJ70, wJ70, aL70, aJ71, wJ71, aL71, aJ72, wJ72, aL72, aZ73, wZ73, aL73, aI74, wI74, aL74, aI75, wI75, aL75, aJ76, wJ76, aL76, aJ77, wJ77, aL77, aI78, wI78, aL78, aI79, wI79, aL79, aI80, wI80, aL80, aI81, wI81, aL81, aI82, wI82, aL82, aI83, wI83, aL83, aI84, wI84, aL84, aI85, wI85, aL85, aI86, wI86, aL86, aI87, wI87, aL87, aI88, wI88, aL88, aI89, wI89, aL89, aI90, wI90, aL90, aI91, wI91, aL91, aI92, wI92, aL92, aI93, wI93, aL93, aI94, wI94, aL94, aZ95, wZ95, aL95, aI96, wI96, aL96, aJ97, wJ97, aL97, hI_sI, hJ_sI, hI_sJ, hJ_sJ, hQ_sI, hQ_sJ, hI_sQ, hJ_sQ, hK_sI, hK_sJ, hK_sQ, hL_sI, hL_sJ, hL_sQ, Fix_sI, Fix_sJ, nI_add, pk_mul, pk_div, ↓pk_rem, pk_sub, nI_ltI, nI_leI, nI_eq, hF, h5, s_183 (show dTd E d < 2147483648 by omega) (show g < 32 by omega), bI_0']
    rw [t0, f1, b_225_82, bnd_e, hm, a1, b1, l_225_85, b_225_85, if_pos (by decide), b_225_188, bnd_e, nI_add]
  · rw [b3]; unfold swL swp; rw [loM_app]; rfl
  · rw [b4]; unfold swH swp; rw [hiM_app]; rfl
  · rw [b2.I1 (by simp only [List.mem_cons, List.not_mem_nil, or_false]; omega) (by simp only [List.mem_cons, List.not_mem_nil, or_false]; omega), a2.I1 (by simp only [List.mem_cons, List.not_mem_nil, or_false]; omega) (by simp only [List.mem_cons, List.not_mem_nil, or_false]; omega)]; exact f3
/-- a door's row of what is swept -/
def SwD (h : Hp) (E : Nat → Nat) (d : Nat) : Prop := hI h 78 d = nI (fitM E d) ∧ ∀ g, g < 4 → hJ h 76 (4 * d + g) = lN (swL E d g) ∧ hJ h 77 (4 * d + g) = lN (swH E d g)
def Sw (h : Hp) (E : Nat → Nat) : Prop := ∀ d, d < E 2 → SwD h E d
theorem l_225d (k6) {d : Nat} (hD : DrW E d) : ∀ r g n h, g + r = 4 → Fix h → NowE h E → hI h 78 d = nI (fitP E d g) → (∀ j, j < g → hJ h 76 (4 * d + j) = lN (swL E d j) ∧ hJ h 77 (4 * d + j) = lN (swH E d j)) →
    ∃ h', l_225_23 k6 (r + 1 + n) (some 64) (nI d) (nI g) h = k6 (some 64) (nI (d + 1)) h' ∧ Fz [27000064, 74, 75, 76, 77, 1000000 * (d + 1) + 78] h h' ∧ (∀ j, j < 4 * d + g → hJ h' 76 j = hJ h 76 j ∧ hJ h' 77 j = hJ h 77 j) ∧ SwD h' E d := by
  intro r
  induction r with
  | zero =>
    intro g n h hr hF hE h8 hs
    obtain rfl : g = 4 := by omega
    refine ⟨h, ?_, Fz.rfl', fun j _ => ⟨rfl, rfl⟩, h8, hs⟩
    rw [show 0 + 1 + n = n + 1 by omega, l_225_23, b_225_23, if_pos (by decide), b_225_194, bnd_e, nI_add]
  | succ r ih =>
    intro g n h hr hF hE h8 hs
    have hd := hD.1
    obtain ⟨k1, a1, a2, a3, a4, a5⟩ := l_225c k6 (n := r + 1 + n) hD (show g < 4 by omega) hF hE h8
    have hF1 := a2.fix hF (by intro z hz; simp only [List.mem_cons, List.not_mem_nil, or_false] at hz; omega)
    have hE1 := hE.cg (a2.I (a := 66) (by intro z hz; simp only [List.mem_cons, List.not_mem_nil, or_false] at hz; omega))
    obtain ⟨k2, b1, b2, b3, b4⟩ := ih (g + 1) n k1 (by omega) hF1 hE1 a5 (fun j hj => by
      by_cases c : j = g
      · subst c; exact ⟨a3, a4⟩
      · rw [a2.J1 (by simp only [List.mem_cons, List.not_mem_nil, or_false]; omega) (by simp only [List.mem_cons, List.not_mem_nil, or_false]; omega), a2.J1 (by simp only [List.mem_cons, List.not_mem_nil, or_false]; omega) (by simp only [List.mem_cons, List.not_mem_nil, or_false]; omega)]; exact hs j (by omega))
    refine ⟨k2, ?_, (a2.wid ?_).then b2, fun j hj => ?_, b4⟩
    · rw [show r + 1 + 1 + n = (r + 1 + n) + 1 by omega, a1]; exact b1
    · exact (by intro z hz; simp only [List.mem_cons, List.not_mem_nil, or_false] at hz ⊢; omega)
    · have := b3 j (by omega)
      rw [this.1, this.2, a2.J1 (by simp only [List.mem_cons, List.not_mem_nil, or_false]; omega) (by simp only [List.mem_cons, List.not_mem_nil, or_false]; omega), a2.J1 (by simp only [List.mem_cons, List.not_mem_nil, or_false]; omega) (by simp only [List.mem_cons, List.not_mem_nil, or_false]; omega)]
      exact ⟨rfl, rfl⟩
theorem l_225e : ∀ r d n h, d + r = E 2 → Fix h → NowE h E → WF E → (∀ j, j < d → SwD h E j) →
    ∃ h', l_225_6 (r + 1 + n) (some 64) (nI d) h = some h' ∧ Fz [27000064, 74, 75, 76, 77, 78] h h' ∧ Sw h' E := by
  intro r
  induction r with
  | zero =>
    intro d n h hr hF hE hW hs
    obtain rfl : d = E 2 := by omega
    have b := hE.2.2.2 2
    refine ⟨h, ?_, Fz.rfl', hs⟩
    rw [show 0 + 1 + n = n + 1 by omega]
    simp (disch := first | assumption | (repeat' (first | apply fx_sI | apply fx_sJ | assumption | omega))) only [l_225_6, f_225, b_225_0, b_225_6, b_225_14, b_225_23, b_225_28, b_225_61, b_225_70, b_225_82, b_225_85, b_225_91, b_225_102, b_225_105, b_225_108, b_225_117, b_225_144, b_225_160, b_225_176, b_225_182, b_225_188, b_225_194, b_225_200, ↓reduceIte, bnd_e, grd_e, grd0, grd1, Option.bind_some, Option.isSome_some, gQ30_0, gQ30_1, gQ30_2, gQ30_3, gQ30_4, gQ30_5, gQ30_6, gQ30_7, gQ30_8, gQ30_9, gQ31_0, gQ33_0, gQ33_1, gQ36_0, gQ36_1, gQ39_0, gQ39_3, gQ39_4, gQ39_6, gQ39_8, gQ39_10, gQ39_11, gQ39_12, gQ48_0, gQ48_1, gQ51_2, gQ53_0, gQ53_1, gQ60_0, gQ60_1, gQ60_2, gQ64_1, gQ64_14, gQ64_15, gQ64_16, gQ64_17, gQ64_18, gQ64_19, gQ64_20, gQ64_21, gQ64_24, gQ64_25, gQ64_27, gQ64_28, gQ64_29, gQ64_30, gQ64_31, gQ64_34, gQ64_35, gQ64_36, gQ64_39, gQ64_40, gQ64_41, gQ64_43, gQ64_44, gQ64_48, gQ64_50, gQ64_51, gQ64_52, gQ64_53, gQ64_54, gQ64_58, gQ64_59, gI30, gJ30, pI30, pJ30, rC30, gI31, gJ31, pI31, pJ31, rC31, gI33, gJ33, pI33, pJ33, rC33, gI36, gJ36, pI36, pJ36, rC36, gI39, gJ39, pI39, pJ39, rC39, gI48, gJ48, pI48, pJ48, rC48, gI51, gJ51, pI51, pJ51, rC51, gI53, gJ53, pI53, pJ53, rC53, gI60, gJ60, pI60, pJ60, rC60, gI64, gJ64, pI64, pJ64, rC64, hF, s_203 hF hE, nI_leI, Nat.le_refl, if_true]
  | succ r ih =>
    intro d n h hr hF hE hW hs
    have hD := hW.dr (show d < E 2 by omega)
    have hd := hD.1
    have b := hE.2.2.2 2
    have hF0 : Fix (sI h 78 d (nI 0)) := (Fix_sI (by omega) _).2 hF
    obtain ⟨m, hm⟩ := FU_ge (4 + 1) (by omega)
    obtain ⟨k1, a1, a2, a3, a4⟩ := l_225d (l_225_6 (r + 1 + n)) hD 4 0 m (sI h 78 d (nI 0)) (by omega) hF0 (hE.cg (by funext j; rw [hI_sI, if_neg (by omega)])) (by rw [hI_sI, if_pos ⟨rfl, rfl⟩]; rfl) (fun j hj => absurd hj (Nat.not_lt_zero j))
    have z0 : Fz [27000064, 74, 75, 76, 77, 1000000 * (d + 1) + 78] h (sI h 78 d (nI 0)) := Fz.rfl'.sI (Or.inr (by simp))
    have z1 := z0.then a2
    have hF1 := z1.fix hF (by intro z hz; simp only [List.mem_cons, List.not_mem_nil, or_false] at hz; omega)
    have hE1 := hE.cg (z1.I (a := 66) (by intro z hz; simp only [List.mem_cons, List.not_mem_nil, or_false] at hz; omega))
    obtain ⟨k2, b1, b2, b3⟩ := ih (d + 1) n k1 (by omega) hF1 hE1 hW (fun j hj => by
      by_cases c : j = d
      · subst c; exact a4
      · have q := hs j (by omega)
        refine ⟨by rw [z1.I1 (by simp only [List.mem_cons, List.not_mem_nil, or_false]; omega) (by simp only [List.mem_cons, List.not_mem_nil, or_false]; omega)]; exact q.1, fun g hg => ?_⟩
        have q2 := a3 (4 * j + g) (by omega)
        rw [q2.1, q2.2]
        exact q.2 g hg)
    refine ⟨k2, ?_, (z1.wid (by intro z hz; simp only [List.mem_cons, List.not_mem_nil, or_false] at hz ⊢; omega)).then b2, b3⟩
    rw [show r + 1 + 1 + n = (r + 1 + n) + 1 by omega, l_225_6, b_225_6]
    simp (disch := first | assumption | (repeat' (first | apply fx_sI | apply fx_sJ | assumption | omega))) only [bnd_e, grd_e, grd0, grd1, Option.bind_some, Option.isSome_some, gQ30_0, gQ30_1, gQ30_2, gQ30_3, gQ30_4, gQ30_5, gQ30_6, gQ30_7, gQ30_8, gQ30_9, gQ31_0, gQ33_0, gQ33_1, gQ36_0, gQ36_1, gQ39_0, gQ39_3, gQ39_4, gQ39_6, gQ39_8, gQ39_10, gQ39_11, gQ39_12, gQ48_0, gQ48_1, gQ51_2, gQ53_0, gQ53_1, gQ60_0, gQ60_1, gQ60_2, gQ64_1, gQ64_14, gQ64_15, gQ64_16, gQ64_17, gQ64_18, gQ64_19, gQ64_20, gQ64_21, gQ64_24, gQ64_25, gQ64_27, gQ64_28, gQ64_29, gQ64_30, gQ64_31, gQ64_34, gQ64_35, gQ64_36, gQ64_39, gQ64_40, gQ64_41, gQ64_43, gQ64_44, gQ64_48, gQ64_50, gQ64_51, gQ64_52, gQ64_53, gQ64_54, gQ64_58, gQ64_59, gI30, gJ30, pI30, pJ30, rC30, gI31, gJ31, pI31, pJ31, rC31, gI33, gJ33, pI33, pJ33, rC33, gI36, gJ36, pI36, pJ36, rC36, gI39, gJ39, pI39, pJ39, rC39, gI48, gJ48, pI48, pJ48, rC48, gI51, gJ51, pI51, pJ51, rC51, gI53, gJ53, pI53, pJ53, rC53, gI60, gJ60, pI60, pJ60, rC60, gI64, gJ64, pI64, pJ64, rC64, hF, s_203 hF hE, nI_leI, show ¬ E 2 ≤ d by omega, if_false]
    rw [b_225_14]
    simp (disch := first | assumption | (repeat' (first | apply fx_sI | apply fx_sJ | assumption | omega))) only [bnd_e, grd_e, grd0, grd1, Option.bind_some, Option.isSome_some, gQ30_0, gQ30_1, gQ30_2, gQ30_3, gQ30_4, gQ30_5, gQ30_6, gQ30_7, gQ30_8, gQ30_9, gQ31_0, gQ33_0, gQ33_1, gQ36_0, gQ36_1, gQ39_0, gQ39_3, gQ39_4, gQ39_6, gQ39_8, gQ39_10, gQ39_11, gQ39_12, gQ48_0, gQ48_1, gQ51_2, gQ53_0, gQ53_1, gQ60_0, gQ60_1, gQ60_2, gQ64_1, gQ64_14, gQ64_15, gQ64_16, gQ64_17, gQ64_18, gQ64_19, gQ64_20, gQ64_21, gQ64_24, gQ64_25, gQ64_27, gQ64_28, gQ64_29, gQ64_30, gQ64_31, gQ64_34, gQ64_35, gQ64_36, gQ64_39, gQ64_40, gQ64_41, gQ64_43, gQ64_44, gQ64_48, gQ64_50, gQ64_51, gQ64_52, gQ64_53, gQ64_54, gQ64_58, gQ64_59, gI30, gJ30, pI30, pJ30, rC30, gI31, gJ31, pI31, pJ31, rC31, gI33, gJ33, pI33, pJ33, rC33, gI36, gJ36, pI36, pJ36, rC36, gI39, gJ39, pI39, pJ39, rC39, gI48, gJ48, pI48, pJ48, rC48, gI51, gJ51, pI51, pJ51, rC51, gI53, gJ53, pI53, pJ53, rC53, gI60, gJ60, pI60, pJ60, rC60, gI64, gJ64, pI64, pJ64, rC64, aI27, aL27, aI28, aL28, aI32, wI32, aL32, aI34, wI34, aL34, aI35, wI35, aL35, aI37, wI37, aL37, aI38, wI38, aL38, aJ40, wJ40, aL40, aI41, wI41, aL41, aI42, wI42, aL42, aI43, wI43, aL43, aI44, wI44, aL44, aI45, wI45, aL45, aI46, wI46, aL46, aI47, wI47, aL47, aI49, wI49, aL49, aI50, wI50, aL50, aI52, wI52, aL52, aI54, wI54, aL54, aI55, wI55, aL55, aL56, aL57, aL58, aI59, wI59, aL59, aI61, wI61, aL61, aL62, aI63, wI63, aL63, aI65, wI65, aL65, aI66, wI66, aL66, aI67, wI67, aL67, aI68, wI68, aL68, aI69, wI69, aL69, aJ70, wJ70, aL70, aJ71, wJ71, aL71, aJ72, wJ72, aL72, aZ73, wZ73, aL73, aI74, wI74, aL74, aI75, wI75, aL75, aJ76, wJ76, aL76, aJ77, wJ77, aL77, aI78, wI78, aL78, aI79, wI79, aL79, aI80, wI80, aL80, aI81, wI81, aL81, aI82, wI82, aL82, aI83, wI83, aL83, aI84, wI84, aL84, aI85, wI85, aL85, aI86, wI86, aL86, aI87, wI87, aL87, aI88, wI88, aL88, aI89, wI89, aL89, aI90, wI90, aL90, aI91, wI91, aL91, aI92, wI92, aL92, aI93, wI93, aL93, aI94, wI94, aL94, aZ95, wZ95, aL95, aI96, wI96, aL96, aJ97, wJ97, aL97, hF]
    rw [hm, a1, b1]
theorem s_225 {h : Hp} (hF : Fix h) (hB : Bg h E) (hW : WF E) : ∃ h', f_225 (some 64) h = some h' ∧ Fz [23000064, 66, 27000064, 74, 75, 76, 77, 78] h h' ∧ NowE h' E ∧ hI h' 64 22 = 1 ∧ Sw h' E := by
  obtain ⟨k1, a1, a2, a3, a4⟩ := s_202 hF hB
  have hF1 := a2.fix hF (by decide)
  obtain ⟨m, hm⟩ := FU_ge (E 2 + 1) (by have := hW.2.2.1; omega)
  obtain ⟨k2, b1, b2, b3⟩ := l_225e (E := E) (E 2) 0 m k1 (by omega) hF1 a3 hW (fun j hj => absurd hj (Nat.not_lt_zero j))
  refine ⟨k2, ?_, (a2.wid (by intro z hz; simp only [List.mem_cons, List.not_mem_nil, or_false] at hz ⊢; omega)).then (b2.wid (by intro z hz; simp only [List.mem_cons, List.not_mem_nil, or_false] at hz ⊢; omega)), a3.cg (b2.I (a := 66) (by decide)), by rw [b2.I1 (by decide) (by decide)]; exact a4, b3⟩
  simp only [f_225, b_225_0, b_225_6, b_225_14, b_225_23, b_225_28, b_225_61, b_225_70, b_225_82, b_225_85, b_225_91, b_225_102, b_225_105, b_225_108, b_225_117, b_225_144, b_225_160, b_225_176, b_225_182, b_225_188, b_225_194, b_225_200, ↓reduceIte, bnd_e, grd_e, grd0, grd1, Option.bind_some, Option.isSome_some, gQ30_0, gQ30_1, gQ30_2, gQ30_3, gQ30_4, gQ30_5, gQ30_6, gQ30_7, gQ30_8, gQ30_9, gQ31_0, gQ33_0, gQ33_1, gQ36_0, gQ36_1, gQ39_0, gQ39_3, gQ39_4, gQ39_6, gQ39_8, gQ39_10, gQ39_11, gQ39_12, gQ48_0, gQ48_1, gQ51_2, gQ53_0, gQ53_1, gQ60_0, gQ60_1, gQ60_2, gQ64_1, gQ64_14, gQ64_15, gQ64_16, gQ64_17, gQ64_18, gQ64_19, gQ64_20, gQ64_21, gQ64_24, gQ64_25, gQ64_27, gQ64_28, gQ64_29, gQ64_30, gQ64_31, gQ64_34, gQ64_35, gQ64_36, gQ64_39, gQ64_40, gQ64_41, gQ64_43, gQ64_44, gQ64_48, gQ64_50, gQ64_51, gQ64_52, gQ64_53, gQ64_54, gQ64_58, gQ64_59, gI30, gJ30, pI30, pJ30, rC30, gI31, gJ31, pI31, pJ31, rC31, gI33, gJ33, pI33, pJ33, rC33, gI36, gJ36, pI36, pJ36, rC36, gI39, gJ39, pI39, pJ39, rC39, gI48, gJ48, pI48, pJ48, rC48, gI51, gJ51, pI51, pJ51, rC51, gI53, gJ53, pI53, pJ53, rC53, gI60, gJ60, pI60, pJ60, rC60, gI64, gJ64, pI64, pJ64, rC64, hF, a1]
  rw [hm, b1]
/-- whether two hangings bite -/
def bit (E : Nat → Nat) (d g e j : Nat) : Bool := decide (swL E d g &&& swL E e j ≠ 0) || decide (swH E d g &&& swH E e j ≠ 0)
def shr (E : Nat → Nat) (d g e j : Nat) : Nat := pc (swL E d g &&& swL E e j) + pc (swH E d g &&& swH E e j)
theorem bit_shr (E : Nat → Nat) (d g e j : Nat) : bit E d g e j = decide (shr E d g e j ≠ 0) := by
  have b1 := swL_lt E d g
  have b2 := swH_lt E d g
  have b3 := Nat.and_le_left (n := swL E d g) (m := swL E e j)
  have b4 := Nat.and_le_left (n := swH E d g) (m := swH E e j)
  have p1 := pc_eq0 64 (swL E d g &&& swL E e j) (by omega)
  have p2 := pc_eq0 64 (swH E d g &&& swH E e j) (by omega)
  have e1 : shr E d g e j = pcf 64 (swL E d g &&& swL E e j) + pcf 64 (swH E d g &&& swH E e j) := rfl
  unfold bit
  by_cases c1 : swL E d g &&& swL E e j = 0
  · by_cases c2 : swH E d g &&& swH E e j = 0
    · have q1 := p1.2 c1
      have q2 := p2.2 c2
      rw [e1, q1, q2, c1, c2]; rfl
    · have q2 : pcf 64 (swH E d g &&& swH E e j) ≠ 0 := fun z => c2 (p2.1 z)
      rw [e1, decide_eq_true c2, Bool.or_true, decide_eq_true (by omega)]
  · have q2 : pcf 64 (swL E d g &&& swL E e j) ≠ 0 := fun z => c1 (p1.1 z)
    rw [e1, decide_eq_true c1, Bool.true_or, decide_eq_true (by omega)]
theorem bit_comm (E : Nat → Nat) (d g e j : Nat) : bit E d g e j = bit E e j d g := by unfold bit; rw [Nat.and_comm, Nat.and_comm (swH E d g)]
theorem s_226 {h : Hp} {d g e j : Nat} (hF : Fix h) (hS : Sw h E) (h10 : E 2 ≤ 10) (hd : d < E 2) (hg : g < 4) (he : e < E 2) (hj : j < 4) : f_226 (some 64) (nI d) (nI g) (nI e) (nI j) h = some (nI (shr E d g e j), h) := by
  have b1 := swL_lt E d g
  have b2 := swH_lt E d g
  have b3 := Nat.and_le_left (n := swL E d g) (m := swL E e j)
  have b4 := Nat.and_le_left (n := swH E d g) (m := swH E e j)
  simp (disch := first | assumption | (repeat' (first | apply fx_sI | apply fx_sJ | assumption | omega))) only [f_226, b_226_0, ↓reduceIte, bnd_e, grd_e, grd0, grd1, Option.bind_some, Option.isSome_some, gQ30_0, gQ30_1, gQ30_2, gQ30_3, gQ30_4, gQ30_5, gQ30_6, gQ30_7, gQ30_8, gQ30_9, gQ31_0, gQ33_0, gQ33_1, gQ36_0, gQ36_1, gQ39_0, gQ39_3, gQ39_4, gQ39_6, gQ39_8, gQ39_10, gQ39_11, gQ39_12, gQ48_0, gQ48_1, gQ51_2, gQ53_0, gQ53_1, gQ60_0, gQ60_1, gQ60_2, gQ64_1, gQ64_14, gQ64_15, gQ64_16, gQ64_17, gQ64_18, gQ64_19, gQ64_20, gQ64_21, gQ64_24, gQ64_25, gQ64_27, gQ64_28, gQ64_29, gQ64_30, gQ64_31, gQ64_34, gQ64_35, gQ64_36, gQ64_39, gQ64_40, gQ64_41, gQ64_43, gQ64_44, gQ64_48, gQ64_50, gQ64_51, gQ64_52, gQ64_53, gQ64_54, gQ64_58, gQ64_59, gI30, gJ30, pI30, pJ30, rC30, gI31, gJ31, pI31, pJ31, rC31, gI33, gJ33, pI33, pJ33, rC33, gI36, gJ36, pI36, pJ36, rC36, gI39, gJ39, pI39, pJ39, rC39, gI48, gJ48, pI48, pJ48, rC48, gI51, gJ51, pI51, pJ51, rC51, gI53, gJ53, pI53, pJ53, rC53, gI60, gJ60, pI60, pJ60, rC60, gI64, gJ64, pI64, pJ64, rC64, aI27, aL27, aI28, aL28, aI32, wI32, aL32, aI34, wI34, aL34, aI35, wI35, aL35, aI37, wI37, aL37, aI38, wI38, aL38, aJ40, wJ40, aL40, aI41, wI41, aL41, aI42, wI42, aL42, aI43, wI43, aL43, aI44, wI44, aL44, aI45, wI45, aL45, aI46, wI46, aL46, aI47, wI47, aL47, aI49, wI49, aL49, aI50, wI50, aL50, aI52, wI52, aL52, aI54, wI54, aL54, aI55, wI55, aL55, aL56, aL57, aL58, aI59, wI59, aL59, aI61, wI61, aL61, aL62, aI63, wI63, aL63, aI65, wI65, aL65, aI66, wI66, aL66, aI67, wI67, aL67, aI68, wI68, aL68, aI69, wI69, aL69, aJ70, wJ70, aL70, aJ71, wJ71, aL71, aJ72, wJ72, aL72, aZ73, wZ73, aL73, aI74, wI74, aL74, aI75, wI75, aL75, aJ76, wJ76, aL76, aJ77, wJ77, aL77, aI78, wI78, aL78, aI79, wI79, aL79, aI80, wI80, aL80, aI81, wI81, aL81, aI82, wI82, aL82, aI83, wI83, aL83, aI84, wI84, aL84, aI85, wI85, aL85, aI86, wI86, aL86, aI87, wI87, aL87, aI88, wI88, aL88, aI89, wI89, aL89, aI90, wI90, aL90, aI91, wI91, aL91, aI92, wI92, aL92, aI93, wI93, aL93, aI94, wI94, aL94, aZ95, wZ95, aL95, aI96, wI96, aL96, aJ97, wJ97, aL97, nI_add, pk_mul, pk_div, ↓pk_rem, pk_sub, nI_ltI, nI_leI, nI_eq, hF, ((hS d hd).2 g hg).1, ((hS d hd).2 g hg).2, ((hS e he).2 j hj).1, ((hS e he).2 j hj).2, fb_andL, s_185]
  rfl
theorem s_227 {h : Hp} {d g e j : Nat} (hF : Fix h) (hS : Sw h E) (h10 : E 2 ≤ 10) (hd : d < E 2) (hg : g < 4) (he : e < E 2) (hj : j < 4) : f_227 (some 64) (nI d) (nI g) (nI e) (nI j) h = some (bI (bit E d g e j), h) := by
  have b1 := swL_lt E d g
  have b2 := swH_lt E d g
  have b3 := Nat.and_le_left (n := swL E d g) (m := swL E e j)
  have b4 := Nat.and_le_left (n := swH E d g) (m := swH E e j)
  have e0 : lN 0 = 0 := rfl
  simp (disch := first | assumption | (repeat' (first | apply fx_sI | apply fx_sJ | assumption | omega))) only [f_227, b_227_0, b_227_27, b_227_54, b_227_58, b_227_59, ↓reduceIte, bnd_e, grd_e, grd0, grd1, Option.bind_some, Option.isSome_some, gQ30_0, gQ30_1, gQ30_2, gQ30_3, gQ30_4, gQ30_5, gQ30_6, gQ30_7, gQ30_8, gQ30_9, gQ31_0, gQ33_0, gQ33_1, gQ36_0, gQ36_1, gQ39_0, gQ39_3, gQ39_4, gQ39_6, gQ39_8, gQ39_10, gQ39_11, gQ39_12, gQ48_0, gQ48_1, gQ51_2, gQ53_0, gQ53_1, gQ60_0, gQ60_1, gQ60_2, gQ64_1, gQ64_14, gQ64_15, gQ64_16, gQ64_17, gQ64_18, gQ64_19, gQ64_20, gQ64_21, gQ64_24, gQ64_25, gQ64_27, gQ64_28, gQ64_29, gQ64_30, gQ64_31, gQ64_34, gQ64_35, gQ64_36, gQ64_39, gQ64_40, gQ64_41, gQ64_43, gQ64_44, gQ64_48, gQ64_50, gQ64_51, gQ64_52, gQ64_53, gQ64_54, gQ64_58, gQ64_59, gI30, gJ30, pI30, pJ30, rC30, gI31, gJ31, pI31, pJ31, rC31, gI33, gJ33, pI33, pJ33, rC33, gI36, gJ36, pI36, pJ36, rC36, gI39, gJ39, pI39, pJ39, rC39, gI48, gJ48, pI48, pJ48, rC48, gI51, gJ51, pI51, pJ51, rC51, gI53, gJ53, pI53, pJ53, rC53, gI60, gJ60, pI60, pJ60, rC60, gI64, gJ64, pI64, pJ64, rC64, aI27, aL27, aI28, aL28, aI32, wI32, aL32, aI34, wI34, aL34, aI35, wI35, aL35, aI37, wI37, aL37, aI38, wI38, aL38, aJ40, wJ40, aL40, aI41, wI41, aL41, aI42, wI42, aL42, aI43, wI43, aL43, aI44, wI44, aL44, aI45, wI45, aL45, aI46, wI46, aL46, aI47, wI47, aL47, aI49, wI49, aL49, aI50, wI50, aL50, aI52, wI52, aL52, aI54, wI54, aL54, aI55, wI55, aL55, aL56, aL57, aL58, aI59, wI59, aL59, aI61, wI61, aL61, aL62, aI63, wI63, aL63, aI65, wI65, aL65, aI66, wI66, aL66, aI67, wI67, aL67, aI68, wI68, aL68, aI69, wI69, aL69, aJ70, wJ70, aL70, aJ71, wJ71, aL71, aJ72, wJ72, aL72, aZ73, wZ73, aL73, aI74, wI74, aL74, aI75, wI75, aL75, aJ76, wJ76, aL76, aJ77, wJ77, aL77, aI78, wI78, aL78, aI79, wI79, aL79, aI80, wI80, aL80, aI81, wI81, aL81, aI82, wI82, aL82, aI83, wI83, aL83, aI84, wI84, aL84, aI85, wI85, aL85, aI86, wI86, aL86, aI87, wI87, aL87, aI88, wI88, aL88, aI89, wI89, aL89, aI90, wI90, aL90, aI91, wI91, aL91, aI92, wI92, aL92, aI93, wI93, aL93, aI94, wI94, aL94, aZ95, wZ95, aL95, aI96, wI96, aL96, aJ97, wJ97, aL97, nI_add, pk_mul, pk_div, ↓pk_rem, pk_sub, nI_ltI, nI_leI, nI_eq, hF, ((hS d hd).2 g hg).1, ((hS d hd).2 g hg).2, ((hS e he).2 j hj).1, ((hS e he).2 j hj).2, fb_andL, lc0, e0, lN_eq0 (show swL E d g &&& swL E e j < 9223372036854775808 by omega), lN_eq0 (show swH E d g &&& swH E e j < 9223372036854775808 by omega)]
  unfold bit
  by_cases c1 : swL E d g &&& swL E e j = 0
  · by_cases c2 : swH E d g &&& swH E e j = 0
    · simp [c1, c2, bI]
    · simp [c1, c2, bI]
  · simp [c1, bI]
end SWEPT
