/-! the reference's day done whole; the class's -/
section FOLLOW
variable {τ : Nat → Nat} {s : Nat} {E : Nat → Nat}
theorem l_306 {a n : Nat} {x : Int32} (ha : 30 ≤ a) (hn : n ≤ 60000) : ∀ r i m h, hK h a = 12 → hL h a = n → i + r = n → (∀ j, j < i → hI h a j = x) → ∃ g, l_306_5 (r + 1 + m) (some a) x (nI i) (nI n) h = some g ∧ Fz [a] h g ∧ ∀ j, j < n → hI g a j = x := by
  intro r
  induction r with
  | zero =>
    intro i m h hk hl hi hj
    obtain rfl : i = n := by omega
    refine ⟨h, ?_, Fz.rfl', hj⟩
    rw [show 0 + 1 + m = m + 1 by omega, l_306_5, b_306_5, if_pos (Int32.le_refl _), b_306_20]
  | succ r ih =>
    intro i m h hk hl hi hj
    obtain ⟨g, a1, a2, a3⟩ := ih (i + 1) m (sI h a i x) hk hl (by omega) (fun j hj' => by
      rw [hI_sI]
      by_cases e : j = i
      · rw [if_pos ⟨rfl, e⟩]
      · rw [if_neg (fun z => e z.2)]; exact hj j (by omega))
    refine ⟨g, ?_, Fz.then (Fz.sI Fz.rfl' (Or.inl (by simp))) a2, a3⟩
    rw [show r + 1 + 1 + m = (r + 1 + m) + 1 by omega, l_306_5, b_306_5, if_neg (by rw [nI_leI (by omega) (by omega)]; omega), b_306_10, wI_n hk ha hl (by omega) (by omega), Option.bind_some, bnd_e, nI_add]
    exact a1
theorem s_306 {a n : Nat} {x : Int32} {h : Hp} (ha : 30 ≤ a) (hn : n ≤ 60000) (hk : hK h a = 12) (hl : hL h a = n) : ∃ g, f_306 (some a) x h = some g ∧ Fz [a] h g ∧ ∀ j, j < n → hI g a j = x := by
  obtain ⟨m, hm⟩ := FU_ge (n + 1) (by omega)
  obtain ⟨g, a1, a2⟩ := l_306 (x := x) ha hn n 0 m h hk hl (by omega) (fun j hj => absurd hj (Nat.not_lt_zero j))
  refine ⟨g, ?_, a2⟩
  rw [f_306, b_306_0, bnd_e, aL_e hk hl (by omega), Option.bind_some, hm, a1]
/-- the day of what is now -/
def dyN (E : Nat → Nat) : Nat × Nat × (Nat → Nat) × Nat × Nat × Nat := dyR E (E 341) 0 (anE E) (E 340) 0 0
/-- a report: why, minutes, place, shuts, open doors -/
def RpR (h : Hp) (a : Nat) (E : Nat → Nat) : Prop := hI h a 0 = nI (dyN E).1 ∧ hI h a 1 = nI (dyN E).2.2.2.2.1 ∧ hI h a 2 = mI (dyN E).2.2.2.1 ∧ hI h a 3 = nI (dyN E).2.2.2.2.2 ∧ hI h a 4 = nI (opP (dyN E).2.2.1 (E 2))
theorem s_271 {h : Hp} (hF : Fix h) (hB : Bg h E) (hW : WF E) (hV : VA E (anE E) (E 340)) (hD : DW E) :
    ∃ g, f_271 (some 64) h = some (mI (dyN E).2.1, g) ∧ Fz [23000064, 66, 87, 46000064, 47000064, 50000064, 27000064, 74, 75, 88, 89] h g ∧ MD g E (dyN E).2.2.1 (dyN E).2.2.2.1 (dyN E).2.2.2.2.1 (dyN E).2.2.2.2.2 ∧ hI g 64 22 = 1 ∧ RpR g 89 E := by
  obtain ⟨k1, a1, a2, a3, a4, a5⟩ := s_253 hF hB hW hV.1 hV.2.1
  have hF1 := a2.fix hF (by decide)
  have hF2 : Fix (sI k1 64 49 (nI 0)) := fx_sI hF1 (by omega)
  have hM2 : MD (sI k1 64 49 (nI 0)) E (anE E) (E 340) 0 0 := by
    refine ⟨a3.cg ?_ ?_ ?_ ?_, hV, by rw [hI_sI, if_pos ⟨rfl, rfl⟩], by rw [hI_sI, if_neg (by omega)]; exact a5⟩
    · funext j; rw [hI_sI, if_neg (by omega)]
    · funext j; rw [hI_sI, if_neg (by omega)]
    · rw [hI_sI, if_neg (by omega)]
    · funext j; rw [hI_sI, if_neg (by omega)]
  obtain ⟨m, hm⟩ := FU_ge (E 341 + 1) (by have := hD.1; omega)
  obtain ⟨k2, b1, b2, b3⟩ := l_271 hW hD (E 341) 0 m _ _ _ _ _ hF2 hM2 (by omega)
  have hF3 := b2.fix hF2 (by decide)
  obtain ⟨m2, hm2⟩ := FU_ge (E 2 + 1) (by have := hW.2.2.1; omega)
  have c1 := l_271o (x := nI (dyN E).1) (y := mI (dyN E).2.1) hF3 b3.1.1 b3.1.2.1 b3.2.1.1 hW.2.2.1 (E 2) 0 m2 (by omega)
  have z1 : Fz [23000064, 66, 87, 46000064, 47000064, 50000064, 27000064, 74, 75, 88, 89] h k1 := a2.wid (by intro z hz; simp only [List.mem_cons, List.not_mem_nil, or_false] at hz ⊢; omega)
  have z2 : Fz [23000064, 66, 87, 46000064, 47000064, 50000064, 27000064, 74, 75, 88, 89] h k2 := (Fz.sI z1 (by decide)).then (b2.wid (by intro z hz; simp only [List.mem_cons, List.not_mem_nil, or_false] at hz ⊢; omega))
  have st : f_271 (some 64) h = b_271_111 (some 64) (nI (dyN E).1) (mI (dyN E).2.1) (nI (opP (dyN E).2.2.1 (E 2))) k2 := by
    rw [f_271, b_271_0]
    simp (disch := first | assumption | (repeat' (first | apply fx_sI | apply fx_sJ | assumption | omega))) only [bnd_e, grd_e, grd0, grd1, Option.bind_some, Option.isSome_some, gQ30_0, gQ30_1, gQ30_2, gQ30_3, gQ30_4, gQ30_5, gQ30_6, gQ30_7, gQ30_8, gQ30_9, gQ31_0, gQ33_0, gQ33_1, gQ36_0, gQ36_1, gQ39_0, gQ39_3, gQ39_4, gQ39_6, gQ39_8, gQ39_10, gQ39_11, gQ39_12, gQ48_0, gQ48_1, gQ51_2, gQ53_0, gQ53_1, gQ60_0, gQ60_1, gQ60_2, gQ64_1, gQ64_14, gQ64_15, gQ64_16, gQ64_17, gQ64_18, gQ64_19, gQ64_20, gQ64_21, gQ64_24, gQ64_25, gQ64_27, gQ64_28, gQ64_29, gQ64_30, gQ64_31, gQ64_34, gQ64_35, gQ64_36, gQ64_39, gQ64_40, gQ64_41, gQ64_43, gQ64_44, gQ64_48, gQ64_50, gQ64_51, gQ64_52, gQ64_53, gQ64_54, gQ64_58, gQ64_59, gI30, gJ30, pI30, pJ30, rC30, gI31, gJ31, pI31, pJ31, rC31, gI33, gJ33, pI33, pJ33, rC33, gI36, gJ36, pI36, pJ36, rC36, gI39, gJ39, pI39, pJ39, rC39, gI48, gJ48, pI48, pJ48, rC48, gI51, gJ51, pI51, pJ51, rC51, gI53, gJ53, pI53, pJ53, rC53, gI60, gJ60, pI60, pJ60, rC60, gI64, gJ64, pI64, pJ64, rC64, hF, a1, hF1]
    rw [hm, b1, b_271_74, bnd_e, bnd_e, hm2]
    exact c1
  have v45 : hI k2 64 45 = mI (dyN E).2.2.2.1 := b3.1.2.2.1
  have v46 : hI k2 64 46 = nI (dyN E).2.2.2.2.2 := b3.2.2.2
  have v49 : hI k2 64 49 = nI (dyN E).2.2.2.2.1 := b3.2.2.1
  have fin : b_271_111 (some 64) (nI (dyN E).1) (mI (dyN E).2.1) (nI (opP (dyN E).2.2.1 (E 2))) k2 = some (mI (dyN E).2.1, sI (sI (sI (sI (sI k2 89 0 (nI (dyN E).1)) 89 1 (nI (dyN E).2.2.2.2.1)) 89 2 (mI (dyN E).2.2.2.1)) 89 3 (nI (dyN E).2.2.2.2.2)) 89 4 (nI (opP (dyN E).2.2.1 (E 2)))) := by
    have ne : ∀ j k : Nat, ¬ ((64 : Nat) = 89 ∧ j = k) := fun j k => by omega
    rw [b_271_111]
    simp (disch := first | assumption | (repeat' (first | apply fx_sI | apply fx_sJ | assumption | omega))) only [bnd_e, grd_e, grd0, grd1, Option.bind_some, Option.isSome_some, gQ30_0, gQ30_1, gQ30_2, gQ30_3, gQ30_4, gQ30_5, gQ30_6, gQ30_7, gQ30_8, gQ30_9, gQ31_0, gQ33_0, gQ33_1, gQ36_0, gQ36_1, gQ39_0, gQ39_3, gQ39_4, gQ39_6, gQ39_8, gQ39_10, gQ39_11, gQ39_12, gQ48_0, gQ48_1, gQ51_2, gQ53_0, gQ53_1, gQ60_0, gQ60_1, gQ60_2, gQ64_1, gQ64_14, gQ64_15, gQ64_16, gQ64_17, gQ64_18, gQ64_19, gQ64_20, gQ64_21, gQ64_24, gQ64_25, gQ64_27, gQ64_28, gQ64_29, gQ64_30, gQ64_31, gQ64_34, gQ64_35, gQ64_36, gQ64_39, gQ64_40, gQ64_41, gQ64_43, gQ64_44, gQ64_48, gQ64_50, gQ64_51, gQ64_52, gQ64_53, gQ64_54, gQ64_58, gQ64_59, gI30, gJ30, pI30, pJ30, rC30, gI31, gJ31, pI31, pJ31, rC31, gI33, gJ33, pI33, pJ33, rC33, gI36, gJ36, pI36, pJ36, rC36, gI39, gJ39, pI39, pJ39, rC39, gI48, gJ48, pI48, pJ48, rC48, gI51, gJ51, pI51, pJ51, rC51, gI53, gJ53, pI53, pJ53, rC53, gI60, gJ60, pI60, pJ60, rC60, gI64, gJ64, pI64, pJ64, rC64, aI27, aL27, aI28, aL28, aI32, wI32, aL32, aI34, wI34, aL34, aI35, wI35, aL35, aI37, wI37, aL37, aI38, wI38, aL38, aJ40, wJ40, aL40, aI41, wI41, aL41, aI42, wI42, aL42, aI43, wI43, aL43, aI44, wI44, aL44, aI45, wI45, aL45, aI46, wI46, aL46, aI47, wI47, aL47, aI49, wI49, aL49, aI50, wI50, aL50, aI52, wI52, aL52, aI54, wI54, aL54, aI55, wI55, aL55, aL56, aL57, aL58, aI59, wI59, aL59, aI61, wI61, aL61, aL62, aI63, wI63, aL63, aI65, wI65, aL65, aI66, wI66, aL66, aI67, wI67, aL67, aI68, wI68, aL68, aI69, wI69, aL69, aJ70, wJ70, aL70, aJ71, wJ71, aL71, aJ72, wJ72, aL72, aZ73, wZ73, aL73, aI74, wI74, aL74, aI75, wI75, aL75, aJ76, wJ76, aL76, aJ77, wJ77, aL77, aI78, wI78, aL78, aI79, wI79, aL79, aI80, wI80, aL80, aI81, wI81, aL81, aI82, wI82, aL82, aI83, wI83, aL83, aI84, wI84, aL84, aI85, wI85, aL85, aI86, wI86, aL86, aI87, wI87, aL87, aI88, wI88, aL88, aI89, wI89, aL89, aI90, wI90, aL90, aI91, wI91, aL91, aI92, wI92, aL92, aI93, wI93, aL93, aI94, wI94, aL94, aZ95, wZ95, aL95, aI96, wI96, aL96, aJ97, wJ97, aL97, hI_sI, hJ_sI, hI_sJ, hJ_sJ, hQ_sI, hQ_sJ, hI_sQ, hJ_sQ, hK_sI, hK_sJ, hK_sQ, hL_sI, hL_sJ, hL_sQ, Fix_sI, Fix_sJ, hF3, ne, if_false, v45, v46, v49]
  rw [st, fin]
  refine ⟨_, rfl, ((((z2.sI (by decide)).sI (by decide)).sI (by decide)).sI (by decide)).sI (by decide), ⟨b3.1.cg ?_ ?_ ?_ ?_, b3.2.1, ?_, ?_⟩, ?_, ?_⟩
  · funext j; simp only [hI_sI, show ∀ k, ¬ ((66 : Nat) = 89 ∧ j = k) from fun k => by omega, if_false]
  · funext j; simp only [hI_sI, show ∀ k, ¬ ((87 : Nat) = 89 ∧ j = k) from fun k => by omega, if_false]
  · simp only [hI_sI, show ∀ k, ¬ ((64 : Nat) = 89 ∧ 45 = k) from fun k => by omega, if_false]
  · funext j; simp only [hI_sI, show ∀ k, ¬ ((88 : Nat) = 89 ∧ j = k) from fun k => by omega, if_false]
  · simp only [hI_sI, show ∀ k, ¬ ((64 : Nat) = 89 ∧ 49 = k) from fun k => by omega, if_false]; exact v49
  · simp only [hI_sI, show ∀ k, ¬ ((64 : Nat) = 89 ∧ 46 = k) from fun k => by omega, if_false]; exact v46
  · simp only [hI_sI, show ∀ k, ¬ ((64 : Nat) = 89 ∧ 22 = k) from fun k => by omega, if_false]
    rw [b2.I1 (by decide) (by decide), hI_sI, if_neg (by omega)]
    exact a4
  · refine ⟨?_, ?_, ?_, ?_, ?_⟩ <;> simp [hI_sI]
end FOLLOW
