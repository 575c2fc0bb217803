/-! the reference's scene: acts, draughts, minutes -/
section MS5
variable {E an : Nat → Nat} {pl : Nat} {h : Hp}
theorem mI_m1 {n : Nat} (hn : n < 2147483648) : (mI n = (-1 : Int32)) = (n = 0) := by
  apply propext
  rw [← mI_0, mI_inj hn (by omega)]
theorem stf : zI (stX 0) = nI 0 ∧ zI (stX 1) = nI 1 ∧ zI (stX 2) = nI 0 ∧ zI (stX 3) = -1 ∧ zI (stY 0) = -1 ∧ zI (stY 1) = nI 0 ∧ zI (stY 2) = nI 1 ∧ zI (stY 3) = nI 0 := by decide
theorem nff : (¬ nI 0 = nI 1) ∧ (¬ nI 0 = nI 2) ∧ (¬ nI 0 = nI 3) ∧ (¬ nI 1 = nI 2) ∧ (¬ nI 1 = 0) ∧ (¬ nI 2 = nI 1) ∧ (¬ nI 2 = nI 3) ∧ (¬ nI 3 = nI 1) ∧ (¬ nI 3 = nI 2) ∧ (¬ nI 3 = 0) := by decide
theorem tr_q {x : Int32} (hF : Fix h) (h45 : hI h 64 45 = nI (pl - 1)) (hp : pl ≤ 100) (n1 : ¬ x = nI 1) : b_259_22 (some 64) x h = b_259_38 (some 64) x (nI ((pl - 1) % 10)) h := by
  rw [b_259_22]
  simp (disch := first | assumption | (repeat' (first | apply fx_sI | apply fx_sJ | assumption | omega))) only [bnd_e, grd_e, grd0, grd1, Option.bind_some, Option.isSome_some, gQ30_0, gQ30_1, gQ30_2, gQ30_3, gQ30_4, gQ30_5, gQ30_6, gQ30_7, gQ30_8, gQ30_9, gQ31_0, gQ33_0, gQ33_1, gQ36_0, gQ36_1, gQ39_0, gQ39_3, gQ39_4, gQ39_6, gQ39_8, gQ39_10, gQ39_11, gQ39_12, gQ48_0, gQ48_1, gQ51_2, gQ53_0, gQ53_1, gQ60_0, gQ60_1, gQ60_2, gQ64_1, gQ64_14, gQ64_15, gQ64_16, gQ64_17, gQ64_18, gQ64_19, gQ64_20, gQ64_21, gQ64_24, gQ64_25, gQ64_27, gQ64_28, gQ64_29, gQ64_30, gQ64_31, gQ64_34, gQ64_35, gQ64_36, gQ64_39, gQ64_40, gQ64_41, gQ64_43, gQ64_44, gQ64_48, gQ64_50, gQ64_51, gQ64_52, gQ64_53, gQ64_54, gQ64_58, gQ64_59, gI30, gJ30, pI30, pJ30, rC30, gI31, gJ31, pI31, pJ31, rC31, gI33, gJ33, pI33, pJ33, rC33, gI36, gJ36, pI36, pJ36, rC36, gI39, gJ39, pI39, pJ39, rC39, gI48, gJ48, pI48, pJ48, rC48, gI51, gJ51, pI51, pJ51, rC51, gI53, gJ53, pI53, pJ53, rC53, gI60, gJ60, pI60, pJ60, rC60, gI64, gJ64, pI64, pJ64, rC64, hF, h45, d10, ↓pk_rem]
  rw [if_pos n1]
theorem tr_q1 (hF : Fix h) (h45 : hI h 64 45 = nI (pl - 1)) (hp : pl ≤ 100) : b_259_22 (some 64) (nI 1) h = b_259_34 (some 64) (nI 1) (nI ((pl - 1) % 10)) h := by
  rw [b_259_22]
  simp (disch := first | assumption | (repeat' (first | apply fx_sI | apply fx_sJ | assumption | omega))) only [bnd_e, grd_e, grd0, grd1, Option.bind_some, Option.isSome_some, gQ30_0, gQ30_1, gQ30_2, gQ30_3, gQ30_4, gQ30_5, gQ30_6, gQ30_7, gQ30_8, gQ30_9, gQ31_0, gQ33_0, gQ33_1, gQ36_0, gQ36_1, gQ39_0, gQ39_3, gQ39_4, gQ39_6, gQ39_8, gQ39_10, gQ39_11, gQ39_12, gQ48_0, gQ48_1, gQ51_2, gQ53_0, gQ53_1, gQ60_0, gQ60_1, gQ60_2, gQ64_1, gQ64_14, gQ64_15, gQ64_16, gQ64_17, gQ64_18, gQ64_19, gQ64_20, gQ64_21, gQ64_24, gQ64_25, gQ64_27, gQ64_28, gQ64_29, gQ64_30, gQ64_31, gQ64_34, gQ64_35, gQ64_36, gQ64_39, gQ64_40, gQ64_41, gQ64_43, gQ64_44, gQ64_48, gQ64_50, gQ64_51, gQ64_52, gQ64_53, gQ64_54, gQ64_58, gQ64_59, gI30, gJ30, pI30, pJ30, rC30, gI31, gJ31, pI31, pJ31, rC31, gI33, gJ33, pI33, pJ33, rC33, gI36, gJ36, pI36, pJ36, rC36, gI39, gJ39, pI39, pJ39, rC39, gI48, gJ48, pI48, pJ48, rC48, gI51, gJ51, pI51, pJ51, rC51, gI53, gJ53, pI53, pJ53, rC53, gI60, gJ60, pI60, pJ60, rC60, gI64, gJ64, pI64, pJ64, rC64, hF, h45, d10, ↓pk_rem]
  rw [if_neg (fun z => z trivial)]
theorem tr_r {x y z : Int32} (hF : Fix h) (h45 : hI h 64 45 = nI (pl - 1)) (hp : pl ≤ 100) (n1 : ¬ x = nI 2) : b_259_48 (some 64) x y z h = b_259_66 (some 64) x (y + z) (nI ((pl - 1) / 10)) h := by
  rw [b_259_48]
  simp (disch := first | assumption | (repeat' (first | apply fx_sI | apply fx_sJ | assumption | omega))) only [bnd_e, grd_e, grd0, grd1, Option.bind_some, Option.isSome_some, gQ30_0, gQ30_1, gQ30_2, gQ30_3, gQ30_4, gQ30_5, gQ30_6, gQ30_7, gQ30_8, gQ30_9, gQ31_0, gQ33_0, gQ33_1, gQ36_0, gQ36_1, gQ39_0, gQ39_3, gQ39_4, gQ39_6, gQ39_8, gQ39_10, gQ39_11, gQ39_12, gQ48_0, gQ48_1, gQ51_2, gQ53_0, gQ53_1, gQ60_0, gQ60_1, gQ60_2, gQ64_1, gQ64_14, gQ64_15, gQ64_16, gQ64_17, gQ64_18, gQ64_19, gQ64_20, gQ64_21, gQ64_24, gQ64_25, gQ64_27, gQ64_28, gQ64_29, gQ64_30, gQ64_31, gQ64_34, gQ64_35, gQ64_36, gQ64_39, gQ64_40, gQ64_41, gQ64_43, gQ64_44, gQ64_48, gQ64_50, gQ64_51, gQ64_52, gQ64_53, gQ64_54, gQ64_58, gQ64_59, gI30, gJ30, pI30, pJ30, rC30, gI31, gJ31, pI31, pJ31, rC31, gI33, gJ33, pI33, pJ33, rC33, gI36, gJ36, pI36, pJ36, rC36, gI39, gJ39, pI39, pJ39, rC39, gI48, gJ48, pI48, pJ48, rC48, gI51, gJ51, pI51, pJ51, rC51, gI53, gJ53, pI53, pJ53, rC53, gI60, gJ60, pI60, pJ60, rC60, gI64, gJ64, pI64, pJ64, rC64, hF, h45, d10, pk_div]
  rw [if_pos n1]
theorem tr_r2 {y z : Int32} (hF : Fix h) (h45 : hI h 64 45 = nI (pl - 1)) (hp : pl ≤ 100) : b_259_48 (some 64) (nI 2) y z h = b_259_62 (some 64) (y + z) (nI ((pl - 1) / 10)) h := by
  rw [b_259_48]
  simp (disch := first | assumption | (repeat' (first | apply fx_sI | apply fx_sJ | assumption | omega))) only [bnd_e, grd_e, grd0, grd1, Option.bind_some, Option.isSome_some, gQ30_0, gQ30_1, gQ30_2, gQ30_3, gQ30_4, gQ30_5, gQ30_6, gQ30_7, gQ30_8, gQ30_9, gQ31_0, gQ33_0, gQ33_1, gQ36_0, gQ36_1, gQ39_0, gQ39_3, gQ39_4, gQ39_6, gQ39_8, gQ39_10, gQ39_11, gQ39_12, gQ48_0, gQ48_1, gQ51_2, gQ53_0, gQ53_1, gQ60_0, gQ60_1, gQ60_2, gQ64_1, gQ64_14, gQ64_15, gQ64_16, gQ64_17, gQ64_18, gQ64_19, gQ64_20, gQ64_21, gQ64_24, gQ64_25, gQ64_27, gQ64_28, gQ64_29, gQ64_30, gQ64_31, gQ64_34, gQ64_35, gQ64_36, gQ64_39, gQ64_40, gQ64_41, gQ64_43, gQ64_44, gQ64_48, gQ64_50, gQ64_51, gQ64_52, gQ64_53, gQ64_54, gQ64_58, gQ64_59, gI30, gJ30, pI30, pJ30, rC30, gI31, gJ31, pI31, pJ31, rC31, gI33, gJ33, pI33, pJ33, rC33, gI36, gJ36, pI36, pJ36, rC36, gI39, gJ39, pI39, pJ39, rC39, gI48, gJ48, pI48, pJ48, rC48, gI51, gJ51, pI51, pJ51, rC51, gI53, gJ53, pI53, pJ53, rC53, gI60, gJ60, pI60, pJ60, rC60, gI64, gJ64, pI64, pJ64, rC64, hF, h45, d10, pk_div]
  rw [if_neg (fun z => z trivial)]
theorem tr_0 (hF : Fix h) (h45 : hI h 64 45 = nI (pl - 1)) (hp : pl ≤ 100) : b_259_22 (some 64) (nI 0) h = b_259_75 (some 64) (nI ((pl - 1) % 10) + nI 0) (nI ((pl - 1) / 10)) (-1) h := by
  obtain ⟨n01, n02, n03, n12, n10, n21, n23, n31, n32, n30⟩ := nff
  rw [tr_q hF h45 hp n01, b_259_38, if_pos n03, b_259_47, tr_r hF h45 hp n02, b_259_66, if_neg (fun z => z rfl), b_259_70]
theorem tr_1 (hF : Fix h) (h45 : hI h 64 45 = nI (pl - 1)) (hp : pl ≤ 100) : b_259_22 (some 64) (nI 1) h = b_259_75 (some 64) (nI ((pl - 1) % 10) + nI 1) (nI ((pl - 1) / 10)) (nI 0) h := by
  obtain ⟨n01, n02, n03, n12, n10, n21, n23, n31, n32, n30⟩ := nff
  rw [tr_q1 hF h45 hp, b_259_34, tr_r hF h45 hp n12, b_259_66, if_pos n10, b_259_74]
theorem tr_2 (hF : Fix h) (h45 : hI h 64 45 = nI (pl - 1)) (hp : pl ≤ 100) : b_259_22 (some 64) (nI 2) h = b_259_75 (some 64) (nI ((pl - 1) % 10) + nI 0) (nI ((pl - 1) / 10)) (nI 1) h := by
  obtain ⟨n01, n02, n03, n12, n10, n21, n23, n31, n32, n30⟩ := nff
  rw [tr_q hF h45 hp n21, b_259_38, if_pos n23, b_259_47, tr_r2 hF h45 hp, b_259_62]
theorem tr_3 (hF : Fix h) (h45 : hI h 64 45 = nI (pl - 1)) (hp : pl ≤ 100) : b_259_22 (some 64) (nI 3) h = b_259_75 (some 64) (nI ((pl - 1) % 10) + (-1)) (nI ((pl - 1) / 10)) (nI 0) h := by
  obtain ⟨n01, n02, n03, n12, n10, n21, n23, n31, n32, n30⟩ := nff
  rw [tr_q hF h45 hp n31, b_259_38, if_neg (fun z => z rfl), b_259_43, tr_r hF h45 hp n32, b_259_66, if_pos n30, b_259_74]
theorem tr_22 {A : Nat} (hF : Fix h) (h45 : hI h 64 45 = nI (pl - 1)) (hp : pl ≤ 100) (hA : A < 4) : b_259_22 (some 64) (nI A) h = b_259_75 (some 64) (zI (tgt pl A).1) (nI ((pl - 1) / 10)) (zI (stY A)) h := by
  have eX : nI ((pl - 1) % 10) + zI (stX A) = zI (tgt pl A).1 := by rw [nz, zI_add]; rfl
  obtain ⟨x0, x1, x2, x3, y0, y1, y2, y3⟩ := stf
  rw [← eX]
  rcases (show A = 0 ∨ A = 1 ∨ A = 2 ∨ A = 3 by omega) with e | e | e | e <;> rw [e]
  · rw [x0, y0, tr_0 hF h45 hp]
  · rw [x1, y1, tr_1 hF h45 hp]
  · rw [x2, y2, tr_2 hF h45 hp]
  · rw [x3, y3, tr_3 hF h45 hp]
theorem s_259 {A : Nat} (hF : Fix h) (hM : MS h E an pl) (hW : WF E) (hV : VA E an pl) (hA : A < 4 + 2 * E 2) :
    ∃ g, f_259 (some 64) (nI A) h = some (nI (knkK E an pl A), g) ∧ Fz [46000064, 87, 27000064, 74, 75, 88] h g ∧ (knkK E an pl A = 0 → MS g E (prA an A) (prP pl A) ∧ VA E (prA an A) (prP pl A)) ∧ (knkK E an pl A ≠ 0 → MS g E an pl) := by
  have hM' := hM
  obtain ⟨hE, h7, h45, h8⟩ := hM'
  have w2 := hW.2.2.1
  have hp := hV.2.2.2
  have nm : ¬ nI A = (-1 : Int32) := fun z => by
    have := congrArg Int32.toInt z
    rw [toI_nI (by omega), toI_m1] at this
    omega
  unfold knkK
  by_cases c : pl = 0
  · rw [if_pos c]
    refine ⟨h, ?_, Fz.rfl', fun z => absurd z (by omega), fun _ => hM⟩
    have hh : hI h 64 45 = -1 := by rw [h45, c]; rfl
    repeat ((first | rw [f_259] | rw [b_259_0] | rw [b_259_5] | rw [b_259_7] | rw [b_259_15] | rw [b_259_17] | rw [b_259_22] | rw [b_259_34] | rw [b_259_38] | rw [b_259_43] | rw [b_259_47] | rw [b_259_48] | rw [b_259_62] | rw [b_259_66] | rw [b_259_70] | rw [b_259_74] | rw [b_259_75] | rw [b_259_86] | rw [b_259_88] | rw [b_259_102] | rw [b_259_104] | rw [b_259_116] | rw [b_259_134] | rw [b_259_138] | rw [b_259_139] | rw [b_259_149] | rw [b_259_151] | rw [b_259_155] | rw [b_259_160] | rw [b_259_162] | rw [b_259_175] | rw [b_259_181]) <;> try simp (disch := first | assumption | (repeat' (first | apply fx_sI | apply fx_sJ | assumption | omega))) only [↓reduceIte, Option.bind_some, bnd_e, grd_e, grd0, grd1, bnd_e, grd_e, grd0, grd1, Option.bind_some, Option.isSome_some, gQ30_0, gQ30_1, gQ30_2, gQ30_3, gQ30_4, gQ30_5, gQ30_6, gQ30_7, gQ30_8, gQ30_9, gQ31_0, gQ33_0, gQ33_1, gQ36_0, gQ36_1, gQ39_0, gQ39_3, gQ39_4, gQ39_6, gQ39_8, gQ39_10, gQ39_11, gQ39_12, gQ48_0, gQ48_1, gQ51_2, gQ53_0, gQ53_1, gQ60_0, gQ60_1, gQ60_2, gQ64_1, gQ64_14, gQ64_15, gQ64_16, gQ64_17, gQ64_18, gQ64_19, gQ64_20, gQ64_21, gQ64_24, gQ64_25, gQ64_27, gQ64_28, gQ64_29, gQ64_30, gQ64_31, gQ64_34, gQ64_35, gQ64_36, gQ64_39, gQ64_40, gQ64_41, gQ64_43, gQ64_44, gQ64_48, gQ64_50, gQ64_51, gQ64_52, gQ64_53, gQ64_54, gQ64_58, gQ64_59, gI30, gJ30, pI30, pJ30, rC30, gI31, gJ31, pI31, pJ31, rC31, gI33, gJ33, pI33, pJ33, rC33, gI36, gJ36, pI36, pJ36, rC36, gI39, gJ39, pI39, pJ39, rC39, gI48, gJ48, pI48, pJ48, rC48, gI51, gJ51, pI51, pJ51, rC51, gI53, gJ53, pI53, pJ53, rC53, gI60, gJ60, pI60, pJ60, rC60, gI64, gJ64, pI64, pJ64, rC64, hF, nm, hh, not_true, not_false_eq_true])
  · rw [if_neg c]
    rw [mI_pos c] at h45
    have nm2 : ¬ nI (pl - 1) = (-1 : Int32) := fun z => by
      have := congrArg Int32.toInt z
      rw [toI_nI (by omega), toI_m1] at this
      omega
    by_cases c4 : A < 4
    · rw [if_pos c4]
      have tb := tgt_bd (A := A) hp
      have z1 : (zI (tgt pl A).1).toInt = (tgt pl A).1 := zI_toInt (by omega) (by omega)
      have z2 : (zI (tgt pl A).2).toInt = (tgt pl A).2 := zI_toInt (by omega) (by omega)
      have eY : nI ((pl - 1) / 10) + zI (stY A) = zI (tgt pl A).2 := by rw [nz, zI_add]; rfl
      have e255 := s_255 (x := zI (tgt pl A).1) (y := zI (tgt pl A).2) hF hE ⟨hW.1, hW.2.1⟩
      rw [z1, z2] at e255
      have e255 : f_255 (some 64) (zI (tgt pl A).1) (zI (tgt pl A).2) h = some (bI (wkB E (tgt pl A)), h) := e255
      have st : f_259 (some 64) (nI A) h = b_259_75 (some 64) (zI (tgt pl A).1) (nI ((pl - 1) / 10)) (zI (stY A)) h := by
        rw [← tr_22 hF h45 hp c4, f_259, b_259_0, if_pos nm, b_259_7]
        simp only [bnd_e, grd_e, grd0, grd1, Option.bind_some, Option.isSome_some, gQ30_0, gQ30_1, gQ30_2, gQ30_3, gQ30_4, gQ30_5, gQ30_6, gQ30_7, gQ30_8, gQ30_9, gQ31_0, gQ33_0, gQ33_1, gQ36_0, gQ36_1, gQ39_0, gQ39_3, gQ39_4, gQ39_6, gQ39_8, gQ39_10, gQ39_11, gQ39_12, gQ48_0, gQ48_1, gQ51_2, gQ53_0, gQ53_1, gQ60_0, gQ60_1, gQ60_2, gQ64_1, gQ64_14, gQ64_15, gQ64_16, gQ64_17, gQ64_18, gQ64_19, gQ64_20, gQ64_21, gQ64_24, gQ64_25, gQ64_27, gQ64_28, gQ64_29, gQ64_30, gQ64_31, gQ64_34, gQ64_35, gQ64_36, gQ64_39, gQ64_40, gQ64_41, gQ64_43, gQ64_44, gQ64_48, gQ64_50, gQ64_51, gQ64_52, gQ64_53, gQ64_54, gQ64_58, gQ64_59, gI30, gJ30, pI30, pJ30, rC30, gI31, gJ31, pI31, pJ31, rC31, gI33, gJ33, pI33, pJ33, rC33, gI36, gJ36, pI36, pJ36, rC36, gI39, gJ39, pI39, pJ39, rC39, gI48, gJ48, pI48, pJ48, rC48, gI51, gJ51, pI51, pJ51, rC51, gI53, gJ53, pI53, pJ53, rC53, gI60, gJ60, pI60, pJ60, rC60, gI64, gJ64, pI64, pJ64, rC64, hF, h45, nm2, not_false_eq_true, if_true]
        rw [b_259_17, if_neg (by rw [nI_leI (by omega) (by omega)]; omega)]
      rw [st]
      unfold stepK
      cases cw : wkB E (tgt pl A)
      · refine ⟨h, ?_, Fz.rfl', fun z => absurd z (by simp), fun _ => hM⟩
        rw [cw] at e255
        repeat ((first | rw [f_259] | rw [b_259_0] | rw [b_259_5] | rw [b_259_7] | rw [b_259_15] | rw [b_259_17] | rw [b_259_22] | rw [b_259_34] | rw [b_259_38] | rw [b_259_43] | rw [b_259_47] | rw [b_259_48] | rw [b_259_62] | rw [b_259_66] | rw [b_259_70] | rw [b_259_74] | rw [b_259_75] | rw [b_259_86] | rw [b_259_88] | rw [b_259_102] | rw [b_259_104] | rw [b_259_116] | rw [b_259_134] | rw [b_259_138] | rw [b_259_139] | rw [b_259_149] | rw [b_259_151] | rw [b_259_155] | rw [b_259_160] | rw [b_259_162] | rw [b_259_175] | rw [b_259_181]) <;> try simp (disch := first | assumption | (repeat' (first | apply fx_sI | apply fx_sJ | assumption | omega))) only [↓reduceIte, Option.bind_some, bnd_e, grd_e, grd0, grd1, bnd_e, grd_e, grd0, grd1, Option.bind_some, Option.isSome_some, gQ30_0, gQ30_1, gQ30_2, gQ30_3, gQ30_4, gQ30_5, gQ30_6, gQ30_7, gQ30_8, gQ30_9, gQ31_0, gQ33_0, gQ33_1, gQ36_0, gQ36_1, gQ39_0, gQ39_3, gQ39_4, gQ39_6, gQ39_8, gQ39_10, gQ39_11, gQ39_12, gQ48_0, gQ48_1, gQ51_2, gQ53_0, gQ53_1, gQ60_0, gQ60_1, gQ60_2, gQ64_1, gQ64_14, gQ64_15, gQ64_16, gQ64_17, gQ64_18, gQ64_19, gQ64_20, gQ64_21, gQ64_24, gQ64_25, gQ64_27, gQ64_28, gQ64_29, gQ64_30, gQ64_31, gQ64_34, gQ64_35, gQ64_36, gQ64_39, gQ64_40, gQ64_41, gQ64_43, gQ64_44, gQ64_48, gQ64_50, gQ64_51, gQ64_52, gQ64_53, gQ64_54, gQ64_58, gQ64_59, gI30, gJ30, pI30, pJ30, rC30, gI31, gJ31, pI31, pJ31, rC31, gI33, gJ33, pI33, pJ33, rC33, gI36, gJ36, pI36, pJ36, rC36, gI39, gJ39, pI39, pJ39, rC39, gI48, gJ48, pI48, pJ48, rC48, gI51, gJ51, pI51, pJ51, rC51, gI53, gJ53, pI53, pJ53, rC53, gI60, gJ60, pI60, pJ60, rC60, gI64, gJ64, pI64, pJ64, rC64, hF, eY, e255, bI_0', not_true])
      · have b := wkB_in ⟨hW.1, hW.2.1⟩ cw
        have e : nI 10 * zI (tgt pl A).2 + zI (tgt pl A).1 = nI (cN (tgt pl A)) := zI_cN b
        have cl : cN (tgt pl A) < 100 := cN_lt (x := (tgt pl A).1) (y := (tgt pl A).2) b
        have v1 := h8 _ cl
        have b1 := lonV_le (E := E) (an := an) (cN (tgt pl A)) (E 2)
        rw [cw] at e255
        rw [leafB_e]
        by_cases c0 : lonV E an (E 2) (cN (tgt pl A)) = 0
        · refine ⟨sI h 64 45 (nI (cN (tgt pl A))), ?_, Fz.sI Fz.rfl' (by decide), fun _ => ?_, fun z => absurd z (by simp [c0])⟩
          · rw [decide_eq_false (fun z => z c0)]
            repeat ((first | rw [f_259] | rw [b_259_0] | rw [b_259_5] | rw [b_259_7] | rw [b_259_15] | rw [b_259_17] | rw [b_259_22] | rw [b_259_34] | rw [b_259_38] | rw [b_259_43] | rw [b_259_47] | rw [b_259_48] | rw [b_259_62] | rw [b_259_66] | rw [b_259_70] | rw [b_259_74] | rw [b_259_75] | rw [b_259_86] | rw [b_259_88] | rw [b_259_102] | rw [b_259_104] | rw [b_259_116] | rw [b_259_134] | rw [b_259_138] | rw [b_259_139] | rw [b_259_149] | rw [b_259_151] | rw [b_259_155] | rw [b_259_160] | rw [b_259_162] | rw [b_259_175] | rw [b_259_181]) <;> try simp (disch := first | assumption | (repeat' (first | apply fx_sI | apply fx_sJ | assumption | omega))) only [↓reduceIte, Option.bind_some, bnd_e, grd_e, grd0, grd1, bnd_e, grd_e, grd0, grd1, Option.bind_some, Option.isSome_some, gQ30_0, gQ30_1, gQ30_2, gQ30_3, gQ30_4, gQ30_5, gQ30_6, gQ30_7, gQ30_8, gQ30_9, gQ31_0, gQ33_0, gQ33_1, gQ36_0, gQ36_1, gQ39_0, gQ39_3, gQ39_4, gQ39_6, gQ39_8, gQ39_10, gQ39_11, gQ39_12, gQ48_0, gQ48_1, gQ51_2, gQ53_0, gQ53_1, gQ60_0, gQ60_1, gQ60_2, gQ64_1, gQ64_14, gQ64_15, gQ64_16, gQ64_17, gQ64_18, gQ64_19, gQ64_20, gQ64_21, gQ64_24, gQ64_25, gQ64_27, gQ64_28, gQ64_29, gQ64_30, gQ64_31, gQ64_34, gQ64_35, gQ64_36, gQ64_39, gQ64_40, gQ64_41, gQ64_43, gQ64_44, gQ64_48, gQ64_50, gQ64_51, gQ64_52, gQ64_53, gQ64_54, gQ64_58, gQ64_59, gI30, gJ30, pI30, pJ30, rC30, gI31, gJ31, pI31, pJ31, rC31, gI33, gJ33, pI33, pJ33, rC33, gI36, gJ36, pI36, pJ36, rC36, gI39, gJ39, pI39, pJ39, rC39, gI48, gJ48, pI48, pJ48, rC48, gI51, gJ51, pI51, pJ51, rC51, gI53, gJ53, pI53, pJ53, rC53, gI60, gJ60, pI60, pJ60, rC60, gI64, gJ64, pI64, pJ64, rC64, aI27, aL27, aI28, aL28, aI32, wI32, aL32, aI34, wI34, aL34, aI35, wI35, aL35, aI37, wI37, aL37, aI38, wI38, aL38, aJ40, wJ40, aL40, aI41, wI41, aL41, aI42, wI42, aL42, aI43, wI43, aL43, aI44, wI44, aL44, aI45, wI45, aL45, aI46, wI46, aL46, aI47, wI47, aL47, aI49, wI49, aL49, aI50, wI50, aL50, aI52, wI52, aL52, aI54, wI54, aL54, aI55, wI55, aL55, aL56, aL57, aL58, aI59, wI59, aL59, aI61, wI61, aL61, aL62, aI63, wI63, aL63, aI65, wI65, aL65, aI66, wI66, aL66, aI67, wI67, aL67, aI68, wI68, aL68, aI69, wI69, aL69, aJ70, wJ70, aL70, aJ71, wJ71, aL71, aJ72, wJ72, aL72, aZ73, wZ73, aL73, aI74, wI74, aL74, aI75, wI75, aL75, aJ76, wJ76, aL76, aJ77, wJ77, aL77, aI78, wI78, aL78, aI79, wI79, aL79, aI80, wI80, aL80, aI81, wI81, aL81, aI82, wI82, aL82, aI83, wI83, aL83, aI84, wI84, aL84, aI85, wI85, aL85, aI86, wI86, aL86, aI87, wI87, aL87, aI88, wI88, aL88, aI89, wI89, aL89, aI90, wI90, aL90, aI91, wI91, aL91, aI92, wI92, aL92, aI93, wI93, aL93, aI94, wI94, aL94, aZ95, wZ95, aL95, aI96, wI96, aL96, aJ97, wJ97, aL97, hF, eY, e255, bI_0', Bool.true_eq_false, Bool.false_eq_true, not_false_eq_true, e, v1, nI_eq0 (show lonV E an (E 2) (cN (tgt pl A)) < 2147483648 by omega), c0, nI00])
          · unfold prA prP
            simp only [if_pos c4]
            refine ⟨⟨hE.cg (by funext j; rw [hI_sI, if_neg (by omega)]), fun d hd => by rw [hI_sI, if_neg (by omega)]; exact h7 d hd, by rw [hI_sI, if_pos ⟨rfl, rfl⟩]; rfl, fun c' hc' => by rw [hI_sI, if_neg (by omega)]; exact h8 c' hc'⟩, hV.1, hV.2.1, hV.2.2.1, by omega⟩
        · refine ⟨h, ?_, Fz.rfl', fun z => absurd z (by simp [c0]), fun _ => hM⟩
          rw [decide_eq_true c0]
          repeat ((first | rw [f_259] | rw [b_259_0] | rw [b_259_5] | rw [b_259_7] | rw [b_259_15] | rw [b_259_17] | rw [b_259_22] | rw [b_259_34] | rw [b_259_38] | rw [b_259_43] | rw [b_259_47] | rw [b_259_48] | rw [b_259_62] | rw [b_259_66] | rw [b_259_70] | rw [b_259_74] | rw [b_259_75] | rw [b_259_86] | rw [b_259_88] | rw [b_259_102] | rw [b_259_104] | rw [b_259_116] | rw [b_259_134] | rw [b_259_138] | rw [b_259_139] | rw [b_259_149] | rw [b_259_151] | rw [b_259_155] | rw [b_259_160] | rw [b_259_162] | rw [b_259_175] | rw [b_259_181]) <;> try simp (disch := first | assumption | (repeat' (first | apply fx_sI | apply fx_sJ | assumption | omega))) only [↓reduceIte, Option.bind_some, bnd_e, grd_e, grd0, grd1, bnd_e, grd_e, grd0, grd1, Option.bind_some, Option.isSome_some, gQ30_0, gQ30_1, gQ30_2, gQ30_3, gQ30_4, gQ30_5, gQ30_6, gQ30_7, gQ30_8, gQ30_9, gQ31_0, gQ33_0, gQ33_1, gQ36_0, gQ36_1, gQ39_0, gQ39_3, gQ39_4, gQ39_6, gQ39_8, gQ39_10, gQ39_11, gQ39_12, gQ48_0, gQ48_1, gQ51_2, gQ53_0, gQ53_1, gQ60_0, gQ60_1, gQ60_2, gQ64_1, gQ64_14, gQ64_15, gQ64_16, gQ64_17, gQ64_18, gQ64_19, gQ64_20, gQ64_21, gQ64_24, gQ64_25, gQ64_27, gQ64_28, gQ64_29, gQ64_30, gQ64_31, gQ64_34, gQ64_35, gQ64_36, gQ64_39, gQ64_40, gQ64_41, gQ64_43, gQ64_44, gQ64_48, gQ64_50, gQ64_51, gQ64_52, gQ64_53, gQ64_54, gQ64_58, gQ64_59, gI30, gJ30, pI30, pJ30, rC30, gI31, gJ31, pI31, pJ31, rC31, gI33, gJ33, pI33, pJ33, rC33, gI36, gJ36, pI36, pJ36, rC36, gI39, gJ39, pI39, pJ39, rC39, gI48, gJ48, pI48, pJ48, rC48, gI51, gJ51, pI51, pJ51, rC51, gI53, gJ53, pI53, pJ53, rC53, gI60, gJ60, pI60, pJ60, rC60, gI64, gJ64, pI64, pJ64, rC64, aI27, aL27, aI28, aL28, aI32, wI32, aL32, aI34, wI34, aL34, aI35, wI35, aL35, aI37, wI37, aL37, aI38, wI38, aL38, aJ40, wJ40, aL40, aI41, wI41, aL41, aI42, wI42, aL42, aI43, wI43, aL43, aI44, wI44, aL44, aI45, wI45, aL45, aI46, wI46, aL46, aI47, wI47, aL47, aI49, wI49, aL49, aI50, wI50, aL50, aI52, wI52, aL52, aI54, wI54, aL54, aI55, wI55, aL55, aL56, aL57, aL58, aI59, wI59, aL59, aI61, wI61, aL61, aL62, aI63, wI63, aL63, aI65, wI65, aL65, aI66, wI66, aL66, aI67, wI67, aL67, aI68, wI68, aL68, aI69, wI69, aL69, aJ70, wJ70, aL70, aJ71, wJ71, aL71, aJ72, wJ72, aL72, aZ73, wZ73, aL73, aI74, wI74, aL74, aI75, wI75, aL75, aJ76, wJ76, aL76, aJ77, wJ77, aL77, aI78, wI78, aL78, aI79, wI79, aL79, aI80, wI80, aL80, aI81, wI81, aL81, aI82, wI82, aL82, aI83, wI83, aL83, aI84, wI84, aL84, aI85, wI85, aL85, aI86, wI86, aL86, aI87, wI87, aL87, aI88, wI88, aL88, aI89, wI89, aL89, aI90, wI90, aL90, aI91, wI91, aL91, aI92, wI92, aL92, aI93, wI93, aL93, aI94, wI94, aL94, aZ95, wZ95, aL95, aI96, wI96, aL96, aJ97, wJ97, aL97, hF, eY, e255, bI_0', Bool.true_eq_false, not_false_eq_true, e, v1, nI_eq0 (show lonV E an (E 2) (cN (tgt pl A)) < 2147483648 by omega), c0])
    · rw [if_neg c4]
      have hd : dA A < E 2 := by unfold dA; omega
      have h3 := hV.1 _ hd
      have e1 : nI (A / 2) - nI 2 = nI (dA A) := by rw [pk_sub (by omega)]; congr 1; unfold dA; omega
      have hv := h7 (dA A) (by omega)
      have hz : -2 < nxA an A ∧ nxA an A < 4 := by
        unfold nxA
        split <;> omega
      have e256 := s_256 hF hM hW hV hd
      have st : f_259 (some 64) (nI A) h = if nearB E an pl (dA A) = true then b_259_151 (some 64) (nI (dA A)) (zI (nxA an A)) h else some (nI 4, h) := by
        have ez : zI (nxA an A) = nI (an (dA A)) + (if A % 2 = 0 then nI 1 else -1) := by
          unfold nxA
          rw [← zI_add, zI_nat]
          split <;> rfl
        rw [f_259, b_259_0, if_pos nm, b_259_7]
        simp only [bnd_e, grd_e, grd0, grd1, Option.bind_some, Option.isSome_some, gQ30_0, gQ30_1, gQ30_2, gQ30_3, gQ30_4, gQ30_5, gQ30_6, gQ30_7, gQ30_8, gQ30_9, gQ31_0, gQ33_0, gQ33_1, gQ36_0, gQ36_1, gQ39_0, gQ39_3, gQ39_4, gQ39_6, gQ39_8, gQ39_10, gQ39_11, gQ39_12, gQ48_0, gQ48_1, gQ51_2, gQ53_0, gQ53_1, gQ60_0, gQ60_1, gQ60_2, gQ64_1, gQ64_14, gQ64_15, gQ64_16, gQ64_17, gQ64_18, gQ64_19, gQ64_20, gQ64_21, gQ64_24, gQ64_25, gQ64_27, gQ64_28, gQ64_29, gQ64_30, gQ64_31, gQ64_34, gQ64_35, gQ64_36, gQ64_39, gQ64_40, gQ64_41, gQ64_43, gQ64_44, gQ64_48, gQ64_50, gQ64_51, gQ64_52, gQ64_53, gQ64_54, gQ64_58, gQ64_59, gI30, gJ30, pI30, pJ30, rC30, gI31, gJ31, pI31, pJ31, rC31, gI33, gJ33, pI33, pJ33, rC33, gI36, gJ36, pI36, pJ36, rC36, gI39, gJ39, pI39, pJ39, rC39, gI48, gJ48, pI48, pJ48, rC48, gI51, gJ51, pI51, pJ51, rC51, gI53, gJ53, pI53, pJ53, rC53, gI60, gJ60, pI60, pJ60, rC60, gI64, gJ64, pI64, pJ64, rC64, hF, h45, nm2, not_false_eq_true, if_true]
        rw [b_259_17, if_pos (by rw [nI_leI (by omega) (by omega)]; omega), b_259_116]
        have q : ∀ x : Int32, b_259_139 (some 64) (nI (dA A)) (nI (an (dA A))) x h = if nearB E an pl (dA A) = true then b_259_151 (some 64) (nI (dA A)) (nI (an (dA A)) + x) h else some (nI 4, h) := by
          intro x
          rw [b_259_139]
          simp only [bnd_e, grd_e, grd0, grd1, Option.bind_some, Option.isSome_some, gQ30_0, gQ30_1, gQ30_2, gQ30_3, gQ30_4, gQ30_5, gQ30_6, gQ30_7, gQ30_8, gQ30_9, gQ31_0, gQ33_0, gQ33_1, gQ36_0, gQ36_1, gQ39_0, gQ39_3, gQ39_4, gQ39_6, gQ39_8, gQ39_10, gQ39_11, gQ39_12, gQ48_0, gQ48_1, gQ51_2, gQ53_0, gQ53_1, gQ60_0, gQ60_1, gQ60_2, gQ64_1, gQ64_14, gQ64_15, gQ64_16, gQ64_17, gQ64_18, gQ64_19, gQ64_20, gQ64_21, gQ64_24, gQ64_25, gQ64_27, gQ64_28, gQ64_29, gQ64_30, gQ64_31, gQ64_34, gQ64_35, gQ64_36, gQ64_39, gQ64_40, gQ64_41, gQ64_43, gQ64_44, gQ64_48, gQ64_50, gQ64_51, gQ64_52, gQ64_53, gQ64_54, gQ64_58, gQ64_59, gI30, gJ30, pI30, pJ30, rC30, gI31, gJ31, pI31, pJ31, rC31, gI33, gJ33, pI33, pJ33, rC33, gI36, gJ36, pI36, pJ36, rC36, gI39, gJ39, pI39, pJ39, rC39, gI48, gJ48, pI48, pJ48, rC48, gI51, gJ51, pI51, pJ51, rC51, gI53, gJ53, pI53, pJ53, rC53, gI60, gJ60, pI60, pJ60, rC60, gI64, gJ64, pI64, pJ64, rC64, hF, e256, bI_0']
          cases nearB E an pl (dA A)
          · rfl
          · rfl
        rcases (show A % 2 = 0 ∨ A % 2 = 1 by omega) with o | o
        · rw [ez, if_pos o]
          simp (disch := first | assumption | (repeat' (first | apply fx_sI | apply fx_sJ | assumption | omega))) only [bnd_e, grd_e, grd0, grd1, Option.bind_some, Option.isSome_some, gQ30_0, gQ30_1, gQ30_2, gQ30_3, gQ30_4, gQ30_5, gQ30_6, gQ30_7, gQ30_8, gQ30_9, gQ31_0, gQ33_0, gQ33_1, gQ36_0, gQ36_1, gQ39_0, gQ39_3, gQ39_4, gQ39_6, gQ39_8, gQ39_10, gQ39_11, gQ39_12, gQ48_0, gQ48_1, gQ51_2, gQ53_0, gQ53_1, gQ60_0, gQ60_1, gQ60_2, gQ64_1, gQ64_14, gQ64_15, gQ64_16, gQ64_17, gQ64_18, gQ64_19, gQ64_20, gQ64_21, gQ64_24, gQ64_25, gQ64_27, gQ64_28, gQ64_29, gQ64_30, gQ64_31, gQ64_34, gQ64_35, gQ64_36, gQ64_39, gQ64_40, gQ64_41, gQ64_43, gQ64_44, gQ64_48, gQ64_50, gQ64_51, gQ64_52, gQ64_53, gQ64_54, gQ64_58, gQ64_59, gI30, gJ30, pI30, pJ30, rC30, gI31, gJ31, pI31, pJ31, rC31, gI33, gJ33, pI33, pJ33, rC33, gI36, gJ36, pI36, pJ36, rC36, gI39, gJ39, pI39, pJ39, rC39, gI48, gJ48, pI48, pJ48, rC48, gI51, gJ51, pI51, pJ51, rC51, gI53, gJ53, pI53, pJ53, rC53, gI60, gJ60, pI60, pJ60, rC60, gI64, gJ64, pI64, pJ64, rC64, aI27, aL27, aI28, aL28, aI32, wI32, aL32, aI34, wI34, aL34, aI35, wI35, aL35, aI37, wI37, aL37, aI38, wI38, aL38, aJ40, wJ40, aL40, aI41, wI41, aL41, aI42, wI42, aL42, aI43, wI43, aL43, aI44, wI44, aL44, aI45, wI45, aL45, aI46, wI46, aL46, aI47, wI47, aL47, aI49, wI49, aL49, aI50, wI50, aL50, aI52, wI52, aL52, aI54, wI54, aL54, aI55, wI55, aL55, aL56, aL57, aL58, aI59, wI59, aL59, aI61, wI61, aL61, aL62, aI63, wI63, aL63, aI65, wI65, aL65, aI66, wI66, aL66, aI67, wI67, aL67, aI68, wI68, aL68, aI69, wI69, aL69, aJ70, wJ70, aL70, aJ71, wJ71, aL71, aJ72, wJ72, aL72, aZ73, wZ73, aL73, aI74, wI74, aL74, aI75, wI75, aL75, aJ76, wJ76, aL76, aJ77, wJ77, aL77, aI78, wI78, aL78, aI79, wI79, aL79, aI80, wI80, aL80, aI81, wI81, aL81, aI82, wI82, aL82, aI83, wI83, aL83, aI84, wI84, aL84, aI85, wI85, aL85, aI86, wI86, aL86, aI87, wI87, aL87, aI88, wI88, aL88, aI89, wI89, aL89, aI90, wI90, aL90, aI91, wI91, aL91, aI92, wI92, aL92, aI93, wI93, aL93, aI94, wI94, aL94, aZ95, wZ95, aL95, aI96, wI96, aL96, aJ97, wJ97, aL97, hF, d2, ↓pk_rem, pk_div, e1, hv, o, nI00, not_true, if_false, b_259_134, q]
        · rw [ez, if_neg (show ¬ A % 2 = 0 by omega)]
          simp (disch := first | assumption | (repeat' (first | apply fx_sI | apply fx_sJ | assumption | omega))) only [bnd_e, grd_e, grd0, grd1, Option.bind_some, Option.isSome_some, gQ30_0, gQ30_1, gQ30_2, gQ30_3, gQ30_4, gQ30_5, gQ30_6, gQ30_7, gQ30_8, gQ30_9, gQ31_0, gQ33_0, gQ33_1, gQ36_0, gQ36_1, gQ39_0, gQ39_3, gQ39_4, gQ39_6, gQ39_8, gQ39_10, gQ39_11, gQ39_12, gQ48_0, gQ48_1, gQ51_2, gQ53_0, gQ53_1, gQ60_0, gQ60_1, gQ60_2, gQ64_1, gQ64_14, gQ64_15, gQ64_16, gQ64_17, gQ64_18, gQ64_19, gQ64_20, gQ64_21, gQ64_24, gQ64_25, gQ64_27, gQ64_28, gQ64_29, gQ64_30, gQ64_31, gQ64_34, gQ64_35, gQ64_36, gQ64_39, gQ64_40, gQ64_41, gQ64_43, gQ64_44, gQ64_48, gQ64_50, gQ64_51, gQ64_52, gQ64_53, gQ64_54, gQ64_58, gQ64_59, gI30, gJ30, pI30, pJ30, rC30, gI31, gJ31, pI31, pJ31, rC31, gI33, gJ33, pI33, pJ33, rC33, gI36, gJ36, pI36, pJ36, rC36, gI39, gJ39, pI39, pJ39, rC39, gI48, gJ48, pI48, pJ48, rC48, gI51, gJ51, pI51, pJ51, rC51, gI53, gJ53, pI53, pJ53, rC53, gI60, gJ60, pI60, pJ60, rC60, gI64, gJ64, pI64, pJ64, rC64, aI27, aL27, aI28, aL28, aI32, wI32, aL32, aI34, wI34, aL34, aI35, wI35, aL35, aI37, wI37, aL37, aI38, wI38, aL38, aJ40, wJ40, aL40, aI41, wI41, aL41, aI42, wI42, aL42, aI43, wI43, aL43, aI44, wI44, aL44, aI45, wI45, aL45, aI46, wI46, aL46, aI47, wI47, aL47, aI49, wI49, aL49, aI50, wI50, aL50, aI52, wI52, aL52, aI54, wI54, aL54, aI55, wI55, aL55, aL56, aL57, aL58, aI59, wI59, aL59, aI61, wI61, aL61, aL62, aI63, wI63, aL63, aI65, wI65, aL65, aI66, wI66, aL66, aI67, wI67, aL67, aI68, wI68, aL68, aI69, wI69, aL69, aJ70, wJ70, aL70, aJ71, wJ71, aL71, aJ72, wJ72, aL72, aZ73, wZ73, aL73, aI74, wI74, aL74, aI75, wI75, aL75, aJ76, wJ76, aL76, aJ77, wJ77, aL77, aI78, wI78, aL78, aI79, wI79, aL79, aI80, wI80, aL80, aI81, wI81, aL81, aI82, wI82, aL82, aI83, wI83, aL83, aI84, wI84, aL84, aI85, wI85, aL85, aI86, wI86, aL86, aI87, wI87, aL87, aI88, wI88, aL88, aI89, wI89, aL89, aI90, wI90, aL90, aI91, wI91, aL91, aI92, wI92, aL92, aI93, wI93, aL93, aI94, wI94, aL94, aZ95, wZ95, aL95, aI96, wI96, aL96, aJ97, wJ97, aL97, hF, d2, ↓pk_rem, pk_div, e1, hv, o, nI10, not_false_eq_true, if_true, b_259_138, q]
      rw [st]
      cases hn : nearB E an pl (dA A)
      · refine ⟨h, by simp only [Bool.false_eq_true, if_false], Fz.rfl', fun z => absurd z (by simp), fun _ => hM⟩
      · simp only [if_true]
        unfold swK
        have l0 : (zI (nxA an A) < 0) = (nxA an A < 0) := propext (by rw [zI_0]; exact zI_lt (by omega) (by omega) (by omega) (by omega))
        have l2 : (zI (nxA an A) ≤ nI 2) = (nxA an A ≤ 2) := propext (by rw [nz 2]; exact zI_le (by omega) (by omega) (by omega) (by omega))
        by_cases cz : nxA an A < 0 ∨ 3 ≤ nxA an A
        · rw [if_pos cz]
          refine ⟨h, ?_, Fz.rfl', fun z => absurd z (by omega), fun _ => hM⟩
          rw [b_259_151]
          simp only [l0, b_259_155, l2, b_259_160]
          by_cases c0 : nxA an A < 0
          · rw [if_pos c0]
          · rw [if_neg c0, if_neg (by omega)]
        · rw [if_neg cz]
          have ha : (nxA an A).toNat < 3 := by omega
          obtain ⟨k1, a1, a2⟩ := s_257 (a := (nxA an A).toNat) hF hM hW hV hd ha
          have hF1 := a2.fix hF (by decide)
          have hM1 : MS k1 E an pl := hM.cg (a2.I (a := 66) (by decide)) (a2.I (a := 87) (by decide)) (a2.I1 (by decide) (by decide)) (a2.I (a := 88) (by decide))
          have hb : hndK E an pl (dA A) (nxA an A).toNat < 10 := by unfold hndK; (repeat' split) <;> omega
          rw [zI_toNat (show 0 ≤ nxA an A by omega)] at l0 l2 ⊢
          have pre : b_259_151 (some 64) (nI (dA A)) (nI (nxA an A).toNat) h = b_259_162 (some 64) (nI (dA A)) (nI (nxA an A).toNat) h := by
            rw [b_259_151]
            simp only [l0, b_259_155, l2]
            rw [if_neg (by omega), if_pos (by omega)]
          rw [pre]
          by_cases c0 : hndK E an pl (dA A) (nxA an A).toNat = 0
          · have hV1 := hV.up hd ha c0
            obtain ⟨k2, b1, b2, b3⟩ := s_258 (a := (nxA an A).toNat) hF1 hM1 hW hd hV1.1 hV1.2.1
            refine ⟨k2, ?_, (a2.wid (by intro z hz; simp only [List.mem_cons, List.not_mem_nil, or_false] at hz ⊢; omega)).then (b2.wid (by intro z hz; simp only [List.mem_cons, List.not_mem_nil, or_false] at hz ⊢; omega)), fun _ => ?_, fun z => absurd c0 z⟩
            · rw [b_259_162]
              simp only [bnd_e, grd_e, grd0, grd1, Option.bind_some, Option.isSome_some, gQ30_0, gQ30_1, gQ30_2, gQ30_3, gQ30_4, gQ30_5, gQ30_6, gQ30_7, gQ30_8, gQ30_9, gQ31_0, gQ33_0, gQ33_1, gQ36_0, gQ36_1, gQ39_0, gQ39_3, gQ39_4, gQ39_6, gQ39_8, gQ39_10, gQ39_11, gQ39_12, gQ48_0, gQ48_1, gQ51_2, gQ53_0, gQ53_1, gQ60_0, gQ60_1, gQ60_2, gQ64_1, gQ64_14, gQ64_15, gQ64_16, gQ64_17, gQ64_18, gQ64_19, gQ64_20, gQ64_21, gQ64_24, gQ64_25, gQ64_27, gQ64_28, gQ64_29, gQ64_30, gQ64_31, gQ64_34, gQ64_35, gQ64_36, gQ64_39, gQ64_40, gQ64_41, gQ64_43, gQ64_44, gQ64_48, gQ64_50, gQ64_51, gQ64_52, gQ64_53, gQ64_54, gQ64_58, gQ64_59, gI30, gJ30, pI30, pJ30, rC30, gI31, gJ31, pI31, pJ31, rC31, gI33, gJ33, pI33, pJ33, rC33, gI36, gJ36, pI36, pJ36, rC36, gI39, gJ39, pI39, pJ39, rC39, gI48, gJ48, pI48, pJ48, rC48, gI51, gJ51, pI51, pJ51, rC51, gI53, gJ53, pI53, pJ53, rC53, gI60, gJ60, pI60, pJ60, rC60, gI64, gJ64, pI64, pJ64, rC64, hF, a1, c0, nI00, not_true, if_false, b_259_175, hF1, b1, b_259_181]
            · unfold prA prP
              simp only [if_neg c4]
              exact ⟨b3, hV1⟩
          · refine ⟨k1, ?_, a2.wid (by intro z hz; simp only [List.mem_cons, List.not_mem_nil, or_false] at hz ⊢; omega), fun z => absurd z c0, fun _ => hM1⟩
            rw [b_259_162]
            simp only [bnd_e, grd_e, grd0, grd1, Option.bind_some, Option.isSome_some, gQ30_0, gQ30_1, gQ30_2, gQ30_3, gQ30_4, gQ30_5, gQ30_6, gQ30_7, gQ30_8, gQ30_9, gQ31_0, gQ33_0, gQ33_1, gQ36_0, gQ36_1, gQ39_0, gQ39_3, gQ39_4, gQ39_6, gQ39_8, gQ39_10, gQ39_11, gQ39_12, gQ48_0, gQ48_1, gQ51_2, gQ53_0, gQ53_1, gQ60_0, gQ60_1, gQ60_2, gQ64_1, gQ64_14, gQ64_15, gQ64_16, gQ64_17, gQ64_18, gQ64_19, gQ64_20, gQ64_21, gQ64_24, gQ64_25, gQ64_27, gQ64_28, gQ64_29, gQ64_30, gQ64_31, gQ64_34, gQ64_35, gQ64_36, gQ64_39, gQ64_40, gQ64_41, gQ64_43, gQ64_44, gQ64_48, gQ64_50, gQ64_51, gQ64_52, gQ64_53, gQ64_54, gQ64_58, gQ64_59, gI30, gJ30, pI30, pJ30, rC30, gI31, gJ31, pI31, pJ31, rC31, gI33, gJ33, pI33, pJ33, rC33, gI36, gJ36, pI36, pJ36, rC36, gI39, gJ39, pI39, pJ39, rC39, gI48, gJ48, pI48, pJ48, rC48, gI51, gJ51, pI51, pJ51, rC51, gI53, gJ53, pI53, pJ53, rC53, gI60, gJ60, pI60, pJ60, rC60, gI64, gJ64, pI64, pJ64, rC64, hF, a1, nI_eq0 (show hndK E an pl (dA A) (nxA an A).toNat < 2147483648 by omega), c0, not_false_eq_true, if_true, b_259_181]
theorem s_259w : f_259 (some 64) (-1) h = some (nI 0, h) := by
  simp only [f_259, b_259_0, b_259_5, b_259_7, b_259_15, b_259_17, b_259_22, b_259_34, b_259_38, b_259_43, b_259_47, b_259_48, b_259_62, b_259_66, b_259_70, b_259_74, b_259_75, b_259_86, b_259_88, b_259_102, b_259_104, b_259_116, b_259_134, b_259_138, b_259_139, b_259_149, b_259_151, b_259_155, b_259_160, b_259_162, b_259_175, b_259_181, ↓reduceIte, not_true, if_false]
/-- the draughts of a minute -/
theorem bl_VA (hW : WF E) (hV : VA E an pl) : ∀ k, k ≤ E 3 → VA E (bl E an pl k).1 pl := by
  intro k
  induction k with
  | zero => intro _; exact hV
  | succ k ih =>
    intro hk
    have h1 := ih (by omega)
    unfold bl
    split
    · rename_i c
      have g2 := hW.dg (show 3 * k + 2 < 3 * E 3 by omega)
      have h3 := h1.1 _ g2
      exact h1.up g2 (by rw [show 310 + (3 * k + 2) = 310 + 3 * k + 2 by omega] at h3; omega) c.2.2.2
    · exact h1
theorem l_260 (hW : WF E) (hV : VA E an pl) {n0 : Nat} : ∀ r k m h, k + r = E 3 → Fix h → MS h E (bl E an pl k).1 pl → hI h 64 46 = nI n0 →
    ∃ g, l_260_4 (r + 1 + m) (some 64) (nI (bl E an pl k).2) (nI k) h = some (nI (bl E an pl (E 3)).2, g) ∧ Fz [87, 27000064, 74, 75, 88, 47000064] h g ∧ MS g E (bl E an pl (E 3)).1 pl ∧ hI g 64 46 = nI (n0 + (bl E an pl (E 3)).2) := by
  intro r
  induction r with
  | zero =>
    intro k m h hk hF hM hn
    obtain rfl : k = E 3 := by omega
    have hE := hM.1
    have w3 := hW.2.2.2.1
    refine ⟨sI h 64 46 (nI (n0 + (bl E an pl (E 3)).2)), ?_, Fz.sI Fz.rfl' (by decide), ?_, by rw [hI_sI, if_pos ⟨rfl, rfl⟩]⟩
    · rw [show 0 + 1 + m = m + 1 by omega, l_260_4]
      repeat ((first | rw [f_260] | rw [b_260_0] | rw [b_260_4] | rw [b_260_14] | rw [b_260_68] | rw [b_260_78] | rw [b_260_88] | rw [b_260_106] | rw [b_260_109] | rw [b_260_127] | rw [b_260_133]) <;> try simp (disch := first | assumption | (repeat' (first | apply fx_sI | apply fx_sJ | assumption | omega))) only [↓reduceIte, Option.bind_some, bnd_e, grd_e, grd0, grd1, bnd_e, grd_e, grd0, grd1, Option.bind_some, Option.isSome_some, gQ30_0, gQ30_1, gQ30_2, gQ30_3, gQ30_4, gQ30_5, gQ30_6, gQ30_7, gQ30_8, gQ30_9, gQ31_0, gQ33_0, gQ33_1, gQ36_0, gQ36_1, gQ39_0, gQ39_3, gQ39_4, gQ39_6, gQ39_8, gQ39_10, gQ39_11, gQ39_12, gQ48_0, gQ48_1, gQ51_2, gQ53_0, gQ53_1, gQ60_0, gQ60_1, gQ60_2, gQ64_1, gQ64_14, gQ64_15, gQ64_16, gQ64_17, gQ64_18, gQ64_19, gQ64_20, gQ64_21, gQ64_24, gQ64_25, gQ64_27, gQ64_28, gQ64_29, gQ64_30, gQ64_31, gQ64_34, gQ64_35, gQ64_36, gQ64_39, gQ64_40, gQ64_41, gQ64_43, gQ64_44, gQ64_48, gQ64_50, gQ64_51, gQ64_52, gQ64_53, gQ64_54, gQ64_58, gQ64_59, gI30, gJ30, pI30, pJ30, rC30, gI31, gJ31, pI31, pJ31, rC31, gI33, gJ33, pI33, pJ33, rC33, gI36, gJ36, pI36, pJ36, rC36, gI39, gJ39, pI39, pJ39, rC39, gI48, gJ48, pI48, pJ48, rC48, gI51, gJ51, pI51, pJ51, rC51, gI53, gJ53, pI53, pJ53, rC53, gI60, gJ60, pI60, pJ60, rC60, gI64, gJ64, pI64, pJ64, rC64, aI27, aL27, aI28, aL28, aI32, wI32, aL32, aI34, wI34, aL34, aI35, wI35, aL35, aI37, wI37, aL37, aI38, wI38, aL38, aJ40, wJ40, aL40, aI41, wI41, aL41, aI42, wI42, aL42, aI43, wI43, aL43, aI44, wI44, aL44, aI45, wI45, aL45, aI46, wI46, aL46, aI47, wI47, aL47, aI49, wI49, aL49, aI50, wI50, aL50, aI52, wI52, aL52, aI54, wI54, aL54, aI55, wI55, aL55, aL56, aL57, aL58, aI59, wI59, aL59, aI61, wI61, aL61, aL62, aI63, wI63, aL63, aI65, wI65, aL65, aI66, wI66, aL66, aI67, wI67, aL67, aI68, wI68, aL68, aI69, wI69, aL69, aJ70, wJ70, aL70, aJ71, wJ71, aL71, aJ72, wJ72, aL72, aZ73, wZ73, aL73, aI74, wI74, aL74, aI75, wI75, aL75, aJ76, wJ76, aL76, aJ77, wJ77, aL77, aI78, wI78, aL78, aI79, wI79, aL79, aI80, wI80, aL80, aI81, wI81, aL81, aI82, wI82, aL82, aI83, wI83, aL83, aI84, wI84, aL84, aI85, wI85, aL85, aI86, wI86, aL86, aI87, wI87, aL87, aI88, wI88, aL88, aI89, wI89, aL89, aI90, wI90, aL90, aI91, wI91, aL91, aI92, wI92, aL92, aI93, wI93, aL93, aI94, wI94, aL94, aZ95, wZ95, aL95, aI96, wI96, aL96, aJ97, wJ97, aL97, hF, hE.1, nI_leI, Nat.le_refl, hn, nI_add])
    · refine hM.cg ?_ ?_ ?_ ?_
      · funext j; rw [hI_sI, if_neg (by omega)]
      · funext j; rw [hI_sI, if_neg (by omega)]
      · rw [hI_sI, if_neg (by omega)]
      · funext j; rw [hI_sI, if_neg (by omega)]
  | succ r ih =>
    intro k m h hk hF hM hn
    have hM' := hM
    obtain ⟨hE, h7, h45, h8⟩ := hM'
    have w2 := hW.2.2.1
    have w3 := hW.2.2.2.1
    have hVk := bl_VA hW hV k (by omega)
    have g0 := hW.dg (show 3 * k < 3 * E 3 by omega)
    have g1 := hW.dg (show 3 * k + 1 < 3 * E 3 by omega)
    have g2 := hW.dg (show 3 * k + 2 < 3 * E 3 by omega)
    have b0 := hVk.1 _ g0
    have b1 := hVk.1 _ g1
    have b2 := hVk.1 _ g2
    have v0 := h7 (E (310 + 3 * k)) (by omega)
    have v1 := h7 (E (310 + 3 * k + 1)) (by rw [show 310 + 3 * k + 1 = 310 + (3 * k + 1) by omega]; omega)
    have v2 := h7 (E (310 + 3 * k + 2)) (by rw [show 310 + 3 * k + 2 = 310 + (3 * k + 2) by omega]; omega)
    rw [show 310 + (3 * k + 1) = 310 + 3 * k + 1 by omega] at g1 b1
    rw [show 310 + (3 * k + 2) = 310 + 3 * k + 2 by omega] at g2 b2
    have u0 := hE.1 (310 + 3 * k) (by omega) (by omega) (by omega)
    have u1 := hE.1 (310 + 3 * k + 1) (by omega) (by omega) (by omega)
    have u2 := hE.1 (310 + 3 * k + 2) (by omega) (by omega) (by omega)
    have bs : bl E an pl (k + 1) = if 0 < (bl E an pl k).1 (E (310 + 3 * k)) ∧ 0 < (bl E an pl k).1 (E (310 + 3 * k + 1)) ∧ 0 < (bl E an pl k).1 (E (310 + 3 * k + 2)) ∧ hndK E (bl E an pl k).1 pl (E (310 + 3 * k + 2)) ((bl E an pl k).1 (E (310 + 3 * k + 2)) - 1) = 0 then (upn (bl E an pl k).1 (E (310 + 3 * k + 2)) ((bl E an pl k).1 (E (310 + 3 * k + 2)) - 1), (bl E an pl k).2 + 1) else bl E an pl k := rfl
    rw [show r + 1 + 1 + m = (r + 1 + m) + 1 by omega]
    have same : ∀ h1, Fz [87, 27000064, 74, 75, 88, 47000064] h h1 → Fix h1 → MS h1 E (bl E an pl k).1 pl → hI h1 64 46 = nI n0 → bl E an pl (k + 1) = bl E an pl k → l_260_4 ((r + 1 + m) + 1) (some 64) (nI (bl E an pl k).2) (nI k) h = l_260_4 (r + 1 + m) (some 64) (nI (bl E an pl k).2) (nI (k + 1)) h1 → ∃ g, l_260_4 ((r + 1 + m) + 1) (some 64) (nI (bl E an pl k).2) (nI k) h = some (nI (bl E an pl (E 3)).2, g) ∧ Fz [87, 27000064, 74, 75, 88, 47000064] h g ∧ MS g E (bl E an pl (E 3)).1 pl ∧ hI g 64 46 = nI (n0 + (bl E an pl (E 3)).2) := by
      intro h1 z1 hF1 hM1 hn1 e1 e2
      rw [e2]
      obtain ⟨g, q1, q2, q3, q4⟩ := ih (k + 1) m h1 (by omega) hF1 (by rw [e1]; exact hM1) hn1
      rw [e1] at q1
      exact ⟨g, q1, z1.then q2, q3, q4⟩
    have z (x : Nat) (hx : x < 3) : (nI x = 0) = (x = 0) := nI_eq0 (by omega)
    by_cases c0 : (bl E an pl k).1 (E (310 + 3 * k)) = 0
    · have t0 : nI ((bl E an pl k).1 (E (310 + 3 * k))) = 0 := by rw [z _ b0]; exact c0
      have t0 := eq_true t0
      refine same h Fz.rfl' hF hM hn (by rw [bs, if_neg (by omega)]) ?_
      rw [l_260_4]
      repeat ((first | rw [f_260] | rw [b_260_0] | rw [b_260_4] | rw [b_260_14] | rw [b_260_68] | rw [b_260_78] | rw [b_260_88] | rw [b_260_106] | rw [b_260_109] | rw [b_260_127] | rw [b_260_133]) <;> try simp (disch := first | assumption | (repeat' (first | apply fx_sI | apply fx_sJ | assumption | omega))) only [↓reduceIte, Option.bind_some, bnd_e, grd_e, grd0, grd1, bnd_e, grd_e, grd0, grd1, Option.bind_some, Option.isSome_some, gQ30_0, gQ30_1, gQ30_2, gQ30_3, gQ30_4, gQ30_5, gQ30_6, gQ30_7, gQ30_8, gQ30_9, gQ31_0, gQ33_0, gQ33_1, gQ36_0, gQ36_1, gQ39_0, gQ39_3, gQ39_4, gQ39_6, gQ39_8, gQ39_10, gQ39_11, gQ39_12, gQ48_0, gQ48_1, gQ51_2, gQ53_0, gQ53_1, gQ60_0, gQ60_1, gQ60_2, gQ64_1, gQ64_14, gQ64_15, gQ64_16, gQ64_17, gQ64_18, gQ64_19, gQ64_20, gQ64_21, gQ64_24, gQ64_25, gQ64_27, gQ64_28, gQ64_29, gQ64_30, gQ64_31, gQ64_34, gQ64_35, gQ64_36, gQ64_39, gQ64_40, gQ64_41, gQ64_43, gQ64_44, gQ64_48, gQ64_50, gQ64_51, gQ64_52, gQ64_53, gQ64_54, gQ64_58, gQ64_59, gI30, gJ30, pI30, pJ30, rC30, gI31, gJ31, pI31, pJ31, rC31, gI33, gJ33, pI33, pJ33, rC33, gI36, gJ36, pI36, pJ36, rC36, gI39, gJ39, pI39, pJ39, rC39, gI48, gJ48, pI48, pJ48, rC48, gI51, gJ51, pI51, pJ51, rC51, gI53, gJ53, pI53, pJ53, rC53, gI60, gJ60, pI60, pJ60, rC60, gI64, gJ64, pI64, pJ64, rC64, aI27, aL27, aI28, aL28, aI32, wI32, aL32, aI34, wI34, aL34, aI35, wI35, aL35, aI37, wI37, aL37, aI38, wI38, aL38, aJ40, wJ40, aL40, aI41, wI41, aL41, aI42, wI42, aL42, aI43, wI43, aL43, aI44, wI44, aL44, aI45, wI45, aL45, aI46, wI46, aL46, aI47, wI47, aL47, aI49, wI49, aL49, aI50, wI50, aL50, aI52, wI52, aL52, aI54, wI54, aL54, aI55, wI55, aL55, aL56, aL57, aL58, aI59, wI59, aL59, aI61, wI61, aL61, aL62, aI63, wI63, aL63, aI65, wI65, aL65, aI66, wI66, aL66, aI67, wI67, aL67, aI68, wI68, aL68, aI69, wI69, aL69, aJ70, wJ70, aL70, aJ71, wJ71, aL71, aJ72, wJ72, aL72, aZ73, wZ73, aL73, aI74, wI74, aL74, aI75, wI75, aL75, aJ76, wJ76, aL76, aJ77, wJ77, aL77, aI78, wI78, aL78, aI79, wI79, aL79, aI80, wI80, aL80, aI81, wI81, aL81, aI82, wI82, aL82, aI83, wI83, aL83, aI84, wI84, aL84, aI85, wI85, aL85, aI86, wI86, aL86, aI87, wI87, aL87, aI88, wI88, aL88, aI89, wI89, aL89, aI90, wI90, aL90, aI91, wI91, aL91, aI92, wI92, aL92, aI93, wI93, aL93, aI94, wI94, aL94, aZ95, wZ95, aL95, aI96, wI96, aL96, aJ97, wJ97, aL97, hF, hE.1, nI_leI, show ¬ E 3 ≤ k by omega, pk_mul, nI_add, u0, u1, u2, v0, t0])
    have t0 : ¬ nI ((bl E an pl k).1 (E (310 + 3 * k))) = 0 := by rw [z _ b0]; exact c0
    by_cases c1 : (bl E an pl k).1 (E (310 + 3 * k + 1)) = 0
    · have t1 : nI ((bl E an pl k).1 (E (310 + 3 * k + 1))) = 0 := by rw [z _ b1]; exact c1
      have t1 := eq_true t1
      refine same h Fz.rfl' hF hM hn (by rw [bs, if_neg (by omega)]) ?_
      rw [l_260_4]
      repeat ((first | rw [f_260] | rw [b_260_0] | rw [b_260_4] | rw [b_260_14] | rw [b_260_68] | rw [b_260_78] | rw [b_260_88] | rw [b_260_106] | rw [b_260_109] | rw [b_260_127] | rw [b_260_133]) <;> try simp (disch := first | assumption | (repeat' (first | apply fx_sI | apply fx_sJ | assumption | omega))) only [↓reduceIte, Option.bind_some, bnd_e, grd_e, grd0, grd1, bnd_e, grd_e, grd0, grd1, Option.bind_some, Option.isSome_some, gQ30_0, gQ30_1, gQ30_2, gQ30_3, gQ30_4, gQ30_5, gQ30_6, gQ30_7, gQ30_8, gQ30_9, gQ31_0, gQ33_0, gQ33_1, gQ36_0, gQ36_1, gQ39_0, gQ39_3, gQ39_4, gQ39_6, gQ39_8, gQ39_10, gQ39_11, gQ39_12, gQ48_0, gQ48_1, gQ51_2, gQ53_0, gQ53_1, gQ60_0, gQ60_1, gQ60_2, gQ64_1, gQ64_14, gQ64_15, gQ64_16, gQ64_17, gQ64_18, gQ64_19, gQ64_20, gQ64_21, gQ64_24, gQ64_25, gQ64_27, gQ64_28, gQ64_29, gQ64_30, gQ64_31, gQ64_34, gQ64_35, gQ64_36, gQ64_39, gQ64_40, gQ64_41, gQ64_43, gQ64_44, gQ64_48, gQ64_50, gQ64_51, gQ64_52, gQ64_53, gQ64_54, gQ64_58, gQ64_59, gI30, gJ30, pI30, pJ30, rC30, gI31, gJ31, pI31, pJ31, rC31, gI33, gJ33, pI33, pJ33, rC33, gI36, gJ36, pI36, pJ36, rC36, gI39, gJ39, pI39, pJ39, rC39, gI48, gJ48, pI48, pJ48, rC48, gI51, gJ51, pI51, pJ51, rC51, gI53, gJ53, pI53, pJ53, rC53, gI60, gJ60, pI60, pJ60, rC60, gI64, gJ64, pI64, pJ64, rC64, aI27, aL27, aI28, aL28, aI32, wI32, aL32, aI34, wI34, aL34, aI35, wI35, aL35, aI37, wI37, aL37, aI38, wI38, aL38, aJ40, wJ40, aL40, aI41, wI41, aL41, aI42, wI42, aL42, aI43, wI43, aL43, aI44, wI44, aL44, aI45, wI45, aL45, aI46, wI46, aL46, aI47, wI47, aL47, aI49, wI49, aL49, aI50, wI50, aL50, aI52, wI52, aL52, aI54, wI54, aL54, aI55, wI55, aL55, aL56, aL57, aL58, aI59, wI59, aL59, aI61, wI61, aL61, aL62, aI63, wI63, aL63, aI65, wI65, aL65, aI66, wI66, aL66, aI67, wI67, aL67, aI68, wI68, aL68, aI69, wI69, aL69, aJ70, wJ70, aL70, aJ71, wJ71, aL71, aJ72, wJ72, aL72, aZ73, wZ73, aL73, aI74, wI74, aL74, aI75, wI75, aL75, aJ76, wJ76, aL76, aJ77, wJ77, aL77, aI78, wI78, aL78, aI79, wI79, aL79, aI80, wI80, aL80, aI81, wI81, aL81, aI82, wI82, aL82, aI83, wI83, aL83, aI84, wI84, aL84, aI85, wI85, aL85, aI86, wI86, aL86, aI87, wI87, aL87, aI88, wI88, aL88, aI89, wI89, aL89, aI90, wI90, aL90, aI91, wI91, aL91, aI92, wI92, aL92, aI93, wI93, aL93, aI94, wI94, aL94, aZ95, wZ95, aL95, aI96, wI96, aL96, aJ97, wJ97, aL97, hF, hE.1, nI_leI, show ¬ E 3 ≤ k by omega, pk_mul, nI_add, u0, u1, u2, v0, v1, t0, t1])
    have t1 : ¬ nI ((bl E an pl k).1 (E (310 + 3 * k + 1))) = 0 := by rw [z _ b1]; exact c1
    by_cases c2 : (bl E an pl k).1 (E (310 + 3 * k + 2)) = 0
    · have t2 : nI ((bl E an pl k).1 (E (310 + 3 * k + 2))) = 0 := by rw [z _ b2]; exact c2
      have t2 := eq_true t2
      refine same h Fz.rfl' hF hM hn (by rw [bs, if_neg (by omega)]) ?_
      rw [l_260_4]
      repeat ((first | rw [f_260] | rw [b_260_0] | rw [b_260_4] | rw [b_260_14] | rw [b_260_68] | rw [b_260_78] | rw [b_260_88] | rw [b_260_106] | rw [b_260_109] | rw [b_260_127] | rw [b_260_133]) <;> try simp (disch := first | assumption | (repeat' (first | apply fx_sI | apply fx_sJ | assumption | omega))) only [↓reduceIte, Option.bind_some, bnd_e, grd_e, grd0, grd1, bnd_e, grd_e, grd0, grd1, Option.bind_some, Option.isSome_some, gQ30_0, gQ30_1, gQ30_2, gQ30_3, gQ30_4, gQ30_5, gQ30_6, gQ30_7, gQ30_8, gQ30_9, gQ31_0, gQ33_0, gQ33_1, gQ36_0, gQ36_1, gQ39_0, gQ39_3, gQ39_4, gQ39_6, gQ39_8, gQ39_10, gQ39_11, gQ39_12, gQ48_0, gQ48_1, gQ51_2, gQ53_0, gQ53_1, gQ60_0, gQ60_1, gQ60_2, gQ64_1, gQ64_14, gQ64_15, gQ64_16, gQ64_17, gQ64_18, gQ64_19, gQ64_20, gQ64_21, gQ64_24, gQ64_25, gQ64_27, gQ64_28, gQ64_29, gQ64_30, gQ64_31, gQ64_34, gQ64_35, gQ64_36, gQ64_39, gQ64_40, gQ64_41, gQ64_43, gQ64_44, gQ64_48, gQ64_50, gQ64_51, gQ64_52, gQ64_53, gQ64_54, gQ64_58, gQ64_59, gI30, gJ30, pI30, pJ30, rC30, gI31, gJ31, pI31, pJ31, rC31, gI33, gJ33, pI33, pJ33, rC33, gI36, gJ36, pI36, pJ36, rC36, gI39, gJ39, pI39, pJ39, rC39, gI48, gJ48, pI48, pJ48, rC48, gI51, gJ51, pI51, pJ51, rC51, gI53, gJ53, pI53, pJ53, rC53, gI60, gJ60, pI60, pJ60, rC60, gI64, gJ64, pI64, pJ64, rC64, aI27, aL27, aI28, aL28, aI32, wI32, aL32, aI34, wI34, aL34, aI35, wI35, aL35, aI37, wI37, aL37, aI38, wI38, aL38, aJ40, wJ40, aL40, aI41, wI41, aL41, aI42, wI42, aL42, aI43, wI43, aL43, aI44, wI44, aL44, aI45, wI45, aL45, aI46, wI46, aL46, aI47, wI47, aL47, aI49, wI49, aL49, aI50, wI50, aL50, aI52, wI52, aL52, aI54, wI54, aL54, aI55, wI55, aL55, aL56, aL57, aL58, aI59, wI59, aL59, aI61, wI61, aL61, aL62, aI63, wI63, aL63, aI65, wI65, aL65, aI66, wI66, aL66, aI67, wI67, aL67, aI68, wI68, aL68, aI69, wI69, aL69, aJ70, wJ70, aL70, aJ71, wJ71, aL71, aJ72, wJ72, aL72, aZ73, wZ73, aL73, aI74, wI74, aL74, aI75, wI75, aL75, aJ76, wJ76, aL76, aJ77, wJ77, aL77, aI78, wI78, aL78, aI79, wI79, aL79, aI80, wI80, aL80, aI81, wI81, aL81, aI82, wI82, aL82, aI83, wI83, aL83, aI84, wI84, aL84, aI85, wI85, aL85, aI86, wI86, aL86, aI87, wI87, aL87, aI88, wI88, aL88, aI89, wI89, aL89, aI90, wI90, aL90, aI91, wI91, aL91, aI92, wI92, aL92, aI93, wI93, aL93, aI94, wI94, aL94, aZ95, wZ95, aL95, aI96, wI96, aL96, aJ97, wJ97, aL97, hF, hE.1, nI_leI, show ¬ E 3 ≤ k by omega, pk_mul, nI_add, u0, u1, u2, v0, v1, v2, t0, t1, t2])
    have t2 : ¬ nI ((bl E an pl k).1 (E (310 + 3 * k + 2))) = 0 := by rw [z _ b2]; exact c2
    have p1 : 1 ≤ (bl E an pl k).1 (E (310 + 3 * k + 2)) := by omega
    obtain ⟨k1, a1, a2⟩ := s_257 (a := (bl E an pl k).1 (E (310 + 3 * k + 2)) - 1) hF hM hW hVk g2 (by omega)
    have hF1 := a2.fix hF (by decide)
    have hM1 : MS k1 E (bl E an pl k).1 pl := hM.cg (a2.I (a := 66) (by decide)) (a2.I (a := 87) (by decide)) (a2.I1 (by decide) (by decide)) (a2.I (a := 88) (by decide))
    have hb : hndK E (bl E an pl k).1 pl (E (310 + 3 * k + 2)) ((bl E an pl k).1 (E (310 + 3 * k + 2)) - 1) < 10 := by unfold hndK; (repeat' split) <;> omega
    by_cases c3 : hndK E (bl E an pl k).1 pl (E (310 + 3 * k + 2)) ((bl E an pl k).1 (E (310 + 3 * k + 2)) - 1) = 0
    · have hV1 := hVk.up g2 (by omega) c3
      have e1 : bl E an pl (k + 1) = (upn (bl E an pl k).1 (E (310 + 3 * k + 2)) ((bl E an pl k).1 (E (310 + 3 * k + 2)) - 1), (bl E an pl k).2 + 1) := by rw [bs, if_pos ⟨by omega, by omega, by omega, c3⟩]
      obtain ⟨k2, d1, d2', d3'⟩ := s_258 (a := (bl E an pl k).1 (E (310 + 3 * k + 2)) - 1) hF1 hM1 hW g2 hV1.1 hV1.2.1
      have hF2 := d2'.fix hF1 (by decide)
      obtain ⟨g, q1, q2, q3, q4⟩ := ih (k + 1) m k2 (by omega) hF2 (by rw [e1]; exact d3') (by rw [d2'.I1 (by decide) (by decide), a2.I1 (by decide) (by decide)]; exact hn)
      refine ⟨g, ?_, ((a2.wid (by intro z hz; simp only [List.mem_cons, List.not_mem_nil, or_false] at hz ⊢; omega)).then (d2'.wid (by intro z hz; simp only [List.mem_cons, List.not_mem_nil, or_false] at hz ⊢; omega))).then q2, q3, q4⟩
      rw [e1] at q1
      have v2' := hM1.2.1 (E (310 + 3 * k + 2)) (by omega)
      rw [l_260_4]
      repeat ((first | rw [f_260] | rw [b_260_0] | rw [b_260_4] | rw [b_260_14] | rw [b_260_68] | rw [b_260_78] | rw [b_260_88] | rw [b_260_106] | rw [b_260_109] | rw [b_260_127] | rw [b_260_133]) <;> try simp (disch := first | assumption | (repeat' (first | apply fx_sI | apply fx_sJ | assumption | omega))) only [↓reduceIte, Option.bind_some, bnd_e, grd_e, grd0, grd1, bnd_e, grd_e, grd0, grd1, Option.bind_some, Option.isSome_some, gQ30_0, gQ30_1, gQ30_2, gQ30_3, gQ30_4, gQ30_5, gQ30_6, gQ30_7, gQ30_8, gQ30_9, gQ31_0, gQ33_0, gQ33_1, gQ36_0, gQ36_1, gQ39_0, gQ39_3, gQ39_4, gQ39_6, gQ39_8, gQ39_10, gQ39_11, gQ39_12, gQ48_0, gQ48_1, gQ51_2, gQ53_0, gQ53_1, gQ60_0, gQ60_1, gQ60_2, gQ64_1, gQ64_14, gQ64_15, gQ64_16, gQ64_17, gQ64_18, gQ64_19, gQ64_20, gQ64_21, gQ64_24, gQ64_25, gQ64_27, gQ64_28, gQ64_29, gQ64_30, gQ64_31, gQ64_34, gQ64_35, gQ64_36, gQ64_39, gQ64_40, gQ64_41, gQ64_43, gQ64_44, gQ64_48, gQ64_50, gQ64_51, gQ64_52, gQ64_53, gQ64_54, gQ64_58, gQ64_59, gI30, gJ30, pI30, pJ30, rC30, gI31, gJ31, pI31, pJ31, rC31, gI33, gJ33, pI33, pJ33, rC33, gI36, gJ36, pI36, pJ36, rC36, gI39, gJ39, pI39, pJ39, rC39, gI48, gJ48, pI48, pJ48, rC48, gI51, gJ51, pI51, pJ51, rC51, gI53, gJ53, pI53, pJ53, rC53, gI60, gJ60, pI60, pJ60, rC60, gI64, gJ64, pI64, pJ64, rC64, aI27, aL27, aI28, aL28, aI32, wI32, aL32, aI34, wI34, aL34, aI35, wI35, aL35, aI37, wI37, aL37, aI38, wI38, aL38, aJ40, wJ40, aL40, aI41, wI41, aL41, aI42, wI42, aL42, aI43, wI43, aL43, aI44, wI44, aL44, aI45, wI45, aL45, aI46, wI46, aL46, aI47, wI47, aL47, aI49, wI49, aL49, aI50, wI50, aL50, aI52, wI52, aL52, aI54, wI54, aL54, aI55, wI55, aL55, aL56, aL57, aL58, aI59, wI59, aL59, aI61, wI61, aL61, aL62, aI63, wI63, aL63, aI65, wI65, aL65, aI66, wI66, aL66, aI67, wI67, aL67, aI68, wI68, aL68, aI69, wI69, aL69, aJ70, wJ70, aL70, aJ71, wJ71, aL71, aJ72, wJ72, aL72, aZ73, wZ73, aL73, aI74, wI74, aL74, aI75, wI75, aL75, aJ76, wJ76, aL76, aJ77, wJ77, aL77, aI78, wI78, aL78, aI79, wI79, aL79, aI80, wI80, aL80, aI81, wI81, aL81, aI82, wI82, aL82, aI83, wI83, aL83, aI84, wI84, aL84, aI85, wI85, aL85, aI86, wI86, aL86, aI87, wI87, aL87, aI88, wI88, aL88, aI89, wI89, aL89, aI90, wI90, aL90, aI91, wI91, aL91, aI92, wI92, aL92, aI93, wI93, aL93, aI94, wI94, aL94, aZ95, wZ95, aL95, aI96, wI96, aL96, aJ97, wJ97, aL97, hF, hF1, hE.1, nI_leI, show ¬ E 3 ≤ k by omega, pk_mul, nI_add, u0, u1, u2, v0, v1, v2, v2', t0, t1, t2, pk_sub p1, a1, nI_eq0 (show hndK E (bl E an pl k).1 pl (E (310 + 3 * k + 2)) ((bl E an pl k).1 (E (310 + 3 * k + 2)) - 1) < 2147483648 by omega), c3, d1])
      exact q1
    · refine same k1 (a2.wid (by intro z hz; simp only [List.mem_cons, List.not_mem_nil, or_false] at hz ⊢; omega)) hF1 hM1 (by rw [a2.I1 (by decide) (by decide)]; exact hn) (by rw [bs, if_neg (fun z => c3 z.2.2.2)]) ?_
      rw [l_260_4]
      repeat ((first | rw [f_260] | rw [b_260_0] | rw [b_260_4] | rw [b_260_14] | rw [b_260_68] | rw [b_260_78] | rw [b_260_88] | rw [b_260_106] | rw [b_260_109] | rw [b_260_127] | rw [b_260_133]) <;> try simp (disch := first | assumption | (repeat' (first | apply fx_sI | apply fx_sJ | assumption | omega))) only [↓reduceIte, Option.bind_some, bnd_e, grd_e, grd0, grd1, bnd_e, grd_e, grd0, grd1, Option.bind_some, Option.isSome_some, gQ30_0, gQ30_1, gQ30_2, gQ30_3, gQ30_4, gQ30_5, gQ30_6, gQ30_7, gQ30_8, gQ30_9, gQ31_0, gQ33_0, gQ33_1, gQ36_0, gQ36_1, gQ39_0, gQ39_3, gQ39_4, gQ39_6, gQ39_8, gQ39_10, gQ39_11, gQ39_12, gQ48_0, gQ48_1, gQ51_2, gQ53_0, gQ53_1, gQ60_0, gQ60_1, gQ60_2, gQ64_1, gQ64_14, gQ64_15, gQ64_16, gQ64_17, gQ64_18, gQ64_19, gQ64_20, gQ64_21, gQ64_24, gQ64_25, gQ64_27, gQ64_28, gQ64_29, gQ64_30, gQ64_31, gQ64_34, gQ64_35, gQ64_36, gQ64_39, gQ64_40, gQ64_41, gQ64_43, gQ64_44, gQ64_48, gQ64_50, gQ64_51, gQ64_52, gQ64_53, gQ64_54, gQ64_58, gQ64_59, gI30, gJ30, pI30, pJ30, rC30, gI31, gJ31, pI31, pJ31, rC31, gI33, gJ33, pI33, pJ33, rC33, gI36, gJ36, pI36, pJ36, rC36, gI39, gJ39, pI39, pJ39, rC39, gI48, gJ48, pI48, pJ48, rC48, gI51, gJ51, pI51, pJ51, rC51, gI53, gJ53, pI53, pJ53, rC53, gI60, gJ60, pI60, pJ60, rC60, gI64, gJ64, pI64, pJ64, rC64, aI27, aL27, aI28, aL28, aI32, wI32, aL32, aI34, wI34, aL34, aI35, wI35, aL35, aI37, wI37, aL37, aI38, wI38, aL38, aJ40, wJ40, aL40, aI41, wI41, aL41, aI42, wI42, aL42, aI43, wI43, aL43, aI44, wI44, aL44, aI45, wI45, aL45, aI46, wI46, aL46, aI47, wI47, aL47, aI49, wI49, aL49, aI50, wI50, aL50, aI52, wI52, aL52, aI54, wI54, aL54, aI55, wI55, aL55, aL56, aL57, aL58, aI59, wI59, aL59, aI61, wI61, aL61, aL62, aI63, wI63, aL63, aI65, wI65, aL65, aI66, wI66, aL66, aI67, wI67, aL67, aI68, wI68, aL68, aI69, wI69, aL69, aJ70, wJ70, aL70, aJ71, wJ71, aL71, aJ72, wJ72, aL72, aZ73, wZ73, aL73, aI74, wI74, aL74, aI75, wI75, aL75, aJ76, wJ76, aL76, aJ77, wJ77, aL77, aI78, wI78, aL78, aI79, wI79, aL79, aI80, wI80, aL80, aI81, wI81, aL81, aI82, wI82, aL82, aI83, wI83, aL83, aI84, wI84, aL84, aI85, wI85, aL85, aI86, wI86, aL86, aI87, wI87, aL87, aI88, wI88, aL88, aI89, wI89, aL89, aI90, wI90, aL90, aI91, wI91, aL91, aI92, wI92, aL92, aI93, wI93, aL93, aI94, wI94, aL94, aZ95, wZ95, aL95, aI96, wI96, aL96, aJ97, wJ97, aL97, hF, hF1, hE.1, nI_leI, show ¬ E 3 ≤ k by omega, pk_mul, nI_add, u0, u1, u2, v0, v1, v2, t0, t1, t2, pk_sub p1, a1, nI_eq0 (show hndK E (bl E an pl k).1 pl (E (310 + 3 * k + 2)) ((bl E an pl k).1 (E (310 + 3 * k + 2)) - 1) < 2147483648 by omega), c3])
theorem s_260 {n0 : Nat} (hF : Fix h) (hM : MS h E an pl) (hW : WF E) (hV : VA E an pl) (hn : hI h 64 46 = nI n0) : ∃ g, f_260 (some 64) h = some (nI (bl E an pl (E 3)).2, g) ∧ Fz [87, 27000064, 74, 75, 88, 47000064] h g ∧ MS g E (bl E an pl (E 3)).1 pl ∧ hI g 64 46 = nI (n0 + (bl E an pl (E 3)).2) ∧ VA E (bl E an pl (E 3)).1 pl := by
  obtain ⟨m, hm⟩ := FU_ge (E 3 + 1) (by have := hW.2.2.2.1; omega)
  obtain ⟨g, r1, r2, r3, r4⟩ := l_260 hW hV (E 3) 0 m h (by omega) hF hM hn
  refine ⟨g, ?_, r2, r3, r4, bl_VA hW hV (E 3) (Nat.le_refl _)⟩
  simp only [f_260, b_260_0, b_260_4, b_260_14, b_260_68, b_260_78, b_260_88, b_260_106, b_260_109, b_260_127, b_260_133, ↓reduceIte, bnd_e]
  rw [hm]
  exact r1
end MS5
