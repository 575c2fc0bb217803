/-! the reference's scene: stands at a door; what hinders -/
section MS3
variable {E an : Nat → Nat} {pl : Nat} {h : Hp}
theorem MS.cg {g : Hp} (hM : MS h E an pl) (e6 : hI g 66 = hI h 66) (e7 : hI g 87 = hI h 87) (e4 : hI g 64 45 = hI h 64 45) (e8 : hI g 88 = hI h 88) : MS g E an pl := by
  obtain ⟨a, b, c, d⟩ := hM
  exact ⟨a.cg e6, by rw [e7]; exact b, by rw [e4]; exact c, by rw [e8]; exact d⟩
def hitB (E an : Nat → Nat) (d : Nat) (p : Int × Int) : Bool := inE E p && (lonV E an (E 2) (cN p) == d + 1 || E (210 + cN p) == d + 1)
def ofB (E an : Nat → Nat) (pl d : Nat) (dy dx : Int) : Bool := !decide (dx = 0 ∧ dy = 0) && hitB E an d (((pl - 1) % 10 : Nat) + dx, ((pl - 1) / 10 : Nat) + dy)
theorem l_256i (k12) {d n : Nat} {dy dx : Int} (hF : Fix h) (hM : MS h E an pl) (hW : WF E) (hd : d < E 2) (h0 : pl ≠ 0) (hp : pl ≤ 100) (hy : -2 < dy ∧ dy < 2) (hx : -2 < dx ∧ dx < 2) :
    l_256_19 k12 (n + 1) (some 64) (nI d) (zI dy) (zI dx) h = if ofB E an pl d dy dx = true then some (nI 1, h) else l_256_19 k12 n (some 64) (nI d) (zI dy) (zI (dx + 1)) h := by
  obtain ⟨hE, h7, h45, h8⟩ := hM
  have w2 := hW.2.2.1
  rw [mI_pos h0] at h45
  have ex : (nI 2 ≤ zI dx) = False := eq_false (by rw [nz 2, zI_le (by omega) (by omega) (by omega) (by omega)]; omega)
  have x0 : (zI dx = 0) = (dx = 0) := propext (by rw [zI_0]; exact zI_eq (by omega) (by omega) (by omega) (by omega))
  have y0 : (zI dy = 0) = (dy = 0) := propext (by rw [zI_0]; exact zI_eq (by omega) (by omega) (by omega) (by omega))
  have a1 : zI dx + nI 1 = zI (dx + 1) := zI_add dx 1
  generalize hX : ((pl - 1) % 10 : Nat) + dx = X
  generalize hY : ((pl - 1) / 10 : Nat) + dy = Y
  have eX : nI ((pl - 1) % 10) + zI dx = zI X := by rw [nz, zI_add, ← hX]
  have eY : nI ((pl - 1) / 10) + zI dy = zI Y := by rw [nz, zI_add, ← hY]
  have tX : (zI X).toInt = X := zI_toInt (by omega) (by omega)
  have tY : (zI Y).toInt = Y := zI_toInt (by omega) (by omega)
  have e206 := s_206 (x := zI X) (y := zI Y) hF hE
  rw [tX, tY] at e206
  have ofe : ofB E an pl d dy dx = (!decide (dx = 0 ∧ dy = 0) && hitB E an d (X, Y)) := by rw [← hX, ← hY]; rfl
  rw [ofe, l_256_19, b_256_19]
  simp only [ex, if_false]
  -- the inner part
  have inn : ∀ x, b_256_54 k12 x (some 64) (nI d) (zI dy) (zI dx) (zI X) (zI Y) h = if hitB E an d (X, Y) = true then some (nI 1, h) else x (some 64) (nI d) (zI dy) (zI (dx + 1)) h := by
    intro x
    rw [b_256_54]
    simp only [bnd_e, grd_e, grd0, grd1, Option.bind_some, Option.isSome_some, gQ30_0, gQ30_1, gQ30_2, gQ30_3, gQ30_4, gQ30_5, gQ30_6, gQ30_7, gQ30_8, gQ30_9, gQ31_0, gQ33_0, gQ33_1, gQ36_0, gQ36_1, gQ39_0, gQ39_3, gQ39_4, gQ39_6, gQ39_8, gQ39_10, gQ39_11, gQ39_12, gQ48_0, gQ48_1, gQ51_2, gQ53_0, gQ53_1, gQ60_0, gQ60_1, gQ60_2, gQ64_1, gQ64_14, gQ64_15, gQ64_16, gQ64_17, gQ64_18, gQ64_19, gQ64_20, gQ64_21, gQ64_24, gQ64_25, gQ64_27, gQ64_28, gQ64_29, gQ64_30, gQ64_31, gQ64_34, gQ64_35, gQ64_36, gQ64_39, gQ64_40, gQ64_41, gQ64_43, gQ64_44, gQ64_48, gQ64_50, gQ64_51, gQ64_52, gQ64_53, gQ64_54, gQ64_58, gQ64_59, gI30, gJ30, pI30, pJ30, rC30, gI31, gJ31, pI31, pJ31, rC31, gI33, gJ33, pI33, pJ33, rC33, gI36, gJ36, pI36, pJ36, rC36, gI39, gJ39, pI39, pJ39, rC39, gI48, gJ48, pI48, pJ48, rC48, gI51, gJ51, pI51, pJ51, rC51, gI53, gJ53, pI53, pJ53, rC53, gI60, gJ60, pI60, pJ60, rC60, gI64, gJ64, pI64, pJ64, rC64, hF, e206, bI_0']
    unfold hitB
    cases c : inE E (X, Y)
    · simp only [not_true, Bool.false_and, Bool.false_eq_true, ↓reduceIte]
      rw [b_256_65, b_256_112, bnd_e, a1]
    · have c2 := inE_b ⟨hW.1, hW.2.1⟩ c
      dsimp only at c2
      have e0 : nI 10 * zI Y + zI X = nI (cN (X, Y)) := zI_cN (by omega)
      have e2 : nI 210 + nI 10 * zI Y + zI X = nI (210 + cN (X, Y)) := by rw [show nI 210 + nI 10 * zI Y + zI X = nI 210 + (nI 10 * zI Y + zI X) from Int32.add_assoc _ _ _, e0, nI_add]
      have v1 := h8 (cN (X, Y)) c2.2.2.2.2.2
      have v2 := hE.1 (210 + cN (X, Y)) (by omega) (by omega) (by omega)
      have b1 := lonV_le (E := E) (an := an) (cN (X, Y)) (E 2)
      have b2 := hE.2.2.2 (210 + cN (X, Y))
      simp only [show ¬ (true = false) by decide, not_false_eq_true, ↓reduceIte, Bool.true_and]
      repeat ((first | rw [f_256] | rw [b_256_0] | rw [b_256_8] | rw [b_256_10] | rw [b_256_12] | rw [b_256_17] | rw [b_256_19] | rw [b_256_24] | rw [b_256_50] | rw [b_256_54] | rw [b_256_65] | rw [b_256_68] | rw [b_256_87] | rw [b_256_110] | rw [b_256_112] | rw [b_256_118] | rw [b_256_124]) <;> try simp (disch := first | assumption | (repeat' (first | apply fx_sI | apply fx_sJ | assumption | omega))) only [↓reduceIte, Option.bind_some, bnd_e, grd_e, grd0, grd1, bnd_e, grd_e, grd0, grd1, Option.bind_some, Option.isSome_some, gQ30_0, gQ30_1, gQ30_2, gQ30_3, gQ30_4, gQ30_5, gQ30_6, gQ30_7, gQ30_8, gQ30_9, gQ31_0, gQ33_0, gQ33_1, gQ36_0, gQ36_1, gQ39_0, gQ39_3, gQ39_4, gQ39_6, gQ39_8, gQ39_10, gQ39_11, gQ39_12, gQ48_0, gQ48_1, gQ51_2, gQ53_0, gQ53_1, gQ60_0, gQ60_1, gQ60_2, gQ64_1, gQ64_14, gQ64_15, gQ64_16, gQ64_17, gQ64_18, gQ64_19, gQ64_20, gQ64_21, gQ64_24, gQ64_25, gQ64_27, gQ64_28, gQ64_29, gQ64_30, gQ64_31, gQ64_34, gQ64_35, gQ64_36, gQ64_39, gQ64_40, gQ64_41, gQ64_43, gQ64_44, gQ64_48, gQ64_50, gQ64_51, gQ64_52, gQ64_53, gQ64_54, gQ64_58, gQ64_59, gI30, gJ30, pI30, pJ30, rC30, gI31, gJ31, pI31, pJ31, rC31, gI33, gJ33, pI33, pJ33, rC33, gI36, gJ36, pI36, pJ36, rC36, gI39, gJ39, pI39, pJ39, rC39, gI48, gJ48, pI48, pJ48, rC48, gI51, gJ51, pI51, pJ51, rC51, gI53, gJ53, pI53, pJ53, rC53, gI60, gJ60, pI60, pJ60, rC60, gI64, gJ64, pI64, pJ64, rC64, aI27, aL27, aI28, aL28, aI32, wI32, aL32, aI34, wI34, aL34, aI35, wI35, aL35, aI37, wI37, aL37, aI38, wI38, aL38, aJ40, wJ40, aL40, aI41, wI41, aL41, aI42, wI42, aL42, aI43, wI43, aL43, aI44, wI44, aL44, aI45, wI45, aL45, aI46, wI46, aL46, aI47, wI47, aL47, aI49, wI49, aL49, aI50, wI50, aL50, aI52, wI52, aL52, aI54, wI54, aL54, aI55, wI55, aL55, aL56, aL57, aL58, aI59, wI59, aL59, aI61, wI61, aL61, aL62, aI63, wI63, aL63, aI65, wI65, aL65, aI66, wI66, aL66, aI67, wI67, aL67, aI68, wI68, aL68, aI69, wI69, aL69, aJ70, wJ70, aL70, aJ71, wJ71, aL71, aJ72, wJ72, aL72, aZ73, wZ73, aL73, aI74, wI74, aL74, aI75, wI75, aL75, aJ76, wJ76, aL76, aJ77, wJ77, aL77, aI78, wI78, aL78, aI79, wI79, aL79, aI80, wI80, aL80, aI81, wI81, aL81, aI82, wI82, aL82, aI83, wI83, aL83, aI84, wI84, aL84, aI85, wI85, aL85, aI86, wI86, aL86, aI87, wI87, aL87, aI88, wI88, aL88, aI89, wI89, aL89, aI90, wI90, aL90, aI91, wI91, aL91, aI92, wI92, aL92, aI93, wI93, aL93, aI94, wI94, aL94, aZ95, wZ95, aL95, aI96, wI96, aL96, aJ97, wJ97, aL97, hF, e0, e2, v1, v2, nI_add, nI_eq, a1])
      by_cases f1 : lonV E an (E 2) (cN (X, Y)) = d + 1
      · simp [f1]
      · by_cases f2 : E (210 + cN (X, Y)) = d + 1
        · simp [f1, f2]
        · simp [f1, f2]
  rw [b_256_24]
  simp (disch := first | assumption | (repeat' (first | apply fx_sI | apply fx_sJ | assumption | omega))) only [bnd_e, grd_e, grd0, grd1, Option.bind_some, Option.isSome_some, gQ30_0, gQ30_1, gQ30_2, gQ30_3, gQ30_4, gQ30_5, gQ30_6, gQ30_7, gQ30_8, gQ30_9, gQ31_0, gQ33_0, gQ33_1, gQ36_0, gQ36_1, gQ39_0, gQ39_3, gQ39_4, gQ39_6, gQ39_8, gQ39_10, gQ39_11, gQ39_12, gQ48_0, gQ48_1, gQ51_2, gQ53_0, gQ53_1, gQ60_0, gQ60_1, gQ60_2, gQ64_1, gQ64_14, gQ64_15, gQ64_16, gQ64_17, gQ64_18, gQ64_19, gQ64_20, gQ64_21, gQ64_24, gQ64_25, gQ64_27, gQ64_28, gQ64_29, gQ64_30, gQ64_31, gQ64_34, gQ64_35, gQ64_36, gQ64_39, gQ64_40, gQ64_41, gQ64_43, gQ64_44, gQ64_48, gQ64_50, gQ64_51, gQ64_52, gQ64_53, gQ64_54, gQ64_58, gQ64_59, gI30, gJ30, pI30, pJ30, rC30, gI31, gJ31, pI31, pJ31, rC31, gI33, gJ33, pI33, pJ33, rC33, gI36, gJ36, pI36, pJ36, rC36, gI39, gJ39, pI39, pJ39, rC39, gI48, gJ48, pI48, pJ48, rC48, gI51, gJ51, pI51, pJ51, rC51, gI53, gJ53, pI53, pJ53, rC53, gI60, gJ60, pI60, pJ60, rC60, gI64, gJ64, pI64, pJ64, rC64, hF, h45, d10, grd_e, ↓pk_rem, pk_div, eX, eY, x0, inn]
  by_cases c : dx = 0
  · by_cases c' : dy = 0
    · simp only [c, c', not_true, if_false, and_self, decide_true, Bool.not_true, Bool.false_and, Bool.false_eq_true]
      rw [b_256_50, if_pos (by decide), b_256_112, bnd_e]
      rfl
    · have y0' : ¬ zI dy = 0 := fun z => c' (by rw [← y0]; exact z)
      rw [if_neg (fun z => z c), b_256_50, if_neg y0', inn, decide_eq_false (fun z => c' z.2), Bool.not_false, Bool.true_and]
  · rw [if_pos c, decide_eq_false (fun z => c z.1), Bool.not_false, Bool.true_and]
theorem l_256x (k12) {d n : Nat} {dy : Int} : l_256_19 k12 (n + 1) (some 64) (nI d) (zI dy) (zI 2) h = k12 (some 64) (nI d) (zI (dy + 1)) h := by
  rw [l_256_19, b_256_19, if_pos (by decide), b_256_118, bnd_e]
  congr 1
  exact zI_add dy 1
theorem l_256o {d n : Nat} {dy : Int} (hF : Fix h) (hM : MS h E an pl) (hW : WF E) (hd : d < E 2) (h0 : pl ≠ 0) (hp : pl ≤ 100) (hy : -2 < dy ∧ dy < 2) :
    l_256_12 (n + 1) (some 64) (nI d) (zI dy) h = if ofB E an pl d dy (-1) = true ∨ ofB E an pl d dy 0 = true ∨ ofB E an pl d dy 1 = true then some (nI 1, h) else l_256_12 n (some 64) (nI d) (zI (dy + 1)) h := by
  obtain ⟨m, hm⟩ := FU_ge 4 (by omega)
  have hm : FU = m + 4 := by omega
  have ex : ¬ nI 2 ≤ zI dy := by rw [nz 2, zI_le (by omega) (by omega) (by omega) (by omega)]; omega
  rw [l_256_12, b_256_12, if_neg ex, b_256_17, bnd_e, hm, zI_neg1, l_256i _ hF hM hW hd h0 hp hy (by omega)]
  cases ofB E an pl d dy (-1)
  · rw [if_neg (by decide), l_256i _ hF hM hW hd h0 hp hy (by omega)]
    show (if ofB E an pl d dy 0 = true then _ else _) = _
    cases ofB E an pl d dy 0
    · rw [if_neg (by decide), l_256i _ hF hM hW hd h0 hp hy (by omega)]
      show (if ofB E an pl d dy 1 = true then _ else _) = _
      cases ofB E an pl d dy 1
      · rw [if_neg (by decide), if_neg (by simp)]
        exact l_256x _
      · simp
    · simp
  · simp
theorem lfH_at {d g a c : Nat} (hW : WF E) (hd : d < E 2) (hcn : canB E d g a = true) (hc : c < 100) (hl : lfH E d g a c = true) : inE E ((c % 10 : Nat), (c / 10 : Nat)) = true := by
  unfold lfH at hl
  obtain ⟨p, hp, hq⟩ := List.any_eq_true.1 hl
  have hi := lf_in hW hd hcn p hp
  have hb := inE_b ⟨hW.1, hW.2.1⟩ hi
  rw [Bool.and_eq_true] at hq
  have h3 := eq_of_beq hq.2
  obtain ⟨x, y⟩ := p
  dsimp only at hb
  unfold cN at h3
  dsimp only at h3
  have ex : x = ((c % 10 : Nat) : Int) := by omega
  have ey : y = ((c / 10 : Nat) : Int) := by omega
  rw [← ex, ← ey]
  exact hi
theorem near_of {d : Nat} (hW : WF E) (hV : VA E an pl) (hd : d < E 2) (h0 : pl ≠ 0) : nearB E an pl d = true ↔ ∃ dy dx : Int, -2 < dy ∧ dy < 2 ∧ -2 < dx ∧ dx < 2 ∧ ofB E an pl d dy dx = true := by
  have hp := hV.2.2.2
  have w0 := hW.1
  have w1 := hW.2.1
  unfold nearB
  rw [decide_eq_true h0, Bool.true_and, exB_iff]
  constructor
  · rintro ⟨c, _, hc, hh⟩
    have hc : c < 100 := by omega
    rw [Bool.and_eq_true] at hh
    have ha := of_decide_eq_true hh.1
    have ein : inE E ((c % 10 : Nat), (c / 10 : Nat)) = true := by
      rcases Bool.or_eq_true _ _ ▸ hh.2 with z | z
      · exact lfH_at hW hd (a := 0) rfl hc z
      · exact lfH_at hW hd (hV.2.1 d hd) hc z
    refine ⟨(c / 10 : Nat) - ((pl - 1) / 10 : Nat), (c % 10 : Nat) - ((pl - 1) % 10 : Nat), by omega, by omega, by omega, by omega, ?_⟩
    unfold ofB
    have e1 : (((pl - 1) % 10 : Nat) : Int) + (((c % 10 : Nat) : Int) - ((pl - 1) % 10 : Nat)) = ((c % 10 : Nat) : Int) := by omega
    have e2 : (((pl - 1) / 10 : Nat) : Int) + (((c / 10 : Nat) : Int) - ((pl - 1) / 10 : Nat)) = ((c / 10 : Nat) : Int) := by omega
    rw [e1, e2, decide_eq_false (by omega), Bool.not_false, Bool.true_and]
    unfold hitB
    have ec : cN (((c % 10 : Nat) : Int), ((c / 10 : Nat) : Int)) = c := by unfold cN; dsimp only; omega
    rw [ein, Bool.true_and, ec]
    rcases Bool.or_eq_true _ _ ▸ hh.2 with z | z
    · have := (dw_iff hW hd hc).1 z
      simp [this]
    · have := (lonV_s hV (E 2) (Nat.le_refl _) d).2 ⟨hd, z⟩
      simp [this]
  · rintro ⟨dy, dx, h1, h2, h3, h4, hh⟩
    unfold ofB at hh
    rw [Bool.and_eq_true] at hh
    have hn : ¬ (dx = 0 ∧ dy = 0) := by
      intro z
      rw [decide_eq_true z] at hh
      exact Bool.noConfusion hh.1
    obtain ⟨_, hh⟩ := hh
    unfold hitB at hh
    rw [Bool.and_eq_true] at hh
    have hb := inE_b ⟨hW.1, hW.2.1⟩ hh.1
    dsimp only at hb
    refine ⟨cN (((pl - 1) % 10 : Nat) + dx, ((pl - 1) / 10 : Nat) + dy), by omega, by omega, ?_⟩
    rw [Bool.and_eq_true]
    constructor
    · apply decide_eq_true
      unfold cN
      dsimp only
      omega
    · rcases Bool.or_eq_true _ _ ▸ hh.2 with z | z
      · have := (lonV_s hV (E 2) (Nat.le_refl _) d).1 (eq_of_beq z)
        rw [this.2, Bool.or_true]
      · have := (dw_iff (g := dHg E d) hW hd hb.2.2.2.2.2).2 (eq_of_beq z)
        rw [this, Bool.true_or]
theorem s_256 {d : Nat} (hF : Fix h) (hM : MS h E an pl) (hW : WF E) (hV : VA E an pl) (hd : d < E 2) : f_256 (some 64) (nI d) h = some (bI (nearB E an pl d), h) := by
  have hp := hV.2.2.2
  by_cases h0 : pl = 0
  · subst h0
    have h45 : hI h 64 45 = -1 := hM.2.2.1
    repeat ((first | rw [f_256] | rw [b_256_0] | rw [b_256_8] | rw [b_256_10] | rw [b_256_12] | rw [b_256_17] | rw [b_256_19] | rw [b_256_24] | rw [b_256_50] | rw [b_256_54] | rw [b_256_65] | rw [b_256_68] | rw [b_256_87] | rw [b_256_110] | rw [b_256_112] | rw [b_256_118] | rw [b_256_124]) <;> try simp (disch := first | assumption | (repeat' (first | apply fx_sI | apply fx_sJ | assumption | omega))) only [↓reduceIte, Option.bind_some, bnd_e, grd_e, grd0, grd1, bnd_e, grd_e, grd0, grd1, Option.bind_some, Option.isSome_some, gQ30_0, gQ30_1, gQ30_2, gQ30_3, gQ30_4, gQ30_5, gQ30_6, gQ30_7, gQ30_8, gQ30_9, gQ31_0, gQ33_0, gQ33_1, gQ36_0, gQ36_1, gQ39_0, gQ39_3, gQ39_4, gQ39_6, gQ39_8, gQ39_10, gQ39_11, gQ39_12, gQ48_0, gQ48_1, gQ51_2, gQ53_0, gQ53_1, gQ60_0, gQ60_1, gQ60_2, gQ64_1, gQ64_14, gQ64_15, gQ64_16, gQ64_17, gQ64_18, gQ64_19, gQ64_20, gQ64_21, gQ64_24, gQ64_25, gQ64_27, gQ64_28, gQ64_29, gQ64_30, gQ64_31, gQ64_34, gQ64_35, gQ64_36, gQ64_39, gQ64_40, gQ64_41, gQ64_43, gQ64_44, gQ64_48, gQ64_50, gQ64_51, gQ64_52, gQ64_53, gQ64_54, gQ64_58, gQ64_59, gI30, gJ30, pI30, pJ30, rC30, gI31, gJ31, pI31, pJ31, rC31, gI33, gJ33, pI33, pJ33, rC33, gI36, gJ36, pI36, pJ36, rC36, gI39, gJ39, pI39, pJ39, rC39, gI48, gJ48, pI48, pJ48, rC48, gI51, gJ51, pI51, pJ51, rC51, gI53, gJ53, pI53, pJ53, rC53, gI60, gJ60, pI60, pJ60, rC60, gI64, gJ64, pI64, pJ64, rC64, hF, h45, not_true])
    rfl
  · have h45 := hM.2.2.1
    rw [mI_pos h0] at h45
    have nm : ¬ nI (pl - 1) = (-1 : Int32) := fun z => by
      have := congrArg Int32.toInt z
      rw [toI_nI (by omega), toI_m1] at this
      omega
    obtain ⟨m, hm⟩ := FU_ge 4 (by omega)
    have hm : FU = m + 4 := by omega
    rw [f_256, b_256_0]
    simp only [bnd_e, grd_e, grd0, grd1, Option.bind_some, Option.isSome_some, gQ30_0, gQ30_1, gQ30_2, gQ30_3, gQ30_4, gQ30_5, gQ30_6, gQ30_7, gQ30_8, gQ30_9, gQ31_0, gQ33_0, gQ33_1, gQ36_0, gQ36_1, gQ39_0, gQ39_3, gQ39_4, gQ39_6, gQ39_8, gQ39_10, gQ39_11, gQ39_12, gQ48_0, gQ48_1, gQ51_2, gQ53_0, gQ53_1, gQ60_0, gQ60_1, gQ60_2, gQ64_1, gQ64_14, gQ64_15, gQ64_16, gQ64_17, gQ64_18, gQ64_19, gQ64_20, gQ64_21, gQ64_24, gQ64_25, gQ64_27, gQ64_28, gQ64_29, gQ64_30, gQ64_31, gQ64_34, gQ64_35, gQ64_36, gQ64_39, gQ64_40, gQ64_41, gQ64_43, gQ64_44, gQ64_48, gQ64_50, gQ64_51, gQ64_52, gQ64_53, gQ64_54, gQ64_58, gQ64_59, gI30, gJ30, pI30, pJ30, rC30, gI31, gJ31, pI31, pJ31, rC31, gI33, gJ33, pI33, pJ33, rC33, gI36, gJ36, pI36, pJ36, rC36, gI39, gJ39, pI39, pJ39, rC39, gI48, gJ48, pI48, pJ48, rC48, gI51, gJ51, pI51, pJ51, rC51, gI53, gJ53, pI53, pJ53, rC53, gI60, gJ60, pI60, pJ60, rC60, gI64, gJ64, pI64, pJ64, rC64, hF, h45, nm, not_false_eq_true, if_true]
    rw [b_256_10, bnd_e, hm, zI_neg1, l_256o hF hM hW hd h0 hp (by omega), show (-1 : Int) + 1 = 0 from rfl, l_256o hF hM hW hd h0 hp (by omega), show (0 : Int) + 1 = 1 from rfl, l_256o hF hM hW hd h0 hp (by omega), show (1 : Int) + 1 = 2 from rfl]
    rw [l_256_12, b_256_12, if_pos (show nI 2 ≤ zI 2 by decide), b_256_124]
    have nr := near_of hW hV hd h0
    cases hq : nearB E an pl d
    · have no : ∀ dy dx : Int, -2 < dy → dy < 2 → -2 < dx → dx < 2 → ¬ ofB E an pl d dy dx = true := fun dy dx a b c e z => by
        rw [hq] at nr
        exact Bool.noConfusion (nr.2 ⟨dy, dx, a, b, c, e, z⟩)
      rw [if_neg, if_neg, if_neg]
      · rfl
      · rintro (z | z | z) <;> exact no _ _ (by omega) (by omega) (by omega) (by omega) z
      · rintro (z | z | z) <;> exact no _ _ (by omega) (by omega) (by omega) (by omega) z
      · rintro (z | z | z) <;> exact no _ _ (by omega) (by omega) (by omega) (by omega) z
    · obtain ⟨dy, dx, a, b, c, e, z⟩ := nr.1 hq
      have yy : dy = -1 ∨ dy = 0 ∨ dy = 1 := by omega
      have xx : dx = -1 ∨ dx = 0 ∨ dx = 1 := by omega
      have r : ofB E an pl d dy (-1) = true ∨ ofB E an pl d dy 0 = true ∨ ofB E an pl d dy 1 = true := by
        rcases xx with rfl | rfl | rfl
        · exact Or.inl z
        · exact Or.inr (Or.inl z)
        · exact Or.inr (Or.inr z)
      rcases yy with rfl | rfl | rfl
      · rw [if_pos r]; rfl
      · split
        · rfl
        · rfl
      · split
        · rfl
        · split
          · rfl
          · rfl
end MS3
