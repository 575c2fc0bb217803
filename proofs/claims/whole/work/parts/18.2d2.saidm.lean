/-! what is said of a door: the reference -/
def SaR (E Y : Nat → Nat) : Prop := E 463 = Y 902 ∧ ∀ j, j < 4 * Y 900 → nI (E (464 + j)) = nI (sgX Y j)
abbrev Zv : List Nat := [27000064, 74, 75]
def MSa (h : Hp) (E an : Nat → Nat) (pl : Nat) : Prop := Fix h ∧ MS h E an pl ∧ Sw h E
section SAIDM
variable {h : Hp} {E an Y : Nat → Nat} {pl : Nat}
theorem MSa.fz {g : Hp} (s : MSa h E an pl) (hz : Fz Zv h g) : MSa g E an pl := by
  obtain ⟨s1, ⟨s2, s3, s4, s5⟩, s6⟩ := s
  refine ⟨hz.fix s1 (by decide), ⟨s2.cg (hz.I (by decide)), by rw [hz.I (by decide)]; exact s3, by rw [hz.I1 (by decide) (by decide)]; exact s4, by rw [hz.I (by decide)]; exact s5⟩, ?_⟩
  unfold Sw SwD at *
  rw [hz.I (by decide), hz.J (by decide), hz.J (by decide)]
  exact s6
theorem s_296 {d k : Nat} (s : MSa h E an pl) (hW : WF E) (hd : d < E 2) (hk : 7 ≤ k ∧ k ≤ 11) : f_296 (some 64) (nI (50 + rwk k)) (nI d) h = some (nI (vlS E an d k), h) := by
  obtain ⟨hF, ⟨hE, m87, _, _⟩, hSw⟩ := id s
  have w2 := hW.2.2.1
  have wd := (hW.2.2.2.2.2.2.1 d hd).1
  obtain ⟨s78, s7⟩ := hSw d hd
  have f4 : f_205 (some 64) (nI d) (nI 4) h = some (nI (dHg E d), h) := by rw [s_205 hF hE (by omega) (by omega)]; exact congrArg (fun z => some (nI (E z), h)) (by omega)
  have f3 : f_205 (some 64) (nI d) (nI 3) h = some (nI (dLn E d), h) := by rw [s_205 hF hE (by omega) (by omega)]; exact congrArg (fun z => some (nI (E z), h)) (by omega)
  have f6 : f_205 (some 64) (nI d) (nI 6) h = some (nI (dCs E d), h) := by rw [s_205 hF hE (by omega) (by omega)]; exact congrArg (fun z => some (nI (E z), h)) (by omega)
  rw [f_296, b_296_0, rC64 hF, grd_e, Option.bind_some, f4, Option.bind_some, bnd_e, pk_sub (by omega), bnd_e, show 50 + rwk k - 50 = rwk k by omega]
  dsimp only
  unfold vlS
  have b1 := swL_lt E d (dHg E d)
  have b2 := swH_lt E d (dHg E d)
  rcases (show k = 7 ∨ k = 8 ∨ k = 9 ∨ k = 10 ∨ k = 11 by omega) with e | e | e | e | e <;> subst e
  · rw [if_neg (show ¬ nI (rwk 7) = nI 6 by decide), if_pos (show nI (rwk 7) = nI 23 from rfl), if_pos rfl, b_296_52, gQ64_43 hF, Option.bind_some, aI87 hF (by omega), Option.bind_some, m87 d (by omega)]
  · rw [if_neg (show ¬ nI (rwk 8) = nI 6 by decide), if_neg (show ¬ nI (rwk 8) = nI 23 by decide), if_pos (show nI (rwk 8) = nI 24 from rfl), if_neg (by omega), if_pos rfl, b_296_59, rC64 hF, grd_e, Option.bind_some, f3, Option.bind_some]
  · rw [if_neg (show ¬ nI (rwk 9) = nI 6 by decide), if_neg (show ¬ nI (rwk 9) = nI 23 by decide), if_neg (show ¬ nI (rwk 9) = nI 24 by decide), if_pos (show nI (rwk 9) = nI 25 from rfl), if_neg (by omega), if_neg (by omega), if_pos rfl, b_296_66, gQ64_27 hF, Option.bind_some, pk_mul, nI_add, aJ76 hF (by omega), Option.bind_some, (s7 _ (by omega)).1, s_185 (by omega), Option.bind_some]
    dsimp only
    rw [gQ64_28 hF, Option.bind_some, aJ77 hF (by omega), Option.bind_some, (s7 _ (by omega)).2, s_185 (by omega), Option.bind_some]
    dsimp only
    rw [nI_add]
  · have p1 := pc_le64 (fitM E d)
    have fm : fitM E d < 16 := fitM_lt E d
    rw [if_pos (show nI (rwk 10) = nI 6 from rfl), if_neg (by omega), if_neg (by omega), if_neg (by omega), if_pos rfl, b_296_94, gQ64_29 hF, Option.bind_some, aI78 hF (by omega), Option.bind_some, s78, s_184 (by omega), Option.bind_some, pc_fit]
  · rw [if_neg (show ¬ nI (rwk 11) = nI 6 by decide), if_neg (show ¬ nI (rwk 11) = nI 23 by decide), if_neg (show ¬ nI (rwk 11) = nI 24 by decide), if_neg (show ¬ nI (rwk 11) = nI 25 by decide), if_neg (by omega), if_neg (by omega), if_neg (by omega), if_neg (by omega), b_296_104, rC64 hF, grd_e, Option.bind_some, f6, Option.bind_some]
theorem vlS_lt {d k : Nat} (hW : WF E) (hV : VA E an pl) (hd : d < E 2) : vlS E an d k < 1000 := by
  have wd := (hW.2.2.2.2.2.2.1 d hd).1
  have a3 := hV.1 d hd
  have p1 := pc_le64 (swL E d (dHg E d))
  have p2 := pc_le64 (swH E d (dHg E d))
  have p3 := fb_ct_le (mayB E d) 4
  unfold vlS
  split
  · omega
  · split
    · omega
    · split
      · omega
      · split <;> omega
theorem s_297 {d : Nat} (hW : WF E) (hV : VA E an pl) (hd : d < E 2) (hn : Y 900 ≤ 40) (hY : SaR E Y) : ∀ n lo hi k h, WTn (E 2) Y n lo hi → hi ≤ Y 900 → n ≤ k → MSa h E an pl → ∃ g, f_297 k (some 64) (nI (hi - 1)) (nI d) h = some (bI (vlT (lvS E an pl Y d) Y n (hi - 1)), g) ∧ Fz Zv h g := by
  have w2 := hW.2.2.1
  have wd := (hW.2.2.2.2.2.2.1 d hd).1
  intro n
  induction n with
  | zero => intro lo hi k h w; exact absurd w id
  | succ n ih =>
    intro lo hi k h w hh hk s
    obtain ⟨k', rfl⟩ : ∃ k', k = k' + 1 := ⟨k - 1, by omega⟩
    have lt := WTn_lt _ _ _ w
    obtain ⟨hF, hM, hSw⟩ := id s
    have hE := hM.1
    have un : vlT (lvS E an pl Y d) Y (n + 1) (hi - 1) = if Y (4 * (hi - 1)) = 2 then !vlT (lvS E an pl Y d) Y n (Y (4 * (hi - 1) + 1)) else if Y (4 * (hi - 1)) = 1 then (vlT (lvS E an pl Y d) Y n (Y (4 * (hi - 1) + 1)) && vlT (lvS E an pl Y d) Y n (Y (4 * (hi - 1) + 2))) else if Y (4 * (hi - 1)) = 0 then (vlT (lvS E an pl Y d) Y n (Y (4 * (hi - 1) + 1)) || vlT (lvS E an pl Y d) Y n (Y (4 * (hi - 1) + 2))) else lvS E an pl Y d (hi - 1) := rfl
    have rd : ∀ j, j < 4 * Y 900 → aI 12 (some 66) (nI (464 + j)) h = some (nI (sgX Y j)) := fun j hj => by rw [aI66 hF (by omega), hE.1 _ (by omega) (by omega) (by omega), hY.2 j hj]
    have r0 : aI 12 (some 66) (nI (464 + 4 * (hi - 1))) h = some (nI (rkX (Y (4 * (hi - 1))))) := by
      rw [rd _ (by omega)]; unfold sgX; rw [if_pos (by omega)]
    have r1 : aI 12 (some 66) (nI (464 + 4 * (hi - 1) + 1)) h = some (nI (Y (4 * (hi - 1) + 1))) := by
      rw [Nat.add_assoc, rd _ (by omega)]; unfold sgX; rw [if_neg (by omega)]
    have r2 : aI 12 (some 66) (nI (464 + 4 * (hi - 1) + 2)) h = some (nI (Y (4 * (hi - 1) + 2))) := by
      rw [Nat.add_assoc, rd _ (by omega)]; unfold sgX; rw [if_neg (by omega)]
    have r3 : ∀ h', hI h' 66 = hI h 66 → Fix h' → aI 12 (some 66) (nI (464 + 4 * (hi - 1) + 3)) h' = some (nI (Y (4 * (hi - 1) + 3))) := fun h' e F' => by
      rw [aI66 F' (by omega), e, hE.1 _ (by omega) (by omega) (by omega), Nat.add_assoc, hY.2 _ (by omega)]; unfold sgX; rw [if_neg (by omega)]
    have f4 : ∀ e, e < 10 → f_205 (some 64) (nI e) (nI 4) h = some (nI (dHg E e), h) := fun e he => by rw [s_205 hF hE he (by omega)]; exact congrArg (fun z => some (nI (E z), h)) (by omega)
    rw [un, f_297, F_297, b_297_0, pk_mul, nI_add, bnd_e, gQ64_14 hF, Option.bind_some, nI_add, r1, Option.bind_some, Option.bind_some, nI_add, r2, Option.bind_some, Option.bind_some, r0, Option.bind_some]
    generalize hx : hi - 1 = i at *
    rcases w with ⟨h0, hl⟩ | ⟨e, h1, h2, h3, h4⟩ | ⟨md, e, h1, h2, h3, h4, h5, h6⟩
    · obtain ⟨l3, l6, l7⟩ := id hl
      have ei : lo = i := by omega
      subst ei
      rw [if_neg (show ¬ Y (4 * lo) = 2 by omega), if_neg (show ¬ Y (4 * lo) = 1 by omega), if_neg (show ¬ Y (4 * lo) = 0 by omega)]
      have nn : ∀ a b : Nat, a < 200 → b < 200 → a ≠ b → ¬ nI a = nI b := fun a b ha hb hc => nI_nn (by omega) (by omega) hc
      rcases (show Y (4 * lo) = 3 ∨ Y (4 * lo) = 4 ∨ Y (4 * lo) = 5 ∨ Y (4 * lo) = 6 ∨ 7 ≤ Y (4 * lo) by omega) with z | z | z | z | z
      · have lv : lvS E an pl Y d lo = decide (0 < an d) := by unfold lvS; rw [if_pos z]
        have a3 := hV.1 d hd
        rw [z, lv, show rkX 3 = 4 from rfl, if_neg (nn 4 1 (by omega) (by omega) (by omega)), if_neg (nn 4 2 (by omega) (by omega) (by omega)), if_neg (nn 4 3 (by omega) (by omega) (by omega)), if_pos rfl, b_297_144, gQ64_43 hF, Option.bind_some, aI87 hF (by omega), Option.bind_some, hM.2.1 d (by omega)]
        refine ⟨h, ?_, Fz.rfl'⟩
        by_cases c : an d = 0
        · rw [if_pos (nI_l0 (by omega) c), decide_eq_false (by omega)]; rfl
        · rw [if_neg (nI_g0 (by omega) (by omega)), decide_eq_true (by omega)]; rfl
      · have lv : lvS E an pl Y d lo = fitB E d (dHg E d) := by unfold lvS; rw [if_neg (by omega), if_pos z]
        obtain ⟨g, a1, a2⟩ := s_223 hF hE (hW.dr hd) (show dHg E d < 4 by omega)
        rw [z, lv, show rkX 4 = 5 from rfl, if_neg (nn 5 1 (by omega) (by omega) (by omega)), if_neg (nn 5 2 (by omega) (by omega) (by omega)), if_neg (nn 5 3 (by omega) (by omega) (by omega)), if_neg (nn 5 4 (by omega) (by omega) (by omega)), if_pos rfl, b_297_159, rC64 hF, grd_e, Option.bind_some, f4 d (by omega), Option.bind_some, rC64 hF, grd_e, Option.bind_some]
        dsimp only
        rw [a1, Option.bind_some]
        dsimp only
        rw [grdB, Option.bind_some]
        exact ⟨g, rfl, a2⟩
      · have lv : lvS E an pl Y d lo = nearB E an pl d := by unfold lvS; rw [if_neg (by omega), if_neg (by omega), if_pos z]
        rw [z, lv, show rkX 5 = 6 from rfl, if_neg (nn 6 1 (by omega) (by omega) (by omega)), if_neg (nn 6 2 (by omega) (by omega) (by omega)), if_neg (nn 6 3 (by omega) (by omega) (by omega)), if_neg (nn 6 4 (by omega) (by omega) (by omega)), if_neg (nn 6 5 (by omega) (by omega) (by omega)), if_pos rfl, b_297_171, rC64 hF, grd_e, Option.bind_some, s_256 hF hM hW hV hd, Option.bind_some]
        dsimp only
        rw [grdB, Option.bind_some]
        exact ⟨h, rfl, Fz.rfl'⟩
      · have he := l6 z
        have we := (hW.2.2.2.2.2.2.1 _ he).1
        have lv : lvS E an pl Y d lo = (decide (Y (4 * lo + 1) ≠ d) && bit E d (dHg E d) (Y (4 * lo + 1)) (dHg E (Y (4 * lo + 1)))) := by unfold lvS; rw [if_neg (by omega), if_neg (by omega), if_neg (by omega), if_pos z]
        rw [z, lv, show rkX 6 = 7 from rfl, if_neg (nn 7 1 (by omega) (by omega) (by omega)), if_neg (nn 7 2 (by omega) (by omega) (by omega)), if_neg (nn 7 3 (by omega) (by omega) (by omega)), if_neg (nn 7 4 (by omega) (by omega) (by omega)), if_neg (nn 7 5 (by omega) (by omega) (by omega)), if_neg (nn 7 6 (by omega) (by omega) (by omega)), if_pos rfl, b_297_177]
        generalize Y (4 * lo + 1) = x at *
        refine ⟨h, ?_, Fz.rfl'⟩
        by_cases c : x = d
        · rw [if_pos (by rw [c]), b_297_210, b_297_211, grd0, Option.bind_some, decide_eq_false (fun z => z c), Bool.false_and]; rfl
        · rw [if_neg (nI_nn (by omega) (by omega) c), b_297_183, rC64 hF, grd_e, Option.bind_some, f4 d (by omega), Option.bind_some, rC64 hF, grd_e, Option.bind_some]
          dsimp only
          rw [f4 x (by omega), Option.bind_some, rC64 hF, grd_e, Option.bind_some]
          dsimp only
          rw [s_227 hF hSw w2 hd (by omega) he (by omega), Option.bind_some, decide_eq_true c, Bool.true_and]
          dsimp only
          cases bit E d (dHg E d) x (dHg E x) <;> rfl
      · have vl := vlS_lt (k := Y (4 * lo)) hW hV hd
        obtain ⟨y1, y2, y3⟩ := l7 z
        have lv : lvS E an pl Y d lo = cmS (Y (4 * lo + 3)) (vlS E an d (Y (4 * lo))) (Y (4 * lo + 2)) := by unfold lvS; rw [if_neg (by omega), if_neg (by omega), if_neg (by omega), if_neg (by omega)]
        have rk : rkX (Y (4 * lo)) = 50 + rwk (Y (4 * lo)) := by unfold rkX; rw [if_neg (by omega)]
        have rl : rwk (Y (4 * lo)) < 100 := (show ∀ k, k < 12 → rwk k < 100 by decide) _ (by omega)
        rw [rk] at r0
        rw [lv, rk, if_neg (nn _ 1 (by omega) (by omega) (by omega)), if_neg (nn _ 2 (by omega) (by omega) (by omega)), if_neg (nn _ 3 (by omega) (by omega) (by omega)), if_neg (nn _ 4 (by omega) (by omega) (by omega)), if_neg (nn _ 5 (by omega) (by omega) (by omega)), if_neg (nn _ 6 (by omega) (by omega) (by omega)), if_neg (nn _ 7 (by omega) (by omega) (by omega)), b_297_212, gQ64_14 hF, Option.bind_some, r0, Option.bind_some, rC64 hF, grd_e, Option.bind_some, s_296 s hW hd (by omega), Option.bind_some, bnd_e]
        dsimp only
        rw [gQ64_14 hF, Option.bind_some, nI_add, r3 h rfl hF, Option.bind_some]
        generalize vlS E an d (Y (4 * lo)) = v at *
        refine ⟨h, ?_, Fz.rfl'⟩
        unfold cmS
        by_cases c0 : Y (4 * lo + 3) = 60
        · rw [if_neg (fun z => z (by rw [c0])), if_pos c0, b_297_238]
          by_cases c : Y (4 * lo + 2) ≤ v
          · rw [if_pos (by rw [nI_leI (by omega) (by omega)]; exact c), decide_eq_false (by omega)]; rfl
          · rw [if_neg (by rw [nI_leI (by omega) (by omega)]; exact c), decide_eq_true (by omega)]; rfl
        · rw [if_pos (nI_nn (by omega) (by omega) c0), if_neg c0, b_297_253, gQ64_14 hF, Option.bind_some, nI_add, r3 h rfl hF, Option.bind_some]
          by_cases c1 : Y (4 * lo + 3) = 61
          · rw [if_neg (fun z => z (by rw [c1])), if_pos c1, b_297_266]
            by_cases c : v = Y (4 * lo + 2)
            · rw [if_neg (fun z => z (by rw [c])), decide_eq_true c]; rfl
            · rw [if_pos (nI_nn (by omega) (by omega) c), decide_eq_false c]; rfl
          · rw [if_pos (nI_nn (by omega) (by omega) c1), if_neg c1, b_297_281]
            by_cases c : v ≤ Y (4 * lo + 2)
            · rw [if_pos (by rw [nI_leI (by omega) (by omega)]; exact c), decide_eq_false (by omega)]; rfl
            · rw [if_neg (by rw [nI_leI (by omega) (by omega)]; exact c), decide_eq_true (by omega)]; rfl
    · have ei : e = i := by omega
      subst ei
      obtain ⟨g, a1, a2⟩ := ih lo e k' h h2 (by omega) (by omega) s
      rw [h3, h4, if_pos (show (2 : Nat) = 2 from rfl), show rkX 2 = 1 from rfl, if_pos rfl, b_297_76, rC64 hF, grd_e, Option.bind_some, a1, Option.bind_some]
      dsimp only
      refine ⟨g, ?_, a2⟩
      cases vlT (lvS E an pl Y d) Y n (e - 1) <;> rfl
    · have ei : e = i := by omega
      subst ei
      obtain ⟨g, a1, a2⟩ := ih lo md k' h h2 (by have := WTn_lt _ _ _ h3; omega) (by omega) s
      obtain ⟨g2, b1, b2⟩ := ih md e k' g h3 (by omega) (by omega) (s.fz a2)
      have Fg := (s.fz a2).1
      rw [h5, h6, if_neg (show ¬ Y (4 * e) = 2 by omega)]
      rcases (show Y (4 * e) = 0 ∨ Y (4 * e) = 1 by omega) with z | z
      · rw [z, if_neg (show ¬ (0 : Nat) = 1 by omega), if_pos (show (0 : Nat) = 0 from rfl), show rkX 0 = 3 from rfl, if_neg (show ¬ nI 3 = nI 1 by decide), if_neg (show ¬ nI 3 = nI 2 by decide), if_pos rfl, b_297_118, rC64 hF, grd_e, Option.bind_some, a1, Option.bind_some]
        dsimp only
        cases vlT (lvS E an pl Y d) Y n (md - 1)
        · rw [if_neg (show ¬ ¬ bI false = 0 from fun z => z rfl), b_297_128, rC64 Fg, grd_e, Option.bind_some, b1, Option.bind_some]
          dsimp only
          refine ⟨g2, ?_, a2.then b2⟩
          cases vlT (lvS E an pl Y d) Y n (e - 1) <;> rfl
        · exact ⟨g, rfl, a2⟩
      · rw [z, if_pos (show (1 : Nat) = 1 from rfl), show rkX 1 = 2 from rfl, if_neg (show ¬ nI 2 = nI 1 by decide), if_pos rfl, b_297_92, rC64 hF, grd_e, Option.bind_some, a1, Option.bind_some]
        dsimp only
        cases vlT (lvS E an pl Y d) Y n (md - 1)
        · exact ⟨g, rfl, a2⟩
        · rw [if_neg (show ¬ bI true = 0 by decide), b_297_102, rC64 Fg, grd_e, Option.bind_some, b1, Option.bind_some]
          dsimp only
          refine ⟨g2, ?_, a2.then b2⟩
          cases vlT (lvS E an pl Y d) Y n (e - 1) <;> rfl
end SAIDM
