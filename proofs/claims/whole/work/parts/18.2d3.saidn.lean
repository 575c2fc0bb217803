/-! what is said, all doors: the reference -/
section SAIDN
variable {E Y : Nat → Nat}
abbrev Zw : List Nat := [1000064, 23000064, 66, 27000064, 74, 75, 76, 77, 78, 87, 46000064, 47000064, 88]
theorem s_298 {h : Hp} (hF : Fix h) (hB : Bg h E) (hW : WF E) (hV : VA E (anE E) (E 340)) :
    (E 462 = 0 → ∃ g, f_298 (some 64) h = some (-1, g) ∧ Fz Zw h g ∧ NowE g E ∧ hI g 64 22 = 1 ∧ hI g 64 0 = nI 0) ∧
    (E 462 ≠ 0 → SaR E Y → WTn (E 2) Y (Y 900) 0 (Y 900) → Y 900 ≤ 40 → Y 902 + 1 = Y 900 → ∃ g, f_298 (some 64) h = some (nI (sdM (fun d => vlT (lvS E (anE E) (E 340) Y d) Y (Y 900) (Y 900 - 1)) 0 (E 2) 0), g) ∧ Fz Zw h g ∧ NowE g E ∧ hI g 64 22 = 1 ∧ hI g 64 0 = nI 0) := by
  have w2 := hW.2.2.1
  have z0 : Fz [1000064] h (sI h 64 0 (nI 0)) := Fz.sI Fz.rfl' (Or.inr (by simp))
  have F0 : Fix (sI h 64 0 (nI 0)) := fx_sI hF (by omega)
  have i0 : hI (sI h 64 0 (nI 0)) 64 0 = nI 0 := by rw [hI_sI]; exact if_pos ⟨rfl, rfl⟩
  have B0 : Bg (sI h 64 0 (nI 0)) E := hB.cg (z0.I1 (by decide) (by decide)) (z0.I (a := 66) (by decide))
  obtain ⟨g1, a1, a2, a3, a4⟩ := s_202 F0 B0
  have F1 := a2.fix F0 (by decide)
  have i1 : hI g1 64 0 = nI 0 := by rw [a2.I1 (by decide) (by decide)]; exact i0
  have e462 := a3.2.2.2 462
  have hd : f_298 (some 64) h = if ¬ nI (E 462) = 0 then b_298_22 (some 64) g1 else b_298_20 g1 := by
    rw [f_298, b_298_0, pI64 hF, Option.bind_some, rC64 F0, grd_e, Option.bind_some, a1, Option.bind_some, gQ64_14 F1, Option.bind_some, aI66 F1 (by omega), Option.bind_some, a3.1 462 (by omega) (by omega) (by omega)]
  refine ⟨fun e0 => ?_, fun e0 hY hw hn h902 => ?_⟩
  · refine ⟨g1, ?_, (z0.wid (by decide)).then (a2.wid (by decide)), a3, a4, i1⟩
    rw [hd, e0, if_neg (show ¬ ¬ nI 0 = 0 from fun z => z rfl), b_298_20]
  · obtain ⟨g2, b1, b2, b3, b4, b5⟩ := s_225 F1 (Or.inl ⟨a4, a3⟩) hW
    have F2 := b2.fix F1 (by decide)
    obtain ⟨g3, c1, c2, c3, c4, c5⟩ := s_253 F2 (Or.inl ⟨b4, b3⟩) hW hV.1 hV.2.1
    have F3 := c2.fix F2 (by decide)
    have Sw3 : Sw g3 E := by
      unfold Sw SwD at *
      rw [c2.I (by decide), c2.J (by decide), c2.J (by decide)]
      exact b5
    have key : ∀ r i mk m h', i + r = E 2 → mk < 1024 → MSa h' E (anE E) (E 340) → ∃ g, l_298_34 (r + 1 + m) (some 64) (nI mk) (nI i) h' = some (nI (sdM (fun d => vlT (lvS E (anE E) (E 340) Y d) Y (Y 900) (Y 900 - 1)) i r mk), g) ∧ Fz Zv h' g := by
      intro r
      induction r with
      | zero =>
        intro i mk m h' hi hm s
        refine ⟨h', ?_, Fz.rfl'⟩
        rw [Nat.zero_add, Nat.add_comm 1 m, l_298_34, b_298_34, rC64 s.1, grd_e, Option.bind_some, s_203 s.1 s.2.1.1, Option.bind_some]
        dsimp only
        rw [if_pos (by rw [nI_leI (by omega) (by omega)]; omega), b_298_70]
        rfl
      | succ r ih =>
        intro i mk m h' hi hm s
        have st : sdM (fun d => vlT (lvS E (anE E) (E 340) Y d) Y (Y 900) (Y 900 - 1)) i (r + 1) mk = sdM (fun d => vlT (lvS E (anE E) (E 340) Y d) Y (Y 900) (Y 900 - 1)) (i + 1) r (mk ||| (if vlT (lvS E (anE E) (E 340) Y i) Y (Y 900) (Y 900 - 1) = true then 2 ^ i else 0)) := rfl
        obtain ⟨g, d1, d2⟩ := s_297 hW hV (show i < E 2 by omega) hn hY (Y 900) 0 (Y 900) RF h' hw (Nat.le_refl _) (show Y 900 ≤ 64 by omega) s
        have s2 := s.fz d2
        have e463 : aI 12 (some 66) (nI 463) h' = some (nI (Y 900 - 1)) := by
          rw [aI66 s.1 (by omega), s.2.1.1.1 463 (by omega) (by omega) (by omega), hY.1]
          exact congrArg (fun z => some (nI z)) (by omega)
        rw [st, show r + 1 + 1 + m = (r + 1 + m) + 1 by omega, l_298_34, b_298_34, rC64 s.1, grd_e, Option.bind_some, s_203 s.1 s.2.1.1, Option.bind_some]
        dsimp only
        rw [if_neg (by rw [nI_leI (by omega) (by omega)]; omega), b_298_42, gQ64_14 s.1, Option.bind_some, e463, Option.bind_some, rC64 s.1, grd_e, Option.bind_some, d1, Option.bind_some]
        dsimp only
        cases vlT (lvS E (anE E) (E 340) Y i) Y (Y 900) (Y 900 - 1)
        · rw [if_pos (show bI false = 0 from rfl), b_298_64, bnd_e, nI_add, if_neg (by decide), Nat.or_zero]
          obtain ⟨g2, e1, e2⟩ := ih (i + 1) mk m g (by omega) hm s2
          exact ⟨g2, e1, d2.then e2⟩
        · rw [if_neg (show ¬ bI true = 0 by decide), b_298_58, nI_1shl (by omega), fa_or, bnd_e, b_298_64, bnd_e, nI_add, if_pos rfl]
          obtain ⟨g2, e1, e2⟩ := ih (i + 1) (mk ||| 2 ^ i) m g (by omega) (or_lt (k := 10) hm (pw_lt (show i < 10 by omega))) s2
          exact ⟨g2, e1, d2.then e2⟩
    obtain ⟨m, hm⟩ := FU_ge (E 2 + 1) (by omega)
    obtain ⟨g4, e1, e2⟩ := key (E 2) 0 0 m g3 (by omega) (by omega) ⟨F3, c3, Sw3⟩
    refine ⟨g4, ?_, (z0.wid (by decide)).then ((a2.wid (by decide)).then ((b2.wid (by decide)).then ((c2.wid (by decide)).then (e2.wid (by decide))))), c3.1.cg (e2.I (by decide)), ?_, ?_⟩
    · rw [hd, if_pos (nI_n0 (by omega) e0), b_298_22, rC64 F1, grd_e, Option.bind_some, b1, Option.bind_some, rC64 F2, grd_e, Option.bind_some, c1, Option.bind_some, bnd_e, bnd_e, hm]
      exact e1
    · rw [e2.I1 (by decide) (by decide)]; exact c4
    · rw [e2.I1 (by decide) (by decide), c2.I1 (by decide) (by decide), b2.I1 (by decide) (by decide)]; exact i1
end SAIDN
