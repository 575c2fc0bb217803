/-! quiet: minutes until nothing shuts -/
def smA (an : Nat → Nat) : Nat → Nat
  | 0 => 0
  | n + 1 => smA an n + an n
theorem smA_up {an : Nat → Nat} {d v : Nat} : ∀ n, smA (upn an d v) n + (if d < n then an d else 0) = smA an n + (if d < n then v else 0) := by
  intro n
  induction n with
  | zero => rfl
  | succ n ih =>
    show smA (upn an d v) n + upn an d v n + _ = smA an n + an n + _
    have e : upn an d v n = if n = d then v else an n := rfl
    rw [e]
    by_cases c : n = d
    · subst c
      rw [if_neg (by omega), if_neg (by omega)] at ih
      rw [if_pos rfl, if_pos (by omega), if_pos (by omega)]
      omega
    · rw [if_neg c]
      by_cases c2 : d < n
      · rw [if_pos c2, if_pos c2] at ih
        rw [if_pos (by omega), if_pos (by omega)]
        omega
      · rw [if_neg c2, if_neg c2] at ih
        rw [if_neg (by omega), if_neg (by omega)]
        omega
theorem smA_le {an : Nat → Nat} : ∀ n, (∀ d, d < n → an d < 3) → smA an n ≤ 2 * n := by
  intro n
  induction n with
  | zero => intro _; exact Nat.le_refl _
  | succ n ih =>
    intro h
    have := ih (fun d hd => h d (by omega))
    have := h n (by omega)
    show smA an n + an n ≤ _
    omega
section QUIET
variable {E an : Nat → Nat} {pl : Nat}
theorem bl_sm (hW : WF E) : ∀ k, k ≤ E 3 → smA (bl E an pl k).1 (E 2) + (bl E an pl k).2 = smA an (E 2) := by
  intro k
  induction k with
  | zero => intro _; rfl
  | succ k ih =>
    intro hk
    have i := ih (by omega)
    have t := hW.2.2.2.2.2.2.2.2 (3 * k + 2) (by omega)
    rw [← Nat.add_assoc] at t
    unfold bl
    split
    · rename_i c
      have u := smA_up (an := (bl E an pl k).1) (d := E (310 + 3 * k + 2)) (v := (bl E an pl k).1 (E (310 + 3 * k + 2)) - 1) (E 2)
      rw [if_pos t, if_pos t] at u
      dsimp only
      omega
    · exact i
/-- the minutes, from v on -/
def qtN (E : Nat → Nat) (pl : Nat) : Nat → (Nat → Nat) → Nat → Nat
  | 0, _, v => v
  | r + 1, an, v => if (bl E an pl (E 3)).2 = 0 then v else qtN E pl r (bl E an pl (E 3)).1 (v + 1)
theorem l_284 (hW : WF E) : ∀ r an v n0 m h, smA an (E 2) < r → v + r ≤ 30 → Fix h → MS h E an pl → VA E an pl → hI h 64 46 = nI n0 → ∃ g, l_284_11 (r + m) (some 64) (nI v) h = some (nI (qtN E pl r an v), g) ∧ Fz [87, 27000064, 74, 75, 88, 47000064] h g := by
  intro r
  induction r with
  | zero => intro an v n0 m h h1; omega
  | succ r ih =>
    intro an v n0 m h h1 hv hF hM hV hn
    obtain ⟨g, a1, a2, a3, a4, a5⟩ := s_260 hF hM hW hV hn
    have sm := bl_sm (an := an) (pl := pl) hW (E 3) (Nat.le_refl _)
    have b3 := bl_le (E := E) (an := an) (pl := pl) (E 3)
    have w3 := hW.2.2.2.1
    have un : qtN E pl (r + 1) an v = if (bl E an pl (E 3)).2 = 0 then v else qtN E pl r (bl E an pl (E 3)).1 (v + 1) := rfl
    rw [un, show r + 1 + m = (r + m) + 1 by omega, l_284_11, b_284_11, rC64 hF, grd_e, Option.bind_some, a1, Option.bind_some]
    dsimp only
    by_cases c : (bl E an pl (E 3)).2 = 0
    · rw [if_pos (nI_l0 (by omega) c), if_pos c, b_284_24]
      exact ⟨g, rfl, a2⟩
    · rw [if_neg (nI_g0 (by omega) (by omega)), if_neg c, b_284_18, bnd_e, nI_add]
      obtain ⟨g2, b1, b2⟩ := ih _ (v + 1) _ m g (by omega) (by omega) (a2.fix hF (by decide)) a3 a5 a4
      exact ⟨g2, b1, a2.then b2⟩
theorem s_284 {h : Hp} (hF : Fix h) (hB : Bg h E) (hW : WF E) (hV : VA E (anE E) (E 340)) : ∃ g, f_284 (some 64) h = some (nI (qtN E (E 340) 21 (anE E) 1), g) ∧ Fz [1000064, 23000064, 66, 87, 46000064, 47000064, 27000064, 74, 75, 88] h g ∧ NowE g E ∧ hI g 64 22 = 1 ∧ hI g 64 0 = nI 0 := by
  have w2 := hW.2.2.1
  have z0 : Fz [1000064] h (sI h 64 0 (nI 0)) := Fz.sI Fz.rfl' (Or.inr (by simp))
  have F0 : Fix (sI h 64 0 (nI 0)) := fx_sI hF (by omega)
  have i0 : hI (sI h 64 0 (nI 0)) 64 0 = nI 0 := by rw [hI_sI]; exact if_pos ⟨rfl, rfl⟩
  have B0 : Bg (sI h 64 0 (nI 0)) E := hB.cg (z0.I1 (by decide) (by decide)) (z0.I (a := 66) (by decide))
  obtain ⟨g1, a1, a2, a3, a4, a5⟩ := s_253 F0 B0 hW hV.1 hV.2.1
  have F1 := a2.fix F0 (by decide)
  have sm := smA_le (an := anE E) (E 2) hV.1
  obtain ⟨m, hm⟩ := FU_ge 21 (by omega)
  obtain ⟨g2, b1, b2⟩ := l_284 hW 21 (anE E) 1 0 m g1 (by omega) (by omega) F1 a3 hV a5
  refine ⟨g2, ?_, (z0.wid (by decide)).then ((a2.wid (by decide)).then (b2.wid (by decide))), a3.1.cg (b2.I (by decide)), by rw [b2.I1 (by decide) (by decide)]; exact a4, by rw [b2.I1 (by decide) (by decide), a2.I1 (by decide) (by decide)]; exact i0⟩
  rw [f_284, b_284_0, pI64 hF, Option.bind_some, rC64 F0, grd_e, Option.bind_some, a1, Option.bind_some, bnd_e, hm]
  exact b1
theorem l_165 {τ : Nat → Nat} (hW : WF E) (hT : TG τ) : ∀ r an v m h, smA an (E 2) < r → v + r ≤ 30 → Fix h → ScR τ h 36 E an pl → (∀ d, d < E 2 → an d < 3) → pl ≤ 100 → ∃ g an', l_165_13 (r + m) (some 30) (nI v) h = some (nI (qtN E pl r an v), g) ∧ Fz [38] h g ∧ ScR τ g 36 E an' pl := by
  intro r
  induction r with
  | zero => intro an v m h h1; omega
  | succ r ih =>
    intro an v m h h1 hv hF hS h3 hp
    obtain ⟨g, a1, a2, a3, a4⟩ := s_95 hF hT (Or.inr (Or.inl rfl)) hS hW h3 hp
    have sm := bl_sm (an := an) (pl := pl) hW (E 3) (Nat.le_refl _)
    have b3 := bl_le (E := E) (an := an) (pl := pl) (E 3)
    have w3 := hW.2.2.2.1
    have un : qtN E pl (r + 1) an v = if (bl E an pl (E 3)).2 = 0 then v else qtN E pl r (bl E an pl (E 3)).1 (v + 1) := rfl
    rw [un, show r + 1 + m = (r + m) + 1 by omega, l_165_13, b_165_13, if_neg (by rw [nI_ltI (by omega) (by omega)]; omega), b_165_19, gQ30_2 hF, Option.bind_some, rC36 hF, grd_e, Option.bind_some, a1, Option.bind_some]
    dsimp only
    by_cases c : (bl E an pl (E 3)).2 = 0
    · rw [if_pos (nI_l0 (by omega) c), if_pos c, b_165_35]
      exact ⟨g, _, rfl, a2, a3⟩
    · rw [if_neg (nI_g0 (by omega) (by omega)), if_neg c, b_165_29, bnd_e, nI_add]
      obtain ⟨g2, an', b1, b2, b3⟩ := ih _ (v + 1) m g (by omega) (by omega) (a2.fix hF (by decide)) a3 a4 hp
      exact ⟨g2, an', b1, a2.then b2, b3⟩
theorem s_165 {τ : Nat → Nat} {h : Hp} (hF : Fix h) (hT : TG τ) (hN' : ∀ x, τ x = 1 → x < hN h) (h36 : τ 36 ≠ 1 ∧ τ 37 ≠ 1 ∧ τ 38 ≠ 1) (hW : WF E) (hSc : ScR τ h 33 E an pl) (h3 : ∀ d, d < E 2 → an d < 3) (hp : pl ≤ 100) : ∃ g, f_165 (some 30) h = some (nI (qtN E pl 21 an 1), g) ∧ Fa [3000036, 4000036, 37, 38] h g ∧ hN g = hN h ∧ hC g = hC h ∧ hS g = hS h := by
  have w2 := hW.2.2.1
  obtain ⟨g1, a1, a2, a3, a4, a5, a6⟩ := s_84 (q := 36) (qh := 37) (qa := 38) hT hN' (hSc.g hF (Or.inl rfl)) (K36 hF) (Q36_0 hF) (Q36_1 hF) (K37 hF) (L37 hF) (K38 hF) (L38 hF) (by omega) (by omega) h36 (by omega) w2
  have F1 : Fix g1 := a2.fix hF (by decide) (by decide)
  have sm := smA_le (an := an) (E 2) h3
  obtain ⟨m, hm⟩ := FU_ge 21 (by omega)
  obtain ⟨g2, an', b1, b2, b3⟩ := l_165 hW hT 21 an 1 m g1 (by omega) (by omega) F1 (ScG.r (s := 36) a6) h3 hp
  refine ⟨g2, ?_, a2.then (b2.fa.wid (by decide)), by rw [b2.N]; exact a3, by rw [b2.C]; exact a4, by rw [b2.S]; exact a5⟩
  rw [f_165, b_165_0, gQ30_2 hF, Option.bind_some, gQ30_1 hF, Option.bind_some, rC36 hF, grd_e, Option.bind_some]
  have a1' : f_84 (some 36) (some 33) h = some g1 := a1
  rw [a1', Option.bind_some, bnd_e, hm]
  exact b1
end QUIET
