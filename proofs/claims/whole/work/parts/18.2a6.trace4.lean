/-! a door traced -/
def TV (h : Hp) (p : Nat) (X : Nat → Nat) (d g : Nat) : Prop := (∀ e a, e < g → a < 3 → hJ h (p + 1) (3 * e + a) = lN (loM (lfc X d e a)) ∧ hJ h (p + 2) (3 * e + a) = lN (hiM (lfc X d e a))) ∧ (∀ e, e < g → hJ h (p + 3) e = lN (swL X d e) ∧ hJ h (p + 4) e = lN (swH X d e) ∧ hI h (p + 5) e = nI (canM X d e)) ∧ (∀ j, 3 * g ≤ j → hJ h (p + 1) j = 0 ∧ hJ h (p + 2) j = 0) ∧ ∀ j, g ≤ j → hJ h (p + 3) j = 0 ∧ hJ h (p + 4) j = 0
def ZD (p : Nat) : List Nat := [p + 1, p + 2, p + 3, p + 4, p + 5]
theorem ZG_w {p g : Nat} (hp : p + 10 < 1000000) : ∀ z, z ∈ ZG p g → z ∈ ZD p ∨ z % 1000000 ∈ ZD p := by
  intro z hz
  have := ZG_m hp hz
  unfold ZD
  simp only [List.mem_cons, List.not_mem_nil, or_false]
  omega
theorem ZG_J {p g : Nat} {h g' : Hp} (hp : p + 10 < 1000000) (hz : Fz (ZG p g) h g') : (∀ j, j < 3 * g ∨ 3 * g + 3 ≤ j → hJ g' (p + 1) j = hJ h (p + 1) j ∧ hJ g' (p + 2) j = hJ h (p + 2) j) ∧ ∀ j, j ≠ g → hJ g' (p + 3) j = hJ h (p + 3) j ∧ hJ g' (p + 4) j = hJ h (p + 4) j ∧ hI g' (p + 5) j = hI h (p + 5) j := by
  refine ⟨fun j hj => ⟨hz.J1 ?_ ?_, hz.J1 ?_ ?_⟩, fun j hj => ⟨hz.J1 ?_ ?_, hz.J1 ?_ ?_, hz.I1 ?_ ?_⟩⟩ <;> unfold ZG <;> simp only [List.mem_cons, List.not_mem_nil, or_false] <;> omega
section TRACE4
variable {p a d : Nat} {X : Nat → Nat}
theorem l_17 (hW : WF X) : ∀ r g m h, g + r = 4 → TC h p a X d → TW h p → TV h p X d g → ∃ g', l_17_2 (r + 1 + m) (some p) (some a) (nI g) h = some g' ∧ Fz (ZD p) h g' ∧ TV g' p X d 4 := by
  intro r
  induction r with
  | zero =>
    intro g m h hg t tw tv
    have e : g = 4 := by omega
    subst e
    refine ⟨h, ?_, Fz.rfl', tv⟩
    rw [Nat.zero_add, Nat.add_comm 1 m, l_17_2, b_17_2, if_pos (by rw [nI_leI (by omega) (by omega)]; omega), b_17_101]
  | succ r ih =>
    intro g m h hg t tw tv
    have bb := t.2.2.2.2.2.2.1
    obtain ⟨v1, v2, v3, v4⟩ := id tv
    have hg4 : g < 4 := by omega
    generalize x1 : sI h (p + 5) g (nI 1) = h1
    have z1 : Fz (ZG p g) h h1 := by rw [← x1]; exact Fz.sI Fz.rfl' (Or.inr (by unfold ZG; simp))
    have t1 := t.fg z1
    have tw1 := tw.fz z1
    have J1 : hJ h1 = hJ h := by rw [← x1]; rfl
    have y5 : hI h1 (p + 5) g = nI 1 := by rw [← x1, hI_sI]; exact if_pos ⟨rfl, rfl⟩
    obtain ⟨h2, b1, b2, b3, b4⟩ := s_18 (an := 0) hW hg4 (by omega) t1 (show hJ h1 (p + 1) (3 * g + 0) = lN 0 by rw [J1, (v3 _ (by omega)).1]; exact lN00) (show hJ h1 (p + 2) (3 * g + 0) = lN 0 by rw [J1, (v3 _ (by omega)).2]; exact lN00)
    have z2 := b2.wid (ZT_w (p := p) (g := g) (by omega))
    have t2 := t1.fg z2
    have tw2 := tw1.fz z2
    have zm : ∀ z, z ∈ ZT p (3 * g + 0) → z % 1000000 = p + 1 ∨ z % 1000000 = p + 2 := by
      intro z hz
      unfold ZT at hz
      simp only [List.mem_cons, List.not_mem_nil, or_false] at hz
      omega
    have oth : ∀ j, j ≠ 3 * g + 0 → hJ h2 (p + 1) j = hJ h (p + 1) j ∧ hJ h2 (p + 2) j = hJ h (p + 2) j := fun j hj => by
      rw [← J1]
      refine ⟨b2.J1 ?_ ?_, b2.J1 ?_ ?_⟩ <;> unfold ZT <;> simp only [List.mem_cons, List.not_mem_nil, or_false] <;> omega
    have y23 : hJ h2 (p + 3) g = lN 0 := by rw [b2.J (fun z hm => by have := zm z hm; omega), J1, (v4 g (Nat.le_refl _)).1]; exact lN00
    have y24 : hJ h2 (p + 4) g = lN 0 := by rw [b2.J (fun z hm => by have := zm z hm; omega), J1, (v4 g (Nat.le_refl _)).2]; exact lN00
    have y25 : hI h2 (p + 5) g = nI 1 := by rw [b2.I (fun z hm => by have := zm z hm; omega)]; exact y5
    obtain ⟨m', hm⟩ := FU_ge 3 (by omega)
    obtain ⟨h3, c1, c2, c3, c4, c5, c6, c7, c8⟩ := s_17a (K2 := l_17_2 (r + 1 + m)) (K := l_17_24 (l_17_2 (r + 1 + m)) (m' + 2)) (an := 1) hW hg4 (by omega) (by omega) t2 tw2 (show 1 < 8 by omega) (by rw [(oth _ (by omega)).1]; exact (v3 _ (by omega)).1) (by rw [(oth _ (by omega)).2]; exact (v3 _ (by omega)).2) y23 y24 y25
    have t3 := t2.fg c2
    have tw3 := tw2.fz c2
    have cl : (if canB X d g 1 = true then 1 ||| 2 ^ 1 else 1) < 8 := by split <;> decide
    obtain ⟨h4, d1, d2, d3, d4, d5, d6, d7, d8⟩ := s_17a (K2 := l_17_2 (r + 1 + m)) (K := l_17_24 (l_17_2 (r + 1 + m)) (m' + 1)) (an := 2) hW hg4 (by omega) (by omega) t3 tw3 cl (by rw [(c5 _ (by omega)).1, (oth _ (by omega)).1]; exact (v3 _ (by omega)).1) (by rw [(c5 _ (by omega)).2, (oth _ (by omega)).2]; exact (v3 _ (by omega)).2) c6 c7 c8
    have zz : Fz (ZG p g) h h4 := z1.then (z2.then (c2.then d2))
    have t4 := t.fg zz
    have tw4 := tw.fz zz
    obtain ⟨o1, o2⟩ := ZG_J bb.2.2 zz
    have tv4 : TV h4 p X d (g + 1) := by
      refine ⟨fun e a he ha => ?_, fun e he => ?_, fun j hj => ?_, fun j hj => ?_⟩
      · by_cases eg : e = g
        · subst eg
          rcases (show a = 0 ∨ a = 1 ∨ a = 2 by omega) with ea | ea | ea <;> subst ea
          · rw [(d5 _ (by omega)).1, (d5 _ (by omega)).2, (c5 _ (by omega)).1, (c5 _ (by omega)).2]
            exact ⟨b3, b4⟩
          · rw [(d5 _ (by omega)).1, (d5 _ (by omega)).2]
            exact ⟨c3, c4⟩
          · exact ⟨d3, d4⟩
        · rw [(o1 _ (by omega)).1, (o1 _ (by omega)).2]
          exact v1 e a (by omega) ha
      · by_cases eg : e = g
        · subst eg
          rw [d6, d7, d8]
          refine ⟨?_, ?_, ?_⟩
          · unfold swL swp
            rw [loM_a, Nat.zero_or]
          · unfold swH swp
            rw [hiM_a, Nat.zero_or]
          · unfold canM
            cases canB X d e 1 <;> cases canB X d e 2 <;> rfl
        · rw [(o2 e eg).1, (o2 e eg).2.1, (o2 e eg).2.2]
          exact v2 e (by omega)
      · rw [(o1 j (by omega)).1, (o1 j (by omega)).2]
        exact v3 j (by omega)
      · rw [(o2 j (by omega)).1, (o2 j (by omega)).2.1]
        exact v4 j (by omega)
    obtain ⟨h5, e1, e2, e3⟩ := ih (g + 1) m h4 (by omega) t4 tw4 tv4
    refine ⟨h5, ?_, (zz.wid (ZG_w bb.2.2)).then e2, e3⟩
    rw [← e1, show r + 1 + 1 + m = (r + 1 + m) + 1 by omega, l_17_2, b_17_2, if_neg (by rw [nI_leI (by omega) (by omega)]; omega), b_17_7, gQ_e t.1, Option.bind_some, tw.1.2.2, wI_n tw.2.2.2.1 (by omega) tw.2.2.2.2 hg4 (by omega), Option.bind_some, x1, rC_e t1.1 (by omega), grd_e, Option.bind_some, b1, Option.bind_some, bnd_e]
    dsimp only
    rw [hm, show 3 + m' = (m' + 2) + 1 by omega, l_17_24, c1, l_17_24, d1, l_17_24, b_17_24, if_pos (by rw [nI_leI (by omega) (by omega)]; omega), b_17_95, bnd_e, nI_add]
theorem s_17 {h : Hp} (hW : WF X) (t : TC h p a X d) (s : SD h p) : ∃ g', f_17 (some p) (some a) h = some g' ∧ Fz (ZD p) h g' ∧ TV g' p X d 4 := by
  obtain ⟨m, hm⟩ := FU_ge (4 + 1) (by omega)
  rw [f_17, b_17_0, bnd_e, hm]
  refine l_17 hW 4 0 m h (by omega) t ⟨⟨s.1.2.2.2.1, s.1.2.2.2.2.1, s.1.2.2.2.2.2⟩, s.2.1.2.2.1, s.2.1.2.2.2.1, s.2.1.2.2.2.2⟩ ⟨fun e a he _ => absurd he (by omega), fun e he => absurd he (by omega), fun j _ => ⟨(s.2.2 j).1, (s.2.2 j).2.1⟩, fun j _ => ⟨(s.2.2 j).2.2.1, (s.2.2 j).2.2.2.1⟩⟩
end TRACE4
