/-! day, sentence, said of the class -/
theorem rqs {h : Hp} {p k q : Nat} (e : hQ h p k = some q) : rq h p k = q := by unfold rq; rw [e]; rfl
theorem art_e {τ : Nat → Nat} {h : Hp} {p k ar n q : Nat} (e : hQ h p k = some q) (hk : hK h q = ar) (hl : hL h q = n) (hq : 30 ≤ q) (ht : τ q = 1) : ArT τ h p k ar n := by
  unfold ArT
  rw [rqs e]
  exact ⟨e, hk, hl, hq, ht⟩
section DAYC
variable {τ : Nat → Nat} {h : Hp} {E N T : Nat → Nat} {an : Nat → Nat} {pl sz : Nat}
theorem s_157 (hF : Fix h) (hT : TG τ) (hN' : ∀ q, τ q = 1 → q < hN h) (hb2 : hN h + 200 ≤ 1000000) (h1 : hI h 31 1 = nI sz) (hs : sz ≤ 940) (ht : ∀ i, i < sz → hI h 32 i = nI (T i) ∧ T i < 256) (hR : ScR τ h 33 E an pl) (hn : NmT τ h (rq h 33 2) (E 2) N) :
    (∀ k e, dyA T sz 600 N (E 2) (sz + 1) 0 X0 = .error (k, e) → ∃ g, f_157 (some 30) h = some (-1 - nI e, g) ∧ Rf h g k) ∧
    (∀ q Y, dyA T sz 600 N (E 2) (sz + 1) 0 X0 = .ok (q, Y) → ∃ g, f_157 (some 30) h = some (nI (Y 900), g) ∧ Fix g ∧ Fa (Ze ++ [12000030]) h g ∧ (hC g ≤ hC h + 100 ∧ hS g ≤ hS h + 1500) ∧ hN g = hN h + 3 ∧ hI g 31 6 = nI 0 ∧ hI g 31 1 = nI 0 ∧ hQ g 30 11 = some (hN h) ∧ DyR (tgx τ (hN h) (hN h + 3) 1) g (hN h) (dyX E Y) ∧ DX (E 2) Y) := by
  obtain ⟨q3, r3⟩ := ask33 hF hR
  have n98 := hF.1
  obtain ⟨g, x, a1, a2, a3⟩ := s_1 (T := T) (N := N) (ne := E 2) (a := rq h 33 2) (b := hN h) hF rfl hb2 h1 hs ht (hn.b hT hN')
  have hd : Fix g → f_157 (some 30) h = if ¬ x = none then b_157_37 (some 30) x (sI g 31 1 (nI 0)) else b_157_27 (some 30) (sI g 31 1 (nI 0)) := fun hf => by
    rw [f_157, b_157_0, gQ30_0 hF, Option.bind_some, gQ30_1 hF, Option.bind_some, q3, Option.bind_some, a1, Option.bind_some, bnd_e]
    dsimp only
    rw [gQ30_0 hf, Option.bind_some, pI31 hf, Option.bind_some]
  constructor
  · intro k e he
    obtain ⟨rfl, er⟩ := a2 k e he
    obtain ⟨r1, r2⟩ := er.rf
    refine ⟨sI g 31 1 (nI 0), ?_, r1⟩
    rw [hd er.1, if_neg (fun z => z rfl), b_157_27, gQ30_0 r1.1, Option.bind_some, gI31 r1.1, Option.bind_some, r2]
  · intro q Y hY
    obtain ⟨rfl, ⟨ct, ⟨fa, _, ⟨_, _, i6⟩, fN, fC, fS⟩, ⟨⟨d0, d1, d2, ⟨d3, d4⟩, d5, d6⟩, d7, d8⟩, dn, _⟩, dx⟩ := a3 q Y hY
    have Fg := ct.1
    generalize x2 : sI g 31 1 (nI 0) = g2
    generalize x3 : sQ g2 30 11 (some (hN h)) = g3
    have F2 : Fix g2 := by rw [← x2]; exact fx_sI Fg (by omega)
    have f2 : Fa (Ze ++ [12000030]) g g2 := by rw [← x2]; exact Fa.sI Fa.rfl' (Or.inr (Or.inl (by decide)))
    have f3 : Fa (Ze ++ [12000030]) g2 g3 := by rw [← x3]; exact Fa.sQ Fa.rfl' (Or.inr (Or.inl (by decide)))
    have F3 : Fix g3 := f3.fix F2 (by decide) (by decide)
    have K3 : hK g3 = hK g := by rw [← x3, ← x2]; rfl
    have L3 : hL g3 = hL g := by rw [← x3, ← x2]; rfl
    have N3 : hN g3 = hN g ∧ hC g3 = hC g ∧ hS g3 = hS g := by rw [← x3, ← x2]; exact ⟨rfl, rfl, rfl⟩
    have I3 : ∀ p, p ≠ 31 → hI g3 p = hI g p := fun p hp => funext fun j => by rw [← x3, hI_sQ, ← x2, hI_sI, if_neg (fun z => hp z.1)]
    have Q3 : ∀ p, p ≠ 30 → hQ g3 p = hQ g p := fun p hp => funext fun j => by rw [← x3, hQ_sQ, if_neg (fun z => hp z.1), ← x2, hQ_sI]
    have e341 : dyX E Y 341 = Y 900 := by unfold dyX; rw [if_pos rfl]
    have q0 : hQ g3 (hN h) 0 = some (hN h + 1) := by rw [Q3 _ (by omega)]; exact d1
    have q1 : hQ g3 (hN h) 1 = some (hN h + 2) := by rw [Q3 _ (by omega)]; exact d2
    refine ⟨g3, ?_, F3, (fa.wid (by decide)).then (f2.then f3), ⟨by omega, by omega⟩, by omega, ?_, ?_, ?_, ⟨by rw [K3]; exact d0, by omega, tgx_in (by omega) (by omega), art_e q0 (by rw [K3]; exact d3) (by rw [L3]; exact d4) (by omega) (tgx_in (by omega) (by omega)), art_e q1 (by rw [K3]; exact d5) (by rw [L3]; exact d6) (by omega) (tgx_in (by omega) (by omega)), by rw [I3 _ (by omega), e341]; exact dn, fun i hi => ?_⟩, dx⟩
    · rw [hd Fg, if_pos (fun z => by cases z), x2, b_157_37, pQ30 F2, Option.bind_some, x3, gI_e (by rw [K3]; exact d0), Option.bind_some, I3 _ (by omega), dn]
    · rw [← x3, hI_sQ, ← x2, hI_sI, if_neg (by omega)]; exact i6
    · rw [← x3, hI_sQ, ← x2, hI_sI, if_pos ⟨rfl, rfl⟩]
    · rw [← x3, hQ_sQ, if_pos ⟨rfl, rfl⟩]
    · rw [e341] at hi
      have u1 : dyX E Y (342 + 2 * i) = Y (2 * i) := by unfold dyX; rw [if_neg (by omega), if_pos (by omega), show 342 + 2 * i - 342 = 2 * i by omega]
      have u2 : dyX E Y (343 + 2 * i) = Y (2 * i + 1) := by unfold dyX; rw [if_neg (by omega), if_pos (by omega), show 343 + 2 * i - 342 = 2 * i + 1 by omega]
      unfold tmD
      rw [rqs q0, rqs q1, u1, u2, I3 _ (by omega), I3 _ (by omega)]
      exact d7 i hi
theorem s_167 (hF : Fix h) (hT : TG τ) (hN' : ∀ q, τ q = 1 → q < hN h) (hb2 : hN h + 200 ≤ 1000000) (h1 : hI h 31 1 = nI sz) (hs : sz ≤ 940) (ht : ∀ i, i < sz → hI h 32 i = nI (T i) ∧ T i < 256) (hR : ScR τ h 33 E an pl) (hn : NmT τ h (rq h 33 2) (E 2) N) :
    (∀ k e, snP T sz 200 N (E 2) 0 X0 = .error (k, e) → ∃ g, f_167 (some 30) h = some (-1 - nI e, g) ∧ Rf h g k) ∧
    (∀ q Y, snP T sz 200 N (E 2) 0 X0 = .ok (q, Y) → ∃ g, f_167 (some 30) h = some (nI (Y 901), g) ∧ Fix g ∧ Fa (Ze ++ [13000030]) h g ∧ (hC g ≤ hC h + 100 ∧ hS g ≤ hS h + 1500) ∧ hN g = hN h + 4 ∧ hI g 31 6 = nI 0 ∧ hI g 31 1 = nI 0 ∧ hQ g 30 12 = some (hN h) ∧ SnC g (hN h) Y ∧ PS (E 2) X0 Y) := by
  obtain ⟨q3, r3⟩ := ask33 hF hR
  have n98 := hF.1
  have ta := hn.1.1
  have a9 := hT _ ta
  have an' := hN' _ ta
  obtain ⟨g1, g, x, a1, a2, a3, F1, a4, a5, a6⟩ := s_101 (T := T) (N := N) (ne := E 2) (a := rq h 33 2) (b := hN h) hF rfl hb2 h1 hs ht (hn.b hT hN')
  have q31 : gQ 7 2 (some 33) g1 = some (some (rq h 33 2)) := by rw [gR33 F1, (a3 33 (by show 33 < hN h; omega)).2.2.2.2]; rw [gR33 hF] at q3; exact q3
  have hd : Fix g → f_167 (some 30) h = if ¬ x = none then b_167_44 (some 30) x (sI g 31 1 (nI 0)) else b_167_34 (some 30) (sI g 31 1 (nI 0)) := fun hf => by
    rw [f_167, b_167_0, bnd_e, Option.isSome_some, grd_e, Option.bind_some, a1, Option.bind_some, gQ30_0 F1, Option.bind_some, gQ30_1 F1, Option.bind_some, q31, Option.bind_some, a2, grd_e, Option.bind_some, a4, Option.bind_some, bnd_e]
    dsimp only
    rw [gQ30_0 hf, Option.bind_some, pI31 hf, Option.bind_some]
  constructor
  · intro k e he
    obtain ⟨rfl, er⟩ := a5 k e he
    obtain ⟨r1, r2⟩ := er.rf
    refine ⟨sI g 31 1 (nI 0), ?_, r1⟩
    rw [hd er.1, if_neg (fun z => z rfl), b_167_34, gQ30_0 r1.1, Option.bind_some, gI31 r1.1, Option.bind_some, r2]
  · intro q Y hY
    obtain ⟨rfl, ⟨ct, ⟨fa, _, ⟨_, _, i6⟩, fN, fC, fS⟩, ⟨⟨u0, u1, u2, u3, ⟨u4, u5⟩, ⟨u6, u7⟩, u8, u9⟩, ⟨v0, v1⟩, v2⟩, _⟩, ps⟩ := a6 q Y hY
    have Fg := ct.1
    generalize x2 : sI g 31 1 (nI 0) = g2
    generalize x3 : sQ g2 30 12 (some (hN h)) = g3
    have F2 : Fix g2 := by rw [← x2]; exact fx_sI Fg (by omega)
    have f2 : Fa (Ze ++ [13000030]) g g2 := by rw [← x2]; exact Fa.sI Fa.rfl' (Or.inr (Or.inl (by decide)))
    have f3 : Fa (Ze ++ [13000030]) g2 g3 := by rw [← x3]; exact Fa.sQ Fa.rfl' (Or.inr (Or.inl (by decide)))
    have F3 : Fix g3 := f3.fix F2 (by decide) (by decide)
    have K3 : hK g3 = hK g := by rw [← x3, ← x2]; rfl
    have L3 : hL g3 = hL g := by rw [← x3, ← x2]; rfl
    have N3 : hN g3 = hN g ∧ hC g3 = hC g ∧ hS g3 = hS g := by rw [← x3, ← x2]; exact ⟨rfl, rfl, rfl⟩
    have I3 : ∀ p, p ≠ 31 → hI g3 p = hI g p := fun p hp => funext fun j => by rw [← x3, hI_sQ, ← x2, hI_sI, if_neg (fun z => hp z.1)]
    have Q3 : ∀ p, p ≠ 30 → hQ g3 p = hQ g p := fun p hp => funext fun j => by rw [← x3, hQ_sQ, if_neg (fun z => hp z.1), ← x2, hQ_sI]
    refine ⟨g3, ?_, F3, (fa.wid (by decide)).then (f2.then f3), ⟨by omega, by omega⟩, by omega, ?_, ?_, ?_, ⟨⟨by rw [K3]; exact u0, by rw [Q3 _ (by omega)]; exact u1, by rw [Q3 _ (by omega)]; exact u2, by rw [Q3 _ (by omega)]; exact u3, ⟨by rw [K3]; exact u4, by rw [L3]; exact u5⟩, ⟨by rw [K3]; exact u6, by rw [L3]; exact u7⟩, by rw [K3]; exact u8, by rw [L3]; exact u9⟩, ⟨by rw [I3 _ (by omega)]; exact v0, by rw [I3 _ (by omega)]; exact v1⟩, fun i hi => by rw [I3 _ (by omega), I3 _ (by omega), I3 _ (by omega)]; exact v2 i hi⟩, ps⟩
    · rw [hd Fg, if_pos (fun z => by cases z), x2, b_167_44, pQ30 F2, Option.bind_some, x3, gI_e (by rw [K3]; exact u0), Option.bind_some, I3 _ (by omega), v1]
    · rw [← x3, hI_sQ, ← x2, hI_sI, if_neg (by omega)]; exact i6
    · rw [← x3, hI_sQ, ← x2, hI_sI, if_pos ⟨rfl, rfl⟩]
    · rw [← x3, hQ_sQ, if_pos ⟨rfl, rfl⟩]
/-- fuel for a tree -/
theorem WTn.lt {ne : Nat} {X : Nat → Nat} : ∀ n lo hi, WTn ne X n lo hi → lo < hi := by
  intro n
  induction n with
  | zero => intro lo hi z; cases z
  | succ n ih =>
    intro lo hi z
    rcases z with ⟨e, _⟩ | ⟨k, e, w, _⟩ | ⟨m, k, e, w1, w2, _⟩
    · omega
    · have := ih _ _ w; omega
    · have := ih _ _ w1; have := ih _ _ w2; omega
theorem WTn.fu {ne : Nat} {X : Nat → Nat} : ∀ n lo hi, WTn ne X n lo hi → ∀ f, hi - lo ≤ f → WTn ne X f lo hi := by
  intro n
  induction n with
  | zero => intro lo hi z; cases z
  | succ n ih =>
    intro lo hi z f hf
    have l0 := WTn.lt _ _ _ z
    obtain ⟨f', rfl⟩ : ∃ f', f = f' + 1 := ⟨f - 1, by omega⟩
    rcases z with ⟨e, q⟩ | ⟨k, e, w, q⟩ | ⟨m, k, e, w1, w2, q⟩
    · exact Or.inl ⟨e, q⟩
    · have := WTn.lt _ _ _ w
      exact Or.inr (Or.inl ⟨k, e, ih _ _ w f' (by omega), q⟩)
    · have := WTn.lt _ _ _ w1
      have := WTn.lt _ _ _ w2
      exact Or.inr (Or.inr ⟨m, k, e, ih _ _ w1 f' (by omega), ih _ _ w2 f' (by omega), q⟩)
theorem PS.wt {ne : Nat} {Y : Nat → Nat} (p : PS ne X0 Y) : WTn ne Y (Y 900) 0 (Y 900) ∧ Y 900 ≤ 40 ∧ Y 902 + 1 = Y 900 := by
  obtain ⟨⟨p1, p2, p3⟩, _, ⟨n, w⟩, p4⟩ := p
  have e1 : X0 901 = 0 := rfl
  have e2 : X0 900 = 0 := rfl
  rw [e2] at w
  exact ⟨WTn.fu n _ _ w _ (by omega), by omega, p4⟩
/-- said, both -/
theorem said2 (hF : Fix h) (hR : ScR τ h 33 E (anE E) (E 340)) (hW : WF E) (hV : VA E (anE E) (E 340)) (hS : SyQ τ h (hQ h 30 12) E) (hB : Bg h E) : ∃ r g, f_168 (some 30) h = some (r, h) ∧ f_298 (some 64) h = some (r, g) ∧ Fz Zw h g ∧ NowE g E ∧ hI g 64 22 = 1 := by
  rcases hS with ⟨q, e⟩ | ⟨p, q, e, h30, Y, t, sn, sa, ps⟩
  · obtain ⟨g, a1, a2, a3, a4, a5⟩ := (s_298 (Y := X0) hF hB hW hV).1 e
    refine ⟨-1, g, ?_, a1, a2, a3, a4⟩
    rw [f_168, b_168_0, gR30 hF, Option.bind_some, q, if_neg (fun z => z rfl), b_168_7, b_168_22]
  · obtain ⟨w1, w2, w3⟩ := ps.wt
    obtain ⟨g, a1, a2, a3, a4, a5⟩ := (s_298 (Y := Y) hF hB hW hV).2 e sa w1 w2 w3
    refine ⟨_, g, ?_, a1, a2, a3, a4⟩
    rw [f_168, b_168_0, gR30 hF, Option.bind_some, q, if_pos (fun z => by cases z), b_168_11, gR30 hF, Option.bind_some, gQ30_1 hF, Option.bind_some, q, rC_e sn.1.1 h30, grd_e, Option.bind_some, s_109 hF (Or.inl rfl) hR hW hV sn h30 w2 w1, Option.bind_some, b_168_22]
end DAYC
