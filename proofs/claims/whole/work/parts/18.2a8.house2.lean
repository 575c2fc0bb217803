/-! the house made and read -/
theorem HK.hor {τ : Nat → Nat} {h : Hp} {b : Nat} {X : Nat → Nat} (hb : 98 ≤ b) (H : HK h b X (X 2)) (hτ : ∀ q, b + 1 ≤ q → q < b + 5 + 6 * X 2 → τ q = 1) : HoR τ h (b + 1) X := by
  obtain ⟨n1, n2, n3, n4, n5⟩ := H
  have ar : ∀ p k q ar n, hQ h p k = some q → hK h q = ar → hL h q = n → b + 1 ≤ q → q < b + 5 + 6 * X 2 → ArT τ h p k ar n ∧ rq h p k = q := by
    intro p k q ar n h1 h2 h3 h4 h5
    have e : rq h p k = q := by unfold rq; rw [h1]; rfl
    refine ⟨?_, e⟩
    unfold ArT
    rw [e]
    exact ⟨h1, h2, h3, by omega, hτ q h4 h5⟩
  have a0 := ar (b + 1) 0 (b + 2) 12 100 n1.2.1.2.1 n1.2.2.1.1 n1.2.2.1.2 (by omega) (by omega)
  have a1 := ar (b + 1) 1 (b + 3) 16 10 n1.2.1.2.2.1 n1.2.2.2.1.1 n1.2.2.2.1.2 (by omega) (by omega)
  have a2 := ar (b + 1) 2 (b + 4) 12 18 n1.2.1.2.2.2 n1.2.2.2.2.1 n1.2.2.2.2.2 (by omega) (by omega)
  refine ⟨n1.2.1.1, by omega, hτ _ (by omega) (by omega), a0.1, a1.1, a2.1, ⟨n2.1, n2.2.1, n2.2.2.1, n2.2.2.2.1, n2.2.2.2.2.1⟩, by rw [a0.2]; exact n3, fun d hd => ?_, by rw [a2.2]; exact n5⟩
  obtain ⟨c1, ⟨s1, s2, s3, s4⟩, c3, c4⟩ := n4 d hd
  have tv := c3 hd
  rw [a1.2]
  have e : rq h (b + 3) d = b + 5 + 6 * d := by unfold rq; rw [c1]; rfl
  rw [e]
  refine ⟨c1, ?_⟩
  have d0 := ar (b + 5 + 6 * d) 0 _ 13 12 s1.2.1 s2.1.1 s2.1.2 (by omega) (by omega)
  have d1 := ar (b + 5 + 6 * d) 1 _ 13 12 s1.2.2.1 s2.2.1.1 s2.2.1.2 (by omega) (by omega)
  have d2 := ar (b + 5 + 6 * d) 2 _ 13 4 s1.2.2.2.1 s2.2.2.1.1 s2.2.2.1.2 (by omega) (by omega)
  have d3 := ar (b + 5 + 6 * d) 3 _ 13 4 s1.2.2.2.2.1 s2.2.2.2.1.1 s2.2.2.2.1.2 (by omega) (by omega)
  have d4 := ar (b + 5 + 6 * d) 4 _ 12 4 s1.2.2.2.2.2 s2.2.2.2.2.1 s2.2.2.2.2.2 (by omega) (by omega)
  have iv : ∀ j i, j = 104 + i + 10 * d → 6 ≤ i → i < 14 → hI h (b + 5 + 6 * d) i = nI (X j) := fun j i e h1 h2 => by rw [e]; exact s4 i h1 h2
  refine ⟨s1.1, by omega, hτ _ (by omega) (by omega), d0.1, d1.1, d2.1, d3.1, d4.1, ⟨iv _ 6 (by omega) (by omega) (by omega), iv _ 7 (by omega) (by omega) (by omega), iv _ 8 (by omega) (by omega) (by omega), iv _ 9 (by omega) (by omega) (by omega), iv _ 11 (by omega) (by omega) (by omega), iv _ 12 (by omega) (by omega) (by omega), iv _ 13 (by omega) (by omega) (by omega)⟩, ?_, ?_⟩
  · intro g a hg ha
    rw [d0.2, d1.2]
    exact tv.1 g a hg ha
  · intro g hg
    rw [d2.2, d3.2, d4.2]
    exact tv.2.1 g hg
theorem HK.nm {h : Hp} {b : Nat} {X : Nat → Nat} (H : HK h b X (X 2)) (h10 : X 2 ≤ 10) : NmH h (b + 1) (X 2) (fun d => X (1000 + d)) := by
  obtain ⟨n1, n2, n3, n4, n5⟩ := H
  refine ⟨n1.2.1.1, n2.2.2.1, h10, b + 3, n1.2.1.2.2.1, n1.2.2.2.1.1, n1.2.2.2.1.2, fun d hd => ?_⟩
  obtain ⟨a1, ⟨s1, s2, ⟨w, a3, a4⟩, s4⟩, _⟩ := n4 d hd
  exact ⟨b + 5 + 6 * d, w, a1, s1.1, a3, a4⟩
def X0 : Nat → Nat := fun _ => 0
theorem WF_X0 : WF X0 := by
  refine ⟨Nat.zero_le _, Nat.zero_le _, Nat.zero_le _, Nat.zero_le _, Nat.zero_le _, fun c _ => ⟨Nat.zero_le _, Nat.le_refl _⟩, fun d hd => absurd hd (Nat.not_lt_zero d), fun c d _ h => absurd h (Nat.succ_ne_zero d).symm, fun i hi => absurd hi (Nat.not_lt_zero i)⟩
theorem s_55 {h : Hp} {b : Nat} (hb : hN h = b) (h98 : 98 ≤ b) : ∃ g, f_55 (some b) (some 31) (hNew h 5 0 (bd_nf 5)) = some g ∧ CN g b X0 (cellV X0) ∧ Ab (fun a => a < b) h g ∧ hN g = b + 5 ∧ hC g = hC h + 5 ∧ hS g = hS h + 139 ∧ Fa [] h g := by
  generalize e0 : hNew h 5 0 (bd_nf 5) = g0
  generalize e1 : hNew g0 4 0 (bd_nf 4) = g1
  generalize e2 : hNew g1 12 100 100 = g2
  generalize e3 : sQ g2 (b + 1) 0 (some (hN g1)) = g3
  generalize e4 : hNew g3 16 10 10 = g4
  generalize e5 : sQ g4 (b + 1) 1 (some (hN g3)) = g5
  generalize e6 : hNew g5 12 18 18 = g6
  generalize e7 : sQ g6 (b + 1) 2 (some (hN g5)) = g7
  generalize e8 : sI g7 (b + 1) 7 (-1) = g8
  generalize e9 : sQ g8 b 1 (some (b + 1)) = g9
  generalize e10 : sQ g9 b 0 (some 31) = g10
  have N0 : hN g0 = b + 1 := by rw [← e0, hN_new, hb]
  have N1 : hN g1 = b + 2 := by rw [← e1, hN_new, N0]
  have N3 : hN g3 = b + 3 := by rw [← e3, hN_sQ, ← e2, hN_new, N1]
  have N5 : hN g5 = b + 4 := by rw [← e5, hN_sQ, ← e4, hN_new, N3]
  have N10 : hN g10 = b + 5 := by rw [← e10, hN_sQ, ← e9, hN_sQ, ← e8, hN_sI, ← e7, hN_sQ, ← e6, hN_new, N5]
  have K10 : ∀ a, hK g10 a = if a = b + 4 then 12 else if a = b + 3 then 16 else if a = b + 2 then 12 else if a = b + 1 then 4 else if a = b then 5 else hK h a := fun a => by
    rw [← e10, hK_sQ, ← e9, hK_sQ, ← e8, hK_sI, ← e7, hK_sQ, ← e6, hK_new, N5, ← e5, hK_sQ, ← e4, hK_new, N3, ← e3, hK_sQ, ← e2, hK_new, N1, ← e1, hK_new, N0, ← e0, hK_new, hb]
  have L10 : ∀ a, hL g10 a = if a = b + 4 then 18 else if a = b + 3 then 10 else if a = b + 2 then 100 else if a = b + 1 then 0 else if a = b then 0 else hL h a := fun a => by
    rw [← e10, hL_sQ, ← e9, hL_sQ, ← e8, hL_sI, ← e7, hL_sQ, ← e6, hL_new, N5, ← e5, hL_sQ, ← e4, hL_new, N3, ← e3, hL_sQ, ← e2, hL_new, N1, ← e1, hL_new, N0, ← e0, hL_new, hb]
  have J10 : ∀ a, hJ g10 a = if a = b + 4 then (fun _ => 0) else if a = b + 3 then (fun _ => 0) else if a = b + 2 then (fun _ => 0) else if a = b + 1 then (fun _ => 0) else if a = b then (fun _ => 0) else hJ h a := fun a => by
    rw [← e10, hJ_sQ, ← e9, hJ_sQ, ← e8, hJ_sI, ← e7, hJ_sQ, ← e6, hJ_new, N5, ← e5, hJ_sQ, ← e4, hJ_new, N3, ← e3, hJ_sQ, ← e2, hJ_new, N1, ← e1, hJ_new, N0, ← e0, hJ_new, hb]
  have I7 : ∀ a, hI g7 a = if a = b + 4 then (fun _ => 0) else if a = b + 3 then (fun _ => 0) else if a = b + 2 then (fun _ => 0) else if a = b + 1 then (fun _ => 0) else if a = b then (fun _ => 0) else hI h a := fun a => by
    rw [← e7, hI_sQ, ← e6, hI_new, N5, ← e5, hI_sQ, ← e4, hI_new, N3, ← e3, hI_sQ, ← e2, hI_new, N1, ← e1, hI_new, N0, ← e0, hI_new, hb]
  have I10 : ∀ a j, hI g10 a j = if a = b + 1 ∧ j = 7 then -1 else hI g7 a j := fun a j => by rw [← e10, hI_sQ, ← e9, hI_sQ, ← e8, hI_sI]
  have qn : ∀ (g : Hp) (c n s p : Nat), p < hN g → hQ (hNew g c n s) p = hQ g p := fun g c n s p hp => by rw [hQ_new, if_neg (by omega)]
  have Q10 : ∀ p j, p ≤ b + 1 → hQ g10 p j = if p = b ∧ j = 0 then some 31 else if p = b ∧ j = 1 then some (b + 1) else if p = b + 1 ∧ j = 2 then some (b + 4) else if p = b + 1 ∧ j = 1 then some (b + 3) else if p = b + 1 ∧ j = 0 then some (b + 2) else hQ g1 p j := fun p j hp => by
    rw [← e10, hQ_sQ, ← e9, hQ_sQ, ← e8, hQ_sI, ← e7, hQ_sQ, N5, ← e6, qn _ _ _ _ _ (by omega), ← e5, hQ_sQ, N3, ← e4, qn _ _ _ _ _ (by omega), ← e3, hQ_sQ, N1, ← e2, qn _ _ _ _ _ (by omega)]
  have k2 : hK g2 (b + 1) = 4 := by rw [← e2, hK_new, N1, if_neg (by omega), ← e1, hK_new, N0, if_pos rfl]
  have k4 : hK g4 (b + 1) = 4 := by rw [← e4, hK_new, N3, if_neg (by omega), ← e3, hK_sQ]; exact k2
  have k6 : hK g6 (b + 1) = 4 := by rw [← e6, hK_new, N5, if_neg (by omega), ← e5, hK_sQ]; exact k4
  have k7 : hK g7 (b + 1) = 4 := by rw [← e7, hK_sQ]; exact k6
  have k8 : hK g8 b = 5 := by rw [← e8, hK_sI, ← e7, hK_sQ, ← e6, hK_new, N5, if_neg (by omega), ← e5, hK_sQ, ← e4, hK_new, N3, if_neg (by omega), ← e3, hK_sQ, ← e2, hK_new, N1, if_neg (by omega), ← e1, hK_new, N0, if_neg (by omega), ← e0, hK_new, hb, if_pos rfl]
  have k9 : hK g9 b = 5 := by rw [← e9, hK_sQ]; exact k8
  have f1 : Fa [] h g1 := (show Fa [] h g0 by rw [← e0]; exact Fa.new).then (by rw [← e1]; exact Fa.new)
  have f3 : Fa [] h g3 := by rw [← e3]; exact (f1.then (by rw [← e2]; exact Fa.new)).sQ (Or.inr (Or.inr (by omega)))
  have f5 : Fa [] h g5 := by rw [← e5]; exact (f3.then (by rw [← e4]; exact Fa.new)).sQ (Or.inr (Or.inr (by omega)))
  have f7 : Fa [] h g7 := by rw [← e7]; exact (f5.then (by rw [← e6]; exact Fa.new)).sQ (Or.inr (Or.inr (by omega)))
  have f8 : Fa [] h g8 := by rw [← e8]; exact f7.sI (Or.inr (Or.inr (by omega)))
  have f9 : Fa [] h g9 := by rw [← e9]; exact f8.sQ (Or.inr (Or.inr (by omega)))
  have f10 : Fa [] h g10 := by rw [← e10]; exact f9.sQ (Or.inr (Or.inr (by omega)))
  have iz : ∀ a j, b ≤ a → a ≤ b + 4 → ¬ (a = b + 1 ∧ j = 7) → hI g10 a j = nI 0 := fun a j h1 h2 h3 => by
    rw [I10, if_neg h3, I7]
    by_cases c4 : a = b + 4
    · rw [if_pos c4]; rfl
    · by_cases c3 : a = b + 3
      · rw [if_neg c4, if_pos c3]; rfl
      · by_cases c2 : a = b + 2
        · rw [if_neg c4, if_neg c3, if_pos c2]; rfl
        · by_cases c1 : a = b + 1
          · rw [if_neg c4, if_neg c3, if_neg c2, if_pos c1]; rfl
          · rw [if_neg c4, if_neg c3, if_neg c2, if_neg c1, if_pos (by omega)]; rfl
  refine ⟨g10, ?_, ⟨⟨⟨?_, ?_, ?_⟩, ⟨?_, ?_, ?_, ?_⟩, ⟨?_, ?_⟩, ⟨?_, ?_⟩, ?_, ?_⟩, ⟨iz _ _ (by omega) (by omega) (by omega), iz _ _ (by omega) (by omega) (by omega), iz _ _ (by omega) (by omega) (by omega), iz _ _ (by omega) (by omega) (by omega), ?_, iz _ _ (by omega) (by omega) (by omega)⟩, fun c _ => iz _ _ (by omega) (by omega) (by omega), fun d hd => absurd hd (Nat.not_lt_zero d), fun i hi => absurd hi (Nat.not_lt_zero i)⟩, fun a ha => ⟨?_, ?_, ?_, ?_, ?_⟩, N10, ?_, ?_, f10⟩
  · have u2 : nA 12 (nI 100) g1 = some g2 := by rw [nA_e (by omega) (by omega), e2]
    have u4 : nA 16 (nI 10) g3 = some g4 := by rw [nA_e (by omega) (by omega), e4]
    have u6 : nA 12 (nI 18) g5 = some g6 := by rw [nA_e (by omega) (by omega), e6]
    have u3 : pQ 4 0 (some (b + 1)) (some (hN g1)) g2 = some g3 := by rw [pQ_e k2 (by omega), e3]
    have u5 : pQ 4 1 (some (b + 1)) (some (hN g3)) g4 = some g5 := by rw [pQ_e k4 (by omega), e5]
    have u7 : pQ 4 2 (some (b + 1)) (some (hN g5)) g6 = some g7 := by rw [pQ_e k6 (by omega), e7]
    have u8 : pI 4 7 (some (b + 1)) (-1) g7 = some g8 := by rw [pI_e k7 (by omega), e8]
    have u9 : pQ 5 1 (some b) (some (b + 1)) g8 = some g9 := by rw [pQ_e k8 (by omega), e9]
    have u10 : pQ 5 0 (some b) (some 31) g9 = some g10 := by rw [pQ_e k9 (by omega), e10]
    have f49 : f_49 (some (b + 1)) g1 = some g8 := by
      rw [f_49, b_49_0]
      simp only [Option.isSome_some, grd_e, Option.bind_some, u2, u3, u4, u5, u6, u7, u8]
    rw [f_55, b_55_0, N0]
    simp only [Option.isSome_some, grd_e, Option.bind_some, bnd_e, e1, f49, u9, u10]
  · rw [K10, if_neg (by omega), if_neg (by omega), if_neg (by omega), if_neg (by omega), if_pos rfl]
  · rw [Q10 _ _ (by omega), if_pos ⟨rfl, rfl⟩]
  · rw [Q10 _ _ (by omega), if_neg (by omega), if_pos ⟨rfl, rfl⟩]
  · rw [K10, if_neg (by omega), if_neg (by omega), if_neg (by omega), if_pos rfl]
  · rw [Q10 _ _ (by omega), if_neg (by omega), if_neg (by omega), if_neg (by omega), if_neg (by omega), if_pos ⟨rfl, rfl⟩]
  · rw [Q10 _ _ (by omega), if_neg (by omega), if_neg (by omega), if_neg (by omega), if_pos ⟨rfl, rfl⟩]
  · rw [Q10 _ _ (by omega), if_neg (by omega), if_neg (by omega), if_pos ⟨rfl, rfl⟩]
  · rw [K10, if_neg (by omega), if_neg (by omega), if_pos rfl]
  · rw [L10, if_neg (by omega), if_neg (by omega), if_pos rfl]
  · rw [K10, if_neg (by omega), if_pos rfl]
  · rw [L10, if_neg (by omega), if_pos rfl]
  · rw [K10, if_pos rfl]
  · rw [L10, if_pos rfl]
  · rw [I10, if_pos ⟨rfl, rfl⟩]; rfl
  · rw [K10, if_neg (by omega), if_neg (by omega), if_neg (by omega), if_neg (by omega), if_neg (by omega)]
  · rw [L10, if_neg (by omega), if_neg (by omega), if_neg (by omega), if_neg (by omega), if_neg (by omega)]
  · funext j
    rw [I10, if_neg (by omega), I7, if_neg (by omega), if_neg (by omega), if_neg (by omega), if_neg (by omega), if_neg (by omega)]
  · rw [J10, if_neg (by omega), if_neg (by omega), if_neg (by omega), if_neg (by omega), if_neg (by omega)]
  · funext j
    rw [Q10 _ _ (by omega), if_neg (by omega), if_neg (by omega), if_neg (by omega), if_neg (by omega), if_neg (by omega), ← e1, hQ_new, if_neg (by omega), ← e0, hQ_new, if_neg (by omega)]
  · rw [← e10, hC_sQ, ← e9, hC_sQ, ← e8, hC_sI, ← e7, hC_sQ, ← e6, hC_new, ← e5, hC_sQ, ← e4, hC_new, ← e3, hC_sQ, ← e2, hC_new, ← e1, hC_new, ← e0, hC_new]
  · rw [← e10, hS_sQ, ← e9, hS_sQ, ← e8, hS_sI, ← e7, hS_sQ, ← e6, hS_new, ← e5, hS_sQ, ← e4, hS_new, ← e3, hS_sQ, ← e2, hS_new, ← e1, hS_new, ← e0, hS_new]
    rfl
/-- both together: read from the text T, sz -/
theorem s_56 {T : Nat → Nat} {sz b : Nat} {h : Hp} (hF : Fix h) (hb : hN h = b) (hb2 : b + 200 ≤ 1000000) (h1 : hI h 31 1 = nI sz) (hs : sz ≤ 940) (ht : ∀ i, i < sz → hI h 32 i = nI (T i) ∧ T i < 256) :
    ∃ g1 g x, f_55 (some b) (some 31) (hNew h 5 0 (bd_nf 5)) = some g1 ∧ rC 5 (some b) g1 = true ∧ f_56 (some b) g1 = some (x, g) ∧
      (∀ k a, hsR T sz 900 (sz + 1) 0 X0 0 = .error (k, a) → x = none ∧ ER h g b k a) ∧
      (∀ n' Y, hsR T sz 900 (sz + 1) 0 X0 0 = .ok (n', Y) → x = some (b + 1) ∧ HK g b Y (Y 2) ∧ FR h g b (Y 2) ∧ Fix g ∧ WF Y ∧ hI g (b + 1) 8 = nI n' ∧ n' ≤ 500 ∧ hI g 31 6 = nI 0) := by
  have h98 : 98 ≤ b := by have := hF.1; omega
  obtain ⟨g1, a1, a2, a3, a4, a5, a6, a7⟩ := s_55 hb h98
  have F1 : Fix g1 := a7.fix hF (by decide) (by decide)
  have e31 := a3 31 (by omega)
  have e32 := a3 32 (by omega)
  obtain ⟨g2, b1, b2, b3, b4⟩ := s_116 (T := T) (lim := 900) F1 (by rw [e31.2.2.1]; exact h1) hs (by omega) (fun i hi => by rw [e32.2.2.1]; exact ht i hi)
  have f2 : FR h g2 b 0 := ⟨(a7.wid (fun z hz => by cases hz)).then (b2.fa.wid (by decide)), hb, ⟨h98, hb2, b4⟩, by rw [b2.N]; omega, by rw [b2.C, b2.N]; omega, by rw [b2.S]; omega⟩
  have L2 : LnS T sz 900 h b g2 0 X0 := ⟨b3, a2.ab (Nat.zero_le _) (b2.ab (by decide) (fun a ha => by have : X0 2 = 0 := rfl; omega)), f2, Nat.zero_le _⟩
  obtain ⟨m, hm⟩ := FU_ge (sz + 1 + 1) (by omega)
  obtain ⟨c1, c2⟩ := l_56 (sz + 1) 0 X0 0 m g2 (by omega) (by omega) (by omega) WF_X0 rfl L2
  have hd : f_56 (some b) g1 = l_56_10 (sz + 1 + 1 + m) (some b) g2 := by rw [f_56, b_56_0, q50 a2.1, Option.bind_some, rC31 F1, grd_e, Option.bind_some, b1, Option.bind_some, hm]
  have rc : rC 5 (some b) g1 = true := rC_e a2.1.1.1 (by omega)
  cases hr : hsR T sz 900 (sz + 1) 0 X0 0 with
  | error e =>
    obtain ⟨k, a⟩ := e
    obtain ⟨g, d1, d2⟩ := c1 k a hr
    refine ⟨g1, g, none, a1, rc, by rw [hd]; exact d1, fun k' a' e => ?_, fun n' Y e => (by cases e)⟩
    injection e with e
    injection e with e1 e2
    subst e1 e2
    exact ⟨rfl, d2⟩
  | ok e =>
    obtain ⟨n, Y⟩ := e
    obtain ⟨g, d1, d2, d3, d4, d5, d6, d7⟩ := c2 n Y hr
    refine ⟨g1, g, some (b + 1), a1, rc, by rw [hd]; exact d1, fun k' a' e => (by cases e), fun n' Y' e => ?_⟩
    injection e with e
    injection e with e1 e2
    subst e1 e2
    exact ⟨rfl, d2, d3, d4, d5, by rw [d2.2.1.2.2.2.2.2, d6], d7, d3.2.2.1.2.2⟩
