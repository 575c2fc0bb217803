/-! the class reads a sentence, all of it -/
section SENE
variable {T : Nat → Nat} {sz lim : Nat} {N : Nat → Nat} {ne a : Nat}
theorem SX_0 : SX X0 := ⟨Nat.zero_le _, Nat.zero_le _⟩
theorem s_100 {h : Hp} {b : Nat} (hb : hN h = b) (h98 : 98 ≤ b) : ∃ g, f_100 (some b) (hNew h 8 0 (bd_nf 8)) = some g ∧ SnC g b X0 ∧ Ab (fun a => a < b) h g ∧ hN g = b + 4 ∧ hC g = hC h + 4 ∧ hS g = hS h + 125 ∧ Fa [] h g := by
  generalize e0 : hNew h 8 0 (bd_nf 8) = g0
  generalize e1 : hNew g0 12 40 40 = g1
  generalize e2 : sQ g1 b 0 (some (hN g0)) = g2
  generalize e3 : hNew g2 12 40 40 = g3
  generalize e4 : sQ g3 b 1 (some (hN g2)) = g4
  generalize e5 : hNew g4 12 40 40 = g5
  generalize e6 : sQ g5 b 2 (some (hN g4)) = g6
  have N0 : hN g0 = b + 1 := by rw [← e0, hN_new, hb]
  have N2 : hN g2 = b + 2 := by rw [← e2, hN_sQ, ← e1, hN_new, N0]
  have N4 : hN g4 = b + 3 := by rw [← e4, hN_sQ, ← e3, hN_new, N2]
  have N6 : hN g6 = b + 4 := by rw [← e6, hN_sQ, ← e5, hN_new, N4]
  have K4 : ∀ a, hK g6 a = if a = b + 3 then 12 else if a = b + 2 then 12 else if a = b + 1 then 12 else if a = b then 8 else hK h a := fun a => by
    rw [← e6, hK_sQ, ← e5, hK_new, N4, ← e4, hK_sQ, ← e3, hK_new, N2, ← e2, hK_sQ, ← e1, hK_new, N0, ← e0, hK_new, hb]
  have L4 : ∀ a, hL g6 a = if a = b + 3 then 40 else if a = b + 2 then 40 else if a = b + 1 then 40 else if a = b then 0 else hL h a := fun a => by
    rw [← e6, hL_sQ, ← e5, hL_new, N4, ← e4, hL_sQ, ← e3, hL_new, N2, ← e2, hL_sQ, ← e1, hL_new, N0, ← e0, hL_new, hb]
  have J4 : ∀ a, hJ g6 a = if a = b + 3 then (fun _ => 0) else if a = b + 2 then (fun _ => 0) else if a = b + 1 then (fun _ => 0) else if a = b then (fun _ => 0) else hJ h a := fun a => by
    rw [← e6, hJ_sQ, ← e5, hJ_new, N4, ← e4, hJ_sQ, ← e3, hJ_new, N2, ← e2, hJ_sQ, ← e1, hJ_new, N0, ← e0, hJ_new, hb]
  have I4 : ∀ a, hI g6 a = if a = b + 3 then (fun _ => 0) else if a = b + 2 then (fun _ => 0) else if a = b + 1 then (fun _ => 0) else if a = b then (fun _ => 0) else hI h a := fun a => by
    rw [← e6, hI_sQ, ← e5, hI_new, N4, ← e4, hI_sQ, ← e3, hI_new, N2, ← e2, hI_sQ, ← e1, hI_new, N0, ← e0, hI_new, hb]
  have qn : ∀ (g : Hp) (c n s p : Nat), p < hN g → hQ (hNew g c n s) p = hQ g p := fun g c n s p hp => by rw [hQ_new, if_neg (by omega)]
  have Q4 : ∀ p j, p ≤ b → hQ g6 p j = if p = b ∧ j = 2 then some (b + 3) else if p = b ∧ j = 1 then some (b + 2) else if p = b ∧ j = 0 then some (b + 1) else hQ g0 p j := fun p j hp => by
    rw [← e6, hQ_sQ, N4, ← e5, qn _ _ _ _ _ (by omega), ← e4, hQ_sQ, N2, ← e3, qn _ _ _ _ _ (by omega), ← e2, hQ_sQ, N0, ← e1, qn _ _ _ _ _ (by omega)]
  have k1 : hK g1 b = 8 := by rw [← e1, hK_new, N0, if_neg (by omega), ← e0, hK_new, hb, if_pos rfl]
  have k3 : hK g3 b = 8 := by rw [← e3, hK_new, N2, if_neg (by omega), ← e2, hK_sQ]; exact k1
  have k5 : hK g5 b = 8 := by rw [← e5, hK_new, N4, if_neg (by omega), ← e4, hK_sQ]; exact k3
  have f0 : Fa [] h g0 := by rw [← e0]; exact Fa.new
  have f2 : Fa [] h g2 := by rw [← e2]; exact (f0.then (by rw [← e1]; exact Fa.new)).sQ (Or.inr (Or.inr (by omega)))
  have f4 : Fa [] h g4 := by rw [← e4]; exact (f2.then (by rw [← e3]; exact Fa.new)).sQ (Or.inr (Or.inr (by omega)))
  have f6 : Fa [] h g6 := by rw [← e6]; exact (f4.then (by rw [← e5]; exact Fa.new)).sQ (Or.inr (Or.inr (by omega)))
  have iz : ∀ j, hI g6 b j = nI 0 := fun j => by rw [I4, if_neg (by omega), if_neg (by omega), if_neg (by omega), if_pos rfl]; rfl
  refine ⟨g6, ?_, ⟨⟨?_, ?_, ?_, ?_, ⟨?_, ?_⟩, ⟨?_, ?_⟩, ?_, ?_⟩, ⟨iz 3, iz 4⟩, fun i hi => absurd hi (Nat.not_lt_zero i)⟩, fun a ha => ⟨?_, ?_, ?_, ?_, ?_⟩, N6, ?_, ?_, f6⟩
  · have u1 : nA 12 (nI 40) g0 = some g1 := by rw [nA_e (by omega) (by omega), e1]
    have u3 : nA 12 (nI 40) g2 = some g3 := by rw [nA_e (by omega) (by omega), e3]
    have u5 : nA 12 (nI 40) g4 = some g5 := by rw [nA_e (by omega) (by omega), e5]
    have u2 : pQ 8 0 (some b) (some (hN g0)) g1 = some g2 := by rw [pQ_e k1 (by omega), e2]
    have u4 : pQ 8 1 (some b) (some (hN g2)) g3 = some g4 := by rw [pQ_e k3 (by omega), e4]
    have u6 : pQ 8 2 (some b) (some (hN g4)) g5 = some g6 := by rw [pQ_e k5 (by omega), e6]
    rw [f_100, b_100_0]
    simp only [Option.isSome_some, grd_e, Option.bind_some, u1, u2, u3, u4, u5, u6]
  · rw [K4, if_neg (by omega), if_neg (by omega), if_neg (by omega), if_pos rfl]
  · rw [Q4 _ _ (by omega), if_neg (by omega), if_neg (by omega), if_pos ⟨rfl, rfl⟩]
  · rw [Q4 _ _ (by omega), if_neg (by omega), if_pos ⟨rfl, rfl⟩]
  · rw [Q4 _ _ (by omega), if_pos ⟨rfl, rfl⟩]
  · rw [K4, if_neg (by omega), if_neg (by omega), if_pos rfl]
  · rw [L4, if_neg (by omega), if_neg (by omega), if_pos rfl]
  · rw [K4, if_neg (by omega), if_pos rfl]
  · rw [L4, if_neg (by omega), if_pos rfl]
  · rw [K4, if_pos rfl]
  · rw [L4, if_pos rfl]
  · rw [K4, if_neg (by omega), if_neg (by omega), if_neg (by omega), if_neg (by omega)]
  · rw [L4, if_neg (by omega), if_neg (by omega), if_neg (by omega), if_neg (by omega)]
  · rw [I4, if_neg (by omega), if_neg (by omega), if_neg (by omega), if_neg (by omega)]
  · rw [J4, if_neg (by omega), if_neg (by omega), if_neg (by omega), if_neg (by omega)]
  · funext j
    rw [Q4 _ _ (by omega), if_neg (by omega), if_neg (by omega), if_neg (by omega), ← e0, hQ_new, if_neg (by omega)]
  · rw [← e6, hC_sQ, ← e5, hC_new, ← e4, hC_sQ, ← e3, hC_new, ← e2, hC_sQ, ← e1, hC_new, ← e0, hC_new]
  · rw [← e6, hS_sQ, ← e5, hS_new, ← e4, hS_sQ, ← e3, hS_new, ← e2, hS_sQ, ← e1, hS_new, ← e0, hS_new]
    rfl
theorem s_101 {h : Hp} {b : Nat} (hF : Fix h) (hb : hN h = b) (hb2 : b + 200 ≤ 1000000) (h1 : hI h 31 1 = nI sz) (hs : sz ≤ 940) (ht : ∀ i, i < sz → hI h 32 i = nI (T i) ∧ T i < 256) (hn : NmB h b a ne N) :
    ∃ g1 g x, f_100 (some b) (hNew h 8 0 (bd_nf 8)) = some g1 ∧ rC 8 (some b) g1 = true ∧ Ab (fun a => a < b) h g1 ∧ Fix g1 ∧ f_101 (some b) (some 31) (some a) g1 = some (x, g) ∧
      (∀ k e, snP T sz 200 N ne 0 X0 = .error (k, e) → x = none ∧ ER h g b k e) ∧
      (∀ q Y, snP T sz 200 N ne 0 X0 = .ok (q, Y) → x = some b ∧ SNs T sz 200 N ne a h b g q Y ∧ PS ne X0 Y) := by
  have h98 : 98 ≤ b := by have := hF.1; omega
  obtain ⟨g1, a1, a2, a3, a4, a5, a6, a7⟩ := s_100 hb h98
  have F1 : Fix g1 := a7.fix hF (by decide) (by decide)
  have e31 := a3 31 (by omega)
  have e32 := a3 32 (by omega)
  obtain ⟨g2, b1, b2, b3, b4⟩ := s_116 (T := T) (lim := 200) F1 (by rw [e31.2.2.1]; exact h1) hs (by omega) (fun i hi => by rw [e32.2.2.1]; exact ht i hi)
  have f2 : FRg h g2 b 4 200 := ⟨(a7.wid (fun z hz => by cases hz)).then (b2.fa.wid (by decide)), hb, ⟨h98, hb2, b4⟩, by rw [b2.N]; omega, by rw [b2.C, b2.N]; omega, by rw [b2.S]; omega⟩
  have ab := b2.ab (P := fun x => b ≤ x ∧ x < b + 4) (by decide) (fun x hx => by omega)
  have S2 : SNs T sz 200 N ne a h b g2 0 X0 := ⟨b3, f2, a2.ab ab, hn⟩
  have hR := s_104 (T := T) (sz := sz) (lim := 200) (N := N) (ne := ne) (a := a) (h0 := h) (b := b) 10 RF 0 (by decide) (by omega) (by omega)
  have hP := onP_P (T := T) (sz := sz) (lim := 200) (N := N) (ne := ne) 10 0
  obtain ⟨g, w, c1, c2, c3⟩ := s_102 hR hP 0 X0 g2 SX_0 S2
  have c1' : F_102 (f_104 RF) (some b) (some 31) (some a) (nI 1) g2 = some (bI w, g) := c1
  have pk := orP_P (T := T) (lim := 200) hP 0 X0 (by omega) SX_0
  have hd : f_101 (some b) (some 31) (some a) g1 = if bI w = 0 then b_101_32 (some b) (bI w) g else b_101_19 (some b) (some 31) (bI w) g := by
    rw [f_101, b_101_0, rC31 F1, grd_e, Option.bind_some, b1, Option.bind_some, rC_e S2.2.2.1.1.1 (by omega), grd_e, Option.bind_some, c1', Option.bind_some, bnd_e]
  have rc : rC 8 (some b) g1 = true := rC_e a2.1.1 (by omega)
  cases w
  · obtain ⟨k, e, e1, e2⟩ := c2 rfl
    have sn : snP T sz 200 N ne 0 X0 = .error (k, e) := by unfold snP; rw [e1]; rfl
    refine ⟨g1, g, none, a1, rc, a3, F1, by rw [hd, if_pos (show bI false = 0 from rfl), b_101_32, if_pos (show bI false = 0 from rfl), b_101_40, b_101_41], fun k' e' z => ?_, fun q Y z => by rw [sn] at z; cases z⟩
    rw [sn] at z
    injection z with z
    injection z with z1 z2
    subst z1 z2
    exact ⟨rfl, e2⟩
  · obtain ⟨q, Y, e1, s3⟩ := c3 rfl
    have e1' : orP T sz 200 (onP T sz 200 N ne 10 0) 0 X0 = .ok (q, Y) := e1
    rw [e1'] at pk
    have kl := tkK_le (T := T) (sz := sz) (lim := 200) (p := q)
    have kc := kcl_e (x := 40) kl
    have sn : snP T sz 200 N ne 0 X0 = if tkK T sz 200 q = 0 then .ok (q, Y) else erA T sz 200 1 q := by unfold snP; rw [e1']; rfl
    have hd2 : f_101 (some b) (some 31) (some a) g1 = if nI (kcl (tkK T sz 200 q)) = 0 then b_101_32 (some b) (bI true) g else b_101_26 (some b) (some 31) g := by
      rw [hd, if_neg (show ¬ bI true = 0 by decide), b_101_19, gI31 s3.1.1, Option.bind_some, s3.1.2.2.1.1]
    by_cases k0 : tkK T sz 200 q = 0
    · rw [if_pos k0] at sn
      refine ⟨g1, g, some b, a1, rc, a3, F1, by rw [hd2, if_pos (by rw [k0]; rfl), b_101_32, if_neg (show ¬ bI true = 0 by decide), b_101_36, b_101_41], fun k' e' z => (by rw [sn] at z; cases z), fun q' Y' z => ?_⟩
      rw [sn] at z
      injection z with z
      injection z with z1 z2
      subst z1 z2
      exact ⟨rfl, s3, pk.2.2⟩
    · rw [if_neg k0] at sn
      obtain ⟨g3, d1, d2, d3, d4⟩ := s_119 (k := 1) s3.1
      refine ⟨g1, g3, none, a1, rc, a3, F1, ?_, fun k' e' z => ?_, fun q' Y' z => by rw [sn] at z; unfold erA at z; cases z⟩
      · rw [hd2, if_neg (nI_n0 (by omega) (fun z => k0 (kc.1.1 z))), b_101_26, rC31 s3.1.1, grd_e, Option.bind_some, d1, Option.bind_some, bnd_e]
        dsimp only
        rw [b_101_32, if_pos (show bI false = 0 from rfl), b_101_40, b_101_41]
      · rw [sn] at z
        unfold erA at z
        injection z with z
        injection z with z1 z2
        subst z1 z2
        exact ⟨rfl, s3.2.1.er (by omega) (by omega) (d2.fix s3.1.1 (by decide)) d2 d3 d4⟩
end SENE
