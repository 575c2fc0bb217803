/-! the class reads a day, all of it -/
section DAYD
variable {T : Nat → Nat} {sz lim : Nat} {N : Nat → Nat} {ne a : Nat}
theorem l_1 {h0 : Hp} {b : Nat} : ∀ r p X m h, sz < p + r → p ≤ sz → DX ne X → DYs T sz lim N ne a h0 h b p X (X 900) →
    (∀ k e, dyA T sz lim N ne r p X = .error (k, e) → ∃ g, l_1_15 (r + 1 + m) (some 31) (some a) (some b) h = some (none, g) ∧ ER h0 g b k e) ∧
    (∀ q Y, dyA T sz lim N ne r p X = .ok (q, Y) → ∃ g, l_1_15 (r + 1 + m) (some 31) (some a) (some b) h = some (some b, g) ∧ DYs T sz lim N ne a h0 g b q Y (Y 900) ∧ DX ne Y) := by
  intro r
  induction r with
  | zero => intro p X m h h1 h2; omega
  | succ r ih =>
    intro p X m h h1 h2 hD hS
    have bb := hS.2.1.2.2.1
    have d1 := hD.1
    have kl := tkK_le (T := T) (sz := sz) (lim := lim) (p := p)
    have kc := kcl_e (x := 40) kl
    have k0 := hS.2.2.1.1.1
    have un : dyA T sz lim N ne (r + 1) p X = if tkK T sz lim p = 0 then .ok (p, X) else match dyE T sz lim (dyK T sz lim N ne p X) with
      | .error e => .error e
      | .ok (q, Y) => dyA T sz lim N ne r q Y := rfl
    have hd : l_1_15 (r + 1 + 1 + m) (some 31) (some a) (some b) h = if nI (kcl (tkK T sz lim p)) = 0 then b_1_64 (some b) h else b_1_31 (l_1_15 (r + 1 + m)) (some 31) (some a) (some b) h := by
      rw [show r + 1 + 1 + m = (r + 1 + m) + 1 by omega, l_1_15, b_1_15, gI_e k0, Option.bind_some, hS.2.2.2.1, if_neg (by rw [nI_ltI (by omega) (by omega)]; omega), b_1_24, gI31 hS.1.1, Option.bind_some, hS.1.2.2.1.1]
    rw [un, hd]
    by_cases c0 : tkK T sz lim p = 0
    · rw [if_pos c0, if_pos (by rw [c0]; rfl), b_1_64]
      refine ⟨fun k a e => (by cases e), fun q Y e => ?_⟩
      injection e with e
      injection e with e1 e2
      subst e1 e2
      exact ⟨h, rfl, hS, hD⟩
    · rw [if_neg c0, if_neg (nI_n0 (by omega) (fun z => c0 (kc.1.1 z))), b_1_31, rC_e k0 (by omega), grd_e, Option.bind_some]
      obtain ⟨g, w, a1, a2, a3⟩ := s_2 hS rfl d1
      rw [a1, Option.bind_some]
      dsimp only
      have lp := dyE_P (T := T) (lim := lim) (N := N) h2 hD
      cases w
      · obtain ⟨k0, a0, e0, er⟩ := a2 rfl
        rw [e0, if_pos (show bI false = 0 from rfl), b_1_49]
        show (∀ k e, (Except.error (k0, a0) : RsT) = .error (k, e) → _) ∧ _
        refine ⟨fun k a e => ?_, fun n' Y e => (by cases e)⟩
        injection e with e
        injection e with e1 e2
        subst e1 e2
        exact ⟨g, rfl, er⟩
      · obtain ⟨q, Y, e0, st, e9⟩ := a3 rfl
        have e0' : dyK T sz lim N ne p X = .ok (q, Y) := e0
        rw [e0'] at lp ⊢
        rw [if_neg (show ¬ bI true = 0 by decide), b_1_40, rC31 st.1.1, grd_e, Option.bind_some]
        obtain ⟨g2, b1, b2, b3, b4⟩ := s_123 (c := 59) st.1 (by omega)
        rw [b1, Option.bind_some]
        dsimp only
        have le : dyE T sz lim (.ok (q, Y)) = if tkK T sz lim q = 59 then .ok (tkN T sz lim q, upX Y 900 (Y 900 + 1)) else erA T sz lim 1 q := rfl
        by_cases c : tkK T sz lim q = 59
        · rw [if_pos c] at le
          rw [le] at lp ⊢
          obtain ⟨l1, l2, l3⟩ := lp
          have st2 := st.fz (b3 c).1 (b3 c).2 (by decide) (by decide)
          obtain ⟨u1, u2, u3, u4, u5⟩ := id st2
          rw [bI_T c, if_pos nI10, b_1_51, gI_e u3.1.1, Option.bind_some, u4, nI_add, pI_e u3.1.1 (by omega), Option.bind_some]
          have hlt : Y 900 < 60 := by have := l3.1; rw [upX_i] at this; omega
          refine ih _ _ m _ (by omega) l2 l3 ⟨u1.wsI (by omega), u2.wsI (by omega), ?_, ?_, u5⟩
          · rw [upX_i, e9]
            refine ⟨u3.1, fun i hi => ?_, fun i hi => ?_⟩
            · rw [hI_sI, hI_sI, if_neg (by omega), if_neg (by omega), upX_n (by omega), upX_n (by omega)]
              exact u3.2.1 i hi
            · rw [hI_sI, if_neg (by omega)]
              exact u3.2.2 i hi
          · rw [hI_sI, upX_i]; exact if_pos ⟨rfl, rfl⟩
        · rw [if_neg c] at le
          rw [le, bI_F c, if_neg (fun z => z rfl), b_1_49]
          refine ⟨fun k a e => ?_, fun n' Y e => (by cases e)⟩
          injection e with e
          injection e with e1 e2
          subst e1 e2
          have F2 : Fix g2 := b2.fix st.1.1 (by decide)
          obtain ⟨f1, f2, f3, f4, f5, f6⟩ := st.2.1
          exact ⟨g2, rfl, F2, f1.then (b2.fa.wid (by decide)), ⟨by rw [b2.C, b2.N]; exact f5, by rw [b2.N]; omega, by rw [b2.S]; omega⟩, (b4 c).1, (b4 c).2⟩
theorem s_0 {h : Hp} {b : Nat} (hb : hN h = b) (h98 : 98 ≤ b) : ∃ g, f_0 (some b) (hNew h 0 0 (bd_nf 0)) = some g ∧ DyC g b X0 0 ∧ hI g b 2 = nI 0 ∧ Ab (fun a => a < b) h g ∧ hN g = b + 3 ∧ hC g = hC h + 3 ∧ hS g = hS h + 123 ∧ Fa [] h g := by
  generalize e0 : hNew h 0 0 (bd_nf 0) = g0
  generalize e1 : hNew g0 12 60 60 = g1
  generalize e2 : sQ g1 b 0 (some (hN g0)) = g2
  generalize e3 : hNew g2 12 60 60 = g3
  generalize e4 : sQ g3 b 1 (some (hN g2)) = g4
  have N0 : hN g0 = b + 1 := by rw [← e0, hN_new, hb]
  have N2 : hN g2 = b + 2 := by rw [← e2, hN_sQ, ← e1, hN_new, N0]
  have N4 : hN g4 = b + 3 := by rw [← e4, hN_sQ, ← e3, hN_new, N2]
  have K4 : ∀ a, hK g4 a = if a = b + 2 then 12 else if a = b + 1 then 12 else if a = b then 0 else hK h a := fun a => by
    rw [← e4, hK_sQ, ← e3, hK_new, N2, ← e2, hK_sQ, ← e1, hK_new, N0, ← e0, hK_new, hb]
  have L4 : ∀ a, hL g4 a = if a = b + 2 then 60 else if a = b + 1 then 60 else if a = b then 0 else hL h a := fun a => by
    rw [← e4, hL_sQ, ← e3, hL_new, N2, ← e2, hL_sQ, ← e1, hL_new, N0, ← e0, hL_new, hb]
  have J4 : ∀ a, hJ g4 a = if a = b + 2 then (fun _ => 0) else if a = b + 1 then (fun _ => 0) else if a = b then (fun _ => 0) else hJ h a := fun a => by
    rw [← e4, hJ_sQ, ← e3, hJ_new, N2, ← e2, hJ_sQ, ← e1, hJ_new, N0, ← e0, hJ_new, hb]
  have I4 : ∀ a, hI g4 a = if a = b + 2 then (fun _ => 0) else if a = b + 1 then (fun _ => 0) else if a = b then (fun _ => 0) else hI h a := fun a => by
    rw [← e4, hI_sQ, ← e3, hI_new, N2, ← e2, hI_sQ, ← e1, hI_new, N0, ← e0, hI_new, hb]
  have qn : ∀ (g : Hp) (c n s p : Nat), p < hN g → hQ (hNew g c n s) p = hQ g p := fun g c n s p hp => by rw [hQ_new, if_neg (by omega)]
  have Q4 : ∀ p j, p ≤ b → hQ g4 p j = if p = b ∧ j = 1 then some (b + 2) else if p = b ∧ j = 0 then some (b + 1) else hQ g0 p j := fun p j hp => by
    rw [← e4, hQ_sQ, N2, ← e3, qn _ _ _ _ _ (by omega), ← e2, hQ_sQ, N0, ← e1, qn _ _ _ _ _ (by omega)]
  have k1 : hK g1 b = 0 := by rw [← e1, hK_new, N0, if_neg (by omega), ← e0, hK_new, hb, if_pos rfl]
  have k3 : hK g3 b = 0 := by rw [← e3, hK_new, N2, if_neg (by omega), ← e2, hK_sQ]; exact k1
  have f0 : Fa [] h g0 := by rw [← e0]; exact Fa.new
  have f2 : Fa [] h g2 := by rw [← e2]; exact (f0.then (by rw [← e1]; exact Fa.new)).sQ (Or.inr (Or.inr (by omega)))
  have f4 : Fa [] h g4 := by rw [← e4]; exact (f2.then (by rw [← e3]; exact Fa.new)).sQ (Or.inr (Or.inr (by omega)))
  refine ⟨g4, ?_, ⟨⟨?_, ?_, ?_, ⟨?_, ?_⟩, ?_, ?_⟩, fun i hi => absurd hi (by omega), fun i _ => ?_⟩, ?_, fun a ha => ⟨?_, ?_, ?_, ?_, ?_⟩, N4, ?_, ?_, f4⟩
  · have u1 : nA 12 (nI 60) g0 = some g1 := by rw [nA_e (by omega) (by omega), e1]
    have u3 : nA 12 (nI 60) g2 = some g3 := by rw [nA_e (by omega) (by omega), e3]
    have u2 : pQ 0 0 (some b) (some (hN g0)) g1 = some g2 := by rw [pQ_e k1 (by omega), e2]
    have u4 : pQ 0 1 (some b) (some (hN g2)) g3 = some g4 := by rw [pQ_e k3 (by omega), e4]
    rw [f_0, b_0_0]
    simp only [Option.isSome_some, grd_e, Option.bind_some, u1, u2, u3, u4]
  · rw [K4, if_neg (by omega), if_neg (by omega), if_pos rfl]
  · rw [Q4 _ _ (by omega), if_neg (by omega), if_pos ⟨rfl, rfl⟩]
  · rw [Q4 _ _ (by omega), if_pos ⟨rfl, rfl⟩]
  · rw [K4, if_neg (by omega), if_pos rfl]
  · rw [L4, if_neg (by omega), if_pos rfl]
  · rw [K4, if_pos rfl]
  · rw [L4, if_pos rfl]
  · rw [I4, if_pos rfl]; rfl
  · rw [I4, if_neg (by omega), if_neg (by omega), if_pos rfl]; rfl
  · rw [K4, if_neg (by omega), if_neg (by omega), if_neg (by omega)]
  · rw [L4, if_neg (by omega), if_neg (by omega), if_neg (by omega)]
  · rw [I4, if_neg (by omega), if_neg (by omega), if_neg (by omega)]
  · rw [J4, if_neg (by omega), if_neg (by omega), if_neg (by omega)]
  · funext j
    rw [Q4 _ _ (by omega), if_neg (by omega), if_neg (by omega), ← e0, hQ_new, if_neg (by omega)]
  · rw [← e4, hC_sQ, ← e3, hC_new, ← e2, hC_sQ, ← e1, hC_new, ← e0, hC_new]
  · rw [← e4, hS_sQ, ← e3, hS_new, ← e2, hS_sQ, ← e1, hS_new, ← e0, hS_new]
    rfl
theorem DX_0 : DX ne X0 := ⟨Nat.zero_le _, fun i hi => absurd hi (Nat.not_lt_zero i)⟩
theorem s_1 {h : Hp} {b : Nat} (hF : Fix h) (hb : hN h = b) (hb2 : b + 200 ≤ 1000000) (h1 : hI h 31 1 = nI sz) (hs : sz ≤ 940) (ht : ∀ i, i < sz → hI h 32 i = nI (T i) ∧ T i < 256) (hn : NmB h b a ne N) :
    ∃ g x, f_1 (some 31) (some a) h = some (x, g) ∧
      (∀ k e, dyA T sz 600 N ne (sz + 1) 0 X0 = .error (k, e) → x = none ∧ ER h g b k e) ∧
      (∀ q Y, dyA T sz 600 N ne (sz + 1) 0 X0 = .ok (q, Y) → x = some b ∧ DYs T sz 600 N ne a h g b q Y (Y 900) ∧ DX ne Y) := by
  have h98 : 98 ≤ b := by have := hF.1; omega
  obtain ⟨g1, a1, a2, a2', a3, a4, a5, a6, a7⟩ := s_0 hb h98
  have F1 : Fix g1 := a7.fix hF (by decide) (by decide)
  have e31 := a3 31 (by omega)
  have e32 := a3 32 (by omega)
  obtain ⟨g2, b1, b2, b3, b4⟩ := s_116 (T := T) (lim := 600) F1 (by rw [e31.2.2.1]; exact h1) hs (by omega) (fun i hi => by rw [e32.2.2.1]; exact ht i hi)
  have f2 : FRg h g2 b 3 130 := ⟨(a7.wid (fun z hz => by cases hz)).then (b2.fa.wid (by decide)), hb, ⟨h98, hb2, b4⟩, by rw [b2.N]; omega, by rw [b2.C, b2.N]; omega, by rw [b2.S]; omega⟩
  have ab := b2.ab (P := fun x => b ≤ x ∧ x < b + 3) (by decide) (fun x hx => by omega)
  have S2 : DYs T sz 600 N ne a h g2 b 0 X0 (X0 900) := ⟨b3, f2, a2.ab ab, by rw [(ab b (by omega)).2.2.1]; exact a2', hn⟩
  obtain ⟨m, hm⟩ := FU_ge (sz + 1 + 1) (by omega)
  obtain ⟨c1, c2⟩ := l_1 (sz + 1) 0 X0 m g2 (by omega) (by omega) DX_0 S2
  have hd : f_1 (some 31) (some a) h = l_1_15 (sz + 1 + 1 + m) (some 31) (some a) (some b) g2 := by rw [f_1, b_1_0, bnd_e, Option.isSome_some, grd_e, Option.bind_some, hb, a1, Option.bind_some, bnd_e, rC31 F1, grd_e, Option.bind_some, b1, Option.bind_some, hm]
  cases hr : dyA T sz 600 N ne (sz + 1) 0 X0 with
  | error e =>
    obtain ⟨k, e⟩ := e
    obtain ⟨g, d1, d2⟩ := c1 k e hr
    refine ⟨g, none, by rw [hd]; exact d1, fun k' a' e => ?_, fun n' Y e => (by cases e)⟩
    injection e with e
    injection e with e1 e2
    subst e1 e2
    exact ⟨rfl, d2⟩
  | ok e =>
    obtain ⟨q, Y⟩ := e
    obtain ⟨g, d1, d2, d3⟩ := c2 q Y hr
    refine ⟨g, some b, by rw [hd]; exact d1, fun k' a' e => (by cases e), fun n' Y' e => ?_⟩
    injection e with e
    injection e with e1 e2
    subst e1 e2
    exact ⟨rfl, d2, d3⟩
end DAYD
