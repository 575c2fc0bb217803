/-! the joiner whole; forces of the reference -/
section MORE
variable {τ : Nat → Nat} {E : Nat → Nat}
theorem Hk.cz {h g : Hp} {pk : Nat} (hT : TG τ) (hp : τ pk ≠ 1) (hl : 98 ≤ pk ∧ pk < 1000000) (hk : Hk τ h E) (hz : Fz [46, pk, 44, 10000039] h g) : Hk τ g E := by
  obtain ⟨k1, k2, k3, k4⟩ := hk
  have t1 : ∀ p, p < 60 → τ p ≠ 1 := fun p hp z => by have := (hT p z).1; omega
  refine ⟨?_, fun d hd => by rw [hz.I (a := 41) (by intro z hz; simp only [List.mem_cons, List.not_mem_nil, or_false] at hz; omega)]; exact k2 d hd, k3.cg (by rw [hz.I1 (by simp only [List.mem_cons, List.not_mem_nil, or_false]; omega) (by simp only [List.mem_cons, List.not_mem_nil, or_false]; omega)]) (hz.I (a := 42) (by intro z hz; simp only [List.mem_cons, List.not_mem_nil, or_false] at hz; omega)), k4.cg (by rw [hz.I1 (by simp only [List.mem_cons, List.not_mem_nil, or_false]; omega) (by simp only [List.mem_cons, List.not_mem_nil, or_false]; omega)]) (hz.I (a := 43) (by intro z hz; simp only [List.mem_cons, List.not_mem_nil, or_false] at hz; omega))⟩
  refine k1.cg hz.K hz.L hz.Q (hz.tag2 hT (fun z hz' => ?_)) (hz.J1 (by simp only [List.mem_cons, List.not_mem_nil, or_false]; omega) (by simp only [List.mem_cons, List.not_mem_nil, or_false]; omega)) (hz.J (a := 40) (by intro z hz; simp only [List.mem_cons, List.not_mem_nil, or_false] at hz; omega))
  simp only [List.mem_cons, List.not_mem_nil, or_false] at hz'
  rcases hz' with rfl | rfl | rfl | rfl
  · exact t1 46 (by omega)
  · rw [Nat.mod_eq_of_lt hl.2]; exact hp
  · exact t1 44 (by omega)
  · exact t1 39 (by omega)
theorem s_34x {h : Hp} (hF : Fix h) (hT : TG τ) (hW : WF E) (hk : Hk τ h E) {R : HR} (hR : solW E (dHg E) (wC E) = R) :
    ∃ g x, f_34 (some 39) h = some (x, g) ∧ (x = 0 ↔ R = none) ∧ Fz [45, 46, 47, 14000039, 15000039, 6000039, 42] h g ∧ Hk τ g E ∧ ∀ b, R = some b → b.1 ≤ 20000 ∧ ∀ i, i < E 2 → hI g 42 i = nI (b.2 i) := by
  obtain ⟨g, a1, a2, a3, a4, a5⟩ := s_34 hF hT hW hk
  subst hR
  refine ⟨g, _, a1, ?_, a2, a3, a5⟩
  rw [bI_0, decide_eq_false_iff_not]
  exact Classical.not_not
theorem s_44 {h : Hp} {pk : Nat} (hF : Fix h) (hT : TG τ) (hN' : ∀ p, τ p = 1 → p < hN h) (hN1 : hN h + 1 < 1000000) (hW : WF E) (hk : Hk τ h E) (hr : hQ h 39 15 = none ∨ PKP h pk ∧ τ pk ≠ 1) :
    (solW E (dHg E) (wC E) = none ∧ ∃ g, f_44 (some 39) h = some (-1, g) ∧ Fz [45, 46, 47, 14000039, 15000039, 6000039, 42] h g ∧ Fix g ∧ Hk τ g E) ∨
    ∃ b g pk' W S o z, solW E (dHg E) (wC E) = some b ∧ f_44 (some 39) h = some (nI (W 0), g) ∧ PKq E b.2 (chM E b.2) 0 W ∧ ORp W (chM E b.2) (E 2) z S o ∧ S z = chM E b.2 ∧ hI g 39 9 = nI z ∧ (∀ j, j < z → hI g 44 j = nI (o j)) ∧
      Fa ([45, 46, 47, 14000039, 15000039, 6000039, 42, 44, 10000039, 16000039] ++ [pk]) h g ∧ Fix g ∧ Hk τ g E ∧ PKP g pk' ∧ (pk' = pk ∨ hN h ≤ pk') ∧ τ pk' ≠ 1 ∧ hN g ≤ hN h + 1 ∧ hC g ≤ hC h + 1 ∧ hS g ≤ hS h + 1024 := by
  generalize hR : solW E (dHg E) (wC E) = R
  obtain ⟨h1, x, a1, a4, a2, a3, a5⟩ := s_34x hF hT hW hk hR
  have F1 := a2.fix hF (by decide)
  have n98 : 98 ≤ hN h := hF.1
  have t1 : ∀ p, p < 60 → τ p ≠ 1 := fun p hp z => by have := (hT p z).1; omega
  have pre : f_44 (some 39) h = if ¬ x = 0 then b_44_9 (some 39) h1 else b_44_7 h1 := by
    rw [f_44, b_44_0]
    simp (disch := first | assumption | (repeat' (first | apply fx_sI | apply fx_sJ | assumption | omega))) only [bnd_e, grd_e, grd0, grd1, Option.bind_some, Option.isSome_some, gQ30_0, gQ30_1, gQ30_2, gQ30_3, gQ30_4, gQ30_5, gQ30_6, gQ30_7, gQ30_8, gQ30_9, gQ31_0, gQ33_0, gQ33_1, gQ36_0, gQ36_1, gQ39_0, gQ39_3, gQ39_4, gQ39_6, gQ39_8, gQ39_10, gQ39_11, gQ39_12, gQ48_0, gQ48_1, gQ51_2, gQ53_0, gQ53_1, gQ60_0, gQ60_1, gQ60_2, gQ64_1, gQ64_14, gQ64_15, gQ64_16, gQ64_17, gQ64_18, gQ64_19, gQ64_20, gQ64_21, gQ64_24, gQ64_25, gQ64_27, gQ64_28, gQ64_29, gQ64_30, gQ64_31, gQ64_34, gQ64_35, gQ64_36, gQ64_39, gQ64_40, gQ64_41, gQ64_43, gQ64_44, gQ64_48, gQ64_50, gQ64_51, gQ64_52, gQ64_53, gQ64_54, gQ64_58, gQ64_59, gI30, gJ30, pI30, pJ30, rC30, gI31, gJ31, pI31, pJ31, rC31, gI33, gJ33, pI33, pJ33, rC33, gI36, gJ36, pI36, pJ36, rC36, gI39, gJ39, pI39, pJ39, rC39, gI48, gJ48, pI48, pJ48, rC48, gI51, gJ51, pI51, pJ51, rC51, gI53, gJ53, pI53, pJ53, rC53, gI60, gJ60, pI60, pJ60, rC60, gI64, gJ64, pI64, pJ64, rC64, hF, a1]
  cases R with
  | none =>
    left
    refine ⟨rfl, h1, ?_, a2, F1, a3⟩
    rw [pre, if_neg (fun z => z (a4.2 rfl)), b_44_7]
  | some b =>
    right
    obtain ⟨bl, ba⟩ := a5 b rfl
    have b4 : ∀ d, d < E 2 → b.2 d < 4 := fun d hd => br_4 (E 2) 0 (fitL E) b hR d (by omega) (by omega) rfl
    have pre2 : f_44 (some 39) h = b_44_9 (some 39) h1 := by rw [pre, if_pos (fun z => by have := a4.1 z; cases this)]
    have N1 : hN h1 = hN h := a2.N
    have tail : ∀ h2 q, Fix h2 → Hk τ h2 E → (∀ d, d < E 2 → hI h2 42 d = nI (b.2 d)) → PKP h2 q → hN h2 < 1000000 → τ q ≠ 1 → ∃ g W S o z, b_44_25 (some 39) h2 = some (nI (W 0), g) ∧ PKq E b.2 (chM E b.2) 0 W ∧ ORp W (chM E b.2) (E 2) z S o ∧ S z = chM E b.2 ∧ hI g 39 9 = nI z ∧ (∀ j, j < z → hI g 44 j = nI (o j)) ∧ Fz [46, q, 44, 10000039] h2 g ∧ Fix g ∧ Hk τ g E ∧ PKP g q := by
      intro h2 q F2 k2 c42 hp hn hq
      obtain ⟨p1, p2, p3, p4, p5⟩ := hp
      have C2 : CJ τ E b.2 q h2 := ⟨F2, k2.1, fun d hd => ⟨k2.2.1 d hd, c42 d hd, b4 d hd⟩, p1, p2, p3, p4, by omega, hq⟩
      obtain ⟨g, W, S, o, z, b1, b2, b3, b5, b6, b7, b8⟩ := s_44t hT hW C2
      refine ⟨g, W, S, o, z, b1, b3, b5, b6, b7, b8, b2, ?_, k2.cz hT hq ⟨p4, by omega⟩ b2, ⟨by rw [b2.Q]; exact p1, by rw [b2.K]; exact p2, by rw [b2.L]; exact p3, p4, by rw [b2.N]; exact p5⟩⟩
      exact b2.fix F2 (by intro z hz; simp only [List.mem_cons, List.not_mem_nil, or_false] at hz; omega)
    rcases hr with hr | ⟨hr, hq⟩
    · generalize e1 : hNew h1 12 1024 1024 = h2
      generalize e2 : sQ h2 39 15 (some (hN h1)) = h3
      have k39 : hK h2 39 = 3 := by rw [← e1, hK_new, if_neg (by omega)]; exact K39 F1
      have f2 : Fa [16000039] h1 h2 := by rw [← e1]; exact Fa.new
      have f3 : Fa [16000039] h1 h3 := by rw [← e2]; exact f2.sQ (Or.inr (Or.inl (by simp)))
      have F3 : Fix h3 := f3.fix F1 (by decide) (by decide)
      have N3 : hN h3 = hN h + 1 := by rw [← e2, hN_sQ, ← e1, hN_new]; omega
      have ag : Ag τ h1 h3 := f3.ag hT (fun p hp => by have := hN' p hp; omega) (by
        intro z hz
        simp only [List.mem_cons, List.not_mem_nil, or_false] at hz
        rw [hz]
        exact t1 39 (by omega))
      have lo : ∀ a, a < 98 → hI h3 a = hI h1 a ∧ hJ h3 a = hJ h1 a := fun a ha => by
        rw [← e2, hI_sQ, hJ_sQ, ← e1, hI_new, hJ_new, if_neg (by omega), if_neg (by omega)]
        exact ⟨rfl, rfl⟩
      have q2 : hQ h3 39 2 = hQ h1 39 2 := by rw [← e2, hQ_sQ, if_neg (by omega), ← e1, hQ_new, if_neg (by omega)]
      have H3 : Hk τ h3 E := by
        obtain ⟨⟨g1, g2, g3, g4⟩, k2, k3, k4⟩ := a3
        have r : rq h3 39 2 = rq h1 39 2 := by unfold rq; rw [q2]
        exact ⟨⟨by rw [r, q2]; exact g1, by rw [r]; exact g2.ag ag, by rw [(lo 39 (by omega)).2]; exact g3, fun i hi => by rw [(lo 40 (by omega)).2]; exact g4 i hi⟩, fun d hd => by rw [(lo 41 (by omega)).1]; exact k2 d hd, k3.cg (by rw [(lo 39 (by omega)).1]) (lo 42 (by omega)).1, k4.cg (by rw [(lo 39 (by omega)).1]) (lo 43 (by omega)).1⟩
      have P3 : PKP h3 (hN h1) := ⟨by rw [← e2, hQ_sQ, if_pos ⟨rfl, rfl⟩], by rw [← e2, hK_sQ, ← e1, hK_new, if_pos rfl], by rw [← e2, hL_sQ, ← e1, hL_new, if_pos rfl], by omega, by omega⟩
      have tq : τ (hN h1) ≠ 1 := fun z => by have := hN' _ z; omega
      obtain ⟨g, W, S, o, z, b1, b2, b3, b5, b6, b7, b8, b9, b10, b11⟩ := tail h3 (hN h1) F3 H3 (fun d hd => by rw [(lo 42 (by omega)).1]; exact ba d hd) P3 (by omega) tq
      refine ⟨b, g, hN h1, W, S, o, z, rfl, ?_, b2, b3, b5, b6, b7, ?_, b9, b10, b11, Or.inr (by omega), tq, by rw [b8.N]; omega, ?_, ?_⟩
      · have u1 : nA 12 (nI 1024) h1 = some h2 := by rw [nA_e (by omega) (by omega), e1]
        have u2 : pQ 3 15 (some 39) (some (hN h1)) h2 = some h3 := by rw [pQ_e k39 (by omega), e2]
        rw [pre2, b_44_9, gQ_e (K39 F1), Option.bind_some, a2.Q, hr, if_neg (fun z => z rfl), b_44_16, u1, Option.bind_some, u2, Option.bind_some]
        exact b1
      · refine ((a2.fa.wid (fun y hy => Or.inl (List.mem_append.2 (Or.inl ((by decide : ∀ y, y ∈ [45, 46, 47, 14000039, 15000039, 6000039, 42] → y ∈ [45, 46, 47, 14000039, 15000039, 6000039, 42, 44, 10000039, 16000039]) y hy))))).thn f3 (fun y hy => Or.inl (List.mem_append.2 (Or.inl ((by decide : ∀ y, y ∈ [16000039] → y ∈ [45, 46, 47, 14000039, 15000039, 6000039, 42, 44, 10000039, 16000039]) y hy))))).thn b8.fa (fun y hy => ?_)
        rcases List.mem_cons.1 hy with z | z
        · exact Or.inl (List.mem_append.2 (Or.inl (by rw [z]; decide)))
        · rcases List.mem_cons.1 z with z | z
          · exact Or.inr (Or.inr (by rw [z, Nat.mod_eq_of_lt (by omega)]; omega))
          · exact Or.inl (List.mem_append.2 (Or.inl ((by decide : ∀ y, y ∈ [44, 10000039] → y ∈ [45, 46, 47, 14000039, 15000039, 6000039, 42, 44, 10000039, 16000039]) y z)))
      · rw [b8.C, ← e2, hC_sQ, ← e1, hC_new, a2.C]; omega
      · rw [b8.S, ← e2, hS_sQ, ← e1, hS_new, a2.S]; omega
    · have P1 : PKP h1 pk := ⟨by rw [a2.Q]; exact hr.1, by rw [a2.K]; exact hr.2.1, by rw [a2.L]; exact hr.2.2.1, hr.2.2.2.1, by rw [a2.N]; exact hr.2.2.2.2⟩
      obtain ⟨g, W, S, o, z, b1, b2, b3, b5, b6, b7, b8, b9, b10, b11⟩ := tail h1 pk F1 a3 ba P1 (by omega) hq
      refine ⟨b, g, pk, W, S, o, z, rfl, ?_, b2, b3, b5, b6, b7, ?_, b9, b10, b11, Or.inl rfl, hq, by rw [b8.N]; omega, by rw [b8.C, a2.C]; omega, by rw [b8.S, a2.S]; omega⟩
      · rw [pre2, b_44_9, gQ_e (K39 F1), Option.bind_some, P1.1, if_pos (fun z => by cases z)]
        exact b1
      · refine (a2.fa.wid (fun y hy => Or.inl (List.mem_append.2 (Or.inl ((by decide : ∀ y, y ∈ [45, 46, 47, 14000039, 15000039, 6000039, 42] → y ∈ [45, 46, 47, 14000039, 15000039, 6000039, 42, 44, 10000039, 16000039]) y hy))))).thn b8.fa (fun y hy => Or.inl ?_)
        rcases List.mem_cons.1 hy with z | z
        · exact List.mem_append.2 (Or.inl (by rw [z]; decide))
        · rcases List.mem_cons.1 z with z | z
          · exact List.mem_append.2 (Or.inr (by rw [z]; exact List.mem_singleton.2 rfl))
          · exact List.mem_append.2 (Or.inl ((by decide : ∀ y, y ∈ [44, 10000039] → y ∈ [45, 46, 47, 14000039, 15000039, 6000039, 42, 44, 10000039, 16000039]) y z))
/-- the reference's forces, once its row of hangings is there -/
theorem l_244l (hW : WF E) {d0 h0 : Nat} {v3 : Int32} : ∀ r e m h, e + r = E 2 → MSw h E → (∀ a, a < e → hI h 81 a = nI (fitM E a) ∧ hI h 82 a = -1) →
    ∃ g, l_244_61 (r + 1 + m) (some 64) (nI d0) (nI h0) v3 (nI e) h = b_244_98 (some 64) (nI d0) (nI h0) v3 g ∧ Fz [81, 82] h g ∧ ∀ a, a < E 2 → hI g 81 a = nI (fitM E a) ∧ hI g 82 a = -1 := by
  have w2 := hW.2.2.1
  intro r
  induction r with
  | zero =>
    intro e m h he hM hl
    obtain ⟨hF, hE, hS⟩ := id hM
    obtain rfl : e = E 2 := by omega
    refine ⟨h, ?_, Fz.rfl', hl⟩
    rw [show 0 + 1 + m = m + 1 by omega, l_244_61, b_244_61]
    simp (disch := first | assumption | (repeat' (first | apply fx_sI | apply fx_sJ | assumption | omega))) only [bnd_e, grd_e, grd0, grd1, Option.bind_some, Option.isSome_some, gQ30_0, gQ30_1, gQ30_2, gQ30_3, gQ30_4, gQ30_5, gQ30_6, gQ30_7, gQ30_8, gQ30_9, gQ31_0, gQ33_0, gQ33_1, gQ36_0, gQ36_1, gQ39_0, gQ39_3, gQ39_4, gQ39_6, gQ39_8, gQ39_10, gQ39_11, gQ39_12, gQ48_0, gQ48_1, gQ51_2, gQ53_0, gQ53_1, gQ60_0, gQ60_1, gQ60_2, gQ64_1, gQ64_14, gQ64_15, gQ64_16, gQ64_17, gQ64_18, gQ64_19, gQ64_20, gQ64_21, gQ64_24, gQ64_25, gQ64_27, gQ64_28, gQ64_29, gQ64_30, gQ64_31, gQ64_34, gQ64_35, gQ64_36, gQ64_39, gQ64_40, gQ64_41, gQ64_43, gQ64_44, gQ64_48, gQ64_50, gQ64_51, gQ64_52, gQ64_53, gQ64_54, gQ64_58, gQ64_59, gI30, gJ30, pI30, pJ30, rC30, gI31, gJ31, pI31, pJ31, rC31, gI33, gJ33, pI33, pJ33, rC33, gI36, gJ36, pI36, pJ36, rC36, gI39, gJ39, pI39, pJ39, rC39, gI48, gJ48, pI48, pJ48, rC48, gI51, gJ51, pI51, pJ51, rC51, gI53, gJ53, pI53, pJ53, rC53, gI60, gJ60, pI60, pJ60, rC60, gI64, gJ64, pI64, pJ64, rC64, hF, s_203 hF hE, nI_leI, Nat.le_refl, if_true]
  | succ r ih =>
    intro e m h he hM hl
    obtain ⟨hF, hE, hS⟩ := id hM
    have fm := (hS e (by omega)).1
    generalize x1 : sI h 81 e (nI (fitM E e)) = h1
    generalize x2 : sI h1 82 e (-1) = h2
    have F1 : Fix h1 := by rw [← x1]; exact fx_sI hF (by omega)
    have z2 : Fz [81, 82] h h2 := by
      rw [← x2, ← x1]
      exact Fz.sI (Fz.sI Fz.rfl' (Or.inl (by simp))) (Or.inl (by simp))
    obtain ⟨g, a1, a2, a3⟩ := ih (e + 1) m h2 (by omega) (hM.cz z2 (by decide) (by decide)) (fun a ha => by
      rw [← x2, hI_sI, if_neg (by omega), hI_sI, ← x1, hI_sI]
      by_cases c : a = e
      · rw [if_pos ⟨rfl, c⟩, if_pos ⟨rfl, c⟩, c]; exact ⟨rfl, rfl⟩
      · rw [if_neg (fun z => c z.2), if_neg (fun z => c z.2), hI_sI, if_neg (by omega)]; exact hl a (by omega))
    refine ⟨g, ?_, z2.then a2, a3⟩
    rw [show r + 1 + 1 + m = (r + 1 + m) + 1 by omega, l_244_61, b_244_61]
    simp (disch := first | assumption | (repeat' (first | apply fx_sI | apply fx_sJ | assumption | omega))) only [bnd_e, grd_e, grd0, grd1, Option.bind_some, Option.isSome_some, gQ30_0, gQ30_1, gQ30_2, gQ30_3, gQ30_4, gQ30_5, gQ30_6, gQ30_7, gQ30_8, gQ30_9, gQ31_0, gQ33_0, gQ33_1, gQ36_0, gQ36_1, gQ39_0, gQ39_3, gQ39_4, gQ39_6, gQ39_8, gQ39_10, gQ39_11, gQ39_12, gQ48_0, gQ48_1, gQ51_2, gQ53_0, gQ53_1, gQ60_0, gQ60_1, gQ60_2, gQ64_1, gQ64_14, gQ64_15, gQ64_16, gQ64_17, gQ64_18, gQ64_19, gQ64_20, gQ64_21, gQ64_24, gQ64_25, gQ64_27, gQ64_28, gQ64_29, gQ64_30, gQ64_31, gQ64_34, gQ64_35, gQ64_36, gQ64_39, gQ64_40, gQ64_41, gQ64_43, gQ64_44, gQ64_48, gQ64_50, gQ64_51, gQ64_52, gQ64_53, gQ64_54, gQ64_58, gQ64_59, gI30, gJ30, pI30, pJ30, rC30, gI31, gJ31, pI31, pJ31, rC31, gI33, gJ33, pI33, pJ33, rC33, gI36, gJ36, pI36, pJ36, rC36, gI39, gJ39, pI39, pJ39, rC39, gI48, gJ48, pI48, pJ48, rC48, gI51, gJ51, pI51, pJ51, rC51, gI53, gJ53, pI53, pJ53, rC53, gI60, gJ60, pI60, pJ60, rC60, gI64, gJ64, pI64, pJ64, rC64, hF, s_203 hF hE, nI_leI, show ¬ E 2 ≤ e by omega, if_false]
    rw [b_244_70]
    have w1 : wI (some 81) (nI e) (nI (fitM E e)) h = some h1 := by rw [wI_n (K81 hF) (by omega) (L81 hF) (show e < 10 by omega) (by omega), x1]
    have w2' : wI (some 82) (nI e) (-1) h1 = some h2 := by rw [wI_n (K82 F1) (by omega) (L82 F1) (show e < 10 by omega) (by omega), x2]
    simp (disch := first | assumption | (repeat' (first | apply fx_sI | apply fx_sJ | assumption | omega))) only [bnd_e, grd_e, grd0, grd1, Option.bind_some, Option.isSome_some, gQ30_0, gQ30_1, gQ30_2, gQ30_3, gQ30_4, gQ30_5, gQ30_6, gQ30_7, gQ30_8, gQ30_9, gQ31_0, gQ33_0, gQ33_1, gQ36_0, gQ36_1, gQ39_0, gQ39_3, gQ39_4, gQ39_6, gQ39_8, gQ39_10, gQ39_11, gQ39_12, gQ48_0, gQ48_1, gQ51_2, gQ53_0, gQ53_1, gQ60_0, gQ60_1, gQ60_2, gQ64_1, gQ64_14, gQ64_15, gQ64_16, gQ64_17, gQ64_18, gQ64_19, gQ64_20, gQ64_21, gQ64_24, gQ64_25, gQ64_27, gQ64_28, gQ64_29, gQ64_30, gQ64_31, gQ64_34, gQ64_35, gQ64_36, gQ64_39, gQ64_40, gQ64_41, gQ64_43, gQ64_44, gQ64_48, gQ64_50, gQ64_51, gQ64_52, gQ64_53, gQ64_54, gQ64_58, gQ64_59, gI30, gJ30, pI30, pJ30, rC30, gI31, gJ31, pI31, pJ31, rC31, gI33, gJ33, pI33, pJ33, rC33, gI36, gJ36, pI36, pJ36, rC36, gI39, gJ39, pI39, pJ39, rC39, gI48, gJ48, pI48, pJ48, rC48, gI51, gJ51, pI51, pJ51, rC51, gI53, gJ53, pI53, pJ53, rC53, gI60, gJ60, pI60, pJ60, rC60, gI64, gJ64, pI64, pJ64, rC64, aI27, aL27, aI28, aL28, aI32, wI32, aL32, aI34, wI34, aL34, aI35, wI35, aL35, aI37, wI37, aL37, aI38, wI38, aL38, aJ40, wJ40, aL40, aI41, wI41, aL41, aI42, wI42, aL42, aI43, wI43, aL43, aI44, wI44, aL44, aI45, wI45, aL45, aI46, wI46, aL46, aI47, wI47, aL47, aI49, wI49, aL49, aI50, wI50, aL50, aI52, wI52, aL52, aI54, wI54, aL54, aI55, wI55, aL55, aL56, aL57, aL58, aI59, wI59, aL59, aI61, wI61, aL61, aL62, aI63, wI63, aL63, aI65, wI65, aL65, aI66, wI66, aL66, aI67, wI67, aL67, aI68, wI68, aL68, aI69, wI69, aL69, aJ70, wJ70, aL70, aJ71, wJ71, aL71, aJ72, wJ72, aL72, aZ73, wZ73, aL73, aI74, wI74, aL74, aI75, wI75, aL75, aJ76, wJ76, aL76, aJ77, wJ77, aL77, aI78, wI78, aL78, aI79, wI79, aL79, aI80, wI80, aL80, aI81, wI81, aL81, aI82, wI82, aL82, aI83, wI83, aL83, aI84, wI84, aL84, aI85, wI85, aL85, aI86, wI86, aL86, aI87, wI87, aL87, aI88, wI88, aL88, aI89, wI89, aL89, aI90, wI90, aL90, aI91, wI91, aL91, aI92, wI92, aL92, aI93, wI93, aL93, aI94, wI94, aL94, aZ95, wZ95, aL95, aI96, wI96, aL96, aJ97, wJ97, aL97, hF, fm, w1, F1, w2', nI_add]
    exact a1
theorem fitM_mk (E : Nat → Nat) (e : Nat) : fitM E e = mkM (fitL E e) 4 := by
  apply Nat.eq_of_testBit_eq
  intro i
  rw [mkM_tb]
  by_cases c : i < 4
  · rw [fitM_tb E e c, decide_eq_true c, Bool.true_and]; rfl
  · rw [decide_eq_false c, tb_out (k := 4) (fitM_lt E e) (by omega)]; rfl
/-- what forces() answers -/
def fcA (E : Nat → Nat) (d0 h0 : Nat) (w : Nat) : Int32 := if w = 0 then nI (fcE E d0 h0).2.2.1 else if w = 1 then nI (fcE E d0 h0).2.1 else mI (fcD E d0 (fcE E d0 h0))
theorem s_244f {h : Hp} {d0 h0 w : Nat} (hW : WF E) (hM : MSw h E) (hd : d0 < E 2) (hh : h0 < 4) (hw : w < 3) :
    ∃ g, b_244_58 (some 64) (nI d0) (nI h0) (nI w) h = some (fcA E d0 h0 w, g) ∧ Fz [81, 82, 83, 38000064, 39000064] h g ∧ MF E d0 g (fcE E d0 h0) ∧ hI g 64 38 = nI (E 2) := by
  have w2 := hW.2.2.1
  obtain ⟨m, hm⟩ := FU_ge (E 2 + 1) (by omega)
  obtain ⟨h1, a1, a2, a3⟩ := l_244l (d0 := d0) (h0 := h0) (v3 := nI w) hW (E 2) 0 m h (by omega) hM (fun a ha => absurd ha (Nat.not_lt_zero a))
  have M1 := hM.cz a2 (by decide) (by decide)
  have F1 := M1.1
  generalize x1 : sI h1 64 37 (nI 0) = h2
  generalize x2 : sI h2 64 38 (nI (E 2)) = h3
  have z2 : Fz [38000064] h1 h2 := by rw [← x1]; exact Fz.sI Fz.rfl' (Or.inr (by simp))
  have z3 : Fz [39000064] h2 h3 := by rw [← x2]; exact Fz.sI Fz.rfl' (Or.inr (by simp))
  have M2 := M1.cz z2 (by decide) (by decide)
  have M3 := M2.cz z3 (by decide) (by decide)
  have F2 := M2.1
  have F3 := M3.1
  obtain ⟨h4, b1, b2, b3⟩ := s_241 (e := d0) (g := h0) (L := fitL E) w2 hd hh hd M3 (fun a ha _ => by
    rw [z3.I (a := 81) (by decide), z2.I (a := 81) (by decide), (a3 a ha).1, fitM_mk])
  have M4 := M3.cz b2 (by decide) (by decide)
  have MF4 : MF E d0 h4 (fc0 E d0 h0) := by
    refine ⟨M4, b3, fun e he => ?_, fun i hi => absurd hi (Nat.not_lt_zero i), ?_⟩
    · show hI h4 82 e = if (0 : Nat).testBit e = true then _ else -1
      rw [Nat.zero_testBit, if_neg (by decide), b2.I (a := 82) (by decide), z3.I (a := 82) (by decide), z2.I (a := 82) (by decide)]
      exact (a3 e he).2
    · rw [b2.I1 (by decide) (by decide), z3.I1 (by decide) (by decide), ← x1, hI_sI, if_pos ⟨rfl, rfl⟩]; rfl
  obtain ⟨g, c1, c2, c3, c4⟩ := l_244 (v3 := nI w) w2 hd (E 2) (fc0 E d0 h0) m h4 (by show 0 + E 2 = E 2; omega) fc0_I MF4
  have i38 : hI g 64 38 = nI (E 2) := by rw [c2.I1 (by decide) (by decide), b2.I1 (by decide) (by decide), ← x2, hI_sI, if_pos ⟨rfl, rfl⟩]
  refine ⟨g, ?_, (a2.wid (by intro z hz; simp only [List.mem_cons, List.not_mem_nil, or_false] at hz ⊢; omega)).then ((z2.wid (by intro z hz; simp only [List.mem_cons, List.not_mem_nil, or_false] at hz ⊢; omega)).then ((z3.wid (by intro z hz; simp only [List.mem_cons, List.not_mem_nil, or_false] at hz ⊢; omega)).then ((b2.wid (by intro z hz; simp only [List.mem_cons, List.not_mem_nil, or_false] at hz ⊢; omega)).then (c2.wid (by intro z hz; simp only [List.mem_cons, List.not_mem_nil, or_false] at hz ⊢; omega))))), c4, i38⟩
  obtain ⟨⟨Fg, Eg, Sg⟩, m1, m2, m3, m4⟩ := id c4
  have t1 : b_244_98 (some 64) (nI d0) (nI h0) (nI w) h1 = b_244_223 (some 64) (nI d0) (nI w) (nI (fcE E d0 h0).2.1) g := by
    rw [b_244_98]
    simp (disch := first | assumption | (repeat' (first | apply fx_sI | apply fx_sJ | assumption | omega))) only [bnd_e, grd_e, grd0, grd1, Option.bind_some, Option.isSome_some, gQ30_0, gQ30_1, gQ30_2, gQ30_3, gQ30_4, gQ30_5, gQ30_6, gQ30_7, gQ30_8, gQ30_9, gQ31_0, gQ33_0, gQ33_1, gQ36_0, gQ36_1, gQ39_0, gQ39_3, gQ39_4, gQ39_6, gQ39_8, gQ39_10, gQ39_11, gQ39_12, gQ48_0, gQ48_1, gQ51_2, gQ53_0, gQ53_1, gQ60_0, gQ60_1, gQ60_2, gQ64_1, gQ64_14, gQ64_15, gQ64_16, gQ64_17, gQ64_18, gQ64_19, gQ64_20, gQ64_21, gQ64_24, gQ64_25, gQ64_27, gQ64_28, gQ64_29, gQ64_30, gQ64_31, gQ64_34, gQ64_35, gQ64_36, gQ64_39, gQ64_40, gQ64_41, gQ64_43, gQ64_44, gQ64_48, gQ64_50, gQ64_51, gQ64_52, gQ64_53, gQ64_54, gQ64_58, gQ64_59, gI30, gJ30, pI30, pJ30, rC30, gI31, gJ31, pI31, pJ31, rC31, gI33, gJ33, pI33, pJ33, rC33, gI36, gJ36, pI36, pJ36, rC36, gI39, gJ39, pI39, pJ39, rC39, gI48, gJ48, pI48, pJ48, rC48, gI51, gJ51, pI51, pJ51, rC51, gI53, gJ53, pI53, pJ53, rC53, gI60, gJ60, pI60, pJ60, rC60, gI64, gJ64, pI64, pJ64, rC64, F1, x1, F2, s_203 F2 M2.2.1, x2, F3, b1]
    rw [hm]
    exact c1
  rw [b_244_58, bnd_e, hm, a1, t1, b_244_223]
  simp (disch := first | assumption | (repeat' (first | apply fx_sI | apply fx_sJ | assumption | omega))) only [nI_eq0 (show w < 2147483648 by omega)]
  unfold fcA
  by_cases c0 : w = 0
  · rw [if_neg (fun z => z c0), if_pos c0, b_244_227]
    simp (disch := first | assumption | (repeat' (first | apply fx_sI | apply fx_sJ | assumption | omega))) only [bnd_e, grd_e, grd0, grd1, Option.bind_some, Option.isSome_some, gQ30_0, gQ30_1, gQ30_2, gQ30_3, gQ30_4, gQ30_5, gQ30_6, gQ30_7, gQ30_8, gQ30_9, gQ31_0, gQ33_0, gQ33_1, gQ36_0, gQ36_1, gQ39_0, gQ39_3, gQ39_4, gQ39_6, gQ39_8, gQ39_10, gQ39_11, gQ39_12, gQ48_0, gQ48_1, gQ51_2, gQ53_0, gQ53_1, gQ60_0, gQ60_1, gQ60_2, gQ64_1, gQ64_14, gQ64_15, gQ64_16, gQ64_17, gQ64_18, gQ64_19, gQ64_20, gQ64_21, gQ64_24, gQ64_25, gQ64_27, gQ64_28, gQ64_29, gQ64_30, gQ64_31, gQ64_34, gQ64_35, gQ64_36, gQ64_39, gQ64_40, gQ64_41, gQ64_43, gQ64_44, gQ64_48, gQ64_50, gQ64_51, gQ64_52, gQ64_53, gQ64_54, gQ64_58, gQ64_59, gI30, gJ30, pI30, pJ30, rC30, gI31, gJ31, pI31, pJ31, rC31, gI33, gJ33, pI33, pJ33, rC33, gI36, gJ36, pI36, pJ36, rC36, gI39, gJ39, pI39, pJ39, rC39, gI48, gJ48, pI48, pJ48, rC48, gI51, gJ51, pI51, pJ51, rC51, gI53, gJ53, pI53, pJ53, rC53, gI60, gJ60, pI60, pJ60, rC60, gI64, gJ64, pI64, pJ64, rC64, Fg, m4]
    rfl
  · rw [if_pos c0, if_neg c0, b_244_234]
    simp (disch := first | assumption | (repeat' (first | apply fx_sI | apply fx_sJ | assumption | omega))) only [nI_eq]
    by_cases c1' : w = 1
    · rw [if_neg (fun z => z c1'), if_pos c1', b_244_239, b_244_249]
    · rw [if_pos c1', if_neg c1', b_244_244]
      have e242 : f_242 (some 64) (nI d0) g = some (mI (fcD E d0 (fcE E d0 h0)), g) := s_242 Fg Eg w2 hd c3 m1
      simp (disch := first | assumption | (repeat' (first | apply fx_sI | apply fx_sJ | assumption | omega))) only [bnd_e, grd_e, grd0, grd1, Option.bind_some, Option.isSome_some, gQ30_0, gQ30_1, gQ30_2, gQ30_3, gQ30_4, gQ30_5, gQ30_6, gQ30_7, gQ30_8, gQ30_9, gQ31_0, gQ33_0, gQ33_1, gQ36_0, gQ36_1, gQ39_0, gQ39_3, gQ39_4, gQ39_6, gQ39_8, gQ39_10, gQ39_11, gQ39_12, gQ48_0, gQ48_1, gQ51_2, gQ53_0, gQ53_1, gQ60_0, gQ60_1, gQ60_2, gQ64_1, gQ64_14, gQ64_15, gQ64_16, gQ64_17, gQ64_18, gQ64_19, gQ64_20, gQ64_21, gQ64_24, gQ64_25, gQ64_27, gQ64_28, gQ64_29, gQ64_30, gQ64_31, gQ64_34, gQ64_35, gQ64_36, gQ64_39, gQ64_40, gQ64_41, gQ64_43, gQ64_44, gQ64_48, gQ64_50, gQ64_51, gQ64_52, gQ64_53, gQ64_54, gQ64_58, gQ64_59, gI30, gJ30, pI30, pJ30, rC30, gI31, gJ31, pI31, pJ31, rC31, gI33, gJ33, pI33, pJ33, rC33, gI36, gJ36, pI36, pJ36, rC36, gI39, gJ39, pI39, pJ39, rC39, gI48, gJ48, pI48, pJ48, rC48, gI51, gJ51, pI51, pJ51, rC51, gI53, gJ53, pI53, pJ53, rC53, gI60, gJ60, pI60, pJ60, rC60, gI64, gJ64, pI64, pJ64, rC64, Fg, e242]
      rw [b_244_249]
end MORE
