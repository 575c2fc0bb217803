/-! scenes: who stands where, what is in the way, what knocks -/
section SC2
variable {τ : Nat → Nat} {h : Hp} {s : Nat} {E an : Nat → Nat} {pl : Nat}
theorem mI_pos {n : Nat} (h0 : n ≠ 0) : mI n = nI (n - 1) := by
  unfold mI
  rw [if_neg h0]
theorem near_eq {d p : Nat} (hp : p < 100) : (((loM (lfc E d (dHg E d) 0) ||| loM (lfc E d (dHg E d) (an d))) &&& mkM (adj p) 50) ||| ((hiM (lfc E d (dHg E d) 0) ||| hiM (lfc E d (dHg E d) (an d))) &&& mkM (fun c => adj p (c + 50)) 50) = 0) = (nearB E an (p + 1) d = false) := by
  apply propext
  unfold nearB
  rw [decide_eq_true (by omega), Bool.true_and, Nat.add_sub_cancel, ← Bool.not_eq_true, exB_iff]
  constructor
  · rintro z ⟨c, _, h2, h3⟩
    have h2 : c < 100 := by omega
    rw [Bool.and_eq_true] at h3
    by_cases c5 : c < 50
    · have t := tb0.1 z c
      rw [Nat.testBit_or, Nat.testBit_and, Nat.testBit_or, lfH_lo c5, lfH_lo c5, mkM_tb, decide_eq_true c5, Bool.true_and, h3.1, Bool.and_true] at t
      have t2 : (lfH E d (dHg E d) 0 c || lf E an d c) = false := by
        cases hq : (lfH E d (dHg E d) 0 c || lf E an d c)
        · rfl
        · unfold lf at hq
          rw [hq] at t
          exact absurd t (by simp)
      rw [t2] at h3
      exact Bool.noConfusion h3.2
    · have t := tb0.1 z (c - 50)
      rw [Nat.testBit_or, Nat.testBit_and, Nat.testBit_and, Nat.testBit_or, Nat.testBit_or, lfH_hi (by omega), lfH_hi (by omega), mkM_tb (fun c => adj p (c + 50)), decide_eq_true (show c - 50 < 50 by omega), Bool.true_and, show c - 50 + 50 = c by omega, h3.1, Bool.and_true] at t
      have t2 : (lfH E d (dHg E d) 0 c || lf E an d c) = false := by
        cases hq : (lfH E d (dHg E d) 0 c || lf E an d c)
        · rfl
        · unfold lf at hq
          rw [hq] at t
          exact absurd t (by simp)
      rw [t2] at h3
      exact Bool.noConfusion h3.2
  · intro z
    rw [tb0]
    intro i
    rw [Nat.testBit_or, Nat.testBit_and, Nat.testBit_and, Nat.testBit_or, Nat.testBit_or, mkM_tb, mkM_tb]
    by_cases i5 : i < 50
    · rw [decide_eq_true i5, Bool.true_and, Bool.true_and, lfH_lo i5, lfH_lo i5]
      have e1 : ((lfH E d (dHg E d) 0 i || lfH E d (dHg E d) (an d) i) && adj p i) = false := by
        rw [← Bool.not_eq_true, Bool.and_eq_true]
        intro q
        exact z ⟨i, by omega, by omega, by rw [Bool.and_eq_true]; exact ⟨q.2, q.1⟩⟩
      have e2 : ((hiM (lfc E d (dHg E d) 0)).testBit i || (hiM (lfc E d (dHg E d) (an d))).testBit i) = (lfH E d (dHg E d) 0 (i + 50) || lfH E d (dHg E d) (an d) (i + 50)) := by
        rw [← lfH_hi (show 50 ≤ i + 50 by omega), ← lfH_hi (show 50 ≤ i + 50 by omega), Nat.add_sub_cancel]
      rw [e1, e2, Bool.false_or, ← Bool.not_eq_true, Bool.and_eq_true]
      intro q
      exact z ⟨i + 50, by omega, by omega, by rw [Bool.and_eq_true]; exact ⟨q.2, q.1⟩⟩
    · rw [decide_eq_false i5]; simp
theorem s_87 {d : Nat} (hF : Fix h) (hs : SP s) (hS : ScR τ h s E an pl) (hW : WF E) (h3 : ∀ d, d < E 2 → an d < 3) (hp : pl ≤ 100) (hd : d < E 2) : f_87 (some s) (nI d) h = some (bI (nearB E an pl d), h) := by
  obtain ⟨q0, q1, q2, q3, q4, q5, q6, q7⟩ := spF hF hs
  obtain ⟨p0, hH, p1, p2⟩ := hS
  have hd2 := hH.dr hd
  obtain ⟨k, ge, t, a0, a1, a2, _, hcl, _, hw⟩ := hH
  obtain ⟨dk, dge, dt, b0, b1, b2, b3, b4, _, m1, m2⟩ := hd2.2
  have w2 := hW.2.2.1
  have hp1 := p1 d hd
  have hg := hW.hg hd
  have ha := h3 d hd
  by_cases c : pl = 0
  · subst c
    have n0 : ¬ 0 ≤ mI 0 := by decide
    simp (disch := first | assumption | (repeat' (first | apply fx_sI | apply fx_sJ | assumption | omega))) only [f_87, b_87_0, b_87_7, b_87_9, b_87_98, b_87_102, b_87_103, ↓reduceIte, gI_e q0, p2, Option.bind_some, n0, grd0]
    rfl
  · have e1 := m1 (dHg E d) 0 hg (by omega)
    have e2 := m1 (dHg E d) (an d) hg ha
    have n0 : 0 ≤ nI (pl - 1) := nI_pos' (by omega)
    rw [Nat.add_zero] at e1
    rw [mI_pos c] at p2
    have nr := near_eq (E := E) (an := an) (d := d) (p := pl - 1) (by omega)
    rw [show pl - 1 + 1 = pl by omega] at nr
    have l0 : lN 0 = 0 := rfl
    have b1' := loM_lt (lfc E d (dHg E d) 0)
    have b2' := loM_lt (lfc E d (dHg E d) (an d))
    have b3' := hiM_lt (lfc E d (dHg E d) 0)
    have b4' := hiM_lt (lfc E d (dHg E d) (an d))
    have hb : (((loM (lfc E d (dHg E d) 0) ||| loM (lfc E d (dHg E d) (an d))) &&& mkM (adj (pl - 1)) 50) ||| ((hiM (lfc E d (dHg E d) 0) ||| hiM (lfc E d (dHg E d) (an d))) &&& mkM (fun c => adj (pl - 1) (c + 50)) 50)) < 9223372036854775808 := by
      have := or_lt (k := 50) (Nat.lt_of_le_of_lt Nat.and_le_left (or_lt b1' b2')) (Nat.lt_of_le_of_lt (Nat.and_le_left (n := hiM (lfc E d (dHg E d) 0) ||| hiM (lfc E d (dHg E d) (an d))) (m := mkM (fun c => adj (pl - 1) (c + 50)) 50)) (or_lt b3' b4')) (a := (loM (lfc E d (dHg E d) 0) ||| loM (lfc E d (dHg E d) (an d))) &&& mkM (adj (pl - 1)) 50)
      omega
    simp (disch := first | assumption | (repeat' (first | apply fx_sI | apply fx_sJ | assumption | omega))) only [f_87, b_87_0, b_87_7, b_87_9, b_87_98, b_87_102, b_87_103, ↓reduceIte, gI_e q0, p2, Option.bind_some, n0, gQ_e q0, gQ_e k, gQ_e dk, p0, q1, q2, a1.1, aQ_n a1.2.1 (show 15 ≤ 16 ∧ 16 ≤ 18 by omega) a1.2.2.1, hd2.1, aI_n q3 q4, aI_n q5 q6, hp1.1, hp1.2, bnd_e, pk_mul, nI_add, b0.1, b1.1, aJ_n b0.2.1 b0.2.2.1, aJ_n b1.2.1 b1.2.2.1, e1.1, e1.2, e2.1, e2.2, s_88a, abI_L (pl - 1) (show pl - 1 < 100 by omega), abI_H (pl - 1) (show pl - 1 < 100 by omega), Option.map_some, fb_orL, fb_andL, lc0, l0, lN_eq0 hb, nr, grd0, grd1]
    cases nearB E an pl d <;> rfl
theorem bd_st {a : Nat} (hF : Fix h) (ha : a < 4) : aI 12 (some 27) (nI a) h = some (zI (stX a)) ∧ aI 12 (some 28) (nI a) h = some (zI (stY a)) := by
  have e1 := hF.2.2.2.2.2.1
  have e2 := hF.2.2.2.2.2.2
  rw [aI27 hF ha, aI28 hF ha, e1, e2]
  rcases (show a = 0 ∨ a = 1 ∨ a = 2 ∨ a = 3 by omega) with rfl | rfl | rfl | rfl <;> exact ⟨rfl, rfl⟩
theorem tgt_bd {A : Nat} (hp : pl ≤ 100) : -2 < (tgt pl A).1 ∧ (tgt pl A).1 < 12 ∧ -2 < (tgt pl A).2 ∧ (tgt pl A).2 < 12 := by
  unfold tgt stX stY
  dsimp only
  refine ⟨?_, ?_, ?_, ?_⟩ <;> (repeat' split) <;> omega
theorem wkB_in {p : Int × Int} (hW : E 0 ≤ 10 ∧ E 1 ≤ 10) (h : wkB E p = true) : 0 ≤ p.1 ∧ p.1 < 10 ∧ 0 ≤ p.2 ∧ p.2 < 10 := by
  unfold wkB inE at h
  rw [Bool.and_eq_true] at h
  have := of_decide_eq_true h.1
  omega
theorem s_91 {A : Nat} (hF : Fix h) (hs : SP s) (hS : ScR τ h s E an pl) (hW : WF E) (h3 : ∀ d, d < E 2 → an d < 3) (hp : pl ≤ 100) (h0 : pl ≠ 0) (hA : A < 4) : f_91 (some s) (nI A) h = some (nI (stepK E an pl A), h) := by
  obtain ⟨q0, q1, q2, q3, q4, q5, q6, q7⟩ := spF hF hs
  have hS' := hS
  obtain ⟨p0, hH, p1, p2⟩ := hS'
  have st := bd_st hF hA
  have hk := hH.1
  have ge := hH.2.1
  rw [mI_pos h0] at p2
  have t1 : nI ((pl - 1) % 10) + zI (stX A) = zI (tgt pl A).1 := by rw [nz, zI_add]; rfl
  have t2 : nI ((pl - 1) / 10) + zI (stY A) = zI (tgt pl A).2 := by rw [nz, zI_add]; rfl
  have tb := tgt_bd (A := A) hp
  have z1 : (zI (tgt pl A).1).toInt = (tgt pl A).1 := zI_toInt (by omega) (by omega)
  have z2 : (zI (tgt pl A).2).toInt = (tgt pl A).2 := zI_toInt (by omega) (by omega)
  have e51 := s_51 (x := zI (tgt pl A).1) (y := zI (tgt pl A).2) hH hW
  rw [z1, z2] at e51
  have e51' : f_51 (some (rq h s 2)) (zI (tgt pl A).1) (zI (tgt pl A).2) h = some (bI (wkB E (tgt pl A)), h) := e51
  simp (disch := first | assumption | (repeat' (first | apply fx_sI | apply fx_sJ | assumption | omega))) only [f_91, b_91_0, b_91_40, b_91_42, b_91_55, b_91_59, b_91_60, ↓reduceIte, gI_e q0, gQ_e q0, p0, p2, Option.bind_some, d10, grd_e, st.1, st.2, bnd_e, ↓pk_rem, pk_div, t1, t2, rC_e hk ge, e51', bI_0', rC_e q0 q7]
  unfold stepK
  cases c : wkB E (tgt pl A)
  · rfl
  · have b := wkB_in ⟨hW.1, hW.2.1⟩ c
    have e : nI 10 * zI (tgt pl A).2 + zI (tgt pl A).1 = nI (cN (tgt pl A)) := zI_cN b
    rw [e, s_85 hF hs hS hW h3 (cN_lt (x := (tgt pl A).1) (y := (tgt pl A).2) b)]
    simp only [Option.bind_some, bI_0']
    cases leafB E an (cN (tgt pl A)) <;> rfl
theorem shr_eq {d a e : Nat} : ((loM (lfc E d (dHg E d) a) &&& loM (lfc E e (dHg E e) (an e))) ||| (hiM (lfc E d (dHg E d) a) &&& hiM (lfc E e (dHg E e) (an e))) = 0) = (shrB E an d a e = false) := by
  apply propext
  unfold shrB
  rw [← Bool.not_eq_true, exB_iff]
  constructor
  · rintro z ⟨c, _, h2, h3⟩
    have h2 : c < 100 := by omega
    by_cases c5 : c < 50
    · have t := tb0.1 z c
      rw [Nat.testBit_or, Nat.testBit_and, lfH_lo c5, lfH_lo c5] at t
      unfold lf at h3
      rw [h3] at t
      exact Bool.noConfusion t
    · have t := tb0.1 z (c - 50)
      rw [Nat.testBit_or, Nat.testBit_and, Nat.testBit_and, lfH_hi (by omega), lfH_hi (by omega)] at t
      unfold lf at h3
      rw [h3, Bool.or_true] at t
      exact Bool.noConfusion t
  · intro z
    rw [tb0]
    intro i
    rw [Nat.testBit_or, Nat.testBit_and, Nat.testBit_and]
    by_cases i5 : i < 50
    · rw [lfH_lo i5, lfH_lo i5]
      have e1 : (lfH E d (dHg E d) a i && lfH E e (dHg E e) (an e) i) = false := by
        rw [← Bool.not_eq_true]
        intro q
        exact z ⟨i, by omega, by omega, q⟩
      have e2 : ((hiM (lfc E d (dHg E d) a)).testBit i && (hiM (lfc E e (dHg E e) (an e))).testBit i) = (lfH E d (dHg E d) a (i + 50) && lfH E e (dHg E e) (an e) (i + 50)) := by
        rw [← lfH_hi (show 50 ≤ i + 50 by omega), ← lfH_hi (show 50 ≤ i + 50 by omega), Nat.add_sub_cancel]
      rw [e1, e2, Bool.false_or, ← Bool.not_eq_true]
      intro q
      exact z ⟨i + 50, by omega, by omega, q⟩
    · rw [tb_out (loM_lt (lfc E d (dHg E d) a)) (by omega), tb_out (hiM_lt (lfc E d (dHg E d) a)) (by omega)]; rfl
theorem l_93 {d a : Nat} (hF : Fix h) (hs : SP s) (hS : ScR τ h s E an pl) (hW : WF E) (h3 : ∀ d, d < E 2 → an d < 3) (hd : d < E 2) (ha : a < 3) : ∀ r i m, i + r = E 2 → l_93_52 (r + 1 + m) (some s) (nI d) (some (rq h (rq h (rq h s 2) 1) d)) (nI (3 * dHg E d + a)) (nI i) h = some (bI (exB (fun e => decide (e ≠ d) && shrB E an d a e) i r), h) := by
  obtain ⟨q0, q1, q2, q3, q4, q5, q6, q7⟩ := spF hF hs
  obtain ⟨p0, hH, p1, p2⟩ := hS
  have hd2 := hH.dr hd
  have hH' := hH
  obtain ⟨k, ge, t, a0, a1, a2, ⟨f0, f1, f2, f3, f4⟩, hcl, _, hw⟩ := hH'
  obtain ⟨dk, dge, dt, b0, b1, b2, b3, b4, _, m1, m2⟩ := hd2.2
  have w2 := hW.2.2.1
  have hg := hW.hg hd
  have e1 := m1 (dHg E d) a hg ha
  have l0 : lN 0 = 0 := rfl
  intro r
  induction r with
  | zero =>
    intro i m hi
    obtain rfl : i = E 2 := by omega
    rw [show 0 + 1 + m = m + 1 by omega]
    simp (disch := first | assumption | (repeat' (first | apply fx_sI | apply fx_sJ | assumption | omega))) only [l_93_52, f_93, b_93_0, b_93_17, b_93_35, b_93_37, b_93_52, b_93_64, b_93_140, b_93_147, b_93_149, b_93_155, ↓reduceIte, gQ_e q0, p0, gI_e k, f2, Option.bind_some, nI_leI, Nat.le_refl, exB]
    rfl
  | succ r ih =>
    intro i m hi
    have hi2 := hH.dr (show i < E 2 by omega)
    obtain ⟨ik, ige, it, c0, c1, c2, c3, c4, _, n1, n2⟩ := hi2.2
    have hp := p1 i (by omega)
    have hgi := hW.hg (show i < E 2 by omega)
    have hai := h3 i (by omega)
    have e2 := n1 (dHg E i) (an i) hgi hai
    have hb : ((loM (lfc E d (dHg E d) a) &&& loM (lfc E i (dHg E i) (an i))) ||| (hiM (lfc E d (dHg E d) a) &&& hiM (lfc E i (dHg E i) (an i)))) < 9223372036854775808 := by
      have := or_lt (k := 50) (Nat.lt_of_le_of_lt (Nat.and_le_left (m := loM (lfc E i (dHg E i) (an i)))) (loM_lt (lfc E d (dHg E d) a))) (Nat.lt_of_le_of_lt (Nat.and_le_left (m := hiM (lfc E i (dHg E i) (an i)))) (hiM_lt (lfc E d (dHg E d) a)))
      omega
    rw [show r + 1 + 1 + m = (r + 1 + m) + 1 by omega]
    simp (disch := first | assumption | (repeat' (first | apply fx_sI | apply fx_sJ | assumption | omega))) only [l_93_52, f_93, b_93_0, b_93_17, b_93_35, b_93_37, b_93_52, b_93_64, b_93_140, b_93_147, b_93_149, b_93_155, ↓reduceIte, gQ_e q0, gQ_e k, gQ_e dk, gQ_e ik, p0, q1, q2, a1.1, gI_e k, f2, Option.bind_some, nI_leI, show ¬ E 2 ≤ i by omega, aQ_n a1.2.1 (show 15 ≤ 16 ∧ 16 ≤ 18 by omega) a1.2.2.1, hi2.1, aI_n q3 q4, aI_n q5 q6, hp.1, hp.2, bnd_e, pk_mul, nI_add, b0.1, b1.1, c0.1, c1.1, aJ_n b0.2.1 b0.2.2.1, aJ_n b1.2.1 b1.2.2.1, aJ_n c0.2.1 c0.2.2.1, aJ_n c1.2.1 c1.2.2.1, e1.1, e1.2, e2.1, e2.2, fb_orL, fb_andL, lc0, l0, lN_eq0 hb, shr_eq, nI_eq, ih (i + 1) m (by omega), exB, grd1]
    by_cases c : i = d
    · rw [if_pos c, decide_eq_false (fun z => z c)]; rfl
    · rw [if_neg c, decide_eq_true c]
      cases shrB E an d a i <;> rfl
theorem s_93 {d a : Nat} (hF : Fix h) (hs : SP s) (hS : ScR τ h s E an pl) (hW : WF E) (h3 : ∀ d, d < E 2 → an d < 3) (hp : pl ≤ 100) (hd : d < E 2) (ha : a < 3) : f_93 (some s) (nI d) (nI a) h = some (bI (blkB E an pl d a), h) := by
  have hlp := l_93 hF hs hS hW h3 hd ha
  obtain ⟨q0, q1, q2, q3, q4, q5, q6, q7⟩ := spF hF hs
  obtain ⟨p0, hH, p1, p2⟩ := hS
  have hd2 := hH.dr hd
  have hH' := hH
  obtain ⟨k, ge, t, a0, a1, a2, ⟨f0, f1, f2, f3, f4⟩, hcl, _, hw⟩ := hH'
  have w2 := hW.2.2.1
  have hg := hW.hg hd
  have hp1 := p1 d hd
  obtain ⟨m, hm⟩ := FU_ge (E 2 + 1) (by omega)
  unfold blkB
  by_cases c : pl = 0
  · subst c
    have n0 : mI 0 < 0 := by decide
    simp (disch := first | assumption | (repeat' (first | apply fx_sI | apply fx_sJ | assumption | omega))) only [f_93, b_93_0, b_93_17, b_93_35, b_93_37, b_93_52, b_93_64, b_93_140, b_93_147, b_93_149, b_93_155, ↓reduceIte, gI_e q0, gQ_e q0, gQ_e k, p0, q1, a1.1, aQ_n a1.2.1 (show 15 ≤ 16 ∧ 16 ≤ 18 by omega) a1.2.2.1, hd2.1, p2, Option.bind_some, n0, aI_n q3 q4, hp1.1, bnd_e, pk_mul, nI_add]
    rw [hm, hlp (E 2) 0 m (by omega)]
    rfl
  · rw [mI_pos c] at p2
    have n0 : ¬ nI (pl - 1) < 0 := nI_pos (by omega)
    simp (disch := first | assumption | (repeat' (first | apply fx_sI | apply fx_sJ | assumption | omega))) only [f_93, b_93_0, b_93_17, b_93_35, b_93_37, b_93_52, b_93_64, b_93_140, b_93_147, b_93_149, b_93_155, ↓reduceIte, gI_e q0, gQ_e q0, gQ_e k, p0, q1, a1.1, aQ_n a1.2.1 (show 15 ≤ 16 ∧ 16 ≤ 18 by omega) a1.2.2.1, hd2.1, p2, Option.bind_some, n0, aI_n q3 q4, hp1.1, bnd_e, pk_mul, nI_add, rC_e hd2.2.1 hd2.2.2.1, grd_e, s_15 hd2.2 hg ha (show pl - 1 < 100 by omega), bI_0', grd1]
    rw [decide_eq_true c, Bool.true_and]
    cases lfH E d (dHg E d) a (pl - 1)
    · rw [if_pos rfl, hm, hlp (E 2) 0 m (by omega)]; rfl
    · rfl
end SC2
