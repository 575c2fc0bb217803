/-! walk, reach, stride: both -/
def wkW (E a : Nat → Nat) : Nat → Nat → (Nat → Nat) → Nat → Nat × (Nat → Nat) × Nat
  | 0, i, an, pl => (i, an, pl)
  | r + 1, i, an, pl => if dsB E an pl (nI (a i)) = true then wkW E a r (i + 1) (mnA E an pl (oA (nI (a i)))) (pp pl (oA (nI (a i)))) else (i, an, pl)
section WALK
variable {τ : Nat → Nat} {E a : Nat → Nat} {n : Nat}
theorem dsB_o {an : Nat → Nat} {pl : Nat} {x : Int32} (h : dsB E an pl x = true) : x = mI (oA x) ∧ oA x < 5 + 2 * E 2 ∧ kn E an pl (oA x) = 0 := by
  unfold dsB at h
  rw [Bool.and_eq_true] at h
  exact ⟨(isA_o h.1).1, (isA_o h.1).2, of_decide_eq_true h.2⟩
theorem wkW_ta (hW : WF E) : ∀ r i an pl d, E 2 ≤ d → (wkW E a r i an pl).2.1 d = an d := by
  intro r
  induction r with
  | zero => intro i an pl d _; rfl
  | succ r ih =>
    intro i an pl d hd
    unfold wkW
    split
    · rename_i c
      rw [ih _ _ _ d hd, mnA_ta hW (dsB_o c).2.1 d hd]
    · rfl
theorem wkW_i : ∀ r i an pl, i ≤ (wkW E a r i an pl).1 ∧ (wkW E a r i an pl).1 ≤ i + r := by
  intro r
  induction r with
  | zero => intro i an pl; exact ⟨Nat.le_refl _, Nat.le_refl _⟩
  | succ r ih =>
    intro i an pl
    unfold wkW
    split
    · have := ih (i + 1) (mnA E an pl (oA (nI (a i)))) (pp pl (oA (nI (a i)))); omega
    · exact ⟨Nat.le_refl _, by omega⟩
theorem l_163 {pw : Nat} (hT : TG τ) (hW : WF E) (hp : pw = 52 ∨ 98 ≤ pw) (h1p : pw < 1000000) : ∀ r i m h an pl n0, i + r = n → n ≤ 100000 → Fix h → ScR τ h 33 E an pl → VA E an pl → hI h 30 13 = nI n0 → hQ h 51 0 = some pw → hK h pw = 12 → n ≤ hL h pw → hI h 51 1 = nI n → (∀ t, t < n → hI h pw t = nI (a t)) →
    ∃ g, l_163_2 (r + 1 + m) (some 30) (nI i) h = some (nI (wkW E a r i an pl).1, g) ∧ Fz [35, 4000033, 14000030] h g ∧ ScR τ g 33 E (wkW E a r i an pl).2.1 (wkW E a r i an pl).2.2 ∧ VA E (wkW E a r i an pl).2.1 (wkW E a r i an pl).2.2 ∧ hI g 30 13 = nI (n0 + ((wkW E a r i an pl).1 - i)) := by
  intro r
  induction r with
  | zero =>
    intro i m h an pl n0 hi hn hF hR hV h13 hq hk hl h51 ha
    obtain rfl : i = n := by omega
    refine ⟨h, ?_, Fz.rfl', hR, hV, ?_⟩
    · rw [show 0 + 1 + m = m + 1 by omega, l_163_2, b_163_2, gQ30_5 hF, Option.bind_some, gI51 hF, Option.bind_some, h51, if_pos (Int32.le_refl _), b_163_35]
      rfl
    · show hI h 30 13 = nI (n0 + (i - i))
      rw [Nat.sub_self]; exact h13
  | succ r ih =>
    intro i m h an pl n0 hi hn hF hR hV h13 hq hk hl h51 ha
    obtain ⟨g, a1, a2, a3, a4⟩ := s_155 (x := nI (a i)) hF hT hR hW hV h13
    have st : l_163_2 (r + 1 + m + 1) (some 30) (nI i) h = if ¬ dsA E an pl (nI (a i)) = 0 then b_163_35 (nI i) g else l_163_2 (r + 1 + m) (some 30) (nI (i + 1)) g := by
      rw [l_163_2, b_163_2, gQ30_5 hF, Option.bind_some, gI51 hF, Option.bind_some, h51, if_neg (by rw [nI_leI (by omega) (by omega)]; omega), b_163_13, gQ30_5 hF, Option.bind_some, gR51 hF, Option.bind_some, hq, aI_e hk (by omega) (by omega), Option.bind_some, ha i (by omega), rC30 hF, grd_e, Option.bind_some, a1, Option.bind_some]
      dsimp only
      by_cases c : ¬ dsA E an pl (nI (a i)) = 0
      · rw [if_pos c, if_pos c]
      · rw [if_neg c, if_neg c, b_163_29, bnd_e, nI_add]
    rw [show r + 1 + 1 + m = r + 1 + m + 1 by omega, st]
    unfold wkW
    cases hb : dsB E an pl (nI (a i))
    · have e := a4 hb
      subst e
      have nz' : ¬ dsA E an pl (nI (a i)) = 0 := by
        unfold dsB at hb
        unfold dsA
        cases hA : isA E (nI (a i))
        · rw [if_neg (by decide)]; decide
        · rw [hA, Bool.true_and] at hb
          rw [if_pos rfl]
          exact nI_n0 (by have := kn_lt (E := E) (an := an) (pl := pl) (o := oA (nI (a i))); omega) (of_decide_eq_false hb)
      rw [if_pos nz', b_163_35, if_neg (by decide)]
      exact ⟨g, rfl, Fz.rfl', hR, hV, by rw [Nat.sub_self]; exact h13⟩
    · obtain ⟨r1, r2, r3⟩ := a3 hb
      obtain ⟨o1, o2, o3⟩ := dsB_o hb
      have F1 := a2.fix hF (by decide)
      have z0 : dsA E an pl (nI (a i)) = 0 := by
        unfold dsA
        have : isA E (nI (a i)) = true := by unfold dsB at hb; rw [Bool.and_eq_true] at hb; exact hb.1
        rw [if_pos this, o3]; rfl
      rw [if_neg (fun z => z z0), if_pos rfl]
      have pwI : hI g pw = hI h pw := a2.I (by intro z hz; simp only [List.mem_cons, List.not_mem_nil, or_false] at hz; omega) h1p
      obtain ⟨g2, b1, b2, b3, b4, b5⟩ := ih (i + 1) m g _ _ (n0 + 1) (by omega) hn F1 r1 r2 r3 (by rw [a2.Q]; exact hq) (by rw [a2.K]; exact hk) (by rw [a2.L]; exact hl) (by rw [a2.I (by decide)]; exact h51) (fun t ht => by rw [pwI]; exact ha t ht)
      refine ⟨g2, b1, a2.then b2, b3, b4, ?_⟩
      rw [b5]
      have := wkW_i (E := E) (a := a) r (i + 1) (mnA E an pl (oA (nI (a i)))) (pp pl (oA (nI (a i))))
      congr 1
      omega
theorem s_163 {pw n0 : Nat} {h : Hp} (hF : Fix h) (hT : TG τ) (hW : WF E) (hN1 : hN h ≤ 1000000) (hR : ScR τ h 33 E (anE E) (E 340)) (hV : VA E (anE E) (E 340)) (h13 : hI h 30 13 = nI n0) (hA : AR h pw) (hl : n ≤ hL h pw) (h51 : hI h 51 1 = nI n) (ha : ∀ t, t < n → hI h pw t = nI (a t)) (hn : n ≤ 24300) :
    ∃ g, f_163 (some 30) h = some (nI (wkW E a n 0 (anE E) (E 340)).1, g) ∧ Fz [35, 4000033, 14000030] h g ∧ ScR τ g 33 E (wkW E a n 0 (anE E) (E 340)).2.1 (wkW E a n 0 (anE E) (E 340)).2.2 ∧ VA E (wkW E a n 0 (anE E) (E 340)).2.1 (wkW E a n 0 (anE E) (E 340)).2.2 ∧ hI g 30 13 = nI (n0 + (wkW E a n 0 (anE E) (E 340)).1) := by
  obtain ⟨m, hm⟩ := FU_ge (n + 1) (by omega)
  obtain ⟨g, b1, b2, b3, b4, b5⟩ := l_163 (a := a) hT hW hA.2.2.1 (by have := hA.2.2.2.1; omega) n 0 m h _ _ n0 (by omega) (by omega) hF hR hV h13 hA.1 hA.2.1 hl h51 ha
  refine ⟨g, ?_, b2, b3, b4, b5⟩
  rw [f_163, b_163_0, bnd_e, hm]
  exact b1
theorem l_281 (hW : WF E) : ∀ r i m h an pl, i + r = n → n ≤ 24300 → Fix h → MS h E an pl → VA E an pl → (∃ k, hI h 64 46 = nI k) → hI h 64 57 = nI n → (∀ t, t < n → hI h 94 t = nI (a t)) →
    ∃ g, l_281_11 (r + 1 + m) (some 64) (nI i) h = b_281_51 (some 64) (nI (wkW E a r i an pl).1) g ∧ Fz [46000064, 47000064, 87, 27000064, 74, 75, 88] h g ∧ MS g E (wkW E a r i an pl).2.1 (wkW E a r i an pl).2.2 ∧ VA E (wkW E a r i an pl).2.1 (wkW E a r i an pl).2.2 := by
  intro r
  induction r with
  | zero =>
    intro i m h an pl hi hn hF hM hV _ h57 ha
    obtain rfl : i = n := by omega
    refine ⟨h, ?_, Fz.rfl', hM, hV⟩
    rw [show 0 + 1 + m = m + 1 by omega, l_281_11, b_281_11, gI64 hF, Option.bind_some, h57, if_pos (Int32.le_refl _)]
    rfl
  | succ r ih =>
    intro i m h an pl hi hn hF hM hV h46 h57 ha
    obtain ⟨k0, h46⟩ := h46
    rw [show r + 1 + 1 + m = r + 1 + m + 1 by omega, l_281_11, b_281_11, gI64 hF, Option.bind_some, h57, if_neg (by rw [nI_leI (by omega) (by omega)]; omega), b_281_19, gQ64_54 hF, Option.bind_some, aI94 hF (by omega), Option.bind_some, ha i (by omega), rC64 hF, grd_e, Option.bind_some, s_264 hF hM.1 hW, Option.bind_some]
    dsimp only
    unfold wkW
    cases hA : isA E (nI (a i))
    · have hb : dsB E an pl (nI (a i)) = false := by unfold dsB; rw [hA]; rfl
      rw [if_pos (show bI false = 0 from rfl), hb, if_neg (by decide)]
      exact ⟨h, rfl, Fz.rfl', hM, hV⟩
    · obtain ⟨ex, ho⟩ := isA_o hA
      obtain ⟨g, c1, c2, c3, c4⟩ := s_261 hF hM hW hV ho h46
      have F1 := c2.fix hF (by decide)
      have kl := kn_lt (E := E) (an := an) (pl := pl) (o := oA (nI (a i)))
      rw [if_neg (show ¬ bI true = 0 by decide), b_281_32, gQ64_54 hF, Option.bind_some, aI94 hF (by omega), Option.bind_some, ha i (by omega), rC64 hF, grd_e, Option.bind_some]
      have c1' : f_261 (some 64) (nI (a i)) h = some (nI (kn E an pl (oA (nI (a i)))), g) := by rw [← ex] at c1; exact c1
      rw [c1', Option.bind_some]
      dsimp only
      by_cases c : kn E an pl (oA (nI (a i))) = 0
      · have hb : dsB E an pl (nI (a i)) = true := by unfold dsB; rw [hA, decide_eq_true c]; rfl
        obtain ⟨d1, d2⟩ := c3 c
        obtain ⟨g2, e1, e2, e3, e4⟩ := ih (i + 1) m g _ _ (by omega) hn F1 d1 (hV.mn hW ho c) ⟨_, d2⟩ (by rw [c2.I1 (by decide) (by decide)]; exact h57) (fun t ht => by rw [c2.I (by decide)]; exact ha t ht)
        rw [if_neg (fun z => z (by rw [c]; rfl)), b_281_45, bnd_e, nI_add, hb, if_pos rfl, e1]
        exact ⟨g2, rfl, c2.then e2, e3, e4⟩
      · have hb : dsB E an pl (nI (a i)) = false := by unfold dsB; rw [hA, decide_eq_false c]; rfl
        rw [if_pos (nI_n0 (by omega) c), hb, if_neg (by decide)]
        exact ⟨g, rfl, c2, (c4 c).1, hV⟩
theorem s_281 {n0 : Nat} {h : Hp} (hF : Fix h) (hB : Bg h E) (hW : WF E) (hV : VA E (anE E) (E 340)) (hE : ∀ i, E i < 100000) (h23 : hI h 64 23 = nI n0) (h57 : hI h 64 57 = nI n) (hn : n ≤ 24300) (ha : ∀ t, t < n → hI h 94 t = nI (a t)) :
    ∃ g, f_281 (some 64) h = some (nI (wkW E a n 0 (anE E) (E 340)).1, g) ∧ Fz [1000064, 23000064, 24000064, 66, 87, 46000064, 47000064, 27000064, 74, 75, 88] h g ∧ NowE g (kpE E (wkW E a n 0 (anE E) (E 340)).2.1 (wkW E a n 0 (anE E) (E 340)).2.2) ∧ hI g 64 22 = 1 ∧ hI g 64 23 = nI (n0 + (wkW E a n 0 (anE E) (E 340)).1) := by
  have z0 : Fz [1000064] h (sI h 64 0 (nI 0)) := Fz.sI Fz.rfl' (Or.inr (by decide))
  have F0 : Fix (sI h 64 0 (nI 0)) := fx_sI hF (by omega)
  have B0 : Bg (sI h 64 0 (nI 0)) E := hB.cg (z0.I1 (by decide) (by decide)) (z0.I (by decide))
  have w2 := hW.2.2.1
  obtain ⟨g, a1, a2, a3, a4, a5⟩ := s_253 F0 B0 hW hV.1 hV.2.1
  have F1 := a2.fix F0 (by decide)
  obtain ⟨m, hm⟩ := FU_ge (n + 1) (by omega)
  obtain ⟨g2, b1, b2, b3, b4⟩ := l_281 (a := a) hW n 0 m g _ _ (by omega) hn F1 a3 hV ⟨_, a5⟩ (by rw [a2.I1 (by decide) (by decide), z0.I1 (by decide) (by decide)]; exact h57) (fun t ht => by rw [a2.I (by decide), z0.I (by decide)]; exact ha t ht)
  have F2 := b2.fix F1 (by decide)
  obtain ⟨g3, d1, d2, d3⟩ := s_254 F2 b3 (fun d hd => by
    by_cases c : d < E 2
    · have := b4.1 d c; omega
    · rw [wkW_ta hW n 0 _ _ d (by omega)]; exact hE (330 + d)) b4.2.2.2
  have F3 := d2.fix F2 (by decide)
  have n3 : hI g3 64 23 = nI n0 := by rw [d2.I (by decide), b2.I1 (by decide) (by decide), a2.I1 (by decide) (by decide), z0.I1 (by decide) (by decide)]; exact h23
  have z4 : Fz [24000064] g3 (sI g3 64 23 (nI (n0 + (wkW E a n 0 (anE E) (E 340)).1))) := Fz.sI Fz.rfl' (Or.inr (by decide))
  refine ⟨sI g3 64 23 (nI (n0 + (wkW E a n 0 (anE E) (E 340)).1)), ?_, (z0.wid (by decide)).then ((a2.wid (by decide)).then ((b2.wid (by decide)).then ((d2.wid (by decide)).then (z4.wid (by decide))))), d3.cg (z4.I (by decide)), ?_, ?_⟩
  · rw [f_281, b_281_0, pI64 hF, Option.bind_some, rC64 F0, grd_e, Option.bind_some, a1, Option.bind_some, bnd_e, hm, b1, b_281_51, rC64 F2, grd_e, Option.bind_some, d1, Option.bind_some, gI64 F3, Option.bind_some, n3, nI_add, pI64 F3, Option.bind_some]
  · rw [hI_sI, if_neg (by omega), d2.I (by decide), b2.I1 (by decide) (by decide)]; exact a4
  · rw [hI_sI, if_pos ⟨rfl, rfl⟩]
end WALK
/-- what reach answers -/
def rcA (E : Nat → Nat) (x : Int32) : Int32 := if (x.toInt = 0 ∨ x.toInt = 1) ∧ E 340 ≠ 0 then (if x.toInt = 0 then nI (wks E).2.2 else if E 2 ≤ 5 then nI (fb_ct (seenC (fnd E 0).2.1) 100) else -2) else -1
def sdA (E : Nat → Nat) : Int32 := if E 4 ≠ 0 ∧ csB E = true then mI (wyN E (E 4)) else -2
section REACH
variable {τ : Nat → Nat} {h : Hp} {E : Nat → Nat} {po pq pw : Nat} {x : Int32}
theorem s_164 (hF : Fix h) (hT : TG τ) (hN' : ∀ p, τ p = 1 → p < hN h) (hN1 : hN h + 3 < 1000000) (hr : hQ h 51 3 = none ∨ PR h po pq ∧ τ po ≠ 1 ∧ τ pq ≠ 1) (hp : 98 ≤ po ∧ 98 ≤ pq ∧ po < 1000000 ∧ pq < 1000000) (hR : ScR τ h 33 E (anE E) (E 340)) (hW : WF E) (hV : VA E (anE E) (E 340)) (hA : AR h pw) (hw : pw ≠ po ∧ pw ≠ pq) :
    ∃ g, f_164 (some 30) x h = some (rcA E x, g) ∧ (g = h ∨ ∃ po' pq', Fa ([4000051, 5000051, 6000051, 3000053, 4000053, 54, 55] ++ [po, pq]) h g ∧ Fix g ∧ PR g po' pq' ∧ (hN g ≤ hN h + 3 ∧ hC g ≤ hC h + 3 ∧ hS g ≤ hS h + 72900) ∧ ((po' = po ∧ pq' = pq) ∨ (hN h ≤ po' ∧ hN h ≤ pq'))) := by
  have e1 : (nI 1).toInt = 1 := by decide
  have pl1 := hV.2.2.2
  rw [f_164, b_164_0]
  unfold rcA
  by_cases c1 : x.toInt < 0
  · rw [if_pos (by rw [fa_lt, toI_0]; exact c1), b_164_19, if_neg (by omega)]
    exact ⟨h, rfl, Or.inl rfl⟩
  · rw [if_neg (by rw [fa_lt, toI_0]; exact c1), b_164_4]
    by_cases c2 : 1 < x.toInt
    · rw [if_pos (by rw [fa_lt, e1]; exact c2), b_164_19, if_neg (by omega)]
      exact ⟨h, rfl, Or.inl rfl⟩
    · rw [if_neg (by rw [fa_lt, e1]; exact c2), b_164_9, gQ30_1 hF, Option.bind_some, gI33 hF, Option.bind_some, hR.2.2.2]
      by_cases c3 : E 340 = 0
      · rw [if_neg (by rw [c3]; decide), b_164_19, if_neg (fun z => z.2 c3)]
        exact ⟨h, rfl, Or.inl rfl⟩
      · have p0 : (0 : Int32) ≤ mI (E 340) := by rw [i32_le, mI_lt0 (by omega)]; exact c3
        rw [if_pos p0, b_164_21, if_pos (show (x.toInt = 0 ∨ x.toInt = 1) ∧ E 340 ≠ 0 from ⟨by omega, c3⟩)]
        by_cases c4 : x.toInt = 0
        · have ex : x = 0 := by have := na_of (show 0 ≤ x.toInt by omega); rw [c4] at this; exact this
          obtain ⟨g, po', pq', a1, a2, a3, a4, a5, a6, a7, a8, a9⟩ := s_81 hF hT hN' (by omega) hr hR hW hV c3
          rw [if_neg (fun z => z ex), if_pos c4, b_164_25, gQ30_5 hF, Option.bind_some, gQ30_1 hF, Option.bind_some, rC51 hF, grd_e, Option.bind_some, a1, Option.bind_some]
          exact ⟨g, rfl, Or.inr ⟨po', pq', a3, a4, a2, by omega, a8⟩⟩
        · have ex : ¬ x = 0 := fun z => c4 (by rw [z]; rfl)
          have f70 : f_70 (some 51) (some 33) h = some (bI (csB E), h) := s_70 hF hR hW.2.2.1 hV.2.2.2
          rw [if_pos ex, if_neg c4, b_164_37, gQ30_5 hF, Option.bind_some, gQ30_1 hF, Option.bind_some, rC51 hF, grd_e, Option.bind_some, f70, Option.bind_some]
          dsimp only
          by_cases c5 : E 2 ≤ 5
          · have hc : csB E = true := decide_eq_true ⟨c3, c5⟩
            obtain ⟨g, po', pq', a1, a2, a3, a4, a5, a6, a7, a8, a9, a10, a11⟩ := s_71 (cl := 0) hF hT hN' (by omega) hr hR hW hV c5 c3 (by omega)
            rw [hc, if_pos (show ¬ bI true = 0 by decide), if_pos c5, b_164_54, gQ30_5 hF, Option.bind_some, gQ30_1 hF, Option.bind_some, rC51 hF, grd_e, Option.bind_some]
            have a1' : f_71 (some 51) (some 33) (-1) h = some (mI (fnd E 0).1, g) := a1
            rw [a1', Option.bind_some]
            dsimp only
            rw [gQ30_5 a5, Option.bind_some, rC51 a5, grd_e, Option.bind_some, s_80 a5 a2 a3, Option.bind_some]
            exact ⟨g, rfl, Or.inr ⟨po', pq', a4, a5, ⟨a11, a2.1⟩, by omega, a9⟩⟩
          · have hc : csB E = false := decide_eq_false (by omega)
            rw [hc, if_neg (fun z => z rfl), if_neg c5, b_164_51]
            exact ⟨h, rfl, Or.inl rfl⟩
theorem s_282 (hF : Fix h) (hB : Bg h E) (hW : WF E) (hV : VA E (anE E) (E 340)) : ∃ g, f_282 (some 64) x h = some (rcA E x, g) ∧ Fz (ZM ++ [95]) h g ∧ NowE g E ∧ hI g 64 22 = 1 := by
  obtain ⟨g, a1, a2, a3, a4, a5, F0, F1⟩ := askM hF hB
  have w2 := hW.2.2.1
  have pl1 := hV.2.2.2
  have zg : Fz (ZM ++ [95]) h g := a2.wid (by decide)
  rw [f_282, b_282_0, pI64 hF, Option.bind_some, rC64 F0, grd_e, Option.bind_some, a1, Option.bind_some, s_182, Option.bind_some, toI_nI (by omega), toI_nI (by omega)]
  dsimp only
  unfold rcA
  by_cases c1 : ((0 : Nat) : Int) ≤ x.toInt ∧ x.toInt ≤ ((1 : Nat) : Int)
  · rw [bI_T c1, if_neg nI10, b_282_18, gQ64_14 F1, Option.bind_some, aI66 F1 (i := 340) (by omega), Option.bind_some, a3.2.2.1]
    by_cases c3 : E 340 = 0
    · rw [if_neg (fun z => z (by rw [c3]; rfl)), b_282_30, if_neg (fun z => z.2 c3)]
      exact ⟨g, rfl, zg, a3, a4⟩
    · rw [if_pos (by rw [mI_m1 (by omega)]; exact c3), b_282_32, if_pos (show (x.toInt = 0 ∨ x.toInt = 1) ∧ E 340 ≠ 0 from ⟨by omega, c3⟩)]
      obtain ⟨g2, b1, b2, b3, b4, b5⟩ := s_253 F1 (Or.inl ⟨a4, a3⟩) hW hV.1 hV.2.1
      have F2 := b2.fix F1 (by decide)
      obtain ⟨m, hm⟩ := FU_ge (100 + 1) (by omega)
      obtain ⟨g3, d1, d2, d3⟩ := l_282c (v1 := x) 100 0 m g2 (by omega) F2 (fun j hj => absurd hj (Nat.not_lt_zero j))
      have F3 := d2.fix F2 (by decide)
      have z3 : Fz (ZM ++ [95]) h g3 := zg.then ((b2.wid (by decide)).then (d2.wid (by decide)))
      have M3 : MS g3 E (anE E) (E 340) := by
        refine ⟨b3.1.cg (d2.I (by decide)), fun d hd => ?_, ?_, fun c hc => ?_⟩
        · rw [d2.I (by decide)]; exact b3.2.1 d hd
        · rw [d2.I (by decide)]; exact b3.2.2.1
        · rw [d2.I (by decide)]; exact b3.2.2.2 c hc
      have m3 : hI g3 64 22 = 1 := by rw [d2.I (by decide)]; exact b4
      have n3 : hI g3 64 46 = nI 0 := by rw [d2.I (by decide)]; exact b5
      have e48 : b_282_48 (some 64) x g = b_282_73 (some 64) x g3 := by
        rw [b_282_48, rC64 F1, grd_e, Option.bind_some, b1, Option.bind_some, bnd_e, hm, ← d1]
      by_cases c4 : x.toInt = 0
      · have ex : x = nI 0 := by have := na_of (show 0 ≤ x.toInt by omega); rw [c4] at this; exact this
        obtain ⟨g4, k1, k2, k3⟩ := s_283 F3 M3 d3 hW hV.2.2.2 c3
        have F4 := k2.fix F3 (by decide)
        have wq : (wks E).2.2 = fb_ct (fun c => decide ((wks E).1 c ≠ 0)) 100 := (WQ.bf hW 101 0 _ (WQ.one (by omega))).2.2
        rw [if_pos (show ¬ x = nI 1 by rw [ex]; decide), e48, b_282_73, bnd_e, if_pos (show ¬ x = nI 1 by rw [ex]; decide), b_282_120, rC64 F3, grd_e, Option.bind_some, k1, Option.bind_some, if_pos c4]
        have e0 := s_282n F4 k3.1
        refine ⟨g4, ?_, z3.then (k2.wid (by decide)), M3.1.cg (k2.I (by decide)), by rw [k2.I1 (by decide) (by decide)]; exact m3⟩
        rw [wq]
        exact e0
      · have ex : x = nI 1 := by have := na_of (show 0 ≤ x.toInt by omega); rw [show x.toInt = 1 by omega] at this; exact this
        rw [if_neg (show ¬ ¬ x = nI 1 from fun z => z ex), b_282_37, rC64 F1, grd_e, Option.bind_some, s_203 F1 a3, Option.bind_some, if_neg c4]
        dsimp only
        by_cases c5 : E 2 ≤ 5
        · obtain ⟨g4, k1, k2, k3, k4, k5⟩ := s_277 (cl := 0) F3 M3 n3 hW hV c5 c3 (by omega)
          have F4 := k2.fix F3 (by decide)
          have M4 : MET g4 (fun _ => false) := fun c hc => by rw [k2.I (by decide)]; exact d3 c hc
          have ql := k5.le
          obtain ⟨m2, hm2⟩ := FU_ge ((fnd E 0).2.2.2 + 1) (by omega)
          obtain ⟨g5, p', q1, q2, q3, q4⟩ := l_282q k5 (fnd E 0).2.2.2 0 m2 g4 (fun _ => false) (by omega) F4 k4.2.1 k4.2.2 M4 (fun c => ⟨fun z => (by cases z), fun ⟨t, ht, _⟩ => absurd ht (Nat.not_lt_zero t)⟩)
          have F5 := q2.fix F4 (by decide)
          have ee : fb_ct p' 100 = fb_ct (seenC (fnd E 0).2.1) 100 := fb_ct_cong (fun c hc => by
            have i1 := q4 c
            have i2 := seenC_iff k5 hc
            cases u1 : p' c <;> cases u2 : seenC (fnd E 0).2.1 c
            · rfl
            · rw [i1.2 (i2.1 u2)] at u1; cases u1
            · rw [i2.2 (i1.1 u1)] at u2; cases u2
            · rfl)
          refine ⟨g5, ?_, z3.then ((k2.wid (by decide)).then (q2.wid (by decide))), k3.cg (q2.I (by decide)), by rw [q2.I (by decide), k2.I1 (by decide) (by decide)]; exact m3⟩
          have k1' : f_277 (some 64) (-1) g3 = some (mI (fnd E 0).1, g4) := k1
          rw [if_pos (by rw [nI_leI (by omega) (by omega)]; exact c5), e48, b_282_73, bnd_e, if_neg (fun z => z ex), b_282_80, rC64 F3, grd_e, Option.bind_some, k1', Option.bind_some, bnd_e, hm2, if_pos c5, ← ee]
          have e0 := s_282n F5 q3
          rw [← e0]
          exact q1
        · rw [if_neg (by rw [nI_leI (by omega) (by omega)]; exact c5), b_282_45, if_neg c5]
          exact ⟨g, rfl, zg, a3, a4⟩
  · rw [bI_F c1, if_pos (show nI 0 = 0 from rfl), b_282_30, if_neg (by omega)]
    exact ⟨g, rfl, zg, a3, a4⟩
theorem s_166 (hF : Fix h) (hT : TG τ) (hN' : ∀ p, τ p = 1 → p < hN h) (hN1 : hN h + 3 < 1000000) (hr : hQ h 51 3 = none ∨ PR h po pq ∧ τ po ≠ 1 ∧ τ pq ≠ 1) (hR : ScR τ h 33 E (anE E) (E 340)) (hW : WF E) (hV : VA E (anE E) (E 340)) :
    ∃ g, f_166 (some 30) h = some (sdA E, g) ∧ (g = h ∨ ∃ po' pq', Fa ([4000051, 5000051, 6000051, 3000053, 4000053, 54, 55] ++ [po, pq]) h g ∧ Fix g ∧ PR g po' pq' ∧ (hN g ≤ hN h + 3 ∧ hC g ≤ hC h + 3 ∧ hS g ≤ hS h + 72900) ∧ ((po' = po ∧ pq' = pq) ∨ (hN h ≤ po' ∧ hN h ≤ pq'))) := by
  obtain ⟨q, r⟩ := ask33 hF hR
  have w4 := hW.2.2.2.2.1
  have k4 := hR.2.1.1
  have e7 : hI h (rq h 33 2) 7 = mI (E 4) := hR.2.1.2.2.2.2.2.2.1.2.2.2.2
  have f70 : f_70 (some 51) (some 33) h = some (bI (csB E), h) := s_70 hF hR hW.2.2.1 hV.2.2.2
  rw [f_166, b_166_0, gQ30_1 hF, Option.bind_some, q, Option.bind_some, gI_e k4, Option.bind_some, e7]
  unfold sdA
  by_cases c0 : E 4 = 0
  · rw [if_pos (by rw [mI_lt0 (by omega)]; exact c0), b_166_27, if_neg (fun z => z.1 c0)]
    exact ⟨h, rfl, Or.inl rfl⟩
  · rw [if_neg (by rw [mI_lt0 (by omega)]; exact c0), b_166_13, gQ30_5 hF, Option.bind_some, gQ30_1 hF, Option.bind_some, rC51 hF, grd_e, Option.bind_some, f70, Option.bind_some]
    dsimp only
    cases hc : csB E
    · rw [if_neg (fun z => z rfl), b_166_27, if_neg (fun z => by cases z.2)]
      exact ⟨h, rfl, Or.inl rfl⟩
    · obtain ⟨c3, c5⟩ := csB_t hc
      obtain ⟨g, po', pq', a1, a2, a3, a4, a5, a6, a7, a8, a9, a10, a11⟩ := s_71 (cl := E 4) hF hT hN' (by omega) hr hR hW hV c5 c3 w4
      have rest : (∃ po' pq', Fa ([4000051, 5000051, 6000051, 3000053, 4000053, 54, 55] ++ [po, pq]) h g ∧ Fix g ∧ PR g po' pq' ∧ (hN g ≤ hN h + 3 ∧ hC g ≤ hC h + 3 ∧ hS g ≤ hS h + 72900) ∧ ((po' = po ∧ pq' = pq) ∨ (hN h ≤ po' ∧ hN h ≤ pq'))) := ⟨po', pq', a4, a5, ⟨a11, a2.1⟩, by omega, a9⟩
      rw [if_pos (show ¬ bI true = 0 by decide), if_pos ⟨c0, rfl⟩, b_166_30, gQ30_5 hF, Option.bind_some, gQ30_1 hF, Option.bind_some, Option.bind_some, q, Option.bind_some, gI_e k4, Option.bind_some, rC51 hF, grd_e, Option.bind_some, e7, a1, Option.bind_some, bnd_e]
      dsimp only
      by_cases c : (fnd E (E 4)).1 = 0
      · have w0 : wyN E (E 4) = 0 := by unfold wyN; rw [if_pos c]
        rw [c, if_neg (by decide), b_166_56, b_166_68, w0]
        exact ⟨g, rfl, Or.inr rest⟩
      · obtain ⟨st, hst⟩ : ∃ st, (fnd E (E 4)).1 = st + 1 := ⟨(fnd E (E 4)).1 - 1, by omega⟩
        obtain ⟨i, hi, hsi⟩ := fnd_in hW hV c5 c3 hst
        have stl := (a3.2.2.1 i hi).1
        have hsi' : (fnd E (E 4)).2.2.1 i = st := hsi
        rw [hsi'] at stl
        have w1 : wyN E (E 4) = pLn (fnd E (E 4)).2.1 24300 st + 1 := by unfold wyN; rw [if_neg c, hst]; rfl
        rw [hst, mI_s, if_pos (by rw [show (0 : Int32) = nI 0 from rfl, nI_leI (by omega) (by omega)]; omega), b_166_60, gQ30_5 a5, Option.bind_some, rC51 a5, grd_e, Option.bind_some, s_78 a5 a2 a3 hi hsi, Option.bind_some, b_166_68, w1, mI_s]
        exact ⟨g, rfl, Or.inr rest⟩
theorem s_285 (hF : Fix h) (hB : Bg h E) (hW : WF E) (hV : VA E (anE E) (E 340)) : ∃ g, f_285 (some 64) h = some (sdA E, g) ∧ Fz ZM h g ∧ NowE g E ∧ hI g 64 22 = 1 := by
  obtain ⟨g, a1, a2, a3, a4, a5, F0, F1⟩ := askM hF hB
  have w2 := hW.2.2.1
  have w4 := hW.2.2.2.2.1
  have pl1 := hV.2.2.2
  have zg : Fz ZM h g := a2.wid (by decide)
  rw [f_285, b_285_0, pI64 hF, Option.bind_some, rC64 F0, grd_e, Option.bind_some, a1, Option.bind_some, gQ64_14 F1, Option.bind_some, aI66 F1 (i := 4) (by omega), Option.bind_some, a3.2.1]
  unfold sdA
  by_cases c0 : E 4 = 0
  · rw [if_pos (by rw [c0]; rfl), b_285_39, if_neg (fun z => z.1 c0)]
    exact ⟨g, rfl, zg, a3, a4⟩
  · rw [if_neg (by rw [mI_m1 (by omega)]; exact c0), b_285_19, gQ64_14 F1, Option.bind_some, aI66 F1 (i := 340) (by omega), Option.bind_some, a3.2.2.1]
    by_cases c3 : E 340 = 0
    · rw [if_pos (by rw [c3]; rfl), b_285_39, if_neg (fun z => (csB_t z.2).1 c3)]
      exact ⟨g, rfl, zg, a3, a4⟩
    · rw [if_neg (by rw [mI_m1 (by omega)]; exact c3), b_285_31, rC64 F1, grd_e, Option.bind_some, s_203 F1 a3, Option.bind_some]
      dsimp only
      by_cases c5 : E 2 ≤ 5
      · obtain ⟨k, d1, d2, d3, d4, d5, d6⟩ := s_278 (cl := E 4) F1 (Or.inl ⟨a4, a3⟩) hW hV c5 c3 w4
        rw [if_pos (by rw [nI_leI (by omega) (by omega)]; exact c5), b_285_42, gQ64_14 F1, Option.bind_some, aI66 F1 (i := 4) (by omega), Option.bind_some, a3.2.1, rC64 F1, grd_e, Option.bind_some, d1, Option.bind_some, if_pos ⟨c0, decide_eq_true ⟨c3, c5⟩⟩]
        exact ⟨k, rfl, zg.then (d2.wid (by decide)), d3, d4⟩
      · rw [if_neg (by rw [nI_leI (by omega) (by omega)]; exact c5), b_285_39, if_neg (fun z => c5 (csB_t z.2).2)]
        exact ⟨g, rfl, zg, a3, a4⟩
end REACH
