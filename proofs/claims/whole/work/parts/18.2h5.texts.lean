/-! texts told: house, day, sentence -/
theorem NmR.lv {v w : Nat} (a : NmR v w) : v < 1125899906842625 := by
  obtain ⟨f, n, hf, hn, e, _⟩ := a
  rw [e]
  exact Nat.lt_of_lt_of_le (vF_lt (by omega) n (fun i hi => (hf i hi).2)) (Nat.le_trans (Nat.pow_le_pow_right (n := 27) (by omega) hn) (by decide))
section TEXTS
variable {τ : Nat → Nat} {h g k : Hp} {E N : Nat → Nat} {x y w : Int32}
theorem Gd.rfu {r : Int32} {A B : Hp → Option (Int32 × Hp)} {Z2 : List Nat} {kk : Nat} (G : Gd τ E N h) (hn : hN h ≤ 800000) (a : A h = some (r, g)) (rf : Rf h g kk) (b : B g = some (r, k)) (z2 : Fz Z2 g k) (hE : NowE k E) (h22 : hI k 64 22 = 1) (gb : GB k) (f10 : hI k 64 10 = nI kk) (t2 : hI k 64 2 = nI 0) (m23 : hI k 64 23 = hI g 64 23) (j70 : hJ k 70 = hJ g 70)
    (c2 : ∀ z, z ∈ Z2 → 64 ≤ z % 1000000 ∧ z % 1000000 < 98) (c3 : okNw (Ze ++ Z2) ∧ okFo (Ze ++ Z2) ∧ okOr (Ze ++ Z2) ∧ okWy (Ze ++ Z2) [] ∧ okJu (Ze ++ Z2) ∧ okIm (Ze ++ Z2) [] ∧ okHg (Ze ++ Z2) ∧ okRw (Ze ++ Z2) ∧ okPk (Ze ++ Z2)) : Call h A B := by
  have n98 := G.F.1
  obtain ⟨F1, z1, n1, i6, i1⟩ := rf
  have f1 : Fw τ Ze [] h g := G.fl z1 (by decide)
  have F2 : Fix k := z2.fix F1 (fun y hy => by have := c2 y hy; omega)
  have f2 : Fw τ Z2 [] g k := z2.fw (fun y hy => (c2 y hy).2) (by omega)
  have fw : Fw τ (Ze ++ Z2) [] h k := (f1.wid (fun z hz => Or.inl (List.mem_append.2 (Or.inl hz))) (fun _ q => q)).then (f2.wid (fun z hz => Or.inl (List.mem_append.2 (Or.inr hz))) (fun _ q => q)) n98
  have c12 : ∀ z, z ∈ Ze ++ Z2 → 30 ≤ z % 1000000 ∧ (z % 1000000 < 60 ∨ 64 ≤ z % 1000000) := fun z hz => by
    rcases List.mem_append.1 hz with q | q
    · have := (by decide : ∀ z, z ∈ Ze → 30 ≤ z % 1000000 ∧ z % 1000000 < 60) z q; omega
    · have := c2 z q; omega
  have lo : ∀ p, p < 64 → hI k p = hI g p := fun p hp => z2.I (fun y hy => by have := c2 y hy; omega)
  obtain ⟨e1, e5, e6, e7, e8, e9, e10, e11, e12⟩ := c3
  obtain ⟨ba, ag, p1, p2, p3, p4, p5, p6, p7, p8, p9, p10, p11, p12⟩ := G.all fw F2 (by rw [z2.N]; omega) ⟨fun z hz => (c12 z hz).2, by decide⟩
  obtain ⟨n, m1, m2⟩ := G.2.2.2.2.2.1
  refine ⟨r, g, k, τ, E, N, a, b, F1, ⟨f1.I (by decide), f1.L (by omega)⟩, ⟨⟨ba, G.1.2⟩, p1 e1, ⟨Or.inl ⟨h22, hE⟩, by rw [j70, f1.J (a := 70) (by decide)]; exact G.2.2.1.2.1, gb⟩, ⟨X0, 0, ⟨by rw [lo 31 (by omega)]; exact i1, by omega, fun i hi => absurd hi (Nat.not_lt_zero i)⟩, ⟨t2, by omega, fun i hi => absurd hi (Nat.not_lt_zero i)⟩⟩, ?_, ⟨n, by rw [lo 30 (by omega), f1.I1 (by decide) (by decide)]; exact m1, by rw [m23, f1.I (by decide)]; exact m2⟩, p5 e5, p6 e6, p7 e7, p8 e8, p9 e9, p10 e10, p11 e11, p12 e12⟩, fw.st n98 (fun z hz => by have := c12 z hz; omega) (by rw [z2.N, z2.C, z2.S]; omega)⟩
  unfold Dfk
  rw [lo 31 (by omega), i6, f10]
theorem TxM.fa {T : Nat → Nat} {n : Nat} {Z W : List Nat} (t : TxM h T n) (z : Fw τ Z W h g) (c : ∀ z, z ∈ Z → z % 1000000 < 64) : TxM g T n := by
  obtain ⟨t1, t2, t3⟩ := t
  exact ⟨by rw [z.I (fun y hy => by have := c y hy; omega)]; exact t1, t2, fun i hi => by rw [z.I (fun y hy => by have := c y hy; omega)]; exact t3 i hi⟩
theorem VA.zero {D : Nat → Nat} {an : Nat → Nat} {pl : Nat} (hW : WF D) (h0 : ∀ d, d < D 2 → an d = 0) (hp : pl ≤ 100) : VA D an pl := by
  refine ⟨fun d hd => by rw [h0 d hd]; omega, fun d hd => by rw [h0 d hd]; rfl, fun d e c hd he hn h1 => ?_, hp⟩
  unfold lf at *
  rw [h0 d hd] at h1
  rw [h0 e he]
  by_cases hc : c < 100
  · have i1 := (dw_iff hW hd hc).1 h1
    cases u : lfH D e (dHg D e) 0 c
    · rfl
    · have i2 := (dw_iff hW he hc).1 u
      omega
  · exact lfH_100 (by omega)
theorem call_2 (G : Gd τ E N h) (hn : hN h ≤ 800000) : Call h (f_132 (some 30)) (f_214 (some 64)) := by
  have n98 := G.F.1
  obtain ⟨T, sz, tc, tm⟩ := G.2.2.2.1
  obtain ⟨ce, co⟩ := s_132 (T := T) G.F G.tg G.tn (by omega) tc.1 tc.2.1 tc.2.2
  cases hr : hsR T sz 900 (sz + 1) 0 X0 0 with
  | error e =>
    obtain ⟨kk, e⟩ := e
    obtain ⟨g, a, rf⟩ := ce kk e hr
    have f1 : Fw τ Ze [] h g := G.fl rf.2.1 (by decide)
    have tm2 := tm.fa f1 (by decide)
    obtain ⟨k, b, z2, b1, b2, b3, b4, b5, b6, b7⟩ := (s_214 (T := T) rf.1 (G.bf f1 (by decide)) tm2.1 tm2.2.1 tm2.2.2).1 kk e hr
    have gb : GB k := fun i hi => by rw [z2.I (a := 96) (by decide), f1.I (a := 96) (by decide)]; exact G.2.2.1.2.2 i hi
    exact G.rfu hn a rf b z2 b1 b2 gb b3 b4 b6 b7 (by decide) ⟨by decide, by decide, by decide, by decide, by decide, by decide, by decide, by decide, by decide⟩
  | ok v =>
    obtain ⟨n', Y⟩ := v
    obtain ⟨g, a, F1, z1, n1, nN, i6, i1, wf, ho, nm, q2, i3, i35, i34, q11, q12, i13⟩ := co n' Y hr
    have f1 : Fw τ Zh [] h g := G.fl z1 (by decide)
    have tm2 := tm.fa f1 (by decide)
    obtain ⟨k, b, z2, b1, b2, b3, b4, b5, b6, b7, _⟩ := (s_214 (T := T) F1 (G.bf f1 (by decide)) tm2.1 tm2.2.1 tm2.2.2).2 n' Y hr
    have F2 : Fix k := z2.fix F1 (by decide)
    have f2 : Fw τ ZH [] g k := z2.fw (by decide) (by omega)
    have fw : Fw τ (Zh ++ ZH) [] h k := (f1.wid (by decide) (by decide)).then (f2.wid (by decide) (by decide)) n98
    obtain ⟨ba, ag, p1, p2, p3, p4, p5, p6, p7, p8, p9, p10, p11, p12⟩ := G.all fw F2 (by rw [z2.N]; omega) (by decide)
    have w2 := wf.2.2.1
    have sf : SmF Y (nwE E Y) := fun i hi => by unfold nwE; rw [if_pos hi]
    have d2 : nwE E Y 2 = Y 2 := sf 2 (by omega)
    have d340 : nwE E Y 340 = Y 4 := by unfold nwE; rw [if_neg (by omega), if_neg (by omega), if_pos rfl]
    have dan : ∀ d, d < 10 → anE (nwE E Y) d = 0 := fun d hd => by unfold anE nwE; rw [if_neg (by omega), if_pos (by omega)]
    have d341 : nwE E Y 341 = 0 := by unfold nwE; rw [if_neg (by omega), if_neg (by omega), if_neg (by omega), if_pos (Or.inl rfl)]
    have d462 : nwE E Y 462 = 0 := by unfold nwE; rw [if_neg (by omega), if_neg (by omega), if_neg (by omega), if_pos (Or.inr rfl)]
    have wd : WF (nwE E Y) := wf.sf sf
    have w4 := wf.2.2.2.2.1
    have ve : VE (nwE E Y) := ⟨wd, VA.zero wd (fun d hd => dan d (by omega)) (by omega), by omega, fun i hi => by omega⟩
    have mm := tgx_m (lo := hN h + 1) (hi := hN h + 5 + 6 * Y 2) (v := 1) G.1.1 (by omega)
    have bs : Ba (tgx τ (hN h + 1) (hN h + 5 + 6 * Y 2) 1) k := ba.tx (by omega) (by rw [z2.N]; omega)
    have ag2 : Ag (tgx τ (hN h + 1) (hN h + 5 + 6 * Y 2) 1) g k := z2.ag bs.tg (by decide)
    have lo : ∀ p, p < 64 → hI k p = hI g p := fun p hp => z2.I (fun y hy => by have := (by decide : ∀ z, z ∈ ZH → 64 ≤ z % 1000000) y hy; omega)
    have q2k : hQ k 33 2 = some (hN h + 1) := by rw [z2.Q]; exact q2
    have nc : NwC (tgx τ (hN h + 1) (hN h + 5 + 6 * Y 2) 1) k (nwE E Y) (fun d => Y (1000 + d)) := by
      refine ⟨⟨by rw [rqs q2k]; exact q2k, by rw [rqs q2k]; exact (ho.ag ag2).sm sf.sh wf, fun d hd => ?_, by rw [lo 33 (by omega), d340]; exact i3⟩, by rw [rqs q2k, d2]; exact nm.ag ag2, Or.inl ⟨by rw [z2.Q]; exact q11, d341⟩, Or.inl ⟨by rw [z2.Q]; exact q12, d462⟩⟩
      rw [d2] at hd
      rw [lo 34 (by omega), lo 35 (by omega), sf.hg (by omega), dan d (by omega)]
      exact ⟨i34 d hd, i35 d (by omega)⟩
    have nmm : NwM k (nwE E Y) (fun d => Y (1000 + d)) := by
      refine ⟨Or.inl ⟨b2, b1⟩, fun d hd => ?_, fun i hi => by rw [fw.I (a := 96) (by decide)]; exact G.2.2.1.2.2 i hi⟩
      rw [d2] at hd
      obtain ⟨_, r, _, _, _, _, r4⟩ := nm
      obtain ⟨p, w, _, _, _, _, nr⟩ := r4 d hd
      exact ⟨b7 d hd, nr.lv⟩
    refine ⟨nI n', g, k, tgx τ (hN h + 1) (hN h + 5 + 6 * Y 2) 1, nwE E Y, fun d => Y (1000 + d), a, b, F1, ⟨f1.I (by decide), f1.L (by omega)⟩, ⟨⟨bs, ve⟩, nc, nmm, ⟨X0, 0, ⟨by rw [lo 31 (by omega)]; exact i1, by omega, fun i hi => absurd hi (Nat.not_lt_zero i)⟩, ⟨b4, by omega, fun i hi => absurd hi (Nat.not_lt_zero i)⟩⟩, ?_, ⟨0, by rw [lo 30 (by omega)]; exact i13, b6⟩, p5 (by decide), p6 (by decide), (p7 (by decide)).mt mm, p8 (by decide), (p9 (by decide)).mt mm, (p10 (by decide)).mt mm, (p11 (by decide)).mt mm, (p12 (by decide)).mt mm⟩, fw.st n98 (by decide) (by rw [z2.N, z2.C, z2.S]; omega)⟩
    unfold Dfk
    rw [lo 31 (by omega), i6, b3]
theorem call_27 (G : Gd τ E N h) (hn : hN h ≤ 800000) : Call h (f_157 (some 30)) (f_268 (some 64)) := by
  have n98 := G.F.1
  have w2 := G.W.2.2.1
  obtain ⟨T, sz, tc, tm⟩ := G.2.2.2.1
  obtain ⟨ce, co⟩ := s_157 (T := T) G.F G.tg G.tn (by omega) tc.1 tc.2.1 tc.2.2 G.S G.2.1.2.1
  cases hr : dyA T sz 600 N (E 2) (sz + 1) 0 X0 with
  | error e =>
    obtain ⟨kk, e⟩ := e
    obtain ⟨g, a, rf⟩ := ce kk e hr
    have f1 : Fw τ Ze [] h g := G.fl rf.2.1 (by decide)
    have tm2 := tm.fa f1 (by decide)
    obtain ⟨k, b, z2, b1, b2, b3, b4, b5⟩ := (s_268 (T := T) rf.1 (G.bf f1 (by decide)) tm2.1 tm2.2.1 tm2.2.2 rfl w2 (fun d hd => by rw [f1.J (a := 70) (by decide)]; exact G.2.2.1.2.1 d hd)).1 kk e hr
    have gb : GB k := fun i hi => by rw [z2.I (a := 96) (by decide), f1.I (a := 96) (by decide)]; exact G.2.2.1.2.2 i hi
    exact G.rfu hn a rf b z2 b1 b2 gb b3 b4 (z2.I1 (by decide) (by decide)) (z2.J (by decide)) (by decide) ⟨by decide, by decide, by decide, by decide, by decide, by decide, by decide, by decide, by decide⟩
  | ok v =>
    obtain ⟨q, Y⟩ := v
    obtain ⟨g, a, F1, z1, n1, nN, i6, i1, q11, dy, dx⟩ := co q Y hr
    have f1 : Fw τ (Ze ++ [12000030]) [] h g := G.fl z1 (by decide)
    have tm2 := tm.fa f1 (by decide)
    obtain ⟨k, b, z2, b1, b2, b3, b4, b5, _⟩ := (s_268 (T := T) F1 (G.bf f1 (by decide)) tm2.1 tm2.2.1 tm2.2.2 rfl w2 (fun d hd => by rw [f1.J (a := 70) (by decide)]; exact G.2.2.1.2.1 d hd)).2 q Y hr
    have F2 : Fix k := z2.fix F1 (by decide)
    have f2 : Fw τ ZV [] g k := z2.fw (by decide) (by omega)
    have fw : Fw τ ((Ze ++ [12000030]) ++ ZV) [] h k := (f1.wid (by decide) (by decide)).then (f2.wid (by decide) (by decide)) n98
    obtain ⟨ba, ag, p1, p2, p3, p4, p5, p6, p7, p8, p9, p10, p11, p12⟩ := G.all fw F2 (by rw [z2.N]; omega) (by decide)
    have y60 := dx.1
    have lo' : ∀ i, i < 341 ∨ 462 ≤ i → dyX E Y i = E i := fun i hi => by unfold dyX; rw [if_neg (by omega), if_neg (by omega)]
    have sf : SmF E (dyX E Y) := fun i hi => lo' i (by omega)
    have d2 : dyX E Y 2 = E 2 := lo' 2 (by omega)
    have d341 : dyX E Y 341 = Y 900 := by unfold dyX; rw [if_pos rfl]
    have wd : WF (dyX E Y) := G.W.sf sf
    have dan : ∀ d, d < 10 → anE (dyX E Y) d = anE E d := fun d hd => lo' _ (by omega)
    have ve : VE (dyX E Y) := by
      refine ⟨wd, ?_, by omega, fun i hi => ?_⟩
      · rw [lo' 340 (by omega)]
        exact (G.V.sf G.W sf).an (fun d hd => dan d (by omega))
      · rw [d341] at hi
        have u1 : dyX E Y (342 + 2 * i) = Y (2 * i) := by unfold dyX; rw [if_neg (by omega), if_pos (by omega), show 342 + 2 * i - 342 = 2 * i by omega]
        have u2 : dyX E Y (343 + 2 * i) = Y (2 * i + 1) := by unfold dyX; rw [if_neg (by omega), if_pos (by omega), show 343 + 2 * i - 342 = 2 * i + 1 by omega]
        rw [u1, u2, d2]
        rcases dx.2 i hi with ⟨c1, c2⟩ | ⟨c1, c2⟩
        · exact Or.inl ⟨c1, by omega⟩
        · exact Or.inr ⟨c1, c2⟩
    have mm := tgx_m (lo := hN h) (hi := hN h + 3) (v := 1) G.1.1 (by omega)
    have bs : Ba (tgx τ (hN h) (hN h + 3) 1) k := ba.tx (by omega) (by rw [z2.N]; omega)
    have ag2 : Ag (tgx τ (hN h) (hN h + 3) 1) g k := z2.ag bs.tg (by decide)
    have lo : ∀ p, p < 64 → hI k p = hI g p := fun p hp => z2.I (fun y hy => by have := (by decide : ∀ z, z ∈ ZV → 64 ≤ z % 1000000) y hy; omega)
    have q2k : hQ k 33 2 = hQ h 33 2 := fw.Q1 (by decide) (by decide)
    have r2 : rq k 33 2 = rq h 33 2 := by unfold rq; rw [q2k]
    have nc : NwC (tgx τ (hN h) (hN h + 3) 1) k (dyX E Y) N := by
      obtain ⟨⟨s1, s2, s3, s4⟩, nm, pl, sy⟩ := G.2.1
      refine ⟨⟨by rw [r2, q2k]; exact s1, by rw [r2]; exact ((s2.ag ag).sm sf.sh G.W).mt (m_1 mm), fun d hd => ?_, by rw [fw.I1 (by decide) (by decide), lo' 340 (by omega)]; exact s4⟩, by rw [r2, d2]; exact (nm.ag ag).mt (m_1 mm), Or.inr ⟨hN h, by rw [z2.Q]; exact q11, dy.ag ag2⟩, ?_⟩
      · rw [d2] at hd
        rw [fw.I (a := 34) (by decide), fw.I (a := 35) (by decide), sf.hg (by omega), dan d (by omega)]
        exact s3 d hd
      · rw [fw.Q1 (a := 30) (j := 12) (by decide) (by decide)]
        exact ((sy.ag ag).st (fun i hi _ => lo' i (by omega)) d2).mt (m_1 mm)
    refine ⟨nI (Y 900), g, k, tgx τ (hN h) (hN h + 3) 1, dyX E Y, N, a, b, F1, ⟨f1.I (by decide), f1.L (by omega)⟩, ⟨⟨bs, ve⟩, nc, G.2.2.1.now fw b1 b2 d2 (by decide), ⟨X0, 0, ⟨by rw [lo 31 (by omega)]; exact i1, by omega, fun i hi => absurd hi (Nat.not_lt_zero i)⟩, ⟨b4, by omega, fun i hi => absurd hi (Nat.not_lt_zero i)⟩⟩, ?_, p4 (by decide), p5 (by decide), p6 (by decide), (p7 (by decide)).mt mm, p8 (by decide), (p9 (by decide)).mt mm, (p10 (by decide)).mt mm, (p11 (by decide)).mt mm, (p12 (by decide)).mt mm⟩, fw.st n98 (by decide) (by rw [z2.N, z2.C, z2.S]; omega)⟩
    unfold Dfk
    rw [lo 31 (by omega), i6, b3]
theorem call_37 (G : Gd τ E N h) (hn : hN h ≤ 800000) : Call h (f_167 (some 30)) (f_295 (some 64)) := by
  have n98 := G.F.1
  have w2 := G.W.2.2.1
  obtain ⟨T, sz, tc, tm⟩ := G.2.2.2.1
  obtain ⟨ce, co⟩ := s_167 (T := T) G.F G.tg G.tn (by omega) tc.1 tc.2.1 tc.2.2 G.S G.2.1.2.1
  cases hr : snP T sz 200 N (E 2) 0 X0 with
  | error e =>
    obtain ⟨kk, e⟩ := e
    obtain ⟨g, a, rf⟩ := ce kk e hr
    have f1 : Fw τ Ze [] h g := G.fl rf.2.1 (by decide)
    have tm2 := tm.fa f1 (by decide)
    have gb1 : GB g := fun i hi => by rw [f1.I (a := 96) (by decide)]; exact G.2.2.1.2.2 i hi
    obtain ⟨k, b, z2, b1, gb, b2, b3, b4, b5⟩ := (s_295 (T := T) rf.1 (G.bf f1 (by decide)) gb1 tm2.1 tm2.2.1 tm2.2.2 rfl w2 (fun d hd => by rw [f1.J (a := 70) (by decide)]; exact G.2.2.1.2.1 d hd)).1 kk e hr
    exact G.rfu hn a rf b z2 b1 b2 gb b3 b4 (z2.I1 (by decide) (by decide)) (z2.J (by decide)) (by decide) ⟨by decide, by decide, by decide, by decide, by decide, by decide, by decide, by decide, by decide⟩
  | ok v =>
    obtain ⟨q, Y⟩ := v
    obtain ⟨g, a, F1, z1, n1, nN, i6, i1, q12, sn, ps⟩ := co q Y hr
    have f1 : Fw τ (Ze ++ [13000030]) [] h g := G.fl z1 (by decide)
    have tm2 := tm.fa f1 (by decide)
    have gb1 : GB g := fun i hi => by rw [f1.I (a := 96) (by decide)]; exact G.2.2.1.2.2 i hi
    obtain ⟨k, D, b, z2, b1, sa, gb, b2, b3, b4, b5, _⟩ := (s_295 (T := T) F1 (G.bf f1 (by decide)) gb1 tm2.1 tm2.2.1 tm2.2.2 rfl w2 (fun d hd => by rw [f1.J (a := 70) (by decide)]; exact G.2.2.1.2.1 d hd)).2 q Y hr
    have F2 : Fix k := z2.fix F1 (by decide)
    have f2 : Fw τ ZS [] g k := z2.fw (by decide) (by omega)
    have fw : Fw τ ((Ze ++ [13000030]) ++ ZS) [] h k := (f1.wid (by decide) (by decide)).then (f2.wid (by decide) (by decide)) n98
    obtain ⟨ba, ag, p1, p2, p3, p4, p5, p6, p7, p8, p9, p10, p11, p12⟩ := G.all fw F2 (by rw [z2.N]; omega) (by decide)
    obtain ⟨a1, a2, a3, lo'⟩ := sa
    have sf : SmF E D := fun i hi => lo' i (by omega)
    have d2 : D 2 = E 2 := lo' 2 (by omega)
    have wd : WF D := G.W.sf sf
    have dan : ∀ d, d < 10 → anE D d = anE E d := fun d hd => lo' _ (by omega)
    have ve : VE D := by
      refine ⟨wd, ?_, G.D.st (fun i _ h2 => lo' i (by omega)) d2⟩
      rw [lo' 340 (by omega)]
      exact (G.V.sf G.W sf).an (fun d hd => dan d (by omega))
    have mm := tgx_m (lo := hN h) (hi := hN h + 4) (v := 1) G.1.1 (by omega)
    have bs : Ba (tgx τ (hN h) (hN h + 4) 1) k := ba.tx (by omega) (by rw [z2.N]; omega)
    have ag2 : Ag (tgx τ (hN h) (hN h + 4) 1) g k := z2.ag bs.tg (by decide)
    have lo : ∀ p, p < 64 → hI k p = hI g p := fun p hp => z2.I (fun y hy => by have := (by decide : ∀ z, z ∈ ZS → 64 ≤ z % 1000000) y hy; omega)
    have q2k : hQ k 33 2 = hQ h 33 2 := fw.Q1 (by decide) (by decide)
    have r2 : rq k 33 2 = rq h 33 2 := by unfold rq; rw [q2k]
    have sy2 : SyQ (tgx τ (hN h) (hN h + 4) 1) g (some (hN h)) D := Or.inr ⟨hN h, rfl, by omega, by omega, Y, ⟨tgx_in (by omega) (by omega), tgx_in (by omega) (by omega), tgx_in (by omega) (by omega), tgx_in (by omega) (by omega)⟩, sn, ⟨a2, a3⟩, by rw [d2]; exact ps⟩
    have nc : NwC (tgx τ (hN h) (hN h + 4) 1) k D N := by
      obtain ⟨⟨s1, s2, s3, s4⟩, nm, pl, sy⟩ := G.2.1
      refine ⟨⟨by rw [r2, q2k]; exact s1, by rw [r2]; exact ((s2.ag ag).sm sf.sh G.W).mt (m_1 mm), fun d hd => ?_, by rw [fw.I1 (by decide) (by decide), lo' 340 (by omega)]; exact s4⟩, by rw [r2, d2]; exact (nm.ag ag).mt (m_1 mm), ?_, by rw [z2.Q, q12]; exact sy2.ag ag2⟩
      · rw [d2] at hd
        rw [fw.I (a := 34) (by decide), fw.I (a := 35) (by decide), sf.hg (by omega), dan d (by omega)]
        exact s3 d hd
      · rw [fw.Q1 (a := 30) (j := 11) (by decide) (by decide)]
        exact ((pl.ag ag).st (fun i _ h2 => lo' i (by omega)) G.D.1).mt (m_1 mm)
    have nmm : NwM k D N := ⟨Or.inl ⟨b2, b1⟩, by rw [fw.J (a := 70) (by decide), d2]; exact G.2.2.1.2.1, gb⟩
    refine ⟨nI (Y 901), g, k, tgx τ (hN h) (hN h + 4) 1, D, N, a, b, F1, ⟨f1.I (by decide), f1.L (by omega)⟩, ⟨⟨bs, ve⟩, nc, nmm, ⟨X0, 0, ⟨by rw [lo 31 (by omega)]; exact i1, by omega, fun i hi => absurd hi (Nat.not_lt_zero i)⟩, ⟨b4, by omega, fun i hi => absurd hi (Nat.not_lt_zero i)⟩⟩, ?_, p4 (by decide), p5 (by decide), p6 (by decide), (p7 (by decide)).mt mm, p8 (by decide), (p9 (by decide)).mt mm, (p10 (by decide)).mt mm, (p11 (by decide)).mt mm, (p12 (by decide)).mt mm⟩, fw.st n98 (by decide) (by rw [z2.N, z2.C, z2.S]; omega)⟩
    unfold Dfk
    rw [lo 31 (by omega), i6, b3]
end TEXTS
