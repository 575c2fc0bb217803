/-! calls that feed, move, judge -/
section MV
variable {τ : Nat → Nat} {h g k : Hp} {E N : Nat → Nat} {x y u v w : Int32}
theorem Fz.ag {Z : List Nat} (z : Fz Z h g) (hT : TG τ) (c : ∀ z, z ∈ Z → z % 1000000 < 98 ∧ (z % 1000000 < 60 ∨ 64 ≤ z % 1000000)) : Ag τ h g := fun p hp => by
  have t := z.tag hT c p hp
  exact ⟨by rw [z.K], by rw [z.L], by rw [z.Q], t.1, t.2⟩
theorem ScR.z2 {Z : List Nat} {an : Nat → Nat} {pl : Nat} (R : ScR τ g 33 E an pl) (z : Fz Z g k) (hT : TG τ) (c : ∀ z, z ∈ Z → 64 ≤ z % 1000000 ∧ z % 1000000 < 98) : ScR τ k 33 E an pl :=
  R.ag (z.ag hT (fun y hy => by have := c y hy; omega)) (by rw [z.Q]) (z.I (fun y hy => by have := c y hy; omega)) (z.I (fun y hy => by have := c y hy; omega)) (z.I1 (fun q => by have := c _ q; omega) (fun q => by have := c _ q; omega))
theorem kp_lo {an : Nat → Nat} {pl i : Nat} (hi : i < 330) : kpE E an pl i = E i := by unfold kpE; rw [if_neg (by omega), if_neg (by omega)]
theorem kp_hi {an : Nat → Nat} {pl i : Nat} (hi : 341 ≤ i) : kpE E an pl i = E i := by unfold kpE; rw [if_neg (by omega), if_neg (by omega)]
theorem kp_an {an : Nat → Nat} {pl d : Nat} (hd : d < 10) : anE (kpE E an pl) d = an d := by
  unfold anE kpE
  rw [if_pos (by omega), Nat.add_sub_cancel_left]
theorem kp_pl {an : Nat → Nat} {pl : Nat} : kpE E an pl 340 = pl := by unfold kpE; rw [if_neg (by omega), if_pos rfl]
theorem kp_st {v : Nat} : kpE E (anE E) v = upX E 340 v := by
  funext i
  unfold kpE upX anE
  by_cases c : 330 ≤ i ∧ i < 340
  · rw [if_pos c, if_neg (by omega), show 330 + (i - 330) = i by omega]
  · rw [if_neg c]
theorem kp_id : kpE E (anE E) (E 340) = E := by
  rw [kp_st]
  funext i
  rw [upX_e]
  split
  · rename_i c; rw [c]
  · rfl
theorem VE.kp {an : Nat → Nat} {pl : Nat} (ve : VE E) (V : VA E an pl) : VE (kpE E an pl) := by
  obtain ⟨w, _, d⟩ := ve
  have s : SmF E (kpE E an pl) := fun i hi => kp_lo hi
  have w2 := w.2.2.1
  refine ⟨w.sf s, ?_, d.st (fun i hi _ => kp_hi hi) (kp_lo (by omega))⟩
  rw [kp_pl]
  refine (V.sf w s).an (fun d hd => kp_an ?_)
  rw [kp_lo (by omega)] at hd
  omega
theorem NwC.kp {Z W : List Nat} {an : Nat → Nat} {pl : Nat} (n : NwC τ h E N) (ve : VE E) (z : Fw τ Z W h k) (ag : Ag τ h k) (R : ScR τ k 33 E an pl) (c : (33 ∉ Z ∧ 3000033 ∉ Z) ∧ 30 ∉ Z ∧ 12000030 ∉ Z ∧ 13000030 ∉ Z) : NwC τ k (kpE E an pl) N := by
  obtain ⟨_, nm, pl', sy⟩ := n
  obtain ⟨w, _, d⟩ := ve
  have w2 := w.2.2.1
  have s : SmF E (kpE E an pl) := fun i hi => kp_lo hi
  have r2 : rq k 33 2 = rq h 33 2 := by unfold rq; rw [z.Q1 c.1.1 c.1.2]
  have e2 : kpE E an pl 2 = E 2 := kp_lo (by omega)
  refine ⟨⟨R.1, R.2.1.sm s.sh w, fun d hd => ?_, by rw [kp_pl]; exact R.2.2.2⟩, by rw [r2, e2]; exact nm.ag ag, ?_, ?_⟩
  · rw [e2] at hd
    rw [kp_an (by omega), s.hg (by omega)]
    exact R.2.2.1 d hd
  · rw [z.Q1 (a := 30) (j := 11) c.2.1 c.2.2.1]
    exact (pl'.ag ag).st (fun i hi _ => kp_hi hi) d.1
  · rw [z.Q1 (a := 30) (j := 12) c.2.1 c.2.2.2]
    exact (sy.ag ag).st (fun i hi _ => kp_hi (by omega)) e2
/-- somebody moves -/
theorem Gd.mv {r : Int32} {A B : Hp → Option (Int32 × Hp)} {Z1 Z2 : List Nat} {an : Nat → Nat} {pl : Nat} (G : Gd τ E N h) (a : A h = some (r, g)) (b : B g = some (r, k)) (z1 : Fz Z1 h g) (z2 : Fz Z2 g k) (R : ScR τ g 33 E an pl) (V : VA E an pl) (hE : NowE k (kpE E an pl)) (h22 : hI k 64 22 = 1) (mn : Dmn k) (ju : Dju k)
    (c1 : ∀ z, z ∈ Z1 → 30 ≤ z % 1000000 ∧ z % 1000000 < 60) (c2 : ∀ z, z ∈ Z2 → 64 ≤ z % 1000000 ∧ z % 1000000 < 98)
    (c : ((33 ∉ Z1 ++ Z2 ∧ 3000033 ∉ Z1 ++ Z2) ∧ 30 ∉ Z1 ++ Z2 ∧ 12000030 ∉ Z1 ++ Z2 ∧ 13000030 ∉ Z1 ++ Z2) ∧ ((∀ z, z ∈ Z1 ++ Z2 → z % 1000000 ≠ 70) ∧ (∀ z, z ∈ Z1 ++ Z2 → z % 1000000 ≠ 96)) ∧ okTx (Z1 ++ Z2) ∧ okFk (Z1 ++ Z2) ∧ okFo (Z1 ++ Z2) ∧ okOr (Z1 ++ Z2) ∧ okWy (Z1 ++ Z2) [] ∧ okIm (Z1 ++ Z2) [] ∧ okHg (Z1 ++ Z2) ∧ okRw (Z1 ++ Z2) ∧ okPk (Z1 ++ Z2)) : Call h A B := by
  have F0 := G.F
  have n98 := F0.1
  have F1 : Fix g := z1.fix F0 (fun y hy => (c1 y hy).1)
  have F2 : Fix k := z2.fix F1 (fun y hy => by have := c2 y hy; omega)
  have zz : Fz (Z1 ++ Z2) h k := z1.trans z2
  have c12 : ∀ z, z ∈ Z1 ++ Z2 → 30 ≤ z % 1000000 ∧ z % 1000000 < 98 ∧ (z % 1000000 < 60 ∨ 64 ≤ z % 1000000) := fun z hz => by
    rcases List.mem_append.1 hz with q | q
    · have := c1 z q; omega
    · have := c2 z q; omega
  have fw : Fw τ (Z1 ++ Z2) [] h k := zz.fw (fun z hz => (c12 z hz).2.1) (by have := G.1.1.n1; omega)
  obtain ⟨d1, d2, e2, e3, e5, e6, e7, e9, e10, e11, e12⟩ := c
  obtain ⟨ba, ag, p1, p2, p3, p4, p5, p6, p7, p8, p9, p10, p11, p12⟩ := G.all fw F2 (by rw [zz.N]; exact G.1.1.n1) ⟨fun z hz => (c12 z hz).2.2, by decide⟩
  exact ⟨r, g, k, τ, kpE E an pl, N, a, b, F1, ⟨z1.I (fun z hz => by have := c1 z hz; omega), by rw [z1.L]⟩, ⟨⟨ba, G.1.2.kp V⟩, G.2.1.kp G.1.2 fw ag (R.z2 z2 G.tg c2) d1, G.2.2.1.now fw hE h22 (kp_lo (by omega)) d2, p2 e2, p3 e3, mn, p5 e5, p6 e6, p7 e7, ju, p9 e9, p10 e10, p11 e11, p12 e12⟩, fw.st n98 (fun z hz => by have := c12 z hz; omega) zz.cost⟩
theorem Gd.ju (G : Gd τ E N h) : Dju h := G.2.2.2.2.2.2.2.2.2.1
theorem Dju.zz {Z : List Nat} (j : Dju h) (z : Fz Z h k) (c : (30 ∉ Z ∧ 11000030 ∉ Z) ∧ (∀ z, z ∈ Z → z % 1000000 ≠ 59) ∧ ∀ z, z ∈ Z → z % 1000000 ≠ 89) : Dju k := by
  unfold Dju
  rw [z.I1 (a := 30) (j := 10) c.1.1 c.1.2, z.I (a := 59) c.2.1, z.I (a := 89) c.2.2]; exact j
theorem bgz {Z : List Nat} (B : Bg h E) (z : Fz Z h g) (c : ∀ z, z ∈ Z → z % 1000000 < 64) : Bg g E := B.cg (z.I1 (fun q => by have := c _ q; omega) (fun q => by have := c _ q; omega)) (z.I (fun y hy => by have := c y hy; omega))
theorem call_25 (G : Gd τ E N h) : Call h (f_155 (some 30) x) (f_265 (some 64) x) := by
  obtain ⟨n, n1, n2⟩ := G.2.2.2.2.2.1
  obtain ⟨g, a, z1, a1, a2⟩ := s_155 (x := x) G.F G.tg G.S G.W G.V n1
  have F1 := z1.fix G.F (by decide)
  obtain ⟨k, b, z2, b1, b2, b3, b4⟩ := s_265 (x := x) F1 (bgz G.B z1 (by decide)) G.W G.V (by rw [z1.I (by decide)]; exact n2)
  have ju : Dju k := (G.ju.zz z1 (by decide)).zz z2 (by decide)
  cases hb : dsB E (anE E) (E 340) x
  · have e := a2 hb
    subst e
    obtain ⟨b5, b6⟩ := b4 hb
    refine G.mv (an := anE E) (pl := E 340) a b z1 z2 G.S G.V (by rw [kp_id]; exact b5) b1 ⟨n, by rw [z2.I (by decide)]; exact n1, b6⟩ ju (by decide) (by decide) ⟨by decide, by decide, by decide, by decide, by decide, by decide, by decide, by decide, by decide, by decide, by decide⟩
  · obtain ⟨a3, a4, a5⟩ := a1 hb
    obtain ⟨b5, b6⟩ := b3 hb
    exact G.mv a b z1 z2 a3 a4 b5 b1 ⟨n + 1, by rw [z2.I (by decide)]; exact a5, b6⟩ ju (by decide) (by decide) ⟨by decide, by decide, by decide, by decide, by decide, by decide, by decide, by decide, by decide, by decide, by decide⟩
theorem call_23 (G : Gd τ E N h) : Call h (f_153 (some 30) x y) (f_262 (some 64) x y) := by
  obtain ⟨n, n1, n2⟩ := G.2.2.2.2.2.1
  have a := s_153 (x := x) (y := y) G.F G.S G.W G.V.1
  have z1 : Fz [4000033] h (if stB E x y = true then sI h 33 3 (nI (cN (x.toInt, y.toInt))) else h) := by
    split
    · exact Fz.sI Fz.rfl' (Or.inr (by decide))
    · exact Fz.rfl'
  have F1 := z1.fix G.F (by decide)
  obtain ⟨k, b, z2, b1, b2, b3⟩ := s_262 (x := x) (y := y) F1 (bgz G.B z1 (by decide)) G.W G.V
  have ju : Dju k := (G.ju.zz z1 (by decide)).zz z2 (by decide)
  have mn : Dmn k := ⟨n, by rw [z2.I (by decide), z1.I (by decide)]; exact n1, by rw [z2.I1 (by decide) (by decide), z1.I (by decide)]; exact n2⟩
  cases hb : stB E x y
  · rw [hb, if_neg (by decide)] at a z1 b F1 z2
    unfold stE at b1
    rw [hb, if_neg (by decide)] at b1
    refine G.mv (an := anE E) (pl := E 340) a b z1 z2 G.S G.V (by rw [kp_id]; exact b1) b2 mn ju (by decide) (by decide) ⟨by decide, by decide, by decide, by decide, by decide, by decide, by decide, by decide, by decide, by decide, by decide⟩
  · have hw : wkB E (x.toInt, y.toInt) = true := by unfold stB at hb; rw [Bool.and_eq_true] at hb; exact hb.1
    have b9 : cN (x.toInt, y.toInt) < 100 := cN_lt (wkB_in ⟨G.W.1, G.W.2.1⟩ hw)
    rw [hb, if_pos rfl] at a z1 b F1 z2
    unfold stE at b1
    rw [hb, if_pos rfl] at b1
    refine G.mv (an := anE E) (pl := cN (x.toInt, y.toInt) + 1) a b z1 z2 (ScR.mv (v := cN (x.toInt, y.toInt) + 1) G.tg (Or.inl rfl) G.S) (G.V.pl (by omega)) (by rw [kp_st]; exact b1) b2 mn ju (by decide) (by decide) ⟨by decide, by decide, by decide, by decide, by decide, by decide, by decide, by decide, by decide, by decide, by decide⟩
theorem rp_ju (hC : RpR h 59 E) (hM : RpR h 89 E) (h1 : hI h 30 10 = nI 1) : Dju h := by
  refine Or.inr ⟨h1, fun i hi => ?_⟩
  obtain ⟨a0, a1, a2, a3, a4⟩ := hC
  obtain ⟨b0, b1, b2, b3, b4⟩ := hM
  rcases (show i = 0 ∨ i = 1 ∨ i = 2 ∨ i = 3 ∨ i = 4 by omega) with e | e | e | e | e <;> subst e
  · rw [a0, b0]
  · rw [a1, b1]
  · rw [a2, b2]
  · rw [a3, b3]
  · rw [a4, b4]
theorem RpR.zz {Z : List Nat} (r : RpR h 59 E) (z : Fz Z h k) (c : ∀ z, z ∈ Z → z % 1000000 ≠ 59) : RpR k 59 E := by
  unfold RpR
  rw [z.I (a := 59) c]; exact r
theorem nowlt (hE : NowE h E) : ∀ i, E i < 100000 := hE.2.2.2
theorem Bg.lt (hB : Bg h E) : ∀ i, E i < 100000 := by
  rcases hB with ⟨_, e⟩ | ⟨_, _, e⟩
  · exact e.2.2.2
  · intro i; rw [e i]; omega
theorem call_30 (G : Gd τ E N h) : Call h (f_160 (some 30)) (f_274 (some 64)) := by
  obtain ⟨n, n1, n2⟩ := G.2.2.2.2.2.1
  obtain ⟨g, a, z1, a1, a2, a3, a4, a5⟩ := s_160 G.F G.tg G.W G.D G.2.1.2.2.1.r G.S G.V n1
  have F1 := z1.fix G.F (by decide)
  obtain ⟨k, b, z2, b1, b2, b3, b4⟩ := s_274 F1 (bgz G.B z1 (by decide)) G.W G.V G.D G.B.lt (by rw [z1.I (by decide)]; exact n2)
  exact G.mv a b z1 z2 a1 a2 b1 b2 ⟨_, by rw [z2.I (by decide)]; exact a5, b4⟩ (rp_ju (a3.zz z2 (by decide)) b3 (by rw [z2.I (by decide)]; exact a4)) (by decide) (by decide) ⟨by decide, by decide, by decide, by decide, by decide, by decide, by decide, by decide, by decide, by decide, by decide⟩
theorem call_33 (G : Gd τ E N h) : Call h (f_163 (some 30)) (f_281 (some 64)) := by
  obtain ⟨n, n1, n2⟩ := G.2.2.2.2.2.1
  obtain ⟨w, q, ⟨q1, pw, ar, q3, q4, q5⟩, ⟨q6, q7⟩, q8⟩ := G.2.2.2.2.2.2.2.2.1
  obtain ⟨g, a, z1, a1, a2, a3⟩ := s_163 (a := q) (n := w) G.F G.tg G.W (by have := G.1.1.n1; omega) G.S G.V n1 ar q4 q1 q5 q8
  have F1 := z1.fix G.F (by decide)
  obtain ⟨k, b, z2, b1, b2, b3⟩ := s_281 (a := q) (n := w) F1 (bgz G.B z1 (by decide)) G.W G.V G.B.lt (by rw [z1.I (by decide)]; exact n2) (by rw [z1.I (by decide)]; exact q6) q8 (fun t ht => by rw [z1.I (by decide)]; exact q7 t ht)
  have ju : Dju k := (G.ju.zz z1 (by decide)).zz z2 (by decide)
  exact G.mv a b z1 z2 a1 a2 b1 b2 ⟨_, by rw [z2.I (by decide)]; exact a3, b3⟩ ju (by decide) (by decide) ⟨by decide, by decide, by decide, by decide, by decide, by decide, by decide, by decide, by decide, by decide, by decide⟩
theorem call_35 (G : Gd τ E N h) (hn : hN h ≤ 800000) : Call h (f_165 (some 30)) (f_284 (some 64)) := by
  have lo : ∀ q, q < 60 → τ q ≠ 1 := fun q hq z => by have := (G.tg q z).1; omega
  obtain ⟨g, a, z1, a1, a2, a3⟩ := s_165 G.F G.tg G.tn ⟨lo 36 (by omega), lo 37 (by omega), lo 38 (by omega)⟩ G.W G.S G.V.1 G.V.2.2.2
  have F1 : Fix g := z1.fix G.F (by decide) (by decide)
  obtain ⟨k, b, z2, b1, b2, b3⟩ := s_284 F1 (G.bg z1 (by decide)) G.W G.V
  have fw := G.fl z1 (by decide)
  have bg : Ba τ g := fw.ba G.1.1 F1 (by omega)
  exact G.rf a b fw F1 (by omega) hn z2 b1 b2 (G.H.fw fw (fw.ag G.1.1 (by decide) (by decide)) (by decide)) (G.2.2.2.2.2.2.2.2.2.2.2.2.1.fw fw (by decide)) (G.2.2.2.2.2.2.2.2.2.2.2.2.2.fw fw (by decide)) (by decide) (by decide) ⟨by decide, ⟨by decide, by decide, by decide, by decide, by decide, by decide, by decide, by decide, by decide⟩, by decide, by decide, by decide⟩
theorem TxC.zz {T : Nat → Nat} {n : Nat} {Z : List Nat} (t : TxC g T n) (z : Fz Z g k) (c : ∀ z, z ∈ Z → z % 1000000 ≠ 31 ∧ z % 1000000 ≠ 32) : TxC k T n := by
  obtain ⟨t1, t2, t3⟩ := t
  exact ⟨by rw [z.I (fun y hy => (c y hy).1)]; exact t1, t2, fun i hi => by rw [z.I (fun y hy => (c y hy).2)]; exact t3 i hi⟩
theorem TxM.zz {T : Nat → Nat} {n : Nat} {Z : List Nat} (t : TxM g T n) (z : Fz Z g k) (c : ∀ z, z ∈ Z → z % 1000000 ≠ 64 ∧ z % 1000000 ≠ 65) : TxM k T n := by
  obtain ⟨t1, t2, t3⟩ := t
  exact ⟨by rw [z.I (fun y hy => (c y hy).1)]; exact t1, t2, fun i hi => by rw [z.I (fun y hy => (c y hy).2)]; exact t3 i hi⟩
theorem Gd.tx {r : Int32} {A B : Hp → Option (Int32 × Hp)} (G : Gd τ E N h) (a : A h = some (r, g)) (b : B g = some (r, k)) (z1 : Fz [2000031, 32] h g) (z2 : Fz [1000064, 3000064, 65] g k) (t : Dtx k) : Call h A B := by
  have F0 := G.F
  have F1 : Fix g := z1.fix F0 (by decide)
  have F2 : Fix k := z2.fix F1 (by decide)
  have zz : Fz [2000031, 32, 1000064, 3000064, 65] h k := z1.trans z2
  have fw : Fw τ [2000031, 32, 1000064, 3000064, 65] [] h k := zz.fw (by decide) (by have := G.1.1.n1; omega)
  obtain ⟨ba, ag, p1, p2, p3, p4, p5, p6, p7, p8, p9, p10, p11, p12⟩ := G.all fw F2 (by rw [zz.N]; exact G.1.1.n1) (by decide)
  exact ⟨r, g, k, τ, E, N, a, b, F1, ⟨z1.I (by decide), by rw [z1.L]⟩, ⟨⟨ba, G.1.2⟩, p1 (by decide), G.2.2.1.fw fw (by decide), t, p3 (by decide), p4 (by decide), p5 (by decide), p6 (by decide), p7 (by decide), p8 (by decide), p9 (by decide), p10 (by decide), p11 (by decide), p12 (by decide)⟩, fw.st F0.1 (by decide) zz.cost⟩
theorem call_0 {c d e : Int32} (G : Gd τ E N h) : Call h (f_130 (some 30) x y c d e) (f_179 (some 64) x y c d e) := by
  obtain ⟨T, n, tc, tm⟩ := G.2.2.2.1
  obtain ⟨g, a, z1, t1⟩ := s_130 (a := x) (b := y) (c := c) (d := d) (e := e) G.F tc
  have F1 := z1.fix G.F (by decide)
  obtain ⟨k, b, z2, t2, _⟩ := s_179 (a := x) (b := y) (c := c) (d := d) (e := e) F1 (tm.zz z1 (by decide))
  exact G.tx a b z1 z2 ⟨_, _, t1.zz z2 (by decide), t2⟩
theorem call_1 (G : Gd τ E N h) : Call h (f_131 (some 30) x) (f_180 (some 64) x) := by
  obtain ⟨T, n, tc, tm⟩ := G.2.2.2.1
  obtain ⟨g, a, z1, t1⟩ := s_131 (x := x) G.F tc
  have F1 := z1.fix G.F (by decide)
  obtain ⟨k, b, z2, t2, _⟩ := s_180 (x := x) F1 (tm.zz z1 (by decide))
  exact G.tx a b (z1.wid (by decide)) (z2.wid (by decide)) ⟨_, _, t1.zz z2 (by decide), t2⟩
theorem call_28 (G : Gd τ E N h) (hn : hN h ≤ 800000) : Call h (f_158 (some 30)) (f_272 (some 64)) := by
  obtain ⟨g, a, z1, ⟨a1, a2, a3⟩, a4, a5⟩ := s_158 G.F G.tg G.tn G.W G.D G.2.1.2.2.1.r G.S G.V
  have F1 : Fix g := z1.fix G.F (by decide) (by decide)
  obtain ⟨k, b, z2, b1, b2, b3⟩ := s_272 F1 (G.bg z1 (by decide)) G.W G.V G.D
  have F2 := z2.fix F1 (by decide)
  have f1 : Fw τ [3000036, 4000036, 37, 38, 59, 11000030] [] h g := G.fl z1 (by decide)
  have fw : Fw τ ([3000036, 4000036, 37, 38, 59, 11000030] ++ Zd) [] h k := (f1.wid (by decide) (by decide)).then ((z2.fw (by decide) (by omega) : Fw τ Zd [] g k).wid (by decide) (by decide)) G.F.1
  obtain ⟨ba, ag, p1, p2, p3, p4, p5, p6, p7, p8, p9, p10, p11, p12⟩ := G.all fw F2 (by rw [z2.N]; omega) (by decide)
  exact ⟨_, g, k, τ, E, N, a, b, F1, ⟨f1.I (by decide), f1.L (by have := G.F.1; omega)⟩, ⟨⟨ba, G.1.2⟩, p1 (by decide), G.2.2.1.now fw b1 b2 rfl (by decide), p2 (by decide), p3 (by decide), p4 (by decide), p5 (by decide), p6 (by decide), p7 (by decide), rp_ju (a4.zz z2 (by decide)) b3 (by rw [z2.I (by decide)]; exact a5), p9 (by decide), p10 (by decide), p11 (by decide), p12 (by decide)⟩, fw.st G.F.1 (by decide) (by rw [z2.N, z2.C, z2.S]; omega)⟩
end MV
