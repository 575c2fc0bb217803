/-! tags made more, the state over -/
section TAGS
variable {τ σ : Nat → Nat} {h k : Hp} {E N : Nat → Nat}
theorem upn_m {p0 v : Nat} (h0 : τ p0 = 0 ∨ τ p0 = v) : ∀ q, τ q ≠ 0 → upn τ p0 v q = τ q := fun q hq => by
  unfold upn
  by_cases c : q = p0
  · subst c; rw [if_pos rfl]; omega
  · rw [if_neg c]
theorem upn_e (p0 v : Nat) : upn τ p0 v p0 = v := by unfold upn; rw [if_pos rfl]
theorem upn_n {p0 v q : Nat} (c : q ≠ p0) : upn τ p0 v q = τ q := by unfold upn; rw [if_neg c]
theorem tgx_m {lo hi v : Nat} (b : Ba τ h) (hl : hN h ≤ lo) : ∀ q, τ q ≠ 0 → tgx τ lo hi v q = τ q := fun q hq => tgx_lo (by have := b.2.1 q hq; omega)
theorem Ba.up {p0 v : Nat} (b : Ba τ k) (h98 : 98 ≤ p0) (hn : p0 < hN k) : Ba (upn τ p0 v) k := by
  obtain ⟨b1, b2, b3, b4, b5⟩ := b
  refine ⟨b1, fun p hp => ?_, fun p hp => ?_, fun p hp => ?_, b5⟩
  · by_cases c : p = p0
    · omega
    · rw [upn_n c] at hp; exact b2 p hp
  · by_cases c : p = p0
    · omega
    · rw [upn_n c] at hp; exact b3 p hp
  · by_cases c : p = p0
    · omega
    · rw [upn_n c] at hp; exact b4 p hp
theorem Ba.tx {lo hi v : Nat} (b : Ba τ k) (h98 : 98 ≤ lo) (hn : hi ≤ hN k) : Ba (tgx τ lo hi v) k := by
  obtain ⟨b1, b2, b3, b4, b5⟩ := b
  have e : ∀ p, ¬ (lo ≤ p ∧ p < hi) → tgx τ lo hi v p = τ p := fun p c => by unfold tgx; rw [if_neg c]
  refine ⟨b1, fun p hp => ?_, fun p hp => ?_, fun p hp => ?_, b5⟩
  · by_cases c : lo ≤ p ∧ p < hi
    · omega
    · rw [e p c] at hp; exact b2 p hp
  · by_cases c : lo ≤ p ∧ p < hi
    · omega
    · rw [e p c] at hp; exact b3 p hp
  · by_cases c : lo ≤ p ∧ p < hi
    · omega
    · rw [e p c] at hp; exact b4 p hp
theorem m_1 (m : ∀ q, τ q ≠ 0 → σ q = τ q) : ∀ q, τ q = 1 → σ q = 1 := fun q hq => by rw [m q (by omega)]; exact hq
theorem m_t {ρ : Nat → Nat} (m : ∀ q, τ q ≠ 0 → σ q = τ q) (n : ∀ q, σ q ≠ 0 → ρ q = σ q) : ∀ q, τ q ≠ 0 → ρ q = τ q := fun q hq => by rw [n q (by rw [m q hq]; exact hq), m q hq]
theorem NwC.mt (n : NwC τ h E N) (m : ∀ q, τ q ≠ 0 → σ q = τ q) : NwC σ h E N := ⟨n.1.mt (m_1 m), n.2.1.mt (m_1 m), n.2.2.1.mt (m_1 m), n.2.2.2.mt (m_1 m)⟩
theorem KpC.mt {i : Nat} (n : KpC τ h i E N) (m : ∀ q, τ q ≠ 0 → σ q = τ q) : KpC σ h i E N := by
  obtain ⟨p, ph, pa, q, sc, ⟨u1, u2, u3⟩, nm, pl, sy⟩ := n
  exact ⟨p, ph, pa, q, sc.mt (m_1 m), ⟨by rw [m p (by omega)]; exact u1, by rw [m ph (by omega)]; exact u2, by rw [m pa (by omega)]; exact u3⟩, nm.mt (m_1 m), pl.mt (m_1 m), sy.mt (m_1 m)⟩
theorem Dim.mt (n : Dim τ h) (m : ∀ q, τ q ≠ 0 → σ q = τ q) : Dim σ h := fun k hk => by
  rcases n k hk with a | ⟨E, N, kc, z⟩
  · exact Or.inl a
  · exact Or.inr ⟨E, N, kc.mt m, z⟩
theorem Dwy.mt (n : Dwy τ h) (m : ∀ q, τ q ≠ 0 → σ q = τ q) : Dwy σ h := by
  obtain ⟨w, a, ⟨a1, pw, r, a3, a4⟩, b⟩ := n
  refine ⟨w, a, ⟨a1, pw, r, ?_, a4⟩, b⟩
  rcases a3 with e | e
  · exact Or.inl e
  · exact Or.inr (by rw [m pw (by omega)]; exact e)
theorem HGI.mt (n : HGI τ h) (m : ∀ q, τ q ≠ 0 → σ q = τ q) : HGI σ h := by
  rcases n with a | ⟨D, cur, ⟨a1, a2, a3⟩, z⟩
  · exact Or.inl a
  · exact Or.inr ⟨D, cur, ⟨a1, a2.mt (m_1 m), a3⟩, z⟩
theorem DrS.mt (n : DrS τ h) (m : ∀ q, τ q ≠ 0 → σ q = τ q) : DrS σ h := by
  rcases n with a | ⟨po, pq, p, t1, t2⟩
  · exact Or.inl a
  · exact Or.inr ⟨po, pq, p, by rw [m po (by omega)]; exact t1, by rw [m pq (by omega)]; exact t2⟩
theorem DrP.mt (n : DrP τ h) (m : ∀ q, τ q ≠ 0 → σ q = τ q) : DrP σ h := by
  rcases n with a | ⟨pk, p, t1⟩
  · exact Or.inl a
  · exact Or.inr ⟨pk, p, by rw [m pk (by omega)]; exact t1⟩
theorem Gd.rs (G : Gd τ E N h) : DrS τ h := G.2.2.2.2.2.2.2.2.2.2.2.2.1
theorem Gd.rp (G : Gd τ E N h) : DrP τ h := G.2.2.2.2.2.2.2.2.2.2.2.2.2
theorem Gd.wy (G : Gd τ E N h) : Dwy τ h := G.2.2.2.2.2.2.2.2.1
theorem Gd.im (G : Gd τ E N h) : Dim τ h := G.2.2.2.2.2.2.2.2.2.2.1
theorem Gd.od (G : Gd τ E N h) : Dor h := G.2.2.2.2.2.2.2.1
theorem Gd.bf {g : Hp} {Z W : List Nat} (G : Gd τ E N h) (z : Fw τ Z W h g) (hZ : ∀ z, z ∈ Z → z % 1000000 < 64) : Bg g E := G.B.cg (z.I1 (fun q => by have := hZ _ q; omega) (fun q => by have := hZ _ q; omega)) (z.I (fun y hy => by have := hZ y hy; omega))
end TAGS
section REH
variable {τ : Nat → Nat} {h g k : Hp} {E N : Nat → Nat} {x y w : Int32}
theorem call_22 (G : Gd τ E N h) : Call h (f_152 (some 30) x y) (f_251 (some 64) x y) := by
  have a := s_152 (x := x) (y := y) G.F G.S G.W G.V.1
  have w2 := G.W.2.2.1
  have z1 : Fz [34] h (if rhB E x y = true then sI h 34 x.toInt.toNat (nI y.toInt.toNat) else h) := by
    split
    · exact Fz.sI Fz.rfl' (Or.inl (by decide))
    · exact Fz.rfl'
  have F1 := z1.fix G.F (by decide)
  obtain ⟨k, b, z2, b1, b2, b3⟩ := s_251 (x := x) (y := y) F1 (bgz G.B z1 (by decide)) G.W G.V.1
  have F2 := z2.fix F1 (by decide)
  have zz := z1.trans z2
  have fw : Fw τ ([34] ++ Zq) [] h k := zz.fw (by decide) (by have := G.1.1.n1; omega)
  obtain ⟨ba, ag, p1, p2, p3, p4, p5, p6, p7, p8, p9, p10, p11, p12⟩ := G.all fw F2 (by rw [zz.N]; exact G.1.1.n1) (by decide)
  have e2 : rhE E x y 2 = E 2 := by unfold rhE; split; exact upX_n (by omega); rfl
  have eh : ∀ i, 330 ≤ i → rhE E x y i = E i := fun i hi => by
    unfold rhE
    split
    · rename_i c
      have hd := (dgB_n (show dgB E x y = true by unfold rhB at c; rw [Bool.and_eq_true, Bool.and_eq_true] at c; exact c.1.1)).2.2.1
      exact upX_n (by omega)
    · rfl
  have sm : SmH E (rhE E x y) := fun i hi hn => by
    unfold rhE
    split
    · rename_i c
      have hd := (dgB_n (show dgB E x y = true by unfold rhB at c; rw [Bool.and_eq_true, Bool.and_eq_true] at c; exact c.1.1)).2.2.1
      exact upX_n (by omega)
    · rfl
  have hgs : ∀ d, d < E 2 → hI k 34 d = nI (dHg (rhE E x y) d) ∧ dHg (rhE E x y) d < 4 := fun d hd => by
    rw [z2.I (a := 34) (by decide)]
    unfold rhE
    split
    · rename_i c
      obtain ⟨_, _, hx, hy⟩ := dgB_n (show dgB E x y = true by unfold rhB at c; rw [Bool.and_eq_true, Bool.and_eq_true] at c; exact c.1.1)
      rw [hI_sI]
      by_cases q : d = x.toInt.toNat
      · rw [if_pos ⟨rfl, q⟩, show dHg (upX E (114 + 10 * x.toInt.toNat) y.toInt.toNat) d = y.toInt.toNat by unfold dHg; rw [upX_e, if_pos (by omega)]]
        exact ⟨rfl, hy⟩
      · rw [if_neg (fun z => q z.2), show dHg (upX E (114 + 10 * x.toInt.toNat) y.toInt.toNat) d = dHg E d by unfold dHg; rw [upX_e, if_neg (by omega)]]
        exact ⟨(G.S.2.2.1 d hd).1, G.W.hg hd⟩
    · exact ⟨(G.S.2.2.1 d hd).1, G.W.hg hd⟩
  have an0 : ∀ d, anE (rhE E x y) d = anE E d := fun d => eh _ (by omega)
  have ve : VE (rhE E x y) := by
    refine ⟨G.W.sm sm (fun d hd => (hgs d hd).2), ?_, G.D.st (fun i hi _ => eh i (by omega)) e2⟩
    rw [eh 340 (by omega)]
    refine VA.an (an := anE E) ?_ (fun d _ => an0 d)
    unfold rhE
    split
    · rename_i c
      unfold rhB at c
      rw [Bool.and_eq_true, Bool.and_eq_true] at c
      exact G.V.rh G.W (dgB_n c.1.1).2.2.1 (of_decide_eq_true c.1.2)
    · exact G.V
  have q2 : hQ k 33 2 = hQ h 33 2 := fw.Q1 (by decide) (by decide)
  have r2 : rq k 33 2 = rq h 33 2 := by unfold rq; rw [q2]
  have nc : NwC τ k (rhE E x y) N := by
    obtain ⟨⟨s1, s2, s3, s4⟩, nm, pl, sy⟩ := G.2.1
    refine ⟨⟨by rw [r2, q2]; exact s1, by rw [r2]; exact (s2.ag ag).sm sm G.W, fun d hd => ⟨(hgs d (by omega)).1, ?_⟩, ?_⟩, by rw [r2, e2]; exact nm.ag ag, ?_, ?_⟩
    · rw [fw.I (a := 35) (by decide), an0]; exact (s3 d (by omega)).2
    · rw [fw.I1 (by decide) (by decide), eh 340 (by omega)]; exact s4
    · rw [fw.Q1 (a := 30) (j := 11) (by decide) (by decide)]; exact (pl.ag ag).st (fun i hi _ => eh i (by omega)) G.D.1
    · rw [fw.Q1 (a := 30) (j := 12) (by decide) (by decide)]; exact (sy.ag ag).st (fun i hi _ => eh i (by omega)) e2
  exact ⟨_, _, k, τ, rhE E x y, N, a, b, F1, ⟨z1.I (by decide), by rw [z1.L]⟩, ⟨⟨ba, ve⟩, nc, G.2.2.1.now fw b1 b2 e2 (by decide), p2 (by decide), p3 (by decide), p4 (by decide), p5 (by decide), p6 (by decide), p7 (by decide), p8 (by decide), p9 (by decide), p10 (by decide), p11 (by decide), p12 (by decide)⟩, fw.st G.F.1 (by decide) zz.cost⟩
theorem call_16 (G : Gd τ E N h) (hn : hN h ≤ 800000) : Call h (f_146 (some 30) x y w) (f_244 (some 64) x y w) := by
  obtain ⟨g, a, a1, a2⟩ := s_146 (x := x) (y := y) (w := w) G.F G.tg G.tn G.S G.W G.H
  have w2 := G.W.2.2.1
  cases hb : foB E x y w
  · have e := a1 hb
    subst e
    obtain ⟨k, b, b1, b2, b3, _⟩ := s_244 (x := x) (y := y) (w := w) G.F G.B G.W
    exact G.rz a b (b3 hb) b1 b2 (by decide) ⟨by decide, ⟨by decide, by decide, by decide, by decide, by decide, by decide, by decide, by decide, by decide, by decide, by decide⟩, by decide⟩
  · obtain ⟨z1, F1, hk, ⟨n1, n2, n3⟩, fi, cf⟩ := a2 hb
    obtain ⟨k, b, b1, b2, _, b3⟩ := s_244 (x := x) (y := y) (w := w) F1 (G.bg z1 (by decide)) G.W
    obtain ⟨z2, mf, b4⟩ := b3 hb
    have F2 := z2.fix F1 (by decide)
    have f1 : Fw τ Zf [] h g := G.fl z1 (by decide)
    have f2 : Fw τ [1000064, 23000064, 66, 27000064, 74, 75, 76, 77, 78, 81, 82, 83, 38000064, 39000064] [] g k := z2.fw (by decide) (by omega)
    have fw : Fw τ (Zf ++ [1000064, 23000064, 66, 27000064, 74, 75, 76, 77, 78, 81, 82, 83, 38000064, 39000064]) [] h k := (f1.wid (by decide) (by decide)).then (f2.wid (by decide) (by decide)) G.F.1
    obtain ⟨ba, ag, p1, p2, p3, p4, p5, p6, p7, p8, p9, p10, p11, p12⟩ := G.all fw F2 (by rw [z2.N]; omega) (by decide)
    have bg : Ba τ g := f1.ba G.1.1 F1 (by omega)
    have fo : Dfo k := by
      obtain ⟨i1, i2, i3, i4⟩ := fi
      obtain ⟨c1, c2, c3, c4, c5⟩ := cf
      obtain ⟨_, _, m3, m4, m5⟩ := mf
      have ctl := fb_ct_le (fun e => (fcE E x.toInt.toNat y.toInt.toNat).2.1.testBit e) (E 2)
      exact ⟨_, _, E 2, _, _, ⟨by rw [z2.I (by decide)]; exact c1, by rw [z2.I (by decide)]; exact c2, by rw [z2.I (a := 49) (by decide)]; exact c3, by rw [z2.I (a := 50) (by decide)]; exact c4⟩, ⟨m5, b4, m4, m3⟩, by omega, w2, i1⟩
    exact ⟨_, g, k, τ, E, N, a, b, F1, ⟨f1.I (by decide), f1.L (by have := G.F.1; omega)⟩, ⟨⟨ba, G.1.2⟩, p1 (by decide), G.2.2.1.now fw b1 b2 rfl (by decide), p2 (by decide), p3 (by decide), p4 (by decide), fo, p6 (by decide), p7 (by decide), p8 (by decide), p9 (by decide), (hk.I G.W).fw f2 (f2.ag bg (by decide) (by decide)) (by decide), p11 (by decide), p12 (by decide)⟩, fw.st G.F.1 (by decide) (by rw [z2.N, z2.C, z2.S]; omega)⟩
end REH
