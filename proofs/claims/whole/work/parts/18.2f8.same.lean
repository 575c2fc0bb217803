/-! houses told alike -/
def SmH (E D : Nat → Nat) : Prop := ∀ i, i < 330 → ¬ (110 ≤ i ∧ i < 210 ∧ i % 10 = 4) → D i = E i
def SmF (E D : Nat → Nat) : Prop := ∀ i, i < 330 → D i = E i
def SmT (E D : Nat → Nat) : Prop := ∀ i, 341 ≤ i → D i = E i
section SAME
variable {E D : Nat → Nat} {τ : Nat → Nat} {h : Hp}
theorem SmF.sh (s : SmF E D) : SmH E D := fun i hi _ => s i hi
theorem SmH.lo (s : SmH E D) {i : Nat} (hi : i < 110) : D i = E i := s i (by omega) (by omega)
theorem SmH.hi (s : SmH E D) {i : Nat} (h1 : 210 ≤ i) (hi : i < 330) : D i = E i := s i hi (by omega)
theorem SmH.d0 (s : SmH E D) {d : Nat} (hd : d < 10) : dX D d = dX E d ∧ dYy D d = dYy E d ∧ dAc D d = dAc E d ∧ dLn D d = dLn E d ∧ dTd D d = dTd E d ∧ dCs D d = dCs E d ∧ dWh D d = dWh E d :=
  ⟨s _ (by omega) (by omega), s _ (by omega) (by omega), s _ (by omega) (by omega), s _ (by omega) (by omega), s _ (by omega) (by omega), s _ (by omega) (by omega), s _ (by omega) (by omega)⟩
theorem SmH.lf (s : SmH E D) {d g a : Nat} (hd : d < 10) : lfc D d g a = lfc E d g a := by
  obtain ⟨h1, h2, h3, h4, _⟩ := s.d0 hd
  unfold lfc
  rw [h1, h2, h3, h4]
theorem inE_lt {p : Int × Int} (hW : E 0 ≤ 10 ∧ E 1 ≤ 10) (h : inE E p = true) : cN p < 100 := by
  have := of_decide_eq_true h
  unfold cN
  omega
theorem SmH.fl (s : SmH E D) (hW : E 0 ≤ 10 ∧ E 1 ≤ 10) : flE D = flE E := by
  funext p
  unfold flE
  have e : inE D p = inE E p := by unfold inE; rw [s.lo (i := 0) (by omega), s.lo (i := 1) (by omega)]
  rw [e]
  cases hp : inE E p
  · rfl
  · have := inE_lt hW hp
    rw [s.lo (i := 10 + cN p) (by omega)]
theorem SmH.can (s : SmH E D) (hW : E 0 ≤ 10 ∧ E 1 ≤ 10) {d g a : Nat} (hd : d < 10) : canB D d g a = canB E d g a := by
  unfold canB
  rw [s.lf hd, s.fl hW]
theorem SmH.sw (s : SmH E D) (hW : E 0 ≤ 10 ∧ E 1 ≤ 10) {d g : Nat} (hd : d < 10) : swL D d g = swL E d g ∧ swH D d g = swH E d g ∧ canM D d g = canM E d g := by
  have e : swp D d g = swp E d g := by unfold swp; rw [s.can hW hd, s.can hW hd, s.lf hd, s.lf hd]
  unfold swL swH canM
  rw [e, s.can hW hd, s.can hW hd]
  exact ⟨rfl, rfl, rfl⟩
theorem SmH.cell (s : SmH E D) {c : Nat} (hc : c < 100) : cellV D c = cellV E c := by
  unfold cellV
  rw [s.hi (i := 210 + c) (by omega) (by omega), s.lo (i := 10 + c) (by omega)]
theorem HoR.sm {a : Nat} (hH : HoR τ h a E) (s : SmH E D) (hW : WF E) : HoR τ h a D := by
  obtain ⟨k, ge, t, a0, a1, a2, ⟨f0, f1, f2, f3, f4⟩, hc, hd, hw⟩ := hH
  have w2 := hW.2.2.1
  have w3 := hW.2.2.2.1
  have e0 := s.lo (i := 0) (by omega)
  have e1 := s.lo (i := 1) (by omega)
  have e2 := s.lo (i := 2) (by omega)
  have e3 := s.lo (i := 3) (by omega)
  have e4 := s.lo (i := 4) (by omega)
  refine ⟨k, ge, t, a0, a1, a2, ⟨by rw [e0]; exact f0, by rw [e1]; exact f1, by rw [e2]; exact f2, by rw [e3]; exact f3, by rw [e4]; exact f4⟩, fun c hc' => by rw [s.cell hc']; exact hc c hc', fun d hd' => ?_, fun i hi => ?_⟩
  · rw [e2] at hd'
    obtain ⟨q, dk, dge, dt, b0, b1, b2, b3, b4, f', m1, m2⟩ := hd d hd'
    obtain ⟨h1, h2, h3, h4, h5, h6, h7⟩ := s.d0 (show d < 10 by omega)
    refine ⟨q, dk, dge, dt, b0, b1, b2, b3, b4, by rw [h1, h2, h3, h4, h5, h6, h7]; exact f', fun g a hg ha => ?_, fun g hg => ?_⟩
    · rw [s.lf (by omega)]; exact m1 g a hg ha
    · obtain ⟨u1, u2, u3⟩ := s.sw ⟨hW.1, hW.2.1⟩ (d := d) (g := g) (by omega)
      rw [u1, u2, u3]; exact m2 g hg
  · rw [e3] at hi
    rw [s.hi (i := 310 + i) (by omega) (by omega)]; exact hw i hi
theorem WF.sm (hW : WF E) (s : SmH E D) (hg : ∀ d, d < E 2 → dHg D d < 4) : WF D := by
  obtain ⟨w0, w1, w2, w3, w4, w5, w6, w7, w8⟩ := hW
  have e0 := s.lo (i := 0) (by omega)
  have e1 := s.lo (i := 1) (by omega)
  have e2 := s.lo (i := 2) (by omega)
  have e3 := s.lo (i := 3) (by omega)
  have e4 := s.lo (i := 4) (by omega)
  have dwe : ∀ d i, d < 10 → dwc D d i = dwc E d i := fun d i hd => by
    obtain ⟨h1, h2, h3, h4, h5, h6, h7⟩ := s.d0 hd
    unfold dwc
    rw [h1, h2, h3]
  have dwl : ∀ d i, d < E 2 → i < dLn E d → dwc E d i < 100 := fun d i hd hi => by
    obtain ⟨⟨x1, x2, x3, x4, x5, _⟩, x6, x7, _⟩ := w6 d hd
    unfold dwc
    split
    · rename_i q; have := x6 q; omega
    · rename_i q; have := x7 (by omega); omega
  refine ⟨by omega, by omega, by omega, by omega, by omega, fun c hc => ?_, fun d hd => ?_, fun c d hc hq => ?_, fun i hi => ?_⟩
  · rw [s.lo (i := 10 + c) (by omega), s.hi (i := 210 + c) (by omega) (by omega), e2]; exact w5 c hc
  · rw [e2] at hd
    obtain ⟨h1, h2, h3, h4, h5, h6, h7⟩ := s.d0 (show d < 10 by omega)
    obtain ⟨⟨x1, x2, x3, x4, x5, x8, x9⟩, x6, x7, x10⟩ := w6 d hd
    have hgd := hg d hd
    rw [h1, h2, h3, h4, h5, h6, h7, e0, e1]
    refine ⟨⟨x1, x2, x3, x4, x5, hgd, x9⟩, x6, x7, fun i hi => ?_⟩
    have := dwl d i hd hi
    rw [dwe d i (by omega), s.lo (i := 10 + dwc E d i) (by omega), s.hi (i := 210 + dwc E d i) (by omega) (by omega)]
    exact x10 i hi
  · rw [s.hi (i := 210 + c) (by omega) (by omega)] at hq
    have hd : d < E 2 := by have := (w5 c hc).2; omega
    obtain ⟨h1, h2, h3, h4, h5, h6, h7⟩ := s.d0 (show d < 10 by omega)
    rw [h4]
    obtain ⟨i, hi, hi2⟩ := w7 c d hc hq
    exact ⟨i, hi, by rw [dwe d i (by omega)]; exact hi2⟩
  · rw [e3] at hi
    rw [s.hi (i := 310 + i) (by omega) (by omega), e2]; exact w8 i hi
theorem SmF.hg (s : SmF E D) {d : Nat} (hd : d < 10) : dHg D d = dHg E d := s _ (by omega)
theorem WF.sf (hW : WF E) (s : SmF E D) : WF D := hW.sm s.sh (fun d hd => by rw [s.hg (by have := hW.2.2.1; omega)]; exact hW.hg hd)
theorem VA.sf {an : Nat → Nat} {pl : Nat} (hV : VA E an pl) (hW : WF E) (s : SmF E D) : VA D an pl := by
  have w2 := hW.2.2.1
  have e2 : D 2 = E 2 := s 2 (by omega)
  have lfe : ∀ d c, d < E 2 → lf D an d c = lf E an d c := fun d c hd => by
    unfold lf lfH
    rw [s.hg (by omega), s.sh.lf (by omega)]
  obtain ⟨v1, v2, v3, v4⟩ := hV
  refine ⟨fun d hd => v1 d (by omega), fun d hd => ?_, fun d e c hd he hn h1 => ?_, v4⟩
  · rw [e2] at hd
    rw [s.hg (by omega), s.sh.can ⟨hW.1, hW.2.1⟩ (by omega)]; exact v2 d hd
  · rw [e2] at hd he
    rw [lfe d c hd] at h1
    rw [lfe e c he]
    exact v3 d e c hd he hn h1
theorem VA.an {an bn : Nat → Nat} {pl : Nat} (hV : VA E an pl) (e : ∀ d, d < E 2 → bn d = an d) : VA E bn pl := by
  obtain ⟨v1, v2, v3, v4⟩ := hV
  refine ⟨fun d hd => by rw [e d hd]; exact v1 d hd, fun d hd => by rw [e d hd]; exact v2 d hd, fun d f c hd hf hn h1 => ?_, v4⟩
  unfold lf at *
  rw [e d hd] at h1
  rw [e f hf]
  exact v3 d f c hd hf hn h1
theorem lfH_100 {d g a c : Nat} (hc : 100 ≤ c) : lfH E d g a c = false := by
  unfold lfH
  cases hx : ((lfc E d g a).any fun p => inB p && cN p == c)
  · rfl
  · obtain ⟨p, _, hq⟩ := List.any_eq_true.1 hx
    rw [Bool.and_eq_true, beq_iff_eq] at hq
    have := inB_lt hq.1
    omega
theorem lfH_0 {d g k c : Nat} (hW : WF E) (hd : d < E 2) : lfH E d g 0 c = lfH E d k 0 c := by
  by_cases hc : c < 100
  · have i1 := dw_iff (g := g) hW hd hc
    have i2 := dw_iff (g := k) hW hd hc
    cases u1 : lfH E d g 0 c <;> cases u2 : lfH E d k 0 c
    · rfl
    · rw [i1.2 (i2.1 u2)] at u1; cases u1
    · rw [i2.2 (i1.1 u1)] at u2; cases u2
    · rfl
  · rw [lfH_100 (by omega), lfH_100 (by omega)]
/-- rehung -/
theorem VA.rh {an : Nat → Nat} {pl d v : Nat} (hV : VA E an pl) (hW : WF E) (hd : d < E 2) (h0 : an d = 0) : VA (upX E (114 + 10 * d) v) an pl := by
  have w2 := hW.2.2.1
  have s : SmH E (upX E (114 + 10 * d) v) := fun i _ hn => upX_n (by omega)
  have e2 : upX E (114 + 10 * d) v 2 = E 2 := upX_n (by omega)
  have hge : ∀ e, e ≠ d → dHg (upX E (114 + 10 * d) v) e = dHg E e := fun e he => upX_n (by omega)
  have lfe : ∀ e c, e < E 2 → lf (upX E (114 + 10 * d) v) an e c = lf E an e c := fun e c he => by
    by_cases q : e = d
    · subst q
      have : lf (upX E (114 + 10 * e) v) an e c = lfH E e (dHg (upX E (114 + 10 * e) v) e) (an e) c := by unfold lf lfH; rw [s.lf (by omega)]
      rw [this, h0]
      unfold lf
      rw [h0]
      exact lfH_0 hW hd
    · unfold lf lfH
      rw [hge e q, s.lf (by omega)]
  obtain ⟨v1, v2, v3, v4⟩ := hV
  refine ⟨fun d hd => v1 d (by omega), fun e he => ?_, fun e f c he hf hn h1 => ?_, v4⟩
  · rw [e2] at he
    by_cases q : e = d
    · subst q
      rw [h0]; rfl
    · rw [hge e q, s.can ⟨hW.1, hW.2.1⟩ (by omega)]; exact v2 e he
  · rw [e2] at he hf
    rw [lfe e c he] at h1
    rw [lfe f c hf]
    exact v3 e f c he hf hn h1
theorem DyR.st {p : Nat} (hD : DyR τ h p E) (s : ∀ i, 341 ≤ i → i < 462 → D i = E i) (h60 : E 341 ≤ 60) : DyR τ h p D := by
  obtain ⟨k, ge, t, a0, a1, f, hd⟩ := hD
  have e1 : D 341 = E 341 := s 341 (by omega) (by omega)
  refine ⟨k, ge, t, a0, a1, by rw [e1]; exact f, fun i hi => ?_⟩
  rw [e1] at hi
  have q1 := s (342 + 2 * i) (by omega) (by omega)
  have q2 := s (343 + 2 * i) (by omega) (by omega)
  unfold tmD
  rw [q1, q2]
  exact hd i hi
theorem DW.st (hD : DW E) (s : ∀ i, 341 ≤ i → i < 462 → D i = E i) (e2 : D 2 = E 2) : DW D := by
  have e1 : D 341 = E 341 := s 341 (by omega) (by omega)
  have h60 := hD.1
  refine ⟨by omega, fun i hi => ?_⟩
  rw [e1] at hi
  rw [s (342 + 2 * i) (by omega) (by omega), s (343 + 2 * i) (by omega) (by omega), e2]
  exact hD.2 i hi
theorem PlQ.st {q : Option Nat} (hP : PlQ τ h q E) (s : ∀ i, 341 ≤ i → i < 462 → D i = E i) (h60 : E 341 ≤ 60) : PlQ τ h q D := by
  rcases hP with ⟨a, b⟩ | ⟨p, a, b⟩
  · exact Or.inl ⟨a, by rw [s 341 (by omega) (by omega)]; exact b⟩
  · exact Or.inr ⟨p, a, b.st s h60⟩
theorem SnT.st {p : Nat} (hS : SnT τ h p E) (s : ∀ i, 462 ≤ i → i < 704 → D i = E i) (e2 : D 2 = E 2) : SnT τ h p D := by
  obtain ⟨Y, t, c, r, ps⟩ := hS
  have h40 : Y 900 ≤ 39 := by have := ps.1; have e : X0 901 = 0 := rfl; have e' : X0 900 = 0 := rfl; omega
  refine ⟨Y, t, c, ⟨by rw [s 463 (by omega) (by omega)]; exact r.1, fun j hj => ?_⟩, by rw [e2]; exact ps⟩
  rw [s (464 + j) (by omega) (by omega)]
  exact r.2 j hj
theorem SyQ.st {q : Option Nat} (hP : SyQ τ h q E) (s : ∀ i, 462 ≤ i → i < 704 → D i = E i) (e2 : D 2 = E 2) : SyQ τ h q D := by
  have e1 : D 462 = E 462 := s 462 (by omega) (by omega)
  rcases hP with ⟨a, b⟩ | ⟨p, a, b, c, d⟩
  · exact Or.inl ⟨a, by rw [e1]; exact b⟩
  · exact Or.inr ⟨p, a, by rw [e1]; exact b, c, d.st s e2⟩
end SAME
/-! tags made more -/
def tgx (τ : Nat → Nat) (lo hi v : Nat) : Nat → Nat := fun p => if lo ≤ p ∧ p < hi then v else τ p
theorem tgx_in {τ : Nat → Nat} {lo hi v p : Nat} (h1 : lo ≤ p) (h2 : p < hi) : tgx τ lo hi v p = v := by unfold tgx; rw [if_pos ⟨h1, h2⟩]
theorem tgx_lo {τ : Nat → Nat} {lo hi v p : Nat} (h1 : p < lo) : tgx τ lo hi v p = τ p := by unfold tgx; rw [if_neg (by omega)]
section MORE
variable {τ σ : Nat → Nat} {h : Hp} {E N : Nat → Nat}
theorem ArT.mt {p k ar n : Nat} (z : ArT τ h p k ar n) (m : ∀ q, τ q = 1 → σ q = 1) : ArT σ h p k ar n := ⟨z.1, z.2.1, z.2.2.1, z.2.2.2.1, m _ z.2.2.2.2⟩
theorem DoR.mt {p d : Nat} (hD : DoR τ h p E d) (m : ∀ q, τ q = 1 → σ q = 1) : DoR σ h p E d := by
  obtain ⟨dk, dge, dt, b0, b1, b2, b3, b4, f', m1, m2⟩ := hD
  exact ⟨dk, dge, m _ dt, b0.mt m, b1.mt m, b2.mt m, b3.mt m, b4.mt m, f', m1, m2⟩
theorem HoR.mt {a : Nat} (hH : HoR τ h a E) (m : ∀ q, τ q = 1 → σ q = 1) : HoR σ h a E := by
  obtain ⟨k, ge, t, a0, a1, a2, f, hc, hd, hw⟩ := hH
  exact ⟨k, ge, m _ t, a0.mt m, a1.mt m, a2.mt m, f, hc, fun d hd' => ⟨(hd d hd').1, (hd d hd').2.mt m⟩, hw⟩
theorem DyR.mt {p : Nat} (hD : DyR τ h p E) (m : ∀ q, τ q = 1 → σ q = 1) : DyR σ h p E := by
  obtain ⟨k, ge, t, a0, a1, f, hd⟩ := hD
  exact ⟨k, ge, m _ t, a0.mt m, a1.mt m, f, hd⟩
theorem PlQ.mt {q : Option Nat} (hP : PlQ τ h q E) (m : ∀ q, τ q = 1 → σ q = 1) : PlQ σ h q E := by
  rcases hP with a | ⟨p, a, b⟩
  · exact Or.inl a
  · exact Or.inr ⟨p, a, b.mt m⟩
theorem SyQ.mt {q : Option Nat} (hP : SyQ τ h q E) (m : ∀ q, τ q = 1 → σ q = 1) : SyQ σ h q E := by
  rcases hP with a | ⟨p, a, b, c, Y, t, d⟩
  · exact Or.inl a
  · exact Or.inr ⟨p, a, b, c, Y, ⟨m _ t.1, m _ t.2.1, m _ t.2.2.1, m _ t.2.2.2⟩, d⟩
theorem NmT.mt {a n : Nat} (hP : NmT τ h a n N) (m : ∀ q, τ q = 1 → σ q = 1) : NmT σ h a n N := by
  obtain ⟨⟨t, z⟩, r, t2, r1, r2, r3, r4⟩ := hP
  exact ⟨⟨m _ t, z⟩, r, m _ t2, r1, r2, r3, fun d hd => by obtain ⟨p, w, t3, u⟩ := r4 d hd; exact ⟨p, w, m _ t3, u⟩⟩
theorem ScR.mt {s : Nat} {an : Nat → Nat} {pl : Nat} (hP : ScR τ h s E an pl) (m : ∀ q, τ q = 1 → σ q = 1) : ScR σ h s E an pl := ⟨hP.1, hP.2.1.mt m, hP.2.2⟩
theorem ScG.mt {p ph pa : Nat} {an : Nat → Nat} {pl : Nat} (hP : ScG τ h p ph pa E an pl) (m : ∀ q, τ q = 1 → σ q = 1) : ScG σ h p ph pa E an pl := ⟨hP.1, hP.2.1, hP.2.2.1.mt m, hP.2.2.2⟩
theorem NmT.ag {g : Hp} {a n : Nat} (hP : NmT τ h a n N) (z : Ag τ h g) : NmT τ g a n N := by
  obtain ⟨⟨t, z1, z2, z3⟩, r, t2, r1, r2, r3, r4⟩ := hP
  have A := z a t
  have R := z r t2
  refine ⟨⟨t, by rw [A.1]; exact z1, by rw [A.2.2.2.1]; exact z2, z3⟩, r, t2, by rw [A.2.2.1]; exact r1, by rw [R.1]; exact r2, by rw [R.2.1]; exact r3, fun d hd => ?_⟩
  obtain ⟨p, w, t3, u1, u2, u3, u4⟩ := r4 d hd
  have P := z p t3
  exact ⟨p, w, t3, by rw [R.2.2.1]; exact u1, by rw [P.1]; exact u2, by rw [P.2.2.2.2]; exact u3, u4⟩
theorem NmT.b {a n b : Nat} (hP : NmT τ h a n N) (hT : TG τ) (hb : ∀ q, τ q = 1 → q < b) : NmB h b a n N := by
  obtain ⟨⟨t, z1, z2, z3⟩, r, t2, r1, r2, r3, r4⟩ := hP
  have A := hT a t
  have R := hT r t2
  refine ⟨⟨z1, z2, z3⟩, ⟨by omega, hb a t, by omega⟩, r, ⟨hb r t2, by omega⟩, r1, r2, r3, fun d hd => ?_⟩
  obtain ⟨p, w, t3, u1, u2, u3, u4⟩ := r4 d hd
  have P := hT p t3
  exact ⟨p, w, ⟨hb p t3, by omega⟩, u1, u2, u3, u4⟩
theorem PlQ.ag {g : Hp} {q : Option Nat} (hP : PlQ τ h q E) (z : Ag τ h g) : PlQ τ g q E := by
  rcases hP with a | ⟨p, a, b⟩
  · exact Or.inl a
  · exact Or.inr ⟨p, a, b.ag z⟩
theorem SyQ.ag {g : Hp} {q : Option Nat} (hP : SyQ τ h q E) (z : Ag τ h g) : SyQ τ g q E := by
  rcases hP with a | ⟨p, a, b, c, Y, ⟨t0, t1, t2, t3⟩, ⟨⟨u0, u1, u2, u3, ⟨u4, u5⟩, ⟨u6, u7⟩, u8, u9⟩, ⟨v0, v1⟩, v2⟩, d⟩
  · exact Or.inl a
  · have A0 := z _ t0
    have A1 := z _ t1
    have A2 := z _ t2
    have A3 := z _ t3
    refine Or.inr ⟨p, a, b, c, Y, ⟨t0, t1, t2, t3⟩, ⟨⟨by rw [A0.1]; exact u0, by rw [A0.2.2.1]; exact u1, by rw [A0.2.2.1]; exact u2, by rw [A0.2.2.1]; exact u3, ⟨by rw [A1.1]; exact u4, by rw [A1.2.1]; exact u5⟩, ⟨by rw [A2.1]; exact u6, by rw [A2.2.1]; exact u7⟩, by rw [A3.1]; exact u8, by rw [A3.2.1]; exact u9⟩, ⟨by rw [A0.2.2.2.1]; exact v0, by rw [A0.2.2.2.1]; exact v1⟩, fun i hi => ?_⟩, d⟩
    rw [A1.2.2.2.1, A2.2.2.2.1, A3.2.2.2.1]
    exact v2 i hi
end MORE
