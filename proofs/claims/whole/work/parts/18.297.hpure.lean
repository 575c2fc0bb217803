/-! a line read keeps what a told house keeps; pure -/
def Pk (sz q0 : Nat) (P : (Nat → Nat) → Prop) : RsT → Prop
  | .error _ => True
  | .ok (q, Y) => q0 ≤ q ∧ q ≤ sz ∧ P Y
theorem Pk.up {sz q0 q1 : Nat} {P : (Nat → Nat) → Prop} {r : RsT} (hq : q0 ≤ q1) (hP : Pk sz q1 P r) : Pk sz q0 P r := by
  cases r with
  | error e => trivial
  | ok x =>
    obtain ⟨q, Y⟩ := x
    exact ⟨Nat.le_trans hq hP.1, hP.2⟩
theorem WF.cg3 {X Y : Nat → Nat} (hW : WF X) (e : ∀ j, (j < 110 + 10 * X 2 ∨ (210 ≤ j ∧ j < 310)) → j ≠ 3 → j ≠ 4 → Y j = X j) (e3 : Y 3 ≤ 6) (e4 : Y 4 ≤ 100) (e8 : ∀ i, i < 3 * Y 3 → Y (310 + i) < X 2) : WF Y := by
  obtain ⟨a0, a1, a2, a3, a4, a5, a6, a7, a8⟩ := hW
  have e0 := e 0 (by omega) (by omega) (by omega)
  have e1 := e 1 (by omega) (by omega) (by omega)
  have e2 := e 2 (by omega) (by omega) (by omega)
  have ed : ∀ d, d < X 2 → dX Y d = dX X d ∧ dYy Y d = dYy X d ∧ dAc Y d = dAc X d ∧ dLn Y d = dLn X d ∧ dHg Y d = dHg X d ∧ dTd Y d = dTd X d ∧ dCs Y d = dCs X d ∧ dWh Y d = dWh X d := fun d hd =>
    ⟨e _ (by omega) (by omega) (by omega), e _ (by omega) (by omega) (by omega), e _ (by omega) (by omega) (by omega), e _ (by omega) (by omega) (by omega), e _ (by omega) (by omega) (by omega), e _ (by omega) (by omega) (by omega), e _ (by omega) (by omega) (by omega), e _ (by omega) (by omega) (by omega)⟩
  have ec : ∀ d i, d < X 2 → dwc Y d i = dwc X d i := fun d i hd => by
    unfold dwc
    rw [(ed d hd).1, (ed d hd).2.1, (ed d hd).2.2.1]
  refine ⟨by omega, by omega, by omega, by omega, by omega, fun c hc => ?_, fun d hd => ?_, fun c d hc hd => ?_, fun i hi => ?_⟩
  · rw [e _ (by omega) (by omega) (by omega), e _ (by omega) (by omega) (by omega), e2]; exact a5 c hc
  · rw [e2] at hd
    obtain ⟨b1, b2, b3, b4⟩ := a6 d hd
    obtain ⟨f1, f2, f3, f4, f5, f6, f7, f8⟩ := ed d hd
    rw [f1, f2, f3, f4, f5, f6, f7, f8, e0, e1]
    refine ⟨b1, b2, b3, fun i hi => ?_⟩
    have b5 := b4 i hi
    have lt : dwc X d i < 100 := by
      unfold dwc
      split
      · rename_i z; have := b2 z; omega
      · have := b3 (by omega); omega
    rw [ec d i hd, e _ (by omega) (by omega) (by omega), e _ (by omega) (by omega) (by omega)]
    exact b5
  · rw [e _ (by omega) (by omega) (by omega)] at hd
    have := (a5 c hc).2
    obtain ⟨i, i1, i2⟩ := a7 c d hc hd
    exact ⟨i, by rw [(ed d (by omega)).2.2.2.1]; exact i1, by rw [ec d i (by omega)]; exact i2⟩
  · rw [e2]; exact e8 i hi
theorem WF.cg {X Y : Nat → Nat} (hW : WF X) (e : ∀ j, (j < 110 + 10 * X 2 ∨ (210 ≤ j ∧ j < 330)) → Y j = X j) : WF Y :=
  hW.cg3 (fun j hj _ _ => e j (by omega)) (by rw [e 3 (by omega)]; exact hW.2.2.2.1) (by rw [e 4 (by omega)]; exact hW.2.2.2.2.1) (fun i hi => by
    have := hW.2.2.2.1
    rw [e 3 (by omega)] at hi
    rw [e _ (by omega)]
    exact hW.2.2.2.2.2.2.2.2 i hi)
theorem WF.lt {X : Nat → Nat} (hW : WF X) {d i : Nat} (hd : d < X 2) (hi : i < dLn X d) : dwc X d i < 10 * X 1 := by
  obtain ⟨a0, a1, a2, a3, a4, a5, a6, a7, a8⟩ := hW
  obtain ⟨b1, b2, b3, b4⟩ := a6 d hd
  unfold dwc
  split
  · rename_i z; have := b2 z; omega
  · have := b3 (by omega); omega
theorem dwc_xy {X : Nat → Nat} {d : Nat} (ha : dAc X d ≤ 1) (i : Nat) : 10 * dwy (dYy X d) (dAc X d) i + dwx (dX X d) (dAc X d) i = dwc X d i := by
  unfold dwc dwx dwy
  by_cases c : dAc X d = 0
  · rw [if_pos c, if_pos c, if_neg (by omega)]; omega
  · rw [if_neg c, if_neg c, if_pos (by omega)]
theorem filX_v {X : Nat → Nat} {x y ac v : Nat} (c : Nat) : ∀ n, (∃ i, i < n ∧ c = 10 * dwy y ac i + dwx x ac i) ∧ filX X x y ac v n (210 + c) = v ∨ (¬ ∃ i, i < n ∧ c = 10 * dwy y ac i + dwx x ac i) ∧ filX X x y ac v n (210 + c) = X (210 + c) := by
  intro n
  induction n with
  | zero => exact Or.inr ⟨fun ⟨i, a, _⟩ => absurd a (by omega), rfl⟩
  | succ n ih =>
    by_cases e : c = 10 * dwy y ac n + dwx x ac n
    · exact Or.inl ⟨⟨n, by omega, e⟩, by show upX _ _ _ _ = v; rw [e, upX_i]⟩
    · have e2 : filX X x y ac v (n + 1) (210 + c) = filX X x y ac v n (210 + c) := upX_n (by omega)
      rw [e2]
      rcases ih with ⟨⟨i, a, b⟩, z⟩ | ⟨a, z⟩
      · exact Or.inl ⟨⟨i, by omega, b⟩, z⟩
      · refine Or.inr ⟨fun ⟨i, b, w⟩ => ?_, z⟩
        by_cases k : i = n
        · subst k; exact e w
        · exact a ⟨i, by omega, w⟩
/-- a door about to be laid -/
def DWz (X : Nat → Nat) (d : Nat) : Prop := dX X d < X 0 ∧ dYy X d < X 1 ∧ dAc X d ≤ 1 ∧ 1 ≤ dLn X d ∧ dLn X d ≤ 3 ∧ ∀ i, i < dLn X d → dwx (dX X d) (dAc X d) i < X 0 ∧ dwy (dYy X d) (dAc X d) i < X 1 ∧ X (10 + (10 * dwy (dYy X d) (dAc X d) i + dwx (dX X d) (dAc X d) i)) = 1 ∧ X (210 + (10 * dwy (dYy X d) (dAc X d) i + dwx (dX X d) (dAc X d) i)) = 0
theorem dorE_WF {X : Nat → Nat} {d : Nat} (hW : WF X) (hd : X 2 = d) (hd9 : d < 10) (hz : DWz X d) (h4 : dHg X d < 4 ∧ dTd X d < 16 ∧ 1 ≤ dCs X d ∧ dCs X d ≤ 99 ∧ dWh X d ≤ 1) : WF (dorE X d) := by
  obtain ⟨z1, z2, z3, z4, z5, z6⟩ := hz
  obtain ⟨a0, a1, a2, a3, a4, a5, a6, a7, a8⟩ := id hW
  have lt : ∀ i, i < dLn X d → dwx (dX X d) (dAc X d) i < 10 ∧ dwy (dYy X d) (dAc X d) i < 10 := fun i hi => by have := z6 i hi; omega
  have fn := filX_n (X := X) (v := d + 1) _ lt
  have y2 : dorE X d 2 = d + 1 := by unfold dorE; rw [upX_i, hd]
  have yn : ∀ j, j ≠ 2 → (j < 210 ∨ 310 ≤ j) → dorE X d j = X j := fun j h1 h2 => by unfold dorE; rw [upX_n h1, fn j h2]
  have yc : ∀ c, (∃ i, i < dLn X d ∧ c = dwc X d i) ∧ dorE X d (210 + c) = d + 1 ∨ (¬ ∃ i, i < dLn X d ∧ c = dwc X d i) ∧ dorE X d (210 + c) = X (210 + c) := fun c => by
    have := filX_v (X := X) (x := dX X d) (y := dYy X d) (ac := dAc X d) (v := d + 1) c (dLn X d)
    unfold dorE
    rw [upX_n (by omega)]
    simp only [dwc_xy z3] at this
    exact this
  have ed : ∀ e, e < 10 → dX (dorE X d) e = dX X e ∧ dYy (dorE X d) e = dYy X e ∧ dAc (dorE X d) e = dAc X e ∧ dLn (dorE X d) e = dLn X e ∧ dHg (dorE X d) e = dHg X e ∧ dTd (dorE X d) e = dTd X e ∧ dCs (dorE X d) e = dCs X e ∧ dWh (dorE X d) e = dWh X e := fun e he =>
    ⟨yn _ (by omega) (by omega), yn _ (by omega) (by omega), yn _ (by omega) (by omega), yn _ (by omega) (by omega), yn _ (by omega) (by omega), yn _ (by omega) (by omega), yn _ (by omega) (by omega), yn _ (by omega) (by omega)⟩
  have ec : ∀ e i, e < 10 → dwc (dorE X d) e i = dwc X e i := fun e i he => by
    unfold dwc
    rw [(ed e he).1, (ed e he).2.1, (ed e he).2.2.1]
  have y0 := yn 0 (by omega) (by omega)
  have y1 := yn 1 (by omega) (by omega)
  have zc : ∀ i, i < dLn X d → X (10 + dwc X d i) = 1 ∧ X (210 + dwc X d i) = 0 := fun i hi => by
    have := z6 i hi
    rw [dwc_xy z3] at this
    exact this.2.2
  refine ⟨by omega, by omega, by omega, by rw [yn 3 (by omega) (by omega)]; exact a3, by rw [yn 4 (by omega) (by omega)]; exact a4, fun c hc => ⟨?_, ?_⟩, fun e he => ?_, fun c e hc he => ?_, fun i hi => ?_⟩
  · rw [yn _ (by omega) (by omega)]; exact (a5 c hc).1
  · have := (a5 c hc).2
    rcases yc c with ⟨_, z⟩ | ⟨_, z⟩ <;> rw [z, y2] <;> omega
  · rw [y2] at he
    obtain ⟨f1, f2, f3, f4, f5, f6, f7, f8⟩ := ed e (by omega)
    rw [f1, f2, f3, f4, f5, f6, f7, f8, y0, y1]
    by_cases k : e = d
    · subst k
      refine ⟨⟨z1, z2, z3, z4, z5, h4⟩, fun c => ?_, fun c => ?_, fun i hi => ?_⟩
      · have := (z6 (dLn X e - 1) (by omega)).1
        unfold dwx at this
        rw [if_pos c] at this
        omega
      · have := (z6 (dLn X e - 1) (by omega)).2.1
        unfold dwy at this
        rw [if_pos c] at this
        omega
      · have l := lt i hi
        have x := dwc_xy (X := X) (d := e) z3 i
        rw [ec e i (by omega), yn _ (by omega) (by omega)]
        refine ⟨(zc i hi).1, ?_⟩
        rcases yc (dwc X e i) with ⟨_, z⟩ | ⟨z, _⟩
        · exact z
        · exact absurd ⟨i, hi, rfl⟩ z
    · obtain ⟨b1, b2, b3, b4⟩ := a6 e (by omega)
      refine ⟨b1, b2, b3, fun i hi => ?_⟩
      have l := hW.lt (d := e) (by omega) hi
      have b5 := b4 i hi
      rw [ec e i (by omega), yn _ (by omega) (by omega)]
      refine ⟨b5.1, ?_⟩
      rcases yc (dwc X e i) with ⟨⟨k, k1, k2⟩, _⟩ | ⟨_, z⟩
      · have := (zc k k1).2
        rw [← k2] at this
        omega
      · rw [z]; exact b5.2
  · have := (a5 c hc).2
    rcases yc c with ⟨⟨k, k1, k2⟩, z⟩ | ⟨_, z⟩
    · have : e = d := by omega
      subst this
      exact ⟨k, by rw [(ed e (by omega)).2.2.2.1]; exact k1, by rw [ec e k (by omega)]; exact k2⟩
    · rw [z] at he
      obtain ⟨i, i1, i2⟩ := a7 c e hc he
      exact ⟨i, by rw [(ed e (by omega)).2.2.2.1]; exact i1, by rw [ec e i (by omega)]; exact i2⟩
  · rw [yn 3 (by omega) (by omega)] at hi
    have := a8 i hi
    rw [yn _ (by omega) (by omega), y2]
    omega
section HPURE
variable {T : Nat → Nat} {sz lim : Nat}
/-- at door d: what changes of it alone leaves the house -/
theorem WF.up {X : Nat → Nat} {d i v : Nat} (hW : WF X) (hd : X 2 = d) (hd9 : d < 10) (hi : 110 + 10 * d ≤ i ∧ i < 210 ∨ 330 ≤ i) : WF (upX X i v) := hW.cg (fun j hj => upX_n (by omega))
theorem DWz.up {X : Nat → Nat} {d k v : Nat} (hz : DWz X d) (hW : WF X) (hk : 114 + 10 * d ≤ k) (hk2 : k < 210) : DWz (upX X k v) d := by
  obtain ⟨z1, z2, z3, z4, z5, z6⟩ := hz
  obtain ⟨a0, a1, _⟩ := hW
  have e0 : dX (upX X k v) d = dX X d := upX_n (by omega)
  have e1 : dYy (upX X k v) d = dYy X d := upX_n (by omega)
  have e2 : dAc (upX X k v) d = dAc X d := upX_n (by omega)
  have e3 : dLn (upX X k v) d = dLn X d := upX_n (by omega)
  unfold DWz
  rw [e0, e1, e2, e3, upX_n (show 0 ≠ k by omega), upX_n (show 1 ≠ k by omega)]
  refine ⟨z1, z2, z3, z4, z5, fun i hi => ?_⟩
  have := z6 i hi
  rw [upX_n (by omega), upX_n (by omega)]
  exact this
theorem dorW_P {X : Nat → Nat} {d q : Nat} (hq : q ≤ sz) (hW : WF X) (hd : X 2 = d) (hd9 : d < 10) (hz : DWz X d) (h4 : dHg X d < 4 ∧ dTd X d < 16 ∧ 1 ≤ dCs X d ∧ dCs X d ≤ 99) : Pk sz q WF (dorW T sz lim q X d) := by
  have fin : ∀ v, v ≤ 1 → WF (dorE (upX X (117 + 10 * d) v) d) := fun v hv => by
    refine dorE_WF (hW.up hd hd9 (by omega)) ((upX_n (by omega)).trans hd) hd9 (hz.up hW (by omega) (by omega)) ?_
    unfold dHg dTd dCs dWh
    rw [upX_n (by omega), upX_n (by omega), upX_n (by omega), upX_i]
    exact ⟨h4.1, h4.2.1, h4.2.2.1, h4.2.2.2, hv⟩
  have nl := tkN_le (T := T) (lim := lim) hq
  unfold dorW
  split
  · exact ⟨nl.1, nl.2, fin 1 (by omega)⟩
  · exact ⟨Nat.le_refl _, hq, fin 0 (by omega)⟩
theorem dorC_P {X : Nat → Nat} {d q : Nat} (hq : q ≤ sz) (hW : WF X) (hd : X 2 = d) (hd9 : d < 10) (hz : DWz X d) (h4 : dHg X d < 4 ∧ dTd X d < 16) : Pk sz q WF (dorC T sz lim q X d) := by
  have nl := tkN_le (T := T) (lim := lim) hq
  have nl2 := tkN_le (T := T) (lim := lim) nl.2
  unfold dorC
  split
  · split
    · rename_i c
      have nk := nmB_k c
      refine Pk.up (q1 := tkN T sz lim (tkN T sz lim q)) (by omega) (dorW_P nl2.2 ?_ ?_ hd9 ?_ ?_)
      · exact (hW.up hd hd9 (by omega)).up ((upX_n (by omega)).trans hd) hd9 (by omega)
      · rw [upX_n (by omega), upX_n (by omega)]; exact hd
      · exact (hz.up hW (by omega) (by omega)).up (hW.up hd hd9 (by omega)) (by omega) (by omega)
      · unfold dHg dTd dCs
        rw [upX_n (by omega), upX_n (by omega), upX_n (by omega), upX_n (by omega), upX_i]
        exact ⟨h4.1, h4.2, by omega, by omega⟩
    · trivial
  · refine dorW_P hq (hW.up hd hd9 (by omega)) ((upX_n (by omega)).trans hd) hd9 (hz.up hW (by omega) (by omega)) ?_
    unfold dHg dTd dCs
    rw [upX_n (by omega), upX_n (by omega), upX_i]
    exact ⟨h4.1, h4.2, by omega, by omega⟩
theorem dorT_P {d : Nat} (hd9 : d < 10) : ∀ r q (X : Nat → Nat), q ≤ sz → WF X → X 2 = d → DWz X d → dHg X d < 4 ∧ dTd X d < 16 → Pk sz q WF (dorT T sz lim d r q X) := by
  intro r
  induction r with
  | zero => intro q X hq hW hd hz h4; exact dorC_P hq hW hd hd9 hz h4
  | succ r ih =>
    intro q X hq hW hd hz h4
    have nl := tkN_le (T := T) (lim := lim) hq
    have nl2 := tkN_le (T := T) (lim := lim) nl.2
    unfold dorT
    split
    · split
      · rename_i c
        have nk := nmB_k c
        split
        · trivial
        · rename_i ht
          have bu := bc4_up _ h4.2 (tkV T sz lim (tkN T sz lim q)) (by omega) (by rw [← Bool.not_eq_true]; exact ht)
          refine Pk.up (q1 := tkN T sz lim (tkN T sz lim q)) (by omega) (ih _ _ nl2.2 (hW.up hd hd9 (by omega)) ((upX_n (by omega)).trans hd) (hz.up hW (by omega) (by omega)) ?_)
          unfold dHg
          rw [upX_n (by omega)]
          refine ⟨h4.1, ?_⟩
          show upX X (115 + 10 * d) _ (115 + 10 * d) < 16
          rw [upX_i]
          exact bu.2
      · trivial
    · exact dorC_P hq hW hd hd9 hz h4
theorem dorH_P {X : Nat → Nat} {d q : Nat} (hq : q ≤ sz) (hW : WF X) (hd : X 2 = d) (hd9 : d < 10) (hz : DWz X d) : Pk sz q WF (dorH T sz lim q X d) := by
  have nl := tkN_le (T := T) (lim := lim) hq
  unfold dorH
  split
  · rename_i c
    have nk := nmB_k c
    have b1 := bc4_1 (tkV T sz lim q) (by omega)
    refine Pk.up nl.1 (dorT_P hd9 4 _ _ nl.2 ((hW.up hd hd9 (by omega)).up ((upX_n (by omega)).trans hd) hd9 (by omega)) ?_ ((hz.up hW (by omega) (by omega)).up (hW.up hd hd9 (by omega)) (by omega) (by omega)) ?_)
    · rw [upX_n (by omega), upX_n (by omega)]; exact hd
    · unfold dHg dTd
      rw [upX_n (by omega), upX_i, upX_i]
      exact ⟨by omega, b1.2⟩
  · trivial
theorem dorL_P {X : Nat → Nat} {d q : Nat} (hq : q ≤ sz) (hW : WF X) (hd : X 2 = d) (hd9 : d < 10) (h3 : dX X d < X 0 ∧ dYy X d < X 1 ∧ dAc X d ≤ 1) : Pk sz q WF (dorL T sz lim q X d) := by
  have nl := tkN_le (T := T) (lim := lim) hq
  unfold dorL
  split
  · rename_i c
    have nk := nmB_k c
    split
    · rename_i c0
      have d0 := (dwR_0 _ _ _ c0).2
      refine Pk.up nl.1 (dorH_P nl.2 (hW.up hd hd9 (by omega)) ((upX_n (by omega)).trans hd) hd9 ?_)
      have e0 : dX (upX X (113 + 10 * d) (tkV T sz lim q)) d = dX X d := upX_n (by omega)
      have e1 : dYy (upX X (113 + 10 * d) (tkV T sz lim q)) d = dYy X d := upX_n (by omega)
      have e2 : dAc (upX X (113 + 10 * d) (tkV T sz lim q)) d = dAc X d := upX_n (by omega)
      have e3 : dLn (upX X (113 + 10 * d) (tkV T sz lim q)) d = tkV T sz lim q := upX_i _ _ _
      unfold DWz
      rw [e0, e1, e2, e3, upX_n (show 0 ≠ 113 + 10 * d by omega), upX_n (show 1 ≠ 113 + 10 * d by omega)]
      refine ⟨h3.1, h3.2.1, h3.2.2, by omega, by omega, fun i hi => ?_⟩
      have := d0 i (by omega) (by omega)
      have a0 := hW.1
      have a1 := hW.2.1
      rw [upX_n (by omega), upX_n (by omega)]
      exact this
    · trivial
  · trivial
theorem dorA_P {X : Nat → Nat} {d q : Nat} (hq : q ≤ sz) (hW : WF X) (hd : X 2 = d) (hd9 : d < 10) (h3 : dX X d < X 0 ∧ dYy X d < X 1) : Pk sz q WF (dorA T sz lim q X d) := by
  have nl := tkN_le (T := T) (lim := lim) hq
  unfold dorA
  split
  · refine Pk.up nl.1 (dorL_P nl.2 (hW.up hd hd9 (by omega)) ((upX_n (by omega)).trans hd) hd9 ?_)
    unfold dX dYy dAc
    rw [upX_n (by omega), upX_n (by omega), upX_n (by omega), upX_n (by omega), upX_i]
    exact ⟨h3.1, h3.2, by split <;> omega⟩
  · trivial
theorem dorY_P {X : Nat → Nat} {d q : Nat} (hq : q ≤ sz) (hW : WF X) (hd : X 2 = d) (hd9 : d < 10) (h3 : dX X d < X 0) : Pk sz q WF (dorY T sz lim q X d) := by
  have nl := tkN_le (T := T) (lim := lim) hq
  unfold dorY
  split
  · rename_i c
    have nk := nmB_k c
    refine Pk.up nl.1 (dorA_P nl.2 (hW.up hd hd9 (by omega)) ((upX_n (by omega)).trans hd) hd9 ?_)
    unfold dX dYy
    rw [upX_n (by omega), upX_n (by omega), upX_i, upX_n (by omega)]
    exact ⟨h3, by omega⟩
  · trivial
theorem dorX_P {X : Nat → Nat} {d q : Nat} (hq : q ≤ sz) (hW : WF X) (hd : X 2 = d) (hd9 : d < 10) : Pk sz q WF (dorX T sz lim q X d) := by
  have nl := tkN_le (T := T) (lim := lim) hq
  unfold dorX
  split
  · rename_i c
    have nk := nmB_k c
    refine Pk.up nl.1 (dorY_P nl.2 (hW.up hd hd9 (by omega)) ((upX_n (by omega)).trans hd) hd9 ?_)
    unfold dX
    rw [upX_i, upX_n (by omega)]
    omega
  · trivial
theorem dorR_P {X : Nat → Nat} {q : Nat} (hq : q ≤ sz) (hW : WF X) : Pk sz (tkN T sz lim q) WF (dorR T sz lim q X) := by
  have nl := tkN_le (T := T) (lim := lim) hq
  have nl2 := tkN_le (T := T) (lim := lim) nl.2
  have a2 := hW.2.2.1
  unfold dorR
  split
  · trivial
  · unfold dorN
    split
    · trivial
    · split
      · trivial
      · exact Pk.up (q1 := tkN T sz lim (tkN T sz lim q)) (by omega) (dorX_P nl2.2 (hW.up rfl (by omega) (by omega)) (upX_n (by omega)) (by omega))
theorem rulT_P {j : Nat} (hj : j < 6) : ∀ r i q (X : Nat → Nat) b, i + r = 3 → q ≤ sz → WF X → X 3 = j → (∀ k, k < i → X (310 + 3 * j + k) < X 2) → Pk sz q WF (rulT T sz lim j r i q X b) := by
  intro r
  induction r with
  | zero =>
    intro i q X b hi hq hW h3 hk
    refine ⟨Nat.le_refl _, hq, ?_⟩
    refine hW.cg3 (fun z _ z3 _ => upX_n z3) (by rw [upX_i]; omega) (by rw [upX_n (by omega)]; exact hW.2.2.2.2.1) (fun k kk => ?_)
    rw [upX_i] at kk
    rw [upX_n (by omega)]
    by_cases c : k < 3 * X 3
    · exact hW.2.2.2.2.2.2.2.2 k c
    · have := hk (k - 3 * j) (by omega)
      rwa [show 310 + 3 * j + (k - 3 * j) = 310 + k by omega] at this
  | succ r ih =>
    intro i q X b hi hq hW h3 hk
    have nl := tkN_le (T := T) (lim := lim) hq
    unfold rulT
    split
    · trivial
    · split
      · trivial
      · rename_i c
        split
        · trivial
        · refine Pk.up nl.1 (ih (i + 1) _ _ _ (by omega) nl.2 ?_ ((upX_n (by omega)).trans h3) (fun k kk => ?_))
          · refine hW.cg3 (fun z zz _ _ => upX_n (by have := hW.2.2.1; omega)) (by rw [upX_n (by omega)]; exact hW.2.2.2.1) (by rw [upX_n (by omega)]; exact hW.2.2.2.2.1) (fun k kk => ?_)
            rw [upX_n (by omega)] at kk
            rw [upX_n (by omega)]
            exact hW.2.2.2.2.2.2.2.2 k kk
          · rw [upX_n (show 2 ≠ 310 + 3 * j + i by omega), upX_e]
            split
            · omega
            · exact hk k (by omega)
theorem rulR_P {X : Nat → Nat} {q : Nat} (hq : q ≤ sz) (hW : WF X) : Pk sz (tkN T sz lim q) WF (rulR T sz lim q X) := by
  have nl := tkN_le (T := T) (lim := lim) hq
  have a3 := hW.2.2.2.1
  unfold rulR
  split
  · trivial
  · exact rulT_P (by omega) 3 0 _ X 0 rfl nl.2 hW rfl (fun k hk => absurd hk (by omega))
theorem stdR_P {X : Nat → Nat} {q : Nat} (hq : q ≤ sz) (hW : WF X) : Pk sz (tkN T sz lim q) WF (stdR T sz lim q X) := by
  have nl := tkN_le (T := T) (lim := lim) hq
  have nl2 := tkN_le (T := T) (lim := lim) nl.2
  have nl3 := tkN_le (T := T) (lim := lim) nl2.2
  obtain ⟨a0, a1, _⟩ := id hW
  unfold stdR
  split
  · trivial
  · split
    · trivial
    · rename_i c1
      have k1 := nmB_k (Bool.not_eq_false _ ▸ c1)
      split
      · trivial
      · rename_i c2
        have k2 := nmB_k (Bool.not_eq_false _ ▸ c2)
        split
        · trivial
        · refine ⟨by omega, nl3.2, hW.cg3 (fun z _ _ z4 => upX_n z4) (by rw [upX_n (by omega)]; exact hW.2.2.2.1) (by rw [upX_i]; omega) (fun k kk => ?_)⟩
          rw [upX_n (by omega)] at kk
          rw [upX_n (by omega)]
          exact hW.2.2.2.2.2.2.2.2 k kk
theorem rowR_P {X : Nat → Nat} {q : Nat} (hq : q ≤ sz) (hW : WF X) : Pk sz (tkN T sz lim q) WF (rowR T sz lim q X) := by
  have nl := tkN_le (T := T) (lim := lim) hq
  have nl2 := tkN_le (T := T) (lim := lim) nl.2
  obtain ⟨a0, a1, a2, a3, a4, a5, a6, a7, a8⟩ := id hW
  unfold rowR
  split
  · trivial
  · split
    · trivial
    · rename_i c2
      have tw := tk_word (T := T) (lim := lim) nl.2 (Decidable.of_not_not c2)
      split
      · trivial
      · rename_i c3
        refine ⟨by omega, nl2.2, ?_⟩
        generalize hw : tkN T sz lim (tkN T sz lim q) - tkA T sz lim (tkN T sz lim q) = w at *
        generalize tkA T sz lim (tkN T sz lim q) = a at *
        have cl : ∀ c, c < 100 → rowX T (upX X 0 w) a w (10 + c) ≤ 2 := by
          have key : ∀ n, ∀ c, c < 100 → rowX T (upX X 0 w) a n (10 + c) ≤ 2 := by
            intro n
            induction n with
            | zero =>
              intro c hc
              show upX X 0 w (10 + c) ≤ 2
              rw [upX_n (by omega)]; exact (a5 c hc).1
            | succ n ih =>
              intro c hc
              have := clV_le (T (a + n))
              show upX _ _ _ (10 + c) ≤ 2
              rw [upX_e]
              split
              · omega
              · exact ih c hc
          exact key w
        have low : ∀ n, n ≤ w → ∀ j, j < 10 + 10 * X 1 ∨ 110 ≤ j → j ≠ 0 → rowX T (upX X 0 w) a n j = X j := by
          intro n
          induction n with
          | zero => intro _ j _ h0; exact upX_n h0
          | succ n ih =>
            intro hn j hj h0
            have e1 : upX X 0 w 1 = X 1 := upX_n (by omega)
            show upX _ (10 + 10 * upX X 0 w 1 + n) _ j = X j
            rw [upX_n (by omega), ih (by omega) j hj h0]
        have e1 : upX X 0 w 1 = X 1 := upX_n (by omega)
        have r0 : rowX T (upX X 0 w) a w 0 = w := by rw [rowX_n (by omega) w (by omega) 0 (by omega), upX_i]
        have lowW := low w (Nat.le_refl _)
        clear low
        generalize rowX T (upX X 0 w) a w = R at *
        have y0 : upX R 1 (X 1 + 1) 0 = w := (upX_n (by omega)).trans r0
        have yl : ∀ j, j < 10 + 10 * X 1 ∨ 110 ≤ j → j ≠ 0 → j ≠ 1 → upX R 1 (X 1 + 1) j = X j := fun j hj h0 h1 => by rw [upX_n h1, lowW j hj h0]
        have y1 : upX R 1 (X 1 + 1) 1 = X 1 + 1 := upX_i _ _ _
        have yc : ∀ c, c < 100 → upX R 1 (X 1 + 1) (10 + c) ≤ 2 := fun c hc => by rw [upX_n (by omega)]; exact cl c hc
        generalize upX R 1 (X 1 + 1) = Y at *
        have w0 : ∀ d, d < X 2 → w = X 0 := by
          intro d hd
          have := (a6 d hd).1
          by_cases z : w = X 0
          · exact z
          · exact absurd (Or.inr ⟨by omega, z⟩) c3
        have ed : ∀ d, d < X 2 → dX Y d = dX X d ∧ dYy Y d = dYy X d ∧ dAc Y d = dAc X d ∧ dLn Y d = dLn X d ∧ dHg Y d = dHg X d ∧ dTd Y d = dTd X d ∧ dCs Y d = dCs X d ∧ dWh Y d = dWh X d := fun d hd =>
          ⟨yl _ (by omega) (by omega) (by omega), yl _ (by omega) (by omega) (by omega), yl _ (by omega) (by omega) (by omega), yl _ (by omega) (by omega) (by omega), yl _ (by omega) (by omega) (by omega), yl _ (by omega) (by omega) (by omega), yl _ (by omega) (by omega) (by omega), yl _ (by omega) (by omega) (by omega)⟩
        have ec : ∀ d i, d < X 2 → dwc Y d i = dwc X d i := fun d i hd => by
          unfold dwc
          rw [(ed d hd).1, (ed d hd).2.1, (ed d hd).2.2.1]
        have y2 := yl 2 (by omega) (by omega) (by omega)
        have y3 := yl 3 (by omega) (by omega) (by omega)
        refine ⟨by omega, by omega, by omega, by omega, by rw [yl 4 (by omega) (by omega) (by omega)]; exact a4, fun c hc => ⟨yc c hc, ?_⟩, fun d hd => ?_, fun c d hc hd => ?_, fun i hi => ?_⟩
        · rw [yl _ (by omega) (by omega) (by omega), y2]; exact (a5 c hc).2
        · rw [y2] at hd
          obtain ⟨b1, b2, b3, b4⟩ := a6 d hd
          obtain ⟨f1, f2, f3, f4, f5, f6, f7, f8⟩ := ed d hd
          rw [f1, f2, f3, f4, f5, f6, f7, f8, y0, y1, w0 d hd]
          refine ⟨⟨b1.1, by omega, b1.2.2⟩, b2, fun z => by have := b3 z; omega, fun i hi => ?_⟩
          have l := hW.lt hd hi
          rw [ec d i hd, yl _ (by omega) (by omega) (by omega), yl _ (by omega) (by omega) (by omega)]
          exact b4 i hi
        · rw [yl _ (by omega) (by omega) (by omega)] at hd
          have := (a5 c hc).2
          obtain ⟨i, i1, i2⟩ := a7 c d hc hd
          exact ⟨i, by rw [(ed d (by omega)).2.2.2.1]; exact i1, by rw [ec d i (by omega)]; exact i2⟩
        · rw [y3] at hi
          rw [y2, yl _ (by omega) (by omega) (by omega)]
          exact a8 i hi
theorem tkN_w {p : Nat} (hk : tkK T sz lim p = 2) (hp : p ≤ sz) : p < tkN T sz lim p := by
  have h1 := tkQ_le (T := T) hp
  have tw := (tk_word (T := T) (lim := lim) hp hk).2.2.1
  have kk : tkK T sz lim p = if lim < sz ∧ lim ≤ tkQ T sz p then 1 else if sz ≤ tkQ T sz p then 0 else if (isLt (T (tkQ T sz p)) || isDg (T (tkQ T sz p))) = true then rnK T (tkQ T sz p) (tkE T sz p - tkQ T sz p) else if isSg (T (tkQ T sz p)) = true then T (tkQ T sz p) else 1 := rfl
  have ka : tkA T sz lim p = if lim < sz ∧ lim ≤ tkQ T sz p then lim else tkQ T sz p := rfl
  rw [kk] at hk
  by_cases c : lim < sz ∧ lim ≤ tkQ T sz p
  · rw [if_pos c] at hk; omega
  · rw [if_neg c] at ka
    omega
theorem kinR_P {X : Nat → Nat} {q : Nat} (hq : q ≤ sz) (hW : WF X) : Pk sz (q + 1) WF (kinR T sz lim q X) := by
  unfold kinR
  split
  · rename_i c
    have := tkN_w (isW_k c) hq
    exact (rowR_P hq hW).up (by omega)
  · split
    · rename_i c
      have := tkN_w (isW_k c) hq
      exact (dorR_P hq hW).up (by omega)
    · split
      · rename_i c
        have := tkN_w (isW_k c) hq
        exact (rulR_P hq hW).up (by omega)
      · split
        · rename_i c
          have := tkN_w (isW_k c) hq
          exact (stdR_P hq hW).up (by omega)
        · trivial
theorem tkN_st {p : Nat} (hk : 3 < tkK T sz lim p) (hp : p ≤ sz) : p < tkN T sz lim p := by
  have h1 := tkQ_le (T := T) hp
  have kk : tkK T sz lim p = if lim < sz ∧ lim ≤ tkQ T sz p then 1 else if sz ≤ tkQ T sz p then 0 else if (isLt (T (tkQ T sz p)) || isDg (T (tkQ T sz p))) = true then rnK T (tkQ T sz p) (tkE T sz p - tkQ T sz p) else if isSg (T (tkQ T sz p)) = true then T (tkQ T sz p) else 1 := rfl
  have kn : tkN T sz lim p = if lim < sz ∧ lim ≤ tkQ T sz p then tkQ T sz p else if sz ≤ tkQ T sz p then tkQ T sz p else if (isLt (T (tkQ T sz p)) || isDg (T (tkQ T sz p))) = true then tkE T sz p else tkQ T sz p + 1 := rfl
  rw [kk] at hk
  by_cases c : lim < sz ∧ lim ≤ tkQ T sz p
  · rw [if_pos c] at hk; omega
  · rw [if_neg c] at hk kn
    by_cases c2 : sz ≤ tkQ T sz p
    · rw [if_pos c2] at hk; omega
    · rw [if_neg c2] at hk kn
      by_cases c3 : (isLt (T (tkQ T sz p)) || isDg (T (tkQ T sz p))) = true
      · rw [if_pos c3] at hk
        unfold rnK at hk
        split at hk
        · omega
        · split at hk <;> omega
      · rw [if_neg c3] at kn
        omega
theorem linR_P {X : Nat → Nat} {q : Nat} (hq : q ≤ sz) (hW : WF X) : Pk sz (q + 2) WF (linR T sz lim q X) := by
  have := kinR_P (T := T) (lim := lim) hq hW
  unfold linR
  cases hr : kinR T sz lim q X with
  | error e => trivial
  | ok x =>
    obtain ⟨q1, Y⟩ := x
    rw [hr] at this
    show Pk sz (q + 2) WF (if tkK T sz lim q1 = 59 then .ok (tkN T sz lim q1, Y) else erA T sz lim 1 q1)
    split
    · rename_i c
      have nl := tkN_le (T := T) (lim := lim) this.2.1
      have st := tkN_st (T := T) (sz := sz) (lim := lim) (p := q1) (by omega) this.2.1
      have l1 := this.1
      exact ⟨by omega, nl.2, this.2.2⟩
    · trivial
end HPURE
