/-! the fewest doors that can't be hung together -/
def ex3 (E : Nat → Nat) (am : Nat → Bool) (r d : Nat) (L : Nat → Nat → Bool) : Bool := (br E am (fun _ => 0) (fun _ => 0) r d L).isSome
theorem isS_no {α : Type} {o : Option α} : o.isSome = false ↔ o = none := by cases o <;> simp
section STUCK
variable {τ : Nat → Nat} {E : Nat → Nat} {am : Nat → Bool}
theorem ex3_s (r d : Nat) (L : Nat → Nat → Bool) : ex3 E am (r + 1) d L = if am d = true then exB (fun h => L d h && ex3 E am r (d + 1) (nxL E L d h)) 0 4 else ex3 E am r (d + 1) L := by
  unfold ex3
  rw [br_s]
  split
  · cases hx : exB (fun h => L d h && (br E am (fun _ => 0) (fun _ => 0) r (d + 1) (nxL E L d h)).isSome) 0 4
    · rw [isS_no, fo_none]
      intro i hi hp
      show Option.map _ _ = none
      rw [Option.map_eq_none_iff, ← isS_no]
      cases hs : (br E am (fun _ => 0) (fun _ => 0) r (d + 1) (nxL E L d i)).isSome
      · rfl
      · rw [(exB_iff _ _ _).2 ⟨i, by omega, by omega, by rw [hp, hs]; rfl⟩] at hx; cases hx
    · obtain ⟨i, _, h2, h3⟩ := (exB_iff _ _ _).1 hx
      rw [Bool.and_eq_true] at h3
      cases hs : (fo (fun h => (br E am (fun _ => 0) (fun _ => 0) r (d + 1) (nxL E L d h)).map (adH (fun _ => 0) (fun _ => 0) d h)) (L d) none 4).isSome
      · rw [isS_no, fo_none] at hs
        have := hs i (by omega) h3.1
        have this : (br E am (fun _ => 0) (fun _ => 0) r (d + 1) (nxL E L d i)).map (adH (fun _ => 0) (fun _ => 0) d i) = none := this
        rw [Option.map_eq_none_iff, ← isS_no, h3.2] at this
        cases this
      · rfl
  · rfl
theorem ex3_cg (r d : Nat) (L M : Nat → Nat → Bool) (h : ∀ e g, d ≤ e → e < d + r → g < 4 → L e g = M e g) : ex3 E am r d L = ex3 E am r d M := by unfold ex3; rw [br_cg r d L M h]
theorem br_nn {cur wt cur' wt' : Nat → Nat} : ∀ r d (L : Nat → Nat → Bool), br E am cur wt r d L = none ↔ br E am cur' wt' r d L = none := by
  intro r
  induction r with
  | zero => intro d L; constructor <;> intro z <;> cases z
  | succ r ih =>
    intro d L
    rw [br_s, br_s]
    split
    · rw [fo_none, fo_none]
      constructor
      · intro z i hi hp
        have := z i hi hp
        have this : (br E am cur wt r (d + 1) (nxL E L d i)).map (adH cur wt d i) = none := this
        show (br E am cur' wt' r (d + 1) (nxL E L d i)).map _ = none
        rw [Option.map_eq_none_iff] at this ⊢
        exact (ih _ _).1 this
      · intro z i hi hp
        have := z i hi hp
        have this : (br E am cur' wt' r (d + 1) (nxL E L d i)).map (adH cur' wt' d i) = none := this
        show (br E am cur wt r (d + 1) (nxL E L d i)).map _ = none
        rw [Option.map_eq_none_iff] at this ⊢
        exact (ih _ _).2 this
    · exact ih _ _
theorem ex3_br {cur wt : Nat → Nat} {r d : Nat} {L : Nat → Nat → Bool} : ex3 E am r d L = false ↔ br E am cur wt r d L = none := by
  unfold ex3
  rw [isS_no]
  exact br_nn r d L
theorem ex3_L : ∀ r d (L M : Nat → Nat → Bool), (∀ e g, L e g = true → M e g = true) → ex3 E am r d L = true → ex3 E am r d M = true := by
  intro r
  induction r with
  | zero => intro d L M _ _; rfl
  | succ r ih =>
    intro d L M h z
    rw [ex3_s] at z ⊢
    split
    · rename_i c
      rw [if_pos c] at z
      obtain ⟨i, h1, h2, h3⟩ := (exB_iff _ _ _).1 z
      rw [Bool.and_eq_true] at h3
      refine (exB_iff _ _ _).2 ⟨i, h1, h2, ?_⟩
      rw [Bool.and_eq_true]
      refine ⟨h d i h3.1, ih (d + 1) _ _ (fun e g q => ?_) h3.2⟩
      unfold nxL at q ⊢
      rw [Bool.and_eq_true] at q ⊢
      exact ⟨h e g q.1, q.2⟩
    · rename_i c
      rw [if_neg c] at z
      exact ih (d + 1) L M h z
theorem ex3_am {am' : Nat → Bool} (hs : ∀ e, am e = true → am' e = true) : ∀ r d (L : Nat → Nat → Bool), ex3 E am' r d L = true → ex3 E am r d L = true := by
  intro r
  induction r with
  | zero => intro d L _; rfl
  | succ r ih =>
    intro d L z
    rw [ex3_s] at z ⊢
    cases ha : am d
    · rw [if_neg (by decide)]
      cases hb : am' d
      · rw [hb, if_neg (by decide)] at z
        exact ih (d + 1) L z
      · rw [hb, if_pos rfl] at z
        obtain ⟨i, h1, h2, h3⟩ := (exB_iff _ _ _).1 z
        rw [Bool.and_eq_true] at h3
        refine ex3_L r (d + 1) (nxL E L d i) L (fun e g q => ?_) (ih (d + 1) _ h3.2)
        unfold nxL at q
        rw [Bool.and_eq_true] at q
        exact q.1
    · rw [hs d ha, if_pos rfl] at z
      rw [if_pos rfl]
      obtain ⟨i, h1, h2, h3⟩ := (exB_iff _ _ _).1 z
      rw [Bool.and_eq_true] at h3
      refine (exB_iff _ _ _).2 ⟨i, h1, h2, ?_⟩
      rw [Bool.and_eq_true]
      exact ⟨h3.1, ih (d + 1) _ h3.2⟩
def hgS (E : Nat → Nat) (A : Nat) : Bool := ex3 E (fun e => A.testBit e) (E 2) 0 (fitL E)
/-- what is asked for -/
def stuckR (E : Nat → Nat) (f N : Nat) : Prop := (f = 0 ∧ ∀ s, 1 ≤ s → s < N → hgS E s = true) ∨ (1 ≤ f ∧ f < N ∧ hgS E f = false ∧ ∀ s, 1 ≤ s → s < N → hgS E s = false → pc f < pc s ∨ (pc f = pc s ∧ f ≤ s))
theorem stuck_u {f g N : Nat} (h1 : stuckR E f N) (h2 : stuckR E g N) : f = g := by
  rcases h1 with ⟨a1, a2⟩ | ⟨a1, a2, a3, a4⟩ <;> rcases h2 with ⟨b1, b2⟩ | ⟨b1, b2, b3, b4⟩
  · omega
  · rw [a2 g b1 b2] at b3; cases b3
  · rw [b2 f a1 a2] at a3; cases a3
  · have x := a4 g b1 b2 b3
    have y := b4 f a1 a2 a3
    omega
theorem hgS_all (h : hgS E (2 ^ E 2 - 1) = true) (s : Nat) : hgS E s = true := by
  have h : ex3 E (fun e => (2 ^ E 2 - 1).testBit e) (E 2) 0 (fitL E) = true := h
  show (br E (fun e => s.testBit e) (fun _ => 0) (fun _ => 0) (E 2) 0 (fitL E)).isSome = true
  have e : br E (fun e => s.testBit e) (fun _ => 0) (fun _ => 0) (E 2) 0 (fitL E) = br E (fun e => s.testBit e && decide (e < E 2)) (fun _ => 0) (fun _ => 0) (E 2) 0 (fitL E) := br_am (E 2) 0 (fitL E) (fun e _ h2 => by rw [decide_eq_true (show e < E 2 by omega), Bool.and_true])
  rw [e]
  exact ex3_am (am := fun e => s.testBit e && decide (e < E 2)) (am' := fun e => (2 ^ E 2 - 1).testBit e) (fun e q => by
    rw [Bool.and_eq_true] at q
    exact all_tb (of_decide_eq_true q.2)) (E 2) 0 (fitL E) h
theorem pc_all : ∀ n, n ≤ 10 → pc (2 ^ n - 1) = n := by decide
theorem pc_pos {s : Nat} (h : 1 ≤ s) (h2 : s < 1024) : 1 ≤ pc s := by
  have : pc s ≠ 0 := fun z => by
    have := (pc_eq0 64 s (by omega)).1 z
    omega
  omega
/-- one set, by the class -/
theorem s_36s {h : Hp} {A : Nat} (hF : Fix h) (hT : TG τ) (hG : HgH τ h E) (hW : WF E) (hA : A < 1024) (hcur : ∀ i, i < E 2 → hI h 41 i = nI (dHg E i)) (hwt : ∀ i, i < 10 → hI h 45 i = nI 0) :
    ∃ g x, f_36 (some 39) (nI A) h = some (x, g) ∧ (x = nI 1073741824 ↔ hgS E A = false) ∧ Fz [14000039, 15000039, 46, 47] h g := by
  have w2 := hW.2.2.1
  obtain ⟨g, a1, a2, a3⟩ := s_36 (A := A) (cur := dHg E) (wt := fun _ => 0) hF hT hG w2 hA hcur (fun i hi => hW.hg hi) (fun i hi => hwt i (by omega)) (fun i hi => by omega)
  refine ⟨g, _, a1, ?_, a2⟩
  have e : nI (bkN (bq E (fun e => A.testBit e) (dHg E) (fun _ => 0) (E 2) 0 (fitL E))) = nI 1073741824 ↔ bq E (fun e => A.testBit e) (dHg E) (fun _ => 0) (E 2) 0 (fitL E) = none := Iff.of_eq (bk_no (R := bq E (fun e => A.testBit e) (dHg E) (fun _ => 0) (E 2) 0 (fitL E)) (fun b hb => (a3 b hb).1))
  rw [e, bq_no]
  unfold hgS
  exact ex3_br.symm
theorem l_42i {N k : Nat} {k27 : Option Nat → Int32 → Int32 → Hp → Option (Int32 × Hp)} (hT : TG τ) (hW : WF E) (hN1 : N = 2 ^ E 2) (hk : 1 ≤ k ∧ k ≤ 10) (hlow : ∀ s, 1 ≤ s → s < N → pc s < k → hgS E s = true) : ∀ r s m h, s + r = N → 1 ≤ s → Fix h → HgH τ h E → (∀ i, i < E 2 → hI h 41 i = nI (dHg E i)) → (∀ i, i < 10 → hI h 45 i = nI 0) → (∀ s', 1 ≤ s' → s' < s → pc s' = k → hgS E s' = true) →
    ∃ g, Fz [14000039, 15000039, 46, 47] h g ∧ ((l_42_40 k27 (r + 1 + m) (some 39) (nI (N - 1)) (nI k) (nI s) h = k27 (some 39) (nI (N - 1)) (nI (k + 1)) g ∧ ∀ s, 1 ≤ s → s < N → pc s = k → hgS E s = true) ∨ ∃ f, l_42_40 k27 (r + 1 + m) (some 39) (nI (N - 1)) (nI k) (nI s) h = some (nI f, g) ∧ stuckR E f N ∧ f ≠ 0) := by
  have w2 := hW.2.2.1
  have nl : 2 ^ E 2 ≤ 2 ^ 10 := Nat.pow_le_pow_right (by decide) w2
  intro r
  induction r with
  | zero =>
    intro s m h hs h1 hF hG hc hw hp
    refine ⟨h, Fz.rfl', Or.inl ⟨?_, fun s' p1 p2 p3 => hp s' p1 (by omega) p3⟩⟩
    rw [show 0 + 1 + m = m + 1 by omega, l_42_40, b_42_40, if_pos (by rw [nI_ltI (by omega) (by omega)]; omega), b_42_71, bnd_e, nI_add]
  | succ r ih =>
    intro s m h hs h1 hF hG hc hw hp
    have pl : pc s ≤ 64 := pcf_le 64 s
    rw [show r + 1 + 1 + m = (r + 1 + m) + 1 by omega, l_42_40, b_42_40, if_neg (by rw [nI_ltI (by omega) (by omega)]; omega), b_42_45]
    simp (disch := first | assumption | (repeat' (first | apply fx_sI | apply fx_sJ | assumption | omega))) only [s_302 (show s < 1024 by omega), Option.bind_some, nI_eq]
    by_cases ck : pc s = k
    · rw [if_neg (fun z => z ck), b_42_53]
      obtain ⟨h1', x, a1, a2, a3⟩ := s_36s (A := s) hF hT hG hW (by omega) hc hw
      simp (disch := first | assumption | (repeat' (first | apply fx_sI | apply fx_sJ | assumption | omega))) only [bnd_e, grd_e, grd0, grd1, Option.bind_some, Option.isSome_some, gQ30_0, gQ30_1, gQ30_2, gQ30_3, gQ30_4, gQ30_5, gQ30_6, gQ30_7, gQ30_8, gQ30_9, gQ31_0, gQ33_0, gQ33_1, gQ36_0, gQ36_1, gQ39_0, gQ39_3, gQ39_4, gQ39_6, gQ39_8, gQ39_10, gQ39_11, gQ39_12, gQ48_0, gQ48_1, gQ51_2, gQ53_0, gQ53_1, gQ60_0, gQ60_1, gQ60_2, gQ64_1, gQ64_14, gQ64_15, gQ64_16, gQ64_17, gQ64_18, gQ64_19, gQ64_20, gQ64_21, gQ64_24, gQ64_25, gQ64_27, gQ64_28, gQ64_29, gQ64_30, gQ64_31, gQ64_34, gQ64_35, gQ64_36, gQ64_39, gQ64_40, gQ64_41, gQ64_43, gQ64_44, gQ64_48, gQ64_50, gQ64_51, gQ64_52, gQ64_53, gQ64_54, gQ64_58, gQ64_59, gI30, gJ30, pI30, pJ30, rC30, gI31, gJ31, pI31, pJ31, rC31, gI33, gJ33, pI33, pJ33, rC33, gI36, gJ36, pI36, pJ36, rC36, gI39, gJ39, pI39, pJ39, rC39, gI48, gJ48, pI48, pJ48, rC48, gI51, gJ51, pI51, pJ51, rC51, gI53, gJ53, pI53, pJ53, rC53, gI60, gJ60, pI60, pJ60, rC60, gI64, gJ64, pI64, pJ64, rC64, hF, a1]
      cases hs' : hgS E s
      · rw [if_neg (fun z => z (a2.2 hs')), b_42_63]
        refine ⟨h1', a3, Or.inr ⟨s, rfl, Or.inr ⟨h1, by omega, hs', fun s2 p1 p2 p3 => ?_⟩, by omega⟩⟩
        by_cases c1 : pc s2 < k
        · rw [hlow s2 p1 p2 c1] at p3; cases p3
        · by_cases c2 : pc s2 = k
          · right
            refine ⟨by omega, ?_⟩
            by_cases c3 : s2 < s
            · rw [hp s2 p1 c3 c2] at p3; cases p3
            · omega
          · left; omega
      · rw [if_pos (fun z => by rw [a2.1 z] at hs'; cases hs'), b_42_65, bnd_e, nI_add]
        obtain ⟨g, g1, g2⟩ := ih (s + 1) m h1' (by omega) (by omega) (a3.fix hF (by decide)) (hG.cz hT a3 (by decide) (by decide) (by decide) (by decide)) (fun i hi => by rw [a3.I (a := 41) (by decide)]; exact hc i hi) (fun i hi => by rw [a3.I (a := 45) (by decide)]; exact hw i hi) (fun s' p1 p2 p3 => by
          by_cases c : s' = s
          · rw [c]; exact hs'
          · exact hp s' p1 (by omega) p3)
        exact ⟨g, a3.then g1, g2⟩
    · rw [if_pos ck, b_42_65, bnd_e, nI_add]
      exact ih (s + 1) m h (by omega) (by omega) hF hG hc hw (fun s' p1 p2 p3 => by
          by_cases c : s' = s
          · rw [c] at p3; exact absurd p3 ck
          · exact hp s' p1 (by omega) p3)
theorem l_42 {N : Nat} (hT : TG τ) (hW : WF E) (hN1 : N = 2 ^ E 2) (hno : hgS E (N - 1) = false) (hn1 : 1 ≤ E 2) : ∀ r k m h, k + r = E 2 + 1 → 1 ≤ k → Fix h → HgH τ h E → (∀ i, i < E 2 → hI h 41 i = nI (dHg E i)) → (∀ i, i < 10 → hI h 45 i = nI 0) → (∀ s, 1 ≤ s → s < N → pc s < k → hgS E s = true) →
    ∃ g f, l_42_27 (r + 1 + m) (some 39) (nI (N - 1)) (nI k) h = some (nI f, g) ∧ Fz [14000039, 15000039, 46, 47] h g ∧ stuckR E f N := by
  have w2 := hW.2.2.1
  have nl : 2 ^ E 2 ≤ 2 ^ 10 := Nat.pow_le_pow_right (by decide) w2
  have n2 : 2 ^ 1 ≤ 2 ^ E 2 := Nat.pow_le_pow_right (by decide) hn1
  intro r
  induction r with
  | zero =>
    intro k m h hk h1 hF hG hc hw hlow
    have := hlow (N - 1) (by omega) (by omega) (by rw [hN1, pc_all _ w2]; omega)
    rw [hno] at this; cases this
  | succ r ih =>
    intro k m h hk h1 hF hG hc hw hlow
    obtain ⟨m2, hm2⟩ := FU_ge (N - 1 + 1) (by omega)
    obtain ⟨g, g1, g2⟩ := l_42i (k := k) (k27 := l_42_27 (r + 1 + m)) hT hW hN1 ⟨h1, by omega⟩ hlow (N - 1) 1 m2 h (by omega) (by omega) hF hG hc hw (fun s' p1 p2 => by omega)
    rw [show r + 1 + 1 + m = (r + 1 + m) + 1 by omega, l_42_27, b_42_27]
    simp (disch := first | assumption | (repeat' (first | apply fx_sI | apply fx_sJ | assumption | omega))) only [gQ_e (K39 hF), hG.1, Option.bind_some, hG.n.2, nI_ltI, show ¬ E 2 < k by omega, if_false]
    rw [b_42_38, bnd_e, hm2]
    rcases g2 with ⟨q1, q2⟩ | ⟨f, q1, q2, _⟩
    · obtain ⟨g', f, c1, c2, c3⟩ := ih (k + 1) m g (by omega) (by omega) (g1.fix hF (by decide)) (hG.cz hT g1 (by decide) (by decide) (by decide) (by decide)) (fun i hi => by rw [g1.I (a := 41) (by decide)]; exact hc i hi) (fun i hi => by rw [g1.I (a := 45) (by decide)]; exact hw i hi) (fun s p1 p2 p3 => by
        by_cases c : pc s = k
        · exact q2 s p1 p2 c
        · exact hlow s p1 p2 (by omega))
      exact ⟨g', f, by rw [q1]; exact c1, g1.then c2, c3⟩
    · exact ⟨g, f, q1, g1, q2⟩
theorem s_42 {h : Hp} (hF : Fix h) (hT : TG τ) (hW : WF E) (hk : Hk τ h E) : ∃ g f, f_42 (some 39) h = some (nI f, g) ∧ Fz [45, 14000039, 15000039, 46, 47] h g ∧ stuckR E f (2 ^ E 2) := by
  have w2 := hW.2.2.1
  obtain ⟨hG, hcur, _⟩ := hk
  obtain ⟨h1, a1, a2, a3⟩ := s_306 (a := 45) (x := nI 0) (n := 10) (by omega) (by omega) (K45 hF) (L45 hF)
  have F1 := a2.fix hF (by decide)
  have G1 := hG.cz hT a2 (by decide) (by decide) (by decide) (by decide)
  have c1 : ∀ i, i < E 2 → hI h1 41 i = nI (dHg E i) := fun i hi => by rw [a2.I (a := 41) (by decide)]; exact hcur i hi
  obtain ⟨h2, x, b1, b2, b3⟩ := s_36s (A := 2 ^ E 2 - 1) F1 hT G1 hW (all_lt w2) c1 a3
  have F2 := b3.fix F1 (by decide)
  have G2 := G1.cz hT b3 (by decide) (by decide) (by decide) (by decide)
  have pre : f_42 (some 39) h = if x = nI 1073741824 then b_42_25 (some 39) (nI (2 ^ E 2 - 1)) h2 else b_42_23 h2 := by
    rw [f_42, b_42_0]
    simp (disch := first | assumption | (repeat' (first | apply fx_sI | apply fx_sJ | assumption | omega))) only [bnd_e, grd_e, grd0, grd1, Option.bind_some, Option.isSome_some, gQ30_0, gQ30_1, gQ30_2, gQ30_3, gQ30_4, gQ30_5, gQ30_6, gQ30_7, gQ30_8, gQ30_9, gQ31_0, gQ33_0, gQ33_1, gQ36_0, gQ36_1, gQ39_0, gQ39_3, gQ39_4, gQ39_6, gQ39_8, gQ39_10, gQ39_11, gQ39_12, gQ48_0, gQ48_1, gQ51_2, gQ53_0, gQ53_1, gQ60_0, gQ60_1, gQ60_2, gQ64_1, gQ64_14, gQ64_15, gQ64_16, gQ64_17, gQ64_18, gQ64_19, gQ64_20, gQ64_21, gQ64_24, gQ64_25, gQ64_27, gQ64_28, gQ64_29, gQ64_30, gQ64_31, gQ64_34, gQ64_35, gQ64_36, gQ64_39, gQ64_40, gQ64_41, gQ64_43, gQ64_44, gQ64_48, gQ64_50, gQ64_51, gQ64_52, gQ64_53, gQ64_54, gQ64_58, gQ64_59, gI30, gJ30, pI30, pJ30, rC30, gI31, gJ31, pI31, pJ31, rC31, gI33, gJ33, pI33, pJ33, rC33, gI36, gJ36, pI36, pJ36, rC36, gI39, gJ39, pI39, pJ39, rC39, gI48, gJ48, pI48, pJ48, rC48, gI51, gJ51, pI51, pJ51, rC51, gI53, gJ53, pI53, pJ53, rC53, gI60, gJ60, pI60, pJ60, rC60, gI64, gJ64, pI64, pJ64, rC64, hF, a1, F1, s_29 F1 G1 w2, b1]
  rw [pre]
  cases hs : hgS E (2 ^ E 2 - 1)
  · rw [if_pos (b2.2 hs), b_42_25, bnd_e]
    have hn1 : 1 ≤ E 2 := by
      by_cases c : E 2 = 0
      · exfalso
        unfold hgS ex3 at hs
        rw [c] at hs
        cases hs
      · omega
    obtain ⟨m, hm⟩ := FU_ge (E 2 + 1) (by omega)
    obtain ⟨g, f, d1, d2', d3'⟩ := l_42 hT hW rfl hs hn1 (E 2) 1 m h2 (by omega) (by omega) F2 G2 (fun i hi => by rw [b3.I (a := 41) (by decide)]; exact c1 i hi) (fun i hi => by rw [b3.I (a := 45) (by decide)]; exact a3 i hi) (fun s p1 p2 p3 => by
      have nl : 2 ^ E 2 ≤ 2 ^ 10 := Nat.pow_le_pow_right (by decide) w2
      have := pc_pos p1 (by omega)
      omega)
    exact ⟨g, f, by rw [hm]; exact d1, (a2.wid (by intro z hz; simp only [List.mem_cons, List.not_mem_nil, or_false] at hz ⊢; omega)).then ((b3.wid (by intro z hz; simp only [List.mem_cons, List.not_mem_nil, or_false] at hz ⊢; omega)).then (d2'.wid (by intro z hz; simp only [List.mem_cons, List.not_mem_nil, or_false] at hz ⊢; omega))), d3'⟩
  · rw [if_neg (fun z => by rw [b2.1 z] at hs; cases hs), b_42_23]
    exact ⟨h2, 0, rfl, (a2.wid (by intro z hz; simp only [List.mem_cons, List.not_mem_nil, or_false] at hz ⊢; omega)).then (b3.wid (by intro z hz; simp only [List.mem_cons, List.not_mem_nil, or_false] at hz ⊢; omega)), Or.inl ⟨rfl, fun s _ _ => hgS_all hs s⟩⟩
/-- the reference -/
theorem l_247 (hW : WF E) {r d fl A : Nat} {t : Nat → Nat} (hA : A < 1024) (had : A.testBit d = true) (hr : d + (r + 1) = E 2) (ht4 : ∀ i, i < d → A.testBit i = true → t i < 4)
    (IH : ∀ (t : Nat → Nat) (h : Hp), MSw h E → (∀ i, i < d + 1 → A.testBit i = true → hI h 79 i = nI (t i) ∧ t i < 4) →
      ∃ g, f_247 fl (some 64) (nI (d + 1)) (nI A) h = some (bI (ex3 E (fun e => A.testBit e) r (d + 1) (LT E (fun e => A.testBit e) t (d + 1))), g) ∧ Fz [79] h g ∧ ∀ i, i < d + 1 → hI g 79 i = hI h 79 i) :
    ∀ q j m (h : Hp), j + q = 4 → MSw h E → (∀ i, i < d → A.testBit i = true → hI h 79 i = nI (t i)) →
      ∃ g, l_247_29 (f_247 fl) (q + 1 + m) (some 64) (nI d) (nI A) (nI j) h = some (bI (exB (fun g => LT E (fun e => A.testBit e) t d d g && ex3 E (fun e => A.testBit e) r (d + 1) (nxL E (LT E (fun e => A.testBit e) t d) d g)) j q), g) ∧ Fz [79] h g ∧ ∀ i, i < d → hI g 79 i = hI h 79 i := by
  have w2 := hW.2.2.1
  intro q
  induction q with
  | zero =>
    intro j m h hj hM ht
    obtain rfl : j = 4 := by omega
    refine ⟨h, ?_, Fz.rfl', fun _ _ => rfl⟩
    rw [show 0 + 1 + m = m + 1 by omega, l_247_29, b_247_29, if_pos (Int32.le_refl _), b_247_86]
    rfl
  | succ q ih =>
    intro j m h hj hM ht
    obtain ⟨hF, hE, hS⟩ := id hM
    generalize hP : (fun g => LT E (fun e => A.testBit e) t d d g && ex3 E (fun e => A.testBit e) r (d + 1) (nxL E (LT E (fun e => A.testBit e) t d) d g)) = P at *
    have hPj : P j = ((mayB E d j && !exB (fun i => A.testBit i && bit E d j i (t i)) 0 d) && ex3 E (fun e => A.testBit e) r (d + 1) (nxL E (LT E (fun e => A.testBit e) t d) d j)) := by rw [← hP]; rfl
    have es : exB P j (q + 1) = (P j || exB P (j + 1) q) := rfl
    have skip : ∀ h1 : Hp, MSw h1 E → Fz [79] h h1 → (∀ i, i < d → hI h1 79 i = hI h 79 i) → P j = false → ∃ g, b_247_80 (f_247 fl) (l_247_29 (f_247 fl) (q + 1 + m)) (some 64) (nI d) (nI A) (nI j) h1 = some (bI (exB P j (q + 1)), g) ∧ Fz [79] h g ∧ ∀ i, i < d → hI g 79 i = hI h 79 i := by
      intro h1 d1 d2 d3 d4
      obtain ⟨g, g1, g2, g3⟩ := ih (j + 1) m h1 (by omega) d1 (fun i hi ha => by rw [d3 i hi]; exact ht i hi ha)
      refine ⟨g, ?_, d2.then g2, fun i hi => by rw [g3 i hi, d3 i hi]⟩
      rw [b_247_80, bnd_e, nI_add, es, d4, Bool.false_or]
      exact g1
    have fm := (hS d (by omega)).1
    have fl16 := fitM_lt E d
    have e183 := s_183 (h := h) (show fitM E d < 2147483648 by omega) (show j < 32 by omega)
    rw [fitM_tb E d (show j < 4 by omega)] at e183
    have e232 := s_232 (d := d) (g := j) (A := A) (t := t) hM w2 (by omega) (by omega) hA (fun e he ha => ⟨ht e he ha, ht4 e he ha⟩)
    rw [show q + 1 + 1 + m = (q + 1 + m) + 1 by omega, l_247_29, b_247_29, if_neg (by rw [nI_leI (by omega) (by omega)]; omega), b_247_34]
    simp (disch := first | assumption | (repeat' (first | apply fx_sI | apply fx_sJ | assumption | omega))) only [bnd_e, grd_e, grd0, grd1, Option.bind_some, Option.isSome_some, gQ30_0, gQ30_1, gQ30_2, gQ30_3, gQ30_4, gQ30_5, gQ30_6, gQ30_7, gQ30_8, gQ30_9, gQ31_0, gQ33_0, gQ33_1, gQ36_0, gQ36_1, gQ39_0, gQ39_3, gQ39_4, gQ39_6, gQ39_8, gQ39_10, gQ39_11, gQ39_12, gQ48_0, gQ48_1, gQ51_2, gQ53_0, gQ53_1, gQ60_0, gQ60_1, gQ60_2, gQ64_1, gQ64_14, gQ64_15, gQ64_16, gQ64_17, gQ64_18, gQ64_19, gQ64_20, gQ64_21, gQ64_24, gQ64_25, gQ64_27, gQ64_28, gQ64_29, gQ64_30, gQ64_31, gQ64_34, gQ64_35, gQ64_36, gQ64_39, gQ64_40, gQ64_41, gQ64_43, gQ64_44, gQ64_48, gQ64_50, gQ64_51, gQ64_52, gQ64_53, gQ64_54, gQ64_58, gQ64_59, gI30, gJ30, pI30, pJ30, rC30, gI31, gJ31, pI31, pJ31, rC31, gI33, gJ33, pI33, pJ33, rC33, gI36, gJ36, pI36, pJ36, rC36, gI39, gJ39, pI39, pJ39, rC39, gI48, gJ48, pI48, pJ48, rC48, gI51, gJ51, pI51, pJ51, rC51, gI53, gJ53, pI53, pJ53, rC53, gI60, gJ60, pI60, pJ60, rC60, gI64, gJ64, pI64, pJ64, rC64, aI27, aL27, aI28, aL28, aI32, wI32, aL32, aI34, wI34, aL34, aI35, wI35, aL35, aI37, wI37, aL37, aI38, wI38, aL38, aJ40, wJ40, aL40, aI41, wI41, aL41, aI42, wI42, aL42, aI43, wI43, aL43, aI44, wI44, aL44, aI45, wI45, aL45, aI46, wI46, aL46, aI47, wI47, aL47, aI49, wI49, aL49, aI50, wI50, aL50, aI52, wI52, aL52, aI54, wI54, aL54, aI55, wI55, aL55, aL56, aL57, aL58, aI59, wI59, aL59, aI61, wI61, aL61, aL62, aI63, wI63, aL63, aI65, wI65, aL65, aI66, wI66, aL66, aI67, wI67, aL67, aI68, wI68, aL68, aI69, wI69, aL69, aJ70, wJ70, aL70, aJ71, wJ71, aL71, aJ72, wJ72, aL72, aZ73, wZ73, aL73, aI74, wI74, aL74, aI75, wI75, aL75, aJ76, wJ76, aL76, aJ77, wJ77, aL77, aI78, wI78, aL78, aI79, wI79, aL79, aI80, wI80, aL80, aI81, wI81, aL81, aI82, wI82, aL82, aI83, wI83, aL83, aI84, wI84, aL84, aI85, wI85, aL85, aI86, wI86, aL86, aI87, wI87, aL87, aI88, wI88, aL88, aI89, wI89, aL89, aI90, wI90, aL90, aI91, wI91, aL91, aI92, wI92, aL92, aI93, wI93, aL93, aI94, wI94, aL94, aZ95, wZ95, aL95, aI96, wI96, aL96, aJ97, wJ97, aL97, hF, fm, e183, bI_0']
    cases hl : mayB E d j
    · rw [if_pos rfl]
      exact skip h hM Fz.rfl' (fun _ _ => rfl) (by rw [hPj, hl]; rfl)
    · rw [if_neg (by decide), b_247_47]
      simp (disch := first | assumption | (repeat' (first | apply fx_sI | apply fx_sJ | assumption | omega))) only [bnd_e, grd_e, grd0, grd1, Option.bind_some, Option.isSome_some, gQ30_0, gQ30_1, gQ30_2, gQ30_3, gQ30_4, gQ30_5, gQ30_6, gQ30_7, gQ30_8, gQ30_9, gQ31_0, gQ33_0, gQ33_1, gQ36_0, gQ36_1, gQ39_0, gQ39_3, gQ39_4, gQ39_6, gQ39_8, gQ39_10, gQ39_11, gQ39_12, gQ48_0, gQ48_1, gQ51_2, gQ53_0, gQ53_1, gQ60_0, gQ60_1, gQ60_2, gQ64_1, gQ64_14, gQ64_15, gQ64_16, gQ64_17, gQ64_18, gQ64_19, gQ64_20, gQ64_21, gQ64_24, gQ64_25, gQ64_27, gQ64_28, gQ64_29, gQ64_30, gQ64_31, gQ64_34, gQ64_35, gQ64_36, gQ64_39, gQ64_40, gQ64_41, gQ64_43, gQ64_44, gQ64_48, gQ64_50, gQ64_51, gQ64_52, gQ64_53, gQ64_54, gQ64_58, gQ64_59, gI30, gJ30, pI30, pJ30, rC30, gI31, gJ31, pI31, pJ31, rC31, gI33, gJ33, pI33, pJ33, rC33, gI36, gJ36, pI36, pJ36, rC36, gI39, gJ39, pI39, pJ39, rC39, gI48, gJ48, pI48, pJ48, rC48, gI51, gJ51, pI51, pJ51, rC51, gI53, gJ53, pI53, pJ53, rC53, gI60, gJ60, pI60, pJ60, rC60, gI64, gJ64, pI64, pJ64, rC64, hF, e232, bI_0']
      cases hb : exB (fun i => A.testBit i && bit E d j i (t i)) 0 d
      · rw [if_pos (by decide), b_247_60]
        have z1 : Fz [79] h (sI h 79 d (nI j)) := Fz.sI Fz.rfl' (Or.inl (by simp))
        have hM1 := hM.cz z1 (by decide) (by decide)
        have hF1 := hM1.1
        obtain ⟨g1, a1, a2, a3⟩ := IH (upn t d j) (sI h 79 d (nI j)) hM1 (fun i hi ha => by
          unfold upn
          rw [hI_sI]
          by_cases ci : i = d
          · rw [if_pos ⟨rfl, ci⟩, if_pos ci]; exact ⟨rfl, by omega⟩
          · rw [if_neg (fun z => ci z.2), if_neg ci]; exact ⟨ht i (by omega) ha, ht4 i (by omega) ha⟩)
        have hM2 := hM1.cz a2 (by decide) (by decide)
        have ee : ex3 E (fun e => A.testBit e) r (d + 1) (LT E (fun e => A.testBit e) (upn t d j) (d + 1)) = ex3 E (fun e => A.testBit e) r (d + 1) (nxL E (LT E (fun e => A.testBit e) t d) d j) := ex3_cg r (d + 1) _ _ (fun e g h1 _ _ => (LT_nx (am := fun e => A.testBit e) had (by omega)).symm)
        rw [ee] at a1
        have i3 : ∀ i, i < d → hI g1 79 i = hI h 79 i := fun i hi => by rw [a3 i (by omega), hI_sI, if_neg (by omega)]
        simp (disch := first | assumption | (repeat' (first | apply fx_sI | apply fx_sJ | assumption | omega))) only [bnd_e, grd_e, grd0, grd1, Option.bind_some, Option.isSome_some, gQ30_0, gQ30_1, gQ30_2, gQ30_3, gQ30_4, gQ30_5, gQ30_6, gQ30_7, gQ30_8, gQ30_9, gQ31_0, gQ33_0, gQ33_1, gQ36_0, gQ36_1, gQ39_0, gQ39_3, gQ39_4, gQ39_6, gQ39_8, gQ39_10, gQ39_11, gQ39_12, gQ48_0, gQ48_1, gQ51_2, gQ53_0, gQ53_1, gQ60_0, gQ60_1, gQ60_2, gQ64_1, gQ64_14, gQ64_15, gQ64_16, gQ64_17, gQ64_18, gQ64_19, gQ64_20, gQ64_21, gQ64_24, gQ64_25, gQ64_27, gQ64_28, gQ64_29, gQ64_30, gQ64_31, gQ64_34, gQ64_35, gQ64_36, gQ64_39, gQ64_40, gQ64_41, gQ64_43, gQ64_44, gQ64_48, gQ64_50, gQ64_51, gQ64_52, gQ64_53, gQ64_54, gQ64_58, gQ64_59, gI30, gJ30, pI30, pJ30, rC30, gI31, gJ31, pI31, pJ31, rC31, gI33, gJ33, pI33, pJ33, rC33, gI36, gJ36, pI36, pJ36, rC36, gI39, gJ39, pI39, pJ39, rC39, gI48, gJ48, pI48, pJ48, rC48, gI51, gJ51, pI51, pJ51, rC51, gI53, gJ53, pI53, pJ53, rC53, gI60, gJ60, pI60, pJ60, rC60, gI64, gJ64, pI64, pJ64, rC64, aI27, aL27, aI28, aL28, aI32, wI32, aL32, aI34, wI34, aL34, aI35, wI35, aL35, aI37, wI37, aL37, aI38, wI38, aL38, aJ40, wJ40, aL40, aI41, wI41, aL41, aI42, wI42, aL42, aI43, wI43, aL43, aI44, wI44, aL44, aI45, wI45, aL45, aI46, wI46, aL46, aI47, wI47, aL47, aI49, wI49, aL49, aI50, wI50, aL50, aI52, wI52, aL52, aI54, wI54, aL54, aI55, wI55, aL55, aL56, aL57, aL58, aI59, wI59, aL59, aI61, wI61, aL61, aL62, aI63, wI63, aL63, aI65, wI65, aL65, aI66, wI66, aL66, aI67, wI67, aL67, aI68, wI68, aL68, aI69, wI69, aL69, aJ70, wJ70, aL70, aJ71, wJ71, aL71, aJ72, wJ72, aL72, aZ73, wZ73, aL73, aI74, wI74, aL74, aI75, wI75, aL75, aJ76, wJ76, aL76, aJ77, wJ77, aL77, aI78, wI78, aL78, aI79, wI79, aL79, aI80, wI80, aL80, aI81, wI81, aL81, aI82, wI82, aL82, aI83, wI83, aL83, aI84, wI84, aL84, aI85, wI85, aL85, aI86, wI86, aL86, aI87, wI87, aL87, aI88, wI88, aL88, aI89, wI89, aL89, aI90, wI90, aL90, aI91, wI91, aL91, aI92, wI92, aL92, aI93, wI93, aL93, aI94, wI94, aL94, aZ95, wZ95, aL95, aI96, wI96, aL96, aJ97, wJ97, aL97, hF, hF1, nI_add, a1, bI_0']
        cases hx : ex3 E (fun e => A.testBit e) r (d + 1) (nxL E (LT E (fun e => A.testBit e) t d) d j)
        · rw [if_pos rfl]
          exact skip g1 hM2 (z1.then a2) i3 (by rw [hPj, hx, Bool.and_false])
        · rw [if_neg (by decide), b_247_78]
          refine ⟨g1, ?_, z1.then a2, i3⟩
          rw [es, hPj, hl, hb, hx]
          rfl
      · rw [if_neg (fun z => z rfl), b_247_57]
        exact skip h hM Fz.rfl' (fun _ _ => rfl) (by rw [hPj, hl, hb]; rfl)
theorem s_247 (hW : WF E) {A : Nat} (hA : A < 1024) : ∀ (r d fl : Nat) (t : Nat → Nat) (h : Hp), d + r = E 2 → r < fl → MSw h E → (∀ i, i < d → A.testBit i = true → hI h 79 i = nI (t i) ∧ t i < 4) →
    ∃ g, f_247 fl (some 64) (nI d) (nI A) h = some (bI (ex3 E (fun e => A.testBit e) r d (LT E (fun e => A.testBit e) t d)), g) ∧ Fz [79] h g ∧ ∀ i, i < d → hI g 79 i = hI h 79 i := by
  have w2 := hW.2.2.1
  intro r
  induction r with
  | zero =>
    intro d fl t h hr hfl hM ht
    obtain ⟨fl, rfl⟩ : ∃ n, fl = n + 1 := ⟨fl - 1, by omega⟩
    obtain ⟨hF, hE, hS⟩ := id hM
    obtain rfl : d = E 2 := by omega
    refine ⟨h, ?_, Fz.rfl', fun _ _ => rfl⟩
    show F_247 (f_247 fl) (some 64) (nI (E 2)) (nI A) h = _
    rw [F_247, b_247_0]
    simp (disch := first | assumption | (repeat' (first | apply fx_sI | apply fx_sJ | assumption | omega))) only [bnd_e, grd_e, grd0, grd1, Option.bind_some, Option.isSome_some, gQ30_0, gQ30_1, gQ30_2, gQ30_3, gQ30_4, gQ30_5, gQ30_6, gQ30_7, gQ30_8, gQ30_9, gQ31_0, gQ33_0, gQ33_1, gQ36_0, gQ36_1, gQ39_0, gQ39_3, gQ39_4, gQ39_6, gQ39_8, gQ39_10, gQ39_11, gQ39_12, gQ48_0, gQ48_1, gQ51_2, gQ53_0, gQ53_1, gQ60_0, gQ60_1, gQ60_2, gQ64_1, gQ64_14, gQ64_15, gQ64_16, gQ64_17, gQ64_18, gQ64_19, gQ64_20, gQ64_21, gQ64_24, gQ64_25, gQ64_27, gQ64_28, gQ64_29, gQ64_30, gQ64_31, gQ64_34, gQ64_35, gQ64_36, gQ64_39, gQ64_40, gQ64_41, gQ64_43, gQ64_44, gQ64_48, gQ64_50, gQ64_51, gQ64_52, gQ64_53, gQ64_54, gQ64_58, gQ64_59, gI30, gJ30, pI30, pJ30, rC30, gI31, gJ31, pI31, pJ31, rC31, gI33, gJ33, pI33, pJ33, rC33, gI36, gJ36, pI36, pJ36, rC36, gI39, gJ39, pI39, pJ39, rC39, gI48, gJ48, pI48, pJ48, rC48, gI51, gJ51, pI51, pJ51, rC51, gI53, gJ53, pI53, pJ53, rC53, gI60, gJ60, pI60, pJ60, rC60, gI64, gJ64, pI64, pJ64, rC64, hF, s_203 hF hE, not_true, if_false]
    rw [b_247_8]
    rfl
  | succ r ih =>
    intro d fl t h hr hfl hM ht
    obtain ⟨fl, rfl⟩ : ∃ n, fl = n + 1 := ⟨fl - 1, by omega⟩
    obtain ⟨hF, hE, hS⟩ := id hM
    show ∃ g, F_247 (f_247 fl) (some 64) (nI d) (nI A) h = _ ∧ _
    rw [F_247, b_247_0, ex3_s]
    simp (disch := first | assumption | (repeat' (first | apply fx_sI | apply fx_sJ | assumption | omega))) only [bnd_e, grd_e, grd0, grd1, Option.bind_some, Option.isSome_some, gQ30_0, gQ30_1, gQ30_2, gQ30_3, gQ30_4, gQ30_5, gQ30_6, gQ30_7, gQ30_8, gQ30_9, gQ31_0, gQ33_0, gQ33_1, gQ36_0, gQ36_1, gQ39_0, gQ39_3, gQ39_4, gQ39_6, gQ39_8, gQ39_10, gQ39_11, gQ39_12, gQ48_0, gQ48_1, gQ51_2, gQ53_0, gQ53_1, gQ60_0, gQ60_1, gQ60_2, gQ64_1, gQ64_14, gQ64_15, gQ64_16, gQ64_17, gQ64_18, gQ64_19, gQ64_20, gQ64_21, gQ64_24, gQ64_25, gQ64_27, gQ64_28, gQ64_29, gQ64_30, gQ64_31, gQ64_34, gQ64_35, gQ64_36, gQ64_39, gQ64_40, gQ64_41, gQ64_43, gQ64_44, gQ64_48, gQ64_50, gQ64_51, gQ64_52, gQ64_53, gQ64_54, gQ64_58, gQ64_59, gI30, gJ30, pI30, pJ30, rC30, gI31, gJ31, pI31, pJ31, rC31, gI33, gJ33, pI33, pJ33, rC33, gI36, gJ36, pI36, pJ36, rC36, gI39, gJ39, pI39, pJ39, rC39, gI48, gJ48, pI48, pJ48, rC48, gI51, gJ51, pI51, pJ51, rC51, gI53, gJ53, pI53, pJ53, rC53, gI60, gJ60, pI60, pJ60, rC60, gI64, gJ64, pI64, pJ64, rC64, hF, s_203 hF hE, nI_eq, show ¬ d = E 2 by omega, not_false_eq_true, if_true]
    rw [b_247_10]
    simp only [s_183 (show A < 2147483648 by omega) (show d < 32 by omega), Option.bind_some, bI_0']
    cases ha : A.testBit d
    · rw [if_neg (fun z => z rfl), b_247_18, if_neg (by decide)]
      obtain ⟨g, a1, a2, a3⟩ := ih (d + 1) fl t h (by omega) (by omega) hM (fun i hi hai => by
        by_cases ci : i = d
        · rw [ci, ha] at hai; cases hai
        · exact ht i (by omega) hai)
      have ee : ex3 E (fun e => A.testBit e) r (d + 1) (LT E (fun e => A.testBit e) t (d + 1)) = ex3 E (fun e => A.testBit e) r (d + 1) (LT E (fun e => A.testBit e) t d) := ex3_cg r (d + 1) _ _ (fun e g _ _ _ => LT_sk (am := fun e => A.testBit e) ha)
      rw [ee] at a1
      refine ⟨g, ?_, a2, fun i hi => a3 i (by omega)⟩
      simp (disch := first | assumption | (repeat' (first | apply fx_sI | apply fx_sJ | assumption | omega))) only [bnd_e, grd_e, grd0, grd1, Option.bind_some, Option.isSome_some, gQ30_0, gQ30_1, gQ30_2, gQ30_3, gQ30_4, gQ30_5, gQ30_6, gQ30_7, gQ30_8, gQ30_9, gQ31_0, gQ33_0, gQ33_1, gQ36_0, gQ36_1, gQ39_0, gQ39_3, gQ39_4, gQ39_6, gQ39_8, gQ39_10, gQ39_11, gQ39_12, gQ48_0, gQ48_1, gQ51_2, gQ53_0, gQ53_1, gQ60_0, gQ60_1, gQ60_2, gQ64_1, gQ64_14, gQ64_15, gQ64_16, gQ64_17, gQ64_18, gQ64_19, gQ64_20, gQ64_21, gQ64_24, gQ64_25, gQ64_27, gQ64_28, gQ64_29, gQ64_30, gQ64_31, gQ64_34, gQ64_35, gQ64_36, gQ64_39, gQ64_40, gQ64_41, gQ64_43, gQ64_44, gQ64_48, gQ64_50, gQ64_51, gQ64_52, gQ64_53, gQ64_54, gQ64_58, gQ64_59, gI30, gJ30, pI30, pJ30, rC30, gI31, gJ31, pI31, pJ31, rC31, gI33, gJ33, pI33, pJ33, rC33, gI36, gJ36, pI36, pJ36, rC36, gI39, gJ39, pI39, pJ39, rC39, gI48, gJ48, pI48, pJ48, rC48, gI51, gJ51, pI51, pJ51, rC51, gI53, gJ53, pI53, pJ53, rC53, gI60, gJ60, pI60, pJ60, rC60, gI64, gJ64, pI64, pJ64, rC64, hF, nI_add, a1, grdB]
    · rw [if_pos (by decide), b_247_27, bnd_e, if_pos rfl]
      obtain ⟨m, hm⟩ := FU_ge (4 + 1) (by omega)
      rw [hm]
      exact l_247 (t := t) (fl := fl) hW hA ha hr (fun i hi hai => (ht i hi hai).2) (fun t h q1 q2 => ih (d + 1) fl t h (by omega) (by omega) q1 q2) 4 0 m h (by omega) hM (fun i hi hai => (ht i hi hai).1)
theorem l_248 (hW : WF E) : ∀ r s m f h, s + r = 2 ^ E 2 → 1 ≤ s → MSw h E → stuckR E f s → ∃ g f', l_248_13 (r + 1 + m) (some 64) (nI f) (nI s) h = some (nI f', g) ∧ Fz [79] h g ∧ stuckR E f' (2 ^ E 2) := by
  have w2 := hW.2.2.1
  have nl : 2 ^ E 2 ≤ 2 ^ 10 := Nat.pow_le_pow_right (by decide) w2
  intro r
  induction r with
  | zero =>
    intro s m f h hs h1 hM hR
    obtain ⟨hF, hE, hS⟩ := id hM
    obtain rfl : s = 2 ^ E 2 := by omega
    refine ⟨h, f, ?_, Fz.rfl', hR⟩
    rw [show 0 + 1 + m = m + 1 by omega, l_248_13, b_248_13]
    simp (disch := first | assumption | (repeat' (first | apply fx_sI | apply fx_sJ | assumption | omega))) only [bnd_e, grd_e, grd0, grd1, Option.bind_some, Option.isSome_some, gQ30_0, gQ30_1, gQ30_2, gQ30_3, gQ30_4, gQ30_5, gQ30_6, gQ30_7, gQ30_8, gQ30_9, gQ31_0, gQ33_0, gQ33_1, gQ36_0, gQ36_1, gQ39_0, gQ39_3, gQ39_4, gQ39_6, gQ39_8, gQ39_10, gQ39_11, gQ39_12, gQ48_0, gQ48_1, gQ51_2, gQ53_0, gQ53_1, gQ60_0, gQ60_1, gQ60_2, gQ64_1, gQ64_14, gQ64_15, gQ64_16, gQ64_17, gQ64_18, gQ64_19, gQ64_20, gQ64_21, gQ64_24, gQ64_25, gQ64_27, gQ64_28, gQ64_29, gQ64_30, gQ64_31, gQ64_34, gQ64_35, gQ64_36, gQ64_39, gQ64_40, gQ64_41, gQ64_43, gQ64_44, gQ64_48, gQ64_50, gQ64_51, gQ64_52, gQ64_53, gQ64_54, gQ64_58, gQ64_59, gI30, gJ30, pI30, pJ30, rC30, gI31, gJ31, pI31, pJ31, rC31, gI33, gJ33, pI33, pJ33, rC33, gI36, gJ36, pI36, pJ36, rC36, gI39, gJ39, pI39, pJ39, rC39, gI48, gJ48, pI48, pJ48, rC48, gI51, gJ51, pI51, pJ51, rC51, gI53, gJ53, pI53, pJ53, rC53, gI60, gJ60, pI60, pJ60, rC60, gI64, gJ64, pI64, pJ64, rC64, hF, s_203 hF hE, nI_1shl (show E 2 < 31 by omega), Int32.le_refl, if_true]
    rw [b_248_55]
  | succ r ih =>
    intro s m f h hs h1 hM hR
    obtain ⟨hF, hE, hS⟩ := id hM
    have fs : f < 1024 := by rcases hR with q | q <;> omega
    have p1 : pc s ≤ 64 := pcf_le 64 s
    have p2 : pc f ≤ 64 := pcf_le 64 f
    have next : ∀ h1 f1, MSw h1 E → Fz [79] h h1 → stuckR E f1 (s + 1) → ∃ g f', b_248_49 (l_248_13 (r + 1 + m)) (some 64) (nI f1) (nI s) h1 = some (nI f', g) ∧ Fz [79] h g ∧ stuckR E f' (2 ^ E 2) := by
      intro h1 f1 q1 q2 q3
      obtain ⟨g, f', g1, g2, g3⟩ := ih (s + 1) m f1 h1 (by omega) (by omega) q1 q3
      exact ⟨g, f', by rw [b_248_49, bnd_e, nI_add]; exact g1, q2.then g2, g3⟩
    have test : (f = 0 ∨ pc s < pc f) → ∃ g f', b_248_38 (l_248_13 (r + 1 + m)) (some 64) (nI f) (nI s) h = some (nI f', g) ∧ Fz [79] h g ∧ stuckR E f' (2 ^ E 2) := by
      intro hc
      obtain ⟨h1', a1, a2, _⟩ := s_247 (A := s) hW (by omega) (E 2) 0 RF (fun _ => 0) h (by omega) (by show E 2 < 64; omega) hM (fun i hi => absurd hi (Nat.not_lt_zero i))
      rw [LT_0] at a1
      have M1 := hM.cz a2 (by decide) (by decide)
      have e : ex3 E (fun e => s.testBit e) (E 2) 0 (fitL E) = hgS E s := rfl
      rw [b_248_38]
      simp (disch := first | assumption | (repeat' (first | apply fx_sI | apply fx_sJ | assumption | omega))) only [bnd_e, grd_e, grd0, grd1, Option.bind_some, Option.isSome_some, gQ30_0, gQ30_1, gQ30_2, gQ30_3, gQ30_4, gQ30_5, gQ30_6, gQ30_7, gQ30_8, gQ30_9, gQ31_0, gQ33_0, gQ33_1, gQ36_0, gQ36_1, gQ39_0, gQ39_3, gQ39_4, gQ39_6, gQ39_8, gQ39_10, gQ39_11, gQ39_12, gQ48_0, gQ48_1, gQ51_2, gQ53_0, gQ53_1, gQ60_0, gQ60_1, gQ60_2, gQ64_1, gQ64_14, gQ64_15, gQ64_16, gQ64_17, gQ64_18, gQ64_19, gQ64_20, gQ64_21, gQ64_24, gQ64_25, gQ64_27, gQ64_28, gQ64_29, gQ64_30, gQ64_31, gQ64_34, gQ64_35, gQ64_36, gQ64_39, gQ64_40, gQ64_41, gQ64_43, gQ64_44, gQ64_48, gQ64_50, gQ64_51, gQ64_52, gQ64_53, gQ64_54, gQ64_58, gQ64_59, gI30, gJ30, pI30, pJ30, rC30, gI31, gJ31, pI31, pJ31, rC31, gI33, gJ33, pI33, pJ33, rC33, gI36, gJ36, pI36, pJ36, rC36, gI39, gJ39, pI39, pJ39, rC39, gI48, gJ48, pI48, pJ48, rC48, gI51, gJ51, pI51, pJ51, rC51, gI53, gJ53, pI53, pJ53, rC53, gI60, gJ60, pI60, pJ60, rC60, gI64, gJ64, pI64, pJ64, rC64, hF, a1, bI_0', e]
      cases hs' : hgS E s
      · rw [if_neg (fun z => z rfl), b_248_47]
        refine next h1' s M1 a2 (Or.inr ⟨h1, by omega, hs', fun s2 q1 q2 q3 => ?_⟩)
        by_cases c : s2 = s
        · right; rw [c]; exact ⟨rfl, Nat.le_refl _⟩
        · left
          rcases hR with ⟨_, z⟩ | ⟨z1, z2, z3, z4⟩
          · rw [z s2 q1 (by omega)] at q3; cases q3
          · have := z4 s2 q1 (by omega) q3
            omega
      · rw [if_pos (by decide)]
        refine next h1' f M1 a2 ?_
        rcases hR with ⟨z0, z⟩ | ⟨z1, z2, z3, z4⟩
        · refine Or.inl ⟨z0, fun s2 q1 q2 => ?_⟩
          by_cases c : s2 = s
          · rw [c]; exact hs'
          · exact z s2 q1 (by omega)
        · refine Or.inr ⟨z1, by omega, z3, fun s2 q1 q2 q3 => ?_⟩
          by_cases c : s2 = s
          · rw [c, hs'] at q3; cases q3
          · exact z4 s2 q1 (by omega) q3
    rw [show r + 1 + 1 + m = (r + 1 + m) + 1 by omega, l_248_13, b_248_13]
    simp (disch := first | assumption | (repeat' (first | apply fx_sI | apply fx_sJ | assumption | omega))) only [bnd_e, grd_e, grd0, grd1, Option.bind_some, Option.isSome_some, gQ30_0, gQ30_1, gQ30_2, gQ30_3, gQ30_4, gQ30_5, gQ30_6, gQ30_7, gQ30_8, gQ30_9, gQ31_0, gQ33_0, gQ33_1, gQ36_0, gQ36_1, gQ39_0, gQ39_3, gQ39_4, gQ39_6, gQ39_8, gQ39_10, gQ39_11, gQ39_12, gQ48_0, gQ48_1, gQ51_2, gQ53_0, gQ53_1, gQ60_0, gQ60_1, gQ60_2, gQ64_1, gQ64_14, gQ64_15, gQ64_16, gQ64_17, gQ64_18, gQ64_19, gQ64_20, gQ64_21, gQ64_24, gQ64_25, gQ64_27, gQ64_28, gQ64_29, gQ64_30, gQ64_31, gQ64_34, gQ64_35, gQ64_36, gQ64_39, gQ64_40, gQ64_41, gQ64_43, gQ64_44, gQ64_48, gQ64_50, gQ64_51, gQ64_52, gQ64_53, gQ64_54, gQ64_58, gQ64_59, gI30, gJ30, pI30, pJ30, rC30, gI31, gJ31, pI31, pJ31, rC31, gI33, gJ33, pI33, pJ33, rC33, gI36, gJ36, pI36, pJ36, rC36, gI39, gJ39, pI39, pJ39, rC39, gI48, gJ48, pI48, pJ48, rC48, gI51, gJ51, pI51, pJ51, rC51, gI53, gJ53, pI53, pJ53, rC53, gI60, gJ60, pI60, pJ60, rC60, gI64, gJ64, pI64, pJ64, rC64, hF, s_203 hF hE, nI_1shl (show E 2 < 31 by omega), nI_leI, show ¬ 2 ^ E 2 ≤ s by omega, if_false]
    rw [b_248_23]
    simp only [nI_eq0 (show f < 2147483648 by omega)]
    by_cases c0 : f = 0
    · rw [if_pos c0]; exact test (Or.inl c0)
    · rw [if_neg c0, b_248_27]
      simp (disch := first | assumption | (repeat' (first | apply fx_sI | apply fx_sJ | assumption | omega))) only [s_184 (show s < 2147483648 by omega), s_184 (show f < 2147483648 by omega), Option.bind_some, nI_leI]
      by_cases c1 : pc f ≤ pc s
      · rw [if_pos c1]
        refine next h f hM Fz.rfl' ?_
        rcases hR with ⟨z0, z⟩ | ⟨z1, z2, z3, z4⟩
        · exact absurd z0 c0
        · refine Or.inr ⟨z1, by omega, z3, fun s2 q1 q2 q3 => ?_⟩
          by_cases c : s2 = s
          · rw [c]; omega
          · exact z4 s2 q1 (by omega) q3
      · rw [if_neg c1]; exact test (Or.inr (by omega))
theorem s_248 {h : Hp} (hF : Fix h) (hB : Bg h E) (hW : WF E) : ∃ g f, f_248 (some 64) h = some (nI f, g) ∧ Fz [1000064, 23000064, 66, 27000064, 74, 75, 76, 77, 78, 79] h g ∧ NowE g E ∧ hI g 64 22 = 1 ∧ stuckR E f (2 ^ E 2) := by
  have w2 := hW.2.2.1
  have nl : 2 ^ E 2 ≤ 2 ^ 10 := Nat.pow_le_pow_right (by decide) w2
  have n1 : 1 ≤ 2 ^ E 2 := Nat.one_le_two_pow
  have z0 : Fz [1000064] h (sI h 64 0 (nI 0)) := Fz.sI Fz.rfl' (Or.inr (by simp))
  have F0 : Fix (sI h 64 0 (nI 0)) := fx_sI hF (by omega)
  obtain ⟨h1, a1, a2, a3, a4, a5⟩ := s_225 F0 (hB.cg (z0.I1 (by decide) (by decide)) (z0.I (a := 66) (by decide))) hW
  have F1 := a2.fix F0 (by decide)
  obtain ⟨m, hm⟩ := FU_ge (2 ^ E 2 - 1 + 1) (by omega)
  obtain ⟨g, f, b1, b2, b3⟩ := l_248 hW (2 ^ E 2 - 1) 1 m 0 h1 (by omega) (by omega) ⟨F1, a3, a5⟩ (Or.inl ⟨rfl, fun s q1 q2 => by omega⟩)
  refine ⟨g, f, ?_, (z0.wid (by intro z hz; simp only [List.mem_cons, List.not_mem_nil, or_false] at hz ⊢; omega)).then ((a2.wid (by intro z hz; simp only [List.mem_cons, List.not_mem_nil, or_false] at hz ⊢; omega)).then (b2.wid (by intro z hz; simp only [List.mem_cons, List.not_mem_nil, or_false] at hz ⊢; omega))), a3.cg (b2.I (a := 66) (by decide)), by rw [b2.I1 (by decide) (by decide)]; exact a4, b3⟩
  rw [f_248, b_248_0]
  simp (disch := first | assumption | (repeat' (first | apply fx_sI | apply fx_sJ | assumption | omega))) only [bnd_e, grd_e, grd0, grd1, Option.bind_some, Option.isSome_some, gQ30_0, gQ30_1, gQ30_2, gQ30_3, gQ30_4, gQ30_5, gQ30_6, gQ30_7, gQ30_8, gQ30_9, gQ31_0, gQ33_0, gQ33_1, gQ36_0, gQ36_1, gQ39_0, gQ39_3, gQ39_4, gQ39_6, gQ39_8, gQ39_10, gQ39_11, gQ39_12, gQ48_0, gQ48_1, gQ51_2, gQ53_0, gQ53_1, gQ60_0, gQ60_1, gQ60_2, gQ64_1, gQ64_14, gQ64_15, gQ64_16, gQ64_17, gQ64_18, gQ64_19, gQ64_20, gQ64_21, gQ64_24, gQ64_25, gQ64_27, gQ64_28, gQ64_29, gQ64_30, gQ64_31, gQ64_34, gQ64_35, gQ64_36, gQ64_39, gQ64_40, gQ64_41, gQ64_43, gQ64_44, gQ64_48, gQ64_50, gQ64_51, gQ64_52, gQ64_53, gQ64_54, gQ64_58, gQ64_59, gI30, gJ30, pI30, pJ30, rC30, gI31, gJ31, pI31, pJ31, rC31, gI33, gJ33, pI33, pJ33, rC33, gI36, gJ36, pI36, pJ36, rC36, gI39, gJ39, pI39, pJ39, rC39, gI48, gJ48, pI48, pJ48, rC48, gI51, gJ51, pI51, pJ51, rC51, gI53, gJ53, pI53, pJ53, rC53, gI60, gJ60, pI60, pJ60, rC60, gI64, gJ64, pI64, pJ64, rC64, hF, F0, a1]
  rw [hm]
  exact b1
end STUCK
