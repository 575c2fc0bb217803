/-! the reference reads a row, a rule, a stand, a line -/
section HRP
variable {T : Nat → Nat} {sz lim : Nat}
theorem rowX_n {X : Nat → Nat} {a : Nat} (h1 : X 1 ≤ 9) : ∀ n, n ≤ 10 → ∀ j, (j < 10 ∨ 110 ≤ j) → rowX T X a n j = X j := by
  intro n
  induction n with
  | zero => intro _ j _; rfl
  | succ n ih =>
    intro hn j hj
    show upX (rowX T X a n) (10 + 10 * X 1 + n) (clV (T (a + n)) - 1) j = X j
    rw [upX_n (by omega), ih (by omega) j hj]
theorem rowX_WB {X : Nat → Nat} {a : Nat} (h1 : X 1 ≤ 9) (hW : WB X) : ∀ n, n ≤ 10 → WB (rowX T X a n) := by
  intro n
  induction n with
  | zero => intro _; exact hW
  | succ n ih =>
    intro hn
    have := clV_le (T (a + n))
    exact (ih (by omega)).up (by omega)
theorem l_207 {q n y w : Nat} {X : Nat → Nat} (hy : X 1 = y) (hy9 : y ≤ 9) (hw : X 0 = w) (hw0 : w = tkN T sz lim q - tkA T sz lim q) (hk : tkK T sz lim q = 2) (hal : ∀ i, i < w → isCl (T (tkA T sz lim q + i)) = true) (hn : n = X 2) (hWB : WB X) (hq : q ≤ sz) : ∀ r i m h, i + r = w → MH T sz lim h q (rowX T X (tkA T sz lim q) i) n →
    MO T sz lim (l_207_89 (r + 1 + m) (some 64) (nI y) (nI i) h) h (.ok (tkN T sz lim q, upX (rowX T X (tkA T sz lim q) w) 1 (y + 1))) := by
  have tw := tk_word (T := T) (lim := lim) hq hk
  have w10 : w ≤ 10 := by omega
  have rx : ∀ i, i ≤ w → ∀ j, (j < 10 ∨ 110 ≤ j) → rowX T X (tkA T sz lim q) i j = X j := fun i hi j hj => rowX_n (by omega) i (by omega) j hj
  intro r
  induction r with
  | zero =>
    intro i m h hi hM
    have hF := hM.1.1
    have e : i = w := by omega
    subst e
    rw [Nat.zero_add, Nat.add_comm 1 m, l_207_89, b_207_89, gQ64_15 hF, Option.bind_some, mh_r hM (by omega) (by omega), Option.bind_some, rx i (by omega) 0 (by omega), hw, if_pos (by rw [nI_leI (by omega) (by omega)]; exact Nat.le_refl _), b_207_160, gQ64_15 hF, Option.bind_some, mh_r hM (by omega) (by omega), Option.bind_some, rx i (by omega) 1 (by omega), hy, nI_add]
    refine m_w hM (by omega) (by omega) (hM.2.2.up (by omega)) (fun g hG _ => ?_)
    obtain ⟨g2, a1, a2, a3⟩ := mh_step hG
    refine ⟨g2, by rw [rC64 hG.1.1, grd_e, Option.bind_some, a1, Option.bind_some, grd1, Option.bind_some]; rfl, a2.1, ?_, a2.2⟩
    show MH T sz lim g2 (tkN T sz lim q) _ _
    rw [upX_n (show (2 : Nat) ≠ 1 by omega), rx i (by omega) 2 (by omega), ← hn]
    exact a3
  | succ r ih =>
    intro i m h hi hM
    have hF := hM.1.1
    have il : i < w := by omega
    have tb := hM.1.2.1.2.2.2.2 (tkA T sz lim q + i) (by omega)
    have sl := hM.1.2.1.2.2.1
    have t6 : hI h 64 6 = nI (tkA T sz lim q) := hM.1.2.2.1.2.1
    have cl := hal i il
    have cv := clV_le (T (tkA T sz lim q + i))
    have fin : ∀ v, v = clV (T (tkA T sz lim q + i)) - 1 → MO T sz lim (b_207_153 (l_207_89 (r + 1 + m)) (some 64) (nI y) (nI i) (some 67) (nI (10 + 10 * X 1 + i)) (nI v) h) h (.ok (tkN T sz lim q, upX (rowX T X (tkA T sz lim q) w) 1 (y + 1))) := by
      intro v hv
      rw [b_207_153]
      refine m_w hM (by omega) (by omega) (hM.2.2.up (by omega)) (fun g hG _ => ?_)
      rw [bnd_e, nI_add]
      refine ih (i + 1) m g (by omega) ?_
      rw [hv] at hG
      exact hG
    rw [show r + 1 + 1 + m = (r + 1 + m) + 1 by omega, l_207_89, b_207_89, gQ64_15 hF, Option.bind_some, mh_r hM (by omega) (by omega), Option.bind_some, rx i (by omega) 0 (by omega), hw, if_neg (by rw [nI_leI (by omega) (by omega)]; omega), b_207_99, gQ64_15 hF, Option.bind_some, gQ64_1 hF, Option.bind_some, gI64 hF, Option.bind_some, t6, nI_add, aI65 hF (by omega), Option.bind_some, tb.1, pk_mul, nI_add, nI_add, ← hy]
    rw [← hy] at fin
    have cc := of_decide_eq_true cl
    by_cases c1 : T (tkA T sz lim q + i) = 119
    · rw [if_neg (fun z => z (by rw [c1])), b_207_128]
      exact fin 1 (by unfold clV; rw [if_pos c1])
    · rw [if_pos (fun z => c1 ((nI_eq (by omega) (by omega)).1 z)), b_207_132, gQ64_1 hF, Option.bind_some, gI64 hF, Option.bind_some, t6, nI_add, aI65 hF (by omega), Option.bind_some, tb.1]
      by_cases c2 : T (tkA T sz lim q + i) = 102
      · rw [if_neg (fun z => z (by rw [c2])), b_207_148]
        exact fin 0 (by unfold clV; rw [if_neg c1, if_pos c2])
      · rw [if_pos (fun z => c2 ((nI_eq (by omega) (by omega)).1 z)), b_207_152]
        exact fin 2 (by unfold clV; rw [if_neg c1, if_neg c2, if_pos (by omega)])
theorem alC_i {a b : Nat} (hal : alC T a b = true) : ∀ i, i < b - a → isCl (T (a + i)) = true := by
  intro i hi
  cases hc : isCl (T (a + i))
  · unfold alC at hal
    rw [(exB_iff _ (b - a) a).2 ⟨a + i, by omega, by omega, by rw [hc]; rfl⟩] at hal
    cases hal
  · rfl
theorem s_207 {h : Hp} {q : Nat} {X : Nat → Nat} (hk : tkK T sz lim q ≠ 1) (hM : MH T sz lim h q X (X 2)) : MO T sz lim (f_207 (some 64) h) h (rowR T sz lim q X) := by
  obtain ⟨w0, w1, w2, _⟩ := id hM.2.2
  rw [f_207, b_207_0, gQ64_15 hM.1.1, Option.bind_some, mh_r hM (by omega) (by omega), Option.bind_some]
  unfold rowR
  by_cases c : X 1 = 10
  · rw [if_neg (fun z => z (by rw [c])), if_pos c, b_207_13]
    exact m_err hM.1 (Or.inl hk)
  · rw [if_pos (fun z => c ((nI_eq (by omega) (by omega)).1 z)), if_neg c, b_207_19]
    refine m_st hM (fun g hG => ?_)
    have kl := tkK_le (T := T) (sz := sz) (lim := lim) (p := tkN T sz lim q)
    have kc := kmd_e kl
    rw [gI64 hG.1.1, Option.bind_some, hG.1.2.2.1.1]
    by_cases c2 : tkK T sz lim (tkN T sz lim q) = 2
    · rw [if_pos (by rw [c2]; rfl), if_neg (fun z => z c2), b_207_37, rC64 hG.1.1, grd_e, Option.bind_some, s_196 hG.1.1 hG.1.2.1 hG.1.2.2.1 hG.1.2.2.2, Option.bind_some]
      dsimp only
      have tw := tk_word (T := T) (lim := lim) hG.1.2.2.2 c2
      have t5 : hI g 64 5 = nI (tkN T sz lim (tkN T sz lim q)) := hG.1.2.2.1.2.2.1
      have t6 : hI g 64 6 = nI (tkA T sz lim (tkN T sz lim q)) := hG.1.2.2.1.2.1
      have bad : MO T sz lim (b_207_66 (some 64) g) g (erA T sz lim 2 (tkN T sz lim q)) := by
        rw [b_207_66]
        exact m_err hG.1 (Or.inl (by omega))
      have qs := hG.1.2.2.2
      cases hal : alC T (tkA T sz lim (tkN T sz lim q)) (tkN T sz lim (tkN T sz lim q))
      · rw [if_pos (show bI false = 0 from rfl), if_pos (Or.inl rfl)]
        exact bad
      · rw [if_neg (show ¬ bI true = 0 by decide), b_207_44]
        have ali := alC_i hal
        generalize tkN T sz lim q = q1 at *
        have fin : MO T sz lim (b_207_72 (some 64) (nI (X 1)) g) g (.ok (tkN T sz lim q1, upX (rowX T (upX X 0 (tkN T sz lim q1 - tkA T sz lim q1)) (tkA T sz lim q1) (tkN T sz lim q1 - tkA T sz lim q1)) 1 (X 1 + 1))) := by
          rw [b_207_72, gQ64_15 hG.1.1, Option.bind_some, gI64 hG.1.1, Option.bind_some, gI64 hG.1.1, Option.bind_some, t5, t6, pk_sub (by omega)]
          refine m_w hG (by omega) (by omega) (hG.2.2.up (by omega)) (fun g2 hG2 _ => ?_)
          obtain ⟨m, hm⟩ := FU_ge (tkN T sz lim q1 - tkA T sz lim q1 + 1) (by omega)
          rw [bnd_e, hm]
          exact l_207 (upX_n (by omega)) (by omega) (upX_i _ _ _) rfl c2 ali (upX_n (by omega)).symm hG2.2.2 qs _ 0 m g2 (by omega) hG2
        by_cases c3 : 0 < X 1
        · rw [if_neg (nI_g0 (by omega) (by omega)), b_207_48, gI64 hG.1.1, Option.bind_some, gI64 hG.1.1, Option.bind_some, t5, t6, pk_sub (by omega), gQ64_15 hG.1.1, Option.bind_some, mh_r hG (by omega) (by omega), Option.bind_some]
          by_cases c4 : tkN T sz lim q1 - tkA T sz lim q1 = X 0
          · rw [if_pos (by rw [c4]), if_neg (fun z => z.elim (fun e => by cases e) (fun e => e.2 c4))]
            exact fin
          · rw [if_neg (fun z => c4 ((nI_eq (by omega) (by omega)).1 z)), if_pos (Or.inr ⟨c3, c4⟩)]
            exact bad
        · rw [if_pos (nI_l0 (by omega) (by omega)), if_neg (fun z => z.elim (fun e => by cases e) (fun e => c3 e.1))]
          exact fin
    · rw [if_neg (fun z => c2 (kc.2.2.1.1 ((nI_eq (by omega) (by omega)).1 z))), if_pos c2, b_207_31]
      exact m_err hG.1 (Or.inr rfl)
theorem l_211 {j : Nat} (hj : j < 6) : ∀ r i q X b m h, i + r = 3 → X 3 = j → b < 1024 → MH T sz lim h q X (X 2) → MO T sz lim (l_211_27 (r + 1 + m) (some 64) (nI j) (nI b) (nI i) h) h (rulT T sz lim j r i q X b) := by
  intro r
  induction r with
  | zero =>
    intro i q X b m h hi h3 hb hM
    have hF := hM.1.1
    have hi3 : i = 3 := by omega
    have wb : WB (upX X 3 (X 3 + 1)) := hM.2.2.up (by omega)
    obtain ⟨w1, w2, w3, _⟩ := mh_w hM (i := 3) (v := X 3 + 1) (by omega) (by omega) wb
    refine ⟨_, ?_, w2.1, ?_, w2.2⟩
    · rw [Nat.zero_add, Nat.add_comm 1 m, l_211_27, b_211_27, if_pos (by rw [hi3, nI_leI (by omega) (by omega)]; omega), b_211_105, gQ64_15 hF, Option.bind_some, mh_r hM (by omega) (by omega), Option.bind_some, nI_add, w1, Option.bind_some, grd1, Option.bind_some]
      rfl
    · show MH T sz lim _ q _ (upX X 3 (X 3 + 1) 2)
      rw [upX_n (show (2 : Nat) ≠ 3 by omega)]
      exact w3
  | succ r ih =>
    intro i q X b m h hi h3 hb hM
    have hF := hM.1.1
    obtain ⟨w0, w1, w2, _⟩ := id hM.2.2
    rw [show r + 1 + 1 + m = (r + 1 + m) + 1 by omega, l_211_27, b_211_27, if_neg (by rw [nI_leI (by omega) (by omega)]; omega), b_211_32, rC64 hF, grd_e, Option.bind_some, s_197 hF hM.1.2.1 hM.1.2.2.1 hM.1.2.2.2, Option.bind_some]
    dsimp only
    unfold rulT
    cases hn : isNm T sz lim q
    · rw [if_neg (show ¬ ¬ bI false = 0 from fun z => z rfl), if_pos rfl, b_211_39]
      exact m_err hM.1 (Or.inr rfl)
    · have k2 := isNm_k hn
      rw [if_pos (show ¬ bI true = 0 by decide), if_neg (by decide), b_211_45, rC64 hF, grd_e, Option.bind_some, s_208 hM (Nat.le_refl _) k2, Option.bind_some, bnd_e]
      dsimp only
      by_cases c2 : fdN X (nV T sz lim q) < X 2
      · rw [if_pos c2, if_neg (nI_m1 (by omega)), if_neg (by omega), b_211_57, s_183 (by omega) (by omega), Option.bind_some]
        dsimp only
        cases ht : b.testBit (fdN X (nV T sz lim q))
        · rw [if_pos (show bI false = 0 from rfl), if_neg (by decide), b_211_72, nI_1shl (by omega), fa_or, bnd_e, gQ64_15 hF, Option.bind_some, pk_mul, nI_add, nI_add]
          have hb2 : b ||| 2 ^ fdN X (nV T sz lim q) < 1024 := or_lt (k := 10) (by omega) (pw_lt (by omega))
          generalize fdN X (nV T sz lim q) = k at *
          refine m_w hM (by omega) (by omega) (hM.2.2.up (by omega)) (fun g hG _ => ?_)
          refine m_st hG (fun g2 hG2 => ?_)
          rw [bnd_e, nI_add]
          have e2 : upX X (310 + 3 * j + i) k 2 = X 2 := upX_n (by omega)
          refine ih (i + 1) _ _ _ m g2 (by omega) ((upX_n (by omega)).trans h3) hb2 ?_
          rw [e2]
          exact hG2
        · rw [if_neg (show ¬ bI true = 0 by decide), if_pos rfl, b_211_66]
          exact m_err hM.1 (Or.inl (by omega))
      · rw [if_neg c2, if_pos rfl, if_pos (by omega), b_211_66]
        exact m_err hM.1 (Or.inl (by omega))
theorem s_211 {h : Hp} {q : Nat} {X : Nat → Nat} (hk : tkK T sz lim q ≠ 1) (hM : MH T sz lim h q X (X 2)) : MO T sz lim (f_211 (some 64) h) h (rulR T sz lim q X) := by
  obtain ⟨w0, w1, w2, w3, _⟩ := id hM.2.2
  rw [f_211, b_211_0, gQ64_15 hM.1.1, Option.bind_some, mh_r hM (by omega) (by omega), Option.bind_some]
  unfold rulR
  by_cases c : X 3 = 6
  · rw [if_neg (fun z => z (by rw [c])), if_pos c, b_211_13]
    exact m_err hM.1 (Or.inl hk)
  · rw [if_pos (fun z => c ((nI_eq (by omega) (by omega)).1 z)), if_neg c, b_211_19]
    refine m_st hM (fun g hG => ?_)
    obtain ⟨m, hm⟩ := FU_ge (3 + 1) (by omega)
    rw [bnd_e, bnd_e, hm]
    exact l_211 (by omega) 3 0 _ X 0 m g rfl rfl (by omega) hG
theorem s_212 {h : Hp} {q : Nat} {X : Nat → Nat} (hk : tkK T sz lim q ≠ 1) (hM : MH T sz lim h q X (X 2)) : MO T sz lim (f_212 (some 64) h) h (stdR T sz lim q X) := by
  obtain ⟨w0, w1, w2, w3, w4, w5, _⟩ := id hM.2.2
  rw [f_212, b_212_0, gQ64_15 hM.1.1, Option.bind_some, aI67 hM.1.1 (by omega), Option.bind_some, hM.2.1.2.1]
  unfold stdR
  by_cases c : X 4 = 0
  · rw [if_pos (by rw [c]; rfl), if_neg (fun z => z c), b_212_16]
    refine m_st hM (fun g hG => ?_)
    generalize tkN T sz lim q = q1 at *
    rw [gQ64_15 hG.1.1, Option.bind_some, mh_r hG (by omega) (by omega), Option.bind_some]
    refine m_num (A := fun g => b_212_38 (some 64) g) (B := fun g => b_212_36 g) hG (a := 0) (b := (X 0 : Int) - 1) rfl zm1 (by omega) (by omega) (fun g => rfl) (fun c1 g3 hG3 e3 => ?_) (fun c => by rw [if_pos c])
    have nk := nmB_k c1
    rw [if_neg (by rw [c1]; decide)]
    have kl := tkK_le (T := T) (sz := sz) (lim := lim) (p := tkN T sz lim q1)
    have kc := kmd_e kl
    show MO T sz lim (b_212_38 (some 64) g3) g3 _
    generalize hq2 : tkN T sz lim q1 = q2 at *
    rw [b_212_38, gI64 hG3.1.1, Option.bind_some, gI64 hG3.1.1, Option.bind_some, e3, hG3.1.2.2.1.1]
    unfold nmB nmF
    by_cases c3 : tkK T sz lim q2 = 3
    · have vl := tk_num (T := T) (lim := lim) hG3.1.2.2.2 c3
      have v8 : hI g3 64 8 = nI (tkV T sz lim q2) := hG3.1.2.2.1.2.2.2.2.2 c3
      rw [if_pos (by rw [c3]; rfl), decide_eq_true c3, Bool.true_and, if_pos c3, b_212_57, gI64 hG3.1.1, Option.bind_some, v8, gQ64_15 hG3.1.1, Option.bind_some, mh_r hG3 (by omega) (by omega), Option.bind_some]
      have bad : MO T sz lim (b_212_90 (some 64) g3) g3 (erA T sz lim 2 q2) := by
        rw [b_212_90]
        exact m_err hG3.1 (Or.inl (by omega))
      by_cases c4 : X 1 ≤ tkV T sz lim q2
      · rw [if_pos (by rw [nI_leI (by omega) (by omega)]; exact c4), if_pos (decide_eq_false (by omega))]
        exact bad
      · have wc := w5 (10 * tkV T sz lim q2 + tkV T sz lim q1) (by omega)
        rw [if_neg (by rw [nI_leI (by omega) (by omega)]; exact c4), if_neg (by rw [decide_eq_false_iff_not]; omega), b_212_70, gQ64_15 hG3.1.1, Option.bind_some, gI64 hG3.1.1, Option.bind_some, v8, pk_mul, nI_add, nI_add, Nat.add_assoc, mh_r hG3 (by omega) (by omega), Option.bind_some]
        by_cases c5 : X (10 + (10 * tkV T sz lim q2 + tkV T sz lim q1)) = 0
        · rw [if_pos (by rw [c5]; rfl), if_neg (fun z => z c5), b_212_96, gQ64_15 hG3.1.1, Option.bind_some, gI64 hG3.1.1, Option.bind_some, v8, pk_mul, nI_add, wI67 hG3.1.1 (by omega), Option.bind_some]
          generalize hv : 10 * tkV T sz lim q2 + tkV T sz lim q1 = v at *
          have z : Fz [67, 71] g3 (sI g3 67 4 (nI v)) := Fz.sI Fz.rfl' (Or.inl (by simp))
          have hG4 : MH T sz lim (sI g3 67 4 (nI v)) q2 (upX X 4 (v + 1)) (X 2) := by
            refine ⟨hG3.1.cz z, ⟨fun j hj h4j => ?_, ?_, fun d hd => ?_⟩, hG3.2.2.up (by omega)⟩
            · rw [hI_sI, if_neg (fun z => h4j z.2), upX_n h4j]; exact hG3.2.1.1 j hj h4j
            · rw [hI_sI, if_pos ⟨rfl, rfl⟩, upX_i]; rfl
            · rw [hJ_sI, upX_n (by omega)]; exact hG3.2.1.2.2 d hd
          refine MO.pre ⟨z.wid (by decide), by rw [z.I (a := 64) (by decide)]⟩ ?_
          obtain ⟨g5, a1, a2, a3⟩ := mh_step hG4
          refine ⟨g5, by rw [rC64 hG4.1.1, grd_e, Option.bind_some, a1, Option.bind_some, grd1, Option.bind_some]; rfl, a2.1, ?_, a2.2⟩
          show MH T sz lim g5 _ _ (upX X 4 (v + 1) 2)
          rw [upX_n (show (2 : Nat) ≠ 4 by omega)]
          exact a3
        · rw [if_neg (nI_n0 (by omega) c5), if_pos c5]
          exact bad
    · rw [if_neg (fun z => c3 (kc.2.2.2.1.1 ((nI_eq (by omega) (by omega)).1 z))), b_212_51, decide_eq_false c3, Bool.false_and, if_pos rfl, if_neg c3]
      exact m_err hG3.1 (Or.inr rfl)
  · rw [if_neg (show ¬ mI (X 4) = -1 from fun z => c ((mI_inj (b := 0) (by omega) (by omega)).1 z)), if_pos c, b_212_10]
    exact m_err hM.1 (Or.inl hk)
theorem isW_k {q k : Nat} (hn : isW T sz lim q k = true) : tkK T sz lim q = 2 := by
  unfold isW at hn
  rw [Bool.and_eq_true] at hn
  exact of_decide_eq_true hn.1
theorem s_213 {h : Hp} {q : Nat} {X : Nat → Nat} (hM : MH T sz lim h q X (X 2)) : MO T sz lim (f_213 (some 64) h) h (linR T sz lim q X) := by
  have hF := hM.1.1
  have fin : ∀ o r, MO T sz lim o h r → MO T sz lim (o.bind fun p => b_213_69 (some 64) p.1 p.2) h (endR T sz lim r) := by
    intro o r hO
    obtain ⟨g, a1, a2, a3⟩ := hO
    rw [a1, Option.bind_some]
    dsimp only
    rw [b_213_69]
    cases r with
    | error e =>
      rw [if_pos (show bI (okB (Except.error e : RsT)) = 0 from rfl), b_213_84, b_213_85, grd0, Option.bind_some]
      exact ⟨g, rfl, a2, a3⟩
    | ok x =>
      obtain ⟨q', Y⟩ := x
      rw [if_neg (show ¬ bI (okB (Except.ok (q', Y) : RsT)) = 0 from show ¬ bI true = 0 by decide), b_213_73]
      have a3' : MH T sz lim g q' Y (Y 2) := a3.1
      obtain ⟨g2, b1, b2, b3, b4⟩ := s_200 a3'.1
      rw [rC64 a3'.1.1, grd_e, Option.bind_some, b1, Option.bind_some]
      dsimp only
      show MO T sz lim _ h (if tkK T sz lim q' = 59 then .ok (tkN T sz lim q', Y) else erA T sz lim 1 q')
      by_cases c : tkK T sz lim q' = 59
      · rw [bI_T c, if_neg nI10, if_pos c, b_213_80, b_213_85, grd1, Option.bind_some]
        exact ⟨g2, rfl, a2.then (b2.wid (by decide)), ⟨(b3 c).1, a3'.2.1.cg (b2.I (by decide)) (b2.J (by decide)), a3'.2.2⟩, (b3 c).2.trans a3.2⟩
      · rw [bI_F c, if_pos (show nI 0 = 0 from rfl), if_neg c, b_213_84, b_213_85, grd0, Option.bind_some]
        exact ⟨g2, rfl, a2.then (b2.wid (by decide)), b4 c⟩
  have w : ∀ k, k < 26 → f_193 (some 64) (nI k) h = some (bI (isW T sz lim q (mw k)), h) := fun k hk => s_193 hF hM.1.2.2.1 hM.1.2.2.2 hk
  unfold linR kinR
  rw [f_213, b_213_0, rC64 hF, grd_e, Option.bind_some, w 0 (by omega), Option.bind_some]
  dsimp only
  rw [show mw 0 = 0 from rfl]
  cases h0 : isW T sz lim q 0
  · rw [if_pos (show bI false = 0 from rfl), if_neg (by decide), b_213_16, rC64 hF, grd_e, Option.bind_some, w 1 (by omega), Option.bind_some]
    dsimp only
    rw [show mw 1 = 1 from rfl]
    cases h1 : isW T sz lim q 1
    · rw [if_pos (show bI false = 0 from rfl), if_neg (by decide), b_213_32, rC64 hF, grd_e, Option.bind_some, w 2 (by omega), Option.bind_some]
      dsimp only
      rw [show mw 2 = 7 from rfl]
      cases h2 : isW T sz lim q 7
      · rw [if_pos (show bI false = 0 from rfl), if_neg (by decide), b_213_48, rC64 hF, grd_e, Option.bind_some, w 3 (by omega), Option.bind_some]
        dsimp only
        rw [show mw 3 = 8 from rfl]
        cases h3 : isW T sz lim q 8
        · rw [if_pos (show bI false = 0 from rfl), if_neg (by decide), b_213_63]
          have := fin _ _ (m_err (k := 1) hM.1 (Or.inr rfl))
          obtain ⟨g, a1, a2, a3, a4⟩ := s_198 (k := 1) hM.1
          rw [rC64 hF, grd_e, Option.bind_some, a1, Option.bind_some] at this ⊢
          exact this
        · rw [if_neg (show ¬ bI true = 0 by decide), if_pos rfl, b_213_56, rC64 hF, grd_e, Option.bind_some]
          exact fin _ _ (s_212 (by rw [isW_k h3]; omega) hM)
      · rw [if_neg (show ¬ bI true = 0 by decide), if_pos rfl, b_213_40, rC64 hF, grd_e, Option.bind_some]
        exact fin _ _ (s_211 (by rw [isW_k h2]; omega) hM)
    · rw [if_neg (show ¬ bI true = 0 by decide), if_pos rfl, b_213_24, rC64 hF, grd_e, Option.bind_some]
      exact fin _ _ (s_210 (by rw [isW_k h1]; omega) hM)
  · rw [if_neg (show ¬ bI true = 0 by decide), if_pos rfl, b_213_8, rC64 hF, grd_e, Option.bind_some]
    exact fin _ _ (s_207 (by rw [isW_k h0]; omega) hM)
end HRP
