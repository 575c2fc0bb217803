/-! the class reads a row, a rule, a stand -/
theorem WF.r0 {X : Nat → Nat} (hW : WF X) {c : Nat} (hc : c < 100) (h1 : 10 * X 1 ≤ c) : X (210 + c) = 0 := by
  obtain ⟨a0, a1, a2, a3, a4, a5, a6, a7, a8⟩ := id hW
  by_cases z : X (210 + c) = 0
  · exact z
  · obtain ⟨i, i1, i2⟩ := a7 c (X (210 + c) - 1) hc (by omega)
    have := (a5 c hc).2
    have := hW.lt (d := X (210 + c) - 1) (by omega) i1
    omega
theorem WF.w1 {X : Nat → Nat} (hW : WF X) {c : Nat} (hc : c < 100) (h1 : 0 < X (210 + c)) : X (10 + c) = 1 := by
  obtain ⟨a0, a1, a2, a3, a4, a5, a6, a7, a8⟩ := id hW
  obtain ⟨i, i1, i2⟩ := a7 c (X (210 + c) - 1) hc (by omega)
  have := (a5 c hc).2
  have := ((a6 (X (210 + c) - 1) (by omega)).2.2.2 i i1).1
  rwa [← i2] at this
theorem cellV_0 {X : Nat → Nat} (hW : WF X) {c : Nat} (hc : c < 100) : cellV X c = 0 ↔ X (10 + c) = 0 := by
  unfold cellV
  split
  · rename_i z
    have := hW.w1 hc z
    omega
  · exact Iff.rfl
theorem cellV_up {X : Nat → Nat} {i v c : Nat} (hc : c < 100) (hi : i < 10 ∨ (110 ≤ i ∧ i < 210) ∨ 310 ≤ i) : cellV (upX X i v) c = cellV X c := by
  unfold cellV
  rw [upX_n (by omega), upX_n (by omega)]
theorem cellV_le {X : Nat → Nat} (hW : WF X) {c : Nat} (hc : c < 100) : cellV X c ≤ 19 := by
  obtain ⟨a0, a1, a2, a3, a4, a5, _⟩ := hW
  have := a5 c hc
  unfold cellV
  split <;> omega
section HROW
variable {T : Nat → Nat} {sz lim : Nat}
/-- at a line's start -/
def LnS (T : Nat → Nat) (sz lim : Nat) (h0 : Hp) (b : Nat) (g : Hp) (q : Nat) (X : Nat → Nat) : Prop := CS T sz lim h0 g b q X (cellV X) (X 2)
def okR (q : Nat) (X : Nat → Nat) : RsT := .ok (q, X)
theorem s_127 {h : Hp} {q : Nat} (hC : CT h T sz lim q) : f_127 (some 31) h = some (nI (tkN T sz lim q - tkA T sz lim q), h) := by
  rw [f_127, b_127_0, gI31 hC.1, Option.bind_some, gI31 hC.1, Option.bind_some, hC.2.2.1.2.1, hC.2.2.1.2.2.1, pk_sub (tkA_le hC.2.2.2)]
theorem l_58 {h0 : Hp} {b q y w n : Nat} {X : Nat → Nat} (hW : WF X) (hn : n = X 2) (hy : X 1 = y) (hy9 : y ≤ 9) (hw : w = tkN T sz lim q - tkA T sz lim q) (hw10 : w ≤ 10) (hws : tkA T sz lim q + w ≤ sz) : ∀ r i m h, i + r = w → CS T sz lim h0 h b q X (cellV (rowX T (upX X 0 w) (tkA T sz lim q) i)) n →
    CR h0 b (l_58_88 (r + 1 + m) (some b) (nI w) (nI i) h) (if exB (fun j => !isCl (T j)) (tkA T sz lim q + i) r = true then erA T sz lim 2 q else .ok (tkN T sz lim q, upX (rowX T (upX X 0 w) (tkA T sz lim q) w) 1 (y + 1))) (LnS T sz lim h0 b) okR := by
  have e1 : upX X 0 w 1 = y := (upX_n (by omega)).trans hy
  have rx : ∀ i, i ≤ w → ∀ j, (j < 10 ∨ 110 ≤ j) → rowX T (upX X 0 w) (tkA T sz lim q) i j = upX X 0 w j := fun i hi j hj => rowX_n (by omega) i (by omega) j hj
  intro r
  induction r with
  | zero =>
    intro i m h hi hS
    have ei : i = w := by omega
    subst ei
    obtain ⟨s1, s2, s3, s4⟩ := id hS
    obtain ⟨n1, n2, n3, n4, n5⟩ := id s2
    have bb := s3.2.2.1
    generalize hR : rowX T (upX X 0 i) (tkA T sz lim q) i = R at *
    have r0 : R 0 = i := by rw [← hR, rx i (by omega) 0 (by omega), upX_i]
    have rn : ∀ j, j ≠ 0 → (j < 10 ∨ 110 ≤ j) → R j = X j := fun j h1 h2 => by rw [← hR, rx i (by omega) j h2, upX_n h1]
    generalize x1 : sI h (b + 1) 3 (nI i) = g1
    generalize x2 : sI g1 (b + 1) 4 (nI (y + 1)) = g2
    have B1 : SB g1 b := by rw [← x1]; exact n1.cg rfl rfl ⟨rfl, rfl⟩
    have v4 : hI g1 (b + 1) 4 = nI y := by rw [← x1, hI_sI, if_neg (by omega), n2.2.1, hy]
    have B2 : SB g2 b := by rw [← x2]; exact B1.cg rfl rfl ⟨rfl, rfl⟩
    have iv : ∀ a j, hI g2 a j = if a = b + 1 ∧ j = 4 then nI (y + 1) else if a = b + 1 ∧ j = 3 then nI i else hI h a j := fun a j => by rw [← x2, hI_sI, ← x1, hI_sI]
    have T2 : CT g2 T sz lim q := by rw [← x2, ← x1]; exact (s1.wsI (by omega)).wsI (by omega)
    have S2 : CS T sz lim h0 g2 b q (upX R 1 (y + 1)) (cellV (upX R 1 (y + 1))) n := by
      refine ⟨T2, s2.up (by rw [← x2, ← x1]; rfl) (by rw [← x2, ← x1]; rfl) (by rw [← x2, ← x1]; exact ⟨rfl, rfl, rfl⟩) ?_ ?_ ?_ ?_ ?_ ?_, by rw [← x2, ← x1]; exact (s3.wsI (by omega)).wsI (by omega), ?_⟩
      · rw [← x2, ← x1]
        exact (Ab.wsI (by omega)).then (Ab.wsI (by omega))
      · rw [upX_n (by omega), rn 2 (by omega) (by omega)]
      · rw [iv, iv, iv, iv, iv, iv, if_neg (by omega), if_pos (by omega), if_pos (by omega), if_neg (by omega), if_neg (by omega), if_neg (by omega), if_neg (by omega), if_neg (by omega), if_neg (by omega), if_neg (by omega), if_neg (by omega)]
        rw [upX_n (show 0 ≠ 1 by omega), upX_i, upX_n (show 2 ≠ 1 by omega), upX_n (show 3 ≠ 1 by omega), upX_n (show 4 ≠ 1 by omega), upX_n (show 900 ≠ 1 by omega), r0, rn 2 (by omega) (by omega), rn 3 (by omega) (by omega), rn 4 (by omega) (by omega), rn 900 (by omega) (by omega)]
        exact ⟨rfl, rfl, n2.2.2⟩
      · intro c hc
        rw [iv, if_neg (by omega), if_neg (by omega), cellV_up hc (by omega)]
        exact n3 c hc
      · intro k hk
        rw [upX_n (by omega), rn 3 (by omega) (by omega)] at hk
        rw [iv, if_neg (by omega), if_neg (by omega), upX_n (by omega), rn _ (by omega) (by omega)]
        exact n5 k hk
      · intro j hj
        rw [upX_n (by omega), rn j (by omega) (by omega)]
      · rw [upX_n (by omega), rn 2 (by omega) (by omega)]; exact s4
    obtain ⟨g3, a1, a2, a3⟩ := k_step S2
    refine ⟨g3, true, ?_, fun z => (by cases z), fun _ => ⟨_, _, if_neg (by show ¬ false = true; decide), ?_⟩⟩
    · rw [Nat.zero_add, Nat.add_comm 1 m, l_58_88, b_58_88, if_pos (by rw [nI_leI (by omega) (by omega)]; exact Nat.le_refl _), b_58_155, q51 n1, Option.bind_some, pI_e n1.2.1.1 (by omega), Option.bind_some, x1, q51 B1, Option.bind_some, i4 B1, Option.bind_some, v4, nI_add, pI_e B1.2.1.1 (by omega), Option.bind_some, x2, q50 B2, Option.bind_some, rC31 T2.1, grd_e, Option.bind_some, a1, Option.bind_some, grd1, Option.bind_some]
      rfl
    · show CS T sz lim h0 g3 b (tkN T sz lim q) _ _ (upX R 1 (y + 1) 2)
      rw [upX_n (show 2 ≠ 1 by omega), rn 2 (by omega) (by omega), ← hn]
      exact a3
  | succ r ih =>
    intro i m h hi hS
    obtain ⟨s1, s2, s3, s4⟩ := id hS
    obtain ⟨n1, n2, n3, n4, n5⟩ := id s2
    have bb := s3.2.2.1
    have tx := s1.2.1.2.2.2.2 (tkA T sz lim q + i) (by omega)
    have t3 : hI h 31 3 = nI (tkA T sz lim q) := s1.2.2.1.2.1
    have sl := s1.2.1.2.2.1
    have cl := clV_le (T (tkA T sz lim q + i))
    rw [show r + 1 + 1 + m = (r + 1 + m) + 1 by omega, l_58_88, b_58_88, if_neg (by rw [nI_leI (by omega) (by omega)]; omega), b_58_93, q50 n1, Option.bind_some, gQ31_0 s1.1, Option.bind_some, Option.bind_some, gI31 s1.1, Option.bind_some, t3, nI_add, aI32 s1.1 (by omega), Option.bind_some, tx.1, s_126 tx.2, Option.bind_some, bnd_e]
    dsimp only
    cases hc : isCl (T (tkA T sz lim q + i))
    · have c0 := clV_0.2 hc
      have ex : exB (fun j => !isCl (T j)) (tkA T sz lim q + i) (r + 1) = true := by
        show (!isCl (T (tkA T sz lim q + i)) || _) = true
        rw [hc]; rfl
      rw [c0, if_neg (show ¬ ¬ mI 0 = -1 from fun z => z rfl), b_58_119, if_pos ex]
      exact c_err s1 n1 s3 (by omega)
    · have ex : exB (fun j => !isCl (T j)) (tkA T sz lim q + i) (r + 1) = exB (fun j => !isCl (T j)) (tkA T sz lim q + (i + 1)) r := by
        show (!isCl (T (tkA T sz lim q + i)) || _) = _
        rw [hc]; rfl
      have c0 : clV (T (tkA T sz lim q + i)) ≠ 0 := fun z => by rw [clV_0.1 z] at hc; cases hc
      have cm : mI (clV (T (tkA T sz lim q + i))) = nI (clV (T (tkA T sz lim q + i)) - 1) := by unfold mI; rw [if_neg c0]
      rw [cm, if_pos (nI_m1 (by omega)), b_58_128, q51 n1, Option.bind_some, q40 n1, Option.bind_some, Option.bind_some, i4 n1, Option.bind_some, n2.2.1, hy, pk_mul, nI_add, wI_n n1.2.2.1.1 (by omega) n1.2.2.1.2 (by omega) (by omega), Option.bind_some, bnd_e, nI_add, ex]
      refine ih (i + 1) m _ (by omega) ⟨s1.wsI (by omega), s2.up rfl rfl ⟨rfl, rfl, rfl⟩ (Ab.wsI (by omega)) rfl ?_ ?_ ?_ (fun _ _ => rfl), s3.wsI (by omega), s4⟩
      · rw [hI_sI, hI_sI, hI_sI, hI_sI, hI_sI, hI_sI, if_neg (by omega), if_neg (by omega), if_neg (by omega), if_neg (by omega), if_neg (by omega), if_neg (by omega)]
        exact n2
      · intro c hc
        have z0 : rowX T (upX X 0 w) (tkA T sz lim q) (i + 1) (210 + c) = X (210 + c) := by rw [rx (i + 1) (by omega) _ (by omega), upX_n (by omega)]
        have z1 : rowX T (upX X 0 w) (tkA T sz lim q) i (210 + c) = X (210 + c) := by rw [rx i (by omega) _ (by omega), upX_n (by omega)]
        have z2 : rowX T (upX X 0 w) (tkA T sz lim q) (i + 1) (10 + c) = if c = 10 * y + i then clV (T (tkA T sz lim q + i)) - 1 else rowX T (upX X 0 w) (tkA T sz lim q) i (10 + c) := by
          show upX _ (10 + 10 * upX X 0 w 1 + i) _ (10 + c) = _
          rw [e1, upX_e]
          by_cases e : c = 10 * y + i
          · rw [if_pos (by omega), if_pos e]
          · rw [if_neg (by omega), if_neg e]
        have n3c := n3 c hc
        unfold cellV at n3c ⊢
        rw [z1] at n3c
        rw [z0, z2, hI_sI]
        by_cases e : c = 10 * y + i
        · rw [if_pos ⟨rfl, e⟩, if_pos e, if_neg (by rw [hW.r0 hc (by omega)]; omega)]
        · rw [if_neg (fun z => e z.2), if_neg e]; exact n3c
      · intro k hk
        rw [hI_sI, if_neg (by omega)]
        exact n5 k hk
theorem s_58 {h0 h : Hp} {b q : Nat} {X : Nat → Nat} (hW : WF X) (hS : LnS T sz lim h0 b h q X) : CR h0 b (f_58 (some b) h) (rowR T sz lim q X) (LnS T sz lim h0 b) okR := by
  obtain ⟨s1, s2, s3, s4⟩ := id hS
  obtain ⟨n1, n2, n3, n4, n5⟩ := id s2
  obtain ⟨w0, w1, _⟩ := id hW
  rw [f_58, b_58_0, q51 n1, Option.bind_some, i4 n1, Option.bind_some, n2.2.1]
  unfold rowR
  by_cases c : X 1 = 10
  · rw [if_neg (fun z => z (by rw [c])), if_pos c, b_58_12]
    exact c_err s1 n1 s3 (by omega)
  · obtain ⟨g, a1, a2, a3⟩ := k_step hS
    obtain ⟨t1, t2, t3, t4⟩ := id a3
    obtain ⟨m1, m2, m3, m4, m5⟩ := id t2
    rw [if_pos (nI_nn (by omega) (by omega) c), if_neg c, b_58_21, q50 n1, Option.bind_some, rC31 s1.1, grd_e, Option.bind_some, a1, Option.bind_some, q50 m1, Option.bind_some, gI31 t1.1, Option.bind_some, t1.2.2.1.1]
    have kl := tkK_le (T := T) (sz := sz) (lim := lim) (p := tkN T sz lim q)
    have kc := kcl_e (x := 40) kl
    by_cases c2 : tkK T sz lim (tkN T sz lim q) = 2
    · have tw := tk_word (T := T) (lim := lim) t1.2.2.2 c2
      rw [if_pos (by rw [c2]; rfl), if_neg (fun z => z c2), b_58_48, q50 m1, Option.bind_some, rC31 t1.1, grd_e, Option.bind_some, s_127 t1, Option.bind_some, bnd_e]
      dsimp only
      rw [q51 m1, Option.bind_some, i4 m1, Option.bind_some, m2.2.1]
      generalize tkN T sz lim q = q1 at *
      have fin : CR h0 b (b_58_86 (some b) (nI (tkN T sz lim q1 - tkA T sz lim q1)) g) (if alC T (tkA T sz lim q1) (tkN T sz lim q1) = false then erA T sz lim 2 q1 else .ok (tkN T sz lim q1, upX (rowX T (upX X 0 (tkN T sz lim q1 - tkA T sz lim q1)) (tkA T sz lim q1) (tkN T sz lim q1 - tkA T sz lim q1)) 1 (X 1 + 1))) (LnS T sz lim h0 b) okR := by
        obtain ⟨m, hm⟩ := FU_ge (tkN T sz lim q1 - tkA T sz lim q1 + 1) (by omega)
        rw [b_58_86, bnd_e, hm]
        have st : CS T sz lim h0 g b q1 X (cellV (rowX T (upX X 0 (tkN T sz lim q1 - tkA T sz lim q1)) (tkA T sz lim q1) 0)) (X 2) := by
          refine ⟨t1, ⟨m1, m2, fun c hc => ?_, m4, m5⟩, t3, t4⟩
          show hI g (b + 2) c = nI (cellV (upX X 0 _) c)
          rw [cellV_up hc (by omega)]
          exact m3 c hc
        have go := l_58 (h0 := h0) (b := b) hW rfl rfl (by omega) rfl (by omega) (by omega) (tkN T sz lim q1 - tkA T sz lim q1) 0 m g (by omega) st
        rw [Nat.add_zero (tkA T sz lim q1)] at go
        unfold alC
        cases hx : exB (fun j => !isCl (T j)) (tkA T sz lim q1) (tkN T sz lim q1 - tkA T sz lim q1)
        · rw [hx, if_neg (by decide)] at go
          rw [if_neg (by decide)]
          exact go
        · rw [hx, if_pos rfl] at go
          rw [if_pos (by decide)]
          exact go
      by_cases c3 : X 1 = 0
      · rw [if_pos (nI_l0 (by omega) c3)]
        cases hal : alC T (tkA T sz lim q1) (tkN T sz lim q1)
        · rw [hal, if_pos rfl] at fin
          rw [if_pos (Or.inl rfl)]
          exact fin
        · rw [hal, if_neg (by decide)] at fin
          rw [if_neg (fun z => z.elim (fun e => by cases e) (fun e => by omega))]
          exact fin
      · rw [if_neg (nI_g0 (by omega) (by omega)), b_58_66, q51 m1, Option.bind_some, i4 m1, Option.bind_some, m2.1]
        by_cases c4 : tkN T sz lim q1 - tkA T sz lim q1 = X 0
        · rw [if_pos (by rw [c4])]
          cases hal : alC T (tkA T sz lim q1) (tkN T sz lim q1)
          · rw [hal, if_pos rfl] at fin
            rw [if_pos (Or.inl rfl)]
            exact fin
          · rw [hal, if_neg (by decide)] at fin
            rw [if_neg (fun z => z.elim (fun e => by cases e) (fun e => e.2 c4))]
            exact fin
        · rw [if_neg (nI_nn (by omega) (by omega) c4), if_pos (Or.inr ⟨by omega, c4⟩), b_58_77]
          exact c_err t1 m1 t3 (by omega)
    · rw [if_neg (fun z => c2 (kc.2.1.1 ((nI_eq (by omega) (by omega)).1 z))), if_pos c2, b_58_39]
      exact c_err t1 m1 t3 (by omega)
theorem l_67 {h0 : Hp} {b j n : Nat} (hj : j < 6) : ∀ r i q X bm m h, i + r = 3 → X 3 = j → n = X 2 → bm < 1024 → CS T sz lim h0 h b q X (cellV X) n → (∀ k, k < i → hI h (b + 4) (3 * j + k) = nI (X (310 + 3 * j + k))) →
    CR h0 b (l_67_32 (r + 1 + m) (some b) (nI bm) (nI i) h) (rulT T sz lim j r i q X bm) (LnS T sz lim h0 b) okR := by
  intro r
  induction r with
  | zero =>
    intro i q X bm m h hi h3 hn hb hS hk
    obtain ⟨s1, s2, s3, s4⟩ := id hS
    obtain ⟨n1, n2, n3, n4, n5⟩ := id s2
    have bb := s3.2.2.1
    refine ⟨sI h (b + 1) 6 (nI (j + 1)), true, ?_, fun z => (by cases z), fun _ => ⟨q, upX X 3 (X 3 + 1), rfl, ?_⟩⟩
    · rw [Nat.zero_add, Nat.add_comm 1 m, l_67_32, b_67_32, if_pos (by rw [nI_leI (by omega) (by omega)]; omega), b_67_113, q51 n1, Option.bind_some, i4 n1, Option.bind_some, n2.2.2.2.1, h3, nI_add, pI_e n1.2.1.1 (by omega), Option.bind_some, grd1, Option.bind_some]
      rfl
    · show CS T sz lim h0 _ b q _ _ (upX X 3 (X 3 + 1) 2)
      rw [upX_n (show 2 ≠ 3 by omega), ← hn]
      refine ⟨s1.wsI (by omega), s2.up rfl rfl ⟨rfl, rfl, rfl⟩ (Ab.wsI (by omega)) (upX_n (by omega)) ?_ ?_ ?_ (fun z hz => upX_n (by omega)), s3.wsI (by omega), by rw [upX_n (by omega)]; exact s4⟩
      · rw [hI_sI, hI_sI, hI_sI, hI_sI, hI_sI, hI_sI, if_neg (by omega), if_neg (by omega), if_neg (by omega), if_pos ⟨rfl, rfl⟩, if_neg (by omega), if_neg (by omega), upX_n (show 0 ≠ 3 by omega), upX_n (show 1 ≠ 3 by omega), upX_n (show 2 ≠ 3 by omega), upX_i, upX_n (show 4 ≠ 3 by omega), upX_n (show 900 ≠ 3 by omega), h3]
        exact ⟨n2.1, n2.2.1, n2.2.2.1, rfl, n2.2.2.2.2⟩
      · intro c hc
        rw [hI_sI, if_neg (by omega), cellV_up hc (by omega)]
        exact n3 c hc
      · intro k kk
        rw [upX_i] at kk
        rw [hI_sI, if_neg (by omega), upX_n (by omega)]
        by_cases c : k < 3 * X 3
        · exact n5 k c
        · have := hk (k - 3 * j) (by omega)
          rwa [show 3 * j + (k - 3 * j) = k by omega, show 310 + 3 * j + (k - 3 * j) = 310 + k by omega] at this
  | succ r ih =>
    intro i q X bm m h hi h3 hn hb hS hk
    obtain ⟨s1, s2, s3, s4⟩ := id hS
    obtain ⟨n1, n2, n3, n4, n5⟩ := id s2
    have bb := s3.2.2.1
    obtain ⟨g, a1, a2, a3⟩ := s_125 s1 (show 30 ≤ b + 1 by omega) (s2.nm s4)
    rw [show r + 1 + 1 + m = (r + 1 + m) + 1 by omega, l_67_32, b_67_32, if_neg (by rw [nI_leI (by omega) (by omega)]; omega), b_67_37, q50 n1, Option.bind_some, q51 n1, Option.bind_some, rC31 s1.1, grd_e, Option.bind_some, a1, Option.bind_some, bnd_e]
    dsimp only
    have fd : fdD (fun d => X (1000 + d)) (X 2) (nV T sz lim q) = fdN X (nV T sz lim q) := rfl
    rw [fd] at a2 a3 ⊢
    by_cases c : isNm T sz lim q = true ∧ fdN X (nV T sz lim q) < X 2
    · have eg := a2 c
      subst eg
      rw [if_pos c, if_pos (nI_m1 (by omega)), b_67_56]
      unfold rulT
      rw [if_neg (show ¬ isNm T sz lim q = false by rw [c.1]; decide), if_neg (show ¬ X 2 ≤ fdN X (nV T sz lim q) by omega)]
      cases ht : bm.testBit (fdN X (nV T sz lim q))
      · rw [if_pos (by rw [nI_hasP (by omega) (by omega), ht]; decide), if_neg (by decide), b_67_74, nI_1shl (by omega), fa_or, bnd_e, q51 n1, Option.bind_some, q42 n1, Option.bind_some, Option.bind_some, i4 n1, Option.bind_some, n2.2.2.2.1, h3, pk_mul, nI_add, wI_n n1.2.2.2.2.1 (by omega) n1.2.2.2.2.2 (by omega) (by omega), Option.bind_some]
        have hb2 : bm ||| 2 ^ fdN X (nV T sz lim q) < 1024 := or_lt (k := 10) (by omega) (pw_lt (by omega))
        generalize fdN X (nV T sz lim q) = k at *
        generalize x1 : sI g (b + 4) (3 * j + i) (nI k) = g1
        have S1 : CS T sz lim h0 g1 b q (upX X (310 + 3 * j + i) k) (cellV (upX X (310 + 3 * j + i) k)) n := by
          rw [← x1]
          refine ⟨s1.wsI (by omega), s2.up rfl rfl ⟨rfl, rfl, rfl⟩ (Ab.wsI (by omega)) (upX_n (by omega)) ?_ ?_ ?_ (fun z hz => upX_n (by omega)), s3.wsI (by omega), by rw [upX_n (by omega)]; exact s4⟩
          · rw [hI_sI, hI_sI, hI_sI, hI_sI, hI_sI, hI_sI, if_neg (by omega), if_neg (by omega), if_neg (by omega), if_neg (by omega), if_neg (by omega), if_neg (by omega), upX_n (by omega), upX_n (by omega), upX_n (by omega), upX_n (by omega), upX_n (by omega), upX_n (by omega)]
            exact n2
          · intro c hc
            rw [hI_sI, if_neg (by omega), cellV_up hc (by omega)]
            exact n3 c hc
          · intro z zz
            rw [upX_n (by omega)] at zz
            rw [hI_sI, if_neg (by omega), upX_n (by omega)]
            exact n5 z zz
        obtain ⟨g2, k1, k2, k3⟩ := k_step S1
        rw [q50 S1.2.1.1, Option.bind_some, rC31 S1.1.1, grd_e, Option.bind_some, k1, Option.bind_some, bnd_e, nI_add]
        refine ih (i + 1) _ _ _ m g2 (by omega) ((upX_n (by omega)).trans h3) (hn.trans (upX_n (by omega)).symm) hb2 k3 (fun z hz => ?_)
        have e := (k2.ab (P := fun a => a = b + 4) (by decide) (fun a ha => by omega)) (b + 4) rfl
        rw [e.2.2.1, ← x1, hI_sI, upX_e]
        by_cases ez : z = i
        · rw [if_pos ⟨rfl, by omega⟩, if_pos (by omega)]
        · rw [if_neg (by omega), if_neg (by omega)]
          exact hk z (by omega)
      · rw [if_neg (by rw [nI_hasP (by omega) (by omega), ht]; exact fun z => z rfl), if_pos rfl, b_67_65]
        exact c_err s1 n1 s3 (by omega)
    · obtain ⟨b1, b2, b3⟩ := a3 c
      rw [if_neg c, if_neg (fun z => z rfl), b_67_54]
      refine ⟨g, false, by rw [grd0, Option.bind_some]; rfl, fun _ => ⟨_, _, ?_, s3.er (by omega) (b1.fix s1.1 (by decide)) b1 b2 b3⟩, fun z => (by cases z)⟩
      unfold rulT
      cases hn : isNm T sz lim q
      · rw [if_pos rfl, if_neg (by decide)]; rfl
      · rw [if_neg (by decide), if_pos (by have : ¬ fdN X (nV T sz lim q) < X 2 := fun z => c ⟨hn, z⟩; omega), if_pos rfl]; rfl
theorem s_67 {h0 h : Hp} {b q : Nat} {X : Nat → Nat} (hW : WF X) (hS : LnS T sz lim h0 b h q X) : CR h0 b (f_67 (some b) h) (rulR T sz lim q X) (LnS T sz lim h0 b) okR := by
  obtain ⟨s1, s2, s3, s4⟩ := id hS
  obtain ⟨n1, n2, n3, n4, n5⟩ := id s2
  obtain ⟨w0, w1, w2, w3, _⟩ := id hW
  rw [f_67, b_67_0, q51 n1, Option.bind_some, i4 n1, Option.bind_some, n2.2.2.2.1]
  unfold rulR
  by_cases c : X 3 = 6
  · rw [if_neg (fun z => z (by rw [c])), if_pos c, b_67_12]
    exact c_err s1 n1 s3 (by omega)
  · obtain ⟨g, a1, a2, a3⟩ := k_step hS
    rw [if_pos (nI_nn (by omega) (by omega) c), if_neg c, b_67_21, q50 n1, Option.bind_some, rC31 s1.1, grd_e, Option.bind_some, a1, Option.bind_some, bnd_e, bnd_e]
    obtain ⟨m, hm⟩ := FU_ge (3 + 1) (by omega)
    rw [hm]
    exact l_67 (by omega) 3 0 _ X 0 m g rfl rfl rfl (by omega) a3 (fun k hk => absurd hk (by omega))
/-- a cell asked of the house being read -/
theorem s_50c {h : Hp} {b x y : Nat} {X Z : Nat → Nat} (hC : CN h b X Z) (h0 : X 0 ≤ 10) (h1 : X 1 ≤ 10) (hx : x < 1000) (hy : y < 1000) : f_50 (some (b + 1)) (nI x) (nI y) h = some (if x < X 0 ∧ y < X 1 then nI (Z (10 * y + x)) else -1, h) := by
  obtain ⟨n1, n2, n3, n4, n5⟩ := hC
  have nl : ∀ n : Nat, n < 1000 → ¬ nI n < 0 := fun n hn z => absurd ((nI_ltI (a := n) (b := 0) (by omega) (by omega)).1 z) (by omega)
  rw [f_50, b_50_0, if_neg (nl x hx), b_50_4, i4 n1, Option.bind_some, n2.1]
  by_cases c1 : x < X 0
  · rw [if_neg (by rw [nI_leI (by omega) (by omega)]; omega), b_50_12, if_neg (nl y hy), b_50_16, i4 n1, Option.bind_some, n2.2.1]
    by_cases c2 : y < X 1
    · rw [if_neg (by rw [nI_leI (by omega) (by omega)]; omega), b_50_24, b_50_29, if_neg nI10, b_50_34, q40 n1, Option.bind_some, pk_mul, nI_add, aI_n n1.2.2.1.1 n1.2.2.1.2 (by omega) (by omega), Option.bind_some, b_50_49, n3 _ (by omega), if_pos ⟨c1, c2⟩]
    · rw [if_pos (by rw [nI_leI (by omega) (by omega)]; omega), b_50_28, b_50_29, if_pos (show nI 0 = 0 from rfl), b_50_48, b_50_49, if_neg (fun z => c2 z.2)]
  · rw [if_pos (by rw [nI_leI (by omega) (by omega)]; omega), b_50_28, b_50_29, if_pos (show nI 0 = 0 from rfl), b_50_48, b_50_49, if_neg (fun z => c1 z.1)]
/-- a number asked of the class's text -/
theorem k_num {h0 h : Hp} {b q n : Nat} {X Z : Nat → Nat} {a z : Int} {x y : Int32} {A B : Hp → Option (Int32 × Hp)} {st : RsT} {S : Hp → Nat → (Nat → Nat) → Prop} {nx : Nat → (Nat → Nat) → RsT} (s : CS T sz lim h0 h b q X Z n) (hn : n ≤ 11) (hx : zI a = x) (hy : zI z = y) (ha : -1000 ≤ a ∧ a ≤ 1000) (hz : -1000 ≤ z ∧ z ≤ 1000) (hB : ∀ g, B g = some (nI 0, g))
    (hA : nmB T sz lim q a z = true → hI h 31 4 = nI (tkV T sz lim q) → CR h0 b (A h) st S nx) (hr : nmB T sz lim q a z = false → st = erA T sz lim (nmF T sz lim q) q) :
    CR h0 b ((grd (rC 9 (some 31) h)).bind fun _ => (f_124 (some 31) x y h).bind fun p => if ¬ p.1 = 0 then A p.2 else B p.2) st S nx := by
  obtain ⟨s1, s2, s3, s4⟩ := s
  obtain ⟨g, a1, a2, a3, a4⟩ := s_124 s1 ha hz
  rw [hx, hy] at a1
  rw [rC31 s1.1, grd_e, Option.bind_some, a1, Option.bind_some]
  dsimp only
  cases c : nmB T sz lim q a z
  · rw [if_neg (show ¬ ¬ bI false = 0 from fun z => z rfl), hB, hr c]
    exact ⟨g, false, rfl, fun _ => ⟨_, _, rfl, s3.er hn (a2.fix s1.1 (by decide)) a2 (a4 c).1 (a4 c).2⟩, fun z => (by cases z)⟩
  · obtain ⟨e1, e2⟩ := a3 c
    subst e1
    rw [if_pos (show ¬ bI true = 0 by decide)]
    exact hA c e2
theorem s_68 {h0 h : Hp} {b q : Nat} {X : Nat → Nat} (hW : WF X) (hS : LnS T sz lim h0 b h q X) : CR h0 b (f_68 (some b) h) (stdR T sz lim q X) (LnS T sz lim h0 b) okR := by
  obtain ⟨s1, s2, s3, s4⟩ := id hS
  obtain ⟨n1, n2, n3, n4, n5⟩ := id s2
  obtain ⟨w0, w1, w2, w3, w4, _⟩ := id hW
  have bb := s3.2.2.1
  rw [f_68, b_68_0, q51 n1, Option.bind_some, i4 n1, Option.bind_some, n2.2.2.2.2.1]
  unfold stdR
  by_cases c : X 4 = 0
  · obtain ⟨g, a1, a2, a3⟩ := k_step hS
    obtain ⟨t1, t2, t3, t4⟩ := id a3
    have m1 := t2.1
    have m2 := t2.2.1
    rw [if_pos (by rw [c]; rfl), if_neg (fun z => z c), b_68_20, q50 n1, Option.bind_some, rC31 s1.1, grd_e, Option.bind_some, a1, Option.bind_some, q50 m1, Option.bind_some, q51 m1, Option.bind_some, i4 m1, Option.bind_some, m2.1]
    generalize tkN T sz lim q = q1 at *
    refine k_num (A := fun g => b_68_49 (some b) g) (B := fun g => b_68_47 g) a3 (by omega) (a := 0) (z := (X 0 : Int) - 1) rfl zm1 (by omega) (by omega) (fun g => rfl) (fun c1 v1 => ?_) (fun c1 => by rw [if_pos c1])
    have k1 := nmB_k c1
    rw [if_neg (by rw [c1]; decide)]
    obtain ⟨g2, b1, b2, b3⟩ := k_step a3
    obtain ⟨u1, u2, u3, u4⟩ := id b3
    show CR h0 b (b_68_49 (some b) g) _ _ _
    rw [b_68_49, q50 m1, Option.bind_some, gI31 t1.1, Option.bind_some, v1, Option.bind_some, rC31 t1.1, grd_e, Option.bind_some, b1, Option.bind_some, q50 u2.1, Option.bind_some, q51 u2.1, Option.bind_some, i4 u2.1, Option.bind_some, u2.2.1.2.1]
    generalize hx : tkV T sz lim q1 = x at *
    generalize tkN T sz lim q1 = q2 at *
    refine k_num (A := fun g => b_68_86 (some b) (nI x) g) (B := fun g => b_68_84 g) b3 (by omega) (a := 0) (z := (X 1 : Int) - 1) rfl zm1 (by omega) (by omega) (fun g => rfl) (fun c2 v2 => ?_) (fun c2 => by rw [if_pos c2])
    have k2 := nmB_k c2
    rw [if_neg (by rw [c2]; decide)]
    show CR h0 b (b_68_86 (some b) (nI x) g2) _ _ _
    rw [b_68_86, q51 u2.1, Option.bind_some, q50 u2.1, Option.bind_some, gI31 u1.1, Option.bind_some, v2, rC_e u2.1.2.1.1 (by omega), grd_e, Option.bind_some, s_50c u2 w0 w1 (by omega) (by omega), Option.bind_some]
    dsimp only
    generalize tkV T sz lim q2 = y at *
    rw [if_pos (show x < X 0 ∧ y < X 1 by omega)]
    have c0 := cellV_0 hW (c := 10 * y + x) (by omega)
    have cl := cellV_le hW (c := 10 * y + x) (by omega)
    by_cases c5 : X (10 + (10 * y + x)) = 0
    · rw [if_pos (by rw [c0.2 c5]; rfl), if_neg (fun z => z c5), b_68_113, q51 u2.1, Option.bind_some, q50 u2.1, Option.bind_some, gI31 u1.1, Option.bind_some, v2, pk_mul, nI_add, pI_e u2.1.2.1.1 (by omega), Option.bind_some]
      generalize x1 : sI g2 (b + 1) 7 (nI (10 * y + x)) = g3
      obtain ⟨d1, d2, d3, d4, d5⟩ := id u2
      have S3 : CS T sz lim h0 g3 b q2 (upX X 4 (10 * y + x + 1)) (cellV (upX X 4 (10 * y + x + 1))) (X 2) := by
        rw [← x1]
        refine ⟨u1.wsI (by omega), u2.up rfl rfl ⟨rfl, rfl, rfl⟩ (Ab.wsI (by omega)) (upX_n (by omega)) ?_ ?_ ?_ (fun z hz => upX_n (by omega)), u3.wsI (by omega), by rw [upX_n (by omega)]; exact u4⟩
        · rw [hI_sI, hI_sI, hI_sI, hI_sI, hI_sI, hI_sI, if_neg (by omega), if_neg (by omega), if_neg (by omega), if_neg (by omega), if_pos ⟨rfl, rfl⟩, if_neg (by omega), upX_n (by omega), upX_n (by omega), upX_n (by omega), upX_n (by omega), upX_i, upX_n (by omega)]
          exact ⟨d2.1, d2.2.1, d2.2.2.1, d2.2.2.2.1, rfl, d2.2.2.2.2.2⟩
        · intro c hc
          rw [hI_sI, if_neg (by omega), cellV_up hc (by omega)]
          exact d3 c hc
        · intro z zz
          rw [upX_n (by omega)] at zz
          rw [hI_sI, if_neg (by omega), upX_n (by omega)]
          exact d5 z zz
      obtain ⟨g4, e1, e2, e3⟩ := k_step S3
      refine ⟨g4, true, ?_, fun z => (by cases z), fun _ => ⟨_, _, rfl, ?_⟩⟩
      · rw [q50 S3.2.1.1, Option.bind_some, rC31 S3.1.1, grd_e, Option.bind_some, e1, Option.bind_some, grd1, Option.bind_some]
        rfl
      · show CS T sz lim h0 g4 b _ _ _ (upX X 4 (10 * y + x + 1) 2)
        rw [upX_n (show 2 ≠ 4 by omega)]
        exact e3
    · rw [if_neg (nI_n0 (by omega) (fun z => c5 (c0.1 z))), if_pos c5, b_68_104]
      exact c_err u1 u2.1 u3 (by omega)
  · rw [if_neg (show ¬ mI (X 4) = -1 from fun z => c ((mI_inj (b := 0) (by omega) (by omega)).1 z)), if_pos c, b_68_11]
    exact c_err s1 n1 s3 (by omega)
end HROW
