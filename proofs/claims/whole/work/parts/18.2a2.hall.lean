/-! the class reads a line; all lines -/
section HALL
variable {T : Nat → Nat} {sz lim : Nat}
theorem CN.f {h : Hp} {b v : Nat} {X Z : Nat → Nat} (hC : CN h b X Z) (h10 : X 2 ≤ 10) (h3 : X 3 ≤ 6) : CN (sI h (b + 1) 8 (nI v)) b (upX X 900 v) Z := by
  obtain ⟨n1, n2, n3, n4, n5⟩ := id hC
  refine hC.up rfl rfl ⟨rfl, rfl, rfl⟩ (Ab.wsI (by omega)) (upX_n (by omega)) ?_ ?_ ?_ (fun j hj => upX_n (by omega))
  · rw [hI_sI, hI_sI, hI_sI, hI_sI, hI_sI, hI_sI, if_neg (by omega), if_neg (by omega), if_neg (by omega), if_neg (by omega), if_neg (by omega), if_pos ⟨rfl, rfl⟩, upX_n (by omega), upX_n (by omega), upX_n (by omega), upX_n (by omega), upX_n (by omega), upX_i]
    exact ⟨n2.1, n2.2.1, n2.2.2.1, n2.2.2.2.1, n2.2.2.2.2.1, rfl⟩
  · intro c hc
    rw [hI_sI, if_neg (by omega)]; exact n3 c hc
  · intro i hi
    rw [upX_n (by omega)] at hi
    rw [hI_sI, if_neg (by omega), upX_n (by omega)]; exact n5 i hi
/-- the door is hung in its house -/
theorem s_59e {h0 h : Hp} {b q d : Nat} {X : Nat → Nat} (s : S66 T sz lim h0 b d h q X) : CR h0 b (b_59_80 (some b) (some (b + 5 + 6 * d)) h) (dorW T sz lim q X d) (LnS T sz lim h0 b) okR := by
  obtain ⟨s, hb⟩ := s
  have n1 := s.1.2.1.1
  have bb := s.1.2.2.1.2.2.1
  have hd := s.2.1
  have hd9 := s.2.2.1
  obtain ⟨g, a1, a2, a3⟩ := s_122 (k := 6) s.1.1 (by omega)
  have s' := s.fz a3 a2 (by decide) (by decide)
  have key : ∀ z q', z ≤ 1 → DS T sz lim h0 g b q' X (cellV (FX X d)) d 13 → CR h0 b ((pZ 1 13 (some (b + 5 + 6 * d)) (nI z) g).bind fun h3 => (gQ 5 1 (some b) h3).bind fun x4 => (gQ 4 1 x4 h3).bind fun x5 => (gQ 5 1 (some b) h3).bind fun x6 => (gI 4 5 x6 h3).bind fun x7 => (wQ x5 x7 (some (b + 5 + 6 * d)) h3).bind fun h8 => (gQ 5 1 (some b) h8).bind fun x9 => (gI 4 5 x9 h8).bind fun x10 => (pI 4 5 x9 (x10 + nI 1) h8).bind fun h11 => (grd (decide (nI 1 = 0 ∨ nI 1 = 1))).bind fun _ => some (nI 1, h11)) (.ok (q', dorE (upX X (117 + 10 * d) z) d)) (LnS T sz lim h0 b) okR := by
    intro z q' hz1 s
    have t := ds_w (v := z) (Z' := cellV (FX (upX X (117 + 10 * d) z) d)) s (by omega) (by omega) (fun c hc => FX_up hc (by omega) (by omega))
    rw [show 104 + 13 + 10 * d = 117 + 10 * d by omega] at t
    have hb1 : BD (upX X (117 + 10 * d) z) d := hb.up (by omega)
    rw [pZ_e s.k.1 s.k.2 (by rcases (show z = 0 ∨ z = 1 by omega) with e | e <;> subst e <;> decide), Option.bind_some]
    generalize upX X (117 + 10 * d) z = Y at *
    generalize sI g (b + 5 + 6 * d) 13 (nI z) = g3 at *
    obtain ⟨⟨t1, t2, t3, t4⟩, y2, _, dp, _, _⟩ := id t
    obtain ⟨m1, m2, m3, m4, m5⟩ := id t2
    have B8 : SB (sQ g3 (b + 3) d (some (b + 5 + 6 * d))) b := SB.cg (h := g3) (g := sQ g3 (b + 3) d (some (b + 5 + 6 * d))) rfl rfl ⟨funext fun j => by rw [hQ_sQ, if_neg (by omega)], funext fun j => by rw [hQ_sQ, if_neg (by omega)]⟩ m1
    refine ⟨sI (sQ g3 (b + 3) d (some (b + 5 + 6 * d))) (b + 1) 5 (nI (d + 1)), true, ?_, fun z => (by cases z), fun _ => ⟨_, _, rfl, ?_⟩⟩
    · rw [q51 m1, Option.bind_some, q41 m1, Option.bind_some, Option.bind_some, i4 m1, Option.bind_some, m2.2.2.1, y2, wQ_d m1.2.2.2.1.1 (by omega) m1.2.2.2.1.2 (by omega) (by omega) dp.1.1.1, Option.bind_some, q51 B8, Option.bind_some, i4 B8, Option.bind_some, hI_sQ, m2.2.2.1, y2, nI_add, pI_e B8.2.1.1 (by omega), Option.bind_some, grd1, Option.bind_some]
      rfl
    · have fn : ∀ j, (j < 210 ∨ 310 ≤ j) → FX Y d j = Y j := fun j hj => filX_n _ hb1 j hj
      have en : ∀ j, j ≠ 2 → (j < 210 ∨ 310 ≤ j) → dorE Y d j = Y j := fun j h1 h2 => by
        show upX (FX Y d) 2 (Y 2 + 1) j = Y j
        rw [upX_n h1, fn j h2]
      have e2 : dorE Y d 2 = d + 1 := by show upX (FX Y d) 2 (Y 2 + 1) 2 = d + 1; rw [upX_i, y2]
      have iv : ∀ a j, hI (sI (sQ g3 (b + 3) d (some (b + 5 + 6 * d))) (b + 1) 5 (nI (d + 1))) a j = if a = b + 1 ∧ j = 5 then nI (d + 1) else hI g3 a j := fun a j => by rw [hI_sI, hI_sQ]
      have qv : ∀ a j, hQ (sI (sQ g3 (b + 3) d (some (b + 5 + 6 * d))) (b + 1) 5 (nI (d + 1))) a j = if a = b + 3 ∧ j = d then some (b + 5 + 6 * d) else hQ g3 a j := fun a j => by rw [hQ_sI, hQ_sQ]
      have ab : ∀ p, b + 5 ≤ p → Ab (fun a => p ≤ a ∧ a < p + 6) g3 (sI (sQ g3 (b + 3) d (some (b + 5 + 6 * d))) (b + 1) 5 (nI (d + 1))) := fun p hp => (Ab.wsQ (by omega)).then (Ab.wsI (by omega))
      show CS T sz lim h0 _ b q' (dorE Y d) (cellV (dorE Y d)) (dorE Y d 2)
      rw [e2]
      refine ⟨?_, ⟨B8.cg rfl rfl ⟨rfl, rfl⟩, ?_, fun c hc => ?_, fun e he => ?_, fun i hi => ?_⟩, (t3.wsQ (by omega)).wsI (by omega), by omega⟩
      · refine CT.ab t1 (fx_sI ?_ (by omega)) ((Ab.wsQ (by omega)).then (Ab.wsI (by omega)))
        exact (Fa.sQ (Z := [b + 3]) Fa.rfl' (Or.inl (by simp))).fix t1.1 (by intro z hz; simp only [List.mem_cons, List.not_mem_nil, or_false] at hz; omega) (by
          intro q hq
          have fl : ∀ q, q ∈ fqT → q.1 < 98 ∧ q.2.1 < 100 := by decide
          have := fl q hq
          simp only [List.mem_cons, List.not_mem_nil, or_false]
          omega)
      · rw [iv, iv, iv, iv, iv, iv, if_neg (by omega), if_neg (by omega), if_pos ⟨rfl, rfl⟩, if_neg (by omega), if_neg (by omega), if_neg (by omega), e2, en 0 (by omega) (by omega), en 1 (by omega) (by omega), en 3 (by omega) (by omega), en 4 (by omega) (by omega), en 900 (by omega) (by omega)]
        exact ⟨m2.1, m2.2.1, rfl, m2.2.2.2⟩
      · rw [iv, if_neg (by omega)]
        show _ = nI (cellV (upX (FX Y d) 2 (Y 2 + 1)) c)
        rw [cellV_up hc (by omega)]
        exact m3 c hc
      · rw [e2] at he
        rw [qv]
        by_cases ed : e = d
        · subst ed
          rw [if_pos ⟨rfl, rfl⟩]
          exact ⟨rfl, dp.cg (ab _ (by omega)) ⟨en _ (by omega) (by omega), fun k h1 h2 => en _ (by omega) (by omega)⟩⟩
        · rw [if_neg (by omega)]
          have := m4 e (by omega)
          exact ⟨this.1, this.2.cg (ab _ (by omega)) ⟨en _ (by omega) (by omega), fun k h1 h2 => en _ (by omega) (by omega)⟩⟩
      · rw [en 3 (by omega) (by omega)] at hi
        rw [iv, if_neg (by omega), en _ (by omega) (by omega)]
        exact m5 i hi
  rw [b_59_80, q50 n1, Option.bind_some, rC31 s.1.1.1, grd_e, Option.bind_some, a1, Option.bind_some]
  dsimp only
  unfold dorW
  cases hw : isW T sz lim q 6
  · rw [hw, if_neg (by decide)] at s'
    rw [if_neg (by decide)]
    exact key 0 q (by omega) s'
  · rw [hw, if_pos rfl] at s'
    rw [if_pos rfl]
    exact key 1 _ (by omega) s'
theorem s_59 {h0 h : Hp} {b q : Nat} {X : Nat → Nat} (hW : WF X) (hS : LnS T sz lim h0 b h q X) : CR h0 b (f_59 (some b) h) (dorR T sz lim q X) (LnS T sz lim h0 b) okR := by
  obtain ⟨s1, s2, s3, s4⟩ := id hS
  obtain ⟨n1, n2, n3, n4, n5⟩ := id s2
  have bb := s3.2.2.1
  rw [f_59, b_59_0, q51 n1, Option.bind_some, i4 n1, Option.bind_some, n2.2.2.1]
  unfold dorR
  by_cases c : X 2 = 10
  · rw [if_neg (fun z => z (by rw [c])), if_pos c, b_59_12]
    exact c_err s1 n1 s3 (by omega)
  · obtain ⟨g, a1, a2, a3⟩ := k_step hS
    obtain ⟨t1, t2, t3, t4⟩ := id a3
    have N : hN g = b + 5 + 6 * X 2 := t3.2.2.2.1
    obtain ⟨g2, c1, c2, c3, c4, c5, c6, c7, c8, c9⟩ := s_6 (h := g) (by omega)
    rw [N] at c1 c2 c3 c4 c5 c6
    rw [if_pos (nI_nn (by omega) (by omega) c), if_neg c, b_59_21, q50 n1, Option.bind_some, rC31 s1.1, grd_e, Option.bind_some, a1, Option.bind_some, bnd_e, Option.isSome_some, grd_e, Option.bind_some, N, c1, Option.bind_some, bnd_e]
    have S2 : CS T sz lim h0 g2 b (tkN T sz lim q) X (cellV X) (X 2 + 1) := by
      have F2 : Fix g2 := c9.fix t1.1 (by decide) (by decide)
      refine ⟨t1.ab F2 (c5.mono (fun a ha => by omega)), t2.ab t4 (c5.mono (fun a ha => by omega)), ?_, t4⟩
      obtain ⟨f1, f2, f3, f4, f5, f6⟩ := t3
      exact ⟨f1.then (c9.wid (fun z hz => by cases hz)), f2, ⟨f3.1, f3.2.1, by rw [(c5 31 (by omega)).2.2.1]; exact f3.2.2⟩, by omega, by omega, by omega⟩
    generalize tkN T sz lim q = q1 at *
    rw [rC_e S2.2.1.1.1.1 (by omega), grd_e, Option.bind_some]
    refine CR.seq' (A := fun g => b_59_44 (some b) (some (b + 5 + 6 * X 2)) g) (B := fun g => b_59_60 g) (s_60 hW S2 rfl (by omega) c2 c3 c4) (fun g => rfl) (fun g3 q3 X3 h3 => ?_)
    show CR h0 b (b_59_44 (some b) (some (b + 5 + 6 * X 2)) g3) _ _ _
    rw [b_59_44, rC_e h3.1.1.2.1.1.1.1 (by omega), grd_e, Option.bind_some]
    refine CR.seq' (A := fun g => b_59_52 (some b) (some (b + 5 + 6 * X 2)) g) (B := fun g => b_59_60 g) (s_61 h3) (fun g => rfl) (fun g4 q4 X4 h4 => ?_)
    show CR h0 b (b_59_52 (some b) (some (b + 5 + 6 * X 2)) g4) _ _ _
    rw [b_59_52, rC_e h4.1.1.2.1.1.1.1 (by omega), grd_e, Option.bind_some]
    refine CR.seq (A := fun g => b_59_62 (some b) (some (b + 5 + 6 * X 2)) g) (B := fun g => b_59_60 g) (s_62 h4) (fun g => rfl) (fun g5 q5 X5 h5 => ?_)
    show CR h0 b (b_59_62 (some b) (some (b + 5 + 6 * X 2)) g5) _ _ _
    rw [b_59_62, rC_e h5.1.1.2.1.1.1.1 (by omega), grd_e, Option.bind_some]
    refine CR.seq' (A := fun g => b_59_70 (some b) (some (b + 5 + 6 * X 2)) g) (B := fun g => b_59_78 g) (s_64 h5) (fun g => rfl) (fun g6 q6 X6 h6 => ?_)
    show CR h0 b (b_59_70 (some b) (some (b + 5 + 6 * X 2)) g6) _ _ _
    rw [b_59_70, rC_e h6.1.1.2.1.1.1.1 (by omega), grd_e, Option.bind_some]
    refine CR.seq (A := fun g => b_59_80 (some b) (some (b + 5 + 6 * X 2)) g) (B := fun g => b_59_78 g) (s_66 h6) (fun g => rfl) (fun g7 q7 X7 h7 => ?_)
    exact s_59e h7
theorem s_57 {h0 h : Hp} {b q : Nat} {X : Nat → Nat} (hW : WF X) (hS : LnS T sz lim h0 b h q X) : CR h0 b (f_57 (some b) h) (kinR T sz lim q X) (LnS T sz lim h0 b) okR := by
  obtain ⟨s1, s2, s3, s4⟩ := id hS
  have n1 := s2.1
  have bb := s3.2.2.1
  have w : ∀ k, k < 26 → f_120 (some 31) (some k) h = some (bI (isW T sz lim q k), h) := fun k hk => s_120 s1.1 s1.2.2.1 s1.2.2.2 hk
  have fin : ∀ o st, CR h0 b o st (LnS T sz lim h0 b) okR → CR h0 b (o.bind fun p => (grd (decide (p.1 = 0 ∨ p.1 = 1))).bind fun _ => some (p.1, p.2)) st (LnS T sz lim h0 b) okR := by
    intro o st hO
    obtain ⟨g, v, a1, a2, a3⟩ := hO
    refine ⟨g, v, ?_, a2, a3⟩
    rw [a1, Option.bind_some]
    dsimp only
    rw [grdB, Option.bind_some]
  unfold kinR
  rw [f_57, b_57_0, q50 n1, Option.bind_some, rC31 s1.1, grd_e, Option.bind_some, w 0 (by omega), Option.bind_some]
  dsimp only
  cases h0' : isW T sz lim q 0
  · rw [if_pos (show bI false = 0 from rfl), if_neg (by decide), b_57_18, q50 n1, Option.bind_some, rC31 s1.1, grd_e, Option.bind_some, w 1 (by omega), Option.bind_some]
    dsimp only
    cases h1 : isW T sz lim q 1
    · rw [if_pos (show bI false = 0 from rfl), if_neg (by decide), b_57_36, q50 n1, Option.bind_some, rC31 s1.1, grd_e, Option.bind_some, w 7 (by omega), Option.bind_some]
      dsimp only
      cases h2 : isW T sz lim q 7
      · rw [if_pos (show bI false = 0 from rfl), if_neg (by decide), b_57_54, q50 n1, Option.bind_some, rC31 s1.1, grd_e, Option.bind_some, w 8 (by omega), Option.bind_some]
        dsimp only
        cases h3 : isW T sz lim q 8
        · rw [if_pos (show bI false = 0 from rfl), if_neg (by decide), b_57_74]
          exact c_err s1 n1 s3 (by omega)
        · rw [if_neg (show ¬ bI true = 0 by decide), if_pos rfl, b_57_67, rC_e n1.1.1 (by omega), grd_e, Option.bind_some]
          exact fin _ _ (s_68 hW hS)
      · rw [if_neg (show ¬ bI true = 0 by decide), if_pos rfl, b_57_49, rC_e n1.1.1 (by omega), grd_e, Option.bind_some]
        exact fin _ _ (s_67 hW hS)
    · rw [if_neg (show ¬ bI true = 0 by decide), if_pos rfl, b_57_31, rC_e n1.1.1 (by omega), grd_e, Option.bind_some]
      exact fin _ _ (s_59 hW hS)
  · rw [if_neg (show ¬ bI true = 0 by decide), if_pos rfl, b_57_13, rC_e n1.1.1 (by omega), grd_e, Option.bind_some]
    exact fin _ _ (s_58 hW hS)
end HALL
