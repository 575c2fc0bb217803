/-! the class reads a door: its doorway, its hanging, its costs -/
section HDOOR2
variable {T : Nat → Nat} {sz lim : Nat}
theorem nI_gt0 {n : Nat} (hn : n < 2147483648) : ¬ nI n < 0 := fun z => absurd ((nI_ltI (a := n) (b := 0) hn (by omega)).1 z) (by omega)
theorem l_63 {h0 h : Hp} {b q d ln : Nat} {X : Nat → Nat} (hW : WF X) (s : DS T sz lim h0 h b q X (cellV X) d 9) (hx : dX X d ≤ 99) (hy : dYy X d ≤ 99) (ha : dAc X d ≤ 1) (h9 : hI h (b + 5 + 6 * d) 9 = nI ln) (hl : ln ≤ 3) : ∀ r i fl m, i + r = ln → l_63_4 (r + 1 + m) (some b) (some (b + 5 + 6 * d)) (bI fl) (nI i) h = some (nI (dwR X (dX X d) (dYy X d) (dAc X d) r i (if fl = true then 3 else 0)), h) := by
  obtain ⟨w0, w1, w2, w3, w4, w5, _⟩ := id hW
  have n1 := s.1.2.1.1
  have bb := s.1.2.2.1.2.2.1
  have g6 : gI 1 6 (some (b + 5 + 6 * d)) h = some (nI (dX X d)) := by rw [s.g (k := 6) (by omega) (by omega)]; exact congrArg (fun z => some (nI (X z))) (by omega)
  have g7 : gI 1 7 (some (b + 5 + 6 * d)) h = some (nI (dYy X d)) := by rw [s.g (k := 7) (by omega) (by omega)]; exact congrArg (fun z => some (nI (X z))) (by omega)
  have g8 : gI 1 8 (some (b + 5 + 6 * d)) h = some (nI (dAc X d)) := by rw [s.g (k := 8) (by omega) (by omega)]; exact congrArg (fun z => some (nI (X z))) (by omega)
  have g9 : gI 1 9 (some (b + 5 + 6 * d)) h = some (nI ln) := by rw [gI_e s.k.1, h9]
  intro r
  induction r with
  | zero =>
    intro i fl m hi
    rw [Nat.zero_add, Nat.add_comm 1 m, l_63_4, b_63_4, g9, Option.bind_some, if_pos (by rw [nI_leI (by omega) (by omega)]; omega), b_63_96]
    cases fl
    · rw [if_pos (show bI false = 0 from rfl), b_63_104, b_63_105]; rfl
    · rw [if_neg (show ¬ bI true = 0 by decide), b_63_100, b_63_105]; rfl
  | succ r ih =>
    intro i fl m hi
    have dx : dwx (dX X d) (dAc X d) i ≤ 120 := by unfold dwx; split <;> omega
    have dy : dwy (dYy X d) (dAc X d) i ≤ 120 := by unfold dwy; split <;> omega
    generalize hxx : dwx (dX X d) (dAc X d) i = xx at *
    generalize hyy : dwy (dYy X d) (dAc X d) i = yy at *
    have un : dwR X (dX X d) (dYy X d) (dAc X d) (r + 1) i (if fl = true then 3 else 0) = if xx < X 0 ∧ yy < X 1 ∧ X (10 + (10 * yy + xx)) = 1 then dwR X (dX X d) (dYy X d) (dAc X d) r (i + 1) (if 0 < X (210 + (10 * yy + xx)) then 3 else (if fl = true then 3 else 0)) else 2 := by
      rw [← hxx, ← hyy]; rfl
    have fin : ∀ x : Int32, f_50 (some (b + 1)) (nI xx) (nI yy) h = some (x, h) → b_63_56 (l_63_4 (r + 1 + m)) (some b) (some (b + 5 + 6 * d)) (bI fl) (nI i) x h = some (nI (dwR X (dX X d) (dYy X d) (dAc X d) (r + 1) i (if fl = true then 3 else 0)), h) := by
      intro x hx50
      rw [s_50c s.1.2.1 w0 w1 (by omega) (by omega)] at hx50
      have ex : x = if xx < X 0 ∧ yy < X 1 then nI (cellV X (10 * yy + xx)) else -1 := by injection hx50 with e; exact (congrArg (fun p : Int32 × Hp => p.1) e).symm
      rw [un, ex, b_63_56]
      have stp1 : ∀ v : Int32, (fl = true ∨ ¬ v < nI 10) → b_63_73 (l_63_4 (r + 1 + m)) (some b) (some (b + 5 + 6 * d)) (bI fl) (nI i) v h = some (nI (dwR X (dX X d) (dYy X d) (dAc X d) r (i + 1) 3), h) := by
        intro v hv
        have go : b_63_84 (l_63_4 (r + 1 + m)) (some b) (some (b + 5 + 6 * d)) (nI i) h = some (nI (dwR X (dX X d) (dYy X d) (dAc X d) r (i + 1) 3), h) := by
          rw [b_63_84, b_63_89, bnd_e, nI_add]
          exact ih (i + 1) true m (by omega)
        rw [b_63_73]
        cases fl
        · rw [if_neg (show ¬ ¬ bI false = 0 from fun z => z rfl), b_63_77, if_neg (hv.resolve_left (by decide))]
          exact go
        · rw [if_pos (show ¬ bI true = 0 by decide)]
          exact go
      by_cases c1 : xx < X 0 ∧ yy < X 1
      · have cl := cellV_le hW (c := 10 * yy + xx) (by omega)
        have wc := w5 (10 * yy + xx) (by omega)
        rw [if_pos c1]
        by_cases c2 : 0 < X (210 + (10 * yy + xx))
        · have e1 := hW.w1 (c := 10 * yy + xx) (by omega) c2
          have cv : cellV X (10 * yy + xx) = 9 + X (210 + (10 * yy + xx)) := if_pos c2
          rw [if_neg (nI_nn (by omega) (by omega) (by omega)), b_63_64, if_pos (by rw [nI_leI (by omega) (by omega)]; omega), if_pos ⟨c1.1, c1.2, e1⟩, if_pos c2]
          exact stp1 _ (Or.inr (by rw [nI_ltI (by omega) (by omega)]; omega))
        · have cv : cellV X (10 * yy + xx) = X (10 + (10 * yy + xx)) := if_neg c2
          by_cases c3 : X (10 + (10 * yy + xx)) = 1
          · rw [if_pos (by rw [cv, c3]), if_pos ⟨c1.1, c1.2, c3⟩, if_neg c2]
            cases fl
            · rw [b_63_73, if_neg (show ¬ ¬ bI false = 0 from fun z => z rfl), b_63_77, if_pos (by rw [nI_ltI (by omega) (by omega)]; omega), b_63_88, b_63_89, bnd_e, nI_add]
              exact ih (i + 1) false m (by omega)
            · exact stp1 _ (Or.inl rfl)
          · rw [if_neg (nI_nn (by omega) (by omega) (by omega)), b_63_64, if_neg (by rw [nI_leI (by omega) (by omega)]; omega), if_neg (fun z => c3 z.2.2), b_63_71]
      · rw [if_neg c1, if_neg (show ¬ (-1 : Int32) = nI 1 by decide), b_63_64, if_neg (show ¬ nI 10 ≤ (-1 : Int32) by decide), if_neg (fun z => c1 ⟨z.1, z.2.1⟩), b_63_71]
    rw [show r + 1 + 1 + m = (r + 1 + m) + 1 by omega, l_63_4, b_63_4, g9, Option.bind_some, if_neg (by rw [nI_leI (by omega) (by omega)]; omega), b_63_12, g8, Option.bind_some]
    have f50 := s_50c s.1.2.1 w0 w1 (show xx < 1000 by omega) (show yy < 1000 by omega)
    by_cases c : dAc X d = 0
    · have ex : dX X d + i = xx := by rw [← hxx]; unfold dwx; rw [if_pos c]
      have ey : dYy X d = yy := by rw [← hyy]; unfold dwy; rw [if_neg (by omega)]
      have F50 : f_50 (some (b + 1)) (nI (dX X d + i)) (nI (dYy X d)) h = some (if xx < X 0 ∧ yy < X 1 then nI (cellV X (10 * yy + xx)) else -1, h) := by rw [ex, ey]; exact f50
      rw [if_pos (by rw [c]; rfl), b_63_39, q51 n1, Option.bind_some, g6, Option.bind_some, g7, Option.bind_some, rC_e n1.2.1.1 (by omega), grd_e, Option.bind_some, nI_add, F50, Option.bind_some]
      exact fin _ f50
    · have ex : dX X d = xx := by rw [← hxx]; unfold dwx; rw [if_neg c]
      have ey : dYy X d + i = yy := by rw [← hyy]; unfold dwy; rw [if_pos (by omega)]
      have F50 : f_50 (some (b + 1)) (nI (dX X d)) (nI (dYy X d + i)) h = some (if xx < X 0 ∧ yy < X 1 then nI (cellV X (10 * yy + xx)) else -1, h) := by rw [ex, ey]; exact f50
      rw [if_neg (nI_n0 (by omega) c), b_63_19, q51 n1, Option.bind_some, g6, Option.bind_some, g7, Option.bind_some, rC_e n1.2.1.1 (by omega), grd_e, Option.bind_some, nI_add, F50, Option.bind_some]
      exact fin _ f50
/-- the doorway's cells are filled -/
theorem l_62 {h0 : Hp} {b q d : Nat} {X : Nat → Nat} (hz : DWz X d) (hW : WF X) : ∀ r i m h, i + r = dLn X d → DS T sz lim h0 h b q X (cellV (filX X (dX X d) (dYy X d) (dAc X d) (d + 1) i)) d 10 →
    ∃ g, l_62_46 (r + 1 + m) (some b) (some (b + 5 + 6 * d)) (nI i) h = b_62_120 (some b) g ∧ DS T sz lim h0 g b q X (cellV (FX X d)) d 10 := by
  obtain ⟨z1, z2, z3, z4, z5, z6⟩ := hz
  obtain ⟨w0, w1, _⟩ := hW
  intro r
  induction r with
  | zero =>
    intro i m h hi s
    have ei : i = dLn X d := by omega
    have g9 : gI 1 9 (some (b + 5 + 6 * d)) h = some (nI (dLn X d)) := by rw [s.g (k := 9) (by omega) (by omega)]; exact congrArg (fun z => some (nI (X z))) (by omega)
    refine ⟨h, ?_, ?_⟩
    · rw [Nat.zero_add, Nat.add_comm 1 m, l_62_46, b_62_46, g9, Option.bind_some, if_pos (by rw [nI_leI (by omega) (by omega)]; omega)]
    · rw [ei] at s
      exact s
  | succ r ih =>
    intro i m h hi s
    have n1 := s.1.2.1.1
    have n2 := s.1.2.1.2.1
    have bb := s.1.2.2.1.2.2.1
    have hd := s.2.1
    have hd9 := s.2.2.1
    have g6 : gI 1 6 (some (b + 5 + 6 * d)) h = some (nI (dX X d)) := by rw [s.g (k := 6) (by omega) (by omega)]; exact congrArg (fun z => some (nI (X z))) (by omega)
    have g7 : gI 1 7 (some (b + 5 + 6 * d)) h = some (nI (dYy X d)) := by rw [s.g (k := 7) (by omega) (by omega)]; exact congrArg (fun z => some (nI (X z))) (by omega)
    have g8 : gI 1 8 (some (b + 5 + 6 * d)) h = some (nI (dAc X d)) := by rw [s.g (k := 8) (by omega) (by omega)]; exact congrArg (fun z => some (nI (X z))) (by omega)
    have g9 : gI 1 9 (some (b + 5 + 6 * d)) h = some (nI (dLn X d)) := by rw [s.g (k := 9) (by omega) (by omega)]; exact congrArg (fun z => some (nI (X z))) (by omega)
    have zi := z6 i (by omega)
    have e := dwc_xy (X := X) (d := d) z3 i
    rw [e] at zi
    have lt : dwc X d i < 100 := by omega
    have fin : b_62_92 (l_62_46 (r + 1 + m)) (some b) (some (b + 5 + 6 * d)) (nI i) (nI (dwc X d i)) h = l_62_46 (r + 1 + m) (some b) (some (b + 5 + 6 * d)) (nI (i + 1)) (sI h (b + 2) (dwc X d i) (nI (10 + d))) := by
      rw [b_62_92, q51 n1, Option.bind_some, q40 n1, Option.bind_some, Option.bind_some, i4 n1, Option.bind_some, n2.2.2.1, hd, nI_add, wI_n n1.2.2.1.1 (by omega) n1.2.2.1.2 lt (by omega), Option.bind_some, bnd_e, nI_add]
    have s' : DS T sz lim h0 (sI h (b + 2) (dwc X d i) (nI (10 + d))) b q X (cellV (filX X (dX X d) (dYy X d) (dAc X d) (d + 1) (i + 1))) d 10 := by
      obtain ⟨⟨t1, t2, t3, t4⟩, s2, s3, s4, s5, s6⟩ := s
      obtain ⟨k1, k2, k3, k4, k5⟩ := id t2
      refine ⟨⟨t1.wsI (by omega), t2.up rfl rfl ⟨rfl, rfl, rfl⟩ (Ab.wsI (by omega)) rfl ?_ ?_ ?_ (fun _ _ => rfl), t3.wsI (by omega), t4⟩, s2, s3, s4.cg (Ab.wsI (by omega)) ⟨rfl, fun _ _ _ => rfl⟩, fun _ => ?_, fun _ => ?_⟩
      · rw [hI_sI, hI_sI, hI_sI, hI_sI, hI_sI, hI_sI, if_neg (by omega), if_neg (by omega), if_neg (by omega), if_neg (by omega), if_neg (by omega), if_neg (by omega)]
        exact k2
      · intro c hc
        have lti : ∀ j, j < i + 1 → dwx (dX X d) (dAc X d) j < 10 ∧ dwy (dYy X d) (dAc X d) j < 10 := fun j hj => by have := z6 j (by omega); omega
        have u1 : filX X (dX X d) (dYy X d) (dAc X d) (d + 1) (i + 1) (10 + c) = X (10 + c) := filX_n _ lti _ (by omega)
        have u2 : filX X (dX X d) (dYy X d) (dAc X d) (d + 1) i (10 + c) = X (10 + c) := filX_n _ (fun j hj => lti j (by omega)) _ (by omega)
        have u3 : filX X (dX X d) (dYy X d) (dAc X d) (d + 1) (i + 1) (210 + c) = if c = dwc X d i then d + 1 else filX X (dX X d) (dYy X d) (dAc X d) (d + 1) i (210 + c) := by
          show upX _ (210 + (10 * dwy (dYy X d) (dAc X d) i + dwx (dX X d) (dAc X d) i)) _ (210 + c) = _
          rw [e, upX_e]
          by_cases ec : c = dwc X d i
          · rw [if_pos (by omega), if_pos ec]
          · rw [if_neg (by omega), if_neg ec]
        have kc := k3 c hc
        unfold cellV at kc ⊢
        rw [u2] at kc
        rw [u1, u3, hI_sI]
        by_cases ec : c = dwc X d i
        · rw [if_pos ⟨rfl, ec⟩, if_pos ec, if_pos (by omega)]
          exact congrArg nI (by omega)
        · rw [if_neg (fun z => ec z.2), if_neg ec]; exact kc
      · intro k hk
        rw [hI_sI, if_neg (by omega)]
        exact k5 k hk
      · rw [hI_sI, if_neg (by omega)]; exact s5 (by omega)
      · rw [hI_sI, if_neg (by omega)]; exact s6 (by omega)
    obtain ⟨g, a1, a2⟩ := ih (i + 1) m _ (by omega) s'
    refine ⟨g, ?_, a2⟩
    rw [← a1, ← fin, show r + 1 + 1 + m = (r + 1 + m) + 1 by omega, l_62_46, b_62_46, g9, Option.bind_some, if_neg (by rw [nI_leI (by omega) (by omega)]; omega), b_62_54, g8, Option.bind_some]
    unfold dwc
    by_cases c : dAc X d = 0
    · rw [if_pos (by rw [c]; rfl), if_pos c, b_62_78, g7, Option.bind_some, g6, Option.bind_some, pk_mul, nI_add, nI_add]
    · rw [if_neg (nI_n0 (by omega) c), if_neg c, b_62_61, g7, Option.bind_some, g6, Option.bind_some, nI_add, pk_mul, nI_add]
def BD (X : Nat → Nat) (d : Nat) : Prop := ∀ i, i < dLn X d → dwx (dX X d) (dAc X d) i < 10 ∧ dwy (dYy X d) (dAc X d) i < 10
theorem BD.up {X : Nat → Nat} {d k v : Nat} (hb : BD X d) (hk : 114 + 10 * d ≤ k) : BD (upX X k v) d := by
  have e0 : dX (upX X k v) d = dX X d := upX_n (by omega)
  have e1 : dYy (upX X k v) d = dYy X d := upX_n (by omega)
  have e2 : dAc (upX X k v) d = dAc X d := upX_n (by omega)
  have e3 : dLn (upX X k v) d = dLn X d := upX_n (by omega)
  unfold BD
  rw [e0, e1, e2, e3]
  exact hb
def S62 (T : Nat → Nat) (sz lim : Nat) (h0 : Hp) (b d : Nat) (g : Hp) (q : Nat) (X : Nat → Nat) : Prop := DS T sz lim h0 g b q X (cellV (FX X d)) d 10 ∧ BD X d
theorem s_62 {h0 h : Hp} {b q d : Nat} {X : Nat → Nat} (hS : S61 T sz lim h0 b d h q X) : CR h0 b (f_62 (some b) (some (b + 5 + 6 * d)) h) (dorL T sz lim q X d) (S62 T sz lim h0 b d) (fun q X => dorH T sz lim q X d) := by
  obtain ⟨s, hW, hx0, hy0, ha⟩ := hS
  have hx : dX X d ≤ 99 := by have := hW.1; omega
  have hy : dYy X d ≤ 99 := by have := hW.2.1; omega
  have n1 := s.1.2.1.1
  have hd := s.2.1
  have hd9 := s.2.2.1
  have bb := s.1.2.2.1.2.2.1
  rw [f_62, b_62_0, q50 n1, Option.bind_some]
  unfold dorL
  refine k_num (A := fun g => b_62_14 (some b) (some (b + 5 + 6 * d)) g) (B := fun g => b_62_12 g) s.1 (by omega) (a := 1) (z := 3) rfl rfl (by omega) (by omega) (fun g => rfl) (fun c v => ?_) (fun c => by rw [c]; rfl)
  have k1 := nmB_k c
  rw [c, if_pos rfl]
  show CR h0 b (b_62_14 (some b) (some (b + 5 + 6 * d)) h) _ _ _
  rw [b_62_14, q50 n1, Option.bind_some, gI31 s.1.1.1, Option.bind_some, v, pI_e s.k.1 s.k.2, Option.bind_some]
  generalize hv : tkV T sz lim q = w at *
  have t := ds_w (v := w) (Z' := cellV (upX X (113 + 10 * d) w)) s (by omega) (by omega) (fun c hc => cellV_up hc (by omega))
  rw [show 104 + 9 + 10 * d = 113 + 10 * d by omega] at t
  have e9 : hI (sI h (b + 5 + 6 * d) 9 (nI w)) (b + 5 + 6 * d) 9 = nI w := by rw [hI_sI]; exact if_pos ⟨rfl, rfl⟩
  have sc : DS T sz lim h0 (sI h (b + 5 + 6 * d) 9 (nI w)) b q X (cellV X) d 9 := by
    obtain ⟨s1, s2, s3, ⟨d1, d2, d3⟩, s5, s6⟩ := s
    refine ⟨s1.wp (by omega), s2, s3, ⟨?_, d2, fun k h1 h2 => ?_⟩, fun _ => ?_, fun _ => ?_⟩
    · unfold SD at *
      refine ⟨d1.1, d1.2.1, fun j => ?_⟩
      rw [hI_sI, if_neg (by omega)]
      exact d1.2.2 j
    · rw [hI_sI, if_neg (by omega)]; exact d3 k h1 h2
    · rw [hI_sI, if_neg (by omega)]; exact s5 (by omega)
    · rw [hI_sI, if_neg (by omega)]; exact s6 (by omega)
  generalize sI h (b + 5 + 6 * d) 9 (nI w) = g1 at *
  have f63 : f_63 (some b) (some (b + 5 + 6 * d)) g1 = some (nI (dwR X (dX X d) (dYy X d) (dAc X d) w 0 0), g1) := by
    obtain ⟨m, hm⟩ := FU_ge (w + 1) (by omega)
    rw [f_63, b_63_0, bnd_e, bnd_e, hm]
    exact l_63 hW sc hx hy ha e9 (by omega) w 0 false m (by omega)
  have dl := dwR_le (X := X) (x := dX X d) (y := dYy X d) (ac := dAc X d) w 0 0 (by omega)
  rw [rC_e t.1.2.1.1.1.1 (by omega), grd_e, Option.bind_some, f63, Option.bind_some, bnd_e]
  dsimp only
  by_cases c0 : dwR X (dX X d) (dYy X d) (dAc X d) w 0 0 = 0
  · have d0 := (dwR_0 _ _ _ c0).2
    have dz : DWz (upX X (113 + 10 * d) w) d := by
      have e0 : dX (upX X (113 + 10 * d) w) d = dX X d := upX_n (by omega)
      have e1 : dYy (upX X (113 + 10 * d) w) d = dYy X d := upX_n (by omega)
      have e2 : dAc (upX X (113 + 10 * d) w) d = dAc X d := upX_n (by omega)
      have e3 : dLn (upX X (113 + 10 * d) w) d = w := upX_i _ _ _
      unfold DWz
      rw [e0, e1, e2, e3, upX_n (show 0 ≠ 113 + 10 * d by omega), upX_n (show 1 ≠ 113 + 10 * d by omega)]
      refine ⟨hx0, hy0, ha, by omega, by omega, fun i hi => ?_⟩
      have := d0 i (by omega) (by omega)
      have a0 := hW.1
      have a1 := hW.2.1
      rw [upX_n (by omega), upX_n (by omega)]
      exact this
    have hW1 : WF (upX X (113 + 10 * d) w) := hW.up hd hd9 (by omega)
    have el : dLn (upX X (113 + 10 * d) w) d = w := upX_i _ _ _
    rw [if_pos (by rw [c0]; rfl), if_pos c0]
    have bd : BD (upX X (113 + 10 * d) w) d := fun i hi => by have := dz.2.2.2.2.2 i hi; have a0 := hW1.1; have a1 := hW1.2.1; omega
    generalize upX X (113 + 10 * d) w = Y at *
    obtain ⟨m, hm⟩ := FU_ge (w + 1) (by omega)
    obtain ⟨g2, a1, a2⟩ := l_62 (h0 := h0) (b := b) (q := q) dz hW1 w 0 m g1 (by omega) t
    obtain ⟨g3, b1, b2⟩ := ds_step a2
    refine ⟨g3, true, ?_, fun z => (by cases z), fun _ => ⟨_, _, rfl, b2, bd⟩⟩
    rw [b_62_44, bnd_e, hm, a1, b_62_120, q50 a2.1.2.1.1, Option.bind_some, rC31 a2.1.1.1, grd_e, Option.bind_some, b1, Option.bind_some, grd1, Option.bind_some]
    rfl
  · rw [if_neg (nI_n0 (by omega) c0), if_neg c0, b_62_35]
    exact c_err sc.1.1 sc.1.2.1.1 sc.1.2.2.1 (by omega)
/-- told hangings: t those told -/
def DTt (T : Nat → Nat) (sz lim : Nat) (h0 h : Hp) (b q : Nat) (X Z : Nat → Nat) (d t : Nat) : Prop := CS T sz lim h0 h b q X Z (d + 1) ∧ X 2 = d ∧ d < 10 ∧ DP h (b + 5 + 6 * d) X d 11 ∧ hI h (b + 5 + 6 * d) 11 = nI t ∧ hI h (b + 5 + 6 * d) 12 = nI 1
theorem DTt.fz {h0 h g : Hp} {b q q' d t : Nat} {X Z : Nat → Nat} {Y : List Nat} (s : DTt T sz lim h0 h b q X Z d t) (hT : CT g T sz lim q') (hz : Fz Y h g) (hY : ∀ z, z ∈ Y → z % 1000000 < 98) (hY2 : ∀ z, z ∈ Y → z ∈ Zs) : DTt T sz lim h0 g b q' X Z d t := by
  obtain ⟨s1, s2, s3, s4, s5, s6⟩ := s
  have bb := s1.2.2.1.2.2.1
  have ab := hz.ab (P := fun a => b + 5 + 6 * d ≤ a ∧ a < b + 5 + 6 * d + 6) hY (fun a ha => by omega)
  refine ⟨s1.fz hT hz hY hY2, s2, s3, s4.cg ab ⟨rfl, fun _ _ _ => rfl⟩, ?_, ?_⟩
  · rw [(ab (b + 5 + 6 * d) (by omega)).2.2.1]; exact s5
  · rw [(ab (b + 5 + 6 * d) (by omega)).2.2.1]; exact s6
theorem s_65 {h0 h : Hp} {b q d t : Nat} {X Z : Nat → Nat} {st : RsT} {nx : Nat → (Nat → Nat) → RsT} (s : DTt T sz lim h0 h b q X Z d t) (ht : t < 16) (hf : nmB T sz lim q 0 3 = false → st = erA T sz lim (nmF T sz lim q) q) (hb : nmB T sz lim q 0 3 = true → t.testBit (tkV T sz lim q) = true → st = erA T sz lim 3 q) (ho : nmB T sz lim q 0 3 = true → t.testBit (tkV T sz lim q) = false → st = nx (tkN T sz lim q) X) :
    CR h0 b (f_65 (some b) (some (b + 5 + 6 * d)) h) st (fun g q' X' => nmB T sz lim q 0 3 = true ∧ t.testBit (tkV T sz lim q) = false ∧ q' = tkN T sz lim q ∧ X' = X ∧ DTt T sz lim h0 g b q' X Z d (t ||| 2 ^ tkV T sz lim q)) nx := by
  have n1 := s.1.2.1.1
  have bb := s.1.2.2.1.2.2.1
  have hd := s.2.1
  have kp : hK h (b + 5 + 6 * d) = 1 := s.2.2.2.1.1.1.1
  have hd9 := s.2.2.1
  rw [f_65, b_65_0, q50 n1, Option.bind_some]
  refine k_num (A := fun g => b_65_14 (some b) (some (b + 5 + 6 * d)) g) (B := fun g => b_65_12 g) s.1 (by omega) (a := 0) (z := 3) rfl rfl (by omega) (by omega) (fun g => rfl) (fun c v => ?_) hf
  have k1 := nmB_k c
  show CR h0 b (b_65_14 (some b) (some (b + 5 + 6 * d)) h) _ _ _
  have e8 : f_8 (some (b + 5 + 6 * d)) (nI (tkV T sz lim q)) h = some (bI (t.testBit (tkV T sz lim q)), h) := by
    rw [f_8, b_8_0, gI_e kp, Option.bind_some, s.2.2.2.2.1]
    cases c8 : t.testBit (tkV T sz lim q)
    · rw [if_pos (by rw [nI_hasP (by omega) (by omega), c8]; decide), b_8_16, b_8_17, grd0, Option.bind_some]; rfl
    · rw [if_neg (by rw [nI_hasP (by omega) (by omega), c8]; exact fun z => z rfl), b_8_12, b_8_17, grd1, Option.bind_some]; rfl
  rw [b_65_14, q50 n1, Option.bind_some, gI31 s.1.1.1, Option.bind_some, v, rC_e kp (by omega), grd_e, Option.bind_some, e8, Option.bind_some]
  dsimp only
  cases c8 : t.testBit (tkV T sz lim q)
  · rw [if_pos (show bI false = 0 from rfl), b_65_37, gI_e kp, Option.bind_some, s.2.2.2.2.1, q50 n1, Option.bind_some, gI31 s.1.1.1, Option.bind_some, v, nI_1shl (by omega), fa_or, pI_e kp (by omega), Option.bind_some]
    generalize hg : t ||| 2 ^ tkV T sz lim q = t' at *
    have D1 : DTt T sz lim h0 (sI h (b + 5 + 6 * d) 11 (nI t')) b q X Z d t' := by
      obtain ⟨s1, s2, s3, ⟨d1, d2, d3⟩, s5, s6⟩ := s
      refine ⟨s1.wp (by omega), s2, s3, ⟨?_, d2, fun k h1 h2 => ?_⟩, ?_, ?_⟩
      · unfold SD at *
        refine ⟨d1.1, d1.2.1, fun j => ?_⟩
        rw [hI_sI, if_neg (by omega)]
        exact d1.2.2 j
      · rw [hI_sI, if_neg (by omega)]; exact d3 k h1 h2
      · rw [hI_sI]; exact if_pos ⟨rfl, rfl⟩
      · rw [hI_sI, if_neg (by omega)]; exact s6
    generalize sI h (b + 5 + 6 * d) 11 (nI t') = g1 at *
    obtain ⟨g2, a1, a2, a3⟩ := c_step D1.1.1
    refine ⟨g2, true, ?_, fun z => (by cases z), fun _ => ⟨_, _, ho c c8, c, rfl, rfl, rfl, D1.fz a3 a2 (by decide) (by decide)⟩⟩
    rw [q50 D1.1.2.1.1, Option.bind_some, rC31 D1.1.1.1, grd_e, Option.bind_some, a1, Option.bind_some, grd1, Option.bind_some]
    rfl
  · rw [if_neg (show ¬ bI true = 0 by decide), b_65_28, hb c c8]
    exact c_err s.1.1 n1 s.1.2.2.1 (by omega)
theorem DS.tt {h0 h : Hp} {b q d : Nat} {X Z : Nat → Nat} (s : DS T sz lim h0 h b q X Z d 11) : DTt T sz lim h0 h b q X Z d 0 := by
  obtain ⟨s1, s2, s3, s4, s5, s6⟩ := s
  exact ⟨s1, s2, s3, s4, s5 (by omega), s6 (by omega)⟩
theorem DTt.xp {h0 h : Hp} {b q d t v : Nat} {X Z Z' : Nat → Nat} (s : DTt T sz lim h0 h b q X Z d t) (hZ : ∀ c, c < 100 → Z' c = Z c) : DTt T sz lim h0 h b q (upX X (115 + 10 * d) v) Z' d t := by
  obtain ⟨s1, s2, s3, s4, s5, s6⟩ := s
  exact ⟨s1.xp (by omega) hZ, (upX_n (by omega)).trans s2, s3, s4.cg (fun a _ => ⟨rfl, rfl, rfl, rfl, rfl⟩) ⟨upX_n (by omega), fun k h1 h2 => upX_n (by omega)⟩, s5, s6⟩
def S64 (T : Nat → Nat) (sz lim : Nat) (h0 : Hp) (b d : Nat) (g : Hp) (q : Nat) (X : Nat → Nat) : Prop := DS T sz lim h0 g b q X (cellV (FX X d)) d 12 ∧ BD X d
theorem DTt.s64 {h0 h : Hp} {b q d : Nat} {X : Nat → Nat} (s : DTt T sz lim h0 h b q X (cellV (FX X d)) d (dTd X d)) (hb : BD X d) : S64 T sz lim h0 b d h q X := by
  obtain ⟨s1, s2, s3, ⟨d1, d2, d3⟩, s5, s6⟩ := s
  refine ⟨⟨s1, s2, s3, ⟨d1, d2, fun k h1 h2 => ?_⟩, fun z => absurd z (by omega), fun _ => s6⟩, hb⟩
  by_cases c : k = 11
  · subst c; exact s5
  · exact d3 k h1 (by omega)
theorem l_64 {h0 : Hp} {b d : Nat} : ∀ r i q X m h, i + r = 4 → DTt T sz lim h0 h b q X (cellV (FX X d)) d (dTd X d) → dTd X d < 16 → BD X d → CR h0 b (l_64_23 (r + 1 + m) (some b) (some (b + 5 + 6 * d)) (nI i) h) (dorT T sz lim d r q X) (S64 T sz lim h0 b d) (fun q X => dorC T sz lim q X d) := by
  intro r
  induction r with
  | zero =>
    intro i q X m h hi s ht hb
    refine ⟨h, true, ?_, fun z => (by cases z), fun _ => ⟨q, X, rfl, s.s64 hb⟩⟩
    rw [Nat.zero_add, Nat.add_comm 1 m, l_64_23, b_64_23, if_pos (by rw [nI_leI (by omega) (by omega)]; omega), b_64_57, grd1, Option.bind_some]
    rfl
  | succ r ih =>
    intro i q X m h hi s ht hb
    have n1 := s.1.2.1.1
    have bb := s.1.2.2.1.2.2.1
    have hd9 := s.2.2.1
    obtain ⟨g, a1, a2, a3⟩ := s_122 (k := 4) s.1.1 (by omega)
    rw [show r + 1 + 1 + m = (r + 1 + m) + 1 by omega, l_64_23, b_64_23, if_neg (by rw [nI_leI (by omega) (by omega)]; omega), b_64_28, q50 n1, Option.bind_some, rC31 s.1.1.1, grd_e, Option.bind_some, a1, Option.bind_some]
    dsimp only
    show CR h0 b _ (if isW T sz lim q 4 = true then _ else _) _ _
    cases hw : isW T sz lim q 4
    · rw [hw, if_neg (by decide)] at a3
      have s' := s.fz a3 a2 (by decide) (by decide)
      rw [if_pos (show bI false = 0 from rfl), if_neg (by decide), b_64_57]
      exact ⟨g, true, by rw [grd1, Option.bind_some]; rfl, fun z => (by cases z), fun _ => ⟨q, X, rfl, s'.s64 hb⟩⟩
    · rw [hw, if_pos rfl] at a3
      have s' := s.fz a3 a2 (by decide) (by decide)
      rw [if_neg (show ¬ bI true = 0 by decide), if_pos rfl, b_64_41, rC_e s'.1.2.1.1.1.1 (by omega), grd_e, Option.bind_some]
      generalize tkN T sz lim q = q1 at *
      refine CR.seq (A := fun g => b_64_51 (l_64_23 (r + 1 + m)) (some b) (some (b + 5 + 6 * d)) (nI i) g) (B := fun g => b_64_49 g) (s_65 (nx := fun q' X' => dorT T sz lim d r q' (upX X' (115 + 10 * d) (dTd X d ||| 2 ^ tkV T sz lim q1))) s' ht (fun c => by rw [c]; rfl) (fun c c2 => by rw [c, if_pos rfl, c2]; rfl) (fun c c2 => by rw [c, if_pos rfl, c2]; rfl)) (fun g => rfl) (fun g2 q' X' hs => ?_)
      obtain ⟨k1, k2, e1, e2, k3⟩ := hs
      subst e1 e2
      have nk := nmB_k k1
      have bu := bc4_up _ ht _ (show tkV T sz lim q1 < 4 by omega) k2
      show CR h0 b (b_64_51 (l_64_23 (r + 1 + m)) (some b) (some (b + 5 + 6 * d)) (nI i) g2) _ _ _
      rw [b_64_51, bnd_e, nI_add]
      have td : dTd (upX X' (115 + 10 * d) (dTd X' d ||| 2 ^ tkV T sz lim q1)) d = dTd X' d ||| 2 ^ tkV T sz lim q1 := upX_i _ _ _
      refine ih (i + 1) _ _ m g2 (by omega) ?_ (by rw [td]; exact bu.2) (hb.up (by omega))
      rw [td]
      exact k3.xp (fun c hc => FX_up hc (by omega) (by omega))
theorem s_64 {h0 h : Hp} {b q d : Nat} {X : Nat → Nat} (s : S62 T sz lim h0 b d h q X) : CR h0 b (f_64 (some b) (some (b + 5 + 6 * d)) h) (dorH T sz lim q X d) (S64 T sz lim h0 b d) (fun q X => dorC T sz lim q X d) := by
  obtain ⟨s, hb⟩ := s
  have n1 := s.1.2.1.1
  have bb := s.1.2.2.1.2.2.1
  have hd := s.2.1
  have hd9 := s.2.2.1
  rw [f_64, b_64_0, q50 n1, Option.bind_some, gI31 s.1.1.1, Option.bind_some, pI_e s.k.1 s.k.2, Option.bind_some, rC_e (show hK (sI h (b + 5 + 6 * d) 10 _) b = 5 from n1.1.1) (by omega), grd_e, Option.bind_some]
  unfold dorH
  cases c : nmB T sz lim q 0 3
  · have ss : CS T sz lim h0 (sI h (b + 5 + 6 * d) 10 (hI h 31 4)) b q X (cellV (FX X d)) (d + 1) := s.1.wp (by omega)
    have er : CR h0 b (f_65 (some b) (some (b + 5 + 6 * d)) (sI h (b + 5 + 6 * d) 10 (hI h 31 4))) (erA T sz lim (nmF T sz lim q) q) (S64 T sz lim h0 b d) okR := by
      rw [f_65, b_65_0, q50 ss.2.1.1, Option.bind_some]
      exact k_num (A := fun g => b_65_14 (some b) (some (b + 5 + 6 * d)) g) (B := fun g => b_65_12 g) ss (by omega) (a := 0) (z := 3) rfl rfl (by omega) (by omega) (fun g => rfl) (fun z => by rw [c] at z; cases z) (fun _ => rfl)
    obtain ⟨g, w, a1, a2, a3⟩ := er
    rw [if_neg (by decide), a1, Option.bind_some]
    dsimp only
    cases w
    · rw [if_neg (show ¬ ¬ bI false = 0 from fun z => z rfl), b_64_19]
      exact ⟨g, false, by rw [grd0, Option.bind_some]; rfl, a2, fun z => (by cases z)⟩
    · obtain ⟨q', X', e, _⟩ := a3 rfl
      unfold erA okR at e
      cases e
  · have nk := nmB_k c
    have v4 : hI h 31 4 = nI (tkV T sz lim q) := s.1.1.2.2.1.2.2.2.2 nk.1
    rw [if_pos rfl, v4]
    have t := ds_w (v := tkV T sz lim q) (Z' := cellV (FX (upX X (114 + 10 * d) (tkV T sz lim q)) d)) s (by omega) (by omega) (fun c hc => FX_up hc (by omega) (by omega))
    rw [show 104 + 10 + 10 * d = 114 + 10 * d by omega] at t
    generalize sI h (b + 5 + 6 * d) 10 (nI (tkV T sz lim q)) = g1 at *
    have t0 := t.tt
    have hb1 : BD (upX X (114 + 10 * d) (tkV T sz lim q)) d := hb.up (by omega)
    generalize upX X (114 + 10 * d) (tkV T sz lim q) = Y at *
    refine CR.seq (A := fun g => b_64_21 (some b) (some (b + 5 + 6 * d)) g) (B := fun g => b_64_19 g) (s_65 (nx := fun q' X' => dorT T sz lim d 4 q' (upX X' (115 + 10 * d) (2 ^ tkV T sz lim q))) t0 (by omega) (fun z => by rw [c] at z; cases z) (fun _ z => by rw [Nat.zero_testBit] at z; cases z) (fun _ _ => rfl)) (fun g => rfl) (fun g2 q' X' hs => ?_)
    obtain ⟨k1, k2, e1, e2, k3⟩ := hs
    subst e1 e2
    rw [Nat.zero_or] at k3
    have b1 := bc4_1 _ (show tkV T sz lim q < 4 by omega)
    show CR h0 b (b_64_21 (some b) (some (b + 5 + 6 * d)) g2) _ _ _
    obtain ⟨m, hm⟩ := FU_ge (4 + 1) (by omega)
    rw [b_64_21, bnd_e, hm]
    have td : dTd (upX X' (115 + 10 * d) (2 ^ tkV T sz lim q)) d = 2 ^ tkV T sz lim q := upX_i _ _ _
    refine l_64 4 0 _ _ m g2 (by omega) ?_ (by rw [td]; exact b1.2) (hb1.up (by omega))
    rw [td]
    exact k3.xp (fun c hc => FX_up hc (by omega) (by omega))
def S66 (T : Nat → Nat) (sz lim : Nat) (h0 : Hp) (b d : Nat) (g : Hp) (q : Nat) (X : Nat → Nat) : Prop := DS T sz lim h0 g b q X (cellV (FX X d)) d 13 ∧ BD X d
theorem s_66 {h0 h : Hp} {b q d : Nat} {X : Nat → Nat} (s : S64 T sz lim h0 b d h q X) : CR h0 b (f_66 (some b) (some (b + 5 + 6 * d)) h) (dorC T sz lim q X d) (S66 T sz lim h0 b d) (fun q X => dorW T sz lim q X d) := by
  obtain ⟨s, hb⟩ := s
  have n1 := s.1.2.1.1
  have bb := s.1.2.2.1.2.2.1
  have hd := s.2.1
  have hd9 := s.2.2.1
  obtain ⟨g, a1, a2, a3⟩ := s_122 (k := 5) s.1.1 (by omega)
  rw [f_66, b_66_0, q50 n1, Option.bind_some, rC31 s.1.1.1, grd_e, Option.bind_some, a1, Option.bind_some]
  dsimp only
  unfold dorC
  cases hw : isW T sz lim q 5
  · rw [hw, if_neg (by decide)] at a3
    have s' := s.fz a3 a2 (by decide) (by decide)
    rw [if_neg (show ¬ ¬ bI false = 0 from fun z => z rfl), if_neg (by decide), b_66_13]
    refine ⟨g, true, by rw [grd1, Option.bind_some]; rfl, fun z => (by cases z), fun _ => ⟨_, _, rfl, ?_⟩⟩
    obtain ⟨s1, s2, s3, ⟨d1, d2, d3⟩, s5, s6⟩ := s'
    refine ⟨⟨s1.xp (by omega) (fun c hc => FX_up hc (by omega) (by omega)), (upX_n (by omega)).trans s2, s3, ⟨d1, by rw [upX_n (by omega)]; exact d2, fun k h1 h2 => ?_⟩, fun z => absurd z (by omega), fun z => absurd z (by omega)⟩, hb.up (by omega)⟩
    rw [upX_e]
    by_cases c : k = 12
    · rw [if_pos (by omega), c]; exact s6 (by omega)
    · rw [if_neg (by omega)]; exact d3 k h1 (by omega)
  · rw [hw, if_pos rfl] at a3
    have s' := s.fz a3 a2 (by decide) (by decide)
    rw [if_pos (show ¬ bI true = 0 by decide), if_pos rfl, b_66_15, q50 s'.1.2.1.1, Option.bind_some]
    generalize tkN T sz lim q = q1 at *
    refine k_num (A := fun g => b_66_30 (some b) (some (b + 5 + 6 * d)) g) (B := fun g => b_66_28 g) s'.1 (by omega) (a := 1) (z := 99) rfl rfl (by omega) (by omega) (fun g => rfl) (fun c v => ?_) (fun c => by rw [c]; rfl)
    have nk := nmB_k c
    rw [c, if_pos rfl]
    show CR h0 b (b_66_30 (some b) (some (b + 5 + 6 * d)) g) _ _ _
    have t := ds_w (v := tkV T sz lim q1) (Z' := cellV (FX (upX X (116 + 10 * d) (tkV T sz lim q1)) d)) s' (by omega) (by omega) (fun c hc => FX_up hc (by omega) (by omega))
    rw [show 104 + 12 + 10 * d = 116 + 10 * d by omega] at t
    rw [upX_tw, b_66_30, q50 s'.1.2.1.1, Option.bind_some, gI31 s'.1.1.1, Option.bind_some, v, pI_e s'.k.1 s'.k.2, Option.bind_some]
    obtain ⟨g2, b1, b2⟩ := ds_step t
    refine ⟨g2, true, ?_, fun z => (by cases z), fun _ => ⟨_, _, rfl, b2, hb.up (by omega)⟩⟩
    rw [q50 t.1.2.1.1, Option.bind_some, rC31 t.1.1.1, grd_e, Option.bind_some, b1, Option.bind_some, grd1, Option.bind_some]
    rfl
/-- a Door is made -/
theorem s_6 {h : Hp} (h30 : 30 ≤ hN h) : ∃ g, f_6 (some (hN h)) (hNew h 1 0 (bd_nf 1)) = some g ∧ SD g (hN h) ∧ hI g (hN h) 11 = nI 0 ∧ hI g (hN h) 12 = nI 1 ∧ Ab (fun a => a < hN h) h g ∧ hN g = hN h + 6 ∧ hC g = hC h + 6 ∧ hS g = hS h + 50 ∧ Fa [] h g := by
  generalize e0 : hNew h 1 0 (bd_nf 1) = g0
  generalize e1 : hNew g0 13 12 12 = g1
  generalize e2 : sQ g1 (hN h) 0 (some (hN g0)) = g2
  generalize e3 : hNew g2 13 12 12 = g3
  generalize e4 : sQ g3 (hN h) 1 (some (hN g2)) = g4
  generalize e5 : hNew g4 13 4 4 = g5
  generalize e6 : sQ g5 (hN h) 2 (some (hN g4)) = g6
  generalize e7 : hNew g6 13 4 4 = g7
  generalize e8 : sQ g7 (hN h) 3 (some (hN g6)) = g8
  generalize e9 : hNew g8 12 4 4 = g9
  generalize e10 : sQ g9 (hN h) 4 (some (hN g8)) = g10
  generalize e11 : sI g10 (hN h) 12 (nI 1) = g11
  have N0 : hN g0 = hN h + 1 := by rw [← e0, hN_new]
  have N2 : hN g2 = hN h + 2 := by rw [← e2, hN_sQ, ← e1, hN_new, N0]
  have N4 : hN g4 = hN h + 3 := by rw [← e4, hN_sQ, ← e3, hN_new, N2]
  have N6 : hN g6 = hN h + 4 := by rw [← e6, hN_sQ, ← e5, hN_new, N4]
  have N8 : hN g8 = hN h + 5 := by rw [← e8, hN_sQ, ← e7, hN_new, N6]
  have N11 : hN g11 = hN h + 6 := by rw [← e11, hN_sI, ← e10, hN_sQ, ← e9, hN_new, N8]
  have K0 : ∀ a, hK g0 a = if a = hN h then 1 else hK h a := fun a => by rw [← e0, hK_new]
  have K1 : ∀ a, hK g1 a = if a = hN h + 1 then 13 else hK g0 a := fun a => by rw [← e1, hK_new, N0]
  have K3 : ∀ a, hK g3 a = if a = hN h + 2 then 13 else hK g1 a := fun a => by rw [← e3, hK_new, N2, ← e2, hK_sQ]
  have K5 : ∀ a, hK g5 a = if a = hN h + 3 then 13 else hK g3 a := fun a => by rw [← e5, hK_new, N4, ← e4, hK_sQ]
  have K7 : ∀ a, hK g7 a = if a = hN h + 4 then 13 else hK g5 a := fun a => by rw [← e7, hK_new, N6, ← e6, hK_sQ]
  have K9 : ∀ a, hK g9 a = if a = hN h + 5 then 12 else hK g7 a := fun a => by rw [← e9, hK_new, N8, ← e8, hK_sQ]
  have K11 : ∀ a, hK g11 a = if a = hN h + 5 then 12 else if a = hN h + 4 then 13 else if a = hN h + 3 then 13 else if a = hN h + 2 then 13 else if a = hN h + 1 then 13 else if a = hN h then 1 else hK h a := fun a => by rw [← e11, hK_sI, ← e10, hK_sQ, K9, K7, K5, K3, K1, K0]
  have L11 : ∀ a, hL g11 a = if a = hN h + 5 then 4 else if a = hN h + 4 then 4 else if a = hN h + 3 then 4 else if a = hN h + 2 then 12 else if a = hN h + 1 then 12 else if a = hN h then 0 else hL h a := fun a => by
    rw [← e11, hL_sI, ← e10, hL_sQ, ← e9, hL_new, N8, ← e8, hL_sQ, ← e7, hL_new, N6, ← e6, hL_sQ, ← e5, hL_new, N4, ← e4, hL_sQ, ← e3, hL_new, N2, ← e2, hL_sQ, ← e1, hL_new, N0, ← e0, hL_new]
  have J11 : ∀ a, hJ g11 a = if a = hN h + 5 then (fun _ => 0) else if a = hN h + 4 then (fun _ => 0) else if a = hN h + 3 then (fun _ => 0) else if a = hN h + 2 then (fun _ => 0) else if a = hN h + 1 then (fun _ => 0) else if a = hN h then (fun _ => 0) else hJ h a := fun a => by
    rw [← e11, hJ_sI, ← e10, hJ_sQ, ← e9, hJ_new, N8, ← e8, hJ_sQ, ← e7, hJ_new, N6, ← e6, hJ_sQ, ← e5, hJ_new, N4, ← e4, hJ_sQ, ← e3, hJ_new, N2, ← e2, hJ_sQ, ← e1, hJ_new, N0, ← e0, hJ_new]
  have I10 : ∀ a, hI g10 a = if a = hN h + 5 then (fun _ => 0) else if a = hN h + 4 then (fun _ => 0) else if a = hN h + 3 then (fun _ => 0) else if a = hN h + 2 then (fun _ => 0) else if a = hN h + 1 then (fun _ => 0) else if a = hN h then (fun _ => 0) else hI h a := fun a => by
    rw [← e10, hI_sQ, ← e9, hI_new, N8, ← e8, hI_sQ, ← e7, hI_new, N6, ← e6, hI_sQ, ← e5, hI_new, N4, ← e4, hI_sQ, ← e3, hI_new, N2, ← e2, hI_sQ, ← e1, hI_new, N0, ← e0, hI_new]
  have qn : ∀ (g : Hp) (c n s p : Nat), p < hN g → hQ (hNew g c n s) p = hQ g p := fun g c n s p hp => by rw [hQ_new, if_neg (by omega)]
  have Q11 : ∀ p j, p ≤ hN h → hQ g11 p j = if p = hN h ∧ j = 4 then some (hN h + 5) else if p = hN h ∧ j = 3 then some (hN h + 4) else if p = hN h ∧ j = 2 then some (hN h + 3) else if p = hN h ∧ j = 1 then some (hN h + 2) else if p = hN h ∧ j = 0 then some (hN h + 1) else hQ g0 p j := fun p j hp => by
    rw [← e11, hQ_sI, ← e10, hQ_sQ, N8, ← e9, qn _ _ _ _ _ (by omega), ← e8, hQ_sQ, N6, ← e7, qn _ _ _ _ _ (by omega), ← e6, hQ_sQ, N4, ← e5, qn _ _ _ _ _ (by omega), ← e4, hQ_sQ, N2, ← e3, qn _ _ _ _ _ (by omega), ← e2, hQ_sQ, N0, ← e1, qn _ _ _ _ _ (by omega)]
  have k1 : hK g1 (hN h) = 1 := by rw [K1, if_neg (by omega), K0, if_pos rfl]
  have k3 : hK g3 (hN h) = 1 := by rw [K3, if_neg (by omega)]; exact k1
  have k5 : hK g5 (hN h) = 1 := by rw [K5, if_neg (by omega)]; exact k3
  have k7 : hK g7 (hN h) = 1 := by rw [K7, if_neg (by omega)]; exact k5
  have k9 : hK g9 (hN h) = 1 := by rw [K9, if_neg (by omega)]; exact k7
  have k10 : hK g10 (hN h) = 1 := by rw [← e10]; exact k9
  have f0 : Fa [] h g0 := by rw [← e0]; exact Fa.new
  have f2 : Fa [] h g2 := by rw [← e2]; exact (f0.then (by rw [← e1]; exact Fa.new)).sQ (Or.inr (Or.inr (Nat.le_refl _)))
  have f4 : Fa [] h g4 := by rw [← e4]; exact (f2.then (by rw [← e3]; exact Fa.new)).sQ (Or.inr (Or.inr (Nat.le_refl _)))
  have f6 : Fa [] h g6 := by rw [← e6]; exact (f4.then (by rw [← e5]; exact Fa.new)).sQ (Or.inr (Or.inr (Nat.le_refl _)))
  have f8 : Fa [] h g8 := by rw [← e8]; exact (f6.then (by rw [← e7]; exact Fa.new)).sQ (Or.inr (Or.inr (Nat.le_refl _)))
  have f10 : Fa [] h g10 := by rw [← e10]; exact (f8.then (by rw [← e9]; exact Fa.new)).sQ (Or.inr (Or.inr (Nat.le_refl _)))
  have f11 : Fa [] h g11 := by rw [← e11]; exact f10.sI (Or.inr (Or.inr (Nat.le_refl _)))
  have i12 : hI g11 (hN h) 12 = nI 1 := by rw [← e11, hI_sI]; exact if_pos ⟨rfl, rfl⟩
  have i11 : hI g11 (hN h) 11 = nI 0 := by rw [← e11, hI_sI, if_neg (by omega), I10, if_neg (by omega), if_neg (by omega), if_neg (by omega), if_neg (by omega), if_neg (by omega), if_pos rfl]; rfl
  refine ⟨g11, ?_, ⟨⟨?_, ?_, ?_, ?_, ?_, ?_⟩, ⟨⟨?_, ?_⟩, ⟨?_, ?_⟩, ⟨?_, ?_⟩, ⟨?_, ?_⟩, ?_, ?_⟩, fun j => ⟨?_, ?_, ?_, ?_, ?_⟩⟩, i11, i12, fun a ha => ⟨?_, ?_, ?_, ?_, ?_⟩, N11, ?_, ?_, f11⟩
  · have u1 : nA 13 (nI 12) g0 = some g1 := by rw [nA_e (by omega) (by omega), e1]
    have u3 : nA 13 (nI 12) g2 = some g3 := by rw [nA_e (by omega) (by omega), e3]
    have u5 : nA 13 (nI 4) g4 = some g5 := by rw [nA_e (by omega) (by omega), e5]
    have u7 : nA 13 (nI 4) g6 = some g7 := by rw [nA_e (by omega) (by omega), e7]
    have u9 : nA 12 (nI 4) g8 = some g9 := by rw [nA_e (by omega) (by omega), e9]
    have u2 : pQ 1 0 (some (hN h)) (some (hN g0)) g1 = some g2 := by rw [pQ_e k1 h30, e2]
    have u4 : pQ 1 1 (some (hN h)) (some (hN g2)) g3 = some g4 := by rw [pQ_e k3 h30, e4]
    have u6 : pQ 1 2 (some (hN h)) (some (hN g4)) g5 = some g6 := by rw [pQ_e k5 h30, e6]
    have u8 : pQ 1 3 (some (hN h)) (some (hN g6)) g7 = some g8 := by rw [pQ_e k7 h30, e8]
    have u10 : pQ 1 4 (some (hN h)) (some (hN g8)) g9 = some g10 := by rw [pQ_e k9 h30, e10]
    have u11 : pI 1 12 (some (hN h)) (nI 1) g10 = some g11 := by rw [pI_e k10 h30, e11]
    rw [f_6, b_6_0]
    simp only [Option.isSome_some, grd_e, Option.bind_some, u1, u2, u3, u4, u5, u6, u7, u8, u9, u10, u11]
  · rw [K11, if_neg (by omega), if_neg (by omega), if_neg (by omega), if_neg (by omega), if_neg (by omega), if_pos rfl]
  · rw [Q11 _ _ (Nat.le_refl _), if_neg (by omega), if_neg (by omega), if_neg (by omega), if_neg (by omega), if_pos ⟨rfl, rfl⟩]
  · rw [Q11 _ _ (Nat.le_refl _), if_neg (by omega), if_neg (by omega), if_neg (by omega), if_pos ⟨rfl, rfl⟩]
  · rw [Q11 _ _ (Nat.le_refl _), if_neg (by omega), if_neg (by omega), if_pos ⟨rfl, rfl⟩]
  · rw [Q11 _ _ (Nat.le_refl _), if_neg (by omega), if_pos ⟨rfl, rfl⟩]
  · rw [Q11 _ _ (Nat.le_refl _), if_pos ⟨rfl, rfl⟩]
  · rw [K11, if_neg (by omega), if_neg (by omega), if_neg (by omega), if_neg (by omega), if_pos rfl]
  · rw [L11, if_neg (by omega), if_neg (by omega), if_neg (by omega), if_neg (by omega), if_pos rfl]
  · rw [K11, if_neg (by omega), if_neg (by omega), if_neg (by omega), if_pos rfl]
  · rw [L11, if_neg (by omega), if_neg (by omega), if_neg (by omega), if_pos rfl]
  · rw [K11, if_neg (by omega), if_neg (by omega), if_pos rfl]
  · rw [L11, if_neg (by omega), if_neg (by omega), if_pos rfl]
  · rw [K11, if_neg (by omega), if_pos rfl]
  · rw [L11, if_neg (by omega), if_pos rfl]
  · rw [K11, if_pos rfl]
  · rw [L11, if_pos rfl]
  · rw [J11, if_neg (by omega), if_neg (by omega), if_neg (by omega), if_neg (by omega), if_pos rfl]
  · rw [J11, if_neg (by omega), if_neg (by omega), if_neg (by omega), if_pos rfl]
  · rw [J11, if_neg (by omega), if_neg (by omega), if_pos rfl]
  · rw [J11, if_neg (by omega), if_pos rfl]
  · rw [← e11, hI_sI, if_neg (by omega), I10, if_pos rfl]
  · rw [K11, if_neg (by omega), if_neg (by omega), if_neg (by omega), if_neg (by omega), if_neg (by omega), if_neg (by omega)]
  · rw [L11, if_neg (by omega), if_neg (by omega), if_neg (by omega), if_neg (by omega), if_neg (by omega), if_neg (by omega)]
  · funext j
    rw [← e11, hI_sI, if_neg (by omega), I10, if_neg (by omega), if_neg (by omega), if_neg (by omega), if_neg (by omega), if_neg (by omega), if_neg (by omega)]
  · rw [J11, if_neg (by omega), if_neg (by omega), if_neg (by omega), if_neg (by omega), if_neg (by omega), if_neg (by omega)]
  · funext j
    rw [Q11 _ _ (by omega), if_neg (by omega), if_neg (by omega), if_neg (by omega), if_neg (by omega), if_neg (by omega), ← e0, hQ_new, if_neg (by omega)]
  · rw [← e11, hC_sI, ← e10, hC_sQ, ← e9, hC_new, ← e8, hC_sQ, ← e7, hC_new, ← e6, hC_sQ, ← e5, hC_new, ← e4, hC_sQ, ← e3, hC_new, ← e2, hC_sQ, ← e1, hC_new, ← e0, hC_new]
  · rw [← e11, hS_sI, ← e10, hS_sQ, ← e9, hS_new, ← e8, hS_sQ, ← e7, hS_new, ← e6, hS_sQ, ← e5, hS_new, ← e4, hS_sQ, ← e3, hS_new, ← e2, hS_sQ, ← e1, hS_new, ← e0, hS_new]
    rfl
end HDOOR2
