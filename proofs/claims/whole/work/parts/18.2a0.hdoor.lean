/-! the class reads a door -/
theorem wQ_d {h : Hp} {a i p : Nat} (hk : hK h a = 16) (ha : 30 ≤ a) (hl : hL h a = 10) (hi : i < 10) (hp : 30 ≤ p) (hkp : hK h p = 1) : wQ (some a) (nI i) (some p) h = some (sQ h a i (some p)) := by
  unfold wQ
  dsimp only
  rw [if_pos ⟨by omega, by omega, ha, bd_in_nI (by omega) (by omega), hp, by rw [hkp, hk]; rfl⟩, nI_clamp (by omega)]
theorem upX_tw (X : Nat → Nat) (i a v : Nat) : upX (upX X i a) i v = upX X i v := funext fun j => by
  rw [upX_e]
  by_cases c : j = i
  · rw [if_pos c, c, upX_i]
  · rw [if_neg c, upX_n c, upX_n c]
theorem upX_cm {X : Nat → Nat} {i j a v : Nat} (hj : i ≠ j) : upX (upX X i a) j v = upX (upX X j v) i a := funext fun k => by
  rw [upX_e, upX_e, upX_e, upX_e]
  by_cases c : k = j
  · rw [if_pos c, if_neg (by omega), if_pos c]
  · rw [if_neg c, if_neg c]
theorem filX_up {X : Nat → Nat} {x y ac w k v : Nat} (hk : k < 210) : ∀ n, filX (upX X k v) x y ac w n = upX (filX X x y ac w n) k v := by
  intro n
  induction n with
  | zero => rfl
  | succ n ih =>
    show upX (filX (upX X k v) x y ac w n) _ _ = upX (upX (filX X x y ac w n) _ _) k v
    rw [ih, upX_cm (by omega)]
def FX (X : Nat → Nat) (d : Nat) : Nat → Nat := filX X (dX X d) (dYy X d) (dAc X d) (d + 1) (dLn X d)
theorem FX_up {X : Nat → Nat} {d k v c : Nat} (hc : c < 100) (hk : 114 + 10 * d ≤ k) (hk2 : k < 210) : cellV (FX (upX X k v) d) c = cellV (FX X d) c := by
  unfold FX
  have e0 : dX (upX X k v) d = dX X d := upX_n (by omega)
  have e1 : dYy (upX X k v) d = dYy X d := upX_n (by omega)
  have e2 : dAc (upX X k v) d = dAc X d := upX_n (by omega)
  have e3 : dLn (upX X k v) d = dLn X d := upX_n (by omega)
  rw [e0, e1, e2, e3, filX_up hk2, cellV_up hc (by omega)]
theorem CN.z {h : Hp} {b : Nat} {X Z Z' : Nat → Nat} (hC : CN h b X Z) (e : ∀ c, c < 100 → Z' c = Z c) : CN h b X Z' := by
  obtain ⟨n1, n2, n3, n4, n5⟩ := hC
  exact ⟨n1, n2, fun c hc => by rw [e c hc]; exact n3 c hc, n4, n5⟩
section HDOOR
variable {T : Nat → Nat} {sz lim : Nat}
theorem CR.seq {h0 : Hp} {b : Nat} {o : Option (Int32 × Hp)} {st : RsT} {S1 S2 : Hp → Nat → (Nat → Nat) → Prop} {n1 n2 : Nat → (Nat → Nat) → RsT} {A B : Hp → Option (Int32 × Hp)} (h1 : CR h0 b o st S1 n1) (hB : ∀ g, B g = some (nI 0, g)) (hA : ∀ g q X, S1 g q X → CR h0 b (A g) (n1 q X) S2 n2) : CR h0 b (o.bind fun p => if ¬ p.1 = 0 then A p.2 else B p.2) st S2 n2 := by
  obtain ⟨g, w, a1, a2, a3⟩ := h1
  rw [a1, Option.bind_some]
  dsimp only
  cases w
  · rw [if_neg (show ¬ ¬ bI false = 0 from fun z => z rfl), hB]
    exact ⟨g, false, rfl, a2, fun z => (by cases z)⟩
  · obtain ⟨q, X, e, s⟩ := a3 rfl
    rw [if_pos (show ¬ bI true = 0 by decide), e]
    exact hA g q X s
theorem CR.seq' {h0 : Hp} {b : Nat} {o : Option (Int32 × Hp)} {st : RsT} {S1 S2 : Hp → Nat → (Nat → Nat) → Prop} {n1 n2 : Nat → (Nat → Nat) → RsT} {A B : Hp → Option (Int32 × Hp)} (h1 : CR h0 b o st S1 n1) (hB : ∀ g, B g = some (nI 0, g)) (hA : ∀ g q X, S1 g q X → CR h0 b (A g) (n1 q X) S2 n2) : CR h0 b (o.bind fun p => if p.1 = 0 then B p.2 else A p.2) st S2 n2 := by
  obtain ⟨g, w, a1, a2, a3⟩ := h1
  rw [a1, Option.bind_some]
  dsimp only
  cases w
  · rw [if_pos (show bI false = 0 from rfl), hB]
    exact ⟨g, false, rfl, a2, fun z => (by cases z)⟩
  · obtain ⟨q, X, e, s⟩ := a3 rfl
    rw [if_neg (show ¬ bI true = 0 by decide), e]
    exact hA g q X s
/-- a door half read: its numbers up to m -/
def DS (T : Nat → Nat) (sz lim : Nat) (h0 h : Hp) (b q : Nat) (X Z : Nat → Nat) (d m : Nat) : Prop := CS T sz lim h0 h b q X Z (d + 1) ∧ X 2 = d ∧ d < 10 ∧ DP h (b + 5 + 6 * d) X d m ∧ (m ≤ 11 → hI h (b + 5 + 6 * d) 11 = nI 0) ∧ (m ≤ 12 → hI h (b + 5 + 6 * d) 12 = nI 1)
theorem CS.wp {h0 h : Hp} {b q n a k : Nat} {x : Int32} {X Z : Nat → Nat} (s : CS T sz lim h0 h b q X Z n) (ha : b + 5 + 6 * X 2 ≤ a) : CS T sz lim h0 (sI h a k x) b q X Z n := by
  obtain ⟨s1, s2, s3, s4⟩ := s
  have bb := s3.2.2.1
  exact ⟨s1.wsI (by omega), s2.ab s4 (Ab.wsI (by omega)), s3.wsI (by omega), s4⟩
theorem CS.xp {h0 h : Hp} {b q n i v : Nat} {X Z Z' : Nat → Nat} (s : CS T sz lim h0 h b q X Z n) (hi : (110 + 10 * X 2 ≤ i ∧ i < 210) ∨ (1000 + X 2 ≤ i ∧ X 3 ≤ 6)) (hZ : ∀ c, c < 100 → Z' c = Z c) : CS T sz lim h0 h b q (upX X i v) Z' n := by
  obtain ⟨s1, s2, s3, s4⟩ := s
  obtain ⟨n1, n2, n3, n4, n5⟩ := id s2
  refine ⟨s1, s2.up rfl rfl ⟨rfl, rfl, rfl⟩ (fun a _ => ⟨rfl, rfl, rfl, rfl, rfl⟩) (upX_n (by omega)) ?_ (fun c hc => by rw [hZ c hc]; exact n3 c hc) ?_ (fun j hj => upX_n (by omega)), s3, by rw [upX_n (by omega)]; exact s4⟩
  · rw [upX_n (by omega), upX_n (by omega), upX_n (by omega), upX_n (by omega), upX_n (by omega), upX_n (by omega)]; exact n2
  · intro k hk
    rw [upX_n (by omega)] at hk
    rw [upX_n (by omega)]; exact n5 k hk
theorem DS.fz {h0 h g : Hp} {b q q' d m : Nat} {X Z : Nat → Nat} {Y : List Nat} (s : DS T sz lim h0 h b q X Z d m) (hT : CT g T sz lim q') (hz : Fz Y h g) (hY : ∀ z, z ∈ Y → z % 1000000 < 98) (hY2 : ∀ z, z ∈ Y → z ∈ Zs) : DS T sz lim h0 g b q' X Z d m := by
  obtain ⟨s1, s2, s3, s4, s5, s6⟩ := s
  have bb := s1.2.2.1.2.2.1
  have ab := hz.ab (P := fun a => b + 5 + 6 * d ≤ a ∧ a < b + 5 + 6 * d + 6) hY (fun a ha => by omega)
  refine ⟨s1.fz hT hz hY hY2, s2, s3, s4.cg ab ⟨rfl, fun _ _ _ => rfl⟩, ?_, ?_⟩
  · rw [(ab (b + 5 + 6 * d) (by omega)).2.2.1]; exact s5
  · rw [(ab (b + 5 + 6 * d) (by omega)).2.2.1]; exact s6
theorem ds_step {h0 h : Hp} {b q d m : Nat} {X Z : Nat → Nat} (s : DS T sz lim h0 h b q X Z d m) : ∃ g, f_117 (some 31) h = some g ∧ DS T sz lim h0 g b (tkN T sz lim q) X Z d m := by
  obtain ⟨g, a1, a2, a3⟩ := c_step s.1.1
  exact ⟨g, a1, s.fz a3 a2 (by decide) (by decide)⟩
/-- a door's number m written -/
theorem ds_w {h0 h : Hp} {b q d m v : Nat} {X Z Z' : Nat → Nat} (s : DS T sz lim h0 h b q X Z d m) (hm : 6 ≤ m) (hm2 : m < 14) (hZ : ∀ c, c < 100 → Z' c = Z c) : DS T sz lim h0 (sI h (b + 5 + 6 * d) m (nI v)) b q (upX X (104 + m + 10 * d) v) Z' d (m + 1) := by
  obtain ⟨s1, s2, s3, s4, s5, s6⟩ := s
  obtain ⟨d1, d2, d3⟩ := s4
  refine ⟨(s1.wp (by omega)).xp (by omega) hZ, (upX_n (by omega)).trans s2, s3, ⟨?_, ?_, fun k h1 h2 => ?_⟩, fun hm3 => ?_, fun hm3 => ?_⟩
  · unfold SD at *
    refine ⟨d1.1, d1.2.1, fun j => ?_⟩
    rw [hI_sI, if_neg (by omega)]
    exact d1.2.2 j
  · rw [hJ_sI, upX_n (by omega)]; exact d2
  · rw [hI_sI, upX_e]
    by_cases c : k = m
    · rw [if_pos ⟨rfl, c⟩, if_pos (by omega)]
    · rw [if_neg (by omega), if_neg (by omega)]; exact d3 k h1 (by omega)
  · rw [hI_sI, if_neg (by omega)]; exact s5 (by omega)
  · rw [hI_sI, if_neg (by omega)]; exact s6 (by omega)
theorem DS.k {h0 h : Hp} {b q d m : Nat} {X Z : Nat → Nat} (s : DS T sz lim h0 h b q X Z d m) : hK h (b + 5 + 6 * d) = 1 ∧ 30 ≤ b + 5 + 6 * d := ⟨s.2.2.2.1.1.1.1, by have := s.1.2.2.1.2.2.1; omega⟩
theorem DS.g {h0 h : Hp} {b q d m k : Nat} {X Z : Nat → Nat} (s : DS T sz lim h0 h b q X Z d m) (h6 : 6 ≤ k) (hk : k < m) : gI 1 k (some (b + 5 + 6 * d)) h = some (nI (X (104 + k + 10 * d))) := by
  rw [gI_e s.k.1, s.2.2.2.1.2.2 k h6 hk]
/-- the name -/
def S60 (T : Nat → Nat) (sz lim : Nat) (h0 : Hp) (b d : Nat) (g : Hp) (q : Nat) (X : Nat → Nat) : Prop := DS T sz lim h0 g b q X (cellV X) d 6 ∧ WF X
theorem s_60 {h0 h : Hp} {b q d : Nat} {X : Nat → Nat} (hW : WF X) (s : CS T sz lim h0 h b q X (cellV X) (d + 1)) (hd : X 2 = d) (hd9 : d < 10) (hD : SD h (b + 5 + 6 * d)) (h11 : hI h (b + 5 + 6 * d) 11 = nI 0) (h12 : hI h (b + 5 + 6 * d) 12 = nI 1) : CR h0 b (f_60 (some b) (some (b + 5 + 6 * d)) h) (dorN T sz lim q X d) (S60 T sz lim h0 b d) (fun q X => dorX T sz lim q X d) := by
  obtain ⟨s1, s2, s3, s4⟩ := id s
  have n1 := s2.1
  have bb := s3.2.2.1
  have x3 := hW.2.2.2.1
  obtain ⟨c1, c2, c3, c4⟩ := id s1
  rw [f_60, b_60_0, q50 n1, Option.bind_some, rC31 c1, grd_e, Option.bind_some, s_121 c1 c2 c3 c4 (tkA_le c4), Option.bind_some]
  dsimp only
  unfold dorN
  cases hn : isNm T sz lim q
  · rw [if_neg (show ¬ ¬ bI false = 0 from fun z => z rfl), if_pos rfl, b_60_10]
    exact c_err s1 n1 s3 (by omega)
  · have k2 := isNm_k hn
    have j5 : hJ h 31 5 = lN (vB 32 T (tkA T sz lim q) (tkN T sz lim q - tkA T sz lim q)) := c3.2.2.2.1 k2
    have nm := s2.nm s4
    rw [if_pos (show ¬ bI true = 0 by decide), if_neg (show ¬ true = false by decide), b_60_19, q51 n1, Option.bind_some, q50 n1, Option.bind_some, gJ31 c1, Option.bind_some, j5, rC_e nm.1 (by omega), grd_e, Option.bind_some, s_54 nm (tk_nm c4 k2), Option.bind_some]
    dsimp only
    have fd : fdD (fun d => X (1000 + d)) (X 2) (nV T sz lim q) = fdN X (nV T sz lim q) := rfl
    rw [fd]
    by_cases c : fdN X (nV T sz lim q) < X 2
    · rw [if_pos c, if_neg (nI_m1 (by omega)), if_pos c, b_60_37]
      exact c_err s1 n1 s3 (by omega)
    · rw [if_neg c, if_pos rfl, if_neg c, b_60_46, q50 n1, Option.bind_some, gJ31 c1, Option.bind_some, j5, pJ_e hD.1.1 (by omega), Option.bind_some]
      generalize x1 : sJ h (b + 5 + 6 * d) 5 (lN (vB 32 T (tkA T sz lim q) (tkN T sz lim q - tkA T sz lim q))) = g1
      have D1 : DS T sz lim h0 g1 b q (upX X (1000 + d) (nV T sz lim q)) (cellV (upX X (1000 + d) (nV T sz lim q))) d 6 := by
        rw [← x1]
        have ss : CS T sz lim h0 (sJ h (b + 5 + 6 * d) 5 (lN (vB 32 T (tkA T sz lim q) (tkN T sz lim q - tkA T sz lim q)))) b q X (cellV X) (d + 1) := ⟨s1.wsJ (by omega), s2.ab s4 (Ab.wsJ (by omega)), s3.wsJ (by omega), s4⟩
        refine ⟨ss.xp (by omega) (fun c hc => cellV_up hc (by omega)), (upX_n (by omega)).trans hd, hd9, ⟨?_, ?_, fun k h1 h2 => absurd h1 (by omega)⟩, fun _ => h11, fun _ => h12⟩
        · unfold SD at *
          refine ⟨hD.1, hD.2.1, fun j => ?_⟩
          rw [hJ_sJ, hJ_sJ, hJ_sJ, hJ_sJ, if_neg (by omega), if_neg (by omega), if_neg (by omega), if_neg (by omega)]
          exact hD.2.2 j
        · rw [hJ_sJ, if_pos ⟨rfl, rfl⟩, upX_i]
          exact ⟨_, rfl, tk_nm c4 k2⟩
      obtain ⟨g2, a1, a2⟩ := ds_step D1
      refine ⟨g2, true, ?_, fun z => (by cases z), fun _ => ⟨_, _, rfl, a2, hW.up hd hd9 (by omega)⟩⟩
      rw [q50 D1.1.2.1.1, Option.bind_some, rC31 D1.1.1.1, grd_e, Option.bind_some, a1, Option.bind_some, grd1, Option.bind_some]
      rfl
/-- the doorway's place -/
def S61 (T : Nat → Nat) (sz lim : Nat) (h0 : Hp) (b d : Nat) (g : Hp) (q : Nat) (X : Nat → Nat) : Prop := DS T sz lim h0 g b q X (cellV X) d 9 ∧ WF X ∧ dX X d < X 0 ∧ dYy X d < X 1 ∧ dAc X d ≤ 1
theorem pZ_b {h : Hp} {c a k : Nat} {w : Bool} (hk : hK h a = c) (ha : 30 ≤ a) : pZ c k (some a) (bI w) h = some (sI h a k (bI w)) := pZ_e hk ha bI_01
theorem s_61 {h0 h : Hp} {b q d : Nat} {X : Nat → Nat} (hS : S60 T sz lim h0 b d h q X) : CR h0 b (f_61 (some b) (some (b + 5 + 6 * d)) h) (dorX T sz lim q X d) (S61 T sz lim h0 b d) (fun q X => dorL T sz lim q X d) := by
  obtain ⟨s, hW⟩ := hS
  obtain ⟨w0, w1, _⟩ := id hW
  have n1 := s.1.2.1.1
  have n2 := s.1.2.1.2.1
  have hd := s.2.1
  have hd9 := s.2.2.1
  rw [f_61, b_61_0, q50 n1, Option.bind_some, q51 n1, Option.bind_some, i4 n1, Option.bind_some, n2.1]
  unfold dorX
  refine k_num (A := fun g => b_61_22 (some b) (some (b + 5 + 6 * d)) g) (B := fun g => b_61_20 g) s.1 (by omega) (a := 0) (z := (X 0 : Int) - 1) rfl zm1 (by omega) (by omega) (fun g => rfl) (fun c v => ?_) (fun c => by rw [c]; rfl)
  have k1 := nmB_k c
  rw [c, if_pos rfl]
  show CR h0 b (b_61_22 (some b) (some (b + 5 + 6 * d)) h) _ _ _
  rw [b_61_22, q50 n1, Option.bind_some, gI31 s.1.1.1, Option.bind_some, v, pI_e s.k.1 s.k.2, Option.bind_some]
  have t := ds_w (v := tkV T sz lim q) (Z' := cellV (upX X (110 + 10 * d) (tkV T sz lim q))) s (by omega) (by omega) (fun c hc => cellV_up hc (by omega))
  rw [show 104 + 6 + 10 * d = 110 + 10 * d by omega] at t
  have hW1 : WF (upX X (110 + 10 * d) (tkV T sz lim q)) := hW.up hd hd9 (by omega)
  have hx1 : dX (upX X (110 + 10 * d) (tkV T sz lim q)) d < upX X (110 + 10 * d) (tkV T sz lim q) 0 := by unfold dX; rw [upX_i, upX_n (by omega)]; omega
  generalize upX X (110 + 10 * d) (tkV T sz lim q) = X1 at *
  generalize sI h (b + 5 + 6 * d) 6 (nI (tkV T sz lim q)) = g1 at *
  obtain ⟨g2, a1, t2⟩ := ds_step t
  obtain ⟨y0, y1, _⟩ := id hW1
  have m1 := t2.1.2.1.1
  rw [q50 t.1.2.1.1, Option.bind_some, rC31 t.1.1.1, grd_e, Option.bind_some, a1, Option.bind_some, q50 m1, Option.bind_some, q51 m1, Option.bind_some, i4 m1, Option.bind_some, t2.1.2.1.2.1.2.1]
  generalize tkN T sz lim q = q1 at *
  unfold dorY
  refine k_num (A := fun g => b_61_62 (some b) (some (b + 5 + 6 * d)) g) (B := fun g => b_61_60 g) t2.1 (by omega) (a := 0) (z := (X1 1 : Int) - 1) rfl zm1 (by omega) (by omega) (fun g => rfl) (fun c v => ?_) (fun c => by rw [c]; rfl)
  have k2 := nmB_k c
  rw [c, if_pos rfl]
  show CR h0 b (b_61_62 (some b) (some (b + 5 + 6 * d)) g2) _ _ _
  rw [b_61_62, q50 m1, Option.bind_some, gI31 t2.1.1.1, Option.bind_some, v, pI_e t2.k.1 t2.k.2, Option.bind_some]
  have u := ds_w (v := tkV T sz lim q1) (Z' := cellV (upX X1 (111 + 10 * d) (tkV T sz lim q1))) t2 (by omega) (by omega) (fun c hc => cellV_up hc (by omega))
  rw [show 104 + (6 + 1) + 10 * d = 111 + 10 * d by omega] at u
  have hW2 : WF (upX X1 (111 + 10 * d) (tkV T sz lim q1)) := hW1.up t2.2.1 hd9 (by omega)
  have hx2 : dX (upX X1 (111 + 10 * d) (tkV T sz lim q1)) d < upX X1 (111 + 10 * d) (tkV T sz lim q1) 0 := by unfold dX; rw [upX_n (by omega), upX_n (by omega)]; exact hx1
  have hy2 : dYy (upX X1 (111 + 10 * d) (tkV T sz lim q1)) d < upX X1 (111 + 10 * d) (tkV T sz lim q1) 1 := by unfold dYy; rw [upX_i, upX_n (by omega)]; omega
  generalize upX X1 (111 + 10 * d) (tkV T sz lim q1) = X2 at *
  generalize sI g2 (b + 5 + 6 * d) (6 + 1) (nI (tkV T sz lim q1)) = g3 at *
  obtain ⟨g4, a3, u2⟩ := ds_step u
  have p1 := u2.1.2.1.1
  have F4 := u2.1.1.1
  obtain ⟨_, _, c3, c4⟩ := id u2.1.1
  rw [q50 u.1.2.1.1, Option.bind_some, rC31 u.1.1.1, grd_e, Option.bind_some, a3, Option.bind_some, q50 p1, Option.bind_some, rC31 F4, grd_e, Option.bind_some, s_120 F4 c3 c4 (by omega), Option.bind_some]
  dsimp only
  have v8 : ∀ x, hI (sI g4 (b + 5 + 6 * d) 8 x) (b + 5 + 6 * d) 8 = x := fun x => by rw [hI_sI]; exact if_pos ⟨rfl, rfl⟩
  rw [pZ_b u2.k.1 u2.k.2, Option.bind_some, gI_e (show hK (sI g4 (b + 5 + 6 * d) 8 _) (b + 5 + 6 * d) = 1 from u2.k.1), Option.bind_some, v8]
  generalize tkN T sz lim q1 = q2 at *
  have w : ∀ z, DS T sz lim h0 (sI g4 (b + 5 + 6 * d) 8 (nI z)) b q2 (upX X2 (112 + 10 * d) z) (cellV (upX X2 (112 + 10 * d) z)) d 9 := fun z => by
    have := ds_w (v := z) (Z' := cellV (upX X2 (112 + 10 * d) z)) u2 (by omega) (by omega) (fun c hc => cellV_up hc (by omega))
    rwa [show 104 + (6 + 1 + 1) + 10 * d = 112 + 10 * d by omega] at this
  have fin : ∀ z, z ≤ 1 → CR h0 b (b_61_123 (some b) (sI g4 (b + 5 + 6 * d) 8 (nI z))) (dorL T sz lim (tkN T sz lim q2) (upX X2 (112 + 10 * d) z) d) (S61 T sz lim h0 b d) (fun q X => dorL T sz lim q X d) := by
    intro z hz
    obtain ⟨g6, e1, e2⟩ := ds_step (w z)
    refine ⟨g6, true, ?_, fun z => (by cases z), fun _ => ⟨_, _, rfl, e2, hW2.up u2.2.1 hd9 (by omega), ?_, ?_, ?_⟩⟩
    · rw [b_61_123, q50 (w z).1.2.1.1, Option.bind_some, rC31 (w z).1.1.1, grd_e, Option.bind_some, e1, Option.bind_some, grd1, Option.bind_some]
      rfl
    · unfold dX; rw [upX_n (by omega), upX_n (by omega)]; exact hx2
    · unfold dYy; rw [upX_n (by omega), upX_n (by omega)]; exact hy2
    · unfold dAc; rw [upX_i]; exact hz
  unfold dorA
  cases h3 : isW T sz lim q2 3
  · have w0 := w 0
    obtain ⟨_, _, k3, k4⟩ := id w0.1.1
    rw [if_neg (show ¬ ¬ bI false = 0 from fun z => z rfl), b_61_101, show bI false = nI 0 from rfl, q50 w0.1.2.1.1, Option.bind_some, rC31 w0.1.1.1, grd_e, Option.bind_some, s_120 w0.1.1.1 k3 k4 (by omega), Option.bind_some]
    dsimp only
    cases h2 : isW T sz lim q2 2
    · rw [if_neg (show ¬ ¬ bI false = 0 from fun z => z rfl), if_neg (by decide), b_61_114]
      exact c_err w0.1.1 w0.1.2.1.1 w0.1.2.2.1 (by omega)
    · rw [if_pos (show ¬ bI true = 0 by decide), if_pos (Or.inl rfl), if_neg (by decide)]
      exact fin 0 (by omega)
  · rw [if_pos (show ¬ bI true = 0 by decide), if_pos (Or.inr rfl), if_pos rfl]
    exact fin 1 (by omega)
end HDOOR
