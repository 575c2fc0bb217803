/-! the reference reads a door, from its name on -/
theorem nI_l0 {n : Nat} (h : n < 2147483648) (c : n = 0) : nI n ≤ 0 := (nI_leI (a := n) (b := 0) h (by omega)).2 (by omega)
theorem nI_g0 {n : Nat} (h : n < 2147483648) (c : 0 < n) : ¬ nI n ≤ 0 := fun z => absurd ((nI_leI (a := n) (b := 0) h (by omega)).1 z) (by omega)
section HRO
variable {T : Nat → Nat} {sz lim : Nat}
theorem l_208 {h : Hp} {q n : Nat} {X : Nat → Nat} (hM : MH T sz lim h q X n) (hn : X 2 ≤ n) (hk : tkK T sz lim q = 2) : ∀ r i m, i + r = X 2 → l_208_2 (r + 1 + m) (some 64) (nI i) h = some (if ffi (fun d => decide (X (1000 + d) = nV T sz lim q)) i r < X 2 then nI (ffi (fun d => decide (X (1000 + d) = nV T sz lim q)) i r) else -1, h) := by
  have hF := hM.1.1
  obtain ⟨w0, w1, w2, _, _, _, w7, _⟩ := id hM.2.2
  have vl := v_lt (B := 27) (by omega) (by omega) hM.1.2.2.2 hk
  have v12 : hJ h 64 12 = lN (nV T sz lim q) := hM.1.2.2.1.2.2.2.2.1 hk
  have vl' : nV T sz lim q < 1125899906842625 := vl
  intro r
  induction r with
  | zero =>
    intro i m hi
    rw [Nat.zero_add, Nat.add_comm 1 m, l_208_2, b_208_2, gQ64_15 hF, Option.bind_some, mh_r hM (by omega) (by omega), Option.bind_some, if_pos (by rw [nI_leI (by omega) (by omega)]; omega), b_208_34, if_neg (by show ¬ i < X 2; omega)]
  | succ r ih =>
    intro i m hi
    have wi := w7 i
    rw [show r + 1 + 1 + m = (r + 1 + m) + 1 by omega, l_208_2, b_208_2, gQ64_15 hF, Option.bind_some, mh_r hM (by omega) (by omega), Option.bind_some, if_neg (by rw [nI_leI (by omega) (by omega)]; omega), b_208_12, gQ64_19 hF, Option.bind_some, aJ71 hF (by omega), Option.bind_some, gJ64 hF, Option.bind_some, v12, hM.2.1.2.2 i (by omega)]
    simp only [lc0, fb_lN_inj (show X (1000 + i) < 2 ^ 63 by omega) (show nV T sz lim q < 2 ^ 63 by omega)]
    by_cases c : X (1000 + i) = nV T sz lim q
    · have e : ffi (fun d => decide (X (1000 + d) = nV T sz lim q)) i (r + 1) = i := if_pos (decide_eq_true c)
      rw [if_neg (fun z => z c), b_208_26, e, if_pos (show i < X 2 by omega)]
    · have e : ffi (fun d => decide (X (1000 + d) = nV T sz lim q)) i (r + 1) = ffi (fun d => decide (X (1000 + d) = nV T sz lim q)) (i + 1) r := if_neg (by rw [decide_eq_true_eq]; exact c)
      rw [if_pos c, b_208_28, bnd_e, nI_add, ih (i + 1) m (by omega), e]
theorem s_208 {h : Hp} {q n : Nat} {X : Nat → Nat} (hM : MH T sz lim h q X n) (hn : X 2 ≤ n) (hk : tkK T sz lim q = 2) : f_208 (some 64) h = some (if fdN X (nV T sz lim q) < X 2 then nI (fdN X (nV T sz lim q)) else -1, h) := by
  obtain ⟨m, hm⟩ := FU_ge (X 2 + 1) (by have := hM.2.2.2.2.1; omega)
  rw [f_208, b_208_0, bnd_e, hm]
  exact l_208 hM hn hk (X 2) 0 m (by omega)
theorem l_209 {h : Hp} {q n x y ac ln : Nat} {X : Nat → Nat} (hM : MH T sz lim h q X n) (hx : x ≤ 99) (hy : y ≤ 99) (ha : ac ≤ 1) (hl : ln ≤ 3) : ∀ r i fl m, i + r = ln → l_209_6 (r + 1 + m) (some 64) (nI x) (nI y) (nI ac) (nI ln) (nI fl) (nI i) h = some (nI (dwR X x y ac r i fl), h) := by
  have hF := hM.1.1
  obtain ⟨w0, w1, w2, _, _, w6, w7⟩ := id hM.2.2
  intro r
  induction r with
  | zero =>
    intro i fl m hi
    rw [Nat.zero_add, Nat.add_comm 1 m, l_209_6, b_209_6, if_pos (by rw [nI_leI (by omega) (by omega)]; omega), b_209_115]
    rfl
  | succ r ih =>
    intro i fl m hi
    have dx : dwx x ac i ≤ 120 := by unfold dwx; split <;> omega
    have dy : dwy y ac i ≤ 120 := by unfold dwy; split <;> omega
    have fin : b_209_39 (l_209_6 (r + 1 + m)) (some 64) (nI x) (nI y) (nI ac) (nI ln) (nI fl) (nI i) (nI (dwx x ac i)) (nI (dwy y ac i)) (nI 0) h = some (nI (dwR X x y ac (r + 1) i fl), h) := by
      show _ = some (nI (if dwx x ac i < X 0 ∧ dwy y ac i < X 1 ∧ X (10 + (10 * dwy y ac i + dwx x ac i)) = 1 then dwR X x y ac r (i + 1) (if 0 < X (210 + (10 * dwy y ac i + dwx x ac i)) then 3 else fl) else 2), h)
      rw [b_209_39, nI_add, Nat.add_zero, bnd_e, gQ64_15 hF, Option.bind_some, mh_r hM (by omega) (by omega), Option.bind_some]
      by_cases c1 : dwx x ac i < X 0
      · rw [if_neg (by rw [nI_leI (by omega) (by omega)]; omega), b_209_53, gQ64_15 hF, Option.bind_some, mh_r hM (by omega) (by omega), Option.bind_some]
        by_cases c2 : dwy y ac i < X 1
        · have wc := w6 (10 * dwy y ac i + dwx x ac i) (by omega)
          rw [if_neg (by rw [nI_leI (by omega) (by omega)]; omega), b_209_64, gQ64_15 hF, Option.bind_some, pk_mul, nI_add, nI_add, Nat.add_assoc, mh_r hM (by omega) (by omega), Option.bind_some]
          by_cases c3 : X (10 + (10 * dwy y ac i + dwx x ac i)) = 1
          · rw [if_pos (by rw [c3]), if_pos ⟨c1, c2, c3⟩, b_209_86, gQ64_15 hF, Option.bind_some, pk_mul, nI_add, nI_add, Nat.add_assoc, mh_r hM (by omega) (by omega), Option.bind_some]
            by_cases c4 : 0 < X (210 + (10 * dwy y ac i + dwx x ac i))
            · rw [if_neg (nI_g0 (by omega) (by omega)), b_209_106, bnd_e, b_209_109, bnd_e, nI_add, if_pos c4]
              exact ih (i + 1) 3 m (by omega)
            · rw [if_pos (nI_l0 (by omega) (by omega)), b_209_109, bnd_e, nI_add, if_neg c4]
              exact ih (i + 1) fl m (by omega)
          · rw [if_neg (fun z => c3 ((nI_eq (by omega) (by omega)).1 z)), if_neg (fun z => c3 z.2.2), b_209_84]
        · rw [if_pos (by rw [nI_leI (by omega) (by omega)]; omega), if_neg (fun z => c2 z.2.1), b_209_84]
      · rw [if_pos (by rw [nI_leI (by omega) (by omega)]; omega), if_neg (fun z => c1 z.1), b_209_84]
    have fin2 : ∀ s0 s1, s0 + s1 = dwy y ac i → b_209_39 (l_209_6 (r + 1 + m)) (some 64) (nI x) (nI y) (nI ac) (nI ln) (nI fl) (nI i) (nI (dwx x ac i)) (nI s0) (nI s1) h = some (nI (dwR X x y ac (r + 1) i fl), h) := by
      intro s0 s1 e
      have := fin
      rw [b_209_39, nI_add] at this ⊢
      rw [Nat.add_zero] at this
      rw [e]
      exact this
    have fin3 : ∀ s0 s1, s0 + s1 = dwx x ac i → b_209_24 (l_209_6 (r + 1 + m)) (some 64) (nI x) (nI y) (nI ac) (nI ln) (nI fl) (nI i) (nI s0) (nI s1) h = some (nI (dwR X x y ac (r + 1) i fl), h) := by
      intro s0 s1 e
      rw [b_209_24, nI_add, bnd_e, e]
      by_cases c : ac = 1
      · rw [if_neg (fun z => z (by rw [c])), b_209_33]
        exact fin2 _ _ (by unfold dwy; rw [if_pos c])
      · rw [if_pos (fun z => c ((nI_eq (by omega) (by omega)).1 z)), b_209_38]
        exact fin2 _ _ (by unfold dwy; rw [if_neg c]; rfl)
    rw [show r + 1 + 1 + m = (r + 1 + m) + 1 by omega, l_209_6, b_209_6, if_neg (by rw [nI_leI (by omega) (by omega)]; omega), b_209_13]
    by_cases c : ac = 0
    · rw [if_neg (fun z => z (by rw [c]; rfl)), b_209_18]
      exact fin3 _ _ (by unfold dwx; rw [if_pos c])
    · rw [if_pos (nI_n0 (by omega) c), b_209_23]
      exact fin3 _ _ (by unfold dwx; rw [if_neg c]; rfl)
theorem s_209 {h : Hp} {q n x y ac ln : Nat} {X : Nat → Nat} (hM : MH T sz lim h q X n) (hx : x ≤ 99) (hy : y ≤ 99) (ha : ac ≤ 1) (hl : ln ≤ 3) : f_209 (some 64) (nI x) (nI y) (nI ac) (nI ln) h = some (nI (dwR X x y ac ln 0 0), h) := by
  obtain ⟨m, hm⟩ := FU_ge (ln + 1) (by omega)
  rw [f_209, b_209_0, bnd_e, bnd_e, hm]
  exact l_209 hM hx hy ha hl ln 0 0 m (by omega)
theorem dwR_0 {X : Nat → Nat} {x y ac : Nat} : ∀ r i fl, dwR X x y ac r i fl = 0 → fl = 0 ∧ ∀ j, i ≤ j → j < i + r → dwx x ac j < X 0 ∧ dwy y ac j < X 1 ∧ X (10 + (10 * dwy y ac j + dwx x ac j)) = 1 ∧ X (210 + (10 * dwy y ac j + dwx x ac j)) = 0 := by
  intro r
  induction r with
  | zero => intro i fl h; exact ⟨h, fun j a b => absurd a (by omega)⟩
  | succ r ih =>
    intro i fl h
    change (if dwx x ac i < X 0 ∧ dwy y ac i < X 1 ∧ X (10 + (10 * dwy y ac i + dwx x ac i)) = 1 then dwR X x y ac r (i + 1) (if 0 < X (210 + (10 * dwy y ac i + dwx x ac i)) then 3 else fl) else 2) = 0 at h
    by_cases c : dwx x ac i < X 0 ∧ dwy y ac i < X 1 ∧ X (10 + (10 * dwy y ac i + dwx x ac i)) = 1
    · rw [if_pos c] at h
      obtain ⟨a, b⟩ := ih _ _ h
      by_cases c2 : 0 < X (210 + (10 * dwy y ac i + dwx x ac i))
      · rw [if_pos c2] at a; omega
      · rw [if_neg c2] at a
        refine ⟨a, fun j h1 h2 => ?_⟩
        by_cases e : j = i
        · subst e; exact ⟨c.1, c.2.1, c.2.2, by omega⟩
        · exact b j (by omega) (by omega)
    · rw [if_neg c] at h; omega
theorem dwR_le {X : Nat → Nat} {x y ac : Nat} : ∀ r i fl, fl ≤ 3 → dwR X x y ac r i fl ≤ 3 := by
  intro r
  induction r with
  | zero => intro i fl h; exact h
  | succ r ih =>
    intro i fl h
    show (if _ then dwR X x y ac r (i + 1) (if 0 < X (210 + (10 * dwy y ac i + dwx x ac i)) then 3 else fl) else 2) ≤ 3
    split
    · exact ih _ _ (by split <;> omega)
    · omega
theorem s_210H {h : Hp} {d q w : Nat} {X : Nat → Nat} (hw : w ≤ 99) (hd : X 2 = d) (hd9 : d < 10) (hD : DWk (upX X (113 + 10 * d) w) d) (hM : MH T sz lim h q X (d + 1)) (hv : hI h 64 8 = nI w) : MO T sz lim (b_210_254 (some 64) (nI d) (nI (110 + 10 * d)) h) h (dorH T sz lim (tkN T sz lim q) (upX X (113 + 10 * d) w) d) := by
  rw [b_210_254, gQ64_15 hM.1.1, Option.bind_some, gI64 hM.1.1, Option.bind_some, hv, nI_add, show 110 + 10 * d + 3 = 113 + 10 * d by omega]
  have hd2 : upX X (113 + 10 * d) w 2 = d := (upX_n (by omega)).trans hd
  refine m_w hM (by omega) (by omega) (hM.2.2.up (by omega)) (fun g hG _ => ?_)
  generalize upX X (113 + 10 * d) w = Y at *
  refine m_st hG (fun g2 hG2 => ?_)
  unfold dorH
  refine m_num (A := fun g => b_210_281 (some 64) (nI d) (nI (110 + 10 * d)) g) (B := fun g => b_210_279 g) hG2 (a := 0) (b := 3) rfl rfl (by omega) (by omega) (fun g => rfl) (fun c g3 hG3 e3 => ?_) (fun c => by rw [c]; rfl)
  have nk := nmB_k c
  rw [c, if_pos rfl]
  show MO T sz lim (b_210_281 (some 64) (nI d) (nI (110 + 10 * d)) g3) g3 _
  rw [b_210_281, gQ64_15 hG3.1.1, Option.bind_some, gI64 hG3.1.1, Option.bind_some, e3, nI_add, show 110 + 10 * d + 4 = 114 + 10 * d by omega]
  refine m_w hG3 (by omega) (by omega) (hG3.2.2.up (by omega)) (fun g4 hG4 i4 => ?_)
  rw [gQ64_15 hG4.1.1, Option.bind_some, gI64 hG4.1.1, Option.bind_some, i4, e3, nI_add, show 110 + 10 * d + 5 = 115 + 10 * d by omega, nI_1shl (by omega)]
  have b1 := bc4_1 _ (show tkV T sz lim (tkN T sz lim q) < 4 by omega)
  refine m_w hG4 (by omega) (by omega) (hG4.2.2.up (by omega)) (fun g5 hG5 _ => ?_)
  obtain ⟨m, hm⟩ := FU_ge (4 + 1) (by omega)
  rw [hm]
  generalize tkV T sz lim (tkN T sz lim q) = v at *
  have ux : ∀ j, j ≠ 115 + 10 * d → j ≠ 114 + 10 * d → upX (upX Y (114 + 10 * d) v) (115 + 10 * d) (2 ^ v) j = Y j := fun j hj hk => by rw [upX_n hj, upX_n hk]
  have ui : dTd (upX (upX Y (114 + 10 * d) v) (115 + 10 * d) (2 ^ v)) d = 2 ^ v := upX_i _ _ _
  refine l_210t hd9 4 _ _ m g5 ((ux 2 (by omega) (by omega)).trans hd2) ?_ hG5 (by rw [ui, b1.1]) (by rw [ui]; exact b1.2)
  unfold DWk dLn dAc dX dYy
  rw [ux _ (by omega) (by omega), ux _ (by omega) (by omega), ux _ (by omega) (by omega), ux _ (by omega) (by omega), ux _ (by omega) (by omega), ux _ (by omega) (by omega)]
  exact hD
/-- the doorway's length, at its token -/
theorem s_210L {h : Hp} {d q : Nat} {X : Nat → Nat} (hd : X 2 = d) (hd9 : d < 10) (hx : dX X d ≤ 99) (hy : dYy X d ≤ 99) (ha : dAc X d ≤ 1) (hM : MH T sz lim h q X (d + 1)) : MO T sz lim ((gI 11 7 (some 64) h).bind fun x3 => if x3 = nI 3 then b_210_193 (some 64) (nI d) (nI (110 + 10 * d)) h else b_210_187 (some 64) h) h (dorL T sz lim q X d) := by
  have kl := tkK_le (T := T) (sz := sz) (lim := lim) (p := q)
  have kc := kmd_e kl
  rw [gI64 hM.1.1, Option.bind_some, hM.1.2.2.1.1]
  unfold dorL nmB nmF
  by_cases c3 : tkK T sz lim q = 3
  · have vl := tk_num (T := T) (lim := lim) hM.1.2.2.2 c3
    have v8 : hI h 64 8 = nI (tkV T sz lim q) := hM.1.2.2.1.2.2.2.2.2 c3
    rw [if_pos (by rw [c3]; rfl), b_210_193, gI64 hM.1.1, Option.bind_some, v8, s_182, Option.bind_some, decide_eq_true c3, Bool.true_and, if_pos c3, toI_nI (by omega), toI_nI (by omega), toI_nI (by omega)]
    dsimp only
    by_cases c4 : (1 : Int) ≤ (tkV T sz lim q : Int) ∧ (tkV T sz lim q : Int) ≤ 3
    · rw [bI_T (show ((1 : Nat) : Int) ≤ (tkV T sz lim q : Int) ∧ (tkV T sz lim q : Int) ≤ ((3 : Nat) : Int) from c4), if_pos nI10, if_pos (decide_eq_true c4), b_210_211, gQ64_15 hM.1.1, Option.bind_some, nI_add, Nat.add_zero, mh_r hM (by omega) (by omega), Option.bind_some, Option.bind_some, nI_add, show 110 + 10 * d + 1 = 111 + 10 * d by omega, mh_r hM (by omega) (by omega), Option.bind_some, Option.bind_some, nI_add, show 110 + 10 * d + 2 = 112 + 10 * d by omega, mh_r hM (by omega) (by omega), Option.bind_some, gI64 hM.1.1, Option.bind_some, v8, rC64 hM.1.1, grd_e, Option.bind_some, show X (110 + 10 * d) = dX X d from rfl, show X (111 + 10 * d) = dYy X d from rfl, show X (112 + 10 * d) = dAc X d from rfl, s_209 hM hx hy ha (by omega), Option.bind_some, bnd_e]
      dsimp only
      have dl := dwR_le (X := X) (x := dX X d) (y := dYy X d) (ac := dAc X d) (tkV T sz lim q) 0 0 (by omega)
      by_cases c5 : dwR X (dX X d) (dYy X d) (dAc X d) (tkV T sz lim q) 0 0 = 0
      · rw [if_pos (nI_l0 (by omega) (by omega)), if_pos c5]
        have d0 := (dwR_0 _ _ _ c5).2
        have ux : ∀ j, j ≠ 113 + 10 * d → upX X (113 + 10 * d) (tkV T sz lim q) j = X j := fun j hj => upX_n hj
        have ui : dLn (upX X (113 + 10 * d) (tkV T sz lim q)) d = tkV T sz lim q := upX_i _ _ _
        refine s_210H vl hd hd9 ?_ hM v8
        unfold DWk
        rw [ui]
        unfold dAc dX dYy
        rw [ux _ (by omega), ux _ (by omega), ux _ (by omega), ux _ (by omega), ux _ (by omega)]
        exact ⟨by omega, ha, fun i hi => ⟨(d0 i (by omega) (by omega)).1, (d0 i (by omega) (by omega)).2.1⟩⟩
      · rw [if_neg (nI_g0 (by omega) (by omega)), if_neg c5, b_210_248]
        exact m_err hM.1 (Or.inl (by omega))
    · rw [bI_F (show ¬ (((1 : Nat) : Int) ≤ (tkV T sz lim q : Int) ∧ (tkV T sz lim q : Int) ≤ ((3 : Nat) : Int)) from c4), if_neg (fun z => z rfl), if_neg (by rw [decide_eq_true_eq]; exact c4), b_210_205]
      exact m_err hM.1 (Or.inl (by omega))
  · rw [if_neg (fun z => c3 (kc.2.2.2.1.1 ((nI_eq (by omega) (by omega)).1 z))), b_210_187, decide_eq_false c3, Bool.false_and, if_neg (by decide), if_neg c3]
    exact m_err hM.1 (Or.inr rfl)
/-- along or across -/
theorem s_210A {h : Hp} {d q v : Nat} {X : Nat → Nat} (hd : X 2 = d) (hd9 : d < 10) (hx : dX X d ≤ 99) (hy : v ≤ 99) (hM : MH T sz lim h q X (d + 1)) (hv : hI h 64 13 = nI v) : MO T sz lim (b_210_120 (some 64) (nI d) (nI (110 + 10 * d)) h) h (dorA T sz lim q (upX X (111 + 10 * d) v) d) := by
  rw [b_210_120, gQ64_15 hM.1.1, Option.bind_some, gI64 hM.1.1, Option.bind_some, hv, nI_add, show 110 + 10 * d + 1 = 111 + 10 * d by omega]
  have hd2 : upX X (111 + 10 * d) v 2 = d := (upX_n (by omega)).trans hd
  have hx2 : dX (upX X (111 + 10 * d) v) d ≤ 99 := by unfold dX; rw [upX_n (by omega)]; exact hx
  have hy2 : dYy (upX X (111 + 10 * d) v) d ≤ 99 := by unfold dYy; rw [upX_i]; exact hy
  refine m_w hM (by omega) (by omega) (hM.2.2.up (by omega)) (fun g hG _ => ?_)
  generalize upX X (111 + 10 * d) v = Y at *
  have go : isW T sz lim q 2 = true ∨ isW T sz lim q 3 = true → MO T sz lim (b_210_154 (some 64) (nI d) (nI (110 + 10 * d)) g) g (dorL T sz lim (tkN T sz lim q) (upX Y (112 + 10 * d) (if isW T sz lim q 3 = true then 1 else 0)) d) := by
    intro _
    rw [b_210_154, gQ64_15 hG.1.1, Option.bind_some, rC64 hG.1.1, grd_e, Option.bind_some, s_193 hG.1.1 hG.1.2.2.1 hG.1.2.2.2 (by omega), Option.bind_some, nI_add, show 110 + 10 * d + 2 = 112 + 10 * d by omega]
    dsimp only
    rw [show mw 5 = 3 from rfl]
    have fin : ∀ z, z ≤ 1 → MO T sz lim (b_210_174 (some 64) (nI d) (nI (110 + 10 * d)) (some 67) (nI (112 + 10 * d)) (nI z) g) g (dorL T sz lim (tkN T sz lim q) (upX Y (112 + 10 * d) z) d) := by
      intro z hz
      rw [b_210_174]
      refine m_w hG (by omega) (by omega) (hG.2.2.up (by omega)) (fun g2 hG2 _ => ?_)
      refine m_st hG2 (fun g3 hG3 => ?_)
      exact s_210L ((upX_n (by omega)).trans hd2) hd9 (by unfold dX; rw [upX_n (by omega)]; exact hx2) (by unfold dYy; rw [upX_n (by omega)]; exact hy2) (by unfold dAc; rw [upX_i]; exact hz) hG3
    cases isW T sz lim q 3
    · rw [if_pos (show bI false = 0 from rfl), if_neg (by decide), b_210_173]
      exact fin 0 (by omega)
    · rw [if_neg (show ¬ bI true = 0 by decide), if_pos rfl, b_210_169]
      exact fin 1 (by omega)
  rw [rC64 hG.1.1, grd_e, Option.bind_some, s_193 hG.1.1 hG.1.2.2.1 hG.1.2.2.2 (by omega), Option.bind_some]
  dsimp only
  rw [show mw 4 = 2 from rfl]
  unfold dorA
  cases h2 : isW T sz lim q 2
  · rw [if_neg (show ¬ ¬ bI false = 0 from fun z => z rfl), b_210_140, rC64 hG.1.1, grd_e, Option.bind_some, s_193 hG.1.1 hG.1.2.2.1 hG.1.2.2.2 (by omega), Option.bind_some]
    dsimp only
    rw [show mw 5 = 3 from rfl]
    cases h3 : isW T sz lim q 3
    · rw [if_neg (show ¬ ¬ bI false = 0 from fun z => z rfl), if_neg (by decide), b_210_148]
      exact m_err hG.1 (Or.inr rfl)
    · rw [if_pos (show ¬ bI true = 0 by decide), if_pos (Or.inr rfl)]
      have := go (Or.inr h3)
      rw [h3] at this
      exact this
  · rw [if_pos (show ¬ bI true = 0 by decide), if_pos (Or.inl rfl)]
    exact go (Or.inl h2)
theorem zm1 {n : Nat} : zI ((n : Int) - 1) = nI n - nI 1 := by rw [nz, nz, zI_sub]; rfl
/-- from the name's end on -/
theorem s_210X {h : Hp} {d q : Nat} {X : Nat → Nat} (hd : X 2 = d) (hd9 : d < 10) (hk : tkK T sz lim q = 2) (hM : MH T sz lim h q X d) : MO T sz lim (b_210_58 (some 64) (nI d) (nI (110 + 10 * d)) h) h (dorX T sz lim (tkN T sz lim q) (upX X (1000 + d) (nV T sz lim q)) d) := by
  have hF := hM.1.1
  have vl : nV T sz lim q < 1125899906842625 := v_lt (B := 27) (by omega) (by omega) hM.1.2.2.2 hk
  have v12 : hJ h 64 12 = lN (nV T sz lim q) := hM.1.2.2.1.2.2.2.2.1 hk
  rw [b_210_58, gQ64_19 hF, Option.bind_some, gJ64 hF, Option.bind_some, v12, wJ71 hF (by omega), Option.bind_some]
  have z : Fz [67, 71] h (sJ h 71 d (lN (nV T sz lim q))) := Fz.sJ Fz.rfl' (Or.inl (by simp))
  have hG : MH T sz lim (sJ h 71 d (lN (nV T sz lim q))) q (upX X (1000 + d) (nV T sz lim q)) (d + 1) := by
    refine ⟨hM.1.cz z, ⟨fun j hj h4j => ?_, ?_, fun e he => ?_⟩, hM.2.2.up (by omega)⟩
    · rw [hI_sJ, upX_n (by omega)]; exact hM.2.1.1 j hj h4j
    · rw [hI_sJ, upX_n (by omega)]; exact hM.2.1.2.1
    · rw [hJ_sJ, upX_e]
      by_cases c : e = d
      · rw [if_pos ⟨rfl, c⟩, if_pos (by omega)]
      · rw [if_neg (fun z => c z.2), if_neg (by omega)]; exact hM.2.1.2.2 e (by omega)
  refine MO.pre ⟨z.wid (by decide), by rw [z.I (a := 64) (by decide)]⟩ ?_
  have hd2 : upX X (1000 + d) (nV T sz lim q) 2 = d := (upX_n (by omega)).trans hd
  generalize upX X (1000 + d) (nV T sz lim q) = Y at *
  generalize sJ h 71 d (lN (nV T sz lim q)) = g1 at *
  refine m_st hG (fun g hG => ?_)
  obtain ⟨w0, w1, _⟩ := id hG.2.2
  rw [gQ64_15 hG.1.1, Option.bind_some, mh_r hG (by omega) (by omega), Option.bind_some]
  unfold dorX
  refine m_num (A := fun g => b_210_90 (some 64) (nI d) (nI (110 + 10 * d)) g) (B := fun g => b_210_88 g) hG (a := 0) (b := (Y 0 : Int) - 1) rfl zm1 (by omega) (by omega) (fun g => rfl) (fun c g3 hG3 e3 => ?_) (fun c => by rw [c]; rfl)
  have nk := nmB_k c
  rw [c, if_pos rfl]
  show MO T sz lim (b_210_90 (some 64) (nI d) (nI (110 + 10 * d)) g3) g3 _
  rw [b_210_90, gQ64_15 hG3.1.1, Option.bind_some, gI64 hG3.1.1, Option.bind_some, e3, nI_add, show 110 + 10 * d + 0 = 110 + 10 * d by omega]
  have hd3 : upX Y (110 + 10 * d) (tkV T sz lim (tkN T sz lim q)) 2 = d := (upX_n (by omega)).trans hd2
  have hx3 : dX (upX Y (110 + 10 * d) (tkV T sz lim (tkN T sz lim q))) d ≤ 99 := by unfold dX; rw [upX_i]; omega
  refine m_w hG3 (by omega) (by omega) (hG3.2.2.up (by omega)) (fun g4 hG4 i4 => ?_)
  generalize upX Y (110 + 10 * d) (tkV T sz lim (tkN T sz lim q)) = Z at *
  obtain ⟨w3, w4, _⟩ := id hG4.2.2
  rw [gQ64_15 hG4.1.1, Option.bind_some, mh_r hG4 (by omega) (by omega), Option.bind_some]
  unfold dorY
  refine m_num (A := fun g => b_210_120 (some 64) (nI d) (nI (110 + 10 * d)) g) (B := fun g => b_210_118 g) hG4 (a := 0) (b := (Z 1 : Int) - 1) rfl zm1 (by omega) (by omega) (fun g => rfl) (fun c g5 hG5 e5 => ?_) (fun c => by rw [c]; rfl)
  have nk := nmB_k c
  rw [c, if_pos rfl]
  exact s_210A hd3 hd9 hx3 (by omega) hG5 e5
theorem isNm_k {q : Nat} (hn : isNm T sz lim q = true) : tkK T sz lim q = 2 := by
  unfold isNm at hn
  rw [Bool.and_eq_true, Bool.and_eq_true] at hn
  exact of_decide_eq_true hn.1.1
theorem s_210 {h : Hp} {q : Nat} {X : Nat → Nat} (hk : tkK T sz lim q ≠ 1) (hM : MH T sz lim h q X (X 2)) : MO T sz lim (f_210 (some 64) h) h (dorR T sz lim q X) := by
  obtain ⟨w0, w1, w2, _⟩ := id hM.2.2
  rw [f_210, b_210_0, gQ64_15 hM.1.1, Option.bind_some, mh_r hM (by omega) (by omega), Option.bind_some]
  unfold dorR
  by_cases c : X 2 = 10
  · rw [if_neg (fun z => z (by rw [c])), if_pos c, b_210_13]
    exact m_err hM.1 (Or.inl hk)
  · rw [if_pos (fun z => c ((nI_eq (by omega) (by omega)).1 z)), if_neg c, b_210_19, pk_mul, nI_add, bnd_e]
    refine m_st hM (fun g hG => ?_)
    rw [rC64 hG.1.1, grd_e, Option.bind_some, s_197 hG.1.1 hG.1.2.1 hG.1.2.2.1 hG.1.2.2.2, Option.bind_some]
    dsimp only
    unfold dorN
    cases hn : isNm T sz lim (tkN T sz lim q)
    · rw [if_neg (show ¬ ¬ bI false = 0 from fun z => z rfl), if_pos rfl, b_210_38]
      exact m_err hG.1 (Or.inr rfl)
    · have k2 := isNm_k hn
      rw [if_pos (show ¬ bI true = 0 by decide), if_neg (by decide), b_210_44, rC64 hG.1.1, grd_e, Option.bind_some, s_208 hG (Nat.le_refl _) k2, Option.bind_some]
      dsimp only
      by_cases c2 : fdN X (nV T sz lim (tkN T sz lim q)) < X 2
      · rw [if_pos c2, if_neg (nI_m1 (by omega)), if_pos c2, b_210_52]
        exact m_err hG.1 (Or.inl (by omega))
      · rw [if_neg c2, if_pos rfl, if_neg c2]
        exact s_210X rfl (by omega) k2 hG
end HRO
