/-! the reference reads a day -/
abbrev ZY : List Nat := [68, 48000064, 6000064, 7000064, 8000064, 9000064, 10000064, 13000064, 11000064, 12000064, 14000064]
def FY (h g : Hp) : Prop := Fz ZY h g ∧ hI g 64 10 = hI h 64 10
section DAYM
variable {T : Nat → Nat} {sz lim : Nat} {N E : Nat → Nat} {ne : Nat}
def MYs (T : Nat → Nat) (sz lim : Nat) (N : Nat → Nat) (ne : Nat) (E : Nat → Nat) (h : Hp) (q : Nat) (X : Nat → Nat) (n : Nat) : Prop := MTk h T sz lim q ∧ (NowE h E ∧ E 2 = ne ∧ ne ≤ 10 ∧ ∀ d, d < ne → hJ h 70 d = lN (N d) ∧ N d < 1125899906842625) ∧ hI h 64 47 = nI (X 900) ∧ ∀ i, i < n → hI h 68 i = nI (X i)
def RsY (T : Nat → Nat) (sz lim : Nat) (N : Nat → Nat) (ne : Nat) (E : Nat → Nat) (h g : Hp) : RsT → Prop
  | .error (k, a) => hI g 64 10 = nI k ∧ hI g 64 11 = nI a
  | .ok (q, X) => MYs T sz lim N ne E g q X (2 * X 900) ∧ hI g 64 10 = hI h 64 10
def MOy (T : Nat → Nat) (sz lim : Nat) (N : Nat → Nat) (ne : Nat) (E : Nat → Nat) (o : Option (Int32 × Hp)) (h : Hp) (r : RsT) : Prop := ∃ g, o = some (bI (okB r), g) ∧ Fz ZY h g ∧ RsY T sz lim N ne E h g r
theorem MOy.pre {o : Option (Int32 × Hp)} {h g : Hp} {r : RsT} (hz : FY h g) (hM : MOy T sz lim N ne E o g r) : MOy T sz lim N ne E o h r := by
  obtain ⟨f, a1, a2, a3⟩ := hM
  refine ⟨f, a1, hz.1.then a2, ?_⟩
  cases r with
  | error e => exact a3
  | ok x => exact ⟨a3.1, a3.2.trans hz.2⟩
theorem y_err {h : Hp} {q k : Nat} (hC : MTk h T sz lim q) (hk : tkK T sz lim q ≠ 1 ∨ k = 1) : MOy T sz lim N ne E ((grd (rC 11 (some 64) h)).bind fun _ => (f_198 (some 64) (nI k) h).bind fun p1 => (grd (decide (p1.1 = 0 ∨ p1.1 = 1))).bind fun _ => some (p1.1, p1.2)) h (erA T sz lim k q) := by
  obtain ⟨g, a1, a2, a3, a4⟩ := s_198 (k := k) hC
  refine ⟨g, by rw [rC64 hC.1, grd_e, Option.bind_some, a1, Option.bind_some]; rfl, a2.wid (by decide), ?_, a4⟩
  rw [a3]
  rcases hk with e | e
  · rw [if_neg e]
  · rw [e]; split <;> rfl
theorem MYs.fz {h g : Hp} {q q' n : Nat} {X : Nat → Nat} {Z : List Nat} (s : MYs T sz lim N ne E h q X n) (hT : MTk g T sz lim q') (hz : Fz Z h g) (h66 : ∀ z, z ∈ Z → z % 1000000 ≠ 66) (h70 : ∀ z, z ∈ Z → z % 1000000 ≠ 70) (h68 : ∀ z, z ∈ Z → z % 1000000 ≠ 68) (h47 : (64 : Nat) ∉ Z ∧ 48000064 ∉ Z) : MYs T sz lim N ne E g q' X n := by
  obtain ⟨s1, ⟨s2, s3, s4, s5⟩, s6, s7⟩ := s
  exact ⟨hT, ⟨s2.cg (hz.I h66), s3, s4, by rw [hz.J h70]; exact s5⟩, by rw [hz.I1 h47.1 h47.2]; exact s6, by rw [hz.I h68]; exact s7⟩
theorem y_step {h : Hp} {q n : Nat} {X : Nat → Nat} (s : MYs T sz lim N ne E h q X n) : ∃ g, f_189 (some 64) h = some g ∧ FY h g ∧ MYs T sz lim N ne E g (tkN T sz lim q) X n := by
  obtain ⟨g, a1, a2, a3⟩ := m_step s.1
  exact ⟨g, a1, ⟨a2.wid (by decide), a2.I1 (by decide) (by decide)⟩, s.fz a3 a2 (by decide) (by decide) (by decide) (by decide)⟩
theorem MTk.cy {h g : Hp} {q : Nat} {Z : List Nat} (hC : MTk h T sz lim q) (hF : Fix g) (i : ∀ j, j < 47 → hI g 64 j = hI h 64 j) (j : hJ g 64 = hJ h 64) (b : hI g 65 = hI h 65) : MTk g T sz lim q := by
  obtain ⟨c1, ⟨m1, m2, m3, m4, m5⟩, ⟨t1, t2, t3, t4, t5, t6⟩, c4⟩ := hC
  exact ⟨hF, ⟨by rw [i 3 (by omega)]; exact m1, by rw [i 4 (by omega)]; exact m2, m3, m4, fun x hx => by rw [b]; exact m5 x hx⟩, ⟨by rw [i 7 (by omega)]; exact t1, by rw [i 6 (by omega)]; exact t2, by rw [i 5 (by omega)]; exact t3, fun z => by rw [i 9 (by omega)]; exact t4 z, fun z => by rw [j]; exact t5 z, fun z => by rw [i 8 (by omega)]; exact t6 z⟩, c4⟩
/-- a number of the draft written -/
theorem y_w {h : Hp} {q n i v : Nat} {X : Nat → Nat} {A : Hp → Option (Int32 × Hp)} {r : RsT} (s : MYs T sz lim N ne E h q X n) (hi : i < 120) (hn : i ≤ n) (hA : ∀ g, MYs T sz lim N ne E g q (upX X i v) (if i = n then n + 1 else n) → hI g 64 = hI h 64 → MOy T sz lim N ne E (A g) g r) : MOy T sz lim N ne E ((wI (some 68) (nI i) (nI v) h).bind fun g => A g) h r := by
  obtain ⟨s1, ⟨s2, s3, s4, s5⟩, s6, s7⟩ := s
  have z : Fz [68] h (sI h 68 i (nI v)) := Fz.sI Fz.rfl' (Or.inl (by simp))
  have i64 : hI (sI h 68 i (nI v)) 64 = hI h 64 := z.I (by decide)
  rw [wI68 s1.1 hi, Option.bind_some]
  refine MOy.pre ⟨z.wid (by decide), by rw [i64]⟩ (hA _ ⟨s1.cy (Z := []) (fx_sI s1.1 (by omega)) (fun j _ => by rw [i64]) rfl (z.I (by decide)), ⟨s2.cg (z.I (by decide)), s3, s4, s5⟩, by rw [i64, upX_n (by omega)]; exact s6, fun j hj => ?_⟩ i64)
  rw [hI_sI, upX_e]
  by_cases c : j = i
  · rw [if_pos ⟨rfl, c⟩, if_pos c]
  · rw [if_neg (fun z => c z.2), if_neg c]
    refine s7 j ?_
    split at hj <;> omega
theorem s_267e {h : Hp} {q c : Nat} {X : Nat → Nat} (s : MYs T sz lim N ne E h q X (2 * c + 2)) (hc : X 900 = c) (hc60 : c < 60) : MOy T sz lim N ne E (b_267_268 (some 64) h) h (dyE T sz lim (.ok (q, X))) := by
  obtain ⟨s1, ⟨s2, s3, s4, s5⟩, s6, s7⟩ := s
  have hF := s1.1
  have z : Fz [48000064] h (sI h 64 47 (nI (c + 1))) := Fz.sI Fz.rfl' (Or.inr (by simp))
  have i64 : ∀ j, j ≠ 47 → hI (sI h 64 47 (nI (c + 1))) 64 j = hI h 64 j := fun j hj => by rw [hI_sI, if_neg (by omega)]
  have M1 : MYs T sz lim N ne E (sI h 64 47 (nI (c + 1))) q (upX X 900 (c + 1)) (2 * (c + 1)) := by
    refine ⟨s1.cy (Z := []) (fx_sI hF (by omega)) (fun j hj => i64 j (by omega)) rfl (z.I (by decide)), ⟨s2.cg (z.I (by decide)), s3, s4, s5⟩, ?_, fun j hj => ?_⟩
    · rw [hI_sI, upX_i]; exact if_pos ⟨rfl, rfl⟩
    · rw [z.I (by decide), upX_n (by omega)]; exact s7 j (by omega)
  obtain ⟨g, a1, a2, a3, a4⟩ := s_200 M1.1
  rw [b_267_268, gI64 hF, Option.bind_some, s6, hc, nI_add, pI64 hF, Option.bind_some, rC64 M1.1.1, grd_e, Option.bind_some, a1, Option.bind_some]
  dsimp only
  show MOy T sz lim N ne E _ h (if tkK T sz lim q = 59 then .ok (tkN T sz lim q, upX X 900 (X 900 + 1)) else erA T sz lim 1 q)
  by_cases e : tkK T sz lim q = 59
  · rw [if_pos e, bI_T e, grd1, Option.bind_some, hc]
    refine ⟨g, rfl, (z.wid (by decide)).then (a2.wid (by decide)), ?_, by rw [(a3 e).2, i64 10 (by omega)]⟩
    rw [upX_i]
    exact M1.fz (a3 e).1 a2 (by decide) (by decide) (by decide) (by decide)
  · rw [if_neg e, bI_F e, grd0, Option.bind_some]
    exact ⟨g, rfl, (z.wid (by decide)).then (a2.wid (by decide)), a4 e⟩
theorem l_267n {h : Hp} {q n : Nat} {X : Nat → Nat} {v2 v4 : Int32} (s : MYs T sz lim N ne E h q X n) (hk : tkK T sz lim q = 2) : ∀ r i m, i + r = ne → l_267_99 (r + 1 + m) (some 64) v2 v4 (nI i) h = b_267_129 (some 64) v2 v4 (nI (ffi (fun d => decide (N d = nV T sz lim q)) i r)) h := by
  obtain ⟨s1, ⟨s2, s3, s4, s5⟩, s6, s7⟩ := s
  have hF := s1.1
  have vl' : nV T sz lim q < 1125899906842625 := v_lt (B := 27) (by omega) (by omega) s1.2.2.2 hk
  have v12 : hJ h 64 12 = lN (nV T sz lim q) := s1.2.2.1.2.2.2.2.1 hk
  intro r
  induction r with
  | zero =>
    intro i m hi
    rw [Nat.zero_add, Nat.add_comm 1 m, l_267_99, b_267_99, rC64 hF, grd_e, Option.bind_some, s_203 hF s2, Option.bind_some]
    dsimp only
    rw [s3, if_pos (by rw [nI_leI (by omega) (by omega)]; omega)]
    rfl
  | succ r ih =>
    intro i m hi
    have wi := s5 i (by omega)
    rw [show r + 1 + 1 + m = (r + 1 + m) + 1 by omega, l_267_99, b_267_99, rC64 hF, grd_e, Option.bind_some, s_203 hF s2, Option.bind_some]
    dsimp only
    rw [s3, if_neg (by rw [nI_leI (by omega) (by omega)]; omega), b_267_108, gQ64_18 hF, Option.bind_some, aJ70 hF (by omega), Option.bind_some, gJ64 hF, Option.bind_some, v12, wi.1]
    simp only [lc0, fb_lN_inj (show N i < 2 ^ 63 by omega) (show nV T sz lim q < 2 ^ 63 by omega)]
    by_cases c : N i = nV T sz lim q
    · have e : ffi (fun d => decide (N d = nV T sz lim q)) i (r + 1) = i := if_pos (decide_eq_true c)
      rw [if_pos c, e]
    · have e : ffi (fun d => decide (N d = nV T sz lim q)) i (r + 1) = ffi (fun d => decide (N d = nV T sz lim q)) (i + 1) r := if_neg (by rw [decide_eq_true_eq]; exact c)
      rw [if_neg c, b_267_123, bnd_e, nI_add, ih (i + 1) m (by omega), e]
/-- a swing -/
theorem s_267s {h : Hp} {q c : Nat} {X : Nat → Nat} {o : Bool} (s : MYs T sz lim N ne E h q X (2 * c)) (hc : X 900 = c) (hc60 : c < 60) : MOy T sz lim N ne E (b_267_83 (some 64) (bI o) (nI (2 * c)) h) h (dyE T sz lim (dyS T sz lim N ne q X (if o = true then 4 else 5))) := by
  have hF := s.1.1
  have ne10 := s.2.1.2.2.1
  rw [b_267_83, rC64 hF, grd_e, Option.bind_some, s_197 hF s.1.2.1 s.1.2.2.1 s.1.2.2.2, Option.bind_some]
  dsimp only
  unfold dyS
  cases hn : isNm T sz lim q
  · rw [if_neg (show ¬ ¬ bI false = 0 from fun z => z rfl), if_pos rfl, b_267_90]
    exact y_err s.1 (Or.inr rfl)
  · have k2 := isNm_k hn
    obtain ⟨m, hm⟩ := FU_ge (ne + 1) (by omega)
    have fe : ffi (fun d => decide (N d = nV T sz lim q)) 0 ne = fdD N ne (nV T sz lim q) := rfl
    have fl := (ffi_le (fun d => decide (N d = nV T sz lim q)) ne 0).2
    rw [fe] at fl
    rw [if_pos (show ¬ bI true = 0 by decide), if_neg (show ¬ true = false by decide), b_267_96, bnd_e, hm, l_267n s k2 ne 0 m (by omega), fe, b_267_129, rC64 hF, grd_e, Option.bind_some, s_203 hF s.2.1.1, Option.bind_some]
    dsimp only
    rw [s.2.1.2.1]
    by_cases c3 : ne ≤ fdD N ne (nV T sz lim q)
    · rw [if_neg (fun z => z (by rw [show fdD N ne (nV T sz lim q) = ne by omega])), if_pos c3, b_267_138]
      exact y_err s.1 (Or.inl (by omega))
    · rw [if_pos (nI_nn (by omega) (by omega) (by omega)), if_neg c3, b_267_144, gQ64_16 hF, Option.bind_some, hc]
      generalize fdD N ne (nV T sz lim q) = k at *
      have fin : ∀ w, MOy T sz lim N ne E (b_267_159 (some 64) (nI (2 * c)) (nI k) (some 68) (nI (2 * c)) (nI w) h) h (dyE T sz lim (.ok (tkN T sz lim q, upX (upX X (2 * c) w) (2 * c + 1) k))) := by
        intro w
        rw [b_267_159]
        refine y_w s (by omega) (Nat.le_refl _) (fun g hG _ => ?_)
        rw [if_pos rfl] at hG
        rw [gQ64_16 hG.1.1, Option.bind_some, nI_add]
        refine y_w hG (by omega) (Nat.le_refl _) (fun g2 hG2 _ => ?_)
        rw [if_pos rfl] at hG2
        obtain ⟨g3, a1, a2, a3⟩ := y_step hG2
        rw [rC64 hG2.1.1, grd_e, Option.bind_some, a1, Option.bind_some]
        refine MOy.pre a2 (s_267e a3 ?_ hc60)
        rw [upX_n (by omega), upX_n (by omega)]; exact hc
      cases o
      · rw [if_pos (show bI false = 0 from rfl), b_267_158]
        exact fin 5
      · rw [if_neg (show ¬ bI true = 0 by decide), b_267_154]
        exact fin 4
/-- the times of going and waiting -/
theorem s_267t {h : Hp} {q c : Nat} {X : Nat → Nat} (s : MYs T sz lim N ne E h q X (2 * c + 1)) (hc : X 900 = c) (hc60 : c < 60) : MOy T sz lim N ne E (b_267_243 (some 64) (nI (2 * c)) h) h (dyE T sz lim (dyT T sz lim q X)) := by
  have hF := s.1.1
  obtain ⟨g, a1, a2, a3, a4⟩ := s_199 (a := 1) (b := 30) s.1 (by omega) (by omega)
  have ex : f_199 (some 64) (nI 1) (nI 30) h = some (bI (nmB T sz lim q 1 30), g) := a1
  rw [b_267_243, rC64 hF, grd_e, Option.bind_some, ex, Option.bind_some]
  dsimp only
  unfold dyT
  cases cb : nmB T sz lim q 1 30
  · rw [if_neg (show ¬ ¬ bI false = 0 from fun z => z rfl), if_neg (show ¬ false = true by decide), b_267_253, grd0, Option.bind_some]
    exact ⟨g, rfl, a2.wid (by decide), a4 cb⟩
  · obtain ⟨b1, b2, b3⟩ := a3 cb
    have sg := s.fz b1 a2 (by decide) (by decide) (by decide) (by decide)
    rw [if_pos (show ¬ bI true = 0 by decide), if_pos rfl, b_267_255, gQ64_16 b1.1, Option.bind_some, gI64 b1.1, Option.bind_some, b2, nI_add, hc]
    refine MOy.pre ⟨a2.wid (by decide), b3⟩ ?_
    refine y_w sg (by omega) (Nat.le_refl _) (fun g2 hG2 _ => ?_)
    rw [if_pos rfl] at hG2
    exact s_267e hG2 ((upX_n (by omega)).trans hc) hc60
theorem l_267d {h : Hp} {q n : Nat} {X : Nat → Nat} {v4 : Int32} (s : MYs T sz lim N ne E h q X n) : ∀ r i m, i + r = 4 → l_267_194 (r + 1 + m) (some 64) v4 (nI i) h = b_267_218 (some 64) v4 (nI (ffi (fun k => isW T sz lim q (13 + k)) i r)) h := by
  have hF := s.1.1
  intro r
  induction r with
  | zero =>
    intro i m hi
    rw [Nat.zero_add, Nat.add_comm 1 m, l_267_194, b_267_194, if_pos (by rw [nI_leI (by omega) (by omega)]; omega)]
    rfl
  | succ r ih =>
    intro i m hi
    have em : mw (13 + i) = 13 + i := by
      rcases (show i = 0 ∨ i = 1 ∨ i = 2 ∨ i = 3 by omega) with e | e | e | e <;> subst e <;> rfl
    rw [show r + 1 + 1 + m = (r + 1 + m) + 1 by omega, l_267_194, b_267_194, if_neg (by rw [nI_leI (by omega) (by omega)]; omega), b_267_200, rC64 hF, grd_e, Option.bind_some, nI_add, s_193 hF s.1.2.2.1 s.1.2.2.2 (by omega), Option.bind_some, em]
    dsimp only
    have st : ffi (fun k => isW T sz lim q (13 + k)) i (r + 1) = if isW T sz lim q (13 + i) = true then i else ffi (fun k => isW T sz lim q (13 + k)) (i + 1) r := rfl
    rw [st]
    cases isW T sz lim q (13 + i)
    · rw [if_neg (show ¬ ¬ bI false = 0 from fun z => z rfl), if_neg (by decide), b_267_212, bnd_e, nI_add]
      exact ih (i + 1) m (by omega)
    · rw [if_pos (show ¬ bI true = 0 by decide), if_pos rfl]
theorem sdN_f (q : Nat) : ffi (fun k => isW T sz lim q (13 + k)) 0 4 = sdN T sz lim q := rfl
end DAYM
