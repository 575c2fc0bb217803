/-! lines leave the count of lines -/
def N9 (c : Nat) : RsT → Prop
  | .error _ => True
  | .ok (_, Y) => Y 900 = c
section NINE
variable {T : Nat → Nat} {sz lim : Nat} {X : Nat → Nat} {c : Nat}
theorem dorW_9 {d q : Nat} (hd : d < 10) (hb : BD X d) (h9 : X 900 = c) : N9 c (dorW T sz lim q X d) := by
  have fin : ∀ v, dorE (upX X (117 + 10 * d) v) d 900 = c := fun v => by
    have hb1 : BD (upX X (117 + 10 * d) v) d := hb.up (by omega)
    unfold dorE
    rw [upX_n (by omega), filX_n _ hb1 _ (by omega), upX_n (by omega)]
    exact h9
  unfold dorW
  split
  · exact fin 1
  · exact fin 0
theorem dorC_9 {d q : Nat} (hd : d < 10) (hb : BD X d) (h9 : X 900 = c) : N9 c (dorC T sz lim q X d) := by
  unfold dorC
  split
  · split
    · exact dorW_9 hd ((hb.up (by omega)).up (by omega)) (by rw [upX_n (by omega), upX_n (by omega)]; exact h9)
    · trivial
  · exact dorW_9 hd (hb.up (by omega)) (by rw [upX_n (by omega)]; exact h9)
theorem dorT_9 {d : Nat} (hd : d < 10) : ∀ r q (X : Nat → Nat), BD X d → X 900 = c → N9 c (dorT T sz lim d r q X) := by
  intro r
  induction r with
  | zero => intro q X hb h9; exact dorC_9 hd hb h9
  | succ r ih =>
    intro q X hb h9
    unfold dorT
    split
    · split
      · split
        · trivial
        · exact ih _ _ (hb.up (by omega)) (by rw [upX_n (by omega)]; exact h9)
      · trivial
    · exact dorC_9 hd hb h9
theorem dorL_9 {d q : Nat} (hd : d < 10) (h0 : X 0 ≤ 10) (h1 : X 1 ≤ 10) (h9 : X 900 = c) : N9 c (dorL T sz lim q X d) := by
  unfold dorL
  split
  · split
    · rename_i c0
      have d0 := (dwR_0 _ _ _ c0).2
      have hb : BD (upX X (113 + 10 * d) (tkV T sz lim q)) d := by
        have e0 : dX (upX X (113 + 10 * d) (tkV T sz lim q)) d = dX X d := upX_n (by omega)
        have e1 : dYy (upX X (113 + 10 * d) (tkV T sz lim q)) d = dYy X d := upX_n (by omega)
        have e2 : dAc (upX X (113 + 10 * d) (tkV T sz lim q)) d = dAc X d := upX_n (by omega)
        have e3 : dLn (upX X (113 + 10 * d) (tkV T sz lim q)) d = tkV T sz lim q := upX_i _ _ _
        unfold BD
        rw [e0, e1, e2, e3]
        intro i hi
        have := d0 i (by omega) (by omega)
        omega
      unfold dorH
      split
      · exact dorT_9 hd 4 _ _ ((hb.up (by omega)).up (by omega)) (by rw [upX_n (by omega), upX_n (by omega), upX_n (by omega)]; exact h9)
      · trivial
    · trivial
  · trivial
theorem dorR_9 {q : Nat} (h0 : X 0 ≤ 10) (h1 : X 1 ≤ 10) (h2 : X 2 ≤ 10) (h9 : X 900 = c) : N9 c (dorR T sz lim q X) := by
  unfold dorR
  split
  · trivial
  · unfold dorN
    split
    · trivial
    · split
      · trivial
      · unfold dorX
        split
        · unfold dorY
          split
          · unfold dorA
            split
            · exact dorL_9 (by omega) (by rw [upX_n (by omega), upX_n (by omega), upX_n (by omega), upX_n (by omega)]; exact h0) (by rw [upX_n (by omega), upX_n (by omega), upX_n (by omega), upX_n (by omega)]; exact h1) (by rw [upX_n (by omega), upX_n (by omega), upX_n (by omega), upX_n (by omega)]; exact h9)
            · trivial
          · trivial
        · trivial
theorem rulT_9 {j : Nat} (hj : j < 6) : ∀ r i q (X : Nat → Nat) b, i + r = 3 → X 900 = c → N9 c (rulT T sz lim j r i q X b) := by
  intro r
  induction r with
  | zero => intro i q X b _ h9; exact (upX_n (by omega)).trans h9
  | succ r ih =>
    intro i q X b hi h9
    unfold rulT
    split
    · trivial
    · split
      · trivial
      · split
        · trivial
        · exact ih (i + 1) _ _ _ (by omega) ((upX_n (by omega)).trans h9)
theorem kinR_9 {q : Nat} (hq : q ≤ sz) (hW : WF X) (h9 : X 900 = c) : N9 c (kinR T sz lim q X) := by
  obtain ⟨w0, w1, w2, w3, _⟩ := id hW
  have nl := tkN_le (T := T) (lim := lim) hq
  unfold kinR
  split
  · unfold rowR
    split
    · trivial
    · split
      · trivial
      · rename_i c2
        have tw := tk_word (T := T) (lim := lim) nl.2 (Decidable.of_not_not c2)
        split
        · trivial
        · show upX _ 1 _ 900 = c
          rw [upX_n (by omega), rowX_n (by rw [upX_n (by omega)]; omega) _ (by omega) _ (by omega), upX_n (by omega)]
          exact h9
  · split
    · exact dorR_9 w0 w1 w2 h9
    · split
      · unfold rulR
        split
        · trivial
        · exact rulT_9 (by omega) 3 0 _ X 0 rfl h9
      · split
        · unfold stdR
          split
          · trivial
          · split
            · trivial
            · split
              · trivial
              · split
                · trivial
                · exact (upX_n (by omega)).trans h9
        · trivial
end NINE
/-! the class reads a house -/
/-- a door told, traced or not -/
def DPs (h : Hp) (p : Nat) (X : Nat → Nat) (d : Nat) : Prop := (hK h p = 1 ∧ hQ h p 0 = some (p + 1) ∧ hQ h p 1 = some (p + 2) ∧ hQ h p 2 = some (p + 3) ∧ hQ h p 3 = some (p + 4) ∧ hQ h p 4 = some (p + 5)) ∧ ((hK h (p + 1) = 13 ∧ hL h (p + 1) = 12) ∧ (hK h (p + 2) = 13 ∧ hL h (p + 2) = 12) ∧ (hK h (p + 3) = 13 ∧ hL h (p + 3) = 4) ∧ (hK h (p + 4) = 13 ∧ hL h (p + 4) = 4) ∧ (hK h (p + 5) = 12 ∧ hL h (p + 5) = 4)) ∧ (∃ w, hJ h p 5 = lN w ∧ NmR (X (1000 + d)) w) ∧ ∀ k, 6 ≤ k → k < 14 → hI h p k = nI (X (104 + k + 10 * d))
def HK (h : Hp) (b : Nat) (X : Nat → Nat) (k : Nat) : Prop := SB h b ∧ (hI h (b + 1) 3 = nI (X 0) ∧ hI h (b + 1) 4 = nI (X 1) ∧ hI h (b + 1) 5 = nI (X 2) ∧ hI h (b + 1) 6 = nI (X 3) ∧ hI h (b + 1) 7 = mI (X 4) ∧ hI h (b + 1) 8 = nI (X 900)) ∧ (∀ c, c < 100 → hI h (b + 2) c = nI (cellV X c)) ∧
  (∀ d, d < X 2 → hQ h (b + 3) d = some (b + 5 + 6 * d) ∧ DPs h (b + 5 + 6 * d) X d ∧ (d < k → TV h (b + 5 + 6 * d) X d 4) ∧ (k ≤ d → SD h (b + 5 + 6 * d))) ∧ (∀ i, i < 3 * X 3 → hI h (b + 4) i = nI (X (310 + i)))
theorem CN.hk {h : Hp} {b : Nat} {X : Nat → Nat} (hC : CN h b X (cellV X)) : HK h b X 0 := by
  obtain ⟨n1, n2, n3, n4, n5⟩ := hC
  refine ⟨n1, n2, n3, fun d hd => ?_, n5⟩
  obtain ⟨a1, a2, a3, a4⟩ := n4 d hd
  exact ⟨a1, ⟨a2.1, a2.2.1, a3, a4⟩, fun z => absurd z (by omega), fun _ => a2⟩
theorem TV.cg {h g : Hp} {p d n : Nat} {X : Nat → Nat} (tv : TV h p X d n) (e1 : hJ g (p + 1) = hJ h (p + 1)) (e2 : hJ g (p + 2) = hJ h (p + 2)) (e3 : hJ g (p + 3) = hJ h (p + 3)) (e4 : hJ g (p + 4) = hJ h (p + 4)) (e5 : hI g (p + 5) = hI h (p + 5)) : TV g p X d n := by
  unfold TV at *
  rw [e1, e2, e3, e4, e5]
  exact tv
theorem DPs.cg {h g : Hp} {p d : Nat} {X : Nat → Nat} (s : DPs h p X d) (eK : hK g = hK h) (eL : hL g = hL h) (eQ : hQ g = hQ h) (e1 : hI g p = hI h p) (e2 : hJ g p = hJ h p) : DPs g p X d := by
  unfold DPs at *
  rw [eK, eL, eQ, e1, e2]
  exact s
theorem HK.st {h : Hp} {b k : Nat} {X : Nat → Nat} (hW : WF X) (hb : 98 ≤ b ∧ b + 200 ≤ 1000000) (hk : k < X 2) (H : HK h b X k) : ∃ g, f_17 (some (b + 5 + 6 * k)) (some (b + 1)) h = some g ∧ Fz (ZD (b + 5 + 6 * k)) h g ∧ HK g b X (k + 1) := by
  obtain ⟨n1, n2, n3, n4, n5⟩ := H
  obtain ⟨w0, w1, w2, w3, w4, w5, w6, _⟩ := id hW
  obtain ⟨a1, a2, a3, a4⟩ := n4 k hk
  have s := a4 (Nat.le_refl _)
  have wd := (w6 k hk).1
  have iv : ∀ j i, j = 104 + i + 10 * k → 6 ≤ i → i < 14 → hI h (b + 5 + 6 * k) i = nI (X j) := fun j i e h1 h2 => by rw [e]; exact a2.2.2.2 i h1 h2
  have t : TC h (b + 5 + 6 * k) (b + 1) X k := by
    refine ⟨a2.1.1, ⟨a2.1.2.1, a2.1.2.2.1⟩, a2.2.1.1, a2.2.1.2.1, ⟨iv _ 6 (by omega) (by omega) (by omega), iv _ 7 (by omega) (by omega) (by omega), iv _ 8 (by omega) (by omega) (by omega), iv _ 9 (by omega) (by omega) (by omega)⟩, ⟨n1.2.1.1, n1.2.1.2.1, n1.2.2.1.1, n1.2.2.1.2, n2.1, n2.2.1, ⟨w0, w1⟩, n3⟩, by omega, by omega⟩
  obtain ⟨g, b1, b2, b3⟩ := s_17 hW t s
  refine ⟨g, b1, b2, ?_⟩
  have zm : ∀ z, z ∈ ZD (b + 5 + 6 * k) → b + 5 + 6 * k + 1 ≤ z % 1000000 ∧ z % 1000000 ≤ b + 5 + 6 * k + 5 := by
    intro z hz
    unfold ZD at hz
    simp only [List.mem_cons, List.not_mem_nil, or_false] at hz
    omega
  have eI : ∀ a, a < 1000000 → (a ≤ b + 5 + 6 * k ∨ b + 5 + 6 * k + 6 ≤ a) → hI g a = hI h a := fun a ha h1 => b2.I (fun z hz e => by have := zm z hz; omega) ha
  have eJ : ∀ a, a < 1000000 → (a ≤ b + 5 + 6 * k ∨ b + 5 + 6 * k + 6 ≤ a) → hJ g a = hJ h a := fun a ha h1 => b2.J (fun z hz e => by have := zm z hz; omega) ha
  refine ⟨n1.cg b2.K b2.L ⟨by rw [b2.Q], by rw [b2.Q]⟩, by rw [eI (b + 1) (by omega) (by omega)]; exact n2, by rw [eI (b + 2) (by omega) (by omega)]; exact n3, fun d hd => ?_, by rw [eI (b + 4) (by omega) (by omega)]; exact n5⟩
  obtain ⟨c1, c2, c3, c4⟩ := n4 d hd
  refine ⟨by rw [b2.Q]; exact c1, c2.cg b2.K b2.L b2.Q (eI _ (by omega) (by omega)) (eJ _ (by omega) (by omega)), fun hd1 => ?_, fun hd1 => ?_⟩
  · by_cases e : d = k
    · subst e; exact b3
    · exact (c3 (by omega)).cg (eJ _ (by omega) (by omega)) (eJ _ (by omega) (by omega)) (eJ _ (by omega) (by omega)) (eJ _ (by omega) (by omega)) (eI _ (by omega) (by omega))
  · refine (c4 (by omega)).cg (fun a ha => ⟨by rw [b2.K], by rw [b2.L], eI a (by omega) (by omega), eJ a (by omega) (by omega), by rw [b2.Q]⟩)
theorem l_56t {h0 : Hp} {b : Nat} {X : Nat → Nat} (hW : WF X) : ∀ r k m h, k + r = X 2 → HK h b X k → FR h0 h b (X 2) → Fix h → ∃ g, l_56_72 (r + 1 + m) (some b) (nI k) h = some (some (b + 1), g) ∧ HK g b X (X 2) ∧ FR h0 g b (X 2) ∧ Fix g ∧ hI g 31 = hI h 31 := by
  have w2 := hW.2.2.1
  intro r
  induction r with
  | zero =>
    intro k m h hk H hf hF
    have e : k = X 2 := by omega
    subst e
    refine ⟨h, ?_, H, hf, hF, rfl⟩
    rw [Nat.zero_add, Nat.add_comm 1 m, l_56_72, b_56_72, q51 H.1, Option.bind_some, i4 H.1, Option.bind_some, H.2.1.2.2.1, if_pos (by rw [nI_leI (by omega) (by omega)]; exact Nat.le_refl _), b_56_105, q51 H.1, Option.bind_some]
  | succ r ih =>
    intro k m h hk H hf hF
    have bb := hf.2.2.1
    obtain ⟨g, a1, a2, a3⟩ := HK.st hW ⟨bb.1, bb.2.1⟩ (show k < X 2 by omega) H
    have zm : ∀ z, z ∈ ZD (b + 5 + 6 * k) → (b + 5 + 6 * k + 1 ≤ z ∧ z ≤ b + 5 + 6 * k + 5) ∧ z % 1000000 = z := by
      intro z hz
      unfold ZD at hz
      simp only [List.mem_cons, List.not_mem_nil, or_false] at hz
      exact ⟨by omega, Nat.mod_eq_of_lt (by omega)⟩
    have hf' : FR h0 g b (X 2) := by
      obtain ⟨f1, f2, f3, f4, f5, f6⟩ := hf
      exact ⟨f1.thn a2.fa (fun y hy => by have := zm y hy; omega), f2, ⟨f3.1, f3.2.1, by rw [a2.I (fun z hz e => by have := zm z hz; omega)]; exact f3.2.2⟩, by rw [a2.N]; exact f4, by rw [a2.C, a2.N]; exact f5, by rw [a2.S]; exact f6⟩
    have F' : Fix g := a2.fix hF (fun z hz => by have := zm z hz; omega)
    obtain ⟨g2, b1, b2, b3, b4, b5⟩ := ih (k + 1) m g (by omega) a3 hf' F'
    refine ⟨g2, ?_, b2, b3, b4, b5.trans (a2.I (fun z hz e => by have := zm z hz; omega))⟩
    obtain ⟨c1, c2, _⟩ := H.2.2.2.1 k (by omega)
    rw [← b1, show r + 1 + 1 + m = (r + 1 + m) + 1 by omega, l_56_72, b_56_72, q51 H.1, Option.bind_some, i4 H.1, Option.bind_some, H.2.1.2.2.1, if_neg (by rw [nI_leI (by omega) (by omega)]; omega), b_56_83, q51 H.1, Option.bind_some, q41 H.1, Option.bind_some, aQ_n H.1.2.2.2.1.1 (by omega) H.1.2.2.2.1.2 (by omega) (by omega), Option.bind_some, c1, Option.bind_some, rC_e c2.1.1 (by omega), grd_e, Option.bind_some, a1, Option.bind_some, bnd_e, nI_add]
section HOUSE
variable {T : Nat → Nat} {sz lim : Nat}
theorem l_56 {h0 : Hp} {b : Nat} : ∀ r p X n m h, sz < p + r → 2 * n ≤ p → p ≤ sz → WF X → X 900 = n → LnS T sz lim h0 b h p X →
    (∀ k a, hsR T sz lim r p X n = .error (k, a) → ∃ g, l_56_10 (r + 1 + m) (some b) h = some (none, g) ∧ ER h0 g b k a) ∧
    (∀ n' Y, hsR T sz lim r p X n = .ok (n', Y) → ∃ g, l_56_10 (r + 1 + m) (some b) h = some (some (b + 1), g) ∧ HK g b Y (Y 2) ∧ FR h0 g b (Y 2) ∧ Fix g ∧ WF Y ∧ Y 900 = n' ∧ n' ≤ 500) := by
  intro r
  induction r with
  | zero => intro p X n m h h1 h2 h3; omega
  | succ r ih =>
    intro p X n m h h1 h2 h3 hW hn hS
    obtain ⟨s1, s2, s3, s4⟩ := id hS
    have n1 := s2.1
    have bb := s3.2.2.1
    have sl := s1.2.1.2.2.1
    have kl := tkK_le (T := T) (sz := sz) (lim := lim) (p := p)
    have kc := kcl_e (x := 40) kl
    have un : hsR T sz lim (r + 1) p X n = if tkK T sz lim p = 0 then .ok (n, X) else match linR T sz lim p X with
      | .error e => .error e
      | .ok (q, Y) => hsR T sz lim r q (upX Y 900 (n + 1)) (n + 1) := rfl
    have hd : l_56_10 (r + 1 + 1 + m) (some b) h = if nI (kcl (tkK T sz lim p)) = nI 0 then b_56_70 (some b) h else b_56_33 (l_56_10 (r + 1 + m)) (some b) h := by
      rw [show r + 1 + 1 + m = (r + 1 + m) + 1 by omega, l_56_10, b_56_10, q51 n1, Option.bind_some, i4 n1, Option.bind_some, s2.2.1.2.2.2.2.2, hn, if_neg (by rw [nI_ltI (by omega) (by omega)]; omega), b_56_23, q50 n1, Option.bind_some, gI31 s1.1, Option.bind_some, s1.2.2.1.1]
      rfl
    rw [un, hd]
    by_cases c0 : tkK T sz lim p = 0
    · rw [if_pos c0, if_pos (by rw [c0]; rfl)]
      refine ⟨fun k a e => (by cases e), fun n' Y e => ?_⟩
      injection e with e
      injection e with e1 e2
      subst e1 e2
      obtain ⟨m', hm⟩ := FU_ge (X 2 + 1) (by omega)
      obtain ⟨g, a1, a2, a3, a4, a5⟩ := l_56t hW (X 2) 0 m' h (by omega) s2.hk s3 s1.1
      exact ⟨g, by rw [b_56_70, bnd_e, hm]; exact a1, a2, a3, a4, hW, hn, by omega⟩
    · rw [if_neg c0, if_neg (nI_nn (by omega) (by omega) (fun z => c0 (kc.1.1 z))), b_56_33, rC_e n1.1.1 (by omega), grd_e, Option.bind_some]
      obtain ⟨g, w, a1, a2, a3⟩ := s_57 hW hS
      rw [a1, Option.bind_some]
      dsimp only
      have lp := linR_P (T := T) (lim := lim) h3 hW
      cases w
      · obtain ⟨k0, a0, e0, er⟩ := a2 rfl
        have el : linR T sz lim p X = .error (k0, a0) := by unfold linR; rw [e0]; rfl
        rw [el, if_pos (show bI false = 0 from rfl), b_56_52]
        refine ⟨fun k a e => ?_, fun n' Y e => (by cases e)⟩
        injection e with e
        injection e with e1 e2
        subst e1 e2
        exact ⟨g, rfl, er⟩
      · obtain ⟨q, Y, e0, st⟩ := a3 rfl
        have e0' : kinR T sz lim p X = .ok (q, Y) := e0
        obtain ⟨t1, t2, t3, t4⟩ := id st
        rw [if_neg (show ¬ bI true = 0 by decide), b_56_40, q50 t2.1, Option.bind_some, rC31 t1.1, grd_e, Option.bind_some]
        obtain ⟨g2, b1, b2, b3, b4⟩ := s_123 (c := 59) t1 (by omega)
        rw [b1, Option.bind_some]
        dsimp only
        have le : linR T sz lim p X = if tkK T sz lim q = 59 then .ok (tkN T sz lim q, Y) else erA T sz lim 1 q := by unfold linR; rw [e0']; rfl
        by_cases c : tkK T sz lim q = 59
        · rw [if_pos c] at le
          rw [le] at lp ⊢
          obtain ⟨l1, l2, l3⟩ := lp
          have w3 := l3.2.2.2.1
          have st2 := st.fz (b3 c).1 (b3 c).2 (by decide) (by decide)
          obtain ⟨u1, u2, u3, u4⟩ := id st2
          have yn : Y 900 = n := by
            have := kinR_9 (T := T) (lim := lim) h3 hW hn
            rw [e0'] at this
            exact this
          rw [bI_T c, if_pos nI10, b_56_54, q51 u2.1, Option.bind_some, i4 u2.1, Option.bind_some, u2.2.1.2.2.2.2.2, yn, nI_add, pI_e u2.1.2.1.1 (by omega), Option.bind_some]
          refine ih _ _ (n + 1) m _ (by omega) (by omega) l2 (l3.cg (fun j hj => upX_n (by have := l3.2.2.1; omega))) (upX_i _ _ _) ?_
          show CS T sz lim h0 _ b _ _ _ (upX Y 900 (n + 1) 2)
          rw [upX_n (show 2 ≠ 900 by omega)]
          refine ⟨u1.wsI (by omega), (u2.f u4 w3).z (fun c hc => cellV_up hc (by omega)), u3.wsI (by omega), by rw [upX_n (by omega)]; exact u4⟩
        · rw [if_neg c] at le
          rw [le, bI_F c, if_neg (fun z => z rfl), b_56_52]
          refine ⟨fun k a e => ?_, fun n' Y e => (by cases e)⟩
          injection e with e
          injection e with e1 e2
          subst e1 e2
          have F2 : Fix g2 := b2.fix t1.1 (by decide)
          obtain ⟨f1, f2, f3, f4, f5, f6⟩ := t3
          exact ⟨g2, rfl, F2, f1.then (b2.fa.wid (by decide)), ⟨by rw [b2.C, b2.N]; exact f5, by rw [b2.N]; omega, by rw [b2.S]; omega⟩, (b4 c).1, (b4 c).2⟩
end HOUSE
