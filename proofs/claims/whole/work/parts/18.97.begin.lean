/-! the start -/
def t0S : Nat → Nat := fun p => if 60 ≤ p ∧ p < 64 then 1 else 0
section START
variable {xs : Nat → Int32} {n : Nat} {g : Hp}
theorem op_lo : (∀ o, o ∈ opsD → o.1 = 0 ∨ 30 ≤ o.2.1) ∧ ∀ o, o ∈ opsR → o.1 = 0 ∨ 30 ≤ o.2.1 := by decide +kernel
theorem gd_start (z : Fz [35] (hr opsD (bd_h0 xs n)) g) (h35 : ∀ j, j < 10 → hI g 35 j = nI 0) : Gd t0S X0 X0 (hr opsR g) ∧ hL (hr opsR g) 29 = n ∧ hN (hr opsR g) = 98 ∧ hC (hr opsR g) ≤ 200 ∧ hS (hr opsR g) ≤ 200000 := by
  have gN : hN g = 64 := by rw [z.N, hr_N]; show nO opsD 30 = 64; decide +kernel
  have fN : hN (hr opsR g) = 98 := by rw [hr_N, gN]; decide +kernel
  have fK : ∀ a, hK (hr opsR g) a = kO opsR 64 a (kO opsD 30 a (bd_kS a)) := fun a => by rw [hr_K, gN, z.K, hr_K]; rfl
  have fL : ∀ a, hL (hr opsR g) a = lO opsR 64 a (lO opsD 30 a (bd_lS n a)) := fun a => by rw [hr_L, gN, z.L, hr_L]; rfl
  have fQ : ∀ a k, a ≠ 26 → hQ (hr opsR g) a k = qO opsR 64 a k (qO opsD 30 a k none) := fun a k ha => by
    rw [hr_Q, gN, z.Q, hr_Q, show hQ (bd_h0 xs n) a k = none from if_neg (fun q => ha q.1)]; rfl
  have fI : ∀ a k c, a ≠ 35 → a < 1000000 → iO opsR 64 a k (iO opsD 30 a k 0) = c → hI (hr opsR g) a k = iV (hI (bd_h0 xs n) a k) c := fun a k c ha hl e => by
    have q := hr_I opsD (bd_h0 xs n) a k 0 (hI (bd_h0 xs n) a k) rfl
    have q2 : hI g a k = iV (hI (bd_h0 xs n) a k) (iO opsD (hN (bd_h0 xs n)) a k 0) := by rw [z.I (a := a) (fun y hy => by simp only [List.mem_cons, List.not_mem_nil, or_false] at hy; omega) hl]; exact q
    have q3 := hr_I opsR g a k _ _ q2
    rw [gN] at q3
    rw [q3, ← e]
    rfl
  have fZ : ∀ a, (a ≠ 35 ∧ 30 ≤ a ∧ a < 98) → (∀ o, o ∈ opsD → o.1 ≤ 1 ∨ o.2.1 ≠ a) → (∀ o, o ∈ opsR → o.1 ≤ 1 ∨ o.2.1 ≠ a) → ∀ j, hI (hr opsR g) a j = 0 := fun a ha c1 c2 => by
    have q := hr_z opsD (bd_h0 xs n) c1 (Or.inl ha.2.1)
    have q2 : hN g ≤ a ∨ ∀ j, hI g a j = 0 := by
      rcases q with q | q
      · left; rw [z.N]; exact q
      · right; intro j; rw [z.I (a := a) (fun y hy => by simp only [List.mem_cons, List.not_mem_nil, or_false] at hy; omega) (by omega)]; exact q j
    rcases hr_z opsR g c2 q2 with q | q
    · omega
    · exact q
  have lo : ∀ a, a < 30 → hI (hr opsR g) a = hI (bd_h0 xs n) a ∧ hJ (hr opsR g) a = hJ (bd_h0 xs n) a ∧ hQ (hr opsR g) a = hQ (bd_h0 xs n) a ∧ hL (hr opsR g) a = hL (bd_h0 xs n) a := fun a ha => by
    have q1 := hr_lo ha opsD (bd_h0 xs n) op_lo.1 (Nat.le_refl 30)
    have q2 := hr_lo ha opsR g op_lo.2 (by omega)
    exact ⟨by rw [q2.1, z.I (a := a) (fun y hy => by simp only [List.mem_cons, List.not_mem_nil, or_false] at hy; omega)]; exact q1.1, by rw [q2.2.1, z.J (a := a) (fun y hy => by simp only [List.mem_cons, List.not_mem_nil, or_false] at hy; omega)]; exact q1.2.1, by rw [q2.2.2.1, z.Q]; exact q1.2.2.1, by rw [q2.2.2.2.2, z.L]; exact q1.2.2.2.2⟩
  have I35 : ∀ j, j < 10 → hI (hr opsR g) 35 j = nI 0 := fun j hj => by
    have q := hr_I opsR g 35 j 0 (hI g 35 j) rfl
    have no : ∀ (ops : List Op) (m : Nat) (c : Nat), (∀ o, o ∈ ops → o.1 ≤ 1 ∨ o.2.1 ≠ 35) → 35 < m → iO ops m 35 j c = c := by
      intro ops
      induction ops with
      | nil => intro m c _ _; rfl
      | cons o t ih =>
        intro m c ok hm
        have k := ok o List.mem_cons_self
        have ok2 : ∀ o, o ∈ t → o.1 ≤ 1 ∨ o.2.1 ≠ 35 := fun p hp => ok p (List.mem_cons_of_mem _ hp)
        show (if o.1 = 0 then iO t (m + 1) 35 j (if 35 = m then 1 else c) else if o.1 = 1 then iO t m 35 j c else iO t m 35 j (if 35 = o.2.1 ∧ j = o.2.2.1 then (if o.2.2.2 = 0 then 2 else 3) else c)) = c
        by_cases c0 : o.1 = 0
        · rw [if_pos c0, if_neg (by omega)]; exact ih _ _ ok2 (by omega)
        · rw [if_neg c0]
          by_cases c1 : o.1 = 1
          · rw [if_pos c1]; exact ih _ _ ok2 hm
          · rw [if_neg c1, if_neg (by omega)]; exact ih _ _ ok2 hm
    rw [gN, no opsR 64 0 (by decide +kernel) (by omega)] at q
    rw [q]
    exact h35 j hj
  have dK : ∀ a, a < 98 → kO opsR 64 a (kO opsD 30 a (bd_kS a)) = fkT.getD a 99 := by decide +kernel
  have dL : ∀ a, a < 98 → a ≠ 29 → lO opsR 64 a (lO opsD 30 a (bd_lS 0 a)) = flT.getD a 0 := by decide +kernel
  have dQ : ∀ q, q ∈ fqT → q.1 ≠ 26 ∧ qO opsR 64 q.1 q.2.1 (qO opsD 30 q.1 q.2.1 none) = some q.2.2 := by decide +kernel
  have F : Fix (hr opsR g) := by
    refine ⟨by omega, fun a ha => (fK a).trans (dK a ha), fun a ha hn => ?_, fun q hq => (fQ _ _ (dQ q hq).1).trans (dQ q hq).2, fun j hj => ?_, (lo 27 (by omega)).1, (lo 28 (by omega)).1⟩
    · rw [fL a, show bd_lS n a = bd_lS 0 a by unfold bd_lS; rw [if_neg hn, if_neg hn]]
      exact dL a ha hn
    · rw [(lo j (by omega)).2.1, (lo 26 (by omega)).2.2.1]
      exact ⟨show (if 0 = 0 then bd_wcode j else 0) = bd_wcode j from if_pos rfl, show (if 26 = 26 ∧ j < 26 then some j else none) = some j from if_pos ⟨rfl, hj⟩⟩
  have i0 : ∀ a k, a ≠ 35 ∧ a < 1000000 ∧ iO opsR 64 a k (iO opsD 30 a k 0) = 1 → hI (hr opsR g) a k = nI 0 := fun a k e => fI a k 1 e.1 e.2.1 e.2.2
  have m1 : ∀ a k, a ≠ 35 ∧ a < 1000000 ∧ iO opsR 64 a k (iO opsD 30 a k 0) = 2 → hI (hr opsR g) a k = -1 := fun a k e => fI a k 2 e.1 e.2.1 e.2.2
  have m2 : ∀ k, k < 5 → hI (hr opsR g) 89 k = -2 := fun k hk => fI 89 k 3 (by omega) (by omega) ((by decide +kernel : ∀ k, k < 5 → iO opsR 64 89 k (iO opsD 30 89 k 0) = 3) k hk)
  have q0 : ∀ a k, a ≠ 26 ∧ qO opsR 64 a k (qO opsD 30 a k none) = none → hQ (hr opsR g) a k = none := fun a k e => (fQ a k e.1).trans e.2
  have qs : ∀ a k b, a ≠ 26 ∧ qO opsR 64 a k (qO opsD 30 a k none) = some b → hQ (hr opsR g) a k = some b := fun a k b e => (fQ a k e.1).trans e.2
  have c1 := hr_CS opsD (bd_h0 xs n)
  have c2 := hr_CS opsR g
  have l1 : opsD.length = 73 ∧ opsR.length = 71 := by decide +kernel
  have s1 : sO opsD + sO opsR ≤ 200000 := by decide +kernel
  have z0 : hC (bd_h0 xs n) = 0 ∧ hS (bd_h0 xs n) = 0 := ⟨rfl, rfl⟩
  have zc := z.C
  have zs := z.S
  have e29 : hL (hr opsR g) 29 = n := (lo 29 (by omega)).2.2.2.trans rfl
  generalize hr opsR g = f at *
  have tt : ∀ p, 60 ≤ p → p < 64 → t0S p = 1 := fun p h1 h2 => if_pos ⟨h1, h2⟩
  have tn : ∀ p, ¬ (60 ≤ p ∧ p < 64) → t0S p = 0 := fun p h1 => if_neg h1
  have ba : Ba t0S f := by
    refine ⟨F, fun p hp => ?_, fun p hp => ?_, fun p hp => ?_, by omega⟩
    · by_cases c : 60 ≤ p ∧ p < 64
      · omega
      · exact absurd (tn p c) hp
    · by_cases c : 60 ≤ p ∧ p < 64
      · exact Or.inr c
      · rw [tn p c] at hp; omega
    · by_cases c : 60 ≤ p ∧ p < 64
      · rw [tt p c.1 c.2] at hp; omega
      · rw [tn p c] at hp; omega
  have x0 : ∀ i, X0 i = 0 := fun _ => rfl
  have wf : WF X0 := by
    refine ⟨by rw [x0]; omega, by rw [x0]; omega, by rw [x0]; omega, by rw [x0]; omega, by rw [x0]; omega, fun c _ => ⟨by rw [x0]; omega, by rw [x0]; omega⟩, fun d hd => ?_, fun c d _ q => ?_, fun i hi => ?_⟩
    · rw [x0] at hd; omega
    · rw [x0] at q; omega
    · rw [x0] at hi; omega
  have ve : VE X0 := ⟨wf, VA.zero wf (fun d _ => rfl) (by rw [x0]; omega), by rw [x0]; omega, fun i hi => by rw [x0] at hi; omega⟩
  have q60 : hQ f 33 2 = some 60 := qs 33 2 60 (by decide +kernel)
  have ho : HoR t0S f 60 X0 := by
    refine ⟨K60 F, by omega, tt 60 (by omega) (by omega), art_e (Q60_0 F) (K61 F) (L61 F) (by omega) (tt 61 (by omega) (by omega)), art_e (Q60_1 F) (K62 F) (L62 F) (by omega) (tt 62 (by omega) (by omega)), art_e (Q60_2 F) (K63 F) (L63 F) (by omega) (tt 63 (by omega) (by omega)), ⟨i0 60 3 (by decide +kernel), i0 60 4 (by decide +kernel), i0 60 5 (by decide +kernel), i0 60 6 (by decide +kernel), m1 60 7 (by decide +kernel)⟩, fun c hc => ?_, fun d hd => ?_, fun i hi => ?_⟩
    · rw [rqs (Q60_0 F)]; exact fZ 61 (by decide) (by decide +kernel) (by decide +kernel) c
    · rw [x0] at hd; omega
    · rw [x0] at hi; omega
  have nc : NwC t0S f X0 X0 := by
    refine ⟨⟨by rw [rqs q60]; exact q60, by rw [rqs q60]; exact ho, fun d hd => by rw [x0] at hd; omega, m1 33 3 (by decide +kernel)⟩, ?_, Or.inl ⟨q0 30 11 (by decide +kernel), rfl⟩, Or.inl ⟨q0 30 12 (by decide +kernel), rfl⟩⟩
    rw [rqs q60]
    exact ⟨⟨tt 60 (by omega) (by omega), K60 F, i0 60 5 (by decide +kernel), by rw [x0]; omega⟩, 62, tt 62 (by omega) (by omega), Q60_1 F, K62 F, L62 F, fun d hd => by rw [x0] at hd; omega⟩
  have nm : NwM f X0 X0 := ⟨Or.inr ⟨i0 64 22 (by decide +kernel), fun i _ => fZ 66 (by decide) (by decide +kernel) (by decide +kernel) i, x0⟩, fun d hd => by rw [x0] at hd; omega, fun i _ => ⟨0, by omega, fZ 96 (by decide) (by decide +kernel) (by decide +kernel) i⟩⟩
  have e64 : ∀ k, k ≠ 0 ∨ k = 0 → hI f 64 k = 0 := fun k _ => fZ 64 (by decide) (by decide +kernel) (by decide +kernel) k
  refine ⟨⟨⟨ba, ve⟩, nc, nm, ⟨X0, 0, ⟨i0 31 1 (by decide +kernel), by omega, fun i hi => absurd hi (Nat.not_lt_zero i)⟩, ⟨e64 2 (by omega), by omega, fun i hi => absurd hi (Nat.not_lt_zero i)⟩⟩, ?_, ⟨0, i0 30 13 (by decide +kernel), e64 23 (by omega)⟩, ⟨0, 0, 0, X0, X0, ⟨i0 48 2 (by decide +kernel), i0 48 3 (by decide +kernel), fun i hi => absurd hi (Nat.not_lt_zero i), fun e he => by rw [Nat.zero_testBit] at he; cases he⟩, ⟨e64 37 (by omega), e64 38 (by omega), fun i hi => absurd hi (Nat.not_lt_zero i), fun e he => absurd he (Nat.not_lt_zero e)⟩, by omega, by omega, by decide⟩, ⟨0, X0, ⟨i0 39 9 (by decide +kernel), fun j hj => absurd hj (Nat.not_lt_zero j)⟩, ⟨e64 42 (by omega), fun j hj => absurd hj (Nat.not_lt_zero j)⟩, by omega⟩, ⟨0, X0, ⟨i0 51 1 (by decide +kernel), 52, ⟨qs 51 0 52 (by decide +kernel), K52 F, Or.inl rfl, by omega, by rw [L52 F]; omega⟩, Or.inl rfl, Nat.zero_le _, fun t ht => absurd ht (Nat.not_lt_zero t)⟩, ⟨e64 57 (by omega), fun t ht => absurd ht (Nat.not_lt_zero t)⟩, by omega⟩, Or.inl ⟨i0 30 10 (by decide +kernel), m2⟩, fun k hk => Or.inl ⟨?_, ?_⟩, Or.inl (q0 39 2 (by decide +kernel)), Or.inl (q0 51 3 (by decide +kernel)), Or.inl (q0 39 15 (by decide +kernel))⟩, e29, fN, by omega, by omega⟩
  · unfold Dfk
    rw [e64 10 (by omega)]; exact i0 31 6 (by decide +kernel)
  · exact q0 56 k ((by decide +kernel : ∀ k, k < 2 → 56 ≠ 26 ∧ qO opsR 64 56 k (qO opsD 30 56 k none) = none) k hk)
  · exact fZ 73 (by decide) (by decide +kernel) (by decide +kernel) k
end START
theorem law_run (xs : Nat → Int32) (n : Nat) (hn : n ≤ 384) : ∃ h9, f_308 (some 29) (bd_h0 xs n) = some (nI 1, h9) ∧ hC h9 ≤ 600128 ∧ hS h9 ≤ 7301098 := by
  obtain ⟨g, a1, z, h35⟩ := e129 (xs := xs) (n := n)
  have e73 : opsD.take 73 = opsD := by decide +kernel
  have e71 : opsR.take 71 = opsR := by decide +kernel
  have z' : Fz [35] (hr opsD (bd_h0 xs n)) g := by rw [e73] at z; exact z
  obtain ⟨G, l29, fN, fC, fS⟩ := gd_start z' h35
  have gN : hN g = 64 := by rw [z'.N, hr_N]; show nO opsD 30 = 64; decide +kernel
  have gK : ∀ a, hK g a = kO opsD 30 a (bd_kS a) := fun a => by rw [z'.K, hr_K]; rfl
  have gL : ∀ a, 30 ≤ a → hL g a = lO opsD 30 a 0 := fun a ha => by
    rw [z'.L, hr_L, show hL (bd_h0 xs n) a = 0 by show bd_lS n a = 0; unfold bd_lS; rw [if_neg (by omega), if_neg (by omega), if_neg (by omega), if_neg (by omega)]]
    rfl
  obtain ⟨m, hm⟩ := FU_ge (n / 6 + 1) (by omega)
  obtain ⟨h9, b1, b2, b3⟩ := lw_loop hn (n / 6) 0 m (hr opsR g) t0S X0 X0 G l29 (by omega) (by omega) (by omega)
  refine ⟨h9, ?_, by omega, by omega⟩
  have e1 : hNew (bd_h0 xs n) 10 0 (bd_nf 10) = hr (opsD.take 1) (bd_h0 xs n) := st_new (ops := opsD) (i := 0) (by decide +kernel)
  have e2 : hNew g 11 0 (bd_nf 11) = hr (opsR.take 1) g := st_new (ops := opsR) (i := 0) (by decide +kernel)
  rw [f_308, b_308_0, bnd_e, Option.isSome_some, grd_e, Option.bind_some, e1, show hN (bd_h0 xs n) = 30 from rfl, a1, Option.bind_some, bnd_e, bnd_e, gN, Option.isSome_some, grd_e, Option.bind_some, e2, e175 gN gK gL, Option.bind_some, bnd_e, nn2 gN (i := 70) (m := 97) (by decide +kernel), st_nA (i := 70) (by decide +kernel) (by omega) (by omega), Option.bind_some, bnd_e, bnd_e, hm, show opsR.take (70 + 1) = opsR from e71]
  exact b1
