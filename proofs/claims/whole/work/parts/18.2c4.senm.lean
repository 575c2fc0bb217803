/-! the reference reads a sentence -/
def rwk (k : Nat) : Nat := [0, 0, 19, 10, 20, 21, 22, 23, 24, 25, 6, 7].getD k 99
def rkX (k : Nat) : Nat := if k < 7 then [3, 2, 1, 4, 5, 6, 7].getD k 0 else 50 + rwk k
abbrev ZN : List Nat := [96, 61000064, 62000064, 63000064, 64000064, 6000064, 7000064, 8000064, 9000064, 10000064, 13000064, 11000064, 12000064, 14000064]
/-- the nodes' row holds small numbers -/
def GB (h : Hp) : Prop := ∀ i, i < 240 → ∃ v, v < 100000 ∧ hI h 96 i = nI v
theorem GB.cg {h g : Hp} (a : GB h) (e : hI g 96 = hI h 96) : GB g := by unfold GB; rw [e]; exact a
theorem GB.w {h : Hp} {k v : Nat} (a : GB h) (hv : v < 100000) : GB (sI h 96 k (nI v)) := fun i hi => by
  rw [hI_sI]
  by_cases c : i = k
  · rw [if_pos ⟨rfl, c⟩]; exact ⟨v, hv, rfl⟩
  · rw [if_neg (fun z => c z.2)]; exact a i hi
def FN (h g : Hp) : Prop := Fz ZN h g ∧ hI g 64 10 = hI h 64 10 ∧ (GB h → GB g)
theorem FN.then {h g f : Hp} (a : FN h g) (b : FN g f) : FN h f := ⟨a.1.then b.1, b.2.1.trans a.2.1, fun z => b.2.2 (a.2.2 z)⟩
theorem rkX_lt : ∀ k, k < 12 → rkX k < 100000 := by decide
section SENM
variable {T : Nat → Nat} {sz lim : Nat} {N E : Nat → Nat} {ne : Nat}
def NdM (h : Hp) (X : Nat → Nat) : Prop := ∀ i, i < X 900 → hI h 96 (4 * i) = nI (rkX (X (4 * i))) ∧ hI h 96 (4 * i + 1) = nI (X (4 * i + 1)) ∧ hI h 96 (4 * i + 2) = nI (X (4 * i + 2)) ∧ hI h 96 (4 * i + 3) = nI (X (4 * i + 3))
def MNs (T : Nat → Nat) (sz lim : Nat) (N : Nat → Nat) (ne : Nat) (E : Nat → Nat) (h : Hp) (q : Nat) (X : Nat → Nat) (d : Nat) : Prop := MTk h T sz lim q ∧ (NowE h E ∧ E 2 = ne ∧ ne ≤ 10 ∧ ∀ d, d < ne → hJ h 70 d = lN (N d) ∧ N d < 1125899906842625) ∧ (hI h 64 60 = nI (X 900) ∧ hI h 64 61 = nI (X 901) ∧ hI h 64 62 = nI d) ∧ NdM h X
def MNr (T : Nat → Nat) (sz lim : Nat) (N : Nat → Nat) (ne : Nat) (E : Nat → Nat) (h : Hp) (q : Nat) (X : Nat → Nat) (d : Nat) : Prop := MNs T sz lim N ne E h q X d ∧ hI h 64 63 = nI (X 902)
def RsN (T : Nat → Nat) (sz lim : Nat) (N : Nat → Nat) (ne : Nat) (E : Nat → Nat) (d : Nat) (h g : Hp) : RsT → Prop
  | .error (k, a) => hI g 64 10 = nI k ∧ hI g 64 11 = nI a
  | .ok (q, X) => MNr T sz lim N ne E g q X d ∧ hI g 64 10 = hI h 64 10
def MOn (T : Nat → Nat) (sz lim : Nat) (N : Nat → Nat) (ne : Nat) (E : Nat → Nat) (d : Nat) (o : Option (Int32 × Hp)) (h : Hp) (r : RsT) : Prop := ∃ g, o = some (bI (okB r), g) ∧ (Fz ZN h g ∧ (GB h → GB g)) ∧ RsN T sz lim N ne E d h g r
theorem MOn.pre {d : Nat} {o : Option (Int32 × Hp)} {h g : Hp} {r : RsT} (hz : FN h g) (hM : MOn T sz lim N ne E d o g r) : MOn T sz lim N ne E d o h r := by
  obtain ⟨f, a1, a2, a3⟩ := hM
  refine ⟨f, a1, ⟨hz.1.then a2.1, fun z => a2.2 (hz.2.2 z)⟩, ?_⟩
  cases r with
  | error e => exact a3
  | ok x => exact ⟨a3.1, a3.2.trans hz.2.1⟩
theorem n_err {h : Hp} {q k d : Nat} (hC : MTk h T sz lim q) (hk : tkK T sz lim q ≠ 1 ∨ k = 1) : MOn T sz lim N ne E d ((grd (rC 11 (some 64) h)).bind fun _ => (f_198 (some 64) (nI k) h).bind fun p1 => (grd (decide (p1.1 = 0 ∨ p1.1 = 1))).bind fun _ => some (p1.1, p1.2)) h (erA T sz lim k q) := by
  obtain ⟨g, a1, a2, a3, a4⟩ := s_198 (k := k) hC
  refine ⟨g, by rw [rC64 hC.1, grd_e, Option.bind_some, a1, Option.bind_some]; rfl, ⟨a2.wid (by decide), fun z => z.cg (a2.I (by decide))⟩, ?_, a4⟩
  rw [a3]
  rcases hk with e | e
  · rw [if_neg e]
  · rw [e]; split <;> rfl
theorem MNs.fz {h g : Hp} {q q' d : Nat} {X : Nat → Nat} {Z : List Nat} (s : MNs T sz lim N ne E h q X d) (hT : MTk g T sz lim q') (hz : Fz Z h g) (h66 : ∀ z, z ∈ Z → z % 1000000 ≠ 66) (h70 : ∀ z, z ∈ Z → z % 1000000 ≠ 70) (h96 : ∀ z, z ∈ Z → z % 1000000 ≠ 96) (h6x : (64 : Nat) ∉ Z ∧ 61000064 ∉ Z ∧ 62000064 ∉ Z ∧ 63000064 ∉ Z) : MNs T sz lim N ne E g q' X d := by
  obtain ⟨s1, ⟨s2, s3, s4, s5⟩, ⟨s6, s7, s8⟩, s9⟩ := s
  refine ⟨hT, ⟨s2.cg (hz.I h66), s3, s4, by rw [hz.J h70]; exact s5⟩, ⟨?_, ?_, ?_⟩, ?_⟩
  · rw [hz.I1 h6x.1 h6x.2.1]; exact s6
  · rw [hz.I1 h6x.1 h6x.2.2.1]; exact s7
  · rw [hz.I1 h6x.1 h6x.2.2.2]; exact s8
  · unfold NdM; rw [hz.I h96]; exact s9
theorem n_step {h : Hp} {q d : Nat} {X : Nat → Nat} (s : MNs T sz lim N ne E h q X d) : ∃ g, f_189 (some 64) h = some g ∧ FN h g ∧ MNs T sz lim N ne E g (tkN T sz lim q) X d ∧ hI g 64 63 = hI h 64 63 := by
  obtain ⟨g, a1, a2, a3⟩ := m_step s.1
  exact ⟨g, a1, ⟨a2.wid (by decide), a2.I1 (by decide) (by decide), fun z => z.cg (a2.I (by decide))⟩, s.fz a3 a2 (by decide) (by decide) (by decide) (by decide), a2.I1 (by decide) (by decide)⟩
/-- a node laid -/
theorem s_286 {h : Hp} {q d k a b c : Nat} {X : Nat → Nat} (s : MNs T sz lim N ne E h q X d) (hn : X 900 < 60) (hk : k < 12) (ha : a < 100000) (hb : b < 100000) (hc : c < 100000) : ∃ g, f_286 (some 64) (nI (rkX k)) (nI a) (nI b) (nI c) h = some (nI (X 900), g) ∧ FN h g ∧ MNs T sz lim N ne E g q (layX X k a b c) d := by
  obtain ⟨s1, ⟨s2, s3, s4, s5⟩, ⟨s6, s7, s8⟩, s9⟩ := s
  have hF := s1.1
  generalize hh : X 900 = n at *
  generalize x1 : sI h 96 (4 * n) (nI (rkX k)) = g1
  generalize x2 : sI g1 96 (4 * n + 1) (nI a) = g2
  generalize x3 : sI g2 96 (4 * n + 2) (nI b) = g3
  generalize x4 : sI g3 96 (4 * n + 3) (nI c) = g4
  generalize x5 : sI g4 64 60 (nI (n + 1)) = g5
  have F1 : Fix g1 := by rw [← x1]; exact fx_sI hF (by omega)
  have F2 : Fix g2 := by rw [← x2]; exact fx_sI F1 (by omega)
  have F3 : Fix g3 := by rw [← x3]; exact fx_sI F2 (by omega)
  have F4 : Fix g4 := by rw [← x4]; exact fx_sI F3 (by omega)
  have F5 : Fix g5 := by rw [← x5]; exact fx_sI F4 (by omega)
  have z4 : Fz [96] h g4 := by
    rw [← x4, ← x3, ← x2, ← x1]
    exact Fz.sI (Fz.sI (Fz.sI (Fz.sI Fz.rfl' (Or.inl (by simp))) (Or.inl (by simp))) (Or.inl (by simp))) (Or.inl (by simp))
  have z5 : Fz [96, 61000064] h g5 := by rw [← x5]; exact Fz.sI (z4.wid (by decide)) (Or.inr (by simp))
  have i5 : ∀ j, j ≠ 60 → hI g5 64 j = hI h 64 j := fun j hj => by rw [← x5, hI_sI, if_neg (by omega), z4.I (by decide)]
  have i60 : hI g5 64 60 = nI (n + 1) := by rw [← x5, hI_sI]; exact if_pos ⟨rfl, rfl⟩
  have v := layX_v (X := X) (k := k) (a := a) (b := b) (c := c)
  have vv : layX X k a b c (4 * n) = k ∧ layX X k a b c (4 * n + 1) = a ∧ layX X k a b c (4 * n + 2) = b ∧ layX X k a b c (4 * n + 3) = c ∧ layX X k a b c 900 = n + 1 ∧ layX X k a b c 901 = X 901 ∧ ∀ j, j < 4 * n → layX X k a b c j = X j := by
    unfold layX
    rw [hh]
    refine ⟨if_pos rfl, ?_, ?_, ?_, ?_, ?_, fun j hj => ?_⟩
    · rw [if_neg (by omega), if_pos rfl]
    · rw [if_neg (by omega), if_neg (by omega), if_pos rfl]
    · rw [if_neg (by omega), if_neg (by omega), if_neg (by omega), if_pos rfl]
    · rw [if_neg (by omega), if_neg (by omega), if_neg (by omega), if_neg (by omega), if_neg (by omega), if_pos rfl]
    · rw [if_neg (by omega), if_neg (by omega), if_neg (by omega), if_neg (by omega), if_neg (by omega), if_neg (by omega)]
    · rw [if_neg (by omega), if_neg (by omega), if_neg (by omega), if_neg (by omega), if_neg (by omega), if_neg (by omega)]
  obtain ⟨v1, v2, v3, v4, v6, v7, v8⟩ := vv
  have I5 : ∀ j, hI g5 96 j = if j = 4 * n + 3 then nI c else if j = 4 * n + 2 then nI b else if j = 4 * n + 1 then nI a else if j = 4 * n then nI (rkX k) else hI h 96 j := fun j => by
    have q : ∀ (g : Hp) (k : Nat) (x : Int32), hI (sI g 96 k x) 96 j = if j = k then x else hI g 96 j := fun g k x => by
      rw [hI_sI]
      by_cases c : j = k
      · rw [if_pos ⟨rfl, c⟩, if_pos c]
      · rw [if_neg (fun z => c z.2), if_neg c]
    rw [← x5, hI_sI, if_neg (by omega), ← x4, q, ← x3, q, ← x2, q, ← x1, q]
  refine ⟨g5, ?_, ⟨z5.wid (by decide), i5 10 (by omega), fun z => ?_⟩, s1.cy (Z := []) F5 (fun j hj => i5 j (by omega)) (by rw [← x5, ← x4, ← x3, ← x2, ← x1]; rfl) (z5.I (by decide)), ⟨s2.cg (z5.I (by decide)), s3, s4, by rw [z5.J (by decide)]; exact s5⟩, ⟨by rw [i60, v6], by rw [i5 61 (by omega), v7]; exact s7, by rw [i5 62 (by omega)]; exact s8⟩, fun i hi => ?_⟩
  rotate_left
  · have zz : GB g4 := by
      rw [← x4, ← x3, ← x2, ← x1]
      exact (((z.w (rkX_lt k hk)).w ha).w hb).w hc
    exact zz.cg (by rw [← x5]; exact funext fun j => by rw [hI_sI, if_neg (by omega)])
  rotate_right
  · have j4 : hI g4 64 60 = nI n := by rw [z4.I (by decide)]; exact s6
    rw [f_286, b_286_0, gI64 hF, Option.bind_some, s6, pk_mul, bnd_e, gQ64_59 hF, Option.bind_some, wI96 hF (by omega), Option.bind_some, x1, gQ64_59 F1, Option.bind_some, nI_add, wI96 F1 (by omega), Option.bind_some, x2, gQ64_59 F2, Option.bind_some, nI_add, wI96 F2 (by omega), Option.bind_some, x3, gQ64_59 F3, Option.bind_some, nI_add, wI96 F3 (by omega), Option.bind_some, x4, gI64 F4, Option.bind_some, j4, nI_add, pI64 F4, Option.bind_some, x5, gI64 F5, Option.bind_some, i60, pk_sub (by omega)]
    rfl
  · rw [v6] at hi
    by_cases e : i = n
    · subst e
      have u0 : hI g5 96 (4 * i) = nI (rkX k) := by rw [I5, if_neg (by omega), if_neg (by omega), if_neg (by omega), if_pos rfl]
      have u1 : hI g5 96 (4 * i + 1) = nI a := by rw [I5, if_neg (by omega), if_neg (by omega), if_pos rfl]
      have u2 : hI g5 96 (4 * i + 2) = nI b := by rw [I5, if_neg (by omega), if_pos rfl]
      have u3 : hI g5 96 (4 * i + 3) = nI c := by rw [I5, if_pos rfl]
      rw [u0, u1, u2, u3, v1, v2, v3, v4]
      exact ⟨rfl, rfl, rfl, rfl⟩
    · have u : ∀ j, j < 4 * n → hI g5 96 j = hI h 96 j := fun j hj => by rw [I5, if_neg (by omega), if_neg (by omega), if_neg (by omega), if_neg (by omega)]
      rw [u _ (by omega), u _ (by omega), u _ (by omega), u _ (by omega), v8 _ (by omega), v8 _ (by omega), v8 _ (by omega), v8 _ (by omega)]
      exact s9 i (by omega)
/-- the root set -/
theorem n_root {h : Hp} {q d : Nat} {X : Nat → Nat} {x : Int32} (s : MNs T sz lim N ne E h q X d) : FN h (sI h 64 63 x) ∧ MNs T sz lim N ne E (sI h 64 63 x) q X d ∧ hI (sI h 64 63 x) 64 63 = x := by
  have z : Fz [64000064] h (sI h 64 63 x) := Fz.sI Fz.rfl' (Or.inr (by simp))
  have i : ∀ j, j ≠ 63 → hI (sI h 64 63 x) 64 j = hI h 64 j := fun j hj => by rw [hI_sI, if_neg (by omega)]
  refine ⟨⟨z.wid (by decide), i 10 (by omega), fun y => y.cg (z.I (by decide))⟩, s.fz (s.1.cy (Z := []) (fx_sI s.1.1 (by omega)) (fun j hj => i j (by omega)) rfl (z.I (by decide))) z (by decide) (by decide) (by decide) (by decide), ?_⟩
  rw [hI_sI]; exact if_pos ⟨rfl, rfl⟩
theorem wl_inj : ∀ j, j < 26 → ∀ k, k < 26 → vF 27 (wlF j) (wlN j) = vF 27 (wlF k) (wlN k) → j = k := by decide +kernel
theorem isW_x {q j k : Nat} (hj : j < 26) (hk : k < 26) (a : isW T sz lim q j = true) (b : isW T sz lim q k = true) : j = k := by
  unfold isW at a b
  rw [Bool.and_eq_true] at a b
  exact wl_inj j hj k hk ((of_decide_eq_true a.2).symm.trans (of_decide_eq_true b.2))
theorem l_289 {h : Hp} {q : Nat} (hC : MTk h T sz lim q) : ∀ r i m, i + r = 26 → 19 ≤ i → l_289_3 (r + 1 + m) (some 64) (nI i) h = if ffi (fun k => isW T sz lim q k) i r < 26 then some (nI (ffi (fun k => isW T sz lim q k) i r), h) else b_289_25 (some 64) h := by
  intro r
  induction r with
  | zero =>
    intro i m hi h19
    have e : ffi (fun k => isW T sz lim q k) i 0 = i := rfl
    rw [e, if_neg (by omega), Nat.zero_add, Nat.add_comm 1 m, l_289_3, b_289_3, if_pos (by rw [nI_ltI (by omega) (by omega)]; omega)]
  | succ r ih =>
    intro i m hi h19
    have em : mw i = i := (show ∀ k, k < 26 → 19 ≤ k → mw k = k by decide) i (by omega) h19
    have st : ffi (fun k => isW T sz lim q k) i (r + 1) = if isW T sz lim q i = true then i else ffi (fun k => isW T sz lim q k) (i + 1) r := rfl
    have u : l_289_3 (r + 1 + 1 + m) (some 64) (nI i) h = if bI (isW T sz lim q i) = 0 then l_289_3 (r + 1 + m) (some 64) (nI (i + 1)) h else some (nI i, h) := by
      rw [show r + 1 + 1 + m = (r + 1 + m) + 1 by omega, l_289_3, b_289_3, if_neg (by rw [nI_ltI (by omega) (by omega)]; omega), b_289_9, rC64 hC.1, grd_e, Option.bind_some, s_193 hC.1 hC.2.2.1 hC.2.2.2 (by omega), Option.bind_some, em]
      dsimp only
      rw [b_289_19, bnd_e, nI_add, b_289_17]
    rw [u, st]
    cases isW T sz lim q i
    · rw [if_pos (show bI false = 0 from rfl), if_neg (show ¬ false = true by decide)]
      exact ih (i + 1) m (by omega) (by omega)
    · rw [if_neg (show ¬ bI true = 0 by decide), if_pos rfl, if_pos (show i < 26 by omega)]
theorem s_289 {h : Hp} {q : Nat} (hC : MTk h T sz lim q) : f_289 (some 64) h = some (if kN T sz lim q = 99 then -1 else nI (rwk (kN T sz lim q)), h) := by
  obtain ⟨m, hm⟩ := FU_ge (7 + 1) (by omega)
  have w : ∀ k, k < 26 → f_193 (some 64) (nI k) h = some (bI (isW T sz lim q (mw k)), h) := fun k hk => s_193 hC.1 hC.2.2.1 hC.2.2.2 hk
  rw [f_289, b_289_0, bnd_e, hm, l_289 hC 7 19 m (by omega) (by omega)]
  have fe : ffi (fun k => isW T sz lim q k) 19 7 = if isW T sz lim q 19 = true then 19 else if isW T sz lim q 20 = true then 20 else if isW T sz lim q 21 = true then 21 else if isW T sz lim q 22 = true then 22 else if isW T sz lim q 23 = true then 23 else if isW T sz lim q 24 = true then 24 else if isW T sz lim q 25 = true then 25 else 26 := rfl
  have b25 : b_289_25 (some 64) h = some (if isW T sz lim q 10 = true then nI 10 else if isW T sz lim q 4 = true then nI 6 else if isW T sz lim q 5 = true then nI 7 else -1, h) := by
    rw [b_289_25, rC64 hC.1, grd_e, Option.bind_some, w 10 (by omega), Option.bind_some, show mw 10 = 10 from rfl]
    dsimp only
    cases isW T sz lim q 10
    · rw [if_pos (show bI false = 0 from rfl), b_289_39, rC64 hC.1, grd_e, Option.bind_some, w 6 (by omega), Option.bind_some, show mw 6 = 4 from rfl]
      dsimp only
      cases isW T sz lim q 4
      · rw [if_pos (show bI false = 0 from rfl), b_289_53, rC64 hC.1, grd_e, Option.bind_some, w 7 (by omega), Option.bind_some, show mw 7 = 5 from rfl]
        dsimp only
        cases isW T sz lim q 5 <;> rfl
      · rfl
    · rfl
  rw [fe, b25]
  unfold kN
  cases h10 : isW T sz lim q 10
  · cases isW T sz lim q 19 <;> cases isW T sz lim q 20 <;> cases isW T sz lim q 21 <;> cases isW T sz lim q 22 <;> cases isW T sz lim q 23 <;> cases isW T sz lim q 24 <;> cases isW T sz lim q 25 <;> cases isW T sz lim q 4 <;> cases isW T sz lim q 5 <;> rfl
  · have no : ∀ k, k < 26 → k ≠ 10 → isW T sz lim q k = false := fun k hk h1 => by
      cases hh : isW T sz lim q k
      · rfl
      · exact absurd (isW_x hk (by omega) hh h10) h1
    rw [no 19 (by omega) (by omega), no 20 (by omega) (by omega), no 21 (by omega) (by omega), no 22 (by omega) (by omega), no 23 (by omega) (by omega), no 24 (by omega) (by omega), no 25 (by omega) (by omega)]
    rfl
end SENM
