/-! leaf: both -/
def lfA (E : Nat → Nat) (x y a k : Int32) : Int32 := if dgB E x y = true ∧ 0 ≤ a.toInt ∧ a.toInt < 3 then scn (lfH E x.toInt.toNat y.toInt.toNat a.toInt.toNat) k 100 0 else -1
theorem ijL_nd {n a : Nat} (hn : 1 ≤ n ∧ n ≤ 3) (ha : a < 3) : (ijL n a).Pairwise (fun p q => p ≠ q) ∧ (ijL n a).length ≤ 4 := by
  rcases (show n = 1 ∨ n = 2 ∨ n = 3 by omega) with e | e | e <;> subst e <;> rcases (show a = 0 ∨ a = 1 ∨ a = 2 by omega) with e | e | e <;> subst e <;> decide
theorem zAl_pm (g : Nat) : zAl g = 1 ∨ zAl g = -1 := by unfold zAl; split <;> simp
theorem zOut_pm (g : Nat) : zOut g = 1 ∨ zOut g = -1 := by unfold zOut; split <;> simp
theorem lfc_nd {E : Nat → Nat} {d g a : Nat} (hn : 1 ≤ dLn E d ∧ dLn E d ≤ 3) (ha : a < 3) : (lfc E d g a).Pairwise (fun p q => p ≠ q) := by
  unfold lfc
  rw [List.pairwise_map]
  refine List.Pairwise.imp ?_ (ijL_nd hn ha).1
  intro q r hqr e
  apply hqr
  have e1 := congrArg Prod.fst e
  have e2 := congrArg Prod.snd e
  dsimp only at e1 e2
  unfold zX at e1
  unfold zY at e2
  rcases zAl_pm g with p | p <;> rcases zOut_pm g with o | o <;> rw [p, o] at e1 e2 <;> by_cases c : dAc E d = 0 <;> simp only [c, ↓reduceIte] at e1 e2 <;> exact Prod.ext (by omega) (by omega)
def mt (l : List (Int × Int)) (c i : Nat) : Bool := decide ((l.getD i (0, 0)).1 = ((c % 10 : Nat) : Int) ∧ (l.getD i (0, 0)).2 = ((c / 10 : Nat) : Int))
theorem lf_mt {l : List (Int × Int)} {c : Nat} (hc : c < 100) : (l.any fun p => inB p && cN p == c) = true ↔ ∃ i, i < l.length ∧ mt l c i = true := by
  rw [List.any_eq_true]
  constructor
  · rintro ⟨p, hp, hq⟩
    obtain ⟨i, hi, he⟩ := List.mem_iff_getElem.1 hp
    refine ⟨i, hi, decide_eq_true ?_⟩
    rw [getD_g hi, he]
    rw [Bool.and_eq_true, beq_iff_eq] at hq
    have h1 : 0 ≤ p.1 ∧ p.1 < 10 ∧ 0 ≤ p.2 ∧ p.2 < 10 := of_decide_eq_true hq.1
    have h2 : (10 * p.2 + p.1).toNat = c := hq.2
    omega
  · rintro ⟨i, hi, hm⟩
    have h1 := of_decide_eq_true hm
    rw [getD_g hi] at h1
    refine ⟨l[i], List.getElem_mem hi, ?_⟩
    rw [Bool.and_eq_true, beq_iff_eq]
    refine ⟨decide_eq_true (by omega), ?_⟩
    show (10 * l[i].2 + l[i].1).toNat = c
    omega
theorem mt_u {l : List (Int × Int)} {c i j : Nat} (hp : l.Pairwise (fun p q => p ≠ q)) (hi : i < l.length) (hj : j < l.length) (h1 : mt l c i = true) (h2 : mt l c j = true) : i = j := by
  have a1 := of_decide_eq_true h1
  have a2 := of_decide_eq_true h2
  rw [getD_g hi] at a1
  rw [getD_g hj] at a2
  have e : l[i] = l[j] := Prod.ext (a1.1.trans a2.1.symm) (a1.2.trans a2.2.symm)
  have pw := List.pairwise_iff_getElem.1 hp
  rcases Nat.lt_trichotomy i j with q | q | q
  · exact absurd e (pw i j hi hj q)
  · exact q
  · exact absurd e.symm (pw j i hj hi q)
section LEAF
variable {τ : Nat → Nat} {h : Hp} {E an : Nat → Nat} {pl : Nat} {x y u v : Int32} {l : List (Int × Int)} {c : Nat}
theorem l220n {k50 : Option Nat → Int32 → Int32 → Int32 → Hp → Option (Int32 × Hp)} {k60 : Option Nat → Int32 → Int32 → Int32 → Int32 → Hp → Option (Int32 × Hp)} {j n : Nat} (hF : Fix h) (hl : LfS h l) (hb : ∀ p, p ∈ l → nrP p) (h4 : l.length ≤ 4) (hc : c < 100) (hj : j < l.length) (hm : mt l c j = false) : b_220_60 k50 k60 (some 64) v (nI n) (nI c) (nI j) h = k60 (some 64) v (nI n) (nI c) (nI (j + 1)) h := by
  obtain ⟨l1, l2⟩ := hl
  obtain ⟨v1, v2⟩ := l2 j hj
  have nr := toI_z (hb _ (by rw [getD_g hj]; exact List.getElem_mem hj) : nrP (l.getD j (0, 0)))
  have b1 : (nI (c % 10)).toInt = ((c % 10 : Nat) : Int) := toI_nI (by omega)
  have b2 : (nI (c / 10)).toInt = ((c / 10 : Nat) : Int) := toI_nI (by omega)
  have e15 : b_220_115 k50 k60 (some 64) v (nI n) (nI c) (nI j) h = k60 (some 64) v (nI n) (nI c) (nI (j + 1)) h := by rw [b_220_115, bnd_e, nI_add]
  rw [b_220_60, gI64 hF, Option.bind_some, l1, if_neg (by rw [nI_leI (by omega) (by omega)]; omega), b_220_69, gQ64_24 hF, Option.bind_some, aI74 hF (by omega), Option.bind_some, v1, show grd (decide (¬ nI 10 = 0)) = some () from rfl, Option.bind_some, pk_rem (by omega) (by omega) (by omega)]
  by_cases c1 : zI (l.getD j (0, 0)).1 = nI (c % 10)
  · rw [if_neg (fun z => z c1), b_220_84, gQ64_25 hF, Option.bind_some, aI75 hF (by omega), Option.bind_some, v2, show grd (decide (¬ nI 10 = 0)) = some () from rfl, Option.bind_some, pk_div (by omega) (by omega) (by omega)]
    by_cases c2 : zI (l.getD j (0, 0)).2 = nI (c / 10)
    · have q1 := congrArg Int32.toInt c1
      have q2 := congrArg Int32.toInt c2
      rw [nr.1, b1] at q1
      rw [nr.2, b2] at q2
      exact absurd ⟨q1, q2⟩ (of_decide_eq_false hm)
    · rw [if_neg c2, b_220_99, e15]
  · rw [if_pos c1, e15]
theorem l220y {k50 : Option Nat → Int32 → Int32 → Int32 → Hp → Option (Int32 × Hp)} {k60 : Option Nat → Int32 → Int32 → Int32 → Int32 → Hp → Option (Int32 × Hp)} {j n : Nat} (hF : Fix h) (hl : LfS h l) (h4 : l.length ≤ 4) (hc : c < 100) (hj : j < l.length) (hm : mt l c j = true) : b_220_60 k50 k60 (some 64) v (nI n) (nI c) (nI j) h = if nI n = v then some (nI c, h) else k60 (some 64) v (nI (n + 1)) (nI c) (nI (j + 1)) h := by
  obtain ⟨l1, l2⟩ := hl
  obtain ⟨v1, v2⟩ := l2 j hj
  have e := of_decide_eq_true hm
  rw [e.1, ← nz] at v1
  rw [e.2, ← nz] at v2
  rw [b_220_60, gI64 hF, Option.bind_some, l1, if_neg (by rw [nI_leI (by omega) (by omega)]; omega), b_220_69, gQ64_24 hF, Option.bind_some, aI74 hF (by omega), Option.bind_some, v1, show grd (decide (¬ nI 10 = 0)) = some () from rfl, Option.bind_some, pk_rem (by omega) (by omega) (by omega), if_neg (fun z => z rfl), b_220_84, gQ64_25 hF, Option.bind_some, aI75 hF (by omega), Option.bind_some, v2, show grd (decide (¬ nI 10 = 0)) = some () from rfl, Option.bind_some, pk_div (by omega) (by omega) (by omega), if_pos rfl, b_220_102]
  by_cases k : nI n = v
  · rw [if_neg (fun z => z k), if_pos k, b_220_109]
  · rw [if_pos k, if_neg k, b_220_112, bnd_e, nI_add, b_220_115, bnd_e, nI_add]
theorem l220A {k50 : Option Nat → Int32 → Int32 → Int32 → Hp → Option (Int32 × Hp)} {n : Nat} (hF : Fix h) (hl : LfS h l) (hb : ∀ p, p ∈ l → nrP p) (h4 : l.length ≤ 4) (hc : c < 100) : ∀ r j m, j + r = l.length → (∀ i, j ≤ i → i < l.length → mt l c i = false) → l_220_60 k50 (r + 1 + m) (some 64) v (nI n) (nI c) (nI j) h = b_220_121 k50 (some 64) v (nI n) (nI c) h := by
  intro r
  induction r with
  | zero =>
    intro j m hj _
    rw [show 0 + 1 + m = m + 1 by omega, l_220_60, b_220_60, gI64 hF, Option.bind_some, hl.1, if_pos (by rw [nI_leI (by omega) (by omega)]; omega)]
  | succ r ih =>
    intro j m hj hm
    rw [show r + 1 + 1 + m = (r + 1 + m) + 1 by omega, l_220_60, l220n hF hl hb h4 hc (by omega) (hm j (Nat.le_refl j) (by omega)), ih (j + 1) m (by omega) (fun i h1 h2 => hm i (by omega) h2)]
theorem l220B {k50 : Option Nat → Int32 → Int32 → Int32 → Hp → Option (Int32 × Hp)} {n i0 : Nat} (hF : Fix h) (hl : LfS h l) (hb : ∀ p, p ∈ l → nrP p) (h4 : l.length ≤ 4) (hc : c < 100) (h0 : i0 < l.length) (hy : mt l c i0 = true) (hn : ∀ i, i < l.length → i ≠ i0 → mt l c i = false) : ∀ r j m, j + r = l.length → j ≤ i0 → l_220_60 k50 (r + 1 + m) (some 64) v (nI n) (nI c) (nI j) h = if nI n = v then some (nI c, h) else b_220_121 k50 (some 64) v (nI (n + 1)) (nI c) h := by
  intro r
  induction r with
  | zero => intro j m hj h1; omega
  | succ r ih =>
    intro j m hj h1
    rw [show r + 1 + 1 + m = (r + 1 + m) + 1 by omega, l_220_60]
    by_cases e : j = i0
    · subst e
      rw [l220y hF hl h4 hc h0 hy, l220A hF hl hb h4 hc r (j + 1) m (by omega) (fun i h1 h2 => hn i h2 (by omega))]
    · rw [l220n hF hl hb h4 hc (by omega) (hn j (by omega) e), ih (j + 1) m (by omega) (by omega)]
theorem l_220 (hF : Fix h) (hl : LfS h l) (hb : ∀ p, p ∈ l → nrP p) (h4 : l.length ≤ 4) (hp : l.Pairwise (fun p q => p ≠ q)) : ∀ r c n m, c + r = 100 → l_220_50 (r + 1 + m) (some 64) v (nI n) (nI c) h = some (scn (fun c => l.any fun p => inB p && cN p == c) v r n, h) := by
  intro r
  induction r with
  | zero =>
    intro c n m hc
    rw [show 0 + 1 + m = m + 1 by omega, l_220_50, b_220_50, if_pos (by rw [nI_leI (by omega) (by omega)]; omega), b_220_127]
    rfl
  | succ r ih =>
    intro c n m hc
    obtain ⟨m2, hm2⟩ := FU_ge (l.length + 1) (by omega)
    have e21 : ∀ n, b_220_121 (l_220_50 (r + 1 + m)) (some 64) v (nI n) (nI c) h = some (scn (fun c => l.any fun p => inB p && cN p == c) v r n, h) := fun n => by rw [b_220_121, bnd_e, nI_add, ih (c + 1) n m (by omega)]
    rw [show r + 1 + 1 + m = (r + 1 + m) + 1 by omega, l_220_50, b_220_50, if_neg (by rw [nI_leI (by omega) (by omega)]; omega), b_220_57, bnd_e, hm2]
    unfold scn
    rw [show 99 - r = c by omega]
    cases hq : (l.any fun p => inB p && cN p == c)
    · rw [if_neg (by decide), l220A hF hl hb h4 (by omega) l.length 0 m2 (by omega) (fun i _ hi => ?_), e21]
      cases hz : mt l c i
      · rfl
      · have := (lf_mt (by omega)).2 ⟨i, hi, hz⟩
        rw [hq] at this
        cases this
    · obtain ⟨i0, hi, hz⟩ := (lf_mt (by omega)).1 hq
      rw [if_pos rfl, l220B hF hl hb h4 (by omega) hi hz (fun i h1 h2 => ?_) l.length 0 m2 (by omega) (by omega), e21]
      · by_cases k : nI n = v
        · rw [if_pos k, if_pos k]
        · rw [if_neg k, if_neg k]
      · cases hw : mt l c i
        · rfl
        · exact absurd (mt_u hp h1 hi hw hz) h2
theorem s_136 (hF : Fix h) (hR : ScR τ h 33 E an pl) (hW : WF E) : f_136 (some 30) x y u v h = some (lfA E x y u v, h) := by
  obtain ⟨q, r⟩ := ask33 hF hR
  have f53 : f_53 (some (rq h 33 2)) x y h = some (bI (dgB E x y), h) := s_53 hR.2.1 hW.2.2.1
  have e3 : (nI 3).toInt = 3 := by decide
  rw [f_136, b_136_0, gQ30_1 hF, Option.bind_some, q, Option.bind_some, r, grd_e, Option.bind_some, f53, Option.bind_some]
  dsimp only
  unfold lfA
  cases hc : dgB E x y
  · rw [if_pos (show bI false = 0 from rfl), if_neg (fun z => by cases z.1), b_136_24]
  · rw [if_neg (show ¬ bI true = 0 by decide), b_136_15]
    by_cases c2 : u.toInt < 0
    · rw [if_pos (by rw [fa_lt, toI_0]; exact c2), if_neg (by omega), b_136_24]
    · rw [if_neg (by rw [fa_lt, toI_0]; exact c2), b_136_19]
      by_cases c3 : u.toInt < 3
      · obtain ⟨ex, ey, hd, hg⟩ := dgB_n hc
        obtain ⟨d1, d2, hD⟩ := dr33 hR hW hd
        have eu := na_of (show 0 ≤ u.toInt by omega)
        rw [if_pos (by rw [fa_lt, e3]; exact c3), if_pos ⟨rfl, by omega, c3⟩, b_136_26, gQ30_1 hF, Option.bind_some, q, Option.bind_some, d1, Option.bind_some]
        have hu : u.toInt.toNat < 3 := by omega
        generalize x.toInt.toNat = d at *
        generalize y.toInt.toNat = g at *
        generalize u.toInt.toNat = a at *
        rw [ex, ey, eu, d2, Option.bind_some, rC_e hD.1 hD.2.1, grd_e, Option.bind_some, s_16 hD hg hu, Option.bind_some]
      · rw [if_neg (by rw [fa_lt, e3]; exact c3), if_neg (by omega), b_136_24]
theorem s_220 (hF : Fix h) (hB : Bg h E) (hW : WF E) : ∃ g, f_220 (some 64) x y u v h = some (lfA E x y u v, g) ∧ Fz Zq h g ∧ NowE g E ∧ hI g 64 22 = 1 ∧ hI g 64 0 = nI 0 := by
  obtain ⟨g, a1, a2, a3, a4, a5, F0, F1⟩ := askM hF hB
  have w2 := hW.2.2.1
  have no : ¬ (dgB E x y = true ∧ 0 ≤ u.toInt ∧ u.toInt < 3) → ∃ k, b_220_35 g = some (lfA E x y u v, k) ∧ Fz Zq h k ∧ NowE k E ∧ hI k 64 22 = 1 ∧ hI k 64 0 = nI 0 := fun c => ⟨g, by unfold lfA; rw [if_neg c, b_220_35], a2.wid (by decide), a3, a4, a5⟩
  rw [f_220, b_220_0, pI64 hF, Option.bind_some, rC64 F0, grd_e, Option.bind_some, a1, Option.bind_some, rC64 F1, grd_e, Option.bind_some, s_204 F1 a3, Option.bind_some]
  dsimp only
  by_cases c1 : 0 ≤ x.toInt ∧ x.toInt < E 2
  · rw [bI_T c1, if_neg nI10, b_220_17, s_182, Option.bind_some, toI_nI (by omega), toI_nI (by omega)]
    dsimp only
    by_cases c2 : ((0 : Nat) : Int) ≤ y.toInt ∧ y.toInt ≤ ((3 : Nat) : Int)
    · rw [bI_T c2, if_neg nI10, b_220_26, s_182, Option.bind_some, toI_nI (by omega), toI_nI (by omega)]
      dsimp only
      by_cases c3 : ((0 : Nat) : Int) ≤ u.toInt ∧ u.toInt ≤ ((2 : Nat) : Int)
      · have hc : dgB E x y = true := decide_eq_true ⟨c1, by omega⟩
        obtain ⟨ex, ey, hd, hg⟩ := dgB_n hc
        have eu := na_of (show 0 ≤ u.toInt by omega)
        have hu : u.toInt.toNat < 3 := by omega
        unfold lfA
        rw [bI_T c3, if_pos nI10, b_220_37, rC64 F1, grd_e, Option.bind_some, if_pos ⟨hc, by omega, by omega⟩]
        generalize x.toInt.toNat = d at *
        generalize y.toInt.toNat = g' at *
        generalize u.toInt.toNat = a at *
        have dr := hW.dr hd
        obtain ⟨g2, b1, b2, b3⟩ := s_219 (d := d) (g := g') (a := a) F1 a3 dr.1 hg hu dr.2.2.2.1 ⟨dr.2.2.2.2.1, dr.2.2.2.2.2.1⟩
        have F2 := b2.fix F1 (by decide)
        obtain ⟨m, hm⟩ := FU_ge (100 + 1) (by omega)
        rw [ex, ey, eu, b1, Option.bind_some, bnd_e, bnd_e, hm, l_220 F2 b3 (lfc_bd dr.2.1 dr.2.2.1 dr.2.2.2.2.2.1) (lfc_len dr.2.2.2.2.2.1) (lfc_nd ⟨dr.2.2.2.2.1, dr.2.2.2.2.2.1⟩ hu) 100 0 0 m (by omega)]
        exact ⟨g2, rfl, (a2.wid (by decide)).then (b2.wid (by decide)), a3.cg (b2.I (by decide)), by rw [b2.I1 (by decide) (by decide)]; exact a4, by rw [b2.I1 (by decide) (by decide)]; exact a5⟩
      · rw [bI_F c3, if_neg (fun z => z rfl)]
        exact no (fun z => c3 (by omega))
    · rw [bI_F c2, if_pos (show nI 0 = 0 from rfl)]
      exact no (fun z => c2 (by have := of_decide_eq_true z.1; omega))
  · rw [bI_F c1, if_pos (show nI 0 = 0 from rfl)]
    exact no (fun z => c1 (by have := of_decide_eq_true z.1; omega))
end LEAF
