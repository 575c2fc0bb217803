/-! text fed and cut: both -/
def apT (T : Nat → Nat) (n : Nat) (x : Int32) : Nat → Nat := fun j => if n ≤ j ∧ j < n + 4 then btN x (j - n) else T j
def apF (T : Nat → Nat) (n : Nat) (a b c d e : Int32) : Nat → Nat := apT (apT (apT (apT (apT T n a) (n + 4) b) (n + 8) c) (n + 12) d) (n + 16) e
/-- the class's text, and the reference's -/
def TxC (h : Hp) (T : Nat → Nat) (n : Nat) : Prop := hI h 31 1 = nI n ∧ n ≤ 940 ∧ ∀ i, i < n → hI h 32 i = nI (T i) ∧ T i < 256
def TxM (h : Hp) (T : Nat → Nat) (n : Nat) : Prop := hI h 64 2 = nI n ∧ n ≤ 940 ∧ ∀ i, i < n → hI h 65 i = nI (T i) ∧ T i < 256
section TEXT
variable {h : Hp} {T : Nat → Nat} {n : Nat}
theorem tx_c {x : Int32} (hF : Fix h) (hT : TxC h T n) (hn : n + 4 ≤ 940) : ∃ g, f_115 (some 31) x h = some g ∧ Fz [2000031, 32] h g ∧ TxC g (apT T n x) (n + 4) ∧ Fix g := by
  obtain ⟨t1, t2, t3⟩ := hT
  obtain ⟨g, a1, a2, a3, a4⟩ := s_115 (x := x) hF t1 hn
  refine ⟨g, a1, a2, ⟨a3, hn, fun i hi => ?_⟩, a2.fix hF (by decide)⟩
  unfold apT
  rw [a4]
  by_cases c : n ≤ i ∧ i < n + 4
  · rw [if_pos c, if_pos c]; exact ⟨rfl, btN_lt _ _⟩
  · rw [if_neg c, if_neg c]; exact t3 i (by omega)
theorem tx_m {x : Int32} (hF : Fix h) (hT : TxM h T n) (hn : n + 4 ≤ 940) : ∃ g, f_178 (some 64) x h = some g ∧ Fz [3000064, 65] h g ∧ TxM g (apT T n x) (n + 4) ∧ Fix g := by
  obtain ⟨t1, t2, t3⟩ := hT
  obtain ⟨g, a1, a2, a3, a4⟩ := s_178 (x := x) hF t1 hn
  refine ⟨g, a1, a2, ⟨a3, hn, fun i hi => ?_⟩, a2.fix hF (by decide)⟩
  unfold apT
  rw [a4]
  by_cases c : n ≤ i ∧ i < n + 4
  · rw [if_pos c, if_pos c]; exact ⟨rfl, btN_lt _ _⟩
  · rw [if_neg c, if_neg c]; exact t3 i (by omega)
theorem s_130 {a b c d e : Int32} (hF : Fix h) (hT : TxC h T n) : ∃ g, f_130 (some 30) a b c d e h = some (if n + 20 ≤ 940 then nI (n + 20) else -1, g) ∧ Fz [2000031, 32] h g ∧ TxC g (if n + 20 ≤ 940 then apF T n a b c d e else T) (if n + 20 ≤ 940 then n + 20 else n) := by
  have n9 := hT.2.1
  rw [f_130, b_130_0, gQ30_0 hF, Option.bind_some, gI31 hF, Option.bind_some, hT.1, nI_add]
  by_cases k : n + 20 ≤ 940
  · obtain ⟨g1, a1, a2, a3, a4⟩ := tx_c (x := a) hF hT (by omega)
    obtain ⟨g2, b1, b2, b3, b4⟩ := tx_c (x := b) a4 a3 (by omega)
    obtain ⟨g3, c1, c2, c3, c4⟩ := tx_c (x := c) b4 b3 (by omega)
    obtain ⟨g4, d1, d2, d3, d4⟩ := tx_c (x := d) c4 c3 (by omega)
    obtain ⟨g5, e1, e2, e3, e4⟩ := tx_c (x := e) d4 d3 (by omega)
    rw [if_pos k, if_pos k, if_pos k]
    refine ⟨g5, ?_, a2.then (b2.then (c2.then (d2.then e2))), e3⟩
    rw [if_pos (by rw [nI_leI (by omega) (by omega)]; exact k), b_130_18, gQ30_0 hF, Option.bind_some, rC31 hF, grd_e, Option.bind_some, a1, Option.bind_some, gQ30_0 a4, Option.bind_some, rC31 a4, grd_e, Option.bind_some, b1, Option.bind_some, gQ30_0 b4, Option.bind_some, rC31 b4, grd_e, Option.bind_some, c1, Option.bind_some, gQ30_0 c4, Option.bind_some, rC31 c4, grd_e, Option.bind_some, d1, Option.bind_some, gQ30_0 d4, Option.bind_some, rC31 d4, grd_e, Option.bind_some, e1, Option.bind_some, gQ30_0 e4, Option.bind_some, gI31 e4, Option.bind_some, e3.1]
  · rw [if_neg k, if_neg k, if_neg k]
    refine ⟨h, ?_, Fz.rfl', hT⟩
    rw [if_neg (by rw [nI_leI (by omega) (by omega)]; exact k), b_130_16]
theorem s_179 {a b c d e : Int32} (hF : Fix h) (hT : TxM h T n) : ∃ g, f_179 (some 64) a b c d e h = some (if n + 20 ≤ 940 then nI (n + 20) else -1, g) ∧ Fz [1000064, 3000064, 65] h g ∧ TxM g (if n + 20 ≤ 940 then apF T n a b c d e else T) (if n + 20 ≤ 940 then n + 20 else n) ∧ hI g 64 0 = nI 0 := by
  have n9 := hT.2.1
  have z0 : Fz [1000064, 3000064, 65] h (sI h 64 0 (nI 0)) := Fz.sI Fz.rfl' (Or.inr (by simp))
  have F0 : Fix (sI h 64 0 (nI 0)) := fx_sI hF (by omega)
  have T0 : TxM (sI h 64 0 (nI 0)) T n := ⟨by rw [hI_sI, if_neg (by omega)]; exact hT.1, hT.2.1, fun i hi => by rw [hI_sI, if_neg (by omega)]; exact hT.2.2 i hi⟩
  have i0 : hI (sI h 64 0 (nI 0)) 64 0 = nI 0 := by rw [hI_sI]; exact if_pos ⟨rfl, rfl⟩
  rw [f_179, b_179_0, pI64 hF, Option.bind_some]
  generalize sI h 64 0 (nI 0) = g0 at *
  rw [gI64 F0, Option.bind_some, T0.1, nI_add]
  by_cases k : n + 20 ≤ 940
  · obtain ⟨g1, a1, a2, a3, a4⟩ := tx_m (x := a) F0 T0 (by omega)
    obtain ⟨g2, b1, b2, b3, b4⟩ := tx_m (x := b) a4 a3 (by omega)
    obtain ⟨g3, c1, c2, c3, c4⟩ := tx_m (x := c) b4 b3 (by omega)
    obtain ⟨g4, d1, d2, d3, d4⟩ := tx_m (x := d) c4 c3 (by omega)
    obtain ⟨g5, e1, e2, e3, e4⟩ := tx_m (x := e) d4 d3 (by omega)
    have zz := a2.then (b2.then (c2.then (d2.then e2)))
    rw [if_pos k, if_pos k, if_pos k]
    refine ⟨g5, ?_, z0.then (zz.wid (by decide)), e3, by rw [zz.I1 (by decide) (by decide)]; exact i0⟩
    rw [if_pos (by rw [nI_leI (by omega) (by omega)]; exact k), b_179_20, rC64 F0, grd_e, Option.bind_some, a1, Option.bind_some, rC64 a4, grd_e, Option.bind_some, b1, Option.bind_some, rC64 b4, grd_e, Option.bind_some, c1, Option.bind_some, rC64 c4, grd_e, Option.bind_some, d1, Option.bind_some, rC64 d4, grd_e, Option.bind_some, e1, Option.bind_some, gI64 e4, Option.bind_some, e3.1]
  · rw [if_neg k, if_neg k, if_neg k]
    refine ⟨g0, ?_, z0, T0, i0⟩
    rw [if_neg (by rw [nI_leI (by omega) (by omega)]; exact k), b_179_18]
/-- what end cuts the text to -/
def edO (x : Int32) (n : Nat) : Bool := decide (0 ≤ x.toInt ∧ x.toInt ≤ n)
def edN (x : Int32) (n : Nat) : Nat := if edO x n = true then x.toInt.toNat else n
theorem s_131 {x : Int32} (hF : Fix h) (hT : TxC h T n) : ∃ g, f_131 (some 30) x h = some (bI (edO x n), g) ∧ Fz [2000031] h g ∧ TxC g T (edN x n) := by
  have n9 := hT.2.1
  rw [f_131, b_131_0]
  unfold edN edO
  by_cases c : x < 0
  · have c' : x.toInt < 0 := by rw [fa_lt, toI_0] at c; exact c
    rw [if_pos c, decide_eq_false (by omega), if_neg (by decide), b_131_15, grd0, Option.bind_some]
    exact ⟨h, rfl, Fz.rfl', hT⟩
  · have c' : ¬ x.toInt < 0 := by rw [fa_lt, toI_0] at c; exact c
    rw [if_neg c, b_131_4, gQ30_0 hF, Option.bind_some, gI31 hF, Option.bind_some, hT.1]
    by_cases c2 : x.toInt ≤ n
    · have xe : x = nI x.toInt.toNat := by rw [← zI_toNat (by omega), ← zI_of]
      rw [if_pos (by rw [fa_le, toI_nI (by omega)]; exact c2), decide_eq_true (by omega), if_pos rfl, b_131_17, gQ30_0 hF, Option.bind_some, pI31 hF, Option.bind_some, grd1, Option.bind_some]
      refine ⟨_, rfl, Fz.sI Fz.rfl' (Or.inr (by simp)), ?_, by omega, fun i hi => ?_⟩
      · rw [hI_sI, if_pos ⟨rfl, rfl⟩]; exact xe
      · rw [hI_sI, if_neg (by omega)]; exact hT.2.2 i (by omega)
    · rw [if_neg (by rw [fa_le, toI_nI (by omega)]; exact c2), decide_eq_false (by omega), if_neg (by decide), b_131_15, grd0, Option.bind_some]
      exact ⟨h, rfl, Fz.rfl', hT⟩
theorem s_180 {x : Int32} (hF : Fix h) (hT : TxM h T n) : ∃ g, f_180 (some 64) x h = some (bI (edO x n), g) ∧ Fz [1000064, 3000064] h g ∧ TxM g T (edN x n) ∧ hI g 64 0 = nI 0 := by
  have n9 := hT.2.1
  have z0 : Fz [1000064, 3000064] h (sI h 64 0 (nI 0)) := Fz.sI Fz.rfl' (Or.inr (by simp))
  have F0 : Fix (sI h 64 0 (nI 0)) := fx_sI hF (by omega)
  have T0 : TxM (sI h 64 0 (nI 0)) T n := ⟨by rw [hI_sI, if_neg (by omega)]; exact hT.1, hT.2.1, fun i hi => by rw [hI_sI, if_neg (by omega)]; exact hT.2.2 i hi⟩
  have i0 : hI (sI h 64 0 (nI 0)) 64 0 = nI 0 := by rw [hI_sI]; exact if_pos ⟨rfl, rfl⟩
  rw [f_180, b_180_0, pI64 hF, Option.bind_some]
  generalize sI h 64 0 (nI 0) = g0 at *
  unfold edN edO
  by_cases c : x < 0
  · have c' : x.toInt < 0 := by rw [fa_lt, toI_0] at c; exact c
    rw [if_pos c, decide_eq_false (by omega), if_neg (by decide), b_180_17, grd0, Option.bind_some]
    exact ⟨g0, rfl, z0, T0, i0⟩
  · have c' : ¬ x.toInt < 0 := by rw [fa_lt, toI_0] at c; exact c
    rw [if_neg c, b_180_9, gI64 F0, Option.bind_some, T0.1]
    by_cases c2 : x.toInt ≤ n
    · have xe : x = nI x.toInt.toNat := by rw [← zI_toNat (by omega), ← zI_of]
      rw [if_pos (by rw [fa_le, toI_nI (by omega)]; exact c2), decide_eq_true (by omega), if_pos rfl, b_180_19, pI64 F0, Option.bind_some, grd1, Option.bind_some]
      refine ⟨_, rfl, Fz.sI z0 (Or.inr (by simp)), ⟨?_, by omega, fun i hi => ?_⟩, ?_⟩
      · rw [hI_sI, if_pos ⟨rfl, rfl⟩]; exact xe
      · rw [hI_sI, if_neg (by omega)]; exact T0.2.2 i (by omega)
      · rw [hI_sI, if_neg (by omega)]; exact i0
    · rw [if_neg (by rw [fa_le, toI_nI (by omega)]; exact c2), decide_eq_false (by omega), if_neg (by decide), b_180_17, grd0, Option.bind_some]
      exact ⟨g0, rfl, z0, T0, i0⟩
end TEXT
