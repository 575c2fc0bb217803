/-! the law's loop -/
/-- one call of the law: it goes on -/
def Lk (k23 : Option Nat → Option Nat → Option Nat → Option Nat → Int32 → Hp → Option (Int32 × Hp)) (i : Nat) (h : Hp) (v : Option (Int32 × Hp)) : Prop := ∃ k τ E N, v = k23 (some 29) (some 30) (some 64) (some 97) (nI (6 * i + 6)) k ∧ Gd τ E N k ∧ St h k
section LAW
variable {τ : Nat → Nat} {h g k : Hp} {E N : Nat → Nat} {n i : Nat} {k23 : Option Nat → Option Nat → Option Nat → Option Nat → Int32 → Hp → Option (Int32 × Hp)}
theorem rd_h {j : Nat} (hF : Fix h) (hl : hL h 29 = n) (hn : n ≤ 384) (hi : 6 * i + j < n) : aI 12 (some 29) (nI (6 * i) + nI j) h = some (hI h 29 (6 * i + j)) := by
  rw [nI_add]
  exact aI_n (K29 hF) hl hi (by omega)
theorem rd_g {j : Nat} (hF : Fix g) (s : hI g 29 = hI h 29 ∧ hL g 29 = hL h 29) (hl : hL h 29 = n) (hn : n ≤ 384) (hi : 6 * i + j < n) : aI 12 (some 29) (nI (6 * i) + nI j) g = some (hI h 29 (6 * i + j)) := by
  rw [nI_add, ← s.1]
  exact aI_n (K29 hF) (s.2.trans hl) hi (by omega)
theorem go_on : b_308_1317 k23 (some 29) (some 30) (some 64) (some 97) (nI (6 * i)) k = k23 (some 29) (some 30) (some 64) (some 97) (nI (6 * i + 6)) k := by
  rw [b_308_1317, bnd_e, nI_add]
theorem op_0 (G : Gd τ E N h) (hn : hN h ≤ 800000) (hl : hL h 29 = n) (hn6 : n ≤ 384) (hi : 6 * i + 6 ≤ n) : Lk k23 i h (b_308_224 k23 (some 29) (some 30) (some 64) (some 97) (nI (6 * i)) h) := by
  obtain ⟨r, g, k, τ', E', N', a, b, F1, s1, G', st⟩ := call_0 (x := hI h 29 (6 * i + 1)) (y := hI h 29 (6 * i + 2)) (c := hI h 29 (6 * i + 3)) (d := hI h 29 (6 * i + 4)) (e := hI h 29 (6 * i + 5)) G
  refine ⟨k, τ', E', N', ?_, G', st⟩
  rw [b_308_224, rd_h (j := 1) G.F hl hn6 (by omega), Option.bind_some, rd_h (j := 2) G.F hl hn6 (by omega), Option.bind_some, rd_h (j := 3) G.F hl hn6 (by omega), Option.bind_some, rd_h (j := 4) G.F hl hn6 (by omega), Option.bind_some, rd_h (j := 5) G.F hl hn6 (by omega), Option.bind_some, rC30 G.F, grd_e, Option.bind_some, a, Option.bind_some]
  dsimp only
  rw [rd_g (j := 1) F1 s1 hl hn6 (by omega), Option.bind_some, rd_g (j := 2) F1 s1 hl hn6 (by omega), Option.bind_some, rd_g (j := 3) F1 s1 hl hn6 (by omega), Option.bind_some, rd_g (j := 4) F1 s1 hl hn6 (by omega), Option.bind_some, rd_g (j := 5) F1 s1 hl hn6 (by omega), Option.bind_some, rC64 F1, grd_e, Option.bind_some, b, Option.bind_some, if_pos rfl]
  exact go_on
theorem op_1 (G : Gd τ E N h) (hn : hN h ≤ 800000) (hl : hL h 29 = n) (hn6 : n ≤ 384) (hi : 6 * i + 6 ≤ n) : Lk k23 i h (b_308_297 k23 (some 29) (some 30) (some 64) (some 97) (nI (6 * i)) h) := by
  obtain ⟨r, g, k, τ', E', N', a, b, F1, s1, G', st⟩ := call_1 (x := hI h 29 (6 * i + 1)) G
  refine ⟨k, τ', E', N', ?_, G', st⟩
  rw [b_308_297, rd_h (j := 1) G.F hl hn6 (by omega), Option.bind_some, rC30 G.F, grd_e, Option.bind_some, a, Option.bind_some]
  dsimp only
  rw [rd_g (j := 1) F1 s1 hl hn6 (by omega), Option.bind_some, rC64 F1, grd_e, Option.bind_some, b, Option.bind_some, if_pos rfl]
  exact go_on
theorem op_2 (G : Gd τ E N h) (hn : hN h ≤ 800000) (hl : hL h 29 = n) (hn6 : n ≤ 384) (hi : 6 * i + 6 ≤ n) : Lk k23 i h (b_308_322 k23 (some 29) (some 30) (some 64) (some 97) (nI (6 * i)) h) := by
  obtain ⟨r, g, k, τ', E', N', a, b, F1, s1, G', st⟩ := call_2 G hn
  refine ⟨k, τ', E', N', ?_, G', st⟩
  rw [b_308_322, rC30 G.F, grd_e, Option.bind_some, a, Option.bind_some]
  dsimp only
  rw [rC64 F1, grd_e, Option.bind_some, b, Option.bind_some, if_pos rfl]
  exact go_on
theorem op_3 (G : Gd τ E N h) (hn : hN h ≤ 800000) (hl : hL h 29 = n) (hn6 : n ≤ 384) (hi : 6 * i + 6 ≤ n) : Lk k23 i h (b_308_335 k23 (some 29) (some 30) (some 64) (some 97) (nI (6 * i)) h) := by
  obtain ⟨r, g, k, τ', E', N', a, b, F1, s1, G', st⟩ := call_3 G
  refine ⟨k, τ', E', N', ?_, G', st⟩
  rw [b_308_335, rC30 G.F, grd_e, Option.bind_some, a, Option.bind_some]
  dsimp only
  rw [rC64 F1, grd_e, Option.bind_some, b, Option.bind_some, if_pos rfl]
  exact go_on
theorem op_4 (G : Gd τ E N h) (hn : hN h ≤ 800000) (hl : hL h 29 = n) (hn6 : n ≤ 384) (hi : 6 * i + 6 ≤ n) : Lk k23 i h (b_308_348 k23 (some 29) (some 30) (some 64) (some 97) (nI (6 * i)) h) := by
  obtain ⟨r, g, k, τ', E', N', a, b, F1, s1, G', st⟩ := call_4 (x := hI h 29 (6 * i + 1)) (y := hI h 29 (6 * i + 2)) G
  refine ⟨k, τ', E', N', ?_, G', st⟩
  rw [b_308_348, rd_h (j := 1) G.F hl hn6 (by omega), Option.bind_some, rd_h (j := 2) G.F hl hn6 (by omega), Option.bind_some, rC30 G.F, grd_e, Option.bind_some, a, Option.bind_some]
  dsimp only
  rw [rd_g (j := 1) F1 s1 hl hn6 (by omega), Option.bind_some, rd_g (j := 2) F1 s1 hl hn6 (by omega), Option.bind_some, rC64 F1, grd_e, Option.bind_some, b, Option.bind_some, if_pos rfl]
  exact go_on
theorem op_6 (G : Gd τ E N h) (hn : hN h ≤ 800000) (hl : hL h 29 = n) (hn6 : n ≤ 384) (hi : 6 * i + 6 ≤ n) : Lk k23 i h (b_308_453 k23 (some 29) (some 30) (some 64) (some 97) (nI (6 * i)) h) := by
  obtain ⟨r, g, k, τ', E', N', a, b, F1, s1, G', st⟩ := call_6 (x := hI h 29 (6 * i + 1)) (y := hI h 29 (6 * i + 2)) (u := hI h 29 (6 * i + 3)) (v := hI h 29 (6 * i + 4)) G
  refine ⟨k, τ', E', N', ?_, G', st⟩
  rw [b_308_453, rd_h (j := 1) G.F hl hn6 (by omega), Option.bind_some, rd_h (j := 2) G.F hl hn6 (by omega), Option.bind_some, rd_h (j := 3) G.F hl hn6 (by omega), Option.bind_some, rd_h (j := 4) G.F hl hn6 (by omega), Option.bind_some, rC30 G.F, grd_e, Option.bind_some, a, Option.bind_some]
  dsimp only
  rw [rd_g (j := 1) F1 s1 hl hn6 (by omega), Option.bind_some, rd_g (j := 2) F1 s1 hl hn6 (by omega), Option.bind_some, rd_g (j := 3) F1 s1 hl hn6 (by omega), Option.bind_some, rd_g (j := 4) F1 s1 hl hn6 (by omega), Option.bind_some, rC64 F1, grd_e, Option.bind_some, b, Option.bind_some, if_pos rfl]
  exact go_on
theorem op_7 (G : Gd τ E N h) (hn : hN h ≤ 800000) (hl : hL h 29 = n) (hn6 : n ≤ 384) (hi : 6 * i + 6 ≤ n) : Lk k23 i h (b_308_514 k23 (some 29) (some 30) (some 64) (some 97) (nI (6 * i)) h) := by
  obtain ⟨r, g, k, τ', E', N', a, b, F1, s1, G', st⟩ := call_7 (x := hI h 29 (6 * i + 1)) (y := hI h 29 (6 * i + 2)) G
  refine ⟨k, τ', E', N', ?_, G', st⟩
  rw [b_308_514, rd_h (j := 1) G.F hl hn6 (by omega), Option.bind_some, rd_h (j := 2) G.F hl hn6 (by omega), Option.bind_some, rC30 G.F, grd_e, Option.bind_some, a, Option.bind_some]
  dsimp only
  rw [rd_g (j := 1) F1 s1 hl hn6 (by omega), Option.bind_some, rd_g (j := 2) F1 s1 hl hn6 (by omega), Option.bind_some, rC64 F1, grd_e, Option.bind_some, b, Option.bind_some, if_pos rfl]
  exact go_on
theorem op_8 (G : Gd τ E N h) (hn : hN h ≤ 800000) (hl : hL h 29 = n) (hn6 : n ≤ 384) (hi : 6 * i + 6 ≤ n) : Lk k23 i h (b_308_551 k23 (some 29) (some 30) (some 64) (some 97) (nI (6 * i)) h) := by
  obtain ⟨r, g, k, τ', E', N', a, b, F1, s1, G', st⟩ := call_8 (x := hI h 29 (6 * i + 1)) (y := hI h 29 (6 * i + 2)) G
  refine ⟨k, τ', E', N', ?_, G', st⟩
  rw [b_308_551, rd_h (j := 1) G.F hl hn6 (by omega), Option.bind_some, rd_h (j := 2) G.F hl hn6 (by omega), Option.bind_some, rC30 G.F, grd_e, Option.bind_some, a, Option.bind_some]
  dsimp only
  rw [rd_g (j := 1) F1 s1 hl hn6 (by omega), Option.bind_some, rd_g (j := 2) F1 s1 hl hn6 (by omega), Option.bind_some, rC64 F1, grd_e, Option.bind_some, b, Option.bind_some, if_pos rfl]
  exact go_on
theorem op_9 (G : Gd τ E N h) (hn : hN h ≤ 800000) (hl : hL h 29 = n) (hn6 : n ≤ 384) (hi : 6 * i + 6 ≤ n) : Lk k23 i h (b_308_588 k23 (some 29) (some 30) (some 64) (some 97) (nI (6 * i)) h) := by
  obtain ⟨r, g, k, τ', E', N', a, b, F1, s1, G', st⟩ := call_9 (x := hI h 29 (6 * i + 1)) (y := hI h 29 (6 * i + 2)) (u := hI h 29 (6 * i + 3)) (v := hI h 29 (6 * i + 4)) G
  refine ⟨k, τ', E', N', ?_, G', st⟩
  rw [b_308_588, rd_h (j := 1) G.F hl hn6 (by omega), Option.bind_some, rd_h (j := 2) G.F hl hn6 (by omega), Option.bind_some, rd_h (j := 3) G.F hl hn6 (by omega), Option.bind_some, rd_h (j := 4) G.F hl hn6 (by omega), Option.bind_some, rC30 G.F, grd_e, Option.bind_some, a, Option.bind_some]
  dsimp only
  rw [rd_g (j := 1) F1 s1 hl hn6 (by omega), Option.bind_some, rd_g (j := 2) F1 s1 hl hn6 (by omega), Option.bind_some, rd_g (j := 3) F1 s1 hl hn6 (by omega), Option.bind_some, rd_g (j := 4) F1 s1 hl hn6 (by omega), Option.bind_some, rC64 F1, grd_e, Option.bind_some, b, Option.bind_some, if_pos rfl]
  exact go_on
theorem op_10 (G : Gd τ E N h) (hn : hN h ≤ 800000) (hl : hL h 29 = n) (hn6 : n ≤ 384) (hi : 6 * i + 6 ≤ n) : Lk k23 i h (b_308_649 k23 (some 29) (some 30) (some 64) (some 97) (nI (6 * i)) h) := by
  obtain ⟨r, g, k, τ', E', N', a, b, F1, s1, G', st⟩ := call_10 G hn
  refine ⟨k, τ', E', N', ?_, G', st⟩
  rw [b_308_649, rC30 G.F, grd_e, Option.bind_some, a, Option.bind_some]
  dsimp only
  rw [rC64 F1, grd_e, Option.bind_some, b, Option.bind_some, if_pos rfl]
  exact go_on
theorem op_11 (G : Gd τ E N h) (hn : hN h ≤ 800000) (hl : hL h 29 = n) (hn6 : n ≤ 384) (hi : 6 * i + 6 ≤ n) : Lk k23 i h (b_308_662 k23 (some 29) (some 30) (some 64) (some 97) (nI (6 * i)) h) := by
  obtain ⟨r, g, k, τ', E', N', a, b, F1, s1, G', st⟩ := call_11 G hn
  refine ⟨k, τ', E', N', ?_, G', st⟩
  rw [b_308_662, rC30 G.F, grd_e, Option.bind_some, a, Option.bind_some]
  dsimp only
  rw [rC64 F1, grd_e, Option.bind_some, b, Option.bind_some, if_pos rfl]
  exact go_on
theorem op_12 (G : Gd τ E N h) (hn : hN h ≤ 800000) (hl : hL h 29 = n) (hn6 : n ≤ 384) (hi : 6 * i + 6 ≤ n) : Lk k23 i h (b_308_675 k23 (some 29) (some 30) (some 64) (some 97) (nI (6 * i)) h) := by
  obtain ⟨r, g, k, τ', E', N', a, b, F1, s1, G', st⟩ := call_12 (x := hI h 29 (6 * i + 1)) G hn
  refine ⟨k, τ', E', N', ?_, G', st⟩
  rw [b_308_675, rd_h (j := 1) G.F hl hn6 (by omega), Option.bind_some, rC30 G.F, grd_e, Option.bind_some, a, Option.bind_some]
  dsimp only
  rw [rd_g (j := 1) F1 s1 hl hn6 (by omega), Option.bind_some, rC64 F1, grd_e, Option.bind_some, b, Option.bind_some, if_pos rfl]
  exact go_on
theorem op_13 (G : Gd τ E N h) (hn : hN h ≤ 800000) (hl : hL h 29 = n) (hn6 : n ≤ 384) (hi : 6 * i + 6 ≤ n) : Lk k23 i h (b_308_700 k23 (some 29) (some 30) (some 64) (some 97) (nI (6 * i)) h) := by
  obtain ⟨r, g, k, τ', E', N', a, b, F1, s1, G', st⟩ := call_13 G hn
  refine ⟨k, τ', E', N', ?_, G', st⟩
  rw [b_308_700, rC30 G.F, grd_e, Option.bind_some, a, Option.bind_some]
  dsimp only
  rw [rC64 F1, grd_e, Option.bind_some, b, Option.bind_some, if_pos rfl]
  exact go_on
theorem op_14 (G : Gd τ E N h) (hn : hN h ≤ 800000) (hl : hL h 29 = n) (hn6 : n ≤ 384) (hi : 6 * i + 6 ≤ n) : Lk k23 i h (b_308_713 k23 (some 29) (some 30) (some 64) (some 97) (nI (6 * i)) h) := by
  obtain ⟨r, g, k, τ', E', N', a, b, F1, s1, G', st⟩ := call_14 (x := hI h 29 (6 * i + 1)) G hn
  refine ⟨k, τ', E', N', ?_, G', st⟩
  rw [b_308_713, rd_h (j := 1) G.F hl hn6 (by omega), Option.bind_some, rC30 G.F, grd_e, Option.bind_some, a, Option.bind_some]
  dsimp only
  rw [rd_g (j := 1) F1 s1 hl hn6 (by omega), Option.bind_some, rC64 F1, grd_e, Option.bind_some, b, Option.bind_some, if_pos rfl]
  exact go_on
theorem op_15 (G : Gd τ E N h) (hn : hN h ≤ 800000) (hl : hL h 29 = n) (hn6 : n ≤ 384) (hi : 6 * i + 6 ≤ n) : Lk k23 i h (b_308_738 k23 (some 29) (some 30) (some 64) (some 97) (nI (6 * i)) h) := by
  obtain ⟨r, g, k, τ', E', N', a, b, F1, s1, G', st⟩ := call_15 G hn
  refine ⟨k, τ', E', N', ?_, G', st⟩
  rw [b_308_738, rC30 G.F, grd_e, Option.bind_some, a, Option.bind_some]
  dsimp only
  rw [rC64 F1, grd_e, Option.bind_some, b, Option.bind_some, if_pos rfl]
  exact go_on
theorem op_16 (G : Gd τ E N h) (hn : hN h ≤ 800000) (hl : hL h 29 = n) (hn6 : n ≤ 384) (hi : 6 * i + 6 ≤ n) : Lk k23 i h (b_308_751 k23 (some 29) (some 30) (some 64) (some 97) (nI (6 * i)) h) := by
  obtain ⟨r, g, k, τ', E', N', a, b, F1, s1, G', st⟩ := call_16 (x := hI h 29 (6 * i + 1)) (y := hI h 29 (6 * i + 2)) (w := hI h 29 (6 * i + 3)) G hn
  refine ⟨k, τ', E', N', ?_, G', st⟩
  rw [b_308_751, rd_h (j := 1) G.F hl hn6 (by omega), Option.bind_some, rd_h (j := 2) G.F hl hn6 (by omega), Option.bind_some, rd_h (j := 3) G.F hl hn6 (by omega), Option.bind_some, rC30 G.F, grd_e, Option.bind_some, a, Option.bind_some]
  dsimp only
  rw [rd_g (j := 1) F1 s1 hl hn6 (by omega), Option.bind_some, rd_g (j := 2) F1 s1 hl hn6 (by omega), Option.bind_some, rd_g (j := 3) F1 s1 hl hn6 (by omega), Option.bind_some, rC64 F1, grd_e, Option.bind_some, b, Option.bind_some, if_pos rfl]
  exact go_on
theorem op_17 (G : Gd τ E N h) (hn : hN h ≤ 800000) (hl : hL h 29 = n) (hn6 : n ≤ 384) (hi : 6 * i + 6 ≤ n) : Lk k23 i h (b_308_800 k23 (some 29) (some 30) (some 64) (some 97) (nI (6 * i)) h) := by
  obtain ⟨r, g, k, τ', E', N', a, b, F1, s1, G', st⟩ := call_17 (x := hI h 29 (6 * i + 1)) G
  refine ⟨k, τ', E', N', ?_, G', st⟩
  rw [b_308_800, rd_h (j := 1) G.F hl hn6 (by omega), Option.bind_some, rC30 G.F, grd_e, Option.bind_some, a, Option.bind_some]
  dsimp only
  rw [rd_g (j := 1) F1 s1 hl hn6 (by omega), Option.bind_some, rC64 F1, grd_e, Option.bind_some, b, Option.bind_some, if_pos rfl]
  exact go_on
theorem op_18 (G : Gd τ E N h) (hn : hN h ≤ 800000) (hl : hL h 29 = n) (hn6 : n ≤ 384) (hi : 6 * i + 6 ≤ n) : Lk k23 i h (b_308_825 k23 (some 29) (some 30) (some 64) (some 97) (nI (6 * i)) h) := by
  obtain ⟨r, g, k, τ', E', N', a, b, F1, s1, G', st⟩ := call_18 (x := hI h 29 (6 * i + 1)) G
  refine ⟨k, τ', E', N', ?_, G', st⟩
  rw [b_308_825, rd_h (j := 1) G.F hl hn6 (by omega), Option.bind_some, rC30 G.F, grd_e, Option.bind_some, a, Option.bind_some]
  dsimp only
  rw [rd_g (j := 1) F1 s1 hl hn6 (by omega), Option.bind_some, rC64 F1, grd_e, Option.bind_some, b, Option.bind_some, if_pos rfl]
  exact go_on
theorem op_19 (G : Gd τ E N h) (hn : hN h ≤ 800000) (hl : hL h 29 = n) (hn6 : n ≤ 384) (hi : 6 * i + 6 ≤ n) : Lk k23 i h (b_308_850 k23 (some 29) (some 30) (some 64) (some 97) (nI (6 * i)) h) := by
  obtain ⟨r, g, k, τ', E', N', a, b, F1, s1, G', st⟩ := call_19 G hn
  refine ⟨k, τ', E', N', ?_, G', st⟩
  rw [b_308_850, rC30 G.F, grd_e, Option.bind_some, a, Option.bind_some]
  dsimp only
  rw [rC64 F1, grd_e, Option.bind_some, b, Option.bind_some, if_pos rfl]
  exact go_on
theorem op_20 (G : Gd τ E N h) (hn : hN h ≤ 800000) (hl : hL h 29 = n) (hn6 : n ≤ 384) (hi : 6 * i + 6 ≤ n) : Lk k23 i h (b_308_863 k23 (some 29) (some 30) (some 64) (some 97) (nI (6 * i)) h) := by
  obtain ⟨r, g, k, τ', E', N', a, b, F1, s1, G', st⟩ := call_20 G hn
  refine ⟨k, τ', E', N', ?_, G', st⟩
  rw [b_308_863, rC30 G.F, grd_e, Option.bind_some, a, Option.bind_some]
  dsimp only
  rw [rC64 F1, grd_e, Option.bind_some, b, Option.bind_some, if_pos rfl]
  exact go_on
theorem op_21 (G : Gd τ E N h) (hn : hN h ≤ 800000) (hl : hL h 29 = n) (hn6 : n ≤ 384) (hi : 6 * i + 6 ≤ n) : Lk k23 i h (b_308_876 k23 (some 29) (some 30) (some 64) (some 97) (nI (6 * i)) h) := by
  obtain ⟨r, g, k, τ', E', N', a, b, F1, s1, G', st⟩ := call_21 (x := hI h 29 (6 * i + 1)) G
  refine ⟨k, τ', E', N', ?_, G', st⟩
  rw [b_308_876, rd_h (j := 1) G.F hl hn6 (by omega), Option.bind_some, rC30 G.F, grd_e, Option.bind_some, a, Option.bind_some]
  dsimp only
  rw [rd_g (j := 1) F1 s1 hl hn6 (by omega), Option.bind_some, rC64 F1, grd_e, Option.bind_some, b, Option.bind_some, if_pos rfl]
  exact go_on
theorem op_22 (G : Gd τ E N h) (hn : hN h ≤ 800000) (hl : hL h 29 = n) (hn6 : n ≤ 384) (hi : 6 * i + 6 ≤ n) : Lk k23 i h (b_308_901 k23 (some 29) (some 30) (some 64) (some 97) (nI (6 * i)) h) := by
  obtain ⟨r, g, k, τ', E', N', a, b, F1, s1, G', st⟩ := call_22 (x := hI h 29 (6 * i + 1)) (y := hI h 29 (6 * i + 2)) G
  refine ⟨k, τ', E', N', ?_, G', st⟩
  rw [b_308_901, rd_h (j := 1) G.F hl hn6 (by omega), Option.bind_some, rd_h (j := 2) G.F hl hn6 (by omega), Option.bind_some, rC30 G.F, grd_e, Option.bind_some, a, Option.bind_some]
  dsimp only
  rw [rd_g (j := 1) F1 s1 hl hn6 (by omega), Option.bind_some, rd_g (j := 2) F1 s1 hl hn6 (by omega), Option.bind_some, rC64 F1, grd_e, Option.bind_some, b, Option.bind_some, if_pos rfl]
  exact go_on
theorem op_23 (G : Gd τ E N h) (hn : hN h ≤ 800000) (hl : hL h 29 = n) (hn6 : n ≤ 384) (hi : 6 * i + 6 ≤ n) : Lk k23 i h (b_308_938 k23 (some 29) (some 30) (some 64) (some 97) (nI (6 * i)) h) := by
  obtain ⟨r, g, k, τ', E', N', a, b, F1, s1, G', st⟩ := call_23 (x := hI h 29 (6 * i + 1)) (y := hI h 29 (6 * i + 2)) G
  refine ⟨k, τ', E', N', ?_, G', st⟩
  rw [b_308_938, rd_h (j := 1) G.F hl hn6 (by omega), Option.bind_some, rd_h (j := 2) G.F hl hn6 (by omega), Option.bind_some, rC30 G.F, grd_e, Option.bind_some, a, Option.bind_some]
  dsimp only
  rw [rd_g (j := 1) F1 s1 hl hn6 (by omega), Option.bind_some, rd_g (j := 2) F1 s1 hl hn6 (by omega), Option.bind_some, rC64 F1, grd_e, Option.bind_some, b, Option.bind_some, if_pos rfl]
  exact go_on
theorem op_24 (G : Gd τ E N h) (hn : hN h ≤ 800000) (hl : hL h 29 = n) (hn6 : n ≤ 384) (hi : 6 * i + 6 ≤ n) : Lk k23 i h (b_308_975 k23 (some 29) (some 30) (some 64) (some 97) (nI (6 * i)) h) := by
  obtain ⟨r, g, k, τ', E', N', a, b, F1, s1, G', st⟩ := call_24 G
  refine ⟨k, τ', E', N', ?_, G', st⟩
  rw [b_308_975, rC30 G.F, grd_e, Option.bind_some, a, Option.bind_some]
  dsimp only
  rw [rC64 F1, grd_e, Option.bind_some, b, Option.bind_some, if_pos rfl]
  exact go_on
theorem op_25 (G : Gd τ E N h) (hn : hN h ≤ 800000) (hl : hL h 29 = n) (hn6 : n ≤ 384) (hi : 6 * i + 6 ≤ n) : Lk k23 i h (b_308_988 k23 (some 29) (some 30) (some 64) (some 97) (nI (6 * i)) h) := by
  obtain ⟨r, g, k, τ', E', N', a, b, F1, s1, G', st⟩ := call_25 (x := hI h 29 (6 * i + 1)) G
  refine ⟨k, τ', E', N', ?_, G', st⟩
  rw [b_308_988, rd_h (j := 1) G.F hl hn6 (by omega), Option.bind_some, rC30 G.F, grd_e, Option.bind_some, a, Option.bind_some]
  dsimp only
  rw [rd_g (j := 1) F1 s1 hl hn6 (by omega), Option.bind_some, rC64 F1, grd_e, Option.bind_some, b, Option.bind_some, if_pos rfl]
  exact go_on
theorem op_26 (G : Gd τ E N h) (hn : hN h ≤ 800000) (hl : hL h 29 = n) (hn6 : n ≤ 384) (hi : 6 * i + 6 ≤ n) : Lk k23 i h (b_308_1013 k23 (some 29) (some 30) (some 64) (some 97) (nI (6 * i)) h) := by
  obtain ⟨r, g, k, τ', E', N', a, b, F1, s1, G', st⟩ := call_26 G
  refine ⟨k, τ', E', N', ?_, G', st⟩
  rw [b_308_1013, rC30 G.F, grd_e, Option.bind_some, a, Option.bind_some]
  dsimp only
  rw [rC64 F1, grd_e, Option.bind_some, b, Option.bind_some, if_pos rfl]
  exact go_on
theorem op_27 (G : Gd τ E N h) (hn : hN h ≤ 800000) (hl : hL h 29 = n) (hn6 : n ≤ 384) (hi : 6 * i + 6 ≤ n) : Lk k23 i h (b_308_1026 k23 (some 29) (some 30) (some 64) (some 97) (nI (6 * i)) h) := by
  obtain ⟨r, g, k, τ', E', N', a, b, F1, s1, G', st⟩ := call_27 G hn
  refine ⟨k, τ', E', N', ?_, G', st⟩
  rw [b_308_1026, rC30 G.F, grd_e, Option.bind_some, a, Option.bind_some]
  dsimp only
  rw [rC64 F1, grd_e, Option.bind_some, b, Option.bind_some, if_pos rfl]
  exact go_on
theorem op_28 (G : Gd τ E N h) (hn : hN h ≤ 800000) (hl : hL h 29 = n) (hn6 : n ≤ 384) (hi : 6 * i + 6 ≤ n) : Lk k23 i h (b_308_1039 k23 (some 29) (some 30) (some 64) (some 97) (nI (6 * i)) h) := by
  obtain ⟨r, g, k, τ', E', N', a, b, F1, s1, G', st⟩ := call_28 G hn
  refine ⟨k, τ', E', N', ?_, G', st⟩
  rw [b_308_1039, rC30 G.F, grd_e, Option.bind_some, a, Option.bind_some]
  dsimp only
  rw [rC64 F1, grd_e, Option.bind_some, b, Option.bind_some, if_pos rfl]
  exact go_on
theorem op_29 (G : Gd τ E N h) (hn : hN h ≤ 800000) (hl : hL h 29 = n) (hn6 : n ≤ 384) (hi : 6 * i + 6 ≤ n) : Lk k23 i h (b_308_1052 k23 (some 29) (some 30) (some 64) (some 97) (nI (6 * i)) h) := by
  obtain ⟨r, g, k, τ', E', N', a, b, F1, s1, G', st⟩ := call_29 (x := hI h 29 (6 * i + 1)) G
  refine ⟨k, τ', E', N', ?_, G', st⟩
  rw [b_308_1052, rd_h (j := 1) G.F hl hn6 (by omega), Option.bind_some, rC30 G.F, grd_e, Option.bind_some, a, Option.bind_some]
  dsimp only
  rw [rd_g (j := 1) F1 s1 hl hn6 (by omega), Option.bind_some, rC64 F1, grd_e, Option.bind_some, b, Option.bind_some, if_pos rfl]
  exact go_on
theorem op_30 (G : Gd τ E N h) (hn : hN h ≤ 800000) (hl : hL h 29 = n) (hn6 : n ≤ 384) (hi : 6 * i + 6 ≤ n) : Lk k23 i h (b_308_1077 k23 (some 29) (some 30) (some 64) (some 97) (nI (6 * i)) h) := by
  obtain ⟨r, g, k, τ', E', N', a, b, F1, s1, G', st⟩ := call_30 G
  refine ⟨k, τ', E', N', ?_, G', st⟩
  rw [b_308_1077, rC30 G.F, grd_e, Option.bind_some, a, Option.bind_some]
  dsimp only
  rw [rC64 F1, grd_e, Option.bind_some, b, Option.bind_some, if_pos rfl]
  exact go_on
theorem op_31 (G : Gd τ E N h) (hn : hN h ≤ 800000) (hl : hL h 29 = n) (hn6 : n ≤ 384) (hi : 6 * i + 6 ≤ n) : Lk k23 i h (b_308_1090 k23 (some 29) (some 30) (some 64) (some 97) (nI (6 * i)) h) := by
  obtain ⟨r, g, k, τ', E', N', a, b, F1, s1, G', st⟩ := call_31 (x := hI h 29 (6 * i + 1)) (y := hI h 29 (6 * i + 2)) G hn
  refine ⟨k, τ', E', N', ?_, G', st⟩
  rw [b_308_1090, rd_h (j := 1) G.F hl hn6 (by omega), Option.bind_some, rd_h (j := 2) G.F hl hn6 (by omega), Option.bind_some, rC30 G.F, grd_e, Option.bind_some, a, Option.bind_some]
  dsimp only
  rw [rd_g (j := 1) F1 s1 hl hn6 (by omega), Option.bind_some, rd_g (j := 2) F1 s1 hl hn6 (by omega), Option.bind_some, rC64 F1, grd_e, Option.bind_some, b, Option.bind_some, if_pos rfl]
  exact go_on
theorem op_32 (G : Gd τ E N h) (hn : hN h ≤ 800000) (hl : hL h 29 = n) (hn6 : n ≤ 384) (hi : 6 * i + 6 ≤ n) : Lk k23 i h (b_308_1127 k23 (some 29) (some 30) (some 64) (some 97) (nI (6 * i)) h) := by
  obtain ⟨r, g, k, τ', E', N', a, b, F1, s1, G', st⟩ := call_32 (x := hI h 29 (6 * i + 1)) G
  refine ⟨k, τ', E', N', ?_, G', st⟩
  rw [b_308_1127, rd_h (j := 1) G.F hl hn6 (by omega), Option.bind_some, rC30 G.F, grd_e, Option.bind_some, a, Option.bind_some]
  dsimp only
  rw [rd_g (j := 1) F1 s1 hl hn6 (by omega), Option.bind_some, rC64 F1, grd_e, Option.bind_some, b, Option.bind_some, if_pos rfl]
  exact go_on
theorem op_33 (G : Gd τ E N h) (hn : hN h ≤ 800000) (hl : hL h 29 = n) (hn6 : n ≤ 384) (hi : 6 * i + 6 ≤ n) : Lk k23 i h (b_308_1152 k23 (some 29) (some 30) (some 64) (some 97) (nI (6 * i)) h) := by
  obtain ⟨r, g, k, τ', E', N', a, b, F1, s1, G', st⟩ := call_33 G
  refine ⟨k, τ', E', N', ?_, G', st⟩
  rw [b_308_1152, rC30 G.F, grd_e, Option.bind_some, a, Option.bind_some]
  dsimp only
  rw [rC64 F1, grd_e, Option.bind_some, b, Option.bind_some, if_pos rfl]
  exact go_on
theorem op_34 (G : Gd τ E N h) (hn : hN h ≤ 800000) (hl : hL h 29 = n) (hn6 : n ≤ 384) (hi : 6 * i + 6 ≤ n) : Lk k23 i h (b_308_1165 k23 (some 29) (some 30) (some 64) (some 97) (nI (6 * i)) h) := by
  obtain ⟨r, g, k, τ', E', N', a, b, F1, s1, G', st⟩ := call_34 (x := hI h 29 (6 * i + 1)) G hn
  refine ⟨k, τ', E', N', ?_, G', st⟩
  rw [b_308_1165, rd_h (j := 1) G.F hl hn6 (by omega), Option.bind_some, rC30 G.F, grd_e, Option.bind_some, a, Option.bind_some]
  dsimp only
  rw [rd_g (j := 1) F1 s1 hl hn6 (by omega), Option.bind_some, rC64 F1, grd_e, Option.bind_some, b, Option.bind_some, if_pos rfl]
  exact go_on
theorem op_35 (G : Gd τ E N h) (hn : hN h ≤ 800000) (hl : hL h 29 = n) (hn6 : n ≤ 384) (hi : 6 * i + 6 ≤ n) : Lk k23 i h (b_308_1190 k23 (some 29) (some 30) (some 64) (some 97) (nI (6 * i)) h) := by
  obtain ⟨r, g, k, τ', E', N', a, b, F1, s1, G', st⟩ := call_35 G hn
  refine ⟨k, τ', E', N', ?_, G', st⟩
  rw [b_308_1190, rC30 G.F, grd_e, Option.bind_some, a, Option.bind_some]
  dsimp only
  rw [rC64 F1, grd_e, Option.bind_some, b, Option.bind_some, if_pos rfl]
  exact go_on
theorem op_36 (G : Gd τ E N h) (hn : hN h ≤ 800000) (hl : hL h 29 = n) (hn6 : n ≤ 384) (hi : 6 * i + 6 ≤ n) : Lk k23 i h (b_308_1203 k23 (some 29) (some 30) (some 64) (some 97) (nI (6 * i)) h) := by
  obtain ⟨r, g, k, τ', E', N', a, b, F1, s1, G', st⟩ := call_36 G hn
  refine ⟨k, τ', E', N', ?_, G', st⟩
  rw [b_308_1203, rC30 G.F, grd_e, Option.bind_some, a, Option.bind_some]
  dsimp only
  rw [rC64 F1, grd_e, Option.bind_some, b, Option.bind_some, if_pos rfl]
  exact go_on
theorem op_37 (G : Gd τ E N h) (hn : hN h ≤ 800000) (hl : hL h 29 = n) (hn6 : n ≤ 384) (hi : 6 * i + 6 ≤ n) : Lk k23 i h (b_308_1216 k23 (some 29) (some 30) (some 64) (some 97) (nI (6 * i)) h) := by
  obtain ⟨r, g, k, τ', E', N', a, b, F1, s1, G', st⟩ := call_37 G hn
  refine ⟨k, τ', E', N', ?_, G', st⟩
  rw [b_308_1216, rC30 G.F, grd_e, Option.bind_some, a, Option.bind_some]
  dsimp only
  rw [rC64 F1, grd_e, Option.bind_some, b, Option.bind_some, if_pos rfl]
  exact go_on
theorem op_38 (G : Gd τ E N h) (hn : hN h ≤ 800000) (hl : hL h 29 = n) (hn6 : n ≤ 384) (hi : 6 * i + 6 ≤ n) : Lk k23 i h (b_308_1229 k23 (some 29) (some 30) (some 64) (some 97) (nI (6 * i)) h) := by
  obtain ⟨r, g, k, τ', E', N', a, b, F1, s1, G', st⟩ := call_38 G
  refine ⟨k, τ', E', N', ?_, G', st⟩
  rw [b_308_1229, rC30 G.F, grd_e, Option.bind_some, a, Option.bind_some]
  dsimp only
  rw [rC64 F1, grd_e, Option.bind_some, b, Option.bind_some, if_pos rfl]
  exact go_on
theorem op_39 (G : Gd τ E N h) (hn : hN h ≤ 800000) (hl : hL h 29 = n) (hn6 : n ≤ 384) (hi : 6 * i + 6 ≤ n) : Lk k23 i h (b_308_1242 k23 (some 29) (some 30) (some 64) (some 97) (nI (6 * i)) h) := by
  obtain ⟨r, g, k, τ', E', N', a, b, F1, s1, G', st⟩ := call_39 (x := hI h 29 (6 * i + 1)) G hn
  refine ⟨k, τ', E', N', ?_, G', st⟩
  rw [b_308_1242, rd_h (j := 1) G.F hl hn6 (by omega), Option.bind_some, rC30 G.F, grd_e, Option.bind_some, a, Option.bind_some]
  dsimp only
  rw [rd_g (j := 1) F1 s1 hl hn6 (by omega), Option.bind_some, rC64 F1, grd_e, Option.bind_some, b, Option.bind_some, if_pos rfl]
  exact go_on
theorem op_40 (G : Gd τ E N h) (hn : hN h ≤ 800000) (hl : hL h 29 = n) (hn6 : n ≤ 384) (hi : 6 * i + 6 ≤ n) : Lk k23 i h (b_308_1267 k23 (some 29) (some 30) (some 64) (some 97) (nI (6 * i)) h) := by
  obtain ⟨r, g, k, τ', E', N', a, b, F1, s1, G', st⟩ := call_40 (x := hI h 29 (6 * i + 1)) G hn
  refine ⟨k, τ', E', N', ?_, G', st⟩
  rw [b_308_1267, rd_h (j := 1) G.F hl hn6 (by omega), Option.bind_some, rC30 G.F, grd_e, Option.bind_some, a, Option.bind_some]
  dsimp only
  rw [rd_g (j := 1) F1 s1 hl hn6 (by omega), Option.bind_some, rC64 F1, grd_e, Option.bind_some, b, Option.bind_some, if_pos rfl]
  exact go_on
theorem op_41 (G : Gd τ E N h) (hn : hN h ≤ 800000) (hl : hL h 29 = n) (hn6 : n ≤ 384) (hi : 6 * i + 6 ≤ n) : Lk k23 i h (b_308_1292 k23 (some 29) (some 30) (some 64) (some 97) (nI (6 * i)) h) := by
  obtain ⟨r, g, k, τ', E', N', a, b, F1, s1, G', st⟩ := call_41 (x := hI h 29 (6 * i + 1)) G
  refine ⟨k, τ', E', N', ?_, G', st⟩
  rw [b_308_1292, rd_h (j := 1) G.F hl hn6 (by omega), Option.bind_some, rC30 G.F, grd_e, Option.bind_some, a, Option.bind_some]
  dsimp only
  rw [rd_g (j := 1) F1 s1 hl hn6 (by omega), Option.bind_some, rC64 F1, grd_e, Option.bind_some, b, Option.bind_some, if_pos rfl]
  exact go_on
theorem lgc (a : Int64) : lg_cmp a a = 0 := by
  unfold lg_cmp
  simp
theorem op_5 (G : Gd τ E N h) (hn : hN h ≤ 800000) (hl : hL h 29 = n) (hn6 : n ≤ 384) (hi : 6 * i + 6 ≤ n) : Lk k23 i h (b_308_385 k23 (some 29) (some 30) (some 64) (some 97) (nI (6 * i)) h) := by
  have n98 := G.F.1
  have a := s_135 (x := hI h 29 (6 * i + 1)) (y := hI h 29 (6 * i + 2)) G.F G.S G.W
  have e0 : b_308_385 k23 (some 29) (some 30) (some 64) (some 97) (nI (6 * i)) h = (dR (some 97) (if drB E (hI h 29 (6 * i + 1)) (hI h 29 (6 * i + 2)) = true then (some (drV E (hI h 29 (6 * i + 1)).toInt.toNat (hI h 29 (6 * i + 2)).toInt.toNat), h) else (none, hLost h 6))).bind fun p4 => bnd (p4.1) fun x5 => (aI 12 (some 29) (nI (6 * i) + nI 1) p4.2).bind fun x6 => (aI 12 (some 29) (nI (6 * i) + nI 2) p4.2).bind fun x7 => (grd (rC 11 (some 64) p4.2)).bind fun _ => (f_217 (some 64) x6 x7 p4.2).bind fun p8 => bnd (p8.1) fun x9 => (grd (rC 11 (some 64) p8.2)).bind fun _ => (f_176 (some 64) p8.2).bind fun p10 => if p10.1 = x5 then b_308_433 k23 (some 29) (some 30) (some 64) (some 97) (nI (6 * i)) x5 x9 p10.2 else b_308_431 p10.2 := by
    rw [b_308_385, rd_h (j := 1) G.F hl hn6 (by omega), Option.bind_some, rd_h (j := 2) G.F hl hn6 (by omega), Option.bind_some, rC30 G.F, grd_e, Option.bind_some, a, Option.bind_some]
  rw [e0]
  cases hb : drB E (hI h 29 (6 * i + 1)) (hI h 29 (6 * i + 2))
  · rw [if_neg (by decide), show dR (some 97) (none, hLost h 6) = some (nI 1, hLost h 6) from rfl, Option.bind_some, bnd_e]
    dsimp only
    have Fl : Fix (hLost h 6) := G.F
    have Bl : Bg (hLost h 6) E := G.B
    have s1 : hI (hLost h 6) 29 = hI h 29 ∧ hL (hLost h 6) 29 = hL h 29 := ⟨rfl, rfl⟩
    obtain ⟨k, b, z2, b1, b2, b3⟩ := s_217 (x := hI h 29 (6 * i + 1)) (y := hI h 29 (6 * i + 2)) Fl Bl G.W
    rw [hb, if_neg (by decide)] at b3
    have F2 := z2.fix Fl (by decide)
    have f1 : Fw τ Zq [] h k := by
      have z3 : Fw τ Zq [] (hLost h 6) k := z2.fw (by decide) (by show hN h ≤ 1000000; omega)
      exact z3
    obtain ⟨ba, ag, p1, p2, p3, p4, p5, p6, p7, p8, p9, p10, p11, p12⟩ := G.all f1 F2 (by rw [z2.N]; show hN h ≤ 900000; omega) (by decide)
    refine ⟨k, τ, E, N, ?_, ⟨⟨ba, G.1.2⟩, p1 (by decide), G.2.2.1.now f1 b1 b2 rfl (by decide), p2 (by decide), p3 (by decide), p4 (by decide), p5 (by decide), p6 (by decide), p7 (by decide), p8 (by decide), p9 (by decide), p10 (by decide), p11 (by decide), p12 (by decide)⟩, f1.st n98 (by decide) ?_⟩
    · rw [rd_g (j := 1) Fl s1 hl hn6 (by omega), Option.bind_some, rd_g (j := 2) Fl s1 hl hn6 (by omega), Option.bind_some, rC64 Fl, grd_e, Option.bind_some, b, Option.bind_some, bnd_e, rC64 F2, grd_e, Option.bind_some, f_176, b_176_0, gI64 F2, Option.bind_some, b3, Option.bind_some, if_pos rfl, b_308_433, if_pos nI10, b_308_450]
      exact go_on
    · rw [z2.N, z2.C, z2.S]
      show hN h ≤ hN h + 200 ∧ hC h + 1 ≤ hC h + 200 ∧ hS h + 6 ≤ hS h + 100000
      omega
  · generalize hv : drV E (hI h 29 (6 * i + 1)).toInt.toNat (hI h 29 (6 * i + 2)).toInt.toNat = v
    have hd : dR (some 97) (some v, h) = some (nI 0, sJ h 97 0 v.toInt64) := by
      show bd_door 97 (some (.int v)) h = _
      show (if hK h 97 = 13 ∧ 30 ≤ 97 ∧ 0 < hL h 97 then some ((0 : Int32), sJ h 97 0 v.toInt64) else none) = _
      rw [if_pos ⟨K97 G.F, by omega, by rw [L97 G.F]; omega⟩]
      rfl
    rw [if_pos rfl, hd, Option.bind_some, bnd_e]
    dsimp only
    have z1 : Fz [97] h (sJ h 97 0 v.toInt64) := Fz.sJ Fz.rfl' (Or.inl (by decide))
    have o1 : hJ (sJ h 97 0 v.toInt64) 97 0 = v.toInt64 := by rw [hJ_sJ, if_pos ⟨rfl, rfl⟩]
    generalize sJ h 97 0 v.toInt64 = g at *
    have F1 := z1.fix G.F (by decide)
    have s1 : hI g 29 = hI h 29 ∧ hL g 29 = hL h 29 := ⟨z1.I (by decide), by rw [z1.L]⟩
    obtain ⟨k, b, z2, b1, b2, b3⟩ := s_217 (x := hI h 29 (6 * i + 1)) (y := hI h 29 (6 * i + 2)) F1 (G.B.cg (z1.I1 (by decide) (by decide)) (z1.I (by decide))) G.W
    rw [hb, if_pos rfl] at b3
    rw [hb, if_pos rfl, hv] at b
    have F2 := z2.fix F1 (by decide)
    have zz := z1.trans z2
    have fw : Fw τ ([97] ++ Zq) [] h k := zz.fw (by decide) (by omega)
    obtain ⟨ba, ag, p1, p2, p3, p4, p5, p6, p7, p8, p9, p10, p11, p12⟩ := G.all fw F2 (by rw [zz.N]; omega) (by decide)
    refine ⟨k, τ, E, N, ?_, ⟨⟨ba, G.1.2⟩, p1 (by decide), G.2.2.1.now fw b1 b2 rfl (by decide), p2 (by decide), p3 (by decide), p4 (by decide), p5 (by decide), p6 (by decide), p7 (by decide), p8 (by decide), p9 (by decide), p10 (by decide), p11 (by decide), p12 (by decide)⟩, fw.st n98 (by decide) zz.cost⟩
    rw [rd_g (j := 1) F1 s1 hl hn6 (by omega), Option.bind_some, rd_g (j := 2) F1 s1 hl hn6 (by omega), Option.bind_some, rC64 F1, grd_e, Option.bind_some, b, Option.bind_some, bnd_e, rC64 F2, grd_e, Option.bind_some, f_176, b_176_0, gI64 F2, Option.bind_some, b3, Option.bind_some, if_pos rfl, b_308_433, if_neg (fun z => z rfl), b_308_438, aJ97 F2 (i := 0) (by omega), Option.bind_some, z2.J (a := 97) (by decide), o1, if_pos (by rw [lgc]), b_308_450]
    exact go_on
theorem op_all (G : Gd τ E N h) (hn : hN h ≤ 800000) (hl : hL h 29 = n) (hn6 : n ≤ 384) (hi : 6 * i + 6 ≤ n) : Lk k23 i h (b_308_33 k23 (some 29) (some 30) (some 64) (some 97) (nI (6 * i)) h) := by
  rw [b_308_33, aI_n (K29 G.F) hl (show 6 * i < n by omega) (by omega), Option.bind_some, bnd_e]
  generalize hI h 29 (6 * i) &&& nI 63 = x
  by_cases c0 : x = nI 0
  · rw [if_pos c0]; exact op_0 G hn hl hn6 hi
  rw [if_neg c0]
  by_cases c1 : x = nI 1
  · rw [if_pos c1]; exact op_1 G hn hl hn6 hi
  rw [if_neg c1]
  by_cases c2 : x = nI 2
  · rw [if_pos c2]; exact op_2 G hn hl hn6 hi
  rw [if_neg c2]
  by_cases c3 : x = nI 3
  · rw [if_pos c3]; exact op_3 G hn hl hn6 hi
  rw [if_neg c3]
  by_cases c4 : x = nI 4
  · rw [if_pos c4]; exact op_4 G hn hl hn6 hi
  rw [if_neg c4]
  by_cases c5 : x = nI 5
  · rw [if_pos c5]; exact op_5 G hn hl hn6 hi
  rw [if_neg c5]
  by_cases c6 : x = nI 6
  · rw [if_pos c6]; exact op_6 G hn hl hn6 hi
  rw [if_neg c6]
  by_cases c7 : x = nI 7
  · rw [if_pos c7]; exact op_7 G hn hl hn6 hi
  rw [if_neg c7]
  by_cases c8 : x = nI 8
  · rw [if_pos c8]; exact op_8 G hn hl hn6 hi
  rw [if_neg c8]
  by_cases c9 : x = nI 9
  · rw [if_pos c9]; exact op_9 G hn hl hn6 hi
  rw [if_neg c9]
  by_cases c10 : x = nI 10
  · rw [if_pos c10]; exact op_10 G hn hl hn6 hi
  rw [if_neg c10]
  by_cases c11 : x = nI 11
  · rw [if_pos c11]; exact op_11 G hn hl hn6 hi
  rw [if_neg c11]
  by_cases c12 : x = nI 12
  · rw [if_pos c12]; exact op_12 G hn hl hn6 hi
  rw [if_neg c12]
  by_cases c13 : x = nI 13
  · rw [if_pos c13]; exact op_13 G hn hl hn6 hi
  rw [if_neg c13]
  by_cases c14 : x = nI 14
  · rw [if_pos c14]; exact op_14 G hn hl hn6 hi
  rw [if_neg c14]
  by_cases c15 : x = nI 15
  · rw [if_pos c15]; exact op_15 G hn hl hn6 hi
  rw [if_neg c15]
  by_cases c16 : x = nI 16
  · rw [if_pos c16]; exact op_16 G hn hl hn6 hi
  rw [if_neg c16]
  by_cases c17 : x = nI 17
  · rw [if_pos c17]; exact op_17 G hn hl hn6 hi
  rw [if_neg c17]
  by_cases c18 : x = nI 18
  · rw [if_pos c18]; exact op_18 G hn hl hn6 hi
  rw [if_neg c18]
  by_cases c19 : x = nI 19
  · rw [if_pos c19]; exact op_19 G hn hl hn6 hi
  rw [if_neg c19]
  by_cases c20 : x = nI 20
  · rw [if_pos c20]; exact op_20 G hn hl hn6 hi
  rw [if_neg c20]
  by_cases c21 : x = nI 21
  · rw [if_pos c21]; exact op_21 G hn hl hn6 hi
  rw [if_neg c21]
  by_cases c22 : x = nI 22
  · rw [if_pos c22]; exact op_22 G hn hl hn6 hi
  rw [if_neg c22]
  by_cases c23 : x = nI 23
  · rw [if_pos c23]; exact op_23 G hn hl hn6 hi
  rw [if_neg c23]
  by_cases c24 : x = nI 24
  · rw [if_pos c24]; exact op_24 G hn hl hn6 hi
  rw [if_neg c24]
  by_cases c25 : x = nI 25
  · rw [if_pos c25]; exact op_25 G hn hl hn6 hi
  rw [if_neg c25]
  by_cases c26 : x = nI 26
  · rw [if_pos c26]; exact op_26 G hn hl hn6 hi
  rw [if_neg c26]
  by_cases c27 : x = nI 27
  · rw [if_pos c27]; exact op_27 G hn hl hn6 hi
  rw [if_neg c27]
  by_cases c28 : x = nI 28
  · rw [if_pos c28]; exact op_28 G hn hl hn6 hi
  rw [if_neg c28]
  by_cases c29 : x = nI 29
  · rw [if_pos c29]; exact op_29 G hn hl hn6 hi
  rw [if_neg c29]
  by_cases c30 : x = nI 30
  · rw [if_pos c30]; exact op_30 G hn hl hn6 hi
  rw [if_neg c30]
  by_cases c31 : x = nI 31
  · rw [if_pos c31]; exact op_31 G hn hl hn6 hi
  rw [if_neg c31]
  by_cases c32 : x = nI 32
  · rw [if_pos c32]; exact op_32 G hn hl hn6 hi
  rw [if_neg c32]
  by_cases c33 : x = nI 33
  · rw [if_pos c33]; exact op_33 G hn hl hn6 hi
  rw [if_neg c33]
  by_cases c34 : x = nI 34
  · rw [if_pos c34]; exact op_34 G hn hl hn6 hi
  rw [if_neg c34]
  by_cases c35 : x = nI 35
  · rw [if_pos c35]; exact op_35 G hn hl hn6 hi
  rw [if_neg c35]
  by_cases c36 : x = nI 36
  · rw [if_pos c36]; exact op_36 G hn hl hn6 hi
  rw [if_neg c36]
  by_cases c37 : x = nI 37
  · rw [if_pos c37]; exact op_37 G hn hl hn6 hi
  rw [if_neg c37]
  by_cases c38 : x = nI 38
  · rw [if_pos c38]; exact op_38 G hn hl hn6 hi
  rw [if_neg c38]
  by_cases c39 : x = nI 39
  · rw [if_pos c39]; exact op_39 G hn hl hn6 hi
  rw [if_neg c39]
  by_cases c40 : x = nI 40
  · rw [if_pos c40]; exact op_40 G hn hl hn6 hi
  rw [if_neg c40]
  by_cases c41 : x = nI 41
  · rw [if_pos c41]; exact op_41 G hn hl hn6 hi
  rw [if_neg c41]
  exact ⟨h, τ, E, N, go_on, G, ⟨⟨rfl, rfl⟩, by omega, by omega, by omega⟩⟩
theorem lw_loop (hn6 : n ≤ 384) : ∀ r i m h τ E N, Gd τ E N h → hL h 29 = n → 6 * (i + r) ≤ n → n < 6 * (i + r) + 6 → hN h + 200 * r ≤ 800000 → ∃ h9, l_308_23 (r + 1 + m) (some 29) (some 30) (some 64) (some 97) (nI (6 * i)) h = some (nI 1, h9) ∧ hC h9 ≤ hC h + 200 * r ∧ hS h9 ≤ hS h + 100000 * r := by
  intro r
  induction r with
  | zero =>
    intro i m h τ E N G hl h1 h2 _
    refine ⟨h, ?_, by omega, by omega⟩
    rw [show 0 + 1 + m = m + 1 by omega, l_308_23, b_308_23, aL_e (K29 G.F) hl (by omega), Option.bind_some, if_pos, b_308_1323, grd1, Option.bind_some]
    rw [nz n, nz 6, nz (6 * i), zI_sub, zI_lt (by omega) (by omega) (by omega) (by omega)]
    omega
  | succ r ih =>
    intro i m h τ E N G hl h1 h2 hNb
    obtain ⟨k, τ', E', N', e, G', st⟩ := op_all (k23 := l_308_23 (r + 1 + m)) (i := i) G (by omega) hl hn6 (by omega)
    obtain ⟨⟨_, sl⟩, s1, s2, s3⟩ := st
    obtain ⟨h9, a1, a2, a3⟩ := ih (i + 1) m k τ' E' N' G' (sl.trans hl) (by omega) (by omega) (by omega)
    refine ⟨h9, ?_, by omega, by omega⟩
    rw [show r + 1 + 1 + m = (r + 1 + m) + 1 by omega, l_308_23, b_308_23, aL_e (K29 G.F) hl (by omega), Option.bind_some, if_neg, e, show 6 * i + 6 = 6 * (i + 1) by omega, a1]
    rw [nz n, nz 6, nz (6 * i), zI_sub, zI_lt (by omega) (by omega) (by omega) (by omega)]
    omega
end LAW
