/-! a leaf traced: its cells, one by one -/
theorem loF_c (q : Int × Int) (l : List (Int × Int)) (A : Nat) : loF (q :: l) A = loF l (if inB q = true ∧ cN q < 50 then A ||| 2 ^ cN q else A) := rfl
theorem hiF_c (q : Int × Int) (l : List (Int × Int)) (A : Nat) : hiF (q :: l) A = hiF l (if inB q = true ∧ 50 ≤ cN q then A ||| 2 ^ (cN q - 50) else A) := rfl
theorem loF_a (l m : List (Int × Int)) (A : Nat) : loF (l ++ m) A = loF m (loF l A) := List.foldl_append
theorem hiF_a (l m : List (Int × Int)) (A : Nat) : hiF (l ++ m) A = hiF m (hiF l A) := List.foldl_append
section TRACE
variable {p a d g an i : Nat} {X : Nat → Nat}
theorem l_18b {K : Option Nat → Option Nat → Int32 → Int32 → Int32 → Int32 → Int32 → Int32 → Int32 → Hp → Option (Int32 × Hp)} (hW : WF X) (hg : g < 4) (ha : an < 3) (hi : i < dLn X d) : ∀ r j m (ok : Bool) A B h, j + r = dLn X d + 1 → TC h p a X d → hJ h (p + 1) (3 * g + an) = lN A → hJ h (p + 2) (3 * g + an) = lN B →
    ∃ g', l_18_73 K (r + 1 + m) (some p) (some a) (nI g) (nI an) (zI (zFar (dLn X d) g)) (zI (zAl g)) (zI (zOut g)) (bI ok) (nI i) (nI j) h = K (some p) (some a) (nI g) (nI an) (zI (zFar (dLn X d) g)) (zI (zAl g)) (zI (zOut g)) (bI (ok && ((ljs (dLn X d) an i j r).map (lfp X d g)).all (flE X))) (nI (i + 1)) g' ∧
      Fz (ZT p (3 * g + an)) h g' ∧ hJ g' (p + 1) (3 * g + an) = lN (loF ((ljs (dLn X d) an i j r).map (lfp X d g)) A) ∧ hJ g' (p + 2) (3 * g + an) = lN (hiF ((ljs (dLn X d) an i j r).map (lfp X d g)) B) := by
  intro r
  induction r with
  | zero =>
    intro j m ok A B h hj t hA hB
    have g9 : gI 1 9 (some p) h = some (nI (dLn X d)) := by rw [gI_e t.1, t.2.2.2.2.1.2.2.2]
    have n3 := t.2.2.2.2.2.2.2.2.2.2.2
    refine ⟨h, ?_, Fz.rfl', hA, hB⟩
    rw [Nat.zero_add, Nat.add_comm 1 m, l_18_73, b_18_73, g9, Option.bind_some, if_pos (by rw [nI_ltI (by omega) (by omega)]; omega), b_18_206, bnd_e, nI_add]
    show _ = K _ _ _ _ _ _ _ (bI (ok && true)) _ _
    rw [Bool.and_true]
  | succ r ih =>
    intro j m ok A B h hj t hA hB
    obtain ⟨kp, _, _, _, ⟨i6, i7, i8, i9⟩, hc, bb, ⟨x10, y10, a1, n1, n3⟩⟩ := id t
    have g9 : gI 1 9 (some p) h = some (nI (dLn X d)) := by rw [gI_e kp, i9]
    have g6 : gI 1 6 (some p) h = some (nI (dX X d)) := by rw [gI_e kp, i6]
    have g7 : gI 1 7 (some p) h = some (nI (dYy X d)) := by rw [gI_e kp, i7]
    have g8 : gI 1 8 (some p) h = some (nI (dAc X d)) := by rw [gI_e kp, i8]
    have st : ljs (dLn X d) an i j (r + 1) = if prB (dLn X d) an i j = true then (i, j) :: ljs (dLn X d) an i (j + 1) r else ljs (dLn X d) an i (j + 1) r := rfl
    rw [show r + 1 + 1 + m = (r + 1 + m) + 1 by omega, l_18_73, b_18_73, g9, Option.bind_some, if_neg (by rw [nI_ltI (by omega) (by omega)]; omega), b_18_82, rC_e kp (by omega), grd_e, Option.bind_some, s_19 t ha (by omega) (by omega), Option.bind_some, st]
    dsimp only
    cases hp : prB (dLn X d) an i j
    · rw [if_pos (show bI false = 0 from rfl), if_neg (by decide), b_18_200, bnd_e, nI_add]
      exact ih (j + 1) m ok A B h (by omega) t hA hB
    · rw [if_neg (show ¬ bI true = 0 by decide), if_pos rfl, List.map_cons]
      have fb : -10 ≤ zFar (dLn X d) g ∧ zFar (dLn X d) g ≤ 10 := by unfold zFar; split <;> omega
      have ab : zAl g = 1 ∨ zAl g = -1 := by unfold zAl; split <;> omega
      have ob : zOut g = 1 ∨ zOut g = -1 := by unfold zOut; split <;> omega
      have e1 : nI (dX X d) + zI (zFar (dLn X d) g) + nI i * zI (zAl g) = zI ((dX X d : Int) + zFar (dLn X d) g + zAl g * (i : Int)) := by rw [nz, nz, zI_add, zI_mul, zI_add, Int.mul_comm]
      have e2 : nI (dX X d) + nI j * zI (zOut g) = zI ((dX X d : Int) + zOut g * (j : Int)) := by rw [nz, nz, zI_mul, zI_add, Int.mul_comm]
      have e3 : nI (dYy X d) + zI (zFar (dLn X d) g) + nI i * zI (zAl g) = zI ((dYy X d : Int) + zFar (dLn X d) g + zAl g * (i : Int)) := by rw [nz, nz, zI_add, zI_mul, zI_add, Int.mul_comm]
      have e4 : nI (dYy X d) + nI j * zI (zOut g) = zI ((dYy X d : Int) + zOut g * (j : Int)) := by rw [nz, nz, zI_mul, zI_add, Int.mul_comm]
      have pd : ∀ x y : Int, (-100 ≤ x ∧ x ≤ 100) → (-100 ≤ y ∧ y ≤ 100) → lfp X d g (i, j) = (x, y) →
          ∃ g', b_18_162 K (l_18_73 K (r + 1 + m)) (some p) (some a) (nI g) (nI an) (zI (zFar (dLn X d) g)) (zI (zAl g)) (zI (zOut g)) (bI ok) (nI i) (nI j) (zI x) (zI y) h = K (some p) (some a) (nI g) (nI an) (zI (zFar (dLn X d) g)) (zI (zAl g)) (zI (zOut g)) (bI (ok && (lfp X d g (i, j) :: (ljs (dLn X d) an i (j + 1) r).map (lfp X d g)).all (flE X))) (nI (i + 1)) g' ∧
      Fz (ZT p (3 * g + an)) h g' ∧ hJ g' (p + 1) (3 * g + an) = lN (loF (lfp X d g (i, j) :: (ljs (dLn X d) an i (j + 1) r).map (lfp X d g)) A) ∧ hJ g' (p + 2) (3 * g + an) = lN (hiF (lfp X d g (i, j) :: (ljs (dLn X d) an i (j + 1) r).map (lfp X d g)) B) := by
        intro x y hx hy hl
        obtain ⟨g1, b1, b2, b3, b4⟩ := s_20 t (show 3 * g + an < 12 by omega) (x := x) (y := y) (by omega) (by omega) hA hB
        have t1 := t.fz b2
        rw [hl, loF_c, hiF_c, b_18_162, rC_e kp (by omega), grd_e, Option.bind_some, pk_mul, nI_add, b1, Option.bind_some, List.all_cons]
        have nx0 : b_18_198 K (l_18_73 K (r + 1 + m)) (some p) (some a) (nI g) (nI an) (zI (zFar (dLn X d) g)) (zI (zAl g)) (zI (zOut g)) (nI i) (nI j) (nI 0) g1 = l_18_73 K (r + 1 + m) (some p) (some a) (nI g) (nI an) (zI (zFar (dLn X d) g)) (zI (zAl g)) (zI (zOut g)) (bI false) (nI i) (nI (j + 1)) g1 := by rw [b_18_198, b_18_200, bnd_e, nI_add]; rfl
        have nx1 : b_18_198 K (l_18_73 K (r + 1 + m)) (some p) (some a) (nI g) (nI an) (zI (zFar (dLn X d) g)) (zI (zAl g)) (zI (zOut g)) (nI i) (nI j) (nI 1) g1 = l_18_73 K (r + 1 + m) (some p) (some a) (nI g) (nI an) (zI (zFar (dLn X d) g)) (zI (zAl g)) (zI (zOut g)) (bI true) (nI i) (nI (j + 1)) g1 := by rw [b_18_198, b_18_200, bnd_e, nI_add]; rfl
        have fi : ∀ w : Bool, w = (ok && flE X (x, y)) → ∃ g', l_18_73 K (r + 1 + m) (some p) (some a) (nI g) (nI an) (zI (zFar (dLn X d) g)) (zI (zAl g)) (zI (zOut g)) (bI w) (nI i) (nI (j + 1)) g1 = K (some p) (some a) (nI g) (nI an) (zI (zFar (dLn X d) g)) (zI (zAl g)) (zI (zOut g)) (bI (ok && (flE X (x, y) && ((ljs (dLn X d) an i (j + 1) r).map (lfp X d g)).all (flE X)))) (nI (i + 1)) g' ∧ Fz (ZT p (3 * g + an)) h g' ∧ hJ g' (p + 1) (3 * g + an) = lN (loF ((ljs (dLn X d) an i (j + 1) r).map (lfp X d g)) (if inB (x, y) = true ∧ cN (x, y) < 50 then A ||| 2 ^ cN (x, y) else A)) ∧ hJ g' (p + 2) (3 * g + an) = lN (hiF ((ljs (dLn X d) an i (j + 1) r).map (lfp X d g)) (if inB (x, y) = true ∧ 50 ≤ cN (x, y) then B ||| 2 ^ (cN (x, y) - 50) else B)) := by
          intro w hw
          obtain ⟨g2, c1, c2, c3, c4⟩ := ih (j + 1) m w _ _ g1 (by omega) t1 b3 b4
          exact ⟨g2, by rw [c1, hw, Bool.and_assoc], b2.then c2, c3, c4⟩
        cases ok
        · rw [if_pos (show bI false = 0 from rfl), b_18_197, nx0]
          exact fi false rfl
        · rw [if_neg (show ¬ bI true = 0 by decide), b_18_182, rC_e t1.2.2.2.2.2.1.1 (by omega), grd_e, Option.bind_some, s_50h t1.2.2.2.2.2.1, Option.bind_some, zI_toInt (by omega) (by omega), zI_toInt (by omega) (by omega)]
          dsimp only
          have w0 := hW.1
          have w1 := hW.2.1
          by_cases ci : inE X (x, y) = true
          · have ci' : 0 ≤ x ∧ x < X 0 ∧ 0 ≤ y ∧ y < X 1 := of_decide_eq_true ci
            have cl := cN_lt (x := x) (y := y) (by omega)
            have c0 := cellV_0 hW cl
            have cle := cellV_le hW cl
            rw [if_pos ci]
            by_cases c5 : X (10 + cN (x, y)) = 0
            · rw [if_neg (fun z => z (by rw [c0.2 c5]; rfl)), b_18_193, nx1]
              exact fi true (by unfold flE; rw [ci, c5]; rfl)
            · rw [if_pos (nI_n0 (by omega) (fun z => c5 (c0.1 z))), b_18_197, nx0]
              refine fi false ?_
              unfold flE
              rw [ci, Bool.true_and, Bool.true_and]
              exact (beq_eq_false_iff_ne.2 c5).symm
          · rw [if_neg ci, if_pos (show ¬ (-1 : Int32) = 0 by decide), b_18_197, nx0]
            refine fi false ?_
            unfold flE
            rw [Bool.eq_false_iff.2 ci]
            rfl
      have bx : -100 ≤ (dX X d : Int) + zFar (dLn X d) g + zAl g * (i : Int) ∧ (dX X d : Int) + zFar (dLn X d) g + zAl g * (i : Int) ≤ 100 := by rcases ab with e | e <;> rw [e] <;> omega
      have bx2 : -100 ≤ (dX X d : Int) + zOut g * (j : Int) ∧ (dX X d : Int) + zOut g * (j : Int) ≤ 100 := by rcases ob with e | e <;> rw [e] <;> omega
      have by1 : -100 ≤ (dYy X d : Int) + zFar (dLn X d) g + zAl g * (i : Int) ∧ (dYy X d : Int) + zFar (dLn X d) g + zAl g * (i : Int) ≤ 100 := by rcases ab with e | e <;> rw [e] <;> omega
      have by2 : -100 ≤ (dYy X d : Int) + zOut g * (j : Int) ∧ (dYy X d : Int) + zOut g * (j : Int) ≤ 100 := by rcases ob with e | e <;> rw [e] <;> omega
      rw [b_18_94, g8, Option.bind_some]
      by_cases c : dAc X d = 0
      · rw [if_pos (by rw [c]; rfl), b_18_114, g6, Option.bind_some, e1, b_18_127, g8, Option.bind_some, if_pos (by rw [c]; rfl), b_18_152, g7, Option.bind_some, e4]
        exact pd _ _ bx by2 (by unfold lfp zX zY; rw [if_pos c, if_pos c])
      · rw [if_neg (nI_n0 (by omega) c), b_18_101, g6, Option.bind_some, e2, b_18_127, g8, Option.bind_some, if_neg (nI_n0 (by omega) c), b_18_136, g7, Option.bind_some, e3]
        exact pd _ _ bx2 by1 (by unfold lfp zX zY; rw [if_neg c, if_neg c])
theorem l_18a (hW : WF X) (hg : g < 4) (ha : an < 3) : ∀ r i m (ok : Bool) A B h, i + r = dLn X d → TC h p a X d → hJ h (p + 1) (3 * g + an) = lN A → hJ h (p + 2) (3 * g + an) = lN B →
    ∃ g', l_18_61 (r + 1 + m) (some p) (some a) (nI g) (nI an) (zI (zFar (dLn X d) g)) (zI (zAl g)) (zI (zOut g)) (bI ok) (nI i) h = some (bI (ok && ((lis (dLn X d) an i r).map (lfp X d g)).all (flE X)), g') ∧
      Fz (ZT p (3 * g + an)) h g' ∧ hJ g' (p + 1) (3 * g + an) = lN (loF ((lis (dLn X d) an i r).map (lfp X d g)) A) ∧ hJ g' (p + 2) (3 * g + an) = lN (hiF ((lis (dLn X d) an i r).map (lfp X d g)) B) := by
  intro r
  induction r with
  | zero =>
    intro i m ok A B h hi t hA hB
    have g9 : gI 1 9 (some p) h = some (nI (dLn X d)) := by rw [gI_e t.1, t.2.2.2.2.1.2.2.2]
    have n3 := t.2.2.2.2.2.2.2.2.2.2.2
    refine ⟨h, ?_, Fz.rfl', hA, hB⟩
    rw [Nat.zero_add, Nat.add_comm 1 m, l_18_61, b_18_61, g9, Option.bind_some, if_pos (by rw [nI_leI (by omega) (by omega)]; omega), b_18_212, grdB, Option.bind_some]
    show _ = some (bI (ok && true), h)
    rw [Bool.and_true]
  | succ r ih =>
    intro i m ok A B h hi t hA hB
    have g9 : gI 1 9 (some p) h = some (nI (dLn X d)) := by rw [gI_e t.1, t.2.2.2.2.1.2.2.2]
    have n3 := t.2.2.2.2.2.2.2.2.2.2.2
    obtain ⟨m', hm⟩ := FU_ge (dLn X d + 1 + 1) (by omega)
    obtain ⟨g1, b1, b2, b3, b4⟩ := l_18b (K := l_18_61 (r + 1 + m)) hW hg ha (show i < dLn X d by omega) (dLn X d + 1) 0 m' ok A B h (by omega) t hA hB
    obtain ⟨g2, c1, c2, c3, c4⟩ := ih (i + 1) m _ _ _ g1 (by omega) (t.fz b2) b3 b4
    have st : lis (dLn X d) an i (r + 1) = ljs (dLn X d) an i 0 (dLn X d + 1) ++ lis (dLn X d) an (i + 1) r := rfl
    refine ⟨g2, ?_, b2.then c2, ?_, ?_⟩
    · rw [show r + 1 + 1 + m = (r + 1 + m) + 1 by omega, l_18_61, b_18_61, g9, Option.bind_some, if_neg (by rw [nI_leI (by omega) (by omega)]; omega), b_18_70, bnd_e, hm, b1, c1, st, List.map_append, List.all_append, Bool.and_assoc]
    · rw [c3, st, List.map_append, loF_a]
    · rw [c4, st, List.map_append, hiF_a]
theorem s_18 {h : Hp} {A B : Nat} (hW : WF X) (hg : g < 4) (ha : an < 3) (t : TC h p a X d) (hA : hJ h (p + 1) (3 * g + an) = lN A) (hB : hJ h (p + 2) (3 * g + an) = lN B) :
    ∃ g', f_18 (some p) (some a) (nI g) (nI an) h = some (bI ((lfc X d g an).all (flE X)), g') ∧ Fz (ZT p (3 * g + an)) h g' ∧ hJ g' (p + 1) (3 * g + an) = lN (loF (lfc X d g an) A) ∧ hJ g' (p + 2) (3 * g + an) = lN (hiF (lfc X d g an) B) := by
  have nn := t.2.2.2.2.2.2.2
  have g9 : gI 1 9 (some p) h = some (nI (dLn X d)) := by rw [gI_e t.1, t.2.2.2.2.1.2.2.2]
  obtain ⟨m, hm⟩ := FU_ge (dLn X d + 1) (by omega)
  have e : (lis (dLn X d) an 0 (dLn X d)).map (lfp X d g) = lfc X d g an := by rw [lis_e _ (by omega) (by omega) an ha]; rfl
  obtain ⟨g1, b1, b2, b3, b4⟩ := l_18a hW hg ha (dLn X d) 0 m true A B h (by omega) t hA hB
  rw [e, Bool.true_and] at b1
  rw [e] at b3 b4
  refine ⟨g1, ?_, b2, b3, b4⟩
  rw [← b1, f_18, b_18_0, show grd (decide (¬ nI 2 = 0)) = some () from rfl, Option.bind_some]
  have fin : ∀ f l : Int32, f = zI (zFar (dLn X d) g) → l = zI (zAl g) → b_18_41 (some p) (some a) (nI g) (nI an) f l h = l_18_61 (dLn X d + 1 + m) (some p) (some a) (nI g) (nI an) (zI (zFar (dLn X d) g)) (zI (zAl g)) (zI (zOut g)) (bI true) (nI 0) h := by
    intro f l hf hl
    rw [b_18_41, hf, hl]
    by_cases c : 2 ≤ g
    · rw [if_pos (by rw [nI_leI (by omega) (by omega)]; exact c), b_18_52, b_18_53, bnd_e, bnd_e, hm, show zOut g = 1 by unfold zOut; rw [if_neg (by omega)]]
      rfl
    · rw [if_neg (by rw [nI_leI (by omega) (by omega)]; exact c), b_18_48, b_18_53, bnd_e, bnd_e, hm, show zOut g = -1 by unfold zOut; rw [if_pos (by omega)], ← zI_neg1]
      rfl
  rcases (show g = 0 ∨ g = 1 ∨ g = 2 ∨ g = 3 by omega) with e | e | e | e <;> subst e
  · rw [if_pos (show ¬ nI 0 - nI 0 / nI 2 * nI 2 = nI 1 by decide), b_18_11, b_18_12, if_pos (show nI 0 = 0 from rfl), b_18_28, b_18_29, if_pos (show nI 0 = 0 from rfl), b_18_40]
    exact fin _ _ rfl rfl
  · rw [if_neg (show ¬ ¬ nI 1 - nI 1 / nI 2 * nI 2 = nI 1 by decide), b_18_7, b_18_12, if_neg nI10, b_18_19, g9, Option.bind_some, b_18_29, if_neg nI10, b_18_36]
    exact fin _ _ (zm1 (n := dLn X d)).symm zI_neg1
  · rw [if_pos (show ¬ nI 2 - nI 2 / nI 2 * nI 2 = nI 1 by decide), b_18_11, b_18_12, if_pos (show nI 0 = 0 from rfl), b_18_28, b_18_29, if_pos (show nI 0 = 0 from rfl), b_18_40]
    exact fin _ _ rfl rfl
  · rw [if_neg (show ¬ ¬ nI 3 - nI 3 / nI 2 * nI 2 = nI 1 by decide), b_18_7, b_18_12, if_neg nI10, b_18_19, g9, Option.bind_some, b_18_29, if_neg nI10, b_18_36]
    exact fin _ _ (zm1 (n := dLn X d)).symm zI_neg1
end TRACE
