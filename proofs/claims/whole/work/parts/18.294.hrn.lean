/-! the reference reads a door -/
section HRN
variable {T : Nat → Nat} {sz lim : Nat}
theorem m_st {h : Hp} {q n : Nat} {X : Nat → Nat} {A : Hp → Option (Int32 × Hp)} {r : RsT} (hM : MH T sz lim h q X n) (hA : ∀ g, MH T sz lim g (tkN T sz lim q) X n → MO T sz lim (A g) g r) : MO T sz lim ((grd (rC 11 (some 64) h)).bind fun _ => (f_189 (some 64) h).bind fun p => A p) h r := by
  obtain ⟨g, a1, a2, a3⟩ := mh_step hM
  rw [rC64 hM.1.1, grd_e, Option.bind_some, a1, Option.bind_some]
  exact MO.pre a2 (hA g a3)
theorem m_w {h : Hp} {q n i v : Nat} {X : Nat → Nat} {A : Hp → Option (Int32 × Hp)} {r : RsT} (hM : MH T sz lim h q X n) (hi : i < 330) (h4 : i ≠ 4) (hW : WB (upX X i v)) (hA : ∀ g, MH T sz lim g q (upX X i v) n → hI g 64 = hI h 64 → MO T sz lim (A g) g r) : MO T sz lim ((wI (some 67) (nI i) (nI v) h).bind fun g => A g) h r := by
  obtain ⟨w1, w2, w3, w4⟩ := mh_w hM hi h4 hW
  rw [w1, Option.bind_some]
  exact MO.pre w2 (hA _ w3 w4)
theorem m_num {h : Hp} {q n : Nat} {X : Nat → Nat} {a b : Int} {x y : Int32} {A B : Hp → Option (Int32 × Hp)} {r : RsT} (hM : MH T sz lim h q X n) (hx : zI a = x) (hy : zI b = y) (ha : -1000 ≤ a ∧ a ≤ 1000) (hb : -1000 ≤ b ∧ b ≤ 1000) (hB : ∀ g, B g = some (nI 0, g))
    (hA : nmB T sz lim q a b = true → ∀ g, MH T sz lim g (tkN T sz lim q) X n → hI g 64 13 = nI (tkV T sz lim q) → MO T sz lim (A g) g r) (hr : nmB T sz lim q a b = false → r = erA T sz lim (nmF T sz lim q) q) :
    MO T sz lim ((grd (rC 11 (some 64) h)).bind fun _ => (f_199 (some 64) x y h).bind fun p => if ¬ p.1 = 0 then A p.2 else B p.2) h r := by
  obtain ⟨g, a1, a2, a3, a4⟩ := mh_num hM ha hb
  rw [hx, hy] at a1
  rw [rC64 hM.1.1, grd_e, Option.bind_some, a1, Option.bind_some]
  dsimp only
  cases c : nmB T sz lim q a b
  · rw [if_neg (show ¬ ¬ bI false = 0 from fun z => z rfl), hB, hr c]
    exact ⟨g, rfl, a2, a4 c⟩
  · rw [if_pos (show ¬ bI true = 0 by decide)]
    exact MO.pre ⟨a2, (a3 c).2.2⟩ (hA c g (a3 c).1 (a3 c).2.1)
theorem s_210C {h : Hp} {d q : Nat} {X : Nat → Nat} (hd : X 2 = d) (hd9 : d < 10) (hD : DWk X d) (hM : MH T sz lim h q X (d + 1)) : MO T sz lim (b_210_396 (some 64) (nI d) (nI (110 + 10 * d)) h) h (dorC T sz lim q X d) := by
  have dw : ∀ Y : Nat → Nat, (∀ j, j ≠ 116 + 10 * d → Y j = X j) → Y 2 = d ∧ DWk Y d := by
    intro Y hY
    refine ⟨(hY 2 (by omega)).trans hd, ?_⟩
    unfold DWk dLn dAc dX dYy
    rw [hY _ (by omega), hY _ (by omega), hY _ (by omega), hY _ (by omega), hY _ (by omega), hY _ (by omega)]
    exact hD
  have u1 : ∀ v j, j ≠ 116 + 10 * d → upX X (116 + 10 * d) v j = X j := fun v j hj => upX_n hj
  rw [b_210_396, gQ64_15 hM.1.1, Option.bind_some, nI_add, show 110 + 10 * d + 6 = 116 + 10 * d by omega]
  refine m_w hM (by omega) (by omega) (hM.2.2.up (by omega)) (fun g hG _ => ?_)
  rw [rC64 hG.1.1, grd_e, Option.bind_some, s_193 hG.1.1 hG.1.2.2.1 hG.1.2.2.2 (by omega), Option.bind_some]
  dsimp only
  unfold dorC
  rw [show mw 7 = 5 from rfl]
  cases hw : isW T sz lim q 5
  · rw [if_pos (show bI false = 0 from rfl), if_neg (by decide)]
    exact s_210W (dw _ (u1 1)).1 hd9 (dw _ (u1 1)).2 hG
  · rw [if_neg (show ¬ bI true = 0 by decide), if_pos rfl, b_210_415]
    refine m_st hG (fun g2 hG2 => ?_)
    refine m_num (A := fun g => b_210_431 (some 64) (nI d) (nI (110 + 10 * d)) g) (B := fun g => b_210_429 g) hG2 (a := 1) (b := 99) rfl rfl (by omega) (by omega) (fun g => rfl) (fun c g3 hG3 e3 => ?_) (fun c => by rw [c]; rfl)
    have nk := nmB_k c
    rw [c, if_pos rfl]
    show MO T sz lim (b_210_431 (some 64) (nI d) (nI (110 + 10 * d)) g3) g3 _
    rw [b_210_431, gQ64_15 hG3.1.1, Option.bind_some, gI64 hG3.1.1, Option.bind_some, e3, nI_add, show 110 + 10 * d + 6 = 116 + 10 * d by omega]
    refine m_w hG3 (by omega) (by omega) (hG3.2.2.up (by omega)) (fun g4 hG4 _ => ?_)
    have u2 : ∀ j, j ≠ 116 + 10 * d → upX (upX X (116 + 10 * d) 1) (116 + 10 * d) (tkV T sz lim (tkN T sz lim q)) j = X j := fun j hj => by rw [upX_n hj, upX_n hj]
    exact s_210W (dw _ u2).1 hd9 (dw _ u2).2 hG4
def bc4 (n : Nat) : Nat := (if n.testBit 0 = true then 1 else 0) + (if n.testBit 1 = true then 1 else 0) + (if n.testBit 2 = true then 1 else 0) + (if n.testBit 3 = true then 1 else 0)
theorem bc4_le (n : Nat) : bc4 n ≤ 4 := by unfold bc4; split <;> split <;> split <;> split <;> omega
theorem bc4_up : ∀ n, n < 16 → ∀ k, k < 4 → n.testBit k = false → bc4 (n ||| 2 ^ k) = bc4 n + 1 ∧ n ||| 2 ^ k < 16 := by decide
theorem bc4_1 : ∀ k, k < 4 → bc4 (2 ^ k) = 1 ∧ 2 ^ k < 16 := by decide
theorem l_210t {d : Nat} (hd9 : d < 10) : ∀ r q X m h, X 2 = d → DWk X d → MH T sz lim h q X (d + 1) → bc4 (dTd X d) + r = 5 → dTd X d < 16 → MO T sz lim (l_210_307 (r + 1 + m) (some 64) (nI d) (nI (110 + 10 * d)) h) h (dorT T sz lim d r q X) := by
  intro r
  induction r with
  | zero =>
    intro q X m h _ _ _ hb _
    have := bc4_le (dTd X d)
    omega
  | succ r ih =>
    intro q X m h hd hD hM hb h16
    have hF := hM.1.1
    rw [show r + 1 + 1 + m = (r + 1 + m) + 1 by omega, l_210_307, b_210_307, rC64 hF, grd_e, Option.bind_some, s_193 hF hM.1.2.2.1 hM.1.2.2.2 (by omega), Option.bind_some]
    dsimp only
    rw [show mw 6 = 4 from rfl]
    show MO T sz lim _ h (if isW T sz lim q 4 = true then _ else _)
    cases hw : isW T sz lim q 4
    · rw [if_pos (show bI false = 0 from rfl), if_neg (by decide)]
      exact s_210C hd hd9 hD hM
    · rw [if_neg (show ¬ bI true = 0 by decide), if_pos rfl, b_210_316]
      refine m_st hM (fun g hG => ?_)
      have kl := tkK_le (T := T) (sz := sz) (lim := lim) (p := tkN T sz lim q)
      have kc := kmd_e kl
      rw [gI64 hG.1.1, Option.bind_some, hG.1.2.2.1.1]
      by_cases c3 : tkK T sz lim (tkN T sz lim q) = 3
      · have vl := tk_num (T := T) (lim := lim) hG.1.2.2.2 c3
        have v8 : hI g 64 8 = nI (tkV T sz lim (tkN T sz lim q)) := hG.1.2.2.1.2.2.2.2.2 c3
        rw [if_pos (by rw [c3]; rfl), b_210_334, gI64 hG.1.1, Option.bind_some, v8]
        unfold nmB nmF
        rw [decide_eq_true c3, Bool.true_and, if_pos c3]
        by_cases c4 : tkV T sz lim (tkN T sz lim q) ≤ 3
        · rw [if_pos (by rw [nI_leI (by omega) (by omega)]; exact c4), if_pos (decide_eq_true ⟨by omega, by omega⟩), b_210_348, gQ64_15 hG.1.1, Option.bind_some, nI_add, show 110 + 10 * d + 5 = 115 + 10 * d by omega, mh_r hG (by omega) (by omega), Option.bind_some, gI64 hG.1.1, Option.bind_some, v8, show X (115 + 10 * d) = dTd X d from rfl, s_183 (by omega) (by omega), Option.bind_some]
          dsimp only
          cases ht : (dTd X d).testBit (tkV T sz lim (tkN T sz lim q))
          · have bu := bc4_up _ h16 _ (show tkV T sz lim (tkN T sz lim q) < 4 by omega) ht
            rw [if_pos (show bI false = 0 from rfl), if_neg (by decide), b_210_372, gQ64_15 hG.1.1, Option.bind_some, nI_add, show 110 + 10 * d + 5 = 115 + 10 * d by omega, mh_r hG (by omega) (by omega), Option.bind_some, gI64 hG.1.1, Option.bind_some, v8, show X (115 + 10 * d) = dTd X d from rfl, nI_1shl (by omega), fa_or]
            refine m_w hG (by omega) (by omega) (hG.2.2.up (by omega)) (fun g2 hG2 _ => ?_)
            refine m_st hG2 (fun g3 hG3 => ?_)
            have ux : ∀ j, j ≠ 115 + 10 * d → upX X (115 + 10 * d) (dTd X d ||| 2 ^ tkV T sz lim (tkN T sz lim q)) j = X j := fun j hj => upX_n hj
            have ui : dTd (upX X (115 + 10 * d) (dTd X d ||| 2 ^ tkV T sz lim (tkN T sz lim q))) d = dTd X d ||| 2 ^ tkV T sz lim (tkN T sz lim q) := upX_i _ _ _
            refine ih _ _ m g3 ((ux 2 (by omega)).trans hd) ?_ hG3 (by rw [ui, bu.1]; omega) (by rw [ui]; exact bu.2)
            unfold DWk dLn dAc dX dYy
            rw [ux _ (by omega), ux _ (by omega), ux _ (by omega), ux _ (by omega), ux _ (by omega), ux _ (by omega)]
            exact hD
          · rw [if_neg (show ¬ bI true = 0 by decide), if_pos rfl, b_210_366]
            exact m_err hG.1 (Or.inl (by omega))
        · rw [if_neg (by rw [nI_leI (by omega) (by omega)]; exact c4), if_neg (by rw [decide_eq_true_eq]; omega), b_210_342]
          exact m_err hG.1 (Or.inl (by omega))
      · rw [if_neg (fun z => c3 (kc.2.2.2.1.1 ((nI_eq (by omega) (by omega)).1 z))), b_210_328]
        unfold nmB nmF
        rw [decide_eq_false c3, Bool.false_and, if_neg (by decide), if_neg c3]
        exact m_err hG.1 (Or.inr rfl)
end HRN
