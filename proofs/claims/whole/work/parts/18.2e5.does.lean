/-! does: both -/
def isA (E : Nat → Nat) (x : Int32) : Bool := decide (-1 ≤ x.toInt ∧ x.toInt < 4 + 2 * (E 2 : Int))
def oA (x : Int32) : Nat := (x.toInt + 1).toNat
theorem isA_o {E : Nat → Nat} {x : Int32} (h : isA E x = true) : x = mI (oA x) ∧ oA x < 5 + 2 * E 2 := by
  have := of_decide_eq_true h
  unfold oA
  refine ⟨?_, by omega⟩
  rw [mI_z]
  have e : (((x.toInt + 1).toNat : Int) - 1) = x.toInt := by omega
  rw [e, ← zI_of]
section DOES
variable {τ : Nat → Nat} {h : Hp} {s : Nat} {E an : Nat → Nat} {pl : Nat} {x : Int32}
theorem s_89 (hF : Fix h) (hs : SP s) (hR : ScR τ h s E an pl) (hW : WF E) : f_89 (some s) x h = some (bI (isA E x), h) := by
  have w2 := hW.2.2.1
  obtain ⟨k7, _⟩ := spF hF hs
  have k4 := hR.2.1.1
  have e5 : hI h (rq h s 2) 5 = nI (E 2) := hR.2.1.2.2.2.2.2.2.1.2.2.1
  rw [f_89, b_89_0]
  unfold isA
  by_cases c : x.toInt < -1
  · rw [if_pos (by rw [fa_lt, toI_m1]; exact c), decide_eq_false (by omega), b_89_24, b_89_25, grd0, Option.bind_some]; rfl
  · rw [if_neg (by rw [fa_lt, toI_m1]; exact c), b_89_5, gQ_e k7, Option.bind_some, hR.1, gI_e k4, Option.bind_some, e5, pk_mul, nI_add]
    by_cases c2 : x.toInt < 4 + 2 * (E 2 : Int)
    · rw [if_neg (by rw [fa_le, toI_nI (by omega)]; omega), decide_eq_true (by omega), b_89_20, b_89_25, grd1, Option.bind_some]; rfl
    · rw [if_pos (by rw [fa_le, toI_nI (by omega)]; omega), decide_eq_false (by omega), b_89_24, b_89_25, grd0, Option.bind_some]; rfl
theorem s_264 (hF : Fix h) (hE : NowE h E) (hW : WF E) : f_264 (some 64) x h = some (bI (isA E x), h) := by
  have w2 := hW.2.2.1
  rw [f_264, b_264_0]
  unfold isA
  by_cases c : x = -1
  · subst c
    rw [if_pos rfl, toI_m1, decide_eq_true (by omega), b_264_21, b_264_26, grd1, Option.bind_some]; rfl
  · have c' : x.toInt ≠ -1 := fun z => c (by rw [zI_of x, z]; rfl)
    rw [if_neg c, b_264_5, rC64 hF, grd_e, Option.bind_some, s_203 hF hE, Option.bind_some]
    dsimp only
    rw [pk_mul, nI_add, s_182, Option.bind_some, toI_nI (by omega), toI_nI (by omega)]
    dsimp only
    by_cases c2 : ((0 : Nat) : Int) ≤ x.toInt ∧ x.toInt ≤ ((3 + 2 * E 2 : Nat) : Int)
    · rw [bI_T c2, if_neg nI10, decide_eq_true (by omega), b_264_21, b_264_26, grd1, Option.bind_some]; rfl
    · rw [bI_F c2, if_pos (show nI 0 = 0 from rfl), decide_eq_false (by omega), b_264_25, b_264_26, grd0, Option.bind_some]; rfl
end DOES
