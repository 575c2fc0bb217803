/-! does: both -/
def isA (E : Nat → Nat) (x : Int32) : Bool := decide (-1 ≤ x.toInt ∧ x.toInt < 4 + 2 * (E 2 : Int))
def oA (x : Int32) : Nat := (x.toInt + 1).toNat
theorem isA_o {E : Nat → Nat} {x : Int32} (h : isA E x = true) : x = mI (oA x) ∧ oA x < 5 + 2 * E 2 := by
  have := of_decide_eq_true h
  unfold oA
  refine ⟨?_, by omega⟩
  rw [mI_z]
  have e : (((x.toInt + 1).toNat : Int) - 1) = x.toInt := by omega
  rw [e, ← zI_of]
section DOES
variable {τ : Nat → Nat} {h : Hp} {s : Nat} {E an : Nat → Nat} {pl : Nat} {x : Int32}
theorem s_89 (hF : Fix h) (hs : SP s) (hR : ScR τ h s E an pl) (hW : WF E) : f_89 (some s) x h = some (bI (isA E x), h) := by
  have w2 := hW.2.2.1
  obtain ⟨k7, _⟩ := spF hF hs
  have k4 := hR.2.1.1
  have e5 : hI h (rq h s 2) 5 = nI (E 2) := hR.2.1.2.2.2.2.2.2.1.2.2.1
  rw [f_89, b_89_0]
  unfold isA
  by_cases c : x.toInt < -1
  · rw [if_pos (by rw [fa_lt, toI_m1]; exact c), decide_eq_false (by omega), b_89_24, b_89_25, grd0, Option.bind_some]; rfl
  · rw [if_neg (by rw [fa_lt, toI_m1]; exact c), b_89_5, gQ_e k7, Option.bind_some, hR.1, gI_e k4, Option.bind_some, e5, pk_mul, nI_add]
    by_cases c2 : x.toInt < 4 + 2 * (E 2 : Int)
    · rw [if_neg (by rw [fa_le, toI_nI (by omega)]; omega), decide_eq_true (by omega), b_89_20, b_89_25, grd1, Option.bind_some]; rfl
    · rw [if_pos (by rw [fa_le, toI_nI (by omega)]; omega), decide_eq_false (by omega), b_89_24, b_89_25, grd0, Option.bind_some]; rfl
theorem s_264 (hF : Fix h) (hE : NowE h E) (hW : WF E) : f_264 (some 64) x h = some (bI (isA E x), h) := by
  have w2 := hW.2.2.1
  rw [f_264, b_264_0]
  unfold isA
  by_cases c : x = -1
  · subst c
    rw [if_pos rfl, toI_m1, decide_eq_true (by omega), b_264_21, b_264_26, grd1, Option.bind_some]; rfl
  · have c' : x.toInt ≠ -1 := fun z => c (by rw [zI_of x, z]; rfl)
    rw [if_neg c, b_264_5, rC64 hF, grd_e, Option.bind_some, s_203 hF hE, Option.bind_some]
    dsimp only
    rw [pk_mul, nI_add, s_182, Option.bind_some, toI_nI (by omega), toI_nI (by omega)]
    dsimp only
    by_cases c2 : ((0 : Nat) : Int) ≤ x.toInt ∧ x.toInt ≤ ((3 + 2 * E 2 : Nat) : Int)
    · rw [bI_T c2, if_neg nI10, decide_eq_true (by omega), b_264_21, b_264_26, grd1, Option.bind_some]; rfl
    · rw [bI_F c2, if_pos (show nI 0 = 0 from rfl), decide_eq_false (by omega), b_264_25, b_264_26, grd0, Option.bind_some]; rfl
/-- what does answers -/
def dsA (E an : Nat → Nat) (pl : Nat) (x : Int32) : Int32 := if isA E x = true then nI (kn E an pl (oA x)) else -2
def dsB (E an : Nat → Nat) (pl : Nat) (x : Int32) : Bool := isA E x && decide (kn E an pl (oA x) = 0)
theorem s_155 {n0 : Nat} (hF : Fix h) (hT : TG τ) (hR : ScR τ h 33 E an pl) (hW : WF E) (hV : VA E an pl) (hn : hI h 30 13 = nI n0) : ∃ g, f_155 (some 30) x h = some (dsA E an pl x, g) ∧ Fz [35, 4000033, 14000030] h g ∧
    (dsB E an pl x = true → ScR τ g 33 E (mnA E an pl (oA x)) (pp pl (oA x)) ∧ VA E (mnA E an pl (oA x)) (pp pl (oA x)) ∧ hI g 30 13 = nI (n0 + 1)) ∧ (dsB E an pl x = false → g = h) := by
  have sp : SP 33 := Or.inl rfl
  rw [f_155, b_155_0, gQ30_1 hF, Option.bind_some, rC33 hF, grd_e, Option.bind_some, s_89 hF sp hR hW, Option.bind_some]
  dsimp only
  unfold dsA dsB
  cases ha : isA E x
  · rw [if_neg (show ¬ ¬ bI false = 0 from fun z => z rfl), if_neg (by decide), b_155_11]
    exact ⟨h, rfl, Fz.rfl', fun z => (by cases z), fun _ => rfl⟩
  · obtain ⟨ex, ho⟩ := isA_o ha
    generalize oA x = o at *
    have kl := kn_lt (E := E) (an := an) (pl := pl) (o := o)
    rw [if_pos (show ¬ bI true = 0 by decide), if_pos rfl, b_155_14, gQ30_1 hF, Option.bind_some, rC33 hF, grd_e, Option.bind_some, ex, c_90 hF sp hR hW hV ho, Option.bind_some, bnd_e, Bool.true_and]
    dsimp only
    by_cases c : kn E an pl o = 0
    · obtain ⟨g1, a1, a2, a3⟩ := c_94 hF hT sp hR hW hV ho c
      have F1 := a2.fix hF (by decide)
      obtain ⟨g2, b1, b2, b3⟩ := c_95 F1 hT sp a3 hW hV ho c
      have F2 := b2.fix F1 (by decide)
      have n2 : hI g2 30 13 = nI n0 := by rw [b2.I (by decide), a2.I (by decide)]; exact hn
      have z3 : Fz [14000030] g2 (sI g2 30 13 (nI (n0 + 1))) := Fz.sI Fz.rfl' (Or.inr (by simp))
      refine ⟨sI g2 30 13 (nI (n0 + 1)), ?_, (a2.wid (by decide)).then ((b2.wid (by decide)).then (z3.wid (by decide))), fun _ => ⟨?_, hV.mn hW ho c, ?_⟩, fun z => absurd (of_decide_eq_false z) (fun w => w c)⟩
      · rw [if_neg (fun z => z (by rw [c]; rfl)), b_155_27, gQ30_1 hF, Option.bind_some, rC33 hF, grd_e, Option.bind_some, a1, Option.bind_some, gQ30_1 F1, Option.bind_some, rC33 F1, grd_e, Option.bind_some, b1, Option.bind_some]
        dsimp only
        rw [gI30 F2, Option.bind_some, n2, nI_add, pI30 F2, Option.bind_some, b_155_53]
      · refine b3.ag (fun p hp => ⟨rfl, rfl, rfl, ?_, rfl⟩) rfl (z3.I (by decide)) (z3.I (by decide)) (by rw [z3.I (by decide)])
        exact funext fun j => by rw [hI_sI, if_neg (by have := (hT p hp).1; omega)]
      · rw [hI_sI]; exact if_pos ⟨rfl, rfl⟩
    · rw [if_pos (nI_n0 (by omega) c), b_155_53]
      exact ⟨h, rfl, Fz.rfl', fun z => absurd (of_decide_eq_true z) c, fun _ => rfl⟩
theorem s_265 {n0 : Nat} (hF : Fix h) (hB : Bg h E) (hW : WF E) (hV : VA E (anE E) (E 340)) (hn : hI h 64 23 = nI n0) : ∃ g, f_265 (some 64) x h = some (dsA E (anE E) (E 340) x, g) ∧ Fz [1000064, 23000064, 24000064, 66, 87, 46000064, 47000064, 27000064, 74, 75, 88] h g ∧ hI g 64 22 = 1 ∧ hI g 64 0 = nI 0 ∧
    (dsB E (anE E) (E 340) x = true → NowE g (kpE E (mnA E (anE E) (E 340) (oA x)) (pp (E 340) (oA x))) ∧ hI g 64 23 = nI (n0 + 1)) ∧ (dsB E (anE E) (E 340) x = false → NowE g E ∧ hI g 64 23 = nI n0) := by
  obtain ⟨g, a1, a2, a3, a4, a5, F0, F1⟩ := askM hF hB
  have n1 : hI g 64 23 = nI n0 := by rw [a2.I1 (by decide) (by decide)]; exact hn
  rw [f_265, b_265_0, pI64 hF, Option.bind_some, rC64 F0, grd_e, Option.bind_some, a1, Option.bind_some, rC64 F1, grd_e, Option.bind_some, s_264 F1 a3 hW, Option.bind_some]
  dsimp only
  unfold dsA dsB
  cases ha : isA E x
  · rw [if_neg (show ¬ ¬ bI false = 0 from fun z => z rfl), if_neg (by decide), b_265_17]
    exact ⟨g, rfl, a2.wid (by decide), a4, a5, fun z => (by cases z), fun _ => ⟨a3, n1⟩⟩
  · obtain ⟨ex, ho⟩ := isA_o ha
    generalize oA x = o at *
    have kl := kn_lt (E := E) (an := anE E) (pl := E 340) (o := o)
    obtain ⟨g2, b1, b2, b3, b4, b5⟩ := s_253 F1 (Or.inl ⟨a4, a3⟩) hW hV.1 hV.2.1
    have F2 := b2.fix F1 (by decide)
    obtain ⟨g3, c1, c2, c3, c4⟩ := s_261 F2 b3 hW hV ho b5
    have F3 := c2.fix F2 (by decide)
    have m22 : hI g3 64 22 = 1 := by rw [c2.I1 (by decide) (by decide)]; exact b4
    have m0 : hI g3 64 0 = nI 0 := by rw [c2.I1 (by decide) (by decide), b2.I1 (by decide) (by decide)]; exact a5
    have n3 : hI g3 64 23 = nI n0 := by rw [c2.I1 (by decide) (by decide), b2.I1 (by decide) (by decide)]; exact n1
    have zz : Fz [1000064, 23000064, 24000064, 66, 87, 46000064, 47000064, 27000064, 74, 75, 88] h g3 := (a2.wid (by decide)).then ((b2.wid (by decide)).then (c2.wid (by decide)))
    rw [if_pos (show ¬ bI true = 0 by decide), if_pos rfl, b_265_20, rC64 F1, grd_e, Option.bind_some, b1, Option.bind_some, rC64 F2, grd_e, Option.bind_some, ex, c1, Option.bind_some, bnd_e, Bool.true_and]
    dsimp only
    by_cases c : kn E (anE E) (E 340) o = 0
    · obtain ⟨ms, _⟩ := c3 c
      have hv2 := hV.mn hW ho c
      have an5 : ∀ d, d < 10 → mnA E (anE E) (E 340) o d < 100000 := fun d hd => by
        by_cases k : d < E 2
        · have := hv2.1 d k; omega
        · rw [mnA_ta hW ho d (by omega)]; exact a3.2.2.2 (330 + d)
      obtain ⟨g4, d1, d2, d3⟩ := s_254 F3 ms an5 hv2.2.2.2
      have F4 := d2.fix F3 (by decide)
      have n4 : hI g4 64 23 = nI n0 := by rw [d2.I (by decide)]; exact n3
      have z5 : Fz [24000064] g4 (sI g4 64 23 (nI (n0 + 1))) := Fz.sI Fz.rfl' (Or.inr (by simp))
      refine ⟨sI g4 64 23 (nI (n0 + 1)), ?_, zz.then ((d2.wid (by decide)).then (z5.wid (by decide))), ?_, ?_, fun _ => ⟨d3.cg (z5.I (by decide)), ?_⟩, fun z => absurd (of_decide_eq_false z) (fun w => w c)⟩
      · rw [if_pos (by rw [c]; rfl), b_265_36, rC64 F3, grd_e, Option.bind_some, d1, Option.bind_some, gI64 F4, Option.bind_some, n4, nI_add, pI64 F4, Option.bind_some, c]
      · rw [hI_sI, if_neg (by omega), d2.I (by decide)]; exact m22
      · rw [hI_sI, if_neg (by omega), d2.I (by decide)]; exact m0
      · rw [hI_sI]; exact if_pos ⟨rfl, rfl⟩
    · rw [if_neg (nI_n0 (by omega) c), b_265_34]
      exact ⟨g3, rfl, zz, m22, m0, fun z => absurd (of_decide_eq_true z) c, fun _ => ⟨(c4 c).1.1, n3⟩⟩
end DOES
