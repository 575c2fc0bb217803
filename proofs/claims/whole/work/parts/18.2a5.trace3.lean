/-! all leaves of a door traced -/
theorem loF_o : ∀ (l : List (Int × Int)) (A : Nat), loF l A = A ||| loM l := by
  have key : ∀ (l : List (Int × Int)) (A : Nat), loF l A = A ||| loF l 0 := by
    intro l
    induction l with
    | nil => intro A; exact (Nat.or_zero A).symm
    | cons q l ih =>
      intro A
      rw [loF_c, loF_c]
      split
      · rw [ih (A ||| 2 ^ cN q), ih (0 ||| 2 ^ cN q), Nat.zero_or, Nat.or_assoc]
      · exact ih A
  exact key
theorem hiF_o : ∀ (l : List (Int × Int)) (A : Nat), hiF l A = A ||| hiM l := by
  have key : ∀ (l : List (Int × Int)) (A : Nat), hiF l A = A ||| hiF l 0 := by
    intro l
    induction l with
    | nil => intro A; exact (Nat.or_zero A).symm
    | cons q l ih =>
      intro A
      rw [hiF_c, hiF_c]
      split
      · rw [ih (A ||| 2 ^ (cN q - 50)), ih (0 ||| 2 ^ (cN q - 50)), Nat.zero_or, Nat.or_assoc]
      · exact ih A
  exact key
theorem loM_a (l m : List (Int × Int)) : loM (l ++ m) = loM l ||| loM m := (loF_a l m 0).trans (loF_o m _)
theorem hiM_a (l m : List (Int × Int)) : hiM (l ++ m) = hiM l ||| hiM m := (hiF_a l m 0).trans (hiF_o m _)
theorem lN00 : (0 : Int64) = lN 0 := by decide
/-- the rows of a door's sweeps -/
def TW (h : Hp) (p : Nat) : Prop := (hQ h p 2 = some (p + 3) ∧ hQ h p 3 = some (p + 4) ∧ hQ h p 4 = some (p + 5)) ∧ (hK h (p + 3) = 13 ∧ hL h (p + 3) = 4) ∧ (hK h (p + 4) = 13 ∧ hL h (p + 4) = 4) ∧ (hK h (p + 5) = 12 ∧ hL h (p + 5) = 4)
theorem TW.fz {h g : Hp} {p : Nat} {Z : List Nat} (t : TW h p) (hz : Fz Z h g) : TW g p := by
  unfold TW at *
  rw [hz.K, hz.L, hz.Q]
  exact t
def ZG (p g : Nat) : List Nat := [1000000 * (3 * g + 1) + (p + 1), 1000000 * (3 * g + 1) + (p + 2), 1000000 * (3 * g + 2) + (p + 1), 1000000 * (3 * g + 2) + (p + 2), 1000000 * (3 * g + 3) + (p + 1), 1000000 * (3 * g + 3) + (p + 2), 1000000 * (g + 1) + (p + 3), 1000000 * (g + 1) + (p + 4), 1000000 * (g + 1) + (p + 5)]
theorem ZG_m {p g z : Nat} (hp : p + 10 < 1000000) (hz : z ∈ ZG p g) : p + 1 ≤ z % 1000000 ∧ z % 1000000 ≤ p + 5 := by
  unfold ZG at hz
  simp only [List.mem_cons, List.not_mem_nil, or_false] at hz
  omega
theorem TC.fg {h g' : Hp} {p a d g : Nat} {X : Nat → Nat} (t : TC h p a X d) (hz : Fz (ZG p g) h g') : TC g' p a X d := by
  have b := t.2.2.2.2.2.2.1
  exact t.cg hz.K hz.L hz.Q (hz.I (fun z hm => by have := ZG_m b.2.2 hm; omega)) (hz.I (fun z hm => by have := ZG_m b.2.2 hm; omega)) (hz.I (fun z hm => by have := ZG_m b.2.2 hm; omega))
section TRACE3
variable {p a d g an : Nat} {X : Nat → Nat}
theorem ZT_w (han : an < 3) : ∀ z, z ∈ ZT p (3 * g + an) → z ∈ ZG p g ∨ z % 1000000 ∈ ZG p g := by
  intro z hz
  unfold ZT at hz
  unfold ZG
  simp only [List.mem_cons, List.not_mem_nil, or_false] at hz ⊢
  omega
theorem s_17a {K2 : Option Nat → Option Nat → Int32 → Hp → Option Hp} {K : Option Nat → Option Nat → Int32 → Int32 → Hp → Option Hp} {h : Hp} {c sl sh : Nat} (hW : WF X) (hg : g < 4) (h1 : 1 ≤ an) (h3 : an < 3) (t : TC h p a X d) (tw : TW h p) (hc : c < 8) (z1 : hJ h (p + 1) (3 * g + an) = 0) (z2 : hJ h (p + 2) (3 * g + an) = 0) (z3 : hJ h (p + 3) g = lN sl) (z4 : hJ h (p + 4) g = lN sh) (z5 : hI h (p + 5) g = nI c) :
    ∃ g', b_17_24 K2 K (some p) (some a) (nI g) (nI an) h = K (some p) (some a) (nI g) (nI (an + 1)) g' ∧ Fz (ZG p g) h g' ∧ hJ g' (p + 1) (3 * g + an) = lN (loM (lfc X d g an)) ∧ hJ g' (p + 2) (3 * g + an) = lN (hiM (lfc X d g an)) ∧ (∀ j, j ≠ 3 * g + an → hJ g' (p + 1) j = hJ h (p + 1) j ∧ hJ g' (p + 2) j = hJ h (p + 2) j) ∧
      hJ g' (p + 3) g = lN (sl ||| loM (if canB X d g an = true then lfc X d g an else [])) ∧ hJ g' (p + 4) g = lN (sh ||| hiM (if canB X d g an = true then lfc X d g an else [])) ∧ hI g' (p + 5) g = nI (if canB X d g an = true then c ||| 2 ^ an else c) := by
  have bb := t.2.2.2.2.2.2.1
  obtain ⟨g1, b1, b2, b3, b4⟩ := s_18 hW hg h3 t (z1.trans lN00) (z2.trans lN00)
  have zm : ∀ z, z ∈ ZT p (3 * g + an) → z % 1000000 = p + 1 ∨ z % 1000000 = p + 2 := by
    intro z hz
    unfold ZT at hz
    simp only [List.mem_cons, List.not_mem_nil, or_false] at hz
    omega
  have t1 := t.fz b2
  have tw1 := tw.fz b2
  have oth : ∀ j, j ≠ 3 * g + an → hJ g1 (p + 1) j = hJ h (p + 1) j ∧ hJ g1 (p + 2) j = hJ h (p + 2) j := fun j hj => by
    refine ⟨b2.J1 ?_ ?_, b2.J1 ?_ ?_⟩ <;> unfold ZT <;> simp only [List.mem_cons, List.not_mem_nil, or_false] <;> omega
  have y3 : hJ g1 (p + 3) g = lN sl := by rw [b2.J (fun z hm => by have := zm z hm; omega)]; exact z3
  have y4 : hJ g1 (p + 4) g = lN sh := by rw [b2.J (fun z hm => by have := zm z hm; omega)]; exact z4
  have y5 : hI g1 (p + 5) g = nI c := by rw [b2.I (fun z hm => by have := zm z hm; omega)]; exact z5
  have cb : canB X d g an = (lfc X d g an).all (flE X) := by unfold canB; rw [show (an == 0) = false from beq_eq_false_iff_ne.2 (by omega), Bool.false_or]
  have e3 : loF (lfc X d g an) 0 = loM (lfc X d g an) := rfl
  have e4 : hiF (lfc X d g an) 0 = hiM (lfc X d g an) := rfl
  rw [e3] at b3
  rw [e4] at b4
  rw [b_17_24, if_neg (by rw [nI_leI (by omega) (by omega)]; omega), b_17_29, rC_e t.1 (by omega), grd_e, Option.bind_some, b1, Option.bind_some, ← cb]
  dsimp only
  have w := b2.wid (ZT_w (p := p) (g := g) h3)
  cases hcb : canB X d g an
  · rw [if_pos (show bI false = 0 from rfl), b_17_89, bnd_e, nI_add]
    refine ⟨g1, rfl, w, b3, b4, oth, ?_, ?_, ?_⟩
    · rw [if_neg (by decide)]; exact y3.trans (congrArg lN (Nat.or_zero sl).symm)
    · rw [if_neg (by decide)]; exact y4.trans (congrArg lN (Nat.or_zero sh).symm)
    · rw [if_neg (by decide)]; exact y5
  · generalize x1 : sI g1 (p + 5) g (nI (c ||| 2 ^ an)) = g2
    generalize x2 : sJ g2 (p + 3) g (lN (sl ||| loM (lfc X d g an))) = g3
    generalize x3 : sJ g3 (p + 4) g (lN (sh ||| hiM (lfc X d g an))) = g4
    obtain ⟨⟨q2, q3, q4⟩, ⟨k3, l3⟩, ⟨k4, l4⟩, ⟨k5, l5⟩⟩ := id tw1
    obtain ⟨kp, ⟨q0, q1⟩, ⟨k1, l1⟩, ⟨k2, l2⟩, _⟩ := id t1
    have i2 : ∀ P j, hI g2 P j = if P = p + 5 ∧ j = g then nI (c ||| 2 ^ an) else hI g1 P j := fun P j => by rw [← x1, hI_sI]
    have j2 : hJ g2 = hJ g1 := by rw [← x1]; rfl
    have K2' : hK g2 = hK g1 := by rw [← x1]; rfl
    have L2' : hL g2 = hL g1 := by rw [← x1]; rfl
    have Q2' : hQ g2 = hQ g1 := by rw [← x1]; rfl
    have j3 : ∀ P j, hJ g3 P j = if P = p + 3 ∧ j = g then lN (sl ||| loM (lfc X d g an)) else hJ g1 P j := fun P j => by rw [← x2, hJ_sJ, j2]
    have K3' : hK g3 = hK g1 := by rw [← x2]; exact K2'
    have L3' : hL g3 = hL g1 := by rw [← x2]; exact L2'
    have Q3' : hQ g3 = hQ g1 := by rw [← x2]; exact Q2'
    have j4 : ∀ P j, hJ g4 P j = if P = p + 4 ∧ j = g then lN (sh ||| hiM (lfc X d g an)) else if P = p + 3 ∧ j = g then lN (sl ||| loM (lfc X d g an)) else hJ g1 P j := fun P j => by rw [← x3, hJ_sJ, j3]
    have i4' : ∀ P j, hI g4 P j = hI g2 P j := fun P j => by rw [← x3, hI_sJ, ← x2, hI_sJ]
    have c8 : c ||| 2 ^ an < 8 := or_lt (k := 3) hc (pw_lt h3)
    refine ⟨g4, ?_, w.then ?_, ?_, ?_, ?_, ?_, ?_, ?_⟩
    · rw [if_neg (show ¬ bI true = 0 by decide), b_17_39, gQ_e kp, Option.bind_some, q4, aI_n k5 l5 hg (by omega), Option.bind_some, y5, nI_1shl (by omega), fa_or, wI_n k5 (by omega) l5 hg (by omega), Option.bind_some, x1, gQ_e (show hK g2 p = 1 by rw [K2']; exact kp), Option.bind_some, Q2', q2, aJ_n (show hK g2 (p + 3) = 13 by rw [K2']; exact k3) (show hL g2 (p + 3) = 4 by rw [L2']; exact l3) hg (by omega), Option.bind_some, gQ_e (show hK g2 p = 1 by rw [K2']; exact kp), Option.bind_some, Q2', q0, pk_mul, nI_add, aJ_n (show hK g2 (p + 1) = 13 by rw [K2']; exact k1) (show hL g2 (p + 1) = 12 by rw [L2']; exact l1) (by omega) (by omega), Option.bind_some, j2, y3, b3, fb_orL, wJ_n (show hK g2 (p + 3) = 13 by rw [K2']; exact k3) (by omega) (show hL g2 (p + 3) = 4 by rw [L2']; exact l3) hg (by omega), Option.bind_some, x2, gQ_e (show hK g3 p = 1 by rw [K3']; exact kp), Option.bind_some, Q3', q3, aJ_n (show hK g3 (p + 4) = 13 by rw [K3']; exact k4) (show hL g3 (p + 4) = 4 by rw [L3']; exact l4) hg (by omega), Option.bind_some, gQ_e (show hK g3 p = 1 by rw [K3']; exact kp), Option.bind_some, Q3', q1, aJ_n (show hK g3 (p + 2) = 13 by rw [K3']; exact k2) (show hL g3 (p + 2) = 12 by rw [L3']; exact l2) (by omega) (by omega), Option.bind_some, j3, j3, if_neg (by omega), if_neg (by omega), y4, b4, fb_orL, wJ_n (show hK g3 (p + 4) = 13 by rw [K3']; exact k4) (by omega) (show hL g3 (p + 4) = 4 by rw [L3']; exact l4) hg (by omega), Option.bind_some, x3, b_17_89, bnd_e, nI_add]
    · rw [← x3, ← x2, ← x1]
      exact Fz.sJ (Fz.sJ (Fz.sI Fz.rfl' (Or.inr (by unfold ZG; simp))) (Or.inr (by unfold ZG; simp))) (Or.inr (by unfold ZG; simp))
    · rw [j4, if_neg (by omega), if_neg (by omega)]; exact b3
    · rw [j4, if_neg (by omega), if_neg (by omega)]; exact b4
    · intro j hj
      rw [j4, if_neg (by omega), if_neg (by omega), j4, if_neg (by omega), if_neg (by omega)]; exact oth j hj
    · rw [j4, if_neg (by omega), if_pos ⟨rfl, rfl⟩, if_pos rfl]
    · rw [j4, if_pos ⟨rfl, rfl⟩, if_pos rfl]
    · rw [i4', i2, if_pos ⟨rfl, rfl⟩, if_pos rfl]
end TRACE3
