/-! the class's codes run -/
def dbl (p : Nat) (a : Bool) : Nat := 2 * p + (if a = true then 1 else 0)
theorem dbl_0 (p : Nat) (a : Bool) : (dbl p a).testBit 0 = a := by
  unfold dbl
  rw [Nat.testBit_zero]
  cases a
  · rw [if_neg (by decide)]; exact decide_eq_false (by omega)
  · rw [if_pos rfl]; exact decide_eq_true (by omega)
theorem dbl_s (p : Nat) (a : Bool) (i : Nat) : (dbl p a).testBit (i + 1) = p.testBit i := by
  unfold dbl
  rw [Nat.testBit_succ]
  congr 1
  cases a
  · rw [if_neg (by decide)]; omega
  · rw [if_pos rfl]; omega
theorem dbl_or (p : Nat) (a b : Bool) : dbl p a ||| dbl 0 b = dbl p (a || b) := by
  apply Nat.eq_of_testBit_eq
  intro i
  rw [Nat.testBit_or]
  cases i with
  | zero => rw [dbl_0, dbl_0, dbl_0]
  | succ i => rw [dbl_s, dbl_s, dbl_s, Nat.zero_testBit, Bool.or_false]
theorem dbl_xor (p : Nat) (a : Bool) : dbl p a ^^^ 1 = dbl p (!a) := by
  apply Nat.eq_of_testBit_eq
  intro i
  rw [Nat.testBit_xor, show (1 : Nat) = dbl 0 true from rfl]
  cases i with
  | zero => rw [dbl_0, dbl_0, dbl_0]; cases a <;> rfl
  | succ i => rw [dbl_s, dbl_s, dbl_s, Nat.zero_testBit, Bool.xor_false]
theorem dbl_and {p : Nat} (hp : p < 2 ^ 30) (a b : Bool) : dbl p a &&& (dbl (dbl p a) b ||| 4294967294) = dbl p (a && b) := by
  apply Nat.eq_of_testBit_eq
  intro i
  rw [Nat.testBit_and, Nat.testBit_or, show (4294967294 : Nat) = dbl 2147483647 false from rfl]
  cases i with
  | zero => rw [dbl_0, dbl_0, dbl_0, dbl_0, Bool.or_false]
  | succ i =>
    rw [dbl_s, dbl_s, dbl_s, dbl_s]
    by_cases c : i < 31
    · rw [show (2147483647 : Nat) = 2 ^ 31 - 1 from rfl, Nat.testBit_two_pow_sub_one, decide_eq_true c, Bool.or_true, Bool.and_true]
    · rw [Nat.testBit_lt_two_pow (Nat.lt_of_lt_of_le hp (Nat.pow_le_pow_right (by omega) (by omega))), Bool.false_and]
theorem dbl_h (p : Nat) (a : Bool) : dbl p a / 2 = p := by
  unfold dbl
  cases a
  · rw [if_neg (by decide)]; omega
  · rw [if_pos rfl]; omega
theorem dbl_l (p : Nat) (a : Bool) : dbl p a &&& 1 = dbl 0 a := by
  rw [Nat.and_one_is_mod]
  unfold dbl
  cases a
  · rw [if_neg (by decide)]; omega
  · rw [if_pos rfl]; omega
theorem dbl_lt {p k : Nat} (hp : p < 2 ^ k) (a : Bool) : dbl p a < 2 ^ (k + 1) := by
  unfold dbl
  rw [Nat.pow_succ]
  split <;> omega
theorem fa_xor (a b : Nat) : nI a ^^^ nI b = nI (a ^^^ b) := by
  apply Int32.toBitVec_inj.1
  show BitVec.ofNat 32 a ^^^ BitVec.ofNat 32 b = BitVec.ofNat 32 (a ^^^ b)
  apply BitVec.eq_of_toNat_eq
  rw [BitVec.toNat_xor, BitVec.toNat_ofNat, BitVec.toNat_ofNat, BitVec.toNat_ofNat]
  exact (Nat.xor_mod_two_pow).symm
theorem m2N : (-2 : Int32) = nI 4294967294 := by decide
section SAIDC
variable {τ : Nat → Nat} {h : Hp} {s b : Nat} {E an Y : Nat → Nat} {pl d : Nat}
theorem l_110 (hF : Fix h) (hs : SP s) (hR : ScR τ h s E an pl) (hW : WF E) (hV : VA E an pl) (hS : SnC h b Y) (h30 : 30 ≤ b) (hd : d < E 2) (hn : Y 900 ≤ 40) : ∀ n lo hi p k m, WTn (E 2) Y n lo hi → hi ≤ Y 900 → p < 2 ^ k → k + (hi - lo + 1) / 2 ≤ 25 →
    l_110_5 (hi - lo + m) (some b) (some s) (nI d) (nI p) (nI lo) h = l_110_5 m (some b) (some s) (nI d) (nI (dbl p (vlT (lvS E an pl Y d) Y n (hi - 1)))) (nI hi) h := by
  obtain ⟨⟨b0, u0, u1, u2, ⟨b1, c1⟩, ⟨b2, c2⟩, b3, c3⟩, ⟨j3, _⟩, iv⟩ := id hS
  have code : ∀ i, i < Y 900 → aI 12 (some (b + 1)) (nI i) h = some (nI (Y (4 * i))) := fun i hi => by rw [aI_n b1 c1 (by omega) (by omega), (iv i hi).1]
  have g3 : gI 8 3 (some b) h = some (nI (Y 900)) := by rw [gI_e b0, j3]
  have q80 : gQ 8 0 (some b) h = some (some (b + 1)) := by rw [gQ_e b0, u0]
  have pw : ∀ k p, p < 2 ^ k → k ≤ 25 → p < 33554432 := fun k p hp hk => Nat.lt_of_lt_of_le hp (show 2 ^ k ≤ 33554432 from Nat.pow_le_pow_right (n := 2) (by omega) hk)
  have hd' : ∀ i v m, i < Y 900 → l_110_5 (m + 1) (some b) (some s) (nI d) v (nI i) h = if ¬ nI (Y (4 * i)) = 0 then b_110_35 (l_110_5 m) (some b) (some s) (nI d) v (nI i) h else b_110_24 (l_110_5 m) (some b) (some s) (nI d) v (nI i) h := fun i v m hi => by
    rw [l_110_5, b_110_5, g3, Option.bind_some, if_neg (by rw [nI_leI (by omega) (by omega)]; omega), b_110_14, q80, Option.bind_some, code i hi, Option.bind_some]
  have h35 : ∀ i v m, i < Y 900 → b_110_35 (l_110_5 m) (some b) (some s) (nI d) v (nI i) h = if ¬ nI (Y (4 * i)) = nI 1 then b_110_58 (l_110_5 m) (some b) (some s) (nI d) v (nI i) h else b_110_46 (l_110_5 m) (some b) (some s) (nI d) v (nI i) h := fun i v m hi => by
    rw [b_110_35, q80, Option.bind_some, code i hi, Option.bind_some]
  have h58 : ∀ i v m, i < Y 900 → b_110_58 (l_110_5 m) (some b) (some s) (nI d) v (nI i) h = if ¬ nI (Y (4 * i)) = nI 2 then b_110_76 (l_110_5 m) (some b) (some s) (nI d) v (nI i) h else b_110_69 (l_110_5 m) (some b) (some s) (nI d) v (nI i) h := fun i v m hi => by
    rw [b_110_58, q80, Option.bind_some, code i hi, Option.bind_some]
  intro n
  induction n with
  | zero => intro lo hi p k m w; exact absurd w id
  | succ n ih =>
    intro lo hi p k m w hh hp hk
    have lt := WTn_lt _ _ _ w
    have p25 := pw k p hp (by omega)
    have un : vlT (lvS E an pl Y d) Y (n + 1) (hi - 1) = if Y (4 * (hi - 1)) = 2 then !vlT (lvS E an pl Y d) Y n (Y (4 * (hi - 1) + 1)) else if Y (4 * (hi - 1)) = 1 then (vlT (lvS E an pl Y d) Y n (Y (4 * (hi - 1) + 1)) && vlT (lvS E an pl Y d) Y n (Y (4 * (hi - 1) + 2))) else if Y (4 * (hi - 1)) = 0 then (vlT (lvS E an pl Y d) Y n (Y (4 * (hi - 1) + 1)) || vlT (lvS E an pl Y d) Y n (Y (4 * (hi - 1) + 2))) else lvS E an pl Y d (hi - 1) := rfl
    rw [un]
    rcases w with ⟨h0, hl⟩ | ⟨e, h1, h2, h3, h4⟩ | ⟨md, e, h1, h2, h3, h4, h5, h6⟩
    · have l3 := hl.1
      rw [show hi - 1 = lo by omega, if_neg (by omega), if_neg (by omega), if_neg (by omega), show hi - lo + m = m + 1 by omega, hd' lo _ m (by omega), if_pos (nI_n0 (by omega) (by omega)), h35 lo _ m (by omega), if_pos (nI_nn (by omega) (by omega) (by omega)), h58 lo _ m (by omega), if_pos (nI_nn (by omega) (by omega) (by omega)), b_110_76, rC_e b0 h30, grd_e, Option.bind_some, s_111 hF hs hR hW hV hS h30 hd (by omega) hn hl, Option.bind_some, nI_shl (by omega) (by omega)]
      dsimp only
      have ep : p * 2 ^ 1 = 2 ^ 1 * p := Nat.mul_comm _ _
      cases lvS E an pl Y d lo
      · rw [if_pos (show bI false = 0 from rfl), b_110_94, b_110_95, ep, fa_or_sum p (show 0 < 2 ^ 1 by decide), bnd_e, b_110_97, bnd_e, nI_add, h0]
        rfl
      · rw [if_neg (show ¬ bI true = 0 by decide), b_110_90, b_110_95, ep, fa_or_sum p (show 1 < 2 ^ 1 by decide), bnd_e, b_110_97, bnd_e, nI_add, h0]
        rfl
    · have l2 := WTn_lt _ _ _ h2
      rw [show hi - 1 = e by omega, if_pos h3, h4, show hi - lo + m = (e - lo) + (m + 1) by omega, ih lo e p k (m + 1) h2 (by omega) hp (by omega), hd' e _ m (by omega), h3, if_pos (by decide), h35 e _ m (by omega), h3, if_pos (by decide), h58 e _ m (by omega), h3, if_neg (fun z => z rfl), b_110_69, fa_xor, dbl_xor, bnd_e, b_110_97, bnd_e, nI_add, h1]
    · have l1 := WTn_lt _ _ _ h2
      have l2 := WTn_lt _ _ _ h3
      have dl := dbl_lt hp (vlT (lvS E an pl Y d) Y n (md - 1))
      have dl2 := dbl_lt dl (vlT (lvS E an pl Y d) Y n (e - 1))
      have q25 := pw _ _ dl2 (by omega)
      rw [show hi - 1 = e by omega, h5, h6, show hi - lo + m = (md - lo) + ((e - md) + (m + 1)) by omega, ih lo md p k _ h2 (by omega) hp (by omega), ih md e _ (k + 1) (m + 1) h3 (by omega) dl (by omega), hd' e _ m (by omega), if_neg (show ¬ Y (4 * e) = 2 by omega)]
      generalize vlT (lvS E an pl Y d) Y n (md - 1) = va at *
      generalize vlT (lvS E an pl Y d) Y n (e - 1) = vb at *
      rcases (show Y (4 * e) = 0 ∨ Y (4 * e) = 1 by omega) with z | z
      · rw [z, if_neg (show ¬ ¬ nI 0 = 0 from fun z => z rfl), if_neg (by omega), if_pos rfl, b_110_24, nI_shr (by omega) (by omega), fa_and, fa_or, bnd_e, b_110_97, bnd_e, nI_add, h1, show dbl (dbl p va) vb / 2 ^ 1 = dbl p va from dbl_h _ _, dbl_l, dbl_or]
      · rw [z, if_pos (show ¬ nI 1 = 0 from nI10), if_pos rfl, h35 e _ m (by omega), z, if_neg (fun z => z rfl), b_110_46, nI_shr (by omega) (by omega), m2N, fa_or, fa_and, bnd_e, b_110_97, bnd_e, nI_add, h1, show dbl (dbl p va) vb / 2 ^ 1 = dbl p va from dbl_h _ _, dbl_and (by omega)]
theorem s_110 (hF : Fix h) (hs : SP s) (hR : ScR τ h s E an pl) (hW : WF E) (hV : VA E an pl) (hS : SnC h b Y) (h30 : 30 ≤ b) (hd : d < E 2) (hn : Y 900 ≤ 40) (hw : WTn (E 2) Y (Y 900) 0 (Y 900)) : f_110 (some b) (some s) (nI d) h = some (bI (vlT (lvS E an pl Y d) Y (Y 900) (Y 900 - 1)), h) := by
  obtain ⟨⟨b0, _⟩, ⟨j3, _⟩, _⟩ := id hS
  have g3 : gI 8 3 (some b) h = some (nI (Y 900)) := by rw [gI_e b0, j3]
  obtain ⟨m, hm⟩ := FU_ge (Y 900 + 1) (by omega)
  have go := l_110 hF hs hR hW hV hS h30 hd hn (Y 900) 0 (Y 900) 0 0 (m + 1) hw (Nat.le_refl _) (by decide) (by omega)
  rw [f_110, b_110_0, bnd_e, bnd_e, hm, show Y 900 + 1 + m = Y 900 - 0 + (m + 1) by omega, go, l_110_5, b_110_5, g3, Option.bind_some, if_pos (by rw [nI_leI (by omega) (by omega)]; exact Nat.le_refl _), b_110_103, fa_and, dbl_l]
  cases vlT (lvS E an pl Y d) Y (Y 900) (Y 900 - 1)
  · rw [if_pos (show ¬ nI (dbl 0 false) = nI 1 by decide), b_110_114, b_110_115, grd0, Option.bind_some]; rfl
  · rw [if_neg (show ¬ ¬ nI (dbl 0 true) = nI 1 from fun z => z rfl), b_110_110, b_110_115, grd1, Option.bind_some]; rfl
/-- the doors of which it is so, as bits -/
def sdM (f : Nat → Bool) : Nat → Nat → Nat → Nat
  | _, 0, m => m
  | d, r + 1, m => sdM f (d + 1) r (m ||| (if f d = true then 2 ^ d else 0))
theorem s_109 (hF : Fix h) (hs : SP s) (hR : ScR τ h s E an pl) (hW : WF E) (hV : VA E an pl) (hS : SnC h b Y) (h30 : 30 ≤ b) (hn : Y 900 ≤ 40) (hw : WTn (E 2) Y (Y 900) 0 (Y 900)) : f_109 (some b) (some s) h = some (nI (sdM (fun d => vlT (lvS E an pl Y d) Y (Y 900) (Y 900 - 1)) 0 (E 2) 0), h) := by
  have w2 := hW.2.2.1
  obtain ⟨k7, _⟩ := spF hF hs
  obtain ⟨r1, hH, _⟩ := id hR
  obtain ⟨hk4, _, _, _, _, _, hints, _⟩ := id hH
  have b0 := hS.1.1
  have key : ∀ r i mk m, i + r = E 2 → mk < 1024 → l_109_4 (r + 1 + m) (some b) (some s) (nI mk) (nI i) h = some (nI (sdM (fun d => vlT (lvS E an pl Y d) Y (Y 900) (Y 900 - 1)) i r mk), h) := by
    intro r
    induction r with
    | zero =>
      intro i mk m hi hm
      rw [Nat.zero_add, Nat.add_comm 1 m, l_109_4, b_109_4, gQ_e k7, Option.bind_some, r1, gI_e hk4, Option.bind_some, hints.2.2.1, if_pos (by rw [nI_leI (by omega) (by omega)]; omega), b_109_40]
      rfl
    | succ r ih =>
      intro i mk m hi hm
      have st : sdM (fun d => vlT (lvS E an pl Y d) Y (Y 900) (Y 900 - 1)) i (r + 1) mk = sdM (fun d => vlT (lvS E an pl Y d) Y (Y 900) (Y 900 - 1)) (i + 1) r (mk ||| (if vlT (lvS E an pl Y i) Y (Y 900) (Y 900 - 1) = true then 2 ^ i else 0)) := rfl
      rw [st, show r + 1 + 1 + m = (r + 1 + m) + 1 by omega, l_109_4, b_109_4, gQ_e k7, Option.bind_some, r1, gI_e hk4, Option.bind_some, hints.2.2.1, if_neg (by rw [nI_leI (by omega) (by omega)]; omega), b_109_15, rC_e b0 h30, grd_e, Option.bind_some, s_110 hF hs hR hW hV hS h30 (by omega) hn hw, Option.bind_some]
      dsimp only
      cases vlT (lvS E an pl Y i) Y (Y 900) (Y 900 - 1)
      · rw [if_pos (show bI false = 0 from rfl), b_109_31, b_109_32, fa_or, bnd_e, bnd_e, nI_add, if_neg (by decide)]
        exact ih (i + 1) _ m (by omega) (by rw [Nat.or_zero]; exact hm)
      · rw [if_neg (show ¬ bI true = 0 by decide), b_109_25, b_109_32, nI_1shl (by omega), fa_or, bnd_e, bnd_e, nI_add, if_pos rfl]
        exact ih (i + 1) _ m (by omega) (or_lt (k := 10) hm (pw_lt (by omega)))
  obtain ⟨m, hm⟩ := FU_ge (E 2 + 1) (by omega)
  rw [f_109, b_109_0, bnd_e, bnd_e, hm]
  exact key (E 2) 0 0 m (by omega) (by omega)
end SAIDC
