/-! scenes: knocks, acts, draughts -/
section SC3
variable {τ : Nat → Nat} {h : Hp} {s : Nat} {E an : Nat → Nat} {pl : Nat}
theorem s_92 {d : Nat} {z : Int} (hF : Fix h) (hs : SP s) (hS : ScR τ h s E an pl) (hW : WF E) (h3 : ∀ d, d < E 2 → an d < 3) (hp : pl ≤ 100) (hd : d < E 2) (hz : -10 < z ∧ z < 10) : f_92 (some s) (nI d) (zI z) h = some (nI (swK E an pl d z), h) := by
  unfold swK
  by_cases c : z < 0 ∨ 3 ≤ z
  · rw [if_pos c]
    have e0 : zI z < 0 ↔ z < 0 := by rw [zI_0]; exact zI_lt (by omega) (by omega) (by omega) (by omega)
    have e3 : zI z < nI 3 ↔ z < 3 := by rw [nz 3]; exact zI_lt (by omega) (by omega) (by omega) (by omega)
    simp only [f_92, b_92_0, b_92_4, b_92_9, b_92_11, b_92_33, b_92_36, b_92_45, b_92_50, b_92_51, ↓reduceIte, e0, e3]
    by_cases c0 : z < 0
    · simp [c0]
    · simp [c0, show ¬ z < 3 by omega]
  · rw [if_neg c]
    obtain ⟨a, rfl⟩ : ∃ a : Nat, z = (a : Int) := ⟨z.toNat, by omega⟩
    have ha : a < 3 := by omega
    rw [Int.toNat_natCast, zI_nat]
    have e93 := s_93 hF hs hS hW h3 hp hd ha
    obtain ⟨q0, q1, q2, q3, q4, q5, q6, q7⟩ := spF hF hs
    obtain ⟨p0, hH, p1, p2⟩ := hS
    have hd2 := hH.dr hd
    obtain ⟨k, ge, t, a0, a1, a2, ⟨f0, f1, f2, f3, f4⟩, hcl, _, hw⟩ := hH
    have w2 := hW.2.2.1
    have hg := hW.hg hd
    have hp1 := p1 d hd
    have n0 : ¬ nI a < 0 := nI_pos (by omega)
    simp (disch := first | assumption | (repeat' (first | apply fx_sI | apply fx_sJ | assumption | omega))) only [f_92, b_92_0, b_92_4, b_92_9, b_92_11, b_92_33, b_92_36, b_92_45, b_92_50, b_92_51, ↓reduceIte, n0, nI_ltI, ha, gQ_e q0, gQ_e k, p0, q1, a1.1, aQ_n a1.2.1 (show 15 ≤ 16 ∧ 16 ≤ 18 by omega) a1.2.2.1, hd2.1, Option.bind_some, aI_n q3 q4, hp1.1, rC_e hd2.2.1 hd2.2.2.1, grd_e, s_12 hd2.2 hg ha, bI_0', rC_e q0 q7, e93]
    unfold hndK
    cases canB E d (dHg E d) a <;> cases blkB E an pl d a <;> rfl
theorem s_99 {A : Nat} (hA : 4 ≤ A) (hA2 : A < 1000) : f_99 (nI A) h = some (nI (dA A), h) := by
  simp (disch := first | assumption | (repeat' (first | apply fx_sI | apply fx_sJ | assumption | omega))) only [f_99, b_99_0, ↓reduceIte, d2, grd_e, Option.bind_some, pk_sub, pk_div]
  rfl
theorem s_98 {A : Nat} (hF : Fix h) (hs : SP s) (hS : ScR τ h s E an pl) (hW : WF E) (hA : 4 ≤ A) (hA2 : dA A < E 2) : f_98 (some s) (nI A) h = some (zI (nxA an A), h) := by
  obtain ⟨q0, q1, q2, q3, q4, q5, q6, q7⟩ := spF hF hs
  obtain ⟨p0, hH, p1, p2⟩ := hS
  have w2 := hW.2.2.1
  have hA3 : A < 1000 := by unfold dA at hA2; omega
  simp (disch := first | assumption | (repeat' (first | apply fx_sI | apply fx_sJ | assumption | omega))) only [f_98, b_98_0, b_98_15, b_98_19, b_98_20, ↓reduceIte, gQ_e q0, q2, Option.bind_some, s_99 hA hA3, aI_n q5 q6, (p1 _ hA2).2, d2, grd_e, ↓pk_rem]
  unfold nxA
  rcases (show A % 2 = 0 ∨ A % 2 = 1 by omega) with o | o
  · rw [o, if_neg (by decide), if_pos rfl, nz, nz, zI_add]; rfl
  · rw [o, if_pos (by decide), if_neg (by decide), nz, zI_neg1, zI_add]
theorem s_90 {A : Nat} (hF : Fix h) (hs : SP s) (hS : ScR τ h s E an pl) (hW : WF E) (h3 : ∀ d, d < E 2 → an d < 3) (hp : pl ≤ 100) (hA : A < 4 + 2 * E 2) : f_90 (some s) (nI A) h = some (nI (knkK E an pl A), h) := by
  obtain ⟨q0, q1, q2, q3, q4, q5, q6, q7⟩ := spF hF hs
  have hS' := hS
  obtain ⟨p0, hH, p1, p2⟩ := hS'
  have w2 := hW.2.2.1
  have nm : ¬ nI A = (-1 : Int32) := fun z => by
    have := congrArg Int32.toInt z
    rw [toI_nI (by omega), toI_m1] at this
    omega
  unfold knkK
  by_cases c : pl = 0
  · subst c
    have n0 : ¬ 0 ≤ mI 0 := by decide
    simp (disch := first | assumption | (repeat' (first | apply fx_sI | apply fx_sJ | assumption | omega))) only [f_90, b_90_0, b_90_5, b_90_7, b_90_14, b_90_16, b_90_21, b_90_27, b_90_38, b_90_54, b_90_55, ↓reduceIte, nm, not_false_eq_true, gI_e q0, p2, Option.bind_some, n0]
  · rw [mI_pos c] at p2
    have n0 : 0 ≤ nI (pl - 1) := nI_pos' (by omega)
    rw [if_neg c]
    by_cases c4 : A < 4
    · rw [if_pos c4]
      simp (disch := first | assumption | (repeat' (first | apply fx_sI | apply fx_sJ | assumption | omega))) only [f_90, b_90_0, b_90_5, b_90_7, b_90_14, b_90_16, b_90_21, b_90_27, b_90_38, b_90_54, b_90_55, ↓reduceIte, nm, not_false_eq_true, gI_e q0, p2, Option.bind_some, n0, nI_leI, show ¬ 4 ≤ A by omega, rC_e q0 q7, grd_e, s_91 hF hs hS hW h3 hp c c4]
    · rw [if_neg c4]
      have hd : dA A < E 2 := by unfold dA; omega
      have hz : -10 < nxA an A ∧ nxA an A < 10 := by
        have := h3 _ hd
        unfold nxA
        split <;> omega
      simp (disch := first | assumption | (repeat' (first | apply fx_sI | apply fx_sJ | assumption | omega))) only [f_90, b_90_0, b_90_5, b_90_7, b_90_14, b_90_16, b_90_21, b_90_27, b_90_38, b_90_54, b_90_55, ↓reduceIte, nm, not_false_eq_true, gI_e q0, p2, Option.bind_some, n0, nI_leI, show 4 ≤ A by omega, rC_e q0 q7, grd_e, s_99 (show 4 ≤ A by omega) (show A < 1000 by omega), s_87 hF hs hS hW h3 hp hd, bI_0', s_98 hF hs hS hW (show 4 ≤ A by omega) hd, s_92 hF hs hS hW h3 hp hd hz]
      cases nearB E an pl (dA A) <;> rfl
theorem s_90w : f_90 (some s) (-1) h = some (nI 0, h) := by
  simp only [f_90, b_90_0, b_90_5, b_90_7, b_90_14, b_90_16, b_90_21, b_90_27, b_90_38, b_90_54, b_90_55, ↓reduceIte, not_true, if_false]
theorem HoR.cg {g : Hp} {a : Nat} (hH : HoR τ h a E) (hK' : hK g = hK h) (hL' : hL g = hL h) (hQ' : hQ g = hQ h) (ht : ∀ p, τ p = 1 → hI g p = hI h p ∧ hJ g p = hJ h p) : HoR τ g a E := by
  have rqe : ∀ p k, rq g p k = rq h p k := fun p k => by unfold rq; rw [hQ']
  have art : ∀ p k ar n, ArT τ h p k ar n → ArT τ g p k ar n := fun p k ar n z => by unfold ArT; rw [rqe, hQ', hK', hL']; exact z
  obtain ⟨k, ge, t, a0, a1, a2, f, hc, hd, hw⟩ := hH
  refine ⟨by rw [hK']; exact k, ge, t, art _ _ _ _ a0, art _ _ _ _ a1, art _ _ _ _ a2, by rw [(ht a t).1]; exact f, fun c hc' => ?_, fun d hd' => ?_, fun i hi => ?_⟩
  · rw [rqe, (ht _ a0.2.2.2.2).1]; exact hc c hc'
  · rw [rqe, rqe, hQ']
    refine ⟨(hd d hd').1, ?_⟩
    obtain ⟨dk, dge, dt, b0, b1, b2, b3, b4, f', m1, m2⟩ := (hd d hd').2
    refine ⟨by rw [hK']; exact dk, dge, dt, art _ _ _ _ b0, art _ _ _ _ b1, art _ _ _ _ b2, art _ _ _ _ b3, art _ _ _ _ b4, by rw [(ht _ dt).1]; exact f', fun g' a' hg ha => ?_, fun g' hg => ?_⟩
    · rw [rqe, rqe, (ht _ b0.2.2.2.2).2, (ht _ b1.2.2.2.2).2]; exact m1 g' a' hg ha
    · rw [rqe, rqe, rqe, (ht _ b2.2.2.2.2).2, (ht _ b3.2.2.2.2).2, (ht _ b4.2.2.2.2).1]; exact m2 g' hg
  · rw [rqe, (ht _ a2.2.2.2.2).1]; exact hw i hi
/-- what is marked is none of the places that change: fixed places but the first house's; and below a million -/
def TG (τ : Nat → Nat) : Prop := ∀ p, τ p = 1 → (98 ≤ p ∨ (60 ≤ p ∧ p < 64)) ∧ p < 1000000
theorem TG.no {p q : Nat} (hT : TG τ) (hp : τ p = 1) (hq : q < 98) (hq2 : q < 60 ∨ 64 ≤ q) : p ≠ q := by
  have := (hT p hp).1
  omega
theorem ScR.cg {g : Hp} (hS : ScR τ h s E an pl) (hK' : hK g = hK h) (hL' : hL g = hL h) (hQ' : hQ g = hQ h) (ht : ∀ p, τ p = 1 → hI g p = hI h p ∧ hJ g p = hJ h p) {an' : Nat → Nat} {pl' : Nat} (e1 : ∀ d, d < E 2 → hI g (s + 1) d = hI h (s + 1) d) (e2 : ∀ d, d < E 2 → hI g (s + 2) d = nI (an' d)) (e3 : hI g s 3 = mI pl') : ScR τ g s E an' pl' := by
  obtain ⟨p0, hH, p1, p2⟩ := hS
  have rqe : rq g s 2 = rq h s 2 := by unfold rq; rw [hQ']
  refine ⟨by rw [hQ', rqe]; exact p0, by rw [rqe]; exact hH.cg hK' hL' hQ' ht, fun d hd => ⟨by rw [e1 d hd]; exact (p1 d hd).1, e2 d hd⟩, e3⟩
theorem tag_sI {a k : Nat} {x : Int32} (hT : TG τ) (ha : a < 60) : ∀ p, τ p = 1 → hI (sI h a k x) p = hI h p ∧ hJ (sI h a k x) p = hJ h p := by
  intro p hp
  refine ⟨?_, rfl⟩
  funext j
  rw [hI_sI, if_neg]
  rintro ⟨e, _⟩
  exact hT.no hp (show a < 98 by omega) (Or.inl ha) e
theorem ScR.up {d v : Nat} (hT : TG τ) (hs : SP s) (hS : ScR τ h s E an pl) : ScR τ (sI h (s + 2) d (nI v)) s E (upn an d v) pl := by
  have s60 : s + 2 < 60 := by unfold SP at hs; omega
  refine ScR.cg (g := sI h (s + 2) d (nI v)) hS rfl rfl rfl (tag_sI hT s60) (fun e _ => by rw [hI_sI, if_neg (by omega)]) (fun e he => ?_) (by rw [hI_sI, if_neg (by omega)]; exact hS.2.2.2)
  rw [hI_sI]
  unfold upn
  by_cases c : e = d
  · rw [if_pos ⟨rfl, c⟩, if_pos c]
  · rw [if_neg (fun z => c z.2), if_neg c]; exact (hS.2.2.1 e he).2
theorem ScR.mv {v : Nat} (hT : TG τ) (hs : SP s) (hS : ScR τ h s E an pl) : ScR τ (sI h s 3 (mI v)) s E an v := by
  have s60 : s < 60 := by unfold SP at hs; omega
  refine ScR.cg (g := sI h s 3 (mI v)) hS rfl rfl rfl (tag_sI hT s60) (fun e _ => by rw [hI_sI, if_neg (by omega)]) (fun e he => ?_) (by rw [hI_sI, if_pos ⟨rfl, rfl⟩])
  rw [hI_sI, if_neg (by omega)]; exact (hS.2.2.1 e he).2
theorem s_94 {A : Nat} (hF : Fix h) (hT : TG τ) (hs : SP s) (hS : ScR τ h s E an pl) (hW : WF E) (h3 : ∀ d, d < E 2 → an d < 3) (hp : pl ≤ 100) (hA : A < 4 + 2 * E 2) (hk : knkK E an pl A = 0) :
    ∃ g, f_94 (some s) (nI A) h = some g ∧ Fz [s + 2, 4000000 + s] h g ∧ ScR τ g s E (prA an A) (prP pl A) ∧ (∀ d, d < E 2 → prA an A d < 3) ∧ prP pl A ≤ 100 := by
  obtain ⟨q0, q1, q2, q3, q4, q5, q6, q7⟩ := spF hF hs
  have w2 := hW.2.2.1
  unfold prA prP
  unfold knkK at hk
  have c : pl ≠ 0 := fun z => by rw [if_pos z] at hk; omega
  rw [if_neg c] at hk
  by_cases c4 : A < 4
  · rw [if_pos c4] at hk
    simp only [if_pos c4]
    have wk : wkB E (tgt pl A) = true := by
      unfold stepK at hk
      cases hw : wkB E (tgt pl A)
      · rw [hw, if_pos rfl] at hk; omega
      · rfl
    have b := wkB_in ⟨hW.1, hW.2.1⟩ wk
    have st := bd_st hF c4
    have cl := cN_lt (x := (tgt pl A).1) (y := (tgt pl A).2) b
    have cl : cN (tgt pl A) < 100 := cl
    have e : nI (pl - 1) + (nI 10 * zI (stY A) + zI (stX A)) = mI (cN (tgt pl A) + 1) := by
      rw [mI_s, nz, nz, zI_mul, zI_add, zI_add, nz]
      congr 1
      unfold cN tgt
      unfold tgt at b
      dsimp only at b ⊢
      omega
    have p2 := hS.2.2.2
    rw [mI_pos c] at p2
    refine ⟨sI h s 3 (mI (cN (tgt pl A) + 1)), ?_, Fz.rfl'.sI (Or.inr (by simp)), hS.mv hT hs, h3, by omega⟩
    simp (disch := first | assumption | (repeat' (first | apply fx_sI | apply fx_sJ | assumption | omega))) only [f_94, b_94_0, b_94_5, b_94_22, b_94_26, b_94_49, ↓reduceIte, nI_ltI, c4, show ¬ nI A < 0 from nI_pos (by omega), gI_e q0, p2, Option.bind_some, st.1, st.2, pI_e q0 q7, e]
  · rw [if_neg c4] at hk
    simp only [if_neg c4]
    have hd : dA A < E 2 := by unfold dA; omega
    have nr : nearB E an pl (dA A) = true := by
      cases hq : nearB E an pl (dA A)
      · rw [hq, if_neg (by decide)] at hk; omega
      · rfl
    rw [nr, if_pos rfl] at hk
    have hz : 0 ≤ nxA an A ∧ nxA an A < 3 := by
      unfold swK at hk
      by_cases cz : nxA an A < 0 ∨ 3 ≤ nxA an A
      · rw [if_pos cz] at hk; omega
      · omega
    have ez : zI (nxA an A) = nI (nxA an A).toNat := zI_toNat hz.1
    refine ⟨sI h (s + 2) (dA A) (nI (nxA an A).toNat), ?_, Fz.rfl'.sI (Or.inl (by simp)), hS.up hT hs, fun d hd' => ?_, hp⟩
    · simp (disch := first | assumption | (repeat' (first | apply fx_sI | apply fx_sJ | assumption | omega))) only [f_94, b_94_0, b_94_5, b_94_22, b_94_26, b_94_49, ↓reduceIte, nI_ltI, c4, gQ_e q0, q2, Option.bind_some, s_99 (show 4 ≤ A by omega) (show A < 1000 by omega), rC_e q0 q7, grd_e, s_98 hF hs hS hW (show 4 ≤ A by omega) hd, ez, wI_n q5 (show 30 ≤ s + 2 by omega) q6]
    · unfold upn
      split
      · omega
      · exact h3 d hd'
theorem s_94w : f_94 (some s) (-1) h = some h := by
  have c1 : (-1 : Int32) < nI 4 := by decide
  have c2 : (-1 : Int32) < 0 := by decide
  simp only [f_94, b_94_0, b_94_5, b_94_22, b_94_26, b_94_49, ↓reduceIte, c1, c2]
end SC3
