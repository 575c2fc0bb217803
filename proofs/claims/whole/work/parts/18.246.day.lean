/-! minutes and acts of a day: o is 0 for waiting, else one more than the act -/
def oI (o : Nat) : Int32 := mI o
def kn (E an : Nat → Nat) (pl o : Nat) : Nat := if o = 0 then 0 else knkK E an pl (o - 1)
def pa (an : Nat → Nat) (o : Nat) : Nat → Nat := if o = 0 then an else prA an (o - 1)
def pp (pl o : Nat) : Nat := if o = 0 then pl else prP pl (o - 1)
def mnA (E an : Nat → Nat) (pl o : Nat) : Nat → Nat := (bl E (pa an o) (pp pl o) (E 3)).1
def mnN (E an : Nat → Nat) (pl o : Nat) : Nat := (bl E (pa an o) (pp pl o) (E 3)).2
section DAY
variable {τ : Nat → Nat} {s : Nat} {E an : Nat → Nat} {pl : Nat} {h : Hp}
theorem VA.pr {A : Nat} (hW : WF E) (hV : VA E an pl) (hA : A < 4 + 2 * E 2) (hk : knkK E an pl A = 0) : VA E (prA an A) (prP pl A) := by
  unfold prA prP
  unfold knkK at hk
  have c : pl ≠ 0 := fun z => by rw [if_pos z] at hk; omega
  rw [if_neg c] at hk
  by_cases c4 : A < 4
  · rw [if_pos c4] at hk
    simp only [if_pos c4]
    have wk : wkB E (tgt pl A) = true := by
      unfold stepK at hk
      cases hw : wkB E (tgt pl A)
      · rw [hw, if_pos rfl] at hk; omega
      · rfl
    have b := wkB_in ⟨hW.1, hW.2.1⟩ wk
    have cl : cN (tgt pl A) < 100 := cN_lt (x := (tgt pl A).1) (y := (tgt pl A).2) b
    exact ⟨hV.1, hV.2.1, hV.2.2.1, by omega⟩
  · rw [if_neg c4] at hk
    simp only [if_neg c4]
    have hd : dA A < E 2 := by unfold dA; omega
    have nr : nearB E an pl (dA A) = true := by
      cases hq : nearB E an pl (dA A)
      · rw [hq, if_neg (by decide)] at hk; omega
      · rfl
    rw [nr, if_pos rfl] at hk
    unfold swK at hk
    by_cases cz : nxA an A < 0 ∨ 3 ≤ nxA an A
    · rw [if_pos cz] at hk; omega
    · rw [if_neg cz] at hk
      exact hV.up hd (by omega) hk
theorem VA.pas {o : Nat} (hW : WF E) (hV : VA E an pl) (ho : o < 5 + 2 * E 2) (hk : kn E an pl o = 0) : VA E (pa an o) (pp pl o) := by
  unfold pa pp
  unfold kn at hk
  by_cases c : o = 0
  · simp only [if_pos c]; exact hV
  · rw [if_neg c] at hk
    simp only [if_neg c]
    exact hV.pr hW (by omega) hk
theorem VA.mn {o : Nat} (hW : WF E) (hV : VA E an pl) (ho : o < 5 + 2 * E 2) (hk : kn E an pl o = 0) : VA E (mnA E an pl o) (pp pl o) := bl_VA hW (hV.pas hW ho hk) (E 3) (Nat.le_refl _)
theorem kn_lt {o : Nat} : kn E an pl o < 10 := by
  unfold kn knkK stepK swK hndK
  repeat' split
  all_goals omega
/-- the reference's minute -/
theorem s_261 {o n0 : Nat} (hF : Fix h) (hM : MS h E an pl) (hW : WF E) (hV : VA E an pl) (ho : o < 5 + 2 * E 2) (hn : hI h 64 46 = nI n0) :
    ∃ g, f_261 (some 64) (mI o) h = some (nI (kn E an pl o), g) ∧ Fz [46000064, 47000064, 87, 27000064, 74, 75, 88] h g ∧ (kn E an pl o = 0 → MS g E (mnA E an pl o) (pp pl o) ∧ hI g 64 46 = nI (n0 + mnN E an pl o)) ∧ (kn E an pl o ≠ 0 → MS g E an pl ∧ hI g 64 46 = nI n0) := by
  have b1 := kn_lt (E := E) (an := an) (pl := pl) (o := o)
  -- the try
  have tr : ∃ k1, f_259 (some 64) (mI o) h = some (nI (kn E an pl o), k1) ∧ Fz [46000064, 87, 27000064, 74, 75, 88] h k1 ∧ (kn E an pl o = 0 → MS k1 E (pa an o) (pp pl o)) ∧ (kn E an pl o ≠ 0 → MS k1 E an pl) := by
    by_cases c : o = 0
    · subst c
      exact ⟨h, s_259w, Fz.rfl', fun _ => hM, fun z => absurd rfl z⟩
    · obtain ⟨k1, a1, a2, a3, a4⟩ := s_259 (A := o - 1) hF hM hW hV (by omega)
      unfold kn pa pp
      simp only [if_neg c]
      rw [mI_pos c]
      exact ⟨k1, a1, a2, fun z => (a3 z).1, a4⟩
  obtain ⟨k1, a1, a2, a3, a4⟩ := tr
  have hF1 := a2.fix hF (by decide)
  have hn1 : hI k1 64 46 = nI n0 := by rw [a2.I1 (by decide) (by decide)]; exact hn
  by_cases c0 : kn E an pl o = 0
  · obtain ⟨k2, e1, e2, e3, e4, e5⟩ := s_260 hF1 (a3 c0) hW (hV.pas hW ho c0) hn1
    refine ⟨k2, ?_, (a2.wid (by intro z hz; simp only [List.mem_cons, List.not_mem_nil, or_false] at hz ⊢; omega)).then (e2.wid (by intro z hz; simp only [List.mem_cons, List.not_mem_nil, or_false] at hz ⊢; omega)), fun _ => ⟨e3, e4⟩, fun z => absurd c0 z⟩
    repeat ((first | rw [f_261] | rw [b_261_0] | rw [b_261_10] | rw [b_261_15]) <;> try simp (disch := first | assumption | (repeat' (first | apply fx_sI | apply fx_sJ | assumption | omega))) only [↓reduceIte, Option.bind_some, bnd_e, grd_e, grd0, grd1, bnd_e, grd_e, grd0, grd1, Option.bind_some, Option.isSome_some, gQ30_0, gQ30_1, gQ30_2, gQ30_3, gQ30_4, gQ30_5, gQ30_6, gQ30_7, gQ30_8, gQ30_9, gQ31_0, gQ33_0, gQ33_1, gQ36_0, gQ36_1, gQ39_0, gQ39_3, gQ39_4, gQ39_6, gQ39_8, gQ39_10, gQ39_11, gQ39_12, gQ48_0, gQ48_1, gQ51_2, gQ53_0, gQ53_1, gQ60_0, gQ60_1, gQ60_2, gQ64_1, gQ64_14, gQ64_15, gQ64_16, gQ64_17, gQ64_18, gQ64_19, gQ64_20, gQ64_21, gQ64_24, gQ64_25, gQ64_27, gQ64_28, gQ64_29, gQ64_30, gQ64_31, gQ64_34, gQ64_35, gQ64_36, gQ64_39, gQ64_40, gQ64_41, gQ64_43, gQ64_44, gQ64_48, gQ64_50, gQ64_51, gQ64_52, gQ64_53, gQ64_54, gQ64_58, gQ64_59, gI30, gJ30, pI30, pJ30, rC30, gI31, gJ31, pI31, pJ31, rC31, gI33, gJ33, pI33, pJ33, rC33, gI36, gJ36, pI36, pJ36, rC36, gI39, gJ39, pI39, pJ39, rC39, gI48, gJ48, pI48, pJ48, rC48, gI51, gJ51, pI51, pJ51, rC51, gI53, gJ53, pI53, pJ53, rC53, gI60, gJ60, pI60, pJ60, rC60, gI64, gJ64, pI64, pJ64, rC64, hF, hF1, a1, c0, nI00, not_true, e1])
  · refine ⟨k1, ?_, a2.wid (by intro z hz; simp only [List.mem_cons, List.not_mem_nil, or_false] at hz ⊢; omega), fun z => absurd z c0, fun _ => ⟨a4 c0, hn1⟩⟩
    repeat ((first | rw [f_261] | rw [b_261_0] | rw [b_261_10] | rw [b_261_15]) <;> try simp (disch := first | assumption | (repeat' (first | apply fx_sI | apply fx_sJ | assumption | omega))) only [↓reduceIte, Option.bind_some, bnd_e, grd_e, grd0, grd1, bnd_e, grd_e, grd0, grd1, Option.bind_some, Option.isSome_some, gQ30_0, gQ30_1, gQ30_2, gQ30_3, gQ30_4, gQ30_5, gQ30_6, gQ30_7, gQ30_8, gQ30_9, gQ31_0, gQ33_0, gQ33_1, gQ36_0, gQ36_1, gQ39_0, gQ39_3, gQ39_4, gQ39_6, gQ39_8, gQ39_10, gQ39_11, gQ39_12, gQ48_0, gQ48_1, gQ51_2, gQ53_0, gQ53_1, gQ60_0, gQ60_1, gQ60_2, gQ64_1, gQ64_14, gQ64_15, gQ64_16, gQ64_17, gQ64_18, gQ64_19, gQ64_20, gQ64_21, gQ64_24, gQ64_25, gQ64_27, gQ64_28, gQ64_29, gQ64_30, gQ64_31, gQ64_34, gQ64_35, gQ64_36, gQ64_39, gQ64_40, gQ64_41, gQ64_43, gQ64_44, gQ64_48, gQ64_50, gQ64_51, gQ64_52, gQ64_53, gQ64_54, gQ64_58, gQ64_59, gI30, gJ30, pI30, pJ30, rC30, gI31, gJ31, pI31, pJ31, rC31, gI33, gJ33, pI33, pJ33, rC33, gI36, gJ36, pI36, pJ36, rC36, gI39, gJ39, pI39, pJ39, rC39, gI48, gJ48, pI48, pJ48, rC48, gI51, gJ51, pI51, pJ51, rC51, gI53, gJ53, pI53, pJ53, rC53, gI60, gJ60, pI60, pJ60, rC60, gI64, gJ64, pI64, pJ64, rC64, hF, a1, nI_eq0 (show kn E an pl o < 2147483648 by omega), c0, not_false_eq_true])
/-- the class: an act done and the minute's end -/
theorem c_90 {o : Nat} (hF : Fix h) (hs : SP s) (hS : ScR τ h s E an pl) (hW : WF E) (hV : VA E an pl) (ho : o < 5 + 2 * E 2) : f_90 (some s) (mI o) h = some (nI (kn E an pl o), h) := by
  unfold kn
  by_cases c : o = 0
  · rw [c, if_pos rfl]; exact s_90w
  · rw [if_neg c, mI_pos c]; exact s_90 hF hs hS hW hV.1 hV.2.2.2 (by omega)
theorem c_94 {o : Nat} (hF : Fix h) (hT : TG τ) (hs : SP s) (hS : ScR τ h s E an pl) (hW : WF E) (hV : VA E an pl) (ho : o < 5 + 2 * E 2) (hk : kn E an pl o = 0) :
    ∃ g, f_94 (some s) (mI o) h = some g ∧ Fz [s + 2, 4000000 + s] h g ∧ ScR τ g s E (pa an o) (pp pl o) := by
  unfold kn at hk
  unfold pa pp
  by_cases c : o = 0
  · simp only [if_pos c]
    rw [c]
    exact ⟨h, s_94w, Fz.rfl', hS⟩
  · simp only [if_neg c]
    rw [if_neg c] at hk
    rw [mI_pos c]
    obtain ⟨g, a1, a2, a3, _⟩ := s_94 hF hT hs hS hW hV.1 hV.2.2.2 (show o - 1 < 4 + 2 * E 2 by omega) hk
    exact ⟨g, a1, a2, a3⟩
theorem c_95 {o : Nat} (hF : Fix h) (hT : TG τ) (hs : SP s) (hS : ScR τ h s E (pa an o) (pp pl o)) (hW : WF E) (hV : VA E an pl) (ho : o < 5 + 2 * E 2) (hk : kn E an pl o = 0) :
    ∃ g, f_95 (some s) h = some (nI (mnN E an pl o), g) ∧ Fz [s + 2] h g ∧ ScR τ g s E (mnA E an pl o) (pp pl o) := by
  have hV1 := hV.pas hW ho hk
  obtain ⟨g, a1, a2, a3, _⟩ := s_95 hF hT hs hS hW hV1.1 hV1.2.2.2
  exact ⟨g, a1, a2, a3⟩
/-- whether what an act wants is so -/
def soB (E an : Nat → Nat) (o : Nat) : Bool := decide (5 ≤ o ∧ lkZ E an (o - 1) = 0)
theorem c_96 {o : Nat} (hF : Fix h) (hs : SP s) (hS : ScR τ h s E an pl) (hW : WF E) (hV : VA E an pl) (ho : o < 5 + 2 * E 2) : f_96 (some s) (mI o) h = some (bI (soB E an o), h) := by
  unfold soB
  by_cases c : o = 0
  · rw [c, bI_F (by omega)]; exact s_96w
  · rw [mI_pos c, s_96 hF hs hS hW hV.1 (by omega)]
    congr 3
    by_cases e : 5 ≤ o ∧ lkZ E an (o - 1) = 0
    · rw [decide_eq_true e, decide_eq_true ⟨by omega, e.2⟩]
    · rw [decide_eq_false e, decide_eq_false (fun z => e ⟨by omega, z.2⟩)]
end DAY
