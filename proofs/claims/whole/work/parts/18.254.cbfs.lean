/-! the class searches -/
/-- what the class holds of a search: its two rows stand at po and pq -/
def CB (h : Hp) (po pq : Nat) (S : (Nat → Nat) × (Nat → Nat) × Nat) : Prop := (hQ h 51 3 = some po ∧ hQ h 51 4 = some pq ∧ hK h po = 12 ∧ hL h po = 24300 ∧ hK h pq = 12 ∧ hL h pq = 24300 ∧ 98 ≤ po ∧ 98 ≤ pq ∧ po ≠ pq ∧ po < 1000000 ∧ pq < 1000000) ∧ (∀ st, st < 24300 → hI h po st = nI (S.1 st)) ∧ (∀ i, i < S.2.2 → hI h pq i = nI (S.2.1 i)) ∧ hI h 51 5 = nI S.2.2
section CBFS
variable {τ : Nat → Nat} {E : Nat → Nat} {S : (Nat → Nat) × (Nat → Nat) × Nat} {po pq : Nat}
theorem CB.cg {h g : Hp} (hC : CB h po pq S) (hz : Fz [55, 4000053] h g) : CB g po pq S := by
  obtain ⟨⟨a1, a2, a3, a4, a5, a6, a7, a8, a9, a10, a11⟩, b, c, d⟩ := hC
  refine ⟨⟨by rw [hz.Q]; exact a1, by rw [hz.Q]; exact a2, by rw [hz.K]; exact a3, by rw [hz.L]; exact a4, by rw [hz.K]; exact a5, by rw [hz.L]; exact a6, a7, a8, a9, a10, a11⟩, fun st hst => ?_, fun i hi => ?_, ?_⟩
  · rw [hz.I (a := po) (by intro z hz; simp only [List.mem_cons, List.not_mem_nil, or_false] at hz; omega)]; exact b st hst
  · rw [hz.I (a := pq) (by intro z hz; simp only [List.mem_cons, List.not_mem_nil, or_false] at hz; omega)]; exact c i hi
  · rw [hz.I1 (by decide) (by decide)]; exact d
theorem Fz.tag2 {Z : List Nat} {h g : Hp} (hz : Fz Z h g) (hT : TG τ) (hZ : ∀ z, z ∈ Z → τ (z % 1000000) ≠ 1) : ∀ p, τ p = 1 → hI g p = hI h p ∧ hJ g p = hJ h p := by
  intro p hp
  have h1 := hT p hp
  have no : ∀ z, z ∈ Z → z % 1000000 ≠ p := fun z hz' e => hZ z hz' (by rw [e]; exact hp)
  exact ⟨hz.I no h1.2, hz.J no h1.2⟩
theorem s_74 {h : Hp} {st v : Nat} (hF : Fix h) (hC : CB h po pq S) (hst : st < 24300) (ht : S.1 st = 0 → S.2.2 < 24300) (hb : S.1 st < 1000000) : ∃ g, f_74 (some 51) (nI st) (nI v) h = some g ∧ Fz [po, pq, 6000051] h g ∧ CB g po pq (seeS S st v) := by
  have hC' := hC
  obtain ⟨⟨a1, a2, a3, a4, a5, a6, a7, a8, a9, a10, a11⟩, b, c, d⟩ := hC'
  have k51 := K51 hF
  unfold seeS
  by_cases e : S.1 st = 0
  · rw [if_pos e]
    have ht := ht e
    have hb0 : hI h po st = nI 0 := by rw [b st hst, e]
    have hF1 : Fix (sI h po st (nI v)) := fx_sI hF (by omega)
    have hF2 : Fix (sI (sI h po st (nI v)) pq S.2.2 (nI st)) := fx_sI hF1 (by omega)
    have v5 : hI (sI h po st (nI v)) 51 5 = nI S.2.2 := by rw [hI_sI, if_neg (by omega)]; exact d
    have v6 : hI (sI (sI h po st (nI v)) pq S.2.2 (nI st)) 51 5 = nI S.2.2 := by rw [hI_sI, if_neg (by omega)]; exact v5
    refine ⟨sI (sI (sI h po st (nI v)) pq S.2.2 (nI st)) 51 5 (nI (S.2.2 + 1)), ?_, Fz.sI (Fz.sI (Fz.sI Fz.rfl' (Or.inl (by simp))) (Or.inl (by simp))) (Or.inr (by simp)), ⟨⟨a1, a2, a3, a4, a5, a6, a7, a8, a9, a10, a11⟩, fun x hx => ?_, fun i hi => ?_, ?_⟩⟩
    · rw [f_74, b_74_0]
      simp (disch := first | assumption | (repeat' (first | apply fx_sI | apply fx_sJ | assumption | omega))) only [gQ_e k51, a1, Option.bind_some, aI_n a3 a4, hb0, nI00, not_true, if_false]
      rw [b_74_9]
      simp (disch := first | assumption | (repeat' (first | apply fx_sI | apply fx_sJ | assumption | omega))) only [gI_e k51, d, Option.bind_some, nI_leI, show ¬ 24300 ≤ S.2.2 by omega, if_false]
      rw [b_74_19]
      simp (disch := first | assumption | (repeat' (first | apply fx_sI | apply fx_sJ | assumption | omega))) only [gQ_e k51, a1, Option.bind_some, wI_n a3 (show 30 ≤ po by omega) a4, gQ_e (K51 hF1), hQ_sI, a2, gI_e (K51 hF1), v5, wI_n (h := sI h po st (nI v)) a5 (show 30 ≤ pq by omega) a6, gI_e (K51 hF2), v6, pI_e (K51 hF2) (show 30 ≤ 51 by omega), nI_add]
      rw [b_74_46]
    · show _ = nI (upn S.1 st v x)
      rw [hI_sI, if_neg (by omega), hI_sI, if_neg (by omega), hI_sI]
      unfold upn
      by_cases f : x = st
      · rw [if_pos ⟨rfl, f⟩, if_pos f]
      · rw [if_neg (fun z => f z.2), if_neg f]; exact b x hx
    · have hi : i < S.2.2 + 1 := hi
      show _ = nI (upn S.2.1 S.2.2 st i)
      rw [hI_sI, if_neg (by omega), hI_sI]
      unfold upn
      by_cases f : i = S.2.2
      · rw [if_pos ⟨rfl, f⟩, if_pos f]
      · rw [if_neg (fun z => f z.2), if_neg f, hI_sI, if_neg (by omega)]; exact c i (by omega)
    · rw [hI_sI, if_pos ⟨rfl, rfl⟩]
  · rw [if_neg e]
    refine ⟨h, ?_, Fz.rfl', hC⟩
    have nz0 : ¬ nI (S.1 st) = 0 := by rw [nI_eq0 (by omega)]; exact e
    rw [f_74, b_74_0]
    simp (disch := first | assumption | (repeat' (first | apply fx_sI | apply fx_sJ | assumption | omega))) only [gQ_e k51, a1, Option.bind_some, aI_n a3 a4, b st hst, nz0, not_false_eq_true, if_true]
    rw [b_74_46]
theorem QI.og (hQI : QI E S) : ∀ st, S.1 st < 1000000 := by
  intro st
  by_cases c : S.1 st = 0
  · omega
  · obtain ⟨i, hi, e⟩ := hQI.2.2.2.1 st c
    by_cases i0 : i = 0
    · have := hQI.2.1
      rw [← i0, e] at this
      omega
    · obtain ⟨j, A, h1, h2, h3⟩ := hQI.2.2.2.2.2 i (by omega) hi
      have := (hQI.2.2.1 j (by omega)).1
      rw [e] at h3
      omega
theorem QI.room {st : Nat} (hQI : QI E S) (hst : st < 24300) (hV : VA E (dcn E st) (st % 100 + 1)) (h0 : S.1 st = 0) : S.2.2 < 24300 := by
  have h1 := hQI.see (v := 2 + 16 * S.2.1 0 + 0) hst hV hQI.1 (show 0 < 16 by omega) rfl
  have h2 := h1.le
  unfold seeS at h2
  rw [if_pos h0] at h2
  have h2 : S.2.2 + 1 ≤ 24300 := h2
  omega
/-- one state's acts -/
theorem l_73 (hT : TG τ) (hpo : τ po ≠ 1) (hpq : τ pq ≠ 1) (ht : τ 53 ≠ 1 ∧ τ 55 ≠ 1 ∧ τ 51 ≠ 1) (hW : WF E) (h5 : E 2 ≤ 5) {st k : Nat} (hst : st < 24300) (hV : VA E (dcn E st) (st % 100 + 1)) : ∀ r A m h (S : (Nat → Nat) × (Nat → Nat) × Nat), A + r = 4 + 2 * E 2 → Fix h → CB h po pq S → QI E S → k < S.2.2 → S.2.1 k = st → ScR τ h 53 E (dcn E st) (st % 100 + 1) →
    ∃ g, l_73_22 (r + 1 + m) (some 51) (nI st) (nI (4 + 2 * E 2)) (nI A) h = some g ∧ Fz [po, pq, 6000051, 55, 4000053] h g ∧ CB g po pq (exS E st r A S) ∧ ScR τ g 53 E (dcn E st) (st % 100 + 1) := by
  intro r
  induction r with
  | zero =>
    intro A m h S hA hF hC hQI hk hs hS
    obtain rfl : A = 4 + 2 * E 2 := by omega
    refine ⟨h, ?_, Fz.rfl', hC, hS⟩
    rw [show 0 + 1 + m = m + 1 by omega, l_73_22, b_73_22, if_pos (Int32.le_refl _), b_73_81]
  | succ r ih =>
    intro A m h S hA hF hC hQI hk hs hS
    have es : exS E st (r + 1) A S = exS E st r (A + 1) (if nxK E st A = 0 then seeS S (nxS E st A) (2 + 16 * st + A) else S) := rfl
    have s53 : SP 53 := Or.inr (Or.inr rfl)
    have b := kn_lt (E := E) (an := dcn E st) (pl := st % 100 + 1) (o := A + 1)
    have e90 := c_90 (o := A + 1) hF s53 hS hW hV (by omega)
    rw [mI_s] at e90
    rw [es, show r + 1 + 1 + m = (r + 1 + m) + 1 by omega, l_73_22, b_73_22, if_neg (by rw [nI_leI (by omega) (by omega)]; omega), b_73_27]
    simp (disch := first | assumption | (repeat' (first | apply fx_sI | apply fx_sJ | assumption | omega))) only [bnd_e, grd_e, grd0, grd1, Option.bind_some, Option.isSome_some, gQ30_0, gQ30_1, gQ30_2, gQ30_3, gQ30_4, gQ30_5, gQ30_6, gQ30_7, gQ30_8, gQ30_9, gQ31_0, gQ33_0, gQ33_1, gQ36_0, gQ36_1, gQ39_0, gQ39_3, gQ39_4, gQ39_6, gQ39_8, gQ39_10, gQ39_11, gQ39_12, gQ48_0, gQ48_1, gQ51_2, gQ53_0, gQ53_1, gQ60_0, gQ60_1, gQ60_2, gQ64_1, gQ64_14, gQ64_15, gQ64_16, gQ64_17, gQ64_18, gQ64_19, gQ64_20, gQ64_21, gQ64_24, gQ64_25, gQ64_27, gQ64_28, gQ64_29, gQ64_30, gQ64_31, gQ64_34, gQ64_35, gQ64_36, gQ64_39, gQ64_40, gQ64_41, gQ64_43, gQ64_44, gQ64_48, gQ64_50, gQ64_51, gQ64_52, gQ64_53, gQ64_54, gQ64_58, gQ64_59, gI30, gJ30, pI30, pJ30, rC30, gI31, gJ31, pI31, pJ31, rC31, gI33, gJ33, pI33, pJ33, rC33, gI36, gJ36, pI36, pJ36, rC36, gI39, gJ39, pI39, pJ39, rC39, gI48, gJ48, pI48, pJ48, rC48, gI51, gJ51, pI51, pJ51, rC51, gI53, gJ53, pI53, pJ53, rC53, gI60, gJ60, pI60, pJ60, rC60, gI64, gJ64, pI64, pJ64, rC64, hF, e90, nI_eq0 (show kn E (dcn E st) (st % 100 + 1) (A + 1) < 2147483648 by omega)]
    by_cases c : nxK E st A = 0
    · have c' : kn E (dcn E st) (st % 100 + 1) (A + 1) = 0 := c
      rw [if_pos c, if_neg (fun z => z c')]
      have ok := nx_ok hW h5 hV (show A < 4 + 2 * E 2 by omega) c
      obtain ⟨k1, a1, a2, a3⟩ := c_94 (o := A + 1) hF hT s53 hS hW hV (by omega) c'
      rw [mI_s] at a1
      have hF1 := a2.fix hF (by decide)
      obtain ⟨k2, b1, b2, b3⟩ := c_95 (o := A + 1) hF1 hT s53 a3 hW hV (by omega) c'
      have hF2 := b2.fix hF1 (by decide)
      have hVn := hV.mn hW (show A + 1 < 5 + 2 * E 2 by omega) c'
      have e75 := s_75 hF2 b3 (by omega) (pp_pos (by omega)) hVn.2.2.2
      have z2 : Fz [55, 4000053] h k2 := (a2.wid (by intro z hz; simp only [List.mem_cons, List.not_mem_nil, or_false] at hz ⊢; omega)).then (b2.wid (by intro z hz; simp only [List.mem_cons, List.not_mem_nil, or_false] at hz ⊢; omega))
      have hC2 := hC.cg z2
      obtain ⟨k3, d1, d2', d3'⟩ := s_74 (st := nxS E st A) (v := 2 + 16 * st + A) hF2 hC2 ok.1 (fun z => hQI.room ok.1 ok.2.1 z) (hQI.og _)
      obtain ⟨⟨_, _, _, _, _, _, p98, q98, _, pM, qM⟩, _⟩ := hC
      have hF3 := d2'.fix hF2 (by intro z hz; simp only [List.mem_cons, List.not_mem_nil, or_false] at hz; omega)
      have tg := d2'.tag2 hT (by
        intro z hz
        simp only [List.mem_cons, List.not_mem_nil, or_false] at hz
        rcases hz with rfl | rfl | rfl
        · rw [Nat.mod_eq_of_lt pM]; exact hpo
        · rw [Nat.mod_eq_of_lt qM]; exact hpq
        · exact ht.2.2)
      have i3 : ∀ a, a = 53 ∨ a = 54 ∨ a = 55 → hI k3 a = hI k2 a := fun a ha => d2'.I (a := a) (by intro z hz; simp only [List.mem_cons, List.not_mem_nil, or_false] at hz; omega) (by omega)
      have hS3 := b3.cg d2'.K d2'.L d2'.Q tg (fun d _ => by rw [i3 _ (Or.inr (Or.inl rfl))]) (fun d hd => by rw [i3 _ (Or.inr (Or.inr rfl))]; exact (b3.2.2.1 d hd).2) (by rw [i3 _ (Or.inl rfl)]; exact b3.2.2.2)
      obtain ⟨k4, f1, f2, f3⟩ := s_76 (st := st) hF3 hT hS3 (by omega) hst
      have hF4 := f2.fix hF3 (by decide)
      have hC4 := d3'.cg f2
      have m' := see_mono (S := S) (nxS E st A) (2 + 16 * st + A)
      obtain ⟨g, g1, g2, g3, g4⟩ := ih (A + 1) m k4 _ (by omega) hF4 hC4 (hQI.see ok.1 ok.2.1 hk (show A < 16 by omega) (by rw [hs])) (by omega) (by rw [m'.2 k hk]; exact hs) f3
      refine ⟨g, ?_, (((z2.wid (by intro z hz; simp only [List.mem_cons, List.not_mem_nil, or_false] at hz ⊢; omega)).then (d2'.wid (by intro z hz; simp only [List.mem_cons, List.not_mem_nil, or_false] at hz ⊢; omega))).then (f2.wid (by intro z hz; simp only [List.mem_cons, List.not_mem_nil, or_false] at hz ⊢; omega))).then g2, g3, g4⟩
      have ev : nI 2 + nI 16 * nI st + nI A = nI (2 + 16 * st + A) := by rw [pk_mul, nI_add, nI_add]
      have d1' : f_74 (some 51) (nI (enc E (mnA E (dcn E st) (st % 100 + 1) (A + 1)) (pp (st % 100 + 1) (A + 1)))) (nI (2 + 16 * st + A)) k2 = some k3 := d1
      rw [b_73_38]
      simp (disch := first | assumption | (repeat' (first | apply fx_sI | apply fx_sJ | assumption | omega))) only [bnd_e, grd_e, grd0, grd1, Option.bind_some, Option.isSome_some, gQ30_0, gQ30_1, gQ30_2, gQ30_3, gQ30_4, gQ30_5, gQ30_6, gQ30_7, gQ30_8, gQ30_9, gQ31_0, gQ33_0, gQ33_1, gQ36_0, gQ36_1, gQ39_0, gQ39_3, gQ39_4, gQ39_6, gQ39_8, gQ39_10, gQ39_11, gQ39_12, gQ48_0, gQ48_1, gQ51_2, gQ53_0, gQ53_1, gQ60_0, gQ60_1, gQ60_2, gQ64_1, gQ64_14, gQ64_15, gQ64_16, gQ64_17, gQ64_18, gQ64_19, gQ64_20, gQ64_21, gQ64_24, gQ64_25, gQ64_27, gQ64_28, gQ64_29, gQ64_30, gQ64_31, gQ64_34, gQ64_35, gQ64_36, gQ64_39, gQ64_40, gQ64_41, gQ64_43, gQ64_44, gQ64_48, gQ64_50, gQ64_51, gQ64_52, gQ64_53, gQ64_54, gQ64_58, gQ64_59, gI30, gJ30, pI30, pJ30, rC30, gI31, gJ31, pI31, pJ31, rC31, gI33, gJ33, pI33, pJ33, rC33, gI36, gJ36, pI36, pJ36, rC36, gI39, gJ39, pI39, pJ39, rC39, gI48, gJ48, pI48, pJ48, rC48, gI51, gJ51, pI51, pJ51, rC51, gI53, gJ53, pI53, pJ53, rC53, gI60, gJ60, pI60, pJ60, rC60, gI64, gJ64, pI64, pJ64, rC64, hF, a1, hF1, b1, hF2, e75, ev, d1', hF3, f1]
      rw [b_73_75, bnd_e, nI_add]
      exact g1
    · have c' : ¬ kn E (dcn E st) (st % 100 + 1) (A + 1) = 0 := c
      rw [if_neg c, if_pos c']
      obtain ⟨g, g1, g2⟩ := ih (A + 1) m h S (by omega) hF hC hQI hk hs hS
      refine ⟨g, ?_, g2⟩
      rw [b_73_75, bnd_e, nI_add]
      exact g1
end CBFS
