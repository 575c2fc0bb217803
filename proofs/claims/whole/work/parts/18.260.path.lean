/-! the way that a search has found -/
def pLn (og : Nat → Nat) : Nat → Nat → Nat
  | 0, _ => 0
  | f + 1, st => if og st ≤ 1 then 0 else pLn og f ((og st - 2) / 16) + 1
def pAc (og : Nat → Nat) : Nat → Nat → Nat → Nat
  | 0, _ => fun _ => 0
  | f + 1, st => if og st ≤ 1 then fun _ => 0 else upn (pAc og f ((og st - 2) / 16)) (pLn og f ((og st - 2) / 16)) ((og st - 2) % 16)
section PATH
variable {E : Nat → Nat} {S : (Nat → Nat) × (Nat → Nat) × Nat} {po pq : Nat}
theorem QI.bk {i : Nat} (hQI : QI E S) (hi : i < S.2.2) : (S.1 (S.2.1 i) = 1) ∨ (∃ j A, j < i ∧ A < 16 ∧ S.1 (S.2.1 i) = 2 + 16 * S.2.1 j + A) := by
  by_cases c : i = 0
  · left; rw [c]; exact hQI.2.1
  · right; exact hQI.2.2.2.2.2 i (by omega) hi
theorem pLn_1 {f st : Nat} (h : S.1 st = 1) : pLn S.1 (f + 1) st = 0 := by
  show (if S.1 st ≤ 1 then 0 else _) = 0
  rw [if_pos (by omega)]
theorem pLn_s {f st A p : Nat} (hA : A < 16) (h : S.1 st = 2 + 16 * p + A) : pLn S.1 (f + 1) st = pLn S.1 f p + 1 := by
  show (if S.1 st ≤ 1 then 0 else _) = _
  rw [if_neg (by omega), show (S.1 st - 2) / 16 = p by omega]
theorem pAc_s {f st A p : Nat} (hA : A < 16) (h : S.1 st = 2 + 16 * p + A) : pAc S.1 (f + 1) st = upn (pAc S.1 f p) (pLn S.1 f p) A := by
  show (if S.1 st ≤ 1 then _ else _) = _
  rw [if_neg (by omega), show (S.1 st - 2) / 16 = p by omega, show (S.1 st - 2) % 16 = A by omega]
theorem pLn_le (hQI : QI E S) : ∀ f st i, i < S.2.2 → S.2.1 i = st → i < f → pLn S.1 f st ≤ i := by
  intro f
  induction f with
  | zero => intro st i _ _ h; omega
  | succ f ih =>
    intro st i hi hs hf
    rcases hQI.bk hi with h | ⟨j, A, h1, h2, h3⟩
    · rw [hs] at h; rw [pLn_1 h]; omega
    · rw [hs] at h3
      rw [pLn_s h2 h3]
      have := ih (S.2.1 j) j (by omega) rfl (by omega)
      omega
theorem pAc_lt (hQI : QI E S) : ∀ f st i, i < S.2.2 → S.2.1 i = st → i < f → ∀ t, pAc S.1 f st t < 16 := by
  intro f
  induction f with
  | zero => intro st i _ _ h; omega
  | succ f ih =>
    intro st i hi hs hf t
    rcases hQI.bk hi with h | ⟨j, A, h1, h2, h3⟩
    · rw [hs] at h
      show (if S.1 st ≤ 1 then fun _ => 0 else _ : Nat → Nat) t < 16
      rw [if_pos (by omega)]
      omega
    · rw [hs] at h3
      rw [pAc_s h2 h3]
      unfold upn
      split
      · exact h2
      · exact ih (S.2.1 j) j (by omega) rfl (by omega) t
theorem d16 : decide (¬ (nI 16 : Int32) = 0) = true := by decide
theorem s_77 {h : Hp} {st p A : Nat} (hF : Fix h) (hC : CB h po pq S) (hst : st < 24300) (hp : p < 24300) (hA : A < 16) (hs : S.1 st = 2 + 16 * p + A) : f_77 (some 51) (nI st) h = some (nI p, h) := by
  obtain ⟨⟨a1, a2, a3, a4, a5, a6, a7, a8, a9, a10, a11⟩, b, c, d⟩ := hC
  have e : nI (2 + 16 * p + A) - nI 1 - nI 1 = nI (16 * p + A) := by rw [pk_sub (by omega), pk_sub (by omega)]; congr 1; omega
  rw [f_77, b_77_0]
  simp (disch := first | assumption | (repeat' (first | apply fx_sI | apply fx_sJ | assumption | omega))) only [gQ_e (K51 hF), a1, Option.bind_some, aI_n a3 a4, b st hst, hs, d16, grd_e, e, pk_div]
  congr 3
  omega
theorem l_78 {h : Hp} (hF : Fix h) (hC : CB h po pq S) (hQI : QI E S) : ∀ f m n st i, i < S.2.2 → S.2.1 i = st → i < f → n + i < 24300 → l_78_4 (f + m) (some 51) (nI n) (nI st) h = some (nI (n + pLn S.1 f st), h) := by
  obtain ⟨⟨a1, a2, a3, a4, a5, a6, a7, a8, a9, a10, a11⟩, b, c, d⟩ := id hC
  intro f
  induction f with
  | zero => intro m n st i _ _ h; omega
  | succ f ih =>
    intro m n st i hi hs hf hn
    have hst := (hQI.2.2.1 i hi).1
    rw [hs] at hst
    rw [show f + 1 + m = (f + m) + 1 by omega, l_78_4, b_78_4, if_neg (by rw [nI_leI (by omega) (by omega)]; omega), b_78_11]
    simp (disch := first | assumption | (repeat' (first | apply fx_sI | apply fx_sJ | assumption | omega))) only [gQ_e (K51 hF), a1, Option.bind_some, aI_n a3 a4, b st hst]
    rcases hQI.bk hi with h1 | ⟨j, A, h1, h2, h3⟩
    · rw [hs] at h1
      rw [h1, if_pos rfl, b_78_33, pLn_1 h1]
      rfl
    · rw [hs] at h3
      have hj := (hQI.2.2.1 j (by omega)).1
      rw [if_neg (by rw [nI_eq (by omega) (by omega)]; omega), b_78_21]
      simp (disch := first | assumption | (repeat' (first | apply fx_sI | apply fx_sJ | assumption | omega))) only [bnd_e, grd_e, grd0, grd1, Option.bind_some, Option.isSome_some, gQ30_0, gQ30_1, gQ30_2, gQ30_3, gQ30_4, gQ30_5, gQ30_6, gQ30_7, gQ30_8, gQ30_9, gQ31_0, gQ33_0, gQ33_1, gQ36_0, gQ36_1, gQ39_0, gQ39_3, gQ39_4, gQ39_6, gQ39_8, gQ39_10, gQ39_11, gQ39_12, gQ48_0, gQ48_1, gQ51_2, gQ53_0, gQ53_1, gQ60_0, gQ60_1, gQ60_2, gQ64_1, gQ64_14, gQ64_15, gQ64_16, gQ64_17, gQ64_18, gQ64_19, gQ64_20, gQ64_21, gQ64_24, gQ64_25, gQ64_27, gQ64_28, gQ64_29, gQ64_30, gQ64_31, gQ64_34, gQ64_35, gQ64_36, gQ64_39, gQ64_40, gQ64_41, gQ64_43, gQ64_44, gQ64_48, gQ64_50, gQ64_51, gQ64_52, gQ64_53, gQ64_54, gQ64_58, gQ64_59, gI30, gJ30, pI30, pJ30, rC30, gI31, gJ31, pI31, pJ31, rC31, gI33, gJ33, pI33, pJ33, rC33, gI36, gJ36, pI36, pJ36, rC36, gI39, gJ39, pI39, pJ39, rC39, gI48, gJ48, pI48, pJ48, rC48, gI51, gJ51, pI51, pJ51, rC51, gI53, gJ53, pI53, pJ53, rC53, gI60, gJ60, pI60, pJ60, rC60, gI64, gJ64, pI64, pJ64, rC64, hF, s_77 hF hC hst hj h2 h3, nI_add]
      rw [ih m (n + 1) (S.2.1 j) j (by omega) rfl (by omega) (by omega), pLn_s h2 h3]
      congr 3
      omega
theorem s_78 {h : Hp} {st i : Nat} (hF : Fix h) (hC : CB h po pq S) (hQI : QI E S) (hi : i < S.2.2) (hs : S.2.1 i = st) : f_78 (some 51) (nI st) h = some (nI (pLn S.1 24300 st), h) := by
  obtain ⟨m, hm⟩ := FU_ge 24300 (by omega)
  have := hQI.le
  rw [f_78, b_78_0, bnd_e, hm, l_78 hF hC hQI 24300 m 0 st i hi hs (by omega) (by omega)]
  congr 3
  omega
/-- CB where the acts are written -/
theorem CB.cp {h g : Hp} {pw : Nat} (hC : CB h po pq S) (hz : Fz [pw] h g) (hw : pw ≠ po ∧ pw ≠ pq ∧ pw ≠ 51 ∧ pw < 1000000) : CB g po pq S := by
  obtain ⟨⟨a1, a2, a3, a4, a5, a6, a7, a8, a9, a10, a11⟩, b, c, d⟩ := hC
  refine ⟨⟨by rw [hz.Q]; exact a1, by rw [hz.Q]; exact a2, by rw [hz.K]; exact a3, by rw [hz.L]; exact a4, by rw [hz.K]; exact a5, by rw [hz.L]; exact a6, a7, a8, a9, a10, a11⟩, fun st hst => ?_, fun i hi => ?_, ?_⟩
  · rw [hz.I (a := po) (by intro z hz; simp only [List.mem_cons, List.not_mem_nil, or_false] at hz; omega)]; exact b st hst
  · rw [hz.I (a := pq) (by intro z hz; simp only [List.mem_cons, List.not_mem_nil, or_false] at hz; omega)]; exact c i hi
  · rw [hz.I (a := 51) (by intro z hz; simp only [List.mem_cons, List.not_mem_nil, or_false] at hz; omega)]; exact d
theorem l_79 {pw la : Nat} (hQI : QI E S) (hw : pw ≠ po ∧ pw ≠ pq ∧ pw ≠ 51 ∧ pw < 1000000 ∧ 30 ≤ pw) (hla : la ≤ 100000) : ∀ f m st i h, Fix h → CB h po pq S → hQ h 51 0 = some pw → hK h pw = 12 → hL h pw = la → i < S.2.2 → S.2.1 i = st → i < f → pLn S.1 f st ≤ la →
    ∃ g, l_79_40 (f + m) (some 51) (nI st) (nI (pLn S.1 f st) + (-1)) h = some g ∧ Fz [pw] h g ∧ (∀ t, t < pLn S.1 f st → hI g pw t = nI (pAc S.1 f st t)) ∧ (∀ t, pLn S.1 f st ≤ t → hI g pw t = hI h pw t) := by
  intro f
  induction f with
  | zero => intro m st i h _ _ _ _ _ _ _ h; omega
  | succ f ih =>
    intro m st i h hF hC hq hk hl hi hs hf hln
    obtain ⟨⟨a1, a2, a3, a4, a5, a6, a7, a8, a9, a10, a11⟩, b, c, d⟩ := id hC
    have hst := (hQI.2.2.1 i hi).1
    rw [hs] at hst
    rcases hQI.bk hi with h1 | ⟨j, A, h1, h2, h3⟩
    · rw [hs] at h1
      rw [pLn_1 h1]
      refine ⟨h, ?_, Fz.rfl', fun t ht => absurd ht (Nat.not_lt_zero t), fun t _ => rfl⟩
      rw [show f + 1 + m = (f + m) + 1 by omega, l_79_40, b_79_40, if_pos (by decide), b_79_75]
    · rw [hs] at h3
      have hj := (hQI.2.2.1 j (by omega)).1
      rw [pLn_s h2 h3] at hln ⊢
      rw [pAc_s h2 h3]
      generalize hp : pLn S.1 f (S.2.1 j) = p at *
      have ub : p ≤ j := by rw [← hp]; exact pLn_le hQI f _ j (by omega) rfl (by omega)
      have e1 : nI (p + 1) + (-1) = nI p := pk_m1 p
      have e2 : nI (2 + 16 * S.2.1 j + A) - nI 1 - nI 1 = nI (16 * S.2.1 j + A) := by rw [pk_sub (by omega), pk_sub (by omega)]; congr 1; omega
      have e3 : (16 * S.2.1 j + A) % 16 = A := by omega
      have z1 : Fz [pw] h (sI h pw p (nI A)) := Fz.sI Fz.rfl' (Or.inl (by simp))
      have hF1 : Fix (sI h pw p (nI A)) := fx_sI hF hw.2.2.2.2
      have hC1 := hC.cp z1 ⟨hw.1, hw.2.1, hw.2.2.1, hw.2.2.2.1⟩
      obtain ⟨g, b1, b2, b3, b4⟩ := ih m (S.2.1 j) j (sI h pw p (nI A)) hF1 hC1 hq hk hl (by omega) rfl (by omega) (by omega)
      rw [hp] at b1 b3 b4
      refine ⟨g, ?_, z1.then b2, fun t ht => ?_, fun t ht => ?_⟩
      · rw [show f + 1 + m = (f + m) + 1 by omega, e1, l_79_40, b_79_40, if_neg (nI_pos (by omega)), b_79_44]
        simp (disch := first | assumption | (repeat' (first | apply fx_sI | apply fx_sJ | assumption | omega))) only [gQ_e (K51 hF), hq, a1, Option.bind_some, aI_n a3 a4, b st hst, h3, d16, grd_e, e2, ↓pk_rem, e3, wI_n hk hw.2.2.2.2 hl, rC_e (K51 hF1) (show 30 ≤ 51 by omega), s_77 hF1 hC1 hst hj h2 h3, bnd_e]
        exact b1
      · unfold upn
        by_cases ct : t = p
        · rw [if_pos ct, ct, b4 p (Nat.le_refl _), hI_sI, if_pos ⟨rfl, rfl⟩]
        · rw [if_neg ct]; exact b3 t (by omega)
      · rw [b4 t (by omega), hI_sI, if_neg (by omega)]
/-- the row of acts of the class -/
def AR (h : Hp) (pw : Nat) : Prop := hQ h 51 0 = some pw ∧ hK h pw = 12 ∧ (pw = 52 ∨ 98 ≤ pw) ∧ pw < hN h ∧ hL h pw ≤ 100000
theorem s_79 {h : Hp} {st i pw : Nat} (hF : Fix h) (hCb : CB h po pq S) (hN1 : hN h + 1 < 1000000) (hpn : po < hN h ∧ pq < hN h) (hA : AR h pw) (hw : pw ≠ po ∧ pw ≠ pq) (hQI : QI E S) (hi : i < S.2.2) (hs : S.2.1 i = st) :
    ∃ g pw', f_79 (some 51) (nI st) h = some g ∧ Fa [1000051, 2000051, pw] h g ∧ AR g pw' ∧ (pw' = pw ∨ hN h ≤ pw') ∧ hI g 51 1 = nI (pLn S.1 24300 st) ∧ (∀ t, t < pLn S.1 24300 st → hI g pw' t = nI (pAc S.1 24300 st t)) ∧ pLn S.1 24300 st ≤ hL g pw' ∧ hN g ≤ hN h + 1 ∧ hC g ≤ hC h + 1 ∧ hS g ≤ hS h + 24300 := by
  obtain ⟨w1, w2, w3, w4, w5⟩ := id hA
  have n98 : 98 ≤ hN h := hF.1
  have cb := hCb.1
  have ql := hQI.le
  have lb := pLn_le hQI 24300 st i hi hs (by omega)
  have k51 := K51 hF
  obtain ⟨m, hm⟩ := FU_ge 24300 (by omega)
  generalize hp : pLn S.1 24300 st = p at *
  have hF1 : Fix (sI h 51 1 (nI p)) := fx_sI hF (by omega)
  have e78 : f_78 (some 51) (nI st) h = some (nI p, h) := by rw [s_78 hF hCb hQI hi hs, hp]
  have v1 : hI (sI h 51 1 (nI p)) 51 1 = nI p := by rw [hI_sI, if_pos ⟨rfl, rfl⟩]
  have hC1 : CB (sI h 51 1 (nI p)) po pq S := by
    obtain ⟨⟨a1, a2, a3, a4, a5, a6, a7, a8, a9, a10, a11⟩, b, c, d⟩ := hCb
    refine ⟨⟨a1, a2, a3, a4, a5, a6, a7, a8, a9, a10, a11⟩, fun x hx => ?_, fun x hx => ?_, ?_⟩
    · rw [hI_sI, if_neg (by omega)]; exact b x hx
    · rw [hI_sI, if_neg (by omega)]; exact c x hx
    · rw [hI_sI, if_neg (by omega)]; exact d
  have pe : nI p - nI 1 = nI p + (-1) := by rw [nz, nz, zI_neg1, zI_sub, zI_add]; rfl
  by_cases cl : p ≤ hL h pw
  · obtain ⟨g, b1, b2, b3, b4⟩ := l_79 (pw := pw) (la := hL h pw) hQI ⟨hw.1, hw.2, by omega, by omega, by omega⟩ w5 24300 m st i (sI h 51 1 (nI p)) hF1 hC1 w1 w2 rfl hi hs (by omega) (by omega)
    rw [hp] at b1 b3
    have N : hN g = hN h := b2.N
    refine ⟨g, pw, ?_, ?_, ⟨by rw [b2.Q]; exact w1, by rw [b2.K]; exact w2, w3, by omega, by rw [b2.L]; exact w5⟩, Or.inl rfl, ?_, b3, by rw [b2.L]; exact cl, by omega, by rw [b2.C, hC_sI]; omega, by rw [b2.S, hS_sI]; omega⟩
    · rw [f_79, b_79_0]
      simp (disch := first | assumption | (repeat' (first | apply fx_sI | apply fx_sJ | assumption | omega))) only [bnd_e, grd_e, grd0, grd1, Option.bind_some, Option.isSome_some, gQ30_0, gQ30_1, gQ30_2, gQ30_3, gQ30_4, gQ30_5, gQ30_6, gQ30_7, gQ30_8, gQ30_9, gQ31_0, gQ33_0, gQ33_1, gQ36_0, gQ36_1, gQ39_0, gQ39_3, gQ39_4, gQ39_6, gQ39_8, gQ39_10, gQ39_11, gQ39_12, gQ48_0, gQ48_1, gQ51_2, gQ53_0, gQ53_1, gQ60_0, gQ60_1, gQ60_2, gQ64_1, gQ64_14, gQ64_15, gQ64_16, gQ64_17, gQ64_18, gQ64_19, gQ64_20, gQ64_21, gQ64_24, gQ64_25, gQ64_27, gQ64_28, gQ64_29, gQ64_30, gQ64_31, gQ64_34, gQ64_35, gQ64_36, gQ64_39, gQ64_40, gQ64_41, gQ64_43, gQ64_44, gQ64_48, gQ64_50, gQ64_51, gQ64_52, gQ64_53, gQ64_54, gQ64_58, gQ64_59, gI30, gJ30, pI30, pJ30, rC30, gI31, gJ31, pI31, pJ31, rC31, gI33, gJ33, pI33, pJ33, rC33, gI36, gJ36, pI36, pJ36, rC36, gI39, gJ39, pI39, pJ39, rC39, gI48, gJ48, pI48, pJ48, rC48, gI51, gJ51, pI51, pJ51, rC51, gI53, gJ53, pI53, pJ53, rC53, gI60, gJ60, pI60, pJ60, rC60, gI64, gJ64, pI64, pJ64, rC64, hF, e78, hF1, v1, gQ_e (K51 hF1), hQ_sI, w1, aL_e (h := sI h 51 1 (nI p)) w2 rfl (by omega), hL_sI, nI_leI, cl, if_true]
      rw [b_79_31]
      simp (disch := first | assumption | (repeat' (first | apply fx_sI | apply fx_sJ | assumption | omega))) only [bnd_e, grd_e, grd0, grd1, Option.bind_some, Option.isSome_some, gQ30_0, gQ30_1, gQ30_2, gQ30_3, gQ30_4, gQ30_5, gQ30_6, gQ30_7, gQ30_8, gQ30_9, gQ31_0, gQ33_0, gQ33_1, gQ36_0, gQ36_1, gQ39_0, gQ39_3, gQ39_4, gQ39_6, gQ39_8, gQ39_10, gQ39_11, gQ39_12, gQ48_0, gQ48_1, gQ51_2, gQ53_0, gQ53_1, gQ60_0, gQ60_1, gQ60_2, gQ64_1, gQ64_14, gQ64_15, gQ64_16, gQ64_17, gQ64_18, gQ64_19, gQ64_20, gQ64_21, gQ64_24, gQ64_25, gQ64_27, gQ64_28, gQ64_29, gQ64_30, gQ64_31, gQ64_34, gQ64_35, gQ64_36, gQ64_39, gQ64_40, gQ64_41, gQ64_43, gQ64_44, gQ64_48, gQ64_50, gQ64_51, gQ64_52, gQ64_53, gQ64_54, gQ64_58, gQ64_59, gI30, gJ30, pI30, pJ30, rC30, gI31, gJ31, pI31, pJ31, rC31, gI33, gJ33, pI33, pJ33, rC33, gI36, gJ36, pI36, pJ36, rC36, gI39, gJ39, pI39, pJ39, rC39, gI48, gJ48, pI48, pJ48, rC48, gI51, gJ51, pI51, pJ51, rC51, gI53, gJ53, pI53, pJ53, rC53, gI60, gJ60, pI60, pJ60, rC60, gI64, gJ64, pI64, pJ64, rC64, hF1, v1]
      rw [hm, pe]
      exact b1
    · exact (Fa.sI Fa.rfl' (Or.inr (Or.inl (by simp)))).thn b2.fa (by intro z hz; simp only [List.mem_cons, List.not_mem_nil, or_false] at hz ⊢; omega)
    · rw [b2.I (a := 51) (by intro z hz; simp only [List.mem_cons, List.not_mem_nil, or_false] at hz; omega)]; exact v1
  · generalize e0 : sI h 51 1 (nI p) = g0 at *
    have N0 : hN g0 = hN h := by rw [← e0]; rfl
    have C0 : hC g0 = hC h := by rw [← e0]; rfl
    have S0 : hS g0 = hS h := by rw [← e0]; rfl
    have K0 : hK g0 = hK h := by rw [← e0]; rfl
    have L0 : hL g0 = hL h := by rw [← e0]; rfl
    have Q0 : hQ g0 = hQ h := by rw [← e0]; rfl
    have f0 : Fa [1000051, 2000051, pw] h g0 := by rw [← e0]; exact Fa.sI Fa.rfl' (Or.inr (Or.inl (by simp)))
    generalize e1 : hNew g0 12 p p = g1
    generalize e2 : sQ g1 51 0 (some (hN g0)) = g2
    have N1 : hN g1 = hN h + 1 := by rw [← e1, hN_new, N0]
    have N2 : hN g2 = hN h + 1 := by rw [← e2]; exact N1
    have f1 : Fa [1000051, 2000051, pw] h g1 := f0.then (by rw [← e1]; exact Fa.new)
    have f2 : Fa [1000051, 2000051, pw] h g2 := by rw [← e2]; exact f1.sQ (Or.inr (Or.inl (by simp)))
    have hF2 : Fix g2 := f2.fix hF (by intro z hz; simp only [List.mem_cons, List.not_mem_nil, or_false] at hz; omega) (by
      intro q hq
      have := (show ∀ q ∈ fqT, q.1 ≠ 52 ∧ q.1 < 98 ∧ 1000000 * (q.2.1 + 1) + q.1 ≠ 1000051 ∧ 1000000 * (q.2.1 + 1) + q.1 ≠ 2000051 ∧ q.2.1 < 100 by decide) q hq
      simp only [List.mem_cons, List.not_mem_nil, or_false]
      omega)
    have k1 : hK g1 51 = 6 := by rw [← e1, hK_new, if_neg (by omega), K0]; exact k51
    have K2 : hK g2 (hN h) = 12 := by rw [← e2, hK_sQ, ← e1, hK_new, if_pos N0.symm]
    have L2 : hL g2 (hN h) = p := by rw [← e2, hL_sQ, ← e1, hL_new, if_pos N0.symm]
    have Q2 : hQ g2 51 0 = some (hN h) := by rw [← e2, hQ_sQ, if_pos ⟨rfl, rfl⟩, N0]
    have I2 : ∀ a, a < hN h → hI g2 a = hI g0 a := fun a ha => by rw [← e2, hI_sQ, ← e1, hI_new, if_neg (by omega)]
    have v2 : hI g2 51 1 = nI p := by rw [I2 51 (by omega)]; exact v1
    have hC2 : CB g2 po pq S := by
      obtain ⟨⟨a1, a2, a3, a4, a5, a6, a7, a8, a9, a10, a11⟩, b, c, d⟩ := hC1
      have q2 : ∀ j, j ≠ 0 → hQ g2 51 j = hQ g0 51 j := fun j hj => by rw [← e2, hQ_sQ, if_neg (by omega), ← e1, hQ_new, if_neg (by omega)]
      have kl : ∀ a, a < hN h → hK g2 a = hK g0 a ∧ hL g2 a = hL g0 a := fun a ha => ⟨by rw [← e2, hK_sQ, ← e1, hK_new, if_neg (by omega)], by rw [← e2, hL_sQ, ← e1, hL_new, if_neg (by omega)]⟩
      refine ⟨⟨by rw [q2 3 (by omega)]; exact a1, by rw [q2 4 (by omega)]; exact a2, by rw [(kl po hpn.1).1]; exact a3, by rw [(kl po hpn.1).2]; exact a4, by rw [(kl pq hpn.2).1]; exact a5, by rw [(kl pq hpn.2).2]; exact a6, a7, a8, a9, a10, a11⟩, fun x hx => ?_, fun x hx => ?_, ?_⟩
      · rw [I2 po hpn.1]; exact b x hx
      · rw [I2 pq hpn.2]; exact c x hx
      · rw [I2 51 (by omega)]; exact d
    obtain ⟨g, b1, b2, b3, b4⟩ := l_79 (pw := hN h) (la := p) hQI ⟨by omega, by omega, by omega, by omega, by omega⟩ (by omega) 24300 m st i g2 hF2 hC2 Q2 K2 L2 hi hs (by omega) (by omega)
    rw [hp] at b1 b3
    have N : hN g = hN h + 1 := b2.N.trans N2
    refine ⟨g, hN h, ?_, ?_, ⟨by rw [b2.Q]; exact Q2, by rw [b2.K]; exact K2, by omega, by omega, by rw [b2.L, L2]; omega⟩, Or.inr (Nat.le_refl _), ?_, b3, by rw [b2.L, L2]; omega, by omega, ?_, ?_⟩
    · have u1 : nA 12 (nI p) g0 = some g1 := by rw [nA_e (by omega) (by omega), e1]
      have u2 : pQ 6 0 (some 51) (some (hN g0)) g1 = some g2 := by rw [pQ_e k1 (by omega), e2]
      have u3 : gQ 6 0 (some 51) g0 = some (some pw) := by rw [gQ_e (K51 hF1), Q0, w1]
      have u4 : aL (some pw) g0 = some (nI (hL h pw)) := aL_e (ar := 12) (by rw [K0]; exact w2) (by rw [L0]) (by omega)
      rw [f_79, b_79_0]
      simp (disch := first | assumption | (repeat' (first | apply fx_sI | apply fx_sJ | assumption | omega))) only [bnd_e, grd_e, grd0, grd1, Option.bind_some, Option.isSome_some, gQ30_0, gQ30_1, gQ30_2, gQ30_3, gQ30_4, gQ30_5, gQ30_6, gQ30_7, gQ30_8, gQ30_9, gQ31_0, gQ33_0, gQ33_1, gQ36_0, gQ36_1, gQ39_0, gQ39_3, gQ39_4, gQ39_6, gQ39_8, gQ39_10, gQ39_11, gQ39_12, gQ48_0, gQ48_1, gQ51_2, gQ53_0, gQ53_1, gQ60_0, gQ60_1, gQ60_2, gQ64_1, gQ64_14, gQ64_15, gQ64_16, gQ64_17, gQ64_18, gQ64_19, gQ64_20, gQ64_21, gQ64_24, gQ64_25, gQ64_27, gQ64_28, gQ64_29, gQ64_30, gQ64_31, gQ64_34, gQ64_35, gQ64_36, gQ64_39, gQ64_40, gQ64_41, gQ64_43, gQ64_44, gQ64_48, gQ64_50, gQ64_51, gQ64_52, gQ64_53, gQ64_54, gQ64_58, gQ64_59, gI30, gJ30, pI30, pJ30, rC30, gI31, gJ31, pI31, pJ31, rC31, gI33, gJ33, pI33, pJ33, rC33, gI36, gJ36, pI36, pJ36, rC36, gI39, gJ39, pI39, pJ39, rC39, gI48, gJ48, pI48, pJ48, rC48, gI51, gJ51, pI51, pJ51, rC51, gI53, gJ53, pI53, pJ53, rC53, gI60, gJ60, pI60, pJ60, rC60, gI64, gJ64, pI64, pJ64, rC64, hF, e78, e0, hF1, v1, u3, u4, nI_leI, cl, if_false]
      rw [b_79_21]
      simp (disch := first | assumption | (repeat' (first | apply fx_sI | apply fx_sJ | assumption | omega))) only [bnd_e, grd_e, grd0, grd1, Option.bind_some, Option.isSome_some, gQ30_0, gQ30_1, gQ30_2, gQ30_3, gQ30_4, gQ30_5, gQ30_6, gQ30_7, gQ30_8, gQ30_9, gQ31_0, gQ33_0, gQ33_1, gQ36_0, gQ36_1, gQ39_0, gQ39_3, gQ39_4, gQ39_6, gQ39_8, gQ39_10, gQ39_11, gQ39_12, gQ48_0, gQ48_1, gQ51_2, gQ53_0, gQ53_1, gQ60_0, gQ60_1, gQ60_2, gQ64_1, gQ64_14, gQ64_15, gQ64_16, gQ64_17, gQ64_18, gQ64_19, gQ64_20, gQ64_21, gQ64_24, gQ64_25, gQ64_27, gQ64_28, gQ64_29, gQ64_30, gQ64_31, gQ64_34, gQ64_35, gQ64_36, gQ64_39, gQ64_40, gQ64_41, gQ64_43, gQ64_44, gQ64_48, gQ64_50, gQ64_51, gQ64_52, gQ64_53, gQ64_54, gQ64_58, gQ64_59, gI30, gJ30, pI30, pJ30, rC30, gI31, gJ31, pI31, pJ31, rC31, gI33, gJ33, pI33, pJ33, rC33, gI36, gJ36, pI36, pJ36, rC36, gI39, gJ39, pI39, pJ39, rC39, gI48, gJ48, pI48, pJ48, rC48, gI51, gJ51, pI51, pJ51, rC51, gI53, gJ53, pI53, pJ53, rC53, gI60, gJ60, pI60, pJ60, rC60, gI64, gJ64, pI64, pJ64, rC64, hF1, v1, u1, u2]
      rw [b_79_31]
      simp (disch := first | assumption | (repeat' (first | apply fx_sI | apply fx_sJ | assumption | omega))) only [bnd_e, grd_e, grd0, grd1, Option.bind_some, Option.isSome_some, gQ30_0, gQ30_1, gQ30_2, gQ30_3, gQ30_4, gQ30_5, gQ30_6, gQ30_7, gQ30_8, gQ30_9, gQ31_0, gQ33_0, gQ33_1, gQ36_0, gQ36_1, gQ39_0, gQ39_3, gQ39_4, gQ39_6, gQ39_8, gQ39_10, gQ39_11, gQ39_12, gQ48_0, gQ48_1, gQ51_2, gQ53_0, gQ53_1, gQ60_0, gQ60_1, gQ60_2, gQ64_1, gQ64_14, gQ64_15, gQ64_16, gQ64_17, gQ64_18, gQ64_19, gQ64_20, gQ64_21, gQ64_24, gQ64_25, gQ64_27, gQ64_28, gQ64_29, gQ64_30, gQ64_31, gQ64_34, gQ64_35, gQ64_36, gQ64_39, gQ64_40, gQ64_41, gQ64_43, gQ64_44, gQ64_48, gQ64_50, gQ64_51, gQ64_52, gQ64_53, gQ64_54, gQ64_58, gQ64_59, gI30, gJ30, pI30, pJ30, rC30, gI31, gJ31, pI31, pJ31, rC31, gI33, gJ33, pI33, pJ33, rC33, gI36, gJ36, pI36, pJ36, rC36, gI39, gJ39, pI39, pJ39, rC39, gI48, gJ48, pI48, pJ48, rC48, gI51, gJ51, pI51, pJ51, rC51, gI53, gJ53, pI53, pJ53, rC53, gI60, gJ60, pI60, pJ60, rC60, gI64, gJ64, pI64, pJ64, rC64, hF2, v2]
      rw [hm, pe]
      exact b1
    · exact f2.thn b2.fa (by intro y hy; simp only [List.mem_cons, List.not_mem_nil, or_false] at hy ⊢; omega)
    · rw [b2.I (a := 51) (by intro z hz; simp only [List.mem_cons, List.not_mem_nil, or_false] at hz; omega)]; exact v2
    · have : hC g1 = hC g0 + 1 := by rw [← e1]; rfl
      have h2 : hC g2 = hC g1 := by rw [← e2]; rfl
      have := b2.C
      omega
    · have : hS g1 = hS g0 + p := by rw [← e1]; rfl
      have h2 : hS g2 = hS g1 := by rw [← e2]; rfl
      have := b2.S
      omega
/-- the reference's way -/
theorem l_278c {h : Hp} (hF : Fix h) (hB : MB h S) (hQI : QI E S) {s0 : Int32} : ∀ f m n st i, i < S.2.2 → S.2.1 i = st → i < f → l_278_22 (f + m) (some 64) s0 (nI n) (nI st) h = b_278_47 (some 64) s0 (nI (n + pLn S.1 f st)) h := by
  obtain ⟨q1, q2, q3⟩ := id hB
  intro f
  induction f with
  | zero => intro m n st i _ _ h; omega
  | succ f ih =>
    intro m n st i hi hs hf
    have hst := (hQI.2.2.1 i hi).1
    rw [hs] at hst
    rw [show f + 1 + m = (f + m) + 1 by omega, l_278_22, b_278_22]
    simp (disch := first | assumption | (repeat' (first | apply fx_sI | apply fx_sJ | assumption | omega))) only [bnd_e, grd_e, grd0, grd1, Option.bind_some, Option.isSome_some, gQ30_0, gQ30_1, gQ30_2, gQ30_3, gQ30_4, gQ30_5, gQ30_6, gQ30_7, gQ30_8, gQ30_9, gQ31_0, gQ33_0, gQ33_1, gQ36_0, gQ36_1, gQ39_0, gQ39_3, gQ39_4, gQ39_6, gQ39_8, gQ39_10, gQ39_11, gQ39_12, gQ48_0, gQ48_1, gQ51_2, gQ53_0, gQ53_1, gQ60_0, gQ60_1, gQ60_2, gQ64_1, gQ64_14, gQ64_15, gQ64_16, gQ64_17, gQ64_18, gQ64_19, gQ64_20, gQ64_21, gQ64_24, gQ64_25, gQ64_27, gQ64_28, gQ64_29, gQ64_30, gQ64_31, gQ64_34, gQ64_35, gQ64_36, gQ64_39, gQ64_40, gQ64_41, gQ64_43, gQ64_44, gQ64_48, gQ64_50, gQ64_51, gQ64_52, gQ64_53, gQ64_54, gQ64_58, gQ64_59, gI30, gJ30, pI30, pJ30, rC30, gI31, gJ31, pI31, pJ31, rC31, gI33, gJ33, pI33, pJ33, rC33, gI36, gJ36, pI36, pJ36, rC36, gI39, gJ39, pI39, pJ39, rC39, gI48, gJ48, pI48, pJ48, rC48, gI51, gJ51, pI51, pJ51, rC51, gI53, gJ53, pI53, pJ53, rC53, gI60, gJ60, pI60, pJ60, rC60, gI64, gJ64, pI64, pJ64, rC64, aI27, aL27, aI28, aL28, aI32, wI32, aL32, aI34, wI34, aL34, aI35, wI35, aL35, aI37, wI37, aL37, aI38, wI38, aL38, aJ40, wJ40, aL40, aI41, wI41, aL41, aI42, wI42, aL42, aI43, wI43, aL43, aI44, wI44, aL44, aI45, wI45, aL45, aI46, wI46, aL46, aI47, wI47, aL47, aI49, wI49, aL49, aI50, wI50, aL50, aI52, wI52, aL52, aI54, wI54, aL54, aI55, wI55, aL55, aL56, aL57, aL58, aI59, wI59, aL59, aI61, wI61, aL61, aL62, aI63, wI63, aL63, aI65, wI65, aL65, aI66, wI66, aL66, aI67, wI67, aL67, aI68, wI68, aL68, aI69, wI69, aL69, aJ70, wJ70, aL70, aJ71, wJ71, aL71, aJ72, wJ72, aL72, aZ73, wZ73, aL73, aI74, wI74, aL74, aI75, wI75, aL75, aJ76, wJ76, aL76, aJ77, wJ77, aL77, aI78, wI78, aL78, aI79, wI79, aL79, aI80, wI80, aL80, aI81, wI81, aL81, aI82, wI82, aL82, aI83, wI83, aL83, aI84, wI84, aL84, aI85, wI85, aL85, aI86, wI86, aL86, aI87, wI87, aL87, aI88, wI88, aL88, aI89, wI89, aL89, aI90, wI90, aL90, aI91, wI91, aL91, aI92, wI92, aL92, aI93, wI93, aL93, aI94, wI94, aL94, aZ95, wZ95, aL95, aI96, wI96, aL96, aJ97, wJ97, aL97, hF]
    rcases hQI.bk hi with h1 | ⟨j, A, h1, h2, h3⟩
    · rw [hs] at h1
      rw [(q1 st hst).2.1 h1, if_pos (by decide), pLn_1 h1]
      rfl
    · rw [hs] at h3
      have v := (q1 st hst).2.2 (by omega)
      rw [v.1, if_neg (nI_pos (by omega)), b_278_32]
      simp (disch := first | assumption | (repeat' (first | apply fx_sI | apply fx_sJ | assumption | omega))) only [bnd_e, grd_e, grd0, grd1, Option.bind_some, Option.isSome_some, gQ30_0, gQ30_1, gQ30_2, gQ30_3, gQ30_4, gQ30_5, gQ30_6, gQ30_7, gQ30_8, gQ30_9, gQ31_0, gQ33_0, gQ33_1, gQ36_0, gQ36_1, gQ39_0, gQ39_3, gQ39_4, gQ39_6, gQ39_8, gQ39_10, gQ39_11, gQ39_12, gQ48_0, gQ48_1, gQ51_2, gQ53_0, gQ53_1, gQ60_0, gQ60_1, gQ60_2, gQ64_1, gQ64_14, gQ64_15, gQ64_16, gQ64_17, gQ64_18, gQ64_19, gQ64_20, gQ64_21, gQ64_24, gQ64_25, gQ64_27, gQ64_28, gQ64_29, gQ64_30, gQ64_31, gQ64_34, gQ64_35, gQ64_36, gQ64_39, gQ64_40, gQ64_41, gQ64_43, gQ64_44, gQ64_48, gQ64_50, gQ64_51, gQ64_52, gQ64_53, gQ64_54, gQ64_58, gQ64_59, gI30, gJ30, pI30, pJ30, rC30, gI31, gJ31, pI31, pJ31, rC31, gI33, gJ33, pI33, pJ33, rC33, gI36, gJ36, pI36, pJ36, rC36, gI39, gJ39, pI39, pJ39, rC39, gI48, gJ48, pI48, pJ48, rC48, gI51, gJ51, pI51, pJ51, rC51, gI53, gJ53, pI53, pJ53, rC53, gI60, gJ60, pI60, pJ60, rC60, gI64, gJ64, pI64, pJ64, rC64, aI27, aL27, aI28, aL28, aI32, wI32, aL32, aI34, wI34, aL34, aI35, wI35, aL35, aI37, wI37, aL37, aI38, wI38, aL38, aJ40, wJ40, aL40, aI41, wI41, aL41, aI42, wI42, aL42, aI43, wI43, aL43, aI44, wI44, aL44, aI45, wI45, aL45, aI46, wI46, aL46, aI47, wI47, aL47, aI49, wI49, aL49, aI50, wI50, aL50, aI52, wI52, aL52, aI54, wI54, aL54, aI55, wI55, aL55, aL56, aL57, aL58, aI59, wI59, aL59, aI61, wI61, aL61, aL62, aI63, wI63, aL63, aI65, wI65, aL65, aI66, wI66, aL66, aI67, wI67, aL67, aI68, wI68, aL68, aI69, wI69, aL69, aJ70, wJ70, aL70, aJ71, wJ71, aL71, aJ72, wJ72, aL72, aZ73, wZ73, aL73, aI74, wI74, aL74, aI75, wI75, aL75, aJ76, wJ76, aL76, aJ77, wJ77, aL77, aI78, wI78, aL78, aI79, wI79, aL79, aI80, wI80, aL80, aI81, wI81, aL81, aI82, wI82, aL82, aI83, wI83, aL83, aI84, wI84, aL84, aI85, wI85, aL85, aI86, wI86, aL86, aI87, wI87, aL87, aI88, wI88, aL88, aI89, wI89, aL89, aI90, wI90, aL90, aI91, wI91, aL91, aI92, wI92, aL92, aI93, wI93, aL93, aI94, wI94, aL94, aZ95, wZ95, aL95, aI96, wI96, aL96, aJ97, wJ97, aL97, hF, v.2, nI_add]
      rw [show (S.1 st - 2) / 16 = S.2.1 j by omega, ih m (n + 1) (S.2.1 j) j (by omega) rfl (by omega), pLn_s h2 h3]
      congr 2
      omega
theorem l_278w (hQI : QI E S) {n0 : Int32} : ∀ f m st i h, Fix h → MB h S → i < S.2.2 → S.2.1 i = st → i < f →
    ∃ g, l_278_58 (f + m) (some 64) n0 (nI (pLn S.1 f st)) (nI st) h = some (n0, g) ∧ Fz [93] h g ∧ (∀ t, t < pLn S.1 f st → hI g 93 t = nI (pAc S.1 f st t)) ∧ (∀ t, pLn S.1 f st ≤ t → hI g 93 t = hI h 93 t) := by
  intro f
  induction f with
  | zero => intro m st i h _ _ _ _ h; omega
  | succ f ih =>
    intro m st i h hF hB hi hs hf
    obtain ⟨q1, q2, q3⟩ := id hB
    have hst := (hQI.2.2.1 i hi).1
    have ql := hQI.le
    rw [hs] at hst
    rcases hQI.bk hi with h1 | ⟨j, A, h1, h2, h3⟩
    · rw [hs] at h1
      rw [pLn_1 h1]
      refine ⟨h, ?_, Fz.rfl', fun t ht => absurd ht (Nat.not_lt_zero t), fun t _ => rfl⟩
      rw [show f + 1 + m = (f + m) + 1 by omega, l_278_58, b_278_58]
      simp (disch := first | assumption | (repeat' (first | apply fx_sI | apply fx_sJ | assumption | omega))) only [bnd_e, grd_e, grd0, grd1, Option.bind_some, Option.isSome_some, gQ30_0, gQ30_1, gQ30_2, gQ30_3, gQ30_4, gQ30_5, gQ30_6, gQ30_7, gQ30_8, gQ30_9, gQ31_0, gQ33_0, gQ33_1, gQ36_0, gQ36_1, gQ39_0, gQ39_3, gQ39_4, gQ39_6, gQ39_8, gQ39_10, gQ39_11, gQ39_12, gQ48_0, gQ48_1, gQ51_2, gQ53_0, gQ53_1, gQ60_0, gQ60_1, gQ60_2, gQ64_1, gQ64_14, gQ64_15, gQ64_16, gQ64_17, gQ64_18, gQ64_19, gQ64_20, gQ64_21, gQ64_24, gQ64_25, gQ64_27, gQ64_28, gQ64_29, gQ64_30, gQ64_31, gQ64_34, gQ64_35, gQ64_36, gQ64_39, gQ64_40, gQ64_41, gQ64_43, gQ64_44, gQ64_48, gQ64_50, gQ64_51, gQ64_52, gQ64_53, gQ64_54, gQ64_58, gQ64_59, gI30, gJ30, pI30, pJ30, rC30, gI31, gJ31, pI31, pJ31, rC31, gI33, gJ33, pI33, pJ33, rC33, gI36, gJ36, pI36, pJ36, rC36, gI39, gJ39, pI39, pJ39, rC39, gI48, gJ48, pI48, pJ48, rC48, gI51, gJ51, pI51, pJ51, rC51, gI53, gJ53, pI53, pJ53, rC53, gI60, gJ60, pI60, pJ60, rC60, gI64, gJ64, pI64, pJ64, rC64, aI27, aL27, aI28, aL28, aI32, wI32, aL32, aI34, wI34, aL34, aI35, wI35, aL35, aI37, wI37, aL37, aI38, wI38, aL38, aJ40, wJ40, aL40, aI41, wI41, aL41, aI42, wI42, aL42, aI43, wI43, aL43, aI44, wI44, aL44, aI45, wI45, aL45, aI46, wI46, aL46, aI47, wI47, aL47, aI49, wI49, aL49, aI50, wI50, aL50, aI52, wI52, aL52, aI54, wI54, aL54, aI55, wI55, aL55, aL56, aL57, aL58, aI59, wI59, aL59, aI61, wI61, aL61, aL62, aI63, wI63, aL63, aI65, wI65, aL65, aI66, wI66, aL66, aI67, wI67, aL67, aI68, wI68, aL68, aI69, wI69, aL69, aJ70, wJ70, aL70, aJ71, wJ71, aL71, aJ72, wJ72, aL72, aZ73, wZ73, aL73, aI74, wI74, aL74, aI75, wI75, aL75, aJ76, wJ76, aL76, aJ77, wJ77, aL77, aI78, wI78, aL78, aI79, wI79, aL79, aI80, wI80, aL80, aI81, wI81, aL81, aI82, wI82, aL82, aI83, wI83, aL83, aI84, wI84, aL84, aI85, wI85, aL85, aI86, wI86, aL86, aI87, wI87, aL87, aI88, wI88, aL88, aI89, wI89, aL89, aI90, wI90, aL90, aI91, wI91, aL91, aI92, wI92, aL92, aI93, wI93, aL93, aI94, wI94, aL94, aZ95, wZ95, aL95, aI96, wI96, aL96, aJ97, wJ97, aL97, hF]
      rw [(q1 st hst).2.1 h1, if_pos (by decide), b_278_97]
    · rw [hs] at h3
      have v := (q1 st hst).2.2 (by omega)
      have hj := (hQI.2.2.1 j (by omega)).1
      rw [pLn_s h2 h3, pAc_s h2 h3]
      generalize hp : pLn S.1 f (S.2.1 j) = p at *
      have ub : p ≤ j := by rw [← hp]; exact pLn_le hQI f _ j (by omega) rfl (by omega)
      have e1 : nI (p + 1) + (-1) = nI p := pk_m1 p
      have eA : (S.1 st - 2) % 16 = A := by omega
      have eP : (S.1 st - 2) / 16 = S.2.1 j := by omega
      rw [eA, eP] at v
      have z1 : Fz [93] h (sI h 93 p (nI A)) := Fz.sI Fz.rfl' (Or.inl (by simp))
      have hF1 : Fix (sI h 93 p (nI A)) := fx_sI hF (by omega)
      have hB1 : MB (sI h 93 p (nI A)) S := hB.cg (z1.I (a := 90) (by decide)) (z1.I (a := 91) (by decide)) (z1.I (a := 92) (by decide)) (z1.I1 (by decide) (by decide))
      have v2 : hI (sI h 93 p (nI A)) 91 st = nI (S.2.1 j) := by rw [hI_sI, if_neg (by omega)]; exact v.2
      obtain ⟨g, b1, b2, b3, b4⟩ := ih m (S.2.1 j) j (sI h 93 p (nI A)) hF1 hB1 (by omega) rfl (by omega)
      rw [hp] at b1 b3 b4
      refine ⟨g, ?_, z1.then b2, fun t ht => ?_, fun t ht => ?_⟩
      · rw [show f + 1 + m = (f + m) + 1 by omega, l_278_58, b_278_58]
        simp (disch := first | assumption | (repeat' (first | apply fx_sI | apply fx_sJ | assumption | omega))) only [bnd_e, grd_e, grd0, grd1, Option.bind_some, Option.isSome_some, gQ30_0, gQ30_1, gQ30_2, gQ30_3, gQ30_4, gQ30_5, gQ30_6, gQ30_7, gQ30_8, gQ30_9, gQ31_0, gQ33_0, gQ33_1, gQ36_0, gQ36_1, gQ39_0, gQ39_3, gQ39_4, gQ39_6, gQ39_8, gQ39_10, gQ39_11, gQ39_12, gQ48_0, gQ48_1, gQ51_2, gQ53_0, gQ53_1, gQ60_0, gQ60_1, gQ60_2, gQ64_1, gQ64_14, gQ64_15, gQ64_16, gQ64_17, gQ64_18, gQ64_19, gQ64_20, gQ64_21, gQ64_24, gQ64_25, gQ64_27, gQ64_28, gQ64_29, gQ64_30, gQ64_31, gQ64_34, gQ64_35, gQ64_36, gQ64_39, gQ64_40, gQ64_41, gQ64_43, gQ64_44, gQ64_48, gQ64_50, gQ64_51, gQ64_52, gQ64_53, gQ64_54, gQ64_58, gQ64_59, gI30, gJ30, pI30, pJ30, rC30, gI31, gJ31, pI31, pJ31, rC31, gI33, gJ33, pI33, pJ33, rC33, gI36, gJ36, pI36, pJ36, rC36, gI39, gJ39, pI39, pJ39, rC39, gI48, gJ48, pI48, pJ48, rC48, gI51, gJ51, pI51, pJ51, rC51, gI53, gJ53, pI53, pJ53, rC53, gI60, gJ60, pI60, pJ60, rC60, gI64, gJ64, pI64, pJ64, rC64, aI27, aL27, aI28, aL28, aI32, wI32, aL32, aI34, wI34, aL34, aI35, wI35, aL35, aI37, wI37, aL37, aI38, wI38, aL38, aJ40, wJ40, aL40, aI41, wI41, aL41, aI42, wI42, aL42, aI43, wI43, aL43, aI44, wI44, aL44, aI45, wI45, aL45, aI46, wI46, aL46, aI47, wI47, aL47, aI49, wI49, aL49, aI50, wI50, aL50, aI52, wI52, aL52, aI54, wI54, aL54, aI55, wI55, aL55, aL56, aL57, aL58, aI59, wI59, aL59, aI61, wI61, aL61, aL62, aI63, wI63, aL63, aI65, wI65, aL65, aI66, wI66, aL66, aI67, wI67, aL67, aI68, wI68, aL68, aI69, wI69, aL69, aJ70, wJ70, aL70, aJ71, wJ71, aL71, aJ72, wJ72, aL72, aZ73, wZ73, aL73, aI74, wI74, aL74, aI75, wI75, aL75, aJ76, wJ76, aL76, aJ77, wJ77, aL77, aI78, wI78, aL78, aI79, wI79, aL79, aI80, wI80, aL80, aI81, wI81, aL81, aI82, wI82, aL82, aI83, wI83, aL83, aI84, wI84, aL84, aI85, wI85, aL85, aI86, wI86, aL86, aI87, wI87, aL87, aI88, wI88, aL88, aI89, wI89, aL89, aI90, wI90, aL90, aI91, wI91, aL91, aI92, wI92, aL92, aI93, wI93, aL93, aI94, wI94, aL94, aZ95, wZ95, aL95, aI96, wI96, aL96, aJ97, wJ97, aL97, hF]
        rw [v.1, if_neg (nI_pos (by omega)), b_278_68]
        simp (disch := first | assumption | (repeat' (first | apply fx_sI | apply fx_sJ | assumption | omega))) only [bnd_e, grd_e, grd0, grd1, Option.bind_some, Option.isSome_some, gQ30_0, gQ30_1, gQ30_2, gQ30_3, gQ30_4, gQ30_5, gQ30_6, gQ30_7, gQ30_8, gQ30_9, gQ31_0, gQ33_0, gQ33_1, gQ36_0, gQ36_1, gQ39_0, gQ39_3, gQ39_4, gQ39_6, gQ39_8, gQ39_10, gQ39_11, gQ39_12, gQ48_0, gQ48_1, gQ51_2, gQ53_0, gQ53_1, gQ60_0, gQ60_1, gQ60_2, gQ64_1, gQ64_14, gQ64_15, gQ64_16, gQ64_17, gQ64_18, gQ64_19, gQ64_20, gQ64_21, gQ64_24, gQ64_25, gQ64_27, gQ64_28, gQ64_29, gQ64_30, gQ64_31, gQ64_34, gQ64_35, gQ64_36, gQ64_39, gQ64_40, gQ64_41, gQ64_43, gQ64_44, gQ64_48, gQ64_50, gQ64_51, gQ64_52, gQ64_53, gQ64_54, gQ64_58, gQ64_59, gI30, gJ30, pI30, pJ30, rC30, gI31, gJ31, pI31, pJ31, rC31, gI33, gJ33, pI33, pJ33, rC33, gI36, gJ36, pI36, pJ36, rC36, gI39, gJ39, pI39, pJ39, rC39, gI48, gJ48, pI48, pJ48, rC48, gI51, gJ51, pI51, pJ51, rC51, gI53, gJ53, pI53, pJ53, rC53, gI60, gJ60, pI60, pJ60, rC60, gI64, gJ64, pI64, pJ64, rC64, aI27, aL27, aI28, aL28, aI32, wI32, aL32, aI34, wI34, aL34, aI35, wI35, aL35, aI37, wI37, aL37, aI38, wI38, aL38, aJ40, wJ40, aL40, aI41, wI41, aL41, aI42, wI42, aL42, aI43, wI43, aL43, aI44, wI44, aL44, aI45, wI45, aL45, aI46, wI46, aL46, aI47, wI47, aL47, aI49, wI49, aL49, aI50, wI50, aL50, aI52, wI52, aL52, aI54, wI54, aL54, aI55, wI55, aL55, aL56, aL57, aL58, aI59, wI59, aL59, aI61, wI61, aL61, aL62, aI63, wI63, aL63, aI65, wI65, aL65, aI66, wI66, aL66, aI67, wI67, aL67, aI68, wI68, aL68, aI69, wI69, aL69, aJ70, wJ70, aL70, aJ71, wJ71, aL71, aJ72, wJ72, aL72, aZ73, wZ73, aL73, aI74, wI74, aL74, aI75, wI75, aL75, aJ76, wJ76, aL76, aJ77, wJ77, aL77, aI78, wI78, aL78, aI79, wI79, aL79, aI80, wI80, aL80, aI81, wI81, aL81, aI82, wI82, aL82, aI83, wI83, aL83, aI84, wI84, aL84, aI85, wI85, aL85, aI86, wI86, aL86, aI87, wI87, aL87, aI88, wI88, aL88, aI89, wI89, aL89, aI90, wI90, aL90, aI91, wI91, aL91, aI92, wI92, aL92, aI93, wI93, aL93, aI94, wI94, aL94, aZ95, wZ95, aL95, aI96, wI96, aL96, aJ97, wJ97, aL97, hF, e1, v.1, hF1, v2]
        exact b1
      · unfold upn
        by_cases ct : t = p
        · rw [if_pos ct, ct, b4 p (Nat.le_refl _), hI_sI, if_pos ⟨rfl, rfl⟩]
        · rw [if_neg ct]; exact b3 t (by omega)
      · rw [b4 t (by omega), hI_sI, if_neg (by omega)]
def wyN (E : Nat → Nat) (cl : Nat) : Nat := if (fnd E cl).1 = 0 then 0 else pLn (fnd E cl).2.1 24300 ((fnd E cl).1 - 1) + 1
theorem s_278 {h : Hp} {cl : Nat} (hF : Fix h) (hB : Bg h E) (hW : WF E) (hV : VA E (anE E) (E 340)) (h5 : E 2 ≤ 5) (h0 : E 340 ≠ 0) (hcl : cl ≤ 100) :
    ∃ g, f_278 (some 64) (mI cl) h = some (mI (wyN E cl), g) ∧ Fz [23000064, 66, 46000064, 47000064, 87, 27000064, 74, 75, 88, 90, 91, 92, 56000064, 57000064, 93] h g ∧ NowE g E ∧ hI g 64 22 = 1 ∧ (∀ t, t + 1 < wyN E cl → hI g 93 t = nI (pAc (fnd E cl).2.1 24300 ((fnd E cl).1 - 1) t)) ∧ wyN E cl ≤ 24300 := by
  obtain ⟨k1, a1, a2, a3, a4, a5⟩ := s_253 hF hB hW hV.1 hV.2.1
  have hF1 := a2.fix hF (by decide)
  obtain ⟨k2, b1, b2, b3, b4, b5⟩ := s_277 (cl := cl) hF1 a3 a5 hW hV h5 h0 hcl
  have hF2 := b2.fix hF1 (by decide)
  have z2 : Fz [23000064, 66, 46000064, 47000064, 87, 27000064, 74, 75, 88, 90, 91, 92, 56000064, 57000064, 93] h k2 := (a2.wid (by intro z hz; simp only [List.mem_cons, List.not_mem_nil, or_false] at hz ⊢; omega)).then (b2.wid (by intro z hz; simp only [List.mem_cons, List.not_mem_nil, or_false] at hz ⊢; omega))
  have bg2 : hI k2 64 22 = 1 := by rw [b2.I1 (by decide) (by decide)]; exact a4
  unfold wyN
  by_cases c : (fnd E cl).1 = 0
  · rw [if_pos c]
    refine ⟨k2, ?_, z2, b3, bg2, fun t ht => by omega, by omega⟩
    rw [f_278, b_278_0]
    simp (disch := first | assumption | (repeat' (first | apply fx_sI | apply fx_sJ | assumption | omega))) only [bnd_e, grd_e, grd0, grd1, Option.bind_some, Option.isSome_some, gQ30_0, gQ30_1, gQ30_2, gQ30_3, gQ30_4, gQ30_5, gQ30_6, gQ30_7, gQ30_8, gQ30_9, gQ31_0, gQ33_0, gQ33_1, gQ36_0, gQ36_1, gQ39_0, gQ39_3, gQ39_4, gQ39_6, gQ39_8, gQ39_10, gQ39_11, gQ39_12, gQ48_0, gQ48_1, gQ51_2, gQ53_0, gQ53_1, gQ60_0, gQ60_1, gQ60_2, gQ64_1, gQ64_14, gQ64_15, gQ64_16, gQ64_17, gQ64_18, gQ64_19, gQ64_20, gQ64_21, gQ64_24, gQ64_25, gQ64_27, gQ64_28, gQ64_29, gQ64_30, gQ64_31, gQ64_34, gQ64_35, gQ64_36, gQ64_39, gQ64_40, gQ64_41, gQ64_43, gQ64_44, gQ64_48, gQ64_50, gQ64_51, gQ64_52, gQ64_53, gQ64_54, gQ64_58, gQ64_59, gI30, gJ30, pI30, pJ30, rC30, gI31, gJ31, pI31, pJ31, rC31, gI33, gJ33, pI33, pJ33, rC33, gI36, gJ36, pI36, pJ36, rC36, gI39, gJ39, pI39, pJ39, rC39, gI48, gJ48, pI48, pJ48, rC48, gI51, gJ51, pI51, pJ51, rC51, gI53, gJ53, pI53, pJ53, rC53, gI60, gJ60, pI60, pJ60, rC60, gI64, gJ64, pI64, pJ64, rC64, hF, a1, hF1, b1]
    rw [c, if_neg (by decide), b_278_15]
    rfl
  · rw [if_neg c]
    obtain ⟨st, hst⟩ : ∃ st, (fnd E cl).1 = st + 1 := ⟨(fnd E cl).1 - 1, by omega⟩
    have e := enc_dcn (E := E) (an := anE E) (pl := E 340) hV.1 (fun _ _ => rfl) h0 hV.2.2.2
    have lt := enc_lt (E := E) (an := anE E) (pl := E 340) hV.1 h5 hV.2.2.2
    have hV' : VA E (dcn E (enc E (anE E) (E 340))) (enc E (anE E) (E 340) % 100 + 1) := by rw [e.1, e.2]; exact hV
    obtain ⟨i, hi, hs⟩ := bf_fd (cl := cl) hW h5 24301 0 _ st (QI.one lt hV') hst
    have hi : i < (fnd E cl).2.2.2 := hi
    have hs : (fnd E cl).2.2.1 i = st := hs
    have ql := b5.le
    have stl := (b5.2.2.1 i hi).1
    rw [hs] at stl
    have lb := pLn_le b5 24300 st i hi hs (by omega)
    obtain ⟨m, hm⟩ := FU_ge 24300 (by omega)
    rw [hst] at b1 ⊢
    rw [show st + 1 - 1 = st by omega]
    have cnt := l_278c (s0 := nI st) hF2 b4 b5 24300 m 0 st i hi hs (by omega)
    rw [Nat.zero_add] at cnt
    generalize hp : pLn (fnd E cl).2.1 24300 st = p at *
    have z3 : Fz [57000064] k2 (sI k2 64 56 (nI p)) := Fz.sI Fz.rfl' (Or.inr (by simp))
    have hF3 : Fix (sI k2 64 56 (nI p)) := fx_sI hF2 (by omega)
    have hB3 : MB (sI k2 64 56 (nI p)) (fnd E cl).2 := b4.cg (z3.I (a := 90) (by decide)) (z3.I (a := 91) (by decide)) (z3.I (a := 92) (by decide)) (z3.I1 (by decide) (by decide))
    obtain ⟨g, d1, d2', d3', d4⟩ := l_278w (n0 := nI p) b5 24300 m st i _ hF3 hB3 hi hs (by omega)
    rw [hp] at d1 d3'
    refine ⟨g, ?_, z2.then ((z3.wid (by intro z hz; simp only [List.mem_cons, List.not_mem_nil, or_false] at hz ⊢; omega)).then (d2'.wid (by intro z hz; simp only [List.mem_cons, List.not_mem_nil, or_false] at hz ⊢; omega))), ?_, ?_, fun t ht => d3' t (by omega), by omega⟩
    · rw [f_278, b_278_0]
      simp (disch := first | assumption | (repeat' (first | apply fx_sI | apply fx_sJ | assumption | omega))) only [bnd_e, grd_e, grd0, grd1, Option.bind_some, Option.isSome_some, gQ30_0, gQ30_1, gQ30_2, gQ30_3, gQ30_4, gQ30_5, gQ30_6, gQ30_7, gQ30_8, gQ30_9, gQ31_0, gQ33_0, gQ33_1, gQ36_0, gQ36_1, gQ39_0, gQ39_3, gQ39_4, gQ39_6, gQ39_8, gQ39_10, gQ39_11, gQ39_12, gQ48_0, gQ48_1, gQ51_2, gQ53_0, gQ53_1, gQ60_0, gQ60_1, gQ60_2, gQ64_1, gQ64_14, gQ64_15, gQ64_16, gQ64_17, gQ64_18, gQ64_19, gQ64_20, gQ64_21, gQ64_24, gQ64_25, gQ64_27, gQ64_28, gQ64_29, gQ64_30, gQ64_31, gQ64_34, gQ64_35, gQ64_36, gQ64_39, gQ64_40, gQ64_41, gQ64_43, gQ64_44, gQ64_48, gQ64_50, gQ64_51, gQ64_52, gQ64_53, gQ64_54, gQ64_58, gQ64_59, gI30, gJ30, pI30, pJ30, rC30, gI31, gJ31, pI31, pJ31, rC31, gI33, gJ33, pI33, pJ33, rC33, gI36, gJ36, pI36, pJ36, rC36, gI39, gJ39, pI39, pJ39, rC39, gI48, gJ48, pI48, pJ48, rC48, gI51, gJ51, pI51, pJ51, rC51, gI53, gJ53, pI53, pJ53, rC53, gI60, gJ60, pI60, pJ60, rC60, gI64, gJ64, pI64, pJ64, rC64, hF, a1, hF1, b1]
      have nm : ¬ mI (st + 1) = (-1 : Int32) := by
        rw [show (-1 : Int32) = mI 0 from rfl, mI_inj (by omega) (by omega)]; omega
      rw [if_pos nm, b_278_17, bnd_e, hm, mI_s, cnt, b_278_47]
      simp (disch := first | assumption | (repeat' (first | apply fx_sI | apply fx_sJ | assumption | omega))) only [bnd_e, grd_e, grd0, grd1, Option.bind_some, Option.isSome_some, gQ30_0, gQ30_1, gQ30_2, gQ30_3, gQ30_4, gQ30_5, gQ30_6, gQ30_7, gQ30_8, gQ30_9, gQ31_0, gQ33_0, gQ33_1, gQ36_0, gQ36_1, gQ39_0, gQ39_3, gQ39_4, gQ39_6, gQ39_8, gQ39_10, gQ39_11, gQ39_12, gQ48_0, gQ48_1, gQ51_2, gQ53_0, gQ53_1, gQ60_0, gQ60_1, gQ60_2, gQ64_1, gQ64_14, gQ64_15, gQ64_16, gQ64_17, gQ64_18, gQ64_19, gQ64_20, gQ64_21, gQ64_24, gQ64_25, gQ64_27, gQ64_28, gQ64_29, gQ64_30, gQ64_31, gQ64_34, gQ64_35, gQ64_36, gQ64_39, gQ64_40, gQ64_41, gQ64_43, gQ64_44, gQ64_48, gQ64_50, gQ64_51, gQ64_52, gQ64_53, gQ64_54, gQ64_58, gQ64_59, gI30, gJ30, pI30, pJ30, rC30, gI31, gJ31, pI31, pJ31, rC31, gI33, gJ33, pI33, pJ33, rC33, gI36, gJ36, pI36, pJ36, rC36, gI39, gJ39, pI39, pJ39, rC39, gI48, gJ48, pI48, pJ48, rC48, gI51, gJ51, pI51, pJ51, rC51, gI53, gJ53, pI53, pJ53, rC53, gI60, gJ60, pI60, pJ60, rC60, gI64, gJ64, pI64, pJ64, rC64, hF2]
      rw [hm, d1, mI_s]
    · exact b3.cg ((d2'.I (a := 66) (by decide)).trans (z3.I (a := 66) (by decide)))
    · rw [d2'.I1 (by decide) (by decide), z3.I1 (by decide) (by decide)]; exact bg2
end PATH
