/-! scenes copied; rows of a search made -/
/-- a scene anywhere -/
def ScG (τ : Nat → Nat) (h : Hp) (p ph pa : Nat) (E an : Nat → Nat) (pl : Nat) : Prop := (hK h p = 7 ∧ hQ h p 0 = some ph ∧ hQ h p 1 = some pa ∧ hK h ph = 12 ∧ hL h ph = 10 ∧ hK h pa = 12 ∧ hL h pa = 10 ∧ 30 ≤ p ∧ 30 ≤ ph ∧ 30 ≤ pa) ∧ hQ h p 2 = some (rq h p 2) ∧ HoR τ h (rq h p 2) E ∧ (∀ d, d < E 2 → hI h ph d = nI (dHg E d) ∧ hI h pa d = nI (an d)) ∧ hI h p 3 = mI pl
section COPY
variable {τ : Nat → Nat} {E an : Nat → Nat} {pl : Nat}
theorem ScR.g {h : Hp} {s : Nat} (hF : Fix h) (hs : SP s) (hS : ScR τ h s E an pl) : ScG τ h s (s + 1) (s + 2) E an pl := by
  obtain ⟨q0, q1, q2, q3, q4, q5, q6, q7⟩ := spF hF hs
  exact ⟨⟨q0, q1, q2, q3, q4, q5, q6, q7, by omega, by omega⟩, hS⟩
theorem ScG.r {h : Hp} {s : Nat} (hS : ScG τ h s (s + 1) (s + 2) E an pl) : ScR τ h s E an pl := hS.2
theorem cP_e {h : Hp} {a b : Nat} (ha : hK h a = 12) (hb : hK h b = 12) (h1 : 30 ≤ a) (h2 : 30 ≤ b) (l1 : hL h a = 10) (l2 : hL h b = 10) : cP (some a) (nI 0) (some b) (nI 0) (nI 10) h = some (hCopy h a 0 b 0 10) := by
  unfold cP
  dsimp only
  have t0 : (nI 0).toInt = 0 := by decide
  have t10 : (nI 10).toInt = 10 := by decide
  have c0 : (nI 0).toNatClampNeg = 0 := by decide
  have c10 : (nI 10).toNatClampNeg = 10 := by decide
  rw [t0, t10, c0, c10, if_pos ⟨ha, hb, h1, h2, by omega, by omega, by omega, by omega, by omega⟩]
theorem s_84 {h : Hp} {p ph pa q qh qa : Nat} (hT : TG τ) (hN' : ∀ x, τ x = 1 → x < hN h) (hP : ScG τ h p ph pa E an pl) (k0 : hK h q = 7) (k1 : hQ h q 0 = some qh) (k2 : hQ h q 1 = some qa) (k3 : hK h qh = 12) (k4 : hL h qh = 10) (k5 : hK h qa = 12) (k6 : hL h qa = 10) (k7 : 30 ≤ q ∧ 30 ≤ qh ∧ 30 ≤ qa)
    (d1 : q ≠ p ∧ q ≠ ph ∧ q ≠ pa ∧ qh ≠ p ∧ qh ≠ ph ∧ qh ≠ pa ∧ qa ≠ p ∧ qa ≠ ph ∧ qa ≠ pa ∧ q ≠ qh ∧ q ≠ qa ∧ qh ≠ qa) (d2 : τ q ≠ 1 ∧ τ qh ≠ 1 ∧ τ qa ≠ 1) (d3 : q < 1000000 ∧ qh < 1000000 ∧ qa < 1000000) (h10 : E 2 ≤ 10) :
    ∃ g, f_84 (some q) (some p) h = some g ∧ Fa [3000000 + q, 4000000 + q, qh, qa] h g ∧ hN g = hN h ∧ hC g = hC h ∧ hS g = hS h ∧ ScG τ g q qh qa E an pl := by
  obtain ⟨⟨p0, p1, p2, p3, p4, p5, p6, p7, p8, p9⟩, r1, r2, r3, r4⟩ := hP
  generalize hh : rq h p 2 = ho at r1 r2
  generalize e1 : sQ h q 2 (some ho) = g1
  generalize e2 : sI g1 q 3 (mI pl) = g2
  generalize e3 : hCopy g2 ph 0 qh 0 10 = g3
  generalize e4 : hCopy g3 pa 0 qa 0 10 = g4
  have K1 : hK g1 = hK h := by rw [← e1]; rfl
  have K2 : hK g2 = hK h := by rw [← e2]; exact K1
  have K3 : hK g3 = hK h := by rw [← e3]; exact K2
  have K4 : hK g4 = hK h := by rw [← e4]; exact K3
  have L2 : hL g2 = hL h := by rw [← e2, ← e1]; rfl
  have L3 : hL g3 = hL h := by rw [← e3]; exact L2
  have L4 : hL g4 = hL h := by rw [← e4]; exact L3
  have Q1 : ∀ a j, hQ g1 a j = if a = q ∧ j = 2 then some ho else hQ h a j := fun a j => by rw [← e1, hQ_sQ]
  have Q2 : hQ g2 = hQ g1 := by rw [← e2]; rfl
  have Q3 : hQ g3 = hQ g1 := by rw [← e3]; exact Q2
  have Q4 : hQ g4 = hQ g1 := by rw [← e4]; exact Q3
  have I1 : hI g1 = hI h := by rw [← e1]; rfl
  have I2 : ∀ a j, hI g2 a j = if a = q ∧ j = 3 then mI pl else hI h a j := fun a j => by rw [← e2, hI_sI, I1]
  have I3 : ∀ a, hI g3 a = if a = qh then va_cpy (hI g2 ph) (hI g2 qh) 0 0 10 else hI g2 a := fun a => by rw [← e3, hI_copy]
  have I4 : ∀ a, hI g4 a = if a = qa then va_cpy (hI g3 pa) (hI g3 qa) 0 0 10 else hI g3 a := fun a => by rw [← e4, hI_copy]
  have fr : Fa [3000000 + q, 4000000 + q, qh, qa] h g4 := by
    rw [← e4, ← e3, ← e2, ← e1]
    refine Fa.copy (Fa.copy (Fa.sI (Fa.sQ Fa.rfl' ?_) ?_) ?_) ?_
    · right; left; simp
    · right; left; simp
    · left; simp
    · left; simp
  have ag : Ag τ h g4 := fr.ag hT hN' (by
    intro z hz
    simp only [List.mem_cons, List.not_mem_nil, or_false] at hz
    rcases hz with rfl | rfl | rfl | rfl
    · rw [show (3000000 + q) % 1000000 = q by omega]; exact d2.1
    · rw [show (4000000 + q) % 1000000 = q by omega]; exact d2.1
    · rw [Nat.mod_eq_of_lt d3.2.1]; exact d2.2.1
    · rw [Nat.mod_eq_of_lt d3.2.2]; exact d2.2.2)
  refine ⟨g4, ?_, fr, by rw [← e4, ← e3, ← e2, ← e1]; rfl, by rw [← e4, ← e3, ← e2, ← e1]; rfl, by rw [← e4, ← e3, ← e2, ← e1]; rfl, ⟨by rw [K4]; exact k0, by rw [Q4, Q1, if_neg (by omega)]; exact k1, by rw [Q4, Q1, if_neg (by omega)]; exact k2, by rw [K4]; exact k3, by rw [L4]; exact k4, by rw [K4]; exact k5, by rw [L4]; exact k6, k7.1, k7.2.1, k7.2.2⟩, ?_⟩
  · rw [f_84, b_84_0]
    have v3 : hI g1 p 3 = mI pl := by rw [I1]; exact r4
    have u0 : gQ 7 0 (some p) g2 = some (some ph) := by rw [gQ_e (by rw [K2]; exact p0), Q2, Q1, if_neg (by omega), p1]
    have u1 : gQ 7 0 (some q) g2 = some (some qh) := by rw [gQ_e (by rw [K2]; exact k0), Q2, Q1, if_neg (by omega), k1]
    have u2 : gQ 7 1 (some p) g3 = some (some pa) := by rw [gQ_e (by rw [K3]; exact p0), Q3, Q1, if_neg (by omega), p2]
    have u3 : gQ 7 1 (some q) g3 = some (some qa) := by rw [gQ_e (by rw [K3]; exact k0), Q3, Q1, if_neg (by omega), k2]
    have u4 : cP (some ph) (nI 0) (some qh) (nI 0) (nI 10) g2 = some g3 := by rw [cP_e (by rw [K2]; exact p3) (by rw [K2]; exact k3) p8 k7.2.1 (by rw [L2]; exact p4) (by rw [L2]; exact k4), e3]
    have u5 : cP (some pa) (nI 0) (some qa) (nI 0) (nI 10) g3 = some g4 := by rw [cP_e (by rw [K3]; exact p5) (by rw [K3]; exact k5) p9 k7.2.2 (by rw [L3]; exact p6) (by rw [L3]; exact k6), e4]
    have u6 : gI 7 3 (some p) g1 = some (mI pl) := by rw [gI_e (by rw [K1]; exact p0), v3]
    have u7 : pI 7 3 (some q) (mI pl) g1 = some g2 := by rw [pI_e (by rw [K1]; exact k0) k7.1, e2]
    have u8 : pQ 7 2 (some q) (some ho) h = some g1 := by rw [pQ_e k0 k7.1, e1]
    have u9 : gQ 7 2 (some p) h = some (some ho) := by rw [gQ_e p0, r1]
    simp only [u9, u8, u7, u6, u5, u4, u3, u2, u1, u0, Option.bind_some]
  · have rqe : rq g4 q 2 = ho := by unfold rq; rw [Q4, Q1, if_pos ⟨rfl, rfl⟩]; rfl
    have i4q : ∀ j, hI g4 q j = if j = 3 then mI pl else hI h q j := fun j => by
      rw [I4, if_neg (by omega), I3, if_neg (by omega), I2]
      by_cases c : j = 3
      · rw [if_pos ⟨rfl, c⟩, if_pos c]
      · rw [if_neg (fun z => c z.2), if_neg c]
    have i2o : ∀ a j, a ≠ q → hI g2 a j = hI h a j := fun a j ha => by rw [I2, if_neg (fun z => ha z.1)]
    refine ⟨by rw [rqe, Q4, Q1, if_pos ⟨rfl, rfl⟩], by rw [rqe]; exact r2.ag ag, fun d hd => ⟨?_, ?_⟩, by rw [i4q, if_pos rfl]⟩
    · rw [I4, if_neg (by omega), I3, if_pos rfl, pk_cpy_in (by omega) (by omega), show 0 + (d - 0) = d by omega, i2o ph d (by omega)]
      exact (r3 d hd).1
    · rw [I4, if_pos rfl, pk_cpy_in (by omega) (by omega), show 0 + (d - 0) = d by omega, I3, if_neg (by omega), i2o pa d (by omega)]
      exact (r3 d hd).2
end COPY
