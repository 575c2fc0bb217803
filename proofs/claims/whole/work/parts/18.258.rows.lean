/-! rows of a search made; the class's find -/
theorem Fa.thn {Y Z : List Nat} {h g f : Hp} (h1 : Fa Z h g) (h2 : Fa Y g f) (hs : ∀ y, y ∈ Y → y ∈ Z ∨ y % 1000000 ∈ Z ∨ hN h ≤ y % 1000000) : Fa Z h f := by
  obtain ⟨a1, a2, a3⟩ := h1
  obtain ⟨b1, b2, b3⟩ := h2
  refine ⟨by omega, fun a ha => ⟨(b2 a (by omega)).1.trans (a2 a ha).1, (b2 a (by omega)).2.trans (a2 a ha).2⟩, fun a j hn hl ha hb => ?_⟩
  have x := a3 a j hn hl ha hb
  have y : hI f a j = hI g a j ∧ hJ f a j = hJ g a j ∧ hQ f a j = hQ g a j := by
    refine b3 a j (by omega) hl (fun z => ?_) (fun z => ?_)
    · rcases hs _ z with q | q | q
      · exact ha q
      · rw [Nat.mod_eq_of_lt hl] at q; exact ha q
      · rw [Nat.mod_eq_of_lt hl] at q; omega
    · rcases hs _ z with q | q | q
      · exact hb q
      · rw [show (1000000 * (j + 1) + a) % 1000000 = a by omega] at q; exact ha q
      · rw [show (1000000 * (j + 1) + a) % 1000000 = a by omega] at q; omega
  exact ⟨y.1.trans x.1, y.2.1.trans x.2.1, y.2.2.trans x.2.2⟩
/-- a scene stays where its places and what is marked stay -/
theorem ScR.ag {τ : Nat → Nat} {h g : Hp} {s : Nat} {E an : Nat → Nat} {pl : Nat} (hS : ScR τ h s E an pl) (ha : Ag τ h g) (e0 : hQ g s 2 = hQ h s 2) (e1 : hI g (s + 1) = hI h (s + 1)) (e2 : hI g (s + 2) = hI h (s + 2)) (e3 : hI g s 3 = hI h s 3) : ScR τ g s E an pl := by
  obtain ⟨p0, hH, p1, p2⟩ := hS
  have rqe : rq g s 2 = rq h s 2 := by unfold rq; rw [e0]
  refine ⟨by rw [rqe, e0]; exact p0, by rw [rqe]; exact hH.ag ha, fun d hd => ⟨?_, ?_⟩, by rw [e3]; exact p2⟩
  · rw [e1]; exact (p1 d hd).1
  · rw [e2]; exact (p1 d hd).2
/-- the two rows of a search are there -/
def PR (h : Hp) (po pq : Nat) : Prop := (po < hN h ∧ pq < hN h) ∧ hQ h 51 3 = some po ∧ hQ h 51 4 = some pq ∧ hK h po = 12 ∧ hL h po = 24300 ∧ hK h pq = 12 ∧ hL h pq = 24300 ∧ 98 ≤ po ∧ 98 ≤ pq ∧ po ≠ pq ∧ po < 1000000 ∧ pq < 1000000
theorem s_72 {h : Hp} {po pq : Nat} (hF : Fix h) (hN1 : hN h + 2 < 1000000) (hr : hQ h 51 3 = none ∨ PR h po pq) :
    ∃ g po' pq', f_72 (some 51) h = some g ∧ PR g po' pq' ∧ Fa [4000051, 5000051] h g ∧ hN g ≤ hN h + 2 ∧ hC g ≤ hC h + 2 ∧ hS g ≤ hS h + 48600 ∧ ((po' = po ∧ pq' = pq ∧ g = h) ∨ (hN h ≤ po' ∧ hN h ≤ pq')) := by
  have n98 : 98 ≤ hN h := hF.1
  have k51 := K51 hF
  rcases hr with hr | hr
  · generalize e1 : hNew h 12 24300 24300 = g1
    generalize e2 : sQ g1 51 3 (some (hN h)) = g2
    generalize e3 : hNew g2 12 24300 24300 = g3
    generalize e4 : sQ g3 51 4 (some (hN g2)) = g4
    have N1 : hN g1 = hN h + 1 := by rw [← e1, hN_new]
    have N2 : hN g2 = hN h + 1 := by rw [← e2, hN_sQ]; exact N1
    have N3 : hN g3 = hN h + 2 := by rw [← e3, hN_new, N2]
    have N4 : hN g4 = hN h + 2 := by rw [← e4, hN_sQ]; exact N3
    have K1 : ∀ a, hK g1 a = if a = hN h then 12 else hK h a := fun a => by rw [← e1, hK_new]
    have K2 : hK g2 = hK g1 := by rw [← e2]; rfl
    have K3 : ∀ a, hK g3 a = if a = hN h + 1 then 12 else hK g2 a := fun a => by rw [← e3, hK_new, N2]
    have K4 : hK g4 = hK g3 := by rw [← e4]; rfl
    have L1 : ∀ a, hL g1 a = if a = hN h then 24300 else hL h a := fun a => by rw [← e1, hL_new]
    have L2 : hL g2 = hL g1 := by rw [← e2]; rfl
    have L3 : ∀ a, hL g3 a = if a = hN h + 1 then 24300 else hL g2 a := fun a => by rw [← e3, hL_new, N2]
    have L4 : hL g4 = hL g3 := by rw [← e4]; rfl
    have Q2 : hQ g2 51 3 = some (hN h) := by rw [← e2, hQ_sQ, if_pos ⟨rfl, rfl⟩]
    have Q3 : hQ g3 51 = hQ g2 51 := by rw [← e3, hQ_new, if_neg (by rw [N2]; omega)]
    have k1 : hK g1 51 = 6 := by rw [K1, if_neg (by omega)]; exact k51
    have k3 : hK g3 51 = 6 := by rw [K3, if_neg (by omega), K2]; exact k1
    have f1 : Fa [4000051, 5000051] h g1 := by rw [← e1]; exact Fa.new
    have f2 : Fa [4000051, 5000051] h g2 := by rw [← e2]; exact f1.sQ (Or.inr (Or.inl (by simp)))
    have f3 : Fa [4000051, 5000051] h g3 := f2.then (by rw [← e3]; exact Fa.new)
    have f4 : Fa [4000051, 5000051] h g4 := by rw [← e4]; exact f3.sQ (Or.inr (Or.inl (by simp)))
    refine ⟨g4, hN h, hN h + 1, ?_, ⟨⟨by omega, by omega⟩, ?_, ?_, ?_, ?_, ?_, ?_, by omega, by omega, by omega, by omega, by omega⟩, f4, by omega, ?_, ?_, Or.inr ⟨by omega, by omega⟩⟩
    · have u1 : nA 12 (nI 24300) h = some g1 := by rw [nA_e (by omega) (by omega), e1]
      have u2 : pQ 6 3 (some 51) (some (hN h)) g1 = some g2 := by rw [pQ_e k1 (by omega), e2]
      have u3 : nA 12 (nI 24300) g2 = some g3 := by rw [nA_e (by omega) (by omega), e3]
      have u4 : pQ 6 4 (some 51) (some (hN g2)) g3 = some g4 := by rw [pQ_e k3 (by omega), e4]
      rw [f_72, b_72_0]
      simp only [gQ_e k51, hr, Option.bind_some, if_true]
      rw [b_72_14]
      simp only [u1, u2, u3, u4, Option.bind_some]
      rw [b_72_32]
    · rw [← e4, hQ_sQ, if_neg (by omega), Q3]; exact Q2
    · rw [← e4, hQ_sQ, if_pos ⟨rfl, rfl⟩, N2]
    · rw [K4, K3, if_neg (by omega), K2, K1, if_pos rfl]
    · rw [L4, L3, if_neg (by omega), L2, L1, if_pos rfl]
    · rw [K4, K3, if_pos rfl]
    · rw [L4, L3, if_pos rfl]
    · rw [← e4, hC_sQ, ← e3, hC_new, ← e2, hC_sQ, ← e1, hC_new]; omega
    · rw [← e4, hS_sQ, ← e3, hS_new, ← e2, hS_sQ, ← e1, hS_new]; omega
  · refine ⟨h, po, pq, ?_, hr, Fa.rfl', by omega, by omega, by omega, Or.inl ⟨rfl, rfl, rfl⟩⟩
    rw [f_72, b_72_0]
    simp only [gQ_e k51, hr.2.1, Option.bind_some, reduceCtorEq, if_false]
    rw [b_72_7]
    simp only [gQ_e k51, hr.2.2.1, Option.bind_some, reduceCtorEq, not_false_eq_true, if_true]
    rw [b_72_32]
/-- where a search begins -/
def S00 : (Nat → Nat) × (Nat → Nat) × Nat := (fun _ => 0, fun _ => 0, 0)
theorem QI.one {E : Nat → Nat} {st : Nat} (hst : st < 24300) (hV : VA E (dcn E st) (st % 100 + 1)) : QI E (seeS S00 st 1) := by
  have e : seeS S00 st 1 = (upn (fun _ => 0) st 1, upn (fun _ => 0) 0 st, 1) := rfl
  have q0 : upn (fun _ => 0) 0 st 0 = st := by unfold upn; rw [if_pos rfl]
  have s0 : upn (fun _ => 0) st 1 st = 1 := by unfold upn; rw [if_pos rfl]
  rw [e]
  refine ⟨by show 0 < 1; omega, ?_, fun i hi => ?_, fun x hx => ?_, fun i j hij hj => ?_, fun i h0 hi => ?_⟩
  · show upn (fun _ => 0) st 1 (upn (fun _ => 0) 0 st 0) = 1
    rw [q0, s0]
  · have hi : i < 1 := hi
    obtain rfl : i = 0 := by omega
    show upn (fun _ => 0) 0 st 0 < 24300 ∧ upn (fun _ => 0) st 1 (upn (fun _ => 0) 0 st 0) ≠ 0 ∧ VA E (dcn E (upn (fun _ => 0) 0 st 0)) (upn (fun _ => 0) 0 st 0 % 100 + 1)
    rw [q0, s0]
    exact ⟨hst, by omega, hV⟩
  · have hx : upn (fun _ => 0) st 1 x ≠ 0 := hx
    refine ⟨0, by show 0 < 1; omega, ?_⟩
    show upn (fun _ => 0) 0 st 0 = x
    rw [q0]
    unfold upn at hx
    by_cases c : x = st
    · exact c.symm
    · rw [if_neg c] at hx; exact absurd rfl hx
  · have hj : j < 1 := hj
    omega
  · have hi : i < 1 := hi
    omega
theorem s_70 {τ : Nat → Nat} {h : Hp} {E an : Nat → Nat} {pl : Nat} {q : Option Nat} (hF : Fix h) (hS : ScR τ h 33 E an pl) (h10 : E 2 ≤ 10) (hp : pl ≤ 100) : f_70 q (some 33) h = some (bI (decide (pl ≠ 0 ∧ E 2 ≤ 5)), h) := by
  obtain ⟨p0, hH, p1, p2⟩ := hS
  obtain ⟨k, ge, t, a0, a1, a2, ⟨f0, f1, f2, f3, f4⟩, hcl, _, hw⟩ := hH
  rw [f_70, b_70_0]
  simp (disch := first | assumption | (repeat' (first | apply fx_sI | apply fx_sJ | assumption | omega))) only [gI_e (K33 hF), p2, Option.bind_some, mI_lt0 (show pl < 2147483648 by omega)]
  by_cases c : pl = 0
  · rw [if_pos c, bI_F (by omega)]; rfl
  · rw [if_neg c, b_70_7]
    simp (disch := first | assumption | (repeat' (first | apply fx_sI | apply fx_sJ | assumption | omega))) only [gQ_e (K33 hF), p0, gI_e k, f2, Option.bind_some, nI_ltI]
    by_cases c5 : 5 < E 2
    · rw [if_pos c5, bI_F (by omega)]; rfl
    · rw [if_neg c5, bI_T (by omega)]; rfl
section FIND2
variable {τ : Nat → Nat} {E : Nat → Nat}
/-- where it ends stands in the queue -/
theorem bf_fd {cl : Nat} (hW : WF E) (h5 : E 2 ≤ 5) : ∀ f i (S : (Nat → Nat) × (Nat → Nat) × Nat) st, QI E S → (bfS E cl f i S).1 = st + 1 → ∃ j, j < (bfS E cl f i S).2.2.2 ∧ (bfS E cl f i S).2.2.1 j = st := by
  intro f
  induction f with
  | zero => intro i S st _ hz; exact absurd hz (by show ¬ 0 = st + 1; omega)
  | succ f ih =>
    intro i S st hQI hz
    have es : bfS E cl (f + 1) i S = if S.2.2 ≤ i then (0, S) else if S.2.1 i % 100 + 1 = cl then (S.2.1 i + 1, S) else bfS E cl f (i + 1) (exS E (S.2.1 i) (4 + 2 * E 2) 0 S) := rfl
    rw [es] at hz ⊢
    by_cases c1 : S.2.2 ≤ i
    · rw [if_pos c1] at hz; exact absurd hz (by show ¬ 0 = st + 1; omega)
    · rw [if_neg c1] at hz ⊢
      by_cases c2 : S.2.1 i % 100 + 1 = cl
      · rw [if_pos c2] at hz ⊢
        have hz : S.2.1 i + 1 = st + 1 := hz
        exact ⟨i, by show i < S.2.2; omega, by show S.2.1 i = st; omega⟩
      · rw [if_neg c2] at hz ⊢
        exact ih (i + 1) _ st (hQI.ex hW h5 (k := i) (4 + 2 * E 2) 0 S (by omega) (by omega) rfl).1 hz
def fnd (E : Nat → Nat) (cl : Nat) : Nat × (Nat → Nat) × (Nat → Nat) × Nat := bfS E cl 24301 0 (seeS S00 (enc E (anE E) (E 340)) 1)
theorem fx_ne {h : Hp} {po pq : Nat} (hP : PR h po pq) : po ≠ 51 ∧ po ≠ 53 ∧ po ≠ 54 ∧ po ≠ 55 ∧ pq ≠ 51 ∧ pq ≠ 53 ∧ pq ≠ 54 ∧ pq ≠ 55 := by
  obtain ⟨_, a1, a2, a3, a4, a5, a6, a7, a8, a9, a10, a11⟩ := hP
  omega
/-- the class's find and its count of steps: their beginning -/
theorem s_71a {h : Hp} {po pq : Nat} (hF : Fix h) (hT : TG τ) (hN' : ∀ p, τ p = 1 → p < hN h) (hN1 : hN h + 2 < 1000000) (hr : hQ h 51 3 = none ∨ PR h po pq ∧ τ po ≠ 1 ∧ τ pq ≠ 1) (hSc : ScR τ h 33 E (anE E) (E 340)) (hW : WF E) :
    ∃ g1 g2 g3 po' pq', (f_72 (some 51) h = some g1 ∧ Fix g1 ∧ hQ g1 51 3 = some po' ∧ f_306 (some po') (nI 0) g1 = some g2 ∧ Fix g2 ∧ f_84 (some 53) (some 33) g2 = some g3 ∧ Fix g3) ∧
      CB (sI g3 51 5 (nI 0)) po' pq' S00 ∧ Fa [4000051, 5000051, 6000051, 3000053, 4000053, 54, 55, po, pq] h (sI g3 51 5 (nI 0)) ∧ ScR τ (sI g3 51 5 (nI 0)) 33 E (anE E) (E 340) ∧ ScR τ (sI g3 51 5 (nI 0)) 53 E (anE E) (E 340) ∧ hN g3 ≤ hN h + 2 ∧ hC g3 ≤ hC h + 2 ∧ hS g3 ≤ hS h + 48600 ∧ ((po' = po ∧ pq' = pq) ∨ (hN h ≤ po' ∧ hN h ≤ pq')) ∧ (τ po' ≠ 1 ∧ τ pq' ≠ 1) ∧ po' < hN g3 ∧ pq' < hN g3 := by
  have hr' : hQ h 51 3 = none ∨ PR h po pq := by rcases hr with q | q; exact Or.inl q; exact Or.inr q.1
  have n98 : 98 ≤ hN h := hF.1
  obtain ⟨g1, po', pq', a1, a2, a3, a4, a5, a6, a7⟩ := s_72 hF hN1 hr'
  have tt : τ po' ≠ 1 ∧ τ pq' ≠ 1 := by
    rcases a7 with ⟨e1, e2, e3⟩ | ⟨q1, q2⟩
    · rcases hr with q | q
      · subst e3; have := a2.2.1; rw [q] at this; cases this
      · rw [e1, e2]; exact q.2
    · exact ⟨fun z => by have := hN' _ z; omega, fun z => by have := hN' _ z; omega⟩
  have hF1 : Fix g1 := a3.fix hF (by decide) (by decide)
  have t1 : ∀ p, p < 60 → τ p ≠ 1 := fun p hp z => by have := (hT p z).1; omega
  have ag1 : Ag τ h g1 := a3.ag hT hN' (by
    intro z hz
    simp only [List.mem_cons, List.not_mem_nil, or_false] at hz
    rcases hz with rfl | rfl
    · exact t1 51 (by omega)
    · exact t1 51 (by omega))
  obtain ⟨b0, b1, b2, b3, b4, b5, b6, b7, b8, b9, b10, b11⟩ := id a2
  obtain ⟨g2, c1, c2, c3⟩ := s_306 (x := nI 0) (show 30 ≤ po' by omega) (show 24300 ≤ 60000 by omega) b3 b4
  have hF2 : Fix g2 := c2.fix hF1 (by intro z hz; simp only [List.mem_cons, List.not_mem_nil, or_false] at hz; omega)
  have N2 : hN g2 = hN g1 := c2.N
  have N1' : ∀ x, τ x = 1 → x < hN g1 := fun p hp => by have := hN' p hp; have := a3.1; omega
  have ag2 : Ag τ g1 g2 := c2.fa.ag hT N1' (by
    intro z hz
    simp only [List.mem_cons, List.not_mem_nil, or_false] at hz
    rw [hz, Nat.mod_eq_of_lt b10]; exact tt.1)
  have f12 : Fa [4000051, 5000051, 6000051, 3000053, 4000053, 54, 55, po, pq] h g2 := (a3.wid (by intro z hz; simp only [List.mem_cons, List.not_mem_nil, or_false] at hz ⊢; omega)).thn c2.fa (by
    intro y hy
    simp only [List.mem_cons, List.not_mem_nil, or_false] at hy ⊢
    rcases a7 with ⟨e1, _, _⟩ | ⟨q1, q2⟩ <;> omega)
  have lo2 : ∀ a, a = 33 ∨ a = 34 ∨ a = 35 → hI g2 a = hI h a ∧ hQ g2 a = hQ h a := by
    intro a ha
    have x1 := a3.all (a := a) (by omega) (by intro z hz; simp only [List.mem_cons, List.not_mem_nil, or_false] at hz; omega) (by omega)
    have x2 := c2.I (a := a) (by intro z hz; simp only [List.mem_cons, List.not_mem_nil, or_false] at hz; omega) (by omega)
    exact ⟨by rw [x2]; exact x1.1, by rw [c2.Q]; exact x1.2.2⟩
  have hS2 : ScR τ g2 33 E (anE E) (E 340) := hSc.ag (ag1.then ag2) (by rw [(lo2 33 (by omega)).2]) (lo2 34 (by omega)).1 (lo2 35 (by omega)).1 (by rw [(lo2 33 (by omega)).1])
  have N2' : ∀ x, τ x = 1 → x < hN g2 := fun p hp => by have := N1' p hp; omega
  obtain ⟨g3, d1, d2', d3', d4, d5, d6⟩ := s_84 (q := 53) (qh := 54) (qa := 55) hT N2' (hS2.g hF2 (Or.inl rfl)) (K53 hF2) (Q53_0 hF2) (Q53_1 hF2) (K54 hF2) (L54 hF2) (K55 hF2) (L55 hF2) (by omega) (by omega) ⟨t1 53 (by omega), t1 54 (by omega), t1 55 (by omega)⟩ (by omega) hW.2.2.1
  have hF3 : Fix g3 := d2'.fix hF2 (by decide) (by decide)
  have n2 : 98 ≤ hN g2 := hF2.1
  have ag3 : Ag τ g2 g3 := d2'.ag hT N2' (by
    intro z hz
    simp only [List.mem_cons, List.not_mem_nil, or_false] at hz
    rcases hz with rfl | rfl | rfl | rfl
    · exact t1 53 (by omega)
    · exact t1 53 (by omega)
    · exact t1 54 (by omega)
    · exact t1 55 (by omega))
  have lo3 : ∀ a, a = 33 ∨ a = 34 ∨ a = 35 ∨ a = po' ∨ a = pq' ∨ a = 51 → hI g3 a = hI g2 a ∧ hQ g3 a = hQ g2 a := by
    intro a ha
    have x1 := d2'.all (a := a) (by omega) (by intro z hz; simp only [List.mem_cons, List.not_mem_nil, or_false] at hz; omega) (by omega)
    exact ⟨x1.1, x1.2.2⟩
  have hS3 : ScR τ g3 33 E (anE E) (E 340) := hS2.ag ag3 (by rw [(lo3 33 (by omega)).2]) (lo3 34 (by omega)).1 (lo3 35 (by omega)).1 (by rw [(lo3 33 (by omega)).1])
  have ag4 : Ag τ g3 (sI g3 51 5 (nI 0)) := fun p hp => ⟨rfl, rfl, rfl, by funext j; rw [hI_sI, if_neg (fun z => t1 51 (by omega) (by rw [← z.1]; exact hp))], rfl⟩
  have kk := d2'.2.1
  refine ⟨g1, g2, g3, po', pq', ⟨a1, hF1, b1, c1, hF2, d1, hF3⟩, ⟨⟨?_, ?_, ?_, ?_, ?_, ?_, b7, b8, b9, b10, b11⟩, fun st hst => ?_, fun i hi => absurd hi (Nat.not_lt_zero i), by rw [hI_sI, if_pos ⟨rfl, rfl⟩]; rfl⟩, ?_, ?_, ?_, by omega, ?_, ?_, ?_, tt, by omega, by omega⟩
  · rw [hQ_sI, (lo3 51 (by omega)).2, c2.Q]; exact b1
  · rw [hQ_sI, (lo3 51 (by omega)).2, c2.Q]; exact b2
  · rw [hK_sI, (kk po' (by omega)).1, c2.K]; exact b3
  · rw [hL_sI, (kk po' (by omega)).2, c2.L]; exact b4
  · rw [hK_sI, (kk pq' (by omega)).1, c2.K]; exact b5
  · rw [hL_sI, (kk pq' (by omega)).2, c2.L]; exact b6
  · rw [hI_sI, if_neg (by omega), (lo3 po' (by omega)).1]; exact c3 st hst
  · exact Fa.sI (f12.thn d2' (by intro z hz; simp only [List.mem_cons, List.not_mem_nil, or_false] at hz ⊢; omega)) (Or.inr (Or.inl (by simp)))
  · exact hS3.ag ag4 rfl (by funext j; rw [hI_sI, if_neg (by omega)]) (by funext j; rw [hI_sI, if_neg (by omega)]) (by rw [hI_sI, if_neg (by omega)])
  · exact (ScG.r d6).ag ag4 rfl (by funext j; rw [hI_sI, if_neg (by omega)]) (by funext j; rw [hI_sI, if_neg (by omega)]) (by rw [hI_sI, if_neg (by omega)])
  · have := c2.C; omega
  · have := c2.S; omega
  · rcases a7 with ⟨e1, e2, _⟩ | q
    · exact Or.inl ⟨e1, e2⟩
    · exact Or.inr q
/-- the class's find -/
theorem s_71 {h : Hp} {po pq cl : Nat} (hF : Fix h) (hT : TG τ) (hN' : ∀ p, τ p = 1 → p < hN h) (hN1 : hN h + 2 < 1000000) (hr : hQ h 51 3 = none ∨ PR h po pq ∧ τ po ≠ 1 ∧ τ pq ≠ 1) (hSc : ScR τ h 33 E (anE E) (E 340)) (hW : WF E) (hV : VA E (anE E) (E 340)) (h5 : E 2 ≤ 5) (h0 : E 340 ≠ 0) (hcl : cl ≤ 100) :
    ∃ g po' pq', f_71 (some 51) (some 33) (mI cl) h = some (mI (fnd E cl).1, g) ∧ CB g po' pq' (fnd E cl).2 ∧ QI E (fnd E cl).2 ∧ Fa [4000051, 5000051, 6000051, 3000053, 4000053, 54, 55, po, pq] h g ∧ Fix g ∧ hN g ≤ hN h + 2 ∧ hC g ≤ hC h + 2 ∧ hS g ≤ hS h + 48600 ∧ ((po' = po ∧ pq' = pq) ∨ (hN h ≤ po' ∧ hN h ≤ pq')) ∧ (τ po' ≠ 1 ∧ τ pq' ≠ 1) ∧ po' < hN g ∧ pq' < hN g := by
  obtain ⟨g1, g2, g3, po', pq', ⟨u1, hF1, u2, u3, hF2, u4, hF3⟩, hC, fr, _, hS53, n1, n2, n3, n4, n5, n6, n7⟩ := s_71a hF hT hN' hN1 hr hSc hW
  have hF4 : Fix (sI g3 51 5 (nI 0)) := fx_sI hF3 (by omega)
  have e := enc_dcn (E := E) (an := anE E) (pl := E 340) hV.1 (fun _ _ => rfl) h0 hV.2.2.2
  have lt := enc_lt (E := E) (an := anE E) (pl := E 340) hV.1 h5 hV.2.2.2
  have e75 := s_75 hF4 hS53 (by omega) h0 hV.2.2.2
  have hV' : VA E (dcn E (enc E (anE E) (E 340))) (enc E (anE E) (E 340) % 100 + 1) := by rw [e.1, e.2]; exact hV
  obtain ⟨g5, b1, b2, b3⟩ := s_74 (st := enc E (anE E) (E 340)) (v := 1) hF4 hC lt (fun _ => by show 0 < 24300; omega) (by show 0 < 1000000; omega)
  have cb := hC.1
  have hF5 : Fix g5 := b2.fix hF4 (by intro z hz; simp only [List.mem_cons, List.not_mem_nil, or_false] at hz; omega)
  have hQI := QI.one (E := E) lt hV'
  have t1 : ∀ p, p < 60 → τ p ≠ 1 := fun p hp z => by have := (hT p z).1; omega
  have tg := b2.tag2 hT (by
    intro z hz
    simp only [List.mem_cons, List.not_mem_nil, or_false] at hz
    rcases hz with rfl | rfl | rfl
    · rw [Nat.mod_eq_of_lt (by omega)]; exact n5.1
    · rw [Nat.mod_eq_of_lt (by omega)]; exact n5.2
    · exact t1 51 (by omega))
  have i5 : ∀ a, a = 53 ∨ a = 54 ∨ a = 55 → hI g5 a = hI (sI g3 51 5 (nI 0)) a := fun a ha => b2.I (a := a) (by intro z hz; simp only [List.mem_cons, List.not_mem_nil, or_false] at hz; omega) (by omega)
  have hS5 := hS53.cg b2.K b2.L b2.Q tg (fun d _ => by rw [i5 _ (Or.inr (Or.inl rfl))]) (fun d hd => by rw [i5 _ (Or.inr (Or.inr rfl))]; exact (hS53.2.2.1 d hd).2) (by rw [i5 _ (Or.inl rfl)]; exact hS53.2.2.2)
  obtain ⟨m, hm⟩ := FU_ge (24300 + 1) (by omega)
  obtain ⟨g, an', pl', d1, d2', d3', d4, d5⟩ := l_71 hT n5.1 n5.2 hW h5 hcl 24300 0 m g5 _ _ _ (by omega) hF5 b3 hQI hS5
  have N5 : hN g = hN g3 := d2'.N.trans b2.N
  refine ⟨g, po', pq', ?_, d3', d4, ?_, ?_, by omega, ?_, ?_, n4, n5, by omega, by omega⟩
  · rw [f_71, b_71_0]
    simp (disch := first | assumption | (repeat' (first | apply fx_sI | apply fx_sJ | assumption | omega))) only [bnd_e, grd_e, grd0, grd1, Option.bind_some, Option.isSome_some, gQ30_0, gQ30_1, gQ30_2, gQ30_3, gQ30_4, gQ30_5, gQ30_6, gQ30_7, gQ30_8, gQ30_9, gQ31_0, gQ33_0, gQ33_1, gQ36_0, gQ36_1, gQ39_0, gQ39_3, gQ39_4, gQ39_6, gQ39_8, gQ39_10, gQ39_11, gQ39_12, gQ48_0, gQ48_1, gQ51_2, gQ53_0, gQ53_1, gQ60_0, gQ60_1, gQ60_2, gQ64_1, gQ64_14, gQ64_15, gQ64_16, gQ64_17, gQ64_18, gQ64_19, gQ64_20, gQ64_21, gQ64_24, gQ64_25, gQ64_27, gQ64_28, gQ64_29, gQ64_30, gQ64_31, gQ64_34, gQ64_35, gQ64_36, gQ64_39, gQ64_40, gQ64_41, gQ64_43, gQ64_44, gQ64_48, gQ64_50, gQ64_51, gQ64_52, gQ64_53, gQ64_54, gQ64_58, gQ64_59, gI30, gJ30, pI30, pJ30, rC30, gI31, gJ31, pI31, pJ31, rC31, gI33, gJ33, pI33, pJ33, rC33, gI36, gJ36, pI36, pJ36, rC36, gI39, gJ39, pI39, pJ39, rC39, gI48, gJ48, pI48, pJ48, rC48, gI51, gJ51, pI51, pJ51, rC51, gI53, gJ53, pI53, pJ53, rC53, gI60, gJ60, pI60, pJ60, rC60, gI64, gJ64, pI64, pJ64, rC64, hF, u1, gQ_e (K51 hF1), u2, u3, hF2, u4, hF3, hF4, e75, b1]
    rw [hm]
    exact d1
  · refine (fr.thn b2.fa ?_).thn d2'.fa ?_
    · intro y hy
      simp only [List.mem_cons, List.not_mem_nil, or_false] at hy ⊢
      omega
    · intro y hy
      simp only [List.mem_cons, List.not_mem_nil, or_false] at hy ⊢
      omega
  · exact d2'.fix hF5 (by intro z hz; simp only [List.mem_cons, List.not_mem_nil, or_false] at hz; omega)
  · have := d2'.C; have := b2.C; rw [hC_sI] at this; omega
  · have := d2'.S; have := b2.S; rw [hS_sI] at this; omega
end FIND2
