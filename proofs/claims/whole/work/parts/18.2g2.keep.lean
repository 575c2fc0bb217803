/-! image, restore of the class -/
def Shp (h : Hp) (p ph pa : Nat) : Prop := (hK h p = 7 ∧ hQ h p 0 = some ph ∧ hQ h p 1 = some pa ∧ hK h ph = 12 ∧ hL h ph = 10 ∧ hK h pa = 12 ∧ hL h pa = 10) ∧ (98 ≤ p ∧ 98 ≤ ph ∧ 98 ≤ pa ∧ p ≠ ph ∧ p ≠ pa ∧ ph ≠ pa) ∧ (p < hN h ∧ ph < hN h ∧ pa < hN h)
theorem hQ_newl {g : Hp} {c n s p : Nat} (hp : p < hN g) : hQ (hNew g c n s) p = hQ g p := by rw [hQ_new, if_neg (by omega)]
theorem s_82 {h : Hp} {b : Nat} (hb : hN h = b) (h98 : 30 ≤ b) : ∃ g, f_82 (some b) (hNew h 7 0 (bd_nf 7)) = some g ∧ Fa [] h g ∧ hN g = b + 3 ∧ hC g = hC h + 3 ∧ hS g = hS h + 24 ∧ hK g b = 7 ∧ hQ g b 0 = some (b + 1) ∧ hQ g b 1 = some (b + 2) ∧ (hK g (b + 1) = 12 ∧ hL g (b + 1) = 10) ∧ hK g (b + 2) = 12 ∧ hL g (b + 2) = 10 := by
  generalize e0 : hNew h 7 0 (bd_nf 7) = g0
  generalize e1 : hNew g0 12 10 10 = g1
  generalize e2 : sQ g1 b 0 (some (hN g0)) = g2
  generalize e3 : hNew g2 12 10 10 = g3
  generalize e4 : sQ g3 b 1 (some (hN g2)) = g4
  generalize e5 : sI g4 b 3 (-1) = g5
  have N0 : hN g0 = b + 1 := by rw [← e0, hN_new, hb]
  have N2 : hN g2 = b + 2 := by rw [← e2, hN_sQ, ← e1, hN_new, N0]
  have N5 : hN g5 = b + 3 := by rw [← e5, hN_sI, ← e4, hN_sQ, ← e3, hN_new, N2]
  have k1 : hK g1 b = 7 := by rw [← e1, hK_new, N0, if_neg (by omega), ← e0, hK_new, if_pos hb.symm]
  have k3 : hK g3 b = 7 := by rw [← e3, hK_new, N2, if_neg (by omega), ← e2, hK_sQ]; exact k1
  have k4 : hK g4 b = 7 := by rw [← e4, hK_sQ]; exact k3
  have f0 : Fa [] h g0 := by rw [← e0]; exact Fa.new
  have f2 : Fa [] h g2 := by rw [← e2]; exact (f0.then (by rw [← e1]; exact Fa.new)).sQ (Or.inr (Or.inr (by omega)))
  have f4 : Fa [] h g4 := by rw [← e4]; exact (f2.then (by rw [← e3]; exact Fa.new)).sQ (Or.inr (Or.inr (by omega)))
  refine ⟨g5, ?_, by rw [← e5]; exact f4.sI (Or.inr (Or.inr (by omega))), N5, ?_, ?_, by rw [← e5, hK_sI]; exact k4, ?_, ?_, ⟨?_, ?_⟩, ?_, ?_⟩
  · rw [f_82, b_82_0, Option.isSome_some, grd_e, Option.bind_some, nA_e (by omega) (by omega), Option.bind_some, e1, pQ_e k1 h98, Option.bind_some, e2, nA_e (by omega) (by omega), Option.bind_some, e3, pQ_e k3 h98, Option.bind_some, e4, pI_e k4 h98, Option.bind_some, e5]
  · rw [← e5, hC_sI, ← e4, hC_sQ, ← e3, hC_new, ← e2, hC_sQ, ← e1, hC_new, ← e0, hC_new]
  · rw [← e5, hS_sI, ← e4, hS_sQ, ← e3, hS_new, ← e2, hS_sQ, ← e1, hS_new, ← e0, hS_new]; rfl
  · rw [← e5, hQ_sI, ← e4, hQ_sQ, if_neg (by omega), ← e3, hQ_newl (by omega), ← e2, hQ_sQ, if_pos ⟨rfl, rfl⟩, N0]
  · rw [← e5, hQ_sI, ← e4, hQ_sQ, if_pos ⟨rfl, rfl⟩, N2]
  · rw [← e5, hK_sI, ← e4, hK_sQ, ← e3, hK_new, N2, if_neg (by omega), ← e2, hK_sQ, ← e1, hK_new, N0, if_pos rfl]
  · rw [← e5, hL_sI, ← e4, hL_sQ, ← e3, hL_new, N2, if_neg (by omega), ← e2, hL_sQ, ← e1, hL_new, N0, if_pos rfl]
  · rw [← e5, hK_sI, ← e4, hK_sQ, ← e3, hK_new, N2, if_pos rfl]
  · rw [← e5, hL_sI, ← e4, hL_sQ, ← e3, hL_new, N2, if_pos rfl]
theorem cP_Q {q0 q1 : Option Nat} {sp dp n : Int32} {h g : Hp} (e : cP q0 sp q1 dp n h = some g) : hQ g = hQ h := by
  unfold cP at e
  split at e
  · split at e
    · cases e; rfl
    · cases e
  · cases e
theorem s84_q {h g : Hp} {q p : Nat} (e : f_84 (some q) (some p) h = some g) (kq : hK h q = 7) (kp : hK h p = 7) (hq : 30 ≤ q) : hQ g q 2 = hQ h p 2 := by
  rw [f_84, b_84_0, gQ_e kp, Option.bind_some, pQ_e kq hq, Option.bind_some, gI_e (show hK (sQ h q 2 (hQ h p 2)) p = 7 from kp), Option.bind_some, pI_e (show hK (sQ h q 2 (hQ h p 2)) q = 7 from kq) hq, Option.bind_some] at e
  obtain ⟨x5, _, e⟩ := Option.bind_eq_some_iff.1 e
  obtain ⟨x6, _, e⟩ := Option.bind_eq_some_iff.1 e
  obtain ⟨h7, c7, e⟩ := Option.bind_eq_some_iff.1 e
  obtain ⟨x8, _, e⟩ := Option.bind_eq_some_iff.1 e
  obtain ⟨x9, _, e⟩ := Option.bind_eq_some_iff.1 e
  obtain ⟨h10, c10, e⟩ := Option.bind_eq_some_iff.1 e
  cases e
  rw [cP_Q c10, cP_Q c7, hQ_sI, hQ_sQ, if_pos ⟨rfl, rfl⟩]
section KEEP
variable {τ : Nat → Nat} {h : Hp} {E an : Nat → Nat} {pl : Nat} {x : Int32}
/-- a place to keep into -/
theorem kp_make {k : Nat} (hk : k < 2) (hF : Fix h) (hs : hQ h 56 k = none ∨ ∃ p ph pa, hQ h 56 k = some p ∧ Shp h p ph pa) : ∃ g p ph pa, b_169_11 (some 30) (nI k) h = b_169_33 (some 30) (nI k) g ∧ Fa [56] h g ∧ Fix g ∧ (hN g ≤ hN h + 3 ∧ hC g ≤ hC h + 3 ∧ hS g ≤ hS h + 24) ∧ hQ g 56 k = some p ∧ Shp g p ph pa ∧ (∀ j, j ≠ k → hQ g 56 j = hQ h 56 j) ∧ ((g = h ∧ hQ h 56 k = some p ∧ Shp h p ph pa) ∨ (hQ h 56 k = none ∧ p = hN h ∧ ph = hN h + 1 ∧ pa = hN h + 2 ∧ hN g = hN h + 3)) := by
  have n98 := hF.1
  have ea : aQ (some 56) (nI k) h = some (hQ h 56 k) := aQ_n (K56 hF) (by omega) (L56 hF) (by omega) (by omega)
  rw [b_169_11, gQ30_6 hF, Option.bind_some, ea, Option.bind_some]
  rcases hs with z | ⟨p, ph, pa, z, sh⟩
  · obtain ⟨g, a1, a2, a3, a4, a5, a6, a7, a8, ⟨a9, a10⟩, a11, a12⟩ := s_82 (h := h) (b := hN h) rfl (by omega)
    have F1 : Fix g := a2.fix hF (by decide) (by decide)
    have f2 : Fa [56] h (sQ g 56 k (some (hN h))) := (a2.wid (by decide)).sQ (Or.inl (by decide))
    have w : wQ (some 56) (nI k) (some (hN h)) g = some (sQ g 56 k (some (hN h))) := wQ_s (by rw [K56 F1]; omega) (by omega) (by rw [L56 F1]; omega) (by omega) (by omega) (by rw [a6, K56 F1]; rfl)
    rw [z, if_neg (fun z => z rfl), b_169_20, gQ30_6 hF, Option.bind_some, bnd_e, Option.isSome_some, grd_e, Option.bind_some, a1, Option.bind_some, w, Option.bind_some]
    refine ⟨sQ g 56 k (some (hN h)), hN h, hN h + 1, hN h + 2, rfl, f2, f2.fix hF (by decide) (by decide), ⟨by rw [hN_sQ]; omega, by rw [hC_sQ]; omega, by rw [hS_sQ]; omega⟩, by rw [hQ_sQ, if_pos ⟨rfl, rfl⟩], ⟨⟨a6, by rw [hQ_sQ, if_neg (by omega)]; exact a7, by rw [hQ_sQ, if_neg (by omega)]; exact a8, a9, a10, a11, a12⟩, by omega, by rw [hN_sQ]; omega⟩, fun j hj => ?_, Or.inr ⟨rfl, rfl, rfl, rfl, by rw [hN_sQ]; exact a3⟩⟩
    rw [hQ_sQ, if_neg (fun z => hj z.2)]
    rw [(a2.all (a := 56) (by omega) (by decide)).2.2]
  · rw [z, if_pos (fun z => by cases z)]
    exact ⟨h, p, ph, pa, rfl, Fa.rfl', hF, by omega, z, sh, fun _ _ => rfl, Or.inl ⟨rfl, rfl, sh⟩⟩
theorem s_169 {k : Nat} (hk : k < 2) (hF : Fix h) (hT : TG τ) (hN' : ∀ q, τ q = 1 → q < hN h) (hN1 : hN h + 10 < 1000000) (hR : ScR τ h 33 E an pl) (hW : WF E) (hs : hQ h 56 k = none ∨ ∃ p ph pa, hQ h 56 k = some p ∧ Shp h p ph pa ∧ τ p ≠ 1 ∧ τ ph ≠ 1 ∧ τ pa ≠ 1)
    (h11 : hQ h 30 11 = none ∨ ∃ q, hQ h 30 11 = some q ∧ hK h q = 0 ∧ 30 ≤ q ∧ q < hN h) (h12 : hQ h 30 12 = none ∨ ∃ q, hQ h 30 12 = some q ∧ hK h q = 8 ∧ 30 ≤ q ∧ q < hN h) :
    ∃ g p ph pa, f_169 (some 30) (nI k) h = some (nI 1, g) ∧ Fa ([56, 57, 58] ++ [p, ph, pa]) h g ∧ Fix g ∧ (hN g ≤ hN h + 3 ∧ hC g ≤ hC h + 3 ∧ hS g ≤ hS h + 24) ∧ hQ g 56 k = some p ∧ ScG τ g p ph pa E an pl ∧ rq g p 2 = rq h 33 2 ∧ hQ g 57 k = hQ h 30 11 ∧ hQ g 58 k = hQ h 30 12 ∧ (∀ j, j ≠ k → hQ g 56 j = hQ h 56 j ∧ hQ g 57 j = hQ h 57 j ∧ hQ g 58 j = hQ h 58 j) ∧ (98 ≤ p ∧ 98 ≤ ph ∧ 98 ≤ pa ∧ p < hN g ∧ ph < hN g ∧ pa < hN g) ∧
      ((hQ h 56 k = some p ∧ Shp h p ph pa ∧ hN g = hN h) ∨ (hQ h 56 k = none ∧ p = hN h ∧ ph = hN h + 1 ∧ pa = hN h + 2 ∧ hN g = hN h + 3)) := by
  have n98 := hF.1
  have w2 := hW.2.2.1
  have hk1 : hQ h 33 2 = some (rq h 33 2) := hR.1
  have lo : ∀ q, q < 60 → τ q ≠ 1 := fun q hq z => by have := (hT q z).1; omega
  obtain ⟨g1, p, ph, pa, a1, a2, F1, a4, a5, sh, a7, a8⟩ := kp_make hk hF (by
    rcases hs with z | ⟨p, ph, pa, z1, z2, _⟩
    · exact Or.inl z
    · exact Or.inr ⟨p, ph, pa, z1, z2⟩)
  have tp : τ p ≠ 1 ∧ τ ph ≠ 1 ∧ τ pa ≠ 1 := by
    rcases a8 with ⟨_, z1, z2⟩ | ⟨z, e1, e2, e3, _⟩
    · rcases hs with y | ⟨p', ph', pa', y1, y2, y3⟩
      · rw [y] at z1; cases z1
      · rw [y1] at z1
        cases z1
        have q1 := z2.1.2.1
        have q2 := z2.1.2.2.1
        rw [y2.1.2.1] at q1
        rw [y2.1.2.2.1] at q2
        cases q1
        cases q2
        exact y3
    · exact ⟨fun z => by have := hN' _ z; omega, fun z => by have := hN' _ z; omega, fun z => by have := hN' _ z; omega⟩
  have ag1 : Ag τ h g1 := a2.ag hT hN' (fun z hz => by simp only [List.mem_cons, List.not_mem_nil, or_false] at hz; subst hz; exact lo 56 (by omega))
  have R1 : ScR τ g1 33 E an pl := hR.ag ag1 (a2.Q1 (by omega) (by decide) (by decide)) (a2.all (by omega) (by decide)).1 (a2.all (by omega) (by decide)).1 (a2.I1 (by omega) (by decide) (by decide))
  have gN1 := a2.1
  obtain ⟨⟨s1, s2, s3, s4, s5, s6, s7⟩, s8, s9⟩ := id sh
  obtain ⟨g2, b1, b2, b3, b4, b5, b6⟩ := s_84 (q := p) (qh := ph) (qa := pa) hT (fun q hq => by have := hN' q hq; omega) (R1.g F1 (Or.inl rfl)) s1 s2 s3 s4 s5 s6 s7 (by omega) (by omega) tp (by omega) w2
  have F2 : Fix g2 := b2.fix F1 (fun z hz => by simp only [List.mem_cons, List.not_mem_nil, or_false] at hz; omega) (fun q hq => by
    have h98 : q.1 < 98 := (by decide : ∀ q, q ∈ fqT → q.1 < 98) q hq
    constructor <;> simp only [List.mem_cons, List.not_mem_nil, or_false] <;> omega)
  have q30 : hQ g2 30 = hQ h 30 := by rw [(b2.all (a := 30) (by omega) (by intro z hz; simp only [List.mem_cons, List.not_mem_nil, or_false] at hz; omega)).2.2, (a2.all (a := 30) (by omega) (by decide)).2.2]
  have K2 : ∀ q, q < hN h → hK g2 q = hK h q := fun q hq => by rw [(b2.2.1 q (by omega)).1, (a2.2.1 q hq).1]
  generalize x3 : sQ g2 57 k (hQ h 30 11) = g3
  generalize x4 : sQ g3 58 k (hQ h 30 12) = g4
  have f3 : Fa ([56, 57, 58] ++ [p, ph, pa]) g2 g3 := by rw [← x3]; exact Fa.sQ Fa.rfl' (Or.inl (by simp))
  have f4 : Fa ([56, 57, 58] ++ [p, ph, pa]) g3 g4 := by rw [← x4]; exact Fa.sQ Fa.rfl' (Or.inl (by simp))
  have F3 : Fix g3 := by
    have : Fa [57] g2 g3 := by rw [← x3]; exact Fa.sQ Fa.rfl' (Or.inl (by decide))
    exact this.fix F2 (by decide) (by decide)
  have F4 : Fix g4 := by
    have : Fa [58] g3 g4 := by rw [← x4]; exact Fa.sQ Fa.rfl' (Or.inl (by decide))
    exact this.fix F3 (by decide) (by decide)
  have K4 : hK g4 = hK g2 := by rw [← x4, ← x3]; rfl
  have L4 : hL g4 = hL g2 := by rw [← x4, ← x3]; rfl
  have I4 : hI g4 = hI g2 := by rw [← x4, ← x3]; rfl
  have N4 : hN g4 = hN g2 ∧ hC g4 = hC g2 ∧ hS g4 = hS g2 := by rw [← x4, ← x3]; exact ⟨rfl, rfl, rfl⟩
  have Q4 : ∀ q j, q ≠ 57 → q ≠ 58 → hQ g4 q j = hQ g2 q j := fun q j h1 h2 => by rw [← x4, hQ_sQ, if_neg (fun z => h2 z.1), ← x3, hQ_sQ, if_neg (fun z => h1 z.1)]
  have ag4 : Ag τ g2 g4 := by
    refine (?_ : Ag τ g2 g3).then ?_
    · rw [← x3]; exact sQ_ag (lo 57 (by omega))
    · rw [← x4]; exact sQ_ag (lo 58 (by omega))
  have w3 : wQ (some 57) (nI k) (hQ h 30 11) g2 = some g3 := by
    rw [← x3]
    rcases h11 with z | ⟨q, z, zk, z3, z4⟩
    · rw [z]; exact wQ_0 (by rw [K57 F2]; omega) (by omega) (by rw [L57 F2]; omega) (by omega)
    · rw [z]; exact wQ_s (by rw [K57 F2]; omega) (by omega) (by rw [L57 F2]; omega) (by omega) z3 (by rw [K2 q z4, zk, K57 F2]; rfl)
  have w4 : wQ (some 58) (nI k) (hQ h 30 12) g3 = some g4 := by
    rw [← x4]
    have K3 : ∀ q, hK g3 q = hK g2 q := fun q => by rw [← x3]; rfl
    rcases h12 with z | ⟨q, z, zk, z3, z4⟩
    · rw [z]; exact wQ_0 (by rw [K58 F3]; omega) (by omega) (by rw [L58 F3]; omega) (by omega)
    · rw [z]; exact wQ_s (by rw [K58 F3]; omega) (by omega) (by rw [L58 F3]; omega) (by omega) z3 (by rw [K3, K2 q z4, zk, K58 F3]; rfl)
  have ea : aQ (some 56) (nI k) g1 = some (some p) := by rw [aQ_n (K56 F1) (by omega) (L56 F1) (by omega) (by omega), a5]
  have q302 : hQ g3 30 = hQ h 30 := by rw [← x3]; exact (funext fun j => by rw [hQ_sQ, if_neg (by omega)] : hQ (sQ g2 57 k (hQ h 30 11)) 30 = hQ g2 30).trans q30
  have rq2 : rq g2 p 2 = rq h 33 2 := by
    have := b6.2.1
    have e84 : hQ g2 p 2 = hQ g1 33 2 := s84_q b1 s1 (K33 F1) (by omega)
    rw [a2.Q1 (by omega) (by decide) (by decide), hk1] at e84
    exact rqs e84
  refine ⟨g4, p, ph, pa, ?_, ?_, F4, by omega, ?_, ⟨⟨by rw [K4]; exact b6.1.1, by rw [Q4 _ _ (by omega) (by omega)]; exact b6.1.2.1, by rw [Q4 _ _ (by omega) (by omega)]; exact b6.1.2.2.1, by rw [K4]; exact b6.1.2.2.2.1, by rw [L4]; exact b6.1.2.2.2.2.1, by rw [K4]; exact b6.1.2.2.2.2.2.1, by rw [L4]; exact b6.1.2.2.2.2.2.2.1, by omega, by omega, by omega⟩, ?_, ?_, fun d hd => by rw [I4]; exact b6.2.2.2.1 d hd, by rw [I4]; exact b6.2.2.2.2⟩, ?_, ?_, ?_, fun j hj => ⟨?_, ?_, ?_⟩, by omega, ?_⟩
  · have e2 : (nI 2).toInt = 2 := by decide
    rw [f_169, b_169_0, if_neg (nI_gt0 (by omega)), b_169_4, if_pos (by rw [nI_ltI (by omega) (by omega)]; omega), a1, b_169_33, gQ30_6 F1, Option.bind_some, ea, Option.bind_some, gQ30_1 F1, Option.bind_some, rC_e s1 (by omega), grd_e, Option.bind_some, b1, Option.bind_some, gQ30_7 F2, Option.bind_some, gR30 F2, Option.bind_some, q30, w3, Option.bind_some, gQ30_8 F3, Option.bind_some, gR30 F3, Option.bind_some, q302, w4, Option.bind_some, grd1, Option.bind_some]
  · refine (a2.wid (fun z hz => Or.inl ?_)).then ((b2.wid (fun z hz => ?_)).then (f3.then f4))
    · simp only [List.mem_cons, List.not_mem_nil, or_false] at hz; subst hz; simp
    · simp only [List.mem_cons, List.not_mem_nil, or_false] at hz
      simp only [List.cons_append, List.nil_append, List.mem_cons, List.not_mem_nil, or_false]
      omega
  · rw [Q4 _ _ (by omega) (by omega), b2.Q1 (by omega) (by simp only [List.mem_cons, List.not_mem_nil, or_false]; omega) (by simp only [List.mem_cons, List.not_mem_nil, or_false]; omega)]; exact a5
  · rw [show rq g4 p 2 = rq g2 p 2 by unfold rq; rw [Q4 _ _ (by omega) (by omega)], Q4 _ _ (by omega) (by omega)]; exact b6.2.1
  · rw [show rq g4 p 2 = rq g2 p 2 by unfold rq; rw [Q4 _ _ (by omega) (by omega)]]; exact b6.2.2.1.ag ag4
  · rw [show rq g4 p 2 = rq g2 p 2 by unfold rq; rw [Q4 _ _ (by omega) (by omega)]]; exact rq2
  · rw [← x4, hQ_sQ, if_neg (by omega), ← x3, hQ_sQ, if_pos ⟨rfl, rfl⟩]
  · rw [← x4, hQ_sQ, if_pos ⟨rfl, rfl⟩]
  · rw [Q4 _ _ (by omega) (by omega), b2.Q1 (by omega) (by simp only [List.mem_cons, List.not_mem_nil, or_false]; omega) (by simp only [List.mem_cons, List.not_mem_nil, or_false]; omega)]; exact a7 j hj
  · rw [← x4, hQ_sQ, if_neg (by omega), ← x3, hQ_sQ, if_neg (fun z => hj z.2), b2.Q1 (by omega) (by simp only [List.mem_cons, List.not_mem_nil, or_false]; omega) (by simp only [List.mem_cons, List.not_mem_nil, or_false]; omega), (a2.all (a := 57) (by omega) (by decide)).2.2]
  · rw [← x4, hQ_sQ, if_neg (fun z => hj z.2), ← x3, hQ_sQ, if_neg (by omega), b2.Q1 (by omega) (by simp only [List.mem_cons, List.not_mem_nil, or_false]; omega) (by simp only [List.mem_cons, List.not_mem_nil, or_false]; omega), (a2.all (a := 58) (by omega) (by decide)).2.2]
  · rcases a8 with ⟨z0, z1, z2⟩ | ⟨z, e1, e2, e3, e4⟩
    · exact Or.inl ⟨z1, z2, by rw [N4.1, b3, z0]⟩
    · exact Or.inr ⟨z, e1, e2, e3, by rw [N4.1, b3, e4]⟩
theorem s_170 {k p ph pa : Nat} (hk : k < 2) (hF : Fix h) (hT : TG τ) (hN' : ∀ q, τ q = 1 → q < hN h) (h56 : hQ h 56 k = some p) (hP : ScG τ h p ph pa E an pl) (h98 : 98 ≤ p ∧ 98 ≤ ph ∧ 98 ≤ pa) (h2 : E 2 ≤ 10) : ∃ g, f_170 (some 30) (nI k) h = some (nI 1, g) ∧ Fa [3000033, 4000033, 34, 35, 12000030, 13000030] h g ∧ Fix g ∧ (hN g = hN h ∧ hC g = hC h ∧ hS g = hS h) ∧ ScR τ g 33 E an pl ∧ hQ g 30 11 = hQ h 57 k ∧ hQ g 30 12 = hQ h 58 k ∧ rq g 33 2 = rq h p 2 := by
  have n98 := hF.1
  have lo : ∀ q, q < 60 → τ q ≠ 1 := fun q hq z => by have := (hT q z).1; omega
  obtain ⟨g2, b1, b2, b3, b4, b5, b6⟩ := s_84 (q := 33) (qh := 34) (qa := 35) hT hN' hP (K33 hF) (Q33_0 hF) (Q33_1 hF) (K34 hF) (L34 hF) (K35 hF) (L35 hF) (by omega) (by omega) ⟨lo 33 (by omega), lo 34 (by omega), lo 35 (by omega)⟩ (by omega) h2
  have b1' : f_84 (some 33) (some p) h = some g2 := b1
  have b2' : Fa [3000033, 4000033, 34, 35] h g2 := b2
  have F2 : Fix g2 := b2'.fix hF (by decide) (by decide)
  have R2 : ScR τ g2 33 E an pl := ScG.r (s := 33) b6
  have q57 : hQ g2 57 = hQ h 57 := (b2'.all (by omega) (by decide)).2.2
  have q58 : hQ g2 58 = hQ h 58 := (b2'.all (by omega) (by decide)).2.2
  generalize x3 : sQ g2 30 11 (hQ h 57 k) = g3
  generalize x4 : sQ g3 30 12 (hQ h 58 k) = g4
  have f3 : Fa [3000033, 4000033, 34, 35, 12000030, 13000030] g2 g3 := by rw [← x3]; exact Fa.sQ Fa.rfl' (Or.inr (Or.inl (by decide)))
  have f4 : Fa [3000033, 4000033, 34, 35, 12000030, 13000030] g3 g4 := by rw [← x4]; exact Fa.sQ Fa.rfl' (Or.inr (Or.inl (by decide)))
  have F3 : Fix g3 := f3.fix F2 (by decide) (by decide)
  have F4 : Fix g4 := f4.fix F3 (by decide) (by decide)
  have Q4 : ∀ q j, q ≠ 30 → hQ g4 q j = hQ g2 q j := fun q j h1 => by rw [← x4, hQ_sQ, if_neg (fun z => h1 z.1), ← x3, hQ_sQ, if_neg (fun z => h1 z.1)]
  have I4 : hI g4 = hI g2 := by rw [← x4, ← x3]; rfl
  have ag4 : Ag τ g2 g4 := by
    refine (?_ : Ag τ g2 g3).then ?_
    · rw [← x3]; exact sQ_ag (lo 30 (by omega))
    · rw [← x4]; exact sQ_ag (lo 30 (by omega))
  have e84 : hQ g2 33 2 = hQ h p 2 := s84_q b1 (K33 hF) hP.1.1 (by omega)
  refine ⟨g4, ?_, (b2'.wid (by decide)).then (f3.then f4), F4, by rw [← x4, ← x3]; exact ⟨b3, b4, b5⟩, R2.ag ag4 (Q4 _ _ (by omega)) (by rw [I4]) (by rw [I4]) (by rw [I4]), ?_, ?_, ?_⟩
  · have ea : aQ (some 56) (nI k) h = some (some p) := by rw [aQ_n (K56 hF) (by omega) (L56 hF) (by omega) (by omega), h56]
    have e57 : aQ (some 57) (nI k) g2 = some (hQ h 57 k) := by rw [aQ_n (K57 F2) (by omega) (L57 F2) (by omega) (by omega), q57]
    have e58 : aQ (some 58) (nI k) g3 = some (hQ h 58 k) := by rw [aQ_n (K58 F3) (by omega) (L58 F3) (by omega) (by omega), ← x3, hQ_sQ, if_neg (by omega), q58]
    rw [f_170, b_170_0, if_neg (nI_gt0 (by omega)), b_170_4, if_neg (by rw [nI_leI (by omega) (by omega)]; omega), b_170_9, gQ30_6 hF, Option.bind_some, ea, Option.bind_some, if_pos (fun z => by cases z), b_170_20, gQ30_1 hF, Option.bind_some, gQ30_6 hF, Option.bind_some, ea, Option.bind_some, rC33 hF, grd_e, Option.bind_some, b1', Option.bind_some, gQ30_7 F2, Option.bind_some, e57, Option.bind_some, pQ30 F2, Option.bind_some, x3, gQ30_8 F3, Option.bind_some, e58, Option.bind_some, pQ30 F3, Option.bind_some, x4, grd1, Option.bind_some]
  · rw [← x4, hQ_sQ, if_neg (by omega), ← x3, hQ_sQ, if_pos ⟨rfl, rfl⟩]
  · rw [← x4, hQ_sQ, if_pos ⟨rfl, rfl⟩]
  · unfold rq
    rw [Q4 _ _ (by omega), e84]
end KEEP
