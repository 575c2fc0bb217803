/-! way, wayAt, walk, reach, stride: both -/
def csB (E : Nat → Nat) : Bool := decide (E 340 ≠ 0 ∧ E 2 ≤ 5)
def wyB (E : Nat → Nat) (x y : Int32) : Bool := wkB E (x.toInt, y.toInt) && csB E
def wyA (E : Nat → Nat) (x y : Int32) : Int32 := if wyB E x y = true then mI (wyN E (cN (x.toInt, y.toInt) + 1)) else -2
abbrev Zy : List Nat := [4000051, 5000051, 6000051, 3000053, 4000053, 54, 55, 1000051, 2000051]
abbrev ZM : List Nat := [1000064, 23000064, 66, 46000064, 47000064, 87, 27000064, 74, 75, 88, 90, 91, 92, 56000064, 57000064, 93]
section WAY
variable {τ : Nat → Nat} {h : Hp} {E an : Nat → Nat} {pl po pq pw : Nat} {x y w : Int32}
theorem fnd_in {cl st : Nat} (hW : WF E) (hV : VA E (anE E) (E 340)) (h5 : E 2 ≤ 5) (h0 : E 340 ≠ 0) (hst : (fnd E cl).1 = st + 1) : ∃ i, i < (fnd E cl).2.2.2 ∧ (fnd E cl).2.2.1 i = st := by
  have e := enc_dcn (E := E) (an := anE E) (pl := E 340) hV.1 (fun _ _ => rfl) h0 hV.2.2.2
  have lt := enc_lt (E := E) (an := anE E) (pl := E 340) hV.1 h5 hV.2.2.2
  have hV' : VA E (dcn E (enc E (anE E) (E 340))) (enc E (anE E) (E 340) % 100 + 1) := by rw [e.1, e.2]; exact hV
  exact bf_fd (cl := cl) hW h5 24301 0 _ st (QI.one lt hV') hst
theorem csB_t (h : csB E = true) : E 340 ≠ 0 ∧ E 2 ≤ 5 := of_decide_eq_true h
/-- found, by the class -/
theorem fd71 {cl : Nat} (hF : Fix h) (hT : TG τ) (hN' : ∀ p, τ p = 1 → p < hN h) (hN1 : hN h + 3 < 1000000) (hr : hQ h 51 3 = none ∨ PR h po pq ∧ τ po ≠ 1 ∧ τ pq ≠ 1) (hp : 98 ≤ po ∧ 98 ≤ pq ∧ po < 1000000 ∧ pq < 1000000) (hR : ScR τ h 33 E (anE E) (E 340)) (hW : WF E) (hV : VA E (anE E) (E 340)) (hc : csB E = true) (hcl : cl ≤ 100) (hA : AR h pw) (hw : pw ≠ po ∧ pw ≠ pq) :
    ∃ g po' pq', f_71 (some 51) (some 33) (mI cl) h = some (mI (fnd E cl).1, g) ∧ CB g po' pq' (fnd E cl).2 ∧ QI E (fnd E cl).2 ∧ Fa (Zy ++ [po, pq, pw]) h g ∧ Fix g ∧ PR g po' pq' ∧ (hN g ≤ hN h + 2 ∧ hC g ≤ hC h + 2 ∧ hS g ≤ hS h + 48600) ∧ ((po' = po ∧ pq' = pq) ∨ (hN h ≤ po' ∧ hN h ≤ pq')) ∧ (τ po' ≠ 1 ∧ τ pq' ≠ 1) ∧ AR g pw ∧ hI g pw = hI h pw ∧ hI g 51 1 = hI h 51 1 ∧ (pw ≠ po' ∧ pw ≠ pq') := by
  obtain ⟨c0, c5⟩ := csB_t hc
  obtain ⟨g, po', pq', a1, a2, a3, a4, a5, a6, a7, a8, a9, a10, a11⟩ := s_71 (cl := cl) hF hT hN' (by omega) hr hR hW hV c5 c0 hcl
  have n98 := hF.1
  obtain ⟨r1, r2, r3, r4, r5⟩ := hA
  have kl := a4.2.1 pw r4
  have gN := a4.1
  refine ⟨g, po', pq', a1, a2, a3, a4.wid (fun z hz => Or.inl ?_), a5, ⟨a11, a2.1⟩, ⟨a6, a7, a8⟩, a9, a10, ⟨?_, by rw [kl.1]; exact r2, r3, by omega, by rw [kl.2]; exact r5⟩, ?_, ?_, ?_⟩
  · simp only [Zy, List.cons_append, List.nil_append, List.mem_cons, List.not_mem_nil, or_false] at hz ⊢
    omega
  · rw [← r1]
    exact a4.Q1 (by omega) (by simp only [List.mem_cons, List.not_mem_nil, or_false]; omega) (by simp only [List.mem_cons, List.not_mem_nil, or_false]; omega)
  · exact (a4.all r4 (by intro z hz; simp only [List.mem_cons, List.not_mem_nil, or_false] at hz; omega)).1
  · exact a4.I1 (by omega) (by simp only [List.mem_cons, List.not_mem_nil, or_false]; omega) (by simp only [List.mem_cons, List.not_mem_nil, or_false]; omega)
  · omega
theorem s_161 (hF : Fix h) (hT : TG τ) (hN' : ∀ p, τ p = 1 → p < hN h) (hN1 : hN h + 3 < 1000000) (hr : hQ h 51 3 = none ∨ PR h po pq ∧ τ po ≠ 1 ∧ τ pq ≠ 1) (hp : 98 ≤ po ∧ 98 ≤ pq ∧ po < 1000000 ∧ pq < 1000000) (hR : ScR τ h 33 E (anE E) (E 340)) (hW : WF E) (hV : VA E (anE E) (E 340)) (hA : AR h pw) (hw : pw ≠ po ∧ pw ≠ pq) :
    ∃ g, f_161 (some 30) x y h = some (wyA E x y, g) ∧ (wyB E x y = false → g = h) ∧ (wyB E x y = true → ∃ po' pq', Fa (Zy ++ [po, pq, pw]) h g ∧ Fix g ∧ PR g po' pq' ∧ (hN g ≤ hN h + 3 ∧ hC g ≤ hC h + 3 ∧ hS g ≤ hS h + 72900) ∧ ((po' = po ∧ pq' = pq) ∨ (hN h ≤ po' ∧ hN h ≤ pq')) ∧
      (wyN E (cN (x.toInt, y.toInt) + 1) = 0 → AR g pw ∧ hI g pw = hI h pw ∧ hI g 51 1 = hI h 51 1) ∧
      (wyN E (cN (x.toInt, y.toInt) + 1) ≠ 0 → ∃ pw', AR g pw' ∧ (pw' = pw ∨ hN h ≤ pw') ∧ (pw' ≠ po' ∧ pw' ≠ pq') ∧ hI g 51 1 = nI (wyN E (cN (x.toInt, y.toInt) + 1) - 1) ∧ wyN E (cN (x.toInt, y.toInt) + 1) - 1 ≤ hL g pw' ∧ ∀ t, t < wyN E (cN (x.toInt, y.toInt) + 1) - 1 → hI g pw' t = nI (pAc (fnd E (cN (x.toInt, y.toInt) + 1)).2.1 24300 ((fnd E (cN (x.toInt, y.toInt) + 1)).1 - 1) t))) := by
  obtain ⟨q, r⟩ := ask33 hF hR
  have w2 := hW.2.2.1
  have f51 : f_51 (some (rq h 33 2)) x y h = some (bI (wkB E (x.toInt, y.toInt)), h) := s_51 hR.2.1 hW
  have f70 : f_70 (some 51) (some 33) h = some (bI (csB E), h) := s_70 hF hR w2 hV.2.2.2
  rw [f_161, b_161_0, gQ30_1 hF, Option.bind_some, q, Option.bind_some, r, grd_e, Option.bind_some, f51, Option.bind_some]
  dsimp only
  unfold wyA
  cases hc : wkB E (x.toInt, y.toInt)
  · have hb : wyB E x y = false := by unfold wyB; rw [hc]; rfl
    rw [if_pos (show bI false = 0 from rfl), b_161_29, hb, if_neg (by decide)]
    exact ⟨h, rfl, fun _ => rfl, fun z => by cases z⟩
  · have b := wkB_in ⟨hW.1, hW.2.1⟩ hc
    have b9 : cN (x.toInt, y.toInt) < 100 := cN_lt b
    have e : nI 10 * y + x = mI (cN (x.toInt, y.toInt) + 1) := by rw [mI_s, ← zI_cN b, ← zI_of, ← zI_of]
    rw [if_neg (show ¬ bI true = 0 by decide), b_161_15, gQ30_5 hF, Option.bind_some, gQ30_1 hF, Option.bind_some, rC51 hF, grd_e, Option.bind_some, f70, Option.bind_some]
    dsimp only
    cases hs : csB E
    · have hb : wyB E x y = false := by unfold wyB; rw [hs, Bool.and_false]
      rw [if_neg (fun z => z rfl), b_161_29, hb, if_neg (by decide)]
      exact ⟨h, rfl, fun _ => rfl, fun z => by cases z⟩
    · have hb : wyB E x y = true := by unfold wyB; rw [hs, hc]; rfl
      rw [if_pos (show ¬ bI true = 0 by decide), b_161_32, gQ30_5 hF, Option.bind_some, gQ30_1 hF, Option.bind_some, rC51 hF, grd_e, Option.bind_some, e, hb, if_pos rfl]
      generalize hcl : cN (x.toInt, y.toInt) + 1 = cl at *
      obtain ⟨g, po', pq', a1, a2, a3, a4, a5, a6, a7, a8, a9, a10, a11, a12, a13⟩ := fd71 (cl := cl) hF hT hN' hN1 hr hp hR hW hV hs (by omega) hA hw
      rw [a1, Option.bind_some, bnd_e]
      dsimp only
      by_cases c : (fnd E cl).1 = 0
      · have w0 : wyN E cl = 0 := by unfold wyN; rw [if_pos c]
        rw [c, if_neg (by decide), b_161_54, w0]
        exact ⟨g, rfl, fun z => (by cases z), fun _ => ⟨po', pq', a4, a5, a6, by omega, a8, fun _ => ⟨a10, a11, a12⟩, fun z => absurd rfl z⟩⟩
      · obtain ⟨st, hst⟩ : ∃ st, (fnd E cl).1 = st + 1 := ⟨(fnd E cl).1 - 1, by omega⟩
        obtain ⟨i, hi, hsi⟩ := fnd_in hW hV (csB_t hs).2 (csB_t hs).1 hst
        have stl := (a3.2.2.1 i hi).1
        have hsi' : (fnd E cl).2.2.1 i = st := hsi
        rw [hsi'] at stl
        obtain ⟨g2, pw', b1, b2, b3, b4, b5, b6, b7, b8, b9', b10⟩ := s_79 (st := st) (i := i) a5 a2 (by omega) a6.1 a10 a13 a3 hi hsi
        have w1 : wyN E cl = pLn (fnd E cl).2.1 24300 st + 1 := by unfold wyN; rw [if_neg c, hst]; rfl
        have kk := a6
        have gN := a4.1
        have F2 : Fix g2 := b2.fix a5 (fun z hz => by simp only [List.mem_cons, List.not_mem_nil, or_false] at hz; have := hA.2.2.1; have := hA.2.2.2.1; omega) (fun q hq => by
          have h98 : q.1 < 98 := (by decide : ∀ q, q ∈ fqT → q.1 < 98) q hq
          have h52 : q.1 ≠ 52 := (by decide : ∀ q, q ∈ fqT → q.1 ≠ 52) q hq
          have h51 : q.1 = 51 → q.2.1 = 2 := (by decide : ∀ q, q ∈ fqT → q.1 = 51 → q.2.1 = 2) q hq
          have := hA.2.2.1
          have := hA.2.2.2.1
          constructor <;> simp only [List.mem_cons, List.not_mem_nil, or_false] <;> omega)
        have gN2 := b2.1
        have pwn := hA.2.2.2.1
        have fr : Fa (Zy ++ [po, pq, pw]) h g2 := a4.then (b2.wid (fun z hz => Or.inl (by
          simp only [Zy, List.cons_append, List.nil_append, List.mem_cons, List.not_mem_nil, or_false] at hz ⊢
          omega)))
        have po1 := a6.1
        have P2 : PR g2 po' pq' := by
          obtain ⟨p0, p1, p2, p3, p4, p5, p6, p7, p8, p9, p10, p11⟩ := a6
          have n98 := hF.1
          have k1 := b2.2.1 po' p0.1
          have k2 := b2.2.1 pq' p0.2
          have pw9 := hA.2.2.1
          refine ⟨by omega, ?_, ?_, by rw [k1.1]; exact p3, by rw [k1.2]; exact p4, by rw [k2.1]; exact p5, by rw [k2.2]; exact p6, p7, p8, p9, p10, p11⟩
          · rw [← p1]; exact b2.Q1 (by omega) (by simp only [List.mem_cons, List.not_mem_nil, or_false]; omega) (by simp only [List.mem_cons, List.not_mem_nil, or_false]; omega)
          · rw [← p2]; exact b2.Q1 (by omega) (by simp only [List.mem_cons, List.not_mem_nil, or_false]; omega) (by simp only [List.mem_cons, List.not_mem_nil, or_false]; omega)
        rw [hst, mI_s, if_pos (by rw [show (0 : Int32) = nI 0 from rfl, nI_leI (by omega) (by omega)]; omega), b_161_56, gQ30_5 a5, Option.bind_some, rC51 a5, grd_e, Option.bind_some, b1, Option.bind_some, gQ30_5 F2, Option.bind_some, gI51 F2, Option.bind_some, b5, w1, mI_s]
        refine ⟨g2, rfl, fun z => (by cases z), fun _ => ⟨po', pq', fr, F2, P2, by omega, a8, fun z => absurd z (by omega), fun _ => ⟨pw', b3, by omega, ?_, by rw [b5, Nat.add_sub_cancel], by omega, fun t ht => ?_⟩⟩⟩
        · omega
        · rw [b6 t (by omega)]; rfl
theorem s_279 (hF : Fix h) (hB : Bg h E) (hW : WF E) (hV : VA E (anE E) (E 340)) :
    ∃ g, f_279 (some 64) x y h = some (wyA E x y, g) ∧ Fz (ZM ++ [58000064, 94]) h g ∧ NowE g E ∧ hI g 64 22 = 1 ∧ ((wyB E x y = false ∨ wyN E (cN (x.toInt, y.toInt) + 1) = 0) → hI g 64 57 = hI h 64 57 ∧ hI g 94 = hI h 94) ∧
      (wyB E x y = true → wyN E (cN (x.toInt, y.toInt) + 1) ≠ 0 → wyN E (cN (x.toInt, y.toInt) + 1) ≤ 24300 ∧ hI g 64 57 = nI (wyN E (cN (x.toInt, y.toInt) + 1) - 1) ∧ ∀ t, t < wyN E (cN (x.toInt, y.toInt) + 1) - 1 → hI g 94 t = nI (pAc (fnd E (cN (x.toInt, y.toInt) + 1)).2.1 24300 ((fnd E (cN (x.toInt, y.toInt) + 1)).1 - 1) t)) := by
  obtain ⟨g, a1, a2, a3, a4, a5, F0, F1⟩ := askM hF hB
  have w2 := hW.2.2.1
  have no : wyB E x y = false → ∃ k, b_279_38 g = some (wyA E x y, k) ∧ Fz (ZM ++ [58000064, 94]) h k ∧ NowE k E ∧ hI k 64 22 = 1 ∧ ((wyB E x y = false ∨ wyN E (cN (x.toInt, y.toInt) + 1) = 0) → hI k 64 57 = hI h 64 57 ∧ hI k 94 = hI h 94) ∧
      (wyB E x y = true → wyN E (cN (x.toInt, y.toInt) + 1) ≠ 0 → wyN E (cN (x.toInt, y.toInt) + 1) ≤ 24300 ∧ hI k 64 57 = nI (wyN E (cN (x.toInt, y.toInt) + 1) - 1) ∧ ∀ t, t < wyN E (cN (x.toInt, y.toInt) + 1) - 1 → hI k 94 t = nI (pAc (fnd E (cN (x.toInt, y.toInt) + 1)).2.1 24300 ((fnd E (cN (x.toInt, y.toInt) + 1)).1 - 1) t)) := fun c => ⟨g, by unfold wyA; rw [c, if_neg (by decide), b_279_38], a2.wid (by decide), a3, a4, fun _ => ⟨a2.I1 (by decide) (by decide), a2.I (by decide)⟩, fun z => by rw [c] at z; cases z⟩
  rw [f_279, b_279_0, pI64 hF, Option.bind_some, rC64 F0, grd_e, Option.bind_some, a1, Option.bind_some, rC64 F1, grd_e, Option.bind_some, s_255 F1 a3 ⟨hW.1, hW.2.1⟩, Option.bind_some]
  dsimp only
  cases hc : wkB E (x.toInt, y.toInt)
  · rw [if_pos (show bI false = 0 from rfl)]
    exact no (by unfold wyB; rw [hc]; rfl)
  · have b := wkB_in ⟨hW.1, hW.2.1⟩ hc
    have b9 : cN (x.toInt, y.toInt) < 100 := cN_lt b
    have pl1 := hV.2.2.2
    have e : nI 10 * y + x = mI (cN (x.toInt, y.toInt) + 1) := by rw [mI_s, ← zI_cN b, ← zI_of, ← zI_of]
    rw [if_neg (show ¬ bI true = 0 by decide), b_279_18, gQ64_14 F1, Option.bind_some, aI66 F1 (i := 340) (by omega), Option.bind_some, a3.2.2.1]
    by_cases c0 : E 340 = 0
    · rw [if_pos (by rw [c0]; rfl)]
      exact no (by unfold wyB csB; rw [decide_eq_false (by omega), Bool.and_false])
    · rw [if_neg (by rw [mI_m1 (by omega)]; exact c0), b_279_30, rC64 F1, grd_e, Option.bind_some, s_203 F1 a3, Option.bind_some]
      dsimp only
      by_cases c5 : E 2 ≤ 5
      · have hs : csB E = true := decide_eq_true ⟨c0, c5⟩
        have hb : wyB E x y = true := by unfold wyB; rw [hs, hc]; rfl
        unfold wyA
        rw [if_pos (by rw [nI_leI (by omega) (by omega)]; exact c5), b_279_41, rC64 F1, grd_e, Option.bind_some, e, hb, if_pos rfl]
        generalize hcl : cN (x.toInt, y.toInt) + 1 = cl at *
        obtain ⟨k, d1, d2, d3, d4, d5, d6⟩ := s_278 (cl := cl) F1 (Or.inl ⟨a4, a3⟩) hW hV c5 c0 (by omega)
        have F2 := d2.fix F1 (by decide)
        have zz : Fz (ZM ++ [58000064, 94]) h k := (a2.wid (by decide)).then (d2.wid (by decide))
        rw [d1, Option.bind_some, bnd_e]
        dsimp only
        by_cases c9 : wyN E cl = 0
        · rw [c9, if_neg (fun z => z rfl), b_279_57]
          refine ⟨k, rfl, zz, d3, d4, fun _ => ⟨?_, ?_⟩, fun _ z => absurd rfl z⟩
          · rw [d2.I1 (by decide) (by decide), a2.I1 (by decide) (by decide)]
          · rw [d2.I (by decide), a2.I (by decide)]
        · obtain ⟨n, hn⟩ : ∃ n, wyN E cl = n + 1 := ⟨wyN E cl - 1, by omega⟩
          rw [hn, mI_s]
          rw [hn] at d5 d6
          have z3 : Fz [58000064] k (sI k 64 57 (nI n)) := Fz.sI Fz.rfl' (Or.inr (by decide))
          have F3 : Fix (sI k 64 57 (nI n)) := fx_sI F2 (by omega)
          have key : ∀ r i m f, i + r = n → Fix f → (∀ t, t < n → hI f 93 t = hI k 93 t) → (∀ t, t < i → hI f 94 t = hI k 93 t) → ∃ f', l_279_67 (r + 1 + m) (some 64) (nI n) (nI i) f = some (nI n, f') ∧ Fz [94] f f' ∧ ∀ t, t < n → hI f' 94 t = hI k 93 t := by
            intro r
            induction r with
            | zero =>
              intro i m f hi hFf h93 h94
              obtain rfl : i = n := by omega
              refine ⟨f, ?_, Fz.rfl', h94⟩
              rw [show 0 + 1 + m = m + 1 by omega, l_279_67, b_279_67, if_pos (Int32.le_refl _), b_279_93]
            | succ r ih =>
              intro i m f hi hFf h93 h94
              have z4 : Fz [94] f (sI f 94 i (hI k 93 i)) := Fz.sI Fz.rfl' (Or.inl (by decide))
              obtain ⟨f', e1, e2, e3⟩ := ih (i + 1) m (sI f 94 i (hI k 93 i)) (by omega) (fx_sI hFf (by omega)) (fun t ht => by rw [z4.I (by decide)]; exact h93 t ht) (fun t ht => by
                rw [hI_sI]
                by_cases q : t = i
                · rw [if_pos ⟨rfl, q⟩, q]
                · rw [if_neg (fun z => q z.2)]; exact h94 t (by omega))
              refine ⟨f', ?_, z4.then e2, e3⟩
              rw [← e1, show r + 1 + 1 + m = (r + 1 + m) + 1 by omega, l_279_67, b_279_67, if_neg (by rw [nI_leI (by omega) (by omega)]; omega), b_279_73, gQ64_54 hFf, Option.bind_some, gQ64_53 hFf, Option.bind_some, aI93 hFf (by omega), Option.bind_some, h93 i (by omega), wI94 hFf (by omega), Option.bind_some, bnd_e, nI_add]
          obtain ⟨m, hm⟩ := FU_ge (n + 1) (by omega)
          obtain ⟨f', e1, e2, e3⟩ := key n 0 m (sI k 64 57 (nI n)) (by omega) F3 (fun t _ => by rw [z3.I (by decide)]) (fun t ht => absurd ht (Nat.not_lt_zero t))
          rw [if_pos (nI_m1 (by omega)), b_279_59, pI64 F2, Option.bind_some, bnd_e, hm, e1]
          refine ⟨f', rfl, zz.then ((z3.wid (by decide)).then (e2.wid (by decide))), ?_, ?_, fun z => ?_, fun _ _ => ⟨d6, ?_, fun t ht => ?_⟩⟩
          · exact (d3.cg (z3.I (by decide))).cg (e2.I (by decide))
          · rw [e2.I (by decide), z3.I1 (by decide) (by decide)]; exact d4
          · rcases z with z | z
            · cases z
            · omega
          · rw [e2.I (by decide), hI_sI, if_pos ⟨rfl, rfl⟩, Nat.add_sub_cancel]
          · rw [e3 t (by omega)]; exact d5 t (by omega)
      · rw [if_neg (by rw [nI_leI (by omega) (by omega)]; exact c5)]
        exact no (by unfold wyB csB; rw [decide_eq_false (by omega), Bool.and_false])
theorem s_162 {n : Nat} {a : Nat → Nat} (hF : Fix h) (hA : AR h pw) (h1 : hI h 51 1 = nI n) (hn : n ≤ hL h pw) (ha : ∀ t, t < n → hI h pw t = nI (a t)) : f_162 (some 30) x h = some (if 0 ≤ x.toInt ∧ x.toInt < n then nI (a x.toInt.toNat) else -1, h) := by
  have l5 := hA.2.2.2.2
  rw [f_162, b_162_0]
  by_cases c1 : x.toInt < 0
  · rw [if_pos (by rw [fa_lt, toI_0]; exact c1), b_162_27, b_162_28, if_neg (by omega)]
  · rw [if_neg (by rw [fa_lt, toI_0]; exact c1), b_162_4, gQ30_5 hF, Option.bind_some, gI51 hF, Option.bind_some, h1]
    by_cases c2 : (n : Int) ≤ x.toInt
    · rw [if_pos (by rw [fa_le, toI_nI (by omega)]; exact c2), b_162_27, b_162_28, if_neg (by omega)]
    · rw [if_neg (by rw [fa_le, toI_nI (by omega)]; exact c2), if_pos (by omega), b_162_15, gQ30_5 hF, Option.bind_some, gR51 hF, Option.bind_some, hA.1]
      have ex := na_of (show 0 ≤ x.toInt by omega)
      have hx : x.toInt.toNat < n := by omega
      generalize x.toInt.toNat = d at *
      rw [ex, aI_e hA.2.1 (by omega) (by omega), Option.bind_some, ha d hx, b_162_28]
theorem s_280 {n : Nat} {a : Nat → Nat} (hF : Fix h) (h1 : hI h 64 57 = nI n) (hn : n ≤ 24300) (ha : ∀ t, t < n → hI h 94 t = nI (a t)) : f_280 (some 64) x h = some (if 0 ≤ x.toInt ∧ x.toInt < n then nI (a x.toInt.toNat) else -1, sI h 64 0 (nI 0)) ∧ Fz [1000064] h (sI h 64 0 (nI 0)) := by
  have F0 : Fix (sI h 64 0 (nI 0)) := fx_sI hF (by omega)
  refine ⟨?_, Fz.sI Fz.rfl' (Or.inr (by decide))⟩
  have e57 : hI (sI h 64 0 (nI 0)) 64 57 = nI n := by rw [hI_sI, if_neg (by omega)]; exact h1
  have e94 : hI (sI h 64 0 (nI 0)) 94 = hI h 94 := funext fun j => by rw [hI_sI, if_neg (by omega)]
  rw [f_280, b_280_0, pI64 hF, Option.bind_some]
  generalize sI h 64 0 (nI 0) = g at *
  by_cases c1 : x.toInt < 0
  · rw [if_pos (by rw [fa_lt, toI_0]; exact c1), b_280_26, b_280_27, if_neg (by omega)]
  · rw [if_neg (by rw [fa_lt, toI_0]; exact c1), b_280_9, gI64 F0, Option.bind_some, e57]
    by_cases c2 : (n : Int) ≤ x.toInt
    · rw [if_pos (by rw [fa_le, toI_nI (by omega)]; exact c2), b_280_26, b_280_27, if_neg (by omega)]
    · rw [if_neg (by rw [fa_le, toI_nI (by omega)]; exact c2), if_pos (by omega), b_280_17, gQ64_54 F0, Option.bind_some]
      have ex := na_of (show 0 ≤ x.toInt by omega)
      have hx : x.toInt.toNat < n := by omega
      generalize x.toInt.toNat = d at *
      rw [ex, aI94 F0 (by omega), Option.bind_some, e94, ha d hx, b_280_27]
end WAY
