/-! what is said of a door: pure, and the class -/
theorem WTn_sh {ne : Nat} {X : Nat → Nat} : ∀ n lo hi, WTn ne X n lo hi → WTn ne X (hi - lo) lo hi := by
  intro n
  induction n with
  | zero => intro lo hi h; exact absurd h id
  | succ n ih =>
    intro lo hi h
    rcases h with ⟨h0, h⟩ | ⟨k, h1, h2, h3⟩ | ⟨m, k, h1, h2, h3, h4⟩
    · rw [show hi - lo = 0 + 1 by omega]
      exact Or.inl ⟨h0, h⟩
    · have l := WTn_lt _ _ _ h2
      rw [show hi - lo = (k - lo) + 1 by omega]
      exact Or.inr (Or.inl ⟨k, h1, ih _ _ h2, h3⟩)
    · have l1 := WTn_lt _ _ _ h2
      have l2 := WTn_lt _ _ _ h3
      have a := WTn_m (ih _ _ h2) (k - m)
      have b := WTn_m (ih _ _ h3) (m - lo)
      rw [show m - lo + (k - m) = k - lo by omega] at a
      rw [show k - m + (m - lo) = k - lo by omega] at b
      rw [show hi - lo = (k - lo) + 1 by omega]
      exact Or.inr (Or.inr ⟨m, k, h1, a, b, h4⟩)
def vlT (lf : Nat → Bool) (Y : Nat → Nat) : Nat → Nat → Bool
  | 0, _ => false
  | n + 1, i => if Y (4 * i) = 2 then !vlT lf Y n (Y (4 * i + 1)) else if Y (4 * i) = 1 then (vlT lf Y n (Y (4 * i + 1)) && vlT lf Y n (Y (4 * i + 2))) else if Y (4 * i) = 0 then (vlT lf Y n (Y (4 * i + 1)) || vlT lf Y n (Y (4 * i + 2))) else lf i
def vlS (E an : Nat → Nat) (d k : Nat) : Nat := if k = 7 then an d else if k = 8 then dLn E d else if k = 9 then pc (swL E d (dHg E d)) + pc (swH E d (dHg E d)) else if k = 10 then fb_ct (mayB E d) 4 else dCs E d
def cmS (s v n : Nat) : Bool := if s = 60 then decide (v < n) else if s = 61 then decide (v = n) else decide (n < v)
def lvS (E an : Nat → Nat) (pl : Nat) (Y : Nat → Nat) (d i : Nat) : Bool := if Y (4 * i) = 3 then decide (0 < an d) else if Y (4 * i) = 4 then fitB E d (dHg E d) else if Y (4 * i) = 5 then nearB E an pl d else if Y (4 * i) = 6 then (decide (Y (4 * i + 1) ≠ d) && bit E d (dHg E d) (Y (4 * i + 1)) (dHg E (Y (4 * i + 1)))) else cmS (Y (4 * i + 3)) (vlS E an d (Y (4 * i))) (Y (4 * i + 2))
theorem pc_fit (E : Nat → Nat) (d : Nat) : pc (fitM E d) = fb_ct (mayB E d) 4 := by
  have e : fitM E d = (((0 ||| (if mayB E d 0 = true then 2 ^ 0 else 0)) ||| (if mayB E d 1 = true then 2 ^ 1 else 0)) ||| (if mayB E d 2 = true then 2 ^ 2 else 0)) ||| (if mayB E d 3 = true then 2 ^ 3 else 0) := rfl
  have f : fb_ct (mayB E d) 4 = 0 + (if mayB E d 0 = true then 1 else 0) + (if mayB E d 1 = true then 1 else 0) + (if mayB E d 2 = true then 1 else 0) + (if mayB E d 3 = true then 1 else 0) := rfl
  rw [e, f]
  cases mayB E d 0 <;> cases mayB E d 1 <;> cases mayB E d 2 <;> cases mayB E d 3 <;> decide
section SAID
variable {τ : Nat → Nat} {h : Hp} {s b : Nat} {E an Y : Nat → Nat} {pl : Nat}
theorem s_113 {v i : Nat} (hS : SnC h b Y) (h30 : 30 ≤ b) (hi : i < Y 900) (hn : Y 900 ≤ 40) (hv : v < 2147483648) (h7 : 7 ≤ Y (4 * i)) (hb : Y (4 * i + 2) ≤ 99 ∧ 60 ≤ Y (4 * i + 3) ∧ Y (4 * i + 3) ≤ 62) : f_113 (some b) (nI v) (nI i) h = some (bI (cmS (Y (4 * i + 3)) v (Y (4 * i + 2))), h) := by
  obtain ⟨⟨k0, q0, q1, q2, ⟨k1, l1⟩, ⟨k2, l2⟩, k3, l3⟩, _, iv⟩ := hS
  obtain ⟨i1, i2, i3⟩ := iv i hi
  have cb : cbX Y i = Y (4 * i + 2) := by unfold cbX; rw [if_neg (by omega), if_pos h7]
  rw [cb] at i3
  have r1 : aI 12 (some (b + 2)) (nI i) h = some (nI (Y (4 * i + 3))) := by rw [aI_n k2 l2 (by omega) (by omega), i2]
  have r2 : aI 12 (some (b + 3)) (nI i) h = some (nI (Y (4 * i + 2))) := by rw [aI_n k3 l3 (by omega) (by omega), i3]
  rw [f_113, b_113_0, gQ_e k0, Option.bind_some, q1, r1, Option.bind_some]
  unfold cmS
  by_cases c0 : Y (4 * i + 3) = 60
  · rw [if_neg (fun z => z (by rw [c0])), if_pos c0, b_113_11, gQ_e k0, Option.bind_some, q2, r2, Option.bind_some]
    by_cases c : Y (4 * i + 2) ≤ v
    · rw [if_pos (by rw [nI_leI (by omega) (by omega)]; exact c), decide_eq_false (by omega)]; rfl
    · rw [if_neg (by rw [nI_leI (by omega) (by omega)]; exact c), decide_eq_true (by omega)]; rfl
  · rw [if_pos (nI_nn (by omega) (by omega) c0), if_neg c0, b_113_27, gQ_e k0, Option.bind_some, q1, r1, Option.bind_some]
    by_cases c1 : Y (4 * i + 3) = 61
    · rw [if_neg (fun z => z (by rw [c1])), if_pos c1, b_113_38, gQ_e k0, Option.bind_some, q2, r2, Option.bind_some]
      by_cases c : v = Y (4 * i + 2)
      · rw [if_neg (fun z => z (by rw [c])), decide_eq_true c]; rfl
      · rw [if_pos (nI_nn (by omega) (by omega) c), decide_eq_false c]; rfl
    · rw [if_pos (nI_nn (by omega) (by omega) c1), if_neg c1, b_113_56, gQ_e k0, Option.bind_some, q2, r2, Option.bind_some]
      by_cases c : v ≤ Y (4 * i + 2)
      · rw [if_pos (by rw [nI_leI (by omega) (by omega)]; exact c), decide_eq_false (by omega)]; rfl
      · rw [if_neg (by rw [nI_leI (by omega) (by omega)]; exact c), decide_eq_true (by omega)]; rfl
theorem pc_le64 (n : Nat) : pc n ≤ 64 := pcf_le 64 n
theorem s_111 {d i : Nat} (hF : Fix h) (hs : SP s) (hR : ScR τ h s E an pl) (hW : WF E) (hV : VA E an pl) (hS : SnC h b Y) (h30 : 30 ≤ b) (hd : d < E 2) (hi : i < Y 900) (hn : Y 900 ≤ 40) (hk : lfK (E 2) Y i) : f_111 (some b) (some s) (nI d) (nI i) h = some (bI (lvS E an pl Y d i), h) := by
  obtain ⟨w0, w1, w2, w3, w4, w5, w6, _⟩ := id hW
  have wd := (w6 d hd).1
  obtain ⟨r1, hH, r3, r4⟩ := id hR
  obtain ⟨k7, q0, q1, k12, l10, k12', l10', s30⟩ := spF hF hs
  obtain ⟨hk4, h30', _, a0, a1, a2, hints, _, hdoor, _⟩ := id hH
  obtain ⟨qd, hD⟩ := hdoor d hd
  obtain ⟨⟨b0, u0, u1, u2, ⟨b1, c1⟩, ⟨b2, c2⟩, b3, c3⟩, _, iv⟩ := id hS
  obtain ⟨i1, i2, i3⟩ := iv i hi
  obtain ⟨lk, l6, l7⟩ := id hk
  have an3 := hV.1 d hd
  have kd := hD.1
  have kd30 := hD.2.1
  have aq : aQ (hQ h (rq h s 2) 1) (nI d) h = some (some (rq h (rq h (rq h s 2) 1) d)) := by rw [a1.1, aQ_n a1.2.1 (by omega) a1.2.2.1 (by omega) (by omega), qd]
  have ah : aI 12 (some (s + 1)) (nI d) h = some (nI (dHg E d)) := by rw [aI_n k12 l10 (by omega) (by omega), (r3 d hd).1]
  have aa : aI 12 (some (s + 2)) (nI d) h = some (nI (an d)) := by rw [aI_n k12' l10' (by omega) (by omega), (r3 d hd).2]
  have cmp : ∀ v, v < 2147483648 → 7 ≤ Y (4 * i) → f_113 (some b) (nI v) (nI i) h = some (bI (cmS (Y (4 * i + 3)) v (Y (4 * i + 2))), h) := fun v hv h7 => s_113 hS h30 hi hn hv h7 (l7 h7)
  have rc8 : rC 8 (some b) h = true := rC_e b0 h30
  rw [f_111, b_111_0, gQ_e k7, Option.bind_some, r1, gQ_e hk4, Option.bind_some, aq, Option.bind_some, gQ_e k7, Option.bind_some, q0, ah, Option.bind_some, gQ_e b0, Option.bind_some, u0, aI_n b1 c1 (by omega) (by omega), Option.bind_some, i1]
  generalize rq h (rq h (rq h s 2) 1) d = p at *
  unfold lvS
  rcases (show Y (4 * i) = 3 ∨ Y (4 * i) = 4 ∨ Y (4 * i) = 5 ∨ Y (4 * i) = 6 ∨ Y (4 * i) = 7 ∨ Y (4 * i) = 8 ∨ Y (4 * i) = 9 ∨ Y (4 * i) = 10 ∨ Y (4 * i) = 11 by omega) with e | e | e | e | e | e | e | e | e
  · rw [e, if_pos rfl, if_pos (show (3 : Nat) = 3 from rfl), b_111_72, gQ_e k7, Option.bind_some, q1, aa, Option.bind_some]
    by_cases c : an d = 0
    · rw [if_pos (nI_l0 (by omega) c), decide_eq_false (by omega)]; rfl
    · rw [if_neg (nI_g0 (by omega) (by omega)), decide_eq_true (by omega)]; rfl
  · rw [e, if_neg (show ¬ nI 4 = nI 3 by decide), if_pos rfl, if_neg (show ¬ (4 : Nat) = 3 by omega), if_pos (show (4 : Nat) = 4 from rfl), b_111_87, rC_e kd kd30, grd_e, Option.bind_some, s_9 hD (by omega) (by omega), Option.bind_some]
    dsimp only
    rw [grdB, Option.bind_some]
  · rw [e, if_neg (show ¬ nI 5 = nI 3 by decide), if_neg (show ¬ nI 5 = nI 4 by decide), if_pos rfl, if_neg (show ¬ (5 : Nat) = 3 by omega), if_neg (show ¬ (5 : Nat) = 4 by omega), if_pos (show (5 : Nat) = 5 from rfl), b_111_95, rC_e k7 s30, grd_e, Option.bind_some, s_87 hF hs hR hW hV.1 hV.2.2.2 hd, Option.bind_some]
    dsimp only
    rw [grdB, Option.bind_some]
  · have he := l6 e
    have cb : cbX Y i = Y (4 * i + 1) := by unfold cbX; rw [if_pos e]
    rw [cb] at i3
    generalize hx : Y (4 * i + 1) = x at *
    have we := (w6 x he).1
    obtain ⟨qe, hDe⟩ := hdoor x he
    have aqe : aQ (some (rq h (rq h s 2) 1)) (nI x) h = some (some (rq h (rq h (rq h s 2) 1) x)) := by rw [aQ_n a1.2.1 (by omega) a1.2.2.1 (by omega) (by omega), qe]
    have aqd : aQ (some (rq h (rq h s 2) 1)) (nI d) h = some (some p) := by rw [← a1.1]; exact aq
    have ahe : aI 12 (some (s + 1)) (nI x) h = some (nI (dHg E x)) := by rw [aI_n k12 l10 (by omega) (by omega), (r3 x he).1]
    have f112 : f_112 (some s) (nI d) (nI x) h = some (bI (decide (x ≠ d) && bit E d (dHg E d) x (dHg E x)), h) := by
      rw [f_112, b_112_0]
      by_cases c : d = x
      · rw [if_pos (by rw [c]), b_112_16, grd0, Option.bind_some, decide_eq_false (fun z => z c.symm), Bool.false_and]; rfl
      · rw [if_neg (nI_nn (by omega) (by omega) c), b_112_5, gQ_e k7, Option.bind_some, r1, rC_e hk4 h30', grd_e, Option.bind_some, s_52 hH w2, Option.bind_some, toI_nI (by omega)]
        dsimp only
        rw [bI_T (by omega), if_pos nI10, b_112_18, gQ_e k7, Option.bind_some, r1, gQ_e hk4, Option.bind_some, a1.1, aqd, Option.bind_some, gQ_e k7, Option.bind_some, q0, ah, Option.bind_some, Option.bind_some, gQ_e hk4, Option.bind_some, a1.1, aqe, Option.bind_some, Option.bind_some, ahe, Option.bind_some, rC_e kd kd30, grd_e, Option.bind_some, s_14 hD hDe (by omega) (by omega), Option.bind_some]
        dsimp only
        have es : pc (swL E d (dHg E d) &&& swL E x (dHg E x)) + pc (swH E d (dHg E d) &&& swH E x (dHg E x)) = shr E d (dHg E d) x (dHg E x) := rfl
        have ps := pc_le64 (swL E d (dHg E d) &&& swL E x (dHg E x))
        have ps2 := pc_le64 (swH E d (dHg E d) &&& swH E x (dHg E x))
        have sl : shr E d (dHg E d) x (dHg E x) ≤ 128 := by rw [← es]; omega
        rw [es, decide_eq_true (show x ≠ d from fun z => c z.symm), Bool.true_and, bit_shr]
        by_cases c0 : shr E d (dHg E d) x (dHg E x) = 0
        · rw [if_pos (nI_l0 (by omega) c0), decide_eq_false (fun z => z c0)]; rfl
        · rw [if_neg (nI_g0 (by omega) (by omega)), decide_eq_true c0]; rfl
    rw [e, if_neg (show ¬ nI 6 = nI 3 by decide), if_neg (show ¬ nI 6 = nI 4 by decide), if_neg (show ¬ nI 6 = nI 5 by decide), if_pos rfl, if_neg (show ¬ (6 : Nat) = 3 by omega), if_neg (show ¬ (6 : Nat) = 4 by omega), if_neg (show ¬ (6 : Nat) = 5 by omega), if_pos (show (6 : Nat) = 6 from rfl), b_111_101, gQ_e b0, Option.bind_some, u2, aI_n b3 c3 (by omega) (by omega), Option.bind_some, i3, f112, Option.bind_some]
    dsimp only
    rw [grdB, Option.bind_some]
  all_goals
    have h7 : 7 ≤ Y (4 * i) := by omega
    have nn : ∀ a b : Nat, a < 100 → b < 100 → a ≠ b → ¬ nI a = nI b := fun a b ha hb hc => nI_nn (by omega) (by omega) hc
  · have cm := cmp (an d) (by omega) h7
    rw [e, if_neg (nn 7 3 (by omega) (by omega) (by omega)), if_neg (nn 7 4 (by omega) (by omega) (by omega)), if_neg (nn 7 5 (by omega) (by omega) (by omega)), if_neg (nn 7 6 (by omega) (by omega) (by omega)), if_pos rfl, b_111_113, gQ_e k7, Option.bind_some, q1, aa, Option.bind_some, rc8, grd_e, Option.bind_some, cm, Option.bind_some]
    dsimp only
    rw [grdB, Option.bind_some]
    rfl
  · have cm := cmp (dLn E d) (by omega) h7
    rw [e, if_neg (nn 8 3 (by omega) (by omega) (by omega)), if_neg (nn 8 4 (by omega) (by omega) (by omega)), if_neg (nn 8 5 (by omega) (by omega) (by omega)), if_neg (nn 8 6 (by omega) (by omega) (by omega)), if_neg (nn 8 7 (by omega) (by omega) (by omega)), if_pos rfl, b_111_125, gI_e kd, Option.bind_some, hD.2.2.2.2.2.2.2.2.1.2.2.2.1, rc8, grd_e, Option.bind_some, cm, Option.bind_some]
    dsimp only
    rw [grdB, Option.bind_some]
    rfl
  · have p1 := pc_le64 (swL E d (dHg E d))
    have p2 := pc_le64 (swH E d (dHg E d))
    have cm := cmp (pc (swL E d (dHg E d)) + pc (swH E d (dHg E d))) (by omega) h7
    rw [e, if_neg (nn 9 3 (by omega) (by omega) (by omega)), if_neg (nn 9 4 (by omega) (by omega) (by omega)), if_neg (nn 9 5 (by omega) (by omega) (by omega)), if_neg (nn 9 6 (by omega) (by omega) (by omega)), if_neg (nn 9 7 (by omega) (by omega) (by omega)), if_neg (nn 9 8 (by omega) (by omega) (by omega)), if_pos rfl, b_111_136, rC_e kd kd30, grd_e, Option.bind_some, s_13 hD (by omega), Option.bind_some, rc8, grd_e, Option.bind_some]
    dsimp only
    rw [cm, Option.bind_some]
    dsimp only
    rw [grdB, Option.bind_some]
    rfl
  · have p1 := fb_ct_le (mayB E d) 4
    have cm := cmp (fb_ct (mayB E d) 4) (by omega) h7
    rw [e, if_neg (nn 10 3 (by omega) (by omega) (by omega)), if_neg (nn 10 4 (by omega) (by omega) (by omega)), if_neg (nn 10 5 (by omega) (by omega) (by omega)), if_neg (nn 10 6 (by omega) (by omega) (by omega)), if_neg (nn 10 7 (by omega) (by omega) (by omega)), if_neg (nn 10 8 (by omega) (by omega) (by omega)), if_neg (nn 10 9 (by omega) (by omega) (by omega)), if_pos rfl, b_111_149, rC_e kd kd30, grd_e, Option.bind_some, s_11 hD (by omega) (by omega), Option.bind_some, rc8, grd_e, Option.bind_some]
    dsimp only
    rw [cm, Option.bind_some]
    dsimp only
    rw [grdB, Option.bind_some]
    rfl
  · have cm := cmp (dCs E d) (by omega) h7
    rw [e, if_neg (nn 11 3 (by omega) (by omega) (by omega)), if_neg (nn 11 4 (by omega) (by omega) (by omega)), if_neg (nn 11 5 (by omega) (by omega) (by omega)), if_neg (nn 11 6 (by omega) (by omega) (by omega)), if_neg (nn 11 7 (by omega) (by omega) (by omega)), if_neg (nn 11 8 (by omega) (by omega) (by omega)), if_neg (nn 11 9 (by omega) (by omega) (by omega)), if_neg (nn 11 10 (by omega) (by omega) (by omega)), b_111_160, gI_e kd, Option.bind_some, hD.2.2.2.2.2.2.2.2.1.2.2.2.2.2.1, rc8, grd_e, Option.bind_some, cm, Option.bind_some]
    dsimp only
    rw [grdB, Option.bind_some]
    rfl
end SAID
