/-! The abstract machine's runs, goal first: Rn. A row an instruction, over typed helpers. -/
set_option maxHeartbeats 1000000 in
theorem ev_more : ∀ (n d mi pc : Nat) (L : Lc) (st : List Value) (h : Hp) (res : Option Value × Hp), ev n d mi pc L st h = some res → ∀ n1 d1 : Nat, n ≤ n1 → d ≤ d1 → ev n1 d1 mi pc L st h = some res := by
  intro n
  induction n with
  | zero => intro d mi pc L st h res hs; simp [ev] at hs
  | succ n ih =>
    intro d mi pc L st h res hs n1 d1 hn hd
    obtain ⟨m1, rfl⟩ : ∃ m1, n1 = m1 + 1 := ⟨n1 - 1, by omega⟩
    unfold ev at hs ⊢
    cases hfe : fe mi pc with
    | none => rw [hfe] at hs; cases hs
    | some q =>
      obtain ⟨raw, rs⟩ := q
      rw [hfe] at hs
      dsimp only at hs ⊢
      by_cases he : bd_isEnd raw rs = true
      · rw [if_pos he] at hs ⊢
        exact hs
      · rw [if_neg he] at hs ⊢
        by_cases hc : bd_callee raw rs = true
        · rw [if_pos hc] at hs ⊢
          cases d with
          | zero => cases hs
          | succ d =>
            obtain ⟨e1, rfl⟩ : ∃ e1, d1 = e1 + 1 := ⟨d1 - 1, by omega⟩
            dsimp only at hs ⊢
            by_cases hk : (mtM rs).2.2.2.2.1 ≤ st.length
            · rw [if_pos hk] at hs ⊢
              by_cases h7 : rs = 307
              · rw [if_pos h7] at hs ⊢
                split at hs
                · rename_i d0 o p1 p0 x ht
                  obtain ⟨e0, rfl⟩ : ∃ e0, e1 = e0 + 7 := ⟨e1 - 7, by omega⟩
                  try rw [ht]
                  dsimp only
                  split at hs
                  · rename_i hcn
                    rw [if_pos hcn]
                    split at hs
                    · cases hs
                    · rename_i r1 h2 he1
                      rw [ih _ _ _ _ _ _ _ he1 m1 e0 (by omega) (by omega)]
                      dsimp only
                      split at hs
                      · cases hs
                      · rename_i v h3 hd3
                        try rw [hd3]
                        exact ih _ _ _ _ _ _ _ hs m1 (e0 + 8) (by omega) (by omega)
                  · cases hs
                · cases hs
              · rw [if_neg h7] at hs ⊢
                by_cases h8 : rs = 135 ∨ rs = 308
                · rw [if_pos h8] at hs; cases hs
                · rw [if_neg h8] at hs ⊢
                  split at hs
                  · rename_i hcn
                    rw [if_pos hcn]
                    split at hs
                    · cases hs
                    · rename_i r1 h2 he1
                      rw [ih _ _ _ _ _ _ _ he1 m1 e1 (by omega) (by omega)]
                      exact ih _ _ _ _ _ _ _ hs m1 (e1 + 1) (by omega) (by omega)
                  · cases hs
            · rw [if_neg hk] at hs; cases hs
        · rw [if_neg hc] at hs ⊢
          split at hs
          · cases hs
          · rename_i pc1 L1 st1 h1 hone
            try rw [hone]
            exact ih _ _ _ _ _ _ _ hs m1 d1 (by omega) (by omega)
def Rn (d mi pc : Nat) (L : Lc) (st : List Value) (h : Hp) (res : Option Value × Hp) : Prop := ∃ n, ev n d mi pc L st h = some res
section RN
variable {d mi pc rs pc1 : Nat} {L L1 : Lc} {st st1 : List Value} {h h1 : Hp} {v : Option Value × Hp} {raw : Instr} {off : Int}
theorem Rn.deep {d1 : Nat} (k : Rn d mi pc L st h v) (hd : d ≤ d1) : Rn d1 mi pc L st h v := by
  obtain ⟨n, hn⟩ := k
  exact ⟨n, ev_more _ _ _ _ _ _ _ _ hn n d1 (Nat.le_refl _) hd⟩
theorem Rn.one (hfe : fe mi pc = some (raw, rs)) (he : bd_isEnd raw rs = false) (hc : bd_callee raw rs = false) (hone : bd_one raw rs pc L st h = some (pc1, L1, st1, h1)) (k : Rn d mi pc1 L1 st1 h1 v) : Rn d mi pc L st h v := by
  obtain ⟨n, hn⟩ := k
  refine ⟨n + 1, ?_⟩
  unfold ev
  rw [hfe]
  dsimp only
  rw [if_neg (by rw [he]; decide), if_neg (by rw [hc]; decide), hone]
  exact hn
theorem Rn.ret (hfe : fe mi pc = some (raw, rs)) (he : bd_isEnd raw rs = true) (hone : bd_end mi raw rs st h = some v) : Rn d mi pc L st h v := by
  refine ⟨1, ?_⟩
  unfold ev
  rw [hfe]
  dsimp only
  rw [if_pos he]
  exact hone
theorem Rn.call {k : Nat} {As rest : List Value} {r : Option Value} (hfe : fe mi pc = some (raw, rs)) (he : bd_isEnd raw rs = false) (hc : bd_callee raw rs = true) (h7 : rs ≠ 307 ∧ rs ≠ 135 ∧ rs ≠ 308) (hk : (mtM rs).2.2.2.2.1 = k) (hst : st = As.reverse ++ rest) (hAs : As.length = k) (hrec : bd_recv raw rs As h = true) (h8 : (rest.map fun v => v.category).sum ≤ 8) (hlen : (bd_sl As).length ≤ (mtM rs).2.2.1)
    (C : Rn d rs 0 (bd_loc (mtM rs).2.2.1 As) [] h (r, h1)) (K : Rn (d + 1) mi (pc + 3) L (r.toList ++ rest) h1 v) : Rn (d + 1) mi pc L st h v := by
  obtain ⟨n1, hn1⟩ := C
  obtain ⟨n2, hn2⟩ := K
  have e1 : st.take (mtM rs).2.2.2.2.1 = As.reverse := by rw [hst, hk, ← hAs]; simp
  have e2 : st.drop (mtM rs).2.2.2.2.1 = rest := by rw [hst, hk, ← hAs]; simp
  refine ⟨max n1 n2 + 1, ?_⟩
  unfold ev
  rw [hfe]
  dsimp only
  rw [if_neg (by rw [he]; decide), if_pos hc, if_pos (by rw [hst, hk, ← hAs]; simp), if_neg h7.1, if_neg (by intro z; rcases z with z | z; exact h7.2.1 z; exact h7.2.2 z), e1, e2, List.reverse_reverse, if_pos ⟨hrec, h8, hlen⟩, ev_more _ _ _ _ _ _ _ _ hn1 (max n1 n2) d (Nat.le_max_left _ _) (Nat.le_refl _)]
  exact ev_more _ _ _ _ _ _ _ _ hn2 (max n1 n2) (d + 1) (Nat.le_max_right _ _) (Nat.le_refl _)
end RN
/-! helpers of the functions -/
def gI (c k : Nat) (q : Option Nat) (h : Hp) : Option Int32 := match q with
  | some a => if hK h a = c then some (hI h a k) else none
  | none => none
def gJ (c k : Nat) (q : Option Nat) (h : Hp) : Option Int64 := match q with
  | some a => if hK h a = c then some (hJ h a k) else none
  | none => none
def gQ (c k : Nat) (q : Option Nat) (h : Hp) : Option (Option Nat) := match q with
  | some a => if hK h a = c then some (hQ h a k) else none
  | none => none
def pI (c k : Nat) (q : Option Nat) (x : Int32) (h : Hp) : Option Hp := match q with
  | some a => if hK h a = c ∧ 30 ≤ a then some (sI h a k x) else none
  | none => none
def pZ (c k : Nat) (q : Option Nat) (x : Int32) (h : Hp) : Option Hp := match q with
  | some a => if hK h a = c ∧ 30 ≤ a ∧ (x = 0 ∨ x = 1) then some (sI h a k x) else none
  | none => none
def pJ (c k : Nat) (q : Option Nat) (x : Int64) (h : Hp) : Option Hp := match q with
  | some a => if hK h a = c ∧ 30 ≤ a then some (sJ h a k x) else none
  | none => none
def pQ (c k : Nat) (q : Option Nat) (x : Option Nat) (h : Hp) : Option Hp := match q with
  | some a => if hK h a = c ∧ 30 ≤ a then some (sQ h a k x) else none
  | none => none
def aI (ar : Nat) (q : Option Nat) (i : Int32) (h : Hp) : Option Int32 := match q with
  | some a => if hK h a = ar ∧ bd_in i (hL h a) = true then some (hI h a i.toNatClampNeg) else none
  | none => none
def aJ (q : Option Nat) (i : Int32) (h : Hp) : Option Int64 := match q with
  | some a => if hK h a = 13 ∧ bd_in i (hL h a) = true then some (hJ h a i.toNatClampNeg) else none
  | none => none
def aQ (q : Option Nat) (i : Int32) (h : Hp) : Option (Option Nat) := match q with
  | some a => if 15 ≤ hK h a ∧ hK h a ≤ 20 ∧ hK h a ≠ 19 ∧ bd_in i (hL h a) = true then some (hQ h a i.toNatClampNeg) else none
  | none => none
def aL (q : Option Nat) (h : Hp) : Option Int32 := match q with
  | some a => if 12 ≤ hK h a ∧ hK h a ≤ 20 ∧ hK h a ≠ 19 then some (Int32.ofNat (hL h a)) else none
  | none => none
def wI (q : Option Nat) (i x : Int32) (h : Hp) : Option Hp := match q with
  | some a => if hK h a = 12 ∧ 30 ≤ a ∧ bd_in i (hL h a) = true then some (sI h a i.toNatClampNeg x) else none
  | none => none
def wZ (q : Option Nat) (i x : Int32) (h : Hp) : Option Hp := match q with
  | some a => if hK h a = 14 ∧ 30 ≤ a ∧ bd_in i (hL h a) = true then some (sI h a i.toNatClampNeg (x &&& 1)) else none
  | none => none
def wJ (q : Option Nat) (i : Int32) (x : Int64) (h : Hp) : Option Hp := match q with
  | some a => if hK h a = 13 ∧ 30 ≤ a ∧ bd_in i (hL h a) = true then some (sJ h a i.toNatClampNeg x) else none
  | none => none
def wQ (q : Option Nat) (i : Int32) (x : Option Nat) (h : Hp) : Option Hp := match q with
  | some a => (match x with
    | some b => if 15 ≤ hK h a ∧ hK h a ≤ 18 ∧ 30 ≤ a ∧ bd_in i (hL h a) = true ∧ 30 ≤ b ∧ hK h b = bd_comp (hK h a) then some (sQ h a i.toNatClampNeg (some b)) else none
    | none => if 15 ≤ hK h a ∧ hK h a ≤ 18 ∧ 30 ≤ a ∧ bd_in i (hL h a) = true then some (sQ h a i.toNatClampNeg none) else none)
  | none => none
def nA (ar : Nat) (n : Int32) (h : Hp) : Option Hp := if 12 ≤ ar ∧ ar ≤ 18 ∧ bd_in n 100000 = true then some (hNew h ar n.toNatClampNeg n.toNatClampNeg) else none
def cP (q0 : Option Nat) (sp : Int32) (q1 : Option Nat) (dp n : Int32) (h : Hp) : Option Hp := match q0, q1 with
  | some a, some b => if hK h a = 12 ∧ hK h b = 12 ∧ 30 ≤ a ∧ 30 ≤ b ∧ 0 ≤ sp.toInt ∧ 0 ≤ dp.toInt ∧ 0 ≤ n.toInt ∧ sp.toNatClampNeg + n.toNatClampNeg ≤ hL h a ∧ dp.toNatClampNeg + n.toNatClampNeg ≤ hL h b then some (hCopy h a sp.toNatClampNeg b dp.toNatClampNeg n.toNatClampNeg) else none
  | _, _ => none
/-- the receiver of a call: one of the named class -/
def rC (c : Nat) (q : Option Nat) (h : Hp) : Bool := match q with
  | some b => decide (hK h b = c ∧ 30 ≤ b)
  | none => false
def FU : Nat := 100000
def RF : Nat := 64
theorem bd_cat_rf (q : Option Nat) : (va_rf q).category = 1 := by cases q <;> rfl
