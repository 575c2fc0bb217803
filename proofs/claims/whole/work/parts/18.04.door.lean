/-! the thrown answer of door, and the law's own door() -/
def va_thr (o : Option Int32) : Value := match o with
  | some v => .int v
  | none => bd_thrown
def dR (o : Option Nat) (p : Option Int32 × Hp) : Option (Int32 × Hp) := match o with
  | some a => bd_door a (some (va_thr p.1)) p.2
  | none => none
section RD
variable {d mi pc rs : Nat} {L : Lc} {st : List Value} {h : Hp} {v : Option Value × Hp}
theorem rn_thr {ix : Nat} (hfe : fe 135 pc = some (.new ix, 99)) : Rn d 135 pc L [] h (some bd_thrown, hLost h 6) := Rn.ret hfe rfl rfl
theorem Rn.call307 {ix : Nat} {x o : Option Nat} {p0 p1 : Int32} {p : Option Int32 × Hp} {q : Int32 × Hp} (hfe : fe mi pc = some (.invokestatic ix, 307)) (hrc : rC 10 x h = true) (h8 : (st.map fun v => v.category).sum ≤ 8) (C : Rn d 135 0 [some (va_rf x), some (.int p0), some (.int p1)] [] h (some (va_thr p.1), p.2)) (hd : dR o p = some q) (K : Rn (d + 8) mi (pc + 3) L (.int q.1 :: st) q.2 v) : Rn (d + 8) mi pc L (va_rf o :: .int p1 :: .int p0 :: va_rf x :: st) h v := by
  cases x with
  | none => cases hrc
  | some x =>
    cases o with
    | none => cases hd
    | some o =>
      obtain ⟨n1, hn1⟩ := C
      obtain ⟨n2, hn2⟩ := K
      obtain ⟨hk1, hk2⟩ := of_decide_eq_true hrc
      refine ⟨max n1 n2 + 1, ?_⟩
      unfold ev
      rw [hfe]
      dsimp only
      rw [if_neg (show ¬ bd_isEnd (.invokestatic ix) 307 = true from fun z => Bool.noConfusion z), if_pos (show bd_callee (.invokestatic ix) 307 = true from rfl)]
      rw [if_pos (show (mtM 307).2.2.2.2.1 ≤ (va_rf (some o) :: Value.int p1 :: Value.int p0 :: va_rf (some x) :: st).length from by rw [show (mtM 307).2.2.2.2.1 = 4 from rfl]; simp), if_pos rfl]
      have e1 := ev_more _ _ _ _ _ _ _ _ hn1 (max n1 n2) d (Nat.le_max_left _ _) (Nat.le_refl _)
      have e2 := ev_more _ _ _ _ _ _ _ _ hn2 (max n1 n2) (d + 8) (Nat.le_max_right _ _) (Nat.le_refl _)
      show (if hK h x = 10 ∧ 30 ≤ x ∧ (st.map fun v => v.category).sum ≤ 8 then (match ev (max n1 n2) d 135 0 (bd_loc 3 [.ref x, .int p0, .int p1]) [] h with
                | none => none
                | some (r, h1) => (match bd_door o r h1 with
                  | none => none
                  | some (v, h2) => ev (max n1 n2) (d + 8) mi (pc + 3) L (.int v :: st) h2)) else none) = _
      rw [if_pos ⟨hk1, hk2, h8⟩]
      rw [show bd_loc 3 [.ref x, .int p0, .int p1] = [some (va_rf (some x)), some (.int p0), some (.int p1)] from rfl, e1]
      dsimp only
      rw [show bd_door o (some (va_thr p.1)) p.2 = some q from hd]
      exact e2
end RD
