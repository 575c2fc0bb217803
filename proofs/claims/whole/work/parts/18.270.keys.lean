/-! keys of the class and of the reference: the same order -/
def Rl (U V K : Nat) (x y : HR) : Prop := (x = none ∧ y = none) ∨ ∃ c m a, x = some (U * c + m, a) ∧ y = some (V * c + m, a) ∧ m ≤ K
theorem cmpU {U c m c' m' : Nat} (h1 : m < U) (h2 : m' < U) : U * c + m < U * c' + m' ↔ c < c' ∨ (c = c' ∧ m < m') := by
  rcases Nat.lt_trichotomy c c' with h | h | h
  · have := Nat.mul_le_mul_left U (show c + 1 ≤ c' by omega)
    rw [Nat.mul_succ] at this
    omega
  · subst h; omega
  · have := Nat.mul_le_mul_left U (show c' + 1 ≤ c by omega)
    rw [Nat.mul_succ] at this
    omega
section KEYS
variable {E : Nat → Nat} {U V K : Nat}
theorem Rl.mrg {x y x' y' : HR} (h1 : Rl U V K x y) (h2 : Rl U V K x' y') (hU : K < U) (hV : K < V) : Rl U V K (mrg x x') (mrg y y') := by
  rcases h1 with ⟨rfl, rfl⟩ | ⟨c, m, a, rfl, rfl, hm⟩
  · rw [none_mrg, none_mrg]; exact h2
  · rcases h2 with ⟨rfl, rfl⟩ | ⟨c', m', a', rfl, rfl, hm'⟩
    · rw [mrg_none, mrg_none]; exact Or.inr ⟨c, m, a, rfl, rfl, hm⟩
    · rw [mrg_some, mrg_some]
      have k1 := cmpU (U := U) (c := c') (m := m') (c' := c) (m' := m) (by omega) (by omega)
      have k2 := cmpU (U := V) (c := c') (m := m') (c' := c) (m' := m) (by omega) (by omega)
      by_cases q : c' < c ∨ (c' = c ∧ m' < m)
      · rw [if_pos (k1.2 q), if_pos (k2.2 q)]; exact Or.inr ⟨c', m', a', rfl, rfl, hm'⟩
      · rw [if_neg (fun z => q (k1.1 z)), if_neg (fun z => q (k2.1 z))]; exact Or.inr ⟨c, m, a, rfl, rfl, hm⟩
theorem Rl.fo {f g : Nat → HR} {P : Nat → Bool} (hU : K < U) (hV : K < V) : ∀ n, (∀ i, i < n → Rl U V K (f i) (g i)) → Rl U V K (fo f P none n) (fo g P none n)
  | 0, _ => Or.inl ⟨rfl, rfl⟩
  | n + 1, h => by
    rw [fo_s, fo_s]
    have ih := Rl.fo (P := P) hU hV n (fun i hi => h i (by omega))
    split
    · exact ih.mrg (h n (by omega)) hU hV
    · exact ih
theorem br_key {am : Nat → Bool} {cur w1 w2 c m : Nat → Nat} {M n : Nat} (hw : ∀ d, d < n → w1 d = U * c d + m d ∧ w2 d = V * c d + m d ∧ m d ≤ M) (hU : M * n < U) (hV : M * n < V) : ∀ r d (L : Nat → Nat → Bool), d + r = n → Rl U V (M * r) (br E am cur w1 r d L) (br E am cur w2 r d L) := by
  intro r
  induction r with
  | zero =>
    intro d L _
    exact Or.inr ⟨0, 0, fun _ => 0, rfl, rfl, Nat.zero_le _⟩
  | succ r ih =>
    intro d L hr
    have mr : M * (r + 1) = M * r + M := Nat.mul_succ M r
    have le : M * (r + 1) ≤ M * n := Nat.mul_le_mul_left M (by omega)
    rw [br_s, br_s]
    split
    · apply Rl.fo (by omega) (by omega)
      intro i _
      rcases ih (d + 1) (nxL E L d i) (by omega) with ⟨e1, e2⟩ | ⟨c', m', a, e1, e2, hm⟩
      · left
        show Option.map _ _ = none ∧ Option.map _ _ = none
        rw [e1, e2]
        exact ⟨rfl, rfl⟩
      · right
        show ∃ c m a, Option.map _ _ = some (U * c + m, a) ∧ Option.map _ _ = some (V * c + m, a) ∧ _
        rw [e1, e2]
        obtain ⟨x1, x2, x3⟩ := hw d (by omega)
        by_cases ci : i = cur d
        · refine ⟨c', m', upn a d i, ?_, ?_, by omega⟩
          · show some ((if i = cur d then 0 else w1 d) + (U * c' + m'), upn a d i) = _
            rw [if_pos ci, Nat.zero_add]
          · show some ((if i = cur d then 0 else w2 d) + (V * c' + m'), upn a d i) = _
            rw [if_pos ci, Nat.zero_add]
        · refine ⟨c d + c', m d + m', upn a d i, ?_, ?_, by omega⟩
          · show some ((if i = cur d then 0 else w1 d) + (U * c' + m'), upn a d i) = _
            rw [if_neg ci, x1, Nat.mul_add]
            congr 2
            omega
          · show some ((if i = cur d then 0 else w2 d) + (V * c' + m'), upn a d i) = _
            rw [if_neg ci, x2, Nat.mul_add]
            congr 2
            omega
    · rcases ih (d + 1) L (by omega) with q | ⟨c', m', a, e1, e2, hm⟩
      · exact Or.inl q
      · exact Or.inr ⟨c', m', a, e1, e2, by omega⟩
theorem kr_C (hW : WF E) (cur : Nat → Nat) : Rl 16 100 10 (solW E cur (wC E)) (solW E cur (wM true E)) := by
  have w2 := hW.2.2.1
  have := br_key (E := E) (U := 16) (V := 100) (M := 1) (n := E 2) (am := fun _ => true) (cur := cur) (w1 := wC E) (w2 := wM true E) (c := dCs E) (m := fun _ => 1) (fun d _ => ⟨rfl, by unfold wM; rw [if_pos rfl], Nat.le_refl _⟩) (by omega) (by omega) (E 2) 0 (fitL E) (by omega)
  rcases this with q | ⟨c, m, a, e1, e2, hm⟩
  · exact Or.inl q
  · exact Or.inr ⟨c, m, a, e1, e2, by omega⟩
theorem kr_F (hW : WF E) (cur : Nat → Nat) : Rl 1024 10000 990 (solW E cur (wFw E)) (solW E cur (wM false E)) := by
  have w2 := hW.2.2.1
  have := br_key (E := E) (U := 1024) (V := 10000) (M := 99) (n := E 2) (am := fun _ => true) (cur := cur) (w1 := wFw E) (w2 := wM false E) (c := fun _ => 1) (m := dCs E) (fun d hd => ⟨by unfold wFw; omega, by unfold wM; rw [if_neg (by decide)], (hW.2.2.2.2.2.2.1 d hd).1.2.2.2.2.2.2.2.2.1⟩) (by omega) (by omega) (E 2) 0 (fitL E) (by omega)
  rcases this with q | ⟨c, m, a, e1, e2, hm⟩
  · exact Or.inl q
  · exact Or.inr ⟨c, m, a, e1, e2, by omega⟩
end KEYS
