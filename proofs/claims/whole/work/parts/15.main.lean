/-! The induction on the number of steps. -/
/-- the law's own door(), which may catch: its call -/
def bd_DS : Prop := ∀ (n : Nat), bd_PW n → ∀ (p : Program) (l : Launch) (e : Env) (R : Room) (s : State) (m : MethodId) (args : Array Value) (below : List Frame) (meth : Method) (c : Code) (Q : State → Prop) (xs : Nat → Int32) (n0 mi : Nat) (D : va_G) (A : Nat → Prop) (sad : Nat → Nat) (d pc : Nat) (raw : Instr) (L : Lc) (rest : List Value) (h h1 h2 : Hp) (r : Option Value) (v : Int32) (ad ca : Nat → Nat) (H : Heap) (locs : List Loc) (ls : Array Slot) (cells slots o x : Nat) (p0 p1 : Int32),
  l.stackTraces = false → bd_Fix xs n0 mi D A p s m args meth c sad → bd_ok mi pc raw 307 → bd_callee raw 307 = true → hK h x = 10 → 30 ≤ x → ((rest.map fun v => v.category).sum ≤ 8) → ev n d 135 0 (bd_loc 3 [.ref x, .int p0, .int p1]) [] h = some (r, h1) → bd_door o r h1 = some (v, h2) → bd_Rel xs n0 D A s sad ad ca h H locs → bd_Lr ad (hN h) L ls → bd_Sw (hN h) (.ref o :: .int p1 :: .int p0 :: .ref x :: rest) → L.length = (mtM mi).2.2.1 → d + 9 ≤ R.frames → (d + 9) * 64 ≤ R.locals → cells + (hC h2 - hC h) ≤ R.cells → slots + (hS h2 - hS h) ≤ R.slots →
  bd_K p l e R s m args below meth c cells slots Q xs n0 D A sad ad ca h h2 L (.int v :: rest) (pc + 3) → W p l e R s m args below meth c H locs cells slots Q (F0 m pc ls ((Value.ref o :: .int p1 :: .int p0 :: .ref x :: rest).map (bd_cv ad)))
theorem bd_take4 {st : List Value} {a b c d : Value} (h : st.take 4 = [a, b, c, d]) : st = a :: b :: c :: d :: st.drop 4 := by
  have e1 := (List.take_append_drop 4 st).symm
  rw [h] at e1
  exact e1
theorem bd_E.on {p : Program} {l : Launch} {e : Env} {R : Room} {s : State} {m : MethodId} {args : Array Value} {below : List Frame} {meth : Method} {c : Code} {cells slots : Nat} {Q : State → Prop} {xs : Nat → Int32} {n0 mi : Nat} {D : va_G} {A : Nat → Prop} {sad ad ca ad1 ca1 : Nat → Nat} {h h1 h9 : Hp} {r : Option Value} (E : bd_E p l e R s m args below meth c cells slots Q xs n0 mi D A sad ad ca h r h9) (hext : ∀ a, a < hN h → ad1 a = ad a ∧ ca1 a = ca a) (g1 : hN h ≤ hN h1) (g2 : hC h ≤ hC h1) (g3 : hS h ≤ hS h1) : bd_E p l e R s m args below meth c (cells + (hC h1 - hC h)) (slots + (hS h1 - hS h)) Q xs n0 mi D A sad ad1 ca1 h1 r h9 := by
  intro pc raw res st h2 ad' ca' H' locs' ls' L' a1 a2 a3 a4 a5 a6 a7 a8 b1 b2 b3
  have k := E pc raw res st h2 ad' ca' H' locs' ls' L' a1 a2 a3 a4 a5 a6 a7 (fun a ha => by
    obtain ⟨z1, z2⟩ := a8 a (by omega)
    obtain ⟨z3, z4⟩ := hext a ha
    exact ⟨z1.trans z3, z2.trans z4⟩) (by omega) (by omega) (by omega)
  exact W.cs (by omega) (by omega) k
set_option maxHeartbeats 1000000 in
theorem bd_sim (AOK : ∀ mi pc raw res, fe mi pc = some (raw, res) → bd_ok mi pc raw res) (MOK : ∀ mi, mi < 307 → mi ≠ 304 → mi ≠ 305 → bd_mok mi) (DS : bd_DS) : ∀ n, bd_PW n := by
  intro n
  induction n with
  | zero =>
    intro p l e R s m args below meth c Q xs n0 mi D A sad d pc L st h r h9 ad ca H locs ls cells slots hl0 hev
    simp [ev] at hev
  | succ n ih =>
    intro p l e R s m args below meth c Q xs n0 mi D A sad d pc L st h r h9 ad ca H locs ls cells slots hl0 hev F hR hl hst hn hf hlo hc9 hs9 E
    have hmon := ev_mono _ _ _ _ _ _ _ _ _ hev
    unfold ev at hev
    split at hev
    · cases hev
    · rename_i raw res hfe
      have hok := AOK mi pc raw res hfe
      split at hev
      · rename_i hend
        exact W.cs (by omega) (by omega) (E pc raw res st h ad ca H locs ls L hfe hend hev hR hl hst hn (fun _ _ => ⟨rfl, rfl⟩) (Nat.le_refl _) (Nat.le_refl _) (Nat.le_refl _))
      · split at hev
        · rename_i hcal
          split at hev
          · cases hev
          · rename_i d
            split at hev
            · rename_i hk
              split at hev
              · rename_i h307
                subst h307
                split at hev
                · rename_i d o p1 p0 x ht4
                  split at hev
                  · rename_i hcnd
                    split at hev
                    · cases hev
                    · rename_i r1 h2 he1
                      split at hev
                      · cases hev
                      · rename_i v h3 hdo
                        have m1 := ev_mono _ _ _ _ _ _ _ _ _ he1
                        have m2 := bd_door_mono hdo
                        have m3 := ev_mono _ _ _ _ _ _ _ _ _ hev
                        have hst4 := bd_take4 ht4
                        rw [hst4] at hst
                        rw [hst4]
                        refine DS n ih p l e R s m args below meth c Q xs n0 mi D A sad d pc raw L (st.drop 4) h h2 h3 r1 v ad ca H locs ls cells slots o x p0 p1 hl0 F hok hcal hcnd.1 hcnd.2.1 hcnd.2.2 he1 hdo hR hl hst hn (by omega) (by omega) (by omega) (by omega) ?_
                        intro ad' ca' H' locs' ls' hR' hl' hst' hext
                        exact ih p l e R s m args below meth c Q xs n0 mi D A sad (d + 8) (pc + 3) L (.int v :: st.drop 4) h3 r h9 ad' ca' H' locs' ls' _ _ hl0 hev F hR' hl' hst' hn hf hlo (by omega) (by omega) (E.on hext (by omega) (by omega) (by omega))
                  · cases hev
                · cases hev
              · rename_i h307
                split at hev
                · cases hev
                · rename_i h135
                  split at hev
                  · rename_i hcnd
                    split at hev
                    · cases hev
                    · rename_i r1 h2 he1
                      have m1 := ev_mono _ _ _ _ _ _ _ _ _ he1
                      have m3 := ev_mono _ _ _ _ _ _ _ _ _ hev
                      have hres : res < 307 ∧ res ≠ 304 ∧ res ≠ 305 := by
                        have hlk := hok.2
                        obtain ⟨pp, hlk⟩ := hlk
                        cases raw with
                        | invokestatic ix =>
                          have h900 := of_decide_eq_true hcal
                          simp only [bd_lk] at hlk
                          rw [if_neg (by omega)] at hlk
                          simp only [Bool.and_eq_true, decide_eq_true_eq] at hlk
                          omega
                        | invokevirtual ix =>
                          simp only [bd_lk, Bool.and_eq_true, decide_eq_true_eq] at hlk
                          refine ⟨by omega, fun z => ?_, fun z => ?_⟩
                          · subst z; exact absurd hlk.1.1.2 (by decide)
                          · subst z; exact absurd hlk.1.1.2 (by decide)
                        | invokespecial ix =>
                          have h900 : res < 900 := of_decide_eq_true hcal
                          simp only [bd_lk] at hlk
                          rw [if_neg (by omega), if_neg (by omega)] at hlk
                          simp only [Bool.and_eq_true, decide_eq_true_eq] at hlk
                          refine ⟨by omega, fun z => ?_, fun z => ?_⟩
                          · subst z; exact absurd hlk.1.2 (by decide)
                          · subst z; exact absurd hlk.1.2 (by decide)
                        | _ => exact absurd hcal (by simp [bd_callee])
                      refine bd_callsim (n := n) (d := d) hl0 ih AOK (MOK res hres.1 hres.2.1 hres.2.2) F hok hcal (fun z => h135 (Or.inl z)) hk hcnd.1 hcnd.2.1 hcnd.2.2 he1 hR hl hst hn (by omega) (by omega) (by omega) (by omega) ?_
                      intro ad' ca' H' locs' ls' hR' hl' hst' hext
                      exact ih p l e R s m args below meth c Q xs n0 mi D A sad (d + 1) (pc + 3) L _ h2 r h9 ad' ca' H' locs' ls' _ _ hl0 hev F hR' hl' hst' hn hf hlo (by omega) (by omega) (E.on hext (by omega) (by omega) (by omega))
                  · cases hev
            · cases hev
        · split at hev
          · cases hev
          · rename_i pc1 L1 st1 h1 h1s
            have m1 := bd_one_mono h1s
            have m3 := ev_mono _ _ _ _ _ _ _ _ _ hev
            refine bd_sim1 F hok h1s hR hl hst hn (by omega) (by omega) (by omega) (by omega) ?_
            intro ad' ca' H' locs' ls' hR' hl' hst' hext
            exact ih p l e R s m args below meth c Q xs n0 mi D A sad d pc1 L1 st1 h1 r h9 ad' ca' H' locs' ls' _ _ hl0 hev F hR' hl' hst' (m1.1.trans hn) hf hlo (by omega) (by omega) (E.on hext (by omega) (by omega) (by omega))
