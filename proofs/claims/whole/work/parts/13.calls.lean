/-! Contracts out of the abstract machine, and the induction. -/
theorem bd_len_loc {n : Nat} {As : List Value} (hn : (bd_sl As).length ≤ n) : (bd_loc n As).length = n := by
  unfold bd_loc
  rw [List.length_append, List.length_replicate]
  omega
set_option maxHeartbeats 1000000 in
/-- the contract of a method, at the arguments As and the heap h -/
theorem bd_met {n : Nat} (PW : bd_PW n) {mi : Nat} (MO : bd_mok mi) (h135 : mi ≠ 135) {xs : Nat → Int32} {n0 : Nat} (l : Launch) (hl0 : l.stackTraces = false) {D : va_G} {sad ad ca : Nat → Nat} {d : Nat} {As : List Value} {h h9 : Hp} {r : Option Value} (sz : Nat) (hev : ev n d mi 0 (bd_loc (mtM mi).2.2.1 As) [] h = some (r, h9)) (hlen : (bd_sl As).length ≤ (mtM mi).2.2.1) (hAs : ∀ v ∈ As, bd_vw (hN h) v) (hw : bd_wf h) (hst : bd_stat xs n0 h) (hsad : ∀ a, a < 30 → ad a = sad a)
    (AOK : ∀ mi pc raw res, fe mi pc = some (raw, res) → bd_ok mi pc raw res) :
    Met l (mtM mi).1 (bd_ws0 mi) (bd_room d (hC h9 - hC h) (hS h9 - hS h)) (va_Pc (As.map (bd_cv ad)) (bd_W0 xs n0 D sad ad ca h sz)) (bd_Q0 xs n0 D ad ca h sz r h9) (hC h9 - hC h) (hS h9 - hS h) (va_A (bd_ws ad ca h) sz) := by
  obtain ⟨mo, mc⟩ := MO
  unfold bd_mw at mo
  simp only [Bool.and_eq_true, decide_eq_true_eq] at mo
  refine Met.ofW (cc := (mtM mi).2.1) (maxL := (mtM mi).2.2.1) (ret := (mtM mi).2.2.2.1) mo.1.1.1.1.1 rfl ?_
  intro p e s m args below meth c s₁ B hml hv
  obtain ⟨rfl, hsz, hK, hP, hD0, hAr, hST, hSW⟩ := hv
  have hx := B.exec
  have hb := B.bytes
  have hr := B.returns
  have hts := atoms_spec (ws := bd_ws0 mi) B.pre
  have hown : s.vm.findClass (mtM mi).1.cls = some m.cls := findClass_of_methodNamed B.named
  have hlocks := B.notSynchronized
  have hin : meth.name = (mtM mi).1.name := (name_of_methodNamed B.named B.method).1
  subst hsz
  have hD := hD0.self (sz := s.heap.size)
  have hA : ∀ q : Nat, s.heap.size ≤ q → va_A (bd_ws ad ca h) s.heap.size q := fun q h => Or.inr h
  have F : bd_Fix xs n0 mi D (va_A (bd_ws ad ca h) s.heap.size) p s m (As.map (bd_cv ad)).toArray meth c sad := ⟨hx, hb, hml, hown, fun w hw => hts w (List.mem_cons_of_mem _ hw), hA, hK, hST, hSW, fun q => hin.trans q⟩
  have hR : bd_Rel xs n0 D (va_A (bd_ws ad ca h) s.heap.size) s sad ad ca h s.heap [] := ⟨hP, hD, va_S.rf, hAr, hw, hst, hsad⟩
  rw [lg_entry_eq]
  have hl := bd_entry (ad := ad) (N := hN h) hAs hlen
  have hmono := ev_mono _ _ _ _ _ _ _ _ _ hev
  refine PW p l e (bd_room d (hC h9 - hC h) (hS h9 - hS h)) s m (As.map (bd_cv ad)).toArray below meth c _ xs n0 mi D (va_A (bd_ws ad ca h) s.heap.size) sad d 0 (bd_loc (mtM mi).2.2.1 As) [] h r h9 ad ca s.heap [] _ 0 0 hl0 hev F hR hl (fun v hv => by cases hv) (bd_len_loc hlen) (Nat.le_refl _) (Nat.le_refl _) (by show 0 + _ ≤ hC h9 - hC h; omega) (by show 0 + _ ≤ hS h9 - hS h; omega) ?_
  intro pc raw res st h1 ad' ca' H' locs' ls' L' hfe hend he hR' hl' hst' hLn hext hN1 hC1 hS1
  have hok := AOK mi pc raw res hfe
  have hm2 := bd_end_mono he
  have post : ∀ (v : Option Value), h9 = h1 → r = v → (∀ w, v = some w → bd_vw (hN h1) w) → ∀ t : State, t.heap = H' → s.WarmedH t.vm → bd_Q0 xs n0 D ad ca h s.heap.size r h9 (As.map (bd_cv ad)).toArray s (.returned (v.map (bd_cv ad'))) t := by
    intro v e1 e2 hvw t ht hW
    subst e1; subst e2
    refine ⟨⟨ad', ca', rfl, hext, by rw [ht]; exact hR'.1, hR'.2.1, fun a g1 g2 g3 => ?_, hR'.2.2.2.2.1, hR'.2.2.2.2.2.1, hvw⟩, hR'.2.2.1.F ht⟩
    obtain ⟨z1, z2⟩ := hR'.2.2.2.1 a g1 g2 g3
    exact ⟨arrOfT_moved hW.alike z1, z2.moved hW.alike⟩
  have hf : ∀ q ∈ locs', va_A (bd_ws ad ca h) s.heap.size q.base := hR'.2.2.1.2.2
  have wid : ∀ g : JFrame, h9 = h1 → W p l e (bd_room d (hC h9 - hC h) (hS h9 - hS h)) s m (As.map (bd_cv ad)).toArray below meth c H' locs' (hC h9 - hC h) (hS h9 - hS h) (MQ below (bd_Q0 xs n0 D ad ca h s.heap.size r h9) (As.map (bd_cv ad)).toArray s (hC h9 - hC h) (hS h9 - hS h) (va_A (bd_ws ad ca h) s.heap.size)) g → W p l e (bd_room d (hC h9 - hC h) (hS h9 - hS h)) s m (As.map (bd_cv ad)).toArray below meth c H' locs' (0 + (hC h1 - hC h)) (0 + (hS h1 - hS h)) (MQ below (bd_Q0 xs n0 D ad ca h s.heap.size r h9) (As.map (bd_cv ad)).toArray s (hC h9 - hC h) (hS h9 - hS h) (va_A (bd_ws ad ca h) s.heap.size)) g := by
    intro g e1 k
    subst e1
    exact W.cs (by omega) (by omega) k
  unfold bd_end at he
  split at he
  · split at he
    · rename_i v
      split at he
      · rename_i hrok
        cases he
        refine wid _ rfl ?_
        unfold bd_rok at hrok
        split at hrok
        · rename_i hret
          exact W.iret hx hb (hr.trans hret) (post (some (.int v)) rfl rfl (fun w hw => by cases hw; trivial)) hf (hok.dec rfl) hlocks
        · rename_i hret
          have h01 : v = 0 ∨ v = 1 := by simpa using hrok
          exact W.zret hx hb (hr.trans hret) (by rcases h01 with rfl | rfl <;> decide) (post (some (.int v)) rfl rfl (fun w hw => by cases hw; trivial)) hf (hok.dec rfl) hlocks
        · cases hrok
      · cases he
    · cases he
  · split at he
    · rename_i v
      split at he
      · rename_i hret
        cases he
        refine wid _ rfl ?_
        exact W.lret hx hb (hr.trans hret) (post (some (.long v)) rfl rfl (fun w hw => by cases hw; trivial)) hf (hok.dec rfl) hlocks
      · cases he
    · cases he
  · split at he
    · rename_i a
      split at he
      · rename_i hret
        cases he
        refine wid _ rfl ?_
        unfold bd_reft at hret
        split at hret
        · rename_i C hC9
          exact W.aret (v := .ref (ad' a)) hx hb (hr.trans hC9) (Or.inl ⟨C, rfl⟩) (Or.inr ⟨_, rfl⟩) (post (some (.ref a)) rfl rfl (fun w hw => by cases hw; exact hst'.hd)) hf (hok.dec rfl) hlocks
        · rename_i C hC9
          exact W.aret (v := .ref (ad' a)) hx hb (hr.trans hC9) (Or.inr ⟨C, rfl⟩) (Or.inr ⟨_, rfl⟩) (post (some (.ref a)) rfl rfl (fun w hw => by cases hw; exact hst'.hd)) hf (hok.dec rfl) hlocks
        · cases hret
      · cases he
    · split at he
      · rename_i hret
        cases he
        refine wid _ rfl ?_
        unfold bd_reft at hret
        split at hret
        · rename_i C hC9
          exact W.aret (v := .null) hx hb (hr.trans hC9) (Or.inl ⟨C, rfl⟩) (Or.inl rfl) (post (some .null) rfl rfl (fun w hw => by cases hw; trivial)) hf (hok.dec rfl) hlocks
        · rename_i C hC9
          exact W.aret (v := .null) hx hb (hr.trans hC9) (Or.inr ⟨C, rfl⟩) (Or.inl rfl) (post (some .null) rfl rfl (fun w hw => by cases hw; trivial)) hf (hok.dec rfl) hlocks
        · cases hret
      · cases he
    · cases he
  · split at he
    · split at he
      · rename_i hret
        cases he
        refine wid _ rfl ?_
        exact W.vret hx hb (hr.trans hret) (post none rfl rfl (fun w hw => by cases hw)) hf (hok.dec rfl) hlocks
      · cases he
    · cases he
  · split at he
    · split at he
      · rename_i hc
        exact absurd hc.2 h135
      · cases he
    · cases he
  · cases he
section CALLS
variable {p : Program} {l : Launch} {e : Env} {R : Room} {s : State} {m : MethodId} {args : Array Value} {below : List Frame} {meth : Method} {c : Code} {H : Heap} {locs : List Loc} {cells slots : Nat} {Q : State → Prop}
variable {xs : Nat → Int32} {n0 mi : Nat} {D : va_G} {A : Nat → Prop} {sad ad ca : Nat → Nat} {h h1 h9 : Hp} {ls : Array Slot} {L L1 : Lc} {st st1 : List Value} {pc pc1 pc2 res : Nat} {r : Option Value}
/-- behind a call -/
theorem bd_back {rest : List Value} {mc ms : Nat} {av : Array Value} {st0 : List Value} (F : bd_Fix xs n0 mi D A p s m args meth c sad) (hR : bd_Rel xs n0 D A s sad ad ca h H locs) (hr : va_Run p l e R s m args below meth c H locs cells slots mc ms (F0 m pc ls st0) rest (bd_Q0 xs n0 D ad ca h H.size r h1 av) (va_A (bd_ws ad ca h) H.size))
    (kk : ∀ (ad' ca' : Nat → Nat) (H' : Heap) (locs' : List Loc), bd_Rel xs n0 D A s sad ad' ca' h1 H' locs' → (∀ a, a < hN h → ad' a = ad a ∧ ca' a = ca a) → (∀ v, r = some v → bd_vw (hN h1) v) → W p l e R s m args below meth c H' locs' (cells + mc) (slots + ms) Q (F0 m (pc + 3) ls ((r.map (bd_cv ad')).toList ++ rest))) : W p l e R s m args below meth c H locs cells slots Q (F0 m pc ls st0) := by
  obtain ⟨hx, hb, hml, hown, htb, hA, hK0, hST, hSW, hin⟩ := id F
  obtain ⟨rP, rD, rS, r4, r5, r6, r7⟩ := id hR
  have hfree : ∀ q, va_A (bd_ws ad ca h) H.size q → A q := by
    intro q hq
    rcases hq with ⟨k, E, hk⟩ | hq
    · exact rD.2 k (q, E) hk
    · exact hA q (Nat.le_trans rS.1 hq)
  intro T hT X
  obtain ⟨v, st₀, t, T', Lc', h0, X', hL, e1, e2, ⟨⟨ad', ca', hv, hext, p1, p2, p3, p4, p5, p6⟩, hz, hk⟩, stp⟩ := hr T hT X
  cases hv
  rw [h0] at hz hk
  have hal : s.vm.Alike t.vm := by rw [← e2]; exact X'.warmed.alike
  have h30 := r5.2.2
  have hR' : bd_Rel xs n0 D A s sad ad' ca' h1 T'.heap (locs ++ Lc') := by
    refine ⟨by rw [e1]; exact p1, ⟨p2.1, fun k q hq => hfree _ (p2.2 k q hq)⟩, ⟨Nat.le_trans rS.1 (by rw [e1]; exact hz), fun q g1 g2 => ?_, fun q hq => ?_⟩, fun a g1 g2 g3 => ?_, p4, p5, fun a ha => ?_⟩
    · rw [e1, hk q (Nat.lt_of_lt_of_le g1 rS.1) (fun z => g2 (hfree q z))]
      exact rS.2.1 q g1 g2
    · rcases List.mem_append.mp hq with z | z
      · exact rS.2.2 q z
      · exact hfree _ (hL q z)
    · obtain ⟨z1, z2⟩ := p3 a g1 g2 g3
      exact ⟨arrOfT_moved hal.symm z1, z2.moved hal.symm⟩
    · rw [(hext a (Nat.lt_of_lt_of_le ha h30)).1]
      exact r7 a ha
  obtain ⟨t2, a1, b1⟩ := kk ad' ca' T'.heap (locs ++ Lc') hR' hext p6 T' rfl X'
  exact ⟨t2, stp t2 a1, b1⟩
/-- the world for a callee -/
theorem bd_W0.of (F : bd_Fix xs n0 mi D A p s m args meth c sad) (hR : bd_Rel xs n0 D A s sad ad ca h H locs) {U : State} (hU : U.heap = H) (hW : s.WarmedH U.vm) : bd_W0 xs n0 D sad ad ca h H.size U := by
  obtain ⟨hx, hb, hml, hown, htb, hA, hK0, hST, hSW, hin⟩ := id F
  obtain ⟨rP, rD, rS, r4, r5, r6, r7⟩ := id hR
  have hfree : ∀ q, va_A (bd_ws ad ca h) H.size q → A q := by
    intro q hq
    rcases hq with ⟨k, E, hk⟩ | hq
    · exact rD.2 k (q, E) hk
    · exact hA q (Nat.le_trans rS.1 hq)
  refine ⟨by rw [hU], hK0.moved hW.alike, by rw [hU]; exact rP, rD.weaken (fun _ _ _ _ => trivial), fun a g1 g2 g3 => ?_, ?_, hSW.warm hW⟩
  · obtain ⟨z1, z2⟩ := r4 a g1 g2 g3
    exact ⟨arrOfT_moved hW.alike z1, z2.moved hW.alike⟩
  · rw [hU]
    exact ((hST.kept (H1 := H) rS.2.1).narrow hfree).moved hW.alike
end CALLS
