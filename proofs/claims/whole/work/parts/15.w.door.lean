/-! BitingDoors.door, which may throw, and the law's own door(), which catches. -/
def bd_nse : String := "java/util/NoSuchElementException"
def bd_nn : List String := ["java/lang/RuntimeException", "java/lang/Exception"]
set_option maxRecDepth 100000 in
theorem zd_at : (vx_at0 "BitingDoors" 125 bd_nse bd_nn).all (fun w => decide (w ∈ lw_tbl) && (goodWord w || bd_isN w) && vx_ot w && w.onTables) = true := by decide +kernel
set_option maxRecDepth 100000 in
theorem bd_w_d1 : Cond.classLink "BitingDoors" 123 bd_nse ∈ tbl := tbl_in (i := 1379) rfl rfl
set_option maxRecDepth 100000 in
theorem bd_w_d2 : Cond.initialized bd_nse ∈ tbl := tbl_in (i := 146) rfl rfl
set_option maxRecDepth 100000 in
theorem bd_w_d3 : Cond.codeWith (mtM 307).1 (mtM 307).2.1 5 (some .int) [(0, 10, 13, 13)] ∈ tbl := tbl_in (i := 1373) rfl rfl
set_option maxRecDepth 100000 in
theorem bd_w_d4 : Cond.static (mtM 307).1 ∈ tbl := tbl_in (i := 1372) rfl rfl
set_option maxRecDepth 100000 in
theorem bd_w_d5 : Cond.initialized (mtM 307).1.cls ∈ tbl := tbl_in (i := 128) rfl rfl
set_option maxRecDepth 100000 in
theorem bd_w_d6 : Cond.classLink "BitingDoorsLaw" 13 bd_nse ∈ tbl := tbl_in (i := 1374) rfl rfl
set_option maxRecDepth 100000 in
theorem bd_w_d7 : Cond.castable bd_nse bd_nse ∈ lw_tbl := List.mem_of_getElem? (i := 1381) rfl
theorem zd_new : cd_135.all (fun q => match q.2.1 with
  | .new i => (q.1 == 24) && (i == 123)
  | _ => true) = true := by decide
theorem bd_new24 {pc ix res : Nat} (h : fe 135 pc = some (.new ix, res)) : pc = 24 ∧ ix = 123 := by
  unfold fe at h
  obtain ⟨q, hq, e1⟩ := Option.map_eq_some_iff.mp h
  have hm : q ∈ cd_135 := List.mem_of_find?_eq_some hq
  have hp : q.1 = pc := by simpa using List.find?_some hq
  have hr := List.all_eq_true.mp zd_new q hm
  have e2 : q.2.1 = .new ix := congrArg Prod.fst e1
  rw [e2] at hr
  simp only [Bool.and_eq_true, beq_iff_eq] at hr
  exact ⟨hp.symm.trans hr.1, hr.2⟩
/-- how BitingDoors.door leaves the world, when it returns, when it throws -/
def bd_QD (xs : Nat → Int32) (n0 : Nat) (D : va_G) (ad ca : Nat → Nat) (h : Hp) (sz : Nat) (r : Option Value) (h1 : Hp) : Array Value → State → Outcome → State → Prop := fun a st oc t => bd_Q0 xs n0 D ad ca h sz r h1 a st oc t ∧ ¬ r = some bd_thrown
def bd_XD (xs : Nat → Int32) (n0 : Nat) (D : va_G) (ad ca : Nat → Nat) (h : Hp) (sz : Nat) (r : Option Value) (h1 : Hp) : String → State → State → Prop := fun E st t =>
  E = bd_nse ∧ r = some bd_thrown ∧ (∃ ad' ca' : Nat → Nat, (∀ a, a < hN h → ad' a = ad a ∧ ca' a = ca a) ∧ va_P D clA (bd_ws ad' ca' h1) t.heap ∧ va_D (va_A (bd_ws ad ca h) sz) (bd_ws ad' ca' h1) ∧ (∀ a, 30 ≤ a → a < hN h1 → 12 ≤ hK h1 a → ArrOfT t (ca' a) (bd_ty (hK h1 a)) ∧ va_RA t (ca' a) (bd_ty (hK h1 a))) ∧ bd_wf h1 ∧ bd_stat xs n0 h1) ∧ va_F (va_A (bd_ws ad ca h) sz) st t
set_option maxHeartbeats 1000000 in
theorem bd_metD {n : Nat} (PW : bd_PW n) (MO : bd_mok 135) {xs : Nat → Int32} {n0 : Nat} (l : Launch) (hl0 : l.stackTraces = false) {D : va_G} {sad ad ca : Nat → Nat} {d : Nat} {As : List Value} {h h9 : Hp} {r : Option Value} (sz : Nat) (hev : ev n d 135 0 (bd_loc 3 As) [] h = some (r, h9)) (hlen : (bd_sl As).length ≤ 3) (hAs : ∀ v ∈ As, bd_vw (hN h) v) (hw : bd_wf h) (hst : bd_stat xs n0 h) (hsad : ∀ a, a < 30 → ad a = sad a)
    (AOK : ∀ mi pc raw res, fe mi pc = some (raw, res) → bd_ok mi pc raw res) :
    vx_Met l (mtM 135).1 (bd_ws0 135) (bd_room (d + 6) (hC h9 - hC h) (hS h9 - hS h)) (va_Pc (As.map (bd_cv ad)) (bd_W0 xs n0 D sad ad ca h sz)) (bd_QD xs n0 D ad ca h sz r h9) (bd_XD xs n0 D ad ca h sz r h9) (hC h9 - hC h) (hS h9 - hS h) (va_A (bd_ws ad ca h) sz) := by
  obtain ⟨mo, mc⟩ := MO
  unfold bd_mw at mo
  simp only [Bool.and_eq_true, decide_eq_true_eq] at mo
  refine vx_ofW (cc := (mtM 135).2.1) (maxL := (mtM 135).2.2.1) (ret := (mtM 135).2.2.2.1) mo.1.1.1.1.1 rfl ?_
  intro p e s m args below meth c s₁ B hml htab hv
  obtain ⟨rfl, hsz, hK, hP, hD0, hAr, hST, hSW⟩ := hv
  have hx := B.exec
  have hb := B.bytes
  have hr := B.returns
  have hts := atoms_spec (ws := bd_ws0 135) B.pre
  have hown : s.vm.findClass (mtM 135).1.cls = some m.cls := findClass_of_methodNamed B.named
  have hlocks := B.notSynchronized
  have hin : meth.name = (mtM 135).1.name := (name_of_methodNamed B.named B.method).1
  subst hsz
  have hD := hD0.self (sz := s.heap.size)
  have hA : ∀ q : Nat, s.heap.size ≤ q → va_A (bd_ws ad ca h) s.heap.size q := fun q h => Or.inr h
  have F : bd_Fix xs n0 135 D (va_A (bd_ws ad ca h) s.heap.size) p s m (As.map (bd_cv ad)).toArray meth c sad := ⟨hx, hb, hml, hown, fun w hw => hts w (List.mem_cons_of_mem _ hw), hA, hK, hST, hSW, fun q => hin.trans q⟩
  have hR : bd_Rel xs n0 D (va_A (bd_ws ad ca h) s.heap.size) s sad ad ca h s.heap [] := ⟨hP, hD, va_S.rf, hAr, hw, hst, hsad⟩
  rw [lg_entry_eq]
  have hl := bd_entry (ad := ad) (N := hN h) hAs hlen
  have hmono := ev_mono _ _ _ _ _ _ _ _ _ hev
  refine PW p l e (bd_room (d + 6) (hC h9 - hC h) (hS h9 - hS h)) s m (As.map (bd_cv ad)).toArray below meth c _ xs n0 135 D (va_A (bd_ws ad ca h) s.heap.size) sad d 0 (bd_loc 3 As) [] h r h9 ad ca s.heap [] _ 0 0 hl0 hev F hR hl (fun v hv => by cases hv) (bd_len_loc hlen) (by show d + 1 ≤ d + 6 + 1; omega) (by show (d + 1) * 64 ≤ (d + 6 + 1) * 64; omega) (by show 0 + _ ≤ hC h9 - hC h; omega) (by show 0 + _ ≤ hS h9 - hS h; omega) ?_
  intro pc raw res st h1 ad' ca' H' locs' ls' L' hfe hend he hR' hl' hst' hLn hext hN1 hC1 hS1
  have hok := AOK 135 pc raw res hfe
  have hm2 := bd_end_mono he
  have hf : ∀ q ∈ locs', va_A (bd_ws ad ca h) s.heap.size q.base := hR'.2.2.1.2.2
  unfold bd_end at he
  split at he
  · split at he
    · rename_i v
      split at he
      · rename_i hrok
        cases he
        refine vx_ret (W.cs (cells' := hC h9 - hC h) (slots' := hS h9 - hS h) (by omega) (by omega) ?_)
        refine W.iret hx hb hr (fun t ht hW => ⟨⟨⟨ad', ca', rfl, hext, by rw [ht]; exact hR'.1, hR'.2.1, fun a g1 g2 g3 => ?_, hR'.2.2.2.2.1, hR'.2.2.2.2.2.1, fun w hw => by cases hw; trivial⟩, hR'.2.2.1.F ht⟩, fun z => by cases z⟩) hf (hok.dec rfl) hlocks
        obtain ⟨z1, z2⟩ := hR'.2.2.2.1 a g1 g2 g3
        exact ⟨arrOfT_moved hW.alike z1, z2.moved hW.alike⟩
      · cases he
    · cases he
  · split at he
    · split at he
      · rename_i hret
        exact absurd hret (by decide)
      · cases he
    · cases he
  · split at he
    · split at he
      · rename_i hret
        exact absurd hret (by decide)
      · cases he
    · split at he
      · rename_i hret
        exact absurd hret (by decide)
      · cases he
    · cases he
  · split at he
    · split at he
      · rename_i hret
        exact absurd hret (by decide)
      · cases he
    · cases he
  · rename_i ix
    split at he
    · split at he
      · rename_i hc
        cases he
        obtain ⟨e1, e2⟩ := bd_new24 hfe
        subst e1; subst e2
        have htb : ∀ w ∈ tbl, w.before (As.map (bd_cv ad)).toArray s = true := fun w hw => hts w (List.mem_cons_of_mem _ hw)
        have hzd := List.all_eq_true.mp zd_at
        have hat : ∀ w ∈ vx_at0 "BitingDoors" 125 bd_nse bd_nn, w.before (As.map (bd_cv ad)).toArray s = true := by
          intro w hw
          have h1 := hzd w hw
          simp only [Bool.and_eq_true, Bool.or_eq_true, decide_eq_true_eq] at h1
          obtain ⟨⟨⟨q1, q2⟩, q3⟩, q4⟩ := h1
          rcases q2 with q2 | q2
          · exact htb w (List.mem_filter.mpr ⟨q1, q2⟩)
          · exact va_Nw.use q4 (hSW w q1 q2)
        have hcl := bd_w_d1
        have hini := bd_w_d2
        have hcc : hC (hLost h1 6) = hC h1 + 1 ∧ hS (hLost h1 6) = hS h1 + 6 := ⟨rfl, rfl⟩
        refine vx_throw0 (own := "BitingDoors") (cls := bd_nse) (names := bd_nn) (ik := 123) (ic := 125) (A := va_A (bd_ws ad ca h) s.heap.size) hx hb hl0 hown (by decide) (by decide) (htb _ hcl) (htb _ hini) hat ?_ hST.2.2.2.2.2.2.2.2.2.1 hST.2.2.2.2.2.2.2.2.2.2 hR'.2.2.1 (by rw [hml]; exact hl'.1.trans hLn) (hok.dec rfl) ((AOK 135 27 .dup 0 rfl).dec rfl) ((AOK 135 28 (.invokespecial 125) 999 rfl).dec rfl) ((AOK 135 31 .athrow 0 rfl).dec rfl) (fun x hx => (htab x hx).elim) (by show 2 + 3 < d + 6 + 1; omega) (by show 0 + (13 * (2 + 1) + 42) ≤ (d + 6 + 1) * 64; omega) (by show 0 + (hC h1 - hC h) + 1 ≤ hC (hLost h1 6) - hC h; omega) (by show 0 + (hS h1 - hS h) + 6 ≤ hS (hLost h1 6) - hS h; omega) hlocks ?_ hf (by omega) (by omega)
        · intro w hw
          rcases List.mem_cons.mp hw with z | hw
          · rw [z]; rfl
          · rcases List.mem_cons.mp hw with z | hw
            · rw [z]; rfl
            · have h1 := hzd w hw
              simp only [Bool.and_eq_true] at h1
              exact h1.1.2
        · intro t hal hsz hkeep
          refine ⟨rfl, rfl, ⟨ad', ca', hext, fun k q hq => (hR'.1 k q hq).kept (hkeep _ (hR'.1 k q hq).lt), hR'.2.1, fun a g1 g2 g3 => ?_, hR'.2.2.2.2.1, hR'.2.2.2.2.2.1⟩, Nat.le_trans hR'.2.2.1.1 hsz, fun q g1 g2 => ?_⟩
          · obtain ⟨z1, z2⟩ := hR'.2.2.2.1 a g1 g2 g3
            exact ⟨arrOfT_moved hal z1, z2.moved hal⟩
          · rw [hkeep q (Nat.lt_of_lt_of_le g1 hR'.2.2.1.1)]
            exact hR'.2.2.1.2.1 q g1 g2
      · cases he
    · cases he
  · cases he
section DOOR
variable {p : Program} {l : Launch} {e : Env} {R : Room} {s : State} {m : MethodId} {args : Array Value} {below : List Frame} {meth : Method} {c : Code} {H : Heap} {locs : List Loc} {cells slots : Nat} {Q : State → Prop}
variable {xs : Nat → Int32} {n0 mi : Nat} {D : va_G} {A : Nat → Prop} {sad ad ca : Nat → Nat} {h h1 h2 h9 : Hp} {ls : Array Slot} {L L1 : Lc} {st st1 : List Value} {pc pc1 pc2 res : Nat} {r : Option Value}
theorem bd_backX {rest : List Value} {mc ms : Nat} {av : Array Value} {st0 : List Value} (F : bd_Fix xs n0 mi D A p s m args meth c sad) (hR : bd_Rel xs n0 D A s sad ad ca h H locs) (hr : vx_Run p l e R s m args below meth c H locs cells slots mc ms (F0 m pc ls st0) rest (bd_QD xs n0 D ad ca h H.size r h1 av) (bd_XD xs n0 D ad ca h H.size r h1) (va_A (bd_ws ad ca h) H.size))
    (kk : ¬ r = some bd_thrown → ∀ (ad' ca' : Nat → Nat) (H' : Heap) (locs' : List Loc), bd_Rel xs n0 D A s sad ad' ca' h1 H' locs' → (∀ a, a < hN h → ad' a = ad a ∧ ca' a = ca a) → W p l e R s m args below meth c H' locs' (cells + mc) (slots + ms) Q (F0 m (pc + 3) ls ((r.map (bd_cv ad')).toList ++ rest)))
    (kx : r = some bd_thrown → ∀ (ad' ca' : Nat → Nat) (H' : Heap) (locs' : List Loc) (q : Nat) (ce : Cell), bd_Rel xs n0 D A s sad ad' ca' h1 H' locs' → (∀ a, a < hN h → ad' a = ad a ∧ ca' a = ca a) → H'[q]? = some ce → ce.vm = .none → s.vm.findClass bd_nse = some ce.cls → vx_W p l e R s m args below meth c H' locs' (cells + mc) (slots + ms) Q (F0 m pc ls rest) q) : W p l e R s m args below meth c H locs cells slots Q (F0 m pc ls st0) := by
  obtain ⟨hx, hb, hml, hown, htb, hA, hK0, hST, hSW, hin⟩ := id F
  obtain ⟨rP, rD, rS, r4, r5, r6, r7⟩ := id hR
  have hfree : ∀ q, va_A (bd_ws ad ca h) H.size q → A q := by
    intro q hq
    rcases hq with ⟨k, E, hk⟩ | hq
    · exact rD.2 k (q, E) hk
    · exact hA q (Nat.le_trans rS.1 hq)
  have h30 := r5.2.2
  have rel : ∀ (ad' ca' : Nat → Nat) (t T' : State) (Lc' : List Loc), T'.heap = t.heap → s.vm.Alike t.vm → (∀ q ∈ Lc', va_A (bd_ws ad ca h) H.size q.base) → (∀ a, a < hN h → ad' a = ad a ∧ ca' a = ca a) → va_P D clA (bd_ws ad' ca' h1) t.heap → va_D (va_A (bd_ws ad ca h) H.size) (bd_ws ad' ca' h1) → (∀ a, 30 ≤ a → a < hN h1 → 12 ≤ hK h1 a → ArrOfT t (ca' a) (bd_ty (hK h1 a)) ∧ va_RA t (ca' a) (bd_ty (hK h1 a))) → bd_wf h1 → bd_stat xs n0 h1 → H.size ≤ t.heap.size → (∀ q : Nat, q < H.size → ¬ va_A (bd_ws ad ca h) H.size q → t.heap[q]? = H[q]?) → bd_Rel xs n0 D A s sad ad' ca' h1 T'.heap (locs ++ Lc') := by
    intro ad' ca' t T' Lc' e1 hal hL hext p1 p2 p3 p4 p5 hz hk
    refine ⟨by rw [e1]; exact p1, ⟨p2.1, fun k q hq => hfree _ (p2.2 k q hq)⟩, ⟨Nat.le_trans rS.1 (by rw [e1]; exact hz), fun q g1 g2 => ?_, fun q hq => ?_⟩, fun a g1 g2 g3 => ?_, p4, p5, fun a ha => ?_⟩
    · rw [e1, hk q (Nat.lt_of_lt_of_le g1 rS.1) (fun z => g2 (hfree q z))]
      exact rS.2.1 q g1 g2
    · rcases List.mem_append.mp hq with z | z
      · exact rS.2.2 q z
      · exact hfree _ (hL q z)
    · obtain ⟨z1, z2⟩ := p3 a g1 g2 g3
      exact ⟨arrOfT_moved hal.symm z1, z2.moved hal.symm⟩
    · rw [(hext a (Nat.lt_of_lt_of_le ha h30)).1]
      exact r7 a ha
  intro T hT X
  rcases hr T hT X with ⟨v, st₀, t, T', Lc', h0, X', hL, e1, e2, ⟨⟨⟨ad', ca', hv, hext, p1, p2, p3, p4, p5, p6⟩, hz, hk⟩, hnt⟩, stp⟩ | ⟨q, st₀, t, T', Lc', E, ce, h0, X', hL, e1, e2, ⟨hE, hrt, ⟨ad', ca', hext, p1, p2, p3, p4, p5⟩, hz, hk⟩, hq, hcv, hcl, stp⟩
  · cases hv
    rw [h0] at hz hk
    obtain ⟨t2, a1, b1⟩ := kk hnt ad' ca' T'.heap (locs ++ Lc') (rel ad' ca' t T' Lc' e1 (by rw [← e2]; exact X'.warmed.alike) hL hext p1 p2 p3 p4 p5 hz hk) hext T' rfl X'
    exact ⟨t2, stp t2 a1, b1⟩
  · rw [h0] at hz hk
    subst hE
    obtain ⟨t2, a1, b1⟩ := kx hrt ad' ca' T'.heap (locs ++ Lc') q ce (rel ad' ca' t T' Lc' e1 (by rw [← e2]; exact X'.warmed.alike) hL hext p1 p2 p3 p4 p5 hz hk) hext (by rw [e1]; exact hq) hcv hcl T' rfl X'
    exact ⟨t2, stp.trans a1, b1⟩
end DOOR
def bd_wsD : List Cond := .codeWith (mtM 307).1 (mtM 307).2.1 5 (some .int) [(0, 10, 13, 13)] :: tbl
set_option maxHeartbeats 1000000 in
/-- the law's own door() -/
theorem bd_metL {n : Nat} (PW : bd_PW n) (MO : bd_mok 135) {xs : Nat → Int32} {n0 : Nat} (l : Launch) (hl0 : l.stackTraces = false) {D : va_G} {sad ad ca : Nat → Nat} {d o x : Nat} {p0 p1 v : Int32} {h h1 h2 : Hp} {r : Option Value} (sz : Nat) (hev : ev n d 135 0 (bd_loc 3 [.ref x, .int p0, .int p1]) [] h = some (r, h1)) (hdo : bd_door o r h1 = some (v, h2)) (hxN : x < hN h) (hoN : o < hN h) (hkx : hK h x = 10) (hx30 : 30 ≤ x) (hw : bd_wf h) (hst : bd_stat xs n0 h) (hsad : ∀ a, a < 30 → ad a = sad a)
    (AOK : ∀ mi pc raw res, fe mi pc = some (raw, res) → bd_ok mi pc raw res) :
    Met l (mtM 307).1 bd_wsD (bd_room (d + 7) (hC h2 - hC h) (hS h2 - hS h)) (va_Pc (([.ref x, .int p0, .int p1, .ref o] : List Value).map (bd_cv ad)) (bd_W0 xs n0 D sad ad ca h sz)) (bd_Q0 xs n0 D ad ca h sz (some (.int v)) h2) (hC h2 - hC h) (hS h2 - hS h) (va_A (bd_ws ad ca h) sz) := by
  refine va_MetW (cc := (mtM 307).2.1) (maxL := 5) (ret := some .int) (hh := [(0, 10, 13, 13)]) (by decide) rfl ?_
  intro p e s m args below meth c s₁ B hml hv
  obtain ⟨rfl, hsz, hKw, hP, hD0, hAr, hST, hSW⟩ := hv
  have hx := B.exec
  have hb := B.bytes
  have hr := B.returns
  have hts := atoms_spec (ws := bd_wsD) B.pre
  have hown : s.vm.findClass (mtM 307).1.cls = some m.cls := findClass_of_methodNamed B.named
  have hlocks := B.notSynchronized
  have hin : meth.name = (mtM 307).1.name := (name_of_methodNamed B.named B.method).1
  have htab := vx_table (x := (mtM 307).1) B (hts _ List.mem_cons_self)
  subst hsz
  have hD := hD0.self (sz := s.heap.size)
  have hA : ∀ q : Nat, s.heap.size ≤ q → va_A (bd_ws ad ca h) s.heap.size q := fun q h => Or.inr h
  have htb : ∀ w ∈ tbl, w.before (([.ref x, .int p0, .int p1, .ref o] : List Value).map (bd_cv ad)).toArray s = true := fun w hw => hts w (List.mem_cons_of_mem _ hw)
  have F : bd_Fix xs n0 307 D (va_A (bd_ws ad ca h) s.heap.size) p s m (([.ref x, .int p0, .int p1, .ref o] : List Value).map (bd_cv ad)).toArray meth c sad := ⟨hx, hb, hml, hown, htb, hA, hKw, hST, hSW, fun q => hin.trans q⟩
  have hR : bd_Rel xs n0 D (va_A (bd_ws ad ca h) s.heap.size) s sad ad ca h s.heap [] := ⟨hP, hD, va_S.rf, hAr, hw, hst, hsad⟩
  rw [lg_entry_eq]
  have hl := bd_entry (ad := ad) (N := hN h) (n := 5) (As := [.ref x, .int p0, .int p1, .ref o]) (fun v hv => by
    rcases List.mem_cons.mp hv with z | hv
    · rw [z]; exact hxN
    · rcases List.mem_cons.mp hv with z | hv
      · rw [z]; trivial
      · rcases List.mem_cons.mp hv with z | hv
        · rw [z]; trivial
        · rcases List.mem_cons.mp hv with z | hv
          · rw [z]; exact hoN
          · cases hv) (Nat.le_of_ble_eq_true rfl)
  have hmono := ev_mono _ _ _ _ _ _ _ _ _ hev
  have hm2 := bd_door_mono hdo
  generalize (lg_sl (([.ref x, .int p0, .int p1, .ref o] : List Value).map (bd_cv ad)) ++ List.replicate (5 - (lg_sl (([.ref x, .int p0, .int p1, .ref o] : List Value).map (bd_cv ad))).length) Slot.unset).toArray = ls at hl ⊢
  refine lv_aload_n hx hb ((AOK 307 0 (.aload_n 3) 0 rfl).dec rfl) rfl (hl.2.2 3 (.ref o) rfl).1 ?_
  refine lv_iconst (v := 0) hx hb ((AOK 307 1 (.iconst 0) 0 rfl).dec rfl) (by decide) ?_
  refine lv_aload_n hx hb ((AOK 307 2 (.aload_n 0) 0 rfl).dec rfl) rfl (hl.2.2 0 (.ref x) rfl).1 ?_
  refine lv_iload_n hx hb ((AOK 307 3 (.iload_n 1) 0 rfl).dec rfl) rfl (hl.2.2 1 (.int p0) rfl).1 ?_
  refine lv_iload_n hx hb ((AOK 307 4 (.iload_n 2) 0 rfl).dec rfl) rfl (hl.2.2 2 (.int p1) rfl).1 ?_
  have hokc := AOK 307 5 (.invokevirtual 7) 135 rfl
  have hM := bd_metD (sad := sad) (ad := ad) (ca := ca) (D := D) (xs := xs) (n0 := n0) PW MO l hl0 s.heap.size hev (Nat.le_of_ble_eq_true rfl) (fun v hv => by
    rcases List.mem_cons.mp hv with z | hv
    · rw [z]; exact hxN
    · rcases List.mem_cons.mp hv with z | hv
      · rw [z]; trivial
      · rcases List.mem_cons.mp hv with z | hv
        · rw [z]; trivial
        · cases hv) hw hst hsad AOK
  obtain ⟨mo, mc⟩ := id MO
  unfold bd_mw at mo
  simp only [Bool.and_eq_true, decide_eq_true_eq] at mo
  obtain ⟨-, pp, hlk⟩ := id hokc
  simp only [bd_lk, Bool.and_eq_true, decide_eq_true_eq] at hlk
  obtain ⟨⟨⟨⟨l1, l2⟩, l3⟩, l4⟩, l5⟩ := hlk
  have hms := mo.1.2
  rw [if_neg (by decide), Bool.and_eq_true, if_neg l4] at hms
  simp only [Bool.and_eq_true, Bool.or_eq_true, decide_eq_true_eq] at hms
  obtain ⟨hi1, hi2, hi3⟩ := hms
  have hrv := va_recv (a := ad x) (q0 := x - 30) (ci := 10) hKw hR.1 (bd_cl (c := 10) (by decide)) (by rw [bd_ws_get hx30 hxN, bd_cell_obj (by omega), hkx])
  have hCB : CallB (bd_room (d + 7) (hC h2 - hC h) (hS h2 - hS h)) s (([.ref x, .int p0, .int p1, .ref o] : List Value).map (bd_cv ad)).toArray (bd_own 307) 7 (mtM 135).1 (mtM 135).2.1 (mtM 135).2.2.1 (mtM 135).2.2.2.1 (bd_ws0 135) (bd_room (d + 6) (hC h1 - hC h) (hS h1 - hS h)) (hC h1 - hC h) (hS h1 - hS h) 2 := by
    refine ⟨rfl, rfl, Nat.le_refl _, ?_, pay_in htb (bd_good 135 MO), List.mem_cons_self, htb _ mc, htb _ (tbl_in (of_decide_eq_true mo.1.1.2) rfl), mo.1.1.1.1.2, fun sig hsig => ?_, htb _ (bd_at_tbl l2 rfl)⟩
    · show 8 + (3 + 11) + (d + 6 + 1) * 64 ≤ (d + 7 + 1) * 64
      omega
    · have h3 := mo.1.1.1.2
      rw [hsig] at h3
      have h4 : sig.parameters.length + 1 = 3 := Option.some.inj h3
      omega
  refine bd_backX (rest := [.int 0, .ref (ad o)]) F hR (vx_runV (As := [.int p0, .int p1]) (C := (mtM 135).1.cls) (b := ad x) ⟨hx, hb, hml, hown, htb⟩ hM ⟨hCB, htb _ (bd_at_tbl hi1 rfl), htb _ (bd_at_tbl hi2 rfl)⟩ ⟨bd_W0.blind, hrv, fun U hU hW => ⟨rfl, bd_W0.of F hR hU hW⟩⟩ rfl rfl hl.1 rfl (lv_room (by show 1 + (1 + 0) ≤ 8; omega)) (hokc.dec rfl) ⟨by show 0 + (hC h1 - hC h) ≤ hC h2 - hC h; omega, by show 0 + (hS h1 - hS h) ≤ hS h2 - hS h; omega⟩) ?_ ?_
  · intro hnt ad' ca' H' locs' hR' hext
    unfold bd_door at hdo
    split at hdo
    · rename_i v0
      split at hdo
      · rename_i hcnd
        cases hdo
        refine lv_i2l hx hb ((AOK 307 8 .i2l 0 rfl).dec rfl) rfl ?_
        have hoo : ad o = ad' o := ((hext o hoN).1).symm
        have hl' : bd_Lr ad' (hN h1) (bd_loc 5 [.ref x, .int p0, .int p1, .ref o]) ls := hl.ext (fun a ha => (hext a ha).1) hmono.1
        have hsw : bd_Sw (hN h1) [.long v0.toInt64, .int 0, .ref o] := bd_Sw.cons trivial (bd_Sw.cons trivial (bd_Sw.cons (Nat.lt_of_lt_of_le hoN hmono.1) (fun w hw => by cases hw)))
        have hs9 : bd_jst (9 + 1) (bd_loc 5 [.ref x, .int p0, .int p1, .ref o]) [.long v0.toInt64, .int 0, .ref o] h1 = some (10, bd_loc 5 [.ref x, .int p0, .int p1, .ref o], [], sJ h1 o 0 v0.toInt64) := by
          unfold bd_jst
          show (if hK h1 o = 13 ∧ 30 ≤ o ∧ bd_in 0 (hL h1 o) = true then some (9 + 1, bd_loc 5 [.ref x, .int p0, .int p1, .ref o], ([] : List Value), sJ h1 o (0 : Int32).toNatClampNeg v0.toInt64) else none) = _
          rw [if_pos ⟨hcnd.1, hcnd.2.1, decide_eq_true ⟨by decide, by show (0 : Int) < (hL h1 o : Int); omega⟩⟩]
          rfl
        have k9 := zs_jst (p := p) (l := l) (e := e) (R := bd_room (d + 7) (hC (sJ h1 o 0 v0.toInt64) - hC h) (hS (sJ h1 o 0 v0.toInt64) - hS h)) (below := below) (Q := MQ below (bd_Q0 xs n0 D ad ca h s.heap.size (some (.int 0)) (sJ h1 o 0 v0.toInt64)) (([.ref x, .int p0, .int p1, .ref o] : List Value).map (bd_cv ad)).toArray s (hC (sJ h1 o 0 v0.toInt64) - hC h) (hS (sJ h1 o 0 v0.toInt64) - hS h) (va_A (bd_ws ad ca h) s.heap.size)) (cells := 0 + (hC h1 - hC h)) (slots := 0 + (hS h1 - hS h)) F (AOK 307 9 .lastore 0 rfl) hs9 hR' hl' hsw ?_
        · rw [hoo]
          exact k9
        · intro ad2 ca2 H2 locs2 ls2 hR2 hl2 hst2 hext2
          refine lv_goto (tgt := 17) hx hb ((AOK 307 10 (.goto 7) 0 rfl).dec rfl) (by decide) ?_
          refine lv_iconst (v := 0) hx hb ((AOK 307 17 (.iconst 0) 0 rfl).dec rfl) (by decide) ?_
          refine W.cs (cells' := hC (sJ h1 o 0 v0.toInt64) - hC h) (slots' := hS (sJ h1 o 0 v0.toInt64) - hS h) (by show 0 + (hC h1 - hC h) + (hC h1 - hC h1) = hC h1 - hC h; omega) (by show 0 + (hS h1 - hS h) + (hS h1 - hS h1) = hS h1 - hS h; omega) ?_
          refine W.iret hx hb hr (fun t ht hW => ⟨⟨ad2, ca2, rfl, fun a ha => ?_, by rw [ht]; exact hR2.1, hR2.2.1, fun a g1 g2 g3 => ?_, hR2.2.2.2.2.1, hR2.2.2.2.2.2.1, fun w hw => by cases hw; trivial⟩, hR2.2.2.1.F ht⟩) hR2.2.2.1.2.2 ((AOK 307 18 .ireturn 0 rfl).dec rfl) hlocks
          · obtain ⟨z1, z2⟩ := hext2 a (Nat.lt_of_lt_of_le ha hmono.1)
            obtain ⟨z3, z4⟩ := hext a ha
            exact ⟨z1.trans z3, z2.trans z4⟩
          · obtain ⟨z1, z2⟩ := hR2.2.2.2.1 a g1 g2 g3
            exact ⟨arrOfT_moved hW.alike z1, z2.moved hW.alike⟩
      · cases hdo
    · rename_i w
      split at hdo
      · rename_i hw0
        subst hw0
        exact absurd rfl hnt
      · cases hdo
    · cases hdo
  · intro hrt ad' ca' H' locs' q ce hR' hext hq hcv hcl
    rw [hrt] at hdo
    have hdo' : (if (0 : UInt64) = 0 then some ((1 : Int32), h1) else none) = some (v, h2) := hdo
    rw [if_pos rfl] at hdo'
    cases hdo'
    refine vx_catch (name := bd_nse) (E := bd_nse) (own := "BitingDoorsLaw") hown [] ⟨0, 10, 13, 13⟩ [] htab (fun z hz => by cases hz) (by decide) (by decide) (htb _ bd_w_d6) (va_Nw.use rfl (hSW _ bd_w_d7 rfl)) hq hcv hcl ?_
    refine lv_astore hx hb ((AOK 307 13 (.astore 4) 0 rfl).dec rfl) (bd_Lr.has (hl.ext (fun a ha => (hext a ha).1) hmono.1)) (Nat.le_of_ble_eq_true rfl) rfl (fun ls9 hl9 => ?_)
    refine lv_iconst (v := 1) hx hb ((AOK 307 15 (.iconst 1) 0 rfl).dec rfl) (by decide) ?_
    refine W.cs (cells' := hC h1 - hC h) (slots' := hS h1 - hS h) (by omega) (by omega) ?_
    refine W.iret hx hb hr (fun t ht hW => ⟨⟨ad', ca', rfl, hext, by rw [ht]; exact hR'.1, hR'.2.1, fun a g1 g2 g3 => ?_, hR'.2.2.2.2.1, hR'.2.2.2.2.2.1, fun w hw => by cases hw; trivial⟩, hR'.2.2.1.F ht⟩) hR'.2.2.1.2.2 ((AOK 307 16 .ireturn 0 rfl).dec rfl) hlocks
    obtain ⟨z1, z2⟩ := hR'.2.2.2.1 a g1 g2 g3
    exact ⟨arrOfT_moved hW.alike z1, z2.moved hW.alike⟩
theorem bd_DSok (AOK : ∀ mi pc raw res, fe mi pc = some (raw, res) → bd_ok mi pc raw res) (MO : bd_mok 135) : bd_DS := by
  intro n PW p l e R s m args below meth c Q xs n0 mi D A sad d pc raw L rest h h1 h2 r v ad ca H locs ls cells slots o x p0 p1 hl0 F hok hcal hkx hx30 h8 hev hdo hR hl hst hn hf hlo hc hs K
  obtain ⟨hx, hb, hml, hown, htb, hA, hK0, hST, hSW, hin⟩ := id F
  have hoN : o < hN h := hst.hd
  have hxN : x < hN h := hst.tl.tl.tl.hd
  have hmono := ev_mono _ _ _ _ _ _ _ _ _ hev
  have hm2 := bd_door_mono hdo
  have hM := bd_metL (sad := sad) (ad := ad) (ca := ca) (D := D) (xs := xs) (n0 := n0) PW MO l hl0 H.size hev hdo hxN hoN hkx hx30 hR.2.2.2.2.1 hR.2.2.2.2.2.1 hR.2.2.2.2.2.2 AOK
  obtain ⟨-, pp, hlk⟩ := id hok
  have hGI : GoodIn tbl bd_wsD := by
    intro w hw
    have h1 : w ∈ tbl := by
      rcases List.mem_cons.mp hw with e | e
      · rw [e]; exact bd_w_d3
      · exact e
    exact ⟨h1, bd_nwf h1⟩
  have e8 : ((rest.map (bd_cv ad)).map fun v => v.category).sum ≤ 8 := by
    rw [List.map_map]
    have : (fun v : Value => v.category) ∘ bd_cv ad = fun v => v.category := funext fun v => bd_cv_cat ad v
    rw [this]
    exact h8
  cases raw with
  | invokestatic ix =>
    simp only [bd_lk] at hlk
    rw [if_neg (by decide)] at hlk
    simp only [Bool.and_eq_true, decide_eq_true_eq] at hlk
    have cw : vx_CSW R s args (bd_own mi) ix (mtM 307).1 (mtM 307).2.1 5 (some .int) [(0, 10, 13, 13)] bd_wsD (bd_room (d + 7) (hC h2 - hC h) (hS h2 - hS h)) (hC h2 - hC h) (hS h2 - hS h) 4 := by
      refine ⟨⟨rfl, rfl, by show d + 7 + 1 + 1 ≤ R.frames; omega, by show 8 + (5 + 11) + (d + 7 + 1) * 64 ≤ R.locals; omega, pay_in htb hGI, List.mem_cons_self⟩, htb _ bd_w_d3, htb _ bd_w_d5, by decide, fun sig hsig => ?_, htb _ (bd_at_tbl hlk.1.2 rfl), htb _ bd_w_d4⟩
      have h3 : (parseMethodDescriptor (mtM 307).1.desc).map (fun d => d.parameters.length) = some 4 := by decide +kernel
      rw [hsig] at h3
      exact (Option.some.inj h3).symm
    refine bd_back (r := some (.int v)) (h1 := h2) (rest := rest.map (bd_cv ad)) F hR (vx_runSW (As := ([.ref x, .int p0, .int p1, .ref o] : List Value).map (bd_cv ad)) ⟨hx, hb, hml.trans hn.symm, hown, htb⟩ hM cw ⟨bd_W0.blind, fun U hU hW => ⟨rfl, bd_W0.of F hR hU hW⟩⟩ rfl rfl hl.1 rfl (lv_room e8) (hok.dec rfl) ⟨hc, hs⟩) ?_
    intro ad' ca' H' locs' hR' hext hv
    exact bd_behind (st := .ref o :: .int p1 :: .int p0 :: .ref x :: rest) (k := 4) (r := some (.int v)) K hl hst (by omega) hR' hext hv
  | invokevirtual ix =>
    simp only [bd_lk, Bool.and_eq_true, decide_eq_true_eq] at hlk
    exact absurd hlk.1.1.2 (by decide)
  | invokespecial ix =>
    simp only [bd_lk] at hlk
    rw [if_neg (by decide), if_neg (by decide)] at hlk
    simp only [Bool.and_eq_true, decide_eq_true_eq] at hlk
    exact absurd hlk.1.2 (by decide)
  | _ => exact absurd hcal (by simp [bd_callee])
