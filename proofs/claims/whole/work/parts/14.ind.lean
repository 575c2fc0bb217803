/-! A call, and the induction. -/
theorem bd_nwf {w : Cond} (h : w ∈ tbl) : (w.onTables && w.keeps) = true ∨ ∃ ty, w = .arrayClass ty := good_of_word (List.mem_filter.mp h).2
theorem bd_good (mi : Nat) (MO : bd_mok mi) : GoodIn tbl (bd_ws0 mi) := by
  intro w hw
  have h1 : w ∈ tbl := by
    rcases List.mem_cons.mp hw with e | e
    · rw [e]; exact MO.2
    · exact e
  exact ⟨h1, bd_nwf h1⟩
section IND
variable {p : Program} {l : Launch} {e : Env} {R : Room} {s : State} {m : MethodId} {args : Array Value} {below : List Frame} {meth : Method} {c : Code} {H : Heap} {locs : List Loc} {cells slots : Nat} {Q : State → Prop}
variable {xs : Nat → Int32} {n0 mi : Nat} {D : va_G} {A : Nat → Prop} {sad ad ca : Nat → Nat} {h h1 h9 : Hp} {ls : Array Slot} {L L1 : Lc} {st st1 : List Value} {pc pc1 pc2 res : Nat} {r : Option Value}
theorem bd_stack {k : Nat} (hk : k ≤ st.length) (f : Value → Value) : st.map f = (((st.take k).reverse).map f).reverse ++ (st.drop k).map f := by
  rw [List.map_reverse, List.reverse_reverse, ← List.map_append, List.take_append_drop]
theorem bd_behind {k : Nat} {ad' ca' : Nat → Nat} {H' : Heap} {locs' : List Loc} (K : bd_K p l e R s m args below meth c cells slots Q xs n0 D A sad ad ca h h1 L (r.toList ++ st.drop k) (pc + 3)) (hl : bd_Lr ad (hN h) L ls) (hst : bd_Sw (hN h) st) (hm : hN h ≤ hN h1)
    (hR' : bd_Rel xs n0 D A s sad ad' ca' h1 H' locs') (hext : ∀ a, a < hN h → ad' a = ad a ∧ ca' a = ca a) (hv : ∀ v, r = some v → bd_vw (hN h1) v) : W p l e R s m args below meth c H' locs' (cells + (hC h1 - hC h)) (slots + (hS h1 - hS h)) Q (F0 m (pc + 3) ls ((r.map (bd_cv ad')).toList ++ (st.drop k).map (bd_cv ad))) := by
  have he : ∀ a, a < hN h → ad' a = ad a := fun a ha => (hext a ha).1
  have hsd : bd_Sw (hN h) (st.drop k) := fun v hv => hst v (List.mem_of_mem_drop hv)
  have hsw : bd_Sw (hN h1) (r.toList ++ st.drop k) := by
    intro v hv'
    rcases List.mem_append.mp hv' with z | z
    · cases r with
      | none => cases z
      | some w =>
        have : v = w := by simpa using z
        subst this
        exact hv v rfl
    · exact bd_vw_mono hm (hsd v z)
  have k1 := K ad' ca' H' locs' ls hR' (hl.ext he hm) hsw hext
  have e1 : (r.toList ++ st.drop k).map (bd_cv ad') = (r.map (bd_cv ad')).toList ++ (st.drop k).map (bd_cv ad) := by
    rw [List.map_append, hsd.map he]
    cases r <;> rfl
  rw [e1] at k1
  exact k1
set_option maxHeartbeats 1000000 in
theorem bd_callsim {n d : Nat} {raw : Instr} (hl0 : l.stackTraces = false) (PW : bd_PW n) (AOK : ∀ mi pc raw res, fe mi pc = some (raw, res) → bd_ok mi pc raw res) (MO : bd_mok res) (F : bd_Fix xs n0 mi D A p s m args meth c sad) (hok : bd_ok mi pc raw res) (hcal : bd_callee raw res = true) (h135 : res ≠ 135) (hk : (mtM res).2.2.2.2.1 ≤ st.length)
    (hrec : bd_recv raw res (st.take (mtM res).2.2.2.2.1).reverse h = true) (h8 : ((st.drop (mtM res).2.2.2.2.1).map fun v => v.category).sum ≤ 8) (hlen : (bd_sl (st.take (mtM res).2.2.2.2.1).reverse).length ≤ (mtM res).2.2.1) (hev : ev n d res 0 (bd_loc (mtM res).2.2.1 (st.take (mtM res).2.2.2.2.1).reverse) [] h = some (r, h1))
    (hR : bd_Rel xs n0 D A s sad ad ca h H locs) (hl : bd_Lr ad (hN h) L ls) (hst : bd_Sw (hN h) st) (hn : L.length = (mtM mi).2.2.1) (hf : d + 2 ≤ R.frames) (hlo : (d + 2) * 64 ≤ R.locals) (hc1 : cells + (hC h1 - hC h) ≤ R.cells) (hs1 : slots + (hS h1 - hS h) ≤ R.slots)
    (K : bd_K p l e R s m args below meth c cells slots Q xs n0 D A sad ad ca h h1 L (r.toList ++ st.drop (mtM res).2.2.2.2.1) (pc + 3)) : W p l e R s m args below meth c H locs cells slots Q (F0 m pc ls (st.map (bd_cv ad))) := by
  obtain ⟨hx, hb, hml, hown, htb, hA, hK0, hST, hSW, hin⟩ := id F
  have hAs : ∀ v ∈ (st.take (mtM res).2.2.2.2.1).reverse, bd_vw (hN h) v := fun v hv => hst v (List.mem_of_mem_take (List.mem_reverse.mp hv))
  have hmono := ev_mono _ _ _ _ _ _ _ _ _ hev
  have hM := bd_met (sad := sad) (ad := ad) (ca := ca) (D := D) PW MO h135 l hl0 H.size hev hlen hAs hR.2.2.2.2.1 hR.2.2.2.2.2.1 hR.2.2.2.2.2.2 AOK
  have hd := hok.dec
  have hlenA : (st.take (mtM res).2.2.2.2.1).reverse.length = (mtM res).2.2.2.2.1 := by rw [List.length_reverse, List.length_take]; omega
  obtain ⟨mo, mc⟩ := id MO
  unfold bd_mw at mo
  simp only [Bool.and_eq_true, decide_eq_true_eq] at mo
  have hpay : ∀ w ∈ bd_ws0 res, ∀ (a' : Array Value) (U : State), s.WarmedH U.vm → w.before a' U = true := pay_in htb (bd_good res MO)
  have hini := htb _ (tbl_in (of_decide_eq_true mo.1.1.2) rfl)
  have hroom : (bd_room d (hC h1 - hC h) (hS h1 - hS h)).frames + 1 ≤ R.frames ∧ 8 + ((mtM res).2.2.1 + 11) + (bd_room d (hC h1 - hC h) (hS h1 - hS h)).locals ≤ R.locals := by
    refine ⟨by show d + 1 + 1 ≤ _; omega, ?_⟩
    show 8 + ((mtM res).2.2.1 + 11) + (d + 1) * 64 ≤ R.locals
    have := mo.2
    omega
  have hCF : CallFix p m c (mtM mi).2.1 L.length s args tbl (bd_own mi) := ⟨hx, hb, hml.trans hn.symm, hown, htb⟩
  have e8 : (((st.drop (mtM res).2.2.2.2.1).map (bd_cv ad)).map fun v => v.category).sum ≤ 8 := by
    rw [List.map_map]
    have : (fun v : Value => v.category) ∘ bd_cv ad = fun v => v.category := funext fun v => bd_cv_cat ad v
    rw [this]
    exact h8
  have hpar : ∀ sig, parseMethodDescriptor (mtM res).1.desc = some sig → sig.parameters.length + (mtM res).2.2.2.2.2.1 = (mtM res).2.2.2.2.1 := by
    intro sig hsig
    have h2 := mo.1.1.1.2
    rw [hsig] at h2
    exact Option.some.inj h2
  have hCB : ∀ (ix n1 : Nat), (∀ sig, parseMethodDescriptor (mtM res).1.desc = some sig → n1 = sig.parameters.length) → (Cond.methodLink (bd_own mi) ix (mtM res).1).before args s = true → CallB R s args (bd_own mi) ix (mtM res).1 (mtM res).2.1 (mtM res).2.2.1 (mtM res).2.2.2.1 (bd_ws0 res) (bd_room d (hC h1 - hC h) (hS h1 - hS h)) (hC h1 - hC h) (hS h1 - hS h) n1 := by
    intro ix n1 hn1 hlk
    exact ⟨rfl, rfl, hroom.1, hroom.2, hpay, List.mem_cons_self, htb _ mc, hini, mo.1.1.1.1.2, hn1, hlk⟩
  have hstk := bd_stack hk (bd_cv ad)
  obtain ⟨-, pp, hlk⟩ := id hok
  cases raw with
  | invokestatic ix =>
    have hne : res < 900 ∧ res ≠ 304 ∧ res ≠ 305 := of_decide_eq_true hcal
    simp only [bd_lk] at hlk
    rw [if_neg (by omega)] at hlk
    simp only [Bool.and_eq_true, decide_eq_true_eq] at hlk
    have hms := mo.1.2
    rw [if_pos hlk.2] at hms
    rw [hstk]
    refine bd_back (rest := (st.drop (mtM res).2.2.2.2.1).map (bd_cv ad)) F hR (va_runS (As := (st.take (mtM res).2.2.2.2.1).reverse.map (bd_cv ad)) hCF hM ⟨hCB ix (mtM res).2.2.2.2.1 (fun sig hs => by have := hpar sig hs; omega) (htb _ (bd_at_tbl hlk.1.2 rfl)), htb _ (bd_at_tbl hms rfl)⟩ ⟨bd_W0.blind, fun U hU hW => ⟨rfl, bd_W0.of F hR hU hW⟩⟩ rfl (by rw [List.length_map]; exact hlenA) hl.1 rfl (lv_room e8) (hd rfl) ⟨hc1, hs1⟩) ?_
    intro ad' ca' H' locs' hR' hext hv
    exact bd_behind K hl hst hmono.1 hR' hext hv
  | invokevirtual ix =>
    have hne : res < 900 := of_decide_eq_true hcal
    simp only [bd_lk, Bool.and_eq_true, decide_eq_true_eq] at hlk
    obtain ⟨⟨⟨⟨l1, l2⟩, l3⟩, l4⟩, l5⟩ := hlk
    have hms := mo.1.2
    rw [if_neg (by omega), Bool.and_eq_true, if_neg l4] at hms
    simp only [Bool.and_eq_true, Bool.or_eq_true, decide_eq_true_eq] at hms
    obtain ⟨hi1, hi2, hi3⟩ := hms
    have hcn : bd_Cn (mtM res).2.2.2.2.2.2 = (mtM res).1.cls := by
      rcases hi3 with z | z
      · omega
      · exact z
    simp only [bd_recv] at hrec
    split at hrec
    · rename_i b As1 hAe
      have hrec' := of_decide_eq_true hrec
      obtain ⟨hkb, hb30⟩ := hrec'
      have hbN : b < hN h := hAs (.ref b) (by rw [hAe]; exact List.mem_cons_self)
      rw [hAe] at hstk hM hlenA
      rw [hstk, List.map_cons, List.reverse_cons, List.append_assoc]
      have hrv := va_recv (a := ad b) (q0 := b - 30) hK0 hR.1 (bd_cl l5) (by rw [bd_ws_get hb30 hbN, bd_cell_obj (by omega), hkb])
      refine bd_back (rest := (st.drop (mtM res).2.2.2.2.1).map (bd_cv ad)) F hR (va_runV (As := As1.map (bd_cv ad)) (C := (mtM res).1.cls) hCF hM ⟨hCB ix As1.length (fun sig hs => by have := hpar sig hs; simp only [List.length_cons] at hlenA; omega) (htb _ (bd_at_tbl l2 rfl)), htb _ (bd_at_tbl hi1 rfl), htb _ (bd_at_tbl hi2 rfl)⟩ ⟨bd_W0.blind, by rw [← hcn]; exact hrv, fun U hU hW => ⟨rfl, bd_W0.of F hR hU hW⟩⟩ rfl (by rw [List.length_map]) hl.1 rfl (lv_room e8) (hd rfl) ⟨hc1, hs1⟩) ?_
      intro ad' ca' H' locs' hR' hext hv
      exact bd_behind K hl hst hmono.1 hR' hext hv
    · cases hrec
  | invokespecial ix =>
    have hne : res < 900 := of_decide_eq_true hcal
    simp only [bd_lk] at hlk
    rw [if_neg (by omega), if_neg (by omega)] at hlk
    simp only [Bool.and_eq_true, decide_eq_true_eq] at hlk
    obtain ⟨⟨⟨l1, l2⟩, l3⟩, l4⟩ := hlk
    have hms := mo.1.2
    rw [if_neg (by omega), Bool.and_eq_true, if_pos l4] at hms
    simp only [decide_eq_true_eq] at hms
    obtain ⟨hi1, hi2⟩ := hms
    simp only [bd_recv] at hrec
    split at hrec
    · rename_i b As1 hAe
      rw [hAe] at hstk hM hlenA
      rw [hstk, List.map_cons, List.reverse_cons, List.append_assoc]
      have hnp : ∀ sig, parseMethodDescriptor (mtM res).1.desc = some sig → As1.length = sig.parameters.length := fun sig hs => by have := hpar sig hs; simp only [List.length_cons] at hlenA; omega
      unfold bd_nest at l2
      rcases Bool.or_eq_true_iff.mp l2 with l2 | l2
      · have hcb := hCB ix As1.length hnp (htb _ (bd_at_tbl l2 rfl))
        rw [hi2] at hcb
        refine bd_back (rest := (st.drop (mtM res).2.2.2.2.1).map (bd_cv ad)) F hR (va_runI (As := As1.map (bd_cv ad)) hCF hM ⟨hcb, l4, htb _ (bd_at_tbl hi1 rfl)⟩ ⟨bd_W0.blind, fun U hU hW => ⟨rfl, bd_W0.of F hR hU hW⟩⟩ rfl (by rw [List.length_map]) hl.1 rfl (lv_room e8) (hd rfl) ⟨hc1, hs1⟩) ?_
        intro ad' ca' H' locs' hR' hext hv
        exact bd_behind K hl hst hmono.1 hR' hext hv
      · have hmap : (parseMethodDescriptor (mtM res).1.desc).map (fun d => d.parameters.length) = some As1.length := by
          have h2 := mo.1.1.1.2
          cases hp : parseMethodDescriptor (mtM res).1.desc with
          | none => rw [hp] at h2; cases h2
          | some sig => exact congrArg some (hnp sig hp).symm
        have hcn := va_cnB (R := R) (rm := bd_room d (hC h1 - hC h) (hS h1 - hS h)) (mc := hC h1 - hC h) (ms := hS h1 - hS h) As1.length htb (bd_good res MO) (show bd_ws0 res = _ from rfl) rfl rfl (hSW _ (bd_at_in l2) rfl) hini ⟨mo.1.1.1.1.2.1, mo.1.1.1.1.2.2, hmap⟩ hroom
        rw [hi2] at hcn
        refine bd_back (rest := (st.drop (mtM res).2.2.2.2.1).map (bd_cv ad)) F hR (va_runIN (As := As1.map (bd_cv ad)) hCF hM ⟨hcn, l4, htb _ (bd_at_tbl hi1 rfl)⟩ ⟨bd_W0.blind, fun U hU hW => ⟨rfl, bd_W0.of F hR hU hW⟩⟩ rfl (by rw [List.length_map]) hl.1 rfl (lv_room e8) (hd rfl) ⟨hc1, hs1⟩) ?_
        intro ad' ca' H' locs' hR' hext hv
        exact bd_behind K hl hst hmono.1 hR' hext hv
    · cases hrec
  | _ => exact absurd hcal (by simp [bd_callee])
end IND
