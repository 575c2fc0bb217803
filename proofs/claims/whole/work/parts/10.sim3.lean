/-! Arrays, and what is made. -/
section SIM3
variable {p : Program} {l : Launch} {e : Env} {R : Room} {s : State} {m : MethodId} {args : Array Value} {below : List Frame} {meth : Method} {c : Code} {H : Heap} {locs : List Loc} {cells slots : Nat} {Q : State → Prop}
variable {xs : Nat → Int32} {n0 mi : Nat} {D : va_G} {A : Nat → Prop} {sad ad ca : Nat → Nat} {h h1 : Hp} {ls : Array Slot} {L L1 : Lc} {st st1 : List Value} {pc pc1 pc2 res : Nat} {off : Int}
theorem zs_iald (F : bd_Fix xs n0 mi D A p s m args meth c sad) (hok : bd_ok mi pc .iaload res) (hs : bd_ald 12 (pc + 1) L st h = some (pc1, L1, st1, h1)) (hR : bd_Rel xs n0 D A s sad ad ca h H locs) (hl : bd_Lr ad (hN h) L ls) (hst : bd_Sw (hN h) st) (K : bd_K p l e R s m args below meth c cells slots Q xs n0 D A sad ad ca h h1 L1 st1 pc1) : W p l e R s m args below meth c H locs cells slots Q (F0 m pc ls (st.map (bd_cv ad))) := by
  obtain ⟨hx, hb, hml, hown, htb, hA, hK0, hST, hSW, hin⟩ := id F
  have hd := hok.dec rfl
  unfold bd_ald at hs
  split at hs
  · rename_i i a r
    split at hs
    · rename_i hcnd
      obtain ⟨hka, hi⟩ := hcnd
      cases hs
      have ha : a < hN h := hst.tl.hd
      have K1 := K.same hR hl (hst.tl.tl.cons (v := .int (hI h a i.toNatClampNeg)) trivial)
      have hvp := bd_in_vp hi
      rcases Nat.lt_or_ge a 30 with q | q
      · have hlt : i.toNatClampNeg < hL h a := Nat.not_le.mp fun z => hvp (Or.inr z)
        show W p l e R s m args below meth c H locs cells slots Q (F0 m pc ls (.int i :: .ref (ad a) :: r.map (bd_cv ad)))
        rw [hR.2.2.2.2.2.2 a q]
        obtain ⟨z1, z2, z3, z4, z5, z6, z7, z8, z9, z10⟩ := hR.2.2.2.2.2.1
        rcases bd_static hR q hka with ⟨_, w⟩ | ⟨_, w⟩ | ⟨w, _⟩
        · omega
        · omega
        · rcases w with rfl | rfl | rfl
          · rw [z5] at hvp hlt
            refine va_ti (f := fun j => .int (bd_stx j)) hx hb hST.2.2.2.2.2.1 hR.2.2.1 hvp (v := .int (hI h 27 i.toNatClampNeg)) (by rw [z6 _ hlt]) hd K1
          · rw [z7] at hvp hlt
            refine va_ti (f := fun j => .int (bd_sty j)) hx hb hST.2.2.2.2.2.2.2.1 hR.2.2.1 hvp (v := .int (hI h 28 i.toNatClampNeg)) (by rw [z8 _ hlt]) hd K1
          · rw [z9] at hvp hlt
            refine va_ti (f := fun j => .int (xs j)) hx hb hST.2.2.2.2.2.2.2.2.1 hR.2.2.1 hvp (v := .int (hI h 29 i.toNatClampNeg)) (by rw [z10 _ hlt]) hd K1
      · have hKK := F.K1 hR q ha (by omega)
        rw [hka] at hKK
        exact va_iald hx hb hKK hR.1 (a - 30) 0 (by rw [bd_ws_get q ha, bd_cell_int (Or.inl hka)]) rfl hvp hd K1
    · cases hs
  · cases hs
theorem zs_zald (F : bd_Fix xs n0 mi D A p s m args meth c sad) (hok : bd_ok mi pc .baload res) (hs : bd_ald 14 (pc + 1) L st h = some (pc1, L1, st1, h1)) (hR : bd_Rel xs n0 D A s sad ad ca h H locs) (hl : bd_Lr ad (hN h) L ls) (hst : bd_Sw (hN h) st) (K : bd_K p l e R s m args below meth c cells slots Q xs n0 D A sad ad ca h h1 L1 st1 pc1) : W p l e R s m args below meth c H locs cells slots Q (F0 m pc ls (st.map (bd_cv ad))) := by
  obtain ⟨hx, hb, hml, hown, htb, hA, hK0, hST, hSW, hin⟩ := id F
  have hd := hok.dec rfl
  unfold bd_ald at hs
  split at hs
  · rename_i i a r
    split at hs
    · rename_i hcnd
      obtain ⟨hka, hi⟩ := hcnd
      cases hs
      have ha : a < hN h := hst.tl.hd
      have K1 := K.same hR hl (hst.tl.tl.cons (v := .int (hI h a i.toNatClampNeg)) trivial)
      have hvp := bd_in_vp hi
      rcases Nat.lt_or_ge a 30 with q | q
      · rcases bd_static hR q hka with ⟨_, w⟩ | ⟨_, w⟩ | ⟨_, w⟩ <;> omega
      · have hKK := F.K1 hR q ha (by omega)
        rw [hka] at hKK
        exact va_zald hx hb hKK hR.1 (a - 30) 0 (by rw [bd_ws_get q ha, bd_cell_int (Or.inr hka)]) rfl hvp hd K1
    · cases hs
  · cases hs
theorem zs_jld (F : bd_Fix xs n0 mi D A p s m args meth c sad) (hok : bd_ok mi pc .laload res) (hs : bd_jld (pc + 1) L st h = some (pc1, L1, st1, h1)) (hR : bd_Rel xs n0 D A s sad ad ca h H locs) (hl : bd_Lr ad (hN h) L ls) (hst : bd_Sw (hN h) st) (K : bd_K p l e R s m args below meth c cells slots Q xs n0 D A sad ad ca h h1 L1 st1 pc1) : W p l e R s m args below meth c H locs cells slots Q (F0 m pc ls (st.map (bd_cv ad))) := by
  obtain ⟨hx, hb, hml, hown, htb, hA, hK0, hST, hSW, hin⟩ := id F
  have hd := hok.dec rfl
  unfold bd_jld at hs
  split at hs
  · rename_i i a r
    split at hs
    · rename_i hcnd
      obtain ⟨hka, hi⟩ := hcnd
      cases hs
      have ha : a < hN h := hst.tl.hd
      have K1 := K.same hR hl (hst.tl.tl.cons (v := .long (hJ h a i.toNatClampNeg)) trivial)
      have hvp := bd_in_vp hi
      rcases Nat.lt_or_ge a 30 with q | q
      · rcases bd_static hR q hka with ⟨_, w⟩ | ⟨_, w⟩ | ⟨_, w⟩ <;> omega
      · have hKK := F.K1 hR q ha (by omega)
        rw [hka] at hKK
        exact va_lald hx hb hKK hR.1 (a - 30) 0 (by rw [bd_ws_get q ha, bd_cell_long hka]) rfl hvp hd K1
    · cases hs
  · cases hs
theorem bd_ty_ref {k : Nat} (hk : 15 ≤ k) : bd_ty k = .object (bd_akn k) := by
  unfold bd_ty
  rw [if_neg (by omega), if_neg (by omega), if_neg (by omega)]
theorem zs_qld (F : bd_Fix xs n0 mi D A p s m args meth c sad) (hok : bd_ok mi pc .aaload res) (hs : bd_qld (pc + 1) L st h = some (pc1, L1, st1, h1)) (hR : bd_Rel xs n0 D A s sad ad ca h H locs) (hl : bd_Lr ad (hN h) L ls) (hst : bd_Sw (hN h) st) (K : bd_K p l e R s m args below meth c cells slots Q xs n0 D A sad ad ca h h1 L1 st1 pc1) : W p l e R s m args below meth c H locs cells slots Q (F0 m pc ls (st.map (bd_cv ad))) := by
  obtain ⟨hx, hb, hml, hown, htb, hA, hK0, hST, hSW, hin⟩ := id F
  have hd := hok.dec rfl
  unfold bd_qld at hs
  split at hs
  · rename_i i a r
    split at hs
    · rename_i hcnd
      obtain ⟨hk1, hk2, hk3, hi⟩ := hcnd
      cases hs
      have ha : a < hN h := hst.tl.hd
      have K1 := K.same hR hl (hst.tl.tl.cons (v := va_rf (hQ h a i.toNatClampNeg)) (bd_vw_rf fun b hb => hR.2.2.2.2.1.1 a _ b ha hb))
      have hvp := bd_in_vp hi
      rcases Nat.lt_or_ge a 30 with q | q
      · have hlt : i.toNatClampNeg < hL h a := Nat.not_le.mp fun z => hvp (Or.inr z)
        show W p l e R s m args below meth c H locs cells slots Q (F0 m pc ls (.int i :: .ref (ad a) :: r.map (bd_cv ad)))
        rcases bd_static hR q rfl with ⟨_, w⟩ | ⟨w, _⟩ | ⟨_, w⟩
        · omega
        · subst w
          obtain ⟨z1, z2, z3, z4, z5, z6, z7, z8, z9, z10⟩ := hR.2.2.2.2.2.1
          rw [z3] at hvp hlt
          rw [hR.2.2.2.2.2.2 26 q]
          obtain ⟨cell, g1, g2, g3, g4, g5, g6, g7⟩ := hST.2.2.2.1
          have hin' : ¬ (i < 0 ∨ cell.slots.size ≤ i.toNatClampNeg) := by
            intro z
            rcases z with z | z
            · exact hvp (Or.inl z)
            · omega
          have e1 : bd_cv ad (va_rf (hQ h 26 i.toNatClampNeg)) = .ref (sad i.toNatClampNeg) := by
            rw [z4 _ hlt]
            show Value.ref (ad i.toNatClampNeg) = _
            rw [hR.2.2.2.2.2.2 _ (by omega)]
          have K2 : W p l e R s m args below meth c H locs cells slots Q (F0 m (pc + 1) ls (.ref (sad i.toNatClampNeg) :: r.map (bd_cv ad))) := by
            rw [← e1]; exact K1
          exact W.aald (v := .ref (sad i.toNatClampNeg)) hx hb (by rw [hR.2.2.1.2.1 _ (Array.getElem?_eq_some_iff.mp g1).1 g7]; exact g1) g2 rfl g3 hin' (g6 _ hlt) rfl rfl hd K2
        · omega
      · have hKK := F.K1 hR q ha (by omega)
        rw [bd_ty_ref hk1] at hKK
        refine va_aldq hx hb hKK hR.1 (a - 30) 0 (by rw [bd_ws_get q ha, bd_cell_ref hk1]) rfl hvp hd ?_
        rw [← bd_cv_rf]
        exact K1
    · cases hs
  · cases hs
theorem zs_len (F : bd_Fix xs n0 mi D A p s m args meth c sad) (hok : bd_ok mi pc .arraylength res) (hs : bd_len (pc + 1) L st h = some (pc1, L1, st1, h1)) (hR : bd_Rel xs n0 D A s sad ad ca h H locs) (hl : bd_Lr ad (hN h) L ls) (hst : bd_Sw (hN h) st) (K : bd_K p l e R s m args below meth c cells slots Q xs n0 D A sad ad ca h h1 L1 st1 pc1) : W p l e R s m args below meth c H locs cells slots Q (F0 m pc ls (st.map (bd_cv ad))) := by
  obtain ⟨hx, hb, hml, hown, htb, hA, hK0, hST, hSW, hin⟩ := id F
  have hd := hok.dec rfl
  unfold bd_len at hs
  split at hs
  · rename_i a r
    split at hs
    · rename_i hcnd
      obtain ⟨hk1, hk2, hk3⟩ := hcnd
      cases hs
      have ha : a < hN h := hst.hd
      have K1 := K.same hR hl (hst.tl.cons (v := .int (Int32.ofNat (hL h a))) trivial)
      rcases Nat.lt_or_ge a 30 with q | q
      · show W p l e R s m args below meth c H locs cells slots Q (F0 m pc ls (.ref (ad a) :: r.map (bd_cv ad)))
        rw [hR.2.2.2.2.2.2 a q]
        obtain ⟨z1, z2, z3, z4, z5, z6, z7, z8, z9, z10⟩ := hR.2.2.2.2.2.1
        rcases bd_static hR q rfl with ⟨_, w⟩ | ⟨w, _⟩ | ⟨w, _⟩
        · omega
        · subst w
          exact va_tlen hx hb hST.2.2.2.1 hR.2.2.1 (by rw [z3]) hd K1
        · rcases w with rfl | rfl | rfl
          · exact va_tlen hx hb hST.2.2.2.2.2.1 hR.2.2.1 (by rw [z5]) hd K1
          · exact va_tlen hx hb hST.2.2.2.2.2.2.2.1 hR.2.2.1 (by rw [z7]) hd K1
          · exact va_tlen hx hb hST.2.2.2.2.2.2.2.2.1 hR.2.2.1 (by rw [z9]) hd K1
      · have hKK := F.K1 hR q ha hk1
        have hcell : ∃ y : vp_A, bd_cell ad ca h a = .inl (ca a, y) ∧ y.1 = hL h a := by
          rcases (show hK h a = 12 ∨ hK h a = 14 ∨ hK h a = 13 ∨ 15 ≤ hK h a by omega) with z | z | z | z
          · exact ⟨_, bd_cell_int (Or.inl z), rfl⟩
          · exact ⟨_, bd_cell_int (Or.inr z), rfl⟩
          · exact ⟨_, bd_cell_long z, rfl⟩
          · exact ⟨_, bd_cell_ref z, rfl⟩
        obtain ⟨y, hy, hy2⟩ := hcell
        exact va_alen hx hb hKK hR.1 (a - 30) 0 (x := y) (by rw [bd_ws_get q ha, hy]) rfl (by rw [hy2]) hd K1
    · cases hs
  · cases hs
theorem zs_ast (F : bd_Fix xs n0 mi D A p s m args meth c sad) (hok : bd_ok mi pc .iastore res) (hs : bd_ast (pc + 1) L st h = some (pc1, L1, st1, h1)) (hR : bd_Rel xs n0 D A s sad ad ca h H locs) (hl : bd_Lr ad (hN h) L ls) (hst : bd_Sw (hN h) st) (K : bd_K p l e R s m args below meth c cells slots Q xs n0 D A sad ad ca h h1 L1 st1 pc1) : W p l e R s m args below meth c H locs cells slots Q (F0 m pc ls (st.map (bd_cv ad))) := by
  obtain ⟨hx, hb, hml, hown, htb, hA, hK0, hST, hSW, hin⟩ := id F
  have hd := hok.dec rfl
  unfold bd_ast at hs
  split at hs
  · rename_i x i a r
    split at hs
    · rename_i hcnd
      obtain ⟨hka, q, hi⟩ := hcnd
      cases hs
      have ha : a < hN h := hst.tl.tl.hd
      have hKK := F.K1 hR q ha (by omega)
      rw [hka] at hKK
      refine va_iast hx hb hKK hR.1 hR.2.1 hR.2.2.1 (a - 30) 0 (by rw [bd_ws_get q ha, bd_cell_int (Or.inl hka)]) rfl (bd_in_vp hi) hd (fun H1 locs1 hP1 hD1 hS1 => ?_)
      have hcell : bd_cell ad ca (sI h a i.toNatClampNeg x) a = .inl (ca a, hL h a, .inl (upd (hI h a) i.toNatClampNeg x)) := by
        rw [bd_cell_int (h := sI h a i.toNatClampNeg x) (Or.inl hka)]
        show (Sum.inl (ca a, hL h a, Sum.inl (up2 (hI h) a i.toNatClampNeg x a)) : va_E) = _
        rw [up2_at]
        rfl
      exact W.cs (by show cells = cells + (hC h - hC h); omega) (by show slots = slots + (hS h - hS h); omega) (K ad ca H1 locs1 ls (hR.set q rfl rfl rfl (fun b hb => up2_ne hb) (fun _ _ => rfl) (fun _ _ => rfl) (fun k b hb => hR.2.2.2.2.1.1 a k b ha hb) hcell hP1 hD1 hS1) hl hst.tl.tl.tl (fun _ _ => ⟨rfl, rfl⟩))
    · cases hs
  · cases hs
theorem zs_zst (F : bd_Fix xs n0 mi D A p s m args meth c sad) (hok : bd_ok mi pc .bastore res) (hs : bd_zst (pc + 1) L st h = some (pc1, L1, st1, h1)) (hR : bd_Rel xs n0 D A s sad ad ca h H locs) (hl : bd_Lr ad (hN h) L ls) (hst : bd_Sw (hN h) st) (K : bd_K p l e R s m args below meth c cells slots Q xs n0 D A sad ad ca h h1 L1 st1 pc1) : W p l e R s m args below meth c H locs cells slots Q (F0 m pc ls (st.map (bd_cv ad))) := by
  obtain ⟨hx, hb, hml, hown, htb, hA, hK0, hST, hSW, hin⟩ := id F
  have hd := hok.dec rfl
  unfold bd_zst at hs
  split at hs
  · rename_i x i a r
    split at hs
    · rename_i hcnd
      obtain ⟨hka, q, hi⟩ := hcnd
      cases hs
      have ha : a < hN h := hst.tl.tl.hd
      have hKK := F.K1 hR q ha (by omega)
      rw [hka] at hKK
      refine va_zast hx hb hKK hR.1 hR.2.1 hR.2.2.1 (a - 30) 0 (by rw [bd_ws_get q ha, bd_cell_int (Or.inr hka)]) rfl (bd_in_vp hi) hd (fun H1 locs1 hP1 hD1 hS1 => ?_)
      have hcell : bd_cell ad ca (sI h a i.toNatClampNeg (x &&& 1)) a = .inl (ca a, hL h a, .inl (upd (hI h a) i.toNatClampNeg (vp_nar .boolean x))) := by
        rw [bd_cell_int (h := sI h a i.toNatClampNeg (x &&& 1)) (Or.inr hka)]
        show (Sum.inl (ca a, hL h a, Sum.inl (up2 (hI h) a i.toNatClampNeg (x &&& 1) a)) : va_E) = _
        rw [up2_at]
        rfl
      exact W.cs (by show cells = cells + (hC h - hC h); omega) (by show slots = slots + (hS h - hS h); omega) (K ad ca H1 locs1 ls (hR.set q rfl rfl rfl (fun b hb => up2_ne hb) (fun _ _ => rfl) (fun _ _ => rfl) (fun k b hb => hR.2.2.2.2.1.1 a k b ha hb) hcell hP1 hD1 hS1) hl hst.tl.tl.tl (fun _ _ => ⟨rfl, rfl⟩))
    · cases hs
  · cases hs
theorem zs_jst (F : bd_Fix xs n0 mi D A p s m args meth c sad) (hok : bd_ok mi pc .lastore res) (hs : bd_jst (pc + 1) L st h = some (pc1, L1, st1, h1)) (hR : bd_Rel xs n0 D A s sad ad ca h H locs) (hl : bd_Lr ad (hN h) L ls) (hst : bd_Sw (hN h) st) (K : bd_K p l e R s m args below meth c cells slots Q xs n0 D A sad ad ca h h1 L1 st1 pc1) : W p l e R s m args below meth c H locs cells slots Q (F0 m pc ls (st.map (bd_cv ad))) := by
  obtain ⟨hx, hb, hml, hown, htb, hA, hK0, hST, hSW, hin⟩ := id F
  have hd := hok.dec rfl
  unfold bd_jst at hs
  split at hs
  · rename_i x i a r
    split at hs
    · rename_i hcnd
      obtain ⟨hka, q, hi⟩ := hcnd
      cases hs
      have ha : a < hN h := hst.tl.tl.hd
      have hKK := F.K1 hR q ha (by omega)
      rw [hka] at hKK
      refine va_last hx hb hKK hR.1 hR.2.1 hR.2.2.1 (a - 30) 0 (by rw [bd_ws_get q ha, bd_cell_long hka]) rfl (bd_in_vp hi) hd (fun H1 locs1 hP1 hD1 hS1 => ?_)
      have hcell : bd_cell ad ca (sJ h a i.toNatClampNeg x) a = .inl (ca a, hL h a, .inr (.inl (vp_updL (hJ h a) i.toNatClampNeg x))) := by
        rw [bd_cell_long (h := sJ h a i.toNatClampNeg x) hka]
        show (Sum.inl (ca a, hL h a, Sum.inr (Sum.inl (up2 (hJ h) a i.toNatClampNeg x a))) : va_E) = _
        rw [up2_at]
        rfl
      exact W.cs (by show cells = cells + (hC h - hC h); omega) (by show slots = slots + (hS h - hS h); omega) (K ad ca H1 locs1 ls (hR.set q rfl rfl rfl (fun _ _ => rfl) (fun b hb => up2_ne hb) (fun _ _ => rfl) (fun k b hb => hR.2.2.2.2.1.1 a k b ha hb) hcell hP1 hD1 hS1) hl hst.tl.tl.tl (fun _ _ => ⟨rfl, rfl⟩))
    · cases hs
  · cases hs
theorem bd_comp_cn {k : Nat} (h1 : 15 ≤ k) (h2 : k ≤ 18) : bd_comp k < 12 ∧ bd_Cn (bd_comp k) = bd_akn k := by
  rcases (show k = 15 ∨ k = 16 ∨ k = 17 ∨ k = 18 by omega) with r | r | r | r <;> subst r <;> exact ⟨by decide, rfl⟩
theorem zs_qst (F : bd_Fix xs n0 mi D A p s m args meth c sad) (hok : bd_ok mi pc .aastore res) (hs : bd_qst (pc + 1) L st h = some (pc1, L1, st1, h1)) (hR : bd_Rel xs n0 D A s sad ad ca h H locs) (hl : bd_Lr ad (hN h) L ls) (hst : bd_Sw (hN h) st) (K : bd_K p l e R s m args below meth c cells slots Q xs n0 D A sad ad ca h h1 L1 st1 pc1) : W p l e R s m args below meth c H locs cells slots Q (F0 m pc ls (st.map (bd_cv ad))) := by
  obtain ⟨hx, hb, hml, hown, htb, hA, hK0, hST, hSW, hin⟩ := id F
  have hd := hok.dec rfl
  have hcell : ∀ (a : Nat) (i : Int32) (v : Option Nat), 15 ≤ hK h a → bd_cell ad ca (sQ h a i.toNatClampNeg v) a = .inl (ca a, hL h a, .inr (.inr (.inr (.inr (va_up (fun j => (hQ h a j).map ad) i.toNatClampNeg (v.map ad)))))) := by
    intro a i v hk
    rw [bd_cell_ref (h := sQ h a i.toNatClampNeg v) hk]
    show (Sum.inl (ca a, hL h a, Sum.inr (Sum.inr (Sum.inr (Sum.inr (fun j => (up2 (hQ h) a i.toNatClampNeg v a j).map ad))))) : va_E) = _
    rw [up2_at]
    refine congrArg (fun f => (Sum.inl (ca a, hL h a, Sum.inr (Sum.inr (Sum.inr (Sum.inr f)))) : va_E)) (funext fun j => ?_)
    unfold va_up
    by_cases hj : j = i.toNatClampNeg <;> simp [hj]
  unfold bd_qst at hs
  split at hs
  · rename_i x i a r
    split at hs
    · rename_i hcnd
      obtain ⟨hk1, hk2, q, hi, hx30, hkx⟩ := hcnd
      cases hs
      have ha : a < hN h := hst.tl.tl.hd
      have hxN : x < hN h := hst.hd
      have hKK := F.K1 hR q ha (by omega)
      obtain ⟨hc12, hcn⟩ := bd_comp_cn hk1 hk2
      rw [bd_ty_ref hk1, ← hcn] at hKK
      refine va_astq (r := (bd_Cn (bd_comp (hK h a)), bd_T (bd_comp (hK h a)), bd_nf (bd_comp (hK h a)))) hx hb hKK hR.1 hR.2.1 hR.2.2.1 (a - 30) 0 (x - 30) (bd_comp (hK h a)) (by rw [bd_ws_get q ha, bd_cell_ref hk1]) rfl (by rw [bd_ws_get hx30 hxN, bd_cell_obj (by omega), hkx]) (bd_cl hc12) (bd_in_vp hi) hd (fun H1 locs1 hP1 hD1 hS1 => ?_)
      exact W.cs (by show cells = cells + (hC h - hC h); omega) (by show slots = slots + (hS h - hS h); omega) (K ad ca H1 locs1 ls (hR.set q rfl rfl rfl (fun _ _ => rfl) (fun _ _ => rfl) (fun b hb => up2_ne hb) (fun k b hb => by
        have hb' : up2 (hQ h) a i.toNatClampNeg (some x) a k = some b := hb
        simp only [up2, if_true] at hb'
        split at hb'
        · cases hb'; exact hxN
        · exact hR.2.2.2.2.1.1 a k b ha hb') (hcell a i (some x) hk1) hP1 hD1 hS1) hl hst.tl.tl.tl (fun _ _ => ⟨rfl, rfl⟩))
    · cases hs
  · rename_i i a r
    split at hs
    · rename_i hcnd
      obtain ⟨hk1, hk2, q, hi⟩ := hcnd
      cases hs
      have ha : a < hN h := hst.tl.tl.hd
      have hKK := F.K1 hR q ha (by omega)
      rw [bd_ty_ref hk1] at hKK
      refine va_astqN hx hb hKK hR.1 hR.2.1 hR.2.2.1 (a - 30) 0 (by rw [bd_ws_get q ha, bd_cell_ref hk1]) rfl (bd_in_vp hi) hd (fun H1 locs1 hP1 hD1 hS1 => ?_)
      exact W.cs (by show cells = cells + (hC h - hC h); omega) (by show slots = slots + (hS h - hS h); omega) (K ad ca H1 locs1 ls (hR.set q rfl rfl rfl (fun _ _ => rfl) (fun _ _ => rfl) (fun b hb => up2_ne hb) (fun k b hb => by
        have hb' : up2 (hQ h) a i.toNatClampNeg none a k = some b := hb
        simp only [up2, if_true] at hb'
        split at hb'
        · cases hb'
        · exact hR.2.2.2.2.1.1 a k b ha hb') (hcell a i none hk1) hP1 hD1 hS1) hl hst.tl.tl.tl (fun _ _ => ⟨rfl, rfl⟩))
    · cases hs
  · cases hs
theorem up1_ne {α : Type} {f : Nat → α} {a b : Nat} {v : α} (hb : b ≠ a) : up1 f a v b = f b := by simp [up1, hb]
theorem up1_at {α : Type} (f : Nat → α) (a : Nat) (v : α) : up1 f a v a = v := by simp [up1]
theorem bd_map_ext {ad ad' : Nat → Nat} {N : Nat} (he : ∀ a, a < N → ad' a = ad a) {q : Option Nat} (hq : ∀ b, q = some b → b < N) : q.map ad' = q.map ad := by
  cases q with
  | none => rfl
  | some b => exact congrArg some (he b (hq b rfl))
theorem bd_cell_new (hw : bd_wf h) {k n sl q cA b : Nat} (hb : b < hN h) : bd_cell (up1 ad (hN h) q) (up1 ca (hN h) cA) (hNew h k n sl) b = bd_cell ad ca h b := by
  have hne : b ≠ hN h := by omega
  have he : ∀ a, a < hN h → up1 ad (hN h) q a = ad a := fun a ha => up1_ne (by omega)
  have eK : hK (hNew h k n sl) b = hK h b := up1_ne hne
  have eL : hL (hNew h k n sl) b = hL h b := up1_ne hne
  have eI : hI (hNew h k n sl) b = hI h b := up1_ne hne
  have eJ : hJ (hNew h k n sl) b = hJ h b := up1_ne hne
  have eQ : hQ (hNew h k n sl) b = hQ h b := up1_ne hne
  have e1 : bd_fs (up1 ad (hN h) q) (hNew h k n sl) (hK h b) b = bd_fs ad h (hK h b) b := by
    unfold bd_fs
    apply List.map_congr_left
    intro j _
    unfold bd_sv bd_slot
    rw [eI, eJ, eQ]
    split
    · rfl
    · split
      · rw [bd_cv_rf, bd_cv_rf, bd_map_ext he (fun x hx => hw.1 b j x hb hx)]
      · rfl
  have e2 : (fun i => (hQ h b i).map (up1 ad (hN h) q)) = fun i => (hQ h b i).map ad := funext fun i => bd_map_ext he (fun x hx => hw.1 b i x hb hx)
  unfold bd_cell
  rw [eK, eL, eI, eJ, eQ, e1, e2, up1_ne (f := ca) hne]
theorem bd_ws_new (hw : bd_wf h) {k n sl q cA : Nat} : bd_ws (up1 ad (hN h) q) (up1 ca (hN h) cA) (hNew h k n sl) = bd_ws ad ca h ++ [(q, bd_cell (up1 ad (hN h) q) (up1 ca (hN h) cA) (hNew h k n sl) (hN h))] := by
  have h30 := hw.2.2
  have e0 : hN (hNew h k n sl) - 30 = (hN h - 30) + 1 := by
    show hN h + 1 - 30 = _
    omega
  unfold bd_ws
  rw [e0, List.range_succ, List.map_append]
  congr 1
  · apply List.map_congr_left
    intro j hj
    have hj' := List.mem_range.mp hj
    rw [bd_cell_new hw (by omega), up1_ne (by omega)]
  · show [(up1 ad (hN h) q (30 + (hN h - 30)), bd_cell (up1 ad (hN h) q) (up1 ca (hN h) cA) (hNew h k n sl) (30 + (hN h - 30)))] = _
    rw [show 30 + (hN h - 30) = hN h by omega, up1_at]
/-- behind a new cell -/
theorem bd_Rel.new {k n sl q cA : Nat} {H' : Heap} (hR : bd_Rel xs n0 D A s sad ad ca h H locs) (hk : k ≤ 18) (hk2 : 12 ≤ k → ArrOfT s cA (bd_ty k) ∧ va_RA s cA (bd_ty k))
    (hP : va_P D clA (bd_ws ad ca h ++ [(q, bd_cell (up1 ad (hN h) q) (up1 ca (hN h) cA) (hNew h k n sl) (hN h))]) H') (hD : va_D A (bd_ws ad ca h ++ [(q, bd_cell (up1 ad (hN h) q) (up1 ca (hN h) cA) (hNew h k n sl) (hN h))])) (hS : va_S A s.heap H' locs) :
    bd_Rel xs n0 D A s sad (up1 ad (hN h) q) (up1 ca (hN h) cA) (hNew h k n sl) H' locs := by
  obtain ⟨-, -, -, r4, r5, r6, r7⟩ := hR
  rw [← bd_ws_new r5] at hP hD
  have h30 := r5.2.2
  refine ⟨hP, hD, hS, ?_, ⟨?_, ?_, ?_⟩, ?_, ?_⟩
  · intro a h2 h3 h4
    have h3' : a < hN h + 1 := h3
    have h4' : 12 ≤ up1 (hK h) (hN h) k a := h4
    show ArrOfT s (up1 ca (hN h) cA a) (bd_ty (up1 (hK h) (hN h) k a)) ∧ va_RA s (up1 ca (hN h) cA a) (bd_ty (up1 (hK h) (hN h) k a))
    by_cases e1 : a = hN h
    · subst e1
      rw [up1_at] at h4' ⊢
      rw [up1_at]
      exact hk2 h4'
    · rw [up1_ne e1] at h4' ⊢
      rw [up1_ne e1]
      exact r4 a h2 (by omega) h4'
  · intro a j b h2 h3
    have h2' : a < hN h + 1 := h2
    have h3' : up1 (hQ h) (hN h) (fun _ => none) a j = some b := h3
    show b < hN h + 1
    by_cases e1 : a = hN h
    · subst e1
      rw [up1_at] at h3'
      cases h3'
    · rw [up1_ne e1] at h3'
      exact Nat.lt_succ_of_lt (r5.1 a j b (by omega) h3')
  · intro a h2 h3
    have h3' : a < hN h + 1 := h3
    show up1 (hK h) (hN h) k a ≤ 18
    by_cases e1 : a = hN h
    · subst e1
      rw [up1_at]
      exact hk
    · rw [up1_ne e1]
      exact r5.2.1 a h2 (by omega)
  · show 30 ≤ hN h + 1
    omega
  · exact r6.eq (fun a ha => up1_ne (by omega)) (fun a ha => up1_ne (by omega)) (fun a ha => up1_ne (by omega)) (fun a ha => up1_ne (by omega)) (fun a ha => up1_ne (by omega))
  · intro a ha
    rw [up1_ne (by omega)]
    exact r7 a ha
theorem bd_K.new {k n sl q cA : Nat} {H' : Heap} (K : bd_K p l e R s m args below meth c cells slots Q xs n0 D A sad ad ca h (hNew h k n sl) L (.ref (hN h) :: st) pc1) (hR' : bd_Rel xs n0 D A s sad (up1 ad (hN h) q) (up1 ca (hN h) cA) (hNew h k n sl) H' locs) (hl : bd_Lr ad (hN h) L ls) (hst : bd_Sw (hN h) st) : W p l e R s m args below meth c H' locs (cells + 1) (slots + sl) Q (F0 m pc1 ls (.ref q :: st.map (bd_cv ad))) := by
  have he : ∀ a, a < hN h → up1 ad (hN h) q a = ad a := fun a ha => up1_ne (by omega)
  have he2 : ∀ a, a < hN h → up1 ca (hN h) cA a = ca a := fun a ha => up1_ne (by omega)
  have k1 := K (up1 ad (hN h) q) (up1 ca (hN h) cA) H' locs ls hR' (hl.ext he (Nat.le_succ _)) ((hst.mono (Nat.le_succ _)).cons (Nat.lt_succ_self _)) (fun a ha => ⟨he a ha, he2 a ha⟩)
  have e1 : (Value.ref (hN h) :: st).map (bd_cv (up1 ad (hN h) q)) = .ref q :: st.map (bd_cv ad) := by
    show Value.ref (up1 ad (hN h) q (hN h)) :: st.map (bd_cv (up1 ad (hN h) q)) = _
    rw [up1_at, hst.map he]
  rw [e1] at k1
  exact W.cs (by show cells + 1 = cells + (hC h + 1 - hC h); omega) (by show slots + sl = slots + (hS h + sl - hS h); omega) k1
theorem zs_newc {ix : Nat} (F : bd_Fix xs n0 mi D A p s m args meth c sad) (hok : bd_ok mi pc (.new ix) res) (hs : bd_newc res (pc + 3) L st h = some (pc1, L1, st1, h1)) (hR : bd_Rel xs n0 D A s sad ad ca h H locs) (hl : bd_Lr ad (hN h) L ls) (hst : bd_Sw (hN h) st) (hc1 : cells + (hC h1 - hC h) ≤ R.cells) (hs1 : slots + (hS h1 - hS h) ≤ R.slots) (K : bd_K p l e R s m args below meth c cells slots Q xs n0 D A sad ad ca h h1 L1 st1 pc1) : W p l e R s m args below meth c H locs cells slots Q (F0 m pc ls (st.map (bd_cv ad))) := by
  obtain ⟨hx, hb, hml, hown, htb, hA, hK0, hST, hSW, hin⟩ := id F
  have hd := hok.dec rfl
  obtain ⟨-, pp, hlk⟩ := hok
  unfold bd_newc at hs
  split at hs
  · rename_i hres
    cases hs
    simp only [bd_lk] at hlk
    rw [if_neg (by omega)] at hlk
    simp only [Bool.and_eq_true, decide_eq_true_eq] at hlk
    have hc1' : cells + (hC h + 1 - hC h) ≤ R.cells := hc1
    have hs1' : slots + (hS h + bd_nf res - hS h) ≤ R.slots := hs1
    have hcl : ∀ q : Nat, bd_cell (up1 ad (hN h) q) (up1 ca (hN h) 0) (hNew h res 0 (bd_nf res)) (hN h) = .inr (res, bd_fs id (hNew h res 0 (bd_nf res)) res (hN h)) := by
      intro q
      have hk : hK (hNew h res 0 (bd_nf res)) (hN h) = res := up1_at _ _ _
      rw [bd_cell_obj (by omega), hk]
      refine congrArg (fun f => (Sum.inr (res, f) : va_E)) ?_
      unfold bd_fs
      apply List.map_congr_left
      intro j _
      unfold bd_sv bd_slot
      have eQ : hQ (hNew h res 0 (bd_nf res)) (hN h) j = none := by
        show up1 (hQ h) (hN h) (fun _ => none) (hN h) j = none
        rw [up1_at]
      rw [eQ]
      split
      · rfl
      · split <;> rfl
    refine va_new (ci := res) (fs := bd_fs id (hNew h res 0 (bd_nf res)) res (hN h)) (C := bd_Cn res) (T := bd_T res) (N := bd_nf res) (Ts := tbl) hx hb htb (bd_cw hres) (bd_tyf res) (fun k hk => (bd_tyc hres hk).1) hown (htb _ (bd_at_tbl hlk.2 rfl)) (htb _ (bd_insw hres).1) (htb _ (bd_insw hres).2) hK0 hR.1 hR.2.1 hR.2.2.1 hA (bd_cl hres) (fun j hj => ?_) (by omega) (by omega) hd (fun q H1 hP1 hD1 hS1 => ?_)
    · have hty := (bd_tyc hres hj).2
      have hfg : (bd_fs id (hNew h res 0 (bd_nf res)) res (hN h)).getD j .null = bd_sv id (hNew h res 0 (bd_nf res)) res (hN h) j := by
        rw [List.getD_eq_getElem?_getD, bd_fs_get hj]
        rfl
      show defaultValue (bd_tyf res j) = (bd_fs id (hNew h res 0 (bd_nf res)) res (hN h)).getD j .null
      rw [hfg]
      have hlen : (bd_ft res).getD j 9 = (bd_ft res).getD j 0 ∨ (bd_ft res).getD j 9 = 9 := by
        rw [List.getD_eq_getElem?_getD, List.getD_eq_getElem?_getD]
        cases (bd_ft res)[j]? with
        | none => exact Or.inr rfl
        | some t => exact Or.inl rfl
      unfold bd_sv bd_slot
      have eI : hI (hNew h res 0 (bd_nf res)) (hN h) j = 0 := by
        show up1 (hI h) (hN h) (fun _ => 0) (hN h) j = 0
        rw [up1_at]
      have eJ : hJ (hNew h res 0 (bd_nf res)) (hN h) j = 0 := by
        show up1 (hJ h) (hN h) (fun _ => 0) (hN h) j = 0
        rw [up1_at]
      have eQ : hQ (hNew h res 0 (bd_nf res)) (hN h) j = none := by
        show up1 (hQ h) (hN h) (fun _ => none) (hN h) j = none
        rw [up1_at]
      rw [eI, eJ, eQ]
      rcases hlen with hlen | hlen
      · rw [hlen] at hty
        generalize (bd_ft res).getD j 0 = t at hty
        generalize bd_tyf res j = ty at hty
        cases ty <;> simp [bd_tagok] at hty <;> subst hty <;> rfl
      · rw [hlen] at hty
        generalize bd_tyf res j = ty at hty
        cases ty <;> simp [bd_tagok] at hty
    · rw [← hcl q] at hP1 hD1
      exact K.new (hR.new (by omega) (fun z => by omega) hP1 hD1 hS1) hl hst
  · cases hs
theorem zs_newa {t : ArrayType} (F : bd_Fix xs n0 mi D A p s m args meth c sad) (hok : bd_ok mi pc (.newarray t) res) (hs : bd_newa res (pc + 2) L st h = some (pc1, L1, st1, h1)) (hR : bd_Rel xs n0 D A s sad ad ca h H locs) (hl : bd_Lr ad (hN h) L ls) (hst : bd_Sw (hN h) st) (hc1 : cells + (hC h1 - hC h) ≤ R.cells) (hs1 : slots + (hS h1 - hS h) ≤ R.slots) (haw : ∀ ty : FieldType, (ty = .int ∨ ty = .long ∨ ty = .boolean) → Cond.arrayClass ty ∈ tbl) (K : bd_K p l e R s m args below meth c cells slots Q xs n0 D A sad ad ca h h1 L1 st1 pc1) : W p l e R s m args below meth c H locs cells slots Q (F0 m pc ls (st.map (bd_cv ad))) := by
  obtain ⟨hx, hb, hml, hown, htb, hA, hK0, hST, hSW, hin⟩ := id F
  have hd := hok.dec rfl
  obtain ⟨-, pp, hlk⟩ := hok
  simp only [bd_lk, Bool.and_eq_true, decide_eq_true_eq] at hlk
  unfold bd_newa at hs
  split at hs
  · rename_i n r
    split at hs
    · rename_i hcnd
      obtain ⟨h12, h18, hi⟩ := hcnd
      cases hs
      have hn2 := vp_in_iff.mp (bd_in_vp hi)
      have hvp := bd_in_vp hi
      have hn0 : ¬ n < 0 := fun z => hvp (Or.inl z)
      have hnlt : n.toNatClampNeg < 100000 := Nat.not_le.mp fun z => hvp (Or.inr z)
      have hc1' : cells + (hC h + 1 - hC h) ≤ R.cells := hc1
      have hs1' : slots + (hS h + n.toNatClampNeg - hS h) ≤ R.slots := hs1
      have hkN : hK (hNew h res n.toNatClampNeg n.toNatClampNeg) (hN h) = res := up1_at _ _ _
      have hlN : hL (hNew h res n.toNatClampNeg n.toNatClampNeg) (hN h) = n.toNatClampNeg := up1_at _ _ _
      have eI : hI (hNew h res n.toNatClampNeg n.toNatClampNeg) (hN h) = fun _ => 0 := up1_at _ _ _
      have eJ : hJ (hNew h res n.toNatClampNeg n.toNatClampNeg) (hN h) = fun _ => 0 := up1_at _ _ _
      have hcases : (newarray.typeOf t = .int ∧ res = 12) ∨ (newarray.typeOf t = .long ∧ res = 13) ∨ (newarray.typeOf t = .boolean ∧ res = 14) := by
        obtain ⟨g1, g2⟩ := hlk
        unfold bd_ary at g1
        cases t <;> simp [newarray.typeOf] at g1 ⊢ <;> omega
      rcases hcases with ⟨hty, hres⟩ | ⟨hty, hres⟩ | ⟨hty, hres⟩
      · subst hres
        refine va_newa (a0 := (n.toNatClampNeg, .inl (fun _ => 0))) hx hb (by rw [hty]; exact htb _ (haw _ (Or.inl rfl))) hty hK0 hR.1 hR.2.1 hR.2.2.1 hA (fun cA => rfl) hn0 rfl (by simp only [componentBytes]; omega) (by omega) (by omega) hd (fun q cA H1 hK1 hP1 hD1 hS1 => ?_)
        have hcl : bd_cell (up1 ad (hN h) q) (up1 ca (hN h) cA) (hNew h 12 n.toNatClampNeg n.toNatClampNeg) (hN h) = .inl (cA, n.toNatClampNeg, .inl (fun _ => 0)) := by
          rw [bd_cell_int (Or.inl hkN), hlN, eI, up1_at]
        rw [← hcl] at hP1 hD1
        exact K.new (hR.new (by omega) (fun _ => hK1.2 0 (cA, .int) rfl) hP1 hD1 hS1) hl hst.tl
      · subst hres
        refine va_newa (a0 := (n.toNatClampNeg, .inr (.inl (fun _ => 0)))) hx hb (by rw [hty]; exact htb _ (haw _ (Or.inr (Or.inl rfl)))) hty hK0 hR.1 hR.2.1 hR.2.2.1 hA (fun cA => rfl) hn0 rfl (by simp only [componentBytes]; omega) (by omega) (by omega) hd (fun q cA H1 hK1 hP1 hD1 hS1 => ?_)
        have hcl : bd_cell (up1 ad (hN h) q) (up1 ca (hN h) cA) (hNew h 13 n.toNatClampNeg n.toNatClampNeg) (hN h) = .inl (cA, n.toNatClampNeg, .inr (.inl (fun _ => 0))) := by
          rw [bd_cell_long hkN, hlN, eJ, up1_at]
        rw [← hcl] at hP1 hD1
        exact K.new (hR.new (by omega) (fun _ => hK1.2 0 (cA, .long) rfl) hP1 hD1 hS1) hl hst.tl
      · subst hres
        refine va_newa (a0 := (n.toNatClampNeg, .inl (fun _ => 0))) hx hb (by rw [hty]; exact htb _ (haw _ (Or.inr (Or.inr rfl)))) hty hK0 hR.1 hR.2.1 hR.2.2.1 hA (fun cA => rfl) hn0 rfl (by simp only [componentBytes]; omega) (by omega) (by omega) hd (fun q cA H1 hK1 hP1 hD1 hS1 => ?_)
        have hcl : bd_cell (up1 ad (hN h) q) (up1 ca (hN h) cA) (hNew h 14 n.toNatClampNeg n.toNatClampNeg) (hN h) = .inl (cA, n.toNatClampNeg, .inl (fun _ => 0)) := by
          rw [bd_cell_int (Or.inr hkN), hlN, eI, up1_at]
        rw [← hcl] at hP1 hD1
        exact K.new (hR.new (by omega) (fun _ => hK1.2 0 (cA, .boolean) rfl) hP1 hD1 hS1) hl hst.tl
    · cases hs
  · cases hs
theorem zs_newq {ix : Nat} (F : bd_Fix xs n0 mi D A p s m args meth c sad) (hok : bd_ok mi pc (.anewarray ix) res) (hs : bd_newa res (pc + 3) L st h = some (pc1, L1, st1, h1)) (hR : bd_Rel xs n0 D A s sad ad ca h H locs) (hl : bd_Lr ad (hN h) L ls) (hst : bd_Sw (hN h) st) (hc1 : cells + (hC h1 - hC h) ≤ R.cells) (hs1 : slots + (hS h1 - hS h) ≤ R.slots) (haw : ∀ k, 15 ≤ k → k ≤ 18 → Cond.arrayOver (.object (bd_akn k)) ∈ lw_tbl) (K : bd_K p l e R s m args below meth c cells slots Q xs n0 D A sad ad ca h h1 L1 st1 pc1) : W p l e R s m args below meth c H locs cells slots Q (F0 m pc ls (st.map (bd_cv ad))) := by
  obtain ⟨hx, hb, hml, hown, htb, hA, hK0, hST, hSW, hin⟩ := id F
  have hd := hok.dec rfl
  obtain ⟨-, pp, hlk⟩ := hok
  simp only [bd_lk, Bool.and_eq_true, decide_eq_true_eq] at hlk
  obtain ⟨⟨h15, h18⟩, hat⟩ := hlk
  unfold bd_newa at hs
  split at hs
  · rename_i n r
    split at hs
    · rename_i hcnd
      obtain ⟨-, -, hi⟩ := hcnd
      cases hs
      have hvp := bd_in_vp hi
      have hn0 : ¬ n < 0 := fun z => hvp (Or.inl z)
      have hnlt : n.toNatClampNeg < 100000 := Nat.not_le.mp fun z => hvp (Or.inr z)
      have hc1' : cells + (hC h + 1 - hC h) ≤ R.cells := hc1
      have hs1' : slots + (hS h + n.toNatClampNeg - hS h) ≤ R.slots := hs1
      have hkN : hK (hNew h res n.toNatClampNeg n.toNatClampNeg) (hN h) = res := up1_at _ _ _
      have hlN : hL (hNew h res n.toNatClampNeg n.toNatClampNeg) (hN h) = n.toNatClampNeg := up1_at _ _ _
      have eQ : hQ (hNew h res n.toNatClampNeg n.toNatClampNeg) (hN h) = fun _ => none := up1_at _ _ _
      refine va_newq (C := bd_akn res) hx hb hown (htb _ (bd_at_tbl hat rfl)) (va_AO.of (A := #[]) (hSW _ (haw res h15 h18) rfl)) hK0 hR.1 hR.2.1 hR.2.2.1 hA hn0 rfl (by omega) (by omega) (by omega) hd (fun q cA H1 hK1 hP1 hD1 hS1 => ?_)
      have hcl : bd_cell (up1 ad (hN h) q) (up1 ca (hN h) cA) (hNew h res n.toNatClampNeg n.toNatClampNeg) (hN h) = .inl (cA, n.toNatClampNeg, .inr (.inr (.inr (.inr (fun _ => none))))) := by
        rw [bd_cell_ref (by omega), hlN, eQ, up1_at]
        rfl
      rw [← hcl] at hP1 hD1
      exact K.new (hR.new (by omega) (fun _ => by rw [bd_ty_ref h15]; exact hK1.2 0 (cA, .object (bd_akn res)) rfl) hP1 hD1 hS1) hl hst.tl
    · cases hs
  · cases hs
end SIM3
