/-! Any instruction that neither calls nor ends. -/
set_option maxRecDepth 100000 in
theorem bd_w_oi : Cond.instanceMethod objectInit ∈ tbl := tbl_in (i := 158) rfl rfl
set_option maxRecDepth 100000 in
theorem bd_w_oc : Cond.code objectInit ⟨#[0xb1]⟩ 1 none ∈ tbl := tbl_in (i := 159) rfl rfl
set_option maxRecDepth 100000 in
theorem bd_w_ac : Cond.static arraycopyName ∈ tbl := tbl_in (i := 845) rfl rfl
set_option maxRecDepth 100000 in
theorem bd_w_an : Cond.native arraycopyName ∈ tbl := tbl_in (i := 846) rfl rfl
set_option maxRecDepth 100000 in
theorem bd_w_as : Cond.initialized "java/lang/System" ∈ tbl := tbl_in (i := 148) rfl rfl
set_option maxRecDepth 100000 in
theorem bd_w_m0 : Cond.initialized "java/lang/Math" ∈ tbl := tbl_in (i := 139) rfl rfl
set_option maxRecDepth 100000 in
theorem bd_w_m1 : Cond.static Lib.Math.max.name ∈ tbl := tbl_in (i := 728) rfl rfl
set_option maxRecDepth 100000 in
theorem bd_w_m2 : Cond.code Lib.Math.max.name Lib.Math.max.code 2 (some .int) ∈ tbl := tbl_in (i := 729) rfl rfl
set_option maxRecDepth 100000 in
theorem bd_w_m3 : Cond.static Lib.Math.min.name ∈ tbl := tbl_in (i := 521) rfl rfl
set_option maxRecDepth 100000 in
theorem bd_w_m4 : Cond.code Lib.Math.min.name Lib.Math.min.code 2 (some .int) ∈ tbl := tbl_in (i := 522) rfl rfl
set_option maxRecDepth 100000 in
theorem bd_w_ar (ty : FieldType) (h : ty = .int ∨ ty = .long ∨ ty = .boolean) : Cond.arrayClass ty ∈ tbl := by
  rcases h with h | h | h <;> subst h
  · exact tbl_in (i := 209) rfl rfl
  · exact tbl_in (i := 305) rfl rfl
  · exact tbl_in (i := 1643) rfl rfl
set_option maxRecDepth 100000 in
theorem bd_w_ao (k : Nat) (h1 : 15 ≤ k) (h2 : k ≤ 18) : Cond.arrayOver (.object (bd_akn k)) ∈ lw_tbl := by
  rcases (show k = 15 ∨ k = 16 ∨ k = 17 ∨ k = 18 by omega) with r | r | r | r <;> subst r
  · exact List.mem_of_getElem? (i := 363) rfl
  · exact List.mem_of_getElem? (i := 373) rfl
  · exact List.mem_of_getElem? (i := 361) rfl
  · exact List.mem_of_getElem? (i := 365) rfl
section SIM4
variable {p : Program} {l : Launch} {e : Env} {R : Room} {s : State} {m : MethodId} {args : Array Value} {below : List Frame} {meth : Method} {c : Code} {H : Heap} {locs : List Loc} {cells slots : Nat} {Q : State → Prop}
variable {xs : Nat → Int32} {n0 mi : Nat} {D : va_G} {A : Nat → Prop} {sad ad ca : Nat → Nat} {h h1 : Hp} {ls : Array Slot} {L L1 : Lc} {st st1 : List Value} {pc pc1 pc2 res : Nat} {off : Int}
theorem zs_oinit {ix : Nat} (F : bd_Fix xs n0 mi D A p s m args meth c sad) (hok : bd_ok mi pc (.invokespecial ix) 900) (hs : bd_oinit (pc + 3) L st h = some (pc1, L1, st1, h1)) (hR : bd_Rel xs n0 D A s sad ad ca h H locs) (hl : bd_Lr ad (hN h) L ls) (hst : bd_Sw (hN h) st) (hn : L.length = (mtM mi).2.2.1) (hf : 1 ≤ R.frames) (hlo : 64 ≤ R.locals) (K : bd_K p l e R s m args below meth c cells slots Q xs n0 D A sad ad ca h h1 L1 st1 pc1) : W p l e R s m args below meth c H locs cells slots Q (F0 m pc ls (st.map (bd_cv ad))) := by
  obtain ⟨hx, hb, hml, hown, htb, hA, hK0, hST, hSW, hin⟩ := id F
  have hd := hok.dec rfl
  obtain ⟨-, pp, hlk⟩ := hok
  unfold bd_oinit at hs
  split at hs
  · rename_i a r
    split at hs
    · rename_i h8
      cases hs
      have hat : bd_at pp (.methodLink (bd_own mi) ix objectInit) = true := hlk
      have e8 : (st1.map (bd_cv ad)).map (fun v => v.category) = st1.map (fun v => v.category) := by
        rw [List.map_map]
        exact List.map_congr_left fun v _ => bd_cv_cat ad v
      refine W.objInit (g := F0 m pc ls (.ref (ad a) :: st1.map (bd_cv ad))) hx hb hown (htb _ (bd_at_tbl hat rfl)) (htb _ bd_w_oi) (htb _ bd_w_oc) rfl (by rw [hml, ← hn]; exact hl.1) rfl hd hf ?_ ?_
      · have h9 := lv_room (m := m) (pc := pc) (ls := ls) (rest := .ref (ad a) :: st1.map (bd_cv ad)) (st := st1.map (bd_cv ad)) (by rw [e8]; exact h8)
        omega
      · exact K.same hR hl hst.tl
    · cases hs
  · cases hs
theorem zs_copy {ix : Nat} (F : bd_Fix xs n0 mi D A p s m args meth c sad) (hok : bd_ok mi pc (.invokestatic ix) 901) (hs : bd_copy (pc + 3) L st h = some (pc1, L1, st1, h1)) (hR : bd_Rel xs n0 D A s sad ad ca h H locs) (hl : bd_Lr ad (hN h) L ls) (hst : bd_Sw (hN h) st) (hn : L.length = (mtM mi).2.2.1) (hf : 1 ≤ R.frames) (hlo : 64 ≤ R.locals) (K : bd_K p l e R s m args below meth c cells slots Q xs n0 D A sad ad ca h h1 L1 st1 pc1) : W p l e R s m args below meth c H locs cells slots Q (F0 m pc ls (st.map (bd_cv ad))) := by
  obtain ⟨hx, hb, hml, hown, htb, hA, hK0, hST, hSW, hin⟩ := id F
  have hd := hok.dec rfl
  obtain ⟨-, pp, hlk⟩ := hok
  unfold bd_copy at hs
  split at hs
  · rename_i n dp b sp a r
    split at hs
    · rename_i hcnd
      obtain ⟨hka, hkb, ha30, hb30, g1, g2, g3, g4, g5, h8⟩ := hcnd
      cases hs
      have hbN : b < hN h := hst.tl.tl.hd
      have haN : a < hN h := hst.tl.tl.tl.tl.hd
      have hat : bd_at pp (.methodLink (bd_own mi) ix arraycopyName) = true := hlk
      have nn : ∀ x : Int32, 0 ≤ x.toInt → ¬ x < 0 := fun x hx0 hlt => by
        have := Int32.lt_iff_toInt_lt.mp hlt
        rw [show (0 : Int32).toInt = 0 from rfl] at this
        omega
      have kA := F.K1 hR ha30 haN (by omega)
      have kB := F.K1 hR hb30 hbN (by omega)
      rw [hka] at kA
      rw [hkb] at kB
      have kAB : va_K D clA [(ca a, .int), (ca b, .int)] s := by
        refine ⟨hK0.1, fun k q hq => ?_⟩
        match k, hq with
        | 0, hq => cases hq; exact kA.2 0 _ rfl
        | 1, hq => cases hq; exact kB.2 0 _ rfl
        | k + 2, hq => simp at hq
      have e8 : (st1.map (bd_cv ad)).map (fun v => v.category) = st1.map (fun v => v.category) := by
        rw [List.map_map]
        exact List.map_congr_left fun v _ => bd_cv_cat ad v
      refine va_copyi (own := bd_own mi) (index := ix) (ty := .int) hx hb (by rw [hml, ← hn]; exact hl.1.symm) hown (htb _ (bd_at_tbl hat rfl)) (htb _ bd_w_an) (htb _ bd_w_ac) (htb _ bd_w_as) kAB hR.1 hR.2.1 hR.2.2.1 (a - 30) (b - 30) 0 1 (by rw [bd_ws_get ha30 haN, bd_cell_int (Or.inl hka)]) (by rw [bd_ws_get hb30 hbN, bd_cell_int (Or.inl hkb)]) rfl rfl rfl (nn _ g1) (nn _ g2) (nn _ g3) g4 g5 (fun _ _ => rfl) hf ?_ hd (fun H1 locs1 hP1 hD1 hS1 => ?_)
      · rw [e8]
        have : nativeFrameWords "java/lang/System" "arraycopy" 5 = 7 := by decide
        omega
      · have hcell : bd_cell ad ca (hCopy h a sp.toNatClampNeg b dp.toNatClampNeg n.toNatClampNeg) b = .inl (ca b, hL h b, .inl (va_cpy (hI h a) (hI h b) sp.toNatClampNeg dp.toNatClampNeg n.toNatClampNeg)) := by
          rw [bd_cell_int (h := hCopy h a sp.toNatClampNeg b dp.toNatClampNeg n.toNatClampNeg) (Or.inl hkb)]
          show (Sum.inl (ca b, hL h b, Sum.inl (up1 (hI h) b (va_cpy (hI h a) (hI h b) sp.toNatClampNeg dp.toNatClampNeg n.toNatClampNeg) b)) : va_E) = _
          rw [up1_at]
        exact W.cs (by show cells = cells + (hC h - hC h); omega) (by show slots = slots + (hS h - hS h); omega) (K ad ca H1 locs1 ls (hR.set hb30 rfl rfl rfl (fun x hx => up1_ne hx) (fun _ _ => rfl) (fun _ _ => rfl) (fun k x hx => hR.2.2.2.2.1.1 b k x hbN hx) hcell hP1 hD1 hS1) hl hst.tl.tl.tl.tl.tl (fun _ _ => ⟨rfl, rfl⟩))
    · cases hs
  · cases hs
theorem zs_mm {f : Int32 → Int32 → Int32} (hs : bd_mm f (pc + 3) L st h = some (pc1, L1, st1, h1)) (hR : bd_Rel xs n0 D A s sad ad ca h H locs) (hl : bd_Lr ad (hN h) L ls) (hst : bd_Sw (hN h) st) (K : bd_K p l e R s m args below meth c cells slots Q xs n0 D A sad ad ca h h1 L1 st1 pc1)
    (row : ∀ (x y : Int32) (rest : List Value), (rest.map fun v => v.category).sum ≤ 8 → W p l e R s m args below meth c H locs cells slots Q (F0 m (pc + 3) ls (.int (f x y) :: rest)) → W p l e R s m args below meth c H locs cells slots Q (F0 m pc ls (.int y :: .int x :: rest))) : W p l e R s m args below meth c H locs cells slots Q (F0 m pc ls (st.map (bd_cv ad))) := by
  unfold bd_mm at hs
  split at hs
  · rename_i y x r
    split at hs
    · rename_i h8
      cases hs
      have e8 : (r.map (bd_cv ad)).map (fun v => v.category) = r.map (fun v => v.category) := by
        rw [List.map_map]
        exact List.map_congr_left fun v _ => bd_cv_cat ad v
      exact row x y _ (by rw [e8]; exact h8) (K.same hR hl (hst.tl.tl.cons trivial))
    · cases hs
  · cases hs
theorem zs_gets {ix : Nat} (F : bd_Fix xs n0 mi D A p s m args meth c sad) (hok : bd_ok mi pc (.getstatic ix) res) (hR : bd_Rel xs n0 D A s sad ad ca h H locs) (hl : bd_Lr ad (hN h) L ls) (hst : bd_Sw (hN h) st) (K : bd_K p l e R s m args below meth c cells slots Q xs n0 D A sad ad ca h h L (.ref res :: st) (pc + 3)) : W p l e R s m args below meth c H locs cells slots Q (F0 m pc ls (st.map (bd_cv ad))) := by
  obtain ⟨hx, hb, hml, hown, htb, hA, hK0, hST, hSW, hin⟩ := id F
  have hd := hok.dec rfl
  obtain ⟨-, pp, hlk⟩ := hok
  simp only [bd_lk] at hlk
  have h30 := hR.2.2.2.2.1.2.2
  have go : res < 30 → W p l e R s m args below meth c H locs cells slots Q (F0 m (pc + 3) ls (.ref (sad res) :: st.map (bd_cv ad))) := by
    intro hr
    have k1 := K.same hR hl (hst.cons (v := .ref res) (Nat.lt_of_lt_of_le hr h30))
    have e1 : (Value.ref res :: st).map (bd_cv ad) = .ref (sad res) :: st.map (bd_cv ad) := by
      show Value.ref (ad res) :: _ = _
      rw [hR.2.2.2.2.2.2 res hr]
    rw [e1] at k1
    exact k1
  split at hlk
  · rename_i h26
    exact va_gets hx hb (hST.1 res h26) hR.2.2.1 hown (htb _ (bd_at_tbl hlk rfl)) (fun _ h9 => h9) hd (go (by omega))
  · split at hlk
    · rename_i h26
      subst h26
      exact va_gets hx hb hST.2.2.1 hR.2.2.1 hown (htb _ (bd_at_tbl hlk rfl)) (fun _ h9 => h9) hd (go (by omega))
    · split at hlk
      · rename_i h27
        subst h27
        exact va_getsN hx hb hST.2.2.2.2.1 hR.2.2.1 hown (va_Nw.use rfl (hSW _ (bd_at_in hlk) rfl)) (fun _ h9 => h9) hd (go (by omega))
      · simp only [Bool.and_eq_true, decide_eq_true_eq] at hlk
        obtain ⟨h28, hlk⟩ := hlk
        subst h28
        exact va_getsN hx hb hST.2.2.2.2.2.2.1 hR.2.2.1 hown (va_Nw.use rfl (hSW _ (bd_at_in hlk) rfl)) (fun _ h9 => h9) hd (go (by omega))
set_option maxHeartbeats 4000000 in
/-- one step -/
theorem bd_sim1 {raw : Instr} (F : bd_Fix xs n0 mi D A p s m args meth c sad) (hok : bd_ok mi pc raw res) (hs : bd_one raw res pc L st h = some (pc1, L1, st1, h1)) (hR : bd_Rel xs n0 D A s sad ad ca h H locs) (hl : bd_Lr ad (hN h) L ls) (hst : bd_Sw (hN h) st) (hn : L.length = (mtM mi).2.2.1) (hf : 1 ≤ R.frames) (hlo : 64 ≤ R.locals) (hc1 : cells + (hC h1 - hC h) ≤ R.cells) (hs1 : slots + (hS h1 - hS h) ≤ R.slots)
    (K : bd_K p l e R s m args below meth c cells slots Q xs n0 D A sad ad ca h h1 L1 st1 pc1) : W p l e R s m args below meth c H locs cells slots Q (F0 m pc ls (st.map (bd_cv ad))) := by
  obtain ⟨hx, hb, hml, hown, htb, hA, hK0, hST, hSW, hin⟩ := id F
  cases raw with
  | aconst_null =>
    cases (show some (pc + 1, L, Value.null :: st, h) = _ from hs)
    exact lv_null hx hb (hok.dec rfl) (K.same hR hl (hst.cons (v := .null) trivial))
  | aload k => exact zs_loadA (k := k) (pc2 := pc + 2) hs hR hl hst K (fun x r h9 k9 => lv_aload hx hb (hok.dec rfl) h9 k9) (fun r h9 k9 => lv_aloadN hx hb (hok.dec rfl) h9 k9)
  | aload_n k => exact zs_loadA (k := k) (pc2 := pc + 1) hs hR hl hst K (fun x r h9 k9 => lv_aload_n hx hb (hok.dec rfl) rfl h9 k9) (fun r h9 k9 => lv_aload_nN hx hb (hok.dec rfl) rfl h9 k9)
  | iload k => exact zs_loadI (k := k) (pc2 := pc + 2) hs hR hl hst K (fun x r h9 k9 => lv_iload hx hb (hok.dec rfl) h9 k9)
  | iload_n k => exact zs_loadI (k := k) (pc2 := pc + 1) hs hR hl hst K (fun x r h9 k9 => lv_iload_n hx hb (hok.dec rfl) rfl h9 k9)
  | lload k => exact zs_loadL (k := k) (pc2 := pc + 2) hs hR hl hst K (fun x r h9 k9 => lv_lload hx hb (hok.dec rfl) h9 k9)
  | lload_n k => exact zs_loadL (k := k) (pc2 := pc + 1) hs hR hl hst K (fun x r h9 k9 => lv_lload_n hx hb (hok.dec rfl) rfl h9 k9)
  | astore k => exact zs_stA (k := k) (pc2 := pc + 2) hs hR hl hst K (fun x r nL lv h8 h9 k9 => lv_astore hx hb (hok.dec rfl) h8 h9 rfl k9) (fun r nL lv h8 h9 k9 => lv_astoreN hx hb (hok.dec rfl) h8 h9 rfl k9)
  | astore_n k => exact zs_stA (k := k) (pc2 := pc + 1) hs hR hl hst K (fun x r nL lv h8 h9 k9 => lv_astore_n hx hb (hok.dec rfl) rfl h8 h9 rfl k9) (fun r nL lv h8 h9 k9 => lv_astore_nN hx hb (hok.dec rfl) rfl h8 h9 rfl k9)
  | istore k => exact zs_stI (k := k) (pc2 := pc + 2) hs hR hl hst K (fun x r nL lv h8 h9 k9 => lv_istore hx hb (hok.dec rfl) h8 h9 rfl k9)
  | istore_n k => exact zs_stI (k := k) (pc2 := pc + 1) hs hR hl hst K (fun x r nL lv h8 h9 k9 => lv_istore_n hx hb (hok.dec rfl) rfl h8 h9 rfl k9)
  | lstore k => exact zs_stL (k := k) (pc2 := pc + 2) hs hR hl hst K (fun x r nL lv h8 h9 k9 => lv_lstore hx hb (hok.dec rfl) h8 h9 rfl k9)
  | lstore_n k => exact zs_stL (k := k) (pc2 := pc + 1) hs hR hl hst K (fun x r nL lv h8 h9 k9 => lv_lstore_n hx hb (hok.dec rfl) rfl h8 h9 rfl k9)
  | iinc k n => exact zs_inc (k := k) (n := n) (pc2 := pc + 3) hs hR hl hst K (fun x r nL j lv h7 h8 h9 k9 => lv_iinc hx hb (hok.dec rfl) h7 h8 rfl h9 rfl k9)
  | iconst n =>
    cases (show some (pc + 1, L, Value.int (Int32.ofInt n) :: st, h) = _ from hs)
    exact lv_iconst hx hb (hok.dec rfl) rfl (K.same hR hl (hst.cons (v := .int _) trivial))
  | bipush n =>
    cases (show some (pc + 2, L, Value.int (Int8.ofInt n).toInt32 :: st, h) = _ from hs)
    exact lv_bipush hx hb (hok.dec rfl) rfl (K.same hR hl (hst.cons (v := .int _) trivial))
  | sipush n =>
    cases (show some (pc + 3, L, Value.int (Int16.ofInt n).toInt32 :: st, h) = _ from hs)
    exact lv_sipush hx hb (hok.dec rfl) rfl (K.same hR hl (hst.cons (v := .int _) trivial))
  | lconst n =>
    cases (show some (pc + 1, L, Value.long (Int64.ofNat (n : Nat)) :: st, h) = _ from hs)
    exact lv_lconst hx hb (hok.dec rfl) rfl (K.same hR hl (hst.cons (v := .long _) trivial))
  | ldc ix =>
    cases (show some (pc + 2, L, Value.int (Int32.ofNat res) :: st, h) = _ from hs)
    have hd := hok.dec rfl
    obtain ⟨-, pp, hlk⟩ := hok
    have hat : bd_at pp (.constant (bd_own mi) ix (Int32.ofNat res)) = true := hlk
    exact lv_ldc hx hb hown (htb _ (bd_at_tbl hat rfl)) hd (K.same hR hl (hst.cons (v := .int _) trivial))
  | ldc_w ix =>
    cases (show some (pc + 3, L, Value.int (Int32.ofNat res) :: st, h) = _ from hs)
    have hd := hok.dec rfl
    obtain ⟨-, pp, hlk⟩ := hok
    have hat : bd_at pp (.constant (bd_own mi) ix (Int32.ofNat res)) = true := hlk
    exact lv_ldcw hx hb hown (htb _ (bd_at_tbl hat rfl)) hd (K.same hR hl (hst.cons (v := .int _) trivial))
  | ldc2_w ix =>
    cases (show some (pc + 3, L, Value.long (Int64.ofNat res) :: st, h) = _ from hs)
    have hd := hok.dec rfl
    obtain ⟨-, pp, hlk⟩ := hok
    have hat : bd_at pp (.constantLong (bd_own mi) ix (Int64.ofNat res)) = true := hlk
    exact lv_ldc2 hx hb hown (htb _ (bd_at_tbl hat rfl)) hd (K.same hR hl (hst.cons (v := .long _) trivial))
  | iadd => exact zs_II (pc2 := pc + 1) (f := fun x y => x + y) hs hR hl hst K (fun x y r k9 => lv_iadd hx hb (hok.dec rfl) k9)
  | isub => exact zs_II (pc2 := pc + 1) (f := fun x y => x - y) hs hR hl hst K (fun x y r k9 => lv_isub hx hb (hok.dec rfl) k9)
  | imul => exact zs_II (pc2 := pc + 1) (f := fun x y => x * y) hs hR hl hst K (fun x y r k9 => lv_imul hx hb (hok.dec rfl) k9)
  | iand => exact zs_II (pc2 := pc + 1) (f := fun x y => x &&& y) hs hR hl hst K (fun x y r k9 => lv_iand hx hb (hok.dec rfl) k9)
  | ior => exact zs_II (pc2 := pc + 1) (f := fun x y => x ||| y) hs hR hl hst K (fun x y r k9 => lv_ior hx hb (hok.dec rfl) k9)
  | ixor => exact zs_II (pc2 := pc + 1) (f := fun x y => x ^^^ y) hs hR hl hst K (fun x y r k9 => lv_ixor hx hb (hok.dec rfl) k9)
  | ishl => exact zs_II (pc2 := pc + 1) (f := fun x y => x <<< (y &&& 31)) hs hR hl hst K (fun x y r k9 => lv_ishl hx hb (hok.dec rfl) k9)
  | ishr => exact zs_II (pc2 := pc + 1) (f := fun x y => x >>> (y &&& 31)) hs hR hl hst K (fun x y r k9 => lv_ishr hx hb (hok.dec rfl) k9)
  | iushr => exact zs_II (pc2 := pc + 1) (f := fun x y => (x.toUInt32 >>> (y.toUInt32 &&& Int32.toUInt32 31)).toInt32) hs hR hl hst K (fun x y r k9 => lv_iushr hx hb (hok.dec rfl) rfl k9)
  | idiv => exact zs_IId (pc2 := pc + 1) (f := fun x y => x / y) hs hR hl hst K (fun x y r h9 k9 => lv_idiv hx hb (hok.dec rfl) h9 k9)
  | irem => exact zs_IId (pc2 := pc + 1) (f := fun x y => x - x / y * y) hs hR hl hst K (fun x y r h9 k9 => lv_irem hx hb (hok.dec rfl) h9 k9)
  | ladd => exact zs_JJ (pc2 := pc + 1) (f := fun x y => x + y) hs hR hl hst K (fun x y r k9 => lv_ladd hx hb (hok.dec rfl) k9)
  | lsub => exact zs_JJ (pc2 := pc + 1) (f := fun x y => x - y) hs hR hl hst K (fun x y r k9 => lv_lsub hx hb (hok.dec rfl) k9)
  | lmul => exact zs_JJ (pc2 := pc + 1) (f := fun x y => x * y) hs hR hl hst K (fun x y r k9 => lv_lmul hx hb (hok.dec rfl) k9)
  | land => exact zs_JJ (pc2 := pc + 1) (f := fun x y => x &&& y) hs hR hl hst K (fun x y r k9 => lv_land hx hb (hok.dec rfl) k9)
  | lor => exact zs_JJ (pc2 := pc + 1) (f := fun x y => x ||| y) hs hR hl hst K (fun x y r k9 => lv_lor hx hb (hok.dec rfl) k9)
  | lxor => exact zs_JJ (pc2 := pc + 1) (f := fun x y => x ^^^ y) hs hR hl hst K (fun x y r k9 => lv_lxor hx hb (hok.dec rfl) k9)
  | lshl => exact zs_JI (pc2 := pc + 1) (f := fun x y => x <<< (y.toInt64 &&& 63)) hs hR hl hst K (fun x y r k9 => lv_lshl hx hb (hok.dec rfl) rfl k9)
  | lshr => exact zs_JI (pc2 := pc + 1) (f := fun x y => x >>> (y.toInt64 &&& 63)) hs hR hl hst K (fun x y r k9 => lv_lshr hx hb (hok.dec rfl) rfl k9)
  | lushr => exact zs_JI (pc2 := pc + 1) (f := fun x y => (x.toUInt64 >>> (y.toInt64.toUInt64 &&& Int64.toUInt64 63)).toInt64) hs hR hl hst K (fun x y r k9 => lv_lushr hx hb (hok.dec rfl) rfl k9)
  | lcmp => exact zs_lcmp (pc2 := pc + 1) hs hR hl hst K (fun x y r k9 => W.lcmp hx hb (hok.dec rfl) k9)
  | i2l => exact zs_i2l (pc2 := pc + 1) hs hR hl hst K (fun x r k9 => lv_i2l hx hb (hok.dec rfl) rfl k9)
  | l2i => exact zs_l2i (pc2 := pc + 1) hs hR hl hst K (fun x r k9 => lv_l2i hx hb (hok.dec rfl) rfl k9)
  | dup => exact zs_dup (pc2 := pc + 1) hs hR hl hst K (fun v r h9 k9 => lv_dup hx hb (hok.dec rfl) h9 k9)
  | dup2 => exact zs_dup2 (pc2 := pc + 1) hs hR hl hst K (fun v w r h8 h9 k9 => lv_dup2_11 hx hb (hok.dec rfl) h8 h9 k9)
  | pop => exact zs_pop (pc2 := pc + 1) hs hR hl hst K (fun v r h9 k9 => lv_pop hx hb (hok.dec rfl) h9 k9)
  | ifCond cond off =>
    cases cond with
    | eq => exact zs_if (P := fun x => x = 0) (fun x => decide_eq_true_iff) hs hR hl hst K (fun x r t h9 k1 k2 => lv_if_eq hx hb (hok.dec rfl) h9 k1 k2)
    | ne => exact zs_if (P := fun x => ¬ x = 0) (fun x => decide_eq_true_iff) hs hR hl hst K (fun x r t h9 k1 k2 => lv_if_ne hx hb (hok.dec rfl) h9 k1 (fun z => k2 (fun y => y z)))
    | lt => exact zs_if (P := fun x => x < 0) (fun x => decide_eq_true_iff) hs hR hl hst K (fun x r t h9 k1 k2 => lv_if_lt hx hb (hok.dec rfl) h9 k1 k2)
    | ge => exact zs_if (P := fun x => 0 ≤ x) (fun x => decide_eq_true_iff) hs hR hl hst K (fun x r t h9 k1 k2 => lv_if_ge hx hb (hok.dec rfl) h9 k1 k2)
    | gt => exact zs_if (P := fun x => 0 < x) (fun x => decide_eq_true_iff) hs hR hl hst K (fun x r t h9 k1 k2 => lv_if_gt hx hb (hok.dec rfl) h9 k1 k2)
    | le => exact zs_if (P := fun x => x ≤ 0) (fun x => decide_eq_true_iff) hs hR hl hst K (fun x r t h9 k1 k2 => lv_if_le hx hb (hok.dec rfl) h9 k1 k2)
  | if_icmp cond off =>
    cases cond with
    | eq => exact zs_icmp (P := fun x y => x = y) (fun x y => decide_eq_true_iff) hs hR hl hst K (fun x y r t h9 k1 k2 => lv_icmp_eq hx hb (hok.dec rfl) h9 k1 k2)
    | ne => exact zs_icmp (P := fun x y => ¬ x = y) (fun x y => decide_eq_true_iff) hs hR hl hst K (fun x y r t h9 k1 k2 => lv_icmp_ne hx hb (hok.dec rfl) h9 k1 (fun z => k2 (fun y => y z)))
    | lt => exact zs_icmp (P := fun x y => x < y) (fun x y => decide_eq_true_iff) hs hR hl hst K (fun x y r t h9 k1 k2 => lv_icmp_lt hx hb (hok.dec rfl) h9 k1 k2)
    | ge => exact zs_icmp (P := fun x y => y ≤ x) (fun x y => decide_eq_true_iff) hs hR hl hst K (fun x y r t h9 k1 k2 => lv_icmp_ge hx hb (hok.dec rfl) h9 k1 k2)
    | gt => exact zs_icmp (P := fun x y => y < x) (fun x y => decide_eq_true_iff) hs hR hl hst K (fun x y r t h9 k1 k2 => lv_icmp_gt hx hb (hok.dec rfl) h9 k1 k2)
    | le => exact zs_icmp (P := fun x y => x ≤ y) (fun x y => decide_eq_true_iff) hs hR hl hst K (fun x y r t h9 k1 k2 => lv_icmp_le hx hb (hok.dec rfl) h9 k1 k2)
  | if_acmp cond off =>
    cases cond with
    | eq => exact zs_acmp hST hs hR hl hst K (fun rx ry r t h9 k1 k2 => lv_acmp_eq hx hb (hok.dec rfl) h9 (fun q => k1 (decide_eq_true q)) (fun q => k2 (fun z => q (of_decide_eq_true z))))
    | ne => exact zs_acmp hST hs hR hl hst K (fun rx ry r t h9 k1 k2 => lv_acmp_ne hx hb (hok.dec rfl) h9 (fun q => k1 (decide_eq_false q)) (fun q => k2 (fun z => of_decide_eq_false z q)))
  | ifnull off => exact zs_ifn hs hR hl hst K (fun x r t h9 k1 k2 => lv_ifnull hx hb (hok.dec rfl) (k2 rfl)) (fun r t h9 k1 k2 => lv_ifnullN hx hb (hok.dec rfl) h9 (k1 rfl))
  | ifnonnull off => exact zs_ifn hs hR hl hst K (fun x r t h9 k1 k2 => lv_ifnonnull hx hb (hok.dec rfl) h9 (k1 rfl)) (fun r t h9 k1 k2 => lv_ifnonnullN hx hb (hok.dec rfl) (k2 rfl))
  | goto off =>
    obtain ⟨t, ht, e1⟩ := Option.map_eq_some_iff.mp (show (bd_tg pc off).map (fun t => (t, L, st, h)) = some (pc1, L1, st1, h1) from hs)
    cases e1
    exact lv_goto hx hb (hok.dec rfl) (bd_tg_spec ht) (K.same hR hl hst)
  | tableswitch dflt lo hi offs =>
    obtain ⟨⟨n, hd, -⟩, -⟩ := hok
    exact zs_table hs hR hl hst K (fun x r t h8 h9 k9 => lv_tableOut hx hb hd h8 h9 k9) (fun x r o t h6 h7 h8 h9 k9 => lv_tableIn hx hb hd h6 h7 h8 h9 k9)
  | lookupswitch dflt ps =>
    obtain ⟨⟨n, hd, -⟩, pp, hlk⟩ := hok
    exact zs_look hs hR hl hst K (fun x r t h9 k9 => lv_lookup hx hb hd hlk rfl h9 k9)
  | getfield ix => exact zs_getf F hok hs hR hl hst K
  | putfield ix => exact zs_putf F hok hs hR hl hst K
  | getstatic ix =>
    cases (show some (pc + 3, L, Value.ref res :: st, h) = _ from hs)
    exact zs_gets F hok hR hl hst K
  | iaload => exact zs_iald F hok hs hR hl hst K
  | baload => exact zs_zald F hok hs hR hl hst K
  | laload => exact zs_jld F hok hs hR hl hst K
  | aaload => exact zs_qld F hok hs hR hl hst K
  | iastore => exact zs_ast F hok hs hR hl hst K
  | bastore => exact zs_zst F hok hs hR hl hst K
  | lastore => exact zs_jst F hok hs hR hl hst K
  | aastore => exact zs_qst F hok hs hR hl hst K
  | arraylength => exact zs_len F hok hs hR hl hst K
  | new ix => exact zs_newc F hok hs hR hl hst hc1 hs1 K
  | newarray t => exact zs_newa F hok hs hR hl hst hc1 hs1 bd_w_ar K
  | anewarray ix => exact zs_newq F hok hs hR hl hst hc1 hs1 bd_w_ao K
  | invokespecial ix =>
    have hs' : (if res = 900 then bd_oinit (pc + 3) L st h else none) = some (pc1, L1, st1, h1) := hs
    split at hs'
    · rename_i h9
      subst h9
      exact zs_oinit F hok hs' hR hl hst hn hf hlo K
    · cases hs'
  | invokestatic ix =>
    have hs' : (if res = 901 then bd_copy (pc + 3) L st h else if res = 304 then bd_mm (fun x y => if x < y then y else x) (pc + 3) L st h else if res = 305 then bd_mm (fun x y => if y < x then y else x) (pc + 3) L st h else none) = some (pc1, L1, st1, h1) := hs
    split at hs'
    · rename_i h9
      subst h9
      exact zs_copy F hok hs' hR hl hst hn hf hlo K
    · split at hs'
      · rename_i h9
        subst h9
        have hd := hok.dec rfl
        obtain ⟨-, pp, hlk⟩ := hok
        simp only [bd_lk] at hlk
        rw [if_neg (by decide)] at hlk
        simp only [Bool.and_eq_true] at hlk
        exact zs_mm hs' hR hl hst K (fun x y r h8 k9 => va_mmax hx hb (by rw [hml, ← hn]; exact hl.1.symm) hown (htb _ (bd_at_tbl hlk.1.2 rfl)) (htb _ bd_w_m1) (htb _ bd_w_m0) (htb _ bd_w_m2) hf (by omega) (by omega) (by omega) hd k9)
      · split at hs'
        · rename_i h9
          subst h9
          have hd := hok.dec rfl
          obtain ⟨-, pp, hlk⟩ := hok
          simp only [bd_lk] at hlk
          rw [if_neg (by decide)] at hlk
          simp only [Bool.and_eq_true] at hlk
          exact zs_mm hs' hR hl hst K (fun x y r h8 k9 => va_mmin hx hb (by rw [hml, ← hn]; exact hl.1.symm) hown (htb _ (bd_at_tbl hlk.1.2 rfl)) (htb _ bd_w_m3) (htb _ bd_w_m0) (htb _ bd_w_m4) hf (by omega) (by omega) (by omega) hd k9)
        · cases hs'
  | _ => exact absurd hs (by simp [bd_one])
end SIM4
