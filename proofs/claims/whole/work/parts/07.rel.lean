/-! The relation between the abstract machine and the Statement's: values by ad (a place's address), cells by ad and ca (an array's class). -/
def bd_cv (ad : Nat → Nat) (v : Value) : Value := match v with
  | .ref a => .ref (ad a)
  | v => v
theorem bd_cv_cat (ad : Nat → Nat) (v : Value) : (bd_cv ad v).category = v.category := by cases v <;> rfl
theorem bd_cv_rf (ad : Nat → Nat) (q : Option Nat) : bd_cv ad (va_rf q) = va_rf (q.map ad) := by cases q <;> rfl
def bd_vw (N : Nat) (v : Value) : Prop := match v with
  | .ref a => a < N
  | _ => True
theorem bd_cv_ext {ad ad' : Nat → Nat} {N : Nat} (h : ∀ a, a < N → ad' a = ad a) {v : Value} (hv : bd_vw N v) : bd_cv ad' v = bd_cv ad v := by
  cases v <;> first | rfl | (simp only [bd_cv]; rw [h _ hv])
theorem bd_vw_mono {N M : Nat} (h : N ≤ M) {v : Value} (hv : bd_vw N v) : bd_vw M v := by
  cases v <;> first | trivial | exact Nat.lt_of_lt_of_le hv h
theorem bd_vw_rf {N : Nat} {q : Option Nat} (h : ∀ b, q = some b → b < N) : bd_vw N (va_rf q) := by
  cases q with
  | none => trivial
  | some b => exact h b rfl
/-- the locals -/
def bd_Lr (ad : Nat → Nat) (N : Nat) (L : Lc) (ls : Array Slot) : Prop := ls.size = L.length ∧ lv_wf ls ∧ ∀ (k : Nat) (v : Value), bd_ld L k = some v → ls[k]? = some (.val (bd_cv ad v)) ∧ bd_vw N v
theorem bd_ld_set (L : Lc) (k : Nat) (x : Option Value) (j : Nat) : bd_ld (L.set k x) j = if j = k then (if k < L.length then x else none) else bd_ld L j := by
  unfold bd_ld
  rw [List.getElem?_set]
  by_cases h : k = j
  · subst h
    by_cases h2 : k < L.length
    · simp [h2]
    · simp [h2]
  · rw [if_neg h, if_neg (fun e => h e.symm)]
theorem bd_ld_lt {L : Lc} {k : Nat} {v : Value} (h : bd_ld L k = some v) : k < L.length := by
  unfold bd_ld at h
  rcases Nat.lt_or_ge k L.length with q | q
  · exact q
  · rw [List.getElem?_eq_none q] at h
    cases h
def bd_lv (ad : Nat → Nat) (L : Lc) : List (Nat × Value) := (List.range L.length).filterMap (fun k => (bd_ld L k).map (fun v => (k, bd_cv ad v)))
theorem bd_lv_mem {ad : Nat → Nat} {L : Lc} {q : Nat × Value} : q ∈ bd_lv ad L ↔ ∃ v, bd_ld L q.1 = some v ∧ q.2 = bd_cv ad v := by
  unfold bd_lv
  rw [List.mem_filterMap]
  constructor
  · rintro ⟨k, -, hk⟩
    cases hv : bd_ld L k with
    | none => rw [hv] at hk; cases hk
    | some v =>
      rw [hv] at hk
      cases hk
      exact ⟨v, hv, rfl⟩
  · rintro ⟨v, h1, h2⟩
    refine ⟨q.1, List.mem_range.mpr (bd_ld_lt h1), ?_⟩
    rw [h1]
    show some (q.1, bd_cv ad v) = some q
    rw [← h2]
theorem bd_Lr.has {ad : Nat → Nat} {N : Nat} {L : Lc} {ls : Array Slot} (h : bd_Lr ad N L ls) : lv_has ls L.length (bd_lv ad L) := by
  refine ⟨h.1, h.2.1, fun q hq => ?_⟩
  obtain ⟨v, h1, h2⟩ := bd_lv_mem.mp hq
  rw [h2]
  exact (h.2.2 q.1 v h1).1
theorem bd_cut_len (L : Lc) (k : Nat) : (bd_cut L k).length = L.length := by
  unfold bd_cut
  split <;> simp
theorem bd_st1_len (L : Lc) (k : Nat) (v : Value) : (bd_st1 L k v).length = L.length := by
  unfold bd_st1
  rw [List.length_set, bd_cut_len]
theorem bd_st2_len (L : Lc) (k : Nat) (v : Value) : (bd_st2 L k v).length = L.length := by
  unfold bd_st2
  rw [List.length_set, List.length_set, bd_cut_len]
theorem bd_ld_cut {L : Lc} {i k : Nat} {u : Value} (h : bd_ld (bd_cut L i) k = some u) : bd_ld L k = some u ∧ ¬ (k + 1 = i ∧ u.category = 2) := by
  unfold bd_cut at h
  split at h
  · rename_i hc
    rw [bd_ld_set] at h
    split at h
    · split at h <;> cases h
    · rename_i hk
      exact ⟨h, fun q => hk (by omega)⟩
  · rename_i hc
    refine ⟨h, fun q => hc ⟨by omega, ?_⟩⟩
    have e : i - 1 = k := by omega
    unfold bd_wide
    rw [e, h]
    simp [q.2]
theorem bd_Lr.st1 {ad : Nat → Nat} {N : Nat} {L : Lc} {ls' : Array Slot} {i : Nat} {v : Value} (h : ∀ (k : Nat) (v : Value), bd_ld L k = some v → bd_vw N v) (hv : bd_vw N v)
    (hh : lv_has ls' L.length ((i, bd_cv ad v) :: (bd_lv ad L).filter (fun q => !(q.1 == i) && !(q.1 + 1 == i && q.2.category == 2)))) : bd_Lr ad N (bd_st1 L i v) ls' := by
  refine ⟨by rw [bd_st1_len]; exact hh.1, hh.2.1, fun k u hk => ?_⟩
  unfold bd_st1 at hk
  rw [bd_ld_set] at hk
  split at hk
  · rename_i e
    subst e
    split at hk
    · cases hk
      exact ⟨hh.2.2 (k, bd_cv ad v) List.mem_cons_self, hv⟩
    · cases hk
  · rename_i hne
    obtain ⟨h1, h2⟩ := bd_ld_cut hk
    refine ⟨hh.2.2 (k, bd_cv ad u) (List.mem_cons_of_mem _ (List.mem_filter.mpr ⟨bd_lv_mem.mpr ⟨u, h1, rfl⟩, ?_⟩)), h k u h1⟩
    simp only [bd_cv_cat, Bool.and_eq_true, Bool.not_eq_true', beq_eq_false_iff_ne, ne_eq, Bool.and_eq_false_imp, beq_iff_eq]
    exact ⟨hne, fun e q => h2 ⟨e, q⟩⟩
theorem bd_Lr.st2 {ad : Nat → Nat} {N : Nat} {L : Lc} {ls' : Array Slot} {i : Nat} {v : Value} (h : ∀ (k : Nat) (v : Value), bd_ld L k = some v → bd_vw N v) (hv : bd_vw N v)
    (hh : lv_has ls' L.length ((i, bd_cv ad v) :: (bd_lv ad L).filter (fun q => !(q.1 == i) && (!(q.1 == i + 1) && !(q.1 + 1 == i && q.2.category == 2))))) : bd_Lr ad N (bd_st2 L i v) ls' := by
  refine ⟨by rw [bd_st2_len]; exact hh.1, hh.2.1, fun k u hk => ?_⟩
  unfold bd_st2 at hk
  rw [bd_ld_set] at hk
  split at hk
  · split at hk <;> cases hk
  · rename_i hne1
    rw [bd_ld_set] at hk
    split at hk
    · rename_i e
      subst e
      split at hk
      · cases hk
        exact ⟨hh.2.2 (k, bd_cv ad v) List.mem_cons_self, hv⟩
      · cases hk
    · rename_i hne
      obtain ⟨h1, h2⟩ := bd_ld_cut hk
      refine ⟨hh.2.2 (k, bd_cv ad u) (List.mem_cons_of_mem _ (List.mem_filter.mpr ⟨bd_lv_mem.mpr ⟨u, h1, rfl⟩, ?_⟩)), h k u h1⟩
      simp only [bd_cv_cat, Bool.and_eq_true, Bool.not_eq_true', beq_eq_false_iff_ne, ne_eq, Bool.and_eq_false_imp, beq_iff_eq]
      exact ⟨hne, hne1, fun e q => h2 ⟨e, q⟩⟩
theorem bd_Lr.wf {ad : Nat → Nat} {N : Nat} {L : Lc} {ls : Array Slot} (h : bd_Lr ad N L ls) : ∀ (k : Nat) (v : Value), bd_ld L k = some v → bd_vw N v := fun k v hk => (h.2.2 k v hk).2
theorem bd_Lr.ext {ad ad' : Nat → Nat} {N M : Nat} {L : Lc} {ls : Array Slot} (h : bd_Lr ad N L ls) (he : ∀ a, a < N → ad' a = ad a) (hM : N ≤ M) : bd_Lr ad' M L ls := by
  refine ⟨h.1, h.2.1, fun k v hk => ?_⟩
  obtain ⟨h1, h2⟩ := h.2.2 k v hk
  exact ⟨by rw [bd_cv_ext he h2]; exact h1, bd_vw_mono hM h2⟩
/-- the stack -/
def bd_Sw (N : Nat) (st : List Value) : Prop := ∀ v ∈ st, bd_vw N v
theorem bd_Sw.tl {N : Nat} {v : Value} {st : List Value} (h : bd_Sw N (v :: st)) : bd_Sw N st := fun w hw => h w (List.mem_cons_of_mem _ hw)
theorem bd_Sw.hd {N : Nat} {v : Value} {st : List Value} (h : bd_Sw N (v :: st)) : bd_vw N v := h v List.mem_cons_self
theorem bd_Sw.cons {N : Nat} {v : Value} {st : List Value} (hv : bd_vw N v) (h : bd_Sw N st) : bd_Sw N (v :: st) := fun w hw => (List.mem_cons.mp hw).elim (fun e => e ▸ hv) (h w)
theorem bd_Sw.map {ad ad' : Nat → Nat} {N : Nat} {st : List Value} (h : bd_Sw N st) (he : ∀ a, a < N → ad' a = ad a) : st.map (bd_cv ad') = st.map (bd_cv ad) := List.map_congr_left fun v hv => bd_cv_ext he (h v hv)
theorem bd_Sw.mono {N M : Nat} {st : List Value} (h : bd_Sw N st) (hM : N ≤ M) : bd_Sw M st := fun v hv => bd_vw_mono hM (h v hv)
/-- a cell of the heap -/
def bd_sv (ad : Nat → Nat) (h : Hp) (c a k : Nat) : Value := bd_cv ad (bd_slot h ((bd_ft c).getD k 0) a k)
def bd_fs (ad : Nat → Nat) (h : Hp) (c a : Nat) : List Value := (List.range (bd_nf c)).map (bd_sv ad h c a)
def bd_cell (ad ca : Nat → Nat) (h : Hp) (a : Nat) : va_E :=
  if hK h a < 12 then .inr (hK h a, bd_fs ad h (hK h a) a)
  else if hK h a = 13 then .inl (ca a, hL h a, .inr (.inl (hJ h a)))
  else if hK h a ≤ 14 then .inl (ca a, hL h a, .inl (hI h a))
  else .inl (ca a, hL h a, .inr (.inr (.inr (.inr (fun i => (hQ h a i).map ad)))))
def bd_ws (ad ca : Nat → Nat) (h : Hp) : va_W := (List.range (hN h - 30)).map (fun j => (ad (30 + j), bd_cell ad ca h (30 + j)))
theorem bd_ws_get {ad ca : Nat → Nat} {h : Hp} {a : Nat} (h1 : 30 ≤ a) (h2 : a < hN h) : (bd_ws ad ca h)[a - 30]? = some (ad a, bd_cell ad ca h a) := by
  unfold bd_ws
  rw [List.getElem?_map, List.getElem?_range (by omega)]
  show some (ad (30 + (a - 30)), bd_cell ad ca h (30 + (a - 30))) = _
  rw [show 30 + (a - 30) = a by omega]
theorem bd_ws_inv {ad ca : Nat → Nat} {h : Hp} {j : Nat} {q : Nat × va_E} (hq : (bd_ws ad ca h)[j]? = some q) : 30 + j < hN h ∧ q = (ad (30 + j), bd_cell ad ca h (30 + j)) := by
  unfold bd_ws at hq
  rw [List.getElem?_map] at hq
  rcases Nat.lt_or_ge j (hN h - 30) with hj | hj
  · rw [List.getElem?_range hj] at hq
    cases hq
    exact ⟨by omega, rfl⟩
  · rw [List.getElem?_eq_none (by simpa using hj)] at hq
    cases hq
/-- one cell of the list set -/
theorem bd_ws_set {ad ca : Nat → Nat} {h h1 : Hp} {a : Nat} {e : va_E} (hN1 : hN h1 = hN h) (h30 : 30 ≤ a) (ha : bd_cell ad ca h1 a = e) (ho : ∀ b, b ≠ a → bd_cell ad ca h1 b = bd_cell ad ca h b) : (bd_ws ad ca h).set (a - 30) (ad a, e) = bd_ws ad ca h1 := by
  apply List.ext_getElem?
  intro j
  rw [List.getElem?_set]
  unfold bd_ws
  rw [hN1, List.length_map, List.length_range, List.getElem?_map, List.getElem?_map]
  rcases Nat.lt_or_ge j (hN h - 30) with hj | hj
  · rw [List.getElem?_range hj]
    by_cases he : a - 30 = j
    · have e2 : 30 + j = a := by omega
      rw [if_pos he, if_pos (by omega)]
      show some (ad a, e) = some (ad (30 + j), bd_cell ad ca h1 (30 + j))
      rw [e2, ha]
    · rw [if_neg he]
      show some (ad (30 + j), bd_cell ad ca h (30 + j)) = some (ad (30 + j), bd_cell ad ca h1 (30 + j))
      rw [ho (30 + j) (by omega)]
  · rw [List.getElem?_eq_none (by simpa using hj)]
    by_cases he : a - 30 = j
    · rw [if_pos he, if_neg (by omega)]
      rfl
    · rw [if_neg he]
      rfl
def bd_ty (k : Nat) : FieldType := if k = 12 then .int else if k = 13 then .long else if k = 14 then .boolean else .object (bd_akn k)
/-- references lead to cells that are there; kinds are those told -/
def bd_wf (h : Hp) : Prop := (∀ a k b, a < hN h → hQ h a k = some b → b < hN h) ∧ (∀ a, 30 ≤ a → a < hN h → hK h a ≤ 18) ∧ 30 ≤ hN h
def bd_kS (a : Nat) : Nat := if a < 26 then 19 else if a = 26 then 20 else 12
def bd_stx (j : Nat) : Int32 := [0, 1, 0, -1].getD j 0
def bd_sty (j : Nat) : Int32 := [-1, 0, 1, 0].getD j 0
def bd_wcode (j : Nat) : Int64 := [18935, 146930, 1457607, 37305971, 13369, 3657363, 24395141, 4900691220, 2212, 239, 508078, 631476, 754996, 15190664, 165492, 20436616, 759412, 498, 1476, 14836, 6452, 52, 2412723, 1514885, 408362632, 661820947].getD j 0
/-- the cells that are there from the start: 0 to 25 the Words, 26 their list, 27 and 28 the steps, 29 the script -/
def bd_stat (xs : Nat → Int32) (n : Nat) (h : Hp) : Prop := (∀ a, a < 30 → hK h a = bd_kS a) ∧ (∀ a, a < 26 → hJ h a 0 = bd_wcode a) ∧ hL h 26 = 26 ∧ (∀ j, j < 26 → hQ h 26 j = some j) ∧ hL h 27 = 4 ∧ (∀ j, j < 4 → hI h 27 j = bd_stx j) ∧ hL h 28 = 4 ∧ (∀ j, j < 4 → hI h 28 j = bd_sty j) ∧ hL h 29 = n ∧ ∀ j, j < n → hI h 29 j = xs j
theorem bd_stat.eq {xs : Nat → Int32} {n : Nat} {h h1 : Hp} (hs : bd_stat xs n h) (eK : ∀ a, a < 30 → hK h1 a = hK h a) (eL : ∀ a, a < 30 → hL h1 a = hL h a) (eI : ∀ a, a < 30 → hI h1 a = hI h a) (eJ : ∀ a, a < 30 → hJ h1 a = hJ h a) (eQ : ∀ a, a < 30 → hQ h1 a = hQ h a) : bd_stat xs n h1 := by
  obtain ⟨s1, s2, s3, s4, s5, s6, s7, s8, s9, s10⟩ := hs
  refine ⟨fun a ha => by rw [eK a ha]; exact s1 a ha, fun a ha => by rw [eJ a (by omega)]; exact s2 a ha, ?_, fun j hj => by rw [eQ 26 (by omega)]; exact s4 j hj, ?_, fun j hj => by rw [eI 27 (by omega)]; exact s6 j hj, ?_, fun j hj => by rw [eI 28 (by omega)]; exact s8 j hj, ?_, fun j hj => by rw [eI 29 (by omega)]; exact s10 j hj⟩
  · rw [eL 26 (by omega)]; exact s3
  · rw [eL 27 (by omega)]; exact s5
  · rw [eL 28 (by omega)]; exact s7
  · rw [eL 29 (by omega)]; exact s9
/-- words that a warmed machine keeps, though the tables alone don't say so -/
def bd_isN (w : Cond) : Bool := match w with
  | .fieldLinkNest _ _ _ _ _ _ => true
  | .methodLinkNest _ _ _ _ => true
  | .arrayOver (.object _) => true
  | .declares _ => true
  | .castable _ _ => true
  | _ => false
def bd_SW (s : State) : Prop := ∀ w ∈ lw_tbl, bd_isN w = true → va_Nw w s
theorem bd_SW.warm {s U : State} (hW : s.WarmedH U.vm) (h : bd_SW s) : bd_SW U := by
  intro w hw hn
  have h1 := h w hw hn
  unfold bd_isN at hn
  split at hn
  · exact va_Nw.warmF hW h1
  · exact va_Nw.warmM hW h1
  · exact va_AO.moved hW.alike h1
  · exact va_Nw.warmD hW h1
  · exact va_Nw.warmC hW h1
  · cases hn
theorem bd_SW.same {s U : State} (hv : s.vm = U.vm) (h : bd_SW s) : bd_SW U := by
  intro w hw hn
  have h1 := h w hw hn
  unfold bd_isN at hn
  split at hn
  · exact va_Nw.same rfl hv h1
  · exact va_Nw.same rfl hv h1
  · exact va_AO.moved (hv ▸ Vm.Alike.refl s.vm) h1
  · exact va_Nw.same rfl hv h1
  · exact va_Nw.same rfl hv h1
  · cases hn
/-- the statics of the start, at the addresses sad; n ints xs in the script -/
def bd_ST (xs : Nat → Int32) (n : Nat) (sad : Nat → Nat) (A : Nat → Prop) (s : State) (H : Heap) : Prop :=
  (∀ i, i < 26 → va_Z "BitingDoors$Word" (bd_wn.getD i "") "LBitingDoors$Word;" (.ref (sad i)) A s H) ∧
  va_Ef 26 "BitingDoors$Word" "code" "J" (fun k => .long (bd_wcode k)) sad A s H ∧
  va_Z "BitingDoors$Word" "ALL" "[LBitingDoors$Word;" (.ref (sad 26)) A s H ∧ va_T (.object "BitingDoors$Word") (sad 26) 26 (fun j => .ref (sad j)) A s H ∧
  va_Z "BitingDoors" "STEP_X" "[I" (.ref (sad 27)) A s H ∧ va_T .int (sad 27) 4 (fun j => .int (bd_stx j)) A s H ∧
  va_Z "BitingDoors" "STEP_Y" "[I" (.ref (sad 28)) A s H ∧ va_T .int (sad 28) 4 (fun j => .int (bd_sty j)) A s H ∧
  va_T .int (sad 29) n (fun j => .int (xs j)) A s H ∧ vx_Zq "java/lang/Throwable" "UNASSIGNED_STACK" Bundle.steD A s H ∧ vx_Zq "java/lang/Throwable" "SUPPRESSED_SENTINEL" Bundle.listD A s H
theorem bd_ST.moved {xs : Nat → Int32} {n : Nat} {sad : Nat → Nat} {A : Nat → Prop} {u U : State} {H : Heap} (hvm : u.vm.Alike U.vm) (h : bd_ST xs n sad A u H) : bd_ST xs n sad A U H := by
  obtain ⟨h1, h2, h3, h4, h5, h6, h7, h8, h9, h10, h11⟩ := h
  exact ⟨fun i hi => (h1 i hi).moved hvm, h2.moved hvm, h3.moved hvm, h4.moved hvm, h5.moved hvm, h6.moved hvm, h7.moved hvm, h8.moved hvm, h9.moved hvm, h10.moved hvm, h11.moved hvm⟩
theorem bd_ST.kept {xs : Nat → Int32} {n : Nat} {sad : Nat → Nat} {A : Nat → Prop} {U : State} {H H1 : Heap} (h : bd_ST xs n sad A U H) (hq : ∀ a : Nat, a < H.size → ¬ A a → H1[a]? = H[a]?) : bd_ST xs n sad A U H1 := by
  obtain ⟨h1, h2, h3, h4, h5, h6, h7, h8, h9, h10, h11⟩ := h
  exact ⟨fun i hi => (h1 i hi).kept hq, h2.kept hq, h3.kept hq, h4.kept hq, h5.kept hq, h6.kept hq, h7.kept hq, h8.kept hq, h9.kept hq, h10.kept hq, h11.kept hq⟩
theorem bd_ST.narrow {xs : Nat → Int32} {n : Nat} {sad : Nat → Nat} {A B : Nat → Prop} {U : State} {H : Heap} (h : bd_ST xs n sad A U H) (hAB : ∀ q, B q → A q) : bd_ST xs n sad B U H := by
  obtain ⟨h1, h2, h3, h4, h5, h6, h7, h8, h9, h10, h11⟩ := h
  exact ⟨fun i hi => (h1 i hi).narrow hAB, h2.narrow hAB, h3.narrow hAB, h4.narrow hAB, h5.narrow hAB, h6.narrow hAB, h7.narrow hAB, h8.narrow hAB, h9.narrow hAB, h10.narrow hAB, h11.narrow hAB⟩
/-- the heap H, seen from the method's entry s -/
def bd_Rel (xs : Nat → Int32) (n : Nat) (D : va_G) (A : Nat → Prop) (s : State) (sad ad ca : Nat → Nat) (h : Hp) (H : Heap) (locs : List Loc) : Prop :=
  va_P D clA (bd_ws ad ca h) H ∧ va_D A (bd_ws ad ca h) ∧ va_S A s.heap H locs ∧ (∀ a, 30 ≤ a → a < hN h → 12 ≤ hK h a → ArrOfT s (ca a) (bd_ty (hK h a)) ∧ va_RA s (ca a) (bd_ty (hK h a))) ∧ bd_wf h ∧ bd_stat xs n h ∧ ∀ a, a < 30 → ad a = sad a
/-- what stands fast in a method: the machine, its code, its words, the statics -/
def bd_Fix (xs : Nat → Int32) (n mi : Nat) (D : va_G) (A : Nat → Prop) (p : Program) (s : State) (m : MethodId) (args : Array Value) (meth : Method) (c : Code) (sad : Nat → Nat) : Prop :=
  p.tables.exec = Jvm.exec ∧ c.code = (mtM mi).2.1 ∧ c.maxLocals = (mtM mi).2.2.1 ∧ s.vm.findClass (bd_own mi) = some m.cls ∧ (∀ w ∈ tbl, w.before args s = true) ∧ (∀ q, s.heap.size ≤ q → A q) ∧ va_K D clA [] s ∧ bd_ST xs n sad A s s.heap ∧ bd_SW s ∧ ((mtM mi).1.name = "<init>" → meth.name = "<init>")
/-- what the tables and the bytes say of a row -/
def bd_ok (mi pc : Nat) (raw : Instr) (res : Nat) : Prop := (∃ n, decode (mtM mi).2.1 pc = .ok (raw, n) ∧ (bd_sw raw = true ∨ n = bd_lenOf raw)) ∧ ∃ p, bd_lk mi raw res p = true
theorem bd_ok.dec {mi pc : Nat} {raw : Instr} {res : Nat} (h : bd_ok mi pc raw res) (hs : bd_sw raw = false) : decode (mtM mi).2.1 pc = .ok (raw, bd_lenOf raw) := by
  obtain ⟨⟨n, h1, h2⟩, -⟩ := h
  rcases h2 with h2 | h2
  · rw [hs] at h2; cases h2
  · rw [h1, h2]
theorem bd_at_in {p : Nat} {w : Cond} (h : bd_at p w = true) : w ∈ lw_tbl := List.mem_of_getElem? (of_decide_eq_true h)
theorem bd_at_tbl {p : Nat} {w : Cond} (h : bd_at p w = true) (g : goodWord w = true) : w ∈ tbl := tbl_in (of_decide_eq_true h) g
theorem bd_in_vp {i : Int32} {n : Nat} (h : bd_in i n = true) : vp_in i n := vp_in_iff.mpr (of_decide_eq_true h)
theorem bd_tg_spec {pc : Nat} {off : Int} {t : Nat} (h : bd_tg pc off = some t) : (pc : Int) + off = (t : Int) := by
  unfold bd_tg at h
  split at h
  · cases h
    omega
  · cases h
