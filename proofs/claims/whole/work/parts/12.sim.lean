/-! The whole of a method, and its calls: bd_PW by the number of steps. -/
set_option maxHeartbeats 4000000 in
theorem bd_one_mono {raw : Instr} {res pc : Nat} {L : Lc} {st : List Value} {h : Hp} {pc1 : Nat} {L1 : Lc} {st1 : List Value} {h1 : Hp} (hs : bd_one raw res pc L st h = some (pc1, L1, st1, h1)) : L1.length = L.length ∧ hN h ≤ hN h1 ∧ hC h ≤ hC h1 ∧ hS h ≤ hS h1 := by
  cases raw <;> simp only [bd_one] at hs <;> first
    | (cases hs; done)
    | (cases hs; exact ⟨rfl, Nat.le_refl _, Nat.le_refl _, Nat.le_refl _⟩)
    | skip
  all_goals first
    | (rename_i cnd off; cases cnd <;> simp only [bd_if, bd_icmp, bd_acmp] at hs <;> (repeat' split at hs) <;> first | (cases hs; done) | (cases hs; exact ⟨rfl, Nat.le_refl _, Nat.le_refl _, Nat.le_refl _⟩))
    | (simp only [bd_loadI, bd_loadL, bd_loadA, bd_stI, bd_stL, bd_stA, bd_inc, bd_II, bd_IId, bd_JJ, bd_JI, bd_lcmp, bd_i2l, bd_l2i, bd_dup, bd_pop, bd_dup2, bd_ifn, bd_getf, bd_putf, bd_ald, bd_jld, bd_qld, bd_ast, bd_zst, bd_jst, bd_qst, bd_len, bd_newc, bd_newa, bd_oinit, bd_copy, bd_mm] at hs
       (repeat' split at hs) <;> first
         | (cases hs; done)
         | (cases hs; exact ⟨rfl, Nat.le_refl _, Nat.le_refl _, Nat.le_refl _⟩)
         | (cases hs; exact ⟨bd_st1_len _ _ _, Nat.le_refl _, Nat.le_refl _, Nat.le_refl _⟩)
         | (cases hs; exact ⟨bd_st2_len _ _ _, Nat.le_refl _, Nat.le_refl _, Nat.le_refl _⟩)
         | (cases hs; exact ⟨rfl, Nat.le_succ _, Nat.le_succ _, Nat.le_add_right _ _⟩))
    | (simp only [bd_table, bd_look] at hs
       (repeat' split at hs) <;> first
         | (cases hs; done)
         | (obtain ⟨t, -, e1⟩ := Option.map_eq_some_iff.mp hs; cases e1; exact ⟨rfl, Nat.le_refl _, Nat.le_refl _, Nat.le_refl _⟩))
    | (obtain ⟨t, -, e1⟩ := Option.map_eq_some_iff.mp hs; cases e1; exact ⟨rfl, Nat.le_refl _, Nat.le_refl _, Nat.le_refl _⟩)
theorem bd_end_mono {mi : Nat} {raw : Instr} {res : Nat} {st : List Value} {h h1 : Hp} {r : Option Value} (hs : bd_end mi raw res st h = some (r, h1)) : hN h ≤ hN h1 ∧ hC h ≤ hC h1 ∧ hS h ≤ hS h1 := by
  unfold bd_end at hs
  (repeat' split at hs) <;> first
    | (cases hs; done)
    | (cases hs; exact ⟨Nat.le_refl _, Nat.le_refl _, Nat.le_refl _⟩)
    | (cases hs; exact ⟨Nat.le_refl _, Nat.le_succ _, Nat.le_add_right _ _⟩)
theorem bd_door_mono {o : Nat} {r : Option Value} {h h1 : Hp} {v : Int32} (hs : bd_door o r h = some (v, h1)) : hN h ≤ hN h1 ∧ hC h ≤ hC h1 ∧ hS h ≤ hS h1 := by
  unfold bd_door at hs
  (repeat' split at hs) <;> first
    | (cases hs; done)
    | (cases hs; exact ⟨Nat.le_refl _, Nat.le_refl _, Nat.le_refl _⟩)
theorem ev_mono : ∀ (n d mi pc : Nat) (L : Lc) (st : List Value) (h : Hp) (r : Option Value) (h1 : Hp), ev n d mi pc L st h = some (r, h1) → hN h ≤ hN h1 ∧ hC h ≤ hC h1 ∧ hS h ≤ hS h1 := by
  intro n
  induction n with
  | zero => intro d mi pc L st h r h1 hs; simp [ev] at hs
  | succ n ih =>
    intro d mi pc L st h r h1 hs
    unfold ev at hs
    split at hs
    · cases hs
    · rename_i raw res hfe
      split at hs
      · exact bd_end_mono hs
      · split at hs
        · split at hs
          · cases hs
          · split at hs
            · split at hs
              · split at hs
                · split at hs
                  · split at hs
                    · cases hs
                    · rename_i r1 h2 he
                      split at hs
                      · cases hs
                      · rename_i v h3 hd
                        have a1 := ih _ _ _ _ _ _ _ _ he
                        have a2 := bd_door_mono hd
                        have a3 := ih _ _ _ _ _ _ _ _ hs
                        omega
                  · cases hs
                · cases hs
              · split at hs
                · cases hs
                · split at hs
                  · split at hs
                    · cases hs
                    · rename_i r1 h2 he
                      have a1 := ih _ _ _ _ _ _ _ _ he
                      have a3 := ih _ _ _ _ _ _ _ _ hs
                      omega
                  · cases hs
            · cases hs
        · split at hs
          · cases hs
          · rename_i pc1 L1 st1 h2 h1s
            have a1 := bd_one_mono h1s
            have a3 := ih _ _ _ _ _ _ _ _ hs
            omega
def bd_room (d mc ms : Nat) : Room := { frames := d + 1, cells := mc, slots := ms, locals := (d + 1) * 64 }
def bd_ws0 (mi : Nat) : List Cond := .code (mtM mi).1 (mtM mi).2.1 (mtM mi).2.2.1 (mtM mi).2.2.2.1 :: tbl
/-- the world as a method finds it -/
def bd_W0 (xs : Nat → Int32) (n0 : Nat) (D : va_G) (sad ad ca : Nat → Nat) (h : Hp) (sz : Nat) (U : State) : Prop :=
  U.heap.size = sz ∧ va_K D clA [] U ∧ va_P D clA (bd_ws ad ca h) U.heap ∧ va_D (fun _ => True) (bd_ws ad ca h) ∧ (∀ a, 30 ≤ a → a < hN h → 12 ≤ hK h a → ArrOfT U (ca a) (bd_ty (hK h a)) ∧ va_RA U (ca a) (bd_ty (hK h a))) ∧ bd_ST xs n0 sad (va_A (bd_ws ad ca h) sz) U U.heap ∧ bd_SW U
/-- and how it leaves it -/
def bd_Q0 (xs : Nat → Int32) (n0 : Nat) (D : va_G) (ad ca : Nat → Nat) (h : Hp) (sz : Nat) (r : Option Value) (h1 : Hp) : Array Value → State → Outcome → State → Prop := fun _ st oc t =>
  (∃ ad' ca' : Nat → Nat, oc = .returned (r.map (bd_cv ad')) ∧ (∀ a, a < hN h → ad' a = ad a ∧ ca' a = ca a) ∧ va_P D clA (bd_ws ad' ca' h1) t.heap ∧ va_D (va_A (bd_ws ad ca h) sz) (bd_ws ad' ca' h1) ∧ (∀ a, 30 ≤ a → a < hN h1 → 12 ≤ hK h1 a → ArrOfT t (ca' a) (bd_ty (hK h1 a)) ∧ va_RA t (ca' a) (bd_ty (hK h1 a))) ∧ bd_wf h1 ∧ bd_stat xs n0 h1 ∧ ∀ v, r = some v → bd_vw (hN h1) v) ∧ va_F (va_A (bd_ws ad ca h) sz) st t
theorem bd_W0.blind {xs : Nat → Int32} {n0 : Nat} {D : va_G} {sad ad ca : Nat → Nat} {h : Hp} {sz : Nat} {av : List Value} : FrameBlind (va_Pc av (bd_W0 xs n0 D sad ad ca h sz)) := by
  intro a U g mk hq
  obtain ⟨q0, q1, q2, q3, q4, q5, q6, q7⟩ := hq
  exact ⟨q0, q1, va_K.moved (u := U) (U := U.calling g mk a) (Vm.Alike.refl U.vm) q2, q3, q4, fun b h1 h2 h3 => ⟨arrOfT_moved (u := U) (E := U.calling g mk a) (Vm.Alike.refl U.vm) (q5 b h1 h2 h3).1, va_RA.moved (u := U) (U := U.calling g mk a) (Vm.Alike.refl U.vm) (q5 b h1 h2 h3).2⟩, bd_ST.moved (u := U) (U := U.calling g mk a) (Vm.Alike.refl U.vm) q6, bd_SW.same (s := U) (U := U.calling g mk a) rfl q7⟩
/-- the facts on a method -/
def bd_mok (mi : Nat) : Prop := bd_mw mi = true ∧ Cond.code (mtM mi).1 (mtM mi).2.1 (mtM mi).2.2.1 (mtM mi).2.2.2.1 ∈ tbl
/-- the end of a method, seen from h -/
def bd_E (p : Program) (l : Launch) (e : Env) (R : Room) (s : State) (m : MethodId) (args : Array Value) (below : List Frame) (meth : Method) (c : Code) (cells slots : Nat) (Q : State → Prop) (xs : Nat → Int32) (n0 mi : Nat) (D : va_G) (A : Nat → Prop) (sad ad ca : Nat → Nat) (h : Hp) (r : Option Value) (h9 : Hp) : Prop :=
  ∀ (pc : Nat) (raw : Instr) (res : Nat) (st : List Value) (h1 : Hp) (ad' ca' : Nat → Nat) (H' : Heap) (locs' : List Loc) (ls' : Array Slot) (L' : Lc), fe mi pc = some (raw, res) → bd_isEnd raw res = true → bd_end mi raw res st h1 = some (r, h9) → bd_Rel xs n0 D A s sad ad' ca' h1 H' locs' → bd_Lr ad' (hN h1) L' ls' → bd_Sw (hN h1) st → L'.length = (mtM mi).2.2.1 → (∀ a, a < hN h → ad' a = ad a ∧ ca' a = ca a) → hN h ≤ hN h1 → hC h ≤ hC h1 → hS h ≤ hS h1 → W p l e R s m args below meth c H' locs' (cells + (hC h1 - hC h)) (slots + (hS h1 - hS h)) Q (F0 m pc ls' (st.map (bd_cv ad')))
/-- n steps of a method, simulated -/
def bd_PW (n : Nat) : Prop := ∀ (p : Program) (l : Launch) (e : Env) (R : Room) (s : State) (m : MethodId) (args : Array Value) (below : List Frame) (meth : Method) (c : Code) (Q : State → Prop) (xs : Nat → Int32) (n0 mi : Nat) (D : va_G) (A : Nat → Prop) (sad : Nat → Nat) (d pc : Nat) (L : Lc) (st : List Value) (h : Hp) (r : Option Value) (h9 : Hp) (ad ca : Nat → Nat) (H : Heap) (locs : List Loc) (ls : Array Slot) (cells slots : Nat),
  l.stackTraces = false → ev n d mi pc L st h = some (r, h9) → bd_Fix xs n0 mi D A p s m args meth c sad → bd_Rel xs n0 D A s sad ad ca h H locs → bd_Lr ad (hN h) L ls → bd_Sw (hN h) st → L.length = (mtM mi).2.2.1 → d + 1 ≤ R.frames → (d + 1) * 64 ≤ R.locals → cells + (hC h9 - hC h) ≤ R.cells → slots + (hS h9 - hS h) ≤ R.slots →
  bd_E p l e R s m args below meth c cells slots Q xs n0 mi D A sad ad ca h r h9 → W p l e R s m args below meth c H locs cells slots Q (F0 m pc ls (st.map (bd_cv ad)))
theorem bd_ent_loc (ad : Nat → Nat) (N : Nat) : ∀ (As : List Value) (i : Nat), (∀ v ∈ As, bd_vw N v) → ∀ (k : Nat) (v : Value), bd_ld (bd_sl As) k = some v → (i + k, bd_cv ad v) ∈ lv_args i (As.map (bd_cv ad)) ∧ bd_vw N v := by
  intro As
  induction As with
  | nil => intro i _ k v hk; simp [bd_sl, bd_ld] at hk
  | cons a As ih =>
    intro i hw k v hk
    unfold bd_sl at hk
    show (i + k, bd_cv ad v) ∈ (i, bd_cv ad a) :: lv_args (if (bd_cv ad a).category = 2 then i + 2 else i + 1) (As.map (bd_cv ad)) ∧ _
    rw [bd_cv_cat]
    have hw' : ∀ v ∈ As, bd_vw N v := fun v hv => hw v (List.mem_cons_of_mem _ hv)
    split at hk
    · rename_i h2
      rw [if_pos h2]
      match k, hk with
      | 0, hk =>
        have e1 : a = v := by simpa [bd_ld] using hk
        subst e1
        exact ⟨List.mem_cons_self, hw a List.mem_cons_self⟩
      | 1, hk => simp [bd_ld] at hk
      | k + 2, hk =>
        have hk' : bd_ld (bd_sl As) k = some v := by simpa [bd_ld] using hk
        obtain ⟨g1, g2⟩ := ih (i + 2) hw' k v hk'
        exact ⟨List.mem_cons_of_mem _ (by rw [show i + (k + 2) = i + 2 + k by omega]; exact g1), g2⟩
    · rename_i h2
      rw [if_neg h2]
      match k, hk with
      | 0, hk =>
        have e1 : a = v := by simpa [bd_ld] using hk
        subst e1
        exact ⟨List.mem_cons_self, hw a List.mem_cons_self⟩
      | k + 1, hk =>
        have hk' : bd_ld (bd_sl As) k = some v := by simpa [bd_ld] using hk
        obtain ⟨g1, g2⟩ := ih (i + 1) hw' k v hk'
        exact ⟨List.mem_cons_of_mem _ (by rw [show i + (k + 1) = i + 1 + k by omega]; exact g1), g2⟩
theorem bd_sl_len (ad : Nat → Nat) : ∀ As : List Value, (lg_sl (As.map (bd_cv ad))).length = (bd_sl As).length := by
  intro As
  induction As with
  | nil => rfl
  | cons a As ih =>
    have e1 : lg_sl ((a :: As).map (bd_cv ad)) = (if (bd_cv ad a).category = 2 then [Slot.val (bd_cv ad a), .second] else [.val (bd_cv ad a)]) ++ lg_sl (As.map (bd_cv ad)) := by
      simp [lg_sl]
    have e2 : bd_sl (a :: As) = if a.category = 2 then some a :: none :: bd_sl As else some a :: bd_sl As := rfl
    rw [e1, e2, bd_cv_cat, List.length_append, ih]
    split
    · show 2 + (bd_sl As).length = (bd_sl As).length + 1 + 1
      omega
    · show 1 + (bd_sl As).length = (bd_sl As).length + 1
      omega
theorem bd_entry {ad : Nat → Nat} {N n : Nat} {As : List Value} (hw : ∀ v ∈ As, bd_vw N v) (hn : (bd_sl As).length ≤ n) : bd_Lr ad N (bd_loc n As) ((lg_sl (As.map (bd_cv ad)) ++ List.replicate (n - (lg_sl (As.map (bd_cv ad))).length) Slot.unset).toArray) := by
  have h1 := lv_entry (As.map (bd_cv ad)) (n := n) (by rw [bd_sl_len]; exact hn)
  have hlen : (bd_loc n As).length = n := by
    unfold bd_loc
    rw [List.length_append, List.length_replicate]
    omega
  refine ⟨by rw [hlen]; exact h1.1, h1.2.1, fun k v hk => ?_⟩
  have hk' : bd_ld (bd_sl As) k = some v := by
    unfold bd_loc bd_ld at hk
    unfold bd_ld
    rcases Nat.lt_or_ge k (bd_sl As).length with q | q
    · rw [List.getElem?_append_left q] at hk
      exact hk
    · rw [List.getElem?_append_right q, List.getElem?_replicate] at hk
      split at hk <;> cases hk
  obtain ⟨g1, g2⟩ := bd_ent_loc ad N As 0 hw k v hk'
  rw [Nat.zero_add] at g1
  exact ⟨h1.2.2 _ g1, g2⟩
