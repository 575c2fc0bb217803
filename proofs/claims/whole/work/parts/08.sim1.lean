/-! One instruction of the abstract machine is one of the Statement's: no heap is written here. -/
section SIM1
variable {p : Program} {l : Launch} {e : Env} {R : Room} {s : State} {m : MethodId} {args : Array Value} {below : List Frame} {meth : Method} {c : Code} {H : Heap} {locs : List Loc} {cells slots : Nat} {Q : State → Prop}
variable {xs : Nat → Int32} {n0 mi : Nat} {D : va_G} {A : Nat → Prop} {sad ad ca : Nat → Nat} {h h1 : Hp} {ls : Array Slot} {L L1 : Lc} {st st1 : List Value} {pc pc1 pc2 : Nat} {off : Int}
/-- how it goes on -/
def bd_K (p : Program) (l : Launch) (e : Env) (R : Room) (s : State) (m : MethodId) (args : Array Value) (below : List Frame) (meth : Method) (c : Code) (cells slots : Nat) (Q : State → Prop) (xs : Nat → Int32) (n0 : Nat) (D : va_G) (A : Nat → Prop) (sad ad ca : Nat → Nat) (h h1 : Hp) (L1 : Lc) (st1 : List Value) (pc1 : Nat) : Prop :=
  ∀ (ad' ca' : Nat → Nat) (H' : Heap) (locs' : List Loc) (ls' : Array Slot), bd_Rel xs n0 D A s sad ad' ca' h1 H' locs' → bd_Lr ad' (hN h1) L1 ls' → bd_Sw (hN h1) st1 → (∀ a, a < hN h → ad' a = ad a ∧ ca' a = ca a) → W p l e R s m args below meth c H' locs' (cells + (hC h1 - hC h)) (slots + (hS h1 - hS h)) Q (F0 m pc1 ls' (st1.map (bd_cv ad')))
theorem bd_K.same (K : bd_K p l e R s m args below meth c cells slots Q xs n0 D A sad ad ca h h L1 st1 pc1) (hR : bd_Rel xs n0 D A s sad ad ca h H locs) (hl : bd_Lr ad (hN h) L1 ls) (hst : bd_Sw (hN h) st1) : W p l e R s m args below meth c H locs cells slots Q (F0 m pc1 ls (st1.map (bd_cv ad))) :=
  W.cs (by omega) (by omega) (K ad ca H locs ls hR hl hst (fun a _ => ⟨rfl, rfl⟩))
theorem zs_loadI {k : Nat} (hs : bd_loadI pc2 L k st h = some (pc1, L1, st1, h1)) (hR : bd_Rel xs n0 D A s sad ad ca h H locs) (hl : bd_Lr ad (hN h) L ls) (hst : bd_Sw (hN h) st) (K : bd_K p l e R s m args below meth c cells slots Q xs n0 D A sad ad ca h h1 L1 st1 pc1)
    (row : ∀ (x : Int32) (rest : List Value), ls[k]? = some (.val (.int x)) → W p l e R s m args below meth c H locs cells slots Q (F0 m pc2 ls (.int x :: rest)) → W p l e R s m args below meth c H locs cells slots Q (F0 m pc ls rest)) : W p l e R s m args below meth c H locs cells slots Q (F0 m pc ls (st.map (bd_cv ad))) := by
  unfold bd_loadI at hs
  split at hs
  · rename_i x hx
    cases hs
    exact row x _ (hl.2.2 k _ hx).1 (K.same hR hl (hst.cons trivial))
  · cases hs
theorem zs_loadL {k : Nat} (hs : bd_loadL pc2 L k st h = some (pc1, L1, st1, h1)) (hR : bd_Rel xs n0 D A s sad ad ca h H locs) (hl : bd_Lr ad (hN h) L ls) (hst : bd_Sw (hN h) st) (K : bd_K p l e R s m args below meth c cells slots Q xs n0 D A sad ad ca h h1 L1 st1 pc1)
    (row : ∀ (x : Int64) (rest : List Value), ls[k]? = some (.val (.long x)) → W p l e R s m args below meth c H locs cells slots Q (F0 m pc2 ls (.long x :: rest)) → W p l e R s m args below meth c H locs cells slots Q (F0 m pc ls rest)) : W p l e R s m args below meth c H locs cells slots Q (F0 m pc ls (st.map (bd_cv ad))) := by
  unfold bd_loadL at hs
  split at hs
  · rename_i x hx
    cases hs
    exact row x _ (hl.2.2 k _ hx).1 (K.same hR hl (hst.cons trivial))
  · cases hs
theorem zs_loadA {k : Nat} (hs : bd_loadA pc2 L k st h = some (pc1, L1, st1, h1)) (hR : bd_Rel xs n0 D A s sad ad ca h H locs) (hl : bd_Lr ad (hN h) L ls) (hst : bd_Sw (hN h) st) (K : bd_K p l e R s m args below meth c cells slots Q xs n0 D A sad ad ca h h1 L1 st1 pc1)
    (row : ∀ (x : Nat) (rest : List Value), ls[k]? = some (.val (.ref x)) → W p l e R s m args below meth c H locs cells slots Q (F0 m pc2 ls (.ref x :: rest)) → W p l e R s m args below meth c H locs cells slots Q (F0 m pc ls rest))
    (rowN : ∀ (rest : List Value), ls[k]? = some (.val .null) → W p l e R s m args below meth c H locs cells slots Q (F0 m pc2 ls (.null :: rest)) → W p l e R s m args below meth c H locs cells slots Q (F0 m pc ls rest)) : W p l e R s m args below meth c H locs cells slots Q (F0 m pc ls (st.map (bd_cv ad))) := by
  unfold bd_loadA at hs
  split at hs
  · rename_i x hx
    cases hs
    exact row (ad x) _ (hl.2.2 k _ hx).1 (K.same hR hl (hst.cons (hl.2.2 k _ hx).2))
  · rename_i hx
    cases hs
    exact rowN _ (hl.2.2 k _ hx).1 (K.same hR hl (hst.cons trivial))
  · cases hs
theorem zs_stI {k : Nat} (hs : bd_stI pc2 L k st h = some (pc1, L1, st1, h1)) (hR : bd_Rel xs n0 D A s sad ad ca h H locs) (hl : bd_Lr ad (hN h) L ls) (hst : bd_Sw (hN h) st) (K : bd_K p l e R s m args below meth c cells slots Q xs n0 D A sad ad ca h h1 L1 st1 pc1)
    (row : ∀ (x : Int32) (rest : List Value) (nL : Nat) (lv : List (Nat × Value)), lv_has ls nL lv → k < nL → (∀ ls' : Array Slot, lv_has ls' nL ((k, Value.int x) :: lv.filter (fun q => !(q.1 == k) && !(q.1 + 1 == k && q.2.category == 2))) → W p l e R s m args below meth c H locs cells slots Q (F0 m pc2 ls' rest)) → W p l e R s m args below meth c H locs cells slots Q (F0 m pc ls (.int x :: rest))) : W p l e R s m args below meth c H locs cells slots Q (F0 m pc ls (st.map (bd_cv ad))) := by
  unfold bd_stI at hs
  split at hs
  · rename_i x r
    split at hs
    · rename_i hk
      cases hs
      exact row x _ _ _ hl.has hk (fun ls' hh => K.same hR (bd_Lr.st1 (v := .int x) hl.wf trivial hh) hst.tl)
    · cases hs
  · cases hs
theorem zs_stL {k : Nat} (hs : bd_stL pc2 L k st h = some (pc1, L1, st1, h1)) (hR : bd_Rel xs n0 D A s sad ad ca h H locs) (hl : bd_Lr ad (hN h) L ls) (hst : bd_Sw (hN h) st) (K : bd_K p l e R s m args below meth c cells slots Q xs n0 D A sad ad ca h h1 L1 st1 pc1)
    (row : ∀ (x : Int64) (rest : List Value) (nL : Nat) (lv : List (Nat × Value)), lv_has ls nL lv → k + 1 < nL → (∀ ls' : Array Slot, lv_has ls' nL ((k, Value.long x) :: lv.filter (fun q => !(q.1 == k) && (!(q.1 == k + 1) && !(q.1 + 1 == k && q.2.category == 2)))) → W p l e R s m args below meth c H locs cells slots Q (F0 m pc2 ls' rest)) → W p l e R s m args below meth c H locs cells slots Q (F0 m pc ls (.long x :: rest))) : W p l e R s m args below meth c H locs cells slots Q (F0 m pc ls (st.map (bd_cv ad))) := by
  unfold bd_stL at hs
  split at hs
  · rename_i x r
    split at hs
    · rename_i hk
      cases hs
      exact row x _ _ _ hl.has hk (fun ls' hh => K.same hR (bd_Lr.st2 (v := .long x) hl.wf trivial hh) hst.tl)
    · cases hs
  · cases hs
theorem zs_stA {k : Nat} (hs : bd_stA pc2 L k st h = some (pc1, L1, st1, h1)) (hR : bd_Rel xs n0 D A s sad ad ca h H locs) (hl : bd_Lr ad (hN h) L ls) (hst : bd_Sw (hN h) st) (K : bd_K p l e R s m args below meth c cells slots Q xs n0 D A sad ad ca h h1 L1 st1 pc1)
    (row : ∀ (x : Nat) (rest : List Value) (nL : Nat) (lv : List (Nat × Value)), lv_has ls nL lv → k < nL → (∀ ls' : Array Slot, lv_has ls' nL ((k, Value.ref x) :: lv.filter (fun q => !(q.1 == k) && !(q.1 + 1 == k && q.2.category == 2))) → W p l e R s m args below meth c H locs cells slots Q (F0 m pc2 ls' rest)) → W p l e R s m args below meth c H locs cells slots Q (F0 m pc ls (.ref x :: rest)))
    (rowN : ∀ (rest : List Value) (nL : Nat) (lv : List (Nat × Value)), lv_has ls nL lv → k < nL → (∀ ls' : Array Slot, lv_has ls' nL ((k, Value.null) :: lv.filter (fun q => !(q.1 == k) && !(q.1 + 1 == k && q.2.category == 2))) → W p l e R s m args below meth c H locs cells slots Q (F0 m pc2 ls' rest)) → W p l e R s m args below meth c H locs cells slots Q (F0 m pc ls (.null :: rest))) : W p l e R s m args below meth c H locs cells slots Q (F0 m pc ls (st.map (bd_cv ad))) := by
  unfold bd_stA at hs
  split at hs
  · rename_i x r
    split at hs
    · rename_i hk
      cases hs
      exact row (ad x) _ _ _ hl.has hk (fun ls' hh => K.same hR (bd_Lr.st1 (v := .ref x) hl.wf hst.hd hh) hst.tl)
    · cases hs
  · rename_i r
    split at hs
    · rename_i hk
      cases hs
      exact rowN _ _ _ hl.has hk (fun ls' hh => K.same hR (bd_Lr.st1 (v := .null) hl.wf trivial hh) hst.tl)
    · cases hs
  · cases hs
theorem zs_inc {k : Nat} {n : Int} (hs : bd_inc pc2 L k n st h = some (pc1, L1, st1, h1)) (hR : bd_Rel xs n0 D A s sad ad ca h H locs) (hl : bd_Lr ad (hN h) L ls) (hst : bd_Sw (hN h) st) (K : bd_K p l e R s m args below meth c cells slots Q xs n0 D A sad ad ca h h1 L1 st1 pc1)
    (row : ∀ (x : Int32) (rest : List Value) (nL j : Nat) (lv : List (Nat × Value)), lv_has ls nL lv → lv[j]? = some (k, .int x) → k < nL → (∀ ls' : Array Slot, lv_has ls' nL ((k, Value.int (x + Int32.ofInt n)) :: lv.filter (fun q => !(q.1 == k) && !(q.1 + 1 == k && q.2.category == 2))) → W p l e R s m args below meth c H locs cells slots Q (F0 m pc2 ls' rest)) → W p l e R s m args below meth c H locs cells slots Q (F0 m pc ls rest)) : W p l e R s m args below meth c H locs cells slots Q (F0 m pc ls (st.map (bd_cv ad))) := by
  unfold bd_inc at hs
  split at hs
  · rename_i x hx
    split at hs
    · rename_i hk
      cases hs
      obtain ⟨j, hj⟩ := List.getElem?_of_mem (bd_lv_mem.mpr ⟨.int x, hx, rfl⟩ : ((k, .int x) : Nat × Value) ∈ bd_lv ad L)
      exact row x _ _ j _ hl.has hj hk (fun ls' hh => K.same hR (bd_Lr.st1 (v := .int (x + Int32.ofInt n)) hl.wf trivial hh) hst)
    · cases hs
  · cases hs
theorem zs_II {f : Int32 → Int32 → Int32} (hs : bd_II f pc2 L st h = some (pc1, L1, st1, h1)) (hR : bd_Rel xs n0 D A s sad ad ca h H locs) (hl : bd_Lr ad (hN h) L ls) (hst : bd_Sw (hN h) st) (K : bd_K p l e R s m args below meth c cells slots Q xs n0 D A sad ad ca h h1 L1 st1 pc1)
    (row : ∀ (x y : Int32) (rest : List Value), W p l e R s m args below meth c H locs cells slots Q (F0 m pc2 ls (.int (f x y) :: rest)) → W p l e R s m args below meth c H locs cells slots Q (F0 m pc ls (.int y :: .int x :: rest))) : W p l e R s m args below meth c H locs cells slots Q (F0 m pc ls (st.map (bd_cv ad))) := by
  unfold bd_II at hs
  split at hs
  · cases hs
    exact row _ _ _ (K.same hR hl (hst.tl.tl.cons trivial))
  · cases hs
theorem zs_IId {f : Int32 → Int32 → Int32} (hs : bd_IId f pc2 L st h = some (pc1, L1, st1, h1)) (hR : bd_Rel xs n0 D A s sad ad ca h H locs) (hl : bd_Lr ad (hN h) L ls) (hst : bd_Sw (hN h) st) (K : bd_K p l e R s m args below meth c cells slots Q xs n0 D A sad ad ca h h1 L1 st1 pc1)
    (row : ∀ (x y : Int32) (rest : List Value), ¬ y = 0 → W p l e R s m args below meth c H locs cells slots Q (F0 m pc2 ls (.int (f x y) :: rest)) → W p l e R s m args below meth c H locs cells slots Q (F0 m pc ls (.int y :: .int x :: rest))) : W p l e R s m args below meth c H locs cells slots Q (F0 m pc ls (st.map (bd_cv ad))) := by
  unfold bd_IId at hs
  split at hs
  · split at hs
    · cases hs
    · rename_i hy
      cases hs
      exact row _ _ _ hy (K.same hR hl (hst.tl.tl.cons trivial))
  · cases hs
theorem zs_JJ {f : Int64 → Int64 → Int64} (hs : bd_JJ f pc2 L st h = some (pc1, L1, st1, h1)) (hR : bd_Rel xs n0 D A s sad ad ca h H locs) (hl : bd_Lr ad (hN h) L ls) (hst : bd_Sw (hN h) st) (K : bd_K p l e R s m args below meth c cells slots Q xs n0 D A sad ad ca h h1 L1 st1 pc1)
    (row : ∀ (x y : Int64) (rest : List Value), W p l e R s m args below meth c H locs cells slots Q (F0 m pc2 ls (.long (f x y) :: rest)) → W p l e R s m args below meth c H locs cells slots Q (F0 m pc ls (.long y :: .long x :: rest))) : W p l e R s m args below meth c H locs cells slots Q (F0 m pc ls (st.map (bd_cv ad))) := by
  unfold bd_JJ at hs
  split at hs
  · cases hs
    exact row _ _ _ (K.same hR hl (hst.tl.tl.cons trivial))
  · cases hs
theorem zs_JI {f : Int64 → Int32 → Int64} (hs : bd_JI f pc2 L st h = some (pc1, L1, st1, h1)) (hR : bd_Rel xs n0 D A s sad ad ca h H locs) (hl : bd_Lr ad (hN h) L ls) (hst : bd_Sw (hN h) st) (K : bd_K p l e R s m args below meth c cells slots Q xs n0 D A sad ad ca h h1 L1 st1 pc1)
    (row : ∀ (x : Int64) (y : Int32) (rest : List Value), W p l e R s m args below meth c H locs cells slots Q (F0 m pc2 ls (.long (f x y) :: rest)) → W p l e R s m args below meth c H locs cells slots Q (F0 m pc ls (.int y :: .long x :: rest))) : W p l e R s m args below meth c H locs cells slots Q (F0 m pc ls (st.map (bd_cv ad))) := by
  unfold bd_JI at hs
  split at hs
  · cases hs
    exact row _ _ _ (K.same hR hl (hst.tl.tl.cons trivial))
  · cases hs
theorem zs_lcmp (hs : bd_lcmp pc2 L st h = some (pc1, L1, st1, h1)) (hR : bd_Rel xs n0 D A s sad ad ca h H locs) (hl : bd_Lr ad (hN h) L ls) (hst : bd_Sw (hN h) st) (K : bd_K p l e R s m args below meth c cells slots Q xs n0 D A sad ad ca h h1 L1 st1 pc1)
    (row : ∀ (x y : Int64) (rest : List Value), W p l e R s m args below meth c H locs cells slots Q (F0 m pc2 ls (.int (lg_cmp x y) :: rest)) → W p l e R s m args below meth c H locs cells slots Q (F0 m pc ls (.long y :: .long x :: rest))) : W p l e R s m args below meth c H locs cells slots Q (F0 m pc ls (st.map (bd_cv ad))) := by
  unfold bd_lcmp at hs
  split at hs
  · cases hs
    exact row _ _ _ (K.same hR hl (hst.tl.tl.cons trivial))
  · cases hs
theorem zs_i2l (hs : bd_i2l pc2 L st h = some (pc1, L1, st1, h1)) (hR : bd_Rel xs n0 D A s sad ad ca h H locs) (hl : bd_Lr ad (hN h) L ls) (hst : bd_Sw (hN h) st) (K : bd_K p l e R s m args below meth c cells slots Q xs n0 D A sad ad ca h h1 L1 st1 pc1)
    (row : ∀ (x : Int32) (rest : List Value), W p l e R s m args below meth c H locs cells slots Q (F0 m pc2 ls (.long x.toInt64 :: rest)) → W p l e R s m args below meth c H locs cells slots Q (F0 m pc ls (.int x :: rest))) : W p l e R s m args below meth c H locs cells slots Q (F0 m pc ls (st.map (bd_cv ad))) := by
  unfold bd_i2l at hs
  split at hs
  · cases hs
    exact row _ _ (K.same hR hl (hst.tl.cons trivial))
  · cases hs
theorem zs_l2i (hs : bd_l2i pc2 L st h = some (pc1, L1, st1, h1)) (hR : bd_Rel xs n0 D A s sad ad ca h H locs) (hl : bd_Lr ad (hN h) L ls) (hst : bd_Sw (hN h) st) (K : bd_K p l e R s m args below meth c cells slots Q xs n0 D A sad ad ca h h1 L1 st1 pc1)
    (row : ∀ (x : Int64) (rest : List Value), W p l e R s m args below meth c H locs cells slots Q (F0 m pc2 ls (.int x.toInt32 :: rest)) → W p l e R s m args below meth c H locs cells slots Q (F0 m pc ls (.long x :: rest))) : W p l e R s m args below meth c H locs cells slots Q (F0 m pc ls (st.map (bd_cv ad))) := by
  unfold bd_l2i at hs
  split at hs
  · cases hs
    exact row _ _ (K.same hR hl (hst.tl.cons trivial))
  · cases hs
theorem zs_dup (hs : bd_dup pc2 L st h = some (pc1, L1, st1, h1)) (hR : bd_Rel xs n0 D A s sad ad ca h H locs) (hl : bd_Lr ad (hN h) L ls) (hst : bd_Sw (hN h) st) (K : bd_K p l e R s m args below meth c cells slots Q xs n0 D A sad ad ca h h1 L1 st1 pc1)
    (row : ∀ (v : Value) (rest : List Value), v.category = 1 → W p l e R s m args below meth c H locs cells slots Q (F0 m pc2 ls (v :: v :: rest)) → W p l e R s m args below meth c H locs cells slots Q (F0 m pc ls (v :: rest))) : W p l e R s m args below meth c H locs cells slots Q (F0 m pc ls (st.map (bd_cv ad))) := by
  unfold bd_dup at hs
  split at hs
  · split at hs
    · rename_i hv
      cases hs
      exact row _ _ (by rw [bd_cv_cat]; exact hv) (K.same hR hl (hst.cons hst.hd))
    · cases hs
  · cases hs
theorem zs_pop (hs : bd_pop pc2 L st h = some (pc1, L1, st1, h1)) (hR : bd_Rel xs n0 D A s sad ad ca h H locs) (hl : bd_Lr ad (hN h) L ls) (hst : bd_Sw (hN h) st) (K : bd_K p l e R s m args below meth c cells slots Q xs n0 D A sad ad ca h h1 L1 st1 pc1)
    (row : ∀ (v : Value) (rest : List Value), v.category = 1 → W p l e R s m args below meth c H locs cells slots Q (F0 m pc2 ls rest) → W p l e R s m args below meth c H locs cells slots Q (F0 m pc ls (v :: rest))) : W p l e R s m args below meth c H locs cells slots Q (F0 m pc ls (st.map (bd_cv ad))) := by
  unfold bd_pop at hs
  split at hs
  · split at hs
    · rename_i hv
      cases hs
      exact row _ _ (by rw [bd_cv_cat]; exact hv) (K.same hR hl hst.tl)
    · cases hs
  · cases hs
theorem zs_dup2 (hs : bd_dup2 pc2 L st h = some (pc1, L1, st1, h1)) (hR : bd_Rel xs n0 D A s sad ad ca h H locs) (hl : bd_Lr ad (hN h) L ls) (hst : bd_Sw (hN h) st) (K : bd_K p l e R s m args below meth c cells slots Q xs n0 D A sad ad ca h h1 L1 st1 pc1)
    (row : ∀ (v w : Value) (rest : List Value), v.category = 1 → w.category = 1 → W p l e R s m args below meth c H locs cells slots Q (F0 m pc2 ls (v :: w :: v :: w :: rest)) → W p l e R s m args below meth c H locs cells slots Q (F0 m pc ls (v :: w :: rest))) : W p l e R s m args below meth c H locs cells slots Q (F0 m pc ls (st.map (bd_cv ad))) := by
  unfold bd_dup2 at hs
  split at hs
  · split at hs
    · rename_i hv
      cases hs
      exact row _ _ _ (by rw [bd_cv_cat]; exact hv.1) (by rw [bd_cv_cat]; exact hv.2) (K.same hR hl ((hst.cons hst.tl.hd).cons hst.hd))
    · cases hs
  · cases hs
theorem zs_if {pb : Int32 → Bool} {P : Int32 → Prop} (hP : ∀ x, pb x = true ↔ P x) (hs : bd_if pb pc off L st h = some (pc1, L1, st1, h1)) (hR : bd_Rel xs n0 D A s sad ad ca h H locs) (hl : bd_Lr ad (hN h) L ls) (hst : bd_Sw (hN h) st) (K : bd_K p l e R s m args below meth c cells slots Q xs n0 D A sad ad ca h h1 L1 st1 pc1)
    (row : ∀ (x : Int32) (rest : List Value) (tgt : Nat), (pc : Int) + off = (tgt : Int) → (P x → W p l e R s m args below meth c H locs cells slots Q (F0 m tgt ls rest)) → (¬ P x → W p l e R s m args below meth c H locs cells slots Q (F0 m (pc + 3) ls rest)) → W p l e R s m args below meth c H locs cells slots Q (F0 m pc ls (.int x :: rest))) : W p l e R s m args below meth c H locs cells slots Q (F0 m pc ls (st.map (bd_cv ad))) := by
  unfold bd_if at hs
  split at hs
  · split at hs
    · rename_i t ht
      split at hs
      · rename_i hx
        cases hs
        exact row _ _ _ (bd_tg_spec ht) (fun _ => K.same hR hl hst.tl) (fun hn => absurd ((hP _).mp hx) hn)
      · rename_i hx
        cases hs
        exact row _ _ _ (bd_tg_spec ht) (fun hy => absurd ((hP _).mpr hy) hx) (fun _ => K.same hR hl hst.tl)
    · cases hs
  · cases hs
theorem zs_icmp {pb : Int32 → Int32 → Bool} {P : Int32 → Int32 → Prop} (hP : ∀ x y, pb x y = true ↔ P x y) (hs : bd_icmp pb pc off L st h = some (pc1, L1, st1, h1)) (hR : bd_Rel xs n0 D A s sad ad ca h H locs) (hl : bd_Lr ad (hN h) L ls) (hst : bd_Sw (hN h) st) (K : bd_K p l e R s m args below meth c cells slots Q xs n0 D A sad ad ca h h1 L1 st1 pc1)
    (row : ∀ (x y : Int32) (rest : List Value) (tgt : Nat), (pc : Int) + off = (tgt : Int) → (P x y → W p l e R s m args below meth c H locs cells slots Q (F0 m tgt ls rest)) → (¬ P x y → W p l e R s m args below meth c H locs cells slots Q (F0 m (pc + 3) ls rest)) → W p l e R s m args below meth c H locs cells slots Q (F0 m pc ls (.int y :: .int x :: rest))) : W p l e R s m args below meth c H locs cells slots Q (F0 m pc ls (st.map (bd_cv ad))) := by
  unfold bd_icmp at hs
  split at hs
  · split at hs
    · rename_i t ht
      split at hs
      · rename_i hx
        cases hs
        exact row _ _ _ _ (bd_tg_spec ht) (fun _ => K.same hR hl hst.tl.tl) (fun hn => absurd ((hP _ _).mp hx) hn)
      · rename_i hx
        cases hs
        exact row _ _ _ _ (bd_tg_spec ht) (fun hy => absurd ((hP _ _).mpr hy) hx) (fun _ => K.same hR hl hst.tl.tl)
    · cases hs
  · cases hs
theorem bd_rv_cv {v : Value} {q : Option Nat} (hq : bd_rv v = some q) (ad : Nat → Nat) : bd_cv ad v = va_rf (q.map ad) := by
  cases v <;> simp only [bd_rv] at hq <;> cases hq <;> rfl
theorem bd_ad_inj (hR : bd_Rel xs n0 D A s sad ad ca h H locs) (hST : bd_ST xs n0 sad A s s.heap) {a b : Nat} (ha : a < hN h) (hb : b < hN h) (e1 : ad a = ad b) (hab : 30 ≤ a) : a = b := by
  obtain ⟨hP, hD, hS, -, hw, -, hs⟩ := hR
  rcases Nat.lt_or_ge b 30 with q | q
  · exfalso
    have h1 : A (ad a) := hD.2 _ _ (bd_ws_get hab ha)
    rw [e1, hs b q] at h1
    obtain ⟨z1, z2, z3, z4, z5, z6, z7, z8, z9, -, -⟩ := hST
    rcases (show b < 26 ∨ b = 26 ∨ b = 27 ∨ b = 28 ∨ b = 29 by omega) with r | r | r | r | r
    · obtain ⟨_, _, _, _, _, _, _, _, _, _, h8⟩ := z2 b r
      exact h8 h1
    · subst r; obtain ⟨_, _, _, _, _, _, _, h8⟩ := z4; exact h8 h1
    · subst r; obtain ⟨_, _, _, _, _, _, _, h8⟩ := z6; exact h8 h1
    · subst r; obtain ⟨_, _, _, _, _, _, _, h8⟩ := z8; exact h8 h1
    · subst r; obtain ⟨_, _, _, _, _, _, _, h8⟩ := z9; exact h8 h1
  · have h1 := hD.1 _ _ _ _ (bd_ws_get (ad := ad) (ca := ca) hab ha) (bd_ws_get q hb) e1
    omega
theorem bd_rd_cv {v : Value} {q : Option Nat} (hq : bd_rd v = some q) (ad : Nat → Nat) : bd_cv ad v = va_rf (q.map ad) ∧ ∀ a, q = some a → v = .ref a ∧ 30 ≤ a := by
  cases v <;> simp only [bd_rd] at hq <;> first | (cases hq; done) | (cases hq; exact ⟨rfl, fun a h => by cases h⟩) | skip
  split at hq
  · rename_i h30
    cases hq
    exact ⟨rfl, fun a h => by cases h; exact ⟨rfl, h30⟩⟩
  · cases hq
theorem zs_acmp {eq : Bool} (hST : bd_ST xs n0 sad A s s.heap) (hs : bd_acmp eq pc off L st h = some (pc1, L1, st1, h1)) (hR : bd_Rel xs n0 D A s sad ad ca h H locs) (hl : bd_Lr ad (hN h) L ls) (hst : bd_Sw (hN h) st) (K : bd_K p l e R s m args below meth c cells slots Q xs n0 D A sad ad ca h h1 L1 st1 pc1)
    (row : ∀ (rx ry : Option Nat) (rest : List Value) (tgt : Nat), (pc : Int) + off = (tgt : Int) → (decide (rx = ry) = eq → W p l e R s m args below meth c H locs cells slots Q (F0 m tgt ls rest)) → (¬ decide (rx = ry) = eq → W p l e R s m args below meth c H locs cells slots Q (F0 m (pc + 3) ls rest)) → W p l e R s m args below meth c H locs cells slots Q (F0 m pc ls (va_rf ry :: va_rf rx :: rest))) : W p l e R s m args below meth c H locs cells slots Q (F0 m pc ls (st.map (bd_cv ad))) := by
  unfold bd_acmp at hs
  split at hs
  · rename_i y x r
    split at hs
    · rename_i qx qy t hx hy ht
      obtain ⟨cx, dx⟩ := bd_rd_cv hx ad
      obtain ⟨cy, dy⟩ := bd_rd_cv hy ad
      have hd : decide (qx.map ad = qy.map ad) = decide (qx = qy) := by
        apply decide_eq_decide.mpr
        constructor
        · intro e1
          cases qx with
          | none => cases qy with
            | none => rfl
            | some b => cases e1
          | some a => cases qy with
            | none => cases e1
            | some b =>
              obtain ⟨e2, h2⟩ := dx a rfl
              obtain ⟨e3, h3⟩ := dy b rfl
              subst e2; subst e3
              have ha : a < hN h := hst.tl.hd
              have hb : b < hN h := hst.hd
              rw [bd_ad_inj hR hST ha hb (Option.some.inj e1) h2]
        · intro e1
          rw [e1]
      show W p l e R s m args below meth c H locs cells slots Q (F0 m pc ls (bd_cv ad y :: bd_cv ad x :: r.map (bd_cv ad)))
      rw [cx, cy]
      split at hs
      · rename_i he
        cases hs
        exact row _ _ _ _ (bd_tg_spec ht) (fun _ => K.same hR hl hst.tl.tl) (fun hn => absurd (hd.trans he) hn)
      · rename_i he
        cases hs
        exact row _ _ _ _ (bd_tg_spec ht) (fun hy => absurd (hd.symm.trans hy) he) (fun _ => K.same hR hl hst.tl.tl)
    · cases hs
  · cases hs
theorem zs_ifn {nul : Bool} (hs : bd_ifn nul pc off L st h = some (pc1, L1, st1, h1)) (hR : bd_Rel xs n0 D A s sad ad ca h H locs) (hl : bd_Lr ad (hN h) L ls) (hst : bd_Sw (hN h) st) (K : bd_K p l e R s m args below meth c cells slots Q xs n0 D A sad ad ca h h1 L1 st1 pc1)
    (row : ∀ (x : Nat) (rest : List Value) (tgt : Nat), (pc : Int) + off = (tgt : Int) → (false = nul → W p l e R s m args below meth c H locs cells slots Q (F0 m tgt ls rest)) → (true = nul → W p l e R s m args below meth c H locs cells slots Q (F0 m (pc + 3) ls rest)) → W p l e R s m args below meth c H locs cells slots Q (F0 m pc ls (.ref x :: rest)))
    (rowN : ∀ (rest : List Value) (tgt : Nat), (pc : Int) + off = (tgt : Int) → (true = nul → W p l e R s m args below meth c H locs cells slots Q (F0 m tgt ls rest)) → (false = nul → W p l e R s m args below meth c H locs cells slots Q (F0 m (pc + 3) ls rest)) → W p l e R s m args below meth c H locs cells slots Q (F0 m pc ls (.null :: rest))) : W p l e R s m args below meth c H locs cells slots Q (F0 m pc ls (st.map (bd_cv ad))) := by
  unfold bd_ifn at hs
  split at hs
  · rename_i x r
    split at hs
    · rename_i qx t hx ht
      show W p l e R s m args below meth c H locs cells slots Q (F0 m pc ls (bd_cv ad x :: r.map (bd_cv ad)))
      rw [bd_rv_cv hx ad]
      cases qx with
      | none =>
        split at hs
        · rename_i he
          cases hs
          exact rowN _ _ (bd_tg_spec ht) (fun _ => K.same hR hl hst.tl) (fun e1 => by rw [← e1] at he; cases he)
        · rename_i he
          cases hs
          exact rowN _ _ (bd_tg_spec ht) (fun e1 => absurd e1 he) (fun _ => K.same hR hl hst.tl)
      | some a =>
        split at hs
        · rename_i he
          cases hs
          exact row _ _ _ (bd_tg_spec ht) (fun _ => K.same hR hl hst.tl) (fun e1 => by rw [← e1] at he; cases he)
        · rename_i he
          cases hs
          exact row _ _ _ (bd_tg_spec ht) (fun e1 => absurd e1 he) (fun _ => K.same hR hl hst.tl)
    · cases hs
  · cases hs
theorem zs_table {dflt lo hi : Int} {offs : Array Int} (hs : bd_table pc dflt lo hi offs L st h = some (pc1, L1, st1, h1)) (hR : bd_Rel xs n0 D A s sad ad ca h H locs) (hl : bd_Lr ad (hN h) L ls) (hst : bd_Sw (hN h) st) (K : bd_K p l e R s m args below meth c cells slots Q xs n0 D A sad ad ca h h1 L1 st1 pc1)
    (rowO : ∀ (x : Int32) (rest : List Value) (tgt : Nat), (x.toInt < lo ∨ hi < x.toInt) → (pc : Int) + dflt = (tgt : Int) → W p l e R s m args below meth c H locs cells slots Q (F0 m tgt ls rest) → W p l e R s m args below meth c H locs cells slots Q (F0 m pc ls (.int x :: rest)))
    (rowI : ∀ (x : Int32) (rest : List Value) (o : Int) (tgt : Nat), ¬ x.toInt < lo → ¬ hi < x.toInt → offs[(x.toInt - lo).toNat]? = some o → (pc : Int) + o = (tgt : Int) → W p l e R s m args below meth c H locs cells slots Q (F0 m tgt ls rest) → W p l e R s m args below meth c H locs cells slots Q (F0 m pc ls (.int x :: rest))) : W p l e R s m args below meth c H locs cells slots Q (F0 m pc ls (st.map (bd_cv ad))) := by
  unfold bd_table at hs
  split at hs
  · rename_i x r
    split at hs
    · rename_i hx
      obtain ⟨t, ht, e1⟩ := Option.map_eq_some_iff.mp hs
      cases e1
      exact rowO _ _ _ hx (bd_tg_spec ht) (K.same hR hl hst.tl)
    · rename_i hx
      split at hs
      · rename_i o ho
        obtain ⟨t, ht, e1⟩ := Option.map_eq_some_iff.mp hs
        cases e1
        exact rowI _ _ o _ (fun q => hx (Or.inl q)) (fun q => hx (Or.inr q)) ho (bd_tg_spec ht) (K.same hR hl hst.tl)
      · cases hs
  · cases hs
theorem zs_look {dflt : Int} {ps : Array (Int × Int)} (hs : bd_look pc dflt ps L st h = some (pc1, L1, st1, h1)) (hR : bd_Rel xs n0 D A s sad ad ca h H locs) (hl : bd_Lr ad (hN h) L ls) (hst : bd_Sw (hN h) st) (K : bd_K p l e R s m args below meth c cells slots Q xs n0 D A sad ad ca h h1 L1 st1 pc1)
    (row : ∀ (x : Int32) (rest : List Value) (tgt : Nat), (pc : Int) + Op.lookupswitch.offset ps.toList dflt x.toInt = (tgt : Int) → W p l e R s m args below meth c H locs cells slots Q (F0 m tgt ls rest) → W p l e R s m args below meth c H locs cells slots Q (F0 m pc ls (.int x :: rest))) : W p l e R s m args below meth c H locs cells slots Q (F0 m pc ls (st.map (bd_cv ad))) := by
  unfold bd_look at hs
  split at hs
  · obtain ⟨t, ht, e1⟩ := Option.map_eq_some_iff.mp hs
    cases e1
    exact row _ _ _ (bd_tg_spec ht) (K.same hR hl hst.tl)
  · cases hs
end SIM1
