/-! One instruction that reads or writes the heap, or makes a cell. -/
theorem up2_ne {α : Type} {f : Nat → Nat → α} {a k b : Nat} {v : α} (hb : b ≠ a) : up2 f a k v b = f b := by
  funext j
  simp [up2, hb]
theorem up2_at {α : Type} (f : Nat → Nat → α) (a k : Nat) (v : α) : up2 f a k v a = fun j => if j = k then v else f a j := by
  funext j
  simp [up2]
theorem bd_cell_obj {ad ca : Nat → Nat} {h : Hp} {a : Nat} (hk : hK h a < 12) : bd_cell ad ca h a = .inr (hK h a, bd_fs ad h (hK h a) a) := by unfold bd_cell; rw [if_pos hk]
theorem bd_cell_int {ad ca : Nat → Nat} {h : Hp} {a : Nat} (hk : hK h a = 12 ∨ hK h a = 14) : bd_cell ad ca h a = .inl (ca a, hL h a, .inl (hI h a)) := by
  unfold bd_cell
  rw [if_neg (by omega), if_neg (by omega), if_pos (by omega)]
theorem bd_cell_long {ad ca : Nat → Nat} {h : Hp} {a : Nat} (hk : hK h a = 13) : bd_cell ad ca h a = .inl (ca a, hL h a, .inr (.inl (hJ h a))) := by
  unfold bd_cell
  rw [if_neg (by omega), if_pos hk]
theorem bd_cell_ref {ad ca : Nat → Nat} {h : Hp} {a : Nat} (hk : 15 ≤ hK h a) : bd_cell ad ca h a = .inl (ca a, hL h a, .inr (.inr (.inr (.inr (fun i => (hQ h a i).map ad))))) := by
  unfold bd_cell
  rw [if_neg (by omega), if_neg (by omega), if_neg (by omega)]
/-- a cell depends on its own rows alone -/
theorem bd_cell_eq {ad ca : Nat → Nat} {h h1 : Hp} {b : Nat} (eK : hK h1 b = hK h b) (eL : hL h1 b = hL h b) (eI : hI h1 b = hI h b) (eJ : hJ h1 b = hJ h b) (eQ : hQ h1 b = hQ h b) : bd_cell ad ca h1 b = bd_cell ad ca h b := by
  have e1 : bd_fs ad h1 (hK h b) b = bd_fs ad h (hK h b) b := by
    unfold bd_fs
    apply List.map_congr_left
    intro k _
    unfold bd_sv bd_slot
    rw [eI, eJ, eQ]
  unfold bd_cell
  rw [eK, eL, eI, eJ, eQ, e1]
theorem bd_fs_get {ad : Nat → Nat} {h : Hp} {c a k : Nat} (hk : k < bd_nf c) : (bd_fs ad h c a)[k]? = some (bd_sv ad h c a k) := by
  unfold bd_fs
  rw [List.getElem?_map, List.getElem?_range hk]
  rfl
theorem bd_fs_len {ad : Nat → Nat} {h : Hp} {c a : Nat} : (bd_fs ad h c a).length = bd_nf c := by
  unfold bd_fs
  rw [List.length_map, List.length_range]
theorem bd_fs_set {ad : Nat → Nat} {h h1 : Hp} {c a k : Nat} {v : Value} (hv : bd_sv ad h1 c a k = v) (ho : ∀ j, j ≠ k → bd_sv ad h1 c a j = bd_sv ad h c a j) : (bd_fs ad h c a).set k v = bd_fs ad h1 c a := by
  apply List.ext_getElem?
  intro j
  rw [List.getElem?_set, bd_fs_len]
  by_cases hj : k = j
  · subst hj
    by_cases hk : k < bd_nf c
    · rw [if_pos rfl, if_pos hk, bd_fs_get hk, hv]
    · rw [if_pos rfl, if_neg hk, List.getElem?_eq_none (by rw [bd_fs_len]; omega)]
  · rw [if_neg hj]
    by_cases hk : j < bd_nf c
    · rw [bd_fs_get hk, bd_fs_get hk, ho j (fun q => hj q.symm)]
    · rw [List.getElem?_eq_none (by rw [bd_fs_len]; omega), List.getElem?_eq_none (by rw [bd_fs_len]; omega)]
theorem bd_getD {l : List Nat} {k t : Nat} (d : Nat) (h : l[k]? = some t) : l.getD k d = t := by
  rw [List.getD_eq_getElem?_getD, h]
  rfl
section SIM2
variable {p : Program} {l : Launch} {e : Env} {R : Room} {s : State} {m : MethodId} {args : Array Value} {below : List Frame} {meth : Method} {c : Code} {H : Heap} {locs : List Loc} {cells slots : Nat} {Q : State → Prop}
variable {xs : Nat → Int32} {n0 mi : Nat} {D : va_G} {A : Nat → Prop} {sad ad ca : Nat → Nat} {h h1 : Hp} {ls : Array Slot} {L L1 : Lc} {st st1 : List Value} {pc pc1 pc2 : Nat} {off : Int}
theorem bd_Fix.K1 (F : bd_Fix xs n0 mi D A p s m args meth c sad) (hR : bd_Rel xs n0 D A s sad ad ca h H locs) {a : Nat} (h30 : 30 ≤ a) (ha : a < hN h) (hk : 12 ≤ hK h a) : va_K D clA [(ca a, bd_ty (hK h a))] s := by
  obtain ⟨-, -, -, -, -, -, hK0, -, -, -⟩ := F
  refine ⟨hK0.1, fun k q hq => ?_⟩
  have h1 := hR.2.2.2.1 a h30 ha hk
  match k, hq with
  | 0, hq => cases hq; exact h1
  | k + 1, hq => simp at hq
theorem bd_Rel.lt {a : Nat} (hR : bd_Rel xs n0 D A s sad ad ca h H locs) (hs : bd_vw (hN h) (.ref a)) : a < hN h := hs
theorem bd_kS_cases {a : Nat} (ha : a < 30) : (a < 26 ∧ bd_kS a = 19) ∨ (a = 26 ∧ bd_kS a = 20) ∨ ((a = 27 ∨ a = 28 ∨ a = 29) ∧ bd_kS a = 12) := by
  unfold bd_kS
  rcases Nat.lt_or_ge a 26 with q | q
  · exact Or.inl ⟨q, by rw [if_pos q]⟩
  · rcases Nat.lt_or_ge 26 a with r | r
    · exact Or.inr (Or.inr ⟨by omega, by rw [if_neg (by omega), if_neg (by omega)]⟩)
    · exact Or.inr (Or.inl ⟨by omega, by rw [if_neg (by omega), if_pos (by omega)]⟩)
theorem bd_static {a k : Nat} (hR : bd_Rel xs n0 D A s sad ad ca h H locs) (ha : a < 30) (hk : hK h a = k) : (a < 26 ∧ k = 19) ∨ (a = 26 ∧ k = 20) ∨ ((a = 27 ∨ a = 28 ∨ a = 29) ∧ k = 12) := by
  have h1 := hR.2.2.2.2.2.1.1 a ha
  rw [hk] at h1
  rcases bd_kS_cases ha with ⟨q, r⟩ | ⟨q, r⟩ | ⟨q, r⟩
  · exact Or.inl ⟨q, h1.trans r⟩
  · exact Or.inr (Or.inl ⟨q, h1.trans r⟩)
  · exact Or.inr (Or.inr ⟨q, h1.trans r⟩)
theorem bd_h26 {a : Nat} (hR : bd_Rel xs n0 D A s sad ad ca h H locs) (ha : a < hN h) (hk : hK h a = 19) : a < 26 := by
  rcases Nat.lt_or_ge a 30 with q | q
  · rcases bd_static hR q hk with ⟨r, _⟩ | ⟨_, r⟩ | ⟨_, r⟩
    · exact r
    · omega
    · omega
  · have := hR.2.2.2.2.1.2.1 a q ha
    omega
theorem bd_h30 {a k : Nat} (hR : bd_Rel xs n0 D A s sad ad ca h H locs) (hk : hK h a = k) (hk2 : k < 12) : 30 ≤ a := by
  rcases Nat.lt_or_ge a 30 with q | q
  · rcases bd_static hR q hk with ⟨_, r⟩ | ⟨_, r⟩ | ⟨_, r⟩ <;> omega
  · exact q
theorem zs_getf {ix res : Nat} (F : bd_Fix xs n0 mi D A p s m args meth c sad) (hok : bd_ok mi pc (.getfield ix) res) (hs : bd_getf res (pc + 3) L st h = some (pc1, L1, st1, h1)) (hR : bd_Rel xs n0 D A s sad ad ca h H locs) (hl : bd_Lr ad (hN h) L ls) (hst : bd_Sw (hN h) st) (K : bd_K p l e R s m args below meth c cells slots Q xs n0 D A sad ad ca h h1 L1 st1 pc1) : W p l e R s m args below meth c H locs cells slots Q (F0 m pc ls (st.map (bd_cv ad))) := by
  obtain ⟨hx, hb, hml, hown, htb, hA, hK0, hST, hSW, hin⟩ := id F
  have hd := hok.dec rfl
  obtain ⟨-, pp, hlk⟩ := hok
  unfold bd_getf at hs
  split at hs
  · rename_i a r
    split at hs
    · rename_i hka
      cases hs
      have ha : a < hN h := hst.hd
      have hsw : bd_Sw (hN h) (bd_slot h (res / 2048) a (res % 64) :: r) := by
        refine hst.tl.cons ?_
        unfold bd_slot
        split
        · trivial
        · split
          · exact bd_vw_rf fun b hb => hR.2.2.2.2.1.1 a _ b ha hb
          · trivial
      have K1 := K.same hR hl hsw
      simp only [bd_lk] at hlk
      split at hlk
      · rename_i h19
        simp only [Bool.and_eq_true, beq_iff_eq] at hlk
        obtain ⟨hres, hat⟩ := hlk
        have h26 := bd_h26 hR ha (hka.trans h19)
        have h29 : a < 30 := Nat.lt_trans h26 (by decide)
        have e1 : bd_cv ad (bd_slot h (res / 2048) a (res % 64)) = .long (bd_wcode a) := by
          rw [hres]
          show Value.long (hJ h a 0) = _
          rw [hR.2.2.2.2.2.1.2.1 a h26]
        have K2 : W p l e R s m args below meth c H locs cells slots Q (F0 m (pc + 3) ls (.long (bd_wcode a) :: r.map (bd_cv ad))) := by
          rw [← e1]; exact K1
        show W p l e R s m args below meth c H locs cells slots Q (F0 m pc ls (.ref (ad a) :: r.map (bd_cv ad)))
        rw [hR.2.2.2.2.2.2 a h29]
        exact va_getX (i := a) (v := fun k => .long (bd_wcode k)) hx hb hST.2.1 h26 hR.2.2.1 hown (htb _ (bd_at_tbl hat rfl)) (fun _ h9 => h9) hd K2
      · rename_i h19
        simp only [Bool.and_eq_true, decide_eq_true_eq] at hlk
        obtain ⟨⟨⟨hc12, hkn⟩, htag⟩, hat⟩ := hlk
        have h30 := bd_h30 hR hka hc12
        have he : (bd_ws ad ca h)[a - 30]? = some (ad a, .inr (res / 64 % 32, bd_fs ad h (res / 64 % 32) a)) := by
          rw [bd_ws_get h30 ha, bd_cell_obj (by omega), hka]
        refine va_get (D := D) (ci := res / 64 % 32) (C := bd_Cn (res / 64 % 32)) (T := bd_T (res / 64 % 32)) (N := bd_nf (res / 64 % 32)) (Ts := tbl) hx hb htb (bd_cw hc12) hown hK0 hR.1 (a - 30) he (bd_cl hc12) (res % 64) hkn (htb _ (bd_at_tbl hat rfl)) (fun _ h9 => h9) (bd_fs_get hkn) hd ?_
        have e1 : bd_sv ad h (res / 64 % 32) a (res % 64) = bd_cv ad (bd_slot h (res / 2048) a (res % 64)) := by
          unfold bd_sv
          rw [bd_getD 0 htag]
        rw [e1]
        exact K1
    · cases hs
  · cases hs
/-- a slot of an object set: the relation behind it -/
theorem bd_Rel.set {a : Nat} {H' : Heap} {locs' : List Loc} {E : va_E} (hR : bd_Rel xs n0 D A s sad ad ca h H locs) (h30 : 30 ≤ a) (eK : hK h1 = hK h) (eL : hL h1 = hL h) (eN : hN h1 = hN h)
    (eI : ∀ b, b ≠ a → hI h1 b = hI h b) (eJ : ∀ b, b ≠ a → hJ h1 b = hJ h b) (eQ : ∀ b, b ≠ a → hQ h1 b = hQ h b) (hq : ∀ k b, hQ h1 a k = some b → b < hN h) (hE : bd_cell ad ca h1 a = E)
    (hP : va_P D clA ((bd_ws ad ca h).set (a - 30) (ad a, E)) H') (hD : va_D A ((bd_ws ad ca h).set (a - 30) (ad a, E))) (hS : va_S A s.heap H' locs') : bd_Rel xs n0 D A s sad ad ca h1 H' locs' := by
  have e1 : (bd_ws ad ca h).set (a - 30) (ad a, E) = bd_ws ad ca h1 := bd_ws_set eN h30 hE fun b hb => bd_cell_eq (by rw [eK]) (by rw [eL]) (eI b hb) (eJ b hb) (eQ b hb)
  rw [e1] at hP hD
  obtain ⟨-, -, -, r4, r5, r6, r7⟩ := hR
  refine ⟨hP, hD, hS, fun b h2 h3 h4 => by rw [eK] at h4 ⊢; rw [eN] at h3; exact r4 b h2 h3 h4, ⟨fun b k x hb hx => ?_, fun b h2 h3 => by rw [eK]; rw [eN] at h3; exact r5.2.1 b h2 h3, by rw [eN]; exact r5.2.2⟩, r6.eq (fun b hb => by rw [eK]) (fun b hb => by rw [eL]) (fun b hb => eI b (by omega)) (fun b hb => eJ b (by omega)) (fun b hb => eQ b (by omega)), r7⟩
  rw [eN] at hb ⊢
  by_cases hba : b = a
  · subst hba; exact hq k x hx
  · rw [eQ b hba] at hx
    exact r5.1 b k x hb hx
theorem zs_putf {ix res : Nat} (F : bd_Fix xs n0 mi D A p s m args meth c sad) (hok : bd_ok mi pc (.putfield ix) res) (hs : bd_putf res (pc + 3) L st h = some (pc1, L1, st1, h1)) (hR : bd_Rel xs n0 D A s sad ad ca h H locs) (hl : bd_Lr ad (hN h) L ls) (hst : bd_Sw (hN h) st) (K : bd_K p l e R s m args below meth c cells slots Q xs n0 D A sad ad ca h h1 L1 st1 pc1) : W p l e R s m args below meth c H locs cells slots Q (F0 m pc ls (st.map (bd_cv ad))) := by
  obtain ⟨hx, hb, hml, hown, htb, hA, hK0, hST, hSW, hin⟩ := id F
  have hd := hok.dec rfl
  obtain ⟨-, pp, hlk⟩ := hok
  simp only [bd_lk, Bool.and_eq_true, decide_eq_true_eq, Bool.or_eq_true, Bool.not_eq_true'] at hlk
  obtain ⟨⟨⟨⟨hc12, hkn⟩, htag⟩, hat⟩, hfin⟩ := hlk
  have key : ∀ (a : Nat) (r : List Value) (v : Value) (hh : Hp), 30 ≤ a → a < hN h → hK h a = res / 64 % 32 → bd_Sw (hN h) r → hK hh = hK h → hL hh = hL h → hN hh = hN h → hC hh = hC h → hS hh = hS h → (∀ b, b ≠ a → hI hh b = hI h b) → (∀ b, b ≠ a → hJ hh b = hJ h b) → (∀ b, b ≠ a → hQ hh b = hQ h b) → (∀ k b, hQ hh a k = some b → b < hN h) →
      bd_sv ad hh (res / 64 % 32) a (res % 64) = bd_cv ad v → (∀ j, j ≠ res % 64 → bd_sv ad hh (res / 64 % 32) a j = bd_sv ad h (res / 64 % 32) a j) → narrow (bd_tyf (res / 64 % 32) (res % 64)) (bd_cv ad v) = bd_cv ad v → fits (bd_tyf (res / 64 % 32) (res % 64)) (bd_cv ad v) = true →
      bd_K p l e R s m args below meth c cells slots Q xs n0 D A sad ad ca h hh L r (pc + 3) → W p l e R s m args below meth c H locs cells slots Q (F0 m pc ls (bd_cv ad v :: .ref (ad a) :: r.map (bd_cv ad))) := by
    intro a r v hh h30 ha hka hr eK eL eN eC eS eI eJ eQ hq hv ho hn hfit KK
    have he : (bd_ws ad ca h)[a - 30]? = some (ad a, .inr (res / 64 % 32, bd_fs ad h (res / 64 % 32) a)) := by
      rw [bd_ws_get h30 ha, bd_cell_obj (by omega), hka]
    have hcell : bd_cell ad ca hh a = .inr (res / 64 % 32, (bd_fs ad h (res / 64 % 32) a).set (res % 64) (bd_cv ad v)) := by
      have hk2 : hK hh a = res / 64 % 32 := by rw [eK]; exact hka
      rw [bd_cell_obj (by omega), hk2, bd_fs_set hv ho]
    have cont : ∀ (H1 : Heap) (locs1 : List Loc), va_P D clA ((bd_ws ad ca h).set (a - 30) (ad a, .inr (res / 64 % 32, (bd_fs ad h (res / 64 % 32) a).set (res % 64) (bd_cv ad v)))) H1 → va_D A ((bd_ws ad ca h).set (a - 30) (ad a, .inr (res / 64 % 32, (bd_fs ad h (res / 64 % 32) a).set (res % 64) (bd_cv ad v)))) → va_S A s.heap H1 locs1 → W p l e R s m args below meth c H1 locs1 cells slots Q (F0 m (pc + 3) ls (r.map (bd_cv ad))) := by
      intro H1 locs1 hP1 hD1 hS1
      exact W.cs (by omega) (by omega) (KK ad ca H1 locs1 ls (hR.set h30 eK eL eN eI eJ eQ hq hcell hP1 hD1 hS1) (by rw [eN]; exact hl) (by rw [eN]; exact hr) (fun _ _ => ⟨rfl, rfl⟩))
    obtain ⟨ty1, ty2⟩ := bd_tyc hc12 hkn
    have hlen : res % 64 < (bd_fs ad h (res / 64 % 32) a).length := by rw [bd_fs_len]; exact hkn
    cases hf : (bd_T (res / 64 % 32) (res % 64)).2.2.2 with
    | false => exact va_put (D := D) (ci := res / 64 % 32) (C := bd_Cn (res / 64 % 32)) (T := bd_T (res / 64 % 32)) (N := bd_nf (res / 64 % 32)) (Ts := tbl) hx hb htb (bd_cw hc12) (bd_tyf (res / 64 % 32)) (fun k hk => (bd_tyc hc12 hk).1) (bd_nmc hc12) hown hK0 hR.1 hR.2.1 hR.2.2.1 (a - 30) he (bd_cl hc12) (res % 64) hkn (htb _ (bd_at_tbl hat rfl)) (fun _ h9 => h9) hf ty1 hn hfit hlen hd cont
    | true =>
      rcases hfin with q | ⟨q1, q2⟩
      · rw [hf] at q; cases q
      · exact va_putF (D := D) (ci := res / 64 % 32) (C := bd_Cn (res / 64 % 32)) (T := bd_T (res / 64 % 32)) (N := bd_nf (res / 64 % 32)) (Ts := tbl) hx hb htb (bd_cw hc12) (bd_tyf (res / 64 % 32)) (fun k hk => (bd_tyc hc12 hk).1) (bd_nmc hc12) hown hK0 hR.1 hR.2.1 hR.2.2.1 (a - 30) he (bd_cl hc12) (res % 64) hkn (htb _ (bd_at_tbl hat rfl)) (fun _ h9 => h9) hf (hin q1) q2 ty1 hn hfit hlen hd cont
  obtain ⟨ty1, ty2⟩ := bd_tyc hc12 hkn
  rw [bd_getD 9 htag] at ty2
  have g0 := bd_getD 0 htag
  unfold bd_putf at hs
  split at hs
  · rename_i x a r
    split at hs
    · rename_i hcnd
      obtain ⟨hka, h30, ht⟩ := hcnd
      cases hs
      have hnf : narrow (bd_tyf (res / 64 % 32) (res % 64)) (.int x) = .int x ∧ fits (bd_tyf (res / 64 % 32) (res % 64)) (.int x) = true := by
        generalize bd_tyf (res / 64 % 32) (res % 64) = ty at ty2
        rcases ht with ht | ⟨ht, hx01⟩
        · rw [ht] at ty2
          cases ty <;> simp [bd_tagok] at ty2
          exact ⟨rfl, rfl⟩
        · rw [ht] at ty2
          cases ty <;> simp [bd_tagok] at ty2
          rcases hx01 with rfl | rfl <;> exact ⟨by decide, by decide⟩
      have ht12 : ¬ res / 2048 = 1 ∧ ¬ res / 2048 = 2 := by omega
      refine key a st1 (.int x) (sI h a (res % 64) x) h30 hst.tl.hd hka hst.tl.tl rfl rfl rfl rfl rfl (fun b hb => up2_ne hb) (fun _ _ => rfl) (fun _ _ => rfl) (fun k b hb => hR.2.2.2.2.1.1 a k b hst.tl.hd hb) ?_ ?_ hnf.1 hnf.2 K
      · unfold bd_sv bd_slot
        rw [g0, if_neg ht12.1, if_neg ht12.2]
        show Value.int (up2 (hI h) a (res % 64) x a (res % 64)) = Value.int x
        simp [up2]
      · intro j hj
        unfold bd_sv bd_slot
        show bd_cv ad (if _ then _ else if _ then _ else Value.int (up2 (hI h) a (res % 64) x a j)) = _
        rw [show up2 (hI h) a (res % 64) x a j = hI h a j by simp [up2, hj]]
        rfl
    · cases hs
  · rename_i x a r
    split at hs
    · rename_i hcnd
      obtain ⟨hka, h30, ht⟩ := hcnd
      cases hs
      have hnf : narrow (bd_tyf (res / 64 % 32) (res % 64)) (.long x) = .long x ∧ fits (bd_tyf (res / 64 % 32) (res % 64)) (.long x) = true := by
        generalize bd_tyf (res / 64 % 32) (res % 64) = ty at ty2
        rw [ht] at ty2
        cases ty <;> simp [bd_tagok] at ty2
        exact ⟨rfl, rfl⟩
      refine key a st1 (.long x) (sJ h a (res % 64) x) h30 hst.tl.hd hka hst.tl.tl rfl rfl rfl rfl rfl (fun _ _ => rfl) (fun b hb => up2_ne hb) (fun _ _ => rfl) (fun k b hb => hR.2.2.2.2.1.1 a k b hst.tl.hd hb) ?_ ?_ hnf.1 hnf.2 K
      · unfold bd_sv bd_slot
        rw [g0, if_pos ht]
        show Value.long (up2 (hJ h) a (res % 64) x a (res % 64)) = Value.long x
        simp [up2]
      · intro j hj
        unfold bd_sv bd_slot
        show bd_cv ad (if _ then Value.long (up2 (hJ h) a (res % 64) x a j) else _) = _
        rw [show up2 (hJ h) a (res % 64) x a j = hJ h a j by simp [up2, hj]]
        rfl
    · cases hs
  · rename_i x a r
    split at hs
    · rename_i hcnd
      obtain ⟨hka, h30, ht⟩ := hcnd
      cases hs
      have hnf : narrow (bd_tyf (res / 64 % 32) (res % 64)) (.ref (ad x)) = .ref (ad x) ∧ fits (bd_tyf (res / 64 % 32) (res % 64)) (.ref (ad x)) = true := by
        generalize bd_tyf (res / 64 % 32) (res % 64) = ty at ty2
        rw [ht] at ty2
        cases ty <;> simp [bd_tagok] at ty2 <;> exact ⟨rfl, rfl⟩
      refine key a st1 (.ref x) (sQ h a (res % 64) (some x)) h30 hst.tl.hd hka hst.tl.tl rfl rfl rfl rfl rfl (fun _ _ => rfl) (fun _ _ => rfl) (fun b hb => up2_ne hb) (fun k b hb => ?_) ?_ ?_ hnf.1 hnf.2 K
      · have hb' : up2 (hQ h) a (res % 64) (some x) a k = some b := hb
        simp only [up2, if_true] at hb'
        split at hb'
        · cases hb'; exact hst.hd
        · exact hR.2.2.2.2.1.1 a k b hst.tl.hd hb'
      · unfold bd_sv bd_slot
        rw [g0, if_neg (by omega), if_pos ht]
        show bd_cv ad (va_rf (up2 (hQ h) a (res % 64) (some x) a (res % 64))) = _
        simp [up2, va_rf]
      · intro j hj
        unfold bd_sv bd_slot
        show bd_cv ad (if _ then _ else if _ then va_rf (up2 (hQ h) a (res % 64) (some x) a j) else _) = _
        rw [show up2 (hQ h) a (res % 64) (some x) a j = hQ h a j by simp [up2, hj]]
        rfl
    · cases hs
  · rename_i a r
    split at hs
    · rename_i hcnd
      obtain ⟨hka, h30, ht⟩ := hcnd
      cases hs
      have hnf : narrow (bd_tyf (res / 64 % 32) (res % 64)) .null = .null ∧ fits (bd_tyf (res / 64 % 32) (res % 64)) .null = true := by
        generalize bd_tyf (res / 64 % 32) (res % 64) = ty at ty2
        rw [ht] at ty2
        cases ty <;> simp [bd_tagok] at ty2 <;> exact ⟨rfl, rfl⟩
      refine key a st1 .null (sQ h a (res % 64) none) h30 hst.tl.hd hka hst.tl.tl rfl rfl rfl rfl rfl (fun _ _ => rfl) (fun _ _ => rfl) (fun b hb => up2_ne hb) (fun k b hb => ?_) ?_ ?_ hnf.1 hnf.2 K
      · have hb' : up2 (hQ h) a (res % 64) none a k = some b := hb
        simp only [up2, if_true] at hb'
        split at hb'
        · cases hb'
        · exact hR.2.2.2.2.1.1 a k b hst.tl.hd hb'
      · unfold bd_sv bd_slot
        rw [g0, if_neg (by omega), if_pos ht]
        show bd_cv ad (va_rf (up2 (hQ h) a (res % 64) none a (res % 64))) = _
        simp [up2, va_rf]
      · intro j hj
        unfold bd_sv bd_slot
        show bd_cv ad (if _ then _ else if _ then va_rf (up2 (hQ h) a (res % 64) none a j) else _) = _
        rw [show up2 (hQ h) a (res % 64) none a j = hQ h a j by simp [up2, hj]]
        rfl
    · cases hs
  · cases hs
end SIM2
