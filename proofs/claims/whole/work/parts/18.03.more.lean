/-! what the printed functions use beside the rows -/
def bnd {α β : Type} (e : α) (F : α → Option β) : Option β := F e
theorem bnd_spec {α β : Type} {e : α} {F : α → Option β} {r : β} (h : bnd e F = some r) : ∃ x, x = e ∧ F x = some r := ⟨e, rfl, h⟩
def grd (b : Bool) : Option Unit := if b = true then some () else none
theorem grd_spec {b : Bool} {β : Type} {F : Unit → Option β} {r : β} (h : (grd b).bind F = some r) : b = true ∧ F () = some r := by
  unfold grd at h
  cases b with
  | false => cases h
  | true => exact ⟨rfl, h⟩
theorem if_t {c : Prop} [Decidable c] {α : Type} {A B : Option α} {r : α} (h : (if c then A else B) = some r) (hc : c) : A = some r := by rw [if_pos hc] at h; exact h
theorem if_f {c : Prop} [Decidable c] {α : Type} {A B : Option α} {r : α} (h : (if c then A else B) = some r) (hc : ¬ c) : B = some r := by rw [if_neg hc] at h; exact h
section RM
variable {d mi pc rs : Nat} {L L1 : Lc} {st : List Value} {h h1 : Hp} {v : Option Value × Hp} {off : Int} {t : Nat} {raw : Instr}
theorem Rn.call1 {k : Nat} {As rest : List Value} {x : Value} (hfe : fe mi pc = some (raw, rs)) (he : bd_isEnd raw rs = false) (hc : bd_callee raw rs = true) (h7 : rs ≠ 307 ∧ rs ≠ 135 ∧ rs ≠ 308) (hk : (mtM rs).2.2.2.2.1 = k) (hst : st = As.reverse ++ rest) (hAs : As.length = k) (hrec : bd_recv raw rs As h = true) (h8 : (rest.map fun v => v.category).sum ≤ 8) (hlen : (bd_sl As).length ≤ (mtM rs).2.2.1)
    (C : Rn d rs 0 (bd_loc (mtM rs).2.2.1 As) [] h (some x, h1)) (K : Rn (d + 1) mi (pc + 3) L (x :: rest) h1 v) : Rn (d + 1) mi pc L st h v := Rn.call hfe he hc h7 hk hst hAs hrec h8 hlen C K
theorem Rn.call0 {k : Nat} {As rest : List Value} (hfe : fe mi pc = some (raw, rs)) (he : bd_isEnd raw rs = false) (hc : bd_callee raw rs = true) (h7 : rs ≠ 307 ∧ rs ≠ 135 ∧ rs ≠ 308) (hk : (mtM rs).2.2.2.2.1 = k) (hst : st = As.reverse ++ rest) (hAs : As.length = k) (hrec : bd_recv raw rs As h = true) (h8 : (rest.map fun v => v.category).sum ≤ 8) (hlen : (bd_sl As).length ≤ (mtM rs).2.2.1)
    (C : Rn d rs 0 (bd_loc (mtM rs).2.2.1 As) [] h (none, h1)) (K : Rn (d + 1) mi (pc + 3) L rest h1 v) : Rn (d + 1) mi pc L st h v := Rn.call hfe he hc h7 hk hst hAs hrec h8 hlen C K
theorem bd_locC {n : Nat} {As : List Value} {S L0 : Lc} (hn : (mtM rs).2.2.1 = n) (hs : bd_sl As = S) (e : S ++ List.replicate (n - S.length) none = L0) (k : Rn d rs 0 L0 [] h v) : Rn d rs 0 (bd_loc (mtM rs).2.2.1 As) [] h v := by
  unfold bd_loc
  rw [hn, hs, e]
  exact k
theorem bd_lenC {n : Nat} {As : List Value} {S : Lc} (hn : (mtM rs).2.2.1 = n) (hs : bd_sl As = S) (hl : Nat.ble S.length n = true) : (bd_sl As).length ≤ (mtM rs).2.2.1 := by
  rw [hn, hs]
  exact Nat.le_of_ble_eq_true hl
theorem bd_wideMI {j : Nat} {o : Option Int32} (hl : L[j]? = some (o.map Value.int)) : bd_wide L j = false := by
  unfold bd_wide bd_ld
  rw [hl]
  cases o <;> rfl
theorem bd_wideMA {j : Nat} {o : Option (Option Nat)} (hl : L[j]? = some (o.map va_rf)) : bd_wide L j = false := by
  unfold bd_wide bd_ld
  rw [hl]
  cases o with
  | none => rfl
  | some q => cases q <;> rfl
def swT (pc : Nat) (dflt lo hi : Int) (offs : Array Int) (x : Int32) : Option Nat := if x.toInt < lo ∨ hi < x.toInt then bd_tg pc dflt else (match offs[(x.toInt - lo).toNat]? with
      | some off => bd_tg pc off
      | none => none)
theorem rn_tsw {dflt lo hi : Int} {offs : Array Int} {x : Int32} (hfe : fe mi pc = some (.tableswitch dflt lo hi offs, rs)) (ht : swT pc dflt lo hi offs x = some t) (k : Rn d mi t L st h v) : Rn d mi pc L (.int x :: st) h v := by
  refine Rn.one hfe rfl rfl ?_ k
  show bd_table pc dflt lo hi offs L (.int x :: st) h = _
  unfold swT at ht
  unfold bd_table
  dsimp only
  split at ht
  · rename_i hc
    rw [if_pos hc, ht]
    rfl
  · rename_i hc
    rw [if_neg hc]
    split at ht
    · rename_i o ho
      rw [ho]
      dsimp only
      rw [ht]
      rfl
    · cases ht
theorem swT_d {dflt lo hi : Int} {offs : Array Int} {x : Int32} (hx : x.toInt < lo ∨ hi < x.toInt) (ht : bd_tg pc dflt = some t) : swT pc dflt lo hi offs x = some t := by
  unfold swT
  rw [if_pos hx, ht]
theorem rn_lsw {dflt : Int} {ps : Array (Int × Int)} {x : Int32} (hfe : fe mi pc = some (.lookupswitch dflt ps, rs)) (ht : bd_tg pc (Op.lookupswitch.offset ps.toList dflt x.toInt) = some t) (k : Rn d mi t L st h v) : Rn d mi pc L (.int x :: st) h v := by
  refine Rn.one hfe rfl rfl ?_ k
  show (bd_tg pc (Op.lookupswitch.offset ps.toList dflt x.toInt)).map (fun t => (t, L, st, h)) = _
  rw [ht]
  rfl
theorem sw_ne {x : Int32} {c : Nat} (hx : ¬ x = nI c) (hc : c < 2147483648) : x.toInt ≠ (c : Int) := fun e => hx (Int32.toInt_inj.mp (by rw [e, nI_toInt hc]))
end RM
