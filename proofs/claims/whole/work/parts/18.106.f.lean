def b_225_200   (h : Hp) : Option (Hp) :=
  some h
theorem u_225_200 (d : Nat) (hd : 4 ≤ d) (v0 : Option Nat) (v1 : Int32) (v2 : Option (Int32)) (v3 : Option (Int32)) (v4 : Option (Int32)) (v5 : Option (Int32)) (v6 : Option (Int32))  (h : Hp) (r : Hp) (hb : b_225_200   h = some r) : Rn d 225 200 [some (va_rf v0), some (.int v1), v2.map Value.int, v3.map Value.int, v4.map Value.int, v5.map Value.int, v6.map Value.int] [] h (none, r) := by
  unfold b_225_200 at hb
  obtain rfl := Option.some.inj hb
  exact rn_vret rfl rfl
def b_225_194 (k6 : Option Nat → Int32 → Hp → Option (Hp)) (v0 : Option Nat) (v1 : Int32)  (h : Hp) : Option (Hp) :=
  bnd (v1 + (nI 1)) fun x1 =>
  k6 v0 x1 h
theorem u_225_194 (d : Nat) (hd : 4 ≤ d) (k6 : Option Nat → Int32 → Hp → Option (Hp)) (K6 : ∀ (v0 : Option Nat) (v1 : Int32) (v2 : Option (Int32)) (v3 : Option (Int32)) (v4 : Option (Int32)) (v5 : Option (Int32)) (v6 : Option (Int32)) (h : Hp) (r : Hp), k6 v0 v1 h = some r → Rn d 225 6 [some (va_rf v0), some (.int v1), v2.map Value.int, v3.map Value.int, v4.map Value.int, v5.map Value.int, v6.map Value.int] [] h (none, r)) (v0 : Option Nat) (v1 : Int32) (v2 : Int32) (v3 : Option (Int32)) (v4 : Option (Int32)) (v5 : Option (Int32)) (v6 : Option (Int32))  (h : Hp) (r : Hp) (hb : b_225_194 k6 v0 v1  h = some r) : Rn d 225 194 [some (va_rf v0), some (.int v1), some (.int v2), v3.map Value.int, v4.map Value.int, v5.map Value.int, v6.map Value.int] [] h (none, r) := by
  unfold b_225_194 at hb
  obtain ⟨x1, ex1, hb⟩ := bnd_spec hb
  refine rn_iinc (i := 1) (y := x1) (L1 := [some (va_rf v0), some (.int x1), some (.int v2), v3.map Value.int, v4.map Value.int, v5.map Value.int, v6.map Value.int]) rfl rfl (Nat.le_of_ble_eq_true rfl) (Or.inr (bd_wideR rfl)) (by rw [ex1]; rfl) rfl ?_
  refine rn_goto rfl rfl ?_
  exact K6 v0 x1 (some v2) v3 v4 v5 v6 h _ hb
def b_225_188 (k6 : Option Nat → Int32 → Hp → Option (Hp)) (k23 : Option Nat → Int32 → Int32 → Hp → Option (Hp)) (v0 : Option Nat) (v1 : Int32) (v2 : Int32)  (h : Hp) : Option (Hp) :=
  bnd (v2 + (nI 1)) fun x1 =>
  k23 v0 v1 x1 h
theorem u_225_188 (d : Nat) (hd : 4 ≤ d) (k6 : Option Nat → Int32 → Hp → Option (Hp)) (K6 : ∀ (v0 : Option Nat) (v1 : Int32) (v2 : Option (Int32)) (v3 : Option (Int32)) (v4 : Option (Int32)) (v5 : Option (Int32)) (v6 : Option (Int32)) (h : Hp) (r : Hp), k6 v0 v1 h = some r → Rn d 225 6 [some (va_rf v0), some (.int v1), v2.map Value.int, v3.map Value.int, v4.map Value.int, v5.map Value.int, v6.map Value.int] [] h (none, r)) (k23 : Option Nat → Int32 → Int32 → Hp → Option (Hp)) (K23 : ∀ (v0 : Option Nat) (v1 : Int32) (v2 : Int32) (v3 : Option (Int32)) (v4 : Option (Int32)) (v5 : Option (Int32)) (v6 : Option (Int32)) (h : Hp) (r : Hp), k23 v0 v1 v2 h = some r → Rn d 225 23 [some (va_rf v0), some (.int v1), some (.int v2), v3.map Value.int, v4.map Value.int, v5.map Value.int, v6.map Value.int] [] h (none, r)) (v0 : Option Nat) (v1 : Int32) (v2 : Int32) (v3 : Int32) (v4 : Int32) (v5 : Option (Int32)) (v6 : Option (Int32))  (h : Hp) (r : Hp) (hb : b_225_188 k6 k23 v0 v1 v2  h = some r) : Rn d 225 188 [some (va_rf v0), some (.int v1), some (.int v2), some (.int v3), some (.int v4), v5.map Value.int, v6.map Value.int] [] h (none, r) := by
  unfold b_225_188 at hb
  obtain ⟨x1, ex1, hb⟩ := bnd_spec hb
  refine rn_iinc (i := 2) (y := x1) (L1 := [some (va_rf v0), some (.int v1), some (.int x1), some (.int v3), some (.int v4), v5.map Value.int, v6.map Value.int]) rfl rfl (Nat.le_of_ble_eq_true rfl) (Or.inr rfl) (by rw [ex1]; rfl) rfl ?_
  refine rn_goto rfl rfl ?_
  exact K23 v0 v1 x1 (some v3) (some v4) v5 v6 h _ hb
def b_225_182 (k6 : Option Nat → Int32 → Hp → Option (Hp)) (k23 : Option Nat → Int32 → Int32 → Hp → Option (Hp)) (k85 : Option Nat → Int32 → Int32 → Int32 → Int32 → Hp → Option (Hp)) (v0 : Option Nat) (v1 : Int32) (v2 : Int32) (v3 : Int32) (v4 : Int32)  (h : Hp) : Option (Hp) :=
  bnd (v4 + (nI 1)) fun x1 =>
  k85 v0 v1 v2 v3 x1 h
theorem u_225_182 (d : Nat) (hd : 4 ≤ d) (k6 : Option Nat → Int32 → Hp → Option (Hp)) (K6 : ∀ (v0 : Option Nat) (v1 : Int32) (v2 : Option (Int32)) (v3 : Option (Int32)) (v4 : Option (Int32)) (v5 : Option (Int32)) (v6 : Option (Int32)) (h : Hp) (r : Hp), k6 v0 v1 h = some r → Rn d 225 6 [some (va_rf v0), some (.int v1), v2.map Value.int, v3.map Value.int, v4.map Value.int, v5.map Value.int, v6.map Value.int] [] h (none, r)) (k23 : Option Nat → Int32 → Int32 → Hp → Option (Hp)) (K23 : ∀ (v0 : Option Nat) (v1 : Int32) (v2 : Int32) (v3 : Option (Int32)) (v4 : Option (Int32)) (v5 : Option (Int32)) (v6 : Option (Int32)) (h : Hp) (r : Hp), k23 v0 v1 v2 h = some r → Rn d 225 23 [some (va_rf v0), some (.int v1), some (.int v2), v3.map Value.int, v4.map Value.int, v5.map Value.int, v6.map Value.int] [] h (none, r)) (k85 : Option Nat → Int32 → Int32 → Int32 → Int32 → Hp → Option (Hp)) (K85 : ∀ (v0 : Option Nat) (v1 : Int32) (v2 : Int32) (v3 : Int32) (v4 : Int32) (v5 : Option (Int32)) (v6 : Option (Int32)) (h : Hp) (r : Hp), k85 v0 v1 v2 v3 v4 h = some r → Rn d 225 85 [some (va_rf v0), some (.int v1), some (.int v2), some (.int v3), some (.int v4), v5.map Value.int, v6.map Value.int] [] h (none, r)) (v0 : Option Nat) (v1 : Int32) (v2 : Int32) (v3 : Int32) (v4 : Int32) (v5 : Option (Int32)) (v6 : Option (Int32))  (h : Hp) (r : Hp) (hb : b_225_182 k6 k23 k85 v0 v1 v2 v3 v4  h = some r) : Rn d 225 182 [some (va_rf v0), some (.int v1), some (.int v2), some (.int v3), some (.int v4), v5.map Value.int, v6.map Value.int] [] h (none, r) := by
  unfold b_225_182 at hb
  obtain ⟨x1, ex1, hb⟩ := bnd_spec hb
  refine rn_iinc (i := 4) (y := x1) (L1 := [some (va_rf v0), some (.int v1), some (.int v2), some (.int v3), some (.int x1), v5.map Value.int, v6.map Value.int]) rfl rfl (Nat.le_of_ble_eq_true rfl) (Or.inr rfl) (by rw [ex1]; rfl) rfl ?_
  refine rn_goto rfl rfl ?_
  exact K85 v0 v1 v2 v3 x1 v5 v6 h _ hb
def b_225_176 (k6 : Option Nat → Int32 → Hp → Option (Hp)) (k23 : Option Nat → Int32 → Int32 → Hp → Option (Hp)) (k85 : Option Nat → Int32 → Int32 → Int32 → Int32 → Hp → Option (Hp)) (k108 : Option Nat → Int32 → Int32 → Int32 → Int32 → Int32 → Hp → Option (Hp)) (v0 : Option Nat) (v1 : Int32) (v2 : Int32) (v3 : Int32) (v4 : Int32) (v5 : Int32)  (h : Hp) : Option (Hp) :=
  bnd (v5 + (nI 1)) fun x1 =>
  k108 v0 v1 v2 v3 v4 x1 h
theorem u_225_176 (d : Nat) (hd : 4 ≤ d) (k6 : Option Nat → Int32 → Hp → Option (Hp)) (K6 : ∀ (v0 : Option Nat) (v1 : Int32) (v2 : Option (Int32)) (v3 : Option (Int32)) (v4 : Option (Int32)) (v5 : Option (Int32)) (v6 : Option (Int32)) (h : Hp) (r : Hp), k6 v0 v1 h = some r → Rn d 225 6 [some (va_rf v0), some (.int v1), v2.map Value.int, v3.map Value.int, v4.map Value.int, v5.map Value.int, v6.map Value.int] [] h (none, r)) (k23 : Option Nat → Int32 → Int32 → Hp → Option (Hp)) (K23 : ∀ (v0 : Option Nat) (v1 : Int32) (v2 : Int32) (v3 : Option (Int32)) (v4 : Option (Int32)) (v5 : Option (Int32)) (v6 : Option (Int32)) (h : Hp) (r : Hp), k23 v0 v1 v2 h = some r → Rn d 225 23 [some (va_rf v0), some (.int v1), some (.int v2), v3.map Value.int, v4.map Value.int, v5.map Value.int, v6.map Value.int] [] h (none, r)) (k85 : Option Nat → Int32 → Int32 → Int32 → Int32 → Hp → Option (Hp)) (K85 : ∀ (v0 : Option Nat) (v1 : Int32) (v2 : Int32) (v3 : Int32) (v4 : Int32) (v5 : Option (Int32)) (v6 : Option (Int32)) (h : Hp) (r : Hp), k85 v0 v1 v2 v3 v4 h = some r → Rn d 225 85 [some (va_rf v0), some (.int v1), some (.int v2), some (.int v3), some (.int v4), v5.map Value.int, v6.map Value.int] [] h (none, r)) (k108 : Option Nat → Int32 → Int32 → Int32 → Int32 → Int32 → Hp → Option (Hp)) (K108 : ∀ (v0 : Option Nat) (v1 : Int32) (v2 : Int32) (v3 : Int32) (v4 : Int32) (v5 : Int32) (v6 : Option (Int32)) (h : Hp) (r : Hp), k108 v0 v1 v2 v3 v4 v5 h = some r → Rn d 225 108 [some (va_rf v0), some (.int v1), some (.int v2), some (.int v3), some (.int v4), some (.int v5), v6.map Value.int] [] h (none, r)) (v0 : Option Nat) (v1 : Int32) (v2 : Int32) (v3 : Int32) (v4 : Int32) (v5 : Int32) (v6 : Int32)  (h : Hp) (r : Hp) (hb : b_225_176 k6 k23 k85 k108 v0 v1 v2 v3 v4 v5  h = some r) : Rn d 225 176 [some (va_rf v0), some (.int v1), some (.int v2), some (.int v3), some (.int v4), some (.int v5), some (.int v6)] [] h (none, r) := by
  unfold b_225_176 at hb
  obtain ⟨x1, ex1, hb⟩ := bnd_spec hb
  refine rn_iinc (i := 5) (y := x1) (L1 := [some (va_rf v0), some (.int v1), some (.int v2), some (.int v3), some (.int v4), some (.int x1), some (.int v6)]) rfl rfl (Nat.le_of_ble_eq_true rfl) (Or.inr rfl) (by rw [ex1]; rfl) rfl ?_
  refine rn_goto rfl rfl ?_
  exact K108 v0 v1 v2 v3 v4 x1 (some v6) h _ hb
def b_225_160 (k6 : Option Nat → Int32 → Hp → Option (Hp)) (k23 : Option Nat → Int32 → Int32 → Hp → Option (Hp)) (k85 : Option Nat → Int32 → Int32 → Int32 → Int32 → Hp → Option (Hp)) (k108 : Option Nat → Int32 → Int32 → Int32 → Int32 → Int32 → Hp → Option (Hp)) (v0 : Option Nat) (v1 : Int32) (v2 : Int32) (v3 : Int32) (v4 : Int32) (v5 : Int32) (v6 : Int32)  (h : Hp) : Option (Hp) :=
  (gQ 11 28 v0 h).bind fun x1 =>
  (aJ x1 v3 h).bind fun x2 =>
  (wJ x1 v3 (x2 ||| ((lN 1) <<< ((v6 - (nI 50)).toInt64 &&& 63))) h).bind fun h3 =>
  b_225_176 k6 k23 k85 k108 v0 v1 v2 v3 v4 v5  h3
theorem u_225_160 (d : Nat) (hd : 4 ≤ d) (k6 : Option Nat → Int32 → Hp → Option (Hp)) (K6 : ∀ (v0 : Option Nat) (v1 : Int32) (v2 : Option (Int32)) (v3 : Option (Int32)) (v4 : Option (Int32)) (v5 : Option (Int32)) (v6 : Option (Int32)) (h : Hp) (r : Hp), k6 v0 v1 h = some r → Rn d 225 6 [some (va_rf v0), some (.int v1), v2.map Value.int, v3.map Value.int, v4.map Value.int, v5.map Value.int, v6.map Value.int] [] h (none, r)) (k23 : Option Nat → Int32 → Int32 → Hp → Option (Hp)) (K23 : ∀ (v0 : Option Nat) (v1 : Int32) (v2 : Int32) (v3 : Option (Int32)) (v4 : Option (Int32)) (v5 : Option (Int32)) (v6 : Option (Int32)) (h : Hp) (r : Hp), k23 v0 v1 v2 h = some r → Rn d 225 23 [some (va_rf v0), some (.int v1), some (.int v2), v3.map Value.int, v4.map Value.int, v5.map Value.int, v6.map Value.int] [] h (none, r)) (k85 : Option Nat → Int32 → Int32 → Int32 → Int32 → Hp → Option (Hp)) (K85 : ∀ (v0 : Option Nat) (v1 : Int32) (v2 : Int32) (v3 : Int32) (v4 : Int32) (v5 : Option (Int32)) (v6 : Option (Int32)) (h : Hp) (r : Hp), k85 v0 v1 v2 v3 v4 h = some r → Rn d 225 85 [some (va_rf v0), some (.int v1), some (.int v2), some (.int v3), some (.int v4), v5.map Value.int, v6.map Value.int] [] h (none, r)) (k108 : Option Nat → Int32 → Int32 → Int32 → Int32 → Int32 → Hp → Option (Hp)) (K108 : ∀ (v0 : Option Nat) (v1 : Int32) (v2 : Int32) (v3 : Int32) (v4 : Int32) (v5 : Int32) (v6 : Option (Int32)) (h : Hp) (r : Hp), k108 v0 v1 v2 v3 v4 v5 h = some r → Rn d 225 108 [some (va_rf v0), some (.int v1), some (.int v2), some (.int v3), some (.int v4), some (.int v5), v6.map Value.int] [] h (none, r)) (v0 : Option Nat) (v1 : Int32) (v2 : Int32) (v3 : Int32) (v4 : Int32) (v5 : Int32) (v6 : Int32)  (h : Hp) (r : Hp) (hb : b_225_160 k6 k23 k85 k108 v0 v1 v2 v3 v4 v5 v6  h = some r) : Rn d 225 160 [some (va_rf v0), some (.int v1), some (.int v2), some (.int v3), some (.int v4), some (.int v5), some (.int v6)] [] h (none, r) := by
  unfold b_225_160 at hb
  refine rn_aload_n (i := 0) rfl rfl ?_
  refine rn_gQ (c := 11) (k := 28) rfl (by decide) hb (fun x1 hb => ?_)
  refine rn_iload_n (i := 3) rfl rfl ?_
  refine rn_dup2 rfl rfl (bd_cat_rf _) ?_
  refine rn_aJ rfl hb (fun x2 hb => ?_)
  refine rn_lconst (x := (lN 1)) rfl (by decide) ?_
  refine rn_iload (i := 6) rfl rfl ?_
  refine rn_bipush (x := (nI 50)) rfl (by decide) ?_
  refine rn_isub rfl ?_
  refine rn_lshl rfl ?_
  refine rn_lor rfl ?_
  refine rn_wJ rfl hb (fun h3 hb => ?_)
  exact u_225_176 d hd k6 K6 k23 K23 k85 K85 k108 K108 v0 v1 v2 v3 v4 v5 v6  h3 _ hb
def b_225_144 (k6 : Option Nat → Int32 → Hp → Option (Hp)) (k23 : Option Nat → Int32 → Int32 → Hp → Option (Hp)) (k85 : Option Nat → Int32 → Int32 → Int32 → Int32 → Hp → Option (Hp)) (k108 : Option Nat → Int32 → Int32 → Int32 → Int32 → Int32 → Hp → Option (Hp)) (v0 : Option Nat) (v1 : Int32) (v2 : Int32) (v3 : Int32) (v4 : Int32) (v5 : Int32) (v6 : Int32)  (h : Hp) : Option (Hp) :=
  (gQ 11 27 v0 h).bind fun x1 =>
  (aJ x1 v3 h).bind fun x2 =>
  (wJ x1 v3 (x2 ||| ((lN 1) <<< (v6.toInt64 &&& 63))) h).bind fun h3 =>
  b_225_176 k6 k23 k85 k108 v0 v1 v2 v3 v4 v5  h3
theorem u_225_144 (d : Nat) (hd : 4 ≤ d) (k6 : Option Nat → Int32 → Hp → Option (Hp)) (K6 : ∀ (v0 : Option Nat) (v1 : Int32) (v2 : Option (Int32)) (v3 : Option (Int32)) (v4 : Option (Int32)) (v5 : Option (Int32)) (v6 : Option (Int32)) (h : Hp) (r : Hp), k6 v0 v1 h = some r → Rn d 225 6 [some (va_rf v0), some (.int v1), v2.map Value.int, v3.map Value.int, v4.map Value.int, v5.map Value.int, v6.map Value.int] [] h (none, r)) (k23 : Option Nat → Int32 → Int32 → Hp → Option (Hp)) (K23 : ∀ (v0 : Option Nat) (v1 : Int32) (v2 : Int32) (v3 : Option (Int32)) (v4 : Option (Int32)) (v5 : Option (Int32)) (v6 : Option (Int32)) (h : Hp) (r : Hp), k23 v0 v1 v2 h = some r → Rn d 225 23 [some (va_rf v0), some (.int v1), some (.int v2), v3.map Value.int, v4.map Value.int, v5.map Value.int, v6.map Value.int] [] h (none, r)) (k85 : Option Nat → Int32 → Int32 → Int32 → Int32 → Hp → Option (Hp)) (K85 : ∀ (v0 : Option Nat) (v1 : Int32) (v2 : Int32) (v3 : Int32) (v4 : Int32) (v5 : Option (Int32)) (v6 : Option (Int32)) (h : Hp) (r : Hp), k85 v0 v1 v2 v3 v4 h = some r → Rn d 225 85 [some (va_rf v0), some (.int v1), some (.int v2), some (.int v3), some (.int v4), v5.map Value.int, v6.map Value.int] [] h (none, r)) (k108 : Option Nat → Int32 → Int32 → Int32 → Int32 → Int32 → Hp → Option (Hp)) (K108 : ∀ (v0 : Option Nat) (v1 : Int32) (v2 : Int32) (v3 : Int32) (v4 : Int32) (v5 : Int32) (v6 : Option (Int32)) (h : Hp) (r : Hp), k108 v0 v1 v2 v3 v4 v5 h = some r → Rn d 225 108 [some (va_rf v0), some (.int v1), some (.int v2), some (.int v3), some (.int v4), some (.int v5), v6.map Value.int] [] h (none, r)) (v0 : Option Nat) (v1 : Int32) (v2 : Int32) (v3 : Int32) (v4 : Int32) (v5 : Int32) (v6 : Int32)  (h : Hp) (r : Hp) (hb : b_225_144 k6 k23 k85 k108 v0 v1 v2 v3 v4 v5 v6  h = some r) : Rn d 225 144 [some (va_rf v0), some (.int v1), some (.int v2), some (.int v3), some (.int v4), some (.int v5), some (.int v6)] [] h (none, r) := by
  unfold b_225_144 at hb
  refine rn_aload_n (i := 0) rfl rfl ?_
  refine rn_gQ (c := 11) (k := 27) rfl (by decide) hb (fun x1 hb => ?_)
  refine rn_iload_n (i := 3) rfl rfl ?_
  refine rn_dup2 rfl rfl (bd_cat_rf _) ?_
  refine rn_aJ rfl hb (fun x2 hb => ?_)
  refine rn_lconst (x := (lN 1)) rfl (by decide) ?_
  refine rn_iload (i := 6) rfl rfl ?_
  refine rn_lshl rfl ?_
  refine rn_lor rfl ?_
  refine rn_wJ rfl hb (fun h3 hb => ?_)
  refine rn_goto rfl rfl ?_
  exact u_225_176 d hd k6 K6 k23 K23 k85 K85 k108 K108 v0 v1 v2 v3 v4 v5 v6  h3 _ hb
def b_225_117 (k6 : Option Nat → Int32 → Hp → Option (Hp)) (k23 : Option Nat → Int32 → Int32 → Hp → Option (Hp)) (k85 : Option Nat → Int32 → Int32 → Int32 → Int32 → Hp → Option (Hp)) (k108 : Option Nat → Int32 → Int32 → Int32 → Int32 → Int32 → Hp → Option (Hp)) (v0 : Option Nat) (v1 : Int32) (v2 : Int32) (v3 : Int32) (v4 : Int32) (v5 : Int32)  (h : Hp) : Option (Hp) :=
  (gQ 11 25 v0 h).bind fun x1 =>
  (aI 12 x1 v5 h).bind fun x2 =>
  (gQ 11 24 v0 h).bind fun x3 =>
  (aI 12 x3 v5 h).bind fun x4 =>
  bnd ((((nI 10) * x2) + x4)) fun x5 =>
  if (nI 50) ≤ x5 then b_225_160 k6 k23 k85 k108 v0 v1 v2 v3 v4 v5 x5  h else b_225_144 k6 k23 k85 k108 v0 v1 v2 v3 v4 v5 x5  h
theorem u_225_117 (d : Nat) (hd : 4 ≤ d) (k6 : Option Nat → Int32 → Hp → Option (Hp)) (K6 : ∀ (v0 : Option Nat) (v1 : Int32) (v2 : Option (Int32)) (v3 : Option (Int32)) (v4 : Option (Int32)) (v5 : Option (Int32)) (v6 : Option (Int32)) (h : Hp) (r : Hp), k6 v0 v1 h = some r → Rn d 225 6 [some (va_rf v0), some (.int v1), v2.map Value.int, v3.map Value.int, v4.map Value.int, v5.map Value.int, v6.map Value.int] [] h (none, r)) (k23 : Option Nat → Int32 → Int32 → Hp → Option (Hp)) (K23 : ∀ (v0 : Option Nat) (v1 : Int32) (v2 : Int32) (v3 : Option (Int32)) (v4 : Option (Int32)) (v5 : Option (Int32)) (v6 : Option (Int32)) (h : Hp) (r : Hp), k23 v0 v1 v2 h = some r → Rn d 225 23 [some (va_rf v0), some (.int v1), some (.int v2), v3.map Value.int, v4.map Value.int, v5.map Value.int, v6.map Value.int] [] h (none, r)) (k85 : Option Nat → Int32 → Int32 → Int32 → Int32 → Hp → Option (Hp)) (K85 : ∀ (v0 : Option Nat) (v1 : Int32) (v2 : Int32) (v3 : Int32) (v4 : Int32) (v5 : Option (Int32)) (v6 : Option (Int32)) (h : Hp) (r : Hp), k85 v0 v1 v2 v3 v4 h = some r → Rn d 225 85 [some (va_rf v0), some (.int v1), some (.int v2), some (.int v3), some (.int v4), v5.map Value.int, v6.map Value.int] [] h (none, r)) (k108 : Option Nat → Int32 → Int32 → Int32 → Int32 → Int32 → Hp → Option (Hp)) (K108 : ∀ (v0 : Option Nat) (v1 : Int32) (v2 : Int32) (v3 : Int32) (v4 : Int32) (v5 : Int32) (v6 : Option (Int32)) (h : Hp) (r : Hp), k108 v0 v1 v2 v3 v4 v5 h = some r → Rn d 225 108 [some (va_rf v0), some (.int v1), some (.int v2), some (.int v3), some (.int v4), some (.int v5), v6.map Value.int] [] h (none, r)) (v0 : Option Nat) (v1 : Int32) (v2 : Int32) (v3 : Int32) (v4 : Int32) (v5 : Int32) (v6 : Option (Int32))  (h : Hp) (r : Hp) (hb : b_225_117 k6 k23 k85 k108 v0 v1 v2 v3 v4 v5  h = some r) : Rn d 225 117 [some (va_rf v0), some (.int v1), some (.int v2), some (.int v3), some (.int v4), some (.int v5), v6.map Value.int] [] h (none, r) := by
  unfold b_225_117 at hb
  refine rn_bipush (x := (nI 10)) rfl (by decide) ?_
  refine rn_aload_n (i := 0) rfl rfl ?_
  refine rn_gQ (c := 11) (k := 25) rfl (by decide) hb (fun x1 hb => ?_)
  refine rn_iload (i := 5) rfl rfl ?_
  refine rn_aI rfl hb (fun x2 hb => ?_)
  refine rn_imul rfl ?_
  refine rn_aload_n (i := 0) rfl rfl ?_
  refine rn_gQ (c := 11) (k := 24) rfl (by decide) hb (fun x3 hb => ?_)
  refine rn_iload (i := 5) rfl rfl ?_
  refine rn_aI rfl hb (fun x4 hb => ?_)
  refine rn_iadd rfl ?_
  obtain ⟨x5, ex5, hb⟩ := bnd_spec hb
  refine rn_istore (i := 6) (L1 := [some (va_rf v0), some (.int v1), some (.int v2), some (.int v3), some (.int v4), some (.int v5), some (.int x5)]) rfl (Nat.le_of_ble_eq_true rfl) (Or.inr rfl) (by rw [ex5]; rfl) ?_
  refine rn_iload (i := 6) rfl rfl ?_
  refine rn_bipush (x := (nI 50)) rfl (by decide) ?_
  refine rn_icmp_ge rfl rfl (fun hc => ?_) (fun hc => ?_)
  · exact u_225_160 d hd k6 K6 k23 K23 k85 K85 k108 K108 v0 v1 v2 v3 v4 v5 x5  h _ (if_t hb hc)
  · exact u_225_144 d hd k6 K6 k23 K23 k85 K85 k108 K108 v0 v1 v2 v3 v4 v5 x5  h _ (if_f hb hc)
def b_225_108 (k6 : Option Nat → Int32 → Hp → Option (Hp)) (k23 : Option Nat → Int32 → Int32 → Hp → Option (Hp)) (k85 : Option Nat → Int32 → Int32 → Int32 → Int32 → Hp → Option (Hp)) (k108 : Option Nat → Int32 → Int32 → Int32 → Int32 → Int32 → Hp → Option (Hp)) (v0 : Option Nat) (v1 : Int32) (v2 : Int32) (v3 : Int32) (v4 : Int32) (v5 : Int32)  (h : Hp) : Option (Hp) :=
  (gI 11 26 v0 h).bind fun x1 =>
  if x1 ≤ v5 then b_225_182 k6 k23 k85 v0 v1 v2 v3 v4  h else b_225_117 k6 k23 k85 k108 v0 v1 v2 v3 v4 v5  h
theorem u_225_108 (d : Nat) (hd : 4 ≤ d) (k6 : Option Nat → Int32 → Hp → Option (Hp)) (K6 : ∀ (v0 : Option Nat) (v1 : Int32) (v2 : Option (Int32)) (v3 : Option (Int32)) (v4 : Option (Int32)) (v5 : Option (Int32)) (v6 : Option (Int32)) (h : Hp) (r : Hp), k6 v0 v1 h = some r → Rn d 225 6 [some (va_rf v0), some (.int v1), v2.map Value.int, v3.map Value.int, v4.map Value.int, v5.map Value.int, v6.map Value.int] [] h (none, r)) (k23 : Option Nat → Int32 → Int32 → Hp → Option (Hp)) (K23 : ∀ (v0 : Option Nat) (v1 : Int32) (v2 : Int32) (v3 : Option (Int32)) (v4 : Option (Int32)) (v5 : Option (Int32)) (v6 : Option (Int32)) (h : Hp) (r : Hp), k23 v0 v1 v2 h = some r → Rn d 225 23 [some (va_rf v0), some (.int v1), some (.int v2), v3.map Value.int, v4.map Value.int, v5.map Value.int, v6.map Value.int] [] h (none, r)) (k85 : Option Nat → Int32 → Int32 → Int32 → Int32 → Hp → Option (Hp)) (K85 : ∀ (v0 : Option Nat) (v1 : Int32) (v2 : Int32) (v3 : Int32) (v4 : Int32) (v5 : Option (Int32)) (v6 : Option (Int32)) (h : Hp) (r : Hp), k85 v0 v1 v2 v3 v4 h = some r → Rn d 225 85 [some (va_rf v0), some (.int v1), some (.int v2), some (.int v3), some (.int v4), v5.map Value.int, v6.map Value.int] [] h (none, r)) (k108 : Option Nat → Int32 → Int32 → Int32 → Int32 → Int32 → Hp → Option (Hp)) (K108 : ∀ (v0 : Option Nat) (v1 : Int32) (v2 : Int32) (v3 : Int32) (v4 : Int32) (v5 : Int32) (v6 : Option (Int32)) (h : Hp) (r : Hp), k108 v0 v1 v2 v3 v4 v5 h = some r → Rn d 225 108 [some (va_rf v0), some (.int v1), some (.int v2), some (.int v3), some (.int v4), some (.int v5), v6.map Value.int] [] h (none, r)) (v0 : Option Nat) (v1 : Int32) (v2 : Int32) (v3 : Int32) (v4 : Int32) (v5 : Int32) (v6 : Option (Int32))  (h : Hp) (r : Hp) (hb : b_225_108 k6 k23 k85 k108 v0 v1 v2 v3 v4 v5  h = some r) : Rn d 225 108 [some (va_rf v0), some (.int v1), some (.int v2), some (.int v3), some (.int v4), some (.int v5), v6.map Value.int] [] h (none, r) := by
  unfold b_225_108 at hb
  refine rn_iload (i := 5) rfl rfl ?_
  refine rn_aload_n (i := 0) rfl rfl ?_
  refine rn_gI (c := 11) (k := 26) rfl (by decide) hb (fun x1 hb => ?_)
  refine rn_icmp_ge rfl rfl (fun hc => ?_) (fun hc => ?_)
  · exact u_225_182 d hd k6 K6 k23 K23 k85 K85 v0 v1 v2 v3 v4 (some v5) v6  h _ (if_t hb hc)
  · exact u_225_117 d hd k6 K6 k23 K23 k85 K85 k108 K108 v0 v1 v2 v3 v4 v5 v6  h _ (if_f hb hc)
def l_225_108 (k6 : Option Nat → Int32 → Hp → Option (Hp)) (k23 : Option Nat → Int32 → Int32 → Hp → Option (Hp)) (k85 : Option Nat → Int32 → Int32 → Int32 → Int32 → Hp → Option (Hp)) : Nat → Option Nat → Int32 → Int32 → Int32 → Int32 → Int32 → Hp → Option (Hp)
  | 0, _, _, _, _, _, _, _ => none
  | n + 1, v0, v1, v2, v3, v4, v5, h => b_225_108 k6 k23 k85 (l_225_108 k6 k23 k85 n) v0 v1 v2 v3 v4 v5 h
theorem w_225_108 (d : Nat) (hd : 4 ≤ d) (k6 : Option Nat → Int32 → Hp → Option (Hp)) (K6 : ∀ (v0 : Option Nat) (v1 : Int32) (v2 : Option (Int32)) (v3 : Option (Int32)) (v4 : Option (Int32)) (v5 : Option (Int32)) (v6 : Option (Int32)) (h : Hp) (r : Hp), k6 v0 v1 h = some r → Rn d 225 6 [some (va_rf v0), some (.int v1), v2.map Value.int, v3.map Value.int, v4.map Value.int, v5.map Value.int, v6.map Value.int] [] h (none, r)) (k23 : Option Nat → Int32 → Int32 → Hp → Option (Hp)) (K23 : ∀ (v0 : Option Nat) (v1 : Int32) (v2 : Int32) (v3 : Option (Int32)) (v4 : Option (Int32)) (v5 : Option (Int32)) (v6 : Option (Int32)) (h : Hp) (r : Hp), k23 v0 v1 v2 h = some r → Rn d 225 23 [some (va_rf v0), some (.int v1), some (.int v2), v3.map Value.int, v4.map Value.int, v5.map Value.int, v6.map Value.int] [] h (none, r)) (k85 : Option Nat → Int32 → Int32 → Int32 → Int32 → Hp → Option (Hp)) (K85 : ∀ (v0 : Option Nat) (v1 : Int32) (v2 : Int32) (v3 : Int32) (v4 : Int32) (v5 : Option (Int32)) (v6 : Option (Int32)) (h : Hp) (r : Hp), k85 v0 v1 v2 v3 v4 h = some r → Rn d 225 85 [some (va_rf v0), some (.int v1), some (.int v2), some (.int v3), some (.int v4), v5.map Value.int, v6.map Value.int] [] h (none, r)) : ∀ (n : Nat) (v0 : Option Nat) (v1 : Int32) (v2 : Int32) (v3 : Int32) (v4 : Int32) (v5 : Int32) (v6 : Option (Int32)) (h : Hp) (r : Hp), l_225_108 k6 k23 k85 n v0 v1 v2 v3 v4 v5 h = some r → Rn d 225 108 [some (va_rf v0), some (.int v1), some (.int v2), some (.int v3), some (.int v4), some (.int v5), v6.map Value.int] [] h (none, r) := by
  intro n
  induction n with
  | zero => intro v0 v1 v2 v3 v4 v5 v6 h r hb; cases hb
  | succ n ih => intro v0 v1 v2 v3 v4 v5 v6 h r hb; exact u_225_108 d hd k6 K6 k23 K23 k85 K85 (l_225_108 k6 k23 k85 n) ih v0 v1 v2 v3 v4 v5 v6 h r hb
def b_225_105 (k6 : Option Nat → Int32 → Hp → Option (Hp)) (k23 : Option Nat → Int32 → Int32 → Hp → Option (Hp)) (k85 : Option Nat → Int32 → Int32 → Int32 → Int32 → Hp → Option (Hp)) (v0 : Option Nat) (v1 : Int32) (v2 : Int32) (v3 : Int32) (v4 : Int32)  (h : Hp) : Option (Hp) :=
  bnd ((nI 0)) fun x1 =>
  l_225_108 k6 k23 k85 FU v0 v1 v2 v3 v4 x1 h
theorem u_225_105 (d : Nat) (hd : 4 ≤ d) (k6 : Option Nat → Int32 → Hp → Option (Hp)) (K6 : ∀ (v0 : Option Nat) (v1 : Int32) (v2 : Option (Int32)) (v3 : Option (Int32)) (v4 : Option (Int32)) (v5 : Option (Int32)) (v6 : Option (Int32)) (h : Hp) (r : Hp), k6 v0 v1 h = some r → Rn d 225 6 [some (va_rf v0), some (.int v1), v2.map Value.int, v3.map Value.int, v4.map Value.int, v5.map Value.int, v6.map Value.int] [] h (none, r)) (k23 : Option Nat → Int32 → Int32 → Hp → Option (Hp)) (K23 : ∀ (v0 : Option Nat) (v1 : Int32) (v2 : Int32) (v3 : Option (Int32)) (v4 : Option (Int32)) (v5 : Option (Int32)) (v6 : Option (Int32)) (h : Hp) (r : Hp), k23 v0 v1 v2 h = some r → Rn d 225 23 [some (va_rf v0), some (.int v1), some (.int v2), v3.map Value.int, v4.map Value.int, v5.map Value.int, v6.map Value.int] [] h (none, r)) (k85 : Option Nat → Int32 → Int32 → Int32 → Int32 → Hp → Option (Hp)) (K85 : ∀ (v0 : Option Nat) (v1 : Int32) (v2 : Int32) (v3 : Int32) (v4 : Int32) (v5 : Option (Int32)) (v6 : Option (Int32)) (h : Hp) (r : Hp), k85 v0 v1 v2 v3 v4 h = some r → Rn d 225 85 [some (va_rf v0), some (.int v1), some (.int v2), some (.int v3), some (.int v4), v5.map Value.int, v6.map Value.int] [] h (none, r)) (v0 : Option Nat) (v1 : Int32) (v2 : Int32) (v3 : Int32) (v4 : Int32) (v5 : Option (Int32)) (v6 : Option (Int32))  (h : Hp) (r : Hp) (hb : b_225_105 k6 k23 k85 v0 v1 v2 v3 v4  h = some r) : Rn d 225 105 [some (va_rf v0), some (.int v1), some (.int v2), some (.int v3), some (.int v4), v5.map Value.int, v6.map Value.int] [] h (none, r) := by
  unfold b_225_105 at hb
  refine rn_iconst (x := (nI 0)) rfl (by decide) ?_
  obtain ⟨x1, ex1, hb⟩ := bnd_spec hb
  refine rn_istore (i := 5) (L1 := [some (va_rf v0), some (.int v1), some (.int v2), some (.int v3), some (.int v4), some (.int x1), v6.map Value.int]) rfl (Nat.le_of_ble_eq_true rfl) (Or.inr rfl) (by rw [ex1]; rfl) ?_
  exact w_225_108 d hd k6 K6 k23 K23 k85 K85 FU v0 v1 v2 v3 v4 x1 v6 h _ hb
def b_225_102 (k6 : Option Nat → Int32 → Hp → Option (Hp)) (k23 : Option Nat → Int32 → Int32 → Hp → Option (Hp)) (k85 : Option Nat → Int32 → Int32 → Int32 → Int32 → Hp → Option (Hp)) (v0 : Option Nat) (v1 : Int32) (v2 : Int32) (v3 : Int32) (v4 : Int32)  (h : Hp) : Option (Hp) :=
  b_225_182 k6 k23 k85 v0 v1 v2 v3 v4  h
theorem u_225_102 (d : Nat) (hd : 4 ≤ d) (k6 : Option Nat → Int32 → Hp → Option (Hp)) (K6 : ∀ (v0 : Option Nat) (v1 : Int32) (v2 : Option (Int32)) (v3 : Option (Int32)) (v4 : Option (Int32)) (v5 : Option (Int32)) (v6 : Option (Int32)) (h : Hp) (r : Hp), k6 v0 v1 h = some r → Rn d 225 6 [some (va_rf v0), some (.int v1), v2.map Value.int, v3.map Value.int, v4.map Value.int, v5.map Value.int, v6.map Value.int] [] h (none, r)) (k23 : Option Nat → Int32 → Int32 → Hp → Option (Hp)) (K23 : ∀ (v0 : Option Nat) (v1 : Int32) (v2 : Int32) (v3 : Option (Int32)) (v4 : Option (Int32)) (v5 : Option (Int32)) (v6 : Option (Int32)) (h : Hp) (r : Hp), k23 v0 v1 v2 h = some r → Rn d 225 23 [some (va_rf v0), some (.int v1), some (.int v2), v3.map Value.int, v4.map Value.int, v5.map Value.int, v6.map Value.int] [] h (none, r)) (k85 : Option Nat → Int32 → Int32 → Int32 → Int32 → Hp → Option (Hp)) (K85 : ∀ (v0 : Option Nat) (v1 : Int32) (v2 : Int32) (v3 : Int32) (v4 : Int32) (v5 : Option (Int32)) (v6 : Option (Int32)) (h : Hp) (r : Hp), k85 v0 v1 v2 v3 v4 h = some r → Rn d 225 85 [some (va_rf v0), some (.int v1), some (.int v2), some (.int v3), some (.int v4), v5.map Value.int, v6.map Value.int] [] h (none, r)) (v0 : Option Nat) (v1 : Int32) (v2 : Int32) (v3 : Int32) (v4 : Int32) (v5 : Option (Int32)) (v6 : Option (Int32))  (h : Hp) (r : Hp) (hb : b_225_102 k6 k23 k85 v0 v1 v2 v3 v4  h = some r) : Rn d 225 102 [some (va_rf v0), some (.int v1), some (.int v2), some (.int v3), some (.int v4), v5.map Value.int, v6.map Value.int] [] h (none, r) := by
  unfold b_225_102 at hb
  refine rn_goto rfl rfl ?_
  exact u_225_182 d hd k6 K6 k23 K23 k85 K85 v0 v1 v2 v3 v4 v5 v6  h _ hb
def b_225_91 (k6 : Option Nat → Int32 → Hp → Option (Hp)) (k23 : Option Nat → Int32 → Int32 → Hp → Option (Hp)) (k85 : Option Nat → Int32 → Int32 → Int32 → Int32 → Hp → Option (Hp)) (v0 : Option Nat) (v1 : Int32) (v2 : Int32) (v3 : Int32) (v4 : Int32)  (h : Hp) : Option (Hp) :=
  (grd (rC 11 v0 h)).bind fun _ =>
  (f_221 v0 v1 v2 v4 h).bind fun p1 =>
  if ¬ p1.1 = 0 then b_225_105 k6 k23 k85 v0 v1 v2 v3 v4  p1.2 else b_225_102 k6 k23 k85 v0 v1 v2 v3 v4  p1.2
theorem u_225_91 (d : Nat) (hd : 4 ≤ d) (k6 : Option Nat → Int32 → Hp → Option (Hp)) (K6 : ∀ (v0 : Option Nat) (v1 : Int32) (v2 : Option (Int32)) (v3 : Option (Int32)) (v4 : Option (Int32)) (v5 : Option (Int32)) (v6 : Option (Int32)) (h : Hp) (r : Hp), k6 v0 v1 h = some r → Rn d 225 6 [some (va_rf v0), some (.int v1), v2.map Value.int, v3.map Value.int, v4.map Value.int, v5.map Value.int, v6.map Value.int] [] h (none, r)) (k23 : Option Nat → Int32 → Int32 → Hp → Option (Hp)) (K23 : ∀ (v0 : Option Nat) (v1 : Int32) (v2 : Int32) (v3 : Option (Int32)) (v4 : Option (Int32)) (v5 : Option (Int32)) (v6 : Option (Int32)) (h : Hp) (r : Hp), k23 v0 v1 v2 h = some r → Rn d 225 23 [some (va_rf v0), some (.int v1), some (.int v2), v3.map Value.int, v4.map Value.int, v5.map Value.int, v6.map Value.int] [] h (none, r)) (k85 : Option Nat → Int32 → Int32 → Int32 → Int32 → Hp → Option (Hp)) (K85 : ∀ (v0 : Option Nat) (v1 : Int32) (v2 : Int32) (v3 : Int32) (v4 : Int32) (v5 : Option (Int32)) (v6 : Option (Int32)) (h : Hp) (r : Hp), k85 v0 v1 v2 v3 v4 h = some r → Rn d 225 85 [some (va_rf v0), some (.int v1), some (.int v2), some (.int v3), some (.int v4), v5.map Value.int, v6.map Value.int] [] h (none, r)) (v0 : Option Nat) (v1 : Int32) (v2 : Int32) (v3 : Int32) (v4 : Int32) (v5 : Option (Int32)) (v6 : Option (Int32))  (h : Hp) (r : Hp) (hb : b_225_91 k6 k23 k85 v0 v1 v2 v3 v4  h = some r) : Rn d 225 91 [some (va_rf v0), some (.int v1), some (.int v2), some (.int v3), some (.int v4), v5.map Value.int, v6.map Value.int] [] h (none, r) := by
  unfold b_225_91 at hb
  obtain ⟨e, rfl⟩ : ∃ e, d = e + 1 := ⟨d - 1, by omega⟩
  refine rn_aload_n (i := 0) rfl rfl ?_
  refine rn_iload_n (i := 1) rfl rfl ?_
  refine rn_iload_n (i := 2) rfl rfl ?_
  refine rn_iload (i := 4) rfl rfl ?_
  obtain ⟨hrc, hb⟩ := grd_spec hb
  obtain ⟨p1, hc, hb⟩ := Option.bind_eq_some_iff.mp hb
  refine Rn.call1 (d := e) (As := [va_rf v0, .int v1, .int v2, .int v4]) (rest := []) rfl rfl rfl (by decide) rfl rfl rfl (bd_rcV hrc rfl) (by decide) (bd_lenC (n := 5) rfl (bd_slR (bd_slI (bd_slI (bd_slI bd_slN)))) rfl) (bd_locC (n := 5) rfl (bd_slR (bd_slI (bd_slI (bd_slI bd_slN)))) rfl (t_221 e (by omega) v0 v1 v2 v4 h _ hc)) ?_
  refine rn_if_ne rfl rfl (fun hc => ?_) (fun hc => ?_)
  · exact u_225_105 (e + 1) hd k6 K6 k23 K23 k85 K85 v0 v1 v2 v3 v4 v5 v6  p1.2 _ (if_t hb hc)
  · exact u_225_102 (e + 1) hd k6 K6 k23 K23 k85 K85 v0 v1 v2 v3 v4 v5 v6  p1.2 _ (if_f hb hc)
def b_225_85 (k6 : Option Nat → Int32 → Hp → Option (Hp)) (k23 : Option Nat → Int32 → Int32 → Hp → Option (Hp)) (k85 : Option Nat → Int32 → Int32 → Int32 → Int32 → Hp → Option (Hp)) (v0 : Option Nat) (v1 : Int32) (v2 : Int32) (v3 : Int32) (v4 : Int32)  (h : Hp) : Option (Hp) :=
  if (nI 3) ≤ v4 then b_225_188 k6 k23 v0 v1 v2  h else b_225_91 k6 k23 k85 v0 v1 v2 v3 v4  h
theorem u_225_85 (d : Nat) (hd : 4 ≤ d) (k6 : Option Nat → Int32 → Hp → Option (Hp)) (K6 : ∀ (v0 : Option Nat) (v1 : Int32) (v2 : Option (Int32)) (v3 : Option (Int32)) (v4 : Option (Int32)) (v5 : Option (Int32)) (v6 : Option (Int32)) (h : Hp) (r : Hp), k6 v0 v1 h = some r → Rn d 225 6 [some (va_rf v0), some (.int v1), v2.map Value.int, v3.map Value.int, v4.map Value.int, v5.map Value.int, v6.map Value.int] [] h (none, r)) (k23 : Option Nat → Int32 → Int32 → Hp → Option (Hp)) (K23 : ∀ (v0 : Option Nat) (v1 : Int32) (v2 : Int32) (v3 : Option (Int32)) (v4 : Option (Int32)) (v5 : Option (Int32)) (v6 : Option (Int32)) (h : Hp) (r : Hp), k23 v0 v1 v2 h = some r → Rn d 225 23 [some (va_rf v0), some (.int v1), some (.int v2), v3.map Value.int, v4.map Value.int, v5.map Value.int, v6.map Value.int] [] h (none, r)) (k85 : Option Nat → Int32 → Int32 → Int32 → Int32 → Hp → Option (Hp)) (K85 : ∀ (v0 : Option Nat) (v1 : Int32) (v2 : Int32) (v3 : Int32) (v4 : Int32) (v5 : Option (Int32)) (v6 : Option (Int32)) (h : Hp) (r : Hp), k85 v0 v1 v2 v3 v4 h = some r → Rn d 225 85 [some (va_rf v0), some (.int v1), some (.int v2), some (.int v3), some (.int v4), v5.map Value.int, v6.map Value.int] [] h (none, r)) (v0 : Option Nat) (v1 : Int32) (v2 : Int32) (v3 : Int32) (v4 : Int32) (v5 : Option (Int32)) (v6 : Option (Int32))  (h : Hp) (r : Hp) (hb : b_225_85 k6 k23 k85 v0 v1 v2 v3 v4  h = some r) : Rn d 225 85 [some (va_rf v0), some (.int v1), some (.int v2), some (.int v3), some (.int v4), v5.map Value.int, v6.map Value.int] [] h (none, r) := by
  unfold b_225_85 at hb
  refine rn_iload (i := 4) rfl rfl ?_
  refine rn_iconst (x := (nI 3)) rfl (by decide) ?_
  refine rn_icmp_ge rfl rfl (fun hc => ?_) (fun hc => ?_)
  · exact u_225_188 d hd k6 K6 k23 K23 v0 v1 v2 v3 v4 v5 v6  h _ (if_t hb hc)
  · exact u_225_91 d hd k6 K6 k23 K23 k85 K85 v0 v1 v2 v3 v4 v5 v6  h _ (if_f hb hc)
def l_225_85 (k6 : Option Nat → Int32 → Hp → Option (Hp)) (k23 : Option Nat → Int32 → Int32 → Hp → Option (Hp)) : Nat → Option Nat → Int32 → Int32 → Int32 → Int32 → Hp → Option (Hp)
  | 0, _, _, _, _, _, _ => none
  | n + 1, v0, v1, v2, v3, v4, h => b_225_85 k6 k23 (l_225_85 k6 k23 n) v0 v1 v2 v3 v4 h
theorem w_225_85 (d : Nat) (hd : 4 ≤ d) (k6 : Option Nat → Int32 → Hp → Option (Hp)) (K6 : ∀ (v0 : Option Nat) (v1 : Int32) (v2 : Option (Int32)) (v3 : Option (Int32)) (v4 : Option (Int32)) (v5 : Option (Int32)) (v6 : Option (Int32)) (h : Hp) (r : Hp), k6 v0 v1 h = some r → Rn d 225 6 [some (va_rf v0), some (.int v1), v2.map Value.int, v3.map Value.int, v4.map Value.int, v5.map Value.int, v6.map Value.int] [] h (none, r)) (k23 : Option Nat → Int32 → Int32 → Hp → Option (Hp)) (K23 : ∀ (v0 : Option Nat) (v1 : Int32) (v2 : Int32) (v3 : Option (Int32)) (v4 : Option (Int32)) (v5 : Option (Int32)) (v6 : Option (Int32)) (h : Hp) (r : Hp), k23 v0 v1 v2 h = some r → Rn d 225 23 [some (va_rf v0), some (.int v1), some (.int v2), v3.map Value.int, v4.map Value.int, v5.map Value.int, v6.map Value.int] [] h (none, r)) : ∀ (n : Nat) (v0 : Option Nat) (v1 : Int32) (v2 : Int32) (v3 : Int32) (v4 : Int32) (v5 : Option (Int32)) (v6 : Option (Int32)) (h : Hp) (r : Hp), l_225_85 k6 k23 n v0 v1 v2 v3 v4 h = some r → Rn d 225 85 [some (va_rf v0), some (.int v1), some (.int v2), some (.int v3), some (.int v4), v5.map Value.int, v6.map Value.int] [] h (none, r) := by
  intro n
  induction n with
  | zero => intro v0 v1 v2 v3 v4 v5 v6 h r hb; cases hb
  | succ n ih => intro v0 v1 v2 v3 v4 v5 v6 h r hb; exact u_225_85 d hd k6 K6 k23 K23 (l_225_85 k6 k23 n) ih v0 v1 v2 v3 v4 v5 v6 h r hb
def b_225_82 (k6 : Option Nat → Int32 → Hp → Option (Hp)) (k23 : Option Nat → Int32 → Int32 → Hp → Option (Hp)) (v0 : Option Nat) (v1 : Int32) (v2 : Int32) (v3 : Int32)  (h : Hp) : Option (Hp) :=
  bnd ((nI 1)) fun x1 =>
  l_225_85 k6 k23 FU v0 v1 v2 v3 x1 h
theorem u_225_82 (d : Nat) (hd : 4 ≤ d) (k6 : Option Nat → Int32 → Hp → Option (Hp)) (K6 : ∀ (v0 : Option Nat) (v1 : Int32) (v2 : Option (Int32)) (v3 : Option (Int32)) (v4 : Option (Int32)) (v5 : Option (Int32)) (v6 : Option (Int32)) (h : Hp) (r : Hp), k6 v0 v1 h = some r → Rn d 225 6 [some (va_rf v0), some (.int v1), v2.map Value.int, v3.map Value.int, v4.map Value.int, v5.map Value.int, v6.map Value.int] [] h (none, r)) (k23 : Option Nat → Int32 → Int32 → Hp → Option (Hp)) (K23 : ∀ (v0 : Option Nat) (v1 : Int32) (v2 : Int32) (v3 : Option (Int32)) (v4 : Option (Int32)) (v5 : Option (Int32)) (v6 : Option (Int32)) (h : Hp) (r : Hp), k23 v0 v1 v2 h = some r → Rn d 225 23 [some (va_rf v0), some (.int v1), some (.int v2), v3.map Value.int, v4.map Value.int, v5.map Value.int, v6.map Value.int] [] h (none, r)) (v0 : Option Nat) (v1 : Int32) (v2 : Int32) (v3 : Int32) (v4 : Option (Int32)) (v5 : Option (Int32)) (v6 : Option (Int32))  (h : Hp) (r : Hp) (hb : b_225_82 k6 k23 v0 v1 v2 v3  h = some r) : Rn d 225 82 [some (va_rf v0), some (.int v1), some (.int v2), some (.int v3), v4.map Value.int, v5.map Value.int, v6.map Value.int] [] h (none, r) := by
  unfold b_225_82 at hb
  refine rn_iconst (x := (nI 1)) rfl (by decide) ?_
  obtain ⟨x1, ex1, hb⟩ := bnd_spec hb
  refine rn_istore (i := 4) (L1 := [some (va_rf v0), some (.int v1), some (.int v2), some (.int v3), some (.int x1), v5.map Value.int, v6.map Value.int]) rfl (Nat.le_of_ble_eq_true rfl) (Or.inr rfl) (by rw [ex1]; rfl) ?_
  exact w_225_85 d hd k6 K6 k23 K23 FU v0 v1 v2 v3 x1 v5 v6 h _ hb
def b_225_70 (k6 : Option Nat → Int32 → Hp → Option (Hp)) (k23 : Option Nat → Int32 → Int32 → Hp → Option (Hp)) (v0 : Option Nat) (v1 : Int32) (v2 : Int32) (v3 : Int32)  (h : Hp) : Option (Hp) :=
  (gQ 11 29 v0 h).bind fun x1 =>
  (aI 12 x1 v1 h).bind fun x2 =>
  (wI x1 v1 (x2 ||| ((nI 1) <<< (v2 &&& 31))) h).bind fun h3 =>
  b_225_82 k6 k23 v0 v1 v2 v3  h3
theorem u_225_70 (d : Nat) (hd : 4 ≤ d) (k6 : Option Nat → Int32 → Hp → Option (Hp)) (K6 : ∀ (v0 : Option Nat) (v1 : Int32) (v2 : Option (Int32)) (v3 : Option (Int32)) (v4 : Option (Int32)) (v5 : Option (Int32)) (v6 : Option (Int32)) (h : Hp) (r : Hp), k6 v0 v1 h = some r → Rn d 225 6 [some (va_rf v0), some (.int v1), v2.map Value.int, v3.map Value.int, v4.map Value.int, v5.map Value.int, v6.map Value.int] [] h (none, r)) (k23 : Option Nat → Int32 → Int32 → Hp → Option (Hp)) (K23 : ∀ (v0 : Option Nat) (v1 : Int32) (v2 : Int32) (v3 : Option (Int32)) (v4 : Option (Int32)) (v5 : Option (Int32)) (v6 : Option (Int32)) (h : Hp) (r : Hp), k23 v0 v1 v2 h = some r → Rn d 225 23 [some (va_rf v0), some (.int v1), some (.int v2), v3.map Value.int, v4.map Value.int, v5.map Value.int, v6.map Value.int] [] h (none, r)) (v0 : Option Nat) (v1 : Int32) (v2 : Int32) (v3 : Int32) (v4 : Option (Int32)) (v5 : Option (Int32)) (v6 : Option (Int32))  (h : Hp) (r : Hp) (hb : b_225_70 k6 k23 v0 v1 v2 v3  h = some r) : Rn d 225 70 [some (va_rf v0), some (.int v1), some (.int v2), some (.int v3), v4.map Value.int, v5.map Value.int, v6.map Value.int] [] h (none, r) := by
  unfold b_225_70 at hb
  refine rn_aload_n (i := 0) rfl rfl ?_
  refine rn_gQ (c := 11) (k := 29) rfl (by decide) hb (fun x1 hb => ?_)
  refine rn_iload_n (i := 1) rfl rfl ?_
  refine rn_dup2 rfl rfl (bd_cat_rf _) ?_
  refine rn_aI rfl hb (fun x2 hb => ?_)
  refine rn_iconst (x := (nI 1)) rfl (by decide) ?_
  refine rn_iload_n (i := 2) rfl rfl ?_
  refine rn_ishl rfl ?_
  refine rn_ior rfl ?_
  refine rn_wI rfl hb (fun h3 hb => ?_)
  exact u_225_82 d hd k6 K6 k23 K23 v0 v1 v2 v3 v4 v5 v6  h3 _ hb
def b_225_61 (k6 : Option Nat → Int32 → Hp → Option (Hp)) (k23 : Option Nat → Int32 → Int32 → Hp → Option (Hp)) (v0 : Option Nat) (v1 : Int32) (v2 : Int32) (v3 : Int32)  (h : Hp) : Option (Hp) :=
  (grd (rC 11 v0 h)).bind fun _ =>
  (f_223 v0 v1 v2 h).bind fun p1 =>
  if p1.1 = 0 then b_225_82 k6 k23 v0 v1 v2 v3  p1.2 else b_225_70 k6 k23 v0 v1 v2 v3  p1.2
theorem u_225_61 (d : Nat) (hd : 4 ≤ d) (k6 : Option Nat → Int32 → Hp → Option (Hp)) (K6 : ∀ (v0 : Option Nat) (v1 : Int32) (v2 : Option (Int32)) (v3 : Option (Int32)) (v4 : Option (Int32)) (v5 : Option (Int32)) (v6 : Option (Int32)) (h : Hp) (r : Hp), k6 v0 v1 h = some r → Rn d 225 6 [some (va_rf v0), some (.int v1), v2.map Value.int, v3.map Value.int, v4.map Value.int, v5.map Value.int, v6.map Value.int] [] h (none, r)) (k23 : Option Nat → Int32 → Int32 → Hp → Option (Hp)) (K23 : ∀ (v0 : Option Nat) (v1 : Int32) (v2 : Int32) (v3 : Option (Int32)) (v4 : Option (Int32)) (v5 : Option (Int32)) (v6 : Option (Int32)) (h : Hp) (r : Hp), k23 v0 v1 v2 h = some r → Rn d 225 23 [some (va_rf v0), some (.int v1), some (.int v2), v3.map Value.int, v4.map Value.int, v5.map Value.int, v6.map Value.int] [] h (none, r)) (v0 : Option Nat) (v1 : Int32) (v2 : Int32) (v3 : Int32) (v4 : Option (Int32)) (v5 : Option (Int32)) (v6 : Option (Int32))  (h : Hp) (r : Hp) (hb : b_225_61 k6 k23 v0 v1 v2 v3  h = some r) : Rn d 225 61 [some (va_rf v0), some (.int v1), some (.int v2), some (.int v3), v4.map Value.int, v5.map Value.int, v6.map Value.int] [] h (none, r) := by
  unfold b_225_61 at hb
  obtain ⟨e, rfl⟩ : ∃ e, d = e + 1 := ⟨d - 1, by omega⟩
  refine rn_aload_n (i := 0) rfl rfl ?_
  refine rn_iload_n (i := 1) rfl rfl ?_
  refine rn_iload_n (i := 2) rfl rfl ?_
  obtain ⟨hrc, hb⟩ := grd_spec hb
  obtain ⟨p1, hc, hb⟩ := Option.bind_eq_some_iff.mp hb
  refine Rn.call1 (d := e) (As := [va_rf v0, .int v1, .int v2]) (rest := []) rfl rfl rfl (by decide) rfl rfl rfl (bd_rcV hrc rfl) (by decide) (bd_lenC (n := 3) rfl (bd_slR (bd_slI (bd_slI bd_slN))) rfl) (bd_locC (n := 3) rfl (bd_slR (bd_slI (bd_slI bd_slN))) rfl (t_223 e (by omega) v0 v1 v2 h _ hc)) ?_
  refine rn_if_eq rfl rfl (fun hc => ?_) (fun hc => ?_)
  · exact u_225_82 (e + 1) hd k6 K6 k23 K23 v0 v1 v2 v3 v4 v5 v6  p1.2 _ (if_t hb hc)
  · exact u_225_70 (e + 1) hd k6 K6 k23 K23 v0 v1 v2 v3 v4 v5 v6  p1.2 _ (if_f hb hc)
def b_225_28 (k6 : Option Nat → Int32 → Hp → Option (Hp)) (k23 : Option Nat → Int32 → Int32 → Hp → Option (Hp)) (v0 : Option Nat) (v1 : Int32) (v2 : Int32)  (h : Hp) : Option (Hp) :=
  bnd ((((nI 4) * v1) + v2)) fun x1 =>
  (gQ 11 27 v0 h).bind fun x2 =>
  (wJ x2 x1 (lN 0) h).bind fun h3 =>
  (gQ 11 28 v0 h3).bind fun x4 =>
  (wJ x4 x1 (lN 0) h3).bind fun h5 =>
  (grd (rC 11 v0 h5)).bind fun _ =>
  (f_205 v0 v1 (nI 5) h5).bind fun p6 =>
  (f_183 p6.1 v2 p6.2).bind fun p7 =>
  if p7.1 = 0 then b_225_82 k6 k23 v0 v1 v2 x1  p7.2 else b_225_61 k6 k23 v0 v1 v2 x1  p7.2
theorem u_225_28 (d : Nat) (hd : 4 ≤ d) (k6 : Option Nat → Int32 → Hp → Option (Hp)) (K6 : ∀ (v0 : Option Nat) (v1 : Int32) (v2 : Option (Int32)) (v3 : Option (Int32)) (v4 : Option (Int32)) (v5 : Option (Int32)) (v6 : Option (Int32)) (h : Hp) (r : Hp), k6 v0 v1 h = some r → Rn d 225 6 [some (va_rf v0), some (.int v1), v2.map Value.int, v3.map Value.int, v4.map Value.int, v5.map Value.int, v6.map Value.int] [] h (none, r)) (k23 : Option Nat → Int32 → Int32 → Hp → Option (Hp)) (K23 : ∀ (v0 : Option Nat) (v1 : Int32) (v2 : Int32) (v3 : Option (Int32)) (v4 : Option (Int32)) (v5 : Option (Int32)) (v6 : Option (Int32)) (h : Hp) (r : Hp), k23 v0 v1 v2 h = some r → Rn d 225 23 [some (va_rf v0), some (.int v1), some (.int v2), v3.map Value.int, v4.map Value.int, v5.map Value.int, v6.map Value.int] [] h (none, r)) (v0 : Option Nat) (v1 : Int32) (v2 : Int32) (v3 : Option (Int32)) (v4 : Option (Int32)) (v5 : Option (Int32)) (v6 : Option (Int32))  (h : Hp) (r : Hp) (hb : b_225_28 k6 k23 v0 v1 v2  h = some r) : Rn d 225 28 [some (va_rf v0), some (.int v1), some (.int v2), v3.map Value.int, v4.map Value.int, v5.map Value.int, v6.map Value.int] [] h (none, r) := by
  unfold b_225_28 at hb
  obtain ⟨e, rfl⟩ : ∃ e, d = e + 1 := ⟨d - 1, by omega⟩
  refine rn_iconst (x := (nI 4)) rfl (by decide) ?_
  refine rn_iload_n (i := 1) rfl rfl ?_
  refine rn_imul rfl ?_
  refine rn_iload_n (i := 2) rfl rfl ?_
  refine rn_iadd rfl ?_
  obtain ⟨x1, ex1, hb⟩ := bnd_spec hb
  refine rn_istore_n (i := 3) (L1 := [some (va_rf v0), some (.int v1), some (.int v2), some (.int x1), v4.map Value.int, v5.map Value.int, v6.map Value.int]) rfl (Nat.le_of_ble_eq_true rfl) (Or.inr rfl) (by rw [ex1]; rfl) ?_
  refine rn_aload_n (i := 0) rfl rfl ?_
  refine rn_gQ (c := 11) (k := 27) rfl (by decide) hb (fun x2 hb => ?_)
  refine rn_iload_n (i := 3) rfl rfl ?_
  refine rn_lconst (x := (lN 0)) rfl (by decide) ?_
  refine rn_wJ rfl hb (fun h3 hb => ?_)
  refine rn_aload_n (i := 0) rfl rfl ?_
  refine rn_gQ (c := 11) (k := 28) rfl (by decide) hb (fun x4 hb => ?_)
  refine rn_iload_n (i := 3) rfl rfl ?_
  refine rn_lconst (x := (lN 0)) rfl (by decide) ?_
  refine rn_wJ rfl hb (fun h5 hb => ?_)
  refine rn_aload_n (i := 0) rfl rfl ?_
  refine rn_iload_n (i := 1) rfl rfl ?_
  refine rn_iconst (x := (nI 5)) rfl (by decide) ?_
  obtain ⟨hrc, hb⟩ := grd_spec hb
  obtain ⟨p6, hc, hb⟩ := Option.bind_eq_some_iff.mp hb
  refine Rn.call1 (d := e) (As := [va_rf v0, .int v1, .int (nI 5)]) (rest := []) rfl rfl rfl (by decide) rfl rfl rfl (bd_rcV hrc rfl) (by decide) (bd_lenC (n := 3) rfl (bd_slR (bd_slI (bd_slI bd_slN))) rfl) (bd_locC (n := 3) rfl (bd_slR (bd_slI (bd_slI bd_slN))) rfl (t_205 e (by omega) v0 v1 (nI 5) h5 _ hc)) ?_
  refine rn_iload_n (i := 2) rfl rfl ?_
  obtain ⟨p7, hc, hb⟩ := Option.bind_eq_some_iff.mp hb
  refine Rn.call1 (d := e) (As := [.int p6.1, .int v2]) (rest := []) rfl rfl rfl (by decide) rfl rfl rfl rfl (by decide) (bd_lenC (n := 2) rfl (bd_slI (bd_slI bd_slN)) rfl) (bd_locC (n := 2) rfl (bd_slI (bd_slI bd_slN)) rfl (t_183 e (by omega) p6.1 v2 p6.2 _ hc)) ?_
  refine rn_if_eq rfl rfl (fun hc => ?_) (fun hc => ?_)
  · exact u_225_82 (e + 1) hd k6 K6 k23 K23 v0 v1 v2 x1 v4 v5 v6  p7.2 _ (if_t hb hc)
  · exact u_225_61 (e + 1) hd k6 K6 k23 K23 v0 v1 v2 x1 v4 v5 v6  p7.2 _ (if_f hb hc)
def b_225_23 (k6 : Option Nat → Int32 → Hp → Option (Hp)) (k23 : Option Nat → Int32 → Int32 → Hp → Option (Hp)) (v0 : Option Nat) (v1 : Int32) (v2 : Int32)  (h : Hp) : Option (Hp) :=
  if (nI 4) ≤ v2 then b_225_194 k6 v0 v1  h else b_225_28 k6 k23 v0 v1 v2  h
theorem u_225_23 (d : Nat) (hd : 4 ≤ d) (k6 : Option Nat → Int32 → Hp → Option (Hp)) (K6 : ∀ (v0 : Option Nat) (v1 : Int32) (v2 : Option (Int32)) (v3 : Option (Int32)) (v4 : Option (Int32)) (v5 : Option (Int32)) (v6 : Option (Int32)) (h : Hp) (r : Hp), k6 v0 v1 h = some r → Rn d 225 6 [some (va_rf v0), some (.int v1), v2.map Value.int, v3.map Value.int, v4.map Value.int, v5.map Value.int, v6.map Value.int] [] h (none, r)) (k23 : Option Nat → Int32 → Int32 → Hp → Option (Hp)) (K23 : ∀ (v0 : Option Nat) (v1 : Int32) (v2 : Int32) (v3 : Option (Int32)) (v4 : Option (Int32)) (v5 : Option (Int32)) (v6 : Option (Int32)) (h : Hp) (r : Hp), k23 v0 v1 v2 h = some r → Rn d 225 23 [some (va_rf v0), some (.int v1), some (.int v2), v3.map Value.int, v4.map Value.int, v5.map Value.int, v6.map Value.int] [] h (none, r)) (v0 : Option Nat) (v1 : Int32) (v2 : Int32) (v3 : Option (Int32)) (v4 : Option (Int32)) (v5 : Option (Int32)) (v6 : Option (Int32))  (h : Hp) (r : Hp) (hb : b_225_23 k6 k23 v0 v1 v2  h = some r) : Rn d 225 23 [some (va_rf v0), some (.int v1), some (.int v2), v3.map Value.int, v4.map Value.int, v5.map Value.int, v6.map Value.int] [] h (none, r) := by
  unfold b_225_23 at hb
  refine rn_iload_n (i := 2) rfl rfl ?_
  refine rn_iconst (x := (nI 4)) rfl (by decide) ?_
  refine rn_icmp_ge rfl rfl (fun hc => ?_) (fun hc => ?_)
  · exact u_225_194 d hd k6 K6 v0 v1 v2 v3 v4 v5 v6  h _ (if_t hb hc)
  · exact u_225_28 d hd k6 K6 k23 K23 v0 v1 v2 v3 v4 v5 v6  h _ (if_f hb hc)
def l_225_23 (k6 : Option Nat → Int32 → Hp → Option (Hp)) : Nat → Option Nat → Int32 → Int32 → Hp → Option (Hp)
  | 0, _, _, _, _ => none
  | n + 1, v0, v1, v2, h => b_225_23 k6 (l_225_23 k6 n) v0 v1 v2 h
theorem w_225_23 (d : Nat) (hd : 4 ≤ d) (k6 : Option Nat → Int32 → Hp → Option (Hp)) (K6 : ∀ (v0 : Option Nat) (v1 : Int32) (v2 : Option (Int32)) (v3 : Option (Int32)) (v4 : Option (Int32)) (v5 : Option (Int32)) (v6 : Option (Int32)) (h : Hp) (r : Hp), k6 v0 v1 h = some r → Rn d 225 6 [some (va_rf v0), some (.int v1), v2.map Value.int, v3.map Value.int, v4.map Value.int, v5.map Value.int, v6.map Value.int] [] h (none, r)) : ∀ (n : Nat) (v0 : Option Nat) (v1 : Int32) (v2 : Int32) (v3 : Option (Int32)) (v4 : Option (Int32)) (v5 : Option (Int32)) (v6 : Option (Int32)) (h : Hp) (r : Hp), l_225_23 k6 n v0 v1 v2 h = some r → Rn d 225 23 [some (va_rf v0), some (.int v1), some (.int v2), v3.map Value.int, v4.map Value.int, v5.map Value.int, v6.map Value.int] [] h (none, r) := by
  intro n
  induction n with
  | zero => intro v0 v1 v2 v3 v4 v5 v6 h r hb; cases hb
  | succ n ih => intro v0 v1 v2 v3 v4 v5 v6 h r hb; exact u_225_23 d hd k6 K6 (l_225_23 k6 n) ih v0 v1 v2 v3 v4 v5 v6 h r hb
def b_225_14 (k6 : Option Nat → Int32 → Hp → Option (Hp)) (v0 : Option Nat) (v1 : Int32)  (h : Hp) : Option (Hp) :=
  (gQ 11 29 v0 h).bind fun x1 =>
  (wI x1 v1 (nI 0) h).bind fun h2 =>
  bnd ((nI 0)) fun x3 =>
  l_225_23 k6 FU v0 v1 x3 h2
theorem u_225_14 (d : Nat) (hd : 4 ≤ d) (k6 : Option Nat → Int32 → Hp → Option (Hp)) (K6 : ∀ (v0 : Option Nat) (v1 : Int32) (v2 : Option (Int32)) (v3 : Option (Int32)) (v4 : Option (Int32)) (v5 : Option (Int32)) (v6 : Option (Int32)) (h : Hp) (r : Hp), k6 v0 v1 h = some r → Rn d 225 6 [some (va_rf v0), some (.int v1), v2.map Value.int, v3.map Value.int, v4.map Value.int, v5.map Value.int, v6.map Value.int] [] h (none, r)) (v0 : Option Nat) (v1 : Int32) (v2 : Option (Int32)) (v3 : Option (Int32)) (v4 : Option (Int32)) (v5 : Option (Int32)) (v6 : Option (Int32))  (h : Hp) (r : Hp) (hb : b_225_14 k6 v0 v1  h = some r) : Rn d 225 14 [some (va_rf v0), some (.int v1), v2.map Value.int, v3.map Value.int, v4.map Value.int, v5.map Value.int, v6.map Value.int] [] h (none, r) := by
  unfold b_225_14 at hb
  refine rn_aload_n (i := 0) rfl rfl ?_
  refine rn_gQ (c := 11) (k := 29) rfl (by decide) hb (fun x1 hb => ?_)
  refine rn_iload_n (i := 1) rfl rfl ?_
  refine rn_iconst (x := (nI 0)) rfl (by decide) ?_
  refine rn_wI rfl hb (fun h2 hb => ?_)
  refine rn_iconst (x := (nI 0)) rfl (by decide) ?_
  obtain ⟨x3, ex3, hb⟩ := bnd_spec hb
  refine rn_istore_n (i := 2) (L1 := [some (va_rf v0), some (.int v1), some (.int x3), v3.map Value.int, v4.map Value.int, v5.map Value.int, v6.map Value.int]) rfl (Nat.le_of_ble_eq_true rfl) (Or.inr rfl) (by rw [ex3]; rfl) ?_
  exact w_225_23 d hd k6 K6 FU v0 v1 x3 v3 v4 v5 v6 h2 _ hb
def b_225_6 (k6 : Option Nat → Int32 → Hp → Option (Hp)) (v0 : Option Nat) (v1 : Int32)  (h : Hp) : Option (Hp) :=
  (grd (rC 11 v0 h)).bind fun _ =>
  (f_203 v0 h).bind fun p1 =>
  if p1.1 ≤ v1 then b_225_200   p1.2 else b_225_14 k6 v0 v1  p1.2
theorem u_225_6 (d : Nat) (hd : 4 ≤ d) (k6 : Option Nat → Int32 → Hp → Option (Hp)) (K6 : ∀ (v0 : Option Nat) (v1 : Int32) (v2 : Option (Int32)) (v3 : Option (Int32)) (v4 : Option (Int32)) (v5 : Option (Int32)) (v6 : Option (Int32)) (h : Hp) (r : Hp), k6 v0 v1 h = some r → Rn d 225 6 [some (va_rf v0), some (.int v1), v2.map Value.int, v3.map Value.int, v4.map Value.int, v5.map Value.int, v6.map Value.int] [] h (none, r)) (v0 : Option Nat) (v1 : Int32) (v2 : Option (Int32)) (v3 : Option (Int32)) (v4 : Option (Int32)) (v5 : Option (Int32)) (v6 : Option (Int32))  (h : Hp) (r : Hp) (hb : b_225_6 k6 v0 v1  h = some r) : Rn d 225 6 [some (va_rf v0), some (.int v1), v2.map Value.int, v3.map Value.int, v4.map Value.int, v5.map Value.int, v6.map Value.int] [] h (none, r) := by
  unfold b_225_6 at hb
  obtain ⟨e, rfl⟩ : ∃ e, d = e + 1 := ⟨d - 1, by omega⟩
  refine rn_iload_n (i := 1) rfl rfl ?_
  refine rn_aload_n (i := 0) rfl rfl ?_
  obtain ⟨hrc, hb⟩ := grd_spec hb
  obtain ⟨p1, hc, hb⟩ := Option.bind_eq_some_iff.mp hb
  refine Rn.call1 (d := e) (As := [va_rf v0]) (rest := [.int v1]) rfl rfl rfl (by decide) rfl rfl rfl (bd_rcV hrc rfl) (by rw [bd_cI (bd_cN)]; decide) (bd_lenC (n := 1) rfl (bd_slR bd_slN) rfl) (bd_locC (n := 1) rfl (bd_slR bd_slN) rfl (t_203 e (by omega) v0 h _ hc)) ?_
  refine rn_icmp_ge rfl rfl (fun hc => ?_) (fun hc => ?_)
  · exact u_225_200 (e + 1) hd v0 v1 v2 v3 v4 v5 v6  p1.2 _ (if_t hb hc)
  · exact u_225_14 (e + 1) hd k6 K6 v0 v1 v2 v3 v4 v5 v6  p1.2 _ (if_f hb hc)
def l_225_6 : Nat → Option Nat → Int32 → Hp → Option (Hp)
  | 0, _, _, _ => none
  | n + 1, v0, v1, h => b_225_6 (l_225_6 n) v0 v1 h
theorem w_225_6 (d : Nat) (hd : 4 ≤ d) : ∀ (n : Nat) (v0 : Option Nat) (v1 : Int32) (v2 : Option (Int32)) (v3 : Option (Int32)) (v4 : Option (Int32)) (v5 : Option (Int32)) (v6 : Option (Int32)) (h : Hp) (r : Hp), l_225_6 n v0 v1 h = some r → Rn d 225 6 [some (va_rf v0), some (.int v1), v2.map Value.int, v3.map Value.int, v4.map Value.int, v5.map Value.int, v6.map Value.int] [] h (none, r) := by
  intro n
  induction n with
  | zero => intro v0 v1 v2 v3 v4 v5 v6 h r hb; cases hb
  | succ n ih => intro v0 v1 v2 v3 v4 v5 v6 h r hb; exact u_225_6 d hd (l_225_6 n) ih v0 v1 v2 v3 v4 v5 v6 h r hb
def b_225_0 (v0 : Option Nat)  (h : Hp) : Option (Hp) :=
  (grd (rC 11 v0 h)).bind fun _ =>
  (f_202 v0 h).bind fun p1 =>
  bnd ((nI 0)) fun x2 =>
  l_225_6 FU v0 x2 p1
theorem u_225_0 (d : Nat) (hd : 4 ≤ d) (v0 : Option Nat)  (h : Hp) (r : Hp) (hb : b_225_0 v0  h = some r) : Rn d 225 0 [some (va_rf v0), none, none, none, none, none, none] [] h (none, r) := by
  unfold b_225_0 at hb
  obtain ⟨e, rfl⟩ : ∃ e, d = e + 1 := ⟨d - 1, by omega⟩
  refine rn_aload_n (i := 0) rfl rfl ?_
  obtain ⟨hrc, hb⟩ := grd_spec hb
  obtain ⟨p1, hc, hb⟩ := Option.bind_eq_some_iff.mp hb
  refine Rn.call0 (d := e) (As := [va_rf v0]) (rest := []) rfl rfl rfl (by decide) rfl rfl rfl (bd_rcV hrc rfl) (by decide) (bd_lenC (n := 1) rfl (bd_slR bd_slN) rfl) (bd_locC (n := 1) rfl (bd_slR bd_slN) rfl (t_202 e (by omega) v0 h _ hc)) ?_
  refine rn_iconst (x := (nI 0)) rfl (by decide) ?_
  obtain ⟨x2, ex2, hb⟩ := bnd_spec hb
  refine rn_istore_n (i := 1) (L1 := [some (va_rf v0), some (.int x2), none, none, none, none, none]) rfl (Nat.le_of_ble_eq_true rfl) (Or.inr (bd_wideR rfl)) (by rw [ex2]; rfl) ?_
  exact w_225_6 (e + 1) hd FU v0 x2 (none : Option (Int32)) (none : Option (Int32)) (none : Option (Int32)) (none : Option (Int32)) (none : Option (Int32)) p1 _ hb
/-- BitingDoorsModel.laySwept()V -/
def f_225 (v0 : Option Nat) (h : Hp) : Option (Hp) := b_225_0 v0 h
theorem t_225 (d : Nat) (hd : 4 ≤ d) (v0 : Option Nat) (h : Hp) (r : Hp) (hb : f_225 v0 h = some r) : Rn d 225 0 [some (va_rf v0), none, none, none, none, none, none] [] h (none, r) := by
  unfold f_225 at hb
  exact u_225_0 d hd v0 h r hb
def b_226_0 (v0 : Option Nat) (v1 : Int32) (v2 : Int32) (v3 : Int32) (v4 : Int32)  (h : Hp) : Option (Int32 × Hp) :=
  (gQ 11 27 v0 h).bind fun x1 =>
  (aJ x1 (((nI 4) * v1) + v2) h).bind fun x2 =>
  (gQ 11 27 v0 h).bind fun x3 =>
  (aJ x3 (((nI 4) * v3) + v4) h).bind fun x4 =>
  (f_185 (x2 &&& x4) h).bind fun p5 =>
  (gQ 11 28 v0 p5.2).bind fun x6 =>
  (aJ x6 (((nI 4) * v1) + v2) p5.2).bind fun x7 =>
  (gQ 11 28 v0 p5.2).bind fun x8 =>
  (aJ x8 (((nI 4) * v3) + v4) p5.2).bind fun x9 =>
  (f_185 (x7 &&& x9) p5.2).bind fun p10 =>
  some ((p5.1 + p10.1), p10.2)
theorem u_226_0 (d : Nat) (hd : 1 ≤ d) (v0 : Option Nat) (v1 : Int32) (v2 : Int32) (v3 : Int32) (v4 : Int32)  (h : Hp) (r : Int32 × Hp) (hb : b_226_0 v0 v1 v2 v3 v4  h = some r) : Rn d 226 0 [some (va_rf v0), some (.int v1), some (.int v2), some (.int v3), some (.int v4)] [] h (some (.int r.1), r.2) := by
  unfold b_226_0 at hb
  obtain ⟨e, rfl⟩ : ∃ e, d = e + 1 := ⟨d - 1, by omega⟩
  refine rn_aload_n (i := 0) rfl rfl ?_
  refine rn_gQ (c := 11) (k := 27) rfl (by decide) hb (fun x1 hb => ?_)
  refine rn_iconst (x := (nI 4)) rfl (by decide) ?_
  refine rn_iload_n (i := 1) rfl rfl ?_
  refine rn_imul rfl ?_
  refine rn_iload_n (i := 2) rfl rfl ?_
  refine rn_iadd rfl ?_
  refine rn_aJ rfl hb (fun x2 hb => ?_)
  refine rn_aload_n (i := 0) rfl rfl ?_
  refine rn_gQ (c := 11) (k := 27) rfl (by decide) hb (fun x3 hb => ?_)
  refine rn_iconst (x := (nI 4)) rfl (by decide) ?_
  refine rn_iload_n (i := 3) rfl rfl ?_
  refine rn_imul rfl ?_
  refine rn_iload (i := 4) rfl rfl ?_
  refine rn_iadd rfl ?_
  refine rn_aJ rfl hb (fun x4 hb => ?_)
  refine rn_land rfl ?_
  obtain ⟨p5, hc, hb⟩ := Option.bind_eq_some_iff.mp hb
  refine Rn.call1 (d := e) (As := [.long (x2 &&& x4)]) (rest := []) rfl rfl rfl (by decide) rfl rfl rfl rfl (by decide) (bd_lenC (n := 5) rfl (bd_slJ bd_slN) rfl) (bd_locC (n := 5) rfl (bd_slJ bd_slN) rfl (t_185 e (by omega) (x2 &&& x4) h _ hc)) ?_
  refine rn_aload_n (i := 0) rfl rfl ?_
  refine rn_gQ (c := 11) (k := 28) rfl (by decide) hb (fun x6 hb => ?_)
  refine rn_iconst (x := (nI 4)) rfl (by decide) ?_
  refine rn_iload_n (i := 1) rfl rfl ?_
  refine rn_imul rfl ?_
  refine rn_iload_n (i := 2) rfl rfl ?_
  refine rn_iadd rfl ?_
  refine rn_aJ rfl hb (fun x7 hb => ?_)
  refine rn_aload_n (i := 0) rfl rfl ?_
  refine rn_gQ (c := 11) (k := 28) rfl (by decide) hb (fun x8 hb => ?_)
  refine rn_iconst (x := (nI 4)) rfl (by decide) ?_
  refine rn_iload_n (i := 3) rfl rfl ?_
  refine rn_imul rfl ?_
  refine rn_iload (i := 4) rfl rfl ?_
  refine rn_iadd rfl ?_
  refine rn_aJ rfl hb (fun x9 hb => ?_)
  refine rn_land rfl ?_
  obtain ⟨p10, hc, hb⟩ := Option.bind_eq_some_iff.mp hb
  refine Rn.call1 (d := e) (As := [.long (x7 &&& x9)]) (rest := [.int p5.1]) rfl rfl rfl (by decide) rfl rfl rfl rfl (by rw [bd_cI (bd_cN)]; decide) (bd_lenC (n := 5) rfl (bd_slJ bd_slN) rfl) (bd_locC (n := 5) rfl (bd_slJ bd_slN) rfl (t_185 e (by omega) (x7 &&& x9) p5.2 _ hc)) ?_
  refine rn_iadd rfl ?_
  obtain rfl := Option.some.inj hb
  exact rn_iret rfl rfl
/-- BitingDoorsModel.shared(IIII)I -/
def f_226 (v0 : Option Nat) (v1 : Int32) (v2 : Int32) (v3 : Int32) (v4 : Int32) (h : Hp) : Option (Int32 × Hp) := b_226_0 v0 v1 v2 v3 v4 h
theorem t_226 (d : Nat) (hd : 1 ≤ d) (v0 : Option Nat) (v1 : Int32) (v2 : Int32) (v3 : Int32) (v4 : Int32) (h : Hp) (r : Int32 × Hp) (hb : f_226 v0 v1 v2 v3 v4 h = some r) : Rn d 226 0 [some (va_rf v0), some (.int v1), some (.int v2), some (.int v3), some (.int v4)] [] h (some (.int r.1), r.2) := by
  unfold f_226 at hb
  exact u_226_0 d hd v0 v1 v2 v3 v4 h r hb
def b_227_59  (s0 : Int32) (h : Hp) : Option (Int32 × Hp) :=
  (grd (decide (s0 = 0 ∨ s0 = 1))).bind fun _ => some (s0, h)
theorem u_227_59 (d : Nat) (hd : 0 ≤ d) (v0 : Option Nat) (v1 : Int32) (v2 : Int32) (v3 : Int32) (v4 : Int32) (s0 : Int32) (h : Hp) (r : Int32 × Hp) (hb : b_227_59  s0 h = some r) : Rn d 227 59 [some (va_rf v0), some (.int v1), some (.int v2), some (.int v3), some (.int v4)] [.int s0] h (some (.int r.1), r.2) := by
  unfold b_227_59 at hb
  obtain ⟨hz, hb⟩ := grd_spec hb
  obtain rfl := Option.some.inj hb
  exact rn_zret rfl rfl (of_decide_eq_true hz)
def b_227_54   (h : Hp) : Option (Int32 × Hp) :=
  b_227_59  (nI 1) h
theorem u_227_54 (d : Nat) (hd : 0 ≤ d) (v0 : Option Nat) (v1 : Int32) (v2 : Int32) (v3 : Int32) (v4 : Int32)  (h : Hp) (r : Int32 × Hp) (hb : b_227_54   h = some r) : Rn d 227 54 [some (va_rf v0), some (.int v1), some (.int v2), some (.int v3), some (.int v4)] [] h (some (.int r.1), r.2) := by
  unfold b_227_54 at hb
  refine rn_iconst (x := (nI 1)) rfl (by decide) ?_
  refine rn_goto rfl rfl ?_
  exact u_227_59 d hd v0 v1 v2 v3 v4 (nI 1) h _ hb
def b_227_58   (h : Hp) : Option (Int32 × Hp) :=
  b_227_59  (nI 0) h
theorem u_227_58 (d : Nat) (hd : 0 ≤ d) (v0 : Option Nat) (v1 : Int32) (v2 : Int32) (v3 : Int32) (v4 : Int32)  (h : Hp) (r : Int32 × Hp) (hb : b_227_58   h = some r) : Rn d 227 58 [some (va_rf v0), some (.int v1), some (.int v2), some (.int v3), some (.int v4)] [] h (some (.int r.1), r.2) := by
  unfold b_227_58 at hb
  refine rn_iconst (x := (nI 0)) rfl (by decide) ?_
  exact u_227_59 d hd v0 v1 v2 v3 v4 (nI 0) h _ hb
def b_227_27 (v0 : Option Nat) (v1 : Int32) (v2 : Int32) (v3 : Int32) (v4 : Int32)  (h : Hp) : Option (Int32 × Hp) :=
  (gQ 11 28 v0 h).bind fun x1 =>
  (aJ x1 (((nI 4) * v1) + v2) h).bind fun x2 =>
  (gQ 11 28 v0 h).bind fun x3 =>
  (aJ x3 (((nI 4) * v3) + v4) h).bind fun x4 =>
  if (lg_cmp (x2 &&& x4) (lN 0)) = 0 then b_227_58   h else b_227_54   h
theorem u_227_27 (d : Nat) (hd : 0 ≤ d) (v0 : Option Nat) (v1 : Int32) (v2 : Int32) (v3 : Int32) (v4 : Int32)  (h : Hp) (r : Int32 × Hp) (hb : b_227_27 v0 v1 v2 v3 v4  h = some r) : Rn d 227 27 [some (va_rf v0), some (.int v1), some (.int v2), some (.int v3), some (.int v4)] [] h (some (.int r.1), r.2) := by
  unfold b_227_27 at hb
  refine rn_aload_n (i := 0) rfl rfl ?_
  refine rn_gQ (c := 11) (k := 28) rfl (by decide) hb (fun x1 hb => ?_)
  refine rn_iconst (x := (nI 4)) rfl (by decide) ?_
  refine rn_iload_n (i := 1) rfl rfl ?_
  refine rn_imul rfl ?_
  refine rn_iload_n (i := 2) rfl rfl ?_
  refine rn_iadd rfl ?_
  refine rn_aJ rfl hb (fun x2 hb => ?_)
  refine rn_aload_n (i := 0) rfl rfl ?_
  refine rn_gQ (c := 11) (k := 28) rfl (by decide) hb (fun x3 hb => ?_)
  refine rn_iconst (x := (nI 4)) rfl (by decide) ?_
  refine rn_iload_n (i := 3) rfl rfl ?_
  refine rn_imul rfl ?_
  refine rn_iload (i := 4) rfl rfl ?_
  refine rn_iadd rfl ?_
  refine rn_aJ rfl hb (fun x4 hb => ?_)
  refine rn_land rfl ?_
  refine rn_lconst (x := (lN 0)) rfl (by decide) ?_
  refine rn_lcmp rfl ?_
  refine rn_if_eq rfl rfl (fun hc => ?_) (fun hc => ?_)
  · exact u_227_58 d hd v0 v1 v2 v3 v4  h _ (if_t hb hc)
  · exact u_227_54 d hd v0 v1 v2 v3 v4  h _ (if_f hb hc)
def b_227_0 (v0 : Option Nat) (v1 : Int32) (v2 : Int32) (v3 : Int32) (v4 : Int32)  (h : Hp) : Option (Int32 × Hp) :=
  (gQ 11 27 v0 h).bind fun x1 =>
  (aJ x1 (((nI 4) * v1) + v2) h).bind fun x2 =>
  (gQ 11 27 v0 h).bind fun x3 =>
  (aJ x3 (((nI 4) * v3) + v4) h).bind fun x4 =>
  if ¬ (lg_cmp (x2 &&& x4) (lN 0)) = 0 then b_227_54   h else b_227_27 v0 v1 v2 v3 v4  h
theorem u_227_0 (d : Nat) (hd : 0 ≤ d) (v0 : Option Nat) (v1 : Int32) (v2 : Int32) (v3 : Int32) (v4 : Int32)  (h : Hp) (r : Int32 × Hp) (hb : b_227_0 v0 v1 v2 v3 v4  h = some r) : Rn d 227 0 [some (va_rf v0), some (.int v1), some (.int v2), some (.int v3), some (.int v4)] [] h (some (.int r.1), r.2) := by
  unfold b_227_0 at hb
  refine rn_aload_n (i := 0) rfl rfl ?_
  refine rn_gQ (c := 11) (k := 27) rfl (by decide) hb (fun x1 hb => ?_)
  refine rn_iconst (x := (nI 4)) rfl (by decide) ?_
  refine rn_iload_n (i := 1) rfl rfl ?_
  refine rn_imul rfl ?_
  refine rn_iload_n (i := 2) rfl rfl ?_
  refine rn_iadd rfl ?_
  refine rn_aJ rfl hb (fun x2 hb => ?_)
  refine rn_aload_n (i := 0) rfl rfl ?_
  refine rn_gQ (c := 11) (k := 27) rfl (by decide) hb (fun x3 hb => ?_)
  refine rn_iconst (x := (nI 4)) rfl (by decide) ?_
  refine rn_iload_n (i := 3) rfl rfl ?_
  refine rn_imul rfl ?_
  refine rn_iload (i := 4) rfl rfl ?_
  refine rn_iadd rfl ?_
  refine rn_aJ rfl hb (fun x4 hb => ?_)
  refine rn_land rfl ?_
  refine rn_lconst (x := (lN 0)) rfl (by decide) ?_
  refine rn_lcmp rfl ?_
  refine rn_if_ne rfl rfl (fun hc => ?_) (fun hc => ?_)
  · exact u_227_54 d hd v0 v1 v2 v3 v4  h _ (if_t hb hc)
  · exact u_227_27 d hd v0 v1 v2 v3 v4  h _ (if_f hb hc)
/-- BitingDoorsModel.bite(IIII)Z -/
def f_227 (v0 : Option Nat) (v1 : Int32) (v2 : Int32) (v3 : Int32) (v4 : Int32) (h : Hp) : Option (Int32 × Hp) := b_227_0 v0 v1 v2 v3 v4 h
theorem t_227 (d : Nat) (hd : 0 ≤ d) (v0 : Option Nat) (v1 : Int32) (v2 : Int32) (v3 : Int32) (v4 : Int32) (h : Hp) (r : Int32 × Hp) (hb : f_227 v0 v1 v2 v3 v4 h = some r) : Rn d 227 0 [some (va_rf v0), some (.int v1), some (.int v2), some (.int v3), some (.int v4)] [] h (some (.int r.1), r.2) := by
  unfold f_227 at hb
  exact u_227_0 d hd v0 v1 v2 v3 v4 h r hb
def b_228_49   (h : Hp) : Option (Int32 × Hp) :=
  some ((-1 : Int32), h)
theorem u_228_49 (d : Nat) (hd : 5 ≤ d) (v0 : Option Nat) (v1 : Int32) (v2 : Int32) (v3 : Int32) (v4 : Int32)  (h : Hp) (r : Int32 × Hp) (hb : b_228_49   h = some r) : Rn d 228 49 [some (va_rf v0), some (.int v1), some (.int v2), some (.int v3), some (.int v4)] [] h (some (.int r.1), r.2) := by
  unfold b_228_49 at hb
  refine rn_iconst (x := (-1 : Int32)) rfl (by decide) ?_
  obtain rfl := Option.some.inj hb
  exact rn_iret rfl rfl
def b_228_51 (v0 : Option Nat) (v1 : Int32) (v2 : Int32) (v3 : Int32) (v4 : Int32)  (h : Hp) : Option (Int32 × Hp) :=
  (grd (rC 11 v0 h)).bind fun _ =>
  (f_225 v0 h).bind fun p1 =>
  (grd (rC 11 v0 p1)).bind fun _ =>
  (f_226 v0 v1 v2 v3 v4 p1).bind fun p2 =>
  some (p2.1, p2.2)
theorem u_228_51 (d : Nat) (hd : 5 ≤ d) (v0 : Option Nat) (v1 : Int32) (v2 : Int32) (v3 : Int32) (v4 : Int32)  (h : Hp) (r : Int32 × Hp) (hb : b_228_51 v0 v1 v2 v3 v4  h = some r) : Rn d 228 51 [some (va_rf v0), some (.int v1), some (.int v2), some (.int v3), some (.int v4)] [] h (some (.int r.1), r.2) := by
  unfold b_228_51 at hb
  obtain ⟨e, rfl⟩ : ∃ e, d = e + 1 := ⟨d - 1, by omega⟩
  refine rn_aload_n (i := 0) rfl rfl ?_
  obtain ⟨hrc, hb⟩ := grd_spec hb
  obtain ⟨p1, hc, hb⟩ := Option.bind_eq_some_iff.mp hb
  refine Rn.call0 (d := e) (As := [va_rf v0]) (rest := []) rfl rfl rfl (by decide) rfl rfl rfl (bd_rcV hrc rfl) (by decide) (bd_lenC (n := 7) rfl (bd_slR bd_slN) rfl) (bd_locC (n := 7) rfl (bd_slR bd_slN) rfl (t_225 e (by omega) v0 h _ hc)) ?_
  refine rn_aload_n (i := 0) rfl rfl ?_
  refine rn_iload_n (i := 1) rfl rfl ?_
  refine rn_iload_n (i := 2) rfl rfl ?_
  refine rn_iload_n (i := 3) rfl rfl ?_
  refine rn_iload (i := 4) rfl rfl ?_
  obtain ⟨hrc, hb⟩ := grd_spec hb
  obtain ⟨p2, hc, hb⟩ := Option.bind_eq_some_iff.mp hb
  refine Rn.call1 (d := e) (As := [va_rf v0, .int v1, .int v2, .int v3, .int v4]) (rest := []) rfl rfl rfl (by decide) rfl rfl rfl (bd_rcV hrc rfl) (by decide) (bd_lenC (n := 5) rfl (bd_slR (bd_slI (bd_slI (bd_slI (bd_slI bd_slN))))) rfl) (bd_locC (n := 5) rfl (bd_slR (bd_slI (bd_slI (bd_slI (bd_slI bd_slN))))) rfl (t_226 e (by omega) v0 v1 v2 v3 v4 p1 _ hc)) ?_
  obtain rfl := Option.some.inj hb
  exact rn_iret rfl rfl
def b_228_39 (v0 : Option Nat) (v1 : Int32) (v2 : Int32) (v3 : Int32) (v4 : Int32)  (h : Hp) : Option (Int32 × Hp) :=
  (f_182 v4 (nI 0) (nI 3) h).bind fun p1 =>
  if ¬ p1.1 = 0 then b_228_51 v0 v1 v2 v3 v4  p1.2 else b_228_49   p1.2
theorem u_228_39 (d : Nat) (hd : 5 ≤ d) (v0 : Option Nat) (v1 : Int32) (v2 : Int32) (v3 : Int32) (v4 : Int32)  (h : Hp) (r : Int32 × Hp) (hb : b_228_39 v0 v1 v2 v3 v4  h = some r) : Rn d 228 39 [some (va_rf v0), some (.int v1), some (.int v2), some (.int v3), some (.int v4)] [] h (some (.int r.1), r.2) := by
  unfold b_228_39 at hb
  obtain ⟨e, rfl⟩ : ∃ e, d = e + 1 := ⟨d - 1, by omega⟩
  refine rn_iload (i := 4) rfl rfl ?_
  refine rn_iconst (x := (nI 0)) rfl (by decide) ?_
  refine rn_iconst (x := (nI 3)) rfl (by decide) ?_
  obtain ⟨p1, hc, hb⟩ := Option.bind_eq_some_iff.mp hb
  refine Rn.call1 (d := e) (As := [.int v4, .int (nI 0), .int (nI 3)]) (rest := []) rfl rfl rfl (by decide) rfl rfl rfl rfl (by decide) (bd_lenC (n := 3) rfl (bd_slI (bd_slI (bd_slI bd_slN))) rfl) (bd_locC (n := 3) rfl (bd_slI (bd_slI (bd_slI bd_slN))) rfl (t_182 e (by omega) v4 (nI 0) (nI 3) h _ hc)) ?_
  refine rn_if_ne rfl rfl (fun hc => ?_) (fun hc => ?_)
  · exact u_228_51 (e + 1) hd v0 v1 v2 v3 v4  p1.2 _ (if_t hb hc)
  · exact u_228_49 (e + 1) hd v0 v1 v2 v3 v4  p1.2 _ (if_f hb hc)
def b_228_30 (v0 : Option Nat) (v1 : Int32) (v2 : Int32) (v3 : Int32) (v4 : Int32)  (h : Hp) : Option (Int32 × Hp) :=
  (f_182 v2 (nI 0) (nI 3) h).bind fun p1 =>
  if p1.1 = 0 then b_228_49   p1.2 else b_228_39 v0 v1 v2 v3 v4  p1.2
theorem u_228_30 (d : Nat) (hd : 5 ≤ d) (v0 : Option Nat) (v1 : Int32) (v2 : Int32) (v3 : Int32) (v4 : Int32)  (h : Hp) (r : Int32 × Hp) (hb : b_228_30 v0 v1 v2 v3 v4  h = some r) : Rn d 228 30 [some (va_rf v0), some (.int v1), some (.int v2), some (.int v3), some (.int v4)] [] h (some (.int r.1), r.2) := by
  unfold b_228_30 at hb
  obtain ⟨e, rfl⟩ : ∃ e, d = e + 1 := ⟨d - 1, by omega⟩
  refine rn_iload_n (i := 2) rfl rfl ?_
  refine rn_iconst (x := (nI 0)) rfl (by decide) ?_
  refine rn_iconst (x := (nI 3)) rfl (by decide) ?_
  obtain ⟨p1, hc, hb⟩ := Option.bind_eq_some_iff.mp hb
  refine Rn.call1 (d := e) (As := [.int v2, .int (nI 0), .int (nI 3)]) (rest := []) rfl rfl rfl (by decide) rfl rfl rfl rfl (by decide) (bd_lenC (n := 3) rfl (bd_slI (bd_slI (bd_slI bd_slN))) rfl) (bd_locC (n := 3) rfl (bd_slI (bd_slI (bd_slI bd_slN))) rfl (t_182 e (by omega) v2 (nI 0) (nI 3) h _ hc)) ?_
  refine rn_if_eq rfl rfl (fun hc => ?_) (fun hc => ?_)
  · exact u_228_49 (e + 1) hd v0 v1 v2 v3 v4  p1.2 _ (if_t hb hc)
  · exact u_228_39 (e + 1) hd v0 v1 v2 v3 v4  p1.2 _ (if_f hb hc)
def b_228_25 (v0 : Option Nat) (v1 : Int32) (v2 : Int32) (v3 : Int32) (v4 : Int32)  (h : Hp) : Option (Int32 × Hp) :=
  if v1 = v3 then b_228_49   h else b_228_30 v0 v1 v2 v3 v4  h
theorem u_228_25 (d : Nat) (hd : 5 ≤ d) (v0 : Option Nat) (v1 : Int32) (v2 : Int32) (v3 : Int32) (v4 : Int32)  (h : Hp) (r : Int32 × Hp) (hb : b_228_25 v0 v1 v2 v3 v4  h = some r) : Rn d 228 25 [some (va_rf v0), some (.int v1), some (.int v2), some (.int v3), some (.int v4)] [] h (some (.int r.1), r.2) := by
  unfold b_228_25 at hb
  refine rn_iload_n (i := 1) rfl rfl ?_
  refine rn_iload_n (i := 3) rfl rfl ?_
  refine rn_icmp_eq rfl rfl (fun hc => ?_) (fun hc => ?_)
  · exact u_228_49 d hd v0 v1 v2 v3 v4  h _ (if_t hb hc)
  · exact u_228_30 d hd v0 v1 v2 v3 v4  h _ (if_f hb hc)
def b_228_17 (v0 : Option Nat) (v1 : Int32) (v2 : Int32) (v3 : Int32) (v4 : Int32)  (h : Hp) : Option (Int32 × Hp) :=
  (grd (rC 11 v0 h)).bind fun _ =>
  (f_204 v0 v3 h).bind fun p1 =>
  if p1.1 = 0 then b_228_49   p1.2 else b_228_25 v0 v1 v2 v3 v4  p1.2
theorem u_228_17 (d : Nat) (hd : 5 ≤ d) (v0 : Option Nat) (v1 : Int32) (v2 : Int32) (v3 : Int32) (v4 : Int32)  (h : Hp) (r : Int32 × Hp) (hb : b_228_17 v0 v1 v2 v3 v4  h = some r) : Rn d 228 17 [some (va_rf v0), some (.int v1), some (.int v2), some (.int v3), some (.int v4)] [] h (some (.int r.1), r.2) := by
  unfold b_228_17 at hb
  obtain ⟨e, rfl⟩ : ∃ e, d = e + 1 := ⟨d - 1, by omega⟩
  refine rn_aload_n (i := 0) rfl rfl ?_
  refine rn_iload_n (i := 3) rfl rfl ?_
  obtain ⟨hrc, hb⟩ := grd_spec hb
  obtain ⟨p1, hc, hb⟩ := Option.bind_eq_some_iff.mp hb
  refine Rn.call1 (d := e) (As := [va_rf v0, .int v3]) (rest := []) rfl rfl rfl (by decide) rfl rfl rfl (bd_rcV hrc rfl) (by decide) (bd_lenC (n := 2) rfl (bd_slR (bd_slI bd_slN)) rfl) (bd_locC (n := 2) rfl (bd_slR (bd_slI bd_slN)) rfl (t_204 e (by omega) v0 v3 h _ hc)) ?_
  refine rn_if_eq rfl rfl (fun hc => ?_) (fun hc => ?_)
  · exact u_228_49 (e + 1) hd v0 v1 v2 v3 v4  p1.2 _ (if_t hb hc)
  · exact u_228_25 (e + 1) hd v0 v1 v2 v3 v4  p1.2 _ (if_f hb hc)
def b_228_0 (v0 : Option Nat) (v1 : Int32) (v2 : Int32) (v3 : Int32) (v4 : Int32)  (h : Hp) : Option (Int32 × Hp) :=
  (pI 11 0 v0 (nI 0) h).bind fun h1 =>
  (grd (rC 11 v0 h1)).bind fun _ =>
  (f_202 v0 h1).bind fun p2 =>
  (grd (rC 11 v0 p2)).bind fun _ =>
  (f_204 v0 v1 p2).bind fun p3 =>
  if p3.1 = 0 then b_228_49   p3.2 else b_228_17 v0 v1 v2 v3 v4  p3.2
theorem u_228_0 (d : Nat) (hd : 5 ≤ d) (v0 : Option Nat) (v1 : Int32) (v2 : Int32) (v3 : Int32) (v4 : Int32)  (h : Hp) (r : Int32 × Hp) (hb : b_228_0 v0 v1 v2 v3 v4  h = some r) : Rn d 228 0 [some (va_rf v0), some (.int v1), some (.int v2), some (.int v3), some (.int v4)] [] h (some (.int r.1), r.2) := by
  unfold b_228_0 at hb
  obtain ⟨e, rfl⟩ : ∃ e, d = e + 1 := ⟨d - 1, by omega⟩
  refine rn_aload_n (i := 0) rfl rfl ?_
  refine rn_iconst (x := (nI 0)) rfl (by decide) ?_
  refine rn_pI (c := 11) (k := 0) rfl (by decide) hb (fun h1 hb => ?_)
  refine rn_aload_n (i := 0) rfl rfl ?_
  obtain ⟨hrc, hb⟩ := grd_spec hb
  obtain ⟨p2, hc, hb⟩ := Option.bind_eq_some_iff.mp hb
  refine Rn.call0 (d := e) (As := [va_rf v0]) (rest := []) rfl rfl rfl (by decide) rfl rfl rfl (bd_rcV hrc rfl) (by decide) (bd_lenC (n := 1) rfl (bd_slR bd_slN) rfl) (bd_locC (n := 1) rfl (bd_slR bd_slN) rfl (t_202 e (by omega) v0 h1 _ hc)) ?_
  refine rn_aload_n (i := 0) rfl rfl ?_
  refine rn_iload_n (i := 1) rfl rfl ?_
  obtain ⟨hrc, hb⟩ := grd_spec hb
  obtain ⟨p3, hc, hb⟩ := Option.bind_eq_some_iff.mp hb
  refine Rn.call1 (d := e) (As := [va_rf v0, .int v1]) (rest := []) rfl rfl rfl (by decide) rfl rfl rfl (bd_rcV hrc rfl) (by decide) (bd_lenC (n := 2) rfl (bd_slR (bd_slI bd_slN)) rfl) (bd_locC (n := 2) rfl (bd_slR (bd_slI bd_slN)) rfl (t_204 e (by omega) v0 v1 p2 _ hc)) ?_
  refine rn_if_eq rfl rfl (fun hc => ?_) (fun hc => ?_)
  · exact u_228_49 (e + 1) hd v0 v1 v2 v3 v4  p3.2 _ (if_t hb hc)
  · exact u_228_17 (e + 1) hd v0 v1 v2 v3 v4  p3.2 _ (if_f hb hc)
/-- BitingDoorsModel.bites(IIII)I -/
def f_228 (v0 : Option Nat) (v1 : Int32) (v2 : Int32) (v3 : Int32) (v4 : Int32) (h : Hp) : Option (Int32 × Hp) := b_228_0 v0 v1 v2 v3 v4 h
theorem t_228 (d : Nat) (hd : 5 ≤ d) (v0 : Option Nat) (v1 : Int32) (v2 : Int32) (v3 : Int32) (v4 : Int32) (h : Hp) (r : Int32 × Hp) (hb : f_228 v0 v1 v2 v3 v4 h = some r) : Rn d 228 0 [some (va_rf v0), some (.int v1), some (.int v2), some (.int v3), some (.int v4)] [] h (some (.int r.1), r.2) := by
  unfold f_228 at hb
  exact u_228_0 d hd v0 v1 v2 v3 v4 h r hb
def b_229_53 (v2 : Int32)  (h : Hp) : Option (Int32 × Hp) :=
  some (v2, h)
theorem u_229_53 (d : Nat) (hd : 1 ≤ d) (v0 : Option Nat) (v1 : Option Nat) (v2 : Int32) (v3 : Int32) (v4 : Option (Int32))  (h : Hp) (r : Int32 × Hp) (hb : b_229_53 v2  h = some r) : Rn d 229 53 [some (va_rf v0), some (va_rf v1), some (.int v2), some (.int v3), v4.map Value.int] [] h (some (.int r.1), r.2) := by
  unfold b_229_53 at hb
  refine rn_iload_n (i := 2) rfl rfl ?_
  obtain rfl := Option.some.inj hb
  exact rn_iret rfl rfl
def b_229_47 (k4 : Option Nat → Option Nat → Int32 → Int32 → Hp → Option (Int32 × Hp)) (v0 : Option Nat) (v1 : Option Nat) (v2 : Int32) (v3 : Int32)  (h : Hp) : Option (Int32 × Hp) :=
  bnd (v3 + (nI 1)) fun x1 =>
  k4 v0 v1 v2 x1 h
theorem u_229_47 (d : Nat) (hd : 1 ≤ d) (k4 : Option Nat → Option Nat → Int32 → Int32 → Hp → Option (Int32 × Hp)) (K4 : ∀ (v0 : Option Nat) (v1 : Option Nat) (v2 : Int32) (v3 : Int32) (v4 : Option (Int32)) (h : Hp) (r : Int32 × Hp), k4 v0 v1 v2 v3 h = some r → Rn d 229 4 [some (va_rf v0), some (va_rf v1), some (.int v2), some (.int v3), v4.map Value.int] [] h (some (.int r.1), r.2)) (v0 : Option Nat) (v1 : Option Nat) (v2 : Int32) (v3 : Int32) (v4 : Int32)  (h : Hp) (r : Int32 × Hp) (hb : b_229_47 k4 v0 v1 v2 v3  h = some r) : Rn d 229 47 [some (va_rf v0), some (va_rf v1), some (.int v2), some (.int v3), some (.int v4)] [] h (some (.int r.1), r.2) := by
  unfold b_229_47 at hb
  obtain ⟨x1, ex1, hb⟩ := bnd_spec hb
  refine rn_iinc (i := 3) (y := x1) (L1 := [some (va_rf v0), some (va_rf v1), some (.int v2), some (.int x1), some (.int v4)]) rfl rfl (Nat.le_of_ble_eq_true rfl) (Or.inr rfl) (by rw [ex1]; rfl) rfl ?_
  refine rn_goto rfl rfl ?_
  exact K4 v0 v1 v2 x1 (some v4) h _ hb
def b_229_41 (k4 : Option Nat → Option Nat → Int32 → Int32 → Hp → Option (Int32 × Hp)) (k15 : Option Nat → Option Nat → Int32 → Int32 → Int32 → Hp → Option (Int32 × Hp)) (v0 : Option Nat) (v1 : Option Nat) (v2 : Int32) (v3 : Int32) (v4 : Int32)  (h : Hp) : Option (Int32 × Hp) :=
  bnd (v4 + (nI 1)) fun x1 =>
  k15 v0 v1 v2 v3 x1 h
theorem u_229_41 (d : Nat) (hd : 1 ≤ d) (k4 : Option Nat → Option Nat → Int32 → Int32 → Hp → Option (Int32 × Hp)) (K4 : ∀ (v0 : Option Nat) (v1 : Option Nat) (v2 : Int32) (v3 : Int32) (v4 : Option (Int32)) (h : Hp) (r : Int32 × Hp), k4 v0 v1 v2 v3 h = some r → Rn d 229 4 [some (va_rf v0), some (va_rf v1), some (.int v2), some (.int v3), v4.map Value.int] [] h (some (.int r.1), r.2)) (k15 : Option Nat → Option Nat → Int32 → Int32 → Int32 → Hp → Option (Int32 × Hp)) (K15 : ∀ (v0 : Option Nat) (v1 : Option Nat) (v2 : Int32) (v3 : Int32) (v4 : Int32) (h : Hp) (r : Int32 × Hp), k15 v0 v1 v2 v3 v4 h = some r → Rn d 229 15 [some (va_rf v0), some (va_rf v1), some (.int v2), some (.int v3), some (.int v4)] [] h (some (.int r.1), r.2)) (v0 : Option Nat) (v1 : Option Nat) (v2 : Int32) (v3 : Int32) (v4 : Int32)  (h : Hp) (r : Int32 × Hp) (hb : b_229_41 k4 k15 v0 v1 v2 v3 v4  h = some r) : Rn d 229 41 [some (va_rf v0), some (va_rf v1), some (.int v2), some (.int v3), some (.int v4)] [] h (some (.int r.1), r.2) := by
  unfold b_229_41 at hb
  obtain ⟨x1, ex1, hb⟩ := bnd_spec hb
  refine rn_iinc (i := 4) (y := x1) (L1 := [some (va_rf v0), some (va_rf v1), some (.int v2), some (.int v3), some (.int x1)]) rfl rfl (Nat.le_of_ble_eq_true rfl) (Or.inr rfl) (by rw [ex1]; rfl) rfl ?_
  refine rn_goto rfl rfl ?_
  exact K15 v0 v1 v2 v3 x1 h _ hb
def b_229_38 (k4 : Option Nat → Option Nat → Int32 → Int32 → Hp → Option (Int32 × Hp)) (k15 : Option Nat → Option Nat → Int32 → Int32 → Int32 → Hp → Option (Int32 × Hp)) (v0 : Option Nat) (v1 : Option Nat) (v2 : Int32) (v3 : Int32) (v4 : Int32)  (h : Hp) : Option (Int32 × Hp) :=
  bnd (v2 + (nI 1)) fun x1 =>
  b_229_41 k4 k15 v0 v1 x1 v3 v4  h
theorem u_229_38 (d : Nat) (hd : 1 ≤ d) (k4 : Option Nat → Option Nat → Int32 → Int32 → Hp → Option (Int32 × Hp)) (K4 : ∀ (v0 : Option Nat) (v1 : Option Nat) (v2 : Int32) (v3 : Int32) (v4 : Option (Int32)) (h : Hp) (r : Int32 × Hp), k4 v0 v1 v2 v3 h = some r → Rn d 229 4 [some (va_rf v0), some (va_rf v1), some (.int v2), some (.int v3), v4.map Value.int] [] h (some (.int r.1), r.2)) (k15 : Option Nat → Option Nat → Int32 → Int32 → Int32 → Hp → Option (Int32 × Hp)) (K15 : ∀ (v0 : Option Nat) (v1 : Option Nat) (v2 : Int32) (v3 : Int32) (v4 : Int32) (h : Hp) (r : Int32 × Hp), k15 v0 v1 v2 v3 v4 h = some r → Rn d 229 15 [some (va_rf v0), some (va_rf v1), some (.int v2), some (.int v3), some (.int v4)] [] h (some (.int r.1), r.2)) (v0 : Option Nat) (v1 : Option Nat) (v2 : Int32) (v3 : Int32) (v4 : Int32)  (h : Hp) (r : Int32 × Hp) (hb : b_229_38 k4 k15 v0 v1 v2 v3 v4  h = some r) : Rn d 229 38 [some (va_rf v0), some (va_rf v1), some (.int v2), some (.int v3), some (.int v4)] [] h (some (.int r.1), r.2) := by
  unfold b_229_38 at hb
  obtain ⟨x1, ex1, hb⟩ := bnd_spec hb
  refine rn_iinc (i := 2) (y := x1) (L1 := [some (va_rf v0), some (va_rf v1), some (.int x1), some (.int v3), some (.int v4)]) rfl rfl (Nat.le_of_ble_eq_true rfl) (Or.inr (bd_wideR rfl)) (by rw [ex1]; rfl) rfl ?_
  exact u_229_41 d hd k4 K4 k15 K15 v0 v1 x1 v3 v4  h _ hb
def b_229_21 (k4 : Option Nat → Option Nat → Int32 → Int32 → Hp → Option (Int32 × Hp)) (k15 : Option Nat → Option Nat → Int32 → Int32 → Int32 → Hp → Option (Int32 × Hp)) (v0 : Option Nat) (v1 : Option Nat) (v2 : Int32) (v3 : Int32) (v4 : Int32)  (h : Hp) : Option (Int32 × Hp) :=
  (aI 12 v1 v3 h).bind fun x1 =>
  (aI 12 v1 v4 h).bind fun x2 =>
  (grd (rC 11 v0 h)).bind fun _ =>
  (f_227 v0 v3 x1 v4 x2 h).bind fun p3 =>
  if p3.1 = 0 then b_229_41 k4 k15 v0 v1 v2 v3 v4  p3.2 else b_229_38 k4 k15 v0 v1 v2 v3 v4  p3.2
theorem u_229_21 (d : Nat) (hd : 1 ≤ d) (k4 : Option Nat → Option Nat → Int32 → Int32 → Hp → Option (Int32 × Hp)) (K4 : ∀ (v0 : Option Nat) (v1 : Option Nat) (v2 : Int32) (v3 : Int32) (v4 : Option (Int32)) (h : Hp) (r : Int32 × Hp), k4 v0 v1 v2 v3 h = some r → Rn d 229 4 [some (va_rf v0), some (va_rf v1), some (.int v2), some (.int v3), v4.map Value.int] [] h (some (.int r.1), r.2)) (k15 : Option Nat → Option Nat → Int32 → Int32 → Int32 → Hp → Option (Int32 × Hp)) (K15 : ∀ (v0 : Option Nat) (v1 : Option Nat) (v2 : Int32) (v3 : Int32) (v4 : Int32) (h : Hp) (r : Int32 × Hp), k15 v0 v1 v2 v3 v4 h = some r → Rn d 229 15 [some (va_rf v0), some (va_rf v1), some (.int v2), some (.int v3), some (.int v4)] [] h (some (.int r.1), r.2)) (v0 : Option Nat) (v1 : Option Nat) (v2 : Int32) (v3 : Int32) (v4 : Int32)  (h : Hp) (r : Int32 × Hp) (hb : b_229_21 k4 k15 v0 v1 v2 v3 v4  h = some r) : Rn d 229 21 [some (va_rf v0), some (va_rf v1), some (.int v2), some (.int v3), some (.int v4)] [] h (some (.int r.1), r.2) := by
  unfold b_229_21 at hb
  obtain ⟨e, rfl⟩ : ∃ e, d = e + 1 := ⟨d - 1, by omega⟩
  refine rn_aload_n (i := 0) rfl rfl ?_
  refine rn_iload_n (i := 3) rfl rfl ?_
  refine rn_aload_n (i := 1) rfl rfl ?_
  refine rn_iload_n (i := 3) rfl rfl ?_
  refine rn_aI rfl hb (fun x1 hb => ?_)
  refine rn_iload (i := 4) rfl rfl ?_
  refine rn_aload_n (i := 1) rfl rfl ?_
  refine rn_iload (i := 4) rfl rfl ?_
  refine rn_aI rfl hb (fun x2 hb => ?_)
  obtain ⟨hrc, hb⟩ := grd_spec hb
  obtain ⟨p3, hc, hb⟩ := Option.bind_eq_some_iff.mp hb
  refine Rn.call1 (d := e) (As := [va_rf v0, .int v3, .int x1, .int v4, .int x2]) (rest := []) rfl rfl rfl (by decide) rfl rfl rfl (bd_rcV hrc rfl) (by decide) (bd_lenC (n := 5) rfl (bd_slR (bd_slI (bd_slI (bd_slI (bd_slI bd_slN))))) rfl) (bd_locC (n := 5) rfl (bd_slR (bd_slI (bd_slI (bd_slI (bd_slI bd_slN))))) rfl (t_227 e (by omega) v0 v3 x1 v4 x2 h _ hc)) ?_
  refine rn_if_eq rfl rfl (fun hc => ?_) (fun hc => ?_)
  · exact u_229_41 (e + 1) hd k4 K4 k15 K15 v0 v1 v2 v3 v4  p3.2 _ (if_t hb hc)
  · exact u_229_38 (e + 1) hd k4 K4 k15 K15 v0 v1 v2 v3 v4  p3.2 _ (if_f hb hc)
def b_229_15 (k4 : Option Nat → Option Nat → Int32 → Int32 → Hp → Option (Int32 × Hp)) (k15 : Option Nat → Option Nat → Int32 → Int32 → Int32 → Hp → Option (Int32 × Hp)) (v0 : Option Nat) (v1 : Option Nat) (v2 : Int32) (v3 : Int32) (v4 : Int32)  (h : Hp) : Option (Int32 × Hp) :=
  if v3 ≤ v4 then b_229_47 k4 v0 v1 v2 v3  h else b_229_21 k4 k15 v0 v1 v2 v3 v4  h
theorem u_229_15 (d : Nat) (hd : 1 ≤ d) (k4 : Option Nat → Option Nat → Int32 → Int32 → Hp → Option (Int32 × Hp)) (K4 : ∀ (v0 : Option Nat) (v1 : Option Nat) (v2 : Int32) (v3 : Int32) (v4 : Option (Int32)) (h : Hp) (r : Int32 × Hp), k4 v0 v1 v2 v3 h = some r → Rn d 229 4 [some (va_rf v0), some (va_rf v1), some (.int v2), some (.int v3), v4.map Value.int] [] h (some (.int r.1), r.2)) (k15 : Option Nat → Option Nat → Int32 → Int32 → Int32 → Hp → Option (Int32 × Hp)) (K15 : ∀ (v0 : Option Nat) (v1 : Option Nat) (v2 : Int32) (v3 : Int32) (v4 : Int32) (h : Hp) (r : Int32 × Hp), k15 v0 v1 v2 v3 v4 h = some r → Rn d 229 15 [some (va_rf v0), some (va_rf v1), some (.int v2), some (.int v3), some (.int v4)] [] h (some (.int r.1), r.2)) (v0 : Option Nat) (v1 : Option Nat) (v2 : Int32) (v3 : Int32) (v4 : Int32)  (h : Hp) (r : Int32 × Hp) (hb : b_229_15 k4 k15 v0 v1 v2 v3 v4  h = some r) : Rn d 229 15 [some (va_rf v0), some (va_rf v1), some (.int v2), some (.int v3), some (.int v4)] [] h (some (.int r.1), r.2) := by
  unfold b_229_15 at hb
  refine rn_iload (i := 4) rfl rfl ?_
  refine rn_iload_n (i := 3) rfl rfl ?_
  refine rn_icmp_ge rfl rfl (fun hc => ?_) (fun hc => ?_)
  · exact u_229_47 d hd k4 K4 v0 v1 v2 v3 v4  h _ (if_t hb hc)
  · exact u_229_21 d hd k4 K4 k15 K15 v0 v1 v2 v3 v4  h _ (if_f hb hc)
def l_229_15 (k4 : Option Nat → Option Nat → Int32 → Int32 → Hp → Option (Int32 × Hp)) : Nat → Option Nat → Option Nat → Int32 → Int32 → Int32 → Hp → Option (Int32 × Hp)
  | 0, _, _, _, _, _, _ => none
  | n + 1, v0, v1, v2, v3, v4, h => b_229_15 k4 (l_229_15 k4 n) v0 v1 v2 v3 v4 h
theorem w_229_15 (d : Nat) (hd : 1 ≤ d) (k4 : Option Nat → Option Nat → Int32 → Int32 → Hp → Option (Int32 × Hp)) (K4 : ∀ (v0 : Option Nat) (v1 : Option Nat) (v2 : Int32) (v3 : Int32) (v4 : Option (Int32)) (h : Hp) (r : Int32 × Hp), k4 v0 v1 v2 v3 h = some r → Rn d 229 4 [some (va_rf v0), some (va_rf v1), some (.int v2), some (.int v3), v4.map Value.int] [] h (some (.int r.1), r.2)) : ∀ (n : Nat) (v0 : Option Nat) (v1 : Option Nat) (v2 : Int32) (v3 : Int32) (v4 : Int32) (h : Hp) (r : Int32 × Hp), l_229_15 k4 n v0 v1 v2 v3 v4 h = some r → Rn d 229 15 [some (va_rf v0), some (va_rf v1), some (.int v2), some (.int v3), some (.int v4)] [] h (some (.int r.1), r.2) := by
  intro n
  induction n with
  | zero => intro v0 v1 v2 v3 v4 h r hb; cases hb
  | succ n ih => intro v0 v1 v2 v3 v4 h r hb; exact u_229_15 d hd k4 K4 (l_229_15 k4 n) ih v0 v1 v2 v3 v4 h r hb
def b_229_12 (k4 : Option Nat → Option Nat → Int32 → Int32 → Hp → Option (Int32 × Hp)) (v0 : Option Nat) (v1 : Option Nat) (v2 : Int32) (v3 : Int32)  (h : Hp) : Option (Int32 × Hp) :=
  bnd ((nI 0)) fun x1 =>
  l_229_15 k4 FU v0 v1 v2 v3 x1 h
theorem u_229_12 (d : Nat) (hd : 1 ≤ d) (k4 : Option Nat → Option Nat → Int32 → Int32 → Hp → Option (Int32 × Hp)) (K4 : ∀ (v0 : Option Nat) (v1 : Option Nat) (v2 : Int32) (v3 : Int32) (v4 : Option (Int32)) (h : Hp) (r : Int32 × Hp), k4 v0 v1 v2 v3 h = some r → Rn d 229 4 [some (va_rf v0), some (va_rf v1), some (.int v2), some (.int v3), v4.map Value.int] [] h (some (.int r.1), r.2)) (v0 : Option Nat) (v1 : Option Nat) (v2 : Int32) (v3 : Int32) (v4 : Option (Int32))  (h : Hp) (r : Int32 × Hp) (hb : b_229_12 k4 v0 v1 v2 v3  h = some r) : Rn d 229 12 [some (va_rf v0), some (va_rf v1), some (.int v2), some (.int v3), v4.map Value.int] [] h (some (.int r.1), r.2) := by
  unfold b_229_12 at hb
  refine rn_iconst (x := (nI 0)) rfl (by decide) ?_
  obtain ⟨x1, ex1, hb⟩ := bnd_spec hb
  refine rn_istore (i := 4) (L1 := [some (va_rf v0), some (va_rf v1), some (.int v2), some (.int v3), some (.int x1)]) rfl (Nat.le_of_ble_eq_true rfl) (Or.inr rfl) (by rw [ex1]; rfl) ?_
  exact w_229_15 d hd k4 K4 FU v0 v1 v2 v3 x1 h _ hb
def b_229_4 (k4 : Option Nat → Option Nat → Int32 → Int32 → Hp → Option (Int32 × Hp)) (v0 : Option Nat) (v1 : Option Nat) (v2 : Int32) (v3 : Int32)  (h : Hp) : Option (Int32 × Hp) :=
  (grd (rC 11 v0 h)).bind fun _ =>
  (f_203 v0 h).bind fun p1 =>
  if p1.1 ≤ v3 then b_229_53 v2  p1.2 else b_229_12 k4 v0 v1 v2 v3  p1.2
theorem u_229_4 (d : Nat) (hd : 1 ≤ d) (k4 : Option Nat → Option Nat → Int32 → Int32 → Hp → Option (Int32 × Hp)) (K4 : ∀ (v0 : Option Nat) (v1 : Option Nat) (v2 : Int32) (v3 : Int32) (v4 : Option (Int32)) (h : Hp) (r : Int32 × Hp), k4 v0 v1 v2 v3 h = some r → Rn d 229 4 [some (va_rf v0), some (va_rf v1), some (.int v2), some (.int v3), v4.map Value.int] [] h (some (.int r.1), r.2)) (v0 : Option Nat) (v1 : Option Nat) (v2 : Int32) (v3 : Int32) (v4 : Option (Int32))  (h : Hp) (r : Int32 × Hp) (hb : b_229_4 k4 v0 v1 v2 v3  h = some r) : Rn d 229 4 [some (va_rf v0), some (va_rf v1), some (.int v2), some (.int v3), v4.map Value.int] [] h (some (.int r.1), r.2) := by
  unfold b_229_4 at hb
  obtain ⟨e, rfl⟩ : ∃ e, d = e + 1 := ⟨d - 1, by omega⟩
  refine rn_iload_n (i := 3) rfl rfl ?_
  refine rn_aload_n (i := 0) rfl rfl ?_
  obtain ⟨hrc, hb⟩ := grd_spec hb
  obtain ⟨p1, hc, hb⟩ := Option.bind_eq_some_iff.mp hb
  refine Rn.call1 (d := e) (As := [va_rf v0]) (rest := [.int v3]) rfl rfl rfl (by decide) rfl rfl rfl (bd_rcV hrc rfl) (by rw [bd_cI (bd_cN)]; decide) (bd_lenC (n := 1) rfl (bd_slR bd_slN) rfl) (bd_locC (n := 1) rfl (bd_slR bd_slN) rfl (t_203 e (by omega) v0 h _ hc)) ?_
  refine rn_icmp_ge rfl rfl (fun hc => ?_) (fun hc => ?_)
  · exact u_229_53 (e + 1) hd v0 v1 v2 v3 v4  p1.2 _ (if_t hb hc)
  · exact u_229_12 (e + 1) hd k4 K4 v0 v1 v2 v3 v4  p1.2 _ (if_f hb hc)
def l_229_4 : Nat → Option Nat → Option Nat → Int32 → Int32 → Hp → Option (Int32 × Hp)
  | 0, _, _, _, _, _ => none
  | n + 1, v0, v1, v2, v3, h => b_229_4 (l_229_4 n) v0 v1 v2 v3 h
theorem w_229_4 (d : Nat) (hd : 1 ≤ d) : ∀ (n : Nat) (v0 : Option Nat) (v1 : Option Nat) (v2 : Int32) (v3 : Int32) (v4 : Option (Int32)) (h : Hp) (r : Int32 × Hp), l_229_4 n v0 v1 v2 v3 h = some r → Rn d 229 4 [some (va_rf v0), some (va_rf v1), some (.int v2), some (.int v3), v4.map Value.int] [] h (some (.int r.1), r.2) := by
  intro n
  induction n with
  | zero => intro v0 v1 v2 v3 v4 h r hb; cases hb
  | succ n ih => intro v0 v1 v2 v3 v4 h r hb; exact u_229_4 d hd (l_229_4 n) ih v0 v1 v2 v3 v4 h r hb
def b_229_0 (v0 : Option Nat) (v1 : Option Nat)  (h : Hp) : Option (Int32 × Hp) :=
  bnd ((nI 0)) fun x1 =>
  bnd ((nI 0)) fun x2 =>
  l_229_4 FU v0 v1 x1 x2 h
theorem u_229_0 (d : Nat) (hd : 1 ≤ d) (v0 : Option Nat) (v1 : Option Nat)  (h : Hp) (r : Int32 × Hp) (hb : b_229_0 v0 v1  h = some r) : Rn d 229 0 [some (va_rf v0), some (va_rf v1), none, none, none] [] h (some (.int r.1), r.2) := by
  unfold b_229_0 at hb
  refine rn_iconst (x := (nI 0)) rfl (by decide) ?_
  obtain ⟨x1, ex1, hb⟩ := bnd_spec hb
  refine rn_istore_n (i := 2) (L1 := [some (va_rf v0), some (va_rf v1), some (.int x1), none, none]) rfl (Nat.le_of_ble_eq_true rfl) (Or.inr (bd_wideR rfl)) (by rw [ex1]; rfl) ?_
  refine rn_iconst (x := (nI 0)) rfl (by decide) ?_
  obtain ⟨x2, ex2, hb⟩ := bnd_spec hb
  refine rn_istore_n (i := 3) (L1 := [some (va_rf v0), some (va_rf v1), some (.int x1), some (.int x2), none]) rfl (Nat.le_of_ble_eq_true rfl) (Or.inr rfl) (by rw [ex2]; rfl) ?_
  exact w_229_4 d hd FU v0 v1 x1 x2 (none : Option (Int32)) h _ hb
/-- BitingDoorsModel.clashesOf([I)I -/
def f_229 (v0 : Option Nat) (v1 : Option Nat) (h : Hp) : Option (Int32 × Hp) := b_229_0 v0 v1 h
theorem t_229 (d : Nat) (hd : 1 ≤ d) (v0 : Option Nat) (v1 : Option Nat) (h : Hp) (r : Int32 × Hp) (hb : f_229 v0 v1 h = some r) : Rn d 229 0 [some (va_rf v0), some (va_rf v1), none, none, none] [] h (some (.int r.1), r.2) := by
  unfold f_229 at hb
  exact u_229_0 d hd v0 v1 h r hb
def b_230_37 (v0 : Option Nat)  (h : Hp) : Option (Int32 × Hp) :=
  (gQ 11 30 v0 h).bind fun x1 =>
  (grd (rC 11 v0 h)).bind fun _ =>
  (f_229 v0 x1 h).bind fun p2 =>
  some (p2.1, p2.2)
theorem u_230_37 (d : Nat) (hd : 5 ≤ d) (v0 : Option Nat) (v1 : Int32)  (h : Hp) (r : Int32 × Hp) (hb : b_230_37 v0  h = some r) : Rn d 230 37 [some (va_rf v0), some (.int v1)] [] h (some (.int r.1), r.2) := by
  unfold b_230_37 at hb
  obtain ⟨e, rfl⟩ : ∃ e, d = e + 1 := ⟨d - 1, by omega⟩
  refine rn_aload_n (i := 0) rfl rfl ?_
  refine rn_aload_n (i := 0) rfl rfl ?_
  refine rn_gQ (c := 11) (k := 30) rfl (by decide) hb (fun x1 hb => ?_)
  obtain ⟨hrc, hb⟩ := grd_spec hb
  obtain ⟨p2, hc, hb⟩ := Option.bind_eq_some_iff.mp hb
  refine Rn.call1 (d := e) (As := [va_rf v0, va_rf x1]) (rest := []) rfl rfl rfl (by decide) rfl rfl rfl (bd_rcV hrc rfl) (by decide) (bd_lenC (n := 5) rfl (bd_slR (bd_slR bd_slN)) rfl) (bd_locC (n := 5) rfl (bd_slR (bd_slR bd_slN)) rfl (t_229 e (by omega) v0 x1 h _ hc)) ?_
  obtain rfl := Option.some.inj hb
  exact rn_iret rfl rfl
def b_230_19 (k11 : Option Nat → Int32 → Hp → Option (Int32 × Hp)) (v0 : Option Nat) (v1 : Int32)  (h : Hp) : Option (Int32 × Hp) :=
  (gQ 11 30 v0 h).bind fun x1 =>
  (grd (rC 11 v0 h)).bind fun _ =>
  (f_205 v0 v1 (nI 4) h).bind fun p2 =>
  (wI x1 v1 p2.1 p2.2).bind fun h3 =>
  bnd (v1 + (nI 1)) fun x4 =>
  k11 v0 x4 h3
theorem u_230_19 (d : Nat) (hd : 5 ≤ d) (k11 : Option Nat → Int32 → Hp → Option (Int32 × Hp)) (K11 : ∀ (v0 : Option Nat) (v1 : Int32) (h : Hp) (r : Int32 × Hp), k11 v0 v1 h = some r → Rn d 230 11 [some (va_rf v0), some (.int v1)] [] h (some (.int r.1), r.2)) (v0 : Option Nat) (v1 : Int32)  (h : Hp) (r : Int32 × Hp) (hb : b_230_19 k11 v0 v1  h = some r) : Rn d 230 19 [some (va_rf v0), some (.int v1)] [] h (some (.int r.1), r.2) := by
  unfold b_230_19 at hb
  obtain ⟨e, rfl⟩ : ∃ e, d = e + 1 := ⟨d - 1, by omega⟩
  refine rn_aload_n (i := 0) rfl rfl ?_
  refine rn_gQ (c := 11) (k := 30) rfl (by decide) hb (fun x1 hb => ?_)
  refine rn_iload_n (i := 1) rfl rfl ?_
  refine rn_aload_n (i := 0) rfl rfl ?_
  refine rn_iload_n (i := 1) rfl rfl ?_
  refine rn_iconst (x := (nI 4)) rfl (by decide) ?_
  obtain ⟨hrc, hb⟩ := grd_spec hb
  obtain ⟨p2, hc, hb⟩ := Option.bind_eq_some_iff.mp hb
  refine Rn.call1 (d := e) (As := [va_rf v0, .int v1, .int (nI 4)]) (rest := [.int v1, va_rf x1]) rfl rfl rfl (by decide) rfl rfl rfl (bd_rcV hrc rfl) (by rw [bd_cI (bd_cR (bd_cN))]; decide) (bd_lenC (n := 3) rfl (bd_slR (bd_slI (bd_slI bd_slN))) rfl) (bd_locC (n := 3) rfl (bd_slR (bd_slI (bd_slI bd_slN))) rfl (t_205 e (by omega) v0 v1 (nI 4) h _ hc)) ?_
  refine rn_wI rfl hb (fun h3 hb => ?_)
  obtain ⟨x4, ex4, hb⟩ := bnd_spec hb
  refine rn_iinc (i := 1) (y := x4) (L1 := [some (va_rf v0), some (.int x4)]) rfl rfl (Nat.le_of_ble_eq_true rfl) (Or.inr (bd_wideR rfl)) (by rw [ex4]; rfl) rfl ?_
  refine rn_goto rfl rfl ?_
  exact K11 v0 x4 h3 _ hb
def b_230_11 (k11 : Option Nat → Int32 → Hp → Option (Int32 × Hp)) (v0 : Option Nat) (v1 : Int32)  (h : Hp) : Option (Int32 × Hp) :=
  (grd (rC 11 v0 h)).bind fun _ =>
  (f_203 v0 h).bind fun p1 =>
  if p1.1 ≤ v1 then b_230_37 v0  p1.2 else b_230_19 k11 v0 v1  p1.2
theorem u_230_11 (d : Nat) (hd : 5 ≤ d) (k11 : Option Nat → Int32 → Hp → Option (Int32 × Hp)) (K11 : ∀ (v0 : Option Nat) (v1 : Int32) (h : Hp) (r : Int32 × Hp), k11 v0 v1 h = some r → Rn d 230 11 [some (va_rf v0), some (.int v1)] [] h (some (.int r.1), r.2)) (v0 : Option Nat) (v1 : Int32)  (h : Hp) (r : Int32 × Hp) (hb : b_230_11 k11 v0 v1  h = some r) : Rn d 230 11 [some (va_rf v0), some (.int v1)] [] h (some (.int r.1), r.2) := by
  unfold b_230_11 at hb
  obtain ⟨e, rfl⟩ : ∃ e, d = e + 1 := ⟨d - 1, by omega⟩
  refine rn_iload_n (i := 1) rfl rfl ?_
  refine rn_aload_n (i := 0) rfl rfl ?_
  obtain ⟨hrc, hb⟩ := grd_spec hb
  obtain ⟨p1, hc, hb⟩ := Option.bind_eq_some_iff.mp hb
  refine Rn.call1 (d := e) (As := [va_rf v0]) (rest := [.int v1]) rfl rfl rfl (by decide) rfl rfl rfl (bd_rcV hrc rfl) (by rw [bd_cI (bd_cN)]; decide) (bd_lenC (n := 1) rfl (bd_slR bd_slN) rfl) (bd_locC (n := 1) rfl (bd_slR bd_slN) rfl (t_203 e (by omega) v0 h _ hc)) ?_
  refine rn_icmp_ge rfl rfl (fun hc => ?_) (fun hc => ?_)
  · exact u_230_37 (e + 1) hd v0 v1  p1.2 _ (if_t hb hc)
  · exact u_230_19 (e + 1) hd k11 K11 v0 v1  p1.2 _ (if_f hb hc)
def l_230_11 : Nat → Option Nat → Int32 → Hp → Option (Int32 × Hp)
  | 0, _, _, _ => none
  | n + 1, v0, v1, h => b_230_11 (l_230_11 n) v0 v1 h
theorem w_230_11 (d : Nat) (hd : 5 ≤ d) : ∀ (n : Nat) (v0 : Option Nat) (v1 : Int32) (h : Hp) (r : Int32 × Hp), l_230_11 n v0 v1 h = some r → Rn d 230 11 [some (va_rf v0), some (.int v1)] [] h (some (.int r.1), r.2) := by
  intro n
  induction n with
  | zero => intro v0 v1 h r hb; cases hb
  | succ n ih => intro v0 v1 h r hb; exact u_230_11 d hd (l_230_11 n) ih v0 v1 h r hb
def b_230_0 (v0 : Option Nat)  (h : Hp) : Option (Int32 × Hp) :=
  (pI 11 0 v0 (nI 0) h).bind fun h1 =>
  (grd (rC 11 v0 h1)).bind fun _ =>
  (f_225 v0 h1).bind fun p2 =>
  bnd ((nI 0)) fun x3 =>
  l_230_11 FU v0 x3 p2
theorem u_230_0 (d : Nat) (hd : 5 ≤ d) (v0 : Option Nat)  (h : Hp) (r : Int32 × Hp) (hb : b_230_0 v0  h = some r) : Rn d 230 0 [some (va_rf v0), none] [] h (some (.int r.1), r.2) := by
  unfold b_230_0 at hb
  obtain ⟨e, rfl⟩ : ∃ e, d = e + 1 := ⟨d - 1, by omega⟩
  refine rn_aload_n (i := 0) rfl rfl ?_
  refine rn_iconst (x := (nI 0)) rfl (by decide) ?_
  refine rn_pI (c := 11) (k := 0) rfl (by decide) hb (fun h1 hb => ?_)
  refine rn_aload_n (i := 0) rfl rfl ?_
  obtain ⟨hrc, hb⟩ := grd_spec hb
  obtain ⟨p2, hc, hb⟩ := Option.bind_eq_some_iff.mp hb
  refine Rn.call0 (d := e) (As := [va_rf v0]) (rest := []) rfl rfl rfl (by decide) rfl rfl rfl (bd_rcV hrc rfl) (by decide) (bd_lenC (n := 7) rfl (bd_slR bd_slN) rfl) (bd_locC (n := 7) rfl (bd_slR bd_slN) rfl (t_225 e (by omega) v0 h1 _ hc)) ?_
  refine rn_iconst (x := (nI 0)) rfl (by decide) ?_
  obtain ⟨x3, ex3, hb⟩ := bnd_spec hb
  refine rn_istore_n (i := 1) (L1 := [some (va_rf v0), some (.int x3)]) rfl (Nat.le_of_ble_eq_true rfl) (Or.inr (bd_wideR rfl)) (by rw [ex3]; rfl) ?_
  exact w_230_11 (e + 1) hd FU v0 x3 p2 _ hb
/-- BitingDoorsModel.clashes()I -/
def f_230 (v0 : Option Nat) (h : Hp) : Option (Int32 × Hp) := b_230_0 v0 h
theorem t_230 (d : Nat) (hd : 5 ≤ d) (v0 : Option Nat) (h : Hp) (r : Int32 × Hp) (hb : f_230 v0 h = some r) : Rn d 230 0 [some (va_rf v0), none] [] h (some (.int r.1), r.2) := by
  unfold f_230 at hb
  exact u_230_0 d hd v0 h r hb
def b_231_30  (s0 : Int32) (h : Hp) : Option (Int32 × Hp) :=
  some (s0, h)
theorem u_231_30 (d : Nat) (hd : 1 ≤ d) (v0 : Option Nat) (v1 : Int32) (v2 : Int32) (s0 : Int32) (h : Hp) (r : Int32 × Hp) (hb : b_231_30  s0 h = some r) : Rn d 231 30 [some (va_rf v0), some (.int v1), some (.int v2)] [.int s0] h (some (.int r.1), r.2) := by
  unfold b_231_30 at hb
  obtain rfl := Option.some.inj hb
  exact rn_iret rfl rfl
def b_231_19 (v0 : Option Nat) (v1 : Int32)  (h : Hp) : Option (Int32 × Hp) :=
  (grd (rC 11 v0 h)).bind fun _ =>
  (f_205 v0 v1 (nI 6) h).bind fun p1 =>
  b_231_30  ((nI 10000) + p1.1) p1.2
theorem u_231_19 (d : Nat) (hd : 1 ≤ d) (v0 : Option Nat) (v1 : Int32) (v2 : Int32)  (h : Hp) (r : Int32 × Hp) (hb : b_231_19 v0 v1  h = some r) : Rn d 231 19 [some (va_rf v0), some (.int v1), some (.int v2)] [] h (some (.int r.1), r.2) := by
  unfold b_231_19 at hb
  obtain ⟨e, rfl⟩ : ∃ e, d = e + 1 := ⟨d - 1, by omega⟩
  refine rn_sipush (x := (nI 10000)) rfl (by decide) ?_
  refine rn_aload_n (i := 0) rfl rfl ?_
  refine rn_iload_n (i := 1) rfl rfl ?_
  refine rn_bipush (x := (nI 6)) rfl (by decide) ?_
  obtain ⟨hrc, hb⟩ := grd_spec hb
  obtain ⟨p1, hc, hb⟩ := Option.bind_eq_some_iff.mp hb
  refine Rn.call1 (d := e) (As := [va_rf v0, .int v1, .int (nI 6)]) (rest := [.int (nI 10000)]) rfl rfl rfl (by decide) rfl rfl rfl (bd_rcV hrc rfl) (by rw [bd_cI (bd_cN)]; decide) (bd_lenC (n := 3) rfl (bd_slR (bd_slI (bd_slI bd_slN))) rfl) (bd_locC (n := 3) rfl (bd_slR (bd_slI (bd_slI bd_slN))) rfl (t_205 e (by omega) v0 v1 (nI 6) h _ hc)) ?_
  refine rn_iadd rfl ?_
  exact u_231_30 (e + 1) hd v0 v1 v2 ((nI 10000) + p1.1) p1.2 _ hb
def b_231_4 (v0 : Option Nat) (v1 : Int32)  (h : Hp) : Option (Int32 × Hp) :=
  (grd (rC 11 v0 h)).bind fun _ =>
  (f_205 v0 v1 (nI 6) h).bind fun p1 =>
  b_231_30  (((nI 100) * p1.1) + (nI 1)) p1.2
theorem u_231_4 (d : Nat) (hd : 1 ≤ d) (v0 : Option Nat) (v1 : Int32) (v2 : Int32)  (h : Hp) (r : Int32 × Hp) (hb : b_231_4 v0 v1  h = some r) : Rn d 231 4 [some (va_rf v0), some (.int v1), some (.int v2)] [] h (some (.int r.1), r.2) := by
  unfold b_231_4 at hb
  obtain ⟨e, rfl⟩ : ∃ e, d = e + 1 := ⟨d - 1, by omega⟩
  refine rn_bipush (x := (nI 100)) rfl (by decide) ?_
  refine rn_aload_n (i := 0) rfl rfl ?_
  refine rn_iload_n (i := 1) rfl rfl ?_
  refine rn_bipush (x := (nI 6)) rfl (by decide) ?_
  obtain ⟨hrc, hb⟩ := grd_spec hb
  obtain ⟨p1, hc, hb⟩ := Option.bind_eq_some_iff.mp hb
  refine Rn.call1 (d := e) (As := [va_rf v0, .int v1, .int (nI 6)]) (rest := [.int (nI 100)]) rfl rfl rfl (by decide) rfl rfl rfl (bd_rcV hrc rfl) (by rw [bd_cI (bd_cN)]; decide) (bd_lenC (n := 3) rfl (bd_slR (bd_slI (bd_slI bd_slN))) rfl) (bd_locC (n := 3) rfl (bd_slR (bd_slI (bd_slI bd_slN))) rfl (t_205 e (by omega) v0 v1 (nI 6) h _ hc)) ?_
  refine rn_imul rfl ?_
  refine rn_iconst (x := (nI 1)) rfl (by decide) ?_
  refine rn_iadd rfl ?_
  refine rn_goto rfl rfl ?_
  exact u_231_30 (e + 1) hd v0 v1 v2 (((nI 100) * p1.1) + (nI 1)) p1.2 _ hb
def b_231_0 (v0 : Option Nat) (v1 : Int32) (v2 : Int32)  (h : Hp) : Option (Int32 × Hp) :=
  if v2 = 0 then b_231_19 v0 v1  h else b_231_4 v0 v1  h
theorem u_231_0 (d : Nat) (hd : 1 ≤ d) (v0 : Option Nat) (v1 : Int32) (v2 : Int32)  (h : Hp) (r : Int32 × Hp) (hb : b_231_0 v0 v1 v2  h = some r) : Rn d 231 0 [some (va_rf v0), some (.int v1), some (.int v2)] [] h (some (.int r.1), r.2) := by
  unfold b_231_0 at hb
  refine rn_iload_n (i := 2) rfl rfl ?_
  refine rn_if_eq rfl rfl (fun hc => ?_) (fun hc => ?_)
  · exact u_231_19 d hd v0 v1 v2  h _ (if_t hb hc)
  · exact u_231_4 d hd v0 v1 v2  h _ (if_f hb hc)
/-- BitingDoorsModel.weightOf(IZ)I -/
def f_231 (v0 : Option Nat) (v1 : Int32) (v2 : Int32) (h : Hp) : Option (Int32 × Hp) := b_231_0 v0 v1 v2 h
theorem t_231 (d : Nat) (hd : 1 ≤ d) (v0 : Option Nat) (v1 : Int32) (v2 : Int32) (h : Hp) (r : Int32 × Hp) (hb : f_231 v0 v1 v2 h = some r) : Rn d 231 0 [some (va_rf v0), some (.int v1), some (.int v2)] [] h (some (.int r.1), r.2) := by
  unfold f_231 at hb
  exact u_231_0 d hd v0 v1 v2 h r hb
def b_232_44   (h : Hp) : Option (Int32 × Hp) :=
  (grd (decide ((nI 1) = 0 ∨ (nI 1) = 1))).bind fun _ => some ((nI 1), h)
theorem u_232_44 (d : Nat) (hd : 1 ≤ d) (v0 : Option Nat) (v1 : Int32) (v2 : Int32) (v3 : Int32) (v4 : Int32)  (h : Hp) (r : Int32 × Hp) (hb : b_232_44   h = some r) : Rn d 232 44 [some (va_rf v0), some (.int v1), some (.int v2), some (.int v3), some (.int v4)] [] h (some (.int r.1), r.2) := by
  unfold b_232_44 at hb
  refine rn_iconst (x := (nI 1)) rfl (by decide) ?_
  obtain ⟨hz, hb⟩ := grd_spec hb
  obtain rfl := Option.some.inj hb
  exact rn_zret rfl rfl (of_decide_eq_true hz)
def b_232_38 (k3 : Option Nat → Int32 → Int32 → Int32 → Int32 → Hp → Option (Int32 × Hp)) (v0 : Option Nat) (v1 : Int32) (v2 : Int32) (v3 : Int32) (v4 : Int32)  (h : Hp) : Option (Int32 × Hp) :=
  bnd (v4 + (nI 1)) fun x1 =>
  k3 v0 v1 v2 v3 x1 h
theorem u_232_38 (d : Nat) (hd : 1 ≤ d) (k3 : Option Nat → Int32 → Int32 → Int32 → Int32 → Hp → Option (Int32 × Hp)) (K3 : ∀ (v0 : Option Nat) (v1 : Int32) (v2 : Int32) (v3 : Int32) (v4 : Int32) (h : Hp) (r : Int32 × Hp), k3 v0 v1 v2 v3 v4 h = some r → Rn d 232 3 [some (va_rf v0), some (.int v1), some (.int v2), some (.int v3), some (.int v4)] [] h (some (.int r.1), r.2)) (v0 : Option Nat) (v1 : Int32) (v2 : Int32) (v3 : Int32) (v4 : Int32)  (h : Hp) (r : Int32 × Hp) (hb : b_232_38 k3 v0 v1 v2 v3 v4  h = some r) : Rn d 232 38 [some (va_rf v0), some (.int v1), some (.int v2), some (.int v3), some (.int v4)] [] h (some (.int r.1), r.2) := by
  unfold b_232_38 at hb
  obtain ⟨x1, ex1, hb⟩ := bnd_spec hb
  refine rn_iinc (i := 4) (y := x1) (L1 := [some (va_rf v0), some (.int v1), some (.int v2), some (.int v3), some (.int x1)]) rfl rfl (Nat.le_of_ble_eq_true rfl) (Or.inr rfl) (by rw [ex1]; rfl) rfl ?_
  refine rn_goto rfl rfl ?_
  exact K3 v0 v1 v2 v3 x1 h _ hb
def b_232_36   (h : Hp) : Option (Int32 × Hp) :=
  (grd (decide ((nI 0) = 0 ∨ (nI 0) = 1))).bind fun _ => some ((nI 0), h)
theorem u_232_36 (d : Nat) (hd : 1 ≤ d) (v0 : Option Nat) (v1 : Int32) (v2 : Int32) (v3 : Int32) (v4 : Int32)  (h : Hp) (r : Int32 × Hp) (hb : b_232_36   h = some r) : Rn d 232 36 [some (va_rf v0), some (.int v1), some (.int v2), some (.int v3), some (.int v4)] [] h (some (.int r.1), r.2) := by
  unfold b_232_36 at hb
  refine rn_iconst (x := (nI 0)) rfl (by decide) ?_
  obtain ⟨hz, hb⟩ := grd_spec hb
  obtain rfl := Option.some.inj hb
  exact rn_zret rfl rfl (of_decide_eq_true hz)
def b_232_18 (k3 : Option Nat → Int32 → Int32 → Int32 → Int32 → Hp → Option (Int32 × Hp)) (v0 : Option Nat) (v1 : Int32) (v2 : Int32) (v3 : Int32) (v4 : Int32)  (h : Hp) : Option (Int32 × Hp) :=
  (gQ 11 30 v0 h).bind fun x1 =>
  (aI 12 x1 v4 h).bind fun x2 =>
  (grd (rC 11 v0 h)).bind fun _ =>
  (f_227 v0 v1 v2 v4 x2 h).bind fun p3 =>
  if p3.1 = 0 then b_232_38 k3 v0 v1 v2 v3 v4  p3.2 else b_232_36   p3.2
theorem u_232_18 (d : Nat) (hd : 1 ≤ d) (k3 : Option Nat → Int32 → Int32 → Int32 → Int32 → Hp → Option (Int32 × Hp)) (K3 : ∀ (v0 : Option Nat) (v1 : Int32) (v2 : Int32) (v3 : Int32) (v4 : Int32) (h : Hp) (r : Int32 × Hp), k3 v0 v1 v2 v3 v4 h = some r → Rn d 232 3 [some (va_rf v0), some (.int v1), some (.int v2), some (.int v3), some (.int v4)] [] h (some (.int r.1), r.2)) (v0 : Option Nat) (v1 : Int32) (v2 : Int32) (v3 : Int32) (v4 : Int32)  (h : Hp) (r : Int32 × Hp) (hb : b_232_18 k3 v0 v1 v2 v3 v4  h = some r) : Rn d 232 18 [some (va_rf v0), some (.int v1), some (.int v2), some (.int v3), some (.int v4)] [] h (some (.int r.1), r.2) := by
  unfold b_232_18 at hb
  obtain ⟨e, rfl⟩ : ∃ e, d = e + 1 := ⟨d - 1, by omega⟩
  refine rn_aload_n (i := 0) rfl rfl ?_
  refine rn_iload_n (i := 1) rfl rfl ?_
  refine rn_iload_n (i := 2) rfl rfl ?_
  refine rn_iload (i := 4) rfl rfl ?_
  refine rn_aload_n (i := 0) rfl rfl ?_
  refine rn_gQ (c := 11) (k := 30) rfl (by decide) hb (fun x1 hb => ?_)
  refine rn_iload (i := 4) rfl rfl ?_
  refine rn_aI rfl hb (fun x2 hb => ?_)
  obtain ⟨hrc, hb⟩ := grd_spec hb
  obtain ⟨p3, hc, hb⟩ := Option.bind_eq_some_iff.mp hb
  refine Rn.call1 (d := e) (As := [va_rf v0, .int v1, .int v2, .int v4, .int x2]) (rest := []) rfl rfl rfl (by decide) rfl rfl rfl (bd_rcV hrc rfl) (by decide) (bd_lenC (n := 5) rfl (bd_slR (bd_slI (bd_slI (bd_slI (bd_slI bd_slN))))) rfl) (bd_locC (n := 5) rfl (bd_slR (bd_slI (bd_slI (bd_slI (bd_slI bd_slN))))) rfl (t_227 e (by omega) v0 v1 v2 v4 x2 h _ hc)) ?_
  refine rn_if_eq rfl rfl (fun hc => ?_) (fun hc => ?_)
  · exact u_232_38 (e + 1) hd k3 K3 v0 v1 v2 v3 v4  p3.2 _ (if_t hb hc)
  · exact u_232_36 (e + 1) hd v0 v1 v2 v3 v4  p3.2 _ (if_f hb hc)
def b_232_9 (k3 : Option Nat → Int32 → Int32 → Int32 → Int32 → Hp → Option (Int32 × Hp)) (v0 : Option Nat) (v1 : Int32) (v2 : Int32) (v3 : Int32) (v4 : Int32)  (h : Hp) : Option (Int32 × Hp) :=
  (f_183 v3 v4 h).bind fun p1 =>
  if p1.1 = 0 then b_232_38 k3 v0 v1 v2 v3 v4  p1.2 else b_232_18 k3 v0 v1 v2 v3 v4  p1.2
theorem u_232_9 (d : Nat) (hd : 1 ≤ d) (k3 : Option Nat → Int32 → Int32 → Int32 → Int32 → Hp → Option (Int32 × Hp)) (K3 : ∀ (v0 : Option Nat) (v1 : Int32) (v2 : Int32) (v3 : Int32) (v4 : Int32) (h : Hp) (r : Int32 × Hp), k3 v0 v1 v2 v3 v4 h = some r → Rn d 232 3 [some (va_rf v0), some (.int v1), some (.int v2), some (.int v3), some (.int v4)] [] h (some (.int r.1), r.2)) (v0 : Option Nat) (v1 : Int32) (v2 : Int32) (v3 : Int32) (v4 : Int32)  (h : Hp) (r : Int32 × Hp) (hb : b_232_9 k3 v0 v1 v2 v3 v4  h = some r) : Rn d 232 9 [some (va_rf v0), some (.int v1), some (.int v2), some (.int v3), some (.int v4)] [] h (some (.int r.1), r.2) := by
  unfold b_232_9 at hb
  obtain ⟨e, rfl⟩ : ∃ e, d = e + 1 := ⟨d - 1, by omega⟩
  refine rn_iload_n (i := 3) rfl rfl ?_
  refine rn_iload (i := 4) rfl rfl ?_
  obtain ⟨p1, hc, hb⟩ := Option.bind_eq_some_iff.mp hb
  refine Rn.call1 (d := e) (As := [.int v3, .int v4]) (rest := []) rfl rfl rfl (by decide) rfl rfl rfl rfl (by decide) (bd_lenC (n := 2) rfl (bd_slI (bd_slI bd_slN)) rfl) (bd_locC (n := 2) rfl (bd_slI (bd_slI bd_slN)) rfl (t_183 e (by omega) v3 v4 h _ hc)) ?_
  refine rn_if_eq rfl rfl (fun hc => ?_) (fun hc => ?_)
  · exact u_232_38 (e + 1) hd k3 K3 v0 v1 v2 v3 v4  p1.2 _ (if_t hb hc)
  · exact u_232_18 (e + 1) hd k3 K3 v0 v1 v2 v3 v4  p1.2 _ (if_f hb hc)
def b_232_3 (k3 : Option Nat → Int32 → Int32 → Int32 → Int32 → Hp → Option (Int32 × Hp)) (v0 : Option Nat) (v1 : Int32) (v2 : Int32) (v3 : Int32) (v4 : Int32)  (h : Hp) : Option (Int32 × Hp) :=
  if v1 ≤ v4 then b_232_44   h else b_232_9 k3 v0 v1 v2 v3 v4  h
theorem u_232_3 (d : Nat) (hd : 1 ≤ d) (k3 : Option Nat → Int32 → Int32 → Int32 → Int32 → Hp → Option (Int32 × Hp)) (K3 : ∀ (v0 : Option Nat) (v1 : Int32) (v2 : Int32) (v3 : Int32) (v4 : Int32) (h : Hp) (r : Int32 × Hp), k3 v0 v1 v2 v3 v4 h = some r → Rn d 232 3 [some (va_rf v0), some (.int v1), some (.int v2), some (.int v3), some (.int v4)] [] h (some (.int r.1), r.2)) (v0 : Option Nat) (v1 : Int32) (v2 : Int32) (v3 : Int32) (v4 : Int32)  (h : Hp) (r : Int32 × Hp) (hb : b_232_3 k3 v0 v1 v2 v3 v4  h = some r) : Rn d 232 3 [some (va_rf v0), some (.int v1), some (.int v2), some (.int v3), some (.int v4)] [] h (some (.int r.1), r.2) := by
  unfold b_232_3 at hb
  refine rn_iload (i := 4) rfl rfl ?_
  refine rn_iload_n (i := 1) rfl rfl ?_
  refine rn_icmp_ge rfl rfl (fun hc => ?_) (fun hc => ?_)
  · exact u_232_44 d hd v0 v1 v2 v3 v4  h _ (if_t hb hc)
  · exact u_232_9 d hd k3 K3 v0 v1 v2 v3 v4  h _ (if_f hb hc)
def l_232_3 : Nat → Option Nat → Int32 → Int32 → Int32 → Int32 → Hp → Option (Int32 × Hp)
  | 0, _, _, _, _, _, _ => none
  | n + 1, v0, v1, v2, v3, v4, h => b_232_3 (l_232_3 n) v0 v1 v2 v3 v4 h
theorem w_232_3 (d : Nat) (hd : 1 ≤ d) : ∀ (n : Nat) (v0 : Option Nat) (v1 : Int32) (v2 : Int32) (v3 : Int32) (v4 : Int32) (h : Hp) (r : Int32 × Hp), l_232_3 n v0 v1 v2 v3 v4 h = some r → Rn d 232 3 [some (va_rf v0), some (.int v1), some (.int v2), some (.int v3), some (.int v4)] [] h (some (.int r.1), r.2) := by
  intro n
  induction n with
  | zero => intro v0 v1 v2 v3 v4 h r hb; cases hb
  | succ n ih => intro v0 v1 v2 v3 v4 h r hb; exact u_232_3 d hd (l_232_3 n) ih v0 v1 v2 v3 v4 h r hb
def b_232_0 (v0 : Option Nat) (v1 : Int32) (v2 : Int32) (v3 : Int32)  (h : Hp) : Option (Int32 × Hp) :=
  bnd ((nI 0)) fun x1 =>
  l_232_3 FU v0 v1 v2 v3 x1 h
theorem u_232_0 (d : Nat) (hd : 1 ≤ d) (v0 : Option Nat) (v1 : Int32) (v2 : Int32) (v3 : Int32)  (h : Hp) (r : Int32 × Hp) (hb : b_232_0 v0 v1 v2 v3  h = some r) : Rn d 232 0 [some (va_rf v0), some (.int v1), some (.int v2), some (.int v3), none] [] h (some (.int r.1), r.2) := by
  unfold b_232_0 at hb
  refine rn_iconst (x := (nI 0)) rfl (by decide) ?_
  obtain ⟨x1, ex1, hb⟩ := bnd_spec hb
  refine rn_istore (i := 4) (L1 := [some (va_rf v0), some (.int v1), some (.int v2), some (.int v3), some (.int x1)]) rfl (Nat.le_of_ble_eq_true rfl) (Or.inr rfl) (by rw [ex1]; rfl) ?_
  exact w_232_3 d hd FU v0 v1 v2 v3 x1 h _ hb
/-- BitingDoorsModel.mayHang(III)Z -/
def f_232 (v0 : Option Nat) (v1 : Int32) (v2 : Int32) (v3 : Int32) (h : Hp) : Option (Int32 × Hp) := b_232_0 v0 v1 v2 v3 h
theorem t_232 (d : Nat) (hd : 1 ≤ d) (v0 : Option Nat) (v1 : Int32) (v2 : Int32) (v3 : Int32) (h : Hp) (r : Int32 × Hp) (hb : f_232 v0 v1 v2 v3 h = some r) : Rn d 232 0 [some (va_rf v0), some (.int v1), some (.int v2), some (.int v3), none] [] h (some (.int r.1), r.2) := by
  unfold f_232 at hb
  exact u_232_0 d hd v0 v1 v2 v3 h r hb
def b_233_146 (R : Option Nat → Int32 → Int32 → Int32 → Hp → Option (Hp))   (h : Hp) : Option (Hp) :=
  some h
theorem u_233_146 (E : Nat) (hE : 1 ≤ E) (d : Nat) (hd : E + 1 ≤ d) (R : Option Nat → Int32 → Int32 → Int32 → Hp → Option (Hp)) (HR : ∀ (d : Nat) (a0 : Option Nat) (a1 : Int32) (a2 : Int32) (a3 : Int32) (h : Hp) (r : Hp), E ≤ d → R a0 a1 a2 a3 h = some r → Rn d 233 0 [some (va_rf a0), some (.int a1), some (.int a2), some (.int a3), none] [] h (none, r)) (v0 : Option Nat) (v1 : Int32) (v2 : Int32) (v3 : Int32) (v4 : Int32)  (h : Hp) (r : Hp) (hb : b_233_146 R   h = some r) : Rn d 233 146 [some (va_rf v0), some (.int v1), some (.int v2), some (.int v3), some (.int v4)] [] h (none, r) := by
  unfold b_233_146 at hb
  obtain rfl := Option.some.inj hb
  exact rn_vret rfl rfl
def b_233_140 (R : Option Nat → Int32 → Int32 → Int32 → Hp → Option (Hp)) (k63 : Option Nat → Int32 → Int32 → Int32 → Int32 → Hp → Option (Hp)) (v0 : Option Nat) (v1 : Int32) (v2 : Int32) (v3 : Int32) (v4 : Int32)  (h : Hp) : Option (Hp) :=
  bnd (v4 + (nI 1)) fun x1 =>
  k63 v0 v1 v2 v3 x1 h
theorem u_233_140 (E : Nat) (hE : 1 ≤ E) (d : Nat) (hd : E + 1 ≤ d) (R : Option Nat → Int32 → Int32 → Int32 → Hp → Option (Hp)) (HR : ∀ (d : Nat) (a0 : Option Nat) (a1 : Int32) (a2 : Int32) (a3 : Int32) (h : Hp) (r : Hp), E ≤ d → R a0 a1 a2 a3 h = some r → Rn d 233 0 [some (va_rf a0), some (.int a1), some (.int a2), some (.int a3), none] [] h (none, r)) (k63 : Option Nat → Int32 → Int32 → Int32 → Int32 → Hp → Option (Hp)) (K63 : ∀ (v0 : Option Nat) (v1 : Int32) (v2 : Int32) (v3 : Int32) (v4 : Int32) (h : Hp) (r : Hp), k63 v0 v1 v2 v3 v4 h = some r → Rn d 233 63 [some (va_rf v0), some (.int v1), some (.int v2), some (.int v3), some (.int v4)] [] h (none, r)) (v0 : Option Nat) (v1 : Int32) (v2 : Int32) (v3 : Int32) (v4 : Int32)  (h : Hp) (r : Hp) (hb : b_233_140 R k63 v0 v1 v2 v3 v4  h = some r) : Rn d 233 140 [some (va_rf v0), some (.int v1), some (.int v2), some (.int v3), some (.int v4)] [] h (none, r) := by
  unfold b_233_140 at hb
  obtain ⟨x1, ex1, hb⟩ := bnd_spec hb
  refine rn_iinc (i := 4) (y := x1) (L1 := [some (va_rf v0), some (.int v1), some (.int v2), some (.int v3), some (.int x1)]) rfl rfl (Nat.le_of_ble_eq_true rfl) (Or.inr rfl) (by rw [ex1]; rfl) rfl ?_
  refine rn_goto rfl rfl ?_
  exact K63 v0 v1 v2 v3 x1 h _ hb
def b_233_135 (R : Option Nat → Int32 → Int32 → Int32 → Hp → Option (Hp)) (k63 : Option Nat → Int32 → Int32 → Int32 → Int32 → Hp → Option (Hp)) (v0 : Option Nat) (v1 : Int32) (v2 : Int32) (v3 : Int32) (v4 : Int32) (s0 : Option Nat) (s1 : Int32) (s2 : Int32) (s3 : Int32) (h : Hp) : Option (Hp) :=
  (grd (rC 11 s0 h)).bind fun _ =>
  (R s0 s1 (s2 + s3) v3 h).bind fun p1 =>
  b_233_140 R k63 v0 v1 v2 v3 v4  p1
theorem u_233_135 (E : Nat) (hE : 1 ≤ E) (d : Nat) (hd : E + 1 ≤ d) (R : Option Nat → Int32 → Int32 → Int32 → Hp → Option (Hp)) (HR : ∀ (d : Nat) (a0 : Option Nat) (a1 : Int32) (a2 : Int32) (a3 : Int32) (h : Hp) (r : Hp), E ≤ d → R a0 a1 a2 a3 h = some r → Rn d 233 0 [some (va_rf a0), some (.int a1), some (.int a2), some (.int a3), none] [] h (none, r)) (k63 : Option Nat → Int32 → Int32 → Int32 → Int32 → Hp → Option (Hp)) (K63 : ∀ (v0 : Option Nat) (v1 : Int32) (v2 : Int32) (v3 : Int32) (v4 : Int32) (h : Hp) (r : Hp), k63 v0 v1 v2 v3 v4 h = some r → Rn d 233 63 [some (va_rf v0), some (.int v1), some (.int v2), some (.int v3), some (.int v4)] [] h (none, r)) (v0 : Option Nat) (v1 : Int32) (v2 : Int32) (v3 : Int32) (v4 : Int32) (s0 : Option Nat) (s1 : Int32) (s2 : Int32) (s3 : Int32) (h : Hp) (r : Hp) (hb : b_233_135 R k63 v0 v1 v2 v3 v4 s0 s1 s2 s3 h = some r) : Rn d 233 135 [some (va_rf v0), some (.int v1), some (.int v2), some (.int v3), some (.int v4)] [.int s3, .int s2, .int s1, va_rf s0] h (none, r) := by
  unfold b_233_135 at hb
  obtain ⟨e, rfl⟩ : ∃ e, d = e + 1 := ⟨d - 1, by omega⟩
  refine rn_iadd rfl ?_
  refine rn_iload_n (i := 3) rfl rfl ?_
  obtain ⟨hrc, hb⟩ := grd_spec hb
  obtain ⟨p1, hc, hb⟩ := Option.bind_eq_some_iff.mp hb
  refine Rn.call0 (d := e) (As := [va_rf s0, .int s1, .int (s2 + s3), .int v3]) (rest := []) rfl rfl rfl (by decide) rfl rfl rfl (bd_rcV hrc rfl) (by decide) (bd_lenC (n := 5) rfl (bd_slR (bd_slI (bd_slI (bd_slI bd_slN)))) rfl) (bd_locC (n := 5) rfl (bd_slR (bd_slI (bd_slI (bd_slI bd_slN)))) rfl (HR e s0 s1 (s2 + s3) v3 h _ (by omega) hc)) ?_
  exact u_233_140 E hE (e + 1) hd R HR k63 K63 v0 v1 v2 v3 v4  p1 _ hb
def b_233_129 (R : Option Nat → Int32 → Int32 → Int32 → Hp → Option (Hp)) (k63 : Option Nat → Int32 → Int32 → Int32 → Int32 → Hp → Option (Hp)) (v0 : Option Nat) (v1 : Int32) (v2 : Int32) (v3 : Int32) (v4 : Int32) (s0 : Option Nat) (s1 : Int32) (s2 : Int32) (h : Hp) : Option (Hp) :=
  (grd (rC 11 v0 h)).bind fun _ =>
  (f_231 v0 v1 v3 h).bind fun p1 =>
  b_233_135 R k63 v0 v1 v2 v3 v4 s0 s1 s2 p1.1 p1.2
theorem u_233_129 (E : Nat) (hE : 1 ≤ E) (d : Nat) (hd : E + 1 ≤ d) (R : Option Nat → Int32 → Int32 → Int32 → Hp → Option (Hp)) (HR : ∀ (d : Nat) (a0 : Option Nat) (a1 : Int32) (a2 : Int32) (a3 : Int32) (h : Hp) (r : Hp), E ≤ d → R a0 a1 a2 a3 h = some r → Rn d 233 0 [some (va_rf a0), some (.int a1), some (.int a2), some (.int a3), none] [] h (none, r)) (k63 : Option Nat → Int32 → Int32 → Int32 → Int32 → Hp → Option (Hp)) (K63 : ∀ (v0 : Option Nat) (v1 : Int32) (v2 : Int32) (v3 : Int32) (v4 : Int32) (h : Hp) (r : Hp), k63 v0 v1 v2 v3 v4 h = some r → Rn d 233 63 [some (va_rf v0), some (.int v1), some (.int v2), some (.int v3), some (.int v4)] [] h (none, r)) (v0 : Option Nat) (v1 : Int32) (v2 : Int32) (v3 : Int32) (v4 : Int32) (s0 : Option Nat) (s1 : Int32) (s2 : Int32) (h : Hp) (r : Hp) (hb : b_233_129 R k63 v0 v1 v2 v3 v4 s0 s1 s2 h = some r) : Rn d 233 129 [some (va_rf v0), some (.int v1), some (.int v2), some (.int v3), some (.int v4)] [.int s2, .int s1, va_rf s0] h (none, r) := by
  unfold b_233_129 at hb
  obtain ⟨e, rfl⟩ : ∃ e, d = e + 1 := ⟨d - 1, by omega⟩
  refine rn_aload_n (i := 0) rfl rfl ?_
  refine rn_iload_n (i := 1) rfl rfl ?_
  refine rn_iload_n (i := 3) rfl rfl ?_
  obtain ⟨hrc, hb⟩ := grd_spec hb
  obtain ⟨p1, hc, hb⟩ := Option.bind_eq_some_iff.mp hb
  refine Rn.call1 (d := e) (As := [va_rf v0, .int v1, .int v3]) (rest := [.int s2, .int s1, va_rf s0]) rfl rfl rfl (by decide) rfl rfl rfl (bd_rcV hrc rfl) (by rw [bd_cI (bd_cI (bd_cR (bd_cN)))]; decide) (bd_lenC (n := 3) rfl (bd_slR (bd_slI (bd_slI bd_slN))) rfl) (bd_locC (n := 3) rfl (bd_slR (bd_slI (bd_slI bd_slN))) rfl (t_231 e (by omega) v0 v1 v3 h _ hc)) ?_
  exact u_233_135 E hE (e + 1) hd R HR k63 K63 v0 v1 v2 v3 v4 s0 s1 s2 p1.1 p1.2 _ hb
def b_233_125 (R : Option Nat → Int32 → Int32 → Int32 → Hp → Option (Hp)) (k63 : Option Nat → Int32 → Int32 → Int32 → Int32 → Hp → Option (Hp)) (v0 : Option Nat) (v1 : Int32) (v2 : Int32) (v3 : Int32) (v4 : Int32) (s0 : Option Nat) (s1 : Int32) (s2 : Int32) (h : Hp) : Option (Hp) :=
  b_233_135 R k63 v0 v1 v2 v3 v4 s0 s1 s2 (nI 0) h
theorem u_233_125 (E : Nat) (hE : 1 ≤ E) (d : Nat) (hd : E + 1 ≤ d) (R : Option Nat → Int32 → Int32 → Int32 → Hp → Option (Hp)) (HR : ∀ (d : Nat) (a0 : Option Nat) (a1 : Int32) (a2 : Int32) (a3 : Int32) (h : Hp) (r : Hp), E ≤ d → R a0 a1 a2 a3 h = some r → Rn d 233 0 [some (va_rf a0), some (.int a1), some (.int a2), some (.int a3), none] [] h (none, r)) (k63 : Option Nat → Int32 → Int32 → Int32 → Int32 → Hp → Option (Hp)) (K63 : ∀ (v0 : Option Nat) (v1 : Int32) (v2 : Int32) (v3 : Int32) (v4 : Int32) (h : Hp) (r : Hp), k63 v0 v1 v2 v3 v4 h = some r → Rn d 233 63 [some (va_rf v0), some (.int v1), some (.int v2), some (.int v3), some (.int v4)] [] h (none, r)) (v0 : Option Nat) (v1 : Int32) (v2 : Int32) (v3 : Int32) (v4 : Int32) (s0 : Option Nat) (s1 : Int32) (s2 : Int32) (h : Hp) (r : Hp) (hb : b_233_125 R k63 v0 v1 v2 v3 v4 s0 s1 s2 h = some r) : Rn d 233 125 [some (va_rf v0), some (.int v1), some (.int v2), some (.int v3), some (.int v4)] [.int s2, .int s1, va_rf s0] h (none, r) := by
  unfold b_233_125 at hb
  refine rn_iconst (x := (nI 0)) rfl (by decide) ?_
  refine rn_goto rfl rfl ?_
  exact u_233_135 E hE d hd R HR k63 K63 v0 v1 v2 v3 v4 s0 s1 s2 (nI 0) h _ hb
def b_233_101 (R : Option Nat → Int32 → Int32 → Int32 → Hp → Option (Hp)) (k63 : Option Nat → Int32 → Int32 → Int32 → Int32 → Hp → Option (Hp)) (v0 : Option Nat) (v1 : Int32) (v2 : Int32) (v3 : Int32) (v4 : Int32)  (h : Hp) : Option (Hp) :=
  (gQ 11 30 v0 h).bind fun x1 =>
  (wI x1 v1 v4 h).bind fun h2 =>
  (grd (rC 11 v0 h2)).bind fun _ =>
  (f_205 v0 v1 (nI 4) h2).bind fun p3 =>
  if ¬ v4 = p3.1 then b_233_129 R k63 v0 v1 v2 v3 v4 v0 (v1 + (nI 1)) v2 p3.2 else b_233_125 R k63 v0 v1 v2 v3 v4 v0 (v1 + (nI 1)) v2 p3.2
theorem u_233_101 (E : Nat) (hE : 1 ≤ E) (d : Nat) (hd : E + 1 ≤ d) (R : Option Nat → Int32 → Int32 → Int32 → Hp → Option (Hp)) (HR : ∀ (d : Nat) (a0 : Option Nat) (a1 : Int32) (a2 : Int32) (a3 : Int32) (h : Hp) (r : Hp), E ≤ d → R a0 a1 a2 a3 h = some r → Rn d 233 0 [some (va_rf a0), some (.int a1), some (.int a2), some (.int a3), none] [] h (none, r)) (k63 : Option Nat → Int32 → Int32 → Int32 → Int32 → Hp → Option (Hp)) (K63 : ∀ (v0 : Option Nat) (v1 : Int32) (v2 : Int32) (v3 : Int32) (v4 : Int32) (h : Hp) (r : Hp), k63 v0 v1 v2 v3 v4 h = some r → Rn d 233 63 [some (va_rf v0), some (.int v1), some (.int v2), some (.int v3), some (.int v4)] [] h (none, r)) (v0 : Option Nat) (v1 : Int32) (v2 : Int32) (v3 : Int32) (v4 : Int32)  (h : Hp) (r : Hp) (hb : b_233_101 R k63 v0 v1 v2 v3 v4  h = some r) : Rn d 233 101 [some (va_rf v0), some (.int v1), some (.int v2), some (.int v3), some (.int v4)] [] h (none, r) := by
  unfold b_233_101 at hb
  obtain ⟨e, rfl⟩ : ∃ e, d = e + 1 := ⟨d - 1, by omega⟩
  refine rn_aload_n (i := 0) rfl rfl ?_
  refine rn_gQ (c := 11) (k := 30) rfl (by decide) hb (fun x1 hb => ?_)
  refine rn_iload_n (i := 1) rfl rfl ?_
  refine rn_iload (i := 4) rfl rfl ?_
  refine rn_wI rfl hb (fun h2 hb => ?_)
  refine rn_aload_n (i := 0) rfl rfl ?_
  refine rn_iload_n (i := 1) rfl rfl ?_
  refine rn_iconst (x := (nI 1)) rfl (by decide) ?_
  refine rn_iadd rfl ?_
  refine rn_iload_n (i := 2) rfl rfl ?_
  refine rn_iload (i := 4) rfl rfl ?_
  refine rn_aload_n (i := 0) rfl rfl ?_
  refine rn_iload_n (i := 1) rfl rfl ?_
  refine rn_iconst (x := (nI 4)) rfl (by decide) ?_
  obtain ⟨hrc, hb⟩ := grd_spec hb
  obtain ⟨p3, hc, hb⟩ := Option.bind_eq_some_iff.mp hb
  refine Rn.call1 (d := e) (As := [va_rf v0, .int v1, .int (nI 4)]) (rest := [.int v4, .int v2, .int (v1 + (nI 1)), va_rf v0]) rfl rfl rfl (by decide) rfl rfl rfl (bd_rcV hrc rfl) (by rw [bd_cI (bd_cI (bd_cI (bd_cR (bd_cN))))]; decide) (bd_lenC (n := 3) rfl (bd_slR (bd_slI (bd_slI bd_slN))) rfl) (bd_locC (n := 3) rfl (bd_slR (bd_slI (bd_slI bd_slN))) rfl (t_205 e (by omega) v0 v1 (nI 4) h2 _ hc)) ?_
  refine rn_icmp_ne rfl rfl (fun hc => ?_) (fun hc => ?_)
  · exact u_233_129 E hE (e + 1) hd R HR k63 K63 v0 v1 v2 v3 v4 v0 (v1 + (nI 1)) v2 p3.2 _ (if_t hb hc)
  · exact u_233_125 E hE (e + 1) hd R HR k63 K63 v0 v1 v2 v3 v4 v0 (v1 + (nI 1)) v2 p3.2 _ (if_f hb hc)
def b_233_98 (R : Option Nat → Int32 → Int32 → Int32 → Hp → Option (Hp)) (k63 : Option Nat → Int32 → Int32 → Int32 → Int32 → Hp → Option (Hp)) (v0 : Option Nat) (v1 : Int32) (v2 : Int32) (v3 : Int32) (v4 : Int32)  (h : Hp) : Option (Hp) :=
  b_233_140 R k63 v0 v1 v2 v3 v4  h
theorem u_233_98 (E : Nat) (hE : 1 ≤ E) (d : Nat) (hd : E + 1 ≤ d) (R : Option Nat → Int32 → Int32 → Int32 → Hp → Option (Hp)) (HR : ∀ (d : Nat) (a0 : Option Nat) (a1 : Int32) (a2 : Int32) (a3 : Int32) (h : Hp) (r : Hp), E ≤ d → R a0 a1 a2 a3 h = some r → Rn d 233 0 [some (va_rf a0), some (.int a1), some (.int a2), some (.int a3), none] [] h (none, r)) (k63 : Option Nat → Int32 → Int32 → Int32 → Int32 → Hp → Option (Hp)) (K63 : ∀ (v0 : Option Nat) (v1 : Int32) (v2 : Int32) (v3 : Int32) (v4 : Int32) (h : Hp) (r : Hp), k63 v0 v1 v2 v3 v4 h = some r → Rn d 233 63 [some (va_rf v0), some (.int v1), some (.int v2), some (.int v3), some (.int v4)] [] h (none, r)) (v0 : Option Nat) (v1 : Int32) (v2 : Int32) (v3 : Int32) (v4 : Int32)  (h : Hp) (r : Hp) (hb : b_233_98 R k63 v0 v1 v2 v3 v4  h = some r) : Rn d 233 98 [some (va_rf v0), some (.int v1), some (.int v2), some (.int v3), some (.int v4)] [] h (none, r) := by
  unfold b_233_98 at hb
  refine rn_goto rfl rfl ?_
  exact u_233_140 E hE d hd R HR k63 K63 v0 v1 v2 v3 v4  h _ hb
def b_233_83 (R : Option Nat → Int32 → Int32 → Int32 → Hp → Option (Hp)) (k63 : Option Nat → Int32 → Int32 → Int32 → Int32 → Hp → Option (Hp)) (v0 : Option Nat) (v1 : Int32) (v2 : Int32) (v3 : Int32) (v4 : Int32)  (h : Hp) : Option (Hp) :=
  (grd (rC 11 v0 h)).bind fun _ =>
  (f_232 v0 v1 v4 (((nI 1) <<< (v1 &&& 31)) - (nI 1)) h).bind fun p1 =>
  if ¬ p1.1 = 0 then b_233_101 R k63 v0 v1 v2 v3 v4  p1.2 else b_233_98 R k63 v0 v1 v2 v3 v4  p1.2
theorem u_233_83 (E : Nat) (hE : 1 ≤ E) (d : Nat) (hd : E + 1 ≤ d) (R : Option Nat → Int32 → Int32 → Int32 → Hp → Option (Hp)) (HR : ∀ (d : Nat) (a0 : Option Nat) (a1 : Int32) (a2 : Int32) (a3 : Int32) (h : Hp) (r : Hp), E ≤ d → R a0 a1 a2 a3 h = some r → Rn d 233 0 [some (va_rf a0), some (.int a1), some (.int a2), some (.int a3), none] [] h (none, r)) (k63 : Option Nat → Int32 → Int32 → Int32 → Int32 → Hp → Option (Hp)) (K63 : ∀ (v0 : Option Nat) (v1 : Int32) (v2 : Int32) (v3 : Int32) (v4 : Int32) (h : Hp) (r : Hp), k63 v0 v1 v2 v3 v4 h = some r → Rn d 233 63 [some (va_rf v0), some (.int v1), some (.int v2), some (.int v3), some (.int v4)] [] h (none, r)) (v0 : Option Nat) (v1 : Int32) (v2 : Int32) (v3 : Int32) (v4 : Int32)  (h : Hp) (r : Hp) (hb : b_233_83 R k63 v0 v1 v2 v3 v4  h = some r) : Rn d 233 83 [some (va_rf v0), some (.int v1), some (.int v2), some (.int v3), some (.int v4)] [] h (none, r) := by
  unfold b_233_83 at hb
  obtain ⟨e, rfl⟩ : ∃ e, d = e + 1 := ⟨d - 1, by omega⟩
  refine rn_aload_n (i := 0) rfl rfl ?_
  refine rn_iload_n (i := 1) rfl rfl ?_
  refine rn_iload (i := 4) rfl rfl ?_
  refine rn_iconst (x := (nI 1)) rfl (by decide) ?_
  refine rn_iload_n (i := 1) rfl rfl ?_
  refine rn_ishl rfl ?_
  refine rn_iconst (x := (nI 1)) rfl (by decide) ?_
  refine rn_isub rfl ?_
  obtain ⟨hrc, hb⟩ := grd_spec hb
  obtain ⟨p1, hc, hb⟩ := Option.bind_eq_some_iff.mp hb
  refine Rn.call1 (d := e) (As := [va_rf v0, .int v1, .int v4, .int (((nI 1) <<< (v1 &&& 31)) - (nI 1))]) (rest := []) rfl rfl rfl (by decide) rfl rfl rfl (bd_rcV hrc rfl) (by decide) (bd_lenC (n := 5) rfl (bd_slR (bd_slI (bd_slI (bd_slI bd_slN)))) rfl) (bd_locC (n := 5) rfl (bd_slR (bd_slI (bd_slI (bd_slI bd_slN)))) rfl (t_232 e (by omega) v0 v1 v4 (((nI 1) <<< (v1 &&& 31)) - (nI 1)) h _ hc)) ?_
  refine rn_if_ne rfl rfl (fun hc => ?_) (fun hc => ?_)
  · exact u_233_101 E hE (e + 1) hd R HR k63 K63 v0 v1 v2 v3 v4  p1.2 _ (if_t hb hc)
  · exact u_233_98 E hE (e + 1) hd R HR k63 K63 v0 v1 v2 v3 v4  p1.2 _ (if_f hb hc)
def b_233_69 (R : Option Nat → Int32 → Int32 → Int32 → Hp → Option (Hp)) (k63 : Option Nat → Int32 → Int32 → Int32 → Int32 → Hp → Option (Hp)) (v0 : Option Nat) (v1 : Int32) (v2 : Int32) (v3 : Int32) (v4 : Int32)  (h : Hp) : Option (Hp) :=
  (gQ 11 29 v0 h).bind fun x1 =>
  (aI 12 x1 v1 h).bind fun x2 =>
  (f_183 x2 v4 h).bind fun p3 =>
  if p3.1 = 0 then b_233_140 R k63 v0 v1 v2 v3 v4  p3.2 else b_233_83 R k63 v0 v1 v2 v3 v4  p3.2
theorem u_233_69 (E : Nat) (hE : 1 ≤ E) (d : Nat) (hd : E + 1 ≤ d) (R : Option Nat → Int32 → Int32 → Int32 → Hp → Option (Hp)) (HR : ∀ (d : Nat) (a0 : Option Nat) (a1 : Int32) (a2 : Int32) (a3 : Int32) (h : Hp) (r : Hp), E ≤ d → R a0 a1 a2 a3 h = some r → Rn d 233 0 [some (va_rf a0), some (.int a1), some (.int a2), some (.int a3), none] [] h (none, r)) (k63 : Option Nat → Int32 → Int32 → Int32 → Int32 → Hp → Option (Hp)) (K63 : ∀ (v0 : Option Nat) (v1 : Int32) (v2 : Int32) (v3 : Int32) (v4 : Int32) (h : Hp) (r : Hp), k63 v0 v1 v2 v3 v4 h = some r → Rn d 233 63 [some (va_rf v0), some (.int v1), some (.int v2), some (.int v3), some (.int v4)] [] h (none, r)) (v0 : Option Nat) (v1 : Int32) (v2 : Int32) (v3 : Int32) (v4 : Int32)  (h : Hp) (r : Hp) (hb : b_233_69 R k63 v0 v1 v2 v3 v4  h = some r) : Rn d 233 69 [some (va_rf v0), some (.int v1), some (.int v2), some (.int v3), some (.int v4)] [] h (none, r) := by
  unfold b_233_69 at hb
  obtain ⟨e, rfl⟩ : ∃ e, d = e + 1 := ⟨d - 1, by omega⟩
  refine rn_aload_n (i := 0) rfl rfl ?_
  refine rn_gQ (c := 11) (k := 29) rfl (by decide) hb (fun x1 hb => ?_)
  refine rn_iload_n (i := 1) rfl rfl ?_
  refine rn_aI rfl hb (fun x2 hb => ?_)
  refine rn_iload (i := 4) rfl rfl ?_
  obtain ⟨p3, hc, hb⟩ := Option.bind_eq_some_iff.mp hb
  refine Rn.call1 (d := e) (As := [.int x2, .int v4]) (rest := []) rfl rfl rfl (by decide) rfl rfl rfl rfl (by decide) (bd_lenC (n := 2) rfl (bd_slI (bd_slI bd_slN)) rfl) (bd_locC (n := 2) rfl (bd_slI (bd_slI bd_slN)) rfl (t_183 e (by omega) x2 v4 h _ hc)) ?_
  refine rn_if_eq rfl rfl (fun hc => ?_) (fun hc => ?_)
  · exact u_233_140 E hE (e + 1) hd R HR k63 K63 v0 v1 v2 v3 v4  p3.2 _ (if_t hb hc)
  · exact u_233_83 E hE (e + 1) hd R HR k63 K63 v0 v1 v2 v3 v4  p3.2 _ (if_f hb hc)
def b_233_63 (R : Option Nat → Int32 → Int32 → Int32 → Hp → Option (Hp)) (k63 : Option Nat → Int32 → Int32 → Int32 → Int32 → Hp → Option (Hp)) (v0 : Option Nat) (v1 : Int32) (v2 : Int32) (v3 : Int32) (v4 : Int32)  (h : Hp) : Option (Hp) :=
  if (nI 4) ≤ v4 then b_233_146 R   h else b_233_69 R k63 v0 v1 v2 v3 v4  h
theorem u_233_63 (E : Nat) (hE : 1 ≤ E) (d : Nat) (hd : E + 1 ≤ d) (R : Option Nat → Int32 → Int32 → Int32 → Hp → Option (Hp)) (HR : ∀ (d : Nat) (a0 : Option Nat) (a1 : Int32) (a2 : Int32) (a3 : Int32) (h : Hp) (r : Hp), E ≤ d → R a0 a1 a2 a3 h = some r → Rn d 233 0 [some (va_rf a0), some (.int a1), some (.int a2), some (.int a3), none] [] h (none, r)) (k63 : Option Nat → Int32 → Int32 → Int32 → Int32 → Hp → Option (Hp)) (K63 : ∀ (v0 : Option Nat) (v1 : Int32) (v2 : Int32) (v3 : Int32) (v4 : Int32) (h : Hp) (r : Hp), k63 v0 v1 v2 v3 v4 h = some r → Rn d 233 63 [some (va_rf v0), some (.int v1), some (.int v2), some (.int v3), some (.int v4)] [] h (none, r)) (v0 : Option Nat) (v1 : Int32) (v2 : Int32) (v3 : Int32) (v4 : Int32)  (h : Hp) (r : Hp) (hb : b_233_63 R k63 v0 v1 v2 v3 v4  h = some r) : Rn d 233 63 [some (va_rf v0), some (.int v1), some (.int v2), some (.int v3), some (.int v4)] [] h (none, r) := by
  unfold b_233_63 at hb
  refine rn_iload (i := 4) rfl rfl ?_
  refine rn_iconst (x := (nI 4)) rfl (by decide) ?_
  refine rn_icmp_ge rfl rfl (fun hc => ?_) (fun hc => ?_)
  · exact u_233_146 E hE d hd R HR v0 v1 v2 v3 v4  h _ (if_t hb hc)
  · exact u_233_69 E hE d hd R HR k63 K63 v0 v1 v2 v3 v4  h _ (if_f hb hc)
def l_233_63 (R : Option Nat → Int32 → Int32 → Int32 → Hp → Option (Hp)) : Nat → Option Nat → Int32 → Int32 → Int32 → Int32 → Hp → Option (Hp)
  | 0, _, _, _, _, _, _ => none
  | n + 1, v0, v1, v2, v3, v4, h => b_233_63 R (l_233_63 R n) v0 v1 v2 v3 v4 h
theorem w_233_63 (E : Nat) (hE : 1 ≤ E) (d : Nat) (hd : E + 1 ≤ d) (R : Option Nat → Int32 → Int32 → Int32 → Hp → Option (Hp)) (HR : ∀ (d : Nat) (a0 : Option Nat) (a1 : Int32) (a2 : Int32) (a3 : Int32) (h : Hp) (r : Hp), E ≤ d → R a0 a1 a2 a3 h = some r → Rn d 233 0 [some (va_rf a0), some (.int a1), some (.int a2), some (.int a3), none] [] h (none, r)) : ∀ (n : Nat) (v0 : Option Nat) (v1 : Int32) (v2 : Int32) (v3 : Int32) (v4 : Int32) (h : Hp) (r : Hp), l_233_63 R n v0 v1 v2 v3 v4 h = some r → Rn d 233 63 [some (va_rf v0), some (.int v1), some (.int v2), some (.int v3), some (.int v4)] [] h (none, r) := by
  intro n
  induction n with
  | zero => intro v0 v1 v2 v3 v4 h r hb; cases hb
  | succ n ih => intro v0 v1 v2 v3 v4 h r hb; exact u_233_63 E hE d hd R HR (l_233_63 R n) ih v0 v1 v2 v3 v4 h r hb
def b_233_60 (R : Option Nat → Int32 → Int32 → Int32 → Hp → Option (Hp)) (v0 : Option Nat) (v1 : Int32) (v2 : Int32) (v3 : Int32)  (h : Hp) : Option (Hp) :=
  bnd ((nI 0)) fun x1 =>
  l_233_63 R FU v0 v1 v2 v3 x1 h
theorem u_233_60 (E : Nat) (hE : 1 ≤ E) (d : Nat) (hd : E + 1 ≤ d) (R : Option Nat → Int32 → Int32 → Int32 → Hp → Option (Hp)) (HR : ∀ (d : Nat) (a0 : Option Nat) (a1 : Int32) (a2 : Int32) (a3 : Int32) (h : Hp) (r : Hp), E ≤ d → R a0 a1 a2 a3 h = some r → Rn d 233 0 [some (va_rf a0), some (.int a1), some (.int a2), some (.int a3), none] [] h (none, r)) (v0 : Option Nat) (v1 : Int32) (v2 : Int32) (v3 : Int32)  (h : Hp) (r : Hp) (hb : b_233_60 R v0 v1 v2 v3  h = some r) : Rn d 233 60 [some (va_rf v0), some (.int v1), some (.int v2), some (.int v3), none] [] h (none, r) := by
  unfold b_233_60 at hb
  refine rn_iconst (x := (nI 0)) rfl (by decide) ?_
  obtain ⟨x1, ex1, hb⟩ := bnd_spec hb
  refine rn_istore (i := 4) (L1 := [some (va_rf v0), some (.int v1), some (.int v2), some (.int v3), some (.int x1)]) rfl (Nat.le_of_ble_eq_true rfl) (Or.inr rfl) (by rw [ex1]; rfl) ?_
  exact w_233_63 E hE d hd R HR FU v0 v1 v2 v3 x1 h _ hb
def b_233_59 (R : Option Nat → Int32 → Int32 → Int32 → Hp → Option (Hp))   (h : Hp) : Option (Hp) :=
  some h
theorem u_233_59 (E : Nat) (hE : 1 ≤ E) (d : Nat) (hd : E + 1 ≤ d) (R : Option Nat → Int32 → Int32 → Int32 → Hp → Option (Hp)) (HR : ∀ (d : Nat) (a0 : Option Nat) (a1 : Int32) (a2 : Int32) (a3 : Int32) (h : Hp) (r : Hp), E ≤ d → R a0 a1 a2 a3 h = some r → Rn d 233 0 [some (va_rf a0), some (.int a1), some (.int a2), some (.int a3), none] [] h (none, r)) (v0 : Option Nat) (v1 : Int32) (v2 : Int32) (v3 : Int32) (v4 : Int32)  (h : Hp) (r : Hp) (hb : b_233_59 R   h = some r) : Rn d 233 59 [some (va_rf v0), some (.int v1), some (.int v2), some (.int v3), some (.int v4)] [] h (none, r) := by
  unfold b_233_59 at hb
  obtain rfl := Option.some.inj hb
  exact rn_vret rfl rfl
def b_233_39 (R : Option Nat → Int32 → Int32 → Int32 → Hp → Option (Hp)) (k33 : Option Nat → Int32 → Int32 → Hp → Option (Hp)) (v0 : Option Nat) (v1 : Int32) (v4 : Int32)  (h : Hp) : Option (Hp) :=
  (gQ 11 31 v0 h).bind fun x1 =>
  (gQ 11 30 v0 h).bind fun x2 =>
  (aI 12 x2 v4 h).bind fun x3 =>
  (wI x1 v4 x3 h).bind fun h4 =>
  bnd (v4 + (nI 1)) fun x5 =>
  k33 v0 v1 x5 h4
theorem u_233_39 (E : Nat) (hE : 1 ≤ E) (d : Nat) (hd : E + 1 ≤ d) (R : Option Nat → Int32 → Int32 → Int32 → Hp → Option (Hp)) (HR : ∀ (d : Nat) (a0 : Option Nat) (a1 : Int32) (a2 : Int32) (a3 : Int32) (h : Hp) (r : Hp), E ≤ d → R a0 a1 a2 a3 h = some r → Rn d 233 0 [some (va_rf a0), some (.int a1), some (.int a2), some (.int a3), none] [] h (none, r)) (k33 : Option Nat → Int32 → Int32 → Hp → Option (Hp)) (K33 : ∀ (v0 : Option Nat) (v1 : Int32) (v2 : Int32) (v3 : Int32) (v4 : Int32) (h : Hp) (r : Hp), k33 v0 v1 v4 h = some r → Rn d 233 33 [some (va_rf v0), some (.int v1), some (.int v2), some (.int v3), some (.int v4)] [] h (none, r)) (v0 : Option Nat) (v1 : Int32) (v2 : Int32) (v3 : Int32) (v4 : Int32)  (h : Hp) (r : Hp) (hb : b_233_39 R k33 v0 v1 v4  h = some r) : Rn d 233 39 [some (va_rf v0), some (.int v1), some (.int v2), some (.int v3), some (.int v4)] [] h (none, r) := by
  unfold b_233_39 at hb
  refine rn_aload_n (i := 0) rfl rfl ?_
  refine rn_gQ (c := 11) (k := 31) rfl (by decide) hb (fun x1 hb => ?_)
  refine rn_iload (i := 4) rfl rfl ?_
  refine rn_aload_n (i := 0) rfl rfl ?_
  refine rn_gQ (c := 11) (k := 30) rfl (by decide) hb (fun x2 hb => ?_)
  refine rn_iload (i := 4) rfl rfl ?_
  refine rn_aI rfl hb (fun x3 hb => ?_)
  refine rn_wI rfl hb (fun h4 hb => ?_)
  obtain ⟨x5, ex5, hb⟩ := bnd_spec hb
  refine rn_iinc (i := 4) (y := x5) (L1 := [some (va_rf v0), some (.int v1), some (.int v2), some (.int v3), some (.int x5)]) rfl rfl (Nat.le_of_ble_eq_true rfl) (Or.inr rfl) (by rw [ex5]; rfl) rfl ?_
  refine rn_goto rfl rfl ?_
  exact K33 v0 v1 v2 v3 x5 h4 _ hb
def b_233_33 (R : Option Nat → Int32 → Int32 → Int32 → Hp → Option (Hp)) (k33 : Option Nat → Int32 → Int32 → Hp → Option (Hp)) (v0 : Option Nat) (v1 : Int32) (v4 : Int32)  (h : Hp) : Option (Hp) :=
  if v1 ≤ v4 then b_233_59 R   h else b_233_39 R k33 v0 v1 v4  h
theorem u_233_33 (E : Nat) (hE : 1 ≤ E) (d : Nat) (hd : E + 1 ≤ d) (R : Option Nat → Int32 → Int32 → Int32 → Hp → Option (Hp)) (HR : ∀ (d : Nat) (a0 : Option Nat) (a1 : Int32) (a2 : Int32) (a3 : Int32) (h : Hp) (r : Hp), E ≤ d → R a0 a1 a2 a3 h = some r → Rn d 233 0 [some (va_rf a0), some (.int a1), some (.int a2), some (.int a3), none] [] h (none, r)) (k33 : Option Nat → Int32 → Int32 → Hp → Option (Hp)) (K33 : ∀ (v0 : Option Nat) (v1 : Int32) (v2 : Int32) (v3 : Int32) (v4 : Int32) (h : Hp) (r : Hp), k33 v0 v1 v4 h = some r → Rn d 233 33 [some (va_rf v0), some (.int v1), some (.int v2), some (.int v3), some (.int v4)] [] h (none, r)) (v0 : Option Nat) (v1 : Int32) (v2 : Int32) (v3 : Int32) (v4 : Int32)  (h : Hp) (r : Hp) (hb : b_233_33 R k33 v0 v1 v4  h = some r) : Rn d 233 33 [some (va_rf v0), some (.int v1), some (.int v2), some (.int v3), some (.int v4)] [] h (none, r) := by
  unfold b_233_33 at hb
  refine rn_iload (i := 4) rfl rfl ?_
  refine rn_iload_n (i := 1) rfl rfl ?_
  refine rn_icmp_ge rfl rfl (fun hc => ?_) (fun hc => ?_)
  · exact u_233_59 E hE d hd R HR v0 v1 v2 v3 v4  h _ (if_t hb hc)
  · exact u_233_39 E hE d hd R HR k33 K33 v0 v1 v2 v3 v4  h _ (if_f hb hc)
def l_233_33 (R : Option Nat → Int32 → Int32 → Int32 → Hp → Option (Hp)) : Nat → Option Nat → Int32 → Int32 → Hp → Option (Hp)
  | 0, _, _, _, _ => none
  | n + 1, v0, v1, v4, h => b_233_33 R (l_233_33 R n) v0 v1 v4 h
theorem w_233_33 (E : Nat) (hE : 1 ≤ E) (d : Nat) (hd : E + 1 ≤ d) (R : Option Nat → Int32 → Int32 → Int32 → Hp → Option (Hp)) (HR : ∀ (d : Nat) (a0 : Option Nat) (a1 : Int32) (a2 : Int32) (a3 : Int32) (h : Hp) (r : Hp), E ≤ d → R a0 a1 a2 a3 h = some r → Rn d 233 0 [some (va_rf a0), some (.int a1), some (.int a2), some (.int a3), none] [] h (none, r)) : ∀ (n : Nat) (v0 : Option Nat) (v1 : Int32) (v2 : Int32) (v3 : Int32) (v4 : Int32) (h : Hp) (r : Hp), l_233_33 R n v0 v1 v4 h = some r → Rn d 233 33 [some (va_rf v0), some (.int v1), some (.int v2), some (.int v3), some (.int v4)] [] h (none, r) := by
  intro n
  induction n with
  | zero => intro v0 v1 v2 v3 v4 h r hb; cases hb
  | succ n ih => intro v0 v1 v2 v3 v4 h r hb; exact u_233_33 E hE d hd R HR (l_233_33 R n) ih v0 v1 v2 v3 v4 h r hb
def b_233_25 (R : Option Nat → Int32 → Int32 → Int32 → Hp → Option (Hp)) (v0 : Option Nat) (v1 : Int32) (v2 : Int32)  (h : Hp) : Option (Hp) :=
  (pI 11 32 v0 v2 h).bind fun h1 =>
  bnd ((nI 0)) fun x2 =>
  l_233_33 R FU v0 v1 x2 h1
theorem u_233_25 (E : Nat) (hE : 1 ≤ E) (d : Nat) (hd : E + 1 ≤ d) (R : Option Nat → Int32 → Int32 → Int32 → Hp → Option (Hp)) (HR : ∀ (d : Nat) (a0 : Option Nat) (a1 : Int32) (a2 : Int32) (a3 : Int32) (h : Hp) (r : Hp), E ≤ d → R a0 a1 a2 a3 h = some r → Rn d 233 0 [some (va_rf a0), some (.int a1), some (.int a2), some (.int a3), none] [] h (none, r)) (v0 : Option Nat) (v1 : Int32) (v2 : Int32) (v3 : Int32)  (h : Hp) (r : Hp) (hb : b_233_25 R v0 v1 v2  h = some r) : Rn d 233 25 [some (va_rf v0), some (.int v1), some (.int v2), some (.int v3), none] [] h (none, r) := by
  unfold b_233_25 at hb
  refine rn_aload_n (i := 0) rfl rfl ?_
  refine rn_iload_n (i := 2) rfl rfl ?_
  refine rn_pI (c := 11) (k := 32) rfl (by decide) hb (fun h1 hb => ?_)
  refine rn_iconst (x := (nI 0)) rfl (by decide) ?_
  obtain ⟨x2, ex2, hb⟩ := bnd_spec hb
  refine rn_istore (i := 4) (L1 := [some (va_rf v0), some (.int v1), some (.int v2), some (.int v3), some (.int x2)]) rfl (Nat.le_of_ble_eq_true rfl) (Or.inr rfl) (by rw [ex2]; rfl) ?_
  exact w_233_33 E hE d hd R HR FU v0 v1 v2 v3 x2 h1 _ hb
def b_233_17 (R : Option Nat → Int32 → Int32 → Int32 → Hp → Option (Hp)) (v0 : Option Nat) (v1 : Int32) (v2 : Int32) (v3 : Int32)  (h : Hp) : Option (Hp) :=
  (grd (rC 11 v0 h)).bind fun _ =>
  (f_203 v0 h).bind fun p1 =>
  if ¬ v1 = p1.1 then b_233_60 R v0 v1 v2 v3  p1.2 else b_233_25 R v0 v1 v2  p1.2
theorem u_233_17 (E : Nat) (hE : 1 ≤ E) (d : Nat) (hd : E + 1 ≤ d) (R : Option Nat → Int32 → Int32 → Int32 → Hp → Option (Hp)) (HR : ∀ (d : Nat) (a0 : Option Nat) (a1 : Int32) (a2 : Int32) (a3 : Int32) (h : Hp) (r : Hp), E ≤ d → R a0 a1 a2 a3 h = some r → Rn d 233 0 [some (va_rf a0), some (.int a1), some (.int a2), some (.int a3), none] [] h (none, r)) (v0 : Option Nat) (v1 : Int32) (v2 : Int32) (v3 : Int32)  (h : Hp) (r : Hp) (hb : b_233_17 R v0 v1 v2 v3  h = some r) : Rn d 233 17 [some (va_rf v0), some (.int v1), some (.int v2), some (.int v3), none] [] h (none, r) := by
  unfold b_233_17 at hb
  obtain ⟨e, rfl⟩ : ∃ e, d = e + 1 := ⟨d - 1, by omega⟩
  refine rn_iload_n (i := 1) rfl rfl ?_
  refine rn_aload_n (i := 0) rfl rfl ?_
  obtain ⟨hrc, hb⟩ := grd_spec hb
  obtain ⟨p1, hc, hb⟩ := Option.bind_eq_some_iff.mp hb
  refine Rn.call1 (d := e) (As := [va_rf v0]) (rest := [.int v1]) rfl rfl rfl (by decide) rfl rfl rfl (bd_rcV hrc rfl) (by rw [bd_cI (bd_cN)]; decide) (bd_lenC (n := 1) rfl (bd_slR bd_slN) rfl) (bd_locC (n := 1) rfl (bd_slR bd_slN) rfl (t_203 e (by omega) v0 h _ hc)) ?_
  refine rn_icmp_ne rfl rfl (fun hc => ?_) (fun hc => ?_)
  · exact u_233_60 E hE (e + 1) hd R HR v0 v1 v2 v3  p1.2 _ (if_t hb hc)
  · exact u_233_25 E hE (e + 1) hd R HR v0 v1 v2 v3  p1.2 _ (if_f hb hc)
def b_233_16 (R : Option Nat → Int32 → Int32 → Int32 → Hp → Option (Hp))   (h : Hp) : Option (Hp) :=
  some h
theorem u_233_16 (E : Nat) (hE : 1 ≤ E) (d : Nat) (hd : E + 1 ≤ d) (R : Option Nat → Int32 → Int32 → Int32 → Hp → Option (Hp)) (HR : ∀ (d : Nat) (a0 : Option Nat) (a1 : Int32) (a2 : Int32) (a3 : Int32) (h : Hp) (r : Hp), E ≤ d → R a0 a1 a2 a3 h = some r → Rn d 233 0 [some (va_rf a0), some (.int a1), some (.int a2), some (.int a3), none] [] h (none, r)) (v0 : Option Nat) (v1 : Int32) (v2 : Int32) (v3 : Int32)  (h : Hp) (r : Hp) (hb : b_233_16 R   h = some r) : Rn d 233 16 [some (va_rf v0), some (.int v1), some (.int v2), some (.int v3), none] [] h (none, r) := by
  unfold b_233_16 at hb
  obtain rfl := Option.some.inj hb
  exact rn_vret rfl rfl
def b_233_8 (R : Option Nat → Int32 → Int32 → Int32 → Hp → Option (Hp)) (v0 : Option Nat) (v1 : Int32) (v2 : Int32) (v3 : Int32)  (h : Hp) : Option (Hp) :=
  (gI 11 32 v0 h).bind fun x1 =>
  if v2 < x1 then b_233_17 R v0 v1 v2 v3  h else b_233_16 R   h
theorem u_233_8 (E : Nat) (hE : 1 ≤ E) (d : Nat) (hd : E + 1 ≤ d) (R : Option Nat → Int32 → Int32 → Int32 → Hp → Option (Hp)) (HR : ∀ (d : Nat) (a0 : Option Nat) (a1 : Int32) (a2 : Int32) (a3 : Int32) (h : Hp) (r : Hp), E ≤ d → R a0 a1 a2 a3 h = some r → Rn d 233 0 [some (va_rf a0), some (.int a1), some (.int a2), some (.int a3), none] [] h (none, r)) (v0 : Option Nat) (v1 : Int32) (v2 : Int32) (v3 : Int32)  (h : Hp) (r : Hp) (hb : b_233_8 R v0 v1 v2 v3  h = some r) : Rn d 233 8 [some (va_rf v0), some (.int v1), some (.int v2), some (.int v3), none] [] h (none, r) := by
  unfold b_233_8 at hb
  refine rn_iload_n (i := 2) rfl rfl ?_
  refine rn_aload_n (i := 0) rfl rfl ?_
  refine rn_gI (c := 11) (k := 32) rfl (by decide) hb (fun x1 hb => ?_)
  refine rn_icmp_lt rfl rfl (fun hc => ?_) (fun hc => ?_)
  · exact u_233_17 E hE d hd R HR v0 v1 v2 v3  h _ (if_t hb hc)
  · exact u_233_16 E hE d hd R HR v0 v1 v2 v3  h _ (if_f hb hc)
def b_233_0 (R : Option Nat → Int32 → Int32 → Int32 → Hp → Option (Hp)) (v0 : Option Nat) (v1 : Int32) (v2 : Int32) (v3 : Int32)  (h : Hp) : Option (Hp) :=
  (gI 11 32 v0 h).bind fun x1 =>
  if x1 = (-1 : Int32) then b_233_17 R v0 v1 v2 v3  h else b_233_8 R v0 v1 v2 v3  h
theorem u_233_0 (E : Nat) (hE : 1 ≤ E) (d : Nat) (hd : E + 1 ≤ d) (R : Option Nat → Int32 → Int32 → Int32 → Hp → Option (Hp)) (HR : ∀ (d : Nat) (a0 : Option Nat) (a1 : Int32) (a2 : Int32) (a3 : Int32) (h : Hp) (r : Hp), E ≤ d → R a0 a1 a2 a3 h = some r → Rn d 233 0 [some (va_rf a0), some (.int a1), some (.int a2), some (.int a3), none] [] h (none, r)) (v0 : Option Nat) (v1 : Int32) (v2 : Int32) (v3 : Int32)  (h : Hp) (r : Hp) (hb : b_233_0 R v0 v1 v2 v3  h = some r) : Rn d 233 0 [some (va_rf v0), some (.int v1), some (.int v2), some (.int v3), none] [] h (none, r) := by
  unfold b_233_0 at hb
  refine rn_aload_n (i := 0) rfl rfl ?_
  refine rn_gI (c := 11) (k := 32) rfl (by decide) hb (fun x1 hb => ?_)
  refine rn_iconst (x := (-1 : Int32)) rfl (by decide) ?_
  refine rn_icmp_eq rfl rfl (fun hc => ?_) (fun hc => ?_)
  · exact u_233_17 E hE d hd R HR v0 v1 v2 v3  h _ (if_t hb hc)
  · exact u_233_8 E hE d hd R HR v0 v1 v2 v3  h _ (if_f hb hc)
/-- BitingDoorsModel.hang(IIZ)V -/
def F_233 (R : Option Nat → Int32 → Int32 → Int32 → Hp → Option (Hp)) (v0 : Option Nat) (v1 : Int32) (v2 : Int32) (v3 : Int32) (h : Hp) : Option (Hp) := b_233_0 R v0 v1 v2 v3 h
theorem t0_233 (E : Nat) (hE : 1 ≤ E) (d : Nat) (hd : E + 1 ≤ d) (R : Option Nat → Int32 → Int32 → Int32 → Hp → Option (Hp)) (HR : ∀ (d : Nat) (a0 : Option Nat) (a1 : Int32) (a2 : Int32) (a3 : Int32) (h : Hp) (r : Hp), E ≤ d → R a0 a1 a2 a3 h = some r → Rn d 233 0 [some (va_rf a0), some (.int a1), some (.int a2), some (.int a3), none] [] h (none, r)) (v0 : Option Nat) (v1 : Int32) (v2 : Int32) (v3 : Int32) (h : Hp) (r : Hp) (hb : F_233 R v0 v1 v2 v3 h = some r) : Rn d 233 0 [some (va_rf v0), some (.int v1), some (.int v2), some (.int v3), none] [] h (none, r) := by
  unfold F_233 at hb
  exact u_233_0 E hE d hd R HR v0 v1 v2 v3 h r hb
def f_233 : Nat → Option Nat → Int32 → Int32 → Int32 → Hp → Option (Hp)
  | 0, _, _, _, _, _ => none
  | n + 1, v0, v1, v2, v3, h => F_233 (f_233 n) v0 v1 v2 v3 h
theorem t_233 : ∀ (n d : Nat), 1 * n + 1 ≤ d → ∀ (v0 : Option Nat) (v1 : Int32) (v2 : Int32) (v3 : Int32) (h : Hp) (r : Hp), f_233 n v0 v1 v2 v3 h = some r → Rn d 233 0 [some (va_rf v0), some (.int v1), some (.int v2), some (.int v3), none] [] h (none, r) := by
  intro n
  induction n with
  | zero => intro d hd v0 v1 v2 v3 h r hb; cases hb
  | succ n ih => intro d hd v0 v1 v2 v3 h r hb; exact t0_233 (1 * n + 1) (by omega) d (by omega) (f_233 n) (fun d v0 v1 v2 v3 h r hd hb => ih d hd v0 v1 v2 v3 h r hb) v0 v1 v2 v3 h r hb
def b_234_0 (v0 : Option Nat) (v1 : Int32)  (h : Hp) : Option (Int32 × Hp) :=
  (grd (rC 11 v0 h)).bind fun _ =>
  (f_225 v0 h).bind fun p1 =>
  (pI 11 32 v0 (-1 : Int32) p1).bind fun h2 =>
  (grd (rC 11 v0 h2)).bind fun _ =>
  (f_233 RF v0 (nI 0) (nI 0) v1 h2).bind fun p3 =>
  (gI 11 32 v0 p3).bind fun x4 =>
  some (x4, p3)
theorem u_234_0 (d : Nat) (hd : 68 ≤ d) (v0 : Option Nat) (v1 : Int32)  (h : Hp) (r : Int32 × Hp) (hb : b_234_0 v0 v1  h = some r) : Rn d 234 0 [some (va_rf v0), some (.int v1)] [] h (some (.int r.1), r.2) := by
  unfold b_234_0 at hb
  obtain ⟨e, rfl⟩ : ∃ e, d = e + 1 := ⟨d - 1, by omega⟩
  refine rn_aload_n (i := 0) rfl rfl ?_
  obtain ⟨hrc, hb⟩ := grd_spec hb
  obtain ⟨p1, hc, hb⟩ := Option.bind_eq_some_iff.mp hb
  refine Rn.call0 (d := e) (As := [va_rf v0]) (rest := []) rfl rfl rfl (by decide) rfl rfl rfl (bd_rcV hrc rfl) (by decide) (bd_lenC (n := 7) rfl (bd_slR bd_slN) rfl) (bd_locC (n := 7) rfl (bd_slR bd_slN) rfl (t_225 e (by omega) v0 h _ hc)) ?_
  refine rn_aload_n (i := 0) rfl rfl ?_
  refine rn_iconst (x := (-1 : Int32)) rfl (by decide) ?_
  refine rn_pI (c := 11) (k := 32) rfl (by decide) hb (fun h2 hb => ?_)
  refine rn_aload_n (i := 0) rfl rfl ?_
  refine rn_iconst (x := (nI 0)) rfl (by decide) ?_
  refine rn_iconst (x := (nI 0)) rfl (by decide) ?_
  refine rn_iload_n (i := 1) rfl rfl ?_
  obtain ⟨hrc, hb⟩ := grd_spec hb
  obtain ⟨p3, hc, hb⟩ := Option.bind_eq_some_iff.mp hb
  refine Rn.call0 (d := e) (As := [va_rf v0, .int (nI 0), .int (nI 0), .int v1]) (rest := []) rfl rfl rfl (by decide) rfl rfl rfl (bd_rcV hrc rfl) (by decide) (bd_lenC (n := 5) rfl (bd_slR (bd_slI (bd_slI (bd_slI bd_slN)))) rfl) (bd_locC (n := 5) rfl (bd_slR (bd_slI (bd_slI (bd_slI bd_slN)))) rfl (t_233 RF e (by show 1 * 64 + 1 ≤ _; omega) v0 (nI 0) (nI 0) v1 h2 _ hc)) ?_
  refine rn_aload_n (i := 0) rfl rfl ?_
  refine rn_gI (c := 11) (k := 32) rfl (by decide) hb (fun x4 hb => ?_)
  obtain rfl := Option.some.inj hb
  exact rn_iret rfl rfl
/-- BitingDoorsModel.hangAll(Z)I -/
def f_234 (v0 : Option Nat) (v1 : Int32) (h : Hp) : Option (Int32 × Hp) := b_234_0 v0 v1 h
theorem t_234 (d : Nat) (hd : 68 ≤ d) (v0 : Option Nat) (v1 : Int32) (h : Hp) (r : Int32 × Hp) (hb : f_234 v0 v1 h = some r) : Rn d 234 0 [some (va_rf v0), some (.int v1)] [] h (some (.int r.1), r.2) := by
  unfold f_234 at hb
  exact u_234_0 d hd v0 v1 h r hb
def b_235_24  (s0 : Int32) (h : Hp) : Option (Int32 × Hp) :=
  some (s0, h)
theorem u_235_24 (d : Nat) (hd : 69 ≤ d) (v0 : Option Nat) (v1 : Int32) (s0 : Int32) (h : Hp) (r : Int32 × Hp) (hb : b_235_24  s0 h = some r) : Rn d 235 24 [some (va_rf v0), some (.int v1)] [.int s0] h (some (.int r.1), r.2) := by
  unfold b_235_24 at hb
  obtain rfl := Option.some.inj hb
  exact rn_iret rfl rfl
def b_235_20 (v1 : Int32)  (h : Hp) : Option (Int32 × Hp) :=
  (grd (decide (¬ ((nI 100) : Int32) = 0))).bind fun _ =>
  b_235_24  (v1 / (nI 100)) h
theorem u_235_20 (d : Nat) (hd : 69 ≤ d) (v0 : Option Nat) (v1 : Int32)  (h : Hp) (r : Int32 × Hp) (hb : b_235_20 v1  h = some r) : Rn d 235 20 [some (va_rf v0), some (.int v1)] [] h (some (.int r.1), r.2) := by
  unfold b_235_20 at hb
  refine rn_iload_n (i := 1) rfl rfl ?_
  refine rn_bipush (x := (nI 100)) rfl (by decide) ?_
  obtain ⟨hy, hb⟩ := grd_spec hb
  refine rn_idiv rfl (of_decide_eq_true hy) ?_
  exact u_235_24 d hd v0 v1 (v1 / (nI 100)) h _ hb
def b_235_16   (h : Hp) : Option (Int32 × Hp) :=
  b_235_24  (-1 : Int32) h
theorem u_235_16 (d : Nat) (hd : 69 ≤ d) (v0 : Option Nat) (v1 : Int32)  (h : Hp) (r : Int32 × Hp) (hb : b_235_16   h = some r) : Rn d 235 16 [some (va_rf v0), some (.int v1)] [] h (some (.int r.1), r.2) := by
  unfold b_235_16 at hb
  refine rn_iconst (x := (-1 : Int32)) rfl (by decide) ?_
  refine rn_goto rfl rfl ?_
  exact u_235_24 d hd v0 v1 (-1 : Int32) h _ hb
def b_235_0 (v0 : Option Nat)  (h : Hp) : Option (Int32 × Hp) :=
  (pI 11 0 v0 (nI 0) h).bind fun h1 =>
  (grd (rC 11 v0 h1)).bind fun _ =>
  (f_234 v0 (nI 1) h1).bind fun p2 =>
  bnd (p2.1) fun x3 =>
  if ¬ x3 = (-1 : Int32) then b_235_20 x3  p2.2 else b_235_16   p2.2
theorem u_235_0 (d : Nat) (hd : 69 ≤ d) (v0 : Option Nat)  (h : Hp) (r : Int32 × Hp) (hb : b_235_0 v0  h = some r) : Rn d 235 0 [some (va_rf v0), none] [] h (some (.int r.1), r.2) := by
  unfold b_235_0 at hb
  obtain ⟨e, rfl⟩ : ∃ e, d = e + 1 := ⟨d - 1, by omega⟩
  refine rn_aload_n (i := 0) rfl rfl ?_
  refine rn_iconst (x := (nI 0)) rfl (by decide) ?_
  refine rn_pI (c := 11) (k := 0) rfl (by decide) hb (fun h1 hb => ?_)
  refine rn_aload_n (i := 0) rfl rfl ?_
  refine rn_iconst (x := (nI 1)) rfl (by decide) ?_
  obtain ⟨hrc, hb⟩ := grd_spec hb
  obtain ⟨p2, hc, hb⟩ := Option.bind_eq_some_iff.mp hb
  refine Rn.call1 (d := e) (As := [va_rf v0, .int (nI 1)]) (rest := []) rfl rfl rfl (by decide) rfl rfl rfl (bd_rcV hrc rfl) (by decide) (bd_lenC (n := 2) rfl (bd_slR (bd_slI bd_slN)) rfl) (bd_locC (n := 2) rfl (bd_slR (bd_slI bd_slN)) rfl (t_234 e (by omega) v0 (nI 1) h1 _ hc)) ?_
  obtain ⟨x3, ex3, hb⟩ := bnd_spec hb
  refine rn_istore_n (i := 1) (L1 := [some (va_rf v0), some (.int x3)]) rfl (Nat.le_of_ble_eq_true rfl) (Or.inr (bd_wideR rfl)) (by rw [ex3]; rfl) ?_
  refine rn_iload_n (i := 1) rfl rfl ?_
  refine rn_iconst (x := (-1 : Int32)) rfl (by decide) ?_
  refine rn_icmp_ne rfl rfl (fun hc => ?_) (fun hc => ?_)
  · exact u_235_20 (e + 1) hd v0 x3  p2.2 _ (if_t hb hc)
  · exact u_235_16 (e + 1) hd v0 x3  p2.2 _ (if_f hb hc)
/-- BitingDoorsModel.cheapest()I -/
def f_235 (v0 : Option Nat) (h : Hp) : Option (Int32 × Hp) := b_235_0 v0 h
theorem t_235 (d : Nat) (hd : 69 ≤ d) (v0 : Option Nat) (h : Hp) (r : Int32 × Hp) (hb : f_235 v0 h = some r) : Rn d 235 0 [some (va_rf v0), none] [] h (some (.int r.1), r.2) := by
  unfold f_235 at hb
  exact u_235_0 d hd v0 h r hb
def b_236_32  (s0 : Int32) (h : Hp) : Option (Int32 × Hp) :=
  some (s0, h)
theorem u_236_32 (d : Nat) (hd : 69 ≤ d) (v0 : Option Nat) (v1 : Int32) (s0 : Int32) (h : Hp) (r : Int32 × Hp) (hb : b_236_32  s0 h = some r) : Rn d 236 32 [some (va_rf v0), some (.int v1)] [.int s0] h (some (.int r.1), r.2) := by
  unfold b_236_32 at hb
  obtain rfl := Option.some.inj hb
  exact rn_iret rfl rfl
def b_236_22   (h : Hp) : Option (Int32 × Hp) :=
  b_236_32  (-1 : Int32) h
theorem u_236_22 (d : Nat) (hd : 69 ≤ d) (v0 : Option Nat) (v1 : Int32)  (h : Hp) (r : Int32 × Hp) (hb : b_236_22   h = some r) : Rn d 236 22 [some (va_rf v0), some (.int v1)] [] h (some (.int r.1), r.2) := by
  unfold b_236_22 at hb
  refine rn_iconst (x := (-1 : Int32)) rfl (by decide) ?_
  refine rn_goto rfl rfl ?_
  exact u_236_32 d hd v0 v1 (-1 : Int32) h _ hb
def b_236_26 (v0 : Option Nat) (v1 : Int32)  (h : Hp) : Option (Int32 × Hp) :=
  (gQ 11 31 v0 h).bind fun x1 =>
  (aI 12 x1 v1 h).bind fun x2 =>
  b_236_32  x2 h
theorem u_236_26 (d : Nat) (hd : 69 ≤ d) (v0 : Option Nat) (v1 : Int32)  (h : Hp) (r : Int32 × Hp) (hb : b_236_26 v0 v1  h = some r) : Rn d 236 26 [some (va_rf v0), some (.int v1)] [] h (some (.int r.1), r.2) := by
  unfold b_236_26 at hb
  refine rn_aload_n (i := 0) rfl rfl ?_
  refine rn_gQ (c := 11) (k := 31) rfl (by decide) hb (fun x1 hb => ?_)
  refine rn_iload_n (i := 1) rfl rfl ?_
  refine rn_aI rfl hb (fun x2 hb => ?_)
  exact u_236_32 d hd v0 v1 x2 h _ hb
def b_236_14 (v0 : Option Nat) (v1 : Int32)  (h : Hp) : Option (Int32 × Hp) :=
  (grd (rC 11 v0 h)).bind fun _ =>
  (f_204 v0 v1 h).bind fun p1 =>
  if ¬ p1.1 = 0 then b_236_26 v0 v1  p1.2 else b_236_22   p1.2
theorem u_236_14 (d : Nat) (hd : 69 ≤ d) (v0 : Option Nat) (v1 : Int32)  (h : Hp) (r : Int32 × Hp) (hb : b_236_14 v0 v1  h = some r) : Rn d 236 14 [some (va_rf v0), some (.int v1)] [] h (some (.int r.1), r.2) := by
  unfold b_236_14 at hb
  obtain ⟨e, rfl⟩ : ∃ e, d = e + 1 := ⟨d - 1, by omega⟩
  refine rn_aload_n (i := 0) rfl rfl ?_
  refine rn_iload_n (i := 1) rfl rfl ?_
  obtain ⟨hrc, hb⟩ := grd_spec hb
  obtain ⟨p1, hc, hb⟩ := Option.bind_eq_some_iff.mp hb
  refine Rn.call1 (d := e) (As := [va_rf v0, .int v1]) (rest := []) rfl rfl rfl (by decide) rfl rfl rfl (bd_rcV hrc rfl) (by decide) (bd_lenC (n := 2) rfl (bd_slR (bd_slI bd_slN)) rfl) (bd_locC (n := 2) rfl (bd_slR (bd_slI bd_slN)) rfl (t_204 e (by omega) v0 v1 h _ hc)) ?_
  refine rn_if_ne rfl rfl (fun hc => ?_) (fun hc => ?_)
  · exact u_236_26 (e + 1) hd v0 v1  p1.2 _ (if_t hb hc)
  · exact u_236_22 (e + 1) hd v0 v1  p1.2 _ (if_f hb hc)
def b_236_0 (v0 : Option Nat) (v1 : Int32)  (h : Hp) : Option (Int32 × Hp) :=
  (pI 11 0 v0 (nI 0) h).bind fun h1 =>
  (grd (rC 11 v0 h1)).bind fun _ =>
  (f_234 v0 (nI 1) h1).bind fun p2 =>
  if p2.1 = (-1 : Int32) then b_236_22   p2.2 else b_236_14 v0 v1  p2.2
theorem u_236_0 (d : Nat) (hd : 69 ≤ d) (v0 : Option Nat) (v1 : Int32)  (h : Hp) (r : Int32 × Hp) (hb : b_236_0 v0 v1  h = some r) : Rn d 236 0 [some (va_rf v0), some (.int v1)] [] h (some (.int r.1), r.2) := by
  unfold b_236_0 at hb
  obtain ⟨e, rfl⟩ : ∃ e, d = e + 1 := ⟨d - 1, by omega⟩
  refine rn_aload_n (i := 0) rfl rfl ?_
  refine rn_iconst (x := (nI 0)) rfl (by decide) ?_
  refine rn_pI (c := 11) (k := 0) rfl (by decide) hb (fun h1 hb => ?_)
  refine rn_aload_n (i := 0) rfl rfl ?_
  refine rn_iconst (x := (nI 1)) rfl (by decide) ?_
  obtain ⟨hrc, hb⟩ := grd_spec hb
  obtain ⟨p2, hc, hb⟩ := Option.bind_eq_some_iff.mp hb
  refine Rn.call1 (d := e) (As := [va_rf v0, .int (nI 1)]) (rest := []) rfl rfl rfl (by decide) rfl rfl rfl (bd_rcV hrc rfl) (by decide) (bd_lenC (n := 2) rfl (bd_slR (bd_slI bd_slN)) rfl) (bd_locC (n := 2) rfl (bd_slR (bd_slI bd_slN)) rfl (t_234 e (by omega) v0 (nI 1) h1 _ hc)) ?_
  refine rn_iconst (x := (-1 : Int32)) rfl (by decide) ?_
  refine rn_icmp_eq rfl rfl (fun hc => ?_) (fun hc => ?_)
  · exact u_236_22 (e + 1) hd v0 v1  p2.2 _ (if_t hb hc)
  · exact u_236_14 (e + 1) hd v0 v1  p2.2 _ (if_f hb hc)
/-- BitingDoorsModel.hung(I)I -/
def f_236 (v0 : Option Nat) (v1 : Int32) (h : Hp) : Option (Int32 × Hp) := b_236_0 v0 v1 h
theorem t_236 (d : Nat) (hd : 69 ≤ d) (v0 : Option Nat) (v1 : Int32) (h : Hp) (r : Int32 × Hp) (hb : f_236 v0 v1 h = some r) : Rn d 236 0 [some (va_rf v0), some (.int v1)] [] h (some (.int r.1), r.2) := by
  unfold f_236 at hb
  exact u_236_0 d hd v0 v1 h r hb
def b_237_25  (s0 : Int32) (h : Hp) : Option (Int32 × Hp) :=
  some (s0, h)
theorem u_237_25 (d : Nat) (hd : 69 ≤ d) (v0 : Option Nat) (v1 : Int32) (s0 : Int32) (h : Hp) (r : Int32 × Hp) (hb : b_237_25  s0 h = some r) : Rn d 237 25 [some (va_rf v0), some (.int v1)] [.int s0] h (some (.int r.1), r.2) := by
  unfold b_237_25 at hb
  obtain rfl := Option.some.inj hb
  exact rn_iret rfl rfl
def b_237_20 (v1 : Int32)  (h : Hp) : Option (Int32 × Hp) :=
  (grd (decide (¬ ((nI 10000) : Int32) = 0))).bind fun _ =>
  b_237_25  (v1 / (nI 10000)) h
theorem u_237_20 (d : Nat) (hd : 69 ≤ d) (v0 : Option Nat) (v1 : Int32)  (h : Hp) (r : Int32 × Hp) (hb : b_237_20 v1  h = some r) : Rn d 237 20 [some (va_rf v0), some (.int v1)] [] h (some (.int r.1), r.2) := by
  unfold b_237_20 at hb
  refine rn_iload_n (i := 1) rfl rfl ?_
  refine rn_sipush (x := (nI 10000)) rfl (by decide) ?_
  obtain ⟨hy, hb⟩ := grd_spec hb
  refine rn_idiv rfl (of_decide_eq_true hy) ?_
  exact u_237_25 d hd v0 v1 (v1 / (nI 10000)) h _ hb
def b_237_16   (h : Hp) : Option (Int32 × Hp) :=
  b_237_25  (-1 : Int32) h
theorem u_237_16 (d : Nat) (hd : 69 ≤ d) (v0 : Option Nat) (v1 : Int32)  (h : Hp) (r : Int32 × Hp) (hb : b_237_16   h = some r) : Rn d 237 16 [some (va_rf v0), some (.int v1)] [] h (some (.int r.1), r.2) := by
  unfold b_237_16 at hb
  refine rn_iconst (x := (-1 : Int32)) rfl (by decide) ?_
  refine rn_goto rfl rfl ?_
  exact u_237_25 d hd v0 v1 (-1 : Int32) h _ hb
def b_237_0 (v0 : Option Nat)  (h : Hp) : Option (Int32 × Hp) :=
  (pI 11 0 v0 (nI 0) h).bind fun h1 =>
  (grd (rC 11 v0 h1)).bind fun _ =>
  (f_234 v0 (nI 0) h1).bind fun p2 =>
  bnd (p2.1) fun x3 =>
  if ¬ x3 = (-1 : Int32) then b_237_20 x3  p2.2 else b_237_16   p2.2
theorem u_237_0 (d : Nat) (hd : 69 ≤ d) (v0 : Option Nat)  (h : Hp) (r : Int32 × Hp) (hb : b_237_0 v0  h = some r) : Rn d 237 0 [some (va_rf v0), none] [] h (some (.int r.1), r.2) := by
  unfold b_237_0 at hb
  obtain ⟨e, rfl⟩ : ∃ e, d = e + 1 := ⟨d - 1, by omega⟩
  refine rn_aload_n (i := 0) rfl rfl ?_
  refine rn_iconst (x := (nI 0)) rfl (by decide) ?_
  refine rn_pI (c := 11) (k := 0) rfl (by decide) hb (fun h1 hb => ?_)
  refine rn_aload_n (i := 0) rfl rfl ?_
  refine rn_iconst (x := (nI 0)) rfl (by decide) ?_
  obtain ⟨hrc, hb⟩ := grd_spec hb
  obtain ⟨p2, hc, hb⟩ := Option.bind_eq_some_iff.mp hb
  refine Rn.call1 (d := e) (As := [va_rf v0, .int (nI 0)]) (rest := []) rfl rfl rfl (by decide) rfl rfl rfl (bd_rcV hrc rfl) (by decide) (bd_lenC (n := 2) rfl (bd_slR (bd_slI bd_slN)) rfl) (bd_locC (n := 2) rfl (bd_slR (bd_slI bd_slN)) rfl (t_234 e (by omega) v0 (nI 0) h1 _ hc)) ?_
  obtain ⟨x3, ex3, hb⟩ := bnd_spec hb
  refine rn_istore_n (i := 1) (L1 := [some (va_rf v0), some (.int x3)]) rfl (Nat.le_of_ble_eq_true rfl) (Or.inr (bd_wideR rfl)) (by rw [ex3]; rfl) ?_
  refine rn_iload_n (i := 1) rfl rfl ?_
  refine rn_iconst (x := (-1 : Int32)) rfl (by decide) ?_
  refine rn_icmp_ne rfl rfl (fun hc => ?_) (fun hc => ?_)
  · exact u_237_20 (e + 1) hd v0 x3  p2.2 _ (if_t hb hc)
  · exact u_237_16 (e + 1) hd v0 x3  p2.2 _ (if_f hb hc)
/-- BitingDoorsModel.fewest()I -/
def f_237 (v0 : Option Nat) (h : Hp) : Option (Int32 × Hp) := b_237_0 v0 h
theorem t_237 (d : Nat) (hd : 69 ≤ d) (v0 : Option Nat) (h : Hp) (r : Int32 × Hp) (hb : f_237 v0 h = some r) : Rn d 237 0 [some (va_rf v0), none] [] h (some (.int r.1), r.2) := by
  unfold f_237 at hb
  exact u_237_0 d hd v0 h r hb
def b_238_32  (s0 : Int32) (h : Hp) : Option (Int32 × Hp) :=
  some (s0, h)
theorem u_238_32 (d : Nat) (hd : 69 ≤ d) (v0 : Option Nat) (v1 : Int32) (s0 : Int32) (h : Hp) (r : Int32 × Hp) (hb : b_238_32  s0 h = some r) : Rn d 238 32 [some (va_rf v0), some (.int v1)] [.int s0] h (some (.int r.1), r.2) := by
  unfold b_238_32 at hb
  obtain rfl := Option.some.inj hb
  exact rn_iret rfl rfl
def b_238_22   (h : Hp) : Option (Int32 × Hp) :=
  b_238_32  (-1 : Int32) h
theorem u_238_22 (d : Nat) (hd : 69 ≤ d) (v0 : Option Nat) (v1 : Int32)  (h : Hp) (r : Int32 × Hp) (hb : b_238_22   h = some r) : Rn d 238 22 [some (va_rf v0), some (.int v1)] [] h (some (.int r.1), r.2) := by
  unfold b_238_22 at hb
  refine rn_iconst (x := (-1 : Int32)) rfl (by decide) ?_
  refine rn_goto rfl rfl ?_
  exact u_238_32 d hd v0 v1 (-1 : Int32) h _ hb
def b_238_26 (v0 : Option Nat) (v1 : Int32)  (h : Hp) : Option (Int32 × Hp) :=
  (gQ 11 31 v0 h).bind fun x1 =>
  (aI 12 x1 v1 h).bind fun x2 =>
  b_238_32  x2 h
theorem u_238_26 (d : Nat) (hd : 69 ≤ d) (v0 : Option Nat) (v1 : Int32)  (h : Hp) (r : Int32 × Hp) (hb : b_238_26 v0 v1  h = some r) : Rn d 238 26 [some (va_rf v0), some (.int v1)] [] h (some (.int r.1), r.2) := by
  unfold b_238_26 at hb
  refine rn_aload_n (i := 0) rfl rfl ?_
  refine rn_gQ (c := 11) (k := 31) rfl (by decide) hb (fun x1 hb => ?_)
  refine rn_iload_n (i := 1) rfl rfl ?_
  refine rn_aI rfl hb (fun x2 hb => ?_)
  exact u_238_32 d hd v0 v1 x2 h _ hb
def b_238_14 (v0 : Option Nat) (v1 : Int32)  (h : Hp) : Option (Int32 × Hp) :=
  (grd (rC 11 v0 h)).bind fun _ =>
  (f_204 v0 v1 h).bind fun p1 =>
  if ¬ p1.1 = 0 then b_238_26 v0 v1  p1.2 else b_238_22   p1.2
theorem u_238_14 (d : Nat) (hd : 69 ≤ d) (v0 : Option Nat) (v1 : Int32)  (h : Hp) (r : Int32 × Hp) (hb : b_238_14 v0 v1  h = some r) : Rn d 238 14 [some (va_rf v0), some (.int v1)] [] h (some (.int r.1), r.2) := by
  unfold b_238_14 at hb
  obtain ⟨e, rfl⟩ : ∃ e, d = e + 1 := ⟨d - 1, by omega⟩
  refine rn_aload_n (i := 0) rfl rfl ?_
  refine rn_iload_n (i := 1) rfl rfl ?_
  obtain ⟨hrc, hb⟩ := grd_spec hb
  obtain ⟨p1, hc, hb⟩ := Option.bind_eq_some_iff.mp hb
  refine Rn.call1 (d := e) (As := [va_rf v0, .int v1]) (rest := []) rfl rfl rfl (by decide) rfl rfl rfl (bd_rcV hrc rfl) (by decide) (bd_lenC (n := 2) rfl (bd_slR (bd_slI bd_slN)) rfl) (bd_locC (n := 2) rfl (bd_slR (bd_slI bd_slN)) rfl (t_204 e (by omega) v0 v1 h _ hc)) ?_
  refine rn_if_ne rfl rfl (fun hc => ?_) (fun hc => ?_)
  · exact u_238_26 (e + 1) hd v0 v1  p1.2 _ (if_t hb hc)
  · exact u_238_22 (e + 1) hd v0 v1  p1.2 _ (if_f hb hc)
def b_238_0 (v0 : Option Nat) (v1 : Int32)  (h : Hp) : Option (Int32 × Hp) :=
  (pI 11 0 v0 (nI 0) h).bind fun h1 =>
  (grd (rC 11 v0 h1)).bind fun _ =>
  (f_234 v0 (nI 0) h1).bind fun p2 =>
  if p2.1 = (-1 : Int32) then b_238_22   p2.2 else b_238_14 v0 v1  p2.2
theorem u_238_0 (d : Nat) (hd : 69 ≤ d) (v0 : Option Nat) (v1 : Int32)  (h : Hp) (r : Int32 × Hp) (hb : b_238_0 v0 v1  h = some r) : Rn d 238 0 [some (va_rf v0), some (.int v1)] [] h (some (.int r.1), r.2) := by
  unfold b_238_0 at hb
  obtain ⟨e, rfl⟩ : ∃ e, d = e + 1 := ⟨d - 1, by omega⟩
  refine rn_aload_n (i := 0) rfl rfl ?_
  refine rn_iconst (x := (nI 0)) rfl (by decide) ?_
  refine rn_pI (c := 11) (k := 0) rfl (by decide) hb (fun h1 hb => ?_)
  refine rn_aload_n (i := 0) rfl rfl ?_
  refine rn_iconst (x := (nI 0)) rfl (by decide) ?_
  obtain ⟨hrc, hb⟩ := grd_spec hb
  obtain ⟨p2, hc, hb⟩ := Option.bind_eq_some_iff.mp hb
  refine Rn.call1 (d := e) (As := [va_rf v0, .int (nI 0)]) (rest := []) rfl rfl rfl (by decide) rfl rfl rfl (bd_rcV hrc rfl) (by decide) (bd_lenC (n := 2) rfl (bd_slR (bd_slI bd_slN)) rfl) (bd_locC (n := 2) rfl (bd_slR (bd_slI bd_slN)) rfl (t_234 e (by omega) v0 (nI 0) h1 _ hc)) ?_
  refine rn_iconst (x := (-1 : Int32)) rfl (by decide) ?_
  refine rn_icmp_eq rfl rfl (fun hc => ?_) (fun hc => ?_)
  · exact u_238_22 (e + 1) hd v0 v1  p2.2 _ (if_t hb hc)
  · exact u_238_14 (e + 1) hd v0 v1  p2.2 _ (if_f hb hc)
/-- BitingDoorsModel.fewestBy(I)I -/
def f_238 (v0 : Option Nat) (v1 : Int32) (h : Hp) : Option (Int32 × Hp) := b_238_0 v0 v1 h
theorem t_238 (d : Nat) (hd : 69 ≤ d) (v0 : Option Nat) (v1 : Int32) (h : Hp) (r : Int32 × Hp) (hb : f_238 v0 v1 h = some r) : Rn d 238 0 [some (va_rf v0), some (.int v1)] [] h (some (.int r.1), r.2) := by
  unfold f_238 at hb
  exact u_238_0 d hd v0 v1 h r hb
def b_239_76 (R : Option Nat → Int32 → Hp → Option (Hp))   (h : Hp) : Option (Hp) :=
  some h
theorem u_239_76 (E : Nat) (hE : 1 ≤ E) (d : Nat) (hd : E + 1 ≤ d) (R : Option Nat → Int32 → Hp → Option (Hp)) (HR : ∀ (d : Nat) (a0 : Option Nat) (a1 : Int32) (h : Hp) (r : Hp), E ≤ d → R a0 a1 h = some r → Rn d 239 0 [some (va_rf a0), some (.int a1), none] [] h (none, r)) (v0 : Option Nat) (v1 : Int32) (v2 : Int32)  (h : Hp) (r : Hp) (hb : b_239_76 R   h = some r) : Rn d 239 76 [some (va_rf v0), some (.int v1), some (.int v2)] [] h (none, r) := by
  unfold b_239_76 at hb
  obtain rfl := Option.some.inj hb
  exact rn_vret rfl rfl
def b_239_70 (R : Option Nat → Int32 → Hp → Option (Hp)) (k21 : Option Nat → Int32 → Int32 → Hp → Option (Hp)) (v0 : Option Nat) (v1 : Int32) (v2 : Int32)  (h : Hp) : Option (Hp) :=
  bnd (v2 + (nI 1)) fun x1 =>
  k21 v0 v1 x1 h
theorem u_239_70 (E : Nat) (hE : 1 ≤ E) (d : Nat) (hd : E + 1 ≤ d) (R : Option Nat → Int32 → Hp → Option (Hp)) (HR : ∀ (d : Nat) (a0 : Option Nat) (a1 : Int32) (h : Hp) (r : Hp), E ≤ d → R a0 a1 h = some r → Rn d 239 0 [some (va_rf a0), some (.int a1), none] [] h (none, r)) (k21 : Option Nat → Int32 → Int32 → Hp → Option (Hp)) (K21 : ∀ (v0 : Option Nat) (v1 : Int32) (v2 : Int32) (h : Hp) (r : Hp), k21 v0 v1 v2 h = some r → Rn d 239 21 [some (va_rf v0), some (.int v1), some (.int v2)] [] h (none, r)) (v0 : Option Nat) (v1 : Int32) (v2 : Int32)  (h : Hp) (r : Hp) (hb : b_239_70 R k21 v0 v1 v2  h = some r) : Rn d 239 70 [some (va_rf v0), some (.int v1), some (.int v2)] [] h (none, r) := by
  unfold b_239_70 at hb
  obtain ⟨x1, ex1, hb⟩ := bnd_spec hb
  refine rn_iinc (i := 2) (y := x1) (L1 := [some (va_rf v0), some (.int v1), some (.int x1)]) rfl rfl (Nat.le_of_ble_eq_true rfl) (Or.inr rfl) (by rw [ex1]; rfl) rfl ?_
  refine rn_goto rfl rfl ?_
  exact K21 v0 v1 x1 h _ hb
def b_239_56 (R : Option Nat → Int32 → Hp → Option (Hp)) (k21 : Option Nat → Int32 → Int32 → Hp → Option (Hp)) (v0 : Option Nat) (v1 : Int32) (v2 : Int32)  (h : Hp) : Option (Hp) :=
  (gQ 11 30 v0 h).bind fun x1 =>
  (wI x1 v1 v2 h).bind fun h2 =>
  (grd (rC 11 v0 h2)).bind fun _ =>
  (R v0 (v1 + (nI 1)) h2).bind fun p3 =>
  b_239_70 R k21 v0 v1 v2  p3
theorem u_239_56 (E : Nat) (hE : 1 ≤ E) (d : Nat) (hd : E + 1 ≤ d) (R : Option Nat → Int32 → Hp → Option (Hp)) (HR : ∀ (d : Nat) (a0 : Option Nat) (a1 : Int32) (h : Hp) (r : Hp), E ≤ d → R a0 a1 h = some r → Rn d 239 0 [some (va_rf a0), some (.int a1), none] [] h (none, r)) (k21 : Option Nat → Int32 → Int32 → Hp → Option (Hp)) (K21 : ∀ (v0 : Option Nat) (v1 : Int32) (v2 : Int32) (h : Hp) (r : Hp), k21 v0 v1 v2 h = some r → Rn d 239 21 [some (va_rf v0), some (.int v1), some (.int v2)] [] h (none, r)) (v0 : Option Nat) (v1 : Int32) (v2 : Int32)  (h : Hp) (r : Hp) (hb : b_239_56 R k21 v0 v1 v2  h = some r) : Rn d 239 56 [some (va_rf v0), some (.int v1), some (.int v2)] [] h (none, r) := by
  unfold b_239_56 at hb
  obtain ⟨e, rfl⟩ : ∃ e, d = e + 1 := ⟨d - 1, by omega⟩
  refine rn_aload_n (i := 0) rfl rfl ?_
  refine rn_gQ (c := 11) (k := 30) rfl (by decide) hb (fun x1 hb => ?_)
  refine rn_iload_n (i := 1) rfl rfl ?_
  refine rn_iload_n (i := 2) rfl rfl ?_
  refine rn_wI rfl hb (fun h2 hb => ?_)
  refine rn_aload_n (i := 0) rfl rfl ?_
  refine rn_iload_n (i := 1) rfl rfl ?_
  refine rn_iconst (x := (nI 1)) rfl (by decide) ?_
  refine rn_iadd rfl ?_
  obtain ⟨hrc, hb⟩ := grd_spec hb
  obtain ⟨p3, hc, hb⟩ := Option.bind_eq_some_iff.mp hb
  refine Rn.call0 (d := e) (As := [va_rf v0, .int (v1 + (nI 1))]) (rest := []) rfl rfl rfl (by decide) rfl rfl rfl (bd_rcV hrc rfl) (by decide) (bd_lenC (n := 3) rfl (bd_slR (bd_slI bd_slN)) rfl) (bd_locC (n := 3) rfl (bd_slR (bd_slI bd_slN)) rfl (HR e v0 (v1 + (nI 1)) h2 _ (by omega) hc)) ?_
  exact u_239_70 E hE (e + 1) hd R HR k21 K21 v0 v1 v2  p3 _ hb
def b_239_53 (R : Option Nat → Int32 → Hp → Option (Hp)) (k21 : Option Nat → Int32 → Int32 → Hp → Option (Hp)) (v0 : Option Nat) (v1 : Int32) (v2 : Int32)  (h : Hp) : Option (Hp) :=
  b_239_70 R k21 v0 v1 v2  h
theorem u_239_53 (E : Nat) (hE : 1 ≤ E) (d : Nat) (hd : E + 1 ≤ d) (R : Option Nat → Int32 → Hp → Option (Hp)) (HR : ∀ (d : Nat) (a0 : Option Nat) (a1 : Int32) (h : Hp) (r : Hp), E ≤ d → R a0 a1 h = some r → Rn d 239 0 [some (va_rf a0), some (.int a1), none] [] h (none, r)) (k21 : Option Nat → Int32 → Int32 → Hp → Option (Hp)) (K21 : ∀ (v0 : Option Nat) (v1 : Int32) (v2 : Int32) (h : Hp) (r : Hp), k21 v0 v1 v2 h = some r → Rn d 239 21 [some (va_rf v0), some (.int v1), some (.int v2)] [] h (none, r)) (v0 : Option Nat) (v1 : Int32) (v2 : Int32)  (h : Hp) (r : Hp) (hb : b_239_53 R k21 v0 v1 v2  h = some r) : Rn d 239 53 [some (va_rf v0), some (.int v1), some (.int v2)] [] h (none, r) := by
  unfold b_239_53 at hb
  refine rn_goto rfl rfl ?_
  exact u_239_70 E hE d hd R HR k21 K21 v0 v1 v2  h _ hb
def b_239_39 (R : Option Nat → Int32 → Hp → Option (Hp)) (k21 : Option Nat → Int32 → Int32 → Hp → Option (Hp)) (v0 : Option Nat) (v1 : Int32) (v2 : Int32)  (h : Hp) : Option (Hp) :=
  (grd (rC 11 v0 h)).bind fun _ =>
  (f_232 v0 v1 v2 (((nI 1) <<< (v1 &&& 31)) - (nI 1)) h).bind fun p1 =>
  if ¬ p1.1 = 0 then b_239_56 R k21 v0 v1 v2  p1.2 else b_239_53 R k21 v0 v1 v2  p1.2
theorem u_239_39 (E : Nat) (hE : 1 ≤ E) (d : Nat) (hd : E + 1 ≤ d) (R : Option Nat → Int32 → Hp → Option (Hp)) (HR : ∀ (d : Nat) (a0 : Option Nat) (a1 : Int32) (h : Hp) (r : Hp), E ≤ d → R a0 a1 h = some r → Rn d 239 0 [some (va_rf a0), some (.int a1), none] [] h (none, r)) (k21 : Option Nat → Int32 → Int32 → Hp → Option (Hp)) (K21 : ∀ (v0 : Option Nat) (v1 : Int32) (v2 : Int32) (h : Hp) (r : Hp), k21 v0 v1 v2 h = some r → Rn d 239 21 [some (va_rf v0), some (.int v1), some (.int v2)] [] h (none, r)) (v0 : Option Nat) (v1 : Int32) (v2 : Int32)  (h : Hp) (r : Hp) (hb : b_239_39 R k21 v0 v1 v2  h = some r) : Rn d 239 39 [some (va_rf v0), some (.int v1), some (.int v2)] [] h (none, r) := by
  unfold b_239_39 at hb
  obtain ⟨e, rfl⟩ : ∃ e, d = e + 1 := ⟨d - 1, by omega⟩
  refine rn_aload_n (i := 0) rfl rfl ?_
  refine rn_iload_n (i := 1) rfl rfl ?_
  refine rn_iload_n (i := 2) rfl rfl ?_
  refine rn_iconst (x := (nI 1)) rfl (by decide) ?_
  refine rn_iload_n (i := 1) rfl rfl ?_
  refine rn_ishl rfl ?_
  refine rn_iconst (x := (nI 1)) rfl (by decide) ?_
  refine rn_isub rfl ?_
  obtain ⟨hrc, hb⟩ := grd_spec hb
  obtain ⟨p1, hc, hb⟩ := Option.bind_eq_some_iff.mp hb
  refine Rn.call1 (d := e) (As := [va_rf v0, .int v1, .int v2, .int (((nI 1) <<< (v1 &&& 31)) - (nI 1))]) (rest := []) rfl rfl rfl (by decide) rfl rfl rfl (bd_rcV hrc rfl) (by decide) (bd_lenC (n := 5) rfl (bd_slR (bd_slI (bd_slI (bd_slI bd_slN)))) rfl) (bd_locC (n := 5) rfl (bd_slR (bd_slI (bd_slI (bd_slI bd_slN)))) rfl (t_232 e (by omega) v0 v1 v2 (((nI 1) <<< (v1 &&& 31)) - (nI 1)) h _ hc)) ?_
  refine rn_if_ne rfl rfl (fun hc => ?_) (fun hc => ?_)
  · exact u_239_56 E hE (e + 1) hd R HR k21 K21 v0 v1 v2  p1.2 _ (if_t hb hc)
  · exact u_239_53 E hE (e + 1) hd R HR k21 K21 v0 v1 v2  p1.2 _ (if_f hb hc)
def b_239_26 (R : Option Nat → Int32 → Hp → Option (Hp)) (k21 : Option Nat → Int32 → Int32 → Hp → Option (Hp)) (v0 : Option Nat) (v1 : Int32) (v2 : Int32)  (h : Hp) : Option (Hp) :=
  (gQ 11 29 v0 h).bind fun x1 =>
  (aI 12 x1 v1 h).bind fun x2 =>
  (f_183 x2 v2 h).bind fun p3 =>
  if p3.1 = 0 then b_239_70 R k21 v0 v1 v2  p3.2 else b_239_39 R k21 v0 v1 v2  p3.2
theorem u_239_26 (E : Nat) (hE : 1 ≤ E) (d : Nat) (hd : E + 1 ≤ d) (R : Option Nat → Int32 → Hp → Option (Hp)) (HR : ∀ (d : Nat) (a0 : Option Nat) (a1 : Int32) (h : Hp) (r : Hp), E ≤ d → R a0 a1 h = some r → Rn d 239 0 [some (va_rf a0), some (.int a1), none] [] h (none, r)) (k21 : Option Nat → Int32 → Int32 → Hp → Option (Hp)) (K21 : ∀ (v0 : Option Nat) (v1 : Int32) (v2 : Int32) (h : Hp) (r : Hp), k21 v0 v1 v2 h = some r → Rn d 239 21 [some (va_rf v0), some (.int v1), some (.int v2)] [] h (none, r)) (v0 : Option Nat) (v1 : Int32) (v2 : Int32)  (h : Hp) (r : Hp) (hb : b_239_26 R k21 v0 v1 v2  h = some r) : Rn d 239 26 [some (va_rf v0), some (.int v1), some (.int v2)] [] h (none, r) := by
  unfold b_239_26 at hb
  obtain ⟨e, rfl⟩ : ∃ e, d = e + 1 := ⟨d - 1, by omega⟩
  refine rn_aload_n (i := 0) rfl rfl ?_
  refine rn_gQ (c := 11) (k := 29) rfl (by decide) hb (fun x1 hb => ?_)
  refine rn_iload_n (i := 1) rfl rfl ?_
  refine rn_aI rfl hb (fun x2 hb => ?_)
  refine rn_iload_n (i := 2) rfl rfl ?_
  obtain ⟨p3, hc, hb⟩ := Option.bind_eq_some_iff.mp hb
  refine Rn.call1 (d := e) (As := [.int x2, .int v2]) (rest := []) rfl rfl rfl (by decide) rfl rfl rfl rfl (by decide) (bd_lenC (n := 2) rfl (bd_slI (bd_slI bd_slN)) rfl) (bd_locC (n := 2) rfl (bd_slI (bd_slI bd_slN)) rfl (t_183 e (by omega) x2 v2 h _ hc)) ?_
  refine rn_if_eq rfl rfl (fun hc => ?_) (fun hc => ?_)
  · exact u_239_70 E hE (e + 1) hd R HR k21 K21 v0 v1 v2  p3.2 _ (if_t hb hc)
  · exact u_239_39 E hE (e + 1) hd R HR k21 K21 v0 v1 v2  p3.2 _ (if_f hb hc)
def b_239_21 (R : Option Nat → Int32 → Hp → Option (Hp)) (k21 : Option Nat → Int32 → Int32 → Hp → Option (Hp)) (v0 : Option Nat) (v1 : Int32) (v2 : Int32)  (h : Hp) : Option (Hp) :=
  if (nI 4) ≤ v2 then b_239_76 R   h else b_239_26 R k21 v0 v1 v2  h
theorem u_239_21 (E : Nat) (hE : 1 ≤ E) (d : Nat) (hd : E + 1 ≤ d) (R : Option Nat → Int32 → Hp → Option (Hp)) (HR : ∀ (d : Nat) (a0 : Option Nat) (a1 : Int32) (h : Hp) (r : Hp), E ≤ d → R a0 a1 h = some r → Rn d 239 0 [some (va_rf a0), some (.int a1), none] [] h (none, r)) (k21 : Option Nat → Int32 → Int32 → Hp → Option (Hp)) (K21 : ∀ (v0 : Option Nat) (v1 : Int32) (v2 : Int32) (h : Hp) (r : Hp), k21 v0 v1 v2 h = some r → Rn d 239 21 [some (va_rf v0), some (.int v1), some (.int v2)] [] h (none, r)) (v0 : Option Nat) (v1 : Int32) (v2 : Int32)  (h : Hp) (r : Hp) (hb : b_239_21 R k21 v0 v1 v2  h = some r) : Rn d 239 21 [some (va_rf v0), some (.int v1), some (.int v2)] [] h (none, r) := by
  unfold b_239_21 at hb
  refine rn_iload_n (i := 2) rfl rfl ?_
  refine rn_iconst (x := (nI 4)) rfl (by decide) ?_
  refine rn_icmp_ge rfl rfl (fun hc => ?_) (fun hc => ?_)
  · exact u_239_76 E hE d hd R HR v0 v1 v2  h _ (if_t hb hc)
  · exact u_239_26 E hE d hd R HR k21 K21 v0 v1 v2  h _ (if_f hb hc)
def l_239_21 (R : Option Nat → Int32 → Hp → Option (Hp)) : Nat → Option Nat → Int32 → Int32 → Hp → Option (Hp)
  | 0, _, _, _, _ => none
  | n + 1, v0, v1, v2, h => b_239_21 R (l_239_21 R n) v0 v1 v2 h
theorem w_239_21 (E : Nat) (hE : 1 ≤ E) (d : Nat) (hd : E + 1 ≤ d) (R : Option Nat → Int32 → Hp → Option (Hp)) (HR : ∀ (d : Nat) (a0 : Option Nat) (a1 : Int32) (h : Hp) (r : Hp), E ≤ d → R a0 a1 h = some r → Rn d 239 0 [some (va_rf a0), some (.int a1), none] [] h (none, r)) : ∀ (n : Nat) (v0 : Option Nat) (v1 : Int32) (v2 : Int32) (h : Hp) (r : Hp), l_239_21 R n v0 v1 v2 h = some r → Rn d 239 21 [some (va_rf v0), some (.int v1), some (.int v2)] [] h (none, r) := by
  intro n
  induction n with
  | zero => intro v0 v1 v2 h r hb; cases hb
  | succ n ih => intro v0 v1 v2 h r hb; exact u_239_21 E hE d hd R HR (l_239_21 R n) ih v0 v1 v2 h r hb
def b_239_19 (R : Option Nat → Int32 → Hp → Option (Hp)) (v0 : Option Nat) (v1 : Int32)  (h : Hp) : Option (Hp) :=
  bnd ((nI 0)) fun x1 =>
  l_239_21 R FU v0 v1 x1 h
theorem u_239_19 (E : Nat) (hE : 1 ≤ E) (d : Nat) (hd : E + 1 ≤ d) (R : Option Nat → Int32 → Hp → Option (Hp)) (HR : ∀ (d : Nat) (a0 : Option Nat) (a1 : Int32) (h : Hp) (r : Hp), E ≤ d → R a0 a1 h = some r → Rn d 239 0 [some (va_rf a0), some (.int a1), none] [] h (none, r)) (v0 : Option Nat) (v1 : Int32)  (h : Hp) (r : Hp) (hb : b_239_19 R v0 v1  h = some r) : Rn d 239 19 [some (va_rf v0), some (.int v1), none] [] h (none, r) := by
  unfold b_239_19 at hb
  refine rn_iconst (x := (nI 0)) rfl (by decide) ?_
  obtain ⟨x1, ex1, hb⟩ := bnd_spec hb
  refine rn_istore_n (i := 2) (L1 := [some (va_rf v0), some (.int v1), some (.int x1)]) rfl (Nat.le_of_ble_eq_true rfl) (Or.inr rfl) (by rw [ex1]; rfl) ?_
  exact w_239_21 E hE d hd R HR FU v0 v1 x1 h _ hb
def b_239_8 (R : Option Nat → Int32 → Hp → Option (Hp)) (v0 : Option Nat)  (h : Hp) : Option (Hp) :=
  (gI 11 33 v0 h).bind fun x1 =>
  (pI 11 33 v0 (x1 + (nI 1)) h).bind fun h2 =>
  some h2
theorem u_239_8 (E : Nat) (hE : 1 ≤ E) (d : Nat) (hd : E + 1 ≤ d) (R : Option Nat → Int32 → Hp → Option (Hp)) (HR : ∀ (d : Nat) (a0 : Option Nat) (a1 : Int32) (h : Hp) (r : Hp), E ≤ d → R a0 a1 h = some r → Rn d 239 0 [some (va_rf a0), some (.int a1), none] [] h (none, r)) (v0 : Option Nat) (v1 : Int32)  (h : Hp) (r : Hp) (hb : b_239_8 R v0  h = some r) : Rn d 239 8 [some (va_rf v0), some (.int v1), none] [] h (none, r) := by
  unfold b_239_8 at hb
  refine rn_aload_n (i := 0) rfl rfl ?_
  refine rn_dup rfl (bd_cat_rf _) ?_
  refine rn_gI (c := 11) (k := 33) rfl (by decide) hb (fun x1 hb => ?_)
  refine rn_iconst (x := (nI 1)) rfl (by decide) ?_
  refine rn_iadd rfl ?_
  refine rn_pI (c := 11) (k := 33) rfl (by decide) hb (fun h2 hb => ?_)
  obtain rfl := Option.some.inj hb
  exact rn_vret rfl rfl
def b_239_0 (R : Option Nat → Int32 → Hp → Option (Hp)) (v0 : Option Nat) (v1 : Int32)  (h : Hp) : Option (Hp) :=
  (grd (rC 11 v0 h)).bind fun _ =>
  (f_203 v0 h).bind fun p1 =>
  if ¬ v1 = p1.1 then b_239_19 R v0 v1  p1.2 else b_239_8 R v0  p1.2
theorem u_239_0 (E : Nat) (hE : 1 ≤ E) (d : Nat) (hd : E + 1 ≤ d) (R : Option Nat → Int32 → Hp → Option (Hp)) (HR : ∀ (d : Nat) (a0 : Option Nat) (a1 : Int32) (h : Hp) (r : Hp), E ≤ d → R a0 a1 h = some r → Rn d 239 0 [some (va_rf a0), some (.int a1), none] [] h (none, r)) (v0 : Option Nat) (v1 : Int32)  (h : Hp) (r : Hp) (hb : b_239_0 R v0 v1  h = some r) : Rn d 239 0 [some (va_rf v0), some (.int v1), none] [] h (none, r) := by
  unfold b_239_0 at hb
  obtain ⟨e, rfl⟩ : ∃ e, d = e + 1 := ⟨d - 1, by omega⟩
  refine rn_iload_n (i := 1) rfl rfl ?_
  refine rn_aload_n (i := 0) rfl rfl ?_
  obtain ⟨hrc, hb⟩ := grd_spec hb
  obtain ⟨p1, hc, hb⟩ := Option.bind_eq_some_iff.mp hb
  refine Rn.call1 (d := e) (As := [va_rf v0]) (rest := [.int v1]) rfl rfl rfl (by decide) rfl rfl rfl (bd_rcV hrc rfl) (by rw [bd_cI (bd_cN)]; decide) (bd_lenC (n := 1) rfl (bd_slR bd_slN) rfl) (bd_locC (n := 1) rfl (bd_slR bd_slN) rfl (t_203 e (by omega) v0 h _ hc)) ?_
  refine rn_icmp_ne rfl rfl (fun hc => ?_) (fun hc => ?_)
  · exact u_239_19 E hE (e + 1) hd R HR v0 v1  p1.2 _ (if_t hb hc)
  · exact u_239_8 E hE (e + 1) hd R HR v0 v1  p1.2 _ (if_f hb hc)
/-- BitingDoorsModel.countWays(I)V -/
def F_239 (R : Option Nat → Int32 → Hp → Option (Hp)) (v0 : Option Nat) (v1 : Int32) (h : Hp) : Option (Hp) := b_239_0 R v0 v1 h
theorem t0_239 (E : Nat) (hE : 1 ≤ E) (d : Nat) (hd : E + 1 ≤ d) (R : Option Nat → Int32 → Hp → Option (Hp)) (HR : ∀ (d : Nat) (a0 : Option Nat) (a1 : Int32) (h : Hp) (r : Hp), E ≤ d → R a0 a1 h = some r → Rn d 239 0 [some (va_rf a0), some (.int a1), none] [] h (none, r)) (v0 : Option Nat) (v1 : Int32) (h : Hp) (r : Hp) (hb : F_239 R v0 v1 h = some r) : Rn d 239 0 [some (va_rf v0), some (.int v1), none] [] h (none, r) := by
  unfold F_239 at hb
  exact u_239_0 E hE d hd R HR v0 v1 h r hb
def f_239 : Nat → Option Nat → Int32 → Hp → Option (Hp)
  | 0, _, _, _ => none
  | n + 1, v0, v1, h => F_239 (f_239 n) v0 v1 h
theorem t_239 : ∀ (n d : Nat), 1 * n + 1 ≤ d → ∀ (v0 : Option Nat) (v1 : Int32) (h : Hp) (r : Hp), f_239 n v0 v1 h = some r → Rn d 239 0 [some (va_rf v0), some (.int v1), none] [] h (none, r) := by
  intro n
  induction n with
  | zero => intro d hd v0 v1 h r hb; cases hb
  | succ n ih => intro d hd v0 v1 h r hb; exact t0_239 (1 * n + 1) (by omega) d (by omega) (f_239 n) (fun d v0 v1 h r hd hb => ih d hd v0 v1 h r hb) v0 v1 h r hb
def b_240_0 (v0 : Option Nat)  (h : Hp) : Option (Int32 × Hp) :=
  (pI 11 0 v0 (nI 0) h).bind fun h1 =>
  (grd (rC 11 v0 h1)).bind fun _ =>
  (f_225 v0 h1).bind fun p2 =>
  (pI 11 33 v0 (nI 0) p2).bind fun h3 =>
  (grd (rC 11 v0 h3)).bind fun _ =>
  (f_239 RF v0 (nI 0) h3).bind fun p4 =>
  (gI 11 33 v0 p4).bind fun x5 =>
  some (x5, p4)
theorem u_240_0 (d : Nat) (hd : 68 ≤ d) (v0 : Option Nat)  (h : Hp) (r : Int32 × Hp) (hb : b_240_0 v0  h = some r) : Rn d 240 0 [some (va_rf v0)] [] h (some (.int r.1), r.2) := by
  unfold b_240_0 at hb
  obtain ⟨e, rfl⟩ : ∃ e, d = e + 1 := ⟨d - 1, by omega⟩
  refine rn_aload_n (i := 0) rfl rfl ?_
  refine rn_iconst (x := (nI 0)) rfl (by decide) ?_
  refine rn_pI (c := 11) (k := 0) rfl (by decide) hb (fun h1 hb => ?_)
  refine rn_aload_n (i := 0) rfl rfl ?_
  obtain ⟨hrc, hb⟩ := grd_spec hb
  obtain ⟨p2, hc, hb⟩ := Option.bind_eq_some_iff.mp hb
  refine Rn.call0 (d := e) (As := [va_rf v0]) (rest := []) rfl rfl rfl (by decide) rfl rfl rfl (bd_rcV hrc rfl) (by decide) (bd_lenC (n := 7) rfl (bd_slR bd_slN) rfl) (bd_locC (n := 7) rfl (bd_slR bd_slN) rfl (t_225 e (by omega) v0 h1 _ hc)) ?_
  refine rn_aload_n (i := 0) rfl rfl ?_
  refine rn_iconst (x := (nI 0)) rfl (by decide) ?_
  refine rn_pI (c := 11) (k := 33) rfl (by decide) hb (fun h3 hb => ?_)
  refine rn_aload_n (i := 0) rfl rfl ?_
  refine rn_iconst (x := (nI 0)) rfl (by decide) ?_
  obtain ⟨hrc, hb⟩ := grd_spec hb
  obtain ⟨p4, hc, hb⟩ := Option.bind_eq_some_iff.mp hb
  refine Rn.call0 (d := e) (As := [va_rf v0, .int (nI 0)]) (rest := []) rfl rfl rfl (by decide) rfl rfl rfl (bd_rcV hrc rfl) (by decide) (bd_lenC (n := 3) rfl (bd_slR (bd_slI bd_slN)) rfl) (bd_locC (n := 3) rfl (bd_slR (bd_slI bd_slN)) rfl (t_239 RF e (by show 1 * 64 + 1 ≤ _; omega) v0 (nI 0) h3 _ hc)) ?_
  refine rn_aload_n (i := 0) rfl rfl ?_
  refine rn_gI (c := 11) (k := 33) rfl (by decide) hb (fun x5 hb => ?_)
  obtain rfl := Option.some.inj hb
  exact rn_iret rfl rfl
/-- BitingDoorsModel.ways()I -/
def f_240 (v0 : Option Nat) (h : Hp) : Option (Int32 × Hp) := b_240_0 v0 h
theorem t_240 (d : Nat) (hd : 68 ≤ d) (v0 : Option Nat) (h : Hp) (r : Int32 × Hp) (hb : f_240 v0 h = some r) : Rn d 240 0 [some (va_rf v0)] [] h (some (.int r.1), r.2) := by
  unfold f_240 at hb
  exact u_240_0 d hd v0 h r hb
def b_241_77   (h : Hp) : Option (Hp) :=
  some h
theorem u_241_77 (d : Nat) (hd : 1 ≤ d) (v0 : Option Nat) (v1 : Int32) (v2 : Int32) (v3 : Int32) (v4 : Int32) (v5 : Option (Int32))  (h : Hp) (r : Hp) (hb : b_241_77   h = some r) : Rn d 241 77 [some (va_rf v0), some (.int v1), some (.int v2), some (.int v3), some (.int v4), v5.map Value.int] [] h (none, r) := by
  unfold b_241_77 at hb
  obtain rfl := Option.some.inj hb
  exact rn_vret rfl rfl
def b_241_71 (k3 : Option Nat → Int32 → Int32 → Int32 → Int32 → Hp → Option (Hp)) (v0 : Option Nat) (v1 : Int32) (v2 : Int32) (v3 : Int32) (v4 : Int32)  (h : Hp) : Option (Hp) :=
  bnd (v4 + (nI 1)) fun x1 =>
  k3 v0 v1 v2 v3 x1 h
theorem u_241_71 (d : Nat) (hd : 1 ≤ d) (k3 : Option Nat → Int32 → Int32 → Int32 → Int32 → Hp → Option (Hp)) (K3 : ∀ (v0 : Option Nat) (v1 : Int32) (v2 : Int32) (v3 : Int32) (v4 : Int32) (v5 : Option (Int32)) (h : Hp) (r : Hp), k3 v0 v1 v2 v3 v4 h = some r → Rn d 241 3 [some (va_rf v0), some (.int v1), some (.int v2), some (.int v3), some (.int v4), v5.map Value.int] [] h (none, r)) (v0 : Option Nat) (v1 : Int32) (v2 : Int32) (v3 : Int32) (v4 : Int32) (v5 : Option (Int32))  (h : Hp) (r : Hp) (hb : b_241_71 k3 v0 v1 v2 v3 v4  h = some r) : Rn d 241 71 [some (va_rf v0), some (.int v1), some (.int v2), some (.int v3), some (.int v4), v5.map Value.int] [] h (none, r) := by
  unfold b_241_71 at hb
  obtain ⟨x1, ex1, hb⟩ := bnd_spec hb
  refine rn_iinc (i := 4) (y := x1) (L1 := [some (va_rf v0), some (.int v1), some (.int v2), some (.int v3), some (.int x1), v5.map Value.int]) rfl rfl (Nat.le_of_ble_eq_true rfl) (Or.inr rfl) (by rw [ex1]; rfl) rfl ?_
  refine rn_goto rfl rfl ?_
  exact K3 v0 v1 v2 v3 x1 v5 h _ hb
def b_241_65 (k3 : Option Nat → Int32 → Int32 → Int32 → Int32 → Hp → Option (Hp)) (k30 : Option Nat → Int32 → Int32 → Int32 → Int32 → Int32 → Hp → Option (Hp)) (v0 : Option Nat) (v1 : Int32) (v2 : Int32) (v3 : Int32) (v4 : Int32) (v5 : Int32)  (h : Hp) : Option (Hp) :=
  bnd (v5 + (nI 1)) fun x1 =>
  k30 v0 v1 v2 v3 v4 x1 h
theorem u_241_65 (d : Nat) (hd : 1 ≤ d) (k3 : Option Nat → Int32 → Int32 → Int32 → Int32 → Hp → Option (Hp)) (K3 : ∀ (v0 : Option Nat) (v1 : Int32) (v2 : Int32) (v3 : Int32) (v4 : Int32) (v5 : Option (Int32)) (h : Hp) (r : Hp), k3 v0 v1 v2 v3 v4 h = some r → Rn d 241 3 [some (va_rf v0), some (.int v1), some (.int v2), some (.int v3), some (.int v4), v5.map Value.int] [] h (none, r)) (k30 : Option Nat → Int32 → Int32 → Int32 → Int32 → Int32 → Hp → Option (Hp)) (K30 : ∀ (v0 : Option Nat) (v1 : Int32) (v2 : Int32) (v3 : Int32) (v4 : Int32) (v5 : Int32) (h : Hp) (r : Hp), k30 v0 v1 v2 v3 v4 v5 h = some r → Rn d 241 30 [some (va_rf v0), some (.int v1), some (.int v2), some (.int v3), some (.int v4), some (.int v5)] [] h (none, r)) (v0 : Option Nat) (v1 : Int32) (v2 : Int32) (v3 : Int32) (v4 : Int32) (v5 : Int32)  (h : Hp) (r : Hp) (hb : b_241_65 k3 k30 v0 v1 v2 v3 v4 v5  h = some r) : Rn d 241 65 [some (va_rf v0), some (.int v1), some (.int v2), some (.int v3), some (.int v4), some (.int v5)] [] h (none, r) := by
  unfold b_241_65 at hb
  obtain ⟨x1, ex1, hb⟩ := bnd_spec hb
  refine rn_iinc (i := 5) (y := x1) (L1 := [some (va_rf v0), some (.int v1), some (.int v2), some (.int v3), some (.int v4), some (.int x1)]) rfl rfl (Nat.le_of_ble_eq_true rfl) (Or.inr rfl) (by rw [ex1]; rfl) rfl ?_
  refine rn_goto rfl rfl ?_
  exact K30 v0 v1 v2 v3 v4 x1 h _ hb
def b_241_49 (k3 : Option Nat → Int32 → Int32 → Int32 → Int32 → Hp → Option (Hp)) (k30 : Option Nat → Int32 → Int32 → Int32 → Int32 → Int32 → Hp → Option (Hp)) (v0 : Option Nat) (v1 : Int32) (v2 : Int32) (v3 : Int32) (v4 : Int32) (v5 : Int32)  (h : Hp) : Option (Hp) :=
  (gQ 11 34 v0 h).bind fun x1 =>
  (aI 12 x1 v4 h).bind fun x2 =>
  (wI x1 v4 (x2 &&& (((nI 1) <<< (v5 &&& 31)) ^^^ (-1 : Int32))) h).bind fun h3 =>
  b_241_65 k3 k30 v0 v1 v2 v3 v4 v5  h3
theorem u_241_49 (d : Nat) (hd : 1 ≤ d) (k3 : Option Nat → Int32 → Int32 → Int32 → Int32 → Hp → Option (Hp)) (K3 : ∀ (v0 : Option Nat) (v1 : Int32) (v2 : Int32) (v3 : Int32) (v4 : Int32) (v5 : Option (Int32)) (h : Hp) (r : Hp), k3 v0 v1 v2 v3 v4 h = some r → Rn d 241 3 [some (va_rf v0), some (.int v1), some (.int v2), some (.int v3), some (.int v4), v5.map Value.int] [] h (none, r)) (k30 : Option Nat → Int32 → Int32 → Int32 → Int32 → Int32 → Hp → Option (Hp)) (K30 : ∀ (v0 : Option Nat) (v1 : Int32) (v2 : Int32) (v3 : Int32) (v4 : Int32) (v5 : Int32) (h : Hp) (r : Hp), k30 v0 v1 v2 v3 v4 v5 h = some r → Rn d 241 30 [some (va_rf v0), some (.int v1), some (.int v2), some (.int v3), some (.int v4), some (.int v5)] [] h (none, r)) (v0 : Option Nat) (v1 : Int32) (v2 : Int32) (v3 : Int32) (v4 : Int32) (v5 : Int32)  (h : Hp) (r : Hp) (hb : b_241_49 k3 k30 v0 v1 v2 v3 v4 v5  h = some r) : Rn d 241 49 [some (va_rf v0), some (.int v1), some (.int v2), some (.int v3), some (.int v4), some (.int v5)] [] h (none, r) := by
  unfold b_241_49 at hb
  refine rn_aload_n (i := 0) rfl rfl ?_
  refine rn_gQ (c := 11) (k := 34) rfl (by decide) hb (fun x1 hb => ?_)
  refine rn_iload (i := 4) rfl rfl ?_
  refine rn_dup2 rfl rfl (bd_cat_rf _) ?_
  refine rn_aI rfl hb (fun x2 hb => ?_)
  refine rn_iconst (x := (nI 1)) rfl (by decide) ?_
  refine rn_iload (i := 5) rfl rfl ?_
  refine rn_ishl rfl ?_
  refine rn_iconst (x := (-1 : Int32)) rfl (by decide) ?_
  refine rn_ixor rfl ?_
  refine rn_iand rfl ?_
  refine rn_wI rfl hb (fun h3 hb => ?_)
  exact u_241_65 d hd k3 K3 k30 K30 v0 v1 v2 v3 v4 v5  h3 _ hb
def b_241_36 (k3 : Option Nat → Int32 → Int32 → Int32 → Int32 → Hp → Option (Hp)) (k30 : Option Nat → Int32 → Int32 → Int32 → Int32 → Int32 → Hp → Option (Hp)) (v0 : Option Nat) (v1 : Int32) (v2 : Int32) (v3 : Int32) (v4 : Int32) (v5 : Int32)  (h : Hp) : Option (Hp) :=
  (grd (rC 11 v0 h)).bind fun _ =>
  (f_227 v0 v1 v2 v4 v5 h).bind fun p1 =>
  if p1.1 = 0 then b_241_65 k3 k30 v0 v1 v2 v3 v4 v5  p1.2 else b_241_49 k3 k30 v0 v1 v2 v3 v4 v5  p1.2
theorem u_241_36 (d : Nat) (hd : 1 ≤ d) (k3 : Option Nat → Int32 → Int32 → Int32 → Int32 → Hp → Option (Hp)) (K3 : ∀ (v0 : Option Nat) (v1 : Int32) (v2 : Int32) (v3 : Int32) (v4 : Int32) (v5 : Option (Int32)) (h : Hp) (r : Hp), k3 v0 v1 v2 v3 v4 h = some r → Rn d 241 3 [some (va_rf v0), some (.int v1), some (.int v2), some (.int v3), some (.int v4), v5.map Value.int] [] h (none, r)) (k30 : Option Nat → Int32 → Int32 → Int32 → Int32 → Int32 → Hp → Option (Hp)) (K30 : ∀ (v0 : Option Nat) (v1 : Int32) (v2 : Int32) (v3 : Int32) (v4 : Int32) (v5 : Int32) (h : Hp) (r : Hp), k30 v0 v1 v2 v3 v4 v5 h = some r → Rn d 241 30 [some (va_rf v0), some (.int v1), some (.int v2), some (.int v3), some (.int v4), some (.int v5)] [] h (none, r)) (v0 : Option Nat) (v1 : Int32) (v2 : Int32) (v3 : Int32) (v4 : Int32) (v5 : Int32)  (h : Hp) (r : Hp) (hb : b_241_36 k3 k30 v0 v1 v2 v3 v4 v5  h = some r) : Rn d 241 36 [some (va_rf v0), some (.int v1), some (.int v2), some (.int v3), some (.int v4), some (.int v5)] [] h (none, r) := by
  unfold b_241_36 at hb
  obtain ⟨e, rfl⟩ : ∃ e, d = e + 1 := ⟨d - 1, by omega⟩
  refine rn_aload_n (i := 0) rfl rfl ?_
  refine rn_iload_n (i := 1) rfl rfl ?_
  refine rn_iload_n (i := 2) rfl rfl ?_
  refine rn_iload (i := 4) rfl rfl ?_
  refine rn_iload (i := 5) rfl rfl ?_
  obtain ⟨hrc, hb⟩ := grd_spec hb
  obtain ⟨p1, hc, hb⟩ := Option.bind_eq_some_iff.mp hb
  refine Rn.call1 (d := e) (As := [va_rf v0, .int v1, .int v2, .int v4, .int v5]) (rest := []) rfl rfl rfl (by decide) rfl rfl rfl (bd_rcV hrc rfl) (by decide) (bd_lenC (n := 5) rfl (bd_slR (bd_slI (bd_slI (bd_slI (bd_slI bd_slN))))) rfl) (bd_locC (n := 5) rfl (bd_slR (bd_slI (bd_slI (bd_slI (bd_slI bd_slN))))) rfl (t_227 e (by omega) v0 v1 v2 v4 v5 h _ hc)) ?_
  refine rn_if_eq rfl rfl (fun hc => ?_) (fun hc => ?_)
  · exact u_241_65 (e + 1) hd k3 K3 k30 K30 v0 v1 v2 v3 v4 v5  p1.2 _ (if_t hb hc)
  · exact u_241_49 (e + 1) hd k3 K3 k30 K30 v0 v1 v2 v3 v4 v5  p1.2 _ (if_f hb hc)
def b_241_30 (k3 : Option Nat → Int32 → Int32 → Int32 → Int32 → Hp → Option (Hp)) (k30 : Option Nat → Int32 → Int32 → Int32 → Int32 → Int32 → Hp → Option (Hp)) (v0 : Option Nat) (v1 : Int32) (v2 : Int32) (v3 : Int32) (v4 : Int32) (v5 : Int32)  (h : Hp) : Option (Hp) :=
  if (nI 4) ≤ v5 then b_241_71 k3 v0 v1 v2 v3 v4  h else b_241_36 k3 k30 v0 v1 v2 v3 v4 v5  h
theorem u_241_30 (d : Nat) (hd : 1 ≤ d) (k3 : Option Nat → Int32 → Int32 → Int32 → Int32 → Hp → Option (Hp)) (K3 : ∀ (v0 : Option Nat) (v1 : Int32) (v2 : Int32) (v3 : Int32) (v4 : Int32) (v5 : Option (Int32)) (h : Hp) (r : Hp), k3 v0 v1 v2 v3 v4 h = some r → Rn d 241 3 [some (va_rf v0), some (.int v1), some (.int v2), some (.int v3), some (.int v4), v5.map Value.int] [] h (none, r)) (k30 : Option Nat → Int32 → Int32 → Int32 → Int32 → Int32 → Hp → Option (Hp)) (K30 : ∀ (v0 : Option Nat) (v1 : Int32) (v2 : Int32) (v3 : Int32) (v4 : Int32) (v5 : Int32) (h : Hp) (r : Hp), k30 v0 v1 v2 v3 v4 v5 h = some r → Rn d 241 30 [some (va_rf v0), some (.int v1), some (.int v2), some (.int v3), some (.int v4), some (.int v5)] [] h (none, r)) (v0 : Option Nat) (v1 : Int32) (v2 : Int32) (v3 : Int32) (v4 : Int32) (v5 : Int32)  (h : Hp) (r : Hp) (hb : b_241_30 k3 k30 v0 v1 v2 v3 v4 v5  h = some r) : Rn d 241 30 [some (va_rf v0), some (.int v1), some (.int v2), some (.int v3), some (.int v4), some (.int v5)] [] h (none, r) := by
  unfold b_241_30 at hb
  refine rn_iload (i := 5) rfl rfl ?_
  refine rn_iconst (x := (nI 4)) rfl (by decide) ?_
  refine rn_icmp_ge rfl rfl (fun hc => ?_) (fun hc => ?_)
  · exact u_241_71 d hd k3 K3 v0 v1 v2 v3 v4 (some v5)  h _ (if_t hb hc)
  · exact u_241_36 d hd k3 K3 k30 K30 v0 v1 v2 v3 v4 v5  h _ (if_f hb hc)
def l_241_30 (k3 : Option Nat → Int32 → Int32 → Int32 → Int32 → Hp → Option (Hp)) : Nat → Option Nat → Int32 → Int32 → Int32 → Int32 → Int32 → Hp → Option (Hp)
  | 0, _, _, _, _, _, _, _ => none
  | n + 1, v0, v1, v2, v3, v4, v5, h => b_241_30 k3 (l_241_30 k3 n) v0 v1 v2 v3 v4 v5 h
theorem w_241_30 (d : Nat) (hd : 1 ≤ d) (k3 : Option Nat → Int32 → Int32 → Int32 → Int32 → Hp → Option (Hp)) (K3 : ∀ (v0 : Option Nat) (v1 : Int32) (v2 : Int32) (v3 : Int32) (v4 : Int32) (v5 : Option (Int32)) (h : Hp) (r : Hp), k3 v0 v1 v2 v3 v4 h = some r → Rn d 241 3 [some (va_rf v0), some (.int v1), some (.int v2), some (.int v3), some (.int v4), v5.map Value.int] [] h (none, r)) : ∀ (n : Nat) (v0 : Option Nat) (v1 : Int32) (v2 : Int32) (v3 : Int32) (v4 : Int32) (v5 : Int32) (h : Hp) (r : Hp), l_241_30 k3 n v0 v1 v2 v3 v4 v5 h = some r → Rn d 241 30 [some (va_rf v0), some (.int v1), some (.int v2), some (.int v3), some (.int v4), some (.int v5)] [] h (none, r) := by
  intro n
  induction n with
  | zero => intro v0 v1 v2 v3 v4 v5 h r hb; cases hb
  | succ n ih => intro v0 v1 v2 v3 v4 v5 h r hb; exact u_241_30 d hd k3 K3 (l_241_30 k3 n) ih v0 v1 v2 v3 v4 v5 h r hb
def b_241_27 (k3 : Option Nat → Int32 → Int32 → Int32 → Int32 → Hp → Option (Hp)) (v0 : Option Nat) (v1 : Int32) (v2 : Int32) (v3 : Int32) (v4 : Int32)  (h : Hp) : Option (Hp) :=
  bnd ((nI 0)) fun x1 =>
  l_241_30 k3 FU v0 v1 v2 v3 v4 x1 h
theorem u_241_27 (d : Nat) (hd : 1 ≤ d) (k3 : Option Nat → Int32 → Int32 → Int32 → Int32 → Hp → Option (Hp)) (K3 : ∀ (v0 : Option Nat) (v1 : Int32) (v2 : Int32) (v3 : Int32) (v4 : Int32) (v5 : Option (Int32)) (h : Hp) (r : Hp), k3 v0 v1 v2 v3 v4 h = some r → Rn d 241 3 [some (va_rf v0), some (.int v1), some (.int v2), some (.int v3), some (.int v4), v5.map Value.int] [] h (none, r)) (v0 : Option Nat) (v1 : Int32) (v2 : Int32) (v3 : Int32) (v4 : Int32) (v5 : Option (Int32))  (h : Hp) (r : Hp) (hb : b_241_27 k3 v0 v1 v2 v3 v4  h = some r) : Rn d 241 27 [some (va_rf v0), some (.int v1), some (.int v2), some (.int v3), some (.int v4), v5.map Value.int] [] h (none, r) := by
  unfold b_241_27 at hb
  refine rn_iconst (x := (nI 0)) rfl (by decide) ?_
  obtain ⟨x1, ex1, hb⟩ := bnd_spec hb
  refine rn_istore (i := 5) (L1 := [some (va_rf v0), some (.int v1), some (.int v2), some (.int v3), some (.int v4), some (.int x1)]) rfl (Nat.le_of_ble_eq_true rfl) (Or.inr rfl) (by rw [ex1]; rfl) ?_
  exact w_241_30 d hd k3 K3 FU v0 v1 v2 v3 v4 x1 h _ hb
def b_241_24 (k3 : Option Nat → Int32 → Int32 → Int32 → Int32 → Hp → Option (Hp)) (v0 : Option Nat) (v1 : Int32) (v2 : Int32) (v3 : Int32) (v4 : Int32)  (h : Hp) : Option (Hp) :=
  b_241_71 k3 v0 v1 v2 v3 v4  h
theorem u_241_24 (d : Nat) (hd : 1 ≤ d) (k3 : Option Nat → Int32 → Int32 → Int32 → Int32 → Hp → Option (Hp)) (K3 : ∀ (v0 : Option Nat) (v1 : Int32) (v2 : Int32) (v3 : Int32) (v4 : Int32) (v5 : Option (Int32)) (h : Hp) (r : Hp), k3 v0 v1 v2 v3 v4 h = some r → Rn d 241 3 [some (va_rf v0), some (.int v1), some (.int v2), some (.int v3), some (.int v4), v5.map Value.int] [] h (none, r)) (v0 : Option Nat) (v1 : Int32) (v2 : Int32) (v3 : Int32) (v4 : Int32) (v5 : Option (Int32))  (h : Hp) (r : Hp) (hb : b_241_24 k3 v0 v1 v2 v3 v4  h = some r) : Rn d 241 24 [some (va_rf v0), some (.int v1), some (.int v2), some (.int v3), some (.int v4), v5.map Value.int] [] h (none, r) := by
  unfold b_241_24 at hb
  refine rn_goto rfl rfl ?_
  exact u_241_71 d hd k3 K3 v0 v1 v2 v3 v4 v5  h _ hb
def b_241_18 (k3 : Option Nat → Int32 → Int32 → Int32 → Int32 → Hp → Option (Hp)) (v0 : Option Nat) (v1 : Int32) (v2 : Int32) (v3 : Int32) (v4 : Int32)  (h : Hp) : Option (Hp) :=
  if ¬ v4 = v3 then b_241_27 k3 v0 v1 v2 v3 v4  h else b_241_24 k3 v0 v1 v2 v3 v4  h
theorem u_241_18 (d : Nat) (hd : 1 ≤ d) (k3 : Option Nat → Int32 → Int32 → Int32 → Int32 → Hp → Option (Hp)) (K3 : ∀ (v0 : Option Nat) (v1 : Int32) (v2 : Int32) (v3 : Int32) (v4 : Int32) (v5 : Option (Int32)) (h : Hp) (r : Hp), k3 v0 v1 v2 v3 v4 h = some r → Rn d 241 3 [some (va_rf v0), some (.int v1), some (.int v2), some (.int v3), some (.int v4), v5.map Value.int] [] h (none, r)) (v0 : Option Nat) (v1 : Int32) (v2 : Int32) (v3 : Int32) (v4 : Int32) (v5 : Option (Int32))  (h : Hp) (r : Hp) (hb : b_241_18 k3 v0 v1 v2 v3 v4  h = some r) : Rn d 241 18 [some (va_rf v0), some (.int v1), some (.int v2), some (.int v3), some (.int v4), v5.map Value.int] [] h (none, r) := by
  unfold b_241_18 at hb
  refine rn_iload (i := 4) rfl rfl ?_
  refine rn_iload_n (i := 3) rfl rfl ?_
  refine rn_icmp_ne rfl rfl (fun hc => ?_) (fun hc => ?_)
  · exact u_241_27 d hd k3 K3 v0 v1 v2 v3 v4 v5  h _ (if_t hb hc)
  · exact u_241_24 d hd k3 K3 v0 v1 v2 v3 v4 v5  h _ (if_f hb hc)
def b_241_12 (k3 : Option Nat → Int32 → Int32 → Int32 → Int32 → Hp → Option (Hp)) (v0 : Option Nat) (v1 : Int32) (v2 : Int32) (v3 : Int32) (v4 : Int32)  (h : Hp) : Option (Hp) :=
  if v4 = v1 then b_241_71 k3 v0 v1 v2 v3 v4  h else b_241_18 k3 v0 v1 v2 v3 v4  h
theorem u_241_12 (d : Nat) (hd : 1 ≤ d) (k3 : Option Nat → Int32 → Int32 → Int32 → Int32 → Hp → Option (Hp)) (K3 : ∀ (v0 : Option Nat) (v1 : Int32) (v2 : Int32) (v3 : Int32) (v4 : Int32) (v5 : Option (Int32)) (h : Hp) (r : Hp), k3 v0 v1 v2 v3 v4 h = some r → Rn d 241 3 [some (va_rf v0), some (.int v1), some (.int v2), some (.int v3), some (.int v4), v5.map Value.int] [] h (none, r)) (v0 : Option Nat) (v1 : Int32) (v2 : Int32) (v3 : Int32) (v4 : Int32) (v5 : Option (Int32))  (h : Hp) (r : Hp) (hb : b_241_12 k3 v0 v1 v2 v3 v4  h = some r) : Rn d 241 12 [some (va_rf v0), some (.int v1), some (.int v2), some (.int v3), some (.int v4), v5.map Value.int] [] h (none, r) := by
  unfold b_241_12 at hb
  refine rn_iload (i := 4) rfl rfl ?_
  refine rn_iload_n (i := 1) rfl rfl ?_
  refine rn_icmp_eq rfl rfl (fun hc => ?_) (fun hc => ?_)
  · exact u_241_71 d hd k3 K3 v0 v1 v2 v3 v4 v5  h _ (if_t hb hc)
  · exact u_241_18 d hd k3 K3 v0 v1 v2 v3 v4 v5  h _ (if_f hb hc)
def b_241_3 (k3 : Option Nat → Int32 → Int32 → Int32 → Int32 → Hp → Option (Hp)) (v0 : Option Nat) (v1 : Int32) (v2 : Int32) (v3 : Int32) (v4 : Int32)  (h : Hp) : Option (Hp) :=
  (grd (rC 11 v0 h)).bind fun _ =>
  (f_203 v0 h).bind fun p1 =>
  if p1.1 ≤ v4 then b_241_77   p1.2 else b_241_12 k3 v0 v1 v2 v3 v4  p1.2
theorem u_241_3 (d : Nat) (hd : 1 ≤ d) (k3 : Option Nat → Int32 → Int32 → Int32 → Int32 → Hp → Option (Hp)) (K3 : ∀ (v0 : Option Nat) (v1 : Int32) (v2 : Int32) (v3 : Int32) (v4 : Int32) (v5 : Option (Int32)) (h : Hp) (r : Hp), k3 v0 v1 v2 v3 v4 h = some r → Rn d 241 3 [some (va_rf v0), some (.int v1), some (.int v2), some (.int v3), some (.int v4), v5.map Value.int] [] h (none, r)) (v0 : Option Nat) (v1 : Int32) (v2 : Int32) (v3 : Int32) (v4 : Int32) (v5 : Option (Int32))  (h : Hp) (r : Hp) (hb : b_241_3 k3 v0 v1 v2 v3 v4  h = some r) : Rn d 241 3 [some (va_rf v0), some (.int v1), some (.int v2), some (.int v3), some (.int v4), v5.map Value.int] [] h (none, r) := by
  unfold b_241_3 at hb
  obtain ⟨e, rfl⟩ : ∃ e, d = e + 1 := ⟨d - 1, by omega⟩
  refine rn_iload (i := 4) rfl rfl ?_
  refine rn_aload_n (i := 0) rfl rfl ?_
  obtain ⟨hrc, hb⟩ := grd_spec hb
  obtain ⟨p1, hc, hb⟩ := Option.bind_eq_some_iff.mp hb
  refine Rn.call1 (d := e) (As := [va_rf v0]) (rest := [.int v4]) rfl rfl rfl (by decide) rfl rfl rfl (bd_rcV hrc rfl) (by rw [bd_cI (bd_cN)]; decide) (bd_lenC (n := 1) rfl (bd_slR bd_slN) rfl) (bd_locC (n := 1) rfl (bd_slR bd_slN) rfl (t_203 e (by omega) v0 h _ hc)) ?_
  refine rn_icmp_ge rfl rfl (fun hc => ?_) (fun hc => ?_)
  · exact u_241_77 (e + 1) hd v0 v1 v2 v3 v4 v5  p1.2 _ (if_t hb hc)
  · exact u_241_12 (e + 1) hd k3 K3 v0 v1 v2 v3 v4 v5  p1.2 _ (if_f hb hc)
def l_241_3 : Nat → Option Nat → Int32 → Int32 → Int32 → Int32 → Hp → Option (Hp)
  | 0, _, _, _, _, _, _ => none
  | n + 1, v0, v1, v2, v3, v4, h => b_241_3 (l_241_3 n) v0 v1 v2 v3 v4 h
theorem w_241_3 (d : Nat) (hd : 1 ≤ d) : ∀ (n : Nat) (v0 : Option Nat) (v1 : Int32) (v2 : Int32) (v3 : Int32) (v4 : Int32) (v5 : Option (Int32)) (h : Hp) (r : Hp), l_241_3 n v0 v1 v2 v3 v4 h = some r → Rn d 241 3 [some (va_rf v0), some (.int v1), some (.int v2), some (.int v3), some (.int v4), v5.map Value.int] [] h (none, r) := by
  intro n
  induction n with
  | zero => intro v0 v1 v2 v3 v4 v5 h r hb; cases hb
  | succ n ih => intro v0 v1 v2 v3 v4 v5 h r hb; exact u_241_3 d hd (l_241_3 n) ih v0 v1 v2 v3 v4 v5 h r hb
def b_241_0 (v0 : Option Nat) (v1 : Int32) (v2 : Int32) (v3 : Int32)  (h : Hp) : Option (Hp) :=
  bnd ((nI 0)) fun x1 =>
  l_241_3 FU v0 v1 v2 v3 x1 h
theorem u_241_0 (d : Nat) (hd : 1 ≤ d) (v0 : Option Nat) (v1 : Int32) (v2 : Int32) (v3 : Int32)  (h : Hp) (r : Hp) (hb : b_241_0 v0 v1 v2 v3  h = some r) : Rn d 241 0 [some (va_rf v0), some (.int v1), some (.int v2), some (.int v3), none, none] [] h (none, r) := by
  unfold b_241_0 at hb
  refine rn_iconst (x := (nI 0)) rfl (by decide) ?_
  obtain ⟨x1, ex1, hb⟩ := bnd_spec hb
  refine rn_istore (i := 4) (L1 := [some (va_rf v0), some (.int v1), some (.int v2), some (.int v3), some (.int x1), none]) rfl (Nat.le_of_ble_eq_true rfl) (Or.inr rfl) (by rw [ex1]; rfl) ?_
  exact w_241_3 d hd FU v0 v1 v2 v3 x1 (none : Option (Int32)) h _ hb
/-- BitingDoorsModel.drop(III)V -/
def f_241 (v0 : Option Nat) (v1 : Int32) (v2 : Int32) (v3 : Int32) (h : Hp) : Option (Hp) := b_241_0 v0 v1 v2 v3 h
theorem t_241 (d : Nat) (hd : 1 ≤ d) (v0 : Option Nat) (v1 : Int32) (v2 : Int32) (v3 : Int32) (h : Hp) (r : Hp) (hb : f_241 v0 v1 v2 v3 h = some r) : Rn d 241 0 [some (va_rf v0), some (.int v1), some (.int v2), some (.int v3), none, none] [] h (none, r) := by
  unfold f_241 at hb
  exact u_241_0 d hd v0 v1 v2 v3 h r hb
def b_242_32   (h : Hp) : Option (Int32 × Hp) :=
  some ((-1 : Int32), h)
theorem u_242_32 (d : Nat) (hd : 1 ≤ d) (v0 : Option Nat) (v1 : Int32) (v2 : Int32)  (h : Hp) (r : Int32 × Hp) (hb : b_242_32   h = some r) : Rn d 242 32 [some (va_rf v0), some (.int v1), some (.int v2)] [] h (some (.int r.1), r.2) := by
  unfold b_242_32 at hb
  refine rn_iconst (x := (-1 : Int32)) rfl (by decide) ?_
  obtain rfl := Option.some.inj hb
  exact rn_iret rfl rfl
def b_242_26 (k2 : Option Nat → Int32 → Int32 → Hp → Option (Int32 × Hp)) (v0 : Option Nat) (v1 : Int32) (v2 : Int32)  (h : Hp) : Option (Int32 × Hp) :=
  bnd (v2 + (nI 1)) fun x1 =>
  k2 v0 v1 x1 h
theorem u_242_26 (d : Nat) (hd : 1 ≤ d) (k2 : Option Nat → Int32 → Int32 → Hp → Option (Int32 × Hp)) (K2 : ∀ (v0 : Option Nat) (v1 : Int32) (v2 : Int32) (h : Hp) (r : Int32 × Hp), k2 v0 v1 v2 h = some r → Rn d 242 2 [some (va_rf v0), some (.int v1), some (.int v2)] [] h (some (.int r.1), r.2)) (v0 : Option Nat) (v1 : Int32) (v2 : Int32)  (h : Hp) (r : Int32 × Hp) (hb : b_242_26 k2 v0 v1 v2  h = some r) : Rn d 242 26 [some (va_rf v0), some (.int v1), some (.int v2)] [] h (some (.int r.1), r.2) := by
  unfold b_242_26 at hb
  obtain ⟨x1, ex1, hb⟩ := bnd_spec hb
  refine rn_iinc (i := 2) (y := x1) (L1 := [some (va_rf v0), some (.int v1), some (.int x1)]) rfl rfl (Nat.le_of_ble_eq_true rfl) (Or.inr rfl) (by rw [ex1]; rfl) rfl ?_
  refine rn_goto rfl rfl ?_
  exact K2 v0 v1 x1 h _ hb
def b_242_24 (v2 : Int32)  (h : Hp) : Option (Int32 × Hp) :=
  some (v2, h)
theorem u_242_24 (d : Nat) (hd : 1 ≤ d) (v0 : Option Nat) (v1 : Int32) (v2 : Int32)  (h : Hp) (r : Int32 × Hp) (hb : b_242_24 v2  h = some r) : Rn d 242 24 [some (va_rf v0), some (.int v1), some (.int v2)] [] h (some (.int r.1), r.2) := by
  unfold b_242_24 at hb
  refine rn_iload_n (i := 2) rfl rfl ?_
  obtain rfl := Option.some.inj hb
  exact rn_iret rfl rfl
def b_242_15 (k2 : Option Nat → Int32 → Int32 → Hp → Option (Int32 × Hp)) (v0 : Option Nat) (v1 : Int32) (v2 : Int32)  (h : Hp) : Option (Int32 × Hp) :=
  (gQ 11 34 v0 h).bind fun x1 =>
  (aI 12 x1 v2 h).bind fun x2 =>
  if ¬ x2 = 0 then b_242_26 k2 v0 v1 v2  h else b_242_24 v2  h
theorem u_242_15 (d : Nat) (hd : 1 ≤ d) (k2 : Option Nat → Int32 → Int32 → Hp → Option (Int32 × Hp)) (K2 : ∀ (v0 : Option Nat) (v1 : Int32) (v2 : Int32) (h : Hp) (r : Int32 × Hp), k2 v0 v1 v2 h = some r → Rn d 242 2 [some (va_rf v0), some (.int v1), some (.int v2)] [] h (some (.int r.1), r.2)) (v0 : Option Nat) (v1 : Int32) (v2 : Int32)  (h : Hp) (r : Int32 × Hp) (hb : b_242_15 k2 v0 v1 v2  h = some r) : Rn d 242 15 [some (va_rf v0), some (.int v1), some (.int v2)] [] h (some (.int r.1), r.2) := by
  unfold b_242_15 at hb
  refine rn_aload_n (i := 0) rfl rfl ?_
  refine rn_gQ (c := 11) (k := 34) rfl (by decide) hb (fun x1 hb => ?_)
  refine rn_iload_n (i := 2) rfl rfl ?_
  refine rn_aI rfl hb (fun x2 hb => ?_)
  refine rn_if_ne rfl rfl (fun hc => ?_) (fun hc => ?_)
  · exact u_242_26 d hd k2 K2 v0 v1 v2  h _ (if_t hb hc)
  · exact u_242_24 d hd v0 v1 v2  h _ (if_f hb hc)
def b_242_10 (k2 : Option Nat → Int32 → Int32 → Hp → Option (Int32 × Hp)) (v0 : Option Nat) (v1 : Int32) (v2 : Int32)  (h : Hp) : Option (Int32 × Hp) :=
  if v2 = v1 then b_242_26 k2 v0 v1 v2  h else b_242_15 k2 v0 v1 v2  h
theorem u_242_10 (d : Nat) (hd : 1 ≤ d) (k2 : Option Nat → Int32 → Int32 → Hp → Option (Int32 × Hp)) (K2 : ∀ (v0 : Option Nat) (v1 : Int32) (v2 : Int32) (h : Hp) (r : Int32 × Hp), k2 v0 v1 v2 h = some r → Rn d 242 2 [some (va_rf v0), some (.int v1), some (.int v2)] [] h (some (.int r.1), r.2)) (v0 : Option Nat) (v1 : Int32) (v2 : Int32)  (h : Hp) (r : Int32 × Hp) (hb : b_242_10 k2 v0 v1 v2  h = some r) : Rn d 242 10 [some (va_rf v0), some (.int v1), some (.int v2)] [] h (some (.int r.1), r.2) := by
  unfold b_242_10 at hb
  refine rn_iload_n (i := 2) rfl rfl ?_
  refine rn_iload_n (i := 1) rfl rfl ?_
  refine rn_icmp_eq rfl rfl (fun hc => ?_) (fun hc => ?_)
  · exact u_242_26 d hd k2 K2 v0 v1 v2  h _ (if_t hb hc)
  · exact u_242_15 d hd k2 K2 v0 v1 v2  h _ (if_f hb hc)
def b_242_2 (k2 : Option Nat → Int32 → Int32 → Hp → Option (Int32 × Hp)) (v0 : Option Nat) (v1 : Int32) (v2 : Int32)  (h : Hp) : Option (Int32 × Hp) :=
  (grd (rC 11 v0 h)).bind fun _ =>
  (f_203 v0 h).bind fun p1 =>
  if p1.1 ≤ v2 then b_242_32   p1.2 else b_242_10 k2 v0 v1 v2  p1.2
theorem u_242_2 (d : Nat) (hd : 1 ≤ d) (k2 : Option Nat → Int32 → Int32 → Hp → Option (Int32 × Hp)) (K2 : ∀ (v0 : Option Nat) (v1 : Int32) (v2 : Int32) (h : Hp) (r : Int32 × Hp), k2 v0 v1 v2 h = some r → Rn d 242 2 [some (va_rf v0), some (.int v1), some (.int v2)] [] h (some (.int r.1), r.2)) (v0 : Option Nat) (v1 : Int32) (v2 : Int32)  (h : Hp) (r : Int32 × Hp) (hb : b_242_2 k2 v0 v1 v2  h = some r) : Rn d 242 2 [some (va_rf v0), some (.int v1), some (.int v2)] [] h (some (.int r.1), r.2) := by
  unfold b_242_2 at hb
  obtain ⟨e, rfl⟩ : ∃ e, d = e + 1 := ⟨d - 1, by omega⟩
  refine rn_iload_n (i := 2) rfl rfl ?_
  refine rn_aload_n (i := 0) rfl rfl ?_
  obtain ⟨hrc, hb⟩ := grd_spec hb
  obtain ⟨p1, hc, hb⟩ := Option.bind_eq_some_iff.mp hb
  refine Rn.call1 (d := e) (As := [va_rf v0]) (rest := [.int v2]) rfl rfl rfl (by decide) rfl rfl rfl (bd_rcV hrc rfl) (by rw [bd_cI (bd_cN)]; decide) (bd_lenC (n := 1) rfl (bd_slR bd_slN) rfl) (bd_locC (n := 1) rfl (bd_slR bd_slN) rfl (t_203 e (by omega) v0 h _ hc)) ?_
  refine rn_icmp_ge rfl rfl (fun hc => ?_) (fun hc => ?_)
  · exact u_242_32 (e + 1) hd v0 v1 v2  p1.2 _ (if_t hb hc)
  · exact u_242_10 (e + 1) hd k2 K2 v0 v1 v2  p1.2 _ (if_f hb hc)
def l_242_2 : Nat → Option Nat → Int32 → Int32 → Hp → Option (Int32 × Hp)
  | 0, _, _, _, _ => none
  | n + 1, v0, v1, v2, h => b_242_2 (l_242_2 n) v0 v1 v2 h
theorem w_242_2 (d : Nat) (hd : 1 ≤ d) : ∀ (n : Nat) (v0 : Option Nat) (v1 : Int32) (v2 : Int32) (h : Hp) (r : Int32 × Hp), l_242_2 n v0 v1 v2 h = some r → Rn d 242 2 [some (va_rf v0), some (.int v1), some (.int v2)] [] h (some (.int r.1), r.2) := by
  intro n
  induction n with
  | zero => intro v0 v1 v2 h r hb; cases hb
  | succ n ih => intro v0 v1 v2 h r hb; exact u_242_2 d hd (l_242_2 n) ih v0 v1 v2 h r hb
def b_242_0 (v0 : Option Nat) (v1 : Int32)  (h : Hp) : Option (Int32 × Hp) :=
  bnd ((nI 0)) fun x1 =>
  l_242_2 FU v0 v1 x1 h
theorem u_242_0 (d : Nat) (hd : 1 ≤ d) (v0 : Option Nat) (v1 : Int32)  (h : Hp) (r : Int32 × Hp) (hb : b_242_0 v0 v1  h = some r) : Rn d 242 0 [some (va_rf v0), some (.int v1), none] [] h (some (.int r.1), r.2) := by
  unfold b_242_0 at hb
  refine rn_iconst (x := (nI 0)) rfl (by decide) ?_
  obtain ⟨x1, ex1, hb⟩ := bnd_spec hb
  refine rn_istore_n (i := 2) (L1 := [some (va_rf v0), some (.int v1), some (.int x1)]) rfl (Nat.le_of_ble_eq_true rfl) (Or.inr rfl) (by rw [ex1]; rfl) ?_
  exact w_242_2 d hd FU v0 v1 x1 h _ hb
/-- BitingDoorsModel.deadOne(I)I -/
def f_242 (v0 : Option Nat) (v1 : Int32) (h : Hp) : Option (Int32 × Hp) := b_242_0 v0 v1 h
theorem t_242 (d : Nat) (hd : 1 ≤ d) (v0 : Option Nat) (v1 : Int32) (h : Hp) (r : Int32 × Hp) (hb : f_242 v0 v1 h = some r) : Rn d 242 0 [some (va_rf v0), some (.int v1), none] [] h (some (.int r.1), r.2) := by
  unfold f_242 at hb
  exact u_242_0 d hd v0 v1 h r hb
def b_243_44   (h : Hp) : Option (Int32 × Hp) :=
  some ((-1 : Int32), h)
theorem u_243_44 (d : Nat) (hd : 1 ≤ d) (v0 : Option Nat) (v1 : Int32) (v2 : Int32) (v3 : Int32)  (h : Hp) (r : Int32 × Hp) (hb : b_243_44   h = some r) : Rn d 243 44 [some (va_rf v0), some (.int v1), some (.int v2), some (.int v3)] [] h (some (.int r.1), r.2) := by
  unfold b_243_44 at hb
  refine rn_iconst (x := (-1 : Int32)) rfl (by decide) ?_
  obtain rfl := Option.some.inj hb
  exact rn_iret rfl rfl
def b_243_38 (k2 : Option Nat → Int32 → Int32 → Int32 → Hp → Option (Int32 × Hp)) (v0 : Option Nat) (v1 : Int32) (v2 : Int32) (v3 : Int32)  (h : Hp) : Option (Int32 × Hp) :=
  bnd (v3 + (nI 1)) fun x1 =>
  k2 v0 v1 v2 x1 h
theorem u_243_38 (d : Nat) (hd : 1 ≤ d) (k2 : Option Nat → Int32 → Int32 → Int32 → Hp → Option (Int32 × Hp)) (K2 : ∀ (v0 : Option Nat) (v1 : Int32) (v2 : Int32) (v3 : Int32) (h : Hp) (r : Int32 × Hp), k2 v0 v1 v2 v3 h = some r → Rn d 243 2 [some (va_rf v0), some (.int v1), some (.int v2), some (.int v3)] [] h (some (.int r.1), r.2)) (v0 : Option Nat) (v1 : Int32) (v2 : Int32) (v3 : Int32)  (h : Hp) (r : Int32 × Hp) (hb : b_243_38 k2 v0 v1 v2 v3  h = some r) : Rn d 243 38 [some (va_rf v0), some (.int v1), some (.int v2), some (.int v3)] [] h (some (.int r.1), r.2) := by
  unfold b_243_38 at hb
  obtain ⟨x1, ex1, hb⟩ := bnd_spec hb
  refine rn_iinc (i := 3) (y := x1) (L1 := [some (va_rf v0), some (.int v1), some (.int v2), some (.int x1)]) rfl rfl (Nat.le_of_ble_eq_true rfl) (Or.inr rfl) (by rw [ex1]; rfl) rfl ?_
  refine rn_goto rfl rfl ?_
  exact K2 v0 v1 v2 x1 h _ hb
def b_243_36 (v3 : Int32)  (h : Hp) : Option (Int32 × Hp) :=
  some (v3, h)
theorem u_243_36 (d : Nat) (hd : 1 ≤ d) (v0 : Option Nat) (v1 : Int32) (v2 : Int32) (v3 : Int32)  (h : Hp) (r : Int32 × Hp) (hb : b_243_36 v3  h = some r) : Rn d 243 36 [some (va_rf v0), some (.int v1), some (.int v2), some (.int v3)] [] h (some (.int r.1), r.2) := by
  unfold b_243_36 at hb
  refine rn_iload_n (i := 3) rfl rfl ?_
  obtain rfl := Option.some.inj hb
  exact rn_iret rfl rfl
def b_243_23 (k2 : Option Nat → Int32 → Int32 → Int32 → Hp → Option (Int32 × Hp)) (v0 : Option Nat) (v1 : Int32) (v2 : Int32) (v3 : Int32)  (h : Hp) : Option (Int32 × Hp) :=
  (gQ 11 34 v0 h).bind fun x1 =>
  (aI 12 x1 v3 h).bind fun x2 =>
  (f_184 x2 h).bind fun p3 =>
  if ¬ p3.1 = (nI 1) then b_243_38 k2 v0 v1 v2 v3  p3.2 else b_243_36 v3  p3.2
theorem u_243_23 (d : Nat) (hd : 1 ≤ d) (k2 : Option Nat → Int32 → Int32 → Int32 → Hp → Option (Int32 × Hp)) (K2 : ∀ (v0 : Option Nat) (v1 : Int32) (v2 : Int32) (v3 : Int32) (h : Hp) (r : Int32 × Hp), k2 v0 v1 v2 v3 h = some r → Rn d 243 2 [some (va_rf v0), some (.int v1), some (.int v2), some (.int v3)] [] h (some (.int r.1), r.2)) (v0 : Option Nat) (v1 : Int32) (v2 : Int32) (v3 : Int32)  (h : Hp) (r : Int32 × Hp) (hb : b_243_23 k2 v0 v1 v2 v3  h = some r) : Rn d 243 23 [some (va_rf v0), some (.int v1), some (.int v2), some (.int v3)] [] h (some (.int r.1), r.2) := by
  unfold b_243_23 at hb
  obtain ⟨e, rfl⟩ : ∃ e, d = e + 1 := ⟨d - 1, by omega⟩
  refine rn_aload_n (i := 0) rfl rfl ?_
  refine rn_gQ (c := 11) (k := 34) rfl (by decide) hb (fun x1 hb => ?_)
  refine rn_iload_n (i := 3) rfl rfl ?_
  refine rn_aI rfl hb (fun x2 hb => ?_)
  obtain ⟨p3, hc, hb⟩ := Option.bind_eq_some_iff.mp hb
  refine Rn.call1 (d := e) (As := [.int x2]) (rest := []) rfl rfl rfl (by decide) rfl rfl rfl rfl (by decide) (bd_lenC (n := 3) rfl (bd_slI bd_slN) rfl) (bd_locC (n := 3) rfl (bd_slI bd_slN) rfl (t_184 e (by omega) x2 h _ hc)) ?_
  refine rn_iconst (x := (nI 1)) rfl (by decide) ?_
  refine rn_icmp_ne rfl rfl (fun hc => ?_) (fun hc => ?_)
  · exact u_243_38 (e + 1) hd k2 K2 v0 v1 v2 v3  p3.2 _ (if_t hb hc)
  · exact u_243_36 (e + 1) hd v0 v1 v2 v3  p3.2 _ (if_f hb hc)
def b_243_15 (k2 : Option Nat → Int32 → Int32 → Int32 → Hp → Option (Int32 × Hp)) (v0 : Option Nat) (v1 : Int32) (v2 : Int32) (v3 : Int32)  (h : Hp) : Option (Int32 × Hp) :=
  (f_183 v2 v3 h).bind fun p1 =>
  if ¬ p1.1 = 0 then b_243_38 k2 v0 v1 v2 v3  p1.2 else b_243_23 k2 v0 v1 v2 v3  p1.2
theorem u_243_15 (d : Nat) (hd : 1 ≤ d) (k2 : Option Nat → Int32 → Int32 → Int32 → Hp → Option (Int32 × Hp)) (K2 : ∀ (v0 : Option Nat) (v1 : Int32) (v2 : Int32) (v3 : Int32) (h : Hp) (r : Int32 × Hp), k2 v0 v1 v2 v3 h = some r → Rn d 243 2 [some (va_rf v0), some (.int v1), some (.int v2), some (.int v3)] [] h (some (.int r.1), r.2)) (v0 : Option Nat) (v1 : Int32) (v2 : Int32) (v3 : Int32)  (h : Hp) (r : Int32 × Hp) (hb : b_243_15 k2 v0 v1 v2 v3  h = some r) : Rn d 243 15 [some (va_rf v0), some (.int v1), some (.int v2), some (.int v3)] [] h (some (.int r.1), r.2) := by
  unfold b_243_15 at hb
  obtain ⟨e, rfl⟩ : ∃ e, d = e + 1 := ⟨d - 1, by omega⟩
  refine rn_iload_n (i := 2) rfl rfl ?_
  refine rn_iload_n (i := 3) rfl rfl ?_
  obtain ⟨p1, hc, hb⟩ := Option.bind_eq_some_iff.mp hb
  refine Rn.call1 (d := e) (As := [.int v2, .int v3]) (rest := []) rfl rfl rfl (by decide) rfl rfl rfl rfl (by decide) (bd_lenC (n := 2) rfl (bd_slI (bd_slI bd_slN)) rfl) (bd_locC (n := 2) rfl (bd_slI (bd_slI bd_slN)) rfl (t_183 e (by omega) v2 v3 h _ hc)) ?_
  refine rn_if_ne rfl rfl (fun hc => ?_) (fun hc => ?_)
  · exact u_243_38 (e + 1) hd k2 K2 v0 v1 v2 v3  p1.2 _ (if_t hb hc)
  · exact u_243_23 (e + 1) hd k2 K2 v0 v1 v2 v3  p1.2 _ (if_f hb hc)
def b_243_10 (k2 : Option Nat → Int32 → Int32 → Int32 → Hp → Option (Int32 × Hp)) (v0 : Option Nat) (v1 : Int32) (v2 : Int32) (v3 : Int32)  (h : Hp) : Option (Int32 × Hp) :=
  if v3 = v1 then b_243_38 k2 v0 v1 v2 v3  h else b_243_15 k2 v0 v1 v2 v3  h
theorem u_243_10 (d : Nat) (hd : 1 ≤ d) (k2 : Option Nat → Int32 → Int32 → Int32 → Hp → Option (Int32 × Hp)) (K2 : ∀ (v0 : Option Nat) (v1 : Int32) (v2 : Int32) (v3 : Int32) (h : Hp) (r : Int32 × Hp), k2 v0 v1 v2 v3 h = some r → Rn d 243 2 [some (va_rf v0), some (.int v1), some (.int v2), some (.int v3)] [] h (some (.int r.1), r.2)) (v0 : Option Nat) (v1 : Int32) (v2 : Int32) (v3 : Int32)  (h : Hp) (r : Int32 × Hp) (hb : b_243_10 k2 v0 v1 v2 v3  h = some r) : Rn d 243 10 [some (va_rf v0), some (.int v1), some (.int v2), some (.int v3)] [] h (some (.int r.1), r.2) := by
  unfold b_243_10 at hb
  refine rn_iload_n (i := 3) rfl rfl ?_
  refine rn_iload_n (i := 1) rfl rfl ?_
  refine rn_icmp_eq rfl rfl (fun hc => ?_) (fun hc => ?_)
  · exact u_243_38 d hd k2 K2 v0 v1 v2 v3  h _ (if_t hb hc)
  · exact u_243_15 d hd k2 K2 v0 v1 v2 v3  h _ (if_f hb hc)
def b_243_2 (k2 : Option Nat → Int32 → Int32 → Int32 → Hp → Option (Int32 × Hp)) (v0 : Option Nat) (v1 : Int32) (v2 : Int32) (v3 : Int32)  (h : Hp) : Option (Int32 × Hp) :=
  (grd (rC 11 v0 h)).bind fun _ =>
  (f_203 v0 h).bind fun p1 =>
  if p1.1 ≤ v3 then b_243_44   p1.2 else b_243_10 k2 v0 v1 v2 v3  p1.2
theorem u_243_2 (d : Nat) (hd : 1 ≤ d) (k2 : Option Nat → Int32 → Int32 → Int32 → Hp → Option (Int32 × Hp)) (K2 : ∀ (v0 : Option Nat) (v1 : Int32) (v2 : Int32) (v3 : Int32) (h : Hp) (r : Int32 × Hp), k2 v0 v1 v2 v3 h = some r → Rn d 243 2 [some (va_rf v0), some (.int v1), some (.int v2), some (.int v3)] [] h (some (.int r.1), r.2)) (v0 : Option Nat) (v1 : Int32) (v2 : Int32) (v3 : Int32)  (h : Hp) (r : Int32 × Hp) (hb : b_243_2 k2 v0 v1 v2 v3  h = some r) : Rn d 243 2 [some (va_rf v0), some (.int v1), some (.int v2), some (.int v3)] [] h (some (.int r.1), r.2) := by
  unfold b_243_2 at hb
  obtain ⟨e, rfl⟩ : ∃ e, d = e + 1 := ⟨d - 1, by omega⟩
  refine rn_iload_n (i := 3) rfl rfl ?_
  refine rn_aload_n (i := 0) rfl rfl ?_
  obtain ⟨hrc, hb⟩ := grd_spec hb
  obtain ⟨p1, hc, hb⟩ := Option.bind_eq_some_iff.mp hb
  refine Rn.call1 (d := e) (As := [va_rf v0]) (rest := [.int v3]) rfl rfl rfl (by decide) rfl rfl rfl (bd_rcV hrc rfl) (by rw [bd_cI (bd_cN)]; decide) (bd_lenC (n := 1) rfl (bd_slR bd_slN) rfl) (bd_locC (n := 1) rfl (bd_slR bd_slN) rfl (t_203 e (by omega) v0 h _ hc)) ?_
  refine rn_icmp_ge rfl rfl (fun hc => ?_) (fun hc => ?_)
  · exact u_243_44 (e + 1) hd v0 v1 v2 v3  p1.2 _ (if_t hb hc)
  · exact u_243_10 (e + 1) hd k2 K2 v0 v1 v2 v3  p1.2 _ (if_f hb hc)
def l_243_2 : Nat → Option Nat → Int32 → Int32 → Int32 → Hp → Option (Int32 × Hp)
  | 0, _, _, _, _, _ => none
  | n + 1, v0, v1, v2, v3, h => b_243_2 (l_243_2 n) v0 v1 v2 v3 h
theorem w_243_2 (d : Nat) (hd : 1 ≤ d) : ∀ (n : Nat) (v0 : Option Nat) (v1 : Int32) (v2 : Int32) (v3 : Int32) (h : Hp) (r : Int32 × Hp), l_243_2 n v0 v1 v2 v3 h = some r → Rn d 243 2 [some (va_rf v0), some (.int v1), some (.int v2), some (.int v3)] [] h (some (.int r.1), r.2) := by
  intro n
  induction n with
  | zero => intro v0 v1 v2 v3 h r hb; cases hb
  | succ n ih => intro v0 v1 v2 v3 h r hb; exact u_243_2 d hd (l_243_2 n) ih v0 v1 v2 v3 h r hb
def b_243_0 (v0 : Option Nat) (v1 : Int32) (v2 : Int32)  (h : Hp) : Option (Int32 × Hp) :=
  bnd ((nI 0)) fun x1 =>
  l_243_2 FU v0 v1 v2 x1 h
theorem u_243_0 (d : Nat) (hd : 1 ≤ d) (v0 : Option Nat) (v1 : Int32) (v2 : Int32)  (h : Hp) (r : Int32 × Hp) (hb : b_243_0 v0 v1 v2  h = some r) : Rn d 243 0 [some (va_rf v0), some (.int v1), some (.int v2), none] [] h (some (.int r.1), r.2) := by
  unfold b_243_0 at hb
  refine rn_iconst (x := (nI 0)) rfl (by decide) ?_
  obtain ⟨x1, ex1, hb⟩ := bnd_spec hb
  refine rn_istore_n (i := 3) (L1 := [some (va_rf v0), some (.int v1), some (.int v2), some (.int x1)]) rfl (Nat.le_of_ble_eq_true rfl) (Or.inr rfl) (by rw [ex1]; rfl) ?_
  exact w_243_2 d hd FU v0 v1 v2 x1 h _ hb
/-- BitingDoorsModel.nextForced(II)I -/
def f_243 (v0 : Option Nat) (v1 : Int32) (v2 : Int32) (h : Hp) : Option (Int32 × Hp) := b_243_0 v0 v1 v2 h
theorem t_243 (d : Nat) (hd : 1 ≤ d) (v0 : Option Nat) (v1 : Int32) (v2 : Int32) (h : Hp) (r : Int32 × Hp) (hb : f_243 v0 v1 v2 h = some r) : Rn d 243 0 [some (va_rf v0), some (.int v1), some (.int v2), none] [] h (some (.int r.1), r.2) := by
  unfold f_243 at hb
  exact u_243_0 d hd v0 v1 v2 h r hb
def b_244_35   (h : Hp) : Option (Int32 × Hp) :=
  some ((-2 : Int32), h)
theorem u_244_35 (d : Nat) (hd : 5 ≤ d) (v0 : Option Nat) (v1 : Int32) (v2 : Int32) (v3 : Int32)  (h : Hp) (r : Int32 × Hp) (hb : b_244_35   h = some r) : Rn d 244 35 [some (va_rf v0), some (.int v1), some (.int v2), some (.int v3), none, none, none] [] h (some (.int r.1), r.2) := by
  unfold b_244_35 at hb
  refine rn_bipush (x := (-2 : Int32)) rfl (by decide) ?_
  obtain rfl := Option.some.inj hb
  exact rn_iret rfl rfl
def b_244_249  (s0 : Int32) (h : Hp) : Option (Int32 × Hp) :=
  some (s0, h)
theorem u_244_249 (d : Nat) (hd : 5 ≤ d) (v0 : Option Nat) (v1 : Int32) (v2 : Int32) (v3 : Int32) (v4 : Int32) (v5 : Option (Int32)) (v6 : Option (Int32)) (s0 : Int32) (h : Hp) (r : Int32 × Hp) (hb : b_244_249  s0 h = some r) : Rn d 244 249 [some (va_rf v0), some (.int v1), some (.int v2), some (.int v3), some (.int v4), v5.map Value.int, v6.map Value.int] [.int s0] h (some (.int r.1), r.2) := by
  unfold b_244_249 at hb
  obtain rfl := Option.some.inj hb
  exact rn_iret rfl rfl
def b_244_244 (v0 : Option Nat) (v1 : Int32)  (h : Hp) : Option (Int32 × Hp) :=
  (grd (rC 11 v0 h)).bind fun _ =>
  (f_242 v0 v1 h).bind fun p1 =>
  b_244_249  p1.1 p1.2
theorem u_244_244 (d : Nat) (hd : 5 ≤ d) (v0 : Option Nat) (v1 : Int32) (v2 : Int32) (v3 : Int32) (v4 : Int32) (v5 : Option (Int32)) (v6 : Option (Int32))  (h : Hp) (r : Int32 × Hp) (hb : b_244_244 v0 v1  h = some r) : Rn d 244 244 [some (va_rf v0), some (.int v1), some (.int v2), some (.int v3), some (.int v4), v5.map Value.int, v6.map Value.int] [] h (some (.int r.1), r.2) := by
  unfold b_244_244 at hb
  obtain ⟨e, rfl⟩ : ∃ e, d = e + 1 := ⟨d - 1, by omega⟩
  refine rn_aload_n (i := 0) rfl rfl ?_
  refine rn_iload_n (i := 1) rfl rfl ?_
  obtain ⟨hrc, hb⟩ := grd_spec hb
  obtain ⟨p1, hc, hb⟩ := Option.bind_eq_some_iff.mp hb
  refine Rn.call1 (d := e) (As := [va_rf v0, .int v1]) (rest := []) rfl rfl rfl (by decide) rfl rfl rfl (bd_rcV hrc rfl) (by decide) (bd_lenC (n := 3) rfl (bd_slR (bd_slI bd_slN)) rfl) (bd_locC (n := 3) rfl (bd_slR (bd_slI bd_slN)) rfl (t_242 e (by omega) v0 v1 h _ hc)) ?_
  exact u_244_249 (e + 1) hd v0 v1 v2 v3 v4 v5 v6 p1.1 p1.2 _ hb
def b_244_239 (v4 : Int32)  (h : Hp) : Option (Int32 × Hp) :=
  b_244_249  v4 h
theorem u_244_239 (d : Nat) (hd : 5 ≤ d) (v0 : Option Nat) (v1 : Int32) (v2 : Int32) (v3 : Int32) (v4 : Int32) (v5 : Option (Int32)) (v6 : Option (Int32))  (h : Hp) (r : Int32 × Hp) (hb : b_244_239 v4  h = some r) : Rn d 244 239 [some (va_rf v0), some (.int v1), some (.int v2), some (.int v3), some (.int v4), v5.map Value.int, v6.map Value.int] [] h (some (.int r.1), r.2) := by
  unfold b_244_239 at hb
  refine rn_iload (i := 4) rfl rfl ?_
  refine rn_goto rfl rfl ?_
  exact u_244_249 d hd v0 v1 v2 v3 v4 v5 v6 v4 h _ hb
def b_244_234 (v0 : Option Nat) (v1 : Int32) (v3 : Int32) (v4 : Int32)  (h : Hp) : Option (Int32 × Hp) :=
  if ¬ v3 = (nI 1) then b_244_244 v0 v1  h else b_244_239 v4  h
theorem u_244_234 (d : Nat) (hd : 5 ≤ d) (v0 : Option Nat) (v1 : Int32) (v2 : Int32) (v3 : Int32) (v4 : Int32) (v5 : Option (Int32)) (v6 : Option (Int32))  (h : Hp) (r : Int32 × Hp) (hb : b_244_234 v0 v1 v3 v4  h = some r) : Rn d 244 234 [some (va_rf v0), some (.int v1), some (.int v2), some (.int v3), some (.int v4), v5.map Value.int, v6.map Value.int] [] h (some (.int r.1), r.2) := by
  unfold b_244_234 at hb
  refine rn_iload_n (i := 3) rfl rfl ?_
  refine rn_iconst (x := (nI 1)) rfl (by decide) ?_
  refine rn_icmp_ne rfl rfl (fun hc => ?_) (fun hc => ?_)
  · exact u_244_244 d hd v0 v1 v2 v3 v4 v5 v6  h _ (if_t hb hc)
  · exact u_244_239 d hd v0 v1 v2 v3 v4 v5 v6  h _ (if_f hb hc)
def b_244_227 (v0 : Option Nat)  (h : Hp) : Option (Int32 × Hp) :=
  (gI 11 37 v0 h).bind fun x1 =>
  b_244_249  x1 h
theorem u_244_227 (d : Nat) (hd : 5 ≤ d) (v0 : Option Nat) (v1 : Int32) (v2 : Int32) (v3 : Int32) (v4 : Int32) (v5 : Option (Int32)) (v6 : Option (Int32))  (h : Hp) (r : Int32 × Hp) (hb : b_244_227 v0  h = some r) : Rn d 244 227 [some (va_rf v0), some (.int v1), some (.int v2), some (.int v3), some (.int v4), v5.map Value.int, v6.map Value.int] [] h (some (.int r.1), r.2) := by
  unfold b_244_227 at hb
  refine rn_aload_n (i := 0) rfl rfl ?_
  refine rn_gI (c := 11) (k := 37) rfl (by decide) hb (fun x1 hb => ?_)
  refine rn_goto rfl rfl ?_
  exact u_244_249 d hd v0 v1 v2 v3 v4 v5 v6 x1 h _ hb
def b_244_223 (v0 : Option Nat) (v1 : Int32) (v3 : Int32) (v4 : Int32)  (h : Hp) : Option (Int32 × Hp) :=
  if ¬ v3 = 0 then b_244_234 v0 v1 v3 v4  h else b_244_227 v0  h
theorem u_244_223 (d : Nat) (hd : 5 ≤ d) (v0 : Option Nat) (v1 : Int32) (v2 : Int32) (v3 : Int32) (v4 : Int32) (v5 : Option (Int32)) (v6 : Option (Int32))  (h : Hp) (r : Int32 × Hp) (hb : b_244_223 v0 v1 v3 v4  h = some r) : Rn d 244 223 [some (va_rf v0), some (.int v1), some (.int v2), some (.int v3), some (.int v4), v5.map Value.int, v6.map Value.int] [] h (some (.int r.1), r.2) := by
  unfold b_244_223 at hb
  refine rn_iload_n (i := 3) rfl rfl ?_
  refine rn_if_ne rfl rfl (fun hc => ?_) (fun hc => ?_)
  · exact u_244_234 d hd v0 v1 v2 v3 v4 v5 v6  h _ (if_t hb hc)
  · exact u_244_227 d hd v0 v1 v2 v3 v4 v5 v6  h _ (if_f hb hc)
def b_244_172 (k121 : Option Nat → Int32 → Int32 → Int32 → Hp → Option (Int32 × Hp)) (v0 : Option Nat) (v1 : Int32) (v3 : Int32) (v4 : Int32) (v5 : Int32) (v6 : Int32)  (h : Hp) : Option (Int32 × Hp) :=
  bnd ((v4 ||| ((nI 1) <<< (v5 &&& 31)))) fun x1 =>
  (gQ 11 35 v0 h).bind fun x2 =>
  (wI x2 v5 v6 h).bind fun h3 =>
  (gQ 11 36 v0 h3).bind fun x4 =>
  (gI 11 37 v0 h3).bind fun x5 =>
  (wI x4 x5 v5 h3).bind fun h6 =>
  (gI 11 37 v0 h6).bind fun x7 =>
  (pI 11 37 v0 (x7 + (nI 1)) h6).bind fun h8 =>
  (grd (rC 11 v0 h8)).bind fun _ =>
  (f_241 v0 v5 v6 v1 h8).bind fun p9 =>
  k121 v0 v1 v3 x1 p9
theorem u_244_172 (d : Nat) (hd : 5 ≤ d) (k121 : Option Nat → Int32 → Int32 → Int32 → Hp → Option (Int32 × Hp)) (K121 : ∀ (v0 : Option Nat) (v1 : Int32) (v2 : Int32) (v3 : Int32) (v4 : Int32) (v5 : Option (Int32)) (v6 : Option (Int32)) (h : Hp) (r : Int32 × Hp), k121 v0 v1 v3 v4 h = some r → Rn d 244 121 [some (va_rf v0), some (.int v1), some (.int v2), some (.int v3), some (.int v4), v5.map Value.int, v6.map Value.int] [] h (some (.int r.1), r.2)) (v0 : Option Nat) (v1 : Int32) (v2 : Int32) (v3 : Int32) (v4 : Int32) (v5 : Int32) (v6 : Int32)  (h : Hp) (r : Int32 × Hp) (hb : b_244_172 k121 v0 v1 v3 v4 v5 v6  h = some r) : Rn d 244 172 [some (va_rf v0), some (.int v1), some (.int v2), some (.int v3), some (.int v4), some (.int v5), some (.int v6)] [] h (some (.int r.1), r.2) := by
  unfold b_244_172 at hb
  obtain ⟨e, rfl⟩ : ∃ e, d = e + 1 := ⟨d - 1, by omega⟩
  refine rn_iload (i := 4) rfl rfl ?_
  refine rn_iconst (x := (nI 1)) rfl (by decide) ?_
  refine rn_iload (i := 5) rfl rfl ?_
  refine rn_ishl rfl ?_
  refine rn_ior rfl ?_
  obtain ⟨x1, ex1, hb⟩ := bnd_spec hb
  refine rn_istore (i := 4) (L1 := [some (va_rf v0), some (.int v1), some (.int v2), some (.int v3), some (.int x1), some (.int v5), some (.int v6)]) rfl (Nat.le_of_ble_eq_true rfl) (Or.inr rfl) (by rw [ex1]; rfl) ?_
  refine rn_aload_n (i := 0) rfl rfl ?_
  refine rn_gQ (c := 11) (k := 35) rfl (by decide) hb (fun x2 hb => ?_)
  refine rn_iload (i := 5) rfl rfl ?_
  refine rn_iload (i := 6) rfl rfl ?_
  refine rn_wI rfl hb (fun h3 hb => ?_)
  refine rn_aload_n (i := 0) rfl rfl ?_
  refine rn_gQ (c := 11) (k := 36) rfl (by decide) hb (fun x4 hb => ?_)
  refine rn_aload_n (i := 0) rfl rfl ?_
  refine rn_gI (c := 11) (k := 37) rfl (by decide) hb (fun x5 hb => ?_)
  refine rn_iload (i := 5) rfl rfl ?_
  refine rn_wI rfl hb (fun h6 hb => ?_)
  refine rn_aload_n (i := 0) rfl rfl ?_
  refine rn_dup rfl (bd_cat_rf _) ?_
  refine rn_gI (c := 11) (k := 37) rfl (by decide) hb (fun x7 hb => ?_)
  refine rn_iconst (x := (nI 1)) rfl (by decide) ?_
  refine rn_iadd rfl ?_
  refine rn_pI (c := 11) (k := 37) rfl (by decide) hb (fun h8 hb => ?_)
  refine rn_aload_n (i := 0) rfl rfl ?_
  refine rn_iload (i := 5) rfl rfl ?_
  refine rn_iload (i := 6) rfl rfl ?_
  refine rn_iload_n (i := 1) rfl rfl ?_
  obtain ⟨hrc, hb⟩ := grd_spec hb
  obtain ⟨p9, hc, hb⟩ := Option.bind_eq_some_iff.mp hb
  refine Rn.call0 (d := e) (As := [va_rf v0, .int v5, .int v6, .int v1]) (rest := []) rfl rfl rfl (by decide) rfl rfl rfl (bd_rcV hrc rfl) (by decide) (bd_lenC (n := 6) rfl (bd_slR (bd_slI (bd_slI (bd_slI bd_slN)))) rfl) (bd_locC (n := 6) rfl (bd_slR (bd_slI (bd_slI (bd_slI bd_slN)))) rfl (t_241 e (by omega) v0 v5 v6 v1 h8 _ hc)) ?_
  refine rn_goto rfl rfl ?_
  exact K121 v0 v1 v2 v3 x1 (some v5) (some v6) p9 _ hb
def b_244_166 (k121 : Option Nat → Int32 → Int32 → Int32 → Hp → Option (Int32 × Hp)) (k151 : Option Nat → Int32 → Int32 → Int32 → Int32 → Int32 → Hp → Option (Int32 × Hp)) (v0 : Option Nat) (v1 : Int32) (v3 : Int32) (v4 : Int32) (v5 : Int32) (v6 : Int32)  (h : Hp) : Option (Int32 × Hp) :=
  bnd (v6 + (nI 1)) fun x1 =>
  k151 v0 v1 v3 v4 v5 x1 h
theorem u_244_166 (d : Nat) (hd : 5 ≤ d) (k121 : Option Nat → Int32 → Int32 → Int32 → Hp → Option (Int32 × Hp)) (K121 : ∀ (v0 : Option Nat) (v1 : Int32) (v2 : Int32) (v3 : Int32) (v4 : Int32) (v5 : Option (Int32)) (v6 : Option (Int32)) (h : Hp) (r : Int32 × Hp), k121 v0 v1 v3 v4 h = some r → Rn d 244 121 [some (va_rf v0), some (.int v1), some (.int v2), some (.int v3), some (.int v4), v5.map Value.int, v6.map Value.int] [] h (some (.int r.1), r.2)) (k151 : Option Nat → Int32 → Int32 → Int32 → Int32 → Int32 → Hp → Option (Int32 × Hp)) (K151 : ∀ (v0 : Option Nat) (v1 : Int32) (v2 : Int32) (v3 : Int32) (v4 : Int32) (v5 : Int32) (v6 : Int32) (h : Hp) (r : Int32 × Hp), k151 v0 v1 v3 v4 v5 v6 h = some r → Rn d 244 151 [some (va_rf v0), some (.int v1), some (.int v2), some (.int v3), some (.int v4), some (.int v5), some (.int v6)] [] h (some (.int r.1), r.2)) (v0 : Option Nat) (v1 : Int32) (v2 : Int32) (v3 : Int32) (v4 : Int32) (v5 : Int32) (v6 : Int32)  (h : Hp) (r : Int32 × Hp) (hb : b_244_166 k121 k151 v0 v1 v3 v4 v5 v6  h = some r) : Rn d 244 166 [some (va_rf v0), some (.int v1), some (.int v2), some (.int v3), some (.int v4), some (.int v5), some (.int v6)] [] h (some (.int r.1), r.2) := by
  unfold b_244_166 at hb
  obtain ⟨x1, ex1, hb⟩ := bnd_spec hb
  refine rn_iinc (i := 6) (y := x1) (L1 := [some (va_rf v0), some (.int v1), some (.int v2), some (.int v3), some (.int v4), some (.int v5), some (.int x1)]) rfl rfl (Nat.le_of_ble_eq_true rfl) (Or.inr rfl) (by rw [ex1]; rfl) rfl ?_
  refine rn_goto rfl rfl ?_
  exact K151 v0 v1 v2 v3 v4 v5 x1 h _ hb
def b_244_151 (k121 : Option Nat → Int32 → Int32 → Int32 → Hp → Option (Int32 × Hp)) (k151 : Option Nat → Int32 → Int32 → Int32 → Int32 → Int32 → Hp → Option (Int32 × Hp)) (v0 : Option Nat) (v1 : Int32) (v3 : Int32) (v4 : Int32) (v5 : Int32) (v6 : Int32)  (h : Hp) : Option (Int32 × Hp) :=
  (gQ 11 34 v0 h).bind fun x1 =>
  (aI 12 x1 v5 h).bind fun x2 =>
  (f_183 x2 v6 h).bind fun p3 =>
  if ¬ p3.1 = 0 then b_244_172 k121 v0 v1 v3 v4 v5 v6  p3.2 else b_244_166 k121 k151 v0 v1 v3 v4 v5 v6  p3.2
theorem u_244_151 (d : Nat) (hd : 5 ≤ d) (k121 : Option Nat → Int32 → Int32 → Int32 → Hp → Option (Int32 × Hp)) (K121 : ∀ (v0 : Option Nat) (v1 : Int32) (v2 : Int32) (v3 : Int32) (v4 : Int32) (v5 : Option (Int32)) (v6 : Option (Int32)) (h : Hp) (r : Int32 × Hp), k121 v0 v1 v3 v4 h = some r → Rn d 244 121 [some (va_rf v0), some (.int v1), some (.int v2), some (.int v3), some (.int v4), v5.map Value.int, v6.map Value.int] [] h (some (.int r.1), r.2)) (k151 : Option Nat → Int32 → Int32 → Int32 → Int32 → Int32 → Hp → Option (Int32 × Hp)) (K151 : ∀ (v0 : Option Nat) (v1 : Int32) (v2 : Int32) (v3 : Int32) (v4 : Int32) (v5 : Int32) (v6 : Int32) (h : Hp) (r : Int32 × Hp), k151 v0 v1 v3 v4 v5 v6 h = some r → Rn d 244 151 [some (va_rf v0), some (.int v1), some (.int v2), some (.int v3), some (.int v4), some (.int v5), some (.int v6)] [] h (some (.int r.1), r.2)) (v0 : Option Nat) (v1 : Int32) (v2 : Int32) (v3 : Int32) (v4 : Int32) (v5 : Int32) (v6 : Int32)  (h : Hp) (r : Int32 × Hp) (hb : b_244_151 k121 k151 v0 v1 v3 v4 v5 v6  h = some r) : Rn d 244 151 [some (va_rf v0), some (.int v1), some (.int v2), some (.int v3), some (.int v4), some (.int v5), some (.int v6)] [] h (some (.int r.1), r.2) := by
  unfold b_244_151 at hb
  obtain ⟨e, rfl⟩ : ∃ e, d = e + 1 := ⟨d - 1, by omega⟩
  refine rn_aload_n (i := 0) rfl rfl ?_
  refine rn_gQ (c := 11) (k := 34) rfl (by decide) hb (fun x1 hb => ?_)
  refine rn_iload (i := 5) rfl rfl ?_
  refine rn_aI rfl hb (fun x2 hb => ?_)
  refine rn_iload (i := 6) rfl rfl ?_
  obtain ⟨p3, hc, hb⟩ := Option.bind_eq_some_iff.mp hb
  refine Rn.call1 (d := e) (As := [.int x2, .int v6]) (rest := []) rfl rfl rfl (by decide) rfl rfl rfl rfl (by decide) (bd_lenC (n := 2) rfl (bd_slI (bd_slI bd_slN)) rfl) (bd_locC (n := 2) rfl (bd_slI (bd_slI bd_slN)) rfl (t_183 e (by omega) x2 v6 h _ hc)) ?_
  refine rn_if_ne rfl rfl (fun hc => ?_) (fun hc => ?_)
  · exact u_244_172 (e + 1) hd k121 K121 v0 v1 v2 v3 v4 v5 v6  p3.2 _ (if_t hb hc)
  · exact u_244_166 (e + 1) hd k121 K121 k151 K151 v0 v1 v2 v3 v4 v5 v6  p3.2 _ (if_f hb hc)
def l_244_151 (k121 : Option Nat → Int32 → Int32 → Int32 → Hp → Option (Int32 × Hp)) : Nat → Option Nat → Int32 → Int32 → Int32 → Int32 → Int32 → Hp → Option (Int32 × Hp)
  | 0, _, _, _, _, _, _, _ => none
  | n + 1, v0, v1, v3, v4, v5, v6, h => b_244_151 k121 (l_244_151 k121 n) v0 v1 v3 v4 v5 v6 h
theorem w_244_151 (d : Nat) (hd : 5 ≤ d) (k121 : Option Nat → Int32 → Int32 → Int32 → Hp → Option (Int32 × Hp)) (K121 : ∀ (v0 : Option Nat) (v1 : Int32) (v2 : Int32) (v3 : Int32) (v4 : Int32) (v5 : Option (Int32)) (v6 : Option (Int32)) (h : Hp) (r : Int32 × Hp), k121 v0 v1 v3 v4 h = some r → Rn d 244 121 [some (va_rf v0), some (.int v1), some (.int v2), some (.int v3), some (.int v4), v5.map Value.int, v6.map Value.int] [] h (some (.int r.1), r.2)) : ∀ (n : Nat) (v0 : Option Nat) (v1 : Int32) (v2 : Int32) (v3 : Int32) (v4 : Int32) (v5 : Int32) (v6 : Int32) (h : Hp) (r : Int32 × Hp), l_244_151 k121 n v0 v1 v3 v4 v5 v6 h = some r → Rn d 244 151 [some (va_rf v0), some (.int v1), some (.int v2), some (.int v3), some (.int v4), some (.int v5), some (.int v6)] [] h (some (.int r.1), r.2) := by
  intro n
  induction n with
  | zero => intro v0 v1 v2 v3 v4 v5 v6 h r hb; cases hb
  | succ n ih => intro v0 v1 v2 v3 v4 v5 v6 h r hb; exact u_244_151 d hd k121 K121 (l_244_151 k121 n) ih v0 v1 v2 v3 v4 v5 v6 h r hb
def b_244_148 (k121 : Option Nat → Int32 → Int32 → Int32 → Hp → Option (Int32 × Hp)) (v0 : Option Nat) (v1 : Int32) (v3 : Int32) (v4 : Int32) (v5 : Int32)  (h : Hp) : Option (Int32 × Hp) :=
  bnd ((nI 0)) fun x1 =>
  l_244_151 k121 FU v0 v1 v3 v4 v5 x1 h
theorem u_244_148 (d : Nat) (hd : 5 ≤ d) (k121 : Option Nat → Int32 → Int32 → Int32 → Hp → Option (Int32 × Hp)) (K121 : ∀ (v0 : Option Nat) (v1 : Int32) (v2 : Int32) (v3 : Int32) (v4 : Int32) (v5 : Option (Int32)) (v6 : Option (Int32)) (h : Hp) (r : Int32 × Hp), k121 v0 v1 v3 v4 h = some r → Rn d 244 121 [some (va_rf v0), some (.int v1), some (.int v2), some (.int v3), some (.int v4), v5.map Value.int, v6.map Value.int] [] h (some (.int r.1), r.2)) (v0 : Option Nat) (v1 : Int32) (v2 : Int32) (v3 : Int32) (v4 : Int32) (v5 : Int32) (v6 : Option (Int32))  (h : Hp) (r : Int32 × Hp) (hb : b_244_148 k121 v0 v1 v3 v4 v5  h = some r) : Rn d 244 148 [some (va_rf v0), some (.int v1), some (.int v2), some (.int v3), some (.int v4), some (.int v5), v6.map Value.int] [] h (some (.int r.1), r.2) := by
  unfold b_244_148 at hb
  refine rn_iconst (x := (nI 0)) rfl (by decide) ?_
  obtain ⟨x1, ex1, hb⟩ := bnd_spec hb
  refine rn_istore (i := 6) (L1 := [some (va_rf v0), some (.int v1), some (.int v2), some (.int v3), some (.int v4), some (.int v5), some (.int x1)]) rfl (Nat.le_of_ble_eq_true rfl) (Or.inr rfl) (by rw [ex1]; rfl) ?_
  exact w_244_151 d hd k121 K121 FU v0 v1 v2 v3 v4 v5 x1 h _ hb
def b_244_145 (v0 : Option Nat) (v1 : Int32) (v3 : Int32) (v4 : Int32)  (h : Hp) : Option (Int32 × Hp) :=
  b_244_223 v0 v1 v3 v4  h
theorem u_244_145 (d : Nat) (hd : 5 ≤ d) (v0 : Option Nat) (v1 : Int32) (v2 : Int32) (v3 : Int32) (v4 : Int32) (v5 : Int32) (v6 : Option (Int32))  (h : Hp) (r : Int32 × Hp) (hb : b_244_145 v0 v1 v3 v4  h = some r) : Rn d 244 145 [some (va_rf v0), some (.int v1), some (.int v2), some (.int v3), some (.int v4), some (.int v5), v6.map Value.int] [] h (some (.int r.1), r.2) := by
  unfold b_244_145 at hb
  refine rn_goto rfl rfl ?_
  exact u_244_223 d hd v0 v1 v2 v3 v4 (some v5) v6  h _ hb
def b_244_130 (k121 : Option Nat → Int32 → Int32 → Int32 → Hp → Option (Int32 × Hp)) (v0 : Option Nat) (v1 : Int32) (v3 : Int32) (v4 : Int32)  (h : Hp) : Option (Int32 × Hp) :=
  (grd (rC 11 v0 h)).bind fun _ =>
  (f_243 v0 v1 v4 h).bind fun p1 =>
  bnd (p1.1) fun x2 =>
  if ¬ x2 = (-1 : Int32) then b_244_148 k121 v0 v1 v3 v4 x2  p1.2 else b_244_145 v0 v1 v3 v4  p1.2
theorem u_244_130 (d : Nat) (hd : 5 ≤ d) (k121 : Option Nat → Int32 → Int32 → Int32 → Hp → Option (Int32 × Hp)) (K121 : ∀ (v0 : Option Nat) (v1 : Int32) (v2 : Int32) (v3 : Int32) (v4 : Int32) (v5 : Option (Int32)) (v6 : Option (Int32)) (h : Hp) (r : Int32 × Hp), k121 v0 v1 v3 v4 h = some r → Rn d 244 121 [some (va_rf v0), some (.int v1), some (.int v2), some (.int v3), some (.int v4), v5.map Value.int, v6.map Value.int] [] h (some (.int r.1), r.2)) (v0 : Option Nat) (v1 : Int32) (v2 : Int32) (v3 : Int32) (v4 : Int32) (v5 : Option (Int32)) (v6 : Option (Int32))  (h : Hp) (r : Int32 × Hp) (hb : b_244_130 k121 v0 v1 v3 v4  h = some r) : Rn d 244 130 [some (va_rf v0), some (.int v1), some (.int v2), some (.int v3), some (.int v4), v5.map Value.int, v6.map Value.int] [] h (some (.int r.1), r.2) := by
  unfold b_244_130 at hb
  obtain ⟨e, rfl⟩ : ∃ e, d = e + 1 := ⟨d - 1, by omega⟩
  refine rn_aload_n (i := 0) rfl rfl ?_
  refine rn_iload_n (i := 1) rfl rfl ?_
  refine rn_iload (i := 4) rfl rfl ?_
  obtain ⟨hrc, hb⟩ := grd_spec hb
  obtain ⟨p1, hc, hb⟩ := Option.bind_eq_some_iff.mp hb
  refine Rn.call1 (d := e) (As := [va_rf v0, .int v1, .int v4]) (rest := []) rfl rfl rfl (by decide) rfl rfl rfl (bd_rcV hrc rfl) (by decide) (bd_lenC (n := 4) rfl (bd_slR (bd_slI (bd_slI bd_slN))) rfl) (bd_locC (n := 4) rfl (bd_slR (bd_slI (bd_slI bd_slN))) rfl (t_243 e (by omega) v0 v1 v4 h _ hc)) ?_
  obtain ⟨x2, ex2, hb⟩ := bnd_spec hb
  refine rn_istore (i := 5) (L1 := [some (va_rf v0), some (.int v1), some (.int v2), some (.int v3), some (.int v4), some (.int x2), v6.map Value.int]) rfl (Nat.le_of_ble_eq_true rfl) (Or.inr rfl) (by rw [ex2]; rfl) ?_
  refine rn_iload (i := 5) rfl rfl ?_
  refine rn_iconst (x := (-1 : Int32)) rfl (by decide) ?_
  refine rn_icmp_ne rfl rfl (fun hc => ?_) (fun hc => ?_)
  · exact u_244_148 (e + 1) hd k121 K121 v0 v1 v2 v3 v4 x2 v6  p1.2 _ (if_t hb hc)
  · exact u_244_145 (e + 1) hd v0 v1 v2 v3 v4 x2 v6  p1.2 _ (if_f hb hc)
def b_244_121 (k121 : Option Nat → Int32 → Int32 → Int32 → Hp → Option (Int32 × Hp)) (v0 : Option Nat) (v1 : Int32) (v3 : Int32) (v4 : Int32)  (h : Hp) : Option (Int32 × Hp) :=
  (grd (rC 11 v0 h)).bind fun _ =>
  (f_242 v0 v1 h).bind fun p1 =>
  if ¬ p1.1 = (-1 : Int32) then b_244_223 v0 v1 v3 v4  p1.2 else b_244_130 k121 v0 v1 v3 v4  p1.2
theorem u_244_121 (d : Nat) (hd : 5 ≤ d) (k121 : Option Nat → Int32 → Int32 → Int32 → Hp → Option (Int32 × Hp)) (K121 : ∀ (v0 : Option Nat) (v1 : Int32) (v2 : Int32) (v3 : Int32) (v4 : Int32) (v5 : Option (Int32)) (v6 : Option (Int32)) (h : Hp) (r : Int32 × Hp), k121 v0 v1 v3 v4 h = some r → Rn d 244 121 [some (va_rf v0), some (.int v1), some (.int v2), some (.int v3), some (.int v4), v5.map Value.int, v6.map Value.int] [] h (some (.int r.1), r.2)) (v0 : Option Nat) (v1 : Int32) (v2 : Int32) (v3 : Int32) (v4 : Int32) (v5 : Option (Int32)) (v6 : Option (Int32))  (h : Hp) (r : Int32 × Hp) (hb : b_244_121 k121 v0 v1 v3 v4  h = some r) : Rn d 244 121 [some (va_rf v0), some (.int v1), some (.int v2), some (.int v3), some (.int v4), v5.map Value.int, v6.map Value.int] [] h (some (.int r.1), r.2) := by
  unfold b_244_121 at hb
  obtain ⟨e, rfl⟩ : ∃ e, d = e + 1 := ⟨d - 1, by omega⟩
  refine rn_aload_n (i := 0) rfl rfl ?_
  refine rn_iload_n (i := 1) rfl rfl ?_
  obtain ⟨hrc, hb⟩ := grd_spec hb
  obtain ⟨p1, hc, hb⟩ := Option.bind_eq_some_iff.mp hb
  refine Rn.call1 (d := e) (As := [va_rf v0, .int v1]) (rest := []) rfl rfl rfl (by decide) rfl rfl rfl (bd_rcV hrc rfl) (by decide) (bd_lenC (n := 3) rfl (bd_slR (bd_slI bd_slN)) rfl) (bd_locC (n := 3) rfl (bd_slR (bd_slI bd_slN)) rfl (t_242 e (by omega) v0 v1 h _ hc)) ?_
  refine rn_iconst (x := (-1 : Int32)) rfl (by decide) ?_
  refine rn_icmp_ne rfl rfl (fun hc => ?_) (fun hc => ?_)
  · exact u_244_223 (e + 1) hd v0 v1 v2 v3 v4 v5 v6  p1.2 _ (if_t hb hc)
  · exact u_244_130 (e + 1) hd k121 K121 v0 v1 v2 v3 v4 v5 v6  p1.2 _ (if_f hb hc)
def l_244_121 : Nat → Option Nat → Int32 → Int32 → Int32 → Hp → Option (Int32 × Hp)
  | 0, _, _, _, _, _ => none
  | n + 1, v0, v1, v3, v4, h => b_244_121 (l_244_121 n) v0 v1 v3 v4 h
theorem w_244_121 (d : Nat) (hd : 5 ≤ d) : ∀ (n : Nat) (v0 : Option Nat) (v1 : Int32) (v2 : Int32) (v3 : Int32) (v4 : Int32) (v5 : Option (Int32)) (v6 : Option (Int32)) (h : Hp) (r : Int32 × Hp), l_244_121 n v0 v1 v3 v4 h = some r → Rn d 244 121 [some (va_rf v0), some (.int v1), some (.int v2), some (.int v3), some (.int v4), v5.map Value.int, v6.map Value.int] [] h (some (.int r.1), r.2) := by
  intro n
  induction n with
  | zero => intro v0 v1 v2 v3 v4 v5 v6 h r hb; cases hb
  | succ n ih => intro v0 v1 v2 v3 v4 v5 v6 h r hb; exact u_244_121 d hd (l_244_121 n) ih v0 v1 v2 v3 v4 v5 v6 h r hb
def b_244_98 (v0 : Option Nat) (v1 : Int32) (v2 : Int32) (v3 : Int32)  (h : Hp) : Option (Int32 × Hp) :=
  (pI 11 37 v0 (nI 0) h).bind fun h1 =>
  (grd (rC 11 v0 h1)).bind fun _ =>
  (f_203 v0 h1).bind fun p2 =>
  (pI 11 38 v0 p2.1 p2.2).bind fun h3 =>
  bnd ((nI 0)) fun x4 =>
  (grd (rC 11 v0 h3)).bind fun _ =>
  (f_241 v0 v1 v2 v1 h3).bind fun p5 =>
  l_244_121 FU v0 v1 v3 x4 p5
theorem u_244_98 (d : Nat) (hd : 5 ≤ d) (v0 : Option Nat) (v1 : Int32) (v2 : Int32) (v3 : Int32) (v4 : Int32)  (h : Hp) (r : Int32 × Hp) (hb : b_244_98 v0 v1 v2 v3  h = some r) : Rn d 244 98 [some (va_rf v0), some (.int v1), some (.int v2), some (.int v3), some (.int v4), none, none] [] h (some (.int r.1), r.2) := by
  unfold b_244_98 at hb
  obtain ⟨e, rfl⟩ : ∃ e, d = e + 1 := ⟨d - 1, by omega⟩
  refine rn_aload_n (i := 0) rfl rfl ?_
  refine rn_iconst (x := (nI 0)) rfl (by decide) ?_
  refine rn_pI (c := 11) (k := 37) rfl (by decide) hb (fun h1 hb => ?_)
  refine rn_aload_n (i := 0) rfl rfl ?_
  refine rn_aload_n (i := 0) rfl rfl ?_
  obtain ⟨hrc, hb⟩ := grd_spec hb
  obtain ⟨p2, hc, hb⟩ := Option.bind_eq_some_iff.mp hb
  refine Rn.call1 (d := e) (As := [va_rf v0]) (rest := [va_rf v0]) rfl rfl rfl (by decide) rfl rfl rfl (bd_rcV hrc rfl) (by rw [bd_cR (bd_cN)]; decide) (bd_lenC (n := 1) rfl (bd_slR bd_slN) rfl) (bd_locC (n := 1) rfl (bd_slR bd_slN) rfl (t_203 e (by omega) v0 h1 _ hc)) ?_
  refine rn_pI (c := 11) (k := 38) rfl (by decide) hb (fun h3 hb => ?_)
  refine rn_iconst (x := (nI 0)) rfl (by decide) ?_
  obtain ⟨x4, ex4, hb⟩ := bnd_spec hb
  refine rn_istore (i := 4) (L1 := [some (va_rf v0), some (.int v1), some (.int v2), some (.int v3), some (.int x4), none, none]) rfl (Nat.le_of_ble_eq_true rfl) (Or.inr rfl) (by rw [ex4]; rfl) ?_
  refine rn_aload_n (i := 0) rfl rfl ?_
  refine rn_iload_n (i := 1) rfl rfl ?_
  refine rn_iload_n (i := 2) rfl rfl ?_
  refine rn_iload_n (i := 1) rfl rfl ?_
  obtain ⟨hrc, hb⟩ := grd_spec hb
  obtain ⟨p5, hc, hb⟩ := Option.bind_eq_some_iff.mp hb
  refine Rn.call0 (d := e) (As := [va_rf v0, .int v1, .int v2, .int v1]) (rest := []) rfl rfl rfl (by decide) rfl rfl rfl (bd_rcV hrc rfl) (by decide) (bd_lenC (n := 6) rfl (bd_slR (bd_slI (bd_slI (bd_slI bd_slN)))) rfl) (bd_locC (n := 6) rfl (bd_slR (bd_slI (bd_slI (bd_slI bd_slN)))) rfl (t_241 e (by omega) v0 v1 v2 v1 h3 _ hc)) ?_
  exact w_244_121 (e + 1) hd FU v0 v1 v2 v3 x4 (none : Option (Int32)) (none : Option (Int32)) p5 _ hb
def b_244_70 (k61 : Option Nat → Int32 → Int32 → Int32 → Int32 → Hp → Option (Int32 × Hp)) (v0 : Option Nat) (v1 : Int32) (v2 : Int32) (v3 : Int32) (v4 : Int32)  (h : Hp) : Option (Int32 × Hp) :=
  (gQ 11 34 v0 h).bind fun x1 =>
  (gQ 11 29 v0 h).bind fun x2 =>
  (aI 12 x2 v4 h).bind fun x3 =>
  (wI x1 v4 x3 h).bind fun h4 =>
  (gQ 11 35 v0 h4).bind fun x5 =>
  (wI x5 v4 (-1 : Int32) h4).bind fun h6 =>
  bnd (v4 + (nI 1)) fun x7 =>
  k61 v0 v1 v2 v3 x7 h6
theorem u_244_70 (d : Nat) (hd : 5 ≤ d) (k61 : Option Nat → Int32 → Int32 → Int32 → Int32 → Hp → Option (Int32 × Hp)) (K61 : ∀ (v0 : Option Nat) (v1 : Int32) (v2 : Int32) (v3 : Int32) (v4 : Int32) (h : Hp) (r : Int32 × Hp), k61 v0 v1 v2 v3 v4 h = some r → Rn d 244 61 [some (va_rf v0), some (.int v1), some (.int v2), some (.int v3), some (.int v4), none, none] [] h (some (.int r.1), r.2)) (v0 : Option Nat) (v1 : Int32) (v2 : Int32) (v3 : Int32) (v4 : Int32)  (h : Hp) (r : Int32 × Hp) (hb : b_244_70 k61 v0 v1 v2 v3 v4  h = some r) : Rn d 244 70 [some (va_rf v0), some (.int v1), some (.int v2), some (.int v3), some (.int v4), none, none] [] h (some (.int r.1), r.2) := by
  unfold b_244_70 at hb
  refine rn_aload_n (i := 0) rfl rfl ?_
  refine rn_gQ (c := 11) (k := 34) rfl (by decide) hb (fun x1 hb => ?_)
  refine rn_iload (i := 4) rfl rfl ?_
  refine rn_aload_n (i := 0) rfl rfl ?_
  refine rn_gQ (c := 11) (k := 29) rfl (by decide) hb (fun x2 hb => ?_)
  refine rn_iload (i := 4) rfl rfl ?_
  refine rn_aI rfl hb (fun x3 hb => ?_)
  refine rn_wI rfl hb (fun h4 hb => ?_)
  refine rn_aload_n (i := 0) rfl rfl ?_
  refine rn_gQ (c := 11) (k := 35) rfl (by decide) hb (fun x5 hb => ?_)
  refine rn_iload (i := 4) rfl rfl ?_
  refine rn_iconst (x := (-1 : Int32)) rfl (by decide) ?_
  refine rn_wI rfl hb (fun h6 hb => ?_)
  obtain ⟨x7, ex7, hb⟩ := bnd_spec hb
  refine rn_iinc (i := 4) (y := x7) (L1 := [some (va_rf v0), some (.int v1), some (.int v2), some (.int v3), some (.int x7), none, none]) rfl rfl (Nat.le_of_ble_eq_true rfl) (Or.inr rfl) (by rw [ex7]; rfl) rfl ?_
  refine rn_goto rfl rfl ?_
  exact K61 v0 v1 v2 v3 x7 h6 _ hb
def b_244_61 (k61 : Option Nat → Int32 → Int32 → Int32 → Int32 → Hp → Option (Int32 × Hp)) (v0 : Option Nat) (v1 : Int32) (v2 : Int32) (v3 : Int32) (v4 : Int32)  (h : Hp) : Option (Int32 × Hp) :=
  (grd (rC 11 v0 h)).bind fun _ =>
  (f_203 v0 h).bind fun p1 =>
  if p1.1 ≤ v4 then b_244_98 v0 v1 v2 v3  p1.2 else b_244_70 k61 v0 v1 v2 v3 v4  p1.2
theorem u_244_61 (d : Nat) (hd : 5 ≤ d) (k61 : Option Nat → Int32 → Int32 → Int32 → Int32 → Hp → Option (Int32 × Hp)) (K61 : ∀ (v0 : Option Nat) (v1 : Int32) (v2 : Int32) (v3 : Int32) (v4 : Int32) (h : Hp) (r : Int32 × Hp), k61 v0 v1 v2 v3 v4 h = some r → Rn d 244 61 [some (va_rf v0), some (.int v1), some (.int v2), some (.int v3), some (.int v4), none, none] [] h (some (.int r.1), r.2)) (v0 : Option Nat) (v1 : Int32) (v2 : Int32) (v3 : Int32) (v4 : Int32)  (h : Hp) (r : Int32 × Hp) (hb : b_244_61 k61 v0 v1 v2 v3 v4  h = some r) : Rn d 244 61 [some (va_rf v0), some (.int v1), some (.int v2), some (.int v3), some (.int v4), none, none] [] h (some (.int r.1), r.2) := by
  unfold b_244_61 at hb
  obtain ⟨e, rfl⟩ : ∃ e, d = e + 1 := ⟨d - 1, by omega⟩
  refine rn_iload (i := 4) rfl rfl ?_
  refine rn_aload_n (i := 0) rfl rfl ?_
  obtain ⟨hrc, hb⟩ := grd_spec hb
  obtain ⟨p1, hc, hb⟩ := Option.bind_eq_some_iff.mp hb
  refine Rn.call1 (d := e) (As := [va_rf v0]) (rest := [.int v4]) rfl rfl rfl (by decide) rfl rfl rfl (bd_rcV hrc rfl) (by rw [bd_cI (bd_cN)]; decide) (bd_lenC (n := 1) rfl (bd_slR bd_slN) rfl) (bd_locC (n := 1) rfl (bd_slR bd_slN) rfl (t_203 e (by omega) v0 h _ hc)) ?_
  refine rn_icmp_ge rfl rfl (fun hc => ?_) (fun hc => ?_)
  · exact u_244_98 (e + 1) hd v0 v1 v2 v3 v4  p1.2 _ (if_t hb hc)
  · exact u_244_70 (e + 1) hd k61 K61 v0 v1 v2 v3 v4  p1.2 _ (if_f hb hc)
def l_244_61 : Nat → Option Nat → Int32 → Int32 → Int32 → Int32 → Hp → Option (Int32 × Hp)
  | 0, _, _, _, _, _, _ => none
  | n + 1, v0, v1, v2, v3, v4, h => b_244_61 (l_244_61 n) v0 v1 v2 v3 v4 h
theorem w_244_61 (d : Nat) (hd : 5 ≤ d) : ∀ (n : Nat) (v0 : Option Nat) (v1 : Int32) (v2 : Int32) (v3 : Int32) (v4 : Int32) (h : Hp) (r : Int32 × Hp), l_244_61 n v0 v1 v2 v3 v4 h = some r → Rn d 244 61 [some (va_rf v0), some (.int v1), some (.int v2), some (.int v3), some (.int v4), none, none] [] h (some (.int r.1), r.2) := by
  intro n
  induction n with
  | zero => intro v0 v1 v2 v3 v4 h r hb; cases hb
  | succ n ih => intro v0 v1 v2 v3 v4 h r hb; exact u_244_61 d hd (l_244_61 n) ih v0 v1 v2 v3 v4 h r hb
def b_244_58 (v0 : Option Nat) (v1 : Int32) (v2 : Int32) (v3 : Int32)  (h : Hp) : Option (Int32 × Hp) :=
  bnd ((nI 0)) fun x1 =>
  l_244_61 FU v0 v1 v2 v3 x1 h
theorem u_244_58 (d : Nat) (hd : 5 ≤ d) (v0 : Option Nat) (v1 : Int32) (v2 : Int32) (v3 : Int32)  (h : Hp) (r : Int32 × Hp) (hb : b_244_58 v0 v1 v2 v3  h = some r) : Rn d 244 58 [some (va_rf v0), some (.int v1), some (.int v2), some (.int v3), none, none, none] [] h (some (.int r.1), r.2) := by
  unfold b_244_58 at hb
  refine rn_iconst (x := (nI 0)) rfl (by decide) ?_
  obtain ⟨x1, ex1, hb⟩ := bnd_spec hb
  refine rn_istore (i := 4) (L1 := [some (va_rf v0), some (.int v1), some (.int v2), some (.int v3), some (.int x1), none, none]) rfl (Nat.le_of_ble_eq_true rfl) (Or.inr rfl) (by rw [ex1]; rfl) ?_
  exact w_244_61 d hd FU v0 v1 v2 v3 x1 h _ hb
def b_244_55   (h : Hp) : Option (Int32 × Hp) :=
  some ((-2 : Int32), h)
theorem u_244_55 (d : Nat) (hd : 5 ≤ d) (v0 : Option Nat) (v1 : Int32) (v2 : Int32) (v3 : Int32)  (h : Hp) (r : Int32 × Hp) (hb : b_244_55   h = some r) : Rn d 244 55 [some (va_rf v0), some (.int v1), some (.int v2), some (.int v3), none, none, none] [] h (some (.int r.1), r.2) := by
  unfold b_244_55 at hb
  refine rn_bipush (x := (-2 : Int32)) rfl (by decide) ?_
  obtain rfl := Option.some.inj hb
  exact rn_iret rfl rfl
def b_244_38 (v0 : Option Nat) (v1 : Int32) (v2 : Int32) (v3 : Int32)  (h : Hp) : Option (Int32 × Hp) :=
  (grd (rC 11 v0 h)).bind fun _ =>
  (f_225 v0 h).bind fun p1 =>
  (gQ 11 29 v0 p1).bind fun x2 =>
  (aI 12 x2 v1 p1).bind fun x3 =>
  (f_183 x3 v2 p1).bind fun p4 =>
  if ¬ p4.1 = 0 then b_244_58 v0 v1 v2 v3  p4.2 else b_244_55   p4.2
theorem u_244_38 (d : Nat) (hd : 5 ≤ d) (v0 : Option Nat) (v1 : Int32) (v2 : Int32) (v3 : Int32)  (h : Hp) (r : Int32 × Hp) (hb : b_244_38 v0 v1 v2 v3  h = some r) : Rn d 244 38 [some (va_rf v0), some (.int v1), some (.int v2), some (.int v3), none, none, none] [] h (some (.int r.1), r.2) := by
  unfold b_244_38 at hb
  obtain ⟨e, rfl⟩ : ∃ e, d = e + 1 := ⟨d - 1, by omega⟩
  refine rn_aload_n (i := 0) rfl rfl ?_
  obtain ⟨hrc, hb⟩ := grd_spec hb
  obtain ⟨p1, hc, hb⟩ := Option.bind_eq_some_iff.mp hb
  refine Rn.call0 (d := e) (As := [va_rf v0]) (rest := []) rfl rfl rfl (by decide) rfl rfl rfl (bd_rcV hrc rfl) (by decide) (bd_lenC (n := 7) rfl (bd_slR bd_slN) rfl) (bd_locC (n := 7) rfl (bd_slR bd_slN) rfl (t_225 e (by omega) v0 h _ hc)) ?_
  refine rn_aload_n (i := 0) rfl rfl ?_
  refine rn_gQ (c := 11) (k := 29) rfl (by decide) hb (fun x2 hb => ?_)
  refine rn_iload_n (i := 1) rfl rfl ?_
  refine rn_aI rfl hb (fun x3 hb => ?_)
  refine rn_iload_n (i := 2) rfl rfl ?_
  obtain ⟨p4, hc, hb⟩ := Option.bind_eq_some_iff.mp hb
  refine Rn.call1 (d := e) (As := [.int x3, .int v2]) (rest := []) rfl rfl rfl (by decide) rfl rfl rfl rfl (by decide) (bd_lenC (n := 2) rfl (bd_slI (bd_slI bd_slN)) rfl) (bd_locC (n := 2) rfl (bd_slI (bd_slI bd_slN)) rfl (t_183 e (by omega) x3 v2 p1 _ hc)) ?_
  refine rn_if_ne rfl rfl (fun hc => ?_) (fun hc => ?_)
  · exact u_244_58 (e + 1) hd v0 v1 v2 v3  p4.2 _ (if_t hb hc)
  · exact u_244_55 (e + 1) hd v0 v1 v2 v3  p4.2 _ (if_f hb hc)
def b_244_26 (v0 : Option Nat) (v1 : Int32) (v2 : Int32) (v3 : Int32)  (h : Hp) : Option (Int32 × Hp) :=
  (f_182 v3 (nI 0) (nI 2) h).bind fun p1 =>
  if ¬ p1.1 = 0 then b_244_38 v0 v1 v2 v3  p1.2 else b_244_35   p1.2
theorem u_244_26 (d : Nat) (hd : 5 ≤ d) (v0 : Option Nat) (v1 : Int32) (v2 : Int32) (v3 : Int32)  (h : Hp) (r : Int32 × Hp) (hb : b_244_26 v0 v1 v2 v3  h = some r) : Rn d 244 26 [some (va_rf v0), some (.int v1), some (.int v2), some (.int v3), none, none, none] [] h (some (.int r.1), r.2) := by
  unfold b_244_26 at hb
  obtain ⟨e, rfl⟩ : ∃ e, d = e + 1 := ⟨d - 1, by omega⟩
  refine rn_iload_n (i := 3) rfl rfl ?_
  refine rn_iconst (x := (nI 0)) rfl (by decide) ?_
  refine rn_iconst (x := (nI 2)) rfl (by decide) ?_
  obtain ⟨p1, hc, hb⟩ := Option.bind_eq_some_iff.mp hb
  refine Rn.call1 (d := e) (As := [.int v3, .int (nI 0), .int (nI 2)]) (rest := []) rfl rfl rfl (by decide) rfl rfl rfl rfl (by decide) (bd_lenC (n := 3) rfl (bd_slI (bd_slI (bd_slI bd_slN))) rfl) (bd_locC (n := 3) rfl (bd_slI (bd_slI (bd_slI bd_slN))) rfl (t_182 e (by omega) v3 (nI 0) (nI 2) h _ hc)) ?_
  refine rn_if_ne rfl rfl (fun hc => ?_) (fun hc => ?_)
  · exact u_244_38 (e + 1) hd v0 v1 v2 v3  p1.2 _ (if_t hb hc)
  · exact u_244_35 (e + 1) hd v0 v1 v2 v3  p1.2 _ (if_f hb hc)
def b_244_17 (v0 : Option Nat) (v1 : Int32) (v2 : Int32) (v3 : Int32)  (h : Hp) : Option (Int32 × Hp) :=
  (f_182 v2 (nI 0) (nI 3) h).bind fun p1 =>
  if p1.1 = 0 then b_244_35   p1.2 else b_244_26 v0 v1 v2 v3  p1.2
theorem u_244_17 (d : Nat) (hd : 5 ≤ d) (v0 : Option Nat) (v1 : Int32) (v2 : Int32) (v3 : Int32)  (h : Hp) (r : Int32 × Hp) (hb : b_244_17 v0 v1 v2 v3  h = some r) : Rn d 244 17 [some (va_rf v0), some (.int v1), some (.int v2), some (.int v3), none, none, none] [] h (some (.int r.1), r.2) := by
  unfold b_244_17 at hb
  obtain ⟨e, rfl⟩ : ∃ e, d = e + 1 := ⟨d - 1, by omega⟩
  refine rn_iload_n (i := 2) rfl rfl ?_
  refine rn_iconst (x := (nI 0)) rfl (by decide) ?_
  refine rn_iconst (x := (nI 3)) rfl (by decide) ?_
  obtain ⟨p1, hc, hb⟩ := Option.bind_eq_some_iff.mp hb
  refine Rn.call1 (d := e) (As := [.int v2, .int (nI 0), .int (nI 3)]) (rest := []) rfl rfl rfl (by decide) rfl rfl rfl rfl (by decide) (bd_lenC (n := 3) rfl (bd_slI (bd_slI (bd_slI bd_slN))) rfl) (bd_locC (n := 3) rfl (bd_slI (bd_slI (bd_slI bd_slN))) rfl (t_182 e (by omega) v2 (nI 0) (nI 3) h _ hc)) ?_
  refine rn_if_eq rfl rfl (fun hc => ?_) (fun hc => ?_)
  · exact u_244_35 (e + 1) hd v0 v1 v2 v3  p1.2 _ (if_t hb hc)
  · exact u_244_26 (e + 1) hd v0 v1 v2 v3  p1.2 _ (if_f hb hc)
def b_244_0 (v0 : Option Nat) (v1 : Int32) (v2 : Int32) (v3 : Int32)  (h : Hp) : Option (Int32 × Hp) :=
  (pI 11 0 v0 (nI 0) h).bind fun h1 =>
  (grd (rC 11 v0 h1)).bind fun _ =>
  (f_202 v0 h1).bind fun p2 =>
  (grd (rC 11 v0 p2)).bind fun _ =>
  (f_204 v0 v1 p2).bind fun p3 =>
  if p3.1 = 0 then b_244_35   p3.2 else b_244_17 v0 v1 v2 v3  p3.2
theorem u_244_0 (d : Nat) (hd : 5 ≤ d) (v0 : Option Nat) (v1 : Int32) (v2 : Int32) (v3 : Int32)  (h : Hp) (r : Int32 × Hp) (hb : b_244_0 v0 v1 v2 v3  h = some r) : Rn d 244 0 [some (va_rf v0), some (.int v1), some (.int v2), some (.int v3), none, none, none] [] h (some (.int r.1), r.2) := by
  unfold b_244_0 at hb
  obtain ⟨e, rfl⟩ : ∃ e, d = e + 1 := ⟨d - 1, by omega⟩
  refine rn_aload_n (i := 0) rfl rfl ?_
  refine rn_iconst (x := (nI 0)) rfl (by decide) ?_
  refine rn_pI (c := 11) (k := 0) rfl (by decide) hb (fun h1 hb => ?_)
  refine rn_aload_n (i := 0) rfl rfl ?_
  obtain ⟨hrc, hb⟩ := grd_spec hb
  obtain ⟨p2, hc, hb⟩ := Option.bind_eq_some_iff.mp hb
  refine Rn.call0 (d := e) (As := [va_rf v0]) (rest := []) rfl rfl rfl (by decide) rfl rfl rfl (bd_rcV hrc rfl) (by decide) (bd_lenC (n := 1) rfl (bd_slR bd_slN) rfl) (bd_locC (n := 1) rfl (bd_slR bd_slN) rfl (t_202 e (by omega) v0 h1 _ hc)) ?_
  refine rn_aload_n (i := 0) rfl rfl ?_
  refine rn_iload_n (i := 1) rfl rfl ?_
  obtain ⟨hrc, hb⟩ := grd_spec hb
  obtain ⟨p3, hc, hb⟩ := Option.bind_eq_some_iff.mp hb
  refine Rn.call1 (d := e) (As := [va_rf v0, .int v1]) (rest := []) rfl rfl rfl (by decide) rfl rfl rfl (bd_rcV hrc rfl) (by decide) (bd_lenC (n := 2) rfl (bd_slR (bd_slI bd_slN)) rfl) (bd_locC (n := 2) rfl (bd_slR (bd_slI bd_slN)) rfl (t_204 e (by omega) v0 v1 p2 _ hc)) ?_
  refine rn_if_eq rfl rfl (fun hc => ?_) (fun hc => ?_)
  · exact u_244_35 (e + 1) hd v0 v1 v2 v3  p3.2 _ (if_t hb hc)
  · exact u_244_17 (e + 1) hd v0 v1 v2 v3  p3.2 _ (if_f hb hc)
/-- BitingDoorsModel.forces(III)I -/
def f_244 (v0 : Option Nat) (v1 : Int32) (v2 : Int32) (v3 : Int32) (h : Hp) : Option (Int32 × Hp) := b_244_0 v0 v1 v2 v3 h
theorem t_244 (d : Nat) (hd : 5 ≤ d) (v0 : Option Nat) (v1 : Int32) (v2 : Int32) (v3 : Int32) (h : Hp) (r : Int32 × Hp) (hb : f_244 v0 v1 v2 v3 h = some r) : Rn d 244 0 [some (va_rf v0), some (.int v1), some (.int v2), some (.int v3), none, none, none] [] h (some (.int r.1), r.2) := by
  unfold f_244 at hb
  exact u_244_0 d hd v0 v1 v2 v3 h r hb
def b_245_27  (s0 : Int32) (h : Hp) : Option (Int32 × Hp) :=
  some (s0, h)
theorem u_245_27 (d : Nat) (hd : 0 ≤ d) (v0 : Option Nat) (v1 : Int32) (s0 : Int32) (h : Hp) (r : Int32 × Hp) (hb : b_245_27  s0 h = some r) : Rn d 245 27 [some (va_rf v0), some (.int v1)] [.int s0] h (some (.int r.1), r.2) := by
  unfold b_245_27 at hb
  obtain rfl := Option.some.inj hb
  exact rn_iret rfl rfl
def b_245_26   (h : Hp) : Option (Int32 × Hp) :=
  b_245_27  (-1 : Int32) h
theorem u_245_26 (d : Nat) (hd : 0 ≤ d) (v0 : Option Nat) (v1 : Int32)  (h : Hp) (r : Int32 × Hp) (hb : b_245_26   h = some r) : Rn d 245 26 [some (va_rf v0), some (.int v1)] [] h (some (.int r.1), r.2) := by
  unfold b_245_26 at hb
  refine rn_iconst (x := (-1 : Int32)) rfl (by decide) ?_
  exact u_245_27 d hd v0 v1 (-1 : Int32) h _ hb
def b_245_17 (v0 : Option Nat) (v1 : Int32)  (h : Hp) : Option (Int32 × Hp) :=
  (gQ 11 35 v0 h).bind fun x1 =>
  (aI 12 x1 v1 h).bind fun x2 =>
  b_245_27  x2 h
theorem u_245_17 (d : Nat) (hd : 0 ≤ d) (v0 : Option Nat) (v1 : Int32)  (h : Hp) (r : Int32 × Hp) (hb : b_245_17 v0 v1  h = some r) : Rn d 245 17 [some (va_rf v0), some (.int v1)] [] h (some (.int r.1), r.2) := by
  unfold b_245_17 at hb
  refine rn_aload_n (i := 0) rfl rfl ?_
  refine rn_gQ (c := 11) (k := 35) rfl (by decide) hb (fun x1 hb => ?_)
  refine rn_iload_n (i := 1) rfl rfl ?_
  refine rn_aI rfl hb (fun x2 hb => ?_)
  refine rn_goto rfl rfl ?_
  exact u_245_27 d hd v0 v1 x2 h _ hb
def b_245_9 (v0 : Option Nat) (v1 : Int32)  (h : Hp) : Option (Int32 × Hp) :=
  (gI 11 38 v0 h).bind fun x1 =>
  if x1 ≤ v1 then b_245_26   h else b_245_17 v0 v1  h
theorem u_245_9 (d : Nat) (hd : 0 ≤ d) (v0 : Option Nat) (v1 : Int32)  (h : Hp) (r : Int32 × Hp) (hb : b_245_9 v0 v1  h = some r) : Rn d 245 9 [some (va_rf v0), some (.int v1)] [] h (some (.int r.1), r.2) := by
  unfold b_245_9 at hb
  refine rn_iload_n (i := 1) rfl rfl ?_
  refine rn_aload_n (i := 0) rfl rfl ?_
  refine rn_gI (c := 11) (k := 38) rfl (by decide) hb (fun x1 hb => ?_)
  refine rn_icmp_ge rfl rfl (fun hc => ?_) (fun hc => ?_)
  · exact u_245_26 d hd v0 v1  h _ (if_t hb hc)
  · exact u_245_17 d hd v0 v1  h _ (if_f hb hc)
def b_245_0 (v0 : Option Nat) (v1 : Int32)  (h : Hp) : Option (Int32 × Hp) :=
  (pI 11 0 v0 (nI 0) h).bind fun h1 =>
  if v1 < 0 then b_245_26   h1 else b_245_9 v0 v1  h1
theorem u_245_0 (d : Nat) (hd : 0 ≤ d) (v0 : Option Nat) (v1 : Int32)  (h : Hp) (r : Int32 × Hp) (hb : b_245_0 v0 v1  h = some r) : Rn d 245 0 [some (va_rf v0), some (.int v1)] [] h (some (.int r.1), r.2) := by
  unfold b_245_0 at hb
  refine rn_aload_n (i := 0) rfl rfl ?_
  refine rn_iconst (x := (nI 0)) rfl (by decide) ?_
  refine rn_pI (c := 11) (k := 0) rfl (by decide) hb (fun h1 hb => ?_)
  refine rn_iload_n (i := 1) rfl rfl ?_
  refine rn_if_lt rfl rfl (fun hc => ?_) (fun hc => ?_)
  · exact u_245_26 d hd v0 v1  h1 _ (if_t hb hc)
  · exact u_245_9 d hd v0 v1  h1 _ (if_f hb hc)
/-- BitingDoorsModel.forced(I)I -/
def f_245 (v0 : Option Nat) (v1 : Int32) (h : Hp) : Option (Int32 × Hp) := b_245_0 v0 v1 h
theorem t_245 (d : Nat) (hd : 0 ≤ d) (v0 : Option Nat) (v1 : Int32) (h : Hp) (r : Int32 × Hp) (hb : f_245 v0 v1 h = some r) : Rn d 245 0 [some (va_rf v0), some (.int v1)] [] h (some (.int r.1), r.2) := by
  unfold f_245 at hb
  exact u_245_0 d hd v0 v1 h r hb
def b_246_27  (s0 : Int32) (h : Hp) : Option (Int32 × Hp) :=
  some (s0, h)
theorem u_246_27 (d : Nat) (hd : 0 ≤ d) (v0 : Option Nat) (v1 : Int32) (s0 : Int32) (h : Hp) (r : Int32 × Hp) (hb : b_246_27  s0 h = some r) : Rn d 246 27 [some (va_rf v0), some (.int v1)] [.int s0] h (some (.int r.1), r.2) := by
  unfold b_246_27 at hb
  obtain rfl := Option.some.inj hb
  exact rn_iret rfl rfl
def b_246_26   (h : Hp) : Option (Int32 × Hp) :=
  b_246_27  (-1 : Int32) h
theorem u_246_26 (d : Nat) (hd : 0 ≤ d) (v0 : Option Nat) (v1 : Int32)  (h : Hp) (r : Int32 × Hp) (hb : b_246_26   h = some r) : Rn d 246 26 [some (va_rf v0), some (.int v1)] [] h (some (.int r.1), r.2) := by
  unfold b_246_26 at hb
  refine rn_iconst (x := (-1 : Int32)) rfl (by decide) ?_
  exact u_246_27 d hd v0 v1 (-1 : Int32) h _ hb
def b_246_17 (v0 : Option Nat) (v1 : Int32)  (h : Hp) : Option (Int32 × Hp) :=
  (gQ 11 36 v0 h).bind fun x1 =>
  (aI 12 x1 v1 h).bind fun x2 =>
  b_246_27  x2 h
theorem u_246_17 (d : Nat) (hd : 0 ≤ d) (v0 : Option Nat) (v1 : Int32)  (h : Hp) (r : Int32 × Hp) (hb : b_246_17 v0 v1  h = some r) : Rn d 246 17 [some (va_rf v0), some (.int v1)] [] h (some (.int r.1), r.2) := by
  unfold b_246_17 at hb
  refine rn_aload_n (i := 0) rfl rfl ?_
  refine rn_gQ (c := 11) (k := 36) rfl (by decide) hb (fun x1 hb => ?_)
  refine rn_iload_n (i := 1) rfl rfl ?_
  refine rn_aI rfl hb (fun x2 hb => ?_)
  refine rn_goto rfl rfl ?_
  exact u_246_27 d hd v0 v1 x2 h _ hb
def b_246_9 (v0 : Option Nat) (v1 : Int32)  (h : Hp) : Option (Int32 × Hp) :=
  (gI 11 37 v0 h).bind fun x1 =>
  if x1 ≤ v1 then b_246_26   h else b_246_17 v0 v1  h
theorem u_246_9 (d : Nat) (hd : 0 ≤ d) (v0 : Option Nat) (v1 : Int32)  (h : Hp) (r : Int32 × Hp) (hb : b_246_9 v0 v1  h = some r) : Rn d 246 9 [some (va_rf v0), some (.int v1)] [] h (some (.int r.1), r.2) := by
  unfold b_246_9 at hb
  refine rn_iload_n (i := 1) rfl rfl ?_
  refine rn_aload_n (i := 0) rfl rfl ?_
  refine rn_gI (c := 11) (k := 37) rfl (by decide) hb (fun x1 hb => ?_)
  refine rn_icmp_ge rfl rfl (fun hc => ?_) (fun hc => ?_)
  · exact u_246_26 d hd v0 v1  h _ (if_t hb hc)
  · exact u_246_17 d hd v0 v1  h _ (if_f hb hc)
def b_246_0 (v0 : Option Nat) (v1 : Int32)  (h : Hp) : Option (Int32 × Hp) :=
  (pI 11 0 v0 (nI 0) h).bind fun h1 =>
  if v1 < 0 then b_246_26   h1 else b_246_9 v0 v1  h1
theorem u_246_0 (d : Nat) (hd : 0 ≤ d) (v0 : Option Nat) (v1 : Int32)  (h : Hp) (r : Int32 × Hp) (hb : b_246_0 v0 v1  h = some r) : Rn d 246 0 [some (va_rf v0), some (.int v1)] [] h (some (.int r.1), r.2) := by
  unfold b_246_0 at hb
  refine rn_aload_n (i := 0) rfl rfl ?_
  refine rn_iconst (x := (nI 0)) rfl (by decide) ?_
  refine rn_pI (c := 11) (k := 0) rfl (by decide) hb (fun h1 hb => ?_)
  refine rn_iload_n (i := 1) rfl rfl ?_
  refine rn_if_lt rfl rfl (fun hc => ?_) (fun hc => ?_)
  · exact u_246_26 d hd v0 v1  h1 _ (if_t hb hc)
  · exact u_246_9 d hd v0 v1  h1 _ (if_f hb hc)
/-- BitingDoorsModel.forcedAt(I)I -/
def f_246 (v0 : Option Nat) (v1 : Int32) (h : Hp) : Option (Int32 × Hp) := b_246_0 v0 v1 h
theorem t_246 (d : Nat) (hd : 0 ≤ d) (v0 : Option Nat) (v1 : Int32) (h : Hp) (r : Int32 × Hp) (hb : f_246 v0 v1 h = some r) : Rn d 246 0 [some (va_rf v0), some (.int v1)] [] h (some (.int r.1), r.2) := by
  unfold f_246 at hb
  exact u_246_0 d hd v0 v1 h r hb
def b_247_86 (R : Option Nat → Int32 → Int32 → Hp → Option (Int32 × Hp))   (h : Hp) : Option (Int32 × Hp) :=
  (grd (decide ((nI 0) = 0 ∨ (nI 0) = 1))).bind fun _ => some ((nI 0), h)
theorem u_247_86 (E : Nat) (hE : 1 ≤ E) (d : Nat) (hd : E + 1 ≤ d) (R : Option Nat → Int32 → Int32 → Hp → Option (Int32 × Hp)) (HR : ∀ (d : Nat) (a0 : Option Nat) (a1 : Int32) (a2 : Int32) (h : Hp) (r : Int32 × Hp), E ≤ d → R a0 a1 a2 h = some r → Rn d 247 0 [some (va_rf a0), some (.int a1), some (.int a2), none] [] h (some (.int r.1), r.2)) (v0 : Option Nat) (v1 : Int32) (v2 : Int32) (v3 : Int32)  (h : Hp) (r : Int32 × Hp) (hb : b_247_86 R   h = some r) : Rn d 247 86 [some (va_rf v0), some (.int v1), some (.int v2), some (.int v3)] [] h (some (.int r.1), r.2) := by
  unfold b_247_86 at hb
  refine rn_iconst (x := (nI 0)) rfl (by decide) ?_
  obtain ⟨hz, hb⟩ := grd_spec hb
  obtain rfl := Option.some.inj hb
  exact rn_zret rfl rfl (of_decide_eq_true hz)
def b_247_80 (R : Option Nat → Int32 → Int32 → Hp → Option (Int32 × Hp)) (k29 : Option Nat → Int32 → Int32 → Int32 → Hp → Option (Int32 × Hp)) (v0 : Option Nat) (v1 : Int32) (v2 : Int32) (v3 : Int32)  (h : Hp) : Option (Int32 × Hp) :=
  bnd (v3 + (nI 1)) fun x1 =>
  k29 v0 v1 v2 x1 h
theorem u_247_80 (E : Nat) (hE : 1 ≤ E) (d : Nat) (hd : E + 1 ≤ d) (R : Option Nat → Int32 → Int32 → Hp → Option (Int32 × Hp)) (HR : ∀ (d : Nat) (a0 : Option Nat) (a1 : Int32) (a2 : Int32) (h : Hp) (r : Int32 × Hp), E ≤ d → R a0 a1 a2 h = some r → Rn d 247 0 [some (va_rf a0), some (.int a1), some (.int a2), none] [] h (some (.int r.1), r.2)) (k29 : Option Nat → Int32 → Int32 → Int32 → Hp → Option (Int32 × Hp)) (K29 : ∀ (v0 : Option Nat) (v1 : Int32) (v2 : Int32) (v3 : Int32) (h : Hp) (r : Int32 × Hp), k29 v0 v1 v2 v3 h = some r → Rn d 247 29 [some (va_rf v0), some (.int v1), some (.int v2), some (.int v3)] [] h (some (.int r.1), r.2)) (v0 : Option Nat) (v1 : Int32) (v2 : Int32) (v3 : Int32)  (h : Hp) (r : Int32 × Hp) (hb : b_247_80 R k29 v0 v1 v2 v3  h = some r) : Rn d 247 80 [some (va_rf v0), some (.int v1), some (.int v2), some (.int v3)] [] h (some (.int r.1), r.2) := by
  unfold b_247_80 at hb
  obtain ⟨x1, ex1, hb⟩ := bnd_spec hb
  refine rn_iinc (i := 3) (y := x1) (L1 := [some (va_rf v0), some (.int v1), some (.int v2), some (.int x1)]) rfl rfl (Nat.le_of_ble_eq_true rfl) (Or.inr rfl) (by rw [ex1]; rfl) rfl ?_
  refine rn_goto rfl rfl ?_
  exact K29 v0 v1 v2 x1 h _ hb
def b_247_78 (R : Option Nat → Int32 → Int32 → Hp → Option (Int32 × Hp))   (h : Hp) : Option (Int32 × Hp) :=
  (grd (decide ((nI 1) = 0 ∨ (nI 1) = 1))).bind fun _ => some ((nI 1), h)
theorem u_247_78 (E : Nat) (hE : 1 ≤ E) (d : Nat) (hd : E + 1 ≤ d) (R : Option Nat → Int32 → Int32 → Hp → Option (Int32 × Hp)) (HR : ∀ (d : Nat) (a0 : Option Nat) (a1 : Int32) (a2 : Int32) (h : Hp) (r : Int32 × Hp), E ≤ d → R a0 a1 a2 h = some r → Rn d 247 0 [some (va_rf a0), some (.int a1), some (.int a2), none] [] h (some (.int r.1), r.2)) (v0 : Option Nat) (v1 : Int32) (v2 : Int32) (v3 : Int32)  (h : Hp) (r : Int32 × Hp) (hb : b_247_78 R   h = some r) : Rn d 247 78 [some (va_rf v0), some (.int v1), some (.int v2), some (.int v3)] [] h (some (.int r.1), r.2) := by
  unfold b_247_78 at hb
  refine rn_iconst (x := (nI 1)) rfl (by decide) ?_
  obtain ⟨hz, hb⟩ := grd_spec hb
  obtain rfl := Option.some.inj hb
  exact rn_zret rfl rfl (of_decide_eq_true hz)
def b_247_60 (R : Option Nat → Int32 → Int32 → Hp → Option (Int32 × Hp)) (k29 : Option Nat → Int32 → Int32 → Int32 → Hp → Option (Int32 × Hp)) (v0 : Option Nat) (v1 : Int32) (v2 : Int32) (v3 : Int32)  (h : Hp) : Option (Int32 × Hp) :=
  (gQ 11 30 v0 h).bind fun x1 =>
  (wI x1 v1 v3 h).bind fun h2 =>
  (grd (rC 11 v0 h2)).bind fun _ =>
  (R v0 (v1 + (nI 1)) v2 h2).bind fun p3 =>
  if p3.1 = 0 then b_247_80 R k29 v0 v1 v2 v3  p3.2 else b_247_78 R   p3.2
theorem u_247_60 (E : Nat) (hE : 1 ≤ E) (d : Nat) (hd : E + 1 ≤ d) (R : Option Nat → Int32 → Int32 → Hp → Option (Int32 × Hp)) (HR : ∀ (d : Nat) (a0 : Option Nat) (a1 : Int32) (a2 : Int32) (h : Hp) (r : Int32 × Hp), E ≤ d → R a0 a1 a2 h = some r → Rn d 247 0 [some (va_rf a0), some (.int a1), some (.int a2), none] [] h (some (.int r.1), r.2)) (k29 : Option Nat → Int32 → Int32 → Int32 → Hp → Option (Int32 × Hp)) (K29 : ∀ (v0 : Option Nat) (v1 : Int32) (v2 : Int32) (v3 : Int32) (h : Hp) (r : Int32 × Hp), k29 v0 v1 v2 v3 h = some r → Rn d 247 29 [some (va_rf v0), some (.int v1), some (.int v2), some (.int v3)] [] h (some (.int r.1), r.2)) (v0 : Option Nat) (v1 : Int32) (v2 : Int32) (v3 : Int32)  (h : Hp) (r : Int32 × Hp) (hb : b_247_60 R k29 v0 v1 v2 v3  h = some r) : Rn d 247 60 [some (va_rf v0), some (.int v1), some (.int v2), some (.int v3)] [] h (some (.int r.1), r.2) := by
  unfold b_247_60 at hb
  obtain ⟨e, rfl⟩ : ∃ e, d = e + 1 := ⟨d - 1, by omega⟩
  refine rn_aload_n (i := 0) rfl rfl ?_
  refine rn_gQ (c := 11) (k := 30) rfl (by decide) hb (fun x1 hb => ?_)
  refine rn_iload_n (i := 1) rfl rfl ?_
  refine rn_iload_n (i := 3) rfl rfl ?_
  refine rn_wI rfl hb (fun h2 hb => ?_)
  refine rn_aload_n (i := 0) rfl rfl ?_
  refine rn_iload_n (i := 1) rfl rfl ?_
  refine rn_iconst (x := (nI 1)) rfl (by decide) ?_
  refine rn_iadd rfl ?_
  refine rn_iload_n (i := 2) rfl rfl ?_
  obtain ⟨hrc, hb⟩ := grd_spec hb
  obtain ⟨p3, hc, hb⟩ := Option.bind_eq_some_iff.mp hb
  refine Rn.call1 (d := e) (As := [va_rf v0, .int (v1 + (nI 1)), .int v2]) (rest := []) rfl rfl rfl (by decide) rfl rfl rfl (bd_rcV hrc rfl) (by decide) (bd_lenC (n := 4) rfl (bd_slR (bd_slI (bd_slI bd_slN))) rfl) (bd_locC (n := 4) rfl (bd_slR (bd_slI (bd_slI bd_slN))) rfl (HR e v0 (v1 + (nI 1)) v2 h2 _ (by omega) hc)) ?_
  refine rn_if_eq rfl rfl (fun hc => ?_) (fun hc => ?_)
  · exact u_247_80 E hE (e + 1) hd R HR k29 K29 v0 v1 v2 v3  p3.2 _ (if_t hb hc)
  · exact u_247_78 E hE (e + 1) hd R HR v0 v1 v2 v3  p3.2 _ (if_f hb hc)
def b_247_57 (R : Option Nat → Int32 → Int32 → Hp → Option (Int32 × Hp)) (k29 : Option Nat → Int32 → Int32 → Int32 → Hp → Option (Int32 × Hp)) (v0 : Option Nat) (v1 : Int32) (v2 : Int32) (v3 : Int32)  (h : Hp) : Option (Int32 × Hp) :=
  b_247_80 R k29 v0 v1 v2 v3  h
theorem u_247_57 (E : Nat) (hE : 1 ≤ E) (d : Nat) (hd : E + 1 ≤ d) (R : Option Nat → Int32 → Int32 → Hp → Option (Int32 × Hp)) (HR : ∀ (d : Nat) (a0 : Option Nat) (a1 : Int32) (a2 : Int32) (h : Hp) (r : Int32 × Hp), E ≤ d → R a0 a1 a2 h = some r → Rn d 247 0 [some (va_rf a0), some (.int a1), some (.int a2), none] [] h (some (.int r.1), r.2)) (k29 : Option Nat → Int32 → Int32 → Int32 → Hp → Option (Int32 × Hp)) (K29 : ∀ (v0 : Option Nat) (v1 : Int32) (v2 : Int32) (v3 : Int32) (h : Hp) (r : Int32 × Hp), k29 v0 v1 v2 v3 h = some r → Rn d 247 29 [some (va_rf v0), some (.int v1), some (.int v2), some (.int v3)] [] h (some (.int r.1), r.2)) (v0 : Option Nat) (v1 : Int32) (v2 : Int32) (v3 : Int32)  (h : Hp) (r : Int32 × Hp) (hb : b_247_57 R k29 v0 v1 v2 v3  h = some r) : Rn d 247 57 [some (va_rf v0), some (.int v1), some (.int v2), some (.int v3)] [] h (some (.int r.1), r.2) := by
  unfold b_247_57 at hb
  refine rn_goto rfl rfl ?_
  exact u_247_80 E hE d hd R HR k29 K29 v0 v1 v2 v3  h _ hb
def b_247_47 (R : Option Nat → Int32 → Int32 → Hp → Option (Int32 × Hp)) (k29 : Option Nat → Int32 → Int32 → Int32 → Hp → Option (Int32 × Hp)) (v0 : Option Nat) (v1 : Int32) (v2 : Int32) (v3 : Int32)  (h : Hp) : Option (Int32 × Hp) :=
  (grd (rC 11 v0 h)).bind fun _ =>
  (f_232 v0 v1 v3 v2 h).bind fun p1 =>
  if ¬ p1.1 = 0 then b_247_60 R k29 v0 v1 v2 v3  p1.2 else b_247_57 R k29 v0 v1 v2 v3  p1.2
theorem u_247_47 (E : Nat) (hE : 1 ≤ E) (d : Nat) (hd : E + 1 ≤ d) (R : Option Nat → Int32 → Int32 → Hp → Option (Int32 × Hp)) (HR : ∀ (d : Nat) (a0 : Option Nat) (a1 : Int32) (a2 : Int32) (h : Hp) (r : Int32 × Hp), E ≤ d → R a0 a1 a2 h = some r → Rn d 247 0 [some (va_rf a0), some (.int a1), some (.int a2), none] [] h (some (.int r.1), r.2)) (k29 : Option Nat → Int32 → Int32 → Int32 → Hp → Option (Int32 × Hp)) (K29 : ∀ (v0 : Option Nat) (v1 : Int32) (v2 : Int32) (v3 : Int32) (h : Hp) (r : Int32 × Hp), k29 v0 v1 v2 v3 h = some r → Rn d 247 29 [some (va_rf v0), some (.int v1), some (.int v2), some (.int v3)] [] h (some (.int r.1), r.2)) (v0 : Option Nat) (v1 : Int32) (v2 : Int32) (v3 : Int32)  (h : Hp) (r : Int32 × Hp) (hb : b_247_47 R k29 v0 v1 v2 v3  h = some r) : Rn d 247 47 [some (va_rf v0), some (.int v1), some (.int v2), some (.int v3)] [] h (some (.int r.1), r.2) := by
  unfold b_247_47 at hb
  obtain ⟨e, rfl⟩ : ∃ e, d = e + 1 := ⟨d - 1, by omega⟩
  refine rn_aload_n (i := 0) rfl rfl ?_
  refine rn_iload_n (i := 1) rfl rfl ?_
  refine rn_iload_n (i := 3) rfl rfl ?_
  refine rn_iload_n (i := 2) rfl rfl ?_
  obtain ⟨hrc, hb⟩ := grd_spec hb
  obtain ⟨p1, hc, hb⟩ := Option.bind_eq_some_iff.mp hb
  refine Rn.call1 (d := e) (As := [va_rf v0, .int v1, .int v3, .int v2]) (rest := []) rfl rfl rfl (by decide) rfl rfl rfl (bd_rcV hrc rfl) (by decide) (bd_lenC (n := 5) rfl (bd_slR (bd_slI (bd_slI (bd_slI bd_slN)))) rfl) (bd_locC (n := 5) rfl (bd_slR (bd_slI (bd_slI (bd_slI bd_slN)))) rfl (t_232 e (by omega) v0 v1 v3 v2 h _ hc)) ?_
  refine rn_if_ne rfl rfl (fun hc => ?_) (fun hc => ?_)
  · exact u_247_60 E hE (e + 1) hd R HR k29 K29 v0 v1 v2 v3  p1.2 _ (if_t hb hc)
  · exact u_247_57 E hE (e + 1) hd R HR k29 K29 v0 v1 v2 v3  p1.2 _ (if_f hb hc)
def b_247_34 (R : Option Nat → Int32 → Int32 → Hp → Option (Int32 × Hp)) (k29 : Option Nat → Int32 → Int32 → Int32 → Hp → Option (Int32 × Hp)) (v0 : Option Nat) (v1 : Int32) (v2 : Int32) (v3 : Int32)  (h : Hp) : Option (Int32 × Hp) :=
  (gQ 11 29 v0 h).bind fun x1 =>
  (aI 12 x1 v1 h).bind fun x2 =>
  (f_183 x2 v3 h).bind fun p3 =>
  if p3.1 = 0 then b_247_80 R k29 v0 v1 v2 v3  p3.2 else b_247_47 R k29 v0 v1 v2 v3  p3.2
theorem u_247_34 (E : Nat) (hE : 1 ≤ E) (d : Nat) (hd : E + 1 ≤ d) (R : Option Nat → Int32 → Int32 → Hp → Option (Int32 × Hp)) (HR : ∀ (d : Nat) (a0 : Option Nat) (a1 : Int32) (a2 : Int32) (h : Hp) (r : Int32 × Hp), E ≤ d → R a0 a1 a2 h = some r → Rn d 247 0 [some (va_rf a0), some (.int a1), some (.int a2), none] [] h (some (.int r.1), r.2)) (k29 : Option Nat → Int32 → Int32 → Int32 → Hp → Option (Int32 × Hp)) (K29 : ∀ (v0 : Option Nat) (v1 : Int32) (v2 : Int32) (v3 : Int32) (h : Hp) (r : Int32 × Hp), k29 v0 v1 v2 v3 h = some r → Rn d 247 29 [some (va_rf v0), some (.int v1), some (.int v2), some (.int v3)] [] h (some (.int r.1), r.2)) (v0 : Option Nat) (v1 : Int32) (v2 : Int32) (v3 : Int32)  (h : Hp) (r : Int32 × Hp) (hb : b_247_34 R k29 v0 v1 v2 v3  h = some r) : Rn d 247 34 [some (va_rf v0), some (.int v1), some (.int v2), some (.int v3)] [] h (some (.int r.1), r.2) := by
  unfold b_247_34 at hb
  obtain ⟨e, rfl⟩ : ∃ e, d = e + 1 := ⟨d - 1, by omega⟩
  refine rn_aload_n (i := 0) rfl rfl ?_
  refine rn_gQ (c := 11) (k := 29) rfl (by decide) hb (fun x1 hb => ?_)
  refine rn_iload_n (i := 1) rfl rfl ?_
  refine rn_aI rfl hb (fun x2 hb => ?_)
  refine rn_iload_n (i := 3) rfl rfl ?_
  obtain ⟨p3, hc, hb⟩ := Option.bind_eq_some_iff.mp hb
  refine Rn.call1 (d := e) (As := [.int x2, .int v3]) (rest := []) rfl rfl rfl (by decide) rfl rfl rfl rfl (by decide) (bd_lenC (n := 2) rfl (bd_slI (bd_slI bd_slN)) rfl) (bd_locC (n := 2) rfl (bd_slI (bd_slI bd_slN)) rfl (t_183 e (by omega) x2 v3 h _ hc)) ?_
  refine rn_if_eq rfl rfl (fun hc => ?_) (fun hc => ?_)
  · exact u_247_80 E hE (e + 1) hd R HR k29 K29 v0 v1 v2 v3  p3.2 _ (if_t hb hc)
  · exact u_247_47 E hE (e + 1) hd R HR k29 K29 v0 v1 v2 v3  p3.2 _ (if_f hb hc)
def b_247_29 (R : Option Nat → Int32 → Int32 → Hp → Option (Int32 × Hp)) (k29 : Option Nat → Int32 → Int32 → Int32 → Hp → Option (Int32 × Hp)) (v0 : Option Nat) (v1 : Int32) (v2 : Int32) (v3 : Int32)  (h : Hp) : Option (Int32 × Hp) :=
  if (nI 4) ≤ v3 then b_247_86 R   h else b_247_34 R k29 v0 v1 v2 v3  h
theorem u_247_29 (E : Nat) (hE : 1 ≤ E) (d : Nat) (hd : E + 1 ≤ d) (R : Option Nat → Int32 → Int32 → Hp → Option (Int32 × Hp)) (HR : ∀ (d : Nat) (a0 : Option Nat) (a1 : Int32) (a2 : Int32) (h : Hp) (r : Int32 × Hp), E ≤ d → R a0 a1 a2 h = some r → Rn d 247 0 [some (va_rf a0), some (.int a1), some (.int a2), none] [] h (some (.int r.1), r.2)) (k29 : Option Nat → Int32 → Int32 → Int32 → Hp → Option (Int32 × Hp)) (K29 : ∀ (v0 : Option Nat) (v1 : Int32) (v2 : Int32) (v3 : Int32) (h : Hp) (r : Int32 × Hp), k29 v0 v1 v2 v3 h = some r → Rn d 247 29 [some (va_rf v0), some (.int v1), some (.int v2), some (.int v3)] [] h (some (.int r.1), r.2)) (v0 : Option Nat) (v1 : Int32) (v2 : Int32) (v3 : Int32)  (h : Hp) (r : Int32 × Hp) (hb : b_247_29 R k29 v0 v1 v2 v3  h = some r) : Rn d 247 29 [some (va_rf v0), some (.int v1), some (.int v2), some (.int v3)] [] h (some (.int r.1), r.2) := by
  unfold b_247_29 at hb
  refine rn_iload_n (i := 3) rfl rfl ?_
  refine rn_iconst (x := (nI 4)) rfl (by decide) ?_
  refine rn_icmp_ge rfl rfl (fun hc => ?_) (fun hc => ?_)
  · exact u_247_86 E hE d hd R HR v0 v1 v2 v3  h _ (if_t hb hc)
  · exact u_247_34 E hE d hd R HR k29 K29 v0 v1 v2 v3  h _ (if_f hb hc)
def l_247_29 (R : Option Nat → Int32 → Int32 → Hp → Option (Int32 × Hp)) : Nat → Option Nat → Int32 → Int32 → Int32 → Hp → Option (Int32 × Hp)
  | 0, _, _, _, _, _ => none
  | n + 1, v0, v1, v2, v3, h => b_247_29 R (l_247_29 R n) v0 v1 v2 v3 h
theorem w_247_29 (E : Nat) (hE : 1 ≤ E) (d : Nat) (hd : E + 1 ≤ d) (R : Option Nat → Int32 → Int32 → Hp → Option (Int32 × Hp)) (HR : ∀ (d : Nat) (a0 : Option Nat) (a1 : Int32) (a2 : Int32) (h : Hp) (r : Int32 × Hp), E ≤ d → R a0 a1 a2 h = some r → Rn d 247 0 [some (va_rf a0), some (.int a1), some (.int a2), none] [] h (some (.int r.1), r.2)) : ∀ (n : Nat) (v0 : Option Nat) (v1 : Int32) (v2 : Int32) (v3 : Int32) (h : Hp) (r : Int32 × Hp), l_247_29 R n v0 v1 v2 v3 h = some r → Rn d 247 29 [some (va_rf v0), some (.int v1), some (.int v2), some (.int v3)] [] h (some (.int r.1), r.2) := by
  intro n
  induction n with
  | zero => intro v0 v1 v2 v3 h r hb; cases hb
  | succ n ih => intro v0 v1 v2 v3 h r hb; exact u_247_29 E hE d hd R HR (l_247_29 R n) ih v0 v1 v2 v3 h r hb
def b_247_27 (R : Option Nat → Int32 → Int32 → Hp → Option (Int32 × Hp)) (v0 : Option Nat) (v1 : Int32) (v2 : Int32)  (h : Hp) : Option (Int32 × Hp) :=
  bnd ((nI 0)) fun x1 =>
  l_247_29 R FU v0 v1 v2 x1 h
theorem u_247_27 (E : Nat) (hE : 1 ≤ E) (d : Nat) (hd : E + 1 ≤ d) (R : Option Nat → Int32 → Int32 → Hp → Option (Int32 × Hp)) (HR : ∀ (d : Nat) (a0 : Option Nat) (a1 : Int32) (a2 : Int32) (h : Hp) (r : Int32 × Hp), E ≤ d → R a0 a1 a2 h = some r → Rn d 247 0 [some (va_rf a0), some (.int a1), some (.int a2), none] [] h (some (.int r.1), r.2)) (v0 : Option Nat) (v1 : Int32) (v2 : Int32)  (h : Hp) (r : Int32 × Hp) (hb : b_247_27 R v0 v1 v2  h = some r) : Rn d 247 27 [some (va_rf v0), some (.int v1), some (.int v2), none] [] h (some (.int r.1), r.2) := by
  unfold b_247_27 at hb
  refine rn_iconst (x := (nI 0)) rfl (by decide) ?_
  obtain ⟨x1, ex1, hb⟩ := bnd_spec hb
  refine rn_istore_n (i := 3) (L1 := [some (va_rf v0), some (.int v1), some (.int v2), some (.int x1)]) rfl (Nat.le_of_ble_eq_true rfl) (Or.inr rfl) (by rw [ex1]; rfl) ?_
  exact w_247_29 E hE d hd R HR FU v0 v1 v2 x1 h _ hb
def b_247_18 (R : Option Nat → Int32 → Int32 → Hp → Option (Int32 × Hp)) (v0 : Option Nat) (v1 : Int32) (v2 : Int32)  (h : Hp) : Option (Int32 × Hp) :=
  (grd (rC 11 v0 h)).bind fun _ =>
  (R v0 (v1 + (nI 1)) v2 h).bind fun p1 =>
  (grd (decide (p1.1 = 0 ∨ p1.1 = 1))).bind fun _ => some (p1.1, p1.2)
theorem u_247_18 (E : Nat) (hE : 1 ≤ E) (d : Nat) (hd : E + 1 ≤ d) (R : Option Nat → Int32 → Int32 → Hp → Option (Int32 × Hp)) (HR : ∀ (d : Nat) (a0 : Option Nat) (a1 : Int32) (a2 : Int32) (h : Hp) (r : Int32 × Hp), E ≤ d → R a0 a1 a2 h = some r → Rn d 247 0 [some (va_rf a0), some (.int a1), some (.int a2), none] [] h (some (.int r.1), r.2)) (v0 : Option Nat) (v1 : Int32) (v2 : Int32)  (h : Hp) (r : Int32 × Hp) (hb : b_247_18 R v0 v1 v2  h = some r) : Rn d 247 18 [some (va_rf v0), some (.int v1), some (.int v2), none] [] h (some (.int r.1), r.2) := by
  unfold b_247_18 at hb
  obtain ⟨e, rfl⟩ : ∃ e, d = e + 1 := ⟨d - 1, by omega⟩
  refine rn_aload_n (i := 0) rfl rfl ?_
  refine rn_iload_n (i := 1) rfl rfl ?_
  refine rn_iconst (x := (nI 1)) rfl (by decide) ?_
  refine rn_iadd rfl ?_
  refine rn_iload_n (i := 2) rfl rfl ?_
  obtain ⟨hrc, hb⟩ := grd_spec hb
  obtain ⟨p1, hc, hb⟩ := Option.bind_eq_some_iff.mp hb
  refine Rn.call1 (d := e) (As := [va_rf v0, .int (v1 + (nI 1)), .int v2]) (rest := []) rfl rfl rfl (by decide) rfl rfl rfl (bd_rcV hrc rfl) (by decide) (bd_lenC (n := 4) rfl (bd_slR (bd_slI (bd_slI bd_slN))) rfl) (bd_locC (n := 4) rfl (bd_slR (bd_slI (bd_slI bd_slN))) rfl (HR e v0 (v1 + (nI 1)) v2 h _ (by omega) hc)) ?_
  obtain ⟨hz, hb⟩ := grd_spec hb
  obtain rfl := Option.some.inj hb
  exact rn_zret rfl rfl (of_decide_eq_true hz)
def b_247_10 (R : Option Nat → Int32 → Int32 → Hp → Option (Int32 × Hp)) (v0 : Option Nat) (v1 : Int32) (v2 : Int32)  (h : Hp) : Option (Int32 × Hp) :=
  (f_183 v2 v1 h).bind fun p1 =>
  if ¬ p1.1 = 0 then b_247_27 R v0 v1 v2  p1.2 else b_247_18 R v0 v1 v2  p1.2
theorem u_247_10 (E : Nat) (hE : 1 ≤ E) (d : Nat) (hd : E + 1 ≤ d) (R : Option Nat → Int32 → Int32 → Hp → Option (Int32 × Hp)) (HR : ∀ (d : Nat) (a0 : Option Nat) (a1 : Int32) (a2 : Int32) (h : Hp) (r : Int32 × Hp), E ≤ d → R a0 a1 a2 h = some r → Rn d 247 0 [some (va_rf a0), some (.int a1), some (.int a2), none] [] h (some (.int r.1), r.2)) (v0 : Option Nat) (v1 : Int32) (v2 : Int32)  (h : Hp) (r : Int32 × Hp) (hb : b_247_10 R v0 v1 v2  h = some r) : Rn d 247 10 [some (va_rf v0), some (.int v1), some (.int v2), none] [] h (some (.int r.1), r.2) := by
  unfold b_247_10 at hb
  obtain ⟨e, rfl⟩ : ∃ e, d = e + 1 := ⟨d - 1, by omega⟩
  refine rn_iload_n (i := 2) rfl rfl ?_
  refine rn_iload_n (i := 1) rfl rfl ?_
  obtain ⟨p1, hc, hb⟩ := Option.bind_eq_some_iff.mp hb
  refine Rn.call1 (d := e) (As := [.int v2, .int v1]) (rest := []) rfl rfl rfl (by decide) rfl rfl rfl rfl (by decide) (bd_lenC (n := 2) rfl (bd_slI (bd_slI bd_slN)) rfl) (bd_locC (n := 2) rfl (bd_slI (bd_slI bd_slN)) rfl (t_183 e (by omega) v2 v1 h _ hc)) ?_
  refine rn_if_ne rfl rfl (fun hc => ?_) (fun hc => ?_)
  · exact u_247_27 E hE (e + 1) hd R HR v0 v1 v2  p1.2 _ (if_t hb hc)
  · exact u_247_18 E hE (e + 1) hd R HR v0 v1 v2  p1.2 _ (if_f hb hc)
def b_247_8 (R : Option Nat → Int32 → Int32 → Hp → Option (Int32 × Hp))   (h : Hp) : Option (Int32 × Hp) :=
  (grd (decide ((nI 1) = 0 ∨ (nI 1) = 1))).bind fun _ => some ((nI 1), h)
theorem u_247_8 (E : Nat) (hE : 1 ≤ E) (d : Nat) (hd : E + 1 ≤ d) (R : Option Nat → Int32 → Int32 → Hp → Option (Int32 × Hp)) (HR : ∀ (d : Nat) (a0 : Option Nat) (a1 : Int32) (a2 : Int32) (h : Hp) (r : Int32 × Hp), E ≤ d → R a0 a1 a2 h = some r → Rn d 247 0 [some (va_rf a0), some (.int a1), some (.int a2), none] [] h (some (.int r.1), r.2)) (v0 : Option Nat) (v1 : Int32) (v2 : Int32)  (h : Hp) (r : Int32 × Hp) (hb : b_247_8 R   h = some r) : Rn d 247 8 [some (va_rf v0), some (.int v1), some (.int v2), none] [] h (some (.int r.1), r.2) := by
  unfold b_247_8 at hb
  refine rn_iconst (x := (nI 1)) rfl (by decide) ?_
  obtain ⟨hz, hb⟩ := grd_spec hb
  obtain rfl := Option.some.inj hb
  exact rn_zret rfl rfl (of_decide_eq_true hz)
def b_247_0 (R : Option Nat → Int32 → Int32 → Hp → Option (Int32 × Hp)) (v0 : Option Nat) (v1 : Int32) (v2 : Int32)  (h : Hp) : Option (Int32 × Hp) :=
  (grd (rC 11 v0 h)).bind fun _ =>
  (f_203 v0 h).bind fun p1 =>
  if ¬ v1 = p1.1 then b_247_10 R v0 v1 v2  p1.2 else b_247_8 R   p1.2
theorem u_247_0 (E : Nat) (hE : 1 ≤ E) (d : Nat) (hd : E + 1 ≤ d) (R : Option Nat → Int32 → Int32 → Hp → Option (Int32 × Hp)) (HR : ∀ (d : Nat) (a0 : Option Nat) (a1 : Int32) (a2 : Int32) (h : Hp) (r : Int32 × Hp), E ≤ d → R a0 a1 a2 h = some r → Rn d 247 0 [some (va_rf a0), some (.int a1), some (.int a2), none] [] h (some (.int r.1), r.2)) (v0 : Option Nat) (v1 : Int32) (v2 : Int32)  (h : Hp) (r : Int32 × Hp) (hb : b_247_0 R v0 v1 v2  h = some r) : Rn d 247 0 [some (va_rf v0), some (.int v1), some (.int v2), none] [] h (some (.int r.1), r.2) := by
  unfold b_247_0 at hb
  obtain ⟨e, rfl⟩ : ∃ e, d = e + 1 := ⟨d - 1, by omega⟩
  refine rn_iload_n (i := 1) rfl rfl ?_
  refine rn_aload_n (i := 0) rfl rfl ?_
  obtain ⟨hrc, hb⟩ := grd_spec hb
  obtain ⟨p1, hc, hb⟩ := Option.bind_eq_some_iff.mp hb
  refine Rn.call1 (d := e) (As := [va_rf v0]) (rest := [.int v1]) rfl rfl rfl (by decide) rfl rfl rfl (bd_rcV hrc rfl) (by rw [bd_cI (bd_cN)]; decide) (bd_lenC (n := 1) rfl (bd_slR bd_slN) rfl) (bd_locC (n := 1) rfl (bd_slR bd_slN) rfl (t_203 e (by omega) v0 h _ hc)) ?_
  refine rn_icmp_ne rfl rfl (fun hc => ?_) (fun hc => ?_)
  · exact u_247_10 E hE (e + 1) hd R HR v0 v1 v2  p1.2 _ (if_t hb hc)
  · exact u_247_8 E hE (e + 1) hd R HR v0 v1 v2  p1.2 _ (if_f hb hc)
/-- BitingDoorsModel.canHang(II)Z -/
def F_247 (R : Option Nat → Int32 → Int32 → Hp → Option (Int32 × Hp)) (v0 : Option Nat) (v1 : Int32) (v2 : Int32) (h : Hp) : Option (Int32 × Hp) := b_247_0 R v0 v1 v2 h
theorem t0_247 (E : Nat) (hE : 1 ≤ E) (d : Nat) (hd : E + 1 ≤ d) (R : Option Nat → Int32 → Int32 → Hp → Option (Int32 × Hp)) (HR : ∀ (d : Nat) (a0 : Option Nat) (a1 : Int32) (a2 : Int32) (h : Hp) (r : Int32 × Hp), E ≤ d → R a0 a1 a2 h = some r → Rn d 247 0 [some (va_rf a0), some (.int a1), some (.int a2), none] [] h (some (.int r.1), r.2)) (v0 : Option Nat) (v1 : Int32) (v2 : Int32) (h : Hp) (r : Int32 × Hp) (hb : F_247 R v0 v1 v2 h = some r) : Rn d 247 0 [some (va_rf v0), some (.int v1), some (.int v2), none] [] h (some (.int r.1), r.2) := by
  unfold F_247 at hb
  exact u_247_0 E hE d hd R HR v0 v1 v2 h r hb
def f_247 : Nat → Option Nat → Int32 → Int32 → Hp → Option (Int32 × Hp)
  | 0, _, _, _, _ => none
  | n + 1, v0, v1, v2, h => F_247 (f_247 n) v0 v1 v2 h
theorem t_247 : ∀ (n d : Nat), 1 * n + 1 ≤ d → ∀ (v0 : Option Nat) (v1 : Int32) (v2 : Int32) (h : Hp) (r : Int32 × Hp), f_247 n v0 v1 v2 h = some r → Rn d 247 0 [some (va_rf v0), some (.int v1), some (.int v2), none] [] h (some (.int r.1), r.2) := by
  intro n
  induction n with
  | zero => intro d hd v0 v1 v2 h r hb; cases hb
  | succ n ih => intro d hd v0 v1 v2 h r hb; exact t0_247 (1 * n + 1) (by omega) d (by omega) (f_247 n) (fun d v0 v1 v2 h r hd hb => ih d hd v0 v1 v2 h r hb) v0 v1 v2 h r hb
def b_248_55 (v1 : Int32)  (h : Hp) : Option (Int32 × Hp) :=
  some (v1, h)
theorem u_248_55 (d : Nat) (hd : 68 ≤ d) (v0 : Option Nat) (v1 : Int32) (v2 : Int32)  (h : Hp) (r : Int32 × Hp) (hb : b_248_55 v1  h = some r) : Rn d 248 55 [some (va_rf v0), some (.int v1), some (.int v2)] [] h (some (.int r.1), r.2) := by
  unfold b_248_55 at hb
  refine rn_iload_n (i := 1) rfl rfl ?_
  obtain rfl := Option.some.inj hb
  exact rn_iret rfl rfl
def b_248_49 (k13 : Option Nat → Int32 → Int32 → Hp → Option (Int32 × Hp)) (v0 : Option Nat) (v1 : Int32) (v2 : Int32)  (h : Hp) : Option (Int32 × Hp) :=
  bnd (v2 + (nI 1)) fun x1 =>
  k13 v0 v1 x1 h
theorem u_248_49 (d : Nat) (hd : 68 ≤ d) (k13 : Option Nat → Int32 → Int32 → Hp → Option (Int32 × Hp)) (K13 : ∀ (v0 : Option Nat) (v1 : Int32) (v2 : Int32) (h : Hp) (r : Int32 × Hp), k13 v0 v1 v2 h = some r → Rn d 248 13 [some (va_rf v0), some (.int v1), some (.int v2)] [] h (some (.int r.1), r.2)) (v0 : Option Nat) (v1 : Int32) (v2 : Int32)  (h : Hp) (r : Int32 × Hp) (hb : b_248_49 k13 v0 v1 v2  h = some r) : Rn d 248 49 [some (va_rf v0), some (.int v1), some (.int v2)] [] h (some (.int r.1), r.2) := by
  unfold b_248_49 at hb
  obtain ⟨x1, ex1, hb⟩ := bnd_spec hb
  refine rn_iinc (i := 2) (y := x1) (L1 := [some (va_rf v0), some (.int v1), some (.int x1)]) rfl rfl (Nat.le_of_ble_eq_true rfl) (Or.inr rfl) (by rw [ex1]; rfl) rfl ?_
  refine rn_goto rfl rfl ?_
  exact K13 v0 v1 x1 h _ hb
def b_248_47 (k13 : Option Nat → Int32 → Int32 → Hp → Option (Int32 × Hp)) (v0 : Option Nat) (v2 : Int32)  (h : Hp) : Option (Int32 × Hp) :=
  b_248_49 k13 v0 v2 v2  h
theorem u_248_47 (d : Nat) (hd : 68 ≤ d) (k13 : Option Nat → Int32 → Int32 → Hp → Option (Int32 × Hp)) (K13 : ∀ (v0 : Option Nat) (v1 : Int32) (v2 : Int32) (h : Hp) (r : Int32 × Hp), k13 v0 v1 v2 h = some r → Rn d 248 13 [some (va_rf v0), some (.int v1), some (.int v2)] [] h (some (.int r.1), r.2)) (v0 : Option Nat) (v1 : Int32) (v2 : Int32)  (h : Hp) (r : Int32 × Hp) (hb : b_248_47 k13 v0 v2  h = some r) : Rn d 248 47 [some (va_rf v0), some (.int v1), some (.int v2)] [] h (some (.int r.1), r.2) := by
  unfold b_248_47 at hb
  refine rn_iload_n (i := 2) rfl rfl ?_
  refine rn_istore_n (i := 1) (L1 := [some (va_rf v0), some (.int v2), some (.int v2)]) rfl (Nat.le_of_ble_eq_true rfl) (Or.inr (bd_wideR rfl)) rfl ?_
  exact u_248_49 d hd k13 K13 v0 v2 v2  h _ hb
def b_248_38 (k13 : Option Nat → Int32 → Int32 → Hp → Option (Int32 × Hp)) (v0 : Option Nat) (v1 : Int32) (v2 : Int32)  (h : Hp) : Option (Int32 × Hp) :=
  (grd (rC 11 v0 h)).bind fun _ =>
  (f_247 RF v0 (nI 0) v2 h).bind fun p1 =>
  if ¬ p1.1 = 0 then b_248_49 k13 v0 v1 v2  p1.2 else b_248_47 k13 v0 v2  p1.2
theorem u_248_38 (d : Nat) (hd : 68 ≤ d) (k13 : Option Nat → Int32 → Int32 → Hp → Option (Int32 × Hp)) (K13 : ∀ (v0 : Option Nat) (v1 : Int32) (v2 : Int32) (h : Hp) (r : Int32 × Hp), k13 v0 v1 v2 h = some r → Rn d 248 13 [some (va_rf v0), some (.int v1), some (.int v2)] [] h (some (.int r.1), r.2)) (v0 : Option Nat) (v1 : Int32) (v2 : Int32)  (h : Hp) (r : Int32 × Hp) (hb : b_248_38 k13 v0 v1 v2  h = some r) : Rn d 248 38 [some (va_rf v0), some (.int v1), some (.int v2)] [] h (some (.int r.1), r.2) := by
  unfold b_248_38 at hb
  obtain ⟨e, rfl⟩ : ∃ e, d = e + 1 := ⟨d - 1, by omega⟩
  refine rn_aload_n (i := 0) rfl rfl ?_
  refine rn_iconst (x := (nI 0)) rfl (by decide) ?_
  refine rn_iload_n (i := 2) rfl rfl ?_
  obtain ⟨hrc, hb⟩ := grd_spec hb
  obtain ⟨p1, hc, hb⟩ := Option.bind_eq_some_iff.mp hb
  refine Rn.call1 (d := e) (As := [va_rf v0, .int (nI 0), .int v2]) (rest := []) rfl rfl rfl (by decide) rfl rfl rfl (bd_rcV hrc rfl) (by decide) (bd_lenC (n := 4) rfl (bd_slR (bd_slI (bd_slI bd_slN))) rfl) (bd_locC (n := 4) rfl (bd_slR (bd_slI (bd_slI bd_slN))) rfl (t_247 RF e (by show 1 * 64 + 1 ≤ _; omega) v0 (nI 0) v2 h _ hc)) ?_
  refine rn_if_ne rfl rfl (fun hc => ?_) (fun hc => ?_)
  · exact u_248_49 (e + 1) hd k13 K13 v0 v1 v2  p1.2 _ (if_t hb hc)
  · exact u_248_47 (e + 1) hd k13 K13 v0 v1 v2  p1.2 _ (if_f hb hc)
def b_248_27 (k13 : Option Nat → Int32 → Int32 → Hp → Option (Int32 × Hp)) (v0 : Option Nat) (v1 : Int32) (v2 : Int32)  (h : Hp) : Option (Int32 × Hp) :=
  (f_184 v2 h).bind fun p1 =>
  (f_184 v1 p1.2).bind fun p2 =>
  if p2.1 ≤ p1.1 then b_248_49 k13 v0 v1 v2  p2.2 else b_248_38 k13 v0 v1 v2  p2.2
theorem u_248_27 (d : Nat) (hd : 68 ≤ d) (k13 : Option Nat → Int32 → Int32 → Hp → Option (Int32 × Hp)) (K13 : ∀ (v0 : Option Nat) (v1 : Int32) (v2 : Int32) (h : Hp) (r : Int32 × Hp), k13 v0 v1 v2 h = some r → Rn d 248 13 [some (va_rf v0), some (.int v1), some (.int v2)] [] h (some (.int r.1), r.2)) (v0 : Option Nat) (v1 : Int32) (v2 : Int32)  (h : Hp) (r : Int32 × Hp) (hb : b_248_27 k13 v0 v1 v2  h = some r) : Rn d 248 27 [some (va_rf v0), some (.int v1), some (.int v2)] [] h (some (.int r.1), r.2) := by
  unfold b_248_27 at hb
  obtain ⟨e, rfl⟩ : ∃ e, d = e + 1 := ⟨d - 1, by omega⟩
  refine rn_iload_n (i := 2) rfl rfl ?_
  obtain ⟨p1, hc, hb⟩ := Option.bind_eq_some_iff.mp hb
  refine Rn.call1 (d := e) (As := [.int v2]) (rest := []) rfl rfl rfl (by decide) rfl rfl rfl rfl (by decide) (bd_lenC (n := 3) rfl (bd_slI bd_slN) rfl) (bd_locC (n := 3) rfl (bd_slI bd_slN) rfl (t_184 e (by omega) v2 h _ hc)) ?_
  refine rn_iload_n (i := 1) rfl rfl ?_
  obtain ⟨p2, hc, hb⟩ := Option.bind_eq_some_iff.mp hb
  refine Rn.call1 (d := e) (As := [.int v1]) (rest := [.int p1.1]) rfl rfl rfl (by decide) rfl rfl rfl rfl (by rw [bd_cI (bd_cN)]; decide) (bd_lenC (n := 3) rfl (bd_slI bd_slN) rfl) (bd_locC (n := 3) rfl (bd_slI bd_slN) rfl (t_184 e (by omega) v1 p1.2 _ hc)) ?_
  refine rn_icmp_ge rfl rfl (fun hc => ?_) (fun hc => ?_)
  · exact u_248_49 (e + 1) hd k13 K13 v0 v1 v2  p2.2 _ (if_t hb hc)
  · exact u_248_38 (e + 1) hd k13 K13 v0 v1 v2  p2.2 _ (if_f hb hc)
def b_248_23 (k13 : Option Nat → Int32 → Int32 → Hp → Option (Int32 × Hp)) (v0 : Option Nat) (v1 : Int32) (v2 : Int32)  (h : Hp) : Option (Int32 × Hp) :=
  if v1 = 0 then b_248_38 k13 v0 v1 v2  h else b_248_27 k13 v0 v1 v2  h
theorem u_248_23 (d : Nat) (hd : 68 ≤ d) (k13 : Option Nat → Int32 → Int32 → Hp → Option (Int32 × Hp)) (K13 : ∀ (v0 : Option Nat) (v1 : Int32) (v2 : Int32) (h : Hp) (r : Int32 × Hp), k13 v0 v1 v2 h = some r → Rn d 248 13 [some (va_rf v0), some (.int v1), some (.int v2)] [] h (some (.int r.1), r.2)) (v0 : Option Nat) (v1 : Int32) (v2 : Int32)  (h : Hp) (r : Int32 × Hp) (hb : b_248_23 k13 v0 v1 v2  h = some r) : Rn d 248 23 [some (va_rf v0), some (.int v1), some (.int v2)] [] h (some (.int r.1), r.2) := by
  unfold b_248_23 at hb
  refine rn_iload_n (i := 1) rfl rfl ?_
  refine rn_if_eq rfl rfl (fun hc => ?_) (fun hc => ?_)
  · exact u_248_38 d hd k13 K13 v0 v1 v2  h _ (if_t hb hc)
  · exact u_248_27 d hd k13 K13 v0 v1 v2  h _ (if_f hb hc)
def b_248_13 (k13 : Option Nat → Int32 → Int32 → Hp → Option (Int32 × Hp)) (v0 : Option Nat) (v1 : Int32) (v2 : Int32)  (h : Hp) : Option (Int32 × Hp) :=
  (grd (rC 11 v0 h)).bind fun _ =>
  (f_203 v0 h).bind fun p1 =>
  if ((nI 1) <<< (p1.1 &&& 31)) ≤ v2 then b_248_55 v1  p1.2 else b_248_23 k13 v0 v1 v2  p1.2
theorem u_248_13 (d : Nat) (hd : 68 ≤ d) (k13 : Option Nat → Int32 → Int32 → Hp → Option (Int32 × Hp)) (K13 : ∀ (v0 : Option Nat) (v1 : Int32) (v2 : Int32) (h : Hp) (r : Int32 × Hp), k13 v0 v1 v2 h = some r → Rn d 248 13 [some (va_rf v0), some (.int v1), some (.int v2)] [] h (some (.int r.1), r.2)) (v0 : Option Nat) (v1 : Int32) (v2 : Int32)  (h : Hp) (r : Int32 × Hp) (hb : b_248_13 k13 v0 v1 v2  h = some r) : Rn d 248 13 [some (va_rf v0), some (.int v1), some (.int v2)] [] h (some (.int r.1), r.2) := by
  unfold b_248_13 at hb
  obtain ⟨e, rfl⟩ : ∃ e, d = e + 1 := ⟨d - 1, by omega⟩
  refine rn_iload_n (i := 2) rfl rfl ?_
  refine rn_iconst (x := (nI 1)) rfl (by decide) ?_
  refine rn_aload_n (i := 0) rfl rfl ?_
  obtain ⟨hrc, hb⟩ := grd_spec hb
  obtain ⟨p1, hc, hb⟩ := Option.bind_eq_some_iff.mp hb
  refine Rn.call1 (d := e) (As := [va_rf v0]) (rest := [.int (nI 1), .int v2]) rfl rfl rfl (by decide) rfl rfl rfl (bd_rcV hrc rfl) (by rw [bd_cI (bd_cI (bd_cN))]; decide) (bd_lenC (n := 1) rfl (bd_slR bd_slN) rfl) (bd_locC (n := 1) rfl (bd_slR bd_slN) rfl (t_203 e (by omega) v0 h _ hc)) ?_
  refine rn_ishl rfl ?_
  refine rn_icmp_ge rfl rfl (fun hc => ?_) (fun hc => ?_)
  · exact u_248_55 (e + 1) hd v0 v1 v2  p1.2 _ (if_t hb hc)
  · exact u_248_23 (e + 1) hd k13 K13 v0 v1 v2  p1.2 _ (if_f hb hc)
def l_248_13 : Nat → Option Nat → Int32 → Int32 → Hp → Option (Int32 × Hp)
  | 0, _, _, _, _ => none
  | n + 1, v0, v1, v2, h => b_248_13 (l_248_13 n) v0 v1 v2 h
theorem w_248_13 (d : Nat) (hd : 68 ≤ d) : ∀ (n : Nat) (v0 : Option Nat) (v1 : Int32) (v2 : Int32) (h : Hp) (r : Int32 × Hp), l_248_13 n v0 v1 v2 h = some r → Rn d 248 13 [some (va_rf v0), some (.int v1), some (.int v2)] [] h (some (.int r.1), r.2) := by
  intro n
  induction n with
  | zero => intro v0 v1 v2 h r hb; cases hb
  | succ n ih => intro v0 v1 v2 h r hb; exact u_248_13 d hd (l_248_13 n) ih v0 v1 v2 h r hb
def b_248_0 (v0 : Option Nat)  (h : Hp) : Option (Int32 × Hp) :=
  (pI 11 0 v0 (nI 0) h).bind fun h1 =>
  (grd (rC 11 v0 h1)).bind fun _ =>
  (f_225 v0 h1).bind fun p2 =>
  bnd ((nI 0)) fun x3 =>
  bnd ((nI 1)) fun x4 =>
  l_248_13 FU v0 x3 x4 p2
theorem u_248_0 (d : Nat) (hd : 68 ≤ d) (v0 : Option Nat)  (h : Hp) (r : Int32 × Hp) (hb : b_248_0 v0  h = some r) : Rn d 248 0 [some (va_rf v0), none, none] [] h (some (.int r.1), r.2) := by
  unfold b_248_0 at hb
  obtain ⟨e, rfl⟩ : ∃ e, d = e + 1 := ⟨d - 1, by omega⟩
  refine rn_aload_n (i := 0) rfl rfl ?_
  refine rn_iconst (x := (nI 0)) rfl (by decide) ?_
  refine rn_pI (c := 11) (k := 0) rfl (by decide) hb (fun h1 hb => ?_)
  refine rn_aload_n (i := 0) rfl rfl ?_
  obtain ⟨hrc, hb⟩ := grd_spec hb
  obtain ⟨p2, hc, hb⟩ := Option.bind_eq_some_iff.mp hb
  refine Rn.call0 (d := e) (As := [va_rf v0]) (rest := []) rfl rfl rfl (by decide) rfl rfl rfl (bd_rcV hrc rfl) (by decide) (bd_lenC (n := 7) rfl (bd_slR bd_slN) rfl) (bd_locC (n := 7) rfl (bd_slR bd_slN) rfl (t_225 e (by omega) v0 h1 _ hc)) ?_
  refine rn_iconst (x := (nI 0)) rfl (by decide) ?_
  obtain ⟨x3, ex3, hb⟩ := bnd_spec hb
  refine rn_istore_n (i := 1) (L1 := [some (va_rf v0), some (.int x3), none]) rfl (Nat.le_of_ble_eq_true rfl) (Or.inr (bd_wideR rfl)) (by rw [ex3]; rfl) ?_
  refine rn_iconst (x := (nI 1)) rfl (by decide) ?_
  obtain ⟨x4, ex4, hb⟩ := bnd_spec hb
  refine rn_istore_n (i := 2) (L1 := [some (va_rf v0), some (.int x3), some (.int x4)]) rfl (Nat.le_of_ble_eq_true rfl) (Or.inr rfl) (by rw [ex4]; rfl) ?_
  exact w_248_13 (e + 1) hd FU v0 x3 x4 p2 _ hb
/-- BitingDoorsModel.stuck()I -/
def f_248 (v0 : Option Nat) (h : Hp) : Option (Int32 × Hp) := b_248_0 v0 h
theorem t_248 (d : Nat) (hd : 68 ≤ d) (v0 : Option Nat) (h : Hp) (r : Int32 × Hp) (hb : f_248 v0 h = some r) : Rn d 248 0 [some (va_rf v0), none, none] [] h (some (.int r.1), r.2) := by
  unfold f_248 at hb
  exact u_248_0 d hd v0 h r hb
def b_249_330 (v0 : Option Nat)  (h : Hp) : Option (Int32 × Hp) :=
  (gQ 11 40 v0 h).bind fun x1 =>
  (aI 12 x1 (nI 0) h).bind fun x2 =>
  some (x2, h)
theorem u_249_330 (d : Nat) (hd : 69 ≤ d) (v0 : Option Nat) (v1 : Int32) (v2 : Int32) (v3 : Option (Int32)) (v4 : Option (Int32))  (h : Hp) (r : Int32 × Hp) (hb : b_249_330 v0  h = some r) : Rn d 249 330 [some (va_rf v0), some (.int v1), some (.int v2), v3.map Value.int, v4.map Value.int] [] h (some (.int r.1), r.2) := by
  unfold b_249_330 at hb
  refine rn_aload_n (i := 0) rfl rfl ?_
  refine rn_gQ (c := 11) (k := 40) rfl (by decide) hb (fun x1 hb => ?_)
  refine rn_iconst (x := (nI 0)) rfl (by decide) ?_
  refine rn_aI rfl hb (fun x2 hb => ?_)
  obtain rfl := Option.some.inj hb
  exact rn_iret rfl rfl
def b_249_295 (k253 : Option Nat → Int32 → Int32 → Hp → Option (Int32 × Hp)) (k260 : Option Nat → Int32 → Int32 → Int32 → Hp → Option (Int32 × Hp)) (v0 : Option Nat) (v1 : Int32) (v2 : Int32) (v3 : Int32)  (h : Hp) : Option (Int32 × Hp) :=
  bnd (v3 + (nI 1)) fun x1 =>
  k260 v0 v1 v2 x1 h
theorem u_249_295 (d : Nat) (hd : 69 ≤ d) (k253 : Option Nat → Int32 → Int32 → Hp → Option (Int32 × Hp)) (K253 : ∀ (v0 : Option Nat) (v1 : Int32) (v2 : Int32) (v3 : Option (Int32)) (v4 : Option (Int32)) (h : Hp) (r : Int32 × Hp), k253 v0 v1 v2 h = some r → Rn d 249 253 [some (va_rf v0), some (.int v1), some (.int v2), v3.map Value.int, v4.map Value.int] [] h (some (.int r.1), r.2)) (k260 : Option Nat → Int32 → Int32 → Int32 → Hp → Option (Int32 × Hp)) (K260 : ∀ (v0 : Option Nat) (v1 : Int32) (v2 : Int32) (v3 : Int32) (v4 : Option (Int32)) (h : Hp) (r : Int32 × Hp), k260 v0 v1 v2 v3 h = some r → Rn d 249 260 [some (va_rf v0), some (.int v1), some (.int v2), some (.int v3), v4.map Value.int] [] h (some (.int r.1), r.2)) (v0 : Option Nat) (v1 : Int32) (v2 : Int32) (v3 : Int32) (v4 : Option (Int32))  (h : Hp) (r : Int32 × Hp) (hb : b_249_295 k253 k260 v0 v1 v2 v3  h = some r) : Rn d 249 295 [some (va_rf v0), some (.int v1), some (.int v2), some (.int v3), v4.map Value.int] [] h (some (.int r.1), r.2) := by
  unfold b_249_295 at hb
  obtain ⟨x1, ex1, hb⟩ := bnd_spec hb
  refine rn_iinc (i := 3) (y := x1) (L1 := [some (va_rf v0), some (.int v1), some (.int v2), some (.int x1), v4.map Value.int]) rfl rfl (Nat.le_of_ble_eq_true rfl) (Or.inr rfl) (by rw [ex1]; rfl) rfl ?_
  refine rn_goto rfl rfl ?_
  exact K260 v0 v1 v2 x1 v4 h _ hb
def b_249_301 (k253 : Option Nat → Int32 → Int32 → Hp → Option (Int32 × Hp)) (v0 : Option Nat) (v1 : Int32) (v2 : Int32) (v3 : Int32)  (h : Hp) : Option (Int32 × Hp) :=
  (gQ 11 41 v0 h).bind fun x1 =>
  (gI 11 42 v0 h).bind fun x2 =>
  (wI x1 x2 v3 h).bind fun h3 =>
  (gI 11 42 v0 h3).bind fun x4 =>
  (pI 11 42 v0 (x4 + (nI 1)) h3).bind fun h5 =>
  bnd ((v2 ||| ((nI 1) <<< (v3 &&& 31)))) fun x6 =>
  k253 v0 v1 x6 h5
theorem u_249_301 (d : Nat) (hd : 69 ≤ d) (k253 : Option Nat → Int32 → Int32 → Hp → Option (Int32 × Hp)) (K253 : ∀ (v0 : Option Nat) (v1 : Int32) (v2 : Int32) (v3 : Option (Int32)) (v4 : Option (Int32)) (h : Hp) (r : Int32 × Hp), k253 v0 v1 v2 h = some r → Rn d 249 253 [some (va_rf v0), some (.int v1), some (.int v2), v3.map Value.int, v4.map Value.int] [] h (some (.int r.1), r.2)) (v0 : Option Nat) (v1 : Int32) (v2 : Int32) (v3 : Int32) (v4 : Option (Int32))  (h : Hp) (r : Int32 × Hp) (hb : b_249_301 k253 v0 v1 v2 v3  h = some r) : Rn d 249 301 [some (va_rf v0), some (.int v1), some (.int v2), some (.int v3), v4.map Value.int] [] h (some (.int r.1), r.2) := by
  unfold b_249_301 at hb
  refine rn_aload_n (i := 0) rfl rfl ?_
  refine rn_gQ (c := 11) (k := 41) rfl (by decide) hb (fun x1 hb => ?_)
  refine rn_aload_n (i := 0) rfl rfl ?_
  refine rn_gI (c := 11) (k := 42) rfl (by decide) hb (fun x2 hb => ?_)
  refine rn_iload_n (i := 3) rfl rfl ?_
  refine rn_wI rfl hb (fun h3 hb => ?_)
  refine rn_aload_n (i := 0) rfl rfl ?_
  refine rn_dup rfl (bd_cat_rf _) ?_
  refine rn_gI (c := 11) (k := 42) rfl (by decide) hb (fun x4 hb => ?_)
  refine rn_iconst (x := (nI 1)) rfl (by decide) ?_
  refine rn_iadd rfl ?_
  refine rn_pI (c := 11) (k := 42) rfl (by decide) hb (fun h5 hb => ?_)
  refine rn_iload_n (i := 2) rfl rfl ?_
  refine rn_iconst (x := (nI 1)) rfl (by decide) ?_
  refine rn_iload_n (i := 3) rfl rfl ?_
  refine rn_ishl rfl ?_
  refine rn_ior rfl ?_
  obtain ⟨x6, ex6, hb⟩ := bnd_spec hb
  refine rn_istore_n (i := 2) (L1 := [some (va_rf v0), some (.int v1), some (.int x6), some (.int v3), v4.map Value.int]) rfl (Nat.le_of_ble_eq_true rfl) (Or.inr rfl) (by rw [ex6]; rfl) ?_
  refine rn_goto rfl rfl ?_
  exact K253 v0 v1 x6 (some v3) v4 h5 _ hb
def b_249_276 (k253 : Option Nat → Int32 → Int32 → Hp → Option (Int32 × Hp)) (k260 : Option Nat → Int32 → Int32 → Int32 → Hp → Option (Int32 × Hp)) (v0 : Option Nat) (v1 : Int32) (v2 : Int32) (v3 : Int32)  (h : Hp) : Option (Int32 × Hp) :=
  (gQ 11 40 v0 h).bind fun x1 =>
  (aI 12 x1 (v2 ||| ((nI 1) <<< (v3 &&& 31))) h).bind fun x2 =>
  (gQ 11 40 v0 h).bind fun x3 =>
  (aI 12 x3 (nI 0) h).bind fun x4 =>
  if x2 ≤ x4 then b_249_301 k253 v0 v1 v2 v3  h else b_249_295 k253 k260 v0 v1 v2 v3  h
theorem u_249_276 (d : Nat) (hd : 69 ≤ d) (k253 : Option Nat → Int32 → Int32 → Hp → Option (Int32 × Hp)) (K253 : ∀ (v0 : Option Nat) (v1 : Int32) (v2 : Int32) (v3 : Option (Int32)) (v4 : Option (Int32)) (h : Hp) (r : Int32 × Hp), k253 v0 v1 v2 h = some r → Rn d 249 253 [some (va_rf v0), some (.int v1), some (.int v2), v3.map Value.int, v4.map Value.int] [] h (some (.int r.1), r.2)) (k260 : Option Nat → Int32 → Int32 → Int32 → Hp → Option (Int32 × Hp)) (K260 : ∀ (v0 : Option Nat) (v1 : Int32) (v2 : Int32) (v3 : Int32) (v4 : Option (Int32)) (h : Hp) (r : Int32 × Hp), k260 v0 v1 v2 v3 h = some r → Rn d 249 260 [some (va_rf v0), some (.int v1), some (.int v2), some (.int v3), v4.map Value.int] [] h (some (.int r.1), r.2)) (v0 : Option Nat) (v1 : Int32) (v2 : Int32) (v3 : Int32) (v4 : Option (Int32))  (h : Hp) (r : Int32 × Hp) (hb : b_249_276 k253 k260 v0 v1 v2 v3  h = some r) : Rn d 249 276 [some (va_rf v0), some (.int v1), some (.int v2), some (.int v3), v4.map Value.int] [] h (some (.int r.1), r.2) := by
  unfold b_249_276 at hb
  refine rn_aload_n (i := 0) rfl rfl ?_
  refine rn_gQ (c := 11) (k := 40) rfl (by decide) hb (fun x1 hb => ?_)
  refine rn_iload_n (i := 2) rfl rfl ?_
  refine rn_iconst (x := (nI 1)) rfl (by decide) ?_
  refine rn_iload_n (i := 3) rfl rfl ?_
  refine rn_ishl rfl ?_
  refine rn_ior rfl ?_
  refine rn_aI rfl hb (fun x2 hb => ?_)
  refine rn_aload_n (i := 0) rfl rfl ?_
  refine rn_gQ (c := 11) (k := 40) rfl (by decide) hb (fun x3 hb => ?_)
  refine rn_iconst (x := (nI 0)) rfl (by decide) ?_
  refine rn_aI rfl hb (fun x4 hb => ?_)
  refine rn_icmp_le rfl rfl (fun hc => ?_) (fun hc => ?_)
  · exact u_249_301 d hd k253 K253 v0 v1 v2 v3 v4  h _ (if_t hb hc)
  · exact u_249_295 d hd k253 K253 k260 K260 v0 v1 v2 v3 v4  h _ (if_f hb hc)
def b_249_268 (k253 : Option Nat → Int32 → Int32 → Hp → Option (Int32 × Hp)) (k260 : Option Nat → Int32 → Int32 → Int32 → Hp → Option (Int32 × Hp)) (v0 : Option Nat) (v1 : Int32) (v2 : Int32) (v3 : Int32)  (h : Hp) : Option (Int32 × Hp) :=
  (f_183 v2 v3 h).bind fun p1 =>
  if ¬ p1.1 = 0 then b_249_295 k253 k260 v0 v1 v2 v3  p1.2 else b_249_276 k253 k260 v0 v1 v2 v3  p1.2
theorem u_249_268 (d : Nat) (hd : 69 ≤ d) (k253 : Option Nat → Int32 → Int32 → Hp → Option (Int32 × Hp)) (K253 : ∀ (v0 : Option Nat) (v1 : Int32) (v2 : Int32) (v3 : Option (Int32)) (v4 : Option (Int32)) (h : Hp) (r : Int32 × Hp), k253 v0 v1 v2 h = some r → Rn d 249 253 [some (va_rf v0), some (.int v1), some (.int v2), v3.map Value.int, v4.map Value.int] [] h (some (.int r.1), r.2)) (k260 : Option Nat → Int32 → Int32 → Int32 → Hp → Option (Int32 × Hp)) (K260 : ∀ (v0 : Option Nat) (v1 : Int32) (v2 : Int32) (v3 : Int32) (v4 : Option (Int32)) (h : Hp) (r : Int32 × Hp), k260 v0 v1 v2 v3 h = some r → Rn d 249 260 [some (va_rf v0), some (.int v1), some (.int v2), some (.int v3), v4.map Value.int] [] h (some (.int r.1), r.2)) (v0 : Option Nat) (v1 : Int32) (v2 : Int32) (v3 : Int32) (v4 : Option (Int32))  (h : Hp) (r : Int32 × Hp) (hb : b_249_268 k253 k260 v0 v1 v2 v3  h = some r) : Rn d 249 268 [some (va_rf v0), some (.int v1), some (.int v2), some (.int v3), v4.map Value.int] [] h (some (.int r.1), r.2) := by
  unfold b_249_268 at hb
  obtain ⟨e, rfl⟩ : ∃ e, d = e + 1 := ⟨d - 1, by omega⟩
  refine rn_iload_n (i := 2) rfl rfl ?_
  refine rn_iload_n (i := 3) rfl rfl ?_
  obtain ⟨p1, hc, hb⟩ := Option.bind_eq_some_iff.mp hb
  refine Rn.call1 (d := e) (As := [.int v2, .int v3]) (rest := []) rfl rfl rfl (by decide) rfl rfl rfl rfl (by decide) (bd_lenC (n := 2) rfl (bd_slI (bd_slI bd_slN)) rfl) (bd_locC (n := 2) rfl (bd_slI (bd_slI bd_slN)) rfl (t_183 e (by omega) v2 v3 h _ hc)) ?_
  refine rn_if_ne rfl rfl (fun hc => ?_) (fun hc => ?_)
  · exact u_249_295 (e + 1) hd k253 K253 k260 K260 v0 v1 v2 v3 v4  p1.2 _ (if_t hb hc)
  · exact u_249_276 (e + 1) hd k253 K253 k260 K260 v0 v1 v2 v3 v4  p1.2 _ (if_f hb hc)
def b_249_260 (k253 : Option Nat → Int32 → Int32 → Hp → Option (Int32 × Hp)) (k260 : Option Nat → Int32 → Int32 → Int32 → Hp → Option (Int32 × Hp)) (v0 : Option Nat) (v1 : Int32) (v2 : Int32) (v3 : Int32)  (h : Hp) : Option (Int32 × Hp) :=
  (f_183 v1 v3 h).bind fun p1 =>
  if p1.1 = 0 then b_249_295 k253 k260 v0 v1 v2 v3  p1.2 else b_249_268 k253 k260 v0 v1 v2 v3  p1.2
theorem u_249_260 (d : Nat) (hd : 69 ≤ d) (k253 : Option Nat → Int32 → Int32 → Hp → Option (Int32 × Hp)) (K253 : ∀ (v0 : Option Nat) (v1 : Int32) (v2 : Int32) (v3 : Option (Int32)) (v4 : Option (Int32)) (h : Hp) (r : Int32 × Hp), k253 v0 v1 v2 h = some r → Rn d 249 253 [some (va_rf v0), some (.int v1), some (.int v2), v3.map Value.int, v4.map Value.int] [] h (some (.int r.1), r.2)) (k260 : Option Nat → Int32 → Int32 → Int32 → Hp → Option (Int32 × Hp)) (K260 : ∀ (v0 : Option Nat) (v1 : Int32) (v2 : Int32) (v3 : Int32) (v4 : Option (Int32)) (h : Hp) (r : Int32 × Hp), k260 v0 v1 v2 v3 h = some r → Rn d 249 260 [some (va_rf v0), some (.int v1), some (.int v2), some (.int v3), v4.map Value.int] [] h (some (.int r.1), r.2)) (v0 : Option Nat) (v1 : Int32) (v2 : Int32) (v3 : Int32) (v4 : Option (Int32))  (h : Hp) (r : Int32 × Hp) (hb : b_249_260 k253 k260 v0 v1 v2 v3  h = some r) : Rn d 249 260 [some (va_rf v0), some (.int v1), some (.int v2), some (.int v3), v4.map Value.int] [] h (some (.int r.1), r.2) := by
  unfold b_249_260 at hb
  obtain ⟨e, rfl⟩ : ∃ e, d = e + 1 := ⟨d - 1, by omega⟩
  refine rn_iload_n (i := 1) rfl rfl ?_
  refine rn_iload_n (i := 3) rfl rfl ?_
  obtain ⟨p1, hc, hb⟩ := Option.bind_eq_some_iff.mp hb
  refine Rn.call1 (d := e) (As := [.int v1, .int v3]) (rest := []) rfl rfl rfl (by decide) rfl rfl rfl rfl (by decide) (bd_lenC (n := 2) rfl (bd_slI (bd_slI bd_slN)) rfl) (bd_locC (n := 2) rfl (bd_slI (bd_slI bd_slN)) rfl (t_183 e (by omega) v1 v3 h _ hc)) ?_
  refine rn_if_eq rfl rfl (fun hc => ?_) (fun hc => ?_)
  · exact u_249_295 (e + 1) hd k253 K253 k260 K260 v0 v1 v2 v3 v4  p1.2 _ (if_t hb hc)
  · exact u_249_268 (e + 1) hd k253 K253 k260 K260 v0 v1 v2 v3 v4  p1.2 _ (if_f hb hc)
def l_249_260 (k253 : Option Nat → Int32 → Int32 → Hp → Option (Int32 × Hp)) : Nat → Option Nat → Int32 → Int32 → Int32 → Hp → Option (Int32 × Hp)
  | 0, _, _, _, _, _ => none
  | n + 1, v0, v1, v2, v3, h => b_249_260 k253 (l_249_260 k253 n) v0 v1 v2 v3 h
theorem w_249_260 (d : Nat) (hd : 69 ≤ d) (k253 : Option Nat → Int32 → Int32 → Hp → Option (Int32 × Hp)) (K253 : ∀ (v0 : Option Nat) (v1 : Int32) (v2 : Int32) (v3 : Option (Int32)) (v4 : Option (Int32)) (h : Hp) (r : Int32 × Hp), k253 v0 v1 v2 h = some r → Rn d 249 253 [some (va_rf v0), some (.int v1), some (.int v2), v3.map Value.int, v4.map Value.int] [] h (some (.int r.1), r.2)) : ∀ (n : Nat) (v0 : Option Nat) (v1 : Int32) (v2 : Int32) (v3 : Int32) (v4 : Option (Int32)) (h : Hp) (r : Int32 × Hp), l_249_260 k253 n v0 v1 v2 v3 h = some r → Rn d 249 260 [some (va_rf v0), some (.int v1), some (.int v2), some (.int v3), v4.map Value.int] [] h (some (.int r.1), r.2) := by
  intro n
  induction n with
  | zero => intro v0 v1 v2 v3 v4 h r hb; cases hb
  | succ n ih => intro v0 v1 v2 v3 v4 h r hb; exact u_249_260 d hd k253 K253 (l_249_260 k253 n) ih v0 v1 v2 v3 v4 h r hb
def b_249_258 (k253 : Option Nat → Int32 → Int32 → Hp → Option (Int32 × Hp)) (v0 : Option Nat) (v1 : Int32) (v2 : Int32)  (h : Hp) : Option (Int32 × Hp) :=
  bnd ((nI 0)) fun x1 =>
  l_249_260 k253 FU v0 v1 v2 x1 h
theorem u_249_258 (d : Nat) (hd : 69 ≤ d) (k253 : Option Nat → Int32 → Int32 → Hp → Option (Int32 × Hp)) (K253 : ∀ (v0 : Option Nat) (v1 : Int32) (v2 : Int32) (v3 : Option (Int32)) (v4 : Option (Int32)) (h : Hp) (r : Int32 × Hp), k253 v0 v1 v2 h = some r → Rn d 249 253 [some (va_rf v0), some (.int v1), some (.int v2), v3.map Value.int, v4.map Value.int] [] h (some (.int r.1), r.2)) (v0 : Option Nat) (v1 : Int32) (v2 : Int32) (v3 : Option (Int32)) (v4 : Option (Int32))  (h : Hp) (r : Int32 × Hp) (hb : b_249_258 k253 v0 v1 v2  h = some r) : Rn d 249 258 [some (va_rf v0), some (.int v1), some (.int v2), v3.map Value.int, v4.map Value.int] [] h (some (.int r.1), r.2) := by
  unfold b_249_258 at hb
  refine rn_iconst (x := (nI 0)) rfl (by decide) ?_
  obtain ⟨x1, ex1, hb⟩ := bnd_spec hb
  refine rn_istore_n (i := 3) (L1 := [some (va_rf v0), some (.int v1), some (.int v2), some (.int x1), v4.map Value.int]) rfl (Nat.le_of_ble_eq_true rfl) (Or.inr rfl) (by rw [ex1]; rfl) ?_
  exact w_249_260 d hd k253 K253 FU v0 v1 v2 x1 v4 h _ hb
def b_249_253 (k253 : Option Nat → Int32 → Int32 → Hp → Option (Int32 × Hp)) (v0 : Option Nat) (v1 : Int32) (v2 : Int32)  (h : Hp) : Option (Int32 × Hp) :=
  if v2 = v1 then b_249_330 v0  h else b_249_258 k253 v0 v1 v2  h
theorem u_249_253 (d : Nat) (hd : 69 ≤ d) (k253 : Option Nat → Int32 → Int32 → Hp → Option (Int32 × Hp)) (K253 : ∀ (v0 : Option Nat) (v1 : Int32) (v2 : Int32) (v3 : Option (Int32)) (v4 : Option (Int32)) (h : Hp) (r : Int32 × Hp), k253 v0 v1 v2 h = some r → Rn d 249 253 [some (va_rf v0), some (.int v1), some (.int v2), v3.map Value.int, v4.map Value.int] [] h (some (.int r.1), r.2)) (v0 : Option Nat) (v1 : Int32) (v2 : Int32) (v3 : Option (Int32)) (v4 : Option (Int32))  (h : Hp) (r : Int32 × Hp) (hb : b_249_253 k253 v0 v1 v2  h = some r) : Rn d 249 253 [some (va_rf v0), some (.int v1), some (.int v2), v3.map Value.int, v4.map Value.int] [] h (some (.int r.1), r.2) := by
  unfold b_249_253 at hb
  refine rn_iload_n (i := 2) rfl rfl ?_
  refine rn_iload_n (i := 1) rfl rfl ?_
  refine rn_icmp_eq rfl rfl (fun hc => ?_) (fun hc => ?_)
  · exact u_249_330 d hd v0 v1 v2 v3 v4  h _ (if_t hb hc)
  · exact u_249_258 d hd k253 K253 v0 v1 v2 v3 v4  h _ (if_f hb hc)
def l_249_253 : Nat → Option Nat → Int32 → Int32 → Hp → Option (Int32 × Hp)
  | 0, _, _, _, _ => none
  | n + 1, v0, v1, v2, h => b_249_253 (l_249_253 n) v0 v1 v2 h
theorem w_249_253 (d : Nat) (hd : 69 ≤ d) : ∀ (n : Nat) (v0 : Option Nat) (v1 : Int32) (v2 : Int32) (v3 : Option (Int32)) (v4 : Option (Int32)) (h : Hp) (r : Int32 × Hp), l_249_253 n v0 v1 v2 h = some r → Rn d 249 253 [some (va_rf v0), some (.int v1), some (.int v2), v3.map Value.int, v4.map Value.int] [] h (some (.int r.1), r.2) := by
  intro n
  induction n with
  | zero => intro v0 v1 v2 v3 v4 h r hb; cases hb
  | succ n ih => intro v0 v1 v2 v3 v4 h r hb; exact u_249_253 d hd (l_249_253 n) ih v0 v1 v2 v3 v4 h r hb
def b_249_246 (v0 : Option Nat) (v1 : Int32)  (h : Hp) : Option (Int32 × Hp) :=
  (pI 11 42 v0 (nI 0) h).bind fun h1 =>
  bnd ((nI 0)) fun x2 =>
  l_249_253 FU v0 v1 x2 h1
theorem u_249_246 (d : Nat) (hd : 69 ≤ d) (v0 : Option Nat) (v1 : Int32) (v2 : Int32) (v3 : Option (Int32)) (v4 : Option (Int32))  (h : Hp) (r : Int32 × Hp) (hb : b_249_246 v0 v1  h = some r) : Rn d 249 246 [some (va_rf v0), some (.int v1), some (.int v2), v3.map Value.int, v4.map Value.int] [] h (some (.int r.1), r.2) := by
  unfold b_249_246 at hb
  refine rn_aload_n (i := 0) rfl rfl ?_
  refine rn_iconst (x := (nI 0)) rfl (by decide) ?_
  refine rn_pI (c := 11) (k := 42) rfl (by decide) hb (fun h1 hb => ?_)
  refine rn_iconst (x := (nI 0)) rfl (by decide) ?_
  obtain ⟨x2, ex2, hb⟩ := bnd_spec hb
  refine rn_istore_n (i := 2) (L1 := [some (va_rf v0), some (.int v1), some (.int x2), v3.map Value.int, v4.map Value.int]) rfl (Nat.le_of_ble_eq_true rfl) (Or.inr rfl) (by rw [ex2]; rfl) ?_
  exact w_249_253 d hd FU v0 v1 x2 v3 v4 h1 _ hb
def b_249_240 (k64 : Option Nat → Int32 → Int32 → Hp → Option (Int32 × Hp)) (v0 : Option Nat) (v1 : Int32) (v2 : Int32)  (h : Hp) : Option (Int32 × Hp) :=
  bnd (v2 + (-1 : Int32)) fun x1 =>
  k64 v0 v1 x1 h
theorem u_249_240 (d : Nat) (hd : 69 ≤ d) (k64 : Option Nat → Int32 → Int32 → Hp → Option (Int32 × Hp)) (K64 : ∀ (v0 : Option Nat) (v1 : Int32) (v2 : Int32) (v3 : Option (Int32)) (v4 : Option (Int32)) (h : Hp) (r : Int32 × Hp), k64 v0 v1 v2 h = some r → Rn d 249 64 [some (va_rf v0), some (.int v1), some (.int v2), v3.map Value.int, v4.map Value.int] [] h (some (.int r.1), r.2)) (v0 : Option Nat) (v1 : Int32) (v2 : Int32) (v3 : Option (Int32)) (v4 : Option (Int32))  (h : Hp) (r : Int32 × Hp) (hb : b_249_240 k64 v0 v1 v2  h = some r) : Rn d 249 240 [some (va_rf v0), some (.int v1), some (.int v2), v3.map Value.int, v4.map Value.int] [] h (some (.int r.1), r.2) := by
  unfold b_249_240 at hb
  obtain ⟨x1, ex1, hb⟩ := bnd_spec hb
  refine rn_iinc (i := 2) (y := x1) (L1 := [some (va_rf v0), some (.int v1), some (.int x1), v3.map Value.int, v4.map Value.int]) rfl rfl (Nat.le_of_ble_eq_true rfl) (Or.inr rfl) (by rw [ex1]; rfl) rfl ?_
  refine rn_goto rfl rfl ?_
  exact K64 v0 v1 x1 v3 v4 h _ hb
def b_249_239 (k64 : Option Nat → Int32 → Int32 → Hp → Option (Int32 × Hp)) (v0 : Option Nat) (v1 : Int32) (v2 : Int32) (s0 : Option Nat) (s1 : Int32) (s2 : Int32) (h : Hp) : Option (Int32 × Hp) :=
  (wI s0 s1 s2 h).bind fun h1 =>
  b_249_240 k64 v0 v1 v2  h1
theorem u_249_239 (d : Nat) (hd : 69 ≤ d) (k64 : Option Nat → Int32 → Int32 → Hp → Option (Int32 × Hp)) (K64 : ∀ (v0 : Option Nat) (v1 : Int32) (v2 : Int32) (v3 : Option (Int32)) (v4 : Option (Int32)) (h : Hp) (r : Int32 × Hp), k64 v0 v1 v2 h = some r → Rn d 249 64 [some (va_rf v0), some (.int v1), some (.int v2), v3.map Value.int, v4.map Value.int] [] h (some (.int r.1), r.2)) (v0 : Option Nat) (v1 : Int32) (v2 : Int32) (v3 : Int32) (v4 : Int32) (s0 : Option Nat) (s1 : Int32) (s2 : Int32) (h : Hp) (r : Int32 × Hp) (hb : b_249_239 k64 v0 v1 v2 s0 s1 s2 h = some r) : Rn d 249 239 [some (va_rf v0), some (.int v1), some (.int v2), some (.int v3), some (.int v4)] [.int s2, .int s1, va_rf s0] h (some (.int r.1), r.2) := by
  unfold b_249_239 at hb
  refine rn_wI rfl hb (fun h1 hb => ?_)
  exact u_249_240 d hd k64 K64 v0 v1 v2 (some v3) (some v4)  h1 _ hb
def b_249_233 (k64 : Option Nat → Int32 → Int32 → Hp → Option (Int32 × Hp)) (v0 : Option Nat) (v1 : Int32) (v2 : Int32) (s0 : Option Nat) (s1 : Int32) (h : Hp) : Option (Int32 × Hp) :=
  (gQ 11 39 v0 h).bind fun x1 =>
  (aI 12 x1 v2 h).bind fun x2 =>
  b_249_239 k64 v0 v1 v2 s0 s1 x2 h
theorem u_249_233 (d : Nat) (hd : 69 ≤ d) (k64 : Option Nat → Int32 → Int32 → Hp → Option (Int32 × Hp)) (K64 : ∀ (v0 : Option Nat) (v1 : Int32) (v2 : Int32) (v3 : Option (Int32)) (v4 : Option (Int32)) (h : Hp) (r : Int32 × Hp), k64 v0 v1 v2 h = some r → Rn d 249 64 [some (va_rf v0), some (.int v1), some (.int v2), v3.map Value.int, v4.map Value.int] [] h (some (.int r.1), r.2)) (v0 : Option Nat) (v1 : Int32) (v2 : Int32) (v3 : Int32) (v4 : Int32) (s0 : Option Nat) (s1 : Int32) (h : Hp) (r : Int32 × Hp) (hb : b_249_233 k64 v0 v1 v2 s0 s1 h = some r) : Rn d 249 233 [some (va_rf v0), some (.int v1), some (.int v2), some (.int v3), some (.int v4)] [.int s1, va_rf s0] h (some (.int r.1), r.2) := by
  unfold b_249_233 at hb
  refine rn_aload_n (i := 0) rfl rfl ?_
  refine rn_gQ (c := 11) (k := 39) rfl (by decide) hb (fun x1 hb => ?_)
  refine rn_iload_n (i := 2) rfl rfl ?_
  refine rn_aI rfl hb (fun x2 hb => ?_)
  exact u_249_239 d hd k64 K64 v0 v1 v2 v3 v4 s0 s1 x2 h _ hb
def b_249_229 (k64 : Option Nat → Int32 → Int32 → Hp → Option (Int32 × Hp)) (v0 : Option Nat) (v1 : Int32) (v2 : Int32) (v3 : Int32) (s0 : Option Nat) (s1 : Int32) (h : Hp) : Option (Int32 × Hp) :=
  b_249_239 k64 v0 v1 v2 s0 s1 v3 h
theorem u_249_229 (d : Nat) (hd : 69 ≤ d) (k64 : Option Nat → Int32 → Int32 → Hp → Option (Int32 × Hp)) (K64 : ∀ (v0 : Option Nat) (v1 : Int32) (v2 : Int32) (v3 : Option (Int32)) (v4 : Option (Int32)) (h : Hp) (r : Int32 × Hp), k64 v0 v1 v2 h = some r → Rn d 249 64 [some (va_rf v0), some (.int v1), some (.int v2), v3.map Value.int, v4.map Value.int] [] h (some (.int r.1), r.2)) (v0 : Option Nat) (v1 : Int32) (v2 : Int32) (v3 : Int32) (v4 : Int32) (s0 : Option Nat) (s1 : Int32) (h : Hp) (r : Int32 × Hp) (hb : b_249_229 k64 v0 v1 v2 v3 s0 s1 h = some r) : Rn d 249 229 [some (va_rf v0), some (.int v1), some (.int v2), some (.int v3), some (.int v4)] [.int s1, va_rf s0] h (some (.int r.1), r.2) := by
  unfold b_249_229 at hb
  refine rn_iload_n (i := 3) rfl rfl ?_
  refine rn_goto rfl rfl ?_
  exact u_249_239 d hd k64 K64 v0 v1 v2 v3 v4 s0 s1 v3 h _ hb
def b_249_214 (k64 : Option Nat → Int32 → Int32 → Hp → Option (Int32 × Hp)) (v0 : Option Nat) (v1 : Int32) (v2 : Int32) (v3 : Int32)  (h : Hp) : Option (Int32 × Hp) :=
  (gQ 11 40 v0 h).bind fun x1 =>
  (gQ 11 39 v0 h).bind fun x2 =>
  (aI 12 x2 v2 h).bind fun x3 =>
  if v3 ≤ x3 then b_249_233 k64 v0 v1 v2 x1 v2 h else b_249_229 k64 v0 v1 v2 v3 x1 v2 h
theorem u_249_214 (d : Nat) (hd : 69 ≤ d) (k64 : Option Nat → Int32 → Int32 → Hp → Option (Int32 × Hp)) (K64 : ∀ (v0 : Option Nat) (v1 : Int32) (v2 : Int32) (v3 : Option (Int32)) (v4 : Option (Int32)) (h : Hp) (r : Int32 × Hp), k64 v0 v1 v2 h = some r → Rn d 249 64 [some (va_rf v0), some (.int v1), some (.int v2), v3.map Value.int, v4.map Value.int] [] h (some (.int r.1), r.2)) (v0 : Option Nat) (v1 : Int32) (v2 : Int32) (v3 : Int32) (v4 : Int32)  (h : Hp) (r : Int32 × Hp) (hb : b_249_214 k64 v0 v1 v2 v3  h = some r) : Rn d 249 214 [some (va_rf v0), some (.int v1), some (.int v2), some (.int v3), some (.int v4)] [] h (some (.int r.1), r.2) := by
  unfold b_249_214 at hb
  refine rn_aload_n (i := 0) rfl rfl ?_
  refine rn_gQ (c := 11) (k := 40) rfl (by decide) hb (fun x1 hb => ?_)
  refine rn_iload_n (i := 2) rfl rfl ?_
  refine rn_iload_n (i := 3) rfl rfl ?_
  refine rn_aload_n (i := 0) rfl rfl ?_
  refine rn_gQ (c := 11) (k := 39) rfl (by decide) hb (fun x2 hb => ?_)
  refine rn_iload_n (i := 2) rfl rfl ?_
  refine rn_aI rfl hb (fun x3 hb => ?_)
  refine rn_icmp_le rfl rfl (fun hc => ?_) (fun hc => ?_)
  · exact u_249_233 d hd k64 K64 v0 v1 v2 v3 v4 x1 v2 h _ (if_t hb hc)
  · exact u_249_229 d hd k64 K64 v0 v1 v2 v3 v4 x1 v2 h _ (if_f hb hc)
def b_249_208 (k64 : Option Nat → Int32 → Int32 → Hp → Option (Int32 × Hp)) (k154 : Option Nat → Int32 → Int32 → Int32 → Int32 → Hp → Option (Int32 × Hp)) (v0 : Option Nat) (v1 : Int32) (v2 : Int32) (v3 : Int32) (v4 : Int32)  (h : Hp) : Option (Int32 × Hp) :=
  bnd (v4 + (nI 1)) fun x1 =>
  k154 v0 v1 v2 v3 x1 h
theorem u_249_208 (d : Nat) (hd : 69 ≤ d) (k64 : Option Nat → Int32 → Int32 → Hp → Option (Int32 × Hp)) (K64 : ∀ (v0 : Option Nat) (v1 : Int32) (v2 : Int32) (v3 : Option (Int32)) (v4 : Option (Int32)) (h : Hp) (r : Int32 × Hp), k64 v0 v1 v2 h = some r → Rn d 249 64 [some (va_rf v0), some (.int v1), some (.int v2), v3.map Value.int, v4.map Value.int] [] h (some (.int r.1), r.2)) (k154 : Option Nat → Int32 → Int32 → Int32 → Int32 → Hp → Option (Int32 × Hp)) (K154 : ∀ (v0 : Option Nat) (v1 : Int32) (v2 : Int32) (v3 : Int32) (v4 : Int32) (h : Hp) (r : Int32 × Hp), k154 v0 v1 v2 v3 v4 h = some r → Rn d 249 154 [some (va_rf v0), some (.int v1), some (.int v2), some (.int v3), some (.int v4)] [] h (some (.int r.1), r.2)) (v0 : Option Nat) (v1 : Int32) (v2 : Int32) (v3 : Int32) (v4 : Int32)  (h : Hp) (r : Int32 × Hp) (hb : b_249_208 k64 k154 v0 v1 v2 v3 v4  h = some r) : Rn d 249 208 [some (va_rf v0), some (.int v1), some (.int v2), some (.int v3), some (.int v4)] [] h (some (.int r.1), r.2) := by
  unfold b_249_208 at hb
  obtain ⟨x1, ex1, hb⟩ := bnd_spec hb
  refine rn_iinc (i := 4) (y := x1) (L1 := [some (va_rf v0), some (.int v1), some (.int v2), some (.int v3), some (.int x1)]) rfl rfl (Nat.le_of_ble_eq_true rfl) (Or.inr rfl) (by rw [ex1]; rfl) rfl ?_
  refine rn_goto rfl rfl ?_
  exact K154 v0 v1 v2 v3 x1 h _ hb
def b_249_196 (k64 : Option Nat → Int32 → Int32 → Hp → Option (Int32 × Hp)) (k154 : Option Nat → Int32 → Int32 → Int32 → Int32 → Hp → Option (Int32 × Hp)) (v0 : Option Nat) (v1 : Int32) (v2 : Int32) (v4 : Int32)  (h : Hp) : Option (Int32 × Hp) :=
  (gQ 11 40 v0 h).bind fun x1 =>
  (aI 12 x1 (v2 ||| ((nI 1) <<< (v4 &&& 31))) h).bind fun x2 =>
  b_249_208 k64 k154 v0 v1 v2 x2 v4  h
theorem u_249_196 (d : Nat) (hd : 69 ≤ d) (k64 : Option Nat → Int32 → Int32 → Hp → Option (Int32 × Hp)) (K64 : ∀ (v0 : Option Nat) (v1 : Int32) (v2 : Int32) (v3 : Option (Int32)) (v4 : Option (Int32)) (h : Hp) (r : Int32 × Hp), k64 v0 v1 v2 h = some r → Rn d 249 64 [some (va_rf v0), some (.int v1), some (.int v2), v3.map Value.int, v4.map Value.int] [] h (some (.int r.1), r.2)) (k154 : Option Nat → Int32 → Int32 → Int32 → Int32 → Hp → Option (Int32 × Hp)) (K154 : ∀ (v0 : Option Nat) (v1 : Int32) (v2 : Int32) (v3 : Int32) (v4 : Int32) (h : Hp) (r : Int32 × Hp), k154 v0 v1 v2 v3 v4 h = some r → Rn d 249 154 [some (va_rf v0), some (.int v1), some (.int v2), some (.int v3), some (.int v4)] [] h (some (.int r.1), r.2)) (v0 : Option Nat) (v1 : Int32) (v2 : Int32) (v3 : Int32) (v4 : Int32)  (h : Hp) (r : Int32 × Hp) (hb : b_249_196 k64 k154 v0 v1 v2 v4  h = some r) : Rn d 249 196 [some (va_rf v0), some (.int v1), some (.int v2), some (.int v3), some (.int v4)] [] h (some (.int r.1), r.2) := by
  unfold b_249_196 at hb
  refine rn_aload_n (i := 0) rfl rfl ?_
  refine rn_gQ (c := 11) (k := 40) rfl (by decide) hb (fun x1 hb => ?_)
  refine rn_iload_n (i := 2) rfl rfl ?_
  refine rn_iconst (x := (nI 1)) rfl (by decide) ?_
  refine rn_iload (i := 4) rfl rfl ?_
  refine rn_ishl rfl ?_
  refine rn_ior rfl ?_
  refine rn_aI rfl hb (fun x2 hb => ?_)
  refine rn_istore_n (i := 3) (L1 := [some (va_rf v0), some (.int v1), some (.int v2), some (.int x2), some (.int v4)]) rfl (Nat.le_of_ble_eq_true rfl) (Or.inr rfl) rfl ?_
  exact u_249_208 d hd k64 K64 k154 K154 v0 v1 v2 x2 v4  h _ hb
def b_249_181 (k64 : Option Nat → Int32 → Int32 → Hp → Option (Int32 × Hp)) (k154 : Option Nat → Int32 → Int32 → Int32 → Int32 → Hp → Option (Int32 × Hp)) (v0 : Option Nat) (v1 : Int32) (v2 : Int32) (v3 : Int32) (v4 : Int32)  (h : Hp) : Option (Int32 × Hp) :=
  (gQ 11 40 v0 h).bind fun x1 =>
  (aI 12 x1 (v2 ||| ((nI 1) <<< (v4 &&& 31))) h).bind fun x2 =>
  if v3 ≤ x2 then b_249_208 k64 k154 v0 v1 v2 v3 v4  h else b_249_196 k64 k154 v0 v1 v2 v4  h
theorem u_249_181 (d : Nat) (hd : 69 ≤ d) (k64 : Option Nat → Int32 → Int32 → Hp → Option (Int32 × Hp)) (K64 : ∀ (v0 : Option Nat) (v1 : Int32) (v2 : Int32) (v3 : Option (Int32)) (v4 : Option (Int32)) (h : Hp) (r : Int32 × Hp), k64 v0 v1 v2 h = some r → Rn d 249 64 [some (va_rf v0), some (.int v1), some (.int v2), v3.map Value.int, v4.map Value.int] [] h (some (.int r.1), r.2)) (k154 : Option Nat → Int32 → Int32 → Int32 → Int32 → Hp → Option (Int32 × Hp)) (K154 : ∀ (v0 : Option Nat) (v1 : Int32) (v2 : Int32) (v3 : Int32) (v4 : Int32) (h : Hp) (r : Int32 × Hp), k154 v0 v1 v2 v3 v4 h = some r → Rn d 249 154 [some (va_rf v0), some (.int v1), some (.int v2), some (.int v3), some (.int v4)] [] h (some (.int r.1), r.2)) (v0 : Option Nat) (v1 : Int32) (v2 : Int32) (v3 : Int32) (v4 : Int32)  (h : Hp) (r : Int32 × Hp) (hb : b_249_181 k64 k154 v0 v1 v2 v3 v4  h = some r) : Rn d 249 181 [some (va_rf v0), some (.int v1), some (.int v2), some (.int v3), some (.int v4)] [] h (some (.int r.1), r.2) := by
  unfold b_249_181 at hb
  refine rn_aload_n (i := 0) rfl rfl ?_
  refine rn_gQ (c := 11) (k := 40) rfl (by decide) hb (fun x1 hb => ?_)
  refine rn_iload_n (i := 2) rfl rfl ?_
  refine rn_iconst (x := (nI 1)) rfl (by decide) ?_
  refine rn_iload (i := 4) rfl rfl ?_
  refine rn_ishl rfl ?_
  refine rn_ior rfl ?_
  refine rn_aI rfl hb (fun x2 hb => ?_)
  refine rn_iload_n (i := 3) rfl rfl ?_
  refine rn_icmp_ge rfl rfl (fun hc => ?_) (fun hc => ?_)
  · exact u_249_208 d hd k64 K64 k154 K154 v0 v1 v2 v3 v4  h _ (if_t hb hc)
  · exact u_249_196 d hd k64 K64 k154 K154 v0 v1 v2 v3 v4  h _ (if_f hb hc)
def b_249_172 (k64 : Option Nat → Int32 → Int32 → Hp → Option (Int32 × Hp)) (k154 : Option Nat → Int32 → Int32 → Int32 → Int32 → Hp → Option (Int32 × Hp)) (v0 : Option Nat) (v1 : Int32) (v2 : Int32) (v3 : Int32) (v4 : Int32)  (h : Hp) : Option (Int32 × Hp) :=
  (f_183 v2 v4 h).bind fun p1 =>
  if ¬ p1.1 = 0 then b_249_208 k64 k154 v0 v1 v2 v3 v4  p1.2 else b_249_181 k64 k154 v0 v1 v2 v3 v4  p1.2
theorem u_249_172 (d : Nat) (hd : 69 ≤ d) (k64 : Option Nat → Int32 → Int32 → Hp → Option (Int32 × Hp)) (K64 : ∀ (v0 : Option Nat) (v1 : Int32) (v2 : Int32) (v3 : Option (Int32)) (v4 : Option (Int32)) (h : Hp) (r : Int32 × Hp), k64 v0 v1 v2 h = some r → Rn d 249 64 [some (va_rf v0), some (.int v1), some (.int v2), v3.map Value.int, v4.map Value.int] [] h (some (.int r.1), r.2)) (k154 : Option Nat → Int32 → Int32 → Int32 → Int32 → Hp → Option (Int32 × Hp)) (K154 : ∀ (v0 : Option Nat) (v1 : Int32) (v2 : Int32) (v3 : Int32) (v4 : Int32) (h : Hp) (r : Int32 × Hp), k154 v0 v1 v2 v3 v4 h = some r → Rn d 249 154 [some (va_rf v0), some (.int v1), some (.int v2), some (.int v3), some (.int v4)] [] h (some (.int r.1), r.2)) (v0 : Option Nat) (v1 : Int32) (v2 : Int32) (v3 : Int32) (v4 : Int32)  (h : Hp) (r : Int32 × Hp) (hb : b_249_172 k64 k154 v0 v1 v2 v3 v4  h = some r) : Rn d 249 172 [some (va_rf v0), some (.int v1), some (.int v2), some (.int v3), some (.int v4)] [] h (some (.int r.1), r.2) := by
  unfold b_249_172 at hb
  obtain ⟨e, rfl⟩ : ∃ e, d = e + 1 := ⟨d - 1, by omega⟩
  refine rn_iload_n (i := 2) rfl rfl ?_
  refine rn_iload (i := 4) rfl rfl ?_
  obtain ⟨p1, hc, hb⟩ := Option.bind_eq_some_iff.mp hb
  refine Rn.call1 (d := e) (As := [.int v2, .int v4]) (rest := []) rfl rfl rfl (by decide) rfl rfl rfl rfl (by decide) (bd_lenC (n := 2) rfl (bd_slI (bd_slI bd_slN)) rfl) (bd_locC (n := 2) rfl (bd_slI (bd_slI bd_slN)) rfl (t_183 e (by omega) v2 v4 h _ hc)) ?_
  refine rn_if_ne rfl rfl (fun hc => ?_) (fun hc => ?_)
  · exact u_249_208 (e + 1) hd k64 K64 k154 K154 v0 v1 v2 v3 v4  p1.2 _ (if_t hb hc)
  · exact u_249_181 (e + 1) hd k64 K64 k154 K154 v0 v1 v2 v3 v4  p1.2 _ (if_f hb hc)
def b_249_163 (k64 : Option Nat → Int32 → Int32 → Hp → Option (Int32 × Hp)) (k154 : Option Nat → Int32 → Int32 → Int32 → Int32 → Hp → Option (Int32 × Hp)) (v0 : Option Nat) (v1 : Int32) (v2 : Int32) (v3 : Int32) (v4 : Int32)  (h : Hp) : Option (Int32 × Hp) :=
  (f_183 v1 v4 h).bind fun p1 =>
  if p1.1 = 0 then b_249_208 k64 k154 v0 v1 v2 v3 v4  p1.2 else b_249_172 k64 k154 v0 v1 v2 v3 v4  p1.2
theorem u_249_163 (d : Nat) (hd : 69 ≤ d) (k64 : Option Nat → Int32 → Int32 → Hp → Option (Int32 × Hp)) (K64 : ∀ (v0 : Option Nat) (v1 : Int32) (v2 : Int32) (v3 : Option (Int32)) (v4 : Option (Int32)) (h : Hp) (r : Int32 × Hp), k64 v0 v1 v2 h = some r → Rn d 249 64 [some (va_rf v0), some (.int v1), some (.int v2), v3.map Value.int, v4.map Value.int] [] h (some (.int r.1), r.2)) (k154 : Option Nat → Int32 → Int32 → Int32 → Int32 → Hp → Option (Int32 × Hp)) (K154 : ∀ (v0 : Option Nat) (v1 : Int32) (v2 : Int32) (v3 : Int32) (v4 : Int32) (h : Hp) (r : Int32 × Hp), k154 v0 v1 v2 v3 v4 h = some r → Rn d 249 154 [some (va_rf v0), some (.int v1), some (.int v2), some (.int v3), some (.int v4)] [] h (some (.int r.1), r.2)) (v0 : Option Nat) (v1 : Int32) (v2 : Int32) (v3 : Int32) (v4 : Int32)  (h : Hp) (r : Int32 × Hp) (hb : b_249_163 k64 k154 v0 v1 v2 v3 v4  h = some r) : Rn d 249 163 [some (va_rf v0), some (.int v1), some (.int v2), some (.int v3), some (.int v4)] [] h (some (.int r.1), r.2) := by
  unfold b_249_163 at hb
  obtain ⟨e, rfl⟩ : ∃ e, d = e + 1 := ⟨d - 1, by omega⟩
  refine rn_iload_n (i := 1) rfl rfl ?_
  refine rn_iload (i := 4) rfl rfl ?_
  obtain ⟨p1, hc, hb⟩ := Option.bind_eq_some_iff.mp hb
  refine Rn.call1 (d := e) (As := [.int v1, .int v4]) (rest := []) rfl rfl rfl (by decide) rfl rfl rfl rfl (by decide) (bd_lenC (n := 2) rfl (bd_slI (bd_slI bd_slN)) rfl) (bd_locC (n := 2) rfl (bd_slI (bd_slI bd_slN)) rfl (t_183 e (by omega) v1 v4 h _ hc)) ?_
  refine rn_if_eq rfl rfl (fun hc => ?_) (fun hc => ?_)
  · exact u_249_208 (e + 1) hd k64 K64 k154 K154 v0 v1 v2 v3 v4  p1.2 _ (if_t hb hc)
  · exact u_249_172 (e + 1) hd k64 K64 k154 K154 v0 v1 v2 v3 v4  p1.2 _ (if_f hb hc)
def b_249_154 (k64 : Option Nat → Int32 → Int32 → Hp → Option (Int32 × Hp)) (k154 : Option Nat → Int32 → Int32 → Int32 → Int32 → Hp → Option (Int32 × Hp)) (v0 : Option Nat) (v1 : Int32) (v2 : Int32) (v3 : Int32) (v4 : Int32)  (h : Hp) : Option (Int32 × Hp) :=
  (grd (rC 11 v0 h)).bind fun _ =>
  (f_203 v0 h).bind fun p1 =>
  if p1.1 ≤ v4 then b_249_214 k64 v0 v1 v2 v3  p1.2 else b_249_163 k64 k154 v0 v1 v2 v3 v4  p1.2
theorem u_249_154 (d : Nat) (hd : 69 ≤ d) (k64 : Option Nat → Int32 → Int32 → Hp → Option (Int32 × Hp)) (K64 : ∀ (v0 : Option Nat) (v1 : Int32) (v2 : Int32) (v3 : Option (Int32)) (v4 : Option (Int32)) (h : Hp) (r : Int32 × Hp), k64 v0 v1 v2 h = some r → Rn d 249 64 [some (va_rf v0), some (.int v1), some (.int v2), v3.map Value.int, v4.map Value.int] [] h (some (.int r.1), r.2)) (k154 : Option Nat → Int32 → Int32 → Int32 → Int32 → Hp → Option (Int32 × Hp)) (K154 : ∀ (v0 : Option Nat) (v1 : Int32) (v2 : Int32) (v3 : Int32) (v4 : Int32) (h : Hp) (r : Int32 × Hp), k154 v0 v1 v2 v3 v4 h = some r → Rn d 249 154 [some (va_rf v0), some (.int v1), some (.int v2), some (.int v3), some (.int v4)] [] h (some (.int r.1), r.2)) (v0 : Option Nat) (v1 : Int32) (v2 : Int32) (v3 : Int32) (v4 : Int32)  (h : Hp) (r : Int32 × Hp) (hb : b_249_154 k64 k154 v0 v1 v2 v3 v4  h = some r) : Rn d 249 154 [some (va_rf v0), some (.int v1), some (.int v2), some (.int v3), some (.int v4)] [] h (some (.int r.1), r.2) := by
  unfold b_249_154 at hb
  obtain ⟨e, rfl⟩ : ∃ e, d = e + 1 := ⟨d - 1, by omega⟩
  refine rn_iload (i := 4) rfl rfl ?_
  refine rn_aload_n (i := 0) rfl rfl ?_
  obtain ⟨hrc, hb⟩ := grd_spec hb
  obtain ⟨p1, hc, hb⟩ := Option.bind_eq_some_iff.mp hb
  refine Rn.call1 (d := e) (As := [va_rf v0]) (rest := [.int v4]) rfl rfl rfl (by decide) rfl rfl rfl (bd_rcV hrc rfl) (by rw [bd_cI (bd_cN)]; decide) (bd_lenC (n := 1) rfl (bd_slR bd_slN) rfl) (bd_locC (n := 1) rfl (bd_slR bd_slN) rfl (t_203 e (by omega) v0 h _ hc)) ?_
  refine rn_icmp_ge rfl rfl (fun hc => ?_) (fun hc => ?_)
  · exact u_249_214 (e + 1) hd k64 K64 v0 v1 v2 v3 v4  p1.2 _ (if_t hb hc)
  · exact u_249_163 (e + 1) hd k64 K64 k154 K154 v0 v1 v2 v3 v4  p1.2 _ (if_f hb hc)
def l_249_154 (k64 : Option Nat → Int32 → Int32 → Hp → Option (Int32 × Hp)) : Nat → Option Nat → Int32 → Int32 → Int32 → Int32 → Hp → Option (Int32 × Hp)
  | 0, _, _, _, _, _, _ => none
  | n + 1, v0, v1, v2, v3, v4, h => b_249_154 k64 (l_249_154 k64 n) v0 v1 v2 v3 v4 h
theorem w_249_154 (d : Nat) (hd : 69 ≤ d) (k64 : Option Nat → Int32 → Int32 → Hp → Option (Int32 × Hp)) (K64 : ∀ (v0 : Option Nat) (v1 : Int32) (v2 : Int32) (v3 : Option (Int32)) (v4 : Option (Int32)) (h : Hp) (r : Int32 × Hp), k64 v0 v1 v2 h = some r → Rn d 249 64 [some (va_rf v0), some (.int v1), some (.int v2), v3.map Value.int, v4.map Value.int] [] h (some (.int r.1), r.2)) : ∀ (n : Nat) (v0 : Option Nat) (v1 : Int32) (v2 : Int32) (v3 : Int32) (v4 : Int32) (h : Hp) (r : Int32 × Hp), l_249_154 k64 n v0 v1 v2 v3 v4 h = some r → Rn d 249 154 [some (va_rf v0), some (.int v1), some (.int v2), some (.int v3), some (.int v4)] [] h (some (.int r.1), r.2) := by
  intro n
  induction n with
  | zero => intro v0 v1 v2 v3 v4 h r hb; cases hb
  | succ n ih => intro v0 v1 v2 v3 v4 h r hb; exact u_249_154 d hd k64 K64 (l_249_154 k64 n) ih v0 v1 v2 v3 v4 h r hb
def b_249_150 (k64 : Option Nat → Int32 → Int32 → Hp → Option (Int32 × Hp)) (v0 : Option Nat) (v1 : Int32) (v2 : Int32) (s0 : Int32) (h : Hp) : Option (Int32 × Hp) :=
  bnd ((nI 0)) fun x1 =>
  l_249_154 k64 FU v0 v1 v2 s0 x1 h
theorem u_249_150 (d : Nat) (hd : 69 ≤ d) (k64 : Option Nat → Int32 → Int32 → Hp → Option (Int32 × Hp)) (K64 : ∀ (v0 : Option Nat) (v1 : Int32) (v2 : Int32) (v3 : Option (Int32)) (v4 : Option (Int32)) (h : Hp) (r : Int32 × Hp), k64 v0 v1 v2 h = some r → Rn d 249 64 [some (va_rf v0), some (.int v1), some (.int v2), v3.map Value.int, v4.map Value.int] [] h (some (.int r.1), r.2)) (v0 : Option Nat) (v1 : Int32) (v2 : Int32) (v3 : Int32) (v4 : Option (Int32)) (s0 : Int32) (h : Hp) (r : Int32 × Hp) (hb : b_249_150 k64 v0 v1 v2 s0 h = some r) : Rn d 249 150 [some (va_rf v0), some (.int v1), some (.int v2), some (.int v3), v4.map Value.int] [.int s0] h (some (.int r.1), r.2) := by
  unfold b_249_150 at hb
  refine rn_istore_n (i := 3) (L1 := [some (va_rf v0), some (.int v1), some (.int v2), some (.int s0), v4.map Value.int]) rfl (Nat.le_of_ble_eq_true rfl) (Or.inr rfl) rfl ?_
  refine rn_iconst (x := (nI 0)) rfl (by decide) ?_
  obtain ⟨x1, ex1, hb⟩ := bnd_spec hb
  refine rn_istore (i := 4) (L1 := [some (va_rf v0), some (.int v1), some (.int v2), some (.int s0), some (.int x1)]) rfl (Nat.le_of_ble_eq_true rfl) (Or.inr rfl) (by rw [ex1]; rfl) ?_
  exact w_249_154 d hd k64 K64 FU v0 v1 v2 s0 x1 h _ hb
def b_249_147 (k64 : Option Nat → Int32 → Int32 → Hp → Option (Int32 × Hp)) (v0 : Option Nat) (v1 : Int32) (v2 : Int32)  (h : Hp) : Option (Int32 × Hp) :=
  b_249_150 k64 v0 v1 v2 (nI 1000) h
theorem u_249_147 (d : Nat) (hd : 69 ≤ d) (k64 : Option Nat → Int32 → Int32 → Hp → Option (Int32 × Hp)) (K64 : ∀ (v0 : Option Nat) (v1 : Int32) (v2 : Int32) (v3 : Option (Int32)) (v4 : Option (Int32)) (h : Hp) (r : Int32 × Hp), k64 v0 v1 v2 h = some r → Rn d 249 64 [some (va_rf v0), some (.int v1), some (.int v2), v3.map Value.int, v4.map Value.int] [] h (some (.int r.1), r.2)) (v0 : Option Nat) (v1 : Int32) (v2 : Int32) (v3 : Int32) (v4 : Option (Int32))  (h : Hp) (r : Int32 × Hp) (hb : b_249_147 k64 v0 v1 v2  h = some r) : Rn d 249 147 [some (va_rf v0), some (.int v1), some (.int v2), some (.int v3), v4.map Value.int] [] h (some (.int r.1), r.2) := by
  unfold b_249_147 at hb
  refine rn_sipush (x := (nI 1000)) rfl (by decide) ?_
  exact u_249_150 d hd k64 K64 v0 v1 v2 v3 v4 (nI 1000) h _ hb
def b_249_143 (k64 : Option Nat → Int32 → Int32 → Hp → Option (Int32 × Hp)) (v0 : Option Nat) (v1 : Int32) (v2 : Int32)  (h : Hp) : Option (Int32 × Hp) :=
  b_249_150 k64 v0 v1 v2 (nI 0) h
theorem u_249_143 (d : Nat) (hd : 69 ≤ d) (k64 : Option Nat → Int32 → Int32 → Hp → Option (Int32 × Hp)) (K64 : ∀ (v0 : Option Nat) (v1 : Int32) (v2 : Int32) (v3 : Option (Int32)) (v4 : Option (Int32)) (h : Hp) (r : Int32 × Hp), k64 v0 v1 v2 h = some r → Rn d 249 64 [some (va_rf v0), some (.int v1), some (.int v2), v3.map Value.int, v4.map Value.int] [] h (some (.int r.1), r.2)) (v0 : Option Nat) (v1 : Int32) (v2 : Int32) (v3 : Int32) (v4 : Option (Int32))  (h : Hp) (r : Int32 × Hp) (hb : b_249_143 k64 v0 v1 v2  h = some r) : Rn d 249 143 [some (va_rf v0), some (.int v1), some (.int v2), some (.int v3), v4.map Value.int] [] h (some (.int r.1), r.2) := by
  unfold b_249_143 at hb
  refine rn_iconst (x := (nI 0)) rfl (by decide) ?_
  refine rn_goto rfl rfl ?_
  exact u_249_150 d hd k64 K64 v0 v1 v2 v3 v4 (nI 0) h _ hb
def b_249_124 (k64 : Option Nat → Int32 → Int32 → Hp → Option (Int32 × Hp)) (v0 : Option Nat) (v1 : Int32) (v2 : Int32)  (h : Hp) : Option (Int32 × Hp) :=
  (gQ 11 39 v0 h).bind fun x1 =>
  (gQ 11 30 v0 h).bind fun x2 =>
  (grd (rC 11 v0 h)).bind fun _ =>
  (f_229 v0 x2 h).bind fun p3 =>
  (wI x1 v2 p3.1 p3.2).bind fun h4 =>
  if ¬ v2 = v1 then b_249_147 k64 v0 v1 v2  h4 else b_249_143 k64 v0 v1 v2  h4
theorem u_249_124 (d : Nat) (hd : 69 ≤ d) (k64 : Option Nat → Int32 → Int32 → Hp → Option (Int32 × Hp)) (K64 : ∀ (v0 : Option Nat) (v1 : Int32) (v2 : Int32) (v3 : Option (Int32)) (v4 : Option (Int32)) (h : Hp) (r : Int32 × Hp), k64 v0 v1 v2 h = some r → Rn d 249 64 [some (va_rf v0), some (.int v1), some (.int v2), v3.map Value.int, v4.map Value.int] [] h (some (.int r.1), r.2)) (v0 : Option Nat) (v1 : Int32) (v2 : Int32) (v3 : Int32) (v4 : Option (Int32))  (h : Hp) (r : Int32 × Hp) (hb : b_249_124 k64 v0 v1 v2  h = some r) : Rn d 249 124 [some (va_rf v0), some (.int v1), some (.int v2), some (.int v3), v4.map Value.int] [] h (some (.int r.1), r.2) := by
  unfold b_249_124 at hb
  obtain ⟨e, rfl⟩ : ∃ e, d = e + 1 := ⟨d - 1, by omega⟩
  refine rn_aload_n (i := 0) rfl rfl ?_
  refine rn_gQ (c := 11) (k := 39) rfl (by decide) hb (fun x1 hb => ?_)
  refine rn_iload_n (i := 2) rfl rfl ?_
  refine rn_aload_n (i := 0) rfl rfl ?_
  refine rn_aload_n (i := 0) rfl rfl ?_
  refine rn_gQ (c := 11) (k := 30) rfl (by decide) hb (fun x2 hb => ?_)
  obtain ⟨hrc, hb⟩ := grd_spec hb
  obtain ⟨p3, hc, hb⟩ := Option.bind_eq_some_iff.mp hb
  refine Rn.call1 (d := e) (As := [va_rf v0, va_rf x2]) (rest := [.int v2, va_rf x1]) rfl rfl rfl (by decide) rfl rfl rfl (bd_rcV hrc rfl) (by rw [bd_cI (bd_cR (bd_cN))]; decide) (bd_lenC (n := 5) rfl (bd_slR (bd_slR bd_slN)) rfl) (bd_locC (n := 5) rfl (bd_slR (bd_slR bd_slN)) rfl (t_229 e (by omega) v0 x2 h _ hc)) ?_
  refine rn_wI rfl hb (fun h4 hb => ?_)
  refine rn_iload_n (i := 2) rfl rfl ?_
  refine rn_iload_n (i := 1) rfl rfl ?_
  refine rn_icmp_ne rfl rfl (fun hc => ?_) (fun hc => ?_)
  · exact u_249_147 (e + 1) hd k64 K64 v0 v1 v2 v3 v4  h4 _ (if_t hb hc)
  · exact u_249_143 (e + 1) hd k64 K64 v0 v1 v2 v3 v4  h4 _ (if_f hb hc)
def b_249_117 (k64 : Option Nat → Int32 → Int32 → Hp → Option (Int32 × Hp)) (k81 : Option Nat → Int32 → Int32 → Int32 → Hp → Option (Int32 × Hp)) (v0 : Option Nat) (v1 : Int32) (v2 : Int32) (v3 : Int32) (s0 : Option Nat) (s1 : Int32) (s2 : Int32) (h : Hp) : Option (Int32 × Hp) :=
  (wI s0 s1 s2 h).bind fun h1 =>
  bnd (v3 + (nI 1)) fun x2 =>
  k81 v0 v1 v2 x2 h1
theorem u_249_117 (d : Nat) (hd : 69 ≤ d) (k64 : Option Nat → Int32 → Int32 → Hp → Option (Int32 × Hp)) (K64 : ∀ (v0 : Option Nat) (v1 : Int32) (v2 : Int32) (v3 : Option (Int32)) (v4 : Option (Int32)) (h : Hp) (r : Int32 × Hp), k64 v0 v1 v2 h = some r → Rn d 249 64 [some (va_rf v0), some (.int v1), some (.int v2), v3.map Value.int, v4.map Value.int] [] h (some (.int r.1), r.2)) (k81 : Option Nat → Int32 → Int32 → Int32 → Hp → Option (Int32 × Hp)) (K81 : ∀ (v0 : Option Nat) (v1 : Int32) (v2 : Int32) (v3 : Int32) (v4 : Option (Int32)) (h : Hp) (r : Int32 × Hp), k81 v0 v1 v2 v3 h = some r → Rn d 249 81 [some (va_rf v0), some (.int v1), some (.int v2), some (.int v3), v4.map Value.int] [] h (some (.int r.1), r.2)) (v0 : Option Nat) (v1 : Int32) (v2 : Int32) (v3 : Int32) (v4 : Option (Int32)) (s0 : Option Nat) (s1 : Int32) (s2 : Int32) (h : Hp) (r : Int32 × Hp) (hb : b_249_117 k64 k81 v0 v1 v2 v3 s0 s1 s2 h = some r) : Rn d 249 117 [some (va_rf v0), some (.int v1), some (.int v2), some (.int v3), v4.map Value.int] [.int s2, .int s1, va_rf s0] h (some (.int r.1), r.2) := by
  unfold b_249_117 at hb
  refine rn_wI rfl hb (fun h1 hb => ?_)
  obtain ⟨x2, ex2, hb⟩ := bnd_spec hb
  refine rn_iinc (i := 3) (y := x2) (L1 := [some (va_rf v0), some (.int v1), some (.int v2), some (.int x2), v4.map Value.int]) rfl rfl (Nat.le_of_ble_eq_true rfl) (Or.inr rfl) (by rw [ex2]; rfl) rfl ?_
  refine rn_goto rfl rfl ?_
  exact K81 v0 v1 v2 x2 v4 h1 _ hb
def b_249_111 (k64 : Option Nat → Int32 → Int32 → Hp → Option (Int32 × Hp)) (k81 : Option Nat → Int32 → Int32 → Int32 → Hp → Option (Int32 × Hp)) (v0 : Option Nat) (v1 : Int32) (v2 : Int32) (v3 : Int32) (s0 : Option Nat) (s1 : Int32) (h : Hp) : Option (Int32 × Hp) :=
  (grd (rC 11 v0 h)).bind fun _ =>
  (f_205 v0 v3 (nI 4) h).bind fun p1 =>
  b_249_117 k64 k81 v0 v1 v2 v3 s0 s1 p1.1 p1.2
theorem u_249_111 (d : Nat) (hd : 69 ≤ d) (k64 : Option Nat → Int32 → Int32 → Hp → Option (Int32 × Hp)) (K64 : ∀ (v0 : Option Nat) (v1 : Int32) (v2 : Int32) (v3 : Option (Int32)) (v4 : Option (Int32)) (h : Hp) (r : Int32 × Hp), k64 v0 v1 v2 h = some r → Rn d 249 64 [some (va_rf v0), some (.int v1), some (.int v2), v3.map Value.int, v4.map Value.int] [] h (some (.int r.1), r.2)) (k81 : Option Nat → Int32 → Int32 → Int32 → Hp → Option (Int32 × Hp)) (K81 : ∀ (v0 : Option Nat) (v1 : Int32) (v2 : Int32) (v3 : Int32) (v4 : Option (Int32)) (h : Hp) (r : Int32 × Hp), k81 v0 v1 v2 v3 h = some r → Rn d 249 81 [some (va_rf v0), some (.int v1), some (.int v2), some (.int v3), v4.map Value.int] [] h (some (.int r.1), r.2)) (v0 : Option Nat) (v1 : Int32) (v2 : Int32) (v3 : Int32) (v4 : Option (Int32)) (s0 : Option Nat) (s1 : Int32) (h : Hp) (r : Int32 × Hp) (hb : b_249_111 k64 k81 v0 v1 v2 v3 s0 s1 h = some r) : Rn d 249 111 [some (va_rf v0), some (.int v1), some (.int v2), some (.int v3), v4.map Value.int] [.int s1, va_rf s0] h (some (.int r.1), r.2) := by
  unfold b_249_111 at hb
  obtain ⟨e, rfl⟩ : ∃ e, d = e + 1 := ⟨d - 1, by omega⟩
  refine rn_aload_n (i := 0) rfl rfl ?_
  refine rn_iload_n (i := 3) rfl rfl ?_
  refine rn_iconst (x := (nI 4)) rfl (by decide) ?_
  obtain ⟨hrc, hb⟩ := grd_spec hb
  obtain ⟨p1, hc, hb⟩ := Option.bind_eq_some_iff.mp hb
  refine Rn.call1 (d := e) (As := [va_rf v0, .int v3, .int (nI 4)]) (rest := [.int s1, va_rf s0]) rfl rfl rfl (by decide) rfl rfl rfl (bd_rcV hrc rfl) (by rw [bd_cI (bd_cR (bd_cN))]; decide) (bd_lenC (n := 3) rfl (bd_slR (bd_slI (bd_slI bd_slN))) rfl) (bd_locC (n := 3) rfl (bd_slR (bd_slI (bd_slI bd_slN))) rfl (t_205 e (by omega) v0 v3 (nI 4) h _ hc)) ?_
  exact u_249_117 (e + 1) hd k64 K64 k81 K81 v0 v1 v2 v3 v4 s0 s1 p1.1 p1.2 _ hb
def b_249_102 (k64 : Option Nat → Int32 → Int32 → Hp → Option (Int32 × Hp)) (k81 : Option Nat → Int32 → Int32 → Int32 → Hp → Option (Int32 × Hp)) (v0 : Option Nat) (v1 : Int32) (v2 : Int32) (v3 : Int32) (s0 : Option Nat) (s1 : Int32) (h : Hp) : Option (Int32 × Hp) :=
  (gQ 11 31 v0 h).bind fun x1 =>
  (aI 12 x1 v3 h).bind fun x2 =>
  b_249_117 k64 k81 v0 v1 v2 v3 s0 s1 x2 h
theorem u_249_102 (d : Nat) (hd : 69 ≤ d) (k64 : Option Nat → Int32 → Int32 → Hp → Option (Int32 × Hp)) (K64 : ∀ (v0 : Option Nat) (v1 : Int32) (v2 : Int32) (v3 : Option (Int32)) (v4 : Option (Int32)) (h : Hp) (r : Int32 × Hp), k64 v0 v1 v2 h = some r → Rn d 249 64 [some (va_rf v0), some (.int v1), some (.int v2), v3.map Value.int, v4.map Value.int] [] h (some (.int r.1), r.2)) (k81 : Option Nat → Int32 → Int32 → Int32 → Hp → Option (Int32 × Hp)) (K81 : ∀ (v0 : Option Nat) (v1 : Int32) (v2 : Int32) (v3 : Int32) (v4 : Option (Int32)) (h : Hp) (r : Int32 × Hp), k81 v0 v1 v2 v3 h = some r → Rn d 249 81 [some (va_rf v0), some (.int v1), some (.int v2), some (.int v3), v4.map Value.int] [] h (some (.int r.1), r.2)) (v0 : Option Nat) (v1 : Int32) (v2 : Int32) (v3 : Int32) (v4 : Option (Int32)) (s0 : Option Nat) (s1 : Int32) (h : Hp) (r : Int32 × Hp) (hb : b_249_102 k64 k81 v0 v1 v2 v3 s0 s1 h = some r) : Rn d 249 102 [some (va_rf v0), some (.int v1), some (.int v2), some (.int v3), v4.map Value.int] [.int s1, va_rf s0] h (some (.int r.1), r.2) := by
  unfold b_249_102 at hb
  refine rn_aload_n (i := 0) rfl rfl ?_
  refine rn_gQ (c := 11) (k := 31) rfl (by decide) hb (fun x1 hb => ?_)
  refine rn_iload_n (i := 3) rfl rfl ?_
  refine rn_aI rfl hb (fun x2 hb => ?_)
  refine rn_goto rfl rfl ?_
  exact u_249_117 d hd k64 K64 k81 K81 v0 v1 v2 v3 v4 s0 s1 x2 h _ hb
def b_249_89 (k64 : Option Nat → Int32 → Int32 → Hp → Option (Int32 × Hp)) (k81 : Option Nat → Int32 → Int32 → Int32 → Hp → Option (Int32 × Hp)) (v0 : Option Nat) (v1 : Int32) (v2 : Int32) (v3 : Int32)  (h : Hp) : Option (Int32 × Hp) :=
  (gQ 11 30 v0 h).bind fun x1 =>
  (f_183 v2 v3 h).bind fun p2 =>
  if p2.1 = 0 then b_249_111 k64 k81 v0 v1 v2 v3 x1 v3 p2.2 else b_249_102 k64 k81 v0 v1 v2 v3 x1 v3 p2.2
theorem u_249_89 (d : Nat) (hd : 69 ≤ d) (k64 : Option Nat → Int32 → Int32 → Hp → Option (Int32 × Hp)) (K64 : ∀ (v0 : Option Nat) (v1 : Int32) (v2 : Int32) (v3 : Option (Int32)) (v4 : Option (Int32)) (h : Hp) (r : Int32 × Hp), k64 v0 v1 v2 h = some r → Rn d 249 64 [some (va_rf v0), some (.int v1), some (.int v2), v3.map Value.int, v4.map Value.int] [] h (some (.int r.1), r.2)) (k81 : Option Nat → Int32 → Int32 → Int32 → Hp → Option (Int32 × Hp)) (K81 : ∀ (v0 : Option Nat) (v1 : Int32) (v2 : Int32) (v3 : Int32) (v4 : Option (Int32)) (h : Hp) (r : Int32 × Hp), k81 v0 v1 v2 v3 h = some r → Rn d 249 81 [some (va_rf v0), some (.int v1), some (.int v2), some (.int v3), v4.map Value.int] [] h (some (.int r.1), r.2)) (v0 : Option Nat) (v1 : Int32) (v2 : Int32) (v3 : Int32) (v4 : Option (Int32))  (h : Hp) (r : Int32 × Hp) (hb : b_249_89 k64 k81 v0 v1 v2 v3  h = some r) : Rn d 249 89 [some (va_rf v0), some (.int v1), some (.int v2), some (.int v3), v4.map Value.int] [] h (some (.int r.1), r.2) := by
  unfold b_249_89 at hb
  obtain ⟨e, rfl⟩ : ∃ e, d = e + 1 := ⟨d - 1, by omega⟩
  refine rn_aload_n (i := 0) rfl rfl ?_
  refine rn_gQ (c := 11) (k := 30) rfl (by decide) hb (fun x1 hb => ?_)
  refine rn_iload_n (i := 3) rfl rfl ?_
  refine rn_iload_n (i := 2) rfl rfl ?_
  refine rn_iload_n (i := 3) rfl rfl ?_
  obtain ⟨p2, hc, hb⟩ := Option.bind_eq_some_iff.mp hb
  refine Rn.call1 (d := e) (As := [.int v2, .int v3]) (rest := [.int v3, va_rf x1]) rfl rfl rfl (by decide) rfl rfl rfl rfl (by rw [bd_cI (bd_cR (bd_cN))]; decide) (bd_lenC (n := 2) rfl (bd_slI (bd_slI bd_slN)) rfl) (bd_locC (n := 2) rfl (bd_slI (bd_slI bd_slN)) rfl (t_183 e (by omega) v2 v3 h _ hc)) ?_
  refine rn_if_eq rfl rfl (fun hc => ?_) (fun hc => ?_)
  · exact u_249_111 (e + 1) hd k64 K64 k81 K81 v0 v1 v2 v3 v4 x1 v3 p2.2 _ (if_t hb hc)
  · exact u_249_102 (e + 1) hd k64 K64 k81 K81 v0 v1 v2 v3 v4 x1 v3 p2.2 _ (if_f hb hc)
def b_249_81 (k64 : Option Nat → Int32 → Int32 → Hp → Option (Int32 × Hp)) (k81 : Option Nat → Int32 → Int32 → Int32 → Hp → Option (Int32 × Hp)) (v0 : Option Nat) (v1 : Int32) (v2 : Int32) (v3 : Int32)  (h : Hp) : Option (Int32 × Hp) :=
  (grd (rC 11 v0 h)).bind fun _ =>
  (f_203 v0 h).bind fun p1 =>
  if p1.1 ≤ v3 then b_249_124 k64 v0 v1 v2  p1.2 else b_249_89 k64 k81 v0 v1 v2 v3  p1.2
theorem u_249_81 (d : Nat) (hd : 69 ≤ d) (k64 : Option Nat → Int32 → Int32 → Hp → Option (Int32 × Hp)) (K64 : ∀ (v0 : Option Nat) (v1 : Int32) (v2 : Int32) (v3 : Option (Int32)) (v4 : Option (Int32)) (h : Hp) (r : Int32 × Hp), k64 v0 v1 v2 h = some r → Rn d 249 64 [some (va_rf v0), some (.int v1), some (.int v2), v3.map Value.int, v4.map Value.int] [] h (some (.int r.1), r.2)) (k81 : Option Nat → Int32 → Int32 → Int32 → Hp → Option (Int32 × Hp)) (K81 : ∀ (v0 : Option Nat) (v1 : Int32) (v2 : Int32) (v3 : Int32) (v4 : Option (Int32)) (h : Hp) (r : Int32 × Hp), k81 v0 v1 v2 v3 h = some r → Rn d 249 81 [some (va_rf v0), some (.int v1), some (.int v2), some (.int v3), v4.map Value.int] [] h (some (.int r.1), r.2)) (v0 : Option Nat) (v1 : Int32) (v2 : Int32) (v3 : Int32) (v4 : Option (Int32))  (h : Hp) (r : Int32 × Hp) (hb : b_249_81 k64 k81 v0 v1 v2 v3  h = some r) : Rn d 249 81 [some (va_rf v0), some (.int v1), some (.int v2), some (.int v3), v4.map Value.int] [] h (some (.int r.1), r.2) := by
  unfold b_249_81 at hb
  obtain ⟨e, rfl⟩ : ∃ e, d = e + 1 := ⟨d - 1, by omega⟩
  refine rn_iload_n (i := 3) rfl rfl ?_
  refine rn_aload_n (i := 0) rfl rfl ?_
  obtain ⟨hrc, hb⟩ := grd_spec hb
  obtain ⟨p1, hc, hb⟩ := Option.bind_eq_some_iff.mp hb
  refine Rn.call1 (d := e) (As := [va_rf v0]) (rest := [.int v3]) rfl rfl rfl (by decide) rfl rfl rfl (bd_rcV hrc rfl) (by rw [bd_cI (bd_cN)]; decide) (bd_lenC (n := 1) rfl (bd_slR bd_slN) rfl) (bd_locC (n := 1) rfl (bd_slR bd_slN) rfl (t_203 e (by omega) v0 h _ hc)) ?_
  refine rn_icmp_ge rfl rfl (fun hc => ?_) (fun hc => ?_)
  · exact u_249_124 (e + 1) hd k64 K64 v0 v1 v2 v3 v4  p1.2 _ (if_t hb hc)
  · exact u_249_89 (e + 1) hd k64 K64 k81 K81 v0 v1 v2 v3 v4  p1.2 _ (if_f hb hc)
def l_249_81 (k64 : Option Nat → Int32 → Int32 → Hp → Option (Int32 × Hp)) : Nat → Option Nat → Int32 → Int32 → Int32 → Hp → Option (Int32 × Hp)
  | 0, _, _, _, _, _ => none
  | n + 1, v0, v1, v2, v3, h => b_249_81 k64 (l_249_81 k64 n) v0 v1 v2 v3 h
theorem w_249_81 (d : Nat) (hd : 69 ≤ d) (k64 : Option Nat → Int32 → Int32 → Hp → Option (Int32 × Hp)) (K64 : ∀ (v0 : Option Nat) (v1 : Int32) (v2 : Int32) (v3 : Option (Int32)) (v4 : Option (Int32)) (h : Hp) (r : Int32 × Hp), k64 v0 v1 v2 h = some r → Rn d 249 64 [some (va_rf v0), some (.int v1), some (.int v2), v3.map Value.int, v4.map Value.int] [] h (some (.int r.1), r.2)) : ∀ (n : Nat) (v0 : Option Nat) (v1 : Int32) (v2 : Int32) (v3 : Int32) (v4 : Option (Int32)) (h : Hp) (r : Int32 × Hp), l_249_81 k64 n v0 v1 v2 v3 h = some r → Rn d 249 81 [some (va_rf v0), some (.int v1), some (.int v2), some (.int v3), v4.map Value.int] [] h (some (.int r.1), r.2) := by
  intro n
  induction n with
  | zero => intro v0 v1 v2 v3 v4 h r hb; cases hb
  | succ n ih => intro v0 v1 v2 v3 v4 h r hb; exact u_249_81 d hd k64 K64 (l_249_81 k64 n) ih v0 v1 v2 v3 v4 h r hb
def b_249_79 (k64 : Option Nat → Int32 → Int32 → Hp → Option (Int32 × Hp)) (v0 : Option Nat) (v1 : Int32) (v2 : Int32)  (h : Hp) : Option (Int32 × Hp) :=
  bnd ((nI 0)) fun x1 =>
  l_249_81 k64 FU v0 v1 v2 x1 h
theorem u_249_79 (d : Nat) (hd : 69 ≤ d) (k64 : Option Nat → Int32 → Int32 → Hp → Option (Int32 × Hp)) (K64 : ∀ (v0 : Option Nat) (v1 : Int32) (v2 : Int32) (v3 : Option (Int32)) (v4 : Option (Int32)) (h : Hp) (r : Int32 × Hp), k64 v0 v1 v2 h = some r → Rn d 249 64 [some (va_rf v0), some (.int v1), some (.int v2), v3.map Value.int, v4.map Value.int] [] h (some (.int r.1), r.2)) (v0 : Option Nat) (v1 : Int32) (v2 : Int32) (v3 : Option (Int32)) (v4 : Option (Int32))  (h : Hp) (r : Int32 × Hp) (hb : b_249_79 k64 v0 v1 v2  h = some r) : Rn d 249 79 [some (va_rf v0), some (.int v1), some (.int v2), v3.map Value.int, v4.map Value.int] [] h (some (.int r.1), r.2) := by
  unfold b_249_79 at hb
  refine rn_iconst (x := (nI 0)) rfl (by decide) ?_
  obtain ⟨x1, ex1, hb⟩ := bnd_spec hb
  refine rn_istore_n (i := 3) (L1 := [some (va_rf v0), some (.int v1), some (.int v2), some (.int x1), v4.map Value.int]) rfl (Nat.le_of_ble_eq_true rfl) (Or.inr rfl) (by rw [ex1]; rfl) ?_
  exact w_249_81 d hd k64 K64 FU v0 v1 v2 x1 v4 h _ hb
def b_249_76 (k64 : Option Nat → Int32 → Int32 → Hp → Option (Int32 × Hp)) (v0 : Option Nat) (v1 : Int32) (v2 : Int32)  (h : Hp) : Option (Int32 × Hp) :=
  b_249_240 k64 v0 v1 v2  h
theorem u_249_76 (d : Nat) (hd : 69 ≤ d) (k64 : Option Nat → Int32 → Int32 → Hp → Option (Int32 × Hp)) (K64 : ∀ (v0 : Option Nat) (v1 : Int32) (v2 : Int32) (v3 : Option (Int32)) (v4 : Option (Int32)) (h : Hp) (r : Int32 × Hp), k64 v0 v1 v2 h = some r → Rn d 249 64 [some (va_rf v0), some (.int v1), some (.int v2), v3.map Value.int, v4.map Value.int] [] h (some (.int r.1), r.2)) (v0 : Option Nat) (v1 : Int32) (v2 : Int32) (v3 : Option (Int32)) (v4 : Option (Int32))  (h : Hp) (r : Int32 × Hp) (hb : b_249_76 k64 v0 v1 v2  h = some r) : Rn d 249 76 [some (va_rf v0), some (.int v1), some (.int v2), v3.map Value.int, v4.map Value.int] [] h (some (.int r.1), r.2) := by
  unfold b_249_76 at hb
  refine rn_goto rfl rfl ?_
  exact u_249_240 d hd k64 K64 v0 v1 v2 v3 v4  h _ hb
def b_249_68 (k64 : Option Nat → Int32 → Int32 → Hp → Option (Int32 × Hp)) (v0 : Option Nat) (v1 : Int32) (v2 : Int32)  (h : Hp) : Option (Int32 × Hp) :=
  if (v2 &&& (v1 ^^^ (-1 : Int32))) = 0 then b_249_79 k64 v0 v1 v2  h else b_249_76 k64 v0 v1 v2  h
theorem u_249_68 (d : Nat) (hd : 69 ≤ d) (k64 : Option Nat → Int32 → Int32 → Hp → Option (Int32 × Hp)) (K64 : ∀ (v0 : Option Nat) (v1 : Int32) (v2 : Int32) (v3 : Option (Int32)) (v4 : Option (Int32)) (h : Hp) (r : Int32 × Hp), k64 v0 v1 v2 h = some r → Rn d 249 64 [some (va_rf v0), some (.int v1), some (.int v2), v3.map Value.int, v4.map Value.int] [] h (some (.int r.1), r.2)) (v0 : Option Nat) (v1 : Int32) (v2 : Int32) (v3 : Option (Int32)) (v4 : Option (Int32))  (h : Hp) (r : Int32 × Hp) (hb : b_249_68 k64 v0 v1 v2  h = some r) : Rn d 249 68 [some (va_rf v0), some (.int v1), some (.int v2), v3.map Value.int, v4.map Value.int] [] h (some (.int r.1), r.2) := by
  unfold b_249_68 at hb
  refine rn_iload_n (i := 2) rfl rfl ?_
  refine rn_iload_n (i := 1) rfl rfl ?_
  refine rn_iconst (x := (-1 : Int32)) rfl (by decide) ?_
  refine rn_ixor rfl ?_
  refine rn_iand rfl ?_
  refine rn_if_eq rfl rfl (fun hc => ?_) (fun hc => ?_)
  · exact u_249_79 d hd k64 K64 v0 v1 v2 v3 v4  h _ (if_t hb hc)
  · exact u_249_76 d hd k64 K64 v0 v1 v2 v3 v4  h _ (if_f hb hc)
def b_249_64 (k64 : Option Nat → Int32 → Int32 → Hp → Option (Int32 × Hp)) (v0 : Option Nat) (v1 : Int32) (v2 : Int32)  (h : Hp) : Option (Int32 × Hp) :=
  if v2 < 0 then b_249_246 v0 v1  h else b_249_68 k64 v0 v1 v2  h
theorem u_249_64 (d : Nat) (hd : 69 ≤ d) (k64 : Option Nat → Int32 → Int32 → Hp → Option (Int32 × Hp)) (K64 : ∀ (v0 : Option Nat) (v1 : Int32) (v2 : Int32) (v3 : Option (Int32)) (v4 : Option (Int32)) (h : Hp) (r : Int32 × Hp), k64 v0 v1 v2 h = some r → Rn d 249 64 [some (va_rf v0), some (.int v1), some (.int v2), v3.map Value.int, v4.map Value.int] [] h (some (.int r.1), r.2)) (v0 : Option Nat) (v1 : Int32) (v2 : Int32) (v3 : Option (Int32)) (v4 : Option (Int32))  (h : Hp) (r : Int32 × Hp) (hb : b_249_64 k64 v0 v1 v2  h = some r) : Rn d 249 64 [some (va_rf v0), some (.int v1), some (.int v2), v3.map Value.int, v4.map Value.int] [] h (some (.int r.1), r.2) := by
  unfold b_249_64 at hb
  refine rn_iload_n (i := 2) rfl rfl ?_
  refine rn_if_lt rfl rfl (fun hc => ?_) (fun hc => ?_)
  · exact u_249_246 d hd v0 v1 v2 v3 v4  h _ (if_t hb hc)
  · exact u_249_68 d hd k64 K64 v0 v1 v2 v3 v4  h _ (if_f hb hc)
def l_249_64 : Nat → Option Nat → Int32 → Int32 → Hp → Option (Int32 × Hp)
  | 0, _, _, _, _ => none
  | n + 1, v0, v1, v2, h => b_249_64 (l_249_64 n) v0 v1 v2 h
theorem w_249_64 (d : Nat) (hd : 69 ≤ d) : ∀ (n : Nat) (v0 : Option Nat) (v1 : Int32) (v2 : Int32) (v3 : Option (Int32)) (v4 : Option (Int32)) (h : Hp) (r : Int32 × Hp), l_249_64 n v0 v1 v2 h = some r → Rn d 249 64 [some (va_rf v0), some (.int v1), some (.int v2), v3.map Value.int, v4.map Value.int] [] h (some (.int r.1), r.2) := by
  intro n
  induction n with
  | zero => intro v0 v1 v2 v3 v4 h r hb; cases hb
  | succ n ih => intro v0 v1 v2 v3 v4 h r hb; exact u_249_64 d hd (l_249_64 n) ih v0 v1 v2 v3 v4 h r hb
def b_249_55 (v0 : Option Nat) (v1 : Int32)  (h : Hp) : Option (Int32 × Hp) :=
  (grd (rC 11 v0 h)).bind fun _ =>
  (f_203 v0 h).bind fun p1 =>
  bnd ((((nI 1) <<< (p1.1 &&& 31)) - (nI 1))) fun x2 =>
  l_249_64 FU v0 v1 x2 p1.2
theorem u_249_55 (d : Nat) (hd : 69 ≤ d) (v0 : Option Nat) (v1 : Int32) (v2 : Int32)  (h : Hp) (r : Int32 × Hp) (hb : b_249_55 v0 v1  h = some r) : Rn d 249 55 [some (va_rf v0), some (.int v1), some (.int v2), none, none] [] h (some (.int r.1), r.2) := by
  unfold b_249_55 at hb
  obtain ⟨e, rfl⟩ : ∃ e, d = e + 1 := ⟨d - 1, by omega⟩
  refine rn_iconst (x := (nI 1)) rfl (by decide) ?_
  refine rn_aload_n (i := 0) rfl rfl ?_
  obtain ⟨hrc, hb⟩ := grd_spec hb
  obtain ⟨p1, hc, hb⟩ := Option.bind_eq_some_iff.mp hb
  refine Rn.call1 (d := e) (As := [va_rf v0]) (rest := [.int (nI 1)]) rfl rfl rfl (by decide) rfl rfl rfl (bd_rcV hrc rfl) (by rw [bd_cI (bd_cN)]; decide) (bd_lenC (n := 1) rfl (bd_slR bd_slN) rfl) (bd_locC (n := 1) rfl (bd_slR bd_slN) rfl (t_203 e (by omega) v0 h _ hc)) ?_
  refine rn_ishl rfl ?_
  refine rn_iconst (x := (nI 1)) rfl (by decide) ?_
  refine rn_isub rfl ?_
  obtain ⟨x2, ex2, hb⟩ := bnd_spec hb
  refine rn_istore_n (i := 2) (L1 := [some (va_rf v0), some (.int v1), some (.int x2), none, none]) rfl (Nat.le_of_ble_eq_true rfl) (Or.inr rfl) (by rw [ex2]; rfl) ?_
  exact w_249_64 (e + 1) hd FU v0 v1 x2 (none : Option (Int32)) (none : Option (Int32)) p1.2 _ hb
def b_249_49 (k20 : Option Nat → Int32 → Int32 → Hp → Option (Int32 × Hp)) (v0 : Option Nat) (v1 : Int32) (v2 : Int32)  (h : Hp) : Option (Int32 × Hp) :=
  bnd (v2 + (nI 1)) fun x1 =>
  k20 v0 v1 x1 h
theorem u_249_49 (d : Nat) (hd : 69 ≤ d) (k20 : Option Nat → Int32 → Int32 → Hp → Option (Int32 × Hp)) (K20 : ∀ (v0 : Option Nat) (v1 : Int32) (v2 : Int32) (h : Hp) (r : Int32 × Hp), k20 v0 v1 v2 h = some r → Rn d 249 20 [some (va_rf v0), some (.int v1), some (.int v2), none, none] [] h (some (.int r.1), r.2)) (v0 : Option Nat) (v1 : Int32) (v2 : Int32)  (h : Hp) (r : Int32 × Hp) (hb : b_249_49 k20 v0 v1 v2  h = some r) : Rn d 249 49 [some (va_rf v0), some (.int v1), some (.int v2), none, none] [] h (some (.int r.1), r.2) := by
  unfold b_249_49 at hb
  obtain ⟨x1, ex1, hb⟩ := bnd_spec hb
  refine rn_iinc (i := 2) (y := x1) (L1 := [some (va_rf v0), some (.int v1), some (.int x1), none, none]) rfl rfl (Nat.le_of_ble_eq_true rfl) (Or.inr rfl) (by rw [ex1]; rfl) rfl ?_
  refine rn_goto rfl rfl ?_
  exact K20 v0 v1 x1 h _ hb
def b_249_43 (k20 : Option Nat → Int32 → Int32 → Hp → Option (Int32 × Hp)) (v0 : Option Nat) (v1 : Int32) (v2 : Int32)  (h : Hp) : Option (Int32 × Hp) :=
  bnd ((v1 ||| ((nI 1) <<< (v2 &&& 31)))) fun x1 =>
  b_249_49 k20 v0 x1 v2  h
theorem u_249_43 (d : Nat) (hd : 69 ≤ d) (k20 : Option Nat → Int32 → Int32 → Hp → Option (Int32 × Hp)) (K20 : ∀ (v0 : Option Nat) (v1 : Int32) (v2 : Int32) (h : Hp) (r : Int32 × Hp), k20 v0 v1 v2 h = some r → Rn d 249 20 [some (va_rf v0), some (.int v1), some (.int v2), none, none] [] h (some (.int r.1), r.2)) (v0 : Option Nat) (v1 : Int32) (v2 : Int32)  (h : Hp) (r : Int32 × Hp) (hb : b_249_43 k20 v0 v1 v2  h = some r) : Rn d 249 43 [some (va_rf v0), some (.int v1), some (.int v2), none, none] [] h (some (.int r.1), r.2) := by
  unfold b_249_43 at hb
  refine rn_iload_n (i := 1) rfl rfl ?_
  refine rn_iconst (x := (nI 1)) rfl (by decide) ?_
  refine rn_iload_n (i := 2) rfl rfl ?_
  refine rn_ishl rfl ?_
  refine rn_ior rfl ?_
  obtain ⟨x1, ex1, hb⟩ := bnd_spec hb
  refine rn_istore_n (i := 1) (L1 := [some (va_rf v0), some (.int x1), some (.int v2), none, none]) rfl (Nat.le_of_ble_eq_true rfl) (Or.inr (bd_wideR rfl)) (by rw [ex1]; rfl) ?_
  exact u_249_49 d hd k20 K20 v0 x1 v2  h _ hb
def b_249_28 (k20 : Option Nat → Int32 → Int32 → Hp → Option (Int32 × Hp)) (v0 : Option Nat) (v1 : Int32) (v2 : Int32)  (h : Hp) : Option (Int32 × Hp) :=
  (gQ 11 31 v0 h).bind fun x1 =>
  (aI 12 x1 v2 h).bind fun x2 =>
  (grd (rC 11 v0 h)).bind fun _ =>
  (f_205 v0 v2 (nI 4) h).bind fun p3 =>
  if x2 = p3.1 then b_249_49 k20 v0 v1 v2  p3.2 else b_249_43 k20 v0 v1 v2  p3.2
theorem u_249_28 (d : Nat) (hd : 69 ≤ d) (k20 : Option Nat → Int32 → Int32 → Hp → Option (Int32 × Hp)) (K20 : ∀ (v0 : Option Nat) (v1 : Int32) (v2 : Int32) (h : Hp) (r : Int32 × Hp), k20 v0 v1 v2 h = some r → Rn d 249 20 [some (va_rf v0), some (.int v1), some (.int v2), none, none] [] h (some (.int r.1), r.2)) (v0 : Option Nat) (v1 : Int32) (v2 : Int32)  (h : Hp) (r : Int32 × Hp) (hb : b_249_28 k20 v0 v1 v2  h = some r) : Rn d 249 28 [some (va_rf v0), some (.int v1), some (.int v2), none, none] [] h (some (.int r.1), r.2) := by
  unfold b_249_28 at hb
  obtain ⟨e, rfl⟩ : ∃ e, d = e + 1 := ⟨d - 1, by omega⟩
  refine rn_aload_n (i := 0) rfl rfl ?_
  refine rn_gQ (c := 11) (k := 31) rfl (by decide) hb (fun x1 hb => ?_)
  refine rn_iload_n (i := 2) rfl rfl ?_
  refine rn_aI rfl hb (fun x2 hb => ?_)
  refine rn_aload_n (i := 0) rfl rfl ?_
  refine rn_iload_n (i := 2) rfl rfl ?_
  refine rn_iconst (x := (nI 4)) rfl (by decide) ?_
  obtain ⟨hrc, hb⟩ := grd_spec hb
  obtain ⟨p3, hc, hb⟩ := Option.bind_eq_some_iff.mp hb
  refine Rn.call1 (d := e) (As := [va_rf v0, .int v2, .int (nI 4)]) (rest := [.int x2]) rfl rfl rfl (by decide) rfl rfl rfl (bd_rcV hrc rfl) (by rw [bd_cI (bd_cN)]; decide) (bd_lenC (n := 3) rfl (bd_slR (bd_slI (bd_slI bd_slN))) rfl) (bd_locC (n := 3) rfl (bd_slR (bd_slI (bd_slI bd_slN))) rfl (t_205 e (by omega) v0 v2 (nI 4) h _ hc)) ?_
  refine rn_icmp_eq rfl rfl (fun hc => ?_) (fun hc => ?_)
  · exact u_249_49 (e + 1) hd k20 K20 v0 v1 v2  p3.2 _ (if_t hb hc)
  · exact u_249_43 (e + 1) hd k20 K20 v0 v1 v2  p3.2 _ (if_f hb hc)
def b_249_20 (k20 : Option Nat → Int32 → Int32 → Hp → Option (Int32 × Hp)) (v0 : Option Nat) (v1 : Int32) (v2 : Int32)  (h : Hp) : Option (Int32 × Hp) :=
  (grd (rC 11 v0 h)).bind fun _ =>
  (f_203 v0 h).bind fun p1 =>
  if p1.1 ≤ v2 then b_249_55 v0 v1  p1.2 else b_249_28 k20 v0 v1 v2  p1.2
theorem u_249_20 (d : Nat) (hd : 69 ≤ d) (k20 : Option Nat → Int32 → Int32 → Hp → Option (Int32 × Hp)) (K20 : ∀ (v0 : Option Nat) (v1 : Int32) (v2 : Int32) (h : Hp) (r : Int32 × Hp), k20 v0 v1 v2 h = some r → Rn d 249 20 [some (va_rf v0), some (.int v1), some (.int v2), none, none] [] h (some (.int r.1), r.2)) (v0 : Option Nat) (v1 : Int32) (v2 : Int32)  (h : Hp) (r : Int32 × Hp) (hb : b_249_20 k20 v0 v1 v2  h = some r) : Rn d 249 20 [some (va_rf v0), some (.int v1), some (.int v2), none, none] [] h (some (.int r.1), r.2) := by
  unfold b_249_20 at hb
  obtain ⟨e, rfl⟩ : ∃ e, d = e + 1 := ⟨d - 1, by omega⟩
  refine rn_iload_n (i := 2) rfl rfl ?_
  refine rn_aload_n (i := 0) rfl rfl ?_
  obtain ⟨hrc, hb⟩ := grd_spec hb
  obtain ⟨p1, hc, hb⟩ := Option.bind_eq_some_iff.mp hb
  refine Rn.call1 (d := e) (As := [va_rf v0]) (rest := [.int v2]) rfl rfl rfl (by decide) rfl rfl rfl (bd_rcV hrc rfl) (by rw [bd_cI (bd_cN)]; decide) (bd_lenC (n := 1) rfl (bd_slR bd_slN) rfl) (bd_locC (n := 1) rfl (bd_slR bd_slN) rfl (t_203 e (by omega) v0 h _ hc)) ?_
  refine rn_icmp_ge rfl rfl (fun hc => ?_) (fun hc => ?_)
  · exact u_249_55 (e + 1) hd v0 v1 v2  p1.2 _ (if_t hb hc)
  · exact u_249_28 (e + 1) hd k20 K20 v0 v1 v2  p1.2 _ (if_f hb hc)
def l_249_20 : Nat → Option Nat → Int32 → Int32 → Hp → Option (Int32 × Hp)
  | 0, _, _, _, _ => none
  | n + 1, v0, v1, v2, h => b_249_20 (l_249_20 n) v0 v1 v2 h
theorem w_249_20 (d : Nat) (hd : 69 ≤ d) : ∀ (n : Nat) (v0 : Option Nat) (v1 : Int32) (v2 : Int32) (h : Hp) (r : Int32 × Hp), l_249_20 n v0 v1 v2 h = some r → Rn d 249 20 [some (va_rf v0), some (.int v1), some (.int v2), none, none] [] h (some (.int r.1), r.2) := by
  intro n
  induction n with
  | zero => intro v0 v1 v2 h r hb; cases hb
  | succ n ih => intro v0 v1 v2 h r hb; exact u_249_20 d hd (l_249_20 n) ih v0 v1 v2 h r hb
def b_249_16 (v0 : Option Nat)  (h : Hp) : Option (Int32 × Hp) :=
  bnd ((nI 0)) fun x1 =>
  bnd ((nI 0)) fun x2 =>
  l_249_20 FU v0 x1 x2 h
theorem u_249_16 (d : Nat) (hd : 69 ≤ d) (v0 : Option Nat)  (h : Hp) (r : Int32 × Hp) (hb : b_249_16 v0  h = some r) : Rn d 249 16 [some (va_rf v0), none, none, none, none] [] h (some (.int r.1), r.2) := by
  unfold b_249_16 at hb
  refine rn_iconst (x := (nI 0)) rfl (by decide) ?_
  obtain ⟨x1, ex1, hb⟩ := bnd_spec hb
  refine rn_istore_n (i := 1) (L1 := [some (va_rf v0), some (.int x1), none, none, none]) rfl (Nat.le_of_ble_eq_true rfl) (Or.inr (bd_wideR rfl)) (by rw [ex1]; rfl) ?_
  refine rn_iconst (x := (nI 0)) rfl (by decide) ?_
  obtain ⟨x2, ex2, hb⟩ := bnd_spec hb
  refine rn_istore_n (i := 2) (L1 := [some (va_rf v0), some (.int x1), some (.int x2), none, none]) rfl (Nat.le_of_ble_eq_true rfl) (Or.inr rfl) (by rw [ex2]; rfl) ?_
  exact w_249_20 d hd FU v0 x1 x2 h _ hb
def b_249_14   (h : Hp) : Option (Int32 × Hp) :=
  some ((-1 : Int32), h)
theorem u_249_14 (d : Nat) (hd : 69 ≤ d) (v0 : Option Nat)  (h : Hp) (r : Int32 × Hp) (hb : b_249_14   h = some r) : Rn d 249 14 [some (va_rf v0), none, none, none, none] [] h (some (.int r.1), r.2) := by
  unfold b_249_14 at hb
  refine rn_iconst (x := (-1 : Int32)) rfl (by decide) ?_
  obtain rfl := Option.some.inj hb
  exact rn_iret rfl rfl
def b_249_0 (v0 : Option Nat)  (h : Hp) : Option (Int32 × Hp) :=
  (pI 11 0 v0 (nI 0) h).bind fun h1 =>
  (grd (rC 11 v0 h1)).bind fun _ =>
  (f_234 v0 (nI 1) h1).bind fun p2 =>
  if ¬ p2.1 = (-1 : Int32) then b_249_16 v0  p2.2 else b_249_14   p2.2
theorem u_249_0 (d : Nat) (hd : 69 ≤ d) (v0 : Option Nat)  (h : Hp) (r : Int32 × Hp) (hb : b_249_0 v0  h = some r) : Rn d 249 0 [some (va_rf v0), none, none, none, none] [] h (some (.int r.1), r.2) := by
  unfold b_249_0 at hb
  obtain ⟨e, rfl⟩ : ∃ e, d = e + 1 := ⟨d - 1, by omega⟩
  refine rn_aload_n (i := 0) rfl rfl ?_
  refine rn_iconst (x := (nI 0)) rfl (by decide) ?_
  refine rn_pI (c := 11) (k := 0) rfl (by decide) hb (fun h1 hb => ?_)
  refine rn_aload_n (i := 0) rfl rfl ?_
  refine rn_iconst (x := (nI 1)) rfl (by decide) ?_
  obtain ⟨hrc, hb⟩ := grd_spec hb
  obtain ⟨p2, hc, hb⟩ := Option.bind_eq_some_iff.mp hb
  refine Rn.call1 (d := e) (As := [va_rf v0, .int (nI 1)]) (rest := []) rfl rfl rfl (by decide) rfl rfl rfl (bd_rcV hrc rfl) (by decide) (bd_lenC (n := 2) rfl (bd_slR (bd_slI bd_slN)) rfl) (bd_locC (n := 2) rfl (bd_slR (bd_slI bd_slN)) rfl (t_234 e (by omega) v0 (nI 1) h1 _ hc)) ?_
  refine rn_iconst (x := (-1 : Int32)) rfl (by decide) ?_
  refine rn_icmp_ne rfl rfl (fun hc => ?_) (fun hc => ?_)
  · exact u_249_16 (e + 1) hd v0  p2.2 _ (if_t hb hc)
  · exact u_249_14 (e + 1) hd v0  p2.2 _ (if_f hb hc)
/-- BitingDoorsModel.joiner()I -/
def f_249 (v0 : Option Nat) (h : Hp) : Option (Int32 × Hp) := b_249_0 v0 h
theorem t_249 (d : Nat) (hd : 69 ≤ d) (v0 : Option Nat) (h : Hp) (r : Int32 × Hp) (hb : f_249 v0 h = some r) : Rn d 249 0 [some (va_rf v0), none, none, none, none] [] h (some (.int r.1), r.2) := by
  unfold f_249 at hb
  exact u_249_0 d hd v0 h r hb
def b_250_27  (s0 : Int32) (h : Hp) : Option (Int32 × Hp) :=
  some (s0, h)
theorem u_250_27 (d : Nat) (hd : 0 ≤ d) (v0 : Option Nat) (v1 : Int32) (s0 : Int32) (h : Hp) (r : Int32 × Hp) (hb : b_250_27  s0 h = some r) : Rn d 250 27 [some (va_rf v0), some (.int v1)] [.int s0] h (some (.int r.1), r.2) := by
  unfold b_250_27 at hb
  obtain rfl := Option.some.inj hb
  exact rn_iret rfl rfl
def b_250_26   (h : Hp) : Option (Int32 × Hp) :=
  b_250_27  (-1 : Int32) h
theorem u_250_26 (d : Nat) (hd : 0 ≤ d) (v0 : Option Nat) (v1 : Int32)  (h : Hp) (r : Int32 × Hp) (hb : b_250_26   h = some r) : Rn d 250 26 [some (va_rf v0), some (.int v1)] [] h (some (.int r.1), r.2) := by
  unfold b_250_26 at hb
  refine rn_iconst (x := (-1 : Int32)) rfl (by decide) ?_
  exact u_250_27 d hd v0 v1 (-1 : Int32) h _ hb
def b_250_17 (v0 : Option Nat) (v1 : Int32)  (h : Hp) : Option (Int32 × Hp) :=
  (gQ 11 41 v0 h).bind fun x1 =>
  (aI 12 x1 v1 h).bind fun x2 =>
  b_250_27  x2 h
theorem u_250_17 (d : Nat) (hd : 0 ≤ d) (v0 : Option Nat) (v1 : Int32)  (h : Hp) (r : Int32 × Hp) (hb : b_250_17 v0 v1  h = some r) : Rn d 250 17 [some (va_rf v0), some (.int v1)] [] h (some (.int r.1), r.2) := by
  unfold b_250_17 at hb
  refine rn_aload_n (i := 0) rfl rfl ?_
  refine rn_gQ (c := 11) (k := 41) rfl (by decide) hb (fun x1 hb => ?_)
  refine rn_iload_n (i := 1) rfl rfl ?_
  refine rn_aI rfl hb (fun x2 hb => ?_)
  refine rn_goto rfl rfl ?_
  exact u_250_27 d hd v0 v1 x2 h _ hb
def b_250_9 (v0 : Option Nat) (v1 : Int32)  (h : Hp) : Option (Int32 × Hp) :=
  (gI 11 42 v0 h).bind fun x1 =>
  if x1 ≤ v1 then b_250_26   h else b_250_17 v0 v1  h
theorem u_250_9 (d : Nat) (hd : 0 ≤ d) (v0 : Option Nat) (v1 : Int32)  (h : Hp) (r : Int32 × Hp) (hb : b_250_9 v0 v1  h = some r) : Rn d 250 9 [some (va_rf v0), some (.int v1)] [] h (some (.int r.1), r.2) := by
  unfold b_250_9 at hb
  refine rn_iload_n (i := 1) rfl rfl ?_
  refine rn_aload_n (i := 0) rfl rfl ?_
  refine rn_gI (c := 11) (k := 42) rfl (by decide) hb (fun x1 hb => ?_)
  refine rn_icmp_ge rfl rfl (fun hc => ?_) (fun hc => ?_)
  · exact u_250_26 d hd v0 v1  h _ (if_t hb hc)
  · exact u_250_17 d hd v0 v1  h _ (if_f hb hc)
def b_250_0 (v0 : Option Nat) (v1 : Int32)  (h : Hp) : Option (Int32 × Hp) :=
  (pI 11 0 v0 (nI 0) h).bind fun h1 =>
  if v1 < 0 then b_250_26   h1 else b_250_9 v0 v1  h1
theorem u_250_0 (d : Nat) (hd : 0 ≤ d) (v0 : Option Nat) (v1 : Int32)  (h : Hp) (r : Int32 × Hp) (hb : b_250_0 v0 v1  h = some r) : Rn d 250 0 [some (va_rf v0), some (.int v1)] [] h (some (.int r.1), r.2) := by
  unfold b_250_0 at hb
  refine rn_aload_n (i := 0) rfl rfl ?_
  refine rn_iconst (x := (nI 0)) rfl (by decide) ?_
  refine rn_pI (c := 11) (k := 0) rfl (by decide) hb (fun h1 hb => ?_)
  refine rn_iload_n (i := 1) rfl rfl ?_
  refine rn_if_lt rfl rfl (fun hc => ?_) (fun hc => ?_)
  · exact u_250_26 d hd v0 v1  h1 _ (if_t hb hc)
  · exact u_250_9 d hd v0 v1  h1 _ (if_f hb hc)
/-- BitingDoorsModel.joinerAt(I)I -/
def f_250 (v0 : Option Nat) (v1 : Int32) (h : Hp) : Option (Int32 × Hp) := b_250_0 v0 v1 h
theorem t_250 (d : Nat) (hd : 0 ≤ d) (v0 : Option Nat) (v1 : Int32) (h : Hp) (r : Int32 × Hp) (hb : f_250 v0 v1 h = some r) : Rn d 250 0 [some (va_rf v0), some (.int v1)] [] h (some (.int r.1), r.2) := by
  unfold f_250 at hb
  exact u_250_0 d hd v0 v1 h r hb
def b_251_61   (h : Hp) : Option (Int32 × Hp) :=
  (grd (decide ((nI 0) = 0 ∨ (nI 0) = 1))).bind fun _ => some ((nI 0), h)
theorem u_251_61 (d : Nat) (hd : 4 ≤ d) (v0 : Option Nat) (v1 : Int32) (v2 : Int32)  (h : Hp) (r : Int32 × Hp) (hb : b_251_61   h = some r) : Rn d 251 61 [some (va_rf v0), some (.int v1), some (.int v2)] [] h (some (.int r.1), r.2) := by
  unfold b_251_61 at hb
  refine rn_iconst (x := (nI 0)) rfl (by decide) ?_
  obtain ⟨hz, hb⟩ := grd_spec hb
  obtain rfl := Option.some.inj hb
  exact rn_zret rfl rfl (of_decide_eq_true hz)
def b_251_63 (v0 : Option Nat) (v1 : Int32) (v2 : Int32)  (h : Hp) : Option (Int32 × Hp) :=
  (gQ 11 14 v0 h).bind fun x1 =>
  (wI x1 (((nI 110) + ((nI 10) * v1)) + (nI 4)) v2 h).bind fun h2 =>
  (grd (decide ((nI 1) = 0 ∨ (nI 1) = 1))).bind fun _ => some ((nI 1), h2)
theorem u_251_63 (d : Nat) (hd : 4 ≤ d) (v0 : Option Nat) (v1 : Int32) (v2 : Int32)  (h : Hp) (r : Int32 × Hp) (hb : b_251_63 v0 v1 v2  h = some r) : Rn d 251 63 [some (va_rf v0), some (.int v1), some (.int v2)] [] h (some (.int r.1), r.2) := by
  unfold b_251_63 at hb
  refine rn_aload_n (i := 0) rfl rfl ?_
  refine rn_gQ (c := 11) (k := 14) rfl (by decide) hb (fun x1 hb => ?_)
  refine rn_bipush (x := (nI 110)) rfl (by decide) ?_
  refine rn_bipush (x := (nI 10)) rfl (by decide) ?_
  refine rn_iload_n (i := 1) rfl rfl ?_
  refine rn_imul rfl ?_
  refine rn_iadd rfl ?_
  refine rn_iconst (x := (nI 4)) rfl (by decide) ?_
  refine rn_iadd rfl ?_
  refine rn_iload_n (i := 2) rfl rfl ?_
  refine rn_wI rfl hb (fun h2 hb => ?_)
  refine rn_iconst (x := (nI 1)) rfl (by decide) ?_
  obtain ⟨hz, hb⟩ := grd_spec hb
  obtain rfl := Option.some.inj hb
  exact rn_zret rfl rfl (of_decide_eq_true hz)
def b_251_52 (v0 : Option Nat) (v1 : Int32) (v2 : Int32)  (h : Hp) : Option (Int32 × Hp) :=
  (grd (rC 11 v0 h)).bind fun _ =>
  (f_223 v0 v1 v2 h).bind fun p1 =>
  if ¬ p1.1 = 0 then b_251_63 v0 v1 v2  p1.2 else b_251_61   p1.2
theorem u_251_52 (d : Nat) (hd : 4 ≤ d) (v0 : Option Nat) (v1 : Int32) (v2 : Int32)  (h : Hp) (r : Int32 × Hp) (hb : b_251_52 v0 v1 v2  h = some r) : Rn d 251 52 [some (va_rf v0), some (.int v1), some (.int v2)] [] h (some (.int r.1), r.2) := by
  unfold b_251_52 at hb
  obtain ⟨e, rfl⟩ : ∃ e, d = e + 1 := ⟨d - 1, by omega⟩
  refine rn_aload_n (i := 0) rfl rfl ?_
  refine rn_iload_n (i := 1) rfl rfl ?_
  refine rn_iload_n (i := 2) rfl rfl ?_
  obtain ⟨hrc, hb⟩ := grd_spec hb
  obtain ⟨p1, hc, hb⟩ := Option.bind_eq_some_iff.mp hb
  refine Rn.call1 (d := e) (As := [va_rf v0, .int v1, .int v2]) (rest := []) rfl rfl rfl (by decide) rfl rfl rfl (bd_rcV hrc rfl) (by decide) (bd_lenC (n := 3) rfl (bd_slR (bd_slI (bd_slI bd_slN))) rfl) (bd_locC (n := 3) rfl (bd_slR (bd_slI (bd_slI bd_slN))) rfl (t_223 e (by omega) v0 v1 v2 h _ hc)) ?_
  refine rn_if_ne rfl rfl (fun hc => ?_) (fun hc => ?_)
  · exact u_251_63 (e + 1) hd v0 v1 v2  p1.2 _ (if_t hb hc)
  · exact u_251_61 (e + 1) hd v0 v1 v2  p1.2 _ (if_f hb hc)
def b_251_39 (v0 : Option Nat) (v1 : Int32) (v2 : Int32)  (h : Hp) : Option (Int32 × Hp) :=
  (gQ 11 14 v0 h).bind fun x1 =>
  (aI 12 x1 ((nI 330) + v1) h).bind fun x2 =>
  if ¬ x2 = 0 then b_251_61   h else b_251_52 v0 v1 v2  h
theorem u_251_39 (d : Nat) (hd : 4 ≤ d) (v0 : Option Nat) (v1 : Int32) (v2 : Int32)  (h : Hp) (r : Int32 × Hp) (hb : b_251_39 v0 v1 v2  h = some r) : Rn d 251 39 [some (va_rf v0), some (.int v1), some (.int v2)] [] h (some (.int r.1), r.2) := by
  unfold b_251_39 at hb
  refine rn_aload_n (i := 0) rfl rfl ?_
  refine rn_gQ (c := 11) (k := 14) rfl (by decide) hb (fun x1 hb => ?_)
  refine rn_sipush (x := (nI 330)) rfl (by decide) ?_
  refine rn_iload_n (i := 1) rfl rfl ?_
  refine rn_iadd rfl ?_
  refine rn_aI rfl hb (fun x2 hb => ?_)
  refine rn_if_ne rfl rfl (fun hc => ?_) (fun hc => ?_)
  · exact u_251_61 d hd v0 v1 v2  h _ (if_t hb hc)
  · exact u_251_52 d hd v0 v1 v2  h _ (if_f hb hc)
def b_251_26 (v0 : Option Nat) (v1 : Int32) (v2 : Int32)  (h : Hp) : Option (Int32 × Hp) :=
  (grd (rC 11 v0 h)).bind fun _ =>
  (f_205 v0 v1 (nI 5) h).bind fun p1 =>
  (f_183 p1.1 v2 p1.2).bind fun p2 =>
  if p2.1 = 0 then b_251_61   p2.2 else b_251_39 v0 v1 v2  p2.2
theorem u_251_26 (d : Nat) (hd : 4 ≤ d) (v0 : Option Nat) (v1 : Int32) (v2 : Int32)  (h : Hp) (r : Int32 × Hp) (hb : b_251_26 v0 v1 v2  h = some r) : Rn d 251 26 [some (va_rf v0), some (.int v1), some (.int v2)] [] h (some (.int r.1), r.2) := by
  unfold b_251_26 at hb
  obtain ⟨e, rfl⟩ : ∃ e, d = e + 1 := ⟨d - 1, by omega⟩
  refine rn_aload_n (i := 0) rfl rfl ?_
  refine rn_iload_n (i := 1) rfl rfl ?_
  refine rn_iconst (x := (nI 5)) rfl (by decide) ?_
  obtain ⟨hrc, hb⟩ := grd_spec hb
  obtain ⟨p1, hc, hb⟩ := Option.bind_eq_some_iff.mp hb
  refine Rn.call1 (d := e) (As := [va_rf v0, .int v1, .int (nI 5)]) (rest := []) rfl rfl rfl (by decide) rfl rfl rfl (bd_rcV hrc rfl) (by decide) (bd_lenC (n := 3) rfl (bd_slR (bd_slI (bd_slI bd_slN))) rfl) (bd_locC (n := 3) rfl (bd_slR (bd_slI (bd_slI bd_slN))) rfl (t_205 e (by omega) v0 v1 (nI 5) h _ hc)) ?_
  refine rn_iload_n (i := 2) rfl rfl ?_
  obtain ⟨p2, hc, hb⟩ := Option.bind_eq_some_iff.mp hb
  refine Rn.call1 (d := e) (As := [.int p1.1, .int v2]) (rest := []) rfl rfl rfl (by decide) rfl rfl rfl rfl (by decide) (bd_lenC (n := 2) rfl (bd_slI (bd_slI bd_slN)) rfl) (bd_locC (n := 2) rfl (bd_slI (bd_slI bd_slN)) rfl (t_183 e (by omega) p1.1 v2 p1.2 _ hc)) ?_
  refine rn_if_eq rfl rfl (fun hc => ?_) (fun hc => ?_)
  · exact u_251_61 (e + 1) hd v0 v1 v2  p2.2 _ (if_t hb hc)
  · exact u_251_39 (e + 1) hd v0 v1 v2  p2.2 _ (if_f hb hc)
def b_251_17 (v0 : Option Nat) (v1 : Int32) (v2 : Int32)  (h : Hp) : Option (Int32 × Hp) :=
  (f_182 v2 (nI 0) (nI 3) h).bind fun p1 =>
  if p1.1 = 0 then b_251_61   p1.2 else b_251_26 v0 v1 v2  p1.2
theorem u_251_17 (d : Nat) (hd : 4 ≤ d) (v0 : Option Nat) (v1 : Int32) (v2 : Int32)  (h : Hp) (r : Int32 × Hp) (hb : b_251_17 v0 v1 v2  h = some r) : Rn d 251 17 [some (va_rf v0), some (.int v1), some (.int v2)] [] h (some (.int r.1), r.2) := by
  unfold b_251_17 at hb
  obtain ⟨e, rfl⟩ : ∃ e, d = e + 1 := ⟨d - 1, by omega⟩
  refine rn_iload_n (i := 2) rfl rfl ?_
  refine rn_iconst (x := (nI 0)) rfl (by decide) ?_
  refine rn_iconst (x := (nI 3)) rfl (by decide) ?_
  obtain ⟨p1, hc, hb⟩ := Option.bind_eq_some_iff.mp hb
  refine Rn.call1 (d := e) (As := [.int v2, .int (nI 0), .int (nI 3)]) (rest := []) rfl rfl rfl (by decide) rfl rfl rfl rfl (by decide) (bd_lenC (n := 3) rfl (bd_slI (bd_slI (bd_slI bd_slN))) rfl) (bd_locC (n := 3) rfl (bd_slI (bd_slI (bd_slI bd_slN))) rfl (t_182 e (by omega) v2 (nI 0) (nI 3) h _ hc)) ?_
  refine rn_if_eq rfl rfl (fun hc => ?_) (fun hc => ?_)
  · exact u_251_61 (e + 1) hd v0 v1 v2  p1.2 _ (if_t hb hc)
  · exact u_251_26 (e + 1) hd v0 v1 v2  p1.2 _ (if_f hb hc)
def b_251_0 (v0 : Option Nat) (v1 : Int32) (v2 : Int32)  (h : Hp) : Option (Int32 × Hp) :=
  (pI 11 0 v0 (nI 0) h).bind fun h1 =>
  (grd (rC 11 v0 h1)).bind fun _ =>
  (f_202 v0 h1).bind fun p2 =>
  (grd (rC 11 v0 p2)).bind fun _ =>
  (f_204 v0 v1 p2).bind fun p3 =>
  if p3.1 = 0 then b_251_61   p3.2 else b_251_17 v0 v1 v2  p3.2
theorem u_251_0 (d : Nat) (hd : 4 ≤ d) (v0 : Option Nat) (v1 : Int32) (v2 : Int32)  (h : Hp) (r : Int32 × Hp) (hb : b_251_0 v0 v1 v2  h = some r) : Rn d 251 0 [some (va_rf v0), some (.int v1), some (.int v2)] [] h (some (.int r.1), r.2) := by
  unfold b_251_0 at hb
  obtain ⟨e, rfl⟩ : ∃ e, d = e + 1 := ⟨d - 1, by omega⟩
  refine rn_aload_n (i := 0) rfl rfl ?_
  refine rn_iconst (x := (nI 0)) rfl (by decide) ?_
  refine rn_pI (c := 11) (k := 0) rfl (by decide) hb (fun h1 hb => ?_)
  refine rn_aload_n (i := 0) rfl rfl ?_
  obtain ⟨hrc, hb⟩ := grd_spec hb
  obtain ⟨p2, hc, hb⟩ := Option.bind_eq_some_iff.mp hb
  refine Rn.call0 (d := e) (As := [va_rf v0]) (rest := []) rfl rfl rfl (by decide) rfl rfl rfl (bd_rcV hrc rfl) (by decide) (bd_lenC (n := 1) rfl (bd_slR bd_slN) rfl) (bd_locC (n := 1) rfl (bd_slR bd_slN) rfl (t_202 e (by omega) v0 h1 _ hc)) ?_
  refine rn_aload_n (i := 0) rfl rfl ?_
  refine rn_iload_n (i := 1) rfl rfl ?_
  obtain ⟨hrc, hb⟩ := grd_spec hb
  obtain ⟨p3, hc, hb⟩ := Option.bind_eq_some_iff.mp hb
  refine Rn.call1 (d := e) (As := [va_rf v0, .int v1]) (rest := []) rfl rfl rfl (by decide) rfl rfl rfl (bd_rcV hrc rfl) (by decide) (bd_lenC (n := 2) rfl (bd_slR (bd_slI bd_slN)) rfl) (bd_locC (n := 2) rfl (bd_slR (bd_slI bd_slN)) rfl (t_204 e (by omega) v0 v1 p2 _ hc)) ?_
  refine rn_if_eq rfl rfl (fun hc => ?_) (fun hc => ?_)
  · exact u_251_61 (e + 1) hd v0 v1 v2  p3.2 _ (if_t hb hc)
  · exact u_251_17 (e + 1) hd v0 v1 v2  p3.2 _ (if_f hb hc)
/-- BitingDoorsModel.rehang(II)Z -/
def f_251 (v0 : Option Nat) (v1 : Int32) (v2 : Int32) (h : Hp) : Option (Int32 × Hp) := b_251_0 v0 v1 v2 h
theorem t_251 (d : Nat) (hd : 4 ≤ d) (v0 : Option Nat) (v1 : Int32) (v2 : Int32) (h : Hp) (r : Int32 × Hp) (hb : f_251 v0 v1 v2 h = some r) : Rn d 251 0 [some (va_rf v0), some (.int v1), some (.int v2)] [] h (some (.int r.1), r.2) := by
  unfold f_251 at hb
  exact u_251_0 d hd v0 v1 v2 h r hb
def b_252_94   (h : Hp) : Option (Hp) :=
  some h
theorem u_252_94 (d : Nat) (hd : 2 ≤ d) (v0 : Option Nat) (v1 : Int32) (v2 : Option (Int32))  (h : Hp) (r : Hp) (hb : b_252_94   h = some r) : Rn d 252 94 [some (va_rf v0), some (.int v1), v2.map Value.int] [] h (none, r) := by
  unfold b_252_94 at hb
  obtain rfl := Option.some.inj hb
  exact rn_vret rfl rfl
def b_252_88 (k23 : Option Nat → Int32 → Hp → Option (Hp)) (v0 : Option Nat) (v1 : Int32)  (h : Hp) : Option (Hp) :=
  bnd (v1 + (nI 1)) fun x1 =>
  k23 v0 x1 h
theorem u_252_88 (d : Nat) (hd : 2 ≤ d) (k23 : Option Nat → Int32 → Hp → Option (Hp)) (K23 : ∀ (v0 : Option Nat) (v1 : Int32) (v2 : Option (Int32)) (h : Hp) (r : Hp), k23 v0 v1 h = some r → Rn d 252 23 [some (va_rf v0), some (.int v1), v2.map Value.int] [] h (none, r)) (v0 : Option Nat) (v1 : Int32) (v2 : Int32)  (h : Hp) (r : Hp) (hb : b_252_88 k23 v0 v1  h = some r) : Rn d 252 88 [some (va_rf v0), some (.int v1), some (.int v2)] [] h (none, r) := by
  unfold b_252_88 at hb
  obtain ⟨x1, ex1, hb⟩ := bnd_spec hb
  refine rn_iinc (i := 1) (y := x1) (L1 := [some (va_rf v0), some (.int x1), some (.int v2)]) rfl rfl (Nat.le_of_ble_eq_true rfl) (Or.inr (bd_wideR rfl)) (by rw [ex1]; rfl) rfl ?_
  refine rn_goto rfl rfl ?_
  exact K23 v0 x1 (some v2) h _ hb
def b_252_58 (k23 : Option Nat → Int32 → Hp → Option (Hp)) (k50 : Option Nat → Int32 → Int32 → Hp → Option (Hp)) (v0 : Option Nat) (v1 : Int32) (v2 : Int32)  (h : Hp) : Option (Hp) :=
  (gQ 11 44 v0 h).bind fun x1 =>
  (gQ 11 25 v0 h).bind fun x2 =>
  (aI 12 x2 v2 h).bind fun x3 =>
  (gQ 11 24 v0 h).bind fun x4 =>
  (aI 12 x4 v2 h).bind fun x5 =>
  (wI x1 (((nI 10) * x3) + x5) (v1 + (nI 1)) h).bind fun h6 =>
  bnd (v2 + (nI 1)) fun x7 =>
  k50 v0 v1 x7 h6
theorem u_252_58 (d : Nat) (hd : 2 ≤ d) (k23 : Option Nat → Int32 → Hp → Option (Hp)) (K23 : ∀ (v0 : Option Nat) (v1 : Int32) (v2 : Option (Int32)) (h : Hp) (r : Hp), k23 v0 v1 h = some r → Rn d 252 23 [some (va_rf v0), some (.int v1), v2.map Value.int] [] h (none, r)) (k50 : Option Nat → Int32 → Int32 → Hp → Option (Hp)) (K50 : ∀ (v0 : Option Nat) (v1 : Int32) (v2 : Int32) (h : Hp) (r : Hp), k50 v0 v1 v2 h = some r → Rn d 252 50 [some (va_rf v0), some (.int v1), some (.int v2)] [] h (none, r)) (v0 : Option Nat) (v1 : Int32) (v2 : Int32)  (h : Hp) (r : Hp) (hb : b_252_58 k23 k50 v0 v1 v2  h = some r) : Rn d 252 58 [some (va_rf v0), some (.int v1), some (.int v2)] [] h (none, r) := by
  unfold b_252_58 at hb
  refine rn_aload_n (i := 0) rfl rfl ?_
  refine rn_gQ (c := 11) (k := 44) rfl (by decide) hb (fun x1 hb => ?_)
  refine rn_bipush (x := (nI 10)) rfl (by decide) ?_
  refine rn_aload_n (i := 0) rfl rfl ?_
  refine rn_gQ (c := 11) (k := 25) rfl (by decide) hb (fun x2 hb => ?_)
  refine rn_iload_n (i := 2) rfl rfl ?_
  refine rn_aI rfl hb (fun x3 hb => ?_)
  refine rn_imul rfl ?_
  refine rn_aload_n (i := 0) rfl rfl ?_
  refine rn_gQ (c := 11) (k := 24) rfl (by decide) hb (fun x4 hb => ?_)
  refine rn_iload_n (i := 2) rfl rfl ?_
  refine rn_aI rfl hb (fun x5 hb => ?_)
  refine rn_iadd rfl ?_
  refine rn_iload_n (i := 1) rfl rfl ?_
  refine rn_iconst (x := (nI 1)) rfl (by decide) ?_
  refine rn_iadd rfl ?_
  refine rn_wI rfl hb (fun h6 hb => ?_)
  obtain ⟨x7, ex7, hb⟩ := bnd_spec hb
  refine rn_iinc (i := 2) (y := x7) (L1 := [some (va_rf v0), some (.int v1), some (.int x7)]) rfl rfl (Nat.le_of_ble_eq_true rfl) (Or.inr rfl) (by rw [ex7]; rfl) rfl ?_
  refine rn_goto rfl rfl ?_
  exact K50 v0 v1 x7 h6 _ hb
def b_252_50 (k23 : Option Nat → Int32 → Hp → Option (Hp)) (k50 : Option Nat → Int32 → Int32 → Hp → Option (Hp)) (v0 : Option Nat) (v1 : Int32) (v2 : Int32)  (h : Hp) : Option (Hp) :=
  (gI 11 26 v0 h).bind fun x1 =>
  if x1 ≤ v2 then b_252_88 k23 v0 v1  h else b_252_58 k23 k50 v0 v1 v2  h
theorem u_252_50 (d : Nat) (hd : 2 ≤ d) (k23 : Option Nat → Int32 → Hp → Option (Hp)) (K23 : ∀ (v0 : Option Nat) (v1 : Int32) (v2 : Option (Int32)) (h : Hp) (r : Hp), k23 v0 v1 h = some r → Rn d 252 23 [some (va_rf v0), some (.int v1), v2.map Value.int] [] h (none, r)) (k50 : Option Nat → Int32 → Int32 → Hp → Option (Hp)) (K50 : ∀ (v0 : Option Nat) (v1 : Int32) (v2 : Int32) (h : Hp) (r : Hp), k50 v0 v1 v2 h = some r → Rn d 252 50 [some (va_rf v0), some (.int v1), some (.int v2)] [] h (none, r)) (v0 : Option Nat) (v1 : Int32) (v2 : Int32)  (h : Hp) (r : Hp) (hb : b_252_50 k23 k50 v0 v1 v2  h = some r) : Rn d 252 50 [some (va_rf v0), some (.int v1), some (.int v2)] [] h (none, r) := by
  unfold b_252_50 at hb
  refine rn_iload_n (i := 2) rfl rfl ?_
  refine rn_aload_n (i := 0) rfl rfl ?_
  refine rn_gI (c := 11) (k := 26) rfl (by decide) hb (fun x1 hb => ?_)
  refine rn_icmp_ge rfl rfl (fun hc => ?_) (fun hc => ?_)
  · exact u_252_88 d hd k23 K23 v0 v1 v2  h _ (if_t hb hc)
  · exact u_252_58 d hd k23 K23 k50 K50 v0 v1 v2  h _ (if_f hb hc)
def l_252_50 (k23 : Option Nat → Int32 → Hp → Option (Hp)) : Nat → Option Nat → Int32 → Int32 → Hp → Option (Hp)
  | 0, _, _, _, _ => none
  | n + 1, v0, v1, v2, h => b_252_50 k23 (l_252_50 k23 n) v0 v1 v2 h
theorem w_252_50 (d : Nat) (hd : 2 ≤ d) (k23 : Option Nat → Int32 → Hp → Option (Hp)) (K23 : ∀ (v0 : Option Nat) (v1 : Int32) (v2 : Option (Int32)) (h : Hp) (r : Hp), k23 v0 v1 h = some r → Rn d 252 23 [some (va_rf v0), some (.int v1), v2.map Value.int] [] h (none, r)) : ∀ (n : Nat) (v0 : Option Nat) (v1 : Int32) (v2 : Int32) (h : Hp) (r : Hp), l_252_50 k23 n v0 v1 v2 h = some r → Rn d 252 50 [some (va_rf v0), some (.int v1), some (.int v2)] [] h (none, r) := by
  intro n
  induction n with
  | zero => intro v0 v1 v2 h r hb; cases hb
  | succ n ih => intro v0 v1 v2 h r hb; exact u_252_50 d hd k23 K23 (l_252_50 k23 n) ih v0 v1 v2 h r hb
def b_252_31 (k23 : Option Nat → Int32 → Hp → Option (Hp)) (v0 : Option Nat) (v1 : Int32)  (h : Hp) : Option (Hp) :=
  (grd (rC 11 v0 h)).bind fun _ =>
  (f_205 v0 v1 (nI 4) h).bind fun p1 =>
  (gQ 11 43 v0 p1.2).bind fun x2 =>
  (aI 12 x2 v1 p1.2).bind fun x3 =>
  (grd (rC 11 v0 p1.2)).bind fun _ =>
  (f_219 v0 v1 p1.1 x3 p1.2).bind fun p4 =>
  bnd ((nI 0)) fun x5 =>
  l_252_50 k23 FU v0 v1 x5 p4
theorem u_252_31 (d : Nat) (hd : 2 ≤ d) (k23 : Option Nat → Int32 → Hp → Option (Hp)) (K23 : ∀ (v0 : Option Nat) (v1 : Int32) (v2 : Option (Int32)) (h : Hp) (r : Hp), k23 v0 v1 h = some r → Rn d 252 23 [some (va_rf v0), some (.int v1), v2.map Value.int] [] h (none, r)) (v0 : Option Nat) (v1 : Int32) (v2 : Option (Int32))  (h : Hp) (r : Hp) (hb : b_252_31 k23 v0 v1  h = some r) : Rn d 252 31 [some (va_rf v0), some (.int v1), v2.map Value.int] [] h (none, r) := by
  unfold b_252_31 at hb
  obtain ⟨e, rfl⟩ : ∃ e, d = e + 1 := ⟨d - 1, by omega⟩
  refine rn_aload_n (i := 0) rfl rfl ?_
  refine rn_iload_n (i := 1) rfl rfl ?_
  refine rn_aload_n (i := 0) rfl rfl ?_
  refine rn_iload_n (i := 1) rfl rfl ?_
  refine rn_iconst (x := (nI 4)) rfl (by decide) ?_
  obtain ⟨hrc, hb⟩ := grd_spec hb
  obtain ⟨p1, hc, hb⟩ := Option.bind_eq_some_iff.mp hb
  refine Rn.call1 (d := e) (As := [va_rf v0, .int v1, .int (nI 4)]) (rest := [.int v1, va_rf v0]) rfl rfl rfl (by decide) rfl rfl rfl (bd_rcV hrc rfl) (by rw [bd_cI (bd_cR (bd_cN))]; decide) (bd_lenC (n := 3) rfl (bd_slR (bd_slI (bd_slI bd_slN))) rfl) (bd_locC (n := 3) rfl (bd_slR (bd_slI (bd_slI bd_slN))) rfl (t_205 e (by omega) v0 v1 (nI 4) h _ hc)) ?_
  refine rn_aload_n (i := 0) rfl rfl ?_
  refine rn_gQ (c := 11) (k := 43) rfl (by decide) hb (fun x2 hb => ?_)
  refine rn_iload_n (i := 1) rfl rfl ?_
  refine rn_aI rfl hb (fun x3 hb => ?_)
  obtain ⟨hrc, hb⟩ := grd_spec hb
  obtain ⟨p4, hc, hb⟩ := Option.bind_eq_some_iff.mp hb
  refine Rn.call0 (d := e) (As := [va_rf v0, .int v1, .int p1.1, .int x3]) (rest := []) rfl rfl rfl (by decide) rfl rfl rfl (bd_rcV hrc rfl) (by decide) (bd_lenC (n := 14) rfl (bd_slR (bd_slI (bd_slI (bd_slI bd_slN)))) rfl) (bd_locC (n := 14) rfl (bd_slR (bd_slI (bd_slI (bd_slI bd_slN)))) rfl (t_219 e (by omega) v0 v1 p1.1 x3 p1.2 _ hc)) ?_
  refine rn_iconst (x := (nI 0)) rfl (by decide) ?_
  obtain ⟨x5, ex5, hb⟩ := bnd_spec hb
  refine rn_istore_n (i := 2) (L1 := [some (va_rf v0), some (.int v1), some (.int x5)]) rfl (Nat.le_of_ble_eq_true rfl) (Or.inr rfl) (by rw [ex5]; rfl) ?_
  exact w_252_50 (e + 1) hd k23 K23 FU v0 v1 x5 p4 _ hb
def b_252_23 (k23 : Option Nat → Int32 → Hp → Option (Hp)) (v0 : Option Nat) (v1 : Int32)  (h : Hp) : Option (Hp) :=
  (grd (rC 11 v0 h)).bind fun _ =>
  (f_203 v0 h).bind fun p1 =>
  if p1.1 ≤ v1 then b_252_94   p1.2 else b_252_31 k23 v0 v1  p1.2
theorem u_252_23 (d : Nat) (hd : 2 ≤ d) (k23 : Option Nat → Int32 → Hp → Option (Hp)) (K23 : ∀ (v0 : Option Nat) (v1 : Int32) (v2 : Option (Int32)) (h : Hp) (r : Hp), k23 v0 v1 h = some r → Rn d 252 23 [some (va_rf v0), some (.int v1), v2.map Value.int] [] h (none, r)) (v0 : Option Nat) (v1 : Int32) (v2 : Option (Int32))  (h : Hp) (r : Hp) (hb : b_252_23 k23 v0 v1  h = some r) : Rn d 252 23 [some (va_rf v0), some (.int v1), v2.map Value.int] [] h (none, r) := by
  unfold b_252_23 at hb
  obtain ⟨e, rfl⟩ : ∃ e, d = e + 1 := ⟨d - 1, by omega⟩
  refine rn_iload_n (i := 1) rfl rfl ?_
  refine rn_aload_n (i := 0) rfl rfl ?_
  obtain ⟨hrc, hb⟩ := grd_spec hb
  obtain ⟨p1, hc, hb⟩ := Option.bind_eq_some_iff.mp hb
  refine Rn.call1 (d := e) (As := [va_rf v0]) (rest := [.int v1]) rfl rfl rfl (by decide) rfl rfl rfl (bd_rcV hrc rfl) (by rw [bd_cI (bd_cN)]; decide) (bd_lenC (n := 1) rfl (bd_slR bd_slN) rfl) (bd_locC (n := 1) rfl (bd_slR bd_slN) rfl (t_203 e (by omega) v0 h _ hc)) ?_
  refine rn_icmp_ge rfl rfl (fun hc => ?_) (fun hc => ?_)
  · exact u_252_94 (e + 1) hd v0 v1 v2  p1.2 _ (if_t hb hc)
  · exact u_252_31 (e + 1) hd k23 K23 v0 v1 v2  p1.2 _ (if_f hb hc)
def l_252_23 : Nat → Option Nat → Int32 → Hp → Option (Hp)
  | 0, _, _, _ => none
  | n + 1, v0, v1, h => b_252_23 (l_252_23 n) v0 v1 h
theorem w_252_23 (d : Nat) (hd : 2 ≤ d) : ∀ (n : Nat) (v0 : Option Nat) (v1 : Int32) (v2 : Option (Int32)) (h : Hp) (r : Hp), l_252_23 n v0 v1 h = some r → Rn d 252 23 [some (va_rf v0), some (.int v1), v2.map Value.int] [] h (none, r) := by
  intro n
  induction n with
  | zero => intro v0 v1 v2 h r hb; cases hb
  | succ n ih => intro v0 v1 v2 h r hb; exact u_252_23 d hd (l_252_23 n) ih v0 v1 v2 h r hb
def b_252_21 (v0 : Option Nat)  (h : Hp) : Option (Hp) :=
  bnd ((nI 0)) fun x1 =>
  l_252_23 FU v0 x1 h
theorem u_252_21 (d : Nat) (hd : 2 ≤ d) (v0 : Option Nat) (v1 : Int32)  (h : Hp) (r : Hp) (hb : b_252_21 v0  h = some r) : Rn d 252 21 [some (va_rf v0), some (.int v1), none] [] h (none, r) := by
  unfold b_252_21 at hb
  refine rn_iconst (x := (nI 0)) rfl (by decide) ?_
  obtain ⟨x1, ex1, hb⟩ := bnd_spec hb
  refine rn_istore_n (i := 1) (L1 := [some (va_rf v0), some (.int x1), none]) rfl (Nat.le_of_ble_eq_true rfl) (Or.inr (bd_wideR rfl)) (by rw [ex1]; rfl) ?_
  exact w_252_23 d hd FU v0 x1 (none : Option (Int32)) h _ hb
def b_252_8 (k2 : Option Nat → Int32 → Hp → Option (Hp)) (v0 : Option Nat) (v1 : Int32)  (h : Hp) : Option (Hp) :=
  (gQ 11 44 v0 h).bind fun x1 =>
  (wI x1 v1 (nI 0) h).bind fun h2 =>
  bnd (v1 + (nI 1)) fun x3 =>
  k2 v0 x3 h2
theorem u_252_8 (d : Nat) (hd : 2 ≤ d) (k2 : Option Nat → Int32 → Hp → Option (Hp)) (K2 : ∀ (v0 : Option Nat) (v1 : Int32) (h : Hp) (r : Hp), k2 v0 v1 h = some r → Rn d 252 2 [some (va_rf v0), some (.int v1), none] [] h (none, r)) (v0 : Option Nat) (v1 : Int32)  (h : Hp) (r : Hp) (hb : b_252_8 k2 v0 v1  h = some r) : Rn d 252 8 [some (va_rf v0), some (.int v1), none] [] h (none, r) := by
  unfold b_252_8 at hb
  refine rn_aload_n (i := 0) rfl rfl ?_
  refine rn_gQ (c := 11) (k := 44) rfl (by decide) hb (fun x1 hb => ?_)
  refine rn_iload_n (i := 1) rfl rfl ?_
  refine rn_iconst (x := (nI 0)) rfl (by decide) ?_
  refine rn_wI rfl hb (fun h2 hb => ?_)
  obtain ⟨x3, ex3, hb⟩ := bnd_spec hb
  refine rn_iinc (i := 1) (y := x3) (L1 := [some (va_rf v0), some (.int x3), none]) rfl rfl (Nat.le_of_ble_eq_true rfl) (Or.inr (bd_wideR rfl)) (by rw [ex3]; rfl) rfl ?_
  refine rn_goto rfl rfl ?_
  exact K2 v0 x3 h2 _ hb
def b_252_2 (k2 : Option Nat → Int32 → Hp → Option (Hp)) (v0 : Option Nat) (v1 : Int32)  (h : Hp) : Option (Hp) :=
  if (nI 100) ≤ v1 then b_252_21 v0  h else b_252_8 k2 v0 v1  h
theorem u_252_2 (d : Nat) (hd : 2 ≤ d) (k2 : Option Nat → Int32 → Hp → Option (Hp)) (K2 : ∀ (v0 : Option Nat) (v1 : Int32) (h : Hp) (r : Hp), k2 v0 v1 h = some r → Rn d 252 2 [some (va_rf v0), some (.int v1), none] [] h (none, r)) (v0 : Option Nat) (v1 : Int32)  (h : Hp) (r : Hp) (hb : b_252_2 k2 v0 v1  h = some r) : Rn d 252 2 [some (va_rf v0), some (.int v1), none] [] h (none, r) := by
  unfold b_252_2 at hb
  refine rn_iload_n (i := 1) rfl rfl ?_
  refine rn_bipush (x := (nI 100)) rfl (by decide) ?_
  refine rn_icmp_ge rfl rfl (fun hc => ?_) (fun hc => ?_)
  · exact u_252_21 d hd v0 v1  h _ (if_t hb hc)
  · exact u_252_8 d hd k2 K2 v0 v1  h _ (if_f hb hc)
def l_252_2 : Nat → Option Nat → Int32 → Hp → Option (Hp)
  | 0, _, _, _ => none
  | n + 1, v0, v1, h => b_252_2 (l_252_2 n) v0 v1 h
theorem w_252_2 (d : Nat) (hd : 2 ≤ d) : ∀ (n : Nat) (v0 : Option Nat) (v1 : Int32) (h : Hp) (r : Hp), l_252_2 n v0 v1 h = some r → Rn d 252 2 [some (va_rf v0), some (.int v1), none] [] h (none, r) := by
  intro n
  induction n with
  | zero => intro v0 v1 h r hb; cases hb
  | succ n ih => intro v0 v1 h r hb; exact u_252_2 d hd (l_252_2 n) ih v0 v1 h r hb
def b_252_0 (v0 : Option Nat)  (h : Hp) : Option (Hp) :=
  bnd ((nI 0)) fun x1 =>
  l_252_2 FU v0 x1 h
theorem u_252_0 (d : Nat) (hd : 2 ≤ d) (v0 : Option Nat)  (h : Hp) (r : Hp) (hb : b_252_0 v0  h = some r) : Rn d 252 0 [some (va_rf v0), none, none] [] h (none, r) := by
  unfold b_252_0 at hb
  refine rn_iconst (x := (nI 0)) rfl (by decide) ?_
  obtain ⟨x1, ex1, hb⟩ := bnd_spec hb
  refine rn_istore_n (i := 1) (L1 := [some (va_rf v0), some (.int x1), none]) rfl (Nat.le_of_ble_eq_true rfl) (Or.inr (bd_wideR rfl)) (by rw [ex1]; rfl) ?_
  exact w_252_2 d hd FU v0 x1 h _ hb
/-- BitingDoorsModel.layLeaves()V -/
def f_252 (v0 : Option Nat) (h : Hp) : Option (Hp) := b_252_0 v0 h
theorem t_252 (d : Nat) (hd : 2 ≤ d) (v0 : Option Nat) (h : Hp) (r : Hp) (hb : f_252 v0 h = some r) : Rn d 252 0 [some (va_rf v0), none, none] [] h (none, r) := by
  unfold f_252 at hb
  exact u_252_0 d hd v0 h r hb
def b_253_34 (v0 : Option Nat)  (h : Hp) : Option (Hp) :=
  (gQ 11 14 v0 h).bind fun x1 =>
  (aI 12 x1 (nI 340) h).bind fun x2 =>
  (pI 11 45 v0 x2 h).bind fun h3 =>
  (pI 11 46 v0 (nI 0) h3).bind fun h4 =>
  (grd (rC 11 v0 h4)).bind fun _ =>
  (f_252 v0 h4).bind fun p5 =>
  some p5
theorem u_253_34 (d : Nat) (hd : 3 ≤ d) (v0 : Option Nat) (v1 : Int32)  (h : Hp) (r : Hp) (hb : b_253_34 v0  h = some r) : Rn d 253 34 [some (va_rf v0), some (.int v1)] [] h (none, r) := by
  unfold b_253_34 at hb
  obtain ⟨e, rfl⟩ : ∃ e, d = e + 1 := ⟨d - 1, by omega⟩
  refine rn_aload_n (i := 0) rfl rfl ?_
  refine rn_aload_n (i := 0) rfl rfl ?_
  refine rn_gQ (c := 11) (k := 14) rfl (by decide) hb (fun x1 hb => ?_)
  refine rn_sipush (x := (nI 340)) rfl (by decide) ?_
  refine rn_aI rfl hb (fun x2 hb => ?_)
  refine rn_pI (c := 11) (k := 45) rfl (by decide) hb (fun h3 hb => ?_)
  refine rn_aload_n (i := 0) rfl rfl ?_
  refine rn_iconst (x := (nI 0)) rfl (by decide) ?_
  refine rn_pI (c := 11) (k := 46) rfl (by decide) hb (fun h4 hb => ?_)
  refine rn_aload_n (i := 0) rfl rfl ?_
  obtain ⟨hrc, hb⟩ := grd_spec hb
  obtain ⟨p5, hc, hb⟩ := Option.bind_eq_some_iff.mp hb
  refine Rn.call0 (d := e) (As := [va_rf v0]) (rest := []) rfl rfl rfl (by decide) rfl rfl rfl (bd_rcV hrc rfl) (by decide) (bd_lenC (n := 3) rfl (bd_slR bd_slN) rfl) (bd_locC (n := 3) rfl (bd_slR bd_slN) rfl (t_252 e (by omega) v0 h4 _ hc)) ?_
  obtain rfl := Option.some.inj hb
  exact rn_vret rfl rfl
def b_253_12 (k6 : Option Nat → Int32 → Hp → Option (Hp)) (v0 : Option Nat) (v1 : Int32)  (h : Hp) : Option (Hp) :=
  (gQ 11 43 v0 h).bind fun x1 =>
  (gQ 11 14 v0 h).bind fun x2 =>
  (aI 12 x2 ((nI 330) + v1) h).bind fun x3 =>
  (wI x1 v1 x3 h).bind fun h4 =>
  bnd (v1 + (nI 1)) fun x5 =>
  k6 v0 x5 h4
theorem u_253_12 (d : Nat) (hd : 3 ≤ d) (k6 : Option Nat → Int32 → Hp → Option (Hp)) (K6 : ∀ (v0 : Option Nat) (v1 : Int32) (h : Hp) (r : Hp), k6 v0 v1 h = some r → Rn d 253 6 [some (va_rf v0), some (.int v1)] [] h (none, r)) (v0 : Option Nat) (v1 : Int32)  (h : Hp) (r : Hp) (hb : b_253_12 k6 v0 v1  h = some r) : Rn d 253 12 [some (va_rf v0), some (.int v1)] [] h (none, r) := by
  unfold b_253_12 at hb
  refine rn_aload_n (i := 0) rfl rfl ?_
  refine rn_gQ (c := 11) (k := 43) rfl (by decide) hb (fun x1 hb => ?_)
  refine rn_iload_n (i := 1) rfl rfl ?_
  refine rn_aload_n (i := 0) rfl rfl ?_
  refine rn_gQ (c := 11) (k := 14) rfl (by decide) hb (fun x2 hb => ?_)
  refine rn_sipush (x := (nI 330)) rfl (by decide) ?_
  refine rn_iload_n (i := 1) rfl rfl ?_
  refine rn_iadd rfl ?_
  refine rn_aI rfl hb (fun x3 hb => ?_)
  refine rn_wI rfl hb (fun h4 hb => ?_)
  obtain ⟨x5, ex5, hb⟩ := bnd_spec hb
  refine rn_iinc (i := 1) (y := x5) (L1 := [some (va_rf v0), some (.int x5)]) rfl rfl (Nat.le_of_ble_eq_true rfl) (Or.inr (bd_wideR rfl)) (by rw [ex5]; rfl) rfl ?_
  refine rn_goto rfl rfl ?_
  exact K6 v0 x5 h4 _ hb
def b_253_6 (k6 : Option Nat → Int32 → Hp → Option (Hp)) (v0 : Option Nat) (v1 : Int32)  (h : Hp) : Option (Hp) :=
  if (nI 10) ≤ v1 then b_253_34 v0  h else b_253_12 k6 v0 v1  h
theorem u_253_6 (d : Nat) (hd : 3 ≤ d) (k6 : Option Nat → Int32 → Hp → Option (Hp)) (K6 : ∀ (v0 : Option Nat) (v1 : Int32) (h : Hp) (r : Hp), k6 v0 v1 h = some r → Rn d 253 6 [some (va_rf v0), some (.int v1)] [] h (none, r)) (v0 : Option Nat) (v1 : Int32)  (h : Hp) (r : Hp) (hb : b_253_6 k6 v0 v1  h = some r) : Rn d 253 6 [some (va_rf v0), some (.int v1)] [] h (none, r) := by
  unfold b_253_6 at hb
  refine rn_iload_n (i := 1) rfl rfl ?_
  refine rn_bipush (x := (nI 10)) rfl (by decide) ?_
  refine rn_icmp_ge rfl rfl (fun hc => ?_) (fun hc => ?_)
  · exact u_253_34 d hd v0 v1  h _ (if_t hb hc)
  · exact u_253_12 d hd k6 K6 v0 v1  h _ (if_f hb hc)
def l_253_6 : Nat → Option Nat → Int32 → Hp → Option (Hp)
  | 0, _, _, _ => none
  | n + 1, v0, v1, h => b_253_6 (l_253_6 n) v0 v1 h
theorem w_253_6 (d : Nat) (hd : 3 ≤ d) : ∀ (n : Nat) (v0 : Option Nat) (v1 : Int32) (h : Hp) (r : Hp), l_253_6 n v0 v1 h = some r → Rn d 253 6 [some (va_rf v0), some (.int v1)] [] h (none, r) := by
  intro n
  induction n with
  | zero => intro v0 v1 h r hb; cases hb
  | succ n ih => intro v0 v1 h r hb; exact u_253_6 d hd (l_253_6 n) ih v0 v1 h r hb
def b_253_0 (v0 : Option Nat)  (h : Hp) : Option (Hp) :=
  (grd (rC 11 v0 h)).bind fun _ =>
  (f_202 v0 h).bind fun p1 =>
  bnd ((nI 0)) fun x2 =>
  l_253_6 FU v0 x2 p1
theorem u_253_0 (d : Nat) (hd : 3 ≤ d) (v0 : Option Nat)  (h : Hp) (r : Hp) (hb : b_253_0 v0  h = some r) : Rn d 253 0 [some (va_rf v0), none] [] h (none, r) := by
  unfold b_253_0 at hb
  obtain ⟨e, rfl⟩ : ∃ e, d = e + 1 := ⟨d - 1, by omega⟩
  refine rn_aload_n (i := 0) rfl rfl ?_
  obtain ⟨hrc, hb⟩ := grd_spec hb
  obtain ⟨p1, hc, hb⟩ := Option.bind_eq_some_iff.mp hb
  refine Rn.call0 (d := e) (As := [va_rf v0]) (rest := []) rfl rfl rfl (by decide) rfl rfl rfl (bd_rcV hrc rfl) (by decide) (bd_lenC (n := 1) rfl (bd_slR bd_slN) rfl) (bd_locC (n := 1) rfl (bd_slR bd_slN) rfl (t_202 e (by omega) v0 h _ hc)) ?_
  refine rn_iconst (x := (nI 0)) rfl (by decide) ?_
  obtain ⟨x2, ex2, hb⟩ := bnd_spec hb
  refine rn_istore_n (i := 1) (L1 := [some (va_rf v0), some (.int x2)]) rfl (Nat.le_of_ble_eq_true rfl) (Or.inr (bd_wideR rfl)) (by rw [ex2]; rfl) ?_
  exact w_253_6 (e + 1) hd FU v0 x2 p1 _ hb
/-- BitingDoorsModel.takeNow()V -/
def f_253 (v0 : Option Nat) (h : Hp) : Option (Hp) := b_253_0 v0 h
theorem t_253 (d : Nat) (hd : 3 ≤ d) (v0 : Option Nat) (h : Hp) (r : Hp) (hb : f_253 v0 h = some r) : Rn d 253 0 [some (va_rf v0), none] [] h (none, r) := by
  unfold f_253 at hb
  exact u_253_0 d hd v0 h r hb
def b_254_30 (v0 : Option Nat)  (h : Hp) : Option (Hp) :=
  (gQ 11 14 v0 h).bind fun x1 =>
  (gI 11 45 v0 h).bind fun x2 =>
  (wI x1 (nI 340) x2 h).bind fun h3 =>
  some h3
theorem u_254_30 (d : Nat) (hd : 0 ≤ d) (v0 : Option Nat) (v1 : Int32)  (h : Hp) (r : Hp) (hb : b_254_30 v0  h = some r) : Rn d 254 30 [some (va_rf v0), some (.int v1)] [] h (none, r) := by
  unfold b_254_30 at hb
  refine rn_aload_n (i := 0) rfl rfl ?_
  refine rn_gQ (c := 11) (k := 14) rfl (by decide) hb (fun x1 hb => ?_)
  refine rn_sipush (x := (nI 340)) rfl (by decide) ?_
  refine rn_aload_n (i := 0) rfl rfl ?_
  refine rn_gI (c := 11) (k := 45) rfl (by decide) hb (fun x2 hb => ?_)
  refine rn_wI rfl hb (fun h3 hb => ?_)
  obtain rfl := Option.some.inj hb
  exact rn_vret rfl rfl
def b_254_8 (k2 : Option Nat → Int32 → Hp → Option (Hp)) (v0 : Option Nat) (v1 : Int32)  (h : Hp) : Option (Hp) :=
  (gQ 11 14 v0 h).bind fun x1 =>
  (gQ 11 43 v0 h).bind fun x2 =>
  (aI 12 x2 v1 h).bind fun x3 =>
  (wI x1 ((nI 330) + v1) x3 h).bind fun h4 =>
  bnd (v1 + (nI 1)) fun x5 =>
  k2 v0 x5 h4
theorem u_254_8 (d : Nat) (hd : 0 ≤ d) (k2 : Option Nat → Int32 → Hp → Option (Hp)) (K2 : ∀ (v0 : Option Nat) (v1 : Int32) (h : Hp) (r : Hp), k2 v0 v1 h = some r → Rn d 254 2 [some (va_rf v0), some (.int v1)] [] h (none, r)) (v0 : Option Nat) (v1 : Int32)  (h : Hp) (r : Hp) (hb : b_254_8 k2 v0 v1  h = some r) : Rn d 254 8 [some (va_rf v0), some (.int v1)] [] h (none, r) := by
  unfold b_254_8 at hb
  refine rn_aload_n (i := 0) rfl rfl ?_
  refine rn_gQ (c := 11) (k := 14) rfl (by decide) hb (fun x1 hb => ?_)
  refine rn_sipush (x := (nI 330)) rfl (by decide) ?_
  refine rn_iload_n (i := 1) rfl rfl ?_
  refine rn_iadd rfl ?_
  refine rn_aload_n (i := 0) rfl rfl ?_
  refine rn_gQ (c := 11) (k := 43) rfl (by decide) hb (fun x2 hb => ?_)
  refine rn_iload_n (i := 1) rfl rfl ?_
  refine rn_aI rfl hb (fun x3 hb => ?_)
  refine rn_wI rfl hb (fun h4 hb => ?_)
  obtain ⟨x5, ex5, hb⟩ := bnd_spec hb
  refine rn_iinc (i := 1) (y := x5) (L1 := [some (va_rf v0), some (.int x5)]) rfl rfl (Nat.le_of_ble_eq_true rfl) (Or.inr (bd_wideR rfl)) (by rw [ex5]; rfl) rfl ?_
  refine rn_goto rfl rfl ?_
  exact K2 v0 x5 h4 _ hb
def b_254_2 (k2 : Option Nat → Int32 → Hp → Option (Hp)) (v0 : Option Nat) (v1 : Int32)  (h : Hp) : Option (Hp) :=
  if (nI 10) ≤ v1 then b_254_30 v0  h else b_254_8 k2 v0 v1  h
theorem u_254_2 (d : Nat) (hd : 0 ≤ d) (k2 : Option Nat → Int32 → Hp → Option (Hp)) (K2 : ∀ (v0 : Option Nat) (v1 : Int32) (h : Hp) (r : Hp), k2 v0 v1 h = some r → Rn d 254 2 [some (va_rf v0), some (.int v1)] [] h (none, r)) (v0 : Option Nat) (v1 : Int32)  (h : Hp) (r : Hp) (hb : b_254_2 k2 v0 v1  h = some r) : Rn d 254 2 [some (va_rf v0), some (.int v1)] [] h (none, r) := by
  unfold b_254_2 at hb
  refine rn_iload_n (i := 1) rfl rfl ?_
  refine rn_bipush (x := (nI 10)) rfl (by decide) ?_
  refine rn_icmp_ge rfl rfl (fun hc => ?_) (fun hc => ?_)
  · exact u_254_30 d hd v0 v1  h _ (if_t hb hc)
  · exact u_254_8 d hd k2 K2 v0 v1  h _ (if_f hb hc)
def l_254_2 : Nat → Option Nat → Int32 → Hp → Option (Hp)
  | 0, _, _, _ => none
  | n + 1, v0, v1, h => b_254_2 (l_254_2 n) v0 v1 h
theorem w_254_2 (d : Nat) (hd : 0 ≤ d) : ∀ (n : Nat) (v0 : Option Nat) (v1 : Int32) (h : Hp) (r : Hp), l_254_2 n v0 v1 h = some r → Rn d 254 2 [some (va_rf v0), some (.int v1)] [] h (none, r) := by
  intro n
  induction n with
  | zero => intro v0 v1 h r hb; cases hb
  | succ n ih => intro v0 v1 h r hb; exact u_254_2 d hd (l_254_2 n) ih v0 v1 h r hb
def b_254_0 (v0 : Option Nat)  (h : Hp) : Option (Hp) :=
  bnd ((nI 0)) fun x1 =>
  l_254_2 FU v0 x1 h
theorem u_254_0 (d : Nat) (hd : 0 ≤ d) (v0 : Option Nat)  (h : Hp) (r : Hp) (hb : b_254_0 v0  h = some r) : Rn d 254 0 [some (va_rf v0), none] [] h (none, r) := by
  unfold b_254_0 at hb
  refine rn_iconst (x := (nI 0)) rfl (by decide) ?_
  obtain ⟨x1, ex1, hb⟩ := bnd_spec hb
  refine rn_istore_n (i := 1) (L1 := [some (va_rf v0), some (.int x1)]) rfl (Nat.le_of_ble_eq_true rfl) (Or.inr (bd_wideR rfl)) (by rw [ex1]; rfl) ?_
  exact w_254_2 d hd FU v0 x1 h _ hb
/-- BitingDoorsModel.keepNow()V -/
def f_254 (v0 : Option Nat) (h : Hp) : Option (Hp) := b_254_0 v0 h
theorem t_254 (d : Nat) (hd : 0 ≤ d) (v0 : Option Nat) (h : Hp) (r : Hp) (hb : f_254 v0 h = some r) : Rn d 254 0 [some (va_rf v0), none] [] h (none, r) := by
  unfold f_254 at hb
  exact u_254_0 d hd v0 h r hb
def b_255_49  (s0 : Int32) (h : Hp) : Option (Int32 × Hp) :=
  (grd (decide (s0 = 0 ∨ s0 = 1))).bind fun _ => some (s0, h)
theorem u_255_49 (d : Nat) (hd : 1 ≤ d) (v0 : Option Nat) (v1 : Int32) (v2 : Int32) (s0 : Int32) (h : Hp) (r : Int32 × Hp) (hb : b_255_49  s0 h = some r) : Rn d 255 49 [some (va_rf v0), some (.int v1), some (.int v2)] [.int s0] h (some (.int r.1), r.2) := by
  unfold b_255_49 at hb
  obtain ⟨hz, hb⟩ := grd_spec hb
  obtain rfl := Option.some.inj hb
  exact rn_zret rfl rfl (of_decide_eq_true hz)
def b_255_48   (h : Hp) : Option (Int32 × Hp) :=
  b_255_49  (nI 0) h
theorem u_255_48 (d : Nat) (hd : 1 ≤ d) (v0 : Option Nat) (v1 : Int32) (v2 : Int32)  (h : Hp) (r : Int32 × Hp) (hb : b_255_48   h = some r) : Rn d 255 48 [some (va_rf v0), some (.int v1), some (.int v2)] [] h (some (.int r.1), r.2) := by
  unfold b_255_48 at hb
  refine rn_iconst (x := (nI 0)) rfl (by decide) ?_
  exact u_255_49 d hd v0 v1 v2 (nI 0) h _ hb
def b_255_44   (h : Hp) : Option (Int32 × Hp) :=
  b_255_49  (nI 1) h
theorem u_255_44 (d : Nat) (hd : 1 ≤ d) (v0 : Option Nat) (v1 : Int32) (v2 : Int32)  (h : Hp) (r : Int32 × Hp) (hb : b_255_44   h = some r) : Rn d 255 44 [some (va_rf v0), some (.int v1), some (.int v2)] [] h (some (.int r.1), r.2) := by
  unfold b_255_44 at hb
  refine rn_iconst (x := (nI 1)) rfl (by decide) ?_
  refine rn_goto rfl rfl ?_
  exact u_255_49 d hd v0 v1 v2 (nI 1) h _ hb
def b_255_26 (v0 : Option Nat) (v1 : Int32) (v2 : Int32)  (h : Hp) : Option (Int32 × Hp) :=
  (gQ 11 14 v0 h).bind fun x1 =>
  (aI 12 x1 (((nI 210) + ((nI 10) * v2)) + v1) h).bind fun x2 =>
  if x2 ≤ 0 then b_255_48   h else b_255_44   h
theorem u_255_26 (d : Nat) (hd : 1 ≤ d) (v0 : Option Nat) (v1 : Int32) (v2 : Int32)  (h : Hp) (r : Int32 × Hp) (hb : b_255_26 v0 v1 v2  h = some r) : Rn d 255 26 [some (va_rf v0), some (.int v1), some (.int v2)] [] h (some (.int r.1), r.2) := by
  unfold b_255_26 at hb
  refine rn_aload_n (i := 0) rfl rfl ?_
  refine rn_gQ (c := 11) (k := 14) rfl (by decide) hb (fun x1 hb => ?_)
  refine rn_sipush (x := (nI 210)) rfl (by decide) ?_
  refine rn_bipush (x := (nI 10)) rfl (by decide) ?_
  refine rn_iload_n (i := 2) rfl rfl ?_
  refine rn_imul rfl ?_
  refine rn_iadd rfl ?_
  refine rn_iload_n (i := 1) rfl rfl ?_
  refine rn_iadd rfl ?_
  refine rn_aI rfl hb (fun x2 hb => ?_)
  refine rn_if_le rfl rfl (fun hc => ?_) (fun hc => ?_)
  · exact u_255_48 d hd v0 v1 v2  h _ (if_t hb hc)
  · exact u_255_44 d hd v0 v1 v2  h _ (if_f hb hc)
def b_255_9 (v0 : Option Nat) (v1 : Int32) (v2 : Int32)  (h : Hp) : Option (Int32 × Hp) :=
  (gQ 11 14 v0 h).bind fun x1 =>
  (aI 12 x1 (((nI 10) + ((nI 10) * v2)) + v1) h).bind fun x2 =>
  if x2 = 0 then b_255_44   h else b_255_26 v0 v1 v2  h
theorem u_255_9 (d : Nat) (hd : 1 ≤ d) (v0 : Option Nat) (v1 : Int32) (v2 : Int32)  (h : Hp) (r : Int32 × Hp) (hb : b_255_9 v0 v1 v2  h = some r) : Rn d 255 9 [some (va_rf v0), some (.int v1), some (.int v2)] [] h (some (.int r.1), r.2) := by
  unfold b_255_9 at hb
  refine rn_aload_n (i := 0) rfl rfl ?_
  refine rn_gQ (c := 11) (k := 14) rfl (by decide) hb (fun x1 hb => ?_)
  refine rn_bipush (x := (nI 10)) rfl (by decide) ?_
  refine rn_bipush (x := (nI 10)) rfl (by decide) ?_
  refine rn_iload_n (i := 2) rfl rfl ?_
  refine rn_imul rfl ?_
  refine rn_iadd rfl ?_
  refine rn_iload_n (i := 1) rfl rfl ?_
  refine rn_iadd rfl ?_
  refine rn_aI rfl hb (fun x2 hb => ?_)
  refine rn_if_eq rfl rfl (fun hc => ?_) (fun hc => ?_)
  · exact u_255_44 d hd v0 v1 v2  h _ (if_t hb hc)
  · exact u_255_26 d hd v0 v1 v2  h _ (if_f hb hc)
def b_255_0 (v0 : Option Nat) (v1 : Int32) (v2 : Int32)  (h : Hp) : Option (Int32 × Hp) :=
  (grd (rC 11 v0 h)).bind fun _ =>
  (f_206 v0 v1 v2 h).bind fun p1 =>
  if p1.1 = 0 then b_255_48   p1.2 else b_255_9 v0 v1 v2  p1.2
theorem u_255_0 (d : Nat) (hd : 1 ≤ d) (v0 : Option Nat) (v1 : Int32) (v2 : Int32)  (h : Hp) (r : Int32 × Hp) (hb : b_255_0 v0 v1 v2  h = some r) : Rn d 255 0 [some (va_rf v0), some (.int v1), some (.int v2)] [] h (some (.int r.1), r.2) := by
  unfold b_255_0 at hb
  obtain ⟨e, rfl⟩ : ∃ e, d = e + 1 := ⟨d - 1, by omega⟩
  refine rn_aload_n (i := 0) rfl rfl ?_
  refine rn_iload_n (i := 1) rfl rfl ?_
  refine rn_iload_n (i := 2) rfl rfl ?_
  obtain ⟨hrc, hb⟩ := grd_spec hb
  obtain ⟨p1, hc, hb⟩ := Option.bind_eq_some_iff.mp hb
  refine Rn.call1 (d := e) (As := [va_rf v0, .int v1, .int v2]) (rest := []) rfl rfl rfl (by decide) rfl rfl rfl (bd_rcV hrc rfl) (by decide) (bd_lenC (n := 3) rfl (bd_slR (bd_slI (bd_slI bd_slN))) rfl) (bd_locC (n := 3) rfl (bd_slR (bd_slI (bd_slI bd_slN))) rfl (t_206 e (by omega) v0 v1 v2 h _ hc)) ?_
  refine rn_if_eq rfl rfl (fun hc => ?_) (fun hc => ?_)
  · exact u_255_48 (e + 1) hd v0 v1 v2  p1.2 _ (if_t hb hc)
  · exact u_255_9 (e + 1) hd v0 v1 v2  p1.2 _ (if_f hb hc)
/-- BitingDoorsModel.isWalked(II)Z -/
def f_255 (v0 : Option Nat) (v1 : Int32) (v2 : Int32) (h : Hp) : Option (Int32 × Hp) := b_255_0 v0 v1 v2 h
theorem t_255 (d : Nat) (hd : 1 ≤ d) (v0 : Option Nat) (v1 : Int32) (v2 : Int32) (h : Hp) (r : Int32 × Hp) (hb : f_255 v0 v1 v2 h = some r) : Rn d 255 0 [some (va_rf v0), some (.int v1), some (.int v2)] [] h (some (.int r.1), r.2) := by
  unfold f_255 at hb
  exact u_255_0 d hd v0 v1 v2 h r hb
