def b_118_151   (h : Hp) : Option (Hp) :=
  some h
theorem u_118_151 (d : Nat) (hd : 0 ≤ d) (v0 : Option Nat) (v1 : Int32) (v2 : Int32) (v3 : Option (Int32))  (h : Hp) (r : Hp) (hb : b_118_151   h = some r) : Rn d 118 151 [some (va_rf v0), some (.int v1), some (.int v2), v3.map Value.int] [] h (none, r) := by
  unfold b_118_151 at hb
  cases hb
  exact rn_vret rfl rfl
def b_118_148  (s0 : Option Nat) (s1 : Int32) (h : Hp) : Option (Hp) :=
  (pI 9 2 s0 s1 h).bind fun h1 =>
  b_118_151   h1
theorem u_118_148 (d : Nat) (hd : 0 ≤ d) (v0 : Option Nat) (v1 : Int32) (v2 : Int32) (v3 : Option (Int32)) (s0 : Option Nat) (s1 : Int32) (h : Hp) (r : Hp) (hb : b_118_148  s0 s1 h = some r) : Rn d 118 148 [some (va_rf v0), some (.int v1), some (.int v2), v3.map Value.int] [.int s1, va_rf s0] h (none, r) := by
  unfold b_118_148 at hb
  refine rn_pI (c := 9) (k := 2) rfl (by decide) hb (fun h1 hb => ?_)
  exact u_118_151 d hd v0 v1 v2 v3  h1 _ hb
def b_118_147  (s0 : Option Nat) (h : Hp) : Option (Hp) :=
  b_118_148  s0 (nI 3) h
theorem u_118_147 (d : Nat) (hd : 0 ≤ d) (v0 : Option Nat) (v1 : Int32) (v2 : Int32) (v3 : Option (Int32)) (s0 : Option Nat) (h : Hp) (r : Hp) (hb : b_118_147  s0 h = some r) : Rn d 118 147 [some (va_rf v0), some (.int v1), some (.int v2), v3.map Value.int] [va_rf s0] h (none, r) := by
  unfold b_118_147 at hb
  refine rn_iconst (x := (nI 3)) rfl (by decide) ?_
  exact u_118_148 d hd v0 v1 v2 v3 s0 (nI 3) h _ hb
def b_118_143  (s0 : Option Nat) (h : Hp) : Option (Hp) :=
  b_118_148  s0 (nI 2) h
theorem u_118_143 (d : Nat) (hd : 0 ≤ d) (v0 : Option Nat) (v1 : Int32) (v2 : Int32) (v3 : Option (Int32)) (s0 : Option Nat) (h : Hp) (r : Hp) (hb : b_118_143  s0 h = some r) : Rn d 118 143 [some (va_rf v0), some (.int v1), some (.int v2), v3.map Value.int] [va_rf s0] h (none, r) := by
  unfold b_118_143 at hb
  refine rn_iconst (x := (nI 2)) rfl (by decide) ?_
  refine rn_goto rfl rfl ?_
  exact u_118_148 d hd v0 v1 v2 v3 s0 (nI 2) h _ hb
def b_118_138 (v2 : Int32) (s0 : Option Nat) (h : Hp) : Option (Hp) :=
  if (nI 2) < v2 then b_118_147  s0 h else b_118_143  s0 h
theorem u_118_138 (d : Nat) (hd : 0 ≤ d) (v0 : Option Nat) (v1 : Int32) (v2 : Int32) (v3 : Option (Int32)) (s0 : Option Nat) (h : Hp) (r : Hp) (hb : b_118_138 v2 s0 h = some r) : Rn d 118 138 [some (va_rf v0), some (.int v1), some (.int v2), v3.map Value.int] [va_rf s0] h (none, r) := by
  unfold b_118_138 at hb
  refine rn_iload_n (i := 2) rfl rfl ?_
  refine rn_iconst (x := (nI 2)) rfl (by decide) ?_
  refine rn_icmp_gt rfl rfl (fun hc => ?_) (fun hc => ?_)
  · exact u_118_147 d hd v0 v1 v2 v3 s0 h _ (if_t hb hc)
  · exact u_118_143 d hd v0 v1 v2 v3 s0 h _ (if_f hb hc)
def b_118_133 (v0 : Option Nat) (v1 : Int32) (v2 : Int32)  (h : Hp) : Option (Hp) :=
  if ¬ v1 = 0 then b_118_147  v0 h else b_118_138 v2 v0 h
theorem u_118_133 (d : Nat) (hd : 0 ≤ d) (v0 : Option Nat) (v1 : Int32) (v2 : Int32) (v3 : Option (Int32))  (h : Hp) (r : Hp) (hb : b_118_133 v0 v1 v2  h = some r) : Rn d 118 133 [some (va_rf v0), some (.int v1), some (.int v2), v3.map Value.int] [] h (none, r) := by
  unfold b_118_133 at hb
  refine rn_aload_n (i := 0) rfl rfl ?_
  refine rn_iload_n (i := 1) rfl rfl ?_
  refine rn_if_ne rfl rfl (fun hc => ?_) (fun hc => ?_)
  · exact u_118_147 d hd v0 v1 v2 v3 v0 h _ (if_t hb hc)
  · exact u_118_138 d hd v0 v1 v2 v3 v0 h _ (if_f hb hc)
def b_118_125 (v0 : Option Nat)  (h : Hp) : Option (Hp) :=
  (pI 9 2 v0 (nI 1) h).bind fun h1 =>
  b_118_151   h1
theorem u_118_125 (d : Nat) (hd : 0 ≤ d) (v0 : Option Nat) (v1 : Int32) (v2 : Int32) (v3 : Option (Int32))  (h : Hp) (r : Hp) (hb : b_118_125 v0  h = some r) : Rn d 118 125 [some (va_rf v0), some (.int v1), some (.int v2), v3.map Value.int] [] h (none, r) := by
  unfold b_118_125 at hb
  refine rn_aload_n (i := 0) rfl rfl ?_
  refine rn_iconst (x := (nI 1)) rfl (by decide) ?_
  refine rn_pI (c := 9) (k := 2) rfl (by decide) hb (fun h1 hb => ?_)
  refine rn_goto rfl rfl ?_
  exact u_118_151 d hd v0 v1 v2 v3  h1 _ hb
def b_118_119 (v0 : Option Nat) (v1 : Int32) (v2 : Int32)  (h : Hp) : Option (Hp) :=
  if (nI 10) < v1 then b_118_133 v0 v1 v2  h else b_118_125 v0  h
theorem u_118_119 (d : Nat) (hd : 0 ≤ d) (v0 : Option Nat) (v1 : Int32) (v2 : Int32) (v3 : Option (Int32))  (h : Hp) (r : Hp) (hb : b_118_119 v0 v1 v2  h = some r) : Rn d 118 119 [some (va_rf v0), some (.int v1), some (.int v2), v3.map Value.int] [] h (none, r) := by
  unfold b_118_119 at hb
  refine rn_iload_n (i := 1) rfl rfl ?_
  refine rn_bipush (x := (nI 10)) rfl (by decide) ?_
  refine rn_icmp_gt rfl rfl (fun hc => ?_) (fun hc => ?_)
  · exact u_118_133 d hd v0 v1 v2 v3  h _ (if_t hb hc)
  · exact u_118_125 d hd v0 v1 v2 v3  h _ (if_f hb hc)
def b_118_115 (v0 : Option Nat) (v1 : Int32) (v2 : Int32)  (h : Hp) : Option (Hp) :=
  if ¬ v2 = 0 then b_118_133 v0 v1 v2  h else b_118_119 v0 v1 v2  h
theorem u_118_115 (d : Nat) (hd : 0 ≤ d) (v0 : Option Nat) (v1 : Int32) (v2 : Int32) (v3 : Option (Int32))  (h : Hp) (r : Hp) (hb : b_118_115 v0 v1 v2  h = some r) : Rn d 118 115 [some (va_rf v0), some (.int v1), some (.int v2), v3.map Value.int] [] h (none, r) := by
  unfold b_118_115 at hb
  refine rn_iload_n (i := 2) rfl rfl ?_
  refine rn_if_ne rfl rfl (fun hc => ?_) (fun hc => ?_)
  · exact u_118_133 d hd v0 v1 v2 v3  h _ (if_t hb hc)
  · exact u_118_119 d hd v0 v1 v2 v3  h _ (if_f hb hc)
def b_118_102 (k14 : Option Nat → Int32 → Int32 → Hp → Option (Hp)) (v0 : Option Nat) (v1 : Int32) (v2 : Int32)  (h : Hp) : Option (Hp) :=
  (gI 9 9 v0 h).bind fun x1 =>
  (pI 9 9 v0 (x1 + (nI 1)) h).bind fun h2 =>
  k14 v0 v1 v2 h2
theorem u_118_102 (d : Nat) (hd : 0 ≤ d) (k14 : Option Nat → Int32 → Int32 → Hp → Option (Hp)) (K14 : ∀ (v0 : Option Nat) (v1 : Int32) (v2 : Int32) (v3 : Option (Int32)) (h : Hp) (r : Hp), k14 v0 v1 v2 h = some r → Rn d 118 14 [some (va_rf v0), some (.int v1), some (.int v2), v3.map Value.int] [] h (none, r)) (v0 : Option Nat) (v1 : Int32) (v2 : Int32) (v3 : Int32)  (h : Hp) (r : Hp) (hb : b_118_102 k14 v0 v1 v2  h = some r) : Rn d 118 102 [some (va_rf v0), some (.int v1), some (.int v2), some (.int v3)] [] h (none, r) := by
  unfold b_118_102 at hb
  refine rn_aload_n (i := 0) rfl rfl ?_
  refine rn_dup rfl (bd_cat_rf _) ?_
  refine rn_gI (c := 9) (k := 9) rfl (by decide) hb (fun x1 hb => ?_)
  refine rn_iconst (x := (nI 1)) rfl (by decide) ?_
  refine rn_iadd rfl ?_
  refine rn_pI (c := 9) (k := 9) rfl (by decide) hb (fun h2 hb => ?_)
  refine rn_goto rfl rfl ?_
  exact K14 v0 v1 v2 (some v3) h2 _ hb
def b_118_83 (k14 : Option Nat → Int32 → Int32 → Hp → Option (Hp)) (v0 : Option Nat) (v1 : Int32) (v2 : Int32) (v3 : Int32)  (h : Hp) : Option (Hp) :=
  bnd (v2 + (nI 1)) fun x1 =>
  (gI 9 4 v0 h).bind fun x2 =>
  (pI 9 4 v0 (((nI 10) * x2) + (v3 - (nI 48))) h).bind fun h3 =>
  b_118_102 k14 v0 v1 x1  h3
theorem u_118_83 (d : Nat) (hd : 0 ≤ d) (k14 : Option Nat → Int32 → Int32 → Hp → Option (Hp)) (K14 : ∀ (v0 : Option Nat) (v1 : Int32) (v2 : Int32) (v3 : Option (Int32)) (h : Hp) (r : Hp), k14 v0 v1 v2 h = some r → Rn d 118 14 [some (va_rf v0), some (.int v1), some (.int v2), v3.map Value.int] [] h (none, r)) (v0 : Option Nat) (v1 : Int32) (v2 : Int32) (v3 : Int32)  (h : Hp) (r : Hp) (hb : b_118_83 k14 v0 v1 v2 v3  h = some r) : Rn d 118 83 [some (va_rf v0), some (.int v1), some (.int v2), some (.int v3)] [] h (none, r) := by
  unfold b_118_83 at hb
  obtain ⟨x1, ex1, hb⟩ := bnd_spec hb
  refine rn_iinc (i := 2) (y := x1) (L1 := [some (va_rf v0), some (.int v1), some (.int x1), some (.int v3)]) rfl rfl (Nat.le_of_ble_eq_true rfl) (Or.inr rfl) (by rw [ex1]; rfl) rfl ?_
  refine rn_aload_n (i := 0) rfl rfl ?_
  refine rn_bipush (x := (nI 10)) rfl (by decide) ?_
  refine rn_aload_n (i := 0) rfl rfl ?_
  refine rn_gI (c := 9) (k := 4) rfl (by decide) hb (fun x2 hb => ?_)
  refine rn_imul rfl ?_
  refine rn_iload_n (i := 3) rfl rfl ?_
  refine rn_bipush (x := (nI 48)) rfl (by decide) ?_
  refine rn_isub rfl ?_
  refine rn_iadd rfl ?_
  refine rn_pI (c := 9) (k := 4) rfl (by decide) hb (fun h3 hb => ?_)
  exact u_118_102 d hd k14 K14 v0 v1 x1 v3  h3 _ hb
def b_118_77 (k14 : Option Nat → Int32 → Int32 → Hp → Option (Hp)) (v0 : Option Nat) (v1 : Int32) (v2 : Int32) (v3 : Int32)  (h : Hp) : Option (Hp) :=
  if (nI 57) < v3 then b_118_115 v0 v1 v2  h else b_118_83 k14 v0 v1 v2 v3  h
theorem u_118_77 (d : Nat) (hd : 0 ≤ d) (k14 : Option Nat → Int32 → Int32 → Hp → Option (Hp)) (K14 : ∀ (v0 : Option Nat) (v1 : Int32) (v2 : Int32) (v3 : Option (Int32)) (h : Hp) (r : Hp), k14 v0 v1 v2 h = some r → Rn d 118 14 [some (va_rf v0), some (.int v1), some (.int v2), v3.map Value.int] [] h (none, r)) (v0 : Option Nat) (v1 : Int32) (v2 : Int32) (v3 : Int32)  (h : Hp) (r : Hp) (hb : b_118_77 k14 v0 v1 v2 v3  h = some r) : Rn d 118 77 [some (va_rf v0), some (.int v1), some (.int v2), some (.int v3)] [] h (none, r) := by
  unfold b_118_77 at hb
  refine rn_iload_n (i := 3) rfl rfl ?_
  refine rn_bipush (x := (nI 57)) rfl (by decide) ?_
  refine rn_icmp_gt rfl rfl (fun hc => ?_) (fun hc => ?_)
  · exact u_118_115 d hd v0 v1 v2 (some v3)  h _ (if_t hb hc)
  · exact u_118_83 d hd k14 K14 v0 v1 v2 v3  h _ (if_f hb hc)
def b_118_71 (k14 : Option Nat → Int32 → Int32 → Hp → Option (Hp)) (v0 : Option Nat) (v1 : Int32) (v2 : Int32) (v3 : Int32)  (h : Hp) : Option (Hp) :=
  if v3 < (nI 48) then b_118_115 v0 v1 v2  h else b_118_77 k14 v0 v1 v2 v3  h
theorem u_118_71 (d : Nat) (hd : 0 ≤ d) (k14 : Option Nat → Int32 → Int32 → Hp → Option (Hp)) (K14 : ∀ (v0 : Option Nat) (v1 : Int32) (v2 : Int32) (v3 : Option (Int32)) (h : Hp) (r : Hp), k14 v0 v1 v2 h = some r → Rn d 118 14 [some (va_rf v0), some (.int v1), some (.int v2), v3.map Value.int] [] h (none, r)) (v0 : Option Nat) (v1 : Int32) (v2 : Int32) (v3 : Int32)  (h : Hp) (r : Hp) (hb : b_118_71 k14 v0 v1 v2 v3  h = some r) : Rn d 118 71 [some (va_rf v0), some (.int v1), some (.int v2), some (.int v3)] [] h (none, r) := by
  unfold b_118_71 at hb
  refine rn_iload_n (i := 3) rfl rfl ?_
  refine rn_bipush (x := (nI 48)) rfl (by decide) ?_
  refine rn_icmp_lt rfl rfl (fun hc => ?_) (fun hc => ?_)
  · exact u_118_115 d hd v0 v1 v2 (some v3)  h _ (if_t hb hc)
  · exact u_118_77 d hd k14 K14 v0 v1 v2 v3  h _ (if_f hb hc)
def b_118_47 (k14 : Option Nat → Int32 → Int32 → Hp → Option (Hp)) (v0 : Option Nat) (v1 : Int32) (v2 : Int32) (v3 : Int32)  (h : Hp) : Option (Hp) :=
  bnd (v1 + (nI 1)) fun x1 =>
  (gJ 9 5 v0 h).bind fun x2 =>
  (pJ 9 5 v0 ((x2 <<< ((nI 5).toInt64 &&& 63)) + (((v3 - (nI 97)) + (nI 1)).toInt64)) h).bind fun h3 =>
  b_118_102 k14 v0 x1 v2  h3
theorem u_118_47 (d : Nat) (hd : 0 ≤ d) (k14 : Option Nat → Int32 → Int32 → Hp → Option (Hp)) (K14 : ∀ (v0 : Option Nat) (v1 : Int32) (v2 : Int32) (v3 : Option (Int32)) (h : Hp) (r : Hp), k14 v0 v1 v2 h = some r → Rn d 118 14 [some (va_rf v0), some (.int v1), some (.int v2), v3.map Value.int] [] h (none, r)) (v0 : Option Nat) (v1 : Int32) (v2 : Int32) (v3 : Int32)  (h : Hp) (r : Hp) (hb : b_118_47 k14 v0 v1 v2 v3  h = some r) : Rn d 118 47 [some (va_rf v0), some (.int v1), some (.int v2), some (.int v3)] [] h (none, r) := by
  unfold b_118_47 at hb
  obtain ⟨x1, ex1, hb⟩ := bnd_spec hb
  refine rn_iinc (i := 1) (y := x1) (L1 := [some (va_rf v0), some (.int x1), some (.int v2), some (.int v3)]) rfl rfl (Nat.le_of_ble_eq_true rfl) (Or.inr (bd_wideR rfl)) (by rw [ex1]; rfl) rfl ?_
  refine rn_aload_n (i := 0) rfl rfl ?_
  refine rn_aload_n (i := 0) rfl rfl ?_
  refine rn_gJ (c := 9) (k := 5) rfl (by decide) hb (fun x2 hb => ?_)
  refine rn_iconst (x := (nI 5)) rfl (by decide) ?_
  refine rn_lshl rfl ?_
  refine rn_iload_n (i := 3) rfl rfl ?_
  refine rn_bipush (x := (nI 97)) rfl (by decide) ?_
  refine rn_isub rfl ?_
  refine rn_iconst (x := (nI 1)) rfl (by decide) ?_
  refine rn_iadd rfl ?_
  refine rn_i2l rfl ?_
  refine rn_ladd rfl ?_
  refine rn_pJ (c := 9) (k := 5) rfl (by decide) hb (fun h3 hb => ?_)
  refine rn_goto rfl rfl ?_
  exact u_118_102 d hd k14 K14 v0 x1 v2 v3  h3 _ hb
def b_118_41 (k14 : Option Nat → Int32 → Int32 → Hp → Option (Hp)) (v0 : Option Nat) (v1 : Int32) (v2 : Int32) (v3 : Int32)  (h : Hp) : Option (Hp) :=
  if (nI 122) < v3 then b_118_71 k14 v0 v1 v2 v3  h else b_118_47 k14 v0 v1 v2 v3  h
theorem u_118_41 (d : Nat) (hd : 0 ≤ d) (k14 : Option Nat → Int32 → Int32 → Hp → Option (Hp)) (K14 : ∀ (v0 : Option Nat) (v1 : Int32) (v2 : Int32) (v3 : Option (Int32)) (h : Hp) (r : Hp), k14 v0 v1 v2 h = some r → Rn d 118 14 [some (va_rf v0), some (.int v1), some (.int v2), v3.map Value.int] [] h (none, r)) (v0 : Option Nat) (v1 : Int32) (v2 : Int32) (v3 : Int32)  (h : Hp) (r : Hp) (hb : b_118_41 k14 v0 v1 v2 v3  h = some r) : Rn d 118 41 [some (va_rf v0), some (.int v1), some (.int v2), some (.int v3)] [] h (none, r) := by
  unfold b_118_41 at hb
  refine rn_iload_n (i := 3) rfl rfl ?_
  refine rn_bipush (x := (nI 122)) rfl (by decide) ?_
  refine rn_icmp_gt rfl rfl (fun hc => ?_) (fun hc => ?_)
  · exact u_118_71 d hd k14 K14 v0 v1 v2 v3  h _ (if_t hb hc)
  · exact u_118_47 d hd k14 K14 v0 v1 v2 v3  h _ (if_f hb hc)
def b_118_25 (k14 : Option Nat → Int32 → Int32 → Hp → Option (Hp)) (v0 : Option Nat) (v1 : Int32) (v2 : Int32)  (h : Hp) : Option (Hp) :=
  (gQ 9 0 v0 h).bind fun x1 =>
  (gI 9 9 v0 h).bind fun x2 =>
  (aI 12 x1 x2 h).bind fun x3 =>
  if x3 < (nI 97) then b_118_71 k14 v0 v1 v2 x3  h else b_118_41 k14 v0 v1 v2 x3  h
theorem u_118_25 (d : Nat) (hd : 0 ≤ d) (k14 : Option Nat → Int32 → Int32 → Hp → Option (Hp)) (K14 : ∀ (v0 : Option Nat) (v1 : Int32) (v2 : Int32) (v3 : Option (Int32)) (h : Hp) (r : Hp), k14 v0 v1 v2 h = some r → Rn d 118 14 [some (va_rf v0), some (.int v1), some (.int v2), v3.map Value.int] [] h (none, r)) (v0 : Option Nat) (v1 : Int32) (v2 : Int32) (v3 : Option (Int32))  (h : Hp) (r : Hp) (hb : b_118_25 k14 v0 v1 v2  h = some r) : Rn d 118 25 [some (va_rf v0), some (.int v1), some (.int v2), v3.map Value.int] [] h (none, r) := by
  unfold b_118_25 at hb
  refine rn_aload_n (i := 0) rfl rfl ?_
  refine rn_gQ (c := 9) (k := 0) rfl (by decide) hb (fun x1 hb => ?_)
  refine rn_aload_n (i := 0) rfl rfl ?_
  refine rn_gI (c := 9) (k := 9) rfl (by decide) hb (fun x2 hb => ?_)
  refine rn_aI rfl hb (fun x3 hb => ?_)
  refine rn_istore_n (i := 3) (L1 := [some (va_rf v0), some (.int v1), some (.int v2), some (.int x3)]) rfl (Nat.le_of_ble_eq_true rfl) (Or.inr rfl) rfl ?_
  refine rn_iload_n (i := 3) rfl rfl ?_
  refine rn_bipush (x := (nI 97)) rfl (by decide) ?_
  refine rn_icmp_lt rfl rfl (fun hc => ?_) (fun hc => ?_)
  · exact u_118_71 d hd k14 K14 v0 v1 v2 x3  h _ (if_t hb hc)
  · exact u_118_41 d hd k14 K14 v0 v1 v2 x3  h _ (if_f hb hc)
def b_118_14 (k14 : Option Nat → Int32 → Int32 → Hp → Option (Hp)) (v0 : Option Nat) (v1 : Int32) (v2 : Int32)  (h : Hp) : Option (Hp) :=
  (gI 9 9 v0 h).bind fun x1 =>
  (gI 9 1 v0 h).bind fun x2 =>
  if x2 ≤ x1 then b_118_115 v0 v1 v2  h else b_118_25 k14 v0 v1 v2  h
theorem u_118_14 (d : Nat) (hd : 0 ≤ d) (k14 : Option Nat → Int32 → Int32 → Hp → Option (Hp)) (K14 : ∀ (v0 : Option Nat) (v1 : Int32) (v2 : Int32) (v3 : Option (Int32)) (h : Hp) (r : Hp), k14 v0 v1 v2 h = some r → Rn d 118 14 [some (va_rf v0), some (.int v1), some (.int v2), v3.map Value.int] [] h (none, r)) (v0 : Option Nat) (v1 : Int32) (v2 : Int32) (v3 : Option (Int32))  (h : Hp) (r : Hp) (hb : b_118_14 k14 v0 v1 v2  h = some r) : Rn d 118 14 [some (va_rf v0), some (.int v1), some (.int v2), v3.map Value.int] [] h (none, r) := by
  unfold b_118_14 at hb
  refine rn_aload_n (i := 0) rfl rfl ?_
  refine rn_gI (c := 9) (k := 9) rfl (by decide) hb (fun x1 hb => ?_)
  refine rn_aload_n (i := 0) rfl rfl ?_
  refine rn_gI (c := 9) (k := 1) rfl (by decide) hb (fun x2 hb => ?_)
  refine rn_icmp_ge rfl rfl (fun hc => ?_) (fun hc => ?_)
  · exact u_118_115 d hd v0 v1 v2 v3  h _ (if_t hb hc)
  · exact u_118_25 d hd k14 K14 v0 v1 v2 v3  h _ (if_f hb hc)
def l_118_14 : Nat → Option Nat → Int32 → Int32 → Hp → Option (Hp)
  | 0, _, _, _, _ => none
  | n + 1, v0, v1, v2, h => b_118_14 (l_118_14 n) v0 v1 v2 h
theorem w_118_14 (d : Nat) (hd : 0 ≤ d) : ∀ (n : Nat) (v0 : Option Nat) (v1 : Int32) (v2 : Int32) (v3 : Option (Int32)) (h : Hp) (r : Hp), l_118_14 n v0 v1 v2 h = some r → Rn d 118 14 [some (va_rf v0), some (.int v1), some (.int v2), v3.map Value.int] [] h (none, r) := by
  intro n
  induction n with
  | zero => intro v0 v1 v2 v3 h r hb; cases hb
  | succ n ih => intro v0 v1 v2 v3 h r hb; exact u_118_14 d hd (l_118_14 n) ih v0 v1 v2 v3 h r hb
def b_118_0 (v0 : Option Nat)  (h : Hp) : Option (Hp) :=
  bnd ((nI 0)) fun x1 =>
  bnd ((nI 0)) fun x2 =>
  (pI 9 4 v0 (nI 0) h).bind fun h3 =>
  (pJ 9 5 v0 (lN 0) h3).bind fun h4 =>
  l_118_14 FU v0 x1 x2 h4
theorem u_118_0 (d : Nat) (hd : 0 ≤ d) (v0 : Option Nat)  (h : Hp) (r : Hp) (hb : b_118_0 v0  h = some r) : Rn d 118 0 [some (va_rf v0), none, none, none] [] h (none, r) := by
  unfold b_118_0 at hb
  refine rn_iconst (x := (nI 0)) rfl (by decide) ?_
  obtain ⟨x1, ex1, hb⟩ := bnd_spec hb
  refine rn_istore_n (i := 1) (L1 := [some (va_rf v0), some (.int x1), none, none]) rfl (Nat.le_of_ble_eq_true rfl) (Or.inr (bd_wideR rfl)) (by rw [ex1]; rfl) ?_
  refine rn_iconst (x := (nI 0)) rfl (by decide) ?_
  obtain ⟨x2, ex2, hb⟩ := bnd_spec hb
  refine rn_istore_n (i := 2) (L1 := [some (va_rf v0), some (.int x1), some (.int x2), none]) rfl (Nat.le_of_ble_eq_true rfl) (Or.inr rfl) (by rw [ex2]; rfl) ?_
  refine rn_aload_n (i := 0) rfl rfl ?_
  refine rn_iconst (x := (nI 0)) rfl (by decide) ?_
  refine rn_pI (c := 9) (k := 4) rfl (by decide) hb (fun h3 hb => ?_)
  refine rn_aload_n (i := 0) rfl rfl ?_
  refine rn_lconst (x := (lN 0)) rfl (by decide) ?_
  refine rn_pJ (c := 9) (k := 5) rfl (by decide) hb (fun h4 hb => ?_)
  exact w_118_14 d hd FU v0 x1 x2 (none : Option (Int32)) h4 _ hb
/-- BitingDoors$Text.readRun()V -/
def f_118 (v0 : Option Nat) (h : Hp) : Option (Hp) := b_118_0 v0 h
theorem t_118 (d : Nat) (hd : 0 ≤ d) (v0 : Option Nat) (h : Hp) (r : Hp) (hb : f_118 v0 h = some r) : Rn d 118 0 [some (va_rf v0), none, none, none] [] h (none, r) := by
  unfold f_118 at hb
  exact u_118_0 d hd v0 h r hb
def b_7_52 (v0 : Option Nat)  (h : Hp) : Option (Int32 × Hp) :=
  (gI 1 6 v0 h).bind fun x1 =>
  some (x1, h)
theorem u_7_52 (d : Nat) (hd : 0 ≤ d) (v0 : Option Nat) (v1 : Int32)  (h : Hp) (r : Int32 × Hp) (hb : b_7_52 v0  h = some r) : Rn d 7 52 [some (va_rf v0), some (.int v1)] [] h (some (.int r.1), r.2) := by
  unfold b_7_52 at hb
  refine rn_aload_n (i := 0) rfl rfl ?_
  refine rn_gI (c := 1) (k := 6) rfl (by decide) hb (fun x1 hb => ?_)
  cases hb
  exact rn_iret rfl rfl
def b_7_57 (v0 : Option Nat)  (h : Hp) : Option (Int32 × Hp) :=
  (gI 1 7 v0 h).bind fun x1 =>
  some (x1, h)
theorem u_7_57 (d : Nat) (hd : 0 ≤ d) (v0 : Option Nat) (v1 : Int32)  (h : Hp) (r : Int32 × Hp) (hb : b_7_57 v0  h = some r) : Rn d 7 57 [some (va_rf v0), some (.int v1)] [] h (some (.int r.1), r.2) := by
  unfold b_7_57 at hb
  refine rn_aload_n (i := 0) rfl rfl ?_
  refine rn_gI (c := 1) (k := 7) rfl (by decide) hb (fun x1 hb => ?_)
  cases hb
  exact rn_iret rfl rfl
def b_7_74  (s0 : Int32) (h : Hp) : Option (Int32 × Hp) :=
  some (s0, h)
theorem u_7_74 (d : Nat) (hd : 0 ≤ d) (v0 : Option Nat) (v1 : Int32) (s0 : Int32) (h : Hp) (r : Int32 × Hp) (hb : b_7_74  s0 h = some r) : Rn d 7 74 [some (va_rf v0), some (.int v1)] [.int s0] h (some (.int r.1), r.2) := by
  unfold b_7_74 at hb
  cases hb
  exact rn_iret rfl rfl
def b_7_73   (h : Hp) : Option (Int32 × Hp) :=
  b_7_74  (nI 0) h
theorem u_7_73 (d : Nat) (hd : 0 ≤ d) (v0 : Option Nat) (v1 : Int32)  (h : Hp) (r : Int32 × Hp) (hb : b_7_73   h = some r) : Rn d 7 73 [some (va_rf v0), some (.int v1)] [] h (some (.int r.1), r.2) := by
  unfold b_7_73 at hb
  refine rn_iconst (x := (nI 0)) rfl (by decide) ?_
  exact u_7_74 d hd v0 v1 (nI 0) h _ hb
def b_7_69   (h : Hp) : Option (Int32 × Hp) :=
  b_7_74  (nI 1) h
theorem u_7_69 (d : Nat) (hd : 0 ≤ d) (v0 : Option Nat) (v1 : Int32)  (h : Hp) (r : Int32 × Hp) (hb : b_7_69   h = some r) : Rn d 7 69 [some (va_rf v0), some (.int v1)] [] h (some (.int r.1), r.2) := by
  unfold b_7_69 at hb
  refine rn_iconst (x := (nI 1)) rfl (by decide) ?_
  refine rn_goto rfl rfl ?_
  exact u_7_74 d hd v0 v1 (nI 1) h _ hb
def b_7_62 (v0 : Option Nat)  (h : Hp) : Option (Int32 × Hp) :=
  (gI 1 8 v0 h).bind fun x1 =>
  if x1 = 0 then b_7_73   h else b_7_69   h
theorem u_7_62 (d : Nat) (hd : 0 ≤ d) (v0 : Option Nat) (v1 : Int32)  (h : Hp) (r : Int32 × Hp) (hb : b_7_62 v0  h = some r) : Rn d 7 62 [some (va_rf v0), some (.int v1)] [] h (some (.int r.1), r.2) := by
  unfold b_7_62 at hb
  refine rn_aload_n (i := 0) rfl rfl ?_
  refine rn_gI (c := 1) (k := 8) rfl (by decide) hb (fun x1 hb => ?_)
  refine rn_if_eq rfl rfl (fun hc => ?_) (fun hc => ?_)
  · exact u_7_73 d hd v0 v1  h _ (if_t hb hc)
  · exact u_7_69 d hd v0 v1  h _ (if_f hb hc)
def b_7_75 (v0 : Option Nat)  (h : Hp) : Option (Int32 × Hp) :=
  (gI 1 9 v0 h).bind fun x1 =>
  some (x1, h)
theorem u_7_75 (d : Nat) (hd : 0 ≤ d) (v0 : Option Nat) (v1 : Int32)  (h : Hp) (r : Int32 × Hp) (hb : b_7_75 v0  h = some r) : Rn d 7 75 [some (va_rf v0), some (.int v1)] [] h (some (.int r.1), r.2) := by
  unfold b_7_75 at hb
  refine rn_aload_n (i := 0) rfl rfl ?_
  refine rn_gI (c := 1) (k := 9) rfl (by decide) hb (fun x1 hb => ?_)
  cases hb
  exact rn_iret rfl rfl
def b_7_103   (h : Hp) : Option (Int32 × Hp) :=
  some ((-1 : Int32), h)
theorem u_7_103 (d : Nat) (hd : 0 ≤ d) (v0 : Option Nat) (v1 : Int32)  (h : Hp) (r : Int32 × Hp) (hb : b_7_103   h = some r) : Rn d 7 103 [some (va_rf v0), some (.int v1)] [] h (some (.int r.1), r.2) := by
  unfold b_7_103 at hb
  refine rn_iconst (x := (-1 : Int32)) rfl (by decide) ?_
  cases hb
  exact rn_iret rfl rfl
def b_7_80 (v0 : Option Nat)  (h : Hp) : Option (Int32 × Hp) :=
  (gI 1 11 v0 h).bind fun x1 =>
  some (x1, h)
theorem u_7_80 (d : Nat) (hd : 0 ≤ d) (v0 : Option Nat) (v1 : Int32)  (h : Hp) (r : Int32 × Hp) (hb : b_7_80 v0  h = some r) : Rn d 7 80 [some (va_rf v0), some (.int v1)] [] h (some (.int r.1), r.2) := by
  unfold b_7_80 at hb
  refine rn_aload_n (i := 0) rfl rfl ?_
  refine rn_gI (c := 1) (k := 11) rfl (by decide) hb (fun x1 hb => ?_)
  cases hb
  exact rn_iret rfl rfl
def b_7_85 (v0 : Option Nat)  (h : Hp) : Option (Int32 × Hp) :=
  (gI 1 12 v0 h).bind fun x1 =>
  some (x1, h)
theorem u_7_85 (d : Nat) (hd : 0 ≤ d) (v0 : Option Nat) (v1 : Int32)  (h : Hp) (r : Int32 × Hp) (hb : b_7_85 v0  h = some r) : Rn d 7 85 [some (va_rf v0), some (.int v1)] [] h (some (.int r.1), r.2) := by
  unfold b_7_85 at hb
  refine rn_aload_n (i := 0) rfl rfl ?_
  refine rn_gI (c := 1) (k := 12) rfl (by decide) hb (fun x1 hb => ?_)
  cases hb
  exact rn_iret rfl rfl
def b_7_102  (s0 : Int32) (h : Hp) : Option (Int32 × Hp) :=
  some (s0, h)
theorem u_7_102 (d : Nat) (hd : 0 ≤ d) (v0 : Option Nat) (v1 : Int32) (s0 : Int32) (h : Hp) (r : Int32 × Hp) (hb : b_7_102  s0 h = some r) : Rn d 7 102 [some (va_rf v0), some (.int v1)] [.int s0] h (some (.int r.1), r.2) := by
  unfold b_7_102 at hb
  cases hb
  exact rn_iret rfl rfl
def b_7_101   (h : Hp) : Option (Int32 × Hp) :=
  b_7_102  (nI 0) h
theorem u_7_101 (d : Nat) (hd : 0 ≤ d) (v0 : Option Nat) (v1 : Int32)  (h : Hp) (r : Int32 × Hp) (hb : b_7_101   h = some r) : Rn d 7 101 [some (va_rf v0), some (.int v1)] [] h (some (.int r.1), r.2) := by
  unfold b_7_101 at hb
  refine rn_iconst (x := (nI 0)) rfl (by decide) ?_
  exact u_7_102 d hd v0 v1 (nI 0) h _ hb
def b_7_97   (h : Hp) : Option (Int32 × Hp) :=
  b_7_102  (nI 1) h
theorem u_7_97 (d : Nat) (hd : 0 ≤ d) (v0 : Option Nat) (v1 : Int32)  (h : Hp) (r : Int32 × Hp) (hb : b_7_97   h = some r) : Rn d 7 97 [some (va_rf v0), some (.int v1)] [] h (some (.int r.1), r.2) := by
  unfold b_7_97 at hb
  refine rn_iconst (x := (nI 1)) rfl (by decide) ?_
  refine rn_goto rfl rfl ?_
  exact u_7_102 d hd v0 v1 (nI 1) h _ hb
def b_7_90 (v0 : Option Nat)  (h : Hp) : Option (Int32 × Hp) :=
  (gI 1 13 v0 h).bind fun x1 =>
  if x1 = 0 then b_7_101   h else b_7_97   h
theorem u_7_90 (d : Nat) (hd : 0 ≤ d) (v0 : Option Nat) (v1 : Int32)  (h : Hp) (r : Int32 × Hp) (hb : b_7_90 v0  h = some r) : Rn d 7 90 [some (va_rf v0), some (.int v1)] [] h (some (.int r.1), r.2) := by
  unfold b_7_90 at hb
  refine rn_aload_n (i := 0) rfl rfl ?_
  refine rn_gI (c := 1) (k := 13) rfl (by decide) hb (fun x1 hb => ?_)
  refine rn_if_eq rfl rfl (fun hc => ?_) (fun hc => ?_)
  · exact u_7_101 d hd v0 v1  h _ (if_t hb hc)
  · exact u_7_97 d hd v0 v1  h _ (if_f hb hc)
def b_7_0 (v0 : Option Nat) (v1 : Int32)  (h : Hp) : Option (Int32 × Hp) :=
  if v1 = nI 0 then b_7_52 v0  h else if v1 = nI 1 then b_7_57 v0  h else if v1 = nI 2 then b_7_62 v0  h else if v1 = nI 3 then b_7_75 v0  h else if v1 = nI 4 then b_7_103   h else if v1 = nI 5 then b_7_103   h else if v1 = nI 6 then b_7_80 v0  h else if v1 = nI 7 then b_7_85 v0  h else if v1 = nI 8 then b_7_90 v0  h else b_7_103   h
theorem u_7_0 (d : Nat) (hd : 0 ≤ d) (v0 : Option Nat) (v1 : Int32)  (h : Hp) (r : Int32 × Hp) (hb : b_7_0 v0 v1  h = some r) : Rn d 7 0 [some (va_rf v0), some (.int v1)] [] h (some (.int r.1), r.2) := by
  unfold b_7_0 at hb
  refine rn_iload_n (i := 1) rfl rfl ?_
  by_cases hc0 : v1 = nI 0
  · rw [if_pos hc0] at hb; refine rn_tsw (t := 52) rfl (by rw [hc0]; decide) ?_; exact u_7_52 d hd v0 v1  h _ hb
  rw [if_neg hc0] at hb
  by_cases hc1 : v1 = nI 1
  · rw [if_pos hc1] at hb; refine rn_tsw (t := 57) rfl (by rw [hc1]; decide) ?_; exact u_7_57 d hd v0 v1  h _ hb
  rw [if_neg hc1] at hb
  by_cases hc2 : v1 = nI 2
  · rw [if_pos hc2] at hb; refine rn_tsw (t := 62) rfl (by rw [hc2]; decide) ?_; exact u_7_62 d hd v0 v1  h _ hb
  rw [if_neg hc2] at hb
  by_cases hc3 : v1 = nI 3
  · rw [if_pos hc3] at hb; refine rn_tsw (t := 75) rfl (by rw [hc3]; decide) ?_; exact u_7_75 d hd v0 v1  h _ hb
  rw [if_neg hc3] at hb
  by_cases hc4 : v1 = nI 4
  · rw [if_pos hc4] at hb; refine rn_tsw (t := 103) rfl (by rw [hc4]; decide) ?_; exact u_7_103 d hd v0 v1  h _ hb
  rw [if_neg hc4] at hb
  by_cases hc5 : v1 = nI 5
  · rw [if_pos hc5] at hb; refine rn_tsw (t := 103) rfl (by rw [hc5]; decide) ?_; exact u_7_103 d hd v0 v1  h _ hb
  rw [if_neg hc5] at hb
  by_cases hc6 : v1 = nI 6
  · rw [if_pos hc6] at hb; refine rn_tsw (t := 80) rfl (by rw [hc6]; decide) ?_; exact u_7_80 d hd v0 v1  h _ hb
  rw [if_neg hc6] at hb
  by_cases hc7 : v1 = nI 7
  · rw [if_pos hc7] at hb; refine rn_tsw (t := 85) rfl (by rw [hc7]; decide) ?_; exact u_7_85 d hd v0 v1  h _ hb
  rw [if_neg hc7] at hb
  by_cases hc8 : v1 = nI 8
  · rw [if_pos hc8] at hb; refine rn_tsw (t := 90) rfl (by rw [hc8]; decide) ?_; exact u_7_90 d hd v0 v1  h _ hb
  rw [if_neg hc8] at hb
  have z0 := sw_ne hc0 (by decide)
  have z1 := sw_ne hc1 (by decide)
  have z2 := sw_ne hc2 (by decide)
  have z3 := sw_ne hc3 (by decide)
  have z4 := sw_ne hc4 (by decide)
  have z5 := sw_ne hc5 (by decide)
  have z6 := sw_ne hc6 (by decide)
  have z7 := sw_ne hc7 (by decide)
  have z8 := sw_ne hc8 (by decide)
  refine rn_tsw (t := 103) rfl (swT_d (by omega) rfl) ?_
  exact u_7_103 d hd v0 v1  h _ hb
/-- BitingDoors$Door.told(I)I -/
def f_7 (v0 : Option Nat) (v1 : Int32) (h : Hp) : Option (Int32 × Hp) := b_7_0 v0 v1 h
theorem t_7 (d : Nat) (hd : 0 ≤ d) (v0 : Option Nat) (v1 : Int32) (h : Hp) (r : Int32 × Hp) (hb : f_7 v0 v1 h = some r) : Rn d 7 0 [some (va_rf v0), some (.int v1)] [] h (some (.int r.1), r.2) := by
  unfold f_7 at hb
  exact u_7_0 d hd v0 v1 h r hb
def b_52_17  (s0 : Int32) (h : Hp) : Option (Int32 × Hp) :=
  (grd (decide (s0 = 0 ∨ s0 = 1))).bind fun _ => some (s0, h)
theorem u_52_17 (d : Nat) (hd : 0 ≤ d) (v0 : Option Nat) (v1 : Int32) (s0 : Int32) (h : Hp) (r : Int32 × Hp) (hb : b_52_17  s0 h = some r) : Rn d 52 17 [some (va_rf v0), some (.int v1)] [.int s0] h (some (.int r.1), r.2) := by
  unfold b_52_17 at hb
  obtain ⟨hz, hb⟩ := grd_spec hb
  cases hb
  exact rn_zret rfl rfl (of_decide_eq_true hz)
def b_52_16   (h : Hp) : Option (Int32 × Hp) :=
  b_52_17  (nI 0) h
theorem u_52_16 (d : Nat) (hd : 0 ≤ d) (v0 : Option Nat) (v1 : Int32)  (h : Hp) (r : Int32 × Hp) (hb : b_52_16   h = some r) : Rn d 52 16 [some (va_rf v0), some (.int v1)] [] h (some (.int r.1), r.2) := by
  unfold b_52_16 at hb
  refine rn_iconst (x := (nI 0)) rfl (by decide) ?_
  exact u_52_17 d hd v0 v1 (nI 0) h _ hb
def b_52_12   (h : Hp) : Option (Int32 × Hp) :=
  b_52_17  (nI 1) h
theorem u_52_12 (d : Nat) (hd : 0 ≤ d) (v0 : Option Nat) (v1 : Int32)  (h : Hp) (r : Int32 × Hp) (hb : b_52_12   h = some r) : Rn d 52 12 [some (va_rf v0), some (.int v1)] [] h (some (.int r.1), r.2) := by
  unfold b_52_12 at hb
  refine rn_iconst (x := (nI 1)) rfl (by decide) ?_
  refine rn_goto rfl rfl ?_
  exact u_52_17 d hd v0 v1 (nI 1) h _ hb
def b_52_4 (v0 : Option Nat) (v1 : Int32)  (h : Hp) : Option (Int32 × Hp) :=
  (gI 4 5 v0 h).bind fun x1 =>
  if x1 ≤ v1 then b_52_16   h else b_52_12   h
theorem u_52_4 (d : Nat) (hd : 0 ≤ d) (v0 : Option Nat) (v1 : Int32)  (h : Hp) (r : Int32 × Hp) (hb : b_52_4 v0 v1  h = some r) : Rn d 52 4 [some (va_rf v0), some (.int v1)] [] h (some (.int r.1), r.2) := by
  unfold b_52_4 at hb
  refine rn_iload_n (i := 1) rfl rfl ?_
  refine rn_aload_n (i := 0) rfl rfl ?_
  refine rn_gI (c := 4) (k := 5) rfl (by decide) hb (fun x1 hb => ?_)
  refine rn_icmp_ge rfl rfl (fun hc => ?_) (fun hc => ?_)
  · exact u_52_16 d hd v0 v1  h _ (if_t hb hc)
  · exact u_52_12 d hd v0 v1  h _ (if_f hb hc)
def b_52_0 (v0 : Option Nat) (v1 : Int32)  (h : Hp) : Option (Int32 × Hp) :=
  if v1 < 0 then b_52_16   h else b_52_4 v0 v1  h
theorem u_52_0 (d : Nat) (hd : 0 ≤ d) (v0 : Option Nat) (v1 : Int32)  (h : Hp) (r : Int32 × Hp) (hb : b_52_0 v0 v1  h = some r) : Rn d 52 0 [some (va_rf v0), some (.int v1)] [] h (some (.int r.1), r.2) := by
  unfold b_52_0 at hb
  refine rn_iload_n (i := 1) rfl rfl ?_
  refine rn_if_lt rfl rfl (fun hc => ?_) (fun hc => ?_)
  · exact u_52_16 d hd v0 v1  h _ (if_t hb hc)
  · exact u_52_4 d hd v0 v1  h _ (if_f hb hc)
/-- BitingDoors$House.hasDoor(I)Z -/
def f_52 (v0 : Option Nat) (v1 : Int32) (h : Hp) : Option (Int32 × Hp) := b_52_0 v0 v1 h
theorem t_52 (d : Nat) (hd : 0 ≤ d) (v0 : Option Nat) (v1 : Int32) (h : Hp) (r : Int32 × Hp) (hb : f_52 v0 v1 h = some r) : Rn d 52 0 [some (va_rf v0), some (.int v1)] [] h (some (.int r.1), r.2) := by
  unfold f_52 at hb
  exact u_52_0 d hd v0 v1 h r hb
def b_178_39   (h : Hp) : Option (Hp) :=
  some h
theorem u_178_39 (d : Nat) (hd : 0 ≤ d) (v0 : Option Nat) (v1 : Int32) (v2 : Int32)  (h : Hp) (r : Hp) (hb : b_178_39   h = some r) : Rn d 178 39 [some (va_rf v0), some (.int v1), some (.int v2)] [] h (none, r) := by
  unfold b_178_39 at hb
  cases hb
  exact rn_vret rfl rfl
def b_178_7 (k3 : Option Nat → Int32 → Int32 → Hp → Option (Hp)) (v0 : Option Nat) (v1 : Int32) (v2 : Int32)  (h : Hp) : Option (Hp) :=
  (gQ 11 1 v0 h).bind fun x1 =>
  (gI 11 2 v0 h).bind fun x2 =>
  (wI x1 x2 (((v1.toUInt32 >>> (v2.toUInt32 &&& Int32.toUInt32 31)).toInt32) &&& (nI 255)) h).bind fun h3 =>
  (gI 11 2 v0 h3).bind fun x4 =>
  (pI 11 2 v0 (x4 + (nI 1)) h3).bind fun h5 =>
  bnd (v2 + (-8 : Int32)) fun x6 =>
  k3 v0 v1 x6 h5
theorem u_178_7 (d : Nat) (hd : 0 ≤ d) (k3 : Option Nat → Int32 → Int32 → Hp → Option (Hp)) (K3 : ∀ (v0 : Option Nat) (v1 : Int32) (v2 : Int32) (h : Hp) (r : Hp), k3 v0 v1 v2 h = some r → Rn d 178 3 [some (va_rf v0), some (.int v1), some (.int v2)] [] h (none, r)) (v0 : Option Nat) (v1 : Int32) (v2 : Int32)  (h : Hp) (r : Hp) (hb : b_178_7 k3 v0 v1 v2  h = some r) : Rn d 178 7 [some (va_rf v0), some (.int v1), some (.int v2)] [] h (none, r) := by
  unfold b_178_7 at hb
  refine rn_aload_n (i := 0) rfl rfl ?_
  refine rn_gQ (c := 11) (k := 1) rfl (by decide) hb (fun x1 hb => ?_)
  refine rn_aload_n (i := 0) rfl rfl ?_
  refine rn_gI (c := 11) (k := 2) rfl (by decide) hb (fun x2 hb => ?_)
  refine rn_iload_n (i := 1) rfl rfl ?_
  refine rn_iload_n (i := 2) rfl rfl ?_
  refine rn_iushr rfl ?_
  refine rn_sipush (x := (nI 255)) rfl (by decide) ?_
  refine rn_iand rfl ?_
  refine rn_wI rfl hb (fun h3 hb => ?_)
  refine rn_aload_n (i := 0) rfl rfl ?_
  refine rn_dup rfl (bd_cat_rf _) ?_
  refine rn_gI (c := 11) (k := 2) rfl (by decide) hb (fun x4 hb => ?_)
  refine rn_iconst (x := (nI 1)) rfl (by decide) ?_
  refine rn_iadd rfl ?_
  refine rn_pI (c := 11) (k := 2) rfl (by decide) hb (fun h5 hb => ?_)
  obtain ⟨x6, ex6, hb⟩ := bnd_spec hb
  refine rn_iinc (i := 2) (y := x6) (L1 := [some (va_rf v0), some (.int v1), some (.int x6)]) rfl rfl (Nat.le_of_ble_eq_true rfl) (Or.inr rfl) (by rw [ex6]; rfl) rfl ?_
  refine rn_goto rfl rfl ?_
  exact K3 v0 v1 x6 h5 _ hb
def b_178_3 (k3 : Option Nat → Int32 → Int32 → Hp → Option (Hp)) (v0 : Option Nat) (v1 : Int32) (v2 : Int32)  (h : Hp) : Option (Hp) :=
  if v2 < 0 then b_178_39   h else b_178_7 k3 v0 v1 v2  h
theorem u_178_3 (d : Nat) (hd : 0 ≤ d) (k3 : Option Nat → Int32 → Int32 → Hp → Option (Hp)) (K3 : ∀ (v0 : Option Nat) (v1 : Int32) (v2 : Int32) (h : Hp) (r : Hp), k3 v0 v1 v2 h = some r → Rn d 178 3 [some (va_rf v0), some (.int v1), some (.int v2)] [] h (none, r)) (v0 : Option Nat) (v1 : Int32) (v2 : Int32)  (h : Hp) (r : Hp) (hb : b_178_3 k3 v0 v1 v2  h = some r) : Rn d 178 3 [some (va_rf v0), some (.int v1), some (.int v2)] [] h (none, r) := by
  unfold b_178_3 at hb
  refine rn_iload_n (i := 2) rfl rfl ?_
  refine rn_if_lt rfl rfl (fun hc => ?_) (fun hc => ?_)
  · exact u_178_39 d hd v0 v1 v2  h _ (if_t hb hc)
  · exact u_178_7 d hd k3 K3 v0 v1 v2  h _ (if_f hb hc)
def l_178_3 : Nat → Option Nat → Int32 → Int32 → Hp → Option (Hp)
  | 0, _, _, _, _ => none
  | n + 1, v0, v1, v2, h => b_178_3 (l_178_3 n) v0 v1 v2 h
theorem w_178_3 (d : Nat) (hd : 0 ≤ d) : ∀ (n : Nat) (v0 : Option Nat) (v1 : Int32) (v2 : Int32) (h : Hp) (r : Hp), l_178_3 n v0 v1 v2 h = some r → Rn d 178 3 [some (va_rf v0), some (.int v1), some (.int v2)] [] h (none, r) := by
  intro n
  induction n with
  | zero => intro v0 v1 v2 h r hb; cases hb
  | succ n ih => intro v0 v1 v2 h r hb; exact u_178_3 d hd (l_178_3 n) ih v0 v1 v2 h r hb
def b_178_0 (v0 : Option Nat) (v1 : Int32)  (h : Hp) : Option (Hp) :=
  bnd ((nI 24)) fun x1 =>
  l_178_3 FU v0 v1 x1 h
theorem u_178_0 (d : Nat) (hd : 0 ≤ d) (v0 : Option Nat) (v1 : Int32)  (h : Hp) (r : Hp) (hb : b_178_0 v0 v1  h = some r) : Rn d 178 0 [some (va_rf v0), some (.int v1), none] [] h (none, r) := by
  unfold b_178_0 at hb
  refine rn_bipush (x := (nI 24)) rfl (by decide) ?_
  obtain ⟨x1, ex1, hb⟩ := bnd_spec hb
  refine rn_istore_n (i := 2) (L1 := [some (va_rf v0), some (.int v1), some (.int x1)]) rfl (Nat.le_of_ble_eq_true rfl) (Or.inr rfl) (by rw [ex1]; rfl) ?_
  exact w_178_3 d hd FU v0 v1 x1 h _ hb
/-- BitingDoorsModel.come(I)V -/
def f_178 (v0 : Option Nat) (v1 : Int32) (h : Hp) : Option (Hp) := b_178_0 v0 v1 h
theorem t_178 (d : Nat) (hd : 0 ≤ d) (v0 : Option Nat) (v1 : Int32) (h : Hp) (r : Hp) (hb : f_178 v0 v1 h = some r) : Rn d 178 0 [some (va_rf v0), some (.int v1), none] [] h (none, r) := by
  unfold f_178 at hb
  exact u_178_0 d hd v0 v1 h r hb
def b_182_15  (s0 : Int32) (h : Hp) : Option (Int32 × Hp) :=
  (grd (decide (s0 = 0 ∨ s0 = 1))).bind fun _ => some (s0, h)
theorem u_182_15 (d : Nat) (hd : 0 ≤ d) (v0 : Int32) (v1 : Int32) (v2 : Int32) (s0 : Int32) (h : Hp) (r : Int32 × Hp) (hb : b_182_15  s0 h = some r) : Rn d 182 15 [some (.int v0), some (.int v1), some (.int v2)] [.int s0] h (some (.int r.1), r.2) := by
  unfold b_182_15 at hb
  obtain ⟨hz, hb⟩ := grd_spec hb
  cases hb
  exact rn_zret rfl rfl (of_decide_eq_true hz)
def b_182_14   (h : Hp) : Option (Int32 × Hp) :=
  b_182_15  (nI 0) h
theorem u_182_14 (d : Nat) (hd : 0 ≤ d) (v0 : Int32) (v1 : Int32) (v2 : Int32)  (h : Hp) (r : Int32 × Hp) (hb : b_182_14   h = some r) : Rn d 182 14 [some (.int v0), some (.int v1), some (.int v2)] [] h (some (.int r.1), r.2) := by
  unfold b_182_14 at hb
  refine rn_iconst (x := (nI 0)) rfl (by decide) ?_
  exact u_182_15 d hd v0 v1 v2 (nI 0) h _ hb
def b_182_10   (h : Hp) : Option (Int32 × Hp) :=
  b_182_15  (nI 1) h
theorem u_182_10 (d : Nat) (hd : 0 ≤ d) (v0 : Int32) (v1 : Int32) (v2 : Int32)  (h : Hp) (r : Int32 × Hp) (hb : b_182_10   h = some r) : Rn d 182 10 [some (.int v0), some (.int v1), some (.int v2)] [] h (some (.int r.1), r.2) := by
  unfold b_182_10 at hb
  refine rn_iconst (x := (nI 1)) rfl (by decide) ?_
  refine rn_goto rfl rfl ?_
  exact u_182_15 d hd v0 v1 v2 (nI 1) h _ hb
def b_182_5 (v0 : Int32) (v2 : Int32)  (h : Hp) : Option (Int32 × Hp) :=
  if v2 < v0 then b_182_14   h else b_182_10   h
theorem u_182_5 (d : Nat) (hd : 0 ≤ d) (v0 : Int32) (v1 : Int32) (v2 : Int32)  (h : Hp) (r : Int32 × Hp) (hb : b_182_5 v0 v2  h = some r) : Rn d 182 5 [some (.int v0), some (.int v1), some (.int v2)] [] h (some (.int r.1), r.2) := by
  unfold b_182_5 at hb
  refine rn_iload_n (i := 0) rfl rfl ?_
  refine rn_iload_n (i := 2) rfl rfl ?_
  refine rn_icmp_gt rfl rfl (fun hc => ?_) (fun hc => ?_)
  · exact u_182_14 d hd v0 v1 v2  h _ (if_t hb hc)
  · exact u_182_10 d hd v0 v1 v2  h _ (if_f hb hc)
def b_182_0 (v0 : Int32) (v1 : Int32) (v2 : Int32)  (h : Hp) : Option (Int32 × Hp) :=
  if v0 < v1 then b_182_14   h else b_182_5 v0 v2  h
theorem u_182_0 (d : Nat) (hd : 0 ≤ d) (v0 : Int32) (v1 : Int32) (v2 : Int32)  (h : Hp) (r : Int32 × Hp) (hb : b_182_0 v0 v1 v2  h = some r) : Rn d 182 0 [some (.int v0), some (.int v1), some (.int v2)] [] h (some (.int r.1), r.2) := by
  unfold b_182_0 at hb
  refine rn_iload_n (i := 0) rfl rfl ?_
  refine rn_iload_n (i := 1) rfl rfl ?_
  refine rn_icmp_lt rfl rfl (fun hc => ?_) (fun hc => ?_)
  · exact u_182_14 d hd v0 v1 v2  h _ (if_t hb hc)
  · exact u_182_5 d hd v0 v1 v2  h _ (if_f hb hc)
/-- BitingDoorsModel.isIn(III)Z -/
def f_182 (v0 : Int32) (v1 : Int32) (v2 : Int32) (h : Hp) : Option (Int32 × Hp) := b_182_0 v0 v1 v2 h
theorem t_182 (d : Nat) (hd : 0 ≤ d) (v0 : Int32) (v1 : Int32) (v2 : Int32) (h : Hp) (r : Int32 × Hp) (hb : f_182 v0 v1 v2 h = some r) : Rn d 182 0 [some (.int v0), some (.int v1), some (.int v2)] [] h (some (.int r.1), r.2) := by
  unfold f_182 at hb
  exact u_182_0 d hd v0 v1 v2 h r hb
