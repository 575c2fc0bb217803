def b_0_0 (v0 : Option Nat)  (h : Hp) : Option (Hp) :=
  (grd v0.isSome).bind fun _ =>
  (nA 12 (nI 60) h).bind fun h1 =>
  (pQ 0 0 v0 (some (hN h)) h1).bind fun h2 =>
  (nA 12 (nI 60) h2).bind fun h3 =>
  (pQ 0 1 v0 (some (hN h2)) h3).bind fun h4 =>
  some h4
theorem u_0_0 (d : Nat) (hd : 0 ≤ d) (v0 : Option Nat)  (h : Hp) (r : Hp) (hb : b_0_0 v0  h = some r) : Rn d 0 0 [some (va_rf v0)] [] h (none, r) := by
  unfold b_0_0 at hb
  refine rn_aload_n (i := 0) rfl rfl ?_
  obtain ⟨hq, hb⟩ := grd_spec hb
  refine rn_oinit rfl hq (by decide) ?_
  refine rn_aload_n (i := 0) rfl rfl ?_
  refine rn_bipush (x := (nI 60)) rfl (by decide) ?_
  refine rn_newarray rfl hb (fun h1 hb => ?_)
  refine rn_pQ (c := 0) (k := 0) rfl (by decide) hb (fun h2 hb => ?_)
  refine rn_aload_n (i := 0) rfl rfl ?_
  refine rn_bipush (x := (nI 60)) rfl (by decide) ?_
  refine rn_newarray rfl hb (fun h3 hb => ?_)
  refine rn_pQ (c := 0) (k := 1) rfl (by decide) hb (fun h4 hb => ?_)
  obtain rfl := Option.some.inj hb
  exact rn_vret rfl rfl
/-- BitingDoors$Day.<init>()V -/
def f_0 (v0 : Option Nat) (h : Hp) : Option (Hp) := b_0_0 v0 h
theorem t_0 (d : Nat) (hd : 0 ≤ d) (v0 : Option Nat) (h : Hp) (r : Hp) (hb : f_0 v0 h = some r) : Rn d 0 0 [some (va_rf v0)] [] h (none, r) := by
  unfold f_0 at hb
  exact u_0_0 d hd v0 h r hb
def b_118_151   (h : Hp) : Option (Hp) :=
  some h
theorem u_118_151 (d : Nat) (hd : 0 ≤ d) (v0 : Option Nat) (v1 : Int32) (v2 : Int32) (v3 : Option (Int32))  (h : Hp) (r : Hp) (hb : b_118_151   h = some r) : Rn d 118 151 [some (va_rf v0), some (.int v1), some (.int v2), v3.map Value.int] [] h (none, r) := by
  unfold b_118_151 at hb
  obtain rfl := Option.some.inj hb
  exact rn_vret rfl rfl
def b_118_148  (s0 : Option Nat) (s1 : Int32) (h : Hp) : Option (Hp) :=
  (pI 9 2 s0 s1 h).bind fun h1 =>
  b_118_151   h1
theorem u_118_148 (d : Nat) (hd : 0 ≤ d) (v0 : Option Nat) (v1 : Int32) (v2 : Int32) (v3 : Option (Int32)) (s0 : Option Nat) (s1 : Int32) (h : Hp) (r : Hp) (hb : b_118_148  s0 s1 h = some r) : Rn d 118 148 [some (va_rf v0), some (.int v1), some (.int v2), v3.map Value.int] [.int s1, va_rf s0] h (none, r) := by
  unfold b_118_148 at hb
  refine rn_pI (c := 9) (k := 2) rfl (by decide) hb (fun h1 hb => ?_)
  exact u_118_151 d hd v0 v1 v2 v3  h1 _ hb
def b_118_147  (s0 : Option Nat) (h : Hp) : Option (Hp) :=
  b_118_148  s0 (nI 3) h
theorem u_118_147 (d : Nat) (hd : 0 ≤ d) (v0 : Option Nat) (v1 : Int32) (v2 : Int32) (v3 : Option (Int32)) (s0 : Option Nat) (h : Hp) (r : Hp) (hb : b_118_147  s0 h = some r) : Rn d 118 147 [some (va_rf v0), some (.int v1), some (.int v2), v3.map Value.int] [va_rf s0] h (none, r) := by
  unfold b_118_147 at hb
  refine rn_iconst (x := (nI 3)) rfl (by decide) ?_
  exact u_118_148 d hd v0 v1 v2 v3 s0 (nI 3) h _ hb
def b_118_143  (s0 : Option Nat) (h : Hp) : Option (Hp) :=
  b_118_148  s0 (nI 2) h
theorem u_118_143 (d : Nat) (hd : 0 ≤ d) (v0 : Option Nat) (v1 : Int32) (v2 : Int32) (v3 : Option (Int32)) (s0 : Option Nat) (h : Hp) (r : Hp) (hb : b_118_143  s0 h = some r) : Rn d 118 143 [some (va_rf v0), some (.int v1), some (.int v2), v3.map Value.int] [va_rf s0] h (none, r) := by
  unfold b_118_143 at hb
  refine rn_iconst (x := (nI 2)) rfl (by decide) ?_
  refine rn_goto rfl rfl ?_
  exact u_118_148 d hd v0 v1 v2 v3 s0 (nI 2) h _ hb
def b_118_138 (v2 : Int32) (s0 : Option Nat) (h : Hp) : Option (Hp) :=
  if (nI 2) < v2 then b_118_147  s0 h else b_118_143  s0 h
theorem u_118_138 (d : Nat) (hd : 0 ≤ d) (v0 : Option Nat) (v1 : Int32) (v2 : Int32) (v3 : Option (Int32)) (s0 : Option Nat) (h : Hp) (r : Hp) (hb : b_118_138 v2 s0 h = some r) : Rn d 118 138 [some (va_rf v0), some (.int v1), some (.int v2), v3.map Value.int] [va_rf s0] h (none, r) := by
  unfold b_118_138 at hb
  refine rn_iload_n (i := 2) rfl rfl ?_
  refine rn_iconst (x := (nI 2)) rfl (by decide) ?_
  refine rn_icmp_gt rfl rfl (fun hc => ?_) (fun hc => ?_)
  · exact u_118_147 d hd v0 v1 v2 v3 s0 h _ (if_t hb hc)
  · exact u_118_143 d hd v0 v1 v2 v3 s0 h _ (if_f hb hc)
def b_118_133 (v0 : Option Nat) (v1 : Int32) (v2 : Int32)  (h : Hp) : Option (Hp) :=
  if ¬ v1 = 0 then b_118_147  v0 h else b_118_138 v2 v0 h
theorem u_118_133 (d : Nat) (hd : 0 ≤ d) (v0 : Option Nat) (v1 : Int32) (v2 : Int32) (v3 : Option (Int32))  (h : Hp) (r : Hp) (hb : b_118_133 v0 v1 v2  h = some r) : Rn d 118 133 [some (va_rf v0), some (.int v1), some (.int v2), v3.map Value.int] [] h (none, r) := by
  unfold b_118_133 at hb
  refine rn_aload_n (i := 0) rfl rfl ?_
  refine rn_iload_n (i := 1) rfl rfl ?_
  refine rn_if_ne rfl rfl (fun hc => ?_) (fun hc => ?_)
  · exact u_118_147 d hd v0 v1 v2 v3 v0 h _ (if_t hb hc)
  · exact u_118_138 d hd v0 v1 v2 v3 v0 h _ (if_f hb hc)
def b_118_125 (v0 : Option Nat)  (h : Hp) : Option (Hp) :=
  (pI 9 2 v0 (nI 1) h).bind fun h1 =>
  b_118_151   h1
theorem u_118_125 (d : Nat) (hd : 0 ≤ d) (v0 : Option Nat) (v1 : Int32) (v2 : Int32) (v3 : Option (Int32))  (h : Hp) (r : Hp) (hb : b_118_125 v0  h = some r) : Rn d 118 125 [some (va_rf v0), some (.int v1), some (.int v2), v3.map Value.int] [] h (none, r) := by
  unfold b_118_125 at hb
  refine rn_aload_n (i := 0) rfl rfl ?_
  refine rn_iconst (x := (nI 1)) rfl (by decide) ?_
  refine rn_pI (c := 9) (k := 2) rfl (by decide) hb (fun h1 hb => ?_)
  refine rn_goto rfl rfl ?_
  exact u_118_151 d hd v0 v1 v2 v3  h1 _ hb
def b_118_119 (v0 : Option Nat) (v1 : Int32) (v2 : Int32)  (h : Hp) : Option (Hp) :=
  if (nI 10) < v1 then b_118_133 v0 v1 v2  h else b_118_125 v0  h
theorem u_118_119 (d : Nat) (hd : 0 ≤ d) (v0 : Option Nat) (v1 : Int32) (v2 : Int32) (v3 : Option (Int32))  (h : Hp) (r : Hp) (hb : b_118_119 v0 v1 v2  h = some r) : Rn d 118 119 [some (va_rf v0), some (.int v1), some (.int v2), v3.map Value.int] [] h (none, r) := by
  unfold b_118_119 at hb
  refine rn_iload_n (i := 1) rfl rfl ?_
  refine rn_bipush (x := (nI 10)) rfl (by decide) ?_
  refine rn_icmp_gt rfl rfl (fun hc => ?_) (fun hc => ?_)
  · exact u_118_133 d hd v0 v1 v2 v3  h _ (if_t hb hc)
  · exact u_118_125 d hd v0 v1 v2 v3  h _ (if_f hb hc)
def b_118_115 (v0 : Option Nat) (v1 : Int32) (v2 : Int32)  (h : Hp) : Option (Hp) :=
  if ¬ v2 = 0 then b_118_133 v0 v1 v2  h else b_118_119 v0 v1 v2  h
theorem u_118_115 (d : Nat) (hd : 0 ≤ d) (v0 : Option Nat) (v1 : Int32) (v2 : Int32) (v3 : Option (Int32))  (h : Hp) (r : Hp) (hb : b_118_115 v0 v1 v2  h = some r) : Rn d 118 115 [some (va_rf v0), some (.int v1), some (.int v2), v3.map Value.int] [] h (none, r) := by
  unfold b_118_115 at hb
  refine rn_iload_n (i := 2) rfl rfl ?_
  refine rn_if_ne rfl rfl (fun hc => ?_) (fun hc => ?_)
  · exact u_118_133 d hd v0 v1 v2 v3  h _ (if_t hb hc)
  · exact u_118_119 d hd v0 v1 v2 v3  h _ (if_f hb hc)
def b_118_102 (k14 : Option Nat → Int32 → Int32 → Hp → Option (Hp)) (v0 : Option Nat) (v1 : Int32) (v2 : Int32)  (h : Hp) : Option (Hp) :=
  (gI 9 9 v0 h).bind fun x1 =>
  (pI 9 9 v0 (x1 + (nI 1)) h).bind fun h2 =>
  k14 v0 v1 v2 h2
theorem u_118_102 (d : Nat) (hd : 0 ≤ d) (k14 : Option Nat → Int32 → Int32 → Hp → Option (Hp)) (K14 : ∀ (v0 : Option Nat) (v1 : Int32) (v2 : Int32) (v3 : Option (Int32)) (h : Hp) (r : Hp), k14 v0 v1 v2 h = some r → Rn d 118 14 [some (va_rf v0), some (.int v1), some (.int v2), v3.map Value.int] [] h (none, r)) (v0 : Option Nat) (v1 : Int32) (v2 : Int32) (v3 : Int32)  (h : Hp) (r : Hp) (hb : b_118_102 k14 v0 v1 v2  h = some r) : Rn d 118 102 [some (va_rf v0), some (.int v1), some (.int v2), some (.int v3)] [] h (none, r) := by
  unfold b_118_102 at hb
  refine rn_aload_n (i := 0) rfl rfl ?_
  refine rn_dup rfl (bd_cat_rf _) ?_
  refine rn_gI (c := 9) (k := 9) rfl (by decide) hb (fun x1 hb => ?_)
  refine rn_iconst (x := (nI 1)) rfl (by decide) ?_
  refine rn_iadd rfl ?_
  refine rn_pI (c := 9) (k := 9) rfl (by decide) hb (fun h2 hb => ?_)
  refine rn_goto rfl rfl ?_
  exact K14 v0 v1 v2 (some v3) h2 _ hb
def b_118_83 (k14 : Option Nat → Int32 → Int32 → Hp → Option (Hp)) (v0 : Option Nat) (v1 : Int32) (v2 : Int32) (v3 : Int32)  (h : Hp) : Option (Hp) :=
  bnd (v2 + (nI 1)) fun x1 =>
  (gI 9 4 v0 h).bind fun x2 =>
  (pI 9 4 v0 (((nI 10) * x2) + (v3 - (nI 48))) h).bind fun h3 =>
  b_118_102 k14 v0 v1 x1  h3
theorem u_118_83 (d : Nat) (hd : 0 ≤ d) (k14 : Option Nat → Int32 → Int32 → Hp → Option (Hp)) (K14 : ∀ (v0 : Option Nat) (v1 : Int32) (v2 : Int32) (v3 : Option (Int32)) (h : Hp) (r : Hp), k14 v0 v1 v2 h = some r → Rn d 118 14 [some (va_rf v0), some (.int v1), some (.int v2), v3.map Value.int] [] h (none, r)) (v0 : Option Nat) (v1 : Int32) (v2 : Int32) (v3 : Int32)  (h : Hp) (r : Hp) (hb : b_118_83 k14 v0 v1 v2 v3  h = some r) : Rn d 118 83 [some (va_rf v0), some (.int v1), some (.int v2), some (.int v3)] [] h (none, r) := by
  unfold b_118_83 at hb
  obtain ⟨x1, ex1, hb⟩ := bnd_spec hb
  refine rn_iinc (i := 2) (y := x1) (L1 := [some (va_rf v0), some (.int v1), some (.int x1), some (.int v3)]) rfl rfl (Nat.le_of_ble_eq_true rfl) (Or.inr rfl) (by rw [ex1]; rfl) rfl ?_
  refine rn_aload_n (i := 0) rfl rfl ?_
  refine rn_bipush (x := (nI 10)) rfl (by decide) ?_
  refine rn_aload_n (i := 0) rfl rfl ?_
  refine rn_gI (c := 9) (k := 4) rfl (by decide) hb (fun x2 hb => ?_)
  refine rn_imul rfl ?_
  refine rn_iload_n (i := 3) rfl rfl ?_
  refine rn_bipush (x := (nI 48)) rfl (by decide) ?_
  refine rn_isub rfl ?_
  refine rn_iadd rfl ?_
  refine rn_pI (c := 9) (k := 4) rfl (by decide) hb (fun h3 hb => ?_)
  exact u_118_102 d hd k14 K14 v0 v1 x1 v3  h3 _ hb
def b_118_77 (k14 : Option Nat → Int32 → Int32 → Hp → Option (Hp)) (v0 : Option Nat) (v1 : Int32) (v2 : Int32) (v3 : Int32)  (h : Hp) : Option (Hp) :=
  if (nI 57) < v3 then b_118_115 v0 v1 v2  h else b_118_83 k14 v0 v1 v2 v3  h
theorem u_118_77 (d : Nat) (hd : 0 ≤ d) (k14 : Option Nat → Int32 → Int32 → Hp → Option (Hp)) (K14 : ∀ (v0 : Option Nat) (v1 : Int32) (v2 : Int32) (v3 : Option (Int32)) (h : Hp) (r : Hp), k14 v0 v1 v2 h = some r → Rn d 118 14 [some (va_rf v0), some (.int v1), some (.int v2), v3.map Value.int] [] h (none, r)) (v0 : Option Nat) (v1 : Int32) (v2 : Int32) (v3 : Int32)  (h : Hp) (r : Hp) (hb : b_118_77 k14 v0 v1 v2 v3  h = some r) : Rn d 118 77 [some (va_rf v0), some (.int v1), some (.int v2), some (.int v3)] [] h (none, r) := by
  unfold b_118_77 at hb
  refine rn_iload_n (i := 3) rfl rfl ?_
  refine rn_bipush (x := (nI 57)) rfl (by decide) ?_
  refine rn_icmp_gt rfl rfl (fun hc => ?_) (fun hc => ?_)
  · exact u_118_115 d hd v0 v1 v2 (some v3)  h _ (if_t hb hc)
  · exact u_118_83 d hd k14 K14 v0 v1 v2 v3  h _ (if_f hb hc)
def b_118_71 (k14 : Option Nat → Int32 → Int32 → Hp → Option (Hp)) (v0 : Option Nat) (v1 : Int32) (v2 : Int32) (v3 : Int32)  (h : Hp) : Option (Hp) :=
  if v3 < (nI 48) then b_118_115 v0 v1 v2  h else b_118_77 k14 v0 v1 v2 v3  h
theorem u_118_71 (d : Nat) (hd : 0 ≤ d) (k14 : Option Nat → Int32 → Int32 → Hp → Option (Hp)) (K14 : ∀ (v0 : Option Nat) (v1 : Int32) (v2 : Int32) (v3 : Option (Int32)) (h : Hp) (r : Hp), k14 v0 v1 v2 h = some r → Rn d 118 14 [some (va_rf v0), some (.int v1), some (.int v2), v3.map Value.int] [] h (none, r)) (v0 : Option Nat) (v1 : Int32) (v2 : Int32) (v3 : Int32)  (h : Hp) (r : Hp) (hb : b_118_71 k14 v0 v1 v2 v3  h = some r) : Rn d 118 71 [some (va_rf v0), some (.int v1), some (.int v2), some (.int v3)] [] h (none, r) := by
  unfold b_118_71 at hb
  refine rn_iload_n (i := 3) rfl rfl ?_
  refine rn_bipush (x := (nI 48)) rfl (by decide) ?_
  refine rn_icmp_lt rfl rfl (fun hc => ?_) (fun hc => ?_)
  · exact u_118_115 d hd v0 v1 v2 (some v3)  h _ (if_t hb hc)
  · exact u_118_77 d hd k14 K14 v0 v1 v2 v3  h _ (if_f hb hc)
def b_118_47 (k14 : Option Nat → Int32 → Int32 → Hp → Option (Hp)) (v0 : Option Nat) (v1 : Int32) (v2 : Int32) (v3 : Int32)  (h : Hp) : Option (Hp) :=
  bnd (v1 + (nI 1)) fun x1 =>
  (gJ 9 5 v0 h).bind fun x2 =>
  (pJ 9 5 v0 ((x2 <<< ((nI 5).toInt64 &&& 63)) + (((v3 - (nI 97)) + (nI 1)).toInt64)) h).bind fun h3 =>
  b_118_102 k14 v0 x1 v2  h3
theorem u_118_47 (d : Nat) (hd : 0 ≤ d) (k14 : Option Nat → Int32 → Int32 → Hp → Option (Hp)) (K14 : ∀ (v0 : Option Nat) (v1 : Int32) (v2 : Int32) (v3 : Option (Int32)) (h : Hp) (r : Hp), k14 v0 v1 v2 h = some r → Rn d 118 14 [some (va_rf v0), some (.int v1), some (.int v2), v3.map Value.int] [] h (none, r)) (v0 : Option Nat) (v1 : Int32) (v2 : Int32) (v3 : Int32)  (h : Hp) (r : Hp) (hb : b_118_47 k14 v0 v1 v2 v3  h = some r) : Rn d 118 47 [some (va_rf v0), some (.int v1), some (.int v2), some (.int v3)] [] h (none, r) := by
  unfold b_118_47 at hb
  obtain ⟨x1, ex1, hb⟩ := bnd_spec hb
  refine rn_iinc (i := 1) (y := x1) (L1 := [some (va_rf v0), some (.int x1), some (.int v2), some (.int v3)]) rfl rfl (Nat.le_of_ble_eq_true rfl) (Or.inr (bd_wideR rfl)) (by rw [ex1]; rfl) rfl ?_
  refine rn_aload_n (i := 0) rfl rfl ?_
  refine rn_aload_n (i := 0) rfl rfl ?_
  refine rn_gJ (c := 9) (k := 5) rfl (by decide) hb (fun x2 hb => ?_)
  refine rn_iconst (x := (nI 5)) rfl (by decide) ?_
  refine rn_lshl rfl ?_
  refine rn_iload_n (i := 3) rfl rfl ?_
  refine rn_bipush (x := (nI 97)) rfl (by decide) ?_
  refine rn_isub rfl ?_
  refine rn_iconst (x := (nI 1)) rfl (by decide) ?_
  refine rn_iadd rfl ?_
  refine rn_i2l rfl ?_
  refine rn_ladd rfl ?_
  refine rn_pJ (c := 9) (k := 5) rfl (by decide) hb (fun h3 hb => ?_)
  refine rn_goto rfl rfl ?_
  exact u_118_102 d hd k14 K14 v0 x1 v2 v3  h3 _ hb
def b_118_41 (k14 : Option Nat → Int32 → Int32 → Hp → Option (Hp)) (v0 : Option Nat) (v1 : Int32) (v2 : Int32) (v3 : Int32)  (h : Hp) : Option (Hp) :=
  if (nI 122) < v3 then b_118_71 k14 v0 v1 v2 v3  h else b_118_47 k14 v0 v1 v2 v3  h
theorem u_118_41 (d : Nat) (hd : 0 ≤ d) (k14 : Option Nat → Int32 → Int32 → Hp → Option (Hp)) (K14 : ∀ (v0 : Option Nat) (v1 : Int32) (v2 : Int32) (v3 : Option (Int32)) (h : Hp) (r : Hp), k14 v0 v1 v2 h = some r → Rn d 118 14 [some (va_rf v0), some (.int v1), some (.int v2), v3.map Value.int] [] h (none, r)) (v0 : Option Nat) (v1 : Int32) (v2 : Int32) (v3 : Int32)  (h : Hp) (r : Hp) (hb : b_118_41 k14 v0 v1 v2 v3  h = some r) : Rn d 118 41 [some (va_rf v0), some (.int v1), some (.int v2), some (.int v3)] [] h (none, r) := by
  unfold b_118_41 at hb
  refine rn_iload_n (i := 3) rfl rfl ?_
  refine rn_bipush (x := (nI 122)) rfl (by decide) ?_
  refine rn_icmp_gt rfl rfl (fun hc => ?_) (fun hc => ?_)
  · exact u_118_71 d hd k14 K14 v0 v1 v2 v3  h _ (if_t hb hc)
  · exact u_118_47 d hd k14 K14 v0 v1 v2 v3  h _ (if_f hb hc)
def b_118_25 (k14 : Option Nat → Int32 → Int32 → Hp → Option (Hp)) (v0 : Option Nat) (v1 : Int32) (v2 : Int32)  (h : Hp) : Option (Hp) :=
  (gQ 9 0 v0 h).bind fun x1 =>
  (gI 9 9 v0 h).bind fun x2 =>
  (aI 12 x1 x2 h).bind fun x3 =>
  if x3 < (nI 97) then b_118_71 k14 v0 v1 v2 x3  h else b_118_41 k14 v0 v1 v2 x3  h
theorem u_118_25 (d : Nat) (hd : 0 ≤ d) (k14 : Option Nat → Int32 → Int32 → Hp → Option (Hp)) (K14 : ∀ (v0 : Option Nat) (v1 : Int32) (v2 : Int32) (v3 : Option (Int32)) (h : Hp) (r : Hp), k14 v0 v1 v2 h = some r → Rn d 118 14 [some (va_rf v0), some (.int v1), some (.int v2), v3.map Value.int] [] h (none, r)) (v0 : Option Nat) (v1 : Int32) (v2 : Int32) (v3 : Option (Int32))  (h : Hp) (r : Hp) (hb : b_118_25 k14 v0 v1 v2  h = some r) : Rn d 118 25 [some (va_rf v0), some (.int v1), some (.int v2), v3.map Value.int] [] h (none, r) := by
  unfold b_118_25 at hb
  refine rn_aload_n (i := 0) rfl rfl ?_
  refine rn_gQ (c := 9) (k := 0) rfl (by decide) hb (fun x1 hb => ?_)
  refine rn_aload_n (i := 0) rfl rfl ?_
  refine rn_gI (c := 9) (k := 9) rfl (by decide) hb (fun x2 hb => ?_)
  refine rn_aI rfl hb (fun x3 hb => ?_)
  refine rn_istore_n (i := 3) (L1 := [some (va_rf v0), some (.int v1), some (.int v2), some (.int x3)]) rfl (Nat.le_of_ble_eq_true rfl) (Or.inr rfl) rfl ?_
  refine rn_iload_n (i := 3) rfl rfl ?_
  refine rn_bipush (x := (nI 97)) rfl (by decide) ?_
  refine rn_icmp_lt rfl rfl (fun hc => ?_) (fun hc => ?_)
  · exact u_118_71 d hd k14 K14 v0 v1 v2 x3  h _ (if_t hb hc)
  · exact u_118_41 d hd k14 K14 v0 v1 v2 x3  h _ (if_f hb hc)
def b_118_14 (k14 : Option Nat → Int32 → Int32 → Hp → Option (Hp)) (v0 : Option Nat) (v1 : Int32) (v2 : Int32)  (h : Hp) : Option (Hp) :=
  (gI 9 9 v0 h).bind fun x1 =>
  (gI 9 1 v0 h).bind fun x2 =>
  if x2 ≤ x1 then b_118_115 v0 v1 v2  h else b_118_25 k14 v0 v1 v2  h
theorem u_118_14 (d : Nat) (hd : 0 ≤ d) (k14 : Option Nat → Int32 → Int32 → Hp → Option (Hp)) (K14 : ∀ (v0 : Option Nat) (v1 : Int32) (v2 : Int32) (v3 : Option (Int32)) (h : Hp) (r : Hp), k14 v0 v1 v2 h = some r → Rn d 118 14 [some (va_rf v0), some (.int v1), some (.int v2), v3.map Value.int] [] h (none, r)) (v0 : Option Nat) (v1 : Int32) (v2 : Int32) (v3 : Option (Int32))  (h : Hp) (r : Hp) (hb : b_118_14 k14 v0 v1 v2  h = some r) : Rn d 118 14 [some (va_rf v0), some (.int v1), some (.int v2), v3.map Value.int] [] h (none, r) := by
  unfold b_118_14 at hb
  refine rn_aload_n (i := 0) rfl rfl ?_
  refine rn_gI (c := 9) (k := 9) rfl (by decide) hb (fun x1 hb => ?_)
  refine rn_aload_n (i := 0) rfl rfl ?_
  refine rn_gI (c := 9) (k := 1) rfl (by decide) hb (fun x2 hb => ?_)
  refine rn_icmp_ge rfl rfl (fun hc => ?_) (fun hc => ?_)
  · exact u_118_115 d hd v0 v1 v2 v3  h _ (if_t hb hc)
  · exact u_118_25 d hd k14 K14 v0 v1 v2 v3  h _ (if_f hb hc)
def l_118_14 : Nat → Option Nat → Int32 → Int32 → Hp → Option (Hp)
  | 0, _, _, _, _ => none
  | n + 1, v0, v1, v2, h => b_118_14 (l_118_14 n) v0 v1 v2 h
theorem w_118_14 (d : Nat) (hd : 0 ≤ d) : ∀ (n : Nat) (v0 : Option Nat) (v1 : Int32) (v2 : Int32) (v3 : Option (Int32)) (h : Hp) (r : Hp), l_118_14 n v0 v1 v2 h = some r → Rn d 118 14 [some (va_rf v0), some (.int v1), some (.int v2), v3.map Value.int] [] h (none, r) := by
  intro n
  induction n with
  | zero => intro v0 v1 v2 v3 h r hb; cases hb
  | succ n ih => intro v0 v1 v2 v3 h r hb; exact u_118_14 d hd (l_118_14 n) ih v0 v1 v2 v3 h r hb
def b_118_0 (v0 : Option Nat)  (h : Hp) : Option (Hp) :=
  bnd ((nI 0)) fun x1 =>
  bnd ((nI 0)) fun x2 =>
  (pI 9 4 v0 (nI 0) h).bind fun h3 =>
  (pJ 9 5 v0 (lN 0) h3).bind fun h4 =>
  l_118_14 FU v0 x1 x2 h4
theorem u_118_0 (d : Nat) (hd : 0 ≤ d) (v0 : Option Nat)  (h : Hp) (r : Hp) (hb : b_118_0 v0  h = some r) : Rn d 118 0 [some (va_rf v0), none, none, none] [] h (none, r) := by
  unfold b_118_0 at hb
  refine rn_iconst (x := (nI 0)) rfl (by decide) ?_
  obtain ⟨x1, ex1, hb⟩ := bnd_spec hb
  refine rn_istore_n (i := 1) (L1 := [some (va_rf v0), some (.int x1), none, none]) rfl (Nat.le_of_ble_eq_true rfl) (Or.inr (bd_wideR rfl)) (by rw [ex1]; rfl) ?_
  refine rn_iconst (x := (nI 0)) rfl (by decide) ?_
  obtain ⟨x2, ex2, hb⟩ := bnd_spec hb
  refine rn_istore_n (i := 2) (L1 := [some (va_rf v0), some (.int x1), some (.int x2), none]) rfl (Nat.le_of_ble_eq_true rfl) (Or.inr rfl) (by rw [ex2]; rfl) ?_
  refine rn_aload_n (i := 0) rfl rfl ?_
  refine rn_iconst (x := (nI 0)) rfl (by decide) ?_
  refine rn_pI (c := 9) (k := 4) rfl (by decide) hb (fun h3 hb => ?_)
  refine rn_aload_n (i := 0) rfl rfl ?_
  refine rn_lconst (x := (lN 0)) rfl (by decide) ?_
  refine rn_pJ (c := 9) (k := 5) rfl (by decide) hb (fun h4 hb => ?_)
  exact w_118_14 d hd FU v0 x1 x2 (none : Option (Int32)) h4 _ hb
/-- BitingDoors$Text.readRun()V -/
def f_118 (v0 : Option Nat) (h : Hp) : Option (Hp) := b_118_0 v0 h
theorem t_118 (d : Nat) (hd : 0 ≤ d) (v0 : Option Nat) (h : Hp) (r : Hp) (hb : f_118 v0 h = some r) : Rn d 118 0 [some (va_rf v0), none, none, none] [] h (none, r) := by
  unfold f_118 at hb
  exact u_118_0 d hd v0 h r hb
def b_117_106  (s0 : Option Nat) (s1 : Int32) (h : Hp) : Option (Hp) :=
  (pI 9 2 s0 s1 h).bind fun h1 =>
  some h1
theorem u_117_106 (d : Nat) (hd : 1 ≤ d) (v0 : Option Nat) (s0 : Option Nat) (s1 : Int32) (h : Hp) (r : Hp) (hb : b_117_106  s0 s1 h = some r) : Rn d 117 106 [some (va_rf v0), none, none] [.int s1, va_rf s0] h (none, r) := by
  unfold b_117_106 at hb
  refine rn_pI (c := 9) (k := 2) rfl (by decide) hb (fun h1 hb => ?_)
  obtain rfl := Option.some.inj hb
  exact rn_vret rfl rfl
def b_117_105  (s0 : Option Nat) (h : Hp) : Option (Hp) :=
  b_117_106  s0 (nI 0) h
theorem u_117_105 (d : Nat) (hd : 1 ≤ d) (v0 : Option Nat) (s0 : Option Nat) (h : Hp) (r : Hp) (hb : b_117_105  s0 h = some r) : Rn d 117 105 [some (va_rf v0), none, none] [va_rf s0] h (none, r) := by
  unfold b_117_105 at hb
  refine rn_iconst (x := (nI 0)) rfl (by decide) ?_
  exact u_117_106 d hd v0 s0 (nI 0) h _ hb
def b_117_101  (s0 : Option Nat) (h : Hp) : Option (Hp) :=
  b_117_106  s0 (nI 3) h
theorem u_117_101 (d : Nat) (hd : 1 ≤ d) (v0 : Option Nat) (s0 : Option Nat) (h : Hp) (r : Hp) (hb : b_117_101  s0 h = some r) : Rn d 117 101 [some (va_rf v0), none, none] [va_rf s0] h (none, r) := by
  unfold b_117_101 at hb
  refine rn_iconst (x := (nI 3)) rfl (by decide) ?_
  refine rn_goto rfl rfl ?_
  exact u_117_106 d hd v0 s0 (nI 3) h _ hb
def b_117_74 (v0 : Option Nat)  (h : Hp) : Option (Hp) :=
  (gI 9 1 v0 h).bind fun x1 =>
  (gI 9 8 v0 h).bind fun x2 =>
  (pI 9 3 v0 (if x2 < x1 then x2 else x1) h).bind fun h3 =>
  (gI 9 1 v0 h3).bind fun x4 =>
  (gI 9 8 v0 h3).bind fun x5 =>
  if x4 ≤ x5 then b_117_105  v0 h3 else b_117_101  v0 h3
theorem u_117_74 (d : Nat) (hd : 1 ≤ d) (v0 : Option Nat)  (h : Hp) (r : Hp) (hb : b_117_74 v0  h = some r) : Rn d 117 74 [some (va_rf v0), none, none] [] h (none, r) := by
  unfold b_117_74 at hb
  refine rn_aload_n (i := 0) rfl rfl ?_
  refine rn_aload_n (i := 0) rfl rfl ?_
  refine rn_gI (c := 9) (k := 1) rfl (by decide) hb (fun x1 hb => ?_)
  refine rn_aload_n (i := 0) rfl rfl ?_
  refine rn_gI (c := 9) (k := 8) rfl (by decide) hb (fun x2 hb => ?_)
  refine rn_mm (f := fun x y => if y < x then y else x) rfl (Or.inr ⟨rfl, rfl⟩) (by rw [bd_cR (bd_cN)]; decide) ?_
  refine rn_pI (c := 9) (k := 3) rfl (by decide) hb (fun h3 hb => ?_)
  refine rn_aload_n (i := 0) rfl rfl ?_
  refine rn_aload_n (i := 0) rfl rfl ?_
  refine rn_gI (c := 9) (k := 1) rfl (by decide) hb (fun x4 hb => ?_)
  refine rn_aload_n (i := 0) rfl rfl ?_
  refine rn_gI (c := 9) (k := 8) rfl (by decide) hb (fun x5 hb => ?_)
  refine rn_icmp_le rfl rfl (fun hc => ?_) (fun hc => ?_)
  · exact u_117_105 d hd v0 v0 h3 _ (if_t hb hc)
  · exact u_117_101 d hd v0 v0 h3 _ (if_f hb hc)
def b_117_208   (h : Hp) : Option (Hp) :=
  some h
theorem u_117_208 (d : Nat) (hd : 1 ≤ d) (v0 : Option Nat) (v1 : Option (Int32)) (v2 : Option (Int32))  (h : Hp) (r : Hp) (hb : b_117_208   h = some r) : Rn d 117 208 [some (va_rf v0), v1.map Value.int, v2.map Value.int] [] h (none, r) := by
  unfold b_117_208 at hb
  obtain rfl := Option.some.inj hb
  exact rn_vret rfl rfl
def b_117_195 (v0 : Option Nat) (s0 : Option Nat) (s1 : Int32) (h : Hp) : Option (Hp) :=
  (pI 9 2 s0 s1 h).bind fun h1 =>
  (gI 9 9 v0 h1).bind fun x2 =>
  (pI 9 9 v0 (x2 + (nI 1)) h1).bind fun h3 =>
  b_117_208   h3
theorem u_117_195 (d : Nat) (hd : 1 ≤ d) (v0 : Option Nat) (v1 : Int32) (v2 : Int32) (s0 : Option Nat) (s1 : Int32) (h : Hp) (r : Hp) (hb : b_117_195 v0 s0 s1 h = some r) : Rn d 117 195 [some (va_rf v0), some (.int v1), some (.int v2)] [.int s1, va_rf s0] h (none, r) := by
  unfold b_117_195 at hb
  refine rn_pI (c := 9) (k := 2) rfl (by decide) hb (fun h1 hb => ?_)
  refine rn_aload_n (i := 0) rfl rfl ?_
  refine rn_dup rfl (bd_cat_rf _) ?_
  refine rn_gI (c := 9) (k := 9) rfl (by decide) hb (fun x2 hb => ?_)
  refine rn_iconst (x := (nI 1)) rfl (by decide) ?_
  refine rn_iadd rfl ?_
  refine rn_pI (c := 9) (k := 9) rfl (by decide) hb (fun h3 hb => ?_)
  exact u_117_208 d hd v0 (some v1) (some v2)  h3 _ hb
def b_117_194 (v0 : Option Nat) (s0 : Option Nat) (h : Hp) : Option (Hp) :=
  b_117_195 v0 s0 (nI 3) h
theorem u_117_194 (d : Nat) (hd : 1 ≤ d) (v0 : Option Nat) (v1 : Int32) (v2 : Int32) (s0 : Option Nat) (h : Hp) (r : Hp) (hb : b_117_194 v0 s0 h = some r) : Rn d 117 194 [some (va_rf v0), some (.int v1), some (.int v2)] [va_rf s0] h (none, r) := by
  unfold b_117_194 at hb
  refine rn_iconst (x := (nI 3)) rfl (by decide) ?_
  exact u_117_195 d hd v0 v1 v2 s0 (nI 3) h _ hb
def b_117_190 (v0 : Option Nat) (v1 : Int32) (s0 : Option Nat) (h : Hp) : Option (Hp) :=
  b_117_195 v0 s0 v1 h
theorem u_117_190 (d : Nat) (hd : 1 ≤ d) (v0 : Option Nat) (v1 : Int32) (v2 : Int32) (s0 : Option Nat) (h : Hp) (r : Hp) (hb : b_117_190 v0 v1 s0 h = some r) : Rn d 117 190 [some (va_rf v0), some (.int v1), some (.int v2)] [va_rf s0] h (none, r) := by
  unfold b_117_190 at hb
  refine rn_iload_n (i := 1) rfl rfl ?_
  refine rn_goto rfl rfl ?_
  exact u_117_195 d hd v0 v1 v2 s0 v1 h _ hb
def b_117_184 (v0 : Option Nat) (v1 : Int32) (s0 : Int32) (h : Hp) : Option (Hp) :=
  if s0 = 0 then b_117_194 v0 v0 h else b_117_190 v0 v1 v0 h
theorem u_117_184 (d : Nat) (hd : 1 ≤ d) (v0 : Option Nat) (v1 : Int32) (s0 : Int32) (h : Hp) (r : Hp) (hb : b_117_184 v0 v1 s0 h = some r) : Rn d 117 184 [some (va_rf v0), some (.int v1), none] [.int s0] h (none, r) := by
  unfold b_117_184 at hb
  refine rn_istore_n (i := 2) (L1 := [some (va_rf v0), some (.int v1), some (.int s0)]) rfl (Nat.le_of_ble_eq_true rfl) (Or.inr rfl) rfl ?_
  refine rn_aload_n (i := 0) rfl rfl ?_
  refine rn_iload_n (i := 2) rfl rfl ?_
  refine rn_if_eq rfl rfl (fun hc => ?_) (fun hc => ?_)
  · exact u_117_194 d hd v0 v1 s0 v0 h _ (if_t hb hc)
  · exact u_117_190 d hd v0 v1 s0 v0 h _ (if_f hb hc)
def b_117_179 (v0 : Option Nat) (v1 : Int32)  (h : Hp) : Option (Hp) :=
  b_117_184 v0 v1 (nI 1) h
theorem u_117_179 (d : Nat) (hd : 1 ≤ d) (v0 : Option Nat) (v1 : Int32)  (h : Hp) (r : Hp) (hb : b_117_179 v0 v1  h = some r) : Rn d 117 179 [some (va_rf v0), some (.int v1), none] [] h (none, r) := by
  unfold b_117_179 at hb
  refine rn_iconst (x := (nI 1)) rfl (by decide) ?_
  refine rn_goto rfl rfl ?_
  exact u_117_184 d hd v0 v1 (nI 1) h _ hb
def b_117_183 (v0 : Option Nat) (v1 : Int32)  (h : Hp) : Option (Hp) :=
  b_117_184 v0 v1 (nI 0) h
theorem u_117_183 (d : Nat) (hd : 1 ≤ d) (v0 : Option Nat) (v1 : Int32)  (h : Hp) (r : Hp) (hb : b_117_183 v0 v1  h = some r) : Rn d 117 183 [some (va_rf v0), some (.int v1), none] [] h (none, r) := by
  unfold b_117_183 at hb
  refine rn_iconst (x := (nI 0)) rfl (by decide) ?_
  exact u_117_184 d hd v0 v1 (nI 0) h _ hb
def b_117_173 (v0 : Option Nat) (v1 : Int32)  (h : Hp) : Option (Hp) :=
  if ¬ v1 = (nI 62) then b_117_183 v0 v1  h else b_117_179 v0 v1  h
theorem u_117_173 (d : Nat) (hd : 1 ≤ d) (v0 : Option Nat) (v1 : Int32)  (h : Hp) (r : Hp) (hb : b_117_173 v0 v1  h = some r) : Rn d 117 173 [some (va_rf v0), some (.int v1), none] [] h (none, r) := by
  unfold b_117_173 at hb
  refine rn_iload_n (i := 1) rfl rfl ?_
  refine rn_bipush (x := (nI 62)) rfl (by decide) ?_
  refine rn_icmp_ne rfl rfl (fun hc => ?_) (fun hc => ?_)
  · exact u_117_183 d hd v0 v1  h _ (if_t hb hc)
  · exact u_117_179 d hd v0 v1  h _ (if_f hb hc)
def b_117_167 (v0 : Option Nat) (v1 : Int32)  (h : Hp) : Option (Hp) :=
  if v1 = (nI 61) then b_117_179 v0 v1  h else b_117_173 v0 v1  h
theorem u_117_167 (d : Nat) (hd : 1 ≤ d) (v0 : Option Nat) (v1 : Int32)  (h : Hp) (r : Hp) (hb : b_117_167 v0 v1  h = some r) : Rn d 117 167 [some (va_rf v0), some (.int v1), none] [] h (none, r) := by
  unfold b_117_167 at hb
  refine rn_iload_n (i := 1) rfl rfl ?_
  refine rn_bipush (x := (nI 61)) rfl (by decide) ?_
  refine rn_icmp_eq rfl rfl (fun hc => ?_) (fun hc => ?_)
  · exact u_117_179 d hd v0 v1  h _ (if_t hb hc)
  · exact u_117_173 d hd v0 v1  h _ (if_f hb hc)
def b_117_161 (v0 : Option Nat) (v1 : Int32)  (h : Hp) : Option (Hp) :=
  if v1 = (nI 60) then b_117_179 v0 v1  h else b_117_167 v0 v1  h
theorem u_117_161 (d : Nat) (hd : 1 ≤ d) (v0 : Option Nat) (v1 : Int32)  (h : Hp) (r : Hp) (hb : b_117_161 v0 v1  h = some r) : Rn d 117 161 [some (va_rf v0), some (.int v1), none] [] h (none, r) := by
  unfold b_117_161 at hb
  refine rn_iload_n (i := 1) rfl rfl ?_
  refine rn_bipush (x := (nI 60)) rfl (by decide) ?_
  refine rn_icmp_eq rfl rfl (fun hc => ?_) (fun hc => ?_)
  · exact u_117_179 d hd v0 v1  h _ (if_t hb hc)
  · exact u_117_167 d hd v0 v1  h _ (if_f hb hc)
def b_117_155 (v0 : Option Nat) (v1 : Int32)  (h : Hp) : Option (Hp) :=
  if v1 = (nI 59) then b_117_179 v0 v1  h else b_117_161 v0 v1  h
theorem u_117_155 (d : Nat) (hd : 1 ≤ d) (v0 : Option Nat) (v1 : Int32)  (h : Hp) (r : Hp) (hb : b_117_155 v0 v1  h = some r) : Rn d 117 155 [some (va_rf v0), some (.int v1), none] [] h (none, r) := by
  unfold b_117_155 at hb
  refine rn_iload_n (i := 1) rfl rfl ?_
  refine rn_bipush (x := (nI 59)) rfl (by decide) ?_
  refine rn_icmp_eq rfl rfl (fun hc => ?_) (fun hc => ?_)
  · exact u_117_179 d hd v0 v1  h _ (if_t hb hc)
  · exact u_117_161 d hd v0 v1  h _ (if_f hb hc)
def b_117_149 (v0 : Option Nat) (v1 : Int32)  (h : Hp) : Option (Hp) :=
  if v1 = (nI 41) then b_117_179 v0 v1  h else b_117_155 v0 v1  h
theorem u_117_149 (d : Nat) (hd : 1 ≤ d) (v0 : Option Nat) (v1 : Int32)  (h : Hp) (r : Hp) (hb : b_117_149 v0 v1  h = some r) : Rn d 117 149 [some (va_rf v0), some (.int v1), none] [] h (none, r) := by
  unfold b_117_149 at hb
  refine rn_iload_n (i := 1) rfl rfl ?_
  refine rn_bipush (x := (nI 41)) rfl (by decide) ?_
  refine rn_icmp_eq rfl rfl (fun hc => ?_) (fun hc => ?_)
  · exact u_117_179 d hd v0 v1  h _ (if_t hb hc)
  · exact u_117_155 d hd v0 v1  h _ (if_f hb hc)
def b_117_133 (v0 : Option Nat)  (h : Hp) : Option (Hp) :=
  (gQ 9 0 v0 h).bind fun x1 =>
  (gI 9 9 v0 h).bind fun x2 =>
  (aI 12 x1 x2 h).bind fun x3 =>
  if x3 = (nI 40) then b_117_179 v0 x3  h else b_117_149 v0 x3  h
theorem u_117_133 (d : Nat) (hd : 1 ≤ d) (v0 : Option Nat)  (h : Hp) (r : Hp) (hb : b_117_133 v0  h = some r) : Rn d 117 133 [some (va_rf v0), none, none] [] h (none, r) := by
  unfold b_117_133 at hb
  refine rn_aload_n (i := 0) rfl rfl ?_
  refine rn_gQ (c := 9) (k := 0) rfl (by decide) hb (fun x1 hb => ?_)
  refine rn_aload_n (i := 0) rfl rfl ?_
  refine rn_gI (c := 9) (k := 9) rfl (by decide) hb (fun x2 hb => ?_)
  refine rn_aI rfl hb (fun x3 hb => ?_)
  refine rn_istore_n (i := 1) (L1 := [some (va_rf v0), some (.int x3), none]) rfl (Nat.le_of_ble_eq_true rfl) (Or.inr (bd_wideR rfl)) rfl ?_
  refine rn_iload_n (i := 1) rfl rfl ?_
  refine rn_bipush (x := (nI 40)) rfl (by decide) ?_
  refine rn_icmp_eq rfl rfl (fun hc => ?_) (fun hc => ?_)
  · exact u_117_179 d hd v0 x3  h _ (if_t hb hc)
  · exact u_117_149 d hd v0 x3  h _ (if_f hb hc)
def b_117_110 (v0 : Option Nat)  (h : Hp) : Option (Hp) :=
  (gI 9 9 v0 h).bind fun x1 =>
  (pI 9 3 v0 x1 h).bind fun h2 =>
  (grd (rC 9 v0 h2)).bind fun _ =>
  (f_118 v0 h2).bind fun p3 =>
  (gI 9 9 v0 p3).bind fun x4 =>
  (gI 9 3 v0 p3).bind fun x5 =>
  if ¬ x4 = x5 then b_117_208   p3 else b_117_133 v0  p3
theorem u_117_110 (d : Nat) (hd : 1 ≤ d) (v0 : Option Nat)  (h : Hp) (r : Hp) (hb : b_117_110 v0  h = some r) : Rn d 117 110 [some (va_rf v0), none, none] [] h (none, r) := by
  unfold b_117_110 at hb
  obtain ⟨e, rfl⟩ : ∃ e, d = e + 1 := ⟨d - 1, by omega⟩
  refine rn_aload_n (i := 0) rfl rfl ?_
  refine rn_aload_n (i := 0) rfl rfl ?_
  refine rn_gI (c := 9) (k := 9) rfl (by decide) hb (fun x1 hb => ?_)
  refine rn_pI (c := 9) (k := 3) rfl (by decide) hb (fun h2 hb => ?_)
  refine rn_aload_n (i := 0) rfl rfl ?_
  obtain ⟨hrc, hb⟩ := grd_spec hb
  obtain ⟨p3, hc, hb⟩ := Option.bind_eq_some_iff.mp hb
  refine Rn.call0 (d := e) (As := [va_rf v0]) (rest := []) rfl rfl rfl (by decide) rfl rfl rfl (bd_rcV hrc rfl) (by decide) (bd_lenC (n := 4) rfl (bd_slR bd_slN) rfl) (bd_locC (n := 4) rfl (bd_slR bd_slN) rfl (t_118 e (by omega) v0 h2 _ hc)) ?_
  refine rn_aload_n (i := 0) rfl rfl ?_
  refine rn_gI (c := 9) (k := 9) rfl (by decide) hb (fun x4 hb => ?_)
  refine rn_aload_n (i := 0) rfl rfl ?_
  refine rn_gI (c := 9) (k := 3) rfl (by decide) hb (fun x5 hb => ?_)
  refine rn_icmp_ne rfl rfl (fun hc => ?_) (fun hc => ?_)
  · exact u_117_208 (e + 1) hd v0 (none : Option (Int32)) (none : Option (Int32))  p3 _ (if_t hb hc)
  · exact u_117_133 (e + 1) hd v0  p3 _ (if_f hb hc)
def b_117_63 (v0 : Option Nat)  (h : Hp) : Option (Hp) :=
  (gI 9 9 v0 h).bind fun x1 =>
  (gI 9 8 v0 h).bind fun x2 =>
  if x1 < x2 then b_117_110 v0  h else b_117_74 v0  h
theorem u_117_63 (d : Nat) (hd : 1 ≤ d) (v0 : Option Nat)  (h : Hp) (r : Hp) (hb : b_117_63 v0  h = some r) : Rn d 117 63 [some (va_rf v0), none, none] [] h (none, r) := by
  unfold b_117_63 at hb
  refine rn_aload_n (i := 0) rfl rfl ?_
  refine rn_gI (c := 9) (k := 9) rfl (by decide) hb (fun x1 hb => ?_)
  refine rn_aload_n (i := 0) rfl rfl ?_
  refine rn_gI (c := 9) (k := 8) rfl (by decide) hb (fun x2 hb => ?_)
  refine rn_icmp_lt rfl rfl (fun hc => ?_) (fun hc => ?_)
  · exact u_117_110 d hd v0  h _ (if_t hb hc)
  · exact u_117_74 d hd v0  h _ (if_f hb hc)
def b_117_52 (v0 : Option Nat)  (h : Hp) : Option (Hp) :=
  (gI 9 9 v0 h).bind fun x1 =>
  (gI 9 1 v0 h).bind fun x2 =>
  if x2 ≤ x1 then b_117_74 v0  h else b_117_63 v0  h
theorem u_117_52 (d : Nat) (hd : 1 ≤ d) (v0 : Option Nat)  (h : Hp) (r : Hp) (hb : b_117_52 v0  h = some r) : Rn d 117 52 [some (va_rf v0), none, none] [] h (none, r) := by
  unfold b_117_52 at hb
  refine rn_aload_n (i := 0) rfl rfl ?_
  refine rn_gI (c := 9) (k := 9) rfl (by decide) hb (fun x1 hb => ?_)
  refine rn_aload_n (i := 0) rfl rfl ?_
  refine rn_gI (c := 9) (k := 1) rfl (by decide) hb (fun x2 hb => ?_)
  refine rn_icmp_ge rfl rfl (fun hc => ?_) (fun hc => ?_)
  · exact u_117_74 d hd v0  h _ (if_t hb hc)
  · exact u_117_63 d hd v0  h _ (if_f hb hc)
def b_117_39 (k0 : Option Nat → Hp → Option (Hp)) (v0 : Option Nat)  (h : Hp) : Option (Hp) :=
  (gI 9 9 v0 h).bind fun x1 =>
  (pI 9 9 v0 (x1 + (nI 1)) h).bind fun h2 =>
  k0 v0 h2
theorem u_117_39 (d : Nat) (hd : 1 ≤ d) (k0 : Option Nat → Hp → Option (Hp)) (K0 : ∀ (v0 : Option Nat) (h : Hp) (r : Hp), k0 v0 h = some r → Rn d 117 0 [some (va_rf v0), none, none] [] h (none, r)) (v0 : Option Nat)  (h : Hp) (r : Hp) (hb : b_117_39 k0 v0  h = some r) : Rn d 117 39 [some (va_rf v0), none, none] [] h (none, r) := by
  unfold b_117_39 at hb
  refine rn_aload_n (i := 0) rfl rfl ?_
  refine rn_dup rfl (bd_cat_rf _) ?_
  refine rn_gI (c := 9) (k := 9) rfl (by decide) hb (fun x1 hb => ?_)
  refine rn_iconst (x := (nI 1)) rfl (by decide) ?_
  refine rn_iadd rfl ?_
  refine rn_pI (c := 9) (k := 9) rfl (by decide) hb (fun h2 hb => ?_)
  refine rn_goto rfl rfl ?_
  exact K0 v0 h2 _ hb
def b_117_25 (k0 : Option Nat → Hp → Option (Hp)) (v0 : Option Nat)  (h : Hp) : Option (Hp) :=
  (gQ 9 0 v0 h).bind fun x1 =>
  (gI 9 9 v0 h).bind fun x2 =>
  (aI 12 x1 x2 h).bind fun x3 =>
  if ¬ x3 = (nI 10) then b_117_52 v0  h else b_117_39 k0 v0  h
theorem u_117_25 (d : Nat) (hd : 1 ≤ d) (k0 : Option Nat → Hp → Option (Hp)) (K0 : ∀ (v0 : Option Nat) (h : Hp) (r : Hp), k0 v0 h = some r → Rn d 117 0 [some (va_rf v0), none, none] [] h (none, r)) (v0 : Option Nat)  (h : Hp) (r : Hp) (hb : b_117_25 k0 v0  h = some r) : Rn d 117 25 [some (va_rf v0), none, none] [] h (none, r) := by
  unfold b_117_25 at hb
  refine rn_aload_n (i := 0) rfl rfl ?_
  refine rn_gQ (c := 9) (k := 0) rfl (by decide) hb (fun x1 hb => ?_)
  refine rn_aload_n (i := 0) rfl rfl ?_
  refine rn_gI (c := 9) (k := 9) rfl (by decide) hb (fun x2 hb => ?_)
  refine rn_aI rfl hb (fun x3 hb => ?_)
  refine rn_bipush (x := (nI 10)) rfl (by decide) ?_
  refine rn_icmp_ne rfl rfl (fun hc => ?_) (fun hc => ?_)
  · exact u_117_52 d hd v0  h _ (if_t hb hc)
  · exact u_117_39 d hd k0 K0 v0  h _ (if_f hb hc)
def b_117_11 (k0 : Option Nat → Hp → Option (Hp)) (v0 : Option Nat)  (h : Hp) : Option (Hp) :=
  (gQ 9 0 v0 h).bind fun x1 =>
  (gI 9 9 v0 h).bind fun x2 =>
  (aI 12 x1 x2 h).bind fun x3 =>
  if x3 = (nI 32) then b_117_39 k0 v0  h else b_117_25 k0 v0  h
theorem u_117_11 (d : Nat) (hd : 1 ≤ d) (k0 : Option Nat → Hp → Option (Hp)) (K0 : ∀ (v0 : Option Nat) (h : Hp) (r : Hp), k0 v0 h = some r → Rn d 117 0 [some (va_rf v0), none, none] [] h (none, r)) (v0 : Option Nat)  (h : Hp) (r : Hp) (hb : b_117_11 k0 v0  h = some r) : Rn d 117 11 [some (va_rf v0), none, none] [] h (none, r) := by
  unfold b_117_11 at hb
  refine rn_aload_n (i := 0) rfl rfl ?_
  refine rn_gQ (c := 9) (k := 0) rfl (by decide) hb (fun x1 hb => ?_)
  refine rn_aload_n (i := 0) rfl rfl ?_
  refine rn_gI (c := 9) (k := 9) rfl (by decide) hb (fun x2 hb => ?_)
  refine rn_aI rfl hb (fun x3 hb => ?_)
  refine rn_bipush (x := (nI 32)) rfl (by decide) ?_
  refine rn_icmp_eq rfl rfl (fun hc => ?_) (fun hc => ?_)
  · exact u_117_39 d hd k0 K0 v0  h _ (if_t hb hc)
  · exact u_117_25 d hd k0 K0 v0  h _ (if_f hb hc)
def b_117_0 (k0 : Option Nat → Hp → Option (Hp)) (v0 : Option Nat)  (h : Hp) : Option (Hp) :=
  (gI 9 9 v0 h).bind fun x1 =>
  (gI 9 1 v0 h).bind fun x2 =>
  if x2 ≤ x1 then b_117_52 v0  h else b_117_11 k0 v0  h
theorem u_117_0 (d : Nat) (hd : 1 ≤ d) (k0 : Option Nat → Hp → Option (Hp)) (K0 : ∀ (v0 : Option Nat) (h : Hp) (r : Hp), k0 v0 h = some r → Rn d 117 0 [some (va_rf v0), none, none] [] h (none, r)) (v0 : Option Nat)  (h : Hp) (r : Hp) (hb : b_117_0 k0 v0  h = some r) : Rn d 117 0 [some (va_rf v0), none, none] [] h (none, r) := by
  unfold b_117_0 at hb
  refine rn_aload_n (i := 0) rfl rfl ?_
  refine rn_gI (c := 9) (k := 9) rfl (by decide) hb (fun x1 hb => ?_)
  refine rn_aload_n (i := 0) rfl rfl ?_
  refine rn_gI (c := 9) (k := 1) rfl (by decide) hb (fun x2 hb => ?_)
  refine rn_icmp_ge rfl rfl (fun hc => ?_) (fun hc => ?_)
  · exact u_117_52 d hd v0  h _ (if_t hb hc)
  · exact u_117_11 d hd k0 K0 v0  h _ (if_f hb hc)
def l_117_0 : Nat → Option Nat → Hp → Option (Hp)
  | 0, _, _ => none
  | n + 1, v0, h => b_117_0 (l_117_0 n) v0 h
theorem w_117_0 (d : Nat) (hd : 1 ≤ d) : ∀ (n : Nat) (v0 : Option Nat) (h : Hp) (r : Hp), l_117_0 n v0 h = some r → Rn d 117 0 [some (va_rf v0), none, none] [] h (none, r) := by
  intro n
  induction n with
  | zero => intro v0 h r hb; cases hb
  | succ n ih => intro v0 h r hb; exact u_117_0 d hd (l_117_0 n) ih v0 h r hb
/-- BitingDoors$Text.step()V -/
def f_117 (v0 : Option Nat) (h : Hp) : Option (Hp) := l_117_0 FU v0 h
theorem t_117 (d : Nat) (hd : 1 ≤ d) (v0 : Option Nat) (h : Hp) (r : Hp) (hb : f_117 v0 h = some r) : Rn d 117 0 [some (va_rf v0), none, none] [] h (none, r) := by
  unfold f_117 at hb
  exact w_117_0 d hd FU v0 h r hb
def b_128_31   (h : Hp) : Option (Int32 × Hp) :=
  (grd (decide ((nI 0) = 0 ∨ (nI 0) = 1))).bind fun _ => some ((nI 0), h)
theorem u_128_31 (d : Nat) (hd : 0 ≤ d) (v0 : Int64) (v2 : Int32)  (h : Hp) (r : Int32 × Hp) (hb : b_128_31   h = some r) : Rn d 128 31 [some (.long v0), none, some (.int v2)] [] h (some (.int r.1), r.2) := by
  unfold b_128_31 at hb
  refine rn_iconst (x := (nI 0)) rfl (by decide) ?_
  obtain ⟨hz, hb⟩ := grd_spec hb
  obtain rfl := Option.some.inj hb
  exact rn_zret rfl rfl (of_decide_eq_true hz)
def b_128_25 (k2 : Int64 → Int32 → Hp → Option (Int32 × Hp)) (v0 : Int64) (v2 : Int32)  (h : Hp) : Option (Int32 × Hp) :=
  bnd (v2 + (nI 1)) fun x1 =>
  k2 v0 x1 h
theorem u_128_25 (d : Nat) (hd : 0 ≤ d) (k2 : Int64 → Int32 → Hp → Option (Int32 × Hp)) (K2 : ∀ (v0 : Int64) (v2 : Int32) (h : Hp) (r : Int32 × Hp), k2 v0 v2 h = some r → Rn d 128 2 [some (.long v0), none, some (.int v2)] [] h (some (.int r.1), r.2)) (v0 : Int64) (v2 : Int32)  (h : Hp) (r : Int32 × Hp) (hb : b_128_25 k2 v0 v2  h = some r) : Rn d 128 25 [some (.long v0), none, some (.int v2)] [] h (some (.int r.1), r.2) := by
  unfold b_128_25 at hb
  obtain ⟨x1, ex1, hb⟩ := bnd_spec hb
  refine rn_iinc (i := 2) (y := x1) (L1 := [some (.long v0), none, some (.int x1)]) rfl rfl (Nat.le_of_ble_eq_true rfl) (Or.inr rfl) (by rw [ex1]; rfl) rfl ?_
  refine rn_goto rfl rfl ?_
  exact K2 v0 x1 h _ hb
def b_128_23   (h : Hp) : Option (Int32 × Hp) :=
  (grd (decide ((nI 1) = 0 ∨ (nI 1) = 1))).bind fun _ => some ((nI 1), h)
theorem u_128_23 (d : Nat) (hd : 0 ≤ d) (v0 : Int64) (v2 : Int32)  (h : Hp) (r : Int32 × Hp) (hb : b_128_23   h = some r) : Rn d 128 23 [some (.long v0), none, some (.int v2)] [] h (some (.int r.1), r.2) := by
  unfold b_128_23 at hb
  refine rn_iconst (x := (nI 1)) rfl (by decide) ?_
  obtain ⟨hz, hb⟩ := grd_spec hb
  obtain rfl := Option.some.inj hb
  exact rn_zret rfl rfl (of_decide_eq_true hz)
def b_128_10 (k2 : Int64 → Int32 → Hp → Option (Int32 × Hp)) (v0 : Int64) (v2 : Int32)  (h : Hp) : Option (Int32 × Hp) :=
  (aQ (some 26) v2 h).bind fun x1 =>
  (gJ 19 0 x1 h).bind fun x2 =>
  if ¬ (lg_cmp x2 v0) = 0 then b_128_25 k2 v0 v2  h else b_128_23   h
theorem u_128_10 (d : Nat) (hd : 0 ≤ d) (k2 : Int64 → Int32 → Hp → Option (Int32 × Hp)) (K2 : ∀ (v0 : Int64) (v2 : Int32) (h : Hp) (r : Int32 × Hp), k2 v0 v2 h = some r → Rn d 128 2 [some (.long v0), none, some (.int v2)] [] h (some (.int r.1), r.2)) (v0 : Int64) (v2 : Int32)  (h : Hp) (r : Int32 × Hp) (hb : b_128_10 k2 v0 v2  h = some r) : Rn d 128 10 [some (.long v0), none, some (.int v2)] [] h (some (.int r.1), r.2) := by
  unfold b_128_10 at hb
  refine rn_getstatic rfl ?_
  refine rn_iload_n (i := 2) rfl rfl ?_
  refine rn_aQ rfl hb (fun x1 hb => ?_)
  refine rn_gJ (c := 19) (k := 0) rfl (by decide) hb (fun x2 hb => ?_)
  refine rn_lload_n (i := 0) rfl rfl ?_
  refine rn_lcmp rfl ?_
  refine rn_if_ne rfl rfl (fun hc => ?_) (fun hc => ?_)
  · exact u_128_25 d hd k2 K2 v0 v2  h _ (if_t hb hc)
  · exact u_128_23 d hd v0 v2  h _ (if_f hb hc)
def b_128_2 (k2 : Int64 → Int32 → Hp → Option (Int32 × Hp)) (v0 : Int64) (v2 : Int32)  (h : Hp) : Option (Int32 × Hp) :=
  (aL (some 26) h).bind fun x1 =>
  if x1 ≤ v2 then b_128_31   h else b_128_10 k2 v0 v2  h
theorem u_128_2 (d : Nat) (hd : 0 ≤ d) (k2 : Int64 → Int32 → Hp → Option (Int32 × Hp)) (K2 : ∀ (v0 : Int64) (v2 : Int32) (h : Hp) (r : Int32 × Hp), k2 v0 v2 h = some r → Rn d 128 2 [some (.long v0), none, some (.int v2)] [] h (some (.int r.1), r.2)) (v0 : Int64) (v2 : Int32)  (h : Hp) (r : Int32 × Hp) (hb : b_128_2 k2 v0 v2  h = some r) : Rn d 128 2 [some (.long v0), none, some (.int v2)] [] h (some (.int r.1), r.2) := by
  unfold b_128_2 at hb
  refine rn_iload_n (i := 2) rfl rfl ?_
  refine rn_getstatic rfl ?_
  refine rn_aL rfl hb (fun x1 hb => ?_)
  refine rn_icmp_ge rfl rfl (fun hc => ?_) (fun hc => ?_)
  · exact u_128_31 d hd v0 v2  h _ (if_t hb hc)
  · exact u_128_10 d hd k2 K2 v0 v2  h _ (if_f hb hc)
def l_128_2 : Nat → Int64 → Int32 → Hp → Option (Int32 × Hp)
  | 0, _, _, _ => none
  | n + 1, v0, v2, h => b_128_2 (l_128_2 n) v0 v2 h
theorem w_128_2 (d : Nat) (hd : 0 ≤ d) : ∀ (n : Nat) (v0 : Int64) (v2 : Int32) (h : Hp) (r : Int32 × Hp), l_128_2 n v0 v2 h = some r → Rn d 128 2 [some (.long v0), none, some (.int v2)] [] h (some (.int r.1), r.2) := by
  intro n
  induction n with
  | zero => intro v0 v2 h r hb; cases hb
  | succ n ih => intro v0 v2 h r hb; exact u_128_2 d hd (l_128_2 n) ih v0 v2 h r hb
def b_128_0 (v0 : Int64)  (h : Hp) : Option (Int32 × Hp) :=
  bnd ((nI 0)) fun x1 =>
  l_128_2 FU v0 x1 h
theorem u_128_0 (d : Nat) (hd : 0 ≤ d) (v0 : Int64)  (h : Hp) (r : Int32 × Hp) (hb : b_128_0 v0  h = some r) : Rn d 128 0 [some (.long v0), none, none] [] h (some (.int r.1), r.2) := by
  unfold b_128_0 at hb
  refine rn_iconst (x := (nI 0)) rfl (by decide) ?_
  obtain ⟨x1, ex1, hb⟩ := bnd_spec hb
  refine rn_istore_n (i := 2) (L1 := [some (.long v0), none, some (.int x1)]) rfl (Nat.le_of_ble_eq_true rfl) (Or.inr rfl) (by rw [ex1]; rfl) ?_
  exact w_128_2 d hd FU v0 x1 h _ hb
/-- BitingDoors$Word.isTaken(J)Z -/
def f_128 (v0 : Int64) (h : Hp) : Option (Int32 × Hp) := b_128_0 v0 h
theorem t_128 (d : Nat) (hd : 0 ≤ d) (v0 : Int64) (h : Hp) (r : Int32 × Hp) (hb : f_128 v0 h = some r) : Rn d 128 0 [some (.long v0), none, none] [] h (some (.int r.1), r.2) := by
  unfold f_128 at hb
  exact u_128_0 d hd v0 h r hb
def b_126_27  (s0 : Int32) (h : Hp) : Option (Int32 × Hp) :=
  some (s0, h)
theorem u_126_27 (d : Nat) (hd : 0 ≤ d) (v0 : Int32) (s0 : Int32) (h : Hp) (r : Int32 × Hp) (hb : b_126_27  s0 h = some r) : Rn d 126 27 [some (.int v0)] [.int s0] h (some (.int r.1), r.2) := by
  unfold b_126_27 at hb
  obtain rfl := Option.some.inj hb
  exact rn_iret rfl rfl
def b_126_26   (h : Hp) : Option (Int32 × Hp) :=
  b_126_27  (-1 : Int32) h
theorem u_126_26 (d : Nat) (hd : 0 ≤ d) (v0 : Int32)  (h : Hp) (r : Int32 × Hp) (hb : b_126_26   h = some r) : Rn d 126 26 [some (.int v0)] [] h (some (.int r.1), r.2) := by
  unfold b_126_26 at hb
  refine rn_iconst (x := (-1 : Int32)) rfl (by decide) ?_
  exact u_126_27 d hd v0 (-1 : Int32) h _ hb
def b_126_22   (h : Hp) : Option (Int32 × Hp) :=
  b_126_27  (nI 2) h
theorem u_126_22 (d : Nat) (hd : 0 ≤ d) (v0 : Int32)  (h : Hp) (r : Int32 × Hp) (hb : b_126_22   h = some r) : Rn d 126 22 [some (.int v0)] [] h (some (.int r.1), r.2) := by
  unfold b_126_22 at hb
  refine rn_iconst (x := (nI 2)) rfl (by decide) ?_
  refine rn_goto rfl rfl ?_
  exact u_126_27 d hd v0 (nI 2) h _ hb
def b_126_16 (v0 : Int32)  (h : Hp) : Option (Int32 × Hp) :=
  if ¬ v0 = (nI 116) then b_126_26   h else b_126_22   h
theorem u_126_16 (d : Nat) (hd : 0 ≤ d) (v0 : Int32)  (h : Hp) (r : Int32 × Hp) (hb : b_126_16 v0  h = some r) : Rn d 126 16 [some (.int v0)] [] h (some (.int r.1), r.2) := by
  unfold b_126_16 at hb
  refine rn_iload_n (i := 0) rfl rfl ?_
  refine rn_bipush (x := (nI 116)) rfl (by decide) ?_
  refine rn_icmp_ne rfl rfl (fun hc => ?_) (fun hc => ?_)
  · exact u_126_26 d hd v0  h _ (if_t hb hc)
  · exact u_126_22 d hd v0  h _ (if_f hb hc)
def b_126_14   (h : Hp) : Option (Int32 × Hp) :=
  some ((nI 0), h)
theorem u_126_14 (d : Nat) (hd : 0 ≤ d) (v0 : Int32)  (h : Hp) (r : Int32 × Hp) (hb : b_126_14   h = some r) : Rn d 126 14 [some (.int v0)] [] h (some (.int r.1), r.2) := by
  unfold b_126_14 at hb
  refine rn_iconst (x := (nI 0)) rfl (by decide) ?_
  obtain rfl := Option.some.inj hb
  exact rn_iret rfl rfl
def b_126_8 (v0 : Int32)  (h : Hp) : Option (Int32 × Hp) :=
  if ¬ v0 = (nI 102) then b_126_16 v0  h else b_126_14   h
theorem u_126_8 (d : Nat) (hd : 0 ≤ d) (v0 : Int32)  (h : Hp) (r : Int32 × Hp) (hb : b_126_8 v0  h = some r) : Rn d 126 8 [some (.int v0)] [] h (some (.int r.1), r.2) := by
  unfold b_126_8 at hb
  refine rn_iload_n (i := 0) rfl rfl ?_
  refine rn_bipush (x := (nI 102)) rfl (by decide) ?_
  refine rn_icmp_ne rfl rfl (fun hc => ?_) (fun hc => ?_)
  · exact u_126_16 d hd v0  h _ (if_t hb hc)
  · exact u_126_14 d hd v0  h _ (if_f hb hc)
def b_126_6   (h : Hp) : Option (Int32 × Hp) :=
  some ((nI 1), h)
theorem u_126_6 (d : Nat) (hd : 0 ≤ d) (v0 : Int32)  (h : Hp) (r : Int32 × Hp) (hb : b_126_6   h = some r) : Rn d 126 6 [some (.int v0)] [] h (some (.int r.1), r.2) := by
  unfold b_126_6 at hb
  refine rn_iconst (x := (nI 1)) rfl (by decide) ?_
  obtain rfl := Option.some.inj hb
  exact rn_iret rfl rfl
def b_126_0 (v0 : Int32)  (h : Hp) : Option (Int32 × Hp) :=
  if ¬ v0 = (nI 119) then b_126_8 v0  h else b_126_6   h
theorem u_126_0 (d : Nat) (hd : 0 ≤ d) (v0 : Int32)  (h : Hp) (r : Int32 × Hp) (hb : b_126_0 v0  h = some r) : Rn d 126 0 [some (.int v0)] [] h (some (.int r.1), r.2) := by
  unfold b_126_0 at hb
  refine rn_iload_n (i := 0) rfl rfl ?_
  refine rn_bipush (x := (nI 119)) rfl (by decide) ?_
  refine rn_icmp_ne rfl rfl (fun hc => ?_) (fun hc => ?_)
  · exact u_126_8 d hd v0  h _ (if_t hb hc)
  · exact u_126_6 d hd v0  h _ (if_f hb hc)
/-- BitingDoors$Text.cellOf(I)I -/
def f_126 (v0 : Int32) (h : Hp) : Option (Int32 × Hp) := b_126_0 v0 h
theorem t_126 (d : Nat) (hd : 0 ≤ d) (v0 : Int32) (h : Hp) (r : Int32 × Hp) (hb : f_126 v0 h = some r) : Rn d 126 0 [some (.int v0)] [] h (some (.int r.1), r.2) := by
  unfold f_126 at hb
  exact u_126_0 d hd v0 h r hb
def b_121_71  (s0 : Int32) (h : Hp) : Option (Int32 × Hp) :=
  (grd (decide (s0 = 0 ∨ s0 = 1))).bind fun _ => some (s0, h)
theorem u_121_71 (d : Nat) (hd : 1 ≤ d) (v0 : Option Nat) (v1 : Int32) (v2 : Int32) (s0 : Int32) (h : Hp) (r : Int32 × Hp) (hb : b_121_71  s0 h = some r) : Rn d 121 71 [some (va_rf v0), some (.int v1), some (.int v2)] [.int s0] h (some (.int r.1), r.2) := by
  unfold b_121_71 at hb
  obtain ⟨hz, hb⟩ := grd_spec hb
  obtain rfl := Option.some.inj hb
  exact rn_zret rfl rfl (of_decide_eq_true hz)
def b_121_70   (h : Hp) : Option (Int32 × Hp) :=
  b_121_71  (nI 0) h
theorem u_121_70 (d : Nat) (hd : 1 ≤ d) (v0 : Option Nat) (v1 : Int32) (v2 : Int32)  (h : Hp) (r : Int32 × Hp) (hb : b_121_70   h = some r) : Rn d 121 70 [some (va_rf v0), some (.int v1), some (.int v2)] [] h (some (.int r.1), r.2) := by
  unfold b_121_70 at hb
  refine rn_iconst (x := (nI 0)) rfl (by decide) ?_
  exact u_121_71 d hd v0 v1 v2 (nI 0) h _ hb
def b_121_66   (h : Hp) : Option (Int32 × Hp) :=
  b_121_71  (nI 1) h
theorem u_121_66 (d : Nat) (hd : 1 ≤ d) (v0 : Option Nat) (v1 : Int32) (v2 : Int32)  (h : Hp) (r : Int32 × Hp) (hb : b_121_66   h = some r) : Rn d 121 66 [some (va_rf v0), some (.int v1), some (.int v2)] [] h (some (.int r.1), r.2) := by
  unfold b_121_66 at hb
  refine rn_iconst (x := (nI 1)) rfl (by decide) ?_
  refine rn_goto rfl rfl ?_
  exact u_121_71 d hd v0 v1 v2 (nI 1) h _ hb
def b_121_56 (v0 : Option Nat)  (h : Hp) : Option (Int32 × Hp) :=
  (gJ 9 5 v0 h).bind fun x1 =>
  (f_128 x1 h).bind fun p2 =>
  if ¬ p2.1 = 0 then b_121_70   p2.2 else b_121_66   p2.2
theorem u_121_56 (d : Nat) (hd : 1 ≤ d) (v0 : Option Nat) (v1 : Int32) (v2 : Int32)  (h : Hp) (r : Int32 × Hp) (hb : b_121_56 v0  h = some r) : Rn d 121 56 [some (va_rf v0), some (.int v1), some (.int v2)] [] h (some (.int r.1), r.2) := by
  unfold b_121_56 at hb
  obtain ⟨e, rfl⟩ : ∃ e, d = e + 1 := ⟨d - 1, by omega⟩
  refine rn_aload_n (i := 0) rfl rfl ?_
  refine rn_gJ (c := 9) (k := 5) rfl (by decide) hb (fun x1 hb => ?_)
  obtain ⟨p2, hc, hb⟩ := Option.bind_eq_some_iff.mp hb
  refine Rn.call1 (d := e) (As := [.long x1]) (rest := []) rfl rfl rfl (by decide) rfl rfl rfl rfl (by decide) (bd_lenC (n := 3) rfl (bd_slJ bd_slN) rfl) (bd_locC (n := 3) rfl (bd_slJ bd_slN) rfl (t_128 e (by omega) x1 h _ hc)) ?_
  refine rn_if_ne rfl rfl (fun hc => ?_) (fun hc => ?_)
  · exact u_121_70 (e + 1) hd v0 v1 v2  p2.2 _ (if_t hb hc)
  · exact u_121_66 (e + 1) hd v0 v1 v2  p2.2 _ (if_f hb hc)
def b_121_52 (v0 : Option Nat) (v1 : Int32)  (h : Hp) : Option (Int32 × Hp) :=
  if ¬ v1 = 0 then b_121_70   h else b_121_56 v0  h
theorem u_121_52 (d : Nat) (hd : 1 ≤ d) (v0 : Option Nat) (v1 : Int32) (v2 : Int32)  (h : Hp) (r : Int32 × Hp) (hb : b_121_52 v0 v1  h = some r) : Rn d 121 52 [some (va_rf v0), some (.int v1), some (.int v2)] [] h (some (.int r.1), r.2) := by
  unfold b_121_52 at hb
  refine rn_iload_n (i := 1) rfl rfl ?_
  refine rn_if_ne rfl rfl (fun hc => ?_) (fun hc => ?_)
  · exact u_121_70 d hd v0 v1 v2  h _ (if_t hb hc)
  · exact u_121_56 d hd v0 v1 v2  h _ (if_f hb hc)
def b_121_44 (v0 : Option Nat) (v1 : Int32)  (h : Hp) : Option (Int32 × Hp) :=
  (gI 9 2 v0 h).bind fun x1 =>
  if ¬ x1 = (nI 1) then b_121_70   h else b_121_52 v0 v1  h
theorem u_121_44 (d : Nat) (hd : 1 ≤ d) (v0 : Option Nat) (v1 : Int32) (v2 : Int32)  (h : Hp) (r : Int32 × Hp) (hb : b_121_44 v0 v1  h = some r) : Rn d 121 44 [some (va_rf v0), some (.int v1), some (.int v2)] [] h (some (.int r.1), r.2) := by
  unfold b_121_44 at hb
  refine rn_aload_n (i := 0) rfl rfl ?_
  refine rn_gI (c := 9) (k := 2) rfl (by decide) hb (fun x1 hb => ?_)
  refine rn_iconst (x := (nI 1)) rfl (by decide) ?_
  refine rn_icmp_ne rfl rfl (fun hc => ?_) (fun hc => ?_)
  · exact u_121_70 d hd v0 v1 v2  h _ (if_t hb hc)
  · exact u_121_52 d hd v0 v1 v2  h _ (if_f hb hc)
def b_121_37 (k7 : Option Nat → Int32 → Int32 → Hp → Option (Int32 × Hp)) (v0 : Option Nat) (v2 : Int32) (s0 : Int32) (h : Hp) : Option (Int32 × Hp) :=
  bnd (v2 + (nI 1)) fun x1 =>
  k7 v0 s0 x1 h
theorem u_121_37 (d : Nat) (hd : 1 ≤ d) (k7 : Option Nat → Int32 → Int32 → Hp → Option (Int32 × Hp)) (K7 : ∀ (v0 : Option Nat) (v1 : Int32) (v2 : Int32) (h : Hp) (r : Int32 × Hp), k7 v0 v1 v2 h = some r → Rn d 121 7 [some (va_rf v0), some (.int v1), some (.int v2)] [] h (some (.int r.1), r.2)) (v0 : Option Nat) (v1 : Int32) (v2 : Int32) (s0 : Int32) (h : Hp) (r : Int32 × Hp) (hb : b_121_37 k7 v0 v2 s0 h = some r) : Rn d 121 37 [some (va_rf v0), some (.int v1), some (.int v2)] [.int s0] h (some (.int r.1), r.2) := by
  unfold b_121_37 at hb
  refine rn_istore_n (i := 1) (L1 := [some (va_rf v0), some (.int s0), some (.int v2)]) rfl (Nat.le_of_ble_eq_true rfl) (Or.inr (bd_wideR rfl)) rfl ?_
  obtain ⟨x1, ex1, hb⟩ := bnd_spec hb
  refine rn_iinc (i := 2) (y := x1) (L1 := [some (va_rf v0), some (.int s0), some (.int x1)]) rfl rfl (Nat.le_of_ble_eq_true rfl) (Or.inr rfl) (by rw [ex1]; rfl) rfl ?_
  refine rn_goto rfl rfl ?_
  exact K7 v0 s0 x1 h _ hb
def b_121_36 (k7 : Option Nat → Int32 → Int32 → Hp → Option (Int32 × Hp)) (v0 : Option Nat) (v2 : Int32)  (h : Hp) : Option (Int32 × Hp) :=
  b_121_37 k7 v0 v2 (nI 0) h
theorem u_121_36 (d : Nat) (hd : 1 ≤ d) (k7 : Option Nat → Int32 → Int32 → Hp → Option (Int32 × Hp)) (K7 : ∀ (v0 : Option Nat) (v1 : Int32) (v2 : Int32) (h : Hp) (r : Int32 × Hp), k7 v0 v1 v2 h = some r → Rn d 121 7 [some (va_rf v0), some (.int v1), some (.int v2)] [] h (some (.int r.1), r.2)) (v0 : Option Nat) (v1 : Int32) (v2 : Int32)  (h : Hp) (r : Int32 × Hp) (hb : b_121_36 k7 v0 v2  h = some r) : Rn d 121 36 [some (va_rf v0), some (.int v1), some (.int v2)] [] h (some (.int r.1), r.2) := by
  unfold b_121_36 at hb
  refine rn_iconst (x := (nI 0)) rfl (by decide) ?_
  exact u_121_37 d hd k7 K7 v0 v1 v2 (nI 0) h _ hb
def b_121_32 (k7 : Option Nat → Int32 → Int32 → Hp → Option (Int32 × Hp)) (v0 : Option Nat) (v2 : Int32)  (h : Hp) : Option (Int32 × Hp) :=
  b_121_37 k7 v0 v2 (nI 1) h
theorem u_121_32 (d : Nat) (hd : 1 ≤ d) (k7 : Option Nat → Int32 → Int32 → Hp → Option (Int32 × Hp)) (K7 : ∀ (v0 : Option Nat) (v1 : Int32) (v2 : Int32) (h : Hp) (r : Int32 × Hp), k7 v0 v1 v2 h = some r → Rn d 121 7 [some (va_rf v0), some (.int v1), some (.int v2)] [] h (some (.int r.1), r.2)) (v0 : Option Nat) (v1 : Int32) (v2 : Int32)  (h : Hp) (r : Int32 × Hp) (hb : b_121_32 k7 v0 v2  h = some r) : Rn d 121 32 [some (va_rf v0), some (.int v1), some (.int v2)] [] h (some (.int r.1), r.2) := by
  unfold b_121_32 at hb
  refine rn_iconst (x := (nI 1)) rfl (by decide) ?_
  refine rn_goto rfl rfl ?_
  exact u_121_37 d hd k7 K7 v0 v1 v2 (nI 1) h _ hb
def b_121_19 (k7 : Option Nat → Int32 → Int32 → Hp → Option (Int32 × Hp)) (v0 : Option Nat) (v2 : Int32)  (h : Hp) : Option (Int32 × Hp) :=
  (gQ 9 0 v0 h).bind fun x1 =>
  (aI 12 x1 v2 h).bind fun x2 =>
  (f_126 x2 h).bind fun p3 =>
  if p3.1 = (-1 : Int32) then b_121_36 k7 v0 v2  p3.2 else b_121_32 k7 v0 v2  p3.2
theorem u_121_19 (d : Nat) (hd : 1 ≤ d) (k7 : Option Nat → Int32 → Int32 → Hp → Option (Int32 × Hp)) (K7 : ∀ (v0 : Option Nat) (v1 : Int32) (v2 : Int32) (h : Hp) (r : Int32 × Hp), k7 v0 v1 v2 h = some r → Rn d 121 7 [some (va_rf v0), some (.int v1), some (.int v2)] [] h (some (.int r.1), r.2)) (v0 : Option Nat) (v1 : Int32) (v2 : Int32)  (h : Hp) (r : Int32 × Hp) (hb : b_121_19 k7 v0 v2  h = some r) : Rn d 121 19 [some (va_rf v0), some (.int v1), some (.int v2)] [] h (some (.int r.1), r.2) := by
  unfold b_121_19 at hb
  obtain ⟨e, rfl⟩ : ∃ e, d = e + 1 := ⟨d - 1, by omega⟩
  refine rn_aload_n (i := 0) rfl rfl ?_
  refine rn_gQ (c := 9) (k := 0) rfl (by decide) hb (fun x1 hb => ?_)
  refine rn_iload_n (i := 2) rfl rfl ?_
  refine rn_aI rfl hb (fun x2 hb => ?_)
  obtain ⟨p3, hc, hb⟩ := Option.bind_eq_some_iff.mp hb
  refine Rn.call1 (d := e) (As := [.int x2]) (rest := []) rfl rfl rfl (by decide) rfl rfl rfl rfl (by decide) (bd_lenC (n := 1) rfl (bd_slI bd_slN) rfl) (bd_locC (n := 1) rfl (bd_slI bd_slN) rfl (t_126 e (by omega) x2 h _ hc)) ?_
  refine rn_iconst (x := (-1 : Int32)) rfl (by decide) ?_
  refine rn_icmp_eq rfl rfl (fun hc => ?_) (fun hc => ?_)
  · exact u_121_36 (e + 1) hd k7 K7 v0 v1 v2  p3.2 _ (if_t hb hc)
  · exact u_121_32 (e + 1) hd k7 K7 v0 v1 v2  p3.2 _ (if_f hb hc)
def b_121_15 (k7 : Option Nat → Int32 → Int32 → Hp → Option (Int32 × Hp)) (v0 : Option Nat) (v1 : Int32) (v2 : Int32)  (h : Hp) : Option (Int32 × Hp) :=
  if v1 = 0 then b_121_36 k7 v0 v2  h else b_121_19 k7 v0 v2  h
theorem u_121_15 (d : Nat) (hd : 1 ≤ d) (k7 : Option Nat → Int32 → Int32 → Hp → Option (Int32 × Hp)) (K7 : ∀ (v0 : Option Nat) (v1 : Int32) (v2 : Int32) (h : Hp) (r : Int32 × Hp), k7 v0 v1 v2 h = some r → Rn d 121 7 [some (va_rf v0), some (.int v1), some (.int v2)] [] h (some (.int r.1), r.2)) (v0 : Option Nat) (v1 : Int32) (v2 : Int32)  (h : Hp) (r : Int32 × Hp) (hb : b_121_15 k7 v0 v1 v2  h = some r) : Rn d 121 15 [some (va_rf v0), some (.int v1), some (.int v2)] [] h (some (.int r.1), r.2) := by
  unfold b_121_15 at hb
  refine rn_iload_n (i := 1) rfl rfl ?_
  refine rn_if_eq rfl rfl (fun hc => ?_) (fun hc => ?_)
  · exact u_121_36 d hd k7 K7 v0 v1 v2  h _ (if_t hb hc)
  · exact u_121_19 d hd k7 K7 v0 v1 v2  h _ (if_f hb hc)
def b_121_7 (k7 : Option Nat → Int32 → Int32 → Hp → Option (Int32 × Hp)) (v0 : Option Nat) (v1 : Int32) (v2 : Int32)  (h : Hp) : Option (Int32 × Hp) :=
  (gI 9 9 v0 h).bind fun x1 =>
  if x1 ≤ v2 then b_121_44 v0 v1  h else b_121_15 k7 v0 v1 v2  h
theorem u_121_7 (d : Nat) (hd : 1 ≤ d) (k7 : Option Nat → Int32 → Int32 → Hp → Option (Int32 × Hp)) (K7 : ∀ (v0 : Option Nat) (v1 : Int32) (v2 : Int32) (h : Hp) (r : Int32 × Hp), k7 v0 v1 v2 h = some r → Rn d 121 7 [some (va_rf v0), some (.int v1), some (.int v2)] [] h (some (.int r.1), r.2)) (v0 : Option Nat) (v1 : Int32) (v2 : Int32)  (h : Hp) (r : Int32 × Hp) (hb : b_121_7 k7 v0 v1 v2  h = some r) : Rn d 121 7 [some (va_rf v0), some (.int v1), some (.int v2)] [] h (some (.int r.1), r.2) := by
  unfold b_121_7 at hb
  refine rn_iload_n (i := 2) rfl rfl ?_
  refine rn_aload_n (i := 0) rfl rfl ?_
  refine rn_gI (c := 9) (k := 9) rfl (by decide) hb (fun x1 hb => ?_)
  refine rn_icmp_ge rfl rfl (fun hc => ?_) (fun hc => ?_)
  · exact u_121_44 d hd v0 v1 v2  h _ (if_t hb hc)
  · exact u_121_15 d hd k7 K7 v0 v1 v2  h _ (if_f hb hc)
def l_121_7 : Nat → Option Nat → Int32 → Int32 → Hp → Option (Int32 × Hp)
  | 0, _, _, _, _ => none
  | n + 1, v0, v1, v2, h => b_121_7 (l_121_7 n) v0 v1 v2 h
theorem w_121_7 (d : Nat) (hd : 1 ≤ d) : ∀ (n : Nat) (v0 : Option Nat) (v1 : Int32) (v2 : Int32) (h : Hp) (r : Int32 × Hp), l_121_7 n v0 v1 v2 h = some r → Rn d 121 7 [some (va_rf v0), some (.int v1), some (.int v2)] [] h (some (.int r.1), r.2) := by
  intro n
  induction n with
  | zero => intro v0 v1 v2 h r hb; cases hb
  | succ n ih => intro v0 v1 v2 h r hb; exact u_121_7 d hd (l_121_7 n) ih v0 v1 v2 h r hb
def b_121_0 (v0 : Option Nat)  (h : Hp) : Option (Int32 × Hp) :=
  bnd ((nI 1)) fun x1 =>
  (gI 9 3 v0 h).bind fun x2 =>
  l_121_7 FU v0 x1 x2 h
theorem u_121_0 (d : Nat) (hd : 1 ≤ d) (v0 : Option Nat)  (h : Hp) (r : Int32 × Hp) (hb : b_121_0 v0  h = some r) : Rn d 121 0 [some (va_rf v0), none, none] [] h (some (.int r.1), r.2) := by
  unfold b_121_0 at hb
  refine rn_iconst (x := (nI 1)) rfl (by decide) ?_
  obtain ⟨x1, ex1, hb⟩ := bnd_spec hb
  refine rn_istore_n (i := 1) (L1 := [some (va_rf v0), some (.int x1), none]) rfl (Nat.le_of_ble_eq_true rfl) (Or.inr (bd_wideR rfl)) (by rw [ex1]; rfl) ?_
  refine rn_aload_n (i := 0) rfl rfl ?_
  refine rn_gI (c := 9) (k := 3) rfl (by decide) hb (fun x2 hb => ?_)
  refine rn_istore_n (i := 2) (L1 := [some (va_rf v0), some (.int x1), some (.int x2)]) rfl (Nat.le_of_ble_eq_true rfl) (Or.inr rfl) rfl ?_
  exact w_121_7 d hd FU v0 x1 x2 h _ hb
/-- BitingDoors$Text.isName()Z -/
def f_121 (v0 : Option Nat) (h : Hp) : Option (Int32 × Hp) := b_121_0 v0 h
theorem t_121 (d : Nat) (hd : 1 ≤ d) (v0 : Option Nat) (h : Hp) (r : Int32 × Hp) (hb : f_121 v0 h = some r) : Rn d 121 0 [some (va_rf v0), none, none] [] h (some (.int r.1), r.2) := by
  unfold f_121 at hb
  exact u_121_0 d hd v0 h r hb
def b_54_32   (h : Hp) : Option (Int32 × Hp) :=
  some ((-1 : Int32), h)
theorem u_54_32 (d : Nat) (hd : 0 ≤ d) (v0 : Option Nat) (v1 : Int64) (v3 : Int32)  (h : Hp) (r : Int32 × Hp) (hb : b_54_32   h = some r) : Rn d 54 32 [some (va_rf v0), some (.long v1), none, some (.int v3)] [] h (some (.int r.1), r.2) := by
  unfold b_54_32 at hb
  refine rn_iconst (x := (-1 : Int32)) rfl (by decide) ?_
  obtain rfl := Option.some.inj hb
  exact rn_iret rfl rfl
def b_54_26 (k2 : Option Nat → Int64 → Int32 → Hp → Option (Int32 × Hp)) (v0 : Option Nat) (v1 : Int64) (v3 : Int32)  (h : Hp) : Option (Int32 × Hp) :=
  bnd (v3 + (nI 1)) fun x1 =>
  k2 v0 v1 x1 h
theorem u_54_26 (d : Nat) (hd : 0 ≤ d) (k2 : Option Nat → Int64 → Int32 → Hp → Option (Int32 × Hp)) (K2 : ∀ (v0 : Option Nat) (v1 : Int64) (v3 : Int32) (h : Hp) (r : Int32 × Hp), k2 v0 v1 v3 h = some r → Rn d 54 2 [some (va_rf v0), some (.long v1), none, some (.int v3)] [] h (some (.int r.1), r.2)) (v0 : Option Nat) (v1 : Int64) (v3 : Int32)  (h : Hp) (r : Int32 × Hp) (hb : b_54_26 k2 v0 v1 v3  h = some r) : Rn d 54 26 [some (va_rf v0), some (.long v1), none, some (.int v3)] [] h (some (.int r.1), r.2) := by
  unfold b_54_26 at hb
  obtain ⟨x1, ex1, hb⟩ := bnd_spec hb
  refine rn_iinc (i := 3) (y := x1) (L1 := [some (va_rf v0), some (.long v1), none, some (.int x1)]) rfl rfl (Nat.le_of_ble_eq_true rfl) (Or.inr rfl) (by rw [ex1]; rfl) rfl ?_
  refine rn_goto rfl rfl ?_
  exact K2 v0 v1 x1 h _ hb
def b_54_24 (v3 : Int32)  (h : Hp) : Option (Int32 × Hp) :=
  some (v3, h)
theorem u_54_24 (d : Nat) (hd : 0 ≤ d) (v0 : Option Nat) (v1 : Int64) (v3 : Int32)  (h : Hp) (r : Int32 × Hp) (hb : b_54_24 v3  h = some r) : Rn d 54 24 [some (va_rf v0), some (.long v1), none, some (.int v3)] [] h (some (.int r.1), r.2) := by
  unfold b_54_24 at hb
  refine rn_iload_n (i := 3) rfl rfl ?_
  obtain rfl := Option.some.inj hb
  exact rn_iret rfl rfl
def b_54_10 (k2 : Option Nat → Int64 → Int32 → Hp → Option (Int32 × Hp)) (v0 : Option Nat) (v1 : Int64) (v3 : Int32)  (h : Hp) : Option (Int32 × Hp) :=
  (gQ 4 1 v0 h).bind fun x1 =>
  (aQ x1 v3 h).bind fun x2 =>
  (gJ 1 5 x2 h).bind fun x3 =>
  if ¬ (lg_cmp x3 v1) = 0 then b_54_26 k2 v0 v1 v3  h else b_54_24 v3  h
theorem u_54_10 (d : Nat) (hd : 0 ≤ d) (k2 : Option Nat → Int64 → Int32 → Hp → Option (Int32 × Hp)) (K2 : ∀ (v0 : Option Nat) (v1 : Int64) (v3 : Int32) (h : Hp) (r : Int32 × Hp), k2 v0 v1 v3 h = some r → Rn d 54 2 [some (va_rf v0), some (.long v1), none, some (.int v3)] [] h (some (.int r.1), r.2)) (v0 : Option Nat) (v1 : Int64) (v3 : Int32)  (h : Hp) (r : Int32 × Hp) (hb : b_54_10 k2 v0 v1 v3  h = some r) : Rn d 54 10 [some (va_rf v0), some (.long v1), none, some (.int v3)] [] h (some (.int r.1), r.2) := by
  unfold b_54_10 at hb
  refine rn_aload_n (i := 0) rfl rfl ?_
  refine rn_gQ (c := 4) (k := 1) rfl (by decide) hb (fun x1 hb => ?_)
  refine rn_iload_n (i := 3) rfl rfl ?_
  refine rn_aQ rfl hb (fun x2 hb => ?_)
  refine rn_gJ (c := 1) (k := 5) rfl (by decide) hb (fun x3 hb => ?_)
  refine rn_lload_n (i := 1) rfl rfl ?_
  refine rn_lcmp rfl ?_
  refine rn_if_ne rfl rfl (fun hc => ?_) (fun hc => ?_)
  · exact u_54_26 d hd k2 K2 v0 v1 v3  h _ (if_t hb hc)
  · exact u_54_24 d hd v0 v1 v3  h _ (if_f hb hc)
def b_54_2 (k2 : Option Nat → Int64 → Int32 → Hp → Option (Int32 × Hp)) (v0 : Option Nat) (v1 : Int64) (v3 : Int32)  (h : Hp) : Option (Int32 × Hp) :=
  (gI 4 5 v0 h).bind fun x1 =>
  if x1 ≤ v3 then b_54_32   h else b_54_10 k2 v0 v1 v3  h
theorem u_54_2 (d : Nat) (hd : 0 ≤ d) (k2 : Option Nat → Int64 → Int32 → Hp → Option (Int32 × Hp)) (K2 : ∀ (v0 : Option Nat) (v1 : Int64) (v3 : Int32) (h : Hp) (r : Int32 × Hp), k2 v0 v1 v3 h = some r → Rn d 54 2 [some (va_rf v0), some (.long v1), none, some (.int v3)] [] h (some (.int r.1), r.2)) (v0 : Option Nat) (v1 : Int64) (v3 : Int32)  (h : Hp) (r : Int32 × Hp) (hb : b_54_2 k2 v0 v1 v3  h = some r) : Rn d 54 2 [some (va_rf v0), some (.long v1), none, some (.int v3)] [] h (some (.int r.1), r.2) := by
  unfold b_54_2 at hb
  refine rn_iload_n (i := 3) rfl rfl ?_
  refine rn_aload_n (i := 0) rfl rfl ?_
  refine rn_gI (c := 4) (k := 5) rfl (by decide) hb (fun x1 hb => ?_)
  refine rn_icmp_ge rfl rfl (fun hc => ?_) (fun hc => ?_)
  · exact u_54_32 d hd v0 v1 v3  h _ (if_t hb hc)
  · exact u_54_10 d hd k2 K2 v0 v1 v3  h _ (if_f hb hc)
def l_54_2 : Nat → Option Nat → Int64 → Int32 → Hp → Option (Int32 × Hp)
  | 0, _, _, _, _ => none
  | n + 1, v0, v1, v3, h => b_54_2 (l_54_2 n) v0 v1 v3 h
theorem w_54_2 (d : Nat) (hd : 0 ≤ d) : ∀ (n : Nat) (v0 : Option Nat) (v1 : Int64) (v3 : Int32) (h : Hp) (r : Int32 × Hp), l_54_2 n v0 v1 v3 h = some r → Rn d 54 2 [some (va_rf v0), some (.long v1), none, some (.int v3)] [] h (some (.int r.1), r.2) := by
  intro n
  induction n with
  | zero => intro v0 v1 v3 h r hb; cases hb
  | succ n ih => intro v0 v1 v3 h r hb; exact u_54_2 d hd (l_54_2 n) ih v0 v1 v3 h r hb
def b_54_0 (v0 : Option Nat) (v1 : Int64)  (h : Hp) : Option (Int32 × Hp) :=
  bnd ((nI 0)) fun x1 =>
  l_54_2 FU v0 v1 x1 h
theorem u_54_0 (d : Nat) (hd : 0 ≤ d) (v0 : Option Nat) (v1 : Int64)  (h : Hp) (r : Int32 × Hp) (hb : b_54_0 v0 v1  h = some r) : Rn d 54 0 [some (va_rf v0), some (.long v1), none, none] [] h (some (.int r.1), r.2) := by
  unfold b_54_0 at hb
  refine rn_iconst (x := (nI 0)) rfl (by decide) ?_
  obtain ⟨x1, ex1, hb⟩ := bnd_spec hb
  refine rn_istore_n (i := 3) (L1 := [some (va_rf v0), some (.long v1), none, some (.int x1)]) rfl (Nat.le_of_ble_eq_true rfl) (Or.inr rfl) (by rw [ex1]; rfl) ?_
  exact w_54_2 d hd FU v0 v1 x1 h _ hb
/-- BitingDoors$House.findDoor(J)I -/
def f_54 (v0 : Option Nat) (v1 : Int64) (h : Hp) : Option (Int32 × Hp) := b_54_0 v0 v1 h
theorem t_54 (d : Nat) (hd : 0 ≤ d) (v0 : Option Nat) (v1 : Int64) (h : Hp) (r : Int32 × Hp) (hb : f_54 v0 v1 h = some r) : Rn d 54 0 [some (va_rf v0), some (.long v1), none, none] [] h (some (.int r.1), r.2) := by
  unfold f_54 at hb
  exact u_54_0 d hd v0 v1 h r hb
def b_119_0 (v0 : Option Nat) (v1 : Int32)  (h : Hp) : Option (Int32 × Hp) :=
  (pI 9 6 v0 v1 h).bind fun h1 =>
  (gI 9 3 v0 h1).bind fun x2 =>
  (pI 9 7 v0 x2 h1).bind fun h3 =>
  (grd (decide ((nI 0) = 0 ∨ (nI 0) = 1))).bind fun _ => some ((nI 0), h3)
theorem u_119_0 (d : Nat) (hd : 0 ≤ d) (v0 : Option Nat) (v1 : Int32)  (h : Hp) (r : Int32 × Hp) (hb : b_119_0 v0 v1  h = some r) : Rn d 119 0 [some (va_rf v0), some (.int v1)] [] h (some (.int r.1), r.2) := by
  unfold b_119_0 at hb
  refine rn_aload_n (i := 0) rfl rfl ?_
  refine rn_iload_n (i := 1) rfl rfl ?_
  refine rn_pI (c := 9) (k := 6) rfl (by decide) hb (fun h1 hb => ?_)
  refine rn_aload_n (i := 0) rfl rfl ?_
  refine rn_aload_n (i := 0) rfl rfl ?_
  refine rn_gI (c := 9) (k := 3) rfl (by decide) hb (fun x2 hb => ?_)
  refine rn_pI (c := 9) (k := 7) rfl (by decide) hb (fun h3 hb => ?_)
  refine rn_iconst (x := (nI 0)) rfl (by decide) ?_
  obtain ⟨hz, hb⟩ := grd_spec hb
  obtain rfl := Option.some.inj hb
  exact rn_zret rfl rfl (of_decide_eq_true hz)
/-- BitingDoors$Text.fail(I)Z -/
def f_119 (v0 : Option Nat) (v1 : Int32) (h : Hp) : Option (Int32 × Hp) := b_119_0 v0 v1 h
theorem t_119 (d : Nat) (hd : 0 ≤ d) (v0 : Option Nat) (v1 : Int32) (h : Hp) (r : Int32 × Hp) (hb : f_119 v0 v1 h = some r) : Rn d 119 0 [some (va_rf v0), some (.int v1)] [] h (some (.int r.1), r.2) := by
  unfold f_119 at hb
  exact u_119_0 d hd v0 v1 h r hb
def b_125_41 (v3 : Int32)  (h : Hp) : Option (Int32 × Hp) :=
  some (v3, h)
theorem u_125_41 (d : Nat) (hd : 2 ≤ d) (v0 : Option Nat) (v1 : Option Nat) (v2 : Int32) (v3 : Int32)  (h : Hp) (r : Int32 × Hp) (hb : b_125_41 v3  h = some r) : Rn d 125 41 [some (va_rf v0), some (va_rf v1), some (.int v2), some (.int v3)] [] h (some (.int r.1), r.2) := by
  unfold b_125_41 at hb
  refine rn_iload_n (i := 3) rfl rfl ?_
  obtain rfl := Option.some.inj hb
  exact rn_iret rfl rfl
def b_125_37 (v3 : Int32) (s0 : Option Nat) (s1 : Int32) (h : Hp) : Option (Int32 × Hp) :=
  (grd (rC 9 s0 h)).bind fun _ =>
  (f_119 s0 s1 h).bind fun p1 =>
  b_125_41 v3  p1.2
theorem u_125_37 (d : Nat) (hd : 2 ≤ d) (v0 : Option Nat) (v1 : Option Nat) (v2 : Int32) (v3 : Int32) (s0 : Option Nat) (s1 : Int32) (h : Hp) (r : Int32 × Hp) (hb : b_125_37 v3 s0 s1 h = some r) : Rn d 125 37 [some (va_rf v0), some (va_rf v1), some (.int v2), some (.int v3)] [.int s1, va_rf s0] h (some (.int r.1), r.2) := by
  unfold b_125_37 at hb
  obtain ⟨e, rfl⟩ : ∃ e, d = e + 1 := ⟨d - 1, by omega⟩
  obtain ⟨hrc, hb⟩ := grd_spec hb
  obtain ⟨p1, hc, hb⟩ := Option.bind_eq_some_iff.mp hb
  refine Rn.call1 (d := e) (As := [va_rf s0, .int s1]) (rest := []) rfl rfl rfl (by decide) rfl rfl rfl (bd_rcV hrc rfl) (by decide) (bd_lenC (n := 2) rfl (bd_slR (bd_slI bd_slN)) rfl) (bd_locC (n := 2) rfl (bd_slR (bd_slI bd_slN)) rfl (t_119 e (by omega) s0 s1 h _ hc)) ?_
  refine rn_pop rfl rfl ?_
  exact u_125_41 (e + 1) hd v0 v1 v2 v3  p1.2 _ hb
def b_125_36 (v3 : Int32) (s0 : Option Nat) (h : Hp) : Option (Int32 × Hp) :=
  b_125_37 v3 s0 (nI 1) h
theorem u_125_36 (d : Nat) (hd : 2 ≤ d) (v0 : Option Nat) (v1 : Option Nat) (v2 : Int32) (v3 : Int32) (s0 : Option Nat) (h : Hp) (r : Int32 × Hp) (hb : b_125_36 v3 s0 h = some r) : Rn d 125 36 [some (va_rf v0), some (va_rf v1), some (.int v2), some (.int v3)] [va_rf s0] h (some (.int r.1), r.2) := by
  unfold b_125_36 at hb
  refine rn_iconst (x := (nI 1)) rfl (by decide) ?_
  exact u_125_37 d hd v0 v1 v2 v3 s0 (nI 1) h _ hb
def b_125_32 (v3 : Int32) (s0 : Option Nat) (h : Hp) : Option (Int32 × Hp) :=
  b_125_37 v3 s0 (nI 3) h
theorem u_125_32 (d : Nat) (hd : 2 ≤ d) (v0 : Option Nat) (v1 : Option Nat) (v2 : Int32) (v3 : Int32) (s0 : Option Nat) (h : Hp) (r : Int32 × Hp) (hb : b_125_32 v3 s0 h = some r) : Rn d 125 32 [some (va_rf v0), some (va_rf v1), some (.int v2), some (.int v3)] [va_rf s0] h (some (.int r.1), r.2) := by
  unfold b_125_32 at hb
  refine rn_iconst (x := (nI 3)) rfl (by decide) ?_
  refine rn_goto rfl rfl ?_
  exact u_125_37 d hd v0 v1 v2 v3 s0 (nI 3) h _ hb
def b_125_27 (v0 : Option Nat) (v2 : Int32) (v3 : Int32)  (h : Hp) : Option (Int32 × Hp) :=
  if v2 = 0 then b_125_36 v3 v0 h else b_125_32 v3 v0 h
theorem u_125_27 (d : Nat) (hd : 2 ≤ d) (v0 : Option Nat) (v1 : Option Nat) (v2 : Int32) (v3 : Int32)  (h : Hp) (r : Int32 × Hp) (hb : b_125_27 v0 v2 v3  h = some r) : Rn d 125 27 [some (va_rf v0), some (va_rf v1), some (.int v2), some (.int v3)] [] h (some (.int r.1), r.2) := by
  unfold b_125_27 at hb
  refine rn_aload_n (i := 0) rfl rfl ?_
  refine rn_iload_n (i := 2) rfl rfl ?_
  refine rn_if_eq rfl rfl (fun hc => ?_) (fun hc => ?_)
  · exact u_125_36 d hd v0 v1 v2 v3 v0 h _ (if_t hb hc)
  · exact u_125_32 d hd v0 v1 v2 v3 v0 h _ (if_f hb hc)
def b_125_21 (v0 : Option Nat) (v2 : Int32) (s0 : Int32) (h : Hp) : Option (Int32 × Hp) :=
  if ¬ s0 = (-1 : Int32) then b_125_41 s0  h else b_125_27 v0 v2 s0  h
theorem u_125_21 (d : Nat) (hd : 2 ≤ d) (v0 : Option Nat) (v1 : Option Nat) (v2 : Int32) (s0 : Int32) (h : Hp) (r : Int32 × Hp) (hb : b_125_21 v0 v2 s0 h = some r) : Rn d 125 21 [some (va_rf v0), some (va_rf v1), some (.int v2), none] [.int s0] h (some (.int r.1), r.2) := by
  unfold b_125_21 at hb
  refine rn_istore_n (i := 3) (L1 := [some (va_rf v0), some (va_rf v1), some (.int v2), some (.int s0)]) rfl (Nat.le_of_ble_eq_true rfl) (Or.inr rfl) rfl ?_
  refine rn_iload_n (i := 3) rfl rfl ?_
  refine rn_iconst (x := (-1 : Int32)) rfl (by decide) ?_
  refine rn_icmp_ne rfl rfl (fun hc => ?_) (fun hc => ?_)
  · exact u_125_41 d hd v0 v1 v2 s0  h _ (if_t hb hc)
  · exact u_125_27 d hd v0 v1 v2 s0  h _ (if_f hb hc)
def b_125_20 (v0 : Option Nat) (v2 : Int32)  (h : Hp) : Option (Int32 × Hp) :=
  b_125_21 v0 v2 (-1 : Int32) h
theorem u_125_20 (d : Nat) (hd : 2 ≤ d) (v0 : Option Nat) (v1 : Option Nat) (v2 : Int32)  (h : Hp) (r : Int32 × Hp) (hb : b_125_20 v0 v2  h = some r) : Rn d 125 20 [some (va_rf v0), some (va_rf v1), some (.int v2), none] [] h (some (.int r.1), r.2) := by
  unfold b_125_20 at hb
  refine rn_iconst (x := (-1 : Int32)) rfl (by decide) ?_
  exact u_125_21 d hd v0 v1 v2 (-1 : Int32) h _ hb
def b_125_9 (v0 : Option Nat) (v1 : Option Nat) (v2 : Int32)  (h : Hp) : Option (Int32 × Hp) :=
  (gJ 9 5 v0 h).bind fun x1 =>
  (grd (rC 4 v1 h)).bind fun _ =>
  (f_54 v1 x1 h).bind fun p2 =>
  b_125_21 v0 v2 p2.1 p2.2
theorem u_125_9 (d : Nat) (hd : 2 ≤ d) (v0 : Option Nat) (v1 : Option Nat) (v2 : Int32)  (h : Hp) (r : Int32 × Hp) (hb : b_125_9 v0 v1 v2  h = some r) : Rn d 125 9 [some (va_rf v0), some (va_rf v1), some (.int v2), none] [] h (some (.int r.1), r.2) := by
  unfold b_125_9 at hb
  obtain ⟨e, rfl⟩ : ∃ e, d = e + 1 := ⟨d - 1, by omega⟩
  refine rn_aload_n (i := 1) rfl rfl ?_
  refine rn_aload_n (i := 0) rfl rfl ?_
  refine rn_gJ (c := 9) (k := 5) rfl (by decide) hb (fun x1 hb => ?_)
  obtain ⟨hrc, hb⟩ := grd_spec hb
  obtain ⟨p2, hc, hb⟩ := Option.bind_eq_some_iff.mp hb
  refine Rn.call1 (d := e) (As := [va_rf v1, .long x1]) (rest := []) rfl rfl rfl (by decide) rfl rfl rfl (bd_rcV hrc rfl) (by decide) (bd_lenC (n := 4) rfl (bd_slR (bd_slJ bd_slN)) rfl) (bd_locC (n := 4) rfl (bd_slR (bd_slJ bd_slN)) rfl (t_54 e (by omega) v1 x1 h _ hc)) ?_
  refine rn_goto rfl rfl ?_
  exact u_125_21 (e + 1) hd v0 v1 v2 p2.1 p2.2 _ hb
def b_125_0 (v0 : Option Nat) (v1 : Option Nat)  (h : Hp) : Option (Int32 × Hp) :=
  (grd (rC 9 v0 h)).bind fun _ =>
  (f_121 v0 h).bind fun p1 =>
  bnd (p1.1) fun x2 =>
  if x2 = 0 then b_125_20 v0 x2  p1.2 else b_125_9 v0 v1 x2  p1.2
theorem u_125_0 (d : Nat) (hd : 2 ≤ d) (v0 : Option Nat) (v1 : Option Nat)  (h : Hp) (r : Int32 × Hp) (hb : b_125_0 v0 v1  h = some r) : Rn d 125 0 [some (va_rf v0), some (va_rf v1), none, none] [] h (some (.int r.1), r.2) := by
  unfold b_125_0 at hb
  obtain ⟨e, rfl⟩ : ∃ e, d = e + 1 := ⟨d - 1, by omega⟩
  refine rn_aload_n (i := 0) rfl rfl ?_
  obtain ⟨hrc, hb⟩ := grd_spec hb
  obtain ⟨p1, hc, hb⟩ := Option.bind_eq_some_iff.mp hb
  refine Rn.call1 (d := e) (As := [va_rf v0]) (rest := []) rfl rfl rfl (by decide) rfl rfl rfl (bd_rcV hrc rfl) (by decide) (bd_lenC (n := 3) rfl (bd_slR bd_slN) rfl) (bd_locC (n := 3) rfl (bd_slR bd_slN) rfl (t_121 e (by omega) v0 h _ hc)) ?_
  obtain ⟨x2, ex2, hb⟩ := bnd_spec hb
  refine rn_istore_n (i := 2) (L1 := [some (va_rf v0), some (va_rf v1), some (.int x2), none]) rfl (Nat.le_of_ble_eq_true rfl) (Or.inr (bd_wideR rfl)) (by rw [ex2]; rfl) ?_
  refine rn_iload_n (i := 2) rfl rfl ?_
  refine rn_if_eq rfl rfl (fun hc => ?_) (fun hc => ?_)
  · exact u_125_20 (e + 1) hd v0 v1 x2  p1.2 _ (if_t hb hc)
  · exact u_125_9 (e + 1) hd v0 v1 x2  p1.2 _ (if_f hb hc)
/-- BitingDoors$Text.namedDoor(LBitingDoors$House;)I -/
def f_125 (v0 : Option Nat) (v1 : Option Nat) (h : Hp) : Option (Int32 × Hp) := b_125_0 v0 v1 h
theorem t_125 (d : Nat) (hd : 2 ≤ d) (v0 : Option Nat) (v1 : Option Nat) (h : Hp) (r : Int32 × Hp) (hb : f_125 v0 v1 h = some r) : Rn d 125 0 [some (va_rf v0), some (va_rf v1), none, none] [] h (some (.int r.1), r.2) := by
  unfold f_125 at hb
  exact u_125_0 d hd v0 v1 h r hb
def b_3_15 (v0 : Option Nat) (v1 : Option Nat) (v3 : Int32) (v4 : Int32)  (h : Hp) : Option (Int32 × Hp) :=
  (gQ 0 0 v0 h).bind fun x1 =>
  (gI 0 2 v0 h).bind fun x2 =>
  (wI x1 x2 (((nI 4) + ((nI 2) * v4)) + v3) h).bind fun h3 =>
  (grd (rC 9 v1 h3)).bind fun _ =>
  (f_117 v1 h3).bind fun p4 =>
  (grd (decide ((nI 1) = 0 ∨ (nI 1) = 1))).bind fun _ => some ((nI 1), p4)
theorem u_3_15 (d : Nat) (hd : 3 ≤ d) (v0 : Option Nat) (v1 : Option Nat) (v2 : Option Nat) (v3 : Int32) (v4 : Int32)  (h : Hp) (r : Int32 × Hp) (hb : b_3_15 v0 v1 v3 v4  h = some r) : Rn d 3 15 [some (va_rf v0), some (va_rf v1), some (va_rf v2), some (.int v3), some (.int v4)] [] h (some (.int r.1), r.2) := by
  unfold b_3_15 at hb
  obtain ⟨e, rfl⟩ : ∃ e, d = e + 1 := ⟨d - 1, by omega⟩
  refine rn_aload_n (i := 0) rfl rfl ?_
  refine rn_gQ (c := 0) (k := 0) rfl (by decide) hb (fun x1 hb => ?_)
  refine rn_aload_n (i := 0) rfl rfl ?_
  refine rn_gI (c := 0) (k := 2) rfl (by decide) hb (fun x2 hb => ?_)
  refine rn_iconst (x := (nI 4)) rfl (by decide) ?_
  refine rn_iconst (x := (nI 2)) rfl (by decide) ?_
  refine rn_iload (i := 4) rfl rfl ?_
  refine rn_imul rfl ?_
  refine rn_iadd rfl ?_
  refine rn_iload_n (i := 3) rfl rfl ?_
  refine rn_iadd rfl ?_
  refine rn_wI rfl hb (fun h3 hb => ?_)
  refine rn_aload_n (i := 1) rfl rfl ?_
  obtain ⟨hrc, hb⟩ := grd_spec hb
  obtain ⟨p4, hc, hb⟩ := Option.bind_eq_some_iff.mp hb
  refine Rn.call0 (d := e) (As := [va_rf v1]) (rest := []) rfl rfl rfl (by decide) rfl rfl rfl (bd_rcV hrc rfl) (by decide) (bd_lenC (n := 3) rfl (bd_slR bd_slN) rfl) (bd_locC (n := 3) rfl (bd_slR bd_slN) rfl (t_117 e (by omega) v1 h3 _ hc)) ?_
  refine rn_iconst (x := (nI 1)) rfl (by decide) ?_
  obtain ⟨hz, hb⟩ := grd_spec hb
  obtain rfl := Option.some.inj hb
  exact rn_zret rfl rfl (of_decide_eq_true hz)
def b_3_13   (h : Hp) : Option (Int32 × Hp) :=
  (grd (decide ((nI 0) = 0 ∨ (nI 0) = 1))).bind fun _ => some ((nI 0), h)
theorem u_3_13 (d : Nat) (hd : 3 ≤ d) (v0 : Option Nat) (v1 : Option Nat) (v2 : Option Nat) (v3 : Int32) (v4 : Int32)  (h : Hp) (r : Int32 × Hp) (hb : b_3_13   h = some r) : Rn d 3 13 [some (va_rf v0), some (va_rf v1), some (va_rf v2), some (.int v3), some (.int v4)] [] h (some (.int r.1), r.2) := by
  unfold b_3_13 at hb
  refine rn_iconst (x := (nI 0)) rfl (by decide) ?_
  obtain ⟨hz, hb⟩ := grd_spec hb
  obtain rfl := Option.some.inj hb
  exact rn_zret rfl rfl (of_decide_eq_true hz)
def b_3_0 (v0 : Option Nat) (v1 : Option Nat) (v2 : Option Nat) (v3 : Int32)  (h : Hp) : Option (Int32 × Hp) :=
  (grd (rC 9 v1 h)).bind fun _ =>
  (f_125 v1 v2 h).bind fun p1 =>
  bnd (p1.1) fun x2 =>
  if ¬ x2 = (-1 : Int32) then b_3_15 v0 v1 v3 x2  p1.2 else b_3_13   p1.2
theorem u_3_0 (d : Nat) (hd : 3 ≤ d) (v0 : Option Nat) (v1 : Option Nat) (v2 : Option Nat) (v3 : Int32)  (h : Hp) (r : Int32 × Hp) (hb : b_3_0 v0 v1 v2 v3  h = some r) : Rn d 3 0 [some (va_rf v0), some (va_rf v1), some (va_rf v2), some (.int v3), none] [] h (some (.int r.1), r.2) := by
  unfold b_3_0 at hb
  obtain ⟨e, rfl⟩ : ∃ e, d = e + 1 := ⟨d - 1, by omega⟩
  refine rn_aload_n (i := 1) rfl rfl ?_
  refine rn_aload_n (i := 2) rfl rfl ?_
  obtain ⟨hrc, hb⟩ := grd_spec hb
  obtain ⟨p1, hc, hb⟩ := Option.bind_eq_some_iff.mp hb
  refine Rn.call1 (d := e) (As := [va_rf v1, va_rf v2]) (rest := []) rfl rfl rfl (by decide) rfl rfl rfl (bd_rcV hrc rfl) (by decide) (bd_lenC (n := 4) rfl (bd_slR (bd_slR bd_slN)) rfl) (bd_locC (n := 4) rfl (bd_slR (bd_slR bd_slN)) rfl (t_125 e (by omega) v1 v2 h _ hc)) ?_
  obtain ⟨x2, ex2, hb⟩ := bnd_spec hb
  refine rn_istore (i := 4) (L1 := [some (va_rf v0), some (va_rf v1), some (va_rf v2), some (.int v3), some (.int x2)]) rfl (Nat.le_of_ble_eq_true rfl) (Or.inr rfl) (by rw [ex2]; rfl) ?_
  refine rn_iload (i := 4) rfl rfl ?_
  refine rn_iconst (x := (-1 : Int32)) rfl (by decide) ?_
  refine rn_icmp_ne rfl rfl (fun hc => ?_) (fun hc => ?_)
  · exact u_3_15 (e + 1) hd v0 v1 v2 v3 x2  p1.2 _ (if_t hb hc)
  · exact u_3_13 (e + 1) hd v0 v1 v2 v3 x2  p1.2 _ (if_f hb hc)
/-- BitingDoors$Day.readSwing(LBitingDoors$Text;LBitingDoors$House;I)Z -/
def f_3 (v0 : Option Nat) (v1 : Option Nat) (v2 : Option Nat) (v3 : Int32) (h : Hp) : Option (Int32 × Hp) := b_3_0 v0 v1 v2 v3 h
theorem t_3 (d : Nat) (hd : 3 ≤ d) (v0 : Option Nat) (v1 : Option Nat) (v2 : Option Nat) (v3 : Int32) (h : Hp) (r : Int32 × Hp) (hb : f_3 v0 v1 v2 v3 h = some r) : Rn d 3 0 [some (va_rf v0), some (va_rf v1), some (va_rf v2), some (.int v3), none] [] h (some (.int r.1), r.2) := by
  unfold f_3 at hb
  exact u_3_0 d hd v0 v1 v2 v3 h r hb
def b_120_25  (s0 : Int32) (h : Hp) : Option (Int32 × Hp) :=
  (grd (decide (s0 = 0 ∨ s0 = 1))).bind fun _ => some (s0, h)
theorem u_120_25 (d : Nat) (hd : 0 ≤ d) (v0 : Option Nat) (v1 : Option Nat) (s0 : Int32) (h : Hp) (r : Int32 × Hp) (hb : b_120_25  s0 h = some r) : Rn d 120 25 [some (va_rf v0), some (va_rf v1)] [.int s0] h (some (.int r.1), r.2) := by
  unfold b_120_25 at hb
  obtain ⟨hz, hb⟩ := grd_spec hb
  obtain rfl := Option.some.inj hb
  exact rn_zret rfl rfl (of_decide_eq_true hz)
def b_120_24   (h : Hp) : Option (Int32 × Hp) :=
  b_120_25  (nI 0) h
theorem u_120_24 (d : Nat) (hd : 0 ≤ d) (v0 : Option Nat) (v1 : Option Nat)  (h : Hp) (r : Int32 × Hp) (hb : b_120_24   h = some r) : Rn d 120 24 [some (va_rf v0), some (va_rf v1)] [] h (some (.int r.1), r.2) := by
  unfold b_120_24 at hb
  refine rn_iconst (x := (nI 0)) rfl (by decide) ?_
  exact u_120_25 d hd v0 v1 (nI 0) h _ hb
def b_120_20   (h : Hp) : Option (Int32 × Hp) :=
  b_120_25  (nI 1) h
theorem u_120_20 (d : Nat) (hd : 0 ≤ d) (v0 : Option Nat) (v1 : Option Nat)  (h : Hp) (r : Int32 × Hp) (hb : b_120_20   h = some r) : Rn d 120 20 [some (va_rf v0), some (va_rf v1)] [] h (some (.int r.1), r.2) := by
  unfold b_120_20 at hb
  refine rn_iconst (x := (nI 1)) rfl (by decide) ?_
  refine rn_goto rfl rfl ?_
  exact u_120_25 d hd v0 v1 (nI 1) h _ hb
def b_120_8 (v0 : Option Nat) (v1 : Option Nat)  (h : Hp) : Option (Int32 × Hp) :=
  (gJ 9 5 v0 h).bind fun x1 =>
  (gJ 19 0 v1 h).bind fun x2 =>
  if ¬ (lg_cmp x1 x2) = 0 then b_120_24   h else b_120_20   h
theorem u_120_8 (d : Nat) (hd : 0 ≤ d) (v0 : Option Nat) (v1 : Option Nat)  (h : Hp) (r : Int32 × Hp) (hb : b_120_8 v0 v1  h = some r) : Rn d 120 8 [some (va_rf v0), some (va_rf v1)] [] h (some (.int r.1), r.2) := by
  unfold b_120_8 at hb
  refine rn_aload_n (i := 0) rfl rfl ?_
  refine rn_gJ (c := 9) (k := 5) rfl (by decide) hb (fun x1 hb => ?_)
  refine rn_aload_n (i := 1) rfl rfl ?_
  refine rn_gJ (c := 19) (k := 0) rfl (by decide) hb (fun x2 hb => ?_)
  refine rn_lcmp rfl ?_
  refine rn_if_ne rfl rfl (fun hc => ?_) (fun hc => ?_)
  · exact u_120_24 d hd v0 v1  h _ (if_t hb hc)
  · exact u_120_20 d hd v0 v1  h _ (if_f hb hc)
def b_120_0 (v0 : Option Nat) (v1 : Option Nat)  (h : Hp) : Option (Int32 × Hp) :=
  (gI 9 2 v0 h).bind fun x1 =>
  if ¬ x1 = (nI 1) then b_120_24   h else b_120_8 v0 v1  h
theorem u_120_0 (d : Nat) (hd : 0 ≤ d) (v0 : Option Nat) (v1 : Option Nat)  (h : Hp) (r : Int32 × Hp) (hb : b_120_0 v0 v1  h = some r) : Rn d 120 0 [some (va_rf v0), some (va_rf v1)] [] h (some (.int r.1), r.2) := by
  unfold b_120_0 at hb
  refine rn_aload_n (i := 0) rfl rfl ?_
  refine rn_gI (c := 9) (k := 2) rfl (by decide) hb (fun x1 hb => ?_)
  refine rn_iconst (x := (nI 1)) rfl (by decide) ?_
  refine rn_icmp_ne rfl rfl (fun hc => ?_) (fun hc => ?_)
  · exact u_120_24 d hd v0 v1  h _ (if_t hb hc)
  · exact u_120_8 d hd v0 v1  h _ (if_f hb hc)
/-- BitingDoors$Text.isWord(LBitingDoors$Word;)Z -/
def f_120 (v0 : Option Nat) (v1 : Option Nat) (h : Hp) : Option (Int32 × Hp) := b_120_0 v0 v1 h
theorem t_120 (d : Nat) (hd : 0 ≤ d) (v0 : Option Nat) (v1 : Option Nat) (h : Hp) (r : Int32 × Hp) (hb : f_120 v0 v1 h = some r) : Rn d 120 0 [some (va_rf v0), some (va_rf v1)] [] h (some (.int r.1), r.2) := by
  unfold f_120 at hb
  exact u_120_0 d hd v0 v1 h r hb
def b_4_51  (s0 : Int32) (h : Hp) : Option (Int32 × Hp) :=
  some (s0, h)
theorem u_4_51 (d : Nat) (hd : 1 ≤ d) (v0 : Option Nat) (s0 : Int32) (h : Hp) (r : Int32 × Hp) (hb : b_4_51  s0 h = some r) : Rn d 4 51 [some (va_rf v0)] [.int s0] h (some (.int r.1), r.2) := by
  unfold b_4_51 at hb
  obtain rfl := Option.some.inj hb
  exact rn_iret rfl rfl
def b_4_50   (h : Hp) : Option (Int32 × Hp) :=
  b_4_51  (-1 : Int32) h
theorem u_4_50 (d : Nat) (hd : 1 ≤ d) (v0 : Option Nat)  (h : Hp) (r : Int32 × Hp) (hb : b_4_50   h = some r) : Rn d 4 50 [some (va_rf v0)] [] h (some (.int r.1), r.2) := by
  unfold b_4_50 at hb
  refine rn_iconst (x := (-1 : Int32)) rfl (by decide) ?_
  exact u_4_51 d hd v0 (-1 : Int32) h _ hb
def b_4_46   (h : Hp) : Option (Int32 × Hp) :=
  b_4_51  (nI 3) h
theorem u_4_46 (d : Nat) (hd : 1 ≤ d) (v0 : Option Nat)  (h : Hp) (r : Int32 × Hp) (hb : b_4_46   h = some r) : Rn d 4 46 [some (va_rf v0)] [] h (some (.int r.1), r.2) := by
  unfold b_4_46 at hb
  refine rn_iconst (x := (nI 3)) rfl (by decide) ?_
  refine rn_goto rfl rfl ?_
  exact u_4_51 d hd v0 (nI 3) h _ hb
def b_4_36 (v0 : Option Nat)  (h : Hp) : Option (Int32 × Hp) :=
  (grd (rC 9 v0 h)).bind fun _ =>
  (f_120 v0 (some 16) h).bind fun p1 =>
  if p1.1 = 0 then b_4_50   p1.2 else b_4_46   p1.2
theorem u_4_36 (d : Nat) (hd : 1 ≤ d) (v0 : Option Nat)  (h : Hp) (r : Int32 × Hp) (hb : b_4_36 v0  h = some r) : Rn d 4 36 [some (va_rf v0)] [] h (some (.int r.1), r.2) := by
  unfold b_4_36 at hb
  obtain ⟨e, rfl⟩ : ∃ e, d = e + 1 := ⟨d - 1, by omega⟩
  refine rn_aload_n (i := 0) rfl rfl ?_
  refine rn_getstatic rfl ?_
  obtain ⟨hrc, hb⟩ := grd_spec hb
  obtain ⟨p1, hc, hb⟩ := Option.bind_eq_some_iff.mp hb
  refine Rn.call1 (d := e) (As := [va_rf v0, va_rf (some 16)]) (rest := []) rfl rfl rfl (by decide) rfl rfl rfl (bd_rcV hrc rfl) (by decide) (bd_lenC (n := 2) rfl (bd_slR (bd_slR bd_slN)) rfl) (bd_locC (n := 2) rfl (bd_slR (bd_slR bd_slN)) rfl (t_120 e (by omega) v0 (some 16) h _ hc)) ?_
  refine rn_if_eq rfl rfl (fun hc => ?_) (fun hc => ?_)
  · exact u_4_50 (e + 1) hd v0  p1.2 _ (if_t hb hc)
  · exact u_4_46 (e + 1) hd v0  p1.2 _ (if_f hb hc)
def b_4_34   (h : Hp) : Option (Int32 × Hp) :=
  some ((nI 2), h)
theorem u_4_34 (d : Nat) (hd : 1 ≤ d) (v0 : Option Nat)  (h : Hp) (r : Int32 × Hp) (hb : b_4_34   h = some r) : Rn d 4 34 [some (va_rf v0)] [] h (some (.int r.1), r.2) := by
  unfold b_4_34 at hb
  refine rn_iconst (x := (nI 2)) rfl (by decide) ?_
  obtain rfl := Option.some.inj hb
  exact rn_iret rfl rfl
def b_4_24 (v0 : Option Nat)  (h : Hp) : Option (Int32 × Hp) :=
  (grd (rC 9 v0 h)).bind fun _ =>
  (f_120 v0 (some 15) h).bind fun p1 =>
  if p1.1 = 0 then b_4_36 v0  p1.2 else b_4_34   p1.2
theorem u_4_24 (d : Nat) (hd : 1 ≤ d) (v0 : Option Nat)  (h : Hp) (r : Int32 × Hp) (hb : b_4_24 v0  h = some r) : Rn d 4 24 [some (va_rf v0)] [] h (some (.int r.1), r.2) := by
  unfold b_4_24 at hb
  obtain ⟨e, rfl⟩ : ∃ e, d = e + 1 := ⟨d - 1, by omega⟩
  refine rn_aload_n (i := 0) rfl rfl ?_
  refine rn_getstatic rfl ?_
  obtain ⟨hrc, hb⟩ := grd_spec hb
  obtain ⟨p1, hc, hb⟩ := Option.bind_eq_some_iff.mp hb
  refine Rn.call1 (d := e) (As := [va_rf v0, va_rf (some 15)]) (rest := []) rfl rfl rfl (by decide) rfl rfl rfl (bd_rcV hrc rfl) (by decide) (bd_lenC (n := 2) rfl (bd_slR (bd_slR bd_slN)) rfl) (bd_locC (n := 2) rfl (bd_slR (bd_slR bd_slN)) rfl (t_120 e (by omega) v0 (some 15) h _ hc)) ?_
  refine rn_if_eq rfl rfl (fun hc => ?_) (fun hc => ?_)
  · exact u_4_36 (e + 1) hd v0  p1.2 _ (if_t hb hc)
  · exact u_4_34 (e + 1) hd v0  p1.2 _ (if_f hb hc)
def b_4_22   (h : Hp) : Option (Int32 × Hp) :=
  some ((nI 1), h)
theorem u_4_22 (d : Nat) (hd : 1 ≤ d) (v0 : Option Nat)  (h : Hp) (r : Int32 × Hp) (hb : b_4_22   h = some r) : Rn d 4 22 [some (va_rf v0)] [] h (some (.int r.1), r.2) := by
  unfold b_4_22 at hb
  refine rn_iconst (x := (nI 1)) rfl (by decide) ?_
  obtain rfl := Option.some.inj hb
  exact rn_iret rfl rfl
def b_4_12 (v0 : Option Nat)  (h : Hp) : Option (Int32 × Hp) :=
  (grd (rC 9 v0 h)).bind fun _ =>
  (f_120 v0 (some 14) h).bind fun p1 =>
  if p1.1 = 0 then b_4_24 v0  p1.2 else b_4_22   p1.2
theorem u_4_12 (d : Nat) (hd : 1 ≤ d) (v0 : Option Nat)  (h : Hp) (r : Int32 × Hp) (hb : b_4_12 v0  h = some r) : Rn d 4 12 [some (va_rf v0)] [] h (some (.int r.1), r.2) := by
  unfold b_4_12 at hb
  obtain ⟨e, rfl⟩ : ∃ e, d = e + 1 := ⟨d - 1, by omega⟩
  refine rn_aload_n (i := 0) rfl rfl ?_
  refine rn_getstatic rfl ?_
  obtain ⟨hrc, hb⟩ := grd_spec hb
  obtain ⟨p1, hc, hb⟩ := Option.bind_eq_some_iff.mp hb
  refine Rn.call1 (d := e) (As := [va_rf v0, va_rf (some 14)]) (rest := []) rfl rfl rfl (by decide) rfl rfl rfl (bd_rcV hrc rfl) (by decide) (bd_lenC (n := 2) rfl (bd_slR (bd_slR bd_slN)) rfl) (bd_locC (n := 2) rfl (bd_slR (bd_slR bd_slN)) rfl (t_120 e (by omega) v0 (some 14) h _ hc)) ?_
  refine rn_if_eq rfl rfl (fun hc => ?_) (fun hc => ?_)
  · exact u_4_24 (e + 1) hd v0  p1.2 _ (if_t hb hc)
  · exact u_4_22 (e + 1) hd v0  p1.2 _ (if_f hb hc)
def b_4_10   (h : Hp) : Option (Int32 × Hp) :=
  some ((nI 0), h)
theorem u_4_10 (d : Nat) (hd : 1 ≤ d) (v0 : Option Nat)  (h : Hp) (r : Int32 × Hp) (hb : b_4_10   h = some r) : Rn d 4 10 [some (va_rf v0)] [] h (some (.int r.1), r.2) := by
  unfold b_4_10 at hb
  refine rn_iconst (x := (nI 0)) rfl (by decide) ?_
  obtain rfl := Option.some.inj hb
  exact rn_iret rfl rfl
def b_4_0 (v0 : Option Nat)  (h : Hp) : Option (Int32 × Hp) :=
  (grd (rC 9 v0 h)).bind fun _ =>
  (f_120 v0 (some 13) h).bind fun p1 =>
  if p1.1 = 0 then b_4_12 v0  p1.2 else b_4_10   p1.2
theorem u_4_0 (d : Nat) (hd : 1 ≤ d) (v0 : Option Nat)  (h : Hp) (r : Int32 × Hp) (hb : b_4_0 v0  h = some r) : Rn d 4 0 [some (va_rf v0)] [] h (some (.int r.1), r.2) := by
  unfold b_4_0 at hb
  obtain ⟨e, rfl⟩ : ∃ e, d = e + 1 := ⟨d - 1, by omega⟩
  refine rn_aload_n (i := 0) rfl rfl ?_
  refine rn_getstatic rfl ?_
  obtain ⟨hrc, hb⟩ := grd_spec hb
  obtain ⟨p1, hc, hb⟩ := Option.bind_eq_some_iff.mp hb
  refine Rn.call1 (d := e) (As := [va_rf v0, va_rf (some 13)]) (rest := []) rfl rfl rfl (by decide) rfl rfl rfl (bd_rcV hrc rfl) (by decide) (bd_lenC (n := 2) rfl (bd_slR (bd_slR bd_slN)) rfl) (bd_locC (n := 2) rfl (bd_slR (bd_slR bd_slN)) rfl (t_120 e (by omega) v0 (some 13) h _ hc)) ?_
  refine rn_if_eq rfl rfl (fun hc => ?_) (fun hc => ?_)
  · exact u_4_12 (e + 1) hd v0  p1.2 _ (if_t hb hc)
  · exact u_4_10 (e + 1) hd v0  p1.2 _ (if_f hb hc)
/-- BitingDoors$Day.sideOf(LBitingDoors$Text;)I -/
def f_4 (v0 : Option Nat) (h : Hp) : Option (Int32 × Hp) := b_4_0 v0 h
theorem t_4 (d : Nat) (hd : 1 ≤ d) (v0 : Option Nat) (h : Hp) (r : Int32 × Hp) (hb : f_4 v0 h = some r) : Rn d 4 0 [some (va_rf v0)] [] h (some (.int r.1), r.2) := by
  unfold f_4 at hb
  exact u_4_0 d hd v0 h r hb
def b_124_43  (s0 : Int32) (h : Hp) : Option (Int32 × Hp) :=
  (grd (decide (s0 = 0 ∨ s0 = 1))).bind fun _ => some (s0, h)
theorem u_124_43 (d : Nat) (hd : 1 ≤ d) (v0 : Option Nat) (v1 : Int32) (v2 : Int32) (s0 : Int32) (h : Hp) (r : Int32 × Hp) (hb : b_124_43  s0 h = some r) : Rn d 124 43 [some (va_rf v0), some (.int v1), some (.int v2)] [.int s0] h (some (.int r.1), r.2) := by
  unfold b_124_43 at hb
  obtain ⟨hz, hb⟩ := grd_spec hb
  obtain rfl := Option.some.inj hb
  exact rn_zret rfl rfl (of_decide_eq_true hz)
def b_124_42   (h : Hp) : Option (Int32 × Hp) :=
  b_124_43  (nI 0) h
theorem u_124_42 (d : Nat) (hd : 1 ≤ d) (v0 : Option Nat) (v1 : Int32) (v2 : Int32)  (h : Hp) (r : Int32 × Hp) (hb : b_124_42   h = some r) : Rn d 124 42 [some (va_rf v0), some (.int v1), some (.int v2)] [] h (some (.int r.1), r.2) := by
  unfold b_124_42 at hb
  refine rn_iconst (x := (nI 0)) rfl (by decide) ?_
  exact u_124_43 d hd v0 v1 v2 (nI 0) h _ hb
def b_124_38   (h : Hp) : Option (Int32 × Hp) :=
  b_124_43  (nI 1) h
theorem u_124_38 (d : Nat) (hd : 1 ≤ d) (v0 : Option Nat) (v1 : Int32) (v2 : Int32)  (h : Hp) (r : Int32 × Hp) (hb : b_124_38   h = some r) : Rn d 124 38 [some (va_rf v0), some (.int v1), some (.int v2)] [] h (some (.int r.1), r.2) := by
  unfold b_124_38 at hb
  refine rn_iconst (x := (nI 1)) rfl (by decide) ?_
  refine rn_goto rfl rfl ?_
  exact u_124_43 d hd v0 v1 v2 (nI 1) h _ hb
def b_124_30 (v0 : Option Nat)  (h : Hp) : Option (Int32 × Hp) :=
  (grd (rC 9 v0 h)).bind fun _ =>
  (f_119 v0 (nI 2) h).bind fun p1 =>
  if p1.1 = 0 then b_124_42   p1.2 else b_124_38   p1.2
theorem u_124_30 (d : Nat) (hd : 1 ≤ d) (v0 : Option Nat) (v1 : Int32) (v2 : Int32)  (h : Hp) (r : Int32 × Hp) (hb : b_124_30 v0  h = some r) : Rn d 124 30 [some (va_rf v0), some (.int v1), some (.int v2)] [] h (some (.int r.1), r.2) := by
  unfold b_124_30 at hb
  obtain ⟨e, rfl⟩ : ∃ e, d = e + 1 := ⟨d - 1, by omega⟩
  refine rn_aload_n (i := 0) rfl rfl ?_
  refine rn_iconst (x := (nI 2)) rfl (by decide) ?_
  obtain ⟨hrc, hb⟩ := grd_spec hb
  obtain ⟨p1, hc, hb⟩ := Option.bind_eq_some_iff.mp hb
  refine Rn.call1 (d := e) (As := [va_rf v0, .int (nI 2)]) (rest := []) rfl rfl rfl (by decide) rfl rfl rfl (bd_rcV hrc rfl) (by decide) (bd_lenC (n := 2) rfl (bd_slR (bd_slI bd_slN)) rfl) (bd_locC (n := 2) rfl (bd_slR (bd_slI bd_slN)) rfl (t_119 e (by omega) v0 (nI 2) h _ hc)) ?_
  refine rn_if_eq rfl rfl (fun hc => ?_) (fun hc => ?_)
  · exact u_124_42 (e + 1) hd v0 v1 v2  p1.2 _ (if_t hb hc)
  · exact u_124_38 (e + 1) hd v0 v1 v2  p1.2 _ (if_f hb hc)
def b_124_22 (v0 : Option Nat) (v2 : Int32)  (h : Hp) : Option (Int32 × Hp) :=
  (gI 9 4 v0 h).bind fun x1 =>
  if x1 ≤ v2 then b_124_38   h else b_124_30 v0  h
theorem u_124_22 (d : Nat) (hd : 1 ≤ d) (v0 : Option Nat) (v1 : Int32) (v2 : Int32)  (h : Hp) (r : Int32 × Hp) (hb : b_124_22 v0 v2  h = some r) : Rn d 124 22 [some (va_rf v0), some (.int v1), some (.int v2)] [] h (some (.int r.1), r.2) := by
  unfold b_124_22 at hb
  refine rn_aload_n (i := 0) rfl rfl ?_
  refine rn_gI (c := 9) (k := 4) rfl (by decide) hb (fun x1 hb => ?_)
  refine rn_iload_n (i := 2) rfl rfl ?_
  refine rn_icmp_le rfl rfl (fun hc => ?_) (fun hc => ?_)
  · exact u_124_38 d hd v0 v1 v2  h _ (if_t hb hc)
  · exact u_124_30 d hd v0 v1 v2  h _ (if_f hb hc)
def b_124_14 (v0 : Option Nat) (v1 : Int32) (v2 : Int32)  (h : Hp) : Option (Int32 × Hp) :=
  (gI 9 4 v0 h).bind fun x1 =>
  if x1 < v1 then b_124_30 v0  h else b_124_22 v0 v2  h
theorem u_124_14 (d : Nat) (hd : 1 ≤ d) (v0 : Option Nat) (v1 : Int32) (v2 : Int32)  (h : Hp) (r : Int32 × Hp) (hb : b_124_14 v0 v1 v2  h = some r) : Rn d 124 14 [some (va_rf v0), some (.int v1), some (.int v2)] [] h (some (.int r.1), r.2) := by
  unfold b_124_14 at hb
  refine rn_aload_n (i := 0) rfl rfl ?_
  refine rn_gI (c := 9) (k := 4) rfl (by decide) hb (fun x1 hb => ?_)
  refine rn_iload_n (i := 1) rfl rfl ?_
  refine rn_icmp_lt rfl rfl (fun hc => ?_) (fun hc => ?_)
  · exact u_124_30 d hd v0 v1 v2  h _ (if_t hb hc)
  · exact u_124_22 d hd v0 v1 v2  h _ (if_f hb hc)
def b_124_8 (v0 : Option Nat)  (h : Hp) : Option (Int32 × Hp) :=
  (grd (rC 9 v0 h)).bind fun _ =>
  (f_119 v0 (nI 1) h).bind fun p1 =>
  (grd (decide (p1.1 = 0 ∨ p1.1 = 1))).bind fun _ => some (p1.1, p1.2)
theorem u_124_8 (d : Nat) (hd : 1 ≤ d) (v0 : Option Nat) (v1 : Int32) (v2 : Int32)  (h : Hp) (r : Int32 × Hp) (hb : b_124_8 v0  h = some r) : Rn d 124 8 [some (va_rf v0), some (.int v1), some (.int v2)] [] h (some (.int r.1), r.2) := by
  unfold b_124_8 at hb
  obtain ⟨e, rfl⟩ : ∃ e, d = e + 1 := ⟨d - 1, by omega⟩
  refine rn_aload_n (i := 0) rfl rfl ?_
  refine rn_iconst (x := (nI 1)) rfl (by decide) ?_
  obtain ⟨hrc, hb⟩ := grd_spec hb
  obtain ⟨p1, hc, hb⟩ := Option.bind_eq_some_iff.mp hb
  refine Rn.call1 (d := e) (As := [va_rf v0, .int (nI 1)]) (rest := []) rfl rfl rfl (by decide) rfl rfl rfl (bd_rcV hrc rfl) (by decide) (bd_lenC (n := 2) rfl (bd_slR (bd_slI bd_slN)) rfl) (bd_locC (n := 2) rfl (bd_slR (bd_slI bd_slN)) rfl (t_119 e (by omega) v0 (nI 1) h _ hc)) ?_
  obtain ⟨hz, hb⟩ := grd_spec hb
  obtain rfl := Option.some.inj hb
  exact rn_zret rfl rfl (of_decide_eq_true hz)
def b_124_0 (v0 : Option Nat) (v1 : Int32) (v2 : Int32)  (h : Hp) : Option (Int32 × Hp) :=
  (gI 9 2 v0 h).bind fun x1 =>
  if x1 = (nI 2) then b_124_14 v0 v1 v2  h else b_124_8 v0  h
theorem u_124_0 (d : Nat) (hd : 1 ≤ d) (v0 : Option Nat) (v1 : Int32) (v2 : Int32)  (h : Hp) (r : Int32 × Hp) (hb : b_124_0 v0 v1 v2  h = some r) : Rn d 124 0 [some (va_rf v0), some (.int v1), some (.int v2)] [] h (some (.int r.1), r.2) := by
  unfold b_124_0 at hb
  refine rn_aload_n (i := 0) rfl rfl ?_
  refine rn_gI (c := 9) (k := 2) rfl (by decide) hb (fun x1 hb => ?_)
  refine rn_iconst (x := (nI 2)) rfl (by decide) ?_
  refine rn_icmp_eq rfl rfl (fun hc => ?_) (fun hc => ?_)
  · exact u_124_14 d hd v0 v1 v2  h _ (if_t hb hc)
  · exact u_124_8 d hd v0 v1 v2  h _ (if_f hb hc)
/-- BitingDoors$Text.isNumberWithin(II)Z -/
def f_124 (v0 : Option Nat) (v1 : Int32) (v2 : Int32) (h : Hp) : Option (Int32 × Hp) := b_124_0 v0 v1 v2 h
theorem t_124 (d : Nat) (hd : 1 ≤ d) (v0 : Option Nat) (v1 : Int32) (v2 : Int32) (h : Hp) (r : Int32 × Hp) (hb : f_124 v0 v1 v2 h = some r) : Rn d 124 0 [some (va_rf v0), some (.int v1), some (.int v2)] [] h (some (.int r.1), r.2) := by
  unfold f_124 at hb
  exact u_124_0 d hd v0 v1 v2 h r hb
def b_5_12 (v0 : Option Nat) (v1 : Option Nat)  (h : Hp) : Option (Int32 × Hp) :=
  (gQ 0 1 v0 h).bind fun x1 =>
  (gI 0 2 v0 h).bind fun x2 =>
  (gI 9 4 v1 h).bind fun x3 =>
  (wI x1 x2 x3 h).bind fun h4 =>
  (grd (rC 9 v1 h4)).bind fun _ =>
  (f_117 v1 h4).bind fun p5 =>
  (grd (decide ((nI 1) = 0 ∨ (nI 1) = 1))).bind fun _ => some ((nI 1), p5)
theorem u_5_12 (d : Nat) (hd : 2 ≤ d) (v0 : Option Nat) (v1 : Option Nat)  (h : Hp) (r : Int32 × Hp) (hb : b_5_12 v0 v1  h = some r) : Rn d 5 12 [some (va_rf v0), some (va_rf v1)] [] h (some (.int r.1), r.2) := by
  unfold b_5_12 at hb
  obtain ⟨e, rfl⟩ : ∃ e, d = e + 1 := ⟨d - 1, by omega⟩
  refine rn_aload_n (i := 0) rfl rfl ?_
  refine rn_gQ (c := 0) (k := 1) rfl (by decide) hb (fun x1 hb => ?_)
  refine rn_aload_n (i := 0) rfl rfl ?_
  refine rn_gI (c := 0) (k := 2) rfl (by decide) hb (fun x2 hb => ?_)
  refine rn_aload_n (i := 1) rfl rfl ?_
  refine rn_gI (c := 9) (k := 4) rfl (by decide) hb (fun x3 hb => ?_)
  refine rn_wI rfl hb (fun h4 hb => ?_)
  refine rn_aload_n (i := 1) rfl rfl ?_
  obtain ⟨hrc, hb⟩ := grd_spec hb
  obtain ⟨p5, hc, hb⟩ := Option.bind_eq_some_iff.mp hb
  refine Rn.call0 (d := e) (As := [va_rf v1]) (rest := []) rfl rfl rfl (by decide) rfl rfl rfl (bd_rcV hrc rfl) (by decide) (bd_lenC (n := 3) rfl (bd_slR bd_slN) rfl) (bd_locC (n := 3) rfl (bd_slR bd_slN) rfl (t_117 e (by omega) v1 h4 _ hc)) ?_
  refine rn_iconst (x := (nI 1)) rfl (by decide) ?_
  obtain ⟨hz, hb⟩ := grd_spec hb
  obtain rfl := Option.some.inj hb
  exact rn_zret rfl rfl (of_decide_eq_true hz)
def b_5_10   (h : Hp) : Option (Int32 × Hp) :=
  (grd (decide ((nI 0) = 0 ∨ (nI 0) = 1))).bind fun _ => some ((nI 0), h)
theorem u_5_10 (d : Nat) (hd : 2 ≤ d) (v0 : Option Nat) (v1 : Option Nat)  (h : Hp) (r : Int32 × Hp) (hb : b_5_10   h = some r) : Rn d 5 10 [some (va_rf v0), some (va_rf v1)] [] h (some (.int r.1), r.2) := by
  unfold b_5_10 at hb
  refine rn_iconst (x := (nI 0)) rfl (by decide) ?_
  obtain ⟨hz, hb⟩ := grd_spec hb
  obtain rfl := Option.some.inj hb
  exact rn_zret rfl rfl (of_decide_eq_true hz)
def b_5_0 (v0 : Option Nat) (v1 : Option Nat)  (h : Hp) : Option (Int32 × Hp) :=
  (grd (rC 9 v1 h)).bind fun _ =>
  (f_124 v1 (nI 1) (nI 30) h).bind fun p1 =>
  if ¬ p1.1 = 0 then b_5_12 v0 v1  p1.2 else b_5_10   p1.2
theorem u_5_0 (d : Nat) (hd : 2 ≤ d) (v0 : Option Nat) (v1 : Option Nat)  (h : Hp) (r : Int32 × Hp) (hb : b_5_0 v0 v1  h = some r) : Rn d 5 0 [some (va_rf v0), some (va_rf v1)] [] h (some (.int r.1), r.2) := by
  unfold b_5_0 at hb
  obtain ⟨e, rfl⟩ : ∃ e, d = e + 1 := ⟨d - 1, by omega⟩
  refine rn_aload_n (i := 1) rfl rfl ?_
  refine rn_iconst (x := (nI 1)) rfl (by decide) ?_
  refine rn_bipush (x := (nI 30)) rfl (by decide) ?_
  obtain ⟨hrc, hb⟩ := grd_spec hb
  obtain ⟨p1, hc, hb⟩ := Option.bind_eq_some_iff.mp hb
  refine Rn.call1 (d := e) (As := [va_rf v1, .int (nI 1), .int (nI 30)]) (rest := []) rfl rfl rfl (by decide) rfl rfl rfl (bd_rcV hrc rfl) (by decide) (bd_lenC (n := 3) rfl (bd_slR (bd_slI (bd_slI bd_slN))) rfl) (bd_locC (n := 3) rfl (bd_slR (bd_slI (bd_slI bd_slN))) rfl (t_124 e (by omega) v1 (nI 1) (nI 30) h _ hc)) ?_
  refine rn_if_ne rfl rfl (fun hc => ?_) (fun hc => ?_)
  · exact u_5_12 (e + 1) hd v0 v1  p1.2 _ (if_t hb hc)
  · exact u_5_10 (e + 1) hd v0 v1  p1.2 _ (if_f hb hc)
/-- BitingDoors$Day.readTimes(LBitingDoors$Text;)Z -/
def f_5 (v0 : Option Nat) (v1 : Option Nat) (h : Hp) : Option (Int32 × Hp) := b_5_0 v0 v1 h
theorem t_5 (d : Nat) (hd : 2 ≤ d) (v0 : Option Nat) (v1 : Option Nat) (h : Hp) (r : Int32 × Hp) (hb : f_5 v0 v1 h = some r) : Rn d 5 0 [some (va_rf v0), some (va_rf v1)] [] h (some (.int r.1), r.2) := by
  unfold f_5 at hb
  exact u_5_0 d hd v0 v1 h r hb
def b_2_157 (v0 : Option Nat) (v1 : Option Nat)  (h : Hp) : Option (Int32 × Hp) :=
  (grd (rC 0 v0 h)).bind fun _ =>
  (f_5 v0 v1 h).bind fun p1 =>
  (grd (decide (p1.1 = 0 ∨ p1.1 = 1))).bind fun _ => some (p1.1, p1.2)
theorem u_2_157 (d : Nat) (hd : 4 ≤ d) (v0 : Option Nat) (v1 : Option Nat) (v2 : Option Nat) (v3 : Int32) (v4 : Int32) (v5 : Int32)  (h : Hp) (r : Int32 × Hp) (hb : b_2_157 v0 v1  h = some r) : Rn d 2 157 [some (va_rf v0), some (va_rf v1), some (va_rf v2), some (.int v3), some (.int v4), some (.int v5)] [] h (some (.int r.1), r.2) := by
  unfold b_2_157 at hb
  obtain ⟨e, rfl⟩ : ∃ e, d = e + 1 := ⟨d - 1, by omega⟩
  refine rn_aload_n (i := 0) rfl rfl ?_
  refine rn_aload_n (i := 1) rfl rfl ?_
  obtain ⟨hrc, hb⟩ := grd_spec hb
  obtain ⟨p1, hc, hb⟩ := Option.bind_eq_some_iff.mp hb
  refine Rn.call1 (d := e) (As := [va_rf v0, va_rf v1]) (rest := []) rfl rfl rfl (by decide) rfl rfl rfl (bd_rcV hrc rfl) (by decide) (bd_lenC (n := 2) rfl (bd_slR (bd_slR bd_slN)) rfl) (bd_locC (n := 2) rfl (bd_slR (bd_slR bd_slN)) rfl (t_5 e (by omega) v0 v1 h _ hc)) ?_
  obtain ⟨hz, hb⟩ := grd_spec hb
  obtain rfl := Option.some.inj hb
  exact rn_zret rfl rfl (of_decide_eq_true hz)
def b_2_153 (v0 : Option Nat) (v1 : Option Nat)  (h : Hp) : Option (Int32 × Hp) :=
  (grd (rC 9 v1 h)).bind fun _ =>
  (f_117 v1 h).bind fun p1 =>
  b_2_157 v0 v1  p1
theorem u_2_153 (d : Nat) (hd : 4 ≤ d) (v0 : Option Nat) (v1 : Option Nat) (v2 : Option Nat) (v3 : Int32) (v4 : Int32) (v5 : Int32)  (h : Hp) (r : Int32 × Hp) (hb : b_2_153 v0 v1  h = some r) : Rn d 2 153 [some (va_rf v0), some (va_rf v1), some (va_rf v2), some (.int v3), some (.int v4), some (.int v5)] [] h (some (.int r.1), r.2) := by
  unfold b_2_153 at hb
  obtain ⟨e, rfl⟩ : ∃ e, d = e + 1 := ⟨d - 1, by omega⟩
  refine rn_aload_n (i := 1) rfl rfl ?_
  obtain ⟨hrc, hb⟩ := grd_spec hb
  obtain ⟨p1, hc, hb⟩ := Option.bind_eq_some_iff.mp hb
  refine Rn.call0 (d := e) (As := [va_rf v1]) (rest := []) rfl rfl rfl (by decide) rfl rfl rfl (bd_rcV hrc rfl) (by decide) (bd_lenC (n := 3) rfl (bd_slR bd_slN) rfl) (bd_locC (n := 3) rfl (bd_slR bd_slN) rfl (t_117 e (by omega) v1 h _ hc)) ?_
  exact u_2_157 (e + 1) hd v0 v1 v2 v3 v4 v5  p1 _ hb
def b_2_149 (v0 : Option Nat) (v1 : Option Nat) (v3 : Int32)  (h : Hp) : Option (Int32 × Hp) :=
  if v3 = 0 then b_2_157 v0 v1  h else b_2_153 v0 v1  h
theorem u_2_149 (d : Nat) (hd : 4 ≤ d) (v0 : Option Nat) (v1 : Option Nat) (v2 : Option Nat) (v3 : Int32) (v4 : Int32) (v5 : Int32)  (h : Hp) (r : Int32 × Hp) (hb : b_2_149 v0 v1 v3  h = some r) : Rn d 2 149 [some (va_rf v0), some (va_rf v1), some (va_rf v2), some (.int v3), some (.int v4), some (.int v5)] [] h (some (.int r.1), r.2) := by
  unfold b_2_149 at hb
  refine rn_iload_n (i := 3) rfl rfl ?_
  refine rn_if_eq rfl rfl (fun hc => ?_) (fun hc => ?_)
  · exact u_2_157 d hd v0 v1 v2 v3 v4 v5  h _ (if_t hb hc)
  · exact u_2_153 d hd v0 v1 v2 v3 v4 v5  h _ (if_f hb hc)
def b_2_143 (v1 : Option Nat)  (h : Hp) : Option (Int32 × Hp) :=
  (grd (rC 9 v1 h)).bind fun _ =>
  (f_119 v1 (nI 1) h).bind fun p1 =>
  (grd (decide (p1.1 = 0 ∨ p1.1 = 1))).bind fun _ => some (p1.1, p1.2)
theorem u_2_143 (d : Nat) (hd : 4 ≤ d) (v0 : Option Nat) (v1 : Option Nat) (v2 : Option Nat) (v3 : Int32) (v4 : Int32) (v5 : Int32)  (h : Hp) (r : Int32 × Hp) (hb : b_2_143 v1  h = some r) : Rn d 2 143 [some (va_rf v0), some (va_rf v1), some (va_rf v2), some (.int v3), some (.int v4), some (.int v5)] [] h (some (.int r.1), r.2) := by
  unfold b_2_143 at hb
  obtain ⟨e, rfl⟩ : ∃ e, d = e + 1 := ⟨d - 1, by omega⟩
  refine rn_aload_n (i := 1) rfl rfl ?_
  refine rn_iconst (x := (nI 1)) rfl (by decide) ?_
  obtain ⟨hrc, hb⟩ := grd_spec hb
  obtain ⟨p1, hc, hb⟩ := Option.bind_eq_some_iff.mp hb
  refine Rn.call1 (d := e) (As := [va_rf v1, .int (nI 1)]) (rest := []) rfl rfl rfl (by decide) rfl rfl rfl (bd_rcV hrc rfl) (by decide) (bd_lenC (n := 2) rfl (bd_slR (bd_slI bd_slN)) rfl) (bd_locC (n := 2) rfl (bd_slR (bd_slI bd_slN)) rfl (t_119 e (by omega) v1 (nI 1) h _ hc)) ?_
  obtain ⟨hz, hb⟩ := grd_spec hb
  obtain rfl := Option.some.inj hb
  exact rn_zret rfl rfl (of_decide_eq_true hz)
def b_2_130 (v0 : Option Nat) (v1 : Option Nat) (v3 : Int32)  (h : Hp) : Option (Int32 × Hp) :=
  (gQ 0 0 v0 h).bind fun x1 =>
  (gI 0 2 v0 h).bind fun x2 =>
  (aI 12 x1 x2 h).bind fun x3 =>
  if ¬ x3 = (-1 : Int32) then b_2_149 v0 v1 v3  h else b_2_143 v1  h
theorem u_2_130 (d : Nat) (hd : 4 ≤ d) (v0 : Option Nat) (v1 : Option Nat) (v2 : Option Nat) (v3 : Int32) (v4 : Int32) (v5 : Int32)  (h : Hp) (r : Int32 × Hp) (hb : b_2_130 v0 v1 v3  h = some r) : Rn d 2 130 [some (va_rf v0), some (va_rf v1), some (va_rf v2), some (.int v3), some (.int v4), some (.int v5)] [] h (some (.int r.1), r.2) := by
  unfold b_2_130 at hb
  refine rn_aload_n (i := 0) rfl rfl ?_
  refine rn_gQ (c := 0) (k := 0) rfl (by decide) hb (fun x1 hb => ?_)
  refine rn_aload_n (i := 0) rfl rfl ?_
  refine rn_gI (c := 0) (k := 2) rfl (by decide) hb (fun x2 hb => ?_)
  refine rn_aI rfl hb (fun x3 hb => ?_)
  refine rn_iconst (x := (-1 : Int32)) rfl (by decide) ?_
  refine rn_icmp_ne rfl rfl (fun hc => ?_) (fun hc => ?_)
  · exact u_2_149 d hd v0 v1 v2 v3 v4 v5  h _ (if_t hb hc)
  · exact u_2_143 d hd v0 v1 v2 v3 v4 v5  h _ (if_f hb hc)
def b_2_125 (v0 : Option Nat) (v1 : Option Nat) (v3 : Int32) (s0 : Option Nat) (s1 : Int32) (s2 : Int32) (h : Hp) : Option (Int32 × Hp) :=
  (wI s0 s1 s2 h).bind fun h1 =>
  if v3 = 0 then b_2_149 v0 v1 v3  h1 else b_2_130 v0 v1 v3  h1
theorem u_2_125 (d : Nat) (hd : 4 ≤ d) (v0 : Option Nat) (v1 : Option Nat) (v2 : Option Nat) (v3 : Int32) (v4 : Int32) (v5 : Int32) (s0 : Option Nat) (s1 : Int32) (s2 : Int32) (h : Hp) (r : Int32 × Hp) (hb : b_2_125 v0 v1 v3 s0 s1 s2 h = some r) : Rn d 2 125 [some (va_rf v0), some (va_rf v1), some (va_rf v2), some (.int v3), some (.int v4), some (.int v5)] [.int s2, .int s1, va_rf s0] h (some (.int r.1), r.2) := by
  unfold b_2_125 at hb
  refine rn_wI rfl hb (fun h1 hb => ?_)
  refine rn_iload_n (i := 3) rfl rfl ?_
  refine rn_if_eq rfl rfl (fun hc => ?_) (fun hc => ?_)
  · exact u_2_149 d hd v0 v1 v2 v3 v4 v5  h1 _ (if_t hb hc)
  · exact u_2_130 d hd v0 v1 v2 v3 v4 v5  h1 _ (if_f hb hc)
def b_2_124 (v0 : Option Nat) (v1 : Option Nat) (v3 : Int32) (s0 : Option Nat) (s1 : Int32) (h : Hp) : Option (Int32 × Hp) :=
  b_2_125 v0 v1 v3 s0 s1 (-1 : Int32) h
theorem u_2_124 (d : Nat) (hd : 4 ≤ d) (v0 : Option Nat) (v1 : Option Nat) (v2 : Option Nat) (v3 : Int32) (v4 : Int32) (v5 : Int32) (s0 : Option Nat) (s1 : Int32) (h : Hp) (r : Int32 × Hp) (hb : b_2_124 v0 v1 v3 s0 s1 h = some r) : Rn d 2 124 [some (va_rf v0), some (va_rf v1), some (va_rf v2), some (.int v3), some (.int v4), some (.int v5)] [.int s1, va_rf s0] h (some (.int r.1), r.2) := by
  unfold b_2_124 at hb
  refine rn_iconst (x := (-1 : Int32)) rfl (by decide) ?_
  exact u_2_125 d hd v0 v1 v2 v3 v4 v5 s0 s1 (-1 : Int32) h _ hb
def b_2_117 (v0 : Option Nat) (v1 : Option Nat) (v3 : Int32) (s0 : Option Nat) (s1 : Int32) (h : Hp) : Option (Int32 × Hp) :=
  (f_4 v1 h).bind fun p1 =>
  b_2_125 v0 v1 v3 s0 s1 p1.1 p1.2
theorem u_2_117 (d : Nat) (hd : 4 ≤ d) (v0 : Option Nat) (v1 : Option Nat) (v2 : Option Nat) (v3 : Int32) (v4 : Int32) (v5 : Int32) (s0 : Option Nat) (s1 : Int32) (h : Hp) (r : Int32 × Hp) (hb : b_2_117 v0 v1 v3 s0 s1 h = some r) : Rn d 2 117 [some (va_rf v0), some (va_rf v1), some (va_rf v2), some (.int v3), some (.int v4), some (.int v5)] [.int s1, va_rf s0] h (some (.int r.1), r.2) := by
  unfold b_2_117 at hb
  obtain ⟨e, rfl⟩ : ∃ e, d = e + 1 := ⟨d - 1, by omega⟩
  refine rn_aload_n (i := 1) rfl rfl ?_
  obtain ⟨p1, hc, hb⟩ := Option.bind_eq_some_iff.mp hb
  refine Rn.call1 (d := e) (As := [va_rf v1]) (rest := [.int s1, va_rf s0]) rfl rfl rfl (by decide) rfl rfl rfl rfl (by rw [bd_cI (bd_cR (bd_cN))]; decide) (bd_lenC (n := 1) rfl (bd_slR bd_slN) rfl) (bd_locC (n := 1) rfl (bd_slR bd_slN) rfl (t_4 e (by omega) v1 h _ hc)) ?_
  refine rn_goto rfl rfl ?_
  exact u_2_125 (e + 1) hd v0 v1 v2 v3 v4 v5 s0 s1 p1.1 p1.2 _ hb
def b_2_105 (v0 : Option Nat) (v1 : Option Nat) (v3 : Int32)  (h : Hp) : Option (Int32 × Hp) :=
  (gQ 0 0 v0 h).bind fun x1 =>
  (gI 0 2 v0 h).bind fun x2 =>
  if v3 = 0 then b_2_124 v0 v1 v3 x1 x2 h else b_2_117 v0 v1 v3 x1 x2 h
theorem u_2_105 (d : Nat) (hd : 4 ≤ d) (v0 : Option Nat) (v1 : Option Nat) (v2 : Option Nat) (v3 : Int32) (v4 : Int32) (v5 : Int32)  (h : Hp) (r : Int32 × Hp) (hb : b_2_105 v0 v1 v3  h = some r) : Rn d 2 105 [some (va_rf v0), some (va_rf v1), some (va_rf v2), some (.int v3), some (.int v4), some (.int v5)] [] h (some (.int r.1), r.2) := by
  unfold b_2_105 at hb
  refine rn_aload_n (i := 0) rfl rfl ?_
  refine rn_gQ (c := 0) (k := 0) rfl (by decide) hb (fun x1 hb => ?_)
  refine rn_aload_n (i := 0) rfl rfl ?_
  refine rn_gI (c := 0) (k := 2) rfl (by decide) hb (fun x2 hb => ?_)
  refine rn_iload_n (i := 3) rfl rfl ?_
  refine rn_if_eq rfl rfl (fun hc => ?_) (fun hc => ?_)
  · exact u_2_124 d hd v0 v1 v2 v3 v4 v5 x1 x2 h _ (if_t hb hc)
  · exact u_2_117 d hd v0 v1 v2 v3 v4 v5 x1 x2 h _ (if_f hb hc)
def b_2_101  (s0 : Option Nat) (s1 : Option Nat) (s2 : Option Nat) (s3 : Int32) (h : Hp) : Option (Int32 × Hp) :=
  (grd (rC 0 s0 h)).bind fun _ =>
  (f_3 s0 s1 s2 s3 h).bind fun p1 =>
  (grd (decide (p1.1 = 0 ∨ p1.1 = 1))).bind fun _ => some (p1.1, p1.2)
theorem u_2_101 (d : Nat) (hd : 4 ≤ d) (v0 : Option Nat) (v1 : Option Nat) (v2 : Option Nat) (v3 : Int32) (v4 : Int32) (v5 : Int32) (s0 : Option Nat) (s1 : Option Nat) (s2 : Option Nat) (s3 : Int32) (h : Hp) (r : Int32 × Hp) (hb : b_2_101  s0 s1 s2 s3 h = some r) : Rn d 2 101 [some (va_rf v0), some (va_rf v1), some (va_rf v2), some (.int v3), some (.int v4), some (.int v5)] [.int s3, va_rf s2, va_rf s1, va_rf s0] h (some (.int r.1), r.2) := by
  unfold b_2_101 at hb
  obtain ⟨e, rfl⟩ : ∃ e, d = e + 1 := ⟨d - 1, by omega⟩
  obtain ⟨hrc, hb⟩ := grd_spec hb
  obtain ⟨p1, hc, hb⟩ := Option.bind_eq_some_iff.mp hb
  refine Rn.call1 (d := e) (As := [va_rf s0, va_rf s1, va_rf s2, .int s3]) (rest := []) rfl rfl rfl (by decide) rfl rfl rfl (bd_rcV hrc rfl) (by decide) (bd_lenC (n := 5) rfl (bd_slR (bd_slR (bd_slR (bd_slI bd_slN)))) rfl) (bd_locC (n := 5) rfl (bd_slR (bd_slR (bd_slR (bd_slI bd_slN)))) rfl (t_3 e (by omega) s0 s1 s2 s3 h _ hc)) ?_
  obtain ⟨hz, hb⟩ := grd_spec hb
  obtain rfl := Option.some.inj hb
  exact rn_zret rfl rfl (of_decide_eq_true hz)
def b_2_100  (s0 : Option Nat) (s1 : Option Nat) (s2 : Option Nat) (h : Hp) : Option (Int32 × Hp) :=
  b_2_101  s0 s1 s2 (nI 1) h
theorem u_2_100 (d : Nat) (hd : 4 ≤ d) (v0 : Option Nat) (v1 : Option Nat) (v2 : Option Nat) (v3 : Int32) (v4 : Int32) (v5 : Int32) (s0 : Option Nat) (s1 : Option Nat) (s2 : Option Nat) (h : Hp) (r : Int32 × Hp) (hb : b_2_100  s0 s1 s2 h = some r) : Rn d 2 100 [some (va_rf v0), some (va_rf v1), some (va_rf v2), some (.int v3), some (.int v4), some (.int v5)] [va_rf s2, va_rf s1, va_rf s0] h (some (.int r.1), r.2) := by
  unfold b_2_100 at hb
  refine rn_iconst (x := (nI 1)) rfl (by decide) ?_
  exact u_2_101 d hd v0 v1 v2 v3 v4 v5 s0 s1 s2 (nI 1) h _ hb
def b_2_96  (s0 : Option Nat) (s1 : Option Nat) (s2 : Option Nat) (h : Hp) : Option (Int32 × Hp) :=
  b_2_101  s0 s1 s2 (nI 0) h
theorem u_2_96 (d : Nat) (hd : 4 ≤ d) (v0 : Option Nat) (v1 : Option Nat) (v2 : Option Nat) (v3 : Int32) (v4 : Int32) (v5 : Int32) (s0 : Option Nat) (s1 : Option Nat) (s2 : Option Nat) (h : Hp) (r : Int32 × Hp) (hb : b_2_96  s0 s1 s2 h = some r) : Rn d 2 96 [some (va_rf v0), some (va_rf v1), some (va_rf v2), some (.int v3), some (.int v4), some (.int v5)] [va_rf s2, va_rf s1, va_rf s0] h (some (.int r.1), r.2) := by
  unfold b_2_96 at hb
  refine rn_iconst (x := (nI 0)) rfl (by decide) ?_
  refine rn_goto rfl rfl ?_
  exact u_2_101 d hd v0 v1 v2 v3 v4 v5 s0 s1 s2 (nI 0) h _ hb
def b_2_88 (v0 : Option Nat) (v1 : Option Nat) (v2 : Option Nat) (v4 : Int32)  (h : Hp) : Option (Int32 × Hp) :=
  if v4 = 0 then b_2_100  v0 v1 v2 h else b_2_96  v0 v1 v2 h
theorem u_2_88 (d : Nat) (hd : 4 ≤ d) (v0 : Option Nat) (v1 : Option Nat) (v2 : Option Nat) (v3 : Int32) (v4 : Int32) (v5 : Int32)  (h : Hp) (r : Int32 × Hp) (hb : b_2_88 v0 v1 v2 v4  h = some r) : Rn d 2 88 [some (va_rf v0), some (va_rf v1), some (va_rf v2), some (.int v3), some (.int v4), some (.int v5)] [] h (some (.int r.1), r.2) := by
  unfold b_2_88 at hb
  refine rn_aload_n (i := 0) rfl rfl ?_
  refine rn_aload_n (i := 1) rfl rfl ?_
  refine rn_aload_n (i := 2) rfl rfl ?_
  refine rn_iload (i := 4) rfl rfl ?_
  refine rn_if_eq rfl rfl (fun hc => ?_) (fun hc => ?_)
  · exact u_2_100 d hd v0 v1 v2 v3 v4 v5 v0 v1 v2 h _ (if_t hb hc)
  · exact u_2_96 d hd v0 v1 v2 v3 v4 v5 v0 v1 v2 h _ (if_f hb hc)
def b_2_79 (v0 : Option Nat) (v1 : Option Nat) (v2 : Option Nat) (v3 : Int32) (v4 : Int32) (v5 : Int32)  (h : Hp) : Option (Int32 × Hp) :=
  (grd (rC 9 v1 h)).bind fun _ =>
  (f_117 v1 h).bind fun p1 =>
  if v5 = 0 then b_2_105 v0 v1 v3  p1 else b_2_88 v0 v1 v2 v4  p1
theorem u_2_79 (d : Nat) (hd : 4 ≤ d) (v0 : Option Nat) (v1 : Option Nat) (v2 : Option Nat) (v3 : Int32) (v4 : Int32) (v5 : Int32)  (h : Hp) (r : Int32 × Hp) (hb : b_2_79 v0 v1 v2 v3 v4 v5  h = some r) : Rn d 2 79 [some (va_rf v0), some (va_rf v1), some (va_rf v2), some (.int v3), some (.int v4), some (.int v5)] [] h (some (.int r.1), r.2) := by
  unfold b_2_79 at hb
  obtain ⟨e, rfl⟩ : ∃ e, d = e + 1 := ⟨d - 1, by omega⟩
  refine rn_aload_n (i := 1) rfl rfl ?_
  obtain ⟨hrc, hb⟩ := grd_spec hb
  obtain ⟨p1, hc, hb⟩ := Option.bind_eq_some_iff.mp hb
  refine Rn.call0 (d := e) (As := [va_rf v1]) (rest := []) rfl rfl rfl (by decide) rfl rfl rfl (bd_rcV hrc rfl) (by decide) (bd_lenC (n := 3) rfl (bd_slR bd_slN) rfl) (bd_locC (n := 3) rfl (bd_slR bd_slN) rfl (t_117 e (by omega) v1 h _ hc)) ?_
  refine rn_iload (i := 5) rfl rfl ?_
  refine rn_if_eq rfl rfl (fun hc => ?_) (fun hc => ?_)
  · exact u_2_105 (e + 1) hd v0 v1 v2 v3 v4 v5  p1 _ (if_t hb hc)
  · exact u_2_88 (e + 1) hd v0 v1 v2 v3 v4 v5  p1 _ (if_f hb hc)
def b_2_73 (v1 : Option Nat)  (h : Hp) : Option (Int32 × Hp) :=
  (grd (rC 9 v1 h)).bind fun _ =>
  (f_119 v1 (nI 4) h).bind fun p1 =>
  (grd (decide (p1.1 = 0 ∨ p1.1 = 1))).bind fun _ => some (p1.1, p1.2)
theorem u_2_73 (d : Nat) (hd : 4 ≤ d) (v0 : Option Nat) (v1 : Option Nat) (v2 : Option Nat) (v3 : Int32) (v4 : Int32) (v5 : Int32)  (h : Hp) (r : Int32 × Hp) (hb : b_2_73 v1  h = some r) : Rn d 2 73 [some (va_rf v0), some (va_rf v1), some (va_rf v2), some (.int v3), some (.int v4), some (.int v5)] [] h (some (.int r.1), r.2) := by
  unfold b_2_73 at hb
  obtain ⟨e, rfl⟩ : ∃ e, d = e + 1 := ⟨d - 1, by omega⟩
  refine rn_aload_n (i := 1) rfl rfl ?_
  refine rn_iconst (x := (nI 4)) rfl (by decide) ?_
  obtain ⟨hrc, hb⟩ := grd_spec hb
  obtain ⟨p1, hc, hb⟩ := Option.bind_eq_some_iff.mp hb
  refine Rn.call1 (d := e) (As := [va_rf v1, .int (nI 4)]) (rest := []) rfl rfl rfl (by decide) rfl rfl rfl (bd_rcV hrc rfl) (by decide) (bd_lenC (n := 2) rfl (bd_slR (bd_slI bd_slN)) rfl) (bd_locC (n := 2) rfl (bd_slR (bd_slI bd_slN)) rfl (t_119 e (by omega) v1 (nI 4) h _ hc)) ?_
  obtain ⟨hz, hb⟩ := grd_spec hb
  obtain rfl := Option.some.inj hb
  exact rn_zret rfl rfl (of_decide_eq_true hz)
def b_2_64 (v0 : Option Nat) (v1 : Option Nat) (v2 : Option Nat) (v3 : Int32) (v4 : Int32) (v5 : Int32)  (h : Hp) : Option (Int32 × Hp) :=
  (gI 0 2 v0 h).bind fun x1 =>
  if ¬ x1 = (nI 60) then b_2_79 v0 v1 v2 v3 v4 v5  h else b_2_73 v1  h
theorem u_2_64 (d : Nat) (hd : 4 ≤ d) (v0 : Option Nat) (v1 : Option Nat) (v2 : Option Nat) (v3 : Int32) (v4 : Int32) (v5 : Int32)  (h : Hp) (r : Int32 × Hp) (hb : b_2_64 v0 v1 v2 v3 v4 v5  h = some r) : Rn d 2 64 [some (va_rf v0), some (va_rf v1), some (va_rf v2), some (.int v3), some (.int v4), some (.int v5)] [] h (some (.int r.1), r.2) := by
  unfold b_2_64 at hb
  refine rn_aload_n (i := 0) rfl rfl ?_
  refine rn_gI (c := 0) (k := 2) rfl (by decide) hb (fun x1 hb => ?_)
  refine rn_bipush (x := (nI 60)) rfl (by decide) ?_
  refine rn_icmp_ne rfl rfl (fun hc => ?_) (fun hc => ?_)
  · exact u_2_79 d hd v0 v1 v2 v3 v4 v5  h _ (if_t hb hc)
  · exact u_2_73 d hd v0 v1 v2 v3 v4 v5  h _ (if_f hb hc)
def b_2_58 (v1 : Option Nat)  (h : Hp) : Option (Int32 × Hp) :=
  (grd (rC 9 v1 h)).bind fun _ =>
  (f_119 v1 (nI 1) h).bind fun p1 =>
  (grd (decide (p1.1 = 0 ∨ p1.1 = 1))).bind fun _ => some (p1.1, p1.2)
theorem u_2_58 (d : Nat) (hd : 4 ≤ d) (v0 : Option Nat) (v1 : Option Nat) (v2 : Option Nat) (v3 : Int32) (v4 : Int32) (v5 : Int32)  (h : Hp) (r : Int32 × Hp) (hb : b_2_58 v1  h = some r) : Rn d 2 58 [some (va_rf v0), some (va_rf v1), some (va_rf v2), some (.int v3), some (.int v4), some (.int v5)] [] h (some (.int r.1), r.2) := by
  unfold b_2_58 at hb
  obtain ⟨e, rfl⟩ : ∃ e, d = e + 1 := ⟨d - 1, by omega⟩
  refine rn_aload_n (i := 1) rfl rfl ?_
  refine rn_iconst (x := (nI 1)) rfl (by decide) ?_
  obtain ⟨hrc, hb⟩ := grd_spec hb
  obtain ⟨p1, hc, hb⟩ := Option.bind_eq_some_iff.mp hb
  refine Rn.call1 (d := e) (As := [va_rf v1, .int (nI 1)]) (rest := []) rfl rfl rfl (by decide) rfl rfl rfl (bd_rcV hrc rfl) (by decide) (bd_lenC (n := 2) rfl (bd_slR (bd_slI bd_slN)) rfl) (bd_locC (n := 2) rfl (bd_slR (bd_slI bd_slN)) rfl (t_119 e (by omega) v1 (nI 1) h _ hc)) ?_
  obtain ⟨hz, hb⟩ := grd_spec hb
  obtain rfl := Option.some.inj hb
  exact rn_zret rfl rfl (of_decide_eq_true hz)
def b_2_48 (v0 : Option Nat) (v1 : Option Nat) (v2 : Option Nat) (v3 : Int32) (v4 : Int32) (v5 : Int32)  (h : Hp) : Option (Int32 × Hp) :=
  (grd (rC 9 v1 h)).bind fun _ =>
  (f_120 v1 (some 12) h).bind fun p1 =>
  if ¬ p1.1 = 0 then b_2_64 v0 v1 v2 v3 v4 v5  p1.2 else b_2_58 v1  p1.2
theorem u_2_48 (d : Nat) (hd : 4 ≤ d) (v0 : Option Nat) (v1 : Option Nat) (v2 : Option Nat) (v3 : Int32) (v4 : Int32) (v5 : Int32)  (h : Hp) (r : Int32 × Hp) (hb : b_2_48 v0 v1 v2 v3 v4 v5  h = some r) : Rn d 2 48 [some (va_rf v0), some (va_rf v1), some (va_rf v2), some (.int v3), some (.int v4), some (.int v5)] [] h (some (.int r.1), r.2) := by
  unfold b_2_48 at hb
  obtain ⟨e, rfl⟩ : ∃ e, d = e + 1 := ⟨d - 1, by omega⟩
  refine rn_aload_n (i := 1) rfl rfl ?_
  refine rn_getstatic rfl ?_
  obtain ⟨hrc, hb⟩ := grd_spec hb
  obtain ⟨p1, hc, hb⟩ := Option.bind_eq_some_iff.mp hb
  refine Rn.call1 (d := e) (As := [va_rf v1, va_rf (some 12)]) (rest := []) rfl rfl rfl (by decide) rfl rfl rfl (bd_rcV hrc rfl) (by decide) (bd_lenC (n := 2) rfl (bd_slR (bd_slR bd_slN)) rfl) (bd_locC (n := 2) rfl (bd_slR (bd_slR bd_slN)) rfl (t_120 e (by omega) v1 (some 12) h _ hc)) ?_
  refine rn_if_ne rfl rfl (fun hc => ?_) (fun hc => ?_)
  · exact u_2_64 (e + 1) hd v0 v1 v2 v3 v4 v5  p1.2 _ (if_t hb hc)
  · exact u_2_58 (e + 1) hd v0 v1 v2 v3 v4 v5  p1.2 _ (if_f hb hc)
def b_2_43 (v0 : Option Nat) (v1 : Option Nat) (v2 : Option Nat) (v3 : Int32) (v4 : Int32) (v5 : Int32)  (h : Hp) : Option (Int32 × Hp) :=
  if ¬ v5 = 0 then b_2_64 v0 v1 v2 v3 v4 v5  h else b_2_48 v0 v1 v2 v3 v4 v5  h
theorem u_2_43 (d : Nat) (hd : 4 ≤ d) (v0 : Option Nat) (v1 : Option Nat) (v2 : Option Nat) (v3 : Int32) (v4 : Int32) (v5 : Int32)  (h : Hp) (r : Int32 × Hp) (hb : b_2_43 v0 v1 v2 v3 v4 v5  h = some r) : Rn d 2 43 [some (va_rf v0), some (va_rf v1), some (va_rf v2), some (.int v3), some (.int v4), some (.int v5)] [] h (some (.int r.1), r.2) := by
  unfold b_2_43 at hb
  refine rn_iload (i := 5) rfl rfl ?_
  refine rn_if_ne rfl rfl (fun hc => ?_) (fun hc => ?_)
  · exact u_2_64 d hd v0 v1 v2 v3 v4 v5  h _ (if_t hb hc)
  · exact u_2_48 d hd v0 v1 v2 v3 v4 v5  h _ (if_f hb hc)
def b_2_37 (v0 : Option Nat) (v1 : Option Nat) (v2 : Option Nat) (v3 : Int32) (v4 : Int32) (s0 : Int32) (h : Hp) : Option (Int32 × Hp) :=
  if ¬ v3 = 0 then b_2_64 v0 v1 v2 v3 v4 s0  h else b_2_43 v0 v1 v2 v3 v4 s0  h
theorem u_2_37 (d : Nat) (hd : 4 ≤ d) (v0 : Option Nat) (v1 : Option Nat) (v2 : Option Nat) (v3 : Int32) (v4 : Int32) (s0 : Int32) (h : Hp) (r : Int32 × Hp) (hb : b_2_37 v0 v1 v2 v3 v4 s0 h = some r) : Rn d 2 37 [some (va_rf v0), some (va_rf v1), some (va_rf v2), some (.int v3), some (.int v4), none] [.int s0] h (some (.int r.1), r.2) := by
  unfold b_2_37 at hb
  refine rn_istore (i := 5) (L1 := [some (va_rf v0), some (va_rf v1), some (va_rf v2), some (.int v3), some (.int v4), some (.int s0)]) rfl (Nat.le_of_ble_eq_true rfl) (Or.inr rfl) rfl ?_
  refine rn_iload_n (i := 3) rfl rfl ?_
  refine rn_if_ne rfl rfl (fun hc => ?_) (fun hc => ?_)
  · exact u_2_64 d hd v0 v1 v2 v3 v4 s0  h _ (if_t hb hc)
  · exact u_2_43 d hd v0 v1 v2 v3 v4 s0  h _ (if_f hb hc)
def b_2_32 (v0 : Option Nat) (v1 : Option Nat) (v2 : Option Nat) (v3 : Int32) (v4 : Int32)  (h : Hp) : Option (Int32 × Hp) :=
  b_2_37 v0 v1 v2 v3 v4 (nI 1) h
theorem u_2_32 (d : Nat) (hd : 4 ≤ d) (v0 : Option Nat) (v1 : Option Nat) (v2 : Option Nat) (v3 : Int32) (v4 : Int32)  (h : Hp) (r : Int32 × Hp) (hb : b_2_32 v0 v1 v2 v3 v4  h = some r) : Rn d 2 32 [some (va_rf v0), some (va_rf v1), some (va_rf v2), some (.int v3), some (.int v4), none] [] h (some (.int r.1), r.2) := by
  unfold b_2_32 at hb
  refine rn_iconst (x := (nI 1)) rfl (by decide) ?_
  refine rn_goto rfl rfl ?_
  exact u_2_37 d hd v0 v1 v2 v3 v4 (nI 1) h _ hb
def b_2_36 (v0 : Option Nat) (v1 : Option Nat) (v2 : Option Nat) (v3 : Int32) (v4 : Int32)  (h : Hp) : Option (Int32 × Hp) :=
  b_2_37 v0 v1 v2 v3 v4 (nI 0) h
theorem u_2_36 (d : Nat) (hd : 4 ≤ d) (v0 : Option Nat) (v1 : Option Nat) (v2 : Option Nat) (v3 : Int32) (v4 : Int32)  (h : Hp) (r : Int32 × Hp) (hb : b_2_36 v0 v1 v2 v3 v4  h = some r) : Rn d 2 36 [some (va_rf v0), some (va_rf v1), some (va_rf v2), some (.int v3), some (.int v4), none] [] h (some (.int r.1), r.2) := by
  unfold b_2_36 at hb
  refine rn_iconst (x := (nI 0)) rfl (by decide) ?_
  exact u_2_37 d hd v0 v1 v2 v3 v4 (nI 0) h _ hb
def b_2_22 (v0 : Option Nat) (v1 : Option Nat) (v2 : Option Nat) (v3 : Int32) (v4 : Int32)  (h : Hp) : Option (Int32 × Hp) :=
  (grd (rC 9 v1 h)).bind fun _ =>
  (f_120 v1 (some 11) h).bind fun p1 =>
  if p1.1 = 0 then b_2_36 v0 v1 v2 v3 v4  p1.2 else b_2_32 v0 v1 v2 v3 v4  p1.2
theorem u_2_22 (d : Nat) (hd : 4 ≤ d) (v0 : Option Nat) (v1 : Option Nat) (v2 : Option Nat) (v3 : Int32) (v4 : Int32)  (h : Hp) (r : Int32 × Hp) (hb : b_2_22 v0 v1 v2 v3 v4  h = some r) : Rn d 2 22 [some (va_rf v0), some (va_rf v1), some (va_rf v2), some (.int v3), some (.int v4), none] [] h (some (.int r.1), r.2) := by
  unfold b_2_22 at hb
  obtain ⟨e, rfl⟩ : ∃ e, d = e + 1 := ⟨d - 1, by omega⟩
  refine rn_aload_n (i := 1) rfl rfl ?_
  refine rn_getstatic rfl ?_
  obtain ⟨hrc, hb⟩ := grd_spec hb
  obtain ⟨p1, hc, hb⟩ := Option.bind_eq_some_iff.mp hb
  refine Rn.call1 (d := e) (As := [va_rf v1, va_rf (some 11)]) (rest := []) rfl rfl rfl (by decide) rfl rfl rfl (bd_rcV hrc rfl) (by decide) (bd_lenC (n := 2) rfl (bd_slR (bd_slR bd_slN)) rfl) (bd_locC (n := 2) rfl (bd_slR (bd_slR bd_slN)) rfl (t_120 e (by omega) v1 (some 11) h _ hc)) ?_
  refine rn_if_eq rfl rfl (fun hc => ?_) (fun hc => ?_)
  · exact u_2_36 (e + 1) hd v0 v1 v2 v3 v4  p1.2 _ (if_t hb hc)
  · exact u_2_32 (e + 1) hd v0 v1 v2 v3 v4  p1.2 _ (if_f hb hc)
def b_2_0 (v0 : Option Nat) (v1 : Option Nat) (v2 : Option Nat)  (h : Hp) : Option (Int32 × Hp) :=
  (grd (rC 9 v1 h)).bind fun _ =>
  (f_120 v1 (some 9) h).bind fun p1 =>
  bnd (p1.1) fun x2 =>
  (grd (rC 9 v1 p1.2)).bind fun _ =>
  (f_120 v1 (some 10) p1.2).bind fun p3 =>
  bnd (p3.1) fun x4 =>
  if ¬ x4 = 0 then b_2_32 v0 v1 v2 x2 x4  p3.2 else b_2_22 v0 v1 v2 x2 x4  p3.2
theorem u_2_0 (d : Nat) (hd : 4 ≤ d) (v0 : Option Nat) (v1 : Option Nat) (v2 : Option Nat)  (h : Hp) (r : Int32 × Hp) (hb : b_2_0 v0 v1 v2  h = some r) : Rn d 2 0 [some (va_rf v0), some (va_rf v1), some (va_rf v2), none, none, none] [] h (some (.int r.1), r.2) := by
  unfold b_2_0 at hb
  obtain ⟨e, rfl⟩ : ∃ e, d = e + 1 := ⟨d - 1, by omega⟩
  refine rn_aload_n (i := 1) rfl rfl ?_
  refine rn_getstatic rfl ?_
  obtain ⟨hrc, hb⟩ := grd_spec hb
  obtain ⟨p1, hc, hb⟩ := Option.bind_eq_some_iff.mp hb
  refine Rn.call1 (d := e) (As := [va_rf v1, va_rf (some 9)]) (rest := []) rfl rfl rfl (by decide) rfl rfl rfl (bd_rcV hrc rfl) (by decide) (bd_lenC (n := 2) rfl (bd_slR (bd_slR bd_slN)) rfl) (bd_locC (n := 2) rfl (bd_slR (bd_slR bd_slN)) rfl (t_120 e (by omega) v1 (some 9) h _ hc)) ?_
  obtain ⟨x2, ex2, hb⟩ := bnd_spec hb
  refine rn_istore_n (i := 3) (L1 := [some (va_rf v0), some (va_rf v1), some (va_rf v2), some (.int x2), none, none]) rfl (Nat.le_of_ble_eq_true rfl) (Or.inr (bd_wideR rfl)) (by rw [ex2]; rfl) ?_
  refine rn_aload_n (i := 1) rfl rfl ?_
  refine rn_getstatic rfl ?_
  obtain ⟨hrc, hb⟩ := grd_spec hb
  obtain ⟨p3, hc, hb⟩ := Option.bind_eq_some_iff.mp hb
  refine Rn.call1 (d := e) (As := [va_rf v1, va_rf (some 10)]) (rest := []) rfl rfl rfl (by decide) rfl rfl rfl (bd_rcV hrc rfl) (by decide) (bd_lenC (n := 2) rfl (bd_slR (bd_slR bd_slN)) rfl) (bd_locC (n := 2) rfl (bd_slR (bd_slR bd_slN)) rfl (t_120 e (by omega) v1 (some 10) p1.2 _ hc)) ?_
  obtain ⟨x4, ex4, hb⟩ := bnd_spec hb
  refine rn_istore (i := 4) (L1 := [some (va_rf v0), some (va_rf v1), some (va_rf v2), some (.int x2), some (.int x4), none]) rfl (Nat.le_of_ble_eq_true rfl) (Or.inr rfl) (by rw [ex4]; rfl) ?_
  refine rn_iload (i := 4) rfl rfl ?_
  refine rn_if_ne rfl rfl (fun hc => ?_) (fun hc => ?_)
  · exact u_2_32 (e + 1) hd v0 v1 v2 x2 x4  p3.2 _ (if_t hb hc)
  · exact u_2_22 (e + 1) hd v0 v1 v2 x2 x4  p3.2 _ (if_f hb hc)
/-- BitingDoors$Day.readAct(LBitingDoors$Text;LBitingDoors$House;)Z -/
def f_2 (v0 : Option Nat) (v1 : Option Nat) (v2 : Option Nat) (h : Hp) : Option (Int32 × Hp) := b_2_0 v0 v1 v2 h
theorem t_2 (d : Nat) (hd : 4 ≤ d) (v0 : Option Nat) (v1 : Option Nat) (v2 : Option Nat) (h : Hp) (r : Int32 × Hp) (hb : f_2 v0 v1 v2 h = some r) : Rn d 2 0 [some (va_rf v0), some (va_rf v1), some (va_rf v2), none, none, none] [] h (some (.int r.1), r.2) := by
  unfold f_2 at hb
  exact u_2_0 d hd v0 v1 v2 h r hb
def b_123_14 (v0 : Option Nat)  (h : Hp) : Option (Int32 × Hp) :=
  (grd (rC 9 v0 h)).bind fun _ =>
  (f_117 v0 h).bind fun p1 =>
  (grd (decide ((nI 1) = 0 ∨ (nI 1) = 1))).bind fun _ => some ((nI 1), p1)
theorem u_123_14 (d : Nat) (hd : 2 ≤ d) (v0 : Option Nat) (v1 : Int32)  (h : Hp) (r : Int32 × Hp) (hb : b_123_14 v0  h = some r) : Rn d 123 14 [some (va_rf v0), some (.int v1)] [] h (some (.int r.1), r.2) := by
  unfold b_123_14 at hb
  obtain ⟨e, rfl⟩ : ∃ e, d = e + 1 := ⟨d - 1, by omega⟩
  refine rn_aload_n (i := 0) rfl rfl ?_
  obtain ⟨hrc, hb⟩ := grd_spec hb
  obtain ⟨p1, hc, hb⟩ := Option.bind_eq_some_iff.mp hb
  refine Rn.call0 (d := e) (As := [va_rf v0]) (rest := []) rfl rfl rfl (by decide) rfl rfl rfl (bd_rcV hrc rfl) (by decide) (bd_lenC (n := 3) rfl (bd_slR bd_slN) rfl) (bd_locC (n := 3) rfl (bd_slR bd_slN) rfl (t_117 e (by omega) v0 h _ hc)) ?_
  refine rn_iconst (x := (nI 1)) rfl (by decide) ?_
  obtain ⟨hz, hb⟩ := grd_spec hb
  obtain rfl := Option.some.inj hb
  exact rn_zret rfl rfl (of_decide_eq_true hz)
def b_123_8 (v0 : Option Nat)  (h : Hp) : Option (Int32 × Hp) :=
  (grd (rC 9 v0 h)).bind fun _ =>
  (f_119 v0 (nI 1) h).bind fun p1 =>
  (grd (decide (p1.1 = 0 ∨ p1.1 = 1))).bind fun _ => some (p1.1, p1.2)
theorem u_123_8 (d : Nat) (hd : 2 ≤ d) (v0 : Option Nat) (v1 : Int32)  (h : Hp) (r : Int32 × Hp) (hb : b_123_8 v0  h = some r) : Rn d 123 8 [some (va_rf v0), some (.int v1)] [] h (some (.int r.1), r.2) := by
  unfold b_123_8 at hb
  obtain ⟨e, rfl⟩ : ∃ e, d = e + 1 := ⟨d - 1, by omega⟩
  refine rn_aload_n (i := 0) rfl rfl ?_
  refine rn_iconst (x := (nI 1)) rfl (by decide) ?_
  obtain ⟨hrc, hb⟩ := grd_spec hb
  obtain ⟨p1, hc, hb⟩ := Option.bind_eq_some_iff.mp hb
  refine Rn.call1 (d := e) (As := [va_rf v0, .int (nI 1)]) (rest := []) rfl rfl rfl (by decide) rfl rfl rfl (bd_rcV hrc rfl) (by decide) (bd_lenC (n := 2) rfl (bd_slR (bd_slI bd_slN)) rfl) (bd_locC (n := 2) rfl (bd_slR (bd_slI bd_slN)) rfl (t_119 e (by omega) v0 (nI 1) h _ hc)) ?_
  obtain ⟨hz, hb⟩ := grd_spec hb
  obtain rfl := Option.some.inj hb
  exact rn_zret rfl rfl (of_decide_eq_true hz)
def b_123_0 (v0 : Option Nat) (v1 : Int32)  (h : Hp) : Option (Int32 × Hp) :=
  (gI 9 2 v0 h).bind fun x1 =>
  if x1 = v1 then b_123_14 v0  h else b_123_8 v0  h
theorem u_123_0 (d : Nat) (hd : 2 ≤ d) (v0 : Option Nat) (v1 : Int32)  (h : Hp) (r : Int32 × Hp) (hb : b_123_0 v0 v1  h = some r) : Rn d 123 0 [some (va_rf v0), some (.int v1)] [] h (some (.int r.1), r.2) := by
  unfold b_123_0 at hb
  refine rn_aload_n (i := 0) rfl rfl ?_
  refine rn_gI (c := 9) (k := 2) rfl (by decide) hb (fun x1 hb => ?_)
  refine rn_iload_n (i := 1) rfl rfl ?_
  refine rn_icmp_eq rfl rfl (fun hc => ?_) (fun hc => ?_)
  · exact u_123_14 d hd v0 v1  h _ (if_t hb hc)
  · exact u_123_8 d hd v0 v1  h _ (if_f hb hc)
/-- BitingDoors$Text.passSign(C)Z -/
def f_123 (v0 : Option Nat) (v1 : Int32) (h : Hp) : Option (Int32 × Hp) := b_123_0 v0 v1 h
theorem t_123 (d : Nat) (hd : 2 ≤ d) (v0 : Option Nat) (v1 : Int32) (h : Hp) (r : Int32 × Hp) (hb : f_123 v0 v1 h = some r) : Rn d 123 0 [some (va_rf v0), some (.int v1)] [] h (some (.int r.1), r.2) := by
  unfold f_123 at hb
  exact u_123_0 d hd v0 v1 h r hb
def b_116_0 (v0 : Option Nat) (v1 : Int32)  (h : Hp) : Option (Hp) :=
  (pI 9 8 v0 v1 h).bind fun h1 =>
  (pI 9 9 v0 (nI 0) h1).bind fun h2 =>
  (pI 9 6 v0 (nI 0) h2).bind fun h3 =>
  (grd (rC 9 v0 h3)).bind fun _ =>
  (f_117 v0 h3).bind fun p4 =>
  some p4
theorem u_116_0 (d : Nat) (hd : 2 ≤ d) (v0 : Option Nat) (v1 : Int32)  (h : Hp) (r : Hp) (hb : b_116_0 v0 v1  h = some r) : Rn d 116 0 [some (va_rf v0), some (.int v1)] [] h (none, r) := by
  unfold b_116_0 at hb
  obtain ⟨e, rfl⟩ : ∃ e, d = e + 1 := ⟨d - 1, by omega⟩
  refine rn_aload_n (i := 0) rfl rfl ?_
  refine rn_iload_n (i := 1) rfl rfl ?_
  refine rn_pI (c := 9) (k := 8) rfl (by decide) hb (fun h1 hb => ?_)
  refine rn_aload_n (i := 0) rfl rfl ?_
  refine rn_iconst (x := (nI 0)) rfl (by decide) ?_
  refine rn_pI (c := 9) (k := 9) rfl (by decide) hb (fun h2 hb => ?_)
  refine rn_aload_n (i := 0) rfl rfl ?_
  refine rn_iconst (x := (nI 0)) rfl (by decide) ?_
  refine rn_pI (c := 9) (k := 6) rfl (by decide) hb (fun h3 hb => ?_)
  refine rn_aload_n (i := 0) rfl rfl ?_
  obtain ⟨hrc, hb⟩ := grd_spec hb
  obtain ⟨p4, hc, hb⟩ := Option.bind_eq_some_iff.mp hb
  refine Rn.call0 (d := e) (As := [va_rf v0]) (rest := []) rfl rfl rfl (by decide) rfl rfl rfl (bd_rcV hrc rfl) (by decide) (bd_lenC (n := 3) rfl (bd_slR bd_slN) rfl) (bd_locC (n := 3) rfl (bd_slR bd_slN) rfl (t_117 e (by omega) v0 h3 _ hc)) ?_
  obtain rfl := Option.some.inj hb
  exact rn_vret rfl rfl
/-- BitingDoors$Text.begin(I)V -/
def f_116 (v0 : Option Nat) (v1 : Int32) (h : Hp) : Option (Hp) := b_116_0 v0 v1 h
theorem t_116 (d : Nat) (hd : 2 ≤ d) (v0 : Option Nat) (v1 : Int32) (h : Hp) (r : Hp) (hb : f_116 v0 v1 h = some r) : Rn d 116 0 [some (va_rf v0), some (.int v1)] [] h (none, r) := by
  unfold f_116 at hb
  exact u_116_0 d hd v0 v1 h r hb
def b_1_64 (v2 : Option Nat)  (h : Hp) : Option (Option Nat × Hp) :=
  some (v2, h)
theorem u_1_64 (d : Nat) (hd : 5 ≤ d) (v0 : Option Nat) (v1 : Option Nat) (v2 : Option Nat)  (h : Hp) (r : Option Nat × Hp) (hb : b_1_64 v2  h = some r) : Rn d 1 64 [some (va_rf v0), some (va_rf v1), some (va_rf v2)] [] h (some (va_rf r.1), r.2) := by
  unfold b_1_64 at hb
  refine rn_aload_n (i := 2) rfl rfl ?_
  obtain rfl := Option.some.inj hb
  exact rn_aret rfl rfl
def b_1_49   (h : Hp) : Option (Option Nat × Hp) :=
  some (none, h)
theorem u_1_49 (d : Nat) (hd : 5 ≤ d) (v0 : Option Nat) (v1 : Option Nat) (v2 : Option Nat)  (h : Hp) (r : Option Nat × Hp) (hb : b_1_49   h = some r) : Rn d 1 49 [some (va_rf v0), some (va_rf v1), some (va_rf v2)] [] h (some (va_rf r.1), r.2) := by
  unfold b_1_49 at hb
  refine rn_null rfl ?_
  obtain rfl := Option.some.inj hb
  exact rn_aret rfl rfl
def b_1_51 (k15 : Option Nat → Option Nat → Option Nat → Hp → Option (Option Nat × Hp)) (v0 : Option Nat) (v1 : Option Nat) (v2 : Option Nat)  (h : Hp) : Option (Option Nat × Hp) :=
  (gI 0 2 v2 h).bind fun x1 =>
  (pI 0 2 v2 (x1 + (nI 1)) h).bind fun h2 =>
  k15 v0 v1 v2 h2
theorem u_1_51 (d : Nat) (hd : 5 ≤ d) (k15 : Option Nat → Option Nat → Option Nat → Hp → Option (Option Nat × Hp)) (K15 : ∀ (v0 : Option Nat) (v1 : Option Nat) (v2 : Option Nat) (h : Hp) (r : Option Nat × Hp), k15 v0 v1 v2 h = some r → Rn d 1 15 [some (va_rf v0), some (va_rf v1), some (va_rf v2)] [] h (some (va_rf r.1), r.2)) (v0 : Option Nat) (v1 : Option Nat) (v2 : Option Nat)  (h : Hp) (r : Option Nat × Hp) (hb : b_1_51 k15 v0 v1 v2  h = some r) : Rn d 1 51 [some (va_rf v0), some (va_rf v1), some (va_rf v2)] [] h (some (va_rf r.1), r.2) := by
  unfold b_1_51 at hb
  refine rn_aload_n (i := 2) rfl rfl ?_
  refine rn_dup rfl (bd_cat_rf _) ?_
  refine rn_gI (c := 0) (k := 2) rfl (by decide) hb (fun x1 hb => ?_)
  refine rn_iconst (x := (nI 1)) rfl (by decide) ?_
  refine rn_iadd rfl ?_
  refine rn_pI (c := 0) (k := 2) rfl (by decide) hb (fun h2 hb => ?_)
  refine rn_goto rfl rfl ?_
  exact K15 v0 v1 v2 h2 _ hb
def b_1_40 (k15 : Option Nat → Option Nat → Option Nat → Hp → Option (Option Nat × Hp)) (v0 : Option Nat) (v1 : Option Nat) (v2 : Option Nat)  (h : Hp) : Option (Option Nat × Hp) :=
  (grd (rC 9 v0 h)).bind fun _ =>
  (f_123 v0 (nI 59) h).bind fun p1 =>
  if ¬ p1.1 = 0 then b_1_51 k15 v0 v1 v2  p1.2 else b_1_49   p1.2
theorem u_1_40 (d : Nat) (hd : 5 ≤ d) (k15 : Option Nat → Option Nat → Option Nat → Hp → Option (Option Nat × Hp)) (K15 : ∀ (v0 : Option Nat) (v1 : Option Nat) (v2 : Option Nat) (h : Hp) (r : Option Nat × Hp), k15 v0 v1 v2 h = some r → Rn d 1 15 [some (va_rf v0), some (va_rf v1), some (va_rf v2)] [] h (some (va_rf r.1), r.2)) (v0 : Option Nat) (v1 : Option Nat) (v2 : Option Nat)  (h : Hp) (r : Option Nat × Hp) (hb : b_1_40 k15 v0 v1 v2  h = some r) : Rn d 1 40 [some (va_rf v0), some (va_rf v1), some (va_rf v2)] [] h (some (va_rf r.1), r.2) := by
  unfold b_1_40 at hb
  obtain ⟨e, rfl⟩ : ∃ e, d = e + 1 := ⟨d - 1, by omega⟩
  refine rn_aload_n (i := 0) rfl rfl ?_
  refine rn_bipush (x := (nI 59)) rfl (by decide) ?_
  obtain ⟨hrc, hb⟩ := grd_spec hb
  obtain ⟨p1, hc, hb⟩ := Option.bind_eq_some_iff.mp hb
  refine Rn.call1 (d := e) (As := [va_rf v0, .int (nI 59)]) (rest := []) rfl rfl rfl (by decide) rfl rfl rfl (bd_rcV hrc rfl) (by decide) (bd_lenC (n := 2) rfl (bd_slR (bd_slI bd_slN)) rfl) (bd_locC (n := 2) rfl (bd_slR (bd_slI bd_slN)) rfl (t_123 e (by omega) v0 (nI 59) h _ hc)) ?_
  refine rn_if_ne rfl rfl (fun hc => ?_) (fun hc => ?_)
  · exact u_1_51 (e + 1) hd k15 K15 v0 v1 v2  p1.2 _ (if_t hb hc)
  · exact u_1_49 (e + 1) hd v0 v1 v2  p1.2 _ (if_f hb hc)
def b_1_31 (k15 : Option Nat → Option Nat → Option Nat → Hp → Option (Option Nat × Hp)) (v0 : Option Nat) (v1 : Option Nat) (v2 : Option Nat)  (h : Hp) : Option (Option Nat × Hp) :=
  (grd (rC 0 v2 h)).bind fun _ =>
  (f_2 v2 v0 v1 h).bind fun p1 =>
  if p1.1 = 0 then b_1_49   p1.2 else b_1_40 k15 v0 v1 v2  p1.2
theorem u_1_31 (d : Nat) (hd : 5 ≤ d) (k15 : Option Nat → Option Nat → Option Nat → Hp → Option (Option Nat × Hp)) (K15 : ∀ (v0 : Option Nat) (v1 : Option Nat) (v2 : Option Nat) (h : Hp) (r : Option Nat × Hp), k15 v0 v1 v2 h = some r → Rn d 1 15 [some (va_rf v0), some (va_rf v1), some (va_rf v2)] [] h (some (va_rf r.1), r.2)) (v0 : Option Nat) (v1 : Option Nat) (v2 : Option Nat)  (h : Hp) (r : Option Nat × Hp) (hb : b_1_31 k15 v0 v1 v2  h = some r) : Rn d 1 31 [some (va_rf v0), some (va_rf v1), some (va_rf v2)] [] h (some (va_rf r.1), r.2) := by
  unfold b_1_31 at hb
  obtain ⟨e, rfl⟩ : ∃ e, d = e + 1 := ⟨d - 1, by omega⟩
  refine rn_aload_n (i := 2) rfl rfl ?_
  refine rn_aload_n (i := 0) rfl rfl ?_
  refine rn_aload_n (i := 1) rfl rfl ?_
  obtain ⟨hrc, hb⟩ := grd_spec hb
  obtain ⟨p1, hc, hb⟩ := Option.bind_eq_some_iff.mp hb
  refine Rn.call1 (d := e) (As := [va_rf v2, va_rf v0, va_rf v1]) (rest := []) rfl rfl rfl (by decide) rfl rfl rfl (bd_rcV hrc rfl) (by decide) (bd_lenC (n := 6) rfl (bd_slR (bd_slR (bd_slR bd_slN))) rfl) (bd_locC (n := 6) rfl (bd_slR (bd_slR (bd_slR bd_slN))) rfl (t_2 e (by omega) v2 v0 v1 h _ hc)) ?_
  refine rn_if_eq rfl rfl (fun hc => ?_) (fun hc => ?_)
  · exact u_1_49 (e + 1) hd v0 v1 v2  p1.2 _ (if_t hb hc)
  · exact u_1_40 (e + 1) hd k15 K15 v0 v1 v2  p1.2 _ (if_f hb hc)
def b_1_24 (k15 : Option Nat → Option Nat → Option Nat → Hp → Option (Option Nat × Hp)) (v0 : Option Nat) (v1 : Option Nat) (v2 : Option Nat)  (h : Hp) : Option (Option Nat × Hp) :=
  (gI 9 2 v0 h).bind fun x1 =>
  if x1 = 0 then b_1_64 v2  h else b_1_31 k15 v0 v1 v2  h
theorem u_1_24 (d : Nat) (hd : 5 ≤ d) (k15 : Option Nat → Option Nat → Option Nat → Hp → Option (Option Nat × Hp)) (K15 : ∀ (v0 : Option Nat) (v1 : Option Nat) (v2 : Option Nat) (h : Hp) (r : Option Nat × Hp), k15 v0 v1 v2 h = some r → Rn d 1 15 [some (va_rf v0), some (va_rf v1), some (va_rf v2)] [] h (some (va_rf r.1), r.2)) (v0 : Option Nat) (v1 : Option Nat) (v2 : Option Nat)  (h : Hp) (r : Option Nat × Hp) (hb : b_1_24 k15 v0 v1 v2  h = some r) : Rn d 1 24 [some (va_rf v0), some (va_rf v1), some (va_rf v2)] [] h (some (va_rf r.1), r.2) := by
  unfold b_1_24 at hb
  refine rn_aload_n (i := 0) rfl rfl ?_
  refine rn_gI (c := 9) (k := 2) rfl (by decide) hb (fun x1 hb => ?_)
  refine rn_if_eq rfl rfl (fun hc => ?_) (fun hc => ?_)
  · exact u_1_64 d hd v0 v1 v2  h _ (if_t hb hc)
  · exact u_1_31 d hd k15 K15 v0 v1 v2  h _ (if_f hb hc)
def b_1_15 (k15 : Option Nat → Option Nat → Option Nat → Hp → Option (Option Nat × Hp)) (v0 : Option Nat) (v1 : Option Nat) (v2 : Option Nat)  (h : Hp) : Option (Option Nat × Hp) :=
  (gI 0 2 v2 h).bind fun x1 =>
  if (nI 60) < x1 then b_1_64 v2  h else b_1_24 k15 v0 v1 v2  h
theorem u_1_15 (d : Nat) (hd : 5 ≤ d) (k15 : Option Nat → Option Nat → Option Nat → Hp → Option (Option Nat × Hp)) (K15 : ∀ (v0 : Option Nat) (v1 : Option Nat) (v2 : Option Nat) (h : Hp) (r : Option Nat × Hp), k15 v0 v1 v2 h = some r → Rn d 1 15 [some (va_rf v0), some (va_rf v1), some (va_rf v2)] [] h (some (va_rf r.1), r.2)) (v0 : Option Nat) (v1 : Option Nat) (v2 : Option Nat)  (h : Hp) (r : Option Nat × Hp) (hb : b_1_15 k15 v0 v1 v2  h = some r) : Rn d 1 15 [some (va_rf v0), some (va_rf v1), some (va_rf v2)] [] h (some (va_rf r.1), r.2) := by
  unfold b_1_15 at hb
  refine rn_aload_n (i := 2) rfl rfl ?_
  refine rn_gI (c := 0) (k := 2) rfl (by decide) hb (fun x1 hb => ?_)
  refine rn_bipush (x := (nI 60)) rfl (by decide) ?_
  refine rn_icmp_gt rfl rfl (fun hc => ?_) (fun hc => ?_)
  · exact u_1_64 d hd v0 v1 v2  h _ (if_t hb hc)
  · exact u_1_24 d hd k15 K15 v0 v1 v2  h _ (if_f hb hc)
def l_1_15 : Nat → Option Nat → Option Nat → Option Nat → Hp → Option (Option Nat × Hp)
  | 0, _, _, _, _ => none
  | n + 1, v0, v1, v2, h => b_1_15 (l_1_15 n) v0 v1 v2 h
theorem w_1_15 (d : Nat) (hd : 5 ≤ d) : ∀ (n : Nat) (v0 : Option Nat) (v1 : Option Nat) (v2 : Option Nat) (h : Hp) (r : Option Nat × Hp), l_1_15 n v0 v1 v2 h = some r → Rn d 1 15 [some (va_rf v0), some (va_rf v1), some (va_rf v2)] [] h (some (va_rf r.1), r.2) := by
  intro n
  induction n with
  | zero => intro v0 v1 v2 h r hb; cases hb
  | succ n ih => intro v0 v1 v2 h r hb; exact u_1_15 d hd (l_1_15 n) ih v0 v1 v2 h r hb
def b_1_0 (v0 : Option Nat) (v1 : Option Nat)  (h : Hp) : Option (Option Nat × Hp) :=
  bnd (hNew h 0 0 (bd_nf 0)) fun h1 =>
  (grd (some (hN h)).isSome).bind fun _ =>
  (f_0 (some (hN h)) h1).bind fun p2 =>
  bnd ((some (hN h))) fun x3 =>
  (grd (rC 9 v0 p2)).bind fun _ =>
  (f_116 v0 (nI 600) p2).bind fun p4 =>
  l_1_15 FU v0 v1 x3 p4
theorem u_1_0 (d : Nat) (hd : 5 ≤ d) (v0 : Option Nat) (v1 : Option Nat)  (h : Hp) (r : Option Nat × Hp) (hb : b_1_0 v0 v1  h = some r) : Rn d 1 0 [some (va_rf v0), some (va_rf v1), none] [] h (some (va_rf r.1), r.2) := by
  unfold b_1_0 at hb
  obtain ⟨e, rfl⟩ : ∃ e, d = e + 1 := ⟨d - 1, by omega⟩
  obtain ⟨h1, eh1, hb⟩ := bnd_spec hb
  refine rn_new rfl (by decide) ?_
  rw [← eh1]
  refine rn_dup rfl (bd_cat_rf _) ?_
  obtain ⟨hrc, hb⟩ := grd_spec hb
  obtain ⟨p2, hc, hb⟩ := Option.bind_eq_some_iff.mp hb
  refine Rn.call0 (d := e) (As := [va_rf (some (hN h))]) (rest := [va_rf (some (hN h))]) rfl rfl rfl (by decide) rfl rfl rfl (bd_rcI hrc) (by rw [bd_cR (bd_cN)]; decide) (bd_lenC (n := 1) rfl (bd_slR bd_slN) rfl) (bd_locC (n := 1) rfl (bd_slR bd_slN) rfl (t_0 e (by omega) (some (hN h)) h1 _ hc)) ?_
  obtain ⟨x3, ex3, hb⟩ := bnd_spec hb
  refine rn_astore_n (i := 2) (L1 := [some (va_rf v0), some (va_rf v1), some (va_rf x3)]) rfl (Nat.le_of_ble_eq_true rfl) (Or.inr (bd_wideR rfl)) (by rw [ex3]; rfl) ?_
  refine rn_aload_n (i := 0) rfl rfl ?_
  refine rn_sipush (x := (nI 600)) rfl (by decide) ?_
  obtain ⟨hrc, hb⟩ := grd_spec hb
  obtain ⟨p4, hc, hb⟩ := Option.bind_eq_some_iff.mp hb
  refine Rn.call0 (d := e) (As := [va_rf v0, .int (nI 600)]) (rest := []) rfl rfl rfl (by decide) rfl rfl rfl (bd_rcV hrc rfl) (by decide) (bd_lenC (n := 2) rfl (bd_slR (bd_slI bd_slN)) rfl) (bd_locC (n := 2) rfl (bd_slR (bd_slI bd_slN)) rfl (t_116 e (by omega) v0 (nI 600) p2 _ hc)) ?_
  exact w_1_15 (e + 1) hd FU v0 v1 x3 p4 _ hb
/-- BitingDoors$Day.read(LBitingDoors$Text;LBitingDoors$House;)LBitingDoors$Day; -/
def f_1 (v0 : Option Nat) (v1 : Option Nat) (h : Hp) : Option (Option Nat × Hp) := b_1_0 v0 v1 h
theorem t_1 (d : Nat) (hd : 5 ≤ d) (v0 : Option Nat) (v1 : Option Nat) (h : Hp) (r : Option Nat × Hp) (hb : f_1 v0 v1 h = some r) : Rn d 1 0 [some (va_rf v0), some (va_rf v1), none] [] h (some (va_rf r.1), r.2) := by
  unfold f_1 at hb
  exact u_1_0 d hd v0 v1 h r hb
def b_6_0 (v0 : Option Nat)  (h : Hp) : Option (Hp) :=
  (grd v0.isSome).bind fun _ =>
  (nA 13 (nI 12) h).bind fun h1 =>
  (pQ 1 0 v0 (some (hN h)) h1).bind fun h2 =>
  (nA 13 (nI 12) h2).bind fun h3 =>
  (pQ 1 1 v0 (some (hN h2)) h3).bind fun h4 =>
  (nA 13 (nI 4) h4).bind fun h5 =>
  (pQ 1 2 v0 (some (hN h4)) h5).bind fun h6 =>
  (nA 13 (nI 4) h6).bind fun h7 =>
  (pQ 1 3 v0 (some (hN h6)) h7).bind fun h8 =>
  (nA 12 (nI 4) h8).bind fun h9 =>
  (pQ 1 4 v0 (some (hN h8)) h9).bind fun h10 =>
  (pI 1 12 v0 (nI 1) h10).bind fun h11 =>
  some h11
theorem u_6_0 (d : Nat) (hd : 0 ≤ d) (v0 : Option Nat)  (h : Hp) (r : Hp) (hb : b_6_0 v0  h = some r) : Rn d 6 0 [some (va_rf v0)] [] h (none, r) := by
  unfold b_6_0 at hb
  refine rn_aload_n (i := 0) rfl rfl ?_
  obtain ⟨hq, hb⟩ := grd_spec hb
  refine rn_oinit rfl hq (by decide) ?_
  refine rn_aload_n (i := 0) rfl rfl ?_
  refine rn_bipush (x := (nI 12)) rfl (by decide) ?_
  refine rn_newarray rfl hb (fun h1 hb => ?_)
  refine rn_pQ (c := 1) (k := 0) rfl (by decide) hb (fun h2 hb => ?_)
  refine rn_aload_n (i := 0) rfl rfl ?_
  refine rn_bipush (x := (nI 12)) rfl (by decide) ?_
  refine rn_newarray rfl hb (fun h3 hb => ?_)
  refine rn_pQ (c := 1) (k := 1) rfl (by decide) hb (fun h4 hb => ?_)
  refine rn_aload_n (i := 0) rfl rfl ?_
  refine rn_iconst (x := (nI 4)) rfl (by decide) ?_
  refine rn_newarray rfl hb (fun h5 hb => ?_)
  refine rn_pQ (c := 1) (k := 2) rfl (by decide) hb (fun h6 hb => ?_)
  refine rn_aload_n (i := 0) rfl rfl ?_
  refine rn_iconst (x := (nI 4)) rfl (by decide) ?_
  refine rn_newarray rfl hb (fun h7 hb => ?_)
  refine rn_pQ (c := 1) (k := 3) rfl (by decide) hb (fun h8 hb => ?_)
  refine rn_aload_n (i := 0) rfl rfl ?_
  refine rn_iconst (x := (nI 4)) rfl (by decide) ?_
  refine rn_newarray rfl hb (fun h9 hb => ?_)
  refine rn_pQ (c := 1) (k := 4) rfl (by decide) hb (fun h10 hb => ?_)
  refine rn_aload_n (i := 0) rfl rfl ?_
  refine rn_iconst (x := (nI 1)) rfl (by decide) ?_
  refine rn_pI (c := 1) (k := 12) rfl (by decide) hb (fun h11 hb => ?_)
  obtain rfl := Option.some.inj hb
  exact rn_vret rfl rfl
/-- BitingDoors$Door.<init>()V -/
def f_6 (v0 : Option Nat) (h : Hp) : Option (Hp) := b_6_0 v0 h
theorem t_6 (d : Nat) (hd : 0 ≤ d) (v0 : Option Nat) (h : Hp) (r : Hp) (hb : f_6 v0 h = some r) : Rn d 6 0 [some (va_rf v0)] [] h (none, r) := by
  unfold f_6 at hb
  exact u_6_0 d hd v0 h r hb
def b_7_52 (v0 : Option Nat)  (h : Hp) : Option (Int32 × Hp) :=
  (gI 1 6 v0 h).bind fun x1 =>
  some (x1, h)
theorem u_7_52 (d : Nat) (hd : 0 ≤ d) (v0 : Option Nat) (v1 : Int32)  (h : Hp) (r : Int32 × Hp) (hb : b_7_52 v0  h = some r) : Rn d 7 52 [some (va_rf v0), some (.int v1)] [] h (some (.int r.1), r.2) := by
  unfold b_7_52 at hb
  refine rn_aload_n (i := 0) rfl rfl ?_
  refine rn_gI (c := 1) (k := 6) rfl (by decide) hb (fun x1 hb => ?_)
  obtain rfl := Option.some.inj hb
  exact rn_iret rfl rfl
def b_7_57 (v0 : Option Nat)  (h : Hp) : Option (Int32 × Hp) :=
  (gI 1 7 v0 h).bind fun x1 =>
  some (x1, h)
theorem u_7_57 (d : Nat) (hd : 0 ≤ d) (v0 : Option Nat) (v1 : Int32)  (h : Hp) (r : Int32 × Hp) (hb : b_7_57 v0  h = some r) : Rn d 7 57 [some (va_rf v0), some (.int v1)] [] h (some (.int r.1), r.2) := by
  unfold b_7_57 at hb
  refine rn_aload_n (i := 0) rfl rfl ?_
  refine rn_gI (c := 1) (k := 7) rfl (by decide) hb (fun x1 hb => ?_)
  obtain rfl := Option.some.inj hb
  exact rn_iret rfl rfl
def b_7_74  (s0 : Int32) (h : Hp) : Option (Int32 × Hp) :=
  some (s0, h)
theorem u_7_74 (d : Nat) (hd : 0 ≤ d) (v0 : Option Nat) (v1 : Int32) (s0 : Int32) (h : Hp) (r : Int32 × Hp) (hb : b_7_74  s0 h = some r) : Rn d 7 74 [some (va_rf v0), some (.int v1)] [.int s0] h (some (.int r.1), r.2) := by
  unfold b_7_74 at hb
  obtain rfl := Option.some.inj hb
  exact rn_iret rfl rfl
def b_7_73   (h : Hp) : Option (Int32 × Hp) :=
  b_7_74  (nI 0) h
theorem u_7_73 (d : Nat) (hd : 0 ≤ d) (v0 : Option Nat) (v1 : Int32)  (h : Hp) (r : Int32 × Hp) (hb : b_7_73   h = some r) : Rn d 7 73 [some (va_rf v0), some (.int v1)] [] h (some (.int r.1), r.2) := by
  unfold b_7_73 at hb
  refine rn_iconst (x := (nI 0)) rfl (by decide) ?_
  exact u_7_74 d hd v0 v1 (nI 0) h _ hb
def b_7_69   (h : Hp) : Option (Int32 × Hp) :=
  b_7_74  (nI 1) h
theorem u_7_69 (d : Nat) (hd : 0 ≤ d) (v0 : Option Nat) (v1 : Int32)  (h : Hp) (r : Int32 × Hp) (hb : b_7_69   h = some r) : Rn d 7 69 [some (va_rf v0), some (.int v1)] [] h (some (.int r.1), r.2) := by
  unfold b_7_69 at hb
  refine rn_iconst (x := (nI 1)) rfl (by decide) ?_
  refine rn_goto rfl rfl ?_
  exact u_7_74 d hd v0 v1 (nI 1) h _ hb
def b_7_62 (v0 : Option Nat)  (h : Hp) : Option (Int32 × Hp) :=
  (gI 1 8 v0 h).bind fun x1 =>
  if x1 = 0 then b_7_73   h else b_7_69   h
theorem u_7_62 (d : Nat) (hd : 0 ≤ d) (v0 : Option Nat) (v1 : Int32)  (h : Hp) (r : Int32 × Hp) (hb : b_7_62 v0  h = some r) : Rn d 7 62 [some (va_rf v0), some (.int v1)] [] h (some (.int r.1), r.2) := by
  unfold b_7_62 at hb
  refine rn_aload_n (i := 0) rfl rfl ?_
  refine rn_gI (c := 1) (k := 8) rfl (by decide) hb (fun x1 hb => ?_)
  refine rn_if_eq rfl rfl (fun hc => ?_) (fun hc => ?_)
  · exact u_7_73 d hd v0 v1  h _ (if_t hb hc)
  · exact u_7_69 d hd v0 v1  h _ (if_f hb hc)
def b_7_75 (v0 : Option Nat)  (h : Hp) : Option (Int32 × Hp) :=
  (gI 1 9 v0 h).bind fun x1 =>
  some (x1, h)
theorem u_7_75 (d : Nat) (hd : 0 ≤ d) (v0 : Option Nat) (v1 : Int32)  (h : Hp) (r : Int32 × Hp) (hb : b_7_75 v0  h = some r) : Rn d 7 75 [some (va_rf v0), some (.int v1)] [] h (some (.int r.1), r.2) := by
  unfold b_7_75 at hb
  refine rn_aload_n (i := 0) rfl rfl ?_
  refine rn_gI (c := 1) (k := 9) rfl (by decide) hb (fun x1 hb => ?_)
  obtain rfl := Option.some.inj hb
  exact rn_iret rfl rfl
def b_7_103   (h : Hp) : Option (Int32 × Hp) :=
  some ((-1 : Int32), h)
theorem u_7_103 (d : Nat) (hd : 0 ≤ d) (v0 : Option Nat) (v1 : Int32)  (h : Hp) (r : Int32 × Hp) (hb : b_7_103   h = some r) : Rn d 7 103 [some (va_rf v0), some (.int v1)] [] h (some (.int r.1), r.2) := by
  unfold b_7_103 at hb
  refine rn_iconst (x := (-1 : Int32)) rfl (by decide) ?_
  obtain rfl := Option.some.inj hb
  exact rn_iret rfl rfl
def b_7_80 (v0 : Option Nat)  (h : Hp) : Option (Int32 × Hp) :=
  (gI 1 11 v0 h).bind fun x1 =>
  some (x1, h)
theorem u_7_80 (d : Nat) (hd : 0 ≤ d) (v0 : Option Nat) (v1 : Int32)  (h : Hp) (r : Int32 × Hp) (hb : b_7_80 v0  h = some r) : Rn d 7 80 [some (va_rf v0), some (.int v1)] [] h (some (.int r.1), r.2) := by
  unfold b_7_80 at hb
  refine rn_aload_n (i := 0) rfl rfl ?_
  refine rn_gI (c := 1) (k := 11) rfl (by decide) hb (fun x1 hb => ?_)
  obtain rfl := Option.some.inj hb
  exact rn_iret rfl rfl
def b_7_85 (v0 : Option Nat)  (h : Hp) : Option (Int32 × Hp) :=
  (gI 1 12 v0 h).bind fun x1 =>
  some (x1, h)
theorem u_7_85 (d : Nat) (hd : 0 ≤ d) (v0 : Option Nat) (v1 : Int32)  (h : Hp) (r : Int32 × Hp) (hb : b_7_85 v0  h = some r) : Rn d 7 85 [some (va_rf v0), some (.int v1)] [] h (some (.int r.1), r.2) := by
  unfold b_7_85 at hb
  refine rn_aload_n (i := 0) rfl rfl ?_
  refine rn_gI (c := 1) (k := 12) rfl (by decide) hb (fun x1 hb => ?_)
  obtain rfl := Option.some.inj hb
  exact rn_iret rfl rfl
def b_7_102  (s0 : Int32) (h : Hp) : Option (Int32 × Hp) :=
  some (s0, h)
theorem u_7_102 (d : Nat) (hd : 0 ≤ d) (v0 : Option Nat) (v1 : Int32) (s0 : Int32) (h : Hp) (r : Int32 × Hp) (hb : b_7_102  s0 h = some r) : Rn d 7 102 [some (va_rf v0), some (.int v1)] [.int s0] h (some (.int r.1), r.2) := by
  unfold b_7_102 at hb
  obtain rfl := Option.some.inj hb
  exact rn_iret rfl rfl
def b_7_101   (h : Hp) : Option (Int32 × Hp) :=
  b_7_102  (nI 0) h
theorem u_7_101 (d : Nat) (hd : 0 ≤ d) (v0 : Option Nat) (v1 : Int32)  (h : Hp) (r : Int32 × Hp) (hb : b_7_101   h = some r) : Rn d 7 101 [some (va_rf v0), some (.int v1)] [] h (some (.int r.1), r.2) := by
  unfold b_7_101 at hb
  refine rn_iconst (x := (nI 0)) rfl (by decide) ?_
  exact u_7_102 d hd v0 v1 (nI 0) h _ hb
def b_7_97   (h : Hp) : Option (Int32 × Hp) :=
  b_7_102  (nI 1) h
theorem u_7_97 (d : Nat) (hd : 0 ≤ d) (v0 : Option Nat) (v1 : Int32)  (h : Hp) (r : Int32 × Hp) (hb : b_7_97   h = some r) : Rn d 7 97 [some (va_rf v0), some (.int v1)] [] h (some (.int r.1), r.2) := by
  unfold b_7_97 at hb
  refine rn_iconst (x := (nI 1)) rfl (by decide) ?_
  refine rn_goto rfl rfl ?_
  exact u_7_102 d hd v0 v1 (nI 1) h _ hb
def b_7_90 (v0 : Option Nat)  (h : Hp) : Option (Int32 × Hp) :=
  (gI 1 13 v0 h).bind fun x1 =>
  if x1 = 0 then b_7_101   h else b_7_97   h
theorem u_7_90 (d : Nat) (hd : 0 ≤ d) (v0 : Option Nat) (v1 : Int32)  (h : Hp) (r : Int32 × Hp) (hb : b_7_90 v0  h = some r) : Rn d 7 90 [some (va_rf v0), some (.int v1)] [] h (some (.int r.1), r.2) := by
  unfold b_7_90 at hb
  refine rn_aload_n (i := 0) rfl rfl ?_
  refine rn_gI (c := 1) (k := 13) rfl (by decide) hb (fun x1 hb => ?_)
  refine rn_if_eq rfl rfl (fun hc => ?_) (fun hc => ?_)
  · exact u_7_101 d hd v0 v1  h _ (if_t hb hc)
  · exact u_7_97 d hd v0 v1  h _ (if_f hb hc)
def b_7_0 (v0 : Option Nat) (v1 : Int32)  (h : Hp) : Option (Int32 × Hp) :=
  if v1 = nI 0 then b_7_52 v0  h else if v1 = nI 1 then b_7_57 v0  h else if v1 = nI 2 then b_7_62 v0  h else if v1 = nI 3 then b_7_75 v0  h else if v1 = nI 4 then b_7_103   h else if v1 = nI 5 then b_7_103   h else if v1 = nI 6 then b_7_80 v0  h else if v1 = nI 7 then b_7_85 v0  h else if v1 = nI 8 then b_7_90 v0  h else b_7_103   h
theorem u_7_0 (d : Nat) (hd : 0 ≤ d) (v0 : Option Nat) (v1 : Int32)  (h : Hp) (r : Int32 × Hp) (hb : b_7_0 v0 v1  h = some r) : Rn d 7 0 [some (va_rf v0), some (.int v1)] [] h (some (.int r.1), r.2) := by
  unfold b_7_0 at hb
  refine rn_iload_n (i := 1) rfl rfl ?_
  by_cases hc0 : v1 = nI 0
  · rw [if_pos hc0] at hb; refine rn_tsw (t := 52) rfl (by rw [hc0]; decide) ?_; exact u_7_52 d hd v0 v1  h _ hb
  rw [if_neg hc0] at hb
  by_cases hc1 : v1 = nI 1
  · rw [if_pos hc1] at hb; refine rn_tsw (t := 57) rfl (by rw [hc1]; decide) ?_; exact u_7_57 d hd v0 v1  h _ hb
  rw [if_neg hc1] at hb
  by_cases hc2 : v1 = nI 2
  · rw [if_pos hc2] at hb; refine rn_tsw (t := 62) rfl (by rw [hc2]; decide) ?_; exact u_7_62 d hd v0 v1  h _ hb
  rw [if_neg hc2] at hb
  by_cases hc3 : v1 = nI 3
  · rw [if_pos hc3] at hb; refine rn_tsw (t := 75) rfl (by rw [hc3]; decide) ?_; exact u_7_75 d hd v0 v1  h _ hb
  rw [if_neg hc3] at hb
  by_cases hc4 : v1 = nI 4
  · rw [if_pos hc4] at hb; refine rn_tsw (t := 103) rfl (by rw [hc4]; decide) ?_; exact u_7_103 d hd v0 v1  h _ hb
  rw [if_neg hc4] at hb
  by_cases hc5 : v1 = nI 5
  · rw [if_pos hc5] at hb; refine rn_tsw (t := 103) rfl (by rw [hc5]; decide) ?_; exact u_7_103 d hd v0 v1  h _ hb
  rw [if_neg hc5] at hb
  by_cases hc6 : v1 = nI 6
  · rw [if_pos hc6] at hb; refine rn_tsw (t := 80) rfl (by rw [hc6]; decide) ?_; exact u_7_80 d hd v0 v1  h _ hb
  rw [if_neg hc6] at hb
  by_cases hc7 : v1 = nI 7
  · rw [if_pos hc7] at hb; refine rn_tsw (t := 85) rfl (by rw [hc7]; decide) ?_; exact u_7_85 d hd v0 v1  h _ hb
  rw [if_neg hc7] at hb
  by_cases hc8 : v1 = nI 8
  · rw [if_pos hc8] at hb; refine rn_tsw (t := 90) rfl (by rw [hc8]; decide) ?_; exact u_7_90 d hd v0 v1  h _ hb
  rw [if_neg hc8] at hb
  have z0 := sw_ne hc0 (by decide)
  have z1 := sw_ne hc1 (by decide)
  have z2 := sw_ne hc2 (by decide)
  have z3 := sw_ne hc3 (by decide)
  have z4 := sw_ne hc4 (by decide)
  have z5 := sw_ne hc5 (by decide)
  have z6 := sw_ne hc6 (by decide)
  have z7 := sw_ne hc7 (by decide)
  have z8 := sw_ne hc8 (by decide)
  refine rn_tsw (t := 103) rfl (swT_d (by omega) rfl) ?_
  exact u_7_103 d hd v0 v1  h _ hb
/-- BitingDoors$Door.told(I)I -/
def f_7 (v0 : Option Nat) (v1 : Int32) (h : Hp) : Option (Int32 × Hp) := b_7_0 v0 v1 h
theorem t_7 (d : Nat) (hd : 0 ≤ d) (v0 : Option Nat) (v1 : Int32) (h : Hp) (r : Int32 × Hp) (hb : f_7 v0 v1 h = some r) : Rn d 7 0 [some (va_rf v0), some (.int v1)] [] h (some (.int r.1), r.2) := by
  unfold f_7 at hb
  exact u_7_0 d hd v0 v1 h r hb
def b_8_17  (s0 : Int32) (h : Hp) : Option (Int32 × Hp) :=
  (grd (decide (s0 = 0 ∨ s0 = 1))).bind fun _ => some (s0, h)
theorem u_8_17 (d : Nat) (hd : 0 ≤ d) (v0 : Option Nat) (v1 : Int32) (s0 : Int32) (h : Hp) (r : Int32 × Hp) (hb : b_8_17  s0 h = some r) : Rn d 8 17 [some (va_rf v0), some (.int v1)] [.int s0] h (some (.int r.1), r.2) := by
  unfold b_8_17 at hb
  obtain ⟨hz, hb⟩ := grd_spec hb
  obtain rfl := Option.some.inj hb
  exact rn_zret rfl rfl (of_decide_eq_true hz)
def b_8_16   (h : Hp) : Option (Int32 × Hp) :=
  b_8_17  (nI 0) h
theorem u_8_16 (d : Nat) (hd : 0 ≤ d) (v0 : Option Nat) (v1 : Int32)  (h : Hp) (r : Int32 × Hp) (hb : b_8_16   h = some r) : Rn d 8 16 [some (va_rf v0), some (.int v1)] [] h (some (.int r.1), r.2) := by
  unfold b_8_16 at hb
  refine rn_iconst (x := (nI 0)) rfl (by decide) ?_
  exact u_8_17 d hd v0 v1 (nI 0) h _ hb
def b_8_12   (h : Hp) : Option (Int32 × Hp) :=
  b_8_17  (nI 1) h
theorem u_8_12 (d : Nat) (hd : 0 ≤ d) (v0 : Option Nat) (v1 : Int32)  (h : Hp) (r : Int32 × Hp) (hb : b_8_12   h = some r) : Rn d 8 12 [some (va_rf v0), some (.int v1)] [] h (some (.int r.1), r.2) := by
  unfold b_8_12 at hb
  refine rn_iconst (x := (nI 1)) rfl (by decide) ?_
  refine rn_goto rfl rfl ?_
  exact u_8_17 d hd v0 v1 (nI 1) h _ hb
def b_8_0 (v0 : Option Nat) (v1 : Int32)  (h : Hp) : Option (Int32 × Hp) :=
  (gI 1 11 v0 h).bind fun x1 =>
  if ¬ ((x1 >>> (v1 &&& 31)) &&& (nI 1)) = (nI 1) then b_8_16   h else b_8_12   h
theorem u_8_0 (d : Nat) (hd : 0 ≤ d) (v0 : Option Nat) (v1 : Int32)  (h : Hp) (r : Int32 × Hp) (hb : b_8_0 v0 v1  h = some r) : Rn d 8 0 [some (va_rf v0), some (.int v1)] [] h (some (.int r.1), r.2) := by
  unfold b_8_0 at hb
  refine rn_aload_n (i := 0) rfl rfl ?_
  refine rn_gI (c := 1) (k := 11) rfl (by decide) hb (fun x1 hb => ?_)
  refine rn_iload_n (i := 1) rfl rfl ?_
  refine rn_ishr rfl ?_
  refine rn_iconst (x := (nI 1)) rfl (by decide) ?_
  refine rn_iand rfl ?_
  refine rn_iconst (x := (nI 1)) rfl (by decide) ?_
  refine rn_icmp_ne rfl rfl (fun hc => ?_) (fun hc => ?_)
  · exact u_8_16 d hd v0 v1  h _ (if_t hb hc)
  · exact u_8_12 d hd v0 v1  h _ (if_f hb hc)
/-- BitingDoors$Door.wasToldWith(I)Z -/
def f_8 (v0 : Option Nat) (v1 : Int32) (h : Hp) : Option (Int32 × Hp) := b_8_0 v0 v1 h
theorem t_8 (d : Nat) (hd : 0 ≤ d) (v0 : Option Nat) (v1 : Int32) (h : Hp) (r : Int32 × Hp) (hb : f_8 v0 v1 h = some r) : Rn d 8 0 [some (va_rf v0), some (.int v1)] [] h (some (.int r.1), r.2) := by
  unfold f_8 at hb
  exact u_8_0 d hd v0 v1 h r hb
def b_9_31  (s0 : Int32) (h : Hp) : Option (Int32 × Hp) :=
  (grd (decide (s0 = 0 ∨ s0 = 1))).bind fun _ => some (s0, h)
theorem u_9_31 (d : Nat) (hd : 0 ≤ d) (v0 : Option Nat) (v1 : Int32) (v2 : Int32) (s0 : Int32) (h : Hp) (r : Int32 × Hp) (hb : b_9_31  s0 h = some r) : Rn d 9 31 [some (va_rf v0), some (.int v1), some (.int v2)] [.int s0] h (some (.int r.1), r.2) := by
  unfold b_9_31 at hb
  obtain ⟨hz, hb⟩ := grd_spec hb
  obtain rfl := Option.some.inj hb
  exact rn_zret rfl rfl (of_decide_eq_true hz)
def b_9_30   (h : Hp) : Option (Int32 × Hp) :=
  b_9_31  (nI 0) h
theorem u_9_30 (d : Nat) (hd : 0 ≤ d) (v0 : Option Nat) (v1 : Int32) (v2 : Int32)  (h : Hp) (r : Int32 × Hp) (hb : b_9_30   h = some r) : Rn d 9 30 [some (va_rf v0), some (.int v1), some (.int v2)] [] h (some (.int r.1), r.2) := by
  unfold b_9_30 at hb
  refine rn_iconst (x := (nI 0)) rfl (by decide) ?_
  exact u_9_31 d hd v0 v1 v2 (nI 0) h _ hb
def b_9_26   (h : Hp) : Option (Int32 × Hp) :=
  b_9_31  (nI 1) h
theorem u_9_26 (d : Nat) (hd : 0 ≤ d) (v0 : Option Nat) (v1 : Int32) (v2 : Int32)  (h : Hp) (r : Int32 × Hp) (hb : b_9_26   h = some r) : Rn d 9 26 [some (va_rf v0), some (.int v1), some (.int v2)] [] h (some (.int r.1), r.2) := by
  unfold b_9_26 at hb
  refine rn_iconst (x := (nI 1)) rfl (by decide) ?_
  refine rn_goto rfl rfl ?_
  exact u_9_31 d hd v0 v1 v2 (nI 1) h _ hb
def b_9_13 (v0 : Option Nat) (v1 : Int32) (s0 : Int32) (h : Hp) : Option (Int32 × Hp) :=
  (gQ 1 4 v0 h).bind fun x1 =>
  (aI 12 x1 v1 h).bind fun x2 =>
  if ¬ (x2 &&& s0) = s0 then b_9_30   h else b_9_26   h
theorem u_9_13 (d : Nat) (hd : 0 ≤ d) (v0 : Option Nat) (v1 : Int32) (s0 : Int32) (h : Hp) (r : Int32 × Hp) (hb : b_9_13 v0 v1 s0 h = some r) : Rn d 9 13 [some (va_rf v0), some (.int v1), none] [.int s0] h (some (.int r.1), r.2) := by
  unfold b_9_13 at hb
  refine rn_istore_n (i := 2) (L1 := [some (va_rf v0), some (.int v1), some (.int s0)]) rfl (Nat.le_of_ble_eq_true rfl) (Or.inr rfl) rfl ?_
  refine rn_aload_n (i := 0) rfl rfl ?_
  refine rn_gQ (c := 1) (k := 4) rfl (by decide) hb (fun x1 hb => ?_)
  refine rn_iload_n (i := 1) rfl rfl ?_
  refine rn_aI rfl hb (fun x2 hb => ?_)
  refine rn_iload_n (i := 2) rfl rfl ?_
  refine rn_iand rfl ?_
  refine rn_iload_n (i := 2) rfl rfl ?_
  refine rn_icmp_ne rfl rfl (fun hc => ?_) (fun hc => ?_)
  · exact u_9_30 d hd v0 v1 s0  h _ (if_t hb hc)
  · exact u_9_26 d hd v0 v1 s0  h _ (if_f hb hc)
def b_9_12 (v0 : Option Nat) (v1 : Int32)  (h : Hp) : Option (Int32 × Hp) :=
  b_9_13 v0 v1 (nI 2) h
theorem u_9_12 (d : Nat) (hd : 0 ≤ d) (v0 : Option Nat) (v1 : Int32)  (h : Hp) (r : Int32 × Hp) (hb : b_9_12 v0 v1  h = some r) : Rn d 9 12 [some (va_rf v0), some (.int v1), none] [] h (some (.int r.1), r.2) := by
  unfold b_9_12 at hb
  refine rn_iconst (x := (nI 2)) rfl (by decide) ?_
  exact u_9_13 d hd v0 v1 (nI 2) h _ hb
def b_9_7 (v0 : Option Nat) (v1 : Int32)  (h : Hp) : Option (Int32 × Hp) :=
  b_9_13 v0 v1 (nI 6) h
theorem u_9_7 (d : Nat) (hd : 0 ≤ d) (v0 : Option Nat) (v1 : Int32)  (h : Hp) (r : Int32 × Hp) (hb : b_9_7 v0 v1  h = some r) : Rn d 9 7 [some (va_rf v0), some (.int v1), none] [] h (some (.int r.1), r.2) := by
  unfold b_9_7 at hb
  refine rn_bipush (x := (nI 6)) rfl (by decide) ?_
  refine rn_goto rfl rfl ?_
  exact u_9_13 d hd v0 v1 (nI 6) h _ hb
def b_9_0 (v0 : Option Nat) (v1 : Int32)  (h : Hp) : Option (Int32 × Hp) :=
  (gI 1 13 v0 h).bind fun x1 =>
  if x1 = 0 then b_9_12 v0 v1  h else b_9_7 v0 v1  h
theorem u_9_0 (d : Nat) (hd : 0 ≤ d) (v0 : Option Nat) (v1 : Int32)  (h : Hp) (r : Int32 × Hp) (hb : b_9_0 v0 v1  h = some r) : Rn d 9 0 [some (va_rf v0), some (.int v1), none] [] h (some (.int r.1), r.2) := by
  unfold b_9_0 at hb
  refine rn_aload_n (i := 0) rfl rfl ?_
  refine rn_gI (c := 1) (k := 13) rfl (by decide) hb (fun x1 hb => ?_)
  refine rn_if_eq rfl rfl (fun hc => ?_) (fun hc => ?_)
  · exact u_9_12 d hd v0 v1  h _ (if_t hb hc)
  · exact u_9_7 d hd v0 v1  h _ (if_f hb hc)
/-- BitingDoors$Door.isFit(I)Z -/
def f_9 (v0 : Option Nat) (v1 : Int32) (h : Hp) : Option (Int32 × Hp) := b_9_0 v0 v1 h
theorem t_9 (d : Nat) (hd : 0 ≤ d) (v0 : Option Nat) (v1 : Int32) (h : Hp) (r : Int32 × Hp) (hb : f_9 v0 v1 h = some r) : Rn d 9 0 [some (va_rf v0), some (.int v1), none] [] h (some (.int r.1), r.2) := by
  unfold f_9 at hb
  exact u_9_0 d hd v0 v1 h r hb
def b_10_21  (s0 : Int32) (h : Hp) : Option (Int32 × Hp) :=
  (grd (decide (s0 = 0 ∨ s0 = 1))).bind fun _ => some (s0, h)
theorem u_10_21 (d : Nat) (hd : 1 ≤ d) (v0 : Option Nat) (v1 : Int32) (s0 : Int32) (h : Hp) (r : Int32 × Hp) (hb : b_10_21  s0 h = some r) : Rn d 10 21 [some (va_rf v0), some (.int v1)] [.int s0] h (some (.int r.1), r.2) := by
  unfold b_10_21 at hb
  obtain ⟨hz, hb⟩ := grd_spec hb
  obtain rfl := Option.some.inj hb
  exact rn_zret rfl rfl (of_decide_eq_true hz)
def b_10_20   (h : Hp) : Option (Int32 × Hp) :=
  b_10_21  (nI 0) h
theorem u_10_20 (d : Nat) (hd : 1 ≤ d) (v0 : Option Nat) (v1 : Int32)  (h : Hp) (r : Int32 × Hp) (hb : b_10_20   h = some r) : Rn d 10 20 [some (va_rf v0), some (.int v1)] [] h (some (.int r.1), r.2) := by
  unfold b_10_20 at hb
  refine rn_iconst (x := (nI 0)) rfl (by decide) ?_
  exact u_10_21 d hd v0 v1 (nI 0) h _ hb
def b_10_16   (h : Hp) : Option (Int32 × Hp) :=
  b_10_21  (nI 1) h
theorem u_10_16 (d : Nat) (hd : 1 ≤ d) (v0 : Option Nat) (v1 : Int32)  (h : Hp) (r : Int32 × Hp) (hb : b_10_16   h = some r) : Rn d 10 16 [some (va_rf v0), some (.int v1)] [] h (some (.int r.1), r.2) := by
  unfold b_10_16 at hb
  refine rn_iconst (x := (nI 1)) rfl (by decide) ?_
  refine rn_goto rfl rfl ?_
  exact u_10_21 d hd v0 v1 (nI 1) h _ hb
def b_10_8 (v0 : Option Nat) (v1 : Int32)  (h : Hp) : Option (Int32 × Hp) :=
  (grd (rC 1 v0 h)).bind fun _ =>
  (f_9 v0 v1 h).bind fun p1 =>
  if p1.1 = 0 then b_10_20   p1.2 else b_10_16   p1.2
theorem u_10_8 (d : Nat) (hd : 1 ≤ d) (v0 : Option Nat) (v1 : Int32)  (h : Hp) (r : Int32 × Hp) (hb : b_10_8 v0 v1  h = some r) : Rn d 10 8 [some (va_rf v0), some (.int v1)] [] h (some (.int r.1), r.2) := by
  unfold b_10_8 at hb
  obtain ⟨e, rfl⟩ : ∃ e, d = e + 1 := ⟨d - 1, by omega⟩
  refine rn_aload_n (i := 0) rfl rfl ?_
  refine rn_iload_n (i := 1) rfl rfl ?_
  obtain ⟨hrc, hb⟩ := grd_spec hb
  obtain ⟨p1, hc, hb⟩ := Option.bind_eq_some_iff.mp hb
  refine Rn.call1 (d := e) (As := [va_rf v0, .int v1]) (rest := []) rfl rfl rfl (by decide) rfl rfl rfl (bd_rcV hrc rfl) (by decide) (bd_lenC (n := 3) rfl (bd_slR (bd_slI bd_slN)) rfl) (bd_locC (n := 3) rfl (bd_slR (bd_slI bd_slN)) rfl (t_9 e (by omega) v0 v1 h _ hc)) ?_
  refine rn_if_eq rfl rfl (fun hc => ?_) (fun hc => ?_)
  · exact u_10_20 (e + 1) hd v0 v1  p1.2 _ (if_t hb hc)
  · exact u_10_16 (e + 1) hd v0 v1  p1.2 _ (if_f hb hc)
def b_10_0 (v0 : Option Nat) (v1 : Int32)  (h : Hp) : Option (Int32 × Hp) :=
  (grd (rC 1 v0 h)).bind fun _ =>
  (f_8 v0 v1 h).bind fun p1 =>
  if p1.1 = 0 then b_10_20   p1.2 else b_10_8 v0 v1  p1.2
theorem u_10_0 (d : Nat) (hd : 1 ≤ d) (v0 : Option Nat) (v1 : Int32)  (h : Hp) (r : Int32 × Hp) (hb : b_10_0 v0 v1  h = some r) : Rn d 10 0 [some (va_rf v0), some (.int v1)] [] h (some (.int r.1), r.2) := by
  unfold b_10_0 at hb
  obtain ⟨e, rfl⟩ : ∃ e, d = e + 1 := ⟨d - 1, by omega⟩
  refine rn_aload_n (i := 0) rfl rfl ?_
  refine rn_iload_n (i := 1) rfl rfl ?_
  obtain ⟨hrc, hb⟩ := grd_spec hb
  obtain ⟨p1, hc, hb⟩ := Option.bind_eq_some_iff.mp hb
  refine Rn.call1 (d := e) (As := [va_rf v0, .int v1]) (rest := []) rfl rfl rfl (by decide) rfl rfl rfl (bd_rcV hrc rfl) (by decide) (bd_lenC (n := 2) rfl (bd_slR (bd_slI bd_slN)) rfl) (bd_locC (n := 2) rfl (bd_slR (bd_slI bd_slN)) rfl (t_8 e (by omega) v0 v1 h _ hc)) ?_
  refine rn_if_eq rfl rfl (fun hc => ?_) (fun hc => ?_)
  · exact u_10_20 (e + 1) hd v0 v1  p1.2 _ (if_t hb hc)
  · exact u_10_8 (e + 1) hd v0 v1  p1.2 _ (if_f hb hc)
/-- BitingDoors$Door.mayHang(I)Z -/
def f_10 (v0 : Option Nat) (v1 : Int32) (h : Hp) : Option (Int32 × Hp) := b_10_0 v0 v1 h
theorem t_10 (d : Nat) (hd : 1 ≤ d) (v0 : Option Nat) (v1 : Int32) (h : Hp) (r : Int32 × Hp) (hb : f_10 v0 v1 h = some r) : Rn d 10 0 [some (va_rf v0), some (.int v1)] [] h (some (.int r.1), r.2) := by
  unfold f_10 at hb
  exact u_10_0 d hd v0 v1 h r hb
def b_11_31 (v1 : Int32)  (h : Hp) : Option (Int32 × Hp) :=
  some (v1, h)
theorem u_11_31 (d : Nat) (hd : 2 ≤ d) (v0 : Option Nat) (v1 : Int32) (v2 : Int32)  (h : Hp) (r : Int32 × Hp) (hb : b_11_31 v1  h = some r) : Rn d 11 31 [some (va_rf v0), some (.int v1), some (.int v2)] [] h (some (.int r.1), r.2) := by
  unfold b_11_31 at hb
  refine rn_iload_n (i := 1) rfl rfl ?_
  obtain rfl := Option.some.inj hb
  exact rn_iret rfl rfl
def b_11_23 (k4 : Option Nat → Int32 → Int32 → Hp → Option (Int32 × Hp)) (v0 : Option Nat) (v2 : Int32) (s0 : Int32) (s1 : Int32) (h : Hp) : Option (Int32 × Hp) :=
  bnd ((s0 + s1)) fun x1 =>
  bnd (v2 + (nI 1)) fun x2 =>
  k4 v0 x1 x2 h
theorem u_11_23 (d : Nat) (hd : 2 ≤ d) (k4 : Option Nat → Int32 → Int32 → Hp → Option (Int32 × Hp)) (K4 : ∀ (v0 : Option Nat) (v1 : Int32) (v2 : Int32) (h : Hp) (r : Int32 × Hp), k4 v0 v1 v2 h = some r → Rn d 11 4 [some (va_rf v0), some (.int v1), some (.int v2)] [] h (some (.int r.1), r.2)) (v0 : Option Nat) (v1 : Int32) (v2 : Int32) (s0 : Int32) (s1 : Int32) (h : Hp) (r : Int32 × Hp) (hb : b_11_23 k4 v0 v2 s0 s1 h = some r) : Rn d 11 23 [some (va_rf v0), some (.int v1), some (.int v2)] [.int s1, .int s0] h (some (.int r.1), r.2) := by
  unfold b_11_23 at hb
  refine rn_iadd rfl ?_
  obtain ⟨x1, ex1, hb⟩ := bnd_spec hb
  refine rn_istore_n (i := 1) (L1 := [some (va_rf v0), some (.int x1), some (.int v2)]) rfl (Nat.le_of_ble_eq_true rfl) (Or.inr (bd_wideR rfl)) (by rw [ex1]; rfl) ?_
  obtain ⟨x2, ex2, hb⟩ := bnd_spec hb
  refine rn_iinc (i := 2) (y := x2) (L1 := [some (va_rf v0), some (.int x1), some (.int x2)]) rfl rfl (Nat.le_of_ble_eq_true rfl) (Or.inr rfl) (by rw [ex2]; rfl) rfl ?_
  refine rn_goto rfl rfl ?_
  exact K4 v0 x1 x2 h _ hb
def b_11_22 (k4 : Option Nat → Int32 → Int32 → Hp → Option (Int32 × Hp)) (v0 : Option Nat) (v2 : Int32) (s0 : Int32) (h : Hp) : Option (Int32 × Hp) :=
  b_11_23 k4 v0 v2 s0 (nI 0) h
theorem u_11_22 (d : Nat) (hd : 2 ≤ d) (k4 : Option Nat → Int32 → Int32 → Hp → Option (Int32 × Hp)) (K4 : ∀ (v0 : Option Nat) (v1 : Int32) (v2 : Int32) (h : Hp) (r : Int32 × Hp), k4 v0 v1 v2 h = some r → Rn d 11 4 [some (va_rf v0), some (.int v1), some (.int v2)] [] h (some (.int r.1), r.2)) (v0 : Option Nat) (v1 : Int32) (v2 : Int32) (s0 : Int32) (h : Hp) (r : Int32 × Hp) (hb : b_11_22 k4 v0 v2 s0 h = some r) : Rn d 11 22 [some (va_rf v0), some (.int v1), some (.int v2)] [.int s0] h (some (.int r.1), r.2) := by
  unfold b_11_22 at hb
  refine rn_iconst (x := (nI 0)) rfl (by decide) ?_
  exact u_11_23 d hd k4 K4 v0 v1 v2 s0 (nI 0) h _ hb
def b_11_18 (k4 : Option Nat → Int32 → Int32 → Hp → Option (Int32 × Hp)) (v0 : Option Nat) (v2 : Int32) (s0 : Int32) (h : Hp) : Option (Int32 × Hp) :=
  b_11_23 k4 v0 v2 s0 (nI 1) h
theorem u_11_18 (d : Nat) (hd : 2 ≤ d) (k4 : Option Nat → Int32 → Int32 → Hp → Option (Int32 × Hp)) (K4 : ∀ (v0 : Option Nat) (v1 : Int32) (v2 : Int32) (h : Hp) (r : Int32 × Hp), k4 v0 v1 v2 h = some r → Rn d 11 4 [some (va_rf v0), some (.int v1), some (.int v2)] [] h (some (.int r.1), r.2)) (v0 : Option Nat) (v1 : Int32) (v2 : Int32) (s0 : Int32) (h : Hp) (r : Int32 × Hp) (hb : b_11_18 k4 v0 v2 s0 h = some r) : Rn d 11 18 [some (va_rf v0), some (.int v1), some (.int v2)] [.int s0] h (some (.int r.1), r.2) := by
  unfold b_11_18 at hb
  refine rn_iconst (x := (nI 1)) rfl (by decide) ?_
  refine rn_goto rfl rfl ?_
  exact u_11_23 d hd k4 K4 v0 v1 v2 s0 (nI 1) h _ hb
def b_11_9 (k4 : Option Nat → Int32 → Int32 → Hp → Option (Int32 × Hp)) (v0 : Option Nat) (v1 : Int32) (v2 : Int32)  (h : Hp) : Option (Int32 × Hp) :=
  (grd (rC 1 v0 h)).bind fun _ =>
  (f_10 v0 v2 h).bind fun p1 =>
  if p1.1 = 0 then b_11_22 k4 v0 v2 v1 p1.2 else b_11_18 k4 v0 v2 v1 p1.2
theorem u_11_9 (d : Nat) (hd : 2 ≤ d) (k4 : Option Nat → Int32 → Int32 → Hp → Option (Int32 × Hp)) (K4 : ∀ (v0 : Option Nat) (v1 : Int32) (v2 : Int32) (h : Hp) (r : Int32 × Hp), k4 v0 v1 v2 h = some r → Rn d 11 4 [some (va_rf v0), some (.int v1), some (.int v2)] [] h (some (.int r.1), r.2)) (v0 : Option Nat) (v1 : Int32) (v2 : Int32)  (h : Hp) (r : Int32 × Hp) (hb : b_11_9 k4 v0 v1 v2  h = some r) : Rn d 11 9 [some (va_rf v0), some (.int v1), some (.int v2)] [] h (some (.int r.1), r.2) := by
  unfold b_11_9 at hb
  obtain ⟨e, rfl⟩ : ∃ e, d = e + 1 := ⟨d - 1, by omega⟩
  refine rn_iload_n (i := 1) rfl rfl ?_
  refine rn_aload_n (i := 0) rfl rfl ?_
  refine rn_iload_n (i := 2) rfl rfl ?_
  obtain ⟨hrc, hb⟩ := grd_spec hb
  obtain ⟨p1, hc, hb⟩ := Option.bind_eq_some_iff.mp hb
  refine Rn.call1 (d := e) (As := [va_rf v0, .int v2]) (rest := [.int v1]) rfl rfl rfl (by decide) rfl rfl rfl (bd_rcV hrc rfl) (by rw [bd_cI (bd_cN)]; decide) (bd_lenC (n := 2) rfl (bd_slR (bd_slI bd_slN)) rfl) (bd_locC (n := 2) rfl (bd_slR (bd_slI bd_slN)) rfl (t_10 e (by omega) v0 v2 h _ hc)) ?_
  refine rn_if_eq rfl rfl (fun hc => ?_) (fun hc => ?_)
  · exact u_11_22 (e + 1) hd k4 K4 v0 v1 v2 v1 p1.2 _ (if_t hb hc)
  · exact u_11_18 (e + 1) hd k4 K4 v0 v1 v2 v1 p1.2 _ (if_f hb hc)
def b_11_4 (k4 : Option Nat → Int32 → Int32 → Hp → Option (Int32 × Hp)) (v0 : Option Nat) (v1 : Int32) (v2 : Int32)  (h : Hp) : Option (Int32 × Hp) :=
  if (nI 4) ≤ v2 then b_11_31 v1  h else b_11_9 k4 v0 v1 v2  h
theorem u_11_4 (d : Nat) (hd : 2 ≤ d) (k4 : Option Nat → Int32 → Int32 → Hp → Option (Int32 × Hp)) (K4 : ∀ (v0 : Option Nat) (v1 : Int32) (v2 : Int32) (h : Hp) (r : Int32 × Hp), k4 v0 v1 v2 h = some r → Rn d 11 4 [some (va_rf v0), some (.int v1), some (.int v2)] [] h (some (.int r.1), r.2)) (v0 : Option Nat) (v1 : Int32) (v2 : Int32)  (h : Hp) (r : Int32 × Hp) (hb : b_11_4 k4 v0 v1 v2  h = some r) : Rn d 11 4 [some (va_rf v0), some (.int v1), some (.int v2)] [] h (some (.int r.1), r.2) := by
  unfold b_11_4 at hb
  refine rn_iload_n (i := 2) rfl rfl ?_
  refine rn_iconst (x := (nI 4)) rfl (by decide) ?_
  refine rn_icmp_ge rfl rfl (fun hc => ?_) (fun hc => ?_)
  · exact u_11_31 d hd v0 v1 v2  h _ (if_t hb hc)
  · exact u_11_9 d hd k4 K4 v0 v1 v2  h _ (if_f hb hc)
def l_11_4 : Nat → Option Nat → Int32 → Int32 → Hp → Option (Int32 × Hp)
  | 0, _, _, _, _ => none
  | n + 1, v0, v1, v2, h => b_11_4 (l_11_4 n) v0 v1 v2 h
theorem w_11_4 (d : Nat) (hd : 2 ≤ d) : ∀ (n : Nat) (v0 : Option Nat) (v1 : Int32) (v2 : Int32) (h : Hp) (r : Int32 × Hp), l_11_4 n v0 v1 v2 h = some r → Rn d 11 4 [some (va_rf v0), some (.int v1), some (.int v2)] [] h (some (.int r.1), r.2) := by
  intro n
  induction n with
  | zero => intro v0 v1 v2 h r hb; cases hb
  | succ n ih => intro v0 v1 v2 h r hb; exact u_11_4 d hd (l_11_4 n) ih v0 v1 v2 h r hb
def b_11_0 (v0 : Option Nat)  (h : Hp) : Option (Int32 × Hp) :=
  bnd ((nI 0)) fun x1 =>
  bnd ((nI 0)) fun x2 =>
  l_11_4 FU v0 x1 x2 h
theorem u_11_0 (d : Nat) (hd : 2 ≤ d) (v0 : Option Nat)  (h : Hp) (r : Int32 × Hp) (hb : b_11_0 v0  h = some r) : Rn d 11 0 [some (va_rf v0), none, none] [] h (some (.int r.1), r.2) := by
  unfold b_11_0 at hb
  refine rn_iconst (x := (nI 0)) rfl (by decide) ?_
  obtain ⟨x1, ex1, hb⟩ := bnd_spec hb
  refine rn_istore_n (i := 1) (L1 := [some (va_rf v0), some (.int x1), none]) rfl (Nat.le_of_ble_eq_true rfl) (Or.inr (bd_wideR rfl)) (by rw [ex1]; rfl) ?_
  refine rn_iconst (x := (nI 0)) rfl (by decide) ?_
  obtain ⟨x2, ex2, hb⟩ := bnd_spec hb
  refine rn_istore_n (i := 2) (L1 := [some (va_rf v0), some (.int x1), some (.int x2)]) rfl (Nat.le_of_ble_eq_true rfl) (Or.inr rfl) (by rw [ex2]; rfl) ?_
  exact w_11_4 d hd FU v0 x1 x2 h _ hb
/-- BitingDoors$Door.fitHangings()I -/
def f_11 (v0 : Option Nat) (h : Hp) : Option (Int32 × Hp) := b_11_0 v0 h
theorem t_11 (d : Nat) (hd : 2 ≤ d) (v0 : Option Nat) (h : Hp) (r : Int32 × Hp) (hb : f_11 v0 h = some r) : Rn d 11 0 [some (va_rf v0), none, none] [] h (some (.int r.1), r.2) := by
  unfold f_11 at hb
  exact u_11_0 d hd v0 h r hb
def b_12_19  (s0 : Int32) (h : Hp) : Option (Int32 × Hp) :=
  (grd (decide (s0 = 0 ∨ s0 = 1))).bind fun _ => some (s0, h)
theorem u_12_19 (d : Nat) (hd : 0 ≤ d) (v0 : Option Nat) (v1 : Int32) (v2 : Int32) (s0 : Int32) (h : Hp) (r : Int32 × Hp) (hb : b_12_19  s0 h = some r) : Rn d 12 19 [some (va_rf v0), some (.int v1), some (.int v2)] [.int s0] h (some (.int r.1), r.2) := by
  unfold b_12_19 at hb
  obtain ⟨hz, hb⟩ := grd_spec hb
  obtain rfl := Option.some.inj hb
  exact rn_zret rfl rfl (of_decide_eq_true hz)
def b_12_18   (h : Hp) : Option (Int32 × Hp) :=
  b_12_19  (nI 0) h
theorem u_12_18 (d : Nat) (hd : 0 ≤ d) (v0 : Option Nat) (v1 : Int32) (v2 : Int32)  (h : Hp) (r : Int32 × Hp) (hb : b_12_18   h = some r) : Rn d 12 18 [some (va_rf v0), some (.int v1), some (.int v2)] [] h (some (.int r.1), r.2) := by
  unfold b_12_18 at hb
  refine rn_iconst (x := (nI 0)) rfl (by decide) ?_
  exact u_12_19 d hd v0 v1 v2 (nI 0) h _ hb
def b_12_14   (h : Hp) : Option (Int32 × Hp) :=
  b_12_19  (nI 1) h
theorem u_12_14 (d : Nat) (hd : 0 ≤ d) (v0 : Option Nat) (v1 : Int32) (v2 : Int32)  (h : Hp) (r : Int32 × Hp) (hb : b_12_14   h = some r) : Rn d 12 14 [some (va_rf v0), some (.int v1), some (.int v2)] [] h (some (.int r.1), r.2) := by
  unfold b_12_14 at hb
  refine rn_iconst (x := (nI 1)) rfl (by decide) ?_
  refine rn_goto rfl rfl ?_
  exact u_12_19 d hd v0 v1 v2 (nI 1) h _ hb
def b_12_0 (v0 : Option Nat) (v1 : Int32) (v2 : Int32)  (h : Hp) : Option (Int32 × Hp) :=
  (gQ 1 4 v0 h).bind fun x1 =>
  (aI 12 x1 v1 h).bind fun x2 =>
  if ¬ ((x2 >>> (v2 &&& 31)) &&& (nI 1)) = (nI 1) then b_12_18   h else b_12_14   h
theorem u_12_0 (d : Nat) (hd : 0 ≤ d) (v0 : Option Nat) (v1 : Int32) (v2 : Int32)  (h : Hp) (r : Int32 × Hp) (hb : b_12_0 v0 v1 v2  h = some r) : Rn d 12 0 [some (va_rf v0), some (.int v1), some (.int v2)] [] h (some (.int r.1), r.2) := by
  unfold b_12_0 at hb
  refine rn_aload_n (i := 0) rfl rfl ?_
  refine rn_gQ (c := 1) (k := 4) rfl (by decide) hb (fun x1 hb => ?_)
  refine rn_iload_n (i := 1) rfl rfl ?_
  refine rn_aI rfl hb (fun x2 hb => ?_)
  refine rn_iload_n (i := 2) rfl rfl ?_
  refine rn_ishr rfl ?_
  refine rn_iconst (x := (nI 1)) rfl (by decide) ?_
  refine rn_iand rfl ?_
  refine rn_iconst (x := (nI 1)) rfl (by decide) ?_
  refine rn_icmp_ne rfl rfl (fun hc => ?_) (fun hc => ?_)
  · exact u_12_18 d hd v0 v1 v2  h _ (if_t hb hc)
  · exact u_12_14 d hd v0 v1 v2  h _ (if_f hb hc)
/-- BitingDoors$Door.canBeAt(II)Z -/
def f_12 (v0 : Option Nat) (v1 : Int32) (v2 : Int32) (h : Hp) : Option (Int32 × Hp) := b_12_0 v0 v1 v2 h
theorem t_12 (d : Nat) (hd : 0 ≤ d) (v0 : Option Nat) (v1 : Int32) (v2 : Int32) (h : Hp) (r : Int32 × Hp) (hb : f_12 v0 v1 v2 h = some r) : Rn d 12 0 [some (va_rf v0), some (.int v1), some (.int v2)] [] h (some (.int r.1), r.2) := by
  unfold f_12 at hb
  exact u_12_0 d hd v0 v1 v2 h r hb
def b_303_0 (v0 : Int64)  (h : Hp) : Option (Int32 × Hp) :=
  bnd ((v0 - (((v0.toUInt64 >>> ((nI 1).toInt64.toUInt64 &&& Int64.toUInt64 63)).toInt64) &&& (lN 6148914691236517205)))) fun x1 =>
  bnd (((x1 &&& (lN 3689348814741910323)) + (((x1.toUInt64 >>> ((nI 2).toInt64.toUInt64 &&& Int64.toUInt64 63)).toInt64) &&& (lN 3689348814741910323)))) fun x2 =>
  bnd (((x2 + ((x2.toUInt64 >>> ((nI 4).toInt64.toUInt64 &&& Int64.toUInt64 63)).toInt64)) &&& (lN 1085102592571150095))) fun x3 =>
  bnd ((x3 + ((x3.toUInt64 >>> ((nI 8).toInt64.toUInt64 &&& Int64.toUInt64 63)).toInt64))) fun x4 =>
  bnd ((x4 + ((x4.toUInt64 >>> ((nI 16).toInt64.toUInt64 &&& Int64.toUInt64 63)).toInt64))) fun x5 =>
  bnd ((x5 + ((x5.toUInt64 >>> ((nI 32).toInt64.toUInt64 &&& Int64.toUInt64 63)).toInt64))) fun x6 =>
  some ((x6.toInt32 &&& (nI 127)), h)
theorem u_303_0 (d : Nat) (hd : 0 ≤ d) (v0 : Int64)  (h : Hp) (r : Int32 × Hp) (hb : b_303_0 v0  h = some r) : Rn d 303 0 [some (.long v0), none] [] h (some (.int r.1), r.2) := by
  unfold b_303_0 at hb
  refine rn_lload_n (i := 0) rfl rfl ?_
  refine rn_lload_n (i := 0) rfl rfl ?_
  refine rn_iconst (x := (nI 1)) rfl (by decide) ?_
  refine rn_lushr rfl ?_
  refine rn_ldc2_w (x := (lN 6148914691236517205)) rfl (by decide) ?_
  refine rn_land rfl ?_
  refine rn_lsub rfl ?_
  obtain ⟨x1, ex1, hb⟩ := bnd_spec hb
  refine rn_lstore_n (i := 0) (L1 := [some (.long x1), none]) rfl (Nat.le_of_ble_eq_true rfl) (Or.inl rfl) (by rw [ex1]; rfl) ?_
  refine rn_lload_n (i := 0) rfl rfl ?_
  refine rn_ldc2_w (x := (lN 3689348814741910323)) rfl (by decide) ?_
  refine rn_land rfl ?_
  refine rn_lload_n (i := 0) rfl rfl ?_
  refine rn_iconst (x := (nI 2)) rfl (by decide) ?_
  refine rn_lushr rfl ?_
  refine rn_ldc2_w (x := (lN 3689348814741910323)) rfl (by decide) ?_
  refine rn_land rfl ?_
  refine rn_ladd rfl ?_
  obtain ⟨x2, ex2, hb⟩ := bnd_spec hb
  refine rn_lstore_n (i := 0) (L1 := [some (.long x2), none]) rfl (Nat.le_of_ble_eq_true rfl) (Or.inl rfl) (by rw [ex2]; rfl) ?_
  refine rn_lload_n (i := 0) rfl rfl ?_
  refine rn_lload_n (i := 0) rfl rfl ?_
  refine rn_iconst (x := (nI 4)) rfl (by decide) ?_
  refine rn_lushr rfl ?_
  refine rn_ladd rfl ?_
  refine rn_ldc2_w (x := (lN 1085102592571150095)) rfl (by decide) ?_
  refine rn_land rfl ?_
  obtain ⟨x3, ex3, hb⟩ := bnd_spec hb
  refine rn_lstore_n (i := 0) (L1 := [some (.long x3), none]) rfl (Nat.le_of_ble_eq_true rfl) (Or.inl rfl) (by rw [ex3]; rfl) ?_
  refine rn_lload_n (i := 0) rfl rfl ?_
  refine rn_lload_n (i := 0) rfl rfl ?_
  refine rn_bipush (x := (nI 8)) rfl (by decide) ?_
  refine rn_lushr rfl ?_
  refine rn_ladd rfl ?_
  obtain ⟨x4, ex4, hb⟩ := bnd_spec hb
  refine rn_lstore_n (i := 0) (L1 := [some (.long x4), none]) rfl (Nat.le_of_ble_eq_true rfl) (Or.inl rfl) (by rw [ex4]; rfl) ?_
  refine rn_lload_n (i := 0) rfl rfl ?_
  refine rn_lload_n (i := 0) rfl rfl ?_
  refine rn_bipush (x := (nI 16)) rfl (by decide) ?_
  refine rn_lushr rfl ?_
  refine rn_ladd rfl ?_
  obtain ⟨x5, ex5, hb⟩ := bnd_spec hb
  refine rn_lstore_n (i := 0) (L1 := [some (.long x5), none]) rfl (Nat.le_of_ble_eq_true rfl) (Or.inl rfl) (by rw [ex5]; rfl) ?_
  refine rn_lload_n (i := 0) rfl rfl ?_
  refine rn_lload_n (i := 0) rfl rfl ?_
  refine rn_bipush (x := (nI 32)) rfl (by decide) ?_
  refine rn_lushr rfl ?_
  refine rn_ladd rfl ?_
  obtain ⟨x6, ex6, hb⟩ := bnd_spec hb
  refine rn_lstore_n (i := 0) (L1 := [some (.long x6), none]) rfl (Nat.le_of_ble_eq_true rfl) (Or.inl rfl) (by rw [ex6]; rfl) ?_
  refine rn_lload_n (i := 0) rfl rfl ?_
  refine rn_l2i rfl ?_
  refine rn_bipush (x := (nI 127)) rfl (by decide) ?_
  refine rn_iand rfl ?_
  obtain rfl := Option.some.inj hb
  exact rn_iret rfl rfl
/-- java/lang/Long.bitCount(J)I -/
def f_303 (v0 : Int64) (h : Hp) : Option (Int32 × Hp) := b_303_0 v0 h
theorem t_303 (d : Nat) (hd : 0 ≤ d) (v0 : Int64) (h : Hp) (r : Int32 × Hp) (hb : f_303 v0 h = some r) : Rn d 303 0 [some (.long v0), none] [] h (some (.int r.1), r.2) := by
  unfold f_303 at hb
  exact u_303_0 d hd v0 h r hb
def b_13_0 (v0 : Option Nat) (v1 : Int32)  (h : Hp) : Option (Int32 × Hp) :=
  (gQ 1 2 v0 h).bind fun x1 =>
  (aJ x1 v1 h).bind fun x2 =>
  (f_303 x2 h).bind fun p3 =>
  (gQ 1 3 v0 p3.2).bind fun x4 =>
  (aJ x4 v1 p3.2).bind fun x5 =>
  (f_303 x5 p3.2).bind fun p6 =>
  some ((p3.1 + p6.1), p6.2)
theorem u_13_0 (d : Nat) (hd : 1 ≤ d) (v0 : Option Nat) (v1 : Int32)  (h : Hp) (r : Int32 × Hp) (hb : b_13_0 v0 v1  h = some r) : Rn d 13 0 [some (va_rf v0), some (.int v1)] [] h (some (.int r.1), r.2) := by
  unfold b_13_0 at hb
  obtain ⟨e, rfl⟩ : ∃ e, d = e + 1 := ⟨d - 1, by omega⟩
  refine rn_aload_n (i := 0) rfl rfl ?_
  refine rn_gQ (c := 1) (k := 2) rfl (by decide) hb (fun x1 hb => ?_)
  refine rn_iload_n (i := 1) rfl rfl ?_
  refine rn_aJ rfl hb (fun x2 hb => ?_)
  obtain ⟨p3, hc, hb⟩ := Option.bind_eq_some_iff.mp hb
  refine Rn.call1 (d := e) (As := [.long x2]) (rest := []) rfl rfl rfl (by decide) rfl rfl rfl rfl (by decide) (bd_lenC (n := 2) rfl (bd_slJ bd_slN) rfl) (bd_locC (n := 2) rfl (bd_slJ bd_slN) rfl (t_303 e (by omega) x2 h _ hc)) ?_
  refine rn_aload_n (i := 0) rfl rfl ?_
  refine rn_gQ (c := 1) (k := 3) rfl (by decide) hb (fun x4 hb => ?_)
  refine rn_iload_n (i := 1) rfl rfl ?_
  refine rn_aJ rfl hb (fun x5 hb => ?_)
  obtain ⟨p6, hc, hb⟩ := Option.bind_eq_some_iff.mp hb
  refine Rn.call1 (d := e) (As := [.long x5]) (rest := [.int p3.1]) rfl rfl rfl (by decide) rfl rfl rfl rfl (by rw [bd_cI (bd_cN)]; decide) (bd_lenC (n := 2) rfl (bd_slJ bd_slN) rfl) (bd_locC (n := 2) rfl (bd_slJ bd_slN) rfl (t_303 e (by omega) x5 p3.2 _ hc)) ?_
  refine rn_iadd rfl ?_
  obtain rfl := Option.some.inj hb
  exact rn_iret rfl rfl
/-- BitingDoors$Door.sweptCells(I)I -/
def f_13 (v0 : Option Nat) (v1 : Int32) (h : Hp) : Option (Int32 × Hp) := b_13_0 v0 v1 h
theorem t_13 (d : Nat) (hd : 1 ≤ d) (v0 : Option Nat) (v1 : Int32) (h : Hp) (r : Int32 × Hp) (hb : f_13 v0 v1 h = some r) : Rn d 13 0 [some (va_rf v0), some (.int v1)] [] h (some (.int r.1), r.2) := by
  unfold f_13 at hb
  exact u_13_0 d hd v0 v1 h r hb
def b_14_0 (v0 : Option Nat) (v1 : Int32) (v2 : Option Nat) (v3 : Int32)  (h : Hp) : Option (Int32 × Hp) :=
  (gQ 1 2 v0 h).bind fun x1 =>
  (aJ x1 v1 h).bind fun x2 =>
  (gQ 1 2 v2 h).bind fun x3 =>
  (aJ x3 v3 h).bind fun x4 =>
  (f_303 (x2 &&& x4) h).bind fun p5 =>
  (gQ 1 3 v0 p5.2).bind fun x6 =>
  (aJ x6 v1 p5.2).bind fun x7 =>
  (gQ 1 3 v2 p5.2).bind fun x8 =>
  (aJ x8 v3 p5.2).bind fun x9 =>
  (f_303 (x7 &&& x9) p5.2).bind fun p10 =>
  some ((p5.1 + p10.1), p10.2)
theorem u_14_0 (d : Nat) (hd : 1 ≤ d) (v0 : Option Nat) (v1 : Int32) (v2 : Option Nat) (v3 : Int32)  (h : Hp) (r : Int32 × Hp) (hb : b_14_0 v0 v1 v2 v3  h = some r) : Rn d 14 0 [some (va_rf v0), some (.int v1), some (va_rf v2), some (.int v3)] [] h (some (.int r.1), r.2) := by
  unfold b_14_0 at hb
  obtain ⟨e, rfl⟩ : ∃ e, d = e + 1 := ⟨d - 1, by omega⟩
  refine rn_aload_n (i := 0) rfl rfl ?_
  refine rn_gQ (c := 1) (k := 2) rfl (by decide) hb (fun x1 hb => ?_)
  refine rn_iload_n (i := 1) rfl rfl ?_
  refine rn_aJ rfl hb (fun x2 hb => ?_)
  refine rn_aload_n (i := 2) rfl rfl ?_
  refine rn_gQ (c := 1) (k := 2) rfl (by decide) hb (fun x3 hb => ?_)
  refine rn_iload_n (i := 3) rfl rfl ?_
  refine rn_aJ rfl hb (fun x4 hb => ?_)
  refine rn_land rfl ?_
  obtain ⟨p5, hc, hb⟩ := Option.bind_eq_some_iff.mp hb
  refine Rn.call1 (d := e) (As := [.long (x2 &&& x4)]) (rest := []) rfl rfl rfl (by decide) rfl rfl rfl rfl (by decide) (bd_lenC (n := 2) rfl (bd_slJ bd_slN) rfl) (bd_locC (n := 2) rfl (bd_slJ bd_slN) rfl (t_303 e (by omega) (x2 &&& x4) h _ hc)) ?_
  refine rn_aload_n (i := 0) rfl rfl ?_
  refine rn_gQ (c := 1) (k := 3) rfl (by decide) hb (fun x6 hb => ?_)
  refine rn_iload_n (i := 1) rfl rfl ?_
  refine rn_aJ rfl hb (fun x7 hb => ?_)
  refine rn_aload_n (i := 2) rfl rfl ?_
  refine rn_gQ (c := 1) (k := 3) rfl (by decide) hb (fun x8 hb => ?_)
  refine rn_iload_n (i := 3) rfl rfl ?_
  refine rn_aJ rfl hb (fun x9 hb => ?_)
  refine rn_land rfl ?_
  obtain ⟨p10, hc, hb⟩ := Option.bind_eq_some_iff.mp hb
  refine Rn.call1 (d := e) (As := [.long (x7 &&& x9)]) (rest := [.int p5.1]) rfl rfl rfl (by decide) rfl rfl rfl rfl (by rw [bd_cI (bd_cN)]; decide) (bd_lenC (n := 2) rfl (bd_slJ bd_slN) rfl) (bd_locC (n := 2) rfl (bd_slJ bd_slN) rfl (t_303 e (by omega) (x7 &&& x9) p5.2 _ hc)) ?_
  refine rn_iadd rfl ?_
  obtain rfl := Option.some.inj hb
  exact rn_iret rfl rfl
/-- BitingDoors$Door.sharedCells(ILBitingDoors$Door;I)I -/
def f_14 (v0 : Option Nat) (v1 : Int32) (v2 : Option Nat) (v3 : Int32) (h : Hp) : Option (Int32 × Hp) := b_14_0 v0 v1 v2 v3 h
theorem t_14 (d : Nat) (hd : 1 ≤ d) (v0 : Option Nat) (v1 : Int32) (v2 : Option Nat) (v3 : Int32) (h : Hp) (r : Int32 × Hp) (hb : f_14 v0 v1 v2 v3 h = some r) : Rn d 14 0 [some (va_rf v0), some (.int v1), some (va_rf v2), some (.int v3)] [] h (some (.int r.1), r.2) := by
  unfold f_14 at hb
  exact u_14_0 d hd v0 v1 v2 v3 h r hb
def b_15_63  (s0 : Int32) (h : Hp) : Option (Int32 × Hp) :=
  (grd (decide (s0 = 0 ∨ s0 = 1))).bind fun _ => some (s0, h)
theorem u_15_63 (d : Nat) (hd : 0 ≤ d) (v0 : Option Nat) (v1 : Int32) (v2 : Int32) (v3 : Int32) (v4 : Int32) (v5 : Int32) (s0 : Int32) (h : Hp) (r : Int32 × Hp) (hb : b_15_63  s0 h = some r) : Rn d 15 63 [some (va_rf v0), some (.int v1), some (.int v2), some (.int v3), some (.int v4), some (.int v5)] [.int s0] h (some (.int r.1), r.2) := by
  unfold b_15_63 at hb
  obtain ⟨hz, hb⟩ := grd_spec hb
  obtain rfl := Option.some.inj hb
  exact rn_zret rfl rfl (of_decide_eq_true hz)
def b_15_62   (h : Hp) : Option (Int32 × Hp) :=
  b_15_63  (nI 0) h
theorem u_15_62 (d : Nat) (hd : 0 ≤ d) (v0 : Option Nat) (v1 : Int32) (v2 : Int32) (v3 : Int32) (v4 : Int32) (v5 : Int32)  (h : Hp) (r : Int32 × Hp) (hb : b_15_62   h = some r) : Rn d 15 62 [some (va_rf v0), some (.int v1), some (.int v2), some (.int v3), some (.int v4), some (.int v5)] [] h (some (.int r.1), r.2) := by
  unfold b_15_62 at hb
  refine rn_iconst (x := (nI 0)) rfl (by decide) ?_
  exact u_15_63 d hd v0 v1 v2 v3 v4 v5 (nI 0) h _ hb
def b_15_58   (h : Hp) : Option (Int32 × Hp) :=
  b_15_63  (nI 1) h
theorem u_15_58 (d : Nat) (hd : 0 ≤ d) (v0 : Option Nat) (v1 : Int32) (v2 : Int32) (v3 : Int32) (v4 : Int32) (v5 : Int32)  (h : Hp) (r : Int32 × Hp) (hb : b_15_58   h = some r) : Rn d 15 58 [some (va_rf v0), some (.int v1), some (.int v2), some (.int v3), some (.int v4), some (.int v5)] [] h (some (.int r.1), r.2) := by
  unfold b_15_58 at hb
  refine rn_iconst (x := (nI 1)) rfl (by decide) ?_
  refine rn_goto rfl rfl ?_
  exact u_15_63 d hd v0 v1 v2 v3 v4 v5 (nI 1) h _ hb
def b_15_53  (s0 : Int64) (h : Hp) : Option (Int32 × Hp) :=
  if ¬ (lg_cmp s0 (lN 1)) = 0 then b_15_62   h else b_15_58   h
theorem u_15_53 (d : Nat) (hd : 0 ≤ d) (v0 : Option Nat) (v1 : Int32) (v2 : Int32) (v3 : Int32) (v4 : Int32) (v5 : Int32) (s0 : Int64) (h : Hp) (r : Int32 × Hp) (hb : b_15_53  s0 h = some r) : Rn d 15 53 [some (va_rf v0), some (.int v1), some (.int v2), some (.int v3), some (.int v4), some (.int v5)] [.long s0] h (some (.int r.1), r.2) := by
  unfold b_15_53 at hb
  refine rn_lconst (x := (lN 1)) rfl (by decide) ?_
  refine rn_lcmp rfl ?_
  refine rn_if_ne rfl rfl (fun hc => ?_) (fun hc => ?_)
  · exact u_15_62 d hd v0 v1 v2 v3 v4 v5  h _ (if_t hb hc)
  · exact u_15_58 d hd v0 v1 v2 v3 v4 v5  h _ (if_f hb hc)
def b_15_39 (v0 : Option Nat) (v3 : Int32) (v4 : Int32)  (h : Hp) : Option (Int32 × Hp) :=
  (gQ 1 1 v0 h).bind fun x1 =>
  (aJ x1 v4 h).bind fun x2 =>
  b_15_53  (((x2.toUInt64 >>> ((v3 - (nI 50)).toInt64.toUInt64 &&& Int64.toUInt64 63)).toInt64) &&& (lN 1)) h
theorem u_15_39 (d : Nat) (hd : 0 ≤ d) (v0 : Option Nat) (v1 : Int32) (v2 : Int32) (v3 : Int32) (v4 : Int32) (v5 : Int32)  (h : Hp) (r : Int32 × Hp) (hb : b_15_39 v0 v3 v4  h = some r) : Rn d 15 39 [some (va_rf v0), some (.int v1), some (.int v2), some (.int v3), some (.int v4), some (.int v5)] [] h (some (.int r.1), r.2) := by
  unfold b_15_39 at hb
  refine rn_aload_n (i := 0) rfl rfl ?_
  refine rn_gQ (c := 1) (k := 1) rfl (by decide) hb (fun x1 hb => ?_)
  refine rn_iload (i := 4) rfl rfl ?_
  refine rn_aJ rfl hb (fun x2 hb => ?_)
  refine rn_iload_n (i := 3) rfl rfl ?_
  refine rn_bipush (x := (nI 50)) rfl (by decide) ?_
  refine rn_isub rfl ?_
  refine rn_lushr rfl ?_
  refine rn_lconst (x := (lN 1)) rfl (by decide) ?_
  refine rn_land rfl ?_
  exact u_15_53 d hd v0 v1 v2 v3 v4 v5 (((x2.toUInt64 >>> ((v3 - (nI 50)).toInt64.toUInt64 &&& Int64.toUInt64 63)).toInt64) &&& (lN 1)) h _ hb
def b_15_25 (v0 : Option Nat) (v3 : Int32) (v4 : Int32)  (h : Hp) : Option (Int32 × Hp) :=
  (gQ 1 0 v0 h).bind fun x1 =>
  (aJ x1 v4 h).bind fun x2 =>
  b_15_53  (((x2.toUInt64 >>> (v3.toInt64.toUInt64 &&& Int64.toUInt64 63)).toInt64) &&& (lN 1)) h
theorem u_15_25 (d : Nat) (hd : 0 ≤ d) (v0 : Option Nat) (v1 : Int32) (v2 : Int32) (v3 : Int32) (v4 : Int32) (v5 : Int32)  (h : Hp) (r : Int32 × Hp) (hb : b_15_25 v0 v3 v4  h = some r) : Rn d 15 25 [some (va_rf v0), some (.int v1), some (.int v2), some (.int v3), some (.int v4), some (.int v5)] [] h (some (.int r.1), r.2) := by
  unfold b_15_25 at hb
  refine rn_aload_n (i := 0) rfl rfl ?_
  refine rn_gQ (c := 1) (k := 0) rfl (by decide) hb (fun x1 hb => ?_)
  refine rn_iload (i := 4) rfl rfl ?_
  refine rn_aJ rfl hb (fun x2 hb => ?_)
  refine rn_iload_n (i := 3) rfl rfl ?_
  refine rn_lushr rfl ?_
  refine rn_lconst (x := (lN 1)) rfl (by decide) ?_
  refine rn_land rfl ?_
  refine rn_goto rfl rfl ?_
  exact u_15_53 d hd v0 v1 v2 v3 v4 v5 (((x2.toUInt64 >>> (v3.toInt64.toUInt64 &&& Int64.toUInt64 63)).toInt64) &&& (lN 1)) h _ hb
def b_15_18 (v0 : Option Nat) (v3 : Int32) (v4 : Int32) (s0 : Int32) (h : Hp) : Option (Int32 × Hp) :=
  if s0 = 0 then b_15_39 v0 v3 v4  h else b_15_25 v0 v3 v4  h
theorem u_15_18 (d : Nat) (hd : 0 ≤ d) (v0 : Option Nat) (v1 : Int32) (v2 : Int32) (v3 : Int32) (v4 : Int32) (s0 : Int32) (h : Hp) (r : Int32 × Hp) (hb : b_15_18 v0 v3 v4 s0 h = some r) : Rn d 15 18 [some (va_rf v0), some (.int v1), some (.int v2), some (.int v3), some (.int v4), none] [.int s0] h (some (.int r.1), r.2) := by
  unfold b_15_18 at hb
  refine rn_istore (i := 5) (L1 := [some (va_rf v0), some (.int v1), some (.int v2), some (.int v3), some (.int v4), some (.int s0)]) rfl (Nat.le_of_ble_eq_true rfl) (Or.inr rfl) rfl ?_
  refine rn_iload (i := 5) rfl rfl ?_
  refine rn_if_eq rfl rfl (fun hc => ?_) (fun hc => ?_)
  · exact u_15_39 d hd v0 v1 v2 v3 v4 s0  h _ (if_t hb hc)
  · exact u_15_25 d hd v0 v1 v2 v3 v4 s0  h _ (if_f hb hc)
def b_15_17 (v0 : Option Nat) (v3 : Int32) (v4 : Int32)  (h : Hp) : Option (Int32 × Hp) :=
  b_15_18 v0 v3 v4 (nI 0) h
theorem u_15_17 (d : Nat) (hd : 0 ≤ d) (v0 : Option Nat) (v1 : Int32) (v2 : Int32) (v3 : Int32) (v4 : Int32)  (h : Hp) (r : Int32 × Hp) (hb : b_15_17 v0 v3 v4  h = some r) : Rn d 15 17 [some (va_rf v0), some (.int v1), some (.int v2), some (.int v3), some (.int v4), none] [] h (some (.int r.1), r.2) := by
  unfold b_15_17 at hb
  refine rn_iconst (x := (nI 0)) rfl (by decide) ?_
  exact u_15_18 d hd v0 v1 v2 v3 v4 (nI 0) h _ hb
def b_15_13 (v0 : Option Nat) (v3 : Int32) (v4 : Int32)  (h : Hp) : Option (Int32 × Hp) :=
  b_15_18 v0 v3 v4 (nI 1) h
theorem u_15_13 (d : Nat) (hd : 0 ≤ d) (v0 : Option Nat) (v1 : Int32) (v2 : Int32) (v3 : Int32) (v4 : Int32)  (h : Hp) (r : Int32 × Hp) (hb : b_15_13 v0 v3 v4  h = some r) : Rn d 15 13 [some (va_rf v0), some (.int v1), some (.int v2), some (.int v3), some (.int v4), none] [] h (some (.int r.1), r.2) := by
  unfold b_15_13 at hb
  refine rn_iconst (x := (nI 1)) rfl (by decide) ?_
  refine rn_goto rfl rfl ?_
  exact u_15_18 d hd v0 v1 v2 v3 v4 (nI 1) h _ hb
def b_15_0 (v0 : Option Nat) (v1 : Int32) (v2 : Int32) (v3 : Int32)  (h : Hp) : Option (Int32 × Hp) :=
  bnd ((((nI 3) * v1) + v2)) fun x1 =>
  if (nI 50) ≤ v3 then b_15_17 v0 v3 x1  h else b_15_13 v0 v3 x1  h
theorem u_15_0 (d : Nat) (hd : 0 ≤ d) (v0 : Option Nat) (v1 : Int32) (v2 : Int32) (v3 : Int32)  (h : Hp) (r : Int32 × Hp) (hb : b_15_0 v0 v1 v2 v3  h = some r) : Rn d 15 0 [some (va_rf v0), some (.int v1), some (.int v2), some (.int v3), none, none] [] h (some (.int r.1), r.2) := by
  unfold b_15_0 at hb
  refine rn_iconst (x := (nI 3)) rfl (by decide) ?_
  refine rn_iload_n (i := 1) rfl rfl ?_
  refine rn_imul rfl ?_
  refine rn_iload_n (i := 2) rfl rfl ?_
  refine rn_iadd rfl ?_
  obtain ⟨x1, ex1, hb⟩ := bnd_spec hb
  refine rn_istore (i := 4) (L1 := [some (va_rf v0), some (.int v1), some (.int v2), some (.int v3), some (.int x1), none]) rfl (Nat.le_of_ble_eq_true rfl) (Or.inr rfl) (by rw [ex1]; rfl) ?_
  refine rn_iload_n (i := 3) rfl rfl ?_
  refine rn_bipush (x := (nI 50)) rfl (by decide) ?_
  refine rn_icmp_ge rfl rfl (fun hc => ?_) (fun hc => ?_)
  · exact u_15_17 d hd v0 v1 v2 v3 x1  h _ (if_t hb hc)
  · exact u_15_13 d hd v0 v1 v2 v3 x1  h _ (if_f hb hc)
/-- BitingDoors$Door.leafHas(III)Z -/
def f_15 (v0 : Option Nat) (v1 : Int32) (v2 : Int32) (v3 : Int32) (h : Hp) : Option (Int32 × Hp) := b_15_0 v0 v1 v2 v3 h
theorem t_15 (d : Nat) (hd : 0 ≤ d) (v0 : Option Nat) (v1 : Int32) (v2 : Int32) (v3 : Int32) (h : Hp) (r : Int32 × Hp) (hb : f_15 v0 v1 v2 v3 h = some r) : Rn d 15 0 [some (va_rf v0), some (.int v1), some (.int v2), some (.int v3), none, none] [] h (some (.int r.1), r.2) := by
  unfold f_15 at hb
  exact u_15_0 d hd v0 v1 v2 v3 h r hb
def b_16_42   (h : Hp) : Option (Int32 × Hp) :=
  some ((-1 : Int32), h)
theorem u_16_42 (d : Nat) (hd : 1 ≤ d) (v0 : Option Nat) (v1 : Int32) (v2 : Int32) (v3 : Int32) (v4 : Int32) (v5 : Int32)  (h : Hp) (r : Int32 × Hp) (hb : b_16_42   h = some r) : Rn d 16 42 [some (va_rf v0), some (.int v1), some (.int v2), some (.int v3), some (.int v4), some (.int v5)] [] h (some (.int r.1), r.2) := by
  unfold b_16_42 at hb
  refine rn_iconst (x := (-1 : Int32)) rfl (by decide) ?_
  obtain rfl := Option.some.inj hb
  exact rn_iret rfl rfl
def b_16_36 (k6 : Option Nat → Int32 → Int32 → Int32 → Int32 → Int32 → Hp → Option (Int32 × Hp)) (v0 : Option Nat) (v1 : Int32) (v2 : Int32) (v3 : Int32) (v4 : Int32) (v5 : Int32)  (h : Hp) : Option (Int32 × Hp) :=
  bnd (v5 + (nI 1)) fun x1 =>
  k6 v0 v1 v2 v3 v4 x1 h
theorem u_16_36 (d : Nat) (hd : 1 ≤ d) (k6 : Option Nat → Int32 → Int32 → Int32 → Int32 → Int32 → Hp → Option (Int32 × Hp)) (K6 : ∀ (v0 : Option Nat) (v1 : Int32) (v2 : Int32) (v3 : Int32) (v4 : Int32) (v5 : Int32) (h : Hp) (r : Int32 × Hp), k6 v0 v1 v2 v3 v4 v5 h = some r → Rn d 16 6 [some (va_rf v0), some (.int v1), some (.int v2), some (.int v3), some (.int v4), some (.int v5)] [] h (some (.int r.1), r.2)) (v0 : Option Nat) (v1 : Int32) (v2 : Int32) (v3 : Int32) (v4 : Int32) (v5 : Int32)  (h : Hp) (r : Int32 × Hp) (hb : b_16_36 k6 v0 v1 v2 v3 v4 v5  h = some r) : Rn d 16 36 [some (va_rf v0), some (.int v1), some (.int v2), some (.int v3), some (.int v4), some (.int v5)] [] h (some (.int r.1), r.2) := by
  unfold b_16_36 at hb
  obtain ⟨x1, ex1, hb⟩ := bnd_spec hb
  refine rn_iinc (i := 5) (y := x1) (L1 := [some (va_rf v0), some (.int v1), some (.int v2), some (.int v3), some (.int v4), some (.int x1)]) rfl rfl (Nat.le_of_ble_eq_true rfl) (Or.inr rfl) (by rw [ex1]; rfl) rfl ?_
  refine rn_goto rfl rfl ?_
  exact K6 v0 v1 v2 v3 v4 x1 h _ hb
def b_16_33 (k6 : Option Nat → Int32 → Int32 → Int32 → Int32 → Int32 → Hp → Option (Int32 × Hp)) (v0 : Option Nat) (v1 : Int32) (v2 : Int32) (v3 : Int32) (v4 : Int32) (v5 : Int32)  (h : Hp) : Option (Int32 × Hp) :=
  bnd (v4 + (nI 1)) fun x1 =>
  b_16_36 k6 v0 v1 v2 v3 x1 v5  h
theorem u_16_33 (d : Nat) (hd : 1 ≤ d) (k6 : Option Nat → Int32 → Int32 → Int32 → Int32 → Int32 → Hp → Option (Int32 × Hp)) (K6 : ∀ (v0 : Option Nat) (v1 : Int32) (v2 : Int32) (v3 : Int32) (v4 : Int32) (v5 : Int32) (h : Hp) (r : Int32 × Hp), k6 v0 v1 v2 v3 v4 v5 h = some r → Rn d 16 6 [some (va_rf v0), some (.int v1), some (.int v2), some (.int v3), some (.int v4), some (.int v5)] [] h (some (.int r.1), r.2)) (v0 : Option Nat) (v1 : Int32) (v2 : Int32) (v3 : Int32) (v4 : Int32) (v5 : Int32)  (h : Hp) (r : Int32 × Hp) (hb : b_16_33 k6 v0 v1 v2 v3 v4 v5  h = some r) : Rn d 16 33 [some (va_rf v0), some (.int v1), some (.int v2), some (.int v3), some (.int v4), some (.int v5)] [] h (some (.int r.1), r.2) := by
  unfold b_16_33 at hb
  obtain ⟨x1, ex1, hb⟩ := bnd_spec hb
  refine rn_iinc (i := 4) (y := x1) (L1 := [some (va_rf v0), some (.int v1), some (.int v2), some (.int v3), some (.int x1), some (.int v5)]) rfl rfl (Nat.le_of_ble_eq_true rfl) (Or.inr rfl) (by rw [ex1]; rfl) rfl ?_
  exact u_16_36 d hd k6 K6 v0 v1 v2 v3 x1 v5  h _ hb
def b_16_30 (v5 : Int32)  (h : Hp) : Option (Int32 × Hp) :=
  some (v5, h)
theorem u_16_30 (d : Nat) (hd : 1 ≤ d) (v0 : Option Nat) (v1 : Int32) (v2 : Int32) (v3 : Int32) (v4 : Int32) (v5 : Int32)  (h : Hp) (r : Int32 × Hp) (hb : b_16_30 v5  h = some r) : Rn d 16 30 [some (va_rf v0), some (.int v1), some (.int v2), some (.int v3), some (.int v4), some (.int v5)] [] h (some (.int r.1), r.2) := by
  unfold b_16_30 at hb
  refine rn_iload (i := 5) rfl rfl ?_
  obtain rfl := Option.some.inj hb
  exact rn_iret rfl rfl
def b_16_24 (k6 : Option Nat → Int32 → Int32 → Int32 → Int32 → Int32 → Hp → Option (Int32 × Hp)) (v0 : Option Nat) (v1 : Int32) (v2 : Int32) (v3 : Int32) (v4 : Int32) (v5 : Int32)  (h : Hp) : Option (Int32 × Hp) :=
  if ¬ v4 = v3 then b_16_33 k6 v0 v1 v2 v3 v4 v5  h else b_16_30 v5  h
theorem u_16_24 (d : Nat) (hd : 1 ≤ d) (k6 : Option Nat → Int32 → Int32 → Int32 → Int32 → Int32 → Hp → Option (Int32 × Hp)) (K6 : ∀ (v0 : Option Nat) (v1 : Int32) (v2 : Int32) (v3 : Int32) (v4 : Int32) (v5 : Int32) (h : Hp) (r : Int32 × Hp), k6 v0 v1 v2 v3 v4 v5 h = some r → Rn d 16 6 [some (va_rf v0), some (.int v1), some (.int v2), some (.int v3), some (.int v4), some (.int v5)] [] h (some (.int r.1), r.2)) (v0 : Option Nat) (v1 : Int32) (v2 : Int32) (v3 : Int32) (v4 : Int32) (v5 : Int32)  (h : Hp) (r : Int32 × Hp) (hb : b_16_24 k6 v0 v1 v2 v3 v4 v5  h = some r) : Rn d 16 24 [some (va_rf v0), some (.int v1), some (.int v2), some (.int v3), some (.int v4), some (.int v5)] [] h (some (.int r.1), r.2) := by
  unfold b_16_24 at hb
  refine rn_iload (i := 4) rfl rfl ?_
  refine rn_iload_n (i := 3) rfl rfl ?_
  refine rn_icmp_ne rfl rfl (fun hc => ?_) (fun hc => ?_)
  · exact u_16_33 d hd k6 K6 v0 v1 v2 v3 v4 v5  h _ (if_t hb hc)
  · exact u_16_30 d hd v0 v1 v2 v3 v4 v5  h _ (if_f hb hc)
def b_16_13 (k6 : Option Nat → Int32 → Int32 → Int32 → Int32 → Int32 → Hp → Option (Int32 × Hp)) (v0 : Option Nat) (v1 : Int32) (v2 : Int32) (v3 : Int32) (v4 : Int32) (v5 : Int32)  (h : Hp) : Option (Int32 × Hp) :=
  (grd (rC 1 v0 h)).bind fun _ =>
  (f_15 v0 v1 v2 v5 h).bind fun p1 =>
  if p1.1 = 0 then b_16_36 k6 v0 v1 v2 v3 v4 v5  p1.2 else b_16_24 k6 v0 v1 v2 v3 v4 v5  p1.2
theorem u_16_13 (d : Nat) (hd : 1 ≤ d) (k6 : Option Nat → Int32 → Int32 → Int32 → Int32 → Int32 → Hp → Option (Int32 × Hp)) (K6 : ∀ (v0 : Option Nat) (v1 : Int32) (v2 : Int32) (v3 : Int32) (v4 : Int32) (v5 : Int32) (h : Hp) (r : Int32 × Hp), k6 v0 v1 v2 v3 v4 v5 h = some r → Rn d 16 6 [some (va_rf v0), some (.int v1), some (.int v2), some (.int v3), some (.int v4), some (.int v5)] [] h (some (.int r.1), r.2)) (v0 : Option Nat) (v1 : Int32) (v2 : Int32) (v3 : Int32) (v4 : Int32) (v5 : Int32)  (h : Hp) (r : Int32 × Hp) (hb : b_16_13 k6 v0 v1 v2 v3 v4 v5  h = some r) : Rn d 16 13 [some (va_rf v0), some (.int v1), some (.int v2), some (.int v3), some (.int v4), some (.int v5)] [] h (some (.int r.1), r.2) := by
  unfold b_16_13 at hb
  obtain ⟨e, rfl⟩ : ∃ e, d = e + 1 := ⟨d - 1, by omega⟩
  refine rn_aload_n (i := 0) rfl rfl ?_
  refine rn_iload_n (i := 1) rfl rfl ?_
  refine rn_iload_n (i := 2) rfl rfl ?_
  refine rn_iload (i := 5) rfl rfl ?_
  obtain ⟨hrc, hb⟩ := grd_spec hb
  obtain ⟨p1, hc, hb⟩ := Option.bind_eq_some_iff.mp hb
  refine Rn.call1 (d := e) (As := [va_rf v0, .int v1, .int v2, .int v5]) (rest := []) rfl rfl rfl (by decide) rfl rfl rfl (bd_rcV hrc rfl) (by decide) (bd_lenC (n := 6) rfl (bd_slR (bd_slI (bd_slI (bd_slI bd_slN)))) rfl) (bd_locC (n := 6) rfl (bd_slR (bd_slI (bd_slI (bd_slI bd_slN)))) rfl (t_15 e (by omega) v0 v1 v2 v5 h _ hc)) ?_
  refine rn_if_eq rfl rfl (fun hc => ?_) (fun hc => ?_)
  · exact u_16_36 (e + 1) hd k6 K6 v0 v1 v2 v3 v4 v5  p1.2 _ (if_t hb hc)
  · exact u_16_24 (e + 1) hd k6 K6 v0 v1 v2 v3 v4 v5  p1.2 _ (if_f hb hc)
def b_16_6 (k6 : Option Nat → Int32 → Int32 → Int32 → Int32 → Int32 → Hp → Option (Int32 × Hp)) (v0 : Option Nat) (v1 : Int32) (v2 : Int32) (v3 : Int32) (v4 : Int32) (v5 : Int32)  (h : Hp) : Option (Int32 × Hp) :=
  if (nI 100) ≤ v5 then b_16_42   h else b_16_13 k6 v0 v1 v2 v3 v4 v5  h
theorem u_16_6 (d : Nat) (hd : 1 ≤ d) (k6 : Option Nat → Int32 → Int32 → Int32 → Int32 → Int32 → Hp → Option (Int32 × Hp)) (K6 : ∀ (v0 : Option Nat) (v1 : Int32) (v2 : Int32) (v3 : Int32) (v4 : Int32) (v5 : Int32) (h : Hp) (r : Int32 × Hp), k6 v0 v1 v2 v3 v4 v5 h = some r → Rn d 16 6 [some (va_rf v0), some (.int v1), some (.int v2), some (.int v3), some (.int v4), some (.int v5)] [] h (some (.int r.1), r.2)) (v0 : Option Nat) (v1 : Int32) (v2 : Int32) (v3 : Int32) (v4 : Int32) (v5 : Int32)  (h : Hp) (r : Int32 × Hp) (hb : b_16_6 k6 v0 v1 v2 v3 v4 v5  h = some r) : Rn d 16 6 [some (va_rf v0), some (.int v1), some (.int v2), some (.int v3), some (.int v4), some (.int v5)] [] h (some (.int r.1), r.2) := by
  unfold b_16_6 at hb
  refine rn_iload (i := 5) rfl rfl ?_
  refine rn_bipush (x := (nI 100)) rfl (by decide) ?_
  refine rn_icmp_ge rfl rfl (fun hc => ?_) (fun hc => ?_)
  · exact u_16_42 d hd v0 v1 v2 v3 v4 v5  h _ (if_t hb hc)
  · exact u_16_13 d hd k6 K6 v0 v1 v2 v3 v4 v5  h _ (if_f hb hc)
def l_16_6 : Nat → Option Nat → Int32 → Int32 → Int32 → Int32 → Int32 → Hp → Option (Int32 × Hp)
  | 0, _, _, _, _, _, _, _ => none
  | n + 1, v0, v1, v2, v3, v4, v5, h => b_16_6 (l_16_6 n) v0 v1 v2 v3 v4 v5 h
theorem w_16_6 (d : Nat) (hd : 1 ≤ d) : ∀ (n : Nat) (v0 : Option Nat) (v1 : Int32) (v2 : Int32) (v3 : Int32) (v4 : Int32) (v5 : Int32) (h : Hp) (r : Int32 × Hp), l_16_6 n v0 v1 v2 v3 v4 v5 h = some r → Rn d 16 6 [some (va_rf v0), some (.int v1), some (.int v2), some (.int v3), some (.int v4), some (.int v5)] [] h (some (.int r.1), r.2) := by
  intro n
  induction n with
  | zero => intro v0 v1 v2 v3 v4 v5 h r hb; cases hb
  | succ n ih => intro v0 v1 v2 v3 v4 v5 h r hb; exact u_16_6 d hd (l_16_6 n) ih v0 v1 v2 v3 v4 v5 h r hb
def b_16_0 (v0 : Option Nat) (v1 : Int32) (v2 : Int32) (v3 : Int32)  (h : Hp) : Option (Int32 × Hp) :=
  bnd ((nI 0)) fun x1 =>
  bnd ((nI 0)) fun x2 =>
  l_16_6 FU v0 v1 v2 v3 x1 x2 h
theorem u_16_0 (d : Nat) (hd : 1 ≤ d) (v0 : Option Nat) (v1 : Int32) (v2 : Int32) (v3 : Int32)  (h : Hp) (r : Int32 × Hp) (hb : b_16_0 v0 v1 v2 v3  h = some r) : Rn d 16 0 [some (va_rf v0), some (.int v1), some (.int v2), some (.int v3), none, none] [] h (some (.int r.1), r.2) := by
  unfold b_16_0 at hb
  refine rn_iconst (x := (nI 0)) rfl (by decide) ?_
  obtain ⟨x1, ex1, hb⟩ := bnd_spec hb
  refine rn_istore (i := 4) (L1 := [some (va_rf v0), some (.int v1), some (.int v2), some (.int v3), some (.int x1), none]) rfl (Nat.le_of_ble_eq_true rfl) (Or.inr rfl) (by rw [ex1]; rfl) ?_
  refine rn_iconst (x := (nI 0)) rfl (by decide) ?_
  obtain ⟨x2, ex2, hb⟩ := bnd_spec hb
  refine rn_istore (i := 5) (L1 := [some (va_rf v0), some (.int v1), some (.int v2), some (.int v3), some (.int x1), some (.int x2)]) rfl (Nat.le_of_ble_eq_true rfl) (Or.inr rfl) (by rw [ex2]; rfl) ?_
  exact w_16_6 d hd FU v0 v1 v2 v3 x1 x2 h _ hb
/-- BitingDoors$Door.leafCell(III)I -/
def f_16 (v0 : Option Nat) (v1 : Int32) (v2 : Int32) (v3 : Int32) (h : Hp) : Option (Int32 × Hp) := b_16_0 v0 v1 v2 v3 h
theorem t_16 (d : Nat) (hd : 1 ≤ d) (v0 : Option Nat) (v1 : Int32) (v2 : Int32) (v3 : Int32) (h : Hp) (r : Int32 × Hp) (hb : f_16 v0 v1 v2 v3 h = some r) : Rn d 16 0 [some (va_rf v0), some (.int v1), some (.int v2), some (.int v3), none, none] [] h (some (.int r.1), r.2) := by
  unfold f_16 at hb
  exact u_16_0 d hd v0 v1 v2 v3 h r hb
def b_50_49  (s0 : Int32) (h : Hp) : Option (Int32 × Hp) :=
  some (s0, h)
theorem u_50_49 (d : Nat) (hd : 0 ≤ d) (v0 : Option Nat) (v1 : Int32) (v2 : Int32) (v3 : Int32) (s0 : Int32) (h : Hp) (r : Int32 × Hp) (hb : b_50_49  s0 h = some r) : Rn d 50 49 [some (va_rf v0), some (.int v1), some (.int v2), some (.int v3)] [.int s0] h (some (.int r.1), r.2) := by
  unfold b_50_49 at hb
  obtain rfl := Option.some.inj hb
  exact rn_iret rfl rfl
def b_50_48   (h : Hp) : Option (Int32 × Hp) :=
  b_50_49  (-1 : Int32) h
theorem u_50_48 (d : Nat) (hd : 0 ≤ d) (v0 : Option Nat) (v1 : Int32) (v2 : Int32) (v3 : Int32)  (h : Hp) (r : Int32 × Hp) (hb : b_50_48   h = some r) : Rn d 50 48 [some (va_rf v0), some (.int v1), some (.int v2), some (.int v3)] [] h (some (.int r.1), r.2) := by
  unfold b_50_48 at hb
  refine rn_iconst (x := (-1 : Int32)) rfl (by decide) ?_
  exact u_50_49 d hd v0 v1 v2 v3 (-1 : Int32) h _ hb
def b_50_34 (v0 : Option Nat) (v1 : Int32) (v2 : Int32)  (h : Hp) : Option (Int32 × Hp) :=
  (gQ 4 0 v0 h).bind fun x1 =>
  (aI 12 x1 (((nI 10) * v2) + v1) h).bind fun x2 =>
  b_50_49  x2 h
theorem u_50_34 (d : Nat) (hd : 0 ≤ d) (v0 : Option Nat) (v1 : Int32) (v2 : Int32) (v3 : Int32)  (h : Hp) (r : Int32 × Hp) (hb : b_50_34 v0 v1 v2  h = some r) : Rn d 50 34 [some (va_rf v0), some (.int v1), some (.int v2), some (.int v3)] [] h (some (.int r.1), r.2) := by
  unfold b_50_34 at hb
  refine rn_aload_n (i := 0) rfl rfl ?_
  refine rn_gQ (c := 4) (k := 0) rfl (by decide) hb (fun x1 hb => ?_)
  refine rn_bipush (x := (nI 10)) rfl (by decide) ?_
  refine rn_iload_n (i := 2) rfl rfl ?_
  refine rn_imul rfl ?_
  refine rn_iload_n (i := 1) rfl rfl ?_
  refine rn_iadd rfl ?_
  refine rn_aI rfl hb (fun x2 hb => ?_)
  refine rn_goto rfl rfl ?_
  exact u_50_49 d hd v0 v1 v2 v3 x2 h _ hb
def b_50_29 (v0 : Option Nat) (v1 : Int32) (v2 : Int32) (s0 : Int32) (h : Hp) : Option (Int32 × Hp) :=
  if s0 = 0 then b_50_48   h else b_50_34 v0 v1 v2  h
theorem u_50_29 (d : Nat) (hd : 0 ≤ d) (v0 : Option Nat) (v1 : Int32) (v2 : Int32) (s0 : Int32) (h : Hp) (r : Int32 × Hp) (hb : b_50_29 v0 v1 v2 s0 h = some r) : Rn d 50 29 [some (va_rf v0), some (.int v1), some (.int v2), none] [.int s0] h (some (.int r.1), r.2) := by
  unfold b_50_29 at hb
  refine rn_istore_n (i := 3) (L1 := [some (va_rf v0), some (.int v1), some (.int v2), some (.int s0)]) rfl (Nat.le_of_ble_eq_true rfl) (Or.inr rfl) rfl ?_
  refine rn_iload_n (i := 3) rfl rfl ?_
  refine rn_if_eq rfl rfl (fun hc => ?_) (fun hc => ?_)
  · exact u_50_48 d hd v0 v1 v2 s0  h _ (if_t hb hc)
  · exact u_50_34 d hd v0 v1 v2 s0  h _ (if_f hb hc)
def b_50_28 (v0 : Option Nat) (v1 : Int32) (v2 : Int32)  (h : Hp) : Option (Int32 × Hp) :=
  b_50_29 v0 v1 v2 (nI 0) h
theorem u_50_28 (d : Nat) (hd : 0 ≤ d) (v0 : Option Nat) (v1 : Int32) (v2 : Int32)  (h : Hp) (r : Int32 × Hp) (hb : b_50_28 v0 v1 v2  h = some r) : Rn d 50 28 [some (va_rf v0), some (.int v1), some (.int v2), none] [] h (some (.int r.1), r.2) := by
  unfold b_50_28 at hb
  refine rn_iconst (x := (nI 0)) rfl (by decide) ?_
  exact u_50_29 d hd v0 v1 v2 (nI 0) h _ hb
def b_50_24 (v0 : Option Nat) (v1 : Int32) (v2 : Int32)  (h : Hp) : Option (Int32 × Hp) :=
  b_50_29 v0 v1 v2 (nI 1) h
theorem u_50_24 (d : Nat) (hd : 0 ≤ d) (v0 : Option Nat) (v1 : Int32) (v2 : Int32)  (h : Hp) (r : Int32 × Hp) (hb : b_50_24 v0 v1 v2  h = some r) : Rn d 50 24 [some (va_rf v0), some (.int v1), some (.int v2), none] [] h (some (.int r.1), r.2) := by
  unfold b_50_24 at hb
  refine rn_iconst (x := (nI 1)) rfl (by decide) ?_
  refine rn_goto rfl rfl ?_
  exact u_50_29 d hd v0 v1 v2 (nI 1) h _ hb
def b_50_16 (v0 : Option Nat) (v1 : Int32) (v2 : Int32)  (h : Hp) : Option (Int32 × Hp) :=
  (gI 4 4 v0 h).bind fun x1 =>
  if x1 ≤ v2 then b_50_28 v0 v1 v2  h else b_50_24 v0 v1 v2  h
theorem u_50_16 (d : Nat) (hd : 0 ≤ d) (v0 : Option Nat) (v1 : Int32) (v2 : Int32)  (h : Hp) (r : Int32 × Hp) (hb : b_50_16 v0 v1 v2  h = some r) : Rn d 50 16 [some (va_rf v0), some (.int v1), some (.int v2), none] [] h (some (.int r.1), r.2) := by
  unfold b_50_16 at hb
  refine rn_iload_n (i := 2) rfl rfl ?_
  refine rn_aload_n (i := 0) rfl rfl ?_
  refine rn_gI (c := 4) (k := 4) rfl (by decide) hb (fun x1 hb => ?_)
  refine rn_icmp_ge rfl rfl (fun hc => ?_) (fun hc => ?_)
  · exact u_50_28 d hd v0 v1 v2  h _ (if_t hb hc)
  · exact u_50_24 d hd v0 v1 v2  h _ (if_f hb hc)
def b_50_12 (v0 : Option Nat) (v1 : Int32) (v2 : Int32)  (h : Hp) : Option (Int32 × Hp) :=
  if v2 < 0 then b_50_28 v0 v1 v2  h else b_50_16 v0 v1 v2  h
theorem u_50_12 (d : Nat) (hd : 0 ≤ d) (v0 : Option Nat) (v1 : Int32) (v2 : Int32)  (h : Hp) (r : Int32 × Hp) (hb : b_50_12 v0 v1 v2  h = some r) : Rn d 50 12 [some (va_rf v0), some (.int v1), some (.int v2), none] [] h (some (.int r.1), r.2) := by
  unfold b_50_12 at hb
  refine rn_iload_n (i := 2) rfl rfl ?_
  refine rn_if_lt rfl rfl (fun hc => ?_) (fun hc => ?_)
  · exact u_50_28 d hd v0 v1 v2  h _ (if_t hb hc)
  · exact u_50_16 d hd v0 v1 v2  h _ (if_f hb hc)
def b_50_4 (v0 : Option Nat) (v1 : Int32) (v2 : Int32)  (h : Hp) : Option (Int32 × Hp) :=
  (gI 4 3 v0 h).bind fun x1 =>
  if x1 ≤ v1 then b_50_28 v0 v1 v2  h else b_50_12 v0 v1 v2  h
theorem u_50_4 (d : Nat) (hd : 0 ≤ d) (v0 : Option Nat) (v1 : Int32) (v2 : Int32)  (h : Hp) (r : Int32 × Hp) (hb : b_50_4 v0 v1 v2  h = some r) : Rn d 50 4 [some (va_rf v0), some (.int v1), some (.int v2), none] [] h (some (.int r.1), r.2) := by
  unfold b_50_4 at hb
  refine rn_iload_n (i := 1) rfl rfl ?_
  refine rn_aload_n (i := 0) rfl rfl ?_
  refine rn_gI (c := 4) (k := 3) rfl (by decide) hb (fun x1 hb => ?_)
  refine rn_icmp_ge rfl rfl (fun hc => ?_) (fun hc => ?_)
  · exact u_50_28 d hd v0 v1 v2  h _ (if_t hb hc)
  · exact u_50_12 d hd v0 v1 v2  h _ (if_f hb hc)
def b_50_0 (v0 : Option Nat) (v1 : Int32) (v2 : Int32)  (h : Hp) : Option (Int32 × Hp) :=
  if v1 < 0 then b_50_28 v0 v1 v2  h else b_50_4 v0 v1 v2  h
theorem u_50_0 (d : Nat) (hd : 0 ≤ d) (v0 : Option Nat) (v1 : Int32) (v2 : Int32)  (h : Hp) (r : Int32 × Hp) (hb : b_50_0 v0 v1 v2  h = some r) : Rn d 50 0 [some (va_rf v0), some (.int v1), some (.int v2), none] [] h (some (.int r.1), r.2) := by
  unfold b_50_0 at hb
  refine rn_iload_n (i := 1) rfl rfl ?_
  refine rn_if_lt rfl rfl (fun hc => ?_) (fun hc => ?_)
  · exact u_50_28 d hd v0 v1 v2  h _ (if_t hb hc)
  · exact u_50_4 d hd v0 v1 v2  h _ (if_f hb hc)
/-- BitingDoors$House.cellAt(II)I -/
def f_50 (v0 : Option Nat) (v1 : Int32) (v2 : Int32) (h : Hp) : Option (Int32 × Hp) := b_50_0 v0 v1 v2 h
theorem t_50 (d : Nat) (hd : 0 ≤ d) (v0 : Option Nat) (v1 : Int32) (v2 : Int32) (h : Hp) (r : Int32 × Hp) (hb : f_50 v0 v1 v2 h = some r) : Rn d 50 0 [some (va_rf v0), some (.int v1), some (.int v2), none] [] h (some (.int r.1), r.2) := by
  unfold f_50 at hb
  exact u_50_0 d hd v0 v1 v2 h r hb
def b_19_68  (s0 : Int32) (h : Hp) : Option (Int32 × Hp) :=
  (grd (decide (s0 = 0 ∨ s0 = 1))).bind fun _ => some (s0, h)
theorem u_19_68 (d : Nat) (hd : 0 ≤ d) (v0 : Option Nat) (v1 : Int32) (v2 : Int32) (v3 : Int32) (s0 : Int32) (h : Hp) (r : Int32 × Hp) (hb : b_19_68  s0 h = some r) : Rn d 19 68 [some (va_rf v0), some (.int v1), some (.int v2), some (.int v3)] [.int s0] h (some (.int r.1), r.2) := by
  unfold b_19_68 at hb
  obtain ⟨hz, hb⟩ := grd_spec hb
  obtain rfl := Option.some.inj hb
  exact rn_zret rfl rfl (of_decide_eq_true hz)
def b_19_67   (h : Hp) : Option (Int32 × Hp) :=
  b_19_68  (nI 0) h
theorem u_19_67 (d : Nat) (hd : 0 ≤ d) (v0 : Option Nat) (v1 : Int32) (v2 : Int32) (v3 : Int32)  (h : Hp) (r : Int32 × Hp) (hb : b_19_67   h = some r) : Rn d 19 67 [some (va_rf v0), some (.int v1), some (.int v2), some (.int v3)] [] h (some (.int r.1), r.2) := by
  unfold b_19_67 at hb
  refine rn_iconst (x := (nI 0)) rfl (by decide) ?_
  exact u_19_68 d hd v0 v1 v2 v3 (nI 0) h _ hb
def b_19_63   (h : Hp) : Option (Int32 × Hp) :=
  b_19_68  (nI 1) h
theorem u_19_63 (d : Nat) (hd : 0 ≤ d) (v0 : Option Nat) (v1 : Int32) (v2 : Int32) (v3 : Int32)  (h : Hp) (r : Int32 × Hp) (hb : b_19_63   h = some r) : Rn d 19 63 [some (va_rf v0), some (.int v1), some (.int v2), some (.int v3)] [] h (some (.int r.1), r.2) := by
  unfold b_19_63 at hb
  refine rn_iconst (x := (nI 1)) rfl (by decide) ?_
  refine rn_goto rfl rfl ?_
  exact u_19_68 d hd v0 v1 v2 v3 (nI 1) h _ hb
def b_19_56 (v2 : Int32) (v3 : Int32)  (h : Hp) : Option (Int32 × Hp) :=
  if ¬ v3 = (v2 + (nI 1)) then b_19_67   h else b_19_63   h
theorem u_19_56 (d : Nat) (hd : 0 ≤ d) (v0 : Option Nat) (v1 : Int32) (v2 : Int32) (v3 : Int32)  (h : Hp) (r : Int32 × Hp) (hb : b_19_56 v2 v3  h = some r) : Rn d 19 56 [some (va_rf v0), some (.int v1), some (.int v2), some (.int v3)] [] h (some (.int r.1), r.2) := by
  unfold b_19_56 at hb
  refine rn_iload_n (i := 3) rfl rfl ?_
  refine rn_iload_n (i := 2) rfl rfl ?_
  refine rn_iconst (x := (nI 1)) rfl (by decide) ?_
  refine rn_iadd rfl ?_
  refine rn_icmp_ne rfl rfl (fun hc => ?_) (fun hc => ?_)
  · exact u_19_67 d hd v0 v1 v2 v3  h _ (if_t hb hc)
  · exact u_19_63 d hd v0 v1 v2 v3  h _ (if_f hb hc)
def b_19_51 (v2 : Int32) (v3 : Int32)  (h : Hp) : Option (Int32 × Hp) :=
  if v3 = v2 then b_19_63   h else b_19_56 v2 v3  h
theorem u_19_51 (d : Nat) (hd : 0 ≤ d) (v0 : Option Nat) (v1 : Int32) (v2 : Int32) (v3 : Int32)  (h : Hp) (r : Int32 × Hp) (hb : b_19_51 v2 v3  h = some r) : Rn d 19 51 [some (va_rf v0), some (.int v1), some (.int v2), some (.int v3)] [] h (some (.int r.1), r.2) := by
  unfold b_19_51 at hb
  refine rn_iload_n (i := 3) rfl rfl ?_
  refine rn_iload_n (i := 2) rfl rfl ?_
  refine rn_icmp_eq rfl rfl (fun hc => ?_) (fun hc => ?_)
  · exact u_19_63 d hd v0 v1 v2 v3  h _ (if_t hb hc)
  · exact u_19_56 d hd v0 v1 v2 v3  h _ (if_f hb hc)
def b_19_37 (v0 : Option Nat) (v2 : Int32) (v3 : Int32)  (h : Hp) : Option (Int32 × Hp) :=
  (gI 1 9 v0 h).bind fun x1 =>
  if (if (nI 1) < (x1 - (nI 1)) then (x1 - (nI 1)) else (nI 1)) < v3 then b_19_67   h else b_19_51 v2 v3  h
theorem u_19_37 (d : Nat) (hd : 0 ≤ d) (v0 : Option Nat) (v1 : Int32) (v2 : Int32) (v3 : Int32)  (h : Hp) (r : Int32 × Hp) (hb : b_19_37 v0 v2 v3  h = some r) : Rn d 19 37 [some (va_rf v0), some (.int v1), some (.int v2), some (.int v3)] [] h (some (.int r.1), r.2) := by
  unfold b_19_37 at hb
  refine rn_iload_n (i := 3) rfl rfl ?_
  refine rn_iconst (x := (nI 1)) rfl (by decide) ?_
  refine rn_aload_n (i := 0) rfl rfl ?_
  refine rn_gI (c := 1) (k := 9) rfl (by decide) hb (fun x1 hb => ?_)
  refine rn_iconst (x := (nI 1)) rfl (by decide) ?_
  refine rn_isub rfl ?_
  refine rn_mm (f := fun x y => if x < y then y else x) rfl (Or.inl ⟨rfl, rfl⟩) (by rw [bd_cI (bd_cN)]; decide) ?_
  refine rn_icmp_gt rfl rfl (fun hc => ?_) (fun hc => ?_)
  · exact u_19_67 d hd v0 v1 v2 v3  h _ (if_t hb hc)
  · exact u_19_51 d hd v0 v1 v2 v3  h _ (if_f hb hc)
def b_19_33 (v0 : Option Nat) (v2 : Int32) (v3 : Int32)  (h : Hp) : Option (Int32 × Hp) :=
  if v3 ≤ 0 then b_19_67   h else b_19_37 v0 v2 v3  h
theorem u_19_33 (d : Nat) (hd : 0 ≤ d) (v0 : Option Nat) (v1 : Int32) (v2 : Int32) (v3 : Int32)  (h : Hp) (r : Int32 × Hp) (hb : b_19_33 v0 v2 v3  h = some r) : Rn d 19 33 [some (va_rf v0), some (.int v1), some (.int v2), some (.int v3)] [] h (some (.int r.1), r.2) := by
  unfold b_19_33 at hb
  refine rn_iload_n (i := 3) rfl rfl ?_
  refine rn_if_le rfl rfl (fun hc => ?_) (fun hc => ?_)
  · exact u_19_67 d hd v0 v1 v2 v3  h _ (if_t hb hc)
  · exact u_19_37 d hd v0 v1 v2 v3  h _ (if_f hb hc)
def b_19_32  (s0 : Int32) (h : Hp) : Option (Int32 × Hp) :=
  (grd (decide (s0 = 0 ∨ s0 = 1))).bind fun _ => some (s0, h)
theorem u_19_32 (d : Nat) (hd : 0 ≤ d) (v0 : Option Nat) (v1 : Int32) (v2 : Int32) (v3 : Int32) (s0 : Int32) (h : Hp) (r : Int32 × Hp) (hb : b_19_32  s0 h = some r) : Rn d 19 32 [some (va_rf v0), some (.int v1), some (.int v2), some (.int v3)] [.int s0] h (some (.int r.1), r.2) := by
  unfold b_19_32 at hb
  obtain ⟨hz, hb⟩ := grd_spec hb
  obtain rfl := Option.some.inj hb
  exact rn_zret rfl rfl (of_decide_eq_true hz)
def b_19_31   (h : Hp) : Option (Int32 × Hp) :=
  b_19_32  (nI 0) h
theorem u_19_31 (d : Nat) (hd : 0 ≤ d) (v0 : Option Nat) (v1 : Int32) (v2 : Int32) (v3 : Int32)  (h : Hp) (r : Int32 × Hp) (hb : b_19_31   h = some r) : Rn d 19 31 [some (va_rf v0), some (.int v1), some (.int v2), some (.int v3)] [] h (some (.int r.1), r.2) := by
  unfold b_19_31 at hb
  refine rn_iconst (x := (nI 0)) rfl (by decide) ?_
  exact u_19_32 d hd v0 v1 v2 v3 (nI 0) h _ hb
def b_19_27   (h : Hp) : Option (Int32 × Hp) :=
  b_19_32  (nI 1) h
theorem u_19_27 (d : Nat) (hd : 0 ≤ d) (v0 : Option Nat) (v1 : Int32) (v2 : Int32) (v3 : Int32)  (h : Hp) (r : Int32 × Hp) (hb : b_19_27   h = some r) : Rn d 19 27 [some (va_rf v0), some (.int v1), some (.int v2), some (.int v3)] [] h (some (.int r.1), r.2) := by
  unfold b_19_27 at hb
  refine rn_iconst (x := (nI 1)) rfl (by decide) ?_
  refine rn_goto rfl rfl ?_
  exact u_19_32 d hd v0 v1 v2 v3 (nI 1) h _ hb
def b_19_23 (v3 : Int32)  (h : Hp) : Option (Int32 × Hp) :=
  if v3 ≤ 0 then b_19_31   h else b_19_27   h
theorem u_19_23 (d : Nat) (hd : 0 ≤ d) (v0 : Option Nat) (v1 : Int32) (v2 : Int32) (v3 : Int32)  (h : Hp) (r : Int32 × Hp) (hb : b_19_23 v3  h = some r) : Rn d 19 23 [some (va_rf v0), some (.int v1), some (.int v2), some (.int v3)] [] h (some (.int r.1), r.2) := by
  unfold b_19_23 at hb
  refine rn_iload_n (i := 3) rfl rfl ?_
  refine rn_if_le rfl rfl (fun hc => ?_) (fun hc => ?_)
  · exact u_19_31 d hd v0 v1 v2 v3  h _ (if_t hb hc)
  · exact u_19_27 d hd v0 v1 v2 v3  h _ (if_f hb hc)
def b_19_19 (v2 : Int32) (v3 : Int32)  (h : Hp) : Option (Int32 × Hp) :=
  if ¬ v2 = 0 then b_19_31   h else b_19_23 v3  h
theorem u_19_19 (d : Nat) (hd : 0 ≤ d) (v0 : Option Nat) (v1 : Int32) (v2 : Int32) (v3 : Int32)  (h : Hp) (r : Int32 × Hp) (hb : b_19_19 v2 v3  h = some r) : Rn d 19 19 [some (va_rf v0), some (.int v1), some (.int v2), some (.int v3)] [] h (some (.int r.1), r.2) := by
  unfold b_19_19 at hb
  refine rn_iload_n (i := 2) rfl rfl ?_
  refine rn_if_ne rfl rfl (fun hc => ?_) (fun hc => ?_)
  · exact u_19_31 d hd v0 v1 v2 v3  h _ (if_t hb hc)
  · exact u_19_23 d hd v0 v1 v2 v3  h _ (if_f hb hc)
def b_19_14 (v0 : Option Nat) (v1 : Int32) (v2 : Int32) (v3 : Int32)  (h : Hp) : Option (Int32 × Hp) :=
  if ¬ v1 = (nI 2) then b_19_33 v0 v2 v3  h else b_19_19 v2 v3  h
theorem u_19_14 (d : Nat) (hd : 0 ≤ d) (v0 : Option Nat) (v1 : Int32) (v2 : Int32) (v3 : Int32)  (h : Hp) (r : Int32 × Hp) (hb : b_19_14 v0 v1 v2 v3  h = some r) : Rn d 19 14 [some (va_rf v0), some (.int v1), some (.int v2), some (.int v3)] [] h (some (.int r.1), r.2) := by
  unfold b_19_14 at hb
  refine rn_iload_n (i := 1) rfl rfl ?_
  refine rn_iconst (x := (nI 2)) rfl (by decide) ?_
  refine rn_icmp_ne rfl rfl (fun hc => ?_) (fun hc => ?_)
  · exact u_19_33 d hd v0 v1 v2 v3  h _ (if_t hb hc)
  · exact u_19_19 d hd v0 v1 v2 v3  h _ (if_f hb hc)
def b_19_13  (s0 : Int32) (h : Hp) : Option (Int32 × Hp) :=
  (grd (decide (s0 = 0 ∨ s0 = 1))).bind fun _ => some (s0, h)
theorem u_19_13 (d : Nat) (hd : 0 ≤ d) (v0 : Option Nat) (v1 : Int32) (v2 : Int32) (v3 : Int32) (s0 : Int32) (h : Hp) (r : Int32 × Hp) (hb : b_19_13  s0 h = some r) : Rn d 19 13 [some (va_rf v0), some (.int v1), some (.int v2), some (.int v3)] [.int s0] h (some (.int r.1), r.2) := by
  unfold b_19_13 at hb
  obtain ⟨hz, hb⟩ := grd_spec hb
  obtain rfl := Option.some.inj hb
  exact rn_zret rfl rfl (of_decide_eq_true hz)
def b_19_12   (h : Hp) : Option (Int32 × Hp) :=
  b_19_13  (nI 0) h
theorem u_19_12 (d : Nat) (hd : 0 ≤ d) (v0 : Option Nat) (v1 : Int32) (v2 : Int32) (v3 : Int32)  (h : Hp) (r : Int32 × Hp) (hb : b_19_12   h = some r) : Rn d 19 12 [some (va_rf v0), some (.int v1), some (.int v2), some (.int v3)] [] h (some (.int r.1), r.2) := by
  unfold b_19_12 at hb
  refine rn_iconst (x := (nI 0)) rfl (by decide) ?_
  exact u_19_13 d hd v0 v1 v2 v3 (nI 0) h _ hb
def b_19_8   (h : Hp) : Option (Int32 × Hp) :=
  b_19_13  (nI 1) h
theorem u_19_8 (d : Nat) (hd : 0 ≤ d) (v0 : Option Nat) (v1 : Int32) (v2 : Int32) (v3 : Int32)  (h : Hp) (r : Int32 × Hp) (hb : b_19_8   h = some r) : Rn d 19 8 [some (va_rf v0), some (.int v1), some (.int v2), some (.int v3)] [] h (some (.int r.1), r.2) := by
  unfold b_19_8 at hb
  refine rn_iconst (x := (nI 1)) rfl (by decide) ?_
  refine rn_goto rfl rfl ?_
  exact u_19_13 d hd v0 v1 v2 v3 (nI 1) h _ hb
def b_19_4 (v3 : Int32)  (h : Hp) : Option (Int32 × Hp) :=
  if ¬ v3 = 0 then b_19_12   h else b_19_8   h
theorem u_19_4 (d : Nat) (hd : 0 ≤ d) (v0 : Option Nat) (v1 : Int32) (v2 : Int32) (v3 : Int32)  (h : Hp) (r : Int32 × Hp) (hb : b_19_4 v3  h = some r) : Rn d 19 4 [some (va_rf v0), some (.int v1), some (.int v2), some (.int v3)] [] h (some (.int r.1), r.2) := by
  unfold b_19_4 at hb
  refine rn_iload_n (i := 3) rfl rfl ?_
  refine rn_if_ne rfl rfl (fun hc => ?_) (fun hc => ?_)
  · exact u_19_12 d hd v0 v1 v2 v3  h _ (if_t hb hc)
  · exact u_19_8 d hd v0 v1 v2 v3  h _ (if_f hb hc)
def b_19_0 (v0 : Option Nat) (v1 : Int32) (v2 : Int32) (v3 : Int32)  (h : Hp) : Option (Int32 × Hp) :=
  if ¬ v1 = 0 then b_19_14 v0 v1 v2 v3  h else b_19_4 v3  h
theorem u_19_0 (d : Nat) (hd : 0 ≤ d) (v0 : Option Nat) (v1 : Int32) (v2 : Int32) (v3 : Int32)  (h : Hp) (r : Int32 × Hp) (hb : b_19_0 v0 v1 v2 v3  h = some r) : Rn d 19 0 [some (va_rf v0), some (.int v1), some (.int v2), some (.int v3)] [] h (some (.int r.1), r.2) := by
  unfold b_19_0 at hb
  refine rn_iload_n (i := 1) rfl rfl ?_
  refine rn_if_ne rfl rfl (fun hc => ?_) (fun hc => ?_)
  · exact u_19_14 d hd v0 v1 v2 v3  h _ (if_t hb hc)
  · exact u_19_4 d hd v0 v1 v2 v3  h _ (if_f hb hc)
/-- BitingDoors$Door.isOfLeaf(III)Z -/
def f_19 (v0 : Option Nat) (v1 : Int32) (v2 : Int32) (v3 : Int32) (h : Hp) : Option (Int32 × Hp) := b_19_0 v0 v1 v2 v3 h
theorem t_19 (d : Nat) (hd : 0 ≤ d) (v0 : Option Nat) (v1 : Int32) (v2 : Int32) (v3 : Int32) (h : Hp) (r : Int32 × Hp) (hb : f_19 v0 v1 v2 v3 h = some r) : Rn d 19 0 [some (va_rf v0), some (.int v1), some (.int v2), some (.int v3)] [] h (some (.int r.1), r.2) := by
  unfold f_19 at hb
  exact u_19_0 d hd v0 v1 v2 v3 h r hb
def b_20_20   (h : Hp) : Option (Hp) :=
  some h
theorem u_20_20 (d : Nat) (hd : 0 ≤ d) (v0 : Option Nat) (v1 : Int32) (v2 : Int32) (v3 : Int32)  (h : Hp) (r : Hp) (hb : b_20_20   h = some r) : Rn d 20 20 [some (va_rf v0), some (.int v1), some (.int v2), some (.int v3), none] [] h (none, r) := by
  unfold b_20_20 at hb
  obtain rfl := Option.some.inj hb
  exact rn_vret rfl rfl
def b_20_68   (h : Hp) : Option (Hp) :=
  some h
theorem u_20_68 (d : Nat) (hd : 0 ≤ d) (v0 : Option Nat) (v1 : Int32) (v2 : Int32) (v3 : Int32) (v4 : Int32)  (h : Hp) (r : Hp) (hb : b_20_68   h = some r) : Rn d 20 68 [some (va_rf v0), some (.int v1), some (.int v2), some (.int v3), some (.int v4)] [] h (none, r) := by
  unfold b_20_68 at hb
  obtain rfl := Option.some.inj hb
  exact rn_vret rfl rfl
def b_20_52 (v0 : Option Nat) (v1 : Int32) (v4 : Int32)  (h : Hp) : Option (Hp) :=
  (gQ 1 1 v0 h).bind fun x1 =>
  (aJ x1 v1 h).bind fun x2 =>
  (wJ x1 v1 (x2 ||| ((lN 1) <<< ((v4 - (nI 50)).toInt64 &&& 63))) h).bind fun h3 =>
  b_20_68   h3
theorem u_20_52 (d : Nat) (hd : 0 ≤ d) (v0 : Option Nat) (v1 : Int32) (v2 : Int32) (v3 : Int32) (v4 : Int32)  (h : Hp) (r : Hp) (hb : b_20_52 v0 v1 v4  h = some r) : Rn d 20 52 [some (va_rf v0), some (.int v1), some (.int v2), some (.int v3), some (.int v4)] [] h (none, r) := by
  unfold b_20_52 at hb
  refine rn_aload_n (i := 0) rfl rfl ?_
  refine rn_gQ (c := 1) (k := 1) rfl (by decide) hb (fun x1 hb => ?_)
  refine rn_iload_n (i := 1) rfl rfl ?_
  refine rn_dup2 rfl rfl (bd_cat_rf _) ?_
  refine rn_aJ rfl hb (fun x2 hb => ?_)
  refine rn_lconst (x := (lN 1)) rfl (by decide) ?_
  refine rn_iload (i := 4) rfl rfl ?_
  refine rn_bipush (x := (nI 50)) rfl (by decide) ?_
  refine rn_isub rfl ?_
  refine rn_lshl rfl ?_
  refine rn_lor rfl ?_
  refine rn_wJ rfl hb (fun h3 hb => ?_)
  exact u_20_68 d hd v0 v1 v2 v3 v4  h3 _ hb
def b_20_36 (v0 : Option Nat) (v1 : Int32) (v4 : Int32)  (h : Hp) : Option (Hp) :=
  (gQ 1 0 v0 h).bind fun x1 =>
  (aJ x1 v1 h).bind fun x2 =>
  (wJ x1 v1 (x2 ||| ((lN 1) <<< (v4.toInt64 &&& 63))) h).bind fun h3 =>
  b_20_68   h3
theorem u_20_36 (d : Nat) (hd : 0 ≤ d) (v0 : Option Nat) (v1 : Int32) (v2 : Int32) (v3 : Int32) (v4 : Int32)  (h : Hp) (r : Hp) (hb : b_20_36 v0 v1 v4  h = some r) : Rn d 20 36 [some (va_rf v0), some (.int v1), some (.int v2), some (.int v3), some (.int v4)] [] h (none, r) := by
  unfold b_20_36 at hb
  refine rn_aload_n (i := 0) rfl rfl ?_
  refine rn_gQ (c := 1) (k := 0) rfl (by decide) hb (fun x1 hb => ?_)
  refine rn_iload_n (i := 1) rfl rfl ?_
  refine rn_dup2 rfl rfl (bd_cat_rf _) ?_
  refine rn_aJ rfl hb (fun x2 hb => ?_)
  refine rn_lconst (x := (lN 1)) rfl (by decide) ?_
  refine rn_iload (i := 4) rfl rfl ?_
  refine rn_lshl rfl ?_
  refine rn_lor rfl ?_
  refine rn_wJ rfl hb (fun h3 hb => ?_)
  refine rn_goto rfl rfl ?_
  exact u_20_68 d hd v0 v1 v2 v3 v4  h3 _ hb
def b_20_21 (v0 : Option Nat) (v1 : Int32) (v2 : Int32) (v3 : Int32)  (h : Hp) : Option (Hp) :=
  bnd ((((nI 10) * v3) + v2)) fun x1 =>
  if (nI 50) ≤ x1 then b_20_52 v0 v1 x1  h else b_20_36 v0 v1 x1  h
theorem u_20_21 (d : Nat) (hd : 0 ≤ d) (v0 : Option Nat) (v1 : Int32) (v2 : Int32) (v3 : Int32)  (h : Hp) (r : Hp) (hb : b_20_21 v0 v1 v2 v3  h = some r) : Rn d 20 21 [some (va_rf v0), some (.int v1), some (.int v2), some (.int v3), none] [] h (none, r) := by
  unfold b_20_21 at hb
  refine rn_bipush (x := (nI 10)) rfl (by decide) ?_
  refine rn_iload_n (i := 3) rfl rfl ?_
  refine rn_imul rfl ?_
  refine rn_iload_n (i := 2) rfl rfl ?_
  refine rn_iadd rfl ?_
  obtain ⟨x1, ex1, hb⟩ := bnd_spec hb
  refine rn_istore (i := 4) (L1 := [some (va_rf v0), some (.int v1), some (.int v2), some (.int v3), some (.int x1)]) rfl (Nat.le_of_ble_eq_true rfl) (Or.inr rfl) (by rw [ex1]; rfl) ?_
  refine rn_iload (i := 4) rfl rfl ?_
  refine rn_bipush (x := (nI 50)) rfl (by decide) ?_
  refine rn_icmp_ge rfl rfl (fun hc => ?_) (fun hc => ?_)
  · exact u_20_52 d hd v0 v1 v2 v3 x1  h _ (if_t hb hc)
  · exact u_20_36 d hd v0 v1 v2 v3 x1  h _ (if_f hb hc)
def b_20_14 (v0 : Option Nat) (v1 : Int32) (v2 : Int32) (v3 : Int32)  (h : Hp) : Option (Hp) :=
  if v3 < (nI 10) then b_20_21 v0 v1 v2 v3  h else b_20_20   h
theorem u_20_14 (d : Nat) (hd : 0 ≤ d) (v0 : Option Nat) (v1 : Int32) (v2 : Int32) (v3 : Int32)  (h : Hp) (r : Hp) (hb : b_20_14 v0 v1 v2 v3  h = some r) : Rn d 20 14 [some (va_rf v0), some (.int v1), some (.int v2), some (.int v3), none] [] h (none, r) := by
  unfold b_20_14 at hb
  refine rn_iload_n (i := 3) rfl rfl ?_
  refine rn_bipush (x := (nI 10)) rfl (by decide) ?_
  refine rn_icmp_lt rfl rfl (fun hc => ?_) (fun hc => ?_)
  · exact u_20_21 d hd v0 v1 v2 v3  h _ (if_t hb hc)
  · exact u_20_20 d hd v0 v1 v2 v3  h _ (if_f hb hc)
def b_20_10 (v0 : Option Nat) (v1 : Int32) (v2 : Int32) (v3 : Int32)  (h : Hp) : Option (Hp) :=
  if v3 < 0 then b_20_20   h else b_20_14 v0 v1 v2 v3  h
theorem u_20_10 (d : Nat) (hd : 0 ≤ d) (v0 : Option Nat) (v1 : Int32) (v2 : Int32) (v3 : Int32)  (h : Hp) (r : Hp) (hb : b_20_10 v0 v1 v2 v3  h = some r) : Rn d 20 10 [some (va_rf v0), some (.int v1), some (.int v2), some (.int v3), none] [] h (none, r) := by
  unfold b_20_10 at hb
  refine rn_iload_n (i := 3) rfl rfl ?_
  refine rn_if_lt rfl rfl (fun hc => ?_) (fun hc => ?_)
  · exact u_20_20 d hd v0 v1 v2 v3  h _ (if_t hb hc)
  · exact u_20_14 d hd v0 v1 v2 v3  h _ (if_f hb hc)
def b_20_4 (v0 : Option Nat) (v1 : Int32) (v2 : Int32) (v3 : Int32)  (h : Hp) : Option (Hp) :=
  if (nI 10) ≤ v2 then b_20_20   h else b_20_10 v0 v1 v2 v3  h
theorem u_20_4 (d : Nat) (hd : 0 ≤ d) (v0 : Option Nat) (v1 : Int32) (v2 : Int32) (v3 : Int32)  (h : Hp) (r : Hp) (hb : b_20_4 v0 v1 v2 v3  h = some r) : Rn d 20 4 [some (va_rf v0), some (.int v1), some (.int v2), some (.int v3), none] [] h (none, r) := by
  unfold b_20_4 at hb
  refine rn_iload_n (i := 2) rfl rfl ?_
  refine rn_bipush (x := (nI 10)) rfl (by decide) ?_
  refine rn_icmp_ge rfl rfl (fun hc => ?_) (fun hc => ?_)
  · exact u_20_20 d hd v0 v1 v2 v3  h _ (if_t hb hc)
  · exact u_20_10 d hd v0 v1 v2 v3  h _ (if_f hb hc)
def b_20_0 (v0 : Option Nat) (v1 : Int32) (v2 : Int32) (v3 : Int32)  (h : Hp) : Option (Hp) :=
  if v2 < 0 then b_20_20   h else b_20_4 v0 v1 v2 v3  h
theorem u_20_0 (d : Nat) (hd : 0 ≤ d) (v0 : Option Nat) (v1 : Int32) (v2 : Int32) (v3 : Int32)  (h : Hp) (r : Hp) (hb : b_20_0 v0 v1 v2 v3  h = some r) : Rn d 20 0 [some (va_rf v0), some (.int v1), some (.int v2), some (.int v3), none] [] h (none, r) := by
  unfold b_20_0 at hb
  refine rn_iload_n (i := 2) rfl rfl ?_
  refine rn_if_lt rfl rfl (fun hc => ?_) (fun hc => ?_)
  · exact u_20_20 d hd v0 v1 v2 v3  h _ (if_t hb hc)
  · exact u_20_4 d hd v0 v1 v2 v3  h _ (if_f hb hc)
/-- BitingDoors$Door.addCell(III)V -/
def f_20 (v0 : Option Nat) (v1 : Int32) (v2 : Int32) (v3 : Int32) (h : Hp) : Option (Hp) := b_20_0 v0 v1 v2 v3 h
theorem t_20 (d : Nat) (hd : 0 ≤ d) (v0 : Option Nat) (v1 : Int32) (v2 : Int32) (v3 : Int32) (h : Hp) (r : Hp) (hb : f_20 v0 v1 v2 v3 h = some r) : Rn d 20 0 [some (va_rf v0), some (.int v1), some (.int v2), some (.int v3), none] [] h (none, r) := by
  unfold f_20 at hb
  exact u_20_0 d hd v0 v1 v2 v3 h r hb
def b_18_212 (v8 : Int32)  (h : Hp) : Option (Int32 × Hp) :=
  (grd (decide (v8 = 0 ∨ v8 = 1))).bind fun _ => some (v8, h)
theorem u_18_212 (d : Nat) (hd : 1 ≤ d) (v0 : Option Nat) (v1 : Option Nat) (v2 : Int32) (v3 : Int32) (v4 : Int32) (v5 : Int32) (v6 : Int32) (v7 : Int32) (v8 : Int32) (v9 : Int32) (v10 : Option (Int32)) (v11 : Option (Int32)) (v12 : Option (Int32))  (h : Hp) (r : Int32 × Hp) (hb : b_18_212 v8  h = some r) : Rn d 18 212 [some (va_rf v0), some (va_rf v1), some (.int v2), some (.int v3), some (.int v4), some (.int v5), some (.int v6), some (.int v7), some (.int v8), some (.int v9), v10.map Value.int, v11.map Value.int, v12.map Value.int] [] h (some (.int r.1), r.2) := by
  unfold b_18_212 at hb
  refine rn_iload (i := 8) rfl rfl ?_
  obtain ⟨hz, hb⟩ := grd_spec hb
  obtain rfl := Option.some.inj hb
  exact rn_zret rfl rfl (of_decide_eq_true hz)
def b_18_206 (k61 : Option Nat → Option Nat → Int32 → Int32 → Int32 → Int32 → Int32 → Int32 → Int32 → Hp → Option (Int32 × Hp)) (v0 : Option Nat) (v1 : Option Nat) (v2 : Int32) (v3 : Int32) (v5 : Int32) (v6 : Int32) (v7 : Int32) (v8 : Int32) (v9 : Int32)  (h : Hp) : Option (Int32 × Hp) :=
  bnd (v9 + (nI 1)) fun x1 =>
  k61 v0 v1 v2 v3 v5 v6 v7 v8 x1 h
theorem u_18_206 (d : Nat) (hd : 1 ≤ d) (k61 : Option Nat → Option Nat → Int32 → Int32 → Int32 → Int32 → Int32 → Int32 → Int32 → Hp → Option (Int32 × Hp)) (K61 : ∀ (v0 : Option Nat) (v1 : Option Nat) (v2 : Int32) (v3 : Int32) (v4 : Int32) (v5 : Int32) (v6 : Int32) (v7 : Int32) (v8 : Int32) (v9 : Int32) (v10 : Option (Int32)) (v11 : Option (Int32)) (v12 : Option (Int32)) (h : Hp) (r : Int32 × Hp), k61 v0 v1 v2 v3 v5 v6 v7 v8 v9 h = some r → Rn d 18 61 [some (va_rf v0), some (va_rf v1), some (.int v2), some (.int v3), some (.int v4), some (.int v5), some (.int v6), some (.int v7), some (.int v8), some (.int v9), v10.map Value.int, v11.map Value.int, v12.map Value.int] [] h (some (.int r.1), r.2)) (v0 : Option Nat) (v1 : Option Nat) (v2 : Int32) (v3 : Int32) (v4 : Int32) (v5 : Int32) (v6 : Int32) (v7 : Int32) (v8 : Int32) (v9 : Int32) (v10 : Int32) (v11 : Option (Int32)) (v12 : Option (Int32))  (h : Hp) (r : Int32 × Hp) (hb : b_18_206 k61 v0 v1 v2 v3 v5 v6 v7 v8 v9  h = some r) : Rn d 18 206 [some (va_rf v0), some (va_rf v1), some (.int v2), some (.int v3), some (.int v4), some (.int v5), some (.int v6), some (.int v7), some (.int v8), some (.int v9), some (.int v10), v11.map Value.int, v12.map Value.int] [] h (some (.int r.1), r.2) := by
  unfold b_18_206 at hb
  obtain ⟨x1, ex1, hb⟩ := bnd_spec hb
  refine rn_iinc (i := 9) (y := x1) (L1 := [some (va_rf v0), some (va_rf v1), some (.int v2), some (.int v3), some (.int v4), some (.int v5), some (.int v6), some (.int v7), some (.int v8), some (.int x1), some (.int v10), v11.map Value.int, v12.map Value.int]) rfl rfl (Nat.le_of_ble_eq_true rfl) (Or.inr rfl) (by rw [ex1]; rfl) rfl ?_
  refine rn_goto rfl rfl ?_
  exact K61 v0 v1 v2 v3 v4 v5 v6 v7 v8 x1 (some v10) v11 v12 h _ hb
def b_18_200 (k61 : Option Nat → Option Nat → Int32 → Int32 → Int32 → Int32 → Int32 → Int32 → Int32 → Hp → Option (Int32 × Hp)) (k73 : Option Nat → Option Nat → Int32 → Int32 → Int32 → Int32 → Int32 → Int32 → Int32 → Int32 → Hp → Option (Int32 × Hp)) (v0 : Option Nat) (v1 : Option Nat) (v2 : Int32) (v3 : Int32) (v5 : Int32) (v6 : Int32) (v7 : Int32) (v8 : Int32) (v9 : Int32) (v10 : Int32)  (h : Hp) : Option (Int32 × Hp) :=
  bnd (v10 + (nI 1)) fun x1 =>
  k73 v0 v1 v2 v3 v5 v6 v7 v8 v9 x1 h
theorem u_18_200 (d : Nat) (hd : 1 ≤ d) (k61 : Option Nat → Option Nat → Int32 → Int32 → Int32 → Int32 → Int32 → Int32 → Int32 → Hp → Option (Int32 × Hp)) (K61 : ∀ (v0 : Option Nat) (v1 : Option Nat) (v2 : Int32) (v3 : Int32) (v4 : Int32) (v5 : Int32) (v6 : Int32) (v7 : Int32) (v8 : Int32) (v9 : Int32) (v10 : Option (Int32)) (v11 : Option (Int32)) (v12 : Option (Int32)) (h : Hp) (r : Int32 × Hp), k61 v0 v1 v2 v3 v5 v6 v7 v8 v9 h = some r → Rn d 18 61 [some (va_rf v0), some (va_rf v1), some (.int v2), some (.int v3), some (.int v4), some (.int v5), some (.int v6), some (.int v7), some (.int v8), some (.int v9), v10.map Value.int, v11.map Value.int, v12.map Value.int] [] h (some (.int r.1), r.2)) (k73 : Option Nat → Option Nat → Int32 → Int32 → Int32 → Int32 → Int32 → Int32 → Int32 → Int32 → Hp → Option (Int32 × Hp)) (K73 : ∀ (v0 : Option Nat) (v1 : Option Nat) (v2 : Int32) (v3 : Int32) (v4 : Int32) (v5 : Int32) (v6 : Int32) (v7 : Int32) (v8 : Int32) (v9 : Int32) (v10 : Int32) (v11 : Option (Int32)) (v12 : Option (Int32)) (h : Hp) (r : Int32 × Hp), k73 v0 v1 v2 v3 v5 v6 v7 v8 v9 v10 h = some r → Rn d 18 73 [some (va_rf v0), some (va_rf v1), some (.int v2), some (.int v3), some (.int v4), some (.int v5), some (.int v6), some (.int v7), some (.int v8), some (.int v9), some (.int v10), v11.map Value.int, v12.map Value.int] [] h (some (.int r.1), r.2)) (v0 : Option Nat) (v1 : Option Nat) (v2 : Int32) (v3 : Int32) (v4 : Int32) (v5 : Int32) (v6 : Int32) (v7 : Int32) (v8 : Int32) (v9 : Int32) (v10 : Int32) (v11 : Option (Int32)) (v12 : Option (Int32))  (h : Hp) (r : Int32 × Hp) (hb : b_18_200 k61 k73 v0 v1 v2 v3 v5 v6 v7 v8 v9 v10  h = some r) : Rn d 18 200 [some (va_rf v0), some (va_rf v1), some (.int v2), some (.int v3), some (.int v4), some (.int v5), some (.int v6), some (.int v7), some (.int v8), some (.int v9), some (.int v10), v11.map Value.int, v12.map Value.int] [] h (some (.int r.1), r.2) := by
  unfold b_18_200 at hb
  obtain ⟨x1, ex1, hb⟩ := bnd_spec hb
  refine rn_iinc (i := 10) (y := x1) (L1 := [some (va_rf v0), some (va_rf v1), some (.int v2), some (.int v3), some (.int v4), some (.int v5), some (.int v6), some (.int v7), some (.int v8), some (.int v9), some (.int x1), v11.map Value.int, v12.map Value.int]) rfl rfl (Nat.le_of_ble_eq_true rfl) (Or.inr rfl) (by rw [ex1]; rfl) rfl ?_
  refine rn_goto rfl rfl ?_
  exact K73 v0 v1 v2 v3 v4 v5 v6 v7 v8 v9 x1 v11 v12 h _ hb
def b_18_198 (k61 : Option Nat → Option Nat → Int32 → Int32 → Int32 → Int32 → Int32 → Int32 → Int32 → Hp → Option (Int32 × Hp)) (k73 : Option Nat → Option Nat → Int32 → Int32 → Int32 → Int32 → Int32 → Int32 → Int32 → Int32 → Hp → Option (Int32 × Hp)) (v0 : Option Nat) (v1 : Option Nat) (v2 : Int32) (v3 : Int32) (v5 : Int32) (v6 : Int32) (v7 : Int32) (v9 : Int32) (v10 : Int32) (s0 : Int32) (h : Hp) : Option (Int32 × Hp) :=
  b_18_200 k61 k73 v0 v1 v2 v3 v5 v6 v7 s0 v9 v10  h
theorem u_18_198 (d : Nat) (hd : 1 ≤ d) (k61 : Option Nat → Option Nat → Int32 → Int32 → Int32 → Int32 → Int32 → Int32 → Int32 → Hp → Option (Int32 × Hp)) (K61 : ∀ (v0 : Option Nat) (v1 : Option Nat) (v2 : Int32) (v3 : Int32) (v4 : Int32) (v5 : Int32) (v6 : Int32) (v7 : Int32) (v8 : Int32) (v9 : Int32) (v10 : Option (Int32)) (v11 : Option (Int32)) (v12 : Option (Int32)) (h : Hp) (r : Int32 × Hp), k61 v0 v1 v2 v3 v5 v6 v7 v8 v9 h = some r → Rn d 18 61 [some (va_rf v0), some (va_rf v1), some (.int v2), some (.int v3), some (.int v4), some (.int v5), some (.int v6), some (.int v7), some (.int v8), some (.int v9), v10.map Value.int, v11.map Value.int, v12.map Value.int] [] h (some (.int r.1), r.2)) (k73 : Option Nat → Option Nat → Int32 → Int32 → Int32 → Int32 → Int32 → Int32 → Int32 → Int32 → Hp → Option (Int32 × Hp)) (K73 : ∀ (v0 : Option Nat) (v1 : Option Nat) (v2 : Int32) (v3 : Int32) (v4 : Int32) (v5 : Int32) (v6 : Int32) (v7 : Int32) (v8 : Int32) (v9 : Int32) (v10 : Int32) (v11 : Option (Int32)) (v12 : Option (Int32)) (h : Hp) (r : Int32 × Hp), k73 v0 v1 v2 v3 v5 v6 v7 v8 v9 v10 h = some r → Rn d 18 73 [some (va_rf v0), some (va_rf v1), some (.int v2), some (.int v3), some (.int v4), some (.int v5), some (.int v6), some (.int v7), some (.int v8), some (.int v9), some (.int v10), v11.map Value.int, v12.map Value.int] [] h (some (.int r.1), r.2)) (v0 : Option Nat) (v1 : Option Nat) (v2 : Int32) (v3 : Int32) (v4 : Int32) (v5 : Int32) (v6 : Int32) (v7 : Int32) (v8 : Int32) (v9 : Int32) (v10 : Int32) (v11 : Int32) (v12 : Int32) (s0 : Int32) (h : Hp) (r : Int32 × Hp) (hb : b_18_198 k61 k73 v0 v1 v2 v3 v5 v6 v7 v9 v10 s0 h = some r) : Rn d 18 198 [some (va_rf v0), some (va_rf v1), some (.int v2), some (.int v3), some (.int v4), some (.int v5), some (.int v6), some (.int v7), some (.int v8), some (.int v9), some (.int v10), some (.int v11), some (.int v12)] [.int s0] h (some (.int r.1), r.2) := by
  unfold b_18_198 at hb
  refine rn_istore (i := 8) (L1 := [some (va_rf v0), some (va_rf v1), some (.int v2), some (.int v3), some (.int v4), some (.int v5), some (.int v6), some (.int v7), some (.int s0), some (.int v9), some (.int v10), some (.int v11), some (.int v12)]) rfl (Nat.le_of_ble_eq_true rfl) (Or.inr rfl) rfl ?_
  exact u_18_200 d hd k61 K61 k73 K73 v0 v1 v2 v3 v4 v5 v6 v7 s0 v9 v10 (some v11) (some v12)  h _ hb
def b_18_197 (k61 : Option Nat → Option Nat → Int32 → Int32 → Int32 → Int32 → Int32 → Int32 → Int32 → Hp → Option (Int32 × Hp)) (k73 : Option Nat → Option Nat → Int32 → Int32 → Int32 → Int32 → Int32 → Int32 → Int32 → Int32 → Hp → Option (Int32 × Hp)) (v0 : Option Nat) (v1 : Option Nat) (v2 : Int32) (v3 : Int32) (v5 : Int32) (v6 : Int32) (v7 : Int32) (v9 : Int32) (v10 : Int32)  (h : Hp) : Option (Int32 × Hp) :=
  b_18_198 k61 k73 v0 v1 v2 v3 v5 v6 v7 v9 v10 (nI 0) h
theorem u_18_197 (d : Nat) (hd : 1 ≤ d) (k61 : Option Nat → Option Nat → Int32 → Int32 → Int32 → Int32 → Int32 → Int32 → Int32 → Hp → Option (Int32 × Hp)) (K61 : ∀ (v0 : Option Nat) (v1 : Option Nat) (v2 : Int32) (v3 : Int32) (v4 : Int32) (v5 : Int32) (v6 : Int32) (v7 : Int32) (v8 : Int32) (v9 : Int32) (v10 : Option (Int32)) (v11 : Option (Int32)) (v12 : Option (Int32)) (h : Hp) (r : Int32 × Hp), k61 v0 v1 v2 v3 v5 v6 v7 v8 v9 h = some r → Rn d 18 61 [some (va_rf v0), some (va_rf v1), some (.int v2), some (.int v3), some (.int v4), some (.int v5), some (.int v6), some (.int v7), some (.int v8), some (.int v9), v10.map Value.int, v11.map Value.int, v12.map Value.int] [] h (some (.int r.1), r.2)) (k73 : Option Nat → Option Nat → Int32 → Int32 → Int32 → Int32 → Int32 → Int32 → Int32 → Int32 → Hp → Option (Int32 × Hp)) (K73 : ∀ (v0 : Option Nat) (v1 : Option Nat) (v2 : Int32) (v3 : Int32) (v4 : Int32) (v5 : Int32) (v6 : Int32) (v7 : Int32) (v8 : Int32) (v9 : Int32) (v10 : Int32) (v11 : Option (Int32)) (v12 : Option (Int32)) (h : Hp) (r : Int32 × Hp), k73 v0 v1 v2 v3 v5 v6 v7 v8 v9 v10 h = some r → Rn d 18 73 [some (va_rf v0), some (va_rf v1), some (.int v2), some (.int v3), some (.int v4), some (.int v5), some (.int v6), some (.int v7), some (.int v8), some (.int v9), some (.int v10), v11.map Value.int, v12.map Value.int] [] h (some (.int r.1), r.2)) (v0 : Option Nat) (v1 : Option Nat) (v2 : Int32) (v3 : Int32) (v4 : Int32) (v5 : Int32) (v6 : Int32) (v7 : Int32) (v8 : Int32) (v9 : Int32) (v10 : Int32) (v11 : Int32) (v12 : Int32)  (h : Hp) (r : Int32 × Hp) (hb : b_18_197 k61 k73 v0 v1 v2 v3 v5 v6 v7 v9 v10  h = some r) : Rn d 18 197 [some (va_rf v0), some (va_rf v1), some (.int v2), some (.int v3), some (.int v4), some (.int v5), some (.int v6), some (.int v7), some (.int v8), some (.int v9), some (.int v10), some (.int v11), some (.int v12)] [] h (some (.int r.1), r.2) := by
  unfold b_18_197 at hb
  refine rn_iconst (x := (nI 0)) rfl (by decide) ?_
  exact u_18_198 d hd k61 K61 k73 K73 v0 v1 v2 v3 v4 v5 v6 v7 v8 v9 v10 v11 v12 (nI 0) h _ hb
def b_18_193 (k61 : Option Nat → Option Nat → Int32 → Int32 → Int32 → Int32 → Int32 → Int32 → Int32 → Hp → Option (Int32 × Hp)) (k73 : Option Nat → Option Nat → Int32 → Int32 → Int32 → Int32 → Int32 → Int32 → Int32 → Int32 → Hp → Option (Int32 × Hp)) (v0 : Option Nat) (v1 : Option Nat) (v2 : Int32) (v3 : Int32) (v5 : Int32) (v6 : Int32) (v7 : Int32) (v9 : Int32) (v10 : Int32)  (h : Hp) : Option (Int32 × Hp) :=
  b_18_198 k61 k73 v0 v1 v2 v3 v5 v6 v7 v9 v10 (nI 1) h
theorem u_18_193 (d : Nat) (hd : 1 ≤ d) (k61 : Option Nat → Option Nat → Int32 → Int32 → Int32 → Int32 → Int32 → Int32 → Int32 → Hp → Option (Int32 × Hp)) (K61 : ∀ (v0 : Option Nat) (v1 : Option Nat) (v2 : Int32) (v3 : Int32) (v4 : Int32) (v5 : Int32) (v6 : Int32) (v7 : Int32) (v8 : Int32) (v9 : Int32) (v10 : Option (Int32)) (v11 : Option (Int32)) (v12 : Option (Int32)) (h : Hp) (r : Int32 × Hp), k61 v0 v1 v2 v3 v5 v6 v7 v8 v9 h = some r → Rn d 18 61 [some (va_rf v0), some (va_rf v1), some (.int v2), some (.int v3), some (.int v4), some (.int v5), some (.int v6), some (.int v7), some (.int v8), some (.int v9), v10.map Value.int, v11.map Value.int, v12.map Value.int] [] h (some (.int r.1), r.2)) (k73 : Option Nat → Option Nat → Int32 → Int32 → Int32 → Int32 → Int32 → Int32 → Int32 → Int32 → Hp → Option (Int32 × Hp)) (K73 : ∀ (v0 : Option Nat) (v1 : Option Nat) (v2 : Int32) (v3 : Int32) (v4 : Int32) (v5 : Int32) (v6 : Int32) (v7 : Int32) (v8 : Int32) (v9 : Int32) (v10 : Int32) (v11 : Option (Int32)) (v12 : Option (Int32)) (h : Hp) (r : Int32 × Hp), k73 v0 v1 v2 v3 v5 v6 v7 v8 v9 v10 h = some r → Rn d 18 73 [some (va_rf v0), some (va_rf v1), some (.int v2), some (.int v3), some (.int v4), some (.int v5), some (.int v6), some (.int v7), some (.int v8), some (.int v9), some (.int v10), v11.map Value.int, v12.map Value.int] [] h (some (.int r.1), r.2)) (v0 : Option Nat) (v1 : Option Nat) (v2 : Int32) (v3 : Int32) (v4 : Int32) (v5 : Int32) (v6 : Int32) (v7 : Int32) (v8 : Int32) (v9 : Int32) (v10 : Int32) (v11 : Int32) (v12 : Int32)  (h : Hp) (r : Int32 × Hp) (hb : b_18_193 k61 k73 v0 v1 v2 v3 v5 v6 v7 v9 v10  h = some r) : Rn d 18 193 [some (va_rf v0), some (va_rf v1), some (.int v2), some (.int v3), some (.int v4), some (.int v5), some (.int v6), some (.int v7), some (.int v8), some (.int v9), some (.int v10), some (.int v11), some (.int v12)] [] h (some (.int r.1), r.2) := by
  unfold b_18_193 at hb
  refine rn_iconst (x := (nI 1)) rfl (by decide) ?_
  refine rn_goto rfl rfl ?_
  exact u_18_198 d hd k61 K61 k73 K73 v0 v1 v2 v3 v4 v5 v6 v7 v8 v9 v10 v11 v12 (nI 1) h _ hb
def b_18_182 (k61 : Option Nat → Option Nat → Int32 → Int32 → Int32 → Int32 → Int32 → Int32 → Int32 → Hp → Option (Int32 × Hp)) (k73 : Option Nat → Option Nat → Int32 → Int32 → Int32 → Int32 → Int32 → Int32 → Int32 → Int32 → Hp → Option (Int32 × Hp)) (v0 : Option Nat) (v1 : Option Nat) (v2 : Int32) (v3 : Int32) (v5 : Int32) (v6 : Int32) (v7 : Int32) (v9 : Int32) (v10 : Int32) (v11 : Int32) (v12 : Int32)  (h : Hp) : Option (Int32 × Hp) :=
  (grd (rC 4 v1 h)).bind fun _ =>
  (f_50 v1 v11 v12 h).bind fun p1 =>
  if ¬ p1.1 = 0 then b_18_197 k61 k73 v0 v1 v2 v3 v5 v6 v7 v9 v10  p1.2 else b_18_193 k61 k73 v0 v1 v2 v3 v5 v6 v7 v9 v10  p1.2
theorem u_18_182 (d : Nat) (hd : 1 ≤ d) (k61 : Option Nat → Option Nat → Int32 → Int32 → Int32 → Int32 → Int32 → Int32 → Int32 → Hp → Option (Int32 × Hp)) (K61 : ∀ (v0 : Option Nat) (v1 : Option Nat) (v2 : Int32) (v3 : Int32) (v4 : Int32) (v5 : Int32) (v6 : Int32) (v7 : Int32) (v8 : Int32) (v9 : Int32) (v10 : Option (Int32)) (v11 : Option (Int32)) (v12 : Option (Int32)) (h : Hp) (r : Int32 × Hp), k61 v0 v1 v2 v3 v5 v6 v7 v8 v9 h = some r → Rn d 18 61 [some (va_rf v0), some (va_rf v1), some (.int v2), some (.int v3), some (.int v4), some (.int v5), some (.int v6), some (.int v7), some (.int v8), some (.int v9), v10.map Value.int, v11.map Value.int, v12.map Value.int] [] h (some (.int r.1), r.2)) (k73 : Option Nat → Option Nat → Int32 → Int32 → Int32 → Int32 → Int32 → Int32 → Int32 → Int32 → Hp → Option (Int32 × Hp)) (K73 : ∀ (v0 : Option Nat) (v1 : Option Nat) (v2 : Int32) (v3 : Int32) (v4 : Int32) (v5 : Int32) (v6 : Int32) (v7 : Int32) (v8 : Int32) (v9 : Int32) (v10 : Int32) (v11 : Option (Int32)) (v12 : Option (Int32)) (h : Hp) (r : Int32 × Hp), k73 v0 v1 v2 v3 v5 v6 v7 v8 v9 v10 h = some r → Rn d 18 73 [some (va_rf v0), some (va_rf v1), some (.int v2), some (.int v3), some (.int v4), some (.int v5), some (.int v6), some (.int v7), some (.int v8), some (.int v9), some (.int v10), v11.map Value.int, v12.map Value.int] [] h (some (.int r.1), r.2)) (v0 : Option Nat) (v1 : Option Nat) (v2 : Int32) (v3 : Int32) (v4 : Int32) (v5 : Int32) (v6 : Int32) (v7 : Int32) (v8 : Int32) (v9 : Int32) (v10 : Int32) (v11 : Int32) (v12 : Int32)  (h : Hp) (r : Int32 × Hp) (hb : b_18_182 k61 k73 v0 v1 v2 v3 v5 v6 v7 v9 v10 v11 v12  h = some r) : Rn d 18 182 [some (va_rf v0), some (va_rf v1), some (.int v2), some (.int v3), some (.int v4), some (.int v5), some (.int v6), some (.int v7), some (.int v8), some (.int v9), some (.int v10), some (.int v11), some (.int v12)] [] h (some (.int r.1), r.2) := by
  unfold b_18_182 at hb
  obtain ⟨e, rfl⟩ : ∃ e, d = e + 1 := ⟨d - 1, by omega⟩
  refine rn_aload_n (i := 1) rfl rfl ?_
  refine rn_iload (i := 11) rfl rfl ?_
  refine rn_iload (i := 12) rfl rfl ?_
  obtain ⟨hrc, hb⟩ := grd_spec hb
  obtain ⟨p1, hc, hb⟩ := Option.bind_eq_some_iff.mp hb
  refine Rn.call1 (d := e) (As := [va_rf v1, .int v11, .int v12]) (rest := []) rfl rfl rfl (by decide) rfl rfl rfl (bd_rcV hrc rfl) (by decide) (bd_lenC (n := 4) rfl (bd_slR (bd_slI (bd_slI bd_slN))) rfl) (bd_locC (n := 4) rfl (bd_slR (bd_slI (bd_slI bd_slN))) rfl (t_50 e (by omega) v1 v11 v12 h _ hc)) ?_
  refine rn_if_ne rfl rfl (fun hc => ?_) (fun hc => ?_)
  · exact u_18_197 (e + 1) hd k61 K61 k73 K73 v0 v1 v2 v3 v4 v5 v6 v7 v8 v9 v10 v11 v12  p1.2 _ (if_t hb hc)
  · exact u_18_193 (e + 1) hd k61 K61 k73 K73 v0 v1 v2 v3 v4 v5 v6 v7 v8 v9 v10 v11 v12  p1.2 _ (if_f hb hc)
def b_18_162 (k61 : Option Nat → Option Nat → Int32 → Int32 → Int32 → Int32 → Int32 → Int32 → Int32 → Hp → Option (Int32 × Hp)) (k73 : Option Nat → Option Nat → Int32 → Int32 → Int32 → Int32 → Int32 → Int32 → Int32 → Int32 → Hp → Option (Int32 × Hp)) (v0 : Option Nat) (v1 : Option Nat) (v2 : Int32) (v3 : Int32) (v5 : Int32) (v6 : Int32) (v7 : Int32) (v8 : Int32) (v9 : Int32) (v10 : Int32) (v11 : Int32) (s0 : Int32) (h : Hp) : Option (Int32 × Hp) :=
  (grd (rC 1 v0 h)).bind fun _ =>
  (f_20 v0 (((nI 3) * v2) + v3) v11 s0 h).bind fun p1 =>
  if v8 = 0 then b_18_197 k61 k73 v0 v1 v2 v3 v5 v6 v7 v9 v10  p1 else b_18_182 k61 k73 v0 v1 v2 v3 v5 v6 v7 v9 v10 v11 s0  p1
theorem u_18_162 (d : Nat) (hd : 1 ≤ d) (k61 : Option Nat → Option Nat → Int32 → Int32 → Int32 → Int32 → Int32 → Int32 → Int32 → Hp → Option (Int32 × Hp)) (K61 : ∀ (v0 : Option Nat) (v1 : Option Nat) (v2 : Int32) (v3 : Int32) (v4 : Int32) (v5 : Int32) (v6 : Int32) (v7 : Int32) (v8 : Int32) (v9 : Int32) (v10 : Option (Int32)) (v11 : Option (Int32)) (v12 : Option (Int32)) (h : Hp) (r : Int32 × Hp), k61 v0 v1 v2 v3 v5 v6 v7 v8 v9 h = some r → Rn d 18 61 [some (va_rf v0), some (va_rf v1), some (.int v2), some (.int v3), some (.int v4), some (.int v5), some (.int v6), some (.int v7), some (.int v8), some (.int v9), v10.map Value.int, v11.map Value.int, v12.map Value.int] [] h (some (.int r.1), r.2)) (k73 : Option Nat → Option Nat → Int32 → Int32 → Int32 → Int32 → Int32 → Int32 → Int32 → Int32 → Hp → Option (Int32 × Hp)) (K73 : ∀ (v0 : Option Nat) (v1 : Option Nat) (v2 : Int32) (v3 : Int32) (v4 : Int32) (v5 : Int32) (v6 : Int32) (v7 : Int32) (v8 : Int32) (v9 : Int32) (v10 : Int32) (v11 : Option (Int32)) (v12 : Option (Int32)) (h : Hp) (r : Int32 × Hp), k73 v0 v1 v2 v3 v5 v6 v7 v8 v9 v10 h = some r → Rn d 18 73 [some (va_rf v0), some (va_rf v1), some (.int v2), some (.int v3), some (.int v4), some (.int v5), some (.int v6), some (.int v7), some (.int v8), some (.int v9), some (.int v10), v11.map Value.int, v12.map Value.int] [] h (some (.int r.1), r.2)) (v0 : Option Nat) (v1 : Option Nat) (v2 : Int32) (v3 : Int32) (v4 : Int32) (v5 : Int32) (v6 : Int32) (v7 : Int32) (v8 : Int32) (v9 : Int32) (v10 : Int32) (v11 : Int32) (v12 : Option (Int32)) (s0 : Int32) (h : Hp) (r : Int32 × Hp) (hb : b_18_162 k61 k73 v0 v1 v2 v3 v5 v6 v7 v8 v9 v10 v11 s0 h = some r) : Rn d 18 162 [some (va_rf v0), some (va_rf v1), some (.int v2), some (.int v3), some (.int v4), some (.int v5), some (.int v6), some (.int v7), some (.int v8), some (.int v9), some (.int v10), some (.int v11), v12.map Value.int] [.int s0] h (some (.int r.1), r.2) := by
  unfold b_18_162 at hb
  obtain ⟨e, rfl⟩ : ∃ e, d = e + 1 := ⟨d - 1, by omega⟩
  refine rn_istore (i := 12) (L1 := [some (va_rf v0), some (va_rf v1), some (.int v2), some (.int v3), some (.int v4), some (.int v5), some (.int v6), some (.int v7), some (.int v8), some (.int v9), some (.int v10), some (.int v11), some (.int s0)]) rfl (Nat.le_of_ble_eq_true rfl) (Or.inr rfl) rfl ?_
  refine rn_aload_n (i := 0) rfl rfl ?_
  refine rn_iconst (x := (nI 3)) rfl (by decide) ?_
  refine rn_iload_n (i := 2) rfl rfl ?_
  refine rn_imul rfl ?_
  refine rn_iload_n (i := 3) rfl rfl ?_
  refine rn_iadd rfl ?_
  refine rn_iload (i := 11) rfl rfl ?_
  refine rn_iload (i := 12) rfl rfl ?_
  obtain ⟨hrc, hb⟩ := grd_spec hb
  obtain ⟨p1, hc, hb⟩ := Option.bind_eq_some_iff.mp hb
  refine Rn.call0 (d := e) (As := [va_rf v0, .int (((nI 3) * v2) + v3), .int v11, .int s0]) (rest := []) rfl rfl rfl (by decide) rfl rfl rfl (bd_rcV hrc rfl) (by decide) (bd_lenC (n := 5) rfl (bd_slR (bd_slI (bd_slI (bd_slI bd_slN)))) rfl) (bd_locC (n := 5) rfl (bd_slR (bd_slI (bd_slI (bd_slI bd_slN)))) rfl (t_20 e (by omega) v0 (((nI 3) * v2) + v3) v11 s0 h _ hc)) ?_
  refine rn_iload (i := 8) rfl rfl ?_
  refine rn_if_eq rfl rfl (fun hc => ?_) (fun hc => ?_)
  · exact u_18_197 (e + 1) hd k61 K61 k73 K73 v0 v1 v2 v3 v4 v5 v6 v7 v8 v9 v10 v11 s0  p1 _ (if_t hb hc)
  · exact u_18_182 (e + 1) hd k61 K61 k73 K73 v0 v1 v2 v3 v4 v5 v6 v7 v8 v9 v10 v11 s0  p1 _ (if_f hb hc)
def b_18_152 (k61 : Option Nat → Option Nat → Int32 → Int32 → Int32 → Int32 → Int32 → Int32 → Int32 → Hp → Option (Int32 × Hp)) (k73 : Option Nat → Option Nat → Int32 → Int32 → Int32 → Int32 → Int32 → Int32 → Int32 → Int32 → Hp → Option (Int32 × Hp)) (v0 : Option Nat) (v1 : Option Nat) (v2 : Int32) (v3 : Int32) (v5 : Int32) (v6 : Int32) (v7 : Int32) (v8 : Int32) (v9 : Int32) (v10 : Int32) (v11 : Int32)  (h : Hp) : Option (Int32 × Hp) :=
  (gI 1 7 v0 h).bind fun x1 =>
  b_18_162 k61 k73 v0 v1 v2 v3 v5 v6 v7 v8 v9 v10 v11 (x1 + (v10 * v7)) h
theorem u_18_152 (d : Nat) (hd : 1 ≤ d) (k61 : Option Nat → Option Nat → Int32 → Int32 → Int32 → Int32 → Int32 → Int32 → Int32 → Hp → Option (Int32 × Hp)) (K61 : ∀ (v0 : Option Nat) (v1 : Option Nat) (v2 : Int32) (v3 : Int32) (v4 : Int32) (v5 : Int32) (v6 : Int32) (v7 : Int32) (v8 : Int32) (v9 : Int32) (v10 : Option (Int32)) (v11 : Option (Int32)) (v12 : Option (Int32)) (h : Hp) (r : Int32 × Hp), k61 v0 v1 v2 v3 v5 v6 v7 v8 v9 h = some r → Rn d 18 61 [some (va_rf v0), some (va_rf v1), some (.int v2), some (.int v3), some (.int v4), some (.int v5), some (.int v6), some (.int v7), some (.int v8), some (.int v9), v10.map Value.int, v11.map Value.int, v12.map Value.int] [] h (some (.int r.1), r.2)) (k73 : Option Nat → Option Nat → Int32 → Int32 → Int32 → Int32 → Int32 → Int32 → Int32 → Int32 → Hp → Option (Int32 × Hp)) (K73 : ∀ (v0 : Option Nat) (v1 : Option Nat) (v2 : Int32) (v3 : Int32) (v4 : Int32) (v5 : Int32) (v6 : Int32) (v7 : Int32) (v8 : Int32) (v9 : Int32) (v10 : Int32) (v11 : Option (Int32)) (v12 : Option (Int32)) (h : Hp) (r : Int32 × Hp), k73 v0 v1 v2 v3 v5 v6 v7 v8 v9 v10 h = some r → Rn d 18 73 [some (va_rf v0), some (va_rf v1), some (.int v2), some (.int v3), some (.int v4), some (.int v5), some (.int v6), some (.int v7), some (.int v8), some (.int v9), some (.int v10), v11.map Value.int, v12.map Value.int] [] h (some (.int r.1), r.2)) (v0 : Option Nat) (v1 : Option Nat) (v2 : Int32) (v3 : Int32) (v4 : Int32) (v5 : Int32) (v6 : Int32) (v7 : Int32) (v8 : Int32) (v9 : Int32) (v10 : Int32) (v11 : Int32) (v12 : Option (Int32))  (h : Hp) (r : Int32 × Hp) (hb : b_18_152 k61 k73 v0 v1 v2 v3 v5 v6 v7 v8 v9 v10 v11  h = some r) : Rn d 18 152 [some (va_rf v0), some (va_rf v1), some (.int v2), some (.int v3), some (.int v4), some (.int v5), some (.int v6), some (.int v7), some (.int v8), some (.int v9), some (.int v10), some (.int v11), v12.map Value.int] [] h (some (.int r.1), r.2) := by
  unfold b_18_152 at hb
  refine rn_aload_n (i := 0) rfl rfl ?_
  refine rn_gI (c := 1) (k := 7) rfl (by decide) hb (fun x1 hb => ?_)
  refine rn_iload (i := 10) rfl rfl ?_
  refine rn_iload (i := 7) rfl rfl ?_
  refine rn_imul rfl ?_
  refine rn_iadd rfl ?_
  exact u_18_162 d hd k61 K61 k73 K73 v0 v1 v2 v3 v4 v5 v6 v7 v8 v9 v10 v11 v12 (x1 + (v10 * v7)) h _ hb
def b_18_136 (k61 : Option Nat → Option Nat → Int32 → Int32 → Int32 → Int32 → Int32 → Int32 → Int32 → Hp → Option (Int32 × Hp)) (k73 : Option Nat → Option Nat → Int32 → Int32 → Int32 → Int32 → Int32 → Int32 → Int32 → Int32 → Hp → Option (Int32 × Hp)) (v0 : Option Nat) (v1 : Option Nat) (v2 : Int32) (v3 : Int32) (v5 : Int32) (v6 : Int32) (v7 : Int32) (v8 : Int32) (v9 : Int32) (v10 : Int32) (v11 : Int32)  (h : Hp) : Option (Int32 × Hp) :=
  (gI 1 7 v0 h).bind fun x1 =>
  b_18_162 k61 k73 v0 v1 v2 v3 v5 v6 v7 v8 v9 v10 v11 ((x1 + v5) + (v9 * v6)) h
theorem u_18_136 (d : Nat) (hd : 1 ≤ d) (k61 : Option Nat → Option Nat → Int32 → Int32 → Int32 → Int32 → Int32 → Int32 → Int32 → Hp → Option (Int32 × Hp)) (K61 : ∀ (v0 : Option Nat) (v1 : Option Nat) (v2 : Int32) (v3 : Int32) (v4 : Int32) (v5 : Int32) (v6 : Int32) (v7 : Int32) (v8 : Int32) (v9 : Int32) (v10 : Option (Int32)) (v11 : Option (Int32)) (v12 : Option (Int32)) (h : Hp) (r : Int32 × Hp), k61 v0 v1 v2 v3 v5 v6 v7 v8 v9 h = some r → Rn d 18 61 [some (va_rf v0), some (va_rf v1), some (.int v2), some (.int v3), some (.int v4), some (.int v5), some (.int v6), some (.int v7), some (.int v8), some (.int v9), v10.map Value.int, v11.map Value.int, v12.map Value.int] [] h (some (.int r.1), r.2)) (k73 : Option Nat → Option Nat → Int32 → Int32 → Int32 → Int32 → Int32 → Int32 → Int32 → Int32 → Hp → Option (Int32 × Hp)) (K73 : ∀ (v0 : Option Nat) (v1 : Option Nat) (v2 : Int32) (v3 : Int32) (v4 : Int32) (v5 : Int32) (v6 : Int32) (v7 : Int32) (v8 : Int32) (v9 : Int32) (v10 : Int32) (v11 : Option (Int32)) (v12 : Option (Int32)) (h : Hp) (r : Int32 × Hp), k73 v0 v1 v2 v3 v5 v6 v7 v8 v9 v10 h = some r → Rn d 18 73 [some (va_rf v0), some (va_rf v1), some (.int v2), some (.int v3), some (.int v4), some (.int v5), some (.int v6), some (.int v7), some (.int v8), some (.int v9), some (.int v10), v11.map Value.int, v12.map Value.int] [] h (some (.int r.1), r.2)) (v0 : Option Nat) (v1 : Option Nat) (v2 : Int32) (v3 : Int32) (v4 : Int32) (v5 : Int32) (v6 : Int32) (v7 : Int32) (v8 : Int32) (v9 : Int32) (v10 : Int32) (v11 : Int32) (v12 : Option (Int32))  (h : Hp) (r : Int32 × Hp) (hb : b_18_136 k61 k73 v0 v1 v2 v3 v5 v6 v7 v8 v9 v10 v11  h = some r) : Rn d 18 136 [some (va_rf v0), some (va_rf v1), some (.int v2), some (.int v3), some (.int v4), some (.int v5), some (.int v6), some (.int v7), some (.int v8), some (.int v9), some (.int v10), some (.int v11), v12.map Value.int] [] h (some (.int r.1), r.2) := by
  unfold b_18_136 at hb
  refine rn_aload_n (i := 0) rfl rfl ?_
  refine rn_gI (c := 1) (k := 7) rfl (by decide) hb (fun x1 hb => ?_)
  refine rn_iload (i := 5) rfl rfl ?_
  refine rn_iadd rfl ?_
  refine rn_iload (i := 9) rfl rfl ?_
  refine rn_iload (i := 6) rfl rfl ?_
  refine rn_imul rfl ?_
  refine rn_iadd rfl ?_
  refine rn_goto rfl rfl ?_
  exact u_18_162 d hd k61 K61 k73 K73 v0 v1 v2 v3 v4 v5 v6 v7 v8 v9 v10 v11 v12 ((x1 + v5) + (v9 * v6)) h _ hb
def b_18_127 (k61 : Option Nat → Option Nat → Int32 → Int32 → Int32 → Int32 → Int32 → Int32 → Int32 → Hp → Option (Int32 × Hp)) (k73 : Option Nat → Option Nat → Int32 → Int32 → Int32 → Int32 → Int32 → Int32 → Int32 → Int32 → Hp → Option (Int32 × Hp)) (v0 : Option Nat) (v1 : Option Nat) (v2 : Int32) (v3 : Int32) (v5 : Int32) (v6 : Int32) (v7 : Int32) (v8 : Int32) (v9 : Int32) (v10 : Int32) (s0 : Int32) (h : Hp) : Option (Int32 × Hp) :=
  (gI 1 8 v0 h).bind fun x1 =>
  if x1 = 0 then b_18_152 k61 k73 v0 v1 v2 v3 v5 v6 v7 v8 v9 v10 s0  h else b_18_136 k61 k73 v0 v1 v2 v3 v5 v6 v7 v8 v9 v10 s0  h
theorem u_18_127 (d : Nat) (hd : 1 ≤ d) (k61 : Option Nat → Option Nat → Int32 → Int32 → Int32 → Int32 → Int32 → Int32 → Int32 → Hp → Option (Int32 × Hp)) (K61 : ∀ (v0 : Option Nat) (v1 : Option Nat) (v2 : Int32) (v3 : Int32) (v4 : Int32) (v5 : Int32) (v6 : Int32) (v7 : Int32) (v8 : Int32) (v9 : Int32) (v10 : Option (Int32)) (v11 : Option (Int32)) (v12 : Option (Int32)) (h : Hp) (r : Int32 × Hp), k61 v0 v1 v2 v3 v5 v6 v7 v8 v9 h = some r → Rn d 18 61 [some (va_rf v0), some (va_rf v1), some (.int v2), some (.int v3), some (.int v4), some (.int v5), some (.int v6), some (.int v7), some (.int v8), some (.int v9), v10.map Value.int, v11.map Value.int, v12.map Value.int] [] h (some (.int r.1), r.2)) (k73 : Option Nat → Option Nat → Int32 → Int32 → Int32 → Int32 → Int32 → Int32 → Int32 → Int32 → Hp → Option (Int32 × Hp)) (K73 : ∀ (v0 : Option Nat) (v1 : Option Nat) (v2 : Int32) (v3 : Int32) (v4 : Int32) (v5 : Int32) (v6 : Int32) (v7 : Int32) (v8 : Int32) (v9 : Int32) (v10 : Int32) (v11 : Option (Int32)) (v12 : Option (Int32)) (h : Hp) (r : Int32 × Hp), k73 v0 v1 v2 v3 v5 v6 v7 v8 v9 v10 h = some r → Rn d 18 73 [some (va_rf v0), some (va_rf v1), some (.int v2), some (.int v3), some (.int v4), some (.int v5), some (.int v6), some (.int v7), some (.int v8), some (.int v9), some (.int v10), v11.map Value.int, v12.map Value.int] [] h (some (.int r.1), r.2)) (v0 : Option Nat) (v1 : Option Nat) (v2 : Int32) (v3 : Int32) (v4 : Int32) (v5 : Int32) (v6 : Int32) (v7 : Int32) (v8 : Int32) (v9 : Int32) (v10 : Int32) (v11 : Option (Int32)) (v12 : Option (Int32)) (s0 : Int32) (h : Hp) (r : Int32 × Hp) (hb : b_18_127 k61 k73 v0 v1 v2 v3 v5 v6 v7 v8 v9 v10 s0 h = some r) : Rn d 18 127 [some (va_rf v0), some (va_rf v1), some (.int v2), some (.int v3), some (.int v4), some (.int v5), some (.int v6), some (.int v7), some (.int v8), some (.int v9), some (.int v10), v11.map Value.int, v12.map Value.int] [.int s0] h (some (.int r.1), r.2) := by
  unfold b_18_127 at hb
  refine rn_istore (i := 11) (L1 := [some (va_rf v0), some (va_rf v1), some (.int v2), some (.int v3), some (.int v4), some (.int v5), some (.int v6), some (.int v7), some (.int v8), some (.int v9), some (.int v10), some (.int s0), v12.map Value.int]) rfl (Nat.le_of_ble_eq_true rfl) (Or.inr rfl) rfl ?_
  refine rn_aload_n (i := 0) rfl rfl ?_
  refine rn_gI (c := 1) (k := 8) rfl (by decide) hb (fun x1 hb => ?_)
  refine rn_if_eq rfl rfl (fun hc => ?_) (fun hc => ?_)
  · exact u_18_152 d hd k61 K61 k73 K73 v0 v1 v2 v3 v4 v5 v6 v7 v8 v9 v10 s0 v12  h _ (if_t hb hc)
  · exact u_18_136 d hd k61 K61 k73 K73 v0 v1 v2 v3 v4 v5 v6 v7 v8 v9 v10 s0 v12  h _ (if_f hb hc)
def b_18_114 (k61 : Option Nat → Option Nat → Int32 → Int32 → Int32 → Int32 → Int32 → Int32 → Int32 → Hp → Option (Int32 × Hp)) (k73 : Option Nat → Option Nat → Int32 → Int32 → Int32 → Int32 → Int32 → Int32 → Int32 → Int32 → Hp → Option (Int32 × Hp)) (v0 : Option Nat) (v1 : Option Nat) (v2 : Int32) (v3 : Int32) (v5 : Int32) (v6 : Int32) (v7 : Int32) (v8 : Int32) (v9 : Int32) (v10 : Int32)  (h : Hp) : Option (Int32 × Hp) :=
  (gI 1 6 v0 h).bind fun x1 =>
  b_18_127 k61 k73 v0 v1 v2 v3 v5 v6 v7 v8 v9 v10 ((x1 + v5) + (v9 * v6)) h
theorem u_18_114 (d : Nat) (hd : 1 ≤ d) (k61 : Option Nat → Option Nat → Int32 → Int32 → Int32 → Int32 → Int32 → Int32 → Int32 → Hp → Option (Int32 × Hp)) (K61 : ∀ (v0 : Option Nat) (v1 : Option Nat) (v2 : Int32) (v3 : Int32) (v4 : Int32) (v5 : Int32) (v6 : Int32) (v7 : Int32) (v8 : Int32) (v9 : Int32) (v10 : Option (Int32)) (v11 : Option (Int32)) (v12 : Option (Int32)) (h : Hp) (r : Int32 × Hp), k61 v0 v1 v2 v3 v5 v6 v7 v8 v9 h = some r → Rn d 18 61 [some (va_rf v0), some (va_rf v1), some (.int v2), some (.int v3), some (.int v4), some (.int v5), some (.int v6), some (.int v7), some (.int v8), some (.int v9), v10.map Value.int, v11.map Value.int, v12.map Value.int] [] h (some (.int r.1), r.2)) (k73 : Option Nat → Option Nat → Int32 → Int32 → Int32 → Int32 → Int32 → Int32 → Int32 → Int32 → Hp → Option (Int32 × Hp)) (K73 : ∀ (v0 : Option Nat) (v1 : Option Nat) (v2 : Int32) (v3 : Int32) (v4 : Int32) (v5 : Int32) (v6 : Int32) (v7 : Int32) (v8 : Int32) (v9 : Int32) (v10 : Int32) (v11 : Option (Int32)) (v12 : Option (Int32)) (h : Hp) (r : Int32 × Hp), k73 v0 v1 v2 v3 v5 v6 v7 v8 v9 v10 h = some r → Rn d 18 73 [some (va_rf v0), some (va_rf v1), some (.int v2), some (.int v3), some (.int v4), some (.int v5), some (.int v6), some (.int v7), some (.int v8), some (.int v9), some (.int v10), v11.map Value.int, v12.map Value.int] [] h (some (.int r.1), r.2)) (v0 : Option Nat) (v1 : Option Nat) (v2 : Int32) (v3 : Int32) (v4 : Int32) (v5 : Int32) (v6 : Int32) (v7 : Int32) (v8 : Int32) (v9 : Int32) (v10 : Int32) (v11 : Option (Int32)) (v12 : Option (Int32))  (h : Hp) (r : Int32 × Hp) (hb : b_18_114 k61 k73 v0 v1 v2 v3 v5 v6 v7 v8 v9 v10  h = some r) : Rn d 18 114 [some (va_rf v0), some (va_rf v1), some (.int v2), some (.int v3), some (.int v4), some (.int v5), some (.int v6), some (.int v7), some (.int v8), some (.int v9), some (.int v10), v11.map Value.int, v12.map Value.int] [] h (some (.int r.1), r.2) := by
  unfold b_18_114 at hb
  refine rn_aload_n (i := 0) rfl rfl ?_
  refine rn_gI (c := 1) (k := 6) rfl (by decide) hb (fun x1 hb => ?_)
  refine rn_iload (i := 5) rfl rfl ?_
  refine rn_iadd rfl ?_
  refine rn_iload (i := 9) rfl rfl ?_
  refine rn_iload (i := 6) rfl rfl ?_
  refine rn_imul rfl ?_
  refine rn_iadd rfl ?_
  exact u_18_127 d hd k61 K61 k73 K73 v0 v1 v2 v3 v4 v5 v6 v7 v8 v9 v10 v11 v12 ((x1 + v5) + (v9 * v6)) h _ hb
def b_18_101 (k61 : Option Nat → Option Nat → Int32 → Int32 → Int32 → Int32 → Int32 → Int32 → Int32 → Hp → Option (Int32 × Hp)) (k73 : Option Nat → Option Nat → Int32 → Int32 → Int32 → Int32 → Int32 → Int32 → Int32 → Int32 → Hp → Option (Int32 × Hp)) (v0 : Option Nat) (v1 : Option Nat) (v2 : Int32) (v3 : Int32) (v5 : Int32) (v6 : Int32) (v7 : Int32) (v8 : Int32) (v9 : Int32) (v10 : Int32)  (h : Hp) : Option (Int32 × Hp) :=
  (gI 1 6 v0 h).bind fun x1 =>
  b_18_127 k61 k73 v0 v1 v2 v3 v5 v6 v7 v8 v9 v10 (x1 + (v10 * v7)) h
theorem u_18_101 (d : Nat) (hd : 1 ≤ d) (k61 : Option Nat → Option Nat → Int32 → Int32 → Int32 → Int32 → Int32 → Int32 → Int32 → Hp → Option (Int32 × Hp)) (K61 : ∀ (v0 : Option Nat) (v1 : Option Nat) (v2 : Int32) (v3 : Int32) (v4 : Int32) (v5 : Int32) (v6 : Int32) (v7 : Int32) (v8 : Int32) (v9 : Int32) (v10 : Option (Int32)) (v11 : Option (Int32)) (v12 : Option (Int32)) (h : Hp) (r : Int32 × Hp), k61 v0 v1 v2 v3 v5 v6 v7 v8 v9 h = some r → Rn d 18 61 [some (va_rf v0), some (va_rf v1), some (.int v2), some (.int v3), some (.int v4), some (.int v5), some (.int v6), some (.int v7), some (.int v8), some (.int v9), v10.map Value.int, v11.map Value.int, v12.map Value.int] [] h (some (.int r.1), r.2)) (k73 : Option Nat → Option Nat → Int32 → Int32 → Int32 → Int32 → Int32 → Int32 → Int32 → Int32 → Hp → Option (Int32 × Hp)) (K73 : ∀ (v0 : Option Nat) (v1 : Option Nat) (v2 : Int32) (v3 : Int32) (v4 : Int32) (v5 : Int32) (v6 : Int32) (v7 : Int32) (v8 : Int32) (v9 : Int32) (v10 : Int32) (v11 : Option (Int32)) (v12 : Option (Int32)) (h : Hp) (r : Int32 × Hp), k73 v0 v1 v2 v3 v5 v6 v7 v8 v9 v10 h = some r → Rn d 18 73 [some (va_rf v0), some (va_rf v1), some (.int v2), some (.int v3), some (.int v4), some (.int v5), some (.int v6), some (.int v7), some (.int v8), some (.int v9), some (.int v10), v11.map Value.int, v12.map Value.int] [] h (some (.int r.1), r.2)) (v0 : Option Nat) (v1 : Option Nat) (v2 : Int32) (v3 : Int32) (v4 : Int32) (v5 : Int32) (v6 : Int32) (v7 : Int32) (v8 : Int32) (v9 : Int32) (v10 : Int32) (v11 : Option (Int32)) (v12 : Option (Int32))  (h : Hp) (r : Int32 × Hp) (hb : b_18_101 k61 k73 v0 v1 v2 v3 v5 v6 v7 v8 v9 v10  h = some r) : Rn d 18 101 [some (va_rf v0), some (va_rf v1), some (.int v2), some (.int v3), some (.int v4), some (.int v5), some (.int v6), some (.int v7), some (.int v8), some (.int v9), some (.int v10), v11.map Value.int, v12.map Value.int] [] h (some (.int r.1), r.2) := by
  unfold b_18_101 at hb
  refine rn_aload_n (i := 0) rfl rfl ?_
  refine rn_gI (c := 1) (k := 6) rfl (by decide) hb (fun x1 hb => ?_)
  refine rn_iload (i := 10) rfl rfl ?_
  refine rn_iload (i := 7) rfl rfl ?_
  refine rn_imul rfl ?_
  refine rn_iadd rfl ?_
  refine rn_goto rfl rfl ?_
  exact u_18_127 d hd k61 K61 k73 K73 v0 v1 v2 v3 v4 v5 v6 v7 v8 v9 v10 v11 v12 (x1 + (v10 * v7)) h _ hb
def b_18_94 (k61 : Option Nat → Option Nat → Int32 → Int32 → Int32 → Int32 → Int32 → Int32 → Int32 → Hp → Option (Int32 × Hp)) (k73 : Option Nat → Option Nat → Int32 → Int32 → Int32 → Int32 → Int32 → Int32 → Int32 → Int32 → Hp → Option (Int32 × Hp)) (v0 : Option Nat) (v1 : Option Nat) (v2 : Int32) (v3 : Int32) (v5 : Int32) (v6 : Int32) (v7 : Int32) (v8 : Int32) (v9 : Int32) (v10 : Int32)  (h : Hp) : Option (Int32 × Hp) :=
  (gI 1 8 v0 h).bind fun x1 =>
  if x1 = 0 then b_18_114 k61 k73 v0 v1 v2 v3 v5 v6 v7 v8 v9 v10  h else b_18_101 k61 k73 v0 v1 v2 v3 v5 v6 v7 v8 v9 v10  h
theorem u_18_94 (d : Nat) (hd : 1 ≤ d) (k61 : Option Nat → Option Nat → Int32 → Int32 → Int32 → Int32 → Int32 → Int32 → Int32 → Hp → Option (Int32 × Hp)) (K61 : ∀ (v0 : Option Nat) (v1 : Option Nat) (v2 : Int32) (v3 : Int32) (v4 : Int32) (v5 : Int32) (v6 : Int32) (v7 : Int32) (v8 : Int32) (v9 : Int32) (v10 : Option (Int32)) (v11 : Option (Int32)) (v12 : Option (Int32)) (h : Hp) (r : Int32 × Hp), k61 v0 v1 v2 v3 v5 v6 v7 v8 v9 h = some r → Rn d 18 61 [some (va_rf v0), some (va_rf v1), some (.int v2), some (.int v3), some (.int v4), some (.int v5), some (.int v6), some (.int v7), some (.int v8), some (.int v9), v10.map Value.int, v11.map Value.int, v12.map Value.int] [] h (some (.int r.1), r.2)) (k73 : Option Nat → Option Nat → Int32 → Int32 → Int32 → Int32 → Int32 → Int32 → Int32 → Int32 → Hp → Option (Int32 × Hp)) (K73 : ∀ (v0 : Option Nat) (v1 : Option Nat) (v2 : Int32) (v3 : Int32) (v4 : Int32) (v5 : Int32) (v6 : Int32) (v7 : Int32) (v8 : Int32) (v9 : Int32) (v10 : Int32) (v11 : Option (Int32)) (v12 : Option (Int32)) (h : Hp) (r : Int32 × Hp), k73 v0 v1 v2 v3 v5 v6 v7 v8 v9 v10 h = some r → Rn d 18 73 [some (va_rf v0), some (va_rf v1), some (.int v2), some (.int v3), some (.int v4), some (.int v5), some (.int v6), some (.int v7), some (.int v8), some (.int v9), some (.int v10), v11.map Value.int, v12.map Value.int] [] h (some (.int r.1), r.2)) (v0 : Option Nat) (v1 : Option Nat) (v2 : Int32) (v3 : Int32) (v4 : Int32) (v5 : Int32) (v6 : Int32) (v7 : Int32) (v8 : Int32) (v9 : Int32) (v10 : Int32) (v11 : Option (Int32)) (v12 : Option (Int32))  (h : Hp) (r : Int32 × Hp) (hb : b_18_94 k61 k73 v0 v1 v2 v3 v5 v6 v7 v8 v9 v10  h = some r) : Rn d 18 94 [some (va_rf v0), some (va_rf v1), some (.int v2), some (.int v3), some (.int v4), some (.int v5), some (.int v6), some (.int v7), some (.int v8), some (.int v9), some (.int v10), v11.map Value.int, v12.map Value.int] [] h (some (.int r.1), r.2) := by
  unfold b_18_94 at hb
  refine rn_aload_n (i := 0) rfl rfl ?_
  refine rn_gI (c := 1) (k := 8) rfl (by decide) hb (fun x1 hb => ?_)
  refine rn_if_eq rfl rfl (fun hc => ?_) (fun hc => ?_)
  · exact u_18_114 d hd k61 K61 k73 K73 v0 v1 v2 v3 v4 v5 v6 v7 v8 v9 v10 v11 v12  h _ (if_t hb hc)
  · exact u_18_101 d hd k61 K61 k73 K73 v0 v1 v2 v3 v4 v5 v6 v7 v8 v9 v10 v11 v12  h _ (if_f hb hc)
def b_18_82 (k61 : Option Nat → Option Nat → Int32 → Int32 → Int32 → Int32 → Int32 → Int32 → Int32 → Hp → Option (Int32 × Hp)) (k73 : Option Nat → Option Nat → Int32 → Int32 → Int32 → Int32 → Int32 → Int32 → Int32 → Int32 → Hp → Option (Int32 × Hp)) (v0 : Option Nat) (v1 : Option Nat) (v2 : Int32) (v3 : Int32) (v5 : Int32) (v6 : Int32) (v7 : Int32) (v8 : Int32) (v9 : Int32) (v10 : Int32)  (h : Hp) : Option (Int32 × Hp) :=
  (grd (rC 1 v0 h)).bind fun _ =>
  (f_19 v0 v3 v9 v10 h).bind fun p1 =>
  if p1.1 = 0 then b_18_200 k61 k73 v0 v1 v2 v3 v5 v6 v7 v8 v9 v10  p1.2 else b_18_94 k61 k73 v0 v1 v2 v3 v5 v6 v7 v8 v9 v10  p1.2
theorem u_18_82 (d : Nat) (hd : 1 ≤ d) (k61 : Option Nat → Option Nat → Int32 → Int32 → Int32 → Int32 → Int32 → Int32 → Int32 → Hp → Option (Int32 × Hp)) (K61 : ∀ (v0 : Option Nat) (v1 : Option Nat) (v2 : Int32) (v3 : Int32) (v4 : Int32) (v5 : Int32) (v6 : Int32) (v7 : Int32) (v8 : Int32) (v9 : Int32) (v10 : Option (Int32)) (v11 : Option (Int32)) (v12 : Option (Int32)) (h : Hp) (r : Int32 × Hp), k61 v0 v1 v2 v3 v5 v6 v7 v8 v9 h = some r → Rn d 18 61 [some (va_rf v0), some (va_rf v1), some (.int v2), some (.int v3), some (.int v4), some (.int v5), some (.int v6), some (.int v7), some (.int v8), some (.int v9), v10.map Value.int, v11.map Value.int, v12.map Value.int] [] h (some (.int r.1), r.2)) (k73 : Option Nat → Option Nat → Int32 → Int32 → Int32 → Int32 → Int32 → Int32 → Int32 → Int32 → Hp → Option (Int32 × Hp)) (K73 : ∀ (v0 : Option Nat) (v1 : Option Nat) (v2 : Int32) (v3 : Int32) (v4 : Int32) (v5 : Int32) (v6 : Int32) (v7 : Int32) (v8 : Int32) (v9 : Int32) (v10 : Int32) (v11 : Option (Int32)) (v12 : Option (Int32)) (h : Hp) (r : Int32 × Hp), k73 v0 v1 v2 v3 v5 v6 v7 v8 v9 v10 h = some r → Rn d 18 73 [some (va_rf v0), some (va_rf v1), some (.int v2), some (.int v3), some (.int v4), some (.int v5), some (.int v6), some (.int v7), some (.int v8), some (.int v9), some (.int v10), v11.map Value.int, v12.map Value.int] [] h (some (.int r.1), r.2)) (v0 : Option Nat) (v1 : Option Nat) (v2 : Int32) (v3 : Int32) (v4 : Int32) (v5 : Int32) (v6 : Int32) (v7 : Int32) (v8 : Int32) (v9 : Int32) (v10 : Int32) (v11 : Option (Int32)) (v12 : Option (Int32))  (h : Hp) (r : Int32 × Hp) (hb : b_18_82 k61 k73 v0 v1 v2 v3 v5 v6 v7 v8 v9 v10  h = some r) : Rn d 18 82 [some (va_rf v0), some (va_rf v1), some (.int v2), some (.int v3), some (.int v4), some (.int v5), some (.int v6), some (.int v7), some (.int v8), some (.int v9), some (.int v10), v11.map Value.int, v12.map Value.int] [] h (some (.int r.1), r.2) := by
  unfold b_18_82 at hb
  obtain ⟨e, rfl⟩ : ∃ e, d = e + 1 := ⟨d - 1, by omega⟩
  refine rn_aload_n (i := 0) rfl rfl ?_
  refine rn_iload_n (i := 3) rfl rfl ?_
  refine rn_iload (i := 9) rfl rfl ?_
  refine rn_iload (i := 10) rfl rfl ?_
  obtain ⟨hrc, hb⟩ := grd_spec hb
  obtain ⟨p1, hc, hb⟩ := Option.bind_eq_some_iff.mp hb
  refine Rn.call1 (d := e) (As := [va_rf v0, .int v3, .int v9, .int v10]) (rest := []) rfl rfl rfl (by decide) rfl rfl rfl (bd_rcV hrc rfl) (by decide) (bd_lenC (n := 4) rfl (bd_slR (bd_slI (bd_slI (bd_slI bd_slN)))) rfl) (bd_locC (n := 4) rfl (bd_slR (bd_slI (bd_slI (bd_slI bd_slN)))) rfl (t_19 e (by omega) v0 v3 v9 v10 h _ hc)) ?_
  refine rn_if_eq rfl rfl (fun hc => ?_) (fun hc => ?_)
  · exact u_18_200 (e + 1) hd k61 K61 k73 K73 v0 v1 v2 v3 v4 v5 v6 v7 v8 v9 v10 v11 v12  p1.2 _ (if_t hb hc)
  · exact u_18_94 (e + 1) hd k61 K61 k73 K73 v0 v1 v2 v3 v4 v5 v6 v7 v8 v9 v10 v11 v12  p1.2 _ (if_f hb hc)
def b_18_73 (k61 : Option Nat → Option Nat → Int32 → Int32 → Int32 → Int32 → Int32 → Int32 → Int32 → Hp → Option (Int32 × Hp)) (k73 : Option Nat → Option Nat → Int32 → Int32 → Int32 → Int32 → Int32 → Int32 → Int32 → Int32 → Hp → Option (Int32 × Hp)) (v0 : Option Nat) (v1 : Option Nat) (v2 : Int32) (v3 : Int32) (v5 : Int32) (v6 : Int32) (v7 : Int32) (v8 : Int32) (v9 : Int32) (v10 : Int32)  (h : Hp) : Option (Int32 × Hp) :=
  (gI 1 9 v0 h).bind fun x1 =>
  if x1 < v10 then b_18_206 k61 v0 v1 v2 v3 v5 v6 v7 v8 v9  h else b_18_82 k61 k73 v0 v1 v2 v3 v5 v6 v7 v8 v9 v10  h
theorem u_18_73 (d : Nat) (hd : 1 ≤ d) (k61 : Option Nat → Option Nat → Int32 → Int32 → Int32 → Int32 → Int32 → Int32 → Int32 → Hp → Option (Int32 × Hp)) (K61 : ∀ (v0 : Option Nat) (v1 : Option Nat) (v2 : Int32) (v3 : Int32) (v4 : Int32) (v5 : Int32) (v6 : Int32) (v7 : Int32) (v8 : Int32) (v9 : Int32) (v10 : Option (Int32)) (v11 : Option (Int32)) (v12 : Option (Int32)) (h : Hp) (r : Int32 × Hp), k61 v0 v1 v2 v3 v5 v6 v7 v8 v9 h = some r → Rn d 18 61 [some (va_rf v0), some (va_rf v1), some (.int v2), some (.int v3), some (.int v4), some (.int v5), some (.int v6), some (.int v7), some (.int v8), some (.int v9), v10.map Value.int, v11.map Value.int, v12.map Value.int] [] h (some (.int r.1), r.2)) (k73 : Option Nat → Option Nat → Int32 → Int32 → Int32 → Int32 → Int32 → Int32 → Int32 → Int32 → Hp → Option (Int32 × Hp)) (K73 : ∀ (v0 : Option Nat) (v1 : Option Nat) (v2 : Int32) (v3 : Int32) (v4 : Int32) (v5 : Int32) (v6 : Int32) (v7 : Int32) (v8 : Int32) (v9 : Int32) (v10 : Int32) (v11 : Option (Int32)) (v12 : Option (Int32)) (h : Hp) (r : Int32 × Hp), k73 v0 v1 v2 v3 v5 v6 v7 v8 v9 v10 h = some r → Rn d 18 73 [some (va_rf v0), some (va_rf v1), some (.int v2), some (.int v3), some (.int v4), some (.int v5), some (.int v6), some (.int v7), some (.int v8), some (.int v9), some (.int v10), v11.map Value.int, v12.map Value.int] [] h (some (.int r.1), r.2)) (v0 : Option Nat) (v1 : Option Nat) (v2 : Int32) (v3 : Int32) (v4 : Int32) (v5 : Int32) (v6 : Int32) (v7 : Int32) (v8 : Int32) (v9 : Int32) (v10 : Int32) (v11 : Option (Int32)) (v12 : Option (Int32))  (h : Hp) (r : Int32 × Hp) (hb : b_18_73 k61 k73 v0 v1 v2 v3 v5 v6 v7 v8 v9 v10  h = some r) : Rn d 18 73 [some (va_rf v0), some (va_rf v1), some (.int v2), some (.int v3), some (.int v4), some (.int v5), some (.int v6), some (.int v7), some (.int v8), some (.int v9), some (.int v10), v11.map Value.int, v12.map Value.int] [] h (some (.int r.1), r.2) := by
  unfold b_18_73 at hb
  refine rn_iload (i := 10) rfl rfl ?_
  refine rn_aload_n (i := 0) rfl rfl ?_
  refine rn_gI (c := 1) (k := 9) rfl (by decide) hb (fun x1 hb => ?_)
  refine rn_icmp_gt rfl rfl (fun hc => ?_) (fun hc => ?_)
  · exact u_18_206 d hd k61 K61 v0 v1 v2 v3 v4 v5 v6 v7 v8 v9 v10 v11 v12  h _ (if_t hb hc)
  · exact u_18_82 d hd k61 K61 k73 K73 v0 v1 v2 v3 v4 v5 v6 v7 v8 v9 v10 v11 v12  h _ (if_f hb hc)
def l_18_73 (k61 : Option Nat → Option Nat → Int32 → Int32 → Int32 → Int32 → Int32 → Int32 → Int32 → Hp → Option (Int32 × Hp)) : Nat → Option Nat → Option Nat → Int32 → Int32 → Int32 → Int32 → Int32 → Int32 → Int32 → Int32 → Hp → Option (Int32 × Hp)
  | 0, _, _, _, _, _, _, _, _, _, _, _ => none
  | n + 1, v0, v1, v2, v3, v5, v6, v7, v8, v9, v10, h => b_18_73 k61 (l_18_73 k61 n) v0 v1 v2 v3 v5 v6 v7 v8 v9 v10 h
theorem w_18_73 (d : Nat) (hd : 1 ≤ d) (k61 : Option Nat → Option Nat → Int32 → Int32 → Int32 → Int32 → Int32 → Int32 → Int32 → Hp → Option (Int32 × Hp)) (K61 : ∀ (v0 : Option Nat) (v1 : Option Nat) (v2 : Int32) (v3 : Int32) (v4 : Int32) (v5 : Int32) (v6 : Int32) (v7 : Int32) (v8 : Int32) (v9 : Int32) (v10 : Option (Int32)) (v11 : Option (Int32)) (v12 : Option (Int32)) (h : Hp) (r : Int32 × Hp), k61 v0 v1 v2 v3 v5 v6 v7 v8 v9 h = some r → Rn d 18 61 [some (va_rf v0), some (va_rf v1), some (.int v2), some (.int v3), some (.int v4), some (.int v5), some (.int v6), some (.int v7), some (.int v8), some (.int v9), v10.map Value.int, v11.map Value.int, v12.map Value.int] [] h (some (.int r.1), r.2)) : ∀ (n : Nat) (v0 : Option Nat) (v1 : Option Nat) (v2 : Int32) (v3 : Int32) (v4 : Int32) (v5 : Int32) (v6 : Int32) (v7 : Int32) (v8 : Int32) (v9 : Int32) (v10 : Int32) (v11 : Option (Int32)) (v12 : Option (Int32)) (h : Hp) (r : Int32 × Hp), l_18_73 k61 n v0 v1 v2 v3 v5 v6 v7 v8 v9 v10 h = some r → Rn d 18 73 [some (va_rf v0), some (va_rf v1), some (.int v2), some (.int v3), some (.int v4), some (.int v5), some (.int v6), some (.int v7), some (.int v8), some (.int v9), some (.int v10), v11.map Value.int, v12.map Value.int] [] h (some (.int r.1), r.2) := by
  intro n
  induction n with
  | zero => intro v0 v1 v2 v3 v4 v5 v6 v7 v8 v9 v10 v11 v12 h r hb; cases hb
  | succ n ih => intro v0 v1 v2 v3 v4 v5 v6 v7 v8 v9 v10 v11 v12 h r hb; exact u_18_73 d hd k61 K61 (l_18_73 k61 n) ih v0 v1 v2 v3 v4 v5 v6 v7 v8 v9 v10 v11 v12 h r hb
def b_18_70 (k61 : Option Nat → Option Nat → Int32 → Int32 → Int32 → Int32 → Int32 → Int32 → Int32 → Hp → Option (Int32 × Hp)) (v0 : Option Nat) (v1 : Option Nat) (v2 : Int32) (v3 : Int32) (v5 : Int32) (v6 : Int32) (v7 : Int32) (v8 : Int32) (v9 : Int32)  (h : Hp) : Option (Int32 × Hp) :=
  bnd ((nI 0)) fun x1 =>
  l_18_73 k61 FU v0 v1 v2 v3 v5 v6 v7 v8 v9 x1 h
theorem u_18_70 (d : Nat) (hd : 1 ≤ d) (k61 : Option Nat → Option Nat → Int32 → Int32 → Int32 → Int32 → Int32 → Int32 → Int32 → Hp → Option (Int32 × Hp)) (K61 : ∀ (v0 : Option Nat) (v1 : Option Nat) (v2 : Int32) (v3 : Int32) (v4 : Int32) (v5 : Int32) (v6 : Int32) (v7 : Int32) (v8 : Int32) (v9 : Int32) (v10 : Option (Int32)) (v11 : Option (Int32)) (v12 : Option (Int32)) (h : Hp) (r : Int32 × Hp), k61 v0 v1 v2 v3 v5 v6 v7 v8 v9 h = some r → Rn d 18 61 [some (va_rf v0), some (va_rf v1), some (.int v2), some (.int v3), some (.int v4), some (.int v5), some (.int v6), some (.int v7), some (.int v8), some (.int v9), v10.map Value.int, v11.map Value.int, v12.map Value.int] [] h (some (.int r.1), r.2)) (v0 : Option Nat) (v1 : Option Nat) (v2 : Int32) (v3 : Int32) (v4 : Int32) (v5 : Int32) (v6 : Int32) (v7 : Int32) (v8 : Int32) (v9 : Int32) (v10 : Option (Int32)) (v11 : Option (Int32)) (v12 : Option (Int32))  (h : Hp) (r : Int32 × Hp) (hb : b_18_70 k61 v0 v1 v2 v3 v5 v6 v7 v8 v9  h = some r) : Rn d 18 70 [some (va_rf v0), some (va_rf v1), some (.int v2), some (.int v3), some (.int v4), some (.int v5), some (.int v6), some (.int v7), some (.int v8), some (.int v9), v10.map Value.int, v11.map Value.int, v12.map Value.int] [] h (some (.int r.1), r.2) := by
  unfold b_18_70 at hb
  refine rn_iconst (x := (nI 0)) rfl (by decide) ?_
  obtain ⟨x1, ex1, hb⟩ := bnd_spec hb
  refine rn_istore (i := 10) (L1 := [some (va_rf v0), some (va_rf v1), some (.int v2), some (.int v3), some (.int v4), some (.int v5), some (.int v6), some (.int v7), some (.int v8), some (.int v9), some (.int x1), v11.map Value.int, v12.map Value.int]) rfl (Nat.le_of_ble_eq_true rfl) (Or.inr rfl) (by rw [ex1]; rfl) ?_
  exact w_18_73 d hd k61 K61 FU v0 v1 v2 v3 v4 v5 v6 v7 v8 v9 x1 v11 v12 h _ hb
def b_18_61 (k61 : Option Nat → Option Nat → Int32 → Int32 → Int32 → Int32 → Int32 → Int32 → Int32 → Hp → Option (Int32 × Hp)) (v0 : Option Nat) (v1 : Option Nat) (v2 : Int32) (v3 : Int32) (v5 : Int32) (v6 : Int32) (v7 : Int32) (v8 : Int32) (v9 : Int32)  (h : Hp) : Option (Int32 × Hp) :=
  (gI 1 9 v0 h).bind fun x1 =>
  if x1 ≤ v9 then b_18_212 v8  h else b_18_70 k61 v0 v1 v2 v3 v5 v6 v7 v8 v9  h
theorem u_18_61 (d : Nat) (hd : 1 ≤ d) (k61 : Option Nat → Option Nat → Int32 → Int32 → Int32 → Int32 → Int32 → Int32 → Int32 → Hp → Option (Int32 × Hp)) (K61 : ∀ (v0 : Option Nat) (v1 : Option Nat) (v2 : Int32) (v3 : Int32) (v4 : Int32) (v5 : Int32) (v6 : Int32) (v7 : Int32) (v8 : Int32) (v9 : Int32) (v10 : Option (Int32)) (v11 : Option (Int32)) (v12 : Option (Int32)) (h : Hp) (r : Int32 × Hp), k61 v0 v1 v2 v3 v5 v6 v7 v8 v9 h = some r → Rn d 18 61 [some (va_rf v0), some (va_rf v1), some (.int v2), some (.int v3), some (.int v4), some (.int v5), some (.int v6), some (.int v7), some (.int v8), some (.int v9), v10.map Value.int, v11.map Value.int, v12.map Value.int] [] h (some (.int r.1), r.2)) (v0 : Option Nat) (v1 : Option Nat) (v2 : Int32) (v3 : Int32) (v4 : Int32) (v5 : Int32) (v6 : Int32) (v7 : Int32) (v8 : Int32) (v9 : Int32) (v10 : Option (Int32)) (v11 : Option (Int32)) (v12 : Option (Int32))  (h : Hp) (r : Int32 × Hp) (hb : b_18_61 k61 v0 v1 v2 v3 v5 v6 v7 v8 v9  h = some r) : Rn d 18 61 [some (va_rf v0), some (va_rf v1), some (.int v2), some (.int v3), some (.int v4), some (.int v5), some (.int v6), some (.int v7), some (.int v8), some (.int v9), v10.map Value.int, v11.map Value.int, v12.map Value.int] [] h (some (.int r.1), r.2) := by
  unfold b_18_61 at hb
  refine rn_iload (i := 9) rfl rfl ?_
  refine rn_aload_n (i := 0) rfl rfl ?_
  refine rn_gI (c := 1) (k := 9) rfl (by decide) hb (fun x1 hb => ?_)
  refine rn_icmp_ge rfl rfl (fun hc => ?_) (fun hc => ?_)
  · exact u_18_212 d hd v0 v1 v2 v3 v4 v5 v6 v7 v8 v9 v10 v11 v12  h _ (if_t hb hc)
  · exact u_18_70 d hd k61 K61 v0 v1 v2 v3 v4 v5 v6 v7 v8 v9 v10 v11 v12  h _ (if_f hb hc)
def l_18_61 : Nat → Option Nat → Option Nat → Int32 → Int32 → Int32 → Int32 → Int32 → Int32 → Int32 → Hp → Option (Int32 × Hp)
  | 0, _, _, _, _, _, _, _, _, _, _ => none
  | n + 1, v0, v1, v2, v3, v5, v6, v7, v8, v9, h => b_18_61 (l_18_61 n) v0 v1 v2 v3 v5 v6 v7 v8 v9 h
theorem w_18_61 (d : Nat) (hd : 1 ≤ d) : ∀ (n : Nat) (v0 : Option Nat) (v1 : Option Nat) (v2 : Int32) (v3 : Int32) (v4 : Int32) (v5 : Int32) (v6 : Int32) (v7 : Int32) (v8 : Int32) (v9 : Int32) (v10 : Option (Int32)) (v11 : Option (Int32)) (v12 : Option (Int32)) (h : Hp) (r : Int32 × Hp), l_18_61 n v0 v1 v2 v3 v5 v6 v7 v8 v9 h = some r → Rn d 18 61 [some (va_rf v0), some (va_rf v1), some (.int v2), some (.int v3), some (.int v4), some (.int v5), some (.int v6), some (.int v7), some (.int v8), some (.int v9), v10.map Value.int, v11.map Value.int, v12.map Value.int] [] h (some (.int r.1), r.2) := by
  intro n
  induction n with
  | zero => intro v0 v1 v2 v3 v4 v5 v6 v7 v8 v9 v10 v11 v12 h r hb; cases hb
  | succ n ih => intro v0 v1 v2 v3 v4 v5 v6 v7 v8 v9 v10 v11 v12 h r hb; exact u_18_61 d hd (l_18_61 n) ih v0 v1 v2 v3 v4 v5 v6 v7 v8 v9 v10 v11 v12 h r hb
def b_18_53 (v0 : Option Nat) (v1 : Option Nat) (v2 : Int32) (v3 : Int32) (v5 : Int32) (v6 : Int32) (s0 : Int32) (h : Hp) : Option (Int32 × Hp) :=
  bnd ((nI 1)) fun x1 =>
  bnd ((nI 0)) fun x2 =>
  l_18_61 FU v0 v1 v2 v3 v5 v6 s0 x1 x2 h
theorem u_18_53 (d : Nat) (hd : 1 ≤ d) (v0 : Option Nat) (v1 : Option Nat) (v2 : Int32) (v3 : Int32) (v4 : Int32) (v5 : Int32) (v6 : Int32) (s0 : Int32) (h : Hp) (r : Int32 × Hp) (hb : b_18_53 v0 v1 v2 v3 v5 v6 s0 h = some r) : Rn d 18 53 [some (va_rf v0), some (va_rf v1), some (.int v2), some (.int v3), some (.int v4), some (.int v5), some (.int v6), none, none, none, none, none, none] [.int s0] h (some (.int r.1), r.2) := by
  unfold b_18_53 at hb
  refine rn_istore (i := 7) (L1 := [some (va_rf v0), some (va_rf v1), some (.int v2), some (.int v3), some (.int v4), some (.int v5), some (.int v6), some (.int s0), none, none, none, none, none]) rfl (Nat.le_of_ble_eq_true rfl) (Or.inr rfl) rfl ?_
  refine rn_iconst (x := (nI 1)) rfl (by decide) ?_
  obtain ⟨x1, ex1, hb⟩ := bnd_spec hb
  refine rn_istore (i := 8) (L1 := [some (va_rf v0), some (va_rf v1), some (.int v2), some (.int v3), some (.int v4), some (.int v5), some (.int v6), some (.int s0), some (.int x1), none, none, none, none]) rfl (Nat.le_of_ble_eq_true rfl) (Or.inr rfl) (by rw [ex1]; rfl) ?_
  refine rn_iconst (x := (nI 0)) rfl (by decide) ?_
  obtain ⟨x2, ex2, hb⟩ := bnd_spec hb
  refine rn_istore (i := 9) (L1 := [some (va_rf v0), some (va_rf v1), some (.int v2), some (.int v3), some (.int v4), some (.int v5), some (.int v6), some (.int s0), some (.int x1), some (.int x2), none, none, none]) rfl (Nat.le_of_ble_eq_true rfl) (Or.inr rfl) (by rw [ex2]; rfl) ?_
  exact w_18_61 d hd FU v0 v1 v2 v3 v4 v5 v6 s0 x1 x2 (none : Option (Int32)) (none : Option (Int32)) (none : Option (Int32)) h _ hb
def b_18_52 (v0 : Option Nat) (v1 : Option Nat) (v2 : Int32) (v3 : Int32) (v5 : Int32) (v6 : Int32)  (h : Hp) : Option (Int32 × Hp) :=
  b_18_53 v0 v1 v2 v3 v5 v6 (nI 1) h
theorem u_18_52 (d : Nat) (hd : 1 ≤ d) (v0 : Option Nat) (v1 : Option Nat) (v2 : Int32) (v3 : Int32) (v4 : Int32) (v5 : Int32) (v6 : Int32)  (h : Hp) (r : Int32 × Hp) (hb : b_18_52 v0 v1 v2 v3 v5 v6  h = some r) : Rn d 18 52 [some (va_rf v0), some (va_rf v1), some (.int v2), some (.int v3), some (.int v4), some (.int v5), some (.int v6), none, none, none, none, none, none] [] h (some (.int r.1), r.2) := by
  unfold b_18_52 at hb
  refine rn_iconst (x := (nI 1)) rfl (by decide) ?_
  exact u_18_53 d hd v0 v1 v2 v3 v4 v5 v6 (nI 1) h _ hb
def b_18_48 (v0 : Option Nat) (v1 : Option Nat) (v2 : Int32) (v3 : Int32) (v5 : Int32) (v6 : Int32)  (h : Hp) : Option (Int32 × Hp) :=
  b_18_53 v0 v1 v2 v3 v5 v6 (-1 : Int32) h
theorem u_18_48 (d : Nat) (hd : 1 ≤ d) (v0 : Option Nat) (v1 : Option Nat) (v2 : Int32) (v3 : Int32) (v4 : Int32) (v5 : Int32) (v6 : Int32)  (h : Hp) (r : Int32 × Hp) (hb : b_18_48 v0 v1 v2 v3 v5 v6  h = some r) : Rn d 18 48 [some (va_rf v0), some (va_rf v1), some (.int v2), some (.int v3), some (.int v4), some (.int v5), some (.int v6), none, none, none, none, none, none] [] h (some (.int r.1), r.2) := by
  unfold b_18_48 at hb
  refine rn_iconst (x := (-1 : Int32)) rfl (by decide) ?_
  refine rn_goto rfl rfl ?_
  exact u_18_53 d hd v0 v1 v2 v3 v4 v5 v6 (-1 : Int32) h _ hb
def b_18_41 (v0 : Option Nat) (v1 : Option Nat) (v2 : Int32) (v3 : Int32) (v5 : Int32) (s0 : Int32) (h : Hp) : Option (Int32 × Hp) :=
  if (nI 2) ≤ v2 then b_18_52 v0 v1 v2 v3 v5 s0  h else b_18_48 v0 v1 v2 v3 v5 s0  h
theorem u_18_41 (d : Nat) (hd : 1 ≤ d) (v0 : Option Nat) (v1 : Option Nat) (v2 : Int32) (v3 : Int32) (v4 : Int32) (v5 : Int32) (s0 : Int32) (h : Hp) (r : Int32 × Hp) (hb : b_18_41 v0 v1 v2 v3 v5 s0 h = some r) : Rn d 18 41 [some (va_rf v0), some (va_rf v1), some (.int v2), some (.int v3), some (.int v4), some (.int v5), none, none, none, none, none, none, none] [.int s0] h (some (.int r.1), r.2) := by
  unfold b_18_41 at hb
  refine rn_istore (i := 6) (L1 := [some (va_rf v0), some (va_rf v1), some (.int v2), some (.int v3), some (.int v4), some (.int v5), some (.int s0), none, none, none, none, none, none]) rfl (Nat.le_of_ble_eq_true rfl) (Or.inr rfl) rfl ?_
  refine rn_iload_n (i := 2) rfl rfl ?_
  refine rn_iconst (x := (nI 2)) rfl (by decide) ?_
  refine rn_icmp_ge rfl rfl (fun hc => ?_) (fun hc => ?_)
  · exact u_18_52 d hd v0 v1 v2 v3 v4 v5 s0  h _ (if_t hb hc)
  · exact u_18_48 d hd v0 v1 v2 v3 v4 v5 s0  h _ (if_f hb hc)
def b_18_40 (v0 : Option Nat) (v1 : Option Nat) (v2 : Int32) (v3 : Int32) (v5 : Int32)  (h : Hp) : Option (Int32 × Hp) :=
  b_18_41 v0 v1 v2 v3 v5 (nI 1) h
theorem u_18_40 (d : Nat) (hd : 1 ≤ d) (v0 : Option Nat) (v1 : Option Nat) (v2 : Int32) (v3 : Int32) (v4 : Int32) (v5 : Int32)  (h : Hp) (r : Int32 × Hp) (hb : b_18_40 v0 v1 v2 v3 v5  h = some r) : Rn d 18 40 [some (va_rf v0), some (va_rf v1), some (.int v2), some (.int v3), some (.int v4), some (.int v5), none, none, none, none, none, none, none] [] h (some (.int r.1), r.2) := by
  unfold b_18_40 at hb
  refine rn_iconst (x := (nI 1)) rfl (by decide) ?_
  exact u_18_41 d hd v0 v1 v2 v3 v4 v5 (nI 1) h _ hb
def b_18_36 (v0 : Option Nat) (v1 : Option Nat) (v2 : Int32) (v3 : Int32) (v5 : Int32)  (h : Hp) : Option (Int32 × Hp) :=
  b_18_41 v0 v1 v2 v3 v5 (-1 : Int32) h
theorem u_18_36 (d : Nat) (hd : 1 ≤ d) (v0 : Option Nat) (v1 : Option Nat) (v2 : Int32) (v3 : Int32) (v4 : Int32) (v5 : Int32)  (h : Hp) (r : Int32 × Hp) (hb : b_18_36 v0 v1 v2 v3 v5  h = some r) : Rn d 18 36 [some (va_rf v0), some (va_rf v1), some (.int v2), some (.int v3), some (.int v4), some (.int v5), none, none, none, none, none, none, none] [] h (some (.int r.1), r.2) := by
  unfold b_18_36 at hb
  refine rn_iconst (x := (-1 : Int32)) rfl (by decide) ?_
  refine rn_goto rfl rfl ?_
  exact u_18_41 d hd v0 v1 v2 v3 v4 v5 (-1 : Int32) h _ hb
def b_18_29 (v0 : Option Nat) (v1 : Option Nat) (v2 : Int32) (v3 : Int32) (v4 : Int32) (s0 : Int32) (h : Hp) : Option (Int32 × Hp) :=
  if v4 = 0 then b_18_40 v0 v1 v2 v3 s0  h else b_18_36 v0 v1 v2 v3 s0  h
theorem u_18_29 (d : Nat) (hd : 1 ≤ d) (v0 : Option Nat) (v1 : Option Nat) (v2 : Int32) (v3 : Int32) (v4 : Int32) (s0 : Int32) (h : Hp) (r : Int32 × Hp) (hb : b_18_29 v0 v1 v2 v3 v4 s0 h = some r) : Rn d 18 29 [some (va_rf v0), some (va_rf v1), some (.int v2), some (.int v3), some (.int v4), none, none, none, none, none, none, none, none] [.int s0] h (some (.int r.1), r.2) := by
  unfold b_18_29 at hb
  refine rn_istore (i := 5) (L1 := [some (va_rf v0), some (va_rf v1), some (.int v2), some (.int v3), some (.int v4), some (.int s0), none, none, none, none, none, none, none]) rfl (Nat.le_of_ble_eq_true rfl) (Or.inr rfl) rfl ?_
  refine rn_iload (i := 4) rfl rfl ?_
  refine rn_if_eq rfl rfl (fun hc => ?_) (fun hc => ?_)
  · exact u_18_40 d hd v0 v1 v2 v3 v4 s0  h _ (if_t hb hc)
  · exact u_18_36 d hd v0 v1 v2 v3 v4 s0  h _ (if_f hb hc)
def b_18_28 (v0 : Option Nat) (v1 : Option Nat) (v2 : Int32) (v3 : Int32) (v4 : Int32)  (h : Hp) : Option (Int32 × Hp) :=
  b_18_29 v0 v1 v2 v3 v4 (nI 0) h
theorem u_18_28 (d : Nat) (hd : 1 ≤ d) (v0 : Option Nat) (v1 : Option Nat) (v2 : Int32) (v3 : Int32) (v4 : Int32)  (h : Hp) (r : Int32 × Hp) (hb : b_18_28 v0 v1 v2 v3 v4  h = some r) : Rn d 18 28 [some (va_rf v0), some (va_rf v1), some (.int v2), some (.int v3), some (.int v4), none, none, none, none, none, none, none, none] [] h (some (.int r.1), r.2) := by
  unfold b_18_28 at hb
  refine rn_iconst (x := (nI 0)) rfl (by decide) ?_
  exact u_18_29 d hd v0 v1 v2 v3 v4 (nI 0) h _ hb
def b_18_19 (v0 : Option Nat) (v1 : Option Nat) (v2 : Int32) (v3 : Int32) (v4 : Int32)  (h : Hp) : Option (Int32 × Hp) :=
  (gI 1 9 v0 h).bind fun x1 =>
  b_18_29 v0 v1 v2 v3 v4 (x1 - (nI 1)) h
theorem u_18_19 (d : Nat) (hd : 1 ≤ d) (v0 : Option Nat) (v1 : Option Nat) (v2 : Int32) (v3 : Int32) (v4 : Int32)  (h : Hp) (r : Int32 × Hp) (hb : b_18_19 v0 v1 v2 v3 v4  h = some r) : Rn d 18 19 [some (va_rf v0), some (va_rf v1), some (.int v2), some (.int v3), some (.int v4), none, none, none, none, none, none, none, none] [] h (some (.int r.1), r.2) := by
  unfold b_18_19 at hb
  refine rn_aload_n (i := 0) rfl rfl ?_
  refine rn_gI (c := 1) (k := 9) rfl (by decide) hb (fun x1 hb => ?_)
  refine rn_iconst (x := (nI 1)) rfl (by decide) ?_
  refine rn_isub rfl ?_
  refine rn_goto rfl rfl ?_
  exact u_18_29 d hd v0 v1 v2 v3 v4 (x1 - (nI 1)) h _ hb
def b_18_12 (v0 : Option Nat) (v1 : Option Nat) (v2 : Int32) (v3 : Int32) (s0 : Int32) (h : Hp) : Option (Int32 × Hp) :=
  if s0 = 0 then b_18_28 v0 v1 v2 v3 s0  h else b_18_19 v0 v1 v2 v3 s0  h
theorem u_18_12 (d : Nat) (hd : 1 ≤ d) (v0 : Option Nat) (v1 : Option Nat) (v2 : Int32) (v3 : Int32) (s0 : Int32) (h : Hp) (r : Int32 × Hp) (hb : b_18_12 v0 v1 v2 v3 s0 h = some r) : Rn d 18 12 [some (va_rf v0), some (va_rf v1), some (.int v2), some (.int v3), none, none, none, none, none, none, none, none, none] [.int s0] h (some (.int r.1), r.2) := by
  unfold b_18_12 at hb
  refine rn_istore (i := 4) (L1 := [some (va_rf v0), some (va_rf v1), some (.int v2), some (.int v3), some (.int s0), none, none, none, none, none, none, none, none]) rfl (Nat.le_of_ble_eq_true rfl) (Or.inr rfl) rfl ?_
  refine rn_iload (i := 4) rfl rfl ?_
  refine rn_if_eq rfl rfl (fun hc => ?_) (fun hc => ?_)
  · exact u_18_28 d hd v0 v1 v2 v3 s0  h _ (if_t hb hc)
  · exact u_18_19 d hd v0 v1 v2 v3 s0  h _ (if_f hb hc)
def b_18_11 (v0 : Option Nat) (v1 : Option Nat) (v2 : Int32) (v3 : Int32)  (h : Hp) : Option (Int32 × Hp) :=
  b_18_12 v0 v1 v2 v3 (nI 0) h
theorem u_18_11 (d : Nat) (hd : 1 ≤ d) (v0 : Option Nat) (v1 : Option Nat) (v2 : Int32) (v3 : Int32)  (h : Hp) (r : Int32 × Hp) (hb : b_18_11 v0 v1 v2 v3  h = some r) : Rn d 18 11 [some (va_rf v0), some (va_rf v1), some (.int v2), some (.int v3), none, none, none, none, none, none, none, none, none] [] h (some (.int r.1), r.2) := by
  unfold b_18_11 at hb
  refine rn_iconst (x := (nI 0)) rfl (by decide) ?_
  exact u_18_12 d hd v0 v1 v2 v3 (nI 0) h _ hb
def b_18_7 (v0 : Option Nat) (v1 : Option Nat) (v2 : Int32) (v3 : Int32)  (h : Hp) : Option (Int32 × Hp) :=
  b_18_12 v0 v1 v2 v3 (nI 1) h
theorem u_18_7 (d : Nat) (hd : 1 ≤ d) (v0 : Option Nat) (v1 : Option Nat) (v2 : Int32) (v3 : Int32)  (h : Hp) (r : Int32 × Hp) (hb : b_18_7 v0 v1 v2 v3  h = some r) : Rn d 18 7 [some (va_rf v0), some (va_rf v1), some (.int v2), some (.int v3), none, none, none, none, none, none, none, none, none] [] h (some (.int r.1), r.2) := by
  unfold b_18_7 at hb
  refine rn_iconst (x := (nI 1)) rfl (by decide) ?_
  refine rn_goto rfl rfl ?_
  exact u_18_12 d hd v0 v1 v2 v3 (nI 1) h _ hb
def b_18_0 (v0 : Option Nat) (v1 : Option Nat) (v2 : Int32) (v3 : Int32)  (h : Hp) : Option (Int32 × Hp) :=
  (grd (decide (¬ ((nI 2) : Int32) = 0))).bind fun _ =>
  if ¬ (v2 - v2 / (nI 2) * (nI 2)) = (nI 1) then b_18_11 v0 v1 v2 v3  h else b_18_7 v0 v1 v2 v3  h
theorem u_18_0 (d : Nat) (hd : 1 ≤ d) (v0 : Option Nat) (v1 : Option Nat) (v2 : Int32) (v3 : Int32)  (h : Hp) (r : Int32 × Hp) (hb : b_18_0 v0 v1 v2 v3  h = some r) : Rn d 18 0 [some (va_rf v0), some (va_rf v1), some (.int v2), some (.int v3), none, none, none, none, none, none, none, none, none] [] h (some (.int r.1), r.2) := by
  unfold b_18_0 at hb
  refine rn_iload_n (i := 2) rfl rfl ?_
  refine rn_iconst (x := (nI 2)) rfl (by decide) ?_
  obtain ⟨hy, hb⟩ := grd_spec hb
  refine rn_irem rfl (of_decide_eq_true hy) ?_
  refine rn_iconst (x := (nI 1)) rfl (by decide) ?_
  refine rn_icmp_ne rfl rfl (fun hc => ?_) (fun hc => ?_)
  · exact u_18_11 d hd v0 v1 v2 v3  h _ (if_t hb hc)
  · exact u_18_7 d hd v0 v1 v2 v3  h _ (if_f hb hc)
/-- BitingDoors$Door.traceLeaf(LBitingDoors$House;II)Z -/
def f_18 (v0 : Option Nat) (v1 : Option Nat) (v2 : Int32) (v3 : Int32) (h : Hp) : Option (Int32 × Hp) := b_18_0 v0 v1 v2 v3 h
theorem t_18 (d : Nat) (hd : 1 ≤ d) (v0 : Option Nat) (v1 : Option Nat) (v2 : Int32) (v3 : Int32) (h : Hp) (r : Int32 × Hp) (hb : f_18 v0 v1 v2 v3 h = some r) : Rn d 18 0 [some (va_rf v0), some (va_rf v1), some (.int v2), some (.int v3), none, none, none, none, none, none, none, none, none] [] h (some (.int r.1), r.2) := by
  unfold f_18 at hb
  exact u_18_0 d hd v0 v1 v2 v3 h r hb
def b_17_101   (h : Hp) : Option (Hp) :=
  some h
theorem u_17_101 (d : Nat) (hd : 2 ≤ d) (v0 : Option Nat) (v1 : Option Nat) (v2 : Int32) (v3 : Option (Int32))  (h : Hp) (r : Hp) (hb : b_17_101   h = some r) : Rn d 17 101 [some (va_rf v0), some (va_rf v1), some (.int v2), v3.map Value.int] [] h (none, r) := by
  unfold b_17_101 at hb
  obtain rfl := Option.some.inj hb
  exact rn_vret rfl rfl
def b_17_95 (k2 : Option Nat → Option Nat → Int32 → Hp → Option (Hp)) (v0 : Option Nat) (v1 : Option Nat) (v2 : Int32)  (h : Hp) : Option (Hp) :=
  bnd (v2 + (nI 1)) fun x1 =>
  k2 v0 v1 x1 h
theorem u_17_95 (d : Nat) (hd : 2 ≤ d) (k2 : Option Nat → Option Nat → Int32 → Hp → Option (Hp)) (K2 : ∀ (v0 : Option Nat) (v1 : Option Nat) (v2 : Int32) (v3 : Option (Int32)) (h : Hp) (r : Hp), k2 v0 v1 v2 h = some r → Rn d 17 2 [some (va_rf v0), some (va_rf v1), some (.int v2), v3.map Value.int] [] h (none, r)) (v0 : Option Nat) (v1 : Option Nat) (v2 : Int32) (v3 : Int32)  (h : Hp) (r : Hp) (hb : b_17_95 k2 v0 v1 v2  h = some r) : Rn d 17 95 [some (va_rf v0), some (va_rf v1), some (.int v2), some (.int v3)] [] h (none, r) := by
  unfold b_17_95 at hb
  obtain ⟨x1, ex1, hb⟩ := bnd_spec hb
  refine rn_iinc (i := 2) (y := x1) (L1 := [some (va_rf v0), some (va_rf v1), some (.int x1), some (.int v3)]) rfl rfl (Nat.le_of_ble_eq_true rfl) (Or.inr (bd_wideR rfl)) (by rw [ex1]; rfl) rfl ?_
  refine rn_goto rfl rfl ?_
  exact K2 v0 v1 x1 (some v3) h _ hb
def b_17_89 (k2 : Option Nat → Option Nat → Int32 → Hp → Option (Hp)) (k24 : Option Nat → Option Nat → Int32 → Int32 → Hp → Option (Hp)) (v0 : Option Nat) (v1 : Option Nat) (v2 : Int32) (v3 : Int32)  (h : Hp) : Option (Hp) :=
  bnd (v3 + (nI 1)) fun x1 =>
  k24 v0 v1 v2 x1 h
theorem u_17_89 (d : Nat) (hd : 2 ≤ d) (k2 : Option Nat → Option Nat → Int32 → Hp → Option (Hp)) (K2 : ∀ (v0 : Option Nat) (v1 : Option Nat) (v2 : Int32) (v3 : Option (Int32)) (h : Hp) (r : Hp), k2 v0 v1 v2 h = some r → Rn d 17 2 [some (va_rf v0), some (va_rf v1), some (.int v2), v3.map Value.int] [] h (none, r)) (k24 : Option Nat → Option Nat → Int32 → Int32 → Hp → Option (Hp)) (K24 : ∀ (v0 : Option Nat) (v1 : Option Nat) (v2 : Int32) (v3 : Int32) (h : Hp) (r : Hp), k24 v0 v1 v2 v3 h = some r → Rn d 17 24 [some (va_rf v0), some (va_rf v1), some (.int v2), some (.int v3)] [] h (none, r)) (v0 : Option Nat) (v1 : Option Nat) (v2 : Int32) (v3 : Int32)  (h : Hp) (r : Hp) (hb : b_17_89 k2 k24 v0 v1 v2 v3  h = some r) : Rn d 17 89 [some (va_rf v0), some (va_rf v1), some (.int v2), some (.int v3)] [] h (none, r) := by
  unfold b_17_89 at hb
  obtain ⟨x1, ex1, hb⟩ := bnd_spec hb
  refine rn_iinc (i := 3) (y := x1) (L1 := [some (va_rf v0), some (va_rf v1), some (.int v2), some (.int x1)]) rfl rfl (Nat.le_of_ble_eq_true rfl) (Or.inr rfl) (by rw [ex1]; rfl) rfl ?_
  refine rn_goto rfl rfl ?_
  exact K24 v0 v1 v2 x1 h _ hb
def b_17_39 (k2 : Option Nat → Option Nat → Int32 → Hp → Option (Hp)) (k24 : Option Nat → Option Nat → Int32 → Int32 → Hp → Option (Hp)) (v0 : Option Nat) (v1 : Option Nat) (v2 : Int32) (v3 : Int32)  (h : Hp) : Option (Hp) :=
  (gQ 1 4 v0 h).bind fun x1 =>
  (aI 12 x1 v2 h).bind fun x2 =>
  (wI x1 v2 (x2 ||| ((nI 1) <<< (v3 &&& 31))) h).bind fun h3 =>
  (gQ 1 2 v0 h3).bind fun x4 =>
  (aJ x4 v2 h3).bind fun x5 =>
  (gQ 1 0 v0 h3).bind fun x6 =>
  (aJ x6 (((nI 3) * v2) + v3) h3).bind fun x7 =>
  (wJ x4 v2 (x5 ||| x7) h3).bind fun h8 =>
  (gQ 1 3 v0 h8).bind fun x9 =>
  (aJ x9 v2 h8).bind fun x10 =>
  (gQ 1 1 v0 h8).bind fun x11 =>
  (aJ x11 (((nI 3) * v2) + v3) h8).bind fun x12 =>
  (wJ x9 v2 (x10 ||| x12) h8).bind fun h13 =>
  b_17_89 k2 k24 v0 v1 v2 v3  h13
theorem u_17_39 (d : Nat) (hd : 2 ≤ d) (k2 : Option Nat → Option Nat → Int32 → Hp → Option (Hp)) (K2 : ∀ (v0 : Option Nat) (v1 : Option Nat) (v2 : Int32) (v3 : Option (Int32)) (h : Hp) (r : Hp), k2 v0 v1 v2 h = some r → Rn d 17 2 [some (va_rf v0), some (va_rf v1), some (.int v2), v3.map Value.int] [] h (none, r)) (k24 : Option Nat → Option Nat → Int32 → Int32 → Hp → Option (Hp)) (K24 : ∀ (v0 : Option Nat) (v1 : Option Nat) (v2 : Int32) (v3 : Int32) (h : Hp) (r : Hp), k24 v0 v1 v2 v3 h = some r → Rn d 17 24 [some (va_rf v0), some (va_rf v1), some (.int v2), some (.int v3)] [] h (none, r)) (v0 : Option Nat) (v1 : Option Nat) (v2 : Int32) (v3 : Int32)  (h : Hp) (r : Hp) (hb : b_17_39 k2 k24 v0 v1 v2 v3  h = some r) : Rn d 17 39 [some (va_rf v0), some (va_rf v1), some (.int v2), some (.int v3)] [] h (none, r) := by
  unfold b_17_39 at hb
  refine rn_aload_n (i := 0) rfl rfl ?_
  refine rn_gQ (c := 1) (k := 4) rfl (by decide) hb (fun x1 hb => ?_)
  refine rn_iload_n (i := 2) rfl rfl ?_
  refine rn_dup2 rfl rfl (bd_cat_rf _) ?_
  refine rn_aI rfl hb (fun x2 hb => ?_)
  refine rn_iconst (x := (nI 1)) rfl (by decide) ?_
  refine rn_iload_n (i := 3) rfl rfl ?_
  refine rn_ishl rfl ?_
  refine rn_ior rfl ?_
  refine rn_wI rfl hb (fun h3 hb => ?_)
  refine rn_aload_n (i := 0) rfl rfl ?_
  refine rn_gQ (c := 1) (k := 2) rfl (by decide) hb (fun x4 hb => ?_)
  refine rn_iload_n (i := 2) rfl rfl ?_
  refine rn_dup2 rfl rfl (bd_cat_rf _) ?_
  refine rn_aJ rfl hb (fun x5 hb => ?_)
  refine rn_aload_n (i := 0) rfl rfl ?_
  refine rn_gQ (c := 1) (k := 0) rfl (by decide) hb (fun x6 hb => ?_)
  refine rn_iconst (x := (nI 3)) rfl (by decide) ?_
  refine rn_iload_n (i := 2) rfl rfl ?_
  refine rn_imul rfl ?_
  refine rn_iload_n (i := 3) rfl rfl ?_
  refine rn_iadd rfl ?_
  refine rn_aJ rfl hb (fun x7 hb => ?_)
  refine rn_lor rfl ?_
  refine rn_wJ rfl hb (fun h8 hb => ?_)
  refine rn_aload_n (i := 0) rfl rfl ?_
  refine rn_gQ (c := 1) (k := 3) rfl (by decide) hb (fun x9 hb => ?_)
  refine rn_iload_n (i := 2) rfl rfl ?_
  refine rn_dup2 rfl rfl (bd_cat_rf _) ?_
  refine rn_aJ rfl hb (fun x10 hb => ?_)
  refine rn_aload_n (i := 0) rfl rfl ?_
  refine rn_gQ (c := 1) (k := 1) rfl (by decide) hb (fun x11 hb => ?_)
  refine rn_iconst (x := (nI 3)) rfl (by decide) ?_
  refine rn_iload_n (i := 2) rfl rfl ?_
  refine rn_imul rfl ?_
  refine rn_iload_n (i := 3) rfl rfl ?_
  refine rn_iadd rfl ?_
  refine rn_aJ rfl hb (fun x12 hb => ?_)
  refine rn_lor rfl ?_
  refine rn_wJ rfl hb (fun h13 hb => ?_)
  exact u_17_89 d hd k2 K2 k24 K24 v0 v1 v2 v3  h13 _ hb
def b_17_29 (k2 : Option Nat → Option Nat → Int32 → Hp → Option (Hp)) (k24 : Option Nat → Option Nat → Int32 → Int32 → Hp → Option (Hp)) (v0 : Option Nat) (v1 : Option Nat) (v2 : Int32) (v3 : Int32)  (h : Hp) : Option (Hp) :=
  (grd (rC 1 v0 h)).bind fun _ =>
  (f_18 v0 v1 v2 v3 h).bind fun p1 =>
  if p1.1 = 0 then b_17_89 k2 k24 v0 v1 v2 v3  p1.2 else b_17_39 k2 k24 v0 v1 v2 v3  p1.2
theorem u_17_29 (d : Nat) (hd : 2 ≤ d) (k2 : Option Nat → Option Nat → Int32 → Hp → Option (Hp)) (K2 : ∀ (v0 : Option Nat) (v1 : Option Nat) (v2 : Int32) (v3 : Option (Int32)) (h : Hp) (r : Hp), k2 v0 v1 v2 h = some r → Rn d 17 2 [some (va_rf v0), some (va_rf v1), some (.int v2), v3.map Value.int] [] h (none, r)) (k24 : Option Nat → Option Nat → Int32 → Int32 → Hp → Option (Hp)) (K24 : ∀ (v0 : Option Nat) (v1 : Option Nat) (v2 : Int32) (v3 : Int32) (h : Hp) (r : Hp), k24 v0 v1 v2 v3 h = some r → Rn d 17 24 [some (va_rf v0), some (va_rf v1), some (.int v2), some (.int v3)] [] h (none, r)) (v0 : Option Nat) (v1 : Option Nat) (v2 : Int32) (v3 : Int32)  (h : Hp) (r : Hp) (hb : b_17_29 k2 k24 v0 v1 v2 v3  h = some r) : Rn d 17 29 [some (va_rf v0), some (va_rf v1), some (.int v2), some (.int v3)] [] h (none, r) := by
  unfold b_17_29 at hb
  obtain ⟨e, rfl⟩ : ∃ e, d = e + 1 := ⟨d - 1, by omega⟩
  refine rn_aload_n (i := 0) rfl rfl ?_
  refine rn_aload_n (i := 1) rfl rfl ?_
  refine rn_iload_n (i := 2) rfl rfl ?_
  refine rn_iload_n (i := 3) rfl rfl ?_
  obtain ⟨hrc, hb⟩ := grd_spec hb
  obtain ⟨p1, hc, hb⟩ := Option.bind_eq_some_iff.mp hb
  refine Rn.call1 (d := e) (As := [va_rf v0, va_rf v1, .int v2, .int v3]) (rest := []) rfl rfl rfl (by decide) rfl rfl rfl (bd_rcV hrc rfl) (by decide) (bd_lenC (n := 13) rfl (bd_slR (bd_slR (bd_slI (bd_slI bd_slN)))) rfl) (bd_locC (n := 13) rfl (bd_slR (bd_slR (bd_slI (bd_slI bd_slN)))) rfl (t_18 e (by omega) v0 v1 v2 v3 h _ hc)) ?_
  refine rn_if_eq rfl rfl (fun hc => ?_) (fun hc => ?_)
  · exact u_17_89 (e + 1) hd k2 K2 k24 K24 v0 v1 v2 v3  p1.2 _ (if_t hb hc)
  · exact u_17_39 (e + 1) hd k2 K2 k24 K24 v0 v1 v2 v3  p1.2 _ (if_f hb hc)
def b_17_24 (k2 : Option Nat → Option Nat → Int32 → Hp → Option (Hp)) (k24 : Option Nat → Option Nat → Int32 → Int32 → Hp → Option (Hp)) (v0 : Option Nat) (v1 : Option Nat) (v2 : Int32) (v3 : Int32)  (h : Hp) : Option (Hp) :=
  if (nI 3) ≤ v3 then b_17_95 k2 v0 v1 v2  h else b_17_29 k2 k24 v0 v1 v2 v3  h
theorem u_17_24 (d : Nat) (hd : 2 ≤ d) (k2 : Option Nat → Option Nat → Int32 → Hp → Option (Hp)) (K2 : ∀ (v0 : Option Nat) (v1 : Option Nat) (v2 : Int32) (v3 : Option (Int32)) (h : Hp) (r : Hp), k2 v0 v1 v2 h = some r → Rn d 17 2 [some (va_rf v0), some (va_rf v1), some (.int v2), v3.map Value.int] [] h (none, r)) (k24 : Option Nat → Option Nat → Int32 → Int32 → Hp → Option (Hp)) (K24 : ∀ (v0 : Option Nat) (v1 : Option Nat) (v2 : Int32) (v3 : Int32) (h : Hp) (r : Hp), k24 v0 v1 v2 v3 h = some r → Rn d 17 24 [some (va_rf v0), some (va_rf v1), some (.int v2), some (.int v3)] [] h (none, r)) (v0 : Option Nat) (v1 : Option Nat) (v2 : Int32) (v3 : Int32)  (h : Hp) (r : Hp) (hb : b_17_24 k2 k24 v0 v1 v2 v3  h = some r) : Rn d 17 24 [some (va_rf v0), some (va_rf v1), some (.int v2), some (.int v3)] [] h (none, r) := by
  unfold b_17_24 at hb
  refine rn_iload_n (i := 3) rfl rfl ?_
  refine rn_iconst (x := (nI 3)) rfl (by decide) ?_
  refine rn_icmp_ge rfl rfl (fun hc => ?_) (fun hc => ?_)
  · exact u_17_95 d hd k2 K2 v0 v1 v2 v3  h _ (if_t hb hc)
  · exact u_17_29 d hd k2 K2 k24 K24 v0 v1 v2 v3  h _ (if_f hb hc)
def l_17_24 (k2 : Option Nat → Option Nat → Int32 → Hp → Option (Hp)) : Nat → Option Nat → Option Nat → Int32 → Int32 → Hp → Option (Hp)
  | 0, _, _, _, _, _ => none
  | n + 1, v0, v1, v2, v3, h => b_17_24 k2 (l_17_24 k2 n) v0 v1 v2 v3 h
theorem w_17_24 (d : Nat) (hd : 2 ≤ d) (k2 : Option Nat → Option Nat → Int32 → Hp → Option (Hp)) (K2 : ∀ (v0 : Option Nat) (v1 : Option Nat) (v2 : Int32) (v3 : Option (Int32)) (h : Hp) (r : Hp), k2 v0 v1 v2 h = some r → Rn d 17 2 [some (va_rf v0), some (va_rf v1), some (.int v2), v3.map Value.int] [] h (none, r)) : ∀ (n : Nat) (v0 : Option Nat) (v1 : Option Nat) (v2 : Int32) (v3 : Int32) (h : Hp) (r : Hp), l_17_24 k2 n v0 v1 v2 v3 h = some r → Rn d 17 24 [some (va_rf v0), some (va_rf v1), some (.int v2), some (.int v3)] [] h (none, r) := by
  intro n
  induction n with
  | zero => intro v0 v1 v2 v3 h r hb; cases hb
  | succ n ih => intro v0 v1 v2 v3 h r hb; exact u_17_24 d hd k2 K2 (l_17_24 k2 n) ih v0 v1 v2 v3 h r hb
def b_17_7 (k2 : Option Nat → Option Nat → Int32 → Hp → Option (Hp)) (v0 : Option Nat) (v1 : Option Nat) (v2 : Int32)  (h : Hp) : Option (Hp) :=
  (gQ 1 4 v0 h).bind fun x1 =>
  (wI x1 v2 (nI 1) h).bind fun h2 =>
  (grd (rC 1 v0 h2)).bind fun _ =>
  (f_18 v0 v1 v2 (nI 0) h2).bind fun p3 =>
  bnd ((nI 1)) fun x4 =>
  l_17_24 k2 FU v0 v1 v2 x4 p3.2
theorem u_17_7 (d : Nat) (hd : 2 ≤ d) (k2 : Option Nat → Option Nat → Int32 → Hp → Option (Hp)) (K2 : ∀ (v0 : Option Nat) (v1 : Option Nat) (v2 : Int32) (v3 : Option (Int32)) (h : Hp) (r : Hp), k2 v0 v1 v2 h = some r → Rn d 17 2 [some (va_rf v0), some (va_rf v1), some (.int v2), v3.map Value.int] [] h (none, r)) (v0 : Option Nat) (v1 : Option Nat) (v2 : Int32) (v3 : Option (Int32))  (h : Hp) (r : Hp) (hb : b_17_7 k2 v0 v1 v2  h = some r) : Rn d 17 7 [some (va_rf v0), some (va_rf v1), some (.int v2), v3.map Value.int] [] h (none, r) := by
  unfold b_17_7 at hb
  obtain ⟨e, rfl⟩ : ∃ e, d = e + 1 := ⟨d - 1, by omega⟩
  refine rn_aload_n (i := 0) rfl rfl ?_
  refine rn_gQ (c := 1) (k := 4) rfl (by decide) hb (fun x1 hb => ?_)
  refine rn_iload_n (i := 2) rfl rfl ?_
  refine rn_iconst (x := (nI 1)) rfl (by decide) ?_
  refine rn_wI rfl hb (fun h2 hb => ?_)
  refine rn_aload_n (i := 0) rfl rfl ?_
  refine rn_aload_n (i := 1) rfl rfl ?_
  refine rn_iload_n (i := 2) rfl rfl ?_
  refine rn_iconst (x := (nI 0)) rfl (by decide) ?_
  obtain ⟨hrc, hb⟩ := grd_spec hb
  obtain ⟨p3, hc, hb⟩ := Option.bind_eq_some_iff.mp hb
  refine Rn.call1 (d := e) (As := [va_rf v0, va_rf v1, .int v2, .int (nI 0)]) (rest := []) rfl rfl rfl (by decide) rfl rfl rfl (bd_rcV hrc rfl) (by decide) (bd_lenC (n := 13) rfl (bd_slR (bd_slR (bd_slI (bd_slI bd_slN)))) rfl) (bd_locC (n := 13) rfl (bd_slR (bd_slR (bd_slI (bd_slI bd_slN)))) rfl (t_18 e (by omega) v0 v1 v2 (nI 0) h2 _ hc)) ?_
  refine rn_pop rfl rfl ?_
  refine rn_iconst (x := (nI 1)) rfl (by decide) ?_
  obtain ⟨x4, ex4, hb⟩ := bnd_spec hb
  refine rn_istore_n (i := 3) (L1 := [some (va_rf v0), some (va_rf v1), some (.int v2), some (.int x4)]) rfl (Nat.le_of_ble_eq_true rfl) (Or.inr rfl) (by rw [ex4]; rfl) ?_
  exact w_17_24 (e + 1) hd k2 K2 FU v0 v1 v2 x4 p3.2 _ hb
def b_17_2 (k2 : Option Nat → Option Nat → Int32 → Hp → Option (Hp)) (v0 : Option Nat) (v1 : Option Nat) (v2 : Int32)  (h : Hp) : Option (Hp) :=
  if (nI 4) ≤ v2 then b_17_101   h else b_17_7 k2 v0 v1 v2  h
theorem u_17_2 (d : Nat) (hd : 2 ≤ d) (k2 : Option Nat → Option Nat → Int32 → Hp → Option (Hp)) (K2 : ∀ (v0 : Option Nat) (v1 : Option Nat) (v2 : Int32) (v3 : Option (Int32)) (h : Hp) (r : Hp), k2 v0 v1 v2 h = some r → Rn d 17 2 [some (va_rf v0), some (va_rf v1), some (.int v2), v3.map Value.int] [] h (none, r)) (v0 : Option Nat) (v1 : Option Nat) (v2 : Int32) (v3 : Option (Int32))  (h : Hp) (r : Hp) (hb : b_17_2 k2 v0 v1 v2  h = some r) : Rn d 17 2 [some (va_rf v0), some (va_rf v1), some (.int v2), v3.map Value.int] [] h (none, r) := by
  unfold b_17_2 at hb
  refine rn_iload_n (i := 2) rfl rfl ?_
  refine rn_iconst (x := (nI 4)) rfl (by decide) ?_
  refine rn_icmp_ge rfl rfl (fun hc => ?_) (fun hc => ?_)
  · exact u_17_101 d hd v0 v1 v2 v3  h _ (if_t hb hc)
  · exact u_17_7 d hd k2 K2 v0 v1 v2 v3  h _ (if_f hb hc)
def l_17_2 : Nat → Option Nat → Option Nat → Int32 → Hp → Option (Hp)
  | 0, _, _, _, _ => none
  | n + 1, v0, v1, v2, h => b_17_2 (l_17_2 n) v0 v1 v2 h
theorem w_17_2 (d : Nat) (hd : 2 ≤ d) : ∀ (n : Nat) (v0 : Option Nat) (v1 : Option Nat) (v2 : Int32) (v3 : Option (Int32)) (h : Hp) (r : Hp), l_17_2 n v0 v1 v2 h = some r → Rn d 17 2 [some (va_rf v0), some (va_rf v1), some (.int v2), v3.map Value.int] [] h (none, r) := by
  intro n
  induction n with
  | zero => intro v0 v1 v2 v3 h r hb; cases hb
  | succ n ih => intro v0 v1 v2 v3 h r hb; exact u_17_2 d hd (l_17_2 n) ih v0 v1 v2 v3 h r hb
def b_17_0 (v0 : Option Nat) (v1 : Option Nat)  (h : Hp) : Option (Hp) :=
  bnd ((nI 0)) fun x1 =>
  l_17_2 FU v0 v1 x1 h
theorem u_17_0 (d : Nat) (hd : 2 ≤ d) (v0 : Option Nat) (v1 : Option Nat)  (h : Hp) (r : Hp) (hb : b_17_0 v0 v1  h = some r) : Rn d 17 0 [some (va_rf v0), some (va_rf v1), none, none] [] h (none, r) := by
  unfold b_17_0 at hb
  refine rn_iconst (x := (nI 0)) rfl (by decide) ?_
  obtain ⟨x1, ex1, hb⟩ := bnd_spec hb
  refine rn_istore_n (i := 2) (L1 := [some (va_rf v0), some (va_rf v1), some (.int x1), none]) rfl (Nat.le_of_ble_eq_true rfl) (Or.inr (bd_wideR rfl)) (by rw [ex1]; rfl) ?_
  exact w_17_2 d hd FU v0 v1 x1 (none : Option (Int32)) h _ hb
/-- BitingDoors$Door.traceLeaves(LBitingDoors$House;)V -/
def f_17 (v0 : Option Nat) (v1 : Option Nat) (h : Hp) : Option (Hp) := b_17_0 v0 v1 h
theorem t_17 (d : Nat) (hd : 2 ≤ d) (v0 : Option Nat) (v1 : Option Nat) (h : Hp) (r : Hp) (hb : f_17 v0 v1 h = some r) : Rn d 17 0 [some (va_rf v0), some (va_rf v1), none, none] [] h (none, r) := by
  unfold f_17 at hb
  exact u_17_0 d hd v0 v1 h r hb
def b_21_0 (v0 : Option Nat)  (h : Hp) : Option (Hp) :=
  (grd v0.isSome).bind fun _ =>
  (nA 12 (nI 10) h).bind fun h1 =>
  (pQ 2 0 v0 (some (hN h)) h1).bind fun h2 =>
  (nA 12 (nI 10) h2).bind fun h3 =>
  (pQ 2 1 v0 (some (hN h2)) h3).bind fun h4 =>
  (pI 2 4 v0 (-1 : Int32) h4).bind fun h5 =>
  some h5
theorem u_21_0 (d : Nat) (hd : 0 ≤ d) (v0 : Option Nat)  (h : Hp) (r : Hp) (hb : b_21_0 v0  h = some r) : Rn d 21 0 [some (va_rf v0)] [] h (none, r) := by
  unfold b_21_0 at hb
  refine rn_aload_n (i := 0) rfl rfl ?_
  obtain ⟨hq, hb⟩ := grd_spec hb
  refine rn_oinit rfl hq (by decide) ?_
  refine rn_aload_n (i := 0) rfl rfl ?_
  refine rn_bipush (x := (nI 10)) rfl (by decide) ?_
  refine rn_newarray rfl hb (fun h1 hb => ?_)
  refine rn_pQ (c := 2) (k := 0) rfl (by decide) hb (fun h2 hb => ?_)
  refine rn_aload_n (i := 0) rfl rfl ?_
  refine rn_bipush (x := (nI 10)) rfl (by decide) ?_
  refine rn_newarray rfl hb (fun h3 hb => ?_)
  refine rn_pQ (c := 2) (k := 1) rfl (by decide) hb (fun h4 hb => ?_)
  refine rn_aload_n (i := 0) rfl rfl ?_
  refine rn_iconst (x := (-1 : Int32)) rfl (by decide) ?_
  refine rn_pI (c := 2) (k := 4) rfl (by decide) hb (fun h5 hb => ?_)
  obtain rfl := Option.some.inj hb
  exact rn_vret rfl rfl
/-- BitingDoors$Forcing.<init>()V -/
def f_21 (v0 : Option Nat) (h : Hp) : Option (Hp) := b_21_0 v0 h
theorem t_21 (d : Nat) (hd : 0 ≤ d) (v0 : Option Nat) (h : Hp) (r : Hp) (hb : f_21 v0 h = some r) : Rn d 21 0 [some (va_rf v0)] [] h (none, r) := by
  unfold f_21 at hb
  exact u_21_0 d hd v0 h r hb
def b_24_20 (v1 : Int32)  (h : Hp) : Option (Int32 × Hp) :=
  some (v1, h)
theorem u_24_20 (d : Nat) (hd : 0 ≤ d) (v0 : Int32) (v1 : Int32)  (h : Hp) (r : Int32 × Hp) (hb : b_24_20 v1  h = some r) : Rn d 24 20 [some (.int v0), some (.int v1)] [] h (some (.int r.1), r.2) := by
  unfold b_24_20 at hb
  refine rn_iload_n (i := 1) rfl rfl ?_
  obtain rfl := Option.some.inj hb
  exact rn_iret rfl rfl
def b_24_14 (k2 : Int32 → Int32 → Hp → Option (Int32 × Hp)) (v0 : Int32) (v1 : Int32)  (h : Hp) : Option (Int32 × Hp) :=
  bnd (v1 + (nI 1)) fun x1 =>
  k2 v0 x1 h
theorem u_24_14 (d : Nat) (hd : 0 ≤ d) (k2 : Int32 → Int32 → Hp → Option (Int32 × Hp)) (K2 : ∀ (v0 : Int32) (v1 : Int32) (h : Hp) (r : Int32 × Hp), k2 v0 v1 h = some r → Rn d 24 2 [some (.int v0), some (.int v1)] [] h (some (.int r.1), r.2)) (v0 : Int32) (v1 : Int32)  (h : Hp) (r : Int32 × Hp) (hb : b_24_14 k2 v0 v1  h = some r) : Rn d 24 14 [some (.int v0), some (.int v1)] [] h (some (.int r.1), r.2) := by
  unfold b_24_14 at hb
  obtain ⟨x1, ex1, hb⟩ := bnd_spec hb
  refine rn_iinc (i := 1) (y := x1) (L1 := [some (.int v0), some (.int x1)]) rfl rfl (Nat.le_of_ble_eq_true rfl) (Or.inr rfl) (by rw [ex1]; rfl) rfl ?_
  refine rn_goto rfl rfl ?_
  exact K2 v0 x1 h _ hb
def b_24_7 (k2 : Int32 → Int32 → Hp → Option (Int32 × Hp)) (v0 : Int32) (v1 : Int32)  (h : Hp) : Option (Int32 × Hp) :=
  if (v0 >>> (v1 &&& 31)) = (nI 1) then b_24_20 v1  h else b_24_14 k2 v0 v1  h
theorem u_24_7 (d : Nat) (hd : 0 ≤ d) (k2 : Int32 → Int32 → Hp → Option (Int32 × Hp)) (K2 : ∀ (v0 : Int32) (v1 : Int32) (h : Hp) (r : Int32 × Hp), k2 v0 v1 h = some r → Rn d 24 2 [some (.int v0), some (.int v1)] [] h (some (.int r.1), r.2)) (v0 : Int32) (v1 : Int32)  (h : Hp) (r : Int32 × Hp) (hb : b_24_7 k2 v0 v1  h = some r) : Rn d 24 7 [some (.int v0), some (.int v1)] [] h (some (.int r.1), r.2) := by
  unfold b_24_7 at hb
  refine rn_iload_n (i := 0) rfl rfl ?_
  refine rn_iload_n (i := 1) rfl rfl ?_
  refine rn_ishr rfl ?_
  refine rn_iconst (x := (nI 1)) rfl (by decide) ?_
  refine rn_icmp_eq rfl rfl (fun hc => ?_) (fun hc => ?_)
  · exact u_24_20 d hd v0 v1  h _ (if_t hb hc)
  · exact u_24_14 d hd k2 K2 v0 v1  h _ (if_f hb hc)
def b_24_2 (k2 : Int32 → Int32 → Hp → Option (Int32 × Hp)) (v0 : Int32) (v1 : Int32)  (h : Hp) : Option (Int32 × Hp) :=
  if (nI 3) ≤ v1 then b_24_20 v1  h else b_24_7 k2 v0 v1  h
theorem u_24_2 (d : Nat) (hd : 0 ≤ d) (k2 : Int32 → Int32 → Hp → Option (Int32 × Hp)) (K2 : ∀ (v0 : Int32) (v1 : Int32) (h : Hp) (r : Int32 × Hp), k2 v0 v1 h = some r → Rn d 24 2 [some (.int v0), some (.int v1)] [] h (some (.int r.1), r.2)) (v0 : Int32) (v1 : Int32)  (h : Hp) (r : Int32 × Hp) (hb : b_24_2 k2 v0 v1  h = some r) : Rn d 24 2 [some (.int v0), some (.int v1)] [] h (some (.int r.1), r.2) := by
  unfold b_24_2 at hb
  refine rn_iload_n (i := 1) rfl rfl ?_
  refine rn_iconst (x := (nI 3)) rfl (by decide) ?_
  refine rn_icmp_ge rfl rfl (fun hc => ?_) (fun hc => ?_)
  · exact u_24_20 d hd v0 v1  h _ (if_t hb hc)
  · exact u_24_7 d hd k2 K2 v0 v1  h _ (if_f hb hc)
def l_24_2 : Nat → Int32 → Int32 → Hp → Option (Int32 × Hp)
  | 0, _, _, _ => none
  | n + 1, v0, v1, h => b_24_2 (l_24_2 n) v0 v1 h
theorem w_24_2 (d : Nat) (hd : 0 ≤ d) : ∀ (n : Nat) (v0 : Int32) (v1 : Int32) (h : Hp) (r : Int32 × Hp), l_24_2 n v0 v1 h = some r → Rn d 24 2 [some (.int v0), some (.int v1)] [] h (some (.int r.1), r.2) := by
  intro n
  induction n with
  | zero => intro v0 v1 h r hb; cases hb
  | succ n ih => intro v0 v1 h r hb; exact u_24_2 d hd (l_24_2 n) ih v0 v1 h r hb
def b_24_0 (v0 : Int32)  (h : Hp) : Option (Int32 × Hp) :=
  bnd ((nI 0)) fun x1 =>
  l_24_2 FU v0 x1 h
theorem u_24_0 (d : Nat) (hd : 0 ≤ d) (v0 : Int32)  (h : Hp) (r : Int32 × Hp) (hb : b_24_0 v0  h = some r) : Rn d 24 0 [some (.int v0), none] [] h (some (.int r.1), r.2) := by
  unfold b_24_0 at hb
  refine rn_iconst (x := (nI 0)) rfl (by decide) ?_
  obtain ⟨x1, ex1, hb⟩ := bnd_spec hb
  refine rn_istore_n (i := 1) (L1 := [some (.int v0), some (.int x1)]) rfl (Nat.le_of_ble_eq_true rfl) (Or.inr rfl) (by rw [ex1]; rfl) ?_
  exact w_24_2 d hd FU v0 x1 h _ hb
/-- BitingDoors$Forcing.onlyOneOf(I)I -/
def f_24 (v0 : Int32) (h : Hp) : Option (Int32 × Hp) := b_24_0 v0 h
theorem t_24 (d : Nat) (hd : 0 ≤ d) (v0 : Int32) (h : Hp) (r : Int32 × Hp) (hb : f_24 v0 h = some r) : Rn d 24 0 [some (.int v0), none] [] h (some (.int r.1), r.2) := by
  unfold f_24 at hb
  exact u_24_0 d hd v0 h r hb
def b_30_0 (v0 : Int64) (v2 : Int32)  (h : Hp) : Option (Int32 × Hp) :=
  some (((((v0.toUInt64 >>> (((nI 4) * v2).toInt64.toUInt64 &&& Int64.toUInt64 63)).toInt64).toInt32) &&& (nI 15)), h)
theorem u_30_0 (d : Nat) (hd : 0 ≤ d) (v0 : Int64) (v2 : Int32)  (h : Hp) (r : Int32 × Hp) (hb : b_30_0 v0 v2  h = some r) : Rn d 30 0 [some (.long v0), none, some (.int v2)] [] h (some (.int r.1), r.2) := by
  unfold b_30_0 at hb
  refine rn_lload_n (i := 0) rfl rfl ?_
  refine rn_iconst (x := (nI 4)) rfl (by decide) ?_
  refine rn_iload_n (i := 2) rfl rfl ?_
  refine rn_imul rfl ?_
  refine rn_lushr rfl ?_
  refine rn_l2i rfl ?_
  refine rn_bipush (x := (nI 15)) rfl (by decide) ?_
  refine rn_iand rfl ?_
  obtain rfl := Option.some.inj hb
  exact rn_iret rfl rfl
/-- BitingDoors$Hanger.hangingsLeft(JI)I -/
def f_30 (v0 : Int64) (v2 : Int32) (h : Hp) : Option (Int32 × Hp) := b_30_0 v0 v2 h
theorem t_30 (d : Nat) (hd : 0 ≤ d) (v0 : Int64) (v2 : Int32) (h : Hp) (r : Int32 × Hp) (hb : f_30 v0 v2 h = some r) : Rn d 30 0 [some (.long v0), none, some (.int v2)] [] h (some (.int r.1), r.2) := by
  unfold f_30 at hb
  exact u_30_0 d hd v0 v2 h r hb
def b_302_0 (v0 : Int32)  (h : Hp) : Option (Int32 × Hp) :=
  bnd ((v0 - (((v0.toUInt32 >>> ((nI 1).toUInt32 &&& Int32.toUInt32 31)).toInt32) &&& (nI 1431655765)))) fun x1 =>
  bnd (((x1 &&& (nI 858993459)) + (((x1.toUInt32 >>> ((nI 2).toUInt32 &&& Int32.toUInt32 31)).toInt32) &&& (nI 858993459)))) fun x2 =>
  bnd (((x2 + ((x2.toUInt32 >>> ((nI 4).toUInt32 &&& Int32.toUInt32 31)).toInt32)) &&& (nI 252645135))) fun x3 =>
  bnd ((x3 + ((x3.toUInt32 >>> ((nI 8).toUInt32 &&& Int32.toUInt32 31)).toInt32))) fun x4 =>
  bnd ((x4 + ((x4.toUInt32 >>> ((nI 16).toUInt32 &&& Int32.toUInt32 31)).toInt32))) fun x5 =>
  some ((x5 &&& (nI 63)), h)
theorem u_302_0 (d : Nat) (hd : 0 ≤ d) (v0 : Int32)  (h : Hp) (r : Int32 × Hp) (hb : b_302_0 v0  h = some r) : Rn d 302 0 [some (.int v0)] [] h (some (.int r.1), r.2) := by
  unfold b_302_0 at hb
  refine rn_iload_n (i := 0) rfl rfl ?_
  refine rn_iload_n (i := 0) rfl rfl ?_
  refine rn_iconst (x := (nI 1)) rfl (by decide) ?_
  refine rn_iushr rfl ?_
  refine rn_ldc_w (x := (nI 1431655765)) rfl (by decide) ?_
  refine rn_iand rfl ?_
  refine rn_isub rfl ?_
  obtain ⟨x1, ex1, hb⟩ := bnd_spec hb
  refine rn_istore_n (i := 0) (L1 := [some (.int x1)]) rfl (Nat.le_of_ble_eq_true rfl) (Or.inl rfl) (by rw [ex1]; rfl) ?_
  refine rn_iload_n (i := 0) rfl rfl ?_
  refine rn_ldc_w (x := (nI 858993459)) rfl (by decide) ?_
  refine rn_iand rfl ?_
  refine rn_iload_n (i := 0) rfl rfl ?_
  refine rn_iconst (x := (nI 2)) rfl (by decide) ?_
  refine rn_iushr rfl ?_
  refine rn_ldc_w (x := (nI 858993459)) rfl (by decide) ?_
  refine rn_iand rfl ?_
  refine rn_iadd rfl ?_
  obtain ⟨x2, ex2, hb⟩ := bnd_spec hb
  refine rn_istore_n (i := 0) (L1 := [some (.int x2)]) rfl (Nat.le_of_ble_eq_true rfl) (Or.inl rfl) (by rw [ex2]; rfl) ?_
  refine rn_iload_n (i := 0) rfl rfl ?_
  refine rn_iload_n (i := 0) rfl rfl ?_
  refine rn_iconst (x := (nI 4)) rfl (by decide) ?_
  refine rn_iushr rfl ?_
  refine rn_iadd rfl ?_
  refine rn_ldc_w (x := (nI 252645135)) rfl (by decide) ?_
  refine rn_iand rfl ?_
  obtain ⟨x3, ex3, hb⟩ := bnd_spec hb
  refine rn_istore_n (i := 0) (L1 := [some (.int x3)]) rfl (Nat.le_of_ble_eq_true rfl) (Or.inl rfl) (by rw [ex3]; rfl) ?_
  refine rn_iload_n (i := 0) rfl rfl ?_
  refine rn_iload_n (i := 0) rfl rfl ?_
  refine rn_bipush (x := (nI 8)) rfl (by decide) ?_
  refine rn_iushr rfl ?_
  refine rn_iadd rfl ?_
  obtain ⟨x4, ex4, hb⟩ := bnd_spec hb
  refine rn_istore_n (i := 0) (L1 := [some (.int x4)]) rfl (Nat.le_of_ble_eq_true rfl) (Or.inl rfl) (by rw [ex4]; rfl) ?_
  refine rn_iload_n (i := 0) rfl rfl ?_
  refine rn_iload_n (i := 0) rfl rfl ?_
  refine rn_bipush (x := (nI 16)) rfl (by decide) ?_
  refine rn_iushr rfl ?_
  refine rn_iadd rfl ?_
  obtain ⟨x5, ex5, hb⟩ := bnd_spec hb
  refine rn_istore_n (i := 0) (L1 := [some (.int x5)]) rfl (Nat.le_of_ble_eq_true rfl) (Or.inl rfl) (by rw [ex5]; rfl) ?_
  refine rn_iload_n (i := 0) rfl rfl ?_
  refine rn_bipush (x := (nI 63)) rfl (by decide) ?_
  refine rn_iand rfl ?_
  obtain rfl := Option.some.inj hb
  exact rn_iret rfl rfl
/-- java/lang/Integer.bitCount(I)I -/
def f_302 (v0 : Int32) (h : Hp) : Option (Int32 × Hp) := b_302_0 v0 h
theorem t_302 (d : Nat) (hd : 0 ≤ d) (v0 : Int32) (h : Hp) (r : Int32 × Hp) (hb : f_302 v0 h = some r) : Rn d 302 0 [some (.int v0)] [] h (some (.int r.1), r.2) := by
  unfold f_302 at hb
  exact u_302_0 d hd v0 h r hb
def b_23_63   (h : Hp) : Option (Int32 × Hp) :=
  some ((-1 : Int32), h)
theorem u_23_63 (d : Nat) (hd : 1 ≤ d) (v0 : Option Nat) (v1 : Int32) (v2 : Int64) (v4 : Int32) (v5 : Int32) (v6 : Int32) (v7 : Option (Int32))  (h : Hp) (r : Int32 × Hp) (hb : b_23_63   h = some r) : Rn d 23 63 [some (va_rf v0), some (.int v1), some (.long v2), none, some (.int v4), some (.int v5), some (.int v6), v7.map Value.int] [] h (some (.int r.1), r.2) := by
  unfold b_23_63 at hb
  refine rn_iconst (x := (-1 : Int32)) rfl (by decide) ?_
  obtain rfl := Option.some.inj hb
  exact rn_iret rfl rfl
def b_23_57 (k3 : Option Nat → Int32 → Int64 → Int32 → Int32 → Int32 → Hp → Option (Int32 × Hp)) (v0 : Option Nat) (v1 : Int32) (v2 : Int64) (v4 : Int32) (v5 : Int32) (v6 : Int32)  (h : Hp) : Option (Int32 × Hp) :=
  bnd (v6 + (nI 1)) fun x1 =>
  k3 v0 v1 v2 v4 v5 x1 h
theorem u_23_57 (d : Nat) (hd : 1 ≤ d) (k3 : Option Nat → Int32 → Int64 → Int32 → Int32 → Int32 → Hp → Option (Int32 × Hp)) (K3 : ∀ (v0 : Option Nat) (v1 : Int32) (v2 : Int64) (v4 : Int32) (v5 : Int32) (v6 : Int32) (v7 : Option (Int32)) (h : Hp) (r : Int32 × Hp), k3 v0 v1 v2 v4 v5 v6 h = some r → Rn d 23 3 [some (va_rf v0), some (.int v1), some (.long v2), none, some (.int v4), some (.int v5), some (.int v6), v7.map Value.int] [] h (some (.int r.1), r.2)) (v0 : Option Nat) (v1 : Int32) (v2 : Int64) (v4 : Int32) (v5 : Int32) (v6 : Int32) (v7 : Int32)  (h : Hp) (r : Int32 × Hp) (hb : b_23_57 k3 v0 v1 v2 v4 v5 v6  h = some r) : Rn d 23 57 [some (va_rf v0), some (.int v1), some (.long v2), none, some (.int v4), some (.int v5), some (.int v6), some (.int v7)] [] h (some (.int r.1), r.2) := by
  unfold b_23_57 at hb
  obtain ⟨x1, ex1, hb⟩ := bnd_spec hb
  refine rn_iinc (i := 6) (y := x1) (L1 := [some (va_rf v0), some (.int v1), some (.long v2), none, some (.int v4), some (.int v5), some (.int x1), some (.int v7)]) rfl rfl (Nat.le_of_ble_eq_true rfl) (Or.inr rfl) (by rw [ex1]; rfl) rfl ?_
  refine rn_goto rfl rfl ?_
  exact K3 v0 v1 v2 v4 v5 x1 (some v7) h _ hb
def b_23_54 (v6 : Int32)  (h : Hp) : Option (Int32 × Hp) :=
  some (v6, h)
theorem u_23_54 (d : Nat) (hd : 1 ≤ d) (v0 : Option Nat) (v1 : Int32) (v2 : Int64) (v4 : Int32) (v5 : Int32) (v6 : Int32) (v7 : Int32)  (h : Hp) (r : Int32 × Hp) (hb : b_23_54 v6  h = some r) : Rn d 23 54 [some (va_rf v0), some (.int v1), some (.long v2), none, some (.int v4), some (.int v5), some (.int v6), some (.int v7)] [] h (some (.int r.1), r.2) := by
  unfold b_23_54 at hb
  refine rn_iload (i := 6) rfl rfl ?_
  obtain rfl := Option.some.inj hb
  exact rn_iret rfl rfl
def b_23_41 (k3 : Option Nat → Int32 → Int64 → Int32 → Int32 → Int32 → Hp → Option (Int32 × Hp)) (v0 : Option Nat) (v1 : Int32) (v2 : Int64) (v4 : Int32) (v5 : Int32) (v6 : Int32)  (h : Hp) : Option (Int32 × Hp) :=
  (f_30 v2 v6 h).bind fun p1 =>
  (f_302 p1.1 p1.2).bind fun p2 =>
  if ¬ p2.1 = v1 then b_23_57 k3 v0 v1 v2 v4 v5 v6  p2.2 else b_23_54 v6  p2.2
theorem u_23_41 (d : Nat) (hd : 1 ≤ d) (k3 : Option Nat → Int32 → Int64 → Int32 → Int32 → Int32 → Hp → Option (Int32 × Hp)) (K3 : ∀ (v0 : Option Nat) (v1 : Int32) (v2 : Int64) (v4 : Int32) (v5 : Int32) (v6 : Int32) (v7 : Option (Int32)) (h : Hp) (r : Int32 × Hp), k3 v0 v1 v2 v4 v5 v6 h = some r → Rn d 23 3 [some (va_rf v0), some (.int v1), some (.long v2), none, some (.int v4), some (.int v5), some (.int v6), v7.map Value.int] [] h (some (.int r.1), r.2)) (v0 : Option Nat) (v1 : Int32) (v2 : Int64) (v4 : Int32) (v5 : Int32) (v6 : Int32) (v7 : Int32)  (h : Hp) (r : Int32 × Hp) (hb : b_23_41 k3 v0 v1 v2 v4 v5 v6  h = some r) : Rn d 23 41 [some (va_rf v0), some (.int v1), some (.long v2), none, some (.int v4), some (.int v5), some (.int v6), some (.int v7)] [] h (some (.int r.1), r.2) := by
  unfold b_23_41 at hb
  obtain ⟨e, rfl⟩ : ∃ e, d = e + 1 := ⟨d - 1, by omega⟩
  refine rn_lload_n (i := 2) rfl rfl ?_
  refine rn_iload (i := 6) rfl rfl ?_
  obtain ⟨p1, hc, hb⟩ := Option.bind_eq_some_iff.mp hb
  refine Rn.call1 (d := e) (As := [.long v2, .int v6]) (rest := []) rfl rfl rfl (by decide) rfl rfl rfl rfl (by decide) (bd_lenC (n := 3) rfl (bd_slJ (bd_slI bd_slN)) rfl) (bd_locC (n := 3) rfl (bd_slJ (bd_slI bd_slN)) rfl (t_30 e (by omega) v2 v6 h _ hc)) ?_
  obtain ⟨p2, hc, hb⟩ := Option.bind_eq_some_iff.mp hb
  refine Rn.call1 (d := e) (As := [.int p1.1]) (rest := []) rfl rfl rfl (by decide) rfl rfl rfl rfl (by decide) (bd_lenC (n := 1) rfl (bd_slI bd_slN) rfl) (bd_locC (n := 1) rfl (bd_slI bd_slN) rfl (t_302 e (by omega) p1.1 p1.2 _ hc)) ?_
  refine rn_iload_n (i := 1) rfl rfl ?_
  refine rn_icmp_ne rfl rfl (fun hc => ?_) (fun hc => ?_)
  · exact u_23_57 (e + 1) hd k3 K3 v0 v1 v2 v4 v5 v6 v7  p2.2 _ (if_t hb hc)
  · exact u_23_54 (e + 1) hd v0 v1 v2 v4 v5 v6 v7  p2.2 _ (if_f hb hc)
def b_23_34 (k3 : Option Nat → Int32 → Int64 → Int32 → Int32 → Int32 → Hp → Option (Int32 × Hp)) (v0 : Option Nat) (v1 : Int32) (v2 : Int64) (v4 : Int32) (v5 : Int32) (v6 : Int32) (s0 : Int32) (h : Hp) : Option (Int32 × Hp) :=
  if s0 = 0 then b_23_57 k3 v0 v1 v2 v4 v5 v6  h else b_23_41 k3 v0 v1 v2 v4 v5 v6  h
theorem u_23_34 (d : Nat) (hd : 1 ≤ d) (k3 : Option Nat → Int32 → Int64 → Int32 → Int32 → Int32 → Hp → Option (Int32 × Hp)) (K3 : ∀ (v0 : Option Nat) (v1 : Int32) (v2 : Int64) (v4 : Int32) (v5 : Int32) (v6 : Int32) (v7 : Option (Int32)) (h : Hp) (r : Int32 × Hp), k3 v0 v1 v2 v4 v5 v6 h = some r → Rn d 23 3 [some (va_rf v0), some (.int v1), some (.long v2), none, some (.int v4), some (.int v5), some (.int v6), v7.map Value.int] [] h (some (.int r.1), r.2)) (v0 : Option Nat) (v1 : Int32) (v2 : Int64) (v4 : Int32) (v5 : Int32) (v6 : Int32) (v7 : Option (Int32)) (s0 : Int32) (h : Hp) (r : Int32 × Hp) (hb : b_23_34 k3 v0 v1 v2 v4 v5 v6 s0 h = some r) : Rn d 23 34 [some (va_rf v0), some (.int v1), some (.long v2), none, some (.int v4), some (.int v5), some (.int v6), v7.map Value.int] [.int s0] h (some (.int r.1), r.2) := by
  unfold b_23_34 at hb
  refine rn_istore (i := 7) (L1 := [some (va_rf v0), some (.int v1), some (.long v2), none, some (.int v4), some (.int v5), some (.int v6), some (.int s0)]) rfl (Nat.le_of_ble_eq_true rfl) (Or.inr rfl) rfl ?_
  refine rn_iload (i := 7) rfl rfl ?_
  refine rn_if_eq rfl rfl (fun hc => ?_) (fun hc => ?_)
  · exact u_23_57 d hd k3 K3 v0 v1 v2 v4 v5 v6 s0  h _ (if_t hb hc)
  · exact u_23_41 d hd k3 K3 v0 v1 v2 v4 v5 v6 s0  h _ (if_f hb hc)
def b_23_33 (k3 : Option Nat → Int32 → Int64 → Int32 → Int32 → Int32 → Hp → Option (Int32 × Hp)) (v0 : Option Nat) (v1 : Int32) (v2 : Int64) (v4 : Int32) (v5 : Int32) (v6 : Int32)  (h : Hp) : Option (Int32 × Hp) :=
  b_23_34 k3 v0 v1 v2 v4 v5 v6 (nI 0) h
theorem u_23_33 (d : Nat) (hd : 1 ≤ d) (k3 : Option Nat → Int32 → Int64 → Int32 → Int32 → Int32 → Hp → Option (Int32 × Hp)) (K3 : ∀ (v0 : Option Nat) (v1 : Int32) (v2 : Int64) (v4 : Int32) (v5 : Int32) (v6 : Int32) (v7 : Option (Int32)) (h : Hp) (r : Int32 × Hp), k3 v0 v1 v2 v4 v5 v6 h = some r → Rn d 23 3 [some (va_rf v0), some (.int v1), some (.long v2), none, some (.int v4), some (.int v5), some (.int v6), v7.map Value.int] [] h (some (.int r.1), r.2)) (v0 : Option Nat) (v1 : Int32) (v2 : Int64) (v4 : Int32) (v5 : Int32) (v6 : Int32) (v7 : Option (Int32))  (h : Hp) (r : Int32 × Hp) (hb : b_23_33 k3 v0 v1 v2 v4 v5 v6  h = some r) : Rn d 23 33 [some (va_rf v0), some (.int v1), some (.long v2), none, some (.int v4), some (.int v5), some (.int v6), v7.map Value.int] [] h (some (.int r.1), r.2) := by
  unfold b_23_33 at hb
  refine rn_iconst (x := (nI 0)) rfl (by decide) ?_
  exact u_23_34 d hd k3 K3 v0 v1 v2 v4 v5 v6 v7 (nI 0) h _ hb
def b_23_29 (k3 : Option Nat → Int32 → Int64 → Int32 → Int32 → Int32 → Hp → Option (Int32 × Hp)) (v0 : Option Nat) (v1 : Int32) (v2 : Int64) (v4 : Int32) (v5 : Int32) (v6 : Int32)  (h : Hp) : Option (Int32 × Hp) :=
  b_23_34 k3 v0 v1 v2 v4 v5 v6 (nI 1) h
theorem u_23_29 (d : Nat) (hd : 1 ≤ d) (k3 : Option Nat → Int32 → Int64 → Int32 → Int32 → Int32 → Hp → Option (Int32 × Hp)) (K3 : ∀ (v0 : Option Nat) (v1 : Int32) (v2 : Int64) (v4 : Int32) (v5 : Int32) (v6 : Int32) (v7 : Option (Int32)) (h : Hp) (r : Int32 × Hp), k3 v0 v1 v2 v4 v5 v6 h = some r → Rn d 23 3 [some (va_rf v0), some (.int v1), some (.long v2), none, some (.int v4), some (.int v5), some (.int v6), v7.map Value.int] [] h (some (.int r.1), r.2)) (v0 : Option Nat) (v1 : Int32) (v2 : Int64) (v4 : Int32) (v5 : Int32) (v6 : Int32) (v7 : Option (Int32))  (h : Hp) (r : Int32 × Hp) (hb : b_23_29 k3 v0 v1 v2 v4 v5 v6  h = some r) : Rn d 23 29 [some (va_rf v0), some (.int v1), some (.long v2), none, some (.int v4), some (.int v5), some (.int v6), v7.map Value.int] [] h (some (.int r.1), r.2) := by
  unfold b_23_29 at hb
  refine rn_iconst (x := (nI 1)) rfl (by decide) ?_
  refine rn_goto rfl rfl ?_
  exact u_23_34 d hd k3 K3 v0 v1 v2 v4 v5 v6 v7 (nI 1) h _ hb
def b_23_17 (k3 : Option Nat → Int32 → Int64 → Int32 → Int32 → Int32 → Hp → Option (Int32 × Hp)) (v0 : Option Nat) (v1 : Int32) (v2 : Int64) (v4 : Int32) (v5 : Int32) (v6 : Int32)  (h : Hp) : Option (Int32 × Hp) :=
  (gI 2 3 v0 h).bind fun x1 =>
  if ¬ ((x1 >>> (v6 &&& 31)) &&& (nI 1)) = 0 then b_23_33 k3 v0 v1 v2 v4 v5 v6  h else b_23_29 k3 v0 v1 v2 v4 v5 v6  h
theorem u_23_17 (d : Nat) (hd : 1 ≤ d) (k3 : Option Nat → Int32 → Int64 → Int32 → Int32 → Int32 → Hp → Option (Int32 × Hp)) (K3 : ∀ (v0 : Option Nat) (v1 : Int32) (v2 : Int64) (v4 : Int32) (v5 : Int32) (v6 : Int32) (v7 : Option (Int32)) (h : Hp) (r : Int32 × Hp), k3 v0 v1 v2 v4 v5 v6 h = some r → Rn d 23 3 [some (va_rf v0), some (.int v1), some (.long v2), none, some (.int v4), some (.int v5), some (.int v6), v7.map Value.int] [] h (some (.int r.1), r.2)) (v0 : Option Nat) (v1 : Int32) (v2 : Int64) (v4 : Int32) (v5 : Int32) (v6 : Int32) (v7 : Option (Int32))  (h : Hp) (r : Int32 × Hp) (hb : b_23_17 k3 v0 v1 v2 v4 v5 v6  h = some r) : Rn d 23 17 [some (va_rf v0), some (.int v1), some (.long v2), none, some (.int v4), some (.int v5), some (.int v6), v7.map Value.int] [] h (some (.int r.1), r.2) := by
  unfold b_23_17 at hb
  refine rn_aload_n (i := 0) rfl rfl ?_
  refine rn_gI (c := 2) (k := 3) rfl (by decide) hb (fun x1 hb => ?_)
  refine rn_iload (i := 6) rfl rfl ?_
  refine rn_ishr rfl ?_
  refine rn_iconst (x := (nI 1)) rfl (by decide) ?_
  refine rn_iand rfl ?_
  refine rn_if_ne rfl rfl (fun hc => ?_) (fun hc => ?_)
  · exact u_23_33 d hd k3 K3 v0 v1 v2 v4 v5 v6 v7  h _ (if_t hb hc)
  · exact u_23_29 d hd k3 K3 v0 v1 v2 v4 v5 v6 v7  h _ (if_f hb hc)
def b_23_10 (k3 : Option Nat → Int32 → Int64 → Int32 → Int32 → Int32 → Hp → Option (Int32 × Hp)) (v0 : Option Nat) (v1 : Int32) (v2 : Int64) (v4 : Int32) (v5 : Int32) (v6 : Int32)  (h : Hp) : Option (Int32 × Hp) :=
  if v6 = v4 then b_23_33 k3 v0 v1 v2 v4 v5 v6  h else b_23_17 k3 v0 v1 v2 v4 v5 v6  h
theorem u_23_10 (d : Nat) (hd : 1 ≤ d) (k3 : Option Nat → Int32 → Int64 → Int32 → Int32 → Int32 → Hp → Option (Int32 × Hp)) (K3 : ∀ (v0 : Option Nat) (v1 : Int32) (v2 : Int64) (v4 : Int32) (v5 : Int32) (v6 : Int32) (v7 : Option (Int32)) (h : Hp) (r : Int32 × Hp), k3 v0 v1 v2 v4 v5 v6 h = some r → Rn d 23 3 [some (va_rf v0), some (.int v1), some (.long v2), none, some (.int v4), some (.int v5), some (.int v6), v7.map Value.int] [] h (some (.int r.1), r.2)) (v0 : Option Nat) (v1 : Int32) (v2 : Int64) (v4 : Int32) (v5 : Int32) (v6 : Int32) (v7 : Option (Int32))  (h : Hp) (r : Int32 × Hp) (hb : b_23_10 k3 v0 v1 v2 v4 v5 v6  h = some r) : Rn d 23 10 [some (va_rf v0), some (.int v1), some (.long v2), none, some (.int v4), some (.int v5), some (.int v6), v7.map Value.int] [] h (some (.int r.1), r.2) := by
  unfold b_23_10 at hb
  refine rn_iload (i := 6) rfl rfl ?_
  refine rn_iload (i := 4) rfl rfl ?_
  refine rn_icmp_eq rfl rfl (fun hc => ?_) (fun hc => ?_)
  · exact u_23_33 d hd k3 K3 v0 v1 v2 v4 v5 v6 v7  h _ (if_t hb hc)
  · exact u_23_17 d hd k3 K3 v0 v1 v2 v4 v5 v6 v7  h _ (if_f hb hc)
def b_23_3 (k3 : Option Nat → Int32 → Int64 → Int32 → Int32 → Int32 → Hp → Option (Int32 × Hp)) (v0 : Option Nat) (v1 : Int32) (v2 : Int64) (v4 : Int32) (v5 : Int32) (v6 : Int32)  (h : Hp) : Option (Int32 × Hp) :=
  if v5 ≤ v6 then b_23_63   h else b_23_10 k3 v0 v1 v2 v4 v5 v6  h
theorem u_23_3 (d : Nat) (hd : 1 ≤ d) (k3 : Option Nat → Int32 → Int64 → Int32 → Int32 → Int32 → Hp → Option (Int32 × Hp)) (K3 : ∀ (v0 : Option Nat) (v1 : Int32) (v2 : Int64) (v4 : Int32) (v5 : Int32) (v6 : Int32) (v7 : Option (Int32)) (h : Hp) (r : Int32 × Hp), k3 v0 v1 v2 v4 v5 v6 h = some r → Rn d 23 3 [some (va_rf v0), some (.int v1), some (.long v2), none, some (.int v4), some (.int v5), some (.int v6), v7.map Value.int] [] h (some (.int r.1), r.2)) (v0 : Option Nat) (v1 : Int32) (v2 : Int64) (v4 : Int32) (v5 : Int32) (v6 : Int32) (v7 : Option (Int32))  (h : Hp) (r : Int32 × Hp) (hb : b_23_3 k3 v0 v1 v2 v4 v5 v6  h = some r) : Rn d 23 3 [some (va_rf v0), some (.int v1), some (.long v2), none, some (.int v4), some (.int v5), some (.int v6), v7.map Value.int] [] h (some (.int r.1), r.2) := by
  unfold b_23_3 at hb
  refine rn_iload (i := 6) rfl rfl ?_
  refine rn_iload (i := 5) rfl rfl ?_
  refine rn_icmp_ge rfl rfl (fun hc => ?_) (fun hc => ?_)
  · exact u_23_63 d hd v0 v1 v2 v4 v5 v6 v7  h _ (if_t hb hc)
  · exact u_23_10 d hd k3 K3 v0 v1 v2 v4 v5 v6 v7  h _ (if_f hb hc)
def l_23_3 : Nat → Option Nat → Int32 → Int64 → Int32 → Int32 → Int32 → Hp → Option (Int32 × Hp)
  | 0, _, _, _, _, _, _, _ => none
  | n + 1, v0, v1, v2, v4, v5, v6, h => b_23_3 (l_23_3 n) v0 v1 v2 v4 v5 v6 h
theorem w_23_3 (d : Nat) (hd : 1 ≤ d) : ∀ (n : Nat) (v0 : Option Nat) (v1 : Int32) (v2 : Int64) (v4 : Int32) (v5 : Int32) (v6 : Int32) (v7 : Option (Int32)) (h : Hp) (r : Int32 × Hp), l_23_3 n v0 v1 v2 v4 v5 v6 h = some r → Rn d 23 3 [some (va_rf v0), some (.int v1), some (.long v2), none, some (.int v4), some (.int v5), some (.int v6), v7.map Value.int] [] h (some (.int r.1), r.2) := by
  intro n
  induction n with
  | zero => intro v0 v1 v2 v4 v5 v6 v7 h r hb; cases hb
  | succ n ih => intro v0 v1 v2 v4 v5 v6 v7 h r hb; exact u_23_3 d hd (l_23_3 n) ih v0 v1 v2 v4 v5 v6 v7 h r hb
def b_23_0 (v0 : Option Nat) (v1 : Int32) (v2 : Int64) (v4 : Int32) (v5 : Int32)  (h : Hp) : Option (Int32 × Hp) :=
  bnd ((nI 0)) fun x1 =>
  l_23_3 FU v0 v1 v2 v4 v5 x1 h
theorem u_23_0 (d : Nat) (hd : 1 ≤ d) (v0 : Option Nat) (v1 : Int32) (v2 : Int64) (v4 : Int32) (v5 : Int32)  (h : Hp) (r : Int32 × Hp) (hb : b_23_0 v0 v1 v2 v4 v5  h = some r) : Rn d 23 0 [some (va_rf v0), some (.int v1), some (.long v2), none, some (.int v4), some (.int v5), none, none] [] h (some (.int r.1), r.2) := by
  unfold b_23_0 at hb
  refine rn_iconst (x := (nI 0)) rfl (by decide) ?_
  obtain ⟨x1, ex1, hb⟩ := bnd_spec hb
  refine rn_istore (i := 6) (L1 := [some (va_rf v0), some (.int v1), some (.long v2), none, some (.int v4), some (.int v5), some (.int x1), none]) rfl (Nat.le_of_ble_eq_true rfl) (Or.inr rfl) (by rw [ex1]; rfl) ?_
  exact w_23_3 d hd FU v0 v1 v2 v4 v5 x1 (none : Option (Int32)) h _ hb
/-- BitingDoors$Forcing.firstWith(IJII)I -/
def f_23 (v0 : Option Nat) (v1 : Int32) (v2 : Int64) (v4 : Int32) (v5 : Int32) (h : Hp) : Option (Int32 × Hp) := b_23_0 v0 v1 v2 v4 v5 h
theorem t_23 (d : Nat) (hd : 1 ≤ d) (v0 : Option Nat) (v1 : Int32) (v2 : Int64) (v4 : Int32) (v5 : Int32) (h : Hp) (r : Int32 × Hp) (hb : f_23 v0 v1 v2 v4 v5 h = some r) : Rn d 23 0 [some (va_rf v0), some (.int v1), some (.long v2), none, some (.int v4), some (.int v5), none, none] [] h (some (.int r.1), r.2) := by
  unfold f_23 at hb
  exact u_23_0 d hd v0 v1 v2 v4 v5 h r hb
def b_22_187   (h : Hp) : Option (Hp) :=
  some h
theorem u_22_187 (d : Nat) (hd : 2 ≤ d) (v0 : Option Nat) (v1 : Option Nat) (v2 : Int32) (v3 : Int32) (v4 : Int32) (v5 : Int64) (v7 : Int32)  (h : Hp) (r : Hp) (hb : b_22_187   h = some r) : Rn d 22 187 [some (va_rf v0), some (va_rf v1), some (.int v2), some (.int v3), some (.int v4), some (.long v5), none, some (.int v7)] [] h (none, r) := by
  unfold b_22_187 at hb
  obtain rfl := Option.some.inj hb
  exact rn_vret rfl rfl
def b_22_85 (k62 : Option Nat → Option Nat → Int32 → Int32 → Int64 → Int32 → Hp → Option (Hp)) (v0 : Option Nat) (v1 : Option Nat) (v2 : Int32) (v4 : Int32) (v5 : Int64) (v7 : Int32)  (h : Hp) : Option (Hp) :=
  (gQ 2 1 v0 h).bind fun x1 =>
  (f_30 v5 v7 h).bind fun p2 =>
  (f_24 p2.1 p2.2).bind fun p3 =>
  (wI x1 v7 p3.1 p3.2).bind fun h4 =>
  (gQ 2 0 v0 h4).bind fun x5 =>
  (gI 2 2 v0 h4).bind fun x6 =>
  (wI x5 x6 v7 h4).bind fun h7 =>
  (gI 2 2 v0 h7).bind fun x8 =>
  (pI 2 2 v0 (x8 + (nI 1)) h7).bind fun h9 =>
  (gI 2 3 v0 h9).bind fun x10 =>
  (pI 2 3 v0 (x10 ||| ((nI 1) <<< (v7 &&& 31))) h9).bind fun h11 =>
  (gQ 3 0 v1 h11).bind fun x12 =>
  (gQ 2 1 v0 h11).bind fun x13 =>
  (aI 12 x13 v7 h11).bind fun x14 =>
  (aJ x12 (((nI 4) * v7) + x14) h11).bind fun x15 =>
  bnd ((v5 &&& x15)) fun x16 =>
  (grd (rC 2 v0 h11)).bind fun _ =>
  (f_23 v0 (nI 0) x16 v2 v4 h11).bind fun p17 =>
  (pI 2 4 v0 p17.1 p17.2).bind fun h18 =>
  (grd (rC 2 v0 h18)).bind fun _ =>
  (f_23 v0 (nI 1) x16 v2 v4 h18).bind fun p19 =>
  bnd (p19.1) fun x20 =>
  k62 v0 v1 v2 v4 x16 x20 p19.2
theorem u_22_85 (d : Nat) (hd : 2 ≤ d) (k62 : Option Nat → Option Nat → Int32 → Int32 → Int64 → Int32 → Hp → Option (Hp)) (K62 : ∀ (v0 : Option Nat) (v1 : Option Nat) (v2 : Int32) (v3 : Int32) (v4 : Int32) (v5 : Int64) (v7 : Int32) (h : Hp) (r : Hp), k62 v0 v1 v2 v4 v5 v7 h = some r → Rn d 22 62 [some (va_rf v0), some (va_rf v1), some (.int v2), some (.int v3), some (.int v4), some (.long v5), none, some (.int v7)] [] h (none, r)) (v0 : Option Nat) (v1 : Option Nat) (v2 : Int32) (v3 : Int32) (v4 : Int32) (v5 : Int64) (v7 : Int32)  (h : Hp) (r : Hp) (hb : b_22_85 k62 v0 v1 v2 v4 v5 v7  h = some r) : Rn d 22 85 [some (va_rf v0), some (va_rf v1), some (.int v2), some (.int v3), some (.int v4), some (.long v5), none, some (.int v7)] [] h (none, r) := by
  unfold b_22_85 at hb
  obtain ⟨e, rfl⟩ : ∃ e, d = e + 1 := ⟨d - 1, by omega⟩
  refine rn_aload_n (i := 0) rfl rfl ?_
  refine rn_gQ (c := 2) (k := 1) rfl (by decide) hb (fun x1 hb => ?_)
  refine rn_iload (i := 7) rfl rfl ?_
  refine rn_lload (i := 5) rfl rfl ?_
  refine rn_iload (i := 7) rfl rfl ?_
  obtain ⟨p2, hc, hb⟩ := Option.bind_eq_some_iff.mp hb
  refine Rn.call1 (d := e) (As := [.long v5, .int v7]) (rest := [.int v7, va_rf x1]) rfl rfl rfl (by decide) rfl rfl rfl rfl (by rw [bd_cI (bd_cR (bd_cN))]; decide) (bd_lenC (n := 3) rfl (bd_slJ (bd_slI bd_slN)) rfl) (bd_locC (n := 3) rfl (bd_slJ (bd_slI bd_slN)) rfl (t_30 e (by omega) v5 v7 h _ hc)) ?_
  obtain ⟨p3, hc, hb⟩ := Option.bind_eq_some_iff.mp hb
  refine Rn.call1 (d := e) (As := [.int p2.1]) (rest := [.int v7, va_rf x1]) rfl rfl rfl (by decide) rfl rfl rfl rfl (by rw [bd_cI (bd_cR (bd_cN))]; decide) (bd_lenC (n := 2) rfl (bd_slI bd_slN) rfl) (bd_locC (n := 2) rfl (bd_slI bd_slN) rfl (t_24 e (by omega) p2.1 p2.2 _ hc)) ?_
  refine rn_wI rfl hb (fun h4 hb => ?_)
  refine rn_aload_n (i := 0) rfl rfl ?_
  refine rn_gQ (c := 2) (k := 0) rfl (by decide) hb (fun x5 hb => ?_)
  refine rn_aload_n (i := 0) rfl rfl ?_
  refine rn_gI (c := 2) (k := 2) rfl (by decide) hb (fun x6 hb => ?_)
  refine rn_iload (i := 7) rfl rfl ?_
  refine rn_wI rfl hb (fun h7 hb => ?_)
  refine rn_aload_n (i := 0) rfl rfl ?_
  refine rn_dup rfl (bd_cat_rf _) ?_
  refine rn_gI (c := 2) (k := 2) rfl (by decide) hb (fun x8 hb => ?_)
  refine rn_iconst (x := (nI 1)) rfl (by decide) ?_
  refine rn_iadd rfl ?_
  refine rn_pI (c := 2) (k := 2) rfl (by decide) hb (fun h9 hb => ?_)
  refine rn_aload_n (i := 0) rfl rfl ?_
  refine rn_dup rfl (bd_cat_rf _) ?_
  refine rn_gI (c := 2) (k := 3) rfl (by decide) hb (fun x10 hb => ?_)
  refine rn_iconst (x := (nI 1)) rfl (by decide) ?_
  refine rn_iload (i := 7) rfl rfl ?_
  refine rn_ishl rfl ?_
  refine rn_ior rfl ?_
  refine rn_pI (c := 2) (k := 3) rfl (by decide) hb (fun h11 hb => ?_)
  refine rn_lload (i := 5) rfl rfl ?_
  refine rn_aload_n (i := 1) rfl rfl ?_
  refine rn_gQ (c := 3) (k := 0) rfl (by decide) hb (fun x12 hb => ?_)
  refine rn_iconst (x := (nI 4)) rfl (by decide) ?_
  refine rn_iload (i := 7) rfl rfl ?_
  refine rn_imul rfl ?_
  refine rn_aload_n (i := 0) rfl rfl ?_
  refine rn_gQ (c := 2) (k := 1) rfl (by decide) hb (fun x13 hb => ?_)
  refine rn_iload (i := 7) rfl rfl ?_
  refine rn_aI rfl hb (fun x14 hb => ?_)
  refine rn_iadd rfl ?_
  refine rn_aJ rfl hb (fun x15 hb => ?_)
  refine rn_land rfl ?_
  obtain ⟨x16, ex16, hb⟩ := bnd_spec hb
  refine rn_lstore (i := 5) (L1 := [some (va_rf v0), some (va_rf v1), some (.int v2), some (.int v3), some (.int v4), some (.long x16), none, some (.int v7)]) rfl (Nat.le_of_ble_eq_true rfl) (Or.inr rfl) (by rw [ex16]; rfl) ?_
  refine rn_aload_n (i := 0) rfl rfl ?_
  refine rn_aload_n (i := 0) rfl rfl ?_
  refine rn_iconst (x := (nI 0)) rfl (by decide) ?_
  refine rn_lload (i := 5) rfl rfl ?_
  refine rn_iload_n (i := 2) rfl rfl ?_
  refine rn_iload (i := 4) rfl rfl ?_
  obtain ⟨hrc, hb⟩ := grd_spec hb
  obtain ⟨p17, hc, hb⟩ := Option.bind_eq_some_iff.mp hb
  refine Rn.call1 (d := e) (As := [va_rf v0, .int (nI 0), .long x16, .int v2, .int v4]) (rest := [va_rf v0]) rfl rfl rfl (by decide) rfl rfl rfl (bd_rcV hrc rfl) (by rw [bd_cR (bd_cN)]; decide) (bd_lenC (n := 8) rfl (bd_slR (bd_slI (bd_slJ (bd_slI (bd_slI bd_slN))))) rfl) (bd_locC (n := 8) rfl (bd_slR (bd_slI (bd_slJ (bd_slI (bd_slI bd_slN))))) rfl (t_23 e (by omega) v0 (nI 0) x16 v2 v4 h11 _ hc)) ?_
  refine rn_pI (c := 2) (k := 4) rfl (by decide) hb (fun h18 hb => ?_)
  refine rn_aload_n (i := 0) rfl rfl ?_
  refine rn_iconst (x := (nI 1)) rfl (by decide) ?_
  refine rn_lload (i := 5) rfl rfl ?_
  refine rn_iload_n (i := 2) rfl rfl ?_
  refine rn_iload (i := 4) rfl rfl ?_
  obtain ⟨hrc, hb⟩ := grd_spec hb
  obtain ⟨p19, hc, hb⟩ := Option.bind_eq_some_iff.mp hb
  refine Rn.call1 (d := e) (As := [va_rf v0, .int (nI 1), .long x16, .int v2, .int v4]) (rest := []) rfl rfl rfl (by decide) rfl rfl rfl (bd_rcV hrc rfl) (by decide) (bd_lenC (n := 8) rfl (bd_slR (bd_slI (bd_slJ (bd_slI (bd_slI bd_slN))))) rfl) (bd_locC (n := 8) rfl (bd_slR (bd_slI (bd_slJ (bd_slI (bd_slI bd_slN))))) rfl (t_23 e (by omega) v0 (nI 1) x16 v2 v4 h18 _ hc)) ?_
  obtain ⟨x20, ex20, hb⟩ := bnd_spec hb
  refine rn_istore (i := 7) (L1 := [some (va_rf v0), some (va_rf v1), some (.int v2), some (.int v3), some (.int v4), some (.long x16), none, some (.int x20)]) rfl (Nat.le_of_ble_eq_true rfl) (Or.inr rfl) (by rw [ex20]; rfl) ?_
  refine rn_goto rfl rfl ?_
  exact K62 v0 v1 v2 v3 v4 x16 x20 p19.2 _ hb
def b_22_76 (k62 : Option Nat → Option Nat → Int32 → Int32 → Int64 → Int32 → Hp → Option (Hp)) (v0 : Option Nat) (v1 : Option Nat) (v2 : Int32) (v4 : Int32) (v5 : Int64) (v7 : Int32)  (h : Hp) : Option (Hp) :=
  (gI 2 2 v0 h).bind fun x1 =>
  if (nI 10) ≤ x1 then b_22_187   h else b_22_85 k62 v0 v1 v2 v4 v5 v7  h
theorem u_22_76 (d : Nat) (hd : 2 ≤ d) (k62 : Option Nat → Option Nat → Int32 → Int32 → Int64 → Int32 → Hp → Option (Hp)) (K62 : ∀ (v0 : Option Nat) (v1 : Option Nat) (v2 : Int32) (v3 : Int32) (v4 : Int32) (v5 : Int64) (v7 : Int32) (h : Hp) (r : Hp), k62 v0 v1 v2 v4 v5 v7 h = some r → Rn d 22 62 [some (va_rf v0), some (va_rf v1), some (.int v2), some (.int v3), some (.int v4), some (.long v5), none, some (.int v7)] [] h (none, r)) (v0 : Option Nat) (v1 : Option Nat) (v2 : Int32) (v3 : Int32) (v4 : Int32) (v5 : Int64) (v7 : Int32)  (h : Hp) (r : Hp) (hb : b_22_76 k62 v0 v1 v2 v4 v5 v7  h = some r) : Rn d 22 76 [some (va_rf v0), some (va_rf v1), some (.int v2), some (.int v3), some (.int v4), some (.long v5), none, some (.int v7)] [] h (none, r) := by
  unfold b_22_76 at hb
  refine rn_aload_n (i := 0) rfl rfl ?_
  refine rn_gI (c := 2) (k := 2) rfl (by decide) hb (fun x1 hb => ?_)
  refine rn_bipush (x := (nI 10)) rfl (by decide) ?_
  refine rn_icmp_ge rfl rfl (fun hc => ?_) (fun hc => ?_)
  · exact u_22_187 d hd v0 v1 v2 v3 v4 v5 v7  h _ (if_t hb hc)
  · exact u_22_85 d hd k62 K62 v0 v1 v2 v3 v4 v5 v7  h _ (if_f hb hc)
def b_22_70 (k62 : Option Nat → Option Nat → Int32 → Int32 → Int64 → Int32 → Hp → Option (Hp)) (v0 : Option Nat) (v1 : Option Nat) (v2 : Int32) (v4 : Int32) (v5 : Int64) (v7 : Int32)  (h : Hp) : Option (Hp) :=
  if v7 = (-1 : Int32) then b_22_187   h else b_22_76 k62 v0 v1 v2 v4 v5 v7  h
theorem u_22_70 (d : Nat) (hd : 2 ≤ d) (k62 : Option Nat → Option Nat → Int32 → Int32 → Int64 → Int32 → Hp → Option (Hp)) (K62 : ∀ (v0 : Option Nat) (v1 : Option Nat) (v2 : Int32) (v3 : Int32) (v4 : Int32) (v5 : Int64) (v7 : Int32) (h : Hp) (r : Hp), k62 v0 v1 v2 v4 v5 v7 h = some r → Rn d 22 62 [some (va_rf v0), some (va_rf v1), some (.int v2), some (.int v3), some (.int v4), some (.long v5), none, some (.int v7)] [] h (none, r)) (v0 : Option Nat) (v1 : Option Nat) (v2 : Int32) (v3 : Int32) (v4 : Int32) (v5 : Int64) (v7 : Int32)  (h : Hp) (r : Hp) (hb : b_22_70 k62 v0 v1 v2 v4 v5 v7  h = some r) : Rn d 22 70 [some (va_rf v0), some (va_rf v1), some (.int v2), some (.int v3), some (.int v4), some (.long v5), none, some (.int v7)] [] h (none, r) := by
  unfold b_22_70 at hb
  refine rn_iload (i := 7) rfl rfl ?_
  refine rn_iconst (x := (-1 : Int32)) rfl (by decide) ?_
  refine rn_icmp_eq rfl rfl (fun hc => ?_) (fun hc => ?_)
  · exact u_22_187 d hd v0 v1 v2 v3 v4 v5 v7  h _ (if_t hb hc)
  · exact u_22_76 d hd k62 K62 v0 v1 v2 v3 v4 v5 v7  h _ (if_f hb hc)
def b_22_62 (k62 : Option Nat → Option Nat → Int32 → Int32 → Int64 → Int32 → Hp → Option (Hp)) (v0 : Option Nat) (v1 : Option Nat) (v2 : Int32) (v4 : Int32) (v5 : Int64) (v7 : Int32)  (h : Hp) : Option (Hp) :=
  (gI 2 4 v0 h).bind fun x1 =>
  if ¬ x1 = (-1 : Int32) then b_22_187   h else b_22_70 k62 v0 v1 v2 v4 v5 v7  h
theorem u_22_62 (d : Nat) (hd : 2 ≤ d) (k62 : Option Nat → Option Nat → Int32 → Int32 → Int64 → Int32 → Hp → Option (Hp)) (K62 : ∀ (v0 : Option Nat) (v1 : Option Nat) (v2 : Int32) (v3 : Int32) (v4 : Int32) (v5 : Int64) (v7 : Int32) (h : Hp) (r : Hp), k62 v0 v1 v2 v4 v5 v7 h = some r → Rn d 22 62 [some (va_rf v0), some (va_rf v1), some (.int v2), some (.int v3), some (.int v4), some (.long v5), none, some (.int v7)] [] h (none, r)) (v0 : Option Nat) (v1 : Option Nat) (v2 : Int32) (v3 : Int32) (v4 : Int32) (v5 : Int64) (v7 : Int32)  (h : Hp) (r : Hp) (hb : b_22_62 k62 v0 v1 v2 v4 v5 v7  h = some r) : Rn d 22 62 [some (va_rf v0), some (va_rf v1), some (.int v2), some (.int v3), some (.int v4), some (.long v5), none, some (.int v7)] [] h (none, r) := by
  unfold b_22_62 at hb
  refine rn_aload_n (i := 0) rfl rfl ?_
  refine rn_gI (c := 2) (k := 4) rfl (by decide) hb (fun x1 hb => ?_)
  refine rn_iconst (x := (-1 : Int32)) rfl (by decide) ?_
  refine rn_icmp_ne rfl rfl (fun hc => ?_) (fun hc => ?_)
  · exact u_22_187 d hd v0 v1 v2 v3 v4 v5 v7  h _ (if_t hb hc)
  · exact u_22_70 d hd k62 K62 v0 v1 v2 v3 v4 v5 v7  h _ (if_f hb hc)
def l_22_62 : Nat → Option Nat → Option Nat → Int32 → Int32 → Int64 → Int32 → Hp → Option (Hp)
  | 0, _, _, _, _, _, _, _ => none
  | n + 1, v0, v1, v2, v4, v5, v7, h => b_22_62 (l_22_62 n) v0 v1 v2 v4 v5 v7 h
theorem w_22_62 (d : Nat) (hd : 2 ≤ d) : ∀ (n : Nat) (v0 : Option Nat) (v1 : Option Nat) (v2 : Int32) (v3 : Int32) (v4 : Int32) (v5 : Int64) (v7 : Int32) (h : Hp) (r : Hp), l_22_62 n v0 v1 v2 v4 v5 v7 h = some r → Rn d 22 62 [some (va_rf v0), some (va_rf v1), some (.int v2), some (.int v3), some (.int v4), some (.long v5), none, some (.int v7)] [] h (none, r) := by
  intro n
  induction n with
  | zero => intro v0 v1 v2 v3 v4 v5 v7 h r hb; cases hb
  | succ n ih => intro v0 v1 v2 v3 v4 v5 v7 h r hb; exact u_22_62 d hd (l_22_62 n) ih v0 v1 v2 v3 v4 v5 v7 h r hb
def b_22_0 (v0 : Option Nat) (v1 : Option Nat) (v2 : Int32) (v3 : Int32)  (h : Hp) : Option (Hp) :=
  (gQ 3 2 v1 h).bind fun x1 =>
  (gI 4 5 x1 h).bind fun x2 =>
  (gJ 3 1 v1 h).bind fun x3 =>
  (gQ 3 0 v1 h).bind fun x4 =>
  (aJ x4 (((nI 4) * v2) + v3) h).bind fun x5 =>
  bnd ((x3 &&& x5)) fun x6 =>
  (pI 2 2 v0 (nI 0) h).bind fun h7 =>
  (pI 2 3 v0 (nI 0) h7).bind fun h8 =>
  (grd (rC 2 v0 h8)).bind fun _ =>
  (f_23 v0 (nI 0) x6 v2 x2 h8).bind fun p9 =>
  (pI 2 4 v0 p9.1 p9.2).bind fun h10 =>
  (grd (rC 2 v0 h10)).bind fun _ =>
  (f_23 v0 (nI 1) x6 v2 x2 h10).bind fun p11 =>
  bnd (p11.1) fun x12 =>
  l_22_62 FU v0 v1 v2 x2 x6 x12 p11.2
theorem u_22_0 (d : Nat) (hd : 2 ≤ d) (v0 : Option Nat) (v1 : Option Nat) (v2 : Int32) (v3 : Int32)  (h : Hp) (r : Hp) (hb : b_22_0 v0 v1 v2 v3  h = some r) : Rn d 22 0 [some (va_rf v0), some (va_rf v1), some (.int v2), some (.int v3), none, none, none, none] [] h (none, r) := by
  unfold b_22_0 at hb
  obtain ⟨e, rfl⟩ : ∃ e, d = e + 1 := ⟨d - 1, by omega⟩
  refine rn_aload_n (i := 1) rfl rfl ?_
  refine rn_gQ (c := 3) (k := 2) rfl (by decide) hb (fun x1 hb => ?_)
  refine rn_gI (c := 4) (k := 5) rfl (by decide) hb (fun x2 hb => ?_)
  refine rn_istore (i := 4) (L1 := [some (va_rf v0), some (va_rf v1), some (.int v2), some (.int v3), some (.int x2), none, none, none]) rfl (Nat.le_of_ble_eq_true rfl) (Or.inr rfl) rfl ?_
  refine rn_aload_n (i := 1) rfl rfl ?_
  refine rn_gJ (c := 3) (k := 1) rfl (by decide) hb (fun x3 hb => ?_)
  refine rn_aload_n (i := 1) rfl rfl ?_
  refine rn_gQ (c := 3) (k := 0) rfl (by decide) hb (fun x4 hb => ?_)
  refine rn_iconst (x := (nI 4)) rfl (by decide) ?_
  refine rn_iload_n (i := 2) rfl rfl ?_
  refine rn_imul rfl ?_
  refine rn_iload_n (i := 3) rfl rfl ?_
  refine rn_iadd rfl ?_
  refine rn_aJ rfl hb (fun x5 hb => ?_)
  refine rn_land rfl ?_
  obtain ⟨x6, ex6, hb⟩ := bnd_spec hb
  refine rn_lstore (i := 5) (L1 := [some (va_rf v0), some (va_rf v1), some (.int v2), some (.int v3), some (.int x2), some (.long x6), none, none]) rfl (Nat.le_of_ble_eq_true rfl) (Or.inr rfl) (by rw [ex6]; rfl) ?_
  refine rn_aload_n (i := 0) rfl rfl ?_
  refine rn_iconst (x := (nI 0)) rfl (by decide) ?_
  refine rn_pI (c := 2) (k := 2) rfl (by decide) hb (fun h7 hb => ?_)
  refine rn_aload_n (i := 0) rfl rfl ?_
  refine rn_iconst (x := (nI 0)) rfl (by decide) ?_
  refine rn_pI (c := 2) (k := 3) rfl (by decide) hb (fun h8 hb => ?_)
  refine rn_aload_n (i := 0) rfl rfl ?_
  refine rn_aload_n (i := 0) rfl rfl ?_
  refine rn_iconst (x := (nI 0)) rfl (by decide) ?_
  refine rn_lload (i := 5) rfl rfl ?_
  refine rn_iload_n (i := 2) rfl rfl ?_
  refine rn_iload (i := 4) rfl rfl ?_
  obtain ⟨hrc, hb⟩ := grd_spec hb
  obtain ⟨p9, hc, hb⟩ := Option.bind_eq_some_iff.mp hb
  refine Rn.call1 (d := e) (As := [va_rf v0, .int (nI 0), .long x6, .int v2, .int x2]) (rest := [va_rf v0]) rfl rfl rfl (by decide) rfl rfl rfl (bd_rcV hrc rfl) (by rw [bd_cR (bd_cN)]; decide) (bd_lenC (n := 8) rfl (bd_slR (bd_slI (bd_slJ (bd_slI (bd_slI bd_slN))))) rfl) (bd_locC (n := 8) rfl (bd_slR (bd_slI (bd_slJ (bd_slI (bd_slI bd_slN))))) rfl (t_23 e (by omega) v0 (nI 0) x6 v2 x2 h8 _ hc)) ?_
  refine rn_pI (c := 2) (k := 4) rfl (by decide) hb (fun h10 hb => ?_)
  refine rn_aload_n (i := 0) rfl rfl ?_
  refine rn_iconst (x := (nI 1)) rfl (by decide) ?_
  refine rn_lload (i := 5) rfl rfl ?_
  refine rn_iload_n (i := 2) rfl rfl ?_
  refine rn_iload (i := 4) rfl rfl ?_
  obtain ⟨hrc, hb⟩ := grd_spec hb
  obtain ⟨p11, hc, hb⟩ := Option.bind_eq_some_iff.mp hb
  refine Rn.call1 (d := e) (As := [va_rf v0, .int (nI 1), .long x6, .int v2, .int x2]) (rest := []) rfl rfl rfl (by decide) rfl rfl rfl (bd_rcV hrc rfl) (by decide) (bd_lenC (n := 8) rfl (bd_slR (bd_slI (bd_slJ (bd_slI (bd_slI bd_slN))))) rfl) (bd_locC (n := 8) rfl (bd_slR (bd_slI (bd_slJ (bd_slI (bd_slI bd_slN))))) rfl (t_23 e (by omega) v0 (nI 1) x6 v2 x2 h10 _ hc)) ?_
  obtain ⟨x12, ex12, hb⟩ := bnd_spec hb
  refine rn_istore (i := 7) (L1 := [some (va_rf v0), some (va_rf v1), some (.int v2), some (.int v3), some (.int x2), some (.long x6), none, some (.int x12)]) rfl (Nat.le_of_ble_eq_true rfl) (Or.inr rfl) (by rw [ex12]; rfl) ?_
  exact w_22_62 (e + 1) hd FU v0 v1 v2 v3 x2 x6 x12 p11.2 _ hb
/-- BitingDoors$Forcing.force(LBitingDoors$Hanger;II)V -/
def f_22 (v0 : Option Nat) (v1 : Option Nat) (v2 : Int32) (v3 : Int32) (h : Hp) : Option (Hp) := b_22_0 v0 v1 v2 v3 h
theorem t_22 (d : Nat) (hd : 2 ≤ d) (v0 : Option Nat) (v1 : Option Nat) (v2 : Int32) (v3 : Int32) (h : Hp) (r : Hp) (hb : f_22 v0 v1 v2 v3 h = some r) : Rn d 22 0 [some (va_rf v0), some (va_rf v1), some (.int v2), some (.int v3), none, none, none, none] [] h (none, r) := by
  unfold f_22 at hb
  exact u_22_0 d hd v0 v1 v2 v3 h r hb
