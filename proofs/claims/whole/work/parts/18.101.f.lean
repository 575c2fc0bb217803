def b_25_32  (s0 : Int32) (h : Hp) : Option (Int32 × Hp) :=
  some (s0, h)
theorem u_25_32 (d : Nat) (hd : 0 ≤ d) (v0 : Option Nat) (v1 : Int32) (s0 : Int32) (h : Hp) (r : Int32 × Hp) (hb : b_25_32  s0 h = some r) : Rn d 25 32 [some (va_rf v0), some (.int v1)] [.int s0] h (some (.int r.1), r.2) := by
  unfold b_25_32 at hb
  obtain rfl := Option.some.inj hb
  exact rn_iret rfl rfl
def b_25_31   (h : Hp) : Option (Int32 × Hp) :=
  b_25_32  (-1 : Int32) h
theorem u_25_31 (d : Nat) (hd : 0 ≤ d) (v0 : Option Nat) (v1 : Int32)  (h : Hp) (r : Int32 × Hp) (hb : b_25_31   h = some r) : Rn d 25 31 [some (va_rf v0), some (.int v1)] [] h (some (.int r.1), r.2) := by
  unfold b_25_31 at hb
  refine rn_iconst (x := (-1 : Int32)) rfl (by decide) ?_
  exact u_25_32 d hd v0 v1 (-1 : Int32) h _ hb
def b_25_22 (v0 : Option Nat) (v1 : Int32)  (h : Hp) : Option (Int32 × Hp) :=
  (gQ 2 1 v0 h).bind fun x1 =>
  (aI 12 x1 v1 h).bind fun x2 =>
  b_25_32  x2 h
theorem u_25_22 (d : Nat) (hd : 0 ≤ d) (v0 : Option Nat) (v1 : Int32)  (h : Hp) (r : Int32 × Hp) (hb : b_25_22 v0 v1  h = some r) : Rn d 25 22 [some (va_rf v0), some (.int v1)] [] h (some (.int r.1), r.2) := by
  unfold b_25_22 at hb
  refine rn_aload_n (i := 0) rfl rfl ?_
  refine rn_gQ (c := 2) (k := 1) rfl (by decide) hb (fun x1 hb => ?_)
  refine rn_iload_n (i := 1) rfl rfl ?_
  refine rn_aI rfl hb (fun x2 hb => ?_)
  refine rn_goto rfl rfl ?_
  exact u_25_32 d hd v0 v1 x2 h _ hb
def b_25_10 (v0 : Option Nat) (v1 : Int32)  (h : Hp) : Option (Int32 × Hp) :=
  (gI 2 3 v0 h).bind fun x1 =>
  if ¬ ((x1 >>> (v1 &&& 31)) &&& (nI 1)) = (nI 1) then b_25_31   h else b_25_22 v0 v1  h
theorem u_25_10 (d : Nat) (hd : 0 ≤ d) (v0 : Option Nat) (v1 : Int32)  (h : Hp) (r : Int32 × Hp) (hb : b_25_10 v0 v1  h = some r) : Rn d 25 10 [some (va_rf v0), some (.int v1)] [] h (some (.int r.1), r.2) := by
  unfold b_25_10 at hb
  refine rn_aload_n (i := 0) rfl rfl ?_
  refine rn_gI (c := 2) (k := 3) rfl (by decide) hb (fun x1 hb => ?_)
  refine rn_iload_n (i := 1) rfl rfl ?_
  refine rn_ishr rfl ?_
  refine rn_iconst (x := (nI 1)) rfl (by decide) ?_
  refine rn_iand rfl ?_
  refine rn_iconst (x := (nI 1)) rfl (by decide) ?_
  refine rn_icmp_ne rfl rfl (fun hc => ?_) (fun hc => ?_)
  · exact u_25_31 d hd v0 v1  h _ (if_t hb hc)
  · exact u_25_22 d hd v0 v1  h _ (if_f hb hc)
def b_25_4 (v0 : Option Nat) (v1 : Int32)  (h : Hp) : Option (Int32 × Hp) :=
  if (nI 10) ≤ v1 then b_25_31   h else b_25_10 v0 v1  h
theorem u_25_4 (d : Nat) (hd : 0 ≤ d) (v0 : Option Nat) (v1 : Int32)  (h : Hp) (r : Int32 × Hp) (hb : b_25_4 v0 v1  h = some r) : Rn d 25 4 [some (va_rf v0), some (.int v1)] [] h (some (.int r.1), r.2) := by
  unfold b_25_4 at hb
  refine rn_iload_n (i := 1) rfl rfl ?_
  refine rn_bipush (x := (nI 10)) rfl (by decide) ?_
  refine rn_icmp_ge rfl rfl (fun hc => ?_) (fun hc => ?_)
  · exact u_25_31 d hd v0 v1  h _ (if_t hb hc)
  · exact u_25_10 d hd v0 v1  h _ (if_f hb hc)
def b_25_0 (v0 : Option Nat) (v1 : Int32)  (h : Hp) : Option (Int32 × Hp) :=
  if v1 < 0 then b_25_31   h else b_25_4 v0 v1  h
theorem u_25_0 (d : Nat) (hd : 0 ≤ d) (v0 : Option Nat) (v1 : Int32)  (h : Hp) (r : Int32 × Hp) (hb : b_25_0 v0 v1  h = some r) : Rn d 25 0 [some (va_rf v0), some (.int v1)] [] h (some (.int r.1), r.2) := by
  unfold b_25_0 at hb
  refine rn_iload_n (i := 1) rfl rfl ?_
  refine rn_if_lt rfl rfl (fun hc => ?_) (fun hc => ?_)
  · exact u_25_31 d hd v0 v1  h _ (if_t hb hc)
  · exact u_25_4 d hd v0 v1  h _ (if_f hb hc)
/-- BitingDoors$Forcing.hangingOf(I)I -/
def f_25 (v0 : Option Nat) (v1 : Int32) (h : Hp) : Option (Int32 × Hp) := b_25_0 v0 v1 h
theorem t_25 (d : Nat) (hd : 0 ≤ d) (v0 : Option Nat) (v1 : Int32) (h : Hp) (r : Int32 × Hp) (hb : f_25 v0 v1 h = some r) : Rn d 25 0 [some (va_rf v0), some (.int v1)] [] h (some (.int r.1), r.2) := by
  unfold f_25 at hb
  exact u_25_0 d hd v0 v1 h r hb
def b_26_0 (v0 : Option Nat)  (h : Hp) : Option (Hp) :=
  (grd v0.isSome).bind fun _ =>
  (nA 13 (nI 40) h).bind fun h1 =>
  (pQ 3 0 v0 (some (hN h)) h1).bind fun h2 =>
  (nA 12 (nI 10) h2).bind fun h3 =>
  (pQ 3 3 v0 (some (hN h2)) h3).bind fun h4 =>
  (nA 12 (nI 10) h4).bind fun h5 =>
  (pQ 3 4 v0 (some (hN h4)) h5).bind fun h6 =>
  (nA 12 (nI 10) h6).bind fun h7 =>
  (pQ 3 6 v0 (some (hN h6)) h7).bind fun h8 =>
  (nA 12 (nI 10) h8).bind fun h9 =>
  (pQ 3 8 v0 (some (hN h8)) h9).bind fun h10 =>
  (nA 12 (nI 10) h10).bind fun h11 =>
  (pQ 3 10 v0 (some (hN h10)) h11).bind fun h12 =>
  (nA 12 (nI 10) h12).bind fun h13 =>
  (pQ 3 11 v0 (some (hN h12)) h13).bind fun h14 =>
  (nA 12 (nI 10) h14).bind fun h15 =>
  (pQ 3 12 v0 (some (hN h14)) h15).bind fun h16 =>
  some h16
theorem u_26_0 (d : Nat) (hd : 0 ≤ d) (v0 : Option Nat)  (h : Hp) (r : Hp) (hb : b_26_0 v0  h = some r) : Rn d 26 0 [some (va_rf v0)] [] h (none, r) := by
  unfold b_26_0 at hb
  refine rn_aload_n (i := 0) rfl rfl ?_
  obtain ⟨hq, hb⟩ := grd_spec hb
  refine rn_oinit rfl hq (by decide) ?_
  refine rn_aload_n (i := 0) rfl rfl ?_
  refine rn_bipush (x := (nI 40)) rfl (by decide) ?_
  refine rn_newarray rfl hb (fun h1 hb => ?_)
  refine rn_pQ (c := 3) (k := 0) rfl (by decide) hb (fun h2 hb => ?_)
  refine rn_aload_n (i := 0) rfl rfl ?_
  refine rn_bipush (x := (nI 10)) rfl (by decide) ?_
  refine rn_newarray rfl hb (fun h3 hb => ?_)
  refine rn_pQ (c := 3) (k := 3) rfl (by decide) hb (fun h4 hb => ?_)
  refine rn_aload_n (i := 0) rfl rfl ?_
  refine rn_bipush (x := (nI 10)) rfl (by decide) ?_
  refine rn_newarray rfl hb (fun h5 hb => ?_)
  refine rn_pQ (c := 3) (k := 4) rfl (by decide) hb (fun h6 hb => ?_)
  refine rn_aload_n (i := 0) rfl rfl ?_
  refine rn_bipush (x := (nI 10)) rfl (by decide) ?_
  refine rn_newarray rfl hb (fun h7 hb => ?_)
  refine rn_pQ (c := 3) (k := 6) rfl (by decide) hb (fun h8 hb => ?_)
  refine rn_aload_n (i := 0) rfl rfl ?_
  refine rn_bipush (x := (nI 10)) rfl (by decide) ?_
  refine rn_newarray rfl hb (fun h9 hb => ?_)
  refine rn_pQ (c := 3) (k := 8) rfl (by decide) hb (fun h10 hb => ?_)
  refine rn_aload_n (i := 0) rfl rfl ?_
  refine rn_bipush (x := (nI 10)) rfl (by decide) ?_
  refine rn_newarray rfl hb (fun h11 hb => ?_)
  refine rn_pQ (c := 3) (k := 10) rfl (by decide) hb (fun h12 hb => ?_)
  refine rn_aload_n (i := 0) rfl rfl ?_
  refine rn_bipush (x := (nI 10)) rfl (by decide) ?_
  refine rn_newarray rfl hb (fun h13 hb => ?_)
  refine rn_pQ (c := 3) (k := 11) rfl (by decide) hb (fun h14 hb => ?_)
  refine rn_aload_n (i := 0) rfl rfl ?_
  refine rn_bipush (x := (nI 10)) rfl (by decide) ?_
  refine rn_newarray rfl hb (fun h15 hb => ?_)
  refine rn_pQ (c := 3) (k := 12) rfl (by decide) hb (fun h16 hb => ?_)
  obtain rfl := Option.some.inj hb
  exact rn_vret rfl rfl
/-- BitingDoors$Hanger.<init>()V -/
def f_26 (v0 : Option Nat) (h : Hp) : Option (Hp) := b_26_0 v0 h
theorem t_26 (d : Nat) (hd : 0 ≤ d) (v0 : Option Nat) (h : Hp) (r : Hp) (hb : f_26 v0 h = some r) : Rn d 26 0 [some (va_rf v0)] [] h (none, r) := by
  unfold f_26 at hb
  exact u_26_0 d hd v0 h r hb
def b_28_154   (h : Hp) : Option (Hp) :=
  some h
theorem u_28_154 (d : Nat) (hd : 2 ≤ d) (v0 : Option Nat) (v1 : Int32) (v2 : Option (Option Nat)) (v3 : Option (Int32)) (v4 : Option (Option Nat)) (v5 : Option (Int32))  (h : Hp) (r : Hp) (hb : b_28_154   h = some r) : Rn d 28 154 [some (va_rf v0), some (.int v1), v2.map va_rf, v3.map Value.int, v4.map va_rf, v5.map Value.int] [] h (none, r) := by
  unfold b_28_154 at hb
  obtain rfl := Option.some.inj hb
  exact rn_vret rfl rfl
def b_28_148 (k7 : Option Nat → Int32 → Hp → Option (Hp)) (v0 : Option Nat) (v1 : Int32)  (h : Hp) : Option (Hp) :=
  bnd (v1 + (nI 1)) fun x1 =>
  k7 v0 x1 h
theorem u_28_148 (d : Nat) (hd : 2 ≤ d) (k7 : Option Nat → Int32 → Hp → Option (Hp)) (K7 : ∀ (v0 : Option Nat) (v1 : Int32) (v2 : Option (Option Nat)) (v3 : Option (Int32)) (v4 : Option (Option Nat)) (v5 : Option (Int32)) (h : Hp) (r : Hp), k7 v0 v1 h = some r → Rn d 28 7 [some (va_rf v0), some (.int v1), v2.map va_rf, v3.map Value.int, v4.map va_rf, v5.map Value.int] [] h (none, r)) (v0 : Option Nat) (v1 : Int32) (v2 : Option Nat) (v3 : Int32) (v4 : Option (Option Nat)) (v5 : Option (Int32))  (h : Hp) (r : Hp) (hb : b_28_148 k7 v0 v1  h = some r) : Rn d 28 148 [some (va_rf v0), some (.int v1), some (va_rf v2), some (.int v3), v4.map va_rf, v5.map Value.int] [] h (none, r) := by
  unfold b_28_148 at hb
  obtain ⟨x1, ex1, hb⟩ := bnd_spec hb
  refine rn_iinc (i := 1) (y := x1) (L1 := [some (va_rf v0), some (.int x1), some (va_rf v2), some (.int v3), v4.map va_rf, v5.map Value.int]) rfl rfl (Nat.le_of_ble_eq_true rfl) (Or.inr (bd_wideR rfl)) (by rw [ex1]; rfl) rfl ?_
  refine rn_goto rfl rfl ?_
  exact K7 v0 x1 (some v2) (some v3) v4 v5 h _ hb
def b_28_140 (k7 : Option Nat → Int32 → Hp → Option (Hp)) (k67 : Option Nat → Int32 → Option Nat → Int32 → Hp → Option (Hp)) (v0 : Option Nat) (v1 : Int32) (v2 : Option Nat) (v3 : Int32) (s0 : Option Nat) (s1 : Int32) (s2 : Int64) (s3 : Int64) (h : Hp) : Option (Hp) :=
  (wJ s0 s1 (s2 ||| s3) h).bind fun h1 =>
  bnd (v3 + (nI 1)) fun x2 =>
  k67 v0 v1 v2 x2 h1
theorem u_28_140 (d : Nat) (hd : 2 ≤ d) (k7 : Option Nat → Int32 → Hp → Option (Hp)) (K7 : ∀ (v0 : Option Nat) (v1 : Int32) (v2 : Option (Option Nat)) (v3 : Option (Int32)) (v4 : Option (Option Nat)) (v5 : Option (Int32)) (h : Hp) (r : Hp), k7 v0 v1 h = some r → Rn d 28 7 [some (va_rf v0), some (.int v1), v2.map va_rf, v3.map Value.int, v4.map va_rf, v5.map Value.int] [] h (none, r)) (k67 : Option Nat → Int32 → Option Nat → Int32 → Hp → Option (Hp)) (K67 : ∀ (v0 : Option Nat) (v1 : Int32) (v2 : Option Nat) (v3 : Int32) (v4 : Option (Option Nat)) (v5 : Option (Int32)) (h : Hp) (r : Hp), k67 v0 v1 v2 v3 h = some r → Rn d 28 67 [some (va_rf v0), some (.int v1), some (va_rf v2), some (.int v3), v4.map va_rf, v5.map Value.int] [] h (none, r)) (v0 : Option Nat) (v1 : Int32) (v2 : Option Nat) (v3 : Int32) (v4 : Option Nat) (v5 : Int32) (s0 : Option Nat) (s1 : Int32) (s2 : Int64) (s3 : Int64) (h : Hp) (r : Hp) (hb : b_28_140 k7 k67 v0 v1 v2 v3 s0 s1 s2 s3 h = some r) : Rn d 28 140 [some (va_rf v0), some (.int v1), some (va_rf v2), some (.int v3), some (va_rf v4), some (.int v5)] [.long s3, .long s2, .int s1, va_rf s0] h (none, r) := by
  unfold b_28_140 at hb
  refine rn_lor rfl ?_
  refine rn_wJ rfl hb (fun h1 hb => ?_)
  obtain ⟨x2, ex2, hb⟩ := bnd_spec hb
  refine rn_iinc (i := 3) (y := x2) (L1 := [some (va_rf v0), some (.int v1), some (va_rf v2), some (.int x2), some (va_rf v4), some (.int v5)]) rfl rfl (Nat.le_of_ble_eq_true rfl) (Or.inr (bd_wideR rfl)) (by rw [ex2]; rfl) rfl ?_
  refine rn_goto rfl rfl ?_
  exact K67 v0 v1 v2 x2 (some v4) (some v5) h1 _ hb
def b_28_139 (k7 : Option Nat → Int32 → Hp → Option (Hp)) (k67 : Option Nat → Int32 → Option Nat → Int32 → Hp → Option (Hp)) (v0 : Option Nat) (v1 : Int32) (v2 : Option Nat) (v3 : Int32) (s0 : Option Nat) (s1 : Int32) (s2 : Int64) (h : Hp) : Option (Hp) :=
  b_28_140 k7 k67 v0 v1 v2 v3 s0 s1 s2 (lN 0) h
theorem u_28_139 (d : Nat) (hd : 2 ≤ d) (k7 : Option Nat → Int32 → Hp → Option (Hp)) (K7 : ∀ (v0 : Option Nat) (v1 : Int32) (v2 : Option (Option Nat)) (v3 : Option (Int32)) (v4 : Option (Option Nat)) (v5 : Option (Int32)) (h : Hp) (r : Hp), k7 v0 v1 h = some r → Rn d 28 7 [some (va_rf v0), some (.int v1), v2.map va_rf, v3.map Value.int, v4.map va_rf, v5.map Value.int] [] h (none, r)) (k67 : Option Nat → Int32 → Option Nat → Int32 → Hp → Option (Hp)) (K67 : ∀ (v0 : Option Nat) (v1 : Int32) (v2 : Option Nat) (v3 : Int32) (v4 : Option (Option Nat)) (v5 : Option (Int32)) (h : Hp) (r : Hp), k67 v0 v1 v2 v3 h = some r → Rn d 28 67 [some (va_rf v0), some (.int v1), some (va_rf v2), some (.int v3), v4.map va_rf, v5.map Value.int] [] h (none, r)) (v0 : Option Nat) (v1 : Int32) (v2 : Option Nat) (v3 : Int32) (v4 : Option Nat) (v5 : Int32) (s0 : Option Nat) (s1 : Int32) (s2 : Int64) (h : Hp) (r : Hp) (hb : b_28_139 k7 k67 v0 v1 v2 v3 s0 s1 s2 h = some r) : Rn d 28 139 [some (va_rf v0), some (.int v1), some (va_rf v2), some (.int v3), some (va_rf v4), some (.int v5)] [.long s2, .int s1, va_rf s0] h (none, r) := by
  unfold b_28_139 at hb
  refine rn_lconst (x := (lN 0)) rfl (by decide) ?_
  exact u_28_140 d hd k7 K7 k67 K67 v0 v1 v2 v3 v4 v5 s0 s1 s2 (lN 0) h _ hb
def b_28_133 (k7 : Option Nat → Int32 → Hp → Option (Hp)) (k67 : Option Nat → Int32 → Option Nat → Int32 → Hp → Option (Hp)) (v0 : Option Nat) (v1 : Int32) (v2 : Option Nat) (v3 : Int32) (s0 : Option Nat) (s1 : Int32) (s2 : Int64) (h : Hp) : Option (Hp) :=
  b_28_140 k7 k67 v0 v1 v2 v3 s0 s1 s2 ((lN 1) <<< (v3.toInt64 &&& 63)) h
theorem u_28_133 (d : Nat) (hd : 2 ≤ d) (k7 : Option Nat → Int32 → Hp → Option (Hp)) (K7 : ∀ (v0 : Option Nat) (v1 : Int32) (v2 : Option (Option Nat)) (v3 : Option (Int32)) (v4 : Option (Option Nat)) (v5 : Option (Int32)) (h : Hp) (r : Hp), k7 v0 v1 h = some r → Rn d 28 7 [some (va_rf v0), some (.int v1), v2.map va_rf, v3.map Value.int, v4.map va_rf, v5.map Value.int] [] h (none, r)) (k67 : Option Nat → Int32 → Option Nat → Int32 → Hp → Option (Hp)) (K67 : ∀ (v0 : Option Nat) (v1 : Int32) (v2 : Option Nat) (v3 : Int32) (v4 : Option (Option Nat)) (v5 : Option (Int32)) (h : Hp) (r : Hp), k67 v0 v1 v2 v3 h = some r → Rn d 28 67 [some (va_rf v0), some (.int v1), some (va_rf v2), some (.int v3), v4.map va_rf, v5.map Value.int] [] h (none, r)) (v0 : Option Nat) (v1 : Int32) (v2 : Option Nat) (v3 : Int32) (v4 : Option Nat) (v5 : Int32) (s0 : Option Nat) (s1 : Int32) (s2 : Int64) (h : Hp) (r : Hp) (hb : b_28_133 k7 k67 v0 v1 v2 v3 s0 s1 s2 h = some r) : Rn d 28 133 [some (va_rf v0), some (.int v1), some (va_rf v2), some (.int v3), some (va_rf v4), some (.int v5)] [.long s2, .int s1, va_rf s0] h (none, r) := by
  unfold b_28_133 at hb
  refine rn_lconst (x := (lN 1)) rfl (by decide) ?_
  refine rn_iload_n (i := 3) rfl rfl ?_
  refine rn_lshl rfl ?_
  refine rn_goto rfl rfl ?_
  exact u_28_140 d hd k7 K7 k67 K67 v0 v1 v2 v3 v4 v5 s0 s1 s2 ((lN 1) <<< (v3.toInt64 &&& 63)) h _ hb
def b_28_119 (k7 : Option Nat → Int32 → Hp → Option (Hp)) (k67 : Option Nat → Int32 → Option Nat → Int32 → Hp → Option (Hp)) (v0 : Option Nat) (v1 : Int32) (v2 : Option Nat) (v3 : Int32) (s0 : Int32) (h : Hp) : Option (Hp) :=
  (gQ 3 0 v0 h).bind fun x1 =>
  (aJ x1 v1 h).bind fun x2 =>
  if s0 = 0 then b_28_139 k7 k67 v0 v1 v2 v3 x1 v1 x2 h else b_28_133 k7 k67 v0 v1 v2 v3 x1 v1 x2 h
theorem u_28_119 (d : Nat) (hd : 2 ≤ d) (k7 : Option Nat → Int32 → Hp → Option (Hp)) (K7 : ∀ (v0 : Option Nat) (v1 : Int32) (v2 : Option (Option Nat)) (v3 : Option (Int32)) (v4 : Option (Option Nat)) (v5 : Option (Int32)) (h : Hp) (r : Hp), k7 v0 v1 h = some r → Rn d 28 7 [some (va_rf v0), some (.int v1), v2.map va_rf, v3.map Value.int, v4.map va_rf, v5.map Value.int] [] h (none, r)) (k67 : Option Nat → Int32 → Option Nat → Int32 → Hp → Option (Hp)) (K67 : ∀ (v0 : Option Nat) (v1 : Int32) (v2 : Option Nat) (v3 : Int32) (v4 : Option (Option Nat)) (v5 : Option (Int32)) (h : Hp) (r : Hp), k67 v0 v1 v2 v3 h = some r → Rn d 28 67 [some (va_rf v0), some (.int v1), some (va_rf v2), some (.int v3), v4.map va_rf, v5.map Value.int] [] h (none, r)) (v0 : Option Nat) (v1 : Int32) (v2 : Option Nat) (v3 : Int32) (v4 : Option Nat) (v5 : Option (Int32)) (s0 : Int32) (h : Hp) (r : Hp) (hb : b_28_119 k7 k67 v0 v1 v2 v3 s0 h = some r) : Rn d 28 119 [some (va_rf v0), some (.int v1), some (va_rf v2), some (.int v3), some (va_rf v4), v5.map Value.int] [.int s0] h (none, r) := by
  unfold b_28_119 at hb
  refine rn_istore (i := 5) (L1 := [some (va_rf v0), some (.int v1), some (va_rf v2), some (.int v3), some (va_rf v4), some (.int s0)]) rfl (Nat.le_of_ble_eq_true rfl) (Or.inr (bd_wideR rfl)) rfl ?_
  refine rn_aload_n (i := 0) rfl rfl ?_
  refine rn_gQ (c := 3) (k := 0) rfl (by decide) hb (fun x1 hb => ?_)
  refine rn_iload_n (i := 1) rfl rfl ?_
  refine rn_dup2 rfl rfl (bd_cat_rf _) ?_
  refine rn_aJ rfl hb (fun x2 hb => ?_)
  refine rn_iload (i := 5) rfl rfl ?_
  refine rn_if_eq rfl rfl (fun hc => ?_) (fun hc => ?_)
  · exact u_28_139 d hd k7 K7 k67 K67 v0 v1 v2 v3 v4 s0 x1 v1 x2 h _ (if_t hb hc)
  · exact u_28_133 d hd k7 K7 k67 K67 v0 v1 v2 v3 v4 s0 x1 v1 x2 h _ (if_f hb hc)
def b_28_114 (k7 : Option Nat → Int32 → Hp → Option (Hp)) (k67 : Option Nat → Int32 → Option Nat → Int32 → Hp → Option (Hp)) (v0 : Option Nat) (v1 : Int32) (v2 : Option Nat) (v3 : Int32)  (h : Hp) : Option (Hp) :=
  b_28_119 k7 k67 v0 v1 v2 v3 (nI 1) h
theorem u_28_114 (d : Nat) (hd : 2 ≤ d) (k7 : Option Nat → Int32 → Hp → Option (Hp)) (K7 : ∀ (v0 : Option Nat) (v1 : Int32) (v2 : Option (Option Nat)) (v3 : Option (Int32)) (v4 : Option (Option Nat)) (v5 : Option (Int32)) (h : Hp) (r : Hp), k7 v0 v1 h = some r → Rn d 28 7 [some (va_rf v0), some (.int v1), v2.map va_rf, v3.map Value.int, v4.map va_rf, v5.map Value.int] [] h (none, r)) (k67 : Option Nat → Int32 → Option Nat → Int32 → Hp → Option (Hp)) (K67 : ∀ (v0 : Option Nat) (v1 : Int32) (v2 : Option Nat) (v3 : Int32) (v4 : Option (Option Nat)) (v5 : Option (Int32)) (h : Hp) (r : Hp), k67 v0 v1 v2 v3 h = some r → Rn d 28 67 [some (va_rf v0), some (.int v1), some (va_rf v2), some (.int v3), v4.map va_rf, v5.map Value.int] [] h (none, r)) (v0 : Option Nat) (v1 : Int32) (v2 : Option Nat) (v3 : Int32) (v4 : Option Nat) (v5 : Option (Int32))  (h : Hp) (r : Hp) (hb : b_28_114 k7 k67 v0 v1 v2 v3  h = some r) : Rn d 28 114 [some (va_rf v0), some (.int v1), some (va_rf v2), some (.int v3), some (va_rf v4), v5.map Value.int] [] h (none, r) := by
  unfold b_28_114 at hb
  refine rn_iconst (x := (nI 1)) rfl (by decide) ?_
  refine rn_goto rfl rfl ?_
  exact u_28_119 d hd k7 K7 k67 K67 v0 v1 v2 v3 v4 v5 (nI 1) h _ hb
def b_28_118 (k7 : Option Nat → Int32 → Hp → Option (Hp)) (k67 : Option Nat → Int32 → Option Nat → Int32 → Hp → Option (Hp)) (v0 : Option Nat) (v1 : Int32) (v2 : Option Nat) (v3 : Int32)  (h : Hp) : Option (Hp) :=
  b_28_119 k7 k67 v0 v1 v2 v3 (nI 0) h
theorem u_28_118 (d : Nat) (hd : 2 ≤ d) (k7 : Option Nat → Int32 → Hp → Option (Hp)) (K7 : ∀ (v0 : Option Nat) (v1 : Int32) (v2 : Option (Option Nat)) (v3 : Option (Int32)) (v4 : Option (Option Nat)) (v5 : Option (Int32)) (h : Hp) (r : Hp), k7 v0 v1 h = some r → Rn d 28 7 [some (va_rf v0), some (.int v1), v2.map va_rf, v3.map Value.int, v4.map va_rf, v5.map Value.int] [] h (none, r)) (k67 : Option Nat → Int32 → Option Nat → Int32 → Hp → Option (Hp)) (K67 : ∀ (v0 : Option Nat) (v1 : Int32) (v2 : Option Nat) (v3 : Int32) (v4 : Option (Option Nat)) (v5 : Option (Int32)) (h : Hp) (r : Hp), k67 v0 v1 v2 v3 h = some r → Rn d 28 67 [some (va_rf v0), some (.int v1), some (va_rf v2), some (.int v3), v4.map va_rf, v5.map Value.int] [] h (none, r)) (v0 : Option Nat) (v1 : Int32) (v2 : Option Nat) (v3 : Int32) (v4 : Option Nat) (v5 : Option (Int32))  (h : Hp) (r : Hp) (hb : b_28_118 k7 k67 v0 v1 v2 v3  h = some r) : Rn d 28 118 [some (va_rf v0), some (.int v1), some (va_rf v2), some (.int v3), some (va_rf v4), v5.map Value.int] [] h (none, r) := by
  unfold b_28_118 at hb
  refine rn_iconst (x := (nI 0)) rfl (by decide) ?_
  exact u_28_119 d hd k7 K7 k67 K67 v0 v1 v2 v3 v4 v5 (nI 0) h _ hb
def b_28_99 (k7 : Option Nat → Int32 → Hp → Option (Hp)) (k67 : Option Nat → Int32 → Option Nat → Int32 → Hp → Option (Hp)) (v0 : Option Nat) (v1 : Int32) (v2 : Option Nat) (v3 : Int32) (v4 : Option Nat)  (h : Hp) : Option (Hp) :=
  (grd (decide (¬ ((nI 4) : Int32) = 0))).bind fun _ =>
  (grd (decide (¬ ((nI 4) : Int32) = 0))).bind fun _ =>
  (grd (rC 1 v2 h)).bind fun _ =>
  (f_14 v2 (v1 - v1 / (nI 4) * (nI 4)) v4 (v3 - v3 / (nI 4) * (nI 4)) h).bind fun p1 =>
  if ¬ p1.1 = 0 then b_28_118 k7 k67 v0 v1 v2 v3  p1.2 else b_28_114 k7 k67 v0 v1 v2 v3  p1.2
theorem u_28_99 (d : Nat) (hd : 2 ≤ d) (k7 : Option Nat → Int32 → Hp → Option (Hp)) (K7 : ∀ (v0 : Option Nat) (v1 : Int32) (v2 : Option (Option Nat)) (v3 : Option (Int32)) (v4 : Option (Option Nat)) (v5 : Option (Int32)) (h : Hp) (r : Hp), k7 v0 v1 h = some r → Rn d 28 7 [some (va_rf v0), some (.int v1), v2.map va_rf, v3.map Value.int, v4.map va_rf, v5.map Value.int] [] h (none, r)) (k67 : Option Nat → Int32 → Option Nat → Int32 → Hp → Option (Hp)) (K67 : ∀ (v0 : Option Nat) (v1 : Int32) (v2 : Option Nat) (v3 : Int32) (v4 : Option (Option Nat)) (v5 : Option (Int32)) (h : Hp) (r : Hp), k67 v0 v1 v2 v3 h = some r → Rn d 28 67 [some (va_rf v0), some (.int v1), some (va_rf v2), some (.int v3), v4.map va_rf, v5.map Value.int] [] h (none, r)) (v0 : Option Nat) (v1 : Int32) (v2 : Option Nat) (v3 : Int32) (v4 : Option Nat) (v5 : Option (Int32))  (h : Hp) (r : Hp) (hb : b_28_99 k7 k67 v0 v1 v2 v3 v4  h = some r) : Rn d 28 99 [some (va_rf v0), some (.int v1), some (va_rf v2), some (.int v3), some (va_rf v4), v5.map Value.int] [] h (none, r) := by
  unfold b_28_99 at hb
  obtain ⟨e, rfl⟩ : ∃ e, d = e + 1 := ⟨d - 1, by omega⟩
  refine rn_aload_n (i := 2) rfl rfl ?_
  refine rn_iload_n (i := 1) rfl rfl ?_
  refine rn_iconst (x := (nI 4)) rfl (by decide) ?_
  obtain ⟨hy, hb⟩ := grd_spec hb
  refine rn_irem rfl (of_decide_eq_true hy) ?_
  refine rn_aload (i := 4) rfl rfl ?_
  refine rn_iload_n (i := 3) rfl rfl ?_
  refine rn_iconst (x := (nI 4)) rfl (by decide) ?_
  obtain ⟨hy, hb⟩ := grd_spec hb
  refine rn_irem rfl (of_decide_eq_true hy) ?_
  obtain ⟨hrc, hb⟩ := grd_spec hb
  obtain ⟨p1, hc, hb⟩ := Option.bind_eq_some_iff.mp hb
  refine Rn.call1 (d := e) (As := [va_rf v2, .int (v1 - v1 / (nI 4) * (nI 4)), va_rf v4, .int (v3 - v3 / (nI 4) * (nI 4))]) (rest := []) rfl rfl rfl (by decide) rfl rfl rfl (bd_rcV hrc rfl) (by decide) (bd_lenC (n := 4) rfl (bd_slR (bd_slI (bd_slR (bd_slI bd_slN)))) rfl) (bd_locC (n := 4) rfl (bd_slR (bd_slI (bd_slR (bd_slI bd_slN)))) rfl (t_14 e (by omega) v2 (v1 - v1 / (nI 4) * (nI 4)) v4 (v3 - v3 / (nI 4) * (nI 4)) h _ hc)) ?_
  refine rn_if_ne rfl rfl (fun hc => ?_) (fun hc => ?_)
  · exact u_28_118 (e + 1) hd k7 K7 k67 K67 v0 v1 v2 v3 v4 v5  p1.2 _ (if_t hb hc)
  · exact u_28_114 (e + 1) hd k7 K7 k67 K67 v0 v1 v2 v3 v4 v5  p1.2 _ (if_f hb hc)
def b_28_80 (k7 : Option Nat → Int32 → Hp → Option (Hp)) (k67 : Option Nat → Int32 → Option Nat → Int32 → Hp → Option (Hp)) (v0 : Option Nat) (v1 : Int32) (v2 : Option Nat) (v3 : Int32)  (h : Hp) : Option (Hp) :=
  (gQ 3 2 v0 h).bind fun x1 =>
  (gQ 4 1 x1 h).bind fun x2 =>
  (grd (decide (¬ ((nI 4) : Int32) = 0))).bind fun _ =>
  (aQ x2 (v3 / (nI 4)) h).bind fun x3 =>
  (grd (dY v2 && dY x3)).bind fun _ =>
  if v2 = x3 then b_28_114 k7 k67 v0 v1 v2 v3  h else b_28_99 k7 k67 v0 v1 v2 v3 x3  h
theorem u_28_80 (d : Nat) (hd : 2 ≤ d) (k7 : Option Nat → Int32 → Hp → Option (Hp)) (K7 : ∀ (v0 : Option Nat) (v1 : Int32) (v2 : Option (Option Nat)) (v3 : Option (Int32)) (v4 : Option (Option Nat)) (v5 : Option (Int32)) (h : Hp) (r : Hp), k7 v0 v1 h = some r → Rn d 28 7 [some (va_rf v0), some (.int v1), v2.map va_rf, v3.map Value.int, v4.map va_rf, v5.map Value.int] [] h (none, r)) (k67 : Option Nat → Int32 → Option Nat → Int32 → Hp → Option (Hp)) (K67 : ∀ (v0 : Option Nat) (v1 : Int32) (v2 : Option Nat) (v3 : Int32) (v4 : Option (Option Nat)) (v5 : Option (Int32)) (h : Hp) (r : Hp), k67 v0 v1 v2 v3 h = some r → Rn d 28 67 [some (va_rf v0), some (.int v1), some (va_rf v2), some (.int v3), v4.map va_rf, v5.map Value.int] [] h (none, r)) (v0 : Option Nat) (v1 : Int32) (v2 : Option Nat) (v3 : Int32) (v4 : Option (Option Nat)) (v5 : Option (Int32))  (h : Hp) (r : Hp) (hb : b_28_80 k7 k67 v0 v1 v2 v3  h = some r) : Rn d 28 80 [some (va_rf v0), some (.int v1), some (va_rf v2), some (.int v3), v4.map va_rf, v5.map Value.int] [] h (none, r) := by
  unfold b_28_80 at hb
  refine rn_aload_n (i := 0) rfl rfl ?_
  refine rn_gQ (c := 3) (k := 2) rfl (by decide) hb (fun x1 hb => ?_)
  refine rn_gQ (c := 4) (k := 1) rfl (by decide) hb (fun x2 hb => ?_)
  refine rn_iload_n (i := 3) rfl rfl ?_
  refine rn_iconst (x := (nI 4)) rfl (by decide) ?_
  obtain ⟨hy, hb⟩ := grd_spec hb
  refine rn_idiv rfl (of_decide_eq_true hy) ?_
  refine rn_aQ rfl hb (fun x3 hb => ?_)
  refine rn_astore (i := 4) (L1 := [some (va_rf v0), some (.int v1), some (va_rf v2), some (.int v3), some (va_rf x3), v5.map Value.int]) rfl (Nat.le_of_ble_eq_true rfl) (Or.inr rfl) rfl ?_
  refine rn_aload_n (i := 2) rfl rfl ?_
  refine rn_aload (i := 4) rfl rfl ?_
  obtain ⟨hdy, hb⟩ := grd_spec hb
  obtain ⟨hdx, hdy⟩ := Bool.and_eq_true_iff.mp hdy
  refine rn_acmp_eq rfl hdx hdy rfl (fun hc => ?_) (fun hc => ?_)
  · exact u_28_114 d hd k7 K7 k67 K67 v0 v1 v2 v3 x3 v5  h _ (if_t hb hc)
  · exact u_28_99 d hd k7 K7 k67 K67 v0 v1 v2 v3 x3 v5  h _ (if_f hb hc)
def b_28_67 (k7 : Option Nat → Int32 → Hp → Option (Hp)) (k67 : Option Nat → Int32 → Option Nat → Int32 → Hp → Option (Hp)) (v0 : Option Nat) (v1 : Int32) (v2 : Option Nat) (v3 : Int32)  (h : Hp) : Option (Hp) :=
  (gQ 3 2 v0 h).bind fun x1 =>
  (gI 4 5 x1 h).bind fun x2 =>
  if ((nI 4) * x2) ≤ v3 then b_28_148 k7 v0 v1  h else b_28_80 k7 k67 v0 v1 v2 v3  h
theorem u_28_67 (d : Nat) (hd : 2 ≤ d) (k7 : Option Nat → Int32 → Hp → Option (Hp)) (K7 : ∀ (v0 : Option Nat) (v1 : Int32) (v2 : Option (Option Nat)) (v3 : Option (Int32)) (v4 : Option (Option Nat)) (v5 : Option (Int32)) (h : Hp) (r : Hp), k7 v0 v1 h = some r → Rn d 28 7 [some (va_rf v0), some (.int v1), v2.map va_rf, v3.map Value.int, v4.map va_rf, v5.map Value.int] [] h (none, r)) (k67 : Option Nat → Int32 → Option Nat → Int32 → Hp → Option (Hp)) (K67 : ∀ (v0 : Option Nat) (v1 : Int32) (v2 : Option Nat) (v3 : Int32) (v4 : Option (Option Nat)) (v5 : Option (Int32)) (h : Hp) (r : Hp), k67 v0 v1 v2 v3 h = some r → Rn d 28 67 [some (va_rf v0), some (.int v1), some (va_rf v2), some (.int v3), v4.map va_rf, v5.map Value.int] [] h (none, r)) (v0 : Option Nat) (v1 : Int32) (v2 : Option Nat) (v3 : Int32) (v4 : Option (Option Nat)) (v5 : Option (Int32))  (h : Hp) (r : Hp) (hb : b_28_67 k7 k67 v0 v1 v2 v3  h = some r) : Rn d 28 67 [some (va_rf v0), some (.int v1), some (va_rf v2), some (.int v3), v4.map va_rf, v5.map Value.int] [] h (none, r) := by
  unfold b_28_67 at hb
  refine rn_iload_n (i := 3) rfl rfl ?_
  refine rn_iconst (x := (nI 4)) rfl (by decide) ?_
  refine rn_aload_n (i := 0) rfl rfl ?_
  refine rn_gQ (c := 3) (k := 2) rfl (by decide) hb (fun x1 hb => ?_)
  refine rn_gI (c := 4) (k := 5) rfl (by decide) hb (fun x2 hb => ?_)
  refine rn_imul rfl ?_
  refine rn_icmp_ge rfl rfl (fun hc => ?_) (fun hc => ?_)
  · exact u_28_148 d hd k7 K7 v0 v1 v2 v3 v4 v5  h _ (if_t hb hc)
  · exact u_28_80 d hd k7 K7 k67 K67 v0 v1 v2 v3 v4 v5  h _ (if_f hb hc)
def l_28_67 (k7 : Option Nat → Int32 → Hp → Option (Hp)) : Nat → Option Nat → Int32 → Option Nat → Int32 → Hp → Option (Hp)
  | 0, _, _, _, _, _ => none
  | n + 1, v0, v1, v2, v3, h => b_28_67 k7 (l_28_67 k7 n) v0 v1 v2 v3 h
theorem w_28_67 (d : Nat) (hd : 2 ≤ d) (k7 : Option Nat → Int32 → Hp → Option (Hp)) (K7 : ∀ (v0 : Option Nat) (v1 : Int32) (v2 : Option (Option Nat)) (v3 : Option (Int32)) (v4 : Option (Option Nat)) (v5 : Option (Int32)) (h : Hp) (r : Hp), k7 v0 v1 h = some r → Rn d 28 7 [some (va_rf v0), some (.int v1), v2.map va_rf, v3.map Value.int, v4.map va_rf, v5.map Value.int] [] h (none, r)) : ∀ (n : Nat) (v0 : Option Nat) (v1 : Int32) (v2 : Option Nat) (v3 : Int32) (v4 : Option (Option Nat)) (v5 : Option (Int32)) (h : Hp) (r : Hp), l_28_67 k7 n v0 v1 v2 v3 h = some r → Rn d 28 67 [some (va_rf v0), some (.int v1), some (va_rf v2), some (.int v3), v4.map va_rf, v5.map Value.int] [] h (none, r) := by
  intro n
  induction n with
  | zero => intro v0 v1 v2 v3 v4 v5 h r hb; cases hb
  | succ n ih => intro v0 v1 v2 v3 v4 v5 h r hb; exact u_28_67 d hd k7 K7 (l_28_67 k7 n) ih v0 v1 v2 v3 v4 v5 h r hb
def b_28_54 (k7 : Option Nat → Int32 → Hp → Option (Hp)) (v0 : Option Nat) (v1 : Int32) (v2 : Option Nat) (s0 : Option Nat) (s1 : Int64) (s2 : Int64) (h : Hp) : Option (Hp) :=
  (pJ 3 1 s0 (s1 ||| s2) h).bind fun h1 =>
  (gQ 3 0 v0 h1).bind fun x2 =>
  (wJ x2 v1 (lN 0) h1).bind fun h3 =>
  bnd ((nI 0)) fun x4 =>
  l_28_67 k7 FU v0 v1 v2 x4 h3
theorem u_28_54 (d : Nat) (hd : 2 ≤ d) (k7 : Option Nat → Int32 → Hp → Option (Hp)) (K7 : ∀ (v0 : Option Nat) (v1 : Int32) (v2 : Option (Option Nat)) (v3 : Option (Int32)) (v4 : Option (Option Nat)) (v5 : Option (Int32)) (h : Hp) (r : Hp), k7 v0 v1 h = some r → Rn d 28 7 [some (va_rf v0), some (.int v1), v2.map va_rf, v3.map Value.int, v4.map va_rf, v5.map Value.int] [] h (none, r)) (v0 : Option Nat) (v1 : Int32) (v2 : Option Nat) (v3 : Option (Int32)) (v4 : Option (Option Nat)) (v5 : Option (Int32)) (s0 : Option Nat) (s1 : Int64) (s2 : Int64) (h : Hp) (r : Hp) (hb : b_28_54 k7 v0 v1 v2 s0 s1 s2 h = some r) : Rn d 28 54 [some (va_rf v0), some (.int v1), some (va_rf v2), v3.map Value.int, v4.map va_rf, v5.map Value.int] [.long s2, .long s1, va_rf s0] h (none, r) := by
  unfold b_28_54 at hb
  refine rn_lor rfl ?_
  refine rn_pJ (c := 3) (k := 1) rfl (by decide) hb (fun h1 hb => ?_)
  refine rn_aload_n (i := 0) rfl rfl ?_
  refine rn_gQ (c := 3) (k := 0) rfl (by decide) hb (fun x2 hb => ?_)
  refine rn_iload_n (i := 1) rfl rfl ?_
  refine rn_lconst (x := (lN 0)) rfl (by decide) ?_
  refine rn_wJ rfl hb (fun h3 hb => ?_)
  refine rn_iconst (x := (nI 0)) rfl (by decide) ?_
  obtain ⟨x4, ex4, hb⟩ := bnd_spec hb
  refine rn_istore_n (i := 3) (L1 := [some (va_rf v0), some (.int v1), some (va_rf v2), some (.int x4), v4.map va_rf, v5.map Value.int]) rfl (Nat.le_of_ble_eq_true rfl) (Or.inr (bd_wideR rfl)) (by rw [ex4]; rfl) ?_
  exact w_28_67 d hd k7 K7 FU v0 v1 v2 x4 v4 v5 h3 _ hb
def b_28_53 (k7 : Option Nat → Int32 → Hp → Option (Hp)) (v0 : Option Nat) (v1 : Int32) (v2 : Option Nat) (s0 : Option Nat) (s1 : Int64) (h : Hp) : Option (Hp) :=
  b_28_54 k7 v0 v1 v2 s0 s1 (lN 0) h
theorem u_28_53 (d : Nat) (hd : 2 ≤ d) (k7 : Option Nat → Int32 → Hp → Option (Hp)) (K7 : ∀ (v0 : Option Nat) (v1 : Int32) (v2 : Option (Option Nat)) (v3 : Option (Int32)) (v4 : Option (Option Nat)) (v5 : Option (Int32)) (h : Hp) (r : Hp), k7 v0 v1 h = some r → Rn d 28 7 [some (va_rf v0), some (.int v1), v2.map va_rf, v3.map Value.int, v4.map va_rf, v5.map Value.int] [] h (none, r)) (v0 : Option Nat) (v1 : Int32) (v2 : Option Nat) (v3 : Option (Int32)) (v4 : Option (Option Nat)) (v5 : Option (Int32)) (s0 : Option Nat) (s1 : Int64) (h : Hp) (r : Hp) (hb : b_28_53 k7 v0 v1 v2 s0 s1 h = some r) : Rn d 28 53 [some (va_rf v0), some (.int v1), some (va_rf v2), v3.map Value.int, v4.map va_rf, v5.map Value.int] [.long s1, va_rf s0] h (none, r) := by
  unfold b_28_53 at hb
  refine rn_lconst (x := (lN 0)) rfl (by decide) ?_
  exact u_28_54 d hd k7 K7 v0 v1 v2 v3 v4 v5 s0 s1 (lN 0) h _ hb
def b_28_47 (k7 : Option Nat → Int32 → Hp → Option (Hp)) (v0 : Option Nat) (v1 : Int32) (v2 : Option Nat) (s0 : Option Nat) (s1 : Int64) (h : Hp) : Option (Hp) :=
  b_28_54 k7 v0 v1 v2 s0 s1 ((lN 1) <<< (v1.toInt64 &&& 63)) h
theorem u_28_47 (d : Nat) (hd : 2 ≤ d) (k7 : Option Nat → Int32 → Hp → Option (Hp)) (K7 : ∀ (v0 : Option Nat) (v1 : Int32) (v2 : Option (Option Nat)) (v3 : Option (Int32)) (v4 : Option (Option Nat)) (v5 : Option (Int32)) (h : Hp) (r : Hp), k7 v0 v1 h = some r → Rn d 28 7 [some (va_rf v0), some (.int v1), v2.map va_rf, v3.map Value.int, v4.map va_rf, v5.map Value.int] [] h (none, r)) (v0 : Option Nat) (v1 : Int32) (v2 : Option Nat) (v3 : Option (Int32)) (v4 : Option (Option Nat)) (v5 : Option (Int32)) (s0 : Option Nat) (s1 : Int64) (h : Hp) (r : Hp) (hb : b_28_47 k7 v0 v1 v2 s0 s1 h = some r) : Rn d 28 47 [some (va_rf v0), some (.int v1), some (va_rf v2), v3.map Value.int, v4.map va_rf, v5.map Value.int] [.long s1, va_rf s0] h (none, r) := by
  unfold b_28_47 at hb
  refine rn_lconst (x := (lN 1)) rfl (by decide) ?_
  refine rn_iload_n (i := 1) rfl rfl ?_
  refine rn_lshl rfl ?_
  refine rn_goto rfl rfl ?_
  exact u_28_54 d hd k7 K7 v0 v1 v2 v3 v4 v5 s0 s1 ((lN 1) <<< (v1.toInt64 &&& 63)) h _ hb
def b_28_20 (k7 : Option Nat → Int32 → Hp → Option (Hp)) (v0 : Option Nat) (v1 : Int32)  (h : Hp) : Option (Hp) :=
  (gQ 3 2 v0 h).bind fun x1 =>
  (gQ 4 1 x1 h).bind fun x2 =>
  (grd (decide (¬ ((nI 4) : Int32) = 0))).bind fun _ =>
  (aQ x2 (v1 / (nI 4)) h).bind fun x3 =>
  (gJ 3 1 v0 h).bind fun x4 =>
  (grd (decide (¬ ((nI 4) : Int32) = 0))).bind fun _ =>
  (grd (rC 1 x3 h)).bind fun _ =>
  (f_10 x3 (v1 - v1 / (nI 4) * (nI 4)) h).bind fun p5 =>
  if p5.1 = 0 then b_28_53 k7 v0 v1 x3 v0 x4 p5.2 else b_28_47 k7 v0 v1 x3 v0 x4 p5.2
theorem u_28_20 (d : Nat) (hd : 2 ≤ d) (k7 : Option Nat → Int32 → Hp → Option (Hp)) (K7 : ∀ (v0 : Option Nat) (v1 : Int32) (v2 : Option (Option Nat)) (v3 : Option (Int32)) (v4 : Option (Option Nat)) (v5 : Option (Int32)) (h : Hp) (r : Hp), k7 v0 v1 h = some r → Rn d 28 7 [some (va_rf v0), some (.int v1), v2.map va_rf, v3.map Value.int, v4.map va_rf, v5.map Value.int] [] h (none, r)) (v0 : Option Nat) (v1 : Int32) (v2 : Option (Option Nat)) (v3 : Option (Int32)) (v4 : Option (Option Nat)) (v5 : Option (Int32))  (h : Hp) (r : Hp) (hb : b_28_20 k7 v0 v1  h = some r) : Rn d 28 20 [some (va_rf v0), some (.int v1), v2.map va_rf, v3.map Value.int, v4.map va_rf, v5.map Value.int] [] h (none, r) := by
  unfold b_28_20 at hb
  obtain ⟨e, rfl⟩ : ∃ e, d = e + 1 := ⟨d - 1, by omega⟩
  refine rn_aload_n (i := 0) rfl rfl ?_
  refine rn_gQ (c := 3) (k := 2) rfl (by decide) hb (fun x1 hb => ?_)
  refine rn_gQ (c := 4) (k := 1) rfl (by decide) hb (fun x2 hb => ?_)
  refine rn_iload_n (i := 1) rfl rfl ?_
  refine rn_iconst (x := (nI 4)) rfl (by decide) ?_
  obtain ⟨hy, hb⟩ := grd_spec hb
  refine rn_idiv rfl (of_decide_eq_true hy) ?_
  refine rn_aQ rfl hb (fun x3 hb => ?_)
  refine rn_astore_n (i := 2) (L1 := [some (va_rf v0), some (.int v1), some (va_rf x3), v3.map Value.int, v4.map va_rf, v5.map Value.int]) rfl (Nat.le_of_ble_eq_true rfl) (Or.inr rfl) rfl ?_
  refine rn_aload_n (i := 0) rfl rfl ?_
  refine rn_dup rfl (bd_cat_rf _) ?_
  refine rn_gJ (c := 3) (k := 1) rfl (by decide) hb (fun x4 hb => ?_)
  refine rn_aload_n (i := 2) rfl rfl ?_
  refine rn_iload_n (i := 1) rfl rfl ?_
  refine rn_iconst (x := (nI 4)) rfl (by decide) ?_
  obtain ⟨hy, hb⟩ := grd_spec hb
  refine rn_irem rfl (of_decide_eq_true hy) ?_
  obtain ⟨hrc, hb⟩ := grd_spec hb
  obtain ⟨p5, hc, hb⟩ := Option.bind_eq_some_iff.mp hb
  refine Rn.call1 (d := e) (As := [va_rf x3, .int (v1 - v1 / (nI 4) * (nI 4))]) (rest := [.long x4, va_rf v0]) rfl rfl rfl (by decide) rfl rfl rfl (bd_rcV hrc rfl) (by rw [bd_cJ (bd_cR (bd_cN))]; decide) (bd_lenC (n := 2) rfl (bd_slR (bd_slI bd_slN)) rfl) (bd_locC (n := 2) rfl (bd_slR (bd_slI bd_slN)) rfl (t_10 e (by omega) x3 (v1 - v1 / (nI 4) * (nI 4)) h _ hc)) ?_
  refine rn_if_eq rfl rfl (fun hc => ?_) (fun hc => ?_)
  · exact u_28_53 (e + 1) hd k7 K7 v0 v1 x3 v3 v4 v5 v0 x4 p5.2 _ (if_t hb hc)
  · exact u_28_47 (e + 1) hd k7 K7 v0 v1 x3 v3 v4 v5 v0 x4 p5.2 _ (if_f hb hc)
def b_28_7 (k7 : Option Nat → Int32 → Hp → Option (Hp)) (v0 : Option Nat) (v1 : Int32)  (h : Hp) : Option (Hp) :=
  (gQ 3 2 v0 h).bind fun x1 =>
  (gI 4 5 x1 h).bind fun x2 =>
  if ((nI 4) * x2) ≤ v1 then b_28_154   h else b_28_20 k7 v0 v1  h
theorem u_28_7 (d : Nat) (hd : 2 ≤ d) (k7 : Option Nat → Int32 → Hp → Option (Hp)) (K7 : ∀ (v0 : Option Nat) (v1 : Int32) (v2 : Option (Option Nat)) (v3 : Option (Int32)) (v4 : Option (Option Nat)) (v5 : Option (Int32)) (h : Hp) (r : Hp), k7 v0 v1 h = some r → Rn d 28 7 [some (va_rf v0), some (.int v1), v2.map va_rf, v3.map Value.int, v4.map va_rf, v5.map Value.int] [] h (none, r)) (v0 : Option Nat) (v1 : Int32) (v2 : Option (Option Nat)) (v3 : Option (Int32)) (v4 : Option (Option Nat)) (v5 : Option (Int32))  (h : Hp) (r : Hp) (hb : b_28_7 k7 v0 v1  h = some r) : Rn d 28 7 [some (va_rf v0), some (.int v1), v2.map va_rf, v3.map Value.int, v4.map va_rf, v5.map Value.int] [] h (none, r) := by
  unfold b_28_7 at hb
  refine rn_iload_n (i := 1) rfl rfl ?_
  refine rn_iconst (x := (nI 4)) rfl (by decide) ?_
  refine rn_aload_n (i := 0) rfl rfl ?_
  refine rn_gQ (c := 3) (k := 2) rfl (by decide) hb (fun x1 hb => ?_)
  refine rn_gI (c := 4) (k := 5) rfl (by decide) hb (fun x2 hb => ?_)
  refine rn_imul rfl ?_
  refine rn_icmp_ge rfl rfl (fun hc => ?_) (fun hc => ?_)
  · exact u_28_154 d hd v0 v1 v2 v3 v4 v5  h _ (if_t hb hc)
  · exact u_28_20 d hd k7 K7 v0 v1 v2 v3 v4 v5  h _ (if_f hb hc)
def l_28_7 : Nat → Option Nat → Int32 → Hp → Option (Hp)
  | 0, _, _, _ => none
  | n + 1, v0, v1, h => b_28_7 (l_28_7 n) v0 v1 h
theorem w_28_7 (d : Nat) (hd : 2 ≤ d) : ∀ (n : Nat) (v0 : Option Nat) (v1 : Int32) (v2 : Option (Option Nat)) (v3 : Option (Int32)) (v4 : Option (Option Nat)) (v5 : Option (Int32)) (h : Hp) (r : Hp), l_28_7 n v0 v1 h = some r → Rn d 28 7 [some (va_rf v0), some (.int v1), v2.map va_rf, v3.map Value.int, v4.map va_rf, v5.map Value.int] [] h (none, r) := by
  intro n
  induction n with
  | zero => intro v0 v1 v2 v3 v4 v5 h r hb; cases hb
  | succ n ih => intro v0 v1 v2 v3 v4 v5 h r hb; exact u_28_7 d hd (l_28_7 n) ih v0 v1 v2 v3 v4 v5 h r hb
def b_28_0 (v0 : Option Nat)  (h : Hp) : Option (Hp) :=
  (pJ 3 1 v0 (lN 0) h).bind fun h1 =>
  bnd ((nI 0)) fun x2 =>
  l_28_7 FU v0 x2 h1
theorem u_28_0 (d : Nat) (hd : 2 ≤ d) (v0 : Option Nat)  (h : Hp) (r : Hp) (hb : b_28_0 v0  h = some r) : Rn d 28 0 [some (va_rf v0), none, none, none, none, none] [] h (none, r) := by
  unfold b_28_0 at hb
  refine rn_aload_n (i := 0) rfl rfl ?_
  refine rn_lconst (x := (lN 0)) rfl (by decide) ?_
  refine rn_pJ (c := 3) (k := 1) rfl (by decide) hb (fun h1 hb => ?_)
  refine rn_iconst (x := (nI 0)) rfl (by decide) ?_
  obtain ⟨x2, ex2, hb⟩ := bnd_spec hb
  refine rn_istore_n (i := 1) (L1 := [some (va_rf v0), some (.int x2), none, none, none, none]) rfl (Nat.le_of_ble_eq_true rfl) (Or.inr (bd_wideR rfl)) (by rw [ex2]; rfl) ?_
  exact w_28_7 d hd FU v0 x2 (none : Option (Option Nat)) (none : Option (Int32)) (none : Option (Option Nat)) (none : Option (Int32)) h1 _ hb
/-- BitingDoors$Hanger.relate()V -/
def f_28 (v0 : Option Nat) (h : Hp) : Option (Hp) := b_28_0 v0 h
theorem t_28 (d : Nat) (hd : 2 ≤ d) (v0 : Option Nat) (h : Hp) (r : Hp) (hb : f_28 v0 h = some r) : Rn d 28 0 [some (va_rf v0), none, none, none, none, none] [] h (none, r) := by
  unfold f_28 at hb
  exact u_28_0 d hd v0 h r hb
def b_27_103   (h : Hp) : Option (Hp) :=
  some h
theorem u_27_103 (d : Nat) (hd : 3 ≤ d) (v0 : Option Nat) (v1 : Option Nat) (v2 : Int32) (v3 : Int32)  (h : Hp) (r : Hp) (hb : b_27_103   h = some r) : Rn d 27 103 [some (va_rf v0), some (va_rf v1), some (.int v2), some (.int v3)] [] h (none, r) := by
  unfold b_27_103 at hb
  obtain rfl := Option.some.inj hb
  exact rn_vret rfl rfl
def b_27_93 (v0 : Option Nat)  (h : Hp) : Option (Hp) :=
  (pI 3 5 v0 (-1 : Int32) h).bind fun h1 =>
  (pI 3 7 v0 (-1 : Int32) h1).bind fun h2 =>
  b_27_103   h2
theorem u_27_93 (d : Nat) (hd : 3 ≤ d) (v0 : Option Nat) (v1 : Option Nat) (v2 : Int32) (v3 : Int32)  (h : Hp) (r : Hp) (hb : b_27_93 v0  h = some r) : Rn d 27 93 [some (va_rf v0), some (va_rf v1), some (.int v2), some (.int v3)] [] h (none, r) := by
  unfold b_27_93 at hb
  refine rn_aload_n (i := 0) rfl rfl ?_
  refine rn_iconst (x := (-1 : Int32)) rfl (by decide) ?_
  refine rn_pI (c := 3) (k := 5) rfl (by decide) hb (fun h1 hb => ?_)
  refine rn_aload_n (i := 0) rfl rfl ?_
  refine rn_iconst (x := (-1 : Int32)) rfl (by decide) ?_
  refine rn_pI (c := 3) (k := 7) rfl (by decide) hb (fun h2 hb => ?_)
  exact u_27_103 d hd v0 v1 v2 v3  h2 _ hb
def b_27_89 (v0 : Option Nat) (v2 : Int32)  (h : Hp) : Option (Hp) :=
  if ¬ v2 = 0 then b_27_103   h else b_27_93 v0  h
theorem u_27_89 (d : Nat) (hd : 3 ≤ d) (v0 : Option Nat) (v1 : Option Nat) (v2 : Int32) (v3 : Int32)  (h : Hp) (r : Hp) (hb : b_27_89 v0 v2  h = some r) : Rn d 27 89 [some (va_rf v0), some (va_rf v1), some (.int v2), some (.int v3)] [] h (none, r) := by
  unfold b_27_89 at hb
  refine rn_iload_n (i := 2) rfl rfl ?_
  refine rn_if_ne rfl rfl (fun hc => ?_) (fun hc => ?_)
  · exact u_27_103 d hd v0 v1 v2 v3  h _ (if_t hb hc)
  · exact u_27_93 d hd v0 v1 v2 v3  h _ (if_f hb hc)
def b_27_70 (k35 : Option Nat → Option Nat → Int32 → Int32 → Hp → Option (Hp)) (v0 : Option Nat) (v1 : Option Nat) (v3 : Int32) (s0 : Int32) (h : Hp) : Option (Hp) :=
  (gQ 3 3 v0 h).bind fun x1 =>
  (gQ 7 0 v1 h).bind fun x2 =>
  (aI 12 x2 v3 h).bind fun x3 =>
  (wI x1 v3 x3 h).bind fun h4 =>
  bnd (v3 + (nI 1)) fun x5 =>
  k35 v0 v1 s0 x5 h4
theorem u_27_70 (d : Nat) (hd : 3 ≤ d) (k35 : Option Nat → Option Nat → Int32 → Int32 → Hp → Option (Hp)) (K35 : ∀ (v0 : Option Nat) (v1 : Option Nat) (v2 : Int32) (v3 : Int32) (h : Hp) (r : Hp), k35 v0 v1 v2 v3 h = some r → Rn d 27 35 [some (va_rf v0), some (va_rf v1), some (.int v2), some (.int v3)] [] h (none, r)) (v0 : Option Nat) (v1 : Option Nat) (v2 : Int32) (v3 : Int32) (s0 : Int32) (h : Hp) (r : Hp) (hb : b_27_70 k35 v0 v1 v3 s0 h = some r) : Rn d 27 70 [some (va_rf v0), some (va_rf v1), some (.int v2), some (.int v3)] [.int s0] h (none, r) := by
  unfold b_27_70 at hb
  refine rn_istore_n (i := 2) (L1 := [some (va_rf v0), some (va_rf v1), some (.int s0), some (.int v3)]) rfl (Nat.le_of_ble_eq_true rfl) (Or.inr (bd_wideR rfl)) rfl ?_
  refine rn_aload_n (i := 0) rfl rfl ?_
  refine rn_gQ (c := 3) (k := 3) rfl (by decide) hb (fun x1 hb => ?_)
  refine rn_iload_n (i := 3) rfl rfl ?_
  refine rn_aload_n (i := 1) rfl rfl ?_
  refine rn_gQ (c := 7) (k := 0) rfl (by decide) hb (fun x2 hb => ?_)
  refine rn_iload_n (i := 3) rfl rfl ?_
  refine rn_aI rfl hb (fun x3 hb => ?_)
  refine rn_wI rfl hb (fun h4 hb => ?_)
  obtain ⟨x5, ex5, hb⟩ := bnd_spec hb
  refine rn_iinc (i := 3) (y := x5) (L1 := [some (va_rf v0), some (va_rf v1), some (.int s0), some (.int x5)]) rfl rfl (Nat.le_of_ble_eq_true rfl) (Or.inr rfl) (by rw [ex5]; rfl) rfl ?_
  refine rn_goto rfl rfl ?_
  exact K35 v0 v1 s0 x5 h4 _ hb
def b_27_69 (k35 : Option Nat → Option Nat → Int32 → Int32 → Hp → Option (Hp)) (v0 : Option Nat) (v1 : Option Nat) (v3 : Int32)  (h : Hp) : Option (Hp) :=
  b_27_70 k35 v0 v1 v3 (nI 0) h
theorem u_27_69 (d : Nat) (hd : 3 ≤ d) (k35 : Option Nat → Option Nat → Int32 → Int32 → Hp → Option (Hp)) (K35 : ∀ (v0 : Option Nat) (v1 : Option Nat) (v2 : Int32) (v3 : Int32) (h : Hp) (r : Hp), k35 v0 v1 v2 v3 h = some r → Rn d 27 35 [some (va_rf v0), some (va_rf v1), some (.int v2), some (.int v3)] [] h (none, r)) (v0 : Option Nat) (v1 : Option Nat) (v2 : Int32) (v3 : Int32)  (h : Hp) (r : Hp) (hb : b_27_69 k35 v0 v1 v3  h = some r) : Rn d 27 69 [some (va_rf v0), some (va_rf v1), some (.int v2), some (.int v3)] [] h (none, r) := by
  unfold b_27_69 at hb
  refine rn_iconst (x := (nI 0)) rfl (by decide) ?_
  exact u_27_70 d hd k35 K35 v0 v1 v2 v3 (nI 0) h _ hb
def b_27_65 (k35 : Option Nat → Option Nat → Int32 → Int32 → Hp → Option (Hp)) (v0 : Option Nat) (v1 : Option Nat) (v3 : Int32)  (h : Hp) : Option (Hp) :=
  b_27_70 k35 v0 v1 v3 (nI 1) h
theorem u_27_65 (d : Nat) (hd : 3 ≤ d) (k35 : Option Nat → Option Nat → Int32 → Int32 → Hp → Option (Hp)) (K35 : ∀ (v0 : Option Nat) (v1 : Option Nat) (v2 : Int32) (v3 : Int32) (h : Hp) (r : Hp), k35 v0 v1 v2 v3 h = some r → Rn d 27 35 [some (va_rf v0), some (va_rf v1), some (.int v2), some (.int v3)] [] h (none, r)) (v0 : Option Nat) (v1 : Option Nat) (v2 : Int32) (v3 : Int32)  (h : Hp) (r : Hp) (hb : b_27_65 k35 v0 v1 v3  h = some r) : Rn d 27 65 [some (va_rf v0), some (va_rf v1), some (.int v2), some (.int v3)] [] h (none, r) := by
  unfold b_27_65 at hb
  refine rn_iconst (x := (nI 1)) rfl (by decide) ?_
  refine rn_goto rfl rfl ?_
  exact u_27_70 d hd k35 K35 v0 v1 v2 v3 (nI 1) h _ hb
def b_27_50 (k35 : Option Nat → Option Nat → Int32 → Int32 → Hp → Option (Hp)) (v0 : Option Nat) (v1 : Option Nat) (v3 : Int32)  (h : Hp) : Option (Hp) :=
  (gQ 3 3 v0 h).bind fun x1 =>
  (aI 12 x1 v3 h).bind fun x2 =>
  (gQ 7 0 v1 h).bind fun x3 =>
  (aI 12 x3 v3 h).bind fun x4 =>
  if ¬ x2 = x4 then b_27_69 k35 v0 v1 v3  h else b_27_65 k35 v0 v1 v3  h
theorem u_27_50 (d : Nat) (hd : 3 ≤ d) (k35 : Option Nat → Option Nat → Int32 → Int32 → Hp → Option (Hp)) (K35 : ∀ (v0 : Option Nat) (v1 : Option Nat) (v2 : Int32) (v3 : Int32) (h : Hp) (r : Hp), k35 v0 v1 v2 v3 h = some r → Rn d 27 35 [some (va_rf v0), some (va_rf v1), some (.int v2), some (.int v3)] [] h (none, r)) (v0 : Option Nat) (v1 : Option Nat) (v2 : Int32) (v3 : Int32)  (h : Hp) (r : Hp) (hb : b_27_50 k35 v0 v1 v3  h = some r) : Rn d 27 50 [some (va_rf v0), some (va_rf v1), some (.int v2), some (.int v3)] [] h (none, r) := by
  unfold b_27_50 at hb
  refine rn_aload_n (i := 0) rfl rfl ?_
  refine rn_gQ (c := 3) (k := 3) rfl (by decide) hb (fun x1 hb => ?_)
  refine rn_iload_n (i := 3) rfl rfl ?_
  refine rn_aI rfl hb (fun x2 hb => ?_)
  refine rn_aload_n (i := 1) rfl rfl ?_
  refine rn_gQ (c := 7) (k := 0) rfl (by decide) hb (fun x3 hb => ?_)
  refine rn_iload_n (i := 3) rfl rfl ?_
  refine rn_aI rfl hb (fun x4 hb => ?_)
  refine rn_icmp_ne rfl rfl (fun hc => ?_) (fun hc => ?_)
  · exact u_27_69 d hd k35 K35 v0 v1 v2 v3  h _ (if_t hb hc)
  · exact u_27_65 d hd k35 K35 v0 v1 v2 v3  h _ (if_f hb hc)
def b_27_46 (k35 : Option Nat → Option Nat → Int32 → Int32 → Hp → Option (Hp)) (v0 : Option Nat) (v1 : Option Nat) (v2 : Int32) (v3 : Int32)  (h : Hp) : Option (Hp) :=
  if v2 = 0 then b_27_69 k35 v0 v1 v3  h else b_27_50 k35 v0 v1 v3  h
theorem u_27_46 (d : Nat) (hd : 3 ≤ d) (k35 : Option Nat → Option Nat → Int32 → Int32 → Hp → Option (Hp)) (K35 : ∀ (v0 : Option Nat) (v1 : Option Nat) (v2 : Int32) (v3 : Int32) (h : Hp) (r : Hp), k35 v0 v1 v2 v3 h = some r → Rn d 27 35 [some (va_rf v0), some (va_rf v1), some (.int v2), some (.int v3)] [] h (none, r)) (v0 : Option Nat) (v1 : Option Nat) (v2 : Int32) (v3 : Int32)  (h : Hp) (r : Hp) (hb : b_27_46 k35 v0 v1 v2 v3  h = some r) : Rn d 27 46 [some (va_rf v0), some (va_rf v1), some (.int v2), some (.int v3)] [] h (none, r) := by
  unfold b_27_46 at hb
  refine rn_iload_n (i := 2) rfl rfl ?_
  refine rn_if_eq rfl rfl (fun hc => ?_) (fun hc => ?_)
  · exact u_27_69 d hd k35 K35 v0 v1 v2 v3  h _ (if_t hb hc)
  · exact u_27_50 d hd k35 K35 v0 v1 v2 v3  h _ (if_f hb hc)
def b_27_35 (k35 : Option Nat → Option Nat → Int32 → Int32 → Hp → Option (Hp)) (v0 : Option Nat) (v1 : Option Nat) (v2 : Int32) (v3 : Int32)  (h : Hp) : Option (Hp) :=
  (gQ 3 2 v0 h).bind fun x1 =>
  (gI 4 5 x1 h).bind fun x2 =>
  if x2 ≤ v3 then b_27_89 v0 v2  h else b_27_46 k35 v0 v1 v2 v3  h
theorem u_27_35 (d : Nat) (hd : 3 ≤ d) (k35 : Option Nat → Option Nat → Int32 → Int32 → Hp → Option (Hp)) (K35 : ∀ (v0 : Option Nat) (v1 : Option Nat) (v2 : Int32) (v3 : Int32) (h : Hp) (r : Hp), k35 v0 v1 v2 v3 h = some r → Rn d 27 35 [some (va_rf v0), some (va_rf v1), some (.int v2), some (.int v3)] [] h (none, r)) (v0 : Option Nat) (v1 : Option Nat) (v2 : Int32) (v3 : Int32)  (h : Hp) (r : Hp) (hb : b_27_35 k35 v0 v1 v2 v3  h = some r) : Rn d 27 35 [some (va_rf v0), some (va_rf v1), some (.int v2), some (.int v3)] [] h (none, r) := by
  unfold b_27_35 at hb
  refine rn_iload_n (i := 3) rfl rfl ?_
  refine rn_aload_n (i := 0) rfl rfl ?_
  refine rn_gQ (c := 3) (k := 2) rfl (by decide) hb (fun x1 hb => ?_)
  refine rn_gI (c := 4) (k := 5) rfl (by decide) hb (fun x2 hb => ?_)
  refine rn_icmp_ge rfl rfl (fun hc => ?_) (fun hc => ?_)
  · exact u_27_89 d hd v0 v1 v2 v3  h _ (if_t hb hc)
  · exact u_27_46 d hd k35 K35 v0 v1 v2 v3  h _ (if_f hb hc)
def l_27_35 : Nat → Option Nat → Option Nat → Int32 → Int32 → Hp → Option (Hp)
  | 0, _, _, _, _, _ => none
  | n + 1, v0, v1, v2, v3, h => b_27_35 (l_27_35 n) v0 v1 v2 v3 h
theorem w_27_35 (d : Nat) (hd : 3 ≤ d) : ∀ (n : Nat) (v0 : Option Nat) (v1 : Option Nat) (v2 : Int32) (v3 : Int32) (h : Hp) (r : Hp), l_27_35 n v0 v1 v2 v3 h = some r → Rn d 27 35 [some (va_rf v0), some (va_rf v1), some (.int v2), some (.int v3)] [] h (none, r) := by
  intro n
  induction n with
  | zero => intro v0 v1 v2 v3 h r hb; cases hb
  | succ n ih => intro v0 v1 v2 v3 h r hb; exact u_27_35 d hd (l_27_35 n) ih v0 v1 v2 v3 h r hb
def b_27_33 (v0 : Option Nat) (v1 : Option Nat) (v2 : Int32)  (h : Hp) : Option (Hp) :=
  bnd ((nI 0)) fun x1 =>
  l_27_35 FU v0 v1 v2 x1 h
theorem u_27_33 (d : Nat) (hd : 3 ≤ d) (v0 : Option Nat) (v1 : Option Nat) (v2 : Int32)  (h : Hp) (r : Hp) (hb : b_27_33 v0 v1 v2  h = some r) : Rn d 27 33 [some (va_rf v0), some (va_rf v1), some (.int v2), none] [] h (none, r) := by
  unfold b_27_33 at hb
  refine rn_iconst (x := (nI 0)) rfl (by decide) ?_
  obtain ⟨x1, ex1, hb⟩ := bnd_spec hb
  refine rn_istore_n (i := 3) (L1 := [some (va_rf v0), some (va_rf v1), some (.int v2), some (.int x1)]) rfl (Nat.le_of_ble_eq_true rfl) (Or.inr rfl) (by rw [ex1]; rfl) ?_
  exact w_27_35 d hd FU v0 v1 v2 x1 h _ hb
def b_27_21 (v0 : Option Nat) (v1 : Option Nat) (v2 : Int32)  (h : Hp) : Option (Hp) :=
  (gQ 7 2 v1 h).bind fun x1 =>
  (pQ 3 2 v0 x1 h).bind fun h2 =>
  (grd (rC 3 v0 h2)).bind fun _ =>
  (f_28 v0 h2).bind fun p3 =>
  b_27_33 v0 v1 v2  p3
theorem u_27_21 (d : Nat) (hd : 3 ≤ d) (v0 : Option Nat) (v1 : Option Nat) (v2 : Int32)  (h : Hp) (r : Hp) (hb : b_27_21 v0 v1 v2  h = some r) : Rn d 27 21 [some (va_rf v0), some (va_rf v1), some (.int v2), none] [] h (none, r) := by
  unfold b_27_21 at hb
  obtain ⟨e, rfl⟩ : ∃ e, d = e + 1 := ⟨d - 1, by omega⟩
  refine rn_aload_n (i := 0) rfl rfl ?_
  refine rn_aload_n (i := 1) rfl rfl ?_
  refine rn_gQ (c := 7) (k := 2) rfl (by decide) hb (fun x1 hb => ?_)
  refine rn_pQ (c := 3) (k := 2) rfl (by decide) hb (fun h2 hb => ?_)
  refine rn_aload_n (i := 0) rfl rfl ?_
  obtain ⟨hrc, hb⟩ := grd_spec hb
  obtain ⟨p3, hc, hb⟩ := Option.bind_eq_some_iff.mp hb
  refine Rn.call0 (d := e) (As := [va_rf v0]) (rest := []) rfl rfl rfl (by decide) rfl rfl rfl (bd_rcV hrc rfl) (by decide) (bd_lenC (n := 6) rfl (bd_slR bd_slN) rfl) (bd_locC (n := 6) rfl (bd_slR bd_slN) rfl (t_28 e (by omega) v0 h2 _ hc)) ?_
  exact u_27_33 (e + 1) hd v0 v1 v2  p3 _ hb
def b_27_16 (v0 : Option Nat) (v1 : Option Nat) (s0 : Int32) (h : Hp) : Option (Hp) :=
  if ¬ s0 = 0 then b_27_33 v0 v1 s0  h else b_27_21 v0 v1 s0  h
theorem u_27_16 (d : Nat) (hd : 3 ≤ d) (v0 : Option Nat) (v1 : Option Nat) (s0 : Int32) (h : Hp) (r : Hp) (hb : b_27_16 v0 v1 s0 h = some r) : Rn d 27 16 [some (va_rf v0), some (va_rf v1), none, none] [.int s0] h (none, r) := by
  unfold b_27_16 at hb
  refine rn_istore_n (i := 2) (L1 := [some (va_rf v0), some (va_rf v1), some (.int s0), none]) rfl (Nat.le_of_ble_eq_true rfl) (Or.inr (bd_wideR rfl)) rfl ?_
  refine rn_iload_n (i := 2) rfl rfl ?_
  refine rn_if_ne rfl rfl (fun hc => ?_) (fun hc => ?_)
  · exact u_27_33 d hd v0 v1 s0  h _ (if_t hb hc)
  · exact u_27_21 d hd v0 v1 s0  h _ (if_f hb hc)
def b_27_15 (v0 : Option Nat) (v1 : Option Nat)  (h : Hp) : Option (Hp) :=
  b_27_16 v0 v1 (nI 0) h
theorem u_27_15 (d : Nat) (hd : 3 ≤ d) (v0 : Option Nat) (v1 : Option Nat)  (h : Hp) (r : Hp) (hb : b_27_15 v0 v1  h = some r) : Rn d 27 15 [some (va_rf v0), some (va_rf v1), none, none] [] h (none, r) := by
  unfold b_27_15 at hb
  refine rn_iconst (x := (nI 0)) rfl (by decide) ?_
  exact u_27_16 d hd v0 v1 (nI 0) h _ hb
def b_27_11 (v0 : Option Nat) (v1 : Option Nat)  (h : Hp) : Option (Hp) :=
  b_27_16 v0 v1 (nI 1) h
theorem u_27_11 (d : Nat) (hd : 3 ≤ d) (v0 : Option Nat) (v1 : Option Nat)  (h : Hp) (r : Hp) (hb : b_27_11 v0 v1  h = some r) : Rn d 27 11 [some (va_rf v0), some (va_rf v1), none, none] [] h (none, r) := by
  unfold b_27_11 at hb
  refine rn_iconst (x := (nI 1)) rfl (by decide) ?_
  refine rn_goto rfl rfl ?_
  exact u_27_16 d hd v0 v1 (nI 1) h _ hb
def b_27_0 (v0 : Option Nat) (v1 : Option Nat)  (h : Hp) : Option (Hp) :=
  (gQ 3 2 v0 h).bind fun x1 =>
  (gQ 7 2 v1 h).bind fun x2 =>
  (grd (dY x1 && dY x2)).bind fun _ =>
  if ¬ x1 = x2 then b_27_15 v0 v1  h else b_27_11 v0 v1  h
theorem u_27_0 (d : Nat) (hd : 3 ≤ d) (v0 : Option Nat) (v1 : Option Nat)  (h : Hp) (r : Hp) (hb : b_27_0 v0 v1  h = some r) : Rn d 27 0 [some (va_rf v0), some (va_rf v1), none, none] [] h (none, r) := by
  unfold b_27_0 at hb
  refine rn_aload_n (i := 0) rfl rfl ?_
  refine rn_gQ (c := 3) (k := 2) rfl (by decide) hb (fun x1 hb => ?_)
  refine rn_aload_n (i := 1) rfl rfl ?_
  refine rn_gQ (c := 7) (k := 2) rfl (by decide) hb (fun x2 hb => ?_)
  obtain ⟨hdy, hb⟩ := grd_spec hb
  obtain ⟨hdx, hdy⟩ := Bool.and_eq_true_iff.mp hdy
  refine rn_acmp_ne rfl hdx hdy rfl (fun hc => ?_) (fun hc => ?_)
  · exact u_27_15 d hd v0 v1  h _ (if_t hb hc)
  · exact u_27_11 d hd v0 v1  h _ (if_f hb (fun z => z hc))
/-- BitingDoors$Hanger.look(LBitingDoors$Scene;)V -/
def f_27 (v0 : Option Nat) (v1 : Option Nat) (h : Hp) : Option (Hp) := b_27_0 v0 v1 h
theorem t_27 (d : Nat) (hd : 3 ≤ d) (v0 : Option Nat) (v1 : Option Nat) (h : Hp) (r : Hp) (hb : f_27 v0 v1 h = some r) : Rn d 27 0 [some (va_rf v0), some (va_rf v1), none, none] [] h (none, r) := by
  unfold f_27 at hb
  exact u_27_0 d hd v0 v1 h r hb
def b_29_0 (v0 : Option Nat)  (h : Hp) : Option (Int32 × Hp) :=
  (gQ 3 2 v0 h).bind fun x1 =>
  (gI 4 5 x1 h).bind fun x2 =>
  some ((((nI 1) <<< (x2 &&& 31)) - (nI 1)), h)
theorem u_29_0 (d : Nat) (hd : 0 ≤ d) (v0 : Option Nat)  (h : Hp) (r : Int32 × Hp) (hb : b_29_0 v0  h = some r) : Rn d 29 0 [some (va_rf v0)] [] h (some (.int r.1), r.2) := by
  unfold b_29_0 at hb
  refine rn_iconst (x := (nI 1)) rfl (by decide) ?_
  refine rn_aload_n (i := 0) rfl rfl ?_
  refine rn_gQ (c := 3) (k := 2) rfl (by decide) hb (fun x1 hb => ?_)
  refine rn_gI (c := 4) (k := 5) rfl (by decide) hb (fun x2 hb => ?_)
  refine rn_ishl rfl ?_
  refine rn_iconst (x := (nI 1)) rfl (by decide) ?_
  refine rn_isub rfl ?_
  obtain rfl := Option.some.inj hb
  exact rn_iret rfl rfl
/-- BitingDoors$Hanger.allDoors()I -/
def f_29 (v0 : Option Nat) (h : Hp) : Option (Int32 × Hp) := b_29_0 v0 h
theorem t_29 (d : Nat) (hd : 0 ≤ d) (v0 : Option Nat) (h : Hp) (r : Int32 × Hp) (hb : f_29 v0 h = some r) : Rn d 29 0 [some (va_rf v0)] [] h (some (.int r.1), r.2) := by
  unfold f_29 at hb
  exact u_29_0 d hd v0 h r hb
def b_31_19  (s0 : Int32) (h : Hp) : Option (Int32 × Hp) :=
  (grd (decide (s0 = 0 ∨ s0 = 1))).bind fun _ => some (s0, h)
theorem u_31_19 (d : Nat) (hd : 0 ≤ d) (v0 : Int64) (v2 : Int32) (v3 : Int32) (s0 : Int32) (h : Hp) (r : Int32 × Hp) (hb : b_31_19  s0 h = some r) : Rn d 31 19 [some (.long v0), none, some (.int v2), some (.int v3)] [.int s0] h (some (.int r.1), r.2) := by
  unfold b_31_19 at hb
  obtain ⟨hz, hb⟩ := grd_spec hb
  obtain rfl := Option.some.inj hb
  exact rn_zret rfl rfl (of_decide_eq_true hz)
def b_31_18   (h : Hp) : Option (Int32 × Hp) :=
  b_31_19  (nI 0) h
theorem u_31_18 (d : Nat) (hd : 0 ≤ d) (v0 : Int64) (v2 : Int32) (v3 : Int32)  (h : Hp) (r : Int32 × Hp) (hb : b_31_18   h = some r) : Rn d 31 18 [some (.long v0), none, some (.int v2), some (.int v3)] [] h (some (.int r.1), r.2) := by
  unfold b_31_18 at hb
  refine rn_iconst (x := (nI 0)) rfl (by decide) ?_
  exact u_31_19 d hd v0 v2 v3 (nI 0) h _ hb
def b_31_14   (h : Hp) : Option (Int32 × Hp) :=
  b_31_19  (nI 1) h
theorem u_31_14 (d : Nat) (hd : 0 ≤ d) (v0 : Int64) (v2 : Int32) (v3 : Int32)  (h : Hp) (r : Int32 × Hp) (hb : b_31_14   h = some r) : Rn d 31 14 [some (.long v0), none, some (.int v2), some (.int v3)] [] h (some (.int r.1), r.2) := by
  unfold b_31_14 at hb
  refine rn_iconst (x := (nI 1)) rfl (by decide) ?_
  refine rn_goto rfl rfl ?_
  exact u_31_19 d hd v0 v2 v3 (nI 1) h _ hb
def b_31_0 (v0 : Int64) (v2 : Int32) (v3 : Int32)  (h : Hp) : Option (Int32 × Hp) :=
  if ¬ (lg_cmp (((v0.toUInt64 >>> ((((nI 4) * v2) + v3).toInt64.toUInt64 &&& Int64.toUInt64 63)).toInt64) &&& (lN 1)) (lN 1)) = 0 then b_31_18   h else b_31_14   h
theorem u_31_0 (d : Nat) (hd : 0 ≤ d) (v0 : Int64) (v2 : Int32) (v3 : Int32)  (h : Hp) (r : Int32 × Hp) (hb : b_31_0 v0 v2 v3  h = some r) : Rn d 31 0 [some (.long v0), none, some (.int v2), some (.int v3)] [] h (some (.int r.1), r.2) := by
  unfold b_31_0 at hb
  refine rn_lload_n (i := 0) rfl rfl ?_
  refine rn_iconst (x := (nI 4)) rfl (by decide) ?_
  refine rn_iload_n (i := 2) rfl rfl ?_
  refine rn_imul rfl ?_
  refine rn_iload_n (i := 3) rfl rfl ?_
  refine rn_iadd rfl ?_
  refine rn_lushr rfl ?_
  refine rn_lconst (x := (lN 1)) rfl (by decide) ?_
  refine rn_land rfl ?_
  refine rn_lconst (x := (lN 1)) rfl (by decide) ?_
  refine rn_lcmp rfl ?_
  refine rn_if_ne rfl rfl (fun hc => ?_) (fun hc => ?_)
  · exact u_31_18 d hd v0 v2 v3  h _ (if_t hb hc)
  · exact u_31_14 d hd v0 v2 v3  h _ (if_f hb hc)
/-- BitingDoors$Hanger.isLeft(JII)Z -/
def f_31 (v0 : Int64) (v2 : Int32) (v3 : Int32) (h : Hp) : Option (Int32 × Hp) := b_31_0 v0 v2 v3 h
theorem t_31 (d : Nat) (hd : 0 ≤ d) (v0 : Int64) (v2 : Int32) (v3 : Int32) (h : Hp) (r : Int32 × Hp) (hb : f_31 v0 v2 v3 h = some r) : Rn d 31 0 [some (.long v0), none, some (.int v2), some (.int v3)] [] h (some (.int r.1), r.2) := by
  unfold f_31 at hb
  exact u_31_0 d hd v0 v2 v3 h r hb
def b_32_45   (h : Hp) : Option (Int32 × Hp) :=
  (grd (decide ((nI 1) = 0 ∨ (nI 1) = 1))).bind fun _ => some ((nI 1), h)
theorem u_32_45 (d : Nat) (hd : 1 ≤ d) (v0 : Option Nat) (v1 : Int64) (v3 : Int32) (v4 : Int32)  (h : Hp) (r : Int32 × Hp) (hb : b_32_45   h = some r) : Rn d 32 45 [some (va_rf v0), some (.long v1), none, some (.int v3), some (.int v4)] [] h (some (.int r.1), r.2) := by
  unfold b_32_45 at hb
  refine rn_iconst (x := (nI 1)) rfl (by decide) ?_
  obtain ⟨hz, hb⟩ := grd_spec hb
  obtain rfl := Option.some.inj hb
  exact rn_zret rfl rfl (of_decide_eq_true hz)
def b_32_39 (k3 : Option Nat → Int64 → Int32 → Hp → Option (Int32 × Hp)) (v0 : Option Nat) (v1 : Int64) (v4 : Int32)  (h : Hp) : Option (Int32 × Hp) :=
  bnd (v4 + (nI 1)) fun x1 =>
  k3 v0 v1 x1 h
theorem u_32_39 (d : Nat) (hd : 1 ≤ d) (k3 : Option Nat → Int64 → Int32 → Hp → Option (Int32 × Hp)) (K3 : ∀ (v0 : Option Nat) (v1 : Int64) (v3 : Int32) (v4 : Int32) (h : Hp) (r : Int32 × Hp), k3 v0 v1 v4 h = some r → Rn d 32 3 [some (va_rf v0), some (.long v1), none, some (.int v3), some (.int v4)] [] h (some (.int r.1), r.2)) (v0 : Option Nat) (v1 : Int64) (v3 : Int32) (v4 : Int32)  (h : Hp) (r : Int32 × Hp) (hb : b_32_39 k3 v0 v1 v4  h = some r) : Rn d 32 39 [some (va_rf v0), some (.long v1), none, some (.int v3), some (.int v4)] [] h (some (.int r.1), r.2) := by
  unfold b_32_39 at hb
  obtain ⟨x1, ex1, hb⟩ := bnd_spec hb
  refine rn_iinc (i := 4) (y := x1) (L1 := [some (va_rf v0), some (.long v1), none, some (.int v3), some (.int x1)]) rfl rfl (Nat.le_of_ble_eq_true rfl) (Or.inr rfl) (by rw [ex1]; rfl) rfl ?_
  refine rn_goto rfl rfl ?_
  exact K3 v0 v1 v3 x1 h _ hb
def b_32_37   (h : Hp) : Option (Int32 × Hp) :=
  (grd (decide ((nI 0) = 0 ∨ (nI 0) = 1))).bind fun _ => some ((nI 0), h)
theorem u_32_37 (d : Nat) (hd : 1 ≤ d) (v0 : Option Nat) (v1 : Int64) (v3 : Int32) (v4 : Int32)  (h : Hp) (r : Int32 × Hp) (hb : b_32_37   h = some r) : Rn d 32 37 [some (va_rf v0), some (.long v1), none, some (.int v3), some (.int v4)] [] h (some (.int r.1), r.2) := by
  unfold b_32_37 at hb
  refine rn_iconst (x := (nI 0)) rfl (by decide) ?_
  obtain ⟨hz, hb⟩ := grd_spec hb
  obtain rfl := Option.some.inj hb
  exact rn_zret rfl rfl (of_decide_eq_true hz)
def b_32_28 (k3 : Option Nat → Int64 → Int32 → Hp → Option (Int32 × Hp)) (v0 : Option Nat) (v1 : Int64) (v4 : Int32)  (h : Hp) : Option (Int32 × Hp) :=
  (f_30 v1 v4 h).bind fun p1 =>
  if ¬ p1.1 = 0 then b_32_39 k3 v0 v1 v4  p1.2 else b_32_37   p1.2
theorem u_32_28 (d : Nat) (hd : 1 ≤ d) (k3 : Option Nat → Int64 → Int32 → Hp → Option (Int32 × Hp)) (K3 : ∀ (v0 : Option Nat) (v1 : Int64) (v3 : Int32) (v4 : Int32) (h : Hp) (r : Int32 × Hp), k3 v0 v1 v4 h = some r → Rn d 32 3 [some (va_rf v0), some (.long v1), none, some (.int v3), some (.int v4)] [] h (some (.int r.1), r.2)) (v0 : Option Nat) (v1 : Int64) (v3 : Int32) (v4 : Int32)  (h : Hp) (r : Int32 × Hp) (hb : b_32_28 k3 v0 v1 v4  h = some r) : Rn d 32 28 [some (va_rf v0), some (.long v1), none, some (.int v3), some (.int v4)] [] h (some (.int r.1), r.2) := by
  unfold b_32_28 at hb
  obtain ⟨e, rfl⟩ : ∃ e, d = e + 1 := ⟨d - 1, by omega⟩
  refine rn_lload_n (i := 1) rfl rfl ?_
  refine rn_iload (i := 4) rfl rfl ?_
  obtain ⟨p1, hc, hb⟩ := Option.bind_eq_some_iff.mp hb
  refine Rn.call1 (d := e) (As := [.long v1, .int v4]) (rest := []) rfl rfl rfl (by decide) rfl rfl rfl rfl (by decide) (bd_lenC (n := 3) rfl (bd_slJ (bd_slI bd_slN)) rfl) (bd_locC (n := 3) rfl (bd_slJ (bd_slI bd_slN)) rfl (t_30 e (by omega) v1 v4 h _ hc)) ?_
  refine rn_if_ne rfl rfl (fun hc => ?_) (fun hc => ?_)
  · exact u_32_39 (e + 1) hd k3 K3 v0 v1 v3 v4  p1.2 _ (if_t hb hc)
  · exact u_32_37 (e + 1) hd v0 v1 v3 v4  p1.2 _ (if_f hb hc)
def b_32_15 (k3 : Option Nat → Int64 → Int32 → Hp → Option (Int32 × Hp)) (v0 : Option Nat) (v1 : Int64) (v4 : Int32)  (h : Hp) : Option (Int32 × Hp) :=
  (gI 3 14 v0 h).bind fun x1 =>
  if ¬ ((x1 >>> (v4 &&& 31)) &&& (nI 1)) = (nI 1) then b_32_39 k3 v0 v1 v4  h else b_32_28 k3 v0 v1 v4  h
theorem u_32_15 (d : Nat) (hd : 1 ≤ d) (k3 : Option Nat → Int64 → Int32 → Hp → Option (Int32 × Hp)) (K3 : ∀ (v0 : Option Nat) (v1 : Int64) (v3 : Int32) (v4 : Int32) (h : Hp) (r : Int32 × Hp), k3 v0 v1 v4 h = some r → Rn d 32 3 [some (va_rf v0), some (.long v1), none, some (.int v3), some (.int v4)] [] h (some (.int r.1), r.2)) (v0 : Option Nat) (v1 : Int64) (v3 : Int32) (v4 : Int32)  (h : Hp) (r : Int32 × Hp) (hb : b_32_15 k3 v0 v1 v4  h = some r) : Rn d 32 15 [some (va_rf v0), some (.long v1), none, some (.int v3), some (.int v4)] [] h (some (.int r.1), r.2) := by
  unfold b_32_15 at hb
  refine rn_aload_n (i := 0) rfl rfl ?_
  refine rn_gI (c := 3) (k := 14) rfl (by decide) hb (fun x1 hb => ?_)
  refine rn_iload (i := 4) rfl rfl ?_
  refine rn_ishr rfl ?_
  refine rn_iconst (x := (nI 1)) rfl (by decide) ?_
  refine rn_iand rfl ?_
  refine rn_iconst (x := (nI 1)) rfl (by decide) ?_
  refine rn_icmp_ne rfl rfl (fun hc => ?_) (fun hc => ?_)
  · exact u_32_39 d hd k3 K3 v0 v1 v3 v4  h _ (if_t hb hc)
  · exact u_32_28 d hd k3 K3 v0 v1 v3 v4  h _ (if_f hb hc)
def b_32_3 (k3 : Option Nat → Int64 → Int32 → Hp → Option (Int32 × Hp)) (v0 : Option Nat) (v1 : Int64) (v4 : Int32)  (h : Hp) : Option (Int32 × Hp) :=
  (gQ 3 2 v0 h).bind fun x1 =>
  (gI 4 5 x1 h).bind fun x2 =>
  if x2 ≤ v4 then b_32_45   h else b_32_15 k3 v0 v1 v4  h
theorem u_32_3 (d : Nat) (hd : 1 ≤ d) (k3 : Option Nat → Int64 → Int32 → Hp → Option (Int32 × Hp)) (K3 : ∀ (v0 : Option Nat) (v1 : Int64) (v3 : Int32) (v4 : Int32) (h : Hp) (r : Int32 × Hp), k3 v0 v1 v4 h = some r → Rn d 32 3 [some (va_rf v0), some (.long v1), none, some (.int v3), some (.int v4)] [] h (some (.int r.1), r.2)) (v0 : Option Nat) (v1 : Int64) (v3 : Int32) (v4 : Int32)  (h : Hp) (r : Int32 × Hp) (hb : b_32_3 k3 v0 v1 v4  h = some r) : Rn d 32 3 [some (va_rf v0), some (.long v1), none, some (.int v3), some (.int v4)] [] h (some (.int r.1), r.2) := by
  unfold b_32_3 at hb
  refine rn_iload (i := 4) rfl rfl ?_
  refine rn_aload_n (i := 0) rfl rfl ?_
  refine rn_gQ (c := 3) (k := 2) rfl (by decide) hb (fun x1 hb => ?_)
  refine rn_gI (c := 4) (k := 5) rfl (by decide) hb (fun x2 hb => ?_)
  refine rn_icmp_ge rfl rfl (fun hc => ?_) (fun hc => ?_)
  · exact u_32_45 d hd v0 v1 v3 v4  h _ (if_t hb hc)
  · exact u_32_15 d hd k3 K3 v0 v1 v3 v4  h _ (if_f hb hc)
def l_32_3 : Nat → Option Nat → Int64 → Int32 → Hp → Option (Int32 × Hp)
  | 0, _, _, _, _ => none
  | n + 1, v0, v1, v4, h => b_32_3 (l_32_3 n) v0 v1 v4 h
theorem w_32_3 (d : Nat) (hd : 1 ≤ d) : ∀ (n : Nat) (v0 : Option Nat) (v1 : Int64) (v3 : Int32) (v4 : Int32) (h : Hp) (r : Int32 × Hp), l_32_3 n v0 v1 v4 h = some r → Rn d 32 3 [some (va_rf v0), some (.long v1), none, some (.int v3), some (.int v4)] [] h (some (.int r.1), r.2) := by
  intro n
  induction n with
  | zero => intro v0 v1 v3 v4 h r hb; cases hb
  | succ n ih => intro v0 v1 v3 v4 h r hb; exact u_32_3 d hd (l_32_3 n) ih v0 v1 v3 v4 h r hb
def b_32_0 (v0 : Option Nat) (v1 : Int64) (v3 : Int32)  (h : Hp) : Option (Int32 × Hp) :=
  l_32_3 FU v0 v1 v3 h
theorem u_32_0 (d : Nat) (hd : 1 ≤ d) (v0 : Option Nat) (v1 : Int64) (v3 : Int32)  (h : Hp) (r : Int32 × Hp) (hb : b_32_0 v0 v1 v3  h = some r) : Rn d 32 0 [some (va_rf v0), some (.long v1), none, some (.int v3), none] [] h (some (.int r.1), r.2) := by
  unfold b_32_0 at hb
  refine rn_iload_n (i := 3) rfl rfl ?_
  refine rn_istore (i := 4) (L1 := [some (va_rf v0), some (.long v1), none, some (.int v3), some (.int v3)]) rfl (Nat.le_of_ble_eq_true rfl) (Or.inr rfl) rfl ?_
  exact w_32_3 d hd FU v0 v1 v3 v3 h _ hb
/-- BitingDoors$Hanger.eachHasSome(JI)Z -/
def f_32 (v0 : Option Nat) (v1 : Int64) (v3 : Int32) (h : Hp) : Option (Int32 × Hp) := b_32_0 v0 v1 v3 h
theorem t_32 (d : Nat) (hd : 1 ≤ d) (v0 : Option Nat) (v1 : Int64) (v3 : Int32) (h : Hp) (r : Int32 × Hp) (hb : f_32 v0 v1 v3 h = some r) : Rn d 32 0 [some (va_rf v0), some (.long v1), none, some (.int v3), none] [] h (some (.int r.1), r.2) := by
  unfold f_32 at hb
  exact u_32_0 d hd v0 v1 v3 h r hb
def b_33_0 (v0 : Option Nat) (v1 : Int64) (v3 : Int32) (v4 : Int32)  (h : Hp) : Option (Int64 × Hp) :=
  (gQ 3 0 v0 h).bind fun x1 =>
  (aJ x1 (((nI 4) * v3) + v4) h).bind fun x2 =>
  some ((((v1 &&& x2).toUInt64 >>> (((nI 4) * (v3 + (nI 1))).toInt64.toUInt64 &&& Int64.toUInt64 63)).toInt64), h)
theorem u_33_0 (d : Nat) (hd : 0 ≤ d) (v0 : Option Nat) (v1 : Int64) (v3 : Int32) (v4 : Int32)  (h : Hp) (r : Int64 × Hp) (hb : b_33_0 v0 v1 v3 v4  h = some r) : Rn d 33 0 [some (va_rf v0), some (.long v1), none, some (.int v3), some (.int v4)] [] h (some (.long r.1), r.2) := by
  unfold b_33_0 at hb
  refine rn_lload_n (i := 1) rfl rfl ?_
  refine rn_aload_n (i := 0) rfl rfl ?_
  refine rn_gQ (c := 3) (k := 0) rfl (by decide) hb (fun x1 hb => ?_)
  refine rn_iconst (x := (nI 4)) rfl (by decide) ?_
  refine rn_iload_n (i := 3) rfl rfl ?_
  refine rn_imul rfl ?_
  refine rn_iload (i := 4) rfl rfl ?_
  refine rn_iadd rfl ?_
  refine rn_aJ rfl hb (fun x2 hb => ?_)
  refine rn_land rfl ?_
  refine rn_iconst (x := (nI 4)) rfl (by decide) ?_
  refine rn_iload_n (i := 3) rfl rfl ?_
  refine rn_iconst (x := (nI 1)) rfl (by decide) ?_
  refine rn_iadd rfl ?_
  refine rn_imul rfl ?_
  refine rn_lushr rfl ?_
  obtain rfl := Option.some.inj hb
  exact rn_lret rfl rfl
/-- BitingDoors$Hanger.leftBehind(JII)J -/
def f_33 (v0 : Option Nat) (v1 : Int64) (v3 : Int32) (v4 : Int32) (h : Hp) : Option (Int64 × Hp) := b_33_0 v0 v1 v3 v4 h
theorem t_33 (d : Nat) (hd : 0 ≤ d) (v0 : Option Nat) (v1 : Int64) (v3 : Int32) (v4 : Int32) (h : Hp) (r : Int64 × Hp) (hb : f_33 v0 v1 v3 v4 h = some r) : Rn d 33 0 [some (va_rf v0), some (.long v1), none, some (.int v3), some (.int v4)] [] h (some (.long r.1), r.2) := by
  unfold f_33 at hb
  exact u_33_0 d hd v0 v1 v3 v4 h r hb
def b_38_107   (h : Hp) : Option (Int32 × Hp) :=
  (grd (decide ((nI 0) = 0 ∨ (nI 0) = 1))).bind fun _ => some ((nI 0), h)
theorem u_38_107 (d : Nat) (hd : 1 ≤ d) (v0 : Option Nat) (v1 : Int64) (v3 : Int32) (v4 : Int32) (v5 : Int32) (v6 : Option (Int32)) (v7 : Option (Int32))  (h : Hp) (r : Int32 × Hp) (hb : b_38_107   h = some r) : Rn d 38 107 [some (va_rf v0), some (.long v1), none, some (.int v3), some (.int v4), some (.int v5), v6.map Value.int, v7.map Value.int] [] h (some (.int r.1), r.2) := by
  unfold b_38_107 at hb
  refine rn_iconst (x := (nI 0)) rfl (by decide) ?_
  obtain ⟨hz, hb⟩ := grd_spec hb
  obtain rfl := Option.some.inj hb
  exact rn_zret rfl rfl (of_decide_eq_true hz)
def b_38_101 (k3 : Option Nat → Int64 → Int32 → Int32 → Int32 → Hp → Option (Int32 × Hp)) (v0 : Option Nat) (v1 : Int64) (v3 : Int32) (v4 : Int32) (v5 : Int32)  (h : Hp) : Option (Int32 × Hp) :=
  bnd (v5 + (nI 1)) fun x1 =>
  k3 v0 v1 v3 v4 x1 h
theorem u_38_101 (d : Nat) (hd : 1 ≤ d) (k3 : Option Nat → Int64 → Int32 → Int32 → Int32 → Hp → Option (Int32 × Hp)) (K3 : ∀ (v0 : Option Nat) (v1 : Int64) (v3 : Int32) (v4 : Int32) (v5 : Int32) (v6 : Option (Int32)) (v7 : Option (Int32)) (h : Hp) (r : Int32 × Hp), k3 v0 v1 v3 v4 v5 h = some r → Rn d 38 3 [some (va_rf v0), some (.long v1), none, some (.int v3), some (.int v4), some (.int v5), v6.map Value.int, v7.map Value.int] [] h (some (.int r.1), r.2)) (v0 : Option Nat) (v1 : Int64) (v3 : Int32) (v4 : Int32) (v5 : Int32) (v6 : Int32) (v7 : Int32)  (h : Hp) (r : Int32 × Hp) (hb : b_38_101 k3 v0 v1 v3 v4 v5  h = some r) : Rn d 38 101 [some (va_rf v0), some (.long v1), none, some (.int v3), some (.int v4), some (.int v5), some (.int v6), some (.int v7)] [] h (some (.int r.1), r.2) := by
  unfold b_38_101 at hb
  obtain ⟨x1, ex1, hb⟩ := bnd_spec hb
  refine rn_iinc (i := 5) (y := x1) (L1 := [some (va_rf v0), some (.long v1), none, some (.int v3), some (.int v4), some (.int x1), some (.int v6), some (.int v7)]) rfl rfl (Nat.le_of_ble_eq_true rfl) (Or.inr rfl) (by rw [ex1]; rfl) rfl ?_
  refine rn_goto rfl rfl ?_
  exact K3 v0 v1 v3 v4 x1 (some v6) (some v7) h _ hb
def b_38_99   (h : Hp) : Option (Int32 × Hp) :=
  (grd (decide ((nI 1) = 0 ∨ (nI 1) = 1))).bind fun _ => some ((nI 1), h)
theorem u_38_99 (d : Nat) (hd : 1 ≤ d) (v0 : Option Nat) (v1 : Int64) (v3 : Int32) (v4 : Int32) (v5 : Int32) (v6 : Int32) (v7 : Int32)  (h : Hp) (r : Int32 × Hp) (hb : b_38_99   h = some r) : Rn d 38 99 [some (va_rf v0), some (.long v1), none, some (.int v3), some (.int v4), some (.int v5), some (.int v6), some (.int v7)] [] h (some (.int r.1), r.2) := by
  unfold b_38_99 at hb
  refine rn_iconst (x := (nI 1)) rfl (by decide) ?_
  obtain ⟨hz, hb⟩ := grd_spec hb
  obtain rfl := Option.some.inj hb
  exact rn_zret rfl rfl (of_decide_eq_true hz)
def b_38_94 (k3 : Option Nat → Int64 → Int32 → Int32 → Int32 → Hp → Option (Int32 × Hp)) (v0 : Option Nat) (v1 : Int64) (v3 : Int32) (v4 : Int32) (v5 : Int32) (v7 : Int32)  (h : Hp) : Option (Int32 × Hp) :=
  if v7 = 0 then b_38_101 k3 v0 v1 v3 v4 v5  h else b_38_99   h
theorem u_38_94 (d : Nat) (hd : 1 ≤ d) (k3 : Option Nat → Int64 → Int32 → Int32 → Int32 → Hp → Option (Int32 × Hp)) (K3 : ∀ (v0 : Option Nat) (v1 : Int64) (v3 : Int32) (v4 : Int32) (v5 : Int32) (v6 : Option (Int32)) (v7 : Option (Int32)) (h : Hp) (r : Int32 × Hp), k3 v0 v1 v3 v4 v5 h = some r → Rn d 38 3 [some (va_rf v0), some (.long v1), none, some (.int v3), some (.int v4), some (.int v5), v6.map Value.int, v7.map Value.int] [] h (some (.int r.1), r.2)) (v0 : Option Nat) (v1 : Int64) (v3 : Int32) (v4 : Int32) (v5 : Int32) (v6 : Int32) (v7 : Int32)  (h : Hp) (r : Int32 × Hp) (hb : b_38_94 k3 v0 v1 v3 v4 v5 v7  h = some r) : Rn d 38 94 [some (va_rf v0), some (.long v1), none, some (.int v3), some (.int v4), some (.int v5), some (.int v6), some (.int v7)] [] h (some (.int r.1), r.2) := by
  unfold b_38_94 at hb
  refine rn_iload (i := 7) rfl rfl ?_
  refine rn_if_eq rfl rfl (fun hc => ?_) (fun hc => ?_)
  · exact u_38_101 d hd k3 K3 v0 v1 v3 v4 v5 v6 v7  h _ (if_t hb hc)
  · exact u_38_99 d hd v0 v1 v3 v4 v5 v6 v7  h _ (if_f hb hc)
def b_38_87 (k3 : Option Nat → Int64 → Int32 → Int32 → Int32 → Hp → Option (Int32 × Hp)) (v0 : Option Nat) (v1 : Int64) (v3 : Int32) (v4 : Int32) (v5 : Int32) (v6 : Int32) (s0 : Int32) (h : Hp) : Option (Int32 × Hp) :=
  if v6 = 0 then b_38_101 k3 v0 v1 v3 v4 v5  h else b_38_94 k3 v0 v1 v3 v4 v5 s0  h
theorem u_38_87 (d : Nat) (hd : 1 ≤ d) (k3 : Option Nat → Int64 → Int32 → Int32 → Int32 → Hp → Option (Int32 × Hp)) (K3 : ∀ (v0 : Option Nat) (v1 : Int64) (v3 : Int32) (v4 : Int32) (v5 : Int32) (v6 : Option (Int32)) (v7 : Option (Int32)) (h : Hp) (r : Int32 × Hp), k3 v0 v1 v3 v4 v5 h = some r → Rn d 38 3 [some (va_rf v0), some (.long v1), none, some (.int v3), some (.int v4), some (.int v5), v6.map Value.int, v7.map Value.int] [] h (some (.int r.1), r.2)) (v0 : Option Nat) (v1 : Int64) (v3 : Int32) (v4 : Int32) (v5 : Int32) (v6 : Int32) (v7 : Option (Int32)) (s0 : Int32) (h : Hp) (r : Int32 × Hp) (hb : b_38_87 k3 v0 v1 v3 v4 v5 v6 s0 h = some r) : Rn d 38 87 [some (va_rf v0), some (.long v1), none, some (.int v3), some (.int v4), some (.int v5), some (.int v6), v7.map Value.int] [.int s0] h (some (.int r.1), r.2) := by
  unfold b_38_87 at hb
  refine rn_istore (i := 7) (L1 := [some (va_rf v0), some (.long v1), none, some (.int v3), some (.int v4), some (.int v5), some (.int v6), some (.int s0)]) rfl (Nat.le_of_ble_eq_true rfl) (Or.inr rfl) rfl ?_
  refine rn_iload (i := 6) rfl rfl ?_
  refine rn_if_eq rfl rfl (fun hc => ?_) (fun hc => ?_)
  · exact u_38_101 d hd k3 K3 v0 v1 v3 v4 v5 v6 s0  h _ (if_t hb hc)
  · exact u_38_94 d hd k3 K3 v0 v1 v3 v4 v5 v6 s0  h _ (if_f hb hc)
def b_38_86 (k3 : Option Nat → Int64 → Int32 → Int32 → Int32 → Hp → Option (Int32 × Hp)) (v0 : Option Nat) (v1 : Int64) (v3 : Int32) (v4 : Int32) (v5 : Int32) (v6 : Int32)  (h : Hp) : Option (Int32 × Hp) :=
  b_38_87 k3 v0 v1 v3 v4 v5 v6 (nI 0) h
theorem u_38_86 (d : Nat) (hd : 1 ≤ d) (k3 : Option Nat → Int64 → Int32 → Int32 → Int32 → Hp → Option (Int32 × Hp)) (K3 : ∀ (v0 : Option Nat) (v1 : Int64) (v3 : Int32) (v4 : Int32) (v5 : Int32) (v6 : Option (Int32)) (v7 : Option (Int32)) (h : Hp) (r : Int32 × Hp), k3 v0 v1 v3 v4 v5 h = some r → Rn d 38 3 [some (va_rf v0), some (.long v1), none, some (.int v3), some (.int v4), some (.int v5), v6.map Value.int, v7.map Value.int] [] h (some (.int r.1), r.2)) (v0 : Option Nat) (v1 : Int64) (v3 : Int32) (v4 : Int32) (v5 : Int32) (v6 : Int32) (v7 : Option (Int32))  (h : Hp) (r : Int32 × Hp) (hb : b_38_86 k3 v0 v1 v3 v4 v5 v6  h = some r) : Rn d 38 86 [some (va_rf v0), some (.long v1), none, some (.int v3), some (.int v4), some (.int v5), some (.int v6), v7.map Value.int] [] h (some (.int r.1), r.2) := by
  unfold b_38_86 at hb
  refine rn_iconst (x := (nI 0)) rfl (by decide) ?_
  exact u_38_87 d hd k3 K3 v0 v1 v3 v4 v5 v6 v7 (nI 0) h _ hb
def b_38_82 (k3 : Option Nat → Int64 → Int32 → Int32 → Int32 → Hp → Option (Int32 × Hp)) (v0 : Option Nat) (v1 : Int64) (v3 : Int32) (v4 : Int32) (v5 : Int32) (v6 : Int32)  (h : Hp) : Option (Int32 × Hp) :=
  b_38_87 k3 v0 v1 v3 v4 v5 v6 (nI 1) h
theorem u_38_82 (d : Nat) (hd : 1 ≤ d) (k3 : Option Nat → Int64 → Int32 → Int32 → Int32 → Hp → Option (Int32 × Hp)) (K3 : ∀ (v0 : Option Nat) (v1 : Int64) (v3 : Int32) (v4 : Int32) (v5 : Int32) (v6 : Option (Int32)) (v7 : Option (Int32)) (h : Hp) (r : Int32 × Hp), k3 v0 v1 v3 v4 v5 h = some r → Rn d 38 3 [some (va_rf v0), some (.long v1), none, some (.int v3), some (.int v4), some (.int v5), v6.map Value.int, v7.map Value.int] [] h (some (.int r.1), r.2)) (v0 : Option Nat) (v1 : Int64) (v3 : Int32) (v4 : Int32) (v5 : Int32) (v6 : Int32) (v7 : Option (Int32))  (h : Hp) (r : Int32 × Hp) (hb : b_38_82 k3 v0 v1 v3 v4 v5 v6  h = some r) : Rn d 38 82 [some (va_rf v0), some (.long v1), none, some (.int v3), some (.int v4), some (.int v5), some (.int v6), v7.map Value.int] [] h (some (.int r.1), r.2) := by
  unfold b_38_82 at hb
  refine rn_iconst (x := (nI 1)) rfl (by decide) ?_
  refine rn_goto rfl rfl ?_
  exact u_38_87 d hd k3 K3 v0 v1 v3 v4 v5 v6 v7 (nI 1) h _ hb
def b_38_62 (k3 : Option Nat → Int64 → Int32 → Int32 → Int32 → Hp → Option (Int32 × Hp)) (v0 : Option Nat) (v1 : Int64) (v3 : Int32) (v4 : Int32) (v5 : Int32) (v6 : Int32)  (h : Hp) : Option (Int32 × Hp) :=
  (grd (rC 3 v0 h)).bind fun _ =>
  (f_33 v0 v1 v3 v5 h).bind fun p1 =>
  (grd (rC 3 v0 p1.2)).bind fun _ =>
  (f_33 v0 v1 v3 v4 p1.2).bind fun p2 =>
  if ¬ (lg_cmp p1.1 p2.1) = 0 then b_38_86 k3 v0 v1 v3 v4 v5 v6  p2.2 else b_38_82 k3 v0 v1 v3 v4 v5 v6  p2.2
theorem u_38_62 (d : Nat) (hd : 1 ≤ d) (k3 : Option Nat → Int64 → Int32 → Int32 → Int32 → Hp → Option (Int32 × Hp)) (K3 : ∀ (v0 : Option Nat) (v1 : Int64) (v3 : Int32) (v4 : Int32) (v5 : Int32) (v6 : Option (Int32)) (v7 : Option (Int32)) (h : Hp) (r : Int32 × Hp), k3 v0 v1 v3 v4 v5 h = some r → Rn d 38 3 [some (va_rf v0), some (.long v1), none, some (.int v3), some (.int v4), some (.int v5), v6.map Value.int, v7.map Value.int] [] h (some (.int r.1), r.2)) (v0 : Option Nat) (v1 : Int64) (v3 : Int32) (v4 : Int32) (v5 : Int32) (v6 : Int32) (v7 : Option (Int32))  (h : Hp) (r : Int32 × Hp) (hb : b_38_62 k3 v0 v1 v3 v4 v5 v6  h = some r) : Rn d 38 62 [some (va_rf v0), some (.long v1), none, some (.int v3), some (.int v4), some (.int v5), some (.int v6), v7.map Value.int] [] h (some (.int r.1), r.2) := by
  unfold b_38_62 at hb
  obtain ⟨e, rfl⟩ : ∃ e, d = e + 1 := ⟨d - 1, by omega⟩
  refine rn_aload_n (i := 0) rfl rfl ?_
  refine rn_lload_n (i := 1) rfl rfl ?_
  refine rn_iload_n (i := 3) rfl rfl ?_
  refine rn_iload (i := 5) rfl rfl ?_
  obtain ⟨hrc, hb⟩ := grd_spec hb
  obtain ⟨p1, hc, hb⟩ := Option.bind_eq_some_iff.mp hb
  refine Rn.call1 (d := e) (As := [va_rf v0, .long v1, .int v3, .int v5]) (rest := []) rfl rfl rfl (by decide) rfl rfl rfl (bd_rcV hrc rfl) (by decide) (bd_lenC (n := 5) rfl (bd_slR (bd_slJ (bd_slI (bd_slI bd_slN)))) rfl) (bd_locC (n := 5) rfl (bd_slR (bd_slJ (bd_slI (bd_slI bd_slN)))) rfl (t_33 e (by omega) v0 v1 v3 v5 h _ hc)) ?_
  refine rn_aload_n (i := 0) rfl rfl ?_
  refine rn_lload_n (i := 1) rfl rfl ?_
  refine rn_iload_n (i := 3) rfl rfl ?_
  refine rn_iload (i := 4) rfl rfl ?_
  obtain ⟨hrc, hb⟩ := grd_spec hb
  obtain ⟨p2, hc, hb⟩ := Option.bind_eq_some_iff.mp hb
  refine Rn.call1 (d := e) (As := [va_rf v0, .long v1, .int v3, .int v4]) (rest := [.long p1.1]) rfl rfl rfl (by decide) rfl rfl rfl (bd_rcV hrc rfl) (by rw [bd_cJ (bd_cN)]; decide) (bd_lenC (n := 5) rfl (bd_slR (bd_slJ (bd_slI (bd_slI bd_slN)))) rfl) (bd_locC (n := 5) rfl (bd_slR (bd_slJ (bd_slI (bd_slI bd_slN)))) rfl (t_33 e (by omega) v0 v1 v3 v4 p1.2 _ hc)) ?_
  refine rn_lcmp rfl ?_
  refine rn_if_ne rfl rfl (fun hc => ?_) (fun hc => ?_)
  · exact u_38_86 (e + 1) hd k3 K3 v0 v1 v3 v4 v5 v6 v7  p2.2 _ (if_t hb hc)
  · exact u_38_82 (e + 1) hd k3 K3 v0 v1 v3 v4 v5 v6 v7  p2.2 _ (if_f hb hc)
def b_38_52 (k3 : Option Nat → Int64 → Int32 → Int32 → Int32 → Hp → Option (Int32 × Hp)) (v0 : Option Nat) (v1 : Int64) (v3 : Int32) (v4 : Int32) (v5 : Int32) (v6 : Int32)  (h : Hp) : Option (Int32 × Hp) :=
  (f_31 v1 v3 v5 h).bind fun p1 =>
  if p1.1 = 0 then b_38_86 k3 v0 v1 v3 v4 v5 v6  p1.2 else b_38_62 k3 v0 v1 v3 v4 v5 v6  p1.2
theorem u_38_52 (d : Nat) (hd : 1 ≤ d) (k3 : Option Nat → Int64 → Int32 → Int32 → Int32 → Hp → Option (Int32 × Hp)) (K3 : ∀ (v0 : Option Nat) (v1 : Int64) (v3 : Int32) (v4 : Int32) (v5 : Int32) (v6 : Option (Int32)) (v7 : Option (Int32)) (h : Hp) (r : Int32 × Hp), k3 v0 v1 v3 v4 v5 h = some r → Rn d 38 3 [some (va_rf v0), some (.long v1), none, some (.int v3), some (.int v4), some (.int v5), v6.map Value.int, v7.map Value.int] [] h (some (.int r.1), r.2)) (v0 : Option Nat) (v1 : Int64) (v3 : Int32) (v4 : Int32) (v5 : Int32) (v6 : Int32) (v7 : Option (Int32))  (h : Hp) (r : Int32 × Hp) (hb : b_38_52 k3 v0 v1 v3 v4 v5 v6  h = some r) : Rn d 38 52 [some (va_rf v0), some (.long v1), none, some (.int v3), some (.int v4), some (.int v5), some (.int v6), v7.map Value.int] [] h (some (.int r.1), r.2) := by
  unfold b_38_52 at hb
  obtain ⟨e, rfl⟩ : ∃ e, d = e + 1 := ⟨d - 1, by omega⟩
  refine rn_lload_n (i := 1) rfl rfl ?_
  refine rn_iload_n (i := 3) rfl rfl ?_
  refine rn_iload (i := 5) rfl rfl ?_
  obtain ⟨p1, hc, hb⟩ := Option.bind_eq_some_iff.mp hb
  refine Rn.call1 (d := e) (As := [.long v1, .int v3, .int v5]) (rest := []) rfl rfl rfl (by decide) rfl rfl rfl rfl (by decide) (bd_lenC (n := 4) rfl (bd_slJ (bd_slI (bd_slI bd_slN))) rfl) (bd_locC (n := 4) rfl (bd_slJ (bd_slI (bd_slI bd_slN))) rfl (t_31 e (by omega) v1 v3 v5 h _ hc)) ?_
  refine rn_if_eq rfl rfl (fun hc => ?_) (fun hc => ?_)
  · exact u_38_86 (e + 1) hd k3 K3 v0 v1 v3 v4 v5 v6 v7  p1.2 _ (if_t hb hc)
  · exact u_38_62 (e + 1) hd k3 K3 v0 v1 v3 v4 v5 v6 v7  p1.2 _ (if_f hb hc)
def b_38_43 (k3 : Option Nat → Int64 → Int32 → Int32 → Int32 → Hp → Option (Int32 × Hp)) (v0 : Option Nat) (v1 : Int64) (v3 : Int32) (v4 : Int32) (v5 : Int32) (s0 : Int32) (h : Hp) : Option (Int32 × Hp) :=
  if v5 = v4 then b_38_86 k3 v0 v1 v3 v4 v5 s0  h else b_38_52 k3 v0 v1 v3 v4 v5 s0  h
theorem u_38_43 (d : Nat) (hd : 1 ≤ d) (k3 : Option Nat → Int64 → Int32 → Int32 → Int32 → Hp → Option (Int32 × Hp)) (K3 : ∀ (v0 : Option Nat) (v1 : Int64) (v3 : Int32) (v4 : Int32) (v5 : Int32) (v6 : Option (Int32)) (v7 : Option (Int32)) (h : Hp) (r : Int32 × Hp), k3 v0 v1 v3 v4 v5 h = some r → Rn d 38 3 [some (va_rf v0), some (.long v1), none, some (.int v3), some (.int v4), some (.int v5), v6.map Value.int, v7.map Value.int] [] h (some (.int r.1), r.2)) (v0 : Option Nat) (v1 : Int64) (v3 : Int32) (v4 : Int32) (v5 : Int32) (v6 : Option (Int32)) (v7 : Option (Int32)) (s0 : Int32) (h : Hp) (r : Int32 × Hp) (hb : b_38_43 k3 v0 v1 v3 v4 v5 s0 h = some r) : Rn d 38 43 [some (va_rf v0), some (.long v1), none, some (.int v3), some (.int v4), some (.int v5), v6.map Value.int, v7.map Value.int] [.int s0] h (some (.int r.1), r.2) := by
  unfold b_38_43 at hb
  refine rn_istore (i := 6) (L1 := [some (va_rf v0), some (.long v1), none, some (.int v3), some (.int v4), some (.int v5), some (.int s0), v7.map Value.int]) rfl (Nat.le_of_ble_eq_true rfl) (Or.inr rfl) rfl ?_
  refine rn_iload (i := 5) rfl rfl ?_
  refine rn_iload (i := 4) rfl rfl ?_
  refine rn_icmp_eq rfl rfl (fun hc => ?_) (fun hc => ?_)
  · exact u_38_86 d hd k3 K3 v0 v1 v3 v4 v5 s0 v7  h _ (if_t hb hc)
  · exact u_38_52 d hd k3 K3 v0 v1 v3 v4 v5 s0 v7  h _ (if_f hb hc)
def b_38_38 (k3 : Option Nat → Int64 → Int32 → Int32 → Int32 → Hp → Option (Int32 × Hp)) (v0 : Option Nat) (v1 : Int64) (v3 : Int32) (v4 : Int32) (v5 : Int32)  (h : Hp) : Option (Int32 × Hp) :=
  b_38_43 k3 v0 v1 v3 v4 v5 (nI 1) h
theorem u_38_38 (d : Nat) (hd : 1 ≤ d) (k3 : Option Nat → Int64 → Int32 → Int32 → Int32 → Hp → Option (Int32 × Hp)) (K3 : ∀ (v0 : Option Nat) (v1 : Int64) (v3 : Int32) (v4 : Int32) (v5 : Int32) (v6 : Option (Int32)) (v7 : Option (Int32)) (h : Hp) (r : Int32 × Hp), k3 v0 v1 v3 v4 v5 h = some r → Rn d 38 3 [some (va_rf v0), some (.long v1), none, some (.int v3), some (.int v4), some (.int v5), v6.map Value.int, v7.map Value.int] [] h (some (.int r.1), r.2)) (v0 : Option Nat) (v1 : Int64) (v3 : Int32) (v4 : Int32) (v5 : Int32) (v6 : Option (Int32)) (v7 : Option (Int32))  (h : Hp) (r : Int32 × Hp) (hb : b_38_38 k3 v0 v1 v3 v4 v5  h = some r) : Rn d 38 38 [some (va_rf v0), some (.long v1), none, some (.int v3), some (.int v4), some (.int v5), v6.map Value.int, v7.map Value.int] [] h (some (.int r.1), r.2) := by
  unfold b_38_38 at hb
  refine rn_iconst (x := (nI 1)) rfl (by decide) ?_
  refine rn_goto rfl rfl ?_
  exact u_38_43 d hd k3 K3 v0 v1 v3 v4 v5 v6 v7 (nI 1) h _ hb
def b_38_42 (k3 : Option Nat → Int64 → Int32 → Int32 → Int32 → Hp → Option (Int32 × Hp)) (v0 : Option Nat) (v1 : Int64) (v3 : Int32) (v4 : Int32) (v5 : Int32)  (h : Hp) : Option (Int32 × Hp) :=
  b_38_43 k3 v0 v1 v3 v4 v5 (nI 0) h
theorem u_38_42 (d : Nat) (hd : 1 ≤ d) (k3 : Option Nat → Int64 → Int32 → Int32 → Int32 → Hp → Option (Int32 × Hp)) (K3 : ∀ (v0 : Option Nat) (v1 : Int64) (v3 : Int32) (v4 : Int32) (v5 : Int32) (v6 : Option (Int32)) (v7 : Option (Int32)) (h : Hp) (r : Int32 × Hp), k3 v0 v1 v3 v4 v5 h = some r → Rn d 38 3 [some (va_rf v0), some (.long v1), none, some (.int v3), some (.int v4), some (.int v5), v6.map Value.int, v7.map Value.int] [] h (some (.int r.1), r.2)) (v0 : Option Nat) (v1 : Int64) (v3 : Int32) (v4 : Int32) (v5 : Int32) (v6 : Option (Int32)) (v7 : Option (Int32))  (h : Hp) (r : Int32 × Hp) (hb : b_38_42 k3 v0 v1 v3 v4 v5  h = some r) : Rn d 38 42 [some (va_rf v0), some (.long v1), none, some (.int v3), some (.int v4), some (.int v5), v6.map Value.int, v7.map Value.int] [] h (some (.int r.1), r.2) := by
  unfold b_38_42 at hb
  refine rn_iconst (x := (nI 0)) rfl (by decide) ?_
  exact u_38_43 d hd k3 K3 v0 v1 v3 v4 v5 v6 v7 (nI 0) h _ hb
def b_38_27 (k3 : Option Nat → Int64 → Int32 → Int32 → Int32 → Hp → Option (Int32 × Hp)) (v0 : Option Nat) (v1 : Int64) (v3 : Int32) (v4 : Int32) (v5 : Int32)  (h : Hp) : Option (Int32 × Hp) :=
  (gQ 3 3 v0 h).bind fun x1 =>
  (aI 12 x1 v3 h).bind fun x2 =>
  if v4 = x2 then b_38_42 k3 v0 v1 v3 v4 v5  h else b_38_38 k3 v0 v1 v3 v4 v5  h
theorem u_38_27 (d : Nat) (hd : 1 ≤ d) (k3 : Option Nat → Int64 → Int32 → Int32 → Int32 → Hp → Option (Int32 × Hp)) (K3 : ∀ (v0 : Option Nat) (v1 : Int64) (v3 : Int32) (v4 : Int32) (v5 : Int32) (v6 : Option (Int32)) (v7 : Option (Int32)) (h : Hp) (r : Int32 × Hp), k3 v0 v1 v3 v4 v5 h = some r → Rn d 38 3 [some (va_rf v0), some (.long v1), none, some (.int v3), some (.int v4), some (.int v5), v6.map Value.int, v7.map Value.int] [] h (some (.int r.1), r.2)) (v0 : Option Nat) (v1 : Int64) (v3 : Int32) (v4 : Int32) (v5 : Int32) (v6 : Option (Int32)) (v7 : Option (Int32))  (h : Hp) (r : Int32 × Hp) (hb : b_38_27 k3 v0 v1 v3 v4 v5  h = some r) : Rn d 38 27 [some (va_rf v0), some (.long v1), none, some (.int v3), some (.int v4), some (.int v5), v6.map Value.int, v7.map Value.int] [] h (some (.int r.1), r.2) := by
  unfold b_38_27 at hb
  refine rn_iload (i := 4) rfl rfl ?_
  refine rn_aload_n (i := 0) rfl rfl ?_
  refine rn_gQ (c := 3) (k := 3) rfl (by decide) hb (fun x1 hb => ?_)
  refine rn_iload_n (i := 3) rfl rfl ?_
  refine rn_aI rfl hb (fun x2 hb => ?_)
  refine rn_icmp_eq rfl rfl (fun hc => ?_) (fun hc => ?_)
  · exact u_38_42 d hd k3 K3 v0 v1 v3 v4 v5 v6 v7  h _ (if_t hb hc)
  · exact u_38_38 d hd k3 K3 v0 v1 v3 v4 v5 v6 v7  h _ (if_f hb hc)
def b_38_20 (k3 : Option Nat → Int64 → Int32 → Int32 → Int32 → Hp → Option (Int32 × Hp)) (v0 : Option Nat) (v1 : Int64) (v3 : Int32) (v4 : Int32) (v5 : Int32)  (h : Hp) : Option (Int32 × Hp) :=
  if v4 ≤ v5 then b_38_42 k3 v0 v1 v3 v4 v5  h else b_38_27 k3 v0 v1 v3 v4 v5  h
theorem u_38_20 (d : Nat) (hd : 1 ≤ d) (k3 : Option Nat → Int64 → Int32 → Int32 → Int32 → Hp → Option (Int32 × Hp)) (K3 : ∀ (v0 : Option Nat) (v1 : Int64) (v3 : Int32) (v4 : Int32) (v5 : Int32) (v6 : Option (Int32)) (v7 : Option (Int32)) (h : Hp) (r : Int32 × Hp), k3 v0 v1 v3 v4 v5 h = some r → Rn d 38 3 [some (va_rf v0), some (.long v1), none, some (.int v3), some (.int v4), some (.int v5), v6.map Value.int, v7.map Value.int] [] h (some (.int r.1), r.2)) (v0 : Option Nat) (v1 : Int64) (v3 : Int32) (v4 : Int32) (v5 : Int32) (v6 : Option (Int32)) (v7 : Option (Int32))  (h : Hp) (r : Int32 × Hp) (hb : b_38_20 k3 v0 v1 v3 v4 v5  h = some r) : Rn d 38 20 [some (va_rf v0), some (.long v1), none, some (.int v3), some (.int v4), some (.int v5), v6.map Value.int, v7.map Value.int] [] h (some (.int r.1), r.2) := by
  unfold b_38_20 at hb
  refine rn_iload (i := 5) rfl rfl ?_
  refine rn_iload (i := 4) rfl rfl ?_
  refine rn_icmp_ge rfl rfl (fun hc => ?_) (fun hc => ?_)
  · exact u_38_42 d hd k3 K3 v0 v1 v3 v4 v5 v6 v7  h _ (if_t hb hc)
  · exact u_38_27 d hd k3 K3 v0 v1 v3 v4 v5 v6 v7  h _ (if_f hb hc)
def b_38_9 (k3 : Option Nat → Int64 → Int32 → Int32 → Int32 → Hp → Option (Int32 × Hp)) (v0 : Option Nat) (v1 : Int64) (v3 : Int32) (v4 : Int32) (v5 : Int32)  (h : Hp) : Option (Int32 × Hp) :=
  (gQ 3 3 v0 h).bind fun x1 =>
  (aI 12 x1 v3 h).bind fun x2 =>
  if v5 = x2 then b_38_38 k3 v0 v1 v3 v4 v5  h else b_38_20 k3 v0 v1 v3 v4 v5  h
theorem u_38_9 (d : Nat) (hd : 1 ≤ d) (k3 : Option Nat → Int64 → Int32 → Int32 → Int32 → Hp → Option (Int32 × Hp)) (K3 : ∀ (v0 : Option Nat) (v1 : Int64) (v3 : Int32) (v4 : Int32) (v5 : Int32) (v6 : Option (Int32)) (v7 : Option (Int32)) (h : Hp) (r : Int32 × Hp), k3 v0 v1 v3 v4 v5 h = some r → Rn d 38 3 [some (va_rf v0), some (.long v1), none, some (.int v3), some (.int v4), some (.int v5), v6.map Value.int, v7.map Value.int] [] h (some (.int r.1), r.2)) (v0 : Option Nat) (v1 : Int64) (v3 : Int32) (v4 : Int32) (v5 : Int32) (v6 : Option (Int32)) (v7 : Option (Int32))  (h : Hp) (r : Int32 × Hp) (hb : b_38_9 k3 v0 v1 v3 v4 v5  h = some r) : Rn d 38 9 [some (va_rf v0), some (.long v1), none, some (.int v3), some (.int v4), some (.int v5), v6.map Value.int, v7.map Value.int] [] h (some (.int r.1), r.2) := by
  unfold b_38_9 at hb
  refine rn_iload (i := 5) rfl rfl ?_
  refine rn_aload_n (i := 0) rfl rfl ?_
  refine rn_gQ (c := 3) (k := 3) rfl (by decide) hb (fun x1 hb => ?_)
  refine rn_iload_n (i := 3) rfl rfl ?_
  refine rn_aI rfl hb (fun x2 hb => ?_)
  refine rn_icmp_eq rfl rfl (fun hc => ?_) (fun hc => ?_)
  · exact u_38_38 d hd k3 K3 v0 v1 v3 v4 v5 v6 v7  h _ (if_t hb hc)
  · exact u_38_20 d hd k3 K3 v0 v1 v3 v4 v5 v6 v7  h _ (if_f hb hc)
def b_38_3 (k3 : Option Nat → Int64 → Int32 → Int32 → Int32 → Hp → Option (Int32 × Hp)) (v0 : Option Nat) (v1 : Int64) (v3 : Int32) (v4 : Int32) (v5 : Int32)  (h : Hp) : Option (Int32 × Hp) :=
  if (nI 4) ≤ v5 then b_38_107   h else b_38_9 k3 v0 v1 v3 v4 v5  h
theorem u_38_3 (d : Nat) (hd : 1 ≤ d) (k3 : Option Nat → Int64 → Int32 → Int32 → Int32 → Hp → Option (Int32 × Hp)) (K3 : ∀ (v0 : Option Nat) (v1 : Int64) (v3 : Int32) (v4 : Int32) (v5 : Int32) (v6 : Option (Int32)) (v7 : Option (Int32)) (h : Hp) (r : Int32 × Hp), k3 v0 v1 v3 v4 v5 h = some r → Rn d 38 3 [some (va_rf v0), some (.long v1), none, some (.int v3), some (.int v4), some (.int v5), v6.map Value.int, v7.map Value.int] [] h (some (.int r.1), r.2)) (v0 : Option Nat) (v1 : Int64) (v3 : Int32) (v4 : Int32) (v5 : Int32) (v6 : Option (Int32)) (v7 : Option (Int32))  (h : Hp) (r : Int32 × Hp) (hb : b_38_3 k3 v0 v1 v3 v4 v5  h = some r) : Rn d 38 3 [some (va_rf v0), some (.long v1), none, some (.int v3), some (.int v4), some (.int v5), v6.map Value.int, v7.map Value.int] [] h (some (.int r.1), r.2) := by
  unfold b_38_3 at hb
  refine rn_iload (i := 5) rfl rfl ?_
  refine rn_iconst (x := (nI 4)) rfl (by decide) ?_
  refine rn_icmp_ge rfl rfl (fun hc => ?_) (fun hc => ?_)
  · exact u_38_107 d hd v0 v1 v3 v4 v5 v6 v7  h _ (if_t hb hc)
  · exact u_38_9 d hd k3 K3 v0 v1 v3 v4 v5 v6 v7  h _ (if_f hb hc)
def l_38_3 : Nat → Option Nat → Int64 → Int32 → Int32 → Int32 → Hp → Option (Int32 × Hp)
  | 0, _, _, _, _, _, _ => none
  | n + 1, v0, v1, v3, v4, v5, h => b_38_3 (l_38_3 n) v0 v1 v3 v4 v5 h
theorem w_38_3 (d : Nat) (hd : 1 ≤ d) : ∀ (n : Nat) (v0 : Option Nat) (v1 : Int64) (v3 : Int32) (v4 : Int32) (v5 : Int32) (v6 : Option (Int32)) (v7 : Option (Int32)) (h : Hp) (r : Int32 × Hp), l_38_3 n v0 v1 v3 v4 v5 h = some r → Rn d 38 3 [some (va_rf v0), some (.long v1), none, some (.int v3), some (.int v4), some (.int v5), v6.map Value.int, v7.map Value.int] [] h (some (.int r.1), r.2) := by
  intro n
  induction n with
  | zero => intro v0 v1 v3 v4 v5 v6 v7 h r hb; cases hb
  | succ n ih => intro v0 v1 v3 v4 v5 v6 v7 h r hb; exact u_38_3 d hd (l_38_3 n) ih v0 v1 v3 v4 v5 v6 v7 h r hb
def b_38_0 (v0 : Option Nat) (v1 : Int64) (v3 : Int32) (v4 : Int32)  (h : Hp) : Option (Int32 × Hp) :=
  bnd ((nI 0)) fun x1 =>
  l_38_3 FU v0 v1 v3 v4 x1 h
theorem u_38_0 (d : Nat) (hd : 1 ≤ d) (v0 : Option Nat) (v1 : Int64) (v3 : Int32) (v4 : Int32)  (h : Hp) (r : Int32 × Hp) (hb : b_38_0 v0 v1 v3 v4  h = some r) : Rn d 38 0 [some (va_rf v0), some (.long v1), none, some (.int v3), some (.int v4), none, none, none] [] h (some (.int r.1), r.2) := by
  unfold b_38_0 at hb
  refine rn_iconst (x := (nI 0)) rfl (by decide) ?_
  obtain ⟨x1, ex1, hb⟩ := bnd_spec hb
  refine rn_istore (i := 5) (L1 := [some (va_rf v0), some (.long v1), none, some (.int v3), some (.int v4), some (.int x1), none, none]) rfl (Nat.le_of_ble_eq_true rfl) (Or.inr rfl) (by rw [ex1]; rfl) ?_
  exact w_38_3 d hd FU v0 v1 v3 v4 x1 (none : Option (Int32)) (none : Option (Int32)) h _ hb
/-- BitingDoors$Hanger.hasBetterTwin(JII)Z -/
def f_38 (v0 : Option Nat) (v1 : Int64) (v3 : Int32) (v4 : Int32) (h : Hp) : Option (Int32 × Hp) := b_38_0 v0 v1 v3 v4 h
theorem t_38 (d : Nat) (hd : 1 ≤ d) (v0 : Option Nat) (v1 : Int64) (v3 : Int32) (v4 : Int32) (h : Hp) (r : Int32 × Hp) (hb : f_38 v0 v1 v3 v4 h = some r) : Rn d 38 0 [some (va_rf v0), some (.long v1), none, some (.int v3), some (.int v4), none, none, none] [] h (some (.int r.1), r.2) := by
  unfold f_38 at hb
  exact u_38_0 d hd v0 v1 v3 v4 h r hb
def b_37_169 (R : Option Nat → Int32 → Int64 → Int32 → Hp → Option (Hp))   (h : Hp) : Option (Hp) :=
  some h
theorem u_37_169 (E : Nat) (hE : 1 ≤ E) (d : Nat) (hd : E + 1 ≤ d) (R : Option Nat → Int32 → Int64 → Int32 → Hp → Option (Hp)) (HR : ∀ (d : Nat) (a0 : Option Nat) (a1 : Int32) (a2 : Int64) (a3 : Int32) (h : Hp) (r : Hp), E ≤ d → R a0 a1 a2 a3 h = some r → Rn d 37 0 [some (va_rf a0), some (.int a1), some (.long a2), none, some (.int a3), none, none, none] [] h (none, r)) (v0 : Option Nat) (v1 : Int32) (v2 : Int64) (v4 : Int32) (v5 : Int32) (v6 : Option (Int64))  (h : Hp) (r : Hp) (hb : b_37_169 R   h = some r) : Rn d 37 169 [some (va_rf v0), some (.int v1), some (.long v2), none, some (.int v4), some (.int v5), v6.map Value.long, none] [] h (none, r) := by
  unfold b_37_169 at hb
  obtain rfl := Option.some.inj hb
  exact rn_vret rfl rfl
def b_37_163 (R : Option Nat → Int32 → Int64 → Int32 → Hp → Option (Hp)) (k68 : Option Nat → Int32 → Int64 → Int32 → Int32 → Hp → Option (Hp)) (v0 : Option Nat) (v1 : Int32) (v2 : Int64) (v4 : Int32) (v5 : Int32)  (h : Hp) : Option (Hp) :=
  bnd (v5 + (nI 1)) fun x1 =>
  k68 v0 v1 v2 v4 x1 h
theorem u_37_163 (E : Nat) (hE : 1 ≤ E) (d : Nat) (hd : E + 1 ≤ d) (R : Option Nat → Int32 → Int64 → Int32 → Hp → Option (Hp)) (HR : ∀ (d : Nat) (a0 : Option Nat) (a1 : Int32) (a2 : Int64) (a3 : Int32) (h : Hp) (r : Hp), E ≤ d → R a0 a1 a2 a3 h = some r → Rn d 37 0 [some (va_rf a0), some (.int a1), some (.long a2), none, some (.int a3), none, none, none] [] h (none, r)) (k68 : Option Nat → Int32 → Int64 → Int32 → Int32 → Hp → Option (Hp)) (K68 : ∀ (v0 : Option Nat) (v1 : Int32) (v2 : Int64) (v4 : Int32) (v5 : Int32) (v6 : Option (Int64)) (h : Hp) (r : Hp), k68 v0 v1 v2 v4 v5 h = some r → Rn d 37 68 [some (va_rf v0), some (.int v1), some (.long v2), none, some (.int v4), some (.int v5), v6.map Value.long, none] [] h (none, r)) (v0 : Option Nat) (v1 : Int32) (v2 : Int64) (v4 : Int32) (v5 : Int32) (v6 : Option (Int64))  (h : Hp) (r : Hp) (hb : b_37_163 R k68 v0 v1 v2 v4 v5  h = some r) : Rn d 37 163 [some (va_rf v0), some (.int v1), some (.long v2), none, some (.int v4), some (.int v5), v6.map Value.long, none] [] h (none, r) := by
  unfold b_37_163 at hb
  obtain ⟨x1, ex1, hb⟩ := bnd_spec hb
  refine rn_iinc (i := 5) (y := x1) (L1 := [some (va_rf v0), some (.int v1), some (.long v2), none, some (.int v4), some (.int x1), v6.map Value.long, none]) rfl rfl (Nat.le_of_ble_eq_true rfl) (Or.inr rfl) (by rw [ex1]; rfl) rfl ?_
  refine rn_goto rfl rfl ?_
  exact K68 v0 v1 v2 v4 x1 v6 h _ hb
def b_37_159 (R : Option Nat → Int32 → Int64 → Int32 → Hp → Option (Hp)) (k68 : Option Nat → Int32 → Int64 → Int32 → Int32 → Hp → Option (Hp)) (v0 : Option Nat) (v1 : Int32) (v2 : Int64) (v4 : Int32) (v5 : Int32) (s0 : Option Nat) (s1 : Int32) (s2 : Int64) (s3 : Int32) (s4 : Int32) (h : Hp) : Option (Hp) :=
  (grd (rC 3 s0 h)).bind fun _ =>
  (R s0 s1 s2 (s3 + s4) h).bind fun p1 =>
  b_37_163 R k68 v0 v1 v2 v4 v5  p1
theorem u_37_159 (E : Nat) (hE : 1 ≤ E) (d : Nat) (hd : E + 1 ≤ d) (R : Option Nat → Int32 → Int64 → Int32 → Hp → Option (Hp)) (HR : ∀ (d : Nat) (a0 : Option Nat) (a1 : Int32) (a2 : Int64) (a3 : Int32) (h : Hp) (r : Hp), E ≤ d → R a0 a1 a2 a3 h = some r → Rn d 37 0 [some (va_rf a0), some (.int a1), some (.long a2), none, some (.int a3), none, none, none] [] h (none, r)) (k68 : Option Nat → Int32 → Int64 → Int32 → Int32 → Hp → Option (Hp)) (K68 : ∀ (v0 : Option Nat) (v1 : Int32) (v2 : Int64) (v4 : Int32) (v5 : Int32) (v6 : Option (Int64)) (h : Hp) (r : Hp), k68 v0 v1 v2 v4 v5 h = some r → Rn d 37 68 [some (va_rf v0), some (.int v1), some (.long v2), none, some (.int v4), some (.int v5), v6.map Value.long, none] [] h (none, r)) (v0 : Option Nat) (v1 : Int32) (v2 : Int64) (v4 : Int32) (v5 : Int32) (v6 : Int64) (s0 : Option Nat) (s1 : Int32) (s2 : Int64) (s3 : Int32) (s4 : Int32) (h : Hp) (r : Hp) (hb : b_37_159 R k68 v0 v1 v2 v4 v5 s0 s1 s2 s3 s4 h = some r) : Rn d 37 159 [some (va_rf v0), some (.int v1), some (.long v2), none, some (.int v4), some (.int v5), some (.long v6), none] [.int s4, .int s3, .long s2, .int s1, va_rf s0] h (none, r) := by
  unfold b_37_159 at hb
  obtain ⟨e, rfl⟩ : ∃ e, d = e + 1 := ⟨d - 1, by omega⟩
  refine rn_iadd rfl ?_
  obtain ⟨hrc, hb⟩ := grd_spec hb
  obtain ⟨p1, hc, hb⟩ := Option.bind_eq_some_iff.mp hb
  refine Rn.call0 (d := e) (As := [va_rf s0, .int s1, .long s2, .int (s3 + s4)]) (rest := []) rfl rfl rfl (by decide) rfl rfl rfl (bd_rcV hrc rfl) (by decide) (bd_lenC (n := 8) rfl (bd_slR (bd_slI (bd_slJ (bd_slI bd_slN)))) rfl) (bd_locC (n := 8) rfl (bd_slR (bd_slI (bd_slJ (bd_slI bd_slN)))) rfl (HR e s0 s1 s2 (s3 + s4) h _ (by omega) hc)) ?_
  exact u_37_163 E hE (e + 1) hd R HR k68 K68 v0 v1 v2 v4 v5 (some v6)  p1 _ hb
def b_37_153 (R : Option Nat → Int32 → Int64 → Int32 → Hp → Option (Hp)) (k68 : Option Nat → Int32 → Int64 → Int32 → Int32 → Hp → Option (Hp)) (v0 : Option Nat) (v1 : Int32) (v2 : Int64) (v4 : Int32) (v5 : Int32) (s0 : Option Nat) (s1 : Int32) (s2 : Int64) (s3 : Int32) (h : Hp) : Option (Hp) :=
  (gQ 3 10 v0 h).bind fun x1 =>
  (aI 12 x1 v1 h).bind fun x2 =>
  b_37_159 R k68 v0 v1 v2 v4 v5 s0 s1 s2 s3 x2 h
theorem u_37_153 (E : Nat) (hE : 1 ≤ E) (d : Nat) (hd : E + 1 ≤ d) (R : Option Nat → Int32 → Int64 → Int32 → Hp → Option (Hp)) (HR : ∀ (d : Nat) (a0 : Option Nat) (a1 : Int32) (a2 : Int64) (a3 : Int32) (h : Hp) (r : Hp), E ≤ d → R a0 a1 a2 a3 h = some r → Rn d 37 0 [some (va_rf a0), some (.int a1), some (.long a2), none, some (.int a3), none, none, none] [] h (none, r)) (k68 : Option Nat → Int32 → Int64 → Int32 → Int32 → Hp → Option (Hp)) (K68 : ∀ (v0 : Option Nat) (v1 : Int32) (v2 : Int64) (v4 : Int32) (v5 : Int32) (v6 : Option (Int64)) (h : Hp) (r : Hp), k68 v0 v1 v2 v4 v5 h = some r → Rn d 37 68 [some (va_rf v0), some (.int v1), some (.long v2), none, some (.int v4), some (.int v5), v6.map Value.long, none] [] h (none, r)) (v0 : Option Nat) (v1 : Int32) (v2 : Int64) (v4 : Int32) (v5 : Int32) (v6 : Int64) (s0 : Option Nat) (s1 : Int32) (s2 : Int64) (s3 : Int32) (h : Hp) (r : Hp) (hb : b_37_153 R k68 v0 v1 v2 v4 v5 s0 s1 s2 s3 h = some r) : Rn d 37 153 [some (va_rf v0), some (.int v1), some (.long v2), none, some (.int v4), some (.int v5), some (.long v6), none] [.int s3, .long s2, .int s1, va_rf s0] h (none, r) := by
  unfold b_37_153 at hb
  refine rn_aload_n (i := 0) rfl rfl ?_
  refine rn_gQ (c := 3) (k := 10) rfl (by decide) hb (fun x1 hb => ?_)
  refine rn_iload_n (i := 1) rfl rfl ?_
  refine rn_aI rfl hb (fun x2 hb => ?_)
  exact u_37_159 E hE d hd R HR k68 K68 v0 v1 v2 v4 v5 v6 s0 s1 s2 s3 x2 h _ hb
def b_37_149 (R : Option Nat → Int32 → Int64 → Int32 → Hp → Option (Hp)) (k68 : Option Nat → Int32 → Int64 → Int32 → Int32 → Hp → Option (Hp)) (v0 : Option Nat) (v1 : Int32) (v2 : Int64) (v4 : Int32) (v5 : Int32) (s0 : Option Nat) (s1 : Int32) (s2 : Int64) (s3 : Int32) (h : Hp) : Option (Hp) :=
  b_37_159 R k68 v0 v1 v2 v4 v5 s0 s1 s2 s3 (nI 0) h
theorem u_37_149 (E : Nat) (hE : 1 ≤ E) (d : Nat) (hd : E + 1 ≤ d) (R : Option Nat → Int32 → Int64 → Int32 → Hp → Option (Hp)) (HR : ∀ (d : Nat) (a0 : Option Nat) (a1 : Int32) (a2 : Int64) (a3 : Int32) (h : Hp) (r : Hp), E ≤ d → R a0 a1 a2 a3 h = some r → Rn d 37 0 [some (va_rf a0), some (.int a1), some (.long a2), none, some (.int a3), none, none, none] [] h (none, r)) (k68 : Option Nat → Int32 → Int64 → Int32 → Int32 → Hp → Option (Hp)) (K68 : ∀ (v0 : Option Nat) (v1 : Int32) (v2 : Int64) (v4 : Int32) (v5 : Int32) (v6 : Option (Int64)) (h : Hp) (r : Hp), k68 v0 v1 v2 v4 v5 h = some r → Rn d 37 68 [some (va_rf v0), some (.int v1), some (.long v2), none, some (.int v4), some (.int v5), v6.map Value.long, none] [] h (none, r)) (v0 : Option Nat) (v1 : Int32) (v2 : Int64) (v4 : Int32) (v5 : Int32) (v6 : Int64) (s0 : Option Nat) (s1 : Int32) (s2 : Int64) (s3 : Int32) (h : Hp) (r : Hp) (hb : b_37_149 R k68 v0 v1 v2 v4 v5 s0 s1 s2 s3 h = some r) : Rn d 37 149 [some (va_rf v0), some (.int v1), some (.long v2), none, some (.int v4), some (.int v5), some (.long v6), none] [.int s3, .long s2, .int s1, va_rf s0] h (none, r) := by
  unfold b_37_149 at hb
  refine rn_iconst (x := (nI 0)) rfl (by decide) ?_
  refine rn_goto rfl rfl ?_
  exact u_37_159 E hE d hd R HR k68 K68 v0 v1 v2 v4 v5 v6 s0 s1 s2 s3 (nI 0) h _ hb
def b_37_130 (R : Option Nat → Int32 → Int64 → Int32 → Hp → Option (Hp)) (k68 : Option Nat → Int32 → Int64 → Int32 → Int32 → Hp → Option (Hp)) (v0 : Option Nat) (v1 : Int32) (v2 : Int64) (v4 : Int32) (v5 : Int32) (v6 : Int64)  (h : Hp) : Option (Hp) :=
  (gQ 3 3 v0 h).bind fun x1 =>
  (aI 12 x1 v1 h).bind fun x2 =>
  if ¬ v5 = x2 then b_37_153 R k68 v0 v1 v2 v4 v5 v0 (v1 + (nI 1)) v6 v4 h else b_37_149 R k68 v0 v1 v2 v4 v5 v0 (v1 + (nI 1)) v6 v4 h
theorem u_37_130 (E : Nat) (hE : 1 ≤ E) (d : Nat) (hd : E + 1 ≤ d) (R : Option Nat → Int32 → Int64 → Int32 → Hp → Option (Hp)) (HR : ∀ (d : Nat) (a0 : Option Nat) (a1 : Int32) (a2 : Int64) (a3 : Int32) (h : Hp) (r : Hp), E ≤ d → R a0 a1 a2 a3 h = some r → Rn d 37 0 [some (va_rf a0), some (.int a1), some (.long a2), none, some (.int a3), none, none, none] [] h (none, r)) (k68 : Option Nat → Int32 → Int64 → Int32 → Int32 → Hp → Option (Hp)) (K68 : ∀ (v0 : Option Nat) (v1 : Int32) (v2 : Int64) (v4 : Int32) (v5 : Int32) (v6 : Option (Int64)) (h : Hp) (r : Hp), k68 v0 v1 v2 v4 v5 h = some r → Rn d 37 68 [some (va_rf v0), some (.int v1), some (.long v2), none, some (.int v4), some (.int v5), v6.map Value.long, none] [] h (none, r)) (v0 : Option Nat) (v1 : Int32) (v2 : Int64) (v4 : Int32) (v5 : Int32) (v6 : Int64)  (h : Hp) (r : Hp) (hb : b_37_130 R k68 v0 v1 v2 v4 v5 v6  h = some r) : Rn d 37 130 [some (va_rf v0), some (.int v1), some (.long v2), none, some (.int v4), some (.int v5), some (.long v6), none] [] h (none, r) := by
  unfold b_37_130 at hb
  refine rn_aload_n (i := 0) rfl rfl ?_
  refine rn_iload_n (i := 1) rfl rfl ?_
  refine rn_iconst (x := (nI 1)) rfl (by decide) ?_
  refine rn_iadd rfl ?_
  refine rn_lload (i := 6) rfl rfl ?_
  refine rn_iload (i := 4) rfl rfl ?_
  refine rn_iload (i := 5) rfl rfl ?_
  refine rn_aload_n (i := 0) rfl rfl ?_
  refine rn_gQ (c := 3) (k := 3) rfl (by decide) hb (fun x1 hb => ?_)
  refine rn_iload_n (i := 1) rfl rfl ?_
  refine rn_aI rfl hb (fun x2 hb => ?_)
  refine rn_icmp_ne rfl rfl (fun hc => ?_) (fun hc => ?_)
  · exact u_37_153 E hE d hd R HR k68 K68 v0 v1 v2 v4 v5 v6 v0 (v1 + (nI 1)) v6 v4 h _ (if_t hb hc)
  · exact u_37_149 E hE d hd R HR k68 K68 v0 v1 v2 v4 v5 v6 v0 (v1 + (nI 1)) v6 v4 h _ (if_f hb hc)
def b_37_95 (R : Option Nat → Int32 → Int64 → Int32 → Hp → Option (Hp)) (k68 : Option Nat → Int32 → Int64 → Int32 → Int32 → Hp → Option (Hp)) (v0 : Option Nat) (v1 : Int32) (v2 : Int64) (v4 : Int32) (v5 : Int32)  (h : Hp) : Option (Hp) :=
  (gQ 3 0 v0 h).bind fun x1 =>
  (aJ x1 (((nI 4) * v1) + v5) h).bind fun x2 =>
  bnd ((v2 &&& x2)) fun x3 =>
  (gQ 3 11 v0 h).bind fun x4 =>
  (wI x4 v1 v5 h).bind fun h5 =>
  (grd (rC 3 v0 h5)).bind fun _ =>
  (f_32 v0 x3 (v1 + (nI 1)) h5).bind fun p6 =>
  if p6.1 = 0 then b_37_163 R k68 v0 v1 v2 v4 v5  p6.2 else b_37_130 R k68 v0 v1 v2 v4 v5 x3  p6.2
theorem u_37_95 (E : Nat) (hE : 1 ≤ E) (d : Nat) (hd : E + 1 ≤ d) (R : Option Nat → Int32 → Int64 → Int32 → Hp → Option (Hp)) (HR : ∀ (d : Nat) (a0 : Option Nat) (a1 : Int32) (a2 : Int64) (a3 : Int32) (h : Hp) (r : Hp), E ≤ d → R a0 a1 a2 a3 h = some r → Rn d 37 0 [some (va_rf a0), some (.int a1), some (.long a2), none, some (.int a3), none, none, none] [] h (none, r)) (k68 : Option Nat → Int32 → Int64 → Int32 → Int32 → Hp → Option (Hp)) (K68 : ∀ (v0 : Option Nat) (v1 : Int32) (v2 : Int64) (v4 : Int32) (v5 : Int32) (v6 : Option (Int64)) (h : Hp) (r : Hp), k68 v0 v1 v2 v4 v5 h = some r → Rn d 37 68 [some (va_rf v0), some (.int v1), some (.long v2), none, some (.int v4), some (.int v5), v6.map Value.long, none] [] h (none, r)) (v0 : Option Nat) (v1 : Int32) (v2 : Int64) (v4 : Int32) (v5 : Int32) (v6 : Option (Int64))  (h : Hp) (r : Hp) (hb : b_37_95 R k68 v0 v1 v2 v4 v5  h = some r) : Rn d 37 95 [some (va_rf v0), some (.int v1), some (.long v2), none, some (.int v4), some (.int v5), v6.map Value.long, none] [] h (none, r) := by
  unfold b_37_95 at hb
  obtain ⟨e, rfl⟩ : ∃ e, d = e + 1 := ⟨d - 1, by omega⟩
  refine rn_lload_n (i := 2) rfl rfl ?_
  refine rn_aload_n (i := 0) rfl rfl ?_
  refine rn_gQ (c := 3) (k := 0) rfl (by decide) hb (fun x1 hb => ?_)
  refine rn_iconst (x := (nI 4)) rfl (by decide) ?_
  refine rn_iload_n (i := 1) rfl rfl ?_
  refine rn_imul rfl ?_
  refine rn_iload (i := 5) rfl rfl ?_
  refine rn_iadd rfl ?_
  refine rn_aJ rfl hb (fun x2 hb => ?_)
  refine rn_land rfl ?_
  obtain ⟨x3, ex3, hb⟩ := bnd_spec hb
  refine rn_lstore (i := 6) (L1 := [some (va_rf v0), some (.int v1), some (.long v2), none, some (.int v4), some (.int v5), some (.long x3), none]) rfl (Nat.le_of_ble_eq_true rfl) (Or.inr rfl) (by rw [ex3]; rfl) ?_
  refine rn_aload_n (i := 0) rfl rfl ?_
  refine rn_gQ (c := 3) (k := 11) rfl (by decide) hb (fun x4 hb => ?_)
  refine rn_iload_n (i := 1) rfl rfl ?_
  refine rn_iload (i := 5) rfl rfl ?_
  refine rn_wI rfl hb (fun h5 hb => ?_)
  refine rn_aload_n (i := 0) rfl rfl ?_
  refine rn_lload (i := 6) rfl rfl ?_
  refine rn_iload_n (i := 1) rfl rfl ?_
  refine rn_iconst (x := (nI 1)) rfl (by decide) ?_
  refine rn_iadd rfl ?_
  obtain ⟨hrc, hb⟩ := grd_spec hb
  obtain ⟨p6, hc, hb⟩ := Option.bind_eq_some_iff.mp hb
  refine Rn.call1 (d := e) (As := [va_rf v0, .long x3, .int (v1 + (nI 1))]) (rest := []) rfl rfl rfl (by decide) rfl rfl rfl (bd_rcV hrc rfl) (by decide) (bd_lenC (n := 5) rfl (bd_slR (bd_slJ (bd_slI bd_slN))) rfl) (bd_locC (n := 5) rfl (bd_slR (bd_slJ (bd_slI bd_slN))) rfl (t_32 e (by omega) v0 x3 (v1 + (nI 1)) h5 _ hc)) ?_
  refine rn_if_eq rfl rfl (fun hc => ?_) (fun hc => ?_)
  · exact u_37_163 E hE (e + 1) hd R HR k68 K68 v0 v1 v2 v4 v5 (some x3)  p6.2 _ (if_t hb hc)
  · exact u_37_130 E hE (e + 1) hd R HR k68 K68 v0 v1 v2 v4 v5 x3  p6.2 _ (if_f hb hc)
def b_37_84 (R : Option Nat → Int32 → Int64 → Int32 → Hp → Option (Hp)) (k68 : Option Nat → Int32 → Int64 → Int32 → Int32 → Hp → Option (Hp)) (v0 : Option Nat) (v1 : Int32) (v2 : Int64) (v4 : Int32) (v5 : Int32)  (h : Hp) : Option (Hp) :=
  (grd (rC 3 v0 h)).bind fun _ =>
  (f_38 v0 v2 v1 v5 h).bind fun p1 =>
  if ¬ p1.1 = 0 then b_37_163 R k68 v0 v1 v2 v4 v5  p1.2 else b_37_95 R k68 v0 v1 v2 v4 v5  p1.2
theorem u_37_84 (E : Nat) (hE : 1 ≤ E) (d : Nat) (hd : E + 1 ≤ d) (R : Option Nat → Int32 → Int64 → Int32 → Hp → Option (Hp)) (HR : ∀ (d : Nat) (a0 : Option Nat) (a1 : Int32) (a2 : Int64) (a3 : Int32) (h : Hp) (r : Hp), E ≤ d → R a0 a1 a2 a3 h = some r → Rn d 37 0 [some (va_rf a0), some (.int a1), some (.long a2), none, some (.int a3), none, none, none] [] h (none, r)) (k68 : Option Nat → Int32 → Int64 → Int32 → Int32 → Hp → Option (Hp)) (K68 : ∀ (v0 : Option Nat) (v1 : Int32) (v2 : Int64) (v4 : Int32) (v5 : Int32) (v6 : Option (Int64)) (h : Hp) (r : Hp), k68 v0 v1 v2 v4 v5 h = some r → Rn d 37 68 [some (va_rf v0), some (.int v1), some (.long v2), none, some (.int v4), some (.int v5), v6.map Value.long, none] [] h (none, r)) (v0 : Option Nat) (v1 : Int32) (v2 : Int64) (v4 : Int32) (v5 : Int32) (v6 : Option (Int64))  (h : Hp) (r : Hp) (hb : b_37_84 R k68 v0 v1 v2 v4 v5  h = some r) : Rn d 37 84 [some (va_rf v0), some (.int v1), some (.long v2), none, some (.int v4), some (.int v5), v6.map Value.long, none] [] h (none, r) := by
  unfold b_37_84 at hb
  obtain ⟨e, rfl⟩ : ∃ e, d = e + 1 := ⟨d - 1, by omega⟩
  refine rn_aload_n (i := 0) rfl rfl ?_
  refine rn_lload_n (i := 2) rfl rfl ?_
  refine rn_iload_n (i := 1) rfl rfl ?_
  refine rn_iload (i := 5) rfl rfl ?_
  obtain ⟨hrc, hb⟩ := grd_spec hb
  obtain ⟨p1, hc, hb⟩ := Option.bind_eq_some_iff.mp hb
  refine Rn.call1 (d := e) (As := [va_rf v0, .long v2, .int v1, .int v5]) (rest := []) rfl rfl rfl (by decide) rfl rfl rfl (bd_rcV hrc rfl) (by decide) (bd_lenC (n := 8) rfl (bd_slR (bd_slJ (bd_slI (bd_slI bd_slN)))) rfl) (bd_locC (n := 8) rfl (bd_slR (bd_slJ (bd_slI (bd_slI bd_slN)))) rfl (t_38 e (by omega) v0 v2 v1 v5 h _ hc)) ?_
  refine rn_if_ne rfl rfl (fun hc => ?_) (fun hc => ?_)
  · exact u_37_163 E hE (e + 1) hd R HR k68 K68 v0 v1 v2 v4 v5 v6  p1.2 _ (if_t hb hc)
  · exact u_37_95 E hE (e + 1) hd R HR k68 K68 v0 v1 v2 v4 v5 v6  p1.2 _ (if_f hb hc)
def b_37_74 (R : Option Nat → Int32 → Int64 → Int32 → Hp → Option (Hp)) (k68 : Option Nat → Int32 → Int64 → Int32 → Int32 → Hp → Option (Hp)) (v0 : Option Nat) (v1 : Int32) (v2 : Int64) (v4 : Int32) (v5 : Int32)  (h : Hp) : Option (Hp) :=
  (f_31 v2 v1 v5 h).bind fun p1 =>
  if p1.1 = 0 then b_37_163 R k68 v0 v1 v2 v4 v5  p1.2 else b_37_84 R k68 v0 v1 v2 v4 v5  p1.2
theorem u_37_74 (E : Nat) (hE : 1 ≤ E) (d : Nat) (hd : E + 1 ≤ d) (R : Option Nat → Int32 → Int64 → Int32 → Hp → Option (Hp)) (HR : ∀ (d : Nat) (a0 : Option Nat) (a1 : Int32) (a2 : Int64) (a3 : Int32) (h : Hp) (r : Hp), E ≤ d → R a0 a1 a2 a3 h = some r → Rn d 37 0 [some (va_rf a0), some (.int a1), some (.long a2), none, some (.int a3), none, none, none] [] h (none, r)) (k68 : Option Nat → Int32 → Int64 → Int32 → Int32 → Hp → Option (Hp)) (K68 : ∀ (v0 : Option Nat) (v1 : Int32) (v2 : Int64) (v4 : Int32) (v5 : Int32) (v6 : Option (Int64)) (h : Hp) (r : Hp), k68 v0 v1 v2 v4 v5 h = some r → Rn d 37 68 [some (va_rf v0), some (.int v1), some (.long v2), none, some (.int v4), some (.int v5), v6.map Value.long, none] [] h (none, r)) (v0 : Option Nat) (v1 : Int32) (v2 : Int64) (v4 : Int32) (v5 : Int32) (v6 : Option (Int64))  (h : Hp) (r : Hp) (hb : b_37_74 R k68 v0 v1 v2 v4 v5  h = some r) : Rn d 37 74 [some (va_rf v0), some (.int v1), some (.long v2), none, some (.int v4), some (.int v5), v6.map Value.long, none] [] h (none, r) := by
  unfold b_37_74 at hb
  obtain ⟨e, rfl⟩ : ∃ e, d = e + 1 := ⟨d - 1, by omega⟩
  refine rn_lload_n (i := 2) rfl rfl ?_
  refine rn_iload_n (i := 1) rfl rfl ?_
  refine rn_iload (i := 5) rfl rfl ?_
  obtain ⟨p1, hc, hb⟩ := Option.bind_eq_some_iff.mp hb
  refine Rn.call1 (d := e) (As := [.long v2, .int v1, .int v5]) (rest := []) rfl rfl rfl (by decide) rfl rfl rfl rfl (by decide) (bd_lenC (n := 4) rfl (bd_slJ (bd_slI (bd_slI bd_slN))) rfl) (bd_locC (n := 4) rfl (bd_slJ (bd_slI (bd_slI bd_slN))) rfl (t_31 e (by omega) v2 v1 v5 h _ hc)) ?_
  refine rn_if_eq rfl rfl (fun hc => ?_) (fun hc => ?_)
  · exact u_37_163 E hE (e + 1) hd R HR k68 K68 v0 v1 v2 v4 v5 v6  p1.2 _ (if_t hb hc)
  · exact u_37_84 E hE (e + 1) hd R HR k68 K68 v0 v1 v2 v4 v5 v6  p1.2 _ (if_f hb hc)
def b_37_68 (R : Option Nat → Int32 → Int64 → Int32 → Hp → Option (Hp)) (k68 : Option Nat → Int32 → Int64 → Int32 → Int32 → Hp → Option (Hp)) (v0 : Option Nat) (v1 : Int32) (v2 : Int64) (v4 : Int32) (v5 : Int32)  (h : Hp) : Option (Hp) :=
  if (nI 4) ≤ v5 then b_37_169 R   h else b_37_74 R k68 v0 v1 v2 v4 v5  h
theorem u_37_68 (E : Nat) (hE : 1 ≤ E) (d : Nat) (hd : E + 1 ≤ d) (R : Option Nat → Int32 → Int64 → Int32 → Hp → Option (Hp)) (HR : ∀ (d : Nat) (a0 : Option Nat) (a1 : Int32) (a2 : Int64) (a3 : Int32) (h : Hp) (r : Hp), E ≤ d → R a0 a1 a2 a3 h = some r → Rn d 37 0 [some (va_rf a0), some (.int a1), some (.long a2), none, some (.int a3), none, none, none] [] h (none, r)) (k68 : Option Nat → Int32 → Int64 → Int32 → Int32 → Hp → Option (Hp)) (K68 : ∀ (v0 : Option Nat) (v1 : Int32) (v2 : Int64) (v4 : Int32) (v5 : Int32) (v6 : Option (Int64)) (h : Hp) (r : Hp), k68 v0 v1 v2 v4 v5 h = some r → Rn d 37 68 [some (va_rf v0), some (.int v1), some (.long v2), none, some (.int v4), some (.int v5), v6.map Value.long, none] [] h (none, r)) (v0 : Option Nat) (v1 : Int32) (v2 : Int64) (v4 : Int32) (v5 : Int32) (v6 : Option (Int64))  (h : Hp) (r : Hp) (hb : b_37_68 R k68 v0 v1 v2 v4 v5  h = some r) : Rn d 37 68 [some (va_rf v0), some (.int v1), some (.long v2), none, some (.int v4), some (.int v5), v6.map Value.long, none] [] h (none, r) := by
  unfold b_37_68 at hb
  refine rn_iload (i := 5) rfl rfl ?_
  refine rn_iconst (x := (nI 4)) rfl (by decide) ?_
  refine rn_icmp_ge rfl rfl (fun hc => ?_) (fun hc => ?_)
  · exact u_37_169 E hE d hd R HR v0 v1 v2 v4 v5 v6  h _ (if_t hb hc)
  · exact u_37_74 E hE d hd R HR k68 K68 v0 v1 v2 v4 v5 v6  h _ (if_f hb hc)
def l_37_68 (R : Option Nat → Int32 → Int64 → Int32 → Hp → Option (Hp)) : Nat → Option Nat → Int32 → Int64 → Int32 → Int32 → Hp → Option (Hp)
  | 0, _, _, _, _, _, _ => none
  | n + 1, v0, v1, v2, v4, v5, h => b_37_68 R (l_37_68 R n) v0 v1 v2 v4 v5 h
theorem w_37_68 (E : Nat) (hE : 1 ≤ E) (d : Nat) (hd : E + 1 ≤ d) (R : Option Nat → Int32 → Int64 → Int32 → Hp → Option (Hp)) (HR : ∀ (d : Nat) (a0 : Option Nat) (a1 : Int32) (a2 : Int64) (a3 : Int32) (h : Hp) (r : Hp), E ≤ d → R a0 a1 a2 a3 h = some r → Rn d 37 0 [some (va_rf a0), some (.int a1), some (.long a2), none, some (.int a3), none, none, none] [] h (none, r)) : ∀ (n : Nat) (v0 : Option Nat) (v1 : Int32) (v2 : Int64) (v4 : Int32) (v5 : Int32) (v6 : Option (Int64)) (h : Hp) (r : Hp), l_37_68 R n v0 v1 v2 v4 v5 h = some r → Rn d 37 68 [some (va_rf v0), some (.int v1), some (.long v2), none, some (.int v4), some (.int v5), v6.map Value.long, none] [] h (none, r) := by
  intro n
  induction n with
  | zero => intro v0 v1 v2 v4 v5 v6 h r hb; cases hb
  | succ n ih => intro v0 v1 v2 v4 v5 v6 h r hb; exact u_37_68 E hE d hd R HR (l_37_68 R n) ih v0 v1 v2 v4 v5 v6 h r hb
def b_37_65 (R : Option Nat → Int32 → Int64 → Int32 → Hp → Option (Hp)) (v0 : Option Nat) (v1 : Int32) (v2 : Int64) (v4 : Int32)  (h : Hp) : Option (Hp) :=
  bnd ((nI 0)) fun x1 =>
  l_37_68 R FU v0 v1 v2 v4 x1 h
theorem u_37_65 (E : Nat) (hE : 1 ≤ E) (d : Nat) (hd : E + 1 ≤ d) (R : Option Nat → Int32 → Int64 → Int32 → Hp → Option (Hp)) (HR : ∀ (d : Nat) (a0 : Option Nat) (a1 : Int32) (a2 : Int64) (a3 : Int32) (h : Hp) (r : Hp), E ≤ d → R a0 a1 a2 a3 h = some r → Rn d 37 0 [some (va_rf a0), some (.int a1), some (.long a2), none, some (.int a3), none, none, none] [] h (none, r)) (v0 : Option Nat) (v1 : Int32) (v2 : Int64) (v4 : Int32)  (h : Hp) (r : Hp) (hb : b_37_65 R v0 v1 v2 v4  h = some r) : Rn d 37 65 [some (va_rf v0), some (.int v1), some (.long v2), none, some (.int v4), none, none, none] [] h (none, r) := by
  unfold b_37_65 at hb
  refine rn_iconst (x := (nI 0)) rfl (by decide) ?_
  obtain ⟨x1, ex1, hb⟩ := bnd_spec hb
  refine rn_istore (i := 5) (L1 := [some (va_rf v0), some (.int v1), some (.long v2), none, some (.int v4), some (.int x1), none, none]) rfl (Nat.le_of_ble_eq_true rfl) (Or.inr rfl) (by rw [ex1]; rfl) ?_
  exact w_37_68 E hE d hd R HR FU v0 v1 v2 v4 x1 (none : Option (Int64)) h _ hb
def b_37_54 (R : Option Nat → Int32 → Int64 → Int32 → Hp → Option (Hp)) (v0 : Option Nat) (v1 : Int32) (v2 : Int64) (v4 : Int32)  (h : Hp) : Option (Hp) :=
  (grd (rC 3 v0 h)).bind fun _ =>
  (R v0 (v1 + (nI 1)) v2 v4 h).bind fun p1 =>
  some p1
theorem u_37_54 (E : Nat) (hE : 1 ≤ E) (d : Nat) (hd : E + 1 ≤ d) (R : Option Nat → Int32 → Int64 → Int32 → Hp → Option (Hp)) (HR : ∀ (d : Nat) (a0 : Option Nat) (a1 : Int32) (a2 : Int64) (a3 : Int32) (h : Hp) (r : Hp), E ≤ d → R a0 a1 a2 a3 h = some r → Rn d 37 0 [some (va_rf a0), some (.int a1), some (.long a2), none, some (.int a3), none, none, none] [] h (none, r)) (v0 : Option Nat) (v1 : Int32) (v2 : Int64) (v4 : Int32)  (h : Hp) (r : Hp) (hb : b_37_54 R v0 v1 v2 v4  h = some r) : Rn d 37 54 [some (va_rf v0), some (.int v1), some (.long v2), none, some (.int v4), none, none, none] [] h (none, r) := by
  unfold b_37_54 at hb
  obtain ⟨e, rfl⟩ : ∃ e, d = e + 1 := ⟨d - 1, by omega⟩
  refine rn_aload_n (i := 0) rfl rfl ?_
  refine rn_iload_n (i := 1) rfl rfl ?_
  refine rn_iconst (x := (nI 1)) rfl (by decide) ?_
  refine rn_iadd rfl ?_
  refine rn_lload_n (i := 2) rfl rfl ?_
  refine rn_iload (i := 4) rfl rfl ?_
  obtain ⟨hrc, hb⟩ := grd_spec hb
  obtain ⟨p1, hc, hb⟩ := Option.bind_eq_some_iff.mp hb
  refine Rn.call0 (d := e) (As := [va_rf v0, .int (v1 + (nI 1)), .long v2, .int v4]) (rest := []) rfl rfl rfl (by decide) rfl rfl rfl (bd_rcV hrc rfl) (by decide) (bd_lenC (n := 8) rfl (bd_slR (bd_slI (bd_slJ (bd_slI bd_slN)))) rfl) (bd_locC (n := 8) rfl (bd_slR (bd_slI (bd_slJ (bd_slI bd_slN)))) rfl (HR e v0 (v1 + (nI 1)) v2 v4 h _ (by omega) hc)) ?_
  obtain rfl := Option.some.inj hb
  exact rn_vret rfl rfl
def b_37_43 (R : Option Nat → Int32 → Int64 → Int32 → Hp → Option (Hp)) (v0 : Option Nat) (v1 : Int32) (v2 : Int64) (v4 : Int32)  (h : Hp) : Option (Hp) :=
  (gI 3 14 v0 h).bind fun x1 =>
  if ¬ ((x1 >>> (v1 &&& 31)) &&& (nI 1)) = 0 then b_37_65 R v0 v1 v2 v4  h else b_37_54 R v0 v1 v2 v4  h
theorem u_37_43 (E : Nat) (hE : 1 ≤ E) (d : Nat) (hd : E + 1 ≤ d) (R : Option Nat → Int32 → Int64 → Int32 → Hp → Option (Hp)) (HR : ∀ (d : Nat) (a0 : Option Nat) (a1 : Int32) (a2 : Int64) (a3 : Int32) (h : Hp) (r : Hp), E ≤ d → R a0 a1 a2 a3 h = some r → Rn d 37 0 [some (va_rf a0), some (.int a1), some (.long a2), none, some (.int a3), none, none, none] [] h (none, r)) (v0 : Option Nat) (v1 : Int32) (v2 : Int64) (v4 : Int32)  (h : Hp) (r : Hp) (hb : b_37_43 R v0 v1 v2 v4  h = some r) : Rn d 37 43 [some (va_rf v0), some (.int v1), some (.long v2), none, some (.int v4), none, none, none] [] h (none, r) := by
  unfold b_37_43 at hb
  refine rn_aload_n (i := 0) rfl rfl ?_
  refine rn_gI (c := 3) (k := 14) rfl (by decide) hb (fun x1 hb => ?_)
  refine rn_iload_n (i := 1) rfl rfl ?_
  refine rn_ishr rfl ?_
  refine rn_iconst (x := (nI 1)) rfl (by decide) ?_
  refine rn_iand rfl ?_
  refine rn_if_ne rfl rfl (fun hc => ?_) (fun hc => ?_)
  · exact u_37_65 E hE d hd R HR v0 v1 v2 v4  h _ (if_t hb hc)
  · exact u_37_54 E hE d hd R HR v0 v1 v2 v4  h _ (if_f hb hc)
def b_37_21 (R : Option Nat → Int32 → Int64 → Int32 → Hp → Option (Hp)) (v0 : Option Nat) (v4 : Int32)  (h : Hp) : Option (Hp) :=
  (pI 3 13 v0 v4 h).bind fun h1 =>
  (gQ 3 11 v0 h1).bind fun x2 =>
  (gQ 3 12 v0 h1).bind fun x3 =>
  (cP x2 (nI 0) x3 (nI 0) (nI 10) h1).bind fun h4 =>
  some h4
theorem u_37_21 (E : Nat) (hE : 1 ≤ E) (d : Nat) (hd : E + 1 ≤ d) (R : Option Nat → Int32 → Int64 → Int32 → Hp → Option (Hp)) (HR : ∀ (d : Nat) (a0 : Option Nat) (a1 : Int32) (a2 : Int64) (a3 : Int32) (h : Hp) (r : Hp), E ≤ d → R a0 a1 a2 a3 h = some r → Rn d 37 0 [some (va_rf a0), some (.int a1), some (.long a2), none, some (.int a3), none, none, none] [] h (none, r)) (v0 : Option Nat) (v1 : Int32) (v2 : Int64) (v4 : Int32)  (h : Hp) (r : Hp) (hb : b_37_21 R v0 v4  h = some r) : Rn d 37 21 [some (va_rf v0), some (.int v1), some (.long v2), none, some (.int v4), none, none, none] [] h (none, r) := by
  unfold b_37_21 at hb
  refine rn_aload_n (i := 0) rfl rfl ?_
  refine rn_iload (i := 4) rfl rfl ?_
  refine rn_pI (c := 3) (k := 13) rfl (by decide) hb (fun h1 hb => ?_)
  refine rn_aload_n (i := 0) rfl rfl ?_
  refine rn_gQ (c := 3) (k := 11) rfl (by decide) hb (fun x2 hb => ?_)
  refine rn_iconst (x := (nI 0)) rfl (by decide) ?_
  refine rn_aload_n (i := 0) rfl rfl ?_
  refine rn_gQ (c := 3) (k := 12) rfl (by decide) hb (fun x3 hb => ?_)
  refine rn_iconst (x := (nI 0)) rfl (by decide) ?_
  refine rn_bipush (x := (nI 10)) rfl (by decide) ?_
  refine rn_copy rfl (by decide) hb (fun h4 hb => ?_)
  obtain rfl := Option.some.inj hb
  exact rn_vret rfl rfl
def b_37_10 (R : Option Nat → Int32 → Int64 → Int32 → Hp → Option (Hp)) (v0 : Option Nat) (v1 : Int32) (v2 : Int64) (v4 : Int32)  (h : Hp) : Option (Hp) :=
  (gQ 3 2 v0 h).bind fun x1 =>
  (gI 4 5 x1 h).bind fun x2 =>
  if v1 < x2 then b_37_43 R v0 v1 v2 v4  h else b_37_21 R v0 v4  h
theorem u_37_10 (E : Nat) (hE : 1 ≤ E) (d : Nat) (hd : E + 1 ≤ d) (R : Option Nat → Int32 → Int64 → Int32 → Hp → Option (Hp)) (HR : ∀ (d : Nat) (a0 : Option Nat) (a1 : Int32) (a2 : Int64) (a3 : Int32) (h : Hp) (r : Hp), E ≤ d → R a0 a1 a2 a3 h = some r → Rn d 37 0 [some (va_rf a0), some (.int a1), some (.long a2), none, some (.int a3), none, none, none] [] h (none, r)) (v0 : Option Nat) (v1 : Int32) (v2 : Int64) (v4 : Int32)  (h : Hp) (r : Hp) (hb : b_37_10 R v0 v1 v2 v4  h = some r) : Rn d 37 10 [some (va_rf v0), some (.int v1), some (.long v2), none, some (.int v4), none, none, none] [] h (none, r) := by
  unfold b_37_10 at hb
  refine rn_iload_n (i := 1) rfl rfl ?_
  refine rn_aload_n (i := 0) rfl rfl ?_
  refine rn_gQ (c := 3) (k := 2) rfl (by decide) hb (fun x1 hb => ?_)
  refine rn_gI (c := 4) (k := 5) rfl (by decide) hb (fun x2 hb => ?_)
  refine rn_icmp_lt rfl rfl (fun hc => ?_) (fun hc => ?_)
  · exact u_37_43 E hE d hd R HR v0 v1 v2 v4  h _ (if_t hb hc)
  · exact u_37_21 E hE d hd R HR v0 v1 v2 v4  h _ (if_f hb hc)
def b_37_9 (R : Option Nat → Int32 → Int64 → Int32 → Hp → Option (Hp))   (h : Hp) : Option (Hp) :=
  some h
theorem u_37_9 (E : Nat) (hE : 1 ≤ E) (d : Nat) (hd : E + 1 ≤ d) (R : Option Nat → Int32 → Int64 → Int32 → Hp → Option (Hp)) (HR : ∀ (d : Nat) (a0 : Option Nat) (a1 : Int32) (a2 : Int64) (a3 : Int32) (h : Hp) (r : Hp), E ≤ d → R a0 a1 a2 a3 h = some r → Rn d 37 0 [some (va_rf a0), some (.int a1), some (.long a2), none, some (.int a3), none, none, none] [] h (none, r)) (v0 : Option Nat) (v1 : Int32) (v2 : Int64) (v4 : Int32)  (h : Hp) (r : Hp) (hb : b_37_9 R   h = some r) : Rn d 37 9 [some (va_rf v0), some (.int v1), some (.long v2), none, some (.int v4), none, none, none] [] h (none, r) := by
  unfold b_37_9 at hb
  obtain rfl := Option.some.inj hb
  exact rn_vret rfl rfl
def b_37_0 (R : Option Nat → Int32 → Int64 → Int32 → Hp → Option (Hp)) (v0 : Option Nat) (v1 : Int32) (v2 : Int64) (v4 : Int32)  (h : Hp) : Option (Hp) :=
  (gI 3 13 v0 h).bind fun x1 =>
  if v4 < x1 then b_37_10 R v0 v1 v2 v4  h else b_37_9 R   h
theorem u_37_0 (E : Nat) (hE : 1 ≤ E) (d : Nat) (hd : E + 1 ≤ d) (R : Option Nat → Int32 → Int64 → Int32 → Hp → Option (Hp)) (HR : ∀ (d : Nat) (a0 : Option Nat) (a1 : Int32) (a2 : Int64) (a3 : Int32) (h : Hp) (r : Hp), E ≤ d → R a0 a1 a2 a3 h = some r → Rn d 37 0 [some (va_rf a0), some (.int a1), some (.long a2), none, some (.int a3), none, none, none] [] h (none, r)) (v0 : Option Nat) (v1 : Int32) (v2 : Int64) (v4 : Int32)  (h : Hp) (r : Hp) (hb : b_37_0 R v0 v1 v2 v4  h = some r) : Rn d 37 0 [some (va_rf v0), some (.int v1), some (.long v2), none, some (.int v4), none, none, none] [] h (none, r) := by
  unfold b_37_0 at hb
  refine rn_iload (i := 4) rfl rfl ?_
  refine rn_aload_n (i := 0) rfl rfl ?_
  refine rn_gI (c := 3) (k := 13) rfl (by decide) hb (fun x1 hb => ?_)
  refine rn_icmp_lt rfl rfl (fun hc => ?_) (fun hc => ?_)
  · exact u_37_10 E hE d hd R HR v0 v1 v2 v4  h _ (if_t hb hc)
  · exact u_37_9 E hE d hd R HR v0 v1 v2 v4  h _ (if_f hb hc)
/-- BitingDoors$Hanger.search(IJI)V -/
def F_37 (R : Option Nat → Int32 → Int64 → Int32 → Hp → Option (Hp)) (v0 : Option Nat) (v1 : Int32) (v2 : Int64) (v4 : Int32) (h : Hp) : Option (Hp) := b_37_0 R v0 v1 v2 v4 h
theorem t0_37 (E : Nat) (hE : 1 ≤ E) (d : Nat) (hd : E + 1 ≤ d) (R : Option Nat → Int32 → Int64 → Int32 → Hp → Option (Hp)) (HR : ∀ (d : Nat) (a0 : Option Nat) (a1 : Int32) (a2 : Int64) (a3 : Int32) (h : Hp) (r : Hp), E ≤ d → R a0 a1 a2 a3 h = some r → Rn d 37 0 [some (va_rf a0), some (.int a1), some (.long a2), none, some (.int a3), none, none, none] [] h (none, r)) (v0 : Option Nat) (v1 : Int32) (v2 : Int64) (v4 : Int32) (h : Hp) (r : Hp) (hb : F_37 R v0 v1 v2 v4 h = some r) : Rn d 37 0 [some (va_rf v0), some (.int v1), some (.long v2), none, some (.int v4), none, none, none] [] h (none, r) := by
  unfold F_37 at hb
  exact u_37_0 E hE d hd R HR v0 v1 v2 v4 h r hb
def f_37 : Nat → Option Nat → Int32 → Int64 → Int32 → Hp → Option (Hp)
  | 0, _, _, _, _, _ => none
  | n + 1, v0, v1, v2, v4, h => F_37 (f_37 n) v0 v1 v2 v4 h
theorem t_37 : ∀ (n d : Nat), 1 * n + 1 ≤ d → ∀ (v0 : Option Nat) (v1 : Int32) (v2 : Int64) (v4 : Int32) (h : Hp) (r : Hp), f_37 n v0 v1 v2 v4 h = some r → Rn d 37 0 [some (va_rf v0), some (.int v1), some (.long v2), none, some (.int v4), none, none, none] [] h (none, r) := by
  intro n
  induction n with
  | zero => intro d hd v0 v1 v2 v4 h r hb; cases hb
  | succ n ih => intro d hd v0 v1 v2 v4 h r hb; exact t0_37 (1 * n + 1) (by omega) d (by omega) (f_37 n) (fun d v0 v1 v2 v4 h r hd hb => ih d hd v0 v1 v2 v4 h r hb) v0 v1 v2 v4 h r hb
def b_36_33 (v0 : Option Nat)  (h : Hp) : Option (Int32 × Hp) :=
  (gI 3 13 v0 h).bind fun x1 =>
  some (x1, h)
theorem u_36_33 (d : Nat) (hd : 68 ≤ d) (v0 : Option Nat) (v1 : Int32)  (h : Hp) (r : Int32 × Hp) (hb : b_36_33 v0  h = some r) : Rn d 36 33 [some (va_rf v0), some (.int v1)] [] h (some (.int r.1), r.2) := by
  unfold b_36_33 at hb
  refine rn_aload_n (i := 0) rfl rfl ?_
  refine rn_gI (c := 3) (k := 13) rfl (by decide) hb (fun x1 hb => ?_)
  obtain rfl := Option.some.inj hb
  exact rn_iret rfl rfl
def b_36_23 (v0 : Option Nat)  (h : Hp) : Option (Int32 × Hp) :=
  (gJ 3 1 v0 h).bind fun x1 =>
  (grd (rC 3 v0 h)).bind fun _ =>
  (f_37 RF v0 (nI 0) x1 (nI 0) h).bind fun p2 =>
  b_36_33 v0  p2
theorem u_36_23 (d : Nat) (hd : 68 ≤ d) (v0 : Option Nat) (v1 : Int32)  (h : Hp) (r : Int32 × Hp) (hb : b_36_23 v0  h = some r) : Rn d 36 23 [some (va_rf v0), some (.int v1)] [] h (some (.int r.1), r.2) := by
  unfold b_36_23 at hb
  obtain ⟨e, rfl⟩ : ∃ e, d = e + 1 := ⟨d - 1, by omega⟩
  refine rn_aload_n (i := 0) rfl rfl ?_
  refine rn_iconst (x := (nI 0)) rfl (by decide) ?_
  refine rn_aload_n (i := 0) rfl rfl ?_
  refine rn_gJ (c := 3) (k := 1) rfl (by decide) hb (fun x1 hb => ?_)
  refine rn_iconst (x := (nI 0)) rfl (by decide) ?_
  obtain ⟨hrc, hb⟩ := grd_spec hb
  obtain ⟨p2, hc, hb⟩ := Option.bind_eq_some_iff.mp hb
  refine Rn.call0 (d := e) (As := [va_rf v0, .int (nI 0), .long x1, .int (nI 0)]) (rest := []) rfl rfl rfl (by decide) rfl rfl rfl (bd_rcV hrc rfl) (by decide) (bd_lenC (n := 8) rfl (bd_slR (bd_slI (bd_slJ (bd_slI bd_slN)))) rfl) (bd_locC (n := 8) rfl (bd_slR (bd_slI (bd_slJ (bd_slI bd_slN)))) rfl (t_37 RF e (by show 1 * 64 + 1 ≤ _; omega) v0 (nI 0) x1 (nI 0) h _ hc)) ?_
  exact u_36_33 (e + 1) hd v0 v1  p2 _ hb
def b_36_0 (v0 : Option Nat) (v1 : Int32)  (h : Hp) : Option (Int32 × Hp) :=
  (pI 3 14 v0 v1 h).bind fun h1 =>
  (pI 3 13 v0 (nI 1073741824) h1).bind fun h2 =>
  (gJ 3 1 v0 h2).bind fun x3 =>
  (grd (rC 3 v0 h2)).bind fun _ =>
  (f_32 v0 x3 (nI 0) h2).bind fun p4 =>
  if p4.1 = 0 then b_36_33 v0  p4.2 else b_36_23 v0  p4.2
theorem u_36_0 (d : Nat) (hd : 68 ≤ d) (v0 : Option Nat) (v1 : Int32)  (h : Hp) (r : Int32 × Hp) (hb : b_36_0 v0 v1  h = some r) : Rn d 36 0 [some (va_rf v0), some (.int v1)] [] h (some (.int r.1), r.2) := by
  unfold b_36_0 at hb
  obtain ⟨e, rfl⟩ : ∃ e, d = e + 1 := ⟨d - 1, by omega⟩
  refine rn_aload_n (i := 0) rfl rfl ?_
  refine rn_iload_n (i := 1) rfl rfl ?_
  refine rn_pI (c := 3) (k := 14) rfl (by decide) hb (fun h1 hb => ?_)
  refine rn_aload_n (i := 0) rfl rfl ?_
  refine rn_ldc (x := (nI 1073741824)) rfl (by decide) ?_
  refine rn_pI (c := 3) (k := 13) rfl (by decide) hb (fun h2 hb => ?_)
  refine rn_aload_n (i := 0) rfl rfl ?_
  refine rn_aload_n (i := 0) rfl rfl ?_
  refine rn_gJ (c := 3) (k := 1) rfl (by decide) hb (fun x3 hb => ?_)
  refine rn_iconst (x := (nI 0)) rfl (by decide) ?_
  obtain ⟨hrc, hb⟩ := grd_spec hb
  obtain ⟨p4, hc, hb⟩ := Option.bind_eq_some_iff.mp hb
  refine Rn.call1 (d := e) (As := [va_rf v0, .long x3, .int (nI 0)]) (rest := []) rfl rfl rfl (by decide) rfl rfl rfl (bd_rcV hrc rfl) (by decide) (bd_lenC (n := 5) rfl (bd_slR (bd_slJ (bd_slI bd_slN))) rfl) (bd_locC (n := 5) rfl (bd_slR (bd_slJ (bd_slI bd_slN))) rfl (t_32 e (by omega) v0 x3 (nI 0) h2 _ hc)) ?_
  refine rn_if_eq rfl rfl (fun hc => ?_) (fun hc => ?_)
  · exact u_36_33 (e + 1) hd v0 v1  p4.2 _ (if_t hb hc)
  · exact u_36_23 (e + 1) hd v0 v1  p4.2 _ (if_f hb hc)
/-- BitingDoors$Hanger.searchAmong(I)I -/
def f_36 (v0 : Option Nat) (v1 : Int32) (h : Hp) : Option (Int32 × Hp) := b_36_0 v0 v1 h
theorem t_36 (d : Nat) (hd : 68 ≤ d) (v0 : Option Nat) (v1 : Int32) (h : Hp) (r : Int32 × Hp) (hb : f_36 v0 v1 h = some r) : Rn d 36 0 [some (va_rf v0), some (.int v1)] [] h (some (.int r.1), r.2) := by
  unfold f_36 at hb
  exact u_36_0 d hd v0 v1 h r hb
def b_34_91  (s0 : Int32) (h : Hp) : Option (Int32 × Hp) :=
  (grd (decide (s0 = 0 ∨ s0 = 1))).bind fun _ => some (s0, h)
theorem u_34_91 (d : Nat) (hd : 69 ≤ d) (v0 : Option Nat) (v1 : Option (Int32)) (s0 : Int32) (h : Hp) (r : Int32 × Hp) (hb : b_34_91  s0 h = some r) : Rn d 34 91 [some (va_rf v0), v1.map Value.int] [.int s0] h (some (.int r.1), r.2) := by
  unfold b_34_91 at hb
  obtain ⟨hz, hb⟩ := grd_spec hb
  obtain rfl := Option.some.inj hb
  exact rn_zret rfl rfl (of_decide_eq_true hz)
def b_34_90   (h : Hp) : Option (Int32 × Hp) :=
  b_34_91  (nI 0) h
theorem u_34_90 (d : Nat) (hd : 69 ≤ d) (v0 : Option Nat) (v1 : Option (Int32))  (h : Hp) (r : Int32 × Hp) (hb : b_34_90   h = some r) : Rn d 34 90 [some (va_rf v0), v1.map Value.int] [] h (some (.int r.1), r.2) := by
  unfold b_34_90 at hb
  refine rn_iconst (x := (nI 0)) rfl (by decide) ?_
  exact u_34_91 d hd v0 v1 (nI 0) h _ hb
def b_34_86   (h : Hp) : Option (Int32 × Hp) :=
  b_34_91  (nI 1) h
theorem u_34_86 (d : Nat) (hd : 69 ≤ d) (v0 : Option Nat) (v1 : Option (Int32))  (h : Hp) (r : Int32 × Hp) (hb : b_34_86   h = some r) : Rn d 34 86 [some (va_rf v0), v1.map Value.int] [] h (some (.int r.1), r.2) := by
  unfold b_34_86 at hb
  refine rn_iconst (x := (nI 1)) rfl (by decide) ?_
  refine rn_goto rfl rfl ?_
  exact u_34_91 d hd v0 v1 (nI 1) h _ hb
def b_34_77 (v0 : Option Nat)  (h : Hp) : Option (Int32 × Hp) :=
  (gI 3 5 v0 h).bind fun x1 =>
  if x1 = (nI 1073741824) then b_34_90   h else b_34_86   h
theorem u_34_77 (d : Nat) (hd : 69 ≤ d) (v0 : Option Nat) (v1 : Option (Int32))  (h : Hp) (r : Int32 × Hp) (hb : b_34_77 v0  h = some r) : Rn d 34 77 [some (va_rf v0), v1.map Value.int] [] h (some (.int r.1), r.2) := by
  unfold b_34_77 at hb
  refine rn_aload_n (i := 0) rfl rfl ?_
  refine rn_gI (c := 3) (k := 5) rfl (by decide) hb (fun x1 hb => ?_)
  refine rn_ldc (x := (nI 1073741824)) rfl (by decide) ?_
  refine rn_icmp_eq rfl rfl (fun hc => ?_) (fun hc => ?_)
  · exact u_34_90 d hd v0 v1  h _ (if_t hb hc)
  · exact u_34_86 d hd v0 v1  h _ (if_f hb hc)
def b_34_50 (v0 : Option Nat)  (h : Hp) : Option (Int32 × Hp) :=
  (grd (rC 3 v0 h)).bind fun _ =>
  (f_29 v0 h).bind fun p1 =>
  (grd (rC 3 v0 p1.2)).bind fun _ =>
  (f_36 v0 p1.1 p1.2).bind fun p2 =>
  (pI 3 5 v0 p2.1 p2.2).bind fun h3 =>
  (gQ 3 12 v0 h3).bind fun x4 =>
  (gQ 3 4 v0 h3).bind fun x5 =>
  (cP x4 (nI 0) x5 (nI 0) (nI 10) h3).bind fun h6 =>
  b_34_77 v0  h6
theorem u_34_50 (d : Nat) (hd : 69 ≤ d) (v0 : Option Nat) (v1 : Int32)  (h : Hp) (r : Int32 × Hp) (hb : b_34_50 v0  h = some r) : Rn d 34 50 [some (va_rf v0), some (.int v1)] [] h (some (.int r.1), r.2) := by
  unfold b_34_50 at hb
  obtain ⟨e, rfl⟩ : ∃ e, d = e + 1 := ⟨d - 1, by omega⟩
  refine rn_aload_n (i := 0) rfl rfl ?_
  refine rn_aload_n (i := 0) rfl rfl ?_
  refine rn_aload_n (i := 0) rfl rfl ?_
  obtain ⟨hrc, hb⟩ := grd_spec hb
  obtain ⟨p1, hc, hb⟩ := Option.bind_eq_some_iff.mp hb
  refine Rn.call1 (d := e) (As := [va_rf v0]) (rest := [va_rf v0, va_rf v0]) rfl rfl rfl (by decide) rfl rfl rfl (bd_rcV hrc rfl) (by rw [bd_cR (bd_cR (bd_cN))]; decide) (bd_lenC (n := 1) rfl (bd_slR bd_slN) rfl) (bd_locC (n := 1) rfl (bd_slR bd_slN) rfl (t_29 e (by omega) v0 h _ hc)) ?_
  obtain ⟨hrc, hb⟩ := grd_spec hb
  obtain ⟨p2, hc, hb⟩ := Option.bind_eq_some_iff.mp hb
  refine Rn.call1 (d := e) (As := [va_rf v0, .int p1.1]) (rest := [va_rf v0]) rfl rfl rfl (by decide) rfl rfl rfl (bd_rcV hrc rfl) (by rw [bd_cR (bd_cN)]; decide) (bd_lenC (n := 2) rfl (bd_slR (bd_slI bd_slN)) rfl) (bd_locC (n := 2) rfl (bd_slR (bd_slI bd_slN)) rfl (t_36 e (by omega) v0 p1.1 p1.2 _ hc)) ?_
  refine rn_pI (c := 3) (k := 5) rfl (by decide) hb (fun h3 hb => ?_)
  refine rn_aload_n (i := 0) rfl rfl ?_
  refine rn_gQ (c := 3) (k := 12) rfl (by decide) hb (fun x4 hb => ?_)
  refine rn_iconst (x := (nI 0)) rfl (by decide) ?_
  refine rn_aload_n (i := 0) rfl rfl ?_
  refine rn_gQ (c := 3) (k := 4) rfl (by decide) hb (fun x5 hb => ?_)
  refine rn_iconst (x := (nI 0)) rfl (by decide) ?_
  refine rn_bipush (x := (nI 10)) rfl (by decide) ?_
  refine rn_copy rfl (by decide) hb (fun h6 hb => ?_)
  exact u_34_77 (e + 1) hd v0 (some v1)  h6 _ hb
def b_34_21 (k10 : Option Nat → Int32 → Hp → Option (Int32 × Hp)) (v0 : Option Nat) (v1 : Int32)  (h : Hp) : Option (Int32 × Hp) :=
  (gQ 3 10 v0 h).bind fun x1 =>
  (gQ 3 2 v0 h).bind fun x2 =>
  (gQ 4 1 x2 h).bind fun x3 =>
  (aQ x3 v1 h).bind fun x4 =>
  (gI 1 12 x4 h).bind fun x5 =>
  (wI x1 v1 (((nI 16) * x5) + (nI 1)) h).bind fun h6 =>
  bnd (v1 + (nI 1)) fun x7 =>
  k10 v0 x7 h6
theorem u_34_21 (d : Nat) (hd : 69 ≤ d) (k10 : Option Nat → Int32 → Hp → Option (Int32 × Hp)) (K10 : ∀ (v0 : Option Nat) (v1 : Int32) (h : Hp) (r : Int32 × Hp), k10 v0 v1 h = some r → Rn d 34 10 [some (va_rf v0), some (.int v1)] [] h (some (.int r.1), r.2)) (v0 : Option Nat) (v1 : Int32)  (h : Hp) (r : Int32 × Hp) (hb : b_34_21 k10 v0 v1  h = some r) : Rn d 34 21 [some (va_rf v0), some (.int v1)] [] h (some (.int r.1), r.2) := by
  unfold b_34_21 at hb
  refine rn_aload_n (i := 0) rfl rfl ?_
  refine rn_gQ (c := 3) (k := 10) rfl (by decide) hb (fun x1 hb => ?_)
  refine rn_iload_n (i := 1) rfl rfl ?_
  refine rn_bipush (x := (nI 16)) rfl (by decide) ?_
  refine rn_aload_n (i := 0) rfl rfl ?_
  refine rn_gQ (c := 3) (k := 2) rfl (by decide) hb (fun x2 hb => ?_)
  refine rn_gQ (c := 4) (k := 1) rfl (by decide) hb (fun x3 hb => ?_)
  refine rn_iload_n (i := 1) rfl rfl ?_
  refine rn_aQ rfl hb (fun x4 hb => ?_)
  refine rn_gI (c := 1) (k := 12) rfl (by decide) hb (fun x5 hb => ?_)
  refine rn_imul rfl ?_
  refine rn_iconst (x := (nI 1)) rfl (by decide) ?_
  refine rn_iadd rfl ?_
  refine rn_wI rfl hb (fun h6 hb => ?_)
  obtain ⟨x7, ex7, hb⟩ := bnd_spec hb
  refine rn_iinc (i := 1) (y := x7) (L1 := [some (va_rf v0), some (.int x7)]) rfl rfl (Nat.le_of_ble_eq_true rfl) (Or.inr (bd_wideR rfl)) (by rw [ex7]; rfl) rfl ?_
  refine rn_goto rfl rfl ?_
  exact K10 v0 x7 h6 _ hb
def b_34_10 (k10 : Option Nat → Int32 → Hp → Option (Int32 × Hp)) (v0 : Option Nat) (v1 : Int32)  (h : Hp) : Option (Int32 × Hp) :=
  (gQ 3 2 v0 h).bind fun x1 =>
  (gI 4 5 x1 h).bind fun x2 =>
  if x2 ≤ v1 then b_34_50 v0  h else b_34_21 k10 v0 v1  h
theorem u_34_10 (d : Nat) (hd : 69 ≤ d) (k10 : Option Nat → Int32 → Hp → Option (Int32 × Hp)) (K10 : ∀ (v0 : Option Nat) (v1 : Int32) (h : Hp) (r : Int32 × Hp), k10 v0 v1 h = some r → Rn d 34 10 [some (va_rf v0), some (.int v1)] [] h (some (.int r.1), r.2)) (v0 : Option Nat) (v1 : Int32)  (h : Hp) (r : Int32 × Hp) (hb : b_34_10 k10 v0 v1  h = some r) : Rn d 34 10 [some (va_rf v0), some (.int v1)] [] h (some (.int r.1), r.2) := by
  unfold b_34_10 at hb
  refine rn_iload_n (i := 1) rfl rfl ?_
  refine rn_aload_n (i := 0) rfl rfl ?_
  refine rn_gQ (c := 3) (k := 2) rfl (by decide) hb (fun x1 hb => ?_)
  refine rn_gI (c := 4) (k := 5) rfl (by decide) hb (fun x2 hb => ?_)
  refine rn_icmp_ge rfl rfl (fun hc => ?_) (fun hc => ?_)
  · exact u_34_50 d hd v0 v1  h _ (if_t hb hc)
  · exact u_34_21 d hd k10 K10 v0 v1  h _ (if_f hb hc)
def l_34_10 : Nat → Option Nat → Int32 → Hp → Option (Int32 × Hp)
  | 0, _, _, _ => none
  | n + 1, v0, v1, h => b_34_10 (l_34_10 n) v0 v1 h
theorem w_34_10 (d : Nat) (hd : 69 ≤ d) : ∀ (n : Nat) (v0 : Option Nat) (v1 : Int32) (h : Hp) (r : Int32 × Hp), l_34_10 n v0 v1 h = some r → Rn d 34 10 [some (va_rf v0), some (.int v1)] [] h (some (.int r.1), r.2) := by
  intro n
  induction n with
  | zero => intro v0 v1 h r hb; cases hb
  | succ n ih => intro v0 v1 h r hb; exact u_34_10 d hd (l_34_10 n) ih v0 v1 h r hb
def b_34_8 (v0 : Option Nat)  (h : Hp) : Option (Int32 × Hp) :=
  bnd ((nI 0)) fun x1 =>
  l_34_10 FU v0 x1 h
theorem u_34_8 (d : Nat) (hd : 69 ≤ d) (v0 : Option Nat)  (h : Hp) (r : Int32 × Hp) (hb : b_34_8 v0  h = some r) : Rn d 34 8 [some (va_rf v0), none] [] h (some (.int r.1), r.2) := by
  unfold b_34_8 at hb
  refine rn_iconst (x := (nI 0)) rfl (by decide) ?_
  obtain ⟨x1, ex1, hb⟩ := bnd_spec hb
  refine rn_istore_n (i := 1) (L1 := [some (va_rf v0), some (.int x1)]) rfl (Nat.le_of_ble_eq_true rfl) (Or.inr (bd_wideR rfl)) (by rw [ex1]; rfl) ?_
  exact w_34_10 d hd FU v0 x1 h _ hb
def b_34_0 (v0 : Option Nat)  (h : Hp) : Option (Int32 × Hp) :=
  (gI 3 5 v0 h).bind fun x1 =>
  if ¬ x1 = (-1 : Int32) then b_34_77 v0  h else b_34_8 v0  h
theorem u_34_0 (d : Nat) (hd : 69 ≤ d) (v0 : Option Nat)  (h : Hp) (r : Int32 × Hp) (hb : b_34_0 v0  h = some r) : Rn d 34 0 [some (va_rf v0), none] [] h (some (.int r.1), r.2) := by
  unfold b_34_0 at hb
  refine rn_aload_n (i := 0) rfl rfl ?_
  refine rn_gI (c := 3) (k := 5) rfl (by decide) hb (fun x1 hb => ?_)
  refine rn_iconst (x := (-1 : Int32)) rfl (by decide) ?_
  refine rn_icmp_ne rfl rfl (fun hc => ?_) (fun hc => ?_)
  · exact u_34_77 d hd v0 (none : Option (Int32))  h _ (if_t hb hc)
  · exact u_34_8 d hd v0  h _ (if_f hb hc)
/-- BitingDoors$Hanger.solveCheapest()Z -/
def f_34 (v0 : Option Nat) (h : Hp) : Option (Int32 × Hp) := b_34_0 v0 h
theorem t_34 (d : Nat) (hd : 69 ≤ d) (v0 : Option Nat) (h : Hp) (r : Int32 × Hp) (hb : f_34 v0 h = some r) : Rn d 34 0 [some (va_rf v0), none] [] h (some (.int r.1), r.2) := by
  unfold f_34 at hb
  exact u_34_0 d hd v0 h r hb
def b_35_90  (s0 : Int32) (h : Hp) : Option (Int32 × Hp) :=
  (grd (decide (s0 = 0 ∨ s0 = 1))).bind fun _ => some (s0, h)
theorem u_35_90 (d : Nat) (hd : 69 ≤ d) (v0 : Option Nat) (v1 : Option (Int32)) (s0 : Int32) (h : Hp) (r : Int32 × Hp) (hb : b_35_90  s0 h = some r) : Rn d 35 90 [some (va_rf v0), v1.map Value.int] [.int s0] h (some (.int r.1), r.2) := by
  unfold b_35_90 at hb
  obtain ⟨hz, hb⟩ := grd_spec hb
  obtain rfl := Option.some.inj hb
  exact rn_zret rfl rfl (of_decide_eq_true hz)
def b_35_89   (h : Hp) : Option (Int32 × Hp) :=
  b_35_90  (nI 0) h
theorem u_35_89 (d : Nat) (hd : 69 ≤ d) (v0 : Option Nat) (v1 : Option (Int32))  (h : Hp) (r : Int32 × Hp) (hb : b_35_89   h = some r) : Rn d 35 89 [some (va_rf v0), v1.map Value.int] [] h (some (.int r.1), r.2) := by
  unfold b_35_89 at hb
  refine rn_iconst (x := (nI 0)) rfl (by decide) ?_
  exact u_35_90 d hd v0 v1 (nI 0) h _ hb
def b_35_85   (h : Hp) : Option (Int32 × Hp) :=
  b_35_90  (nI 1) h
theorem u_35_85 (d : Nat) (hd : 69 ≤ d) (v0 : Option Nat) (v1 : Option (Int32))  (h : Hp) (r : Int32 × Hp) (hb : b_35_85   h = some r) : Rn d 35 85 [some (va_rf v0), v1.map Value.int] [] h (some (.int r.1), r.2) := by
  unfold b_35_85 at hb
  refine rn_iconst (x := (nI 1)) rfl (by decide) ?_
  refine rn_goto rfl rfl ?_
  exact u_35_90 d hd v0 v1 (nI 1) h _ hb
def b_35_76 (v0 : Option Nat)  (h : Hp) : Option (Int32 × Hp) :=
  (gI 3 7 v0 h).bind fun x1 =>
  if x1 = (nI 1073741824) then b_35_89   h else b_35_85   h
theorem u_35_76 (d : Nat) (hd : 69 ≤ d) (v0 : Option Nat) (v1 : Option (Int32))  (h : Hp) (r : Int32 × Hp) (hb : b_35_76 v0  h = some r) : Rn d 35 76 [some (va_rf v0), v1.map Value.int] [] h (some (.int r.1), r.2) := by
  unfold b_35_76 at hb
  refine rn_aload_n (i := 0) rfl rfl ?_
  refine rn_gI (c := 3) (k := 7) rfl (by decide) hb (fun x1 hb => ?_)
  refine rn_ldc (x := (nI 1073741824)) rfl (by decide) ?_
  refine rn_icmp_eq rfl rfl (fun hc => ?_) (fun hc => ?_)
  · exact u_35_89 d hd v0 v1  h _ (if_t hb hc)
  · exact u_35_85 d hd v0 v1  h _ (if_f hb hc)
def b_35_49 (v0 : Option Nat)  (h : Hp) : Option (Int32 × Hp) :=
  (grd (rC 3 v0 h)).bind fun _ =>
  (f_29 v0 h).bind fun p1 =>
  (grd (rC 3 v0 p1.2)).bind fun _ =>
  (f_36 v0 p1.1 p1.2).bind fun p2 =>
  (pI 3 7 v0 p2.1 p2.2).bind fun h3 =>
  (gQ 3 12 v0 h3).bind fun x4 =>
  (gQ 3 6 v0 h3).bind fun x5 =>
  (cP x4 (nI 0) x5 (nI 0) (nI 10) h3).bind fun h6 =>
  b_35_76 v0  h6
theorem u_35_49 (d : Nat) (hd : 69 ≤ d) (v0 : Option Nat) (v1 : Int32)  (h : Hp) (r : Int32 × Hp) (hb : b_35_49 v0  h = some r) : Rn d 35 49 [some (va_rf v0), some (.int v1)] [] h (some (.int r.1), r.2) := by
  unfold b_35_49 at hb
  obtain ⟨e, rfl⟩ : ∃ e, d = e + 1 := ⟨d - 1, by omega⟩
  refine rn_aload_n (i := 0) rfl rfl ?_
  refine rn_aload_n (i := 0) rfl rfl ?_
  refine rn_aload_n (i := 0) rfl rfl ?_
  obtain ⟨hrc, hb⟩ := grd_spec hb
  obtain ⟨p1, hc, hb⟩ := Option.bind_eq_some_iff.mp hb
  refine Rn.call1 (d := e) (As := [va_rf v0]) (rest := [va_rf v0, va_rf v0]) rfl rfl rfl (by decide) rfl rfl rfl (bd_rcV hrc rfl) (by rw [bd_cR (bd_cR (bd_cN))]; decide) (bd_lenC (n := 1) rfl (bd_slR bd_slN) rfl) (bd_locC (n := 1) rfl (bd_slR bd_slN) rfl (t_29 e (by omega) v0 h _ hc)) ?_
  obtain ⟨hrc, hb⟩ := grd_spec hb
  obtain ⟨p2, hc, hb⟩ := Option.bind_eq_some_iff.mp hb
  refine Rn.call1 (d := e) (As := [va_rf v0, .int p1.1]) (rest := [va_rf v0]) rfl rfl rfl (by decide) rfl rfl rfl (bd_rcV hrc rfl) (by rw [bd_cR (bd_cN)]; decide) (bd_lenC (n := 2) rfl (bd_slR (bd_slI bd_slN)) rfl) (bd_locC (n := 2) rfl (bd_slR (bd_slI bd_slN)) rfl (t_36 e (by omega) v0 p1.1 p1.2 _ hc)) ?_
  refine rn_pI (c := 3) (k := 7) rfl (by decide) hb (fun h3 hb => ?_)
  refine rn_aload_n (i := 0) rfl rfl ?_
  refine rn_gQ (c := 3) (k := 12) rfl (by decide) hb (fun x4 hb => ?_)
  refine rn_iconst (x := (nI 0)) rfl (by decide) ?_
  refine rn_aload_n (i := 0) rfl rfl ?_
  refine rn_gQ (c := 3) (k := 6) rfl (by decide) hb (fun x5 hb => ?_)
  refine rn_iconst (x := (nI 0)) rfl (by decide) ?_
  refine rn_bipush (x := (nI 10)) rfl (by decide) ?_
  refine rn_copy rfl (by decide) hb (fun h6 hb => ?_)
  exact u_35_76 (e + 1) hd v0 (some v1)  h6 _ hb
def b_35_21 (k10 : Option Nat → Int32 → Hp → Option (Int32 × Hp)) (v0 : Option Nat) (v1 : Int32)  (h : Hp) : Option (Int32 × Hp) :=
  (gQ 3 10 v0 h).bind fun x1 =>
  (gQ 3 2 v0 h).bind fun x2 =>
  (gQ 4 1 x2 h).bind fun x3 =>
  (aQ x3 v1 h).bind fun x4 =>
  (gI 1 12 x4 h).bind fun x5 =>
  (wI x1 v1 ((nI 1024) + x5) h).bind fun h6 =>
  bnd (v1 + (nI 1)) fun x7 =>
  k10 v0 x7 h6
theorem u_35_21 (d : Nat) (hd : 69 ≤ d) (k10 : Option Nat → Int32 → Hp → Option (Int32 × Hp)) (K10 : ∀ (v0 : Option Nat) (v1 : Int32) (h : Hp) (r : Int32 × Hp), k10 v0 v1 h = some r → Rn d 35 10 [some (va_rf v0), some (.int v1)] [] h (some (.int r.1), r.2)) (v0 : Option Nat) (v1 : Int32)  (h : Hp) (r : Int32 × Hp) (hb : b_35_21 k10 v0 v1  h = some r) : Rn d 35 21 [some (va_rf v0), some (.int v1)] [] h (some (.int r.1), r.2) := by
  unfold b_35_21 at hb
  refine rn_aload_n (i := 0) rfl rfl ?_
  refine rn_gQ (c := 3) (k := 10) rfl (by decide) hb (fun x1 hb => ?_)
  refine rn_iload_n (i := 1) rfl rfl ?_
  refine rn_sipush (x := (nI 1024)) rfl (by decide) ?_
  refine rn_aload_n (i := 0) rfl rfl ?_
  refine rn_gQ (c := 3) (k := 2) rfl (by decide) hb (fun x2 hb => ?_)
  refine rn_gQ (c := 4) (k := 1) rfl (by decide) hb (fun x3 hb => ?_)
  refine rn_iload_n (i := 1) rfl rfl ?_
  refine rn_aQ rfl hb (fun x4 hb => ?_)
  refine rn_gI (c := 1) (k := 12) rfl (by decide) hb (fun x5 hb => ?_)
  refine rn_iadd rfl ?_
  refine rn_wI rfl hb (fun h6 hb => ?_)
  obtain ⟨x7, ex7, hb⟩ := bnd_spec hb
  refine rn_iinc (i := 1) (y := x7) (L1 := [some (va_rf v0), some (.int x7)]) rfl rfl (Nat.le_of_ble_eq_true rfl) (Or.inr (bd_wideR rfl)) (by rw [ex7]; rfl) rfl ?_
  refine rn_goto rfl rfl ?_
  exact K10 v0 x7 h6 _ hb
def b_35_10 (k10 : Option Nat → Int32 → Hp → Option (Int32 × Hp)) (v0 : Option Nat) (v1 : Int32)  (h : Hp) : Option (Int32 × Hp) :=
  (gQ 3 2 v0 h).bind fun x1 =>
  (gI 4 5 x1 h).bind fun x2 =>
  if x2 ≤ v1 then b_35_49 v0  h else b_35_21 k10 v0 v1  h
theorem u_35_10 (d : Nat) (hd : 69 ≤ d) (k10 : Option Nat → Int32 → Hp → Option (Int32 × Hp)) (K10 : ∀ (v0 : Option Nat) (v1 : Int32) (h : Hp) (r : Int32 × Hp), k10 v0 v1 h = some r → Rn d 35 10 [some (va_rf v0), some (.int v1)] [] h (some (.int r.1), r.2)) (v0 : Option Nat) (v1 : Int32)  (h : Hp) (r : Int32 × Hp) (hb : b_35_10 k10 v0 v1  h = some r) : Rn d 35 10 [some (va_rf v0), some (.int v1)] [] h (some (.int r.1), r.2) := by
  unfold b_35_10 at hb
  refine rn_iload_n (i := 1) rfl rfl ?_
  refine rn_aload_n (i := 0) rfl rfl ?_
  refine rn_gQ (c := 3) (k := 2) rfl (by decide) hb (fun x1 hb => ?_)
  refine rn_gI (c := 4) (k := 5) rfl (by decide) hb (fun x2 hb => ?_)
  refine rn_icmp_ge rfl rfl (fun hc => ?_) (fun hc => ?_)
  · exact u_35_49 d hd v0 v1  h _ (if_t hb hc)
  · exact u_35_21 d hd k10 K10 v0 v1  h _ (if_f hb hc)
def l_35_10 : Nat → Option Nat → Int32 → Hp → Option (Int32 × Hp)
  | 0, _, _, _ => none
  | n + 1, v0, v1, h => b_35_10 (l_35_10 n) v0 v1 h
theorem w_35_10 (d : Nat) (hd : 69 ≤ d) : ∀ (n : Nat) (v0 : Option Nat) (v1 : Int32) (h : Hp) (r : Int32 × Hp), l_35_10 n v0 v1 h = some r → Rn d 35 10 [some (va_rf v0), some (.int v1)] [] h (some (.int r.1), r.2) := by
  intro n
  induction n with
  | zero => intro v0 v1 h r hb; cases hb
  | succ n ih => intro v0 v1 h r hb; exact u_35_10 d hd (l_35_10 n) ih v0 v1 h r hb
def b_35_8 (v0 : Option Nat)  (h : Hp) : Option (Int32 × Hp) :=
  bnd ((nI 0)) fun x1 =>
  l_35_10 FU v0 x1 h
theorem u_35_8 (d : Nat) (hd : 69 ≤ d) (v0 : Option Nat)  (h : Hp) (r : Int32 × Hp) (hb : b_35_8 v0  h = some r) : Rn d 35 8 [some (va_rf v0), none] [] h (some (.int r.1), r.2) := by
  unfold b_35_8 at hb
  refine rn_iconst (x := (nI 0)) rfl (by decide) ?_
  obtain ⟨x1, ex1, hb⟩ := bnd_spec hb
  refine rn_istore_n (i := 1) (L1 := [some (va_rf v0), some (.int x1)]) rfl (Nat.le_of_ble_eq_true rfl) (Or.inr (bd_wideR rfl)) (by rw [ex1]; rfl) ?_
  exact w_35_10 d hd FU v0 x1 h _ hb
def b_35_0 (v0 : Option Nat)  (h : Hp) : Option (Int32 × Hp) :=
  (gI 3 7 v0 h).bind fun x1 =>
  if ¬ x1 = (-1 : Int32) then b_35_76 v0  h else b_35_8 v0  h
theorem u_35_0 (d : Nat) (hd : 69 ≤ d) (v0 : Option Nat)  (h : Hp) (r : Int32 × Hp) (hb : b_35_0 v0  h = some r) : Rn d 35 0 [some (va_rf v0), none] [] h (some (.int r.1), r.2) := by
  unfold b_35_0 at hb
  refine rn_aload_n (i := 0) rfl rfl ?_
  refine rn_gI (c := 3) (k := 7) rfl (by decide) hb (fun x1 hb => ?_)
  refine rn_iconst (x := (-1 : Int32)) rfl (by decide) ?_
  refine rn_icmp_ne rfl rfl (fun hc => ?_) (fun hc => ?_)
  · exact u_35_76 d hd v0 (none : Option (Int32))  h _ (if_t hb hc)
  · exact u_35_8 d hd v0  h _ (if_f hb hc)
/-- BitingDoors$Hanger.solveFewest()Z -/
def f_35 (v0 : Option Nat) (h : Hp) : Option (Int32 × Hp) := b_35_0 v0 h
theorem t_35 (d : Nat) (hd : 69 ≤ d) (v0 : Option Nat) (h : Hp) (r : Int32 × Hp) (hb : f_35 v0 h = some r) : Rn d 35 0 [some (va_rf v0), none] [] h (some (.int r.1), r.2) := by
  unfold f_35 at hb
  exact u_35_0 d hd v0 h r hb
def b_41_73 (v5 : Int32)  (h : Hp) : Option (Int32 × Hp) :=
  some (v5, h)
theorem u_41_73 (d : Nat) (hd : 1 ≤ d) (v0 : Option Nat) (v1 : Int64) (v3 : Int32) (v4 : Int32) (v5 : Int32) (v6 : Int32) (v7 : Option (Int32))  (h : Hp) (r : Int32 × Hp) (hb : b_41_73 v5  h = some r) : Rn d 41 73 [some (va_rf v0), some (.long v1), none, some (.int v3), some (.int v4), some (.int v5), some (.int v6), v7.map Value.int] [] h (some (.int r.1), r.2) := by
  unfold b_41_73 at hb
  refine rn_iload (i := 5) rfl rfl ?_
  obtain rfl := Option.some.inj hb
  exact rn_iret rfl rfl
def b_41_64 (k6 : Option Nat → Int64 → Int32 → Int32 → Int32 → Int32 → Hp → Option (Int32 × Hp)) (v0 : Option Nat) (v1 : Int64) (v3 : Int32) (v4 : Int32) (v6 : Int32) (s0 : Int32) (s1 : Int32) (h : Hp) : Option (Int32 × Hp) :=
  bnd ((s0 ||| s1)) fun x1 =>
  bnd (v6 + (nI 1)) fun x2 =>
  k6 v0 v1 v3 v4 x1 x2 h
theorem u_41_64 (d : Nat) (hd : 1 ≤ d) (k6 : Option Nat → Int64 → Int32 → Int32 → Int32 → Int32 → Hp → Option (Int32 × Hp)) (K6 : ∀ (v0 : Option Nat) (v1 : Int64) (v3 : Int32) (v4 : Int32) (v5 : Int32) (v6 : Int32) (v7 : Option (Int32)) (h : Hp) (r : Int32 × Hp), k6 v0 v1 v3 v4 v5 v6 h = some r → Rn d 41 6 [some (va_rf v0), some (.long v1), none, some (.int v3), some (.int v4), some (.int v5), some (.int v6), v7.map Value.int] [] h (some (.int r.1), r.2)) (v0 : Option Nat) (v1 : Int64) (v3 : Int32) (v4 : Int32) (v5 : Int32) (v6 : Int32) (v7 : Int32) (s0 : Int32) (s1 : Int32) (h : Hp) (r : Int32 × Hp) (hb : b_41_64 k6 v0 v1 v3 v4 v6 s0 s1 h = some r) : Rn d 41 64 [some (va_rf v0), some (.long v1), none, some (.int v3), some (.int v4), some (.int v5), some (.int v6), some (.int v7)] [.int s1, .int s0] h (some (.int r.1), r.2) := by
  unfold b_41_64 at hb
  refine rn_ior rfl ?_
  obtain ⟨x1, ex1, hb⟩ := bnd_spec hb
  refine rn_istore (i := 5) (L1 := [some (va_rf v0), some (.long v1), none, some (.int v3), some (.int v4), some (.int x1), some (.int v6), some (.int v7)]) rfl (Nat.le_of_ble_eq_true rfl) (Or.inr rfl) (by rw [ex1]; rfl) ?_
  obtain ⟨x2, ex2, hb⟩ := bnd_spec hb
  refine rn_iinc (i := 6) (y := x2) (L1 := [some (va_rf v0), some (.long v1), none, some (.int v3), some (.int v4), some (.int x1), some (.int x2), some (.int v7)]) rfl rfl (Nat.le_of_ble_eq_true rfl) (Or.inr rfl) (by rw [ex2]; rfl) rfl ?_
  refine rn_goto rfl rfl ?_
  exact K6 v0 v1 v3 v4 x1 x2 (some v7) h _ hb
def b_41_63 (k6 : Option Nat → Int64 → Int32 → Int32 → Int32 → Int32 → Hp → Option (Int32 × Hp)) (v0 : Option Nat) (v1 : Int64) (v3 : Int32) (v4 : Int32) (v6 : Int32) (s0 : Int32) (h : Hp) : Option (Int32 × Hp) :=
  b_41_64 k6 v0 v1 v3 v4 v6 s0 (nI 0) h
theorem u_41_63 (d : Nat) (hd : 1 ≤ d) (k6 : Option Nat → Int64 → Int32 → Int32 → Int32 → Int32 → Hp → Option (Int32 × Hp)) (K6 : ∀ (v0 : Option Nat) (v1 : Int64) (v3 : Int32) (v4 : Int32) (v5 : Int32) (v6 : Int32) (v7 : Option (Int32)) (h : Hp) (r : Int32 × Hp), k6 v0 v1 v3 v4 v5 v6 h = some r → Rn d 41 6 [some (va_rf v0), some (.long v1), none, some (.int v3), some (.int v4), some (.int v5), some (.int v6), v7.map Value.int] [] h (some (.int r.1), r.2)) (v0 : Option Nat) (v1 : Int64) (v3 : Int32) (v4 : Int32) (v5 : Int32) (v6 : Int32) (v7 : Int32) (s0 : Int32) (h : Hp) (r : Int32 × Hp) (hb : b_41_63 k6 v0 v1 v3 v4 v6 s0 h = some r) : Rn d 41 63 [some (va_rf v0), some (.long v1), none, some (.int v3), some (.int v4), some (.int v5), some (.int v6), some (.int v7)] [.int s0] h (some (.int r.1), r.2) := by
  unfold b_41_63 at hb
  refine rn_iconst (x := (nI 0)) rfl (by decide) ?_
  exact u_41_64 d hd k6 K6 v0 v1 v3 v4 v5 v6 v7 s0 (nI 0) h _ hb
def b_41_56 (k6 : Option Nat → Int64 → Int32 → Int32 → Int32 → Int32 → Hp → Option (Int32 × Hp)) (v0 : Option Nat) (v1 : Int64) (v3 : Int32) (v4 : Int32) (v6 : Int32) (s0 : Int32) (h : Hp) : Option (Int32 × Hp) :=
  b_41_64 k6 v0 v1 v3 v4 v6 s0 ((nI 1) <<< (v6 &&& 31)) h
theorem u_41_56 (d : Nat) (hd : 1 ≤ d) (k6 : Option Nat → Int64 → Int32 → Int32 → Int32 → Int32 → Hp → Option (Int32 × Hp)) (K6 : ∀ (v0 : Option Nat) (v1 : Int64) (v3 : Int32) (v4 : Int32) (v5 : Int32) (v6 : Int32) (v7 : Option (Int32)) (h : Hp) (r : Int32 × Hp), k6 v0 v1 v3 v4 v5 v6 h = some r → Rn d 41 6 [some (va_rf v0), some (.long v1), none, some (.int v3), some (.int v4), some (.int v5), some (.int v6), v7.map Value.int] [] h (some (.int r.1), r.2)) (v0 : Option Nat) (v1 : Int64) (v3 : Int32) (v4 : Int32) (v5 : Int32) (v6 : Int32) (v7 : Int32) (s0 : Int32) (h : Hp) (r : Int32 × Hp) (hb : b_41_56 k6 v0 v1 v3 v4 v6 s0 h = some r) : Rn d 41 56 [some (va_rf v0), some (.long v1), none, some (.int v3), some (.int v4), some (.int v5), some (.int v6), some (.int v7)] [.int s0] h (some (.int r.1), r.2) := by
  unfold b_41_56 at hb
  refine rn_iconst (x := (nI 1)) rfl (by decide) ?_
  refine rn_iload (i := 6) rfl rfl ?_
  refine rn_ishl rfl ?_
  refine rn_goto rfl rfl ?_
  exact u_41_64 d hd k6 K6 v0 v1 v3 v4 v5 v6 v7 s0 ((nI 1) <<< (v6 &&& 31)) h _ hb
def b_41_47 (k6 : Option Nat → Int64 → Int32 → Int32 → Int32 → Int32 → Hp → Option (Int32 × Hp)) (v0 : Option Nat) (v1 : Int64) (v3 : Int32) (v4 : Int32) (v5 : Int32) (v6 : Int32) (s0 : Int32) (h : Hp) : Option (Int32 × Hp) :=
  if s0 = 0 then b_41_63 k6 v0 v1 v3 v4 v6 v5 h else b_41_56 k6 v0 v1 v3 v4 v6 v5 h
theorem u_41_47 (d : Nat) (hd : 1 ≤ d) (k6 : Option Nat → Int64 → Int32 → Int32 → Int32 → Int32 → Hp → Option (Int32 × Hp)) (K6 : ∀ (v0 : Option Nat) (v1 : Int64) (v3 : Int32) (v4 : Int32) (v5 : Int32) (v6 : Int32) (v7 : Option (Int32)) (h : Hp) (r : Int32 × Hp), k6 v0 v1 v3 v4 v5 v6 h = some r → Rn d 41 6 [some (va_rf v0), some (.long v1), none, some (.int v3), some (.int v4), some (.int v5), some (.int v6), v7.map Value.int] [] h (some (.int r.1), r.2)) (v0 : Option Nat) (v1 : Int64) (v3 : Int32) (v4 : Int32) (v5 : Int32) (v6 : Int32) (v7 : Option (Int32)) (s0 : Int32) (h : Hp) (r : Int32 × Hp) (hb : b_41_47 k6 v0 v1 v3 v4 v5 v6 s0 h = some r) : Rn d 41 47 [some (va_rf v0), some (.long v1), none, some (.int v3), some (.int v4), some (.int v5), some (.int v6), v7.map Value.int] [.int s0] h (some (.int r.1), r.2) := by
  unfold b_41_47 at hb
  refine rn_istore (i := 7) (L1 := [some (va_rf v0), some (.long v1), none, some (.int v3), some (.int v4), some (.int v5), some (.int v6), some (.int s0)]) rfl (Nat.le_of_ble_eq_true rfl) (Or.inr rfl) rfl ?_
  refine rn_iload (i := 5) rfl rfl ?_
  refine rn_iload (i := 7) rfl rfl ?_
  refine rn_if_eq rfl rfl (fun hc => ?_) (fun hc => ?_)
  · exact u_41_63 d hd k6 K6 v0 v1 v3 v4 v5 v6 s0 v5 h _ (if_t hb hc)
  · exact u_41_56 d hd k6 K6 v0 v1 v3 v4 v5 v6 s0 v5 h _ (if_f hb hc)
def b_41_46 (k6 : Option Nat → Int64 → Int32 → Int32 → Int32 → Int32 → Hp → Option (Int32 × Hp)) (v0 : Option Nat) (v1 : Int64) (v3 : Int32) (v4 : Int32) (v5 : Int32) (v6 : Int32)  (h : Hp) : Option (Int32 × Hp) :=
  b_41_47 k6 v0 v1 v3 v4 v5 v6 (nI 0) h
theorem u_41_46 (d : Nat) (hd : 1 ≤ d) (k6 : Option Nat → Int64 → Int32 → Int32 → Int32 → Int32 → Hp → Option (Int32 × Hp)) (K6 : ∀ (v0 : Option Nat) (v1 : Int64) (v3 : Int32) (v4 : Int32) (v5 : Int32) (v6 : Int32) (v7 : Option (Int32)) (h : Hp) (r : Int32 × Hp), k6 v0 v1 v3 v4 v5 v6 h = some r → Rn d 41 6 [some (va_rf v0), some (.long v1), none, some (.int v3), some (.int v4), some (.int v5), some (.int v6), v7.map Value.int] [] h (some (.int r.1), r.2)) (v0 : Option Nat) (v1 : Int64) (v3 : Int32) (v4 : Int32) (v5 : Int32) (v6 : Int32) (v7 : Option (Int32))  (h : Hp) (r : Int32 × Hp) (hb : b_41_46 k6 v0 v1 v3 v4 v5 v6  h = some r) : Rn d 41 46 [some (va_rf v0), some (.long v1), none, some (.int v3), some (.int v4), some (.int v5), some (.int v6), v7.map Value.int] [] h (some (.int r.1), r.2) := by
  unfold b_41_46 at hb
  refine rn_iconst (x := (nI 0)) rfl (by decide) ?_
  exact u_41_47 d hd k6 K6 v0 v1 v3 v4 v5 v6 v7 (nI 0) h _ hb
def b_41_42 (k6 : Option Nat → Int64 → Int32 → Int32 → Int32 → Int32 → Hp → Option (Int32 × Hp)) (v0 : Option Nat) (v1 : Int64) (v3 : Int32) (v4 : Int32) (v5 : Int32) (v6 : Int32)  (h : Hp) : Option (Int32 × Hp) :=
  b_41_47 k6 v0 v1 v3 v4 v5 v6 (nI 1) h
theorem u_41_42 (d : Nat) (hd : 1 ≤ d) (k6 : Option Nat → Int64 → Int32 → Int32 → Int32 → Int32 → Hp → Option (Int32 × Hp)) (K6 : ∀ (v0 : Option Nat) (v1 : Int64) (v3 : Int32) (v4 : Int32) (v5 : Int32) (v6 : Int32) (v7 : Option (Int32)) (h : Hp) (r : Int32 × Hp), k6 v0 v1 v3 v4 v5 v6 h = some r → Rn d 41 6 [some (va_rf v0), some (.long v1), none, some (.int v3), some (.int v4), some (.int v5), some (.int v6), v7.map Value.int] [] h (some (.int r.1), r.2)) (v0 : Option Nat) (v1 : Int64) (v3 : Int32) (v4 : Int32) (v5 : Int32) (v6 : Int32) (v7 : Option (Int32))  (h : Hp) (r : Int32 × Hp) (hb : b_41_42 k6 v0 v1 v3 v4 v5 v6  h = some r) : Rn d 41 42 [some (va_rf v0), some (.long v1), none, some (.int v3), some (.int v4), some (.int v5), some (.int v6), v7.map Value.int] [] h (some (.int r.1), r.2) := by
  unfold b_41_42 at hb
  refine rn_iconst (x := (nI 1)) rfl (by decide) ?_
  refine rn_goto rfl rfl ?_
  exact u_41_47 d hd k6 K6 v0 v1 v3 v4 v5 v6 v7 (nI 1) h _ hb
def b_41_22 (k6 : Option Nat → Int64 → Int32 → Int32 → Int32 → Int32 → Hp → Option (Int32 × Hp)) (v0 : Option Nat) (v1 : Int64) (v3 : Int32) (v4 : Int32) (v5 : Int32) (v6 : Int32)  (h : Hp) : Option (Int32 × Hp) :=
  (grd (rC 3 v0 h)).bind fun _ =>
  (f_33 v0 v1 v3 v6 h).bind fun p1 =>
  (grd (rC 3 v0 p1.2)).bind fun _ =>
  (f_33 v0 v1 v3 v4 p1.2).bind fun p2 =>
  if ¬ (lg_cmp p1.1 p2.1) = 0 then b_41_46 k6 v0 v1 v3 v4 v5 v6  p2.2 else b_41_42 k6 v0 v1 v3 v4 v5 v6  p2.2
theorem u_41_22 (d : Nat) (hd : 1 ≤ d) (k6 : Option Nat → Int64 → Int32 → Int32 → Int32 → Int32 → Hp → Option (Int32 × Hp)) (K6 : ∀ (v0 : Option Nat) (v1 : Int64) (v3 : Int32) (v4 : Int32) (v5 : Int32) (v6 : Int32) (v7 : Option (Int32)) (h : Hp) (r : Int32 × Hp), k6 v0 v1 v3 v4 v5 v6 h = some r → Rn d 41 6 [some (va_rf v0), some (.long v1), none, some (.int v3), some (.int v4), some (.int v5), some (.int v6), v7.map Value.int] [] h (some (.int r.1), r.2)) (v0 : Option Nat) (v1 : Int64) (v3 : Int32) (v4 : Int32) (v5 : Int32) (v6 : Int32) (v7 : Option (Int32))  (h : Hp) (r : Int32 × Hp) (hb : b_41_22 k6 v0 v1 v3 v4 v5 v6  h = some r) : Rn d 41 22 [some (va_rf v0), some (.long v1), none, some (.int v3), some (.int v4), some (.int v5), some (.int v6), v7.map Value.int] [] h (some (.int r.1), r.2) := by
  unfold b_41_22 at hb
  obtain ⟨e, rfl⟩ : ∃ e, d = e + 1 := ⟨d - 1, by omega⟩
  refine rn_aload_n (i := 0) rfl rfl ?_
  refine rn_lload_n (i := 1) rfl rfl ?_
  refine rn_iload_n (i := 3) rfl rfl ?_
  refine rn_iload (i := 6) rfl rfl ?_
  obtain ⟨hrc, hb⟩ := grd_spec hb
  obtain ⟨p1, hc, hb⟩ := Option.bind_eq_some_iff.mp hb
  refine Rn.call1 (d := e) (As := [va_rf v0, .long v1, .int v3, .int v6]) (rest := []) rfl rfl rfl (by decide) rfl rfl rfl (bd_rcV hrc rfl) (by decide) (bd_lenC (n := 5) rfl (bd_slR (bd_slJ (bd_slI (bd_slI bd_slN)))) rfl) (bd_locC (n := 5) rfl (bd_slR (bd_slJ (bd_slI (bd_slI bd_slN)))) rfl (t_33 e (by omega) v0 v1 v3 v6 h _ hc)) ?_
  refine rn_aload_n (i := 0) rfl rfl ?_
  refine rn_lload_n (i := 1) rfl rfl ?_
  refine rn_iload_n (i := 3) rfl rfl ?_
  refine rn_iload (i := 4) rfl rfl ?_
  obtain ⟨hrc, hb⟩ := grd_spec hb
  obtain ⟨p2, hc, hb⟩ := Option.bind_eq_some_iff.mp hb
  refine Rn.call1 (d := e) (As := [va_rf v0, .long v1, .int v3, .int v4]) (rest := [.long p1.1]) rfl rfl rfl (by decide) rfl rfl rfl (bd_rcV hrc rfl) (by rw [bd_cJ (bd_cN)]; decide) (bd_lenC (n := 5) rfl (bd_slR (bd_slJ (bd_slI (bd_slI bd_slN)))) rfl) (bd_locC (n := 5) rfl (bd_slR (bd_slJ (bd_slI (bd_slI bd_slN)))) rfl (t_33 e (by omega) v0 v1 v3 v4 p1.2 _ hc)) ?_
  refine rn_lcmp rfl ?_
  refine rn_if_ne rfl rfl (fun hc => ?_) (fun hc => ?_)
  · exact u_41_46 (e + 1) hd k6 K6 v0 v1 v3 v4 v5 v6 v7  p2.2 _ (if_t hb hc)
  · exact u_41_42 (e + 1) hd k6 K6 v0 v1 v3 v4 v5 v6 v7  p2.2 _ (if_f hb hc)
def b_41_12 (k6 : Option Nat → Int64 → Int32 → Int32 → Int32 → Int32 → Hp → Option (Int32 × Hp)) (v0 : Option Nat) (v1 : Int64) (v3 : Int32) (v4 : Int32) (v5 : Int32) (v6 : Int32)  (h : Hp) : Option (Int32 × Hp) :=
  (f_31 v1 v3 v6 h).bind fun p1 =>
  if p1.1 = 0 then b_41_46 k6 v0 v1 v3 v4 v5 v6  p1.2 else b_41_22 k6 v0 v1 v3 v4 v5 v6  p1.2
theorem u_41_12 (d : Nat) (hd : 1 ≤ d) (k6 : Option Nat → Int64 → Int32 → Int32 → Int32 → Int32 → Hp → Option (Int32 × Hp)) (K6 : ∀ (v0 : Option Nat) (v1 : Int64) (v3 : Int32) (v4 : Int32) (v5 : Int32) (v6 : Int32) (v7 : Option (Int32)) (h : Hp) (r : Int32 × Hp), k6 v0 v1 v3 v4 v5 v6 h = some r → Rn d 41 6 [some (va_rf v0), some (.long v1), none, some (.int v3), some (.int v4), some (.int v5), some (.int v6), v7.map Value.int] [] h (some (.int r.1), r.2)) (v0 : Option Nat) (v1 : Int64) (v3 : Int32) (v4 : Int32) (v5 : Int32) (v6 : Int32) (v7 : Option (Int32))  (h : Hp) (r : Int32 × Hp) (hb : b_41_12 k6 v0 v1 v3 v4 v5 v6  h = some r) : Rn d 41 12 [some (va_rf v0), some (.long v1), none, some (.int v3), some (.int v4), some (.int v5), some (.int v6), v7.map Value.int] [] h (some (.int r.1), r.2) := by
  unfold b_41_12 at hb
  obtain ⟨e, rfl⟩ : ∃ e, d = e + 1 := ⟨d - 1, by omega⟩
  refine rn_lload_n (i := 1) rfl rfl ?_
  refine rn_iload_n (i := 3) rfl rfl ?_
  refine rn_iload (i := 6) rfl rfl ?_
  obtain ⟨p1, hc, hb⟩ := Option.bind_eq_some_iff.mp hb
  refine Rn.call1 (d := e) (As := [.long v1, .int v3, .int v6]) (rest := []) rfl rfl rfl (by decide) rfl rfl rfl rfl (by decide) (bd_lenC (n := 4) rfl (bd_slJ (bd_slI (bd_slI bd_slN))) rfl) (bd_locC (n := 4) rfl (bd_slJ (bd_slI (bd_slI bd_slN))) rfl (t_31 e (by omega) v1 v3 v6 h _ hc)) ?_
  refine rn_if_eq rfl rfl (fun hc => ?_) (fun hc => ?_)
  · exact u_41_46 (e + 1) hd k6 K6 v0 v1 v3 v4 v5 v6 v7  p1.2 _ (if_t hb hc)
  · exact u_41_22 (e + 1) hd k6 K6 v0 v1 v3 v4 v5 v6 v7  p1.2 _ (if_f hb hc)
def b_41_6 (k6 : Option Nat → Int64 → Int32 → Int32 → Int32 → Int32 → Hp → Option (Int32 × Hp)) (v0 : Option Nat) (v1 : Int64) (v3 : Int32) (v4 : Int32) (v5 : Int32) (v6 : Int32)  (h : Hp) : Option (Int32 × Hp) :=
  if (nI 4) ≤ v6 then b_41_73 v5  h else b_41_12 k6 v0 v1 v3 v4 v5 v6  h
theorem u_41_6 (d : Nat) (hd : 1 ≤ d) (k6 : Option Nat → Int64 → Int32 → Int32 → Int32 → Int32 → Hp → Option (Int32 × Hp)) (K6 : ∀ (v0 : Option Nat) (v1 : Int64) (v3 : Int32) (v4 : Int32) (v5 : Int32) (v6 : Int32) (v7 : Option (Int32)) (h : Hp) (r : Int32 × Hp), k6 v0 v1 v3 v4 v5 v6 h = some r → Rn d 41 6 [some (va_rf v0), some (.long v1), none, some (.int v3), some (.int v4), some (.int v5), some (.int v6), v7.map Value.int] [] h (some (.int r.1), r.2)) (v0 : Option Nat) (v1 : Int64) (v3 : Int32) (v4 : Int32) (v5 : Int32) (v6 : Int32) (v7 : Option (Int32))  (h : Hp) (r : Int32 × Hp) (hb : b_41_6 k6 v0 v1 v3 v4 v5 v6  h = some r) : Rn d 41 6 [some (va_rf v0), some (.long v1), none, some (.int v3), some (.int v4), some (.int v5), some (.int v6), v7.map Value.int] [] h (some (.int r.1), r.2) := by
  unfold b_41_6 at hb
  refine rn_iload (i := 6) rfl rfl ?_
  refine rn_iconst (x := (nI 4)) rfl (by decide) ?_
  refine rn_icmp_ge rfl rfl (fun hc => ?_) (fun hc => ?_)
  · exact u_41_73 d hd v0 v1 v3 v4 v5 v6 v7  h _ (if_t hb hc)
  · exact u_41_12 d hd k6 K6 v0 v1 v3 v4 v5 v6 v7  h _ (if_f hb hc)
def l_41_6 : Nat → Option Nat → Int64 → Int32 → Int32 → Int32 → Int32 → Hp → Option (Int32 × Hp)
  | 0, _, _, _, _, _, _, _ => none
  | n + 1, v0, v1, v3, v4, v5, v6, h => b_41_6 (l_41_6 n) v0 v1 v3 v4 v5 v6 h
theorem w_41_6 (d : Nat) (hd : 1 ≤ d) : ∀ (n : Nat) (v0 : Option Nat) (v1 : Int64) (v3 : Int32) (v4 : Int32) (v5 : Int32) (v6 : Int32) (v7 : Option (Int32)) (h : Hp) (r : Int32 × Hp), l_41_6 n v0 v1 v3 v4 v5 v6 h = some r → Rn d 41 6 [some (va_rf v0), some (.long v1), none, some (.int v3), some (.int v4), some (.int v5), some (.int v6), v7.map Value.int] [] h (some (.int r.1), r.2) := by
  intro n
  induction n with
  | zero => intro v0 v1 v3 v4 v5 v6 v7 h r hb; cases hb
  | succ n ih => intro v0 v1 v3 v4 v5 v6 v7 h r hb; exact u_41_6 d hd (l_41_6 n) ih v0 v1 v3 v4 v5 v6 v7 h r hb
def b_41_0 (v0 : Option Nat) (v1 : Int64) (v3 : Int32) (v4 : Int32)  (h : Hp) : Option (Int32 × Hp) :=
  bnd ((nI 0)) fun x1 =>
  bnd ((nI 0)) fun x2 =>
  l_41_6 FU v0 v1 v3 v4 x1 x2 h
theorem u_41_0 (d : Nat) (hd : 1 ≤ d) (v0 : Option Nat) (v1 : Int64) (v3 : Int32) (v4 : Int32)  (h : Hp) (r : Int32 × Hp) (hb : b_41_0 v0 v1 v3 v4  h = some r) : Rn d 41 0 [some (va_rf v0), some (.long v1), none, some (.int v3), some (.int v4), none, none, none] [] h (some (.int r.1), r.2) := by
  unfold b_41_0 at hb
  refine rn_iconst (x := (nI 0)) rfl (by decide) ?_
  obtain ⟨x1, ex1, hb⟩ := bnd_spec hb
  refine rn_istore (i := 5) (L1 := [some (va_rf v0), some (.long v1), none, some (.int v3), some (.int v4), some (.int x1), none, none]) rfl (Nat.le_of_ble_eq_true rfl) (Or.inr rfl) (by rw [ex1]; rfl) ?_
  refine rn_iconst (x := (nI 0)) rfl (by decide) ?_
  obtain ⟨x2, ex2, hb⟩ := bnd_spec hb
  refine rn_istore (i := 6) (L1 := [some (va_rf v0), some (.long v1), none, some (.int v3), some (.int v4), some (.int x1), some (.int x2), none]) rfl (Nat.le_of_ble_eq_true rfl) (Or.inr rfl) (by rw [ex2]; rfl) ?_
  exact w_41_6 d hd FU v0 v1 v3 v4 x1 x2 (none : Option (Int32)) h _ hb
/-- BitingDoors$Hanger.twinsOf(JII)I -/
def f_41 (v0 : Option Nat) (v1 : Int64) (v3 : Int32) (v4 : Int32) (h : Hp) : Option (Int32 × Hp) := b_41_0 v0 v1 v3 v4 h
theorem t_41 (d : Nat) (hd : 1 ≤ d) (v0 : Option Nat) (v1 : Int64) (v3 : Int32) (v4 : Int32) (h : Hp) (r : Int32 × Hp) (hb : f_41 v0 v1 v3 v4 h = some r) : Rn d 41 0 [some (va_rf v0), some (.long v1), none, some (.int v3), some (.int v4), none, none, none] [] h (some (.int r.1), r.2) := by
  unfold f_41 at hb
  exact u_41_0 d hd v0 v1 v3 v4 h r hb
def b_40_126 (R : Option Nat → Int32 → Int64 → Hp → Option (Int32 × Hp)) (v4 : Int32)  (h : Hp) : Option (Int32 × Hp) :=
  some (v4, h)
theorem u_40_126 (E : Nat) (hE : 1 ≤ E) (d : Nat) (hd : E + 1 ≤ d) (R : Option Nat → Int32 → Int64 → Hp → Option (Int32 × Hp)) (HR : ∀ (d : Nat) (a0 : Option Nat) (a1 : Int32) (a2 : Int64) (h : Hp) (r : Int32 × Hp), E ≤ d → R a0 a1 a2 h = some r → Rn d 40 0 [some (va_rf a0), some (.int a1), some (.long a2), none, none, none, none, none, none, none, none] [] h (some (.int r.1), r.2)) (v0 : Option Nat) (v1 : Int32) (v2 : Int64) (v4 : Int32) (v5 : Int32) (v6 : Int32) (v7 : Option (Int32)) (v8 : Option (Int64)) (v10 : Option (Int32))  (h : Hp) (r : Int32 × Hp) (hb : b_40_126 R v4  h = some r) : Rn d 40 126 [some (va_rf v0), some (.int v1), some (.long v2), none, some (.int v4), some (.int v5), some (.int v6), v7.map Value.int, v8.map Value.long, none, v10.map Value.int] [] h (some (.int r.1), r.2) := by
  unfold b_40_126 at hb
  refine rn_iload (i := 4) rfl rfl ?_
  obtain rfl := Option.some.inj hb
  exact rn_iret rfl rfl
def b_40_120 (R : Option Nat → Int32 → Int64 → Hp → Option (Int32 × Hp)) (k22 : Option Nat → Int32 → Int64 → Int32 → Int32 → Int32 → Hp → Option (Int32 × Hp)) (v0 : Option Nat) (v1 : Int32) (v2 : Int64) (v4 : Int32) (v5 : Int32) (v6 : Int32)  (h : Hp) : Option (Int32 × Hp) :=
  bnd (v6 + (nI 1)) fun x1 =>
  k22 v0 v1 v2 v4 v5 x1 h
theorem u_40_120 (E : Nat) (hE : 1 ≤ E) (d : Nat) (hd : E + 1 ≤ d) (R : Option Nat → Int32 → Int64 → Hp → Option (Int32 × Hp)) (HR : ∀ (d : Nat) (a0 : Option Nat) (a1 : Int32) (a2 : Int64) (h : Hp) (r : Int32 × Hp), E ≤ d → R a0 a1 a2 h = some r → Rn d 40 0 [some (va_rf a0), some (.int a1), some (.long a2), none, none, none, none, none, none, none, none] [] h (some (.int r.1), r.2)) (k22 : Option Nat → Int32 → Int64 → Int32 → Int32 → Int32 → Hp → Option (Int32 × Hp)) (K22 : ∀ (v0 : Option Nat) (v1 : Int32) (v2 : Int64) (v4 : Int32) (v5 : Int32) (v6 : Int32) (v7 : Option (Int32)) (v8 : Option (Int64)) (v10 : Option (Int32)) (h : Hp) (r : Int32 × Hp), k22 v0 v1 v2 v4 v5 v6 h = some r → Rn d 40 22 [some (va_rf v0), some (.int v1), some (.long v2), none, some (.int v4), some (.int v5), some (.int v6), v7.map Value.int, v8.map Value.long, none, v10.map Value.int] [] h (some (.int r.1), r.2)) (v0 : Option Nat) (v1 : Int32) (v2 : Int64) (v4 : Int32) (v5 : Int32) (v6 : Int32) (v7 : Option (Int32)) (v8 : Option (Int64)) (v10 : Option (Int32))  (h : Hp) (r : Int32 × Hp) (hb : b_40_120 R k22 v0 v1 v2 v4 v5 v6  h = some r) : Rn d 40 120 [some (va_rf v0), some (.int v1), some (.long v2), none, some (.int v4), some (.int v5), some (.int v6), v7.map Value.int, v8.map Value.long, none, v10.map Value.int] [] h (some (.int r.1), r.2) := by
  unfold b_40_120 at hb
  obtain ⟨x1, ex1, hb⟩ := bnd_spec hb
  refine rn_iinc (i := 6) (y := x1) (L1 := [some (va_rf v0), some (.int v1), some (.long v2), none, some (.int v4), some (.int v5), some (.int x1), v7.map Value.int, v8.map Value.long, none, v10.map Value.int]) rfl rfl (Nat.le_of_ble_eq_true rfl) (Or.inr rfl) (by rw [ex1]; rfl) rfl ?_
  refine rn_goto rfl rfl ?_
  exact K22 v0 v1 v2 v4 v5 x1 v7 v8 v10 h _ hb
def b_40_105 (R : Option Nat → Int32 → Int64 → Hp → Option (Int32 × Hp)) (k22 : Option Nat → Int32 → Int64 → Int32 → Int32 → Int32 → Hp → Option (Int32 × Hp)) (v0 : Option Nat) (v1 : Int32) (v2 : Int64) (v4 : Int32) (v5 : Int32) (v6 : Int32) (v7 : Int32) (s0 : Int32) (h : Hp) : Option (Int32 × Hp) :=
  (f_302 v7 h).bind fun p1 =>
  bnd ((v4 + (p1.1 * s0))) fun x2 =>
  b_40_120 R k22 v0 v1 v2 x2 v5 v6  p1.2
theorem u_40_105 (E : Nat) (hE : 1 ≤ E) (d : Nat) (hd : E + 1 ≤ d) (R : Option Nat → Int32 → Int64 → Hp → Option (Int32 × Hp)) (HR : ∀ (d : Nat) (a0 : Option Nat) (a1 : Int32) (a2 : Int64) (h : Hp) (r : Int32 × Hp), E ≤ d → R a0 a1 a2 h = some r → Rn d 40 0 [some (va_rf a0), some (.int a1), some (.long a2), none, none, none, none, none, none, none, none] [] h (some (.int r.1), r.2)) (k22 : Option Nat → Int32 → Int64 → Int32 → Int32 → Int32 → Hp → Option (Int32 × Hp)) (K22 : ∀ (v0 : Option Nat) (v1 : Int32) (v2 : Int64) (v4 : Int32) (v5 : Int32) (v6 : Int32) (v7 : Option (Int32)) (v8 : Option (Int64)) (v10 : Option (Int32)) (h : Hp) (r : Int32 × Hp), k22 v0 v1 v2 v4 v5 v6 h = some r → Rn d 40 22 [some (va_rf v0), some (.int v1), some (.long v2), none, some (.int v4), some (.int v5), some (.int v6), v7.map Value.int, v8.map Value.long, none, v10.map Value.int] [] h (some (.int r.1), r.2)) (v0 : Option Nat) (v1 : Int32) (v2 : Int64) (v4 : Int32) (v5 : Int32) (v6 : Int32) (v7 : Int32) (v8 : Int64) (v10 : Option (Int32)) (s0 : Int32) (h : Hp) (r : Int32 × Hp) (hb : b_40_105 R k22 v0 v1 v2 v4 v5 v6 v7 s0 h = some r) : Rn d 40 105 [some (va_rf v0), some (.int v1), some (.long v2), none, some (.int v4), some (.int v5), some (.int v6), some (.int v7), some (.long v8), none, v10.map Value.int] [.int s0] h (some (.int r.1), r.2) := by
  unfold b_40_105 at hb
  obtain ⟨e, rfl⟩ : ∃ e, d = e + 1 := ⟨d - 1, by omega⟩
  refine rn_istore (i := 10) (L1 := [some (va_rf v0), some (.int v1), some (.long v2), none, some (.int v4), some (.int v5), some (.int v6), some (.int v7), some (.long v8), none, some (.int s0)]) rfl (Nat.le_of_ble_eq_true rfl) (Or.inr rfl) rfl ?_
  refine rn_iload (i := 4) rfl rfl ?_
  refine rn_iload (i := 7) rfl rfl ?_
  obtain ⟨p1, hc, hb⟩ := Option.bind_eq_some_iff.mp hb
  refine Rn.call1 (d := e) (As := [.int v7]) (rest := [.int v4]) rfl rfl rfl (by decide) rfl rfl rfl rfl (by rw [bd_cI (bd_cN)]; decide) (bd_lenC (n := 1) rfl (bd_slI bd_slN) rfl) (bd_locC (n := 1) rfl (bd_slI bd_slN) rfl (t_302 e (by omega) v7 h _ hc)) ?_
  refine rn_iload (i := 10) rfl rfl ?_
  refine rn_imul rfl ?_
  refine rn_iadd rfl ?_
  obtain ⟨x2, ex2, hb⟩ := bnd_spec hb
  refine rn_istore (i := 4) (L1 := [some (va_rf v0), some (.int v1), some (.long v2), none, some (.int x2), some (.int v5), some (.int v6), some (.int v7), some (.long v8), none, some (.int s0)]) rfl (Nat.le_of_ble_eq_true rfl) (Or.inr rfl) (by rw [ex2]; rfl) ?_
  exact u_40_120 E hE (e + 1) hd R HR k22 K22 v0 v1 v2 x2 v5 v6 (some v7) (some v8) (some s0)  p1.2 _ hb
def b_40_104 (R : Option Nat → Int32 → Int64 → Hp → Option (Int32 × Hp)) (k22 : Option Nat → Int32 → Int64 → Int32 → Int32 → Int32 → Hp → Option (Int32 × Hp)) (v0 : Option Nat) (v1 : Int32) (v2 : Int64) (v4 : Int32) (v5 : Int32) (v6 : Int32) (v7 : Int32)  (h : Hp) : Option (Int32 × Hp) :=
  b_40_105 R k22 v0 v1 v2 v4 v5 v6 v7 (nI 0) h
theorem u_40_104 (E : Nat) (hE : 1 ≤ E) (d : Nat) (hd : E + 1 ≤ d) (R : Option Nat → Int32 → Int64 → Hp → Option (Int32 × Hp)) (HR : ∀ (d : Nat) (a0 : Option Nat) (a1 : Int32) (a2 : Int64) (h : Hp) (r : Int32 × Hp), E ≤ d → R a0 a1 a2 h = some r → Rn d 40 0 [some (va_rf a0), some (.int a1), some (.long a2), none, none, none, none, none, none, none, none] [] h (some (.int r.1), r.2)) (k22 : Option Nat → Int32 → Int64 → Int32 → Int32 → Int32 → Hp → Option (Int32 × Hp)) (K22 : ∀ (v0 : Option Nat) (v1 : Int32) (v2 : Int64) (v4 : Int32) (v5 : Int32) (v6 : Int32) (v7 : Option (Int32)) (v8 : Option (Int64)) (v10 : Option (Int32)) (h : Hp) (r : Int32 × Hp), k22 v0 v1 v2 v4 v5 v6 h = some r → Rn d 40 22 [some (va_rf v0), some (.int v1), some (.long v2), none, some (.int v4), some (.int v5), some (.int v6), v7.map Value.int, v8.map Value.long, none, v10.map Value.int] [] h (some (.int r.1), r.2)) (v0 : Option Nat) (v1 : Int32) (v2 : Int64) (v4 : Int32) (v5 : Int32) (v6 : Int32) (v7 : Int32) (v8 : Int64) (v10 : Option (Int32))  (h : Hp) (r : Int32 × Hp) (hb : b_40_104 R k22 v0 v1 v2 v4 v5 v6 v7  h = some r) : Rn d 40 104 [some (va_rf v0), some (.int v1), some (.long v2), none, some (.int v4), some (.int v5), some (.int v6), some (.int v7), some (.long v8), none, v10.map Value.int] [] h (some (.int r.1), r.2) := by
  unfold b_40_104 at hb
  refine rn_iconst (x := (nI 0)) rfl (by decide) ?_
  exact u_40_105 E hE d hd R HR k22 K22 v0 v1 v2 v4 v5 v6 v7 v8 v10 (nI 0) h _ hb
def b_40_92 (R : Option Nat → Int32 → Int64 → Hp → Option (Int32 × Hp)) (k22 : Option Nat → Int32 → Int64 → Int32 → Int32 → Int32 → Hp → Option (Int32 × Hp)) (v0 : Option Nat) (v1 : Int32) (v2 : Int64) (v4 : Int32) (v5 : Int32) (v6 : Int32) (v7 : Int32) (v8 : Int64)  (h : Hp) : Option (Int32 × Hp) :=
  (grd (rC 3 v0 h)).bind fun _ =>
  (R v0 (v1 + (nI 1)) v8 h).bind fun p1 =>
  b_40_105 R k22 v0 v1 v2 v4 v5 v6 v7 p1.1 p1.2
theorem u_40_92 (E : Nat) (hE : 1 ≤ E) (d : Nat) (hd : E + 1 ≤ d) (R : Option Nat → Int32 → Int64 → Hp → Option (Int32 × Hp)) (HR : ∀ (d : Nat) (a0 : Option Nat) (a1 : Int32) (a2 : Int64) (h : Hp) (r : Int32 × Hp), E ≤ d → R a0 a1 a2 h = some r → Rn d 40 0 [some (va_rf a0), some (.int a1), some (.long a2), none, none, none, none, none, none, none, none] [] h (some (.int r.1), r.2)) (k22 : Option Nat → Int32 → Int64 → Int32 → Int32 → Int32 → Hp → Option (Int32 × Hp)) (K22 : ∀ (v0 : Option Nat) (v1 : Int32) (v2 : Int64) (v4 : Int32) (v5 : Int32) (v6 : Int32) (v7 : Option (Int32)) (v8 : Option (Int64)) (v10 : Option (Int32)) (h : Hp) (r : Int32 × Hp), k22 v0 v1 v2 v4 v5 v6 h = some r → Rn d 40 22 [some (va_rf v0), some (.int v1), some (.long v2), none, some (.int v4), some (.int v5), some (.int v6), v7.map Value.int, v8.map Value.long, none, v10.map Value.int] [] h (some (.int r.1), r.2)) (v0 : Option Nat) (v1 : Int32) (v2 : Int64) (v4 : Int32) (v5 : Int32) (v6 : Int32) (v7 : Int32) (v8 : Int64) (v10 : Option (Int32))  (h : Hp) (r : Int32 × Hp) (hb : b_40_92 R k22 v0 v1 v2 v4 v5 v6 v7 v8  h = some r) : Rn d 40 92 [some (va_rf v0), some (.int v1), some (.long v2), none, some (.int v4), some (.int v5), some (.int v6), some (.int v7), some (.long v8), none, v10.map Value.int] [] h (some (.int r.1), r.2) := by
  unfold b_40_92 at hb
  obtain ⟨e, rfl⟩ : ∃ e, d = e + 1 := ⟨d - 1, by omega⟩
  refine rn_aload_n (i := 0) rfl rfl ?_
  refine rn_iload_n (i := 1) rfl rfl ?_
  refine rn_iconst (x := (nI 1)) rfl (by decide) ?_
  refine rn_iadd rfl ?_
  refine rn_lload (i := 8) rfl rfl ?_
  obtain ⟨hrc, hb⟩ := grd_spec hb
  obtain ⟨p1, hc, hb⟩ := Option.bind_eq_some_iff.mp hb
  refine Rn.call1 (d := e) (As := [va_rf v0, .int (v1 + (nI 1)), .long v8]) (rest := []) rfl rfl rfl (by decide) rfl rfl rfl (bd_rcV hrc rfl) (by decide) (bd_lenC (n := 11) rfl (bd_slR (bd_slI (bd_slJ bd_slN))) rfl) (bd_locC (n := 11) rfl (bd_slR (bd_slI (bd_slJ bd_slN))) rfl (HR e v0 (v1 + (nI 1)) v8 h _ (by omega) hc)) ?_
  refine rn_goto rfl rfl ?_
  exact u_40_105 E hE (e + 1) hd R HR k22 K22 v0 v1 v2 v4 v5 v6 v7 v8 v10 p1.1 p1.2 _ hb
def b_40_48 (R : Option Nat → Int32 → Int64 → Hp → Option (Int32 × Hp)) (k22 : Option Nat → Int32 → Int64 → Int32 → Int32 → Int32 → Hp → Option (Int32 × Hp)) (v0 : Option Nat) (v1 : Int32) (v2 : Int64) (v4 : Int32) (v5 : Int32) (v6 : Int32)  (h : Hp) : Option (Int32 × Hp) :=
  (grd (rC 3 v0 h)).bind fun _ =>
  (f_41 v0 v2 v1 v6 h).bind fun p1 =>
  bnd (p1.1) fun x2 =>
  bnd ((v5 ||| x2)) fun x3 =>
  (gQ 3 0 v0 p1.2).bind fun x4 =>
  (aJ x4 (((nI 4) * v1) + v6) p1.2).bind fun x5 =>
  bnd ((v2 &&& x5)) fun x6 =>
  (grd (rC 3 v0 p1.2)).bind fun _ =>
  (f_32 v0 x6 (v1 + (nI 1)) p1.2).bind fun p7 =>
  if p7.1 = 0 then b_40_104 R k22 v0 v1 v2 v4 x3 v6 x2  p7.2 else b_40_92 R k22 v0 v1 v2 v4 x3 v6 x2 x6  p7.2
theorem u_40_48 (E : Nat) (hE : 1 ≤ E) (d : Nat) (hd : E + 1 ≤ d) (R : Option Nat → Int32 → Int64 → Hp → Option (Int32 × Hp)) (HR : ∀ (d : Nat) (a0 : Option Nat) (a1 : Int32) (a2 : Int64) (h : Hp) (r : Int32 × Hp), E ≤ d → R a0 a1 a2 h = some r → Rn d 40 0 [some (va_rf a0), some (.int a1), some (.long a2), none, none, none, none, none, none, none, none] [] h (some (.int r.1), r.2)) (k22 : Option Nat → Int32 → Int64 → Int32 → Int32 → Int32 → Hp → Option (Int32 × Hp)) (K22 : ∀ (v0 : Option Nat) (v1 : Int32) (v2 : Int64) (v4 : Int32) (v5 : Int32) (v6 : Int32) (v7 : Option (Int32)) (v8 : Option (Int64)) (v10 : Option (Int32)) (h : Hp) (r : Int32 × Hp), k22 v0 v1 v2 v4 v5 v6 h = some r → Rn d 40 22 [some (va_rf v0), some (.int v1), some (.long v2), none, some (.int v4), some (.int v5), some (.int v6), v7.map Value.int, v8.map Value.long, none, v10.map Value.int] [] h (some (.int r.1), r.2)) (v0 : Option Nat) (v1 : Int32) (v2 : Int64) (v4 : Int32) (v5 : Int32) (v6 : Int32) (v7 : Option (Int32)) (v8 : Option (Int64)) (v10 : Option (Int32))  (h : Hp) (r : Int32 × Hp) (hb : b_40_48 R k22 v0 v1 v2 v4 v5 v6  h = some r) : Rn d 40 48 [some (va_rf v0), some (.int v1), some (.long v2), none, some (.int v4), some (.int v5), some (.int v6), v7.map Value.int, v8.map Value.long, none, v10.map Value.int] [] h (some (.int r.1), r.2) := by
  unfold b_40_48 at hb
  obtain ⟨e, rfl⟩ : ∃ e, d = e + 1 := ⟨d - 1, by omega⟩
  refine rn_aload_n (i := 0) rfl rfl ?_
  refine rn_lload_n (i := 2) rfl rfl ?_
  refine rn_iload_n (i := 1) rfl rfl ?_
  refine rn_iload (i := 6) rfl rfl ?_
  obtain ⟨hrc, hb⟩ := grd_spec hb
  obtain ⟨p1, hc, hb⟩ := Option.bind_eq_some_iff.mp hb
  refine Rn.call1 (d := e) (As := [va_rf v0, .long v2, .int v1, .int v6]) (rest := []) rfl rfl rfl (by decide) rfl rfl rfl (bd_rcV hrc rfl) (by decide) (bd_lenC (n := 8) rfl (bd_slR (bd_slJ (bd_slI (bd_slI bd_slN)))) rfl) (bd_locC (n := 8) rfl (bd_slR (bd_slJ (bd_slI (bd_slI bd_slN)))) rfl (t_41 e (by omega) v0 v2 v1 v6 h _ hc)) ?_
  obtain ⟨x2, ex2, hb⟩ := bnd_spec hb
  refine rn_istore (i := 7) (L1 := [some (va_rf v0), some (.int v1), some (.long v2), none, some (.int v4), some (.int v5), some (.int v6), some (.int x2), v8.map Value.long, none, v10.map Value.int]) rfl (Nat.le_of_ble_eq_true rfl) (Or.inr rfl) (by rw [ex2]; rfl) ?_
  refine rn_iload (i := 5) rfl rfl ?_
  refine rn_iload (i := 7) rfl rfl ?_
  refine rn_ior rfl ?_
  obtain ⟨x3, ex3, hb⟩ := bnd_spec hb
  refine rn_istore (i := 5) (L1 := [some (va_rf v0), some (.int v1), some (.long v2), none, some (.int v4), some (.int x3), some (.int v6), some (.int x2), v8.map Value.long, none, v10.map Value.int]) rfl (Nat.le_of_ble_eq_true rfl) (Or.inr rfl) (by rw [ex3]; rfl) ?_
  refine rn_lload_n (i := 2) rfl rfl ?_
  refine rn_aload_n (i := 0) rfl rfl ?_
  refine rn_gQ (c := 3) (k := 0) rfl (by decide) hb (fun x4 hb => ?_)
  refine rn_iconst (x := (nI 4)) rfl (by decide) ?_
  refine rn_iload_n (i := 1) rfl rfl ?_
  refine rn_imul rfl ?_
  refine rn_iload (i := 6) rfl rfl ?_
  refine rn_iadd rfl ?_
  refine rn_aJ rfl hb (fun x5 hb => ?_)
  refine rn_land rfl ?_
  obtain ⟨x6, ex6, hb⟩ := bnd_spec hb
  refine rn_lstore (i := 8) (L1 := [some (va_rf v0), some (.int v1), some (.long v2), none, some (.int v4), some (.int x3), some (.int v6), some (.int x2), some (.long x6), none, v10.map Value.int]) rfl (Nat.le_of_ble_eq_true rfl) (Or.inr rfl) (by rw [ex6]; rfl) ?_
  refine rn_aload_n (i := 0) rfl rfl ?_
  refine rn_lload (i := 8) rfl rfl ?_
  refine rn_iload_n (i := 1) rfl rfl ?_
  refine rn_iconst (x := (nI 1)) rfl (by decide) ?_
  refine rn_iadd rfl ?_
  obtain ⟨hrc, hb⟩ := grd_spec hb
  obtain ⟨p7, hc, hb⟩ := Option.bind_eq_some_iff.mp hb
  refine Rn.call1 (d := e) (As := [va_rf v0, .long x6, .int (v1 + (nI 1))]) (rest := []) rfl rfl rfl (by decide) rfl rfl rfl (bd_rcV hrc rfl) (by decide) (bd_lenC (n := 5) rfl (bd_slR (bd_slJ (bd_slI bd_slN))) rfl) (bd_locC (n := 5) rfl (bd_slR (bd_slJ (bd_slI bd_slN))) rfl (t_32 e (by omega) v0 x6 (v1 + (nI 1)) p1.2 _ hc)) ?_
  refine rn_if_eq rfl rfl (fun hc => ?_) (fun hc => ?_)
  · exact u_40_104 E hE (e + 1) hd R HR k22 K22 v0 v1 v2 v4 x3 v6 x2 x6 v10  p7.2 _ (if_t hb hc)
  · exact u_40_92 E hE (e + 1) hd R HR k22 K22 v0 v1 v2 v4 x3 v6 x2 x6 v10  p7.2 _ (if_f hb hc)
def b_40_38 (R : Option Nat → Int32 → Int64 → Hp → Option (Int32 × Hp)) (k22 : Option Nat → Int32 → Int64 → Int32 → Int32 → Int32 → Hp → Option (Int32 × Hp)) (v0 : Option Nat) (v1 : Int32) (v2 : Int64) (v4 : Int32) (v5 : Int32) (v6 : Int32)  (h : Hp) : Option (Int32 × Hp) :=
  if ¬ ((v5 >>> (v6 &&& 31)) &&& (nI 1)) = 0 then b_40_120 R k22 v0 v1 v2 v4 v5 v6  h else b_40_48 R k22 v0 v1 v2 v4 v5 v6  h
theorem u_40_38 (E : Nat) (hE : 1 ≤ E) (d : Nat) (hd : E + 1 ≤ d) (R : Option Nat → Int32 → Int64 → Hp → Option (Int32 × Hp)) (HR : ∀ (d : Nat) (a0 : Option Nat) (a1 : Int32) (a2 : Int64) (h : Hp) (r : Int32 × Hp), E ≤ d → R a0 a1 a2 h = some r → Rn d 40 0 [some (va_rf a0), some (.int a1), some (.long a2), none, none, none, none, none, none, none, none] [] h (some (.int r.1), r.2)) (k22 : Option Nat → Int32 → Int64 → Int32 → Int32 → Int32 → Hp → Option (Int32 × Hp)) (K22 : ∀ (v0 : Option Nat) (v1 : Int32) (v2 : Int64) (v4 : Int32) (v5 : Int32) (v6 : Int32) (v7 : Option (Int32)) (v8 : Option (Int64)) (v10 : Option (Int32)) (h : Hp) (r : Int32 × Hp), k22 v0 v1 v2 v4 v5 v6 h = some r → Rn d 40 22 [some (va_rf v0), some (.int v1), some (.long v2), none, some (.int v4), some (.int v5), some (.int v6), v7.map Value.int, v8.map Value.long, none, v10.map Value.int] [] h (some (.int r.1), r.2)) (v0 : Option Nat) (v1 : Int32) (v2 : Int64) (v4 : Int32) (v5 : Int32) (v6 : Int32) (v7 : Option (Int32)) (v8 : Option (Int64)) (v10 : Option (Int32))  (h : Hp) (r : Int32 × Hp) (hb : b_40_38 R k22 v0 v1 v2 v4 v5 v6  h = some r) : Rn d 40 38 [some (va_rf v0), some (.int v1), some (.long v2), none, some (.int v4), some (.int v5), some (.int v6), v7.map Value.int, v8.map Value.long, none, v10.map Value.int] [] h (some (.int r.1), r.2) := by
  unfold b_40_38 at hb
  refine rn_iload (i := 5) rfl rfl ?_
  refine rn_iload (i := 6) rfl rfl ?_
  refine rn_ishr rfl ?_
  refine rn_iconst (x := (nI 1)) rfl (by decide) ?_
  refine rn_iand rfl ?_
  refine rn_if_ne rfl rfl (fun hc => ?_) (fun hc => ?_)
  · exact u_40_120 E hE d hd R HR k22 K22 v0 v1 v2 v4 v5 v6 v7 v8 v10  h _ (if_t hb hc)
  · exact u_40_48 E hE d hd R HR k22 K22 v0 v1 v2 v4 v5 v6 v7 v8 v10  h _ (if_f hb hc)
def b_40_28 (R : Option Nat → Int32 → Int64 → Hp → Option (Int32 × Hp)) (k22 : Option Nat → Int32 → Int64 → Int32 → Int32 → Int32 → Hp → Option (Int32 × Hp)) (v0 : Option Nat) (v1 : Int32) (v2 : Int64) (v4 : Int32) (v5 : Int32) (v6 : Int32)  (h : Hp) : Option (Int32 × Hp) :=
  (f_31 v2 v1 v6 h).bind fun p1 =>
  if p1.1 = 0 then b_40_120 R k22 v0 v1 v2 v4 v5 v6  p1.2 else b_40_38 R k22 v0 v1 v2 v4 v5 v6  p1.2
theorem u_40_28 (E : Nat) (hE : 1 ≤ E) (d : Nat) (hd : E + 1 ≤ d) (R : Option Nat → Int32 → Int64 → Hp → Option (Int32 × Hp)) (HR : ∀ (d : Nat) (a0 : Option Nat) (a1 : Int32) (a2 : Int64) (h : Hp) (r : Int32 × Hp), E ≤ d → R a0 a1 a2 h = some r → Rn d 40 0 [some (va_rf a0), some (.int a1), some (.long a2), none, none, none, none, none, none, none, none] [] h (some (.int r.1), r.2)) (k22 : Option Nat → Int32 → Int64 → Int32 → Int32 → Int32 → Hp → Option (Int32 × Hp)) (K22 : ∀ (v0 : Option Nat) (v1 : Int32) (v2 : Int64) (v4 : Int32) (v5 : Int32) (v6 : Int32) (v7 : Option (Int32)) (v8 : Option (Int64)) (v10 : Option (Int32)) (h : Hp) (r : Int32 × Hp), k22 v0 v1 v2 v4 v5 v6 h = some r → Rn d 40 22 [some (va_rf v0), some (.int v1), some (.long v2), none, some (.int v4), some (.int v5), some (.int v6), v7.map Value.int, v8.map Value.long, none, v10.map Value.int] [] h (some (.int r.1), r.2)) (v0 : Option Nat) (v1 : Int32) (v2 : Int64) (v4 : Int32) (v5 : Int32) (v6 : Int32) (v7 : Option (Int32)) (v8 : Option (Int64)) (v10 : Option (Int32))  (h : Hp) (r : Int32 × Hp) (hb : b_40_28 R k22 v0 v1 v2 v4 v5 v6  h = some r) : Rn d 40 28 [some (va_rf v0), some (.int v1), some (.long v2), none, some (.int v4), some (.int v5), some (.int v6), v7.map Value.int, v8.map Value.long, none, v10.map Value.int] [] h (some (.int r.1), r.2) := by
  unfold b_40_28 at hb
  obtain ⟨e, rfl⟩ : ∃ e, d = e + 1 := ⟨d - 1, by omega⟩
  refine rn_lload_n (i := 2) rfl rfl ?_
  refine rn_iload_n (i := 1) rfl rfl ?_
  refine rn_iload (i := 6) rfl rfl ?_
  obtain ⟨p1, hc, hb⟩ := Option.bind_eq_some_iff.mp hb
  refine Rn.call1 (d := e) (As := [.long v2, .int v1, .int v6]) (rest := []) rfl rfl rfl (by decide) rfl rfl rfl rfl (by decide) (bd_lenC (n := 4) rfl (bd_slJ (bd_slI (bd_slI bd_slN))) rfl) (bd_locC (n := 4) rfl (bd_slJ (bd_slI (bd_slI bd_slN))) rfl (t_31 e (by omega) v2 v1 v6 h _ hc)) ?_
  refine rn_if_eq rfl rfl (fun hc => ?_) (fun hc => ?_)
  · exact u_40_120 E hE (e + 1) hd R HR k22 K22 v0 v1 v2 v4 v5 v6 v7 v8 v10  p1.2 _ (if_t hb hc)
  · exact u_40_38 E hE (e + 1) hd R HR k22 K22 v0 v1 v2 v4 v5 v6 v7 v8 v10  p1.2 _ (if_f hb hc)
def b_40_22 (R : Option Nat → Int32 → Int64 → Hp → Option (Int32 × Hp)) (k22 : Option Nat → Int32 → Int64 → Int32 → Int32 → Int32 → Hp → Option (Int32 × Hp)) (v0 : Option Nat) (v1 : Int32) (v2 : Int64) (v4 : Int32) (v5 : Int32) (v6 : Int32)  (h : Hp) : Option (Int32 × Hp) :=
  if (nI 4) ≤ v6 then b_40_126 R v4  h else b_40_28 R k22 v0 v1 v2 v4 v5 v6  h
theorem u_40_22 (E : Nat) (hE : 1 ≤ E) (d : Nat) (hd : E + 1 ≤ d) (R : Option Nat → Int32 → Int64 → Hp → Option (Int32 × Hp)) (HR : ∀ (d : Nat) (a0 : Option Nat) (a1 : Int32) (a2 : Int64) (h : Hp) (r : Int32 × Hp), E ≤ d → R a0 a1 a2 h = some r → Rn d 40 0 [some (va_rf a0), some (.int a1), some (.long a2), none, none, none, none, none, none, none, none] [] h (some (.int r.1), r.2)) (k22 : Option Nat → Int32 → Int64 → Int32 → Int32 → Int32 → Hp → Option (Int32 × Hp)) (K22 : ∀ (v0 : Option Nat) (v1 : Int32) (v2 : Int64) (v4 : Int32) (v5 : Int32) (v6 : Int32) (v7 : Option (Int32)) (v8 : Option (Int64)) (v10 : Option (Int32)) (h : Hp) (r : Int32 × Hp), k22 v0 v1 v2 v4 v5 v6 h = some r → Rn d 40 22 [some (va_rf v0), some (.int v1), some (.long v2), none, some (.int v4), some (.int v5), some (.int v6), v7.map Value.int, v8.map Value.long, none, v10.map Value.int] [] h (some (.int r.1), r.2)) (v0 : Option Nat) (v1 : Int32) (v2 : Int64) (v4 : Int32) (v5 : Int32) (v6 : Int32) (v7 : Option (Int32)) (v8 : Option (Int64)) (v10 : Option (Int32))  (h : Hp) (r : Int32 × Hp) (hb : b_40_22 R k22 v0 v1 v2 v4 v5 v6  h = some r) : Rn d 40 22 [some (va_rf v0), some (.int v1), some (.long v2), none, some (.int v4), some (.int v5), some (.int v6), v7.map Value.int, v8.map Value.long, none, v10.map Value.int] [] h (some (.int r.1), r.2) := by
  unfold b_40_22 at hb
  refine rn_iload (i := 6) rfl rfl ?_
  refine rn_iconst (x := (nI 4)) rfl (by decide) ?_
  refine rn_icmp_ge rfl rfl (fun hc => ?_) (fun hc => ?_)
  · exact u_40_126 E hE d hd R HR v0 v1 v2 v4 v5 v6 v7 v8 v10  h _ (if_t hb hc)
  · exact u_40_28 E hE d hd R HR k22 K22 v0 v1 v2 v4 v5 v6 v7 v8 v10  h _ (if_f hb hc)
def l_40_22 (R : Option Nat → Int32 → Int64 → Hp → Option (Int32 × Hp)) : Nat → Option Nat → Int32 → Int64 → Int32 → Int32 → Int32 → Hp → Option (Int32 × Hp)
  | 0, _, _, _, _, _, _, _ => none
  | n + 1, v0, v1, v2, v4, v5, v6, h => b_40_22 R (l_40_22 R n) v0 v1 v2 v4 v5 v6 h
theorem w_40_22 (E : Nat) (hE : 1 ≤ E) (d : Nat) (hd : E + 1 ≤ d) (R : Option Nat → Int32 → Int64 → Hp → Option (Int32 × Hp)) (HR : ∀ (d : Nat) (a0 : Option Nat) (a1 : Int32) (a2 : Int64) (h : Hp) (r : Int32 × Hp), E ≤ d → R a0 a1 a2 h = some r → Rn d 40 0 [some (va_rf a0), some (.int a1), some (.long a2), none, none, none, none, none, none, none, none] [] h (some (.int r.1), r.2)) : ∀ (n : Nat) (v0 : Option Nat) (v1 : Int32) (v2 : Int64) (v4 : Int32) (v5 : Int32) (v6 : Int32) (v7 : Option (Int32)) (v8 : Option (Int64)) (v10 : Option (Int32)) (h : Hp) (r : Int32 × Hp), l_40_22 R n v0 v1 v2 v4 v5 v6 h = some r → Rn d 40 22 [some (va_rf v0), some (.int v1), some (.long v2), none, some (.int v4), some (.int v5), some (.int v6), v7.map Value.int, v8.map Value.long, none, v10.map Value.int] [] h (some (.int r.1), r.2) := by
  intro n
  induction n with
  | zero => intro v0 v1 v2 v4 v5 v6 v7 v8 v10 h r hb; cases hb
  | succ n ih => intro v0 v1 v2 v4 v5 v6 v7 v8 v10 h r hb; exact u_40_22 E hE d hd R HR (l_40_22 R n) ih v0 v1 v2 v4 v5 v6 v7 v8 v10 h r hb
def b_40_13 (R : Option Nat → Int32 → Int64 → Hp → Option (Int32 × Hp)) (v0 : Option Nat) (v1 : Int32) (v2 : Int64)  (h : Hp) : Option (Int32 × Hp) :=
  bnd ((nI 0)) fun x1 =>
  bnd ((nI 0)) fun x2 =>
  bnd ((nI 0)) fun x3 =>
  l_40_22 R FU v0 v1 v2 x1 x2 x3 h
theorem u_40_13 (E : Nat) (hE : 1 ≤ E) (d : Nat) (hd : E + 1 ≤ d) (R : Option Nat → Int32 → Int64 → Hp → Option (Int32 × Hp)) (HR : ∀ (d : Nat) (a0 : Option Nat) (a1 : Int32) (a2 : Int64) (h : Hp) (r : Int32 × Hp), E ≤ d → R a0 a1 a2 h = some r → Rn d 40 0 [some (va_rf a0), some (.int a1), some (.long a2), none, none, none, none, none, none, none, none] [] h (some (.int r.1), r.2)) (v0 : Option Nat) (v1 : Int32) (v2 : Int64)  (h : Hp) (r : Int32 × Hp) (hb : b_40_13 R v0 v1 v2  h = some r) : Rn d 40 13 [some (va_rf v0), some (.int v1), some (.long v2), none, none, none, none, none, none, none, none] [] h (some (.int r.1), r.2) := by
  unfold b_40_13 at hb
  refine rn_iconst (x := (nI 0)) rfl (by decide) ?_
  obtain ⟨x1, ex1, hb⟩ := bnd_spec hb
  refine rn_istore (i := 4) (L1 := [some (va_rf v0), some (.int v1), some (.long v2), none, some (.int x1), none, none, none, none, none, none]) rfl (Nat.le_of_ble_eq_true rfl) (Or.inr rfl) (by rw [ex1]; rfl) ?_
  refine rn_iconst (x := (nI 0)) rfl (by decide) ?_
  obtain ⟨x2, ex2, hb⟩ := bnd_spec hb
  refine rn_istore (i := 5) (L1 := [some (va_rf v0), some (.int v1), some (.long v2), none, some (.int x1), some (.int x2), none, none, none, none, none]) rfl (Nat.le_of_ble_eq_true rfl) (Or.inr rfl) (by rw [ex2]; rfl) ?_
  refine rn_iconst (x := (nI 0)) rfl (by decide) ?_
  obtain ⟨x3, ex3, hb⟩ := bnd_spec hb
  refine rn_istore (i := 6) (L1 := [some (va_rf v0), some (.int v1), some (.long v2), none, some (.int x1), some (.int x2), some (.int x3), none, none, none, none]) rfl (Nat.le_of_ble_eq_true rfl) (Or.inr rfl) (by rw [ex3]; rfl) ?_
  exact w_40_22 E hE d hd R HR FU v0 v1 v2 x1 x2 x3 (none : Option (Int32)) (none : Option (Int64)) (none : Option (Int32)) h _ hb
def b_40_11 (R : Option Nat → Int32 → Int64 → Hp → Option (Int32 × Hp))   (h : Hp) : Option (Int32 × Hp) :=
  some ((nI 1), h)
theorem u_40_11 (E : Nat) (hE : 1 ≤ E) (d : Nat) (hd : E + 1 ≤ d) (R : Option Nat → Int32 → Int64 → Hp → Option (Int32 × Hp)) (HR : ∀ (d : Nat) (a0 : Option Nat) (a1 : Int32) (a2 : Int64) (h : Hp) (r : Int32 × Hp), E ≤ d → R a0 a1 a2 h = some r → Rn d 40 0 [some (va_rf a0), some (.int a1), some (.long a2), none, none, none, none, none, none, none, none] [] h (some (.int r.1), r.2)) (v0 : Option Nat) (v1 : Int32) (v2 : Int64)  (h : Hp) (r : Int32 × Hp) (hb : b_40_11 R   h = some r) : Rn d 40 11 [some (va_rf v0), some (.int v1), some (.long v2), none, none, none, none, none, none, none, none] [] h (some (.int r.1), r.2) := by
  unfold b_40_11 at hb
  refine rn_iconst (x := (nI 1)) rfl (by decide) ?_
  obtain rfl := Option.some.inj hb
  exact rn_iret rfl rfl
def b_40_0 (R : Option Nat → Int32 → Int64 → Hp → Option (Int32 × Hp)) (v0 : Option Nat) (v1 : Int32) (v2 : Int64)  (h : Hp) : Option (Int32 × Hp) :=
  (gQ 3 2 v0 h).bind fun x1 =>
  (gI 4 5 x1 h).bind fun x2 =>
  if v1 < x2 then b_40_13 R v0 v1 v2  h else b_40_11 R   h
theorem u_40_0 (E : Nat) (hE : 1 ≤ E) (d : Nat) (hd : E + 1 ≤ d) (R : Option Nat → Int32 → Int64 → Hp → Option (Int32 × Hp)) (HR : ∀ (d : Nat) (a0 : Option Nat) (a1 : Int32) (a2 : Int64) (h : Hp) (r : Int32 × Hp), E ≤ d → R a0 a1 a2 h = some r → Rn d 40 0 [some (va_rf a0), some (.int a1), some (.long a2), none, none, none, none, none, none, none, none] [] h (some (.int r.1), r.2)) (v0 : Option Nat) (v1 : Int32) (v2 : Int64)  (h : Hp) (r : Int32 × Hp) (hb : b_40_0 R v0 v1 v2  h = some r) : Rn d 40 0 [some (va_rf v0), some (.int v1), some (.long v2), none, none, none, none, none, none, none, none] [] h (some (.int r.1), r.2) := by
  unfold b_40_0 at hb
  refine rn_iload_n (i := 1) rfl rfl ?_
  refine rn_aload_n (i := 0) rfl rfl ?_
  refine rn_gQ (c := 3) (k := 2) rfl (by decide) hb (fun x1 hb => ?_)
  refine rn_gI (c := 4) (k := 5) rfl (by decide) hb (fun x2 hb => ?_)
  refine rn_icmp_lt rfl rfl (fun hc => ?_) (fun hc => ?_)
  · exact u_40_13 E hE d hd R HR v0 v1 v2  h _ (if_t hb hc)
  · exact u_40_11 E hE d hd R HR v0 v1 v2  h _ (if_f hb hc)
/-- BitingDoors$Hanger.waysFrom(IJ)I -/
def F_40 (R : Option Nat → Int32 → Int64 → Hp → Option (Int32 × Hp)) (v0 : Option Nat) (v1 : Int32) (v2 : Int64) (h : Hp) : Option (Int32 × Hp) := b_40_0 R v0 v1 v2 h
theorem t0_40 (E : Nat) (hE : 1 ≤ E) (d : Nat) (hd : E + 1 ≤ d) (R : Option Nat → Int32 → Int64 → Hp → Option (Int32 × Hp)) (HR : ∀ (d : Nat) (a0 : Option Nat) (a1 : Int32) (a2 : Int64) (h : Hp) (r : Int32 × Hp), E ≤ d → R a0 a1 a2 h = some r → Rn d 40 0 [some (va_rf a0), some (.int a1), some (.long a2), none, none, none, none, none, none, none, none] [] h (some (.int r.1), r.2)) (v0 : Option Nat) (v1 : Int32) (v2 : Int64) (h : Hp) (r : Int32 × Hp) (hb : F_40 R v0 v1 v2 h = some r) : Rn d 40 0 [some (va_rf v0), some (.int v1), some (.long v2), none, none, none, none, none, none, none, none] [] h (some (.int r.1), r.2) := by
  unfold F_40 at hb
  exact u_40_0 E hE d hd R HR v0 v1 v2 h r hb
def f_40 : Nat → Option Nat → Int32 → Int64 → Hp → Option (Int32 × Hp)
  | 0, _, _, _, _ => none
  | n + 1, v0, v1, v2, h => F_40 (f_40 n) v0 v1 v2 h
theorem t_40 : ∀ (n d : Nat), 1 * n + 1 ≤ d → ∀ (v0 : Option Nat) (v1 : Int32) (v2 : Int64) (h : Hp) (r : Int32 × Hp), f_40 n v0 v1 v2 h = some r → Rn d 40 0 [some (va_rf v0), some (.int v1), some (.long v2), none, none, none, none, none, none, none, none] [] h (some (.int r.1), r.2) := by
  intro n
  induction n with
  | zero => intro d hd v0 v1 v2 h r hb; cases hb
  | succ n ih => intro d hd v0 v1 v2 h r hb; exact t0_40 (1 * n + 1) (by omega) d (by omega) (f_40 n) (fun d v0 v1 v2 h r hd hb => ih d hd v0 v1 v2 h r hb) v0 v1 v2 h r hb
def b_39_0 (v0 : Option Nat)  (h : Hp) : Option (Int32 × Hp) :=
  (grd (rC 3 v0 h)).bind fun _ =>
  (f_29 v0 h).bind fun p1 =>
  (pI 3 14 v0 p1.1 p1.2).bind fun h2 =>
  (gJ 3 1 v0 h2).bind fun x3 =>
  (grd (rC 3 v0 h2)).bind fun _ =>
  (f_40 RF v0 (nI 0) x3 h2).bind fun p4 =>
  some (p4.1, p4.2)
theorem u_39_0 (d : Nat) (hd : 68 ≤ d) (v0 : Option Nat)  (h : Hp) (r : Int32 × Hp) (hb : b_39_0 v0  h = some r) : Rn d 39 0 [some (va_rf v0)] [] h (some (.int r.1), r.2) := by
  unfold b_39_0 at hb
  obtain ⟨e, rfl⟩ : ∃ e, d = e + 1 := ⟨d - 1, by omega⟩
  refine rn_aload_n (i := 0) rfl rfl ?_
  refine rn_aload_n (i := 0) rfl rfl ?_
  obtain ⟨hrc, hb⟩ := grd_spec hb
  obtain ⟨p1, hc, hb⟩ := Option.bind_eq_some_iff.mp hb
  refine Rn.call1 (d := e) (As := [va_rf v0]) (rest := [va_rf v0]) rfl rfl rfl (by decide) rfl rfl rfl (bd_rcV hrc rfl) (by rw [bd_cR (bd_cN)]; decide) (bd_lenC (n := 1) rfl (bd_slR bd_slN) rfl) (bd_locC (n := 1) rfl (bd_slR bd_slN) rfl (t_29 e (by omega) v0 h _ hc)) ?_
  refine rn_pI (c := 3) (k := 14) rfl (by decide) hb (fun h2 hb => ?_)
  refine rn_aload_n (i := 0) rfl rfl ?_
  refine rn_iconst (x := (nI 0)) rfl (by decide) ?_
  refine rn_aload_n (i := 0) rfl rfl ?_
  refine rn_gJ (c := 3) (k := 1) rfl (by decide) hb (fun x3 hb => ?_)
  obtain ⟨hrc, hb⟩ := grd_spec hb
  obtain ⟨p4, hc, hb⟩ := Option.bind_eq_some_iff.mp hb
  refine Rn.call1 (d := e) (As := [va_rf v0, .int (nI 0), .long x3]) (rest := []) rfl rfl rfl (by decide) rfl rfl rfl (bd_rcV hrc rfl) (by decide) (bd_lenC (n := 11) rfl (bd_slR (bd_slI (bd_slJ bd_slN))) rfl) (bd_locC (n := 11) rfl (bd_slR (bd_slI (bd_slJ bd_slN))) rfl (t_40 RF e (by show 1 * 64 + 1 ≤ _; omega) v0 (nI 0) x3 h2 _ hc)) ?_
  obtain rfl := Option.some.inj hb
  exact rn_iret rfl rfl
/-- BitingDoors$Hanger.countWays()I -/
def f_39 (v0 : Option Nat) (h : Hp) : Option (Int32 × Hp) := b_39_0 v0 h
theorem t_39 (d : Nat) (hd : 68 ≤ d) (v0 : Option Nat) (h : Hp) (r : Int32 × Hp) (hb : f_39 v0 h = some r) : Rn d 39 0 [some (va_rf v0)] [] h (some (.int r.1), r.2) := by
  unfold f_39 at hb
  exact u_39_0 d hd v0 h r hb
def b_306_20   (h : Hp) : Option (Hp) :=
  some h
theorem u_306_20 (d : Nat) (hd : 0 ≤ d) (v0 : Option Nat) (v1 : Int32) (v2 : Int32) (v3 : Int32)  (h : Hp) (r : Hp) (hb : b_306_20   h = some r) : Rn d 306 20 [some (va_rf v0), some (.int v1), some (.int v2), some (.int v3)] [] h (none, r) := by
  unfold b_306_20 at hb
  obtain rfl := Option.some.inj hb
  exact rn_vret rfl rfl
def b_306_10 (k5 : Option Nat → Int32 → Int32 → Int32 → Hp → Option (Hp)) (v0 : Option Nat) (v1 : Int32) (v2 : Int32) (v3 : Int32)  (h : Hp) : Option (Hp) :=
  (wI v0 v2 v1 h).bind fun h1 =>
  bnd (v2 + (nI 1)) fun x2 =>
  k5 v0 v1 x2 v3 h1
theorem u_306_10 (d : Nat) (hd : 0 ≤ d) (k5 : Option Nat → Int32 → Int32 → Int32 → Hp → Option (Hp)) (K5 : ∀ (v0 : Option Nat) (v1 : Int32) (v2 : Int32) (v3 : Int32) (h : Hp) (r : Hp), k5 v0 v1 v2 v3 h = some r → Rn d 306 5 [some (va_rf v0), some (.int v1), some (.int v2), some (.int v3)] [] h (none, r)) (v0 : Option Nat) (v1 : Int32) (v2 : Int32) (v3 : Int32)  (h : Hp) (r : Hp) (hb : b_306_10 k5 v0 v1 v2 v3  h = some r) : Rn d 306 10 [some (va_rf v0), some (.int v1), some (.int v2), some (.int v3)] [] h (none, r) := by
  unfold b_306_10 at hb
  refine rn_aload_n (i := 0) rfl rfl ?_
  refine rn_iload_n (i := 2) rfl rfl ?_
  refine rn_iload_n (i := 1) rfl rfl ?_
  refine rn_wI rfl hb (fun h1 hb => ?_)
  obtain ⟨x2, ex2, hb⟩ := bnd_spec hb
  refine rn_iinc (i := 2) (y := x2) (L1 := [some (va_rf v0), some (.int v1), some (.int x2), some (.int v3)]) rfl rfl (Nat.le_of_ble_eq_true rfl) (Or.inr rfl) (by rw [ex2]; rfl) rfl ?_
  refine rn_goto rfl rfl ?_
  exact K5 v0 v1 x2 v3 h1 _ hb
def b_306_5 (k5 : Option Nat → Int32 → Int32 → Int32 → Hp → Option (Hp)) (v0 : Option Nat) (v1 : Int32) (v2 : Int32) (v3 : Int32)  (h : Hp) : Option (Hp) :=
  if v3 ≤ v2 then b_306_20   h else b_306_10 k5 v0 v1 v2 v3  h
theorem u_306_5 (d : Nat) (hd : 0 ≤ d) (k5 : Option Nat → Int32 → Int32 → Int32 → Hp → Option (Hp)) (K5 : ∀ (v0 : Option Nat) (v1 : Int32) (v2 : Int32) (v3 : Int32) (h : Hp) (r : Hp), k5 v0 v1 v2 v3 h = some r → Rn d 306 5 [some (va_rf v0), some (.int v1), some (.int v2), some (.int v3)] [] h (none, r)) (v0 : Option Nat) (v1 : Int32) (v2 : Int32) (v3 : Int32)  (h : Hp) (r : Hp) (hb : b_306_5 k5 v0 v1 v2 v3  h = some r) : Rn d 306 5 [some (va_rf v0), some (.int v1), some (.int v2), some (.int v3)] [] h (none, r) := by
  unfold b_306_5 at hb
  refine rn_iload_n (i := 2) rfl rfl ?_
  refine rn_iload_n (i := 3) rfl rfl ?_
  refine rn_icmp_ge rfl rfl (fun hc => ?_) (fun hc => ?_)
  · exact u_306_20 d hd v0 v1 v2 v3  h _ (if_t hb hc)
  · exact u_306_10 d hd k5 K5 v0 v1 v2 v3  h _ (if_f hb hc)
def l_306_5 : Nat → Option Nat → Int32 → Int32 → Int32 → Hp → Option (Hp)
  | 0, _, _, _, _, _ => none
  | n + 1, v0, v1, v2, v3, h => b_306_5 (l_306_5 n) v0 v1 v2 v3 h
theorem w_306_5 (d : Nat) (hd : 0 ≤ d) : ∀ (n : Nat) (v0 : Option Nat) (v1 : Int32) (v2 : Int32) (v3 : Int32) (h : Hp) (r : Hp), l_306_5 n v0 v1 v2 v3 h = some r → Rn d 306 5 [some (va_rf v0), some (.int v1), some (.int v2), some (.int v3)] [] h (none, r) := by
  intro n
  induction n with
  | zero => intro v0 v1 v2 v3 h r hb; cases hb
  | succ n ih => intro v0 v1 v2 v3 h r hb; exact u_306_5 d hd (l_306_5 n) ih v0 v1 v2 v3 h r hb
def b_306_0 (v0 : Option Nat) (v1 : Int32)  (h : Hp) : Option (Hp) :=
  bnd ((nI 0)) fun x1 =>
  (aL v0 h).bind fun x2 =>
  l_306_5 FU v0 v1 x1 x2 h
theorem u_306_0 (d : Nat) (hd : 0 ≤ d) (v0 : Option Nat) (v1 : Int32)  (h : Hp) (r : Hp) (hb : b_306_0 v0 v1  h = some r) : Rn d 306 0 [some (va_rf v0), some (.int v1), none, none] [] h (none, r) := by
  unfold b_306_0 at hb
  refine rn_iconst (x := (nI 0)) rfl (by decide) ?_
  obtain ⟨x1, ex1, hb⟩ := bnd_spec hb
  refine rn_istore_n (i := 2) (L1 := [some (va_rf v0), some (.int v1), some (.int x1), none]) rfl (Nat.le_of_ble_eq_true rfl) (Or.inr rfl) (by rw [ex1]; rfl) ?_
  refine rn_aload_n (i := 0) rfl rfl ?_
  refine rn_aL rfl hb (fun x2 hb => ?_)
  refine rn_istore_n (i := 3) (L1 := [some (va_rf v0), some (.int v1), some (.int x1), some (.int x2)]) rfl (Nat.le_of_ble_eq_true rfl) (Or.inr rfl) rfl ?_
  exact w_306_5 d hd FU v0 v1 x1 x2 h _ hb
/-- java/util/Arrays.fill([II)V -/
def f_306 (v0 : Option Nat) (v1 : Int32) (h : Hp) : Option (Hp) := b_306_0 v0 v1 h
theorem t_306 (d : Nat) (hd : 0 ≤ d) (v0 : Option Nat) (v1 : Int32) (h : Hp) (r : Hp) (hb : f_306 v0 v1 h = some r) : Rn d 306 0 [some (va_rf v0), some (.int v1), none, none] [] h (none, r) := by
  unfold f_306 at hb
  exact u_306_0 d hd v0 v1 h r hb
def b_42_77 (v1 : Int32)  (h : Hp) : Option (Int32 × Hp) :=
  some (v1, h)
theorem u_42_77 (d : Nat) (hd : 69 ≤ d) (v0 : Option Nat) (v1 : Int32) (v2 : Int32) (v3 : Option (Int32))  (h : Hp) (r : Int32 × Hp) (hb : b_42_77 v1  h = some r) : Rn d 42 77 [some (va_rf v0), some (.int v1), some (.int v2), v3.map Value.int] [] h (some (.int r.1), r.2) := by
  unfold b_42_77 at hb
  refine rn_iload_n (i := 1) rfl rfl ?_
  obtain rfl := Option.some.inj hb
  exact rn_iret rfl rfl
def b_42_71 (k27 : Option Nat → Int32 → Int32 → Hp → Option (Int32 × Hp)) (v0 : Option Nat) (v1 : Int32) (v2 : Int32)  (h : Hp) : Option (Int32 × Hp) :=
  bnd (v2 + (nI 1)) fun x1 =>
  k27 v0 v1 x1 h
theorem u_42_71 (d : Nat) (hd : 69 ≤ d) (k27 : Option Nat → Int32 → Int32 → Hp → Option (Int32 × Hp)) (K27 : ∀ (v0 : Option Nat) (v1 : Int32) (v2 : Int32) (v3 : Option (Int32)) (h : Hp) (r : Int32 × Hp), k27 v0 v1 v2 h = some r → Rn d 42 27 [some (va_rf v0), some (.int v1), some (.int v2), v3.map Value.int] [] h (some (.int r.1), r.2)) (v0 : Option Nat) (v1 : Int32) (v2 : Int32) (v3 : Int32)  (h : Hp) (r : Int32 × Hp) (hb : b_42_71 k27 v0 v1 v2  h = some r) : Rn d 42 71 [some (va_rf v0), some (.int v1), some (.int v2), some (.int v3)] [] h (some (.int r.1), r.2) := by
  unfold b_42_71 at hb
  obtain ⟨x1, ex1, hb⟩ := bnd_spec hb
  refine rn_iinc (i := 2) (y := x1) (L1 := [some (va_rf v0), some (.int v1), some (.int x1), some (.int v3)]) rfl rfl (Nat.le_of_ble_eq_true rfl) (Or.inr rfl) (by rw [ex1]; rfl) rfl ?_
  refine rn_goto rfl rfl ?_
  exact K27 v0 v1 x1 (some v3) h _ hb
def b_42_65 (k27 : Option Nat → Int32 → Int32 → Hp → Option (Int32 × Hp)) (k40 : Option Nat → Int32 → Int32 → Int32 → Hp → Option (Int32 × Hp)) (v0 : Option Nat) (v1 : Int32) (v2 : Int32) (v3 : Int32)  (h : Hp) : Option (Int32 × Hp) :=
  bnd (v3 + (nI 1)) fun x1 =>
  k40 v0 v1 v2 x1 h
theorem u_42_65 (d : Nat) (hd : 69 ≤ d) (k27 : Option Nat → Int32 → Int32 → Hp → Option (Int32 × Hp)) (K27 : ∀ (v0 : Option Nat) (v1 : Int32) (v2 : Int32) (v3 : Option (Int32)) (h : Hp) (r : Int32 × Hp), k27 v0 v1 v2 h = some r → Rn d 42 27 [some (va_rf v0), some (.int v1), some (.int v2), v3.map Value.int] [] h (some (.int r.1), r.2)) (k40 : Option Nat → Int32 → Int32 → Int32 → Hp → Option (Int32 × Hp)) (K40 : ∀ (v0 : Option Nat) (v1 : Int32) (v2 : Int32) (v3 : Int32) (h : Hp) (r : Int32 × Hp), k40 v0 v1 v2 v3 h = some r → Rn d 42 40 [some (va_rf v0), some (.int v1), some (.int v2), some (.int v3)] [] h (some (.int r.1), r.2)) (v0 : Option Nat) (v1 : Int32) (v2 : Int32) (v3 : Int32)  (h : Hp) (r : Int32 × Hp) (hb : b_42_65 k27 k40 v0 v1 v2 v3  h = some r) : Rn d 42 65 [some (va_rf v0), some (.int v1), some (.int v2), some (.int v3)] [] h (some (.int r.1), r.2) := by
  unfold b_42_65 at hb
  obtain ⟨x1, ex1, hb⟩ := bnd_spec hb
  refine rn_iinc (i := 3) (y := x1) (L1 := [some (va_rf v0), some (.int v1), some (.int v2), some (.int x1)]) rfl rfl (Nat.le_of_ble_eq_true rfl) (Or.inr rfl) (by rw [ex1]; rfl) rfl ?_
  refine rn_goto rfl rfl ?_
  exact K40 v0 v1 v2 x1 h _ hb
def b_42_63 (v3 : Int32)  (h : Hp) : Option (Int32 × Hp) :=
  some (v3, h)
theorem u_42_63 (d : Nat) (hd : 69 ≤ d) (v0 : Option Nat) (v1 : Int32) (v2 : Int32) (v3 : Int32)  (h : Hp) (r : Int32 × Hp) (hb : b_42_63 v3  h = some r) : Rn d 42 63 [some (va_rf v0), some (.int v1), some (.int v2), some (.int v3)] [] h (some (.int r.1), r.2) := by
  unfold b_42_63 at hb
  refine rn_iload_n (i := 3) rfl rfl ?_
  obtain rfl := Option.some.inj hb
  exact rn_iret rfl rfl
def b_42_53 (k27 : Option Nat → Int32 → Int32 → Hp → Option (Int32 × Hp)) (k40 : Option Nat → Int32 → Int32 → Int32 → Hp → Option (Int32 × Hp)) (v0 : Option Nat) (v1 : Int32) (v2 : Int32) (v3 : Int32)  (h : Hp) : Option (Int32 × Hp) :=
  (grd (rC 3 v0 h)).bind fun _ =>
  (f_36 v0 v3 h).bind fun p1 =>
  if ¬ p1.1 = (nI 1073741824) then b_42_65 k27 k40 v0 v1 v2 v3  p1.2 else b_42_63 v3  p1.2
theorem u_42_53 (d : Nat) (hd : 69 ≤ d) (k27 : Option Nat → Int32 → Int32 → Hp → Option (Int32 × Hp)) (K27 : ∀ (v0 : Option Nat) (v1 : Int32) (v2 : Int32) (v3 : Option (Int32)) (h : Hp) (r : Int32 × Hp), k27 v0 v1 v2 h = some r → Rn d 42 27 [some (va_rf v0), some (.int v1), some (.int v2), v3.map Value.int] [] h (some (.int r.1), r.2)) (k40 : Option Nat → Int32 → Int32 → Int32 → Hp → Option (Int32 × Hp)) (K40 : ∀ (v0 : Option Nat) (v1 : Int32) (v2 : Int32) (v3 : Int32) (h : Hp) (r : Int32 × Hp), k40 v0 v1 v2 v3 h = some r → Rn d 42 40 [some (va_rf v0), some (.int v1), some (.int v2), some (.int v3)] [] h (some (.int r.1), r.2)) (v0 : Option Nat) (v1 : Int32) (v2 : Int32) (v3 : Int32)  (h : Hp) (r : Int32 × Hp) (hb : b_42_53 k27 k40 v0 v1 v2 v3  h = some r) : Rn d 42 53 [some (va_rf v0), some (.int v1), some (.int v2), some (.int v3)] [] h (some (.int r.1), r.2) := by
  unfold b_42_53 at hb
  obtain ⟨e, rfl⟩ : ∃ e, d = e + 1 := ⟨d - 1, by omega⟩
  refine rn_aload_n (i := 0) rfl rfl ?_
  refine rn_iload_n (i := 3) rfl rfl ?_
  obtain ⟨hrc, hb⟩ := grd_spec hb
  obtain ⟨p1, hc, hb⟩ := Option.bind_eq_some_iff.mp hb
  refine Rn.call1 (d := e) (As := [va_rf v0, .int v3]) (rest := []) rfl rfl rfl (by decide) rfl rfl rfl (bd_rcV hrc rfl) (by decide) (bd_lenC (n := 2) rfl (bd_slR (bd_slI bd_slN)) rfl) (bd_locC (n := 2) rfl (bd_slR (bd_slI bd_slN)) rfl (t_36 e (by omega) v0 v3 h _ hc)) ?_
  refine rn_ldc (x := (nI 1073741824)) rfl (by decide) ?_
  refine rn_icmp_ne rfl rfl (fun hc => ?_) (fun hc => ?_)
  · exact u_42_65 (e + 1) hd k27 K27 k40 K40 v0 v1 v2 v3  p1.2 _ (if_t hb hc)
  · exact u_42_63 (e + 1) hd v0 v1 v2 v3  p1.2 _ (if_f hb hc)
def b_42_45 (k27 : Option Nat → Int32 → Int32 → Hp → Option (Int32 × Hp)) (k40 : Option Nat → Int32 → Int32 → Int32 → Hp → Option (Int32 × Hp)) (v0 : Option Nat) (v1 : Int32) (v2 : Int32) (v3 : Int32)  (h : Hp) : Option (Int32 × Hp) :=
  (f_302 v3 h).bind fun p1 =>
  if ¬ p1.1 = v2 then b_42_65 k27 k40 v0 v1 v2 v3  p1.2 else b_42_53 k27 k40 v0 v1 v2 v3  p1.2
theorem u_42_45 (d : Nat) (hd : 69 ≤ d) (k27 : Option Nat → Int32 → Int32 → Hp → Option (Int32 × Hp)) (K27 : ∀ (v0 : Option Nat) (v1 : Int32) (v2 : Int32) (v3 : Option (Int32)) (h : Hp) (r : Int32 × Hp), k27 v0 v1 v2 h = some r → Rn d 42 27 [some (va_rf v0), some (.int v1), some (.int v2), v3.map Value.int] [] h (some (.int r.1), r.2)) (k40 : Option Nat → Int32 → Int32 → Int32 → Hp → Option (Int32 × Hp)) (K40 : ∀ (v0 : Option Nat) (v1 : Int32) (v2 : Int32) (v3 : Int32) (h : Hp) (r : Int32 × Hp), k40 v0 v1 v2 v3 h = some r → Rn d 42 40 [some (va_rf v0), some (.int v1), some (.int v2), some (.int v3)] [] h (some (.int r.1), r.2)) (v0 : Option Nat) (v1 : Int32) (v2 : Int32) (v3 : Int32)  (h : Hp) (r : Int32 × Hp) (hb : b_42_45 k27 k40 v0 v1 v2 v3  h = some r) : Rn d 42 45 [some (va_rf v0), some (.int v1), some (.int v2), some (.int v3)] [] h (some (.int r.1), r.2) := by
  unfold b_42_45 at hb
  obtain ⟨e, rfl⟩ : ∃ e, d = e + 1 := ⟨d - 1, by omega⟩
  refine rn_iload_n (i := 3) rfl rfl ?_
  obtain ⟨p1, hc, hb⟩ := Option.bind_eq_some_iff.mp hb
  refine Rn.call1 (d := e) (As := [.int v3]) (rest := []) rfl rfl rfl (by decide) rfl rfl rfl rfl (by decide) (bd_lenC (n := 1) rfl (bd_slI bd_slN) rfl) (bd_locC (n := 1) rfl (bd_slI bd_slN) rfl (t_302 e (by omega) v3 h _ hc)) ?_
  refine rn_iload_n (i := 2) rfl rfl ?_
  refine rn_icmp_ne rfl rfl (fun hc => ?_) (fun hc => ?_)
  · exact u_42_65 (e + 1) hd k27 K27 k40 K40 v0 v1 v2 v3  p1.2 _ (if_t hb hc)
  · exact u_42_53 (e + 1) hd k27 K27 k40 K40 v0 v1 v2 v3  p1.2 _ (if_f hb hc)
def b_42_40 (k27 : Option Nat → Int32 → Int32 → Hp → Option (Int32 × Hp)) (k40 : Option Nat → Int32 → Int32 → Int32 → Hp → Option (Int32 × Hp)) (v0 : Option Nat) (v1 : Int32) (v2 : Int32) (v3 : Int32)  (h : Hp) : Option (Int32 × Hp) :=
  if v1 < v3 then b_42_71 k27 v0 v1 v2  h else b_42_45 k27 k40 v0 v1 v2 v3  h
theorem u_42_40 (d : Nat) (hd : 69 ≤ d) (k27 : Option Nat → Int32 → Int32 → Hp → Option (Int32 × Hp)) (K27 : ∀ (v0 : Option Nat) (v1 : Int32) (v2 : Int32) (v3 : Option (Int32)) (h : Hp) (r : Int32 × Hp), k27 v0 v1 v2 h = some r → Rn d 42 27 [some (va_rf v0), some (.int v1), some (.int v2), v3.map Value.int] [] h (some (.int r.1), r.2)) (k40 : Option Nat → Int32 → Int32 → Int32 → Hp → Option (Int32 × Hp)) (K40 : ∀ (v0 : Option Nat) (v1 : Int32) (v2 : Int32) (v3 : Int32) (h : Hp) (r : Int32 × Hp), k40 v0 v1 v2 v3 h = some r → Rn d 42 40 [some (va_rf v0), some (.int v1), some (.int v2), some (.int v3)] [] h (some (.int r.1), r.2)) (v0 : Option Nat) (v1 : Int32) (v2 : Int32) (v3 : Int32)  (h : Hp) (r : Int32 × Hp) (hb : b_42_40 k27 k40 v0 v1 v2 v3  h = some r) : Rn d 42 40 [some (va_rf v0), some (.int v1), some (.int v2), some (.int v3)] [] h (some (.int r.1), r.2) := by
  unfold b_42_40 at hb
  refine rn_iload_n (i := 3) rfl rfl ?_
  refine rn_iload_n (i := 1) rfl rfl ?_
  refine rn_icmp_gt rfl rfl (fun hc => ?_) (fun hc => ?_)
  · exact u_42_71 d hd k27 K27 v0 v1 v2 v3  h _ (if_t hb hc)
  · exact u_42_45 d hd k27 K27 k40 K40 v0 v1 v2 v3  h _ (if_f hb hc)
def l_42_40 (k27 : Option Nat → Int32 → Int32 → Hp → Option (Int32 × Hp)) : Nat → Option Nat → Int32 → Int32 → Int32 → Hp → Option (Int32 × Hp)
  | 0, _, _, _, _, _ => none
  | n + 1, v0, v1, v2, v3, h => b_42_40 k27 (l_42_40 k27 n) v0 v1 v2 v3 h
theorem w_42_40 (d : Nat) (hd : 69 ≤ d) (k27 : Option Nat → Int32 → Int32 → Hp → Option (Int32 × Hp)) (K27 : ∀ (v0 : Option Nat) (v1 : Int32) (v2 : Int32) (v3 : Option (Int32)) (h : Hp) (r : Int32 × Hp), k27 v0 v1 v2 h = some r → Rn d 42 27 [some (va_rf v0), some (.int v1), some (.int v2), v3.map Value.int] [] h (some (.int r.1), r.2)) : ∀ (n : Nat) (v0 : Option Nat) (v1 : Int32) (v2 : Int32) (v3 : Int32) (h : Hp) (r : Int32 × Hp), l_42_40 k27 n v0 v1 v2 v3 h = some r → Rn d 42 40 [some (va_rf v0), some (.int v1), some (.int v2), some (.int v3)] [] h (some (.int r.1), r.2) := by
  intro n
  induction n with
  | zero => intro v0 v1 v2 v3 h r hb; cases hb
  | succ n ih => intro v0 v1 v2 v3 h r hb; exact u_42_40 d hd k27 K27 (l_42_40 k27 n) ih v0 v1 v2 v3 h r hb
def b_42_38 (k27 : Option Nat → Int32 → Int32 → Hp → Option (Int32 × Hp)) (v0 : Option Nat) (v1 : Int32) (v2 : Int32)  (h : Hp) : Option (Int32 × Hp) :=
  bnd ((nI 1)) fun x1 =>
  l_42_40 k27 FU v0 v1 v2 x1 h
theorem u_42_38 (d : Nat) (hd : 69 ≤ d) (k27 : Option Nat → Int32 → Int32 → Hp → Option (Int32 × Hp)) (K27 : ∀ (v0 : Option Nat) (v1 : Int32) (v2 : Int32) (v3 : Option (Int32)) (h : Hp) (r : Int32 × Hp), k27 v0 v1 v2 h = some r → Rn d 42 27 [some (va_rf v0), some (.int v1), some (.int v2), v3.map Value.int] [] h (some (.int r.1), r.2)) (v0 : Option Nat) (v1 : Int32) (v2 : Int32) (v3 : Option (Int32))  (h : Hp) (r : Int32 × Hp) (hb : b_42_38 k27 v0 v1 v2  h = some r) : Rn d 42 38 [some (va_rf v0), some (.int v1), some (.int v2), v3.map Value.int] [] h (some (.int r.1), r.2) := by
  unfold b_42_38 at hb
  refine rn_iconst (x := (nI 1)) rfl (by decide) ?_
  obtain ⟨x1, ex1, hb⟩ := bnd_spec hb
  refine rn_istore_n (i := 3) (L1 := [some (va_rf v0), some (.int v1), some (.int v2), some (.int x1)]) rfl (Nat.le_of_ble_eq_true rfl) (Or.inr rfl) (by rw [ex1]; rfl) ?_
  exact w_42_40 d hd k27 K27 FU v0 v1 v2 x1 h _ hb
def b_42_27 (k27 : Option Nat → Int32 → Int32 → Hp → Option (Int32 × Hp)) (v0 : Option Nat) (v1 : Int32) (v2 : Int32)  (h : Hp) : Option (Int32 × Hp) :=
  (gQ 3 2 v0 h).bind fun x1 =>
  (gI 4 5 x1 h).bind fun x2 =>
  if x2 < v2 then b_42_77 v1  h else b_42_38 k27 v0 v1 v2  h
theorem u_42_27 (d : Nat) (hd : 69 ≤ d) (k27 : Option Nat → Int32 → Int32 → Hp → Option (Int32 × Hp)) (K27 : ∀ (v0 : Option Nat) (v1 : Int32) (v2 : Int32) (v3 : Option (Int32)) (h : Hp) (r : Int32 × Hp), k27 v0 v1 v2 h = some r → Rn d 42 27 [some (va_rf v0), some (.int v1), some (.int v2), v3.map Value.int] [] h (some (.int r.1), r.2)) (v0 : Option Nat) (v1 : Int32) (v2 : Int32) (v3 : Option (Int32))  (h : Hp) (r : Int32 × Hp) (hb : b_42_27 k27 v0 v1 v2  h = some r) : Rn d 42 27 [some (va_rf v0), some (.int v1), some (.int v2), v3.map Value.int] [] h (some (.int r.1), r.2) := by
  unfold b_42_27 at hb
  refine rn_iload_n (i := 2) rfl rfl ?_
  refine rn_aload_n (i := 0) rfl rfl ?_
  refine rn_gQ (c := 3) (k := 2) rfl (by decide) hb (fun x1 hb => ?_)
  refine rn_gI (c := 4) (k := 5) rfl (by decide) hb (fun x2 hb => ?_)
  refine rn_icmp_gt rfl rfl (fun hc => ?_) (fun hc => ?_)
  · exact u_42_77 d hd v0 v1 v2 v3  h _ (if_t hb hc)
  · exact u_42_38 d hd k27 K27 v0 v1 v2 v3  h _ (if_f hb hc)
def l_42_27 : Nat → Option Nat → Int32 → Int32 → Hp → Option (Int32 × Hp)
  | 0, _, _, _, _ => none
  | n + 1, v0, v1, v2, h => b_42_27 (l_42_27 n) v0 v1 v2 h
theorem w_42_27 (d : Nat) (hd : 69 ≤ d) : ∀ (n : Nat) (v0 : Option Nat) (v1 : Int32) (v2 : Int32) (v3 : Option (Int32)) (h : Hp) (r : Int32 × Hp), l_42_27 n v0 v1 v2 h = some r → Rn d 42 27 [some (va_rf v0), some (.int v1), some (.int v2), v3.map Value.int] [] h (some (.int r.1), r.2) := by
  intro n
  induction n with
  | zero => intro v0 v1 v2 v3 h r hb; cases hb
  | succ n ih => intro v0 v1 v2 v3 h r hb; exact u_42_27 d hd (l_42_27 n) ih v0 v1 v2 v3 h r hb
def b_42_25 (v0 : Option Nat) (v1 : Int32)  (h : Hp) : Option (Int32 × Hp) :=
  bnd ((nI 1)) fun x1 =>
  l_42_27 FU v0 v1 x1 h
theorem u_42_25 (d : Nat) (hd : 69 ≤ d) (v0 : Option Nat) (v1 : Int32)  (h : Hp) (r : Int32 × Hp) (hb : b_42_25 v0 v1  h = some r) : Rn d 42 25 [some (va_rf v0), some (.int v1), none, none] [] h (some (.int r.1), r.2) := by
  unfold b_42_25 at hb
  refine rn_iconst (x := (nI 1)) rfl (by decide) ?_
  obtain ⟨x1, ex1, hb⟩ := bnd_spec hb
  refine rn_istore_n (i := 2) (L1 := [some (va_rf v0), some (.int v1), some (.int x1), none]) rfl (Nat.le_of_ble_eq_true rfl) (Or.inr rfl) (by rw [ex1]; rfl) ?_
  exact w_42_27 d hd FU v0 v1 x1 (none : Option (Int32)) h _ hb
def b_42_23   (h : Hp) : Option (Int32 × Hp) :=
  some ((nI 0), h)
theorem u_42_23 (d : Nat) (hd : 69 ≤ d) (v0 : Option Nat) (v1 : Int32)  (h : Hp) (r : Int32 × Hp) (hb : b_42_23   h = some r) : Rn d 42 23 [some (va_rf v0), some (.int v1), none, none] [] h (some (.int r.1), r.2) := by
  unfold b_42_23 at hb
  refine rn_iconst (x := (nI 0)) rfl (by decide) ?_
  obtain rfl := Option.some.inj hb
  exact rn_iret rfl rfl
def b_42_0 (v0 : Option Nat)  (h : Hp) : Option (Int32 × Hp) :=
  (gQ 3 10 v0 h).bind fun x1 =>
  (f_306 x1 (nI 0) h).bind fun p2 =>
  (grd (rC 3 v0 p2)).bind fun _ =>
  (f_29 v0 p2).bind fun p3 =>
  bnd (p3.1) fun x4 =>
  (grd (rC 3 v0 p3.2)).bind fun _ =>
  (f_36 v0 x4 p3.2).bind fun p5 =>
  if p5.1 = (nI 1073741824) then b_42_25 v0 x4  p5.2 else b_42_23   p5.2
theorem u_42_0 (d : Nat) (hd : 69 ≤ d) (v0 : Option Nat)  (h : Hp) (r : Int32 × Hp) (hb : b_42_0 v0  h = some r) : Rn d 42 0 [some (va_rf v0), none, none, none] [] h (some (.int r.1), r.2) := by
  unfold b_42_0 at hb
  obtain ⟨e, rfl⟩ : ∃ e, d = e + 1 := ⟨d - 1, by omega⟩
  refine rn_aload_n (i := 0) rfl rfl ?_
  refine rn_gQ (c := 3) (k := 10) rfl (by decide) hb (fun x1 hb => ?_)
  refine rn_iconst (x := (nI 0)) rfl (by decide) ?_
  obtain ⟨p2, hc, hb⟩ := Option.bind_eq_some_iff.mp hb
  refine Rn.call0 (d := e) (As := [va_rf x1, .int (nI 0)]) (rest := []) rfl rfl rfl (by decide) rfl rfl rfl rfl (by decide) (bd_lenC (n := 4) rfl (bd_slR (bd_slI bd_slN)) rfl) (bd_locC (n := 4) rfl (bd_slR (bd_slI bd_slN)) rfl (t_306 e (by omega) x1 (nI 0) h _ hc)) ?_
  refine rn_aload_n (i := 0) rfl rfl ?_
  obtain ⟨hrc, hb⟩ := grd_spec hb
  obtain ⟨p3, hc, hb⟩ := Option.bind_eq_some_iff.mp hb
  refine Rn.call1 (d := e) (As := [va_rf v0]) (rest := []) rfl rfl rfl (by decide) rfl rfl rfl (bd_rcV hrc rfl) (by decide) (bd_lenC (n := 1) rfl (bd_slR bd_slN) rfl) (bd_locC (n := 1) rfl (bd_slR bd_slN) rfl (t_29 e (by omega) v0 p2 _ hc)) ?_
  obtain ⟨x4, ex4, hb⟩ := bnd_spec hb
  refine rn_istore_n (i := 1) (L1 := [some (va_rf v0), some (.int x4), none, none]) rfl (Nat.le_of_ble_eq_true rfl) (Or.inr (bd_wideR rfl)) (by rw [ex4]; rfl) ?_
  refine rn_aload_n (i := 0) rfl rfl ?_
  refine rn_iload_n (i := 1) rfl rfl ?_
  obtain ⟨hrc, hb⟩ := grd_spec hb
  obtain ⟨p5, hc, hb⟩ := Option.bind_eq_some_iff.mp hb
  refine Rn.call1 (d := e) (As := [va_rf v0, .int x4]) (rest := []) rfl rfl rfl (by decide) rfl rfl rfl (bd_rcV hrc rfl) (by decide) (bd_lenC (n := 2) rfl (bd_slR (bd_slI bd_slN)) rfl) (bd_locC (n := 2) rfl (bd_slR (bd_slI bd_slN)) rfl (t_36 e (by omega) v0 x4 p3.2 _ hc)) ?_
  refine rn_ldc (x := (nI 1073741824)) rfl (by decide) ?_
  refine rn_icmp_eq rfl rfl (fun hc => ?_) (fun hc => ?_)
  · exact u_42_25 (e + 1) hd v0 x4  p5.2 _ (if_t hb hc)
  · exact u_42_23 (e + 1) hd v0 x4  p5.2 _ (if_f hb hc)
/-- BitingDoors$Hanger.leastStuck()I -/
def f_42 (v0 : Option Nat) (h : Hp) : Option (Int32 × Hp) := b_42_0 v0 h
theorem t_42 (d : Nat) (hd : 69 ≤ d) (v0 : Option Nat) (h : Hp) (r : Int32 × Hp) (hb : f_42 v0 h = some r) : Rn d 42 0 [some (va_rf v0), none, none, none] [] h (some (.int r.1), r.2) := by
  unfold f_42 at hb
  exact u_42_0 d hd v0 h r hb
def b_43_68 (v2 : Int32)  (h : Hp) : Option (Int32 × Hp) :=
  some (v2, h)
theorem u_43_68 (d : Nat) (hd : 1 ≤ d) (v0 : Option Nat) (v1 : Option Nat) (v2 : Int32) (v3 : Int32) (v4 : Option (Int32))  (h : Hp) (r : Int32 × Hp) (hb : b_43_68 v2  h = some r) : Rn d 43 68 [some (va_rf v0), some (va_rf v1), some (.int v2), some (.int v3), v4.map Value.int] [] h (some (.int r.1), r.2) := by
  unfold b_43_68 at hb
  refine rn_iload_n (i := 2) rfl rfl ?_
  obtain rfl := Option.some.inj hb
  exact rn_iret rfl rfl
def b_43_62 (k4 : Option Nat → Option Nat → Int32 → Int32 → Hp → Option (Int32 × Hp)) (v0 : Option Nat) (v1 : Option Nat) (v2 : Int32) (v3 : Int32)  (h : Hp) : Option (Int32 × Hp) :=
  bnd (v3 + (nI 1)) fun x1 =>
  k4 v0 v1 v2 x1 h
theorem u_43_62 (d : Nat) (hd : 1 ≤ d) (k4 : Option Nat → Option Nat → Int32 → Int32 → Hp → Option (Int32 × Hp)) (K4 : ∀ (v0 : Option Nat) (v1 : Option Nat) (v2 : Int32) (v3 : Int32) (v4 : Option (Int32)) (h : Hp) (r : Int32 × Hp), k4 v0 v1 v2 v3 h = some r → Rn d 43 4 [some (va_rf v0), some (va_rf v1), some (.int v2), some (.int v3), v4.map Value.int] [] h (some (.int r.1), r.2)) (v0 : Option Nat) (v1 : Option Nat) (v2 : Int32) (v3 : Int32) (v4 : Int32)  (h : Hp) (r : Int32 × Hp) (hb : b_43_62 k4 v0 v1 v2 v3  h = some r) : Rn d 43 62 [some (va_rf v0), some (va_rf v1), some (.int v2), some (.int v3), some (.int v4)] [] h (some (.int r.1), r.2) := by
  unfold b_43_62 at hb
  obtain ⟨x1, ex1, hb⟩ := bnd_spec hb
  refine rn_iinc (i := 3) (y := x1) (L1 := [some (va_rf v0), some (va_rf v1), some (.int v2), some (.int x1), some (.int v4)]) rfl rfl (Nat.le_of_ble_eq_true rfl) (Or.inr rfl) (by rw [ex1]; rfl) rfl ?_
  refine rn_goto rfl rfl ?_
  exact K4 v0 v1 v2 x1 (some v4) h _ hb
def b_43_54 (k4 : Option Nat → Option Nat → Int32 → Int32 → Hp → Option (Int32 × Hp)) (k18 : Option Nat → Option Nat → Int32 → Int32 → Int32 → Hp → Option (Int32 × Hp)) (v0 : Option Nat) (v1 : Option Nat) (v3 : Int32) (v4 : Int32) (s0 : Int32) (s1 : Int32) (h : Hp) : Option (Int32 × Hp) :=
  bnd ((s0 + s1)) fun x1 =>
  bnd (v4 + (nI 1)) fun x2 =>
  k18 v0 v1 x1 v3 x2 h
theorem u_43_54 (d : Nat) (hd : 1 ≤ d) (k4 : Option Nat → Option Nat → Int32 → Int32 → Hp → Option (Int32 × Hp)) (K4 : ∀ (v0 : Option Nat) (v1 : Option Nat) (v2 : Int32) (v3 : Int32) (v4 : Option (Int32)) (h : Hp) (r : Int32 × Hp), k4 v0 v1 v2 v3 h = some r → Rn d 43 4 [some (va_rf v0), some (va_rf v1), some (.int v2), some (.int v3), v4.map Value.int] [] h (some (.int r.1), r.2)) (k18 : Option Nat → Option Nat → Int32 → Int32 → Int32 → Hp → Option (Int32 × Hp)) (K18 : ∀ (v0 : Option Nat) (v1 : Option Nat) (v2 : Int32) (v3 : Int32) (v4 : Int32) (h : Hp) (r : Int32 × Hp), k18 v0 v1 v2 v3 v4 h = some r → Rn d 43 18 [some (va_rf v0), some (va_rf v1), some (.int v2), some (.int v3), some (.int v4)] [] h (some (.int r.1), r.2)) (v0 : Option Nat) (v1 : Option Nat) (v2 : Int32) (v3 : Int32) (v4 : Int32) (s0 : Int32) (s1 : Int32) (h : Hp) (r : Int32 × Hp) (hb : b_43_54 k4 k18 v0 v1 v3 v4 s0 s1 h = some r) : Rn d 43 54 [some (va_rf v0), some (va_rf v1), some (.int v2), some (.int v3), some (.int v4)] [.int s1, .int s0] h (some (.int r.1), r.2) := by
  unfold b_43_54 at hb
  refine rn_iadd rfl ?_
  obtain ⟨x1, ex1, hb⟩ := bnd_spec hb
  refine rn_istore_n (i := 2) (L1 := [some (va_rf v0), some (va_rf v1), some (.int x1), some (.int v3), some (.int v4)]) rfl (Nat.le_of_ble_eq_true rfl) (Or.inr (bd_wideR rfl)) (by rw [ex1]; rfl) ?_
  obtain ⟨x2, ex2, hb⟩ := bnd_spec hb
  refine rn_iinc (i := 4) (y := x2) (L1 := [some (va_rf v0), some (va_rf v1), some (.int x1), some (.int v3), some (.int x2)]) rfl rfl (Nat.le_of_ble_eq_true rfl) (Or.inr rfl) (by rw [ex2]; rfl) rfl ?_
  refine rn_goto rfl rfl ?_
  exact K18 v0 v1 x1 v3 x2 h _ hb
def b_43_53 (k4 : Option Nat → Option Nat → Int32 → Int32 → Hp → Option (Int32 × Hp)) (k18 : Option Nat → Option Nat → Int32 → Int32 → Int32 → Hp → Option (Int32 × Hp)) (v0 : Option Nat) (v1 : Option Nat) (v3 : Int32) (v4 : Int32) (s0 : Int32) (h : Hp) : Option (Int32 × Hp) :=
  b_43_54 k4 k18 v0 v1 v3 v4 s0 (nI 1) h
theorem u_43_53 (d : Nat) (hd : 1 ≤ d) (k4 : Option Nat → Option Nat → Int32 → Int32 → Hp → Option (Int32 × Hp)) (K4 : ∀ (v0 : Option Nat) (v1 : Option Nat) (v2 : Int32) (v3 : Int32) (v4 : Option (Int32)) (h : Hp) (r : Int32 × Hp), k4 v0 v1 v2 v3 h = some r → Rn d 43 4 [some (va_rf v0), some (va_rf v1), some (.int v2), some (.int v3), v4.map Value.int] [] h (some (.int r.1), r.2)) (k18 : Option Nat → Option Nat → Int32 → Int32 → Int32 → Hp → Option (Int32 × Hp)) (K18 : ∀ (v0 : Option Nat) (v1 : Option Nat) (v2 : Int32) (v3 : Int32) (v4 : Int32) (h : Hp) (r : Int32 × Hp), k18 v0 v1 v2 v3 v4 h = some r → Rn d 43 18 [some (va_rf v0), some (va_rf v1), some (.int v2), some (.int v3), some (.int v4)] [] h (some (.int r.1), r.2)) (v0 : Option Nat) (v1 : Option Nat) (v2 : Int32) (v3 : Int32) (v4 : Int32) (s0 : Int32) (h : Hp) (r : Int32 × Hp) (hb : b_43_53 k4 k18 v0 v1 v3 v4 s0 h = some r) : Rn d 43 53 [some (va_rf v0), some (va_rf v1), some (.int v2), some (.int v3), some (.int v4)] [.int s0] h (some (.int r.1), r.2) := by
  unfold b_43_53 at hb
  refine rn_iconst (x := (nI 1)) rfl (by decide) ?_
  exact u_43_54 d hd k4 K4 k18 K18 v0 v1 v2 v3 v4 s0 (nI 1) h _ hb
def b_43_49 (k4 : Option Nat → Option Nat → Int32 → Int32 → Hp → Option (Int32 × Hp)) (k18 : Option Nat → Option Nat → Int32 → Int32 → Int32 → Hp → Option (Int32 × Hp)) (v0 : Option Nat) (v1 : Option Nat) (v3 : Int32) (v4 : Int32) (s0 : Int32) (h : Hp) : Option (Int32 × Hp) :=
  b_43_54 k4 k18 v0 v1 v3 v4 s0 (nI 0) h
theorem u_43_49 (d : Nat) (hd : 1 ≤ d) (k4 : Option Nat → Option Nat → Int32 → Int32 → Hp → Option (Int32 × Hp)) (K4 : ∀ (v0 : Option Nat) (v1 : Option Nat) (v2 : Int32) (v3 : Int32) (v4 : Option (Int32)) (h : Hp) (r : Int32 × Hp), k4 v0 v1 v2 v3 h = some r → Rn d 43 4 [some (va_rf v0), some (va_rf v1), some (.int v2), some (.int v3), v4.map Value.int] [] h (some (.int r.1), r.2)) (k18 : Option Nat → Option Nat → Int32 → Int32 → Int32 → Hp → Option (Int32 × Hp)) (K18 : ∀ (v0 : Option Nat) (v1 : Option Nat) (v2 : Int32) (v3 : Int32) (v4 : Int32) (h : Hp) (r : Int32 × Hp), k18 v0 v1 v2 v3 v4 h = some r → Rn d 43 18 [some (va_rf v0), some (va_rf v1), some (.int v2), some (.int v3), some (.int v4)] [] h (some (.int r.1), r.2)) (v0 : Option Nat) (v1 : Option Nat) (v2 : Int32) (v3 : Int32) (v4 : Int32) (s0 : Int32) (h : Hp) (r : Int32 × Hp) (hb : b_43_49 k4 k18 v0 v1 v3 v4 s0 h = some r) : Rn d 43 49 [some (va_rf v0), some (va_rf v1), some (.int v2), some (.int v3), some (.int v4)] [.int s0] h (some (.int r.1), r.2) := by
  unfold b_43_49 at hb
  refine rn_iconst (x := (nI 0)) rfl (by decide) ?_
  refine rn_goto rfl rfl ?_
  exact u_43_54 d hd k4 K4 k18 K18 v0 v1 v2 v3 v4 s0 (nI 0) h _ hb
def b_43_24 (k4 : Option Nat → Option Nat → Int32 → Int32 → Hp → Option (Int32 × Hp)) (k18 : Option Nat → Option Nat → Int32 → Int32 → Int32 → Hp → Option (Int32 × Hp)) (v0 : Option Nat) (v1 : Option Nat) (v2 : Int32) (v3 : Int32) (v4 : Int32)  (h : Hp) : Option (Int32 × Hp) :=
  (gQ 3 0 v0 h).bind fun x1 =>
  (aI 12 v1 v3 h).bind fun x2 =>
  (aJ x1 (((nI 4) * v3) + x2) h).bind fun x3 =>
  (aI 12 v1 v4 h).bind fun x4 =>
  (f_31 x3 v4 x4 h).bind fun p5 =>
  if p5.1 = 0 then b_43_53 k4 k18 v0 v1 v3 v4 v2 p5.2 else b_43_49 k4 k18 v0 v1 v3 v4 v2 p5.2
theorem u_43_24 (d : Nat) (hd : 1 ≤ d) (k4 : Option Nat → Option Nat → Int32 → Int32 → Hp → Option (Int32 × Hp)) (K4 : ∀ (v0 : Option Nat) (v1 : Option Nat) (v2 : Int32) (v3 : Int32) (v4 : Option (Int32)) (h : Hp) (r : Int32 × Hp), k4 v0 v1 v2 v3 h = some r → Rn d 43 4 [some (va_rf v0), some (va_rf v1), some (.int v2), some (.int v3), v4.map Value.int] [] h (some (.int r.1), r.2)) (k18 : Option Nat → Option Nat → Int32 → Int32 → Int32 → Hp → Option (Int32 × Hp)) (K18 : ∀ (v0 : Option Nat) (v1 : Option Nat) (v2 : Int32) (v3 : Int32) (v4 : Int32) (h : Hp) (r : Int32 × Hp), k18 v0 v1 v2 v3 v4 h = some r → Rn d 43 18 [some (va_rf v0), some (va_rf v1), some (.int v2), some (.int v3), some (.int v4)] [] h (some (.int r.1), r.2)) (v0 : Option Nat) (v1 : Option Nat) (v2 : Int32) (v3 : Int32) (v4 : Int32)  (h : Hp) (r : Int32 × Hp) (hb : b_43_24 k4 k18 v0 v1 v2 v3 v4  h = some r) : Rn d 43 24 [some (va_rf v0), some (va_rf v1), some (.int v2), some (.int v3), some (.int v4)] [] h (some (.int r.1), r.2) := by
  unfold b_43_24 at hb
  obtain ⟨e, rfl⟩ : ∃ e, d = e + 1 := ⟨d - 1, by omega⟩
  refine rn_iload_n (i := 2) rfl rfl ?_
  refine rn_aload_n (i := 0) rfl rfl ?_
  refine rn_gQ (c := 3) (k := 0) rfl (by decide) hb (fun x1 hb => ?_)
  refine rn_iconst (x := (nI 4)) rfl (by decide) ?_
  refine rn_iload_n (i := 3) rfl rfl ?_
  refine rn_imul rfl ?_
  refine rn_aload_n (i := 1) rfl rfl ?_
  refine rn_iload_n (i := 3) rfl rfl ?_
  refine rn_aI rfl hb (fun x2 hb => ?_)
  refine rn_iadd rfl ?_
  refine rn_aJ rfl hb (fun x3 hb => ?_)
  refine rn_iload (i := 4) rfl rfl ?_
  refine rn_aload_n (i := 1) rfl rfl ?_
  refine rn_iload (i := 4) rfl rfl ?_
  refine rn_aI rfl hb (fun x4 hb => ?_)
  obtain ⟨p5, hc, hb⟩ := Option.bind_eq_some_iff.mp hb
  refine Rn.call1 (d := e) (As := [.long x3, .int v4, .int x4]) (rest := [.int v2]) rfl rfl rfl (by decide) rfl rfl rfl rfl (by rw [bd_cI (bd_cN)]; decide) (bd_lenC (n := 4) rfl (bd_slJ (bd_slI (bd_slI bd_slN))) rfl) (bd_locC (n := 4) rfl (bd_slJ (bd_slI (bd_slI bd_slN))) rfl (t_31 e (by omega) x3 v4 x4 h _ hc)) ?_
  refine rn_if_eq rfl rfl (fun hc => ?_) (fun hc => ?_)
  · exact u_43_53 (e + 1) hd k4 K4 k18 K18 v0 v1 v2 v3 v4 v2 p5.2 _ (if_t hb hc)
  · exact u_43_49 (e + 1) hd k4 K4 k18 K18 v0 v1 v2 v3 v4 v2 p5.2 _ (if_f hb hc)
def b_43_18 (k4 : Option Nat → Option Nat → Int32 → Int32 → Hp → Option (Int32 × Hp)) (k18 : Option Nat → Option Nat → Int32 → Int32 → Int32 → Hp → Option (Int32 × Hp)) (v0 : Option Nat) (v1 : Option Nat) (v2 : Int32) (v3 : Int32) (v4 : Int32)  (h : Hp) : Option (Int32 × Hp) :=
  if v3 ≤ v4 then b_43_62 k4 v0 v1 v2 v3  h else b_43_24 k4 k18 v0 v1 v2 v3 v4  h
theorem u_43_18 (d : Nat) (hd : 1 ≤ d) (k4 : Option Nat → Option Nat → Int32 → Int32 → Hp → Option (Int32 × Hp)) (K4 : ∀ (v0 : Option Nat) (v1 : Option Nat) (v2 : Int32) (v3 : Int32) (v4 : Option (Int32)) (h : Hp) (r : Int32 × Hp), k4 v0 v1 v2 v3 h = some r → Rn d 43 4 [some (va_rf v0), some (va_rf v1), some (.int v2), some (.int v3), v4.map Value.int] [] h (some (.int r.1), r.2)) (k18 : Option Nat → Option Nat → Int32 → Int32 → Int32 → Hp → Option (Int32 × Hp)) (K18 : ∀ (v0 : Option Nat) (v1 : Option Nat) (v2 : Int32) (v3 : Int32) (v4 : Int32) (h : Hp) (r : Int32 × Hp), k18 v0 v1 v2 v3 v4 h = some r → Rn d 43 18 [some (va_rf v0), some (va_rf v1), some (.int v2), some (.int v3), some (.int v4)] [] h (some (.int r.1), r.2)) (v0 : Option Nat) (v1 : Option Nat) (v2 : Int32) (v3 : Int32) (v4 : Int32)  (h : Hp) (r : Int32 × Hp) (hb : b_43_18 k4 k18 v0 v1 v2 v3 v4  h = some r) : Rn d 43 18 [some (va_rf v0), some (va_rf v1), some (.int v2), some (.int v3), some (.int v4)] [] h (some (.int r.1), r.2) := by
  unfold b_43_18 at hb
  refine rn_iload (i := 4) rfl rfl ?_
  refine rn_iload_n (i := 3) rfl rfl ?_
  refine rn_icmp_ge rfl rfl (fun hc => ?_) (fun hc => ?_)
  · exact u_43_62 d hd k4 K4 v0 v1 v2 v3 v4  h _ (if_t hb hc)
  · exact u_43_24 d hd k4 K4 k18 K18 v0 v1 v2 v3 v4  h _ (if_f hb hc)
def l_43_18 (k4 : Option Nat → Option Nat → Int32 → Int32 → Hp → Option (Int32 × Hp)) : Nat → Option Nat → Option Nat → Int32 → Int32 → Int32 → Hp → Option (Int32 × Hp)
  | 0, _, _, _, _, _, _ => none
  | n + 1, v0, v1, v2, v3, v4, h => b_43_18 k4 (l_43_18 k4 n) v0 v1 v2 v3 v4 h
theorem w_43_18 (d : Nat) (hd : 1 ≤ d) (k4 : Option Nat → Option Nat → Int32 → Int32 → Hp → Option (Int32 × Hp)) (K4 : ∀ (v0 : Option Nat) (v1 : Option Nat) (v2 : Int32) (v3 : Int32) (v4 : Option (Int32)) (h : Hp) (r : Int32 × Hp), k4 v0 v1 v2 v3 h = some r → Rn d 43 4 [some (va_rf v0), some (va_rf v1), some (.int v2), some (.int v3), v4.map Value.int] [] h (some (.int r.1), r.2)) : ∀ (n : Nat) (v0 : Option Nat) (v1 : Option Nat) (v2 : Int32) (v3 : Int32) (v4 : Int32) (h : Hp) (r : Int32 × Hp), l_43_18 k4 n v0 v1 v2 v3 v4 h = some r → Rn d 43 18 [some (va_rf v0), some (va_rf v1), some (.int v2), some (.int v3), some (.int v4)] [] h (some (.int r.1), r.2) := by
  intro n
  induction n with
  | zero => intro v0 v1 v2 v3 v4 h r hb; cases hb
  | succ n ih => intro v0 v1 v2 v3 v4 h r hb; exact u_43_18 d hd k4 K4 (l_43_18 k4 n) ih v0 v1 v2 v3 v4 h r hb
def b_43_15 (k4 : Option Nat → Option Nat → Int32 → Int32 → Hp → Option (Int32 × Hp)) (v0 : Option Nat) (v1 : Option Nat) (v2 : Int32) (v3 : Int32)  (h : Hp) : Option (Int32 × Hp) :=
  bnd ((nI 0)) fun x1 =>
  l_43_18 k4 FU v0 v1 v2 v3 x1 h
theorem u_43_15 (d : Nat) (hd : 1 ≤ d) (k4 : Option Nat → Option Nat → Int32 → Int32 → Hp → Option (Int32 × Hp)) (K4 : ∀ (v0 : Option Nat) (v1 : Option Nat) (v2 : Int32) (v3 : Int32) (v4 : Option (Int32)) (h : Hp) (r : Int32 × Hp), k4 v0 v1 v2 v3 h = some r → Rn d 43 4 [some (va_rf v0), some (va_rf v1), some (.int v2), some (.int v3), v4.map Value.int] [] h (some (.int r.1), r.2)) (v0 : Option Nat) (v1 : Option Nat) (v2 : Int32) (v3 : Int32) (v4 : Option (Int32))  (h : Hp) (r : Int32 × Hp) (hb : b_43_15 k4 v0 v1 v2 v3  h = some r) : Rn d 43 15 [some (va_rf v0), some (va_rf v1), some (.int v2), some (.int v3), v4.map Value.int] [] h (some (.int r.1), r.2) := by
  unfold b_43_15 at hb
  refine rn_iconst (x := (nI 0)) rfl (by decide) ?_
  obtain ⟨x1, ex1, hb⟩ := bnd_spec hb
  refine rn_istore (i := 4) (L1 := [some (va_rf v0), some (va_rf v1), some (.int v2), some (.int v3), some (.int x1)]) rfl (Nat.le_of_ble_eq_true rfl) (Or.inr rfl) (by rw [ex1]; rfl) ?_
  exact w_43_18 d hd k4 K4 FU v0 v1 v2 v3 x1 h _ hb
def b_43_4 (k4 : Option Nat → Option Nat → Int32 → Int32 → Hp → Option (Int32 × Hp)) (v0 : Option Nat) (v1 : Option Nat) (v2 : Int32) (v3 : Int32)  (h : Hp) : Option (Int32 × Hp) :=
  (gQ 3 2 v0 h).bind fun x1 =>
  (gI 4 5 x1 h).bind fun x2 =>
  if x2 ≤ v3 then b_43_68 v2  h else b_43_15 k4 v0 v1 v2 v3  h
theorem u_43_4 (d : Nat) (hd : 1 ≤ d) (k4 : Option Nat → Option Nat → Int32 → Int32 → Hp → Option (Int32 × Hp)) (K4 : ∀ (v0 : Option Nat) (v1 : Option Nat) (v2 : Int32) (v3 : Int32) (v4 : Option (Int32)) (h : Hp) (r : Int32 × Hp), k4 v0 v1 v2 v3 h = some r → Rn d 43 4 [some (va_rf v0), some (va_rf v1), some (.int v2), some (.int v3), v4.map Value.int] [] h (some (.int r.1), r.2)) (v0 : Option Nat) (v1 : Option Nat) (v2 : Int32) (v3 : Int32) (v4 : Option (Int32))  (h : Hp) (r : Int32 × Hp) (hb : b_43_4 k4 v0 v1 v2 v3  h = some r) : Rn d 43 4 [some (va_rf v0), some (va_rf v1), some (.int v2), some (.int v3), v4.map Value.int] [] h (some (.int r.1), r.2) := by
  unfold b_43_4 at hb
  refine rn_iload_n (i := 3) rfl rfl ?_
  refine rn_aload_n (i := 0) rfl rfl ?_
  refine rn_gQ (c := 3) (k := 2) rfl (by decide) hb (fun x1 hb => ?_)
  refine rn_gI (c := 4) (k := 5) rfl (by decide) hb (fun x2 hb => ?_)
  refine rn_icmp_ge rfl rfl (fun hc => ?_) (fun hc => ?_)
  · exact u_43_68 d hd v0 v1 v2 v3 v4  h _ (if_t hb hc)
  · exact u_43_15 d hd k4 K4 v0 v1 v2 v3 v4  h _ (if_f hb hc)
def l_43_4 : Nat → Option Nat → Option Nat → Int32 → Int32 → Hp → Option (Int32 × Hp)
  | 0, _, _, _, _, _ => none
  | n + 1, v0, v1, v2, v3, h => b_43_4 (l_43_4 n) v0 v1 v2 v3 h
theorem w_43_4 (d : Nat) (hd : 1 ≤ d) : ∀ (n : Nat) (v0 : Option Nat) (v1 : Option Nat) (v2 : Int32) (v3 : Int32) (v4 : Option (Int32)) (h : Hp) (r : Int32 × Hp), l_43_4 n v0 v1 v2 v3 h = some r → Rn d 43 4 [some (va_rf v0), some (va_rf v1), some (.int v2), some (.int v3), v4.map Value.int] [] h (some (.int r.1), r.2) := by
  intro n
  induction n with
  | zero => intro v0 v1 v2 v3 v4 h r hb; cases hb
  | succ n ih => intro v0 v1 v2 v3 v4 h r hb; exact u_43_4 d hd (l_43_4 n) ih v0 v1 v2 v3 v4 h r hb
def b_43_0 (v0 : Option Nat) (v1 : Option Nat)  (h : Hp) : Option (Int32 × Hp) :=
  bnd ((nI 0)) fun x1 =>
  bnd ((nI 0)) fun x2 =>
  l_43_4 FU v0 v1 x1 x2 h
theorem u_43_0 (d : Nat) (hd : 1 ≤ d) (v0 : Option Nat) (v1 : Option Nat)  (h : Hp) (r : Int32 × Hp) (hb : b_43_0 v0 v1  h = some r) : Rn d 43 0 [some (va_rf v0), some (va_rf v1), none, none, none] [] h (some (.int r.1), r.2) := by
  unfold b_43_0 at hb
  refine rn_iconst (x := (nI 0)) rfl (by decide) ?_
  obtain ⟨x1, ex1, hb⟩ := bnd_spec hb
  refine rn_istore_n (i := 2) (L1 := [some (va_rf v0), some (va_rf v1), some (.int x1), none, none]) rfl (Nat.le_of_ble_eq_true rfl) (Or.inr (bd_wideR rfl)) (by rw [ex1]; rfl) ?_
  refine rn_iconst (x := (nI 0)) rfl (by decide) ?_
  obtain ⟨x2, ex2, hb⟩ := bnd_spec hb
  refine rn_istore_n (i := 3) (L1 := [some (va_rf v0), some (va_rf v1), some (.int x1), some (.int x2), none]) rfl (Nat.le_of_ble_eq_true rfl) (Or.inr rfl) (by rw [ex2]; rfl) ?_
  exact w_43_4 d hd FU v0 v1 x1 x2 (none : Option (Int32)) h _ hb
/-- BitingDoors$Hanger.bitingPairs([I)I -/
def f_43 (v0 : Option Nat) (v1 : Option Nat) (h : Hp) : Option (Int32 × Hp) := b_43_0 v0 v1 h
theorem t_43 (d : Nat) (hd : 1 ≤ d) (v0 : Option Nat) (v1 : Option Nat) (h : Hp) (r : Int32 × Hp) (hb : f_43 v0 v1 h = some r) : Rn d 43 0 [some (va_rf v0), some (va_rf v1), none, none, none] [] h (some (.int r.1), r.2) := by
  unfold f_43 at hb
  exact u_43_0 d hd v0 v1 h r hb
def b_45_49 (v0 : Option Nat)  (h : Hp) : Option (Int32 × Hp) :=
  (gQ 3 11 v0 h).bind fun x1 =>
  (grd (rC 3 v0 h)).bind fun _ =>
  (f_43 v0 x1 h).bind fun p2 =>
  some (p2.1, p2.2)
theorem u_45_49 (d : Nat) (hd : 2 ≤ d) (v0 : Option Nat) (v1 : Int32) (v2 : Int32)  (h : Hp) (r : Int32 × Hp) (hb : b_45_49 v0  h = some r) : Rn d 45 49 [some (va_rf v0), some (.int v1), some (.int v2)] [] h (some (.int r.1), r.2) := by
  unfold b_45_49 at hb
  obtain ⟨e, rfl⟩ : ∃ e, d = e + 1 := ⟨d - 1, by omega⟩
  refine rn_aload_n (i := 0) rfl rfl ?_
  refine rn_aload_n (i := 0) rfl rfl ?_
  refine rn_gQ (c := 3) (k := 11) rfl (by decide) hb (fun x1 hb => ?_)
  obtain ⟨hrc, hb⟩ := grd_spec hb
  obtain ⟨p2, hc, hb⟩ := Option.bind_eq_some_iff.mp hb
  refine Rn.call1 (d := e) (As := [va_rf v0, va_rf x1]) (rest := []) rfl rfl rfl (by decide) rfl rfl rfl (bd_rcV hrc rfl) (by decide) (bd_lenC (n := 5) rfl (bd_slR (bd_slR bd_slN)) rfl) (bd_locC (n := 5) rfl (bd_slR (bd_slR bd_slN)) rfl (t_43 e (by omega) v0 x1 h _ hc)) ?_
  obtain rfl := Option.some.inj hb
  exact rn_iret rfl rfl
def b_45_42 (k2 : Option Nat → Int32 → Int32 → Hp → Option (Int32 × Hp)) (v0 : Option Nat) (v1 : Int32) (v2 : Int32) (s0 : Option Nat) (s1 : Int32) (s2 : Int32) (h : Hp) : Option (Int32 × Hp) :=
  (wI s0 s1 s2 h).bind fun h1 =>
  bnd (v2 + (nI 1)) fun x2 =>
  k2 v0 v1 x2 h1
theorem u_45_42 (d : Nat) (hd : 2 ≤ d) (k2 : Option Nat → Int32 → Int32 → Hp → Option (Int32 × Hp)) (K2 : ∀ (v0 : Option Nat) (v1 : Int32) (v2 : Int32) (h : Hp) (r : Int32 × Hp), k2 v0 v1 v2 h = some r → Rn d 45 2 [some (va_rf v0), some (.int v1), some (.int v2)] [] h (some (.int r.1), r.2)) (v0 : Option Nat) (v1 : Int32) (v2 : Int32) (s0 : Option Nat) (s1 : Int32) (s2 : Int32) (h : Hp) (r : Int32 × Hp) (hb : b_45_42 k2 v0 v1 v2 s0 s1 s2 h = some r) : Rn d 45 42 [some (va_rf v0), some (.int v1), some (.int v2)] [.int s2, .int s1, va_rf s0] h (some (.int r.1), r.2) := by
  unfold b_45_42 at hb
  refine rn_wI rfl hb (fun h1 hb => ?_)
  obtain ⟨x2, ex2, hb⟩ := bnd_spec hb
  refine rn_iinc (i := 2) (y := x2) (L1 := [some (va_rf v0), some (.int v1), some (.int x2)]) rfl rfl (Nat.le_of_ble_eq_true rfl) (Or.inr rfl) (by rw [ex2]; rfl) rfl ?_
  refine rn_goto rfl rfl ?_
  exact K2 v0 v1 x2 h1 _ hb
def b_45_36 (k2 : Option Nat → Int32 → Int32 → Hp → Option (Int32 × Hp)) (v0 : Option Nat) (v1 : Int32) (v2 : Int32) (s0 : Option Nat) (s1 : Int32) (h : Hp) : Option (Int32 × Hp) :=
  (gQ 3 3 v0 h).bind fun x1 =>
  (aI 12 x1 v2 h).bind fun x2 =>
  b_45_42 k2 v0 v1 v2 s0 s1 x2 h
theorem u_45_36 (d : Nat) (hd : 2 ≤ d) (k2 : Option Nat → Int32 → Int32 → Hp → Option (Int32 × Hp)) (K2 : ∀ (v0 : Option Nat) (v1 : Int32) (v2 : Int32) (h : Hp) (r : Int32 × Hp), k2 v0 v1 v2 h = some r → Rn d 45 2 [some (va_rf v0), some (.int v1), some (.int v2)] [] h (some (.int r.1), r.2)) (v0 : Option Nat) (v1 : Int32) (v2 : Int32) (s0 : Option Nat) (s1 : Int32) (h : Hp) (r : Int32 × Hp) (hb : b_45_36 k2 v0 v1 v2 s0 s1 h = some r) : Rn d 45 36 [some (va_rf v0), some (.int v1), some (.int v2)] [.int s1, va_rf s0] h (some (.int r.1), r.2) := by
  unfold b_45_36 at hb
  refine rn_aload_n (i := 0) rfl rfl ?_
  refine rn_gQ (c := 3) (k := 3) rfl (by decide) hb (fun x1 hb => ?_)
  refine rn_iload_n (i := 2) rfl rfl ?_
  refine rn_aI rfl hb (fun x2 hb => ?_)
  exact u_45_42 d hd k2 K2 v0 v1 v2 s0 s1 x2 h _ hb
def b_45_27 (k2 : Option Nat → Int32 → Int32 → Hp → Option (Int32 × Hp)) (v0 : Option Nat) (v1 : Int32) (v2 : Int32) (s0 : Option Nat) (s1 : Int32) (h : Hp) : Option (Int32 × Hp) :=
  (gQ 3 4 v0 h).bind fun x1 =>
  (aI 12 x1 v2 h).bind fun x2 =>
  b_45_42 k2 v0 v1 v2 s0 s1 x2 h
theorem u_45_27 (d : Nat) (hd : 2 ≤ d) (k2 : Option Nat → Int32 → Int32 → Hp → Option (Int32 × Hp)) (K2 : ∀ (v0 : Option Nat) (v1 : Int32) (v2 : Int32) (h : Hp) (r : Int32 × Hp), k2 v0 v1 v2 h = some r → Rn d 45 2 [some (va_rf v0), some (.int v1), some (.int v2)] [] h (some (.int r.1), r.2)) (v0 : Option Nat) (v1 : Int32) (v2 : Int32) (s0 : Option Nat) (s1 : Int32) (h : Hp) (r : Int32 × Hp) (hb : b_45_27 k2 v0 v1 v2 s0 s1 h = some r) : Rn d 45 27 [some (va_rf v0), some (.int v1), some (.int v2)] [.int s1, va_rf s0] h (some (.int r.1), r.2) := by
  unfold b_45_27 at hb
  refine rn_aload_n (i := 0) rfl rfl ?_
  refine rn_gQ (c := 3) (k := 4) rfl (by decide) hb (fun x1 hb => ?_)
  refine rn_iload_n (i := 2) rfl rfl ?_
  refine rn_aI rfl hb (fun x2 hb => ?_)
  refine rn_goto rfl rfl ?_
  exact u_45_42 d hd k2 K2 v0 v1 v2 s0 s1 x2 h _ hb
def b_45_13 (k2 : Option Nat → Int32 → Int32 → Hp → Option (Int32 × Hp)) (v0 : Option Nat) (v1 : Int32) (v2 : Int32)  (h : Hp) : Option (Int32 × Hp) :=
  (gQ 3 11 v0 h).bind fun x1 =>
  if ¬ ((v1 >>> (v2 &&& 31)) &&& (nI 1)) = (nI 1) then b_45_36 k2 v0 v1 v2 x1 v2 h else b_45_27 k2 v0 v1 v2 x1 v2 h
theorem u_45_13 (d : Nat) (hd : 2 ≤ d) (k2 : Option Nat → Int32 → Int32 → Hp → Option (Int32 × Hp)) (K2 : ∀ (v0 : Option Nat) (v1 : Int32) (v2 : Int32) (h : Hp) (r : Int32 × Hp), k2 v0 v1 v2 h = some r → Rn d 45 2 [some (va_rf v0), some (.int v1), some (.int v2)] [] h (some (.int r.1), r.2)) (v0 : Option Nat) (v1 : Int32) (v2 : Int32)  (h : Hp) (r : Int32 × Hp) (hb : b_45_13 k2 v0 v1 v2  h = some r) : Rn d 45 13 [some (va_rf v0), some (.int v1), some (.int v2)] [] h (some (.int r.1), r.2) := by
  unfold b_45_13 at hb
  refine rn_aload_n (i := 0) rfl rfl ?_
  refine rn_gQ (c := 3) (k := 11) rfl (by decide) hb (fun x1 hb => ?_)
  refine rn_iload_n (i := 2) rfl rfl ?_
  refine rn_iload_n (i := 1) rfl rfl ?_
  refine rn_iload_n (i := 2) rfl rfl ?_
  refine rn_ishr rfl ?_
  refine rn_iconst (x := (nI 1)) rfl (by decide) ?_
  refine rn_iand rfl ?_
  refine rn_iconst (x := (nI 1)) rfl (by decide) ?_
  refine rn_icmp_ne rfl rfl (fun hc => ?_) (fun hc => ?_)
  · exact u_45_36 d hd k2 K2 v0 v1 v2 x1 v2 h _ (if_t hb hc)
  · exact u_45_27 d hd k2 K2 v0 v1 v2 x1 v2 h _ (if_f hb hc)
def b_45_2 (k2 : Option Nat → Int32 → Int32 → Hp → Option (Int32 × Hp)) (v0 : Option Nat) (v1 : Int32) (v2 : Int32)  (h : Hp) : Option (Int32 × Hp) :=
  (gQ 3 2 v0 h).bind fun x1 =>
  (gI 4 5 x1 h).bind fun x2 =>
  if x2 ≤ v2 then b_45_49 v0  h else b_45_13 k2 v0 v1 v2  h
theorem u_45_2 (d : Nat) (hd : 2 ≤ d) (k2 : Option Nat → Int32 → Int32 → Hp → Option (Int32 × Hp)) (K2 : ∀ (v0 : Option Nat) (v1 : Int32) (v2 : Int32) (h : Hp) (r : Int32 × Hp), k2 v0 v1 v2 h = some r → Rn d 45 2 [some (va_rf v0), some (.int v1), some (.int v2)] [] h (some (.int r.1), r.2)) (v0 : Option Nat) (v1 : Int32) (v2 : Int32)  (h : Hp) (r : Int32 × Hp) (hb : b_45_2 k2 v0 v1 v2  h = some r) : Rn d 45 2 [some (va_rf v0), some (.int v1), some (.int v2)] [] h (some (.int r.1), r.2) := by
  unfold b_45_2 at hb
  refine rn_iload_n (i := 2) rfl rfl ?_
  refine rn_aload_n (i := 0) rfl rfl ?_
  refine rn_gQ (c := 3) (k := 2) rfl (by decide) hb (fun x1 hb => ?_)
  refine rn_gI (c := 4) (k := 5) rfl (by decide) hb (fun x2 hb => ?_)
  refine rn_icmp_ge rfl rfl (fun hc => ?_) (fun hc => ?_)
  · exact u_45_49 d hd v0 v1 v2  h _ (if_t hb hc)
  · exact u_45_13 d hd k2 K2 v0 v1 v2  h _ (if_f hb hc)
def l_45_2 : Nat → Option Nat → Int32 → Int32 → Hp → Option (Int32 × Hp)
  | 0, _, _, _, _ => none
  | n + 1, v0, v1, v2, h => b_45_2 (l_45_2 n) v0 v1 v2 h
theorem w_45_2 (d : Nat) (hd : 2 ≤ d) : ∀ (n : Nat) (v0 : Option Nat) (v1 : Int32) (v2 : Int32) (h : Hp) (r : Int32 × Hp), l_45_2 n v0 v1 v2 h = some r → Rn d 45 2 [some (va_rf v0), some (.int v1), some (.int v2)] [] h (some (.int r.1), r.2) := by
  intro n
  induction n with
  | zero => intro v0 v1 v2 h r hb; cases hb
  | succ n ih => intro v0 v1 v2 h r hb; exact u_45_2 d hd (l_45_2 n) ih v0 v1 v2 h r hb
def b_45_0 (v0 : Option Nat) (v1 : Int32)  (h : Hp) : Option (Int32 × Hp) :=
  bnd ((nI 0)) fun x1 =>
  l_45_2 FU v0 v1 x1 h
theorem u_45_0 (d : Nat) (hd : 2 ≤ d) (v0 : Option Nat) (v1 : Int32)  (h : Hp) (r : Int32 × Hp) (hb : b_45_0 v0 v1  h = some r) : Rn d 45 0 [some (va_rf v0), some (.int v1), none] [] h (some (.int r.1), r.2) := by
  unfold b_45_0 at hb
  refine rn_iconst (x := (nI 0)) rfl (by decide) ?_
  obtain ⟨x1, ex1, hb⟩ := bnd_spec hb
  refine rn_istore_n (i := 2) (L1 := [some (va_rf v0), some (.int v1), some (.int x1)]) rfl (Nat.le_of_ble_eq_true rfl) (Or.inr rfl) (by rw [ex1]; rfl) ?_
  exact w_45_2 d hd FU v0 v1 x1 h _ hb
/-- BitingDoors$Hanger.pairsBehind(I)I -/
def f_45 (v0 : Option Nat) (v1 : Int32) (h : Hp) : Option (Int32 × Hp) := b_45_0 v0 v1 h
theorem t_45 (d : Nat) (hd : 2 ≤ d) (v0 : Option Nat) (v1 : Int32) (h : Hp) (r : Int32 × Hp) (hb : f_45 v0 v1 h = some r) : Rn d 45 0 [some (va_rf v0), some (.int v1), none] [] h (some (.int r.1), r.2) := by
  unfold f_45 at hb
  exact u_45_0 d hd v0 v1 h r hb
def b_46_63 (v3 : Int32)  (h : Hp) : Option (Int32 × Hp) :=
  some (v3, h)
theorem u_46_63 (d : Nat) (hd : 0 ≤ d) (v0 : Option Nat) (v1 : Int32) (v2 : Int32) (v3 : Int32) (v4 : Int32)  (h : Hp) (r : Int32 × Hp) (hb : b_46_63 v3  h = some r) : Rn d 46 63 [some (va_rf v0), some (.int v1), some (.int v2), some (.int v3), some (.int v4)] [] h (some (.int r.1), r.2) := by
  unfold b_46_63 at hb
  refine rn_iload_n (i := 3) rfl rfl ?_
  obtain rfl := Option.some.inj hb
  exact rn_iret rfl rfl
def b_46_57 (k15 : Option Nat → Int32 → Int32 → Int32 → Int32 → Hp → Option (Int32 × Hp)) (v0 : Option Nat) (v1 : Int32) (v2 : Int32) (v3 : Int32) (v4 : Int32)  (h : Hp) : Option (Int32 × Hp) :=
  bnd (v4 + (nI 1)) fun x1 =>
  k15 v0 v1 v2 v3 x1 h
theorem u_46_57 (d : Nat) (hd : 0 ≤ d) (k15 : Option Nat → Int32 → Int32 → Int32 → Int32 → Hp → Option (Int32 × Hp)) (K15 : ∀ (v0 : Option Nat) (v1 : Int32) (v2 : Int32) (v3 : Int32) (v4 : Int32) (h : Hp) (r : Int32 × Hp), k15 v0 v1 v2 v3 v4 h = some r → Rn d 46 15 [some (va_rf v0), some (.int v1), some (.int v2), some (.int v3), some (.int v4)] [] h (some (.int r.1), r.2)) (v0 : Option Nat) (v1 : Int32) (v2 : Int32) (v3 : Int32) (v4 : Int32)  (h : Hp) (r : Int32 × Hp) (hb : b_46_57 k15 v0 v1 v2 v3 v4  h = some r) : Rn d 46 57 [some (va_rf v0), some (.int v1), some (.int v2), some (.int v3), some (.int v4)] [] h (some (.int r.1), r.2) := by
  unfold b_46_57 at hb
  obtain ⟨x1, ex1, hb⟩ := bnd_spec hb
  refine rn_iinc (i := 4) (y := x1) (L1 := [some (va_rf v0), some (.int v1), some (.int v2), some (.int v3), some (.int x1)]) rfl rfl (Nat.le_of_ble_eq_true rfl) (Or.inr rfl) (by rw [ex1]; rfl) rfl ?_
  refine rn_goto rfl rfl ?_
  exact K15 v0 v1 v2 v3 x1 h _ hb
def b_46_41 (k15 : Option Nat → Int32 → Int32 → Int32 → Int32 → Hp → Option (Int32 × Hp)) (v0 : Option Nat) (v1 : Int32) (v2 : Int32) (v3 : Int32) (v4 : Int32)  (h : Hp) : Option (Int32 × Hp) :=
  (gQ 3 15 v0 h).bind fun x1 =>
  (aI 12 x1 (v1 ||| ((nI 1) <<< (v4 &&& 31))) h).bind fun x2 =>
  bnd ((if x2 < v3 then x2 else v3)) fun x3 =>
  b_46_57 k15 v0 v1 v2 x3 v4  h
theorem u_46_41 (d : Nat) (hd : 0 ≤ d) (k15 : Option Nat → Int32 → Int32 → Int32 → Int32 → Hp → Option (Int32 × Hp)) (K15 : ∀ (v0 : Option Nat) (v1 : Int32) (v2 : Int32) (v3 : Int32) (v4 : Int32) (h : Hp) (r : Int32 × Hp), k15 v0 v1 v2 v3 v4 h = some r → Rn d 46 15 [some (va_rf v0), some (.int v1), some (.int v2), some (.int v3), some (.int v4)] [] h (some (.int r.1), r.2)) (v0 : Option Nat) (v1 : Int32) (v2 : Int32) (v3 : Int32) (v4 : Int32)  (h : Hp) (r : Int32 × Hp) (hb : b_46_41 k15 v0 v1 v2 v3 v4  h = some r) : Rn d 46 41 [some (va_rf v0), some (.int v1), some (.int v2), some (.int v3), some (.int v4)] [] h (some (.int r.1), r.2) := by
  unfold b_46_41 at hb
  refine rn_iload_n (i := 3) rfl rfl ?_
  refine rn_aload_n (i := 0) rfl rfl ?_
  refine rn_gQ (c := 3) (k := 15) rfl (by decide) hb (fun x1 hb => ?_)
  refine rn_iload_n (i := 1) rfl rfl ?_
  refine rn_iconst (x := (nI 1)) rfl (by decide) ?_
  refine rn_iload (i := 4) rfl rfl ?_
  refine rn_ishl rfl ?_
  refine rn_ior rfl ?_
  refine rn_aI rfl hb (fun x2 hb => ?_)
  refine rn_mm (f := fun x y => if y < x then y else x) rfl (Or.inr ⟨rfl, rfl⟩) (by decide) ?_
  obtain ⟨x3, ex3, hb⟩ := bnd_spec hb
  refine rn_istore_n (i := 3) (L1 := [some (va_rf v0), some (.int v1), some (.int v2), some (.int x3), some (.int v4)]) rfl (Nat.le_of_ble_eq_true rfl) (Or.inr rfl) (by rw [ex3]; rfl) ?_
  exact u_46_57 d hd k15 K15 v0 v1 v2 x3 v4  h _ hb
def b_46_27 (k15 : Option Nat → Int32 → Int32 → Int32 → Int32 → Hp → Option (Int32 × Hp)) (v0 : Option Nat) (v1 : Int32) (v2 : Int32) (v3 : Int32) (v4 : Int32)  (h : Hp) : Option (Int32 × Hp) :=
  if ¬ (((v2 &&& (v1 ^^^ (-1 : Int32))) >>> (v4 &&& 31)) &&& (nI 1)) = (nI 1) then b_46_57 k15 v0 v1 v2 v3 v4  h else b_46_41 k15 v0 v1 v2 v3 v4  h
theorem u_46_27 (d : Nat) (hd : 0 ≤ d) (k15 : Option Nat → Int32 → Int32 → Int32 → Int32 → Hp → Option (Int32 × Hp)) (K15 : ∀ (v0 : Option Nat) (v1 : Int32) (v2 : Int32) (v3 : Int32) (v4 : Int32) (h : Hp) (r : Int32 × Hp), k15 v0 v1 v2 v3 v4 h = some r → Rn d 46 15 [some (va_rf v0), some (.int v1), some (.int v2), some (.int v3), some (.int v4)] [] h (some (.int r.1), r.2)) (v0 : Option Nat) (v1 : Int32) (v2 : Int32) (v3 : Int32) (v4 : Int32)  (h : Hp) (r : Int32 × Hp) (hb : b_46_27 k15 v0 v1 v2 v3 v4  h = some r) : Rn d 46 27 [some (va_rf v0), some (.int v1), some (.int v2), some (.int v3), some (.int v4)] [] h (some (.int r.1), r.2) := by
  unfold b_46_27 at hb
  refine rn_iload_n (i := 2) rfl rfl ?_
  refine rn_iload_n (i := 1) rfl rfl ?_
  refine rn_iconst (x := (-1 : Int32)) rfl (by decide) ?_
  refine rn_ixor rfl ?_
  refine rn_iand rfl ?_
  refine rn_iload (i := 4) rfl rfl ?_
  refine rn_ishr rfl ?_
  refine rn_iconst (x := (nI 1)) rfl (by decide) ?_
  refine rn_iand rfl ?_
  refine rn_iconst (x := (nI 1)) rfl (by decide) ?_
  refine rn_icmp_ne rfl rfl (fun hc => ?_) (fun hc => ?_)
  · exact u_46_57 d hd k15 K15 v0 v1 v2 v3 v4  h _ (if_t hb hc)
  · exact u_46_41 d hd k15 K15 v0 v1 v2 v3 v4  h _ (if_f hb hc)
def b_46_15 (k15 : Option Nat → Int32 → Int32 → Int32 → Int32 → Hp → Option (Int32 × Hp)) (v0 : Option Nat) (v1 : Int32) (v2 : Int32) (v3 : Int32) (v4 : Int32)  (h : Hp) : Option (Int32 × Hp) :=
  (gQ 3 2 v0 h).bind fun x1 =>
  (gI 4 5 x1 h).bind fun x2 =>
  if x2 ≤ v4 then b_46_63 v3  h else b_46_27 k15 v0 v1 v2 v3 v4  h
theorem u_46_15 (d : Nat) (hd : 0 ≤ d) (k15 : Option Nat → Int32 → Int32 → Int32 → Int32 → Hp → Option (Int32 × Hp)) (K15 : ∀ (v0 : Option Nat) (v1 : Int32) (v2 : Int32) (v3 : Int32) (v4 : Int32) (h : Hp) (r : Int32 × Hp), k15 v0 v1 v2 v3 v4 h = some r → Rn d 46 15 [some (va_rf v0), some (.int v1), some (.int v2), some (.int v3), some (.int v4)] [] h (some (.int r.1), r.2)) (v0 : Option Nat) (v1 : Int32) (v2 : Int32) (v3 : Int32) (v4 : Int32)  (h : Hp) (r : Int32 × Hp) (hb : b_46_15 k15 v0 v1 v2 v3 v4  h = some r) : Rn d 46 15 [some (va_rf v0), some (.int v1), some (.int v2), some (.int v3), some (.int v4)] [] h (some (.int r.1), r.2) := by
  unfold b_46_15 at hb
  refine rn_iload (i := 4) rfl rfl ?_
  refine rn_aload_n (i := 0) rfl rfl ?_
  refine rn_gQ (c := 3) (k := 2) rfl (by decide) hb (fun x1 hb => ?_)
  refine rn_gI (c := 4) (k := 5) rfl (by decide) hb (fun x2 hb => ?_)
  refine rn_icmp_ge rfl rfl (fun hc => ?_) (fun hc => ?_)
  · exact u_46_63 d hd v0 v1 v2 v3 v4  h _ (if_t hb hc)
  · exact u_46_27 d hd k15 K15 v0 v1 v2 v3 v4  h _ (if_f hb hc)
def l_46_15 : Nat → Option Nat → Int32 → Int32 → Int32 → Int32 → Hp → Option (Int32 × Hp)
  | 0, _, _, _, _, _, _ => none
  | n + 1, v0, v1, v2, v3, v4, h => b_46_15 (l_46_15 n) v0 v1 v2 v3 v4 h
theorem w_46_15 (d : Nat) (hd : 0 ≤ d) : ∀ (n : Nat) (v0 : Option Nat) (v1 : Int32) (v2 : Int32) (v3 : Int32) (v4 : Int32) (h : Hp) (r : Int32 × Hp), l_46_15 n v0 v1 v2 v3 v4 h = some r → Rn d 46 15 [some (va_rf v0), some (.int v1), some (.int v2), some (.int v3), some (.int v4)] [] h (some (.int r.1), r.2) := by
  intro n
  induction n with
  | zero => intro v0 v1 v2 v3 v4 h r hb; cases hb
  | succ n ih => intro v0 v1 v2 v3 v4 h r hb; exact u_46_15 d hd (l_46_15 n) ih v0 v1 v2 v3 v4 h r hb
def b_46_11 (v0 : Option Nat) (v1 : Int32) (v2 : Int32) (s0 : Int32) (h : Hp) : Option (Int32 × Hp) :=
  bnd ((nI 0)) fun x1 =>
  l_46_15 FU v0 v1 v2 s0 x1 h
theorem u_46_11 (d : Nat) (hd : 0 ≤ d) (v0 : Option Nat) (v1 : Int32) (v2 : Int32) (s0 : Int32) (h : Hp) (r : Int32 × Hp) (hb : b_46_11 v0 v1 v2 s0 h = some r) : Rn d 46 11 [some (va_rf v0), some (.int v1), some (.int v2), none, none] [.int s0] h (some (.int r.1), r.2) := by
  unfold b_46_11 at hb
  refine rn_istore_n (i := 3) (L1 := [some (va_rf v0), some (.int v1), some (.int v2), some (.int s0), none]) rfl (Nat.le_of_ble_eq_true rfl) (Or.inr rfl) rfl ?_
  refine rn_iconst (x := (nI 0)) rfl (by decide) ?_
  obtain ⟨x1, ex1, hb⟩ := bnd_spec hb
  refine rn_istore (i := 4) (L1 := [some (va_rf v0), some (.int v1), some (.int v2), some (.int s0), some (.int x1)]) rfl (Nat.le_of_ble_eq_true rfl) (Or.inr rfl) (by rw [ex1]; rfl) ?_
  exact w_46_15 d hd FU v0 v1 v2 s0 x1 h _ hb
def b_46_9 (v0 : Option Nat) (v1 : Int32) (v2 : Int32)  (h : Hp) : Option (Int32 × Hp) :=
  b_46_11 v0 v1 v2 (nI 1073741824) h
theorem u_46_9 (d : Nat) (hd : 0 ≤ d) (v0 : Option Nat) (v1 : Int32) (v2 : Int32)  (h : Hp) (r : Int32 × Hp) (hb : b_46_9 v0 v1 v2  h = some r) : Rn d 46 9 [some (va_rf v0), some (.int v1), some (.int v2), none, none] [] h (some (.int r.1), r.2) := by
  unfold b_46_9 at hb
  refine rn_ldc (x := (nI 1073741824)) rfl (by decide) ?_
  exact u_46_11 d hd v0 v1 v2 (nI 1073741824) h _ hb
def b_46_5 (v0 : Option Nat) (v1 : Int32) (v2 : Int32)  (h : Hp) : Option (Int32 × Hp) :=
  b_46_11 v0 v1 v2 (nI 0) h
theorem u_46_5 (d : Nat) (hd : 0 ≤ d) (v0 : Option Nat) (v1 : Int32) (v2 : Int32)  (h : Hp) (r : Int32 × Hp) (hb : b_46_5 v0 v1 v2  h = some r) : Rn d 46 5 [some (va_rf v0), some (.int v1), some (.int v2), none, none] [] h (some (.int r.1), r.2) := by
  unfold b_46_5 at hb
  refine rn_iconst (x := (nI 0)) rfl (by decide) ?_
  refine rn_goto rfl rfl ?_
  exact u_46_11 d hd v0 v1 v2 (nI 0) h _ hb
def b_46_0 (v0 : Option Nat) (v1 : Int32) (v2 : Int32)  (h : Hp) : Option (Int32 × Hp) :=
  if ¬ v1 = v2 then b_46_9 v0 v1 v2  h else b_46_5 v0 v1 v2  h
theorem u_46_0 (d : Nat) (hd : 0 ≤ d) (v0 : Option Nat) (v1 : Int32) (v2 : Int32)  (h : Hp) (r : Int32 × Hp) (hb : b_46_0 v0 v1 v2  h = some r) : Rn d 46 0 [some (va_rf v0), some (.int v1), some (.int v2), none, none] [] h (some (.int r.1), r.2) := by
  unfold b_46_0 at hb
  refine rn_iload_n (i := 1) rfl rfl ?_
  refine rn_iload_n (i := 2) rfl rfl ?_
  refine rn_icmp_ne rfl rfl (fun hc => ?_) (fun hc => ?_)
  · exact u_46_9 d hd v0 v1 v2  h _ (if_t hb hc)
  · exact u_46_5 d hd v0 v1 v2  h _ (if_f hb hc)
/-- BitingDoors$Hanger.leastPeakBehind(II)I -/
def f_46 (v0 : Option Nat) (v1 : Int32) (v2 : Int32) (h : Hp) : Option (Int32 × Hp) := b_46_0 v0 v1 v2 h
theorem t_46 (d : Nat) (hd : 0 ≤ d) (v0 : Option Nat) (v1 : Int32) (v2 : Int32) (h : Hp) (r : Int32 × Hp) (hb : f_46 v0 v1 v2 h = some r) : Rn d 46 0 [some (va_rf v0), some (.int v1), some (.int v2), none, none] [] h (some (.int r.1), r.2) := by
  unfold f_46 at hb
  exact u_46_0 d hd v0 v1 v2 h r hb
def b_48_34  (s0 : Int32) (h : Hp) : Option (Int32 × Hp) :=
  (grd (decide (s0 = 0 ∨ s0 = 1))).bind fun _ => some (s0, h)
theorem u_48_34 (d : Nat) (hd : 0 ≤ d) (v0 : Option Nat) (v1 : Int32) (v2 : Int32) (v3 : Int32) (v4 : Int32) (s0 : Int32) (h : Hp) (r : Int32 × Hp) (hb : b_48_34  s0 h = some r) : Rn d 48 34 [some (va_rf v0), some (.int v1), some (.int v2), some (.int v3), some (.int v4)] [.int s0] h (some (.int r.1), r.2) := by
  unfold b_48_34 at hb
  obtain ⟨hz, hb⟩ := grd_spec hb
  obtain rfl := Option.some.inj hb
  exact rn_zret rfl rfl (of_decide_eq_true hz)
def b_48_33   (h : Hp) : Option (Int32 × Hp) :=
  b_48_34  (nI 0) h
theorem u_48_33 (d : Nat) (hd : 0 ≤ d) (v0 : Option Nat) (v1 : Int32) (v2 : Int32) (v3 : Int32) (v4 : Int32)  (h : Hp) (r : Int32 × Hp) (hb : b_48_33   h = some r) : Rn d 48 33 [some (va_rf v0), some (.int v1), some (.int v2), some (.int v3), some (.int v4)] [] h (some (.int r.1), r.2) := by
  unfold b_48_33 at hb
  refine rn_iconst (x := (nI 0)) rfl (by decide) ?_
  exact u_48_34 d hd v0 v1 v2 v3 v4 (nI 0) h _ hb
def b_48_29   (h : Hp) : Option (Int32 × Hp) :=
  b_48_34  (nI 1) h
theorem u_48_29 (d : Nat) (hd : 0 ≤ d) (v0 : Option Nat) (v1 : Int32) (v2 : Int32) (v3 : Int32) (v4 : Int32)  (h : Hp) (r : Int32 × Hp) (hb : b_48_29   h = some r) : Rn d 48 29 [some (va_rf v0), some (.int v1), some (.int v2), some (.int v3), some (.int v4)] [] h (some (.int r.1), r.2) := by
  unfold b_48_29 at hb
  refine rn_iconst (x := (nI 1)) rfl (by decide) ?_
  refine rn_goto rfl rfl ?_
  exact u_48_34 d hd v0 v1 v2 v3 v4 (nI 1) h _ hb
def b_48_14 (v0 : Option Nat) (v1 : Int32) (v2 : Int32) (v4 : Int32)  (h : Hp) : Option (Int32 × Hp) :=
  (gQ 3 15 v0 h).bind fun x1 =>
  (aI 12 x1 (v2 ||| ((nI 1) <<< (v4 &&& 31))) h).bind fun x2 =>
  if v1 < x2 then b_48_33   h else b_48_29   h
theorem u_48_14 (d : Nat) (hd : 0 ≤ d) (v0 : Option Nat) (v1 : Int32) (v2 : Int32) (v3 : Int32) (v4 : Int32)  (h : Hp) (r : Int32 × Hp) (hb : b_48_14 v0 v1 v2 v4  h = some r) : Rn d 48 14 [some (va_rf v0), some (.int v1), some (.int v2), some (.int v3), some (.int v4)] [] h (some (.int r.1), r.2) := by
  unfold b_48_14 at hb
  refine rn_aload_n (i := 0) rfl rfl ?_
  refine rn_gQ (c := 3) (k := 15) rfl (by decide) hb (fun x1 hb => ?_)
  refine rn_iload_n (i := 2) rfl rfl ?_
  refine rn_iconst (x := (nI 1)) rfl (by decide) ?_
  refine rn_iload (i := 4) rfl rfl ?_
  refine rn_ishl rfl ?_
  refine rn_ior rfl ?_
  refine rn_aI rfl hb (fun x2 hb => ?_)
  refine rn_iload_n (i := 1) rfl rfl ?_
  refine rn_icmp_gt rfl rfl (fun hc => ?_) (fun hc => ?_)
  · exact u_48_33 d hd v0 v1 v2 v3 v4  h _ (if_t hb hc)
  · exact u_48_29 d hd v0 v1 v2 v3 v4  h _ (if_f hb hc)
def b_48_0 (v0 : Option Nat) (v1 : Int32) (v2 : Int32) (v3 : Int32) (v4 : Int32)  (h : Hp) : Option (Int32 × Hp) :=
  if ¬ (((v3 &&& (v2 ^^^ (-1 : Int32))) >>> (v4 &&& 31)) &&& (nI 1)) = (nI 1) then b_48_33   h else b_48_14 v0 v1 v2 v4  h
theorem u_48_0 (d : Nat) (hd : 0 ≤ d) (v0 : Option Nat) (v1 : Int32) (v2 : Int32) (v3 : Int32) (v4 : Int32)  (h : Hp) (r : Int32 × Hp) (hb : b_48_0 v0 v1 v2 v3 v4  h = some r) : Rn d 48 0 [some (va_rf v0), some (.int v1), some (.int v2), some (.int v3), some (.int v4)] [] h (some (.int r.1), r.2) := by
  unfold b_48_0 at hb
  refine rn_iload_n (i := 3) rfl rfl ?_
  refine rn_iload_n (i := 2) rfl rfl ?_
  refine rn_iconst (x := (-1 : Int32)) rfl (by decide) ?_
  refine rn_ixor rfl ?_
  refine rn_iand rfl ?_
  refine rn_iload (i := 4) rfl rfl ?_
  refine rn_ishr rfl ?_
  refine rn_iconst (x := (nI 1)) rfl (by decide) ?_
  refine rn_iand rfl ?_
  refine rn_iconst (x := (nI 1)) rfl (by decide) ?_
  refine rn_icmp_ne rfl rfl (fun hc => ?_) (fun hc => ?_)
  · exact u_48_33 d hd v0 v1 v2 v3 v4  h _ (if_t hb hc)
  · exact u_48_14 d hd v0 v1 v2 v3 v4  h _ (if_f hb hc)
/-- BitingDoors$Hanger.leadsBelow(IIII)Z -/
def f_48 (v0 : Option Nat) (v1 : Int32) (v2 : Int32) (v3 : Int32) (v4 : Int32) (h : Hp) : Option (Int32 × Hp) := b_48_0 v0 v1 v2 v3 v4 h
theorem t_48 (d : Nat) (hd : 0 ≤ d) (v0 : Option Nat) (v1 : Int32) (v2 : Int32) (v3 : Int32) (v4 : Int32) (h : Hp) (r : Int32 × Hp) (hb : f_48 v0 v1 v2 v3 v4 h = some r) : Rn d 48 0 [some (va_rf v0), some (.int v1), some (.int v2), some (.int v3), some (.int v4)] [] h (some (.int r.1), r.2) := by
  unfold f_48 at hb
  exact u_48_0 d hd v0 v1 v2 v3 v4 h r hb
def b_47_96   (h : Hp) : Option (Hp) :=
  some h
theorem u_47_96 (d : Nat) (hd : 1 ≤ d) (v0 : Option Nat) (v1 : Int32) (v2 : Int32) (v3 : Int32) (v4 : Int32) (v5 : Option (Int32))  (h : Hp) (r : Hp) (hb : b_47_96   h = some r) : Rn d 47 96 [some (va_rf v0), some (.int v1), some (.int v2), some (.int v3), some (.int v4), v5.map Value.int] [] h (none, r) := by
  unfold b_47_96 at hb
  obtain rfl := Option.some.inj hb
  exact rn_vret rfl rfl
def b_47_62 (k10 : Option Nat → Int32 → Int32 → Int32 → Int32 → Hp → Option (Hp)) (v0 : Option Nat) (v1 : Int32) (v2 : Int32) (v3 : Int32) (v4 : Int32) (v5 : Int32)  (h : Hp) : Option (Hp) :=
  bnd ((v3 ||| ((nI 1) <<< (v5 &&& 31)))) fun x1 =>
  (gQ 3 8 v0 h).bind fun x2 =>
  (gI 3 9 v0 h).bind fun x3 =>
  (wI x2 x3 v5 h).bind fun h4 =>
  (gI 3 9 v0 h4).bind fun x5 =>
  (pI 3 9 v0 (x5 + (nI 1)) h4).bind fun h6 =>
  bnd (v4 + (nI 1)) fun x7 =>
  k10 v0 v1 v2 x1 x7 h6
theorem u_47_62 (d : Nat) (hd : 1 ≤ d) (k10 : Option Nat → Int32 → Int32 → Int32 → Int32 → Hp → Option (Hp)) (K10 : ∀ (v0 : Option Nat) (v1 : Int32) (v2 : Int32) (v3 : Int32) (v4 : Int32) (v5 : Option (Int32)) (h : Hp) (r : Hp), k10 v0 v1 v2 v3 v4 h = some r → Rn d 47 10 [some (va_rf v0), some (.int v1), some (.int v2), some (.int v3), some (.int v4), v5.map Value.int] [] h (none, r)) (v0 : Option Nat) (v1 : Int32) (v2 : Int32) (v3 : Int32) (v4 : Int32) (v5 : Int32)  (h : Hp) (r : Hp) (hb : b_47_62 k10 v0 v1 v2 v3 v4 v5  h = some r) : Rn d 47 62 [some (va_rf v0), some (.int v1), some (.int v2), some (.int v3), some (.int v4), some (.int v5)] [] h (none, r) := by
  unfold b_47_62 at hb
  refine rn_iload_n (i := 3) rfl rfl ?_
  refine rn_iconst (x := (nI 1)) rfl (by decide) ?_
  refine rn_iload (i := 5) rfl rfl ?_
  refine rn_ishl rfl ?_
  refine rn_ior rfl ?_
  obtain ⟨x1, ex1, hb⟩ := bnd_spec hb
  refine rn_istore_n (i := 3) (L1 := [some (va_rf v0), some (.int v1), some (.int v2), some (.int x1), some (.int v4), some (.int v5)]) rfl (Nat.le_of_ble_eq_true rfl) (Or.inr rfl) (by rw [ex1]; rfl) ?_
  refine rn_aload_n (i := 0) rfl rfl ?_
  refine rn_gQ (c := 3) (k := 8) rfl (by decide) hb (fun x2 hb => ?_)
  refine rn_aload_n (i := 0) rfl rfl ?_
  refine rn_gI (c := 3) (k := 9) rfl (by decide) hb (fun x3 hb => ?_)
  refine rn_iload (i := 5) rfl rfl ?_
  refine rn_wI rfl hb (fun h4 hb => ?_)
  refine rn_aload_n (i := 0) rfl rfl ?_
  refine rn_dup rfl (bd_cat_rf _) ?_
  refine rn_gI (c := 3) (k := 9) rfl (by decide) hb (fun x5 hb => ?_)
  refine rn_iconst (x := (nI 1)) rfl (by decide) ?_
  refine rn_iadd rfl ?_
  refine rn_pI (c := 3) (k := 9) rfl (by decide) hb (fun h6 hb => ?_)
  obtain ⟨x7, ex7, hb⟩ := bnd_spec hb
  refine rn_iinc (i := 4) (y := x7) (L1 := [some (va_rf v0), some (.int v1), some (.int v2), some (.int x1), some (.int x7), some (.int v5)]) rfl rfl (Nat.le_of_ble_eq_true rfl) (Or.inr rfl) (by rw [ex7]; rfl) rfl ?_
  refine rn_goto rfl rfl ?_
  exact K10 v0 v1 v2 x1 x7 (some v5) h6 _ hb
def b_47_56 (k10 : Option Nat → Int32 → Int32 → Int32 → Int32 → Hp → Option (Hp)) (k30 : Option Nat → Int32 → Int32 → Int32 → Int32 → Int32 → Hp → Option (Hp)) (v0 : Option Nat) (v1 : Int32) (v2 : Int32) (v3 : Int32) (v4 : Int32) (v5 : Int32)  (h : Hp) : Option (Hp) :=
  bnd (v5 + (nI 1)) fun x1 =>
  k30 v0 v1 v2 v3 v4 x1 h
theorem u_47_56 (d : Nat) (hd : 1 ≤ d) (k10 : Option Nat → Int32 → Int32 → Int32 → Int32 → Hp → Option (Hp)) (K10 : ∀ (v0 : Option Nat) (v1 : Int32) (v2 : Int32) (v3 : Int32) (v4 : Int32) (v5 : Option (Int32)) (h : Hp) (r : Hp), k10 v0 v1 v2 v3 v4 h = some r → Rn d 47 10 [some (va_rf v0), some (.int v1), some (.int v2), some (.int v3), some (.int v4), v5.map Value.int] [] h (none, r)) (k30 : Option Nat → Int32 → Int32 → Int32 → Int32 → Int32 → Hp → Option (Hp)) (K30 : ∀ (v0 : Option Nat) (v1 : Int32) (v2 : Int32) (v3 : Int32) (v4 : Int32) (v5 : Int32) (h : Hp) (r : Hp), k30 v0 v1 v2 v3 v4 v5 h = some r → Rn d 47 30 [some (va_rf v0), some (.int v1), some (.int v2), some (.int v3), some (.int v4), some (.int v5)] [] h (none, r)) (v0 : Option Nat) (v1 : Int32) (v2 : Int32) (v3 : Int32) (v4 : Int32) (v5 : Int32)  (h : Hp) (r : Hp) (hb : b_47_56 k10 k30 v0 v1 v2 v3 v4 v5  h = some r) : Rn d 47 56 [some (va_rf v0), some (.int v1), some (.int v2), some (.int v3), some (.int v4), some (.int v5)] [] h (none, r) := by
  unfold b_47_56 at hb
  obtain ⟨x1, ex1, hb⟩ := bnd_spec hb
  refine rn_iinc (i := 5) (y := x1) (L1 := [some (va_rf v0), some (.int v1), some (.int v2), some (.int v3), some (.int v4), some (.int x1)]) rfl rfl (Nat.le_of_ble_eq_true rfl) (Or.inr rfl) (by rw [ex1]; rfl) rfl ?_
  refine rn_goto rfl rfl ?_
  exact K30 v0 v1 v2 v3 v4 x1 h _ hb
def b_47_44 (k10 : Option Nat → Int32 → Int32 → Int32 → Int32 → Hp → Option (Hp)) (k30 : Option Nat → Int32 → Int32 → Int32 → Int32 → Int32 → Hp → Option (Hp)) (v0 : Option Nat) (v1 : Int32) (v2 : Int32) (v3 : Int32) (v4 : Int32) (v5 : Int32)  (h : Hp) : Option (Hp) :=
  (grd (rC 3 v0 h)).bind fun _ =>
  (f_48 v0 v1 v3 v2 v5 h).bind fun p1 =>
  if ¬ p1.1 = 0 then b_47_62 k10 v0 v1 v2 v3 v4 v5  p1.2 else b_47_56 k10 k30 v0 v1 v2 v3 v4 v5  p1.2
theorem u_47_44 (d : Nat) (hd : 1 ≤ d) (k10 : Option Nat → Int32 → Int32 → Int32 → Int32 → Hp → Option (Hp)) (K10 : ∀ (v0 : Option Nat) (v1 : Int32) (v2 : Int32) (v3 : Int32) (v4 : Int32) (v5 : Option (Int32)) (h : Hp) (r : Hp), k10 v0 v1 v2 v3 v4 h = some r → Rn d 47 10 [some (va_rf v0), some (.int v1), some (.int v2), some (.int v3), some (.int v4), v5.map Value.int] [] h (none, r)) (k30 : Option Nat → Int32 → Int32 → Int32 → Int32 → Int32 → Hp → Option (Hp)) (K30 : ∀ (v0 : Option Nat) (v1 : Int32) (v2 : Int32) (v3 : Int32) (v4 : Int32) (v5 : Int32) (h : Hp) (r : Hp), k30 v0 v1 v2 v3 v4 v5 h = some r → Rn d 47 30 [some (va_rf v0), some (.int v1), some (.int v2), some (.int v3), some (.int v4), some (.int v5)] [] h (none, r)) (v0 : Option Nat) (v1 : Int32) (v2 : Int32) (v3 : Int32) (v4 : Int32) (v5 : Int32)  (h : Hp) (r : Hp) (hb : b_47_44 k10 k30 v0 v1 v2 v3 v4 v5  h = some r) : Rn d 47 44 [some (va_rf v0), some (.int v1), some (.int v2), some (.int v3), some (.int v4), some (.int v5)] [] h (none, r) := by
  unfold b_47_44 at hb
  obtain ⟨e, rfl⟩ : ∃ e, d = e + 1 := ⟨d - 1, by omega⟩
  refine rn_aload_n (i := 0) rfl rfl ?_
  refine rn_iload_n (i := 1) rfl rfl ?_
  refine rn_iload_n (i := 3) rfl rfl ?_
  refine rn_iload_n (i := 2) rfl rfl ?_
  refine rn_iload (i := 5) rfl rfl ?_
  obtain ⟨hrc, hb⟩ := grd_spec hb
  obtain ⟨p1, hc, hb⟩ := Option.bind_eq_some_iff.mp hb
  refine Rn.call1 (d := e) (As := [va_rf v0, .int v1, .int v3, .int v2, .int v5]) (rest := []) rfl rfl rfl (by decide) rfl rfl rfl (bd_rcV hrc rfl) (by decide) (bd_lenC (n := 5) rfl (bd_slR (bd_slI (bd_slI (bd_slI (bd_slI bd_slN))))) rfl) (bd_locC (n := 5) rfl (bd_slR (bd_slI (bd_slI (bd_slI (bd_slI bd_slN))))) rfl (t_48 e (by omega) v0 v1 v3 v2 v5 h _ hc)) ?_
  refine rn_if_ne rfl rfl (fun hc => ?_) (fun hc => ?_)
  · exact u_47_62 (e + 1) hd k10 K10 v0 v1 v2 v3 v4 v5  p1.2 _ (if_t hb hc)
  · exact u_47_56 (e + 1) hd k10 K10 k30 K30 v0 v1 v2 v3 v4 v5  p1.2 _ (if_f hb hc)
def b_47_30 (k10 : Option Nat → Int32 → Int32 → Int32 → Int32 → Hp → Option (Hp)) (k30 : Option Nat → Int32 → Int32 → Int32 → Int32 → Int32 → Hp → Option (Hp)) (v0 : Option Nat) (v1 : Int32) (v2 : Int32) (v3 : Int32) (v4 : Int32) (v5 : Int32)  (h : Hp) : Option (Hp) :=
  (gQ 3 2 v0 h).bind fun x1 =>
  (gI 4 5 x1 h).bind fun x2 =>
  if (x2 - (nI 1)) ≤ v5 then b_47_62 k10 v0 v1 v2 v3 v4 v5  h else b_47_44 k10 k30 v0 v1 v2 v3 v4 v5  h
theorem u_47_30 (d : Nat) (hd : 1 ≤ d) (k10 : Option Nat → Int32 → Int32 → Int32 → Int32 → Hp → Option (Hp)) (K10 : ∀ (v0 : Option Nat) (v1 : Int32) (v2 : Int32) (v3 : Int32) (v4 : Int32) (v5 : Option (Int32)) (h : Hp) (r : Hp), k10 v0 v1 v2 v3 v4 h = some r → Rn d 47 10 [some (va_rf v0), some (.int v1), some (.int v2), some (.int v3), some (.int v4), v5.map Value.int] [] h (none, r)) (k30 : Option Nat → Int32 → Int32 → Int32 → Int32 → Int32 → Hp → Option (Hp)) (K30 : ∀ (v0 : Option Nat) (v1 : Int32) (v2 : Int32) (v3 : Int32) (v4 : Int32) (v5 : Int32) (h : Hp) (r : Hp), k30 v0 v1 v2 v3 v4 v5 h = some r → Rn d 47 30 [some (va_rf v0), some (.int v1), some (.int v2), some (.int v3), some (.int v4), some (.int v5)] [] h (none, r)) (v0 : Option Nat) (v1 : Int32) (v2 : Int32) (v3 : Int32) (v4 : Int32) (v5 : Int32)  (h : Hp) (r : Hp) (hb : b_47_30 k10 k30 v0 v1 v2 v3 v4 v5  h = some r) : Rn d 47 30 [some (va_rf v0), some (.int v1), some (.int v2), some (.int v3), some (.int v4), some (.int v5)] [] h (none, r) := by
  unfold b_47_30 at hb
  refine rn_iload (i := 5) rfl rfl ?_
  refine rn_aload_n (i := 0) rfl rfl ?_
  refine rn_gQ (c := 3) (k := 2) rfl (by decide) hb (fun x1 hb => ?_)
  refine rn_gI (c := 4) (k := 5) rfl (by decide) hb (fun x2 hb => ?_)
  refine rn_iconst (x := (nI 1)) rfl (by decide) ?_
  refine rn_isub rfl ?_
  refine rn_icmp_ge rfl rfl (fun hc => ?_) (fun hc => ?_)
  · exact u_47_62 d hd k10 K10 v0 v1 v2 v3 v4 v5  h _ (if_t hb hc)
  · exact u_47_44 d hd k10 K10 k30 K30 v0 v1 v2 v3 v4 v5  h _ (if_f hb hc)
def l_47_30 (k10 : Option Nat → Int32 → Int32 → Int32 → Int32 → Hp → Option (Hp)) : Nat → Option Nat → Int32 → Int32 → Int32 → Int32 → Int32 → Hp → Option (Hp)
  | 0, _, _, _, _, _, _, _ => none
  | n + 1, v0, v1, v2, v3, v4, v5, h => b_47_30 k10 (l_47_30 k10 n) v0 v1 v2 v3 v4 v5 h
theorem w_47_30 (d : Nat) (hd : 1 ≤ d) (k10 : Option Nat → Int32 → Int32 → Int32 → Int32 → Hp → Option (Hp)) (K10 : ∀ (v0 : Option Nat) (v1 : Int32) (v2 : Int32) (v3 : Int32) (v4 : Int32) (v5 : Option (Int32)) (h : Hp) (r : Hp), k10 v0 v1 v2 v3 v4 h = some r → Rn d 47 10 [some (va_rf v0), some (.int v1), some (.int v2), some (.int v3), some (.int v4), v5.map Value.int] [] h (none, r)) : ∀ (n : Nat) (v0 : Option Nat) (v1 : Int32) (v2 : Int32) (v3 : Int32) (v4 : Int32) (v5 : Int32) (h : Hp) (r : Hp), l_47_30 k10 n v0 v1 v2 v3 v4 v5 h = some r → Rn d 47 30 [some (va_rf v0), some (.int v1), some (.int v2), some (.int v3), some (.int v4), some (.int v5)] [] h (none, r) := by
  intro n
  induction n with
  | zero => intro v0 v1 v2 v3 v4 v5 h r hb; cases hb
  | succ n ih => intro v0 v1 v2 v3 v4 v5 h r hb; exact u_47_30 d hd k10 K10 (l_47_30 k10 n) ih v0 v1 v2 v3 v4 v5 h r hb
def b_47_27 (k10 : Option Nat → Int32 → Int32 → Int32 → Int32 → Hp → Option (Hp)) (v0 : Option Nat) (v1 : Int32) (v2 : Int32) (v3 : Int32) (v4 : Int32)  (h : Hp) : Option (Hp) :=
  bnd ((nI 0)) fun x1 =>
  l_47_30 k10 FU v0 v1 v2 v3 v4 x1 h
theorem u_47_27 (d : Nat) (hd : 1 ≤ d) (k10 : Option Nat → Int32 → Int32 → Int32 → Int32 → Hp → Option (Hp)) (K10 : ∀ (v0 : Option Nat) (v1 : Int32) (v2 : Int32) (v3 : Int32) (v4 : Int32) (v5 : Option (Int32)) (h : Hp) (r : Hp), k10 v0 v1 v2 v3 v4 h = some r → Rn d 47 10 [some (va_rf v0), some (.int v1), some (.int v2), some (.int v3), some (.int v4), v5.map Value.int] [] h (none, r)) (v0 : Option Nat) (v1 : Int32) (v2 : Int32) (v3 : Int32) (v4 : Int32) (v5 : Option (Int32))  (h : Hp) (r : Hp) (hb : b_47_27 k10 v0 v1 v2 v3 v4  h = some r) : Rn d 47 27 [some (va_rf v0), some (.int v1), some (.int v2), some (.int v3), some (.int v4), v5.map Value.int] [] h (none, r) := by
  unfold b_47_27 at hb
  refine rn_iconst (x := (nI 0)) rfl (by decide) ?_
  obtain ⟨x1, ex1, hb⟩ := bnd_spec hb
  refine rn_istore (i := 5) (L1 := [some (va_rf v0), some (.int v1), some (.int v2), some (.int v3), some (.int v4), some (.int x1)]) rfl (Nat.le_of_ble_eq_true rfl) (Or.inr rfl) (by rw [ex1]; rfl) ?_
  exact w_47_30 d hd k10 K10 FU v0 v1 v2 v3 v4 x1 h _ hb
def b_47_22 (k10 : Option Nat → Int32 → Int32 → Int32 → Int32 → Hp → Option (Hp)) (v0 : Option Nat) (v1 : Int32) (v2 : Int32) (v3 : Int32) (v4 : Int32)  (h : Hp) : Option (Hp) :=
  if v3 = v2 then b_47_96   h else b_47_27 k10 v0 v1 v2 v3 v4  h
theorem u_47_22 (d : Nat) (hd : 1 ≤ d) (k10 : Option Nat → Int32 → Int32 → Int32 → Int32 → Hp → Option (Hp)) (K10 : ∀ (v0 : Option Nat) (v1 : Int32) (v2 : Int32) (v3 : Int32) (v4 : Int32) (v5 : Option (Int32)) (h : Hp) (r : Hp), k10 v0 v1 v2 v3 v4 h = some r → Rn d 47 10 [some (va_rf v0), some (.int v1), some (.int v2), some (.int v3), some (.int v4), v5.map Value.int] [] h (none, r)) (v0 : Option Nat) (v1 : Int32) (v2 : Int32) (v3 : Int32) (v4 : Int32) (v5 : Option (Int32))  (h : Hp) (r : Hp) (hb : b_47_22 k10 v0 v1 v2 v3 v4  h = some r) : Rn d 47 22 [some (va_rf v0), some (.int v1), some (.int v2), some (.int v3), some (.int v4), v5.map Value.int] [] h (none, r) := by
  unfold b_47_22 at hb
  refine rn_iload_n (i := 3) rfl rfl ?_
  refine rn_iload_n (i := 2) rfl rfl ?_
  refine rn_icmp_eq rfl rfl (fun hc => ?_) (fun hc => ?_)
  · exact u_47_96 d hd v0 v1 v2 v3 v4 v5  h _ (if_t hb hc)
  · exact u_47_27 d hd k10 K10 v0 v1 v2 v3 v4 v5  h _ (if_f hb hc)
def b_47_10 (k10 : Option Nat → Int32 → Int32 → Int32 → Int32 → Hp → Option (Hp)) (v0 : Option Nat) (v1 : Int32) (v2 : Int32) (v3 : Int32) (v4 : Int32)  (h : Hp) : Option (Hp) :=
  (gQ 3 2 v0 h).bind fun x1 =>
  (gI 4 5 x1 h).bind fun x2 =>
  if x2 ≤ v4 then b_47_96   h else b_47_22 k10 v0 v1 v2 v3 v4  h
theorem u_47_10 (d : Nat) (hd : 1 ≤ d) (k10 : Option Nat → Int32 → Int32 → Int32 → Int32 → Hp → Option (Hp)) (K10 : ∀ (v0 : Option Nat) (v1 : Int32) (v2 : Int32) (v3 : Int32) (v4 : Int32) (v5 : Option (Int32)) (h : Hp) (r : Hp), k10 v0 v1 v2 v3 v4 h = some r → Rn d 47 10 [some (va_rf v0), some (.int v1), some (.int v2), some (.int v3), some (.int v4), v5.map Value.int] [] h (none, r)) (v0 : Option Nat) (v1 : Int32) (v2 : Int32) (v3 : Int32) (v4 : Int32) (v5 : Option (Int32))  (h : Hp) (r : Hp) (hb : b_47_10 k10 v0 v1 v2 v3 v4  h = some r) : Rn d 47 10 [some (va_rf v0), some (.int v1), some (.int v2), some (.int v3), some (.int v4), v5.map Value.int] [] h (none, r) := by
  unfold b_47_10 at hb
  refine rn_iload (i := 4) rfl rfl ?_
  refine rn_aload_n (i := 0) rfl rfl ?_
  refine rn_gQ (c := 3) (k := 2) rfl (by decide) hb (fun x1 hb => ?_)
  refine rn_gI (c := 4) (k := 5) rfl (by decide) hb (fun x2 hb => ?_)
  refine rn_icmp_ge rfl rfl (fun hc => ?_) (fun hc => ?_)
  · exact u_47_96 d hd v0 v1 v2 v3 v4 v5  h _ (if_t hb hc)
  · exact u_47_22 d hd k10 K10 v0 v1 v2 v3 v4 v5  h _ (if_f hb hc)
def l_47_10 : Nat → Option Nat → Int32 → Int32 → Int32 → Int32 → Hp → Option (Hp)
  | 0, _, _, _, _, _, _ => none
  | n + 1, v0, v1, v2, v3, v4, h => b_47_10 (l_47_10 n) v0 v1 v2 v3 v4 h
theorem w_47_10 (d : Nat) (hd : 1 ≤ d) : ∀ (n : Nat) (v0 : Option Nat) (v1 : Int32) (v2 : Int32) (v3 : Int32) (v4 : Int32) (v5 : Option (Int32)) (h : Hp) (r : Hp), l_47_10 n v0 v1 v2 v3 v4 h = some r → Rn d 47 10 [some (va_rf v0), some (.int v1), some (.int v2), some (.int v3), some (.int v4), v5.map Value.int] [] h (none, r) := by
  intro n
  induction n with
  | zero => intro v0 v1 v2 v3 v4 v5 h r hb; cases hb
  | succ n ih => intro v0 v1 v2 v3 v4 v5 h r hb; exact u_47_10 d hd (l_47_10 n) ih v0 v1 v2 v3 v4 v5 h r hb
def b_47_0 (v0 : Option Nat) (v1 : Int32) (v2 : Int32)  (h : Hp) : Option (Hp) :=
  bnd ((nI 0)) fun x1 =>
  (pI 3 9 v0 (nI 0) h).bind fun h2 =>
  bnd ((nI 0)) fun x3 =>
  l_47_10 FU v0 v1 v2 x1 x3 h2
theorem u_47_0 (d : Nat) (hd : 1 ≤ d) (v0 : Option Nat) (v1 : Int32) (v2 : Int32)  (h : Hp) (r : Hp) (hb : b_47_0 v0 v1 v2  h = some r) : Rn d 47 0 [some (va_rf v0), some (.int v1), some (.int v2), none, none, none] [] h (none, r) := by
  unfold b_47_0 at hb
  refine rn_iconst (x := (nI 0)) rfl (by decide) ?_
  obtain ⟨x1, ex1, hb⟩ := bnd_spec hb
  refine rn_istore_n (i := 3) (L1 := [some (va_rf v0), some (.int v1), some (.int v2), some (.int x1), none, none]) rfl (Nat.le_of_ble_eq_true rfl) (Or.inr rfl) (by rw [ex1]; rfl) ?_
  refine rn_aload_n (i := 0) rfl rfl ?_
  refine rn_iconst (x := (nI 0)) rfl (by decide) ?_
  refine rn_pI (c := 3) (k := 9) rfl (by decide) hb (fun h2 hb => ?_)
  refine rn_iconst (x := (nI 0)) rfl (by decide) ?_
  obtain ⟨x3, ex3, hb⟩ := bnd_spec hb
  refine rn_istore (i := 4) (L1 := [some (va_rf v0), some (.int v1), some (.int v2), some (.int x1), some (.int x3), none]) rfl (Nat.le_of_ble_eq_true rfl) (Or.inr rfl) (by rw [ex3]; rfl) ?_
  exact w_47_10 d hd FU v0 v1 v2 x1 x3 (none : Option (Int32)) h2 _ hb
/-- BitingDoors$Hanger.orderBelow(II)V -/
def f_47 (v0 : Option Nat) (v1 : Int32) (v2 : Int32) (h : Hp) : Option (Hp) := b_47_0 v0 v1 v2 h
theorem t_47 (d : Nat) (hd : 1 ≤ d) (v0 : Option Nat) (v1 : Int32) (v2 : Int32) (h : Hp) (r : Hp) (hb : f_47 v0 v1 v2 h = some r) : Rn d 47 0 [some (va_rf v0), some (.int v1), some (.int v2), none, none, none] [] h (none, r) := by
  unfold f_47 at hb
  exact u_47_0 d hd v0 v1 v2 h r hb
def b_44_111 (v0 : Option Nat) (v1 : Int32)  (h : Hp) : Option (Int32 × Hp) :=
  (gQ 3 15 v0 h).bind fun x1 =>
  (aI 12 x1 (nI 0) h).bind fun x2 =>
  (grd (rC 3 v0 h)).bind fun _ =>
  (f_47 v0 x2 v1 h).bind fun p3 =>
  (gQ 3 15 v0 p3).bind fun x4 =>
  (aI 12 x4 (nI 0) p3).bind fun x5 =>
  some (x5, p3)
theorem u_44_111 (d : Nat) (hd : 70 ≤ d) (v0 : Option Nat) (v1 : Int32) (v2 : Int32)  (h : Hp) (r : Int32 × Hp) (hb : b_44_111 v0 v1  h = some r) : Rn d 44 111 [some (va_rf v0), some (.int v1), some (.int v2)] [] h (some (.int r.1), r.2) := by
  unfold b_44_111 at hb
  obtain ⟨e, rfl⟩ : ∃ e, d = e + 1 := ⟨d - 1, by omega⟩
  refine rn_aload_n (i := 0) rfl rfl ?_
  refine rn_aload_n (i := 0) rfl rfl ?_
  refine rn_gQ (c := 3) (k := 15) rfl (by decide) hb (fun x1 hb => ?_)
  refine rn_iconst (x := (nI 0)) rfl (by decide) ?_
  refine rn_aI rfl hb (fun x2 hb => ?_)
  refine rn_iload_n (i := 1) rfl rfl ?_
  obtain ⟨hrc, hb⟩ := grd_spec hb
  obtain ⟨p3, hc, hb⟩ := Option.bind_eq_some_iff.mp hb
  refine Rn.call0 (d := e) (As := [va_rf v0, .int x2, .int v1]) (rest := []) rfl rfl rfl (by decide) rfl rfl rfl (bd_rcV hrc rfl) (by decide) (bd_lenC (n := 6) rfl (bd_slR (bd_slI (bd_slI bd_slN))) rfl) (bd_locC (n := 6) rfl (bd_slR (bd_slI (bd_slI bd_slN))) rfl (t_47 e (by omega) v0 x2 v1 h _ hc)) ?_
  refine rn_aload_n (i := 0) rfl rfl ?_
  refine rn_gQ (c := 3) (k := 15) rfl (by decide) hb (fun x4 hb => ?_)
  refine rn_iconst (x := (nI 0)) rfl (by decide) ?_
  refine rn_aI rfl hb (fun x5 hb => ?_)
  obtain rfl := Option.some.inj hb
  exact rn_iret rfl rfl
def b_44_105 (k73 : Option Nat → Int32 → Int32 → Hp → Option (Int32 × Hp)) (v0 : Option Nat) (v1 : Int32) (v2 : Int32)  (h : Hp) : Option (Int32 × Hp) :=
  bnd (v2 + (-1 : Int32)) fun x1 =>
  k73 v0 v1 x1 h
theorem u_44_105 (d : Nat) (hd : 70 ≤ d) (k73 : Option Nat → Int32 → Int32 → Hp → Option (Int32 × Hp)) (K73 : ∀ (v0 : Option Nat) (v1 : Int32) (v2 : Int32) (h : Hp) (r : Int32 × Hp), k73 v0 v1 v2 h = some r → Rn d 44 73 [some (va_rf v0), some (.int v1), some (.int v2)] [] h (some (.int r.1), r.2)) (v0 : Option Nat) (v1 : Int32) (v2 : Int32)  (h : Hp) (r : Int32 × Hp) (hb : b_44_105 k73 v0 v1 v2  h = some r) : Rn d 44 105 [some (va_rf v0), some (.int v1), some (.int v2)] [] h (some (.int r.1), r.2) := by
  unfold b_44_105 at hb
  obtain ⟨x1, ex1, hb⟩ := bnd_spec hb
  refine rn_iinc (i := 2) (y := x1) (L1 := [some (va_rf v0), some (.int v1), some (.int x1)]) rfl rfl (Nat.le_of_ble_eq_true rfl) (Or.inr rfl) (by rw [ex1]; rfl) rfl ?_
  refine rn_goto rfl rfl ?_
  exact K73 v0 v1 x1 h _ hb
def b_44_85 (k73 : Option Nat → Int32 → Int32 → Hp → Option (Int32 × Hp)) (v0 : Option Nat) (v1 : Int32) (v2 : Int32)  (h : Hp) : Option (Int32 × Hp) :=
  (gQ 3 15 v0 h).bind fun x1 =>
  (grd (rC 3 v0 h)).bind fun _ =>
  (f_45 v0 v2 h).bind fun p2 =>
  (grd (rC 3 v0 p2.2)).bind fun _ =>
  (f_46 v0 v2 v1 p2.2).bind fun p3 =>
  (wI x1 v2 (if p2.1 < p3.1 then p3.1 else p2.1) p3.2).bind fun h4 =>
  b_44_105 k73 v0 v1 v2  h4
theorem u_44_85 (d : Nat) (hd : 70 ≤ d) (k73 : Option Nat → Int32 → Int32 → Hp → Option (Int32 × Hp)) (K73 : ∀ (v0 : Option Nat) (v1 : Int32) (v2 : Int32) (h : Hp) (r : Int32 × Hp), k73 v0 v1 v2 h = some r → Rn d 44 73 [some (va_rf v0), some (.int v1), some (.int v2)] [] h (some (.int r.1), r.2)) (v0 : Option Nat) (v1 : Int32) (v2 : Int32)  (h : Hp) (r : Int32 × Hp) (hb : b_44_85 k73 v0 v1 v2  h = some r) : Rn d 44 85 [some (va_rf v0), some (.int v1), some (.int v2)] [] h (some (.int r.1), r.2) := by
  unfold b_44_85 at hb
  obtain ⟨e, rfl⟩ : ∃ e, d = e + 1 := ⟨d - 1, by omega⟩
  refine rn_aload_n (i := 0) rfl rfl ?_
  refine rn_gQ (c := 3) (k := 15) rfl (by decide) hb (fun x1 hb => ?_)
  refine rn_iload_n (i := 2) rfl rfl ?_
  refine rn_aload_n (i := 0) rfl rfl ?_
  refine rn_iload_n (i := 2) rfl rfl ?_
  obtain ⟨hrc, hb⟩ := grd_spec hb
  obtain ⟨p2, hc, hb⟩ := Option.bind_eq_some_iff.mp hb
  refine Rn.call1 (d := e) (As := [va_rf v0, .int v2]) (rest := [.int v2, va_rf x1]) rfl rfl rfl (by decide) rfl rfl rfl (bd_rcV hrc rfl) (by rw [bd_cI (bd_cR (bd_cN))]; decide) (bd_lenC (n := 3) rfl (bd_slR (bd_slI bd_slN)) rfl) (bd_locC (n := 3) rfl (bd_slR (bd_slI bd_slN)) rfl (t_45 e (by omega) v0 v2 h _ hc)) ?_
  refine rn_aload_n (i := 0) rfl rfl ?_
  refine rn_iload_n (i := 2) rfl rfl ?_
  refine rn_iload_n (i := 1) rfl rfl ?_
  obtain ⟨hrc, hb⟩ := grd_spec hb
  obtain ⟨p3, hc, hb⟩ := Option.bind_eq_some_iff.mp hb
  refine Rn.call1 (d := e) (As := [va_rf v0, .int v2, .int v1]) (rest := [.int p2.1, .int v2, va_rf x1]) rfl rfl rfl (by decide) rfl rfl rfl (bd_rcV hrc rfl) (by rw [bd_cI (bd_cI (bd_cR (bd_cN)))]; decide) (bd_lenC (n := 5) rfl (bd_slR (bd_slI (bd_slI bd_slN))) rfl) (bd_locC (n := 5) rfl (bd_slR (bd_slI (bd_slI bd_slN))) rfl (t_46 e (by omega) v0 v2 v1 p2.2 _ hc)) ?_
  refine rn_mm (f := fun x y => if x < y then y else x) rfl (Or.inl ⟨rfl, rfl⟩) (by rw [bd_cI (bd_cR (bd_cN))]; decide) ?_
  refine rn_wI rfl hb (fun h4 hb => ?_)
  exact u_44_105 (e + 1) hd k73 K73 v0 v1 v2  h4 _ hb
def b_44_77 (k73 : Option Nat → Int32 → Int32 → Hp → Option (Int32 × Hp)) (v0 : Option Nat) (v1 : Int32) (v2 : Int32)  (h : Hp) : Option (Int32 × Hp) :=
  if ¬ (v2 &&& (v1 ^^^ (-1 : Int32))) = 0 then b_44_105 k73 v0 v1 v2  h else b_44_85 k73 v0 v1 v2  h
theorem u_44_77 (d : Nat) (hd : 70 ≤ d) (k73 : Option Nat → Int32 → Int32 → Hp → Option (Int32 × Hp)) (K73 : ∀ (v0 : Option Nat) (v1 : Int32) (v2 : Int32) (h : Hp) (r : Int32 × Hp), k73 v0 v1 v2 h = some r → Rn d 44 73 [some (va_rf v0), some (.int v1), some (.int v2)] [] h (some (.int r.1), r.2)) (v0 : Option Nat) (v1 : Int32) (v2 : Int32)  (h : Hp) (r : Int32 × Hp) (hb : b_44_77 k73 v0 v1 v2  h = some r) : Rn d 44 77 [some (va_rf v0), some (.int v1), some (.int v2)] [] h (some (.int r.1), r.2) := by
  unfold b_44_77 at hb
  refine rn_iload_n (i := 2) rfl rfl ?_
  refine rn_iload_n (i := 1) rfl rfl ?_
  refine rn_iconst (x := (-1 : Int32)) rfl (by decide) ?_
  refine rn_ixor rfl ?_
  refine rn_iand rfl ?_
  refine rn_if_ne rfl rfl (fun hc => ?_) (fun hc => ?_)
  · exact u_44_105 d hd k73 K73 v0 v1 v2  h _ (if_t hb hc)
  · exact u_44_85 d hd k73 K73 v0 v1 v2  h _ (if_f hb hc)
def b_44_73 (k73 : Option Nat → Int32 → Int32 → Hp → Option (Int32 × Hp)) (v0 : Option Nat) (v1 : Int32) (v2 : Int32)  (h : Hp) : Option (Int32 × Hp) :=
  if v2 < 0 then b_44_111 v0 v1  h else b_44_77 k73 v0 v1 v2  h
theorem u_44_73 (d : Nat) (hd : 70 ≤ d) (k73 : Option Nat → Int32 → Int32 → Hp → Option (Int32 × Hp)) (K73 : ∀ (v0 : Option Nat) (v1 : Int32) (v2 : Int32) (h : Hp) (r : Int32 × Hp), k73 v0 v1 v2 h = some r → Rn d 44 73 [some (va_rf v0), some (.int v1), some (.int v2)] [] h (some (.int r.1), r.2)) (v0 : Option Nat) (v1 : Int32) (v2 : Int32)  (h : Hp) (r : Int32 × Hp) (hb : b_44_73 k73 v0 v1 v2  h = some r) : Rn d 44 73 [some (va_rf v0), some (.int v1), some (.int v2)] [] h (some (.int r.1), r.2) := by
  unfold b_44_73 at hb
  refine rn_iload_n (i := 2) rfl rfl ?_
  refine rn_if_lt rfl rfl (fun hc => ?_) (fun hc => ?_)
  · exact u_44_111 d hd v0 v1 v2  h _ (if_t hb hc)
  · exact u_44_77 d hd k73 K73 v0 v1 v2  h _ (if_f hb hc)
def l_44_73 : Nat → Option Nat → Int32 → Int32 → Hp → Option (Int32 × Hp)
  | 0, _, _, _, _ => none
  | n + 1, v0, v1, v2, h => b_44_73 (l_44_73 n) v0 v1 v2 h
theorem w_44_73 (d : Nat) (hd : 70 ≤ d) : ∀ (n : Nat) (v0 : Option Nat) (v1 : Int32) (v2 : Int32) (h : Hp) (r : Int32 × Hp), l_44_73 n v0 v1 v2 h = some r → Rn d 44 73 [some (va_rf v0), some (.int v1), some (.int v2)] [] h (some (.int r.1), r.2) := by
  intro n
  induction n with
  | zero => intro v0 v1 v2 h r hb; cases hb
  | succ n ih => intro v0 v1 v2 h r hb; exact u_44_73 d hd (l_44_73 n) ih v0 v1 v2 h r hb
def b_44_71 (v0 : Option Nat) (v1 : Int32)  (h : Hp) : Option (Int32 × Hp) :=
  l_44_73 FU v0 v1 v1 h
theorem u_44_71 (d : Nat) (hd : 70 ≤ d) (v0 : Option Nat) (v1 : Int32) (v2 : Int32)  (h : Hp) (r : Int32 × Hp) (hb : b_44_71 v0 v1  h = some r) : Rn d 44 71 [some (va_rf v0), some (.int v1), some (.int v2)] [] h (some (.int r.1), r.2) := by
  unfold b_44_71 at hb
  refine rn_iload_n (i := 1) rfl rfl ?_
  refine rn_istore_n (i := 2) (L1 := [some (va_rf v0), some (.int v1), some (.int v1)]) rfl (Nat.le_of_ble_eq_true rfl) (Or.inr rfl) rfl ?_
  exact w_44_73 d hd FU v0 v1 v1 h _ hb
def b_44_63 (k29 : Option Nat → Int32 → Int32 → Hp → Option (Int32 × Hp)) (v0 : Option Nat) (v2 : Int32) (s0 : Int32) (s1 : Int32) (h : Hp) : Option (Int32 × Hp) :=
  bnd ((s0 ||| s1)) fun x1 =>
  bnd (v2 + (nI 1)) fun x2 =>
  k29 v0 x1 x2 h
theorem u_44_63 (d : Nat) (hd : 70 ≤ d) (k29 : Option Nat → Int32 → Int32 → Hp → Option (Int32 × Hp)) (K29 : ∀ (v0 : Option Nat) (v1 : Int32) (v2 : Int32) (h : Hp) (r : Int32 × Hp), k29 v0 v1 v2 h = some r → Rn d 44 29 [some (va_rf v0), some (.int v1), some (.int v2)] [] h (some (.int r.1), r.2)) (v0 : Option Nat) (v1 : Int32) (v2 : Int32) (s0 : Int32) (s1 : Int32) (h : Hp) (r : Int32 × Hp) (hb : b_44_63 k29 v0 v2 s0 s1 h = some r) : Rn d 44 63 [some (va_rf v0), some (.int v1), some (.int v2)] [.int s1, .int s0] h (some (.int r.1), r.2) := by
  unfold b_44_63 at hb
  refine rn_ior rfl ?_
  obtain ⟨x1, ex1, hb⟩ := bnd_spec hb
  refine rn_istore_n (i := 1) (L1 := [some (va_rf v0), some (.int x1), some (.int v2)]) rfl (Nat.le_of_ble_eq_true rfl) (Or.inr (bd_wideR rfl)) (by rw [ex1]; rfl) ?_
  obtain ⟨x2, ex2, hb⟩ := bnd_spec hb
  refine rn_iinc (i := 2) (y := x2) (L1 := [some (va_rf v0), some (.int x1), some (.int x2)]) rfl rfl (Nat.le_of_ble_eq_true rfl) (Or.inr rfl) (by rw [ex2]; rfl) rfl ?_
  refine rn_goto rfl rfl ?_
  exact K29 v0 x1 x2 h _ hb
def b_44_60 (k29 : Option Nat → Int32 → Int32 → Hp → Option (Int32 × Hp)) (v0 : Option Nat) (v2 : Int32) (s0 : Int32) (h : Hp) : Option (Int32 × Hp) :=
  b_44_63 k29 v0 v2 s0 ((nI 1) <<< (v2 &&& 31)) h
theorem u_44_60 (d : Nat) (hd : 70 ≤ d) (k29 : Option Nat → Int32 → Int32 → Hp → Option (Int32 × Hp)) (K29 : ∀ (v0 : Option Nat) (v1 : Int32) (v2 : Int32) (h : Hp) (r : Int32 × Hp), k29 v0 v1 v2 h = some r → Rn d 44 29 [some (va_rf v0), some (.int v1), some (.int v2)] [] h (some (.int r.1), r.2)) (v0 : Option Nat) (v1 : Int32) (v2 : Int32) (s0 : Int32) (h : Hp) (r : Int32 × Hp) (hb : b_44_60 k29 v0 v2 s0 h = some r) : Rn d 44 60 [some (va_rf v0), some (.int v1), some (.int v2)] [.int s0] h (some (.int r.1), r.2) := by
  unfold b_44_60 at hb
  refine rn_iconst (x := (nI 1)) rfl (by decide) ?_
  refine rn_iload_n (i := 2) rfl rfl ?_
  refine rn_ishl rfl ?_
  exact u_44_63 d hd k29 K29 v0 v1 v2 s0 ((nI 1) <<< (v2 &&& 31)) h _ hb
def b_44_56 (k29 : Option Nat → Int32 → Int32 → Hp → Option (Int32 × Hp)) (v0 : Option Nat) (v2 : Int32) (s0 : Int32) (h : Hp) : Option (Int32 × Hp) :=
  b_44_63 k29 v0 v2 s0 (nI 0) h
theorem u_44_56 (d : Nat) (hd : 70 ≤ d) (k29 : Option Nat → Int32 → Int32 → Hp → Option (Int32 × Hp)) (K29 : ∀ (v0 : Option Nat) (v1 : Int32) (v2 : Int32) (h : Hp) (r : Int32 × Hp), k29 v0 v1 v2 h = some r → Rn d 44 29 [some (va_rf v0), some (.int v1), some (.int v2)] [] h (some (.int r.1), r.2)) (v0 : Option Nat) (v1 : Int32) (v2 : Int32) (s0 : Int32) (h : Hp) (r : Int32 × Hp) (hb : b_44_56 k29 v0 v2 s0 h = some r) : Rn d 44 56 [some (va_rf v0), some (.int v1), some (.int v2)] [.int s0] h (some (.int r.1), r.2) := by
  unfold b_44_56 at hb
  refine rn_iconst (x := (nI 0)) rfl (by decide) ?_
  refine rn_goto rfl rfl ?_
  exact u_44_63 d hd k29 K29 v0 v1 v2 s0 (nI 0) h _ hb
def b_44_40 (k29 : Option Nat → Int32 → Int32 → Hp → Option (Int32 × Hp)) (v0 : Option Nat) (v1 : Int32) (v2 : Int32)  (h : Hp) : Option (Int32 × Hp) :=
  (gQ 3 4 v0 h).bind fun x1 =>
  (aI 12 x1 v2 h).bind fun x2 =>
  (gQ 3 3 v0 h).bind fun x3 =>
  (aI 12 x3 v2 h).bind fun x4 =>
  if ¬ x2 = x4 then b_44_60 k29 v0 v2 v1 h else b_44_56 k29 v0 v2 v1 h
theorem u_44_40 (d : Nat) (hd : 70 ≤ d) (k29 : Option Nat → Int32 → Int32 → Hp → Option (Int32 × Hp)) (K29 : ∀ (v0 : Option Nat) (v1 : Int32) (v2 : Int32) (h : Hp) (r : Int32 × Hp), k29 v0 v1 v2 h = some r → Rn d 44 29 [some (va_rf v0), some (.int v1), some (.int v2)] [] h (some (.int r.1), r.2)) (v0 : Option Nat) (v1 : Int32) (v2 : Int32)  (h : Hp) (r : Int32 × Hp) (hb : b_44_40 k29 v0 v1 v2  h = some r) : Rn d 44 40 [some (va_rf v0), some (.int v1), some (.int v2)] [] h (some (.int r.1), r.2) := by
  unfold b_44_40 at hb
  refine rn_iload_n (i := 1) rfl rfl ?_
  refine rn_aload_n (i := 0) rfl rfl ?_
  refine rn_gQ (c := 3) (k := 4) rfl (by decide) hb (fun x1 hb => ?_)
  refine rn_iload_n (i := 2) rfl rfl ?_
  refine rn_aI rfl hb (fun x2 hb => ?_)
  refine rn_aload_n (i := 0) rfl rfl ?_
  refine rn_gQ (c := 3) (k := 3) rfl (by decide) hb (fun x3 hb => ?_)
  refine rn_iload_n (i := 2) rfl rfl ?_
  refine rn_aI rfl hb (fun x4 hb => ?_)
  refine rn_icmp_ne rfl rfl (fun hc => ?_) (fun hc => ?_)
  · exact u_44_60 d hd k29 K29 v0 v1 v2 v1 h _ (if_t hb hc)
  · exact u_44_56 d hd k29 K29 v0 v1 v2 v1 h _ (if_f hb hc)
def b_44_29 (k29 : Option Nat → Int32 → Int32 → Hp → Option (Int32 × Hp)) (v0 : Option Nat) (v1 : Int32) (v2 : Int32)  (h : Hp) : Option (Int32 × Hp) :=
  (gQ 3 2 v0 h).bind fun x1 =>
  (gI 4 5 x1 h).bind fun x2 =>
  if x2 ≤ v2 then b_44_71 v0 v1  h else b_44_40 k29 v0 v1 v2  h
theorem u_44_29 (d : Nat) (hd : 70 ≤ d) (k29 : Option Nat → Int32 → Int32 → Hp → Option (Int32 × Hp)) (K29 : ∀ (v0 : Option Nat) (v1 : Int32) (v2 : Int32) (h : Hp) (r : Int32 × Hp), k29 v0 v1 v2 h = some r → Rn d 44 29 [some (va_rf v0), some (.int v1), some (.int v2)] [] h (some (.int r.1), r.2)) (v0 : Option Nat) (v1 : Int32) (v2 : Int32)  (h : Hp) (r : Int32 × Hp) (hb : b_44_29 k29 v0 v1 v2  h = some r) : Rn d 44 29 [some (va_rf v0), some (.int v1), some (.int v2)] [] h (some (.int r.1), r.2) := by
  unfold b_44_29 at hb
  refine rn_iload_n (i := 2) rfl rfl ?_
  refine rn_aload_n (i := 0) rfl rfl ?_
  refine rn_gQ (c := 3) (k := 2) rfl (by decide) hb (fun x1 hb => ?_)
  refine rn_gI (c := 4) (k := 5) rfl (by decide) hb (fun x2 hb => ?_)
  refine rn_icmp_ge rfl rfl (fun hc => ?_) (fun hc => ?_)
  · exact u_44_71 d hd v0 v1 v2  h _ (if_t hb hc)
  · exact u_44_40 d hd k29 K29 v0 v1 v2  h _ (if_f hb hc)
def l_44_29 : Nat → Option Nat → Int32 → Int32 → Hp → Option (Int32 × Hp)
  | 0, _, _, _, _ => none
  | n + 1, v0, v1, v2, h => b_44_29 (l_44_29 n) v0 v1 v2 h
theorem w_44_29 (d : Nat) (hd : 70 ≤ d) : ∀ (n : Nat) (v0 : Option Nat) (v1 : Int32) (v2 : Int32) (h : Hp) (r : Int32 × Hp), l_44_29 n v0 v1 v2 h = some r → Rn d 44 29 [some (va_rf v0), some (.int v1), some (.int v2)] [] h (some (.int r.1), r.2) := by
  intro n
  induction n with
  | zero => intro v0 v1 v2 h r hb; cases hb
  | succ n ih => intro v0 v1 v2 h r hb; exact u_44_29 d hd (l_44_29 n) ih v0 v1 v2 h r hb
def b_44_25 (v0 : Option Nat)  (h : Hp) : Option (Int32 × Hp) :=
  bnd ((nI 0)) fun x1 =>
  bnd ((nI 0)) fun x2 =>
  l_44_29 FU v0 x1 x2 h
theorem u_44_25 (d : Nat) (hd : 70 ≤ d) (v0 : Option Nat)  (h : Hp) (r : Int32 × Hp) (hb : b_44_25 v0  h = some r) : Rn d 44 25 [some (va_rf v0), none, none] [] h (some (.int r.1), r.2) := by
  unfold b_44_25 at hb
  refine rn_iconst (x := (nI 0)) rfl (by decide) ?_
  obtain ⟨x1, ex1, hb⟩ := bnd_spec hb
  refine rn_istore_n (i := 1) (L1 := [some (va_rf v0), some (.int x1), none]) rfl (Nat.le_of_ble_eq_true rfl) (Or.inr (bd_wideR rfl)) (by rw [ex1]; rfl) ?_
  refine rn_iconst (x := (nI 0)) rfl (by decide) ?_
  obtain ⟨x2, ex2, hb⟩ := bnd_spec hb
  refine rn_istore_n (i := 2) (L1 := [some (va_rf v0), some (.int x1), some (.int x2)]) rfl (Nat.le_of_ble_eq_true rfl) (Or.inr rfl) (by rw [ex2]; rfl) ?_
  exact w_44_29 d hd FU v0 x1 x2 h _ hb
def b_44_16 (v0 : Option Nat)  (h : Hp) : Option (Int32 × Hp) :=
  (nA 12 (nI 1024) h).bind fun h1 =>
  (pQ 3 15 v0 (some (hN h)) h1).bind fun h2 =>
  b_44_25 v0  h2
theorem u_44_16 (d : Nat) (hd : 70 ≤ d) (v0 : Option Nat)  (h : Hp) (r : Int32 × Hp) (hb : b_44_16 v0  h = some r) : Rn d 44 16 [some (va_rf v0), none, none] [] h (some (.int r.1), r.2) := by
  unfold b_44_16 at hb
  refine rn_aload_n (i := 0) rfl rfl ?_
  refine rn_sipush (x := (nI 1024)) rfl (by decide) ?_
  refine rn_newarray rfl hb (fun h1 hb => ?_)
  refine rn_pQ (c := 3) (k := 15) rfl (by decide) hb (fun h2 hb => ?_)
  exact u_44_25 d hd v0  h2 _ hb
def b_44_9 (v0 : Option Nat)  (h : Hp) : Option (Int32 × Hp) :=
  (gQ 3 15 v0 h).bind fun x1 =>
  if ¬ x1 = none then b_44_25 v0  h else b_44_16 v0  h
theorem u_44_9 (d : Nat) (hd : 70 ≤ d) (v0 : Option Nat)  (h : Hp) (r : Int32 × Hp) (hb : b_44_9 v0  h = some r) : Rn d 44 9 [some (va_rf v0), none, none] [] h (some (.int r.1), r.2) := by
  unfold b_44_9 at hb
  refine rn_aload_n (i := 0) rfl rfl ?_
  refine rn_gQ (c := 3) (k := 15) rfl (by decide) hb (fun x1 hb => ?_)
  refine rn_ifnonnull rfl rfl (fun hc => ?_) (fun hc => ?_)
  · exact u_44_25 d hd v0  h _ (if_t hb hc)
  · exact u_44_16 d hd v0  h _ (if_f hb (fun z => z hc))
def b_44_7   (h : Hp) : Option (Int32 × Hp) :=
  some ((-1 : Int32), h)
theorem u_44_7 (d : Nat) (hd : 70 ≤ d) (v0 : Option Nat)  (h : Hp) (r : Int32 × Hp) (hb : b_44_7   h = some r) : Rn d 44 7 [some (va_rf v0), none, none] [] h (some (.int r.1), r.2) := by
  unfold b_44_7 at hb
  refine rn_iconst (x := (-1 : Int32)) rfl (by decide) ?_
  obtain rfl := Option.some.inj hb
  exact rn_iret rfl rfl
def b_44_0 (v0 : Option Nat)  (h : Hp) : Option (Int32 × Hp) :=
  (grd (rC 3 v0 h)).bind fun _ =>
  (f_34 v0 h).bind fun p1 =>
  if ¬ p1.1 = 0 then b_44_9 v0  p1.2 else b_44_7   p1.2
theorem u_44_0 (d : Nat) (hd : 70 ≤ d) (v0 : Option Nat)  (h : Hp) (r : Int32 × Hp) (hb : b_44_0 v0  h = some r) : Rn d 44 0 [some (va_rf v0), none, none] [] h (some (.int r.1), r.2) := by
  unfold b_44_0 at hb
  obtain ⟨e, rfl⟩ : ∃ e, d = e + 1 := ⟨d - 1, by omega⟩
  refine rn_aload_n (i := 0) rfl rfl ?_
  obtain ⟨hrc, hb⟩ := grd_spec hb
  obtain ⟨p1, hc, hb⟩ := Option.bind_eq_some_iff.mp hb
  refine Rn.call1 (d := e) (As := [va_rf v0]) (rest := []) rfl rfl rfl (by decide) rfl rfl rfl (bd_rcV hrc rfl) (by decide) (bd_lenC (n := 2) rfl (bd_slR bd_slN) rfl) (bd_locC (n := 2) rfl (bd_slR bd_slN) rfl (t_34 e (by omega) v0 h _ hc)) ?_
  refine rn_if_ne rfl rfl (fun hc => ?_) (fun hc => ?_)
  · exact u_44_9 (e + 1) hd v0  p1.2 _ (if_t hb hc)
  · exact u_44_7 (e + 1) hd v0  p1.2 _ (if_f hb hc)
/-- BitingDoors$Hanger.orderChanges()I -/
def f_44 (v0 : Option Nat) (h : Hp) : Option (Int32 × Hp) := b_44_0 v0 h
theorem t_44 (d : Nat) (hd : 70 ≤ d) (v0 : Option Nat) (h : Hp) (r : Int32 × Hp) (hb : f_44 v0 h = some r) : Rn d 44 0 [some (va_rf v0), none, none] [] h (some (.int r.1), r.2) := by
  unfold f_44 at hb
  exact u_44_0 d hd v0 h r hb
def b_49_0 (v0 : Option Nat)  (h : Hp) : Option (Hp) :=
  (grd v0.isSome).bind fun _ =>
  (nA 12 (nI 100) h).bind fun h1 =>
  (pQ 4 0 v0 (some (hN h)) h1).bind fun h2 =>
  (nA 16 (nI 10) h2).bind fun h3 =>
  (pQ 4 1 v0 (some (hN h2)) h3).bind fun h4 =>
  (nA 12 (nI 18) h4).bind fun h5 =>
  (pQ 4 2 v0 (some (hN h4)) h5).bind fun h6 =>
  (pI 4 7 v0 (-1 : Int32) h6).bind fun h7 =>
  some h7
theorem u_49_0 (d : Nat) (hd : 0 ≤ d) (v0 : Option Nat)  (h : Hp) (r : Hp) (hb : b_49_0 v0  h = some r) : Rn d 49 0 [some (va_rf v0)] [] h (none, r) := by
  unfold b_49_0 at hb
  refine rn_aload_n (i := 0) rfl rfl ?_
  obtain ⟨hq, hb⟩ := grd_spec hb
  refine rn_oinit rfl hq (by decide) ?_
  refine rn_aload_n (i := 0) rfl rfl ?_
  refine rn_bipush (x := (nI 100)) rfl (by decide) ?_
  refine rn_newarray rfl hb (fun h1 hb => ?_)
  refine rn_pQ (c := 4) (k := 0) rfl (by decide) hb (fun h2 hb => ?_)
  refine rn_aload_n (i := 0) rfl rfl ?_
  refine rn_bipush (x := (nI 10)) rfl (by decide) ?_
  refine rn_anewarray rfl hb (fun h3 hb => ?_)
  refine rn_pQ (c := 4) (k := 1) rfl (by decide) hb (fun h4 hb => ?_)
  refine rn_aload_n (i := 0) rfl rfl ?_
  refine rn_bipush (x := (nI 18)) rfl (by decide) ?_
  refine rn_newarray rfl hb (fun h5 hb => ?_)
  refine rn_pQ (c := 4) (k := 2) rfl (by decide) hb (fun h6 hb => ?_)
  refine rn_aload_n (i := 0) rfl rfl ?_
  refine rn_iconst (x := (-1 : Int32)) rfl (by decide) ?_
  refine rn_pI (c := 4) (k := 7) rfl (by decide) hb (fun h7 hb => ?_)
  obtain rfl := Option.some.inj hb
  exact rn_vret rfl rfl
/-- BitingDoors$House.<init>()V -/
def f_49 (v0 : Option Nat) (h : Hp) : Option (Hp) := b_49_0 v0 h
theorem t_49 (d : Nat) (hd : 0 ≤ d) (v0 : Option Nat) (h : Hp) (r : Hp) (hb : f_49 v0 h = some r) : Rn d 49 0 [some (va_rf v0)] [] h (none, r) := by
  unfold f_49 at hb
  exact u_49_0 d hd v0 h r hb
def b_51_22  (s0 : Int32) (h : Hp) : Option (Int32 × Hp) :=
  (grd (decide (s0 = 0 ∨ s0 = 1))).bind fun _ => some (s0, h)
theorem u_51_22 (d : Nat) (hd : 1 ≤ d) (v0 : Option Nat) (v1 : Int32) (v2 : Int32) (v3 : Int32) (s0 : Int32) (h : Hp) (r : Int32 × Hp) (hb : b_51_22  s0 h = some r) : Rn d 51 22 [some (va_rf v0), some (.int v1), some (.int v2), some (.int v3)] [.int s0] h (some (.int r.1), r.2) := by
  unfold b_51_22 at hb
  obtain ⟨hz, hb⟩ := grd_spec hb
  obtain rfl := Option.some.inj hb
  exact rn_zret rfl rfl (of_decide_eq_true hz)
def b_51_17   (h : Hp) : Option (Int32 × Hp) :=
  b_51_22  (nI 1) h
theorem u_51_17 (d : Nat) (hd : 1 ≤ d) (v0 : Option Nat) (v1 : Int32) (v2 : Int32) (v3 : Int32)  (h : Hp) (r : Int32 × Hp) (hb : b_51_17   h = some r) : Rn d 51 17 [some (va_rf v0), some (.int v1), some (.int v2), some (.int v3)] [] h (some (.int r.1), r.2) := by
  unfold b_51_17 at hb
  refine rn_iconst (x := (nI 1)) rfl (by decide) ?_
  refine rn_goto rfl rfl ?_
  exact u_51_22 d hd v0 v1 v2 v3 (nI 1) h _ hb
def b_51_21   (h : Hp) : Option (Int32 × Hp) :=
  b_51_22  (nI 0) h
theorem u_51_21 (d : Nat) (hd : 1 ≤ d) (v0 : Option Nat) (v1 : Int32) (v2 : Int32) (v3 : Int32)  (h : Hp) (r : Int32 × Hp) (hb : b_51_21   h = some r) : Rn d 51 21 [some (va_rf v0), some (.int v1), some (.int v2), some (.int v3)] [] h (some (.int r.1), r.2) := by
  unfold b_51_21 at hb
  refine rn_iconst (x := (nI 0)) rfl (by decide) ?_
  exact u_51_22 d hd v0 v1 v2 v3 (nI 0) h _ hb
def b_51_11 (v3 : Int32)  (h : Hp) : Option (Int32 × Hp) :=
  if v3 < (nI 10) then b_51_21   h else b_51_17   h
theorem u_51_11 (d : Nat) (hd : 1 ≤ d) (v0 : Option Nat) (v1 : Int32) (v2 : Int32) (v3 : Int32)  (h : Hp) (r : Int32 × Hp) (hb : b_51_11 v3  h = some r) : Rn d 51 11 [some (va_rf v0), some (.int v1), some (.int v2), some (.int v3)] [] h (some (.int r.1), r.2) := by
  unfold b_51_11 at hb
  refine rn_iload_n (i := 3) rfl rfl ?_
  refine rn_bipush (x := (nI 10)) rfl (by decide) ?_
  refine rn_icmp_lt rfl rfl (fun hc => ?_) (fun hc => ?_)
  · exact u_51_21 d hd v0 v1 v2 v3  h _ (if_t hb hc)
  · exact u_51_17 d hd v0 v1 v2 v3  h _ (if_f hb hc)
def b_51_0 (v0 : Option Nat) (v1 : Int32) (v2 : Int32)  (h : Hp) : Option (Int32 × Hp) :=
  (grd (rC 4 v0 h)).bind fun _ =>
  (f_50 v0 v1 v2 h).bind fun p1 =>
  bnd (p1.1) fun x2 =>
  if x2 = 0 then b_51_17   p1.2 else b_51_11 x2  p1.2
theorem u_51_0 (d : Nat) (hd : 1 ≤ d) (v0 : Option Nat) (v1 : Int32) (v2 : Int32)  (h : Hp) (r : Int32 × Hp) (hb : b_51_0 v0 v1 v2  h = some r) : Rn d 51 0 [some (va_rf v0), some (.int v1), some (.int v2), none] [] h (some (.int r.1), r.2) := by
  unfold b_51_0 at hb
  obtain ⟨e, rfl⟩ : ∃ e, d = e + 1 := ⟨d - 1, by omega⟩
  refine rn_aload_n (i := 0) rfl rfl ?_
  refine rn_iload_n (i := 1) rfl rfl ?_
  refine rn_iload_n (i := 2) rfl rfl ?_
  obtain ⟨hrc, hb⟩ := grd_spec hb
  obtain ⟨p1, hc, hb⟩ := Option.bind_eq_some_iff.mp hb
  refine Rn.call1 (d := e) (As := [va_rf v0, .int v1, .int v2]) (rest := []) rfl rfl rfl (by decide) rfl rfl rfl (bd_rcV hrc rfl) (by decide) (bd_lenC (n := 4) rfl (bd_slR (bd_slI (bd_slI bd_slN))) rfl) (bd_locC (n := 4) rfl (bd_slR (bd_slI (bd_slI bd_slN))) rfl (t_50 e (by omega) v0 v1 v2 h _ hc)) ?_
  obtain ⟨x2, ex2, hb⟩ := bnd_spec hb
  refine rn_istore_n (i := 3) (L1 := [some (va_rf v0), some (.int v1), some (.int v2), some (.int x2)]) rfl (Nat.le_of_ble_eq_true rfl) (Or.inr rfl) (by rw [ex2]; rfl) ?_
  refine rn_iload_n (i := 3) rfl rfl ?_
  refine rn_if_eq rfl rfl (fun hc => ?_) (fun hc => ?_)
  · exact u_51_17 (e + 1) hd v0 v1 v2 x2  p1.2 _ (if_t hb hc)
  · exact u_51_11 (e + 1) hd v0 v1 v2 x2  p1.2 _ (if_f hb hc)
/-- BitingDoors$House.isOpenCell(II)Z -/
def f_51 (v0 : Option Nat) (v1 : Int32) (v2 : Int32) (h : Hp) : Option (Int32 × Hp) := b_51_0 v0 v1 v2 h
theorem t_51 (d : Nat) (hd : 1 ≤ d) (v0 : Option Nat) (v1 : Int32) (v2 : Int32) (h : Hp) (r : Int32 × Hp) (hb : f_51 v0 v1 v2 h = some r) : Rn d 51 0 [some (va_rf v0), some (.int v1), some (.int v2), none] [] h (some (.int r.1), r.2) := by
  unfold f_51 at hb
  exact u_51_0 d hd v0 v1 v2 h r hb
def b_52_17  (s0 : Int32) (h : Hp) : Option (Int32 × Hp) :=
  (grd (decide (s0 = 0 ∨ s0 = 1))).bind fun _ => some (s0, h)
theorem u_52_17 (d : Nat) (hd : 0 ≤ d) (v0 : Option Nat) (v1 : Int32) (s0 : Int32) (h : Hp) (r : Int32 × Hp) (hb : b_52_17  s0 h = some r) : Rn d 52 17 [some (va_rf v0), some (.int v1)] [.int s0] h (some (.int r.1), r.2) := by
  unfold b_52_17 at hb
  obtain ⟨hz, hb⟩ := grd_spec hb
  obtain rfl := Option.some.inj hb
  exact rn_zret rfl rfl (of_decide_eq_true hz)
def b_52_16   (h : Hp) : Option (Int32 × Hp) :=
  b_52_17  (nI 0) h
theorem u_52_16 (d : Nat) (hd : 0 ≤ d) (v0 : Option Nat) (v1 : Int32)  (h : Hp) (r : Int32 × Hp) (hb : b_52_16   h = some r) : Rn d 52 16 [some (va_rf v0), some (.int v1)] [] h (some (.int r.1), r.2) := by
  unfold b_52_16 at hb
  refine rn_iconst (x := (nI 0)) rfl (by decide) ?_
  exact u_52_17 d hd v0 v1 (nI 0) h _ hb
def b_52_12   (h : Hp) : Option (Int32 × Hp) :=
  b_52_17  (nI 1) h
theorem u_52_12 (d : Nat) (hd : 0 ≤ d) (v0 : Option Nat) (v1 : Int32)  (h : Hp) (r : Int32 × Hp) (hb : b_52_12   h = some r) : Rn d 52 12 [some (va_rf v0), some (.int v1)] [] h (some (.int r.1), r.2) := by
  unfold b_52_12 at hb
  refine rn_iconst (x := (nI 1)) rfl (by decide) ?_
  refine rn_goto rfl rfl ?_
  exact u_52_17 d hd v0 v1 (nI 1) h _ hb
def b_52_4 (v0 : Option Nat) (v1 : Int32)  (h : Hp) : Option (Int32 × Hp) :=
  (gI 4 5 v0 h).bind fun x1 =>
  if x1 ≤ v1 then b_52_16   h else b_52_12   h
theorem u_52_4 (d : Nat) (hd : 0 ≤ d) (v0 : Option Nat) (v1 : Int32)  (h : Hp) (r : Int32 × Hp) (hb : b_52_4 v0 v1  h = some r) : Rn d 52 4 [some (va_rf v0), some (.int v1)] [] h (some (.int r.1), r.2) := by
  unfold b_52_4 at hb
  refine rn_iload_n (i := 1) rfl rfl ?_
  refine rn_aload_n (i := 0) rfl rfl ?_
  refine rn_gI (c := 4) (k := 5) rfl (by decide) hb (fun x1 hb => ?_)
  refine rn_icmp_ge rfl rfl (fun hc => ?_) (fun hc => ?_)
  · exact u_52_16 d hd v0 v1  h _ (if_t hb hc)
  · exact u_52_12 d hd v0 v1  h _ (if_f hb hc)
def b_52_0 (v0 : Option Nat) (v1 : Int32)  (h : Hp) : Option (Int32 × Hp) :=
  if v1 < 0 then b_52_16   h else b_52_4 v0 v1  h
theorem u_52_0 (d : Nat) (hd : 0 ≤ d) (v0 : Option Nat) (v1 : Int32)  (h : Hp) (r : Int32 × Hp) (hb : b_52_0 v0 v1  h = some r) : Rn d 52 0 [some (va_rf v0), some (.int v1)] [] h (some (.int r.1), r.2) := by
  unfold b_52_0 at hb
  refine rn_iload_n (i := 1) rfl rfl ?_
  refine rn_if_lt rfl rfl (fun hc => ?_) (fun hc => ?_)
  · exact u_52_16 d hd v0 v1  h _ (if_t hb hc)
  · exact u_52_4 d hd v0 v1  h _ (if_f hb hc)
/-- BitingDoors$House.hasDoor(I)Z -/
def f_52 (v0 : Option Nat) (v1 : Int32) (h : Hp) : Option (Int32 × Hp) := b_52_0 v0 v1 h
theorem t_52 (d : Nat) (hd : 0 ≤ d) (v0 : Option Nat) (v1 : Int32) (h : Hp) (r : Int32 × Hp) (hb : f_52 v0 v1 h = some r) : Rn d 52 0 [some (va_rf v0), some (.int v1)] [] h (some (.int r.1), r.2) := by
  unfold f_52 at hb
  exact u_52_0 d hd v0 v1 h r hb
def b_53_22  (s0 : Int32) (h : Hp) : Option (Int32 × Hp) :=
  (grd (decide (s0 = 0 ∨ s0 = 1))).bind fun _ => some (s0, h)
theorem u_53_22 (d : Nat) (hd : 1 ≤ d) (v0 : Option Nat) (v1 : Int32) (v2 : Int32) (s0 : Int32) (h : Hp) (r : Int32 × Hp) (hb : b_53_22  s0 h = some r) : Rn d 53 22 [some (va_rf v0), some (.int v1), some (.int v2)] [.int s0] h (some (.int r.1), r.2) := by
  unfold b_53_22 at hb
  obtain ⟨hz, hb⟩ := grd_spec hb
  obtain rfl := Option.some.inj hb
  exact rn_zret rfl rfl (of_decide_eq_true hz)
def b_53_21   (h : Hp) : Option (Int32 × Hp) :=
  b_53_22  (nI 0) h
theorem u_53_21 (d : Nat) (hd : 1 ≤ d) (v0 : Option Nat) (v1 : Int32) (v2 : Int32)  (h : Hp) (r : Int32 × Hp) (hb : b_53_21   h = some r) : Rn d 53 21 [some (va_rf v0), some (.int v1), some (.int v2)] [] h (some (.int r.1), r.2) := by
  unfold b_53_21 at hb
  refine rn_iconst (x := (nI 0)) rfl (by decide) ?_
  exact u_53_22 d hd v0 v1 v2 (nI 0) h _ hb
def b_53_17   (h : Hp) : Option (Int32 × Hp) :=
  b_53_22  (nI 1) h
theorem u_53_17 (d : Nat) (hd : 1 ≤ d) (v0 : Option Nat) (v1 : Int32) (v2 : Int32)  (h : Hp) (r : Int32 × Hp) (hb : b_53_17   h = some r) : Rn d 53 17 [some (va_rf v0), some (.int v1), some (.int v2)] [] h (some (.int r.1), r.2) := by
  unfold b_53_17 at hb
  refine rn_iconst (x := (nI 1)) rfl (by decide) ?_
  refine rn_goto rfl rfl ?_
  exact u_53_22 d hd v0 v1 v2 (nI 1) h _ hb
def b_53_12 (v2 : Int32)  (h : Hp) : Option (Int32 × Hp) :=
  if (nI 4) ≤ v2 then b_53_21   h else b_53_17   h
theorem u_53_12 (d : Nat) (hd : 1 ≤ d) (v0 : Option Nat) (v1 : Int32) (v2 : Int32)  (h : Hp) (r : Int32 × Hp) (hb : b_53_12 v2  h = some r) : Rn d 53 12 [some (va_rf v0), some (.int v1), some (.int v2)] [] h (some (.int r.1), r.2) := by
  unfold b_53_12 at hb
  refine rn_iload_n (i := 2) rfl rfl ?_
  refine rn_iconst (x := (nI 4)) rfl (by decide) ?_
  refine rn_icmp_ge rfl rfl (fun hc => ?_) (fun hc => ?_)
  · exact u_53_21 d hd v0 v1 v2  h _ (if_t hb hc)
  · exact u_53_17 d hd v0 v1 v2  h _ (if_f hb hc)
def b_53_8 (v2 : Int32)  (h : Hp) : Option (Int32 × Hp) :=
  if v2 < 0 then b_53_21   h else b_53_12 v2  h
theorem u_53_8 (d : Nat) (hd : 1 ≤ d) (v0 : Option Nat) (v1 : Int32) (v2 : Int32)  (h : Hp) (r : Int32 × Hp) (hb : b_53_8 v2  h = some r) : Rn d 53 8 [some (va_rf v0), some (.int v1), some (.int v2)] [] h (some (.int r.1), r.2) := by
  unfold b_53_8 at hb
  refine rn_iload_n (i := 2) rfl rfl ?_
  refine rn_if_lt rfl rfl (fun hc => ?_) (fun hc => ?_)
  · exact u_53_21 d hd v0 v1 v2  h _ (if_t hb hc)
  · exact u_53_12 d hd v0 v1 v2  h _ (if_f hb hc)
def b_53_0 (v0 : Option Nat) (v1 : Int32) (v2 : Int32)  (h : Hp) : Option (Int32 × Hp) :=
  (grd (rC 4 v0 h)).bind fun _ =>
  (f_52 v0 v1 h).bind fun p1 =>
  if p1.1 = 0 then b_53_21   p1.2 else b_53_8 v2  p1.2
theorem u_53_0 (d : Nat) (hd : 1 ≤ d) (v0 : Option Nat) (v1 : Int32) (v2 : Int32)  (h : Hp) (r : Int32 × Hp) (hb : b_53_0 v0 v1 v2  h = some r) : Rn d 53 0 [some (va_rf v0), some (.int v1), some (.int v2)] [] h (some (.int r.1), r.2) := by
  unfold b_53_0 at hb
  obtain ⟨e, rfl⟩ : ∃ e, d = e + 1 := ⟨d - 1, by omega⟩
  refine rn_aload_n (i := 0) rfl rfl ?_
  refine rn_iload_n (i := 1) rfl rfl ?_
  obtain ⟨hrc, hb⟩ := grd_spec hb
  obtain ⟨p1, hc, hb⟩ := Option.bind_eq_some_iff.mp hb
  refine Rn.call1 (d := e) (As := [va_rf v0, .int v1]) (rest := []) rfl rfl rfl (by decide) rfl rfl rfl (bd_rcV hrc rfl) (by decide) (bd_lenC (n := 2) rfl (bd_slR (bd_slI bd_slN)) rfl) (bd_locC (n := 2) rfl (bd_slR (bd_slI bd_slN)) rfl (t_52 e (by omega) v0 v1 h _ hc)) ?_
  refine rn_if_eq rfl rfl (fun hc => ?_) (fun hc => ?_)
  · exact u_53_21 (e + 1) hd v0 v1 v2  p1.2 _ (if_t hb hc)
  · exact u_53_8 (e + 1) hd v0 v1 v2  p1.2 _ (if_f hb hc)
/-- BitingDoors$House.hasHanging(II)Z -/
def f_53 (v0 : Option Nat) (v1 : Int32) (v2 : Int32) (h : Hp) : Option (Int32 × Hp) := b_53_0 v0 v1 v2 h
theorem t_53 (d : Nat) (hd : 1 ≤ d) (v0 : Option Nat) (v1 : Int32) (v2 : Int32) (h : Hp) (r : Int32 × Hp) (hb : f_53 v0 v1 v2 h = some r) : Rn d 53 0 [some (va_rf v0), some (.int v1), some (.int v2)] [] h (some (.int r.1), r.2) := by
  unfold f_53 at hb
  exact u_53_0 d hd v0 v1 v2 h r hb
def b_55_0 (v0 : Option Nat) (v1 : Option Nat)  (h : Hp) : Option (Hp) :=
  (grd v0.isSome).bind fun _ =>
  bnd (hNew h 4 0 (bd_nf 4)) fun h1 =>
  (grd (some (hN h)).isSome).bind fun _ =>
  (f_49 (some (hN h)) h1).bind fun p2 =>
  (pQ 5 1 v0 (some (hN h)) p2).bind fun h3 =>
  (pQ 5 0 v0 v1 h3).bind fun h4 =>
  some h4
theorem u_55_0 (d : Nat) (hd : 1 ≤ d) (v0 : Option Nat) (v1 : Option Nat)  (h : Hp) (r : Hp) (hb : b_55_0 v0 v1  h = some r) : Rn d 55 0 [some (va_rf v0), some (va_rf v1)] [] h (none, r) := by
  unfold b_55_0 at hb
  obtain ⟨e, rfl⟩ : ∃ e, d = e + 1 := ⟨d - 1, by omega⟩
  refine rn_aload_n (i := 0) rfl rfl ?_
  obtain ⟨hq, hb⟩ := grd_spec hb
  refine rn_oinit rfl hq (by decide) ?_
  refine rn_aload_n (i := 0) rfl rfl ?_
  obtain ⟨h1, eh1, hb⟩ := bnd_spec hb
  refine rn_new rfl (by decide) ?_
  rw [← eh1]
  refine rn_dup rfl (bd_cat_rf _) ?_
  obtain ⟨hrc, hb⟩ := grd_spec hb
  obtain ⟨p2, hc, hb⟩ := Option.bind_eq_some_iff.mp hb
  refine Rn.call0 (d := e) (As := [va_rf (some (hN h))]) (rest := [va_rf (some (hN h)), va_rf v0]) rfl rfl rfl (by decide) rfl rfl rfl (bd_rcI hrc) (by rw [bd_cR (bd_cR (bd_cN))]; decide) (bd_lenC (n := 1) rfl (bd_slR bd_slN) rfl) (bd_locC (n := 1) rfl (bd_slR bd_slN) rfl (t_49 e (by omega) (some (hN h)) h1 _ hc)) ?_
  refine rn_pQ (c := 5) (k := 1) rfl (by decide) hb (fun h3 hb => ?_)
  refine rn_aload_n (i := 0) rfl rfl ?_
  refine rn_aload_n (i := 1) rfl rfl ?_
  refine rn_pQ (c := 5) (k := 0) rfl (by decide) hb (fun h4 hb => ?_)
  obtain rfl := Option.some.inj hb
  exact rn_vret rfl rfl
/-- BitingDoors$HouseReader.<init>(LBitingDoors$Text;)V -/
def f_55 (v0 : Option Nat) (v1 : Option Nat) (h : Hp) : Option (Hp) := b_55_0 v0 v1 h
theorem t_55 (d : Nat) (hd : 1 ≤ d) (v0 : Option Nat) (v1 : Option Nat) (h : Hp) (r : Hp) (hb : f_55 v0 v1 h = some r) : Rn d 55 0 [some (va_rf v0), some (va_rf v1)] [] h (none, r) := by
  unfold f_55 at hb
  exact u_55_0 d hd v0 v1 h r hb
def b_67_113 (v0 : Option Nat)  (h : Hp) : Option (Int32 × Hp) :=
  (gQ 5 1 v0 h).bind fun x1 =>
  (gI 4 6 x1 h).bind fun x2 =>
  (pI 4 6 x1 (x2 + (nI 1)) h).bind fun h3 =>
  (grd (decide ((nI 1) = 0 ∨ (nI 1) = 1))).bind fun _ => some ((nI 1), h3)
theorem u_67_113 (d : Nat) (hd : 3 ≤ d) (v0 : Option Nat) (v1 : Int32) (v2 : Int32) (v3 : Option (Int32))  (h : Hp) (r : Int32 × Hp) (hb : b_67_113 v0  h = some r) : Rn d 67 113 [some (va_rf v0), some (.int v1), some (.int v2), v3.map Value.int] [] h (some (.int r.1), r.2) := by
  unfold b_67_113 at hb
  refine rn_aload_n (i := 0) rfl rfl ?_
  refine rn_gQ (c := 5) (k := 1) rfl (by decide) hb (fun x1 hb => ?_)
  refine rn_dup rfl (bd_cat_rf _) ?_
  refine rn_gI (c := 4) (k := 6) rfl (by decide) hb (fun x2 hb => ?_)
  refine rn_iconst (x := (nI 1)) rfl (by decide) ?_
  refine rn_iadd rfl ?_
  refine rn_pI (c := 4) (k := 6) rfl (by decide) hb (fun h3 hb => ?_)
  refine rn_iconst (x := (nI 1)) rfl (by decide) ?_
  obtain ⟨hz, hb⟩ := grd_spec hb
  obtain rfl := Option.some.inj hb
  exact rn_zret rfl rfl (of_decide_eq_true hz)
def b_67_74 (k32 : Option Nat → Int32 → Int32 → Hp → Option (Int32 × Hp)) (v0 : Option Nat) (v1 : Int32) (v2 : Int32) (v3 : Int32)  (h : Hp) : Option (Int32 × Hp) :=
  bnd ((v1 ||| ((nI 1) <<< (v3 &&& 31)))) fun x1 =>
  (gQ 5 1 v0 h).bind fun x2 =>
  (gQ 4 2 x2 h).bind fun x3 =>
  (gQ 5 1 v0 h).bind fun x4 =>
  (gI 4 6 x4 h).bind fun x5 =>
  (wI x3 (((nI 3) * x5) + v2) v3 h).bind fun h6 =>
  (gQ 5 0 v0 h6).bind fun x7 =>
  (grd (rC 9 x7 h6)).bind fun _ =>
  (f_117 x7 h6).bind fun p8 =>
  bnd (v2 + (nI 1)) fun x9 =>
  k32 v0 x1 x9 p8
theorem u_67_74 (d : Nat) (hd : 3 ≤ d) (k32 : Option Nat → Int32 → Int32 → Hp → Option (Int32 × Hp)) (K32 : ∀ (v0 : Option Nat) (v1 : Int32) (v2 : Int32) (v3 : Option (Int32)) (h : Hp) (r : Int32 × Hp), k32 v0 v1 v2 h = some r → Rn d 67 32 [some (va_rf v0), some (.int v1), some (.int v2), v3.map Value.int] [] h (some (.int r.1), r.2)) (v0 : Option Nat) (v1 : Int32) (v2 : Int32) (v3 : Int32)  (h : Hp) (r : Int32 × Hp) (hb : b_67_74 k32 v0 v1 v2 v3  h = some r) : Rn d 67 74 [some (va_rf v0), some (.int v1), some (.int v2), some (.int v3)] [] h (some (.int r.1), r.2) := by
  unfold b_67_74 at hb
  obtain ⟨e, rfl⟩ : ∃ e, d = e + 1 := ⟨d - 1, by omega⟩
  refine rn_iload_n (i := 1) rfl rfl ?_
  refine rn_iconst (x := (nI 1)) rfl (by decide) ?_
  refine rn_iload_n (i := 3) rfl rfl ?_
  refine rn_ishl rfl ?_
  refine rn_ior rfl ?_
  obtain ⟨x1, ex1, hb⟩ := bnd_spec hb
  refine rn_istore_n (i := 1) (L1 := [some (va_rf v0), some (.int x1), some (.int v2), some (.int v3)]) rfl (Nat.le_of_ble_eq_true rfl) (Or.inr (bd_wideR rfl)) (by rw [ex1]; rfl) ?_
  refine rn_aload_n (i := 0) rfl rfl ?_
  refine rn_gQ (c := 5) (k := 1) rfl (by decide) hb (fun x2 hb => ?_)
  refine rn_gQ (c := 4) (k := 2) rfl (by decide) hb (fun x3 hb => ?_)
  refine rn_iconst (x := (nI 3)) rfl (by decide) ?_
  refine rn_aload_n (i := 0) rfl rfl ?_
  refine rn_gQ (c := 5) (k := 1) rfl (by decide) hb (fun x4 hb => ?_)
  refine rn_gI (c := 4) (k := 6) rfl (by decide) hb (fun x5 hb => ?_)
  refine rn_imul rfl ?_
  refine rn_iload_n (i := 2) rfl rfl ?_
  refine rn_iadd rfl ?_
  refine rn_iload_n (i := 3) rfl rfl ?_
  refine rn_wI rfl hb (fun h6 hb => ?_)
  refine rn_aload_n (i := 0) rfl rfl ?_
  refine rn_gQ (c := 5) (k := 0) rfl (by decide) hb (fun x7 hb => ?_)
  obtain ⟨hrc, hb⟩ := grd_spec hb
  obtain ⟨p8, hc, hb⟩ := Option.bind_eq_some_iff.mp hb
  refine Rn.call0 (d := e) (As := [va_rf x7]) (rest := []) rfl rfl rfl (by decide) rfl rfl rfl (bd_rcV hrc rfl) (by decide) (bd_lenC (n := 3) rfl (bd_slR bd_slN) rfl) (bd_locC (n := 3) rfl (bd_slR bd_slN) rfl (t_117 e (by omega) x7 h6 _ hc)) ?_
  obtain ⟨x9, ex9, hb⟩ := bnd_spec hb
  refine rn_iinc (i := 2) (y := x9) (L1 := [some (va_rf v0), some (.int x1), some (.int x9), some (.int v3)]) rfl rfl (Nat.le_of_ble_eq_true rfl) (Or.inr rfl) (by rw [ex9]; rfl) rfl ?_
  refine rn_goto rfl rfl ?_
  exact K32 v0 x1 x9 (some v3) p8 _ hb
def b_67_65 (v0 : Option Nat)  (h : Hp) : Option (Int32 × Hp) :=
  (gQ 5 0 v0 h).bind fun x1 =>
  (grd (rC 9 x1 h)).bind fun _ =>
  (f_119 x1 (nI 3) h).bind fun p2 =>
  (grd (decide (p2.1 = 0 ∨ p2.1 = 1))).bind fun _ => some (p2.1, p2.2)
theorem u_67_65 (d : Nat) (hd : 3 ≤ d) (v0 : Option Nat) (v1 : Int32) (v2 : Int32) (v3 : Int32)  (h : Hp) (r : Int32 × Hp) (hb : b_67_65 v0  h = some r) : Rn d 67 65 [some (va_rf v0), some (.int v1), some (.int v2), some (.int v3)] [] h (some (.int r.1), r.2) := by
  unfold b_67_65 at hb
  obtain ⟨e, rfl⟩ : ∃ e, d = e + 1 := ⟨d - 1, by omega⟩
  refine rn_aload_n (i := 0) rfl rfl ?_
  refine rn_gQ (c := 5) (k := 0) rfl (by decide) hb (fun x1 hb => ?_)
  refine rn_iconst (x := (nI 3)) rfl (by decide) ?_
  obtain ⟨hrc, hb⟩ := grd_spec hb
  obtain ⟨p2, hc, hb⟩ := Option.bind_eq_some_iff.mp hb
  refine Rn.call1 (d := e) (As := [va_rf x1, .int (nI 3)]) (rest := []) rfl rfl rfl (by decide) rfl rfl rfl (bd_rcV hrc rfl) (by decide) (bd_lenC (n := 2) rfl (bd_slR (bd_slI bd_slN)) rfl) (bd_locC (n := 2) rfl (bd_slR (bd_slI bd_slN)) rfl (t_119 e (by omega) x1 (nI 3) h _ hc)) ?_
  obtain ⟨hz, hb⟩ := grd_spec hb
  obtain rfl := Option.some.inj hb
  exact rn_zret rfl rfl (of_decide_eq_true hz)
def b_67_56 (k32 : Option Nat → Int32 → Int32 → Hp → Option (Int32 × Hp)) (v0 : Option Nat) (v1 : Int32) (v2 : Int32) (v3 : Int32)  (h : Hp) : Option (Int32 × Hp) :=
  if ¬ ((v1 >>> (v3 &&& 31)) &&& (nI 1)) = (nI 1) then b_67_74 k32 v0 v1 v2 v3  h else b_67_65 v0  h
theorem u_67_56 (d : Nat) (hd : 3 ≤ d) (k32 : Option Nat → Int32 → Int32 → Hp → Option (Int32 × Hp)) (K32 : ∀ (v0 : Option Nat) (v1 : Int32) (v2 : Int32) (v3 : Option (Int32)) (h : Hp) (r : Int32 × Hp), k32 v0 v1 v2 h = some r → Rn d 67 32 [some (va_rf v0), some (.int v1), some (.int v2), v3.map Value.int] [] h (some (.int r.1), r.2)) (v0 : Option Nat) (v1 : Int32) (v2 : Int32) (v3 : Int32)  (h : Hp) (r : Int32 × Hp) (hb : b_67_56 k32 v0 v1 v2 v3  h = some r) : Rn d 67 56 [some (va_rf v0), some (.int v1), some (.int v2), some (.int v3)] [] h (some (.int r.1), r.2) := by
  unfold b_67_56 at hb
  refine rn_iload_n (i := 1) rfl rfl ?_
  refine rn_iload_n (i := 3) rfl rfl ?_
  refine rn_ishr rfl ?_
  refine rn_iconst (x := (nI 1)) rfl (by decide) ?_
  refine rn_iand rfl ?_
  refine rn_iconst (x := (nI 1)) rfl (by decide) ?_
  refine rn_icmp_ne rfl rfl (fun hc => ?_) (fun hc => ?_)
  · exact u_67_74 d hd k32 K32 v0 v1 v2 v3  h _ (if_t hb hc)
  · exact u_67_65 d hd v0 v1 v2 v3  h _ (if_f hb hc)
def b_67_54   (h : Hp) : Option (Int32 × Hp) :=
  (grd (decide ((nI 0) = 0 ∨ (nI 0) = 1))).bind fun _ => some ((nI 0), h)
theorem u_67_54 (d : Nat) (hd : 3 ≤ d) (v0 : Option Nat) (v1 : Int32) (v2 : Int32) (v3 : Int32)  (h : Hp) (r : Int32 × Hp) (hb : b_67_54   h = some r) : Rn d 67 54 [some (va_rf v0), some (.int v1), some (.int v2), some (.int v3)] [] h (some (.int r.1), r.2) := by
  unfold b_67_54 at hb
  refine rn_iconst (x := (nI 0)) rfl (by decide) ?_
  obtain ⟨hz, hb⟩ := grd_spec hb
  obtain rfl := Option.some.inj hb
  exact rn_zret rfl rfl (of_decide_eq_true hz)
def b_67_37 (k32 : Option Nat → Int32 → Int32 → Hp → Option (Int32 × Hp)) (v0 : Option Nat) (v1 : Int32) (v2 : Int32)  (h : Hp) : Option (Int32 × Hp) :=
  (gQ 5 0 v0 h).bind fun x1 =>
  (gQ 5 1 v0 h).bind fun x2 =>
  (grd (rC 9 x1 h)).bind fun _ =>
  (f_125 x1 x2 h).bind fun p3 =>
  bnd (p3.1) fun x4 =>
  if ¬ x4 = (-1 : Int32) then b_67_56 k32 v0 v1 v2 x4  p3.2 else b_67_54   p3.2
theorem u_67_37 (d : Nat) (hd : 3 ≤ d) (k32 : Option Nat → Int32 → Int32 → Hp → Option (Int32 × Hp)) (K32 : ∀ (v0 : Option Nat) (v1 : Int32) (v2 : Int32) (v3 : Option (Int32)) (h : Hp) (r : Int32 × Hp), k32 v0 v1 v2 h = some r → Rn d 67 32 [some (va_rf v0), some (.int v1), some (.int v2), v3.map Value.int] [] h (some (.int r.1), r.2)) (v0 : Option Nat) (v1 : Int32) (v2 : Int32) (v3 : Option (Int32))  (h : Hp) (r : Int32 × Hp) (hb : b_67_37 k32 v0 v1 v2  h = some r) : Rn d 67 37 [some (va_rf v0), some (.int v1), some (.int v2), v3.map Value.int] [] h (some (.int r.1), r.2) := by
  unfold b_67_37 at hb
  obtain ⟨e, rfl⟩ : ∃ e, d = e + 1 := ⟨d - 1, by omega⟩
  refine rn_aload_n (i := 0) rfl rfl ?_
  refine rn_gQ (c := 5) (k := 0) rfl (by decide) hb (fun x1 hb => ?_)
  refine rn_aload_n (i := 0) rfl rfl ?_
  refine rn_gQ (c := 5) (k := 1) rfl (by decide) hb (fun x2 hb => ?_)
  obtain ⟨hrc, hb⟩ := grd_spec hb
  obtain ⟨p3, hc, hb⟩ := Option.bind_eq_some_iff.mp hb
  refine Rn.call1 (d := e) (As := [va_rf x1, va_rf x2]) (rest := []) rfl rfl rfl (by decide) rfl rfl rfl (bd_rcV hrc rfl) (by decide) (bd_lenC (n := 4) rfl (bd_slR (bd_slR bd_slN)) rfl) (bd_locC (n := 4) rfl (bd_slR (bd_slR bd_slN)) rfl (t_125 e (by omega) x1 x2 h _ hc)) ?_
  obtain ⟨x4, ex4, hb⟩ := bnd_spec hb
  refine rn_istore_n (i := 3) (L1 := [some (va_rf v0), some (.int v1), some (.int v2), some (.int x4)]) rfl (Nat.le_of_ble_eq_true rfl) (Or.inr rfl) (by rw [ex4]; rfl) ?_
  refine rn_iload_n (i := 3) rfl rfl ?_
  refine rn_iconst (x := (-1 : Int32)) rfl (by decide) ?_
  refine rn_icmp_ne rfl rfl (fun hc => ?_) (fun hc => ?_)
  · exact u_67_56 (e + 1) hd k32 K32 v0 v1 v2 x4  p3.2 _ (if_t hb hc)
  · exact u_67_54 (e + 1) hd v0 v1 v2 x4  p3.2 _ (if_f hb hc)
def b_67_32 (k32 : Option Nat → Int32 → Int32 → Hp → Option (Int32 × Hp)) (v0 : Option Nat) (v1 : Int32) (v2 : Int32)  (h : Hp) : Option (Int32 × Hp) :=
  if (nI 3) ≤ v2 then b_67_113 v0  h else b_67_37 k32 v0 v1 v2  h
theorem u_67_32 (d : Nat) (hd : 3 ≤ d) (k32 : Option Nat → Int32 → Int32 → Hp → Option (Int32 × Hp)) (K32 : ∀ (v0 : Option Nat) (v1 : Int32) (v2 : Int32) (v3 : Option (Int32)) (h : Hp) (r : Int32 × Hp), k32 v0 v1 v2 h = some r → Rn d 67 32 [some (va_rf v0), some (.int v1), some (.int v2), v3.map Value.int] [] h (some (.int r.1), r.2)) (v0 : Option Nat) (v1 : Int32) (v2 : Int32) (v3 : Option (Int32))  (h : Hp) (r : Int32 × Hp) (hb : b_67_32 k32 v0 v1 v2  h = some r) : Rn d 67 32 [some (va_rf v0), some (.int v1), some (.int v2), v3.map Value.int] [] h (some (.int r.1), r.2) := by
  unfold b_67_32 at hb
  refine rn_iload_n (i := 2) rfl rfl ?_
  refine rn_iconst (x := (nI 3)) rfl (by decide) ?_
  refine rn_icmp_ge rfl rfl (fun hc => ?_) (fun hc => ?_)
  · exact u_67_113 d hd v0 v1 v2 v3  h _ (if_t hb hc)
  · exact u_67_37 d hd k32 K32 v0 v1 v2 v3  h _ (if_f hb hc)
def l_67_32 : Nat → Option Nat → Int32 → Int32 → Hp → Option (Int32 × Hp)
  | 0, _, _, _, _ => none
  | n + 1, v0, v1, v2, h => b_67_32 (l_67_32 n) v0 v1 v2 h
theorem w_67_32 (d : Nat) (hd : 3 ≤ d) : ∀ (n : Nat) (v0 : Option Nat) (v1 : Int32) (v2 : Int32) (v3 : Option (Int32)) (h : Hp) (r : Int32 × Hp), l_67_32 n v0 v1 v2 h = some r → Rn d 67 32 [some (va_rf v0), some (.int v1), some (.int v2), v3.map Value.int] [] h (some (.int r.1), r.2) := by
  intro n
  induction n with
  | zero => intro v0 v1 v2 v3 h r hb; cases hb
  | succ n ih => intro v0 v1 v2 v3 h r hb; exact u_67_32 d hd (l_67_32 n) ih v0 v1 v2 v3 h r hb
def b_67_21 (v0 : Option Nat)  (h : Hp) : Option (Int32 × Hp) :=
  (gQ 5 0 v0 h).bind fun x1 =>
  (grd (rC 9 x1 h)).bind fun _ =>
  (f_117 x1 h).bind fun p2 =>
  bnd ((nI 0)) fun x3 =>
  bnd ((nI 0)) fun x4 =>
  l_67_32 FU v0 x3 x4 p2
theorem u_67_21 (d : Nat) (hd : 3 ≤ d) (v0 : Option Nat)  (h : Hp) (r : Int32 × Hp) (hb : b_67_21 v0  h = some r) : Rn d 67 21 [some (va_rf v0), none, none, none] [] h (some (.int r.1), r.2) := by
  unfold b_67_21 at hb
  obtain ⟨e, rfl⟩ : ∃ e, d = e + 1 := ⟨d - 1, by omega⟩
  refine rn_aload_n (i := 0) rfl rfl ?_
  refine rn_gQ (c := 5) (k := 0) rfl (by decide) hb (fun x1 hb => ?_)
  obtain ⟨hrc, hb⟩ := grd_spec hb
  obtain ⟨p2, hc, hb⟩ := Option.bind_eq_some_iff.mp hb
  refine Rn.call0 (d := e) (As := [va_rf x1]) (rest := []) rfl rfl rfl (by decide) rfl rfl rfl (bd_rcV hrc rfl) (by decide) (bd_lenC (n := 3) rfl (bd_slR bd_slN) rfl) (bd_locC (n := 3) rfl (bd_slR bd_slN) rfl (t_117 e (by omega) x1 h _ hc)) ?_
  refine rn_iconst (x := (nI 0)) rfl (by decide) ?_
  obtain ⟨x3, ex3, hb⟩ := bnd_spec hb
  refine rn_istore_n (i := 1) (L1 := [some (va_rf v0), some (.int x3), none, none]) rfl (Nat.le_of_ble_eq_true rfl) (Or.inr (bd_wideR rfl)) (by rw [ex3]; rfl) ?_
  refine rn_iconst (x := (nI 0)) rfl (by decide) ?_
  obtain ⟨x4, ex4, hb⟩ := bnd_spec hb
  refine rn_istore_n (i := 2) (L1 := [some (va_rf v0), some (.int x3), some (.int x4), none]) rfl (Nat.le_of_ble_eq_true rfl) (Or.inr rfl) (by rw [ex4]; rfl) ?_
  exact w_67_32 (e + 1) hd FU v0 x3 x4 (none : Option (Int32)) p2 _ hb
def b_67_12 (v0 : Option Nat)  (h : Hp) : Option (Int32 × Hp) :=
  (gQ 5 0 v0 h).bind fun x1 =>
  (grd (rC 9 x1 h)).bind fun _ =>
  (f_119 x1 (nI 4) h).bind fun p2 =>
  (grd (decide (p2.1 = 0 ∨ p2.1 = 1))).bind fun _ => some (p2.1, p2.2)
theorem u_67_12 (d : Nat) (hd : 3 ≤ d) (v0 : Option Nat)  (h : Hp) (r : Int32 × Hp) (hb : b_67_12 v0  h = some r) : Rn d 67 12 [some (va_rf v0), none, none, none] [] h (some (.int r.1), r.2) := by
  unfold b_67_12 at hb
  obtain ⟨e, rfl⟩ : ∃ e, d = e + 1 := ⟨d - 1, by omega⟩
  refine rn_aload_n (i := 0) rfl rfl ?_
  refine rn_gQ (c := 5) (k := 0) rfl (by decide) hb (fun x1 hb => ?_)
  refine rn_iconst (x := (nI 4)) rfl (by decide) ?_
  obtain ⟨hrc, hb⟩ := grd_spec hb
  obtain ⟨p2, hc, hb⟩ := Option.bind_eq_some_iff.mp hb
  refine Rn.call1 (d := e) (As := [va_rf x1, .int (nI 4)]) (rest := []) rfl rfl rfl (by decide) rfl rfl rfl (bd_rcV hrc rfl) (by decide) (bd_lenC (n := 2) rfl (bd_slR (bd_slI bd_slN)) rfl) (bd_locC (n := 2) rfl (bd_slR (bd_slI bd_slN)) rfl (t_119 e (by omega) x1 (nI 4) h _ hc)) ?_
  obtain ⟨hz, hb⟩ := grd_spec hb
  obtain rfl := Option.some.inj hb
  exact rn_zret rfl rfl (of_decide_eq_true hz)
def b_67_0 (v0 : Option Nat)  (h : Hp) : Option (Int32 × Hp) :=
  (gQ 5 1 v0 h).bind fun x1 =>
  (gI 4 6 x1 h).bind fun x2 =>
  if ¬ x2 = (nI 6) then b_67_21 v0  h else b_67_12 v0  h
theorem u_67_0 (d : Nat) (hd : 3 ≤ d) (v0 : Option Nat)  (h : Hp) (r : Int32 × Hp) (hb : b_67_0 v0  h = some r) : Rn d 67 0 [some (va_rf v0), none, none, none] [] h (some (.int r.1), r.2) := by
  unfold b_67_0 at hb
  refine rn_aload_n (i := 0) rfl rfl ?_
  refine rn_gQ (c := 5) (k := 1) rfl (by decide) hb (fun x1 hb => ?_)
  refine rn_gI (c := 4) (k := 6) rfl (by decide) hb (fun x2 hb => ?_)
  refine rn_bipush (x := (nI 6)) rfl (by decide) ?_
  refine rn_icmp_ne rfl rfl (fun hc => ?_) (fun hc => ?_)
  · exact u_67_21 d hd v0  h _ (if_t hb hc)
  · exact u_67_12 d hd v0  h _ (if_f hb hc)
/-- BitingDoors$HouseReader.readDraught()Z -/
def f_67 (v0 : Option Nat) (h : Hp) : Option (Int32 × Hp) := b_67_0 v0 h
theorem t_67 (d : Nat) (hd : 3 ≤ d) (v0 : Option Nat) (h : Hp) (r : Int32 × Hp) (hb : f_67 v0 h = some r) : Rn d 67 0 [some (va_rf v0), none, none, none] [] h (some (.int r.1), r.2) := by
  unfold f_67 at hb
  exact u_67_0 d hd v0 h r hb
def b_68_113 (v0 : Option Nat) (v1 : Int32)  (h : Hp) : Option (Int32 × Hp) :=
  (gQ 5 1 v0 h).bind fun x1 =>
  (gQ 5 0 v0 h).bind fun x2 =>
  (gI 9 4 x2 h).bind fun x3 =>
  (pI 4 7 x1 (((nI 10) * x3) + v1) h).bind fun h4 =>
  (gQ 5 0 v0 h4).bind fun x5 =>
  (grd (rC 9 x5 h4)).bind fun _ =>
  (f_117 x5 h4).bind fun p6 =>
  (grd (decide ((nI 1) = 0 ∨ (nI 1) = 1))).bind fun _ => some ((nI 1), p6)
theorem u_68_113 (d : Nat) (hd : 2 ≤ d) (v0 : Option Nat) (v1 : Int32)  (h : Hp) (r : Int32 × Hp) (hb : b_68_113 v0 v1  h = some r) : Rn d 68 113 [some (va_rf v0), some (.int v1)] [] h (some (.int r.1), r.2) := by
  unfold b_68_113 at hb
  obtain ⟨e, rfl⟩ : ∃ e, d = e + 1 := ⟨d - 1, by omega⟩
  refine rn_aload_n (i := 0) rfl rfl ?_
  refine rn_gQ (c := 5) (k := 1) rfl (by decide) hb (fun x1 hb => ?_)
  refine rn_bipush (x := (nI 10)) rfl (by decide) ?_
  refine rn_aload_n (i := 0) rfl rfl ?_
  refine rn_gQ (c := 5) (k := 0) rfl (by decide) hb (fun x2 hb => ?_)
  refine rn_gI (c := 9) (k := 4) rfl (by decide) hb (fun x3 hb => ?_)
  refine rn_imul rfl ?_
  refine rn_iload_n (i := 1) rfl rfl ?_
  refine rn_iadd rfl ?_
  refine rn_pI (c := 4) (k := 7) rfl (by decide) hb (fun h4 hb => ?_)
  refine rn_aload_n (i := 0) rfl rfl ?_
  refine rn_gQ (c := 5) (k := 0) rfl (by decide) hb (fun x5 hb => ?_)
  obtain ⟨hrc, hb⟩ := grd_spec hb
  obtain ⟨p6, hc, hb⟩ := Option.bind_eq_some_iff.mp hb
  refine Rn.call0 (d := e) (As := [va_rf x5]) (rest := []) rfl rfl rfl (by decide) rfl rfl rfl (bd_rcV hrc rfl) (by decide) (bd_lenC (n := 3) rfl (bd_slR bd_slN) rfl) (bd_locC (n := 3) rfl (bd_slR bd_slN) rfl (t_117 e (by omega) x5 h4 _ hc)) ?_
  refine rn_iconst (x := (nI 1)) rfl (by decide) ?_
  obtain ⟨hz, hb⟩ := grd_spec hb
  obtain rfl := Option.some.inj hb
  exact rn_zret rfl rfl (of_decide_eq_true hz)
def b_68_104 (v0 : Option Nat)  (h : Hp) : Option (Int32 × Hp) :=
  (gQ 5 0 v0 h).bind fun x1 =>
  (grd (rC 9 x1 h)).bind fun _ =>
  (f_119 x1 (nI 2) h).bind fun p2 =>
  (grd (decide (p2.1 = 0 ∨ p2.1 = 1))).bind fun _ => some (p2.1, p2.2)
theorem u_68_104 (d : Nat) (hd : 2 ≤ d) (v0 : Option Nat) (v1 : Int32)  (h : Hp) (r : Int32 × Hp) (hb : b_68_104 v0  h = some r) : Rn d 68 104 [some (va_rf v0), some (.int v1)] [] h (some (.int r.1), r.2) := by
  unfold b_68_104 at hb
  obtain ⟨e, rfl⟩ : ∃ e, d = e + 1 := ⟨d - 1, by omega⟩
  refine rn_aload_n (i := 0) rfl rfl ?_
  refine rn_gQ (c := 5) (k := 0) rfl (by decide) hb (fun x1 hb => ?_)
  refine rn_iconst (x := (nI 2)) rfl (by decide) ?_
  obtain ⟨hrc, hb⟩ := grd_spec hb
  obtain ⟨p2, hc, hb⟩ := Option.bind_eq_some_iff.mp hb
  refine Rn.call1 (d := e) (As := [va_rf x1, .int (nI 2)]) (rest := []) rfl rfl rfl (by decide) rfl rfl rfl (bd_rcV hrc rfl) (by decide) (bd_lenC (n := 2) rfl (bd_slR (bd_slI bd_slN)) rfl) (bd_locC (n := 2) rfl (bd_slR (bd_slI bd_slN)) rfl (t_119 e (by omega) x1 (nI 2) h _ hc)) ?_
  obtain ⟨hz, hb⟩ := grd_spec hb
  obtain rfl := Option.some.inj hb
  exact rn_zret rfl rfl (of_decide_eq_true hz)
def b_68_86 (v0 : Option Nat) (v1 : Int32)  (h : Hp) : Option (Int32 × Hp) :=
  (gQ 5 1 v0 h).bind fun x1 =>
  (gQ 5 0 v0 h).bind fun x2 =>
  (gI 9 4 x2 h).bind fun x3 =>
  (grd (rC 4 x1 h)).bind fun _ =>
  (f_50 x1 v1 x3 h).bind fun p4 =>
  if p4.1 = 0 then b_68_113 v0 v1  p4.2 else b_68_104 v0  p4.2
theorem u_68_86 (d : Nat) (hd : 2 ≤ d) (v0 : Option Nat) (v1 : Int32)  (h : Hp) (r : Int32 × Hp) (hb : b_68_86 v0 v1  h = some r) : Rn d 68 86 [some (va_rf v0), some (.int v1)] [] h (some (.int r.1), r.2) := by
  unfold b_68_86 at hb
  obtain ⟨e, rfl⟩ : ∃ e, d = e + 1 := ⟨d - 1, by omega⟩
  refine rn_aload_n (i := 0) rfl rfl ?_
  refine rn_gQ (c := 5) (k := 1) rfl (by decide) hb (fun x1 hb => ?_)
  refine rn_iload_n (i := 1) rfl rfl ?_
  refine rn_aload_n (i := 0) rfl rfl ?_
  refine rn_gQ (c := 5) (k := 0) rfl (by decide) hb (fun x2 hb => ?_)
  refine rn_gI (c := 9) (k := 4) rfl (by decide) hb (fun x3 hb => ?_)
  obtain ⟨hrc, hb⟩ := grd_spec hb
  obtain ⟨p4, hc, hb⟩ := Option.bind_eq_some_iff.mp hb
  refine Rn.call1 (d := e) (As := [va_rf x1, .int v1, .int x3]) (rest := []) rfl rfl rfl (by decide) rfl rfl rfl (bd_rcV hrc rfl) (by decide) (bd_lenC (n := 4) rfl (bd_slR (bd_slI (bd_slI bd_slN))) rfl) (bd_locC (n := 4) rfl (bd_slR (bd_slI (bd_slI bd_slN))) rfl (t_50 e (by omega) x1 v1 x3 h _ hc)) ?_
  refine rn_if_eq rfl rfl (fun hc => ?_) (fun hc => ?_)
  · exact u_68_113 (e + 1) hd v0 v1  p4.2 _ (if_t hb hc)
  · exact u_68_104 (e + 1) hd v0 v1  p4.2 _ (if_f hb hc)
def b_68_84   (h : Hp) : Option (Int32 × Hp) :=
  (grd (decide ((nI 0) = 0 ∨ (nI 0) = 1))).bind fun _ => some ((nI 0), h)
theorem u_68_84 (d : Nat) (hd : 2 ≤ d) (v0 : Option Nat) (v1 : Int32)  (h : Hp) (r : Int32 × Hp) (hb : b_68_84   h = some r) : Rn d 68 84 [some (va_rf v0), some (.int v1)] [] h (some (.int r.1), r.2) := by
  unfold b_68_84 at hb
  refine rn_iconst (x := (nI 0)) rfl (by decide) ?_
  obtain ⟨hz, hb⟩ := grd_spec hb
  obtain rfl := Option.some.inj hb
  exact rn_zret rfl rfl (of_decide_eq_true hz)
def b_68_49 (v0 : Option Nat)  (h : Hp) : Option (Int32 × Hp) :=
  (gQ 5 0 v0 h).bind fun x1 =>
  (gI 9 4 x1 h).bind fun x2 =>
  (gQ 5 0 v0 h).bind fun x3 =>
  (grd (rC 9 x3 h)).bind fun _ =>
  (f_117 x3 h).bind fun p4 =>
  (gQ 5 0 v0 p4).bind fun x5 =>
  (gQ 5 1 v0 p4).bind fun x6 =>
  (gI 4 4 x6 p4).bind fun x7 =>
  (grd (rC 9 x5 p4)).bind fun _ =>
  (f_124 x5 (nI 0) (x7 - (nI 1)) p4).bind fun p8 =>
  if ¬ p8.1 = 0 then b_68_86 v0 x2  p8.2 else b_68_84   p8.2
theorem u_68_49 (d : Nat) (hd : 2 ≤ d) (v0 : Option Nat)  (h : Hp) (r : Int32 × Hp) (hb : b_68_49 v0  h = some r) : Rn d 68 49 [some (va_rf v0), none] [] h (some (.int r.1), r.2) := by
  unfold b_68_49 at hb
  obtain ⟨e, rfl⟩ : ∃ e, d = e + 1 := ⟨d - 1, by omega⟩
  refine rn_aload_n (i := 0) rfl rfl ?_
  refine rn_gQ (c := 5) (k := 0) rfl (by decide) hb (fun x1 hb => ?_)
  refine rn_gI (c := 9) (k := 4) rfl (by decide) hb (fun x2 hb => ?_)
  refine rn_istore_n (i := 1) (L1 := [some (va_rf v0), some (.int x2)]) rfl (Nat.le_of_ble_eq_true rfl) (Or.inr (bd_wideR rfl)) rfl ?_
  refine rn_aload_n (i := 0) rfl rfl ?_
  refine rn_gQ (c := 5) (k := 0) rfl (by decide) hb (fun x3 hb => ?_)
  obtain ⟨hrc, hb⟩ := grd_spec hb
  obtain ⟨p4, hc, hb⟩ := Option.bind_eq_some_iff.mp hb
  refine Rn.call0 (d := e) (As := [va_rf x3]) (rest := []) rfl rfl rfl (by decide) rfl rfl rfl (bd_rcV hrc rfl) (by decide) (bd_lenC (n := 3) rfl (bd_slR bd_slN) rfl) (bd_locC (n := 3) rfl (bd_slR bd_slN) rfl (t_117 e (by omega) x3 h _ hc)) ?_
  refine rn_aload_n (i := 0) rfl rfl ?_
  refine rn_gQ (c := 5) (k := 0) rfl (by decide) hb (fun x5 hb => ?_)
  refine rn_iconst (x := (nI 0)) rfl (by decide) ?_
  refine rn_aload_n (i := 0) rfl rfl ?_
  refine rn_gQ (c := 5) (k := 1) rfl (by decide) hb (fun x6 hb => ?_)
  refine rn_gI (c := 4) (k := 4) rfl (by decide) hb (fun x7 hb => ?_)
  refine rn_iconst (x := (nI 1)) rfl (by decide) ?_
  refine rn_isub rfl ?_
  obtain ⟨hrc, hb⟩ := grd_spec hb
  obtain ⟨p8, hc, hb⟩ := Option.bind_eq_some_iff.mp hb
  refine Rn.call1 (d := e) (As := [va_rf x5, .int (nI 0), .int (x7 - (nI 1))]) (rest := []) rfl rfl rfl (by decide) rfl rfl rfl (bd_rcV hrc rfl) (by decide) (bd_lenC (n := 3) rfl (bd_slR (bd_slI (bd_slI bd_slN))) rfl) (bd_locC (n := 3) rfl (bd_slR (bd_slI (bd_slI bd_slN))) rfl (t_124 e (by omega) x5 (nI 0) (x7 - (nI 1)) p4 _ hc)) ?_
  refine rn_if_ne rfl rfl (fun hc => ?_) (fun hc => ?_)
  · exact u_68_86 (e + 1) hd v0 x2  p8.2 _ (if_t hb hc)
  · exact u_68_84 (e + 1) hd v0 x2  p8.2 _ (if_f hb hc)
def b_68_47   (h : Hp) : Option (Int32 × Hp) :=
  (grd (decide ((nI 0) = 0 ∨ (nI 0) = 1))).bind fun _ => some ((nI 0), h)
theorem u_68_47 (d : Nat) (hd : 2 ≤ d) (v0 : Option Nat)  (h : Hp) (r : Int32 × Hp) (hb : b_68_47   h = some r) : Rn d 68 47 [some (va_rf v0), none] [] h (some (.int r.1), r.2) := by
  unfold b_68_47 at hb
  refine rn_iconst (x := (nI 0)) rfl (by decide) ?_
  obtain ⟨hz, hb⟩ := grd_spec hb
  obtain rfl := Option.some.inj hb
  exact rn_zret rfl rfl (of_decide_eq_true hz)
def b_68_20 (v0 : Option Nat)  (h : Hp) : Option (Int32 × Hp) :=
  (gQ 5 0 v0 h).bind fun x1 =>
  (grd (rC 9 x1 h)).bind fun _ =>
  (f_117 x1 h).bind fun p2 =>
  (gQ 5 0 v0 p2).bind fun x3 =>
  (gQ 5 1 v0 p2).bind fun x4 =>
  (gI 4 3 x4 p2).bind fun x5 =>
  (grd (rC 9 x3 p2)).bind fun _ =>
  (f_124 x3 (nI 0) (x5 - (nI 1)) p2).bind fun p6 =>
  if ¬ p6.1 = 0 then b_68_49 v0  p6.2 else b_68_47   p6.2
theorem u_68_20 (d : Nat) (hd : 2 ≤ d) (v0 : Option Nat)  (h : Hp) (r : Int32 × Hp) (hb : b_68_20 v0  h = some r) : Rn d 68 20 [some (va_rf v0), none] [] h (some (.int r.1), r.2) := by
  unfold b_68_20 at hb
  obtain ⟨e, rfl⟩ : ∃ e, d = e + 1 := ⟨d - 1, by omega⟩
  refine rn_aload_n (i := 0) rfl rfl ?_
  refine rn_gQ (c := 5) (k := 0) rfl (by decide) hb (fun x1 hb => ?_)
  obtain ⟨hrc, hb⟩ := grd_spec hb
  obtain ⟨p2, hc, hb⟩ := Option.bind_eq_some_iff.mp hb
  refine Rn.call0 (d := e) (As := [va_rf x1]) (rest := []) rfl rfl rfl (by decide) rfl rfl rfl (bd_rcV hrc rfl) (by decide) (bd_lenC (n := 3) rfl (bd_slR bd_slN) rfl) (bd_locC (n := 3) rfl (bd_slR bd_slN) rfl (t_117 e (by omega) x1 h _ hc)) ?_
  refine rn_aload_n (i := 0) rfl rfl ?_
  refine rn_gQ (c := 5) (k := 0) rfl (by decide) hb (fun x3 hb => ?_)
  refine rn_iconst (x := (nI 0)) rfl (by decide) ?_
  refine rn_aload_n (i := 0) rfl rfl ?_
  refine rn_gQ (c := 5) (k := 1) rfl (by decide) hb (fun x4 hb => ?_)
  refine rn_gI (c := 4) (k := 3) rfl (by decide) hb (fun x5 hb => ?_)
  refine rn_iconst (x := (nI 1)) rfl (by decide) ?_
  refine rn_isub rfl ?_
  obtain ⟨hrc, hb⟩ := grd_spec hb
  obtain ⟨p6, hc, hb⟩ := Option.bind_eq_some_iff.mp hb
  refine Rn.call1 (d := e) (As := [va_rf x3, .int (nI 0), .int (x5 - (nI 1))]) (rest := []) rfl rfl rfl (by decide) rfl rfl rfl (bd_rcV hrc rfl) (by decide) (bd_lenC (n := 3) rfl (bd_slR (bd_slI (bd_slI bd_slN))) rfl) (bd_locC (n := 3) rfl (bd_slR (bd_slI (bd_slI bd_slN))) rfl (t_124 e (by omega) x3 (nI 0) (x5 - (nI 1)) p2 _ hc)) ?_
  refine rn_if_ne rfl rfl (fun hc => ?_) (fun hc => ?_)
  · exact u_68_49 (e + 1) hd v0  p6.2 _ (if_t hb hc)
  · exact u_68_47 (e + 1) hd v0  p6.2 _ (if_f hb hc)
def b_68_11 (v0 : Option Nat)  (h : Hp) : Option (Int32 × Hp) :=
  (gQ 5 0 v0 h).bind fun x1 =>
  (grd (rC 9 x1 h)).bind fun _ =>
  (f_119 x1 (nI 3) h).bind fun p2 =>
  (grd (decide (p2.1 = 0 ∨ p2.1 = 1))).bind fun _ => some (p2.1, p2.2)
theorem u_68_11 (d : Nat) (hd : 2 ≤ d) (v0 : Option Nat)  (h : Hp) (r : Int32 × Hp) (hb : b_68_11 v0  h = some r) : Rn d 68 11 [some (va_rf v0), none] [] h (some (.int r.1), r.2) := by
  unfold b_68_11 at hb
  obtain ⟨e, rfl⟩ : ∃ e, d = e + 1 := ⟨d - 1, by omega⟩
  refine rn_aload_n (i := 0) rfl rfl ?_
  refine rn_gQ (c := 5) (k := 0) rfl (by decide) hb (fun x1 hb => ?_)
  refine rn_iconst (x := (nI 3)) rfl (by decide) ?_
  obtain ⟨hrc, hb⟩ := grd_spec hb
  obtain ⟨p2, hc, hb⟩ := Option.bind_eq_some_iff.mp hb
  refine Rn.call1 (d := e) (As := [va_rf x1, .int (nI 3)]) (rest := []) rfl rfl rfl (by decide) rfl rfl rfl (bd_rcV hrc rfl) (by decide) (bd_lenC (n := 2) rfl (bd_slR (bd_slI bd_slN)) rfl) (bd_locC (n := 2) rfl (bd_slR (bd_slI bd_slN)) rfl (t_119 e (by omega) x1 (nI 3) h _ hc)) ?_
  obtain ⟨hz, hb⟩ := grd_spec hb
  obtain rfl := Option.some.inj hb
  exact rn_zret rfl rfl (of_decide_eq_true hz)
def b_68_0 (v0 : Option Nat)  (h : Hp) : Option (Int32 × Hp) :=
  (gQ 5 1 v0 h).bind fun x1 =>
  (gI 4 7 x1 h).bind fun x2 =>
  if x2 = (-1 : Int32) then b_68_20 v0  h else b_68_11 v0  h
theorem u_68_0 (d : Nat) (hd : 2 ≤ d) (v0 : Option Nat)  (h : Hp) (r : Int32 × Hp) (hb : b_68_0 v0  h = some r) : Rn d 68 0 [some (va_rf v0), none] [] h (some (.int r.1), r.2) := by
  unfold b_68_0 at hb
  refine rn_aload_n (i := 0) rfl rfl ?_
  refine rn_gQ (c := 5) (k := 1) rfl (by decide) hb (fun x1 hb => ?_)
  refine rn_gI (c := 4) (k := 7) rfl (by decide) hb (fun x2 hb => ?_)
  refine rn_iconst (x := (-1 : Int32)) rfl (by decide) ?_
  refine rn_icmp_eq rfl rfl (fun hc => ?_) (fun hc => ?_)
  · exact u_68_20 d hd v0  h _ (if_t hb hc)
  · exact u_68_11 d hd v0  h _ (if_f hb hc)
/-- BitingDoors$HouseReader.readBed()Z -/
def f_68 (v0 : Option Nat) (h : Hp) : Option (Int32 × Hp) := b_68_0 v0 h
theorem t_68 (d : Nat) (hd : 2 ≤ d) (v0 : Option Nat) (h : Hp) (r : Int32 × Hp) (hb : f_68 v0 h = some r) : Rn d 68 0 [some (va_rf v0), none] [] h (some (.int r.1), r.2) := by
  unfold f_68 at hb
  exact u_68_0 d hd v0 h r hb
def b_127_0 (v0 : Option Nat)  (h : Hp) : Option (Int32 × Hp) :=
  (gI 9 9 v0 h).bind fun x1 =>
  (gI 9 3 v0 h).bind fun x2 =>
  some ((x1 - x2), h)
theorem u_127_0 (d : Nat) (hd : 0 ≤ d) (v0 : Option Nat)  (h : Hp) (r : Int32 × Hp) (hb : b_127_0 v0  h = some r) : Rn d 127 0 [some (va_rf v0)] [] h (some (.int r.1), r.2) := by
  unfold b_127_0 at hb
  refine rn_aload_n (i := 0) rfl rfl ?_
  refine rn_gI (c := 9) (k := 9) rfl (by decide) hb (fun x1 hb => ?_)
  refine rn_aload_n (i := 0) rfl rfl ?_
  refine rn_gI (c := 9) (k := 3) rfl (by decide) hb (fun x2 hb => ?_)
  refine rn_isub rfl ?_
  obtain rfl := Option.some.inj hb
  exact rn_iret rfl rfl
/-- BitingDoors$Text.letters()I -/
def f_127 (v0 : Option Nat) (h : Hp) : Option (Int32 × Hp) := b_127_0 v0 h
theorem t_127 (d : Nat) (hd : 0 ≤ d) (v0 : Option Nat) (h : Hp) (r : Int32 × Hp) (hb : f_127 v0 h = some r) : Rn d 127 0 [some (va_rf v0)] [] h (some (.int r.1), r.2) := by
  unfold f_127 at hb
  exact u_127_0 d hd v0 h r hb
def b_58_155 (v0 : Option Nat) (v1 : Int32)  (h : Hp) : Option (Int32 × Hp) :=
  (gQ 5 1 v0 h).bind fun x1 =>
  (pI 4 3 x1 v1 h).bind fun h2 =>
  (gQ 5 1 v0 h2).bind fun x3 =>
  (gI 4 4 x3 h2).bind fun x4 =>
  (pI 4 4 x3 (x4 + (nI 1)) h2).bind fun h5 =>
  (gQ 5 0 v0 h5).bind fun x6 =>
  (grd (rC 9 x6 h5)).bind fun _ =>
  (f_117 x6 h5).bind fun p7 =>
  (grd (decide ((nI 1) = 0 ∨ (nI 1) = 1))).bind fun _ => some ((nI 1), p7)
theorem u_58_155 (d : Nat) (hd : 2 ≤ d) (v0 : Option Nat) (v1 : Int32) (v2 : Int32) (v3 : Option (Int32))  (h : Hp) (r : Int32 × Hp) (hb : b_58_155 v0 v1  h = some r) : Rn d 58 155 [some (va_rf v0), some (.int v1), some (.int v2), v3.map Value.int] [] h (some (.int r.1), r.2) := by
  unfold b_58_155 at hb
  obtain ⟨e, rfl⟩ : ∃ e, d = e + 1 := ⟨d - 1, by omega⟩
  refine rn_aload_n (i := 0) rfl rfl ?_
  refine rn_gQ (c := 5) (k := 1) rfl (by decide) hb (fun x1 hb => ?_)
  refine rn_iload_n (i := 1) rfl rfl ?_
  refine rn_pI (c := 4) (k := 3) rfl (by decide) hb (fun h2 hb => ?_)
  refine rn_aload_n (i := 0) rfl rfl ?_
  refine rn_gQ (c := 5) (k := 1) rfl (by decide) hb (fun x3 hb => ?_)
  refine rn_dup rfl (bd_cat_rf _) ?_
  refine rn_gI (c := 4) (k := 4) rfl (by decide) hb (fun x4 hb => ?_)
  refine rn_iconst (x := (nI 1)) rfl (by decide) ?_
  refine rn_iadd rfl ?_
  refine rn_pI (c := 4) (k := 4) rfl (by decide) hb (fun h5 hb => ?_)
  refine rn_aload_n (i := 0) rfl rfl ?_
  refine rn_gQ (c := 5) (k := 0) rfl (by decide) hb (fun x6 hb => ?_)
  obtain ⟨hrc, hb⟩ := grd_spec hb
  obtain ⟨p7, hc, hb⟩ := Option.bind_eq_some_iff.mp hb
  refine Rn.call0 (d := e) (As := [va_rf x6]) (rest := []) rfl rfl rfl (by decide) rfl rfl rfl (bd_rcV hrc rfl) (by decide) (bd_lenC (n := 3) rfl (bd_slR bd_slN) rfl) (bd_locC (n := 3) rfl (bd_slR bd_slN) rfl (t_117 e (by omega) x6 h5 _ hc)) ?_
  refine rn_iconst (x := (nI 1)) rfl (by decide) ?_
  obtain ⟨hz, hb⟩ := grd_spec hb
  obtain rfl := Option.some.inj hb
  exact rn_zret rfl rfl (of_decide_eq_true hz)
def b_58_128 (k88 : Option Nat → Int32 → Int32 → Hp → Option (Int32 × Hp)) (v0 : Option Nat) (v1 : Int32) (v2 : Int32) (v3 : Int32)  (h : Hp) : Option (Int32 × Hp) :=
  (gQ 5 1 v0 h).bind fun x1 =>
  (gQ 4 0 x1 h).bind fun x2 =>
  (gQ 5 1 v0 h).bind fun x3 =>
  (gI 4 4 x3 h).bind fun x4 =>
  (wI x2 (((nI 10) * x4) + v2) v3 h).bind fun h5 =>
  bnd (v2 + (nI 1)) fun x6 =>
  k88 v0 v1 x6 h5
theorem u_58_128 (d : Nat) (hd : 2 ≤ d) (k88 : Option Nat → Int32 → Int32 → Hp → Option (Int32 × Hp)) (K88 : ∀ (v0 : Option Nat) (v1 : Int32) (v2 : Int32) (v3 : Option (Int32)) (h : Hp) (r : Int32 × Hp), k88 v0 v1 v2 h = some r → Rn d 58 88 [some (va_rf v0), some (.int v1), some (.int v2), v3.map Value.int] [] h (some (.int r.1), r.2)) (v0 : Option Nat) (v1 : Int32) (v2 : Int32) (v3 : Int32)  (h : Hp) (r : Int32 × Hp) (hb : b_58_128 k88 v0 v1 v2 v3  h = some r) : Rn d 58 128 [some (va_rf v0), some (.int v1), some (.int v2), some (.int v3)] [] h (some (.int r.1), r.2) := by
  unfold b_58_128 at hb
  refine rn_aload_n (i := 0) rfl rfl ?_
  refine rn_gQ (c := 5) (k := 1) rfl (by decide) hb (fun x1 hb => ?_)
  refine rn_gQ (c := 4) (k := 0) rfl (by decide) hb (fun x2 hb => ?_)
  refine rn_bipush (x := (nI 10)) rfl (by decide) ?_
  refine rn_aload_n (i := 0) rfl rfl ?_
  refine rn_gQ (c := 5) (k := 1) rfl (by decide) hb (fun x3 hb => ?_)
  refine rn_gI (c := 4) (k := 4) rfl (by decide) hb (fun x4 hb => ?_)
  refine rn_imul rfl ?_
  refine rn_iload_n (i := 2) rfl rfl ?_
  refine rn_iadd rfl ?_
  refine rn_iload_n (i := 3) rfl rfl ?_
  refine rn_wI rfl hb (fun h5 hb => ?_)
  obtain ⟨x6, ex6, hb⟩ := bnd_spec hb
  refine rn_iinc (i := 2) (y := x6) (L1 := [some (va_rf v0), some (.int v1), some (.int x6), some (.int v3)]) rfl rfl (Nat.le_of_ble_eq_true rfl) (Or.inr rfl) (by rw [ex6]; rfl) rfl ?_
  refine rn_goto rfl rfl ?_
  exact K88 v0 v1 x6 (some v3) h5 _ hb
def b_58_119 (v0 : Option Nat)  (h : Hp) : Option (Int32 × Hp) :=
  (gQ 5 0 v0 h).bind fun x1 =>
  (grd (rC 9 x1 h)).bind fun _ =>
  (f_119 x1 (nI 2) h).bind fun p2 =>
  (grd (decide (p2.1 = 0 ∨ p2.1 = 1))).bind fun _ => some (p2.1, p2.2)
theorem u_58_119 (d : Nat) (hd : 2 ≤ d) (v0 : Option Nat) (v1 : Int32) (v2 : Int32) (v3 : Int32)  (h : Hp) (r : Int32 × Hp) (hb : b_58_119 v0  h = some r) : Rn d 58 119 [some (va_rf v0), some (.int v1), some (.int v2), some (.int v3)] [] h (some (.int r.1), r.2) := by
  unfold b_58_119 at hb
  obtain ⟨e, rfl⟩ : ∃ e, d = e + 1 := ⟨d - 1, by omega⟩
  refine rn_aload_n (i := 0) rfl rfl ?_
  refine rn_gQ (c := 5) (k := 0) rfl (by decide) hb (fun x1 hb => ?_)
  refine rn_iconst (x := (nI 2)) rfl (by decide) ?_
  obtain ⟨hrc, hb⟩ := grd_spec hb
  obtain ⟨p2, hc, hb⟩ := Option.bind_eq_some_iff.mp hb
  refine Rn.call1 (d := e) (As := [va_rf x1, .int (nI 2)]) (rest := []) rfl rfl rfl (by decide) rfl rfl rfl (bd_rcV hrc rfl) (by decide) (bd_lenC (n := 2) rfl (bd_slR (bd_slI bd_slN)) rfl) (bd_locC (n := 2) rfl (bd_slR (bd_slI bd_slN)) rfl (t_119 e (by omega) x1 (nI 2) h _ hc)) ?_
  obtain ⟨hz, hb⟩ := grd_spec hb
  obtain rfl := Option.some.inj hb
  exact rn_zret rfl rfl (of_decide_eq_true hz)
def b_58_93 (k88 : Option Nat → Int32 → Int32 → Hp → Option (Int32 × Hp)) (v0 : Option Nat) (v1 : Int32) (v2 : Int32)  (h : Hp) : Option (Int32 × Hp) :=
  (gQ 5 0 v0 h).bind fun x1 =>
  (gQ 9 0 x1 h).bind fun x2 =>
  (gQ 5 0 v0 h).bind fun x3 =>
  (gI 9 3 x3 h).bind fun x4 =>
  (aI 12 x2 (x4 + v2) h).bind fun x5 =>
  (f_126 x5 h).bind fun p6 =>
  bnd (p6.1) fun x7 =>
  if ¬ x7 = (-1 : Int32) then b_58_128 k88 v0 v1 v2 x7  p6.2 else b_58_119 v0  p6.2
theorem u_58_93 (d : Nat) (hd : 2 ≤ d) (k88 : Option Nat → Int32 → Int32 → Hp → Option (Int32 × Hp)) (K88 : ∀ (v0 : Option Nat) (v1 : Int32) (v2 : Int32) (v3 : Option (Int32)) (h : Hp) (r : Int32 × Hp), k88 v0 v1 v2 h = some r → Rn d 58 88 [some (va_rf v0), some (.int v1), some (.int v2), v3.map Value.int] [] h (some (.int r.1), r.2)) (v0 : Option Nat) (v1 : Int32) (v2 : Int32) (v3 : Option (Int32))  (h : Hp) (r : Int32 × Hp) (hb : b_58_93 k88 v0 v1 v2  h = some r) : Rn d 58 93 [some (va_rf v0), some (.int v1), some (.int v2), v3.map Value.int] [] h (some (.int r.1), r.2) := by
  unfold b_58_93 at hb
  obtain ⟨e, rfl⟩ : ∃ e, d = e + 1 := ⟨d - 1, by omega⟩
  refine rn_aload_n (i := 0) rfl rfl ?_
  refine rn_gQ (c := 5) (k := 0) rfl (by decide) hb (fun x1 hb => ?_)
  refine rn_gQ (c := 9) (k := 0) rfl (by decide) hb (fun x2 hb => ?_)
  refine rn_aload_n (i := 0) rfl rfl ?_
  refine rn_gQ (c := 5) (k := 0) rfl (by decide) hb (fun x3 hb => ?_)
  refine rn_gI (c := 9) (k := 3) rfl (by decide) hb (fun x4 hb => ?_)
  refine rn_iload_n (i := 2) rfl rfl ?_
  refine rn_iadd rfl ?_
  refine rn_aI rfl hb (fun x5 hb => ?_)
  obtain ⟨p6, hc, hb⟩ := Option.bind_eq_some_iff.mp hb
  refine Rn.call1 (d := e) (As := [.int x5]) (rest := []) rfl rfl rfl (by decide) rfl rfl rfl rfl (by decide) (bd_lenC (n := 1) rfl (bd_slI bd_slN) rfl) (bd_locC (n := 1) rfl (bd_slI bd_slN) rfl (t_126 e (by omega) x5 h _ hc)) ?_
  obtain ⟨x7, ex7, hb⟩ := bnd_spec hb
  refine rn_istore_n (i := 3) (L1 := [some (va_rf v0), some (.int v1), some (.int v2), some (.int x7)]) rfl (Nat.le_of_ble_eq_true rfl) (Or.inr rfl) (by rw [ex7]; rfl) ?_
  refine rn_iload_n (i := 3) rfl rfl ?_
  refine rn_iconst (x := (-1 : Int32)) rfl (by decide) ?_
  refine rn_icmp_ne rfl rfl (fun hc => ?_) (fun hc => ?_)
  · exact u_58_128 (e + 1) hd k88 K88 v0 v1 v2 x7  p6.2 _ (if_t hb hc)
  · exact u_58_119 (e + 1) hd v0 v1 v2 x7  p6.2 _ (if_f hb hc)
def b_58_88 (k88 : Option Nat → Int32 → Int32 → Hp → Option (Int32 × Hp)) (v0 : Option Nat) (v1 : Int32) (v2 : Int32)  (h : Hp) : Option (Int32 × Hp) :=
  if v1 ≤ v2 then b_58_155 v0 v1  h else b_58_93 k88 v0 v1 v2  h
theorem u_58_88 (d : Nat) (hd : 2 ≤ d) (k88 : Option Nat → Int32 → Int32 → Hp → Option (Int32 × Hp)) (K88 : ∀ (v0 : Option Nat) (v1 : Int32) (v2 : Int32) (v3 : Option (Int32)) (h : Hp) (r : Int32 × Hp), k88 v0 v1 v2 h = some r → Rn d 58 88 [some (va_rf v0), some (.int v1), some (.int v2), v3.map Value.int] [] h (some (.int r.1), r.2)) (v0 : Option Nat) (v1 : Int32) (v2 : Int32) (v3 : Option (Int32))  (h : Hp) (r : Int32 × Hp) (hb : b_58_88 k88 v0 v1 v2  h = some r) : Rn d 58 88 [some (va_rf v0), some (.int v1), some (.int v2), v3.map Value.int] [] h (some (.int r.1), r.2) := by
  unfold b_58_88 at hb
  refine rn_iload_n (i := 2) rfl rfl ?_
  refine rn_iload_n (i := 1) rfl rfl ?_
  refine rn_icmp_ge rfl rfl (fun hc => ?_) (fun hc => ?_)
  · exact u_58_155 d hd v0 v1 v2 v3  h _ (if_t hb hc)
  · exact u_58_93 d hd k88 K88 v0 v1 v2 v3  h _ (if_f hb hc)
def l_58_88 : Nat → Option Nat → Int32 → Int32 → Hp → Option (Int32 × Hp)
  | 0, _, _, _, _ => none
  | n + 1, v0, v1, v2, h => b_58_88 (l_58_88 n) v0 v1 v2 h
theorem w_58_88 (d : Nat) (hd : 2 ≤ d) : ∀ (n : Nat) (v0 : Option Nat) (v1 : Int32) (v2 : Int32) (v3 : Option (Int32)) (h : Hp) (r : Int32 × Hp), l_58_88 n v0 v1 v2 h = some r → Rn d 58 88 [some (va_rf v0), some (.int v1), some (.int v2), v3.map Value.int] [] h (some (.int r.1), r.2) := by
  intro n
  induction n with
  | zero => intro v0 v1 v2 v3 h r hb; cases hb
  | succ n ih => intro v0 v1 v2 v3 h r hb; exact u_58_88 d hd (l_58_88 n) ih v0 v1 v2 v3 h r hb
def b_58_86 (v0 : Option Nat) (v1 : Int32)  (h : Hp) : Option (Int32 × Hp) :=
  bnd ((nI 0)) fun x1 =>
  l_58_88 FU v0 v1 x1 h
theorem u_58_86 (d : Nat) (hd : 2 ≤ d) (v0 : Option Nat) (v1 : Int32)  (h : Hp) (r : Int32 × Hp) (hb : b_58_86 v0 v1  h = some r) : Rn d 58 86 [some (va_rf v0), some (.int v1), none, none] [] h (some (.int r.1), r.2) := by
  unfold b_58_86 at hb
  refine rn_iconst (x := (nI 0)) rfl (by decide) ?_
  obtain ⟨x1, ex1, hb⟩ := bnd_spec hb
  refine rn_istore_n (i := 2) (L1 := [some (va_rf v0), some (.int v1), some (.int x1), none]) rfl (Nat.le_of_ble_eq_true rfl) (Or.inr rfl) (by rw [ex1]; rfl) ?_
  exact w_58_88 d hd FU v0 v1 x1 (none : Option (Int32)) h _ hb
def b_58_77 (v0 : Option Nat)  (h : Hp) : Option (Int32 × Hp) :=
  (gQ 5 0 v0 h).bind fun x1 =>
  (grd (rC 9 x1 h)).bind fun _ =>
  (f_119 x1 (nI 2) h).bind fun p2 =>
  (grd (decide (p2.1 = 0 ∨ p2.1 = 1))).bind fun _ => some (p2.1, p2.2)
theorem u_58_77 (d : Nat) (hd : 2 ≤ d) (v0 : Option Nat) (v1 : Int32)  (h : Hp) (r : Int32 × Hp) (hb : b_58_77 v0  h = some r) : Rn d 58 77 [some (va_rf v0), some (.int v1), none, none] [] h (some (.int r.1), r.2) := by
  unfold b_58_77 at hb
  obtain ⟨e, rfl⟩ : ∃ e, d = e + 1 := ⟨d - 1, by omega⟩
  refine rn_aload_n (i := 0) rfl rfl ?_
  refine rn_gQ (c := 5) (k := 0) rfl (by decide) hb (fun x1 hb => ?_)
  refine rn_iconst (x := (nI 2)) rfl (by decide) ?_
  obtain ⟨hrc, hb⟩ := grd_spec hb
  obtain ⟨p2, hc, hb⟩ := Option.bind_eq_some_iff.mp hb
  refine Rn.call1 (d := e) (As := [va_rf x1, .int (nI 2)]) (rest := []) rfl rfl rfl (by decide) rfl rfl rfl (bd_rcV hrc rfl) (by decide) (bd_lenC (n := 2) rfl (bd_slR (bd_slI bd_slN)) rfl) (bd_locC (n := 2) rfl (bd_slR (bd_slI bd_slN)) rfl (t_119 e (by omega) x1 (nI 2) h _ hc)) ?_
  obtain ⟨hz, hb⟩ := grd_spec hb
  obtain rfl := Option.some.inj hb
  exact rn_zret rfl rfl (of_decide_eq_true hz)
def b_58_66 (v0 : Option Nat) (v1 : Int32)  (h : Hp) : Option (Int32 × Hp) :=
  (gQ 5 1 v0 h).bind fun x1 =>
  (gI 4 3 x1 h).bind fun x2 =>
  if v1 = x2 then b_58_86 v0 v1  h else b_58_77 v0  h
theorem u_58_66 (d : Nat) (hd : 2 ≤ d) (v0 : Option Nat) (v1 : Int32)  (h : Hp) (r : Int32 × Hp) (hb : b_58_66 v0 v1  h = some r) : Rn d 58 66 [some (va_rf v0), some (.int v1), none, none] [] h (some (.int r.1), r.2) := by
  unfold b_58_66 at hb
  refine rn_iload_n (i := 1) rfl rfl ?_
  refine rn_aload_n (i := 0) rfl rfl ?_
  refine rn_gQ (c := 5) (k := 1) rfl (by decide) hb (fun x1 hb => ?_)
  refine rn_gI (c := 4) (k := 3) rfl (by decide) hb (fun x2 hb => ?_)
  refine rn_icmp_eq rfl rfl (fun hc => ?_) (fun hc => ?_)
  · exact u_58_86 d hd v0 v1  h _ (if_t hb hc)
  · exact u_58_77 d hd v0 v1  h _ (if_f hb hc)
def b_58_48 (v0 : Option Nat)  (h : Hp) : Option (Int32 × Hp) :=
  (gQ 5 0 v0 h).bind fun x1 =>
  (grd (rC 9 x1 h)).bind fun _ =>
  (f_127 x1 h).bind fun p2 =>
  bnd (p2.1) fun x3 =>
  (gQ 5 1 v0 p2.2).bind fun x4 =>
  (gI 4 4 x4 p2.2).bind fun x5 =>
  if x5 ≤ 0 then b_58_86 v0 x3  p2.2 else b_58_66 v0 x3  p2.2
theorem u_58_48 (d : Nat) (hd : 2 ≤ d) (v0 : Option Nat)  (h : Hp) (r : Int32 × Hp) (hb : b_58_48 v0  h = some r) : Rn d 58 48 [some (va_rf v0), none, none, none] [] h (some (.int r.1), r.2) := by
  unfold b_58_48 at hb
  obtain ⟨e, rfl⟩ : ∃ e, d = e + 1 := ⟨d - 1, by omega⟩
  refine rn_aload_n (i := 0) rfl rfl ?_
  refine rn_gQ (c := 5) (k := 0) rfl (by decide) hb (fun x1 hb => ?_)
  obtain ⟨hrc, hb⟩ := grd_spec hb
  obtain ⟨p2, hc, hb⟩ := Option.bind_eq_some_iff.mp hb
  refine Rn.call1 (d := e) (As := [va_rf x1]) (rest := []) rfl rfl rfl (by decide) rfl rfl rfl (bd_rcV hrc rfl) (by decide) (bd_lenC (n := 1) rfl (bd_slR bd_slN) rfl) (bd_locC (n := 1) rfl (bd_slR bd_slN) rfl (t_127 e (by omega) x1 h _ hc)) ?_
  obtain ⟨x3, ex3, hb⟩ := bnd_spec hb
  refine rn_istore_n (i := 1) (L1 := [some (va_rf v0), some (.int x3), none, none]) rfl (Nat.le_of_ble_eq_true rfl) (Or.inr (bd_wideR rfl)) (by rw [ex3]; rfl) ?_
  refine rn_aload_n (i := 0) rfl rfl ?_
  refine rn_gQ (c := 5) (k := 1) rfl (by decide) hb (fun x4 hb => ?_)
  refine rn_gI (c := 4) (k := 4) rfl (by decide) hb (fun x5 hb => ?_)
  refine rn_if_le rfl rfl (fun hc => ?_) (fun hc => ?_)
  · exact u_58_86 (e + 1) hd v0 x3  p2.2 _ (if_t hb hc)
  · exact u_58_66 (e + 1) hd v0 x3  p2.2 _ (if_f hb hc)
def b_58_39 (v0 : Option Nat)  (h : Hp) : Option (Int32 × Hp) :=
  (gQ 5 0 v0 h).bind fun x1 =>
  (grd (rC 9 x1 h)).bind fun _ =>
  (f_119 x1 (nI 1) h).bind fun p2 =>
  (grd (decide (p2.1 = 0 ∨ p2.1 = 1))).bind fun _ => some (p2.1, p2.2)
theorem u_58_39 (d : Nat) (hd : 2 ≤ d) (v0 : Option Nat)  (h : Hp) (r : Int32 × Hp) (hb : b_58_39 v0  h = some r) : Rn d 58 39 [some (va_rf v0), none, none, none] [] h (some (.int r.1), r.2) := by
  unfold b_58_39 at hb
  obtain ⟨e, rfl⟩ : ∃ e, d = e + 1 := ⟨d - 1, by omega⟩
  refine rn_aload_n (i := 0) rfl rfl ?_
  refine rn_gQ (c := 5) (k := 0) rfl (by decide) hb (fun x1 hb => ?_)
  refine rn_iconst (x := (nI 1)) rfl (by decide) ?_
  obtain ⟨hrc, hb⟩ := grd_spec hb
  obtain ⟨p2, hc, hb⟩ := Option.bind_eq_some_iff.mp hb
  refine Rn.call1 (d := e) (As := [va_rf x1, .int (nI 1)]) (rest := []) rfl rfl rfl (by decide) rfl rfl rfl (bd_rcV hrc rfl) (by decide) (bd_lenC (n := 2) rfl (bd_slR (bd_slI bd_slN)) rfl) (bd_locC (n := 2) rfl (bd_slR (bd_slI bd_slN)) rfl (t_119 e (by omega) x1 (nI 1) h _ hc)) ?_
  obtain ⟨hz, hb⟩ := grd_spec hb
  obtain rfl := Option.some.inj hb
  exact rn_zret rfl rfl (of_decide_eq_true hz)
def b_58_21 (v0 : Option Nat)  (h : Hp) : Option (Int32 × Hp) :=
  (gQ 5 0 v0 h).bind fun x1 =>
  (grd (rC 9 x1 h)).bind fun _ =>
  (f_117 x1 h).bind fun p2 =>
  (gQ 5 0 v0 p2).bind fun x3 =>
  (gI 9 2 x3 p2).bind fun x4 =>
  if x4 = (nI 1) then b_58_48 v0  p2 else b_58_39 v0  p2
theorem u_58_21 (d : Nat) (hd : 2 ≤ d) (v0 : Option Nat)  (h : Hp) (r : Int32 × Hp) (hb : b_58_21 v0  h = some r) : Rn d 58 21 [some (va_rf v0), none, none, none] [] h (some (.int r.1), r.2) := by
  unfold b_58_21 at hb
  obtain ⟨e, rfl⟩ : ∃ e, d = e + 1 := ⟨d - 1, by omega⟩
  refine rn_aload_n (i := 0) rfl rfl ?_
  refine rn_gQ (c := 5) (k := 0) rfl (by decide) hb (fun x1 hb => ?_)
  obtain ⟨hrc, hb⟩ := grd_spec hb
  obtain ⟨p2, hc, hb⟩ := Option.bind_eq_some_iff.mp hb
  refine Rn.call0 (d := e) (As := [va_rf x1]) (rest := []) rfl rfl rfl (by decide) rfl rfl rfl (bd_rcV hrc rfl) (by decide) (bd_lenC (n := 3) rfl (bd_slR bd_slN) rfl) (bd_locC (n := 3) rfl (bd_slR bd_slN) rfl (t_117 e (by omega) x1 h _ hc)) ?_
  refine rn_aload_n (i := 0) rfl rfl ?_
  refine rn_gQ (c := 5) (k := 0) rfl (by decide) hb (fun x3 hb => ?_)
  refine rn_gI (c := 9) (k := 2) rfl (by decide) hb (fun x4 hb => ?_)
  refine rn_iconst (x := (nI 1)) rfl (by decide) ?_
  refine rn_icmp_eq rfl rfl (fun hc => ?_) (fun hc => ?_)
  · exact u_58_48 (e + 1) hd v0  p2 _ (if_t hb hc)
  · exact u_58_39 (e + 1) hd v0  p2 _ (if_f hb hc)
def b_58_12 (v0 : Option Nat)  (h : Hp) : Option (Int32 × Hp) :=
  (gQ 5 0 v0 h).bind fun x1 =>
  (grd (rC 9 x1 h)).bind fun _ =>
  (f_119 x1 (nI 4) h).bind fun p2 =>
  (grd (decide (p2.1 = 0 ∨ p2.1 = 1))).bind fun _ => some (p2.1, p2.2)
theorem u_58_12 (d : Nat) (hd : 2 ≤ d) (v0 : Option Nat)  (h : Hp) (r : Int32 × Hp) (hb : b_58_12 v0  h = some r) : Rn d 58 12 [some (va_rf v0), none, none, none] [] h (some (.int r.1), r.2) := by
  unfold b_58_12 at hb
  obtain ⟨e, rfl⟩ : ∃ e, d = e + 1 := ⟨d - 1, by omega⟩
  refine rn_aload_n (i := 0) rfl rfl ?_
  refine rn_gQ (c := 5) (k := 0) rfl (by decide) hb (fun x1 hb => ?_)
  refine rn_iconst (x := (nI 4)) rfl (by decide) ?_
  obtain ⟨hrc, hb⟩ := grd_spec hb
  obtain ⟨p2, hc, hb⟩ := Option.bind_eq_some_iff.mp hb
  refine Rn.call1 (d := e) (As := [va_rf x1, .int (nI 4)]) (rest := []) rfl rfl rfl (by decide) rfl rfl rfl (bd_rcV hrc rfl) (by decide) (bd_lenC (n := 2) rfl (bd_slR (bd_slI bd_slN)) rfl) (bd_locC (n := 2) rfl (bd_slR (bd_slI bd_slN)) rfl (t_119 e (by omega) x1 (nI 4) h _ hc)) ?_
  obtain ⟨hz, hb⟩ := grd_spec hb
  obtain rfl := Option.some.inj hb
  exact rn_zret rfl rfl (of_decide_eq_true hz)
def b_58_0 (v0 : Option Nat)  (h : Hp) : Option (Int32 × Hp) :=
  (gQ 5 1 v0 h).bind fun x1 =>
  (gI 4 4 x1 h).bind fun x2 =>
  if ¬ x2 = (nI 10) then b_58_21 v0  h else b_58_12 v0  h
theorem u_58_0 (d : Nat) (hd : 2 ≤ d) (v0 : Option Nat)  (h : Hp) (r : Int32 × Hp) (hb : b_58_0 v0  h = some r) : Rn d 58 0 [some (va_rf v0), none, none, none] [] h (some (.int r.1), r.2) := by
  unfold b_58_0 at hb
  refine rn_aload_n (i := 0) rfl rfl ?_
  refine rn_gQ (c := 5) (k := 1) rfl (by decide) hb (fun x1 hb => ?_)
  refine rn_gI (c := 4) (k := 4) rfl (by decide) hb (fun x2 hb => ?_)
  refine rn_bipush (x := (nI 10)) rfl (by decide) ?_
  refine rn_icmp_ne rfl rfl (fun hc => ?_) (fun hc => ?_)
  · exact u_58_21 d hd v0  h _ (if_t hb hc)
  · exact u_58_12 d hd v0  h _ (if_f hb hc)
/-- BitingDoors$HouseReader.readRow()Z -/
def f_58 (v0 : Option Nat) (h : Hp) : Option (Int32 × Hp) := b_58_0 v0 h
theorem t_58 (d : Nat) (hd : 2 ≤ d) (v0 : Option Nat) (h : Hp) (r : Int32 × Hp) (hb : f_58 v0 h = some r) : Rn d 58 0 [some (va_rf v0), none, none, none] [] h (some (.int r.1), r.2) := by
  unfold f_58 at hb
  exact u_58_0 d hd v0 h r hb
def b_65_37 (v0 : Option Nat) (v1 : Option Nat)  (h : Hp) : Option (Int32 × Hp) :=
  (gI 1 11 v1 h).bind fun x1 =>
  (gQ 5 0 v0 h).bind fun x2 =>
  (gI 9 4 x2 h).bind fun x3 =>
  (pI 1 11 v1 (x1 ||| ((nI 1) <<< (x3 &&& 31))) h).bind fun h4 =>
  (gQ 5 0 v0 h4).bind fun x5 =>
  (grd (rC 9 x5 h4)).bind fun _ =>
  (f_117 x5 h4).bind fun p6 =>
  (grd (decide ((nI 1) = 0 ∨ (nI 1) = 1))).bind fun _ => some ((nI 1), p6)
theorem u_65_37 (d : Nat) (hd : 2 ≤ d) (v0 : Option Nat) (v1 : Option Nat)  (h : Hp) (r : Int32 × Hp) (hb : b_65_37 v0 v1  h = some r) : Rn d 65 37 [some (va_rf v0), some (va_rf v1)] [] h (some (.int r.1), r.2) := by
  unfold b_65_37 at hb
  obtain ⟨e, rfl⟩ : ∃ e, d = e + 1 := ⟨d - 1, by omega⟩
  refine rn_aload_n (i := 1) rfl rfl ?_
  refine rn_dup rfl (bd_cat_rf _) ?_
  refine rn_gI (c := 1) (k := 11) rfl (by decide) hb (fun x1 hb => ?_)
  refine rn_iconst (x := (nI 1)) rfl (by decide) ?_
  refine rn_aload_n (i := 0) rfl rfl ?_
  refine rn_gQ (c := 5) (k := 0) rfl (by decide) hb (fun x2 hb => ?_)
  refine rn_gI (c := 9) (k := 4) rfl (by decide) hb (fun x3 hb => ?_)
  refine rn_ishl rfl ?_
  refine rn_ior rfl ?_
  refine rn_pI (c := 1) (k := 11) rfl (by decide) hb (fun h4 hb => ?_)
  refine rn_aload_n (i := 0) rfl rfl ?_
  refine rn_gQ (c := 5) (k := 0) rfl (by decide) hb (fun x5 hb => ?_)
  obtain ⟨hrc, hb⟩ := grd_spec hb
  obtain ⟨p6, hc, hb⟩ := Option.bind_eq_some_iff.mp hb
  refine Rn.call0 (d := e) (As := [va_rf x5]) (rest := []) rfl rfl rfl (by decide) rfl rfl rfl (bd_rcV hrc rfl) (by decide) (bd_lenC (n := 3) rfl (bd_slR bd_slN) rfl) (bd_locC (n := 3) rfl (bd_slR bd_slN) rfl (t_117 e (by omega) x5 h4 _ hc)) ?_
  refine rn_iconst (x := (nI 1)) rfl (by decide) ?_
  obtain ⟨hz, hb⟩ := grd_spec hb
  obtain rfl := Option.some.inj hb
  exact rn_zret rfl rfl (of_decide_eq_true hz)
def b_65_28 (v0 : Option Nat)  (h : Hp) : Option (Int32 × Hp) :=
  (gQ 5 0 v0 h).bind fun x1 =>
  (grd (rC 9 x1 h)).bind fun _ =>
  (f_119 x1 (nI 3) h).bind fun p2 =>
  (grd (decide (p2.1 = 0 ∨ p2.1 = 1))).bind fun _ => some (p2.1, p2.2)
theorem u_65_28 (d : Nat) (hd : 2 ≤ d) (v0 : Option Nat) (v1 : Option Nat)  (h : Hp) (r : Int32 × Hp) (hb : b_65_28 v0  h = some r) : Rn d 65 28 [some (va_rf v0), some (va_rf v1)] [] h (some (.int r.1), r.2) := by
  unfold b_65_28 at hb
  obtain ⟨e, rfl⟩ : ∃ e, d = e + 1 := ⟨d - 1, by omega⟩
  refine rn_aload_n (i := 0) rfl rfl ?_
  refine rn_gQ (c := 5) (k := 0) rfl (by decide) hb (fun x1 hb => ?_)
  refine rn_iconst (x := (nI 3)) rfl (by decide) ?_
  obtain ⟨hrc, hb⟩ := grd_spec hb
  obtain ⟨p2, hc, hb⟩ := Option.bind_eq_some_iff.mp hb
  refine Rn.call1 (d := e) (As := [va_rf x1, .int (nI 3)]) (rest := []) rfl rfl rfl (by decide) rfl rfl rfl (bd_rcV hrc rfl) (by decide) (bd_lenC (n := 2) rfl (bd_slR (bd_slI bd_slN)) rfl) (bd_locC (n := 2) rfl (bd_slR (bd_slI bd_slN)) rfl (t_119 e (by omega) x1 (nI 3) h _ hc)) ?_
  obtain ⟨hz, hb⟩ := grd_spec hb
  obtain rfl := Option.some.inj hb
  exact rn_zret rfl rfl (of_decide_eq_true hz)
def b_65_14 (v0 : Option Nat) (v1 : Option Nat)  (h : Hp) : Option (Int32 × Hp) :=
  (gQ 5 0 v0 h).bind fun x1 =>
  (gI 9 4 x1 h).bind fun x2 =>
  (grd (rC 1 v1 h)).bind fun _ =>
  (f_8 v1 x2 h).bind fun p3 =>
  if p3.1 = 0 then b_65_37 v0 v1  p3.2 else b_65_28 v0  p3.2
theorem u_65_14 (d : Nat) (hd : 2 ≤ d) (v0 : Option Nat) (v1 : Option Nat)  (h : Hp) (r : Int32 × Hp) (hb : b_65_14 v0 v1  h = some r) : Rn d 65 14 [some (va_rf v0), some (va_rf v1)] [] h (some (.int r.1), r.2) := by
  unfold b_65_14 at hb
  obtain ⟨e, rfl⟩ : ∃ e, d = e + 1 := ⟨d - 1, by omega⟩
  refine rn_aload_n (i := 1) rfl rfl ?_
  refine rn_aload_n (i := 0) rfl rfl ?_
  refine rn_gQ (c := 5) (k := 0) rfl (by decide) hb (fun x1 hb => ?_)
  refine rn_gI (c := 9) (k := 4) rfl (by decide) hb (fun x2 hb => ?_)
  obtain ⟨hrc, hb⟩ := grd_spec hb
  obtain ⟨p3, hc, hb⟩ := Option.bind_eq_some_iff.mp hb
  refine Rn.call1 (d := e) (As := [va_rf v1, .int x2]) (rest := []) rfl rfl rfl (by decide) rfl rfl rfl (bd_rcV hrc rfl) (by decide) (bd_lenC (n := 2) rfl (bd_slR (bd_slI bd_slN)) rfl) (bd_locC (n := 2) rfl (bd_slR (bd_slI bd_slN)) rfl (t_8 e (by omega) v1 x2 h _ hc)) ?_
  refine rn_if_eq rfl rfl (fun hc => ?_) (fun hc => ?_)
  · exact u_65_37 (e + 1) hd v0 v1  p3.2 _ (if_t hb hc)
  · exact u_65_28 (e + 1) hd v0 v1  p3.2 _ (if_f hb hc)
def b_65_12   (h : Hp) : Option (Int32 × Hp) :=
  (grd (decide ((nI 0) = 0 ∨ (nI 0) = 1))).bind fun _ => some ((nI 0), h)
theorem u_65_12 (d : Nat) (hd : 2 ≤ d) (v0 : Option Nat) (v1 : Option Nat)  (h : Hp) (r : Int32 × Hp) (hb : b_65_12   h = some r) : Rn d 65 12 [some (va_rf v0), some (va_rf v1)] [] h (some (.int r.1), r.2) := by
  unfold b_65_12 at hb
  refine rn_iconst (x := (nI 0)) rfl (by decide) ?_
  obtain ⟨hz, hb⟩ := grd_spec hb
  obtain rfl := Option.some.inj hb
  exact rn_zret rfl rfl (of_decide_eq_true hz)
def b_65_0 (v0 : Option Nat) (v1 : Option Nat)  (h : Hp) : Option (Int32 × Hp) :=
  (gQ 5 0 v0 h).bind fun x1 =>
  (grd (rC 9 x1 h)).bind fun _ =>
  (f_124 x1 (nI 0) (nI 3) h).bind fun p2 =>
  if ¬ p2.1 = 0 then b_65_14 v0 v1  p2.2 else b_65_12   p2.2
theorem u_65_0 (d : Nat) (hd : 2 ≤ d) (v0 : Option Nat) (v1 : Option Nat)  (h : Hp) (r : Int32 × Hp) (hb : b_65_0 v0 v1  h = some r) : Rn d 65 0 [some (va_rf v0), some (va_rf v1)] [] h (some (.int r.1), r.2) := by
  unfold b_65_0 at hb
  obtain ⟨e, rfl⟩ : ∃ e, d = e + 1 := ⟨d - 1, by omega⟩
  refine rn_aload_n (i := 0) rfl rfl ?_
  refine rn_gQ (c := 5) (k := 0) rfl (by decide) hb (fun x1 hb => ?_)
  refine rn_iconst (x := (nI 0)) rfl (by decide) ?_
  refine rn_iconst (x := (nI 3)) rfl (by decide) ?_
  obtain ⟨hrc, hb⟩ := grd_spec hb
  obtain ⟨p2, hc, hb⟩ := Option.bind_eq_some_iff.mp hb
  refine Rn.call1 (d := e) (As := [va_rf x1, .int (nI 0), .int (nI 3)]) (rest := []) rfl rfl rfl (by decide) rfl rfl rfl (bd_rcV hrc rfl) (by decide) (bd_lenC (n := 3) rfl (bd_slR (bd_slI (bd_slI bd_slN))) rfl) (bd_locC (n := 3) rfl (bd_slR (bd_slI (bd_slI bd_slN))) rfl (t_124 e (by omega) x1 (nI 0) (nI 3) h _ hc)) ?_
  refine rn_if_ne rfl rfl (fun hc => ?_) (fun hc => ?_)
  · exact u_65_14 (e + 1) hd v0 v1  p2.2 _ (if_t hb hc)
  · exact u_65_12 (e + 1) hd v0 v1  p2.2 _ (if_f hb hc)
/-- BitingDoors$HouseReader.readHanging(LBitingDoors$Door;)Z -/
def f_65 (v0 : Option Nat) (v1 : Option Nat) (h : Hp) : Option (Int32 × Hp) := b_65_0 v0 v1 h
theorem t_65 (d : Nat) (hd : 2 ≤ d) (v0 : Option Nat) (v1 : Option Nat) (h : Hp) (r : Int32 × Hp) (hb : f_65 v0 v1 h = some r) : Rn d 65 0 [some (va_rf v0), some (va_rf v1)] [] h (some (.int r.1), r.2) := by
  unfold f_65 at hb
  exact u_65_0 d hd v0 v1 h r hb
def b_122_10 (v0 : Option Nat)  (h : Hp) : Option (Int32 × Hp) :=
  (grd (rC 9 v0 h)).bind fun _ =>
  (f_117 v0 h).bind fun p1 =>
  (grd (decide ((nI 1) = 0 ∨ (nI 1) = 1))).bind fun _ => some ((nI 1), p1)
theorem u_122_10 (d : Nat) (hd : 2 ≤ d) (v0 : Option Nat) (v1 : Option Nat)  (h : Hp) (r : Int32 × Hp) (hb : b_122_10 v0  h = some r) : Rn d 122 10 [some (va_rf v0), some (va_rf v1)] [] h (some (.int r.1), r.2) := by
  unfold b_122_10 at hb
  obtain ⟨e, rfl⟩ : ∃ e, d = e + 1 := ⟨d - 1, by omega⟩
  refine rn_aload_n (i := 0) rfl rfl ?_
  obtain ⟨hrc, hb⟩ := grd_spec hb
  obtain ⟨p1, hc, hb⟩ := Option.bind_eq_some_iff.mp hb
  refine Rn.call0 (d := e) (As := [va_rf v0]) (rest := []) rfl rfl rfl (by decide) rfl rfl rfl (bd_rcV hrc rfl) (by decide) (bd_lenC (n := 3) rfl (bd_slR bd_slN) rfl) (bd_locC (n := 3) rfl (bd_slR bd_slN) rfl (t_117 e (by omega) v0 h _ hc)) ?_
  refine rn_iconst (x := (nI 1)) rfl (by decide) ?_
  obtain ⟨hz, hb⟩ := grd_spec hb
  obtain rfl := Option.some.inj hb
  exact rn_zret rfl rfl (of_decide_eq_true hz)
def b_122_8   (h : Hp) : Option (Int32 × Hp) :=
  (grd (decide ((nI 0) = 0 ∨ (nI 0) = 1))).bind fun _ => some ((nI 0), h)
theorem u_122_8 (d : Nat) (hd : 2 ≤ d) (v0 : Option Nat) (v1 : Option Nat)  (h : Hp) (r : Int32 × Hp) (hb : b_122_8   h = some r) : Rn d 122 8 [some (va_rf v0), some (va_rf v1)] [] h (some (.int r.1), r.2) := by
  unfold b_122_8 at hb
  refine rn_iconst (x := (nI 0)) rfl (by decide) ?_
  obtain ⟨hz, hb⟩ := grd_spec hb
  obtain rfl := Option.some.inj hb
  exact rn_zret rfl rfl (of_decide_eq_true hz)
def b_122_0 (v0 : Option Nat) (v1 : Option Nat)  (h : Hp) : Option (Int32 × Hp) :=
  (grd (rC 9 v0 h)).bind fun _ =>
  (f_120 v0 v1 h).bind fun p1 =>
  if ¬ p1.1 = 0 then b_122_10 v0  p1.2 else b_122_8   p1.2
theorem u_122_0 (d : Nat) (hd : 2 ≤ d) (v0 : Option Nat) (v1 : Option Nat)  (h : Hp) (r : Int32 × Hp) (hb : b_122_0 v0 v1  h = some r) : Rn d 122 0 [some (va_rf v0), some (va_rf v1)] [] h (some (.int r.1), r.2) := by
  unfold b_122_0 at hb
  obtain ⟨e, rfl⟩ : ∃ e, d = e + 1 := ⟨d - 1, by omega⟩
  refine rn_aload_n (i := 0) rfl rfl ?_
  refine rn_aload_n (i := 1) rfl rfl ?_
  obtain ⟨hrc, hb⟩ := grd_spec hb
  obtain ⟨p1, hc, hb⟩ := Option.bind_eq_some_iff.mp hb
  refine Rn.call1 (d := e) (As := [va_rf v0, va_rf v1]) (rest := []) rfl rfl rfl (by decide) rfl rfl rfl (bd_rcV hrc rfl) (by decide) (bd_lenC (n := 2) rfl (bd_slR (bd_slR bd_slN)) rfl) (bd_locC (n := 2) rfl (bd_slR (bd_slR bd_slN)) rfl (t_120 e (by omega) v0 v1 h _ hc)) ?_
  refine rn_if_ne rfl rfl (fun hc => ?_) (fun hc => ?_)
  · exact u_122_10 (e + 1) hd v0 v1  p1.2 _ (if_t hb hc)
  · exact u_122_8 (e + 1) hd v0 v1  p1.2 _ (if_f hb hc)
/-- BitingDoors$Text.passWord(LBitingDoors$Word;)Z -/
def f_122 (v0 : Option Nat) (v1 : Option Nat) (h : Hp) : Option (Int32 × Hp) := b_122_0 v0 v1 h
theorem t_122 (d : Nat) (hd : 2 ≤ d) (v0 : Option Nat) (v1 : Option Nat) (h : Hp) (r : Int32 × Hp) (hb : f_122 v0 v1 h = some r) : Rn d 122 0 [some (va_rf v0), some (va_rf v1)] [] h (some (.int r.1), r.2) := by
  unfold f_122 at hb
  exact u_122_0 d hd v0 v1 h r hb
def b_64_57   (h : Hp) : Option (Int32 × Hp) :=
  (grd (decide ((nI 1) = 0 ∨ (nI 1) = 1))).bind fun _ => some ((nI 1), h)
theorem u_64_57 (d : Nat) (hd : 3 ≤ d) (v0 : Option Nat) (v1 : Option Nat) (v2 : Int32)  (h : Hp) (r : Int32 × Hp) (hb : b_64_57   h = some r) : Rn d 64 57 [some (va_rf v0), some (va_rf v1), some (.int v2)] [] h (some (.int r.1), r.2) := by
  unfold b_64_57 at hb
  refine rn_iconst (x := (nI 1)) rfl (by decide) ?_
  obtain ⟨hz, hb⟩ := grd_spec hb
  obtain rfl := Option.some.inj hb
  exact rn_zret rfl rfl (of_decide_eq_true hz)
def b_64_51 (k23 : Option Nat → Option Nat → Int32 → Hp → Option (Int32 × Hp)) (v0 : Option Nat) (v1 : Option Nat) (v2 : Int32)  (h : Hp) : Option (Int32 × Hp) :=
  bnd (v2 + (nI 1)) fun x1 =>
  k23 v0 v1 x1 h
theorem u_64_51 (d : Nat) (hd : 3 ≤ d) (k23 : Option Nat → Option Nat → Int32 → Hp → Option (Int32 × Hp)) (K23 : ∀ (v0 : Option Nat) (v1 : Option Nat) (v2 : Int32) (h : Hp) (r : Int32 × Hp), k23 v0 v1 v2 h = some r → Rn d 64 23 [some (va_rf v0), some (va_rf v1), some (.int v2)] [] h (some (.int r.1), r.2)) (v0 : Option Nat) (v1 : Option Nat) (v2 : Int32)  (h : Hp) (r : Int32 × Hp) (hb : b_64_51 k23 v0 v1 v2  h = some r) : Rn d 64 51 [some (va_rf v0), some (va_rf v1), some (.int v2)] [] h (some (.int r.1), r.2) := by
  unfold b_64_51 at hb
  obtain ⟨x1, ex1, hb⟩ := bnd_spec hb
  refine rn_iinc (i := 2) (y := x1) (L1 := [some (va_rf v0), some (va_rf v1), some (.int x1)]) rfl rfl (Nat.le_of_ble_eq_true rfl) (Or.inr (bd_wideR rfl)) (by rw [ex1]; rfl) rfl ?_
  refine rn_goto rfl rfl ?_
  exact K23 v0 v1 x1 h _ hb
def b_64_49   (h : Hp) : Option (Int32 × Hp) :=
  (grd (decide ((nI 0) = 0 ∨ (nI 0) = 1))).bind fun _ => some ((nI 0), h)
theorem u_64_49 (d : Nat) (hd : 3 ≤ d) (v0 : Option Nat) (v1 : Option Nat) (v2 : Int32)  (h : Hp) (r : Int32 × Hp) (hb : b_64_49   h = some r) : Rn d 64 49 [some (va_rf v0), some (va_rf v1), some (.int v2)] [] h (some (.int r.1), r.2) := by
  unfold b_64_49 at hb
  refine rn_iconst (x := (nI 0)) rfl (by decide) ?_
  obtain ⟨hz, hb⟩ := grd_spec hb
  obtain rfl := Option.some.inj hb
  exact rn_zret rfl rfl (of_decide_eq_true hz)
def b_64_41 (k23 : Option Nat → Option Nat → Int32 → Hp → Option (Int32 × Hp)) (v0 : Option Nat) (v1 : Option Nat) (v2 : Int32)  (h : Hp) : Option (Int32 × Hp) :=
  (grd (rC 5 v0 h)).bind fun _ =>
  (f_65 v0 v1 h).bind fun p1 =>
  if ¬ p1.1 = 0 then b_64_51 k23 v0 v1 v2  p1.2 else b_64_49   p1.2
theorem u_64_41 (d : Nat) (hd : 3 ≤ d) (k23 : Option Nat → Option Nat → Int32 → Hp → Option (Int32 × Hp)) (K23 : ∀ (v0 : Option Nat) (v1 : Option Nat) (v2 : Int32) (h : Hp) (r : Int32 × Hp), k23 v0 v1 v2 h = some r → Rn d 64 23 [some (va_rf v0), some (va_rf v1), some (.int v2)] [] h (some (.int r.1), r.2)) (v0 : Option Nat) (v1 : Option Nat) (v2 : Int32)  (h : Hp) (r : Int32 × Hp) (hb : b_64_41 k23 v0 v1 v2  h = some r) : Rn d 64 41 [some (va_rf v0), some (va_rf v1), some (.int v2)] [] h (some (.int r.1), r.2) := by
  unfold b_64_41 at hb
  obtain ⟨e, rfl⟩ : ∃ e, d = e + 1 := ⟨d - 1, by omega⟩
  refine rn_aload_n (i := 0) rfl rfl ?_
  refine rn_aload_n (i := 1) rfl rfl ?_
  obtain ⟨hrc, hb⟩ := grd_spec hb
  obtain ⟨p1, hc, hb⟩ := Option.bind_eq_some_iff.mp hb
  refine Rn.call1 (d := e) (As := [va_rf v0, va_rf v1]) (rest := []) rfl rfl rfl (by decide) rfl rfl rfl (bd_rcV hrc rfl) (by decide) (bd_lenC (n := 2) rfl (bd_slR (bd_slR bd_slN)) rfl) (bd_locC (n := 2) rfl (bd_slR (bd_slR bd_slN)) rfl (t_65 e (by omega) v0 v1 h _ hc)) ?_
  refine rn_if_ne rfl rfl (fun hc => ?_) (fun hc => ?_)
  · exact u_64_51 (e + 1) hd k23 K23 v0 v1 v2  p1.2 _ (if_t hb hc)
  · exact u_64_49 (e + 1) hd v0 v1 v2  p1.2 _ (if_f hb hc)
def b_64_28 (k23 : Option Nat → Option Nat → Int32 → Hp → Option (Int32 × Hp)) (v0 : Option Nat) (v1 : Option Nat) (v2 : Int32)  (h : Hp) : Option (Int32 × Hp) :=
  (gQ 5 0 v0 h).bind fun x1 =>
  (grd (rC 9 x1 h)).bind fun _ =>
  (f_122 x1 (some 4) h).bind fun p2 =>
  if p2.1 = 0 then b_64_57   p2.2 else b_64_41 k23 v0 v1 v2  p2.2
theorem u_64_28 (d : Nat) (hd : 3 ≤ d) (k23 : Option Nat → Option Nat → Int32 → Hp → Option (Int32 × Hp)) (K23 : ∀ (v0 : Option Nat) (v1 : Option Nat) (v2 : Int32) (h : Hp) (r : Int32 × Hp), k23 v0 v1 v2 h = some r → Rn d 64 23 [some (va_rf v0), some (va_rf v1), some (.int v2)] [] h (some (.int r.1), r.2)) (v0 : Option Nat) (v1 : Option Nat) (v2 : Int32)  (h : Hp) (r : Int32 × Hp) (hb : b_64_28 k23 v0 v1 v2  h = some r) : Rn d 64 28 [some (va_rf v0), some (va_rf v1), some (.int v2)] [] h (some (.int r.1), r.2) := by
  unfold b_64_28 at hb
  obtain ⟨e, rfl⟩ : ∃ e, d = e + 1 := ⟨d - 1, by omega⟩
  refine rn_aload_n (i := 0) rfl rfl ?_
  refine rn_gQ (c := 5) (k := 0) rfl (by decide) hb (fun x1 hb => ?_)
  refine rn_getstatic rfl ?_
  obtain ⟨hrc, hb⟩ := grd_spec hb
  obtain ⟨p2, hc, hb⟩ := Option.bind_eq_some_iff.mp hb
  refine Rn.call1 (d := e) (As := [va_rf x1, va_rf (some 4)]) (rest := []) rfl rfl rfl (by decide) rfl rfl rfl (bd_rcV hrc rfl) (by decide) (bd_lenC (n := 2) rfl (bd_slR (bd_slR bd_slN)) rfl) (bd_locC (n := 2) rfl (bd_slR (bd_slR bd_slN)) rfl (t_122 e (by omega) x1 (some 4) h _ hc)) ?_
  refine rn_if_eq rfl rfl (fun hc => ?_) (fun hc => ?_)
  · exact u_64_57 (e + 1) hd v0 v1 v2  p2.2 _ (if_t hb hc)
  · exact u_64_41 (e + 1) hd k23 K23 v0 v1 v2  p2.2 _ (if_f hb hc)
def b_64_23 (k23 : Option Nat → Option Nat → Int32 → Hp → Option (Int32 × Hp)) (v0 : Option Nat) (v1 : Option Nat) (v2 : Int32)  (h : Hp) : Option (Int32 × Hp) :=
  if (nI 4) ≤ v2 then b_64_57   h else b_64_28 k23 v0 v1 v2  h
theorem u_64_23 (d : Nat) (hd : 3 ≤ d) (k23 : Option Nat → Option Nat → Int32 → Hp → Option (Int32 × Hp)) (K23 : ∀ (v0 : Option Nat) (v1 : Option Nat) (v2 : Int32) (h : Hp) (r : Int32 × Hp), k23 v0 v1 v2 h = some r → Rn d 64 23 [some (va_rf v0), some (va_rf v1), some (.int v2)] [] h (some (.int r.1), r.2)) (v0 : Option Nat) (v1 : Option Nat) (v2 : Int32)  (h : Hp) (r : Int32 × Hp) (hb : b_64_23 k23 v0 v1 v2  h = some r) : Rn d 64 23 [some (va_rf v0), some (va_rf v1), some (.int v2)] [] h (some (.int r.1), r.2) := by
  unfold b_64_23 at hb
  refine rn_iload_n (i := 2) rfl rfl ?_
  refine rn_iconst (x := (nI 4)) rfl (by decide) ?_
  refine rn_icmp_ge rfl rfl (fun hc => ?_) (fun hc => ?_)
  · exact u_64_57 d hd v0 v1 v2  h _ (if_t hb hc)
  · exact u_64_28 d hd k23 K23 v0 v1 v2  h _ (if_f hb hc)
def l_64_23 : Nat → Option Nat → Option Nat → Int32 → Hp → Option (Int32 × Hp)
  | 0, _, _, _, _ => none
  | n + 1, v0, v1, v2, h => b_64_23 (l_64_23 n) v0 v1 v2 h
theorem w_64_23 (d : Nat) (hd : 3 ≤ d) : ∀ (n : Nat) (v0 : Option Nat) (v1 : Option Nat) (v2 : Int32) (h : Hp) (r : Int32 × Hp), l_64_23 n v0 v1 v2 h = some r → Rn d 64 23 [some (va_rf v0), some (va_rf v1), some (.int v2)] [] h (some (.int r.1), r.2) := by
  intro n
  induction n with
  | zero => intro v0 v1 v2 h r hb; cases hb
  | succ n ih => intro v0 v1 v2 h r hb; exact u_64_23 d hd (l_64_23 n) ih v0 v1 v2 h r hb
def b_64_21 (v0 : Option Nat) (v1 : Option Nat)  (h : Hp) : Option (Int32 × Hp) :=
  bnd ((nI 0)) fun x1 =>
  l_64_23 FU v0 v1 x1 h
theorem u_64_21 (d : Nat) (hd : 3 ≤ d) (v0 : Option Nat) (v1 : Option Nat)  (h : Hp) (r : Int32 × Hp) (hb : b_64_21 v0 v1  h = some r) : Rn d 64 21 [some (va_rf v0), some (va_rf v1), none] [] h (some (.int r.1), r.2) := by
  unfold b_64_21 at hb
  refine rn_iconst (x := (nI 0)) rfl (by decide) ?_
  obtain ⟨x1, ex1, hb⟩ := bnd_spec hb
  refine rn_istore_n (i := 2) (L1 := [some (va_rf v0), some (va_rf v1), some (.int x1)]) rfl (Nat.le_of_ble_eq_true rfl) (Or.inr (bd_wideR rfl)) (by rw [ex1]; rfl) ?_
  exact w_64_23 d hd FU v0 v1 x1 h _ hb
def b_64_19   (h : Hp) : Option (Int32 × Hp) :=
  (grd (decide ((nI 0) = 0 ∨ (nI 0) = 1))).bind fun _ => some ((nI 0), h)
theorem u_64_19 (d : Nat) (hd : 3 ≤ d) (v0 : Option Nat) (v1 : Option Nat)  (h : Hp) (r : Int32 × Hp) (hb : b_64_19   h = some r) : Rn d 64 19 [some (va_rf v0), some (va_rf v1), none] [] h (some (.int r.1), r.2) := by
  unfold b_64_19 at hb
  refine rn_iconst (x := (nI 0)) rfl (by decide) ?_
  obtain ⟨hz, hb⟩ := grd_spec hb
  obtain rfl := Option.some.inj hb
  exact rn_zret rfl rfl (of_decide_eq_true hz)
def b_64_0 (v0 : Option Nat) (v1 : Option Nat)  (h : Hp) : Option (Int32 × Hp) :=
  (gQ 5 0 v0 h).bind fun x1 =>
  (gI 9 4 x1 h).bind fun x2 =>
  (pI 1 10 v1 x2 h).bind fun h3 =>
  (grd (rC 5 v0 h3)).bind fun _ =>
  (f_65 v0 v1 h3).bind fun p4 =>
  if ¬ p4.1 = 0 then b_64_21 v0 v1  p4.2 else b_64_19   p4.2
theorem u_64_0 (d : Nat) (hd : 3 ≤ d) (v0 : Option Nat) (v1 : Option Nat)  (h : Hp) (r : Int32 × Hp) (hb : b_64_0 v0 v1  h = some r) : Rn d 64 0 [some (va_rf v0), some (va_rf v1), none] [] h (some (.int r.1), r.2) := by
  unfold b_64_0 at hb
  obtain ⟨e, rfl⟩ : ∃ e, d = e + 1 := ⟨d - 1, by omega⟩
  refine rn_aload_n (i := 1) rfl rfl ?_
  refine rn_aload_n (i := 0) rfl rfl ?_
  refine rn_gQ (c := 5) (k := 0) rfl (by decide) hb (fun x1 hb => ?_)
  refine rn_gI (c := 9) (k := 4) rfl (by decide) hb (fun x2 hb => ?_)
  refine rn_pI (c := 1) (k := 10) rfl (by decide) hb (fun h3 hb => ?_)
  refine rn_aload_n (i := 0) rfl rfl ?_
  refine rn_aload_n (i := 1) rfl rfl ?_
  obtain ⟨hrc, hb⟩ := grd_spec hb
  obtain ⟨p4, hc, hb⟩ := Option.bind_eq_some_iff.mp hb
  refine Rn.call1 (d := e) (As := [va_rf v0, va_rf v1]) (rest := []) rfl rfl rfl (by decide) rfl rfl rfl (bd_rcV hrc rfl) (by decide) (bd_lenC (n := 2) rfl (bd_slR (bd_slR bd_slN)) rfl) (bd_locC (n := 2) rfl (bd_slR (bd_slR bd_slN)) rfl (t_65 e (by omega) v0 v1 h3 _ hc)) ?_
  refine rn_if_ne rfl rfl (fun hc => ?_) (fun hc => ?_)
  · exact u_64_21 (e + 1) hd v0 v1  p4.2 _ (if_t hb hc)
  · exact u_64_19 (e + 1) hd v0 v1  p4.2 _ (if_f hb hc)
/-- BitingDoors$HouseReader.readHangings(LBitingDoors$Door;)Z -/
def f_64 (v0 : Option Nat) (v1 : Option Nat) (h : Hp) : Option (Int32 × Hp) := b_64_0 v0 v1 h
theorem t_64 (d : Nat) (hd : 3 ≤ d) (v0 : Option Nat) (v1 : Option Nat) (h : Hp) (r : Int32 × Hp) (hb : f_64 v0 v1 h = some r) : Rn d 64 0 [some (va_rf v0), some (va_rf v1), none] [] h (some (.int r.1), r.2) := by
  unfold f_64 at hb
  exact u_64_0 d hd v0 v1 h r hb
