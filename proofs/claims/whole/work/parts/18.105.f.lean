def b_201_0 (v0 : Option Nat) (v1 : Int32)  (h : Hp) : Option (Hp) :=
  (pI 11 0 v0 (nI 0) h).bind fun h1 =>
  (grd (rC 11 v0 h1)).bind fun _ =>
  (f_202 v0 h1).bind fun p2 =>
  (grd (rC 11 v0 p2)).bind fun _ =>
  (f_181 v0 p2).bind fun p3 =>
  (pI 11 3 v0 p3.1 p3.2).bind fun h4 =>
  (pI 11 4 v0 v1 h4).bind fun h5 =>
  (pI 11 10 v0 (nI 0) h5).bind fun h6 =>
  (pI 11 5 v0 (nI 0) h6).bind fun h7 =>
  (grd (rC 11 v0 h7)).bind fun _ =>
  (f_189 v0 h7).bind fun p8 =>
  some p8
theorem u_201_0 (d : Nat) (hd : 2 ≤ d) (v0 : Option Nat) (v1 : Int32)  (h : Hp) (r : Hp) (hb : b_201_0 v0 v1  h = some r) : Rn d 201 0 [some (va_rf v0), some (.int v1)] [] h (none, r) := by
  unfold b_201_0 at hb
  obtain ⟨e, rfl⟩ : ∃ e, d = e + 1 := ⟨d - 1, by omega⟩
  refine rn_aload_n (i := 0) rfl rfl ?_
  refine rn_iconst (x := (nI 0)) rfl (by decide) ?_
  refine rn_pI (c := 11) (k := 0) rfl (by decide) hb (fun h1 hb => ?_)
  refine rn_aload_n (i := 0) rfl rfl ?_
  obtain ⟨hrc, hb⟩ := grd_spec hb
  obtain ⟨p2, hc, hb⟩ := Option.bind_eq_some_iff.mp hb
  refine Rn.call0 (d := e) (As := [va_rf v0]) (rest := []) rfl rfl rfl (by decide) rfl rfl rfl (bd_rcV hrc rfl) (by decide) (bd_lenC (n := 1) rfl (bd_slR bd_slN) rfl) (bd_locC (n := 1) rfl (bd_slR bd_slN) rfl (t_202 e (by omega) v0 h1 _ hc)) ?_
  refine rn_aload_n (i := 0) rfl rfl ?_
  refine rn_aload_n (i := 0) rfl rfl ?_
  obtain ⟨hrc, hb⟩ := grd_spec hb
  obtain ⟨p3, hc, hb⟩ := Option.bind_eq_some_iff.mp hb
  refine Rn.call1 (d := e) (As := [va_rf v0]) (rest := [va_rf v0]) rfl rfl rfl (by decide) rfl rfl rfl (bd_rcV hrc rfl) (by rw [bd_cR (bd_cN)]; decide) (bd_lenC (n := 2) rfl (bd_slR bd_slN) rfl) (bd_locC (n := 2) rfl (bd_slR bd_slN) rfl (t_181 e (by omega) v0 p2 _ hc)) ?_
  refine rn_pI (c := 11) (k := 3) rfl (by decide) hb (fun h4 hb => ?_)
  refine rn_aload_n (i := 0) rfl rfl ?_
  refine rn_iload_n (i := 1) rfl rfl ?_
  refine rn_pI (c := 11) (k := 4) rfl (by decide) hb (fun h5 hb => ?_)
  refine rn_aload_n (i := 0) rfl rfl ?_
  refine rn_iconst (x := (nI 0)) rfl (by decide) ?_
  refine rn_pI (c := 11) (k := 10) rfl (by decide) hb (fun h6 hb => ?_)
  refine rn_aload_n (i := 0) rfl rfl ?_
  refine rn_iconst (x := (nI 0)) rfl (by decide) ?_
  refine rn_pI (c := 11) (k := 5) rfl (by decide) hb (fun h7 hb => ?_)
  refine rn_aload_n (i := 0) rfl rfl ?_
  obtain ⟨hrc, hb⟩ := grd_spec hb
  obtain ⟨p8, hc, hb⟩ := Option.bind_eq_some_iff.mp hb
  refine Rn.call0 (d := e) (As := [va_rf v0]) (rest := []) rfl rfl rfl (by decide) rfl rfl rfl (bd_rcV hrc rfl) (by decide) (bd_lenC (n := 5) rfl (bd_slR bd_slN) rfl) (bd_locC (n := 5) rfl (bd_slR bd_slN) rfl (t_189 e (by omega) v0 h7 _ hc)) ?_
  obtain rfl := Option.some.inj hb
  exact rn_vret rfl rfl
/-- BitingDoorsModel.begin(I)V -/
def f_201 (v0 : Option Nat) (v1 : Int32) (h : Hp) : Option (Hp) := b_201_0 v0 v1 h
theorem t_201 (d : Nat) (hd : 2 ≤ d) (v0 : Option Nat) (v1 : Int32) (h : Hp) (r : Hp) (hb : f_201 v0 v1 h = some r) : Rn d 201 0 [some (va_rf v0), some (.int v1)] [] h (none, r) := by
  unfold f_201 at hb
  exact u_201_0 d hd v0 v1 h r hb
def b_203_0 (v0 : Option Nat)  (h : Hp) : Option (Int32 × Hp) :=
  (gQ 11 14 v0 h).bind fun x1 =>
  (aI 12 x1 (nI 2) h).bind fun x2 =>
  some (x2, h)
theorem u_203_0 (d : Nat) (hd : 0 ≤ d) (v0 : Option Nat)  (h : Hp) (r : Int32 × Hp) (hb : b_203_0 v0  h = some r) : Rn d 203 0 [some (va_rf v0)] [] h (some (.int r.1), r.2) := by
  unfold b_203_0 at hb
  refine rn_aload_n (i := 0) rfl rfl ?_
  refine rn_gQ (c := 11) (k := 14) rfl (by decide) hb (fun x1 hb => ?_)
  refine rn_iconst (x := (nI 2)) rfl (by decide) ?_
  refine rn_aI rfl hb (fun x2 hb => ?_)
  obtain rfl := Option.some.inj hb
  exact rn_iret rfl rfl
/-- BitingDoorsModel.doors()I -/
def f_203 (v0 : Option Nat) (h : Hp) : Option (Int32 × Hp) := b_203_0 v0 h
theorem t_203 (d : Nat) (hd : 0 ≤ d) (v0 : Option Nat) (h : Hp) (r : Int32 × Hp) (hb : f_203 v0 h = some r) : Rn d 203 0 [some (va_rf v0)] [] h (some (.int r.1), r.2) := by
  unfold f_203 at hb
  exact u_203_0 d hd v0 h r hb
def b_204_17  (s0 : Int32) (h : Hp) : Option (Int32 × Hp) :=
  (grd (decide (s0 = 0 ∨ s0 = 1))).bind fun _ => some (s0, h)
theorem u_204_17 (d : Nat) (hd : 1 ≤ d) (v0 : Option Nat) (v1 : Int32) (s0 : Int32) (h : Hp) (r : Int32 × Hp) (hb : b_204_17  s0 h = some r) : Rn d 204 17 [some (va_rf v0), some (.int v1)] [.int s0] h (some (.int r.1), r.2) := by
  unfold b_204_17 at hb
  obtain ⟨hz, hb⟩ := grd_spec hb
  obtain rfl := Option.some.inj hb
  exact rn_zret rfl rfl (of_decide_eq_true hz)
def b_204_16   (h : Hp) : Option (Int32 × Hp) :=
  b_204_17  (nI 0) h
theorem u_204_16 (d : Nat) (hd : 1 ≤ d) (v0 : Option Nat) (v1 : Int32)  (h : Hp) (r : Int32 × Hp) (hb : b_204_16   h = some r) : Rn d 204 16 [some (va_rf v0), some (.int v1)] [] h (some (.int r.1), r.2) := by
  unfold b_204_16 at hb
  refine rn_iconst (x := (nI 0)) rfl (by decide) ?_
  exact u_204_17 d hd v0 v1 (nI 0) h _ hb
def b_204_12   (h : Hp) : Option (Int32 × Hp) :=
  b_204_17  (nI 1) h
theorem u_204_12 (d : Nat) (hd : 1 ≤ d) (v0 : Option Nat) (v1 : Int32)  (h : Hp) (r : Int32 × Hp) (hb : b_204_12   h = some r) : Rn d 204 12 [some (va_rf v0), some (.int v1)] [] h (some (.int r.1), r.2) := by
  unfold b_204_12 at hb
  refine rn_iconst (x := (nI 1)) rfl (by decide) ?_
  refine rn_goto rfl rfl ?_
  exact u_204_17 d hd v0 v1 (nI 1) h _ hb
def b_204_4 (v0 : Option Nat) (v1 : Int32)  (h : Hp) : Option (Int32 × Hp) :=
  (grd (rC 11 v0 h)).bind fun _ =>
  (f_203 v0 h).bind fun p1 =>
  if p1.1 ≤ v1 then b_204_16   p1.2 else b_204_12   p1.2
theorem u_204_4 (d : Nat) (hd : 1 ≤ d) (v0 : Option Nat) (v1 : Int32)  (h : Hp) (r : Int32 × Hp) (hb : b_204_4 v0 v1  h = some r) : Rn d 204 4 [some (va_rf v0), some (.int v1)] [] h (some (.int r.1), r.2) := by
  unfold b_204_4 at hb
  obtain ⟨e, rfl⟩ : ∃ e, d = e + 1 := ⟨d - 1, by omega⟩
  refine rn_iload_n (i := 1) rfl rfl ?_
  refine rn_aload_n (i := 0) rfl rfl ?_
  obtain ⟨hrc, hb⟩ := grd_spec hb
  obtain ⟨p1, hc, hb⟩ := Option.bind_eq_some_iff.mp hb
  refine Rn.call1 (d := e) (As := [va_rf v0]) (rest := [.int v1]) rfl rfl rfl (by decide) rfl rfl rfl (bd_rcV hrc rfl) (by rw [bd_cI (bd_cN)]; decide) (bd_lenC (n := 1) rfl (bd_slR bd_slN) rfl) (bd_locC (n := 1) rfl (bd_slR bd_slN) rfl (t_203 e (by omega) v0 h _ hc)) ?_
  refine rn_icmp_ge rfl rfl (fun hc => ?_) (fun hc => ?_)
  · exact u_204_16 (e + 1) hd v0 v1  p1.2 _ (if_t hb hc)
  · exact u_204_12 (e + 1) hd v0 v1  p1.2 _ (if_f hb hc)
def b_204_0 (v0 : Option Nat) (v1 : Int32)  (h : Hp) : Option (Int32 × Hp) :=
  if v1 < 0 then b_204_16   h else b_204_4 v0 v1  h
theorem u_204_0 (d : Nat) (hd : 1 ≤ d) (v0 : Option Nat) (v1 : Int32)  (h : Hp) (r : Int32 × Hp) (hb : b_204_0 v0 v1  h = some r) : Rn d 204 0 [some (va_rf v0), some (.int v1)] [] h (some (.int r.1), r.2) := by
  unfold b_204_0 at hb
  refine rn_iload_n (i := 1) rfl rfl ?_
  refine rn_if_lt rfl rfl (fun hc => ?_) (fun hc => ?_)
  · exact u_204_16 d hd v0 v1  h _ (if_t hb hc)
  · exact u_204_4 d hd v0 v1  h _ (if_f hb hc)
/-- BitingDoorsModel.isDoor(I)Z -/
def f_204 (v0 : Option Nat) (v1 : Int32) (h : Hp) : Option (Int32 × Hp) := b_204_0 v0 v1 h
theorem t_204 (d : Nat) (hd : 1 ≤ d) (v0 : Option Nat) (v1 : Int32) (h : Hp) (r : Int32 × Hp) (hb : f_204 v0 v1 h = some r) : Rn d 204 0 [some (va_rf v0), some (.int v1)] [] h (some (.int r.1), r.2) := by
  unfold f_204 at hb
  exact u_204_0 d hd v0 v1 h r hb
def b_205_0 (v0 : Option Nat) (v1 : Int32) (v2 : Int32)  (h : Hp) : Option (Int32 × Hp) :=
  (gQ 11 14 v0 h).bind fun x1 =>
  (aI 12 x1 (((nI 110) + ((nI 10) * v1)) + v2) h).bind fun x2 =>
  some (x2, h)
theorem u_205_0 (d : Nat) (hd : 0 ≤ d) (v0 : Option Nat) (v1 : Int32) (v2 : Int32)  (h : Hp) (r : Int32 × Hp) (hb : b_205_0 v0 v1 v2  h = some r) : Rn d 205 0 [some (va_rf v0), some (.int v1), some (.int v2)] [] h (some (.int r.1), r.2) := by
  unfold b_205_0 at hb
  refine rn_aload_n (i := 0) rfl rfl ?_
  refine rn_gQ (c := 11) (k := 14) rfl (by decide) hb (fun x1 hb => ?_)
  refine rn_bipush (x := (nI 110)) rfl (by decide) ?_
  refine rn_bipush (x := (nI 10)) rfl (by decide) ?_
  refine rn_iload_n (i := 1) rfl rfl ?_
  refine rn_imul rfl ?_
  refine rn_iadd rfl ?_
  refine rn_iload_n (i := 2) rfl rfl ?_
  refine rn_iadd rfl ?_
  refine rn_aI rfl hb (fun x2 hb => ?_)
  obtain rfl := Option.some.inj hb
  exact rn_iret rfl rfl
/-- BitingDoorsModel.of(II)I -/
def f_205 (v0 : Option Nat) (v1 : Int32) (v2 : Int32) (h : Hp) : Option (Int32 × Hp) := b_205_0 v0 v1 v2 h
theorem t_205 (d : Nat) (hd : 0 ≤ d) (v0 : Option Nat) (v1 : Int32) (v2 : Int32) (h : Hp) (r : Int32 × Hp) (hb : f_205 v0 v1 v2 h = some r) : Rn d 205 0 [some (va_rf v0), some (.int v1), some (.int v2)] [] h (some (.int r.1), r.2) := by
  unfold f_205 at hb
  exact u_205_0 d hd v0 v1 v2 h r hb
def b_206_33  (s0 : Int32) (h : Hp) : Option (Int32 × Hp) :=
  (grd (decide (s0 = 0 ∨ s0 = 1))).bind fun _ => some (s0, h)
theorem u_206_33 (d : Nat) (hd : 0 ≤ d) (v0 : Option Nat) (v1 : Int32) (v2 : Int32) (s0 : Int32) (h : Hp) (r : Int32 × Hp) (hb : b_206_33  s0 h = some r) : Rn d 206 33 [some (va_rf v0), some (.int v1), some (.int v2)] [.int s0] h (some (.int r.1), r.2) := by
  unfold b_206_33 at hb
  obtain ⟨hz, hb⟩ := grd_spec hb
  obtain rfl := Option.some.inj hb
  exact rn_zret rfl rfl (of_decide_eq_true hz)
def b_206_32   (h : Hp) : Option (Int32 × Hp) :=
  b_206_33  (nI 0) h
theorem u_206_32 (d : Nat) (hd : 0 ≤ d) (v0 : Option Nat) (v1 : Int32) (v2 : Int32)  (h : Hp) (r : Int32 × Hp) (hb : b_206_32   h = some r) : Rn d 206 32 [some (va_rf v0), some (.int v1), some (.int v2)] [] h (some (.int r.1), r.2) := by
  unfold b_206_32 at hb
  refine rn_iconst (x := (nI 0)) rfl (by decide) ?_
  exact u_206_33 d hd v0 v1 v2 (nI 0) h _ hb
def b_206_28   (h : Hp) : Option (Int32 × Hp) :=
  b_206_33  (nI 1) h
theorem u_206_28 (d : Nat) (hd : 0 ≤ d) (v0 : Option Nat) (v1 : Int32) (v2 : Int32)  (h : Hp) (r : Int32 × Hp) (hb : b_206_28   h = some r) : Rn d 206 28 [some (va_rf v0), some (.int v1), some (.int v2)] [] h (some (.int r.1), r.2) := by
  unfold b_206_28 at hb
  refine rn_iconst (x := (nI 1)) rfl (by decide) ?_
  refine rn_goto rfl rfl ?_
  exact u_206_33 d hd v0 v1 v2 (nI 1) h _ hb
def b_206_18 (v0 : Option Nat) (v2 : Int32)  (h : Hp) : Option (Int32 × Hp) :=
  (gQ 11 14 v0 h).bind fun x1 =>
  (aI 12 x1 (nI 1) h).bind fun x2 =>
  if x2 ≤ v2 then b_206_32   h else b_206_28   h
theorem u_206_18 (d : Nat) (hd : 0 ≤ d) (v0 : Option Nat) (v1 : Int32) (v2 : Int32)  (h : Hp) (r : Int32 × Hp) (hb : b_206_18 v0 v2  h = some r) : Rn d 206 18 [some (va_rf v0), some (.int v1), some (.int v2)] [] h (some (.int r.1), r.2) := by
  unfold b_206_18 at hb
  refine rn_iload_n (i := 2) rfl rfl ?_
  refine rn_aload_n (i := 0) rfl rfl ?_
  refine rn_gQ (c := 11) (k := 14) rfl (by decide) hb (fun x1 hb => ?_)
  refine rn_iconst (x := (nI 1)) rfl (by decide) ?_
  refine rn_aI rfl hb (fun x2 hb => ?_)
  refine rn_icmp_ge rfl rfl (fun hc => ?_) (fun hc => ?_)
  · exact u_206_32 d hd v0 v1 v2  h _ (if_t hb hc)
  · exact u_206_28 d hd v0 v1 v2  h _ (if_f hb hc)
def b_206_14 (v0 : Option Nat) (v2 : Int32)  (h : Hp) : Option (Int32 × Hp) :=
  if v2 < 0 then b_206_32   h else b_206_18 v0 v2  h
theorem u_206_14 (d : Nat) (hd : 0 ≤ d) (v0 : Option Nat) (v1 : Int32) (v2 : Int32)  (h : Hp) (r : Int32 × Hp) (hb : b_206_14 v0 v2  h = some r) : Rn d 206 14 [some (va_rf v0), some (.int v1), some (.int v2)] [] h (some (.int r.1), r.2) := by
  unfold b_206_14 at hb
  refine rn_iload_n (i := 2) rfl rfl ?_
  refine rn_if_lt rfl rfl (fun hc => ?_) (fun hc => ?_)
  · exact u_206_32 d hd v0 v1 v2  h _ (if_t hb hc)
  · exact u_206_18 d hd v0 v1 v2  h _ (if_f hb hc)
def b_206_4 (v0 : Option Nat) (v1 : Int32) (v2 : Int32)  (h : Hp) : Option (Int32 × Hp) :=
  (gQ 11 14 v0 h).bind fun x1 =>
  (aI 12 x1 (nI 0) h).bind fun x2 =>
  if x2 ≤ v1 then b_206_32   h else b_206_14 v0 v2  h
theorem u_206_4 (d : Nat) (hd : 0 ≤ d) (v0 : Option Nat) (v1 : Int32) (v2 : Int32)  (h : Hp) (r : Int32 × Hp) (hb : b_206_4 v0 v1 v2  h = some r) : Rn d 206 4 [some (va_rf v0), some (.int v1), some (.int v2)] [] h (some (.int r.1), r.2) := by
  unfold b_206_4 at hb
  refine rn_iload_n (i := 1) rfl rfl ?_
  refine rn_aload_n (i := 0) rfl rfl ?_
  refine rn_gQ (c := 11) (k := 14) rfl (by decide) hb (fun x1 hb => ?_)
  refine rn_iconst (x := (nI 0)) rfl (by decide) ?_
  refine rn_aI rfl hb (fun x2 hb => ?_)
  refine rn_icmp_ge rfl rfl (fun hc => ?_) (fun hc => ?_)
  · exact u_206_32 d hd v0 v1 v2  h _ (if_t hb hc)
  · exact u_206_14 d hd v0 v1 v2  h _ (if_f hb hc)
def b_206_0 (v0 : Option Nat) (v1 : Int32) (v2 : Int32)  (h : Hp) : Option (Int32 × Hp) :=
  if v1 < 0 then b_206_32   h else b_206_4 v0 v1 v2  h
theorem u_206_0 (d : Nat) (hd : 0 ≤ d) (v0 : Option Nat) (v1 : Int32) (v2 : Int32)  (h : Hp) (r : Int32 × Hp) (hb : b_206_0 v0 v1 v2  h = some r) : Rn d 206 0 [some (va_rf v0), some (.int v1), some (.int v2)] [] h (some (.int r.1), r.2) := by
  unfold b_206_0 at hb
  refine rn_iload_n (i := 1) rfl rfl ?_
  refine rn_if_lt rfl rfl (fun hc => ?_) (fun hc => ?_)
  · exact u_206_32 d hd v0 v1 v2  h _ (if_t hb hc)
  · exact u_206_4 d hd v0 v1 v2  h _ (if_f hb hc)
/-- BitingDoorsModel.isCell(II)Z -/
def f_206 (v0 : Option Nat) (v1 : Int32) (v2 : Int32) (h : Hp) : Option (Int32 × Hp) := b_206_0 v0 v1 v2 h
theorem t_206 (d : Nat) (hd : 0 ≤ d) (v0 : Option Nat) (v1 : Int32) (v2 : Int32) (h : Hp) (r : Int32 × Hp) (hb : f_206 v0 v1 v2 h = some r) : Rn d 206 0 [some (va_rf v0), some (.int v1), some (.int v2)] [] h (some (.int r.1), r.2) := by
  unfold f_206 at hb
  exact u_206_0 d hd v0 v1 v2 h r hb
def b_207_66 (v0 : Option Nat)  (h : Hp) : Option (Int32 × Hp) :=
  (grd (rC 11 v0 h)).bind fun _ =>
  (f_198 v0 (nI 2) h).bind fun p1 =>
  (grd (decide (p1.1 = 0 ∨ p1.1 = 1))).bind fun _ => some (p1.1, p1.2)
theorem u_207_66 (d : Nat) (hd : 2 ≤ d) (v0 : Option Nat) (v1 : Int32)  (h : Hp) (r : Int32 × Hp) (hb : b_207_66 v0  h = some r) : Rn d 207 66 [some (va_rf v0), some (.int v1), none] [] h (some (.int r.1), r.2) := by
  unfold b_207_66 at hb
  obtain ⟨e, rfl⟩ : ∃ e, d = e + 1 := ⟨d - 1, by omega⟩
  refine rn_aload_n (i := 0) rfl rfl ?_
  refine rn_iconst (x := (nI 2)) rfl (by decide) ?_
  obtain ⟨hrc, hb⟩ := grd_spec hb
  obtain ⟨p1, hc, hb⟩ := Option.bind_eq_some_iff.mp hb
  refine Rn.call1 (d := e) (As := [va_rf v0, .int (nI 2)]) (rest := []) rfl rfl rfl (by decide) rfl rfl rfl (bd_rcV hrc rfl) (by decide) (bd_lenC (n := 2) rfl (bd_slR (bd_slI bd_slN)) rfl) (bd_locC (n := 2) rfl (bd_slR (bd_slI bd_slN)) rfl (t_198 e (by omega) v0 (nI 2) h _ hc)) ?_
  obtain ⟨hz, hb⟩ := grd_spec hb
  obtain rfl := Option.some.inj hb
  exact rn_zret rfl rfl (of_decide_eq_true hz)
def b_207_160 (v0 : Option Nat)  (h : Hp) : Option (Int32 × Hp) :=
  (gQ 11 15 v0 h).bind fun x1 =>
  (aI 12 x1 (nI 1) h).bind fun x2 =>
  (wI x1 (nI 1) (x2 + (nI 1)) h).bind fun h3 =>
  (grd (rC 11 v0 h3)).bind fun _ =>
  (f_189 v0 h3).bind fun p4 =>
  (grd (decide ((nI 1) = 0 ∨ (nI 1) = 1))).bind fun _ => some ((nI 1), p4)
theorem u_207_160 (d : Nat) (hd : 2 ≤ d) (v0 : Option Nat) (v1 : Int32) (v2 : Int32)  (h : Hp) (r : Int32 × Hp) (hb : b_207_160 v0  h = some r) : Rn d 207 160 [some (va_rf v0), some (.int v1), some (.int v2)] [] h (some (.int r.1), r.2) := by
  unfold b_207_160 at hb
  obtain ⟨e, rfl⟩ : ∃ e, d = e + 1 := ⟨d - 1, by omega⟩
  refine rn_aload_n (i := 0) rfl rfl ?_
  refine rn_gQ (c := 11) (k := 15) rfl (by decide) hb (fun x1 hb => ?_)
  refine rn_iconst (x := (nI 1)) rfl (by decide) ?_
  refine rn_dup2 rfl rfl (bd_cat_rf _) ?_
  refine rn_aI rfl hb (fun x2 hb => ?_)
  refine rn_iconst (x := (nI 1)) rfl (by decide) ?_
  refine rn_iadd rfl ?_
  refine rn_wI rfl hb (fun h3 hb => ?_)
  refine rn_aload_n (i := 0) rfl rfl ?_
  obtain ⟨hrc, hb⟩ := grd_spec hb
  obtain ⟨p4, hc, hb⟩ := Option.bind_eq_some_iff.mp hb
  refine Rn.call0 (d := e) (As := [va_rf v0]) (rest := []) rfl rfl rfl (by decide) rfl rfl rfl (bd_rcV hrc rfl) (by decide) (bd_lenC (n := 5) rfl (bd_slR bd_slN) rfl) (bd_locC (n := 5) rfl (bd_slR bd_slN) rfl (t_189 e (by omega) v0 h3 _ hc)) ?_
  refine rn_iconst (x := (nI 1)) rfl (by decide) ?_
  obtain ⟨hz, hb⟩ := grd_spec hb
  obtain rfl := Option.some.inj hb
  exact rn_zret rfl rfl (of_decide_eq_true hz)
def b_207_153 (k89 : Option Nat → Int32 → Int32 → Hp → Option (Int32 × Hp)) (v0 : Option Nat) (v1 : Int32) (v2 : Int32) (s0 : Option Nat) (s1 : Int32) (s2 : Int32) (h : Hp) : Option (Int32 × Hp) :=
  (wI s0 s1 s2 h).bind fun h1 =>
  bnd (v2 + (nI 1)) fun x2 =>
  k89 v0 v1 x2 h1
theorem u_207_153 (d : Nat) (hd : 2 ≤ d) (k89 : Option Nat → Int32 → Int32 → Hp → Option (Int32 × Hp)) (K89 : ∀ (v0 : Option Nat) (v1 : Int32) (v2 : Int32) (h : Hp) (r : Int32 × Hp), k89 v0 v1 v2 h = some r → Rn d 207 89 [some (va_rf v0), some (.int v1), some (.int v2)] [] h (some (.int r.1), r.2)) (v0 : Option Nat) (v1 : Int32) (v2 : Int32) (s0 : Option Nat) (s1 : Int32) (s2 : Int32) (h : Hp) (r : Int32 × Hp) (hb : b_207_153 k89 v0 v1 v2 s0 s1 s2 h = some r) : Rn d 207 153 [some (va_rf v0), some (.int v1), some (.int v2)] [.int s2, .int s1, va_rf s0] h (some (.int r.1), r.2) := by
  unfold b_207_153 at hb
  refine rn_wI rfl hb (fun h1 hb => ?_)
  obtain ⟨x2, ex2, hb⟩ := bnd_spec hb
  refine rn_iinc (i := 2) (y := x2) (L1 := [some (va_rf v0), some (.int v1), some (.int x2)]) rfl rfl (Nat.le_of_ble_eq_true rfl) (Or.inr rfl) (by rw [ex2]; rfl) rfl ?_
  refine rn_goto rfl rfl ?_
  exact K89 v0 v1 x2 h1 _ hb
def b_207_152 (k89 : Option Nat → Int32 → Int32 → Hp → Option (Int32 × Hp)) (v0 : Option Nat) (v1 : Int32) (v2 : Int32) (s0 : Option Nat) (s1 : Int32) (h : Hp) : Option (Int32 × Hp) :=
  b_207_153 k89 v0 v1 v2 s0 s1 (nI 2) h
theorem u_207_152 (d : Nat) (hd : 2 ≤ d) (k89 : Option Nat → Int32 → Int32 → Hp → Option (Int32 × Hp)) (K89 : ∀ (v0 : Option Nat) (v1 : Int32) (v2 : Int32) (h : Hp) (r : Int32 × Hp), k89 v0 v1 v2 h = some r → Rn d 207 89 [some (va_rf v0), some (.int v1), some (.int v2)] [] h (some (.int r.1), r.2)) (v0 : Option Nat) (v1 : Int32) (v2 : Int32) (s0 : Option Nat) (s1 : Int32) (h : Hp) (r : Int32 × Hp) (hb : b_207_152 k89 v0 v1 v2 s0 s1 h = some r) : Rn d 207 152 [some (va_rf v0), some (.int v1), some (.int v2)] [.int s1, va_rf s0] h (some (.int r.1), r.2) := by
  unfold b_207_152 at hb
  refine rn_iconst (x := (nI 2)) rfl (by decide) ?_
  exact u_207_153 d hd k89 K89 v0 v1 v2 s0 s1 (nI 2) h _ hb
def b_207_148 (k89 : Option Nat → Int32 → Int32 → Hp → Option (Int32 × Hp)) (v0 : Option Nat) (v1 : Int32) (v2 : Int32) (s0 : Option Nat) (s1 : Int32) (h : Hp) : Option (Int32 × Hp) :=
  b_207_153 k89 v0 v1 v2 s0 s1 (nI 0) h
theorem u_207_148 (d : Nat) (hd : 2 ≤ d) (k89 : Option Nat → Int32 → Int32 → Hp → Option (Int32 × Hp)) (K89 : ∀ (v0 : Option Nat) (v1 : Int32) (v2 : Int32) (h : Hp) (r : Int32 × Hp), k89 v0 v1 v2 h = some r → Rn d 207 89 [some (va_rf v0), some (.int v1), some (.int v2)] [] h (some (.int r.1), r.2)) (v0 : Option Nat) (v1 : Int32) (v2 : Int32) (s0 : Option Nat) (s1 : Int32) (h : Hp) (r : Int32 × Hp) (hb : b_207_148 k89 v0 v1 v2 s0 s1 h = some r) : Rn d 207 148 [some (va_rf v0), some (.int v1), some (.int v2)] [.int s1, va_rf s0] h (some (.int r.1), r.2) := by
  unfold b_207_148 at hb
  refine rn_iconst (x := (nI 0)) rfl (by decide) ?_
  refine rn_goto rfl rfl ?_
  exact u_207_153 d hd k89 K89 v0 v1 v2 s0 s1 (nI 0) h _ hb
def b_207_132 (k89 : Option Nat → Int32 → Int32 → Hp → Option (Int32 × Hp)) (v0 : Option Nat) (v1 : Int32) (v2 : Int32) (s0 : Option Nat) (s1 : Int32) (h : Hp) : Option (Int32 × Hp) :=
  (gQ 11 1 v0 h).bind fun x1 =>
  (gI 11 6 v0 h).bind fun x2 =>
  (aI 12 x1 (x2 + v2) h).bind fun x3 =>
  if ¬ x3 = (nI 102) then b_207_152 k89 v0 v1 v2 s0 s1 h else b_207_148 k89 v0 v1 v2 s0 s1 h
theorem u_207_132 (d : Nat) (hd : 2 ≤ d) (k89 : Option Nat → Int32 → Int32 → Hp → Option (Int32 × Hp)) (K89 : ∀ (v0 : Option Nat) (v1 : Int32) (v2 : Int32) (h : Hp) (r : Int32 × Hp), k89 v0 v1 v2 h = some r → Rn d 207 89 [some (va_rf v0), some (.int v1), some (.int v2)] [] h (some (.int r.1), r.2)) (v0 : Option Nat) (v1 : Int32) (v2 : Int32) (s0 : Option Nat) (s1 : Int32) (h : Hp) (r : Int32 × Hp) (hb : b_207_132 k89 v0 v1 v2 s0 s1 h = some r) : Rn d 207 132 [some (va_rf v0), some (.int v1), some (.int v2)] [.int s1, va_rf s0] h (some (.int r.1), r.2) := by
  unfold b_207_132 at hb
  refine rn_aload_n (i := 0) rfl rfl ?_
  refine rn_gQ (c := 11) (k := 1) rfl (by decide) hb (fun x1 hb => ?_)
  refine rn_aload_n (i := 0) rfl rfl ?_
  refine rn_gI (c := 11) (k := 6) rfl (by decide) hb (fun x2 hb => ?_)
  refine rn_iload_n (i := 2) rfl rfl ?_
  refine rn_iadd rfl ?_
  refine rn_aI rfl hb (fun x3 hb => ?_)
  refine rn_bipush (x := (nI 102)) rfl (by decide) ?_
  refine rn_icmp_ne rfl rfl (fun hc => ?_) (fun hc => ?_)
  · exact u_207_152 d hd k89 K89 v0 v1 v2 s0 s1 h _ (if_t hb hc)
  · exact u_207_148 d hd k89 K89 v0 v1 v2 s0 s1 h _ (if_f hb hc)
def b_207_128 (k89 : Option Nat → Int32 → Int32 → Hp → Option (Int32 × Hp)) (v0 : Option Nat) (v1 : Int32) (v2 : Int32) (s0 : Option Nat) (s1 : Int32) (h : Hp) : Option (Int32 × Hp) :=
  b_207_153 k89 v0 v1 v2 s0 s1 (nI 1) h
theorem u_207_128 (d : Nat) (hd : 2 ≤ d) (k89 : Option Nat → Int32 → Int32 → Hp → Option (Int32 × Hp)) (K89 : ∀ (v0 : Option Nat) (v1 : Int32) (v2 : Int32) (h : Hp) (r : Int32 × Hp), k89 v0 v1 v2 h = some r → Rn d 207 89 [some (va_rf v0), some (.int v1), some (.int v2)] [] h (some (.int r.1), r.2)) (v0 : Option Nat) (v1 : Int32) (v2 : Int32) (s0 : Option Nat) (s1 : Int32) (h : Hp) (r : Int32 × Hp) (hb : b_207_128 k89 v0 v1 v2 s0 s1 h = some r) : Rn d 207 128 [some (va_rf v0), some (.int v1), some (.int v2)] [.int s1, va_rf s0] h (some (.int r.1), r.2) := by
  unfold b_207_128 at hb
  refine rn_iconst (x := (nI 1)) rfl (by decide) ?_
  refine rn_goto rfl rfl ?_
  exact u_207_153 d hd k89 K89 v0 v1 v2 s0 s1 (nI 1) h _ hb
def b_207_99 (k89 : Option Nat → Int32 → Int32 → Hp → Option (Int32 × Hp)) (v0 : Option Nat) (v1 : Int32) (v2 : Int32)  (h : Hp) : Option (Int32 × Hp) :=
  (gQ 11 15 v0 h).bind fun x1 =>
  (gQ 11 1 v0 h).bind fun x2 =>
  (gI 11 6 v0 h).bind fun x3 =>
  (aI 12 x2 (x3 + v2) h).bind fun x4 =>
  if ¬ x4 = (nI 119) then b_207_132 k89 v0 v1 v2 x1 (((nI 10) + ((nI 10) * v1)) + v2) h else b_207_128 k89 v0 v1 v2 x1 (((nI 10) + ((nI 10) * v1)) + v2) h
theorem u_207_99 (d : Nat) (hd : 2 ≤ d) (k89 : Option Nat → Int32 → Int32 → Hp → Option (Int32 × Hp)) (K89 : ∀ (v0 : Option Nat) (v1 : Int32) (v2 : Int32) (h : Hp) (r : Int32 × Hp), k89 v0 v1 v2 h = some r → Rn d 207 89 [some (va_rf v0), some (.int v1), some (.int v2)] [] h (some (.int r.1), r.2)) (v0 : Option Nat) (v1 : Int32) (v2 : Int32)  (h : Hp) (r : Int32 × Hp) (hb : b_207_99 k89 v0 v1 v2  h = some r) : Rn d 207 99 [some (va_rf v0), some (.int v1), some (.int v2)] [] h (some (.int r.1), r.2) := by
  unfold b_207_99 at hb
  refine rn_aload_n (i := 0) rfl rfl ?_
  refine rn_gQ (c := 11) (k := 15) rfl (by decide) hb (fun x1 hb => ?_)
  refine rn_bipush (x := (nI 10)) rfl (by decide) ?_
  refine rn_bipush (x := (nI 10)) rfl (by decide) ?_
  refine rn_iload_n (i := 1) rfl rfl ?_
  refine rn_imul rfl ?_
  refine rn_iadd rfl ?_
  refine rn_iload_n (i := 2) rfl rfl ?_
  refine rn_iadd rfl ?_
  refine rn_aload_n (i := 0) rfl rfl ?_
  refine rn_gQ (c := 11) (k := 1) rfl (by decide) hb (fun x2 hb => ?_)
  refine rn_aload_n (i := 0) rfl rfl ?_
  refine rn_gI (c := 11) (k := 6) rfl (by decide) hb (fun x3 hb => ?_)
  refine rn_iload_n (i := 2) rfl rfl ?_
  refine rn_iadd rfl ?_
  refine rn_aI rfl hb (fun x4 hb => ?_)
  refine rn_bipush (x := (nI 119)) rfl (by decide) ?_
  refine rn_icmp_ne rfl rfl (fun hc => ?_) (fun hc => ?_)
  · exact u_207_132 d hd k89 K89 v0 v1 v2 x1 (((nI 10) + ((nI 10) * v1)) + v2) h _ (if_t hb hc)
  · exact u_207_128 d hd k89 K89 v0 v1 v2 x1 (((nI 10) + ((nI 10) * v1)) + v2) h _ (if_f hb hc)
def b_207_89 (k89 : Option Nat → Int32 → Int32 → Hp → Option (Int32 × Hp)) (v0 : Option Nat) (v1 : Int32) (v2 : Int32)  (h : Hp) : Option (Int32 × Hp) :=
  (gQ 11 15 v0 h).bind fun x1 =>
  (aI 12 x1 (nI 0) h).bind fun x2 =>
  if x2 ≤ v2 then b_207_160 v0  h else b_207_99 k89 v0 v1 v2  h
theorem u_207_89 (d : Nat) (hd : 2 ≤ d) (k89 : Option Nat → Int32 → Int32 → Hp → Option (Int32 × Hp)) (K89 : ∀ (v0 : Option Nat) (v1 : Int32) (v2 : Int32) (h : Hp) (r : Int32 × Hp), k89 v0 v1 v2 h = some r → Rn d 207 89 [some (va_rf v0), some (.int v1), some (.int v2)] [] h (some (.int r.1), r.2)) (v0 : Option Nat) (v1 : Int32) (v2 : Int32)  (h : Hp) (r : Int32 × Hp) (hb : b_207_89 k89 v0 v1 v2  h = some r) : Rn d 207 89 [some (va_rf v0), some (.int v1), some (.int v2)] [] h (some (.int r.1), r.2) := by
  unfold b_207_89 at hb
  refine rn_iload_n (i := 2) rfl rfl ?_
  refine rn_aload_n (i := 0) rfl rfl ?_
  refine rn_gQ (c := 11) (k := 15) rfl (by decide) hb (fun x1 hb => ?_)
  refine rn_iconst (x := (nI 0)) rfl (by decide) ?_
  refine rn_aI rfl hb (fun x2 hb => ?_)
  refine rn_icmp_ge rfl rfl (fun hc => ?_) (fun hc => ?_)
  · exact u_207_160 d hd v0 v1 v2  h _ (if_t hb hc)
  · exact u_207_99 d hd k89 K89 v0 v1 v2  h _ (if_f hb hc)
def l_207_89 : Nat → Option Nat → Int32 → Int32 → Hp → Option (Int32 × Hp)
  | 0, _, _, _, _ => none
  | n + 1, v0, v1, v2, h => b_207_89 (l_207_89 n) v0 v1 v2 h
theorem w_207_89 (d : Nat) (hd : 2 ≤ d) : ∀ (n : Nat) (v0 : Option Nat) (v1 : Int32) (v2 : Int32) (h : Hp) (r : Int32 × Hp), l_207_89 n v0 v1 v2 h = some r → Rn d 207 89 [some (va_rf v0), some (.int v1), some (.int v2)] [] h (some (.int r.1), r.2) := by
  intro n
  induction n with
  | zero => intro v0 v1 v2 h r hb; cases hb
  | succ n ih => intro v0 v1 v2 h r hb; exact u_207_89 d hd (l_207_89 n) ih v0 v1 v2 h r hb
def b_207_72 (v0 : Option Nat) (v1 : Int32)  (h : Hp) : Option (Int32 × Hp) :=
  (gQ 11 15 v0 h).bind fun x1 =>
  (gI 11 5 v0 h).bind fun x2 =>
  (gI 11 6 v0 h).bind fun x3 =>
  (wI x1 (nI 0) (x2 - x3) h).bind fun h4 =>
  bnd ((nI 0)) fun x5 =>
  l_207_89 FU v0 v1 x5 h4
theorem u_207_72 (d : Nat) (hd : 2 ≤ d) (v0 : Option Nat) (v1 : Int32)  (h : Hp) (r : Int32 × Hp) (hb : b_207_72 v0 v1  h = some r) : Rn d 207 72 [some (va_rf v0), some (.int v1), none] [] h (some (.int r.1), r.2) := by
  unfold b_207_72 at hb
  refine rn_aload_n (i := 0) rfl rfl ?_
  refine rn_gQ (c := 11) (k := 15) rfl (by decide) hb (fun x1 hb => ?_)
  refine rn_iconst (x := (nI 0)) rfl (by decide) ?_
  refine rn_aload_n (i := 0) rfl rfl ?_
  refine rn_gI (c := 11) (k := 5) rfl (by decide) hb (fun x2 hb => ?_)
  refine rn_aload_n (i := 0) rfl rfl ?_
  refine rn_gI (c := 11) (k := 6) rfl (by decide) hb (fun x3 hb => ?_)
  refine rn_isub rfl ?_
  refine rn_wI rfl hb (fun h4 hb => ?_)
  refine rn_iconst (x := (nI 0)) rfl (by decide) ?_
  obtain ⟨x5, ex5, hb⟩ := bnd_spec hb
  refine rn_istore_n (i := 2) (L1 := [some (va_rf v0), some (.int v1), some (.int x5)]) rfl (Nat.le_of_ble_eq_true rfl) (Or.inr rfl) (by rw [ex5]; rfl) ?_
  exact w_207_89 d hd FU v0 v1 x5 h4 _ hb
def b_207_48 (v0 : Option Nat) (v1 : Int32)  (h : Hp) : Option (Int32 × Hp) :=
  (gI 11 5 v0 h).bind fun x1 =>
  (gI 11 6 v0 h).bind fun x2 =>
  (gQ 11 15 v0 h).bind fun x3 =>
  (aI 12 x3 (nI 0) h).bind fun x4 =>
  if (x1 - x2) = x4 then b_207_72 v0 v1  h else b_207_66 v0  h
theorem u_207_48 (d : Nat) (hd : 2 ≤ d) (v0 : Option Nat) (v1 : Int32)  (h : Hp) (r : Int32 × Hp) (hb : b_207_48 v0 v1  h = some r) : Rn d 207 48 [some (va_rf v0), some (.int v1), none] [] h (some (.int r.1), r.2) := by
  unfold b_207_48 at hb
  refine rn_aload_n (i := 0) rfl rfl ?_
  refine rn_gI (c := 11) (k := 5) rfl (by decide) hb (fun x1 hb => ?_)
  refine rn_aload_n (i := 0) rfl rfl ?_
  refine rn_gI (c := 11) (k := 6) rfl (by decide) hb (fun x2 hb => ?_)
  refine rn_isub rfl ?_
  refine rn_aload_n (i := 0) rfl rfl ?_
  refine rn_gQ (c := 11) (k := 15) rfl (by decide) hb (fun x3 hb => ?_)
  refine rn_iconst (x := (nI 0)) rfl (by decide) ?_
  refine rn_aI rfl hb (fun x4 hb => ?_)
  refine rn_icmp_eq rfl rfl (fun hc => ?_) (fun hc => ?_)
  · exact u_207_72 d hd v0 v1  h _ (if_t hb hc)
  · exact u_207_66 d hd v0 v1  h _ (if_f hb hc)
def b_207_44 (v0 : Option Nat) (v1 : Int32)  (h : Hp) : Option (Int32 × Hp) :=
  if v1 ≤ 0 then b_207_72 v0 v1  h else b_207_48 v0 v1  h
theorem u_207_44 (d : Nat) (hd : 2 ≤ d) (v0 : Option Nat) (v1 : Int32)  (h : Hp) (r : Int32 × Hp) (hb : b_207_44 v0 v1  h = some r) : Rn d 207 44 [some (va_rf v0), some (.int v1), none] [] h (some (.int r.1), r.2) := by
  unfold b_207_44 at hb
  refine rn_iload_n (i := 1) rfl rfl ?_
  refine rn_if_le rfl rfl (fun hc => ?_) (fun hc => ?_)
  · exact u_207_72 d hd v0 v1  h _ (if_t hb hc)
  · exact u_207_48 d hd v0 v1  h _ (if_f hb hc)
def b_207_37 (v0 : Option Nat) (v1 : Int32)  (h : Hp) : Option (Int32 × Hp) :=
  (grd (rC 11 v0 h)).bind fun _ =>
  (f_196 v0 h).bind fun p1 =>
  if p1.1 = 0 then b_207_66 v0  p1.2 else b_207_44 v0 v1  p1.2
theorem u_207_37 (d : Nat) (hd : 2 ≤ d) (v0 : Option Nat) (v1 : Int32)  (h : Hp) (r : Int32 × Hp) (hb : b_207_37 v0 v1  h = some r) : Rn d 207 37 [some (va_rf v0), some (.int v1), none] [] h (some (.int r.1), r.2) := by
  unfold b_207_37 at hb
  obtain ⟨e, rfl⟩ : ∃ e, d = e + 1 := ⟨d - 1, by omega⟩
  refine rn_aload_n (i := 0) rfl rfl ?_
  obtain ⟨hrc, hb⟩ := grd_spec hb
  obtain ⟨p1, hc, hb⟩ := Option.bind_eq_some_iff.mp hb
  refine Rn.call1 (d := e) (As := [va_rf v0]) (rest := []) rfl rfl rfl (by decide) rfl rfl rfl (bd_rcV hrc rfl) (by decide) (bd_lenC (n := 2) rfl (bd_slR bd_slN) rfl) (bd_locC (n := 2) rfl (bd_slR bd_slN) rfl (t_196 e (by omega) v0 h _ hc)) ?_
  refine rn_if_eq rfl rfl (fun hc => ?_) (fun hc => ?_)
  · exact u_207_66 (e + 1) hd v0 v1  p1.2 _ (if_t hb hc)
  · exact u_207_44 (e + 1) hd v0 v1  p1.2 _ (if_f hb hc)
def b_207_31 (v0 : Option Nat)  (h : Hp) : Option (Int32 × Hp) :=
  (grd (rC 11 v0 h)).bind fun _ =>
  (f_198 v0 (nI 1) h).bind fun p1 =>
  (grd (decide (p1.1 = 0 ∨ p1.1 = 1))).bind fun _ => some (p1.1, p1.2)
theorem u_207_31 (d : Nat) (hd : 2 ≤ d) (v0 : Option Nat) (v1 : Int32)  (h : Hp) (r : Int32 × Hp) (hb : b_207_31 v0  h = some r) : Rn d 207 31 [some (va_rf v0), some (.int v1), none] [] h (some (.int r.1), r.2) := by
  unfold b_207_31 at hb
  obtain ⟨e, rfl⟩ : ∃ e, d = e + 1 := ⟨d - 1, by omega⟩
  refine rn_aload_n (i := 0) rfl rfl ?_
  refine rn_iconst (x := (nI 1)) rfl (by decide) ?_
  obtain ⟨hrc, hb⟩ := grd_spec hb
  obtain ⟨p1, hc, hb⟩ := Option.bind_eq_some_iff.mp hb
  refine Rn.call1 (d := e) (As := [va_rf v0, .int (nI 1)]) (rest := []) rfl rfl rfl (by decide) rfl rfl rfl (bd_rcV hrc rfl) (by decide) (bd_lenC (n := 2) rfl (bd_slR (bd_slI bd_slN)) rfl) (bd_locC (n := 2) rfl (bd_slR (bd_slI bd_slN)) rfl (t_198 e (by omega) v0 (nI 1) h _ hc)) ?_
  obtain ⟨hz, hb⟩ := grd_spec hb
  obtain rfl := Option.some.inj hb
  exact rn_zret rfl rfl (of_decide_eq_true hz)
def b_207_19 (v0 : Option Nat) (v1 : Int32)  (h : Hp) : Option (Int32 × Hp) :=
  (grd (rC 11 v0 h)).bind fun _ =>
  (f_189 v0 h).bind fun p1 =>
  (gI 11 7 v0 p1).bind fun x2 =>
  if x2 = (nI 2) then b_207_37 v0 v1  p1 else b_207_31 v0  p1
theorem u_207_19 (d : Nat) (hd : 2 ≤ d) (v0 : Option Nat) (v1 : Int32)  (h : Hp) (r : Int32 × Hp) (hb : b_207_19 v0 v1  h = some r) : Rn d 207 19 [some (va_rf v0), some (.int v1), none] [] h (some (.int r.1), r.2) := by
  unfold b_207_19 at hb
  obtain ⟨e, rfl⟩ : ∃ e, d = e + 1 := ⟨d - 1, by omega⟩
  refine rn_aload_n (i := 0) rfl rfl ?_
  obtain ⟨hrc, hb⟩ := grd_spec hb
  obtain ⟨p1, hc, hb⟩ := Option.bind_eq_some_iff.mp hb
  refine Rn.call0 (d := e) (As := [va_rf v0]) (rest := []) rfl rfl rfl (by decide) rfl rfl rfl (bd_rcV hrc rfl) (by decide) (bd_lenC (n := 5) rfl (bd_slR bd_slN) rfl) (bd_locC (n := 5) rfl (bd_slR bd_slN) rfl (t_189 e (by omega) v0 h _ hc)) ?_
  refine rn_aload_n (i := 0) rfl rfl ?_
  refine rn_gI (c := 11) (k := 7) rfl (by decide) hb (fun x2 hb => ?_)
  refine rn_iconst (x := (nI 2)) rfl (by decide) ?_
  refine rn_icmp_eq rfl rfl (fun hc => ?_) (fun hc => ?_)
  · exact u_207_37 (e + 1) hd v0 v1  p1 _ (if_t hb hc)
  · exact u_207_31 (e + 1) hd v0 v1  p1 _ (if_f hb hc)
def b_207_13 (v0 : Option Nat)  (h : Hp) : Option (Int32 × Hp) :=
  (grd (rC 11 v0 h)).bind fun _ =>
  (f_198 v0 (nI 4) h).bind fun p1 =>
  (grd (decide (p1.1 = 0 ∨ p1.1 = 1))).bind fun _ => some (p1.1, p1.2)
theorem u_207_13 (d : Nat) (hd : 2 ≤ d) (v0 : Option Nat) (v1 : Int32)  (h : Hp) (r : Int32 × Hp) (hb : b_207_13 v0  h = some r) : Rn d 207 13 [some (va_rf v0), some (.int v1), none] [] h (some (.int r.1), r.2) := by
  unfold b_207_13 at hb
  obtain ⟨e, rfl⟩ : ∃ e, d = e + 1 := ⟨d - 1, by omega⟩
  refine rn_aload_n (i := 0) rfl rfl ?_
  refine rn_iconst (x := (nI 4)) rfl (by decide) ?_
  obtain ⟨hrc, hb⟩ := grd_spec hb
  obtain ⟨p1, hc, hb⟩ := Option.bind_eq_some_iff.mp hb
  refine Rn.call1 (d := e) (As := [va_rf v0, .int (nI 4)]) (rest := []) rfl rfl rfl (by decide) rfl rfl rfl (bd_rcV hrc rfl) (by decide) (bd_lenC (n := 2) rfl (bd_slR (bd_slI bd_slN)) rfl) (bd_locC (n := 2) rfl (bd_slR (bd_slI bd_slN)) rfl (t_198 e (by omega) v0 (nI 4) h _ hc)) ?_
  obtain ⟨hz, hb⟩ := grd_spec hb
  obtain rfl := Option.some.inj hb
  exact rn_zret rfl rfl (of_decide_eq_true hz)
def b_207_0 (v0 : Option Nat)  (h : Hp) : Option (Int32 × Hp) :=
  (gQ 11 15 v0 h).bind fun x1 =>
  (aI 12 x1 (nI 1) h).bind fun x2 =>
  if ¬ x2 = (nI 10) then b_207_19 v0 x2  h else b_207_13 v0  h
theorem u_207_0 (d : Nat) (hd : 2 ≤ d) (v0 : Option Nat)  (h : Hp) (r : Int32 × Hp) (hb : b_207_0 v0  h = some r) : Rn d 207 0 [some (va_rf v0), none, none] [] h (some (.int r.1), r.2) := by
  unfold b_207_0 at hb
  refine rn_aload_n (i := 0) rfl rfl ?_
  refine rn_gQ (c := 11) (k := 15) rfl (by decide) hb (fun x1 hb => ?_)
  refine rn_iconst (x := (nI 1)) rfl (by decide) ?_
  refine rn_aI rfl hb (fun x2 hb => ?_)
  refine rn_istore_n (i := 1) (L1 := [some (va_rf v0), some (.int x2), none]) rfl (Nat.le_of_ble_eq_true rfl) (Or.inr (bd_wideR rfl)) rfl ?_
  refine rn_iload_n (i := 1) rfl rfl ?_
  refine rn_bipush (x := (nI 10)) rfl (by decide) ?_
  refine rn_icmp_ne rfl rfl (fun hc => ?_) (fun hc => ?_)
  · exact u_207_19 d hd v0 x2  h _ (if_t hb hc)
  · exact u_207_13 d hd v0 x2  h _ (if_f hb hc)
/-- BitingDoorsModel.readRow()Z -/
def f_207 (v0 : Option Nat) (h : Hp) : Option (Int32 × Hp) := b_207_0 v0 h
theorem t_207 (d : Nat) (hd : 2 ≤ d) (v0 : Option Nat) (h : Hp) (r : Int32 × Hp) (hb : f_207 v0 h = some r) : Rn d 207 0 [some (va_rf v0), none, none] [] h (some (.int r.1), r.2) := by
  unfold f_207 at hb
  exact u_207_0 d hd v0 h r hb
def b_208_34   (h : Hp) : Option (Int32 × Hp) :=
  some ((-1 : Int32), h)
theorem u_208_34 (d : Nat) (hd : 0 ≤ d) (v0 : Option Nat) (v1 : Int32)  (h : Hp) (r : Int32 × Hp) (hb : b_208_34   h = some r) : Rn d 208 34 [some (va_rf v0), some (.int v1)] [] h (some (.int r.1), r.2) := by
  unfold b_208_34 at hb
  refine rn_iconst (x := (-1 : Int32)) rfl (by decide) ?_
  obtain rfl := Option.some.inj hb
  exact rn_iret rfl rfl
def b_208_28 (k2 : Option Nat → Int32 → Hp → Option (Int32 × Hp)) (v0 : Option Nat) (v1 : Int32)  (h : Hp) : Option (Int32 × Hp) :=
  bnd (v1 + (nI 1)) fun x1 =>
  k2 v0 x1 h
theorem u_208_28 (d : Nat) (hd : 0 ≤ d) (k2 : Option Nat → Int32 → Hp → Option (Int32 × Hp)) (K2 : ∀ (v0 : Option Nat) (v1 : Int32) (h : Hp) (r : Int32 × Hp), k2 v0 v1 h = some r → Rn d 208 2 [some (va_rf v0), some (.int v1)] [] h (some (.int r.1), r.2)) (v0 : Option Nat) (v1 : Int32)  (h : Hp) (r : Int32 × Hp) (hb : b_208_28 k2 v0 v1  h = some r) : Rn d 208 28 [some (va_rf v0), some (.int v1)] [] h (some (.int r.1), r.2) := by
  unfold b_208_28 at hb
  obtain ⟨x1, ex1, hb⟩ := bnd_spec hb
  refine rn_iinc (i := 1) (y := x1) (L1 := [some (va_rf v0), some (.int x1)]) rfl rfl (Nat.le_of_ble_eq_true rfl) (Or.inr (bd_wideR rfl)) (by rw [ex1]; rfl) rfl ?_
  refine rn_goto rfl rfl ?_
  exact K2 v0 x1 h _ hb
def b_208_26 (v1 : Int32)  (h : Hp) : Option (Int32 × Hp) :=
  some (v1, h)
theorem u_208_26 (d : Nat) (hd : 0 ≤ d) (v0 : Option Nat) (v1 : Int32)  (h : Hp) (r : Int32 × Hp) (hb : b_208_26 v1  h = some r) : Rn d 208 26 [some (va_rf v0), some (.int v1)] [] h (some (.int r.1), r.2) := by
  unfold b_208_26 at hb
  refine rn_iload_n (i := 1) rfl rfl ?_
  obtain rfl := Option.some.inj hb
  exact rn_iret rfl rfl
def b_208_12 (k2 : Option Nat → Int32 → Hp → Option (Int32 × Hp)) (v0 : Option Nat) (v1 : Int32)  (h : Hp) : Option (Int32 × Hp) :=
  (gQ 11 19 v0 h).bind fun x1 =>
  (aJ x1 v1 h).bind fun x2 =>
  (gJ 11 12 v0 h).bind fun x3 =>
  if ¬ (lg_cmp x2 x3) = 0 then b_208_28 k2 v0 v1  h else b_208_26 v1  h
theorem u_208_12 (d : Nat) (hd : 0 ≤ d) (k2 : Option Nat → Int32 → Hp → Option (Int32 × Hp)) (K2 : ∀ (v0 : Option Nat) (v1 : Int32) (h : Hp) (r : Int32 × Hp), k2 v0 v1 h = some r → Rn d 208 2 [some (va_rf v0), some (.int v1)] [] h (some (.int r.1), r.2)) (v0 : Option Nat) (v1 : Int32)  (h : Hp) (r : Int32 × Hp) (hb : b_208_12 k2 v0 v1  h = some r) : Rn d 208 12 [some (va_rf v0), some (.int v1)] [] h (some (.int r.1), r.2) := by
  unfold b_208_12 at hb
  refine rn_aload_n (i := 0) rfl rfl ?_
  refine rn_gQ (c := 11) (k := 19) rfl (by decide) hb (fun x1 hb => ?_)
  refine rn_iload_n (i := 1) rfl rfl ?_
  refine rn_aJ rfl hb (fun x2 hb => ?_)
  refine rn_aload_n (i := 0) rfl rfl ?_
  refine rn_gJ (c := 11) (k := 12) rfl (by decide) hb (fun x3 hb => ?_)
  refine rn_lcmp rfl ?_
  refine rn_if_ne rfl rfl (fun hc => ?_) (fun hc => ?_)
  · exact u_208_28 d hd k2 K2 v0 v1  h _ (if_t hb hc)
  · exact u_208_26 d hd v0 v1  h _ (if_f hb hc)
def b_208_2 (k2 : Option Nat → Int32 → Hp → Option (Int32 × Hp)) (v0 : Option Nat) (v1 : Int32)  (h : Hp) : Option (Int32 × Hp) :=
  (gQ 11 15 v0 h).bind fun x1 =>
  (aI 12 x1 (nI 2) h).bind fun x2 =>
  if x2 ≤ v1 then b_208_34   h else b_208_12 k2 v0 v1  h
theorem u_208_2 (d : Nat) (hd : 0 ≤ d) (k2 : Option Nat → Int32 → Hp → Option (Int32 × Hp)) (K2 : ∀ (v0 : Option Nat) (v1 : Int32) (h : Hp) (r : Int32 × Hp), k2 v0 v1 h = some r → Rn d 208 2 [some (va_rf v0), some (.int v1)] [] h (some (.int r.1), r.2)) (v0 : Option Nat) (v1 : Int32)  (h : Hp) (r : Int32 × Hp) (hb : b_208_2 k2 v0 v1  h = some r) : Rn d 208 2 [some (va_rf v0), some (.int v1)] [] h (some (.int r.1), r.2) := by
  unfold b_208_2 at hb
  refine rn_iload_n (i := 1) rfl rfl ?_
  refine rn_aload_n (i := 0) rfl rfl ?_
  refine rn_gQ (c := 11) (k := 15) rfl (by decide) hb (fun x1 hb => ?_)
  refine rn_iconst (x := (nI 2)) rfl (by decide) ?_
  refine rn_aI rfl hb (fun x2 hb => ?_)
  refine rn_icmp_ge rfl rfl (fun hc => ?_) (fun hc => ?_)
  · exact u_208_34 d hd v0 v1  h _ (if_t hb hc)
  · exact u_208_12 d hd k2 K2 v0 v1  h _ (if_f hb hc)
def l_208_2 : Nat → Option Nat → Int32 → Hp → Option (Int32 × Hp)
  | 0, _, _, _ => none
  | n + 1, v0, v1, h => b_208_2 (l_208_2 n) v0 v1 h
theorem w_208_2 (d : Nat) (hd : 0 ≤ d) : ∀ (n : Nat) (v0 : Option Nat) (v1 : Int32) (h : Hp) (r : Int32 × Hp), l_208_2 n v0 v1 h = some r → Rn d 208 2 [some (va_rf v0), some (.int v1)] [] h (some (.int r.1), r.2) := by
  intro n
  induction n with
  | zero => intro v0 v1 h r hb; cases hb
  | succ n ih => intro v0 v1 h r hb; exact u_208_2 d hd (l_208_2 n) ih v0 v1 h r hb
def b_208_0 (v0 : Option Nat)  (h : Hp) : Option (Int32 × Hp) :=
  bnd ((nI 0)) fun x1 =>
  l_208_2 FU v0 x1 h
theorem u_208_0 (d : Nat) (hd : 0 ≤ d) (v0 : Option Nat)  (h : Hp) (r : Int32 × Hp) (hb : b_208_0 v0  h = some r) : Rn d 208 0 [some (va_rf v0), none] [] h (some (.int r.1), r.2) := by
  unfold b_208_0 at hb
  refine rn_iconst (x := (nI 0)) rfl (by decide) ?_
  obtain ⟨x1, ex1, hb⟩ := bnd_spec hb
  refine rn_istore_n (i := 1) (L1 := [some (va_rf v0), some (.int x1)]) rfl (Nat.le_of_ble_eq_true rfl) (Or.inr (bd_wideR rfl)) (by rw [ex1]; rfl) ?_
  exact w_208_2 d hd FU v0 x1 h _ hb
/-- BitingDoorsModel.findRead()I -/
def f_208 (v0 : Option Nat) (h : Hp) : Option (Int32 × Hp) := b_208_0 v0 h
theorem t_208 (d : Nat) (hd : 0 ≤ d) (v0 : Option Nat) (h : Hp) (r : Int32 × Hp) (hb : f_208 v0 h = some r) : Rn d 208 0 [some (va_rf v0), none] [] h (some (.int r.1), r.2) := by
  unfold f_208 at hb
  exact u_208_0 d hd v0 h r hb
def b_209_115 (v5 : Int32)  (h : Hp) : Option (Int32 × Hp) :=
  some (v5, h)
theorem u_209_115 (d : Nat) (hd : 0 ≤ d) (v0 : Option Nat) (v1 : Int32) (v2 : Int32) (v3 : Int32) (v4 : Int32) (v5 : Int32) (v6 : Int32) (v7 : Option (Int32)) (v8 : Option (Int32))  (h : Hp) (r : Int32 × Hp) (hb : b_209_115 v5  h = some r) : Rn d 209 115 [some (va_rf v0), some (.int v1), some (.int v2), some (.int v3), some (.int v4), some (.int v5), some (.int v6), v7.map Value.int, v8.map Value.int] [] h (some (.int r.1), r.2) := by
  unfold b_209_115 at hb
  refine rn_iload (i := 5) rfl rfl ?_
  obtain rfl := Option.some.inj hb
  exact rn_iret rfl rfl
def b_209_84   (h : Hp) : Option (Int32 × Hp) :=
  some ((nI 2), h)
theorem u_209_84 (d : Nat) (hd : 0 ≤ d) (v0 : Option Nat) (v1 : Int32) (v2 : Int32) (v3 : Int32) (v4 : Int32) (v5 : Int32) (v6 : Int32) (v7 : Int32) (v8 : Int32)  (h : Hp) (r : Int32 × Hp) (hb : b_209_84   h = some r) : Rn d 209 84 [some (va_rf v0), some (.int v1), some (.int v2), some (.int v3), some (.int v4), some (.int v5), some (.int v6), some (.int v7), some (.int v8)] [] h (some (.int r.1), r.2) := by
  unfold b_209_84 at hb
  refine rn_iconst (x := (nI 2)) rfl (by decide) ?_
  obtain rfl := Option.some.inj hb
  exact rn_iret rfl rfl
def b_209_109 (k6 : Option Nat → Int32 → Int32 → Int32 → Int32 → Int32 → Int32 → Hp → Option (Int32 × Hp)) (v0 : Option Nat) (v1 : Int32) (v2 : Int32) (v3 : Int32) (v4 : Int32) (v5 : Int32) (v6 : Int32)  (h : Hp) : Option (Int32 × Hp) :=
  bnd (v6 + (nI 1)) fun x1 =>
  k6 v0 v1 v2 v3 v4 v5 x1 h
theorem u_209_109 (d : Nat) (hd : 0 ≤ d) (k6 : Option Nat → Int32 → Int32 → Int32 → Int32 → Int32 → Int32 → Hp → Option (Int32 × Hp)) (K6 : ∀ (v0 : Option Nat) (v1 : Int32) (v2 : Int32) (v3 : Int32) (v4 : Int32) (v5 : Int32) (v6 : Int32) (v7 : Option (Int32)) (v8 : Option (Int32)) (h : Hp) (r : Int32 × Hp), k6 v0 v1 v2 v3 v4 v5 v6 h = some r → Rn d 209 6 [some (va_rf v0), some (.int v1), some (.int v2), some (.int v3), some (.int v4), some (.int v5), some (.int v6), v7.map Value.int, v8.map Value.int] [] h (some (.int r.1), r.2)) (v0 : Option Nat) (v1 : Int32) (v2 : Int32) (v3 : Int32) (v4 : Int32) (v5 : Int32) (v6 : Int32) (v7 : Int32) (v8 : Int32)  (h : Hp) (r : Int32 × Hp) (hb : b_209_109 k6 v0 v1 v2 v3 v4 v5 v6  h = some r) : Rn d 209 109 [some (va_rf v0), some (.int v1), some (.int v2), some (.int v3), some (.int v4), some (.int v5), some (.int v6), some (.int v7), some (.int v8)] [] h (some (.int r.1), r.2) := by
  unfold b_209_109 at hb
  obtain ⟨x1, ex1, hb⟩ := bnd_spec hb
  refine rn_iinc (i := 6) (y := x1) (L1 := [some (va_rf v0), some (.int v1), some (.int v2), some (.int v3), some (.int v4), some (.int v5), some (.int x1), some (.int v7), some (.int v8)]) rfl rfl (Nat.le_of_ble_eq_true rfl) (Or.inr rfl) (by rw [ex1]; rfl) rfl ?_
  refine rn_goto rfl rfl ?_
  exact K6 v0 v1 v2 v3 v4 v5 x1 (some v7) (some v8) h _ hb
def b_209_106 (k6 : Option Nat → Int32 → Int32 → Int32 → Int32 → Int32 → Int32 → Hp → Option (Int32 × Hp)) (v0 : Option Nat) (v1 : Int32) (v2 : Int32) (v3 : Int32) (v4 : Int32) (v6 : Int32)  (h : Hp) : Option (Int32 × Hp) :=
  bnd ((nI 3)) fun x1 =>
  b_209_109 k6 v0 v1 v2 v3 v4 x1 v6  h
theorem u_209_106 (d : Nat) (hd : 0 ≤ d) (k6 : Option Nat → Int32 → Int32 → Int32 → Int32 → Int32 → Int32 → Hp → Option (Int32 × Hp)) (K6 : ∀ (v0 : Option Nat) (v1 : Int32) (v2 : Int32) (v3 : Int32) (v4 : Int32) (v5 : Int32) (v6 : Int32) (v7 : Option (Int32)) (v8 : Option (Int32)) (h : Hp) (r : Int32 × Hp), k6 v0 v1 v2 v3 v4 v5 v6 h = some r → Rn d 209 6 [some (va_rf v0), some (.int v1), some (.int v2), some (.int v3), some (.int v4), some (.int v5), some (.int v6), v7.map Value.int, v8.map Value.int] [] h (some (.int r.1), r.2)) (v0 : Option Nat) (v1 : Int32) (v2 : Int32) (v3 : Int32) (v4 : Int32) (v5 : Int32) (v6 : Int32) (v7 : Int32) (v8 : Int32)  (h : Hp) (r : Int32 × Hp) (hb : b_209_106 k6 v0 v1 v2 v3 v4 v6  h = some r) : Rn d 209 106 [some (va_rf v0), some (.int v1), some (.int v2), some (.int v3), some (.int v4), some (.int v5), some (.int v6), some (.int v7), some (.int v8)] [] h (some (.int r.1), r.2) := by
  unfold b_209_106 at hb
  refine rn_iconst (x := (nI 3)) rfl (by decide) ?_
  obtain ⟨x1, ex1, hb⟩ := bnd_spec hb
  refine rn_istore (i := 5) (L1 := [some (va_rf v0), some (.int v1), some (.int v2), some (.int v3), some (.int v4), some (.int x1), some (.int v6), some (.int v7), some (.int v8)]) rfl (Nat.le_of_ble_eq_true rfl) (Or.inr rfl) (by rw [ex1]; rfl) ?_
  exact u_209_109 d hd k6 K6 v0 v1 v2 v3 v4 x1 v6 v7 v8  h _ hb
def b_209_86 (k6 : Option Nat → Int32 → Int32 → Int32 → Int32 → Int32 → Int32 → Hp → Option (Int32 × Hp)) (v0 : Option Nat) (v1 : Int32) (v2 : Int32) (v3 : Int32) (v4 : Int32) (v5 : Int32) (v6 : Int32) (v7 : Int32) (v8 : Int32)  (h : Hp) : Option (Int32 × Hp) :=
  (gQ 11 15 v0 h).bind fun x1 =>
  (aI 12 x1 (((nI 210) + ((nI 10) * v8)) + v7) h).bind fun x2 =>
  if x2 ≤ 0 then b_209_109 k6 v0 v1 v2 v3 v4 v5 v6  h else b_209_106 k6 v0 v1 v2 v3 v4 v6  h
theorem u_209_86 (d : Nat) (hd : 0 ≤ d) (k6 : Option Nat → Int32 → Int32 → Int32 → Int32 → Int32 → Int32 → Hp → Option (Int32 × Hp)) (K6 : ∀ (v0 : Option Nat) (v1 : Int32) (v2 : Int32) (v3 : Int32) (v4 : Int32) (v5 : Int32) (v6 : Int32) (v7 : Option (Int32)) (v8 : Option (Int32)) (h : Hp) (r : Int32 × Hp), k6 v0 v1 v2 v3 v4 v5 v6 h = some r → Rn d 209 6 [some (va_rf v0), some (.int v1), some (.int v2), some (.int v3), some (.int v4), some (.int v5), some (.int v6), v7.map Value.int, v8.map Value.int] [] h (some (.int r.1), r.2)) (v0 : Option Nat) (v1 : Int32) (v2 : Int32) (v3 : Int32) (v4 : Int32) (v5 : Int32) (v6 : Int32) (v7 : Int32) (v8 : Int32)  (h : Hp) (r : Int32 × Hp) (hb : b_209_86 k6 v0 v1 v2 v3 v4 v5 v6 v7 v8  h = some r) : Rn d 209 86 [some (va_rf v0), some (.int v1), some (.int v2), some (.int v3), some (.int v4), some (.int v5), some (.int v6), some (.int v7), some (.int v8)] [] h (some (.int r.1), r.2) := by
  unfold b_209_86 at hb
  refine rn_aload_n (i := 0) rfl rfl ?_
  refine rn_gQ (c := 11) (k := 15) rfl (by decide) hb (fun x1 hb => ?_)
  refine rn_sipush (x := (nI 210)) rfl (by decide) ?_
  refine rn_bipush (x := (nI 10)) rfl (by decide) ?_
  refine rn_iload (i := 8) rfl rfl ?_
  refine rn_imul rfl ?_
  refine rn_iadd rfl ?_
  refine rn_iload (i := 7) rfl rfl ?_
  refine rn_iadd rfl ?_
  refine rn_aI rfl hb (fun x2 hb => ?_)
  refine rn_if_le rfl rfl (fun hc => ?_) (fun hc => ?_)
  · exact u_209_109 d hd k6 K6 v0 v1 v2 v3 v4 v5 v6 v7 v8  h _ (if_t hb hc)
  · exact u_209_106 d hd k6 K6 v0 v1 v2 v3 v4 v5 v6 v7 v8  h _ (if_f hb hc)
def b_209_64 (k6 : Option Nat → Int32 → Int32 → Int32 → Int32 → Int32 → Int32 → Hp → Option (Int32 × Hp)) (v0 : Option Nat) (v1 : Int32) (v2 : Int32) (v3 : Int32) (v4 : Int32) (v5 : Int32) (v6 : Int32) (v7 : Int32) (v8 : Int32)  (h : Hp) : Option (Int32 × Hp) :=
  (gQ 11 15 v0 h).bind fun x1 =>
  (aI 12 x1 (((nI 10) + ((nI 10) * v8)) + v7) h).bind fun x2 =>
  if x2 = (nI 1) then b_209_86 k6 v0 v1 v2 v3 v4 v5 v6 v7 v8  h else b_209_84   h
theorem u_209_64 (d : Nat) (hd : 0 ≤ d) (k6 : Option Nat → Int32 → Int32 → Int32 → Int32 → Int32 → Int32 → Hp → Option (Int32 × Hp)) (K6 : ∀ (v0 : Option Nat) (v1 : Int32) (v2 : Int32) (v3 : Int32) (v4 : Int32) (v5 : Int32) (v6 : Int32) (v7 : Option (Int32)) (v8 : Option (Int32)) (h : Hp) (r : Int32 × Hp), k6 v0 v1 v2 v3 v4 v5 v6 h = some r → Rn d 209 6 [some (va_rf v0), some (.int v1), some (.int v2), some (.int v3), some (.int v4), some (.int v5), some (.int v6), v7.map Value.int, v8.map Value.int] [] h (some (.int r.1), r.2)) (v0 : Option Nat) (v1 : Int32) (v2 : Int32) (v3 : Int32) (v4 : Int32) (v5 : Int32) (v6 : Int32) (v7 : Int32) (v8 : Int32)  (h : Hp) (r : Int32 × Hp) (hb : b_209_64 k6 v0 v1 v2 v3 v4 v5 v6 v7 v8  h = some r) : Rn d 209 64 [some (va_rf v0), some (.int v1), some (.int v2), some (.int v3), some (.int v4), some (.int v5), some (.int v6), some (.int v7), some (.int v8)] [] h (some (.int r.1), r.2) := by
  unfold b_209_64 at hb
  refine rn_aload_n (i := 0) rfl rfl ?_
  refine rn_gQ (c := 11) (k := 15) rfl (by decide) hb (fun x1 hb => ?_)
  refine rn_bipush (x := (nI 10)) rfl (by decide) ?_
  refine rn_bipush (x := (nI 10)) rfl (by decide) ?_
  refine rn_iload (i := 8) rfl rfl ?_
  refine rn_imul rfl ?_
  refine rn_iadd rfl ?_
  refine rn_iload (i := 7) rfl rfl ?_
  refine rn_iadd rfl ?_
  refine rn_aI rfl hb (fun x2 hb => ?_)
  refine rn_iconst (x := (nI 1)) rfl (by decide) ?_
  refine rn_icmp_eq rfl rfl (fun hc => ?_) (fun hc => ?_)
  · exact u_209_86 d hd k6 K6 v0 v1 v2 v3 v4 v5 v6 v7 v8  h _ (if_t hb hc)
  · exact u_209_84 d hd v0 v1 v2 v3 v4 v5 v6 v7 v8  h _ (if_f hb hc)
def b_209_53 (k6 : Option Nat → Int32 → Int32 → Int32 → Int32 → Int32 → Int32 → Hp → Option (Int32 × Hp)) (v0 : Option Nat) (v1 : Int32) (v2 : Int32) (v3 : Int32) (v4 : Int32) (v5 : Int32) (v6 : Int32) (v7 : Int32) (v8 : Int32)  (h : Hp) : Option (Int32 × Hp) :=
  (gQ 11 15 v0 h).bind fun x1 =>
  (aI 12 x1 (nI 1) h).bind fun x2 =>
  if x2 ≤ v8 then b_209_84   h else b_209_64 k6 v0 v1 v2 v3 v4 v5 v6 v7 v8  h
theorem u_209_53 (d : Nat) (hd : 0 ≤ d) (k6 : Option Nat → Int32 → Int32 → Int32 → Int32 → Int32 → Int32 → Hp → Option (Int32 × Hp)) (K6 : ∀ (v0 : Option Nat) (v1 : Int32) (v2 : Int32) (v3 : Int32) (v4 : Int32) (v5 : Int32) (v6 : Int32) (v7 : Option (Int32)) (v8 : Option (Int32)) (h : Hp) (r : Int32 × Hp), k6 v0 v1 v2 v3 v4 v5 v6 h = some r → Rn d 209 6 [some (va_rf v0), some (.int v1), some (.int v2), some (.int v3), some (.int v4), some (.int v5), some (.int v6), v7.map Value.int, v8.map Value.int] [] h (some (.int r.1), r.2)) (v0 : Option Nat) (v1 : Int32) (v2 : Int32) (v3 : Int32) (v4 : Int32) (v5 : Int32) (v6 : Int32) (v7 : Int32) (v8 : Int32)  (h : Hp) (r : Int32 × Hp) (hb : b_209_53 k6 v0 v1 v2 v3 v4 v5 v6 v7 v8  h = some r) : Rn d 209 53 [some (va_rf v0), some (.int v1), some (.int v2), some (.int v3), some (.int v4), some (.int v5), some (.int v6), some (.int v7), some (.int v8)] [] h (some (.int r.1), r.2) := by
  unfold b_209_53 at hb
  refine rn_iload (i := 8) rfl rfl ?_
  refine rn_aload_n (i := 0) rfl rfl ?_
  refine rn_gQ (c := 11) (k := 15) rfl (by decide) hb (fun x1 hb => ?_)
  refine rn_iconst (x := (nI 1)) rfl (by decide) ?_
  refine rn_aI rfl hb (fun x2 hb => ?_)
  refine rn_icmp_ge rfl rfl (fun hc => ?_) (fun hc => ?_)
  · exact u_209_84 d hd v0 v1 v2 v3 v4 v5 v6 v7 v8  h _ (if_t hb hc)
  · exact u_209_64 d hd k6 K6 v0 v1 v2 v3 v4 v5 v6 v7 v8  h _ (if_f hb hc)
def b_209_39 (k6 : Option Nat → Int32 → Int32 → Int32 → Int32 → Int32 → Int32 → Hp → Option (Int32 × Hp)) (v0 : Option Nat) (v1 : Int32) (v2 : Int32) (v3 : Int32) (v4 : Int32) (v5 : Int32) (v6 : Int32) (v7 : Int32) (s0 : Int32) (s1 : Int32) (h : Hp) : Option (Int32 × Hp) :=
  bnd ((s0 + s1)) fun x1 =>
  (gQ 11 15 v0 h).bind fun x2 =>
  (aI 12 x2 (nI 0) h).bind fun x3 =>
  if x3 ≤ v7 then b_209_84   h else b_209_53 k6 v0 v1 v2 v3 v4 v5 v6 v7 x1  h
theorem u_209_39 (d : Nat) (hd : 0 ≤ d) (k6 : Option Nat → Int32 → Int32 → Int32 → Int32 → Int32 → Int32 → Hp → Option (Int32 × Hp)) (K6 : ∀ (v0 : Option Nat) (v1 : Int32) (v2 : Int32) (v3 : Int32) (v4 : Int32) (v5 : Int32) (v6 : Int32) (v7 : Option (Int32)) (v8 : Option (Int32)) (h : Hp) (r : Int32 × Hp), k6 v0 v1 v2 v3 v4 v5 v6 h = some r → Rn d 209 6 [some (va_rf v0), some (.int v1), some (.int v2), some (.int v3), some (.int v4), some (.int v5), some (.int v6), v7.map Value.int, v8.map Value.int] [] h (some (.int r.1), r.2)) (v0 : Option Nat) (v1 : Int32) (v2 : Int32) (v3 : Int32) (v4 : Int32) (v5 : Int32) (v6 : Int32) (v7 : Int32) (v8 : Option (Int32)) (s0 : Int32) (s1 : Int32) (h : Hp) (r : Int32 × Hp) (hb : b_209_39 k6 v0 v1 v2 v3 v4 v5 v6 v7 s0 s1 h = some r) : Rn d 209 39 [some (va_rf v0), some (.int v1), some (.int v2), some (.int v3), some (.int v4), some (.int v5), some (.int v6), some (.int v7), v8.map Value.int] [.int s1, .int s0] h (some (.int r.1), r.2) := by
  unfold b_209_39 at hb
  refine rn_iadd rfl ?_
  obtain ⟨x1, ex1, hb⟩ := bnd_spec hb
  refine rn_istore (i := 8) (L1 := [some (va_rf v0), some (.int v1), some (.int v2), some (.int v3), some (.int v4), some (.int v5), some (.int v6), some (.int v7), some (.int x1)]) rfl (Nat.le_of_ble_eq_true rfl) (Or.inr rfl) (by rw [ex1]; rfl) ?_
  refine rn_iload (i := 7) rfl rfl ?_
  refine rn_aload_n (i := 0) rfl rfl ?_
  refine rn_gQ (c := 11) (k := 15) rfl (by decide) hb (fun x2 hb => ?_)
  refine rn_iconst (x := (nI 0)) rfl (by decide) ?_
  refine rn_aI rfl hb (fun x3 hb => ?_)
  refine rn_icmp_ge rfl rfl (fun hc => ?_) (fun hc => ?_)
  · exact u_209_84 d hd v0 v1 v2 v3 v4 v5 v6 v7 x1  h _ (if_t hb hc)
  · exact u_209_53 d hd k6 K6 v0 v1 v2 v3 v4 v5 v6 v7 x1  h _ (if_f hb hc)
def b_209_38 (k6 : Option Nat → Int32 → Int32 → Int32 → Int32 → Int32 → Int32 → Hp → Option (Int32 × Hp)) (v0 : Option Nat) (v1 : Int32) (v2 : Int32) (v3 : Int32) (v4 : Int32) (v5 : Int32) (v6 : Int32) (v7 : Int32) (s0 : Int32) (h : Hp) : Option (Int32 × Hp) :=
  b_209_39 k6 v0 v1 v2 v3 v4 v5 v6 v7 s0 (nI 0) h
theorem u_209_38 (d : Nat) (hd : 0 ≤ d) (k6 : Option Nat → Int32 → Int32 → Int32 → Int32 → Int32 → Int32 → Hp → Option (Int32 × Hp)) (K6 : ∀ (v0 : Option Nat) (v1 : Int32) (v2 : Int32) (v3 : Int32) (v4 : Int32) (v5 : Int32) (v6 : Int32) (v7 : Option (Int32)) (v8 : Option (Int32)) (h : Hp) (r : Int32 × Hp), k6 v0 v1 v2 v3 v4 v5 v6 h = some r → Rn d 209 6 [some (va_rf v0), some (.int v1), some (.int v2), some (.int v3), some (.int v4), some (.int v5), some (.int v6), v7.map Value.int, v8.map Value.int] [] h (some (.int r.1), r.2)) (v0 : Option Nat) (v1 : Int32) (v2 : Int32) (v3 : Int32) (v4 : Int32) (v5 : Int32) (v6 : Int32) (v7 : Int32) (v8 : Option (Int32)) (s0 : Int32) (h : Hp) (r : Int32 × Hp) (hb : b_209_38 k6 v0 v1 v2 v3 v4 v5 v6 v7 s0 h = some r) : Rn d 209 38 [some (va_rf v0), some (.int v1), some (.int v2), some (.int v3), some (.int v4), some (.int v5), some (.int v6), some (.int v7), v8.map Value.int] [.int s0] h (some (.int r.1), r.2) := by
  unfold b_209_38 at hb
  refine rn_iconst (x := (nI 0)) rfl (by decide) ?_
  exact u_209_39 d hd k6 K6 v0 v1 v2 v3 v4 v5 v6 v7 v8 s0 (nI 0) h _ hb
def b_209_33 (k6 : Option Nat → Int32 → Int32 → Int32 → Int32 → Int32 → Int32 → Hp → Option (Int32 × Hp)) (v0 : Option Nat) (v1 : Int32) (v2 : Int32) (v3 : Int32) (v4 : Int32) (v5 : Int32) (v6 : Int32) (v7 : Int32) (s0 : Int32) (h : Hp) : Option (Int32 × Hp) :=
  b_209_39 k6 v0 v1 v2 v3 v4 v5 v6 v7 s0 v6 h
theorem u_209_33 (d : Nat) (hd : 0 ≤ d) (k6 : Option Nat → Int32 → Int32 → Int32 → Int32 → Int32 → Int32 → Hp → Option (Int32 × Hp)) (K6 : ∀ (v0 : Option Nat) (v1 : Int32) (v2 : Int32) (v3 : Int32) (v4 : Int32) (v5 : Int32) (v6 : Int32) (v7 : Option (Int32)) (v8 : Option (Int32)) (h : Hp) (r : Int32 × Hp), k6 v0 v1 v2 v3 v4 v5 v6 h = some r → Rn d 209 6 [some (va_rf v0), some (.int v1), some (.int v2), some (.int v3), some (.int v4), some (.int v5), some (.int v6), v7.map Value.int, v8.map Value.int] [] h (some (.int r.1), r.2)) (v0 : Option Nat) (v1 : Int32) (v2 : Int32) (v3 : Int32) (v4 : Int32) (v5 : Int32) (v6 : Int32) (v7 : Int32) (v8 : Option (Int32)) (s0 : Int32) (h : Hp) (r : Int32 × Hp) (hb : b_209_33 k6 v0 v1 v2 v3 v4 v5 v6 v7 s0 h = some r) : Rn d 209 33 [some (va_rf v0), some (.int v1), some (.int v2), some (.int v3), some (.int v4), some (.int v5), some (.int v6), some (.int v7), v8.map Value.int] [.int s0] h (some (.int r.1), r.2) := by
  unfold b_209_33 at hb
  refine rn_iload (i := 6) rfl rfl ?_
  refine rn_goto rfl rfl ?_
  exact u_209_39 d hd k6 K6 v0 v1 v2 v3 v4 v5 v6 v7 v8 s0 v6 h _ hb
def b_209_24 (k6 : Option Nat → Int32 → Int32 → Int32 → Int32 → Int32 → Int32 → Hp → Option (Int32 × Hp)) (v0 : Option Nat) (v1 : Int32) (v2 : Int32) (v3 : Int32) (v4 : Int32) (v5 : Int32) (v6 : Int32) (s0 : Int32) (s1 : Int32) (h : Hp) : Option (Int32 × Hp) :=
  bnd ((s0 + s1)) fun x1 =>
  if ¬ v3 = (nI 1) then b_209_38 k6 v0 v1 v2 v3 v4 v5 v6 x1 v2 h else b_209_33 k6 v0 v1 v2 v3 v4 v5 v6 x1 v2 h
theorem u_209_24 (d : Nat) (hd : 0 ≤ d) (k6 : Option Nat → Int32 → Int32 → Int32 → Int32 → Int32 → Int32 → Hp → Option (Int32 × Hp)) (K6 : ∀ (v0 : Option Nat) (v1 : Int32) (v2 : Int32) (v3 : Int32) (v4 : Int32) (v5 : Int32) (v6 : Int32) (v7 : Option (Int32)) (v8 : Option (Int32)) (h : Hp) (r : Int32 × Hp), k6 v0 v1 v2 v3 v4 v5 v6 h = some r → Rn d 209 6 [some (va_rf v0), some (.int v1), some (.int v2), some (.int v3), some (.int v4), some (.int v5), some (.int v6), v7.map Value.int, v8.map Value.int] [] h (some (.int r.1), r.2)) (v0 : Option Nat) (v1 : Int32) (v2 : Int32) (v3 : Int32) (v4 : Int32) (v5 : Int32) (v6 : Int32) (v7 : Option (Int32)) (v8 : Option (Int32)) (s0 : Int32) (s1 : Int32) (h : Hp) (r : Int32 × Hp) (hb : b_209_24 k6 v0 v1 v2 v3 v4 v5 v6 s0 s1 h = some r) : Rn d 209 24 [some (va_rf v0), some (.int v1), some (.int v2), some (.int v3), some (.int v4), some (.int v5), some (.int v6), v7.map Value.int, v8.map Value.int] [.int s1, .int s0] h (some (.int r.1), r.2) := by
  unfold b_209_24 at hb
  refine rn_iadd rfl ?_
  obtain ⟨x1, ex1, hb⟩ := bnd_spec hb
  refine rn_istore (i := 7) (L1 := [some (va_rf v0), some (.int v1), some (.int v2), some (.int v3), some (.int v4), some (.int v5), some (.int v6), some (.int x1), v8.map Value.int]) rfl (Nat.le_of_ble_eq_true rfl) (Or.inr rfl) (by rw [ex1]; rfl) ?_
  refine rn_iload_n (i := 2) rfl rfl ?_
  refine rn_iload_n (i := 3) rfl rfl ?_
  refine rn_iconst (x := (nI 1)) rfl (by decide) ?_
  refine rn_icmp_ne rfl rfl (fun hc => ?_) (fun hc => ?_)
  · exact u_209_38 d hd k6 K6 v0 v1 v2 v3 v4 v5 v6 x1 v8 v2 h _ (if_t hb hc)
  · exact u_209_33 d hd k6 K6 v0 v1 v2 v3 v4 v5 v6 x1 v8 v2 h _ (if_f hb hc)
def b_209_23 (k6 : Option Nat → Int32 → Int32 → Int32 → Int32 → Int32 → Int32 → Hp → Option (Int32 × Hp)) (v0 : Option Nat) (v1 : Int32) (v2 : Int32) (v3 : Int32) (v4 : Int32) (v5 : Int32) (v6 : Int32) (s0 : Int32) (h : Hp) : Option (Int32 × Hp) :=
  b_209_24 k6 v0 v1 v2 v3 v4 v5 v6 s0 (nI 0) h
theorem u_209_23 (d : Nat) (hd : 0 ≤ d) (k6 : Option Nat → Int32 → Int32 → Int32 → Int32 → Int32 → Int32 → Hp → Option (Int32 × Hp)) (K6 : ∀ (v0 : Option Nat) (v1 : Int32) (v2 : Int32) (v3 : Int32) (v4 : Int32) (v5 : Int32) (v6 : Int32) (v7 : Option (Int32)) (v8 : Option (Int32)) (h : Hp) (r : Int32 × Hp), k6 v0 v1 v2 v3 v4 v5 v6 h = some r → Rn d 209 6 [some (va_rf v0), some (.int v1), some (.int v2), some (.int v3), some (.int v4), some (.int v5), some (.int v6), v7.map Value.int, v8.map Value.int] [] h (some (.int r.1), r.2)) (v0 : Option Nat) (v1 : Int32) (v2 : Int32) (v3 : Int32) (v4 : Int32) (v5 : Int32) (v6 : Int32) (v7 : Option (Int32)) (v8 : Option (Int32)) (s0 : Int32) (h : Hp) (r : Int32 × Hp) (hb : b_209_23 k6 v0 v1 v2 v3 v4 v5 v6 s0 h = some r) : Rn d 209 23 [some (va_rf v0), some (.int v1), some (.int v2), some (.int v3), some (.int v4), some (.int v5), some (.int v6), v7.map Value.int, v8.map Value.int] [.int s0] h (some (.int r.1), r.2) := by
  unfold b_209_23 at hb
  refine rn_iconst (x := (nI 0)) rfl (by decide) ?_
  exact u_209_24 d hd k6 K6 v0 v1 v2 v3 v4 v5 v6 v7 v8 s0 (nI 0) h _ hb
def b_209_18 (k6 : Option Nat → Int32 → Int32 → Int32 → Int32 → Int32 → Int32 → Hp → Option (Int32 × Hp)) (v0 : Option Nat) (v1 : Int32) (v2 : Int32) (v3 : Int32) (v4 : Int32) (v5 : Int32) (v6 : Int32) (s0 : Int32) (h : Hp) : Option (Int32 × Hp) :=
  b_209_24 k6 v0 v1 v2 v3 v4 v5 v6 s0 v6 h
theorem u_209_18 (d : Nat) (hd : 0 ≤ d) (k6 : Option Nat → Int32 → Int32 → Int32 → Int32 → Int32 → Int32 → Hp → Option (Int32 × Hp)) (K6 : ∀ (v0 : Option Nat) (v1 : Int32) (v2 : Int32) (v3 : Int32) (v4 : Int32) (v5 : Int32) (v6 : Int32) (v7 : Option (Int32)) (v8 : Option (Int32)) (h : Hp) (r : Int32 × Hp), k6 v0 v1 v2 v3 v4 v5 v6 h = some r → Rn d 209 6 [some (va_rf v0), some (.int v1), some (.int v2), some (.int v3), some (.int v4), some (.int v5), some (.int v6), v7.map Value.int, v8.map Value.int] [] h (some (.int r.1), r.2)) (v0 : Option Nat) (v1 : Int32) (v2 : Int32) (v3 : Int32) (v4 : Int32) (v5 : Int32) (v6 : Int32) (v7 : Option (Int32)) (v8 : Option (Int32)) (s0 : Int32) (h : Hp) (r : Int32 × Hp) (hb : b_209_18 k6 v0 v1 v2 v3 v4 v5 v6 s0 h = some r) : Rn d 209 18 [some (va_rf v0), some (.int v1), some (.int v2), some (.int v3), some (.int v4), some (.int v5), some (.int v6), v7.map Value.int, v8.map Value.int] [.int s0] h (some (.int r.1), r.2) := by
  unfold b_209_18 at hb
  refine rn_iload (i := 6) rfl rfl ?_
  refine rn_goto rfl rfl ?_
  exact u_209_24 d hd k6 K6 v0 v1 v2 v3 v4 v5 v6 v7 v8 s0 v6 h _ hb
def b_209_13 (k6 : Option Nat → Int32 → Int32 → Int32 → Int32 → Int32 → Int32 → Hp → Option (Int32 × Hp)) (v0 : Option Nat) (v1 : Int32) (v2 : Int32) (v3 : Int32) (v4 : Int32) (v5 : Int32) (v6 : Int32)  (h : Hp) : Option (Int32 × Hp) :=
  if ¬ v3 = 0 then b_209_23 k6 v0 v1 v2 v3 v4 v5 v6 v1 h else b_209_18 k6 v0 v1 v2 v3 v4 v5 v6 v1 h
theorem u_209_13 (d : Nat) (hd : 0 ≤ d) (k6 : Option Nat → Int32 → Int32 → Int32 → Int32 → Int32 → Int32 → Hp → Option (Int32 × Hp)) (K6 : ∀ (v0 : Option Nat) (v1 : Int32) (v2 : Int32) (v3 : Int32) (v4 : Int32) (v5 : Int32) (v6 : Int32) (v7 : Option (Int32)) (v8 : Option (Int32)) (h : Hp) (r : Int32 × Hp), k6 v0 v1 v2 v3 v4 v5 v6 h = some r → Rn d 209 6 [some (va_rf v0), some (.int v1), some (.int v2), some (.int v3), some (.int v4), some (.int v5), some (.int v6), v7.map Value.int, v8.map Value.int] [] h (some (.int r.1), r.2)) (v0 : Option Nat) (v1 : Int32) (v2 : Int32) (v3 : Int32) (v4 : Int32) (v5 : Int32) (v6 : Int32) (v7 : Option (Int32)) (v8 : Option (Int32))  (h : Hp) (r : Int32 × Hp) (hb : b_209_13 k6 v0 v1 v2 v3 v4 v5 v6  h = some r) : Rn d 209 13 [some (va_rf v0), some (.int v1), some (.int v2), some (.int v3), some (.int v4), some (.int v5), some (.int v6), v7.map Value.int, v8.map Value.int] [] h (some (.int r.1), r.2) := by
  unfold b_209_13 at hb
  refine rn_iload_n (i := 1) rfl rfl ?_
  refine rn_iload_n (i := 3) rfl rfl ?_
  refine rn_if_ne rfl rfl (fun hc => ?_) (fun hc => ?_)
  · exact u_209_23 d hd k6 K6 v0 v1 v2 v3 v4 v5 v6 v7 v8 v1 h _ (if_t hb hc)
  · exact u_209_18 d hd k6 K6 v0 v1 v2 v3 v4 v5 v6 v7 v8 v1 h _ (if_f hb hc)
def b_209_6 (k6 : Option Nat → Int32 → Int32 → Int32 → Int32 → Int32 → Int32 → Hp → Option (Int32 × Hp)) (v0 : Option Nat) (v1 : Int32) (v2 : Int32) (v3 : Int32) (v4 : Int32) (v5 : Int32) (v6 : Int32)  (h : Hp) : Option (Int32 × Hp) :=
  if v4 ≤ v6 then b_209_115 v5  h else b_209_13 k6 v0 v1 v2 v3 v4 v5 v6  h
theorem u_209_6 (d : Nat) (hd : 0 ≤ d) (k6 : Option Nat → Int32 → Int32 → Int32 → Int32 → Int32 → Int32 → Hp → Option (Int32 × Hp)) (K6 : ∀ (v0 : Option Nat) (v1 : Int32) (v2 : Int32) (v3 : Int32) (v4 : Int32) (v5 : Int32) (v6 : Int32) (v7 : Option (Int32)) (v8 : Option (Int32)) (h : Hp) (r : Int32 × Hp), k6 v0 v1 v2 v3 v4 v5 v6 h = some r → Rn d 209 6 [some (va_rf v0), some (.int v1), some (.int v2), some (.int v3), some (.int v4), some (.int v5), some (.int v6), v7.map Value.int, v8.map Value.int] [] h (some (.int r.1), r.2)) (v0 : Option Nat) (v1 : Int32) (v2 : Int32) (v3 : Int32) (v4 : Int32) (v5 : Int32) (v6 : Int32) (v7 : Option (Int32)) (v8 : Option (Int32))  (h : Hp) (r : Int32 × Hp) (hb : b_209_6 k6 v0 v1 v2 v3 v4 v5 v6  h = some r) : Rn d 209 6 [some (va_rf v0), some (.int v1), some (.int v2), some (.int v3), some (.int v4), some (.int v5), some (.int v6), v7.map Value.int, v8.map Value.int] [] h (some (.int r.1), r.2) := by
  unfold b_209_6 at hb
  refine rn_iload (i := 6) rfl rfl ?_
  refine rn_iload (i := 4) rfl rfl ?_
  refine rn_icmp_ge rfl rfl (fun hc => ?_) (fun hc => ?_)
  · exact u_209_115 d hd v0 v1 v2 v3 v4 v5 v6 v7 v8  h _ (if_t hb hc)
  · exact u_209_13 d hd k6 K6 v0 v1 v2 v3 v4 v5 v6 v7 v8  h _ (if_f hb hc)
def l_209_6 : Nat → Option Nat → Int32 → Int32 → Int32 → Int32 → Int32 → Int32 → Hp → Option (Int32 × Hp)
  | 0, _, _, _, _, _, _, _, _ => none
  | n + 1, v0, v1, v2, v3, v4, v5, v6, h => b_209_6 (l_209_6 n) v0 v1 v2 v3 v4 v5 v6 h
theorem w_209_6 (d : Nat) (hd : 0 ≤ d) : ∀ (n : Nat) (v0 : Option Nat) (v1 : Int32) (v2 : Int32) (v3 : Int32) (v4 : Int32) (v5 : Int32) (v6 : Int32) (v7 : Option (Int32)) (v8 : Option (Int32)) (h : Hp) (r : Int32 × Hp), l_209_6 n v0 v1 v2 v3 v4 v5 v6 h = some r → Rn d 209 6 [some (va_rf v0), some (.int v1), some (.int v2), some (.int v3), some (.int v4), some (.int v5), some (.int v6), v7.map Value.int, v8.map Value.int] [] h (some (.int r.1), r.2) := by
  intro n
  induction n with
  | zero => intro v0 v1 v2 v3 v4 v5 v6 v7 v8 h r hb; cases hb
  | succ n ih => intro v0 v1 v2 v3 v4 v5 v6 v7 v8 h r hb; exact u_209_6 d hd (l_209_6 n) ih v0 v1 v2 v3 v4 v5 v6 v7 v8 h r hb
def b_209_0 (v0 : Option Nat) (v1 : Int32) (v2 : Int32) (v3 : Int32) (v4 : Int32)  (h : Hp) : Option (Int32 × Hp) :=
  bnd ((nI 0)) fun x1 =>
  bnd ((nI 0)) fun x2 =>
  l_209_6 FU v0 v1 v2 v3 v4 x1 x2 h
theorem u_209_0 (d : Nat) (hd : 0 ≤ d) (v0 : Option Nat) (v1 : Int32) (v2 : Int32) (v3 : Int32) (v4 : Int32)  (h : Hp) (r : Int32 × Hp) (hb : b_209_0 v0 v1 v2 v3 v4  h = some r) : Rn d 209 0 [some (va_rf v0), some (.int v1), some (.int v2), some (.int v3), some (.int v4), none, none, none, none] [] h (some (.int r.1), r.2) := by
  unfold b_209_0 at hb
  refine rn_iconst (x := (nI 0)) rfl (by decide) ?_
  obtain ⟨x1, ex1, hb⟩ := bnd_spec hb
  refine rn_istore (i := 5) (L1 := [some (va_rf v0), some (.int v1), some (.int v2), some (.int v3), some (.int v4), some (.int x1), none, none, none]) rfl (Nat.le_of_ble_eq_true rfl) (Or.inr rfl) (by rw [ex1]; rfl) ?_
  refine rn_iconst (x := (nI 0)) rfl (by decide) ?_
  obtain ⟨x2, ex2, hb⟩ := bnd_spec hb
  refine rn_istore (i := 6) (L1 := [some (va_rf v0), some (.int v1), some (.int v2), some (.int v3), some (.int v4), some (.int x1), some (.int x2), none, none]) rfl (Nat.le_of_ble_eq_true rfl) (Or.inr rfl) (by rw [ex2]; rfl) ?_
  exact w_209_6 d hd FU v0 v1 v2 v3 v4 x1 x2 (none : Option (Int32)) (none : Option (Int32)) h _ hb
/-- BitingDoorsModel.looksAt(IIII)I -/
def f_209 (v0 : Option Nat) (v1 : Int32) (v2 : Int32) (v3 : Int32) (v4 : Int32) (h : Hp) : Option (Int32 × Hp) := b_209_0 v0 v1 v2 v3 v4 h
theorem t_209 (d : Nat) (hd : 0 ≤ d) (v0 : Option Nat) (v1 : Int32) (v2 : Int32) (v3 : Int32) (v4 : Int32) (h : Hp) (r : Int32 × Hp) (hb : f_209 v0 v1 v2 v3 v4 h = some r) : Rn d 209 0 [some (va_rf v0), some (.int v1), some (.int v2), some (.int v3), some (.int v4), none, none, none, none] [] h (some (.int r.1), r.2) := by
  unfold f_209 at hb
  exact u_209_0 d hd v0 v1 v2 v3 v4 h r hb
def b_210_579 (v0 : Option Nat)  (h : Hp) : Option (Int32 × Hp) :=
  (gQ 11 15 v0 h).bind fun x1 =>
  (aI 12 x1 (nI 2) h).bind fun x2 =>
  (wI x1 (nI 2) (x2 + (nI 1)) h).bind fun h3 =>
  (grd (decide ((nI 1) = 0 ∨ (nI 1) = 1))).bind fun _ => some ((nI 1), h3)
theorem u_210_579 (d : Nat) (hd : 3 ≤ d) (v0 : Option Nat) (v1 : Int32) (v2 : Int32) (v3 : Int32) (v4 : Int32) (v5 : Option (Int32)) (v6 : Option (Int32))  (h : Hp) (r : Int32 × Hp) (hb : b_210_579 v0  h = some r) : Rn d 210 579 [some (va_rf v0), some (.int v1), some (.int v2), some (.int v3), some (.int v4), v5.map Value.int, v6.map Value.int] [] h (some (.int r.1), r.2) := by
  unfold b_210_579 at hb
  refine rn_aload_n (i := 0) rfl rfl ?_
  refine rn_gQ (c := 11) (k := 15) rfl (by decide) hb (fun x1 hb => ?_)
  refine rn_iconst (x := (nI 2)) rfl (by decide) ?_
  refine rn_dup2 rfl rfl (bd_cat_rf _) ?_
  refine rn_aI rfl hb (fun x2 hb => ?_)
  refine rn_iconst (x := (nI 1)) rfl (by decide) ?_
  refine rn_iadd rfl ?_
  refine rn_wI rfl hb (fun h3 hb => ?_)
  refine rn_iconst (x := (nI 1)) rfl (by decide) ?_
  obtain ⟨hz, hb⟩ := grd_spec hb
  obtain rfl := Option.some.inj hb
  exact rn_zret rfl rfl (of_decide_eq_true hz)
def b_210_550 (k483 : Option Nat → Int32 → Int32 → Int32 → Hp → Option (Int32 × Hp)) (v0 : Option Nat) (v1 : Int32) (v2 : Int32) (v4 : Int32) (v5 : Int32) (s0 : Int32) (s1 : Int32) (h : Hp) : Option (Int32 × Hp) :=
  bnd ((s0 + s1)) fun x1 =>
  (gQ 11 15 v0 h).bind fun x2 =>
  (wI x2 (((nI 210) + ((nI 10) * x1)) + v5) (v1 + (nI 1)) h).bind fun h3 =>
  bnd (v4 + (nI 1)) fun x4 =>
  k483 v0 v1 v2 x4 h3
theorem u_210_550 (d : Nat) (hd : 3 ≤ d) (k483 : Option Nat → Int32 → Int32 → Int32 → Hp → Option (Int32 × Hp)) (K483 : ∀ (v0 : Option Nat) (v1 : Int32) (v2 : Int32) (v3 : Int32) (v4 : Int32) (v5 : Option (Int32)) (v6 : Option (Int32)) (h : Hp) (r : Int32 × Hp), k483 v0 v1 v2 v4 h = some r → Rn d 210 483 [some (va_rf v0), some (.int v1), some (.int v2), some (.int v3), some (.int v4), v5.map Value.int, v6.map Value.int] [] h (some (.int r.1), r.2)) (v0 : Option Nat) (v1 : Int32) (v2 : Int32) (v3 : Int32) (v4 : Int32) (v5 : Int32) (v6 : Option (Int32)) (s0 : Int32) (s1 : Int32) (h : Hp) (r : Int32 × Hp) (hb : b_210_550 k483 v0 v1 v2 v4 v5 s0 s1 h = some r) : Rn d 210 550 [some (va_rf v0), some (.int v1), some (.int v2), some (.int v3), some (.int v4), some (.int v5), v6.map Value.int] [.int s1, .int s0] h (some (.int r.1), r.2) := by
  unfold b_210_550 at hb
  refine rn_iadd rfl ?_
  obtain ⟨x1, ex1, hb⟩ := bnd_spec hb
  refine rn_istore (i := 6) (L1 := [some (va_rf v0), some (.int v1), some (.int v2), some (.int v3), some (.int v4), some (.int v5), some (.int x1)]) rfl (Nat.le_of_ble_eq_true rfl) (Or.inr rfl) (by rw [ex1]; rfl) ?_
  refine rn_aload_n (i := 0) rfl rfl ?_
  refine rn_gQ (c := 11) (k := 15) rfl (by decide) hb (fun x2 hb => ?_)
  refine rn_sipush (x := (nI 210)) rfl (by decide) ?_
  refine rn_bipush (x := (nI 10)) rfl (by decide) ?_
  refine rn_iload (i := 6) rfl rfl ?_
  refine rn_imul rfl ?_
  refine rn_iadd rfl ?_
  refine rn_iload (i := 5) rfl rfl ?_
  refine rn_iadd rfl ?_
  refine rn_iload_n (i := 1) rfl rfl ?_
  refine rn_iconst (x := (nI 1)) rfl (by decide) ?_
  refine rn_iadd rfl ?_
  refine rn_wI rfl hb (fun h3 hb => ?_)
  obtain ⟨x4, ex4, hb⟩ := bnd_spec hb
  refine rn_iinc (i := 4) (y := x4) (L1 := [some (va_rf v0), some (.int v1), some (.int v2), some (.int v3), some (.int x4), some (.int v5), some (.int x1)]) rfl rfl (Nat.le_of_ble_eq_true rfl) (Or.inr rfl) (by rw [ex4]; rfl) rfl ?_
  refine rn_goto rfl rfl ?_
  exact K483 v0 v1 v2 v3 x4 (some v5) (some x1) h3 _ hb
def b_210_549 (k483 : Option Nat → Int32 → Int32 → Int32 → Hp → Option (Int32 × Hp)) (v0 : Option Nat) (v1 : Int32) (v2 : Int32) (v4 : Int32) (v5 : Int32) (s0 : Int32) (h : Hp) : Option (Int32 × Hp) :=
  b_210_550 k483 v0 v1 v2 v4 v5 s0 (nI 0) h
theorem u_210_549 (d : Nat) (hd : 3 ≤ d) (k483 : Option Nat → Int32 → Int32 → Int32 → Hp → Option (Int32 × Hp)) (K483 : ∀ (v0 : Option Nat) (v1 : Int32) (v2 : Int32) (v3 : Int32) (v4 : Int32) (v5 : Option (Int32)) (v6 : Option (Int32)) (h : Hp) (r : Int32 × Hp), k483 v0 v1 v2 v4 h = some r → Rn d 210 483 [some (va_rf v0), some (.int v1), some (.int v2), some (.int v3), some (.int v4), v5.map Value.int, v6.map Value.int] [] h (some (.int r.1), r.2)) (v0 : Option Nat) (v1 : Int32) (v2 : Int32) (v3 : Int32) (v4 : Int32) (v5 : Int32) (v6 : Option (Int32)) (s0 : Int32) (h : Hp) (r : Int32 × Hp) (hb : b_210_549 k483 v0 v1 v2 v4 v5 s0 h = some r) : Rn d 210 549 [some (va_rf v0), some (.int v1), some (.int v2), some (.int v3), some (.int v4), some (.int v5), v6.map Value.int] [.int s0] h (some (.int r.1), r.2) := by
  unfold b_210_549 at hb
  refine rn_iconst (x := (nI 0)) rfl (by decide) ?_
  exact u_210_550 d hd k483 K483 v0 v1 v2 v3 v4 v5 v6 s0 (nI 0) h _ hb
def b_210_544 (k483 : Option Nat → Int32 → Int32 → Int32 → Hp → Option (Int32 × Hp)) (v0 : Option Nat) (v1 : Int32) (v2 : Int32) (v4 : Int32) (v5 : Int32) (s0 : Int32) (h : Hp) : Option (Int32 × Hp) :=
  b_210_550 k483 v0 v1 v2 v4 v5 s0 v4 h
theorem u_210_544 (d : Nat) (hd : 3 ≤ d) (k483 : Option Nat → Int32 → Int32 → Int32 → Hp → Option (Int32 × Hp)) (K483 : ∀ (v0 : Option Nat) (v1 : Int32) (v2 : Int32) (v3 : Int32) (v4 : Int32) (v5 : Option (Int32)) (v6 : Option (Int32)) (h : Hp) (r : Int32 × Hp), k483 v0 v1 v2 v4 h = some r → Rn d 210 483 [some (va_rf v0), some (.int v1), some (.int v2), some (.int v3), some (.int v4), v5.map Value.int, v6.map Value.int] [] h (some (.int r.1), r.2)) (v0 : Option Nat) (v1 : Int32) (v2 : Int32) (v3 : Int32) (v4 : Int32) (v5 : Int32) (v6 : Option (Int32)) (s0 : Int32) (h : Hp) (r : Int32 × Hp) (hb : b_210_544 k483 v0 v1 v2 v4 v5 s0 h = some r) : Rn d 210 544 [some (va_rf v0), some (.int v1), some (.int v2), some (.int v3), some (.int v4), some (.int v5), v6.map Value.int] [.int s0] h (some (.int r.1), r.2) := by
  unfold b_210_544 at hb
  refine rn_iload (i := 4) rfl rfl ?_
  refine rn_goto rfl rfl ?_
  exact u_210_550 d hd k483 K483 v0 v1 v2 v3 v4 v5 v6 s0 v4 h _ hb
def b_210_521 (k483 : Option Nat → Int32 → Int32 → Int32 → Hp → Option (Int32 × Hp)) (v0 : Option Nat) (v1 : Int32) (v2 : Int32) (v4 : Int32) (s0 : Int32) (s1 : Int32) (h : Hp) : Option (Int32 × Hp) :=
  bnd ((s0 + s1)) fun x1 =>
  (gQ 11 15 v0 h).bind fun x2 =>
  (aI 12 x2 (v2 + (nI 1)) h).bind fun x3 =>
  (gQ 11 15 v0 h).bind fun x4 =>
  (aI 12 x4 (v2 + (nI 2)) h).bind fun x5 =>
  if ¬ x5 = (nI 1) then b_210_549 k483 v0 v1 v2 v4 x1 x3 h else b_210_544 k483 v0 v1 v2 v4 x1 x3 h
theorem u_210_521 (d : Nat) (hd : 3 ≤ d) (k483 : Option Nat → Int32 → Int32 → Int32 → Hp → Option (Int32 × Hp)) (K483 : ∀ (v0 : Option Nat) (v1 : Int32) (v2 : Int32) (v3 : Int32) (v4 : Int32) (v5 : Option (Int32)) (v6 : Option (Int32)) (h : Hp) (r : Int32 × Hp), k483 v0 v1 v2 v4 h = some r → Rn d 210 483 [some (va_rf v0), some (.int v1), some (.int v2), some (.int v3), some (.int v4), v5.map Value.int, v6.map Value.int] [] h (some (.int r.1), r.2)) (v0 : Option Nat) (v1 : Int32) (v2 : Int32) (v3 : Int32) (v4 : Int32) (v5 : Option (Int32)) (v6 : Option (Int32)) (s0 : Int32) (s1 : Int32) (h : Hp) (r : Int32 × Hp) (hb : b_210_521 k483 v0 v1 v2 v4 s0 s1 h = some r) : Rn d 210 521 [some (va_rf v0), some (.int v1), some (.int v2), some (.int v3), some (.int v4), v5.map Value.int, v6.map Value.int] [.int s1, .int s0] h (some (.int r.1), r.2) := by
  unfold b_210_521 at hb
  refine rn_iadd rfl ?_
  obtain ⟨x1, ex1, hb⟩ := bnd_spec hb
  refine rn_istore (i := 5) (L1 := [some (va_rf v0), some (.int v1), some (.int v2), some (.int v3), some (.int v4), some (.int x1), v6.map Value.int]) rfl (Nat.le_of_ble_eq_true rfl) (Or.inr rfl) (by rw [ex1]; rfl) ?_
  refine rn_aload_n (i := 0) rfl rfl ?_
  refine rn_gQ (c := 11) (k := 15) rfl (by decide) hb (fun x2 hb => ?_)
  refine rn_iload_n (i := 2) rfl rfl ?_
  refine rn_iconst (x := (nI 1)) rfl (by decide) ?_
  refine rn_iadd rfl ?_
  refine rn_aI rfl hb (fun x3 hb => ?_)
  refine rn_aload_n (i := 0) rfl rfl ?_
  refine rn_gQ (c := 11) (k := 15) rfl (by decide) hb (fun x4 hb => ?_)
  refine rn_iload_n (i := 2) rfl rfl ?_
  refine rn_iconst (x := (nI 2)) rfl (by decide) ?_
  refine rn_iadd rfl ?_
  refine rn_aI rfl hb (fun x5 hb => ?_)
  refine rn_iconst (x := (nI 1)) rfl (by decide) ?_
  refine rn_icmp_ne rfl rfl (fun hc => ?_) (fun hc => ?_)
  · exact u_210_549 d hd k483 K483 v0 v1 v2 v3 v4 x1 v6 x3 h _ (if_t hb hc)
  · exact u_210_544 d hd k483 K483 v0 v1 v2 v3 v4 x1 v6 x3 h _ (if_f hb hc)
def b_210_520 (k483 : Option Nat → Int32 → Int32 → Int32 → Hp → Option (Int32 × Hp)) (v0 : Option Nat) (v1 : Int32) (v2 : Int32) (v4 : Int32) (s0 : Int32) (h : Hp) : Option (Int32 × Hp) :=
  b_210_521 k483 v0 v1 v2 v4 s0 (nI 0) h
theorem u_210_520 (d : Nat) (hd : 3 ≤ d) (k483 : Option Nat → Int32 → Int32 → Int32 → Hp → Option (Int32 × Hp)) (K483 : ∀ (v0 : Option Nat) (v1 : Int32) (v2 : Int32) (v3 : Int32) (v4 : Int32) (v5 : Option (Int32)) (v6 : Option (Int32)) (h : Hp) (r : Int32 × Hp), k483 v0 v1 v2 v4 h = some r → Rn d 210 483 [some (va_rf v0), some (.int v1), some (.int v2), some (.int v3), some (.int v4), v5.map Value.int, v6.map Value.int] [] h (some (.int r.1), r.2)) (v0 : Option Nat) (v1 : Int32) (v2 : Int32) (v3 : Int32) (v4 : Int32) (v5 : Option (Int32)) (v6 : Option (Int32)) (s0 : Int32) (h : Hp) (r : Int32 × Hp) (hb : b_210_520 k483 v0 v1 v2 v4 s0 h = some r) : Rn d 210 520 [some (va_rf v0), some (.int v1), some (.int v2), some (.int v3), some (.int v4), v5.map Value.int, v6.map Value.int] [.int s0] h (some (.int r.1), r.2) := by
  unfold b_210_520 at hb
  refine rn_iconst (x := (nI 0)) rfl (by decide) ?_
  exact u_210_521 d hd k483 K483 v0 v1 v2 v3 v4 v5 v6 s0 (nI 0) h _ hb
def b_210_515 (k483 : Option Nat → Int32 → Int32 → Int32 → Hp → Option (Int32 × Hp)) (v0 : Option Nat) (v1 : Int32) (v2 : Int32) (v4 : Int32) (s0 : Int32) (h : Hp) : Option (Int32 × Hp) :=
  b_210_521 k483 v0 v1 v2 v4 s0 v4 h
theorem u_210_515 (d : Nat) (hd : 3 ≤ d) (k483 : Option Nat → Int32 → Int32 → Int32 → Hp → Option (Int32 × Hp)) (K483 : ∀ (v0 : Option Nat) (v1 : Int32) (v2 : Int32) (v3 : Int32) (v4 : Int32) (v5 : Option (Int32)) (v6 : Option (Int32)) (h : Hp) (r : Int32 × Hp), k483 v0 v1 v2 v4 h = some r → Rn d 210 483 [some (va_rf v0), some (.int v1), some (.int v2), some (.int v3), some (.int v4), v5.map Value.int, v6.map Value.int] [] h (some (.int r.1), r.2)) (v0 : Option Nat) (v1 : Int32) (v2 : Int32) (v3 : Int32) (v4 : Int32) (v5 : Option (Int32)) (v6 : Option (Int32)) (s0 : Int32) (h : Hp) (r : Int32 × Hp) (hb : b_210_515 k483 v0 v1 v2 v4 s0 h = some r) : Rn d 210 515 [some (va_rf v0), some (.int v1), some (.int v2), some (.int v3), some (.int v4), v5.map Value.int, v6.map Value.int] [.int s0] h (some (.int r.1), r.2) := by
  unfold b_210_515 at hb
  refine rn_iload (i := 4) rfl rfl ?_
  refine rn_goto rfl rfl ?_
  exact u_210_521 d hd k483 K483 v0 v1 v2 v3 v4 v5 v6 s0 v4 h _ hb
def b_210_496 (k483 : Option Nat → Int32 → Int32 → Int32 → Hp → Option (Int32 × Hp)) (v0 : Option Nat) (v1 : Int32) (v2 : Int32) (v4 : Int32)  (h : Hp) : Option (Int32 × Hp) :=
  (gQ 11 15 v0 h).bind fun x1 =>
  (aI 12 x1 (v2 + (nI 0)) h).bind fun x2 =>
  (gQ 11 15 v0 h).bind fun x3 =>
  (aI 12 x3 (v2 + (nI 2)) h).bind fun x4 =>
  if ¬ x4 = 0 then b_210_520 k483 v0 v1 v2 v4 x2 h else b_210_515 k483 v0 v1 v2 v4 x2 h
theorem u_210_496 (d : Nat) (hd : 3 ≤ d) (k483 : Option Nat → Int32 → Int32 → Int32 → Hp → Option (Int32 × Hp)) (K483 : ∀ (v0 : Option Nat) (v1 : Int32) (v2 : Int32) (v3 : Int32) (v4 : Int32) (v5 : Option (Int32)) (v6 : Option (Int32)) (h : Hp) (r : Int32 × Hp), k483 v0 v1 v2 v4 h = some r → Rn d 210 483 [some (va_rf v0), some (.int v1), some (.int v2), some (.int v3), some (.int v4), v5.map Value.int, v6.map Value.int] [] h (some (.int r.1), r.2)) (v0 : Option Nat) (v1 : Int32) (v2 : Int32) (v3 : Int32) (v4 : Int32) (v5 : Option (Int32)) (v6 : Option (Int32))  (h : Hp) (r : Int32 × Hp) (hb : b_210_496 k483 v0 v1 v2 v4  h = some r) : Rn d 210 496 [some (va_rf v0), some (.int v1), some (.int v2), some (.int v3), some (.int v4), v5.map Value.int, v6.map Value.int] [] h (some (.int r.1), r.2) := by
  unfold b_210_496 at hb
  refine rn_aload_n (i := 0) rfl rfl ?_
  refine rn_gQ (c := 11) (k := 15) rfl (by decide) hb (fun x1 hb => ?_)
  refine rn_iload_n (i := 2) rfl rfl ?_
  refine rn_iconst (x := (nI 0)) rfl (by decide) ?_
  refine rn_iadd rfl ?_
  refine rn_aI rfl hb (fun x2 hb => ?_)
  refine rn_aload_n (i := 0) rfl rfl ?_
  refine rn_gQ (c := 11) (k := 15) rfl (by decide) hb (fun x3 hb => ?_)
  refine rn_iload_n (i := 2) rfl rfl ?_
  refine rn_iconst (x := (nI 2)) rfl (by decide) ?_
  refine rn_iadd rfl ?_
  refine rn_aI rfl hb (fun x4 hb => ?_)
  refine rn_if_ne rfl rfl (fun hc => ?_) (fun hc => ?_)
  · exact u_210_520 d hd k483 K483 v0 v1 v2 v3 v4 v5 v6 x2 h _ (if_t hb hc)
  · exact u_210_515 d hd k483 K483 v0 v1 v2 v3 v4 v5 v6 x2 h _ (if_f hb hc)
def b_210_483 (k483 : Option Nat → Int32 → Int32 → Int32 → Hp → Option (Int32 × Hp)) (v0 : Option Nat) (v1 : Int32) (v2 : Int32) (v4 : Int32)  (h : Hp) : Option (Int32 × Hp) :=
  (gQ 11 15 v0 h).bind fun x1 =>
  (aI 12 x1 (v2 + (nI 3)) h).bind fun x2 =>
  if x2 ≤ v4 then b_210_579 v0  h else b_210_496 k483 v0 v1 v2 v4  h
theorem u_210_483 (d : Nat) (hd : 3 ≤ d) (k483 : Option Nat → Int32 → Int32 → Int32 → Hp → Option (Int32 × Hp)) (K483 : ∀ (v0 : Option Nat) (v1 : Int32) (v2 : Int32) (v3 : Int32) (v4 : Int32) (v5 : Option (Int32)) (v6 : Option (Int32)) (h : Hp) (r : Int32 × Hp), k483 v0 v1 v2 v4 h = some r → Rn d 210 483 [some (va_rf v0), some (.int v1), some (.int v2), some (.int v3), some (.int v4), v5.map Value.int, v6.map Value.int] [] h (some (.int r.1), r.2)) (v0 : Option Nat) (v1 : Int32) (v2 : Int32) (v3 : Int32) (v4 : Int32) (v5 : Option (Int32)) (v6 : Option (Int32))  (h : Hp) (r : Int32 × Hp) (hb : b_210_483 k483 v0 v1 v2 v4  h = some r) : Rn d 210 483 [some (va_rf v0), some (.int v1), some (.int v2), some (.int v3), some (.int v4), v5.map Value.int, v6.map Value.int] [] h (some (.int r.1), r.2) := by
  unfold b_210_483 at hb
  refine rn_iload (i := 4) rfl rfl ?_
  refine rn_aload_n (i := 0) rfl rfl ?_
  refine rn_gQ (c := 11) (k := 15) rfl (by decide) hb (fun x1 hb => ?_)
  refine rn_iload_n (i := 2) rfl rfl ?_
  refine rn_iconst (x := (nI 3)) rfl (by decide) ?_
  refine rn_iadd rfl ?_
  refine rn_aI rfl hb (fun x2 hb => ?_)
  refine rn_icmp_ge rfl rfl (fun hc => ?_) (fun hc => ?_)
  · exact u_210_579 d hd v0 v1 v2 v3 v4 v5 v6  h _ (if_t hb hc)
  · exact u_210_496 d hd k483 K483 v0 v1 v2 v3 v4 v5 v6  h _ (if_f hb hc)
def l_210_483 : Nat → Option Nat → Int32 → Int32 → Int32 → Hp → Option (Int32 × Hp)
  | 0, _, _, _, _, _ => none
  | n + 1, v0, v1, v2, v4, h => b_210_483 (l_210_483 n) v0 v1 v2 v4 h
theorem w_210_483 (d : Nat) (hd : 3 ≤ d) : ∀ (n : Nat) (v0 : Option Nat) (v1 : Int32) (v2 : Int32) (v3 : Int32) (v4 : Int32) (v5 : Option (Int32)) (v6 : Option (Int32)) (h : Hp) (r : Int32 × Hp), l_210_483 n v0 v1 v2 v4 h = some r → Rn d 210 483 [some (va_rf v0), some (.int v1), some (.int v2), some (.int v3), some (.int v4), v5.map Value.int, v6.map Value.int] [] h (some (.int r.1), r.2) := by
  intro n
  induction n with
  | zero => intro v0 v1 v2 v3 v4 v5 v6 h r hb; cases hb
  | succ n ih => intro v0 v1 v2 v3 v4 v5 v6 h r hb; exact u_210_483 d hd (l_210_483 n) ih v0 v1 v2 v3 v4 v5 v6 h r hb
def b_210_480 (v0 : Option Nat) (v1 : Int32) (v2 : Int32)  (h : Hp) : Option (Int32 × Hp) :=
  bnd ((nI 0)) fun x1 =>
  l_210_483 FU v0 v1 v2 x1 h
theorem u_210_480 (d : Nat) (hd : 3 ≤ d) (v0 : Option Nat) (v1 : Int32) (v2 : Int32) (v3 : Int32)  (h : Hp) (r : Int32 × Hp) (hb : b_210_480 v0 v1 v2  h = some r) : Rn d 210 480 [some (va_rf v0), some (.int v1), some (.int v2), some (.int v3), none, none, none] [] h (some (.int r.1), r.2) := by
  unfold b_210_480 at hb
  refine rn_iconst (x := (nI 0)) rfl (by decide) ?_
  obtain ⟨x1, ex1, hb⟩ := bnd_spec hb
  refine rn_istore (i := 4) (L1 := [some (va_rf v0), some (.int v1), some (.int v2), some (.int v3), some (.int x1), none, none]) rfl (Nat.le_of_ble_eq_true rfl) (Or.inr rfl) (by rw [ex1]; rfl) ?_
  exact w_210_483 d hd FU v0 v1 v2 v3 x1 (none : Option (Int32)) (none : Option (Int32)) h _ hb
def b_210_476 (v0 : Option Nat) (v1 : Int32) (v2 : Int32)  (h : Hp) : Option (Int32 × Hp) :=
  (grd (rC 11 v0 h)).bind fun _ =>
  (f_189 v0 h).bind fun p1 =>
  b_210_480 v0 v1 v2  p1
theorem u_210_476 (d : Nat) (hd : 3 ≤ d) (v0 : Option Nat) (v1 : Int32) (v2 : Int32) (v3 : Int32)  (h : Hp) (r : Int32 × Hp) (hb : b_210_476 v0 v1 v2  h = some r) : Rn d 210 476 [some (va_rf v0), some (.int v1), some (.int v2), some (.int v3), none, none, none] [] h (some (.int r.1), r.2) := by
  unfold b_210_476 at hb
  obtain ⟨e, rfl⟩ : ∃ e, d = e + 1 := ⟨d - 1, by omega⟩
  refine rn_aload_n (i := 0) rfl rfl ?_
  obtain ⟨hrc, hb⟩ := grd_spec hb
  obtain ⟨p1, hc, hb⟩ := Option.bind_eq_some_iff.mp hb
  refine Rn.call0 (d := e) (As := [va_rf v0]) (rest := []) rfl rfl rfl (by decide) rfl rfl rfl (bd_rcV hrc rfl) (by decide) (bd_lenC (n := 5) rfl (bd_slR bd_slN) rfl) (bd_locC (n := 5) rfl (bd_slR bd_slN) rfl (t_189 e (by omega) v0 h _ hc)) ?_
  exact u_210_480 (e + 1) hd v0 v1 v2 v3  p1 _ hb
def b_210_466 (v0 : Option Nat) (v1 : Int32) (v2 : Int32) (s0 : Option Nat) (s1 : Int32) (s2 : Int32) (h : Hp) : Option (Int32 × Hp) :=
  (wI s0 s1 s2 h).bind fun h1 =>
  (grd (rC 11 v0 h1)).bind fun _ =>
  (f_193 v0 (nI 8) h1).bind fun p2 =>
  if p2.1 = 0 then b_210_480 v0 v1 v2  p2.2 else b_210_476 v0 v1 v2  p2.2
theorem u_210_466 (d : Nat) (hd : 3 ≤ d) (v0 : Option Nat) (v1 : Int32) (v2 : Int32) (v3 : Int32) (s0 : Option Nat) (s1 : Int32) (s2 : Int32) (h : Hp) (r : Int32 × Hp) (hb : b_210_466 v0 v1 v2 s0 s1 s2 h = some r) : Rn d 210 466 [some (va_rf v0), some (.int v1), some (.int v2), some (.int v3), none, none, none] [.int s2, .int s1, va_rf s0] h (some (.int r.1), r.2) := by
  unfold b_210_466 at hb
  obtain ⟨e, rfl⟩ : ∃ e, d = e + 1 := ⟨d - 1, by omega⟩
  refine rn_wI rfl hb (fun h1 hb => ?_)
  refine rn_aload_n (i := 0) rfl rfl ?_
  refine rn_bipush (x := (nI 8)) rfl (by decide) ?_
  obtain ⟨hrc, hb⟩ := grd_spec hb
  obtain ⟨p2, hc, hb⟩ := Option.bind_eq_some_iff.mp hb
  refine Rn.call1 (d := e) (As := [va_rf v0, .int (nI 8)]) (rest := []) rfl rfl rfl (by decide) rfl rfl rfl (bd_rcV hrc rfl) (by decide) (bd_lenC (n := 2) rfl (bd_slR (bd_slI bd_slN)) rfl) (bd_locC (n := 2) rfl (bd_slR (bd_slI bd_slN)) rfl (t_193 e (by omega) v0 (nI 8) h1 _ hc)) ?_
  refine rn_if_eq rfl rfl (fun hc => ?_) (fun hc => ?_)
  · exact u_210_480 (e + 1) hd v0 v1 v2 v3  p2.2 _ (if_t hb hc)
  · exact u_210_476 (e + 1) hd v0 v1 v2 v3  p2.2 _ (if_f hb hc)
def b_210_465 (v0 : Option Nat) (v1 : Int32) (v2 : Int32) (s0 : Option Nat) (s1 : Int32) (h : Hp) : Option (Int32 × Hp) :=
  b_210_466 v0 v1 v2 s0 s1 (nI 0) h
theorem u_210_465 (d : Nat) (hd : 3 ≤ d) (v0 : Option Nat) (v1 : Int32) (v2 : Int32) (v3 : Int32) (s0 : Option Nat) (s1 : Int32) (h : Hp) (r : Int32 × Hp) (hb : b_210_465 v0 v1 v2 s0 s1 h = some r) : Rn d 210 465 [some (va_rf v0), some (.int v1), some (.int v2), some (.int v3), none, none, none] [.int s1, va_rf s0] h (some (.int r.1), r.2) := by
  unfold b_210_465 at hb
  refine rn_iconst (x := (nI 0)) rfl (by decide) ?_
  exact u_210_466 d hd v0 v1 v2 v3 s0 s1 (nI 0) h _ hb
def b_210_461 (v0 : Option Nat) (v1 : Int32) (v2 : Int32) (s0 : Option Nat) (s1 : Int32) (h : Hp) : Option (Int32 × Hp) :=
  b_210_466 v0 v1 v2 s0 s1 (nI 1) h
theorem u_210_461 (d : Nat) (hd : 3 ≤ d) (v0 : Option Nat) (v1 : Int32) (v2 : Int32) (v3 : Int32) (s0 : Option Nat) (s1 : Int32) (h : Hp) (r : Int32 × Hp) (hb : b_210_461 v0 v1 v2 s0 s1 h = some r) : Rn d 210 461 [some (va_rf v0), some (.int v1), some (.int v2), some (.int v3), none, none, none] [.int s1, va_rf s0] h (some (.int r.1), r.2) := by
  unfold b_210_461 at hb
  refine rn_iconst (x := (nI 1)) rfl (by decide) ?_
  refine rn_goto rfl rfl ?_
  exact u_210_466 d hd v0 v1 v2 v3 s0 s1 (nI 1) h _ hb
def b_210_444 (v0 : Option Nat) (v1 : Int32) (v2 : Int32)  (h : Hp) : Option (Int32 × Hp) :=
  (gQ 11 15 v0 h).bind fun x1 =>
  (grd (rC 11 v0 h)).bind fun _ =>
  (f_193 v0 (nI 8) h).bind fun p2 =>
  if p2.1 = 0 then b_210_465 v0 v1 v2 x1 (v2 + (nI 7)) p2.2 else b_210_461 v0 v1 v2 x1 (v2 + (nI 7)) p2.2
theorem u_210_444 (d : Nat) (hd : 3 ≤ d) (v0 : Option Nat) (v1 : Int32) (v2 : Int32) (v3 : Int32)  (h : Hp) (r : Int32 × Hp) (hb : b_210_444 v0 v1 v2  h = some r) : Rn d 210 444 [some (va_rf v0), some (.int v1), some (.int v2), some (.int v3), none, none, none] [] h (some (.int r.1), r.2) := by
  unfold b_210_444 at hb
  obtain ⟨e, rfl⟩ : ∃ e, d = e + 1 := ⟨d - 1, by omega⟩
  refine rn_aload_n (i := 0) rfl rfl ?_
  refine rn_gQ (c := 11) (k := 15) rfl (by decide) hb (fun x1 hb => ?_)
  refine rn_iload_n (i := 2) rfl rfl ?_
  refine rn_bipush (x := (nI 7)) rfl (by decide) ?_
  refine rn_iadd rfl ?_
  refine rn_aload_n (i := 0) rfl rfl ?_
  refine rn_bipush (x := (nI 8)) rfl (by decide) ?_
  obtain ⟨hrc, hb⟩ := grd_spec hb
  obtain ⟨p2, hc, hb⟩ := Option.bind_eq_some_iff.mp hb
  refine Rn.call1 (d := e) (As := [va_rf v0, .int (nI 8)]) (rest := [.int (v2 + (nI 7)), va_rf x1]) rfl rfl rfl (by decide) rfl rfl rfl (bd_rcV hrc rfl) (by rw [bd_cI (bd_cR (bd_cN))]; decide) (bd_lenC (n := 2) rfl (bd_slR (bd_slI bd_slN)) rfl) (bd_locC (n := 2) rfl (bd_slR (bd_slI bd_slN)) rfl (t_193 e (by omega) v0 (nI 8) h _ hc)) ?_
  refine rn_if_eq rfl rfl (fun hc => ?_) (fun hc => ?_)
  · exact u_210_465 (e + 1) hd v0 v1 v2 v3 x1 (v2 + (nI 7)) p2.2 _ (if_t hb hc)
  · exact u_210_461 (e + 1) hd v0 v1 v2 v3 x1 (v2 + (nI 7)) p2.2 _ (if_f hb hc)
def b_210_431 (v0 : Option Nat) (v1 : Int32) (v2 : Int32)  (h : Hp) : Option (Int32 × Hp) :=
  (gQ 11 15 v0 h).bind fun x1 =>
  (gI 11 13 v0 h).bind fun x2 =>
  (wI x1 (v2 + (nI 6)) x2 h).bind fun h3 =>
  b_210_444 v0 v1 v2  h3
theorem u_210_431 (d : Nat) (hd : 3 ≤ d) (v0 : Option Nat) (v1 : Int32) (v2 : Int32) (v3 : Int32)  (h : Hp) (r : Int32 × Hp) (hb : b_210_431 v0 v1 v2  h = some r) : Rn d 210 431 [some (va_rf v0), some (.int v1), some (.int v2), some (.int v3), none, none, none] [] h (some (.int r.1), r.2) := by
  unfold b_210_431 at hb
  refine rn_aload_n (i := 0) rfl rfl ?_
  refine rn_gQ (c := 11) (k := 15) rfl (by decide) hb (fun x1 hb => ?_)
  refine rn_iload_n (i := 2) rfl rfl ?_
  refine rn_bipush (x := (nI 6)) rfl (by decide) ?_
  refine rn_iadd rfl ?_
  refine rn_aload_n (i := 0) rfl rfl ?_
  refine rn_gI (c := 11) (k := 13) rfl (by decide) hb (fun x2 hb => ?_)
  refine rn_wI rfl hb (fun h3 hb => ?_)
  exact u_210_444 d hd v0 v1 v2 v3  h3 _ hb
def b_210_429   (h : Hp) : Option (Int32 × Hp) :=
  (grd (decide ((nI 0) = 0 ∨ (nI 0) = 1))).bind fun _ => some ((nI 0), h)
theorem u_210_429 (d : Nat) (hd : 3 ≤ d) (v0 : Option Nat) (v1 : Int32) (v2 : Int32) (v3 : Int32)  (h : Hp) (r : Int32 × Hp) (hb : b_210_429   h = some r) : Rn d 210 429 [some (va_rf v0), some (.int v1), some (.int v2), some (.int v3), none, none, none] [] h (some (.int r.1), r.2) := by
  unfold b_210_429 at hb
  refine rn_iconst (x := (nI 0)) rfl (by decide) ?_
  obtain ⟨hz, hb⟩ := grd_spec hb
  obtain rfl := Option.some.inj hb
  exact rn_zret rfl rfl (of_decide_eq_true hz)
def b_210_415 (v0 : Option Nat) (v1 : Int32) (v2 : Int32)  (h : Hp) : Option (Int32 × Hp) :=
  (grd (rC 11 v0 h)).bind fun _ =>
  (f_189 v0 h).bind fun p1 =>
  (grd (rC 11 v0 p1)).bind fun _ =>
  (f_199 v0 (nI 1) (nI 99) p1).bind fun p2 =>
  if ¬ p2.1 = 0 then b_210_431 v0 v1 v2  p2.2 else b_210_429   p2.2
theorem u_210_415 (d : Nat) (hd : 3 ≤ d) (v0 : Option Nat) (v1 : Int32) (v2 : Int32) (v3 : Int32)  (h : Hp) (r : Int32 × Hp) (hb : b_210_415 v0 v1 v2  h = some r) : Rn d 210 415 [some (va_rf v0), some (.int v1), some (.int v2), some (.int v3), none, none, none] [] h (some (.int r.1), r.2) := by
  unfold b_210_415 at hb
  obtain ⟨e, rfl⟩ : ∃ e, d = e + 1 := ⟨d - 1, by omega⟩
  refine rn_aload_n (i := 0) rfl rfl ?_
  obtain ⟨hrc, hb⟩ := grd_spec hb
  obtain ⟨p1, hc, hb⟩ := Option.bind_eq_some_iff.mp hb
  refine Rn.call0 (d := e) (As := [va_rf v0]) (rest := []) rfl rfl rfl (by decide) rfl rfl rfl (bd_rcV hrc rfl) (by decide) (bd_lenC (n := 5) rfl (bd_slR bd_slN) rfl) (bd_locC (n := 5) rfl (bd_slR bd_slN) rfl (t_189 e (by omega) v0 h _ hc)) ?_
  refine rn_aload_n (i := 0) rfl rfl ?_
  refine rn_iconst (x := (nI 1)) rfl (by decide) ?_
  refine rn_bipush (x := (nI 99)) rfl (by decide) ?_
  obtain ⟨hrc, hb⟩ := grd_spec hb
  obtain ⟨p2, hc, hb⟩ := Option.bind_eq_some_iff.mp hb
  refine Rn.call1 (d := e) (As := [va_rf v0, .int (nI 1), .int (nI 99)]) (rest := []) rfl rfl rfl (by decide) rfl rfl rfl (bd_rcV hrc rfl) (by decide) (bd_lenC (n := 3) rfl (bd_slR (bd_slI (bd_slI bd_slN))) rfl) (bd_locC (n := 3) rfl (bd_slR (bd_slI (bd_slI bd_slN))) rfl (t_199 e (by omega) v0 (nI 1) (nI 99) p1 _ hc)) ?_
  refine rn_if_ne rfl rfl (fun hc => ?_) (fun hc => ?_)
  · exact u_210_431 (e + 1) hd v0 v1 v2 v3  p2.2 _ (if_t hb hc)
  · exact u_210_429 (e + 1) hd v0 v1 v2 v3  p2.2 _ (if_f hb hc)
def b_210_396 (v0 : Option Nat) (v1 : Int32) (v2 : Int32)  (h : Hp) : Option (Int32 × Hp) :=
  (gQ 11 15 v0 h).bind fun x1 =>
  (wI x1 (v2 + (nI 6)) (nI 1) h).bind fun h2 =>
  (grd (rC 11 v0 h2)).bind fun _ =>
  (f_193 v0 (nI 7) h2).bind fun p3 =>
  if p3.1 = 0 then b_210_444 v0 v1 v2  p3.2 else b_210_415 v0 v1 v2  p3.2
theorem u_210_396 (d : Nat) (hd : 3 ≤ d) (v0 : Option Nat) (v1 : Int32) (v2 : Int32) (v3 : Int32)  (h : Hp) (r : Int32 × Hp) (hb : b_210_396 v0 v1 v2  h = some r) : Rn d 210 396 [some (va_rf v0), some (.int v1), some (.int v2), some (.int v3), none, none, none] [] h (some (.int r.1), r.2) := by
  unfold b_210_396 at hb
  obtain ⟨e, rfl⟩ : ∃ e, d = e + 1 := ⟨d - 1, by omega⟩
  refine rn_aload_n (i := 0) rfl rfl ?_
  refine rn_gQ (c := 11) (k := 15) rfl (by decide) hb (fun x1 hb => ?_)
  refine rn_iload_n (i := 2) rfl rfl ?_
  refine rn_bipush (x := (nI 6)) rfl (by decide) ?_
  refine rn_iadd rfl ?_
  refine rn_iconst (x := (nI 1)) rfl (by decide) ?_
  refine rn_wI rfl hb (fun h2 hb => ?_)
  refine rn_aload_n (i := 0) rfl rfl ?_
  refine rn_bipush (x := (nI 7)) rfl (by decide) ?_
  obtain ⟨hrc, hb⟩ := grd_spec hb
  obtain ⟨p3, hc, hb⟩ := Option.bind_eq_some_iff.mp hb
  refine Rn.call1 (d := e) (As := [va_rf v0, .int (nI 7)]) (rest := []) rfl rfl rfl (by decide) rfl rfl rfl (bd_rcV hrc rfl) (by decide) (bd_lenC (n := 2) rfl (bd_slR (bd_slI bd_slN)) rfl) (bd_locC (n := 2) rfl (bd_slR (bd_slI bd_slN)) rfl (t_193 e (by omega) v0 (nI 7) h2 _ hc)) ?_
  refine rn_if_eq rfl rfl (fun hc => ?_) (fun hc => ?_)
  · exact u_210_444 (e + 1) hd v0 v1 v2 v3  p3.2 _ (if_t hb hc)
  · exact u_210_415 (e + 1) hd v0 v1 v2 v3  p3.2 _ (if_f hb hc)
def b_210_372 (k307 : Option Nat → Int32 → Int32 → Hp → Option (Int32 × Hp)) (v0 : Option Nat) (v1 : Int32) (v2 : Int32)  (h : Hp) : Option (Int32 × Hp) :=
  (gQ 11 15 v0 h).bind fun x1 =>
  (aI 12 x1 (v2 + (nI 5)) h).bind fun x2 =>
  (gI 11 8 v0 h).bind fun x3 =>
  (wI x1 (v2 + (nI 5)) (x2 ||| ((nI 1) <<< (x3 &&& 31))) h).bind fun h4 =>
  (grd (rC 11 v0 h4)).bind fun _ =>
  (f_189 v0 h4).bind fun p5 =>
  k307 v0 v1 v2 p5
theorem u_210_372 (d : Nat) (hd : 3 ≤ d) (k307 : Option Nat → Int32 → Int32 → Hp → Option (Int32 × Hp)) (K307 : ∀ (v0 : Option Nat) (v1 : Int32) (v2 : Int32) (v3 : Int32) (h : Hp) (r : Int32 × Hp), k307 v0 v1 v2 h = some r → Rn d 210 307 [some (va_rf v0), some (.int v1), some (.int v2), some (.int v3), none, none, none] [] h (some (.int r.1), r.2)) (v0 : Option Nat) (v1 : Int32) (v2 : Int32) (v3 : Int32)  (h : Hp) (r : Int32 × Hp) (hb : b_210_372 k307 v0 v1 v2  h = some r) : Rn d 210 372 [some (va_rf v0), some (.int v1), some (.int v2), some (.int v3), none, none, none] [] h (some (.int r.1), r.2) := by
  unfold b_210_372 at hb
  obtain ⟨e, rfl⟩ : ∃ e, d = e + 1 := ⟨d - 1, by omega⟩
  refine rn_aload_n (i := 0) rfl rfl ?_
  refine rn_gQ (c := 11) (k := 15) rfl (by decide) hb (fun x1 hb => ?_)
  refine rn_iload_n (i := 2) rfl rfl ?_
  refine rn_iconst (x := (nI 5)) rfl (by decide) ?_
  refine rn_iadd rfl ?_
  refine rn_dup2 rfl rfl (bd_cat_rf _) ?_
  refine rn_aI rfl hb (fun x2 hb => ?_)
  refine rn_iconst (x := (nI 1)) rfl (by decide) ?_
  refine rn_aload_n (i := 0) rfl rfl ?_
  refine rn_gI (c := 11) (k := 8) rfl (by decide) hb (fun x3 hb => ?_)
  refine rn_ishl rfl ?_
  refine rn_ior rfl ?_
  refine rn_wI rfl hb (fun h4 hb => ?_)
  refine rn_aload_n (i := 0) rfl rfl ?_
  obtain ⟨hrc, hb⟩ := grd_spec hb
  obtain ⟨p5, hc, hb⟩ := Option.bind_eq_some_iff.mp hb
  refine Rn.call0 (d := e) (As := [va_rf v0]) (rest := []) rfl rfl rfl (by decide) rfl rfl rfl (bd_rcV hrc rfl) (by decide) (bd_lenC (n := 5) rfl (bd_slR bd_slN) rfl) (bd_locC (n := 5) rfl (bd_slR bd_slN) rfl (t_189 e (by omega) v0 h4 _ hc)) ?_
  refine rn_goto rfl rfl ?_
  exact K307 v0 v1 v2 v3 p5 _ hb
def b_210_366 (v0 : Option Nat)  (h : Hp) : Option (Int32 × Hp) :=
  (grd (rC 11 v0 h)).bind fun _ =>
  (f_198 v0 (nI 3) h).bind fun p1 =>
  (grd (decide (p1.1 = 0 ∨ p1.1 = 1))).bind fun _ => some (p1.1, p1.2)
theorem u_210_366 (d : Nat) (hd : 3 ≤ d) (v0 : Option Nat) (v1 : Int32) (v2 : Int32) (v3 : Int32)  (h : Hp) (r : Int32 × Hp) (hb : b_210_366 v0  h = some r) : Rn d 210 366 [some (va_rf v0), some (.int v1), some (.int v2), some (.int v3), none, none, none] [] h (some (.int r.1), r.2) := by
  unfold b_210_366 at hb
  obtain ⟨e, rfl⟩ : ∃ e, d = e + 1 := ⟨d - 1, by omega⟩
  refine rn_aload_n (i := 0) rfl rfl ?_
  refine rn_iconst (x := (nI 3)) rfl (by decide) ?_
  obtain ⟨hrc, hb⟩ := grd_spec hb
  obtain ⟨p1, hc, hb⟩ := Option.bind_eq_some_iff.mp hb
  refine Rn.call1 (d := e) (As := [va_rf v0, .int (nI 3)]) (rest := []) rfl rfl rfl (by decide) rfl rfl rfl (bd_rcV hrc rfl) (by decide) (bd_lenC (n := 2) rfl (bd_slR (bd_slI bd_slN)) rfl) (bd_locC (n := 2) rfl (bd_slR (bd_slI bd_slN)) rfl (t_198 e (by omega) v0 (nI 3) h _ hc)) ?_
  obtain ⟨hz, hb⟩ := grd_spec hb
  obtain rfl := Option.some.inj hb
  exact rn_zret rfl rfl (of_decide_eq_true hz)
def b_210_348 (k307 : Option Nat → Int32 → Int32 → Hp → Option (Int32 × Hp)) (v0 : Option Nat) (v1 : Int32) (v2 : Int32)  (h : Hp) : Option (Int32 × Hp) :=
  (gQ 11 15 v0 h).bind fun x1 =>
  (aI 12 x1 (v2 + (nI 5)) h).bind fun x2 =>
  (gI 11 8 v0 h).bind fun x3 =>
  (f_183 x2 x3 h).bind fun p4 =>
  if p4.1 = 0 then b_210_372 k307 v0 v1 v2  p4.2 else b_210_366 v0  p4.2
theorem u_210_348 (d : Nat) (hd : 3 ≤ d) (k307 : Option Nat → Int32 → Int32 → Hp → Option (Int32 × Hp)) (K307 : ∀ (v0 : Option Nat) (v1 : Int32) (v2 : Int32) (v3 : Int32) (h : Hp) (r : Int32 × Hp), k307 v0 v1 v2 h = some r → Rn d 210 307 [some (va_rf v0), some (.int v1), some (.int v2), some (.int v3), none, none, none] [] h (some (.int r.1), r.2)) (v0 : Option Nat) (v1 : Int32) (v2 : Int32) (v3 : Int32)  (h : Hp) (r : Int32 × Hp) (hb : b_210_348 k307 v0 v1 v2  h = some r) : Rn d 210 348 [some (va_rf v0), some (.int v1), some (.int v2), some (.int v3), none, none, none] [] h (some (.int r.1), r.2) := by
  unfold b_210_348 at hb
  obtain ⟨e, rfl⟩ : ∃ e, d = e + 1 := ⟨d - 1, by omega⟩
  refine rn_aload_n (i := 0) rfl rfl ?_
  refine rn_gQ (c := 11) (k := 15) rfl (by decide) hb (fun x1 hb => ?_)
  refine rn_iload_n (i := 2) rfl rfl ?_
  refine rn_iconst (x := (nI 5)) rfl (by decide) ?_
  refine rn_iadd rfl ?_
  refine rn_aI rfl hb (fun x2 hb => ?_)
  refine rn_aload_n (i := 0) rfl rfl ?_
  refine rn_gI (c := 11) (k := 8) rfl (by decide) hb (fun x3 hb => ?_)
  obtain ⟨p4, hc, hb⟩ := Option.bind_eq_some_iff.mp hb
  refine Rn.call1 (d := e) (As := [.int x2, .int x3]) (rest := []) rfl rfl rfl (by decide) rfl rfl rfl rfl (by decide) (bd_lenC (n := 2) rfl (bd_slI (bd_slI bd_slN)) rfl) (bd_locC (n := 2) rfl (bd_slI (bd_slI bd_slN)) rfl (t_183 e (by omega) x2 x3 h _ hc)) ?_
  refine rn_if_eq rfl rfl (fun hc => ?_) (fun hc => ?_)
  · exact u_210_372 (e + 1) hd k307 K307 v0 v1 v2 v3  p4.2 _ (if_t hb hc)
  · exact u_210_366 (e + 1) hd v0 v1 v2 v3  p4.2 _ (if_f hb hc)
def b_210_342 (v0 : Option Nat)  (h : Hp) : Option (Int32 × Hp) :=
  (grd (rC 11 v0 h)).bind fun _ =>
  (f_198 v0 (nI 2) h).bind fun p1 =>
  (grd (decide (p1.1 = 0 ∨ p1.1 = 1))).bind fun _ => some (p1.1, p1.2)
theorem u_210_342 (d : Nat) (hd : 3 ≤ d) (v0 : Option Nat) (v1 : Int32) (v2 : Int32) (v3 : Int32)  (h : Hp) (r : Int32 × Hp) (hb : b_210_342 v0  h = some r) : Rn d 210 342 [some (va_rf v0), some (.int v1), some (.int v2), some (.int v3), none, none, none] [] h (some (.int r.1), r.2) := by
  unfold b_210_342 at hb
  obtain ⟨e, rfl⟩ : ∃ e, d = e + 1 := ⟨d - 1, by omega⟩
  refine rn_aload_n (i := 0) rfl rfl ?_
  refine rn_iconst (x := (nI 2)) rfl (by decide) ?_
  obtain ⟨hrc, hb⟩ := grd_spec hb
  obtain ⟨p1, hc, hb⟩ := Option.bind_eq_some_iff.mp hb
  refine Rn.call1 (d := e) (As := [va_rf v0, .int (nI 2)]) (rest := []) rfl rfl rfl (by decide) rfl rfl rfl (bd_rcV hrc rfl) (by decide) (bd_lenC (n := 2) rfl (bd_slR (bd_slI bd_slN)) rfl) (bd_locC (n := 2) rfl (bd_slR (bd_slI bd_slN)) rfl (t_198 e (by omega) v0 (nI 2) h _ hc)) ?_
  obtain ⟨hz, hb⟩ := grd_spec hb
  obtain rfl := Option.some.inj hb
  exact rn_zret rfl rfl (of_decide_eq_true hz)
def b_210_334 (k307 : Option Nat → Int32 → Int32 → Hp → Option (Int32 × Hp)) (v0 : Option Nat) (v1 : Int32) (v2 : Int32)  (h : Hp) : Option (Int32 × Hp) :=
  (gI 11 8 v0 h).bind fun x1 =>
  if x1 ≤ (nI 3) then b_210_348 k307 v0 v1 v2  h else b_210_342 v0  h
theorem u_210_334 (d : Nat) (hd : 3 ≤ d) (k307 : Option Nat → Int32 → Int32 → Hp → Option (Int32 × Hp)) (K307 : ∀ (v0 : Option Nat) (v1 : Int32) (v2 : Int32) (v3 : Int32) (h : Hp) (r : Int32 × Hp), k307 v0 v1 v2 h = some r → Rn d 210 307 [some (va_rf v0), some (.int v1), some (.int v2), some (.int v3), none, none, none] [] h (some (.int r.1), r.2)) (v0 : Option Nat) (v1 : Int32) (v2 : Int32) (v3 : Int32)  (h : Hp) (r : Int32 × Hp) (hb : b_210_334 k307 v0 v1 v2  h = some r) : Rn d 210 334 [some (va_rf v0), some (.int v1), some (.int v2), some (.int v3), none, none, none] [] h (some (.int r.1), r.2) := by
  unfold b_210_334 at hb
  refine rn_aload_n (i := 0) rfl rfl ?_
  refine rn_gI (c := 11) (k := 8) rfl (by decide) hb (fun x1 hb => ?_)
  refine rn_iconst (x := (nI 3)) rfl (by decide) ?_
  refine rn_icmp_le rfl rfl (fun hc => ?_) (fun hc => ?_)
  · exact u_210_348 d hd k307 K307 v0 v1 v2 v3  h _ (if_t hb hc)
  · exact u_210_342 d hd v0 v1 v2 v3  h _ (if_f hb hc)
def b_210_328 (v0 : Option Nat)  (h : Hp) : Option (Int32 × Hp) :=
  (grd (rC 11 v0 h)).bind fun _ =>
  (f_198 v0 (nI 1) h).bind fun p1 =>
  (grd (decide (p1.1 = 0 ∨ p1.1 = 1))).bind fun _ => some (p1.1, p1.2)
theorem u_210_328 (d : Nat) (hd : 3 ≤ d) (v0 : Option Nat) (v1 : Int32) (v2 : Int32) (v3 : Int32)  (h : Hp) (r : Int32 × Hp) (hb : b_210_328 v0  h = some r) : Rn d 210 328 [some (va_rf v0), some (.int v1), some (.int v2), some (.int v3), none, none, none] [] h (some (.int r.1), r.2) := by
  unfold b_210_328 at hb
  obtain ⟨e, rfl⟩ : ∃ e, d = e + 1 := ⟨d - 1, by omega⟩
  refine rn_aload_n (i := 0) rfl rfl ?_
  refine rn_iconst (x := (nI 1)) rfl (by decide) ?_
  obtain ⟨hrc, hb⟩ := grd_spec hb
  obtain ⟨p1, hc, hb⟩ := Option.bind_eq_some_iff.mp hb
  refine Rn.call1 (d := e) (As := [va_rf v0, .int (nI 1)]) (rest := []) rfl rfl rfl (by decide) rfl rfl rfl (bd_rcV hrc rfl) (by decide) (bd_lenC (n := 2) rfl (bd_slR (bd_slI bd_slN)) rfl) (bd_locC (n := 2) rfl (bd_slR (bd_slI bd_slN)) rfl (t_198 e (by omega) v0 (nI 1) h _ hc)) ?_
  obtain ⟨hz, hb⟩ := grd_spec hb
  obtain rfl := Option.some.inj hb
  exact rn_zret rfl rfl (of_decide_eq_true hz)
def b_210_316 (k307 : Option Nat → Int32 → Int32 → Hp → Option (Int32 × Hp)) (v0 : Option Nat) (v1 : Int32) (v2 : Int32)  (h : Hp) : Option (Int32 × Hp) :=
  (grd (rC 11 v0 h)).bind fun _ =>
  (f_189 v0 h).bind fun p1 =>
  (gI 11 7 v0 p1).bind fun x2 =>
  if x2 = (nI 3) then b_210_334 k307 v0 v1 v2  p1 else b_210_328 v0  p1
theorem u_210_316 (d : Nat) (hd : 3 ≤ d) (k307 : Option Nat → Int32 → Int32 → Hp → Option (Int32 × Hp)) (K307 : ∀ (v0 : Option Nat) (v1 : Int32) (v2 : Int32) (v3 : Int32) (h : Hp) (r : Int32 × Hp), k307 v0 v1 v2 h = some r → Rn d 210 307 [some (va_rf v0), some (.int v1), some (.int v2), some (.int v3), none, none, none] [] h (some (.int r.1), r.2)) (v0 : Option Nat) (v1 : Int32) (v2 : Int32) (v3 : Int32)  (h : Hp) (r : Int32 × Hp) (hb : b_210_316 k307 v0 v1 v2  h = some r) : Rn d 210 316 [some (va_rf v0), some (.int v1), some (.int v2), some (.int v3), none, none, none] [] h (some (.int r.1), r.2) := by
  unfold b_210_316 at hb
  obtain ⟨e, rfl⟩ : ∃ e, d = e + 1 := ⟨d - 1, by omega⟩
  refine rn_aload_n (i := 0) rfl rfl ?_
  obtain ⟨hrc, hb⟩ := grd_spec hb
  obtain ⟨p1, hc, hb⟩ := Option.bind_eq_some_iff.mp hb
  refine Rn.call0 (d := e) (As := [va_rf v0]) (rest := []) rfl rfl rfl (by decide) rfl rfl rfl (bd_rcV hrc rfl) (by decide) (bd_lenC (n := 5) rfl (bd_slR bd_slN) rfl) (bd_locC (n := 5) rfl (bd_slR bd_slN) rfl (t_189 e (by omega) v0 h _ hc)) ?_
  refine rn_aload_n (i := 0) rfl rfl ?_
  refine rn_gI (c := 11) (k := 7) rfl (by decide) hb (fun x2 hb => ?_)
  refine rn_iconst (x := (nI 3)) rfl (by decide) ?_
  refine rn_icmp_eq rfl rfl (fun hc => ?_) (fun hc => ?_)
  · exact u_210_334 (e + 1) hd k307 K307 v0 v1 v2 v3  p1 _ (if_t hb hc)
  · exact u_210_328 (e + 1) hd v0 v1 v2 v3  p1 _ (if_f hb hc)
def b_210_307 (k307 : Option Nat → Int32 → Int32 → Hp → Option (Int32 × Hp)) (v0 : Option Nat) (v1 : Int32) (v2 : Int32)  (h : Hp) : Option (Int32 × Hp) :=
  (grd (rC 11 v0 h)).bind fun _ =>
  (f_193 v0 (nI 6) h).bind fun p1 =>
  if p1.1 = 0 then b_210_396 v0 v1 v2  p1.2 else b_210_316 k307 v0 v1 v2  p1.2
theorem u_210_307 (d : Nat) (hd : 3 ≤ d) (k307 : Option Nat → Int32 → Int32 → Hp → Option (Int32 × Hp)) (K307 : ∀ (v0 : Option Nat) (v1 : Int32) (v2 : Int32) (v3 : Int32) (h : Hp) (r : Int32 × Hp), k307 v0 v1 v2 h = some r → Rn d 210 307 [some (va_rf v0), some (.int v1), some (.int v2), some (.int v3), none, none, none] [] h (some (.int r.1), r.2)) (v0 : Option Nat) (v1 : Int32) (v2 : Int32) (v3 : Int32)  (h : Hp) (r : Int32 × Hp) (hb : b_210_307 k307 v0 v1 v2  h = some r) : Rn d 210 307 [some (va_rf v0), some (.int v1), some (.int v2), some (.int v3), none, none, none] [] h (some (.int r.1), r.2) := by
  unfold b_210_307 at hb
  obtain ⟨e, rfl⟩ : ∃ e, d = e + 1 := ⟨d - 1, by omega⟩
  refine rn_aload_n (i := 0) rfl rfl ?_
  refine rn_bipush (x := (nI 6)) rfl (by decide) ?_
  obtain ⟨hrc, hb⟩ := grd_spec hb
  obtain ⟨p1, hc, hb⟩ := Option.bind_eq_some_iff.mp hb
  refine Rn.call1 (d := e) (As := [va_rf v0, .int (nI 6)]) (rest := []) rfl rfl rfl (by decide) rfl rfl rfl (bd_rcV hrc rfl) (by decide) (bd_lenC (n := 2) rfl (bd_slR (bd_slI bd_slN)) rfl) (bd_locC (n := 2) rfl (bd_slR (bd_slI bd_slN)) rfl (t_193 e (by omega) v0 (nI 6) h _ hc)) ?_
  refine rn_if_eq rfl rfl (fun hc => ?_) (fun hc => ?_)
  · exact u_210_396 (e + 1) hd v0 v1 v2 v3  p1.2 _ (if_t hb hc)
  · exact u_210_316 (e + 1) hd k307 K307 v0 v1 v2 v3  p1.2 _ (if_f hb hc)
def l_210_307 : Nat → Option Nat → Int32 → Int32 → Hp → Option (Int32 × Hp)
  | 0, _, _, _, _ => none
  | n + 1, v0, v1, v2, h => b_210_307 (l_210_307 n) v0 v1 v2 h
theorem w_210_307 (d : Nat) (hd : 3 ≤ d) : ∀ (n : Nat) (v0 : Option Nat) (v1 : Int32) (v2 : Int32) (v3 : Int32) (h : Hp) (r : Int32 × Hp), l_210_307 n v0 v1 v2 h = some r → Rn d 210 307 [some (va_rf v0), some (.int v1), some (.int v2), some (.int v3), none, none, none] [] h (some (.int r.1), r.2) := by
  intro n
  induction n with
  | zero => intro v0 v1 v2 v3 h r hb; cases hb
  | succ n ih => intro v0 v1 v2 v3 h r hb; exact u_210_307 d hd (l_210_307 n) ih v0 v1 v2 v3 h r hb
def b_210_281 (v0 : Option Nat) (v1 : Int32) (v2 : Int32)  (h : Hp) : Option (Int32 × Hp) :=
  (gQ 11 15 v0 h).bind fun x1 =>
  (gI 11 13 v0 h).bind fun x2 =>
  (wI x1 (v2 + (nI 4)) x2 h).bind fun h3 =>
  (gQ 11 15 v0 h3).bind fun x4 =>
  (gI 11 13 v0 h3).bind fun x5 =>
  (wI x4 (v2 + (nI 5)) ((nI 1) <<< (x5 &&& 31)) h3).bind fun h6 =>
  l_210_307 FU v0 v1 v2 h6
theorem u_210_281 (d : Nat) (hd : 3 ≤ d) (v0 : Option Nat) (v1 : Int32) (v2 : Int32) (v3 : Int32)  (h : Hp) (r : Int32 × Hp) (hb : b_210_281 v0 v1 v2  h = some r) : Rn d 210 281 [some (va_rf v0), some (.int v1), some (.int v2), some (.int v3), none, none, none] [] h (some (.int r.1), r.2) := by
  unfold b_210_281 at hb
  refine rn_aload_n (i := 0) rfl rfl ?_
  refine rn_gQ (c := 11) (k := 15) rfl (by decide) hb (fun x1 hb => ?_)
  refine rn_iload_n (i := 2) rfl rfl ?_
  refine rn_iconst (x := (nI 4)) rfl (by decide) ?_
  refine rn_iadd rfl ?_
  refine rn_aload_n (i := 0) rfl rfl ?_
  refine rn_gI (c := 11) (k := 13) rfl (by decide) hb (fun x2 hb => ?_)
  refine rn_wI rfl hb (fun h3 hb => ?_)
  refine rn_aload_n (i := 0) rfl rfl ?_
  refine rn_gQ (c := 11) (k := 15) rfl (by decide) hb (fun x4 hb => ?_)
  refine rn_iload_n (i := 2) rfl rfl ?_
  refine rn_iconst (x := (nI 5)) rfl (by decide) ?_
  refine rn_iadd rfl ?_
  refine rn_iconst (x := (nI 1)) rfl (by decide) ?_
  refine rn_aload_n (i := 0) rfl rfl ?_
  refine rn_gI (c := 11) (k := 13) rfl (by decide) hb (fun x5 hb => ?_)
  refine rn_ishl rfl ?_
  refine rn_wI rfl hb (fun h6 hb => ?_)
  exact w_210_307 d hd FU v0 v1 v2 v3 h6 _ hb
def b_210_279   (h : Hp) : Option (Int32 × Hp) :=
  (grd (decide ((nI 0) = 0 ∨ (nI 0) = 1))).bind fun _ => some ((nI 0), h)
theorem u_210_279 (d : Nat) (hd : 3 ≤ d) (v0 : Option Nat) (v1 : Int32) (v2 : Int32) (v3 : Int32)  (h : Hp) (r : Int32 × Hp) (hb : b_210_279   h = some r) : Rn d 210 279 [some (va_rf v0), some (.int v1), some (.int v2), some (.int v3), none, none, none] [] h (some (.int r.1), r.2) := by
  unfold b_210_279 at hb
  refine rn_iconst (x := (nI 0)) rfl (by decide) ?_
  obtain ⟨hz, hb⟩ := grd_spec hb
  obtain rfl := Option.some.inj hb
  exact rn_zret rfl rfl (of_decide_eq_true hz)
def b_210_254 (v0 : Option Nat) (v1 : Int32) (v2 : Int32)  (h : Hp) : Option (Int32 × Hp) :=
  (gQ 11 15 v0 h).bind fun x1 =>
  (gI 11 8 v0 h).bind fun x2 =>
  (wI x1 (v2 + (nI 3)) x2 h).bind fun h3 =>
  (grd (rC 11 v0 h3)).bind fun _ =>
  (f_189 v0 h3).bind fun p4 =>
  (grd (rC 11 v0 p4)).bind fun _ =>
  (f_199 v0 (nI 0) (nI 3) p4).bind fun p5 =>
  if ¬ p5.1 = 0 then b_210_281 v0 v1 v2  p5.2 else b_210_279   p5.2
theorem u_210_254 (d : Nat) (hd : 3 ≤ d) (v0 : Option Nat) (v1 : Int32) (v2 : Int32) (v3 : Int32)  (h : Hp) (r : Int32 × Hp) (hb : b_210_254 v0 v1 v2  h = some r) : Rn d 210 254 [some (va_rf v0), some (.int v1), some (.int v2), some (.int v3), none, none, none] [] h (some (.int r.1), r.2) := by
  unfold b_210_254 at hb
  obtain ⟨e, rfl⟩ : ∃ e, d = e + 1 := ⟨d - 1, by omega⟩
  refine rn_aload_n (i := 0) rfl rfl ?_
  refine rn_gQ (c := 11) (k := 15) rfl (by decide) hb (fun x1 hb => ?_)
  refine rn_iload_n (i := 2) rfl rfl ?_
  refine rn_iconst (x := (nI 3)) rfl (by decide) ?_
  refine rn_iadd rfl ?_
  refine rn_aload_n (i := 0) rfl rfl ?_
  refine rn_gI (c := 11) (k := 8) rfl (by decide) hb (fun x2 hb => ?_)
  refine rn_wI rfl hb (fun h3 hb => ?_)
  refine rn_aload_n (i := 0) rfl rfl ?_
  obtain ⟨hrc, hb⟩ := grd_spec hb
  obtain ⟨p4, hc, hb⟩ := Option.bind_eq_some_iff.mp hb
  refine Rn.call0 (d := e) (As := [va_rf v0]) (rest := []) rfl rfl rfl (by decide) rfl rfl rfl (bd_rcV hrc rfl) (by decide) (bd_lenC (n := 5) rfl (bd_slR bd_slN) rfl) (bd_locC (n := 5) rfl (bd_slR bd_slN) rfl (t_189 e (by omega) v0 h3 _ hc)) ?_
  refine rn_aload_n (i := 0) rfl rfl ?_
  refine rn_iconst (x := (nI 0)) rfl (by decide) ?_
  refine rn_iconst (x := (nI 3)) rfl (by decide) ?_
  obtain ⟨hrc, hb⟩ := grd_spec hb
  obtain ⟨p5, hc, hb⟩ := Option.bind_eq_some_iff.mp hb
  refine Rn.call1 (d := e) (As := [va_rf v0, .int (nI 0), .int (nI 3)]) (rest := []) rfl rfl rfl (by decide) rfl rfl rfl (bd_rcV hrc rfl) (by decide) (bd_lenC (n := 3) rfl (bd_slR (bd_slI (bd_slI bd_slN))) rfl) (bd_locC (n := 3) rfl (bd_slR (bd_slI (bd_slI bd_slN))) rfl (t_199 e (by omega) v0 (nI 0) (nI 3) p4 _ hc)) ?_
  refine rn_if_ne rfl rfl (fun hc => ?_) (fun hc => ?_)
  · exact u_210_281 (e + 1) hd v0 v1 v2 v3  p5.2 _ (if_t hb hc)
  · exact u_210_279 (e + 1) hd v0 v1 v2 v3  p5.2 _ (if_f hb hc)
def b_210_248 (v0 : Option Nat) (v3 : Int32)  (h : Hp) : Option (Int32 × Hp) :=
  (grd (rC 11 v0 h)).bind fun _ =>
  (f_198 v0 v3 h).bind fun p1 =>
  (grd (decide (p1.1 = 0 ∨ p1.1 = 1))).bind fun _ => some (p1.1, p1.2)
theorem u_210_248 (d : Nat) (hd : 3 ≤ d) (v0 : Option Nat) (v1 : Int32) (v2 : Int32) (v3 : Int32)  (h : Hp) (r : Int32 × Hp) (hb : b_210_248 v0 v3  h = some r) : Rn d 210 248 [some (va_rf v0), some (.int v1), some (.int v2), some (.int v3), none, none, none] [] h (some (.int r.1), r.2) := by
  unfold b_210_248 at hb
  obtain ⟨e, rfl⟩ : ∃ e, d = e + 1 := ⟨d - 1, by omega⟩
  refine rn_aload_n (i := 0) rfl rfl ?_
  refine rn_iload_n (i := 3) rfl rfl ?_
  obtain ⟨hrc, hb⟩ := grd_spec hb
  obtain ⟨p1, hc, hb⟩ := Option.bind_eq_some_iff.mp hb
  refine Rn.call1 (d := e) (As := [va_rf v0, .int v3]) (rest := []) rfl rfl rfl (by decide) rfl rfl rfl (bd_rcV hrc rfl) (by decide) (bd_lenC (n := 2) rfl (bd_slR (bd_slI bd_slN)) rfl) (bd_locC (n := 2) rfl (bd_slR (bd_slI bd_slN)) rfl (t_198 e (by omega) v0 v3 h _ hc)) ?_
  obtain ⟨hz, hb⟩ := grd_spec hb
  obtain rfl := Option.some.inj hb
  exact rn_zret rfl rfl (of_decide_eq_true hz)
def b_210_211 (v0 : Option Nat) (v1 : Int32) (v2 : Int32)  (h : Hp) : Option (Int32 × Hp) :=
  (gQ 11 15 v0 h).bind fun x1 =>
  (aI 12 x1 (v2 + (nI 0)) h).bind fun x2 =>
  (gQ 11 15 v0 h).bind fun x3 =>
  (aI 12 x3 (v2 + (nI 1)) h).bind fun x4 =>
  (gQ 11 15 v0 h).bind fun x5 =>
  (aI 12 x5 (v2 + (nI 2)) h).bind fun x6 =>
  (gI 11 8 v0 h).bind fun x7 =>
  (grd (rC 11 v0 h)).bind fun _ =>
  (f_209 v0 x2 x4 x6 x7 h).bind fun p8 =>
  bnd (p8.1) fun x9 =>
  if x9 ≤ 0 then b_210_254 v0 v1 v2  p8.2 else b_210_248 v0 x9  p8.2
theorem u_210_211 (d : Nat) (hd : 3 ≤ d) (v0 : Option Nat) (v1 : Int32) (v2 : Int32)  (h : Hp) (r : Int32 × Hp) (hb : b_210_211 v0 v1 v2  h = some r) : Rn d 210 211 [some (va_rf v0), some (.int v1), some (.int v2), none, none, none, none] [] h (some (.int r.1), r.2) := by
  unfold b_210_211 at hb
  obtain ⟨e, rfl⟩ : ∃ e, d = e + 1 := ⟨d - 1, by omega⟩
  refine rn_aload_n (i := 0) rfl rfl ?_
  refine rn_aload_n (i := 0) rfl rfl ?_
  refine rn_gQ (c := 11) (k := 15) rfl (by decide) hb (fun x1 hb => ?_)
  refine rn_iload_n (i := 2) rfl rfl ?_
  refine rn_iconst (x := (nI 0)) rfl (by decide) ?_
  refine rn_iadd rfl ?_
  refine rn_aI rfl hb (fun x2 hb => ?_)
  refine rn_aload_n (i := 0) rfl rfl ?_
  refine rn_gQ (c := 11) (k := 15) rfl (by decide) hb (fun x3 hb => ?_)
  refine rn_iload_n (i := 2) rfl rfl ?_
  refine rn_iconst (x := (nI 1)) rfl (by decide) ?_
  refine rn_iadd rfl ?_
  refine rn_aI rfl hb (fun x4 hb => ?_)
  refine rn_aload_n (i := 0) rfl rfl ?_
  refine rn_gQ (c := 11) (k := 15) rfl (by decide) hb (fun x5 hb => ?_)
  refine rn_iload_n (i := 2) rfl rfl ?_
  refine rn_iconst (x := (nI 2)) rfl (by decide) ?_
  refine rn_iadd rfl ?_
  refine rn_aI rfl hb (fun x6 hb => ?_)
  refine rn_aload_n (i := 0) rfl rfl ?_
  refine rn_gI (c := 11) (k := 8) rfl (by decide) hb (fun x7 hb => ?_)
  obtain ⟨hrc, hb⟩ := grd_spec hb
  obtain ⟨p8, hc, hb⟩ := Option.bind_eq_some_iff.mp hb
  refine Rn.call1 (d := e) (As := [va_rf v0, .int x2, .int x4, .int x6, .int x7]) (rest := []) rfl rfl rfl (by decide) rfl rfl rfl (bd_rcV hrc rfl) (by decide) (bd_lenC (n := 9) rfl (bd_slR (bd_slI (bd_slI (bd_slI (bd_slI bd_slN))))) rfl) (bd_locC (n := 9) rfl (bd_slR (bd_slI (bd_slI (bd_slI (bd_slI bd_slN))))) rfl (t_209 e (by omega) v0 x2 x4 x6 x7 h _ hc)) ?_
  obtain ⟨x9, ex9, hb⟩ := bnd_spec hb
  refine rn_istore_n (i := 3) (L1 := [some (va_rf v0), some (.int v1), some (.int v2), some (.int x9), none, none, none]) rfl (Nat.le_of_ble_eq_true rfl) (Or.inr rfl) (by rw [ex9]; rfl) ?_
  refine rn_iload_n (i := 3) rfl rfl ?_
  refine rn_if_le rfl rfl (fun hc => ?_) (fun hc => ?_)
  · exact u_210_254 (e + 1) hd v0 v1 v2 x9  p8.2 _ (if_t hb hc)
  · exact u_210_248 (e + 1) hd v0 v1 v2 x9  p8.2 _ (if_f hb hc)
def b_210_205 (v0 : Option Nat)  (h : Hp) : Option (Int32 × Hp) :=
  (grd (rC 11 v0 h)).bind fun _ =>
  (f_198 v0 (nI 2) h).bind fun p1 =>
  (grd (decide (p1.1 = 0 ∨ p1.1 = 1))).bind fun _ => some (p1.1, p1.2)
theorem u_210_205 (d : Nat) (hd : 3 ≤ d) (v0 : Option Nat) (v1 : Int32) (v2 : Int32)  (h : Hp) (r : Int32 × Hp) (hb : b_210_205 v0  h = some r) : Rn d 210 205 [some (va_rf v0), some (.int v1), some (.int v2), none, none, none, none] [] h (some (.int r.1), r.2) := by
  unfold b_210_205 at hb
  obtain ⟨e, rfl⟩ : ∃ e, d = e + 1 := ⟨d - 1, by omega⟩
  refine rn_aload_n (i := 0) rfl rfl ?_
  refine rn_iconst (x := (nI 2)) rfl (by decide) ?_
  obtain ⟨hrc, hb⟩ := grd_spec hb
  obtain ⟨p1, hc, hb⟩ := Option.bind_eq_some_iff.mp hb
  refine Rn.call1 (d := e) (As := [va_rf v0, .int (nI 2)]) (rest := []) rfl rfl rfl (by decide) rfl rfl rfl (bd_rcV hrc rfl) (by decide) (bd_lenC (n := 2) rfl (bd_slR (bd_slI bd_slN)) rfl) (bd_locC (n := 2) rfl (bd_slR (bd_slI bd_slN)) rfl (t_198 e (by omega) v0 (nI 2) h _ hc)) ?_
  obtain ⟨hz, hb⟩ := grd_spec hb
  obtain rfl := Option.some.inj hb
  exact rn_zret rfl rfl (of_decide_eq_true hz)
def b_210_193 (v0 : Option Nat) (v1 : Int32) (v2 : Int32)  (h : Hp) : Option (Int32 × Hp) :=
  (gI 11 8 v0 h).bind fun x1 =>
  (f_182 x1 (nI 1) (nI 3) h).bind fun p2 =>
  if ¬ p2.1 = 0 then b_210_211 v0 v1 v2  p2.2 else b_210_205 v0  p2.2
theorem u_210_193 (d : Nat) (hd : 3 ≤ d) (v0 : Option Nat) (v1 : Int32) (v2 : Int32)  (h : Hp) (r : Int32 × Hp) (hb : b_210_193 v0 v1 v2  h = some r) : Rn d 210 193 [some (va_rf v0), some (.int v1), some (.int v2), none, none, none, none] [] h (some (.int r.1), r.2) := by
  unfold b_210_193 at hb
  obtain ⟨e, rfl⟩ : ∃ e, d = e + 1 := ⟨d - 1, by omega⟩
  refine rn_aload_n (i := 0) rfl rfl ?_
  refine rn_gI (c := 11) (k := 8) rfl (by decide) hb (fun x1 hb => ?_)
  refine rn_iconst (x := (nI 1)) rfl (by decide) ?_
  refine rn_iconst (x := (nI 3)) rfl (by decide) ?_
  obtain ⟨p2, hc, hb⟩ := Option.bind_eq_some_iff.mp hb
  refine Rn.call1 (d := e) (As := [.int x1, .int (nI 1), .int (nI 3)]) (rest := []) rfl rfl rfl (by decide) rfl rfl rfl rfl (by decide) (bd_lenC (n := 3) rfl (bd_slI (bd_slI (bd_slI bd_slN))) rfl) (bd_locC (n := 3) rfl (bd_slI (bd_slI (bd_slI bd_slN))) rfl (t_182 e (by omega) x1 (nI 1) (nI 3) h _ hc)) ?_
  refine rn_if_ne rfl rfl (fun hc => ?_) (fun hc => ?_)
  · exact u_210_211 (e + 1) hd v0 v1 v2  p2.2 _ (if_t hb hc)
  · exact u_210_205 (e + 1) hd v0 v1 v2  p2.2 _ (if_f hb hc)
def b_210_187 (v0 : Option Nat)  (h : Hp) : Option (Int32 × Hp) :=
  (grd (rC 11 v0 h)).bind fun _ =>
  (f_198 v0 (nI 1) h).bind fun p1 =>
  (grd (decide (p1.1 = 0 ∨ p1.1 = 1))).bind fun _ => some (p1.1, p1.2)
theorem u_210_187 (d : Nat) (hd : 3 ≤ d) (v0 : Option Nat) (v1 : Int32) (v2 : Int32)  (h : Hp) (r : Int32 × Hp) (hb : b_210_187 v0  h = some r) : Rn d 210 187 [some (va_rf v0), some (.int v1), some (.int v2), none, none, none, none] [] h (some (.int r.1), r.2) := by
  unfold b_210_187 at hb
  obtain ⟨e, rfl⟩ : ∃ e, d = e + 1 := ⟨d - 1, by omega⟩
  refine rn_aload_n (i := 0) rfl rfl ?_
  refine rn_iconst (x := (nI 1)) rfl (by decide) ?_
  obtain ⟨hrc, hb⟩ := grd_spec hb
  obtain ⟨p1, hc, hb⟩ := Option.bind_eq_some_iff.mp hb
  refine Rn.call1 (d := e) (As := [va_rf v0, .int (nI 1)]) (rest := []) rfl rfl rfl (by decide) rfl rfl rfl (bd_rcV hrc rfl) (by decide) (bd_lenC (n := 2) rfl (bd_slR (bd_slI bd_slN)) rfl) (bd_locC (n := 2) rfl (bd_slR (bd_slI bd_slN)) rfl (t_198 e (by omega) v0 (nI 1) h _ hc)) ?_
  obtain ⟨hz, hb⟩ := grd_spec hb
  obtain rfl := Option.some.inj hb
  exact rn_zret rfl rfl (of_decide_eq_true hz)
def b_210_174 (v0 : Option Nat) (v1 : Int32) (v2 : Int32) (s0 : Option Nat) (s1 : Int32) (s2 : Int32) (h : Hp) : Option (Int32 × Hp) :=
  (wI s0 s1 s2 h).bind fun h1 =>
  (grd (rC 11 v0 h1)).bind fun _ =>
  (f_189 v0 h1).bind fun p2 =>
  (gI 11 7 v0 p2).bind fun x3 =>
  if x3 = (nI 3) then b_210_193 v0 v1 v2  p2 else b_210_187 v0  p2
theorem u_210_174 (d : Nat) (hd : 3 ≤ d) (v0 : Option Nat) (v1 : Int32) (v2 : Int32) (s0 : Option Nat) (s1 : Int32) (s2 : Int32) (h : Hp) (r : Int32 × Hp) (hb : b_210_174 v0 v1 v2 s0 s1 s2 h = some r) : Rn d 210 174 [some (va_rf v0), some (.int v1), some (.int v2), none, none, none, none] [.int s2, .int s1, va_rf s0] h (some (.int r.1), r.2) := by
  unfold b_210_174 at hb
  obtain ⟨e, rfl⟩ : ∃ e, d = e + 1 := ⟨d - 1, by omega⟩
  refine rn_wI rfl hb (fun h1 hb => ?_)
  refine rn_aload_n (i := 0) rfl rfl ?_
  obtain ⟨hrc, hb⟩ := grd_spec hb
  obtain ⟨p2, hc, hb⟩ := Option.bind_eq_some_iff.mp hb
  refine Rn.call0 (d := e) (As := [va_rf v0]) (rest := []) rfl rfl rfl (by decide) rfl rfl rfl (bd_rcV hrc rfl) (by decide) (bd_lenC (n := 5) rfl (bd_slR bd_slN) rfl) (bd_locC (n := 5) rfl (bd_slR bd_slN) rfl (t_189 e (by omega) v0 h1 _ hc)) ?_
  refine rn_aload_n (i := 0) rfl rfl ?_
  refine rn_gI (c := 11) (k := 7) rfl (by decide) hb (fun x3 hb => ?_)
  refine rn_iconst (x := (nI 3)) rfl (by decide) ?_
  refine rn_icmp_eq rfl rfl (fun hc => ?_) (fun hc => ?_)
  · exact u_210_193 (e + 1) hd v0 v1 v2  p2 _ (if_t hb hc)
  · exact u_210_187 (e + 1) hd v0 v1 v2  p2 _ (if_f hb hc)
def b_210_173 (v0 : Option Nat) (v1 : Int32) (v2 : Int32) (s0 : Option Nat) (s1 : Int32) (h : Hp) : Option (Int32 × Hp) :=
  b_210_174 v0 v1 v2 s0 s1 (nI 0) h
theorem u_210_173 (d : Nat) (hd : 3 ≤ d) (v0 : Option Nat) (v1 : Int32) (v2 : Int32) (s0 : Option Nat) (s1 : Int32) (h : Hp) (r : Int32 × Hp) (hb : b_210_173 v0 v1 v2 s0 s1 h = some r) : Rn d 210 173 [some (va_rf v0), some (.int v1), some (.int v2), none, none, none, none] [.int s1, va_rf s0] h (some (.int r.1), r.2) := by
  unfold b_210_173 at hb
  refine rn_iconst (x := (nI 0)) rfl (by decide) ?_
  exact u_210_174 d hd v0 v1 v2 s0 s1 (nI 0) h _ hb
def b_210_169 (v0 : Option Nat) (v1 : Int32) (v2 : Int32) (s0 : Option Nat) (s1 : Int32) (h : Hp) : Option (Int32 × Hp) :=
  b_210_174 v0 v1 v2 s0 s1 (nI 1) h
theorem u_210_169 (d : Nat) (hd : 3 ≤ d) (v0 : Option Nat) (v1 : Int32) (v2 : Int32) (s0 : Option Nat) (s1 : Int32) (h : Hp) (r : Int32 × Hp) (hb : b_210_169 v0 v1 v2 s0 s1 h = some r) : Rn d 210 169 [some (va_rf v0), some (.int v1), some (.int v2), none, none, none, none] [.int s1, va_rf s0] h (some (.int r.1), r.2) := by
  unfold b_210_169 at hb
  refine rn_iconst (x := (nI 1)) rfl (by decide) ?_
  refine rn_goto rfl rfl ?_
  exact u_210_174 d hd v0 v1 v2 s0 s1 (nI 1) h _ hb
def b_210_154 (v0 : Option Nat) (v1 : Int32) (v2 : Int32)  (h : Hp) : Option (Int32 × Hp) :=
  (gQ 11 15 v0 h).bind fun x1 =>
  (grd (rC 11 v0 h)).bind fun _ =>
  (f_193 v0 (nI 5) h).bind fun p2 =>
  if p2.1 = 0 then b_210_173 v0 v1 v2 x1 (v2 + (nI 2)) p2.2 else b_210_169 v0 v1 v2 x1 (v2 + (nI 2)) p2.2
theorem u_210_154 (d : Nat) (hd : 3 ≤ d) (v0 : Option Nat) (v1 : Int32) (v2 : Int32)  (h : Hp) (r : Int32 × Hp) (hb : b_210_154 v0 v1 v2  h = some r) : Rn d 210 154 [some (va_rf v0), some (.int v1), some (.int v2), none, none, none, none] [] h (some (.int r.1), r.2) := by
  unfold b_210_154 at hb
  obtain ⟨e, rfl⟩ : ∃ e, d = e + 1 := ⟨d - 1, by omega⟩
  refine rn_aload_n (i := 0) rfl rfl ?_
  refine rn_gQ (c := 11) (k := 15) rfl (by decide) hb (fun x1 hb => ?_)
  refine rn_iload_n (i := 2) rfl rfl ?_
  refine rn_iconst (x := (nI 2)) rfl (by decide) ?_
  refine rn_iadd rfl ?_
  refine rn_aload_n (i := 0) rfl rfl ?_
  refine rn_iconst (x := (nI 5)) rfl (by decide) ?_
  obtain ⟨hrc, hb⟩ := grd_spec hb
  obtain ⟨p2, hc, hb⟩ := Option.bind_eq_some_iff.mp hb
  refine Rn.call1 (d := e) (As := [va_rf v0, .int (nI 5)]) (rest := [.int (v2 + (nI 2)), va_rf x1]) rfl rfl rfl (by decide) rfl rfl rfl (bd_rcV hrc rfl) (by rw [bd_cI (bd_cR (bd_cN))]; decide) (bd_lenC (n := 2) rfl (bd_slR (bd_slI bd_slN)) rfl) (bd_locC (n := 2) rfl (bd_slR (bd_slI bd_slN)) rfl (t_193 e (by omega) v0 (nI 5) h _ hc)) ?_
  refine rn_if_eq rfl rfl (fun hc => ?_) (fun hc => ?_)
  · exact u_210_173 (e + 1) hd v0 v1 v2 x1 (v2 + (nI 2)) p2.2 _ (if_t hb hc)
  · exact u_210_169 (e + 1) hd v0 v1 v2 x1 (v2 + (nI 2)) p2.2 _ (if_f hb hc)
def b_210_148 (v0 : Option Nat)  (h : Hp) : Option (Int32 × Hp) :=
  (grd (rC 11 v0 h)).bind fun _ =>
  (f_198 v0 (nI 1) h).bind fun p1 =>
  (grd (decide (p1.1 = 0 ∨ p1.1 = 1))).bind fun _ => some (p1.1, p1.2)
theorem u_210_148 (d : Nat) (hd : 3 ≤ d) (v0 : Option Nat) (v1 : Int32) (v2 : Int32)  (h : Hp) (r : Int32 × Hp) (hb : b_210_148 v0  h = some r) : Rn d 210 148 [some (va_rf v0), some (.int v1), some (.int v2), none, none, none, none] [] h (some (.int r.1), r.2) := by
  unfold b_210_148 at hb
  obtain ⟨e, rfl⟩ : ∃ e, d = e + 1 := ⟨d - 1, by omega⟩
  refine rn_aload_n (i := 0) rfl rfl ?_
  refine rn_iconst (x := (nI 1)) rfl (by decide) ?_
  obtain ⟨hrc, hb⟩ := grd_spec hb
  obtain ⟨p1, hc, hb⟩ := Option.bind_eq_some_iff.mp hb
  refine Rn.call1 (d := e) (As := [va_rf v0, .int (nI 1)]) (rest := []) rfl rfl rfl (by decide) rfl rfl rfl (bd_rcV hrc rfl) (by decide) (bd_lenC (n := 2) rfl (bd_slR (bd_slI bd_slN)) rfl) (bd_locC (n := 2) rfl (bd_slR (bd_slI bd_slN)) rfl (t_198 e (by omega) v0 (nI 1) h _ hc)) ?_
  obtain ⟨hz, hb⟩ := grd_spec hb
  obtain rfl := Option.some.inj hb
  exact rn_zret rfl rfl (of_decide_eq_true hz)
def b_210_140 (v0 : Option Nat) (v1 : Int32) (v2 : Int32)  (h : Hp) : Option (Int32 × Hp) :=
  (grd (rC 11 v0 h)).bind fun _ =>
  (f_193 v0 (nI 5) h).bind fun p1 =>
  if ¬ p1.1 = 0 then b_210_154 v0 v1 v2  p1.2 else b_210_148 v0  p1.2
theorem u_210_140 (d : Nat) (hd : 3 ≤ d) (v0 : Option Nat) (v1 : Int32) (v2 : Int32)  (h : Hp) (r : Int32 × Hp) (hb : b_210_140 v0 v1 v2  h = some r) : Rn d 210 140 [some (va_rf v0), some (.int v1), some (.int v2), none, none, none, none] [] h (some (.int r.1), r.2) := by
  unfold b_210_140 at hb
  obtain ⟨e, rfl⟩ : ∃ e, d = e + 1 := ⟨d - 1, by omega⟩
  refine rn_aload_n (i := 0) rfl rfl ?_
  refine rn_iconst (x := (nI 5)) rfl (by decide) ?_
  obtain ⟨hrc, hb⟩ := grd_spec hb
  obtain ⟨p1, hc, hb⟩ := Option.bind_eq_some_iff.mp hb
  refine Rn.call1 (d := e) (As := [va_rf v0, .int (nI 5)]) (rest := []) rfl rfl rfl (by decide) rfl rfl rfl (bd_rcV hrc rfl) (by decide) (bd_lenC (n := 2) rfl (bd_slR (bd_slI bd_slN)) rfl) (bd_locC (n := 2) rfl (bd_slR (bd_slI bd_slN)) rfl (t_193 e (by omega) v0 (nI 5) h _ hc)) ?_
  refine rn_if_ne rfl rfl (fun hc => ?_) (fun hc => ?_)
  · exact u_210_154 (e + 1) hd v0 v1 v2  p1.2 _ (if_t hb hc)
  · exact u_210_148 (e + 1) hd v0 v1 v2  p1.2 _ (if_f hb hc)
def b_210_120 (v0 : Option Nat) (v1 : Int32) (v2 : Int32)  (h : Hp) : Option (Int32 × Hp) :=
  (gQ 11 15 v0 h).bind fun x1 =>
  (gI 11 13 v0 h).bind fun x2 =>
  (wI x1 (v2 + (nI 1)) x2 h).bind fun h3 =>
  (grd (rC 11 v0 h3)).bind fun _ =>
  (f_193 v0 (nI 4) h3).bind fun p4 =>
  if ¬ p4.1 = 0 then b_210_154 v0 v1 v2  p4.2 else b_210_140 v0 v1 v2  p4.2
theorem u_210_120 (d : Nat) (hd : 3 ≤ d) (v0 : Option Nat) (v1 : Int32) (v2 : Int32)  (h : Hp) (r : Int32 × Hp) (hb : b_210_120 v0 v1 v2  h = some r) : Rn d 210 120 [some (va_rf v0), some (.int v1), some (.int v2), none, none, none, none] [] h (some (.int r.1), r.2) := by
  unfold b_210_120 at hb
  obtain ⟨e, rfl⟩ : ∃ e, d = e + 1 := ⟨d - 1, by omega⟩
  refine rn_aload_n (i := 0) rfl rfl ?_
  refine rn_gQ (c := 11) (k := 15) rfl (by decide) hb (fun x1 hb => ?_)
  refine rn_iload_n (i := 2) rfl rfl ?_
  refine rn_iconst (x := (nI 1)) rfl (by decide) ?_
  refine rn_iadd rfl ?_
  refine rn_aload_n (i := 0) rfl rfl ?_
  refine rn_gI (c := 11) (k := 13) rfl (by decide) hb (fun x2 hb => ?_)
  refine rn_wI rfl hb (fun h3 hb => ?_)
  refine rn_aload_n (i := 0) rfl rfl ?_
  refine rn_iconst (x := (nI 4)) rfl (by decide) ?_
  obtain ⟨hrc, hb⟩ := grd_spec hb
  obtain ⟨p4, hc, hb⟩ := Option.bind_eq_some_iff.mp hb
  refine Rn.call1 (d := e) (As := [va_rf v0, .int (nI 4)]) (rest := []) rfl rfl rfl (by decide) rfl rfl rfl (bd_rcV hrc rfl) (by decide) (bd_lenC (n := 2) rfl (bd_slR (bd_slI bd_slN)) rfl) (bd_locC (n := 2) rfl (bd_slR (bd_slI bd_slN)) rfl (t_193 e (by omega) v0 (nI 4) h3 _ hc)) ?_
  refine rn_if_ne rfl rfl (fun hc => ?_) (fun hc => ?_)
  · exact u_210_154 (e + 1) hd v0 v1 v2  p4.2 _ (if_t hb hc)
  · exact u_210_140 (e + 1) hd v0 v1 v2  p4.2 _ (if_f hb hc)
def b_210_118   (h : Hp) : Option (Int32 × Hp) :=
  (grd (decide ((nI 0) = 0 ∨ (nI 0) = 1))).bind fun _ => some ((nI 0), h)
theorem u_210_118 (d : Nat) (hd : 3 ≤ d) (v0 : Option Nat) (v1 : Int32) (v2 : Int32)  (h : Hp) (r : Int32 × Hp) (hb : b_210_118   h = some r) : Rn d 210 118 [some (va_rf v0), some (.int v1), some (.int v2), none, none, none, none] [] h (some (.int r.1), r.2) := by
  unfold b_210_118 at hb
  refine rn_iconst (x := (nI 0)) rfl (by decide) ?_
  obtain ⟨hz, hb⟩ := grd_spec hb
  obtain rfl := Option.some.inj hb
  exact rn_zret rfl rfl (of_decide_eq_true hz)
def b_210_90 (v0 : Option Nat) (v1 : Int32) (v2 : Int32)  (h : Hp) : Option (Int32 × Hp) :=
  (gQ 11 15 v0 h).bind fun x1 =>
  (gI 11 13 v0 h).bind fun x2 =>
  (wI x1 (v2 + (nI 0)) x2 h).bind fun h3 =>
  (gQ 11 15 v0 h3).bind fun x4 =>
  (aI 12 x4 (nI 1) h3).bind fun x5 =>
  (grd (rC 11 v0 h3)).bind fun _ =>
  (f_199 v0 (nI 0) (x5 - (nI 1)) h3).bind fun p6 =>
  if ¬ p6.1 = 0 then b_210_120 v0 v1 v2  p6.2 else b_210_118   p6.2
theorem u_210_90 (d : Nat) (hd : 3 ≤ d) (v0 : Option Nat) (v1 : Int32) (v2 : Int32)  (h : Hp) (r : Int32 × Hp) (hb : b_210_90 v0 v1 v2  h = some r) : Rn d 210 90 [some (va_rf v0), some (.int v1), some (.int v2), none, none, none, none] [] h (some (.int r.1), r.2) := by
  unfold b_210_90 at hb
  obtain ⟨e, rfl⟩ : ∃ e, d = e + 1 := ⟨d - 1, by omega⟩
  refine rn_aload_n (i := 0) rfl rfl ?_
  refine rn_gQ (c := 11) (k := 15) rfl (by decide) hb (fun x1 hb => ?_)
  refine rn_iload_n (i := 2) rfl rfl ?_
  refine rn_iconst (x := (nI 0)) rfl (by decide) ?_
  refine rn_iadd rfl ?_
  refine rn_aload_n (i := 0) rfl rfl ?_
  refine rn_gI (c := 11) (k := 13) rfl (by decide) hb (fun x2 hb => ?_)
  refine rn_wI rfl hb (fun h3 hb => ?_)
  refine rn_aload_n (i := 0) rfl rfl ?_
  refine rn_iconst (x := (nI 0)) rfl (by decide) ?_
  refine rn_aload_n (i := 0) rfl rfl ?_
  refine rn_gQ (c := 11) (k := 15) rfl (by decide) hb (fun x4 hb => ?_)
  refine rn_iconst (x := (nI 1)) rfl (by decide) ?_
  refine rn_aI rfl hb (fun x5 hb => ?_)
  refine rn_iconst (x := (nI 1)) rfl (by decide) ?_
  refine rn_isub rfl ?_
  obtain ⟨hrc, hb⟩ := grd_spec hb
  obtain ⟨p6, hc, hb⟩ := Option.bind_eq_some_iff.mp hb
  refine Rn.call1 (d := e) (As := [va_rf v0, .int (nI 0), .int (x5 - (nI 1))]) (rest := []) rfl rfl rfl (by decide) rfl rfl rfl (bd_rcV hrc rfl) (by decide) (bd_lenC (n := 3) rfl (bd_slR (bd_slI (bd_slI bd_slN))) rfl) (bd_locC (n := 3) rfl (bd_slR (bd_slI (bd_slI bd_slN))) rfl (t_199 e (by omega) v0 (nI 0) (x5 - (nI 1)) h3 _ hc)) ?_
  refine rn_if_ne rfl rfl (fun hc => ?_) (fun hc => ?_)
  · exact u_210_120 (e + 1) hd v0 v1 v2  p6.2 _ (if_t hb hc)
  · exact u_210_118 (e + 1) hd v0 v1 v2  p6.2 _ (if_f hb hc)
def b_210_88   (h : Hp) : Option (Int32 × Hp) :=
  (grd (decide ((nI 0) = 0 ∨ (nI 0) = 1))).bind fun _ => some ((nI 0), h)
theorem u_210_88 (d : Nat) (hd : 3 ≤ d) (v0 : Option Nat) (v1 : Int32) (v2 : Int32)  (h : Hp) (r : Int32 × Hp) (hb : b_210_88   h = some r) : Rn d 210 88 [some (va_rf v0), some (.int v1), some (.int v2), none, none, none, none] [] h (some (.int r.1), r.2) := by
  unfold b_210_88 at hb
  refine rn_iconst (x := (nI 0)) rfl (by decide) ?_
  obtain ⟨hz, hb⟩ := grd_spec hb
  obtain rfl := Option.some.inj hb
  exact rn_zret rfl rfl (of_decide_eq_true hz)
def b_210_58 (v0 : Option Nat) (v1 : Int32) (v2 : Int32)  (h : Hp) : Option (Int32 × Hp) :=
  (gQ 11 19 v0 h).bind fun x1 =>
  (gJ 11 12 v0 h).bind fun x2 =>
  (wJ x1 v1 x2 h).bind fun h3 =>
  (grd (rC 11 v0 h3)).bind fun _ =>
  (f_189 v0 h3).bind fun p4 =>
  (gQ 11 15 v0 p4).bind fun x5 =>
  (aI 12 x5 (nI 0) p4).bind fun x6 =>
  (grd (rC 11 v0 p4)).bind fun _ =>
  (f_199 v0 (nI 0) (x6 - (nI 1)) p4).bind fun p7 =>
  if ¬ p7.1 = 0 then b_210_90 v0 v1 v2  p7.2 else b_210_88   p7.2
theorem u_210_58 (d : Nat) (hd : 3 ≤ d) (v0 : Option Nat) (v1 : Int32) (v2 : Int32)  (h : Hp) (r : Int32 × Hp) (hb : b_210_58 v0 v1 v2  h = some r) : Rn d 210 58 [some (va_rf v0), some (.int v1), some (.int v2), none, none, none, none] [] h (some (.int r.1), r.2) := by
  unfold b_210_58 at hb
  obtain ⟨e, rfl⟩ : ∃ e, d = e + 1 := ⟨d - 1, by omega⟩
  refine rn_aload_n (i := 0) rfl rfl ?_
  refine rn_gQ (c := 11) (k := 19) rfl (by decide) hb (fun x1 hb => ?_)
  refine rn_iload_n (i := 1) rfl rfl ?_
  refine rn_aload_n (i := 0) rfl rfl ?_
  refine rn_gJ (c := 11) (k := 12) rfl (by decide) hb (fun x2 hb => ?_)
  refine rn_wJ rfl hb (fun h3 hb => ?_)
  refine rn_aload_n (i := 0) rfl rfl ?_
  obtain ⟨hrc, hb⟩ := grd_spec hb
  obtain ⟨p4, hc, hb⟩ := Option.bind_eq_some_iff.mp hb
  refine Rn.call0 (d := e) (As := [va_rf v0]) (rest := []) rfl rfl rfl (by decide) rfl rfl rfl (bd_rcV hrc rfl) (by decide) (bd_lenC (n := 5) rfl (bd_slR bd_slN) rfl) (bd_locC (n := 5) rfl (bd_slR bd_slN) rfl (t_189 e (by omega) v0 h3 _ hc)) ?_
  refine rn_aload_n (i := 0) rfl rfl ?_
  refine rn_iconst (x := (nI 0)) rfl (by decide) ?_
  refine rn_aload_n (i := 0) rfl rfl ?_
  refine rn_gQ (c := 11) (k := 15) rfl (by decide) hb (fun x5 hb => ?_)
  refine rn_iconst (x := (nI 0)) rfl (by decide) ?_
  refine rn_aI rfl hb (fun x6 hb => ?_)
  refine rn_iconst (x := (nI 1)) rfl (by decide) ?_
  refine rn_isub rfl ?_
  obtain ⟨hrc, hb⟩ := grd_spec hb
  obtain ⟨p7, hc, hb⟩ := Option.bind_eq_some_iff.mp hb
  refine Rn.call1 (d := e) (As := [va_rf v0, .int (nI 0), .int (x6 - (nI 1))]) (rest := []) rfl rfl rfl (by decide) rfl rfl rfl (bd_rcV hrc rfl) (by decide) (bd_lenC (n := 3) rfl (bd_slR (bd_slI (bd_slI bd_slN))) rfl) (bd_locC (n := 3) rfl (bd_slR (bd_slI (bd_slI bd_slN))) rfl (t_199 e (by omega) v0 (nI 0) (x6 - (nI 1)) p4 _ hc)) ?_
  refine rn_if_ne rfl rfl (fun hc => ?_) (fun hc => ?_)
  · exact u_210_90 (e + 1) hd v0 v1 v2  p7.2 _ (if_t hb hc)
  · exact u_210_88 (e + 1) hd v0 v1 v2  p7.2 _ (if_f hb hc)
def b_210_52 (v0 : Option Nat)  (h : Hp) : Option (Int32 × Hp) :=
  (grd (rC 11 v0 h)).bind fun _ =>
  (f_198 v0 (nI 3) h).bind fun p1 =>
  (grd (decide (p1.1 = 0 ∨ p1.1 = 1))).bind fun _ => some (p1.1, p1.2)
theorem u_210_52 (d : Nat) (hd : 3 ≤ d) (v0 : Option Nat) (v1 : Int32) (v2 : Int32)  (h : Hp) (r : Int32 × Hp) (hb : b_210_52 v0  h = some r) : Rn d 210 52 [some (va_rf v0), some (.int v1), some (.int v2), none, none, none, none] [] h (some (.int r.1), r.2) := by
  unfold b_210_52 at hb
  obtain ⟨e, rfl⟩ : ∃ e, d = e + 1 := ⟨d - 1, by omega⟩
  refine rn_aload_n (i := 0) rfl rfl ?_
  refine rn_iconst (x := (nI 3)) rfl (by decide) ?_
  obtain ⟨hrc, hb⟩ := grd_spec hb
  obtain ⟨p1, hc, hb⟩ := Option.bind_eq_some_iff.mp hb
  refine Rn.call1 (d := e) (As := [va_rf v0, .int (nI 3)]) (rest := []) rfl rfl rfl (by decide) rfl rfl rfl (bd_rcV hrc rfl) (by decide) (bd_lenC (n := 2) rfl (bd_slR (bd_slI bd_slN)) rfl) (bd_locC (n := 2) rfl (bd_slR (bd_slI bd_slN)) rfl (t_198 e (by omega) v0 (nI 3) h _ hc)) ?_
  obtain ⟨hz, hb⟩ := grd_spec hb
  obtain rfl := Option.some.inj hb
  exact rn_zret rfl rfl (of_decide_eq_true hz)
def b_210_44 (v0 : Option Nat) (v1 : Int32) (v2 : Int32)  (h : Hp) : Option (Int32 × Hp) :=
  (grd (rC 11 v0 h)).bind fun _ =>
  (f_208 v0 h).bind fun p1 =>
  if p1.1 = (-1 : Int32) then b_210_58 v0 v1 v2  p1.2 else b_210_52 v0  p1.2
theorem u_210_44 (d : Nat) (hd : 3 ≤ d) (v0 : Option Nat) (v1 : Int32) (v2 : Int32)  (h : Hp) (r : Int32 × Hp) (hb : b_210_44 v0 v1 v2  h = some r) : Rn d 210 44 [some (va_rf v0), some (.int v1), some (.int v2), none, none, none, none] [] h (some (.int r.1), r.2) := by
  unfold b_210_44 at hb
  obtain ⟨e, rfl⟩ : ∃ e, d = e + 1 := ⟨d - 1, by omega⟩
  refine rn_aload_n (i := 0) rfl rfl ?_
  obtain ⟨hrc, hb⟩ := grd_spec hb
  obtain ⟨p1, hc, hb⟩ := Option.bind_eq_some_iff.mp hb
  refine Rn.call1 (d := e) (As := [va_rf v0]) (rest := []) rfl rfl rfl (by decide) rfl rfl rfl (bd_rcV hrc rfl) (by decide) (bd_lenC (n := 2) rfl (bd_slR bd_slN) rfl) (bd_locC (n := 2) rfl (bd_slR bd_slN) rfl (t_208 e (by omega) v0 h _ hc)) ?_
  refine rn_iconst (x := (-1 : Int32)) rfl (by decide) ?_
  refine rn_icmp_eq rfl rfl (fun hc => ?_) (fun hc => ?_)
  · exact u_210_58 (e + 1) hd v0 v1 v2  p1.2 _ (if_t hb hc)
  · exact u_210_52 (e + 1) hd v0 v1 v2  p1.2 _ (if_f hb hc)
def b_210_38 (v0 : Option Nat)  (h : Hp) : Option (Int32 × Hp) :=
  (grd (rC 11 v0 h)).bind fun _ =>
  (f_198 v0 (nI 1) h).bind fun p1 =>
  (grd (decide (p1.1 = 0 ∨ p1.1 = 1))).bind fun _ => some (p1.1, p1.2)
theorem u_210_38 (d : Nat) (hd : 3 ≤ d) (v0 : Option Nat) (v1 : Int32) (v2 : Int32)  (h : Hp) (r : Int32 × Hp) (hb : b_210_38 v0  h = some r) : Rn d 210 38 [some (va_rf v0), some (.int v1), some (.int v2), none, none, none, none] [] h (some (.int r.1), r.2) := by
  unfold b_210_38 at hb
  obtain ⟨e, rfl⟩ : ∃ e, d = e + 1 := ⟨d - 1, by omega⟩
  refine rn_aload_n (i := 0) rfl rfl ?_
  refine rn_iconst (x := (nI 1)) rfl (by decide) ?_
  obtain ⟨hrc, hb⟩ := grd_spec hb
  obtain ⟨p1, hc, hb⟩ := Option.bind_eq_some_iff.mp hb
  refine Rn.call1 (d := e) (As := [va_rf v0, .int (nI 1)]) (rest := []) rfl rfl rfl (by decide) rfl rfl rfl (bd_rcV hrc rfl) (by decide) (bd_lenC (n := 2) rfl (bd_slR (bd_slI bd_slN)) rfl) (bd_locC (n := 2) rfl (bd_slR (bd_slI bd_slN)) rfl (t_198 e (by omega) v0 (nI 1) h _ hc)) ?_
  obtain ⟨hz, hb⟩ := grd_spec hb
  obtain rfl := Option.some.inj hb
  exact rn_zret rfl rfl (of_decide_eq_true hz)
def b_210_19 (v0 : Option Nat) (v1 : Int32)  (h : Hp) : Option (Int32 × Hp) :=
  bnd (((nI 110) + ((nI 10) * v1))) fun x1 =>
  (grd (rC 11 v0 h)).bind fun _ =>
  (f_189 v0 h).bind fun p2 =>
  (grd (rC 11 v0 p2)).bind fun _ =>
  (f_197 v0 p2).bind fun p3 =>
  if ¬ p3.1 = 0 then b_210_44 v0 v1 x1  p3.2 else b_210_38 v0  p3.2
theorem u_210_19 (d : Nat) (hd : 3 ≤ d) (v0 : Option Nat) (v1 : Int32)  (h : Hp) (r : Int32 × Hp) (hb : b_210_19 v0 v1  h = some r) : Rn d 210 19 [some (va_rf v0), some (.int v1), none, none, none, none, none] [] h (some (.int r.1), r.2) := by
  unfold b_210_19 at hb
  obtain ⟨e, rfl⟩ : ∃ e, d = e + 1 := ⟨d - 1, by omega⟩
  refine rn_bipush (x := (nI 110)) rfl (by decide) ?_
  refine rn_bipush (x := (nI 10)) rfl (by decide) ?_
  refine rn_iload_n (i := 1) rfl rfl ?_
  refine rn_imul rfl ?_
  refine rn_iadd rfl ?_
  obtain ⟨x1, ex1, hb⟩ := bnd_spec hb
  refine rn_istore_n (i := 2) (L1 := [some (va_rf v0), some (.int v1), some (.int x1), none, none, none, none]) rfl (Nat.le_of_ble_eq_true rfl) (Or.inr rfl) (by rw [ex1]; rfl) ?_
  refine rn_aload_n (i := 0) rfl rfl ?_
  obtain ⟨hrc, hb⟩ := grd_spec hb
  obtain ⟨p2, hc, hb⟩ := Option.bind_eq_some_iff.mp hb
  refine Rn.call0 (d := e) (As := [va_rf v0]) (rest := []) rfl rfl rfl (by decide) rfl rfl rfl (bd_rcV hrc rfl) (by decide) (bd_lenC (n := 5) rfl (bd_slR bd_slN) rfl) (bd_locC (n := 5) rfl (bd_slR bd_slN) rfl (t_189 e (by omega) v0 h _ hc)) ?_
  refine rn_aload_n (i := 0) rfl rfl ?_
  obtain ⟨hrc, hb⟩ := grd_spec hb
  obtain ⟨p3, hc, hb⟩ := Option.bind_eq_some_iff.mp hb
  refine Rn.call1 (d := e) (As := [va_rf v0]) (rest := []) rfl rfl rfl (by decide) rfl rfl rfl (bd_rcV hrc rfl) (by decide) (bd_lenC (n := 2) rfl (bd_slR bd_slN) rfl) (bd_locC (n := 2) rfl (bd_slR bd_slN) rfl (t_197 e (by omega) v0 p2 _ hc)) ?_
  refine rn_if_ne rfl rfl (fun hc => ?_) (fun hc => ?_)
  · exact u_210_44 (e + 1) hd v0 v1 x1  p3.2 _ (if_t hb hc)
  · exact u_210_38 (e + 1) hd v0 v1 x1  p3.2 _ (if_f hb hc)
def b_210_13 (v0 : Option Nat)  (h : Hp) : Option (Int32 × Hp) :=
  (grd (rC 11 v0 h)).bind fun _ =>
  (f_198 v0 (nI 4) h).bind fun p1 =>
  (grd (decide (p1.1 = 0 ∨ p1.1 = 1))).bind fun _ => some (p1.1, p1.2)
theorem u_210_13 (d : Nat) (hd : 3 ≤ d) (v0 : Option Nat) (v1 : Int32)  (h : Hp) (r : Int32 × Hp) (hb : b_210_13 v0  h = some r) : Rn d 210 13 [some (va_rf v0), some (.int v1), none, none, none, none, none] [] h (some (.int r.1), r.2) := by
  unfold b_210_13 at hb
  obtain ⟨e, rfl⟩ : ∃ e, d = e + 1 := ⟨d - 1, by omega⟩
  refine rn_aload_n (i := 0) rfl rfl ?_
  refine rn_iconst (x := (nI 4)) rfl (by decide) ?_
  obtain ⟨hrc, hb⟩ := grd_spec hb
  obtain ⟨p1, hc, hb⟩ := Option.bind_eq_some_iff.mp hb
  refine Rn.call1 (d := e) (As := [va_rf v0, .int (nI 4)]) (rest := []) rfl rfl rfl (by decide) rfl rfl rfl (bd_rcV hrc rfl) (by decide) (bd_lenC (n := 2) rfl (bd_slR (bd_slI bd_slN)) rfl) (bd_locC (n := 2) rfl (bd_slR (bd_slI bd_slN)) rfl (t_198 e (by omega) v0 (nI 4) h _ hc)) ?_
  obtain ⟨hz, hb⟩ := grd_spec hb
  obtain rfl := Option.some.inj hb
  exact rn_zret rfl rfl (of_decide_eq_true hz)
def b_210_0 (v0 : Option Nat)  (h : Hp) : Option (Int32 × Hp) :=
  (gQ 11 15 v0 h).bind fun x1 =>
  (aI 12 x1 (nI 2) h).bind fun x2 =>
  if ¬ x2 = (nI 10) then b_210_19 v0 x2  h else b_210_13 v0  h
theorem u_210_0 (d : Nat) (hd : 3 ≤ d) (v0 : Option Nat)  (h : Hp) (r : Int32 × Hp) (hb : b_210_0 v0  h = some r) : Rn d 210 0 [some (va_rf v0), none, none, none, none, none, none] [] h (some (.int r.1), r.2) := by
  unfold b_210_0 at hb
  refine rn_aload_n (i := 0) rfl rfl ?_
  refine rn_gQ (c := 11) (k := 15) rfl (by decide) hb (fun x1 hb => ?_)
  refine rn_iconst (x := (nI 2)) rfl (by decide) ?_
  refine rn_aI rfl hb (fun x2 hb => ?_)
  refine rn_istore_n (i := 1) (L1 := [some (va_rf v0), some (.int x2), none, none, none, none, none]) rfl (Nat.le_of_ble_eq_true rfl) (Or.inr (bd_wideR rfl)) rfl ?_
  refine rn_iload_n (i := 1) rfl rfl ?_
  refine rn_bipush (x := (nI 10)) rfl (by decide) ?_
  refine rn_icmp_ne rfl rfl (fun hc => ?_) (fun hc => ?_)
  · exact u_210_19 d hd v0 x2  h _ (if_t hb hc)
  · exact u_210_13 d hd v0 x2  h _ (if_f hb hc)
/-- BitingDoorsModel.readDoor()Z -/
def f_210 (v0 : Option Nat) (h : Hp) : Option (Int32 × Hp) := b_210_0 v0 h
theorem t_210 (d : Nat) (hd : 3 ≤ d) (v0 : Option Nat) (h : Hp) (r : Int32 × Hp) (hb : f_210 v0 h = some r) : Rn d 210 0 [some (va_rf v0), none, none, none, none, none, none] [] h (some (.int r.1), r.2) := by
  unfold f_210 at hb
  exact u_210_0 d hd v0 h r hb
def b_211_105 (v0 : Option Nat)  (h : Hp) : Option (Int32 × Hp) :=
  (gQ 11 15 v0 h).bind fun x1 =>
  (aI 12 x1 (nI 3) h).bind fun x2 =>
  (wI x1 (nI 3) (x2 + (nI 1)) h).bind fun h3 =>
  (grd (decide ((nI 1) = 0 ∨ (nI 1) = 1))).bind fun _ => some ((nI 1), h3)
theorem u_211_105 (d : Nat) (hd : 3 ≤ d) (v0 : Option Nat) (v1 : Int32) (v2 : Int32) (v3 : Int32) (v4 : Option (Int32))  (h : Hp) (r : Int32 × Hp) (hb : b_211_105 v0  h = some r) : Rn d 211 105 [some (va_rf v0), some (.int v1), some (.int v2), some (.int v3), v4.map Value.int] [] h (some (.int r.1), r.2) := by
  unfold b_211_105 at hb
  refine rn_aload_n (i := 0) rfl rfl ?_
  refine rn_gQ (c := 11) (k := 15) rfl (by decide) hb (fun x1 hb => ?_)
  refine rn_iconst (x := (nI 3)) rfl (by decide) ?_
  refine rn_dup2 rfl rfl (bd_cat_rf _) ?_
  refine rn_aI rfl hb (fun x2 hb => ?_)
  refine rn_iconst (x := (nI 1)) rfl (by decide) ?_
  refine rn_iadd rfl ?_
  refine rn_wI rfl hb (fun h3 hb => ?_)
  refine rn_iconst (x := (nI 1)) rfl (by decide) ?_
  obtain ⟨hz, hb⟩ := grd_spec hb
  obtain rfl := Option.some.inj hb
  exact rn_zret rfl rfl (of_decide_eq_true hz)
def b_211_66 (v0 : Option Nat)  (h : Hp) : Option (Int32 × Hp) :=
  (grd (rC 11 v0 h)).bind fun _ =>
  (f_198 v0 (nI 3) h).bind fun p1 =>
  (grd (decide (p1.1 = 0 ∨ p1.1 = 1))).bind fun _ => some (p1.1, p1.2)
theorem u_211_66 (d : Nat) (hd : 3 ≤ d) (v0 : Option Nat) (v1 : Int32) (v2 : Int32) (v3 : Int32) (v4 : Int32)  (h : Hp) (r : Int32 × Hp) (hb : b_211_66 v0  h = some r) : Rn d 211 66 [some (va_rf v0), some (.int v1), some (.int v2), some (.int v3), some (.int v4)] [] h (some (.int r.1), r.2) := by
  unfold b_211_66 at hb
  obtain ⟨e, rfl⟩ : ∃ e, d = e + 1 := ⟨d - 1, by omega⟩
  refine rn_aload_n (i := 0) rfl rfl ?_
  refine rn_iconst (x := (nI 3)) rfl (by decide) ?_
  obtain ⟨hrc, hb⟩ := grd_spec hb
  obtain ⟨p1, hc, hb⟩ := Option.bind_eq_some_iff.mp hb
  refine Rn.call1 (d := e) (As := [va_rf v0, .int (nI 3)]) (rest := []) rfl rfl rfl (by decide) rfl rfl rfl (bd_rcV hrc rfl) (by decide) (bd_lenC (n := 2) rfl (bd_slR (bd_slI bd_slN)) rfl) (bd_locC (n := 2) rfl (bd_slR (bd_slI bd_slN)) rfl (t_198 e (by omega) v0 (nI 3) h _ hc)) ?_
  obtain ⟨hz, hb⟩ := grd_spec hb
  obtain rfl := Option.some.inj hb
  exact rn_zret rfl rfl (of_decide_eq_true hz)
def b_211_72 (k27 : Option Nat → Int32 → Int32 → Int32 → Hp → Option (Int32 × Hp)) (v0 : Option Nat) (v1 : Int32) (v2 : Int32) (v3 : Int32) (v4 : Int32)  (h : Hp) : Option (Int32 × Hp) :=
  bnd ((v2 ||| ((nI 1) <<< (v4 &&& 31)))) fun x1 =>
  (gQ 11 15 v0 h).bind fun x2 =>
  (wI x2 (((nI 310) + ((nI 3) * v1)) + v3) v4 h).bind fun h3 =>
  (grd (rC 11 v0 h3)).bind fun _ =>
  (f_189 v0 h3).bind fun p4 =>
  bnd (v3 + (nI 1)) fun x5 =>
  k27 v0 v1 x1 x5 p4
theorem u_211_72 (d : Nat) (hd : 3 ≤ d) (k27 : Option Nat → Int32 → Int32 → Int32 → Hp → Option (Int32 × Hp)) (K27 : ∀ (v0 : Option Nat) (v1 : Int32) (v2 : Int32) (v3 : Int32) (v4 : Option (Int32)) (h : Hp) (r : Int32 × Hp), k27 v0 v1 v2 v3 h = some r → Rn d 211 27 [some (va_rf v0), some (.int v1), some (.int v2), some (.int v3), v4.map Value.int] [] h (some (.int r.1), r.2)) (v0 : Option Nat) (v1 : Int32) (v2 : Int32) (v3 : Int32) (v4 : Int32)  (h : Hp) (r : Int32 × Hp) (hb : b_211_72 k27 v0 v1 v2 v3 v4  h = some r) : Rn d 211 72 [some (va_rf v0), some (.int v1), some (.int v2), some (.int v3), some (.int v4)] [] h (some (.int r.1), r.2) := by
  unfold b_211_72 at hb
  obtain ⟨e, rfl⟩ : ∃ e, d = e + 1 := ⟨d - 1, by omega⟩
  refine rn_iload_n (i := 2) rfl rfl ?_
  refine rn_iconst (x := (nI 1)) rfl (by decide) ?_
  refine rn_iload (i := 4) rfl rfl ?_
  refine rn_ishl rfl ?_
  refine rn_ior rfl ?_
  obtain ⟨x1, ex1, hb⟩ := bnd_spec hb
  refine rn_istore_n (i := 2) (L1 := [some (va_rf v0), some (.int v1), some (.int x1), some (.int v3), some (.int v4)]) rfl (Nat.le_of_ble_eq_true rfl) (Or.inr rfl) (by rw [ex1]; rfl) ?_
  refine rn_aload_n (i := 0) rfl rfl ?_
  refine rn_gQ (c := 11) (k := 15) rfl (by decide) hb (fun x2 hb => ?_)
  refine rn_sipush (x := (nI 310)) rfl (by decide) ?_
  refine rn_iconst (x := (nI 3)) rfl (by decide) ?_
  refine rn_iload_n (i := 1) rfl rfl ?_
  refine rn_imul rfl ?_
  refine rn_iadd rfl ?_
  refine rn_iload_n (i := 3) rfl rfl ?_
  refine rn_iadd rfl ?_
  refine rn_iload (i := 4) rfl rfl ?_
  refine rn_wI rfl hb (fun h3 hb => ?_)
  refine rn_aload_n (i := 0) rfl rfl ?_
  obtain ⟨hrc, hb⟩ := grd_spec hb
  obtain ⟨p4, hc, hb⟩ := Option.bind_eq_some_iff.mp hb
  refine Rn.call0 (d := e) (As := [va_rf v0]) (rest := []) rfl rfl rfl (by decide) rfl rfl rfl (bd_rcV hrc rfl) (by decide) (bd_lenC (n := 5) rfl (bd_slR bd_slN) rfl) (bd_locC (n := 5) rfl (bd_slR bd_slN) rfl (t_189 e (by omega) v0 h3 _ hc)) ?_
  obtain ⟨x5, ex5, hb⟩ := bnd_spec hb
  refine rn_iinc (i := 3) (y := x5) (L1 := [some (va_rf v0), some (.int v1), some (.int x1), some (.int x5), some (.int v4)]) rfl rfl (Nat.le_of_ble_eq_true rfl) (Or.inr rfl) (by rw [ex5]; rfl) rfl ?_
  refine rn_goto rfl rfl ?_
  exact K27 v0 v1 x1 x5 (some v4) p4 _ hb
def b_211_57 (k27 : Option Nat → Int32 → Int32 → Int32 → Hp → Option (Int32 × Hp)) (v0 : Option Nat) (v1 : Int32) (v2 : Int32) (v3 : Int32) (v4 : Int32)  (h : Hp) : Option (Int32 × Hp) :=
  (f_183 v2 v4 h).bind fun p1 =>
  if p1.1 = 0 then b_211_72 k27 v0 v1 v2 v3 v4  p1.2 else b_211_66 v0  p1.2
theorem u_211_57 (d : Nat) (hd : 3 ≤ d) (k27 : Option Nat → Int32 → Int32 → Int32 → Hp → Option (Int32 × Hp)) (K27 : ∀ (v0 : Option Nat) (v1 : Int32) (v2 : Int32) (v3 : Int32) (v4 : Option (Int32)) (h : Hp) (r : Int32 × Hp), k27 v0 v1 v2 v3 h = some r → Rn d 211 27 [some (va_rf v0), some (.int v1), some (.int v2), some (.int v3), v4.map Value.int] [] h (some (.int r.1), r.2)) (v0 : Option Nat) (v1 : Int32) (v2 : Int32) (v3 : Int32) (v4 : Int32)  (h : Hp) (r : Int32 × Hp) (hb : b_211_57 k27 v0 v1 v2 v3 v4  h = some r) : Rn d 211 57 [some (va_rf v0), some (.int v1), some (.int v2), some (.int v3), some (.int v4)] [] h (some (.int r.1), r.2) := by
  unfold b_211_57 at hb
  obtain ⟨e, rfl⟩ : ∃ e, d = e + 1 := ⟨d - 1, by omega⟩
  refine rn_iload_n (i := 2) rfl rfl ?_
  refine rn_iload (i := 4) rfl rfl ?_
  obtain ⟨p1, hc, hb⟩ := Option.bind_eq_some_iff.mp hb
  refine Rn.call1 (d := e) (As := [.int v2, .int v4]) (rest := []) rfl rfl rfl (by decide) rfl rfl rfl rfl (by decide) (bd_lenC (n := 2) rfl (bd_slI (bd_slI bd_slN)) rfl) (bd_locC (n := 2) rfl (bd_slI (bd_slI bd_slN)) rfl (t_183 e (by omega) v2 v4 h _ hc)) ?_
  refine rn_if_eq rfl rfl (fun hc => ?_) (fun hc => ?_)
  · exact u_211_72 (e + 1) hd k27 K27 v0 v1 v2 v3 v4  p1.2 _ (if_t hb hc)
  · exact u_211_66 (e + 1) hd v0 v1 v2 v3 v4  p1.2 _ (if_f hb hc)
def b_211_45 (k27 : Option Nat → Int32 → Int32 → Int32 → Hp → Option (Int32 × Hp)) (v0 : Option Nat) (v1 : Int32) (v2 : Int32) (v3 : Int32)  (h : Hp) : Option (Int32 × Hp) :=
  (grd (rC 11 v0 h)).bind fun _ =>
  (f_208 v0 h).bind fun p1 =>
  bnd (p1.1) fun x2 =>
  if x2 = (-1 : Int32) then b_211_66 v0  p1.2 else b_211_57 k27 v0 v1 v2 v3 x2  p1.2
theorem u_211_45 (d : Nat) (hd : 3 ≤ d) (k27 : Option Nat → Int32 → Int32 → Int32 → Hp → Option (Int32 × Hp)) (K27 : ∀ (v0 : Option Nat) (v1 : Int32) (v2 : Int32) (v3 : Int32) (v4 : Option (Int32)) (h : Hp) (r : Int32 × Hp), k27 v0 v1 v2 v3 h = some r → Rn d 211 27 [some (va_rf v0), some (.int v1), some (.int v2), some (.int v3), v4.map Value.int] [] h (some (.int r.1), r.2)) (v0 : Option Nat) (v1 : Int32) (v2 : Int32) (v3 : Int32) (v4 : Option (Int32))  (h : Hp) (r : Int32 × Hp) (hb : b_211_45 k27 v0 v1 v2 v3  h = some r) : Rn d 211 45 [some (va_rf v0), some (.int v1), some (.int v2), some (.int v3), v4.map Value.int] [] h (some (.int r.1), r.2) := by
  unfold b_211_45 at hb
  obtain ⟨e, rfl⟩ : ∃ e, d = e + 1 := ⟨d - 1, by omega⟩
  refine rn_aload_n (i := 0) rfl rfl ?_
  obtain ⟨hrc, hb⟩ := grd_spec hb
  obtain ⟨p1, hc, hb⟩ := Option.bind_eq_some_iff.mp hb
  refine Rn.call1 (d := e) (As := [va_rf v0]) (rest := []) rfl rfl rfl (by decide) rfl rfl rfl (bd_rcV hrc rfl) (by decide) (bd_lenC (n := 2) rfl (bd_slR bd_slN) rfl) (bd_locC (n := 2) rfl (bd_slR bd_slN) rfl (t_208 e (by omega) v0 h _ hc)) ?_
  obtain ⟨x2, ex2, hb⟩ := bnd_spec hb
  refine rn_istore (i := 4) (L1 := [some (va_rf v0), some (.int v1), some (.int v2), some (.int v3), some (.int x2)]) rfl (Nat.le_of_ble_eq_true rfl) (Or.inr rfl) (by rw [ex2]; rfl) ?_
  refine rn_iload (i := 4) rfl rfl ?_
  refine rn_iconst (x := (-1 : Int32)) rfl (by decide) ?_
  refine rn_icmp_eq rfl rfl (fun hc => ?_) (fun hc => ?_)
  · exact u_211_66 (e + 1) hd v0 v1 v2 v3 x2  p1.2 _ (if_t hb hc)
  · exact u_211_57 (e + 1) hd k27 K27 v0 v1 v2 v3 x2  p1.2 _ (if_f hb hc)
def b_211_39 (v0 : Option Nat)  (h : Hp) : Option (Int32 × Hp) :=
  (grd (rC 11 v0 h)).bind fun _ =>
  (f_198 v0 (nI 1) h).bind fun p1 =>
  (grd (decide (p1.1 = 0 ∨ p1.1 = 1))).bind fun _ => some (p1.1, p1.2)
theorem u_211_39 (d : Nat) (hd : 3 ≤ d) (v0 : Option Nat) (v1 : Int32) (v2 : Int32) (v3 : Int32) (v4 : Option (Int32))  (h : Hp) (r : Int32 × Hp) (hb : b_211_39 v0  h = some r) : Rn d 211 39 [some (va_rf v0), some (.int v1), some (.int v2), some (.int v3), v4.map Value.int] [] h (some (.int r.1), r.2) := by
  unfold b_211_39 at hb
  obtain ⟨e, rfl⟩ : ∃ e, d = e + 1 := ⟨d - 1, by omega⟩
  refine rn_aload_n (i := 0) rfl rfl ?_
  refine rn_iconst (x := (nI 1)) rfl (by decide) ?_
  obtain ⟨hrc, hb⟩ := grd_spec hb
  obtain ⟨p1, hc, hb⟩ := Option.bind_eq_some_iff.mp hb
  refine Rn.call1 (d := e) (As := [va_rf v0, .int (nI 1)]) (rest := []) rfl rfl rfl (by decide) rfl rfl rfl (bd_rcV hrc rfl) (by decide) (bd_lenC (n := 2) rfl (bd_slR (bd_slI bd_slN)) rfl) (bd_locC (n := 2) rfl (bd_slR (bd_slI bd_slN)) rfl (t_198 e (by omega) v0 (nI 1) h _ hc)) ?_
  obtain ⟨hz, hb⟩ := grd_spec hb
  obtain rfl := Option.some.inj hb
  exact rn_zret rfl rfl (of_decide_eq_true hz)
def b_211_32 (k27 : Option Nat → Int32 → Int32 → Int32 → Hp → Option (Int32 × Hp)) (v0 : Option Nat) (v1 : Int32) (v2 : Int32) (v3 : Int32)  (h : Hp) : Option (Int32 × Hp) :=
  (grd (rC 11 v0 h)).bind fun _ =>
  (f_197 v0 h).bind fun p1 =>
  if ¬ p1.1 = 0 then b_211_45 k27 v0 v1 v2 v3  p1.2 else b_211_39 v0  p1.2
theorem u_211_32 (d : Nat) (hd : 3 ≤ d) (k27 : Option Nat → Int32 → Int32 → Int32 → Hp → Option (Int32 × Hp)) (K27 : ∀ (v0 : Option Nat) (v1 : Int32) (v2 : Int32) (v3 : Int32) (v4 : Option (Int32)) (h : Hp) (r : Int32 × Hp), k27 v0 v1 v2 v3 h = some r → Rn d 211 27 [some (va_rf v0), some (.int v1), some (.int v2), some (.int v3), v4.map Value.int] [] h (some (.int r.1), r.2)) (v0 : Option Nat) (v1 : Int32) (v2 : Int32) (v3 : Int32) (v4 : Option (Int32))  (h : Hp) (r : Int32 × Hp) (hb : b_211_32 k27 v0 v1 v2 v3  h = some r) : Rn d 211 32 [some (va_rf v0), some (.int v1), some (.int v2), some (.int v3), v4.map Value.int] [] h (some (.int r.1), r.2) := by
  unfold b_211_32 at hb
  obtain ⟨e, rfl⟩ : ∃ e, d = e + 1 := ⟨d - 1, by omega⟩
  refine rn_aload_n (i := 0) rfl rfl ?_
  obtain ⟨hrc, hb⟩ := grd_spec hb
  obtain ⟨p1, hc, hb⟩ := Option.bind_eq_some_iff.mp hb
  refine Rn.call1 (d := e) (As := [va_rf v0]) (rest := []) rfl rfl rfl (by decide) rfl rfl rfl (bd_rcV hrc rfl) (by decide) (bd_lenC (n := 2) rfl (bd_slR bd_slN) rfl) (bd_locC (n := 2) rfl (bd_slR bd_slN) rfl (t_197 e (by omega) v0 h _ hc)) ?_
  refine rn_if_ne rfl rfl (fun hc => ?_) (fun hc => ?_)
  · exact u_211_45 (e + 1) hd k27 K27 v0 v1 v2 v3 v4  p1.2 _ (if_t hb hc)
  · exact u_211_39 (e + 1) hd v0 v1 v2 v3 v4  p1.2 _ (if_f hb hc)
def b_211_27 (k27 : Option Nat → Int32 → Int32 → Int32 → Hp → Option (Int32 × Hp)) (v0 : Option Nat) (v1 : Int32) (v2 : Int32) (v3 : Int32)  (h : Hp) : Option (Int32 × Hp) :=
  if (nI 3) ≤ v3 then b_211_105 v0  h else b_211_32 k27 v0 v1 v2 v3  h
theorem u_211_27 (d : Nat) (hd : 3 ≤ d) (k27 : Option Nat → Int32 → Int32 → Int32 → Hp → Option (Int32 × Hp)) (K27 : ∀ (v0 : Option Nat) (v1 : Int32) (v2 : Int32) (v3 : Int32) (v4 : Option (Int32)) (h : Hp) (r : Int32 × Hp), k27 v0 v1 v2 v3 h = some r → Rn d 211 27 [some (va_rf v0), some (.int v1), some (.int v2), some (.int v3), v4.map Value.int] [] h (some (.int r.1), r.2)) (v0 : Option Nat) (v1 : Int32) (v2 : Int32) (v3 : Int32) (v4 : Option (Int32))  (h : Hp) (r : Int32 × Hp) (hb : b_211_27 k27 v0 v1 v2 v3  h = some r) : Rn d 211 27 [some (va_rf v0), some (.int v1), some (.int v2), some (.int v3), v4.map Value.int] [] h (some (.int r.1), r.2) := by
  unfold b_211_27 at hb
  refine rn_iload_n (i := 3) rfl rfl ?_
  refine rn_iconst (x := (nI 3)) rfl (by decide) ?_
  refine rn_icmp_ge rfl rfl (fun hc => ?_) (fun hc => ?_)
  · exact u_211_105 d hd v0 v1 v2 v3 v4  h _ (if_t hb hc)
  · exact u_211_32 d hd k27 K27 v0 v1 v2 v3 v4  h _ (if_f hb hc)
def l_211_27 : Nat → Option Nat → Int32 → Int32 → Int32 → Hp → Option (Int32 × Hp)
  | 0, _, _, _, _, _ => none
  | n + 1, v0, v1, v2, v3, h => b_211_27 (l_211_27 n) v0 v1 v2 v3 h
theorem w_211_27 (d : Nat) (hd : 3 ≤ d) : ∀ (n : Nat) (v0 : Option Nat) (v1 : Int32) (v2 : Int32) (v3 : Int32) (v4 : Option (Int32)) (h : Hp) (r : Int32 × Hp), l_211_27 n v0 v1 v2 v3 h = some r → Rn d 211 27 [some (va_rf v0), some (.int v1), some (.int v2), some (.int v3), v4.map Value.int] [] h (some (.int r.1), r.2) := by
  intro n
  induction n with
  | zero => intro v0 v1 v2 v3 v4 h r hb; cases hb
  | succ n ih => intro v0 v1 v2 v3 v4 h r hb; exact u_211_27 d hd (l_211_27 n) ih v0 v1 v2 v3 v4 h r hb
def b_211_19 (v0 : Option Nat) (v1 : Int32)  (h : Hp) : Option (Int32 × Hp) :=
  (grd (rC 11 v0 h)).bind fun _ =>
  (f_189 v0 h).bind fun p1 =>
  bnd ((nI 0)) fun x2 =>
  bnd ((nI 0)) fun x3 =>
  l_211_27 FU v0 v1 x2 x3 p1
theorem u_211_19 (d : Nat) (hd : 3 ≤ d) (v0 : Option Nat) (v1 : Int32)  (h : Hp) (r : Int32 × Hp) (hb : b_211_19 v0 v1  h = some r) : Rn d 211 19 [some (va_rf v0), some (.int v1), none, none, none] [] h (some (.int r.1), r.2) := by
  unfold b_211_19 at hb
  obtain ⟨e, rfl⟩ : ∃ e, d = e + 1 := ⟨d - 1, by omega⟩
  refine rn_aload_n (i := 0) rfl rfl ?_
  obtain ⟨hrc, hb⟩ := grd_spec hb
  obtain ⟨p1, hc, hb⟩ := Option.bind_eq_some_iff.mp hb
  refine Rn.call0 (d := e) (As := [va_rf v0]) (rest := []) rfl rfl rfl (by decide) rfl rfl rfl (bd_rcV hrc rfl) (by decide) (bd_lenC (n := 5) rfl (bd_slR bd_slN) rfl) (bd_locC (n := 5) rfl (bd_slR bd_slN) rfl (t_189 e (by omega) v0 h _ hc)) ?_
  refine rn_iconst (x := (nI 0)) rfl (by decide) ?_
  obtain ⟨x2, ex2, hb⟩ := bnd_spec hb
  refine rn_istore_n (i := 2) (L1 := [some (va_rf v0), some (.int v1), some (.int x2), none, none]) rfl (Nat.le_of_ble_eq_true rfl) (Or.inr rfl) (by rw [ex2]; rfl) ?_
  refine rn_iconst (x := (nI 0)) rfl (by decide) ?_
  obtain ⟨x3, ex3, hb⟩ := bnd_spec hb
  refine rn_istore_n (i := 3) (L1 := [some (va_rf v0), some (.int v1), some (.int x2), some (.int x3), none]) rfl (Nat.le_of_ble_eq_true rfl) (Or.inr rfl) (by rw [ex3]; rfl) ?_
  exact w_211_27 (e + 1) hd FU v0 v1 x2 x3 (none : Option (Int32)) p1 _ hb
def b_211_13 (v0 : Option Nat)  (h : Hp) : Option (Int32 × Hp) :=
  (grd (rC 11 v0 h)).bind fun _ =>
  (f_198 v0 (nI 4) h).bind fun p1 =>
  (grd (decide (p1.1 = 0 ∨ p1.1 = 1))).bind fun _ => some (p1.1, p1.2)
theorem u_211_13 (d : Nat) (hd : 3 ≤ d) (v0 : Option Nat) (v1 : Int32)  (h : Hp) (r : Int32 × Hp) (hb : b_211_13 v0  h = some r) : Rn d 211 13 [some (va_rf v0), some (.int v1), none, none, none] [] h (some (.int r.1), r.2) := by
  unfold b_211_13 at hb
  obtain ⟨e, rfl⟩ : ∃ e, d = e + 1 := ⟨d - 1, by omega⟩
  refine rn_aload_n (i := 0) rfl rfl ?_
  refine rn_iconst (x := (nI 4)) rfl (by decide) ?_
  obtain ⟨hrc, hb⟩ := grd_spec hb
  obtain ⟨p1, hc, hb⟩ := Option.bind_eq_some_iff.mp hb
  refine Rn.call1 (d := e) (As := [va_rf v0, .int (nI 4)]) (rest := []) rfl rfl rfl (by decide) rfl rfl rfl (bd_rcV hrc rfl) (by decide) (bd_lenC (n := 2) rfl (bd_slR (bd_slI bd_slN)) rfl) (bd_locC (n := 2) rfl (bd_slR (bd_slI bd_slN)) rfl (t_198 e (by omega) v0 (nI 4) h _ hc)) ?_
  obtain ⟨hz, hb⟩ := grd_spec hb
  obtain rfl := Option.some.inj hb
  exact rn_zret rfl rfl (of_decide_eq_true hz)
def b_211_0 (v0 : Option Nat)  (h : Hp) : Option (Int32 × Hp) :=
  (gQ 11 15 v0 h).bind fun x1 =>
  (aI 12 x1 (nI 3) h).bind fun x2 =>
  if ¬ x2 = (nI 6) then b_211_19 v0 x2  h else b_211_13 v0  h
theorem u_211_0 (d : Nat) (hd : 3 ≤ d) (v0 : Option Nat)  (h : Hp) (r : Int32 × Hp) (hb : b_211_0 v0  h = some r) : Rn d 211 0 [some (va_rf v0), none, none, none, none] [] h (some (.int r.1), r.2) := by
  unfold b_211_0 at hb
  refine rn_aload_n (i := 0) rfl rfl ?_
  refine rn_gQ (c := 11) (k := 15) rfl (by decide) hb (fun x1 hb => ?_)
  refine rn_iconst (x := (nI 3)) rfl (by decide) ?_
  refine rn_aI rfl hb (fun x2 hb => ?_)
  refine rn_istore_n (i := 1) (L1 := [some (va_rf v0), some (.int x2), none, none, none]) rfl (Nat.le_of_ble_eq_true rfl) (Or.inr (bd_wideR rfl)) rfl ?_
  refine rn_iload_n (i := 1) rfl rfl ?_
  refine rn_bipush (x := (nI 6)) rfl (by decide) ?_
  refine rn_icmp_ne rfl rfl (fun hc => ?_) (fun hc => ?_)
  · exact u_211_19 d hd v0 x2  h _ (if_t hb hc)
  · exact u_211_13 d hd v0 x2  h _ (if_f hb hc)
/-- BitingDoorsModel.readDraught()Z -/
def f_211 (v0 : Option Nat) (h : Hp) : Option (Int32 × Hp) := b_211_0 v0 h
theorem t_211 (d : Nat) (hd : 3 ≤ d) (v0 : Option Nat) (h : Hp) (r : Int32 × Hp) (hb : f_211 v0 h = some r) : Rn d 211 0 [some (va_rf v0), none, none, none, none] [] h (some (.int r.1), r.2) := by
  unfold f_211 at hb
  exact u_211_0 d hd v0 h r hb
def b_212_90 (v0 : Option Nat)  (h : Hp) : Option (Int32 × Hp) :=
  (grd (rC 11 v0 h)).bind fun _ =>
  (f_198 v0 (nI 2) h).bind fun p1 =>
  (grd (decide (p1.1 = 0 ∨ p1.1 = 1))).bind fun _ => some (p1.1, p1.2)
theorem u_212_90 (d : Nat) (hd : 3 ≤ d) (v0 : Option Nat) (v1 : Int32)  (h : Hp) (r : Int32 × Hp) (hb : b_212_90 v0  h = some r) : Rn d 212 90 [some (va_rf v0), some (.int v1)] [] h (some (.int r.1), r.2) := by
  unfold b_212_90 at hb
  obtain ⟨e, rfl⟩ : ∃ e, d = e + 1 := ⟨d - 1, by omega⟩
  refine rn_aload_n (i := 0) rfl rfl ?_
  refine rn_iconst (x := (nI 2)) rfl (by decide) ?_
  obtain ⟨hrc, hb⟩ := grd_spec hb
  obtain ⟨p1, hc, hb⟩ := Option.bind_eq_some_iff.mp hb
  refine Rn.call1 (d := e) (As := [va_rf v0, .int (nI 2)]) (rest := []) rfl rfl rfl (by decide) rfl rfl rfl (bd_rcV hrc rfl) (by decide) (bd_lenC (n := 2) rfl (bd_slR (bd_slI bd_slN)) rfl) (bd_locC (n := 2) rfl (bd_slR (bd_slI bd_slN)) rfl (t_198 e (by omega) v0 (nI 2) h _ hc)) ?_
  obtain ⟨hz, hb⟩ := grd_spec hb
  obtain rfl := Option.some.inj hb
  exact rn_zret rfl rfl (of_decide_eq_true hz)
def b_212_96 (v0 : Option Nat) (v1 : Int32)  (h : Hp) : Option (Int32 × Hp) :=
  (gQ 11 15 v0 h).bind fun x1 =>
  (gI 11 8 v0 h).bind fun x2 =>
  (wI x1 (nI 4) (((nI 10) * x2) + v1) h).bind fun h3 =>
  (grd (rC 11 v0 h3)).bind fun _ =>
  (f_189 v0 h3).bind fun p4 =>
  (grd (decide ((nI 1) = 0 ∨ (nI 1) = 1))).bind fun _ => some ((nI 1), p4)
theorem u_212_96 (d : Nat) (hd : 3 ≤ d) (v0 : Option Nat) (v1 : Int32)  (h : Hp) (r : Int32 × Hp) (hb : b_212_96 v0 v1  h = some r) : Rn d 212 96 [some (va_rf v0), some (.int v1)] [] h (some (.int r.1), r.2) := by
  unfold b_212_96 at hb
  obtain ⟨e, rfl⟩ : ∃ e, d = e + 1 := ⟨d - 1, by omega⟩
  refine rn_aload_n (i := 0) rfl rfl ?_
  refine rn_gQ (c := 11) (k := 15) rfl (by decide) hb (fun x1 hb => ?_)
  refine rn_iconst (x := (nI 4)) rfl (by decide) ?_
  refine rn_bipush (x := (nI 10)) rfl (by decide) ?_
  refine rn_aload_n (i := 0) rfl rfl ?_
  refine rn_gI (c := 11) (k := 8) rfl (by decide) hb (fun x2 hb => ?_)
  refine rn_imul rfl ?_
  refine rn_iload_n (i := 1) rfl rfl ?_
  refine rn_iadd rfl ?_
  refine rn_wI rfl hb (fun h3 hb => ?_)
  refine rn_aload_n (i := 0) rfl rfl ?_
  obtain ⟨hrc, hb⟩ := grd_spec hb
  obtain ⟨p4, hc, hb⟩ := Option.bind_eq_some_iff.mp hb
  refine Rn.call0 (d := e) (As := [va_rf v0]) (rest := []) rfl rfl rfl (by decide) rfl rfl rfl (bd_rcV hrc rfl) (by decide) (bd_lenC (n := 5) rfl (bd_slR bd_slN) rfl) (bd_locC (n := 5) rfl (bd_slR bd_slN) rfl (t_189 e (by omega) v0 h3 _ hc)) ?_
  refine rn_iconst (x := (nI 1)) rfl (by decide) ?_
  obtain ⟨hz, hb⟩ := grd_spec hb
  obtain rfl := Option.some.inj hb
  exact rn_zret rfl rfl (of_decide_eq_true hz)
def b_212_70 (v0 : Option Nat) (v1 : Int32)  (h : Hp) : Option (Int32 × Hp) :=
  (gQ 11 15 v0 h).bind fun x1 =>
  (gI 11 8 v0 h).bind fun x2 =>
  (aI 12 x1 (((nI 10) + ((nI 10) * x2)) + v1) h).bind fun x3 =>
  if x3 = 0 then b_212_96 v0 v1  h else b_212_90 v0  h
theorem u_212_70 (d : Nat) (hd : 3 ≤ d) (v0 : Option Nat) (v1 : Int32)  (h : Hp) (r : Int32 × Hp) (hb : b_212_70 v0 v1  h = some r) : Rn d 212 70 [some (va_rf v0), some (.int v1)] [] h (some (.int r.1), r.2) := by
  unfold b_212_70 at hb
  refine rn_aload_n (i := 0) rfl rfl ?_
  refine rn_gQ (c := 11) (k := 15) rfl (by decide) hb (fun x1 hb => ?_)
  refine rn_bipush (x := (nI 10)) rfl (by decide) ?_
  refine rn_bipush (x := (nI 10)) rfl (by decide) ?_
  refine rn_aload_n (i := 0) rfl rfl ?_
  refine rn_gI (c := 11) (k := 8) rfl (by decide) hb (fun x2 hb => ?_)
  refine rn_imul rfl ?_
  refine rn_iadd rfl ?_
  refine rn_iload_n (i := 1) rfl rfl ?_
  refine rn_iadd rfl ?_
  refine rn_aI rfl hb (fun x3 hb => ?_)
  refine rn_if_eq rfl rfl (fun hc => ?_) (fun hc => ?_)
  · exact u_212_96 d hd v0 v1  h _ (if_t hb hc)
  · exact u_212_90 d hd v0 v1  h _ (if_f hb hc)
def b_212_57 (v0 : Option Nat) (v1 : Int32)  (h : Hp) : Option (Int32 × Hp) :=
  (gI 11 8 v0 h).bind fun x1 =>
  (gQ 11 15 v0 h).bind fun x2 =>
  (aI 12 x2 (nI 1) h).bind fun x3 =>
  if x3 ≤ x1 then b_212_90 v0  h else b_212_70 v0 v1  h
theorem u_212_57 (d : Nat) (hd : 3 ≤ d) (v0 : Option Nat) (v1 : Int32)  (h : Hp) (r : Int32 × Hp) (hb : b_212_57 v0 v1  h = some r) : Rn d 212 57 [some (va_rf v0), some (.int v1)] [] h (some (.int r.1), r.2) := by
  unfold b_212_57 at hb
  refine rn_aload_n (i := 0) rfl rfl ?_
  refine rn_gI (c := 11) (k := 8) rfl (by decide) hb (fun x1 hb => ?_)
  refine rn_aload_n (i := 0) rfl rfl ?_
  refine rn_gQ (c := 11) (k := 15) rfl (by decide) hb (fun x2 hb => ?_)
  refine rn_iconst (x := (nI 1)) rfl (by decide) ?_
  refine rn_aI rfl hb (fun x3 hb => ?_)
  refine rn_icmp_ge rfl rfl (fun hc => ?_) (fun hc => ?_)
  · exact u_212_90 d hd v0 v1  h _ (if_t hb hc)
  · exact u_212_70 d hd v0 v1  h _ (if_f hb hc)
def b_212_51 (v0 : Option Nat)  (h : Hp) : Option (Int32 × Hp) :=
  (grd (rC 11 v0 h)).bind fun _ =>
  (f_198 v0 (nI 1) h).bind fun p1 =>
  (grd (decide (p1.1 = 0 ∨ p1.1 = 1))).bind fun _ => some (p1.1, p1.2)
theorem u_212_51 (d : Nat) (hd : 3 ≤ d) (v0 : Option Nat) (v1 : Int32)  (h : Hp) (r : Int32 × Hp) (hb : b_212_51 v0  h = some r) : Rn d 212 51 [some (va_rf v0), some (.int v1)] [] h (some (.int r.1), r.2) := by
  unfold b_212_51 at hb
  obtain ⟨e, rfl⟩ : ∃ e, d = e + 1 := ⟨d - 1, by omega⟩
  refine rn_aload_n (i := 0) rfl rfl ?_
  refine rn_iconst (x := (nI 1)) rfl (by decide) ?_
  obtain ⟨hrc, hb⟩ := grd_spec hb
  obtain ⟨p1, hc, hb⟩ := Option.bind_eq_some_iff.mp hb
  refine Rn.call1 (d := e) (As := [va_rf v0, .int (nI 1)]) (rest := []) rfl rfl rfl (by decide) rfl rfl rfl (bd_rcV hrc rfl) (by decide) (bd_lenC (n := 2) rfl (bd_slR (bd_slI bd_slN)) rfl) (bd_locC (n := 2) rfl (bd_slR (bd_slI bd_slN)) rfl (t_198 e (by omega) v0 (nI 1) h _ hc)) ?_
  obtain ⟨hz, hb⟩ := grd_spec hb
  obtain rfl := Option.some.inj hb
  exact rn_zret rfl rfl (of_decide_eq_true hz)
def b_212_38 (v0 : Option Nat)  (h : Hp) : Option (Int32 × Hp) :=
  (gI 11 13 v0 h).bind fun x1 =>
  (gI 11 7 v0 h).bind fun x2 =>
  if x2 = (nI 3) then b_212_57 v0 x1  h else b_212_51 v0  h
theorem u_212_38 (d : Nat) (hd : 3 ≤ d) (v0 : Option Nat)  (h : Hp) (r : Int32 × Hp) (hb : b_212_38 v0  h = some r) : Rn d 212 38 [some (va_rf v0), none] [] h (some (.int r.1), r.2) := by
  unfold b_212_38 at hb
  refine rn_aload_n (i := 0) rfl rfl ?_
  refine rn_gI (c := 11) (k := 13) rfl (by decide) hb (fun x1 hb => ?_)
  refine rn_istore_n (i := 1) (L1 := [some (va_rf v0), some (.int x1)]) rfl (Nat.le_of_ble_eq_true rfl) (Or.inr (bd_wideR rfl)) rfl ?_
  refine rn_aload_n (i := 0) rfl rfl ?_
  refine rn_gI (c := 11) (k := 7) rfl (by decide) hb (fun x2 hb => ?_)
  refine rn_iconst (x := (nI 3)) rfl (by decide) ?_
  refine rn_icmp_eq rfl rfl (fun hc => ?_) (fun hc => ?_)
  · exact u_212_57 d hd v0 x1  h _ (if_t hb hc)
  · exact u_212_51 d hd v0 x1  h _ (if_f hb hc)
def b_212_36   (h : Hp) : Option (Int32 × Hp) :=
  (grd (decide ((nI 0) = 0 ∨ (nI 0) = 1))).bind fun _ => some ((nI 0), h)
theorem u_212_36 (d : Nat) (hd : 3 ≤ d) (v0 : Option Nat)  (h : Hp) (r : Int32 × Hp) (hb : b_212_36   h = some r) : Rn d 212 36 [some (va_rf v0), none] [] h (some (.int r.1), r.2) := by
  unfold b_212_36 at hb
  refine rn_iconst (x := (nI 0)) rfl (by decide) ?_
  obtain ⟨hz, hb⟩ := grd_spec hb
  obtain rfl := Option.some.inj hb
  exact rn_zret rfl rfl (of_decide_eq_true hz)
def b_212_16 (v0 : Option Nat)  (h : Hp) : Option (Int32 × Hp) :=
  (grd (rC 11 v0 h)).bind fun _ =>
  (f_189 v0 h).bind fun p1 =>
  (gQ 11 15 v0 p1).bind fun x2 =>
  (aI 12 x2 (nI 0) p1).bind fun x3 =>
  (grd (rC 11 v0 p1)).bind fun _ =>
  (f_199 v0 (nI 0) (x3 - (nI 1)) p1).bind fun p4 =>
  if ¬ p4.1 = 0 then b_212_38 v0  p4.2 else b_212_36   p4.2
theorem u_212_16 (d : Nat) (hd : 3 ≤ d) (v0 : Option Nat)  (h : Hp) (r : Int32 × Hp) (hb : b_212_16 v0  h = some r) : Rn d 212 16 [some (va_rf v0), none] [] h (some (.int r.1), r.2) := by
  unfold b_212_16 at hb
  obtain ⟨e, rfl⟩ : ∃ e, d = e + 1 := ⟨d - 1, by omega⟩
  refine rn_aload_n (i := 0) rfl rfl ?_
  obtain ⟨hrc, hb⟩ := grd_spec hb
  obtain ⟨p1, hc, hb⟩ := Option.bind_eq_some_iff.mp hb
  refine Rn.call0 (d := e) (As := [va_rf v0]) (rest := []) rfl rfl rfl (by decide) rfl rfl rfl (bd_rcV hrc rfl) (by decide) (bd_lenC (n := 5) rfl (bd_slR bd_slN) rfl) (bd_locC (n := 5) rfl (bd_slR bd_slN) rfl (t_189 e (by omega) v0 h _ hc)) ?_
  refine rn_aload_n (i := 0) rfl rfl ?_
  refine rn_iconst (x := (nI 0)) rfl (by decide) ?_
  refine rn_aload_n (i := 0) rfl rfl ?_
  refine rn_gQ (c := 11) (k := 15) rfl (by decide) hb (fun x2 hb => ?_)
  refine rn_iconst (x := (nI 0)) rfl (by decide) ?_
  refine rn_aI rfl hb (fun x3 hb => ?_)
  refine rn_iconst (x := (nI 1)) rfl (by decide) ?_
  refine rn_isub rfl ?_
  obtain ⟨hrc, hb⟩ := grd_spec hb
  obtain ⟨p4, hc, hb⟩ := Option.bind_eq_some_iff.mp hb
  refine Rn.call1 (d := e) (As := [va_rf v0, .int (nI 0), .int (x3 - (nI 1))]) (rest := []) rfl rfl rfl (by decide) rfl rfl rfl (bd_rcV hrc rfl) (by decide) (bd_lenC (n := 3) rfl (bd_slR (bd_slI (bd_slI bd_slN))) rfl) (bd_locC (n := 3) rfl (bd_slR (bd_slI (bd_slI bd_slN))) rfl (t_199 e (by omega) v0 (nI 0) (x3 - (nI 1)) p1 _ hc)) ?_
  refine rn_if_ne rfl rfl (fun hc => ?_) (fun hc => ?_)
  · exact u_212_38 (e + 1) hd v0  p4.2 _ (if_t hb hc)
  · exact u_212_36 (e + 1) hd v0  p4.2 _ (if_f hb hc)
def b_212_10 (v0 : Option Nat)  (h : Hp) : Option (Int32 × Hp) :=
  (grd (rC 11 v0 h)).bind fun _ =>
  (f_198 v0 (nI 3) h).bind fun p1 =>
  (grd (decide (p1.1 = 0 ∨ p1.1 = 1))).bind fun _ => some (p1.1, p1.2)
theorem u_212_10 (d : Nat) (hd : 3 ≤ d) (v0 : Option Nat)  (h : Hp) (r : Int32 × Hp) (hb : b_212_10 v0  h = some r) : Rn d 212 10 [some (va_rf v0), none] [] h (some (.int r.1), r.2) := by
  unfold b_212_10 at hb
  obtain ⟨e, rfl⟩ : ∃ e, d = e + 1 := ⟨d - 1, by omega⟩
  refine rn_aload_n (i := 0) rfl rfl ?_
  refine rn_iconst (x := (nI 3)) rfl (by decide) ?_
  obtain ⟨hrc, hb⟩ := grd_spec hb
  obtain ⟨p1, hc, hb⟩ := Option.bind_eq_some_iff.mp hb
  refine Rn.call1 (d := e) (As := [va_rf v0, .int (nI 3)]) (rest := []) rfl rfl rfl (by decide) rfl rfl rfl (bd_rcV hrc rfl) (by decide) (bd_lenC (n := 2) rfl (bd_slR (bd_slI bd_slN)) rfl) (bd_locC (n := 2) rfl (bd_slR (bd_slI bd_slN)) rfl (t_198 e (by omega) v0 (nI 3) h _ hc)) ?_
  obtain ⟨hz, hb⟩ := grd_spec hb
  obtain rfl := Option.some.inj hb
  exact rn_zret rfl rfl (of_decide_eq_true hz)
def b_212_0 (v0 : Option Nat)  (h : Hp) : Option (Int32 × Hp) :=
  (gQ 11 15 v0 h).bind fun x1 =>
  (aI 12 x1 (nI 4) h).bind fun x2 =>
  if x2 = (-1 : Int32) then b_212_16 v0  h else b_212_10 v0  h
theorem u_212_0 (d : Nat) (hd : 3 ≤ d) (v0 : Option Nat)  (h : Hp) (r : Int32 × Hp) (hb : b_212_0 v0  h = some r) : Rn d 212 0 [some (va_rf v0), none] [] h (some (.int r.1), r.2) := by
  unfold b_212_0 at hb
  refine rn_aload_n (i := 0) rfl rfl ?_
  refine rn_gQ (c := 11) (k := 15) rfl (by decide) hb (fun x1 hb => ?_)
  refine rn_iconst (x := (nI 4)) rfl (by decide) ?_
  refine rn_aI rfl hb (fun x2 hb => ?_)
  refine rn_iconst (x := (-1 : Int32)) rfl (by decide) ?_
  refine rn_icmp_eq rfl rfl (fun hc => ?_) (fun hc => ?_)
  · exact u_212_16 d hd v0  h _ (if_t hb hc)
  · exact u_212_10 d hd v0  h _ (if_f hb hc)
/-- BitingDoorsModel.readBed()Z -/
def f_212 (v0 : Option Nat) (h : Hp) : Option (Int32 × Hp) := b_212_0 v0 h
theorem t_212 (d : Nat) (hd : 3 ≤ d) (v0 : Option Nat) (h : Hp) (r : Int32 × Hp) (hb : f_212 v0 h = some r) : Rn d 212 0 [some (va_rf v0), none] [] h (some (.int r.1), r.2) := by
  unfold f_212 at hb
  exact u_212_0 d hd v0 h r hb
def b_213_85  (s0 : Int32) (h : Hp) : Option (Int32 × Hp) :=
  (grd (decide (s0 = 0 ∨ s0 = 1))).bind fun _ => some (s0, h)
theorem u_213_85 (d : Nat) (hd : 4 ≤ d) (v0 : Option Nat) (v1 : Int32) (s0 : Int32) (h : Hp) (r : Int32 × Hp) (hb : b_213_85  s0 h = some r) : Rn d 213 85 [some (va_rf v0), some (.int v1)] [.int s0] h (some (.int r.1), r.2) := by
  unfold b_213_85 at hb
  obtain ⟨hz, hb⟩ := grd_spec hb
  obtain rfl := Option.some.inj hb
  exact rn_zret rfl rfl (of_decide_eq_true hz)
def b_213_84   (h : Hp) : Option (Int32 × Hp) :=
  b_213_85  (nI 0) h
theorem u_213_84 (d : Nat) (hd : 4 ≤ d) (v0 : Option Nat) (v1 : Int32)  (h : Hp) (r : Int32 × Hp) (hb : b_213_84   h = some r) : Rn d 213 84 [some (va_rf v0), some (.int v1)] [] h (some (.int r.1), r.2) := by
  unfold b_213_84 at hb
  refine rn_iconst (x := (nI 0)) rfl (by decide) ?_
  exact u_213_85 d hd v0 v1 (nI 0) h _ hb
def b_213_80   (h : Hp) : Option (Int32 × Hp) :=
  b_213_85  (nI 1) h
theorem u_213_80 (d : Nat) (hd : 4 ≤ d) (v0 : Option Nat) (v1 : Int32)  (h : Hp) (r : Int32 × Hp) (hb : b_213_80   h = some r) : Rn d 213 80 [some (va_rf v0), some (.int v1)] [] h (some (.int r.1), r.2) := by
  unfold b_213_80 at hb
  refine rn_iconst (x := (nI 1)) rfl (by decide) ?_
  refine rn_goto rfl rfl ?_
  exact u_213_85 d hd v0 v1 (nI 1) h _ hb
def b_213_73 (v0 : Option Nat)  (h : Hp) : Option (Int32 × Hp) :=
  (grd (rC 11 v0 h)).bind fun _ =>
  (f_200 v0 h).bind fun p1 =>
  if p1.1 = 0 then b_213_84   p1.2 else b_213_80   p1.2
theorem u_213_73 (d : Nat) (hd : 4 ≤ d) (v0 : Option Nat) (v1 : Int32)  (h : Hp) (r : Int32 × Hp) (hb : b_213_73 v0  h = some r) : Rn d 213 73 [some (va_rf v0), some (.int v1)] [] h (some (.int r.1), r.2) := by
  unfold b_213_73 at hb
  obtain ⟨e, rfl⟩ : ∃ e, d = e + 1 := ⟨d - 1, by omega⟩
  refine rn_aload_n (i := 0) rfl rfl ?_
  obtain ⟨hrc, hb⟩ := grd_spec hb
  obtain ⟨p1, hc, hb⟩ := Option.bind_eq_some_iff.mp hb
  refine Rn.call1 (d := e) (As := [va_rf v0]) (rest := []) rfl rfl rfl (by decide) rfl rfl rfl (bd_rcV hrc rfl) (by decide) (bd_lenC (n := 1) rfl (bd_slR bd_slN) rfl) (bd_locC (n := 1) rfl (bd_slR bd_slN) rfl (t_200 e (by omega) v0 h _ hc)) ?_
  refine rn_if_eq rfl rfl (fun hc => ?_) (fun hc => ?_)
  · exact u_213_84 (e + 1) hd v0 v1  p1.2 _ (if_t hb hc)
  · exact u_213_80 (e + 1) hd v0 v1  p1.2 _ (if_f hb hc)
def b_213_69 (v0 : Option Nat) (v1 : Int32)  (h : Hp) : Option (Int32 × Hp) :=
  if v1 = 0 then b_213_84   h else b_213_73 v0  h
theorem u_213_69 (d : Nat) (hd : 4 ≤ d) (v0 : Option Nat) (v1 : Int32)  (h : Hp) (r : Int32 × Hp) (hb : b_213_69 v0 v1  h = some r) : Rn d 213 69 [some (va_rf v0), some (.int v1)] [] h (some (.int r.1), r.2) := by
  unfold b_213_69 at hb
  refine rn_iload_n (i := 1) rfl rfl ?_
  refine rn_if_eq rfl rfl (fun hc => ?_) (fun hc => ?_)
  · exact u_213_84 d hd v0 v1  h _ (if_t hb hc)
  · exact u_213_73 d hd v0 v1  h _ (if_f hb hc)
def b_213_68 (v0 : Option Nat) (s0 : Int32) (h : Hp) : Option (Int32 × Hp) :=
  b_213_69 v0 s0  h
theorem u_213_68 (d : Nat) (hd : 4 ≤ d) (v0 : Option Nat) (s0 : Int32) (h : Hp) (r : Int32 × Hp) (hb : b_213_68 v0 s0 h = some r) : Rn d 213 68 [some (va_rf v0), none] [.int s0] h (some (.int r.1), r.2) := by
  unfold b_213_68 at hb
  refine rn_istore_n (i := 1) (L1 := [some (va_rf v0), some (.int s0)]) rfl (Nat.le_of_ble_eq_true rfl) (Or.inr (bd_wideR rfl)) rfl ?_
  exact u_213_69 d hd v0 s0  h _ hb
def b_213_63 (v0 : Option Nat)  (h : Hp) : Option (Int32 × Hp) :=
  (grd (rC 11 v0 h)).bind fun _ =>
  (f_198 v0 (nI 1) h).bind fun p1 =>
  b_213_68 v0 p1.1 p1.2
theorem u_213_63 (d : Nat) (hd : 4 ≤ d) (v0 : Option Nat)  (h : Hp) (r : Int32 × Hp) (hb : b_213_63 v0  h = some r) : Rn d 213 63 [some (va_rf v0), none] [] h (some (.int r.1), r.2) := by
  unfold b_213_63 at hb
  obtain ⟨e, rfl⟩ : ∃ e, d = e + 1 := ⟨d - 1, by omega⟩
  refine rn_aload_n (i := 0) rfl rfl ?_
  refine rn_iconst (x := (nI 1)) rfl (by decide) ?_
  obtain ⟨hrc, hb⟩ := grd_spec hb
  obtain ⟨p1, hc, hb⟩ := Option.bind_eq_some_iff.mp hb
  refine Rn.call1 (d := e) (As := [va_rf v0, .int (nI 1)]) (rest := []) rfl rfl rfl (by decide) rfl rfl rfl (bd_rcV hrc rfl) (by decide) (bd_lenC (n := 2) rfl (bd_slR (bd_slI bd_slN)) rfl) (bd_locC (n := 2) rfl (bd_slR (bd_slI bd_slN)) rfl (t_198 e (by omega) v0 (nI 1) h _ hc)) ?_
  exact u_213_68 (e + 1) hd v0 p1.1 p1.2 _ hb
def b_213_56 (v0 : Option Nat)  (h : Hp) : Option (Int32 × Hp) :=
  (grd (rC 11 v0 h)).bind fun _ =>
  (f_212 v0 h).bind fun p1 =>
  b_213_68 v0 p1.1 p1.2
theorem u_213_56 (d : Nat) (hd : 4 ≤ d) (v0 : Option Nat)  (h : Hp) (r : Int32 × Hp) (hb : b_213_56 v0  h = some r) : Rn d 213 56 [some (va_rf v0), none] [] h (some (.int r.1), r.2) := by
  unfold b_213_56 at hb
  obtain ⟨e, rfl⟩ : ∃ e, d = e + 1 := ⟨d - 1, by omega⟩
  refine rn_aload_n (i := 0) rfl rfl ?_
  obtain ⟨hrc, hb⟩ := grd_spec hb
  obtain ⟨p1, hc, hb⟩ := Option.bind_eq_some_iff.mp hb
  refine Rn.call1 (d := e) (As := [va_rf v0]) (rest := []) rfl rfl rfl (by decide) rfl rfl rfl (bd_rcV hrc rfl) (by decide) (bd_lenC (n := 2) rfl (bd_slR bd_slN) rfl) (bd_locC (n := 2) rfl (bd_slR bd_slN) rfl (t_212 e (by omega) v0 h _ hc)) ?_
  refine rn_goto rfl rfl ?_
  exact u_213_68 (e + 1) hd v0 p1.1 p1.2 _ hb
def b_213_48 (v0 : Option Nat)  (h : Hp) : Option (Int32 × Hp) :=
  (grd (rC 11 v0 h)).bind fun _ =>
  (f_193 v0 (nI 3) h).bind fun p1 =>
  if p1.1 = 0 then b_213_63 v0  p1.2 else b_213_56 v0  p1.2
theorem u_213_48 (d : Nat) (hd : 4 ≤ d) (v0 : Option Nat)  (h : Hp) (r : Int32 × Hp) (hb : b_213_48 v0  h = some r) : Rn d 213 48 [some (va_rf v0), none] [] h (some (.int r.1), r.2) := by
  unfold b_213_48 at hb
  obtain ⟨e, rfl⟩ : ∃ e, d = e + 1 := ⟨d - 1, by omega⟩
  refine rn_aload_n (i := 0) rfl rfl ?_
  refine rn_iconst (x := (nI 3)) rfl (by decide) ?_
  obtain ⟨hrc, hb⟩ := grd_spec hb
  obtain ⟨p1, hc, hb⟩ := Option.bind_eq_some_iff.mp hb
  refine Rn.call1 (d := e) (As := [va_rf v0, .int (nI 3)]) (rest := []) rfl rfl rfl (by decide) rfl rfl rfl (bd_rcV hrc rfl) (by decide) (bd_lenC (n := 2) rfl (bd_slR (bd_slI bd_slN)) rfl) (bd_locC (n := 2) rfl (bd_slR (bd_slI bd_slN)) rfl (t_193 e (by omega) v0 (nI 3) h _ hc)) ?_
  refine rn_if_eq rfl rfl (fun hc => ?_) (fun hc => ?_)
  · exact u_213_63 (e + 1) hd v0  p1.2 _ (if_t hb hc)
  · exact u_213_56 (e + 1) hd v0  p1.2 _ (if_f hb hc)
def b_213_40 (v0 : Option Nat)  (h : Hp) : Option (Int32 × Hp) :=
  (grd (rC 11 v0 h)).bind fun _ =>
  (f_211 v0 h).bind fun p1 =>
  bnd (p1.1) fun x2 =>
  b_213_69 v0 x2  p1.2
theorem u_213_40 (d : Nat) (hd : 4 ≤ d) (v0 : Option Nat)  (h : Hp) (r : Int32 × Hp) (hb : b_213_40 v0  h = some r) : Rn d 213 40 [some (va_rf v0), none] [] h (some (.int r.1), r.2) := by
  unfold b_213_40 at hb
  obtain ⟨e, rfl⟩ : ∃ e, d = e + 1 := ⟨d - 1, by omega⟩
  refine rn_aload_n (i := 0) rfl rfl ?_
  obtain ⟨hrc, hb⟩ := grd_spec hb
  obtain ⟨p1, hc, hb⟩ := Option.bind_eq_some_iff.mp hb
  refine Rn.call1 (d := e) (As := [va_rf v0]) (rest := []) rfl rfl rfl (by decide) rfl rfl rfl (bd_rcV hrc rfl) (by decide) (bd_lenC (n := 5) rfl (bd_slR bd_slN) rfl) (bd_locC (n := 5) rfl (bd_slR bd_slN) rfl (t_211 e (by omega) v0 h _ hc)) ?_
  obtain ⟨x2, ex2, hb⟩ := bnd_spec hb
  refine rn_istore_n (i := 1) (L1 := [some (va_rf v0), some (.int x2)]) rfl (Nat.le_of_ble_eq_true rfl) (Or.inr (bd_wideR rfl)) (by rw [ex2]; rfl) ?_
  refine rn_goto rfl rfl ?_
  exact u_213_69 (e + 1) hd v0 x2  p1.2 _ hb
def b_213_32 (v0 : Option Nat)  (h : Hp) : Option (Int32 × Hp) :=
  (grd (rC 11 v0 h)).bind fun _ =>
  (f_193 v0 (nI 2) h).bind fun p1 =>
  if p1.1 = 0 then b_213_48 v0  p1.2 else b_213_40 v0  p1.2
theorem u_213_32 (d : Nat) (hd : 4 ≤ d) (v0 : Option Nat)  (h : Hp) (r : Int32 × Hp) (hb : b_213_32 v0  h = some r) : Rn d 213 32 [some (va_rf v0), none] [] h (some (.int r.1), r.2) := by
  unfold b_213_32 at hb
  obtain ⟨e, rfl⟩ : ∃ e, d = e + 1 := ⟨d - 1, by omega⟩
  refine rn_aload_n (i := 0) rfl rfl ?_
  refine rn_iconst (x := (nI 2)) rfl (by decide) ?_
  obtain ⟨hrc, hb⟩ := grd_spec hb
  obtain ⟨p1, hc, hb⟩ := Option.bind_eq_some_iff.mp hb
  refine Rn.call1 (d := e) (As := [va_rf v0, .int (nI 2)]) (rest := []) rfl rfl rfl (by decide) rfl rfl rfl (bd_rcV hrc rfl) (by decide) (bd_lenC (n := 2) rfl (bd_slR (bd_slI bd_slN)) rfl) (bd_locC (n := 2) rfl (bd_slR (bd_slI bd_slN)) rfl (t_193 e (by omega) v0 (nI 2) h _ hc)) ?_
  refine rn_if_eq rfl rfl (fun hc => ?_) (fun hc => ?_)
  · exact u_213_48 (e + 1) hd v0  p1.2 _ (if_t hb hc)
  · exact u_213_40 (e + 1) hd v0  p1.2 _ (if_f hb hc)
def b_213_24 (v0 : Option Nat)  (h : Hp) : Option (Int32 × Hp) :=
  (grd (rC 11 v0 h)).bind fun _ =>
  (f_210 v0 h).bind fun p1 =>
  bnd (p1.1) fun x2 =>
  b_213_69 v0 x2  p1.2
theorem u_213_24 (d : Nat) (hd : 4 ≤ d) (v0 : Option Nat)  (h : Hp) (r : Int32 × Hp) (hb : b_213_24 v0  h = some r) : Rn d 213 24 [some (va_rf v0), none] [] h (some (.int r.1), r.2) := by
  unfold b_213_24 at hb
  obtain ⟨e, rfl⟩ : ∃ e, d = e + 1 := ⟨d - 1, by omega⟩
  refine rn_aload_n (i := 0) rfl rfl ?_
  obtain ⟨hrc, hb⟩ := grd_spec hb
  obtain ⟨p1, hc, hb⟩ := Option.bind_eq_some_iff.mp hb
  refine Rn.call1 (d := e) (As := [va_rf v0]) (rest := []) rfl rfl rfl (by decide) rfl rfl rfl (bd_rcV hrc rfl) (by decide) (bd_lenC (n := 7) rfl (bd_slR bd_slN) rfl) (bd_locC (n := 7) rfl (bd_slR bd_slN) rfl (t_210 e (by omega) v0 h _ hc)) ?_
  obtain ⟨x2, ex2, hb⟩ := bnd_spec hb
  refine rn_istore_n (i := 1) (L1 := [some (va_rf v0), some (.int x2)]) rfl (Nat.le_of_ble_eq_true rfl) (Or.inr (bd_wideR rfl)) (by rw [ex2]; rfl) ?_
  refine rn_goto rfl rfl ?_
  exact u_213_69 (e + 1) hd v0 x2  p1.2 _ hb
def b_213_16 (v0 : Option Nat)  (h : Hp) : Option (Int32 × Hp) :=
  (grd (rC 11 v0 h)).bind fun _ =>
  (f_193 v0 (nI 1) h).bind fun p1 =>
  if p1.1 = 0 then b_213_32 v0  p1.2 else b_213_24 v0  p1.2
theorem u_213_16 (d : Nat) (hd : 4 ≤ d) (v0 : Option Nat)  (h : Hp) (r : Int32 × Hp) (hb : b_213_16 v0  h = some r) : Rn d 213 16 [some (va_rf v0), none] [] h (some (.int r.1), r.2) := by
  unfold b_213_16 at hb
  obtain ⟨e, rfl⟩ : ∃ e, d = e + 1 := ⟨d - 1, by omega⟩
  refine rn_aload_n (i := 0) rfl rfl ?_
  refine rn_iconst (x := (nI 1)) rfl (by decide) ?_
  obtain ⟨hrc, hb⟩ := grd_spec hb
  obtain ⟨p1, hc, hb⟩ := Option.bind_eq_some_iff.mp hb
  refine Rn.call1 (d := e) (As := [va_rf v0, .int (nI 1)]) (rest := []) rfl rfl rfl (by decide) rfl rfl rfl (bd_rcV hrc rfl) (by decide) (bd_lenC (n := 2) rfl (bd_slR (bd_slI bd_slN)) rfl) (bd_locC (n := 2) rfl (bd_slR (bd_slI bd_slN)) rfl (t_193 e (by omega) v0 (nI 1) h _ hc)) ?_
  refine rn_if_eq rfl rfl (fun hc => ?_) (fun hc => ?_)
  · exact u_213_32 (e + 1) hd v0  p1.2 _ (if_t hb hc)
  · exact u_213_24 (e + 1) hd v0  p1.2 _ (if_f hb hc)
def b_213_8 (v0 : Option Nat)  (h : Hp) : Option (Int32 × Hp) :=
  (grd (rC 11 v0 h)).bind fun _ =>
  (f_207 v0 h).bind fun p1 =>
  bnd (p1.1) fun x2 =>
  b_213_69 v0 x2  p1.2
theorem u_213_8 (d : Nat) (hd : 4 ≤ d) (v0 : Option Nat)  (h : Hp) (r : Int32 × Hp) (hb : b_213_8 v0  h = some r) : Rn d 213 8 [some (va_rf v0), none] [] h (some (.int r.1), r.2) := by
  unfold b_213_8 at hb
  obtain ⟨e, rfl⟩ : ∃ e, d = e + 1 := ⟨d - 1, by omega⟩
  refine rn_aload_n (i := 0) rfl rfl ?_
  obtain ⟨hrc, hb⟩ := grd_spec hb
  obtain ⟨p1, hc, hb⟩ := Option.bind_eq_some_iff.mp hb
  refine Rn.call1 (d := e) (As := [va_rf v0]) (rest := []) rfl rfl rfl (by decide) rfl rfl rfl (bd_rcV hrc rfl) (by decide) (bd_lenC (n := 3) rfl (bd_slR bd_slN) rfl) (bd_locC (n := 3) rfl (bd_slR bd_slN) rfl (t_207 e (by omega) v0 h _ hc)) ?_
  obtain ⟨x2, ex2, hb⟩ := bnd_spec hb
  refine rn_istore_n (i := 1) (L1 := [some (va_rf v0), some (.int x2)]) rfl (Nat.le_of_ble_eq_true rfl) (Or.inr (bd_wideR rfl)) (by rw [ex2]; rfl) ?_
  refine rn_goto rfl rfl ?_
  exact u_213_69 (e + 1) hd v0 x2  p1.2 _ hb
def b_213_0 (v0 : Option Nat)  (h : Hp) : Option (Int32 × Hp) :=
  (grd (rC 11 v0 h)).bind fun _ =>
  (f_193 v0 (nI 0) h).bind fun p1 =>
  if p1.1 = 0 then b_213_16 v0  p1.2 else b_213_8 v0  p1.2
theorem u_213_0 (d : Nat) (hd : 4 ≤ d) (v0 : Option Nat)  (h : Hp) (r : Int32 × Hp) (hb : b_213_0 v0  h = some r) : Rn d 213 0 [some (va_rf v0), none] [] h (some (.int r.1), r.2) := by
  unfold b_213_0 at hb
  obtain ⟨e, rfl⟩ : ∃ e, d = e + 1 := ⟨d - 1, by omega⟩
  refine rn_aload_n (i := 0) rfl rfl ?_
  refine rn_iconst (x := (nI 0)) rfl (by decide) ?_
  obtain ⟨hrc, hb⟩ := grd_spec hb
  obtain ⟨p1, hc, hb⟩ := Option.bind_eq_some_iff.mp hb
  refine Rn.call1 (d := e) (As := [va_rf v0, .int (nI 0)]) (rest := []) rfl rfl rfl (by decide) rfl rfl rfl (bd_rcV hrc rfl) (by decide) (bd_lenC (n := 2) rfl (bd_slR (bd_slI bd_slN)) rfl) (bd_locC (n := 2) rfl (bd_slR (bd_slI bd_slN)) rfl (t_193 e (by omega) v0 (nI 0) h _ hc)) ?_
  refine rn_if_eq rfl rfl (fun hc => ?_) (fun hc => ?_)
  · exact u_213_16 (e + 1) hd v0  p1.2 _ (if_t hb hc)
  · exact u_213_8 (e + 1) hd v0  p1.2 _ (if_f hb hc)
/-- BitingDoorsModel.readLine()Z -/
def f_213 (v0 : Option Nat) (h : Hp) : Option (Int32 × Hp) := b_213_0 v0 h
theorem t_213 (d : Nat) (hd : 4 ≤ d) (v0 : Option Nat) (h : Hp) (r : Int32 × Hp) (hb : f_213 v0 h = some r) : Rn d 213 0 [some (va_rf v0), none] [] h (some (.int r.1), r.2) := by
  unfold f_213 at hb
  exact u_213_0 d hd v0 h r hb
def b_214_129 (v0 : Option Nat) (v1 : Int32)  (h : Hp) : Option (Int32 × Hp) :=
  (gQ 11 14 v0 h).bind fun x1 =>
  (gQ 11 14 v0 h).bind fun x2 =>
  (aI 12 x2 (nI 4) h).bind fun x3 =>
  (wI x1 (nI 340) x3 h).bind fun h4 =>
  (gQ 11 14 v0 h4).bind fun x5 =>
  (wI x5 (nI 341) (nI 0) h4).bind fun h6 =>
  (gQ 11 14 v0 h6).bind fun x7 =>
  (wI x7 (nI 462) (nI 0) h6).bind fun h8 =>
  (pI 11 23 v0 (nI 0) h8).bind fun h9 =>
  some (v1, h9)
theorem u_214_129 (d : Nat) (hd : 5 ≤ d) (v0 : Option Nat) (v1 : Int32) (v2 : Int32)  (h : Hp) (r : Int32 × Hp) (hb : b_214_129 v0 v1  h = some r) : Rn d 214 129 [some (va_rf v0), some (.int v1), some (.int v2)] [] h (some (.int r.1), r.2) := by
  unfold b_214_129 at hb
  refine rn_aload_n (i := 0) rfl rfl ?_
  refine rn_gQ (c := 11) (k := 14) rfl (by decide) hb (fun x1 hb => ?_)
  refine rn_sipush (x := (nI 340)) rfl (by decide) ?_
  refine rn_aload_n (i := 0) rfl rfl ?_
  refine rn_gQ (c := 11) (k := 14) rfl (by decide) hb (fun x2 hb => ?_)
  refine rn_iconst (x := (nI 4)) rfl (by decide) ?_
  refine rn_aI rfl hb (fun x3 hb => ?_)
  refine rn_wI rfl hb (fun h4 hb => ?_)
  refine rn_aload_n (i := 0) rfl rfl ?_
  refine rn_gQ (c := 11) (k := 14) rfl (by decide) hb (fun x5 hb => ?_)
  refine rn_sipush (x := (nI 341)) rfl (by decide) ?_
  refine rn_iconst (x := (nI 0)) rfl (by decide) ?_
  refine rn_wI rfl hb (fun h6 hb => ?_)
  refine rn_aload_n (i := 0) rfl rfl ?_
  refine rn_gQ (c := 11) (k := 14) rfl (by decide) hb (fun x7 hb => ?_)
  refine rn_sipush (x := (nI 462)) rfl (by decide) ?_
  refine rn_iconst (x := (nI 0)) rfl (by decide) ?_
  refine rn_wI rfl hb (fun h8 hb => ?_)
  refine rn_aload_n (i := 0) rfl rfl ?_
  refine rn_iconst (x := (nI 0)) rfl (by decide) ?_
  refine rn_pI (c := 11) (k := 23) rfl (by decide) hb (fun h9 hb => ?_)
  refine rn_iload_n (i := 1) rfl rfl ?_
  obtain rfl := Option.some.inj hb
  exact rn_iret rfl rfl
def b_214_100 (k94 : Option Nat → Int32 → Int32 → Hp → Option (Int32 × Hp)) (v0 : Option Nat) (v1 : Int32) (v2 : Int32)  (h : Hp) : Option (Int32 × Hp) :=
  (gQ 11 18 v0 h).bind fun x1 =>
  (gQ 11 19 v0 h).bind fun x2 =>
  (aJ x2 v2 h).bind fun x3 =>
  (wJ x1 v2 x3 h).bind fun h4 =>
  (gQ 11 14 v0 h4).bind fun x5 =>
  (wI x5 ((nI 330) + v2) (nI 0) h4).bind fun h6 =>
  bnd (v2 + (nI 1)) fun x7 =>
  k94 v0 v1 x7 h6
theorem u_214_100 (d : Nat) (hd : 5 ≤ d) (k94 : Option Nat → Int32 → Int32 → Hp → Option (Int32 × Hp)) (K94 : ∀ (v0 : Option Nat) (v1 : Int32) (v2 : Int32) (h : Hp) (r : Int32 × Hp), k94 v0 v1 v2 h = some r → Rn d 214 94 [some (va_rf v0), some (.int v1), some (.int v2)] [] h (some (.int r.1), r.2)) (v0 : Option Nat) (v1 : Int32) (v2 : Int32)  (h : Hp) (r : Int32 × Hp) (hb : b_214_100 k94 v0 v1 v2  h = some r) : Rn d 214 100 [some (va_rf v0), some (.int v1), some (.int v2)] [] h (some (.int r.1), r.2) := by
  unfold b_214_100 at hb
  refine rn_aload_n (i := 0) rfl rfl ?_
  refine rn_gQ (c := 11) (k := 18) rfl (by decide) hb (fun x1 hb => ?_)
  refine rn_iload_n (i := 2) rfl rfl ?_
  refine rn_aload_n (i := 0) rfl rfl ?_
  refine rn_gQ (c := 11) (k := 19) rfl (by decide) hb (fun x2 hb => ?_)
  refine rn_iload_n (i := 2) rfl rfl ?_
  refine rn_aJ rfl hb (fun x3 hb => ?_)
  refine rn_wJ rfl hb (fun h4 hb => ?_)
  refine rn_aload_n (i := 0) rfl rfl ?_
  refine rn_gQ (c := 11) (k := 14) rfl (by decide) hb (fun x5 hb => ?_)
  refine rn_sipush (x := (nI 330)) rfl (by decide) ?_
  refine rn_iload_n (i := 2) rfl rfl ?_
  refine rn_iadd rfl ?_
  refine rn_iconst (x := (nI 0)) rfl (by decide) ?_
  refine rn_wI rfl hb (fun h6 hb => ?_)
  obtain ⟨x7, ex7, hb⟩ := bnd_spec hb
  refine rn_iinc (i := 2) (y := x7) (L1 := [some (va_rf v0), some (.int v1), some (.int x7)]) rfl rfl (Nat.le_of_ble_eq_true rfl) (Or.inr rfl) (by rw [ex7]; rfl) rfl ?_
  refine rn_goto rfl rfl ?_
  exact K94 v0 v1 x7 h6 _ hb
def b_214_94 (k94 : Option Nat → Int32 → Int32 → Hp → Option (Int32 × Hp)) (v0 : Option Nat) (v1 : Int32) (v2 : Int32)  (h : Hp) : Option (Int32 × Hp) :=
  if (nI 10) ≤ v2 then b_214_129 v0 v1  h else b_214_100 k94 v0 v1 v2  h
theorem u_214_94 (d : Nat) (hd : 5 ≤ d) (k94 : Option Nat → Int32 → Int32 → Hp → Option (Int32 × Hp)) (K94 : ∀ (v0 : Option Nat) (v1 : Int32) (v2 : Int32) (h : Hp) (r : Int32 × Hp), k94 v0 v1 v2 h = some r → Rn d 214 94 [some (va_rf v0), some (.int v1), some (.int v2)] [] h (some (.int r.1), r.2)) (v0 : Option Nat) (v1 : Int32) (v2 : Int32)  (h : Hp) (r : Int32 × Hp) (hb : b_214_94 k94 v0 v1 v2  h = some r) : Rn d 214 94 [some (va_rf v0), some (.int v1), some (.int v2)] [] h (some (.int r.1), r.2) := by
  unfold b_214_94 at hb
  refine rn_iload_n (i := 2) rfl rfl ?_
  refine rn_bipush (x := (nI 10)) rfl (by decide) ?_
  refine rn_icmp_ge rfl rfl (fun hc => ?_) (fun hc => ?_)
  · exact u_214_129 d hd v0 v1 v2  h _ (if_t hb hc)
  · exact u_214_100 d hd k94 K94 v0 v1 v2  h _ (if_f hb hc)
def l_214_94 : Nat → Option Nat → Int32 → Int32 → Hp → Option (Int32 × Hp)
  | 0, _, _, _, _ => none
  | n + 1, v0, v1, v2, h => b_214_94 (l_214_94 n) v0 v1 v2 h
theorem w_214_94 (d : Nat) (hd : 5 ≤ d) : ∀ (n : Nat) (v0 : Option Nat) (v1 : Int32) (v2 : Int32) (h : Hp) (r : Int32 × Hp), l_214_94 n v0 v1 v2 h = some r → Rn d 214 94 [some (va_rf v0), some (.int v1), some (.int v2)] [] h (some (.int r.1), r.2) := by
  intro n
  induction n with
  | zero => intro v0 v1 v2 h r hb; cases hb
  | succ n ih => intro v0 v1 v2 h r hb; exact u_214_94 d hd (l_214_94 n) ih v0 v1 v2 h r hb
def b_214_92 (v0 : Option Nat) (v1 : Int32)  (h : Hp) : Option (Int32 × Hp) :=
  bnd ((nI 0)) fun x1 =>
  l_214_94 FU v0 v1 x1 h
theorem u_214_92 (d : Nat) (hd : 5 ≤ d) (v0 : Option Nat) (v1 : Int32) (v2 : Int32)  (h : Hp) (r : Int32 × Hp) (hb : b_214_92 v0 v1  h = some r) : Rn d 214 92 [some (va_rf v0), some (.int v1), some (.int v2)] [] h (some (.int r.1), r.2) := by
  unfold b_214_92 at hb
  refine rn_iconst (x := (nI 0)) rfl (by decide) ?_
  obtain ⟨x1, ex1, hb⟩ := bnd_spec hb
  refine rn_istore_n (i := 2) (L1 := [some (va_rf v0), some (.int v1), some (.int x1)]) rfl (Nat.le_of_ble_eq_true rfl) (Or.inr rfl) (by rw [ex1]; rfl) ?_
  exact w_214_94 d hd FU v0 v1 x1 h _ hb
def b_214_74 (k67 : Option Nat → Int32 → Int32 → Hp → Option (Int32 × Hp)) (v0 : Option Nat) (v1 : Int32) (v2 : Int32)  (h : Hp) : Option (Int32 × Hp) :=
  (gQ 11 14 v0 h).bind fun x1 =>
  (gQ 11 15 v0 h).bind fun x2 =>
  (aI 12 x2 v2 h).bind fun x3 =>
  (wI x1 v2 x3 h).bind fun h4 =>
  bnd (v2 + (nI 1)) fun x5 =>
  k67 v0 v1 x5 h4
theorem u_214_74 (d : Nat) (hd : 5 ≤ d) (k67 : Option Nat → Int32 → Int32 → Hp → Option (Int32 × Hp)) (K67 : ∀ (v0 : Option Nat) (v1 : Int32) (v2 : Int32) (h : Hp) (r : Int32 × Hp), k67 v0 v1 v2 h = some r → Rn d 214 67 [some (va_rf v0), some (.int v1), some (.int v2)] [] h (some (.int r.1), r.2)) (v0 : Option Nat) (v1 : Int32) (v2 : Int32)  (h : Hp) (r : Int32 × Hp) (hb : b_214_74 k67 v0 v1 v2  h = some r) : Rn d 214 74 [some (va_rf v0), some (.int v1), some (.int v2)] [] h (some (.int r.1), r.2) := by
  unfold b_214_74 at hb
  refine rn_aload_n (i := 0) rfl rfl ?_
  refine rn_gQ (c := 11) (k := 14) rfl (by decide) hb (fun x1 hb => ?_)
  refine rn_iload_n (i := 2) rfl rfl ?_
  refine rn_aload_n (i := 0) rfl rfl ?_
  refine rn_gQ (c := 11) (k := 15) rfl (by decide) hb (fun x2 hb => ?_)
  refine rn_iload_n (i := 2) rfl rfl ?_
  refine rn_aI rfl hb (fun x3 hb => ?_)
  refine rn_wI rfl hb (fun h4 hb => ?_)
  obtain ⟨x5, ex5, hb⟩ := bnd_spec hb
  refine rn_iinc (i := 2) (y := x5) (L1 := [some (va_rf v0), some (.int v1), some (.int x5)]) rfl rfl (Nat.le_of_ble_eq_true rfl) (Or.inr rfl) (by rw [ex5]; rfl) rfl ?_
  refine rn_goto rfl rfl ?_
  exact K67 v0 v1 x5 h4 _ hb
def b_214_67 (k67 : Option Nat → Int32 → Int32 → Hp → Option (Int32 × Hp)) (v0 : Option Nat) (v1 : Int32) (v2 : Int32)  (h : Hp) : Option (Int32 × Hp) :=
  if (nI 330) ≤ v2 then b_214_92 v0 v1  h else b_214_74 k67 v0 v1 v2  h
theorem u_214_67 (d : Nat) (hd : 5 ≤ d) (k67 : Option Nat → Int32 → Int32 → Hp → Option (Int32 × Hp)) (K67 : ∀ (v0 : Option Nat) (v1 : Int32) (v2 : Int32) (h : Hp) (r : Int32 × Hp), k67 v0 v1 v2 h = some r → Rn d 214 67 [some (va_rf v0), some (.int v1), some (.int v2)] [] h (some (.int r.1), r.2)) (v0 : Option Nat) (v1 : Int32) (v2 : Int32)  (h : Hp) (r : Int32 × Hp) (hb : b_214_67 k67 v0 v1 v2  h = some r) : Rn d 214 67 [some (va_rf v0), some (.int v1), some (.int v2)] [] h (some (.int r.1), r.2) := by
  unfold b_214_67 at hb
  refine rn_iload_n (i := 2) rfl rfl ?_
  refine rn_sipush (x := (nI 330)) rfl (by decide) ?_
  refine rn_icmp_ge rfl rfl (fun hc => ?_) (fun hc => ?_)
  · exact u_214_92 d hd v0 v1 v2  h _ (if_t hb hc)
  · exact u_214_74 d hd k67 K67 v0 v1 v2  h _ (if_f hb hc)
def l_214_67 : Nat → Option Nat → Int32 → Int32 → Hp → Option (Int32 × Hp)
  | 0, _, _, _, _ => none
  | n + 1, v0, v1, v2, h => b_214_67 (l_214_67 n) v0 v1 v2 h
theorem w_214_67 (d : Nat) (hd : 5 ≤ d) : ∀ (n : Nat) (v0 : Option Nat) (v1 : Int32) (v2 : Int32) (h : Hp) (r : Int32 × Hp), l_214_67 n v0 v1 v2 h = some r → Rn d 214 67 [some (va_rf v0), some (.int v1), some (.int v2)] [] h (some (.int r.1), r.2) := by
  intro n
  induction n with
  | zero => intro v0 v1 v2 h r hb; cases hb
  | succ n ih => intro v0 v1 v2 h r hb; exact u_214_67 d hd (l_214_67 n) ih v0 v1 v2 h r hb
def b_214_65 (v0 : Option Nat) (v1 : Int32)  (h : Hp) : Option (Int32 × Hp) :=
  bnd ((nI 0)) fun x1 =>
  l_214_67 FU v0 v1 x1 h
theorem u_214_65 (d : Nat) (hd : 5 ≤ d) (v0 : Option Nat) (v1 : Int32)  (h : Hp) (r : Int32 × Hp) (hb : b_214_65 v0 v1  h = some r) : Rn d 214 65 [some (va_rf v0), some (.int v1), none] [] h (some (.int r.1), r.2) := by
  unfold b_214_65 at hb
  refine rn_iconst (x := (nI 0)) rfl (by decide) ?_
  obtain ⟨x1, ex1, hb⟩ := bnd_spec hb
  refine rn_istore_n (i := 2) (L1 := [some (va_rf v0), some (.int v1), some (.int x1)]) rfl (Nat.le_of_ble_eq_true rfl) (Or.inr rfl) (by rw [ex1]; rfl) ?_
  exact w_214_67 d hd FU v0 v1 x1 h _ hb
def b_214_59 (k38 : Option Nat → Int32 → Hp → Option (Int32 × Hp)) (v0 : Option Nat) (v1 : Int32)  (h : Hp) : Option (Int32 × Hp) :=
  bnd (v1 + (nI 1)) fun x1 =>
  k38 v0 x1 h
theorem u_214_59 (d : Nat) (hd : 5 ≤ d) (k38 : Option Nat → Int32 → Hp → Option (Int32 × Hp)) (K38 : ∀ (v0 : Option Nat) (v1 : Int32) (h : Hp) (r : Int32 × Hp), k38 v0 v1 h = some r → Rn d 214 38 [some (va_rf v0), some (.int v1), none] [] h (some (.int r.1), r.2)) (v0 : Option Nat) (v1 : Int32)  (h : Hp) (r : Int32 × Hp) (hb : b_214_59 k38 v0 v1  h = some r) : Rn d 214 59 [some (va_rf v0), some (.int v1), none] [] h (some (.int r.1), r.2) := by
  unfold b_214_59 at hb
  obtain ⟨x1, ex1, hb⟩ := bnd_spec hb
  refine rn_iinc (i := 1) (y := x1) (L1 := [some (va_rf v0), some (.int x1), none]) rfl rfl (Nat.le_of_ble_eq_true rfl) (Or.inr (bd_wideR rfl)) (by rw [ex1]; rfl) rfl ?_
  refine rn_goto rfl rfl ?_
  exact K38 v0 x1 h _ hb
def b_214_52 (v0 : Option Nat)  (h : Hp) : Option (Int32 × Hp) :=
  (gI 11 11 v0 h).bind fun x1 =>
  some (((-1 : Int32) - x1), h)
theorem u_214_52 (d : Nat) (hd : 5 ≤ d) (v0 : Option Nat) (v1 : Int32)  (h : Hp) (r : Int32 × Hp) (hb : b_214_52 v0  h = some r) : Rn d 214 52 [some (va_rf v0), some (.int v1), none] [] h (some (.int r.1), r.2) := by
  unfold b_214_52 at hb
  refine rn_iconst (x := (-1 : Int32)) rfl (by decide) ?_
  refine rn_aload_n (i := 0) rfl rfl ?_
  refine rn_gI (c := 11) (k := 11) rfl (by decide) hb (fun x1 hb => ?_)
  refine rn_isub rfl ?_
  obtain rfl := Option.some.inj hb
  exact rn_iret rfl rfl
def b_214_45 (k38 : Option Nat → Int32 → Hp → Option (Int32 × Hp)) (v0 : Option Nat) (v1 : Int32)  (h : Hp) : Option (Int32 × Hp) :=
  (grd (rC 11 v0 h)).bind fun _ =>
  (f_213 v0 h).bind fun p1 =>
  if ¬ p1.1 = 0 then b_214_59 k38 v0 v1  p1.2 else b_214_52 v0  p1.2
theorem u_214_45 (d : Nat) (hd : 5 ≤ d) (k38 : Option Nat → Int32 → Hp → Option (Int32 × Hp)) (K38 : ∀ (v0 : Option Nat) (v1 : Int32) (h : Hp) (r : Int32 × Hp), k38 v0 v1 h = some r → Rn d 214 38 [some (va_rf v0), some (.int v1), none] [] h (some (.int r.1), r.2)) (v0 : Option Nat) (v1 : Int32)  (h : Hp) (r : Int32 × Hp) (hb : b_214_45 k38 v0 v1  h = some r) : Rn d 214 45 [some (va_rf v0), some (.int v1), none] [] h (some (.int r.1), r.2) := by
  unfold b_214_45 at hb
  obtain ⟨e, rfl⟩ : ∃ e, d = e + 1 := ⟨d - 1, by omega⟩
  refine rn_aload_n (i := 0) rfl rfl ?_
  obtain ⟨hrc, hb⟩ := grd_spec hb
  obtain ⟨p1, hc, hb⟩ := Option.bind_eq_some_iff.mp hb
  refine Rn.call1 (d := e) (As := [va_rf v0]) (rest := []) rfl rfl rfl (by decide) rfl rfl rfl (bd_rcV hrc rfl) (by decide) (bd_lenC (n := 2) rfl (bd_slR bd_slN) rfl) (bd_locC (n := 2) rfl (bd_slR bd_slN) rfl (t_213 e (by omega) v0 h _ hc)) ?_
  refine rn_if_ne rfl rfl (fun hc => ?_) (fun hc => ?_)
  · exact u_214_59 (e + 1) hd k38 K38 v0 v1  p1.2 _ (if_t hb hc)
  · exact u_214_52 (e + 1) hd v0 v1  p1.2 _ (if_f hb hc)
def b_214_38 (k38 : Option Nat → Int32 → Hp → Option (Int32 × Hp)) (v0 : Option Nat) (v1 : Int32)  (h : Hp) : Option (Int32 × Hp) :=
  (gI 11 7 v0 h).bind fun x1 =>
  if x1 = 0 then b_214_65 v0 v1  h else b_214_45 k38 v0 v1  h
theorem u_214_38 (d : Nat) (hd : 5 ≤ d) (k38 : Option Nat → Int32 → Hp → Option (Int32 × Hp)) (K38 : ∀ (v0 : Option Nat) (v1 : Int32) (h : Hp) (r : Int32 × Hp), k38 v0 v1 h = some r → Rn d 214 38 [some (va_rf v0), some (.int v1), none] [] h (some (.int r.1), r.2)) (v0 : Option Nat) (v1 : Int32)  (h : Hp) (r : Int32 × Hp) (hb : b_214_38 k38 v0 v1  h = some r) : Rn d 214 38 [some (va_rf v0), some (.int v1), none] [] h (some (.int r.1), r.2) := by
  unfold b_214_38 at hb
  refine rn_aload_n (i := 0) rfl rfl ?_
  refine rn_gI (c := 11) (k := 7) rfl (by decide) hb (fun x1 hb => ?_)
  refine rn_if_eq rfl rfl (fun hc => ?_) (fun hc => ?_)
  · exact u_214_65 d hd v0 v1  h _ (if_t hb hc)
  · exact u_214_45 d hd k38 K38 v0 v1  h _ (if_f hb hc)
def l_214_38 : Nat → Option Nat → Int32 → Hp → Option (Int32 × Hp)
  | 0, _, _, _ => none
  | n + 1, v0, v1, h => b_214_38 (l_214_38 n) v0 v1 h
theorem w_214_38 (d : Nat) (hd : 5 ≤ d) : ∀ (n : Nat) (v0 : Option Nat) (v1 : Int32) (h : Hp) (r : Int32 × Hp), l_214_38 n v0 v1 h = some r → Rn d 214 38 [some (va_rf v0), some (.int v1), none] [] h (some (.int r.1), r.2) := by
  intro n
  induction n with
  | zero => intro v0 v1 h r hb; cases hb
  | succ n ih => intro v0 v1 h r hb; exact u_214_38 d hd (l_214_38 n) ih v0 v1 h r hb
def b_214_29 (v0 : Option Nat)  (h : Hp) : Option (Int32 × Hp) :=
  (gQ 11 15 v0 h).bind fun x1 =>
  (wI x1 (nI 4) (-1 : Int32) h).bind fun h2 =>
  bnd ((nI 0)) fun x3 =>
  l_214_38 FU v0 x3 h2
theorem u_214_29 (d : Nat) (hd : 5 ≤ d) (v0 : Option Nat) (v1 : Int32)  (h : Hp) (r : Int32 × Hp) (hb : b_214_29 v0  h = some r) : Rn d 214 29 [some (va_rf v0), some (.int v1), none] [] h (some (.int r.1), r.2) := by
  unfold b_214_29 at hb
  refine rn_aload_n (i := 0) rfl rfl ?_
  refine rn_gQ (c := 11) (k := 15) rfl (by decide) hb (fun x1 hb => ?_)
  refine rn_iconst (x := (nI 4)) rfl (by decide) ?_
  refine rn_iconst (x := (-1 : Int32)) rfl (by decide) ?_
  refine rn_wI rfl hb (fun h2 hb => ?_)
  refine rn_iconst (x := (nI 0)) rfl (by decide) ?_
  obtain ⟨x3, ex3, hb⟩ := bnd_spec hb
  refine rn_istore_n (i := 1) (L1 := [some (va_rf v0), some (.int x3), none]) rfl (Nat.le_of_ble_eq_true rfl) (Or.inr (bd_wideR rfl)) (by rw [ex3]; rfl) ?_
  exact w_214_38 d hd FU v0 x3 h2 _ hb
def b_214_16 (k9 : Option Nat → Int32 → Hp → Option (Int32 × Hp)) (v0 : Option Nat) (v1 : Int32)  (h : Hp) : Option (Int32 × Hp) :=
  (gQ 11 15 v0 h).bind fun x1 =>
  (wI x1 v1 (nI 0) h).bind fun h2 =>
  bnd (v1 + (nI 1)) fun x3 =>
  k9 v0 x3 h2
theorem u_214_16 (d : Nat) (hd : 5 ≤ d) (k9 : Option Nat → Int32 → Hp → Option (Int32 × Hp)) (K9 : ∀ (v0 : Option Nat) (v1 : Int32) (h : Hp) (r : Int32 × Hp), k9 v0 v1 h = some r → Rn d 214 9 [some (va_rf v0), some (.int v1), none] [] h (some (.int r.1), r.2)) (v0 : Option Nat) (v1 : Int32)  (h : Hp) (r : Int32 × Hp) (hb : b_214_16 k9 v0 v1  h = some r) : Rn d 214 16 [some (va_rf v0), some (.int v1), none] [] h (some (.int r.1), r.2) := by
  unfold b_214_16 at hb
  refine rn_aload_n (i := 0) rfl rfl ?_
  refine rn_gQ (c := 11) (k := 15) rfl (by decide) hb (fun x1 hb => ?_)
  refine rn_iload_n (i := 1) rfl rfl ?_
  refine rn_iconst (x := (nI 0)) rfl (by decide) ?_
  refine rn_wI rfl hb (fun h2 hb => ?_)
  obtain ⟨x3, ex3, hb⟩ := bnd_spec hb
  refine rn_iinc (i := 1) (y := x3) (L1 := [some (va_rf v0), some (.int x3), none]) rfl rfl (Nat.le_of_ble_eq_true rfl) (Or.inr (bd_wideR rfl)) (by rw [ex3]; rfl) rfl ?_
  refine rn_goto rfl rfl ?_
  exact K9 v0 x3 h2 _ hb
def b_214_9 (k9 : Option Nat → Int32 → Hp → Option (Int32 × Hp)) (v0 : Option Nat) (v1 : Int32)  (h : Hp) : Option (Int32 × Hp) :=
  if (nI 330) ≤ v1 then b_214_29 v0  h else b_214_16 k9 v0 v1  h
theorem u_214_9 (d : Nat) (hd : 5 ≤ d) (k9 : Option Nat → Int32 → Hp → Option (Int32 × Hp)) (K9 : ∀ (v0 : Option Nat) (v1 : Int32) (h : Hp) (r : Int32 × Hp), k9 v0 v1 h = some r → Rn d 214 9 [some (va_rf v0), some (.int v1), none] [] h (some (.int r.1), r.2)) (v0 : Option Nat) (v1 : Int32)  (h : Hp) (r : Int32 × Hp) (hb : b_214_9 k9 v0 v1  h = some r) : Rn d 214 9 [some (va_rf v0), some (.int v1), none] [] h (some (.int r.1), r.2) := by
  unfold b_214_9 at hb
  refine rn_iload_n (i := 1) rfl rfl ?_
  refine rn_sipush (x := (nI 330)) rfl (by decide) ?_
  refine rn_icmp_ge rfl rfl (fun hc => ?_) (fun hc => ?_)
  · exact u_214_29 d hd v0 v1  h _ (if_t hb hc)
  · exact u_214_16 d hd k9 K9 v0 v1  h _ (if_f hb hc)
def l_214_9 : Nat → Option Nat → Int32 → Hp → Option (Int32 × Hp)
  | 0, _, _, _ => none
  | n + 1, v0, v1, h => b_214_9 (l_214_9 n) v0 v1 h
theorem w_214_9 (d : Nat) (hd : 5 ≤ d) : ∀ (n : Nat) (v0 : Option Nat) (v1 : Int32) (h : Hp) (r : Int32 × Hp), l_214_9 n v0 v1 h = some r → Rn d 214 9 [some (va_rf v0), some (.int v1), none] [] h (some (.int r.1), r.2) := by
  intro n
  induction n with
  | zero => intro v0 v1 h r hb; cases hb
  | succ n ih => intro v0 v1 h r hb; exact u_214_9 d hd (l_214_9 n) ih v0 v1 h r hb
def b_214_0 (v0 : Option Nat)  (h : Hp) : Option (Int32 × Hp) :=
  (grd (rC 11 v0 h)).bind fun _ =>
  (f_201 v0 (nI 900) h).bind fun p1 =>
  bnd ((nI 0)) fun x2 =>
  l_214_9 FU v0 x2 p1
theorem u_214_0 (d : Nat) (hd : 5 ≤ d) (v0 : Option Nat)  (h : Hp) (r : Int32 × Hp) (hb : b_214_0 v0  h = some r) : Rn d 214 0 [some (va_rf v0), none, none] [] h (some (.int r.1), r.2) := by
  unfold b_214_0 at hb
  obtain ⟨e, rfl⟩ : ∃ e, d = e + 1 := ⟨d - 1, by omega⟩
  refine rn_aload_n (i := 0) rfl rfl ?_
  refine rn_sipush (x := (nI 900)) rfl (by decide) ?_
  obtain ⟨hrc, hb⟩ := grd_spec hb
  obtain ⟨p1, hc, hb⟩ := Option.bind_eq_some_iff.mp hb
  refine Rn.call0 (d := e) (As := [va_rf v0, .int (nI 900)]) (rest := []) rfl rfl rfl (by decide) rfl rfl rfl (bd_rcV hrc rfl) (by decide) (bd_lenC (n := 2) rfl (bd_slR (bd_slI bd_slN)) rfl) (bd_locC (n := 2) rfl (bd_slR (bd_slI bd_slN)) rfl (t_201 e (by omega) v0 (nI 900) h _ hc)) ?_
  refine rn_iconst (x := (nI 0)) rfl (by decide) ?_
  obtain ⟨x2, ex2, hb⟩ := bnd_spec hb
  refine rn_istore_n (i := 1) (L1 := [some (va_rf v0), some (.int x2), none]) rfl (Nat.le_of_ble_eq_true rfl) (Or.inr (bd_wideR rfl)) (by rw [ex2]; rfl) ?_
  exact w_214_9 (e + 1) hd FU v0 x2 p1 _ hb
/-- BitingDoorsModel.house()I -/
def f_214 (v0 : Option Nat) (h : Hp) : Option (Int32 × Hp) := b_214_0 v0 h
theorem t_214 (d : Nat) (hd : 5 ≤ d) (v0 : Option Nat) (h : Hp) (r : Int32 × Hp) (hb : f_214 v0 h = some r) : Rn d 214 0 [some (va_rf v0), none, none] [] h (some (.int r.1), r.2) := by
  unfold f_214 at hb
  exact u_214_0 d hd v0 h r hb
def b_215_0 (v0 : Option Nat)  (h : Hp) : Option (Int32 × Hp) :=
  (pI 11 0 v0 (nI 0) h).bind fun h1 =>
  (gI 11 10 v0 h1).bind fun x2 =>
  some (x2, h1)
theorem u_215_0 (d : Nat) (hd : 0 ≤ d) (v0 : Option Nat)  (h : Hp) (r : Int32 × Hp) (hb : b_215_0 v0  h = some r) : Rn d 215 0 [some (va_rf v0)] [] h (some (.int r.1), r.2) := by
  unfold b_215_0 at hb
  refine rn_aload_n (i := 0) rfl rfl ?_
  refine rn_iconst (x := (nI 0)) rfl (by decide) ?_
  refine rn_pI (c := 11) (k := 0) rfl (by decide) hb (fun h1 hb => ?_)
  refine rn_aload_n (i := 0) rfl rfl ?_
  refine rn_gI (c := 11) (k := 10) rfl (by decide) hb (fun x2 hb => ?_)
  obtain rfl := Option.some.inj hb
  exact rn_iret rfl rfl
/-- BitingDoorsModel.fault()I -/
def f_215 (v0 : Option Nat) (h : Hp) : Option (Int32 × Hp) := b_215_0 v0 h
theorem t_215 (d : Nat) (hd : 0 ≤ d) (v0 : Option Nat) (h : Hp) (r : Int32 × Hp) (hb : f_215 v0 h = some r) : Rn d 215 0 [some (va_rf v0)] [] h (some (.int r.1), r.2) := by
  unfold f_215 at hb
  exact u_215_0 d hd v0 h r hb
def b_216_61  (s0 : Int32) (h : Hp) : Option (Int32 × Hp) :=
  some (s0, h)
theorem u_216_61 (d : Nat) (hd : 1 ≤ d) (v0 : Option Nat) (v1 : Int32) (v2 : Int32) (v3 : Int32) (s0 : Int32) (h : Hp) (r : Int32 × Hp) (hb : b_216_61  s0 h = some r) : Rn d 216 61 [some (va_rf v0), some (.int v1), some (.int v2), some (.int v3)] [.int s0] h (some (.int r.1), r.2) := by
  unfold b_216_61 at hb
  obtain rfl := Option.some.inj hb
  exact rn_iret rfl rfl
def b_216_47 (v0 : Option Nat) (v1 : Int32) (v2 : Int32)  (h : Hp) : Option (Int32 × Hp) :=
  (gQ 11 14 v0 h).bind fun x1 =>
  (aI 12 x1 (((nI 10) + ((nI 10) * v2)) + v1) h).bind fun x2 =>
  b_216_61  x2 h
theorem u_216_47 (d : Nat) (hd : 1 ≤ d) (v0 : Option Nat) (v1 : Int32) (v2 : Int32) (v3 : Int32)  (h : Hp) (r : Int32 × Hp) (hb : b_216_47 v0 v1 v2  h = some r) : Rn d 216 47 [some (va_rf v0), some (.int v1), some (.int v2), some (.int v3)] [] h (some (.int r.1), r.2) := by
  unfold b_216_47 at hb
  refine rn_aload_n (i := 0) rfl rfl ?_
  refine rn_gQ (c := 11) (k := 14) rfl (by decide) hb (fun x1 hb => ?_)
  refine rn_bipush (x := (nI 10)) rfl (by decide) ?_
  refine rn_bipush (x := (nI 10)) rfl (by decide) ?_
  refine rn_iload_n (i := 2) rfl rfl ?_
  refine rn_imul rfl ?_
  refine rn_iadd rfl ?_
  refine rn_iload_n (i := 1) rfl rfl ?_
  refine rn_iadd rfl ?_
  refine rn_aI rfl hb (fun x2 hb => ?_)
  exact u_216_61 d hd v0 v1 v2 v3 x2 h _ hb
def b_216_40 (v3 : Int32)  (h : Hp) : Option (Int32 × Hp) :=
  b_216_61  ((nI 9) + v3) h
theorem u_216_40 (d : Nat) (hd : 1 ≤ d) (v0 : Option Nat) (v1 : Int32) (v2 : Int32) (v3 : Int32)  (h : Hp) (r : Int32 × Hp) (hb : b_216_40 v3  h = some r) : Rn d 216 40 [some (va_rf v0), some (.int v1), some (.int v2), some (.int v3)] [] h (some (.int r.1), r.2) := by
  unfold b_216_40 at hb
  refine rn_bipush (x := (nI 9)) rfl (by decide) ?_
  refine rn_iload_n (i := 3) rfl rfl ?_
  refine rn_iadd rfl ?_
  refine rn_goto rfl rfl ?_
  exact u_216_61 d hd v0 v1 v2 v3 ((nI 9) + v3) h _ hb
def b_216_20 (v0 : Option Nat) (v1 : Int32) (v2 : Int32)  (h : Hp) : Option (Int32 × Hp) :=
  (gQ 11 14 v0 h).bind fun x1 =>
  (aI 12 x1 (((nI 210) + ((nI 10) * v2)) + v1) h).bind fun x2 =>
  if x2 ≤ 0 then b_216_47 v0 v1 v2  h else b_216_40 x2  h
theorem u_216_20 (d : Nat) (hd : 1 ≤ d) (v0 : Option Nat) (v1 : Int32) (v2 : Int32)  (h : Hp) (r : Int32 × Hp) (hb : b_216_20 v0 v1 v2  h = some r) : Rn d 216 20 [some (va_rf v0), some (.int v1), some (.int v2), none] [] h (some (.int r.1), r.2) := by
  unfold b_216_20 at hb
  refine rn_aload_n (i := 0) rfl rfl ?_
  refine rn_gQ (c := 11) (k := 14) rfl (by decide) hb (fun x1 hb => ?_)
  refine rn_sipush (x := (nI 210)) rfl (by decide) ?_
  refine rn_bipush (x := (nI 10)) rfl (by decide) ?_
  refine rn_iload_n (i := 2) rfl rfl ?_
  refine rn_imul rfl ?_
  refine rn_iadd rfl ?_
  refine rn_iload_n (i := 1) rfl rfl ?_
  refine rn_iadd rfl ?_
  refine rn_aI rfl hb (fun x2 hb => ?_)
  refine rn_istore_n (i := 3) (L1 := [some (va_rf v0), some (.int v1), some (.int v2), some (.int x2)]) rfl (Nat.le_of_ble_eq_true rfl) (Or.inr rfl) rfl ?_
  refine rn_iload_n (i := 3) rfl rfl ?_
  refine rn_if_le rfl rfl (fun hc => ?_) (fun hc => ?_)
  · exact u_216_47 d hd v0 v1 v2 x2  h _ (if_t hb hc)
  · exact u_216_40 d hd v0 v1 v2 x2  h _ (if_f hb hc)
def b_216_18   (h : Hp) : Option (Int32 × Hp) :=
  some ((-1 : Int32), h)
theorem u_216_18 (d : Nat) (hd : 1 ≤ d) (v0 : Option Nat) (v1 : Int32) (v2 : Int32)  (h : Hp) (r : Int32 × Hp) (hb : b_216_18   h = some r) : Rn d 216 18 [some (va_rf v0), some (.int v1), some (.int v2), none] [] h (some (.int r.1), r.2) := by
  unfold b_216_18 at hb
  refine rn_iconst (x := (-1 : Int32)) rfl (by decide) ?_
  obtain rfl := Option.some.inj hb
  exact rn_iret rfl rfl
def b_216_0 (v0 : Option Nat) (v1 : Int32) (v2 : Int32)  (h : Hp) : Option (Int32 × Hp) :=
  (pI 11 0 v0 (nI 0) h).bind fun h1 =>
  (grd (rC 11 v0 h1)).bind fun _ =>
  (f_202 v0 h1).bind fun p2 =>
  (grd (rC 11 v0 p2)).bind fun _ =>
  (f_206 v0 v1 v2 p2).bind fun p3 =>
  if ¬ p3.1 = 0 then b_216_20 v0 v1 v2  p3.2 else b_216_18   p3.2
theorem u_216_0 (d : Nat) (hd : 1 ≤ d) (v0 : Option Nat) (v1 : Int32) (v2 : Int32)  (h : Hp) (r : Int32 × Hp) (hb : b_216_0 v0 v1 v2  h = some r) : Rn d 216 0 [some (va_rf v0), some (.int v1), some (.int v2), none] [] h (some (.int r.1), r.2) := by
  unfold b_216_0 at hb
  obtain ⟨e, rfl⟩ : ∃ e, d = e + 1 := ⟨d - 1, by omega⟩
  refine rn_aload_n (i := 0) rfl rfl ?_
  refine rn_iconst (x := (nI 0)) rfl (by decide) ?_
  refine rn_pI (c := 11) (k := 0) rfl (by decide) hb (fun h1 hb => ?_)
  refine rn_aload_n (i := 0) rfl rfl ?_
  obtain ⟨hrc, hb⟩ := grd_spec hb
  obtain ⟨p2, hc, hb⟩ := Option.bind_eq_some_iff.mp hb
  refine Rn.call0 (d := e) (As := [va_rf v0]) (rest := []) rfl rfl rfl (by decide) rfl rfl rfl (bd_rcV hrc rfl) (by decide) (bd_lenC (n := 1) rfl (bd_slR bd_slN) rfl) (bd_locC (n := 1) rfl (bd_slR bd_slN) rfl (t_202 e (by omega) v0 h1 _ hc)) ?_
  refine rn_aload_n (i := 0) rfl rfl ?_
  refine rn_iload_n (i := 1) rfl rfl ?_
  refine rn_iload_n (i := 2) rfl rfl ?_
  obtain ⟨hrc, hb⟩ := grd_spec hb
  obtain ⟨p3, hc, hb⟩ := Option.bind_eq_some_iff.mp hb
  refine Rn.call1 (d := e) (As := [va_rf v0, .int v1, .int v2]) (rest := []) rfl rfl rfl (by decide) rfl rfl rfl (bd_rcV hrc rfl) (by decide) (bd_lenC (n := 3) rfl (bd_slR (bd_slI (bd_slI bd_slN))) rfl) (bd_locC (n := 3) rfl (bd_slR (bd_slI (bd_slI bd_slN))) rfl (t_206 e (by omega) v0 v1 v2 p2 _ hc)) ?_
  refine rn_if_ne rfl rfl (fun hc => ?_) (fun hc => ?_)
  · exact u_216_20 (e + 1) hd v0 v1 v2  p3.2 _ (if_t hb hc)
  · exact u_216_18 (e + 1) hd v0 v1 v2  p3.2 _ (if_f hb hc)
/-- BitingDoorsModel.cell(II)I -/
def f_216 (v0 : Option Nat) (v1 : Int32) (v2 : Int32) (h : Hp) : Option (Int32 × Hp) := b_216_0 v0 v1 v2 h
theorem t_216 (d : Nat) (hd : 1 ≤ d) (v0 : Option Nat) (v1 : Int32) (v2 : Int32) (h : Hp) (r : Int32 × Hp) (hb : f_216 v0 v1 v2 h = some r) : Rn d 216 0 [some (va_rf v0), some (.int v1), some (.int v2), none] [] h (some (.int r.1), r.2) := by
  unfold f_216 at hb
  exact u_216_0 d hd v0 v1 v2 h r hb
def b_217_22 (v0 : Option Nat)  (h : Hp) : Option (Int32 × Hp) :=
  (grd (rC 11 v0 h)).bind fun _ =>
  (f_177 v0 h).bind fun p1 =>
  some (p1.1, p1.2)
theorem u_217_22 (d : Nat) (hd : 2 ≤ d) (v0 : Option Nat) (v1 : Int32) (v2 : Int32)  (h : Hp) (r : Int32 × Hp) (hb : b_217_22 v0  h = some r) : Rn d 217 22 [some (va_rf v0), some (.int v1), some (.int v2)] [] h (some (.int r.1), r.2) := by
  unfold b_217_22 at hb
  obtain ⟨e, rfl⟩ : ∃ e, d = e + 1 := ⟨d - 1, by omega⟩
  refine rn_aload_n (i := 0) rfl rfl ?_
  obtain ⟨hrc, hb⟩ := grd_spec hb
  obtain ⟨p1, hc, hb⟩ := Option.bind_eq_some_iff.mp hb
  refine Rn.call1 (d := e) (As := [va_rf v0]) (rest := []) rfl rfl rfl (by decide) rfl rfl rfl (bd_rcV hrc rfl) (by decide) (bd_lenC (n := 1) rfl (bd_slR bd_slN) rfl) (bd_locC (n := 1) rfl (bd_slR bd_slN) rfl (t_177 e (by omega) v0 h _ hc)) ?_
  obtain rfl := Option.some.inj hb
  exact rn_iret rfl rfl
def b_217_72  (s0 : Int32) (h : Hp) : Option (Int32 × Hp) :=
  some (s0, h)
theorem u_217_72 (d : Nat) (hd : 2 ≤ d) (v0 : Option Nat) (v1 : Int32) (v2 : Int32) (s0 : Int32) (h : Hp) (r : Int32 × Hp) (hb : b_217_72  s0 h = some r) : Rn d 217 72 [some (va_rf v0), some (.int v1), some (.int v2)] [.int s0] h (some (.int r.1), r.2) := by
  unfold b_217_72 at hb
  obtain rfl := Option.some.inj hb
  exact rn_iret rfl rfl
def b_217_64 (v0 : Option Nat) (v1 : Int32) (v2 : Int32)  (h : Hp) : Option (Int32 × Hp) :=
  (grd (rC 11 v0 h)).bind fun _ =>
  (f_205 v0 v1 (v2 - (nI 1)) h).bind fun p1 =>
  b_217_72  p1.1 p1.2
theorem u_217_64 (d : Nat) (hd : 2 ≤ d) (v0 : Option Nat) (v1 : Int32) (v2 : Int32)  (h : Hp) (r : Int32 × Hp) (hb : b_217_64 v0 v1 v2  h = some r) : Rn d 217 64 [some (va_rf v0), some (.int v1), some (.int v2)] [] h (some (.int r.1), r.2) := by
  unfold b_217_64 at hb
  obtain ⟨e, rfl⟩ : ∃ e, d = e + 1 := ⟨d - 1, by omega⟩
  refine rn_aload_n (i := 0) rfl rfl ?_
  refine rn_iload_n (i := 1) rfl rfl ?_
  refine rn_iload_n (i := 2) rfl rfl ?_
  refine rn_iconst (x := (nI 1)) rfl (by decide) ?_
  refine rn_isub rfl ?_
  obtain ⟨hrc, hb⟩ := grd_spec hb
  obtain ⟨p1, hc, hb⟩ := Option.bind_eq_some_iff.mp hb
  refine Rn.call1 (d := e) (As := [va_rf v0, .int v1, .int (v2 - (nI 1))]) (rest := []) rfl rfl rfl (by decide) rfl rfl rfl (bd_rcV hrc rfl) (by decide) (bd_lenC (n := 3) rfl (bd_slR (bd_slI (bd_slI bd_slN))) rfl) (bd_locC (n := 3) rfl (bd_slR (bd_slI (bd_slI bd_slN))) rfl (t_205 e (by omega) v0 v1 (v2 - (nI 1)) h _ hc)) ?_
  exact u_217_72 (e + 1) hd v0 v1 v2 p1.1 p1.2 _ hb
def b_217_51 (v0 : Option Nat) (v1 : Int32)  (h : Hp) : Option (Int32 × Hp) :=
  (gQ 11 14 v0 h).bind fun x1 =>
  (aI 12 x1 ((nI 330) + v1) h).bind fun x2 =>
  b_217_72  x2 h
theorem u_217_51 (d : Nat) (hd : 2 ≤ d) (v0 : Option Nat) (v1 : Int32) (v2 : Int32)  (h : Hp) (r : Int32 × Hp) (hb : b_217_51 v0 v1  h = some r) : Rn d 217 51 [some (va_rf v0), some (.int v1), some (.int v2)] [] h (some (.int r.1), r.2) := by
  unfold b_217_51 at hb
  refine rn_aload_n (i := 0) rfl rfl ?_
  refine rn_gQ (c := 11) (k := 14) rfl (by decide) hb (fun x1 hb => ?_)
  refine rn_sipush (x := (nI 330)) rfl (by decide) ?_
  refine rn_iload_n (i := 1) rfl rfl ?_
  refine rn_iadd rfl ?_
  refine rn_aI rfl hb (fun x2 hb => ?_)
  refine rn_goto rfl rfl ?_
  exact u_217_72 d hd v0 v1 v2 x2 h _ hb
def b_217_46 (v0 : Option Nat) (v1 : Int32) (v2 : Int32)  (h : Hp) : Option (Int32 × Hp) :=
  if ¬ v2 = (nI 5) then b_217_64 v0 v1 v2  h else b_217_51 v0 v1  h
theorem u_217_46 (d : Nat) (hd : 2 ≤ d) (v0 : Option Nat) (v1 : Int32) (v2 : Int32)  (h : Hp) (r : Int32 × Hp) (hb : b_217_46 v0 v1 v2  h = some r) : Rn d 217 46 [some (va_rf v0), some (.int v1), some (.int v2)] [] h (some (.int r.1), r.2) := by
  unfold b_217_46 at hb
  refine rn_iload_n (i := 2) rfl rfl ?_
  refine rn_iconst (x := (nI 5)) rfl (by decide) ?_
  refine rn_icmp_ne rfl rfl (fun hc => ?_) (fun hc => ?_)
  · exact u_217_64 d hd v0 v1 v2  h _ (if_t hb hc)
  · exact u_217_51 d hd v0 v1 v2  h _ (if_f hb hc)
def b_217_37 (v0 : Option Nat) (v1 : Int32) (v2 : Int32)  (h : Hp) : Option (Int32 × Hp) :=
  (grd (rC 11 v0 h)).bind fun _ =>
  (f_205 v0 v1 v2 h).bind fun p1 =>
  b_217_72  p1.1 p1.2
theorem u_217_37 (d : Nat) (hd : 2 ≤ d) (v0 : Option Nat) (v1 : Int32) (v2 : Int32)  (h : Hp) (r : Int32 × Hp) (hb : b_217_37 v0 v1 v2  h = some r) : Rn d 217 37 [some (va_rf v0), some (.int v1), some (.int v2)] [] h (some (.int r.1), r.2) := by
  unfold b_217_37 at hb
  obtain ⟨e, rfl⟩ : ∃ e, d = e + 1 := ⟨d - 1, by omega⟩
  refine rn_aload_n (i := 0) rfl rfl ?_
  refine rn_iload_n (i := 1) rfl rfl ?_
  refine rn_iload_n (i := 2) rfl rfl ?_
  obtain ⟨hrc, hb⟩ := grd_spec hb
  obtain ⟨p1, hc, hb⟩ := Option.bind_eq_some_iff.mp hb
  refine Rn.call1 (d := e) (As := [va_rf v0, .int v1, .int v2]) (rest := []) rfl rfl rfl (by decide) rfl rfl rfl (bd_rcV hrc rfl) (by decide) (bd_lenC (n := 3) rfl (bd_slR (bd_slI (bd_slI bd_slN))) rfl) (bd_locC (n := 3) rfl (bd_slR (bd_slI (bd_slI bd_slN))) rfl (t_205 e (by omega) v0 v1 v2 h _ hc)) ?_
  refine rn_goto rfl rfl ?_
  exact u_217_72 (e + 1) hd v0 v1 v2 p1.1 p1.2 _ hb
def b_217_27 (v0 : Option Nat) (v1 : Int32) (v2 : Int32)  (h : Hp) : Option (Int32 × Hp) :=
  (pI 11 0 v0 (nI 0) h).bind fun h1 =>
  if (nI 5) ≤ v2 then b_217_46 v0 v1 v2  h1 else b_217_37 v0 v1 v2  h1
theorem u_217_27 (d : Nat) (hd : 2 ≤ d) (v0 : Option Nat) (v1 : Int32) (v2 : Int32)  (h : Hp) (r : Int32 × Hp) (hb : b_217_27 v0 v1 v2  h = some r) : Rn d 217 27 [some (va_rf v0), some (.int v1), some (.int v2)] [] h (some (.int r.1), r.2) := by
  unfold b_217_27 at hb
  refine rn_aload_n (i := 0) rfl rfl ?_
  refine rn_iconst (x := (nI 0)) rfl (by decide) ?_
  refine rn_pI (c := 11) (k := 0) rfl (by decide) hb (fun h1 hb => ?_)
  refine rn_iload_n (i := 2) rfl rfl ?_
  refine rn_iconst (x := (nI 5)) rfl (by decide) ?_
  refine rn_icmp_ge rfl rfl (fun hc => ?_) (fun hc => ?_)
  · exact u_217_46 d hd v0 v1 v2  h1 _ (if_t hb hc)
  · exact u_217_37 d hd v0 v1 v2  h1 _ (if_f hb hc)
def b_217_12 (v0 : Option Nat) (v1 : Int32) (v2 : Int32)  (h : Hp) : Option (Int32 × Hp) :=
  (f_182 v2 (nI 0) (nI 8) h).bind fun p1 =>
  if ¬ p1.1 = 0 then b_217_27 v0 v1 v2  p1.2 else b_217_22 v0  p1.2
theorem u_217_12 (d : Nat) (hd : 2 ≤ d) (v0 : Option Nat) (v1 : Int32) (v2 : Int32)  (h : Hp) (r : Int32 × Hp) (hb : b_217_12 v0 v1 v2  h = some r) : Rn d 217 12 [some (va_rf v0), some (.int v1), some (.int v2)] [] h (some (.int r.1), r.2) := by
  unfold b_217_12 at hb
  obtain ⟨e, rfl⟩ : ∃ e, d = e + 1 := ⟨d - 1, by omega⟩
  refine rn_iload_n (i := 2) rfl rfl ?_
  refine rn_iconst (x := (nI 0)) rfl (by decide) ?_
  refine rn_bipush (x := (nI 8)) rfl (by decide) ?_
  obtain ⟨p1, hc, hb⟩ := Option.bind_eq_some_iff.mp hb
  refine Rn.call1 (d := e) (As := [.int v2, .int (nI 0), .int (nI 8)]) (rest := []) rfl rfl rfl (by decide) rfl rfl rfl rfl (by decide) (bd_lenC (n := 3) rfl (bd_slI (bd_slI (bd_slI bd_slN))) rfl) (bd_locC (n := 3) rfl (bd_slI (bd_slI (bd_slI bd_slN))) rfl (t_182 e (by omega) v2 (nI 0) (nI 8) h _ hc)) ?_
  refine rn_if_ne rfl rfl (fun hc => ?_) (fun hc => ?_)
  · exact u_217_27 (e + 1) hd v0 v1 v2  p1.2 _ (if_t hb hc)
  · exact u_217_22 (e + 1) hd v0 v1 v2  p1.2 _ (if_f hb hc)
def b_217_0 (v0 : Option Nat) (v1 : Int32) (v2 : Int32)  (h : Hp) : Option (Int32 × Hp) :=
  (grd (rC 11 v0 h)).bind fun _ =>
  (f_202 v0 h).bind fun p1 =>
  (grd (rC 11 v0 p1)).bind fun _ =>
  (f_204 v0 v1 p1).bind fun p2 =>
  if p2.1 = 0 then b_217_22 v0  p2.2 else b_217_12 v0 v1 v2  p2.2
theorem u_217_0 (d : Nat) (hd : 2 ≤ d) (v0 : Option Nat) (v1 : Int32) (v2 : Int32)  (h : Hp) (r : Int32 × Hp) (hb : b_217_0 v0 v1 v2  h = some r) : Rn d 217 0 [some (va_rf v0), some (.int v1), some (.int v2)] [] h (some (.int r.1), r.2) := by
  unfold b_217_0 at hb
  obtain ⟨e, rfl⟩ : ∃ e, d = e + 1 := ⟨d - 1, by omega⟩
  refine rn_aload_n (i := 0) rfl rfl ?_
  obtain ⟨hrc, hb⟩ := grd_spec hb
  obtain ⟨p1, hc, hb⟩ := Option.bind_eq_some_iff.mp hb
  refine Rn.call0 (d := e) (As := [va_rf v0]) (rest := []) rfl rfl rfl (by decide) rfl rfl rfl (bd_rcV hrc rfl) (by decide) (bd_lenC (n := 1) rfl (bd_slR bd_slN) rfl) (bd_locC (n := 1) rfl (bd_slR bd_slN) rfl (t_202 e (by omega) v0 h _ hc)) ?_
  refine rn_aload_n (i := 0) rfl rfl ?_
  refine rn_iload_n (i := 1) rfl rfl ?_
  obtain ⟨hrc, hb⟩ := grd_spec hb
  obtain ⟨p2, hc, hb⟩ := Option.bind_eq_some_iff.mp hb
  refine Rn.call1 (d := e) (As := [va_rf v0, .int v1]) (rest := []) rfl rfl rfl (by decide) rfl rfl rfl (bd_rcV hrc rfl) (by decide) (bd_lenC (n := 2) rfl (bd_slR (bd_slI bd_slN)) rfl) (bd_locC (n := 2) rfl (bd_slR (bd_slI bd_slN)) rfl (t_204 e (by omega) v0 v1 p1 _ hc)) ?_
  refine rn_if_eq rfl rfl (fun hc => ?_) (fun hc => ?_)
  · exact u_217_22 (e + 1) hd v0 v1 v2  p2.2 _ (if_t hb hc)
  · exact u_217_12 (e + 1) hd v0 v1 v2  p2.2 _ (if_f hb hc)
/-- BitingDoorsModel.door(II)I -/
def f_217 (v0 : Option Nat) (v1 : Int32) (v2 : Int32) (h : Hp) : Option (Int32 × Hp) := b_217_0 v0 v1 v2 h
theorem t_217 (d : Nat) (hd : 2 ≤ d) (v0 : Option Nat) (v1 : Int32) (v2 : Int32) (h : Hp) (r : Int32 × Hp) (hb : f_217 v0 v1 v2 h = some r) : Rn d 217 0 [some (va_rf v0), some (.int v1), some (.int v2)] [] h (some (.int r.1), r.2) := by
  unfold f_217 at hb
  exact u_217_0 d hd v0 v1 v2 h r hb
def b_218_0 (v0 : Option Nat) (v1 : Int32) (v2 : Int32)  (h : Hp) : Option (Hp) :=
  (gQ 11 24 v0 h).bind fun x1 =>
  (gI 11 26 v0 h).bind fun x2 =>
  (wI x1 x2 v1 h).bind fun h3 =>
  (gQ 11 25 v0 h3).bind fun x4 =>
  (gI 11 26 v0 h3).bind fun x5 =>
  (wI x4 x5 v2 h3).bind fun h6 =>
  (gI 11 26 v0 h6).bind fun x7 =>
  (pI 11 26 v0 (x7 + (nI 1)) h6).bind fun h8 =>
  some h8
theorem u_218_0 (d : Nat) (hd : 0 ≤ d) (v0 : Option Nat) (v1 : Int32) (v2 : Int32)  (h : Hp) (r : Hp) (hb : b_218_0 v0 v1 v2  h = some r) : Rn d 218 0 [some (va_rf v0), some (.int v1), some (.int v2)] [] h (none, r) := by
  unfold b_218_0 at hb
  refine rn_aload_n (i := 0) rfl rfl ?_
  refine rn_gQ (c := 11) (k := 24) rfl (by decide) hb (fun x1 hb => ?_)
  refine rn_aload_n (i := 0) rfl rfl ?_
  refine rn_gI (c := 11) (k := 26) rfl (by decide) hb (fun x2 hb => ?_)
  refine rn_iload_n (i := 1) rfl rfl ?_
  refine rn_wI rfl hb (fun h3 hb => ?_)
  refine rn_aload_n (i := 0) rfl rfl ?_
  refine rn_gQ (c := 11) (k := 25) rfl (by decide) hb (fun x4 hb => ?_)
  refine rn_aload_n (i := 0) rfl rfl ?_
  refine rn_gI (c := 11) (k := 26) rfl (by decide) hb (fun x5 hb => ?_)
  refine rn_iload_n (i := 2) rfl rfl ?_
  refine rn_wI rfl hb (fun h6 hb => ?_)
  refine rn_aload_n (i := 0) rfl rfl ?_
  refine rn_dup rfl (bd_cat_rf _) ?_
  refine rn_gI (c := 11) (k := 26) rfl (by decide) hb (fun x7 hb => ?_)
  refine rn_iconst (x := (nI 1)) rfl (by decide) ?_
  refine rn_iadd rfl ?_
  refine rn_pI (c := 11) (k := 26) rfl (by decide) hb (fun h8 hb => ?_)
  obtain rfl := Option.some.inj hb
  exact rn_vret rfl rfl
/-- BitingDoorsModel.put(II)V -/
def f_218 (v0 : Option Nat) (v1 : Int32) (v2 : Int32) (h : Hp) : Option (Hp) := b_218_0 v0 v1 v2 h
theorem t_218 (d : Nat) (hd : 0 ≤ d) (v0 : Option Nat) (v1 : Int32) (v2 : Int32) (h : Hp) (r : Hp) (hb : f_218 v0 v1 v2 h = some r) : Rn d 218 0 [some (va_rf v0), some (.int v1), some (.int v2)] [] h (none, r) := by
  unfold f_218 at hb
  exact u_218_0 d hd v0 v1 v2 h r hb
def b_219_318   (h : Hp) : Option (Hp) :=
  some h
theorem u_219_318 (d : Nat) (hd : 1 ≤ d) (v0 : Option Nat) (v1 : Int32) (v2 : Int32) (v3 : Int32) (v4 : Int32) (v5 : Int32) (v6 : Int32) (v7 : Int32) (v8 : Int32) (v9 : Int32) (v10 : Int32) (v11 : Int32) (v12 : Option (Int32)) (v13 : Option (Int32))  (h : Hp) (r : Hp) (hb : b_219_318   h = some r) : Rn d 219 318 [some (va_rf v0), some (.int v1), some (.int v2), some (.int v3), some (.int v4), some (.int v5), some (.int v6), some (.int v7), some (.int v8), some (.int v9), some (.int v10), some (.int v11), v12.map Value.int, v13.map Value.int] [] h (none, r) := by
  unfold b_219_318 at hb
  obtain rfl := Option.some.inj hb
  exact rn_vret rfl rfl
def b_219_308 (k222 : Option Nat → Int32 → Int32 → Int32 → Int32 → Int32 → Int32 → Int32 → Int32 → Hp → Option (Hp)) (v0 : Option Nat) (v3 : Int32) (v4 : Int32) (v5 : Int32) (v6 : Int32) (v7 : Int32) (v9 : Int32) (v10 : Int32) (v11 : Int32) (s0 : Option Nat) (s1 : Int32) (s2 : Int32) (s3 : Int32) (h : Hp) : Option (Hp) :=
  (grd (rC 11 s0 h)).bind fun _ =>
  (f_218 s0 s1 (s2 + s3) h).bind fun p1 =>
  bnd (v11 + (nI 1)) fun x2 =>
  k222 v0 v3 v4 v5 v6 v7 v9 v10 x2 p1
theorem u_219_308 (d : Nat) (hd : 1 ≤ d) (k222 : Option Nat → Int32 → Int32 → Int32 → Int32 → Int32 → Int32 → Int32 → Int32 → Hp → Option (Hp)) (K222 : ∀ (v0 : Option Nat) (v1 : Int32) (v2 : Int32) (v3 : Int32) (v4 : Int32) (v5 : Int32) (v6 : Int32) (v7 : Int32) (v8 : Int32) (v9 : Int32) (v10 : Int32) (v11 : Int32) (v12 : Option (Int32)) (v13 : Option (Int32)) (h : Hp) (r : Hp), k222 v0 v3 v4 v5 v6 v7 v9 v10 v11 h = some r → Rn d 219 222 [some (va_rf v0), some (.int v1), some (.int v2), some (.int v3), some (.int v4), some (.int v5), some (.int v6), some (.int v7), some (.int v8), some (.int v9), some (.int v10), some (.int v11), v12.map Value.int, v13.map Value.int] [] h (none, r)) (v0 : Option Nat) (v1 : Int32) (v2 : Int32) (v3 : Int32) (v4 : Int32) (v5 : Int32) (v6 : Int32) (v7 : Int32) (v8 : Int32) (v9 : Int32) (v10 : Int32) (v11 : Int32) (v12 : Int32) (v13 : Int32) (s0 : Option Nat) (s1 : Int32) (s2 : Int32) (s3 : Int32) (h : Hp) (r : Hp) (hb : b_219_308 k222 v0 v3 v4 v5 v6 v7 v9 v10 v11 s0 s1 s2 s3 h = some r) : Rn d 219 308 [some (va_rf v0), some (.int v1), some (.int v2), some (.int v3), some (.int v4), some (.int v5), some (.int v6), some (.int v7), some (.int v8), some (.int v9), some (.int v10), some (.int v11), some (.int v12), some (.int v13)] [.int s3, .int s2, .int s1, va_rf s0] h (none, r) := by
  unfold b_219_308 at hb
  obtain ⟨e, rfl⟩ : ∃ e, d = e + 1 := ⟨d - 1, by omega⟩
  refine rn_iadd rfl ?_
  obtain ⟨hrc, hb⟩ := grd_spec hb
  obtain ⟨p1, hc, hb⟩ := Option.bind_eq_some_iff.mp hb
  refine Rn.call0 (d := e) (As := [va_rf s0, .int s1, .int (s2 + s3)]) (rest := []) rfl rfl rfl (by decide) rfl rfl rfl (bd_rcV hrc rfl) (by decide) (bd_lenC (n := 3) rfl (bd_slR (bd_slI (bd_slI bd_slN))) rfl) (bd_locC (n := 3) rfl (bd_slR (bd_slI (bd_slI bd_slN))) rfl (t_218 e (by omega) s0 s1 (s2 + s3) h _ hc)) ?_
  obtain ⟨x2, ex2, hb⟩ := bnd_spec hb
  refine rn_iinc (i := 11) (y := x2) (L1 := [some (va_rf v0), some (.int v1), some (.int v2), some (.int v3), some (.int v4), some (.int v5), some (.int v6), some (.int v7), some (.int v8), some (.int v9), some (.int v10), some (.int x2), some (.int v12), some (.int v13)]) rfl rfl (Nat.le_of_ble_eq_true rfl) (Or.inr rfl) (by rw [ex2]; rfl) rfl ?_
  refine rn_goto rfl rfl ?_
  exact K222 v0 v1 v2 v3 v4 v5 v6 v7 v8 v9 v10 x2 (some v12) (some v13) p1 _ hb
def b_219_306 (k222 : Option Nat → Int32 → Int32 → Int32 → Int32 → Int32 → Int32 → Int32 → Int32 → Hp → Option (Hp)) (v0 : Option Nat) (v3 : Int32) (v4 : Int32) (v5 : Int32) (v6 : Int32) (v7 : Int32) (v9 : Int32) (v10 : Int32) (v11 : Int32) (v12 : Int32) (s0 : Option Nat) (s1 : Int32) (s2 : Int32) (h : Hp) : Option (Hp) :=
  b_219_308 k222 v0 v3 v4 v5 v6 v7 v9 v10 v11 s0 s1 s2 v12 h
theorem u_219_306 (d : Nat) (hd : 1 ≤ d) (k222 : Option Nat → Int32 → Int32 → Int32 → Int32 → Int32 → Int32 → Int32 → Int32 → Hp → Option (Hp)) (K222 : ∀ (v0 : Option Nat) (v1 : Int32) (v2 : Int32) (v3 : Int32) (v4 : Int32) (v5 : Int32) (v6 : Int32) (v7 : Int32) (v8 : Int32) (v9 : Int32) (v10 : Int32) (v11 : Int32) (v12 : Option (Int32)) (v13 : Option (Int32)) (h : Hp) (r : Hp), k222 v0 v3 v4 v5 v6 v7 v9 v10 v11 h = some r → Rn d 219 222 [some (va_rf v0), some (.int v1), some (.int v2), some (.int v3), some (.int v4), some (.int v5), some (.int v6), some (.int v7), some (.int v8), some (.int v9), some (.int v10), some (.int v11), v12.map Value.int, v13.map Value.int] [] h (none, r)) (v0 : Option Nat) (v1 : Int32) (v2 : Int32) (v3 : Int32) (v4 : Int32) (v5 : Int32) (v6 : Int32) (v7 : Int32) (v8 : Int32) (v9 : Int32) (v10 : Int32) (v11 : Int32) (v12 : Int32) (v13 : Int32) (s0 : Option Nat) (s1 : Int32) (s2 : Int32) (h : Hp) (r : Hp) (hb : b_219_306 k222 v0 v3 v4 v5 v6 v7 v9 v10 v11 v12 s0 s1 s2 h = some r) : Rn d 219 306 [some (va_rf v0), some (.int v1), some (.int v2), some (.int v3), some (.int v4), some (.int v5), some (.int v6), some (.int v7), some (.int v8), some (.int v9), some (.int v10), some (.int v11), some (.int v12), some (.int v13)] [.int s2, .int s1, va_rf s0] h (none, r) := by
  unfold b_219_306 at hb
  refine rn_iload (i := 12) rfl rfl ?_
  exact u_219_308 d hd k222 K222 v0 v1 v2 v3 v4 v5 v6 v7 v8 v9 v10 v11 v12 v13 s0 s1 s2 v12 h _ hb
def b_219_302 (k222 : Option Nat → Int32 → Int32 → Int32 → Int32 → Int32 → Int32 → Int32 → Int32 → Hp → Option (Hp)) (v0 : Option Nat) (v3 : Int32) (v4 : Int32) (v5 : Int32) (v6 : Int32) (v7 : Int32) (v9 : Int32) (v10 : Int32) (v11 : Int32) (s0 : Option Nat) (s1 : Int32) (s2 : Int32) (h : Hp) : Option (Hp) :=
  b_219_308 k222 v0 v3 v4 v5 v6 v7 v9 v10 v11 s0 s1 s2 (nI 0) h
theorem u_219_302 (d : Nat) (hd : 1 ≤ d) (k222 : Option Nat → Int32 → Int32 → Int32 → Int32 → Int32 → Int32 → Int32 → Int32 → Hp → Option (Hp)) (K222 : ∀ (v0 : Option Nat) (v1 : Int32) (v2 : Int32) (v3 : Int32) (v4 : Int32) (v5 : Int32) (v6 : Int32) (v7 : Int32) (v8 : Int32) (v9 : Int32) (v10 : Int32) (v11 : Int32) (v12 : Option (Int32)) (v13 : Option (Int32)) (h : Hp) (r : Hp), k222 v0 v3 v4 v5 v6 v7 v9 v10 v11 h = some r → Rn d 219 222 [some (va_rf v0), some (.int v1), some (.int v2), some (.int v3), some (.int v4), some (.int v5), some (.int v6), some (.int v7), some (.int v8), some (.int v9), some (.int v10), some (.int v11), v12.map Value.int, v13.map Value.int] [] h (none, r)) (v0 : Option Nat) (v1 : Int32) (v2 : Int32) (v3 : Int32) (v4 : Int32) (v5 : Int32) (v6 : Int32) (v7 : Int32) (v8 : Int32) (v9 : Int32) (v10 : Int32) (v11 : Int32) (v12 : Int32) (v13 : Int32) (s0 : Option Nat) (s1 : Int32) (s2 : Int32) (h : Hp) (r : Hp) (hb : b_219_302 k222 v0 v3 v4 v5 v6 v7 v9 v10 v11 s0 s1 s2 h = some r) : Rn d 219 302 [some (va_rf v0), some (.int v1), some (.int v2), some (.int v3), some (.int v4), some (.int v5), some (.int v6), some (.int v7), some (.int v8), some (.int v9), some (.int v10), some (.int v11), some (.int v12), some (.int v13)] [.int s2, .int s1, va_rf s0] h (none, r) := by
  unfold b_219_302 at hb
  refine rn_iconst (x := (nI 0)) rfl (by decide) ?_
  refine rn_goto rfl rfl ?_
  exact u_219_308 d hd k222 K222 v0 v1 v2 v3 v4 v5 v6 v7 v8 v9 v10 v11 v12 v13 s0 s1 s2 (nI 0) h _ hb
def b_219_294 (k222 : Option Nat → Int32 → Int32 → Int32 → Int32 → Int32 → Int32 → Int32 → Int32 → Hp → Option (Hp)) (v0 : Option Nat) (v3 : Int32) (v4 : Int32) (v5 : Int32) (v6 : Int32) (v7 : Int32) (v9 : Int32) (v10 : Int32) (v11 : Int32) (v12 : Int32) (v13 : Int32) (s0 : Option Nat) (s1 : Int32) (s2 : Int32) (h : Hp) : Option (Hp) :=
  if v13 = 0 then b_219_306 k222 v0 v3 v4 v5 v6 v7 v9 v10 v11 v12 s0 (s1 + s2) v10 h else b_219_302 k222 v0 v3 v4 v5 v6 v7 v9 v10 v11 s0 (s1 + s2) v10 h
theorem u_219_294 (d : Nat) (hd : 1 ≤ d) (k222 : Option Nat → Int32 → Int32 → Int32 → Int32 → Int32 → Int32 → Int32 → Int32 → Hp → Option (Hp)) (K222 : ∀ (v0 : Option Nat) (v1 : Int32) (v2 : Int32) (v3 : Int32) (v4 : Int32) (v5 : Int32) (v6 : Int32) (v7 : Int32) (v8 : Int32) (v9 : Int32) (v10 : Int32) (v11 : Int32) (v12 : Option (Int32)) (v13 : Option (Int32)) (h : Hp) (r : Hp), k222 v0 v3 v4 v5 v6 v7 v9 v10 v11 h = some r → Rn d 219 222 [some (va_rf v0), some (.int v1), some (.int v2), some (.int v3), some (.int v4), some (.int v5), some (.int v6), some (.int v7), some (.int v8), some (.int v9), some (.int v10), some (.int v11), v12.map Value.int, v13.map Value.int] [] h (none, r)) (v0 : Option Nat) (v1 : Int32) (v2 : Int32) (v3 : Int32) (v4 : Int32) (v5 : Int32) (v6 : Int32) (v7 : Int32) (v8 : Int32) (v9 : Int32) (v10 : Int32) (v11 : Int32) (v12 : Int32) (v13 : Int32) (s0 : Option Nat) (s1 : Int32) (s2 : Int32) (h : Hp) (r : Hp) (hb : b_219_294 k222 v0 v3 v4 v5 v6 v7 v9 v10 v11 v12 v13 s0 s1 s2 h = some r) : Rn d 219 294 [some (va_rf v0), some (.int v1), some (.int v2), some (.int v3), some (.int v4), some (.int v5), some (.int v6), some (.int v7), some (.int v8), some (.int v9), some (.int v10), some (.int v11), some (.int v12), some (.int v13)] [.int s2, .int s1, va_rf s0] h (none, r) := by
  unfold b_219_294 at hb
  refine rn_iadd rfl ?_
  refine rn_iload (i := 10) rfl rfl ?_
  refine rn_iload (i := 13) rfl rfl ?_
  refine rn_if_eq rfl rfl (fun hc => ?_) (fun hc => ?_)
  · exact u_219_306 d hd k222 K222 v0 v1 v2 v3 v4 v5 v6 v7 v8 v9 v10 v11 v12 v13 s0 (s1 + s2) v10 h _ (if_t hb hc)
  · exact u_219_302 d hd k222 K222 v0 v1 v2 v3 v4 v5 v6 v7 v8 v9 v10 v11 v12 v13 s0 (s1 + s2) v10 h _ (if_f hb hc)
def b_219_293 (k222 : Option Nat → Int32 → Int32 → Int32 → Int32 → Int32 → Int32 → Int32 → Int32 → Hp → Option (Hp)) (v0 : Option Nat) (v3 : Int32) (v4 : Int32) (v5 : Int32) (v6 : Int32) (v7 : Int32) (v9 : Int32) (v10 : Int32) (v11 : Int32) (v12 : Int32) (v13 : Int32) (s0 : Option Nat) (s1 : Int32) (h : Hp) : Option (Hp) :=
  b_219_294 k222 v0 v3 v4 v5 v6 v7 v9 v10 v11 v12 v13 s0 s1 (nI 0) h
theorem u_219_293 (d : Nat) (hd : 1 ≤ d) (k222 : Option Nat → Int32 → Int32 → Int32 → Int32 → Int32 → Int32 → Int32 → Int32 → Hp → Option (Hp)) (K222 : ∀ (v0 : Option Nat) (v1 : Int32) (v2 : Int32) (v3 : Int32) (v4 : Int32) (v5 : Int32) (v6 : Int32) (v7 : Int32) (v8 : Int32) (v9 : Int32) (v10 : Int32) (v11 : Int32) (v12 : Option (Int32)) (v13 : Option (Int32)) (h : Hp) (r : Hp), k222 v0 v3 v4 v5 v6 v7 v9 v10 v11 h = some r → Rn d 219 222 [some (va_rf v0), some (.int v1), some (.int v2), some (.int v3), some (.int v4), some (.int v5), some (.int v6), some (.int v7), some (.int v8), some (.int v9), some (.int v10), some (.int v11), v12.map Value.int, v13.map Value.int] [] h (none, r)) (v0 : Option Nat) (v1 : Int32) (v2 : Int32) (v3 : Int32) (v4 : Int32) (v5 : Int32) (v6 : Int32) (v7 : Int32) (v8 : Int32) (v9 : Int32) (v10 : Int32) (v11 : Int32) (v12 : Int32) (v13 : Int32) (s0 : Option Nat) (s1 : Int32) (h : Hp) (r : Hp) (hb : b_219_293 k222 v0 v3 v4 v5 v6 v7 v9 v10 v11 v12 v13 s0 s1 h = some r) : Rn d 219 293 [some (va_rf v0), some (.int v1), some (.int v2), some (.int v3), some (.int v4), some (.int v5), some (.int v6), some (.int v7), some (.int v8), some (.int v9), some (.int v10), some (.int v11), some (.int v12), some (.int v13)] [.int s1, va_rf s0] h (none, r) := by
  unfold b_219_293 at hb
  refine rn_iconst (x := (nI 0)) rfl (by decide) ?_
  exact u_219_294 d hd k222 K222 v0 v1 v2 v3 v4 v5 v6 v7 v8 v9 v10 v11 v12 v13 s0 s1 (nI 0) h _ hb
def b_219_288 (k222 : Option Nat → Int32 → Int32 → Int32 → Int32 → Int32 → Int32 → Int32 → Int32 → Hp → Option (Hp)) (v0 : Option Nat) (v3 : Int32) (v4 : Int32) (v5 : Int32) (v6 : Int32) (v7 : Int32) (v9 : Int32) (v10 : Int32) (v11 : Int32) (v12 : Int32) (v13 : Int32) (s0 : Option Nat) (s1 : Int32) (h : Hp) : Option (Hp) :=
  b_219_294 k222 v0 v3 v4 v5 v6 v7 v9 v10 v11 v12 v13 s0 s1 v12 h
theorem u_219_288 (d : Nat) (hd : 1 ≤ d) (k222 : Option Nat → Int32 → Int32 → Int32 → Int32 → Int32 → Int32 → Int32 → Int32 → Hp → Option (Hp)) (K222 : ∀ (v0 : Option Nat) (v1 : Int32) (v2 : Int32) (v3 : Int32) (v4 : Int32) (v5 : Int32) (v6 : Int32) (v7 : Int32) (v8 : Int32) (v9 : Int32) (v10 : Int32) (v11 : Int32) (v12 : Option (Int32)) (v13 : Option (Int32)) (h : Hp) (r : Hp), k222 v0 v3 v4 v5 v6 v7 v9 v10 v11 h = some r → Rn d 219 222 [some (va_rf v0), some (.int v1), some (.int v2), some (.int v3), some (.int v4), some (.int v5), some (.int v6), some (.int v7), some (.int v8), some (.int v9), some (.int v10), some (.int v11), v12.map Value.int, v13.map Value.int] [] h (none, r)) (v0 : Option Nat) (v1 : Int32) (v2 : Int32) (v3 : Int32) (v4 : Int32) (v5 : Int32) (v6 : Int32) (v7 : Int32) (v8 : Int32) (v9 : Int32) (v10 : Int32) (v11 : Int32) (v12 : Int32) (v13 : Int32) (s0 : Option Nat) (s1 : Int32) (h : Hp) (r : Hp) (hb : b_219_288 k222 v0 v3 v4 v5 v6 v7 v9 v10 v11 v12 v13 s0 s1 h = some r) : Rn d 219 288 [some (va_rf v0), some (.int v1), some (.int v2), some (.int v3), some (.int v4), some (.int v5), some (.int v6), some (.int v7), some (.int v8), some (.int v9), some (.int v10), some (.int v11), some (.int v12), some (.int v13)] [.int s1, va_rf s0] h (none, r) := by
  unfold b_219_288 at hb
  refine rn_iload (i := 12) rfl rfl ?_
  refine rn_goto rfl rfl ?_
  exact u_219_294 d hd k222 K222 v0 v1 v2 v3 v4 v5 v6 v7 v8 v9 v10 v11 v12 v13 s0 s1 v12 h _ hb
def b_219_278 (k222 : Option Nat → Int32 → Int32 → Int32 → Int32 → Int32 → Int32 → Int32 → Int32 → Hp → Option (Hp)) (v0 : Option Nat) (v3 : Int32) (v4 : Int32) (v5 : Int32) (v6 : Int32) (v7 : Int32) (v9 : Int32) (v10 : Int32) (v11 : Int32) (v12 : Int32) (s0 : Int32) (h : Hp) : Option (Hp) :=
  if s0 = 0 then b_219_293 k222 v0 v3 v4 v5 v6 v7 v9 v10 v11 v12 s0 v0 v9 h else b_219_288 k222 v0 v3 v4 v5 v6 v7 v9 v10 v11 v12 s0 v0 v9 h
theorem u_219_278 (d : Nat) (hd : 1 ≤ d) (k222 : Option Nat → Int32 → Int32 → Int32 → Int32 → Int32 → Int32 → Int32 → Int32 → Hp → Option (Hp)) (K222 : ∀ (v0 : Option Nat) (v1 : Int32) (v2 : Int32) (v3 : Int32) (v4 : Int32) (v5 : Int32) (v6 : Int32) (v7 : Int32) (v8 : Int32) (v9 : Int32) (v10 : Int32) (v11 : Int32) (v12 : Option (Int32)) (v13 : Option (Int32)) (h : Hp) (r : Hp), k222 v0 v3 v4 v5 v6 v7 v9 v10 v11 h = some r → Rn d 219 222 [some (va_rf v0), some (.int v1), some (.int v2), some (.int v3), some (.int v4), some (.int v5), some (.int v6), some (.int v7), some (.int v8), some (.int v9), some (.int v10), some (.int v11), v12.map Value.int, v13.map Value.int] [] h (none, r)) (v0 : Option Nat) (v1 : Int32) (v2 : Int32) (v3 : Int32) (v4 : Int32) (v5 : Int32) (v6 : Int32) (v7 : Int32) (v8 : Int32) (v9 : Int32) (v10 : Int32) (v11 : Int32) (v12 : Int32) (v13 : Option (Int32)) (s0 : Int32) (h : Hp) (r : Hp) (hb : b_219_278 k222 v0 v3 v4 v5 v6 v7 v9 v10 v11 v12 s0 h = some r) : Rn d 219 278 [some (va_rf v0), some (.int v1), some (.int v2), some (.int v3), some (.int v4), some (.int v5), some (.int v6), some (.int v7), some (.int v8), some (.int v9), some (.int v10), some (.int v11), some (.int v12), v13.map Value.int] [.int s0] h (none, r) := by
  unfold b_219_278 at hb
  refine rn_istore (i := 13) (L1 := [some (va_rf v0), some (.int v1), some (.int v2), some (.int v3), some (.int v4), some (.int v5), some (.int v6), some (.int v7), some (.int v8), some (.int v9), some (.int v10), some (.int v11), some (.int v12), some (.int s0)]) rfl (Nat.le_of_ble_eq_true rfl) (Or.inr rfl) rfl ?_
  refine rn_aload_n (i := 0) rfl rfl ?_
  refine rn_iload (i := 9) rfl rfl ?_
  refine rn_iload (i := 13) rfl rfl ?_
  refine rn_if_eq rfl rfl (fun hc => ?_) (fun hc => ?_)
  · exact u_219_293 d hd k222 K222 v0 v1 v2 v3 v4 v5 v6 v7 v8 v9 v10 v11 v12 s0 v0 v9 h _ (if_t hb hc)
  · exact u_219_288 d hd k222 K222 v0 v1 v2 v3 v4 v5 v6 v7 v8 v9 v10 v11 v12 s0 v0 v9 h _ (if_f hb hc)
def b_219_277 (k222 : Option Nat → Int32 → Int32 → Int32 → Int32 → Int32 → Int32 → Int32 → Int32 → Hp → Option (Hp)) (v0 : Option Nat) (v3 : Int32) (v4 : Int32) (v5 : Int32) (v6 : Int32) (v7 : Int32) (v9 : Int32) (v10 : Int32) (v11 : Int32) (v12 : Int32)  (h : Hp) : Option (Hp) :=
  b_219_278 k222 v0 v3 v4 v5 v6 v7 v9 v10 v11 v12 (nI 0) h
theorem u_219_277 (d : Nat) (hd : 1 ≤ d) (k222 : Option Nat → Int32 → Int32 → Int32 → Int32 → Int32 → Int32 → Int32 → Int32 → Hp → Option (Hp)) (K222 : ∀ (v0 : Option Nat) (v1 : Int32) (v2 : Int32) (v3 : Int32) (v4 : Int32) (v5 : Int32) (v6 : Int32) (v7 : Int32) (v8 : Int32) (v9 : Int32) (v10 : Int32) (v11 : Int32) (v12 : Option (Int32)) (v13 : Option (Int32)) (h : Hp) (r : Hp), k222 v0 v3 v4 v5 v6 v7 v9 v10 v11 h = some r → Rn d 219 222 [some (va_rf v0), some (.int v1), some (.int v2), some (.int v3), some (.int v4), some (.int v5), some (.int v6), some (.int v7), some (.int v8), some (.int v9), some (.int v10), some (.int v11), v12.map Value.int, v13.map Value.int] [] h (none, r)) (v0 : Option Nat) (v1 : Int32) (v2 : Int32) (v3 : Int32) (v4 : Int32) (v5 : Int32) (v6 : Int32) (v7 : Int32) (v8 : Int32) (v9 : Int32) (v10 : Int32) (v11 : Int32) (v12 : Int32) (v13 : Option (Int32))  (h : Hp) (r : Hp) (hb : b_219_277 k222 v0 v3 v4 v5 v6 v7 v9 v10 v11 v12  h = some r) : Rn d 219 277 [some (va_rf v0), some (.int v1), some (.int v2), some (.int v3), some (.int v4), some (.int v5), some (.int v6), some (.int v7), some (.int v8), some (.int v9), some (.int v10), some (.int v11), some (.int v12), v13.map Value.int] [] h (none, r) := by
  unfold b_219_277 at hb
  refine rn_iconst (x := (nI 0)) rfl (by decide) ?_
  exact u_219_278 d hd k222 K222 v0 v1 v2 v3 v4 v5 v6 v7 v8 v9 v10 v11 v12 v13 (nI 0) h _ hb
def b_219_273 (k222 : Option Nat → Int32 → Int32 → Int32 → Int32 → Int32 → Int32 → Int32 → Int32 → Hp → Option (Hp)) (v0 : Option Nat) (v3 : Int32) (v4 : Int32) (v5 : Int32) (v6 : Int32) (v7 : Int32) (v9 : Int32) (v10 : Int32) (v11 : Int32) (v12 : Int32)  (h : Hp) : Option (Hp) :=
  b_219_278 k222 v0 v3 v4 v5 v6 v7 v9 v10 v11 v12 (nI 1) h
theorem u_219_273 (d : Nat) (hd : 1 ≤ d) (k222 : Option Nat → Int32 → Int32 → Int32 → Int32 → Int32 → Int32 → Int32 → Int32 → Hp → Option (Hp)) (K222 : ∀ (v0 : Option Nat) (v1 : Int32) (v2 : Int32) (v3 : Int32) (v4 : Int32) (v5 : Int32) (v6 : Int32) (v7 : Int32) (v8 : Int32) (v9 : Int32) (v10 : Int32) (v11 : Int32) (v12 : Option (Int32)) (v13 : Option (Int32)) (h : Hp) (r : Hp), k222 v0 v3 v4 v5 v6 v7 v9 v10 v11 h = some r → Rn d 219 222 [some (va_rf v0), some (.int v1), some (.int v2), some (.int v3), some (.int v4), some (.int v5), some (.int v6), some (.int v7), some (.int v8), some (.int v9), some (.int v10), some (.int v11), v12.map Value.int, v13.map Value.int] [] h (none, r)) (v0 : Option Nat) (v1 : Int32) (v2 : Int32) (v3 : Int32) (v4 : Int32) (v5 : Int32) (v6 : Int32) (v7 : Int32) (v8 : Int32) (v9 : Int32) (v10 : Int32) (v11 : Int32) (v12 : Int32) (v13 : Option (Int32))  (h : Hp) (r : Hp) (hb : b_219_273 k222 v0 v3 v4 v5 v6 v7 v9 v10 v11 v12  h = some r) : Rn d 219 273 [some (va_rf v0), some (.int v1), some (.int v2), some (.int v3), some (.int v4), some (.int v5), some (.int v6), some (.int v7), some (.int v8), some (.int v9), some (.int v10), some (.int v11), some (.int v12), v13.map Value.int] [] h (none, r) := by
  unfold b_219_273 at hb
  refine rn_iconst (x := (nI 1)) rfl (by decide) ?_
  refine rn_goto rfl rfl ?_
  exact u_219_278 d hd k222 K222 v0 v1 v2 v3 v4 v5 v6 v7 v8 v9 v10 v11 v12 v13 (nI 1) h _ hb
def b_219_267 (k222 : Option Nat → Int32 → Int32 → Int32 → Int32 → Int32 → Int32 → Int32 → Int32 → Hp → Option (Hp)) (v0 : Option Nat) (v3 : Int32) (v4 : Int32) (v5 : Int32) (v6 : Int32) (v7 : Int32) (v9 : Int32) (v10 : Int32) (v11 : Int32) (v12 : Int32)  (h : Hp) : Option (Hp) :=
  if ¬ v5 = (nI 1) then b_219_277 k222 v0 v3 v4 v5 v6 v7 v9 v10 v11 v12  h else b_219_273 k222 v0 v3 v4 v5 v6 v7 v9 v10 v11 v12  h
theorem u_219_267 (d : Nat) (hd : 1 ≤ d) (k222 : Option Nat → Int32 → Int32 → Int32 → Int32 → Int32 → Int32 → Int32 → Int32 → Hp → Option (Hp)) (K222 : ∀ (v0 : Option Nat) (v1 : Int32) (v2 : Int32) (v3 : Int32) (v4 : Int32) (v5 : Int32) (v6 : Int32) (v7 : Int32) (v8 : Int32) (v9 : Int32) (v10 : Int32) (v11 : Int32) (v12 : Option (Int32)) (v13 : Option (Int32)) (h : Hp) (r : Hp), k222 v0 v3 v4 v5 v6 v7 v9 v10 v11 h = some r → Rn d 219 222 [some (va_rf v0), some (.int v1), some (.int v2), some (.int v3), some (.int v4), some (.int v5), some (.int v6), some (.int v7), some (.int v8), some (.int v9), some (.int v10), some (.int v11), v12.map Value.int, v13.map Value.int] [] h (none, r)) (v0 : Option Nat) (v1 : Int32) (v2 : Int32) (v3 : Int32) (v4 : Int32) (v5 : Int32) (v6 : Int32) (v7 : Int32) (v8 : Int32) (v9 : Int32) (v10 : Int32) (v11 : Int32) (v12 : Int32) (v13 : Option (Int32))  (h : Hp) (r : Hp) (hb : b_219_267 k222 v0 v3 v4 v5 v6 v7 v9 v10 v11 v12  h = some r) : Rn d 219 267 [some (va_rf v0), some (.int v1), some (.int v2), some (.int v3), some (.int v4), some (.int v5), some (.int v6), some (.int v7), some (.int v8), some (.int v9), some (.int v10), some (.int v11), some (.int v12), v13.map Value.int] [] h (none, r) := by
  unfold b_219_267 at hb
  refine rn_iload (i := 5) rfl rfl ?_
  refine rn_iconst (x := (nI 1)) rfl (by decide) ?_
  refine rn_icmp_ne rfl rfl (fun hc => ?_) (fun hc => ?_)
  · exact u_219_277 d hd k222 K222 v0 v1 v2 v3 v4 v5 v6 v7 v8 v9 v10 v11 v12 v13  h _ (if_t hb hc)
  · exact u_219_273 d hd k222 K222 v0 v1 v2 v3 v4 v5 v6 v7 v8 v9 v10 v11 v12 v13  h _ (if_f hb hc)
def b_219_263 (k222 : Option Nat → Int32 → Int32 → Int32 → Int32 → Int32 → Int32 → Int32 → Int32 → Hp → Option (Hp)) (v0 : Option Nat) (v3 : Int32) (v4 : Int32) (v5 : Int32) (v6 : Int32) (v7 : Int32) (v9 : Int32) (v10 : Int32) (v11 : Int32) (v12 : Int32)  (h : Hp) : Option (Hp) :=
  b_219_278 k222 v0 v3 v4 v5 v6 v7 v9 v10 v11 v12 (nI 0) h
theorem u_219_263 (d : Nat) (hd : 1 ≤ d) (k222 : Option Nat → Int32 → Int32 → Int32 → Int32 → Int32 → Int32 → Int32 → Int32 → Hp → Option (Hp)) (K222 : ∀ (v0 : Option Nat) (v1 : Int32) (v2 : Int32) (v3 : Int32) (v4 : Int32) (v5 : Int32) (v6 : Int32) (v7 : Int32) (v8 : Int32) (v9 : Int32) (v10 : Int32) (v11 : Int32) (v12 : Option (Int32)) (v13 : Option (Int32)) (h : Hp) (r : Hp), k222 v0 v3 v4 v5 v6 v7 v9 v10 v11 h = some r → Rn d 219 222 [some (va_rf v0), some (.int v1), some (.int v2), some (.int v3), some (.int v4), some (.int v5), some (.int v6), some (.int v7), some (.int v8), some (.int v9), some (.int v10), some (.int v11), v12.map Value.int, v13.map Value.int] [] h (none, r)) (v0 : Option Nat) (v1 : Int32) (v2 : Int32) (v3 : Int32) (v4 : Int32) (v5 : Int32) (v6 : Int32) (v7 : Int32) (v8 : Int32) (v9 : Int32) (v10 : Int32) (v11 : Int32) (v12 : Int32) (v13 : Option (Int32))  (h : Hp) (r : Hp) (hb : b_219_263 k222 v0 v3 v4 v5 v6 v7 v9 v10 v11 v12  h = some r) : Rn d 219 263 [some (va_rf v0), some (.int v1), some (.int v2), some (.int v3), some (.int v4), some (.int v5), some (.int v6), some (.int v7), some (.int v8), some (.int v9), some (.int v10), some (.int v11), some (.int v12), v13.map Value.int] [] h (none, r) := by
  unfold b_219_263 at hb
  refine rn_iconst (x := (nI 0)) rfl (by decide) ?_
  refine rn_goto rfl rfl ?_
  exact u_219_278 d hd k222 K222 v0 v1 v2 v3 v4 v5 v6 v7 v8 v9 v10 v11 v12 v13 (nI 0) h _ hb
def b_219_259 (k222 : Option Nat → Int32 → Int32 → Int32 → Int32 → Int32 → Int32 → Int32 → Int32 → Hp → Option (Hp)) (v0 : Option Nat) (v3 : Int32) (v4 : Int32) (v5 : Int32) (v6 : Int32) (v7 : Int32) (v9 : Int32) (v10 : Int32) (v11 : Int32) (v12 : Int32)  (h : Hp) : Option (Hp) :=
  b_219_278 k222 v0 v3 v4 v5 v6 v7 v9 v10 v11 v12 (nI 1) h
theorem u_219_259 (d : Nat) (hd : 1 ≤ d) (k222 : Option Nat → Int32 → Int32 → Int32 → Int32 → Int32 → Int32 → Int32 → Int32 → Hp → Option (Hp)) (K222 : ∀ (v0 : Option Nat) (v1 : Int32) (v2 : Int32) (v3 : Int32) (v4 : Int32) (v5 : Int32) (v6 : Int32) (v7 : Int32) (v8 : Int32) (v9 : Int32) (v10 : Int32) (v11 : Int32) (v12 : Option (Int32)) (v13 : Option (Int32)) (h : Hp) (r : Hp), k222 v0 v3 v4 v5 v6 v7 v9 v10 v11 h = some r → Rn d 219 222 [some (va_rf v0), some (.int v1), some (.int v2), some (.int v3), some (.int v4), some (.int v5), some (.int v6), some (.int v7), some (.int v8), some (.int v9), some (.int v10), some (.int v11), v12.map Value.int, v13.map Value.int] [] h (none, r)) (v0 : Option Nat) (v1 : Int32) (v2 : Int32) (v3 : Int32) (v4 : Int32) (v5 : Int32) (v6 : Int32) (v7 : Int32) (v8 : Int32) (v9 : Int32) (v10 : Int32) (v11 : Int32) (v12 : Int32) (v13 : Option (Int32))  (h : Hp) (r : Hp) (hb : b_219_259 k222 v0 v3 v4 v5 v6 v7 v9 v10 v11 v12  h = some r) : Rn d 219 259 [some (va_rf v0), some (.int v1), some (.int v2), some (.int v3), some (.int v4), some (.int v5), some (.int v6), some (.int v7), some (.int v8), some (.int v9), some (.int v10), some (.int v11), some (.int v12), v13.map Value.int] [] h (none, r) := by
  unfold b_219_259 at hb
  refine rn_iconst (x := (nI 1)) rfl (by decide) ?_
  refine rn_goto rfl rfl ?_
  exact u_219_278 d hd k222 K222 v0 v1 v2 v3 v4 v5 v6 v7 v8 v9 v10 v11 v12 v13 (nI 1) h _ hb
def b_219_254 (k222 : Option Nat → Int32 → Int32 → Int32 → Int32 → Int32 → Int32 → Int32 → Int32 → Hp → Option (Hp)) (v0 : Option Nat) (v3 : Int32) (v4 : Int32) (v5 : Int32) (v6 : Int32) (v7 : Int32) (v9 : Int32) (v10 : Int32) (v11 : Int32) (v12 : Int32)  (h : Hp) : Option (Hp) :=
  if ¬ v5 = 0 then b_219_263 k222 v0 v3 v4 v5 v6 v7 v9 v10 v11 v12  h else b_219_259 k222 v0 v3 v4 v5 v6 v7 v9 v10 v11 v12  h
theorem u_219_254 (d : Nat) (hd : 1 ≤ d) (k222 : Option Nat → Int32 → Int32 → Int32 → Int32 → Int32 → Int32 → Int32 → Int32 → Hp → Option (Hp)) (K222 : ∀ (v0 : Option Nat) (v1 : Int32) (v2 : Int32) (v3 : Int32) (v4 : Int32) (v5 : Int32) (v6 : Int32) (v7 : Int32) (v8 : Int32) (v9 : Int32) (v10 : Int32) (v11 : Int32) (v12 : Option (Int32)) (v13 : Option (Int32)) (h : Hp) (r : Hp), k222 v0 v3 v4 v5 v6 v7 v9 v10 v11 h = some r → Rn d 219 222 [some (va_rf v0), some (.int v1), some (.int v2), some (.int v3), some (.int v4), some (.int v5), some (.int v6), some (.int v7), some (.int v8), some (.int v9), some (.int v10), some (.int v11), v12.map Value.int, v13.map Value.int] [] h (none, r)) (v0 : Option Nat) (v1 : Int32) (v2 : Int32) (v3 : Int32) (v4 : Int32) (v5 : Int32) (v6 : Int32) (v7 : Int32) (v8 : Int32) (v9 : Int32) (v10 : Int32) (v11 : Int32) (v12 : Int32) (v13 : Option (Int32))  (h : Hp) (r : Hp) (hb : b_219_254 k222 v0 v3 v4 v5 v6 v7 v9 v10 v11 v12  h = some r) : Rn d 219 254 [some (va_rf v0), some (.int v1), some (.int v2), some (.int v3), some (.int v4), some (.int v5), some (.int v6), some (.int v7), some (.int v8), some (.int v9), some (.int v10), some (.int v11), some (.int v12), v13.map Value.int] [] h (none, r) := by
  unfold b_219_254 at hb
  refine rn_iload (i := 5) rfl rfl ?_
  refine rn_if_ne rfl rfl (fun hc => ?_) (fun hc => ?_)
  · exact u_219_263 d hd k222 K222 v0 v1 v2 v3 v4 v5 v6 v7 v8 v9 v10 v11 v12 v13  h _ (if_t hb hc)
  · exact u_219_259 d hd k222 K222 v0 v1 v2 v3 v4 v5 v6 v7 v8 v9 v10 v11 v12 v13  h _ (if_f hb hc)
def b_219_248 (k222 : Option Nat → Int32 → Int32 → Int32 → Int32 → Int32 → Int32 → Int32 → Int32 → Hp → Option (Hp)) (v0 : Option Nat) (v3 : Int32) (v4 : Int32) (v5 : Int32) (v6 : Int32) (v7 : Int32) (v9 : Int32) (v10 : Int32) (v11 : Int32) (s0 : Int32) (h : Hp) : Option (Hp) :=
  if ¬ v3 = 0 then b_219_267 k222 v0 v3 v4 v5 v6 v7 v9 v10 v11 s0  h else b_219_254 k222 v0 v3 v4 v5 v6 v7 v9 v10 v11 s0  h
theorem u_219_248 (d : Nat) (hd : 1 ≤ d) (k222 : Option Nat → Int32 → Int32 → Int32 → Int32 → Int32 → Int32 → Int32 → Int32 → Hp → Option (Hp)) (K222 : ∀ (v0 : Option Nat) (v1 : Int32) (v2 : Int32) (v3 : Int32) (v4 : Int32) (v5 : Int32) (v6 : Int32) (v7 : Int32) (v8 : Int32) (v9 : Int32) (v10 : Int32) (v11 : Int32) (v12 : Option (Int32)) (v13 : Option (Int32)) (h : Hp) (r : Hp), k222 v0 v3 v4 v5 v6 v7 v9 v10 v11 h = some r → Rn d 219 222 [some (va_rf v0), some (.int v1), some (.int v2), some (.int v3), some (.int v4), some (.int v5), some (.int v6), some (.int v7), some (.int v8), some (.int v9), some (.int v10), some (.int v11), v12.map Value.int, v13.map Value.int] [] h (none, r)) (v0 : Option Nat) (v1 : Int32) (v2 : Int32) (v3 : Int32) (v4 : Int32) (v5 : Int32) (v6 : Int32) (v7 : Int32) (v8 : Int32) (v9 : Int32) (v10 : Int32) (v11 : Int32) (v12 : Option (Int32)) (v13 : Option (Int32)) (s0 : Int32) (h : Hp) (r : Hp) (hb : b_219_248 k222 v0 v3 v4 v5 v6 v7 v9 v10 v11 s0 h = some r) : Rn d 219 248 [some (va_rf v0), some (.int v1), some (.int v2), some (.int v3), some (.int v4), some (.int v5), some (.int v6), some (.int v7), some (.int v8), some (.int v9), some (.int v10), some (.int v11), v12.map Value.int, v13.map Value.int] [.int s0] h (none, r) := by
  unfold b_219_248 at hb
  refine rn_istore (i := 12) (L1 := [some (va_rf v0), some (.int v1), some (.int v2), some (.int v3), some (.int v4), some (.int v5), some (.int v6), some (.int v7), some (.int v8), some (.int v9), some (.int v10), some (.int v11), some (.int s0), v13.map Value.int]) rfl (Nat.le_of_ble_eq_true rfl) (Or.inr rfl) rfl ?_
  refine rn_iload_n (i := 3) rfl rfl ?_
  refine rn_if_ne rfl rfl (fun hc => ?_) (fun hc => ?_)
  · exact u_219_267 d hd k222 K222 v0 v1 v2 v3 v4 v5 v6 v7 v8 v9 v10 v11 s0 v13  h _ (if_t hb hc)
  · exact u_219_254 d hd k222 K222 v0 v1 v2 v3 v4 v5 v6 v7 v8 v9 v10 v11 s0 v13  h _ (if_f hb hc)
def b_219_241 (k222 : Option Nat → Int32 → Int32 → Int32 → Int32 → Int32 → Int32 → Int32 → Int32 → Hp → Option (Hp)) (v0 : Option Nat) (v3 : Int32) (v4 : Int32) (v5 : Int32) (v6 : Int32) (v7 : Int32) (v9 : Int32) (v10 : Int32) (v11 : Int32)  (h : Hp) : Option (Hp) :=
  b_219_248 k222 v0 v3 v4 v5 v6 v7 v9 v10 v11 (v7 * (v11 + (nI 1))) h
theorem u_219_241 (d : Nat) (hd : 1 ≤ d) (k222 : Option Nat → Int32 → Int32 → Int32 → Int32 → Int32 → Int32 → Int32 → Int32 → Hp → Option (Hp)) (K222 : ∀ (v0 : Option Nat) (v1 : Int32) (v2 : Int32) (v3 : Int32) (v4 : Int32) (v5 : Int32) (v6 : Int32) (v7 : Int32) (v8 : Int32) (v9 : Int32) (v10 : Int32) (v11 : Int32) (v12 : Option (Int32)) (v13 : Option (Int32)) (h : Hp) (r : Hp), k222 v0 v3 v4 v5 v6 v7 v9 v10 v11 h = some r → Rn d 219 222 [some (va_rf v0), some (.int v1), some (.int v2), some (.int v3), some (.int v4), some (.int v5), some (.int v6), some (.int v7), some (.int v8), some (.int v9), some (.int v10), some (.int v11), v12.map Value.int, v13.map Value.int] [] h (none, r)) (v0 : Option Nat) (v1 : Int32) (v2 : Int32) (v3 : Int32) (v4 : Int32) (v5 : Int32) (v6 : Int32) (v7 : Int32) (v8 : Int32) (v9 : Int32) (v10 : Int32) (v11 : Int32) (v12 : Option (Int32)) (v13 : Option (Int32))  (h : Hp) (r : Hp) (hb : b_219_241 k222 v0 v3 v4 v5 v6 v7 v9 v10 v11  h = some r) : Rn d 219 241 [some (va_rf v0), some (.int v1), some (.int v2), some (.int v3), some (.int v4), some (.int v5), some (.int v6), some (.int v7), some (.int v8), some (.int v9), some (.int v10), some (.int v11), v12.map Value.int, v13.map Value.int] [] h (none, r) := by
  unfold b_219_241 at hb
  refine rn_iload (i := 7) rfl rfl ?_
  refine rn_iload (i := 11) rfl rfl ?_
  refine rn_iconst (x := (nI 1)) rfl (by decide) ?_
  refine rn_iadd rfl ?_
  refine rn_imul rfl ?_
  exact u_219_248 d hd k222 K222 v0 v1 v2 v3 v4 v5 v6 v7 v8 v9 v10 v11 v12 v13 (v7 * (v11 + (nI 1))) h _ hb
def b_219_233 (k222 : Option Nat → Int32 → Int32 → Int32 → Int32 → Int32 → Int32 → Int32 → Int32 → Hp → Option (Hp)) (v0 : Option Nat) (v3 : Int32) (v4 : Int32) (v5 : Int32) (v6 : Int32) (v7 : Int32) (v9 : Int32) (v10 : Int32) (v11 : Int32)  (h : Hp) : Option (Hp) :=
  b_219_248 k222 v0 v3 v4 v5 v6 v7 v9 v10 v11 (v6 * v11) h
theorem u_219_233 (d : Nat) (hd : 1 ≤ d) (k222 : Option Nat → Int32 → Int32 → Int32 → Int32 → Int32 → Int32 → Int32 → Int32 → Hp → Option (Hp)) (K222 : ∀ (v0 : Option Nat) (v1 : Int32) (v2 : Int32) (v3 : Int32) (v4 : Int32) (v5 : Int32) (v6 : Int32) (v7 : Int32) (v8 : Int32) (v9 : Int32) (v10 : Int32) (v11 : Int32) (v12 : Option (Int32)) (v13 : Option (Int32)) (h : Hp) (r : Hp), k222 v0 v3 v4 v5 v6 v7 v9 v10 v11 h = some r → Rn d 219 222 [some (va_rf v0), some (.int v1), some (.int v2), some (.int v3), some (.int v4), some (.int v5), some (.int v6), some (.int v7), some (.int v8), some (.int v9), some (.int v10), some (.int v11), v12.map Value.int, v13.map Value.int] [] h (none, r)) (v0 : Option Nat) (v1 : Int32) (v2 : Int32) (v3 : Int32) (v4 : Int32) (v5 : Int32) (v6 : Int32) (v7 : Int32) (v8 : Int32) (v9 : Int32) (v10 : Int32) (v11 : Int32) (v12 : Option (Int32)) (v13 : Option (Int32))  (h : Hp) (r : Hp) (hb : b_219_233 k222 v0 v3 v4 v5 v6 v7 v9 v10 v11  h = some r) : Rn d 219 233 [some (va_rf v0), some (.int v1), some (.int v2), some (.int v3), some (.int v4), some (.int v5), some (.int v6), some (.int v7), some (.int v8), some (.int v9), some (.int v10), some (.int v11), v12.map Value.int, v13.map Value.int] [] h (none, r) := by
  unfold b_219_233 at hb
  refine rn_iload (i := 6) rfl rfl ?_
  refine rn_iload (i := 11) rfl rfl ?_
  refine rn_imul rfl ?_
  refine rn_goto rfl rfl ?_
  exact u_219_248 d hd k222 K222 v0 v1 v2 v3 v4 v5 v6 v7 v8 v9 v10 v11 v12 v13 (v6 * v11) h _ hb
def b_219_229 (k222 : Option Nat → Int32 → Int32 → Int32 → Int32 → Int32 → Int32 → Int32 → Int32 → Hp → Option (Hp)) (v0 : Option Nat) (v3 : Int32) (v4 : Int32) (v5 : Int32) (v6 : Int32) (v7 : Int32) (v9 : Int32) (v10 : Int32) (v11 : Int32)  (h : Hp) : Option (Hp) :=
  if ¬ v3 = 0 then b_219_241 k222 v0 v3 v4 v5 v6 v7 v9 v10 v11  h else b_219_233 k222 v0 v3 v4 v5 v6 v7 v9 v10 v11  h
theorem u_219_229 (d : Nat) (hd : 1 ≤ d) (k222 : Option Nat → Int32 → Int32 → Int32 → Int32 → Int32 → Int32 → Int32 → Int32 → Hp → Option (Hp)) (K222 : ∀ (v0 : Option Nat) (v1 : Int32) (v2 : Int32) (v3 : Int32) (v4 : Int32) (v5 : Int32) (v6 : Int32) (v7 : Int32) (v8 : Int32) (v9 : Int32) (v10 : Int32) (v11 : Int32) (v12 : Option (Int32)) (v13 : Option (Int32)) (h : Hp) (r : Hp), k222 v0 v3 v4 v5 v6 v7 v9 v10 v11 h = some r → Rn d 219 222 [some (va_rf v0), some (.int v1), some (.int v2), some (.int v3), some (.int v4), some (.int v5), some (.int v6), some (.int v7), some (.int v8), some (.int v9), some (.int v10), some (.int v11), v12.map Value.int, v13.map Value.int] [] h (none, r)) (v0 : Option Nat) (v1 : Int32) (v2 : Int32) (v3 : Int32) (v4 : Int32) (v5 : Int32) (v6 : Int32) (v7 : Int32) (v8 : Int32) (v9 : Int32) (v10 : Int32) (v11 : Int32) (v12 : Option (Int32)) (v13 : Option (Int32))  (h : Hp) (r : Hp) (hb : b_219_229 k222 v0 v3 v4 v5 v6 v7 v9 v10 v11  h = some r) : Rn d 219 229 [some (va_rf v0), some (.int v1), some (.int v2), some (.int v3), some (.int v4), some (.int v5), some (.int v6), some (.int v7), some (.int v8), some (.int v9), some (.int v10), some (.int v11), v12.map Value.int, v13.map Value.int] [] h (none, r) := by
  unfold b_219_229 at hb
  refine rn_iload_n (i := 3) rfl rfl ?_
  refine rn_if_ne rfl rfl (fun hc => ?_) (fun hc => ?_)
  · exact u_219_241 d hd k222 K222 v0 v1 v2 v3 v4 v5 v6 v7 v8 v9 v10 v11 v12 v13  h _ (if_t hb hc)
  · exact u_219_233 d hd k222 K222 v0 v1 v2 v3 v4 v5 v6 v7 v8 v9 v10 v11 v12 v13  h _ (if_f hb hc)
def b_219_222 (k222 : Option Nat → Int32 → Int32 → Int32 → Int32 → Int32 → Int32 → Int32 → Int32 → Hp → Option (Hp)) (v0 : Option Nat) (v3 : Int32) (v4 : Int32) (v5 : Int32) (v6 : Int32) (v7 : Int32) (v9 : Int32) (v10 : Int32) (v11 : Int32)  (h : Hp) : Option (Hp) :=
  if v4 ≤ v11 then b_219_318   h else b_219_229 k222 v0 v3 v4 v5 v6 v7 v9 v10 v11  h
theorem u_219_222 (d : Nat) (hd : 1 ≤ d) (k222 : Option Nat → Int32 → Int32 → Int32 → Int32 → Int32 → Int32 → Int32 → Int32 → Hp → Option (Hp)) (K222 : ∀ (v0 : Option Nat) (v1 : Int32) (v2 : Int32) (v3 : Int32) (v4 : Int32) (v5 : Int32) (v6 : Int32) (v7 : Int32) (v8 : Int32) (v9 : Int32) (v10 : Int32) (v11 : Int32) (v12 : Option (Int32)) (v13 : Option (Int32)) (h : Hp) (r : Hp), k222 v0 v3 v4 v5 v6 v7 v9 v10 v11 h = some r → Rn d 219 222 [some (va_rf v0), some (.int v1), some (.int v2), some (.int v3), some (.int v4), some (.int v5), some (.int v6), some (.int v7), some (.int v8), some (.int v9), some (.int v10), some (.int v11), v12.map Value.int, v13.map Value.int] [] h (none, r)) (v0 : Option Nat) (v1 : Int32) (v2 : Int32) (v3 : Int32) (v4 : Int32) (v5 : Int32) (v6 : Int32) (v7 : Int32) (v8 : Int32) (v9 : Int32) (v10 : Int32) (v11 : Int32) (v12 : Option (Int32)) (v13 : Option (Int32))  (h : Hp) (r : Hp) (hb : b_219_222 k222 v0 v3 v4 v5 v6 v7 v9 v10 v11  h = some r) : Rn d 219 222 [some (va_rf v0), some (.int v1), some (.int v2), some (.int v3), some (.int v4), some (.int v5), some (.int v6), some (.int v7), some (.int v8), some (.int v9), some (.int v10), some (.int v11), v12.map Value.int, v13.map Value.int] [] h (none, r) := by
  unfold b_219_222 at hb
  refine rn_iload (i := 11) rfl rfl ?_
  refine rn_iload (i := 4) rfl rfl ?_
  refine rn_icmp_ge rfl rfl (fun hc => ?_) (fun hc => ?_)
  · exact u_219_318 d hd v0 v1 v2 v3 v4 v5 v6 v7 v8 v9 v10 v11 v12 v13  h _ (if_t hb hc)
  · exact u_219_229 d hd k222 K222 v0 v1 v2 v3 v4 v5 v6 v7 v8 v9 v10 v11 v12 v13  h _ (if_f hb hc)
def l_219_222 : Nat → Option Nat → Int32 → Int32 → Int32 → Int32 → Int32 → Int32 → Int32 → Int32 → Hp → Option (Hp)
  | 0, _, _, _, _, _, _, _, _, _, _ => none
  | n + 1, v0, v3, v4, v5, v6, v7, v9, v10, v11, h => b_219_222 (l_219_222 n) v0 v3 v4 v5 v6 v7 v9 v10 v11 h
theorem w_219_222 (d : Nat) (hd : 1 ≤ d) : ∀ (n : Nat) (v0 : Option Nat) (v1 : Int32) (v2 : Int32) (v3 : Int32) (v4 : Int32) (v5 : Int32) (v6 : Int32) (v7 : Int32) (v8 : Int32) (v9 : Int32) (v10 : Int32) (v11 : Int32) (v12 : Option (Int32)) (v13 : Option (Int32)) (h : Hp) (r : Hp), l_219_222 n v0 v3 v4 v5 v6 v7 v9 v10 v11 h = some r → Rn d 219 222 [some (va_rf v0), some (.int v1), some (.int v2), some (.int v3), some (.int v4), some (.int v5), some (.int v6), some (.int v7), some (.int v8), some (.int v9), some (.int v10), some (.int v11), v12.map Value.int, v13.map Value.int] [] h (none, r) := by
  intro n
  induction n with
  | zero => intro v0 v1 v2 v3 v4 v5 v6 v7 v8 v9 v10 v11 v12 v13 h r hb; cases hb
  | succ n ih => intro v0 v1 v2 v3 v4 v5 v6 v7 v8 v9 v10 v11 v12 v13 h r hb; exact u_219_222 d hd (l_219_222 n) ih v0 v1 v2 v3 v4 v5 v6 v7 v8 v9 v10 v11 v12 v13 h r hb
def b_219_219 (v0 : Option Nat) (v3 : Int32) (v4 : Int32) (v5 : Int32) (v6 : Int32) (v7 : Int32) (v9 : Int32) (v10 : Int32)  (h : Hp) : Option (Hp) :=
  bnd ((nI 0)) fun x1 =>
  l_219_222 FU v0 v3 v4 v5 v6 v7 v9 v10 x1 h
theorem u_219_219 (d : Nat) (hd : 1 ≤ d) (v0 : Option Nat) (v1 : Int32) (v2 : Int32) (v3 : Int32) (v4 : Int32) (v5 : Int32) (v6 : Int32) (v7 : Int32) (v8 : Int32) (v9 : Int32) (v10 : Int32)  (h : Hp) (r : Hp) (hb : b_219_219 v0 v3 v4 v5 v6 v7 v9 v10  h = some r) : Rn d 219 219 [some (va_rf v0), some (.int v1), some (.int v2), some (.int v3), some (.int v4), some (.int v5), some (.int v6), some (.int v7), some (.int v8), some (.int v9), some (.int v10), none, none, none] [] h (none, r) := by
  unfold b_219_219 at hb
  refine rn_iconst (x := (nI 0)) rfl (by decide) ?_
  obtain ⟨x1, ex1, hb⟩ := bnd_spec hb
  refine rn_istore (i := 11) (L1 := [some (va_rf v0), some (.int v1), some (.int v2), some (.int v3), some (.int v4), some (.int v5), some (.int v6), some (.int v7), some (.int v8), some (.int v9), some (.int v10), some (.int x1), none, none]) rfl (Nat.le_of_ble_eq_true rfl) (Or.inr rfl) (by rw [ex1]; rfl) ?_
  exact w_219_222 d hd FU v0 v1 v2 v3 v4 v5 v6 v7 v8 v9 v10 x1 (none : Option (Int32)) (none : Option (Int32)) h _ hb
def b_219_218   (h : Hp) : Option (Hp) :=
  some h
theorem u_219_218 (d : Nat) (hd : 1 ≤ d) (v0 : Option Nat) (v1 : Int32) (v2 : Int32) (v3 : Int32) (v4 : Int32) (v5 : Int32) (v6 : Int32) (v7 : Int32) (v8 : Int32) (v9 : Int32) (v10 : Int32) (v11 : Int32) (v12 : Int32) (v13 : Option (Int32))  (h : Hp) (r : Hp) (hb : b_219_218   h = some r) : Rn d 219 218 [some (va_rf v0), some (.int v1), some (.int v2), some (.int v3), some (.int v4), some (.int v5), some (.int v6), some (.int v7), some (.int v8), some (.int v9), some (.int v10), some (.int v11), some (.int v12), v13.map Value.int] [] h (none, r) := by
  unfold b_219_218 at hb
  obtain rfl := Option.some.inj hb
  exact rn_vret rfl rfl
def b_219_212 (k127 : Option Nat → Int32 → Int32 → Int32 → Int32 → Int32 → Int32 → Int32 → Int32 → Hp → Option (Hp)) (v0 : Option Nat) (v4 : Int32) (v5 : Int32) (v6 : Int32) (v7 : Int32) (v9 : Int32) (v10 : Int32) (v11 : Int32) (v12 : Int32)  (h : Hp) : Option (Hp) :=
  bnd (v12 + (nI 1)) fun x1 =>
  k127 v0 v4 v5 v6 v7 v9 v10 v11 x1 h
theorem u_219_212 (d : Nat) (hd : 1 ≤ d) (k127 : Option Nat → Int32 → Int32 → Int32 → Int32 → Int32 → Int32 → Int32 → Int32 → Hp → Option (Hp)) (K127 : ∀ (v0 : Option Nat) (v1 : Int32) (v2 : Int32) (v3 : Int32) (v4 : Int32) (v5 : Int32) (v6 : Int32) (v7 : Int32) (v8 : Int32) (v9 : Int32) (v10 : Int32) (v11 : Int32) (v12 : Int32) (v13 : Option (Int32)) (h : Hp) (r : Hp), k127 v0 v4 v5 v6 v7 v9 v10 v11 v12 h = some r → Rn d 219 127 [some (va_rf v0), some (.int v1), some (.int v2), some (.int v3), some (.int v4), some (.int v5), some (.int v6), some (.int v7), some (.int v8), some (.int v9), some (.int v10), some (.int v11), some (.int v12), v13.map Value.int] [] h (none, r)) (v0 : Option Nat) (v1 : Int32) (v2 : Int32) (v3 : Int32) (v4 : Int32) (v5 : Int32) (v6 : Int32) (v7 : Int32) (v8 : Int32) (v9 : Int32) (v10 : Int32) (v11 : Int32) (v12 : Int32) (v13 : Int32)  (h : Hp) (r : Hp) (hb : b_219_212 k127 v0 v4 v5 v6 v7 v9 v10 v11 v12  h = some r) : Rn d 219 212 [some (va_rf v0), some (.int v1), some (.int v2), some (.int v3), some (.int v4), some (.int v5), some (.int v6), some (.int v7), some (.int v8), some (.int v9), some (.int v10), some (.int v11), some (.int v12), some (.int v13)] [] h (none, r) := by
  unfold b_219_212 at hb
  obtain ⟨x1, ex1, hb⟩ := bnd_spec hb
  refine rn_iinc (i := 12) (y := x1) (L1 := [some (va_rf v0), some (.int v1), some (.int v2), some (.int v3), some (.int v4), some (.int v5), some (.int v6), some (.int v7), some (.int v8), some (.int v9), some (.int v10), some (.int v11), some (.int x1), some (.int v13)]) rfl rfl (Nat.le_of_ble_eq_true rfl) (Or.inr rfl) (by rw [ex1]; rfl) rfl ?_
  refine rn_goto rfl rfl ?_
  exact K127 v0 v1 v2 v3 v4 v5 v6 v7 v8 v9 v10 v11 x1 (some v13) h _ hb
def b_219_206 (k127 : Option Nat → Int32 → Int32 → Int32 → Int32 → Int32 → Int32 → Int32 → Int32 → Hp → Option (Hp)) (k137 : Option Nat → Int32 → Int32 → Int32 → Int32 → Int32 → Int32 → Int32 → Int32 → Int32 → Hp → Option (Hp)) (v0 : Option Nat) (v4 : Int32) (v5 : Int32) (v6 : Int32) (v7 : Int32) (v9 : Int32) (v10 : Int32) (v11 : Int32) (v12 : Int32) (v13 : Int32)  (h : Hp) : Option (Hp) :=
  bnd (v13 + (nI 1)) fun x1 =>
  k137 v0 v4 v5 v6 v7 v9 v10 v11 v12 x1 h
theorem u_219_206 (d : Nat) (hd : 1 ≤ d) (k127 : Option Nat → Int32 → Int32 → Int32 → Int32 → Int32 → Int32 → Int32 → Int32 → Hp → Option (Hp)) (K127 : ∀ (v0 : Option Nat) (v1 : Int32) (v2 : Int32) (v3 : Int32) (v4 : Int32) (v5 : Int32) (v6 : Int32) (v7 : Int32) (v8 : Int32) (v9 : Int32) (v10 : Int32) (v11 : Int32) (v12 : Int32) (v13 : Option (Int32)) (h : Hp) (r : Hp), k127 v0 v4 v5 v6 v7 v9 v10 v11 v12 h = some r → Rn d 219 127 [some (va_rf v0), some (.int v1), some (.int v2), some (.int v3), some (.int v4), some (.int v5), some (.int v6), some (.int v7), some (.int v8), some (.int v9), some (.int v10), some (.int v11), some (.int v12), v13.map Value.int] [] h (none, r)) (k137 : Option Nat → Int32 → Int32 → Int32 → Int32 → Int32 → Int32 → Int32 → Int32 → Int32 → Hp → Option (Hp)) (K137 : ∀ (v0 : Option Nat) (v1 : Int32) (v2 : Int32) (v3 : Int32) (v4 : Int32) (v5 : Int32) (v6 : Int32) (v7 : Int32) (v8 : Int32) (v9 : Int32) (v10 : Int32) (v11 : Int32) (v12 : Int32) (v13 : Int32) (h : Hp) (r : Hp), k137 v0 v4 v5 v6 v7 v9 v10 v11 v12 v13 h = some r → Rn d 219 137 [some (va_rf v0), some (.int v1), some (.int v2), some (.int v3), some (.int v4), some (.int v5), some (.int v6), some (.int v7), some (.int v8), some (.int v9), some (.int v10), some (.int v11), some (.int v12), some (.int v13)] [] h (none, r)) (v0 : Option Nat) (v1 : Int32) (v2 : Int32) (v3 : Int32) (v4 : Int32) (v5 : Int32) (v6 : Int32) (v7 : Int32) (v8 : Int32) (v9 : Int32) (v10 : Int32) (v11 : Int32) (v12 : Int32) (v13 : Int32)  (h : Hp) (r : Hp) (hb : b_219_206 k127 k137 v0 v4 v5 v6 v7 v9 v10 v11 v12 v13  h = some r) : Rn d 219 206 [some (va_rf v0), some (.int v1), some (.int v2), some (.int v3), some (.int v4), some (.int v5), some (.int v6), some (.int v7), some (.int v8), some (.int v9), some (.int v10), some (.int v11), some (.int v12), some (.int v13)] [] h (none, r) := by
  unfold b_219_206 at hb
  obtain ⟨x1, ex1, hb⟩ := bnd_spec hb
  refine rn_iinc (i := 13) (y := x1) (L1 := [some (va_rf v0), some (.int v1), some (.int v2), some (.int v3), some (.int v4), some (.int v5), some (.int v6), some (.int v7), some (.int v8), some (.int v9), some (.int v10), some (.int v11), some (.int v12), some (.int x1)]) rfl rfl (Nat.le_of_ble_eq_true rfl) (Or.inr rfl) (by rw [ex1]; rfl) rfl ?_
  refine rn_goto rfl rfl ?_
  exact K137 v0 v1 v2 v3 v4 v5 v6 v7 v8 v9 v10 v11 v12 x1 h _ hb
def b_219_202 (k127 : Option Nat → Int32 → Int32 → Int32 → Int32 → Int32 → Int32 → Int32 → Int32 → Hp → Option (Hp)) (k137 : Option Nat → Int32 → Int32 → Int32 → Int32 → Int32 → Int32 → Int32 → Int32 → Int32 → Hp → Option (Hp)) (v0 : Option Nat) (v4 : Int32) (v5 : Int32) (v6 : Int32) (v7 : Int32) (v9 : Int32) (v10 : Int32) (v11 : Int32) (v12 : Int32) (v13 : Int32) (s0 : Option Nat) (s1 : Int32) (s2 : Int32) (s3 : Int32) (h : Hp) : Option (Hp) :=
  (grd (rC 11 s0 h)).bind fun _ =>
  (f_218 s0 s1 (s2 + s3) h).bind fun p1 =>
  b_219_206 k127 k137 v0 v4 v5 v6 v7 v9 v10 v11 v12 v13  p1
theorem u_219_202 (d : Nat) (hd : 1 ≤ d) (k127 : Option Nat → Int32 → Int32 → Int32 → Int32 → Int32 → Int32 → Int32 → Int32 → Hp → Option (Hp)) (K127 : ∀ (v0 : Option Nat) (v1 : Int32) (v2 : Int32) (v3 : Int32) (v4 : Int32) (v5 : Int32) (v6 : Int32) (v7 : Int32) (v8 : Int32) (v9 : Int32) (v10 : Int32) (v11 : Int32) (v12 : Int32) (v13 : Option (Int32)) (h : Hp) (r : Hp), k127 v0 v4 v5 v6 v7 v9 v10 v11 v12 h = some r → Rn d 219 127 [some (va_rf v0), some (.int v1), some (.int v2), some (.int v3), some (.int v4), some (.int v5), some (.int v6), some (.int v7), some (.int v8), some (.int v9), some (.int v10), some (.int v11), some (.int v12), v13.map Value.int] [] h (none, r)) (k137 : Option Nat → Int32 → Int32 → Int32 → Int32 → Int32 → Int32 → Int32 → Int32 → Int32 → Hp → Option (Hp)) (K137 : ∀ (v0 : Option Nat) (v1 : Int32) (v2 : Int32) (v3 : Int32) (v4 : Int32) (v5 : Int32) (v6 : Int32) (v7 : Int32) (v8 : Int32) (v9 : Int32) (v10 : Int32) (v11 : Int32) (v12 : Int32) (v13 : Int32) (h : Hp) (r : Hp), k137 v0 v4 v5 v6 v7 v9 v10 v11 v12 v13 h = some r → Rn d 219 137 [some (va_rf v0), some (.int v1), some (.int v2), some (.int v3), some (.int v4), some (.int v5), some (.int v6), some (.int v7), some (.int v8), some (.int v9), some (.int v10), some (.int v11), some (.int v12), some (.int v13)] [] h (none, r)) (v0 : Option Nat) (v1 : Int32) (v2 : Int32) (v3 : Int32) (v4 : Int32) (v5 : Int32) (v6 : Int32) (v7 : Int32) (v8 : Int32) (v9 : Int32) (v10 : Int32) (v11 : Int32) (v12 : Int32) (v13 : Int32) (s0 : Option Nat) (s1 : Int32) (s2 : Int32) (s3 : Int32) (h : Hp) (r : Hp) (hb : b_219_202 k127 k137 v0 v4 v5 v6 v7 v9 v10 v11 v12 v13 s0 s1 s2 s3 h = some r) : Rn d 219 202 [some (va_rf v0), some (.int v1), some (.int v2), some (.int v3), some (.int v4), some (.int v5), some (.int v6), some (.int v7), some (.int v8), some (.int v9), some (.int v10), some (.int v11), some (.int v12), some (.int v13)] [.int s3, .int s2, .int s1, va_rf s0] h (none, r) := by
  unfold b_219_202 at hb
  obtain ⟨e, rfl⟩ : ∃ e, d = e + 1 := ⟨d - 1, by omega⟩
  refine rn_iadd rfl ?_
  obtain ⟨hrc, hb⟩ := grd_spec hb
  obtain ⟨p1, hc, hb⟩ := Option.bind_eq_some_iff.mp hb
  refine Rn.call0 (d := e) (As := [va_rf s0, .int s1, .int (s2 + s3)]) (rest := []) rfl rfl rfl (by decide) rfl rfl rfl (bd_rcV hrc rfl) (by decide) (bd_lenC (n := 3) rfl (bd_slR (bd_slI (bd_slI bd_slN))) rfl) (bd_locC (n := 3) rfl (bd_slR (bd_slI (bd_slI bd_slN))) rfl (t_218 e (by omega) s0 s1 (s2 + s3) h _ hc)) ?_
  exact u_219_206 (e + 1) hd k127 K127 k137 K137 v0 v1 v2 v3 v4 v5 v6 v7 v8 v9 v10 v11 v12 v13  p1 _ hb
def b_219_197 (k127 : Option Nat → Int32 → Int32 → Int32 → Int32 → Int32 → Int32 → Int32 → Int32 → Hp → Option (Hp)) (k137 : Option Nat → Int32 → Int32 → Int32 → Int32 → Int32 → Int32 → Int32 → Int32 → Int32 → Hp → Option (Hp)) (v0 : Option Nat) (v4 : Int32) (v5 : Int32) (v6 : Int32) (v7 : Int32) (v9 : Int32) (v10 : Int32) (v11 : Int32) (v12 : Int32) (v13 : Int32) (s0 : Option Nat) (s1 : Int32) (s2 : Int32) (h : Hp) : Option (Hp) :=
  b_219_202 k127 k137 v0 v4 v5 v6 v7 v9 v10 v11 v12 v13 s0 s1 s2 (v6 * v12) h
theorem u_219_197 (d : Nat) (hd : 1 ≤ d) (k127 : Option Nat → Int32 → Int32 → Int32 → Int32 → Int32 → Int32 → Int32 → Int32 → Hp → Option (Hp)) (K127 : ∀ (v0 : Option Nat) (v1 : Int32) (v2 : Int32) (v3 : Int32) (v4 : Int32) (v5 : Int32) (v6 : Int32) (v7 : Int32) (v8 : Int32) (v9 : Int32) (v10 : Int32) (v11 : Int32) (v12 : Int32) (v13 : Option (Int32)) (h : Hp) (r : Hp), k127 v0 v4 v5 v6 v7 v9 v10 v11 v12 h = some r → Rn d 219 127 [some (va_rf v0), some (.int v1), some (.int v2), some (.int v3), some (.int v4), some (.int v5), some (.int v6), some (.int v7), some (.int v8), some (.int v9), some (.int v10), some (.int v11), some (.int v12), v13.map Value.int] [] h (none, r)) (k137 : Option Nat → Int32 → Int32 → Int32 → Int32 → Int32 → Int32 → Int32 → Int32 → Int32 → Hp → Option (Hp)) (K137 : ∀ (v0 : Option Nat) (v1 : Int32) (v2 : Int32) (v3 : Int32) (v4 : Int32) (v5 : Int32) (v6 : Int32) (v7 : Int32) (v8 : Int32) (v9 : Int32) (v10 : Int32) (v11 : Int32) (v12 : Int32) (v13 : Int32) (h : Hp) (r : Hp), k137 v0 v4 v5 v6 v7 v9 v10 v11 v12 v13 h = some r → Rn d 219 137 [some (va_rf v0), some (.int v1), some (.int v2), some (.int v3), some (.int v4), some (.int v5), some (.int v6), some (.int v7), some (.int v8), some (.int v9), some (.int v10), some (.int v11), some (.int v12), some (.int v13)] [] h (none, r)) (v0 : Option Nat) (v1 : Int32) (v2 : Int32) (v3 : Int32) (v4 : Int32) (v5 : Int32) (v6 : Int32) (v7 : Int32) (v8 : Int32) (v9 : Int32) (v10 : Int32) (v11 : Int32) (v12 : Int32) (v13 : Int32) (s0 : Option Nat) (s1 : Int32) (s2 : Int32) (h : Hp) (r : Hp) (hb : b_219_197 k127 k137 v0 v4 v5 v6 v7 v9 v10 v11 v12 v13 s0 s1 s2 h = some r) : Rn d 219 197 [some (va_rf v0), some (.int v1), some (.int v2), some (.int v3), some (.int v4), some (.int v5), some (.int v6), some (.int v7), some (.int v8), some (.int v9), some (.int v10), some (.int v11), some (.int v12), some (.int v13)] [.int s2, .int s1, va_rf s0] h (none, r) := by
  unfold b_219_197 at hb
  refine rn_iload (i := 6) rfl rfl ?_
  refine rn_iload (i := 12) rfl rfl ?_
  refine rn_imul rfl ?_
  exact u_219_202 d hd k127 K127 k137 K137 v0 v1 v2 v3 v4 v5 v6 v7 v8 v9 v10 v11 v12 v13 s0 s1 s2 (v6 * v12) h _ hb
def b_219_189 (k127 : Option Nat → Int32 → Int32 → Int32 → Int32 → Int32 → Int32 → Int32 → Int32 → Hp → Option (Hp)) (k137 : Option Nat → Int32 → Int32 → Int32 → Int32 → Int32 → Int32 → Int32 → Int32 → Int32 → Hp → Option (Hp)) (v0 : Option Nat) (v4 : Int32) (v5 : Int32) (v6 : Int32) (v7 : Int32) (v9 : Int32) (v10 : Int32) (v11 : Int32) (v12 : Int32) (v13 : Int32) (s0 : Option Nat) (s1 : Int32) (s2 : Int32) (h : Hp) : Option (Hp) :=
  b_219_202 k127 k137 v0 v4 v5 v6 v7 v9 v10 v11 v12 v13 s0 s1 s2 (v7 * v13) h
theorem u_219_189 (d : Nat) (hd : 1 ≤ d) (k127 : Option Nat → Int32 → Int32 → Int32 → Int32 → Int32 → Int32 → Int32 → Int32 → Hp → Option (Hp)) (K127 : ∀ (v0 : Option Nat) (v1 : Int32) (v2 : Int32) (v3 : Int32) (v4 : Int32) (v5 : Int32) (v6 : Int32) (v7 : Int32) (v8 : Int32) (v9 : Int32) (v10 : Int32) (v11 : Int32) (v12 : Int32) (v13 : Option (Int32)) (h : Hp) (r : Hp), k127 v0 v4 v5 v6 v7 v9 v10 v11 v12 h = some r → Rn d 219 127 [some (va_rf v0), some (.int v1), some (.int v2), some (.int v3), some (.int v4), some (.int v5), some (.int v6), some (.int v7), some (.int v8), some (.int v9), some (.int v10), some (.int v11), some (.int v12), v13.map Value.int] [] h (none, r)) (k137 : Option Nat → Int32 → Int32 → Int32 → Int32 → Int32 → Int32 → Int32 → Int32 → Int32 → Hp → Option (Hp)) (K137 : ∀ (v0 : Option Nat) (v1 : Int32) (v2 : Int32) (v3 : Int32) (v4 : Int32) (v5 : Int32) (v6 : Int32) (v7 : Int32) (v8 : Int32) (v9 : Int32) (v10 : Int32) (v11 : Int32) (v12 : Int32) (v13 : Int32) (h : Hp) (r : Hp), k137 v0 v4 v5 v6 v7 v9 v10 v11 v12 v13 h = some r → Rn d 219 137 [some (va_rf v0), some (.int v1), some (.int v2), some (.int v3), some (.int v4), some (.int v5), some (.int v6), some (.int v7), some (.int v8), some (.int v9), some (.int v10), some (.int v11), some (.int v12), some (.int v13)] [] h (none, r)) (v0 : Option Nat) (v1 : Int32) (v2 : Int32) (v3 : Int32) (v4 : Int32) (v5 : Int32) (v6 : Int32) (v7 : Int32) (v8 : Int32) (v9 : Int32) (v10 : Int32) (v11 : Int32) (v12 : Int32) (v13 : Int32) (s0 : Option Nat) (s1 : Int32) (s2 : Int32) (h : Hp) (r : Hp) (hb : b_219_189 k127 k137 v0 v4 v5 v6 v7 v9 v10 v11 v12 v13 s0 s1 s2 h = some r) : Rn d 219 189 [some (va_rf v0), some (.int v1), some (.int v2), some (.int v3), some (.int v4), some (.int v5), some (.int v6), some (.int v7), some (.int v8), some (.int v9), some (.int v10), some (.int v11), some (.int v12), some (.int v13)] [.int s2, .int s1, va_rf s0] h (none, r) := by
  unfold b_219_189 at hb
  refine rn_iload (i := 7) rfl rfl ?_
  refine rn_iload (i := 13) rfl rfl ?_
  refine rn_imul rfl ?_
  refine rn_goto rfl rfl ?_
  exact u_219_202 d hd k127 K127 k137 K137 v0 v1 v2 v3 v4 v5 v6 v7 v8 v9 v10 v11 v12 v13 s0 s1 s2 (v7 * v13) h _ hb
def b_219_181 (k127 : Option Nat → Int32 → Int32 → Int32 → Int32 → Int32 → Int32 → Int32 → Int32 → Hp → Option (Hp)) (k137 : Option Nat → Int32 → Int32 → Int32 → Int32 → Int32 → Int32 → Int32 → Int32 → Int32 → Hp → Option (Hp)) (v0 : Option Nat) (v4 : Int32) (v5 : Int32) (v6 : Int32) (v7 : Int32) (v9 : Int32) (v10 : Int32) (v11 : Int32) (v12 : Int32) (v13 : Int32) (s0 : Option Nat) (s1 : Int32) (s2 : Int32) (h : Hp) : Option (Hp) :=
  if ¬ v5 = 0 then b_219_197 k127 k137 v0 v4 v5 v6 v7 v9 v10 v11 v12 v13 s0 (s1 + s2) v10 h else b_219_189 k127 k137 v0 v4 v5 v6 v7 v9 v10 v11 v12 v13 s0 (s1 + s2) v10 h
theorem u_219_181 (d : Nat) (hd : 1 ≤ d) (k127 : Option Nat → Int32 → Int32 → Int32 → Int32 → Int32 → Int32 → Int32 → Int32 → Hp → Option (Hp)) (K127 : ∀ (v0 : Option Nat) (v1 : Int32) (v2 : Int32) (v3 : Int32) (v4 : Int32) (v5 : Int32) (v6 : Int32) (v7 : Int32) (v8 : Int32) (v9 : Int32) (v10 : Int32) (v11 : Int32) (v12 : Int32) (v13 : Option (Int32)) (h : Hp) (r : Hp), k127 v0 v4 v5 v6 v7 v9 v10 v11 v12 h = some r → Rn d 219 127 [some (va_rf v0), some (.int v1), some (.int v2), some (.int v3), some (.int v4), some (.int v5), some (.int v6), some (.int v7), some (.int v8), some (.int v9), some (.int v10), some (.int v11), some (.int v12), v13.map Value.int] [] h (none, r)) (k137 : Option Nat → Int32 → Int32 → Int32 → Int32 → Int32 → Int32 → Int32 → Int32 → Int32 → Hp → Option (Hp)) (K137 : ∀ (v0 : Option Nat) (v1 : Int32) (v2 : Int32) (v3 : Int32) (v4 : Int32) (v5 : Int32) (v6 : Int32) (v7 : Int32) (v8 : Int32) (v9 : Int32) (v10 : Int32) (v11 : Int32) (v12 : Int32) (v13 : Int32) (h : Hp) (r : Hp), k137 v0 v4 v5 v6 v7 v9 v10 v11 v12 v13 h = some r → Rn d 219 137 [some (va_rf v0), some (.int v1), some (.int v2), some (.int v3), some (.int v4), some (.int v5), some (.int v6), some (.int v7), some (.int v8), some (.int v9), some (.int v10), some (.int v11), some (.int v12), some (.int v13)] [] h (none, r)) (v0 : Option Nat) (v1 : Int32) (v2 : Int32) (v3 : Int32) (v4 : Int32) (v5 : Int32) (v6 : Int32) (v7 : Int32) (v8 : Int32) (v9 : Int32) (v10 : Int32) (v11 : Int32) (v12 : Int32) (v13 : Int32) (s0 : Option Nat) (s1 : Int32) (s2 : Int32) (h : Hp) (r : Hp) (hb : b_219_181 k127 k137 v0 v4 v5 v6 v7 v9 v10 v11 v12 v13 s0 s1 s2 h = some r) : Rn d 219 181 [some (va_rf v0), some (.int v1), some (.int v2), some (.int v3), some (.int v4), some (.int v5), some (.int v6), some (.int v7), some (.int v8), some (.int v9), some (.int v10), some (.int v11), some (.int v12), some (.int v13)] [.int s2, .int s1, va_rf s0] h (none, r) := by
  unfold b_219_181 at hb
  refine rn_iadd rfl ?_
  refine rn_iload (i := 10) rfl rfl ?_
  refine rn_iload (i := 5) rfl rfl ?_
  refine rn_if_ne rfl rfl (fun hc => ?_) (fun hc => ?_)
  · exact u_219_197 d hd k127 K127 k137 K137 v0 v1 v2 v3 v4 v5 v6 v7 v8 v9 v10 v11 v12 v13 s0 (s1 + s2) v10 h _ (if_t hb hc)
  · exact u_219_189 d hd k127 K127 k137 K137 v0 v1 v2 v3 v4 v5 v6 v7 v8 v9 v10 v11 v12 v13 s0 (s1 + s2) v10 h _ (if_f hb hc)
def b_219_176 (k127 : Option Nat → Int32 → Int32 → Int32 → Int32 → Int32 → Int32 → Int32 → Int32 → Hp → Option (Hp)) (k137 : Option Nat → Int32 → Int32 → Int32 → Int32 → Int32 → Int32 → Int32 → Int32 → Int32 → Hp → Option (Hp)) (v0 : Option Nat) (v4 : Int32) (v5 : Int32) (v6 : Int32) (v7 : Int32) (v9 : Int32) (v10 : Int32) (v11 : Int32) (v12 : Int32) (v13 : Int32) (s0 : Option Nat) (s1 : Int32) (h : Hp) : Option (Hp) :=
  b_219_181 k127 k137 v0 v4 v5 v6 v7 v9 v10 v11 v12 v13 s0 s1 (v7 * v13) h
theorem u_219_176 (d : Nat) (hd : 1 ≤ d) (k127 : Option Nat → Int32 → Int32 → Int32 → Int32 → Int32 → Int32 → Int32 → Int32 → Hp → Option (Hp)) (K127 : ∀ (v0 : Option Nat) (v1 : Int32) (v2 : Int32) (v3 : Int32) (v4 : Int32) (v5 : Int32) (v6 : Int32) (v7 : Int32) (v8 : Int32) (v9 : Int32) (v10 : Int32) (v11 : Int32) (v12 : Int32) (v13 : Option (Int32)) (h : Hp) (r : Hp), k127 v0 v4 v5 v6 v7 v9 v10 v11 v12 h = some r → Rn d 219 127 [some (va_rf v0), some (.int v1), some (.int v2), some (.int v3), some (.int v4), some (.int v5), some (.int v6), some (.int v7), some (.int v8), some (.int v9), some (.int v10), some (.int v11), some (.int v12), v13.map Value.int] [] h (none, r)) (k137 : Option Nat → Int32 → Int32 → Int32 → Int32 → Int32 → Int32 → Int32 → Int32 → Int32 → Hp → Option (Hp)) (K137 : ∀ (v0 : Option Nat) (v1 : Int32) (v2 : Int32) (v3 : Int32) (v4 : Int32) (v5 : Int32) (v6 : Int32) (v7 : Int32) (v8 : Int32) (v9 : Int32) (v10 : Int32) (v11 : Int32) (v12 : Int32) (v13 : Int32) (h : Hp) (r : Hp), k137 v0 v4 v5 v6 v7 v9 v10 v11 v12 v13 h = some r → Rn d 219 137 [some (va_rf v0), some (.int v1), some (.int v2), some (.int v3), some (.int v4), some (.int v5), some (.int v6), some (.int v7), some (.int v8), some (.int v9), some (.int v10), some (.int v11), some (.int v12), some (.int v13)] [] h (none, r)) (v0 : Option Nat) (v1 : Int32) (v2 : Int32) (v3 : Int32) (v4 : Int32) (v5 : Int32) (v6 : Int32) (v7 : Int32) (v8 : Int32) (v9 : Int32) (v10 : Int32) (v11 : Int32) (v12 : Int32) (v13 : Int32) (s0 : Option Nat) (s1 : Int32) (h : Hp) (r : Hp) (hb : b_219_176 k127 k137 v0 v4 v5 v6 v7 v9 v10 v11 v12 v13 s0 s1 h = some r) : Rn d 219 176 [some (va_rf v0), some (.int v1), some (.int v2), some (.int v3), some (.int v4), some (.int v5), some (.int v6), some (.int v7), some (.int v8), some (.int v9), some (.int v10), some (.int v11), some (.int v12), some (.int v13)] [.int s1, va_rf s0] h (none, r) := by
  unfold b_219_176 at hb
  refine rn_iload (i := 7) rfl rfl ?_
  refine rn_iload (i := 13) rfl rfl ?_
  refine rn_imul rfl ?_
  exact u_219_181 d hd k127 K127 k137 K137 v0 v1 v2 v3 v4 v5 v6 v7 v8 v9 v10 v11 v12 v13 s0 s1 (v7 * v13) h _ hb
def b_219_168 (k127 : Option Nat → Int32 → Int32 → Int32 → Int32 → Int32 → Int32 → Int32 → Int32 → Hp → Option (Hp)) (k137 : Option Nat → Int32 → Int32 → Int32 → Int32 → Int32 → Int32 → Int32 → Int32 → Int32 → Hp → Option (Hp)) (v0 : Option Nat) (v4 : Int32) (v5 : Int32) (v6 : Int32) (v7 : Int32) (v9 : Int32) (v10 : Int32) (v11 : Int32) (v12 : Int32) (v13 : Int32) (s0 : Option Nat) (s1 : Int32) (h : Hp) : Option (Hp) :=
  b_219_181 k127 k137 v0 v4 v5 v6 v7 v9 v10 v11 v12 v13 s0 s1 (v6 * v12) h
theorem u_219_168 (d : Nat) (hd : 1 ≤ d) (k127 : Option Nat → Int32 → Int32 → Int32 → Int32 → Int32 → Int32 → Int32 → Int32 → Hp → Option (Hp)) (K127 : ∀ (v0 : Option Nat) (v1 : Int32) (v2 : Int32) (v3 : Int32) (v4 : Int32) (v5 : Int32) (v6 : Int32) (v7 : Int32) (v8 : Int32) (v9 : Int32) (v10 : Int32) (v11 : Int32) (v12 : Int32) (v13 : Option (Int32)) (h : Hp) (r : Hp), k127 v0 v4 v5 v6 v7 v9 v10 v11 v12 h = some r → Rn d 219 127 [some (va_rf v0), some (.int v1), some (.int v2), some (.int v3), some (.int v4), some (.int v5), some (.int v6), some (.int v7), some (.int v8), some (.int v9), some (.int v10), some (.int v11), some (.int v12), v13.map Value.int] [] h (none, r)) (k137 : Option Nat → Int32 → Int32 → Int32 → Int32 → Int32 → Int32 → Int32 → Int32 → Int32 → Hp → Option (Hp)) (K137 : ∀ (v0 : Option Nat) (v1 : Int32) (v2 : Int32) (v3 : Int32) (v4 : Int32) (v5 : Int32) (v6 : Int32) (v7 : Int32) (v8 : Int32) (v9 : Int32) (v10 : Int32) (v11 : Int32) (v12 : Int32) (v13 : Int32) (h : Hp) (r : Hp), k137 v0 v4 v5 v6 v7 v9 v10 v11 v12 v13 h = some r → Rn d 219 137 [some (va_rf v0), some (.int v1), some (.int v2), some (.int v3), some (.int v4), some (.int v5), some (.int v6), some (.int v7), some (.int v8), some (.int v9), some (.int v10), some (.int v11), some (.int v12), some (.int v13)] [] h (none, r)) (v0 : Option Nat) (v1 : Int32) (v2 : Int32) (v3 : Int32) (v4 : Int32) (v5 : Int32) (v6 : Int32) (v7 : Int32) (v8 : Int32) (v9 : Int32) (v10 : Int32) (v11 : Int32) (v12 : Int32) (v13 : Int32) (s0 : Option Nat) (s1 : Int32) (h : Hp) (r : Hp) (hb : b_219_168 k127 k137 v0 v4 v5 v6 v7 v9 v10 v11 v12 v13 s0 s1 h = some r) : Rn d 219 168 [some (va_rf v0), some (.int v1), some (.int v2), some (.int v3), some (.int v4), some (.int v5), some (.int v6), some (.int v7), some (.int v8), some (.int v9), some (.int v10), some (.int v11), some (.int v12), some (.int v13)] [.int s1, va_rf s0] h (none, r) := by
  unfold b_219_168 at hb
  refine rn_iload (i := 6) rfl rfl ?_
  refine rn_iload (i := 12) rfl rfl ?_
  refine rn_imul rfl ?_
  refine rn_goto rfl rfl ?_
  exact u_219_181 d hd k127 K127 k137 K137 v0 v1 v2 v3 v4 v5 v6 v7 v8 v9 v10 v11 v12 v13 s0 s1 (v6 * v12) h _ hb
def b_219_160 (k127 : Option Nat → Int32 → Int32 → Int32 → Int32 → Int32 → Int32 → Int32 → Int32 → Hp → Option (Hp)) (k137 : Option Nat → Int32 → Int32 → Int32 → Int32 → Int32 → Int32 → Int32 → Int32 → Int32 → Hp → Option (Hp)) (v0 : Option Nat) (v4 : Int32) (v5 : Int32) (v6 : Int32) (v7 : Int32) (v9 : Int32) (v10 : Int32) (v11 : Int32) (v12 : Int32) (v13 : Int32)  (h : Hp) : Option (Hp) :=
  if ¬ v5 = 0 then b_219_176 k127 k137 v0 v4 v5 v6 v7 v9 v10 v11 v12 v13 v0 v9 h else b_219_168 k127 k137 v0 v4 v5 v6 v7 v9 v10 v11 v12 v13 v0 v9 h
theorem u_219_160 (d : Nat) (hd : 1 ≤ d) (k127 : Option Nat → Int32 → Int32 → Int32 → Int32 → Int32 → Int32 → Int32 → Int32 → Hp → Option (Hp)) (K127 : ∀ (v0 : Option Nat) (v1 : Int32) (v2 : Int32) (v3 : Int32) (v4 : Int32) (v5 : Int32) (v6 : Int32) (v7 : Int32) (v8 : Int32) (v9 : Int32) (v10 : Int32) (v11 : Int32) (v12 : Int32) (v13 : Option (Int32)) (h : Hp) (r : Hp), k127 v0 v4 v5 v6 v7 v9 v10 v11 v12 h = some r → Rn d 219 127 [some (va_rf v0), some (.int v1), some (.int v2), some (.int v3), some (.int v4), some (.int v5), some (.int v6), some (.int v7), some (.int v8), some (.int v9), some (.int v10), some (.int v11), some (.int v12), v13.map Value.int] [] h (none, r)) (k137 : Option Nat → Int32 → Int32 → Int32 → Int32 → Int32 → Int32 → Int32 → Int32 → Int32 → Hp → Option (Hp)) (K137 : ∀ (v0 : Option Nat) (v1 : Int32) (v2 : Int32) (v3 : Int32) (v4 : Int32) (v5 : Int32) (v6 : Int32) (v7 : Int32) (v8 : Int32) (v9 : Int32) (v10 : Int32) (v11 : Int32) (v12 : Int32) (v13 : Int32) (h : Hp) (r : Hp), k137 v0 v4 v5 v6 v7 v9 v10 v11 v12 v13 h = some r → Rn d 219 137 [some (va_rf v0), some (.int v1), some (.int v2), some (.int v3), some (.int v4), some (.int v5), some (.int v6), some (.int v7), some (.int v8), some (.int v9), some (.int v10), some (.int v11), some (.int v12), some (.int v13)] [] h (none, r)) (v0 : Option Nat) (v1 : Int32) (v2 : Int32) (v3 : Int32) (v4 : Int32) (v5 : Int32) (v6 : Int32) (v7 : Int32) (v8 : Int32) (v9 : Int32) (v10 : Int32) (v11 : Int32) (v12 : Int32) (v13 : Int32)  (h : Hp) (r : Hp) (hb : b_219_160 k127 k137 v0 v4 v5 v6 v7 v9 v10 v11 v12 v13  h = some r) : Rn d 219 160 [some (va_rf v0), some (.int v1), some (.int v2), some (.int v3), some (.int v4), some (.int v5), some (.int v6), some (.int v7), some (.int v8), some (.int v9), some (.int v10), some (.int v11), some (.int v12), some (.int v13)] [] h (none, r) := by
  unfold b_219_160 at hb
  refine rn_aload_n (i := 0) rfl rfl ?_
  refine rn_iload (i := 9) rfl rfl ?_
  refine rn_iload (i := 5) rfl rfl ?_
  refine rn_if_ne rfl rfl (fun hc => ?_) (fun hc => ?_)
  · exact u_219_176 d hd k127 K127 k137 K137 v0 v1 v2 v3 v4 v5 v6 v7 v8 v9 v10 v11 v12 v13 v0 v9 h _ (if_t hb hc)
  · exact u_219_168 d hd k127 K127 k137 K137 v0 v1 v2 v3 v4 v5 v6 v7 v8 v9 v10 v11 v12 v13 v0 v9 h _ (if_f hb hc)
def b_219_151 (k127 : Option Nat → Int32 → Int32 → Int32 → Int32 → Int32 → Int32 → Int32 → Int32 → Hp → Option (Hp)) (k137 : Option Nat → Int32 → Int32 → Int32 → Int32 → Int32 → Int32 → Int32 → Int32 → Int32 → Hp → Option (Hp)) (v0 : Option Nat) (v4 : Int32) (v5 : Int32) (v6 : Int32) (v7 : Int32) (v9 : Int32) (v10 : Int32) (v11 : Int32) (v12 : Int32) (v13 : Int32)  (h : Hp) : Option (Hp) :=
  if ¬ v13 = (v12 + (nI 1)) then b_219_206 k127 k137 v0 v4 v5 v6 v7 v9 v10 v11 v12 v13  h else b_219_160 k127 k137 v0 v4 v5 v6 v7 v9 v10 v11 v12 v13  h
theorem u_219_151 (d : Nat) (hd : 1 ≤ d) (k127 : Option Nat → Int32 → Int32 → Int32 → Int32 → Int32 → Int32 → Int32 → Int32 → Hp → Option (Hp)) (K127 : ∀ (v0 : Option Nat) (v1 : Int32) (v2 : Int32) (v3 : Int32) (v4 : Int32) (v5 : Int32) (v6 : Int32) (v7 : Int32) (v8 : Int32) (v9 : Int32) (v10 : Int32) (v11 : Int32) (v12 : Int32) (v13 : Option (Int32)) (h : Hp) (r : Hp), k127 v0 v4 v5 v6 v7 v9 v10 v11 v12 h = some r → Rn d 219 127 [some (va_rf v0), some (.int v1), some (.int v2), some (.int v3), some (.int v4), some (.int v5), some (.int v6), some (.int v7), some (.int v8), some (.int v9), some (.int v10), some (.int v11), some (.int v12), v13.map Value.int] [] h (none, r)) (k137 : Option Nat → Int32 → Int32 → Int32 → Int32 → Int32 → Int32 → Int32 → Int32 → Int32 → Hp → Option (Hp)) (K137 : ∀ (v0 : Option Nat) (v1 : Int32) (v2 : Int32) (v3 : Int32) (v4 : Int32) (v5 : Int32) (v6 : Int32) (v7 : Int32) (v8 : Int32) (v9 : Int32) (v10 : Int32) (v11 : Int32) (v12 : Int32) (v13 : Int32) (h : Hp) (r : Hp), k137 v0 v4 v5 v6 v7 v9 v10 v11 v12 v13 h = some r → Rn d 219 137 [some (va_rf v0), some (.int v1), some (.int v2), some (.int v3), some (.int v4), some (.int v5), some (.int v6), some (.int v7), some (.int v8), some (.int v9), some (.int v10), some (.int v11), some (.int v12), some (.int v13)] [] h (none, r)) (v0 : Option Nat) (v1 : Int32) (v2 : Int32) (v3 : Int32) (v4 : Int32) (v5 : Int32) (v6 : Int32) (v7 : Int32) (v8 : Int32) (v9 : Int32) (v10 : Int32) (v11 : Int32) (v12 : Int32) (v13 : Int32)  (h : Hp) (r : Hp) (hb : b_219_151 k127 k137 v0 v4 v5 v6 v7 v9 v10 v11 v12 v13  h = some r) : Rn d 219 151 [some (va_rf v0), some (.int v1), some (.int v2), some (.int v3), some (.int v4), some (.int v5), some (.int v6), some (.int v7), some (.int v8), some (.int v9), some (.int v10), some (.int v11), some (.int v12), some (.int v13)] [] h (none, r) := by
  unfold b_219_151 at hb
  refine rn_iload (i := 13) rfl rfl ?_
  refine rn_iload (i := 12) rfl rfl ?_
  refine rn_iconst (x := (nI 1)) rfl (by decide) ?_
  refine rn_iadd rfl ?_
  refine rn_icmp_ne rfl rfl (fun hc => ?_) (fun hc => ?_)
  · exact u_219_206 d hd k127 K127 k137 K137 v0 v1 v2 v3 v4 v5 v6 v7 v8 v9 v10 v11 v12 v13  h _ (if_t hb hc)
  · exact u_219_160 d hd k127 K127 k137 K137 v0 v1 v2 v3 v4 v5 v6 v7 v8 v9 v10 v11 v12 v13  h _ (if_f hb hc)
def b_219_144 (k127 : Option Nat → Int32 → Int32 → Int32 → Int32 → Int32 → Int32 → Int32 → Int32 → Hp → Option (Hp)) (k137 : Option Nat → Int32 → Int32 → Int32 → Int32 → Int32 → Int32 → Int32 → Int32 → Int32 → Hp → Option (Hp)) (v0 : Option Nat) (v4 : Int32) (v5 : Int32) (v6 : Int32) (v7 : Int32) (v9 : Int32) (v10 : Int32) (v11 : Int32) (v12 : Int32) (v13 : Int32)  (h : Hp) : Option (Hp) :=
  if v13 = v12 then b_219_160 k127 k137 v0 v4 v5 v6 v7 v9 v10 v11 v12 v13  h else b_219_151 k127 k137 v0 v4 v5 v6 v7 v9 v10 v11 v12 v13  h
theorem u_219_144 (d : Nat) (hd : 1 ≤ d) (k127 : Option Nat → Int32 → Int32 → Int32 → Int32 → Int32 → Int32 → Int32 → Int32 → Hp → Option (Hp)) (K127 : ∀ (v0 : Option Nat) (v1 : Int32) (v2 : Int32) (v3 : Int32) (v4 : Int32) (v5 : Int32) (v6 : Int32) (v7 : Int32) (v8 : Int32) (v9 : Int32) (v10 : Int32) (v11 : Int32) (v12 : Int32) (v13 : Option (Int32)) (h : Hp) (r : Hp), k127 v0 v4 v5 v6 v7 v9 v10 v11 v12 h = some r → Rn d 219 127 [some (va_rf v0), some (.int v1), some (.int v2), some (.int v3), some (.int v4), some (.int v5), some (.int v6), some (.int v7), some (.int v8), some (.int v9), some (.int v10), some (.int v11), some (.int v12), v13.map Value.int] [] h (none, r)) (k137 : Option Nat → Int32 → Int32 → Int32 → Int32 → Int32 → Int32 → Int32 → Int32 → Int32 → Hp → Option (Hp)) (K137 : ∀ (v0 : Option Nat) (v1 : Int32) (v2 : Int32) (v3 : Int32) (v4 : Int32) (v5 : Int32) (v6 : Int32) (v7 : Int32) (v8 : Int32) (v9 : Int32) (v10 : Int32) (v11 : Int32) (v12 : Int32) (v13 : Int32) (h : Hp) (r : Hp), k137 v0 v4 v5 v6 v7 v9 v10 v11 v12 v13 h = some r → Rn d 219 137 [some (va_rf v0), some (.int v1), some (.int v2), some (.int v3), some (.int v4), some (.int v5), some (.int v6), some (.int v7), some (.int v8), some (.int v9), some (.int v10), some (.int v11), some (.int v12), some (.int v13)] [] h (none, r)) (v0 : Option Nat) (v1 : Int32) (v2 : Int32) (v3 : Int32) (v4 : Int32) (v5 : Int32) (v6 : Int32) (v7 : Int32) (v8 : Int32) (v9 : Int32) (v10 : Int32) (v11 : Int32) (v12 : Int32) (v13 : Int32)  (h : Hp) (r : Hp) (hb : b_219_144 k127 k137 v0 v4 v5 v6 v7 v9 v10 v11 v12 v13  h = some r) : Rn d 219 144 [some (va_rf v0), some (.int v1), some (.int v2), some (.int v3), some (.int v4), some (.int v5), some (.int v6), some (.int v7), some (.int v8), some (.int v9), some (.int v10), some (.int v11), some (.int v12), some (.int v13)] [] h (none, r) := by
  unfold b_219_144 at hb
  refine rn_iload (i := 13) rfl rfl ?_
  refine rn_iload (i := 12) rfl rfl ?_
  refine rn_icmp_eq rfl rfl (fun hc => ?_) (fun hc => ?_)
  · exact u_219_160 d hd k127 K127 k137 K137 v0 v1 v2 v3 v4 v5 v6 v7 v8 v9 v10 v11 v12 v13  h _ (if_t hb hc)
  · exact u_219_151 d hd k127 K127 k137 K137 v0 v1 v2 v3 v4 v5 v6 v7 v8 v9 v10 v11 v12 v13  h _ (if_f hb hc)
def b_219_137 (k127 : Option Nat → Int32 → Int32 → Int32 → Int32 → Int32 → Int32 → Int32 → Int32 → Hp → Option (Hp)) (k137 : Option Nat → Int32 → Int32 → Int32 → Int32 → Int32 → Int32 → Int32 → Int32 → Int32 → Hp → Option (Hp)) (v0 : Option Nat) (v4 : Int32) (v5 : Int32) (v6 : Int32) (v7 : Int32) (v9 : Int32) (v10 : Int32) (v11 : Int32) (v12 : Int32) (v13 : Int32)  (h : Hp) : Option (Hp) :=
  if v11 < v13 then b_219_212 k127 v0 v4 v5 v6 v7 v9 v10 v11 v12  h else b_219_144 k127 k137 v0 v4 v5 v6 v7 v9 v10 v11 v12 v13  h
theorem u_219_137 (d : Nat) (hd : 1 ≤ d) (k127 : Option Nat → Int32 → Int32 → Int32 → Int32 → Int32 → Int32 → Int32 → Int32 → Hp → Option (Hp)) (K127 : ∀ (v0 : Option Nat) (v1 : Int32) (v2 : Int32) (v3 : Int32) (v4 : Int32) (v5 : Int32) (v6 : Int32) (v7 : Int32) (v8 : Int32) (v9 : Int32) (v10 : Int32) (v11 : Int32) (v12 : Int32) (v13 : Option (Int32)) (h : Hp) (r : Hp), k127 v0 v4 v5 v6 v7 v9 v10 v11 v12 h = some r → Rn d 219 127 [some (va_rf v0), some (.int v1), some (.int v2), some (.int v3), some (.int v4), some (.int v5), some (.int v6), some (.int v7), some (.int v8), some (.int v9), some (.int v10), some (.int v11), some (.int v12), v13.map Value.int] [] h (none, r)) (k137 : Option Nat → Int32 → Int32 → Int32 → Int32 → Int32 → Int32 → Int32 → Int32 → Int32 → Hp → Option (Hp)) (K137 : ∀ (v0 : Option Nat) (v1 : Int32) (v2 : Int32) (v3 : Int32) (v4 : Int32) (v5 : Int32) (v6 : Int32) (v7 : Int32) (v8 : Int32) (v9 : Int32) (v10 : Int32) (v11 : Int32) (v12 : Int32) (v13 : Int32) (h : Hp) (r : Hp), k137 v0 v4 v5 v6 v7 v9 v10 v11 v12 v13 h = some r → Rn d 219 137 [some (va_rf v0), some (.int v1), some (.int v2), some (.int v3), some (.int v4), some (.int v5), some (.int v6), some (.int v7), some (.int v8), some (.int v9), some (.int v10), some (.int v11), some (.int v12), some (.int v13)] [] h (none, r)) (v0 : Option Nat) (v1 : Int32) (v2 : Int32) (v3 : Int32) (v4 : Int32) (v5 : Int32) (v6 : Int32) (v7 : Int32) (v8 : Int32) (v9 : Int32) (v10 : Int32) (v11 : Int32) (v12 : Int32) (v13 : Int32)  (h : Hp) (r : Hp) (hb : b_219_137 k127 k137 v0 v4 v5 v6 v7 v9 v10 v11 v12 v13  h = some r) : Rn d 219 137 [some (va_rf v0), some (.int v1), some (.int v2), some (.int v3), some (.int v4), some (.int v5), some (.int v6), some (.int v7), some (.int v8), some (.int v9), some (.int v10), some (.int v11), some (.int v12), some (.int v13)] [] h (none, r) := by
  unfold b_219_137 at hb
  refine rn_iload (i := 13) rfl rfl ?_
  refine rn_iload (i := 11) rfl rfl ?_
  refine rn_icmp_gt rfl rfl (fun hc => ?_) (fun hc => ?_)
  · exact u_219_212 d hd k127 K127 v0 v1 v2 v3 v4 v5 v6 v7 v8 v9 v10 v11 v12 v13  h _ (if_t hb hc)
  · exact u_219_144 d hd k127 K127 k137 K137 v0 v1 v2 v3 v4 v5 v6 v7 v8 v9 v10 v11 v12 v13  h _ (if_f hb hc)
def l_219_137 (k127 : Option Nat → Int32 → Int32 → Int32 → Int32 → Int32 → Int32 → Int32 → Int32 → Hp → Option (Hp)) : Nat → Option Nat → Int32 → Int32 → Int32 → Int32 → Int32 → Int32 → Int32 → Int32 → Int32 → Hp → Option (Hp)
  | 0, _, _, _, _, _, _, _, _, _, _, _ => none
  | n + 1, v0, v4, v5, v6, v7, v9, v10, v11, v12, v13, h => b_219_137 k127 (l_219_137 k127 n) v0 v4 v5 v6 v7 v9 v10 v11 v12 v13 h
theorem w_219_137 (d : Nat) (hd : 1 ≤ d) (k127 : Option Nat → Int32 → Int32 → Int32 → Int32 → Int32 → Int32 → Int32 → Int32 → Hp → Option (Hp)) (K127 : ∀ (v0 : Option Nat) (v1 : Int32) (v2 : Int32) (v3 : Int32) (v4 : Int32) (v5 : Int32) (v6 : Int32) (v7 : Int32) (v8 : Int32) (v9 : Int32) (v10 : Int32) (v11 : Int32) (v12 : Int32) (v13 : Option (Int32)) (h : Hp) (r : Hp), k127 v0 v4 v5 v6 v7 v9 v10 v11 v12 h = some r → Rn d 219 127 [some (va_rf v0), some (.int v1), some (.int v2), some (.int v3), some (.int v4), some (.int v5), some (.int v6), some (.int v7), some (.int v8), some (.int v9), some (.int v10), some (.int v11), some (.int v12), v13.map Value.int] [] h (none, r)) : ∀ (n : Nat) (v0 : Option Nat) (v1 : Int32) (v2 : Int32) (v3 : Int32) (v4 : Int32) (v5 : Int32) (v6 : Int32) (v7 : Int32) (v8 : Int32) (v9 : Int32) (v10 : Int32) (v11 : Int32) (v12 : Int32) (v13 : Int32) (h : Hp) (r : Hp), l_219_137 k127 n v0 v4 v5 v6 v7 v9 v10 v11 v12 v13 h = some r → Rn d 219 137 [some (va_rf v0), some (.int v1), some (.int v2), some (.int v3), some (.int v4), some (.int v5), some (.int v6), some (.int v7), some (.int v8), some (.int v9), some (.int v10), some (.int v11), some (.int v12), some (.int v13)] [] h (none, r) := by
  intro n
  induction n with
  | zero => intro v0 v1 v2 v3 v4 v5 v6 v7 v8 v9 v10 v11 v12 v13 h r hb; cases hb
  | succ n ih => intro v0 v1 v2 v3 v4 v5 v6 v7 v8 v9 v10 v11 v12 v13 h r hb; exact u_219_137 d hd k127 K127 (l_219_137 k127 n) ih v0 v1 v2 v3 v4 v5 v6 v7 v8 v9 v10 v11 v12 v13 h r hb
def b_219_134 (k127 : Option Nat → Int32 → Int32 → Int32 → Int32 → Int32 → Int32 → Int32 → Int32 → Hp → Option (Hp)) (v0 : Option Nat) (v4 : Int32) (v5 : Int32) (v6 : Int32) (v7 : Int32) (v9 : Int32) (v10 : Int32) (v11 : Int32) (v12 : Int32)  (h : Hp) : Option (Hp) :=
  bnd ((nI 1)) fun x1 =>
  l_219_137 k127 FU v0 v4 v5 v6 v7 v9 v10 v11 v12 x1 h
theorem u_219_134 (d : Nat) (hd : 1 ≤ d) (k127 : Option Nat → Int32 → Int32 → Int32 → Int32 → Int32 → Int32 → Int32 → Int32 → Hp → Option (Hp)) (K127 : ∀ (v0 : Option Nat) (v1 : Int32) (v2 : Int32) (v3 : Int32) (v4 : Int32) (v5 : Int32) (v6 : Int32) (v7 : Int32) (v8 : Int32) (v9 : Int32) (v10 : Int32) (v11 : Int32) (v12 : Int32) (v13 : Option (Int32)) (h : Hp) (r : Hp), k127 v0 v4 v5 v6 v7 v9 v10 v11 v12 h = some r → Rn d 219 127 [some (va_rf v0), some (.int v1), some (.int v2), some (.int v3), some (.int v4), some (.int v5), some (.int v6), some (.int v7), some (.int v8), some (.int v9), some (.int v10), some (.int v11), some (.int v12), v13.map Value.int] [] h (none, r)) (v0 : Option Nat) (v1 : Int32) (v2 : Int32) (v3 : Int32) (v4 : Int32) (v5 : Int32) (v6 : Int32) (v7 : Int32) (v8 : Int32) (v9 : Int32) (v10 : Int32) (v11 : Int32) (v12 : Int32) (v13 : Option (Int32))  (h : Hp) (r : Hp) (hb : b_219_134 k127 v0 v4 v5 v6 v7 v9 v10 v11 v12  h = some r) : Rn d 219 134 [some (va_rf v0), some (.int v1), some (.int v2), some (.int v3), some (.int v4), some (.int v5), some (.int v6), some (.int v7), some (.int v8), some (.int v9), some (.int v10), some (.int v11), some (.int v12), v13.map Value.int] [] h (none, r) := by
  unfold b_219_134 at hb
  refine rn_iconst (x := (nI 1)) rfl (by decide) ?_
  obtain ⟨x1, ex1, hb⟩ := bnd_spec hb
  refine rn_istore (i := 13) (L1 := [some (va_rf v0), some (.int v1), some (.int v2), some (.int v3), some (.int v4), some (.int v5), some (.int v6), some (.int v7), some (.int v8), some (.int v9), some (.int v10), some (.int v11), some (.int v12), some (.int x1)]) rfl (Nat.le_of_ble_eq_true rfl) (Or.inr rfl) (by rw [ex1]; rfl) ?_
  exact w_219_137 d hd k127 K127 FU v0 v1 v2 v3 v4 v5 v6 v7 v8 v9 v10 v11 v12 x1 h _ hb
def b_219_127 (k127 : Option Nat → Int32 → Int32 → Int32 → Int32 → Int32 → Int32 → Int32 → Int32 → Hp → Option (Hp)) (v0 : Option Nat) (v4 : Int32) (v5 : Int32) (v6 : Int32) (v7 : Int32) (v9 : Int32) (v10 : Int32) (v11 : Int32) (v12 : Int32)  (h : Hp) : Option (Hp) :=
  if v4 ≤ v12 then b_219_218   h else b_219_134 k127 v0 v4 v5 v6 v7 v9 v10 v11 v12  h
theorem u_219_127 (d : Nat) (hd : 1 ≤ d) (k127 : Option Nat → Int32 → Int32 → Int32 → Int32 → Int32 → Int32 → Int32 → Int32 → Hp → Option (Hp)) (K127 : ∀ (v0 : Option Nat) (v1 : Int32) (v2 : Int32) (v3 : Int32) (v4 : Int32) (v5 : Int32) (v6 : Int32) (v7 : Int32) (v8 : Int32) (v9 : Int32) (v10 : Int32) (v11 : Int32) (v12 : Int32) (v13 : Option (Int32)) (h : Hp) (r : Hp), k127 v0 v4 v5 v6 v7 v9 v10 v11 v12 h = some r → Rn d 219 127 [some (va_rf v0), some (.int v1), some (.int v2), some (.int v3), some (.int v4), some (.int v5), some (.int v6), some (.int v7), some (.int v8), some (.int v9), some (.int v10), some (.int v11), some (.int v12), v13.map Value.int] [] h (none, r)) (v0 : Option Nat) (v1 : Int32) (v2 : Int32) (v3 : Int32) (v4 : Int32) (v5 : Int32) (v6 : Int32) (v7 : Int32) (v8 : Int32) (v9 : Int32) (v10 : Int32) (v11 : Int32) (v12 : Int32) (v13 : Option (Int32))  (h : Hp) (r : Hp) (hb : b_219_127 k127 v0 v4 v5 v6 v7 v9 v10 v11 v12  h = some r) : Rn d 219 127 [some (va_rf v0), some (.int v1), some (.int v2), some (.int v3), some (.int v4), some (.int v5), some (.int v6), some (.int v7), some (.int v8), some (.int v9), some (.int v10), some (.int v11), some (.int v12), v13.map Value.int] [] h (none, r) := by
  unfold b_219_127 at hb
  refine rn_iload (i := 12) rfl rfl ?_
  refine rn_iload (i := 4) rfl rfl ?_
  refine rn_icmp_ge rfl rfl (fun hc => ?_) (fun hc => ?_)
  · exact u_219_218 d hd v0 v1 v2 v3 v4 v5 v6 v7 v8 v9 v10 v11 v12 v13  h _ (if_t hb hc)
  · exact u_219_134 d hd k127 K127 v0 v1 v2 v3 v4 v5 v6 v7 v8 v9 v10 v11 v12 v13  h _ (if_f hb hc)
def l_219_127 : Nat → Option Nat → Int32 → Int32 → Int32 → Int32 → Int32 → Int32 → Int32 → Int32 → Hp → Option (Hp)
  | 0, _, _, _, _, _, _, _, _, _, _ => none
  | n + 1, v0, v4, v5, v6, v7, v9, v10, v11, v12, h => b_219_127 (l_219_127 n) v0 v4 v5 v6 v7 v9 v10 v11 v12 h
theorem w_219_127 (d : Nat) (hd : 1 ≤ d) : ∀ (n : Nat) (v0 : Option Nat) (v1 : Int32) (v2 : Int32) (v3 : Int32) (v4 : Int32) (v5 : Int32) (v6 : Int32) (v7 : Int32) (v8 : Int32) (v9 : Int32) (v10 : Int32) (v11 : Int32) (v12 : Int32) (v13 : Option (Int32)) (h : Hp) (r : Hp), l_219_127 n v0 v4 v5 v6 v7 v9 v10 v11 v12 h = some r → Rn d 219 127 [some (va_rf v0), some (.int v1), some (.int v2), some (.int v3), some (.int v4), some (.int v5), some (.int v6), some (.int v7), some (.int v8), some (.int v9), some (.int v10), some (.int v11), some (.int v12), v13.map Value.int] [] h (none, r) := by
  intro n
  induction n with
  | zero => intro v0 v1 v2 v3 v4 v5 v6 v7 v8 v9 v10 v11 v12 v13 h r hb; cases hb
  | succ n ih => intro v0 v1 v2 v3 v4 v5 v6 v7 v8 v9 v10 v11 v12 v13 h r hb; exact u_219_127 d hd (l_219_127 n) ih v0 v1 v2 v3 v4 v5 v6 v7 v8 v9 v10 v11 v12 v13 h r hb
def b_219_122 (v0 : Option Nat) (v4 : Int32) (v5 : Int32) (v6 : Int32) (v7 : Int32) (v9 : Int32) (v10 : Int32) (s0 : Int32) (h : Hp) : Option (Hp) :=
  bnd ((nI 0)) fun x1 =>
  l_219_127 FU v0 v4 v5 v6 v7 v9 v10 s0 x1 h
theorem u_219_122 (d : Nat) (hd : 1 ≤ d) (v0 : Option Nat) (v1 : Int32) (v2 : Int32) (v3 : Int32) (v4 : Int32) (v5 : Int32) (v6 : Int32) (v7 : Int32) (v8 : Int32) (v9 : Int32) (v10 : Int32) (s0 : Int32) (h : Hp) (r : Hp) (hb : b_219_122 v0 v4 v5 v6 v7 v9 v10 s0 h = some r) : Rn d 219 122 [some (va_rf v0), some (.int v1), some (.int v2), some (.int v3), some (.int v4), some (.int v5), some (.int v6), some (.int v7), some (.int v8), some (.int v9), some (.int v10), none, none, none] [.int s0] h (none, r) := by
  unfold b_219_122 at hb
  refine rn_istore (i := 11) (L1 := [some (va_rf v0), some (.int v1), some (.int v2), some (.int v3), some (.int v4), some (.int v5), some (.int v6), some (.int v7), some (.int v8), some (.int v9), some (.int v10), some (.int s0), none, none]) rfl (Nat.le_of_ble_eq_true rfl) (Or.inr rfl) rfl ?_
  refine rn_iconst (x := (nI 0)) rfl (by decide) ?_
  obtain ⟨x1, ex1, hb⟩ := bnd_spec hb
  refine rn_istore (i := 12) (L1 := [some (va_rf v0), some (.int v1), some (.int v2), some (.int v3), some (.int v4), some (.int v5), some (.int v6), some (.int v7), some (.int v8), some (.int v9), some (.int v10), some (.int s0), some (.int x1), none]) rfl (Nat.le_of_ble_eq_true rfl) (Or.inr rfl) (by rw [ex1]; rfl) ?_
  exact w_219_127 d hd FU v0 v1 v2 v3 v4 v5 v6 v7 v8 v9 v10 s0 x1 (none : Option (Int32)) h _ hb
def b_219_121 (v0 : Option Nat) (v4 : Int32) (v5 : Int32) (v6 : Int32) (v7 : Int32) (v9 : Int32) (v10 : Int32)  (h : Hp) : Option (Hp) :=
  b_219_122 v0 v4 v5 v6 v7 v9 v10 (nI 1) h
theorem u_219_121 (d : Nat) (hd : 1 ≤ d) (v0 : Option Nat) (v1 : Int32) (v2 : Int32) (v3 : Int32) (v4 : Int32) (v5 : Int32) (v6 : Int32) (v7 : Int32) (v8 : Int32) (v9 : Int32) (v10 : Int32)  (h : Hp) (r : Hp) (hb : b_219_121 v0 v4 v5 v6 v7 v9 v10  h = some r) : Rn d 219 121 [some (va_rf v0), some (.int v1), some (.int v2), some (.int v3), some (.int v4), some (.int v5), some (.int v6), some (.int v7), some (.int v8), some (.int v9), some (.int v10), none, none, none] [] h (none, r) := by
  unfold b_219_121 at hb
  refine rn_iconst (x := (nI 1)) rfl (by decide) ?_
  exact u_219_122 d hd v0 v1 v2 v3 v4 v5 v6 v7 v8 v9 v10 (nI 1) h _ hb
def b_219_114 (v0 : Option Nat) (v4 : Int32) (v5 : Int32) (v6 : Int32) (v7 : Int32) (v9 : Int32) (v10 : Int32)  (h : Hp) : Option (Hp) :=
  b_219_122 v0 v4 v5 v6 v7 v9 v10 (v4 - (nI 1)) h
theorem u_219_114 (d : Nat) (hd : 1 ≤ d) (v0 : Option Nat) (v1 : Int32) (v2 : Int32) (v3 : Int32) (v4 : Int32) (v5 : Int32) (v6 : Int32) (v7 : Int32) (v8 : Int32) (v9 : Int32) (v10 : Int32)  (h : Hp) (r : Hp) (hb : b_219_114 v0 v4 v5 v6 v7 v9 v10  h = some r) : Rn d 219 114 [some (va_rf v0), some (.int v1), some (.int v2), some (.int v3), some (.int v4), some (.int v5), some (.int v6), some (.int v7), some (.int v8), some (.int v9), some (.int v10), none, none, none] [] h (none, r) := by
  unfold b_219_114 at hb
  refine rn_iload (i := 4) rfl rfl ?_
  refine rn_iconst (x := (nI 1)) rfl (by decide) ?_
  refine rn_isub rfl ?_
  refine rn_goto rfl rfl ?_
  exact u_219_122 d hd v0 v1 v2 v3 v4 v5 v6 v7 v8 v9 v10 (v4 - (nI 1)) h _ hb
def b_219_108 (v0 : Option Nat) (v4 : Int32) (v5 : Int32) (v6 : Int32) (v7 : Int32) (v9 : Int32) (v10 : Int32)  (h : Hp) : Option (Hp) :=
  if v4 ≤ (nI 1) then b_219_121 v0 v4 v5 v6 v7 v9 v10  h else b_219_114 v0 v4 v5 v6 v7 v9 v10  h
theorem u_219_108 (d : Nat) (hd : 1 ≤ d) (v0 : Option Nat) (v1 : Int32) (v2 : Int32) (v3 : Int32) (v4 : Int32) (v5 : Int32) (v6 : Int32) (v7 : Int32) (v8 : Int32) (v9 : Int32) (v10 : Int32)  (h : Hp) (r : Hp) (hb : b_219_108 v0 v4 v5 v6 v7 v9 v10  h = some r) : Rn d 219 108 [some (va_rf v0), some (.int v1), some (.int v2), some (.int v3), some (.int v4), some (.int v5), some (.int v6), some (.int v7), some (.int v8), some (.int v9), some (.int v10), none, none, none] [] h (none, r) := by
  unfold b_219_108 at hb
  refine rn_iload (i := 4) rfl rfl ?_
  refine rn_iconst (x := (nI 1)) rfl (by decide) ?_
  refine rn_icmp_le rfl rfl (fun hc => ?_) (fun hc => ?_)
  · exact u_219_121 d hd v0 v1 v2 v3 v4 v5 v6 v7 v8 v9 v10  h _ (if_t hb hc)
  · exact u_219_114 d hd v0 v1 v2 v3 v4 v5 v6 v7 v8 v9 v10  h _ (if_f hb hc)
def b_219_95 (v0 : Option Nat) (v3 : Int32) (v4 : Int32) (v5 : Int32) (v6 : Int32) (v7 : Int32) (v9 : Int32) (s0 : Int32) (s1 : Int32) (h : Hp) : Option (Hp) :=
  bnd ((s0 + s1)) fun x1 =>
  (pI 11 26 v0 (nI 0) h).bind fun h2 =>
  if ¬ v3 = (nI 1) then b_219_219 v0 v3 v4 v5 v6 v7 v9 x1  h2 else b_219_108 v0 v4 v5 v6 v7 v9 x1  h2
theorem u_219_95 (d : Nat) (hd : 1 ≤ d) (v0 : Option Nat) (v1 : Int32) (v2 : Int32) (v3 : Int32) (v4 : Int32) (v5 : Int32) (v6 : Int32) (v7 : Int32) (v8 : Int32) (v9 : Int32) (s0 : Int32) (s1 : Int32) (h : Hp) (r : Hp) (hb : b_219_95 v0 v3 v4 v5 v6 v7 v9 s0 s1 h = some r) : Rn d 219 95 [some (va_rf v0), some (.int v1), some (.int v2), some (.int v3), some (.int v4), some (.int v5), some (.int v6), some (.int v7), some (.int v8), some (.int v9), none, none, none, none] [.int s1, .int s0] h (none, r) := by
  unfold b_219_95 at hb
  refine rn_iadd rfl ?_
  obtain ⟨x1, ex1, hb⟩ := bnd_spec hb
  refine rn_istore (i := 10) (L1 := [some (va_rf v0), some (.int v1), some (.int v2), some (.int v3), some (.int v4), some (.int v5), some (.int v6), some (.int v7), some (.int v8), some (.int v9), some (.int x1), none, none, none]) rfl (Nat.le_of_ble_eq_true rfl) (Or.inr rfl) (by rw [ex1]; rfl) ?_
  refine rn_aload_n (i := 0) rfl rfl ?_
  refine rn_iconst (x := (nI 0)) rfl (by decide) ?_
  refine rn_pI (c := 11) (k := 26) rfl (by decide) hb (fun h2 hb => ?_)
  refine rn_iload_n (i := 3) rfl rfl ?_
  refine rn_iconst (x := (nI 1)) rfl (by decide) ?_
  refine rn_icmp_ne rfl rfl (fun hc => ?_) (fun hc => ?_)
  · exact u_219_219 d hd v0 v1 v2 v3 v4 v5 v6 v7 v8 v9 x1  h2 _ (if_t hb hc)
  · exact u_219_108 d hd v0 v1 v2 v3 v4 v5 v6 v7 v8 v9 x1  h2 _ (if_f hb hc)
def b_219_94 (v0 : Option Nat) (v3 : Int32) (v4 : Int32) (v5 : Int32) (v6 : Int32) (v7 : Int32) (v9 : Int32) (s0 : Int32) (h : Hp) : Option (Hp) :=
  b_219_95 v0 v3 v4 v5 v6 v7 v9 s0 (nI 0) h
theorem u_219_94 (d : Nat) (hd : 1 ≤ d) (v0 : Option Nat) (v1 : Int32) (v2 : Int32) (v3 : Int32) (v4 : Int32) (v5 : Int32) (v6 : Int32) (v7 : Int32) (v8 : Int32) (v9 : Int32) (s0 : Int32) (h : Hp) (r : Hp) (hb : b_219_94 v0 v3 v4 v5 v6 v7 v9 s0 h = some r) : Rn d 219 94 [some (va_rf v0), some (.int v1), some (.int v2), some (.int v3), some (.int v4), some (.int v5), some (.int v6), some (.int v7), some (.int v8), some (.int v9), none, none, none, none] [.int s0] h (none, r) := by
  unfold b_219_94 at hb
  refine rn_iconst (x := (nI 0)) rfl (by decide) ?_
  exact u_219_95 d hd v0 v1 v2 v3 v4 v5 v6 v7 v8 v9 s0 (nI 0) h _ hb
def b_219_89 (v0 : Option Nat) (v3 : Int32) (v4 : Int32) (v5 : Int32) (v6 : Int32) (v7 : Int32) (v8 : Int32) (v9 : Int32) (s0 : Int32) (h : Hp) : Option (Hp) :=
  b_219_95 v0 v3 v4 v5 v6 v7 v9 s0 v8 h
theorem u_219_89 (d : Nat) (hd : 1 ≤ d) (v0 : Option Nat) (v1 : Int32) (v2 : Int32) (v3 : Int32) (v4 : Int32) (v5 : Int32) (v6 : Int32) (v7 : Int32) (v8 : Int32) (v9 : Int32) (s0 : Int32) (h : Hp) (r : Hp) (hb : b_219_89 v0 v3 v4 v5 v6 v7 v8 v9 s0 h = some r) : Rn d 219 89 [some (va_rf v0), some (.int v1), some (.int v2), some (.int v3), some (.int v4), some (.int v5), some (.int v6), some (.int v7), some (.int v8), some (.int v9), none, none, none, none] [.int s0] h (none, r) := by
  unfold b_219_89 at hb
  refine rn_iload (i := 8) rfl rfl ?_
  refine rn_goto rfl rfl ?_
  exact u_219_95 d hd v0 v1 v2 v3 v4 v5 v6 v7 v8 v9 s0 v8 h _ hb
def b_219_74 (v0 : Option Nat) (v1 : Int32) (v3 : Int32) (v4 : Int32) (v5 : Int32) (v6 : Int32) (v7 : Int32) (v8 : Int32) (s0 : Int32) (s1 : Int32) (h : Hp) : Option (Hp) :=
  bnd ((s0 + s1)) fun x1 =>
  (grd (rC 11 v0 h)).bind fun _ =>
  (f_205 v0 v1 (nI 1) h).bind fun p2 =>
  if ¬ v5 = (nI 1) then b_219_94 v0 v3 v4 v5 v6 v7 x1 p2.1 p2.2 else b_219_89 v0 v3 v4 v5 v6 v7 v8 x1 p2.1 p2.2
theorem u_219_74 (d : Nat) (hd : 1 ≤ d) (v0 : Option Nat) (v1 : Int32) (v2 : Int32) (v3 : Int32) (v4 : Int32) (v5 : Int32) (v6 : Int32) (v7 : Int32) (v8 : Int32) (s0 : Int32) (s1 : Int32) (h : Hp) (r : Hp) (hb : b_219_74 v0 v1 v3 v4 v5 v6 v7 v8 s0 s1 h = some r) : Rn d 219 74 [some (va_rf v0), some (.int v1), some (.int v2), some (.int v3), some (.int v4), some (.int v5), some (.int v6), some (.int v7), some (.int v8), none, none, none, none, none] [.int s1, .int s0] h (none, r) := by
  unfold b_219_74 at hb
  obtain ⟨e, rfl⟩ : ∃ e, d = e + 1 := ⟨d - 1, by omega⟩
  refine rn_iadd rfl ?_
  obtain ⟨x1, ex1, hb⟩ := bnd_spec hb
  refine rn_istore (i := 9) (L1 := [some (va_rf v0), some (.int v1), some (.int v2), some (.int v3), some (.int v4), some (.int v5), some (.int v6), some (.int v7), some (.int v8), some (.int x1), none, none, none, none]) rfl (Nat.le_of_ble_eq_true rfl) (Or.inr rfl) (by rw [ex1]; rfl) ?_
  refine rn_aload_n (i := 0) rfl rfl ?_
  refine rn_iload_n (i := 1) rfl rfl ?_
  refine rn_iconst (x := (nI 1)) rfl (by decide) ?_
  obtain ⟨hrc, hb⟩ := grd_spec hb
  obtain ⟨p2, hc, hb⟩ := Option.bind_eq_some_iff.mp hb
  refine Rn.call1 (d := e) (As := [va_rf v0, .int v1, .int (nI 1)]) (rest := []) rfl rfl rfl (by decide) rfl rfl rfl (bd_rcV hrc rfl) (by decide) (bd_lenC (n := 3) rfl (bd_slR (bd_slI (bd_slI bd_slN))) rfl) (bd_locC (n := 3) rfl (bd_slR (bd_slI (bd_slI bd_slN))) rfl (t_205 e (by omega) v0 v1 (nI 1) h _ hc)) ?_
  refine rn_iload (i := 5) rfl rfl ?_
  refine rn_iconst (x := (nI 1)) rfl (by decide) ?_
  refine rn_icmp_ne rfl rfl (fun hc => ?_) (fun hc => ?_)
  · exact u_219_94 (e + 1) hd v0 v1 v2 v3 v4 v5 v6 v7 v8 x1 p2.1 p2.2 _ (if_t hb hc)
  · exact u_219_89 (e + 1) hd v0 v1 v2 v3 v4 v5 v6 v7 v8 x1 p2.1 p2.2 _ (if_f hb hc)
def b_219_73 (v0 : Option Nat) (v1 : Int32) (v3 : Int32) (v4 : Int32) (v5 : Int32) (v6 : Int32) (v7 : Int32) (v8 : Int32) (s0 : Int32) (h : Hp) : Option (Hp) :=
  b_219_74 v0 v1 v3 v4 v5 v6 v7 v8 s0 (nI 0) h
theorem u_219_73 (d : Nat) (hd : 1 ≤ d) (v0 : Option Nat) (v1 : Int32) (v2 : Int32) (v3 : Int32) (v4 : Int32) (v5 : Int32) (v6 : Int32) (v7 : Int32) (v8 : Int32) (s0 : Int32) (h : Hp) (r : Hp) (hb : b_219_73 v0 v1 v3 v4 v5 v6 v7 v8 s0 h = some r) : Rn d 219 73 [some (va_rf v0), some (.int v1), some (.int v2), some (.int v3), some (.int v4), some (.int v5), some (.int v6), some (.int v7), some (.int v8), none, none, none, none, none] [.int s0] h (none, r) := by
  unfold b_219_73 at hb
  refine rn_iconst (x := (nI 0)) rfl (by decide) ?_
  exact u_219_74 d hd v0 v1 v2 v3 v4 v5 v6 v7 v8 s0 (nI 0) h _ hb
def b_219_68 (v0 : Option Nat) (v1 : Int32) (v3 : Int32) (v4 : Int32) (v5 : Int32) (v6 : Int32) (v7 : Int32) (v8 : Int32) (s0 : Int32) (h : Hp) : Option (Hp) :=
  b_219_74 v0 v1 v3 v4 v5 v6 v7 v8 s0 v8 h
theorem u_219_68 (d : Nat) (hd : 1 ≤ d) (v0 : Option Nat) (v1 : Int32) (v2 : Int32) (v3 : Int32) (v4 : Int32) (v5 : Int32) (v6 : Int32) (v7 : Int32) (v8 : Int32) (s0 : Int32) (h : Hp) (r : Hp) (hb : b_219_68 v0 v1 v3 v4 v5 v6 v7 v8 s0 h = some r) : Rn d 219 68 [some (va_rf v0), some (.int v1), some (.int v2), some (.int v3), some (.int v4), some (.int v5), some (.int v6), some (.int v7), some (.int v8), none, none, none, none, none] [.int s0] h (none, r) := by
  unfold b_219_68 at hb
  refine rn_iload (i := 8) rfl rfl ?_
  refine rn_goto rfl rfl ?_
  exact u_219_74 d hd v0 v1 v2 v3 v4 v5 v6 v7 v8 s0 v8 h _ hb
def b_219_55 (v0 : Option Nat) (v1 : Int32) (v3 : Int32) (v4 : Int32) (v5 : Int32) (v6 : Int32) (v7 : Int32) (s0 : Int32) (h : Hp) : Option (Hp) :=
  (grd (rC 11 v0 h)).bind fun _ =>
  (f_205 v0 v1 (nI 0) h).bind fun p1 =>
  if ¬ v5 = 0 then b_219_73 v0 v1 v3 v4 v5 v6 v7 s0 p1.1 p1.2 else b_219_68 v0 v1 v3 v4 v5 v6 v7 s0 p1.1 p1.2
theorem u_219_55 (d : Nat) (hd : 1 ≤ d) (v0 : Option Nat) (v1 : Int32) (v2 : Int32) (v3 : Int32) (v4 : Int32) (v5 : Int32) (v6 : Int32) (v7 : Int32) (s0 : Int32) (h : Hp) (r : Hp) (hb : b_219_55 v0 v1 v3 v4 v5 v6 v7 s0 h = some r) : Rn d 219 55 [some (va_rf v0), some (.int v1), some (.int v2), some (.int v3), some (.int v4), some (.int v5), some (.int v6), some (.int v7), none, none, none, none, none, none] [.int s0] h (none, r) := by
  unfold b_219_55 at hb
  obtain ⟨e, rfl⟩ : ∃ e, d = e + 1 := ⟨d - 1, by omega⟩
  refine rn_istore (i := 8) (L1 := [some (va_rf v0), some (.int v1), some (.int v2), some (.int v3), some (.int v4), some (.int v5), some (.int v6), some (.int v7), some (.int s0), none, none, none, none, none]) rfl (Nat.le_of_ble_eq_true rfl) (Or.inr rfl) rfl ?_
  refine rn_aload_n (i := 0) rfl rfl ?_
  refine rn_iload_n (i := 1) rfl rfl ?_
  refine rn_iconst (x := (nI 0)) rfl (by decide) ?_
  obtain ⟨hrc, hb⟩ := grd_spec hb
  obtain ⟨p1, hc, hb⟩ := Option.bind_eq_some_iff.mp hb
  refine Rn.call1 (d := e) (As := [va_rf v0, .int v1, .int (nI 0)]) (rest := []) rfl rfl rfl (by decide) rfl rfl rfl (bd_rcV hrc rfl) (by decide) (bd_lenC (n := 3) rfl (bd_slR (bd_slI (bd_slI bd_slN))) rfl) (bd_locC (n := 3) rfl (bd_slR (bd_slI (bd_slI bd_slN))) rfl (t_205 e (by omega) v0 v1 (nI 0) h _ hc)) ?_
  refine rn_iload (i := 5) rfl rfl ?_
  refine rn_if_ne rfl rfl (fun hc => ?_) (fun hc => ?_)
  · exact u_219_73 (e + 1) hd v0 v1 v2 v3 v4 v5 v6 v7 s0 p1.1 p1.2 _ (if_t hb hc)
  · exact u_219_68 (e + 1) hd v0 v1 v2 v3 v4 v5 v6 v7 s0 p1.1 p1.2 _ (if_f hb hc)
def b_219_51 (v0 : Option Nat) (v1 : Int32) (v3 : Int32) (v4 : Int32) (v5 : Int32) (v6 : Int32) (v7 : Int32)  (h : Hp) : Option (Hp) :=
  b_219_55 v0 v1 v3 v4 v5 v6 v7 (v4 - (nI 1)) h
theorem u_219_51 (d : Nat) (hd : 1 ≤ d) (v0 : Option Nat) (v1 : Int32) (v2 : Int32) (v3 : Int32) (v4 : Int32) (v5 : Int32) (v6 : Int32) (v7 : Int32)  (h : Hp) (r : Hp) (hb : b_219_51 v0 v1 v3 v4 v5 v6 v7  h = some r) : Rn d 219 51 [some (va_rf v0), some (.int v1), some (.int v2), some (.int v3), some (.int v4), some (.int v5), some (.int v6), some (.int v7), none, none, none, none, none, none] [] h (none, r) := by
  unfold b_219_51 at hb
  refine rn_iload (i := 4) rfl rfl ?_
  refine rn_iconst (x := (nI 1)) rfl (by decide) ?_
  refine rn_isub rfl ?_
  exact u_219_55 d hd v0 v1 v2 v3 v4 v5 v6 v7 (v4 - (nI 1)) h _ hb
def b_219_47 (v0 : Option Nat) (v1 : Int32) (v3 : Int32) (v4 : Int32) (v5 : Int32) (v6 : Int32) (v7 : Int32)  (h : Hp) : Option (Hp) :=
  b_219_55 v0 v1 v3 v4 v5 v6 v7 (nI 0) h
theorem u_219_47 (d : Nat) (hd : 1 ≤ d) (v0 : Option Nat) (v1 : Int32) (v2 : Int32) (v3 : Int32) (v4 : Int32) (v5 : Int32) (v6 : Int32) (v7 : Int32)  (h : Hp) (r : Hp) (hb : b_219_47 v0 v1 v3 v4 v5 v6 v7  h = some r) : Rn d 219 47 [some (va_rf v0), some (.int v1), some (.int v2), some (.int v3), some (.int v4), some (.int v5), some (.int v6), some (.int v7), none, none, none, none, none, none] [] h (none, r) := by
  unfold b_219_47 at hb
  refine rn_iconst (x := (nI 0)) rfl (by decide) ?_
  refine rn_goto rfl rfl ?_
  exact u_219_55 d hd v0 v1 v2 v3 v4 v5 v6 v7 (nI 0) h _ hb
def b_219_39 (v0 : Option Nat) (v1 : Int32) (v2 : Int32) (v3 : Int32) (v4 : Int32) (v5 : Int32) (v6 : Int32) (s0 : Int32) (h : Hp) : Option (Hp) :=
  (grd (decide (¬ ((nI 2) : Int32) = 0))).bind fun _ =>
  if ¬ (v2 - v2 / (nI 2) * (nI 2)) = 0 then b_219_51 v0 v1 v3 v4 v5 v6 s0  h else b_219_47 v0 v1 v3 v4 v5 v6 s0  h
theorem u_219_39 (d : Nat) (hd : 1 ≤ d) (v0 : Option Nat) (v1 : Int32) (v2 : Int32) (v3 : Int32) (v4 : Int32) (v5 : Int32) (v6 : Int32) (s0 : Int32) (h : Hp) (r : Hp) (hb : b_219_39 v0 v1 v2 v3 v4 v5 v6 s0 h = some r) : Rn d 219 39 [some (va_rf v0), some (.int v1), some (.int v2), some (.int v3), some (.int v4), some (.int v5), some (.int v6), none, none, none, none, none, none, none] [.int s0] h (none, r) := by
  unfold b_219_39 at hb
  refine rn_istore (i := 7) (L1 := [some (va_rf v0), some (.int v1), some (.int v2), some (.int v3), some (.int v4), some (.int v5), some (.int v6), some (.int s0), none, none, none, none, none, none]) rfl (Nat.le_of_ble_eq_true rfl) (Or.inr rfl) rfl ?_
  refine rn_iload_n (i := 2) rfl rfl ?_
  refine rn_iconst (x := (nI 2)) rfl (by decide) ?_
  obtain ⟨hy, hb⟩ := grd_spec hb
  refine rn_irem rfl (of_decide_eq_true hy) ?_
  refine rn_if_ne rfl rfl (fun hc => ?_) (fun hc => ?_)
  · exact u_219_51 d hd v0 v1 v2 v3 v4 v5 v6 s0  h _ (if_t hb hc)
  · exact u_219_47 d hd v0 v1 v2 v3 v4 v5 v6 s0  h _ (if_f hb hc)
def b_219_38 (v0 : Option Nat) (v1 : Int32) (v2 : Int32) (v3 : Int32) (v4 : Int32) (v5 : Int32) (v6 : Int32)  (h : Hp) : Option (Hp) :=
  b_219_39 v0 v1 v2 v3 v4 v5 v6 (nI 1) h
theorem u_219_38 (d : Nat) (hd : 1 ≤ d) (v0 : Option Nat) (v1 : Int32) (v2 : Int32) (v3 : Int32) (v4 : Int32) (v5 : Int32) (v6 : Int32)  (h : Hp) (r : Hp) (hb : b_219_38 v0 v1 v2 v3 v4 v5 v6  h = some r) : Rn d 219 38 [some (va_rf v0), some (.int v1), some (.int v2), some (.int v3), some (.int v4), some (.int v5), some (.int v6), none, none, none, none, none, none, none] [] h (none, r) := by
  unfold b_219_38 at hb
  refine rn_iconst (x := (nI 1)) rfl (by decide) ?_
  exact u_219_39 d hd v0 v1 v2 v3 v4 v5 v6 (nI 1) h _ hb
def b_219_34 (v0 : Option Nat) (v1 : Int32) (v2 : Int32) (v3 : Int32) (v4 : Int32) (v5 : Int32) (v6 : Int32)  (h : Hp) : Option (Hp) :=
  b_219_39 v0 v1 v2 v3 v4 v5 v6 (-1 : Int32) h
theorem u_219_34 (d : Nat) (hd : 1 ≤ d) (v0 : Option Nat) (v1 : Int32) (v2 : Int32) (v3 : Int32) (v4 : Int32) (v5 : Int32) (v6 : Int32)  (h : Hp) (r : Hp) (hb : b_219_34 v0 v1 v2 v3 v4 v5 v6  h = some r) : Rn d 219 34 [some (va_rf v0), some (.int v1), some (.int v2), some (.int v3), some (.int v4), some (.int v5), some (.int v6), none, none, none, none, none, none, none] [] h (none, r) := by
  unfold b_219_34 at hb
  refine rn_iconst (x := (-1 : Int32)) rfl (by decide) ?_
  refine rn_goto rfl rfl ?_
  exact u_219_39 d hd v0 v1 v2 v3 v4 v5 v6 (-1 : Int32) h _ hb
def b_219_27 (v0 : Option Nat) (v1 : Int32) (v2 : Int32) (v3 : Int32) (v4 : Int32) (v5 : Int32) (s0 : Int32) (h : Hp) : Option (Hp) :=
  if (nI 2) ≤ v2 then b_219_38 v0 v1 v2 v3 v4 v5 s0  h else b_219_34 v0 v1 v2 v3 v4 v5 s0  h
theorem u_219_27 (d : Nat) (hd : 1 ≤ d) (v0 : Option Nat) (v1 : Int32) (v2 : Int32) (v3 : Int32) (v4 : Int32) (v5 : Int32) (s0 : Int32) (h : Hp) (r : Hp) (hb : b_219_27 v0 v1 v2 v3 v4 v5 s0 h = some r) : Rn d 219 27 [some (va_rf v0), some (.int v1), some (.int v2), some (.int v3), some (.int v4), some (.int v5), none, none, none, none, none, none, none, none] [.int s0] h (none, r) := by
  unfold b_219_27 at hb
  refine rn_istore (i := 6) (L1 := [some (va_rf v0), some (.int v1), some (.int v2), some (.int v3), some (.int v4), some (.int v5), some (.int s0), none, none, none, none, none, none, none]) rfl (Nat.le_of_ble_eq_true rfl) (Or.inr rfl) rfl ?_
  refine rn_iload_n (i := 2) rfl rfl ?_
  refine rn_iconst (x := (nI 2)) rfl (by decide) ?_
  refine rn_icmp_ge rfl rfl (fun hc => ?_) (fun hc => ?_)
  · exact u_219_38 d hd v0 v1 v2 v3 v4 v5 s0  h _ (if_t hb hc)
  · exact u_219_34 d hd v0 v1 v2 v3 v4 v5 s0  h _ (if_f hb hc)
def b_219_26 (v0 : Option Nat) (v1 : Int32) (v2 : Int32) (v3 : Int32) (v4 : Int32) (v5 : Int32)  (h : Hp) : Option (Hp) :=
  b_219_27 v0 v1 v2 v3 v4 v5 (-1 : Int32) h
theorem u_219_26 (d : Nat) (hd : 1 ≤ d) (v0 : Option Nat) (v1 : Int32) (v2 : Int32) (v3 : Int32) (v4 : Int32) (v5 : Int32)  (h : Hp) (r : Hp) (hb : b_219_26 v0 v1 v2 v3 v4 v5  h = some r) : Rn d 219 26 [some (va_rf v0), some (.int v1), some (.int v2), some (.int v3), some (.int v4), some (.int v5), none, none, none, none, none, none, none, none] [] h (none, r) := by
  unfold b_219_26 at hb
  refine rn_iconst (x := (-1 : Int32)) rfl (by decide) ?_
  exact u_219_27 d hd v0 v1 v2 v3 v4 v5 (-1 : Int32) h _ hb
def b_219_22 (v0 : Option Nat) (v1 : Int32) (v2 : Int32) (v3 : Int32) (v4 : Int32) (v5 : Int32)  (h : Hp) : Option (Hp) :=
  b_219_27 v0 v1 v2 v3 v4 v5 (nI 1) h
theorem u_219_22 (d : Nat) (hd : 1 ≤ d) (v0 : Option Nat) (v1 : Int32) (v2 : Int32) (v3 : Int32) (v4 : Int32) (v5 : Int32)  (h : Hp) (r : Hp) (hb : b_219_22 v0 v1 v2 v3 v4 v5  h = some r) : Rn d 219 22 [some (va_rf v0), some (.int v1), some (.int v2), some (.int v3), some (.int v4), some (.int v5), none, none, none, none, none, none, none, none] [] h (none, r) := by
  unfold b_219_22 at hb
  refine rn_iconst (x := (nI 1)) rfl (by decide) ?_
  refine rn_goto rfl rfl ?_
  exact u_219_27 d hd v0 v1 v2 v3 v4 v5 (nI 1) h _ hb
def b_219_0 (v0 : Option Nat) (v1 : Int32) (v2 : Int32) (v3 : Int32)  (h : Hp) : Option (Hp) :=
  (grd (rC 11 v0 h)).bind fun _ =>
  (f_205 v0 v1 (nI 3) h).bind fun p1 =>
  bnd (p1.1) fun x2 =>
  (grd (rC 11 v0 p1.2)).bind fun _ =>
  (f_205 v0 v1 (nI 2) p1.2).bind fun p3 =>
  bnd (p3.1) fun x4 =>
  (grd (decide (¬ ((nI 2) : Int32) = 0))).bind fun _ =>
  if ¬ (v2 - v2 / (nI 2) * (nI 2)) = 0 then b_219_26 v0 v1 v2 v3 x2 x4  p3.2 else b_219_22 v0 v1 v2 v3 x2 x4  p3.2
theorem u_219_0 (d : Nat) (hd : 1 ≤ d) (v0 : Option Nat) (v1 : Int32) (v2 : Int32) (v3 : Int32)  (h : Hp) (r : Hp) (hb : b_219_0 v0 v1 v2 v3  h = some r) : Rn d 219 0 [some (va_rf v0), some (.int v1), some (.int v2), some (.int v3), none, none, none, none, none, none, none, none, none, none] [] h (none, r) := by
  unfold b_219_0 at hb
  obtain ⟨e, rfl⟩ : ∃ e, d = e + 1 := ⟨d - 1, by omega⟩
  refine rn_aload_n (i := 0) rfl rfl ?_
  refine rn_iload_n (i := 1) rfl rfl ?_
  refine rn_iconst (x := (nI 3)) rfl (by decide) ?_
  obtain ⟨hrc, hb⟩ := grd_spec hb
  obtain ⟨p1, hc, hb⟩ := Option.bind_eq_some_iff.mp hb
  refine Rn.call1 (d := e) (As := [va_rf v0, .int v1, .int (nI 3)]) (rest := []) rfl rfl rfl (by decide) rfl rfl rfl (bd_rcV hrc rfl) (by decide) (bd_lenC (n := 3) rfl (bd_slR (bd_slI (bd_slI bd_slN))) rfl) (bd_locC (n := 3) rfl (bd_slR (bd_slI (bd_slI bd_slN))) rfl (t_205 e (by omega) v0 v1 (nI 3) h _ hc)) ?_
  obtain ⟨x2, ex2, hb⟩ := bnd_spec hb
  refine rn_istore (i := 4) (L1 := [some (va_rf v0), some (.int v1), some (.int v2), some (.int v3), some (.int x2), none, none, none, none, none, none, none, none, none]) rfl (Nat.le_of_ble_eq_true rfl) (Or.inr rfl) (by rw [ex2]; rfl) ?_
  refine rn_aload_n (i := 0) rfl rfl ?_
  refine rn_iload_n (i := 1) rfl rfl ?_
  refine rn_iconst (x := (nI 2)) rfl (by decide) ?_
  obtain ⟨hrc, hb⟩ := grd_spec hb
  obtain ⟨p3, hc, hb⟩ := Option.bind_eq_some_iff.mp hb
  refine Rn.call1 (d := e) (As := [va_rf v0, .int v1, .int (nI 2)]) (rest := []) rfl rfl rfl (by decide) rfl rfl rfl (bd_rcV hrc rfl) (by decide) (bd_lenC (n := 3) rfl (bd_slR (bd_slI (bd_slI bd_slN))) rfl) (bd_locC (n := 3) rfl (bd_slR (bd_slI (bd_slI bd_slN))) rfl (t_205 e (by omega) v0 v1 (nI 2) p1.2 _ hc)) ?_
  obtain ⟨x4, ex4, hb⟩ := bnd_spec hb
  refine rn_istore (i := 5) (L1 := [some (va_rf v0), some (.int v1), some (.int v2), some (.int v3), some (.int x2), some (.int x4), none, none, none, none, none, none, none, none]) rfl (Nat.le_of_ble_eq_true rfl) (Or.inr rfl) (by rw [ex4]; rfl) ?_
  refine rn_iload_n (i := 2) rfl rfl ?_
  refine rn_iconst (x := (nI 2)) rfl (by decide) ?_
  obtain ⟨hy, hb⟩ := grd_spec hb
  refine rn_irem rfl (of_decide_eq_true hy) ?_
  refine rn_if_ne rfl rfl (fun hc => ?_) (fun hc => ?_)
  · exact u_219_26 (e + 1) hd v0 v1 v2 v3 x2 x4  p3.2 _ (if_t hb hc)
  · exact u_219_22 (e + 1) hd v0 v1 v2 v3 x2 x4  p3.2 _ (if_f hb hc)
/-- BitingDoorsModel.layLeaf(III)V -/
def f_219 (v0 : Option Nat) (v1 : Int32) (v2 : Int32) (v3 : Int32) (h : Hp) : Option (Hp) := b_219_0 v0 v1 v2 v3 h
theorem t_219 (d : Nat) (hd : 1 ≤ d) (v0 : Option Nat) (v1 : Int32) (v2 : Int32) (v3 : Int32) (h : Hp) (r : Hp) (hb : f_219 v0 v1 v2 v3 h = some r) : Rn d 219 0 [some (va_rf v0), some (.int v1), some (.int v2), some (.int v3), none, none, none, none, none, none, none, none, none, none] [] h (none, r) := by
  unfold f_219 at hb
  exact u_219_0 d hd v0 v1 v2 v3 h r hb
def b_220_35   (h : Hp) : Option (Int32 × Hp) :=
  some ((-1 : Int32), h)
theorem u_220_35 (d : Nat) (hd : 2 ≤ d) (v0 : Option Nat) (v1 : Int32) (v2 : Int32) (v3 : Int32) (v4 : Int32)  (h : Hp) (r : Int32 × Hp) (hb : b_220_35   h = some r) : Rn d 220 35 [some (va_rf v0), some (.int v1), some (.int v2), some (.int v3), some (.int v4), none, none, none] [] h (some (.int r.1), r.2) := by
  unfold b_220_35 at hb
  refine rn_iconst (x := (-1 : Int32)) rfl (by decide) ?_
  obtain rfl := Option.some.inj hb
  exact rn_iret rfl rfl
def b_220_127   (h : Hp) : Option (Int32 × Hp) :=
  some ((-1 : Int32), h)
theorem u_220_127 (d : Nat) (hd : 2 ≤ d) (v0 : Option Nat) (v1 : Int32) (v2 : Int32) (v3 : Int32) (v4 : Int32) (v5 : Int32) (v6 : Int32) (v7 : Option (Int32))  (h : Hp) (r : Int32 × Hp) (hb : b_220_127   h = some r) : Rn d 220 127 [some (va_rf v0), some (.int v1), some (.int v2), some (.int v3), some (.int v4), some (.int v5), some (.int v6), v7.map Value.int] [] h (some (.int r.1), r.2) := by
  unfold b_220_127 at hb
  refine rn_iconst (x := (-1 : Int32)) rfl (by decide) ?_
  obtain rfl := Option.some.inj hb
  exact rn_iret rfl rfl
def b_220_121 (k50 : Option Nat → Int32 → Int32 → Int32 → Hp → Option (Int32 × Hp)) (v0 : Option Nat) (v4 : Int32) (v5 : Int32) (v6 : Int32)  (h : Hp) : Option (Int32 × Hp) :=
  bnd (v6 + (nI 1)) fun x1 =>
  k50 v0 v4 v5 x1 h
theorem u_220_121 (d : Nat) (hd : 2 ≤ d) (k50 : Option Nat → Int32 → Int32 → Int32 → Hp → Option (Int32 × Hp)) (K50 : ∀ (v0 : Option Nat) (v1 : Int32) (v2 : Int32) (v3 : Int32) (v4 : Int32) (v5 : Int32) (v6 : Int32) (v7 : Option (Int32)) (h : Hp) (r : Int32 × Hp), k50 v0 v4 v5 v6 h = some r → Rn d 220 50 [some (va_rf v0), some (.int v1), some (.int v2), some (.int v3), some (.int v4), some (.int v5), some (.int v6), v7.map Value.int] [] h (some (.int r.1), r.2)) (v0 : Option Nat) (v1 : Int32) (v2 : Int32) (v3 : Int32) (v4 : Int32) (v5 : Int32) (v6 : Int32) (v7 : Int32)  (h : Hp) (r : Int32 × Hp) (hb : b_220_121 k50 v0 v4 v5 v6  h = some r) : Rn d 220 121 [some (va_rf v0), some (.int v1), some (.int v2), some (.int v3), some (.int v4), some (.int v5), some (.int v6), some (.int v7)] [] h (some (.int r.1), r.2) := by
  unfold b_220_121 at hb
  obtain ⟨x1, ex1, hb⟩ := bnd_spec hb
  refine rn_iinc (i := 6) (y := x1) (L1 := [some (va_rf v0), some (.int v1), some (.int v2), some (.int v3), some (.int v4), some (.int v5), some (.int x1), some (.int v7)]) rfl rfl (Nat.le_of_ble_eq_true rfl) (Or.inr rfl) (by rw [ex1]; rfl) rfl ?_
  refine rn_goto rfl rfl ?_
  exact K50 v0 v1 v2 v3 v4 v5 x1 (some v7) h _ hb
def b_220_115 (k50 : Option Nat → Int32 → Int32 → Int32 → Hp → Option (Int32 × Hp)) (k60 : Option Nat → Int32 → Int32 → Int32 → Int32 → Hp → Option (Int32 × Hp)) (v0 : Option Nat) (v4 : Int32) (v5 : Int32) (v6 : Int32) (v7 : Int32)  (h : Hp) : Option (Int32 × Hp) :=
  bnd (v7 + (nI 1)) fun x1 =>
  k60 v0 v4 v5 v6 x1 h
theorem u_220_115 (d : Nat) (hd : 2 ≤ d) (k50 : Option Nat → Int32 → Int32 → Int32 → Hp → Option (Int32 × Hp)) (K50 : ∀ (v0 : Option Nat) (v1 : Int32) (v2 : Int32) (v3 : Int32) (v4 : Int32) (v5 : Int32) (v6 : Int32) (v7 : Option (Int32)) (h : Hp) (r : Int32 × Hp), k50 v0 v4 v5 v6 h = some r → Rn d 220 50 [some (va_rf v0), some (.int v1), some (.int v2), some (.int v3), some (.int v4), some (.int v5), some (.int v6), v7.map Value.int] [] h (some (.int r.1), r.2)) (k60 : Option Nat → Int32 → Int32 → Int32 → Int32 → Hp → Option (Int32 × Hp)) (K60 : ∀ (v0 : Option Nat) (v1 : Int32) (v2 : Int32) (v3 : Int32) (v4 : Int32) (v5 : Int32) (v6 : Int32) (v7 : Int32) (h : Hp) (r : Int32 × Hp), k60 v0 v4 v5 v6 v7 h = some r → Rn d 220 60 [some (va_rf v0), some (.int v1), some (.int v2), some (.int v3), some (.int v4), some (.int v5), some (.int v6), some (.int v7)] [] h (some (.int r.1), r.2)) (v0 : Option Nat) (v1 : Int32) (v2 : Int32) (v3 : Int32) (v4 : Int32) (v5 : Int32) (v6 : Int32) (v7 : Int32)  (h : Hp) (r : Int32 × Hp) (hb : b_220_115 k50 k60 v0 v4 v5 v6 v7  h = some r) : Rn d 220 115 [some (va_rf v0), some (.int v1), some (.int v2), some (.int v3), some (.int v4), some (.int v5), some (.int v6), some (.int v7)] [] h (some (.int r.1), r.2) := by
  unfold b_220_115 at hb
  obtain ⟨x1, ex1, hb⟩ := bnd_spec hb
  refine rn_iinc (i := 7) (y := x1) (L1 := [some (va_rf v0), some (.int v1), some (.int v2), some (.int v3), some (.int v4), some (.int v5), some (.int v6), some (.int x1)]) rfl rfl (Nat.le_of_ble_eq_true rfl) (Or.inr rfl) (by rw [ex1]; rfl) rfl ?_
  refine rn_goto rfl rfl ?_
  exact K60 v0 v1 v2 v3 v4 v5 v6 x1 h _ hb
def b_220_112 (k50 : Option Nat → Int32 → Int32 → Int32 → Hp → Option (Int32 × Hp)) (k60 : Option Nat → Int32 → Int32 → Int32 → Int32 → Hp → Option (Int32 × Hp)) (v0 : Option Nat) (v4 : Int32) (v5 : Int32) (v6 : Int32) (v7 : Int32)  (h : Hp) : Option (Int32 × Hp) :=
  bnd (v5 + (nI 1)) fun x1 =>
  b_220_115 k50 k60 v0 v4 x1 v6 v7  h
theorem u_220_112 (d : Nat) (hd : 2 ≤ d) (k50 : Option Nat → Int32 → Int32 → Int32 → Hp → Option (Int32 × Hp)) (K50 : ∀ (v0 : Option Nat) (v1 : Int32) (v2 : Int32) (v3 : Int32) (v4 : Int32) (v5 : Int32) (v6 : Int32) (v7 : Option (Int32)) (h : Hp) (r : Int32 × Hp), k50 v0 v4 v5 v6 h = some r → Rn d 220 50 [some (va_rf v0), some (.int v1), some (.int v2), some (.int v3), some (.int v4), some (.int v5), some (.int v6), v7.map Value.int] [] h (some (.int r.1), r.2)) (k60 : Option Nat → Int32 → Int32 → Int32 → Int32 → Hp → Option (Int32 × Hp)) (K60 : ∀ (v0 : Option Nat) (v1 : Int32) (v2 : Int32) (v3 : Int32) (v4 : Int32) (v5 : Int32) (v6 : Int32) (v7 : Int32) (h : Hp) (r : Int32 × Hp), k60 v0 v4 v5 v6 v7 h = some r → Rn d 220 60 [some (va_rf v0), some (.int v1), some (.int v2), some (.int v3), some (.int v4), some (.int v5), some (.int v6), some (.int v7)] [] h (some (.int r.1), r.2)) (v0 : Option Nat) (v1 : Int32) (v2 : Int32) (v3 : Int32) (v4 : Int32) (v5 : Int32) (v6 : Int32) (v7 : Int32)  (h : Hp) (r : Int32 × Hp) (hb : b_220_112 k50 k60 v0 v4 v5 v6 v7  h = some r) : Rn d 220 112 [some (va_rf v0), some (.int v1), some (.int v2), some (.int v3), some (.int v4), some (.int v5), some (.int v6), some (.int v7)] [] h (some (.int r.1), r.2) := by
  unfold b_220_112 at hb
  obtain ⟨x1, ex1, hb⟩ := bnd_spec hb
  refine rn_iinc (i := 5) (y := x1) (L1 := [some (va_rf v0), some (.int v1), some (.int v2), some (.int v3), some (.int v4), some (.int x1), some (.int v6), some (.int v7)]) rfl rfl (Nat.le_of_ble_eq_true rfl) (Or.inr rfl) (by rw [ex1]; rfl) rfl ?_
  exact u_220_115 d hd k50 K50 k60 K60 v0 v1 v2 v3 v4 x1 v6 v7  h _ hb
def b_220_109 (v6 : Int32)  (h : Hp) : Option (Int32 × Hp) :=
  some (v6, h)
theorem u_220_109 (d : Nat) (hd : 2 ≤ d) (v0 : Option Nat) (v1 : Int32) (v2 : Int32) (v3 : Int32) (v4 : Int32) (v5 : Int32) (v6 : Int32) (v7 : Int32)  (h : Hp) (r : Int32 × Hp) (hb : b_220_109 v6  h = some r) : Rn d 220 109 [some (va_rf v0), some (.int v1), some (.int v2), some (.int v3), some (.int v4), some (.int v5), some (.int v6), some (.int v7)] [] h (some (.int r.1), r.2) := by
  unfold b_220_109 at hb
  refine rn_iload (i := 6) rfl rfl ?_
  obtain rfl := Option.some.inj hb
  exact rn_iret rfl rfl
def b_220_102 (k50 : Option Nat → Int32 → Int32 → Int32 → Hp → Option (Int32 × Hp)) (k60 : Option Nat → Int32 → Int32 → Int32 → Int32 → Hp → Option (Int32 × Hp)) (v0 : Option Nat) (v4 : Int32) (v5 : Int32) (v6 : Int32) (v7 : Int32)  (h : Hp) : Option (Int32 × Hp) :=
  if ¬ v5 = v4 then b_220_112 k50 k60 v0 v4 v5 v6 v7  h else b_220_109 v6  h
theorem u_220_102 (d : Nat) (hd : 2 ≤ d) (k50 : Option Nat → Int32 → Int32 → Int32 → Hp → Option (Int32 × Hp)) (K50 : ∀ (v0 : Option Nat) (v1 : Int32) (v2 : Int32) (v3 : Int32) (v4 : Int32) (v5 : Int32) (v6 : Int32) (v7 : Option (Int32)) (h : Hp) (r : Int32 × Hp), k50 v0 v4 v5 v6 h = some r → Rn d 220 50 [some (va_rf v0), some (.int v1), some (.int v2), some (.int v3), some (.int v4), some (.int v5), some (.int v6), v7.map Value.int] [] h (some (.int r.1), r.2)) (k60 : Option Nat → Int32 → Int32 → Int32 → Int32 → Hp → Option (Int32 × Hp)) (K60 : ∀ (v0 : Option Nat) (v1 : Int32) (v2 : Int32) (v3 : Int32) (v4 : Int32) (v5 : Int32) (v6 : Int32) (v7 : Int32) (h : Hp) (r : Int32 × Hp), k60 v0 v4 v5 v6 v7 h = some r → Rn d 220 60 [some (va_rf v0), some (.int v1), some (.int v2), some (.int v3), some (.int v4), some (.int v5), some (.int v6), some (.int v7)] [] h (some (.int r.1), r.2)) (v0 : Option Nat) (v1 : Int32) (v2 : Int32) (v3 : Int32) (v4 : Int32) (v5 : Int32) (v6 : Int32) (v7 : Int32)  (h : Hp) (r : Int32 × Hp) (hb : b_220_102 k50 k60 v0 v4 v5 v6 v7  h = some r) : Rn d 220 102 [some (va_rf v0), some (.int v1), some (.int v2), some (.int v3), some (.int v4), some (.int v5), some (.int v6), some (.int v7)] [] h (some (.int r.1), r.2) := by
  unfold b_220_102 at hb
  refine rn_iload (i := 5) rfl rfl ?_
  refine rn_iload (i := 4) rfl rfl ?_
  refine rn_icmp_ne rfl rfl (fun hc => ?_) (fun hc => ?_)
  · exact u_220_112 d hd k50 K50 k60 K60 v0 v1 v2 v3 v4 v5 v6 v7  h _ (if_t hb hc)
  · exact u_220_109 d hd v0 v1 v2 v3 v4 v5 v6 v7  h _ (if_f hb hc)
def b_220_99 (k50 : Option Nat → Int32 → Int32 → Int32 → Hp → Option (Int32 × Hp)) (k60 : Option Nat → Int32 → Int32 → Int32 → Int32 → Hp → Option (Int32 × Hp)) (v0 : Option Nat) (v4 : Int32) (v5 : Int32) (v6 : Int32) (v7 : Int32)  (h : Hp) : Option (Int32 × Hp) :=
  b_220_115 k50 k60 v0 v4 v5 v6 v7  h
theorem u_220_99 (d : Nat) (hd : 2 ≤ d) (k50 : Option Nat → Int32 → Int32 → Int32 → Hp → Option (Int32 × Hp)) (K50 : ∀ (v0 : Option Nat) (v1 : Int32) (v2 : Int32) (v3 : Int32) (v4 : Int32) (v5 : Int32) (v6 : Int32) (v7 : Option (Int32)) (h : Hp) (r : Int32 × Hp), k50 v0 v4 v5 v6 h = some r → Rn d 220 50 [some (va_rf v0), some (.int v1), some (.int v2), some (.int v3), some (.int v4), some (.int v5), some (.int v6), v7.map Value.int] [] h (some (.int r.1), r.2)) (k60 : Option Nat → Int32 → Int32 → Int32 → Int32 → Hp → Option (Int32 × Hp)) (K60 : ∀ (v0 : Option Nat) (v1 : Int32) (v2 : Int32) (v3 : Int32) (v4 : Int32) (v5 : Int32) (v6 : Int32) (v7 : Int32) (h : Hp) (r : Int32 × Hp), k60 v0 v4 v5 v6 v7 h = some r → Rn d 220 60 [some (va_rf v0), some (.int v1), some (.int v2), some (.int v3), some (.int v4), some (.int v5), some (.int v6), some (.int v7)] [] h (some (.int r.1), r.2)) (v0 : Option Nat) (v1 : Int32) (v2 : Int32) (v3 : Int32) (v4 : Int32) (v5 : Int32) (v6 : Int32) (v7 : Int32)  (h : Hp) (r : Int32 × Hp) (hb : b_220_99 k50 k60 v0 v4 v5 v6 v7  h = some r) : Rn d 220 99 [some (va_rf v0), some (.int v1), some (.int v2), some (.int v3), some (.int v4), some (.int v5), some (.int v6), some (.int v7)] [] h (some (.int r.1), r.2) := by
  unfold b_220_99 at hb
  refine rn_goto rfl rfl ?_
  exact u_220_115 d hd k50 K50 k60 K60 v0 v1 v2 v3 v4 v5 v6 v7  h _ hb
def b_220_84 (k50 : Option Nat → Int32 → Int32 → Int32 → Hp → Option (Int32 × Hp)) (k60 : Option Nat → Int32 → Int32 → Int32 → Int32 → Hp → Option (Int32 × Hp)) (v0 : Option Nat) (v4 : Int32) (v5 : Int32) (v6 : Int32) (v7 : Int32)  (h : Hp) : Option (Int32 × Hp) :=
  (gQ 11 25 v0 h).bind fun x1 =>
  (aI 12 x1 v7 h).bind fun x2 =>
  (grd (decide (¬ ((nI 10) : Int32) = 0))).bind fun _ =>
  if x2 = (v6 / (nI 10)) then b_220_102 k50 k60 v0 v4 v5 v6 v7  h else b_220_99 k50 k60 v0 v4 v5 v6 v7  h
theorem u_220_84 (d : Nat) (hd : 2 ≤ d) (k50 : Option Nat → Int32 → Int32 → Int32 → Hp → Option (Int32 × Hp)) (K50 : ∀ (v0 : Option Nat) (v1 : Int32) (v2 : Int32) (v3 : Int32) (v4 : Int32) (v5 : Int32) (v6 : Int32) (v7 : Option (Int32)) (h : Hp) (r : Int32 × Hp), k50 v0 v4 v5 v6 h = some r → Rn d 220 50 [some (va_rf v0), some (.int v1), some (.int v2), some (.int v3), some (.int v4), some (.int v5), some (.int v6), v7.map Value.int] [] h (some (.int r.1), r.2)) (k60 : Option Nat → Int32 → Int32 → Int32 → Int32 → Hp → Option (Int32 × Hp)) (K60 : ∀ (v0 : Option Nat) (v1 : Int32) (v2 : Int32) (v3 : Int32) (v4 : Int32) (v5 : Int32) (v6 : Int32) (v7 : Int32) (h : Hp) (r : Int32 × Hp), k60 v0 v4 v5 v6 v7 h = some r → Rn d 220 60 [some (va_rf v0), some (.int v1), some (.int v2), some (.int v3), some (.int v4), some (.int v5), some (.int v6), some (.int v7)] [] h (some (.int r.1), r.2)) (v0 : Option Nat) (v1 : Int32) (v2 : Int32) (v3 : Int32) (v4 : Int32) (v5 : Int32) (v6 : Int32) (v7 : Int32)  (h : Hp) (r : Int32 × Hp) (hb : b_220_84 k50 k60 v0 v4 v5 v6 v7  h = some r) : Rn d 220 84 [some (va_rf v0), some (.int v1), some (.int v2), some (.int v3), some (.int v4), some (.int v5), some (.int v6), some (.int v7)] [] h (some (.int r.1), r.2) := by
  unfold b_220_84 at hb
  refine rn_aload_n (i := 0) rfl rfl ?_
  refine rn_gQ (c := 11) (k := 25) rfl (by decide) hb (fun x1 hb => ?_)
  refine rn_iload (i := 7) rfl rfl ?_
  refine rn_aI rfl hb (fun x2 hb => ?_)
  refine rn_iload (i := 6) rfl rfl ?_
  refine rn_bipush (x := (nI 10)) rfl (by decide) ?_
  obtain ⟨hy, hb⟩ := grd_spec hb
  refine rn_idiv rfl (of_decide_eq_true hy) ?_
  refine rn_icmp_eq rfl rfl (fun hc => ?_) (fun hc => ?_)
  · exact u_220_102 d hd k50 K50 k60 K60 v0 v1 v2 v3 v4 v5 v6 v7  h _ (if_t hb hc)
  · exact u_220_99 d hd k50 K50 k60 K60 v0 v1 v2 v3 v4 v5 v6 v7  h _ (if_f hb hc)
def b_220_69 (k50 : Option Nat → Int32 → Int32 → Int32 → Hp → Option (Int32 × Hp)) (k60 : Option Nat → Int32 → Int32 → Int32 → Int32 → Hp → Option (Int32 × Hp)) (v0 : Option Nat) (v4 : Int32) (v5 : Int32) (v6 : Int32) (v7 : Int32)  (h : Hp) : Option (Int32 × Hp) :=
  (gQ 11 24 v0 h).bind fun x1 =>
  (aI 12 x1 v7 h).bind fun x2 =>
  (grd (decide (¬ ((nI 10) : Int32) = 0))).bind fun _ =>
  if ¬ x2 = (v6 - v6 / (nI 10) * (nI 10)) then b_220_115 k50 k60 v0 v4 v5 v6 v7  h else b_220_84 k50 k60 v0 v4 v5 v6 v7  h
theorem u_220_69 (d : Nat) (hd : 2 ≤ d) (k50 : Option Nat → Int32 → Int32 → Int32 → Hp → Option (Int32 × Hp)) (K50 : ∀ (v0 : Option Nat) (v1 : Int32) (v2 : Int32) (v3 : Int32) (v4 : Int32) (v5 : Int32) (v6 : Int32) (v7 : Option (Int32)) (h : Hp) (r : Int32 × Hp), k50 v0 v4 v5 v6 h = some r → Rn d 220 50 [some (va_rf v0), some (.int v1), some (.int v2), some (.int v3), some (.int v4), some (.int v5), some (.int v6), v7.map Value.int] [] h (some (.int r.1), r.2)) (k60 : Option Nat → Int32 → Int32 → Int32 → Int32 → Hp → Option (Int32 × Hp)) (K60 : ∀ (v0 : Option Nat) (v1 : Int32) (v2 : Int32) (v3 : Int32) (v4 : Int32) (v5 : Int32) (v6 : Int32) (v7 : Int32) (h : Hp) (r : Int32 × Hp), k60 v0 v4 v5 v6 v7 h = some r → Rn d 220 60 [some (va_rf v0), some (.int v1), some (.int v2), some (.int v3), some (.int v4), some (.int v5), some (.int v6), some (.int v7)] [] h (some (.int r.1), r.2)) (v0 : Option Nat) (v1 : Int32) (v2 : Int32) (v3 : Int32) (v4 : Int32) (v5 : Int32) (v6 : Int32) (v7 : Int32)  (h : Hp) (r : Int32 × Hp) (hb : b_220_69 k50 k60 v0 v4 v5 v6 v7  h = some r) : Rn d 220 69 [some (va_rf v0), some (.int v1), some (.int v2), some (.int v3), some (.int v4), some (.int v5), some (.int v6), some (.int v7)] [] h (some (.int r.1), r.2) := by
  unfold b_220_69 at hb
  refine rn_aload_n (i := 0) rfl rfl ?_
  refine rn_gQ (c := 11) (k := 24) rfl (by decide) hb (fun x1 hb => ?_)
  refine rn_iload (i := 7) rfl rfl ?_
  refine rn_aI rfl hb (fun x2 hb => ?_)
  refine rn_iload (i := 6) rfl rfl ?_
  refine rn_bipush (x := (nI 10)) rfl (by decide) ?_
  obtain ⟨hy, hb⟩ := grd_spec hb
  refine rn_irem rfl (of_decide_eq_true hy) ?_
  refine rn_icmp_ne rfl rfl (fun hc => ?_) (fun hc => ?_)
  · exact u_220_115 d hd k50 K50 k60 K60 v0 v1 v2 v3 v4 v5 v6 v7  h _ (if_t hb hc)
  · exact u_220_84 d hd k50 K50 k60 K60 v0 v1 v2 v3 v4 v5 v6 v7  h _ (if_f hb hc)
def b_220_60 (k50 : Option Nat → Int32 → Int32 → Int32 → Hp → Option (Int32 × Hp)) (k60 : Option Nat → Int32 → Int32 → Int32 → Int32 → Hp → Option (Int32 × Hp)) (v0 : Option Nat) (v4 : Int32) (v5 : Int32) (v6 : Int32) (v7 : Int32)  (h : Hp) : Option (Int32 × Hp) :=
  (gI 11 26 v0 h).bind fun x1 =>
  if x1 ≤ v7 then b_220_121 k50 v0 v4 v5 v6  h else b_220_69 k50 k60 v0 v4 v5 v6 v7  h
theorem u_220_60 (d : Nat) (hd : 2 ≤ d) (k50 : Option Nat → Int32 → Int32 → Int32 → Hp → Option (Int32 × Hp)) (K50 : ∀ (v0 : Option Nat) (v1 : Int32) (v2 : Int32) (v3 : Int32) (v4 : Int32) (v5 : Int32) (v6 : Int32) (v7 : Option (Int32)) (h : Hp) (r : Int32 × Hp), k50 v0 v4 v5 v6 h = some r → Rn d 220 50 [some (va_rf v0), some (.int v1), some (.int v2), some (.int v3), some (.int v4), some (.int v5), some (.int v6), v7.map Value.int] [] h (some (.int r.1), r.2)) (k60 : Option Nat → Int32 → Int32 → Int32 → Int32 → Hp → Option (Int32 × Hp)) (K60 : ∀ (v0 : Option Nat) (v1 : Int32) (v2 : Int32) (v3 : Int32) (v4 : Int32) (v5 : Int32) (v6 : Int32) (v7 : Int32) (h : Hp) (r : Int32 × Hp), k60 v0 v4 v5 v6 v7 h = some r → Rn d 220 60 [some (va_rf v0), some (.int v1), some (.int v2), some (.int v3), some (.int v4), some (.int v5), some (.int v6), some (.int v7)] [] h (some (.int r.1), r.2)) (v0 : Option Nat) (v1 : Int32) (v2 : Int32) (v3 : Int32) (v4 : Int32) (v5 : Int32) (v6 : Int32) (v7 : Int32)  (h : Hp) (r : Int32 × Hp) (hb : b_220_60 k50 k60 v0 v4 v5 v6 v7  h = some r) : Rn d 220 60 [some (va_rf v0), some (.int v1), some (.int v2), some (.int v3), some (.int v4), some (.int v5), some (.int v6), some (.int v7)] [] h (some (.int r.1), r.2) := by
  unfold b_220_60 at hb
  refine rn_iload (i := 7) rfl rfl ?_
  refine rn_aload_n (i := 0) rfl rfl ?_
  refine rn_gI (c := 11) (k := 26) rfl (by decide) hb (fun x1 hb => ?_)
  refine rn_icmp_ge rfl rfl (fun hc => ?_) (fun hc => ?_)
  · exact u_220_121 d hd k50 K50 v0 v1 v2 v3 v4 v5 v6 v7  h _ (if_t hb hc)
  · exact u_220_69 d hd k50 K50 k60 K60 v0 v1 v2 v3 v4 v5 v6 v7  h _ (if_f hb hc)
def l_220_60 (k50 : Option Nat → Int32 → Int32 → Int32 → Hp → Option (Int32 × Hp)) : Nat → Option Nat → Int32 → Int32 → Int32 → Int32 → Hp → Option (Int32 × Hp)
  | 0, _, _, _, _, _, _ => none
  | n + 1, v0, v4, v5, v6, v7, h => b_220_60 k50 (l_220_60 k50 n) v0 v4 v5 v6 v7 h
theorem w_220_60 (d : Nat) (hd : 2 ≤ d) (k50 : Option Nat → Int32 → Int32 → Int32 → Hp → Option (Int32 × Hp)) (K50 : ∀ (v0 : Option Nat) (v1 : Int32) (v2 : Int32) (v3 : Int32) (v4 : Int32) (v5 : Int32) (v6 : Int32) (v7 : Option (Int32)) (h : Hp) (r : Int32 × Hp), k50 v0 v4 v5 v6 h = some r → Rn d 220 50 [some (va_rf v0), some (.int v1), some (.int v2), some (.int v3), some (.int v4), some (.int v5), some (.int v6), v7.map Value.int] [] h (some (.int r.1), r.2)) : ∀ (n : Nat) (v0 : Option Nat) (v1 : Int32) (v2 : Int32) (v3 : Int32) (v4 : Int32) (v5 : Int32) (v6 : Int32) (v7 : Int32) (h : Hp) (r : Int32 × Hp), l_220_60 k50 n v0 v4 v5 v6 v7 h = some r → Rn d 220 60 [some (va_rf v0), some (.int v1), some (.int v2), some (.int v3), some (.int v4), some (.int v5), some (.int v6), some (.int v7)] [] h (some (.int r.1), r.2) := by
  intro n
  induction n with
  | zero => intro v0 v1 v2 v3 v4 v5 v6 v7 h r hb; cases hb
  | succ n ih => intro v0 v1 v2 v3 v4 v5 v6 v7 h r hb; exact u_220_60 d hd k50 K50 (l_220_60 k50 n) ih v0 v1 v2 v3 v4 v5 v6 v7 h r hb
def b_220_57 (k50 : Option Nat → Int32 → Int32 → Int32 → Hp → Option (Int32 × Hp)) (v0 : Option Nat) (v4 : Int32) (v5 : Int32) (v6 : Int32)  (h : Hp) : Option (Int32 × Hp) :=
  bnd ((nI 0)) fun x1 =>
  l_220_60 k50 FU v0 v4 v5 v6 x1 h
theorem u_220_57 (d : Nat) (hd : 2 ≤ d) (k50 : Option Nat → Int32 → Int32 → Int32 → Hp → Option (Int32 × Hp)) (K50 : ∀ (v0 : Option Nat) (v1 : Int32) (v2 : Int32) (v3 : Int32) (v4 : Int32) (v5 : Int32) (v6 : Int32) (v7 : Option (Int32)) (h : Hp) (r : Int32 × Hp), k50 v0 v4 v5 v6 h = some r → Rn d 220 50 [some (va_rf v0), some (.int v1), some (.int v2), some (.int v3), some (.int v4), some (.int v5), some (.int v6), v7.map Value.int] [] h (some (.int r.1), r.2)) (v0 : Option Nat) (v1 : Int32) (v2 : Int32) (v3 : Int32) (v4 : Int32) (v5 : Int32) (v6 : Int32) (v7 : Option (Int32))  (h : Hp) (r : Int32 × Hp) (hb : b_220_57 k50 v0 v4 v5 v6  h = some r) : Rn d 220 57 [some (va_rf v0), some (.int v1), some (.int v2), some (.int v3), some (.int v4), some (.int v5), some (.int v6), v7.map Value.int] [] h (some (.int r.1), r.2) := by
  unfold b_220_57 at hb
  refine rn_iconst (x := (nI 0)) rfl (by decide) ?_
  obtain ⟨x1, ex1, hb⟩ := bnd_spec hb
  refine rn_istore (i := 7) (L1 := [some (va_rf v0), some (.int v1), some (.int v2), some (.int v3), some (.int v4), some (.int v5), some (.int v6), some (.int x1)]) rfl (Nat.le_of_ble_eq_true rfl) (Or.inr rfl) (by rw [ex1]; rfl) ?_
  exact w_220_60 d hd k50 K50 FU v0 v1 v2 v3 v4 v5 v6 x1 h _ hb
def b_220_50 (k50 : Option Nat → Int32 → Int32 → Int32 → Hp → Option (Int32 × Hp)) (v0 : Option Nat) (v4 : Int32) (v5 : Int32) (v6 : Int32)  (h : Hp) : Option (Int32 × Hp) :=
  if (nI 100) ≤ v6 then b_220_127   h else b_220_57 k50 v0 v4 v5 v6  h
theorem u_220_50 (d : Nat) (hd : 2 ≤ d) (k50 : Option Nat → Int32 → Int32 → Int32 → Hp → Option (Int32 × Hp)) (K50 : ∀ (v0 : Option Nat) (v1 : Int32) (v2 : Int32) (v3 : Int32) (v4 : Int32) (v5 : Int32) (v6 : Int32) (v7 : Option (Int32)) (h : Hp) (r : Int32 × Hp), k50 v0 v4 v5 v6 h = some r → Rn d 220 50 [some (va_rf v0), some (.int v1), some (.int v2), some (.int v3), some (.int v4), some (.int v5), some (.int v6), v7.map Value.int] [] h (some (.int r.1), r.2)) (v0 : Option Nat) (v1 : Int32) (v2 : Int32) (v3 : Int32) (v4 : Int32) (v5 : Int32) (v6 : Int32) (v7 : Option (Int32))  (h : Hp) (r : Int32 × Hp) (hb : b_220_50 k50 v0 v4 v5 v6  h = some r) : Rn d 220 50 [some (va_rf v0), some (.int v1), some (.int v2), some (.int v3), some (.int v4), some (.int v5), some (.int v6), v7.map Value.int] [] h (some (.int r.1), r.2) := by
  unfold b_220_50 at hb
  refine rn_iload (i := 6) rfl rfl ?_
  refine rn_bipush (x := (nI 100)) rfl (by decide) ?_
  refine rn_icmp_ge rfl rfl (fun hc => ?_) (fun hc => ?_)
  · exact u_220_127 d hd v0 v1 v2 v3 v4 v5 v6 v7  h _ (if_t hb hc)
  · exact u_220_57 d hd k50 K50 v0 v1 v2 v3 v4 v5 v6 v7  h _ (if_f hb hc)
def l_220_50 : Nat → Option Nat → Int32 → Int32 → Int32 → Hp → Option (Int32 × Hp)
  | 0, _, _, _, _, _ => none
  | n + 1, v0, v4, v5, v6, h => b_220_50 (l_220_50 n) v0 v4 v5 v6 h
theorem w_220_50 (d : Nat) (hd : 2 ≤ d) : ∀ (n : Nat) (v0 : Option Nat) (v1 : Int32) (v2 : Int32) (v3 : Int32) (v4 : Int32) (v5 : Int32) (v6 : Int32) (v7 : Option (Int32)) (h : Hp) (r : Int32 × Hp), l_220_50 n v0 v4 v5 v6 h = some r → Rn d 220 50 [some (va_rf v0), some (.int v1), some (.int v2), some (.int v3), some (.int v4), some (.int v5), some (.int v6), v7.map Value.int] [] h (some (.int r.1), r.2) := by
  intro n
  induction n with
  | zero => intro v0 v1 v2 v3 v4 v5 v6 v7 h r hb; cases hb
  | succ n ih => intro v0 v1 v2 v3 v4 v5 v6 v7 h r hb; exact u_220_50 d hd (l_220_50 n) ih v0 v1 v2 v3 v4 v5 v6 v7 h r hb
def b_220_37 (v0 : Option Nat) (v1 : Int32) (v2 : Int32) (v3 : Int32) (v4 : Int32)  (h : Hp) : Option (Int32 × Hp) :=
  (grd (rC 11 v0 h)).bind fun _ =>
  (f_219 v0 v1 v2 v3 h).bind fun p1 =>
  bnd ((nI 0)) fun x2 =>
  bnd ((nI 0)) fun x3 =>
  l_220_50 FU v0 v4 x2 x3 p1
theorem u_220_37 (d : Nat) (hd : 2 ≤ d) (v0 : Option Nat) (v1 : Int32) (v2 : Int32) (v3 : Int32) (v4 : Int32)  (h : Hp) (r : Int32 × Hp) (hb : b_220_37 v0 v1 v2 v3 v4  h = some r) : Rn d 220 37 [some (va_rf v0), some (.int v1), some (.int v2), some (.int v3), some (.int v4), none, none, none] [] h (some (.int r.1), r.2) := by
  unfold b_220_37 at hb
  obtain ⟨e, rfl⟩ : ∃ e, d = e + 1 := ⟨d - 1, by omega⟩
  refine rn_aload_n (i := 0) rfl rfl ?_
  refine rn_iload_n (i := 1) rfl rfl ?_
  refine rn_iload_n (i := 2) rfl rfl ?_
  refine rn_iload_n (i := 3) rfl rfl ?_
  obtain ⟨hrc, hb⟩ := grd_spec hb
  obtain ⟨p1, hc, hb⟩ := Option.bind_eq_some_iff.mp hb
  refine Rn.call0 (d := e) (As := [va_rf v0, .int v1, .int v2, .int v3]) (rest := []) rfl rfl rfl (by decide) rfl rfl rfl (bd_rcV hrc rfl) (by decide) (bd_lenC (n := 14) rfl (bd_slR (bd_slI (bd_slI (bd_slI bd_slN)))) rfl) (bd_locC (n := 14) rfl (bd_slR (bd_slI (bd_slI (bd_slI bd_slN)))) rfl (t_219 e (by omega) v0 v1 v2 v3 h _ hc)) ?_
  refine rn_iconst (x := (nI 0)) rfl (by decide) ?_
  obtain ⟨x2, ex2, hb⟩ := bnd_spec hb
  refine rn_istore (i := 5) (L1 := [some (va_rf v0), some (.int v1), some (.int v2), some (.int v3), some (.int v4), some (.int x2), none, none]) rfl (Nat.le_of_ble_eq_true rfl) (Or.inr rfl) (by rw [ex2]; rfl) ?_
  refine rn_iconst (x := (nI 0)) rfl (by decide) ?_
  obtain ⟨x3, ex3, hb⟩ := bnd_spec hb
  refine rn_istore (i := 6) (L1 := [some (va_rf v0), some (.int v1), some (.int v2), some (.int v3), some (.int v4), some (.int x2), some (.int x3), none]) rfl (Nat.le_of_ble_eq_true rfl) (Or.inr rfl) (by rw [ex3]; rfl) ?_
  exact w_220_50 (e + 1) hd FU v0 v1 v2 v3 v4 x2 x3 (none : Option (Int32)) p1 _ hb
def b_220_26 (v0 : Option Nat) (v1 : Int32) (v2 : Int32) (v3 : Int32) (v4 : Int32)  (h : Hp) : Option (Int32 × Hp) :=
  (f_182 v3 (nI 0) (nI 2) h).bind fun p1 =>
  if ¬ p1.1 = 0 then b_220_37 v0 v1 v2 v3 v4  p1.2 else b_220_35   p1.2
theorem u_220_26 (d : Nat) (hd : 2 ≤ d) (v0 : Option Nat) (v1 : Int32) (v2 : Int32) (v3 : Int32) (v4 : Int32)  (h : Hp) (r : Int32 × Hp) (hb : b_220_26 v0 v1 v2 v3 v4  h = some r) : Rn d 220 26 [some (va_rf v0), some (.int v1), some (.int v2), some (.int v3), some (.int v4), none, none, none] [] h (some (.int r.1), r.2) := by
  unfold b_220_26 at hb
  obtain ⟨e, rfl⟩ : ∃ e, d = e + 1 := ⟨d - 1, by omega⟩
  refine rn_iload_n (i := 3) rfl rfl ?_
  refine rn_iconst (x := (nI 0)) rfl (by decide) ?_
  refine rn_iconst (x := (nI 2)) rfl (by decide) ?_
  obtain ⟨p1, hc, hb⟩ := Option.bind_eq_some_iff.mp hb
  refine Rn.call1 (d := e) (As := [.int v3, .int (nI 0), .int (nI 2)]) (rest := []) rfl rfl rfl (by decide) rfl rfl rfl rfl (by decide) (bd_lenC (n := 3) rfl (bd_slI (bd_slI (bd_slI bd_slN))) rfl) (bd_locC (n := 3) rfl (bd_slI (bd_slI (bd_slI bd_slN))) rfl (t_182 e (by omega) v3 (nI 0) (nI 2) h _ hc)) ?_
  refine rn_if_ne rfl rfl (fun hc => ?_) (fun hc => ?_)
  · exact u_220_37 (e + 1) hd v0 v1 v2 v3 v4  p1.2 _ (if_t hb hc)
  · exact u_220_35 (e + 1) hd v0 v1 v2 v3 v4  p1.2 _ (if_f hb hc)
def b_220_17 (v0 : Option Nat) (v1 : Int32) (v2 : Int32) (v3 : Int32) (v4 : Int32)  (h : Hp) : Option (Int32 × Hp) :=
  (f_182 v2 (nI 0) (nI 3) h).bind fun p1 =>
  if p1.1 = 0 then b_220_35   p1.2 else b_220_26 v0 v1 v2 v3 v4  p1.2
theorem u_220_17 (d : Nat) (hd : 2 ≤ d) (v0 : Option Nat) (v1 : Int32) (v2 : Int32) (v3 : Int32) (v4 : Int32)  (h : Hp) (r : Int32 × Hp) (hb : b_220_17 v0 v1 v2 v3 v4  h = some r) : Rn d 220 17 [some (va_rf v0), some (.int v1), some (.int v2), some (.int v3), some (.int v4), none, none, none] [] h (some (.int r.1), r.2) := by
  unfold b_220_17 at hb
  obtain ⟨e, rfl⟩ : ∃ e, d = e + 1 := ⟨d - 1, by omega⟩
  refine rn_iload_n (i := 2) rfl rfl ?_
  refine rn_iconst (x := (nI 0)) rfl (by decide) ?_
  refine rn_iconst (x := (nI 3)) rfl (by decide) ?_
  obtain ⟨p1, hc, hb⟩ := Option.bind_eq_some_iff.mp hb
  refine Rn.call1 (d := e) (As := [.int v2, .int (nI 0), .int (nI 3)]) (rest := []) rfl rfl rfl (by decide) rfl rfl rfl rfl (by decide) (bd_lenC (n := 3) rfl (bd_slI (bd_slI (bd_slI bd_slN))) rfl) (bd_locC (n := 3) rfl (bd_slI (bd_slI (bd_slI bd_slN))) rfl (t_182 e (by omega) v2 (nI 0) (nI 3) h _ hc)) ?_
  refine rn_if_eq rfl rfl (fun hc => ?_) (fun hc => ?_)
  · exact u_220_35 (e + 1) hd v0 v1 v2 v3 v4  p1.2 _ (if_t hb hc)
  · exact u_220_26 (e + 1) hd v0 v1 v2 v3 v4  p1.2 _ (if_f hb hc)
def b_220_0 (v0 : Option Nat) (v1 : Int32) (v2 : Int32) (v3 : Int32) (v4 : Int32)  (h : Hp) : Option (Int32 × Hp) :=
  (pI 11 0 v0 (nI 0) h).bind fun h1 =>
  (grd (rC 11 v0 h1)).bind fun _ =>
  (f_202 v0 h1).bind fun p2 =>
  (grd (rC 11 v0 p2)).bind fun _ =>
  (f_204 v0 v1 p2).bind fun p3 =>
  if p3.1 = 0 then b_220_35   p3.2 else b_220_17 v0 v1 v2 v3 v4  p3.2
theorem u_220_0 (d : Nat) (hd : 2 ≤ d) (v0 : Option Nat) (v1 : Int32) (v2 : Int32) (v3 : Int32) (v4 : Int32)  (h : Hp) (r : Int32 × Hp) (hb : b_220_0 v0 v1 v2 v3 v4  h = some r) : Rn d 220 0 [some (va_rf v0), some (.int v1), some (.int v2), some (.int v3), some (.int v4), none, none, none] [] h (some (.int r.1), r.2) := by
  unfold b_220_0 at hb
  obtain ⟨e, rfl⟩ : ∃ e, d = e + 1 := ⟨d - 1, by omega⟩
  refine rn_aload_n (i := 0) rfl rfl ?_
  refine rn_iconst (x := (nI 0)) rfl (by decide) ?_
  refine rn_pI (c := 11) (k := 0) rfl (by decide) hb (fun h1 hb => ?_)
  refine rn_aload_n (i := 0) rfl rfl ?_
  obtain ⟨hrc, hb⟩ := grd_spec hb
  obtain ⟨p2, hc, hb⟩ := Option.bind_eq_some_iff.mp hb
  refine Rn.call0 (d := e) (As := [va_rf v0]) (rest := []) rfl rfl rfl (by decide) rfl rfl rfl (bd_rcV hrc rfl) (by decide) (bd_lenC (n := 1) rfl (bd_slR bd_slN) rfl) (bd_locC (n := 1) rfl (bd_slR bd_slN) rfl (t_202 e (by omega) v0 h1 _ hc)) ?_
  refine rn_aload_n (i := 0) rfl rfl ?_
  refine rn_iload_n (i := 1) rfl rfl ?_
  obtain ⟨hrc, hb⟩ := grd_spec hb
  obtain ⟨p3, hc, hb⟩ := Option.bind_eq_some_iff.mp hb
  refine Rn.call1 (d := e) (As := [va_rf v0, .int v1]) (rest := []) rfl rfl rfl (by decide) rfl rfl rfl (bd_rcV hrc rfl) (by decide) (bd_lenC (n := 2) rfl (bd_slR (bd_slI bd_slN)) rfl) (bd_locC (n := 2) rfl (bd_slR (bd_slI bd_slN)) rfl (t_204 e (by omega) v0 v1 p2 _ hc)) ?_
  refine rn_if_eq rfl rfl (fun hc => ?_) (fun hc => ?_)
  · exact u_220_35 (e + 1) hd v0 v1 v2 v3 v4  p3.2 _ (if_t hb hc)
  · exact u_220_17 (e + 1) hd v0 v1 v2 v3 v4  p3.2 _ (if_f hb hc)
/-- BitingDoorsModel.leaf(IIII)I -/
def f_220 (v0 : Option Nat) (v1 : Int32) (v2 : Int32) (v3 : Int32) (v4 : Int32) (h : Hp) : Option (Int32 × Hp) := b_220_0 v0 v1 v2 v3 v4 h
theorem t_220 (d : Nat) (hd : 2 ≤ d) (v0 : Option Nat) (v1 : Int32) (v2 : Int32) (v3 : Int32) (v4 : Int32) (h : Hp) (r : Int32 × Hp) (hb : f_220 v0 v1 v2 v3 v4 h = some r) : Rn d 220 0 [some (va_rf v0), some (.int v1), some (.int v2), some (.int v3), some (.int v4), none, none, none] [] h (some (.int r.1), r.2) := by
  unfold f_220 at hb
  exact u_220_0 d hd v0 v1 v2 v3 v4 h r hb
def b_221_83   (h : Hp) : Option (Int32 × Hp) :=
  (grd (decide ((nI 1) = 0 ∨ (nI 1) = 1))).bind fun _ => some ((nI 1), h)
theorem u_221_83 (d : Nat) (hd : 2 ≤ d) (v0 : Option Nat) (v1 : Int32) (v2 : Int32) (v3 : Int32) (v4 : Int32)  (h : Hp) (r : Int32 × Hp) (hb : b_221_83   h = some r) : Rn d 221 83 [some (va_rf v0), some (.int v1), some (.int v2), some (.int v3), some (.int v4)] [] h (some (.int r.1), r.2) := by
  unfold b_221_83 at hb
  refine rn_iconst (x := (nI 1)) rfl (by decide) ?_
  obtain ⟨hz, hb⟩ := grd_spec hb
  obtain rfl := Option.some.inj hb
  exact rn_zret rfl rfl (of_decide_eq_true hz)
def b_221_75   (h : Hp) : Option (Int32 × Hp) :=
  (grd (decide ((nI 0) = 0 ∨ (nI 0) = 1))).bind fun _ => some ((nI 0), h)
theorem u_221_75 (d : Nat) (hd : 2 ≤ d) (v0 : Option Nat) (v1 : Int32) (v2 : Int32) (v3 : Int32) (v4 : Int32)  (h : Hp) (r : Int32 × Hp) (hb : b_221_75   h = some r) : Rn d 221 75 [some (va_rf v0), some (.int v1), some (.int v2), some (.int v3), some (.int v4)] [] h (some (.int r.1), r.2) := by
  unfold b_221_75 at hb
  refine rn_iconst (x := (nI 0)) rfl (by decide) ?_
  obtain ⟨hz, hb⟩ := grd_spec hb
  obtain rfl := Option.some.inj hb
  exact rn_zret rfl rfl (of_decide_eq_true hz)
def b_221_77 (k16 : Option Nat → Int32 → Hp → Option (Int32 × Hp)) (v0 : Option Nat) (v4 : Int32)  (h : Hp) : Option (Int32 × Hp) :=
  bnd (v4 + (nI 1)) fun x1 =>
  k16 v0 x1 h
theorem u_221_77 (d : Nat) (hd : 2 ≤ d) (k16 : Option Nat → Int32 → Hp → Option (Int32 × Hp)) (K16 : ∀ (v0 : Option Nat) (v1 : Int32) (v2 : Int32) (v3 : Int32) (v4 : Int32) (h : Hp) (r : Int32 × Hp), k16 v0 v4 h = some r → Rn d 221 16 [some (va_rf v0), some (.int v1), some (.int v2), some (.int v3), some (.int v4)] [] h (some (.int r.1), r.2)) (v0 : Option Nat) (v1 : Int32) (v2 : Int32) (v3 : Int32) (v4 : Int32)  (h : Hp) (r : Int32 × Hp) (hb : b_221_77 k16 v0 v4  h = some r) : Rn d 221 77 [some (va_rf v0), some (.int v1), some (.int v2), some (.int v3), some (.int v4)] [] h (some (.int r.1), r.2) := by
  unfold b_221_77 at hb
  obtain ⟨x1, ex1, hb⟩ := bnd_spec hb
  refine rn_iinc (i := 4) (y := x1) (L1 := [some (va_rf v0), some (.int v1), some (.int v2), some (.int v3), some (.int x1)]) rfl rfl (Nat.le_of_ble_eq_true rfl) (Or.inr rfl) (by rw [ex1]; rfl) rfl ?_
  refine rn_goto rfl rfl ?_
  exact K16 v0 v1 v2 v3 x1 h _ hb
def b_221_46 (k16 : Option Nat → Int32 → Hp → Option (Int32 × Hp)) (v0 : Option Nat) (v4 : Int32)  (h : Hp) : Option (Int32 × Hp) :=
  (gQ 11 14 v0 h).bind fun x1 =>
  (gQ 11 25 v0 h).bind fun x2 =>
  (aI 12 x2 v4 h).bind fun x3 =>
  (gQ 11 24 v0 h).bind fun x4 =>
  (aI 12 x4 v4 h).bind fun x5 =>
  (aI 12 x1 (((nI 10) + ((nI 10) * x3)) + x5) h).bind fun x6 =>
  if x6 = 0 then b_221_77 k16 v0 v4  h else b_221_75   h
theorem u_221_46 (d : Nat) (hd : 2 ≤ d) (k16 : Option Nat → Int32 → Hp → Option (Int32 × Hp)) (K16 : ∀ (v0 : Option Nat) (v1 : Int32) (v2 : Int32) (v3 : Int32) (v4 : Int32) (h : Hp) (r : Int32 × Hp), k16 v0 v4 h = some r → Rn d 221 16 [some (va_rf v0), some (.int v1), some (.int v2), some (.int v3), some (.int v4)] [] h (some (.int r.1), r.2)) (v0 : Option Nat) (v1 : Int32) (v2 : Int32) (v3 : Int32) (v4 : Int32)  (h : Hp) (r : Int32 × Hp) (hb : b_221_46 k16 v0 v4  h = some r) : Rn d 221 46 [some (va_rf v0), some (.int v1), some (.int v2), some (.int v3), some (.int v4)] [] h (some (.int r.1), r.2) := by
  unfold b_221_46 at hb
  refine rn_aload_n (i := 0) rfl rfl ?_
  refine rn_gQ (c := 11) (k := 14) rfl (by decide) hb (fun x1 hb => ?_)
  refine rn_bipush (x := (nI 10)) rfl (by decide) ?_
  refine rn_bipush (x := (nI 10)) rfl (by decide) ?_
  refine rn_aload_n (i := 0) rfl rfl ?_
  refine rn_gQ (c := 11) (k := 25) rfl (by decide) hb (fun x2 hb => ?_)
  refine rn_iload (i := 4) rfl rfl ?_
  refine rn_aI rfl hb (fun x3 hb => ?_)
  refine rn_imul rfl ?_
  refine rn_iadd rfl ?_
  refine rn_aload_n (i := 0) rfl rfl ?_
  refine rn_gQ (c := 11) (k := 24) rfl (by decide) hb (fun x4 hb => ?_)
  refine rn_iload (i := 4) rfl rfl ?_
  refine rn_aI rfl hb (fun x5 hb => ?_)
  refine rn_iadd rfl ?_
  refine rn_aI rfl hb (fun x6 hb => ?_)
  refine rn_if_eq rfl rfl (fun hc => ?_) (fun hc => ?_)
  · exact u_221_77 d hd k16 K16 v0 v1 v2 v3 v4  h _ (if_t hb hc)
  · exact u_221_75 d hd v0 v1 v2 v3 v4  h _ (if_f hb hc)
def b_221_25 (k16 : Option Nat → Int32 → Hp → Option (Int32 × Hp)) (v0 : Option Nat) (v4 : Int32)  (h : Hp) : Option (Int32 × Hp) :=
  (gQ 11 24 v0 h).bind fun x1 =>
  (aI 12 x1 v4 h).bind fun x2 =>
  (gQ 11 25 v0 h).bind fun x3 =>
  (aI 12 x3 v4 h).bind fun x4 =>
  (grd (rC 11 v0 h)).bind fun _ =>
  (f_206 v0 x2 x4 h).bind fun p5 =>
  if p5.1 = 0 then b_221_75   p5.2 else b_221_46 k16 v0 v4  p5.2
theorem u_221_25 (d : Nat) (hd : 2 ≤ d) (k16 : Option Nat → Int32 → Hp → Option (Int32 × Hp)) (K16 : ∀ (v0 : Option Nat) (v1 : Int32) (v2 : Int32) (v3 : Int32) (v4 : Int32) (h : Hp) (r : Int32 × Hp), k16 v0 v4 h = some r → Rn d 221 16 [some (va_rf v0), some (.int v1), some (.int v2), some (.int v3), some (.int v4)] [] h (some (.int r.1), r.2)) (v0 : Option Nat) (v1 : Int32) (v2 : Int32) (v3 : Int32) (v4 : Int32)  (h : Hp) (r : Int32 × Hp) (hb : b_221_25 k16 v0 v4  h = some r) : Rn d 221 25 [some (va_rf v0), some (.int v1), some (.int v2), some (.int v3), some (.int v4)] [] h (some (.int r.1), r.2) := by
  unfold b_221_25 at hb
  obtain ⟨e, rfl⟩ : ∃ e, d = e + 1 := ⟨d - 1, by omega⟩
  refine rn_aload_n (i := 0) rfl rfl ?_
  refine rn_aload_n (i := 0) rfl rfl ?_
  refine rn_gQ (c := 11) (k := 24) rfl (by decide) hb (fun x1 hb => ?_)
  refine rn_iload (i := 4) rfl rfl ?_
  refine rn_aI rfl hb (fun x2 hb => ?_)
  refine rn_aload_n (i := 0) rfl rfl ?_
  refine rn_gQ (c := 11) (k := 25) rfl (by decide) hb (fun x3 hb => ?_)
  refine rn_iload (i := 4) rfl rfl ?_
  refine rn_aI rfl hb (fun x4 hb => ?_)
  obtain ⟨hrc, hb⟩ := grd_spec hb
  obtain ⟨p5, hc, hb⟩ := Option.bind_eq_some_iff.mp hb
  refine Rn.call1 (d := e) (As := [va_rf v0, .int x2, .int x4]) (rest := []) rfl rfl rfl (by decide) rfl rfl rfl (bd_rcV hrc rfl) (by decide) (bd_lenC (n := 3) rfl (bd_slR (bd_slI (bd_slI bd_slN))) rfl) (bd_locC (n := 3) rfl (bd_slR (bd_slI (bd_slI bd_slN))) rfl (t_206 e (by omega) v0 x2 x4 h _ hc)) ?_
  refine rn_if_eq rfl rfl (fun hc => ?_) (fun hc => ?_)
  · exact u_221_75 (e + 1) hd v0 v1 v2 v3 v4  p5.2 _ (if_t hb hc)
  · exact u_221_46 (e + 1) hd k16 K16 v0 v1 v2 v3 v4  p5.2 _ (if_f hb hc)
def b_221_16 (k16 : Option Nat → Int32 → Hp → Option (Int32 × Hp)) (v0 : Option Nat) (v4 : Int32)  (h : Hp) : Option (Int32 × Hp) :=
  (gI 11 26 v0 h).bind fun x1 =>
  if x1 ≤ v4 then b_221_83   h else b_221_25 k16 v0 v4  h
theorem u_221_16 (d : Nat) (hd : 2 ≤ d) (k16 : Option Nat → Int32 → Hp → Option (Int32 × Hp)) (K16 : ∀ (v0 : Option Nat) (v1 : Int32) (v2 : Int32) (v3 : Int32) (v4 : Int32) (h : Hp) (r : Int32 × Hp), k16 v0 v4 h = some r → Rn d 221 16 [some (va_rf v0), some (.int v1), some (.int v2), some (.int v3), some (.int v4)] [] h (some (.int r.1), r.2)) (v0 : Option Nat) (v1 : Int32) (v2 : Int32) (v3 : Int32) (v4 : Int32)  (h : Hp) (r : Int32 × Hp) (hb : b_221_16 k16 v0 v4  h = some r) : Rn d 221 16 [some (va_rf v0), some (.int v1), some (.int v2), some (.int v3), some (.int v4)] [] h (some (.int r.1), r.2) := by
  unfold b_221_16 at hb
  refine rn_iload (i := 4) rfl rfl ?_
  refine rn_aload_n (i := 0) rfl rfl ?_
  refine rn_gI (c := 11) (k := 26) rfl (by decide) hb (fun x1 hb => ?_)
  refine rn_icmp_ge rfl rfl (fun hc => ?_) (fun hc => ?_)
  · exact u_221_83 d hd v0 v1 v2 v3 v4  h _ (if_t hb hc)
  · exact u_221_25 d hd k16 K16 v0 v1 v2 v3 v4  h _ (if_f hb hc)
def l_221_16 : Nat → Option Nat → Int32 → Hp → Option (Int32 × Hp)
  | 0, _, _, _ => none
  | n + 1, v0, v4, h => b_221_16 (l_221_16 n) v0 v4 h
theorem w_221_16 (d : Nat) (hd : 2 ≤ d) : ∀ (n : Nat) (v0 : Option Nat) (v1 : Int32) (v2 : Int32) (v3 : Int32) (v4 : Int32) (h : Hp) (r : Int32 × Hp), l_221_16 n v0 v4 h = some r → Rn d 221 16 [some (va_rf v0), some (.int v1), some (.int v2), some (.int v3), some (.int v4)] [] h (some (.int r.1), r.2) := by
  intro n
  induction n with
  | zero => intro v0 v1 v2 v3 v4 h r hb; cases hb
  | succ n ih => intro v0 v1 v2 v3 v4 h r hb; exact u_221_16 d hd (l_221_16 n) ih v0 v1 v2 v3 v4 h r hb
def b_221_6 (v0 : Option Nat) (v1 : Int32) (v2 : Int32) (v3 : Int32)  (h : Hp) : Option (Int32 × Hp) :=
  (grd (rC 11 v0 h)).bind fun _ =>
  (f_219 v0 v1 v2 v3 h).bind fun p1 =>
  bnd ((nI 0)) fun x2 =>
  l_221_16 FU v0 x2 p1
theorem u_221_6 (d : Nat) (hd : 2 ≤ d) (v0 : Option Nat) (v1 : Int32) (v2 : Int32) (v3 : Int32)  (h : Hp) (r : Int32 × Hp) (hb : b_221_6 v0 v1 v2 v3  h = some r) : Rn d 221 6 [some (va_rf v0), some (.int v1), some (.int v2), some (.int v3), none] [] h (some (.int r.1), r.2) := by
  unfold b_221_6 at hb
  obtain ⟨e, rfl⟩ : ∃ e, d = e + 1 := ⟨d - 1, by omega⟩
  refine rn_aload_n (i := 0) rfl rfl ?_
  refine rn_iload_n (i := 1) rfl rfl ?_
  refine rn_iload_n (i := 2) rfl rfl ?_
  refine rn_iload_n (i := 3) rfl rfl ?_
  obtain ⟨hrc, hb⟩ := grd_spec hb
  obtain ⟨p1, hc, hb⟩ := Option.bind_eq_some_iff.mp hb
  refine Rn.call0 (d := e) (As := [va_rf v0, .int v1, .int v2, .int v3]) (rest := []) rfl rfl rfl (by decide) rfl rfl rfl (bd_rcV hrc rfl) (by decide) (bd_lenC (n := 14) rfl (bd_slR (bd_slI (bd_slI (bd_slI bd_slN)))) rfl) (bd_locC (n := 14) rfl (bd_slR (bd_slI (bd_slI (bd_slI bd_slN)))) rfl (t_219 e (by omega) v0 v1 v2 v3 h _ hc)) ?_
  refine rn_iconst (x := (nI 0)) rfl (by decide) ?_
  obtain ⟨x2, ex2, hb⟩ := bnd_spec hb
  refine rn_istore (i := 4) (L1 := [some (va_rf v0), some (.int v1), some (.int v2), some (.int v3), some (.int x2)]) rfl (Nat.le_of_ble_eq_true rfl) (Or.inr rfl) (by rw [ex2]; rfl) ?_
  exact w_221_16 (e + 1) hd FU v0 v1 v2 v3 x2 p1 _ hb
def b_221_4   (h : Hp) : Option (Int32 × Hp) :=
  (grd (decide ((nI 1) = 0 ∨ (nI 1) = 1))).bind fun _ => some ((nI 1), h)
theorem u_221_4 (d : Nat) (hd : 2 ≤ d) (v0 : Option Nat) (v1 : Int32) (v2 : Int32) (v3 : Int32)  (h : Hp) (r : Int32 × Hp) (hb : b_221_4   h = some r) : Rn d 221 4 [some (va_rf v0), some (.int v1), some (.int v2), some (.int v3), none] [] h (some (.int r.1), r.2) := by
  unfold b_221_4 at hb
  refine rn_iconst (x := (nI 1)) rfl (by decide) ?_
  obtain ⟨hz, hb⟩ := grd_spec hb
  obtain rfl := Option.some.inj hb
  exact rn_zret rfl rfl (of_decide_eq_true hz)
def b_221_0 (v0 : Option Nat) (v1 : Int32) (v2 : Int32) (v3 : Int32)  (h : Hp) : Option (Int32 × Hp) :=
  if ¬ v3 = 0 then b_221_6 v0 v1 v2 v3  h else b_221_4   h
theorem u_221_0 (d : Nat) (hd : 2 ≤ d) (v0 : Option Nat) (v1 : Int32) (v2 : Int32) (v3 : Int32)  (h : Hp) (r : Int32 × Hp) (hb : b_221_0 v0 v1 v2 v3  h = some r) : Rn d 221 0 [some (va_rf v0), some (.int v1), some (.int v2), some (.int v3), none] [] h (some (.int r.1), r.2) := by
  unfold b_221_0 at hb
  refine rn_iload_n (i := 3) rfl rfl ?_
  refine rn_if_ne rfl rfl (fun hc => ?_) (fun hc => ?_)
  · exact u_221_6 d hd v0 v1 v2 v3  h _ (if_t hb hc)
  · exact u_221_4 d hd v0 v1 v2 v3  h _ (if_f hb hc)
/-- BitingDoorsModel.canBe(III)Z -/
def f_221 (v0 : Option Nat) (v1 : Int32) (v2 : Int32) (v3 : Int32) (h : Hp) : Option (Int32 × Hp) := b_221_0 v0 v1 v2 v3 h
theorem t_221 (d : Nat) (hd : 2 ≤ d) (v0 : Option Nat) (v1 : Int32) (v2 : Int32) (v3 : Int32) (h : Hp) (r : Int32 × Hp) (hb : f_221 v0 v1 v2 v3 h = some r) : Rn d 221 0 [some (va_rf v0), some (.int v1), some (.int v2), some (.int v3), none] [] h (some (.int r.1), r.2) := by
  unfold f_221 at hb
  exact u_221_0 d hd v0 v1 v2 v3 h r hb
def b_222_26   (h : Hp) : Option (Int32 × Hp) :=
  some ((-1 : Int32), h)
theorem u_222_26 (d : Nat) (hd : 3 ≤ d) (v0 : Option Nat) (v1 : Int32) (v2 : Int32)  (h : Hp) (r : Int32 × Hp) (hb : b_222_26   h = some r) : Rn d 222 26 [some (va_rf v0), some (.int v1), some (.int v2)] [] h (some (.int r.1), r.2) := by
  unfold b_222_26 at hb
  refine rn_iconst (x := (-1 : Int32)) rfl (by decide) ?_
  obtain rfl := Option.some.inj hb
  exact rn_iret rfl rfl
def b_222_60  (s0 : Int32) (s1 : Int32) (h : Hp) : Option (Int32 × Hp) :=
  some ((s0 + s1), h)
theorem u_222_60 (d : Nat) (hd : 3 ≤ d) (v0 : Option Nat) (v1 : Int32) (v2 : Int32) (s0 : Int32) (s1 : Int32) (h : Hp) (r : Int32 × Hp) (hb : b_222_60  s0 s1 h = some r) : Rn d 222 60 [some (va_rf v0), some (.int v1), some (.int v2)] [.int s1, .int s0] h (some (.int r.1), r.2) := by
  unfold b_222_60 at hb
  refine rn_iadd rfl ?_
  obtain rfl := Option.some.inj hb
  exact rn_iret rfl rfl
def b_222_59  (s0 : Int32) (h : Hp) : Option (Int32 × Hp) :=
  b_222_60  s0 (nI 0) h
theorem u_222_59 (d : Nat) (hd : 3 ≤ d) (v0 : Option Nat) (v1 : Int32) (v2 : Int32) (s0 : Int32) (h : Hp) (r : Int32 × Hp) (hb : b_222_59  s0 h = some r) : Rn d 222 59 [some (va_rf v0), some (.int v1), some (.int v2)] [.int s0] h (some (.int r.1), r.2) := by
  unfold b_222_59 at hb
  refine rn_iconst (x := (nI 0)) rfl (by decide) ?_
  exact u_222_60 d hd v0 v1 v2 s0 (nI 0) h _ hb
def b_222_55  (s0 : Int32) (h : Hp) : Option (Int32 × Hp) :=
  b_222_60  s0 (nI 4) h
theorem u_222_55 (d : Nat) (hd : 3 ≤ d) (v0 : Option Nat) (v1 : Int32) (v2 : Int32) (s0 : Int32) (h : Hp) (r : Int32 × Hp) (hb : b_222_55  s0 h = some r) : Rn d 222 55 [some (va_rf v0), some (.int v1), some (.int v2)] [.int s0] h (some (.int r.1), r.2) := by
  unfold b_222_55 at hb
  refine rn_iconst (x := (nI 4)) rfl (by decide) ?_
  refine rn_goto rfl rfl ?_
  exact u_222_60 d hd v0 v1 v2 s0 (nI 4) h _ hb
def b_222_44 (v0 : Option Nat) (v1 : Int32) (v2 : Int32) (s0 : Int32) (s1 : Int32) (h : Hp) : Option (Int32 × Hp) :=
  (grd (rC 11 v0 h)).bind fun _ =>
  (f_221 v0 v1 v2 (nI 2) h).bind fun p1 =>
  if p1.1 = 0 then b_222_59  (s0 + s1) p1.2 else b_222_55  (s0 + s1) p1.2
theorem u_222_44 (d : Nat) (hd : 3 ≤ d) (v0 : Option Nat) (v1 : Int32) (v2 : Int32) (s0 : Int32) (s1 : Int32) (h : Hp) (r : Int32 × Hp) (hb : b_222_44 v0 v1 v2 s0 s1 h = some r) : Rn d 222 44 [some (va_rf v0), some (.int v1), some (.int v2)] [.int s1, .int s0] h (some (.int r.1), r.2) := by
  unfold b_222_44 at hb
  obtain ⟨e, rfl⟩ : ∃ e, d = e + 1 := ⟨d - 1, by omega⟩
  refine rn_iadd rfl ?_
  refine rn_aload_n (i := 0) rfl rfl ?_
  refine rn_iload_n (i := 1) rfl rfl ?_
  refine rn_iload_n (i := 2) rfl rfl ?_
  refine rn_iconst (x := (nI 2)) rfl (by decide) ?_
  obtain ⟨hrc, hb⟩ := grd_spec hb
  obtain ⟨p1, hc, hb⟩ := Option.bind_eq_some_iff.mp hb
  refine Rn.call1 (d := e) (As := [va_rf v0, .int v1, .int v2, .int (nI 2)]) (rest := [.int (s0 + s1)]) rfl rfl rfl (by decide) rfl rfl rfl (bd_rcV hrc rfl) (by rw [bd_cI (bd_cN)]; decide) (bd_lenC (n := 5) rfl (bd_slR (bd_slI (bd_slI (bd_slI bd_slN)))) rfl) (bd_locC (n := 5) rfl (bd_slR (bd_slI (bd_slI (bd_slI bd_slN)))) rfl (t_221 e (by omega) v0 v1 v2 (nI 2) h _ hc)) ?_
  refine rn_if_eq rfl rfl (fun hc => ?_) (fun hc => ?_)
  · exact u_222_59 (e + 1) hd v0 v1 v2 (s0 + s1) p1.2 _ (if_t hb hc)
  · exact u_222_55 (e + 1) hd v0 v1 v2 (s0 + s1) p1.2 _ (if_f hb hc)
def b_222_43 (v0 : Option Nat) (v1 : Int32) (v2 : Int32) (s0 : Int32) (h : Hp) : Option (Int32 × Hp) :=
  b_222_44 v0 v1 v2 s0 (nI 0) h
theorem u_222_43 (d : Nat) (hd : 3 ≤ d) (v0 : Option Nat) (v1 : Int32) (v2 : Int32) (s0 : Int32) (h : Hp) (r : Int32 × Hp) (hb : b_222_43 v0 v1 v2 s0 h = some r) : Rn d 222 43 [some (va_rf v0), some (.int v1), some (.int v2)] [.int s0] h (some (.int r.1), r.2) := by
  unfold b_222_43 at hb
  refine rn_iconst (x := (nI 0)) rfl (by decide) ?_
  exact u_222_44 d hd v0 v1 v2 s0 (nI 0) h _ hb
def b_222_39 (v0 : Option Nat) (v1 : Int32) (v2 : Int32) (s0 : Int32) (h : Hp) : Option (Int32 × Hp) :=
  b_222_44 v0 v1 v2 s0 (nI 2) h
theorem u_222_39 (d : Nat) (hd : 3 ≤ d) (v0 : Option Nat) (v1 : Int32) (v2 : Int32) (s0 : Int32) (h : Hp) (r : Int32 × Hp) (hb : b_222_39 v0 v1 v2 s0 h = some r) : Rn d 222 39 [some (va_rf v0), some (.int v1), some (.int v2)] [.int s0] h (some (.int r.1), r.2) := by
  unfold b_222_39 at hb
  refine rn_iconst (x := (nI 2)) rfl (by decide) ?_
  refine rn_goto rfl rfl ?_
  exact u_222_44 d hd v0 v1 v2 s0 (nI 2) h _ hb
def b_222_28 (v0 : Option Nat) (v1 : Int32) (v2 : Int32)  (h : Hp) : Option (Int32 × Hp) :=
  (grd (rC 11 v0 h)).bind fun _ =>
  (f_221 v0 v1 v2 (nI 1) h).bind fun p1 =>
  if p1.1 = 0 then b_222_43 v0 v1 v2 (nI 1) p1.2 else b_222_39 v0 v1 v2 (nI 1) p1.2
theorem u_222_28 (d : Nat) (hd : 3 ≤ d) (v0 : Option Nat) (v1 : Int32) (v2 : Int32)  (h : Hp) (r : Int32 × Hp) (hb : b_222_28 v0 v1 v2  h = some r) : Rn d 222 28 [some (va_rf v0), some (.int v1), some (.int v2)] [] h (some (.int r.1), r.2) := by
  unfold b_222_28 at hb
  obtain ⟨e, rfl⟩ : ∃ e, d = e + 1 := ⟨d - 1, by omega⟩
  refine rn_iconst (x := (nI 1)) rfl (by decide) ?_
  refine rn_aload_n (i := 0) rfl rfl ?_
  refine rn_iload_n (i := 1) rfl rfl ?_
  refine rn_iload_n (i := 2) rfl rfl ?_
  refine rn_iconst (x := (nI 1)) rfl (by decide) ?_
  obtain ⟨hrc, hb⟩ := grd_spec hb
  obtain ⟨p1, hc, hb⟩ := Option.bind_eq_some_iff.mp hb
  refine Rn.call1 (d := e) (As := [va_rf v0, .int v1, .int v2, .int (nI 1)]) (rest := [.int (nI 1)]) rfl rfl rfl (by decide) rfl rfl rfl (bd_rcV hrc rfl) (by rw [bd_cI (bd_cN)]; decide) (bd_lenC (n := 5) rfl (bd_slR (bd_slI (bd_slI (bd_slI bd_slN)))) rfl) (bd_locC (n := 5) rfl (bd_slR (bd_slI (bd_slI (bd_slI bd_slN)))) rfl (t_221 e (by omega) v0 v1 v2 (nI 1) h _ hc)) ?_
  refine rn_if_eq rfl rfl (fun hc => ?_) (fun hc => ?_)
  · exact u_222_43 (e + 1) hd v0 v1 v2 (nI 1) p1.2 _ (if_t hb hc)
  · exact u_222_39 (e + 1) hd v0 v1 v2 (nI 1) p1.2 _ (if_f hb hc)
def b_222_17 (v0 : Option Nat) (v1 : Int32) (v2 : Int32)  (h : Hp) : Option (Int32 × Hp) :=
  (f_182 v2 (nI 0) (nI 3) h).bind fun p1 =>
  if ¬ p1.1 = 0 then b_222_28 v0 v1 v2  p1.2 else b_222_26   p1.2
theorem u_222_17 (d : Nat) (hd : 3 ≤ d) (v0 : Option Nat) (v1 : Int32) (v2 : Int32)  (h : Hp) (r : Int32 × Hp) (hb : b_222_17 v0 v1 v2  h = some r) : Rn d 222 17 [some (va_rf v0), some (.int v1), some (.int v2)] [] h (some (.int r.1), r.2) := by
  unfold b_222_17 at hb
  obtain ⟨e, rfl⟩ : ∃ e, d = e + 1 := ⟨d - 1, by omega⟩
  refine rn_iload_n (i := 2) rfl rfl ?_
  refine rn_iconst (x := (nI 0)) rfl (by decide) ?_
  refine rn_iconst (x := (nI 3)) rfl (by decide) ?_
  obtain ⟨p1, hc, hb⟩ := Option.bind_eq_some_iff.mp hb
  refine Rn.call1 (d := e) (As := [.int v2, .int (nI 0), .int (nI 3)]) (rest := []) rfl rfl rfl (by decide) rfl rfl rfl rfl (by decide) (bd_lenC (n := 3) rfl (bd_slI (bd_slI (bd_slI bd_slN))) rfl) (bd_locC (n := 3) rfl (bd_slI (bd_slI (bd_slI bd_slN))) rfl (t_182 e (by omega) v2 (nI 0) (nI 3) h _ hc)) ?_
  refine rn_if_ne rfl rfl (fun hc => ?_) (fun hc => ?_)
  · exact u_222_28 (e + 1) hd v0 v1 v2  p1.2 _ (if_t hb hc)
  · exact u_222_26 (e + 1) hd v0 v1 v2  p1.2 _ (if_f hb hc)
def b_222_0 (v0 : Option Nat) (v1 : Int32) (v2 : Int32)  (h : Hp) : Option (Int32 × Hp) :=
  (pI 11 0 v0 (nI 0) h).bind fun h1 =>
  (grd (rC 11 v0 h1)).bind fun _ =>
  (f_202 v0 h1).bind fun p2 =>
  (grd (rC 11 v0 p2)).bind fun _ =>
  (f_204 v0 v1 p2).bind fun p3 =>
  if p3.1 = 0 then b_222_26   p3.2 else b_222_17 v0 v1 v2  p3.2
theorem u_222_0 (d : Nat) (hd : 3 ≤ d) (v0 : Option Nat) (v1 : Int32) (v2 : Int32)  (h : Hp) (r : Int32 × Hp) (hb : b_222_0 v0 v1 v2  h = some r) : Rn d 222 0 [some (va_rf v0), some (.int v1), some (.int v2)] [] h (some (.int r.1), r.2) := by
  unfold b_222_0 at hb
  obtain ⟨e, rfl⟩ : ∃ e, d = e + 1 := ⟨d - 1, by omega⟩
  refine rn_aload_n (i := 0) rfl rfl ?_
  refine rn_iconst (x := (nI 0)) rfl (by decide) ?_
  refine rn_pI (c := 11) (k := 0) rfl (by decide) hb (fun h1 hb => ?_)
  refine rn_aload_n (i := 0) rfl rfl ?_
  obtain ⟨hrc, hb⟩ := grd_spec hb
  obtain ⟨p2, hc, hb⟩ := Option.bind_eq_some_iff.mp hb
  refine Rn.call0 (d := e) (As := [va_rf v0]) (rest := []) rfl rfl rfl (by decide) rfl rfl rfl (bd_rcV hrc rfl) (by decide) (bd_lenC (n := 1) rfl (bd_slR bd_slN) rfl) (bd_locC (n := 1) rfl (bd_slR bd_slN) rfl (t_202 e (by omega) v0 h1 _ hc)) ?_
  refine rn_aload_n (i := 0) rfl rfl ?_
  refine rn_iload_n (i := 1) rfl rfl ?_
  obtain ⟨hrc, hb⟩ := grd_spec hb
  obtain ⟨p3, hc, hb⟩ := Option.bind_eq_some_iff.mp hb
  refine Rn.call1 (d := e) (As := [va_rf v0, .int v1]) (rest := []) rfl rfl rfl (by decide) rfl rfl rfl (bd_rcV hrc rfl) (by decide) (bd_lenC (n := 2) rfl (bd_slR (bd_slI bd_slN)) rfl) (bd_locC (n := 2) rfl (bd_slR (bd_slI bd_slN)) rfl (t_204 e (by omega) v0 v1 p2 _ hc)) ?_
  refine rn_if_eq rfl rfl (fun hc => ?_) (fun hc => ?_)
  · exact u_222_26 (e + 1) hd v0 v1 v2  p3.2 _ (if_t hb hc)
  · exact u_222_17 (e + 1) hd v0 v1 v2  p3.2 _ (if_f hb hc)
/-- BitingDoorsModel.can(II)I -/
def f_222 (v0 : Option Nat) (v1 : Int32) (v2 : Int32) (h : Hp) : Option (Int32 × Hp) := b_222_0 v0 v1 v2 h
theorem t_222 (d : Nat) (hd : 3 ≤ d) (v0 : Option Nat) (v1 : Int32) (v2 : Int32) (h : Hp) (r : Int32 × Hp) (hb : f_222 v0 v1 v2 h = some r) : Rn d 222 0 [some (va_rf v0), some (.int v1), some (.int v2)] [] h (some (.int r.1), r.2) := by
  unfold f_222 at hb
  exact u_222_0 d hd v0 v1 v2 h r hb
def b_223_35  (s0 : Int32) (h : Hp) : Option (Int32 × Hp) :=
  (grd (decide (s0 = 0 ∨ s0 = 1))).bind fun _ => some (s0, h)
theorem u_223_35 (d : Nat) (hd : 3 ≤ d) (v0 : Option Nat) (v1 : Int32) (v2 : Int32) (s0 : Int32) (h : Hp) (r : Int32 × Hp) (hb : b_223_35  s0 h = some r) : Rn d 223 35 [some (va_rf v0), some (.int v1), some (.int v2)] [.int s0] h (some (.int r.1), r.2) := by
  unfold b_223_35 at hb
  obtain ⟨hz, hb⟩ := grd_spec hb
  obtain rfl := Option.some.inj hb
  exact rn_zret rfl rfl (of_decide_eq_true hz)
def b_223_34   (h : Hp) : Option (Int32 × Hp) :=
  b_223_35  (nI 0) h
theorem u_223_34 (d : Nat) (hd : 3 ≤ d) (v0 : Option Nat) (v1 : Int32) (v2 : Int32)  (h : Hp) (r : Int32 × Hp) (hb : b_223_34   h = some r) : Rn d 223 34 [some (va_rf v0), some (.int v1), some (.int v2)] [] h (some (.int r.1), r.2) := by
  unfold b_223_34 at hb
  refine rn_iconst (x := (nI 0)) rfl (by decide) ?_
  exact u_223_35 d hd v0 v1 v2 (nI 0) h _ hb
def b_223_30   (h : Hp) : Option (Int32 × Hp) :=
  b_223_35  (nI 1) h
theorem u_223_30 (d : Nat) (hd : 3 ≤ d) (v0 : Option Nat) (v1 : Int32) (v2 : Int32)  (h : Hp) (r : Int32 × Hp) (hb : b_223_30   h = some r) : Rn d 223 30 [some (va_rf v0), some (.int v1), some (.int v2)] [] h (some (.int r.1), r.2) := by
  unfold b_223_30 at hb
  refine rn_iconst (x := (nI 1)) rfl (by decide) ?_
  refine rn_goto rfl rfl ?_
  exact u_223_35 d hd v0 v1 v2 (nI 1) h _ hb
def b_223_20 (v0 : Option Nat) (v1 : Int32) (v2 : Int32)  (h : Hp) : Option (Int32 × Hp) :=
  (grd (rC 11 v0 h)).bind fun _ =>
  (f_221 v0 v1 v2 (nI 2) h).bind fun p1 =>
  if p1.1 = 0 then b_223_34   p1.2 else b_223_30   p1.2
theorem u_223_20 (d : Nat) (hd : 3 ≤ d) (v0 : Option Nat) (v1 : Int32) (v2 : Int32)  (h : Hp) (r : Int32 × Hp) (hb : b_223_20 v0 v1 v2  h = some r) : Rn d 223 20 [some (va_rf v0), some (.int v1), some (.int v2)] [] h (some (.int r.1), r.2) := by
  unfold b_223_20 at hb
  obtain ⟨e, rfl⟩ : ∃ e, d = e + 1 := ⟨d - 1, by omega⟩
  refine rn_aload_n (i := 0) rfl rfl ?_
  refine rn_iload_n (i := 1) rfl rfl ?_
  refine rn_iload_n (i := 2) rfl rfl ?_
  refine rn_iconst (x := (nI 2)) rfl (by decide) ?_
  obtain ⟨hrc, hb⟩ := grd_spec hb
  obtain ⟨p1, hc, hb⟩ := Option.bind_eq_some_iff.mp hb
  refine Rn.call1 (d := e) (As := [va_rf v0, .int v1, .int v2, .int (nI 2)]) (rest := []) rfl rfl rfl (by decide) rfl rfl rfl (bd_rcV hrc rfl) (by decide) (bd_lenC (n := 5) rfl (bd_slR (bd_slI (bd_slI (bd_slI bd_slN)))) rfl) (bd_locC (n := 5) rfl (bd_slR (bd_slI (bd_slI (bd_slI bd_slN)))) rfl (t_221 e (by omega) v0 v1 v2 (nI 2) h _ hc)) ?_
  refine rn_if_eq rfl rfl (fun hc => ?_) (fun hc => ?_)
  · exact u_223_34 (e + 1) hd v0 v1 v2  p1.2 _ (if_t hb hc)
  · exact u_223_30 (e + 1) hd v0 v1 v2  p1.2 _ (if_f hb hc)
def b_223_10 (v0 : Option Nat) (v1 : Int32) (v2 : Int32)  (h : Hp) : Option (Int32 × Hp) :=
  (grd (rC 11 v0 h)).bind fun _ =>
  (f_205 v0 v1 (nI 7) h).bind fun p1 =>
  if p1.1 = 0 then b_223_30   p1.2 else b_223_20 v0 v1 v2  p1.2
theorem u_223_10 (d : Nat) (hd : 3 ≤ d) (v0 : Option Nat) (v1 : Int32) (v2 : Int32)  (h : Hp) (r : Int32 × Hp) (hb : b_223_10 v0 v1 v2  h = some r) : Rn d 223 10 [some (va_rf v0), some (.int v1), some (.int v2)] [] h (some (.int r.1), r.2) := by
  unfold b_223_10 at hb
  obtain ⟨e, rfl⟩ : ∃ e, d = e + 1 := ⟨d - 1, by omega⟩
  refine rn_aload_n (i := 0) rfl rfl ?_
  refine rn_iload_n (i := 1) rfl rfl ?_
  refine rn_bipush (x := (nI 7)) rfl (by decide) ?_
  obtain ⟨hrc, hb⟩ := grd_spec hb
  obtain ⟨p1, hc, hb⟩ := Option.bind_eq_some_iff.mp hb
  refine Rn.call1 (d := e) (As := [va_rf v0, .int v1, .int (nI 7)]) (rest := []) rfl rfl rfl (by decide) rfl rfl rfl (bd_rcV hrc rfl) (by decide) (bd_lenC (n := 3) rfl (bd_slR (bd_slI (bd_slI bd_slN))) rfl) (bd_locC (n := 3) rfl (bd_slR (bd_slI (bd_slI bd_slN))) rfl (t_205 e (by omega) v0 v1 (nI 7) h _ hc)) ?_
  refine rn_if_eq rfl rfl (fun hc => ?_) (fun hc => ?_)
  · exact u_223_30 (e + 1) hd v0 v1 v2  p1.2 _ (if_t hb hc)
  · exact u_223_20 (e + 1) hd v0 v1 v2  p1.2 _ (if_f hb hc)
def b_223_0 (v0 : Option Nat) (v1 : Int32) (v2 : Int32)  (h : Hp) : Option (Int32 × Hp) :=
  (grd (rC 11 v0 h)).bind fun _ =>
  (f_221 v0 v1 v2 (nI 1) h).bind fun p1 =>
  if p1.1 = 0 then b_223_34   p1.2 else b_223_10 v0 v1 v2  p1.2
theorem u_223_0 (d : Nat) (hd : 3 ≤ d) (v0 : Option Nat) (v1 : Int32) (v2 : Int32)  (h : Hp) (r : Int32 × Hp) (hb : b_223_0 v0 v1 v2  h = some r) : Rn d 223 0 [some (va_rf v0), some (.int v1), some (.int v2)] [] h (some (.int r.1), r.2) := by
  unfold b_223_0 at hb
  obtain ⟨e, rfl⟩ : ∃ e, d = e + 1 := ⟨d - 1, by omega⟩
  refine rn_aload_n (i := 0) rfl rfl ?_
  refine rn_iload_n (i := 1) rfl rfl ?_
  refine rn_iload_n (i := 2) rfl rfl ?_
  refine rn_iconst (x := (nI 1)) rfl (by decide) ?_
  obtain ⟨hrc, hb⟩ := grd_spec hb
  obtain ⟨p1, hc, hb⟩ := Option.bind_eq_some_iff.mp hb
  refine Rn.call1 (d := e) (As := [va_rf v0, .int v1, .int v2, .int (nI 1)]) (rest := []) rfl rfl rfl (by decide) rfl rfl rfl (bd_rcV hrc rfl) (by decide) (bd_lenC (n := 5) rfl (bd_slR (bd_slI (bd_slI (bd_slI bd_slN)))) rfl) (bd_locC (n := 5) rfl (bd_slR (bd_slI (bd_slI (bd_slI bd_slN)))) rfl (t_221 e (by omega) v0 v1 v2 (nI 1) h _ hc)) ?_
  refine rn_if_eq rfl rfl (fun hc => ?_) (fun hc => ?_)
  · exact u_223_34 (e + 1) hd v0 v1 v2  p1.2 _ (if_t hb hc)
  · exact u_223_10 (e + 1) hd v0 v1 v2  p1.2 _ (if_f hb hc)
/-- BitingDoorsModel.isFit(II)Z -/
def f_223 (v0 : Option Nat) (v1 : Int32) (v2 : Int32) (h : Hp) : Option (Int32 × Hp) := b_223_0 v0 v1 v2 h
theorem t_223 (d : Nat) (hd : 3 ≤ d) (v0 : Option Nat) (v1 : Int32) (v2 : Int32) (h : Hp) (r : Int32 × Hp) (hb : f_223 v0 v1 v2 h = some r) : Rn d 223 0 [some (va_rf v0), some (.int v1), some (.int v2)] [] h (some (.int r.1), r.2) := by
  unfold f_223 at hb
  exact u_223_0 d hd v0 v1 v2 h r hb
def b_224_26   (h : Hp) : Option (Int32 × Hp) :=
  some ((-1 : Int32), h)
theorem u_224_26 (d : Nat) (hd : 4 ≤ d) (v0 : Option Nat) (v1 : Int32) (v2 : Int32)  (h : Hp) (r : Int32 × Hp) (hb : b_224_26   h = some r) : Rn d 224 26 [some (va_rf v0), some (.int v1), some (.int v2)] [] h (some (.int r.1), r.2) := by
  unfold b_224_26 at hb
  refine rn_iconst (x := (-1 : Int32)) rfl (by decide) ?_
  obtain rfl := Option.some.inj hb
  exact rn_iret rfl rfl
def b_224_42  (s0 : Int32) (h : Hp) : Option (Int32 × Hp) :=
  some (s0, h)
theorem u_224_42 (d : Nat) (hd : 4 ≤ d) (v0 : Option Nat) (v1 : Int32) (v2 : Int32) (s0 : Int32) (h : Hp) (r : Int32 × Hp) (hb : b_224_42  s0 h = some r) : Rn d 224 42 [some (va_rf v0), some (.int v1), some (.int v2)] [.int s0] h (some (.int r.1), r.2) := by
  unfold b_224_42 at hb
  obtain rfl := Option.some.inj hb
  exact rn_iret rfl rfl
def b_224_41   (h : Hp) : Option (Int32 × Hp) :=
  b_224_42  (nI 0) h
theorem u_224_41 (d : Nat) (hd : 4 ≤ d) (v0 : Option Nat) (v1 : Int32) (v2 : Int32)  (h : Hp) (r : Int32 × Hp) (hb : b_224_41   h = some r) : Rn d 224 41 [some (va_rf v0), some (.int v1), some (.int v2)] [] h (some (.int r.1), r.2) := by
  unfold b_224_41 at hb
  refine rn_iconst (x := (nI 0)) rfl (by decide) ?_
  exact u_224_42 d hd v0 v1 v2 (nI 0) h _ hb
def b_224_37   (h : Hp) : Option (Int32 × Hp) :=
  b_224_42  (nI 1) h
theorem u_224_37 (d : Nat) (hd : 4 ≤ d) (v0 : Option Nat) (v1 : Int32) (v2 : Int32)  (h : Hp) (r : Int32 × Hp) (hb : b_224_37   h = some r) : Rn d 224 37 [some (va_rf v0), some (.int v1), some (.int v2)] [] h (some (.int r.1), r.2) := by
  unfold b_224_37 at hb
  refine rn_iconst (x := (nI 1)) rfl (by decide) ?_
  refine rn_goto rfl rfl ?_
  exact u_224_42 d hd v0 v1 v2 (nI 1) h _ hb
def b_224_28 (v0 : Option Nat) (v1 : Int32) (v2 : Int32)  (h : Hp) : Option (Int32 × Hp) :=
  (grd (rC 11 v0 h)).bind fun _ =>
  (f_223 v0 v1 v2 h).bind fun p1 =>
  if p1.1 = 0 then b_224_41   p1.2 else b_224_37   p1.2
theorem u_224_28 (d : Nat) (hd : 4 ≤ d) (v0 : Option Nat) (v1 : Int32) (v2 : Int32)  (h : Hp) (r : Int32 × Hp) (hb : b_224_28 v0 v1 v2  h = some r) : Rn d 224 28 [some (va_rf v0), some (.int v1), some (.int v2)] [] h (some (.int r.1), r.2) := by
  unfold b_224_28 at hb
  obtain ⟨e, rfl⟩ : ∃ e, d = e + 1 := ⟨d - 1, by omega⟩
  refine rn_aload_n (i := 0) rfl rfl ?_
  refine rn_iload_n (i := 1) rfl rfl ?_
  refine rn_iload_n (i := 2) rfl rfl ?_
  obtain ⟨hrc, hb⟩ := grd_spec hb
  obtain ⟨p1, hc, hb⟩ := Option.bind_eq_some_iff.mp hb
  refine Rn.call1 (d := e) (As := [va_rf v0, .int v1, .int v2]) (rest := []) rfl rfl rfl (by decide) rfl rfl rfl (bd_rcV hrc rfl) (by decide) (bd_lenC (n := 3) rfl (bd_slR (bd_slI (bd_slI bd_slN))) rfl) (bd_locC (n := 3) rfl (bd_slR (bd_slI (bd_slI bd_slN))) rfl (t_223 e (by omega) v0 v1 v2 h _ hc)) ?_
  refine rn_if_eq rfl rfl (fun hc => ?_) (fun hc => ?_)
  · exact u_224_41 (e + 1) hd v0 v1 v2  p1.2 _ (if_t hb hc)
  · exact u_224_37 (e + 1) hd v0 v1 v2  p1.2 _ (if_f hb hc)
def b_224_17 (v0 : Option Nat) (v1 : Int32) (v2 : Int32)  (h : Hp) : Option (Int32 × Hp) :=
  (f_182 v2 (nI 0) (nI 3) h).bind fun p1 =>
  if ¬ p1.1 = 0 then b_224_28 v0 v1 v2  p1.2 else b_224_26   p1.2
theorem u_224_17 (d : Nat) (hd : 4 ≤ d) (v0 : Option Nat) (v1 : Int32) (v2 : Int32)  (h : Hp) (r : Int32 × Hp) (hb : b_224_17 v0 v1 v2  h = some r) : Rn d 224 17 [some (va_rf v0), some (.int v1), some (.int v2)] [] h (some (.int r.1), r.2) := by
  unfold b_224_17 at hb
  obtain ⟨e, rfl⟩ : ∃ e, d = e + 1 := ⟨d - 1, by omega⟩
  refine rn_iload_n (i := 2) rfl rfl ?_
  refine rn_iconst (x := (nI 0)) rfl (by decide) ?_
  refine rn_iconst (x := (nI 3)) rfl (by decide) ?_
  obtain ⟨p1, hc, hb⟩ := Option.bind_eq_some_iff.mp hb
  refine Rn.call1 (d := e) (As := [.int v2, .int (nI 0), .int (nI 3)]) (rest := []) rfl rfl rfl (by decide) rfl rfl rfl rfl (by decide) (bd_lenC (n := 3) rfl (bd_slI (bd_slI (bd_slI bd_slN))) rfl) (bd_locC (n := 3) rfl (bd_slI (bd_slI (bd_slI bd_slN))) rfl (t_182 e (by omega) v2 (nI 0) (nI 3) h _ hc)) ?_
  refine rn_if_ne rfl rfl (fun hc => ?_) (fun hc => ?_)
  · exact u_224_28 (e + 1) hd v0 v1 v2  p1.2 _ (if_t hb hc)
  · exact u_224_26 (e + 1) hd v0 v1 v2  p1.2 _ (if_f hb hc)
def b_224_0 (v0 : Option Nat) (v1 : Int32) (v2 : Int32)  (h : Hp) : Option (Int32 × Hp) :=
  (pI 11 0 v0 (nI 0) h).bind fun h1 =>
  (grd (rC 11 v0 h1)).bind fun _ =>
  (f_202 v0 h1).bind fun p2 =>
  (grd (rC 11 v0 p2)).bind fun _ =>
  (f_204 v0 v1 p2).bind fun p3 =>
  if p3.1 = 0 then b_224_26   p3.2 else b_224_17 v0 v1 v2  p3.2
theorem u_224_0 (d : Nat) (hd : 4 ≤ d) (v0 : Option Nat) (v1 : Int32) (v2 : Int32)  (h : Hp) (r : Int32 × Hp) (hb : b_224_0 v0 v1 v2  h = some r) : Rn d 224 0 [some (va_rf v0), some (.int v1), some (.int v2)] [] h (some (.int r.1), r.2) := by
  unfold b_224_0 at hb
  obtain ⟨e, rfl⟩ : ∃ e, d = e + 1 := ⟨d - 1, by omega⟩
  refine rn_aload_n (i := 0) rfl rfl ?_
  refine rn_iconst (x := (nI 0)) rfl (by decide) ?_
  refine rn_pI (c := 11) (k := 0) rfl (by decide) hb (fun h1 hb => ?_)
  refine rn_aload_n (i := 0) rfl rfl ?_
  obtain ⟨hrc, hb⟩ := grd_spec hb
  obtain ⟨p2, hc, hb⟩ := Option.bind_eq_some_iff.mp hb
  refine Rn.call0 (d := e) (As := [va_rf v0]) (rest := []) rfl rfl rfl (by decide) rfl rfl rfl (bd_rcV hrc rfl) (by decide) (bd_lenC (n := 1) rfl (bd_slR bd_slN) rfl) (bd_locC (n := 1) rfl (bd_slR bd_slN) rfl (t_202 e (by omega) v0 h1 _ hc)) ?_
  refine rn_aload_n (i := 0) rfl rfl ?_
  refine rn_iload_n (i := 1) rfl rfl ?_
  obtain ⟨hrc, hb⟩ := grd_spec hb
  obtain ⟨p3, hc, hb⟩ := Option.bind_eq_some_iff.mp hb
  refine Rn.call1 (d := e) (As := [va_rf v0, .int v1]) (rest := []) rfl rfl rfl (by decide) rfl rfl rfl (bd_rcV hrc rfl) (by decide) (bd_lenC (n := 2) rfl (bd_slR (bd_slI bd_slN)) rfl) (bd_locC (n := 2) rfl (bd_slR (bd_slI bd_slN)) rfl (t_204 e (by omega) v0 v1 p2 _ hc)) ?_
  refine rn_if_eq rfl rfl (fun hc => ?_) (fun hc => ?_)
  · exact u_224_26 (e + 1) hd v0 v1 v2  p3.2 _ (if_t hb hc)
  · exact u_224_17 (e + 1) hd v0 v1 v2  p3.2 _ (if_f hb hc)
/-- BitingDoorsModel.fit(II)I -/
def f_224 (v0 : Option Nat) (v1 : Int32) (v2 : Int32) (h : Hp) : Option (Int32 × Hp) := b_224_0 v0 v1 v2 h
theorem t_224 (d : Nat) (hd : 4 ≤ d) (v0 : Option Nat) (v1 : Int32) (v2 : Int32) (h : Hp) (r : Int32 × Hp) (hb : f_224 v0 v1 v2 h = some r) : Rn d 224 0 [some (va_rf v0), some (.int v1), some (.int v2)] [] h (some (.int r.1), r.2) := by
  unfold f_224 at hb
  exact u_224_0 d hd v0 v1 v2 h r hb
