def b_96_18  (s0 : Int32) (h : Hp) : Option (Int32 × Hp) :=
  (grd (decide (s0 = 0 ∨ s0 = 1))).bind fun _ => some (s0, h)
theorem u_96_18 (d : Nat) (hd : 2 ≤ d) (v0 : Option Nat) (v1 : Int32) (s0 : Int32) (h : Hp) (r : Int32 × Hp) (hb : b_96_18  s0 h = some r) : Rn d 96 18 [some (va_rf v0), some (.int v1)] [.int s0] h (some (.int r.1), r.2) := by
  unfold b_96_18 at hb
  obtain ⟨hz, hb⟩ := grd_spec hb
  obtain rfl := Option.some.inj hb
  exact rn_zret rfl rfl (of_decide_eq_true hz)
def b_96_17   (h : Hp) : Option (Int32 × Hp) :=
  b_96_18  (nI 0) h
theorem u_96_17 (d : Nat) (hd : 2 ≤ d) (v0 : Option Nat) (v1 : Int32)  (h : Hp) (r : Int32 × Hp) (hb : b_96_17   h = some r) : Rn d 96 17 [some (va_rf v0), some (.int v1)] [] h (some (.int r.1), r.2) := by
  unfold b_96_17 at hb
  refine rn_iconst (x := (nI 0)) rfl (by decide) ?_
  exact u_96_18 d hd v0 v1 (nI 0) h _ hb
def b_96_13   (h : Hp) : Option (Int32 × Hp) :=
  b_96_18  (nI 1) h
theorem u_96_13 (d : Nat) (hd : 2 ≤ d) (v0 : Option Nat) (v1 : Int32)  (h : Hp) (r : Int32 × Hp) (hb : b_96_13   h = some r) : Rn d 96 13 [some (va_rf v0), some (.int v1)] [] h (some (.int r.1), r.2) := by
  unfold b_96_13 at hb
  refine rn_iconst (x := (nI 1)) rfl (by decide) ?_
  refine rn_goto rfl rfl ?_
  exact u_96_18 d hd v0 v1 (nI 1) h _ hb
def b_96_5 (v0 : Option Nat) (v1 : Int32)  (h : Hp) : Option (Int32 × Hp) :=
  (grd (rC 7 v0 h)).bind fun _ =>
  (f_97 v0 v1 h).bind fun p1 =>
  if ¬ p1.1 = 0 then b_96_17   p1.2 else b_96_13   p1.2
theorem u_96_5 (d : Nat) (hd : 2 ≤ d) (v0 : Option Nat) (v1 : Int32)  (h : Hp) (r : Int32 × Hp) (hb : b_96_5 v0 v1  h = some r) : Rn d 96 5 [some (va_rf v0), some (.int v1)] [] h (some (.int r.1), r.2) := by
  unfold b_96_5 at hb
  obtain ⟨e, rfl⟩ : ∃ e, d = e + 1 := ⟨d - 1, by omega⟩
  refine rn_aload_n (i := 0) rfl rfl ?_
  refine rn_iload_n (i := 1) rfl rfl ?_
  obtain ⟨hrc, hb⟩ := grd_spec hb
  obtain ⟨p1, hc, hb⟩ := Option.bind_eq_some_iff.mp hb
  refine Rn.call1 (d := e) (As := [va_rf v0, .int v1]) (rest := []) rfl rfl rfl (by decide) rfl rfl rfl (bd_rcV hrc rfl) (by decide) (bd_lenC (n := 3) rfl (bd_slR (bd_slI bd_slN)) rfl) (bd_locC (n := 3) rfl (bd_slR (bd_slI bd_slN)) rfl (t_97 e (by omega) v0 v1 h _ hc)) ?_
  refine rn_if_ne rfl rfl (fun hc => ?_) (fun hc => ?_)
  · exact u_96_17 (e + 1) hd v0 v1  p1.2 _ (if_t hb hc)
  · exact u_96_13 (e + 1) hd v0 v1  p1.2 _ (if_f hb hc)
def b_96_0 (v0 : Option Nat) (v1 : Int32)  (h : Hp) : Option (Int32 × Hp) :=
  if v1 < (nI 4) then b_96_17   h else b_96_5 v0 v1  h
theorem u_96_0 (d : Nat) (hd : 2 ≤ d) (v0 : Option Nat) (v1 : Int32)  (h : Hp) (r : Int32 × Hp) (hb : b_96_0 v0 v1  h = some r) : Rn d 96 0 [some (va_rf v0), some (.int v1)] [] h (some (.int r.1), r.2) := by
  unfold b_96_0 at hb
  refine rn_iload_n (i := 1) rfl rfl ?_
  refine rn_iconst (x := (nI 4)) rfl (by decide) ?_
  refine rn_icmp_lt rfl rfl (fun hc => ?_) (fun hc => ?_)
  · exact u_96_17 d hd v0 v1  h _ (if_t hb hc)
  · exact u_96_5 d hd v0 v1  h _ (if_f hb hc)
/-- BitingDoors$Scene.isSo(I)Z -/
def f_96 (v0 : Option Nat) (v1 : Int32) (h : Hp) : Option (Int32 × Hp) := b_96_0 v0 v1 h
theorem t_96 (d : Nat) (hd : 2 ≤ d) (v0 : Option Nat) (v1 : Int32) (h : Hp) (r : Int32 × Hp) (hb : f_96 v0 v1 h = some r) : Rn d 96 0 [some (va_rf v0), some (.int v1)] [] h (some (.int r.1), r.2) := by
  unfold f_96 at hb
  exact u_96_0 d hd v0 v1 h r hb
def b_100_0 (v0 : Option Nat)  (h : Hp) : Option (Hp) :=
  (grd v0.isSome).bind fun _ =>
  (nA 12 (nI 40) h).bind fun h1 =>
  (pQ 8 0 v0 (some (hN h)) h1).bind fun h2 =>
  (nA 12 (nI 40) h2).bind fun h3 =>
  (pQ 8 1 v0 (some (hN h2)) h3).bind fun h4 =>
  (nA 12 (nI 40) h4).bind fun h5 =>
  (pQ 8 2 v0 (some (hN h4)) h5).bind fun h6 =>
  some h6
theorem u_100_0 (d : Nat) (hd : 0 ≤ d) (v0 : Option Nat)  (h : Hp) (r : Hp) (hb : b_100_0 v0  h = some r) : Rn d 100 0 [some (va_rf v0)] [] h (none, r) := by
  unfold b_100_0 at hb
  refine rn_aload_n (i := 0) rfl rfl ?_
  obtain ⟨hq, hb⟩ := grd_spec hb
  refine rn_oinit rfl hq (by decide) ?_
  refine rn_aload_n (i := 0) rfl rfl ?_
  refine rn_bipush (x := (nI 40)) rfl (by decide) ?_
  refine rn_newarray rfl hb (fun h1 hb => ?_)
  refine rn_pQ (c := 8) (k := 0) rfl (by decide) hb (fun h2 hb => ?_)
  refine rn_aload_n (i := 0) rfl rfl ?_
  refine rn_bipush (x := (nI 40)) rfl (by decide) ?_
  refine rn_newarray rfl hb (fun h3 hb => ?_)
  refine rn_pQ (c := 8) (k := 1) rfl (by decide) hb (fun h4 hb => ?_)
  refine rn_aload_n (i := 0) rfl rfl ?_
  refine rn_bipush (x := (nI 40)) rfl (by decide) ?_
  refine rn_newarray rfl hb (fun h5 hb => ?_)
  refine rn_pQ (c := 8) (k := 2) rfl (by decide) hb (fun h6 hb => ?_)
  obtain rfl := Option.some.inj hb
  exact rn_vret rfl rfl
/-- BitingDoors$Sentence.<init>()V -/
def f_100 (v0 : Option Nat) (h : Hp) : Option (Hp) := b_100_0 v0 h
theorem t_100 (d : Nat) (hd : 0 ≤ d) (v0 : Option Nat) (h : Hp) (r : Hp) (hb : f_100 v0 h = some r) : Rn d 100 0 [some (va_rf v0)] [] h (none, r) := by
  unfold f_100 at hb
  exact u_100_0 d hd v0 h r hb
def b_106_14 (v0 : Option Nat) (v1 : Int32) (v2 : Int32) (v3 : Int32)  (h : Hp) : Option (Int32 × Hp) :=
  (gQ 8 0 v0 h).bind fun x1 =>
  (gI 8 3 v0 h).bind fun x2 =>
  (wI x1 x2 v1 h).bind fun h3 =>
  (gQ 8 1 v0 h3).bind fun x4 =>
  (gI 8 3 v0 h3).bind fun x5 =>
  (wI x4 x5 v2 h3).bind fun h6 =>
  (gQ 8 2 v0 h6).bind fun x7 =>
  (gI 8 3 v0 h6).bind fun x8 =>
  (wI x7 x8 v3 h6).bind fun h9 =>
  (gI 8 3 v0 h9).bind fun x10 =>
  (pI 8 3 v0 (x10 + (nI 1)) h9).bind fun h11 =>
  (grd (decide ((nI 1) = 0 ∨ (nI 1) = 1))).bind fun _ => some ((nI 1), h11)
theorem u_106_14 (d : Nat) (hd : 0 ≤ d) (v0 : Option Nat) (v1 : Int32) (v2 : Int32) (v3 : Int32)  (h : Hp) (r : Int32 × Hp) (hb : b_106_14 v0 v1 v2 v3  h = some r) : Rn d 106 14 [some (va_rf v0), some (.int v1), some (.int v2), some (.int v3)] [] h (some (.int r.1), r.2) := by
  unfold b_106_14 at hb
  refine rn_aload_n (i := 0) rfl rfl ?_
  refine rn_gQ (c := 8) (k := 0) rfl (by decide) hb (fun x1 hb => ?_)
  refine rn_aload_n (i := 0) rfl rfl ?_
  refine rn_gI (c := 8) (k := 3) rfl (by decide) hb (fun x2 hb => ?_)
  refine rn_iload_n (i := 1) rfl rfl ?_
  refine rn_wI rfl hb (fun h3 hb => ?_)
  refine rn_aload_n (i := 0) rfl rfl ?_
  refine rn_gQ (c := 8) (k := 1) rfl (by decide) hb (fun x4 hb => ?_)
  refine rn_aload_n (i := 0) rfl rfl ?_
  refine rn_gI (c := 8) (k := 3) rfl (by decide) hb (fun x5 hb => ?_)
  refine rn_iload_n (i := 2) rfl rfl ?_
  refine rn_wI rfl hb (fun h6 hb => ?_)
  refine rn_aload_n (i := 0) rfl rfl ?_
  refine rn_gQ (c := 8) (k := 2) rfl (by decide) hb (fun x7 hb => ?_)
  refine rn_aload_n (i := 0) rfl rfl ?_
  refine rn_gI (c := 8) (k := 3) rfl (by decide) hb (fun x8 hb => ?_)
  refine rn_iload_n (i := 3) rfl rfl ?_
  refine rn_wI rfl hb (fun h9 hb => ?_)
  refine rn_aload_n (i := 0) rfl rfl ?_
  refine rn_dup rfl (bd_cat_rf _) ?_
  refine rn_gI (c := 8) (k := 3) rfl (by decide) hb (fun x10 hb => ?_)
  refine rn_iconst (x := (nI 1)) rfl (by decide) ?_
  refine rn_iadd rfl ?_
  refine rn_pI (c := 8) (k := 3) rfl (by decide) hb (fun h11 hb => ?_)
  refine rn_iconst (x := (nI 1)) rfl (by decide) ?_
  obtain ⟨hz, hb⟩ := grd_spec hb
  obtain rfl := Option.some.inj hb
  exact rn_zret rfl rfl (of_decide_eq_true hz)
def b_106_12   (h : Hp) : Option (Int32 × Hp) :=
  (grd (decide ((nI 0) = 0 ∨ (nI 0) = 1))).bind fun _ => some ((nI 0), h)
theorem u_106_12 (d : Nat) (hd : 0 ≤ d) (v0 : Option Nat) (v1 : Int32) (v2 : Int32) (v3 : Int32)  (h : Hp) (r : Int32 × Hp) (hb : b_106_12   h = some r) : Rn d 106 12 [some (va_rf v0), some (.int v1), some (.int v2), some (.int v3)] [] h (some (.int r.1), r.2) := by
  unfold b_106_12 at hb
  refine rn_iconst (x := (nI 0)) rfl (by decide) ?_
  obtain ⟨hz, hb⟩ := grd_spec hb
  obtain rfl := Option.some.inj hb
  exact rn_zret rfl rfl (of_decide_eq_true hz)
def b_106_0 (v0 : Option Nat) (v1 : Int32) (v2 : Int32) (v3 : Int32)  (h : Hp) : Option (Int32 × Hp) :=
  (gI 8 3 v0 h).bind fun x1 =>
  (gQ 8 0 v0 h).bind fun x2 =>
  (aL x2 h).bind fun x3 =>
  if x1 < x3 then b_106_14 v0 v1 v2 v3  h else b_106_12   h
theorem u_106_0 (d : Nat) (hd : 0 ≤ d) (v0 : Option Nat) (v1 : Int32) (v2 : Int32) (v3 : Int32)  (h : Hp) (r : Int32 × Hp) (hb : b_106_0 v0 v1 v2 v3  h = some r) : Rn d 106 0 [some (va_rf v0), some (.int v1), some (.int v2), some (.int v3)] [] h (some (.int r.1), r.2) := by
  unfold b_106_0 at hb
  refine rn_aload_n (i := 0) rfl rfl ?_
  refine rn_gI (c := 8) (k := 3) rfl (by decide) hb (fun x1 hb => ?_)
  refine rn_aload_n (i := 0) rfl rfl ?_
  refine rn_gQ (c := 8) (k := 0) rfl (by decide) hb (fun x2 hb => ?_)
  refine rn_aL rfl hb (fun x3 hb => ?_)
  refine rn_icmp_lt rfl rfl (fun hc => ?_) (fun hc => ?_)
  · exact u_106_14 d hd v0 v1 v2 v3  h _ (if_t hb hc)
  · exact u_106_12 d hd v0 v1 v2 v3  h _ (if_f hb hc)
/-- BitingDoors$Sentence.put(III)Z -/
def f_106 (v0 : Option Nat) (v1 : Int32) (v2 : Int32) (v3 : Int32) (h : Hp) : Option (Int32 × Hp) := b_106_0 v0 v1 v2 v3 h
theorem t_106 (d : Nat) (hd : 0 ≤ d) (v0 : Option Nat) (v1 : Int32) (v2 : Int32) (v3 : Int32) (h : Hp) (r : Int32 × Hp) (hb : f_106 v0 v1 v2 v3 h = some r) : Rn d 106 0 [some (va_rf v0), some (.int v1), some (.int v2), some (.int v3)] [] h (some (.int r.1), r.2) := by
  unfold f_106 at hb
  exact u_106_0 d hd v0 v1 v2 v3 h r hb
def b_105_47 (v0 : Option Nat) (v1 : Option Nat) (v2 : Int32) (v3 : Int32)  (h : Hp) : Option (Int32 × Hp) :=
  (gI 9 4 v1 h).bind fun x1 =>
  (grd (rC 9 v1 h)).bind fun _ =>
  (f_117 v1 h).bind fun p2 =>
  (grd (rC 8 v0 p2)).bind fun _ =>
  (f_106 v0 v2 v3 x1 p2).bind fun p3 =>
  (grd (decide (p3.1 = 0 ∨ p3.1 = 1))).bind fun _ => some (p3.1, p3.2)
theorem u_105_47 (d : Nat) (hd : 2 ≤ d) (v0 : Option Nat) (v1 : Option Nat) (v2 : Int32) (v3 : Int32)  (h : Hp) (r : Int32 × Hp) (hb : b_105_47 v0 v1 v2 v3  h = some r) : Rn d 105 47 [some (va_rf v0), some (va_rf v1), some (.int v2), some (.int v3), none] [] h (some (.int r.1), r.2) := by
  unfold b_105_47 at hb
  obtain ⟨e, rfl⟩ : ∃ e, d = e + 1 := ⟨d - 1, by omega⟩
  refine rn_aload_n (i := 1) rfl rfl ?_
  refine rn_gI (c := 9) (k := 4) rfl (by decide) hb (fun x1 hb => ?_)
  refine rn_istore (i := 4) (L1 := [some (va_rf v0), some (va_rf v1), some (.int v2), some (.int v3), some (.int x1)]) rfl (Nat.le_of_ble_eq_true rfl) (Or.inr rfl) rfl ?_
  refine rn_aload_n (i := 1) rfl rfl ?_
  obtain ⟨hrc, hb⟩ := grd_spec hb
  obtain ⟨p2, hc, hb⟩ := Option.bind_eq_some_iff.mp hb
  refine Rn.call0 (d := e) (As := [va_rf v1]) (rest := []) rfl rfl rfl (by decide) rfl rfl rfl (bd_rcV hrc rfl) (by decide) (bd_lenC (n := 3) rfl (bd_slR bd_slN) rfl) (bd_locC (n := 3) rfl (bd_slR bd_slN) rfl (t_117 e (by omega) v1 h _ hc)) ?_
  refine rn_aload_n (i := 0) rfl rfl ?_
  refine rn_iload_n (i := 2) rfl rfl ?_
  refine rn_iload_n (i := 3) rfl rfl ?_
  refine rn_iload (i := 4) rfl rfl ?_
  obtain ⟨hrc, hb⟩ := grd_spec hb
  obtain ⟨p3, hc, hb⟩ := Option.bind_eq_some_iff.mp hb
  refine Rn.call1 (d := e) (As := [va_rf v0, .int v2, .int v3, .int x1]) (rest := []) rfl rfl rfl (by decide) rfl rfl rfl (bd_rcV hrc rfl) (by decide) (bd_lenC (n := 4) rfl (bd_slR (bd_slI (bd_slI (bd_slI bd_slN)))) rfl) (bd_locC (n := 4) rfl (bd_slR (bd_slI (bd_slI (bd_slI bd_slN)))) rfl (t_106 e (by omega) v0 v2 v3 x1 p2 _ hc)) ?_
  obtain ⟨hz, hb⟩ := grd_spec hb
  obtain rfl := Option.some.inj hb
  exact rn_zret rfl rfl (of_decide_eq_true hz)
def b_105_41 (v1 : Option Nat)  (h : Hp) : Option (Int32 × Hp) :=
  (grd (rC 9 v1 h)).bind fun _ =>
  (f_119 v1 (nI 1) h).bind fun p1 =>
  (grd (decide (p1.1 = 0 ∨ p1.1 = 1))).bind fun _ => some (p1.1, p1.2)
theorem u_105_41 (d : Nat) (hd : 2 ≤ d) (v0 : Option Nat) (v1 : Option Nat) (v2 : Int32) (v3 : Int32)  (h : Hp) (r : Int32 × Hp) (hb : b_105_41 v1  h = some r) : Rn d 105 41 [some (va_rf v0), some (va_rf v1), some (.int v2), some (.int v3), none] [] h (some (.int r.1), r.2) := by
  unfold b_105_41 at hb
  obtain ⟨e, rfl⟩ : ∃ e, d = e + 1 := ⟨d - 1, by omega⟩
  refine rn_aload_n (i := 1) rfl rfl ?_
  refine rn_iconst (x := (nI 1)) rfl (by decide) ?_
  obtain ⟨hrc, hb⟩ := grd_spec hb
  obtain ⟨p1, hc, hb⟩ := Option.bind_eq_some_iff.mp hb
  refine Rn.call1 (d := e) (As := [va_rf v1, .int (nI 1)]) (rest := []) rfl rfl rfl (by decide) rfl rfl rfl (bd_rcV hrc rfl) (by decide) (bd_lenC (n := 2) rfl (bd_slR (bd_slI bd_slN)) rfl) (bd_locC (n := 2) rfl (bd_slR (bd_slI bd_slN)) rfl (t_119 e (by omega) v1 (nI 1) h _ hc)) ?_
  obtain ⟨hz, hb⟩ := grd_spec hb
  obtain rfl := Option.some.inj hb
  exact rn_zret rfl rfl (of_decide_eq_true hz)
def b_105_29 (v0 : Option Nat) (v1 : Option Nat) (v2 : Int32) (v3 : Int32)  (h : Hp) : Option (Int32 × Hp) :=
  (grd (rC 9 v1 h)).bind fun _ =>
  (f_117 v1 h).bind fun p1 =>
  (gI 9 2 v1 p1).bind fun x2 =>
  if x2 = (nI 2) then b_105_47 v0 v1 v2 v3  p1 else b_105_41 v1  p1
theorem u_105_29 (d : Nat) (hd : 2 ≤ d) (v0 : Option Nat) (v1 : Option Nat) (v2 : Int32) (v3 : Int32)  (h : Hp) (r : Int32 × Hp) (hb : b_105_29 v0 v1 v2 v3  h = some r) : Rn d 105 29 [some (va_rf v0), some (va_rf v1), some (.int v2), some (.int v3), none] [] h (some (.int r.1), r.2) := by
  unfold b_105_29 at hb
  obtain ⟨e, rfl⟩ : ∃ e, d = e + 1 := ⟨d - 1, by omega⟩
  refine rn_aload_n (i := 1) rfl rfl ?_
  obtain ⟨hrc, hb⟩ := grd_spec hb
  obtain ⟨p1, hc, hb⟩ := Option.bind_eq_some_iff.mp hb
  refine Rn.call0 (d := e) (As := [va_rf v1]) (rest := []) rfl rfl rfl (by decide) rfl rfl rfl (bd_rcV hrc rfl) (by decide) (bd_lenC (n := 3) rfl (bd_slR bd_slN) rfl) (bd_locC (n := 3) rfl (bd_slR bd_slN) rfl (t_117 e (by omega) v1 h _ hc)) ?_
  refine rn_aload_n (i := 1) rfl rfl ?_
  refine rn_gI (c := 9) (k := 2) rfl (by decide) hb (fun x2 hb => ?_)
  refine rn_iconst (x := (nI 2)) rfl (by decide) ?_
  refine rn_icmp_eq rfl rfl (fun hc => ?_) (fun hc => ?_)
  · exact u_105_47 (e + 1) hd v0 v1 v2 v3  p1 _ (if_t hb hc)
  · exact u_105_41 (e + 1) hd v0 v1 v2 v3  p1 _ (if_f hb hc)
def b_105_23 (v1 : Option Nat)  (h : Hp) : Option (Int32 × Hp) :=
  (grd (rC 9 v1 h)).bind fun _ =>
  (f_119 v1 (nI 1) h).bind fun p1 =>
  (grd (decide (p1.1 = 0 ∨ p1.1 = 1))).bind fun _ => some (p1.1, p1.2)
theorem u_105_23 (d : Nat) (hd : 2 ≤ d) (v0 : Option Nat) (v1 : Option Nat) (v2 : Int32) (v3 : Int32)  (h : Hp) (r : Int32 × Hp) (hb : b_105_23 v1  h = some r) : Rn d 105 23 [some (va_rf v0), some (va_rf v1), some (.int v2), some (.int v3), none] [] h (some (.int r.1), r.2) := by
  unfold b_105_23 at hb
  obtain ⟨e, rfl⟩ : ∃ e, d = e + 1 := ⟨d - 1, by omega⟩
  refine rn_aload_n (i := 1) rfl rfl ?_
  refine rn_iconst (x := (nI 1)) rfl (by decide) ?_
  obtain ⟨hrc, hb⟩ := grd_spec hb
  obtain ⟨p1, hc, hb⟩ := Option.bind_eq_some_iff.mp hb
  refine Rn.call1 (d := e) (As := [va_rf v1, .int (nI 1)]) (rest := []) rfl rfl rfl (by decide) rfl rfl rfl (bd_rcV hrc rfl) (by decide) (bd_lenC (n := 2) rfl (bd_slR (bd_slI bd_slN)) rfl) (bd_locC (n := 2) rfl (bd_slR (bd_slI bd_slN)) rfl (t_119 e (by omega) v1 (nI 1) h _ hc)) ?_
  obtain ⟨hz, hb⟩ := grd_spec hb
  obtain rfl := Option.some.inj hb
  exact rn_zret rfl rfl (of_decide_eq_true hz)
def b_105_17 (v0 : Option Nat) (v1 : Option Nat) (v2 : Int32) (v3 : Int32)  (h : Hp) : Option (Int32 × Hp) :=
  if v3 = (nI 62) then b_105_29 v0 v1 v2 v3  h else b_105_23 v1  h
theorem u_105_17 (d : Nat) (hd : 2 ≤ d) (v0 : Option Nat) (v1 : Option Nat) (v2 : Int32) (v3 : Int32)  (h : Hp) (r : Int32 × Hp) (hb : b_105_17 v0 v1 v2 v3  h = some r) : Rn d 105 17 [some (va_rf v0), some (va_rf v1), some (.int v2), some (.int v3), none] [] h (some (.int r.1), r.2) := by
  unfold b_105_17 at hb
  refine rn_iload_n (i := 3) rfl rfl ?_
  refine rn_bipush (x := (nI 62)) rfl (by decide) ?_
  refine rn_icmp_eq rfl rfl (fun hc => ?_) (fun hc => ?_)
  · exact u_105_29 d hd v0 v1 v2 v3  h _ (if_t hb hc)
  · exact u_105_23 d hd v0 v1 v2 v3  h _ (if_f hb hc)
def b_105_11 (v0 : Option Nat) (v1 : Option Nat) (v2 : Int32) (v3 : Int32)  (h : Hp) : Option (Int32 × Hp) :=
  if v3 = (nI 61) then b_105_29 v0 v1 v2 v3  h else b_105_17 v0 v1 v2 v3  h
theorem u_105_11 (d : Nat) (hd : 2 ≤ d) (v0 : Option Nat) (v1 : Option Nat) (v2 : Int32) (v3 : Int32)  (h : Hp) (r : Int32 × Hp) (hb : b_105_11 v0 v1 v2 v3  h = some r) : Rn d 105 11 [some (va_rf v0), some (va_rf v1), some (.int v2), some (.int v3), none] [] h (some (.int r.1), r.2) := by
  unfold b_105_11 at hb
  refine rn_iload_n (i := 3) rfl rfl ?_
  refine rn_bipush (x := (nI 61)) rfl (by decide) ?_
  refine rn_icmp_eq rfl rfl (fun hc => ?_) (fun hc => ?_)
  · exact u_105_29 d hd v0 v1 v2 v3  h _ (if_t hb hc)
  · exact u_105_17 d hd v0 v1 v2 v3  h _ (if_f hb hc)
def b_105_0 (v0 : Option Nat) (v1 : Option Nat) (v2 : Int32)  (h : Hp) : Option (Int32 × Hp) :=
  (gI 9 2 v1 h).bind fun x1 =>
  if x1 = (nI 60) then b_105_29 v0 v1 v2 x1  h else b_105_11 v0 v1 v2 x1  h
theorem u_105_0 (d : Nat) (hd : 2 ≤ d) (v0 : Option Nat) (v1 : Option Nat) (v2 : Int32)  (h : Hp) (r : Int32 × Hp) (hb : b_105_0 v0 v1 v2  h = some r) : Rn d 105 0 [some (va_rf v0), some (va_rf v1), some (.int v2), none, none] [] h (some (.int r.1), r.2) := by
  unfold b_105_0 at hb
  refine rn_aload_n (i := 1) rfl rfl ?_
  refine rn_gI (c := 9) (k := 2) rfl (by decide) hb (fun x1 hb => ?_)
  refine rn_istore_n (i := 3) (L1 := [some (va_rf v0), some (va_rf v1), some (.int v2), some (.int x1), none]) rfl (Nat.le_of_ble_eq_true rfl) (Or.inr rfl) rfl ?_
  refine rn_iload_n (i := 3) rfl rfl ?_
  refine rn_bipush (x := (nI 60)) rfl (by decide) ?_
  refine rn_icmp_eq rfl rfl (fun hc => ?_) (fun hc => ?_)
  · exact u_105_29 d hd v0 v1 v2 x1  h _ (if_t hb hc)
  · exact u_105_11 d hd v0 v1 v2 x1  h _ (if_f hb hc)
/-- BitingDoors$Sentence.readCompare(LBitingDoors$Text;I)Z -/
def f_105 (v0 : Option Nat) (v1 : Option Nat) (v2 : Int32) (h : Hp) : Option (Int32 × Hp) := b_105_0 v0 v1 v2 h
theorem t_105 (d : Nat) (hd : 2 ≤ d) (v0 : Option Nat) (v1 : Option Nat) (v2 : Int32) (h : Hp) (r : Int32 × Hp) (hb : f_105 v0 v1 v2 h = some r) : Rn d 105 0 [some (va_rf v0), some (va_rf v1), some (.int v2), none, none] [] h (some (.int r.1), r.2) := by
  unfold f_105 at hb
  exact u_105_0 d hd v0 v1 v2 h r hb
def b_108_68  (s0 : Int32) (h : Hp) : Option (Int32 × Hp) :=
  some (s0, h)
theorem u_108_68 (d : Nat) (hd : 1 ≤ d) (v0 : Option Nat) (s0 : Int32) (h : Hp) (r : Int32 × Hp) (hb : b_108_68  s0 h = some r) : Rn d 108 68 [some (va_rf v0)] [.int s0] h (some (.int r.1), r.2) := by
  unfold b_108_68 at hb
  obtain rfl := Option.some.inj hb
  exact rn_iret rfl rfl
def b_108_67   (h : Hp) : Option (Int32 × Hp) :=
  b_108_68  (-1 : Int32) h
theorem u_108_67 (d : Nat) (hd : 1 ≤ d) (v0 : Option Nat)  (h : Hp) (r : Int32 × Hp) (hb : b_108_67   h = some r) : Rn d 108 67 [some (va_rf v0)] [] h (some (.int r.1), r.2) := by
  unfold b_108_67 at hb
  refine rn_iconst (x := (-1 : Int32)) rfl (by decide) ?_
  exact u_108_68 d hd v0 (-1 : Int32) h _ hb
def b_108_62   (h : Hp) : Option (Int32 × Hp) :=
  b_108_68  (nI 11) h
theorem u_108_62 (d : Nat) (hd : 1 ≤ d) (v0 : Option Nat)  (h : Hp) (r : Int32 × Hp) (hb : b_108_62   h = some r) : Rn d 108 62 [some (va_rf v0)] [] h (some (.int r.1), r.2) := by
  unfold b_108_62 at hb
  refine rn_bipush (x := (nI 11)) rfl (by decide) ?_
  refine rn_goto rfl rfl ?_
  exact u_108_68 d hd v0 (nI 11) h _ hb
def b_108_52 (v0 : Option Nat)  (h : Hp) : Option (Int32 × Hp) :=
  (grd (rC 9 v0 h)).bind fun _ =>
  (f_120 v0 (some 5) h).bind fun p1 =>
  if p1.1 = 0 then b_108_67   p1.2 else b_108_62   p1.2
theorem u_108_52 (d : Nat) (hd : 1 ≤ d) (v0 : Option Nat)  (h : Hp) (r : Int32 × Hp) (hb : b_108_52 v0  h = some r) : Rn d 108 52 [some (va_rf v0)] [] h (some (.int r.1), r.2) := by
  unfold b_108_52 at hb
  obtain ⟨e, rfl⟩ : ∃ e, d = e + 1 := ⟨d - 1, by omega⟩
  refine rn_aload_n (i := 0) rfl rfl ?_
  refine rn_getstatic rfl ?_
  obtain ⟨hrc, hb⟩ := grd_spec hb
  obtain ⟨p1, hc, hb⟩ := Option.bind_eq_some_iff.mp hb
  refine Rn.call1 (d := e) (As := [va_rf v0, va_rf (some 5)]) (rest := []) rfl rfl rfl (by decide) rfl rfl rfl (bd_rcV hrc rfl) (by decide) (bd_lenC (n := 2) rfl (bd_slR (bd_slR bd_slN)) rfl) (bd_locC (n := 2) rfl (bd_slR (bd_slR bd_slN)) rfl (t_120 e (by omega) v0 (some 5) h _ hc)) ?_
  refine rn_if_eq rfl rfl (fun hc => ?_) (fun hc => ?_)
  · exact u_108_67 (e + 1) hd v0  p1.2 _ (if_t hb hc)
  · exact u_108_62 (e + 1) hd v0  p1.2 _ (if_f hb hc)
def b_108_49   (h : Hp) : Option (Int32 × Hp) :=
  some ((nI 10), h)
theorem u_108_49 (d : Nat) (hd : 1 ≤ d) (v0 : Option Nat)  (h : Hp) (r : Int32 × Hp) (hb : b_108_49   h = some r) : Rn d 108 49 [some (va_rf v0)] [] h (some (.int r.1), r.2) := by
  unfold b_108_49 at hb
  refine rn_bipush (x := (nI 10)) rfl (by decide) ?_
  obtain rfl := Option.some.inj hb
  exact rn_iret rfl rfl
def b_108_39 (v0 : Option Nat)  (h : Hp) : Option (Int32 × Hp) :=
  (grd (rC 9 v0 h)).bind fun _ =>
  (f_120 v0 (some 4) h).bind fun p1 =>
  if p1.1 = 0 then b_108_52 v0  p1.2 else b_108_49   p1.2
theorem u_108_39 (d : Nat) (hd : 1 ≤ d) (v0 : Option Nat)  (h : Hp) (r : Int32 × Hp) (hb : b_108_39 v0  h = some r) : Rn d 108 39 [some (va_rf v0)] [] h (some (.int r.1), r.2) := by
  unfold b_108_39 at hb
  obtain ⟨e, rfl⟩ : ∃ e, d = e + 1 := ⟨d - 1, by omega⟩
  refine rn_aload_n (i := 0) rfl rfl ?_
  refine rn_getstatic rfl ?_
  obtain ⟨hrc, hb⟩ := grd_spec hb
  obtain ⟨p1, hc, hb⟩ := Option.bind_eq_some_iff.mp hb
  refine Rn.call1 (d := e) (As := [va_rf v0, va_rf (some 4)]) (rest := []) rfl rfl rfl (by decide) rfl rfl rfl (bd_rcV hrc rfl) (by decide) (bd_lenC (n := 2) rfl (bd_slR (bd_slR bd_slN)) rfl) (bd_locC (n := 2) rfl (bd_slR (bd_slR bd_slN)) rfl (t_120 e (by omega) v0 (some 4) h _ hc)) ?_
  refine rn_if_eq rfl rfl (fun hc => ?_) (fun hc => ?_)
  · exact u_108_52 (e + 1) hd v0  p1.2 _ (if_t hb hc)
  · exact u_108_49 (e + 1) hd v0  p1.2 _ (if_f hb hc)
def b_108_36   (h : Hp) : Option (Int32 × Hp) :=
  some ((nI 9), h)
theorem u_108_36 (d : Nat) (hd : 1 ≤ d) (v0 : Option Nat)  (h : Hp) (r : Int32 × Hp) (hb : b_108_36   h = some r) : Rn d 108 36 [some (va_rf v0)] [] h (some (.int r.1), r.2) := by
  unfold b_108_36 at hb
  refine rn_bipush (x := (nI 9)) rfl (by decide) ?_
  obtain rfl := Option.some.inj hb
  exact rn_iret rfl rfl
def b_108_26 (v0 : Option Nat)  (h : Hp) : Option (Int32 × Hp) :=
  (grd (rC 9 v0 h)).bind fun _ =>
  (f_120 v0 (some 25) h).bind fun p1 =>
  if p1.1 = 0 then b_108_39 v0  p1.2 else b_108_36   p1.2
theorem u_108_26 (d : Nat) (hd : 1 ≤ d) (v0 : Option Nat)  (h : Hp) (r : Int32 × Hp) (hb : b_108_26 v0  h = some r) : Rn d 108 26 [some (va_rf v0)] [] h (some (.int r.1), r.2) := by
  unfold b_108_26 at hb
  obtain ⟨e, rfl⟩ : ∃ e, d = e + 1 := ⟨d - 1, by omega⟩
  refine rn_aload_n (i := 0) rfl rfl ?_
  refine rn_getstatic rfl ?_
  obtain ⟨hrc, hb⟩ := grd_spec hb
  obtain ⟨p1, hc, hb⟩ := Option.bind_eq_some_iff.mp hb
  refine Rn.call1 (d := e) (As := [va_rf v0, va_rf (some 25)]) (rest := []) rfl rfl rfl (by decide) rfl rfl rfl (bd_rcV hrc rfl) (by decide) (bd_lenC (n := 2) rfl (bd_slR (bd_slR bd_slN)) rfl) (bd_locC (n := 2) rfl (bd_slR (bd_slR bd_slN)) rfl (t_120 e (by omega) v0 (some 25) h _ hc)) ?_
  refine rn_if_eq rfl rfl (fun hc => ?_) (fun hc => ?_)
  · exact u_108_39 (e + 1) hd v0  p1.2 _ (if_t hb hc)
  · exact u_108_36 (e + 1) hd v0  p1.2 _ (if_f hb hc)
def b_108_23   (h : Hp) : Option (Int32 × Hp) :=
  some ((nI 8), h)
theorem u_108_23 (d : Nat) (hd : 1 ≤ d) (v0 : Option Nat)  (h : Hp) (r : Int32 × Hp) (hb : b_108_23   h = some r) : Rn d 108 23 [some (va_rf v0)] [] h (some (.int r.1), r.2) := by
  unfold b_108_23 at hb
  refine rn_bipush (x := (nI 8)) rfl (by decide) ?_
  obtain rfl := Option.some.inj hb
  exact rn_iret rfl rfl
def b_108_13 (v0 : Option Nat)  (h : Hp) : Option (Int32 × Hp) :=
  (grd (rC 9 v0 h)).bind fun _ =>
  (f_120 v0 (some 24) h).bind fun p1 =>
  if p1.1 = 0 then b_108_26 v0  p1.2 else b_108_23   p1.2
theorem u_108_13 (d : Nat) (hd : 1 ≤ d) (v0 : Option Nat)  (h : Hp) (r : Int32 × Hp) (hb : b_108_13 v0  h = some r) : Rn d 108 13 [some (va_rf v0)] [] h (some (.int r.1), r.2) := by
  unfold b_108_13 at hb
  obtain ⟨e, rfl⟩ : ∃ e, d = e + 1 := ⟨d - 1, by omega⟩
  refine rn_aload_n (i := 0) rfl rfl ?_
  refine rn_getstatic rfl ?_
  obtain ⟨hrc, hb⟩ := grd_spec hb
  obtain ⟨p1, hc, hb⟩ := Option.bind_eq_some_iff.mp hb
  refine Rn.call1 (d := e) (As := [va_rf v0, va_rf (some 24)]) (rest := []) rfl rfl rfl (by decide) rfl rfl rfl (bd_rcV hrc rfl) (by decide) (bd_lenC (n := 2) rfl (bd_slR (bd_slR bd_slN)) rfl) (bd_locC (n := 2) rfl (bd_slR (bd_slR bd_slN)) rfl (t_120 e (by omega) v0 (some 24) h _ hc)) ?_
  refine rn_if_eq rfl rfl (fun hc => ?_) (fun hc => ?_)
  · exact u_108_26 (e + 1) hd v0  p1.2 _ (if_t hb hc)
  · exact u_108_23 (e + 1) hd v0  p1.2 _ (if_f hb hc)
def b_108_10   (h : Hp) : Option (Int32 × Hp) :=
  some ((nI 7), h)
theorem u_108_10 (d : Nat) (hd : 1 ≤ d) (v0 : Option Nat)  (h : Hp) (r : Int32 × Hp) (hb : b_108_10   h = some r) : Rn d 108 10 [some (va_rf v0)] [] h (some (.int r.1), r.2) := by
  unfold b_108_10 at hb
  refine rn_bipush (x := (nI 7)) rfl (by decide) ?_
  obtain rfl := Option.some.inj hb
  exact rn_iret rfl rfl
def b_108_0 (v0 : Option Nat)  (h : Hp) : Option (Int32 × Hp) :=
  (grd (rC 9 v0 h)).bind fun _ =>
  (f_120 v0 (some 23) h).bind fun p1 =>
  if p1.1 = 0 then b_108_13 v0  p1.2 else b_108_10   p1.2
theorem u_108_0 (d : Nat) (hd : 1 ≤ d) (v0 : Option Nat)  (h : Hp) (r : Int32 × Hp) (hb : b_108_0 v0  h = some r) : Rn d 108 0 [some (va_rf v0)] [] h (some (.int r.1), r.2) := by
  unfold b_108_0 at hb
  obtain ⟨e, rfl⟩ : ∃ e, d = e + 1 := ⟨d - 1, by omega⟩
  refine rn_aload_n (i := 0) rfl rfl ?_
  refine rn_getstatic rfl ?_
  obtain ⟨hrc, hb⟩ := grd_spec hb
  obtain ⟨p1, hc, hb⟩ := Option.bind_eq_some_iff.mp hb
  refine Rn.call1 (d := e) (As := [va_rf v0, va_rf (some 23)]) (rest := []) rfl rfl rfl (by decide) rfl rfl rfl (bd_rcV hrc rfl) (by decide) (bd_lenC (n := 2) rfl (bd_slR (bd_slR bd_slN)) rfl) (bd_locC (n := 2) rfl (bd_slR (bd_slR bd_slN)) rfl (t_120 e (by omega) v0 (some 23) h _ hc)) ?_
  refine rn_if_eq rfl rfl (fun hc => ?_) (fun hc => ?_)
  · exact u_108_13 (e + 1) hd v0  p1.2 _ (if_t hb hc)
  · exact u_108_10 (e + 1) hd v0  p1.2 _ (if_f hb hc)
/-- BitingDoors$Sentence.measureOf(LBitingDoors$Text;)I -/
def f_108 (v0 : Option Nat) (h : Hp) : Option (Int32 × Hp) := b_108_0 v0 h
theorem t_108 (d : Nat) (hd : 1 ≤ d) (v0 : Option Nat) (h : Hp) (r : Int32 × Hp) (hb : f_108 v0 h = some r) : Rn d 108 0 [some (va_rf v0)] [] h (some (.int r.1), r.2) := by
  unfold f_108 at hb
  exact u_108_0 d hd v0 h r hb
def b_107_67  (s0 : Int32) (h : Hp) : Option (Int32 × Hp) :=
  some (s0, h)
theorem u_107_67 (d : Nat) (hd : 2 ≤ d) (v0 : Option Nat) (s0 : Int32) (h : Hp) (r : Int32 × Hp) (hb : b_107_67  s0 h = some r) : Rn d 107 67 [some (va_rf v0)] [.int s0] h (some (.int r.1), r.2) := by
  unfold b_107_67 at hb
  obtain rfl := Option.some.inj hb
  exact rn_iret rfl rfl
def b_107_63 (v0 : Option Nat)  (h : Hp) : Option (Int32 × Hp) :=
  (f_108 v0 h).bind fun p1 =>
  b_107_67  p1.1 p1.2
theorem u_107_63 (d : Nat) (hd : 2 ≤ d) (v0 : Option Nat)  (h : Hp) (r : Int32 × Hp) (hb : b_107_63 v0  h = some r) : Rn d 107 63 [some (va_rf v0)] [] h (some (.int r.1), r.2) := by
  unfold b_107_63 at hb
  obtain ⟨e, rfl⟩ : ∃ e, d = e + 1 := ⟨d - 1, by omega⟩
  refine rn_aload_n (i := 0) rfl rfl ?_
  obtain ⟨p1, hc, hb⟩ := Option.bind_eq_some_iff.mp hb
  refine Rn.call1 (d := e) (As := [va_rf v0]) (rest := []) rfl rfl rfl (by decide) rfl rfl rfl rfl (by decide) (bd_lenC (n := 1) rfl (bd_slR bd_slN) rfl) (bd_locC (n := 1) rfl (bd_slR bd_slN) rfl (t_108 e (by omega) v0 h _ hc)) ?_
  exact u_107_67 (e + 1) hd v0 p1.1 p1.2 _ hb
def b_107_58   (h : Hp) : Option (Int32 × Hp) :=
  b_107_67  (nI 6) h
theorem u_107_58 (d : Nat) (hd : 2 ≤ d) (v0 : Option Nat)  (h : Hp) (r : Int32 × Hp) (hb : b_107_58   h = some r) : Rn d 107 58 [some (va_rf v0)] [] h (some (.int r.1), r.2) := by
  unfold b_107_58 at hb
  refine rn_bipush (x := (nI 6)) rfl (by decide) ?_
  refine rn_goto rfl rfl ?_
  exact u_107_67 d hd v0 (nI 6) h _ hb
def b_107_48 (v0 : Option Nat)  (h : Hp) : Option (Int32 × Hp) :=
  (grd (rC 9 v0 h)).bind fun _ =>
  (f_120 v0 (some 22) h).bind fun p1 =>
  if p1.1 = 0 then b_107_63 v0  p1.2 else b_107_58   p1.2
theorem u_107_48 (d : Nat) (hd : 2 ≤ d) (v0 : Option Nat)  (h : Hp) (r : Int32 × Hp) (hb : b_107_48 v0  h = some r) : Rn d 107 48 [some (va_rf v0)] [] h (some (.int r.1), r.2) := by
  unfold b_107_48 at hb
  obtain ⟨e, rfl⟩ : ∃ e, d = e + 1 := ⟨d - 1, by omega⟩
  refine rn_aload_n (i := 0) rfl rfl ?_
  refine rn_getstatic rfl ?_
  obtain ⟨hrc, hb⟩ := grd_spec hb
  obtain ⟨p1, hc, hb⟩ := Option.bind_eq_some_iff.mp hb
  refine Rn.call1 (d := e) (As := [va_rf v0, va_rf (some 22)]) (rest := []) rfl rfl rfl (by decide) rfl rfl rfl (bd_rcV hrc rfl) (by decide) (bd_lenC (n := 2) rfl (bd_slR (bd_slR bd_slN)) rfl) (bd_locC (n := 2) rfl (bd_slR (bd_slR bd_slN)) rfl (t_120 e (by omega) v0 (some 22) h _ hc)) ?_
  refine rn_if_eq rfl rfl (fun hc => ?_) (fun hc => ?_)
  · exact u_107_63 (e + 1) hd v0  p1.2 _ (if_t hb hc)
  · exact u_107_58 (e + 1) hd v0  p1.2 _ (if_f hb hc)
def b_107_46   (h : Hp) : Option (Int32 × Hp) :=
  some ((nI 5), h)
theorem u_107_46 (d : Nat) (hd : 2 ≤ d) (v0 : Option Nat)  (h : Hp) (r : Int32 × Hp) (hb : b_107_46   h = some r) : Rn d 107 46 [some (va_rf v0)] [] h (some (.int r.1), r.2) := by
  unfold b_107_46 at hb
  refine rn_iconst (x := (nI 5)) rfl (by decide) ?_
  obtain rfl := Option.some.inj hb
  exact rn_iret rfl rfl
def b_107_36 (v0 : Option Nat)  (h : Hp) : Option (Int32 × Hp) :=
  (grd (rC 9 v0 h)).bind fun _ =>
  (f_120 v0 (some 21) h).bind fun p1 =>
  if p1.1 = 0 then b_107_48 v0  p1.2 else b_107_46   p1.2
theorem u_107_36 (d : Nat) (hd : 2 ≤ d) (v0 : Option Nat)  (h : Hp) (r : Int32 × Hp) (hb : b_107_36 v0  h = some r) : Rn d 107 36 [some (va_rf v0)] [] h (some (.int r.1), r.2) := by
  unfold b_107_36 at hb
  obtain ⟨e, rfl⟩ : ∃ e, d = e + 1 := ⟨d - 1, by omega⟩
  refine rn_aload_n (i := 0) rfl rfl ?_
  refine rn_getstatic rfl ?_
  obtain ⟨hrc, hb⟩ := grd_spec hb
  obtain ⟨p1, hc, hb⟩ := Option.bind_eq_some_iff.mp hb
  refine Rn.call1 (d := e) (As := [va_rf v0, va_rf (some 21)]) (rest := []) rfl rfl rfl (by decide) rfl rfl rfl (bd_rcV hrc rfl) (by decide) (bd_lenC (n := 2) rfl (bd_slR (bd_slR bd_slN)) rfl) (bd_locC (n := 2) rfl (bd_slR (bd_slR bd_slN)) rfl (t_120 e (by omega) v0 (some 21) h _ hc)) ?_
  refine rn_if_eq rfl rfl (fun hc => ?_) (fun hc => ?_)
  · exact u_107_48 (e + 1) hd v0  p1.2 _ (if_t hb hc)
  · exact u_107_46 (e + 1) hd v0  p1.2 _ (if_f hb hc)
def b_107_34   (h : Hp) : Option (Int32 × Hp) :=
  some ((nI 4), h)
theorem u_107_34 (d : Nat) (hd : 2 ≤ d) (v0 : Option Nat)  (h : Hp) (r : Int32 × Hp) (hb : b_107_34   h = some r) : Rn d 107 34 [some (va_rf v0)] [] h (some (.int r.1), r.2) := by
  unfold b_107_34 at hb
  refine rn_iconst (x := (nI 4)) rfl (by decide) ?_
  obtain rfl := Option.some.inj hb
  exact rn_iret rfl rfl
def b_107_24 (v0 : Option Nat)  (h : Hp) : Option (Int32 × Hp) :=
  (grd (rC 9 v0 h)).bind fun _ =>
  (f_120 v0 (some 20) h).bind fun p1 =>
  if p1.1 = 0 then b_107_36 v0  p1.2 else b_107_34   p1.2
theorem u_107_24 (d : Nat) (hd : 2 ≤ d) (v0 : Option Nat)  (h : Hp) (r : Int32 × Hp) (hb : b_107_24 v0  h = some r) : Rn d 107 24 [some (va_rf v0)] [] h (some (.int r.1), r.2) := by
  unfold b_107_24 at hb
  obtain ⟨e, rfl⟩ : ∃ e, d = e + 1 := ⟨d - 1, by omega⟩
  refine rn_aload_n (i := 0) rfl rfl ?_
  refine rn_getstatic rfl ?_
  obtain ⟨hrc, hb⟩ := grd_spec hb
  obtain ⟨p1, hc, hb⟩ := Option.bind_eq_some_iff.mp hb
  refine Rn.call1 (d := e) (As := [va_rf v0, va_rf (some 20)]) (rest := []) rfl rfl rfl (by decide) rfl rfl rfl (bd_rcV hrc rfl) (by decide) (bd_lenC (n := 2) rfl (bd_slR (bd_slR bd_slN)) rfl) (bd_locC (n := 2) rfl (bd_slR (bd_slR bd_slN)) rfl (t_120 e (by omega) v0 (some 20) h _ hc)) ?_
  refine rn_if_eq rfl rfl (fun hc => ?_) (fun hc => ?_)
  · exact u_107_36 (e + 1) hd v0  p1.2 _ (if_t hb hc)
  · exact u_107_34 (e + 1) hd v0  p1.2 _ (if_f hb hc)
def b_107_22   (h : Hp) : Option (Int32 × Hp) :=
  some ((nI 3), h)
theorem u_107_22 (d : Nat) (hd : 2 ≤ d) (v0 : Option Nat)  (h : Hp) (r : Int32 × Hp) (hb : b_107_22   h = some r) : Rn d 107 22 [some (va_rf v0)] [] h (some (.int r.1), r.2) := by
  unfold b_107_22 at hb
  refine rn_iconst (x := (nI 3)) rfl (by decide) ?_
  obtain rfl := Option.some.inj hb
  exact rn_iret rfl rfl
def b_107_12 (v0 : Option Nat)  (h : Hp) : Option (Int32 × Hp) :=
  (grd (rC 9 v0 h)).bind fun _ =>
  (f_120 v0 (some 10) h).bind fun p1 =>
  if p1.1 = 0 then b_107_24 v0  p1.2 else b_107_22   p1.2
theorem u_107_12 (d : Nat) (hd : 2 ≤ d) (v0 : Option Nat)  (h : Hp) (r : Int32 × Hp) (hb : b_107_12 v0  h = some r) : Rn d 107 12 [some (va_rf v0)] [] h (some (.int r.1), r.2) := by
  unfold b_107_12 at hb
  obtain ⟨e, rfl⟩ : ∃ e, d = e + 1 := ⟨d - 1, by omega⟩
  refine rn_aload_n (i := 0) rfl rfl ?_
  refine rn_getstatic rfl ?_
  obtain ⟨hrc, hb⟩ := grd_spec hb
  obtain ⟨p1, hc, hb⟩ := Option.bind_eq_some_iff.mp hb
  refine Rn.call1 (d := e) (As := [va_rf v0, va_rf (some 10)]) (rest := []) rfl rfl rfl (by decide) rfl rfl rfl (bd_rcV hrc rfl) (by decide) (bd_lenC (n := 2) rfl (bd_slR (bd_slR bd_slN)) rfl) (bd_locC (n := 2) rfl (bd_slR (bd_slR bd_slN)) rfl (t_120 e (by omega) v0 (some 10) h _ hc)) ?_
  refine rn_if_eq rfl rfl (fun hc => ?_) (fun hc => ?_)
  · exact u_107_24 (e + 1) hd v0  p1.2 _ (if_t hb hc)
  · exact u_107_22 (e + 1) hd v0  p1.2 _ (if_f hb hc)
def b_107_10   (h : Hp) : Option (Int32 × Hp) :=
  some ((nI 2), h)
theorem u_107_10 (d : Nat) (hd : 2 ≤ d) (v0 : Option Nat)  (h : Hp) (r : Int32 × Hp) (hb : b_107_10   h = some r) : Rn d 107 10 [some (va_rf v0)] [] h (some (.int r.1), r.2) := by
  unfold b_107_10 at hb
  refine rn_iconst (x := (nI 2)) rfl (by decide) ?_
  obtain rfl := Option.some.inj hb
  exact rn_iret rfl rfl
def b_107_0 (v0 : Option Nat)  (h : Hp) : Option (Int32 × Hp) :=
  (grd (rC 9 v0 h)).bind fun _ =>
  (f_120 v0 (some 19) h).bind fun p1 =>
  if p1.1 = 0 then b_107_12 v0  p1.2 else b_107_10   p1.2
theorem u_107_0 (d : Nat) (hd : 2 ≤ d) (v0 : Option Nat)  (h : Hp) (r : Int32 × Hp) (hb : b_107_0 v0  h = some r) : Rn d 107 0 [some (va_rf v0)] [] h (some (.int r.1), r.2) := by
  unfold b_107_0 at hb
  obtain ⟨e, rfl⟩ : ∃ e, d = e + 1 := ⟨d - 1, by omega⟩
  refine rn_aload_n (i := 0) rfl rfl ?_
  refine rn_getstatic rfl ?_
  obtain ⟨hrc, hb⟩ := grd_spec hb
  obtain ⟨p1, hc, hb⟩ := Option.bind_eq_some_iff.mp hb
  refine Rn.call1 (d := e) (As := [va_rf v0, va_rf (some 19)]) (rest := []) rfl rfl rfl (by decide) rfl rfl rfl (bd_rcV hrc rfl) (by decide) (bd_lenC (n := 2) rfl (bd_slR (bd_slR bd_slN)) rfl) (bd_locC (n := 2) rfl (bd_slR (bd_slR bd_slN)) rfl (t_120 e (by omega) v0 (some 19) h _ hc)) ?_
  refine rn_if_eq rfl rfl (fun hc => ?_) (fun hc => ?_)
  · exact u_107_12 (e + 1) hd v0  p1.2 _ (if_t hb hc)
  · exact u_107_10 (e + 1) hd v0  p1.2 _ (if_f hb hc)
/-- BitingDoors$Sentence.kindOf(LBitingDoors$Text;)I -/
def f_107 (v0 : Option Nat) (h : Hp) : Option (Int32 × Hp) := b_107_0 v0 h
theorem t_107 (d : Nat) (hd : 2 ≤ d) (v0 : Option Nat) (h : Hp) (r : Int32 × Hp) (hb : f_107 v0 h = some r) : Rn d 107 0 [some (va_rf v0)] [] h (some (.int r.1), r.2) := by
  unfold f_107 at hb
  exact u_107_0 d hd v0 h r hb
def b_103_59 (R : Option Nat → Option Nat → Option Nat → Int32 → Hp → Option (Int32 × Hp))   (h : Hp) : Option (Int32 × Hp) :=
  (grd (decide ((nI 1) = 0 ∨ (nI 1) = 1))).bind fun _ => some ((nI 1), h)
theorem u_103_59 (E : Nat) (hE : 2 ≤ E) (d : Nat) (hd : E + 1 ≤ d) (R : Option Nat → Option Nat → Option Nat → Int32 → Hp → Option (Int32 × Hp)) (HR : ∀ (d : Nat) (a0 : Option Nat) (a1 : Option Nat) (a2 : Option Nat) (a3 : Int32) (h : Hp) (r : Int32 × Hp), E ≤ d → R a0 a1 a2 a3 h = some r → Rn d 104 0 [some (va_rf a0), some (va_rf a1), some (va_rf a2), some (.int a3), none, none] [] h (some (.int r.1), r.2)) (v0 : Option Nat) (v1 : Option Nat) (v2 : Option Nat) (v3 : Int32) (v4 : Int32)  (h : Hp) (r : Int32 × Hp) (hb : b_103_59 R   h = some r) : Rn d 103 59 [some (va_rf v0), some (va_rf v1), some (va_rf v2), some (.int v3), some (.int v4)] [] h (some (.int r.1), r.2) := by
  unfold b_103_59 at hb
  refine rn_iconst (x := (nI 1)) rfl (by decide) ?_
  obtain ⟨hz, hb⟩ := grd_spec hb
  obtain rfl := Option.some.inj hb
  exact rn_zret rfl rfl (of_decide_eq_true hz)
def b_103_45 (R : Option Nat → Option Nat → Option Nat → Int32 → Hp → Option (Int32 × Hp)) (k15 : Option Nat → Option Nat → Option Nat → Int32 → Int32 → Hp → Option (Int32 × Hp)) (v0 : Option Nat) (v1 : Option Nat) (v2 : Option Nat) (v3 : Int32) (v4 : Int32)  (h : Hp) : Option (Int32 × Hp) :=
  (grd (rC 8 v0 h)).bind fun _ =>
  (f_106 v0 (nI 1) (nI 0) (nI 0) h).bind fun p1 =>
  bnd (v4 + (nI 1)) fun x2 =>
  k15 v0 v1 v2 v3 x2 p1.2
theorem u_103_45 (E : Nat) (hE : 2 ≤ E) (d : Nat) (hd : E + 1 ≤ d) (R : Option Nat → Option Nat → Option Nat → Int32 → Hp → Option (Int32 × Hp)) (HR : ∀ (d : Nat) (a0 : Option Nat) (a1 : Option Nat) (a2 : Option Nat) (a3 : Int32) (h : Hp) (r : Int32 × Hp), E ≤ d → R a0 a1 a2 a3 h = some r → Rn d 104 0 [some (va_rf a0), some (va_rf a1), some (va_rf a2), some (.int a3), none, none] [] h (some (.int r.1), r.2)) (k15 : Option Nat → Option Nat → Option Nat → Int32 → Int32 → Hp → Option (Int32 × Hp)) (K15 : ∀ (v0 : Option Nat) (v1 : Option Nat) (v2 : Option Nat) (v3 : Int32) (v4 : Int32) (h : Hp) (r : Int32 × Hp), k15 v0 v1 v2 v3 v4 h = some r → Rn d 103 15 [some (va_rf v0), some (va_rf v1), some (va_rf v2), some (.int v3), some (.int v4)] [] h (some (.int r.1), r.2)) (v0 : Option Nat) (v1 : Option Nat) (v2 : Option Nat) (v3 : Int32) (v4 : Int32)  (h : Hp) (r : Int32 × Hp) (hb : b_103_45 R k15 v0 v1 v2 v3 v4  h = some r) : Rn d 103 45 [some (va_rf v0), some (va_rf v1), some (va_rf v2), some (.int v3), some (.int v4)] [] h (some (.int r.1), r.2) := by
  unfold b_103_45 at hb
  obtain ⟨e, rfl⟩ : ∃ e, d = e + 1 := ⟨d - 1, by omega⟩
  refine rn_aload_n (i := 0) rfl rfl ?_
  refine rn_iconst (x := (nI 1)) rfl (by decide) ?_
  refine rn_iconst (x := (nI 0)) rfl (by decide) ?_
  refine rn_iconst (x := (nI 0)) rfl (by decide) ?_
  obtain ⟨hrc, hb⟩ := grd_spec hb
  obtain ⟨p1, hc, hb⟩ := Option.bind_eq_some_iff.mp hb
  refine Rn.call1 (d := e) (As := [va_rf v0, .int (nI 1), .int (nI 0), .int (nI 0)]) (rest := []) rfl rfl rfl (by decide) rfl rfl rfl (bd_rcV hrc rfl) (by decide) (bd_lenC (n := 4) rfl (bd_slR (bd_slI (bd_slI (bd_slI bd_slN)))) rfl) (bd_locC (n := 4) rfl (bd_slR (bd_slI (bd_slI (bd_slI bd_slN)))) rfl (t_106 e (by omega) v0 (nI 1) (nI 0) (nI 0) h _ hc)) ?_
  refine rn_pop rfl rfl ?_
  obtain ⟨x2, ex2, hb⟩ := bnd_spec hb
  refine rn_iinc (i := 4) (y := x2) (L1 := [some (va_rf v0), some (va_rf v1), some (va_rf v2), some (.int v3), some (.int x2)]) rfl rfl (Nat.le_of_ble_eq_true rfl) (Or.inr rfl) (by rw [ex2]; rfl) rfl ?_
  refine rn_goto rfl rfl ?_
  exact K15 v0 v1 v2 v3 x2 p1.2 _ hb
def b_103_43 (R : Option Nat → Option Nat → Option Nat → Int32 → Hp → Option (Int32 × Hp))   (h : Hp) : Option (Int32 × Hp) :=
  (grd (decide ((nI 0) = 0 ∨ (nI 0) = 1))).bind fun _ => some ((nI 0), h)
theorem u_103_43 (E : Nat) (hE : 2 ≤ E) (d : Nat) (hd : E + 1 ≤ d) (R : Option Nat → Option Nat → Option Nat → Int32 → Hp → Option (Int32 × Hp)) (HR : ∀ (d : Nat) (a0 : Option Nat) (a1 : Option Nat) (a2 : Option Nat) (a3 : Int32) (h : Hp) (r : Int32 × Hp), E ≤ d → R a0 a1 a2 a3 h = some r → Rn d 104 0 [some (va_rf a0), some (va_rf a1), some (va_rf a2), some (.int a3), none, none] [] h (some (.int r.1), r.2)) (v0 : Option Nat) (v1 : Option Nat) (v2 : Option Nat) (v3 : Int32) (v4 : Int32)  (h : Hp) (r : Int32 × Hp) (hb : b_103_43 R   h = some r) : Rn d 103 43 [some (va_rf v0), some (va_rf v1), some (va_rf v2), some (.int v3), some (.int v4)] [] h (some (.int r.1), r.2) := by
  unfold b_103_43 at hb
  refine rn_iconst (x := (nI 0)) rfl (by decide) ?_
  obtain ⟨hz, hb⟩ := grd_spec hb
  obtain rfl := Option.some.inj hb
  exact rn_zret rfl rfl (of_decide_eq_true hz)
def b_103_33 (R : Option Nat → Option Nat → Option Nat → Int32 → Hp → Option (Int32 × Hp)) (k15 : Option Nat → Option Nat → Option Nat → Int32 → Int32 → Hp → Option (Int32 × Hp)) (v0 : Option Nat) (v1 : Option Nat) (v2 : Option Nat) (v3 : Int32) (v4 : Int32)  (h : Hp) : Option (Int32 × Hp) :=
  (grd (rC 8 v0 h)).bind fun _ =>
  (R v0 v1 v2 v3 h).bind fun p1 =>
  if ¬ p1.1 = 0 then b_103_45 R k15 v0 v1 v2 v3 v4  p1.2 else b_103_43 R   p1.2
theorem u_103_33 (E : Nat) (hE : 2 ≤ E) (d : Nat) (hd : E + 1 ≤ d) (R : Option Nat → Option Nat → Option Nat → Int32 → Hp → Option (Int32 × Hp)) (HR : ∀ (d : Nat) (a0 : Option Nat) (a1 : Option Nat) (a2 : Option Nat) (a3 : Int32) (h : Hp) (r : Int32 × Hp), E ≤ d → R a0 a1 a2 a3 h = some r → Rn d 104 0 [some (va_rf a0), some (va_rf a1), some (va_rf a2), some (.int a3), none, none] [] h (some (.int r.1), r.2)) (k15 : Option Nat → Option Nat → Option Nat → Int32 → Int32 → Hp → Option (Int32 × Hp)) (K15 : ∀ (v0 : Option Nat) (v1 : Option Nat) (v2 : Option Nat) (v3 : Int32) (v4 : Int32) (h : Hp) (r : Int32 × Hp), k15 v0 v1 v2 v3 v4 h = some r → Rn d 103 15 [some (va_rf v0), some (va_rf v1), some (va_rf v2), some (.int v3), some (.int v4)] [] h (some (.int r.1), r.2)) (v0 : Option Nat) (v1 : Option Nat) (v2 : Option Nat) (v3 : Int32) (v4 : Int32)  (h : Hp) (r : Int32 × Hp) (hb : b_103_33 R k15 v0 v1 v2 v3 v4  h = some r) : Rn d 103 33 [some (va_rf v0), some (va_rf v1), some (va_rf v2), some (.int v3), some (.int v4)] [] h (some (.int r.1), r.2) := by
  unfold b_103_33 at hb
  obtain ⟨e, rfl⟩ : ∃ e, d = e + 1 := ⟨d - 1, by omega⟩
  refine rn_aload_n (i := 0) rfl rfl ?_
  refine rn_aload_n (i := 1) rfl rfl ?_
  refine rn_aload_n (i := 2) rfl rfl ?_
  refine rn_iload_n (i := 3) rfl rfl ?_
  obtain ⟨hrc, hb⟩ := grd_spec hb
  obtain ⟨p1, hc, hb⟩ := Option.bind_eq_some_iff.mp hb
  refine Rn.call1 (d := e) (As := [va_rf v0, va_rf v1, va_rf v2, .int v3]) (rest := []) rfl rfl rfl (by decide) rfl rfl rfl (bd_rcV hrc rfl) (by decide) (bd_lenC (n := 6) rfl (bd_slR (bd_slR (bd_slR (bd_slI bd_slN)))) rfl) (bd_locC (n := 6) rfl (bd_slR (bd_slR (bd_slR (bd_slI bd_slN)))) rfl (HR e v0 v1 v2 v3 h _ (by omega) hc)) ?_
  refine rn_if_ne rfl rfl (fun hc => ?_) (fun hc => ?_)
  · exact u_103_45 E hE (e + 1) hd R HR k15 K15 v0 v1 v2 v3 v4  p1.2 _ (if_t hb hc)
  · exact u_103_43 E hE (e + 1) hd R HR v0 v1 v2 v3 v4  p1.2 _ (if_f hb hc)
def b_103_23 (R : Option Nat → Option Nat → Option Nat → Int32 → Hp → Option (Int32 × Hp)) (k15 : Option Nat → Option Nat → Option Nat → Int32 → Int32 → Hp → Option (Int32 × Hp)) (v0 : Option Nat) (v1 : Option Nat) (v2 : Option Nat) (v3 : Int32) (v4 : Int32)  (h : Hp) : Option (Int32 × Hp) :=
  (grd (rC 9 v1 h)).bind fun _ =>
  (f_122 v1 (some 18) h).bind fun p1 =>
  if p1.1 = 0 then b_103_59 R   p1.2 else b_103_33 R k15 v0 v1 v2 v3 v4  p1.2
theorem u_103_23 (E : Nat) (hE : 2 ≤ E) (d : Nat) (hd : E + 1 ≤ d) (R : Option Nat → Option Nat → Option Nat → Int32 → Hp → Option (Int32 × Hp)) (HR : ∀ (d : Nat) (a0 : Option Nat) (a1 : Option Nat) (a2 : Option Nat) (a3 : Int32) (h : Hp) (r : Int32 × Hp), E ≤ d → R a0 a1 a2 a3 h = some r → Rn d 104 0 [some (va_rf a0), some (va_rf a1), some (va_rf a2), some (.int a3), none, none] [] h (some (.int r.1), r.2)) (k15 : Option Nat → Option Nat → Option Nat → Int32 → Int32 → Hp → Option (Int32 × Hp)) (K15 : ∀ (v0 : Option Nat) (v1 : Option Nat) (v2 : Option Nat) (v3 : Int32) (v4 : Int32) (h : Hp) (r : Int32 × Hp), k15 v0 v1 v2 v3 v4 h = some r → Rn d 103 15 [some (va_rf v0), some (va_rf v1), some (va_rf v2), some (.int v3), some (.int v4)] [] h (some (.int r.1), r.2)) (v0 : Option Nat) (v1 : Option Nat) (v2 : Option Nat) (v3 : Int32) (v4 : Int32)  (h : Hp) (r : Int32 × Hp) (hb : b_103_23 R k15 v0 v1 v2 v3 v4  h = some r) : Rn d 103 23 [some (va_rf v0), some (va_rf v1), some (va_rf v2), some (.int v3), some (.int v4)] [] h (some (.int r.1), r.2) := by
  unfold b_103_23 at hb
  obtain ⟨e, rfl⟩ : ∃ e, d = e + 1 := ⟨d - 1, by omega⟩
  refine rn_aload_n (i := 1) rfl rfl ?_
  refine rn_getstatic rfl ?_
  obtain ⟨hrc, hb⟩ := grd_spec hb
  obtain ⟨p1, hc, hb⟩ := Option.bind_eq_some_iff.mp hb
  refine Rn.call1 (d := e) (As := [va_rf v1, va_rf (some 18)]) (rest := []) rfl rfl rfl (by decide) rfl rfl rfl (bd_rcV hrc rfl) (by decide) (bd_lenC (n := 2) rfl (bd_slR (bd_slR bd_slN)) rfl) (bd_locC (n := 2) rfl (bd_slR (bd_slR bd_slN)) rfl (t_122 e (by omega) v1 (some 18) h _ hc)) ?_
  refine rn_if_eq rfl rfl (fun hc => ?_) (fun hc => ?_)
  · exact u_103_59 E hE (e + 1) hd R HR v0 v1 v2 v3 v4  p1.2 _ (if_t hb hc)
  · exact u_103_33 E hE (e + 1) hd R HR k15 K15 v0 v1 v2 v3 v4  p1.2 _ (if_f hb hc)
def b_103_15 (R : Option Nat → Option Nat → Option Nat → Int32 → Hp → Option (Int32 × Hp)) (k15 : Option Nat → Option Nat → Option Nat → Int32 → Int32 → Hp → Option (Int32 × Hp)) (v0 : Option Nat) (v1 : Option Nat) (v2 : Option Nat) (v3 : Int32) (v4 : Int32)  (h : Hp) : Option (Int32 × Hp) :=
  if (nI 200) ≤ v4 then b_103_59 R   h else b_103_23 R k15 v0 v1 v2 v3 v4  h
theorem u_103_15 (E : Nat) (hE : 2 ≤ E) (d : Nat) (hd : E + 1 ≤ d) (R : Option Nat → Option Nat → Option Nat → Int32 → Hp → Option (Int32 × Hp)) (HR : ∀ (d : Nat) (a0 : Option Nat) (a1 : Option Nat) (a2 : Option Nat) (a3 : Int32) (h : Hp) (r : Int32 × Hp), E ≤ d → R a0 a1 a2 a3 h = some r → Rn d 104 0 [some (va_rf a0), some (va_rf a1), some (va_rf a2), some (.int a3), none, none] [] h (some (.int r.1), r.2)) (k15 : Option Nat → Option Nat → Option Nat → Int32 → Int32 → Hp → Option (Int32 × Hp)) (K15 : ∀ (v0 : Option Nat) (v1 : Option Nat) (v2 : Option Nat) (v3 : Int32) (v4 : Int32) (h : Hp) (r : Int32 × Hp), k15 v0 v1 v2 v3 v4 h = some r → Rn d 103 15 [some (va_rf v0), some (va_rf v1), some (va_rf v2), some (.int v3), some (.int v4)] [] h (some (.int r.1), r.2)) (v0 : Option Nat) (v1 : Option Nat) (v2 : Option Nat) (v3 : Int32) (v4 : Int32)  (h : Hp) (r : Int32 × Hp) (hb : b_103_15 R k15 v0 v1 v2 v3 v4  h = some r) : Rn d 103 15 [some (va_rf v0), some (va_rf v1), some (va_rf v2), some (.int v3), some (.int v4)] [] h (some (.int r.1), r.2) := by
  unfold b_103_15 at hb
  refine rn_iload (i := 4) rfl rfl ?_
  refine rn_sipush (x := (nI 200)) rfl (by decide) ?_
  refine rn_icmp_ge rfl rfl (fun hc => ?_) (fun hc => ?_)
  · exact u_103_59 E hE d hd R HR v0 v1 v2 v3 v4  h _ (if_t hb hc)
  · exact u_103_23 E hE d hd R HR k15 K15 v0 v1 v2 v3 v4  h _ (if_f hb hc)
def l_103_15 (R : Option Nat → Option Nat → Option Nat → Int32 → Hp → Option (Int32 × Hp)) : Nat → Option Nat → Option Nat → Option Nat → Int32 → Int32 → Hp → Option (Int32 × Hp)
  | 0, _, _, _, _, _, _ => none
  | n + 1, v0, v1, v2, v3, v4, h => b_103_15 R (l_103_15 R n) v0 v1 v2 v3 v4 h
theorem w_103_15 (E : Nat) (hE : 2 ≤ E) (d : Nat) (hd : E + 1 ≤ d) (R : Option Nat → Option Nat → Option Nat → Int32 → Hp → Option (Int32 × Hp)) (HR : ∀ (d : Nat) (a0 : Option Nat) (a1 : Option Nat) (a2 : Option Nat) (a3 : Int32) (h : Hp) (r : Int32 × Hp), E ≤ d → R a0 a1 a2 a3 h = some r → Rn d 104 0 [some (va_rf a0), some (va_rf a1), some (va_rf a2), some (.int a3), none, none] [] h (some (.int r.1), r.2)) : ∀ (n : Nat) (v0 : Option Nat) (v1 : Option Nat) (v2 : Option Nat) (v3 : Int32) (v4 : Int32) (h : Hp) (r : Int32 × Hp), l_103_15 R n v0 v1 v2 v3 v4 h = some r → Rn d 103 15 [some (va_rf v0), some (va_rf v1), some (va_rf v2), some (.int v3), some (.int v4)] [] h (some (.int r.1), r.2) := by
  intro n
  induction n with
  | zero => intro v0 v1 v2 v3 v4 h r hb; cases hb
  | succ n ih => intro v0 v1 v2 v3 v4 h r hb; exact u_103_15 E hE d hd R HR (l_103_15 R n) ih v0 v1 v2 v3 v4 h r hb
def b_103_12 (R : Option Nat → Option Nat → Option Nat → Int32 → Hp → Option (Int32 × Hp)) (v0 : Option Nat) (v1 : Option Nat) (v2 : Option Nat) (v3 : Int32)  (h : Hp) : Option (Int32 × Hp) :=
  bnd ((nI 0)) fun x1 =>
  l_103_15 R FU v0 v1 v2 v3 x1 h
theorem u_103_12 (E : Nat) (hE : 2 ≤ E) (d : Nat) (hd : E + 1 ≤ d) (R : Option Nat → Option Nat → Option Nat → Int32 → Hp → Option (Int32 × Hp)) (HR : ∀ (d : Nat) (a0 : Option Nat) (a1 : Option Nat) (a2 : Option Nat) (a3 : Int32) (h : Hp) (r : Int32 × Hp), E ≤ d → R a0 a1 a2 a3 h = some r → Rn d 104 0 [some (va_rf a0), some (va_rf a1), some (va_rf a2), some (.int a3), none, none] [] h (some (.int r.1), r.2)) (v0 : Option Nat) (v1 : Option Nat) (v2 : Option Nat) (v3 : Int32)  (h : Hp) (r : Int32 × Hp) (hb : b_103_12 R v0 v1 v2 v3  h = some r) : Rn d 103 12 [some (va_rf v0), some (va_rf v1), some (va_rf v2), some (.int v3), none] [] h (some (.int r.1), r.2) := by
  unfold b_103_12 at hb
  refine rn_iconst (x := (nI 0)) rfl (by decide) ?_
  obtain ⟨x1, ex1, hb⟩ := bnd_spec hb
  refine rn_istore (i := 4) (L1 := [some (va_rf v0), some (va_rf v1), some (va_rf v2), some (.int v3), some (.int x1)]) rfl (Nat.le_of_ble_eq_true rfl) (Or.inr rfl) (by rw [ex1]; rfl) ?_
  exact w_103_15 E hE d hd R HR FU v0 v1 v2 v3 x1 h _ hb
def b_103_10 (R : Option Nat → Option Nat → Option Nat → Int32 → Hp → Option (Int32 × Hp))   (h : Hp) : Option (Int32 × Hp) :=
  (grd (decide ((nI 0) = 0 ∨ (nI 0) = 1))).bind fun _ => some ((nI 0), h)
theorem u_103_10 (E : Nat) (hE : 2 ≤ E) (d : Nat) (hd : E + 1 ≤ d) (R : Option Nat → Option Nat → Option Nat → Int32 → Hp → Option (Int32 × Hp)) (HR : ∀ (d : Nat) (a0 : Option Nat) (a1 : Option Nat) (a2 : Option Nat) (a3 : Int32) (h : Hp) (r : Int32 × Hp), E ≤ d → R a0 a1 a2 a3 h = some r → Rn d 104 0 [some (va_rf a0), some (va_rf a1), some (va_rf a2), some (.int a3), none, none] [] h (some (.int r.1), r.2)) (v0 : Option Nat) (v1 : Option Nat) (v2 : Option Nat) (v3 : Int32)  (h : Hp) (r : Int32 × Hp) (hb : b_103_10 R   h = some r) : Rn d 103 10 [some (va_rf v0), some (va_rf v1), some (va_rf v2), some (.int v3), none] [] h (some (.int r.1), r.2) := by
  unfold b_103_10 at hb
  refine rn_iconst (x := (nI 0)) rfl (by decide) ?_
  obtain ⟨hz, hb⟩ := grd_spec hb
  obtain rfl := Option.some.inj hb
  exact rn_zret rfl rfl (of_decide_eq_true hz)
def b_103_0 (R : Option Nat → Option Nat → Option Nat → Int32 → Hp → Option (Int32 × Hp)) (v0 : Option Nat) (v1 : Option Nat) (v2 : Option Nat) (v3 : Int32)  (h : Hp) : Option (Int32 × Hp) :=
  (grd (rC 8 v0 h)).bind fun _ =>
  (R v0 v1 v2 v3 h).bind fun p1 =>
  if ¬ p1.1 = 0 then b_103_12 R v0 v1 v2 v3  p1.2 else b_103_10 R   p1.2
theorem u_103_0 (E : Nat) (hE : 2 ≤ E) (d : Nat) (hd : E + 1 ≤ d) (R : Option Nat → Option Nat → Option Nat → Int32 → Hp → Option (Int32 × Hp)) (HR : ∀ (d : Nat) (a0 : Option Nat) (a1 : Option Nat) (a2 : Option Nat) (a3 : Int32) (h : Hp) (r : Int32 × Hp), E ≤ d → R a0 a1 a2 a3 h = some r → Rn d 104 0 [some (va_rf a0), some (va_rf a1), some (va_rf a2), some (.int a3), none, none] [] h (some (.int r.1), r.2)) (v0 : Option Nat) (v1 : Option Nat) (v2 : Option Nat) (v3 : Int32)  (h : Hp) (r : Int32 × Hp) (hb : b_103_0 R v0 v1 v2 v3  h = some r) : Rn d 103 0 [some (va_rf v0), some (va_rf v1), some (va_rf v2), some (.int v3), none] [] h (some (.int r.1), r.2) := by
  unfold b_103_0 at hb
  obtain ⟨e, rfl⟩ : ∃ e, d = e + 1 := ⟨d - 1, by omega⟩
  refine rn_aload_n (i := 0) rfl rfl ?_
  refine rn_aload_n (i := 1) rfl rfl ?_
  refine rn_aload_n (i := 2) rfl rfl ?_
  refine rn_iload_n (i := 3) rfl rfl ?_
  obtain ⟨hrc, hb⟩ := grd_spec hb
  obtain ⟨p1, hc, hb⟩ := Option.bind_eq_some_iff.mp hb
  refine Rn.call1 (d := e) (As := [va_rf v0, va_rf v1, va_rf v2, .int v3]) (rest := []) rfl rfl rfl (by decide) rfl rfl rfl (bd_rcV hrc rfl) (by decide) (bd_lenC (n := 6) rfl (bd_slR (bd_slR (bd_slR (bd_slI bd_slN)))) rfl) (bd_locC (n := 6) rfl (bd_slR (bd_slR (bd_slR (bd_slI bd_slN)))) rfl (HR e v0 v1 v2 v3 h _ (by omega) hc)) ?_
  refine rn_if_ne rfl rfl (fun hc => ?_) (fun hc => ?_)
  · exact u_103_12 E hE (e + 1) hd R HR v0 v1 v2 v3  p1.2 _ (if_t hb hc)
  · exact u_103_10 E hE (e + 1) hd R HR v0 v1 v2 v3  p1.2 _ (if_f hb hc)
/-- BitingDoors$Sentence.readAll(LBitingDoors$Text;LBitingDoors$House;I)Z -/
def F_103 (R : Option Nat → Option Nat → Option Nat → Int32 → Hp → Option (Int32 × Hp)) (v0 : Option Nat) (v1 : Option Nat) (v2 : Option Nat) (v3 : Int32) (h : Hp) : Option (Int32 × Hp) := b_103_0 R v0 v1 v2 v3 h
theorem t_103 (E : Nat) (hE : 2 ≤ E) (d : Nat) (hd : E + 1 ≤ d) (R : Option Nat → Option Nat → Option Nat → Int32 → Hp → Option (Int32 × Hp)) (HR : ∀ (d : Nat) (a0 : Option Nat) (a1 : Option Nat) (a2 : Option Nat) (a3 : Int32) (h : Hp) (r : Int32 × Hp), E ≤ d → R a0 a1 a2 a3 h = some r → Rn d 104 0 [some (va_rf a0), some (va_rf a1), some (va_rf a2), some (.int a3), none, none] [] h (some (.int r.1), r.2)) (v0 : Option Nat) (v1 : Option Nat) (v2 : Option Nat) (v3 : Int32) (h : Hp) (r : Int32 × Hp) (hb : F_103 R v0 v1 v2 v3 h = some r) : Rn d 103 0 [some (va_rf v0), some (va_rf v1), some (va_rf v2), some (.int v3), none] [] h (some (.int r.1), r.2) := by
  unfold F_103 at hb
  exact u_103_0 E hE d hd R HR v0 v1 v2 v3 h r hb
def b_102_59 (R : Option Nat → Option Nat → Option Nat → Int32 → Hp → Option (Int32 × Hp))   (h : Hp) : Option (Int32 × Hp) :=
  (grd (decide ((nI 1) = 0 ∨ (nI 1) = 1))).bind fun _ => some ((nI 1), h)
theorem u_102_59 (E : Nat) (hE : 2 ≤ E) (d : Nat) (hd : E + 2 ≤ d) (R : Option Nat → Option Nat → Option Nat → Int32 → Hp → Option (Int32 × Hp)) (HR : ∀ (d : Nat) (a0 : Option Nat) (a1 : Option Nat) (a2 : Option Nat) (a3 : Int32) (h : Hp) (r : Int32 × Hp), E ≤ d → R a0 a1 a2 a3 h = some r → Rn d 104 0 [some (va_rf a0), some (va_rf a1), some (va_rf a2), some (.int a3), none, none] [] h (some (.int r.1), r.2)) (v0 : Option Nat) (v1 : Option Nat) (v2 : Option Nat) (v3 : Int32) (v4 : Int32)  (h : Hp) (r : Int32 × Hp) (hb : b_102_59 R   h = some r) : Rn d 102 59 [some (va_rf v0), some (va_rf v1), some (va_rf v2), some (.int v3), some (.int v4)] [] h (some (.int r.1), r.2) := by
  unfold b_102_59 at hb
  refine rn_iconst (x := (nI 1)) rfl (by decide) ?_
  obtain ⟨hz, hb⟩ := grd_spec hb
  obtain rfl := Option.some.inj hb
  exact rn_zret rfl rfl (of_decide_eq_true hz)
def b_102_45 (R : Option Nat → Option Nat → Option Nat → Int32 → Hp → Option (Int32 × Hp)) (k15 : Option Nat → Option Nat → Option Nat → Int32 → Int32 → Hp → Option (Int32 × Hp)) (v0 : Option Nat) (v1 : Option Nat) (v2 : Option Nat) (v3 : Int32) (v4 : Int32)  (h : Hp) : Option (Int32 × Hp) :=
  (grd (rC 8 v0 h)).bind fun _ =>
  (f_106 v0 (nI 0) (nI 0) (nI 0) h).bind fun p1 =>
  bnd (v4 + (nI 1)) fun x2 =>
  k15 v0 v1 v2 v3 x2 p1.2
theorem u_102_45 (E : Nat) (hE : 2 ≤ E) (d : Nat) (hd : E + 2 ≤ d) (R : Option Nat → Option Nat → Option Nat → Int32 → Hp → Option (Int32 × Hp)) (HR : ∀ (d : Nat) (a0 : Option Nat) (a1 : Option Nat) (a2 : Option Nat) (a3 : Int32) (h : Hp) (r : Int32 × Hp), E ≤ d → R a0 a1 a2 a3 h = some r → Rn d 104 0 [some (va_rf a0), some (va_rf a1), some (va_rf a2), some (.int a3), none, none] [] h (some (.int r.1), r.2)) (k15 : Option Nat → Option Nat → Option Nat → Int32 → Int32 → Hp → Option (Int32 × Hp)) (K15 : ∀ (v0 : Option Nat) (v1 : Option Nat) (v2 : Option Nat) (v3 : Int32) (v4 : Int32) (h : Hp) (r : Int32 × Hp), k15 v0 v1 v2 v3 v4 h = some r → Rn d 102 15 [some (va_rf v0), some (va_rf v1), some (va_rf v2), some (.int v3), some (.int v4)] [] h (some (.int r.1), r.2)) (v0 : Option Nat) (v1 : Option Nat) (v2 : Option Nat) (v3 : Int32) (v4 : Int32)  (h : Hp) (r : Int32 × Hp) (hb : b_102_45 R k15 v0 v1 v2 v3 v4  h = some r) : Rn d 102 45 [some (va_rf v0), some (va_rf v1), some (va_rf v2), some (.int v3), some (.int v4)] [] h (some (.int r.1), r.2) := by
  unfold b_102_45 at hb
  obtain ⟨e, rfl⟩ : ∃ e, d = e + 1 := ⟨d - 1, by omega⟩
  refine rn_aload_n (i := 0) rfl rfl ?_
  refine rn_iconst (x := (nI 0)) rfl (by decide) ?_
  refine rn_iconst (x := (nI 0)) rfl (by decide) ?_
  refine rn_iconst (x := (nI 0)) rfl (by decide) ?_
  obtain ⟨hrc, hb⟩ := grd_spec hb
  obtain ⟨p1, hc, hb⟩ := Option.bind_eq_some_iff.mp hb
  refine Rn.call1 (d := e) (As := [va_rf v0, .int (nI 0), .int (nI 0), .int (nI 0)]) (rest := []) rfl rfl rfl (by decide) rfl rfl rfl (bd_rcV hrc rfl) (by decide) (bd_lenC (n := 4) rfl (bd_slR (bd_slI (bd_slI (bd_slI bd_slN)))) rfl) (bd_locC (n := 4) rfl (bd_slR (bd_slI (bd_slI (bd_slI bd_slN)))) rfl (t_106 e (by omega) v0 (nI 0) (nI 0) (nI 0) h _ hc)) ?_
  refine rn_pop rfl rfl ?_
  obtain ⟨x2, ex2, hb⟩ := bnd_spec hb
  refine rn_iinc (i := 4) (y := x2) (L1 := [some (va_rf v0), some (va_rf v1), some (va_rf v2), some (.int v3), some (.int x2)]) rfl rfl (Nat.le_of_ble_eq_true rfl) (Or.inr rfl) (by rw [ex2]; rfl) rfl ?_
  refine rn_goto rfl rfl ?_
  exact K15 v0 v1 v2 v3 x2 p1.2 _ hb
def b_102_43 (R : Option Nat → Option Nat → Option Nat → Int32 → Hp → Option (Int32 × Hp))   (h : Hp) : Option (Int32 × Hp) :=
  (grd (decide ((nI 0) = 0 ∨ (nI 0) = 1))).bind fun _ => some ((nI 0), h)
theorem u_102_43 (E : Nat) (hE : 2 ≤ E) (d : Nat) (hd : E + 2 ≤ d) (R : Option Nat → Option Nat → Option Nat → Int32 → Hp → Option (Int32 × Hp)) (HR : ∀ (d : Nat) (a0 : Option Nat) (a1 : Option Nat) (a2 : Option Nat) (a3 : Int32) (h : Hp) (r : Int32 × Hp), E ≤ d → R a0 a1 a2 a3 h = some r → Rn d 104 0 [some (va_rf a0), some (va_rf a1), some (va_rf a2), some (.int a3), none, none] [] h (some (.int r.1), r.2)) (v0 : Option Nat) (v1 : Option Nat) (v2 : Option Nat) (v3 : Int32) (v4 : Int32)  (h : Hp) (r : Int32 × Hp) (hb : b_102_43 R   h = some r) : Rn d 102 43 [some (va_rf v0), some (va_rf v1), some (va_rf v2), some (.int v3), some (.int v4)] [] h (some (.int r.1), r.2) := by
  unfold b_102_43 at hb
  refine rn_iconst (x := (nI 0)) rfl (by decide) ?_
  obtain ⟨hz, hb⟩ := grd_spec hb
  obtain rfl := Option.some.inj hb
  exact rn_zret rfl rfl (of_decide_eq_true hz)
def b_102_33 (R : Option Nat → Option Nat → Option Nat → Int32 → Hp → Option (Int32 × Hp)) (k15 : Option Nat → Option Nat → Option Nat → Int32 → Int32 → Hp → Option (Int32 × Hp)) (v0 : Option Nat) (v1 : Option Nat) (v2 : Option Nat) (v3 : Int32) (v4 : Int32)  (h : Hp) : Option (Int32 × Hp) :=
  (grd (rC 8 v0 h)).bind fun _ =>
  (F_103 R v0 v1 v2 v3 h).bind fun p1 =>
  if ¬ p1.1 = 0 then b_102_45 R k15 v0 v1 v2 v3 v4  p1.2 else b_102_43 R   p1.2
theorem u_102_33 (E : Nat) (hE : 2 ≤ E) (d : Nat) (hd : E + 2 ≤ d) (R : Option Nat → Option Nat → Option Nat → Int32 → Hp → Option (Int32 × Hp)) (HR : ∀ (d : Nat) (a0 : Option Nat) (a1 : Option Nat) (a2 : Option Nat) (a3 : Int32) (h : Hp) (r : Int32 × Hp), E ≤ d → R a0 a1 a2 a3 h = some r → Rn d 104 0 [some (va_rf a0), some (va_rf a1), some (va_rf a2), some (.int a3), none, none] [] h (some (.int r.1), r.2)) (k15 : Option Nat → Option Nat → Option Nat → Int32 → Int32 → Hp → Option (Int32 × Hp)) (K15 : ∀ (v0 : Option Nat) (v1 : Option Nat) (v2 : Option Nat) (v3 : Int32) (v4 : Int32) (h : Hp) (r : Int32 × Hp), k15 v0 v1 v2 v3 v4 h = some r → Rn d 102 15 [some (va_rf v0), some (va_rf v1), some (va_rf v2), some (.int v3), some (.int v4)] [] h (some (.int r.1), r.2)) (v0 : Option Nat) (v1 : Option Nat) (v2 : Option Nat) (v3 : Int32) (v4 : Int32)  (h : Hp) (r : Int32 × Hp) (hb : b_102_33 R k15 v0 v1 v2 v3 v4  h = some r) : Rn d 102 33 [some (va_rf v0), some (va_rf v1), some (va_rf v2), some (.int v3), some (.int v4)] [] h (some (.int r.1), r.2) := by
  unfold b_102_33 at hb
  obtain ⟨e, rfl⟩ : ∃ e, d = e + 1 := ⟨d - 1, by omega⟩
  refine rn_aload_n (i := 0) rfl rfl ?_
  refine rn_aload_n (i := 1) rfl rfl ?_
  refine rn_aload_n (i := 2) rfl rfl ?_
  refine rn_iload_n (i := 3) rfl rfl ?_
  obtain ⟨hrc, hb⟩ := grd_spec hb
  obtain ⟨p1, hc, hb⟩ := Option.bind_eq_some_iff.mp hb
  refine Rn.call1 (d := e) (As := [va_rf v0, va_rf v1, va_rf v2, .int v3]) (rest := []) rfl rfl rfl (by decide) rfl rfl rfl (bd_rcV hrc rfl) (by decide) (bd_lenC (n := 5) rfl (bd_slR (bd_slR (bd_slR (bd_slI bd_slN)))) rfl) (bd_locC (n := 5) rfl (bd_slR (bd_slR (bd_slR (bd_slI bd_slN)))) rfl (t_103 E hE e (by omega) R HR v0 v1 v2 v3 h _ hc)) ?_
  refine rn_if_ne rfl rfl (fun hc => ?_) (fun hc => ?_)
  · exact u_102_45 E hE (e + 1) hd R HR k15 K15 v0 v1 v2 v3 v4  p1.2 _ (if_t hb hc)
  · exact u_102_43 E hE (e + 1) hd R HR v0 v1 v2 v3 v4  p1.2 _ (if_f hb hc)
def b_102_23 (R : Option Nat → Option Nat → Option Nat → Int32 → Hp → Option (Int32 × Hp)) (k15 : Option Nat → Option Nat → Option Nat → Int32 → Int32 → Hp → Option (Int32 × Hp)) (v0 : Option Nat) (v1 : Option Nat) (v2 : Option Nat) (v3 : Int32) (v4 : Int32)  (h : Hp) : Option (Int32 × Hp) :=
  (grd (rC 9 v1 h)).bind fun _ =>
  (f_122 v1 (some 17) h).bind fun p1 =>
  if p1.1 = 0 then b_102_59 R   p1.2 else b_102_33 R k15 v0 v1 v2 v3 v4  p1.2
theorem u_102_23 (E : Nat) (hE : 2 ≤ E) (d : Nat) (hd : E + 2 ≤ d) (R : Option Nat → Option Nat → Option Nat → Int32 → Hp → Option (Int32 × Hp)) (HR : ∀ (d : Nat) (a0 : Option Nat) (a1 : Option Nat) (a2 : Option Nat) (a3 : Int32) (h : Hp) (r : Int32 × Hp), E ≤ d → R a0 a1 a2 a3 h = some r → Rn d 104 0 [some (va_rf a0), some (va_rf a1), some (va_rf a2), some (.int a3), none, none] [] h (some (.int r.1), r.2)) (k15 : Option Nat → Option Nat → Option Nat → Int32 → Int32 → Hp → Option (Int32 × Hp)) (K15 : ∀ (v0 : Option Nat) (v1 : Option Nat) (v2 : Option Nat) (v3 : Int32) (v4 : Int32) (h : Hp) (r : Int32 × Hp), k15 v0 v1 v2 v3 v4 h = some r → Rn d 102 15 [some (va_rf v0), some (va_rf v1), some (va_rf v2), some (.int v3), some (.int v4)] [] h (some (.int r.1), r.2)) (v0 : Option Nat) (v1 : Option Nat) (v2 : Option Nat) (v3 : Int32) (v4 : Int32)  (h : Hp) (r : Int32 × Hp) (hb : b_102_23 R k15 v0 v1 v2 v3 v4  h = some r) : Rn d 102 23 [some (va_rf v0), some (va_rf v1), some (va_rf v2), some (.int v3), some (.int v4)] [] h (some (.int r.1), r.2) := by
  unfold b_102_23 at hb
  obtain ⟨e, rfl⟩ : ∃ e, d = e + 1 := ⟨d - 1, by omega⟩
  refine rn_aload_n (i := 1) rfl rfl ?_
  refine rn_getstatic rfl ?_
  obtain ⟨hrc, hb⟩ := grd_spec hb
  obtain ⟨p1, hc, hb⟩ := Option.bind_eq_some_iff.mp hb
  refine Rn.call1 (d := e) (As := [va_rf v1, va_rf (some 17)]) (rest := []) rfl rfl rfl (by decide) rfl rfl rfl (bd_rcV hrc rfl) (by decide) (bd_lenC (n := 2) rfl (bd_slR (bd_slR bd_slN)) rfl) (bd_locC (n := 2) rfl (bd_slR (bd_slR bd_slN)) rfl (t_122 e (by omega) v1 (some 17) h _ hc)) ?_
  refine rn_if_eq rfl rfl (fun hc => ?_) (fun hc => ?_)
  · exact u_102_59 E hE (e + 1) hd R HR v0 v1 v2 v3 v4  p1.2 _ (if_t hb hc)
  · exact u_102_33 E hE (e + 1) hd R HR k15 K15 v0 v1 v2 v3 v4  p1.2 _ (if_f hb hc)
def b_102_15 (R : Option Nat → Option Nat → Option Nat → Int32 → Hp → Option (Int32 × Hp)) (k15 : Option Nat → Option Nat → Option Nat → Int32 → Int32 → Hp → Option (Int32 × Hp)) (v0 : Option Nat) (v1 : Option Nat) (v2 : Option Nat) (v3 : Int32) (v4 : Int32)  (h : Hp) : Option (Int32 × Hp) :=
  if (nI 200) ≤ v4 then b_102_59 R   h else b_102_23 R k15 v0 v1 v2 v3 v4  h
theorem u_102_15 (E : Nat) (hE : 2 ≤ E) (d : Nat) (hd : E + 2 ≤ d) (R : Option Nat → Option Nat → Option Nat → Int32 → Hp → Option (Int32 × Hp)) (HR : ∀ (d : Nat) (a0 : Option Nat) (a1 : Option Nat) (a2 : Option Nat) (a3 : Int32) (h : Hp) (r : Int32 × Hp), E ≤ d → R a0 a1 a2 a3 h = some r → Rn d 104 0 [some (va_rf a0), some (va_rf a1), some (va_rf a2), some (.int a3), none, none] [] h (some (.int r.1), r.2)) (k15 : Option Nat → Option Nat → Option Nat → Int32 → Int32 → Hp → Option (Int32 × Hp)) (K15 : ∀ (v0 : Option Nat) (v1 : Option Nat) (v2 : Option Nat) (v3 : Int32) (v4 : Int32) (h : Hp) (r : Int32 × Hp), k15 v0 v1 v2 v3 v4 h = some r → Rn d 102 15 [some (va_rf v0), some (va_rf v1), some (va_rf v2), some (.int v3), some (.int v4)] [] h (some (.int r.1), r.2)) (v0 : Option Nat) (v1 : Option Nat) (v2 : Option Nat) (v3 : Int32) (v4 : Int32)  (h : Hp) (r : Int32 × Hp) (hb : b_102_15 R k15 v0 v1 v2 v3 v4  h = some r) : Rn d 102 15 [some (va_rf v0), some (va_rf v1), some (va_rf v2), some (.int v3), some (.int v4)] [] h (some (.int r.1), r.2) := by
  unfold b_102_15 at hb
  refine rn_iload (i := 4) rfl rfl ?_
  refine rn_sipush (x := (nI 200)) rfl (by decide) ?_
  refine rn_icmp_ge rfl rfl (fun hc => ?_) (fun hc => ?_)
  · exact u_102_59 E hE d hd R HR v0 v1 v2 v3 v4  h _ (if_t hb hc)
  · exact u_102_23 E hE d hd R HR k15 K15 v0 v1 v2 v3 v4  h _ (if_f hb hc)
def l_102_15 (R : Option Nat → Option Nat → Option Nat → Int32 → Hp → Option (Int32 × Hp)) : Nat → Option Nat → Option Nat → Option Nat → Int32 → Int32 → Hp → Option (Int32 × Hp)
  | 0, _, _, _, _, _, _ => none
  | n + 1, v0, v1, v2, v3, v4, h => b_102_15 R (l_102_15 R n) v0 v1 v2 v3 v4 h
theorem w_102_15 (E : Nat) (hE : 2 ≤ E) (d : Nat) (hd : E + 2 ≤ d) (R : Option Nat → Option Nat → Option Nat → Int32 → Hp → Option (Int32 × Hp)) (HR : ∀ (d : Nat) (a0 : Option Nat) (a1 : Option Nat) (a2 : Option Nat) (a3 : Int32) (h : Hp) (r : Int32 × Hp), E ≤ d → R a0 a1 a2 a3 h = some r → Rn d 104 0 [some (va_rf a0), some (va_rf a1), some (va_rf a2), some (.int a3), none, none] [] h (some (.int r.1), r.2)) : ∀ (n : Nat) (v0 : Option Nat) (v1 : Option Nat) (v2 : Option Nat) (v3 : Int32) (v4 : Int32) (h : Hp) (r : Int32 × Hp), l_102_15 R n v0 v1 v2 v3 v4 h = some r → Rn d 102 15 [some (va_rf v0), some (va_rf v1), some (va_rf v2), some (.int v3), some (.int v4)] [] h (some (.int r.1), r.2) := by
  intro n
  induction n with
  | zero => intro v0 v1 v2 v3 v4 h r hb; cases hb
  | succ n ih => intro v0 v1 v2 v3 v4 h r hb; exact u_102_15 E hE d hd R HR (l_102_15 R n) ih v0 v1 v2 v3 v4 h r hb
def b_102_12 (R : Option Nat → Option Nat → Option Nat → Int32 → Hp → Option (Int32 × Hp)) (v0 : Option Nat) (v1 : Option Nat) (v2 : Option Nat) (v3 : Int32)  (h : Hp) : Option (Int32 × Hp) :=
  bnd ((nI 0)) fun x1 =>
  l_102_15 R FU v0 v1 v2 v3 x1 h
theorem u_102_12 (E : Nat) (hE : 2 ≤ E) (d : Nat) (hd : E + 2 ≤ d) (R : Option Nat → Option Nat → Option Nat → Int32 → Hp → Option (Int32 × Hp)) (HR : ∀ (d : Nat) (a0 : Option Nat) (a1 : Option Nat) (a2 : Option Nat) (a3 : Int32) (h : Hp) (r : Int32 × Hp), E ≤ d → R a0 a1 a2 a3 h = some r → Rn d 104 0 [some (va_rf a0), some (va_rf a1), some (va_rf a2), some (.int a3), none, none] [] h (some (.int r.1), r.2)) (v0 : Option Nat) (v1 : Option Nat) (v2 : Option Nat) (v3 : Int32)  (h : Hp) (r : Int32 × Hp) (hb : b_102_12 R v0 v1 v2 v3  h = some r) : Rn d 102 12 [some (va_rf v0), some (va_rf v1), some (va_rf v2), some (.int v3), none] [] h (some (.int r.1), r.2) := by
  unfold b_102_12 at hb
  refine rn_iconst (x := (nI 0)) rfl (by decide) ?_
  obtain ⟨x1, ex1, hb⟩ := bnd_spec hb
  refine rn_istore (i := 4) (L1 := [some (va_rf v0), some (va_rf v1), some (va_rf v2), some (.int v3), some (.int x1)]) rfl (Nat.le_of_ble_eq_true rfl) (Or.inr rfl) (by rw [ex1]; rfl) ?_
  exact w_102_15 E hE d hd R HR FU v0 v1 v2 v3 x1 h _ hb
def b_102_10 (R : Option Nat → Option Nat → Option Nat → Int32 → Hp → Option (Int32 × Hp))   (h : Hp) : Option (Int32 × Hp) :=
  (grd (decide ((nI 0) = 0 ∨ (nI 0) = 1))).bind fun _ => some ((nI 0), h)
theorem u_102_10 (E : Nat) (hE : 2 ≤ E) (d : Nat) (hd : E + 2 ≤ d) (R : Option Nat → Option Nat → Option Nat → Int32 → Hp → Option (Int32 × Hp)) (HR : ∀ (d : Nat) (a0 : Option Nat) (a1 : Option Nat) (a2 : Option Nat) (a3 : Int32) (h : Hp) (r : Int32 × Hp), E ≤ d → R a0 a1 a2 a3 h = some r → Rn d 104 0 [some (va_rf a0), some (va_rf a1), some (va_rf a2), some (.int a3), none, none] [] h (some (.int r.1), r.2)) (v0 : Option Nat) (v1 : Option Nat) (v2 : Option Nat) (v3 : Int32)  (h : Hp) (r : Int32 × Hp) (hb : b_102_10 R   h = some r) : Rn d 102 10 [some (va_rf v0), some (va_rf v1), some (va_rf v2), some (.int v3), none] [] h (some (.int r.1), r.2) := by
  unfold b_102_10 at hb
  refine rn_iconst (x := (nI 0)) rfl (by decide) ?_
  obtain ⟨hz, hb⟩ := grd_spec hb
  obtain rfl := Option.some.inj hb
  exact rn_zret rfl rfl (of_decide_eq_true hz)
def b_102_0 (R : Option Nat → Option Nat → Option Nat → Int32 → Hp → Option (Int32 × Hp)) (v0 : Option Nat) (v1 : Option Nat) (v2 : Option Nat) (v3 : Int32)  (h : Hp) : Option (Int32 × Hp) :=
  (grd (rC 8 v0 h)).bind fun _ =>
  (F_103 R v0 v1 v2 v3 h).bind fun p1 =>
  if ¬ p1.1 = 0 then b_102_12 R v0 v1 v2 v3  p1.2 else b_102_10 R   p1.2
theorem u_102_0 (E : Nat) (hE : 2 ≤ E) (d : Nat) (hd : E + 2 ≤ d) (R : Option Nat → Option Nat → Option Nat → Int32 → Hp → Option (Int32 × Hp)) (HR : ∀ (d : Nat) (a0 : Option Nat) (a1 : Option Nat) (a2 : Option Nat) (a3 : Int32) (h : Hp) (r : Int32 × Hp), E ≤ d → R a0 a1 a2 a3 h = some r → Rn d 104 0 [some (va_rf a0), some (va_rf a1), some (va_rf a2), some (.int a3), none, none] [] h (some (.int r.1), r.2)) (v0 : Option Nat) (v1 : Option Nat) (v2 : Option Nat) (v3 : Int32)  (h : Hp) (r : Int32 × Hp) (hb : b_102_0 R v0 v1 v2 v3  h = some r) : Rn d 102 0 [some (va_rf v0), some (va_rf v1), some (va_rf v2), some (.int v3), none] [] h (some (.int r.1), r.2) := by
  unfold b_102_0 at hb
  obtain ⟨e, rfl⟩ : ∃ e, d = e + 1 := ⟨d - 1, by omega⟩
  refine rn_aload_n (i := 0) rfl rfl ?_
  refine rn_aload_n (i := 1) rfl rfl ?_
  refine rn_aload_n (i := 2) rfl rfl ?_
  refine rn_iload_n (i := 3) rfl rfl ?_
  obtain ⟨hrc, hb⟩ := grd_spec hb
  obtain ⟨p1, hc, hb⟩ := Option.bind_eq_some_iff.mp hb
  refine Rn.call1 (d := e) (As := [va_rf v0, va_rf v1, va_rf v2, .int v3]) (rest := []) rfl rfl rfl (by decide) rfl rfl rfl (bd_rcV hrc rfl) (by decide) (bd_lenC (n := 5) rfl (bd_slR (bd_slR (bd_slR (bd_slI bd_slN)))) rfl) (bd_locC (n := 5) rfl (bd_slR (bd_slR (bd_slR (bd_slI bd_slN)))) rfl (t_103 E hE e (by omega) R HR v0 v1 v2 v3 h _ hc)) ?_
  refine rn_if_ne rfl rfl (fun hc => ?_) (fun hc => ?_)
  · exact u_102_12 E hE (e + 1) hd R HR v0 v1 v2 v3  p1.2 _ (if_t hb hc)
  · exact u_102_10 E hE (e + 1) hd R HR v0 v1 v2 v3  p1.2 _ (if_f hb hc)
/-- BitingDoors$Sentence.readCond(LBitingDoors$Text;LBitingDoors$House;I)Z -/
def F_102 (R : Option Nat → Option Nat → Option Nat → Int32 → Hp → Option (Int32 × Hp)) (v0 : Option Nat) (v1 : Option Nat) (v2 : Option Nat) (v3 : Int32) (h : Hp) : Option (Int32 × Hp) := b_102_0 R v0 v1 v2 v3 h
theorem t_102 (E : Nat) (hE : 2 ≤ E) (d : Nat) (hd : E + 2 ≤ d) (R : Option Nat → Option Nat → Option Nat → Int32 → Hp → Option (Int32 × Hp)) (HR : ∀ (d : Nat) (a0 : Option Nat) (a1 : Option Nat) (a2 : Option Nat) (a3 : Int32) (h : Hp) (r : Int32 × Hp), E ≤ d → R a0 a1 a2 a3 h = some r → Rn d 104 0 [some (va_rf a0), some (va_rf a1), some (va_rf a2), some (.int a3), none, none] [] h (some (.int r.1), r.2)) (v0 : Option Nat) (v1 : Option Nat) (v2 : Option Nat) (v3 : Int32) (h : Hp) (r : Int32 × Hp) (hb : F_102 R v0 v1 v2 v3 h = some r) : Rn d 102 0 [some (va_rf v0), some (va_rf v1), some (va_rf v2), some (.int v3), none] [] h (some (.int r.1), r.2) := by
  unfold F_102 at hb
  exact u_102_0 E hE d hd R HR v0 v1 v2 v3 h r hb
def b_104_42 (R : Option Nat → Option Nat → Option Nat → Int32 → Hp → Option (Int32 × Hp)) (v1 : Option Nat)  (h : Hp) : Option (Int32 × Hp) :=
  (grd (rC 9 v1 h)).bind fun _ =>
  (f_119 v1 (nI 4) h).bind fun p1 =>
  (grd (decide (p1.1 = 0 ∨ p1.1 = 1))).bind fun _ => some (p1.1, p1.2)
theorem u_104_42 (E : Nat) (hE : 2 ≤ E) (d : Nat) (hd : E + 3 ≤ d) (R : Option Nat → Option Nat → Option Nat → Int32 → Hp → Option (Int32 × Hp)) (HR : ∀ (d : Nat) (a0 : Option Nat) (a1 : Option Nat) (a2 : Option Nat) (a3 : Int32) (h : Hp) (r : Int32 × Hp), E ≤ d → R a0 a1 a2 a3 h = some r → Rn d 104 0 [some (va_rf a0), some (va_rf a1), some (va_rf a2), some (.int a3), none, none] [] h (some (.int r.1), r.2)) (v0 : Option Nat) (v1 : Option Nat) (v2 : Option Nat) (v3 : Int32) (v4 : Int32)  (h : Hp) (r : Int32 × Hp) (hb : b_104_42 R v1  h = some r) : Rn d 104 42 [some (va_rf v0), some (va_rf v1), some (va_rf v2), some (.int v3), some (.int v4), none] [] h (some (.int r.1), r.2) := by
  unfold b_104_42 at hb
  obtain ⟨e, rfl⟩ : ∃ e, d = e + 1 := ⟨d - 1, by omega⟩
  refine rn_aload_n (i := 1) rfl rfl ?_
  refine rn_iconst (x := (nI 4)) rfl (by decide) ?_
  obtain ⟨hrc, hb⟩ := grd_spec hb
  obtain ⟨p1, hc, hb⟩ := Option.bind_eq_some_iff.mp hb
  refine Rn.call1 (d := e) (As := [va_rf v1, .int (nI 4)]) (rest := []) rfl rfl rfl (by decide) rfl rfl rfl (bd_rcV hrc rfl) (by decide) (bd_lenC (n := 2) rfl (bd_slR (bd_slI bd_slN)) rfl) (bd_locC (n := 2) rfl (bd_slR (bd_slI bd_slN)) rfl (t_119 e (by omega) v1 (nI 4) h _ hc)) ?_
  obtain ⟨hz, hb⟩ := grd_spec hb
  obtain rfl := Option.some.inj hb
  exact rn_zret rfl rfl (of_decide_eq_true hz)
def b_104_190 (R : Option Nat → Option Nat → Option Nat → Int32 → Hp → Option (Int32 × Hp))  (s0 : Int32) (h : Hp) : Option (Int32 × Hp) :=
  (grd (decide (s0 = 0 ∨ s0 = 1))).bind fun _ => some (s0, h)
theorem u_104_190 (E : Nat) (hE : 2 ≤ E) (d : Nat) (hd : E + 3 ≤ d) (R : Option Nat → Option Nat → Option Nat → Int32 → Hp → Option (Int32 × Hp)) (HR : ∀ (d : Nat) (a0 : Option Nat) (a1 : Option Nat) (a2 : Option Nat) (a3 : Int32) (h : Hp) (r : Int32 × Hp), E ≤ d → R a0 a1 a2 a3 h = some r → Rn d 104 0 [some (va_rf a0), some (va_rf a1), some (va_rf a2), some (.int a3), none, none] [] h (some (.int r.1), r.2)) (v0 : Option Nat) (v1 : Option Nat) (v2 : Option Nat) (v3 : Int32) (v4 : Int32) (s0 : Int32) (h : Hp) (r : Int32 × Hp) (hb : b_104_190 R  s0 h = some r) : Rn d 104 190 [some (va_rf v0), some (va_rf v1), some (va_rf v2), some (.int v3), some (.int v4), none] [.int s0] h (some (.int r.1), r.2) := by
  unfold b_104_190 at hb
  obtain ⟨hz, hb⟩ := grd_spec hb
  obtain rfl := Option.some.inj hb
  exact rn_zret rfl rfl (of_decide_eq_true hz)
def b_104_183 (R : Option Nat → Option Nat → Option Nat → Int32 → Hp → Option (Int32 × Hp)) (v0 : Option Nat) (v1 : Option Nat) (v4 : Int32)  (h : Hp) : Option (Int32 × Hp) :=
  (grd (rC 8 v0 h)).bind fun _ =>
  (f_105 v0 v1 v4 h).bind fun p1 =>
  b_104_190 R  p1.1 p1.2
theorem u_104_183 (E : Nat) (hE : 2 ≤ E) (d : Nat) (hd : E + 3 ≤ d) (R : Option Nat → Option Nat → Option Nat → Int32 → Hp → Option (Int32 × Hp)) (HR : ∀ (d : Nat) (a0 : Option Nat) (a1 : Option Nat) (a2 : Option Nat) (a3 : Int32) (h : Hp) (r : Int32 × Hp), E ≤ d → R a0 a1 a2 a3 h = some r → Rn d 104 0 [some (va_rf a0), some (va_rf a1), some (va_rf a2), some (.int a3), none, none] [] h (some (.int r.1), r.2)) (v0 : Option Nat) (v1 : Option Nat) (v2 : Option Nat) (v3 : Int32) (v4 : Int32)  (h : Hp) (r : Int32 × Hp) (hb : b_104_183 R v0 v1 v4  h = some r) : Rn d 104 183 [some (va_rf v0), some (va_rf v1), some (va_rf v2), some (.int v3), some (.int v4), none] [] h (some (.int r.1), r.2) := by
  unfold b_104_183 at hb
  obtain ⟨e, rfl⟩ : ∃ e, d = e + 1 := ⟨d - 1, by omega⟩
  refine rn_aload_n (i := 0) rfl rfl ?_
  refine rn_aload_n (i := 1) rfl rfl ?_
  refine rn_iload (i := 4) rfl rfl ?_
  obtain ⟨hrc, hb⟩ := grd_spec hb
  obtain ⟨p1, hc, hb⟩ := Option.bind_eq_some_iff.mp hb
  refine Rn.call1 (d := e) (As := [va_rf v0, va_rf v1, .int v4]) (rest := []) rfl rfl rfl (by decide) rfl rfl rfl (bd_rcV hrc rfl) (by decide) (bd_lenC (n := 5) rfl (bd_slR (bd_slR (bd_slI bd_slN))) rfl) (bd_locC (n := 5) rfl (bd_slR (bd_slR (bd_slI bd_slN))) rfl (t_105 e (by omega) v0 v1 v4 h _ hc)) ?_
  exact u_104_190 E hE (e + 1) hd R HR v0 v1 v2 v3 v4 p1.1 p1.2 _ hb
def b_104_172 (R : Option Nat → Option Nat → Option Nat → Int32 → Hp → Option (Int32 × Hp)) (v0 : Option Nat) (v4 : Int32)  (h : Hp) : Option (Int32 × Hp) :=
  (grd (rC 8 v0 h)).bind fun _ =>
  (f_106 v0 v4 (nI 0) (nI 0) h).bind fun p1 =>
  b_104_190 R  p1.1 p1.2
theorem u_104_172 (E : Nat) (hE : 2 ≤ E) (d : Nat) (hd : E + 3 ≤ d) (R : Option Nat → Option Nat → Option Nat → Int32 → Hp → Option (Int32 × Hp)) (HR : ∀ (d : Nat) (a0 : Option Nat) (a1 : Option Nat) (a2 : Option Nat) (a3 : Int32) (h : Hp) (r : Int32 × Hp), E ≤ d → R a0 a1 a2 a3 h = some r → Rn d 104 0 [some (va_rf a0), some (va_rf a1), some (va_rf a2), some (.int a3), none, none] [] h (some (.int r.1), r.2)) (v0 : Option Nat) (v1 : Option Nat) (v2 : Option Nat) (v3 : Int32) (v4 : Int32)  (h : Hp) (r : Int32 × Hp) (hb : b_104_172 R v0 v4  h = some r) : Rn d 104 172 [some (va_rf v0), some (va_rf v1), some (va_rf v2), some (.int v3), some (.int v4), none] [] h (some (.int r.1), r.2) := by
  unfold b_104_172 at hb
  obtain ⟨e, rfl⟩ : ∃ e, d = e + 1 := ⟨d - 1, by omega⟩
  refine rn_aload_n (i := 0) rfl rfl ?_
  refine rn_iload (i := 4) rfl rfl ?_
  refine rn_iconst (x := (nI 0)) rfl (by decide) ?_
  refine rn_iconst (x := (nI 0)) rfl (by decide) ?_
  obtain ⟨hrc, hb⟩ := grd_spec hb
  obtain ⟨p1, hc, hb⟩ := Option.bind_eq_some_iff.mp hb
  refine Rn.call1 (d := e) (As := [va_rf v0, .int v4, .int (nI 0), .int (nI 0)]) (rest := []) rfl rfl rfl (by decide) rfl rfl rfl (bd_rcV hrc rfl) (by decide) (bd_lenC (n := 4) rfl (bd_slR (bd_slI (bd_slI (bd_slI bd_slN)))) rfl) (bd_locC (n := 4) rfl (bd_slR (bd_slI (bd_slI (bd_slI bd_slN)))) rfl (t_106 e (by omega) v0 v4 (nI 0) (nI 0) h _ hc)) ?_
  refine rn_goto rfl rfl ?_
  exact u_104_190 E hE (e + 1) hd R HR v0 v1 v2 v3 v4 p1.1 p1.2 _ hb
def b_104_165 (R : Option Nat → Option Nat → Option Nat → Int32 → Hp → Option (Int32 × Hp)) (v0 : Option Nat) (v1 : Option Nat) (v4 : Int32)  (h : Hp) : Option (Int32 × Hp) :=
  if (nI 6) ≤ v4 then b_104_183 R v0 v1 v4  h else b_104_172 R v0 v4  h
theorem u_104_165 (E : Nat) (hE : 2 ≤ E) (d : Nat) (hd : E + 3 ≤ d) (R : Option Nat → Option Nat → Option Nat → Int32 → Hp → Option (Int32 × Hp)) (HR : ∀ (d : Nat) (a0 : Option Nat) (a1 : Option Nat) (a2 : Option Nat) (a3 : Int32) (h : Hp) (r : Int32 × Hp), E ≤ d → R a0 a1 a2 a3 h = some r → Rn d 104 0 [some (va_rf a0), some (va_rf a1), some (va_rf a2), some (.int a3), none, none] [] h (some (.int r.1), r.2)) (v0 : Option Nat) (v1 : Option Nat) (v2 : Option Nat) (v3 : Int32) (v4 : Int32)  (h : Hp) (r : Int32 × Hp) (hb : b_104_165 R v0 v1 v4  h = some r) : Rn d 104 165 [some (va_rf v0), some (va_rf v1), some (va_rf v2), some (.int v3), some (.int v4), none] [] h (some (.int r.1), r.2) := by
  unfold b_104_165 at hb
  refine rn_iload (i := 4) rfl rfl ?_
  refine rn_bipush (x := (nI 6)) rfl (by decide) ?_
  refine rn_icmp_ge rfl rfl (fun hc => ?_) (fun hc => ?_)
  · exact u_104_183 E hE d hd R HR v0 v1 v2 v3 v4  h _ (if_t hb hc)
  · exact u_104_172 E hE d hd R HR v0 v1 v2 v3 v4  h _ (if_f hb hc)
def b_104_151 (R : Option Nat → Option Nat → Option Nat → Int32 → Hp → Option (Int32 × Hp)) (v0 : Option Nat) (v1 : Option Nat) (v5 : Int32)  (h : Hp) : Option (Int32 × Hp) :=
  (grd (rC 9 v1 h)).bind fun _ =>
  (f_117 v1 h).bind fun p1 =>
  (grd (rC 8 v0 p1)).bind fun _ =>
  (f_106 v0 (nI 6) (nI 0) v5 p1).bind fun p2 =>
  (grd (decide (p2.1 = 0 ∨ p2.1 = 1))).bind fun _ => some (p2.1, p2.2)
theorem u_104_151 (E : Nat) (hE : 2 ≤ E) (d : Nat) (hd : E + 3 ≤ d) (R : Option Nat → Option Nat → Option Nat → Int32 → Hp → Option (Int32 × Hp)) (HR : ∀ (d : Nat) (a0 : Option Nat) (a1 : Option Nat) (a2 : Option Nat) (a3 : Int32) (h : Hp) (r : Int32 × Hp), E ≤ d → R a0 a1 a2 a3 h = some r → Rn d 104 0 [some (va_rf a0), some (va_rf a1), some (va_rf a2), some (.int a3), none, none] [] h (some (.int r.1), r.2)) (v0 : Option Nat) (v1 : Option Nat) (v2 : Option Nat) (v3 : Int32) (v4 : Int32) (v5 : Int32)  (h : Hp) (r : Int32 × Hp) (hb : b_104_151 R v0 v1 v5  h = some r) : Rn d 104 151 [some (va_rf v0), some (va_rf v1), some (va_rf v2), some (.int v3), some (.int v4), some (.int v5)] [] h (some (.int r.1), r.2) := by
  unfold b_104_151 at hb
  obtain ⟨e, rfl⟩ : ∃ e, d = e + 1 := ⟨d - 1, by omega⟩
  refine rn_aload_n (i := 1) rfl rfl ?_
  obtain ⟨hrc, hb⟩ := grd_spec hb
  obtain ⟨p1, hc, hb⟩ := Option.bind_eq_some_iff.mp hb
  refine Rn.call0 (d := e) (As := [va_rf v1]) (rest := []) rfl rfl rfl (by decide) rfl rfl rfl (bd_rcV hrc rfl) (by decide) (bd_lenC (n := 3) rfl (bd_slR bd_slN) rfl) (bd_locC (n := 3) rfl (bd_slR bd_slN) rfl (t_117 e (by omega) v1 h _ hc)) ?_
  refine rn_aload_n (i := 0) rfl rfl ?_
  refine rn_bipush (x := (nI 6)) rfl (by decide) ?_
  refine rn_iconst (x := (nI 0)) rfl (by decide) ?_
  refine rn_iload (i := 5) rfl rfl ?_
  obtain ⟨hrc, hb⟩ := grd_spec hb
  obtain ⟨p2, hc, hb⟩ := Option.bind_eq_some_iff.mp hb
  refine Rn.call1 (d := e) (As := [va_rf v0, .int (nI 6), .int (nI 0), .int v5]) (rest := []) rfl rfl rfl (by decide) rfl rfl rfl (bd_rcV hrc rfl) (by decide) (bd_lenC (n := 4) rfl (bd_slR (bd_slI (bd_slI (bd_slI bd_slN)))) rfl) (bd_locC (n := 4) rfl (bd_slR (bd_slI (bd_slI (bd_slI bd_slN)))) rfl (t_106 e (by omega) v0 (nI 6) (nI 0) v5 p1 _ hc)) ?_
  obtain ⟨hz, hb⟩ := grd_spec hb
  obtain rfl := Option.some.inj hb
  exact rn_zret rfl rfl (of_decide_eq_true hz)
def b_104_149 (R : Option Nat → Option Nat → Option Nat → Int32 → Hp → Option (Int32 × Hp))   (h : Hp) : Option (Int32 × Hp) :=
  (grd (decide ((nI 0) = 0 ∨ (nI 0) = 1))).bind fun _ => some ((nI 0), h)
theorem u_104_149 (E : Nat) (hE : 2 ≤ E) (d : Nat) (hd : E + 3 ≤ d) (R : Option Nat → Option Nat → Option Nat → Int32 → Hp → Option (Int32 × Hp)) (HR : ∀ (d : Nat) (a0 : Option Nat) (a1 : Option Nat) (a2 : Option Nat) (a3 : Int32) (h : Hp) (r : Int32 × Hp), E ≤ d → R a0 a1 a2 a3 h = some r → Rn d 104 0 [some (va_rf a0), some (va_rf a1), some (va_rf a2), some (.int a3), none, none] [] h (some (.int r.1), r.2)) (v0 : Option Nat) (v1 : Option Nat) (v2 : Option Nat) (v3 : Int32) (v4 : Int32) (v5 : Int32)  (h : Hp) (r : Int32 × Hp) (hb : b_104_149 R   h = some r) : Rn d 104 149 [some (va_rf v0), some (va_rf v1), some (va_rf v2), some (.int v3), some (.int v4), some (.int v5)] [] h (some (.int r.1), r.2) := by
  unfold b_104_149 at hb
  refine rn_iconst (x := (nI 0)) rfl (by decide) ?_
  obtain ⟨hz, hb⟩ := grd_spec hb
  obtain rfl := Option.some.inj hb
  exact rn_zret rfl rfl (of_decide_eq_true hz)
def b_104_136 (R : Option Nat → Option Nat → Option Nat → Int32 → Hp → Option (Int32 × Hp)) (v0 : Option Nat) (v1 : Option Nat) (v2 : Option Nat)  (h : Hp) : Option (Int32 × Hp) :=
  (grd (rC 9 v1 h)).bind fun _ =>
  (f_125 v1 v2 h).bind fun p1 =>
  bnd (p1.1) fun x2 =>
  if ¬ x2 = (-1 : Int32) then b_104_151 R v0 v1 x2  p1.2 else b_104_149 R   p1.2
theorem u_104_136 (E : Nat) (hE : 2 ≤ E) (d : Nat) (hd : E + 3 ≤ d) (R : Option Nat → Option Nat → Option Nat → Int32 → Hp → Option (Int32 × Hp)) (HR : ∀ (d : Nat) (a0 : Option Nat) (a1 : Option Nat) (a2 : Option Nat) (a3 : Int32) (h : Hp) (r : Int32 × Hp), E ≤ d → R a0 a1 a2 a3 h = some r → Rn d 104 0 [some (va_rf a0), some (va_rf a1), some (va_rf a2), some (.int a3), none, none] [] h (some (.int r.1), r.2)) (v0 : Option Nat) (v1 : Option Nat) (v2 : Option Nat) (v3 : Int32) (v4 : Int32)  (h : Hp) (r : Int32 × Hp) (hb : b_104_136 R v0 v1 v2  h = some r) : Rn d 104 136 [some (va_rf v0), some (va_rf v1), some (va_rf v2), some (.int v3), some (.int v4), none] [] h (some (.int r.1), r.2) := by
  unfold b_104_136 at hb
  obtain ⟨e, rfl⟩ : ∃ e, d = e + 1 := ⟨d - 1, by omega⟩
  refine rn_aload_n (i := 1) rfl rfl ?_
  refine rn_aload_n (i := 2) rfl rfl ?_
  obtain ⟨hrc, hb⟩ := grd_spec hb
  obtain ⟨p1, hc, hb⟩ := Option.bind_eq_some_iff.mp hb
  refine Rn.call1 (d := e) (As := [va_rf v1, va_rf v2]) (rest := []) rfl rfl rfl (by decide) rfl rfl rfl (bd_rcV hrc rfl) (by decide) (bd_lenC (n := 4) rfl (bd_slR (bd_slR bd_slN)) rfl) (bd_locC (n := 4) rfl (bd_slR (bd_slR bd_slN)) rfl (t_125 e (by omega) v1 v2 h _ hc)) ?_
  obtain ⟨x2, ex2, hb⟩ := bnd_spec hb
  refine rn_istore (i := 5) (L1 := [some (va_rf v0), some (va_rf v1), some (va_rf v2), some (.int v3), some (.int v4), some (.int x2)]) rfl (Nat.le_of_ble_eq_true rfl) (Or.inr rfl) (by rw [ex2]; rfl) ?_
  refine rn_iload (i := 5) rfl rfl ?_
  refine rn_iconst (x := (-1 : Int32)) rfl (by decide) ?_
  refine rn_icmp_ne rfl rfl (fun hc => ?_) (fun hc => ?_)
  · exact u_104_151 E hE (e + 1) hd R HR v0 v1 v2 v3 v4 x2  p1.2 _ (if_t hb hc)
  · exact u_104_149 E hE (e + 1) hd R HR v0 v1 v2 v3 v4 x2  p1.2 _ (if_f hb hc)
def b_104_129 (R : Option Nat → Option Nat → Option Nat → Int32 → Hp → Option (Int32 × Hp)) (v0 : Option Nat) (v1 : Option Nat) (v2 : Option Nat) (v4 : Int32)  (h : Hp) : Option (Int32 × Hp) :=
  if ¬ v4 = (nI 6) then b_104_165 R v0 v1 v4  h else b_104_136 R v0 v1 v2  h
theorem u_104_129 (E : Nat) (hE : 2 ≤ E) (d : Nat) (hd : E + 3 ≤ d) (R : Option Nat → Option Nat → Option Nat → Int32 → Hp → Option (Int32 × Hp)) (HR : ∀ (d : Nat) (a0 : Option Nat) (a1 : Option Nat) (a2 : Option Nat) (a3 : Int32) (h : Hp) (r : Int32 × Hp), E ≤ d → R a0 a1 a2 a3 h = some r → Rn d 104 0 [some (va_rf a0), some (va_rf a1), some (va_rf a2), some (.int a3), none, none] [] h (some (.int r.1), r.2)) (v0 : Option Nat) (v1 : Option Nat) (v2 : Option Nat) (v3 : Int32) (v4 : Int32)  (h : Hp) (r : Int32 × Hp) (hb : b_104_129 R v0 v1 v2 v4  h = some r) : Rn d 104 129 [some (va_rf v0), some (va_rf v1), some (va_rf v2), some (.int v3), some (.int v4), none] [] h (some (.int r.1), r.2) := by
  unfold b_104_129 at hb
  refine rn_iload (i := 4) rfl rfl ?_
  refine rn_bipush (x := (nI 6)) rfl (by decide) ?_
  refine rn_icmp_ne rfl rfl (fun hc => ?_) (fun hc => ?_)
  · exact u_104_165 E hE d hd R HR v0 v1 v2 v3 v4  h _ (if_t hb hc)
  · exact u_104_136 E hE d hd R HR v0 v1 v2 v3 v4  h _ (if_f hb hc)
def b_104_128 (R : Option Nat → Option Nat → Option Nat → Int32 → Hp → Option (Int32 × Hp))  (s0 : Int32) (h : Hp) : Option (Int32 × Hp) :=
  (grd (decide (s0 = 0 ∨ s0 = 1))).bind fun _ => some (s0, h)
theorem u_104_128 (E : Nat) (hE : 2 ≤ E) (d : Nat) (hd : E + 3 ≤ d) (R : Option Nat → Option Nat → Option Nat → Int32 → Hp → Option (Int32 × Hp)) (HR : ∀ (d : Nat) (a0 : Option Nat) (a1 : Option Nat) (a2 : Option Nat) (a3 : Int32) (h : Hp) (r : Int32 × Hp), E ≤ d → R a0 a1 a2 a3 h = some r → Rn d 104 0 [some (va_rf a0), some (va_rf a1), some (va_rf a2), some (.int a3), none, none] [] h (some (.int r.1), r.2)) (v0 : Option Nat) (v1 : Option Nat) (v2 : Option Nat) (v3 : Int32) (v4 : Int32) (s0 : Int32) (h : Hp) (r : Int32 × Hp) (hb : b_104_128 R  s0 h = some r) : Rn d 104 128 [some (va_rf v0), some (va_rf v1), some (va_rf v2), some (.int v3), some (.int v4), none] [.int s0] h (some (.int r.1), r.2) := by
  unfold b_104_128 at hb
  obtain ⟨hz, hb⟩ := grd_spec hb
  obtain rfl := Option.some.inj hb
  exact rn_zret rfl rfl (of_decide_eq_true hz)
def b_104_127 (R : Option Nat → Option Nat → Option Nat → Int32 → Hp → Option (Int32 × Hp))   (h : Hp) : Option (Int32 × Hp) :=
  b_104_128 R  (nI 0) h
theorem u_104_127 (E : Nat) (hE : 2 ≤ E) (d : Nat) (hd : E + 3 ≤ d) (R : Option Nat → Option Nat → Option Nat → Int32 → Hp → Option (Int32 × Hp)) (HR : ∀ (d : Nat) (a0 : Option Nat) (a1 : Option Nat) (a2 : Option Nat) (a3 : Int32) (h : Hp) (r : Int32 × Hp), E ≤ d → R a0 a1 a2 a3 h = some r → Rn d 104 0 [some (va_rf a0), some (va_rf a1), some (va_rf a2), some (.int a3), none, none] [] h (some (.int r.1), r.2)) (v0 : Option Nat) (v1 : Option Nat) (v2 : Option Nat) (v3 : Int32) (v4 : Int32)  (h : Hp) (r : Int32 × Hp) (hb : b_104_127 R   h = some r) : Rn d 104 127 [some (va_rf v0), some (va_rf v1), some (va_rf v2), some (.int v3), some (.int v4), none] [] h (some (.int r.1), r.2) := by
  unfold b_104_127 at hb
  refine rn_iconst (x := (nI 0)) rfl (by decide) ?_
  exact u_104_128 E hE d hd R HR v0 v1 v2 v3 v4 (nI 0) h _ hb
def b_104_123 (R : Option Nat → Option Nat → Option Nat → Int32 → Hp → Option (Int32 × Hp))   (h : Hp) : Option (Int32 × Hp) :=
  b_104_128 R  (nI 1) h
theorem u_104_123 (E : Nat) (hE : 2 ≤ E) (d : Nat) (hd : E + 3 ≤ d) (R : Option Nat → Option Nat → Option Nat → Int32 → Hp → Option (Int32 × Hp)) (HR : ∀ (d : Nat) (a0 : Option Nat) (a1 : Option Nat) (a2 : Option Nat) (a3 : Int32) (h : Hp) (r : Int32 × Hp), E ≤ d → R a0 a1 a2 a3 h = some r → Rn d 104 0 [some (va_rf a0), some (va_rf a1), some (va_rf a2), some (.int a3), none, none] [] h (some (.int r.1), r.2)) (v0 : Option Nat) (v1 : Option Nat) (v2 : Option Nat) (v3 : Int32) (v4 : Int32)  (h : Hp) (r : Int32 × Hp) (hb : b_104_123 R   h = some r) : Rn d 104 123 [some (va_rf v0), some (va_rf v1), some (va_rf v2), some (.int v3), some (.int v4), none] [] h (some (.int r.1), r.2) := by
  unfold b_104_123 at hb
  refine rn_iconst (x := (nI 1)) rfl (by decide) ?_
  refine rn_goto rfl rfl ?_
  exact u_104_128 E hE d hd R HR v0 v1 v2 v3 v4 (nI 1) h _ hb
def b_104_113 (R : Option Nat → Option Nat → Option Nat → Int32 → Hp → Option (Int32 × Hp)) (v0 : Option Nat)  (h : Hp) : Option (Int32 × Hp) :=
  (grd (rC 8 v0 h)).bind fun _ =>
  (f_106 v0 (nI 2) (nI 0) (nI 0) h).bind fun p1 =>
  if p1.1 = 0 then b_104_127 R   p1.2 else b_104_123 R   p1.2
theorem u_104_113 (E : Nat) (hE : 2 ≤ E) (d : Nat) (hd : E + 3 ≤ d) (R : Option Nat → Option Nat → Option Nat → Int32 → Hp → Option (Int32 × Hp)) (HR : ∀ (d : Nat) (a0 : Option Nat) (a1 : Option Nat) (a2 : Option Nat) (a3 : Int32) (h : Hp) (r : Int32 × Hp), E ≤ d → R a0 a1 a2 a3 h = some r → Rn d 104 0 [some (va_rf a0), some (va_rf a1), some (va_rf a2), some (.int a3), none, none] [] h (some (.int r.1), r.2)) (v0 : Option Nat) (v1 : Option Nat) (v2 : Option Nat) (v3 : Int32) (v4 : Int32)  (h : Hp) (r : Int32 × Hp) (hb : b_104_113 R v0  h = some r) : Rn d 104 113 [some (va_rf v0), some (va_rf v1), some (va_rf v2), some (.int v3), some (.int v4), none] [] h (some (.int r.1), r.2) := by
  unfold b_104_113 at hb
  obtain ⟨e, rfl⟩ : ∃ e, d = e + 1 := ⟨d - 1, by omega⟩
  refine rn_aload_n (i := 0) rfl rfl ?_
  refine rn_iconst (x := (nI 2)) rfl (by decide) ?_
  refine rn_iconst (x := (nI 0)) rfl (by decide) ?_
  refine rn_iconst (x := (nI 0)) rfl (by decide) ?_
  obtain ⟨hrc, hb⟩ := grd_spec hb
  obtain ⟨p1, hc, hb⟩ := Option.bind_eq_some_iff.mp hb
  refine Rn.call1 (d := e) (As := [va_rf v0, .int (nI 2), .int (nI 0), .int (nI 0)]) (rest := []) rfl rfl rfl (by decide) rfl rfl rfl (bd_rcV hrc rfl) (by decide) (bd_lenC (n := 4) rfl (bd_slR (bd_slI (bd_slI (bd_slI bd_slN)))) rfl) (bd_locC (n := 4) rfl (bd_slR (bd_slI (bd_slI (bd_slI bd_slN)))) rfl (t_106 e (by omega) v0 (nI 2) (nI 0) (nI 0) h _ hc)) ?_
  refine rn_if_eq rfl rfl (fun hc => ?_) (fun hc => ?_)
  · exact u_104_127 E hE (e + 1) hd R HR v0 v1 v2 v3 v4  p1.2 _ (if_t hb hc)
  · exact u_104_123 E hE (e + 1) hd R HR v0 v1 v2 v3 v4  p1.2 _ (if_f hb hc)
def b_104_101 (R : Option Nat → Option Nat → Option Nat → Int32 → Hp → Option (Int32 × Hp)) (v0 : Option Nat) (v1 : Option Nat) (v2 : Option Nat) (v3 : Int32)  (h : Hp) : Option (Int32 × Hp) :=
  (grd (rC 8 v0 h)).bind fun _ =>
  (R v0 v1 v2 (v3 + (nI 1)) h).bind fun p1 =>
  if p1.1 = 0 then b_104_127 R   p1.2 else b_104_113 R v0  p1.2
theorem u_104_101 (E : Nat) (hE : 2 ≤ E) (d : Nat) (hd : E + 3 ≤ d) (R : Option Nat → Option Nat → Option Nat → Int32 → Hp → Option (Int32 × Hp)) (HR : ∀ (d : Nat) (a0 : Option Nat) (a1 : Option Nat) (a2 : Option Nat) (a3 : Int32) (h : Hp) (r : Int32 × Hp), E ≤ d → R a0 a1 a2 a3 h = some r → Rn d 104 0 [some (va_rf a0), some (va_rf a1), some (va_rf a2), some (.int a3), none, none] [] h (some (.int r.1), r.2)) (v0 : Option Nat) (v1 : Option Nat) (v2 : Option Nat) (v3 : Int32) (v4 : Int32)  (h : Hp) (r : Int32 × Hp) (hb : b_104_101 R v0 v1 v2 v3  h = some r) : Rn d 104 101 [some (va_rf v0), some (va_rf v1), some (va_rf v2), some (.int v3), some (.int v4), none] [] h (some (.int r.1), r.2) := by
  unfold b_104_101 at hb
  obtain ⟨e, rfl⟩ : ∃ e, d = e + 1 := ⟨d - 1, by omega⟩
  refine rn_aload_n (i := 0) rfl rfl ?_
  refine rn_aload_n (i := 1) rfl rfl ?_
  refine rn_aload_n (i := 2) rfl rfl ?_
  refine rn_iload_n (i := 3) rfl rfl ?_
  refine rn_iconst (x := (nI 1)) rfl (by decide) ?_
  refine rn_iadd rfl ?_
  obtain ⟨hrc, hb⟩ := grd_spec hb
  obtain ⟨p1, hc, hb⟩ := Option.bind_eq_some_iff.mp hb
  refine Rn.call1 (d := e) (As := [va_rf v0, va_rf v1, va_rf v2, .int (v3 + (nI 1))]) (rest := []) rfl rfl rfl (by decide) rfl rfl rfl (bd_rcV hrc rfl) (by decide) (bd_lenC (n := 6) rfl (bd_slR (bd_slR (bd_slR (bd_slI bd_slN)))) rfl) (bd_locC (n := 6) rfl (bd_slR (bd_slR (bd_slR (bd_slI bd_slN)))) rfl (HR e v0 v1 v2 (v3 + (nI 1)) h _ (by omega) hc)) ?_
  refine rn_if_eq rfl rfl (fun hc => ?_) (fun hc => ?_)
  · exact u_104_127 E hE (e + 1) hd R HR v0 v1 v2 v3 v4  p1.2 _ (if_t hb hc)
  · exact u_104_113 E hE (e + 1) hd R HR v0 v1 v2 v3 v4  p1.2 _ (if_f hb hc)
def b_104_95 (R : Option Nat → Option Nat → Option Nat → Int32 → Hp → Option (Int32 × Hp)) (v0 : Option Nat) (v1 : Option Nat) (v2 : Option Nat) (v3 : Int32) (v4 : Int32)  (h : Hp) : Option (Int32 × Hp) :=
  if ¬ v4 = (nI 2) then b_104_129 R v0 v1 v2 v4  h else b_104_101 R v0 v1 v2 v3  h
theorem u_104_95 (E : Nat) (hE : 2 ≤ E) (d : Nat) (hd : E + 3 ≤ d) (R : Option Nat → Option Nat → Option Nat → Int32 → Hp → Option (Int32 × Hp)) (HR : ∀ (d : Nat) (a0 : Option Nat) (a1 : Option Nat) (a2 : Option Nat) (a3 : Int32) (h : Hp) (r : Int32 × Hp), E ≤ d → R a0 a1 a2 a3 h = some r → Rn d 104 0 [some (va_rf a0), some (va_rf a1), some (va_rf a2), some (.int a3), none, none] [] h (some (.int r.1), r.2)) (v0 : Option Nat) (v1 : Option Nat) (v2 : Option Nat) (v3 : Int32) (v4 : Int32)  (h : Hp) (r : Int32 × Hp) (hb : b_104_95 R v0 v1 v2 v3 v4  h = some r) : Rn d 104 95 [some (va_rf v0), some (va_rf v1), some (va_rf v2), some (.int v3), some (.int v4), none] [] h (some (.int r.1), r.2) := by
  unfold b_104_95 at hb
  refine rn_iload (i := 4) rfl rfl ?_
  refine rn_iconst (x := (nI 2)) rfl (by decide) ?_
  refine rn_icmp_ne rfl rfl (fun hc => ?_) (fun hc => ?_)
  · exact u_104_129 E hE d hd R HR v0 v1 v2 v3 v4  h _ (if_t hb hc)
  · exact u_104_101 E hE d hd R HR v0 v1 v2 v3 v4  h _ (if_f hb hc)
def b_104_94 (R : Option Nat → Option Nat → Option Nat → Int32 → Hp → Option (Int32 × Hp))  (s0 : Int32) (h : Hp) : Option (Int32 × Hp) :=
  (grd (decide (s0 = 0 ∨ s0 = 1))).bind fun _ => some (s0, h)
theorem u_104_94 (E : Nat) (hE : 2 ≤ E) (d : Nat) (hd : E + 3 ≤ d) (R : Option Nat → Option Nat → Option Nat → Int32 → Hp → Option (Int32 × Hp)) (HR : ∀ (d : Nat) (a0 : Option Nat) (a1 : Option Nat) (a2 : Option Nat) (a3 : Int32) (h : Hp) (r : Int32 × Hp), E ≤ d → R a0 a1 a2 a3 h = some r → Rn d 104 0 [some (va_rf a0), some (va_rf a1), some (va_rf a2), some (.int a3), none, none] [] h (some (.int r.1), r.2)) (v0 : Option Nat) (v1 : Option Nat) (v2 : Option Nat) (v3 : Int32) (v4 : Int32) (s0 : Int32) (h : Hp) (r : Int32 × Hp) (hb : b_104_94 R  s0 h = some r) : Rn d 104 94 [some (va_rf v0), some (va_rf v1), some (va_rf v2), some (.int v3), some (.int v4), none] [.int s0] h (some (.int r.1), r.2) := by
  unfold b_104_94 at hb
  obtain ⟨hz, hb⟩ := grd_spec hb
  obtain rfl := Option.some.inj hb
  exact rn_zret rfl rfl (of_decide_eq_true hz)
def b_104_93 (R : Option Nat → Option Nat → Option Nat → Int32 → Hp → Option (Int32 × Hp))   (h : Hp) : Option (Int32 × Hp) :=
  b_104_94 R  (nI 0) h
theorem u_104_93 (E : Nat) (hE : 2 ≤ E) (d : Nat) (hd : E + 3 ≤ d) (R : Option Nat → Option Nat → Option Nat → Int32 → Hp → Option (Int32 × Hp)) (HR : ∀ (d : Nat) (a0 : Option Nat) (a1 : Option Nat) (a2 : Option Nat) (a3 : Int32) (h : Hp) (r : Int32 × Hp), E ≤ d → R a0 a1 a2 a3 h = some r → Rn d 104 0 [some (va_rf a0), some (va_rf a1), some (va_rf a2), some (.int a3), none, none] [] h (some (.int r.1), r.2)) (v0 : Option Nat) (v1 : Option Nat) (v2 : Option Nat) (v3 : Int32) (v4 : Int32)  (h : Hp) (r : Int32 × Hp) (hb : b_104_93 R   h = some r) : Rn d 104 93 [some (va_rf v0), some (va_rf v1), some (va_rf v2), some (.int v3), some (.int v4), none] [] h (some (.int r.1), r.2) := by
  unfold b_104_93 at hb
  refine rn_iconst (x := (nI 0)) rfl (by decide) ?_
  exact u_104_94 E hE d hd R HR v0 v1 v2 v3 v4 (nI 0) h _ hb
def b_104_89 (R : Option Nat → Option Nat → Option Nat → Int32 → Hp → Option (Int32 × Hp))   (h : Hp) : Option (Int32 × Hp) :=
  b_104_94 R  (nI 1) h
theorem u_104_89 (E : Nat) (hE : 2 ≤ E) (d : Nat) (hd : E + 3 ≤ d) (R : Option Nat → Option Nat → Option Nat → Int32 → Hp → Option (Int32 × Hp)) (HR : ∀ (d : Nat) (a0 : Option Nat) (a1 : Option Nat) (a2 : Option Nat) (a3 : Int32) (h : Hp) (r : Int32 × Hp), E ≤ d → R a0 a1 a2 a3 h = some r → Rn d 104 0 [some (va_rf a0), some (va_rf a1), some (va_rf a2), some (.int a3), none, none] [] h (some (.int r.1), r.2)) (v0 : Option Nat) (v1 : Option Nat) (v2 : Option Nat) (v3 : Int32) (v4 : Int32)  (h : Hp) (r : Int32 × Hp) (hb : b_104_89 R   h = some r) : Rn d 104 89 [some (va_rf v0), some (va_rf v1), some (va_rf v2), some (.int v3), some (.int v4), none] [] h (some (.int r.1), r.2) := by
  unfold b_104_89 at hb
  refine rn_iconst (x := (nI 1)) rfl (by decide) ?_
  refine rn_goto rfl rfl ?_
  exact u_104_94 E hE d hd R HR v0 v1 v2 v3 v4 (nI 1) h _ hb
def b_104_80 (R : Option Nat → Option Nat → Option Nat → Int32 → Hp → Option (Int32 × Hp)) (v1 : Option Nat)  (h : Hp) : Option (Int32 × Hp) :=
  (grd (rC 9 v1 h)).bind fun _ =>
  (f_123 v1 (nI 41) h).bind fun p1 =>
  if p1.1 = 0 then b_104_93 R   p1.2 else b_104_89 R   p1.2
theorem u_104_80 (E : Nat) (hE : 2 ≤ E) (d : Nat) (hd : E + 3 ≤ d) (R : Option Nat → Option Nat → Option Nat → Int32 → Hp → Option (Int32 × Hp)) (HR : ∀ (d : Nat) (a0 : Option Nat) (a1 : Option Nat) (a2 : Option Nat) (a3 : Int32) (h : Hp) (r : Int32 × Hp), E ≤ d → R a0 a1 a2 a3 h = some r → Rn d 104 0 [some (va_rf a0), some (va_rf a1), some (va_rf a2), some (.int a3), none, none] [] h (some (.int r.1), r.2)) (v0 : Option Nat) (v1 : Option Nat) (v2 : Option Nat) (v3 : Int32) (v4 : Int32)  (h : Hp) (r : Int32 × Hp) (hb : b_104_80 R v1  h = some r) : Rn d 104 80 [some (va_rf v0), some (va_rf v1), some (va_rf v2), some (.int v3), some (.int v4), none] [] h (some (.int r.1), r.2) := by
  unfold b_104_80 at hb
  obtain ⟨e, rfl⟩ : ∃ e, d = e + 1 := ⟨d - 1, by omega⟩
  refine rn_aload_n (i := 1) rfl rfl ?_
  refine rn_bipush (x := (nI 41)) rfl (by decide) ?_
  obtain ⟨hrc, hb⟩ := grd_spec hb
  obtain ⟨p1, hc, hb⟩ := Option.bind_eq_some_iff.mp hb
  refine Rn.call1 (d := e) (As := [va_rf v1, .int (nI 41)]) (rest := []) rfl rfl rfl (by decide) rfl rfl rfl (bd_rcV hrc rfl) (by decide) (bd_lenC (n := 2) rfl (bd_slR (bd_slI bd_slN)) rfl) (bd_locC (n := 2) rfl (bd_slR (bd_slI bd_slN)) rfl (t_123 e (by omega) v1 (nI 41) h _ hc)) ?_
  refine rn_if_eq rfl rfl (fun hc => ?_) (fun hc => ?_)
  · exact u_104_93 E hE (e + 1) hd R HR v0 v1 v2 v3 v4  p1.2 _ (if_t hb hc)
  · exact u_104_89 E hE (e + 1) hd R HR v0 v1 v2 v3 v4  p1.2 _ (if_f hb hc)
def b_104_68 (R : Option Nat → Option Nat → Option Nat → Int32 → Hp → Option (Int32 × Hp)) (v0 : Option Nat) (v1 : Option Nat) (v2 : Option Nat) (v3 : Int32)  (h : Hp) : Option (Int32 × Hp) :=
  (grd (rC 8 v0 h)).bind fun _ =>
  (F_102 R v0 v1 v2 (v3 + (nI 1)) h).bind fun p1 =>
  if p1.1 = 0 then b_104_93 R   p1.2 else b_104_80 R v1  p1.2
theorem u_104_68 (E : Nat) (hE : 2 ≤ E) (d : Nat) (hd : E + 3 ≤ d) (R : Option Nat → Option Nat → Option Nat → Int32 → Hp → Option (Int32 × Hp)) (HR : ∀ (d : Nat) (a0 : Option Nat) (a1 : Option Nat) (a2 : Option Nat) (a3 : Int32) (h : Hp) (r : Int32 × Hp), E ≤ d → R a0 a1 a2 a3 h = some r → Rn d 104 0 [some (va_rf a0), some (va_rf a1), some (va_rf a2), some (.int a3), none, none] [] h (some (.int r.1), r.2)) (v0 : Option Nat) (v1 : Option Nat) (v2 : Option Nat) (v3 : Int32) (v4 : Int32)  (h : Hp) (r : Int32 × Hp) (hb : b_104_68 R v0 v1 v2 v3  h = some r) : Rn d 104 68 [some (va_rf v0), some (va_rf v1), some (va_rf v2), some (.int v3), some (.int v4), none] [] h (some (.int r.1), r.2) := by
  unfold b_104_68 at hb
  obtain ⟨e, rfl⟩ : ∃ e, d = e + 1 := ⟨d - 1, by omega⟩
  refine rn_aload_n (i := 0) rfl rfl ?_
  refine rn_aload_n (i := 1) rfl rfl ?_
  refine rn_aload_n (i := 2) rfl rfl ?_
  refine rn_iload_n (i := 3) rfl rfl ?_
  refine rn_iconst (x := (nI 1)) rfl (by decide) ?_
  refine rn_iadd rfl ?_
  obtain ⟨hrc, hb⟩ := grd_spec hb
  obtain ⟨p1, hc, hb⟩ := Option.bind_eq_some_iff.mp hb
  refine Rn.call1 (d := e) (As := [va_rf v0, va_rf v1, va_rf v2, .int (v3 + (nI 1))]) (rest := []) rfl rfl rfl (by decide) rfl rfl rfl (bd_rcV hrc rfl) (by decide) (bd_lenC (n := 5) rfl (bd_slR (bd_slR (bd_slR (bd_slI bd_slN)))) rfl) (bd_locC (n := 5) rfl (bd_slR (bd_slR (bd_slR (bd_slI bd_slN)))) rfl (t_102 E hE e (by omega) R HR v0 v1 v2 (v3 + (nI 1)) h _ hc)) ?_
  refine rn_if_eq rfl rfl (fun hc => ?_) (fun hc => ?_)
  · exact u_104_93 E hE (e + 1) hd R HR v0 v1 v2 v3 v4  p1.2 _ (if_t hb hc)
  · exact u_104_80 E hE (e + 1) hd R HR v0 v1 v2 v3 v4  p1.2 _ (if_f hb hc)
def b_104_48 (R : Option Nat → Option Nat → Option Nat → Int32 → Hp → Option (Int32 × Hp)) (v0 : Option Nat) (v1 : Option Nat) (v2 : Option Nat) (v3 : Int32) (v4 : Int32)  (h : Hp) : Option (Int32 × Hp) :=
  (gI 8 4 v0 h).bind fun x1 =>
  (pI 8 4 v0 (x1 + (nI 1)) h).bind fun h2 =>
  (grd (rC 9 v1 h2)).bind fun _ =>
  (f_117 v1 h2).bind fun p3 =>
  if ¬ v4 = (-1 : Int32) then b_104_95 R v0 v1 v2 v3 v4  p3 else b_104_68 R v0 v1 v2 v3  p3
theorem u_104_48 (E : Nat) (hE : 2 ≤ E) (d : Nat) (hd : E + 3 ≤ d) (R : Option Nat → Option Nat → Option Nat → Int32 → Hp → Option (Int32 × Hp)) (HR : ∀ (d : Nat) (a0 : Option Nat) (a1 : Option Nat) (a2 : Option Nat) (a3 : Int32) (h : Hp) (r : Int32 × Hp), E ≤ d → R a0 a1 a2 a3 h = some r → Rn d 104 0 [some (va_rf a0), some (va_rf a1), some (va_rf a2), some (.int a3), none, none] [] h (some (.int r.1), r.2)) (v0 : Option Nat) (v1 : Option Nat) (v2 : Option Nat) (v3 : Int32) (v4 : Int32)  (h : Hp) (r : Int32 × Hp) (hb : b_104_48 R v0 v1 v2 v3 v4  h = some r) : Rn d 104 48 [some (va_rf v0), some (va_rf v1), some (va_rf v2), some (.int v3), some (.int v4), none] [] h (some (.int r.1), r.2) := by
  unfold b_104_48 at hb
  obtain ⟨e, rfl⟩ : ∃ e, d = e + 1 := ⟨d - 1, by omega⟩
  refine rn_aload_n (i := 0) rfl rfl ?_
  refine rn_dup rfl (bd_cat_rf _) ?_
  refine rn_gI (c := 8) (k := 4) rfl (by decide) hb (fun x1 hb => ?_)
  refine rn_iconst (x := (nI 1)) rfl (by decide) ?_
  refine rn_iadd rfl ?_
  refine rn_pI (c := 8) (k := 4) rfl (by decide) hb (fun h2 hb => ?_)
  refine rn_aload_n (i := 1) rfl rfl ?_
  obtain ⟨hrc, hb⟩ := grd_spec hb
  obtain ⟨p3, hc, hb⟩ := Option.bind_eq_some_iff.mp hb
  refine Rn.call0 (d := e) (As := [va_rf v1]) (rest := []) rfl rfl rfl (by decide) rfl rfl rfl (bd_rcV hrc rfl) (by decide) (bd_lenC (n := 3) rfl (bd_slR bd_slN) rfl) (bd_locC (n := 3) rfl (bd_slR bd_slN) rfl (t_117 e (by omega) v1 h2 _ hc)) ?_
  refine rn_iload (i := 4) rfl rfl ?_
  refine rn_iconst (x := (-1 : Int32)) rfl (by decide) ?_
  refine rn_icmp_ne rfl rfl (fun hc => ?_) (fun hc => ?_)
  · exact u_104_95 E hE (e + 1) hd R HR v0 v1 v2 v3 v4  p3 _ (if_t hb hc)
  · exact u_104_68 E hE (e + 1) hd R HR v0 v1 v2 v3 v4  p3 _ (if_f hb hc)
def b_104_36 (R : Option Nat → Option Nat → Option Nat → Int32 → Hp → Option (Int32 × Hp)) (v0 : Option Nat) (v1 : Option Nat) (v2 : Option Nat) (v3 : Int32) (v4 : Int32)  (h : Hp) : Option (Int32 × Hp) :=
  if v3 ≤ (nI 8) then b_104_48 R v0 v1 v2 v3 v4  h else b_104_42 R v1  h
theorem u_104_36 (E : Nat) (hE : 2 ≤ E) (d : Nat) (hd : E + 3 ≤ d) (R : Option Nat → Option Nat → Option Nat → Int32 → Hp → Option (Int32 × Hp)) (HR : ∀ (d : Nat) (a0 : Option Nat) (a1 : Option Nat) (a2 : Option Nat) (a3 : Int32) (h : Hp) (r : Int32 × Hp), E ≤ d → R a0 a1 a2 a3 h = some r → Rn d 104 0 [some (va_rf a0), some (va_rf a1), some (va_rf a2), some (.int a3), none, none] [] h (some (.int r.1), r.2)) (v0 : Option Nat) (v1 : Option Nat) (v2 : Option Nat) (v3 : Int32) (v4 : Int32)  (h : Hp) (r : Int32 × Hp) (hb : b_104_36 R v0 v1 v2 v3 v4  h = some r) : Rn d 104 36 [some (va_rf v0), some (va_rf v1), some (va_rf v2), some (.int v3), some (.int v4), none] [] h (some (.int r.1), r.2) := by
  unfold b_104_36 at hb
  refine rn_iload_n (i := 3) rfl rfl ?_
  refine rn_bipush (x := (nI 8)) rfl (by decide) ?_
  refine rn_icmp_le rfl rfl (fun hc => ?_) (fun hc => ?_)
  · exact u_104_48 E hE d hd R HR v0 v1 v2 v3 v4  h _ (if_t hb hc)
  · exact u_104_42 E hE d hd R HR v0 v1 v2 v3 v4  h _ (if_f hb hc)
def b_104_27 (R : Option Nat → Option Nat → Option Nat → Int32 → Hp → Option (Int32 × Hp)) (v0 : Option Nat) (v1 : Option Nat) (v2 : Option Nat) (v3 : Int32) (v4 : Int32)  (h : Hp) : Option (Int32 × Hp) :=
  (gI 8 4 v0 h).bind fun x1 =>
  if x1 = (nI 20) then b_104_42 R v1  h else b_104_36 R v0 v1 v2 v3 v4  h
theorem u_104_27 (E : Nat) (hE : 2 ≤ E) (d : Nat) (hd : E + 3 ≤ d) (R : Option Nat → Option Nat → Option Nat → Int32 → Hp → Option (Int32 × Hp)) (HR : ∀ (d : Nat) (a0 : Option Nat) (a1 : Option Nat) (a2 : Option Nat) (a3 : Int32) (h : Hp) (r : Int32 × Hp), E ≤ d → R a0 a1 a2 a3 h = some r → Rn d 104 0 [some (va_rf a0), some (va_rf a1), some (va_rf a2), some (.int a3), none, none] [] h (some (.int r.1), r.2)) (v0 : Option Nat) (v1 : Option Nat) (v2 : Option Nat) (v3 : Int32) (v4 : Int32)  (h : Hp) (r : Int32 × Hp) (hb : b_104_27 R v0 v1 v2 v3 v4  h = some r) : Rn d 104 27 [some (va_rf v0), some (va_rf v1), some (va_rf v2), some (.int v3), some (.int v4), none] [] h (some (.int r.1), r.2) := by
  unfold b_104_27 at hb
  refine rn_aload_n (i := 0) rfl rfl ?_
  refine rn_gI (c := 8) (k := 4) rfl (by decide) hb (fun x1 hb => ?_)
  refine rn_bipush (x := (nI 20)) rfl (by decide) ?_
  refine rn_icmp_eq rfl rfl (fun hc => ?_) (fun hc => ?_)
  · exact u_104_42 E hE d hd R HR v0 v1 v2 v3 v4  h _ (if_t hb hc)
  · exact u_104_36 E hE d hd R HR v0 v1 v2 v3 v4  h _ (if_f hb hc)
def b_104_21 (R : Option Nat → Option Nat → Option Nat → Int32 → Hp → Option (Int32 × Hp)) (v1 : Option Nat)  (h : Hp) : Option (Int32 × Hp) :=
  (grd (rC 9 v1 h)).bind fun _ =>
  (f_119 v1 (nI 1) h).bind fun p1 =>
  (grd (decide (p1.1 = 0 ∨ p1.1 = 1))).bind fun _ => some (p1.1, p1.2)
theorem u_104_21 (E : Nat) (hE : 2 ≤ E) (d : Nat) (hd : E + 3 ≤ d) (R : Option Nat → Option Nat → Option Nat → Int32 → Hp → Option (Int32 × Hp)) (HR : ∀ (d : Nat) (a0 : Option Nat) (a1 : Option Nat) (a2 : Option Nat) (a3 : Int32) (h : Hp) (r : Int32 × Hp), E ≤ d → R a0 a1 a2 a3 h = some r → Rn d 104 0 [some (va_rf a0), some (va_rf a1), some (va_rf a2), some (.int a3), none, none] [] h (some (.int r.1), r.2)) (v0 : Option Nat) (v1 : Option Nat) (v2 : Option Nat) (v3 : Int32) (v4 : Int32)  (h : Hp) (r : Int32 × Hp) (hb : b_104_21 R v1  h = some r) : Rn d 104 21 [some (va_rf v0), some (va_rf v1), some (va_rf v2), some (.int v3), some (.int v4), none] [] h (some (.int r.1), r.2) := by
  unfold b_104_21 at hb
  obtain ⟨e, rfl⟩ : ∃ e, d = e + 1 := ⟨d - 1, by omega⟩
  refine rn_aload_n (i := 1) rfl rfl ?_
  refine rn_iconst (x := (nI 1)) rfl (by decide) ?_
  obtain ⟨hrc, hb⟩ := grd_spec hb
  obtain ⟨p1, hc, hb⟩ := Option.bind_eq_some_iff.mp hb
  refine Rn.call1 (d := e) (As := [va_rf v1, .int (nI 1)]) (rest := []) rfl rfl rfl (by decide) rfl rfl rfl (bd_rcV hrc rfl) (by decide) (bd_lenC (n := 2) rfl (bd_slR (bd_slI bd_slN)) rfl) (bd_locC (n := 2) rfl (bd_slR (bd_slI bd_slN)) rfl (t_119 e (by omega) v1 (nI 1) h _ hc)) ?_
  obtain ⟨hz, hb⟩ := grd_spec hb
  obtain rfl := Option.some.inj hb
  exact rn_zret rfl rfl (of_decide_eq_true hz)
def b_104_12 (R : Option Nat → Option Nat → Option Nat → Int32 → Hp → Option (Int32 × Hp)) (v0 : Option Nat) (v1 : Option Nat) (v2 : Option Nat) (v3 : Int32) (v4 : Int32)  (h : Hp) : Option (Int32 × Hp) :=
  (gI 9 2 v1 h).bind fun x1 =>
  if x1 = (nI 40) then b_104_27 R v0 v1 v2 v3 v4  h else b_104_21 R v1  h
theorem u_104_12 (E : Nat) (hE : 2 ≤ E) (d : Nat) (hd : E + 3 ≤ d) (R : Option Nat → Option Nat → Option Nat → Int32 → Hp → Option (Int32 × Hp)) (HR : ∀ (d : Nat) (a0 : Option Nat) (a1 : Option Nat) (a2 : Option Nat) (a3 : Int32) (h : Hp) (r : Int32 × Hp), E ≤ d → R a0 a1 a2 a3 h = some r → Rn d 104 0 [some (va_rf a0), some (va_rf a1), some (va_rf a2), some (.int a3), none, none] [] h (some (.int r.1), r.2)) (v0 : Option Nat) (v1 : Option Nat) (v2 : Option Nat) (v3 : Int32) (v4 : Int32)  (h : Hp) (r : Int32 × Hp) (hb : b_104_12 R v0 v1 v2 v3 v4  h = some r) : Rn d 104 12 [some (va_rf v0), some (va_rf v1), some (va_rf v2), some (.int v3), some (.int v4), none] [] h (some (.int r.1), r.2) := by
  unfold b_104_12 at hb
  refine rn_aload_n (i := 1) rfl rfl ?_
  refine rn_gI (c := 9) (k := 2) rfl (by decide) hb (fun x1 hb => ?_)
  refine rn_bipush (x := (nI 40)) rfl (by decide) ?_
  refine rn_icmp_eq rfl rfl (fun hc => ?_) (fun hc => ?_)
  · exact u_104_27 E hE d hd R HR v0 v1 v2 v3 v4  h _ (if_t hb hc)
  · exact u_104_21 E hE d hd R HR v0 v1 v2 v3 v4  h _ (if_f hb hc)
def b_104_0 (R : Option Nat → Option Nat → Option Nat → Int32 → Hp → Option (Int32 × Hp)) (v0 : Option Nat) (v1 : Option Nat) (v2 : Option Nat) (v3 : Int32)  (h : Hp) : Option (Int32 × Hp) :=
  (f_107 v1 h).bind fun p1 =>
  bnd (p1.1) fun x2 =>
  if ¬ x2 = (-1 : Int32) then b_104_27 R v0 v1 v2 v3 x2  p1.2 else b_104_12 R v0 v1 v2 v3 x2  p1.2
theorem u_104_0 (E : Nat) (hE : 2 ≤ E) (d : Nat) (hd : E + 3 ≤ d) (R : Option Nat → Option Nat → Option Nat → Int32 → Hp → Option (Int32 × Hp)) (HR : ∀ (d : Nat) (a0 : Option Nat) (a1 : Option Nat) (a2 : Option Nat) (a3 : Int32) (h : Hp) (r : Int32 × Hp), E ≤ d → R a0 a1 a2 a3 h = some r → Rn d 104 0 [some (va_rf a0), some (va_rf a1), some (va_rf a2), some (.int a3), none, none] [] h (some (.int r.1), r.2)) (v0 : Option Nat) (v1 : Option Nat) (v2 : Option Nat) (v3 : Int32)  (h : Hp) (r : Int32 × Hp) (hb : b_104_0 R v0 v1 v2 v3  h = some r) : Rn d 104 0 [some (va_rf v0), some (va_rf v1), some (va_rf v2), some (.int v3), none, none] [] h (some (.int r.1), r.2) := by
  unfold b_104_0 at hb
  obtain ⟨e, rfl⟩ : ∃ e, d = e + 1 := ⟨d - 1, by omega⟩
  refine rn_aload_n (i := 1) rfl rfl ?_
  obtain ⟨p1, hc, hb⟩ := Option.bind_eq_some_iff.mp hb
  refine Rn.call1 (d := e) (As := [va_rf v1]) (rest := []) rfl rfl rfl (by decide) rfl rfl rfl rfl (by decide) (bd_lenC (n := 1) rfl (bd_slR bd_slN) rfl) (bd_locC (n := 1) rfl (bd_slR bd_slN) rfl (t_107 e (by omega) v1 h _ hc)) ?_
  obtain ⟨x2, ex2, hb⟩ := bnd_spec hb
  refine rn_istore (i := 4) (L1 := [some (va_rf v0), some (va_rf v1), some (va_rf v2), some (.int v3), some (.int x2), none]) rfl (Nat.le_of_ble_eq_true rfl) (Or.inr rfl) (by rw [ex2]; rfl) ?_
  refine rn_iload (i := 4) rfl rfl ?_
  refine rn_iconst (x := (-1 : Int32)) rfl (by decide) ?_
  refine rn_icmp_ne rfl rfl (fun hc => ?_) (fun hc => ?_)
  · exact u_104_27 E hE (e + 1) hd R HR v0 v1 v2 v3 x2  p1.2 _ (if_t hb hc)
  · exact u_104_12 E hE (e + 1) hd R HR v0 v1 v2 v3 x2  p1.2 _ (if_f hb hc)
/-- BitingDoors$Sentence.readOne(LBitingDoors$Text;LBitingDoors$House;I)Z -/
def F_104 (R : Option Nat → Option Nat → Option Nat → Int32 → Hp → Option (Int32 × Hp)) (v0 : Option Nat) (v1 : Option Nat) (v2 : Option Nat) (v3 : Int32) (h : Hp) : Option (Int32 × Hp) := b_104_0 R v0 v1 v2 v3 h
theorem t0_104 (E : Nat) (hE : 2 ≤ E) (d : Nat) (hd : E + 3 ≤ d) (R : Option Nat → Option Nat → Option Nat → Int32 → Hp → Option (Int32 × Hp)) (HR : ∀ (d : Nat) (a0 : Option Nat) (a1 : Option Nat) (a2 : Option Nat) (a3 : Int32) (h : Hp) (r : Int32 × Hp), E ≤ d → R a0 a1 a2 a3 h = some r → Rn d 104 0 [some (va_rf a0), some (va_rf a1), some (va_rf a2), some (.int a3), none, none] [] h (some (.int r.1), r.2)) (v0 : Option Nat) (v1 : Option Nat) (v2 : Option Nat) (v3 : Int32) (h : Hp) (r : Int32 × Hp) (hb : F_104 R v0 v1 v2 v3 h = some r) : Rn d 104 0 [some (va_rf v0), some (va_rf v1), some (va_rf v2), some (.int v3), none, none] [] h (some (.int r.1), r.2) := by
  unfold F_104 at hb
  exact u_104_0 E hE d hd R HR v0 v1 v2 v3 h r hb
def f_104 : Nat → Option Nat → Option Nat → Option Nat → Int32 → Hp → Option (Int32 × Hp)
  | 0, _, _, _, _, _ => none
  | n + 1, v0, v1, v2, v3, h => F_104 (f_104 n) v0 v1 v2 v3 h
theorem t_104 : ∀ (n d : Nat), 3 * n + 2 ≤ d → ∀ (v0 : Option Nat) (v1 : Option Nat) (v2 : Option Nat) (v3 : Int32) (h : Hp) (r : Int32 × Hp), f_104 n v0 v1 v2 v3 h = some r → Rn d 104 0 [some (va_rf v0), some (va_rf v1), some (va_rf v2), some (.int v3), none, none] [] h (some (.int r.1), r.2) := by
  intro n
  induction n with
  | zero => intro d hd v0 v1 v2 v3 h r hb; cases hb
  | succ n ih => intro d hd v0 v1 v2 v3 h r hb; exact t0_104 (3 * n + 2) (by omega) d (by omega) (f_104 n) (fun d v0 v1 v2 v3 h r hd hb => ih d hd v0 v1 v2 v3 h r hb) v0 v1 v2 v3 h r hb
def b_101_41  (s0 : Option Nat) (h : Hp) : Option (Option Nat × Hp) :=
  some (s0, h)
theorem u_101_41 (d : Nat) (hd : 198 ≤ d) (v0 : Option Nat) (v1 : Option Nat) (v2 : Option Nat) (v3 : Int32) (s0 : Option Nat) (h : Hp) (r : Option Nat × Hp) (hb : b_101_41  s0 h = some r) : Rn d 101 41 [some (va_rf v0), some (va_rf v1), some (va_rf v2), some (.int v3)] [va_rf s0] h (some (va_rf r.1), r.2) := by
  unfold b_101_41 at hb
  obtain rfl := Option.some.inj hb
  exact rn_aret rfl rfl
def b_101_40   (h : Hp) : Option (Option Nat × Hp) :=
  b_101_41  none h
theorem u_101_40 (d : Nat) (hd : 198 ≤ d) (v0 : Option Nat) (v1 : Option Nat) (v2 : Option Nat) (v3 : Int32)  (h : Hp) (r : Option Nat × Hp) (hb : b_101_40   h = some r) : Rn d 101 40 [some (va_rf v0), some (va_rf v1), some (va_rf v2), some (.int v3)] [] h (some (va_rf r.1), r.2) := by
  unfold b_101_40 at hb
  refine rn_null rfl ?_
  exact u_101_41 d hd v0 v1 v2 v3 none h _ hb
def b_101_36 (v0 : Option Nat)  (h : Hp) : Option (Option Nat × Hp) :=
  b_101_41  v0 h
theorem u_101_36 (d : Nat) (hd : 198 ≤ d) (v0 : Option Nat) (v1 : Option Nat) (v2 : Option Nat) (v3 : Int32)  (h : Hp) (r : Option Nat × Hp) (hb : b_101_36 v0  h = some r) : Rn d 101 36 [some (va_rf v0), some (va_rf v1), some (va_rf v2), some (.int v3)] [] h (some (va_rf r.1), r.2) := by
  unfold b_101_36 at hb
  refine rn_aload_n (i := 0) rfl rfl ?_
  refine rn_goto rfl rfl ?_
  exact u_101_41 d hd v0 v1 v2 v3 v0 h _ hb
def b_101_32 (v0 : Option Nat) (v3 : Int32)  (h : Hp) : Option (Option Nat × Hp) :=
  if v3 = 0 then b_101_40   h else b_101_36 v0  h
theorem u_101_32 (d : Nat) (hd : 198 ≤ d) (v0 : Option Nat) (v1 : Option Nat) (v2 : Option Nat) (v3 : Int32)  (h : Hp) (r : Option Nat × Hp) (hb : b_101_32 v0 v3  h = some r) : Rn d 101 32 [some (va_rf v0), some (va_rf v1), some (va_rf v2), some (.int v3)] [] h (some (va_rf r.1), r.2) := by
  unfold b_101_32 at hb
  refine rn_iload_n (i := 3) rfl rfl ?_
  refine rn_if_eq rfl rfl (fun hc => ?_) (fun hc => ?_)
  · exact u_101_40 d hd v0 v1 v2 v3  h _ (if_t hb hc)
  · exact u_101_36 d hd v0 v1 v2 v3  h _ (if_f hb hc)
def b_101_26 (v0 : Option Nat) (v1 : Option Nat)  (h : Hp) : Option (Option Nat × Hp) :=
  (grd (rC 9 v1 h)).bind fun _ =>
  (f_119 v1 (nI 1) h).bind fun p1 =>
  bnd (p1.1) fun x2 =>
  b_101_32 v0 x2  p1.2
theorem u_101_26 (d : Nat) (hd : 198 ≤ d) (v0 : Option Nat) (v1 : Option Nat) (v2 : Option Nat) (v3 : Int32)  (h : Hp) (r : Option Nat × Hp) (hb : b_101_26 v0 v1  h = some r) : Rn d 101 26 [some (va_rf v0), some (va_rf v1), some (va_rf v2), some (.int v3)] [] h (some (va_rf r.1), r.2) := by
  unfold b_101_26 at hb
  obtain ⟨e, rfl⟩ : ∃ e, d = e + 1 := ⟨d - 1, by omega⟩
  refine rn_aload_n (i := 1) rfl rfl ?_
  refine rn_iconst (x := (nI 1)) rfl (by decide) ?_
  obtain ⟨hrc, hb⟩ := grd_spec hb
  obtain ⟨p1, hc, hb⟩ := Option.bind_eq_some_iff.mp hb
  refine Rn.call1 (d := e) (As := [va_rf v1, .int (nI 1)]) (rest := []) rfl rfl rfl (by decide) rfl rfl rfl (bd_rcV hrc rfl) (by decide) (bd_lenC (n := 2) rfl (bd_slR (bd_slI bd_slN)) rfl) (bd_locC (n := 2) rfl (bd_slR (bd_slI bd_slN)) rfl (t_119 e (by omega) v1 (nI 1) h _ hc)) ?_
  obtain ⟨x2, ex2, hb⟩ := bnd_spec hb
  refine rn_istore_n (i := 3) (L1 := [some (va_rf v0), some (va_rf v1), some (va_rf v2), some (.int x2)]) rfl (Nat.le_of_ble_eq_true rfl) (Or.inr (bd_wideR rfl)) (by rw [ex2]; rfl) ?_
  exact u_101_32 (e + 1) hd v0 v1 v2 x2  p1.2 _ hb
def b_101_19 (v0 : Option Nat) (v1 : Option Nat) (v3 : Int32)  (h : Hp) : Option (Option Nat × Hp) :=
  (gI 9 2 v1 h).bind fun x1 =>
  if x1 = 0 then b_101_32 v0 v3  h else b_101_26 v0 v1  h
theorem u_101_19 (d : Nat) (hd : 198 ≤ d) (v0 : Option Nat) (v1 : Option Nat) (v2 : Option Nat) (v3 : Int32)  (h : Hp) (r : Option Nat × Hp) (hb : b_101_19 v0 v1 v3  h = some r) : Rn d 101 19 [some (va_rf v0), some (va_rf v1), some (va_rf v2), some (.int v3)] [] h (some (va_rf r.1), r.2) := by
  unfold b_101_19 at hb
  refine rn_aload_n (i := 1) rfl rfl ?_
  refine rn_gI (c := 9) (k := 2) rfl (by decide) hb (fun x1 hb => ?_)
  refine rn_if_eq rfl rfl (fun hc => ?_) (fun hc => ?_)
  · exact u_101_32 d hd v0 v1 v2 v3  h _ (if_t hb hc)
  · exact u_101_26 d hd v0 v1 v2 v3  h _ (if_f hb hc)
def b_101_0 (v0 : Option Nat) (v1 : Option Nat) (v2 : Option Nat)  (h : Hp) : Option (Option Nat × Hp) :=
  (grd (rC 9 v1 h)).bind fun _ =>
  (f_116 v1 (nI 200) h).bind fun p1 =>
  (grd (rC 8 v0 p1)).bind fun _ =>
  (F_102 (f_104 RF) v0 v1 v2 (nI 1) p1).bind fun p2 =>
  bnd (p2.1) fun x3 =>
  if x3 = 0 then b_101_32 v0 x3  p2.2 else b_101_19 v0 v1 x3  p2.2
theorem u_101_0 (d : Nat) (hd : 198 ≤ d) (v0 : Option Nat) (v1 : Option Nat) (v2 : Option Nat)  (h : Hp) (r : Option Nat × Hp) (hb : b_101_0 v0 v1 v2  h = some r) : Rn d 101 0 [some (va_rf v0), some (va_rf v1), some (va_rf v2), none] [] h (some (va_rf r.1), r.2) := by
  unfold b_101_0 at hb
  obtain ⟨e, rfl⟩ : ∃ e, d = e + 1 := ⟨d - 1, by omega⟩
  refine rn_aload_n (i := 1) rfl rfl ?_
  refine rn_sipush (x := (nI 200)) rfl (by decide) ?_
  obtain ⟨hrc, hb⟩ := grd_spec hb
  obtain ⟨p1, hc, hb⟩ := Option.bind_eq_some_iff.mp hb
  refine Rn.call0 (d := e) (As := [va_rf v1, .int (nI 200)]) (rest := []) rfl rfl rfl (by decide) rfl rfl rfl (bd_rcV hrc rfl) (by decide) (bd_lenC (n := 2) rfl (bd_slR (bd_slI bd_slN)) rfl) (bd_locC (n := 2) rfl (bd_slR (bd_slI bd_slN)) rfl (t_116 e (by omega) v1 (nI 200) h _ hc)) ?_
  refine rn_aload_n (i := 0) rfl rfl ?_
  refine rn_aload_n (i := 1) rfl rfl ?_
  refine rn_aload_n (i := 2) rfl rfl ?_
  refine rn_iconst (x := (nI 1)) rfl (by decide) ?_
  obtain ⟨hrc, hb⟩ := grd_spec hb
  obtain ⟨p2, hc, hb⟩ := Option.bind_eq_some_iff.mp hb
  refine Rn.call1 (d := e) (As := [va_rf v0, va_rf v1, va_rf v2, .int (nI 1)]) (rest := []) rfl rfl rfl (by decide) rfl rfl rfl (bd_rcV hrc rfl) (by decide) (bd_lenC (n := 5) rfl (bd_slR (bd_slR (bd_slR (bd_slI bd_slN)))) rfl) (bd_locC (n := 5) rfl (bd_slR (bd_slR (bd_slR (bd_slI bd_slN)))) rfl (t_102 (3 * 64 + 2) (by decide) e (by omega) (f_104 RF) (fun d a0 a1 a2 a3 h r hd hb => t_104 RF d hd a0 a1 a2 a3 h r hb) v0 v1 v2 (nI 1) p1 _ hc)) ?_
  obtain ⟨x3, ex3, hb⟩ := bnd_spec hb
  refine rn_istore_n (i := 3) (L1 := [some (va_rf v0), some (va_rf v1), some (va_rf v2), some (.int x3)]) rfl (Nat.le_of_ble_eq_true rfl) (Or.inr (bd_wideR rfl)) (by rw [ex3]; rfl) ?_
  refine rn_iload_n (i := 3) rfl rfl ?_
  refine rn_if_eq rfl rfl (fun hc => ?_) (fun hc => ?_)
  · exact u_101_32 (e + 1) hd v0 v1 v2 x3  p2.2 _ (if_t hb hc)
  · exact u_101_19 (e + 1) hd v0 v1 v2 x3  p2.2 _ (if_f hb hc)
/-- BitingDoors$Sentence.read(LBitingDoors$Text;LBitingDoors$House;)LBitingDoors$Sentence; -/
def f_101 (v0 : Option Nat) (v1 : Option Nat) (v2 : Option Nat) (h : Hp) : Option (Option Nat × Hp) := b_101_0 v0 v1 v2 h
theorem t_101 (d : Nat) (hd : 198 ≤ d) (v0 : Option Nat) (v1 : Option Nat) (v2 : Option Nat) (h : Hp) (r : Option Nat × Hp) (hb : f_101 v0 v1 v2 h = some r) : Rn d 101 0 [some (va_rf v0), some (va_rf v1), some (va_rf v2), none] [] h (some (va_rf r.1), r.2) := by
  unfold f_101 at hb
  exact u_101_0 d hd v0 v1 v2 h r hb
def b_112_16   (h : Hp) : Option (Int32 × Hp) :=
  (grd (decide ((nI 0) = 0 ∨ (nI 0) = 1))).bind fun _ => some ((nI 0), h)
theorem u_112_16 (d : Nat) (hd : 2 ≤ d) (v0 : Option Nat) (v1 : Int32) (v2 : Int32)  (h : Hp) (r : Int32 × Hp) (hb : b_112_16   h = some r) : Rn d 112 16 [some (va_rf v0), some (.int v1), some (.int v2)] [] h (some (.int r.1), r.2) := by
  unfold b_112_16 at hb
  refine rn_iconst (x := (nI 0)) rfl (by decide) ?_
  obtain ⟨hz, hb⟩ := grd_spec hb
  obtain rfl := Option.some.inj hb
  exact rn_zret rfl rfl (of_decide_eq_true hz)
def b_112_59  (s0 : Int32) (h : Hp) : Option (Int32 × Hp) :=
  (grd (decide (s0 = 0 ∨ s0 = 1))).bind fun _ => some (s0, h)
theorem u_112_59 (d : Nat) (hd : 2 ≤ d) (v0 : Option Nat) (v1 : Int32) (v2 : Int32) (s0 : Int32) (h : Hp) (r : Int32 × Hp) (hb : b_112_59  s0 h = some r) : Rn d 112 59 [some (va_rf v0), some (.int v1), some (.int v2)] [.int s0] h (some (.int r.1), r.2) := by
  unfold b_112_59 at hb
  obtain ⟨hz, hb⟩ := grd_spec hb
  obtain rfl := Option.some.inj hb
  exact rn_zret rfl rfl (of_decide_eq_true hz)
def b_112_58   (h : Hp) : Option (Int32 × Hp) :=
  b_112_59  (nI 0) h
theorem u_112_58 (d : Nat) (hd : 2 ≤ d) (v0 : Option Nat) (v1 : Int32) (v2 : Int32)  (h : Hp) (r : Int32 × Hp) (hb : b_112_58   h = some r) : Rn d 112 58 [some (va_rf v0), some (.int v1), some (.int v2)] [] h (some (.int r.1), r.2) := by
  unfold b_112_58 at hb
  refine rn_iconst (x := (nI 0)) rfl (by decide) ?_
  exact u_112_59 d hd v0 v1 v2 (nI 0) h _ hb
def b_112_54   (h : Hp) : Option (Int32 × Hp) :=
  b_112_59  (nI 1) h
theorem u_112_54 (d : Nat) (hd : 2 ≤ d) (v0 : Option Nat) (v1 : Int32) (v2 : Int32)  (h : Hp) (r : Int32 × Hp) (hb : b_112_54   h = some r) : Rn d 112 54 [some (va_rf v0), some (.int v1), some (.int v2)] [] h (some (.int r.1), r.2) := by
  unfold b_112_54 at hb
  refine rn_iconst (x := (nI 1)) rfl (by decide) ?_
  refine rn_goto rfl rfl ?_
  exact u_112_59 d hd v0 v1 v2 (nI 1) h _ hb
def b_112_18 (v0 : Option Nat) (v1 : Int32) (v2 : Int32)  (h : Hp) : Option (Int32 × Hp) :=
  (gQ 7 2 v0 h).bind fun x1 =>
  (gQ 4 1 x1 h).bind fun x2 =>
  (aQ x2 v1 h).bind fun x3 =>
  (gQ 7 0 v0 h).bind fun x4 =>
  (aI 12 x4 v1 h).bind fun x5 =>
  (gQ 7 2 v0 h).bind fun x6 =>
  (gQ 4 1 x6 h).bind fun x7 =>
  (aQ x7 v2 h).bind fun x8 =>
  (gQ 7 0 v0 h).bind fun x9 =>
  (aI 12 x9 v2 h).bind fun x10 =>
  (grd (rC 1 x3 h)).bind fun _ =>
  (f_14 x3 x5 x8 x10 h).bind fun p11 =>
  if p11.1 ≤ 0 then b_112_58   p11.2 else b_112_54   p11.2
theorem u_112_18 (d : Nat) (hd : 2 ≤ d) (v0 : Option Nat) (v1 : Int32) (v2 : Int32)  (h : Hp) (r : Int32 × Hp) (hb : b_112_18 v0 v1 v2  h = some r) : Rn d 112 18 [some (va_rf v0), some (.int v1), some (.int v2)] [] h (some (.int r.1), r.2) := by
  unfold b_112_18 at hb
  obtain ⟨e, rfl⟩ : ∃ e, d = e + 1 := ⟨d - 1, by omega⟩
  refine rn_aload_n (i := 0) rfl rfl ?_
  refine rn_gQ (c := 7) (k := 2) rfl (by decide) hb (fun x1 hb => ?_)
  refine rn_gQ (c := 4) (k := 1) rfl (by decide) hb (fun x2 hb => ?_)
  refine rn_iload_n (i := 1) rfl rfl ?_
  refine rn_aQ rfl hb (fun x3 hb => ?_)
  refine rn_aload_n (i := 0) rfl rfl ?_
  refine rn_gQ (c := 7) (k := 0) rfl (by decide) hb (fun x4 hb => ?_)
  refine rn_iload_n (i := 1) rfl rfl ?_
  refine rn_aI rfl hb (fun x5 hb => ?_)
  refine rn_aload_n (i := 0) rfl rfl ?_
  refine rn_gQ (c := 7) (k := 2) rfl (by decide) hb (fun x6 hb => ?_)
  refine rn_gQ (c := 4) (k := 1) rfl (by decide) hb (fun x7 hb => ?_)
  refine rn_iload_n (i := 2) rfl rfl ?_
  refine rn_aQ rfl hb (fun x8 hb => ?_)
  refine rn_aload_n (i := 0) rfl rfl ?_
  refine rn_gQ (c := 7) (k := 0) rfl (by decide) hb (fun x9 hb => ?_)
  refine rn_iload_n (i := 2) rfl rfl ?_
  refine rn_aI rfl hb (fun x10 hb => ?_)
  obtain ⟨hrc, hb⟩ := grd_spec hb
  obtain ⟨p11, hc, hb⟩ := Option.bind_eq_some_iff.mp hb
  refine Rn.call1 (d := e) (As := [va_rf x3, .int x5, va_rf x8, .int x10]) (rest := []) rfl rfl rfl (by decide) rfl rfl rfl (bd_rcV hrc rfl) (by decide) (bd_lenC (n := 4) rfl (bd_slR (bd_slI (bd_slR (bd_slI bd_slN)))) rfl) (bd_locC (n := 4) rfl (bd_slR (bd_slI (bd_slR (bd_slI bd_slN)))) rfl (t_14 e (by omega) x3 x5 x8 x10 h _ hc)) ?_
  refine rn_if_le rfl rfl (fun hc => ?_) (fun hc => ?_)
  · exact u_112_58 (e + 1) hd v0 v1 v2  p11.2 _ (if_t hb hc)
  · exact u_112_54 (e + 1) hd v0 v1 v2  p11.2 _ (if_f hb hc)
def b_112_5 (v0 : Option Nat) (v1 : Int32) (v2 : Int32)  (h : Hp) : Option (Int32 × Hp) :=
  (gQ 7 2 v0 h).bind fun x1 =>
  (grd (rC 4 x1 h)).bind fun _ =>
  (f_52 x1 v2 h).bind fun p2 =>
  if ¬ p2.1 = 0 then b_112_18 v0 v1 v2  p2.2 else b_112_16   p2.2
theorem u_112_5 (d : Nat) (hd : 2 ≤ d) (v0 : Option Nat) (v1 : Int32) (v2 : Int32)  (h : Hp) (r : Int32 × Hp) (hb : b_112_5 v0 v1 v2  h = some r) : Rn d 112 5 [some (va_rf v0), some (.int v1), some (.int v2)] [] h (some (.int r.1), r.2) := by
  unfold b_112_5 at hb
  obtain ⟨e, rfl⟩ : ∃ e, d = e + 1 := ⟨d - 1, by omega⟩
  refine rn_aload_n (i := 0) rfl rfl ?_
  refine rn_gQ (c := 7) (k := 2) rfl (by decide) hb (fun x1 hb => ?_)
  refine rn_iload_n (i := 2) rfl rfl ?_
  obtain ⟨hrc, hb⟩ := grd_spec hb
  obtain ⟨p2, hc, hb⟩ := Option.bind_eq_some_iff.mp hb
  refine Rn.call1 (d := e) (As := [va_rf x1, .int v2]) (rest := []) rfl rfl rfl (by decide) rfl rfl rfl (bd_rcV hrc rfl) (by decide) (bd_lenC (n := 2) rfl (bd_slR (bd_slI bd_slN)) rfl) (bd_locC (n := 2) rfl (bd_slR (bd_slI bd_slN)) rfl (t_52 e (by omega) x1 v2 h _ hc)) ?_
  refine rn_if_ne rfl rfl (fun hc => ?_) (fun hc => ?_)
  · exact u_112_18 (e + 1) hd v0 v1 v2  p2.2 _ (if_t hb hc)
  · exact u_112_16 (e + 1) hd v0 v1 v2  p2.2 _ (if_f hb hc)
def b_112_0 (v0 : Option Nat) (v1 : Int32) (v2 : Int32)  (h : Hp) : Option (Int32 × Hp) :=
  if v1 = v2 then b_112_16   h else b_112_5 v0 v1 v2  h
theorem u_112_0 (d : Nat) (hd : 2 ≤ d) (v0 : Option Nat) (v1 : Int32) (v2 : Int32)  (h : Hp) (r : Int32 × Hp) (hb : b_112_0 v0 v1 v2  h = some r) : Rn d 112 0 [some (va_rf v0), some (.int v1), some (.int v2)] [] h (some (.int r.1), r.2) := by
  unfold b_112_0 at hb
  refine rn_iload_n (i := 1) rfl rfl ?_
  refine rn_iload_n (i := 2) rfl rfl ?_
  refine rn_icmp_eq rfl rfl (fun hc => ?_) (fun hc => ?_)
  · exact u_112_16 d hd v0 v1 v2  h _ (if_t hb hc)
  · exact u_112_5 d hd v0 v1 v2  h _ (if_f hb hc)
/-- BitingDoors$Sentence.bitesNow(LBitingDoors$Scene;II)Z -/
def f_112 (v0 : Option Nat) (v1 : Int32) (v2 : Int32) (h : Hp) : Option (Int32 × Hp) := b_112_0 v0 v1 v2 h
theorem t_112 (d : Nat) (hd : 2 ≤ d) (v0 : Option Nat) (v1 : Int32) (v2 : Int32) (h : Hp) (r : Int32 × Hp) (hb : f_112 v0 v1 v2 h = some r) : Rn d 112 0 [some (va_rf v0), some (.int v1), some (.int v2)] [] h (some (.int r.1), r.2) := by
  unfold f_112 at hb
  exact u_112_0 d hd v0 v1 v2 h r hb
def b_113_71  (s0 : Int32) (h : Hp) : Option (Int32 × Hp) :=
  (grd (decide (s0 = 0 ∨ s0 = 1))).bind fun _ => some (s0, h)
theorem u_113_71 (d : Nat) (hd : 0 ≤ d) (v0 : Option Nat) (v1 : Int32) (v2 : Int32) (s0 : Int32) (h : Hp) (r : Int32 × Hp) (hb : b_113_71  s0 h = some r) : Rn d 113 71 [some (va_rf v0), some (.int v1), some (.int v2)] [.int s0] h (some (.int r.1), r.2) := by
  unfold b_113_71 at hb
  obtain ⟨hz, hb⟩ := grd_spec hb
  obtain rfl := Option.some.inj hb
  exact rn_zret rfl rfl (of_decide_eq_true hz)
def b_113_70   (h : Hp) : Option (Int32 × Hp) :=
  b_113_71  (nI 0) h
theorem u_113_70 (d : Nat) (hd : 0 ≤ d) (v0 : Option Nat) (v1 : Int32) (v2 : Int32)  (h : Hp) (r : Int32 × Hp) (hb : b_113_70   h = some r) : Rn d 113 70 [some (va_rf v0), some (.int v1), some (.int v2)] [] h (some (.int r.1), r.2) := by
  unfold b_113_70 at hb
  refine rn_iconst (x := (nI 0)) rfl (by decide) ?_
  exact u_113_71 d hd v0 v1 v2 (nI 0) h _ hb
def b_113_66   (h : Hp) : Option (Int32 × Hp) :=
  b_113_71  (nI 1) h
theorem u_113_66 (d : Nat) (hd : 0 ≤ d) (v0 : Option Nat) (v1 : Int32) (v2 : Int32)  (h : Hp) (r : Int32 × Hp) (hb : b_113_66   h = some r) : Rn d 113 66 [some (va_rf v0), some (.int v1), some (.int v2)] [] h (some (.int r.1), r.2) := by
  unfold b_113_66 at hb
  refine rn_iconst (x := (nI 1)) rfl (by decide) ?_
  refine rn_goto rfl rfl ?_
  exact u_113_71 d hd v0 v1 v2 (nI 1) h _ hb
def b_113_56 (v0 : Option Nat) (v1 : Int32) (v2 : Int32)  (h : Hp) : Option (Int32 × Hp) :=
  (gQ 8 2 v0 h).bind fun x1 =>
  (aI 12 x1 v2 h).bind fun x2 =>
  if v1 ≤ x2 then b_113_70   h else b_113_66   h
theorem u_113_56 (d : Nat) (hd : 0 ≤ d) (v0 : Option Nat) (v1 : Int32) (v2 : Int32)  (h : Hp) (r : Int32 × Hp) (hb : b_113_56 v0 v1 v2  h = some r) : Rn d 113 56 [some (va_rf v0), some (.int v1), some (.int v2)] [] h (some (.int r.1), r.2) := by
  unfold b_113_56 at hb
  refine rn_iload_n (i := 1) rfl rfl ?_
  refine rn_aload_n (i := 0) rfl rfl ?_
  refine rn_gQ (c := 8) (k := 2) rfl (by decide) hb (fun x1 hb => ?_)
  refine rn_iload_n (i := 2) rfl rfl ?_
  refine rn_aI rfl hb (fun x2 hb => ?_)
  refine rn_icmp_le rfl rfl (fun hc => ?_) (fun hc => ?_)
  · exact u_113_70 d hd v0 v1 v2  h _ (if_t hb hc)
  · exact u_113_66 d hd v0 v1 v2  h _ (if_f hb hc)
def b_113_52   (h : Hp) : Option (Int32 × Hp) :=
  b_113_71  (nI 0) h
theorem u_113_52 (d : Nat) (hd : 0 ≤ d) (v0 : Option Nat) (v1 : Int32) (v2 : Int32)  (h : Hp) (r : Int32 × Hp) (hb : b_113_52   h = some r) : Rn d 113 52 [some (va_rf v0), some (.int v1), some (.int v2)] [] h (some (.int r.1), r.2) := by
  unfold b_113_52 at hb
  refine rn_iconst (x := (nI 0)) rfl (by decide) ?_
  refine rn_goto rfl rfl ?_
  exact u_113_71 d hd v0 v1 v2 (nI 0) h _ hb
def b_113_48   (h : Hp) : Option (Int32 × Hp) :=
  b_113_71  (nI 1) h
theorem u_113_48 (d : Nat) (hd : 0 ≤ d) (v0 : Option Nat) (v1 : Int32) (v2 : Int32)  (h : Hp) (r : Int32 × Hp) (hb : b_113_48   h = some r) : Rn d 113 48 [some (va_rf v0), some (.int v1), some (.int v2)] [] h (some (.int r.1), r.2) := by
  unfold b_113_48 at hb
  refine rn_iconst (x := (nI 1)) rfl (by decide) ?_
  refine rn_goto rfl rfl ?_
  exact u_113_71 d hd v0 v1 v2 (nI 1) h _ hb
def b_113_38 (v0 : Option Nat) (v1 : Int32) (v2 : Int32)  (h : Hp) : Option (Int32 × Hp) :=
  (gQ 8 2 v0 h).bind fun x1 =>
  (aI 12 x1 v2 h).bind fun x2 =>
  if ¬ v1 = x2 then b_113_52   h else b_113_48   h
theorem u_113_38 (d : Nat) (hd : 0 ≤ d) (v0 : Option Nat) (v1 : Int32) (v2 : Int32)  (h : Hp) (r : Int32 × Hp) (hb : b_113_38 v0 v1 v2  h = some r) : Rn d 113 38 [some (va_rf v0), some (.int v1), some (.int v2)] [] h (some (.int r.1), r.2) := by
  unfold b_113_38 at hb
  refine rn_iload_n (i := 1) rfl rfl ?_
  refine rn_aload_n (i := 0) rfl rfl ?_
  refine rn_gQ (c := 8) (k := 2) rfl (by decide) hb (fun x1 hb => ?_)
  refine rn_iload_n (i := 2) rfl rfl ?_
  refine rn_aI rfl hb (fun x2 hb => ?_)
  refine rn_icmp_ne rfl rfl (fun hc => ?_) (fun hc => ?_)
  · exact u_113_52 d hd v0 v1 v2  h _ (if_t hb hc)
  · exact u_113_48 d hd v0 v1 v2  h _ (if_f hb hc)
def b_113_27 (v0 : Option Nat) (v1 : Int32) (v2 : Int32)  (h : Hp) : Option (Int32 × Hp) :=
  (gQ 8 1 v0 h).bind fun x1 =>
  (aI 12 x1 v2 h).bind fun x2 =>
  if ¬ x2 = (nI 61) then b_113_56 v0 v1 v2  h else b_113_38 v0 v1 v2  h
theorem u_113_27 (d : Nat) (hd : 0 ≤ d) (v0 : Option Nat) (v1 : Int32) (v2 : Int32)  (h : Hp) (r : Int32 × Hp) (hb : b_113_27 v0 v1 v2  h = some r) : Rn d 113 27 [some (va_rf v0), some (.int v1), some (.int v2)] [] h (some (.int r.1), r.2) := by
  unfold b_113_27 at hb
  refine rn_aload_n (i := 0) rfl rfl ?_
  refine rn_gQ (c := 8) (k := 1) rfl (by decide) hb (fun x1 hb => ?_)
  refine rn_iload_n (i := 2) rfl rfl ?_
  refine rn_aI rfl hb (fun x2 hb => ?_)
  refine rn_bipush (x := (nI 61)) rfl (by decide) ?_
  refine rn_icmp_ne rfl rfl (fun hc => ?_) (fun hc => ?_)
  · exact u_113_56 d hd v0 v1 v2  h _ (if_t hb hc)
  · exact u_113_38 d hd v0 v1 v2  h _ (if_f hb hc)
def b_113_26  (s0 : Int32) (h : Hp) : Option (Int32 × Hp) :=
  (grd (decide (s0 = 0 ∨ s0 = 1))).bind fun _ => some (s0, h)
theorem u_113_26 (d : Nat) (hd : 0 ≤ d) (v0 : Option Nat) (v1 : Int32) (v2 : Int32) (s0 : Int32) (h : Hp) (r : Int32 × Hp) (hb : b_113_26  s0 h = some r) : Rn d 113 26 [some (va_rf v0), some (.int v1), some (.int v2)] [.int s0] h (some (.int r.1), r.2) := by
  unfold b_113_26 at hb
  obtain ⟨hz, hb⟩ := grd_spec hb
  obtain rfl := Option.some.inj hb
  exact rn_zret rfl rfl (of_decide_eq_true hz)
def b_113_25   (h : Hp) : Option (Int32 × Hp) :=
  b_113_26  (nI 0) h
theorem u_113_25 (d : Nat) (hd : 0 ≤ d) (v0 : Option Nat) (v1 : Int32) (v2 : Int32)  (h : Hp) (r : Int32 × Hp) (hb : b_113_25   h = some r) : Rn d 113 25 [some (va_rf v0), some (.int v1), some (.int v2)] [] h (some (.int r.1), r.2) := by
  unfold b_113_25 at hb
  refine rn_iconst (x := (nI 0)) rfl (by decide) ?_
  exact u_113_26 d hd v0 v1 v2 (nI 0) h _ hb
def b_113_21   (h : Hp) : Option (Int32 × Hp) :=
  b_113_26  (nI 1) h
theorem u_113_21 (d : Nat) (hd : 0 ≤ d) (v0 : Option Nat) (v1 : Int32) (v2 : Int32)  (h : Hp) (r : Int32 × Hp) (hb : b_113_21   h = some r) : Rn d 113 21 [some (va_rf v0), some (.int v1), some (.int v2)] [] h (some (.int r.1), r.2) := by
  unfold b_113_21 at hb
  refine rn_iconst (x := (nI 1)) rfl (by decide) ?_
  refine rn_goto rfl rfl ?_
  exact u_113_26 d hd v0 v1 v2 (nI 1) h _ hb
def b_113_11 (v0 : Option Nat) (v1 : Int32) (v2 : Int32)  (h : Hp) : Option (Int32 × Hp) :=
  (gQ 8 2 v0 h).bind fun x1 =>
  (aI 12 x1 v2 h).bind fun x2 =>
  if x2 ≤ v1 then b_113_25   h else b_113_21   h
theorem u_113_11 (d : Nat) (hd : 0 ≤ d) (v0 : Option Nat) (v1 : Int32) (v2 : Int32)  (h : Hp) (r : Int32 × Hp) (hb : b_113_11 v0 v1 v2  h = some r) : Rn d 113 11 [some (va_rf v0), some (.int v1), some (.int v2)] [] h (some (.int r.1), r.2) := by
  unfold b_113_11 at hb
  refine rn_iload_n (i := 1) rfl rfl ?_
  refine rn_aload_n (i := 0) rfl rfl ?_
  refine rn_gQ (c := 8) (k := 2) rfl (by decide) hb (fun x1 hb => ?_)
  refine rn_iload_n (i := 2) rfl rfl ?_
  refine rn_aI rfl hb (fun x2 hb => ?_)
  refine rn_icmp_ge rfl rfl (fun hc => ?_) (fun hc => ?_)
  · exact u_113_25 d hd v0 v1 v2  h _ (if_t hb hc)
  · exact u_113_21 d hd v0 v1 v2  h _ (if_f hb hc)
def b_113_0 (v0 : Option Nat) (v1 : Int32) (v2 : Int32)  (h : Hp) : Option (Int32 × Hp) :=
  (gQ 8 1 v0 h).bind fun x1 =>
  (aI 12 x1 v2 h).bind fun x2 =>
  if ¬ x2 = (nI 60) then b_113_27 v0 v1 v2  h else b_113_11 v0 v1 v2  h
theorem u_113_0 (d : Nat) (hd : 0 ≤ d) (v0 : Option Nat) (v1 : Int32) (v2 : Int32)  (h : Hp) (r : Int32 × Hp) (hb : b_113_0 v0 v1 v2  h = some r) : Rn d 113 0 [some (va_rf v0), some (.int v1), some (.int v2)] [] h (some (.int r.1), r.2) := by
  unfold b_113_0 at hb
  refine rn_aload_n (i := 0) rfl rfl ?_
  refine rn_gQ (c := 8) (k := 1) rfl (by decide) hb (fun x1 hb => ?_)
  refine rn_iload_n (i := 2) rfl rfl ?_
  refine rn_aI rfl hb (fun x2 hb => ?_)
  refine rn_bipush (x := (nI 60)) rfl (by decide) ?_
  refine rn_icmp_ne rfl rfl (fun hc => ?_) (fun hc => ?_)
  · exact u_113_27 d hd v0 v1 v2  h _ (if_t hb hc)
  · exact u_113_11 d hd v0 v1 v2  h _ (if_f hb hc)
/-- BitingDoors$Sentence.compares(II)Z -/
def f_113 (v0 : Option Nat) (v1 : Int32) (v2 : Int32) (h : Hp) : Option (Int32 × Hp) := b_113_0 v0 v1 v2 h
theorem t_113 (d : Nat) (hd : 0 ≤ d) (v0 : Option Nat) (v1 : Int32) (v2 : Int32) (h : Hp) (r : Int32 × Hp) (hb : f_113 v0 v1 v2 h = some r) : Rn d 113 0 [some (va_rf v0), some (.int v1), some (.int v2)] [] h (some (.int r.1), r.2) := by
  unfold f_113 at hb
  exact u_113_0 d hd v0 v1 v2 h r hb
def b_111_86  (s0 : Int32) (h : Hp) : Option (Int32 × Hp) :=
  (grd (decide (s0 = 0 ∨ s0 = 1))).bind fun _ => some (s0, h)
theorem u_111_86 (d : Nat) (hd : 3 ≤ d) (v0 : Option Nat) (v1 : Option Nat) (v2 : Int32) (v3 : Int32) (v4 : Option Nat) (v5 : Int32) (s0 : Int32) (h : Hp) (r : Int32 × Hp) (hb : b_111_86  s0 h = some r) : Rn d 111 86 [some (va_rf v0), some (va_rf v1), some (.int v2), some (.int v3), some (va_rf v4), some (.int v5)] [.int s0] h (some (.int r.1), r.2) := by
  unfold b_111_86 at hb
  obtain ⟨hz, hb⟩ := grd_spec hb
  obtain rfl := Option.some.inj hb
  exact rn_zret rfl rfl (of_decide_eq_true hz)
def b_111_85   (h : Hp) : Option (Int32 × Hp) :=
  b_111_86  (nI 0) h
theorem u_111_85 (d : Nat) (hd : 3 ≤ d) (v0 : Option Nat) (v1 : Option Nat) (v2 : Int32) (v3 : Int32) (v4 : Option Nat) (v5 : Int32)  (h : Hp) (r : Int32 × Hp) (hb : b_111_85   h = some r) : Rn d 111 85 [some (va_rf v0), some (va_rf v1), some (.int v2), some (.int v3), some (va_rf v4), some (.int v5)] [] h (some (.int r.1), r.2) := by
  unfold b_111_85 at hb
  refine rn_iconst (x := (nI 0)) rfl (by decide) ?_
  exact u_111_86 d hd v0 v1 v2 v3 v4 v5 (nI 0) h _ hb
def b_111_81   (h : Hp) : Option (Int32 × Hp) :=
  b_111_86  (nI 1) h
theorem u_111_81 (d : Nat) (hd : 3 ≤ d) (v0 : Option Nat) (v1 : Option Nat) (v2 : Int32) (v3 : Int32) (v4 : Option Nat) (v5 : Int32)  (h : Hp) (r : Int32 × Hp) (hb : b_111_81   h = some r) : Rn d 111 81 [some (va_rf v0), some (va_rf v1), some (.int v2), some (.int v3), some (va_rf v4), some (.int v5)] [] h (some (.int r.1), r.2) := by
  unfold b_111_81 at hb
  refine rn_iconst (x := (nI 1)) rfl (by decide) ?_
  refine rn_goto rfl rfl ?_
  exact u_111_86 d hd v0 v1 v2 v3 v4 v5 (nI 1) h _ hb
def b_111_72 (v1 : Option Nat) (v2 : Int32)  (h : Hp) : Option (Int32 × Hp) :=
  (gQ 7 1 v1 h).bind fun x1 =>
  (aI 12 x1 v2 h).bind fun x2 =>
  if x2 ≤ 0 then b_111_85   h else b_111_81   h
theorem u_111_72 (d : Nat) (hd : 3 ≤ d) (v0 : Option Nat) (v1 : Option Nat) (v2 : Int32) (v3 : Int32) (v4 : Option Nat) (v5 : Int32)  (h : Hp) (r : Int32 × Hp) (hb : b_111_72 v1 v2  h = some r) : Rn d 111 72 [some (va_rf v0), some (va_rf v1), some (.int v2), some (.int v3), some (va_rf v4), some (.int v5)] [] h (some (.int r.1), r.2) := by
  unfold b_111_72 at hb
  refine rn_aload_n (i := 1) rfl rfl ?_
  refine rn_gQ (c := 7) (k := 1) rfl (by decide) hb (fun x1 hb => ?_)
  refine rn_iload_n (i := 2) rfl rfl ?_
  refine rn_aI rfl hb (fun x2 hb => ?_)
  refine rn_if_le rfl rfl (fun hc => ?_) (fun hc => ?_)
  · exact u_111_85 d hd v0 v1 v2 v3 v4 v5  h _ (if_t hb hc)
  · exact u_111_81 d hd v0 v1 v2 v3 v4 v5  h _ (if_f hb hc)
def b_111_87 (v4 : Option Nat) (v5 : Int32)  (h : Hp) : Option (Int32 × Hp) :=
  (grd (rC 1 v4 h)).bind fun _ =>
  (f_9 v4 v5 h).bind fun p1 =>
  (grd (decide (p1.1 = 0 ∨ p1.1 = 1))).bind fun _ => some (p1.1, p1.2)
theorem u_111_87 (d : Nat) (hd : 3 ≤ d) (v0 : Option Nat) (v1 : Option Nat) (v2 : Int32) (v3 : Int32) (v4 : Option Nat) (v5 : Int32)  (h : Hp) (r : Int32 × Hp) (hb : b_111_87 v4 v5  h = some r) : Rn d 111 87 [some (va_rf v0), some (va_rf v1), some (.int v2), some (.int v3), some (va_rf v4), some (.int v5)] [] h (some (.int r.1), r.2) := by
  unfold b_111_87 at hb
  obtain ⟨e, rfl⟩ : ∃ e, d = e + 1 := ⟨d - 1, by omega⟩
  refine rn_aload (i := 4) rfl rfl ?_
  refine rn_iload (i := 5) rfl rfl ?_
  obtain ⟨hrc, hb⟩ := grd_spec hb
  obtain ⟨p1, hc, hb⟩ := Option.bind_eq_some_iff.mp hb
  refine Rn.call1 (d := e) (As := [va_rf v4, .int v5]) (rest := []) rfl rfl rfl (by decide) rfl rfl rfl (bd_rcV hrc rfl) (by decide) (bd_lenC (n := 3) rfl (bd_slR (bd_slI bd_slN)) rfl) (bd_locC (n := 3) rfl (bd_slR (bd_slI bd_slN)) rfl (t_9 e (by omega) v4 v5 h _ hc)) ?_
  obtain ⟨hz, hb⟩ := grd_spec hb
  obtain rfl := Option.some.inj hb
  exact rn_zret rfl rfl (of_decide_eq_true hz)
def b_111_95 (v1 : Option Nat) (v2 : Int32)  (h : Hp) : Option (Int32 × Hp) :=
  (grd (rC 7 v1 h)).bind fun _ =>
  (f_87 v1 v2 h).bind fun p1 =>
  (grd (decide (p1.1 = 0 ∨ p1.1 = 1))).bind fun _ => some (p1.1, p1.2)
theorem u_111_95 (d : Nat) (hd : 3 ≤ d) (v0 : Option Nat) (v1 : Option Nat) (v2 : Int32) (v3 : Int32) (v4 : Option Nat) (v5 : Int32)  (h : Hp) (r : Int32 × Hp) (hb : b_111_95 v1 v2  h = some r) : Rn d 111 95 [some (va_rf v0), some (va_rf v1), some (.int v2), some (.int v3), some (va_rf v4), some (.int v5)] [] h (some (.int r.1), r.2) := by
  unfold b_111_95 at hb
  obtain ⟨e, rfl⟩ : ∃ e, d = e + 1 := ⟨d - 1, by omega⟩
  refine rn_aload_n (i := 1) rfl rfl ?_
  refine rn_iload_n (i := 2) rfl rfl ?_
  obtain ⟨hrc, hb⟩ := grd_spec hb
  obtain ⟨p1, hc, hb⟩ := Option.bind_eq_some_iff.mp hb
  refine Rn.call1 (d := e) (As := [va_rf v1, .int v2]) (rest := []) rfl rfl rfl (by decide) rfl rfl rfl (bd_rcV hrc rfl) (by decide) (bd_lenC (n := 9) rfl (bd_slR (bd_slI bd_slN)) rfl) (bd_locC (n := 9) rfl (bd_slR (bd_slI bd_slN)) rfl (t_87 e (by omega) v1 v2 h _ hc)) ?_
  obtain ⟨hz, hb⟩ := grd_spec hb
  obtain rfl := Option.some.inj hb
  exact rn_zret rfl rfl (of_decide_eq_true hz)
def b_111_101 (v0 : Option Nat) (v1 : Option Nat) (v2 : Int32) (v3 : Int32)  (h : Hp) : Option (Int32 × Hp) :=
  (gQ 8 2 v0 h).bind fun x1 =>
  (aI 12 x1 v3 h).bind fun x2 =>
  (f_112 v1 v2 x2 h).bind fun p3 =>
  (grd (decide (p3.1 = 0 ∨ p3.1 = 1))).bind fun _ => some (p3.1, p3.2)
theorem u_111_101 (d : Nat) (hd : 3 ≤ d) (v0 : Option Nat) (v1 : Option Nat) (v2 : Int32) (v3 : Int32) (v4 : Option Nat) (v5 : Int32)  (h : Hp) (r : Int32 × Hp) (hb : b_111_101 v0 v1 v2 v3  h = some r) : Rn d 111 101 [some (va_rf v0), some (va_rf v1), some (.int v2), some (.int v3), some (va_rf v4), some (.int v5)] [] h (some (.int r.1), r.2) := by
  unfold b_111_101 at hb
  obtain ⟨e, rfl⟩ : ∃ e, d = e + 1 := ⟨d - 1, by omega⟩
  refine rn_aload_n (i := 1) rfl rfl ?_
  refine rn_iload_n (i := 2) rfl rfl ?_
  refine rn_aload_n (i := 0) rfl rfl ?_
  refine rn_gQ (c := 8) (k := 2) rfl (by decide) hb (fun x1 hb => ?_)
  refine rn_iload_n (i := 3) rfl rfl ?_
  refine rn_aI rfl hb (fun x2 hb => ?_)
  obtain ⟨p3, hc, hb⟩ := Option.bind_eq_some_iff.mp hb
  refine Rn.call1 (d := e) (As := [va_rf v1, .int v2, .int x2]) (rest := []) rfl rfl rfl (by decide) rfl rfl rfl rfl (by decide) (bd_lenC (n := 3) rfl (bd_slR (bd_slI (bd_slI bd_slN))) rfl) (bd_locC (n := 3) rfl (bd_slR (bd_slI (bd_slI bd_slN))) rfl (t_112 e (by omega) v1 v2 x2 h _ hc)) ?_
  obtain ⟨hz, hb⟩ := grd_spec hb
  obtain rfl := Option.some.inj hb
  exact rn_zret rfl rfl (of_decide_eq_true hz)
def b_111_113 (v0 : Option Nat) (v1 : Option Nat) (v2 : Int32) (v3 : Int32)  (h : Hp) : Option (Int32 × Hp) :=
  (gQ 7 1 v1 h).bind fun x1 =>
  (aI 12 x1 v2 h).bind fun x2 =>
  (grd (rC 8 v0 h)).bind fun _ =>
  (f_113 v0 x2 v3 h).bind fun p3 =>
  (grd (decide (p3.1 = 0 ∨ p3.1 = 1))).bind fun _ => some (p3.1, p3.2)
theorem u_111_113 (d : Nat) (hd : 3 ≤ d) (v0 : Option Nat) (v1 : Option Nat) (v2 : Int32) (v3 : Int32) (v4 : Option Nat) (v5 : Int32)  (h : Hp) (r : Int32 × Hp) (hb : b_111_113 v0 v1 v2 v3  h = some r) : Rn d 111 113 [some (va_rf v0), some (va_rf v1), some (.int v2), some (.int v3), some (va_rf v4), some (.int v5)] [] h (some (.int r.1), r.2) := by
  unfold b_111_113 at hb
  obtain ⟨e, rfl⟩ : ∃ e, d = e + 1 := ⟨d - 1, by omega⟩
  refine rn_aload_n (i := 0) rfl rfl ?_
  refine rn_aload_n (i := 1) rfl rfl ?_
  refine rn_gQ (c := 7) (k := 1) rfl (by decide) hb (fun x1 hb => ?_)
  refine rn_iload_n (i := 2) rfl rfl ?_
  refine rn_aI rfl hb (fun x2 hb => ?_)
  refine rn_iload_n (i := 3) rfl rfl ?_
  obtain ⟨hrc, hb⟩ := grd_spec hb
  obtain ⟨p3, hc, hb⟩ := Option.bind_eq_some_iff.mp hb
  refine Rn.call1 (d := e) (As := [va_rf v0, .int x2, .int v3]) (rest := []) rfl rfl rfl (by decide) rfl rfl rfl (bd_rcV hrc rfl) (by decide) (bd_lenC (n := 3) rfl (bd_slR (bd_slI (bd_slI bd_slN))) rfl) (bd_locC (n := 3) rfl (bd_slR (bd_slI (bd_slI bd_slN))) rfl (t_113 e (by omega) v0 x2 v3 h _ hc)) ?_
  obtain ⟨hz, hb⟩ := grd_spec hb
  obtain rfl := Option.some.inj hb
  exact rn_zret rfl rfl (of_decide_eq_true hz)
def b_111_125 (v0 : Option Nat) (v3 : Int32) (v4 : Option Nat)  (h : Hp) : Option (Int32 × Hp) :=
  (gI 1 9 v4 h).bind fun x1 =>
  (grd (rC 8 v0 h)).bind fun _ =>
  (f_113 v0 x1 v3 h).bind fun p2 =>
  (grd (decide (p2.1 = 0 ∨ p2.1 = 1))).bind fun _ => some (p2.1, p2.2)
theorem u_111_125 (d : Nat) (hd : 3 ≤ d) (v0 : Option Nat) (v1 : Option Nat) (v2 : Int32) (v3 : Int32) (v4 : Option Nat) (v5 : Int32)  (h : Hp) (r : Int32 × Hp) (hb : b_111_125 v0 v3 v4  h = some r) : Rn d 111 125 [some (va_rf v0), some (va_rf v1), some (.int v2), some (.int v3), some (va_rf v4), some (.int v5)] [] h (some (.int r.1), r.2) := by
  unfold b_111_125 at hb
  obtain ⟨e, rfl⟩ : ∃ e, d = e + 1 := ⟨d - 1, by omega⟩
  refine rn_aload_n (i := 0) rfl rfl ?_
  refine rn_aload (i := 4) rfl rfl ?_
  refine rn_gI (c := 1) (k := 9) rfl (by decide) hb (fun x1 hb => ?_)
  refine rn_iload_n (i := 3) rfl rfl ?_
  obtain ⟨hrc, hb⟩ := grd_spec hb
  obtain ⟨p2, hc, hb⟩ := Option.bind_eq_some_iff.mp hb
  refine Rn.call1 (d := e) (As := [va_rf v0, .int x1, .int v3]) (rest := []) rfl rfl rfl (by decide) rfl rfl rfl (bd_rcV hrc rfl) (by decide) (bd_lenC (n := 3) rfl (bd_slR (bd_slI (bd_slI bd_slN))) rfl) (bd_locC (n := 3) rfl (bd_slR (bd_slI (bd_slI bd_slN))) rfl (t_113 e (by omega) v0 x1 v3 h _ hc)) ?_
  obtain ⟨hz, hb⟩ := grd_spec hb
  obtain rfl := Option.some.inj hb
  exact rn_zret rfl rfl (of_decide_eq_true hz)
def b_111_136 (v0 : Option Nat) (v3 : Int32) (v4 : Option Nat) (v5 : Int32)  (h : Hp) : Option (Int32 × Hp) :=
  (grd (rC 1 v4 h)).bind fun _ =>
  (f_13 v4 v5 h).bind fun p1 =>
  (grd (rC 8 v0 p1.2)).bind fun _ =>
  (f_113 v0 p1.1 v3 p1.2).bind fun p2 =>
  (grd (decide (p2.1 = 0 ∨ p2.1 = 1))).bind fun _ => some (p2.1, p2.2)
theorem u_111_136 (d : Nat) (hd : 3 ≤ d) (v0 : Option Nat) (v1 : Option Nat) (v2 : Int32) (v3 : Int32) (v4 : Option Nat) (v5 : Int32)  (h : Hp) (r : Int32 × Hp) (hb : b_111_136 v0 v3 v4 v5  h = some r) : Rn d 111 136 [some (va_rf v0), some (va_rf v1), some (.int v2), some (.int v3), some (va_rf v4), some (.int v5)] [] h (some (.int r.1), r.2) := by
  unfold b_111_136 at hb
  obtain ⟨e, rfl⟩ : ∃ e, d = e + 1 := ⟨d - 1, by omega⟩
  refine rn_aload_n (i := 0) rfl rfl ?_
  refine rn_aload (i := 4) rfl rfl ?_
  refine rn_iload (i := 5) rfl rfl ?_
  obtain ⟨hrc, hb⟩ := grd_spec hb
  obtain ⟨p1, hc, hb⟩ := Option.bind_eq_some_iff.mp hb
  refine Rn.call1 (d := e) (As := [va_rf v4, .int v5]) (rest := [va_rf v0]) rfl rfl rfl (by decide) rfl rfl rfl (bd_rcV hrc rfl) (by rw [bd_cR (bd_cN)]; decide) (bd_lenC (n := 2) rfl (bd_slR (bd_slI bd_slN)) rfl) (bd_locC (n := 2) rfl (bd_slR (bd_slI bd_slN)) rfl (t_13 e (by omega) v4 v5 h _ hc)) ?_
  refine rn_iload_n (i := 3) rfl rfl ?_
  obtain ⟨hrc, hb⟩ := grd_spec hb
  obtain ⟨p2, hc, hb⟩ := Option.bind_eq_some_iff.mp hb
  refine Rn.call1 (d := e) (As := [va_rf v0, .int p1.1, .int v3]) (rest := []) rfl rfl rfl (by decide) rfl rfl rfl (bd_rcV hrc rfl) (by decide) (bd_lenC (n := 3) rfl (bd_slR (bd_slI (bd_slI bd_slN))) rfl) (bd_locC (n := 3) rfl (bd_slR (bd_slI (bd_slI bd_slN))) rfl (t_113 e (by omega) v0 p1.1 v3 p1.2 _ hc)) ?_
  obtain ⟨hz, hb⟩ := grd_spec hb
  obtain rfl := Option.some.inj hb
  exact rn_zret rfl rfl (of_decide_eq_true hz)
def b_111_149 (v0 : Option Nat) (v3 : Int32) (v4 : Option Nat)  (h : Hp) : Option (Int32 × Hp) :=
  (grd (rC 1 v4 h)).bind fun _ =>
  (f_11 v4 h).bind fun p1 =>
  (grd (rC 8 v0 p1.2)).bind fun _ =>
  (f_113 v0 p1.1 v3 p1.2).bind fun p2 =>
  (grd (decide (p2.1 = 0 ∨ p2.1 = 1))).bind fun _ => some (p2.1, p2.2)
theorem u_111_149 (d : Nat) (hd : 3 ≤ d) (v0 : Option Nat) (v1 : Option Nat) (v2 : Int32) (v3 : Int32) (v4 : Option Nat) (v5 : Int32)  (h : Hp) (r : Int32 × Hp) (hb : b_111_149 v0 v3 v4  h = some r) : Rn d 111 149 [some (va_rf v0), some (va_rf v1), some (.int v2), some (.int v3), some (va_rf v4), some (.int v5)] [] h (some (.int r.1), r.2) := by
  unfold b_111_149 at hb
  obtain ⟨e, rfl⟩ : ∃ e, d = e + 1 := ⟨d - 1, by omega⟩
  refine rn_aload_n (i := 0) rfl rfl ?_
  refine rn_aload (i := 4) rfl rfl ?_
  obtain ⟨hrc, hb⟩ := grd_spec hb
  obtain ⟨p1, hc, hb⟩ := Option.bind_eq_some_iff.mp hb
  refine Rn.call1 (d := e) (As := [va_rf v4]) (rest := [va_rf v0]) rfl rfl rfl (by decide) rfl rfl rfl (bd_rcV hrc rfl) (by rw [bd_cR (bd_cN)]; decide) (bd_lenC (n := 3) rfl (bd_slR bd_slN) rfl) (bd_locC (n := 3) rfl (bd_slR bd_slN) rfl (t_11 e (by omega) v4 h _ hc)) ?_
  refine rn_iload_n (i := 3) rfl rfl ?_
  obtain ⟨hrc, hb⟩ := grd_spec hb
  obtain ⟨p2, hc, hb⟩ := Option.bind_eq_some_iff.mp hb
  refine Rn.call1 (d := e) (As := [va_rf v0, .int p1.1, .int v3]) (rest := []) rfl rfl rfl (by decide) rfl rfl rfl (bd_rcV hrc rfl) (by decide) (bd_lenC (n := 3) rfl (bd_slR (bd_slI (bd_slI bd_slN))) rfl) (bd_locC (n := 3) rfl (bd_slR (bd_slI (bd_slI bd_slN))) rfl (t_113 e (by omega) v0 p1.1 v3 p1.2 _ hc)) ?_
  obtain ⟨hz, hb⟩ := grd_spec hb
  obtain rfl := Option.some.inj hb
  exact rn_zret rfl rfl (of_decide_eq_true hz)
def b_111_160 (v0 : Option Nat) (v3 : Int32) (v4 : Option Nat)  (h : Hp) : Option (Int32 × Hp) :=
  (gI 1 12 v4 h).bind fun x1 =>
  (grd (rC 8 v0 h)).bind fun _ =>
  (f_113 v0 x1 v3 h).bind fun p2 =>
  (grd (decide (p2.1 = 0 ∨ p2.1 = 1))).bind fun _ => some (p2.1, p2.2)
theorem u_111_160 (d : Nat) (hd : 3 ≤ d) (v0 : Option Nat) (v1 : Option Nat) (v2 : Int32) (v3 : Int32) (v4 : Option Nat) (v5 : Int32)  (h : Hp) (r : Int32 × Hp) (hb : b_111_160 v0 v3 v4  h = some r) : Rn d 111 160 [some (va_rf v0), some (va_rf v1), some (.int v2), some (.int v3), some (va_rf v4), some (.int v5)] [] h (some (.int r.1), r.2) := by
  unfold b_111_160 at hb
  obtain ⟨e, rfl⟩ : ∃ e, d = e + 1 := ⟨d - 1, by omega⟩
  refine rn_aload_n (i := 0) rfl rfl ?_
  refine rn_aload (i := 4) rfl rfl ?_
  refine rn_gI (c := 1) (k := 12) rfl (by decide) hb (fun x1 hb => ?_)
  refine rn_iload_n (i := 3) rfl rfl ?_
  obtain ⟨hrc, hb⟩ := grd_spec hb
  obtain ⟨p2, hc, hb⟩ := Option.bind_eq_some_iff.mp hb
  refine Rn.call1 (d := e) (As := [va_rf v0, .int x1, .int v3]) (rest := []) rfl rfl rfl (by decide) rfl rfl rfl (bd_rcV hrc rfl) (by decide) (bd_lenC (n := 3) rfl (bd_slR (bd_slI (bd_slI bd_slN))) rfl) (bd_locC (n := 3) rfl (bd_slR (bd_slI (bd_slI bd_slN))) rfl (t_113 e (by omega) v0 x1 v3 h _ hc)) ?_
  obtain ⟨hz, hb⟩ := grd_spec hb
  obtain rfl := Option.some.inj hb
  exact rn_zret rfl rfl (of_decide_eq_true hz)
def b_111_0 (v0 : Option Nat) (v1 : Option Nat) (v2 : Int32) (v3 : Int32)  (h : Hp) : Option (Int32 × Hp) :=
  (gQ 7 2 v1 h).bind fun x1 =>
  (gQ 4 1 x1 h).bind fun x2 =>
  (aQ x2 v2 h).bind fun x3 =>
  (gQ 7 0 v1 h).bind fun x4 =>
  (aI 12 x4 v2 h).bind fun x5 =>
  (gQ 8 0 v0 h).bind fun x6 =>
  (aI 12 x6 v3 h).bind fun x7 =>
  if x7 = nI 3 then b_111_72 v1 v2  h else if x7 = nI 4 then b_111_87 x3 x5  h else if x7 = nI 5 then b_111_95 v1 v2  h else if x7 = nI 6 then b_111_101 v0 v1 v2 v3  h else if x7 = nI 7 then b_111_113 v0 v1 v2 v3  h else if x7 = nI 8 then b_111_125 v0 v3 x3  h else if x7 = nI 9 then b_111_136 v0 v3 x3 x5  h else if x7 = nI 10 then b_111_149 v0 v3 x3  h else b_111_160 v0 v3 x3  h
theorem u_111_0 (d : Nat) (hd : 3 ≤ d) (v0 : Option Nat) (v1 : Option Nat) (v2 : Int32) (v3 : Int32)  (h : Hp) (r : Int32 × Hp) (hb : b_111_0 v0 v1 v2 v3  h = some r) : Rn d 111 0 [some (va_rf v0), some (va_rf v1), some (.int v2), some (.int v3), none, none] [] h (some (.int r.1), r.2) := by
  unfold b_111_0 at hb
  refine rn_aload_n (i := 1) rfl rfl ?_
  refine rn_gQ (c := 7) (k := 2) rfl (by decide) hb (fun x1 hb => ?_)
  refine rn_gQ (c := 4) (k := 1) rfl (by decide) hb (fun x2 hb => ?_)
  refine rn_iload_n (i := 2) rfl rfl ?_
  refine rn_aQ rfl hb (fun x3 hb => ?_)
  refine rn_astore (i := 4) (L1 := [some (va_rf v0), some (va_rf v1), some (.int v2), some (.int v3), some (va_rf x3), none]) rfl (Nat.le_of_ble_eq_true rfl) (Or.inr rfl) rfl ?_
  refine rn_aload_n (i := 1) rfl rfl ?_
  refine rn_gQ (c := 7) (k := 0) rfl (by decide) hb (fun x4 hb => ?_)
  refine rn_iload_n (i := 2) rfl rfl ?_
  refine rn_aI rfl hb (fun x5 hb => ?_)
  refine rn_istore (i := 5) (L1 := [some (va_rf v0), some (va_rf v1), some (.int v2), some (.int v3), some (va_rf x3), some (.int x5)]) rfl (Nat.le_of_ble_eq_true rfl) (Or.inr (bd_wideR rfl)) rfl ?_
  refine rn_aload_n (i := 0) rfl rfl ?_
  refine rn_gQ (c := 8) (k := 0) rfl (by decide) hb (fun x6 hb => ?_)
  refine rn_iload_n (i := 3) rfl rfl ?_
  refine rn_aI rfl hb (fun x7 hb => ?_)
  by_cases hc3 : x7 = nI 3
  · rw [if_pos hc3] at hb; refine rn_tsw (t := 72) rfl (by rw [hc3]; decide) ?_; exact u_111_72 d hd v0 v1 v2 v3 x3 x5  h _ hb
  rw [if_neg hc3] at hb
  by_cases hc4 : x7 = nI 4
  · rw [if_pos hc4] at hb; refine rn_tsw (t := 87) rfl (by rw [hc4]; decide) ?_; exact u_111_87 d hd v0 v1 v2 v3 x3 x5  h _ hb
  rw [if_neg hc4] at hb
  by_cases hc5 : x7 = nI 5
  · rw [if_pos hc5] at hb; refine rn_tsw (t := 95) rfl (by rw [hc5]; decide) ?_; exact u_111_95 d hd v0 v1 v2 v3 x3 x5  h _ hb
  rw [if_neg hc5] at hb
  by_cases hc6 : x7 = nI 6
  · rw [if_pos hc6] at hb; refine rn_tsw (t := 101) rfl (by rw [hc6]; decide) ?_; exact u_111_101 d hd v0 v1 v2 v3 x3 x5  h _ hb
  rw [if_neg hc6] at hb
  by_cases hc7 : x7 = nI 7
  · rw [if_pos hc7] at hb; refine rn_tsw (t := 113) rfl (by rw [hc7]; decide) ?_; exact u_111_113 d hd v0 v1 v2 v3 x3 x5  h _ hb
  rw [if_neg hc7] at hb
  by_cases hc8 : x7 = nI 8
  · rw [if_pos hc8] at hb; refine rn_tsw (t := 125) rfl (by rw [hc8]; decide) ?_; exact u_111_125 d hd v0 v1 v2 v3 x3 x5  h _ hb
  rw [if_neg hc8] at hb
  by_cases hc9 : x7 = nI 9
  · rw [if_pos hc9] at hb; refine rn_tsw (t := 136) rfl (by rw [hc9]; decide) ?_; exact u_111_136 d hd v0 v1 v2 v3 x3 x5  h _ hb
  rw [if_neg hc9] at hb
  by_cases hc10 : x7 = nI 10
  · rw [if_pos hc10] at hb; refine rn_tsw (t := 149) rfl (by rw [hc10]; decide) ?_; exact u_111_149 d hd v0 v1 v2 v3 x3 x5  h _ hb
  rw [if_neg hc10] at hb
  have z3 := sw_ne hc3 (by decide)
  have z4 := sw_ne hc4 (by decide)
  have z5 := sw_ne hc5 (by decide)
  have z6 := sw_ne hc6 (by decide)
  have z7 := sw_ne hc7 (by decide)
  have z8 := sw_ne hc8 (by decide)
  have z9 := sw_ne hc9 (by decide)
  have z10 := sw_ne hc10 (by decide)
  refine rn_tsw (t := 160) rfl (swT_d (by omega) rfl) ?_
  exact u_111_160 d hd v0 v1 v2 v3 x3 x5  h _ hb
/-- BitingDoors$Sentence.holds(LBitingDoors$Scene;II)Z -/
def f_111 (v0 : Option Nat) (v1 : Option Nat) (v2 : Int32) (v3 : Int32) (h : Hp) : Option (Int32 × Hp) := b_111_0 v0 v1 v2 v3 h
theorem t_111 (d : Nat) (hd : 3 ≤ d) (v0 : Option Nat) (v1 : Option Nat) (v2 : Int32) (v3 : Int32) (h : Hp) (r : Int32 × Hp) (hb : f_111 v0 v1 v2 v3 h = some r) : Rn d 111 0 [some (va_rf v0), some (va_rf v1), some (.int v2), some (.int v3), none, none] [] h (some (.int r.1), r.2) := by
  unfold f_111 at hb
  exact u_111_0 d hd v0 v1 v2 v3 h r hb
def b_110_115  (s0 : Int32) (h : Hp) : Option (Int32 × Hp) :=
  (grd (decide (s0 = 0 ∨ s0 = 1))).bind fun _ => some (s0, h)
theorem u_110_115 (d : Nat) (hd : 4 ≤ d) (v0 : Option Nat) (v1 : Option Nat) (v2 : Int32) (v3 : Int32) (v4 : Int32) (s0 : Int32) (h : Hp) (r : Int32 × Hp) (hb : b_110_115  s0 h = some r) : Rn d 110 115 [some (va_rf v0), some (va_rf v1), some (.int v2), some (.int v3), some (.int v4)] [.int s0] h (some (.int r.1), r.2) := by
  unfold b_110_115 at hb
  obtain ⟨hz, hb⟩ := grd_spec hb
  obtain rfl := Option.some.inj hb
  exact rn_zret rfl rfl (of_decide_eq_true hz)
def b_110_114   (h : Hp) : Option (Int32 × Hp) :=
  b_110_115  (nI 0) h
theorem u_110_114 (d : Nat) (hd : 4 ≤ d) (v0 : Option Nat) (v1 : Option Nat) (v2 : Int32) (v3 : Int32) (v4 : Int32)  (h : Hp) (r : Int32 × Hp) (hb : b_110_114   h = some r) : Rn d 110 114 [some (va_rf v0), some (va_rf v1), some (.int v2), some (.int v3), some (.int v4)] [] h (some (.int r.1), r.2) := by
  unfold b_110_114 at hb
  refine rn_iconst (x := (nI 0)) rfl (by decide) ?_
  exact u_110_115 d hd v0 v1 v2 v3 v4 (nI 0) h _ hb
def b_110_110   (h : Hp) : Option (Int32 × Hp) :=
  b_110_115  (nI 1) h
theorem u_110_110 (d : Nat) (hd : 4 ≤ d) (v0 : Option Nat) (v1 : Option Nat) (v2 : Int32) (v3 : Int32) (v4 : Int32)  (h : Hp) (r : Int32 × Hp) (hb : b_110_110   h = some r) : Rn d 110 110 [some (va_rf v0), some (va_rf v1), some (.int v2), some (.int v3), some (.int v4)] [] h (some (.int r.1), r.2) := by
  unfold b_110_110 at hb
  refine rn_iconst (x := (nI 1)) rfl (by decide) ?_
  refine rn_goto rfl rfl ?_
  exact u_110_115 d hd v0 v1 v2 v3 v4 (nI 1) h _ hb
def b_110_103 (v3 : Int32)  (h : Hp) : Option (Int32 × Hp) :=
  if ¬ (v3 &&& (nI 1)) = (nI 1) then b_110_114   h else b_110_110   h
theorem u_110_103 (d : Nat) (hd : 4 ≤ d) (v0 : Option Nat) (v1 : Option Nat) (v2 : Int32) (v3 : Int32) (v4 : Int32)  (h : Hp) (r : Int32 × Hp) (hb : b_110_103 v3  h = some r) : Rn d 110 103 [some (va_rf v0), some (va_rf v1), some (.int v2), some (.int v3), some (.int v4)] [] h (some (.int r.1), r.2) := by
  unfold b_110_103 at hb
  refine rn_iload_n (i := 3) rfl rfl ?_
  refine rn_iconst (x := (nI 1)) rfl (by decide) ?_
  refine rn_iand rfl ?_
  refine rn_iconst (x := (nI 1)) rfl (by decide) ?_
  refine rn_icmp_ne rfl rfl (fun hc => ?_) (fun hc => ?_)
  · exact u_110_114 d hd v0 v1 v2 v3 v4  h _ (if_t hb hc)
  · exact u_110_110 d hd v0 v1 v2 v3 v4  h _ (if_f hb hc)
def b_110_97 (k5 : Option Nat → Option Nat → Int32 → Int32 → Int32 → Hp → Option (Int32 × Hp)) (v0 : Option Nat) (v1 : Option Nat) (v2 : Int32) (v3 : Int32) (v4 : Int32)  (h : Hp) : Option (Int32 × Hp) :=
  bnd (v4 + (nI 1)) fun x1 =>
  k5 v0 v1 v2 v3 x1 h
theorem u_110_97 (d : Nat) (hd : 4 ≤ d) (k5 : Option Nat → Option Nat → Int32 → Int32 → Int32 → Hp → Option (Int32 × Hp)) (K5 : ∀ (v0 : Option Nat) (v1 : Option Nat) (v2 : Int32) (v3 : Int32) (v4 : Int32) (h : Hp) (r : Int32 × Hp), k5 v0 v1 v2 v3 v4 h = some r → Rn d 110 5 [some (va_rf v0), some (va_rf v1), some (.int v2), some (.int v3), some (.int v4)] [] h (some (.int r.1), r.2)) (v0 : Option Nat) (v1 : Option Nat) (v2 : Int32) (v3 : Int32) (v4 : Int32)  (h : Hp) (r : Int32 × Hp) (hb : b_110_97 k5 v0 v1 v2 v3 v4  h = some r) : Rn d 110 97 [some (va_rf v0), some (va_rf v1), some (.int v2), some (.int v3), some (.int v4)] [] h (some (.int r.1), r.2) := by
  unfold b_110_97 at hb
  obtain ⟨x1, ex1, hb⟩ := bnd_spec hb
  refine rn_iinc (i := 4) (y := x1) (L1 := [some (va_rf v0), some (va_rf v1), some (.int v2), some (.int v3), some (.int x1)]) rfl rfl (Nat.le_of_ble_eq_true rfl) (Or.inr rfl) (by rw [ex1]; rfl) rfl ?_
  refine rn_goto rfl rfl ?_
  exact K5 v0 v1 v2 v3 x1 h _ hb
def b_110_95 (k5 : Option Nat → Option Nat → Int32 → Int32 → Int32 → Hp → Option (Int32 × Hp)) (v0 : Option Nat) (v1 : Option Nat) (v2 : Int32) (v4 : Int32) (s0 : Int32) (s1 : Int32) (h : Hp) : Option (Int32 × Hp) :=
  bnd ((s0 ||| s1)) fun x1 =>
  b_110_97 k5 v0 v1 v2 x1 v4  h
theorem u_110_95 (d : Nat) (hd : 4 ≤ d) (k5 : Option Nat → Option Nat → Int32 → Int32 → Int32 → Hp → Option (Int32 × Hp)) (K5 : ∀ (v0 : Option Nat) (v1 : Option Nat) (v2 : Int32) (v3 : Int32) (v4 : Int32) (h : Hp) (r : Int32 × Hp), k5 v0 v1 v2 v3 v4 h = some r → Rn d 110 5 [some (va_rf v0), some (va_rf v1), some (.int v2), some (.int v3), some (.int v4)] [] h (some (.int r.1), r.2)) (v0 : Option Nat) (v1 : Option Nat) (v2 : Int32) (v3 : Int32) (v4 : Int32) (s0 : Int32) (s1 : Int32) (h : Hp) (r : Int32 × Hp) (hb : b_110_95 k5 v0 v1 v2 v4 s0 s1 h = some r) : Rn d 110 95 [some (va_rf v0), some (va_rf v1), some (.int v2), some (.int v3), some (.int v4)] [.int s1, .int s0] h (some (.int r.1), r.2) := by
  unfold b_110_95 at hb
  refine rn_ior rfl ?_
  obtain ⟨x1, ex1, hb⟩ := bnd_spec hb
  refine rn_istore_n (i := 3) (L1 := [some (va_rf v0), some (va_rf v1), some (.int v2), some (.int x1), some (.int v4)]) rfl (Nat.le_of_ble_eq_true rfl) (Or.inr rfl) (by rw [ex1]; rfl) ?_
  exact u_110_97 d hd k5 K5 v0 v1 v2 x1 v4  h _ hb
def b_110_94 (k5 : Option Nat → Option Nat → Int32 → Int32 → Int32 → Hp → Option (Int32 × Hp)) (v0 : Option Nat) (v1 : Option Nat) (v2 : Int32) (v4 : Int32) (s0 : Int32) (h : Hp) : Option (Int32 × Hp) :=
  b_110_95 k5 v0 v1 v2 v4 s0 (nI 0) h
theorem u_110_94 (d : Nat) (hd : 4 ≤ d) (k5 : Option Nat → Option Nat → Int32 → Int32 → Int32 → Hp → Option (Int32 × Hp)) (K5 : ∀ (v0 : Option Nat) (v1 : Option Nat) (v2 : Int32) (v3 : Int32) (v4 : Int32) (h : Hp) (r : Int32 × Hp), k5 v0 v1 v2 v3 v4 h = some r → Rn d 110 5 [some (va_rf v0), some (va_rf v1), some (.int v2), some (.int v3), some (.int v4)] [] h (some (.int r.1), r.2)) (v0 : Option Nat) (v1 : Option Nat) (v2 : Int32) (v3 : Int32) (v4 : Int32) (s0 : Int32) (h : Hp) (r : Int32 × Hp) (hb : b_110_94 k5 v0 v1 v2 v4 s0 h = some r) : Rn d 110 94 [some (va_rf v0), some (va_rf v1), some (.int v2), some (.int v3), some (.int v4)] [.int s0] h (some (.int r.1), r.2) := by
  unfold b_110_94 at hb
  refine rn_iconst (x := (nI 0)) rfl (by decide) ?_
  exact u_110_95 d hd k5 K5 v0 v1 v2 v3 v4 s0 (nI 0) h _ hb
def b_110_90 (k5 : Option Nat → Option Nat → Int32 → Int32 → Int32 → Hp → Option (Int32 × Hp)) (v0 : Option Nat) (v1 : Option Nat) (v2 : Int32) (v4 : Int32) (s0 : Int32) (h : Hp) : Option (Int32 × Hp) :=
  b_110_95 k5 v0 v1 v2 v4 s0 (nI 1) h
theorem u_110_90 (d : Nat) (hd : 4 ≤ d) (k5 : Option Nat → Option Nat → Int32 → Int32 → Int32 → Hp → Option (Int32 × Hp)) (K5 : ∀ (v0 : Option Nat) (v1 : Option Nat) (v2 : Int32) (v3 : Int32) (v4 : Int32) (h : Hp) (r : Int32 × Hp), k5 v0 v1 v2 v3 v4 h = some r → Rn d 110 5 [some (va_rf v0), some (va_rf v1), some (.int v2), some (.int v3), some (.int v4)] [] h (some (.int r.1), r.2)) (v0 : Option Nat) (v1 : Option Nat) (v2 : Int32) (v3 : Int32) (v4 : Int32) (s0 : Int32) (h : Hp) (r : Int32 × Hp) (hb : b_110_90 k5 v0 v1 v2 v4 s0 h = some r) : Rn d 110 90 [some (va_rf v0), some (va_rf v1), some (.int v2), some (.int v3), some (.int v4)] [.int s0] h (some (.int r.1), r.2) := by
  unfold b_110_90 at hb
  refine rn_iconst (x := (nI 1)) rfl (by decide) ?_
  refine rn_goto rfl rfl ?_
  exact u_110_95 d hd k5 K5 v0 v1 v2 v3 v4 s0 (nI 1) h _ hb
def b_110_76 (k5 : Option Nat → Option Nat → Int32 → Int32 → Int32 → Hp → Option (Int32 × Hp)) (v0 : Option Nat) (v1 : Option Nat) (v2 : Int32) (v3 : Int32) (v4 : Int32)  (h : Hp) : Option (Int32 × Hp) :=
  (grd (rC 8 v0 h)).bind fun _ =>
  (f_111 v0 v1 v2 v4 h).bind fun p1 =>
  if p1.1 = 0 then b_110_94 k5 v0 v1 v2 v4 (v3 <<< ((nI 1) &&& 31)) p1.2 else b_110_90 k5 v0 v1 v2 v4 (v3 <<< ((nI 1) &&& 31)) p1.2
theorem u_110_76 (d : Nat) (hd : 4 ≤ d) (k5 : Option Nat → Option Nat → Int32 → Int32 → Int32 → Hp → Option (Int32 × Hp)) (K5 : ∀ (v0 : Option Nat) (v1 : Option Nat) (v2 : Int32) (v3 : Int32) (v4 : Int32) (h : Hp) (r : Int32 × Hp), k5 v0 v1 v2 v3 v4 h = some r → Rn d 110 5 [some (va_rf v0), some (va_rf v1), some (.int v2), some (.int v3), some (.int v4)] [] h (some (.int r.1), r.2)) (v0 : Option Nat) (v1 : Option Nat) (v2 : Int32) (v3 : Int32) (v4 : Int32)  (h : Hp) (r : Int32 × Hp) (hb : b_110_76 k5 v0 v1 v2 v3 v4  h = some r) : Rn d 110 76 [some (va_rf v0), some (va_rf v1), some (.int v2), some (.int v3), some (.int v4)] [] h (some (.int r.1), r.2) := by
  unfold b_110_76 at hb
  obtain ⟨e, rfl⟩ : ∃ e, d = e + 1 := ⟨d - 1, by omega⟩
  refine rn_iload_n (i := 3) rfl rfl ?_
  refine rn_iconst (x := (nI 1)) rfl (by decide) ?_
  refine rn_ishl rfl ?_
  refine rn_aload_n (i := 0) rfl rfl ?_
  refine rn_aload_n (i := 1) rfl rfl ?_
  refine rn_iload_n (i := 2) rfl rfl ?_
  refine rn_iload (i := 4) rfl rfl ?_
  obtain ⟨hrc, hb⟩ := grd_spec hb
  obtain ⟨p1, hc, hb⟩ := Option.bind_eq_some_iff.mp hb
  refine Rn.call1 (d := e) (As := [va_rf v0, va_rf v1, .int v2, .int v4]) (rest := [.int (v3 <<< ((nI 1) &&& 31))]) rfl rfl rfl (by decide) rfl rfl rfl (bd_rcV hrc rfl) (by rw [bd_cI (bd_cN)]; decide) (bd_lenC (n := 6) rfl (bd_slR (bd_slR (bd_slI (bd_slI bd_slN)))) rfl) (bd_locC (n := 6) rfl (bd_slR (bd_slR (bd_slI (bd_slI bd_slN)))) rfl (t_111 e (by omega) v0 v1 v2 v4 h _ hc)) ?_
  refine rn_if_eq rfl rfl (fun hc => ?_) (fun hc => ?_)
  · exact u_110_94 (e + 1) hd k5 K5 v0 v1 v2 v3 v4 (v3 <<< ((nI 1) &&& 31)) p1.2 _ (if_t hb hc)
  · exact u_110_90 (e + 1) hd k5 K5 v0 v1 v2 v3 v4 (v3 <<< ((nI 1) &&& 31)) p1.2 _ (if_f hb hc)
def b_110_69 (k5 : Option Nat → Option Nat → Int32 → Int32 → Int32 → Hp → Option (Int32 × Hp)) (v0 : Option Nat) (v1 : Option Nat) (v2 : Int32) (v3 : Int32) (v4 : Int32)  (h : Hp) : Option (Int32 × Hp) :=
  bnd ((v3 ^^^ (nI 1))) fun x1 =>
  b_110_97 k5 v0 v1 v2 x1 v4  h
theorem u_110_69 (d : Nat) (hd : 4 ≤ d) (k5 : Option Nat → Option Nat → Int32 → Int32 → Int32 → Hp → Option (Int32 × Hp)) (K5 : ∀ (v0 : Option Nat) (v1 : Option Nat) (v2 : Int32) (v3 : Int32) (v4 : Int32) (h : Hp) (r : Int32 × Hp), k5 v0 v1 v2 v3 v4 h = some r → Rn d 110 5 [some (va_rf v0), some (va_rf v1), some (.int v2), some (.int v3), some (.int v4)] [] h (some (.int r.1), r.2)) (v0 : Option Nat) (v1 : Option Nat) (v2 : Int32) (v3 : Int32) (v4 : Int32)  (h : Hp) (r : Int32 × Hp) (hb : b_110_69 k5 v0 v1 v2 v3 v4  h = some r) : Rn d 110 69 [some (va_rf v0), some (va_rf v1), some (.int v2), some (.int v3), some (.int v4)] [] h (some (.int r.1), r.2) := by
  unfold b_110_69 at hb
  refine rn_iload_n (i := 3) rfl rfl ?_
  refine rn_iconst (x := (nI 1)) rfl (by decide) ?_
  refine rn_ixor rfl ?_
  obtain ⟨x1, ex1, hb⟩ := bnd_spec hb
  refine rn_istore_n (i := 3) (L1 := [some (va_rf v0), some (va_rf v1), some (.int v2), some (.int x1), some (.int v4)]) rfl (Nat.le_of_ble_eq_true rfl) (Or.inr rfl) (by rw [ex1]; rfl) ?_
  refine rn_goto rfl rfl ?_
  exact u_110_97 d hd k5 K5 v0 v1 v2 x1 v4  h _ hb
def b_110_58 (k5 : Option Nat → Option Nat → Int32 → Int32 → Int32 → Hp → Option (Int32 × Hp)) (v0 : Option Nat) (v1 : Option Nat) (v2 : Int32) (v3 : Int32) (v4 : Int32)  (h : Hp) : Option (Int32 × Hp) :=
  (gQ 8 0 v0 h).bind fun x1 =>
  (aI 12 x1 v4 h).bind fun x2 =>
  if ¬ x2 = (nI 2) then b_110_76 k5 v0 v1 v2 v3 v4  h else b_110_69 k5 v0 v1 v2 v3 v4  h
theorem u_110_58 (d : Nat) (hd : 4 ≤ d) (k5 : Option Nat → Option Nat → Int32 → Int32 → Int32 → Hp → Option (Int32 × Hp)) (K5 : ∀ (v0 : Option Nat) (v1 : Option Nat) (v2 : Int32) (v3 : Int32) (v4 : Int32) (h : Hp) (r : Int32 × Hp), k5 v0 v1 v2 v3 v4 h = some r → Rn d 110 5 [some (va_rf v0), some (va_rf v1), some (.int v2), some (.int v3), some (.int v4)] [] h (some (.int r.1), r.2)) (v0 : Option Nat) (v1 : Option Nat) (v2 : Int32) (v3 : Int32) (v4 : Int32)  (h : Hp) (r : Int32 × Hp) (hb : b_110_58 k5 v0 v1 v2 v3 v4  h = some r) : Rn d 110 58 [some (va_rf v0), some (va_rf v1), some (.int v2), some (.int v3), some (.int v4)] [] h (some (.int r.1), r.2) := by
  unfold b_110_58 at hb
  refine rn_aload_n (i := 0) rfl rfl ?_
  refine rn_gQ (c := 8) (k := 0) rfl (by decide) hb (fun x1 hb => ?_)
  refine rn_iload (i := 4) rfl rfl ?_
  refine rn_aI rfl hb (fun x2 hb => ?_)
  refine rn_iconst (x := (nI 2)) rfl (by decide) ?_
  refine rn_icmp_ne rfl rfl (fun hc => ?_) (fun hc => ?_)
  · exact u_110_76 d hd k5 K5 v0 v1 v2 v3 v4  h _ (if_t hb hc)
  · exact u_110_69 d hd k5 K5 v0 v1 v2 v3 v4  h _ (if_f hb hc)
def b_110_46 (k5 : Option Nat → Option Nat → Int32 → Int32 → Int32 → Hp → Option (Int32 × Hp)) (v0 : Option Nat) (v1 : Option Nat) (v2 : Int32) (v3 : Int32) (v4 : Int32)  (h : Hp) : Option (Int32 × Hp) :=
  bnd (((v3 >>> ((nI 1) &&& 31)) &&& (v3 ||| (-2 : Int32)))) fun x1 =>
  b_110_97 k5 v0 v1 v2 x1 v4  h
theorem u_110_46 (d : Nat) (hd : 4 ≤ d) (k5 : Option Nat → Option Nat → Int32 → Int32 → Int32 → Hp → Option (Int32 × Hp)) (K5 : ∀ (v0 : Option Nat) (v1 : Option Nat) (v2 : Int32) (v3 : Int32) (v4 : Int32) (h : Hp) (r : Int32 × Hp), k5 v0 v1 v2 v3 v4 h = some r → Rn d 110 5 [some (va_rf v0), some (va_rf v1), some (.int v2), some (.int v3), some (.int v4)] [] h (some (.int r.1), r.2)) (v0 : Option Nat) (v1 : Option Nat) (v2 : Int32) (v3 : Int32) (v4 : Int32)  (h : Hp) (r : Int32 × Hp) (hb : b_110_46 k5 v0 v1 v2 v3 v4  h = some r) : Rn d 110 46 [some (va_rf v0), some (va_rf v1), some (.int v2), some (.int v3), some (.int v4)] [] h (some (.int r.1), r.2) := by
  unfold b_110_46 at hb
  refine rn_iload_n (i := 3) rfl rfl ?_
  refine rn_iconst (x := (nI 1)) rfl (by decide) ?_
  refine rn_ishr rfl ?_
  refine rn_iload_n (i := 3) rfl rfl ?_
  refine rn_bipush (x := (-2 : Int32)) rfl (by decide) ?_
  refine rn_ior rfl ?_
  refine rn_iand rfl ?_
  obtain ⟨x1, ex1, hb⟩ := bnd_spec hb
  refine rn_istore_n (i := 3) (L1 := [some (va_rf v0), some (va_rf v1), some (.int v2), some (.int x1), some (.int v4)]) rfl (Nat.le_of_ble_eq_true rfl) (Or.inr rfl) (by rw [ex1]; rfl) ?_
  refine rn_goto rfl rfl ?_
  exact u_110_97 d hd k5 K5 v0 v1 v2 x1 v4  h _ hb
def b_110_35 (k5 : Option Nat → Option Nat → Int32 → Int32 → Int32 → Hp → Option (Int32 × Hp)) (v0 : Option Nat) (v1 : Option Nat) (v2 : Int32) (v3 : Int32) (v4 : Int32)  (h : Hp) : Option (Int32 × Hp) :=
  (gQ 8 0 v0 h).bind fun x1 =>
  (aI 12 x1 v4 h).bind fun x2 =>
  if ¬ x2 = (nI 1) then b_110_58 k5 v0 v1 v2 v3 v4  h else b_110_46 k5 v0 v1 v2 v3 v4  h
theorem u_110_35 (d : Nat) (hd : 4 ≤ d) (k5 : Option Nat → Option Nat → Int32 → Int32 → Int32 → Hp → Option (Int32 × Hp)) (K5 : ∀ (v0 : Option Nat) (v1 : Option Nat) (v2 : Int32) (v3 : Int32) (v4 : Int32) (h : Hp) (r : Int32 × Hp), k5 v0 v1 v2 v3 v4 h = some r → Rn d 110 5 [some (va_rf v0), some (va_rf v1), some (.int v2), some (.int v3), some (.int v4)] [] h (some (.int r.1), r.2)) (v0 : Option Nat) (v1 : Option Nat) (v2 : Int32) (v3 : Int32) (v4 : Int32)  (h : Hp) (r : Int32 × Hp) (hb : b_110_35 k5 v0 v1 v2 v3 v4  h = some r) : Rn d 110 35 [some (va_rf v0), some (va_rf v1), some (.int v2), some (.int v3), some (.int v4)] [] h (some (.int r.1), r.2) := by
  unfold b_110_35 at hb
  refine rn_aload_n (i := 0) rfl rfl ?_
  refine rn_gQ (c := 8) (k := 0) rfl (by decide) hb (fun x1 hb => ?_)
  refine rn_iload (i := 4) rfl rfl ?_
  refine rn_aI rfl hb (fun x2 hb => ?_)
  refine rn_iconst (x := (nI 1)) rfl (by decide) ?_
  refine rn_icmp_ne rfl rfl (fun hc => ?_) (fun hc => ?_)
  · exact u_110_58 d hd k5 K5 v0 v1 v2 v3 v4  h _ (if_t hb hc)
  · exact u_110_46 d hd k5 K5 v0 v1 v2 v3 v4  h _ (if_f hb hc)
def b_110_24 (k5 : Option Nat → Option Nat → Int32 → Int32 → Int32 → Hp → Option (Int32 × Hp)) (v0 : Option Nat) (v1 : Option Nat) (v2 : Int32) (v3 : Int32) (v4 : Int32)  (h : Hp) : Option (Int32 × Hp) :=
  bnd (((v3 >>> ((nI 1) &&& 31)) ||| (v3 &&& (nI 1)))) fun x1 =>
  b_110_97 k5 v0 v1 v2 x1 v4  h
theorem u_110_24 (d : Nat) (hd : 4 ≤ d) (k5 : Option Nat → Option Nat → Int32 → Int32 → Int32 → Hp → Option (Int32 × Hp)) (K5 : ∀ (v0 : Option Nat) (v1 : Option Nat) (v2 : Int32) (v3 : Int32) (v4 : Int32) (h : Hp) (r : Int32 × Hp), k5 v0 v1 v2 v3 v4 h = some r → Rn d 110 5 [some (va_rf v0), some (va_rf v1), some (.int v2), some (.int v3), some (.int v4)] [] h (some (.int r.1), r.2)) (v0 : Option Nat) (v1 : Option Nat) (v2 : Int32) (v3 : Int32) (v4 : Int32)  (h : Hp) (r : Int32 × Hp) (hb : b_110_24 k5 v0 v1 v2 v3 v4  h = some r) : Rn d 110 24 [some (va_rf v0), some (va_rf v1), some (.int v2), some (.int v3), some (.int v4)] [] h (some (.int r.1), r.2) := by
  unfold b_110_24 at hb
  refine rn_iload_n (i := 3) rfl rfl ?_
  refine rn_iconst (x := (nI 1)) rfl (by decide) ?_
  refine rn_ishr rfl ?_
  refine rn_iload_n (i := 3) rfl rfl ?_
  refine rn_iconst (x := (nI 1)) rfl (by decide) ?_
  refine rn_iand rfl ?_
  refine rn_ior rfl ?_
  obtain ⟨x1, ex1, hb⟩ := bnd_spec hb
  refine rn_istore_n (i := 3) (L1 := [some (va_rf v0), some (va_rf v1), some (.int v2), some (.int x1), some (.int v4)]) rfl (Nat.le_of_ble_eq_true rfl) (Or.inr rfl) (by rw [ex1]; rfl) ?_
  refine rn_goto rfl rfl ?_
  exact u_110_97 d hd k5 K5 v0 v1 v2 x1 v4  h _ hb
def b_110_14 (k5 : Option Nat → Option Nat → Int32 → Int32 → Int32 → Hp → Option (Int32 × Hp)) (v0 : Option Nat) (v1 : Option Nat) (v2 : Int32) (v3 : Int32) (v4 : Int32)  (h : Hp) : Option (Int32 × Hp) :=
  (gQ 8 0 v0 h).bind fun x1 =>
  (aI 12 x1 v4 h).bind fun x2 =>
  if ¬ x2 = 0 then b_110_35 k5 v0 v1 v2 v3 v4  h else b_110_24 k5 v0 v1 v2 v3 v4  h
theorem u_110_14 (d : Nat) (hd : 4 ≤ d) (k5 : Option Nat → Option Nat → Int32 → Int32 → Int32 → Hp → Option (Int32 × Hp)) (K5 : ∀ (v0 : Option Nat) (v1 : Option Nat) (v2 : Int32) (v3 : Int32) (v4 : Int32) (h : Hp) (r : Int32 × Hp), k5 v0 v1 v2 v3 v4 h = some r → Rn d 110 5 [some (va_rf v0), some (va_rf v1), some (.int v2), some (.int v3), some (.int v4)] [] h (some (.int r.1), r.2)) (v0 : Option Nat) (v1 : Option Nat) (v2 : Int32) (v3 : Int32) (v4 : Int32)  (h : Hp) (r : Int32 × Hp) (hb : b_110_14 k5 v0 v1 v2 v3 v4  h = some r) : Rn d 110 14 [some (va_rf v0), some (va_rf v1), some (.int v2), some (.int v3), some (.int v4)] [] h (some (.int r.1), r.2) := by
  unfold b_110_14 at hb
  refine rn_aload_n (i := 0) rfl rfl ?_
  refine rn_gQ (c := 8) (k := 0) rfl (by decide) hb (fun x1 hb => ?_)
  refine rn_iload (i := 4) rfl rfl ?_
  refine rn_aI rfl hb (fun x2 hb => ?_)
  refine rn_if_ne rfl rfl (fun hc => ?_) (fun hc => ?_)
  · exact u_110_35 d hd k5 K5 v0 v1 v2 v3 v4  h _ (if_t hb hc)
  · exact u_110_24 d hd k5 K5 v0 v1 v2 v3 v4  h _ (if_f hb hc)
def b_110_5 (k5 : Option Nat → Option Nat → Int32 → Int32 → Int32 → Hp → Option (Int32 × Hp)) (v0 : Option Nat) (v1 : Option Nat) (v2 : Int32) (v3 : Int32) (v4 : Int32)  (h : Hp) : Option (Int32 × Hp) :=
  (gI 8 3 v0 h).bind fun x1 =>
  if x1 ≤ v4 then b_110_103 v3  h else b_110_14 k5 v0 v1 v2 v3 v4  h
theorem u_110_5 (d : Nat) (hd : 4 ≤ d) (k5 : Option Nat → Option Nat → Int32 → Int32 → Int32 → Hp → Option (Int32 × Hp)) (K5 : ∀ (v0 : Option Nat) (v1 : Option Nat) (v2 : Int32) (v3 : Int32) (v4 : Int32) (h : Hp) (r : Int32 × Hp), k5 v0 v1 v2 v3 v4 h = some r → Rn d 110 5 [some (va_rf v0), some (va_rf v1), some (.int v2), some (.int v3), some (.int v4)] [] h (some (.int r.1), r.2)) (v0 : Option Nat) (v1 : Option Nat) (v2 : Int32) (v3 : Int32) (v4 : Int32)  (h : Hp) (r : Int32 × Hp) (hb : b_110_5 k5 v0 v1 v2 v3 v4  h = some r) : Rn d 110 5 [some (va_rf v0), some (va_rf v1), some (.int v2), some (.int v3), some (.int v4)] [] h (some (.int r.1), r.2) := by
  unfold b_110_5 at hb
  refine rn_iload (i := 4) rfl rfl ?_
  refine rn_aload_n (i := 0) rfl rfl ?_
  refine rn_gI (c := 8) (k := 3) rfl (by decide) hb (fun x1 hb => ?_)
  refine rn_icmp_ge rfl rfl (fun hc => ?_) (fun hc => ?_)
  · exact u_110_103 d hd v0 v1 v2 v3 v4  h _ (if_t hb hc)
  · exact u_110_14 d hd k5 K5 v0 v1 v2 v3 v4  h _ (if_f hb hc)
def l_110_5 : Nat → Option Nat → Option Nat → Int32 → Int32 → Int32 → Hp → Option (Int32 × Hp)
  | 0, _, _, _, _, _, _ => none
  | n + 1, v0, v1, v2, v3, v4, h => b_110_5 (l_110_5 n) v0 v1 v2 v3 v4 h
theorem w_110_5 (d : Nat) (hd : 4 ≤ d) : ∀ (n : Nat) (v0 : Option Nat) (v1 : Option Nat) (v2 : Int32) (v3 : Int32) (v4 : Int32) (h : Hp) (r : Int32 × Hp), l_110_5 n v0 v1 v2 v3 v4 h = some r → Rn d 110 5 [some (va_rf v0), some (va_rf v1), some (.int v2), some (.int v3), some (.int v4)] [] h (some (.int r.1), r.2) := by
  intro n
  induction n with
  | zero => intro v0 v1 v2 v3 v4 h r hb; cases hb
  | succ n ih => intro v0 v1 v2 v3 v4 h r hb; exact u_110_5 d hd (l_110_5 n) ih v0 v1 v2 v3 v4 h r hb
def b_110_0 (v0 : Option Nat) (v1 : Option Nat) (v2 : Int32)  (h : Hp) : Option (Int32 × Hp) :=
  bnd ((nI 0)) fun x1 =>
  bnd ((nI 0)) fun x2 =>
  l_110_5 FU v0 v1 v2 x1 x2 h
theorem u_110_0 (d : Nat) (hd : 4 ≤ d) (v0 : Option Nat) (v1 : Option Nat) (v2 : Int32)  (h : Hp) (r : Int32 × Hp) (hb : b_110_0 v0 v1 v2  h = some r) : Rn d 110 0 [some (va_rf v0), some (va_rf v1), some (.int v2), none, none] [] h (some (.int r.1), r.2) := by
  unfold b_110_0 at hb
  refine rn_iconst (x := (nI 0)) rfl (by decide) ?_
  obtain ⟨x1, ex1, hb⟩ := bnd_spec hb
  refine rn_istore_n (i := 3) (L1 := [some (va_rf v0), some (va_rf v1), some (.int v2), some (.int x1), none]) rfl (Nat.le_of_ble_eq_true rfl) (Or.inr rfl) (by rw [ex1]; rfl) ?_
  refine rn_iconst (x := (nI 0)) rfl (by decide) ?_
  obtain ⟨x2, ex2, hb⟩ := bnd_spec hb
  refine rn_istore (i := 4) (L1 := [some (va_rf v0), some (va_rf v1), some (.int v2), some (.int x1), some (.int x2)]) rfl (Nat.le_of_ble_eq_true rfl) (Or.inr rfl) (by rw [ex2]; rfl) ?_
  exact w_110_5 d hd FU v0 v1 v2 x1 x2 h _ hb
/-- BitingDoors$Sentence.isSaidOf(LBitingDoors$Scene;I)Z -/
def f_110 (v0 : Option Nat) (v1 : Option Nat) (v2 : Int32) (h : Hp) : Option (Int32 × Hp) := b_110_0 v0 v1 v2 h
theorem t_110 (d : Nat) (hd : 4 ≤ d) (v0 : Option Nat) (v1 : Option Nat) (v2 : Int32) (h : Hp) (r : Int32 × Hp) (hb : f_110 v0 v1 v2 h = some r) : Rn d 110 0 [some (va_rf v0), some (va_rf v1), some (.int v2), none, none] [] h (some (.int r.1), r.2) := by
  unfold f_110 at hb
  exact u_110_0 d hd v0 v1 v2 h r hb
def b_109_40 (v2 : Int32)  (h : Hp) : Option (Int32 × Hp) :=
  some (v2, h)
theorem u_109_40 (d : Nat) (hd : 5 ≤ d) (v0 : Option Nat) (v1 : Option Nat) (v2 : Int32) (v3 : Int32)  (h : Hp) (r : Int32 × Hp) (hb : b_109_40 v2  h = some r) : Rn d 109 40 [some (va_rf v0), some (va_rf v1), some (.int v2), some (.int v3)] [] h (some (.int r.1), r.2) := by
  unfold b_109_40 at hb
  refine rn_iload_n (i := 2) rfl rfl ?_
  obtain rfl := Option.some.inj hb
  exact rn_iret rfl rfl
def b_109_32 (k4 : Option Nat → Option Nat → Int32 → Int32 → Hp → Option (Int32 × Hp)) (v0 : Option Nat) (v1 : Option Nat) (v3 : Int32) (s0 : Int32) (s1 : Int32) (h : Hp) : Option (Int32 × Hp) :=
  bnd ((s0 ||| s1)) fun x1 =>
  bnd (v3 + (nI 1)) fun x2 =>
  k4 v0 v1 x1 x2 h
theorem u_109_32 (d : Nat) (hd : 5 ≤ d) (k4 : Option Nat → Option Nat → Int32 → Int32 → Hp → Option (Int32 × Hp)) (K4 : ∀ (v0 : Option Nat) (v1 : Option Nat) (v2 : Int32) (v3 : Int32) (h : Hp) (r : Int32 × Hp), k4 v0 v1 v2 v3 h = some r → Rn d 109 4 [some (va_rf v0), some (va_rf v1), some (.int v2), some (.int v3)] [] h (some (.int r.1), r.2)) (v0 : Option Nat) (v1 : Option Nat) (v2 : Int32) (v3 : Int32) (s0 : Int32) (s1 : Int32) (h : Hp) (r : Int32 × Hp) (hb : b_109_32 k4 v0 v1 v3 s0 s1 h = some r) : Rn d 109 32 [some (va_rf v0), some (va_rf v1), some (.int v2), some (.int v3)] [.int s1, .int s0] h (some (.int r.1), r.2) := by
  unfold b_109_32 at hb
  refine rn_ior rfl ?_
  obtain ⟨x1, ex1, hb⟩ := bnd_spec hb
  refine rn_istore_n (i := 2) (L1 := [some (va_rf v0), some (va_rf v1), some (.int x1), some (.int v3)]) rfl (Nat.le_of_ble_eq_true rfl) (Or.inr (bd_wideR rfl)) (by rw [ex1]; rfl) ?_
  obtain ⟨x2, ex2, hb⟩ := bnd_spec hb
  refine rn_iinc (i := 3) (y := x2) (L1 := [some (va_rf v0), some (va_rf v1), some (.int x1), some (.int x2)]) rfl rfl (Nat.le_of_ble_eq_true rfl) (Or.inr rfl) (by rw [ex2]; rfl) rfl ?_
  refine rn_goto rfl rfl ?_
  exact K4 v0 v1 x1 x2 h _ hb
def b_109_31 (k4 : Option Nat → Option Nat → Int32 → Int32 → Hp → Option (Int32 × Hp)) (v0 : Option Nat) (v1 : Option Nat) (v3 : Int32) (s0 : Int32) (h : Hp) : Option (Int32 × Hp) :=
  b_109_32 k4 v0 v1 v3 s0 (nI 0) h
theorem u_109_31 (d : Nat) (hd : 5 ≤ d) (k4 : Option Nat → Option Nat → Int32 → Int32 → Hp → Option (Int32 × Hp)) (K4 : ∀ (v0 : Option Nat) (v1 : Option Nat) (v2 : Int32) (v3 : Int32) (h : Hp) (r : Int32 × Hp), k4 v0 v1 v2 v3 h = some r → Rn d 109 4 [some (va_rf v0), some (va_rf v1), some (.int v2), some (.int v3)] [] h (some (.int r.1), r.2)) (v0 : Option Nat) (v1 : Option Nat) (v2 : Int32) (v3 : Int32) (s0 : Int32) (h : Hp) (r : Int32 × Hp) (hb : b_109_31 k4 v0 v1 v3 s0 h = some r) : Rn d 109 31 [some (va_rf v0), some (va_rf v1), some (.int v2), some (.int v3)] [.int s0] h (some (.int r.1), r.2) := by
  unfold b_109_31 at hb
  refine rn_iconst (x := (nI 0)) rfl (by decide) ?_
  exact u_109_32 d hd k4 K4 v0 v1 v2 v3 s0 (nI 0) h _ hb
def b_109_25 (k4 : Option Nat → Option Nat → Int32 → Int32 → Hp → Option (Int32 × Hp)) (v0 : Option Nat) (v1 : Option Nat) (v3 : Int32) (s0 : Int32) (h : Hp) : Option (Int32 × Hp) :=
  b_109_32 k4 v0 v1 v3 s0 ((nI 1) <<< (v3 &&& 31)) h
theorem u_109_25 (d : Nat) (hd : 5 ≤ d) (k4 : Option Nat → Option Nat → Int32 → Int32 → Hp → Option (Int32 × Hp)) (K4 : ∀ (v0 : Option Nat) (v1 : Option Nat) (v2 : Int32) (v3 : Int32) (h : Hp) (r : Int32 × Hp), k4 v0 v1 v2 v3 h = some r → Rn d 109 4 [some (va_rf v0), some (va_rf v1), some (.int v2), some (.int v3)] [] h (some (.int r.1), r.2)) (v0 : Option Nat) (v1 : Option Nat) (v2 : Int32) (v3 : Int32) (s0 : Int32) (h : Hp) (r : Int32 × Hp) (hb : b_109_25 k4 v0 v1 v3 s0 h = some r) : Rn d 109 25 [some (va_rf v0), some (va_rf v1), some (.int v2), some (.int v3)] [.int s0] h (some (.int r.1), r.2) := by
  unfold b_109_25 at hb
  refine rn_iconst (x := (nI 1)) rfl (by decide) ?_
  refine rn_iload_n (i := 3) rfl rfl ?_
  refine rn_ishl rfl ?_
  refine rn_goto rfl rfl ?_
  exact u_109_32 d hd k4 K4 v0 v1 v2 v3 s0 ((nI 1) <<< (v3 &&& 31)) h _ hb
def b_109_15 (k4 : Option Nat → Option Nat → Int32 → Int32 → Hp → Option (Int32 × Hp)) (v0 : Option Nat) (v1 : Option Nat) (v2 : Int32) (v3 : Int32)  (h : Hp) : Option (Int32 × Hp) :=
  (grd (rC 8 v0 h)).bind fun _ =>
  (f_110 v0 v1 v3 h).bind fun p1 =>
  if p1.1 = 0 then b_109_31 k4 v0 v1 v3 v2 p1.2 else b_109_25 k4 v0 v1 v3 v2 p1.2
theorem u_109_15 (d : Nat) (hd : 5 ≤ d) (k4 : Option Nat → Option Nat → Int32 → Int32 → Hp → Option (Int32 × Hp)) (K4 : ∀ (v0 : Option Nat) (v1 : Option Nat) (v2 : Int32) (v3 : Int32) (h : Hp) (r : Int32 × Hp), k4 v0 v1 v2 v3 h = some r → Rn d 109 4 [some (va_rf v0), some (va_rf v1), some (.int v2), some (.int v3)] [] h (some (.int r.1), r.2)) (v0 : Option Nat) (v1 : Option Nat) (v2 : Int32) (v3 : Int32)  (h : Hp) (r : Int32 × Hp) (hb : b_109_15 k4 v0 v1 v2 v3  h = some r) : Rn d 109 15 [some (va_rf v0), some (va_rf v1), some (.int v2), some (.int v3)] [] h (some (.int r.1), r.2) := by
  unfold b_109_15 at hb
  obtain ⟨e, rfl⟩ : ∃ e, d = e + 1 := ⟨d - 1, by omega⟩
  refine rn_iload_n (i := 2) rfl rfl ?_
  refine rn_aload_n (i := 0) rfl rfl ?_
  refine rn_aload_n (i := 1) rfl rfl ?_
  refine rn_iload_n (i := 3) rfl rfl ?_
  obtain ⟨hrc, hb⟩ := grd_spec hb
  obtain ⟨p1, hc, hb⟩ := Option.bind_eq_some_iff.mp hb
  refine Rn.call1 (d := e) (As := [va_rf v0, va_rf v1, .int v3]) (rest := [.int v2]) rfl rfl rfl (by decide) rfl rfl rfl (bd_rcV hrc rfl) (by rw [bd_cI (bd_cN)]; decide) (bd_lenC (n := 5) rfl (bd_slR (bd_slR (bd_slI bd_slN))) rfl) (bd_locC (n := 5) rfl (bd_slR (bd_slR (bd_slI bd_slN))) rfl (t_110 e (by omega) v0 v1 v3 h _ hc)) ?_
  refine rn_if_eq rfl rfl (fun hc => ?_) (fun hc => ?_)
  · exact u_109_31 (e + 1) hd k4 K4 v0 v1 v2 v3 v2 p1.2 _ (if_t hb hc)
  · exact u_109_25 (e + 1) hd k4 K4 v0 v1 v2 v3 v2 p1.2 _ (if_f hb hc)
def b_109_4 (k4 : Option Nat → Option Nat → Int32 → Int32 → Hp → Option (Int32 × Hp)) (v0 : Option Nat) (v1 : Option Nat) (v2 : Int32) (v3 : Int32)  (h : Hp) : Option (Int32 × Hp) :=
  (gQ 7 2 v1 h).bind fun x1 =>
  (gI 4 5 x1 h).bind fun x2 =>
  if x2 ≤ v3 then b_109_40 v2  h else b_109_15 k4 v0 v1 v2 v3  h
theorem u_109_4 (d : Nat) (hd : 5 ≤ d) (k4 : Option Nat → Option Nat → Int32 → Int32 → Hp → Option (Int32 × Hp)) (K4 : ∀ (v0 : Option Nat) (v1 : Option Nat) (v2 : Int32) (v3 : Int32) (h : Hp) (r : Int32 × Hp), k4 v0 v1 v2 v3 h = some r → Rn d 109 4 [some (va_rf v0), some (va_rf v1), some (.int v2), some (.int v3)] [] h (some (.int r.1), r.2)) (v0 : Option Nat) (v1 : Option Nat) (v2 : Int32) (v3 : Int32)  (h : Hp) (r : Int32 × Hp) (hb : b_109_4 k4 v0 v1 v2 v3  h = some r) : Rn d 109 4 [some (va_rf v0), some (va_rf v1), some (.int v2), some (.int v3)] [] h (some (.int r.1), r.2) := by
  unfold b_109_4 at hb
  refine rn_iload_n (i := 3) rfl rfl ?_
  refine rn_aload_n (i := 1) rfl rfl ?_
  refine rn_gQ (c := 7) (k := 2) rfl (by decide) hb (fun x1 hb => ?_)
  refine rn_gI (c := 4) (k := 5) rfl (by decide) hb (fun x2 hb => ?_)
  refine rn_icmp_ge rfl rfl (fun hc => ?_) (fun hc => ?_)
  · exact u_109_40 d hd v0 v1 v2 v3  h _ (if_t hb hc)
  · exact u_109_15 d hd k4 K4 v0 v1 v2 v3  h _ (if_f hb hc)
def l_109_4 : Nat → Option Nat → Option Nat → Int32 → Int32 → Hp → Option (Int32 × Hp)
  | 0, _, _, _, _, _ => none
  | n + 1, v0, v1, v2, v3, h => b_109_4 (l_109_4 n) v0 v1 v2 v3 h
theorem w_109_4 (d : Nat) (hd : 5 ≤ d) : ∀ (n : Nat) (v0 : Option Nat) (v1 : Option Nat) (v2 : Int32) (v3 : Int32) (h : Hp) (r : Int32 × Hp), l_109_4 n v0 v1 v2 v3 h = some r → Rn d 109 4 [some (va_rf v0), some (va_rf v1), some (.int v2), some (.int v3)] [] h (some (.int r.1), r.2) := by
  intro n
  induction n with
  | zero => intro v0 v1 v2 v3 h r hb; cases hb
  | succ n ih => intro v0 v1 v2 v3 h r hb; exact u_109_4 d hd (l_109_4 n) ih v0 v1 v2 v3 h r hb
def b_109_0 (v0 : Option Nat) (v1 : Option Nat)  (h : Hp) : Option (Int32 × Hp) :=
  bnd ((nI 0)) fun x1 =>
  bnd ((nI 0)) fun x2 =>
  l_109_4 FU v0 v1 x1 x2 h
theorem u_109_0 (d : Nat) (hd : 5 ≤ d) (v0 : Option Nat) (v1 : Option Nat)  (h : Hp) (r : Int32 × Hp) (hb : b_109_0 v0 v1  h = some r) : Rn d 109 0 [some (va_rf v0), some (va_rf v1), none, none] [] h (some (.int r.1), r.2) := by
  unfold b_109_0 at hb
  refine rn_iconst (x := (nI 0)) rfl (by decide) ?_
  obtain ⟨x1, ex1, hb⟩ := bnd_spec hb
  refine rn_istore_n (i := 2) (L1 := [some (va_rf v0), some (va_rf v1), some (.int x1), none]) rfl (Nat.le_of_ble_eq_true rfl) (Or.inr (bd_wideR rfl)) (by rw [ex1]; rfl) ?_
  refine rn_iconst (x := (nI 0)) rfl (by decide) ?_
  obtain ⟨x2, ex2, hb⟩ := bnd_spec hb
  refine rn_istore_n (i := 3) (L1 := [some (va_rf v0), some (va_rf v1), some (.int x1), some (.int x2)]) rfl (Nat.le_of_ble_eq_true rfl) (Or.inr rfl) (by rw [ex2]; rfl) ?_
  exact w_109_4 d hd FU v0 v1 x1 x2 h _ hb
/-- BitingDoors$Sentence.saidOf(LBitingDoors$Scene;)I -/
def f_109 (v0 : Option Nat) (v1 : Option Nat) (h : Hp) : Option (Int32 × Hp) := b_109_0 v0 v1 h
theorem t_109 (d : Nat) (hd : 5 ≤ d) (v0 : Option Nat) (v1 : Option Nat) (h : Hp) (r : Int32 × Hp) (hb : f_109 v0 v1 h = some r) : Rn d 109 0 [some (va_rf v0), some (va_rf v1), none, none] [] h (some (.int r.1), r.2) := by
  unfold f_109 at hb
  exact u_109_0 d hd v0 v1 h r hb
def b_114_0 (v0 : Option Nat)  (h : Hp) : Option (Hp) :=
  (grd v0.isSome).bind fun _ =>
  (nA 12 (nI 940) h).bind fun h1 =>
  (pQ 9 0 v0 (some (hN h)) h1).bind fun h2 =>
  some h2
theorem u_114_0 (d : Nat) (hd : 0 ≤ d) (v0 : Option Nat)  (h : Hp) (r : Hp) (hb : b_114_0 v0  h = some r) : Rn d 114 0 [some (va_rf v0)] [] h (none, r) := by
  unfold b_114_0 at hb
  refine rn_aload_n (i := 0) rfl rfl ?_
  obtain ⟨hq, hb⟩ := grd_spec hb
  refine rn_oinit rfl hq (by decide) ?_
  refine rn_aload_n (i := 0) rfl rfl ?_
  refine rn_sipush (x := (nI 940)) rfl (by decide) ?_
  refine rn_newarray rfl hb (fun h1 hb => ?_)
  refine rn_pQ (c := 9) (k := 0) rfl (by decide) hb (fun h2 hb => ?_)
  obtain rfl := Option.some.inj hb
  exact rn_vret rfl rfl
/-- BitingDoors$Text.<init>()V -/
def f_114 (v0 : Option Nat) (h : Hp) : Option (Hp) := b_114_0 v0 h
theorem t_114 (d : Nat) (hd : 0 ≤ d) (v0 : Option Nat) (h : Hp) (r : Hp) (hb : f_114 v0 h = some r) : Rn d 114 0 [some (va_rf v0)] [] h (none, r) := by
  unfold f_114 at hb
  exact u_114_0 d hd v0 h r hb
def b_115_39   (h : Hp) : Option (Hp) :=
  some h
theorem u_115_39 (d : Nat) (hd : 0 ≤ d) (v0 : Option Nat) (v1 : Int32) (v2 : Int32)  (h : Hp) (r : Hp) (hb : b_115_39   h = some r) : Rn d 115 39 [some (va_rf v0), some (.int v1), some (.int v2)] [] h (none, r) := by
  unfold b_115_39 at hb
  obtain rfl := Option.some.inj hb
  exact rn_vret rfl rfl
def b_115_7 (k3 : Option Nat → Int32 → Int32 → Hp → Option (Hp)) (v0 : Option Nat) (v1 : Int32) (v2 : Int32)  (h : Hp) : Option (Hp) :=
  (gQ 9 0 v0 h).bind fun x1 =>
  (gI 9 1 v0 h).bind fun x2 =>
  (wI x1 x2 (((v1.toUInt32 >>> (v2.toUInt32 &&& Int32.toUInt32 31)).toInt32) &&& (nI 255)) h).bind fun h3 =>
  (gI 9 1 v0 h3).bind fun x4 =>
  (pI 9 1 v0 (x4 + (nI 1)) h3).bind fun h5 =>
  bnd (v2 + (-8 : Int32)) fun x6 =>
  k3 v0 v1 x6 h5
theorem u_115_7 (d : Nat) (hd : 0 ≤ d) (k3 : Option Nat → Int32 → Int32 → Hp → Option (Hp)) (K3 : ∀ (v0 : Option Nat) (v1 : Int32) (v2 : Int32) (h : Hp) (r : Hp), k3 v0 v1 v2 h = some r → Rn d 115 3 [some (va_rf v0), some (.int v1), some (.int v2)] [] h (none, r)) (v0 : Option Nat) (v1 : Int32) (v2 : Int32)  (h : Hp) (r : Hp) (hb : b_115_7 k3 v0 v1 v2  h = some r) : Rn d 115 7 [some (va_rf v0), some (.int v1), some (.int v2)] [] h (none, r) := by
  unfold b_115_7 at hb
  refine rn_aload_n (i := 0) rfl rfl ?_
  refine rn_gQ (c := 9) (k := 0) rfl (by decide) hb (fun x1 hb => ?_)
  refine rn_aload_n (i := 0) rfl rfl ?_
  refine rn_gI (c := 9) (k := 1) rfl (by decide) hb (fun x2 hb => ?_)
  refine rn_iload_n (i := 1) rfl rfl ?_
  refine rn_iload_n (i := 2) rfl rfl ?_
  refine rn_iushr rfl ?_
  refine rn_sipush (x := (nI 255)) rfl (by decide) ?_
  refine rn_iand rfl ?_
  refine rn_wI rfl hb (fun h3 hb => ?_)
  refine rn_aload_n (i := 0) rfl rfl ?_
  refine rn_dup rfl (bd_cat_rf _) ?_
  refine rn_gI (c := 9) (k := 1) rfl (by decide) hb (fun x4 hb => ?_)
  refine rn_iconst (x := (nI 1)) rfl (by decide) ?_
  refine rn_iadd rfl ?_
  refine rn_pI (c := 9) (k := 1) rfl (by decide) hb (fun h5 hb => ?_)
  obtain ⟨x6, ex6, hb⟩ := bnd_spec hb
  refine rn_iinc (i := 2) (y := x6) (L1 := [some (va_rf v0), some (.int v1), some (.int x6)]) rfl rfl (Nat.le_of_ble_eq_true rfl) (Or.inr rfl) (by rw [ex6]; rfl) rfl ?_
  refine rn_goto rfl rfl ?_
  exact K3 v0 v1 x6 h5 _ hb
def b_115_3 (k3 : Option Nat → Int32 → Int32 → Hp → Option (Hp)) (v0 : Option Nat) (v1 : Int32) (v2 : Int32)  (h : Hp) : Option (Hp) :=
  if v2 < 0 then b_115_39   h else b_115_7 k3 v0 v1 v2  h
theorem u_115_3 (d : Nat) (hd : 0 ≤ d) (k3 : Option Nat → Int32 → Int32 → Hp → Option (Hp)) (K3 : ∀ (v0 : Option Nat) (v1 : Int32) (v2 : Int32) (h : Hp) (r : Hp), k3 v0 v1 v2 h = some r → Rn d 115 3 [some (va_rf v0), some (.int v1), some (.int v2)] [] h (none, r)) (v0 : Option Nat) (v1 : Int32) (v2 : Int32)  (h : Hp) (r : Hp) (hb : b_115_3 k3 v0 v1 v2  h = some r) : Rn d 115 3 [some (va_rf v0), some (.int v1), some (.int v2)] [] h (none, r) := by
  unfold b_115_3 at hb
  refine rn_iload_n (i := 2) rfl rfl ?_
  refine rn_if_lt rfl rfl (fun hc => ?_) (fun hc => ?_)
  · exact u_115_39 d hd v0 v1 v2  h _ (if_t hb hc)
  · exact u_115_7 d hd k3 K3 v0 v1 v2  h _ (if_f hb hc)
def l_115_3 : Nat → Option Nat → Int32 → Int32 → Hp → Option (Hp)
  | 0, _, _, _, _ => none
  | n + 1, v0, v1, v2, h => b_115_3 (l_115_3 n) v0 v1 v2 h
theorem w_115_3 (d : Nat) (hd : 0 ≤ d) : ∀ (n : Nat) (v0 : Option Nat) (v1 : Int32) (v2 : Int32) (h : Hp) (r : Hp), l_115_3 n v0 v1 v2 h = some r → Rn d 115 3 [some (va_rf v0), some (.int v1), some (.int v2)] [] h (none, r) := by
  intro n
  induction n with
  | zero => intro v0 v1 v2 h r hb; cases hb
  | succ n ih => intro v0 v1 v2 h r hb; exact u_115_3 d hd (l_115_3 n) ih v0 v1 v2 h r hb
def b_115_0 (v0 : Option Nat) (v1 : Int32)  (h : Hp) : Option (Hp) :=
  bnd ((nI 24)) fun x1 =>
  l_115_3 FU v0 v1 x1 h
theorem u_115_0 (d : Nat) (hd : 0 ≤ d) (v0 : Option Nat) (v1 : Int32)  (h : Hp) (r : Hp) (hb : b_115_0 v0 v1  h = some r) : Rn d 115 0 [some (va_rf v0), some (.int v1), none] [] h (none, r) := by
  unfold b_115_0 at hb
  refine rn_bipush (x := (nI 24)) rfl (by decide) ?_
  obtain ⟨x1, ex1, hb⟩ := bnd_spec hb
  refine rn_istore_n (i := 2) (L1 := [some (va_rf v0), some (.int v1), some (.int x1)]) rfl (Nat.le_of_ble_eq_true rfl) (Or.inr rfl) (by rw [ex1]; rfl) ?_
  exact w_115_3 d hd FU v0 v1 x1 h _ hb
/-- BitingDoors$Text.add(I)V -/
def f_115 (v0 : Option Nat) (v1 : Int32) (h : Hp) : Option (Hp) := b_115_0 v0 v1 h
theorem t_115 (d : Nat) (hd : 0 ≤ d) (v0 : Option Nat) (v1 : Int32) (h : Hp) (r : Hp) (hb : f_115 v0 v1 h = some r) : Rn d 115 0 [some (va_rf v0), some (.int v1), none] [] h (none, r) := by
  unfold f_115 at hb
  exact u_115_0 d hd v0 v1 h r hb
def b_129_0 (v0 : Option Nat)  (h : Hp) : Option (Hp) :=
  (grd v0.isSome).bind fun _ =>
  bnd (hNew h 9 0 (bd_nf 9)) fun h1 =>
  (grd (some (hN h)).isSome).bind fun _ =>
  (f_114 (some (hN h)) h1).bind fun p2 =>
  (pQ 10 0 v0 (some (hN h)) p2).bind fun h3 =>
  bnd (hNew h3 7 0 (bd_nf 7)) fun h4 =>
  (grd (some (hN h3)).isSome).bind fun _ =>
  (f_82 (some (hN h3)) h4).bind fun p5 =>
  (pQ 10 1 v0 (some (hN h3)) p5).bind fun h6 =>
  bnd (hNew h6 7 0 (bd_nf 7)) fun h7 =>
  (grd (some (hN h6)).isSome).bind fun _ =>
  (f_82 (some (hN h6)) h7).bind fun p8 =>
  (pQ 10 2 v0 (some (hN h6)) p8).bind fun h9 =>
  bnd (hNew h9 3 0 (bd_nf 3)) fun h10 =>
  (grd (some (hN h9)).isSome).bind fun _ =>
  (f_26 (some (hN h9)) h10).bind fun p11 =>
  (pQ 10 3 v0 (some (hN h9)) p11).bind fun h12 =>
  bnd (hNew h12 2 0 (bd_nf 2)) fun h13 =>
  (grd (some (hN h12)).isSome).bind fun _ =>
  (f_21 (some (hN h12)) h13).bind fun p14 =>
  (pQ 10 4 v0 (some (hN h12)) p14).bind fun h15 =>
  bnd (hNew h15 6 0 (bd_nf 6)) fun h16 =>
  (grd (some (hN h15)).isSome).bind fun _ =>
  (f_69 (some (hN h15)) h16).bind fun p17 =>
  (pQ 10 5 v0 (some (hN h15)) p17).bind fun h18 =>
  (nA 17 (nI 2) h18).bind fun h19 =>
  (pQ 10 6 v0 (some (hN h18)) h19).bind fun h20 =>
  (nA 15 (nI 2) h20).bind fun h21 =>
  (pQ 10 7 v0 (some (hN h20)) h21).bind fun h22 =>
  (nA 18 (nI 2) h22).bind fun h23 =>
  (pQ 10 8 v0 (some (hN h22)) h23).bind fun h24 =>
  (nA 12 (nI 5) h24).bind fun h25 =>
  (pQ 10 9 v0 (some (hN h24)) h25).bind fun h26 =>
  (gQ 10 1 v0 h26).bind fun x27 =>
  bnd (hNew h26 4 0 (bd_nf 4)) fun h28 =>
  (grd (some (hN h26)).isSome).bind fun _ =>
  (f_49 (some (hN h26)) h28).bind fun p29 =>
  (grd (rC 7 x27 p29)).bind fun _ =>
  (f_83 x27 (some (hN h26)) p29).bind fun p30 =>
  some p30
theorem u_129_0 (d : Nat) (hd : 2 ≤ d) (v0 : Option Nat)  (h : Hp) (r : Hp) (hb : b_129_0 v0  h = some r) : Rn d 129 0 [some (va_rf v0)] [] h (none, r) := by
  unfold b_129_0 at hb
  obtain ⟨e, rfl⟩ : ∃ e, d = e + 1 := ⟨d - 1, by omega⟩
  refine rn_aload_n (i := 0) rfl rfl ?_
  obtain ⟨hq, hb⟩ := grd_spec hb
  refine rn_oinit rfl hq (by decide) ?_
  refine rn_aload_n (i := 0) rfl rfl ?_
  obtain ⟨h1, eh1, hb⟩ := bnd_spec hb
  refine rn_new rfl (by decide) ?_
  rw [← eh1]
  refine rn_dup rfl (bd_cat_rf _) ?_
  obtain ⟨hrc, hb⟩ := grd_spec hb
  obtain ⟨p2, hc, hb⟩ := Option.bind_eq_some_iff.mp hb
  refine Rn.call0 (d := e) (As := [va_rf (some (hN h))]) (rest := [va_rf (some (hN h)), va_rf v0]) rfl rfl rfl (by decide) rfl rfl rfl (bd_rcI hrc) (by rw [bd_cR (bd_cR (bd_cN))]; decide) (bd_lenC (n := 1) rfl (bd_slR bd_slN) rfl) (bd_locC (n := 1) rfl (bd_slR bd_slN) rfl (t_114 e (by omega) (some (hN h)) h1 _ hc)) ?_
  refine rn_pQ (c := 10) (k := 0) rfl (by decide) hb (fun h3 hb => ?_)
  refine rn_aload_n (i := 0) rfl rfl ?_
  obtain ⟨h4, eh4, hb⟩ := bnd_spec hb
  refine rn_new rfl (by decide) ?_
  rw [← eh4]
  refine rn_dup rfl (bd_cat_rf _) ?_
  obtain ⟨hrc, hb⟩ := grd_spec hb
  obtain ⟨p5, hc, hb⟩ := Option.bind_eq_some_iff.mp hb
  refine Rn.call0 (d := e) (As := [va_rf (some (hN h3))]) (rest := [va_rf (some (hN h3)), va_rf v0]) rfl rfl rfl (by decide) rfl rfl rfl (bd_rcI hrc) (by rw [bd_cR (bd_cR (bd_cN))]; decide) (bd_lenC (n := 1) rfl (bd_slR bd_slN) rfl) (bd_locC (n := 1) rfl (bd_slR bd_slN) rfl (t_82 e (by omega) (some (hN h3)) h4 _ hc)) ?_
  refine rn_pQ (c := 10) (k := 1) rfl (by decide) hb (fun h6 hb => ?_)
  refine rn_aload_n (i := 0) rfl rfl ?_
  obtain ⟨h7, eh7, hb⟩ := bnd_spec hb
  refine rn_new rfl (by decide) ?_
  rw [← eh7]
  refine rn_dup rfl (bd_cat_rf _) ?_
  obtain ⟨hrc, hb⟩ := grd_spec hb
  obtain ⟨p8, hc, hb⟩ := Option.bind_eq_some_iff.mp hb
  refine Rn.call0 (d := e) (As := [va_rf (some (hN h6))]) (rest := [va_rf (some (hN h6)), va_rf v0]) rfl rfl rfl (by decide) rfl rfl rfl (bd_rcI hrc) (by rw [bd_cR (bd_cR (bd_cN))]; decide) (bd_lenC (n := 1) rfl (bd_slR bd_slN) rfl) (bd_locC (n := 1) rfl (bd_slR bd_slN) rfl (t_82 e (by omega) (some (hN h6)) h7 _ hc)) ?_
  refine rn_pQ (c := 10) (k := 2) rfl (by decide) hb (fun h9 hb => ?_)
  refine rn_aload_n (i := 0) rfl rfl ?_
  obtain ⟨h10, eh10, hb⟩ := bnd_spec hb
  refine rn_new rfl (by decide) ?_
  rw [← eh10]
  refine rn_dup rfl (bd_cat_rf _) ?_
  obtain ⟨hrc, hb⟩ := grd_spec hb
  obtain ⟨p11, hc, hb⟩ := Option.bind_eq_some_iff.mp hb
  refine Rn.call0 (d := e) (As := [va_rf (some (hN h9))]) (rest := [va_rf (some (hN h9)), va_rf v0]) rfl rfl rfl (by decide) rfl rfl rfl (bd_rcI hrc) (by rw [bd_cR (bd_cR (bd_cN))]; decide) (bd_lenC (n := 1) rfl (bd_slR bd_slN) rfl) (bd_locC (n := 1) rfl (bd_slR bd_slN) rfl (t_26 e (by omega) (some (hN h9)) h10 _ hc)) ?_
  refine rn_pQ (c := 10) (k := 3) rfl (by decide) hb (fun h12 hb => ?_)
  refine rn_aload_n (i := 0) rfl rfl ?_
  obtain ⟨h13, eh13, hb⟩ := bnd_spec hb
  refine rn_new rfl (by decide) ?_
  rw [← eh13]
  refine rn_dup rfl (bd_cat_rf _) ?_
  obtain ⟨hrc, hb⟩ := grd_spec hb
  obtain ⟨p14, hc, hb⟩ := Option.bind_eq_some_iff.mp hb
  refine Rn.call0 (d := e) (As := [va_rf (some (hN h12))]) (rest := [va_rf (some (hN h12)), va_rf v0]) rfl rfl rfl (by decide) rfl rfl rfl (bd_rcI hrc) (by rw [bd_cR (bd_cR (bd_cN))]; decide) (bd_lenC (n := 1) rfl (bd_slR bd_slN) rfl) (bd_locC (n := 1) rfl (bd_slR bd_slN) rfl (t_21 e (by omega) (some (hN h12)) h13 _ hc)) ?_
  refine rn_pQ (c := 10) (k := 4) rfl (by decide) hb (fun h15 hb => ?_)
  refine rn_aload_n (i := 0) rfl rfl ?_
  obtain ⟨h16, eh16, hb⟩ := bnd_spec hb
  refine rn_new rfl (by decide) ?_
  rw [← eh16]
  refine rn_dup rfl (bd_cat_rf _) ?_
  obtain ⟨hrc, hb⟩ := grd_spec hb
  obtain ⟨p17, hc, hb⟩ := Option.bind_eq_some_iff.mp hb
  refine Rn.call0 (d := e) (As := [va_rf (some (hN h15))]) (rest := [va_rf (some (hN h15)), va_rf v0]) rfl rfl rfl (by decide) rfl rfl rfl (bd_rcI hrc) (by rw [bd_cR (bd_cR (bd_cN))]; decide) (bd_lenC (n := 1) rfl (bd_slR bd_slN) rfl) (bd_locC (n := 1) rfl (bd_slR bd_slN) rfl (t_69 e (by omega) (some (hN h15)) h16 _ hc)) ?_
  refine rn_pQ (c := 10) (k := 5) rfl (by decide) hb (fun h18 hb => ?_)
  refine rn_aload_n (i := 0) rfl rfl ?_
  refine rn_iconst (x := (nI 2)) rfl (by decide) ?_
  refine rn_anewarray rfl hb (fun h19 hb => ?_)
  refine rn_pQ (c := 10) (k := 6) rfl (by decide) hb (fun h20 hb => ?_)
  refine rn_aload_n (i := 0) rfl rfl ?_
  refine rn_iconst (x := (nI 2)) rfl (by decide) ?_
  refine rn_anewarray rfl hb (fun h21 hb => ?_)
  refine rn_pQ (c := 10) (k := 7) rfl (by decide) hb (fun h22 hb => ?_)
  refine rn_aload_n (i := 0) rfl rfl ?_
  refine rn_iconst (x := (nI 2)) rfl (by decide) ?_
  refine rn_anewarray rfl hb (fun h23 hb => ?_)
  refine rn_pQ (c := 10) (k := 8) rfl (by decide) hb (fun h24 hb => ?_)
  refine rn_aload_n (i := 0) rfl rfl ?_
  refine rn_iconst (x := (nI 5)) rfl (by decide) ?_
  refine rn_newarray rfl hb (fun h25 hb => ?_)
  refine rn_pQ (c := 10) (k := 9) rfl (by decide) hb (fun h26 hb => ?_)
  refine rn_aload_n (i := 0) rfl rfl ?_
  refine rn_gQ (c := 10) (k := 1) rfl (by decide) hb (fun x27 hb => ?_)
  obtain ⟨h28, eh28, hb⟩ := bnd_spec hb
  refine rn_new rfl (by decide) ?_
  rw [← eh28]
  refine rn_dup rfl (bd_cat_rf _) ?_
  obtain ⟨hrc, hb⟩ := grd_spec hb
  obtain ⟨p29, hc, hb⟩ := Option.bind_eq_some_iff.mp hb
  refine Rn.call0 (d := e) (As := [va_rf (some (hN h26))]) (rest := [va_rf (some (hN h26)), va_rf x27]) rfl rfl rfl (by decide) rfl rfl rfl (bd_rcI hrc) (by rw [bd_cR (bd_cR (bd_cN))]; decide) (bd_lenC (n := 1) rfl (bd_slR bd_slN) rfl) (bd_locC (n := 1) rfl (bd_slR bd_slN) rfl (t_49 e (by omega) (some (hN h26)) h28 _ hc)) ?_
  obtain ⟨hrc, hb⟩ := grd_spec hb
  obtain ⟨p30, hc, hb⟩ := Option.bind_eq_some_iff.mp hb
  refine Rn.call0 (d := e) (As := [va_rf x27, va_rf (some (hN h26))]) (rest := []) rfl rfl rfl (by decide) rfl rfl rfl (bd_rcV hrc rfl) (by decide) (bd_lenC (n := 3) rfl (bd_slR (bd_slR bd_slN)) rfl) (bd_locC (n := 3) rfl (bd_slR (bd_slR bd_slN)) rfl (t_83 e (by omega) x27 (some (hN h26)) p29 _ hc)) ?_
  obtain rfl := Option.some.inj hb
  exact rn_vret rfl rfl
/-- BitingDoors.<init>()V -/
def f_129 (v0 : Option Nat) (h : Hp) : Option (Hp) := b_129_0 v0 h
theorem t_129 (d : Nat) (hd : 2 ≤ d) (v0 : Option Nat) (h : Hp) (r : Hp) (hb : f_129 v0 h = some r) : Rn d 129 0 [some (va_rf v0)] [] h (none, r) := by
  unfold f_129 at hb
  exact u_129_0 d hd v0 h r hb
def b_130_18 (v0 : Option Nat) (v1 : Int32) (v2 : Int32) (v3 : Int32) (v4 : Int32) (v5 : Int32)  (h : Hp) : Option (Int32 × Hp) :=
  (gQ 10 0 v0 h).bind fun x1 =>
  (grd (rC 9 x1 h)).bind fun _ =>
  (f_115 x1 v1 h).bind fun p2 =>
  (gQ 10 0 v0 p2).bind fun x3 =>
  (grd (rC 9 x3 p2)).bind fun _ =>
  (f_115 x3 v2 p2).bind fun p4 =>
  (gQ 10 0 v0 p4).bind fun x5 =>
  (grd (rC 9 x5 p4)).bind fun _ =>
  (f_115 x5 v3 p4).bind fun p6 =>
  (gQ 10 0 v0 p6).bind fun x7 =>
  (grd (rC 9 x7 p6)).bind fun _ =>
  (f_115 x7 v4 p6).bind fun p8 =>
  (gQ 10 0 v0 p8).bind fun x9 =>
  (grd (rC 9 x9 p8)).bind fun _ =>
  (f_115 x9 v5 p8).bind fun p10 =>
  (gQ 10 0 v0 p10).bind fun x11 =>
  (gI 9 1 x11 p10).bind fun x12 =>
  some (x12, p10)
theorem u_130_18 (d : Nat) (hd : 1 ≤ d) (v0 : Option Nat) (v1 : Int32) (v2 : Int32) (v3 : Int32) (v4 : Int32) (v5 : Int32)  (h : Hp) (r : Int32 × Hp) (hb : b_130_18 v0 v1 v2 v3 v4 v5  h = some r) : Rn d 130 18 [some (va_rf v0), some (.int v1), some (.int v2), some (.int v3), some (.int v4), some (.int v5)] [] h (some (.int r.1), r.2) := by
  unfold b_130_18 at hb
  obtain ⟨e, rfl⟩ : ∃ e, d = e + 1 := ⟨d - 1, by omega⟩
  refine rn_aload_n (i := 0) rfl rfl ?_
  refine rn_gQ (c := 10) (k := 0) rfl (by decide) hb (fun x1 hb => ?_)
  refine rn_iload_n (i := 1) rfl rfl ?_
  obtain ⟨hrc, hb⟩ := grd_spec hb
  obtain ⟨p2, hc, hb⟩ := Option.bind_eq_some_iff.mp hb
  refine Rn.call0 (d := e) (As := [va_rf x1, .int v1]) (rest := []) rfl rfl rfl (by decide) rfl rfl rfl (bd_rcV hrc rfl) (by decide) (bd_lenC (n := 3) rfl (bd_slR (bd_slI bd_slN)) rfl) (bd_locC (n := 3) rfl (bd_slR (bd_slI bd_slN)) rfl (t_115 e (by omega) x1 v1 h _ hc)) ?_
  refine rn_aload_n (i := 0) rfl rfl ?_
  refine rn_gQ (c := 10) (k := 0) rfl (by decide) hb (fun x3 hb => ?_)
  refine rn_iload_n (i := 2) rfl rfl ?_
  obtain ⟨hrc, hb⟩ := grd_spec hb
  obtain ⟨p4, hc, hb⟩ := Option.bind_eq_some_iff.mp hb
  refine Rn.call0 (d := e) (As := [va_rf x3, .int v2]) (rest := []) rfl rfl rfl (by decide) rfl rfl rfl (bd_rcV hrc rfl) (by decide) (bd_lenC (n := 3) rfl (bd_slR (bd_slI bd_slN)) rfl) (bd_locC (n := 3) rfl (bd_slR (bd_slI bd_slN)) rfl (t_115 e (by omega) x3 v2 p2 _ hc)) ?_
  refine rn_aload_n (i := 0) rfl rfl ?_
  refine rn_gQ (c := 10) (k := 0) rfl (by decide) hb (fun x5 hb => ?_)
  refine rn_iload_n (i := 3) rfl rfl ?_
  obtain ⟨hrc, hb⟩ := grd_spec hb
  obtain ⟨p6, hc, hb⟩ := Option.bind_eq_some_iff.mp hb
  refine Rn.call0 (d := e) (As := [va_rf x5, .int v3]) (rest := []) rfl rfl rfl (by decide) rfl rfl rfl (bd_rcV hrc rfl) (by decide) (bd_lenC (n := 3) rfl (bd_slR (bd_slI bd_slN)) rfl) (bd_locC (n := 3) rfl (bd_slR (bd_slI bd_slN)) rfl (t_115 e (by omega) x5 v3 p4 _ hc)) ?_
  refine rn_aload_n (i := 0) rfl rfl ?_
  refine rn_gQ (c := 10) (k := 0) rfl (by decide) hb (fun x7 hb => ?_)
  refine rn_iload (i := 4) rfl rfl ?_
  obtain ⟨hrc, hb⟩ := grd_spec hb
  obtain ⟨p8, hc, hb⟩ := Option.bind_eq_some_iff.mp hb
  refine Rn.call0 (d := e) (As := [va_rf x7, .int v4]) (rest := []) rfl rfl rfl (by decide) rfl rfl rfl (bd_rcV hrc rfl) (by decide) (bd_lenC (n := 3) rfl (bd_slR (bd_slI bd_slN)) rfl) (bd_locC (n := 3) rfl (bd_slR (bd_slI bd_slN)) rfl (t_115 e (by omega) x7 v4 p6 _ hc)) ?_
  refine rn_aload_n (i := 0) rfl rfl ?_
  refine rn_gQ (c := 10) (k := 0) rfl (by decide) hb (fun x9 hb => ?_)
  refine rn_iload (i := 5) rfl rfl ?_
  obtain ⟨hrc, hb⟩ := grd_spec hb
  obtain ⟨p10, hc, hb⟩ := Option.bind_eq_some_iff.mp hb
  refine Rn.call0 (d := e) (As := [va_rf x9, .int v5]) (rest := []) rfl rfl rfl (by decide) rfl rfl rfl (bd_rcV hrc rfl) (by decide) (bd_lenC (n := 3) rfl (bd_slR (bd_slI bd_slN)) rfl) (bd_locC (n := 3) rfl (bd_slR (bd_slI bd_slN)) rfl (t_115 e (by omega) x9 v5 p8 _ hc)) ?_
  refine rn_aload_n (i := 0) rfl rfl ?_
  refine rn_gQ (c := 10) (k := 0) rfl (by decide) hb (fun x11 hb => ?_)
  refine rn_gI (c := 9) (k := 1) rfl (by decide) hb (fun x12 hb => ?_)
  obtain rfl := Option.some.inj hb
  exact rn_iret rfl rfl
def b_130_16   (h : Hp) : Option (Int32 × Hp) :=
  some ((-1 : Int32), h)
theorem u_130_16 (d : Nat) (hd : 1 ≤ d) (v0 : Option Nat) (v1 : Int32) (v2 : Int32) (v3 : Int32) (v4 : Int32) (v5 : Int32)  (h : Hp) (r : Int32 × Hp) (hb : b_130_16   h = some r) : Rn d 130 16 [some (va_rf v0), some (.int v1), some (.int v2), some (.int v3), some (.int v4), some (.int v5)] [] h (some (.int r.1), r.2) := by
  unfold b_130_16 at hb
  refine rn_iconst (x := (-1 : Int32)) rfl (by decide) ?_
  obtain rfl := Option.some.inj hb
  exact rn_iret rfl rfl
def b_130_0 (v0 : Option Nat) (v1 : Int32) (v2 : Int32) (v3 : Int32) (v4 : Int32) (v5 : Int32)  (h : Hp) : Option (Int32 × Hp) :=
  (gQ 10 0 v0 h).bind fun x1 =>
  (gI 9 1 x1 h).bind fun x2 =>
  if (x2 + (nI 20)) ≤ (nI 940) then b_130_18 v0 v1 v2 v3 v4 v5  h else b_130_16   h
theorem u_130_0 (d : Nat) (hd : 1 ≤ d) (v0 : Option Nat) (v1 : Int32) (v2 : Int32) (v3 : Int32) (v4 : Int32) (v5 : Int32)  (h : Hp) (r : Int32 × Hp) (hb : b_130_0 v0 v1 v2 v3 v4 v5  h = some r) : Rn d 130 0 [some (va_rf v0), some (.int v1), some (.int v2), some (.int v3), some (.int v4), some (.int v5)] [] h (some (.int r.1), r.2) := by
  unfold b_130_0 at hb
  refine rn_aload_n (i := 0) rfl rfl ?_
  refine rn_gQ (c := 10) (k := 0) rfl (by decide) hb (fun x1 hb => ?_)
  refine rn_gI (c := 9) (k := 1) rfl (by decide) hb (fun x2 hb => ?_)
  refine rn_bipush (x := (nI 20)) rfl (by decide) ?_
  refine rn_iadd rfl ?_
  refine rn_sipush (x := (nI 940)) rfl (by decide) ?_
  refine rn_icmp_le rfl rfl (fun hc => ?_) (fun hc => ?_)
  · exact u_130_18 d hd v0 v1 v2 v3 v4 v5  h _ (if_t hb hc)
  · exact u_130_16 d hd v0 v1 v2 v3 v4 v5  h _ (if_f hb hc)
/-- BitingDoors.feed(IIIII)I -/
def f_130 (v0 : Option Nat) (v1 : Int32) (v2 : Int32) (v3 : Int32) (v4 : Int32) (v5 : Int32) (h : Hp) : Option (Int32 × Hp) := b_130_0 v0 v1 v2 v3 v4 v5 h
theorem t_130 (d : Nat) (hd : 1 ≤ d) (v0 : Option Nat) (v1 : Int32) (v2 : Int32) (v3 : Int32) (v4 : Int32) (v5 : Int32) (h : Hp) (r : Int32 × Hp) (hb : f_130 v0 v1 v2 v3 v4 v5 h = some r) : Rn d 130 0 [some (va_rf v0), some (.int v1), some (.int v2), some (.int v3), some (.int v4), some (.int v5)] [] h (some (.int r.1), r.2) := by
  unfold f_130 at hb
  exact u_130_0 d hd v0 v1 v2 v3 v4 v5 h r hb
def b_131_15   (h : Hp) : Option (Int32 × Hp) :=
  (grd (decide ((nI 0) = 0 ∨ (nI 0) = 1))).bind fun _ => some ((nI 0), h)
theorem u_131_15 (d : Nat) (hd : 0 ≤ d) (v0 : Option Nat) (v1 : Int32)  (h : Hp) (r : Int32 × Hp) (hb : b_131_15   h = some r) : Rn d 131 15 [some (va_rf v0), some (.int v1)] [] h (some (.int r.1), r.2) := by
  unfold b_131_15 at hb
  refine rn_iconst (x := (nI 0)) rfl (by decide) ?_
  obtain ⟨hz, hb⟩ := grd_spec hb
  obtain rfl := Option.some.inj hb
  exact rn_zret rfl rfl (of_decide_eq_true hz)
def b_131_17 (v0 : Option Nat) (v1 : Int32)  (h : Hp) : Option (Int32 × Hp) :=
  (gQ 10 0 v0 h).bind fun x1 =>
  (pI 9 1 x1 v1 h).bind fun h2 =>
  (grd (decide ((nI 1) = 0 ∨ (nI 1) = 1))).bind fun _ => some ((nI 1), h2)
theorem u_131_17 (d : Nat) (hd : 0 ≤ d) (v0 : Option Nat) (v1 : Int32)  (h : Hp) (r : Int32 × Hp) (hb : b_131_17 v0 v1  h = some r) : Rn d 131 17 [some (va_rf v0), some (.int v1)] [] h (some (.int r.1), r.2) := by
  unfold b_131_17 at hb
  refine rn_aload_n (i := 0) rfl rfl ?_
  refine rn_gQ (c := 10) (k := 0) rfl (by decide) hb (fun x1 hb => ?_)
  refine rn_iload_n (i := 1) rfl rfl ?_
  refine rn_pI (c := 9) (k := 1) rfl (by decide) hb (fun h2 hb => ?_)
  refine rn_iconst (x := (nI 1)) rfl (by decide) ?_
  obtain ⟨hz, hb⟩ := grd_spec hb
  obtain rfl := Option.some.inj hb
  exact rn_zret rfl rfl (of_decide_eq_true hz)
def b_131_4 (v0 : Option Nat) (v1 : Int32)  (h : Hp) : Option (Int32 × Hp) :=
  (gQ 10 0 v0 h).bind fun x1 =>
  (gI 9 1 x1 h).bind fun x2 =>
  if v1 ≤ x2 then b_131_17 v0 v1  h else b_131_15   h
theorem u_131_4 (d : Nat) (hd : 0 ≤ d) (v0 : Option Nat) (v1 : Int32)  (h : Hp) (r : Int32 × Hp) (hb : b_131_4 v0 v1  h = some r) : Rn d 131 4 [some (va_rf v0), some (.int v1)] [] h (some (.int r.1), r.2) := by
  unfold b_131_4 at hb
  refine rn_iload_n (i := 1) rfl rfl ?_
  refine rn_aload_n (i := 0) rfl rfl ?_
  refine rn_gQ (c := 10) (k := 0) rfl (by decide) hb (fun x1 hb => ?_)
  refine rn_gI (c := 9) (k := 1) rfl (by decide) hb (fun x2 hb => ?_)
  refine rn_icmp_le rfl rfl (fun hc => ?_) (fun hc => ?_)
  · exact u_131_17 d hd v0 v1  h _ (if_t hb hc)
  · exact u_131_15 d hd v0 v1  h _ (if_f hb hc)
def b_131_0 (v0 : Option Nat) (v1 : Int32)  (h : Hp) : Option (Int32 × Hp) :=
  if v1 < 0 then b_131_15   h else b_131_4 v0 v1  h
theorem u_131_0 (d : Nat) (hd : 0 ≤ d) (v0 : Option Nat) (v1 : Int32)  (h : Hp) (r : Int32 × Hp) (hb : b_131_0 v0 v1  h = some r) : Rn d 131 0 [some (va_rf v0), some (.int v1)] [] h (some (.int r.1), r.2) := by
  unfold b_131_0 at hb
  refine rn_iload_n (i := 1) rfl rfl ?_
  refine rn_if_lt rfl rfl (fun hc => ?_) (fun hc => ?_)
  · exact u_131_15 d hd v0 v1  h _ (if_t hb hc)
  · exact u_131_4 d hd v0 v1  h _ (if_f hb hc)
/-- BitingDoors.end(I)Z -/
def f_131 (v0 : Option Nat) (v1 : Int32) (h : Hp) : Option (Int32 × Hp) := b_131_0 v0 v1 h
theorem t_131 (d : Nat) (hd : 0 ≤ d) (v0 : Option Nat) (v1 : Int32) (h : Hp) (r : Int32 × Hp) (hb : f_131 v0 v1 h = some r) : Rn d 131 0 [some (va_rf v0), some (.int v1)] [] h (some (.int r.1), r.2) := by
  unfold f_131 at hb
  exact u_131_0 d hd v0 v1 h r hb
def b_132_37 (v0 : Option Nat) (v1 : Option Nat)  (h : Hp) : Option (Int32 × Hp) :=
  (gQ 10 1 v0 h).bind fun x1 =>
  (grd (rC 7 x1 h)).bind fun _ =>
  (f_83 x1 v1 h).bind fun p2 =>
  (pQ 10 11 v0 none p2).bind fun h3 =>
  (pQ 10 12 v0 none h3).bind fun h4 =>
  (pI 10 13 v0 (nI 0) h4).bind fun h5 =>
  (gI 4 8 v1 h5).bind fun x6 =>
  some (x6, h5)
theorem u_132_37 (d : Nat) (hd : 7 ≤ d) (v0 : Option Nat) (v1 : Option Nat)  (h : Hp) (r : Int32 × Hp) (hb : b_132_37 v0 v1  h = some r) : Rn d 132 37 [some (va_rf v0), some (va_rf v1)] [] h (some (.int r.1), r.2) := by
  unfold b_132_37 at hb
  obtain ⟨e, rfl⟩ : ∃ e, d = e + 1 := ⟨d - 1, by omega⟩
  refine rn_aload_n (i := 0) rfl rfl ?_
  refine rn_gQ (c := 10) (k := 1) rfl (by decide) hb (fun x1 hb => ?_)
  refine rn_aload_n (i := 1) rfl rfl ?_
  obtain ⟨hrc, hb⟩ := grd_spec hb
  obtain ⟨p2, hc, hb⟩ := Option.bind_eq_some_iff.mp hb
  refine Rn.call0 (d := e) (As := [va_rf x1, va_rf v1]) (rest := []) rfl rfl rfl (by decide) rfl rfl rfl (bd_rcV hrc rfl) (by decide) (bd_lenC (n := 3) rfl (bd_slR (bd_slR bd_slN)) rfl) (bd_locC (n := 3) rfl (bd_slR (bd_slR bd_slN)) rfl (t_83 e (by omega) x1 v1 h _ hc)) ?_
  refine rn_aload_n (i := 0) rfl rfl ?_
  refine rn_null rfl ?_
  refine rn_pQ (c := 10) (k := 11) rfl (by decide) hb (fun h3 hb => ?_)
  refine rn_aload_n (i := 0) rfl rfl ?_
  refine rn_null rfl ?_
  refine rn_pQ (c := 10) (k := 12) rfl (by decide) hb (fun h4 hb => ?_)
  refine rn_aload_n (i := 0) rfl rfl ?_
  refine rn_iconst (x := (nI 0)) rfl (by decide) ?_
  refine rn_pI (c := 10) (k := 13) rfl (by decide) hb (fun h5 hb => ?_)
  refine rn_aload_n (i := 1) rfl rfl ?_
  refine rn_gI (c := 4) (k := 8) rfl (by decide) hb (fun x6 hb => ?_)
  obtain rfl := Option.some.inj hb
  exact rn_iret rfl rfl
def b_132_27 (v0 : Option Nat)  (h : Hp) : Option (Int32 × Hp) :=
  (gQ 10 0 v0 h).bind fun x1 =>
  (gI 9 7 x1 h).bind fun x2 =>
  some (((-1 : Int32) - x2), h)
theorem u_132_27 (d : Nat) (hd : 7 ≤ d) (v0 : Option Nat) (v1 : Option Nat)  (h : Hp) (r : Int32 × Hp) (hb : b_132_27 v0  h = some r) : Rn d 132 27 [some (va_rf v0), some (va_rf v1)] [] h (some (.int r.1), r.2) := by
  unfold b_132_27 at hb
  refine rn_iconst (x := (-1 : Int32)) rfl (by decide) ?_
  refine rn_aload_n (i := 0) rfl rfl ?_
  refine rn_gQ (c := 10) (k := 0) rfl (by decide) hb (fun x1 hb => ?_)
  refine rn_gI (c := 9) (k := 7) rfl (by decide) hb (fun x2 hb => ?_)
  refine rn_isub rfl ?_
  obtain rfl := Option.some.inj hb
  exact rn_iret rfl rfl
def b_132_0 (v0 : Option Nat)  (h : Hp) : Option (Int32 × Hp) :=
  bnd (hNew h 5 0 (bd_nf 5)) fun h1 =>
  (gQ 10 0 v0 h1).bind fun x2 =>
  (grd (some (hN h)).isSome).bind fun _ =>
  (f_55 (some (hN h)) x2 h1).bind fun p3 =>
  (grd (rC 5 (some (hN h)) p3)).bind fun _ =>
  (f_56 (some (hN h)) p3).bind fun p4 =>
  bnd (p4.1) fun x5 =>
  (gQ 10 0 v0 p4.2).bind fun x6 =>
  (pI 9 1 x6 (nI 0) p4.2).bind fun h7 =>
  if ¬ x5 = none then b_132_37 v0 x5  h7 else b_132_27 v0  h7
theorem u_132_0 (d : Nat) (hd : 7 ≤ d) (v0 : Option Nat)  (h : Hp) (r : Int32 × Hp) (hb : b_132_0 v0  h = some r) : Rn d 132 0 [some (va_rf v0), none] [] h (some (.int r.1), r.2) := by
  unfold b_132_0 at hb
  obtain ⟨e, rfl⟩ : ∃ e, d = e + 1 := ⟨d - 1, by omega⟩
  obtain ⟨h1, eh1, hb⟩ := bnd_spec hb
  refine rn_new rfl (by decide) ?_
  rw [← eh1]
  refine rn_dup rfl (bd_cat_rf _) ?_
  refine rn_aload_n (i := 0) rfl rfl ?_
  refine rn_gQ (c := 10) (k := 0) rfl (by decide) hb (fun x2 hb => ?_)
  obtain ⟨hrc, hb⟩ := grd_spec hb
  obtain ⟨p3, hc, hb⟩ := Option.bind_eq_some_iff.mp hb
  refine Rn.call0 (d := e) (As := [va_rf (some (hN h)), va_rf x2]) (rest := [va_rf (some (hN h))]) rfl rfl rfl (by decide) rfl rfl rfl (bd_rcI hrc) (by rw [bd_cR (bd_cN)]; decide) (bd_lenC (n := 2) rfl (bd_slR (bd_slR bd_slN)) rfl) (bd_locC (n := 2) rfl (bd_slR (bd_slR bd_slN)) rfl (t_55 e (by omega) (some (hN h)) x2 h1 _ hc)) ?_
  obtain ⟨hrc, hb⟩ := grd_spec hb
  obtain ⟨p4, hc, hb⟩ := Option.bind_eq_some_iff.mp hb
  refine Rn.call1 (d := e) (As := [va_rf (some (hN h))]) (rest := []) rfl rfl rfl (by decide) rfl rfl rfl (bd_rcV hrc rfl) (by decide) (bd_lenC (n := 2) rfl (bd_slR bd_slN) rfl) (bd_locC (n := 2) rfl (bd_slR bd_slN) rfl (t_56 e (by omega) (some (hN h)) p3 _ hc)) ?_
  obtain ⟨x5, ex5, hb⟩ := bnd_spec hb
  refine rn_astore_n (i := 1) (L1 := [some (va_rf v0), some (va_rf x5)]) rfl (Nat.le_of_ble_eq_true rfl) (Or.inr (bd_wideR rfl)) (by rw [ex5]; rfl) ?_
  refine rn_aload_n (i := 0) rfl rfl ?_
  refine rn_gQ (c := 10) (k := 0) rfl (by decide) hb (fun x6 hb => ?_)
  refine rn_iconst (x := (nI 0)) rfl (by decide) ?_
  refine rn_pI (c := 9) (k := 1) rfl (by decide) hb (fun h7 hb => ?_)
  refine rn_aload_n (i := 1) rfl rfl ?_
  refine rn_ifnonnull rfl rfl (fun hc => ?_) (fun hc => ?_)
  · exact u_132_37 (e + 1) hd v0 x5  h7 _ (if_t hb hc)
  · exact u_132_27 (e + 1) hd v0 x5  h7 _ (if_f hb (fun z => z hc))
/-- BitingDoors.house()I -/
def f_132 (v0 : Option Nat) (h : Hp) : Option (Int32 × Hp) := b_132_0 v0 h
theorem t_132 (d : Nat) (hd : 7 ≤ d) (v0 : Option Nat) (h : Hp) (r : Int32 × Hp) (hb : f_132 v0 h = some r) : Rn d 132 0 [some (va_rf v0), none] [] h (some (.int r.1), r.2) := by
  unfold f_132 at hb
  exact u_132_0 d hd v0 h r hb
def b_133_0 (v0 : Option Nat)  (h : Hp) : Option (Int32 × Hp) :=
  (gQ 10 0 v0 h).bind fun x1 =>
  (gI 9 6 x1 h).bind fun x2 =>
  some (x2, h)
theorem u_133_0 (d : Nat) (hd : 0 ≤ d) (v0 : Option Nat)  (h : Hp) (r : Int32 × Hp) (hb : b_133_0 v0  h = some r) : Rn d 133 0 [some (va_rf v0)] [] h (some (.int r.1), r.2) := by
  unfold b_133_0 at hb
  refine rn_aload_n (i := 0) rfl rfl ?_
  refine rn_gQ (c := 10) (k := 0) rfl (by decide) hb (fun x1 hb => ?_)
  refine rn_gI (c := 9) (k := 6) rfl (by decide) hb (fun x2 hb => ?_)
  obtain rfl := Option.some.inj hb
  exact rn_iret rfl rfl
/-- BitingDoors.fault()I -/
def f_133 (v0 : Option Nat) (h : Hp) : Option (Int32 × Hp) := b_133_0 v0 h
theorem t_133 (d : Nat) (hd : 0 ≤ d) (v0 : Option Nat) (h : Hp) (r : Int32 × Hp) (hb : f_133 v0 h = some r) : Rn d 133 0 [some (va_rf v0)] [] h (some (.int r.1), r.2) := by
  unfold f_133 at hb
  exact u_133_0 d hd v0 h r hb
def b_134_0 (v0 : Option Nat) (v1 : Int32) (v2 : Int32)  (h : Hp) : Option (Int32 × Hp) :=
  (gQ 10 1 v0 h).bind fun x1 =>
  (gQ 7 2 x1 h).bind fun x2 =>
  (grd (rC 4 x2 h)).bind fun _ =>
  (f_50 x2 v1 v2 h).bind fun p3 =>
  some (p3.1, p3.2)
theorem u_134_0 (d : Nat) (hd : 1 ≤ d) (v0 : Option Nat) (v1 : Int32) (v2 : Int32)  (h : Hp) (r : Int32 × Hp) (hb : b_134_0 v0 v1 v2  h = some r) : Rn d 134 0 [some (va_rf v0), some (.int v1), some (.int v2)] [] h (some (.int r.1), r.2) := by
  unfold b_134_0 at hb
  obtain ⟨e, rfl⟩ : ∃ e, d = e + 1 := ⟨d - 1, by omega⟩
  refine rn_aload_n (i := 0) rfl rfl ?_
  refine rn_gQ (c := 10) (k := 1) rfl (by decide) hb (fun x1 hb => ?_)
  refine rn_gQ (c := 7) (k := 2) rfl (by decide) hb (fun x2 hb => ?_)
  refine rn_iload_n (i := 1) rfl rfl ?_
  refine rn_iload_n (i := 2) rfl rfl ?_
  obtain ⟨hrc, hb⟩ := grd_spec hb
  obtain ⟨p3, hc, hb⟩ := Option.bind_eq_some_iff.mp hb
  refine Rn.call1 (d := e) (As := [va_rf x2, .int v1, .int v2]) (rest := []) rfl rfl rfl (by decide) rfl rfl rfl (bd_rcV hrc rfl) (by decide) (bd_lenC (n := 4) rfl (bd_slR (bd_slI (bd_slI bd_slN))) rfl) (bd_locC (n := 4) rfl (bd_slR (bd_slI (bd_slI bd_slN))) rfl (t_50 e (by omega) x2 v1 v2 h _ hc)) ?_
  obtain rfl := Option.some.inj hb
  exact rn_iret rfl rfl
/-- BitingDoors.cell(II)I -/
def f_134 (v0 : Option Nat) (v1 : Int32) (v2 : Int32) (h : Hp) : Option (Int32 × Hp) := b_134_0 v0 v1 v2 h
theorem t_134 (d : Nat) (hd : 1 ≤ d) (v0 : Option Nat) (v1 : Int32) (v2 : Int32) (h : Hp) (r : Int32 × Hp) (hb : f_134 v0 v1 v2 h = some r) : Rn d 134 0 [some (va_rf v0), some (.int v1), some (.int v2)] [] h (some (.int r.1), r.2) := by
  unfold f_134 at hb
  exact u_134_0 d hd v0 v1 v2 h r hb
def b_135_24   (h : Hp) : Option (Option Int32 × Hp) :=
  some (none, hLost h 6)
theorem u_135_24 (d : Nat) (hd : 1 ≤ d) (v0 : Option Nat) (v1 : Int32) (v2 : Int32)  (h : Hp) (r : Option Int32 × Hp) (hb : b_135_24   h = some r) : Rn d 135 24 [some (va_rf v0), some (.int v1), some (.int v2)] [] h (some (va_thr r.1), r.2) := by
  unfold b_135_24 at hb
  obtain rfl := Option.some.inj hb
  exact rn_thr rfl
def b_135_80  (s0 : Int32) (h : Hp) : Option (Option Int32 × Hp) :=
  some (some s0, h)
theorem u_135_80 (d : Nat) (hd : 1 ≤ d) (v0 : Option Nat) (v1 : Int32) (v2 : Int32) (s0 : Int32) (h : Hp) (r : Option Int32 × Hp) (hb : b_135_80  s0 h = some r) : Rn d 135 80 [some (va_rf v0), some (.int v1), some (.int v2)] [.int s0] h (some (va_thr r.1), r.2) := by
  unfold b_135_80 at hb
  obtain rfl := Option.some.inj hb
  exact rn_iret rfl rfl
def b_135_64 (v0 : Option Nat) (v1 : Int32) (v2 : Int32)  (h : Hp) : Option (Option Int32 × Hp) :=
  (gQ 10 1 v0 h).bind fun x1 =>
  (gQ 7 2 x1 h).bind fun x2 =>
  (gQ 4 1 x2 h).bind fun x3 =>
  (aQ x3 v1 h).bind fun x4 =>
  (grd (rC 1 x4 h)).bind fun _ =>
  (f_7 x4 v2 h).bind fun p5 =>
  b_135_80  p5.1 p5.2
theorem u_135_64 (d : Nat) (hd : 1 ≤ d) (v0 : Option Nat) (v1 : Int32) (v2 : Int32)  (h : Hp) (r : Option Int32 × Hp) (hb : b_135_64 v0 v1 v2  h = some r) : Rn d 135 64 [some (va_rf v0), some (.int v1), some (.int v2)] [] h (some (va_thr r.1), r.2) := by
  unfold b_135_64 at hb
  obtain ⟨e, rfl⟩ : ∃ e, d = e + 1 := ⟨d - 1, by omega⟩
  refine rn_aload_n (i := 0) rfl rfl ?_
  refine rn_gQ (c := 10) (k := 1) rfl (by decide) hb (fun x1 hb => ?_)
  refine rn_gQ (c := 7) (k := 2) rfl (by decide) hb (fun x2 hb => ?_)
  refine rn_gQ (c := 4) (k := 1) rfl (by decide) hb (fun x3 hb => ?_)
  refine rn_iload_n (i := 1) rfl rfl ?_
  refine rn_aQ rfl hb (fun x4 hb => ?_)
  refine rn_iload_n (i := 2) rfl rfl ?_
  obtain ⟨hrc, hb⟩ := grd_spec hb
  obtain ⟨p5, hc, hb⟩ := Option.bind_eq_some_iff.mp hb
  refine Rn.call1 (d := e) (As := [va_rf x4, .int v2]) (rest := []) rfl rfl rfl (by decide) rfl rfl rfl (bd_rcV hrc rfl) (by decide) (bd_lenC (n := 2) rfl (bd_slR (bd_slI bd_slN)) rfl) (bd_locC (n := 2) rfl (bd_slR (bd_slI bd_slN)) rfl (t_7 e (by omega) x4 v2 h _ hc)) ?_
  exact u_135_80 (e + 1) hd v0 v1 v2 p5.1 p5.2 _ hb
def b_135_52 (v0 : Option Nat) (v1 : Int32)  (h : Hp) : Option (Option Int32 × Hp) :=
  (gQ 10 1 v0 h).bind fun x1 =>
  (gQ 7 1 x1 h).bind fun x2 =>
  (aI 12 x2 v1 h).bind fun x3 =>
  b_135_80  x3 h
theorem u_135_52 (d : Nat) (hd : 1 ≤ d) (v0 : Option Nat) (v1 : Int32) (v2 : Int32)  (h : Hp) (r : Option Int32 × Hp) (hb : b_135_52 v0 v1  h = some r) : Rn d 135 52 [some (va_rf v0), some (.int v1), some (.int v2)] [] h (some (va_thr r.1), r.2) := by
  unfold b_135_52 at hb
  refine rn_aload_n (i := 0) rfl rfl ?_
  refine rn_gQ (c := 10) (k := 1) rfl (by decide) hb (fun x1 hb => ?_)
  refine rn_gQ (c := 7) (k := 1) rfl (by decide) hb (fun x2 hb => ?_)
  refine rn_iload_n (i := 1) rfl rfl ?_
  refine rn_aI rfl hb (fun x3 hb => ?_)
  refine rn_goto rfl rfl ?_
  exact u_135_80 d hd v0 v1 v2 x3 h _ hb
def b_135_47 (v0 : Option Nat) (v1 : Int32) (v2 : Int32)  (h : Hp) : Option (Option Int32 × Hp) :=
  if ¬ v2 = (nI 5) then b_135_64 v0 v1 v2  h else b_135_52 v0 v1  h
theorem u_135_47 (d : Nat) (hd : 1 ≤ d) (v0 : Option Nat) (v1 : Int32) (v2 : Int32)  (h : Hp) (r : Option Int32 × Hp) (hb : b_135_47 v0 v1 v2  h = some r) : Rn d 135 47 [some (va_rf v0), some (.int v1), some (.int v2)] [] h (some (va_thr r.1), r.2) := by
  unfold b_135_47 at hb
  refine rn_iload_n (i := 2) rfl rfl ?_
  refine rn_iconst (x := (nI 5)) rfl (by decide) ?_
  refine rn_icmp_ne rfl rfl (fun hc => ?_) (fun hc => ?_)
  · exact u_135_64 d hd v0 v1 v2  h _ (if_t hb hc)
  · exact u_135_52 d hd v0 v1 v2  h _ (if_f hb hc)
def b_135_37 (v0 : Option Nat) (v1 : Int32)  (h : Hp) : Option (Option Int32 × Hp) :=
  (gQ 10 1 v0 h).bind fun x1 =>
  (gQ 7 0 x1 h).bind fun x2 =>
  (aI 12 x2 v1 h).bind fun x3 =>
  some (some x3, h)
theorem u_135_37 (d : Nat) (hd : 1 ≤ d) (v0 : Option Nat) (v1 : Int32) (v2 : Int32)  (h : Hp) (r : Option Int32 × Hp) (hb : b_135_37 v0 v1  h = some r) : Rn d 135 37 [some (va_rf v0), some (.int v1), some (.int v2)] [] h (some (va_thr r.1), r.2) := by
  unfold b_135_37 at hb
  refine rn_aload_n (i := 0) rfl rfl ?_
  refine rn_gQ (c := 10) (k := 1) rfl (by decide) hb (fun x1 hb => ?_)
  refine rn_gQ (c := 7) (k := 0) rfl (by decide) hb (fun x2 hb => ?_)
  refine rn_iload_n (i := 1) rfl rfl ?_
  refine rn_aI rfl hb (fun x3 hb => ?_)
  obtain rfl := Option.some.inj hb
  exact rn_iret rfl rfl
def b_135_32 (v0 : Option Nat) (v1 : Int32) (v2 : Int32)  (h : Hp) : Option (Option Int32 × Hp) :=
  if ¬ v2 = (nI 4) then b_135_47 v0 v1 v2  h else b_135_37 v0 v1  h
theorem u_135_32 (d : Nat) (hd : 1 ≤ d) (v0 : Option Nat) (v1 : Int32) (v2 : Int32)  (h : Hp) (r : Option Int32 × Hp) (hb : b_135_32 v0 v1 v2  h = some r) : Rn d 135 32 [some (va_rf v0), some (.int v1), some (.int v2)] [] h (some (va_thr r.1), r.2) := by
  unfold b_135_32 at hb
  refine rn_iload_n (i := 2) rfl rfl ?_
  refine rn_iconst (x := (nI 4)) rfl (by decide) ?_
  refine rn_icmp_ne rfl rfl (fun hc => ?_) (fun hc => ?_)
  · exact u_135_47 d hd v0 v1 v2  h _ (if_t hb hc)
  · exact u_135_37 d hd v0 v1 v2  h _ (if_f hb hc)
def b_135_18 (v0 : Option Nat) (v1 : Int32) (v2 : Int32)  (h : Hp) : Option (Option Int32 × Hp) :=
  if v2 ≤ (nI 8) then b_135_32 v0 v1 v2  h else b_135_24   h
theorem u_135_18 (d : Nat) (hd : 1 ≤ d) (v0 : Option Nat) (v1 : Int32) (v2 : Int32)  (h : Hp) (r : Option Int32 × Hp) (hb : b_135_18 v0 v1 v2  h = some r) : Rn d 135 18 [some (va_rf v0), some (.int v1), some (.int v2)] [] h (some (va_thr r.1), r.2) := by
  unfold b_135_18 at hb
  refine rn_iload_n (i := 2) rfl rfl ?_
  refine rn_bipush (x := (nI 8)) rfl (by decide) ?_
  refine rn_icmp_le rfl rfl (fun hc => ?_) (fun hc => ?_)
  · exact u_135_32 d hd v0 v1 v2  h _ (if_t hb hc)
  · exact u_135_24 d hd v0 v1 v2  h _ (if_f hb hc)
def b_135_14 (v0 : Option Nat) (v1 : Int32) (v2 : Int32)  (h : Hp) : Option (Option Int32 × Hp) :=
  if v2 < 0 then b_135_24   h else b_135_18 v0 v1 v2  h
theorem u_135_14 (d : Nat) (hd : 1 ≤ d) (v0 : Option Nat) (v1 : Int32) (v2 : Int32)  (h : Hp) (r : Option Int32 × Hp) (hb : b_135_14 v0 v1 v2  h = some r) : Rn d 135 14 [some (va_rf v0), some (.int v1), some (.int v2)] [] h (some (va_thr r.1), r.2) := by
  unfold b_135_14 at hb
  refine rn_iload_n (i := 2) rfl rfl ?_
  refine rn_if_lt rfl rfl (fun hc => ?_) (fun hc => ?_)
  · exact u_135_24 d hd v0 v1 v2  h _ (if_t hb hc)
  · exact u_135_18 d hd v0 v1 v2  h _ (if_f hb hc)
def b_135_0 (v0 : Option Nat) (v1 : Int32) (v2 : Int32)  (h : Hp) : Option (Option Int32 × Hp) :=
  (gQ 10 1 v0 h).bind fun x1 =>
  (gQ 7 2 x1 h).bind fun x2 =>
  (grd (rC 4 x2 h)).bind fun _ =>
  (f_52 x2 v1 h).bind fun p3 =>
  if p3.1 = 0 then b_135_24   p3.2 else b_135_14 v0 v1 v2  p3.2
theorem u_135_0 (d : Nat) (hd : 1 ≤ d) (v0 : Option Nat) (v1 : Int32) (v2 : Int32)  (h : Hp) (r : Option Int32 × Hp) (hb : b_135_0 v0 v1 v2  h = some r) : Rn d 135 0 [some (va_rf v0), some (.int v1), some (.int v2)] [] h (some (va_thr r.1), r.2) := by
  unfold b_135_0 at hb
  obtain ⟨e, rfl⟩ : ∃ e, d = e + 1 := ⟨d - 1, by omega⟩
  refine rn_aload_n (i := 0) rfl rfl ?_
  refine rn_gQ (c := 10) (k := 1) rfl (by decide) hb (fun x1 hb => ?_)
  refine rn_gQ (c := 7) (k := 2) rfl (by decide) hb (fun x2 hb => ?_)
  refine rn_iload_n (i := 1) rfl rfl ?_
  obtain ⟨hrc, hb⟩ := grd_spec hb
  obtain ⟨p3, hc, hb⟩ := Option.bind_eq_some_iff.mp hb
  refine Rn.call1 (d := e) (As := [va_rf x2, .int v1]) (rest := []) rfl rfl rfl (by decide) rfl rfl rfl (bd_rcV hrc rfl) (by decide) (bd_lenC (n := 2) rfl (bd_slR (bd_slI bd_slN)) rfl) (bd_locC (n := 2) rfl (bd_slR (bd_slI bd_slN)) rfl (t_52 e (by omega) x2 v1 h _ hc)) ?_
  refine rn_if_eq rfl rfl (fun hc => ?_) (fun hc => ?_)
  · exact u_135_24 (e + 1) hd v0 v1 v2  p3.2 _ (if_t hb hc)
  · exact u_135_14 (e + 1) hd v0 v1 v2  p3.2 _ (if_f hb hc)
/-- BitingDoors.door(II)I -/
def f_135 (v0 : Option Nat) (v1 : Int32) (v2 : Int32) (h : Hp) : Option (Option Int32 × Hp) := b_135_0 v0 v1 v2 h
theorem t_135 (d : Nat) (hd : 1 ≤ d) (v0 : Option Nat) (v1 : Int32) (v2 : Int32) (h : Hp) (r : Option Int32 × Hp) (hb : f_135 v0 v1 v2 h = some r) : Rn d 135 0 [some (va_rf v0), some (.int v1), some (.int v2)] [] h (some (va_thr r.1), r.2) := by
  unfold f_135 at hb
  exact u_135_0 d hd v0 v1 v2 h r hb
def b_136_24   (h : Hp) : Option (Int32 × Hp) :=
  some ((-1 : Int32), h)
theorem u_136_24 (d : Nat) (hd : 2 ≤ d) (v0 : Option Nat) (v1 : Int32) (v2 : Int32) (v3 : Int32) (v4 : Int32)  (h : Hp) (r : Int32 × Hp) (hb : b_136_24   h = some r) : Rn d 136 24 [some (va_rf v0), some (.int v1), some (.int v2), some (.int v3), some (.int v4)] [] h (some (.int r.1), r.2) := by
  unfold b_136_24 at hb
  refine rn_iconst (x := (-1 : Int32)) rfl (by decide) ?_
  obtain rfl := Option.some.inj hb
  exact rn_iret rfl rfl
def b_136_26 (v0 : Option Nat) (v1 : Int32) (v2 : Int32) (v3 : Int32) (v4 : Int32)  (h : Hp) : Option (Int32 × Hp) :=
  (gQ 10 1 v0 h).bind fun x1 =>
  (gQ 7 2 x1 h).bind fun x2 =>
  (gQ 4 1 x2 h).bind fun x3 =>
  (aQ x3 v1 h).bind fun x4 =>
  (grd (rC 1 x4 h)).bind fun _ =>
  (f_16 x4 v2 v3 v4 h).bind fun p5 =>
  some (p5.1, p5.2)
theorem u_136_26 (d : Nat) (hd : 2 ≤ d) (v0 : Option Nat) (v1 : Int32) (v2 : Int32) (v3 : Int32) (v4 : Int32)  (h : Hp) (r : Int32 × Hp) (hb : b_136_26 v0 v1 v2 v3 v4  h = some r) : Rn d 136 26 [some (va_rf v0), some (.int v1), some (.int v2), some (.int v3), some (.int v4)] [] h (some (.int r.1), r.2) := by
  unfold b_136_26 at hb
  obtain ⟨e, rfl⟩ : ∃ e, d = e + 1 := ⟨d - 1, by omega⟩
  refine rn_aload_n (i := 0) rfl rfl ?_
  refine rn_gQ (c := 10) (k := 1) rfl (by decide) hb (fun x1 hb => ?_)
  refine rn_gQ (c := 7) (k := 2) rfl (by decide) hb (fun x2 hb => ?_)
  refine rn_gQ (c := 4) (k := 1) rfl (by decide) hb (fun x3 hb => ?_)
  refine rn_iload_n (i := 1) rfl rfl ?_
  refine rn_aQ rfl hb (fun x4 hb => ?_)
  refine rn_iload_n (i := 2) rfl rfl ?_
  refine rn_iload_n (i := 3) rfl rfl ?_
  refine rn_iload (i := 4) rfl rfl ?_
  obtain ⟨hrc, hb⟩ := grd_spec hb
  obtain ⟨p5, hc, hb⟩ := Option.bind_eq_some_iff.mp hb
  refine Rn.call1 (d := e) (As := [va_rf x4, .int v2, .int v3, .int v4]) (rest := []) rfl rfl rfl (by decide) rfl rfl rfl (bd_rcV hrc rfl) (by decide) (bd_lenC (n := 6) rfl (bd_slR (bd_slI (bd_slI (bd_slI bd_slN)))) rfl) (bd_locC (n := 6) rfl (bd_slR (bd_slI (bd_slI (bd_slI bd_slN)))) rfl (t_16 e (by omega) x4 v2 v3 v4 h _ hc)) ?_
  obtain rfl := Option.some.inj hb
  exact rn_iret rfl rfl
def b_136_19 (v0 : Option Nat) (v1 : Int32) (v2 : Int32) (v3 : Int32) (v4 : Int32)  (h : Hp) : Option (Int32 × Hp) :=
  if v3 < (nI 3) then b_136_26 v0 v1 v2 v3 v4  h else b_136_24   h
theorem u_136_19 (d : Nat) (hd : 2 ≤ d) (v0 : Option Nat) (v1 : Int32) (v2 : Int32) (v3 : Int32) (v4 : Int32)  (h : Hp) (r : Int32 × Hp) (hb : b_136_19 v0 v1 v2 v3 v4  h = some r) : Rn d 136 19 [some (va_rf v0), some (.int v1), some (.int v2), some (.int v3), some (.int v4)] [] h (some (.int r.1), r.2) := by
  unfold b_136_19 at hb
  refine rn_iload_n (i := 3) rfl rfl ?_
  refine rn_iconst (x := (nI 3)) rfl (by decide) ?_
  refine rn_icmp_lt rfl rfl (fun hc => ?_) (fun hc => ?_)
  · exact u_136_26 d hd v0 v1 v2 v3 v4  h _ (if_t hb hc)
  · exact u_136_24 d hd v0 v1 v2 v3 v4  h _ (if_f hb hc)
def b_136_15 (v0 : Option Nat) (v1 : Int32) (v2 : Int32) (v3 : Int32) (v4 : Int32)  (h : Hp) : Option (Int32 × Hp) :=
  if v3 < 0 then b_136_24   h else b_136_19 v0 v1 v2 v3 v4  h
theorem u_136_15 (d : Nat) (hd : 2 ≤ d) (v0 : Option Nat) (v1 : Int32) (v2 : Int32) (v3 : Int32) (v4 : Int32)  (h : Hp) (r : Int32 × Hp) (hb : b_136_15 v0 v1 v2 v3 v4  h = some r) : Rn d 136 15 [some (va_rf v0), some (.int v1), some (.int v2), some (.int v3), some (.int v4)] [] h (some (.int r.1), r.2) := by
  unfold b_136_15 at hb
  refine rn_iload_n (i := 3) rfl rfl ?_
  refine rn_if_lt rfl rfl (fun hc => ?_) (fun hc => ?_)
  · exact u_136_24 d hd v0 v1 v2 v3 v4  h _ (if_t hb hc)
  · exact u_136_19 d hd v0 v1 v2 v3 v4  h _ (if_f hb hc)
def b_136_0 (v0 : Option Nat) (v1 : Int32) (v2 : Int32) (v3 : Int32) (v4 : Int32)  (h : Hp) : Option (Int32 × Hp) :=
  (gQ 10 1 v0 h).bind fun x1 =>
  (gQ 7 2 x1 h).bind fun x2 =>
  (grd (rC 4 x2 h)).bind fun _ =>
  (f_53 x2 v1 v2 h).bind fun p3 =>
  if p3.1 = 0 then b_136_24   p3.2 else b_136_15 v0 v1 v2 v3 v4  p3.2
theorem u_136_0 (d : Nat) (hd : 2 ≤ d) (v0 : Option Nat) (v1 : Int32) (v2 : Int32) (v3 : Int32) (v4 : Int32)  (h : Hp) (r : Int32 × Hp) (hb : b_136_0 v0 v1 v2 v3 v4  h = some r) : Rn d 136 0 [some (va_rf v0), some (.int v1), some (.int v2), some (.int v3), some (.int v4)] [] h (some (.int r.1), r.2) := by
  unfold b_136_0 at hb
  obtain ⟨e, rfl⟩ : ∃ e, d = e + 1 := ⟨d - 1, by omega⟩
  refine rn_aload_n (i := 0) rfl rfl ?_
  refine rn_gQ (c := 10) (k := 1) rfl (by decide) hb (fun x1 hb => ?_)
  refine rn_gQ (c := 7) (k := 2) rfl (by decide) hb (fun x2 hb => ?_)
  refine rn_iload_n (i := 1) rfl rfl ?_
  refine rn_iload_n (i := 2) rfl rfl ?_
  obtain ⟨hrc, hb⟩ := grd_spec hb
  obtain ⟨p3, hc, hb⟩ := Option.bind_eq_some_iff.mp hb
  refine Rn.call1 (d := e) (As := [va_rf x2, .int v1, .int v2]) (rest := []) rfl rfl rfl (by decide) rfl rfl rfl (bd_rcV hrc rfl) (by decide) (bd_lenC (n := 3) rfl (bd_slR (bd_slI (bd_slI bd_slN))) rfl) (bd_locC (n := 3) rfl (bd_slR (bd_slI (bd_slI bd_slN))) rfl (t_53 e (by omega) x2 v1 v2 h _ hc)) ?_
  refine rn_if_eq rfl rfl (fun hc => ?_) (fun hc => ?_)
  · exact u_136_24 (e + 1) hd v0 v1 v2 v3 v4  p3.2 _ (if_t hb hc)
  · exact u_136_15 (e + 1) hd v0 v1 v2 v3 v4  p3.2 _ (if_f hb hc)
/-- BitingDoors.leaf(IIII)I -/
def f_136 (v0 : Option Nat) (v1 : Int32) (v2 : Int32) (v3 : Int32) (v4 : Int32) (h : Hp) : Option (Int32 × Hp) := b_136_0 v0 v1 v2 v3 v4 h
theorem t_136 (d : Nat) (hd : 2 ≤ d) (v0 : Option Nat) (v1 : Int32) (v2 : Int32) (v3 : Int32) (v4 : Int32) (h : Hp) (r : Int32 × Hp) (hb : f_136 v0 v1 v2 v3 v4 h = some r) : Rn d 136 0 [some (va_rf v0), some (.int v1), some (.int v2), some (.int v3), some (.int v4)] [] h (some (.int r.1), r.2) := by
  unfold f_136 at hb
  exact u_136_0 d hd v0 v1 v2 v3 v4 h r hb
def b_137_36  (s0 : Int32) (h : Hp) : Option (Int32 × Hp) :=
  some (s0, h)
theorem u_137_36 (d : Nat) (hd : 2 ≤ d) (v0 : Option Nat) (v1 : Int32) (v2 : Int32) (s0 : Int32) (h : Hp) (r : Int32 × Hp) (hb : b_137_36  s0 h = some r) : Rn d 137 36 [some (va_rf v0), some (.int v1), some (.int v2)] [.int s0] h (some (.int r.1), r.2) := by
  unfold b_137_36 at hb
  obtain rfl := Option.some.inj hb
  exact rn_iret rfl rfl
def b_137_35   (h : Hp) : Option (Int32 × Hp) :=
  b_137_36  (-1 : Int32) h
theorem u_137_35 (d : Nat) (hd : 2 ≤ d) (v0 : Option Nat) (v1 : Int32) (v2 : Int32)  (h : Hp) (r : Int32 × Hp) (hb : b_137_35   h = some r) : Rn d 137 35 [some (va_rf v0), some (.int v1), some (.int v2)] [] h (some (.int r.1), r.2) := by
  unfold b_137_35 at hb
  refine rn_iconst (x := (-1 : Int32)) rfl (by decide) ?_
  exact u_137_36 d hd v0 v1 v2 (-1 : Int32) h _ hb
def b_137_15 (v0 : Option Nat) (v1 : Int32) (v2 : Int32)  (h : Hp) : Option (Int32 × Hp) :=
  (gQ 10 1 v0 h).bind fun x1 =>
  (gQ 7 2 x1 h).bind fun x2 =>
  (gQ 4 1 x2 h).bind fun x3 =>
  (aQ x3 v1 h).bind fun x4 =>
  (gQ 1 4 x4 h).bind fun x5 =>
  (aI 12 x5 v2 h).bind fun x6 =>
  b_137_36  x6 h
theorem u_137_15 (d : Nat) (hd : 2 ≤ d) (v0 : Option Nat) (v1 : Int32) (v2 : Int32)  (h : Hp) (r : Int32 × Hp) (hb : b_137_15 v0 v1 v2  h = some r) : Rn d 137 15 [some (va_rf v0), some (.int v1), some (.int v2)] [] h (some (.int r.1), r.2) := by
  unfold b_137_15 at hb
  refine rn_aload_n (i := 0) rfl rfl ?_
  refine rn_gQ (c := 10) (k := 1) rfl (by decide) hb (fun x1 hb => ?_)
  refine rn_gQ (c := 7) (k := 2) rfl (by decide) hb (fun x2 hb => ?_)
  refine rn_gQ (c := 4) (k := 1) rfl (by decide) hb (fun x3 hb => ?_)
  refine rn_iload_n (i := 1) rfl rfl ?_
  refine rn_aQ rfl hb (fun x4 hb => ?_)
  refine rn_gQ (c := 1) (k := 4) rfl (by decide) hb (fun x5 hb => ?_)
  refine rn_iload_n (i := 2) rfl rfl ?_
  refine rn_aI rfl hb (fun x6 hb => ?_)
  refine rn_goto rfl rfl ?_
  exact u_137_36 d hd v0 v1 v2 x6 h _ hb
def b_137_0 (v0 : Option Nat) (v1 : Int32) (v2 : Int32)  (h : Hp) : Option (Int32 × Hp) :=
  (gQ 10 1 v0 h).bind fun x1 =>
  (gQ 7 2 x1 h).bind fun x2 =>
  (grd (rC 4 x2 h)).bind fun _ =>
  (f_53 x2 v1 v2 h).bind fun p3 =>
  if p3.1 = 0 then b_137_35   p3.2 else b_137_15 v0 v1 v2  p3.2
theorem u_137_0 (d : Nat) (hd : 2 ≤ d) (v0 : Option Nat) (v1 : Int32) (v2 : Int32)  (h : Hp) (r : Int32 × Hp) (hb : b_137_0 v0 v1 v2  h = some r) : Rn d 137 0 [some (va_rf v0), some (.int v1), some (.int v2)] [] h (some (.int r.1), r.2) := by
  unfold b_137_0 at hb
  obtain ⟨e, rfl⟩ : ∃ e, d = e + 1 := ⟨d - 1, by omega⟩
  refine rn_aload_n (i := 0) rfl rfl ?_
  refine rn_gQ (c := 10) (k := 1) rfl (by decide) hb (fun x1 hb => ?_)
  refine rn_gQ (c := 7) (k := 2) rfl (by decide) hb (fun x2 hb => ?_)
  refine rn_iload_n (i := 1) rfl rfl ?_
  refine rn_iload_n (i := 2) rfl rfl ?_
  obtain ⟨hrc, hb⟩ := grd_spec hb
  obtain ⟨p3, hc, hb⟩ := Option.bind_eq_some_iff.mp hb
  refine Rn.call1 (d := e) (As := [va_rf x2, .int v1, .int v2]) (rest := []) rfl rfl rfl (by decide) rfl rfl rfl (bd_rcV hrc rfl) (by decide) (bd_lenC (n := 3) rfl (bd_slR (bd_slI (bd_slI bd_slN))) rfl) (bd_locC (n := 3) rfl (bd_slR (bd_slI (bd_slI bd_slN))) rfl (t_53 e (by omega) x2 v1 v2 h _ hc)) ?_
  refine rn_if_eq rfl rfl (fun hc => ?_) (fun hc => ?_)
  · exact u_137_35 (e + 1) hd v0 v1 v2  p3.2 _ (if_t hb hc)
  · exact u_137_15 (e + 1) hd v0 v1 v2  p3.2 _ (if_f hb hc)
/-- BitingDoors.can(II)I -/
def f_137 (v0 : Option Nat) (v1 : Int32) (v2 : Int32) (h : Hp) : Option (Int32 × Hp) := b_137_0 v0 v1 v2 h
theorem t_137 (d : Nat) (hd : 2 ≤ d) (v0 : Option Nat) (v1 : Int32) (v2 : Int32) (h : Hp) (r : Int32 × Hp) (hb : f_137 v0 v1 v2 h = some r) : Rn d 137 0 [some (va_rf v0), some (.int v1), some (.int v2)] [] h (some (.int r.1), r.2) := by
  unfold f_137 at hb
  exact u_137_0 d hd v0 v1 v2 h r hb
def b_138_41  (s0 : Int32) (h : Hp) : Option (Int32 × Hp) :=
  some (s0, h)
theorem u_138_41 (d : Nat) (hd : 2 ≤ d) (v0 : Option Nat) (v1 : Int32) (v2 : Int32) (s0 : Int32) (h : Hp) (r : Int32 × Hp) (hb : b_138_41  s0 h = some r) : Rn d 138 41 [some (va_rf v0), some (.int v1), some (.int v2)] [.int s0] h (some (.int r.1), r.2) := by
  unfold b_138_41 at hb
  obtain rfl := Option.some.inj hb
  exact rn_iret rfl rfl
def b_138_40   (h : Hp) : Option (Int32 × Hp) :=
  b_138_41  (nI 0) h
theorem u_138_40 (d : Nat) (hd : 2 ≤ d) (v0 : Option Nat) (v1 : Int32) (v2 : Int32)  (h : Hp) (r : Int32 × Hp) (hb : b_138_40   h = some r) : Rn d 138 40 [some (va_rf v0), some (.int v1), some (.int v2)] [] h (some (.int r.1), r.2) := by
  unfold b_138_40 at hb
  refine rn_iconst (x := (nI 0)) rfl (by decide) ?_
  exact u_138_41 d hd v0 v1 v2 (nI 0) h _ hb
def b_138_36   (h : Hp) : Option (Int32 × Hp) :=
  b_138_41  (nI 1) h
theorem u_138_36 (d : Nat) (hd : 2 ≤ d) (v0 : Option Nat) (v1 : Int32) (v2 : Int32)  (h : Hp) (r : Int32 × Hp) (hb : b_138_36   h = some r) : Rn d 138 36 [some (va_rf v0), some (.int v1), some (.int v2)] [] h (some (.int r.1), r.2) := by
  unfold b_138_36 at hb
  refine rn_iconst (x := (nI 1)) rfl (by decide) ?_
  refine rn_goto rfl rfl ?_
  exact u_138_41 d hd v0 v1 v2 (nI 1) h _ hb
def b_138_17 (v0 : Option Nat) (v1 : Int32) (v2 : Int32)  (h : Hp) : Option (Int32 × Hp) :=
  (gQ 10 1 v0 h).bind fun x1 =>
  (gQ 7 2 x1 h).bind fun x2 =>
  (gQ 4 1 x2 h).bind fun x3 =>
  (aQ x3 v1 h).bind fun x4 =>
  (grd (rC 1 x4 h)).bind fun _ =>
  (f_9 x4 v2 h).bind fun p5 =>
  if p5.1 = 0 then b_138_40   p5.2 else b_138_36   p5.2
theorem u_138_17 (d : Nat) (hd : 2 ≤ d) (v0 : Option Nat) (v1 : Int32) (v2 : Int32)  (h : Hp) (r : Int32 × Hp) (hb : b_138_17 v0 v1 v2  h = some r) : Rn d 138 17 [some (va_rf v0), some (.int v1), some (.int v2)] [] h (some (.int r.1), r.2) := by
  unfold b_138_17 at hb
  obtain ⟨e, rfl⟩ : ∃ e, d = e + 1 := ⟨d - 1, by omega⟩
  refine rn_aload_n (i := 0) rfl rfl ?_
  refine rn_gQ (c := 10) (k := 1) rfl (by decide) hb (fun x1 hb => ?_)
  refine rn_gQ (c := 7) (k := 2) rfl (by decide) hb (fun x2 hb => ?_)
  refine rn_gQ (c := 4) (k := 1) rfl (by decide) hb (fun x3 hb => ?_)
  refine rn_iload_n (i := 1) rfl rfl ?_
  refine rn_aQ rfl hb (fun x4 hb => ?_)
  refine rn_iload_n (i := 2) rfl rfl ?_
  obtain ⟨hrc, hb⟩ := grd_spec hb
  obtain ⟨p5, hc, hb⟩ := Option.bind_eq_some_iff.mp hb
  refine Rn.call1 (d := e) (As := [va_rf x4, .int v2]) (rest := []) rfl rfl rfl (by decide) rfl rfl rfl (bd_rcV hrc rfl) (by decide) (bd_lenC (n := 3) rfl (bd_slR (bd_slI bd_slN)) rfl) (bd_locC (n := 3) rfl (bd_slR (bd_slI bd_slN)) rfl (t_9 e (by omega) x4 v2 h _ hc)) ?_
  refine rn_if_eq rfl rfl (fun hc => ?_) (fun hc => ?_)
  · exact u_138_40 (e + 1) hd v0 v1 v2  p5.2 _ (if_t hb hc)
  · exact u_138_36 (e + 1) hd v0 v1 v2  p5.2 _ (if_f hb hc)
def b_138_15   (h : Hp) : Option (Int32 × Hp) :=
  some ((-1 : Int32), h)
theorem u_138_15 (d : Nat) (hd : 2 ≤ d) (v0 : Option Nat) (v1 : Int32) (v2 : Int32)  (h : Hp) (r : Int32 × Hp) (hb : b_138_15   h = some r) : Rn d 138 15 [some (va_rf v0), some (.int v1), some (.int v2)] [] h (some (.int r.1), r.2) := by
  unfold b_138_15 at hb
  refine rn_iconst (x := (-1 : Int32)) rfl (by decide) ?_
  obtain rfl := Option.some.inj hb
  exact rn_iret rfl rfl
def b_138_0 (v0 : Option Nat) (v1 : Int32) (v2 : Int32)  (h : Hp) : Option (Int32 × Hp) :=
  (gQ 10 1 v0 h).bind fun x1 =>
  (gQ 7 2 x1 h).bind fun x2 =>
  (grd (rC 4 x2 h)).bind fun _ =>
  (f_53 x2 v1 v2 h).bind fun p3 =>
  if ¬ p3.1 = 0 then b_138_17 v0 v1 v2  p3.2 else b_138_15   p3.2
theorem u_138_0 (d : Nat) (hd : 2 ≤ d) (v0 : Option Nat) (v1 : Int32) (v2 : Int32)  (h : Hp) (r : Int32 × Hp) (hb : b_138_0 v0 v1 v2  h = some r) : Rn d 138 0 [some (va_rf v0), some (.int v1), some (.int v2)] [] h (some (.int r.1), r.2) := by
  unfold b_138_0 at hb
  obtain ⟨e, rfl⟩ : ∃ e, d = e + 1 := ⟨d - 1, by omega⟩
  refine rn_aload_n (i := 0) rfl rfl ?_
  refine rn_gQ (c := 10) (k := 1) rfl (by decide) hb (fun x1 hb => ?_)
  refine rn_gQ (c := 7) (k := 2) rfl (by decide) hb (fun x2 hb => ?_)
  refine rn_iload_n (i := 1) rfl rfl ?_
  refine rn_iload_n (i := 2) rfl rfl ?_
  obtain ⟨hrc, hb⟩ := grd_spec hb
  obtain ⟨p3, hc, hb⟩ := Option.bind_eq_some_iff.mp hb
  refine Rn.call1 (d := e) (As := [va_rf x2, .int v1, .int v2]) (rest := []) rfl rfl rfl (by decide) rfl rfl rfl (bd_rcV hrc rfl) (by decide) (bd_lenC (n := 3) rfl (bd_slR (bd_slI (bd_slI bd_slN))) rfl) (bd_locC (n := 3) rfl (bd_slR (bd_slI (bd_slI bd_slN))) rfl (t_53 e (by omega) x2 v1 v2 h _ hc)) ?_
  refine rn_if_ne rfl rfl (fun hc => ?_) (fun hc => ?_)
  · exact u_138_17 (e + 1) hd v0 v1 v2  p3.2 _ (if_t hb hc)
  · exact u_138_15 (e + 1) hd v0 v1 v2  p3.2 _ (if_f hb hc)
/-- BitingDoors.fit(II)I -/
def f_138 (v0 : Option Nat) (v1 : Int32) (v2 : Int32) (h : Hp) : Option (Int32 × Hp) := b_138_0 v0 v1 v2 h
theorem t_138 (d : Nat) (hd : 2 ≤ d) (v0 : Option Nat) (v1 : Int32) (v2 : Int32) (h : Hp) (r : Int32 × Hp) (hb : f_138 v0 v1 v2 h = some r) : Rn d 138 0 [some (va_rf v0), some (.int v1), some (.int v2)] [] h (some (.int r.1), r.2) := by
  unfold f_138 at hb
  exact u_138_0 d hd v0 v1 v2 h r hb
def b_139_36   (h : Hp) : Option (Int32 × Hp) :=
  some ((-1 : Int32), h)
theorem u_139_36 (d : Nat) (hd : 2 ≤ d) (v0 : Option Nat) (v1 : Int32) (v2 : Int32) (v3 : Int32) (v4 : Int32)  (h : Hp) (r : Int32 × Hp) (hb : b_139_36   h = some r) : Rn d 139 36 [some (va_rf v0), some (.int v1), some (.int v2), some (.int v3), some (.int v4)] [] h (some (.int r.1), r.2) := by
  unfold b_139_36 at hb
  refine rn_iconst (x := (-1 : Int32)) rfl (by decide) ?_
  obtain rfl := Option.some.inj hb
  exact rn_iret rfl rfl
def b_139_38 (v0 : Option Nat) (v1 : Int32) (v2 : Int32) (v3 : Int32) (v4 : Int32)  (h : Hp) : Option (Int32 × Hp) :=
  (gQ 10 1 v0 h).bind fun x1 =>
  (gQ 7 2 x1 h).bind fun x2 =>
  (gQ 4 1 x2 h).bind fun x3 =>
  (aQ x3 v1 h).bind fun x4 =>
  (gQ 10 1 v0 h).bind fun x5 =>
  (gQ 7 2 x5 h).bind fun x6 =>
  (gQ 4 1 x6 h).bind fun x7 =>
  (aQ x7 v3 h).bind fun x8 =>
  (grd (rC 1 x4 h)).bind fun _ =>
  (f_14 x4 v2 x8 v4 h).bind fun p9 =>
  some (p9.1, p9.2)
theorem u_139_38 (d : Nat) (hd : 2 ≤ d) (v0 : Option Nat) (v1 : Int32) (v2 : Int32) (v3 : Int32) (v4 : Int32)  (h : Hp) (r : Int32 × Hp) (hb : b_139_38 v0 v1 v2 v3 v4  h = some r) : Rn d 139 38 [some (va_rf v0), some (.int v1), some (.int v2), some (.int v3), some (.int v4)] [] h (some (.int r.1), r.2) := by
  unfold b_139_38 at hb
  obtain ⟨e, rfl⟩ : ∃ e, d = e + 1 := ⟨d - 1, by omega⟩
  refine rn_aload_n (i := 0) rfl rfl ?_
  refine rn_gQ (c := 10) (k := 1) rfl (by decide) hb (fun x1 hb => ?_)
  refine rn_gQ (c := 7) (k := 2) rfl (by decide) hb (fun x2 hb => ?_)
  refine rn_gQ (c := 4) (k := 1) rfl (by decide) hb (fun x3 hb => ?_)
  refine rn_iload_n (i := 1) rfl rfl ?_
  refine rn_aQ rfl hb (fun x4 hb => ?_)
  refine rn_iload_n (i := 2) rfl rfl ?_
  refine rn_aload_n (i := 0) rfl rfl ?_
  refine rn_gQ (c := 10) (k := 1) rfl (by decide) hb (fun x5 hb => ?_)
  refine rn_gQ (c := 7) (k := 2) rfl (by decide) hb (fun x6 hb => ?_)
  refine rn_gQ (c := 4) (k := 1) rfl (by decide) hb (fun x7 hb => ?_)
  refine rn_iload_n (i := 3) rfl rfl ?_
  refine rn_aQ rfl hb (fun x8 hb => ?_)
  refine rn_iload (i := 4) rfl rfl ?_
  obtain ⟨hrc, hb⟩ := grd_spec hb
  obtain ⟨p9, hc, hb⟩ := Option.bind_eq_some_iff.mp hb
  refine Rn.call1 (d := e) (As := [va_rf x4, .int v2, va_rf x8, .int v4]) (rest := []) rfl rfl rfl (by decide) rfl rfl rfl (bd_rcV hrc rfl) (by decide) (bd_lenC (n := 4) rfl (bd_slR (bd_slI (bd_slR (bd_slI bd_slN)))) rfl) (bd_locC (n := 4) rfl (bd_slR (bd_slI (bd_slR (bd_slI bd_slN)))) rfl (t_14 e (by omega) x4 v2 x8 v4 h _ hc)) ?_
  obtain rfl := Option.some.inj hb
  exact rn_iret rfl rfl
def b_139_20 (v0 : Option Nat) (v1 : Int32) (v2 : Int32) (v3 : Int32) (v4 : Int32)  (h : Hp) : Option (Int32 × Hp) :=
  (gQ 10 1 v0 h).bind fun x1 =>
  (gQ 7 2 x1 h).bind fun x2 =>
  (grd (rC 4 x2 h)).bind fun _ =>
  (f_53 x2 v3 v4 h).bind fun p3 =>
  if ¬ p3.1 = 0 then b_139_38 v0 v1 v2 v3 v4  p3.2 else b_139_36   p3.2
theorem u_139_20 (d : Nat) (hd : 2 ≤ d) (v0 : Option Nat) (v1 : Int32) (v2 : Int32) (v3 : Int32) (v4 : Int32)  (h : Hp) (r : Int32 × Hp) (hb : b_139_20 v0 v1 v2 v3 v4  h = some r) : Rn d 139 20 [some (va_rf v0), some (.int v1), some (.int v2), some (.int v3), some (.int v4)] [] h (some (.int r.1), r.2) := by
  unfold b_139_20 at hb
  obtain ⟨e, rfl⟩ : ∃ e, d = e + 1 := ⟨d - 1, by omega⟩
  refine rn_aload_n (i := 0) rfl rfl ?_
  refine rn_gQ (c := 10) (k := 1) rfl (by decide) hb (fun x1 hb => ?_)
  refine rn_gQ (c := 7) (k := 2) rfl (by decide) hb (fun x2 hb => ?_)
  refine rn_iload_n (i := 3) rfl rfl ?_
  refine rn_iload (i := 4) rfl rfl ?_
  obtain ⟨hrc, hb⟩ := grd_spec hb
  obtain ⟨p3, hc, hb⟩ := Option.bind_eq_some_iff.mp hb
  refine Rn.call1 (d := e) (As := [va_rf x2, .int v3, .int v4]) (rest := []) rfl rfl rfl (by decide) rfl rfl rfl (bd_rcV hrc rfl) (by decide) (bd_lenC (n := 3) rfl (bd_slR (bd_slI (bd_slI bd_slN))) rfl) (bd_locC (n := 3) rfl (bd_slR (bd_slI (bd_slI bd_slN))) rfl (t_53 e (by omega) x2 v3 v4 h _ hc)) ?_
  refine rn_if_ne rfl rfl (fun hc => ?_) (fun hc => ?_)
  · exact u_139_38 (e + 1) hd v0 v1 v2 v3 v4  p3.2 _ (if_t hb hc)
  · exact u_139_36 (e + 1) hd v0 v1 v2 v3 v4  p3.2 _ (if_f hb hc)
def b_139_5 (v0 : Option Nat) (v1 : Int32) (v2 : Int32) (v3 : Int32) (v4 : Int32)  (h : Hp) : Option (Int32 × Hp) :=
  (gQ 10 1 v0 h).bind fun x1 =>
  (gQ 7 2 x1 h).bind fun x2 =>
  (grd (rC 4 x2 h)).bind fun _ =>
  (f_53 x2 v1 v2 h).bind fun p3 =>
  if p3.1 = 0 then b_139_36   p3.2 else b_139_20 v0 v1 v2 v3 v4  p3.2
theorem u_139_5 (d : Nat) (hd : 2 ≤ d) (v0 : Option Nat) (v1 : Int32) (v2 : Int32) (v3 : Int32) (v4 : Int32)  (h : Hp) (r : Int32 × Hp) (hb : b_139_5 v0 v1 v2 v3 v4  h = some r) : Rn d 139 5 [some (va_rf v0), some (.int v1), some (.int v2), some (.int v3), some (.int v4)] [] h (some (.int r.1), r.2) := by
  unfold b_139_5 at hb
  obtain ⟨e, rfl⟩ : ∃ e, d = e + 1 := ⟨d - 1, by omega⟩
  refine rn_aload_n (i := 0) rfl rfl ?_
  refine rn_gQ (c := 10) (k := 1) rfl (by decide) hb (fun x1 hb => ?_)
  refine rn_gQ (c := 7) (k := 2) rfl (by decide) hb (fun x2 hb => ?_)
  refine rn_iload_n (i := 1) rfl rfl ?_
  refine rn_iload_n (i := 2) rfl rfl ?_
  obtain ⟨hrc, hb⟩ := grd_spec hb
  obtain ⟨p3, hc, hb⟩ := Option.bind_eq_some_iff.mp hb
  refine Rn.call1 (d := e) (As := [va_rf x2, .int v1, .int v2]) (rest := []) rfl rfl rfl (by decide) rfl rfl rfl (bd_rcV hrc rfl) (by decide) (bd_lenC (n := 3) rfl (bd_slR (bd_slI (bd_slI bd_slN))) rfl) (bd_locC (n := 3) rfl (bd_slR (bd_slI (bd_slI bd_slN))) rfl (t_53 e (by omega) x2 v1 v2 h _ hc)) ?_
  refine rn_if_eq rfl rfl (fun hc => ?_) (fun hc => ?_)
  · exact u_139_36 (e + 1) hd v0 v1 v2 v3 v4  p3.2 _ (if_t hb hc)
  · exact u_139_20 (e + 1) hd v0 v1 v2 v3 v4  p3.2 _ (if_f hb hc)
def b_139_0 (v0 : Option Nat) (v1 : Int32) (v2 : Int32) (v3 : Int32) (v4 : Int32)  (h : Hp) : Option (Int32 × Hp) :=
  if v1 = v3 then b_139_36   h else b_139_5 v0 v1 v2 v3 v4  h
theorem u_139_0 (d : Nat) (hd : 2 ≤ d) (v0 : Option Nat) (v1 : Int32) (v2 : Int32) (v3 : Int32) (v4 : Int32)  (h : Hp) (r : Int32 × Hp) (hb : b_139_0 v0 v1 v2 v3 v4  h = some r) : Rn d 139 0 [some (va_rf v0), some (.int v1), some (.int v2), some (.int v3), some (.int v4)] [] h (some (.int r.1), r.2) := by
  unfold b_139_0 at hb
  refine rn_iload_n (i := 1) rfl rfl ?_
  refine rn_iload_n (i := 3) rfl rfl ?_
  refine rn_icmp_eq rfl rfl (fun hc => ?_) (fun hc => ?_)
  · exact u_139_36 d hd v0 v1 v2 v3 v4  h _ (if_t hb hc)
  · exact u_139_5 d hd v0 v1 v2 v3 v4  h _ (if_f hb hc)
/-- BitingDoors.bites(IIII)I -/
def f_139 (v0 : Option Nat) (v1 : Int32) (v2 : Int32) (v3 : Int32) (v4 : Int32) (h : Hp) : Option (Int32 × Hp) := b_139_0 v0 v1 v2 v3 v4 h
theorem t_139 (d : Nat) (hd : 2 ≤ d) (v0 : Option Nat) (v1 : Int32) (v2 : Int32) (v3 : Int32) (v4 : Int32) (h : Hp) (r : Int32 × Hp) (hb : f_139 v0 v1 v2 v3 v4 h = some r) : Rn d 139 0 [some (va_rf v0), some (.int v1), some (.int v2), some (.int v3), some (.int v4)] [] h (some (.int r.1), r.2) := by
  unfold f_139 at hb
  exact u_139_0 d hd v0 v1 v2 v3 v4 h r hb
def b_140_0 (v0 : Option Nat)  (h : Hp) : Option (Int32 × Hp) :=
  (gQ 10 3 v0 h).bind fun x1 =>
  (gQ 10 1 v0 h).bind fun x2 =>
  (grd (rC 3 x1 h)).bind fun _ =>
  (f_27 x1 x2 h).bind fun p3 =>
  (gQ 10 3 v0 p3).bind fun x4 =>
  (gQ 10 1 v0 p3).bind fun x5 =>
  (gQ 7 0 x5 p3).bind fun x6 =>
  (grd (rC 3 x4 p3)).bind fun _ =>
  (f_43 x4 x6 p3).bind fun p7 =>
  some (p7.1, p7.2)
theorem u_140_0 (d : Nat) (hd : 4 ≤ d) (v0 : Option Nat)  (h : Hp) (r : Int32 × Hp) (hb : b_140_0 v0  h = some r) : Rn d 140 0 [some (va_rf v0)] [] h (some (.int r.1), r.2) := by
  unfold b_140_0 at hb
  obtain ⟨e, rfl⟩ : ∃ e, d = e + 1 := ⟨d - 1, by omega⟩
  refine rn_aload_n (i := 0) rfl rfl ?_
  refine rn_gQ (c := 10) (k := 3) rfl (by decide) hb (fun x1 hb => ?_)
  refine rn_aload_n (i := 0) rfl rfl ?_
  refine rn_gQ (c := 10) (k := 1) rfl (by decide) hb (fun x2 hb => ?_)
  obtain ⟨hrc, hb⟩ := grd_spec hb
  obtain ⟨p3, hc, hb⟩ := Option.bind_eq_some_iff.mp hb
  refine Rn.call0 (d := e) (As := [va_rf x1, va_rf x2]) (rest := []) rfl rfl rfl (by decide) rfl rfl rfl (bd_rcV hrc rfl) (by decide) (bd_lenC (n := 4) rfl (bd_slR (bd_slR bd_slN)) rfl) (bd_locC (n := 4) rfl (bd_slR (bd_slR bd_slN)) rfl (t_27 e (by omega) x1 x2 h _ hc)) ?_
  refine rn_aload_n (i := 0) rfl rfl ?_
  refine rn_gQ (c := 10) (k := 3) rfl (by decide) hb (fun x4 hb => ?_)
  refine rn_aload_n (i := 0) rfl rfl ?_
  refine rn_gQ (c := 10) (k := 1) rfl (by decide) hb (fun x5 hb => ?_)
  refine rn_gQ (c := 7) (k := 0) rfl (by decide) hb (fun x6 hb => ?_)
  obtain ⟨hrc, hb⟩ := grd_spec hb
  obtain ⟨p7, hc, hb⟩ := Option.bind_eq_some_iff.mp hb
  refine Rn.call1 (d := e) (As := [va_rf x4, va_rf x6]) (rest := []) rfl rfl rfl (by decide) rfl rfl rfl (bd_rcV hrc rfl) (by decide) (bd_lenC (n := 5) rfl (bd_slR (bd_slR bd_slN)) rfl) (bd_locC (n := 5) rfl (bd_slR (bd_slR bd_slN)) rfl (t_43 e (by omega) x4 x6 p3 _ hc)) ?_
  obtain rfl := Option.some.inj hb
  exact rn_iret rfl rfl
/-- BitingDoors.clashes()I -/
def f_140 (v0 : Option Nat) (h : Hp) : Option (Int32 × Hp) := b_140_0 v0 h
theorem t_140 (d : Nat) (hd : 4 ≤ d) (v0 : Option Nat) (h : Hp) (r : Int32 × Hp) (hb : f_140 v0 h = some r) : Rn d 140 0 [some (va_rf v0)] [] h (some (.int r.1), r.2) := by
  unfold f_140 at hb
  exact u_140_0 d hd v0 h r hb
def b_141_35  (s0 : Int32) (h : Hp) : Option (Int32 × Hp) :=
  some (s0, h)
theorem u_141_35 (d : Nat) (hd : 70 ≤ d) (v0 : Option Nat) (s0 : Int32) (h : Hp) (r : Int32 × Hp) (hb : b_141_35  s0 h = some r) : Rn d 141 35 [some (va_rf v0)] [.int s0] h (some (.int r.1), r.2) := by
  unfold b_141_35 at hb
  obtain rfl := Option.some.inj hb
  exact rn_iret rfl rfl
def b_141_34   (h : Hp) : Option (Int32 × Hp) :=
  b_141_35  (-1 : Int32) h
theorem u_141_34 (d : Nat) (hd : 70 ≤ d) (v0 : Option Nat)  (h : Hp) (r : Int32 × Hp) (hb : b_141_34   h = some r) : Rn d 141 34 [some (va_rf v0)] [] h (some (.int r.1), r.2) := by
  unfold b_141_34 at hb
  refine rn_iconst (x := (-1 : Int32)) rfl (by decide) ?_
  exact u_141_35 d hd v0 (-1 : Int32) h _ hb
def b_141_21 (v0 : Option Nat)  (h : Hp) : Option (Int32 × Hp) :=
  (gQ 10 3 v0 h).bind fun x1 =>
  (gI 3 5 x1 h).bind fun x2 =>
  (grd (decide (¬ ((nI 16) : Int32) = 0))).bind fun _ =>
  b_141_35  (x2 / (nI 16)) h
theorem u_141_21 (d : Nat) (hd : 70 ≤ d) (v0 : Option Nat)  (h : Hp) (r : Int32 × Hp) (hb : b_141_21 v0  h = some r) : Rn d 141 21 [some (va_rf v0)] [] h (some (.int r.1), r.2) := by
  unfold b_141_21 at hb
  refine rn_aload_n (i := 0) rfl rfl ?_
  refine rn_gQ (c := 10) (k := 3) rfl (by decide) hb (fun x1 hb => ?_)
  refine rn_gI (c := 3) (k := 5) rfl (by decide) hb (fun x2 hb => ?_)
  refine rn_bipush (x := (nI 16)) rfl (by decide) ?_
  obtain ⟨hy, hb⟩ := grd_spec hb
  refine rn_idiv rfl (of_decide_eq_true hy) ?_
  refine rn_goto rfl rfl ?_
  exact u_141_35 d hd v0 (x2 / (nI 16)) h _ hb
def b_141_0 (v0 : Option Nat)  (h : Hp) : Option (Int32 × Hp) :=
  (gQ 10 3 v0 h).bind fun x1 =>
  (gQ 10 1 v0 h).bind fun x2 =>
  (grd (rC 3 x1 h)).bind fun _ =>
  (f_27 x1 x2 h).bind fun p3 =>
  (gQ 10 3 v0 p3).bind fun x4 =>
  (grd (rC 3 x4 p3)).bind fun _ =>
  (f_34 x4 p3).bind fun p5 =>
  if p5.1 = 0 then b_141_34   p5.2 else b_141_21 v0  p5.2
theorem u_141_0 (d : Nat) (hd : 70 ≤ d) (v0 : Option Nat)  (h : Hp) (r : Int32 × Hp) (hb : b_141_0 v0  h = some r) : Rn d 141 0 [some (va_rf v0)] [] h (some (.int r.1), r.2) := by
  unfold b_141_0 at hb
  obtain ⟨e, rfl⟩ : ∃ e, d = e + 1 := ⟨d - 1, by omega⟩
  refine rn_aload_n (i := 0) rfl rfl ?_
  refine rn_gQ (c := 10) (k := 3) rfl (by decide) hb (fun x1 hb => ?_)
  refine rn_aload_n (i := 0) rfl rfl ?_
  refine rn_gQ (c := 10) (k := 1) rfl (by decide) hb (fun x2 hb => ?_)
  obtain ⟨hrc, hb⟩ := grd_spec hb
  obtain ⟨p3, hc, hb⟩ := Option.bind_eq_some_iff.mp hb
  refine Rn.call0 (d := e) (As := [va_rf x1, va_rf x2]) (rest := []) rfl rfl rfl (by decide) rfl rfl rfl (bd_rcV hrc rfl) (by decide) (bd_lenC (n := 4) rfl (bd_slR (bd_slR bd_slN)) rfl) (bd_locC (n := 4) rfl (bd_slR (bd_slR bd_slN)) rfl (t_27 e (by omega) x1 x2 h _ hc)) ?_
  refine rn_aload_n (i := 0) rfl rfl ?_
  refine rn_gQ (c := 10) (k := 3) rfl (by decide) hb (fun x4 hb => ?_)
  obtain ⟨hrc, hb⟩ := grd_spec hb
  obtain ⟨p5, hc, hb⟩ := Option.bind_eq_some_iff.mp hb
  refine Rn.call1 (d := e) (As := [va_rf x4]) (rest := []) rfl rfl rfl (by decide) rfl rfl rfl (bd_rcV hrc rfl) (by decide) (bd_lenC (n := 2) rfl (bd_slR bd_slN) rfl) (bd_locC (n := 2) rfl (bd_slR bd_slN) rfl (t_34 e (by omega) x4 p3 _ hc)) ?_
  refine rn_if_eq rfl rfl (fun hc => ?_) (fun hc => ?_)
  · exact u_141_34 (e + 1) hd v0  p5.2 _ (if_t hb hc)
  · exact u_141_21 (e + 1) hd v0  p5.2 _ (if_f hb hc)
/-- BitingDoors.cheapest()I -/
def f_141 (v0 : Option Nat) (h : Hp) : Option (Int32 × Hp) := b_141_0 v0 h
theorem t_141 (d : Nat) (hd : 70 ≤ d) (v0 : Option Nat) (h : Hp) (r : Int32 × Hp) (hb : f_141 v0 h = some r) : Rn d 141 0 [some (va_rf v0)] [] h (some (.int r.1), r.2) := by
  unfold f_141 at hb
  exact u_141_0 d hd v0 h r hb
def b_142_48  (s0 : Int32) (h : Hp) : Option (Int32 × Hp) :=
  some (s0, h)
theorem u_142_48 (d : Nat) (hd : 70 ≤ d) (v0 : Option Nat) (v1 : Int32) (s0 : Int32) (h : Hp) (r : Int32 × Hp) (hb : b_142_48  s0 h = some r) : Rn d 142 48 [some (va_rf v0), some (.int v1)] [.int s0] h (some (.int r.1), r.2) := by
  unfold b_142_48 at hb
  obtain rfl := Option.some.inj hb
  exact rn_iret rfl rfl
def b_142_47   (h : Hp) : Option (Int32 × Hp) :=
  b_142_48  (-1 : Int32) h
theorem u_142_47 (d : Nat) (hd : 70 ≤ d) (v0 : Option Nat) (v1 : Int32)  (h : Hp) (r : Int32 × Hp) (hb : b_142_47   h = some r) : Rn d 142 47 [some (va_rf v0), some (.int v1)] [] h (some (.int r.1), r.2) := by
  unfold b_142_47 at hb
  refine rn_iconst (x := (-1 : Int32)) rfl (by decide) ?_
  exact u_142_48 d hd v0 v1 (-1 : Int32) h _ hb
def b_142_35 (v0 : Option Nat) (v1 : Int32)  (h : Hp) : Option (Int32 × Hp) :=
  (gQ 10 3 v0 h).bind fun x1 =>
  (gQ 3 4 x1 h).bind fun x2 =>
  (aI 12 x2 v1 h).bind fun x3 =>
  b_142_48  x3 h
theorem u_142_35 (d : Nat) (hd : 70 ≤ d) (v0 : Option Nat) (v1 : Int32)  (h : Hp) (r : Int32 × Hp) (hb : b_142_35 v0 v1  h = some r) : Rn d 142 35 [some (va_rf v0), some (.int v1)] [] h (some (.int r.1), r.2) := by
  unfold b_142_35 at hb
  refine rn_aload_n (i := 0) rfl rfl ?_
  refine rn_gQ (c := 10) (k := 3) rfl (by decide) hb (fun x1 hb => ?_)
  refine rn_gQ (c := 3) (k := 4) rfl (by decide) hb (fun x2 hb => ?_)
  refine rn_iload_n (i := 1) rfl rfl ?_
  refine rn_aI rfl hb (fun x3 hb => ?_)
  refine rn_goto rfl rfl ?_
  exact u_142_48 d hd v0 v1 x3 h _ hb
def b_142_25 (v0 : Option Nat) (v1 : Int32)  (h : Hp) : Option (Int32 × Hp) :=
  (gQ 10 3 v0 h).bind fun x1 =>
  (grd (rC 3 x1 h)).bind fun _ =>
  (f_34 x1 h).bind fun p2 =>
  if p2.1 = 0 then b_142_47   p2.2 else b_142_35 v0 v1  p2.2
theorem u_142_25 (d : Nat) (hd : 70 ≤ d) (v0 : Option Nat) (v1 : Int32)  (h : Hp) (r : Int32 × Hp) (hb : b_142_25 v0 v1  h = some r) : Rn d 142 25 [some (va_rf v0), some (.int v1)] [] h (some (.int r.1), r.2) := by
  unfold b_142_25 at hb
  obtain ⟨e, rfl⟩ : ∃ e, d = e + 1 := ⟨d - 1, by omega⟩
  refine rn_aload_n (i := 0) rfl rfl ?_
  refine rn_gQ (c := 10) (k := 3) rfl (by decide) hb (fun x1 hb => ?_)
  obtain ⟨hrc, hb⟩ := grd_spec hb
  obtain ⟨p2, hc, hb⟩ := Option.bind_eq_some_iff.mp hb
  refine Rn.call1 (d := e) (As := [va_rf x1]) (rest := []) rfl rfl rfl (by decide) rfl rfl rfl (bd_rcV hrc rfl) (by decide) (bd_lenC (n := 2) rfl (bd_slR bd_slN) rfl) (bd_locC (n := 2) rfl (bd_slR bd_slN) rfl (t_34 e (by omega) x1 h _ hc)) ?_
  refine rn_if_eq rfl rfl (fun hc => ?_) (fun hc => ?_)
  · exact u_142_47 (e + 1) hd v0 v1  p2.2 _ (if_t hb hc)
  · exact u_142_35 (e + 1) hd v0 v1  p2.2 _ (if_f hb hc)
def b_142_0 (v0 : Option Nat) (v1 : Int32)  (h : Hp) : Option (Int32 × Hp) :=
  (gQ 10 3 v0 h).bind fun x1 =>
  (gQ 10 1 v0 h).bind fun x2 =>
  (grd (rC 3 x1 h)).bind fun _ =>
  (f_27 x1 x2 h).bind fun p3 =>
  (gQ 10 1 v0 p3).bind fun x4 =>
  (gQ 7 2 x4 p3).bind fun x5 =>
  (grd (rC 4 x5 p3)).bind fun _ =>
  (f_52 x5 v1 p3).bind fun p6 =>
  if p6.1 = 0 then b_142_47   p6.2 else b_142_25 v0 v1  p6.2
theorem u_142_0 (d : Nat) (hd : 70 ≤ d) (v0 : Option Nat) (v1 : Int32)  (h : Hp) (r : Int32 × Hp) (hb : b_142_0 v0 v1  h = some r) : Rn d 142 0 [some (va_rf v0), some (.int v1)] [] h (some (.int r.1), r.2) := by
  unfold b_142_0 at hb
  obtain ⟨e, rfl⟩ : ∃ e, d = e + 1 := ⟨d - 1, by omega⟩
  refine rn_aload_n (i := 0) rfl rfl ?_
  refine rn_gQ (c := 10) (k := 3) rfl (by decide) hb (fun x1 hb => ?_)
  refine rn_aload_n (i := 0) rfl rfl ?_
  refine rn_gQ (c := 10) (k := 1) rfl (by decide) hb (fun x2 hb => ?_)
  obtain ⟨hrc, hb⟩ := grd_spec hb
  obtain ⟨p3, hc, hb⟩ := Option.bind_eq_some_iff.mp hb
  refine Rn.call0 (d := e) (As := [va_rf x1, va_rf x2]) (rest := []) rfl rfl rfl (by decide) rfl rfl rfl (bd_rcV hrc rfl) (by decide) (bd_lenC (n := 4) rfl (bd_slR (bd_slR bd_slN)) rfl) (bd_locC (n := 4) rfl (bd_slR (bd_slR bd_slN)) rfl (t_27 e (by omega) x1 x2 h _ hc)) ?_
  refine rn_aload_n (i := 0) rfl rfl ?_
  refine rn_gQ (c := 10) (k := 1) rfl (by decide) hb (fun x4 hb => ?_)
  refine rn_gQ (c := 7) (k := 2) rfl (by decide) hb (fun x5 hb => ?_)
  refine rn_iload_n (i := 1) rfl rfl ?_
  obtain ⟨hrc, hb⟩ := grd_spec hb
  obtain ⟨p6, hc, hb⟩ := Option.bind_eq_some_iff.mp hb
  refine Rn.call1 (d := e) (As := [va_rf x5, .int v1]) (rest := []) rfl rfl rfl (by decide) rfl rfl rfl (bd_rcV hrc rfl) (by decide) (bd_lenC (n := 2) rfl (bd_slR (bd_slI bd_slN)) rfl) (bd_locC (n := 2) rfl (bd_slR (bd_slI bd_slN)) rfl (t_52 e (by omega) x5 v1 p3 _ hc)) ?_
  refine rn_if_eq rfl rfl (fun hc => ?_) (fun hc => ?_)
  · exact u_142_47 (e + 1) hd v0 v1  p6.2 _ (if_t hb hc)
  · exact u_142_25 (e + 1) hd v0 v1  p6.2 _ (if_f hb hc)
/-- BitingDoors.hung(I)I -/
def f_142 (v0 : Option Nat) (v1 : Int32) (h : Hp) : Option (Int32 × Hp) := b_142_0 v0 v1 h
theorem t_142 (d : Nat) (hd : 70 ≤ d) (v0 : Option Nat) (v1 : Int32) (h : Hp) (r : Int32 × Hp) (hb : f_142 v0 v1 h = some r) : Rn d 142 0 [some (va_rf v0), some (.int v1)] [] h (some (.int r.1), r.2) := by
  unfold f_142 at hb
  exact u_142_0 d hd v0 v1 h r hb
def b_143_36  (s0 : Int32) (h : Hp) : Option (Int32 × Hp) :=
  some (s0, h)
theorem u_143_36 (d : Nat) (hd : 70 ≤ d) (v0 : Option Nat) (s0 : Int32) (h : Hp) (r : Int32 × Hp) (hb : b_143_36  s0 h = some r) : Rn d 143 36 [some (va_rf v0)] [.int s0] h (some (.int r.1), r.2) := by
  unfold b_143_36 at hb
  obtain rfl := Option.some.inj hb
  exact rn_iret rfl rfl
def b_143_35   (h : Hp) : Option (Int32 × Hp) :=
  b_143_36  (-1 : Int32) h
theorem u_143_35 (d : Nat) (hd : 70 ≤ d) (v0 : Option Nat)  (h : Hp) (r : Int32 × Hp) (hb : b_143_35   h = some r) : Rn d 143 35 [some (va_rf v0)] [] h (some (.int r.1), r.2) := by
  unfold b_143_35 at hb
  refine rn_iconst (x := (-1 : Int32)) rfl (by decide) ?_
  exact u_143_36 d hd v0 (-1 : Int32) h _ hb
def b_143_21 (v0 : Option Nat)  (h : Hp) : Option (Int32 × Hp) :=
  (gQ 10 3 v0 h).bind fun x1 =>
  (gI 3 7 x1 h).bind fun x2 =>
  (grd (decide (¬ ((nI 1024) : Int32) = 0))).bind fun _ =>
  b_143_36  (x2 / (nI 1024)) h
theorem u_143_21 (d : Nat) (hd : 70 ≤ d) (v0 : Option Nat)  (h : Hp) (r : Int32 × Hp) (hb : b_143_21 v0  h = some r) : Rn d 143 21 [some (va_rf v0)] [] h (some (.int r.1), r.2) := by
  unfold b_143_21 at hb
  refine rn_aload_n (i := 0) rfl rfl ?_
  refine rn_gQ (c := 10) (k := 3) rfl (by decide) hb (fun x1 hb => ?_)
  refine rn_gI (c := 3) (k := 7) rfl (by decide) hb (fun x2 hb => ?_)
  refine rn_sipush (x := (nI 1024)) rfl (by decide) ?_
  obtain ⟨hy, hb⟩ := grd_spec hb
  refine rn_idiv rfl (of_decide_eq_true hy) ?_
  refine rn_goto rfl rfl ?_
  exact u_143_36 d hd v0 (x2 / (nI 1024)) h _ hb
def b_143_0 (v0 : Option Nat)  (h : Hp) : Option (Int32 × Hp) :=
  (gQ 10 3 v0 h).bind fun x1 =>
  (gQ 10 1 v0 h).bind fun x2 =>
  (grd (rC 3 x1 h)).bind fun _ =>
  (f_27 x1 x2 h).bind fun p3 =>
  (gQ 10 3 v0 p3).bind fun x4 =>
  (grd (rC 3 x4 p3)).bind fun _ =>
  (f_35 x4 p3).bind fun p5 =>
  if p5.1 = 0 then b_143_35   p5.2 else b_143_21 v0  p5.2
theorem u_143_0 (d : Nat) (hd : 70 ≤ d) (v0 : Option Nat)  (h : Hp) (r : Int32 × Hp) (hb : b_143_0 v0  h = some r) : Rn d 143 0 [some (va_rf v0)] [] h (some (.int r.1), r.2) := by
  unfold b_143_0 at hb
  obtain ⟨e, rfl⟩ : ∃ e, d = e + 1 := ⟨d - 1, by omega⟩
  refine rn_aload_n (i := 0) rfl rfl ?_
  refine rn_gQ (c := 10) (k := 3) rfl (by decide) hb (fun x1 hb => ?_)
  refine rn_aload_n (i := 0) rfl rfl ?_
  refine rn_gQ (c := 10) (k := 1) rfl (by decide) hb (fun x2 hb => ?_)
  obtain ⟨hrc, hb⟩ := grd_spec hb
  obtain ⟨p3, hc, hb⟩ := Option.bind_eq_some_iff.mp hb
  refine Rn.call0 (d := e) (As := [va_rf x1, va_rf x2]) (rest := []) rfl rfl rfl (by decide) rfl rfl rfl (bd_rcV hrc rfl) (by decide) (bd_lenC (n := 4) rfl (bd_slR (bd_slR bd_slN)) rfl) (bd_locC (n := 4) rfl (bd_slR (bd_slR bd_slN)) rfl (t_27 e (by omega) x1 x2 h _ hc)) ?_
  refine rn_aload_n (i := 0) rfl rfl ?_
  refine rn_gQ (c := 10) (k := 3) rfl (by decide) hb (fun x4 hb => ?_)
  obtain ⟨hrc, hb⟩ := grd_spec hb
  obtain ⟨p5, hc, hb⟩ := Option.bind_eq_some_iff.mp hb
  refine Rn.call1 (d := e) (As := [va_rf x4]) (rest := []) rfl rfl rfl (by decide) rfl rfl rfl (bd_rcV hrc rfl) (by decide) (bd_lenC (n := 2) rfl (bd_slR bd_slN) rfl) (bd_locC (n := 2) rfl (bd_slR bd_slN) rfl (t_35 e (by omega) x4 p3 _ hc)) ?_
  refine rn_if_eq rfl rfl (fun hc => ?_) (fun hc => ?_)
  · exact u_143_35 (e + 1) hd v0  p5.2 _ (if_t hb hc)
  · exact u_143_21 (e + 1) hd v0  p5.2 _ (if_f hb hc)
/-- BitingDoors.fewest()I -/
def f_143 (v0 : Option Nat) (h : Hp) : Option (Int32 × Hp) := b_143_0 v0 h
theorem t_143 (d : Nat) (hd : 70 ≤ d) (v0 : Option Nat) (h : Hp) (r : Int32 × Hp) (hb : f_143 v0 h = some r) : Rn d 143 0 [some (va_rf v0)] [] h (some (.int r.1), r.2) := by
  unfold f_143 at hb
  exact u_143_0 d hd v0 h r hb
def b_144_48  (s0 : Int32) (h : Hp) : Option (Int32 × Hp) :=
  some (s0, h)
theorem u_144_48 (d : Nat) (hd : 70 ≤ d) (v0 : Option Nat) (v1 : Int32) (s0 : Int32) (h : Hp) (r : Int32 × Hp) (hb : b_144_48  s0 h = some r) : Rn d 144 48 [some (va_rf v0), some (.int v1)] [.int s0] h (some (.int r.1), r.2) := by
  unfold b_144_48 at hb
  obtain rfl := Option.some.inj hb
  exact rn_iret rfl rfl
def b_144_47   (h : Hp) : Option (Int32 × Hp) :=
  b_144_48  (-1 : Int32) h
theorem u_144_47 (d : Nat) (hd : 70 ≤ d) (v0 : Option Nat) (v1 : Int32)  (h : Hp) (r : Int32 × Hp) (hb : b_144_47   h = some r) : Rn d 144 47 [some (va_rf v0), some (.int v1)] [] h (some (.int r.1), r.2) := by
  unfold b_144_47 at hb
  refine rn_iconst (x := (-1 : Int32)) rfl (by decide) ?_
  exact u_144_48 d hd v0 v1 (-1 : Int32) h _ hb
def b_144_35 (v0 : Option Nat) (v1 : Int32)  (h : Hp) : Option (Int32 × Hp) :=
  (gQ 10 3 v0 h).bind fun x1 =>
  (gQ 3 6 x1 h).bind fun x2 =>
  (aI 12 x2 v1 h).bind fun x3 =>
  b_144_48  x3 h
theorem u_144_35 (d : Nat) (hd : 70 ≤ d) (v0 : Option Nat) (v1 : Int32)  (h : Hp) (r : Int32 × Hp) (hb : b_144_35 v0 v1  h = some r) : Rn d 144 35 [some (va_rf v0), some (.int v1)] [] h (some (.int r.1), r.2) := by
  unfold b_144_35 at hb
  refine rn_aload_n (i := 0) rfl rfl ?_
  refine rn_gQ (c := 10) (k := 3) rfl (by decide) hb (fun x1 hb => ?_)
  refine rn_gQ (c := 3) (k := 6) rfl (by decide) hb (fun x2 hb => ?_)
  refine rn_iload_n (i := 1) rfl rfl ?_
  refine rn_aI rfl hb (fun x3 hb => ?_)
  refine rn_goto rfl rfl ?_
  exact u_144_48 d hd v0 v1 x3 h _ hb
def b_144_25 (v0 : Option Nat) (v1 : Int32)  (h : Hp) : Option (Int32 × Hp) :=
  (gQ 10 3 v0 h).bind fun x1 =>
  (grd (rC 3 x1 h)).bind fun _ =>
  (f_35 x1 h).bind fun p2 =>
  if p2.1 = 0 then b_144_47   p2.2 else b_144_35 v0 v1  p2.2
theorem u_144_25 (d : Nat) (hd : 70 ≤ d) (v0 : Option Nat) (v1 : Int32)  (h : Hp) (r : Int32 × Hp) (hb : b_144_25 v0 v1  h = some r) : Rn d 144 25 [some (va_rf v0), some (.int v1)] [] h (some (.int r.1), r.2) := by
  unfold b_144_25 at hb
  obtain ⟨e, rfl⟩ : ∃ e, d = e + 1 := ⟨d - 1, by omega⟩
  refine rn_aload_n (i := 0) rfl rfl ?_
  refine rn_gQ (c := 10) (k := 3) rfl (by decide) hb (fun x1 hb => ?_)
  obtain ⟨hrc, hb⟩ := grd_spec hb
  obtain ⟨p2, hc, hb⟩ := Option.bind_eq_some_iff.mp hb
  refine Rn.call1 (d := e) (As := [va_rf x1]) (rest := []) rfl rfl rfl (by decide) rfl rfl rfl (bd_rcV hrc rfl) (by decide) (bd_lenC (n := 2) rfl (bd_slR bd_slN) rfl) (bd_locC (n := 2) rfl (bd_slR bd_slN) rfl (t_35 e (by omega) x1 h _ hc)) ?_
  refine rn_if_eq rfl rfl (fun hc => ?_) (fun hc => ?_)
  · exact u_144_47 (e + 1) hd v0 v1  p2.2 _ (if_t hb hc)
  · exact u_144_35 (e + 1) hd v0 v1  p2.2 _ (if_f hb hc)
def b_144_0 (v0 : Option Nat) (v1 : Int32)  (h : Hp) : Option (Int32 × Hp) :=
  (gQ 10 3 v0 h).bind fun x1 =>
  (gQ 10 1 v0 h).bind fun x2 =>
  (grd (rC 3 x1 h)).bind fun _ =>
  (f_27 x1 x2 h).bind fun p3 =>
  (gQ 10 1 v0 p3).bind fun x4 =>
  (gQ 7 2 x4 p3).bind fun x5 =>
  (grd (rC 4 x5 p3)).bind fun _ =>
  (f_52 x5 v1 p3).bind fun p6 =>
  if p6.1 = 0 then b_144_47   p6.2 else b_144_25 v0 v1  p6.2
theorem u_144_0 (d : Nat) (hd : 70 ≤ d) (v0 : Option Nat) (v1 : Int32)  (h : Hp) (r : Int32 × Hp) (hb : b_144_0 v0 v1  h = some r) : Rn d 144 0 [some (va_rf v0), some (.int v1)] [] h (some (.int r.1), r.2) := by
  unfold b_144_0 at hb
  obtain ⟨e, rfl⟩ : ∃ e, d = e + 1 := ⟨d - 1, by omega⟩
  refine rn_aload_n (i := 0) rfl rfl ?_
  refine rn_gQ (c := 10) (k := 3) rfl (by decide) hb (fun x1 hb => ?_)
  refine rn_aload_n (i := 0) rfl rfl ?_
  refine rn_gQ (c := 10) (k := 1) rfl (by decide) hb (fun x2 hb => ?_)
  obtain ⟨hrc, hb⟩ := grd_spec hb
  obtain ⟨p3, hc, hb⟩ := Option.bind_eq_some_iff.mp hb
  refine Rn.call0 (d := e) (As := [va_rf x1, va_rf x2]) (rest := []) rfl rfl rfl (by decide) rfl rfl rfl (bd_rcV hrc rfl) (by decide) (bd_lenC (n := 4) rfl (bd_slR (bd_slR bd_slN)) rfl) (bd_locC (n := 4) rfl (bd_slR (bd_slR bd_slN)) rfl (t_27 e (by omega) x1 x2 h _ hc)) ?_
  refine rn_aload_n (i := 0) rfl rfl ?_
  refine rn_gQ (c := 10) (k := 1) rfl (by decide) hb (fun x4 hb => ?_)
  refine rn_gQ (c := 7) (k := 2) rfl (by decide) hb (fun x5 hb => ?_)
  refine rn_iload_n (i := 1) rfl rfl ?_
  obtain ⟨hrc, hb⟩ := grd_spec hb
  obtain ⟨p6, hc, hb⟩ := Option.bind_eq_some_iff.mp hb
  refine Rn.call1 (d := e) (As := [va_rf x5, .int v1]) (rest := []) rfl rfl rfl (by decide) rfl rfl rfl (bd_rcV hrc rfl) (by decide) (bd_lenC (n := 2) rfl (bd_slR (bd_slI bd_slN)) rfl) (bd_locC (n := 2) rfl (bd_slR (bd_slI bd_slN)) rfl (t_52 e (by omega) x5 v1 p3 _ hc)) ?_
  refine rn_if_eq rfl rfl (fun hc => ?_) (fun hc => ?_)
  · exact u_144_47 (e + 1) hd v0 v1  p6.2 _ (if_t hb hc)
  · exact u_144_25 (e + 1) hd v0 v1  p6.2 _ (if_f hb hc)
/-- BitingDoors.fewestBy(I)I -/
def f_144 (v0 : Option Nat) (v1 : Int32) (h : Hp) : Option (Int32 × Hp) := b_144_0 v0 v1 h
theorem t_144 (d : Nat) (hd : 70 ≤ d) (v0 : Option Nat) (v1 : Int32) (h : Hp) (r : Int32 × Hp) (hb : f_144 v0 v1 h = some r) : Rn d 144 0 [some (va_rf v0), some (.int v1)] [] h (some (.int r.1), r.2) := by
  unfold f_144 at hb
  exact u_144_0 d hd v0 v1 h r hb
def b_145_0 (v0 : Option Nat)  (h : Hp) : Option (Int32 × Hp) :=
  (gQ 10 3 v0 h).bind fun x1 =>
  (gQ 10 1 v0 h).bind fun x2 =>
  (grd (rC 3 x1 h)).bind fun _ =>
  (f_27 x1 x2 h).bind fun p3 =>
  (gQ 10 3 v0 p3).bind fun x4 =>
  (grd (rC 3 x4 p3)).bind fun _ =>
  (f_39 x4 p3).bind fun p5 =>
  some (p5.1, p5.2)
theorem u_145_0 (d : Nat) (hd : 69 ≤ d) (v0 : Option Nat)  (h : Hp) (r : Int32 × Hp) (hb : b_145_0 v0  h = some r) : Rn d 145 0 [some (va_rf v0)] [] h (some (.int r.1), r.2) := by
  unfold b_145_0 at hb
  obtain ⟨e, rfl⟩ : ∃ e, d = e + 1 := ⟨d - 1, by omega⟩
  refine rn_aload_n (i := 0) rfl rfl ?_
  refine rn_gQ (c := 10) (k := 3) rfl (by decide) hb (fun x1 hb => ?_)
  refine rn_aload_n (i := 0) rfl rfl ?_
  refine rn_gQ (c := 10) (k := 1) rfl (by decide) hb (fun x2 hb => ?_)
  obtain ⟨hrc, hb⟩ := grd_spec hb
  obtain ⟨p3, hc, hb⟩ := Option.bind_eq_some_iff.mp hb
  refine Rn.call0 (d := e) (As := [va_rf x1, va_rf x2]) (rest := []) rfl rfl rfl (by decide) rfl rfl rfl (bd_rcV hrc rfl) (by decide) (bd_lenC (n := 4) rfl (bd_slR (bd_slR bd_slN)) rfl) (bd_locC (n := 4) rfl (bd_slR (bd_slR bd_slN)) rfl (t_27 e (by omega) x1 x2 h _ hc)) ?_
  refine rn_aload_n (i := 0) rfl rfl ?_
  refine rn_gQ (c := 10) (k := 3) rfl (by decide) hb (fun x4 hb => ?_)
  obtain ⟨hrc, hb⟩ := grd_spec hb
  obtain ⟨p5, hc, hb⟩ := Option.bind_eq_some_iff.mp hb
  refine Rn.call1 (d := e) (As := [va_rf x4]) (rest := []) rfl rfl rfl (by decide) rfl rfl rfl (bd_rcV hrc rfl) (by decide) (bd_lenC (n := 1) rfl (bd_slR bd_slN) rfl) (bd_locC (n := 1) rfl (bd_slR bd_slN) rfl (t_39 e (by omega) x4 p3 _ hc)) ?_
  obtain rfl := Option.some.inj hb
  exact rn_iret rfl rfl
/-- BitingDoors.ways()I -/
def f_145 (v0 : Option Nat) (h : Hp) : Option (Int32 × Hp) := b_145_0 v0 h
theorem t_145 (d : Nat) (hd : 69 ≤ d) (v0 : Option Nat) (h : Hp) (r : Int32 × Hp) (hb : f_145 v0 h = some r) : Rn d 145 0 [some (va_rf v0)] [] h (some (.int r.1), r.2) := by
  unfold f_145 at hb
  exact u_145_0 d hd v0 h r hb
def b_146_24   (h : Hp) : Option (Int32 × Hp) :=
  some ((-2 : Int32), h)
theorem u_146_24 (d : Nat) (hd : 4 ≤ d) (v0 : Option Nat) (v1 : Int32) (v2 : Int32) (v3 : Int32)  (h : Hp) (r : Int32 × Hp) (hb : b_146_24   h = some r) : Rn d 146 24 [some (va_rf v0), some (.int v1), some (.int v2), some (.int v3)] [] h (some (.int r.1), r.2) := by
  unfold b_146_24 at hb
  refine rn_bipush (x := (-2 : Int32)) rfl (by decide) ?_
  obtain rfl := Option.some.inj hb
  exact rn_iret rfl rfl
def b_146_107  (s0 : Int32) (h : Hp) : Option (Int32 × Hp) :=
  some (s0, h)
theorem u_146_107 (d : Nat) (hd : 4 ≤ d) (v0 : Option Nat) (v1 : Int32) (v2 : Int32) (v3 : Int32) (s0 : Int32) (h : Hp) (r : Int32 × Hp) (hb : b_146_107  s0 h = some r) : Rn d 146 107 [some (va_rf v0), some (.int v1), some (.int v2), some (.int v3)] [.int s0] h (some (.int r.1), r.2) := by
  unfold b_146_107 at hb
  obtain rfl := Option.some.inj hb
  exact rn_iret rfl rfl
def b_146_100 (v0 : Option Nat)  (h : Hp) : Option (Int32 × Hp) :=
  (gQ 10 4 v0 h).bind fun x1 =>
  (gI 2 4 x1 h).bind fun x2 =>
  b_146_107  x2 h
theorem u_146_100 (d : Nat) (hd : 4 ≤ d) (v0 : Option Nat) (v1 : Int32) (v2 : Int32) (v3 : Int32)  (h : Hp) (r : Int32 × Hp) (hb : b_146_100 v0  h = some r) : Rn d 146 100 [some (va_rf v0), some (.int v1), some (.int v2), some (.int v3)] [] h (some (.int r.1), r.2) := by
  unfold b_146_100 at hb
  refine rn_aload_n (i := 0) rfl rfl ?_
  refine rn_gQ (c := 10) (k := 4) rfl (by decide) hb (fun x1 hb => ?_)
  refine rn_gI (c := 2) (k := 4) rfl (by decide) hb (fun x2 hb => ?_)
  exact u_146_107 d hd v0 v1 v2 v3 x2 h _ hb
def b_146_90 (v0 : Option Nat)  (h : Hp) : Option (Int32 × Hp) :=
  (gQ 10 4 v0 h).bind fun x1 =>
  (gI 2 3 x1 h).bind fun x2 =>
  b_146_107  x2 h
theorem u_146_90 (d : Nat) (hd : 4 ≤ d) (v0 : Option Nat) (v1 : Int32) (v2 : Int32) (v3 : Int32)  (h : Hp) (r : Int32 × Hp) (hb : b_146_90 v0  h = some r) : Rn d 146 90 [some (va_rf v0), some (.int v1), some (.int v2), some (.int v3)] [] h (some (.int r.1), r.2) := by
  unfold b_146_90 at hb
  refine rn_aload_n (i := 0) rfl rfl ?_
  refine rn_gQ (c := 10) (k := 4) rfl (by decide) hb (fun x1 hb => ?_)
  refine rn_gI (c := 2) (k := 3) rfl (by decide) hb (fun x2 hb => ?_)
  refine rn_goto rfl rfl ?_
  exact u_146_107 d hd v0 v1 v2 v3 x2 h _ hb
def b_146_85 (v0 : Option Nat) (v3 : Int32)  (h : Hp) : Option (Int32 × Hp) :=
  if ¬ v3 = (nI 1) then b_146_100 v0  h else b_146_90 v0  h
theorem u_146_85 (d : Nat) (hd : 4 ≤ d) (v0 : Option Nat) (v1 : Int32) (v2 : Int32) (v3 : Int32)  (h : Hp) (r : Int32 × Hp) (hb : b_146_85 v0 v3  h = some r) : Rn d 146 85 [some (va_rf v0), some (.int v1), some (.int v2), some (.int v3)] [] h (some (.int r.1), r.2) := by
  unfold b_146_85 at hb
  refine rn_iload_n (i := 3) rfl rfl ?_
  refine rn_iconst (x := (nI 1)) rfl (by decide) ?_
  refine rn_icmp_ne rfl rfl (fun hc => ?_) (fun hc => ?_)
  · exact u_146_100 d hd v0 v1 v2 v3  h _ (if_t hb hc)
  · exact u_146_90 d hd v0 v1 v2 v3  h _ (if_f hb hc)
def b_146_77 (v0 : Option Nat)  (h : Hp) : Option (Int32 × Hp) :=
  (gQ 10 4 v0 h).bind fun x1 =>
  (gI 2 2 x1 h).bind fun x2 =>
  some (x2, h)
theorem u_146_77 (d : Nat) (hd : 4 ≤ d) (v0 : Option Nat) (v1 : Int32) (v2 : Int32) (v3 : Int32)  (h : Hp) (r : Int32 × Hp) (hb : b_146_77 v0  h = some r) : Rn d 146 77 [some (va_rf v0), some (.int v1), some (.int v2), some (.int v3)] [] h (some (.int r.1), r.2) := by
  unfold b_146_77 at hb
  refine rn_aload_n (i := 0) rfl rfl ?_
  refine rn_gQ (c := 10) (k := 4) rfl (by decide) hb (fun x1 hb => ?_)
  refine rn_gI (c := 2) (k := 2) rfl (by decide) hb (fun x2 hb => ?_)
  obtain rfl := Option.some.inj hb
  exact rn_iret rfl rfl
def b_146_49 (v0 : Option Nat) (v1 : Int32) (v2 : Int32) (v3 : Int32)  (h : Hp) : Option (Int32 × Hp) :=
  (gQ 10 3 v0 h).bind fun x1 =>
  (gQ 10 1 v0 h).bind fun x2 =>
  (grd (rC 3 x1 h)).bind fun _ =>
  (f_27 x1 x2 h).bind fun p3 =>
  (gQ 10 4 v0 p3).bind fun x4 =>
  (gQ 10 3 v0 p3).bind fun x5 =>
  (grd (rC 2 x4 p3)).bind fun _ =>
  (f_22 x4 x5 v1 v2 p3).bind fun p6 =>
  if ¬ v3 = 0 then b_146_85 v0 v3  p6 else b_146_77 v0  p6
theorem u_146_49 (d : Nat) (hd : 4 ≤ d) (v0 : Option Nat) (v1 : Int32) (v2 : Int32) (v3 : Int32)  (h : Hp) (r : Int32 × Hp) (hb : b_146_49 v0 v1 v2 v3  h = some r) : Rn d 146 49 [some (va_rf v0), some (.int v1), some (.int v2), some (.int v3)] [] h (some (.int r.1), r.2) := by
  unfold b_146_49 at hb
  obtain ⟨e, rfl⟩ : ∃ e, d = e + 1 := ⟨d - 1, by omega⟩
  refine rn_aload_n (i := 0) rfl rfl ?_
  refine rn_gQ (c := 10) (k := 3) rfl (by decide) hb (fun x1 hb => ?_)
  refine rn_aload_n (i := 0) rfl rfl ?_
  refine rn_gQ (c := 10) (k := 1) rfl (by decide) hb (fun x2 hb => ?_)
  obtain ⟨hrc, hb⟩ := grd_spec hb
  obtain ⟨p3, hc, hb⟩ := Option.bind_eq_some_iff.mp hb
  refine Rn.call0 (d := e) (As := [va_rf x1, va_rf x2]) (rest := []) rfl rfl rfl (by decide) rfl rfl rfl (bd_rcV hrc rfl) (by decide) (bd_lenC (n := 4) rfl (bd_slR (bd_slR bd_slN)) rfl) (bd_locC (n := 4) rfl (bd_slR (bd_slR bd_slN)) rfl (t_27 e (by omega) x1 x2 h _ hc)) ?_
  refine rn_aload_n (i := 0) rfl rfl ?_
  refine rn_gQ (c := 10) (k := 4) rfl (by decide) hb (fun x4 hb => ?_)
  refine rn_aload_n (i := 0) rfl rfl ?_
  refine rn_gQ (c := 10) (k := 3) rfl (by decide) hb (fun x5 hb => ?_)
  refine rn_iload_n (i := 1) rfl rfl ?_
  refine rn_iload_n (i := 2) rfl rfl ?_
  obtain ⟨hrc, hb⟩ := grd_spec hb
  obtain ⟨p6, hc, hb⟩ := Option.bind_eq_some_iff.mp hb
  refine Rn.call0 (d := e) (As := [va_rf x4, va_rf x5, .int v1, .int v2]) (rest := []) rfl rfl rfl (by decide) rfl rfl rfl (bd_rcV hrc rfl) (by decide) (bd_lenC (n := 8) rfl (bd_slR (bd_slR (bd_slI (bd_slI bd_slN)))) rfl) (bd_locC (n := 8) rfl (bd_slR (bd_slR (bd_slI (bd_slI bd_slN)))) rfl (t_22 e (by omega) x4 x5 v1 v2 p3 _ hc)) ?_
  refine rn_iload_n (i := 3) rfl rfl ?_
  refine rn_if_ne rfl rfl (fun hc => ?_) (fun hc => ?_)
  · exact u_146_85 (e + 1) hd v0 v1 v2 v3  p6 _ (if_t hb hc)
  · exact u_146_77 (e + 1) hd v0 v1 v2 v3  p6 _ (if_f hb hc)
def b_146_46   (h : Hp) : Option (Int32 × Hp) :=
  some ((-2 : Int32), h)
theorem u_146_46 (d : Nat) (hd : 4 ≤ d) (v0 : Option Nat) (v1 : Int32) (v2 : Int32) (v3 : Int32)  (h : Hp) (r : Int32 × Hp) (hb : b_146_46   h = some r) : Rn d 146 46 [some (va_rf v0), some (.int v1), some (.int v2), some (.int v3)] [] h (some (.int r.1), r.2) := by
  unfold b_146_46 at hb
  refine rn_bipush (x := (-2 : Int32)) rfl (by decide) ?_
  obtain rfl := Option.some.inj hb
  exact rn_iret rfl rfl
def b_146_27 (v0 : Option Nat) (v1 : Int32) (v2 : Int32) (v3 : Int32)  (h : Hp) : Option (Int32 × Hp) :=
  (gQ 10 1 v0 h).bind fun x1 =>
  (gQ 7 2 x1 h).bind fun x2 =>
  (gQ 4 1 x2 h).bind fun x3 =>
  (aQ x3 v1 h).bind fun x4 =>
  (grd (rC 1 x4 h)).bind fun _ =>
  (f_10 x4 v2 h).bind fun p5 =>
  if ¬ p5.1 = 0 then b_146_49 v0 v1 v2 v3  p5.2 else b_146_46   p5.2
theorem u_146_27 (d : Nat) (hd : 4 ≤ d) (v0 : Option Nat) (v1 : Int32) (v2 : Int32) (v3 : Int32)  (h : Hp) (r : Int32 × Hp) (hb : b_146_27 v0 v1 v2 v3  h = some r) : Rn d 146 27 [some (va_rf v0), some (.int v1), some (.int v2), some (.int v3)] [] h (some (.int r.1), r.2) := by
  unfold b_146_27 at hb
  obtain ⟨e, rfl⟩ : ∃ e, d = e + 1 := ⟨d - 1, by omega⟩
  refine rn_aload_n (i := 0) rfl rfl ?_
  refine rn_gQ (c := 10) (k := 1) rfl (by decide) hb (fun x1 hb => ?_)
  refine rn_gQ (c := 7) (k := 2) rfl (by decide) hb (fun x2 hb => ?_)
  refine rn_gQ (c := 4) (k := 1) rfl (by decide) hb (fun x3 hb => ?_)
  refine rn_iload_n (i := 1) rfl rfl ?_
  refine rn_aQ rfl hb (fun x4 hb => ?_)
  refine rn_iload_n (i := 2) rfl rfl ?_
  obtain ⟨hrc, hb⟩ := grd_spec hb
  obtain ⟨p5, hc, hb⟩ := Option.bind_eq_some_iff.mp hb
  refine Rn.call1 (d := e) (As := [va_rf x4, .int v2]) (rest := []) rfl rfl rfl (by decide) rfl rfl rfl (bd_rcV hrc rfl) (by decide) (bd_lenC (n := 2) rfl (bd_slR (bd_slI bd_slN)) rfl) (bd_locC (n := 2) rfl (bd_slR (bd_slI bd_slN)) rfl (t_10 e (by omega) x4 v2 h _ hc)) ?_
  refine rn_if_ne rfl rfl (fun hc => ?_) (fun hc => ?_)
  · exact u_146_49 (e + 1) hd v0 v1 v2 v3  p5.2 _ (if_t hb hc)
  · exact u_146_46 (e + 1) hd v0 v1 v2 v3  p5.2 _ (if_f hb hc)
def b_146_9 (v0 : Option Nat) (v1 : Int32) (v2 : Int32) (v3 : Int32)  (h : Hp) : Option (Int32 × Hp) :=
  (gQ 10 1 v0 h).bind fun x1 =>
  (gQ 7 2 x1 h).bind fun x2 =>
  (grd (rC 4 x2 h)).bind fun _ =>
  (f_53 x2 v1 v2 h).bind fun p3 =>
  if ¬ p3.1 = 0 then b_146_27 v0 v1 v2 v3  p3.2 else b_146_24   p3.2
theorem u_146_9 (d : Nat) (hd : 4 ≤ d) (v0 : Option Nat) (v1 : Int32) (v2 : Int32) (v3 : Int32)  (h : Hp) (r : Int32 × Hp) (hb : b_146_9 v0 v1 v2 v3  h = some r) : Rn d 146 9 [some (va_rf v0), some (.int v1), some (.int v2), some (.int v3)] [] h (some (.int r.1), r.2) := by
  unfold b_146_9 at hb
  obtain ⟨e, rfl⟩ : ∃ e, d = e + 1 := ⟨d - 1, by omega⟩
  refine rn_aload_n (i := 0) rfl rfl ?_
  refine rn_gQ (c := 10) (k := 1) rfl (by decide) hb (fun x1 hb => ?_)
  refine rn_gQ (c := 7) (k := 2) rfl (by decide) hb (fun x2 hb => ?_)
  refine rn_iload_n (i := 1) rfl rfl ?_
  refine rn_iload_n (i := 2) rfl rfl ?_
  obtain ⟨hrc, hb⟩ := grd_spec hb
  obtain ⟨p3, hc, hb⟩ := Option.bind_eq_some_iff.mp hb
  refine Rn.call1 (d := e) (As := [va_rf x2, .int v1, .int v2]) (rest := []) rfl rfl rfl (by decide) rfl rfl rfl (bd_rcV hrc rfl) (by decide) (bd_lenC (n := 3) rfl (bd_slR (bd_slI (bd_slI bd_slN))) rfl) (bd_locC (n := 3) rfl (bd_slR (bd_slI (bd_slI bd_slN))) rfl (t_53 e (by omega) x2 v1 v2 h _ hc)) ?_
  refine rn_if_ne rfl rfl (fun hc => ?_) (fun hc => ?_)
  · exact u_146_27 (e + 1) hd v0 v1 v2 v3  p3.2 _ (if_t hb hc)
  · exact u_146_24 (e + 1) hd v0 v1 v2 v3  p3.2 _ (if_f hb hc)
def b_146_4 (v0 : Option Nat) (v1 : Int32) (v2 : Int32) (v3 : Int32)  (h : Hp) : Option (Int32 × Hp) :=
  if (nI 2) < v3 then b_146_24   h else b_146_9 v0 v1 v2 v3  h
theorem u_146_4 (d : Nat) (hd : 4 ≤ d) (v0 : Option Nat) (v1 : Int32) (v2 : Int32) (v3 : Int32)  (h : Hp) (r : Int32 × Hp) (hb : b_146_4 v0 v1 v2 v3  h = some r) : Rn d 146 4 [some (va_rf v0), some (.int v1), some (.int v2), some (.int v3)] [] h (some (.int r.1), r.2) := by
  unfold b_146_4 at hb
  refine rn_iload_n (i := 3) rfl rfl ?_
  refine rn_iconst (x := (nI 2)) rfl (by decide) ?_
  refine rn_icmp_gt rfl rfl (fun hc => ?_) (fun hc => ?_)
  · exact u_146_24 d hd v0 v1 v2 v3  h _ (if_t hb hc)
  · exact u_146_9 d hd v0 v1 v2 v3  h _ (if_f hb hc)
def b_146_0 (v0 : Option Nat) (v1 : Int32) (v2 : Int32) (v3 : Int32)  (h : Hp) : Option (Int32 × Hp) :=
  if v3 < 0 then b_146_24   h else b_146_4 v0 v1 v2 v3  h
theorem u_146_0 (d : Nat) (hd : 4 ≤ d) (v0 : Option Nat) (v1 : Int32) (v2 : Int32) (v3 : Int32)  (h : Hp) (r : Int32 × Hp) (hb : b_146_0 v0 v1 v2 v3  h = some r) : Rn d 146 0 [some (va_rf v0), some (.int v1), some (.int v2), some (.int v3)] [] h (some (.int r.1), r.2) := by
  unfold b_146_0 at hb
  refine rn_iload_n (i := 3) rfl rfl ?_
  refine rn_if_lt rfl rfl (fun hc => ?_) (fun hc => ?_)
  · exact u_146_24 d hd v0 v1 v2 v3  h _ (if_t hb hc)
  · exact u_146_4 d hd v0 v1 v2 v3  h _ (if_f hb hc)
/-- BitingDoors.forces(III)I -/
def f_146 (v0 : Option Nat) (v1 : Int32) (v2 : Int32) (v3 : Int32) (h : Hp) : Option (Int32 × Hp) := b_146_0 v0 v1 v2 v3 h
theorem t_146 (d : Nat) (hd : 4 ≤ d) (v0 : Option Nat) (v1 : Int32) (v2 : Int32) (v3 : Int32) (h : Hp) (r : Int32 × Hp) (hb : f_146 v0 v1 v2 v3 h = some r) : Rn d 146 0 [some (va_rf v0), some (.int v1), some (.int v2), some (.int v3)] [] h (some (.int r.1), r.2) := by
  unfold f_146 at hb
  exact u_146_0 d hd v0 v1 v2 v3 h r hb
def b_147_0 (v0 : Option Nat) (v1 : Int32)  (h : Hp) : Option (Int32 × Hp) :=
  (gQ 10 4 v0 h).bind fun x1 =>
  (grd (rC 2 x1 h)).bind fun _ =>
  (f_25 x1 v1 h).bind fun p2 =>
  some (p2.1, p2.2)
theorem u_147_0 (d : Nat) (hd : 1 ≤ d) (v0 : Option Nat) (v1 : Int32)  (h : Hp) (r : Int32 × Hp) (hb : b_147_0 v0 v1  h = some r) : Rn d 147 0 [some (va_rf v0), some (.int v1)] [] h (some (.int r.1), r.2) := by
  unfold b_147_0 at hb
  obtain ⟨e, rfl⟩ : ∃ e, d = e + 1 := ⟨d - 1, by omega⟩
  refine rn_aload_n (i := 0) rfl rfl ?_
  refine rn_gQ (c := 10) (k := 4) rfl (by decide) hb (fun x1 hb => ?_)
  refine rn_iload_n (i := 1) rfl rfl ?_
  obtain ⟨hrc, hb⟩ := grd_spec hb
  obtain ⟨p2, hc, hb⟩ := Option.bind_eq_some_iff.mp hb
  refine Rn.call1 (d := e) (As := [va_rf x1, .int v1]) (rest := []) rfl rfl rfl (by decide) rfl rfl rfl (bd_rcV hrc rfl) (by decide) (bd_lenC (n := 2) rfl (bd_slR (bd_slI bd_slN)) rfl) (bd_locC (n := 2) rfl (bd_slR (bd_slI bd_slN)) rfl (t_25 e (by omega) x1 v1 h _ hc)) ?_
  obtain rfl := Option.some.inj hb
  exact rn_iret rfl rfl
/-- BitingDoors.forced(I)I -/
def f_147 (v0 : Option Nat) (v1 : Int32) (h : Hp) : Option (Int32 × Hp) := b_147_0 v0 v1 h
theorem t_147 (d : Nat) (hd : 1 ≤ d) (v0 : Option Nat) (v1 : Int32) (h : Hp) (r : Int32 × Hp) (hb : f_147 v0 v1 h = some r) : Rn d 147 0 [some (va_rf v0), some (.int v1)] [] h (some (.int r.1), r.2) := by
  unfold f_147 at hb
  exact u_147_0 d hd v0 v1 h r hb
def b_148_28  (s0 : Int32) (h : Hp) : Option (Int32 × Hp) :=
  some (s0, h)
theorem u_148_28 (d : Nat) (hd : 0 ≤ d) (v0 : Option Nat) (v1 : Int32) (s0 : Int32) (h : Hp) (r : Int32 × Hp) (hb : b_148_28  s0 h = some r) : Rn d 148 28 [some (va_rf v0), some (.int v1)] [.int s0] h (some (.int r.1), r.2) := by
  unfold b_148_28 at hb
  obtain rfl := Option.some.inj hb
  exact rn_iret rfl rfl
def b_148_27   (h : Hp) : Option (Int32 × Hp) :=
  b_148_28  (-1 : Int32) h
theorem u_148_27 (d : Nat) (hd : 0 ≤ d) (v0 : Option Nat) (v1 : Int32)  (h : Hp) (r : Int32 × Hp) (hb : b_148_27   h = some r) : Rn d 148 27 [some (va_rf v0), some (.int v1)] [] h (some (.int r.1), r.2) := by
  unfold b_148_27 at hb
  refine rn_iconst (x := (-1 : Int32)) rfl (by decide) ?_
  exact u_148_28 d hd v0 v1 (-1 : Int32) h _ hb
def b_148_15 (v0 : Option Nat) (v1 : Int32)  (h : Hp) : Option (Int32 × Hp) :=
  (gQ 10 4 v0 h).bind fun x1 =>
  (gQ 2 0 x1 h).bind fun x2 =>
  (aI 12 x2 v1 h).bind fun x3 =>
  b_148_28  x3 h
theorem u_148_15 (d : Nat) (hd : 0 ≤ d) (v0 : Option Nat) (v1 : Int32)  (h : Hp) (r : Int32 × Hp) (hb : b_148_15 v0 v1  h = some r) : Rn d 148 15 [some (va_rf v0), some (.int v1)] [] h (some (.int r.1), r.2) := by
  unfold b_148_15 at hb
  refine rn_aload_n (i := 0) rfl rfl ?_
  refine rn_gQ (c := 10) (k := 4) rfl (by decide) hb (fun x1 hb => ?_)
  refine rn_gQ (c := 2) (k := 0) rfl (by decide) hb (fun x2 hb => ?_)
  refine rn_iload_n (i := 1) rfl rfl ?_
  refine rn_aI rfl hb (fun x3 hb => ?_)
  refine rn_goto rfl rfl ?_
  exact u_148_28 d hd v0 v1 x3 h _ hb
def b_148_4 (v0 : Option Nat) (v1 : Int32)  (h : Hp) : Option (Int32 × Hp) :=
  (gQ 10 4 v0 h).bind fun x1 =>
  (gI 2 2 x1 h).bind fun x2 =>
  if x2 ≤ v1 then b_148_27   h else b_148_15 v0 v1  h
theorem u_148_4 (d : Nat) (hd : 0 ≤ d) (v0 : Option Nat) (v1 : Int32)  (h : Hp) (r : Int32 × Hp) (hb : b_148_4 v0 v1  h = some r) : Rn d 148 4 [some (va_rf v0), some (.int v1)] [] h (some (.int r.1), r.2) := by
  unfold b_148_4 at hb
  refine rn_iload_n (i := 1) rfl rfl ?_
  refine rn_aload_n (i := 0) rfl rfl ?_
  refine rn_gQ (c := 10) (k := 4) rfl (by decide) hb (fun x1 hb => ?_)
  refine rn_gI (c := 2) (k := 2) rfl (by decide) hb (fun x2 hb => ?_)
  refine rn_icmp_ge rfl rfl (fun hc => ?_) (fun hc => ?_)
  · exact u_148_27 d hd v0 v1  h _ (if_t hb hc)
  · exact u_148_15 d hd v0 v1  h _ (if_f hb hc)
def b_148_0 (v0 : Option Nat) (v1 : Int32)  (h : Hp) : Option (Int32 × Hp) :=
  if v1 < 0 then b_148_27   h else b_148_4 v0 v1  h
theorem u_148_0 (d : Nat) (hd : 0 ≤ d) (v0 : Option Nat) (v1 : Int32)  (h : Hp) (r : Int32 × Hp) (hb : b_148_0 v0 v1  h = some r) : Rn d 148 0 [some (va_rf v0), some (.int v1)] [] h (some (.int r.1), r.2) := by
  unfold b_148_0 at hb
  refine rn_iload_n (i := 1) rfl rfl ?_
  refine rn_if_lt rfl rfl (fun hc => ?_) (fun hc => ?_)
  · exact u_148_27 d hd v0 v1  h _ (if_t hb hc)
  · exact u_148_4 d hd v0 v1  h _ (if_f hb hc)
/-- BitingDoors.forcedAt(I)I -/
def f_148 (v0 : Option Nat) (v1 : Int32) (h : Hp) : Option (Int32 × Hp) := b_148_0 v0 v1 h
theorem t_148 (d : Nat) (hd : 0 ≤ d) (v0 : Option Nat) (v1 : Int32) (h : Hp) (r : Int32 × Hp) (hb : f_148 v0 v1 h = some r) : Rn d 148 0 [some (va_rf v0), some (.int v1)] [] h (some (.int r.1), r.2) := by
  unfold f_148 at hb
  exact u_148_0 d hd v0 v1 h r hb
def b_149_0 (v0 : Option Nat)  (h : Hp) : Option (Int32 × Hp) :=
  (gQ 10 3 v0 h).bind fun x1 =>
  (gQ 10 1 v0 h).bind fun x2 =>
  (grd (rC 3 x1 h)).bind fun _ =>
  (f_27 x1 x2 h).bind fun p3 =>
  (gQ 10 3 v0 p3).bind fun x4 =>
  (grd (rC 3 x4 p3)).bind fun _ =>
  (f_42 x4 p3).bind fun p5 =>
  some (p5.1, p5.2)
theorem u_149_0 (d : Nat) (hd : 70 ≤ d) (v0 : Option Nat)  (h : Hp) (r : Int32 × Hp) (hb : b_149_0 v0  h = some r) : Rn d 149 0 [some (va_rf v0)] [] h (some (.int r.1), r.2) := by
  unfold b_149_0 at hb
  obtain ⟨e, rfl⟩ : ∃ e, d = e + 1 := ⟨d - 1, by omega⟩
  refine rn_aload_n (i := 0) rfl rfl ?_
  refine rn_gQ (c := 10) (k := 3) rfl (by decide) hb (fun x1 hb => ?_)
  refine rn_aload_n (i := 0) rfl rfl ?_
  refine rn_gQ (c := 10) (k := 1) rfl (by decide) hb (fun x2 hb => ?_)
  obtain ⟨hrc, hb⟩ := grd_spec hb
  obtain ⟨p3, hc, hb⟩ := Option.bind_eq_some_iff.mp hb
  refine Rn.call0 (d := e) (As := [va_rf x1, va_rf x2]) (rest := []) rfl rfl rfl (by decide) rfl rfl rfl (bd_rcV hrc rfl) (by decide) (bd_lenC (n := 4) rfl (bd_slR (bd_slR bd_slN)) rfl) (bd_locC (n := 4) rfl (bd_slR (bd_slR bd_slN)) rfl (t_27 e (by omega) x1 x2 h _ hc)) ?_
  refine rn_aload_n (i := 0) rfl rfl ?_
  refine rn_gQ (c := 10) (k := 3) rfl (by decide) hb (fun x4 hb => ?_)
  obtain ⟨hrc, hb⟩ := grd_spec hb
  obtain ⟨p5, hc, hb⟩ := Option.bind_eq_some_iff.mp hb
  refine Rn.call1 (d := e) (As := [va_rf x4]) (rest := []) rfl rfl rfl (by decide) rfl rfl rfl (bd_rcV hrc rfl) (by decide) (bd_lenC (n := 4) rfl (bd_slR bd_slN) rfl) (bd_locC (n := 4) rfl (bd_slR bd_slN) rfl (t_42 e (by omega) x4 p3 _ hc)) ?_
  obtain rfl := Option.some.inj hb
  exact rn_iret rfl rfl
/-- BitingDoors.stuck()I -/
def f_149 (v0 : Option Nat) (h : Hp) : Option (Int32 × Hp) := b_149_0 v0 h
theorem t_149 (d : Nat) (hd : 70 ≤ d) (v0 : Option Nat) (h : Hp) (r : Int32 × Hp) (hb : f_149 v0 h = some r) : Rn d 149 0 [some (va_rf v0)] [] h (some (.int r.1), r.2) := by
  unfold f_149 at hb
  exact u_149_0 d hd v0 h r hb
def b_150_0 (v0 : Option Nat)  (h : Hp) : Option (Int32 × Hp) :=
  (gQ 10 3 v0 h).bind fun x1 =>
  (gQ 10 1 v0 h).bind fun x2 =>
  (grd (rC 3 x1 h)).bind fun _ =>
  (f_27 x1 x2 h).bind fun p3 =>
  (gQ 10 3 v0 p3).bind fun x4 =>
  (grd (rC 3 x4 p3)).bind fun _ =>
  (f_44 x4 p3).bind fun p5 =>
  some (p5.1, p5.2)
theorem u_150_0 (d : Nat) (hd : 71 ≤ d) (v0 : Option Nat)  (h : Hp) (r : Int32 × Hp) (hb : b_150_0 v0  h = some r) : Rn d 150 0 [some (va_rf v0)] [] h (some (.int r.1), r.2) := by
  unfold b_150_0 at hb
  obtain ⟨e, rfl⟩ : ∃ e, d = e + 1 := ⟨d - 1, by omega⟩
  refine rn_aload_n (i := 0) rfl rfl ?_
  refine rn_gQ (c := 10) (k := 3) rfl (by decide) hb (fun x1 hb => ?_)
  refine rn_aload_n (i := 0) rfl rfl ?_
  refine rn_gQ (c := 10) (k := 1) rfl (by decide) hb (fun x2 hb => ?_)
  obtain ⟨hrc, hb⟩ := grd_spec hb
  obtain ⟨p3, hc, hb⟩ := Option.bind_eq_some_iff.mp hb
  refine Rn.call0 (d := e) (As := [va_rf x1, va_rf x2]) (rest := []) rfl rfl rfl (by decide) rfl rfl rfl (bd_rcV hrc rfl) (by decide) (bd_lenC (n := 4) rfl (bd_slR (bd_slR bd_slN)) rfl) (bd_locC (n := 4) rfl (bd_slR (bd_slR bd_slN)) rfl (t_27 e (by omega) x1 x2 h _ hc)) ?_
  refine rn_aload_n (i := 0) rfl rfl ?_
  refine rn_gQ (c := 10) (k := 3) rfl (by decide) hb (fun x4 hb => ?_)
  obtain ⟨hrc, hb⟩ := grd_spec hb
  obtain ⟨p5, hc, hb⟩ := Option.bind_eq_some_iff.mp hb
  refine Rn.call1 (d := e) (As := [va_rf x4]) (rest := []) rfl rfl rfl (by decide) rfl rfl rfl (bd_rcV hrc rfl) (by decide) (bd_lenC (n := 3) rfl (bd_slR bd_slN) rfl) (bd_locC (n := 3) rfl (bd_slR bd_slN) rfl (t_44 e (by omega) x4 p3 _ hc)) ?_
  obtain rfl := Option.some.inj hb
  exact rn_iret rfl rfl
/-- BitingDoors.joiner()I -/
def f_150 (v0 : Option Nat) (h : Hp) : Option (Int32 × Hp) := b_150_0 v0 h
theorem t_150 (d : Nat) (hd : 71 ≤ d) (v0 : Option Nat) (h : Hp) (r : Int32 × Hp) (hb : f_150 v0 h = some r) : Rn d 150 0 [some (va_rf v0)] [] h (some (.int r.1), r.2) := by
  unfold f_150 at hb
  exact u_150_0 d hd v0 h r hb
def b_151_28  (s0 : Int32) (h : Hp) : Option (Int32 × Hp) :=
  some (s0, h)
theorem u_151_28 (d : Nat) (hd : 0 ≤ d) (v0 : Option Nat) (v1 : Int32) (s0 : Int32) (h : Hp) (r : Int32 × Hp) (hb : b_151_28  s0 h = some r) : Rn d 151 28 [some (va_rf v0), some (.int v1)] [.int s0] h (some (.int r.1), r.2) := by
  unfold b_151_28 at hb
  obtain rfl := Option.some.inj hb
  exact rn_iret rfl rfl
def b_151_27   (h : Hp) : Option (Int32 × Hp) :=
  b_151_28  (-1 : Int32) h
theorem u_151_27 (d : Nat) (hd : 0 ≤ d) (v0 : Option Nat) (v1 : Int32)  (h : Hp) (r : Int32 × Hp) (hb : b_151_27   h = some r) : Rn d 151 27 [some (va_rf v0), some (.int v1)] [] h (some (.int r.1), r.2) := by
  unfold b_151_27 at hb
  refine rn_iconst (x := (-1 : Int32)) rfl (by decide) ?_
  exact u_151_28 d hd v0 v1 (-1 : Int32) h _ hb
def b_151_15 (v0 : Option Nat) (v1 : Int32)  (h : Hp) : Option (Int32 × Hp) :=
  (gQ 10 3 v0 h).bind fun x1 =>
  (gQ 3 8 x1 h).bind fun x2 =>
  (aI 12 x2 v1 h).bind fun x3 =>
  b_151_28  x3 h
theorem u_151_15 (d : Nat) (hd : 0 ≤ d) (v0 : Option Nat) (v1 : Int32)  (h : Hp) (r : Int32 × Hp) (hb : b_151_15 v0 v1  h = some r) : Rn d 151 15 [some (va_rf v0), some (.int v1)] [] h (some (.int r.1), r.2) := by
  unfold b_151_15 at hb
  refine rn_aload_n (i := 0) rfl rfl ?_
  refine rn_gQ (c := 10) (k := 3) rfl (by decide) hb (fun x1 hb => ?_)
  refine rn_gQ (c := 3) (k := 8) rfl (by decide) hb (fun x2 hb => ?_)
  refine rn_iload_n (i := 1) rfl rfl ?_
  refine rn_aI rfl hb (fun x3 hb => ?_)
  refine rn_goto rfl rfl ?_
  exact u_151_28 d hd v0 v1 x3 h _ hb
def b_151_4 (v0 : Option Nat) (v1 : Int32)  (h : Hp) : Option (Int32 × Hp) :=
  (gQ 10 3 v0 h).bind fun x1 =>
  (gI 3 9 x1 h).bind fun x2 =>
  if x2 ≤ v1 then b_151_27   h else b_151_15 v0 v1  h
theorem u_151_4 (d : Nat) (hd : 0 ≤ d) (v0 : Option Nat) (v1 : Int32)  (h : Hp) (r : Int32 × Hp) (hb : b_151_4 v0 v1  h = some r) : Rn d 151 4 [some (va_rf v0), some (.int v1)] [] h (some (.int r.1), r.2) := by
  unfold b_151_4 at hb
  refine rn_iload_n (i := 1) rfl rfl ?_
  refine rn_aload_n (i := 0) rfl rfl ?_
  refine rn_gQ (c := 10) (k := 3) rfl (by decide) hb (fun x1 hb => ?_)
  refine rn_gI (c := 3) (k := 9) rfl (by decide) hb (fun x2 hb => ?_)
  refine rn_icmp_ge rfl rfl (fun hc => ?_) (fun hc => ?_)
  · exact u_151_27 d hd v0 v1  h _ (if_t hb hc)
  · exact u_151_15 d hd v0 v1  h _ (if_f hb hc)
def b_151_0 (v0 : Option Nat) (v1 : Int32)  (h : Hp) : Option (Int32 × Hp) :=
  if v1 < 0 then b_151_27   h else b_151_4 v0 v1  h
theorem u_151_0 (d : Nat) (hd : 0 ≤ d) (v0 : Option Nat) (v1 : Int32)  (h : Hp) (r : Int32 × Hp) (hb : b_151_0 v0 v1  h = some r) : Rn d 151 0 [some (va_rf v0), some (.int v1)] [] h (some (.int r.1), r.2) := by
  unfold b_151_0 at hb
  refine rn_iload_n (i := 1) rfl rfl ?_
  refine rn_if_lt rfl rfl (fun hc => ?_) (fun hc => ?_)
  · exact u_151_27 d hd v0 v1  h _ (if_t hb hc)
  · exact u_151_4 d hd v0 v1  h _ (if_f hb hc)
/-- BitingDoors.joinerAt(I)I -/
def f_151 (v0 : Option Nat) (v1 : Int32) (h : Hp) : Option (Int32 × Hp) := b_151_0 v0 v1 h
theorem t_151 (d : Nat) (hd : 0 ≤ d) (v0 : Option Nat) (v1 : Int32) (h : Hp) (r : Int32 × Hp) (hb : f_151 v0 v1 h = some r) : Rn d 151 0 [some (va_rf v0), some (.int v1)] [] h (some (.int r.1), r.2) := by
  unfold f_151 at hb
  exact u_151_0 d hd v0 v1 h r hb
def b_152_46   (h : Hp) : Option (Int32 × Hp) :=
  (grd (decide ((nI 0) = 0 ∨ (nI 0) = 1))).bind fun _ => some ((nI 0), h)
theorem u_152_46 (d : Nat) (hd : 2 ≤ d) (v0 : Option Nat) (v1 : Int32) (v2 : Int32)  (h : Hp) (r : Int32 × Hp) (hb : b_152_46   h = some r) : Rn d 152 46 [some (va_rf v0), some (.int v1), some (.int v2)] [] h (some (.int r.1), r.2) := by
  unfold b_152_46 at hb
  refine rn_iconst (x := (nI 0)) rfl (by decide) ?_
  obtain ⟨hz, hb⟩ := grd_spec hb
  obtain rfl := Option.some.inj hb
  exact rn_zret rfl rfl (of_decide_eq_true hz)
def b_152_48 (v0 : Option Nat) (v1 : Int32) (v2 : Int32)  (h : Hp) : Option (Int32 × Hp) :=
  (gQ 10 1 v0 h).bind fun x1 =>
  (gQ 7 0 x1 h).bind fun x2 =>
  (wI x2 v1 v2 h).bind fun h3 =>
  (grd (decide ((nI 1) = 0 ∨ (nI 1) = 1))).bind fun _ => some ((nI 1), h3)
theorem u_152_48 (d : Nat) (hd : 2 ≤ d) (v0 : Option Nat) (v1 : Int32) (v2 : Int32)  (h : Hp) (r : Int32 × Hp) (hb : b_152_48 v0 v1 v2  h = some r) : Rn d 152 48 [some (va_rf v0), some (.int v1), some (.int v2)] [] h (some (.int r.1), r.2) := by
  unfold b_152_48 at hb
  refine rn_aload_n (i := 0) rfl rfl ?_
  refine rn_gQ (c := 10) (k := 1) rfl (by decide) hb (fun x1 hb => ?_)
  refine rn_gQ (c := 7) (k := 0) rfl (by decide) hb (fun x2 hb => ?_)
  refine rn_iload_n (i := 1) rfl rfl ?_
  refine rn_iload_n (i := 2) rfl rfl ?_
  refine rn_wI rfl hb (fun h3 hb => ?_)
  refine rn_iconst (x := (nI 1)) rfl (by decide) ?_
  obtain ⟨hz, hb⟩ := grd_spec hb
  obtain rfl := Option.some.inj hb
  exact rn_zret rfl rfl (of_decide_eq_true hz)
def b_152_27 (v0 : Option Nat) (v1 : Int32) (v2 : Int32)  (h : Hp) : Option (Int32 × Hp) :=
  (gQ 10 1 v0 h).bind fun x1 =>
  (gQ 7 2 x1 h).bind fun x2 =>
  (gQ 4 1 x2 h).bind fun x3 =>
  (aQ x3 v1 h).bind fun x4 =>
  (grd (rC 1 x4 h)).bind fun _ =>
  (f_10 x4 v2 h).bind fun p5 =>
  if ¬ p5.1 = 0 then b_152_48 v0 v1 v2  p5.2 else b_152_46   p5.2
theorem u_152_27 (d : Nat) (hd : 2 ≤ d) (v0 : Option Nat) (v1 : Int32) (v2 : Int32)  (h : Hp) (r : Int32 × Hp) (hb : b_152_27 v0 v1 v2  h = some r) : Rn d 152 27 [some (va_rf v0), some (.int v1), some (.int v2)] [] h (some (.int r.1), r.2) := by
  unfold b_152_27 at hb
  obtain ⟨e, rfl⟩ : ∃ e, d = e + 1 := ⟨d - 1, by omega⟩
  refine rn_aload_n (i := 0) rfl rfl ?_
  refine rn_gQ (c := 10) (k := 1) rfl (by decide) hb (fun x1 hb => ?_)
  refine rn_gQ (c := 7) (k := 2) rfl (by decide) hb (fun x2 hb => ?_)
  refine rn_gQ (c := 4) (k := 1) rfl (by decide) hb (fun x3 hb => ?_)
  refine rn_iload_n (i := 1) rfl rfl ?_
  refine rn_aQ rfl hb (fun x4 hb => ?_)
  refine rn_iload_n (i := 2) rfl rfl ?_
  obtain ⟨hrc, hb⟩ := grd_spec hb
  obtain ⟨p5, hc, hb⟩ := Option.bind_eq_some_iff.mp hb
  refine Rn.call1 (d := e) (As := [va_rf x4, .int v2]) (rest := []) rfl rfl rfl (by decide) rfl rfl rfl (bd_rcV hrc rfl) (by decide) (bd_lenC (n := 2) rfl (bd_slR (bd_slI bd_slN)) rfl) (bd_locC (n := 2) rfl (bd_slR (bd_slI bd_slN)) rfl (t_10 e (by omega) x4 v2 h _ hc)) ?_
  refine rn_if_ne rfl rfl (fun hc => ?_) (fun hc => ?_)
  · exact u_152_48 (e + 1) hd v0 v1 v2  p5.2 _ (if_t hb hc)
  · exact u_152_46 (e + 1) hd v0 v1 v2  p5.2 _ (if_f hb hc)
def b_152_15 (v0 : Option Nat) (v1 : Int32) (v2 : Int32)  (h : Hp) : Option (Int32 × Hp) :=
  (gQ 10 1 v0 h).bind fun x1 =>
  (gQ 7 1 x1 h).bind fun x2 =>
  (aI 12 x2 v1 h).bind fun x3 =>
  if ¬ x3 = 0 then b_152_46   h else b_152_27 v0 v1 v2  h
theorem u_152_15 (d : Nat) (hd : 2 ≤ d) (v0 : Option Nat) (v1 : Int32) (v2 : Int32)  (h : Hp) (r : Int32 × Hp) (hb : b_152_15 v0 v1 v2  h = some r) : Rn d 152 15 [some (va_rf v0), some (.int v1), some (.int v2)] [] h (some (.int r.1), r.2) := by
  unfold b_152_15 at hb
  refine rn_aload_n (i := 0) rfl rfl ?_
  refine rn_gQ (c := 10) (k := 1) rfl (by decide) hb (fun x1 hb => ?_)
  refine rn_gQ (c := 7) (k := 1) rfl (by decide) hb (fun x2 hb => ?_)
  refine rn_iload_n (i := 1) rfl rfl ?_
  refine rn_aI rfl hb (fun x3 hb => ?_)
  refine rn_if_ne rfl rfl (fun hc => ?_) (fun hc => ?_)
  · exact u_152_46 d hd v0 v1 v2  h _ (if_t hb hc)
  · exact u_152_27 d hd v0 v1 v2  h _ (if_f hb hc)
def b_152_0 (v0 : Option Nat) (v1 : Int32) (v2 : Int32)  (h : Hp) : Option (Int32 × Hp) :=
  (gQ 10 1 v0 h).bind fun x1 =>
  (gQ 7 2 x1 h).bind fun x2 =>
  (grd (rC 4 x2 h)).bind fun _ =>
  (f_53 x2 v1 v2 h).bind fun p3 =>
  if p3.1 = 0 then b_152_46   p3.2 else b_152_15 v0 v1 v2  p3.2
theorem u_152_0 (d : Nat) (hd : 2 ≤ d) (v0 : Option Nat) (v1 : Int32) (v2 : Int32)  (h : Hp) (r : Int32 × Hp) (hb : b_152_0 v0 v1 v2  h = some r) : Rn d 152 0 [some (va_rf v0), some (.int v1), some (.int v2)] [] h (some (.int r.1), r.2) := by
  unfold b_152_0 at hb
  obtain ⟨e, rfl⟩ : ∃ e, d = e + 1 := ⟨d - 1, by omega⟩
  refine rn_aload_n (i := 0) rfl rfl ?_
  refine rn_gQ (c := 10) (k := 1) rfl (by decide) hb (fun x1 hb => ?_)
  refine rn_gQ (c := 7) (k := 2) rfl (by decide) hb (fun x2 hb => ?_)
  refine rn_iload_n (i := 1) rfl rfl ?_
  refine rn_iload_n (i := 2) rfl rfl ?_
  obtain ⟨hrc, hb⟩ := grd_spec hb
  obtain ⟨p3, hc, hb⟩ := Option.bind_eq_some_iff.mp hb
  refine Rn.call1 (d := e) (As := [va_rf x2, .int v1, .int v2]) (rest := []) rfl rfl rfl (by decide) rfl rfl rfl (bd_rcV hrc rfl) (by decide) (bd_lenC (n := 3) rfl (bd_slR (bd_slI (bd_slI bd_slN))) rfl) (bd_locC (n := 3) rfl (bd_slR (bd_slI (bd_slI bd_slN))) rfl (t_53 e (by omega) x2 v1 v2 h _ hc)) ?_
  refine rn_if_eq rfl rfl (fun hc => ?_) (fun hc => ?_)
  · exact u_152_46 (e + 1) hd v0 v1 v2  p3.2 _ (if_t hb hc)
  · exact u_152_15 (e + 1) hd v0 v1 v2  p3.2 _ (if_f hb hc)
/-- BitingDoors.rehang(II)Z -/
def f_152 (v0 : Option Nat) (v1 : Int32) (v2 : Int32) (h : Hp) : Option (Int32 × Hp) := b_152_0 v0 v1 v2 h
theorem t_152 (d : Nat) (hd : 2 ≤ d) (v0 : Option Nat) (v1 : Int32) (v2 : Int32) (h : Hp) (r : Int32 × Hp) (hb : f_152 v0 v1 v2 h = some r) : Rn d 152 0 [some (va_rf v0), some (.int v1), some (.int v2)] [] h (some (.int r.1), r.2) := by
  unfold f_152 at hb
  exact u_152_0 d hd v0 v1 v2 h r hb
def b_153_31   (h : Hp) : Option (Int32 × Hp) :=
  (grd (decide ((nI 0) = 0 ∨ (nI 0) = 1))).bind fun _ => some ((nI 0), h)
theorem u_153_31 (d : Nat) (hd : 2 ≤ d) (v0 : Option Nat) (v1 : Int32) (v2 : Int32)  (h : Hp) (r : Int32 × Hp) (hb : b_153_31   h = some r) : Rn d 153 31 [some (va_rf v0), some (.int v1), some (.int v2)] [] h (some (.int r.1), r.2) := by
  unfold b_153_31 at hb
  refine rn_iconst (x := (nI 0)) rfl (by decide) ?_
  obtain ⟨hz, hb⟩ := grd_spec hb
  obtain rfl := Option.some.inj hb
  exact rn_zret rfl rfl (of_decide_eq_true hz)
def b_153_33 (v0 : Option Nat) (v1 : Int32) (v2 : Int32)  (h : Hp) : Option (Int32 × Hp) :=
  (gQ 10 1 v0 h).bind fun x1 =>
  (pI 7 3 x1 (((nI 10) * v2) + v1) h).bind fun h2 =>
  (grd (decide ((nI 1) = 0 ∨ (nI 1) = 1))).bind fun _ => some ((nI 1), h2)
theorem u_153_33 (d : Nat) (hd : 2 ≤ d) (v0 : Option Nat) (v1 : Int32) (v2 : Int32)  (h : Hp) (r : Int32 × Hp) (hb : b_153_33 v0 v1 v2  h = some r) : Rn d 153 33 [some (va_rf v0), some (.int v1), some (.int v2)] [] h (some (.int r.1), r.2) := by
  unfold b_153_33 at hb
  refine rn_aload_n (i := 0) rfl rfl ?_
  refine rn_gQ (c := 10) (k := 1) rfl (by decide) hb (fun x1 hb => ?_)
  refine rn_bipush (x := (nI 10)) rfl (by decide) ?_
  refine rn_iload_n (i := 2) rfl rfl ?_
  refine rn_imul rfl ?_
  refine rn_iload_n (i := 1) rfl rfl ?_
  refine rn_iadd rfl ?_
  refine rn_pI (c := 7) (k := 3) rfl (by decide) hb (fun h2 hb => ?_)
  refine rn_iconst (x := (nI 1)) rfl (by decide) ?_
  obtain ⟨hz, hb⟩ := grd_spec hb
  obtain rfl := Option.some.inj hb
  exact rn_zret rfl rfl (of_decide_eq_true hz)
def b_153_15 (v0 : Option Nat) (v1 : Int32) (v2 : Int32)  (h : Hp) : Option (Int32 × Hp) :=
  (gQ 10 1 v0 h).bind fun x1 =>
  (grd (rC 7 x1 h)).bind fun _ =>
  (f_85 x1 (((nI 10) * v2) + v1) h).bind fun p2 =>
  if p2.1 = 0 then b_153_33 v0 v1 v2  p2.2 else b_153_31   p2.2
theorem u_153_15 (d : Nat) (hd : 2 ≤ d) (v0 : Option Nat) (v1 : Int32) (v2 : Int32)  (h : Hp) (r : Int32 × Hp) (hb : b_153_15 v0 v1 v2  h = some r) : Rn d 153 15 [some (va_rf v0), some (.int v1), some (.int v2)] [] h (some (.int r.1), r.2) := by
  unfold b_153_15 at hb
  obtain ⟨e, rfl⟩ : ∃ e, d = e + 1 := ⟨d - 1, by omega⟩
  refine rn_aload_n (i := 0) rfl rfl ?_
  refine rn_gQ (c := 10) (k := 1) rfl (by decide) hb (fun x1 hb => ?_)
  refine rn_bipush (x := (nI 10)) rfl (by decide) ?_
  refine rn_iload_n (i := 2) rfl rfl ?_
  refine rn_imul rfl ?_
  refine rn_iload_n (i := 1) rfl rfl ?_
  refine rn_iadd rfl ?_
  obtain ⟨hrc, hb⟩ := grd_spec hb
  obtain ⟨p2, hc, hb⟩ := Option.bind_eq_some_iff.mp hb
  refine Rn.call1 (d := e) (As := [va_rf x1, .int (((nI 10) * v2) + v1)]) (rest := []) rfl rfl rfl (by decide) rfl rfl rfl (bd_rcV hrc rfl) (by decide) (bd_lenC (n := 3) rfl (bd_slR (bd_slI bd_slN)) rfl) (bd_locC (n := 3) rfl (bd_slR (bd_slI bd_slN)) rfl (t_85 e (by omega) x1 (((nI 10) * v2) + v1) h _ hc)) ?_
  refine rn_if_eq rfl rfl (fun hc => ?_) (fun hc => ?_)
  · exact u_153_33 (e + 1) hd v0 v1 v2  p2.2 _ (if_t hb hc)
  · exact u_153_31 (e + 1) hd v0 v1 v2  p2.2 _ (if_f hb hc)
def b_153_0 (v0 : Option Nat) (v1 : Int32) (v2 : Int32)  (h : Hp) : Option (Int32 × Hp) :=
  (gQ 10 1 v0 h).bind fun x1 =>
  (gQ 7 2 x1 h).bind fun x2 =>
  (grd (rC 4 x2 h)).bind fun _ =>
  (f_51 x2 v1 v2 h).bind fun p3 =>
  if p3.1 = 0 then b_153_31   p3.2 else b_153_15 v0 v1 v2  p3.2
theorem u_153_0 (d : Nat) (hd : 2 ≤ d) (v0 : Option Nat) (v1 : Int32) (v2 : Int32)  (h : Hp) (r : Int32 × Hp) (hb : b_153_0 v0 v1 v2  h = some r) : Rn d 153 0 [some (va_rf v0), some (.int v1), some (.int v2)] [] h (some (.int r.1), r.2) := by
  unfold b_153_0 at hb
  obtain ⟨e, rfl⟩ : ∃ e, d = e + 1 := ⟨d - 1, by omega⟩
  refine rn_aload_n (i := 0) rfl rfl ?_
  refine rn_gQ (c := 10) (k := 1) rfl (by decide) hb (fun x1 hb => ?_)
  refine rn_gQ (c := 7) (k := 2) rfl (by decide) hb (fun x2 hb => ?_)
  refine rn_iload_n (i := 1) rfl rfl ?_
  refine rn_iload_n (i := 2) rfl rfl ?_
  obtain ⟨hrc, hb⟩ := grd_spec hb
  obtain ⟨p3, hc, hb⟩ := Option.bind_eq_some_iff.mp hb
  refine Rn.call1 (d := e) (As := [va_rf x2, .int v1, .int v2]) (rest := []) rfl rfl rfl (by decide) rfl rfl rfl (bd_rcV hrc rfl) (by decide) (bd_lenC (n := 4) rfl (bd_slR (bd_slI (bd_slI bd_slN))) rfl) (bd_locC (n := 4) rfl (bd_slR (bd_slI (bd_slI bd_slN))) rfl (t_51 e (by omega) x2 v1 v2 h _ hc)) ?_
  refine rn_if_eq rfl rfl (fun hc => ?_) (fun hc => ?_)
  · exact u_153_31 (e + 1) hd v0 v1 v2  p3.2 _ (if_t hb hc)
  · exact u_153_15 (e + 1) hd v0 v1 v2  p3.2 _ (if_f hb hc)
/-- BitingDoors.stand(II)Z -/
def f_153 (v0 : Option Nat) (v1 : Int32) (v2 : Int32) (h : Hp) : Option (Int32 × Hp) := b_153_0 v0 v1 v2 h
theorem t_153 (d : Nat) (hd : 2 ≤ d) (v0 : Option Nat) (v1 : Int32) (v2 : Int32) (h : Hp) (r : Int32 × Hp) (hb : f_153 v0 v1 v2 h = some r) : Rn d 153 0 [some (va_rf v0), some (.int v1), some (.int v2)] [] h (some (.int r.1), r.2) := by
  unfold f_153 at hb
  exact u_153_0 d hd v0 v1 v2 h r hb
def b_154_0 (v0 : Option Nat)  (h : Hp) : Option (Int32 × Hp) :=
  (gQ 10 1 v0 h).bind fun x1 =>
  (gI 7 3 x1 h).bind fun x2 =>
  some (x2, h)
theorem u_154_0 (d : Nat) (hd : 0 ≤ d) (v0 : Option Nat)  (h : Hp) (r : Int32 × Hp) (hb : b_154_0 v0  h = some r) : Rn d 154 0 [some (va_rf v0)] [] h (some (.int r.1), r.2) := by
  unfold b_154_0 at hb
  refine rn_aload_n (i := 0) rfl rfl ?_
  refine rn_gQ (c := 10) (k := 1) rfl (by decide) hb (fun x1 hb => ?_)
  refine rn_gI (c := 7) (k := 3) rfl (by decide) hb (fun x2 hb => ?_)
  obtain rfl := Option.some.inj hb
  exact rn_iret rfl rfl
/-- BitingDoors.place()I -/
def f_154 (v0 : Option Nat) (h : Hp) : Option (Int32 × Hp) := b_154_0 v0 h
theorem t_154 (d : Nat) (hd : 0 ≤ d) (v0 : Option Nat) (h : Hp) (r : Int32 × Hp) (hb : f_154 v0 h = some r) : Rn d 154 0 [some (va_rf v0)] [] h (some (.int r.1), r.2) := by
  unfold f_154 at hb
  exact u_154_0 d hd v0 h r hb
def b_155_53 (v2 : Int32)  (h : Hp) : Option (Int32 × Hp) :=
  some (v2, h)
theorem u_155_53 (d : Nat) (hd : 4 ≤ d) (v0 : Option Nat) (v1 : Int32) (v2 : Int32)  (h : Hp) (r : Int32 × Hp) (hb : b_155_53 v2  h = some r) : Rn d 155 53 [some (va_rf v0), some (.int v1), some (.int v2)] [] h (some (.int r.1), r.2) := by
  unfold b_155_53 at hb
  refine rn_iload_n (i := 2) rfl rfl ?_
  obtain rfl := Option.some.inj hb
  exact rn_iret rfl rfl
def b_155_27 (v0 : Option Nat) (v1 : Int32) (v2 : Int32)  (h : Hp) : Option (Int32 × Hp) :=
  (gQ 10 1 v0 h).bind fun x1 =>
  (grd (rC 7 x1 h)).bind fun _ =>
  (f_94 x1 v1 h).bind fun p2 =>
  (gQ 10 1 v0 p2).bind fun x3 =>
  (grd (rC 7 x3 p2)).bind fun _ =>
  (f_95 x3 p2).bind fun p4 =>
  (gI 10 13 v0 p4.2).bind fun x5 =>
  (pI 10 13 v0 (x5 + (nI 1)) p4.2).bind fun h6 =>
  b_155_53 v2  h6
theorem u_155_27 (d : Nat) (hd : 4 ≤ d) (v0 : Option Nat) (v1 : Int32) (v2 : Int32)  (h : Hp) (r : Int32 × Hp) (hb : b_155_27 v0 v1 v2  h = some r) : Rn d 155 27 [some (va_rf v0), some (.int v1), some (.int v2)] [] h (some (.int r.1), r.2) := by
  unfold b_155_27 at hb
  obtain ⟨e, rfl⟩ : ∃ e, d = e + 1 := ⟨d - 1, by omega⟩
  refine rn_aload_n (i := 0) rfl rfl ?_
  refine rn_gQ (c := 10) (k := 1) rfl (by decide) hb (fun x1 hb => ?_)
  refine rn_iload_n (i := 1) rfl rfl ?_
  obtain ⟨hrc, hb⟩ := grd_spec hb
  obtain ⟨p2, hc, hb⟩ := Option.bind_eq_some_iff.mp hb
  refine Rn.call0 (d := e) (As := [va_rf x1, .int v1]) (rest := []) rfl rfl rfl (by decide) rfl rfl rfl (bd_rcV hrc rfl) (by decide) (bd_lenC (n := 2) rfl (bd_slR (bd_slI bd_slN)) rfl) (bd_locC (n := 2) rfl (bd_slR (bd_slI bd_slN)) rfl (t_94 e (by omega) x1 v1 h _ hc)) ?_
  refine rn_aload_n (i := 0) rfl rfl ?_
  refine rn_gQ (c := 10) (k := 1) rfl (by decide) hb (fun x3 hb => ?_)
  obtain ⟨hrc, hb⟩ := grd_spec hb
  obtain ⟨p4, hc, hb⟩ := Option.bind_eq_some_iff.mp hb
  refine Rn.call1 (d := e) (As := [va_rf x3]) (rest := []) rfl rfl rfl (by decide) rfl rfl rfl (bd_rcV hrc rfl) (by decide) (bd_lenC (n := 6) rfl (bd_slR bd_slN) rfl) (bd_locC (n := 6) rfl (bd_slR bd_slN) rfl (t_95 e (by omega) x3 p2 _ hc)) ?_
  refine rn_pop rfl rfl ?_
  refine rn_aload_n (i := 0) rfl rfl ?_
  refine rn_dup rfl (bd_cat_rf _) ?_
  refine rn_gI (c := 10) (k := 13) rfl (by decide) hb (fun x5 hb => ?_)
  refine rn_iconst (x := (nI 1)) rfl (by decide) ?_
  refine rn_iadd rfl ?_
  refine rn_pI (c := 10) (k := 13) rfl (by decide) hb (fun h6 hb => ?_)
  exact u_155_53 (e + 1) hd v0 v1 v2  h6 _ hb
def b_155_14 (v0 : Option Nat) (v1 : Int32)  (h : Hp) : Option (Int32 × Hp) :=
  (gQ 10 1 v0 h).bind fun x1 =>
  (grd (rC 7 x1 h)).bind fun _ =>
  (f_90 x1 v1 h).bind fun p2 =>
  bnd (p2.1) fun x3 =>
  if ¬ x3 = 0 then b_155_53 x3  p2.2 else b_155_27 v0 v1 x3  p2.2
theorem u_155_14 (d : Nat) (hd : 4 ≤ d) (v0 : Option Nat) (v1 : Int32)  (h : Hp) (r : Int32 × Hp) (hb : b_155_14 v0 v1  h = some r) : Rn d 155 14 [some (va_rf v0), some (.int v1), none] [] h (some (.int r.1), r.2) := by
  unfold b_155_14 at hb
  obtain ⟨e, rfl⟩ : ∃ e, d = e + 1 := ⟨d - 1, by omega⟩
  refine rn_aload_n (i := 0) rfl rfl ?_
  refine rn_gQ (c := 10) (k := 1) rfl (by decide) hb (fun x1 hb => ?_)
  refine rn_iload_n (i := 1) rfl rfl ?_
  obtain ⟨hrc, hb⟩ := grd_spec hb
  obtain ⟨p2, hc, hb⟩ := Option.bind_eq_some_iff.mp hb
  refine Rn.call1 (d := e) (As := [va_rf x1, .int v1]) (rest := []) rfl rfl rfl (by decide) rfl rfl rfl (bd_rcV hrc rfl) (by decide) (bd_lenC (n := 2) rfl (bd_slR (bd_slI bd_slN)) rfl) (bd_locC (n := 2) rfl (bd_slR (bd_slI bd_slN)) rfl (t_90 e (by omega) x1 v1 h _ hc)) ?_
  obtain ⟨x3, ex3, hb⟩ := bnd_spec hb
  refine rn_istore_n (i := 2) (L1 := [some (va_rf v0), some (.int v1), some (.int x3)]) rfl (Nat.le_of_ble_eq_true rfl) (Or.inr rfl) (by rw [ex3]; rfl) ?_
  refine rn_iload_n (i := 2) rfl rfl ?_
  refine rn_if_ne rfl rfl (fun hc => ?_) (fun hc => ?_)
  · exact u_155_53 (e + 1) hd v0 v1 x3  p2.2 _ (if_t hb hc)
  · exact u_155_27 (e + 1) hd v0 v1 x3  p2.2 _ (if_f hb hc)
def b_155_11   (h : Hp) : Option (Int32 × Hp) :=
  some ((-2 : Int32), h)
theorem u_155_11 (d : Nat) (hd : 4 ≤ d) (v0 : Option Nat) (v1 : Int32)  (h : Hp) (r : Int32 × Hp) (hb : b_155_11   h = some r) : Rn d 155 11 [some (va_rf v0), some (.int v1), none] [] h (some (.int r.1), r.2) := by
  unfold b_155_11 at hb
  refine rn_bipush (x := (-2 : Int32)) rfl (by decide) ?_
  obtain rfl := Option.some.inj hb
  exact rn_iret rfl rfl
def b_155_0 (v0 : Option Nat) (v1 : Int32)  (h : Hp) : Option (Int32 × Hp) :=
  (gQ 10 1 v0 h).bind fun x1 =>
  (grd (rC 7 x1 h)).bind fun _ =>
  (f_89 x1 v1 h).bind fun p2 =>
  if ¬ p2.1 = 0 then b_155_14 v0 v1  p2.2 else b_155_11   p2.2
theorem u_155_0 (d : Nat) (hd : 4 ≤ d) (v0 : Option Nat) (v1 : Int32)  (h : Hp) (r : Int32 × Hp) (hb : b_155_0 v0 v1  h = some r) : Rn d 155 0 [some (va_rf v0), some (.int v1), none] [] h (some (.int r.1), r.2) := by
  unfold b_155_0 at hb
  obtain ⟨e, rfl⟩ : ∃ e, d = e + 1 := ⟨d - 1, by omega⟩
  refine rn_aload_n (i := 0) rfl rfl ?_
  refine rn_gQ (c := 10) (k := 1) rfl (by decide) hb (fun x1 hb => ?_)
  refine rn_iload_n (i := 1) rfl rfl ?_
  obtain ⟨hrc, hb⟩ := grd_spec hb
  obtain ⟨p2, hc, hb⟩ := Option.bind_eq_some_iff.mp hb
  refine Rn.call1 (d := e) (As := [va_rf x1, .int v1]) (rest := []) rfl rfl rfl (by decide) rfl rfl rfl (bd_rcV hrc rfl) (by decide) (bd_lenC (n := 2) rfl (bd_slR (bd_slI bd_slN)) rfl) (bd_locC (n := 2) rfl (bd_slR (bd_slI bd_slN)) rfl (t_89 e (by omega) x1 v1 h _ hc)) ?_
  refine rn_if_ne rfl rfl (fun hc => ?_) (fun hc => ?_)
  · exact u_155_14 (e + 1) hd v0 v1  p2.2 _ (if_t hb hc)
  · exact u_155_11 (e + 1) hd v0 v1  p2.2 _ (if_f hb hc)
/-- BitingDoors.does(I)I -/
def f_155 (v0 : Option Nat) (v1 : Int32) (h : Hp) : Option (Int32 × Hp) := b_155_0 v0 v1 h
theorem t_155 (d : Nat) (hd : 4 ≤ d) (v0 : Option Nat) (v1 : Int32) (h : Hp) (r : Int32 × Hp) (hb : f_155 v0 v1 h = some r) : Rn d 155 0 [some (va_rf v0), some (.int v1), none] [] h (some (.int r.1), r.2) := by
  unfold f_155 at hb
  exact u_155_0 d hd v0 v1 h r hb
def b_156_0 (v0 : Option Nat)  (h : Hp) : Option (Int32 × Hp) :=
  (gI 10 13 v0 h).bind fun x1 =>
  some (x1, h)
theorem u_156_0 (d : Nat) (hd : 0 ≤ d) (v0 : Option Nat)  (h : Hp) (r : Int32 × Hp) (hb : b_156_0 v0  h = some r) : Rn d 156 0 [some (va_rf v0)] [] h (some (.int r.1), r.2) := by
  unfold b_156_0 at hb
  refine rn_aload_n (i := 0) rfl rfl ?_
  refine rn_gI (c := 10) (k := 13) rfl (by decide) hb (fun x1 hb => ?_)
  obtain rfl := Option.some.inj hb
  exact rn_iret rfl rfl
/-- BitingDoors.minutes()I -/
def f_156 (v0 : Option Nat) (h : Hp) : Option (Int32 × Hp) := b_156_0 v0 h
theorem t_156 (d : Nat) (hd : 0 ≤ d) (v0 : Option Nat) (h : Hp) (r : Int32 × Hp) (hb : f_156 v0 h = some r) : Rn d 156 0 [some (va_rf v0)] [] h (some (.int r.1), r.2) := by
  unfold f_156 at hb
  exact u_156_0 d hd v0 h r hb
def b_157_37 (v0 : Option Nat) (v1 : Option Nat)  (h : Hp) : Option (Int32 × Hp) :=
  (pQ 10 11 v0 v1 h).bind fun h1 =>
  (gI 0 2 v1 h1).bind fun x2 =>
  some (x2, h1)
theorem u_157_37 (d : Nat) (hd : 6 ≤ d) (v0 : Option Nat) (v1 : Option Nat)  (h : Hp) (r : Int32 × Hp) (hb : b_157_37 v0 v1  h = some r) : Rn d 157 37 [some (va_rf v0), some (va_rf v1)] [] h (some (.int r.1), r.2) := by
  unfold b_157_37 at hb
  refine rn_aload_n (i := 0) rfl rfl ?_
  refine rn_aload_n (i := 1) rfl rfl ?_
  refine rn_pQ (c := 10) (k := 11) rfl (by decide) hb (fun h1 hb => ?_)
  refine rn_aload_n (i := 1) rfl rfl ?_
  refine rn_gI (c := 0) (k := 2) rfl (by decide) hb (fun x2 hb => ?_)
  obtain rfl := Option.some.inj hb
  exact rn_iret rfl rfl
def b_157_27 (v0 : Option Nat)  (h : Hp) : Option (Int32 × Hp) :=
  (gQ 10 0 v0 h).bind fun x1 =>
  (gI 9 7 x1 h).bind fun x2 =>
  some (((-1 : Int32) - x2), h)
theorem u_157_27 (d : Nat) (hd : 6 ≤ d) (v0 : Option Nat) (v1 : Option Nat)  (h : Hp) (r : Int32 × Hp) (hb : b_157_27 v0  h = some r) : Rn d 157 27 [some (va_rf v0), some (va_rf v1)] [] h (some (.int r.1), r.2) := by
  unfold b_157_27 at hb
  refine rn_iconst (x := (-1 : Int32)) rfl (by decide) ?_
  refine rn_aload_n (i := 0) rfl rfl ?_
  refine rn_gQ (c := 10) (k := 0) rfl (by decide) hb (fun x1 hb => ?_)
  refine rn_gI (c := 9) (k := 7) rfl (by decide) hb (fun x2 hb => ?_)
  refine rn_isub rfl ?_
  obtain rfl := Option.some.inj hb
  exact rn_iret rfl rfl
def b_157_0 (v0 : Option Nat)  (h : Hp) : Option (Int32 × Hp) :=
  (gQ 10 0 v0 h).bind fun x1 =>
  (gQ 10 1 v0 h).bind fun x2 =>
  (gQ 7 2 x2 h).bind fun x3 =>
  (f_1 x1 x3 h).bind fun p4 =>
  bnd (p4.1) fun x5 =>
  (gQ 10 0 v0 p4.2).bind fun x6 =>
  (pI 9 1 x6 (nI 0) p4.2).bind fun h7 =>
  if ¬ x5 = none then b_157_37 v0 x5  h7 else b_157_27 v0  h7
theorem u_157_0 (d : Nat) (hd : 6 ≤ d) (v0 : Option Nat)  (h : Hp) (r : Int32 × Hp) (hb : b_157_0 v0  h = some r) : Rn d 157 0 [some (va_rf v0), none] [] h (some (.int r.1), r.2) := by
  unfold b_157_0 at hb
  obtain ⟨e, rfl⟩ : ∃ e, d = e + 1 := ⟨d - 1, by omega⟩
  refine rn_aload_n (i := 0) rfl rfl ?_
  refine rn_gQ (c := 10) (k := 0) rfl (by decide) hb (fun x1 hb => ?_)
  refine rn_aload_n (i := 0) rfl rfl ?_
  refine rn_gQ (c := 10) (k := 1) rfl (by decide) hb (fun x2 hb => ?_)
  refine rn_gQ (c := 7) (k := 2) rfl (by decide) hb (fun x3 hb => ?_)
  obtain ⟨p4, hc, hb⟩ := Option.bind_eq_some_iff.mp hb
  refine Rn.call1 (d := e) (As := [va_rf x1, va_rf x3]) (rest := []) rfl rfl rfl (by decide) rfl rfl rfl rfl (by decide) (bd_lenC (n := 3) rfl (bd_slR (bd_slR bd_slN)) rfl) (bd_locC (n := 3) rfl (bd_slR (bd_slR bd_slN)) rfl (t_1 e (by omega) x1 x3 h _ hc)) ?_
  obtain ⟨x5, ex5, hb⟩ := bnd_spec hb
  refine rn_astore_n (i := 1) (L1 := [some (va_rf v0), some (va_rf x5)]) rfl (Nat.le_of_ble_eq_true rfl) (Or.inr (bd_wideR rfl)) (by rw [ex5]; rfl) ?_
  refine rn_aload_n (i := 0) rfl rfl ?_
  refine rn_gQ (c := 10) (k := 0) rfl (by decide) hb (fun x6 hb => ?_)
  refine rn_iconst (x := (nI 0)) rfl (by decide) ?_
  refine rn_pI (c := 9) (k := 1) rfl (by decide) hb (fun h7 hb => ?_)
  refine rn_aload_n (i := 1) rfl rfl ?_
  refine rn_ifnonnull rfl rfl (fun hc => ?_) (fun hc => ?_)
  · exact u_157_37 (e + 1) hd v0 x5  h7 _ (if_t hb hc)
  · exact u_157_27 (e + 1) hd v0 x5  h7 _ (if_f hb (fun z => z hc))
/-- BitingDoors.day()I -/
def f_157 (v0 : Option Nat) (h : Hp) : Option (Int32 × Hp) := b_157_0 v0 h
theorem t_157 (d : Nat) (hd : 6 ≤ d) (v0 : Option Nat) (h : Hp) (r : Int32 × Hp) (hb : f_157 v0 h = some r) : Rn d 157 0 [some (va_rf v0), none] [] h (some (.int r.1), r.2) := by
  unfold f_157 at hb
  exact u_157_0 d hd v0 h r hb
def b_174_24  (s0 : Int32) (h : Hp) : Option (Int32 × Hp) :=
  some (s0, h)
theorem u_174_24 (d : Nat) (hd : 4 ≤ d) (v0 : Option Nat) (v1 : Option Nat) (v2 : Int32) (v3 : Int32) (s0 : Int32) (h : Hp) (r : Int32 × Hp) (hb : b_174_24  s0 h = some r) : Rn d 174 24 [some (va_rf v0), some (va_rf v1), some (.int v2), some (.int v3)] [.int s0] h (some (.int r.1), r.2) := by
  unfold b_174_24 at hb
  obtain rfl := Option.some.inj hb
  exact rn_iret rfl rfl
def b_174_23 (v3 : Int32)  (h : Hp) : Option (Int32 × Hp) :=
  b_174_24  v3 h
theorem u_174_23 (d : Nat) (hd : 4 ≤ d) (v0 : Option Nat) (v1 : Option Nat) (v2 : Int32) (v3 : Int32)  (h : Hp) (r : Int32 × Hp) (hb : b_174_23 v3  h = some r) : Rn d 174 23 [some (va_rf v0), some (va_rf v1), some (.int v2), some (.int v3)] [] h (some (.int r.1), r.2) := by
  unfold b_174_23 at hb
  refine rn_iload_n (i := 3) rfl rfl ?_
  exact u_174_24 d hd v0 v1 v2 v3 v3 h _ hb
def b_174_19   (h : Hp) : Option (Int32 × Hp) :=
  b_174_24  (nI 5) h
theorem u_174_19 (d : Nat) (hd : 4 ≤ d) (v0 : Option Nat) (v1 : Option Nat) (v2 : Int32) (v3 : Int32)  (h : Hp) (r : Int32 × Hp) (hb : b_174_19   h = some r) : Rn d 174 19 [some (va_rf v0), some (va_rf v1), some (.int v2), some (.int v3)] [] h (some (.int r.1), r.2) := by
  unfold b_174_19 at hb
  refine rn_iconst (x := (nI 5)) rfl (by decide) ?_
  refine rn_goto rfl rfl ?_
  exact u_174_24 d hd v0 v1 v2 v3 (nI 5) h _ hb
def b_174_11 (v1 : Option Nat) (v2 : Int32) (v3 : Int32)  (h : Hp) : Option (Int32 × Hp) :=
  (grd (rC 7 v1 h)).bind fun _ =>
  (f_96 v1 v2 h).bind fun p1 =>
  if p1.1 = 0 then b_174_23 v3  p1.2 else b_174_19   p1.2
theorem u_174_11 (d : Nat) (hd : 4 ≤ d) (v0 : Option Nat) (v1 : Option Nat) (v2 : Int32) (v3 : Int32)  (h : Hp) (r : Int32 × Hp) (hb : b_174_11 v1 v2 v3  h = some r) : Rn d 174 11 [some (va_rf v0), some (va_rf v1), some (.int v2), some (.int v3)] [] h (some (.int r.1), r.2) := by
  unfold b_174_11 at hb
  obtain ⟨e, rfl⟩ : ∃ e, d = e + 1 := ⟨d - 1, by omega⟩
  refine rn_aload_n (i := 1) rfl rfl ?_
  refine rn_iload_n (i := 2) rfl rfl ?_
  obtain ⟨hrc, hb⟩ := grd_spec hb
  obtain ⟨p1, hc, hb⟩ := Option.bind_eq_some_iff.mp hb
  refine Rn.call1 (d := e) (As := [va_rf v1, .int v2]) (rest := []) rfl rfl rfl (by decide) rfl rfl rfl (bd_rcV hrc rfl) (by decide) (bd_lenC (n := 2) rfl (bd_slR (bd_slI bd_slN)) rfl) (bd_locC (n := 2) rfl (bd_slR (bd_slI bd_slN)) rfl (t_96 e (by omega) v1 v2 h _ hc)) ?_
  refine rn_if_eq rfl rfl (fun hc => ?_) (fun hc => ?_)
  · exact u_174_23 (e + 1) hd v0 v1 v2 v3  p1.2 _ (if_t hb hc)
  · exact u_174_19 (e + 1) hd v0 v1 v2 v3  p1.2 _ (if_f hb hc)
def b_174_0 (v1 : Option Nat) (v2 : Int32)  (h : Hp) : Option (Int32 × Hp) :=
  (grd (rC 7 v1 h)).bind fun _ =>
  (f_90 v1 v2 h).bind fun p1 =>
  bnd (p1.1) fun x2 =>
  if x2 ≤ (nI 5) then b_174_23 x2  p1.2 else b_174_11 v1 v2 x2  p1.2
theorem u_174_0 (d : Nat) (hd : 4 ≤ d) (v0 : Option Nat) (v1 : Option Nat) (v2 : Int32)  (h : Hp) (r : Int32 × Hp) (hb : b_174_0 v1 v2  h = some r) : Rn d 174 0 [some (va_rf v0), some (va_rf v1), some (.int v2), none] [] h (some (.int r.1), r.2) := by
  unfold b_174_0 at hb
  obtain ⟨e, rfl⟩ : ∃ e, d = e + 1 := ⟨d - 1, by omega⟩
  refine rn_aload_n (i := 1) rfl rfl ?_
  refine rn_iload_n (i := 2) rfl rfl ?_
  obtain ⟨hrc, hb⟩ := grd_spec hb
  obtain ⟨p1, hc, hb⟩ := Option.bind_eq_some_iff.mp hb
  refine Rn.call1 (d := e) (As := [va_rf v1, .int v2]) (rest := []) rfl rfl rfl (by decide) rfl rfl rfl (bd_rcV hrc rfl) (by decide) (bd_lenC (n := 2) rfl (bd_slR (bd_slI bd_slN)) rfl) (bd_locC (n := 2) rfl (bd_slR (bd_slI bd_slN)) rfl (t_90 e (by omega) v1 v2 h _ hc)) ?_
  obtain ⟨x2, ex2, hb⟩ := bnd_spec hb
  refine rn_istore_n (i := 3) (L1 := [some (va_rf v0), some (va_rf v1), some (.int v2), some (.int x2)]) rfl (Nat.le_of_ble_eq_true rfl) (Or.inr rfl) (by rw [ex2]; rfl) ?_
  refine rn_iload_n (i := 3) rfl rfl ?_
  refine rn_iconst (x := (nI 5)) rfl (by decide) ?_
  refine rn_icmp_le rfl rfl (fun hc => ?_) (fun hc => ?_)
  · exact u_174_23 (e + 1) hd v0 v1 v2 x2  p1.2 _ (if_t hb hc)
  · exact u_174_11 (e + 1) hd v0 v1 v2 x2  p1.2 _ (if_f hb hc)
/-- BitingDoors.knockInDay(LBitingDoors$Scene;I)I -/
def f_174 (v0 : Option Nat) (v1 : Option Nat) (v2 : Int32) (h : Hp) : Option (Int32 × Hp) := b_174_0 v1 v2 h
theorem t_174 (d : Nat) (hd : 4 ≤ d) (v0 : Option Nat) (v1 : Option Nat) (v2 : Int32) (h : Hp) (r : Int32 × Hp) (hb : f_174 v0 v1 v2 h = some r) : Rn d 174 0 [some (va_rf v0), some (va_rf v1), some (.int v2), none] [] h (some (.int r.1), r.2) := by
  unfold f_174 at hb
  exact u_174_0 d hd v0 v1 v2 h r hb
