def b_66_30 (v0 : Option Nat) (v1 : Option Nat)  (h : Hp) : Option (Int32 × Hp) :=
  (gQ 5 0 v0 h).bind fun x1 =>
  (gI 9 4 x1 h).bind fun x2 =>
  (pI 1 12 v1 x2 h).bind fun h3 =>
  (gQ 5 0 v0 h3).bind fun x4 =>
  (grd (rC 9 x4 h3)).bind fun _ =>
  (f_117 x4 h3).bind fun p5 =>
  (grd (decide ((nI 1) = 0 ∨ (nI 1) = 1))).bind fun _ => some ((nI 1), p5)
theorem u_66_30 (d : Nat) (hd : 3 ≤ d) (v0 : Option Nat) (v1 : Option Nat)  (h : Hp) (r : Int32 × Hp) (hb : b_66_30 v0 v1  h = some r) : Rn d 66 30 [some (va_rf v0), some (va_rf v1)] [] h (some (.int r.1), r.2) := by
  unfold b_66_30 at hb
  obtain ⟨e, rfl⟩ : ∃ e, d = e + 1 := ⟨d - 1, by omega⟩
  refine rn_aload_n (i := 1) rfl rfl ?_
  refine rn_aload_n (i := 0) rfl rfl ?_
  refine rn_gQ (c := 5) (k := 0) rfl (by decide) hb (fun x1 hb => ?_)
  refine rn_gI (c := 9) (k := 4) rfl (by decide) hb (fun x2 hb => ?_)
  refine rn_pI (c := 1) (k := 12) rfl (by decide) hb (fun h3 hb => ?_)
  refine rn_aload_n (i := 0) rfl rfl ?_
  refine rn_gQ (c := 5) (k := 0) rfl (by decide) hb (fun x4 hb => ?_)
  obtain ⟨hrc, hb⟩ := grd_spec hb
  obtain ⟨p5, hc, hb⟩ := Option.bind_eq_some_iff.mp hb
  refine Rn.call0 (d := e) (As := [va_rf x4]) (rest := []) rfl rfl rfl (by decide) rfl rfl rfl (bd_rcV hrc rfl) (by decide) (bd_lenC (n := 3) rfl (bd_slR bd_slN) rfl) (bd_locC (n := 3) rfl (bd_slR bd_slN) rfl (t_117 e (by omega) x4 h3 _ hc)) ?_
  refine rn_iconst (x := (nI 1)) rfl (by decide) ?_
  obtain ⟨hz, hb⟩ := grd_spec hb
  obtain rfl := Option.some.inj hb
  exact rn_zret rfl rfl (of_decide_eq_true hz)
def b_66_28   (h : Hp) : Option (Int32 × Hp) :=
  (grd (decide ((nI 0) = 0 ∨ (nI 0) = 1))).bind fun _ => some ((nI 0), h)
theorem u_66_28 (d : Nat) (hd : 3 ≤ d) (v0 : Option Nat) (v1 : Option Nat)  (h : Hp) (r : Int32 × Hp) (hb : b_66_28   h = some r) : Rn d 66 28 [some (va_rf v0), some (va_rf v1)] [] h (some (.int r.1), r.2) := by
  unfold b_66_28 at hb
  refine rn_iconst (x := (nI 0)) rfl (by decide) ?_
  obtain ⟨hz, hb⟩ := grd_spec hb
  obtain rfl := Option.some.inj hb
  exact rn_zret rfl rfl (of_decide_eq_true hz)
def b_66_15 (v0 : Option Nat) (v1 : Option Nat)  (h : Hp) : Option (Int32 × Hp) :=
  (gQ 5 0 v0 h).bind fun x1 =>
  (grd (rC 9 x1 h)).bind fun _ =>
  (f_124 x1 (nI 1) (nI 99) h).bind fun p2 =>
  if ¬ p2.1 = 0 then b_66_30 v0 v1  p2.2 else b_66_28   p2.2
theorem u_66_15 (d : Nat) (hd : 3 ≤ d) (v0 : Option Nat) (v1 : Option Nat)  (h : Hp) (r : Int32 × Hp) (hb : b_66_15 v0 v1  h = some r) : Rn d 66 15 [some (va_rf v0), some (va_rf v1)] [] h (some (.int r.1), r.2) := by
  unfold b_66_15 at hb
  obtain ⟨e, rfl⟩ : ∃ e, d = e + 1 := ⟨d - 1, by omega⟩
  refine rn_aload_n (i := 0) rfl rfl ?_
  refine rn_gQ (c := 5) (k := 0) rfl (by decide) hb (fun x1 hb => ?_)
  refine rn_iconst (x := (nI 1)) rfl (by decide) ?_
  refine rn_bipush (x := (nI 99)) rfl (by decide) ?_
  obtain ⟨hrc, hb⟩ := grd_spec hb
  obtain ⟨p2, hc, hb⟩ := Option.bind_eq_some_iff.mp hb
  refine Rn.call1 (d := e) (As := [va_rf x1, .int (nI 1), .int (nI 99)]) (rest := []) rfl rfl rfl (by decide) rfl rfl rfl (bd_rcV hrc rfl) (by decide) (bd_lenC (n := 3) rfl (bd_slR (bd_slI (bd_slI bd_slN))) rfl) (bd_locC (n := 3) rfl (bd_slR (bd_slI (bd_slI bd_slN))) rfl (t_124 e (by omega) x1 (nI 1) (nI 99) h _ hc)) ?_
  refine rn_if_ne rfl rfl (fun hc => ?_) (fun hc => ?_)
  · exact u_66_30 (e + 1) hd v0 v1  p2.2 _ (if_t hb hc)
  · exact u_66_28 (e + 1) hd v0 v1  p2.2 _ (if_f hb hc)
def b_66_13   (h : Hp) : Option (Int32 × Hp) :=
  (grd (decide ((nI 1) = 0 ∨ (nI 1) = 1))).bind fun _ => some ((nI 1), h)
theorem u_66_13 (d : Nat) (hd : 3 ≤ d) (v0 : Option Nat) (v1 : Option Nat)  (h : Hp) (r : Int32 × Hp) (hb : b_66_13   h = some r) : Rn d 66 13 [some (va_rf v0), some (va_rf v1)] [] h (some (.int r.1), r.2) := by
  unfold b_66_13 at hb
  refine rn_iconst (x := (nI 1)) rfl (by decide) ?_
  obtain ⟨hz, hb⟩ := grd_spec hb
  obtain rfl := Option.some.inj hb
  exact rn_zret rfl rfl (of_decide_eq_true hz)
def b_66_0 (v0 : Option Nat) (v1 : Option Nat)  (h : Hp) : Option (Int32 × Hp) :=
  (gQ 5 0 v0 h).bind fun x1 =>
  (grd (rC 9 x1 h)).bind fun _ =>
  (f_122 x1 (some 5) h).bind fun p2 =>
  if ¬ p2.1 = 0 then b_66_15 v0 v1  p2.2 else b_66_13   p2.2
theorem u_66_0 (d : Nat) (hd : 3 ≤ d) (v0 : Option Nat) (v1 : Option Nat)  (h : Hp) (r : Int32 × Hp) (hb : b_66_0 v0 v1  h = some r) : Rn d 66 0 [some (va_rf v0), some (va_rf v1)] [] h (some (.int r.1), r.2) := by
  unfold b_66_0 at hb
  obtain ⟨e, rfl⟩ : ∃ e, d = e + 1 := ⟨d - 1, by omega⟩
  refine rn_aload_n (i := 0) rfl rfl ?_
  refine rn_gQ (c := 5) (k := 0) rfl (by decide) hb (fun x1 hb => ?_)
  refine rn_getstatic rfl ?_
  obtain ⟨hrc, hb⟩ := grd_spec hb
  obtain ⟨p2, hc, hb⟩ := Option.bind_eq_some_iff.mp hb
  refine Rn.call1 (d := e) (As := [va_rf x1, va_rf (some 5)]) (rest := []) rfl rfl rfl (by decide) rfl rfl rfl (bd_rcV hrc rfl) (by decide) (bd_lenC (n := 2) rfl (bd_slR (bd_slR bd_slN)) rfl) (bd_locC (n := 2) rfl (bd_slR (bd_slR bd_slN)) rfl (t_122 e (by omega) x1 (some 5) h _ hc)) ?_
  refine rn_if_ne rfl rfl (fun hc => ?_) (fun hc => ?_)
  · exact u_66_15 (e + 1) hd v0 v1  p2.2 _ (if_t hb hc)
  · exact u_66_13 (e + 1) hd v0 v1  p2.2 _ (if_f hb hc)
/-- BitingDoors$HouseReader.readCosts(LBitingDoors$Door;)Z -/
def f_66 (v0 : Option Nat) (v1 : Option Nat) (h : Hp) : Option (Int32 × Hp) := b_66_0 v0 v1 h
theorem t_66 (d : Nat) (hd : 3 ≤ d) (v0 : Option Nat) (v1 : Option Nat) (h : Hp) (r : Int32 × Hp) (hb : f_66 v0 v1 h = some r) : Rn d 66 0 [some (va_rf v0), some (va_rf v1)] [] h (some (.int r.1), r.2) := by
  unfold f_66 at hb
  exact u_66_0 d hd v0 v1 h r hb
def b_60_46 (v0 : Option Nat) (v1 : Option Nat)  (h : Hp) : Option (Int32 × Hp) :=
  (gQ 5 0 v0 h).bind fun x1 =>
  (gJ 9 5 x1 h).bind fun x2 =>
  (pJ 1 5 v1 x2 h).bind fun h3 =>
  (gQ 5 0 v0 h3).bind fun x4 =>
  (grd (rC 9 x4 h3)).bind fun _ =>
  (f_117 x4 h3).bind fun p5 =>
  (grd (decide ((nI 1) = 0 ∨ (nI 1) = 1))).bind fun _ => some ((nI 1), p5)
theorem u_60_46 (d : Nat) (hd : 2 ≤ d) (v0 : Option Nat) (v1 : Option Nat)  (h : Hp) (r : Int32 × Hp) (hb : b_60_46 v0 v1  h = some r) : Rn d 60 46 [some (va_rf v0), some (va_rf v1)] [] h (some (.int r.1), r.2) := by
  unfold b_60_46 at hb
  obtain ⟨e, rfl⟩ : ∃ e, d = e + 1 := ⟨d - 1, by omega⟩
  refine rn_aload_n (i := 1) rfl rfl ?_
  refine rn_aload_n (i := 0) rfl rfl ?_
  refine rn_gQ (c := 5) (k := 0) rfl (by decide) hb (fun x1 hb => ?_)
  refine rn_gJ (c := 9) (k := 5) rfl (by decide) hb (fun x2 hb => ?_)
  refine rn_pJ (c := 1) (k := 5) rfl (by decide) hb (fun h3 hb => ?_)
  refine rn_aload_n (i := 0) rfl rfl ?_
  refine rn_gQ (c := 5) (k := 0) rfl (by decide) hb (fun x4 hb => ?_)
  obtain ⟨hrc, hb⟩ := grd_spec hb
  obtain ⟨p5, hc, hb⟩ := Option.bind_eq_some_iff.mp hb
  refine Rn.call0 (d := e) (As := [va_rf x4]) (rest := []) rfl rfl rfl (by decide) rfl rfl rfl (bd_rcV hrc rfl) (by decide) (bd_lenC (n := 3) rfl (bd_slR bd_slN) rfl) (bd_locC (n := 3) rfl (bd_slR bd_slN) rfl (t_117 e (by omega) x4 h3 _ hc)) ?_
  refine rn_iconst (x := (nI 1)) rfl (by decide) ?_
  obtain ⟨hz, hb⟩ := grd_spec hb
  obtain rfl := Option.some.inj hb
  exact rn_zret rfl rfl (of_decide_eq_true hz)
def b_60_37 (v0 : Option Nat)  (h : Hp) : Option (Int32 × Hp) :=
  (gQ 5 0 v0 h).bind fun x1 =>
  (grd (rC 9 x1 h)).bind fun _ =>
  (f_119 x1 (nI 3) h).bind fun p2 =>
  (grd (decide (p2.1 = 0 ∨ p2.1 = 1))).bind fun _ => some (p2.1, p2.2)
theorem u_60_37 (d : Nat) (hd : 2 ≤ d) (v0 : Option Nat) (v1 : Option Nat)  (h : Hp) (r : Int32 × Hp) (hb : b_60_37 v0  h = some r) : Rn d 60 37 [some (va_rf v0), some (va_rf v1)] [] h (some (.int r.1), r.2) := by
  unfold b_60_37 at hb
  obtain ⟨e, rfl⟩ : ∃ e, d = e + 1 := ⟨d - 1, by omega⟩
  refine rn_aload_n (i := 0) rfl rfl ?_
  refine rn_gQ (c := 5) (k := 0) rfl (by decide) hb (fun x1 hb => ?_)
  refine rn_iconst (x := (nI 3)) rfl (by decide) ?_
  obtain ⟨hrc, hb⟩ := grd_spec hb
  obtain ⟨p2, hc, hb⟩ := Option.bind_eq_some_iff.mp hb
  refine Rn.call1 (d := e) (As := [va_rf x1, .int (nI 3)]) (rest := []) rfl rfl rfl (by decide) rfl rfl rfl (bd_rcV hrc rfl) (by decide) (bd_lenC (n := 2) rfl (bd_slR (bd_slI bd_slN)) rfl) (bd_locC (n := 2) rfl (bd_slR (bd_slI bd_slN)) rfl (t_119 e (by omega) x1 (nI 3) h _ hc)) ?_
  obtain ⟨hz, hb⟩ := grd_spec hb
  obtain rfl := Option.some.inj hb
  exact rn_zret rfl rfl (of_decide_eq_true hz)
def b_60_19 (v0 : Option Nat) (v1 : Option Nat)  (h : Hp) : Option (Int32 × Hp) :=
  (gQ 5 1 v0 h).bind fun x1 =>
  (gQ 5 0 v0 h).bind fun x2 =>
  (gJ 9 5 x2 h).bind fun x3 =>
  (grd (rC 4 x1 h)).bind fun _ =>
  (f_54 x1 x3 h).bind fun p4 =>
  if p4.1 = (-1 : Int32) then b_60_46 v0 v1  p4.2 else b_60_37 v0  p4.2
theorem u_60_19 (d : Nat) (hd : 2 ≤ d) (v0 : Option Nat) (v1 : Option Nat)  (h : Hp) (r : Int32 × Hp) (hb : b_60_19 v0 v1  h = some r) : Rn d 60 19 [some (va_rf v0), some (va_rf v1)] [] h (some (.int r.1), r.2) := by
  unfold b_60_19 at hb
  obtain ⟨e, rfl⟩ : ∃ e, d = e + 1 := ⟨d - 1, by omega⟩
  refine rn_aload_n (i := 0) rfl rfl ?_
  refine rn_gQ (c := 5) (k := 1) rfl (by decide) hb (fun x1 hb => ?_)
  refine rn_aload_n (i := 0) rfl rfl ?_
  refine rn_gQ (c := 5) (k := 0) rfl (by decide) hb (fun x2 hb => ?_)
  refine rn_gJ (c := 9) (k := 5) rfl (by decide) hb (fun x3 hb => ?_)
  obtain ⟨hrc, hb⟩ := grd_spec hb
  obtain ⟨p4, hc, hb⟩ := Option.bind_eq_some_iff.mp hb
  refine Rn.call1 (d := e) (As := [va_rf x1, .long x3]) (rest := []) rfl rfl rfl (by decide) rfl rfl rfl (bd_rcV hrc rfl) (by decide) (bd_lenC (n := 4) rfl (bd_slR (bd_slJ bd_slN)) rfl) (bd_locC (n := 4) rfl (bd_slR (bd_slJ bd_slN)) rfl (t_54 e (by omega) x1 x3 h _ hc)) ?_
  refine rn_iconst (x := (-1 : Int32)) rfl (by decide) ?_
  refine rn_icmp_eq rfl rfl (fun hc => ?_) (fun hc => ?_)
  · exact u_60_46 (e + 1) hd v0 v1  p4.2 _ (if_t hb hc)
  · exact u_60_37 (e + 1) hd v0 v1  p4.2 _ (if_f hb hc)
def b_60_10 (v0 : Option Nat)  (h : Hp) : Option (Int32 × Hp) :=
  (gQ 5 0 v0 h).bind fun x1 =>
  (grd (rC 9 x1 h)).bind fun _ =>
  (f_119 x1 (nI 1) h).bind fun p2 =>
  (grd (decide (p2.1 = 0 ∨ p2.1 = 1))).bind fun _ => some (p2.1, p2.2)
theorem u_60_10 (d : Nat) (hd : 2 ≤ d) (v0 : Option Nat) (v1 : Option Nat)  (h : Hp) (r : Int32 × Hp) (hb : b_60_10 v0  h = some r) : Rn d 60 10 [some (va_rf v0), some (va_rf v1)] [] h (some (.int r.1), r.2) := by
  unfold b_60_10 at hb
  obtain ⟨e, rfl⟩ : ∃ e, d = e + 1 := ⟨d - 1, by omega⟩
  refine rn_aload_n (i := 0) rfl rfl ?_
  refine rn_gQ (c := 5) (k := 0) rfl (by decide) hb (fun x1 hb => ?_)
  refine rn_iconst (x := (nI 1)) rfl (by decide) ?_
  obtain ⟨hrc, hb⟩ := grd_spec hb
  obtain ⟨p2, hc, hb⟩ := Option.bind_eq_some_iff.mp hb
  refine Rn.call1 (d := e) (As := [va_rf x1, .int (nI 1)]) (rest := []) rfl rfl rfl (by decide) rfl rfl rfl (bd_rcV hrc rfl) (by decide) (bd_lenC (n := 2) rfl (bd_slR (bd_slI bd_slN)) rfl) (bd_locC (n := 2) rfl (bd_slR (bd_slI bd_slN)) rfl (t_119 e (by omega) x1 (nI 1) h _ hc)) ?_
  obtain ⟨hz, hb⟩ := grd_spec hb
  obtain rfl := Option.some.inj hb
  exact rn_zret rfl rfl (of_decide_eq_true hz)
def b_60_0 (v0 : Option Nat) (v1 : Option Nat)  (h : Hp) : Option (Int32 × Hp) :=
  (gQ 5 0 v0 h).bind fun x1 =>
  (grd (rC 9 x1 h)).bind fun _ =>
  (f_121 x1 h).bind fun p2 =>
  if ¬ p2.1 = 0 then b_60_19 v0 v1  p2.2 else b_60_10 v0  p2.2
theorem u_60_0 (d : Nat) (hd : 2 ≤ d) (v0 : Option Nat) (v1 : Option Nat)  (h : Hp) (r : Int32 × Hp) (hb : b_60_0 v0 v1  h = some r) : Rn d 60 0 [some (va_rf v0), some (va_rf v1)] [] h (some (.int r.1), r.2) := by
  unfold b_60_0 at hb
  obtain ⟨e, rfl⟩ : ∃ e, d = e + 1 := ⟨d - 1, by omega⟩
  refine rn_aload_n (i := 0) rfl rfl ?_
  refine rn_gQ (c := 5) (k := 0) rfl (by decide) hb (fun x1 hb => ?_)
  obtain ⟨hrc, hb⟩ := grd_spec hb
  obtain ⟨p2, hc, hb⟩ := Option.bind_eq_some_iff.mp hb
  refine Rn.call1 (d := e) (As := [va_rf x1]) (rest := []) rfl rfl rfl (by decide) rfl rfl rfl (bd_rcV hrc rfl) (by decide) (bd_lenC (n := 3) rfl (bd_slR bd_slN) rfl) (bd_locC (n := 3) rfl (bd_slR bd_slN) rfl (t_121 e (by omega) x1 h _ hc)) ?_
  refine rn_if_ne rfl rfl (fun hc => ?_) (fun hc => ?_)
  · exact u_60_19 (e + 1) hd v0 v1  p2.2 _ (if_t hb hc)
  · exact u_60_10 (e + 1) hd v0 v1  p2.2 _ (if_f hb hc)
/-- BitingDoors$HouseReader.readName(LBitingDoors$Door;)Z -/
def f_60 (v0 : Option Nat) (v1 : Option Nat) (h : Hp) : Option (Int32 × Hp) := b_60_0 v0 v1 h
theorem t_60 (d : Nat) (hd : 2 ≤ d) (v0 : Option Nat) (v1 : Option Nat) (h : Hp) (r : Int32 × Hp) (hb : f_60 v0 v1 h = some r) : Rn d 60 0 [some (va_rf v0), some (va_rf v1)] [] h (some (.int r.1), r.2) := by
  unfold f_60 at hb
  exact u_60_0 d hd v0 v1 h r hb
def b_61_123 (v0 : Option Nat)  (h : Hp) : Option (Int32 × Hp) :=
  (gQ 5 0 v0 h).bind fun x1 =>
  (grd (rC 9 x1 h)).bind fun _ =>
  (f_117 x1 h).bind fun p2 =>
  (grd (decide ((nI 1) = 0 ∨ (nI 1) = 1))).bind fun _ => some ((nI 1), p2)
theorem u_61_123 (d : Nat) (hd : 2 ≤ d) (v0 : Option Nat) (v1 : Option Nat)  (h : Hp) (r : Int32 × Hp) (hb : b_61_123 v0  h = some r) : Rn d 61 123 [some (va_rf v0), some (va_rf v1)] [] h (some (.int r.1), r.2) := by
  unfold b_61_123 at hb
  obtain ⟨e, rfl⟩ : ∃ e, d = e + 1 := ⟨d - 1, by omega⟩
  refine rn_aload_n (i := 0) rfl rfl ?_
  refine rn_gQ (c := 5) (k := 0) rfl (by decide) hb (fun x1 hb => ?_)
  obtain ⟨hrc, hb⟩ := grd_spec hb
  obtain ⟨p2, hc, hb⟩ := Option.bind_eq_some_iff.mp hb
  refine Rn.call0 (d := e) (As := [va_rf x1]) (rest := []) rfl rfl rfl (by decide) rfl rfl rfl (bd_rcV hrc rfl) (by decide) (bd_lenC (n := 3) rfl (bd_slR bd_slN) rfl) (bd_locC (n := 3) rfl (bd_slR bd_slN) rfl (t_117 e (by omega) x1 h _ hc)) ?_
  refine rn_iconst (x := (nI 1)) rfl (by decide) ?_
  obtain ⟨hz, hb⟩ := grd_spec hb
  obtain rfl := Option.some.inj hb
  exact rn_zret rfl rfl (of_decide_eq_true hz)
def b_61_114 (v0 : Option Nat)  (h : Hp) : Option (Int32 × Hp) :=
  (gQ 5 0 v0 h).bind fun x1 =>
  (grd (rC 9 x1 h)).bind fun _ =>
  (f_119 x1 (nI 1) h).bind fun p2 =>
  (grd (decide (p2.1 = 0 ∨ p2.1 = 1))).bind fun _ => some (p2.1, p2.2)
theorem u_61_114 (d : Nat) (hd : 2 ≤ d) (v0 : Option Nat) (v1 : Option Nat)  (h : Hp) (r : Int32 × Hp) (hb : b_61_114 v0  h = some r) : Rn d 61 114 [some (va_rf v0), some (va_rf v1)] [] h (some (.int r.1), r.2) := by
  unfold b_61_114 at hb
  obtain ⟨e, rfl⟩ : ∃ e, d = e + 1 := ⟨d - 1, by omega⟩
  refine rn_aload_n (i := 0) rfl rfl ?_
  refine rn_gQ (c := 5) (k := 0) rfl (by decide) hb (fun x1 hb => ?_)
  refine rn_iconst (x := (nI 1)) rfl (by decide) ?_
  obtain ⟨hrc, hb⟩ := grd_spec hb
  obtain ⟨p2, hc, hb⟩ := Option.bind_eq_some_iff.mp hb
  refine Rn.call1 (d := e) (As := [va_rf x1, .int (nI 1)]) (rest := []) rfl rfl rfl (by decide) rfl rfl rfl (bd_rcV hrc rfl) (by decide) (bd_lenC (n := 2) rfl (bd_slR (bd_slI bd_slN)) rfl) (bd_locC (n := 2) rfl (bd_slR (bd_slI bd_slN)) rfl (t_119 e (by omega) x1 (nI 1) h _ hc)) ?_
  obtain ⟨hz, hb⟩ := grd_spec hb
  obtain rfl := Option.some.inj hb
  exact rn_zret rfl rfl (of_decide_eq_true hz)
def b_61_101 (v0 : Option Nat)  (h : Hp) : Option (Int32 × Hp) :=
  (gQ 5 0 v0 h).bind fun x1 =>
  (grd (rC 9 x1 h)).bind fun _ =>
  (f_120 x1 (some 2) h).bind fun p2 =>
  if ¬ p2.1 = 0 then b_61_123 v0  p2.2 else b_61_114 v0  p2.2
theorem u_61_101 (d : Nat) (hd : 2 ≤ d) (v0 : Option Nat) (v1 : Option Nat)  (h : Hp) (r : Int32 × Hp) (hb : b_61_101 v0  h = some r) : Rn d 61 101 [some (va_rf v0), some (va_rf v1)] [] h (some (.int r.1), r.2) := by
  unfold b_61_101 at hb
  obtain ⟨e, rfl⟩ : ∃ e, d = e + 1 := ⟨d - 1, by omega⟩
  refine rn_aload_n (i := 0) rfl rfl ?_
  refine rn_gQ (c := 5) (k := 0) rfl (by decide) hb (fun x1 hb => ?_)
  refine rn_getstatic rfl ?_
  obtain ⟨hrc, hb⟩ := grd_spec hb
  obtain ⟨p2, hc, hb⟩ := Option.bind_eq_some_iff.mp hb
  refine Rn.call1 (d := e) (As := [va_rf x1, va_rf (some 2)]) (rest := []) rfl rfl rfl (by decide) rfl rfl rfl (bd_rcV hrc rfl) (by decide) (bd_lenC (n := 2) rfl (bd_slR (bd_slR bd_slN)) rfl) (bd_locC (n := 2) rfl (bd_slR (bd_slR bd_slN)) rfl (t_120 e (by omega) x1 (some 2) h _ hc)) ?_
  refine rn_if_ne rfl rfl (fun hc => ?_) (fun hc => ?_)
  · exact u_61_123 (e + 1) hd v0 v1  p2.2 _ (if_t hb hc)
  · exact u_61_114 (e + 1) hd v0 v1  p2.2 _ (if_f hb hc)
def b_61_62 (v0 : Option Nat) (v1 : Option Nat)  (h : Hp) : Option (Int32 × Hp) :=
  (gQ 5 0 v0 h).bind fun x1 =>
  (gI 9 4 x1 h).bind fun x2 =>
  (pI 1 7 v1 x2 h).bind fun h3 =>
  (gQ 5 0 v0 h3).bind fun x4 =>
  (grd (rC 9 x4 h3)).bind fun _ =>
  (f_117 x4 h3).bind fun p5 =>
  (gQ 5 0 v0 p5).bind fun x6 =>
  (grd (rC 9 x6 p5)).bind fun _ =>
  (f_120 x6 (some 3) p5).bind fun p7 =>
  (pZ 1 8 v1 p7.1 p7.2).bind fun h8 =>
  (gI 1 8 v1 h8).bind fun x9 =>
  if ¬ x9 = 0 then b_61_123 v0  h8 else b_61_101 v0  h8
theorem u_61_62 (d : Nat) (hd : 2 ≤ d) (v0 : Option Nat) (v1 : Option Nat)  (h : Hp) (r : Int32 × Hp) (hb : b_61_62 v0 v1  h = some r) : Rn d 61 62 [some (va_rf v0), some (va_rf v1)] [] h (some (.int r.1), r.2) := by
  unfold b_61_62 at hb
  obtain ⟨e, rfl⟩ : ∃ e, d = e + 1 := ⟨d - 1, by omega⟩
  refine rn_aload_n (i := 1) rfl rfl ?_
  refine rn_aload_n (i := 0) rfl rfl ?_
  refine rn_gQ (c := 5) (k := 0) rfl (by decide) hb (fun x1 hb => ?_)
  refine rn_gI (c := 9) (k := 4) rfl (by decide) hb (fun x2 hb => ?_)
  refine rn_pI (c := 1) (k := 7) rfl (by decide) hb (fun h3 hb => ?_)
  refine rn_aload_n (i := 0) rfl rfl ?_
  refine rn_gQ (c := 5) (k := 0) rfl (by decide) hb (fun x4 hb => ?_)
  obtain ⟨hrc, hb⟩ := grd_spec hb
  obtain ⟨p5, hc, hb⟩ := Option.bind_eq_some_iff.mp hb
  refine Rn.call0 (d := e) (As := [va_rf x4]) (rest := []) rfl rfl rfl (by decide) rfl rfl rfl (bd_rcV hrc rfl) (by decide) (bd_lenC (n := 3) rfl (bd_slR bd_slN) rfl) (bd_locC (n := 3) rfl (bd_slR bd_slN) rfl (t_117 e (by omega) x4 h3 _ hc)) ?_
  refine rn_aload_n (i := 1) rfl rfl ?_
  refine rn_aload_n (i := 0) rfl rfl ?_
  refine rn_gQ (c := 5) (k := 0) rfl (by decide) hb (fun x6 hb => ?_)
  refine rn_getstatic rfl ?_
  obtain ⟨hrc, hb⟩ := grd_spec hb
  obtain ⟨p7, hc, hb⟩ := Option.bind_eq_some_iff.mp hb
  refine Rn.call1 (d := e) (As := [va_rf x6, va_rf (some 3)]) (rest := [va_rf v1]) rfl rfl rfl (by decide) rfl rfl rfl (bd_rcV hrc rfl) (by rw [bd_cR (bd_cN)]; decide) (bd_lenC (n := 2) rfl (bd_slR (bd_slR bd_slN)) rfl) (bd_locC (n := 2) rfl (bd_slR (bd_slR bd_slN)) rfl (t_120 e (by omega) x6 (some 3) p5 _ hc)) ?_
  refine rn_pZ (c := 1) (k := 8) rfl (by decide) hb (fun h8 hb => ?_)
  refine rn_aload_n (i := 1) rfl rfl ?_
  refine rn_gI (c := 1) (k := 8) rfl (by decide) hb (fun x9 hb => ?_)
  refine rn_if_ne rfl rfl (fun hc => ?_) (fun hc => ?_)
  · exact u_61_123 (e + 1) hd v0 v1  h8 _ (if_t hb hc)
  · exact u_61_101 (e + 1) hd v0 v1  h8 _ (if_f hb hc)
def b_61_60   (h : Hp) : Option (Int32 × Hp) :=
  (grd (decide ((nI 0) = 0 ∨ (nI 0) = 1))).bind fun _ => some ((nI 0), h)
theorem u_61_60 (d : Nat) (hd : 2 ≤ d) (v0 : Option Nat) (v1 : Option Nat)  (h : Hp) (r : Int32 × Hp) (hb : b_61_60   h = some r) : Rn d 61 60 [some (va_rf v0), some (va_rf v1)] [] h (some (.int r.1), r.2) := by
  unfold b_61_60 at hb
  refine rn_iconst (x := (nI 0)) rfl (by decide) ?_
  obtain ⟨hz, hb⟩ := grd_spec hb
  obtain rfl := Option.some.inj hb
  exact rn_zret rfl rfl (of_decide_eq_true hz)
def b_61_22 (v0 : Option Nat) (v1 : Option Nat)  (h : Hp) : Option (Int32 × Hp) :=
  (gQ 5 0 v0 h).bind fun x1 =>
  (gI 9 4 x1 h).bind fun x2 =>
  (pI 1 6 v1 x2 h).bind fun h3 =>
  (gQ 5 0 v0 h3).bind fun x4 =>
  (grd (rC 9 x4 h3)).bind fun _ =>
  (f_117 x4 h3).bind fun p5 =>
  (gQ 5 0 v0 p5).bind fun x6 =>
  (gQ 5 1 v0 p5).bind fun x7 =>
  (gI 4 4 x7 p5).bind fun x8 =>
  (grd (rC 9 x6 p5)).bind fun _ =>
  (f_124 x6 (nI 0) (x8 - (nI 1)) p5).bind fun p9 =>
  if ¬ p9.1 = 0 then b_61_62 v0 v1  p9.2 else b_61_60   p9.2
theorem u_61_22 (d : Nat) (hd : 2 ≤ d) (v0 : Option Nat) (v1 : Option Nat)  (h : Hp) (r : Int32 × Hp) (hb : b_61_22 v0 v1  h = some r) : Rn d 61 22 [some (va_rf v0), some (va_rf v1)] [] h (some (.int r.1), r.2) := by
  unfold b_61_22 at hb
  obtain ⟨e, rfl⟩ : ∃ e, d = e + 1 := ⟨d - 1, by omega⟩
  refine rn_aload_n (i := 1) rfl rfl ?_
  refine rn_aload_n (i := 0) rfl rfl ?_
  refine rn_gQ (c := 5) (k := 0) rfl (by decide) hb (fun x1 hb => ?_)
  refine rn_gI (c := 9) (k := 4) rfl (by decide) hb (fun x2 hb => ?_)
  refine rn_pI (c := 1) (k := 6) rfl (by decide) hb (fun h3 hb => ?_)
  refine rn_aload_n (i := 0) rfl rfl ?_
  refine rn_gQ (c := 5) (k := 0) rfl (by decide) hb (fun x4 hb => ?_)
  obtain ⟨hrc, hb⟩ := grd_spec hb
  obtain ⟨p5, hc, hb⟩ := Option.bind_eq_some_iff.mp hb
  refine Rn.call0 (d := e) (As := [va_rf x4]) (rest := []) rfl rfl rfl (by decide) rfl rfl rfl (bd_rcV hrc rfl) (by decide) (bd_lenC (n := 3) rfl (bd_slR bd_slN) rfl) (bd_locC (n := 3) rfl (bd_slR bd_slN) rfl (t_117 e (by omega) x4 h3 _ hc)) ?_
  refine rn_aload_n (i := 0) rfl rfl ?_
  refine rn_gQ (c := 5) (k := 0) rfl (by decide) hb (fun x6 hb => ?_)
  refine rn_iconst (x := (nI 0)) rfl (by decide) ?_
  refine rn_aload_n (i := 0) rfl rfl ?_
  refine rn_gQ (c := 5) (k := 1) rfl (by decide) hb (fun x7 hb => ?_)
  refine rn_gI (c := 4) (k := 4) rfl (by decide) hb (fun x8 hb => ?_)
  refine rn_iconst (x := (nI 1)) rfl (by decide) ?_
  refine rn_isub rfl ?_
  obtain ⟨hrc, hb⟩ := grd_spec hb
  obtain ⟨p9, hc, hb⟩ := Option.bind_eq_some_iff.mp hb
  refine Rn.call1 (d := e) (As := [va_rf x6, .int (nI 0), .int (x8 - (nI 1))]) (rest := []) rfl rfl rfl (by decide) rfl rfl rfl (bd_rcV hrc rfl) (by decide) (bd_lenC (n := 3) rfl (bd_slR (bd_slI (bd_slI bd_slN))) rfl) (bd_locC (n := 3) rfl (bd_slR (bd_slI (bd_slI bd_slN))) rfl (t_124 e (by omega) x6 (nI 0) (x8 - (nI 1)) p5 _ hc)) ?_
  refine rn_if_ne rfl rfl (fun hc => ?_) (fun hc => ?_)
  · exact u_61_62 (e + 1) hd v0 v1  p9.2 _ (if_t hb hc)
  · exact u_61_60 (e + 1) hd v0 v1  p9.2 _ (if_f hb hc)
def b_61_20   (h : Hp) : Option (Int32 × Hp) :=
  (grd (decide ((nI 0) = 0 ∨ (nI 0) = 1))).bind fun _ => some ((nI 0), h)
theorem u_61_20 (d : Nat) (hd : 2 ≤ d) (v0 : Option Nat) (v1 : Option Nat)  (h : Hp) (r : Int32 × Hp) (hb : b_61_20   h = some r) : Rn d 61 20 [some (va_rf v0), some (va_rf v1)] [] h (some (.int r.1), r.2) := by
  unfold b_61_20 at hb
  refine rn_iconst (x := (nI 0)) rfl (by decide) ?_
  obtain ⟨hz, hb⟩ := grd_spec hb
  obtain rfl := Option.some.inj hb
  exact rn_zret rfl rfl (of_decide_eq_true hz)
def b_61_0 (v0 : Option Nat) (v1 : Option Nat)  (h : Hp) : Option (Int32 × Hp) :=
  (gQ 5 0 v0 h).bind fun x1 =>
  (gQ 5 1 v0 h).bind fun x2 =>
  (gI 4 3 x2 h).bind fun x3 =>
  (grd (rC 9 x1 h)).bind fun _ =>
  (f_124 x1 (nI 0) (x3 - (nI 1)) h).bind fun p4 =>
  if ¬ p4.1 = 0 then b_61_22 v0 v1  p4.2 else b_61_20   p4.2
theorem u_61_0 (d : Nat) (hd : 2 ≤ d) (v0 : Option Nat) (v1 : Option Nat)  (h : Hp) (r : Int32 × Hp) (hb : b_61_0 v0 v1  h = some r) : Rn d 61 0 [some (va_rf v0), some (va_rf v1)] [] h (some (.int r.1), r.2) := by
  unfold b_61_0 at hb
  obtain ⟨e, rfl⟩ : ∃ e, d = e + 1 := ⟨d - 1, by omega⟩
  refine rn_aload_n (i := 0) rfl rfl ?_
  refine rn_gQ (c := 5) (k := 0) rfl (by decide) hb (fun x1 hb => ?_)
  refine rn_iconst (x := (nI 0)) rfl (by decide) ?_
  refine rn_aload_n (i := 0) rfl rfl ?_
  refine rn_gQ (c := 5) (k := 1) rfl (by decide) hb (fun x2 hb => ?_)
  refine rn_gI (c := 4) (k := 3) rfl (by decide) hb (fun x3 hb => ?_)
  refine rn_iconst (x := (nI 1)) rfl (by decide) ?_
  refine rn_isub rfl ?_
  obtain ⟨hrc, hb⟩ := grd_spec hb
  obtain ⟨p4, hc, hb⟩ := Option.bind_eq_some_iff.mp hb
  refine Rn.call1 (d := e) (As := [va_rf x1, .int (nI 0), .int (x3 - (nI 1))]) (rest := []) rfl rfl rfl (by decide) rfl rfl rfl (bd_rcV hrc rfl) (by decide) (bd_lenC (n := 3) rfl (bd_slR (bd_slI (bd_slI bd_slN))) rfl) (bd_locC (n := 3) rfl (bd_slR (bd_slI (bd_slI bd_slN))) rfl (t_124 e (by omega) x1 (nI 0) (x3 - (nI 1)) h _ hc)) ?_
  refine rn_if_ne rfl rfl (fun hc => ?_) (fun hc => ?_)
  · exact u_61_22 (e + 1) hd v0 v1  p4.2 _ (if_t hb hc)
  · exact u_61_20 (e + 1) hd v0 v1  p4.2 _ (if_f hb hc)
/-- BitingDoors$HouseReader.readCorner(LBitingDoors$Door;)Z -/
def f_61 (v0 : Option Nat) (v1 : Option Nat) (h : Hp) : Option (Int32 × Hp) := b_61_0 v0 v1 h
theorem t_61 (d : Nat) (hd : 2 ≤ d) (v0 : Option Nat) (v1 : Option Nat) (h : Hp) (r : Int32 × Hp) (hb : f_61 v0 v1 h = some r) : Rn d 61 0 [some (va_rf v0), some (va_rf v1)] [] h (some (.int r.1), r.2) := by
  unfold f_61 at hb
  exact u_61_0 d hd v0 v1 h r hb
def b_63_105  (s0 : Int32) (h : Hp) : Option (Int32 × Hp) :=
  some (s0, h)
theorem u_63_105 (d : Nat) (hd : 1 ≤ d) (v0 : Option Nat) (v1 : Option Nat) (v2 : Int32) (v3 : Int32) (v4 : Option (Int32)) (s0 : Int32) (h : Hp) (r : Int32 × Hp) (hb : b_63_105  s0 h = some r) : Rn d 63 105 [some (va_rf v0), some (va_rf v1), some (.int v2), some (.int v3), v4.map Value.int] [.int s0] h (some (.int r.1), r.2) := by
  unfold b_63_105 at hb
  obtain rfl := Option.some.inj hb
  exact rn_iret rfl rfl
def b_63_104   (h : Hp) : Option (Int32 × Hp) :=
  b_63_105  (nI 0) h
theorem u_63_104 (d : Nat) (hd : 1 ≤ d) (v0 : Option Nat) (v1 : Option Nat) (v2 : Int32) (v3 : Int32) (v4 : Option (Int32))  (h : Hp) (r : Int32 × Hp) (hb : b_63_104   h = some r) : Rn d 63 104 [some (va_rf v0), some (va_rf v1), some (.int v2), some (.int v3), v4.map Value.int] [] h (some (.int r.1), r.2) := by
  unfold b_63_104 at hb
  refine rn_iconst (x := (nI 0)) rfl (by decide) ?_
  exact u_63_105 d hd v0 v1 v2 v3 v4 (nI 0) h _ hb
def b_63_100   (h : Hp) : Option (Int32 × Hp) :=
  b_63_105  (nI 3) h
theorem u_63_100 (d : Nat) (hd : 1 ≤ d) (v0 : Option Nat) (v1 : Option Nat) (v2 : Int32) (v3 : Int32) (v4 : Option (Int32))  (h : Hp) (r : Int32 × Hp) (hb : b_63_100   h = some r) : Rn d 63 100 [some (va_rf v0), some (va_rf v1), some (.int v2), some (.int v3), v4.map Value.int] [] h (some (.int r.1), r.2) := by
  unfold b_63_100 at hb
  refine rn_iconst (x := (nI 3)) rfl (by decide) ?_
  refine rn_goto rfl rfl ?_
  exact u_63_105 d hd v0 v1 v2 v3 v4 (nI 3) h _ hb
def b_63_96 (v2 : Int32)  (h : Hp) : Option (Int32 × Hp) :=
  if v2 = 0 then b_63_104   h else b_63_100   h
theorem u_63_96 (d : Nat) (hd : 1 ≤ d) (v0 : Option Nat) (v1 : Option Nat) (v2 : Int32) (v3 : Int32) (v4 : Option (Int32))  (h : Hp) (r : Int32 × Hp) (hb : b_63_96 v2  h = some r) : Rn d 63 96 [some (va_rf v0), some (va_rf v1), some (.int v2), some (.int v3), v4.map Value.int] [] h (some (.int r.1), r.2) := by
  unfold b_63_96 at hb
  refine rn_iload_n (i := 2) rfl rfl ?_
  refine rn_if_eq rfl rfl (fun hc => ?_) (fun hc => ?_)
  · exact u_63_104 d hd v0 v1 v2 v3 v4  h _ (if_t hb hc)
  · exact u_63_100 d hd v0 v1 v2 v3 v4  h _ (if_f hb hc)
def b_63_89 (k4 : Option Nat → Option Nat → Int32 → Int32 → Hp → Option (Int32 × Hp)) (v0 : Option Nat) (v1 : Option Nat) (v3 : Int32) (s0 : Int32) (h : Hp) : Option (Int32 × Hp) :=
  bnd (v3 + (nI 1)) fun x1 =>
  k4 v0 v1 s0 x1 h
theorem u_63_89 (d : Nat) (hd : 1 ≤ d) (k4 : Option Nat → Option Nat → Int32 → Int32 → Hp → Option (Int32 × Hp)) (K4 : ∀ (v0 : Option Nat) (v1 : Option Nat) (v2 : Int32) (v3 : Int32) (v4 : Option (Int32)) (h : Hp) (r : Int32 × Hp), k4 v0 v1 v2 v3 h = some r → Rn d 63 4 [some (va_rf v0), some (va_rf v1), some (.int v2), some (.int v3), v4.map Value.int] [] h (some (.int r.1), r.2)) (v0 : Option Nat) (v1 : Option Nat) (v2 : Int32) (v3 : Int32) (v4 : Int32) (s0 : Int32) (h : Hp) (r : Int32 × Hp) (hb : b_63_89 k4 v0 v1 v3 s0 h = some r) : Rn d 63 89 [some (va_rf v0), some (va_rf v1), some (.int v2), some (.int v3), some (.int v4)] [.int s0] h (some (.int r.1), r.2) := by
  unfold b_63_89 at hb
  refine rn_istore_n (i := 2) (L1 := [some (va_rf v0), some (va_rf v1), some (.int s0), some (.int v3), some (.int v4)]) rfl (Nat.le_of_ble_eq_true rfl) (Or.inr (bd_wideR rfl)) rfl ?_
  obtain ⟨x1, ex1, hb⟩ := bnd_spec hb
  refine rn_iinc (i := 3) (y := x1) (L1 := [some (va_rf v0), some (va_rf v1), some (.int s0), some (.int x1), some (.int v4)]) rfl rfl (Nat.le_of_ble_eq_true rfl) (Or.inr rfl) (by rw [ex1]; rfl) rfl ?_
  refine rn_goto rfl rfl ?_
  exact K4 v0 v1 s0 x1 (some v4) h _ hb
def b_63_84 (k4 : Option Nat → Option Nat → Int32 → Int32 → Hp → Option (Int32 × Hp)) (v0 : Option Nat) (v1 : Option Nat) (v3 : Int32)  (h : Hp) : Option (Int32 × Hp) :=
  b_63_89 k4 v0 v1 v3 (nI 1) h
theorem u_63_84 (d : Nat) (hd : 1 ≤ d) (k4 : Option Nat → Option Nat → Int32 → Int32 → Hp → Option (Int32 × Hp)) (K4 : ∀ (v0 : Option Nat) (v1 : Option Nat) (v2 : Int32) (v3 : Int32) (v4 : Option (Int32)) (h : Hp) (r : Int32 × Hp), k4 v0 v1 v2 v3 h = some r → Rn d 63 4 [some (va_rf v0), some (va_rf v1), some (.int v2), some (.int v3), v4.map Value.int] [] h (some (.int r.1), r.2)) (v0 : Option Nat) (v1 : Option Nat) (v2 : Int32) (v3 : Int32) (v4 : Int32)  (h : Hp) (r : Int32 × Hp) (hb : b_63_84 k4 v0 v1 v3  h = some r) : Rn d 63 84 [some (va_rf v0), some (va_rf v1), some (.int v2), some (.int v3), some (.int v4)] [] h (some (.int r.1), r.2) := by
  unfold b_63_84 at hb
  refine rn_iconst (x := (nI 1)) rfl (by decide) ?_
  refine rn_goto rfl rfl ?_
  exact u_63_89 d hd k4 K4 v0 v1 v2 v3 v4 (nI 1) h _ hb
def b_63_88 (k4 : Option Nat → Option Nat → Int32 → Int32 → Hp → Option (Int32 × Hp)) (v0 : Option Nat) (v1 : Option Nat) (v3 : Int32)  (h : Hp) : Option (Int32 × Hp) :=
  b_63_89 k4 v0 v1 v3 (nI 0) h
theorem u_63_88 (d : Nat) (hd : 1 ≤ d) (k4 : Option Nat → Option Nat → Int32 → Int32 → Hp → Option (Int32 × Hp)) (K4 : ∀ (v0 : Option Nat) (v1 : Option Nat) (v2 : Int32) (v3 : Int32) (v4 : Option (Int32)) (h : Hp) (r : Int32 × Hp), k4 v0 v1 v2 v3 h = some r → Rn d 63 4 [some (va_rf v0), some (va_rf v1), some (.int v2), some (.int v3), v4.map Value.int] [] h (some (.int r.1), r.2)) (v0 : Option Nat) (v1 : Option Nat) (v2 : Int32) (v3 : Int32) (v4 : Int32)  (h : Hp) (r : Int32 × Hp) (hb : b_63_88 k4 v0 v1 v3  h = some r) : Rn d 63 88 [some (va_rf v0), some (va_rf v1), some (.int v2), some (.int v3), some (.int v4)] [] h (some (.int r.1), r.2) := by
  unfold b_63_88 at hb
  refine rn_iconst (x := (nI 0)) rfl (by decide) ?_
  exact u_63_89 d hd k4 K4 v0 v1 v2 v3 v4 (nI 0) h _ hb
def b_63_77 (k4 : Option Nat → Option Nat → Int32 → Int32 → Hp → Option (Int32 × Hp)) (v0 : Option Nat) (v1 : Option Nat) (v3 : Int32) (v4 : Int32)  (h : Hp) : Option (Int32 × Hp) :=
  if v4 < (nI 10) then b_63_88 k4 v0 v1 v3  h else b_63_84 k4 v0 v1 v3  h
theorem u_63_77 (d : Nat) (hd : 1 ≤ d) (k4 : Option Nat → Option Nat → Int32 → Int32 → Hp → Option (Int32 × Hp)) (K4 : ∀ (v0 : Option Nat) (v1 : Option Nat) (v2 : Int32) (v3 : Int32) (v4 : Option (Int32)) (h : Hp) (r : Int32 × Hp), k4 v0 v1 v2 v3 h = some r → Rn d 63 4 [some (va_rf v0), some (va_rf v1), some (.int v2), some (.int v3), v4.map Value.int] [] h (some (.int r.1), r.2)) (v0 : Option Nat) (v1 : Option Nat) (v2 : Int32) (v3 : Int32) (v4 : Int32)  (h : Hp) (r : Int32 × Hp) (hb : b_63_77 k4 v0 v1 v3 v4  h = some r) : Rn d 63 77 [some (va_rf v0), some (va_rf v1), some (.int v2), some (.int v3), some (.int v4)] [] h (some (.int r.1), r.2) := by
  unfold b_63_77 at hb
  refine rn_iload (i := 4) rfl rfl ?_
  refine rn_bipush (x := (nI 10)) rfl (by decide) ?_
  refine rn_icmp_lt rfl rfl (fun hc => ?_) (fun hc => ?_)
  · exact u_63_88 d hd k4 K4 v0 v1 v2 v3 v4  h _ (if_t hb hc)
  · exact u_63_84 d hd k4 K4 v0 v1 v2 v3 v4  h _ (if_f hb hc)
def b_63_73 (k4 : Option Nat → Option Nat → Int32 → Int32 → Hp → Option (Int32 × Hp)) (v0 : Option Nat) (v1 : Option Nat) (v2 : Int32) (v3 : Int32) (v4 : Int32)  (h : Hp) : Option (Int32 × Hp) :=
  if ¬ v2 = 0 then b_63_84 k4 v0 v1 v3  h else b_63_77 k4 v0 v1 v3 v4  h
theorem u_63_73 (d : Nat) (hd : 1 ≤ d) (k4 : Option Nat → Option Nat → Int32 → Int32 → Hp → Option (Int32 × Hp)) (K4 : ∀ (v0 : Option Nat) (v1 : Option Nat) (v2 : Int32) (v3 : Int32) (v4 : Option (Int32)) (h : Hp) (r : Int32 × Hp), k4 v0 v1 v2 v3 h = some r → Rn d 63 4 [some (va_rf v0), some (va_rf v1), some (.int v2), some (.int v3), v4.map Value.int] [] h (some (.int r.1), r.2)) (v0 : Option Nat) (v1 : Option Nat) (v2 : Int32) (v3 : Int32) (v4 : Int32)  (h : Hp) (r : Int32 × Hp) (hb : b_63_73 k4 v0 v1 v2 v3 v4  h = some r) : Rn d 63 73 [some (va_rf v0), some (va_rf v1), some (.int v2), some (.int v3), some (.int v4)] [] h (some (.int r.1), r.2) := by
  unfold b_63_73 at hb
  refine rn_iload_n (i := 2) rfl rfl ?_
  refine rn_if_ne rfl rfl (fun hc => ?_) (fun hc => ?_)
  · exact u_63_84 d hd k4 K4 v0 v1 v2 v3 v4  h _ (if_t hb hc)
  · exact u_63_77 d hd k4 K4 v0 v1 v2 v3 v4  h _ (if_f hb hc)
def b_63_71   (h : Hp) : Option (Int32 × Hp) :=
  some ((nI 2), h)
theorem u_63_71 (d : Nat) (hd : 1 ≤ d) (v0 : Option Nat) (v1 : Option Nat) (v2 : Int32) (v3 : Int32) (v4 : Int32)  (h : Hp) (r : Int32 × Hp) (hb : b_63_71   h = some r) : Rn d 63 71 [some (va_rf v0), some (va_rf v1), some (.int v2), some (.int v3), some (.int v4)] [] h (some (.int r.1), r.2) := by
  unfold b_63_71 at hb
  refine rn_iconst (x := (nI 2)) rfl (by decide) ?_
  obtain rfl := Option.some.inj hb
  exact rn_iret rfl rfl
def b_63_64 (k4 : Option Nat → Option Nat → Int32 → Int32 → Hp → Option (Int32 × Hp)) (v0 : Option Nat) (v1 : Option Nat) (v2 : Int32) (v3 : Int32) (v4 : Int32)  (h : Hp) : Option (Int32 × Hp) :=
  if (nI 10) ≤ v4 then b_63_73 k4 v0 v1 v2 v3 v4  h else b_63_71   h
theorem u_63_64 (d : Nat) (hd : 1 ≤ d) (k4 : Option Nat → Option Nat → Int32 → Int32 → Hp → Option (Int32 × Hp)) (K4 : ∀ (v0 : Option Nat) (v1 : Option Nat) (v2 : Int32) (v3 : Int32) (v4 : Option (Int32)) (h : Hp) (r : Int32 × Hp), k4 v0 v1 v2 v3 h = some r → Rn d 63 4 [some (va_rf v0), some (va_rf v1), some (.int v2), some (.int v3), v4.map Value.int] [] h (some (.int r.1), r.2)) (v0 : Option Nat) (v1 : Option Nat) (v2 : Int32) (v3 : Int32) (v4 : Int32)  (h : Hp) (r : Int32 × Hp) (hb : b_63_64 k4 v0 v1 v2 v3 v4  h = some r) : Rn d 63 64 [some (va_rf v0), some (va_rf v1), some (.int v2), some (.int v3), some (.int v4)] [] h (some (.int r.1), r.2) := by
  unfold b_63_64 at hb
  refine rn_iload (i := 4) rfl rfl ?_
  refine rn_bipush (x := (nI 10)) rfl (by decide) ?_
  refine rn_icmp_ge rfl rfl (fun hc => ?_) (fun hc => ?_)
  · exact u_63_73 d hd k4 K4 v0 v1 v2 v3 v4  h _ (if_t hb hc)
  · exact u_63_71 d hd v0 v1 v2 v3 v4  h _ (if_f hb hc)
def b_63_56 (k4 : Option Nat → Option Nat → Int32 → Int32 → Hp → Option (Int32 × Hp)) (v0 : Option Nat) (v1 : Option Nat) (v2 : Int32) (v3 : Int32) (s0 : Int32) (h : Hp) : Option (Int32 × Hp) :=
  if s0 = (nI 1) then b_63_73 k4 v0 v1 v2 v3 s0  h else b_63_64 k4 v0 v1 v2 v3 s0  h
theorem u_63_56 (d : Nat) (hd : 1 ≤ d) (k4 : Option Nat → Option Nat → Int32 → Int32 → Hp → Option (Int32 × Hp)) (K4 : ∀ (v0 : Option Nat) (v1 : Option Nat) (v2 : Int32) (v3 : Int32) (v4 : Option (Int32)) (h : Hp) (r : Int32 × Hp), k4 v0 v1 v2 v3 h = some r → Rn d 63 4 [some (va_rf v0), some (va_rf v1), some (.int v2), some (.int v3), v4.map Value.int] [] h (some (.int r.1), r.2)) (v0 : Option Nat) (v1 : Option Nat) (v2 : Int32) (v3 : Int32) (v4 : Option (Int32)) (s0 : Int32) (h : Hp) (r : Int32 × Hp) (hb : b_63_56 k4 v0 v1 v2 v3 s0 h = some r) : Rn d 63 56 [some (va_rf v0), some (va_rf v1), some (.int v2), some (.int v3), v4.map Value.int] [.int s0] h (some (.int r.1), r.2) := by
  unfold b_63_56 at hb
  refine rn_istore (i := 4) (L1 := [some (va_rf v0), some (va_rf v1), some (.int v2), some (.int v3), some (.int s0)]) rfl (Nat.le_of_ble_eq_true rfl) (Or.inr rfl) rfl ?_
  refine rn_iload (i := 4) rfl rfl ?_
  refine rn_iconst (x := (nI 1)) rfl (by decide) ?_
  refine rn_icmp_eq rfl rfl (fun hc => ?_) (fun hc => ?_)
  · exact u_63_73 d hd k4 K4 v0 v1 v2 v3 s0  h _ (if_t hb hc)
  · exact u_63_64 d hd k4 K4 v0 v1 v2 v3 s0  h _ (if_f hb hc)
def b_63_39 (k4 : Option Nat → Option Nat → Int32 → Int32 → Hp → Option (Int32 × Hp)) (v0 : Option Nat) (v1 : Option Nat) (v2 : Int32) (v3 : Int32)  (h : Hp) : Option (Int32 × Hp) :=
  (gQ 5 1 v0 h).bind fun x1 =>
  (gI 1 6 v1 h).bind fun x2 =>
  (gI 1 7 v1 h).bind fun x3 =>
  (grd (rC 4 x1 h)).bind fun _ =>
  (f_50 x1 (x2 + v3) x3 h).bind fun p4 =>
  b_63_56 k4 v0 v1 v2 v3 p4.1 p4.2
theorem u_63_39 (d : Nat) (hd : 1 ≤ d) (k4 : Option Nat → Option Nat → Int32 → Int32 → Hp → Option (Int32 × Hp)) (K4 : ∀ (v0 : Option Nat) (v1 : Option Nat) (v2 : Int32) (v3 : Int32) (v4 : Option (Int32)) (h : Hp) (r : Int32 × Hp), k4 v0 v1 v2 v3 h = some r → Rn d 63 4 [some (va_rf v0), some (va_rf v1), some (.int v2), some (.int v3), v4.map Value.int] [] h (some (.int r.1), r.2)) (v0 : Option Nat) (v1 : Option Nat) (v2 : Int32) (v3 : Int32) (v4 : Option (Int32))  (h : Hp) (r : Int32 × Hp) (hb : b_63_39 k4 v0 v1 v2 v3  h = some r) : Rn d 63 39 [some (va_rf v0), some (va_rf v1), some (.int v2), some (.int v3), v4.map Value.int] [] h (some (.int r.1), r.2) := by
  unfold b_63_39 at hb
  obtain ⟨e, rfl⟩ : ∃ e, d = e + 1 := ⟨d - 1, by omega⟩
  refine rn_aload_n (i := 0) rfl rfl ?_
  refine rn_gQ (c := 5) (k := 1) rfl (by decide) hb (fun x1 hb => ?_)
  refine rn_aload_n (i := 1) rfl rfl ?_
  refine rn_gI (c := 1) (k := 6) rfl (by decide) hb (fun x2 hb => ?_)
  refine rn_iload_n (i := 3) rfl rfl ?_
  refine rn_iadd rfl ?_
  refine rn_aload_n (i := 1) rfl rfl ?_
  refine rn_gI (c := 1) (k := 7) rfl (by decide) hb (fun x3 hb => ?_)
  obtain ⟨hrc, hb⟩ := grd_spec hb
  obtain ⟨p4, hc, hb⟩ := Option.bind_eq_some_iff.mp hb
  refine Rn.call1 (d := e) (As := [va_rf x1, .int (x2 + v3), .int x3]) (rest := []) rfl rfl rfl (by decide) rfl rfl rfl (bd_rcV hrc rfl) (by decide) (bd_lenC (n := 4) rfl (bd_slR (bd_slI (bd_slI bd_slN))) rfl) (bd_locC (n := 4) rfl (bd_slR (bd_slI (bd_slI bd_slN))) rfl (t_50 e (by omega) x1 (x2 + v3) x3 h _ hc)) ?_
  exact u_63_56 (e + 1) hd k4 K4 v0 v1 v2 v3 v4 p4.1 p4.2 _ hb
def b_63_19 (k4 : Option Nat → Option Nat → Int32 → Int32 → Hp → Option (Int32 × Hp)) (v0 : Option Nat) (v1 : Option Nat) (v2 : Int32) (v3 : Int32)  (h : Hp) : Option (Int32 × Hp) :=
  (gQ 5 1 v0 h).bind fun x1 =>
  (gI 1 6 v1 h).bind fun x2 =>
  (gI 1 7 v1 h).bind fun x3 =>
  (grd (rC 4 x1 h)).bind fun _ =>
  (f_50 x1 x2 (x3 + v3) h).bind fun p4 =>
  b_63_56 k4 v0 v1 v2 v3 p4.1 p4.2
theorem u_63_19 (d : Nat) (hd : 1 ≤ d) (k4 : Option Nat → Option Nat → Int32 → Int32 → Hp → Option (Int32 × Hp)) (K4 : ∀ (v0 : Option Nat) (v1 : Option Nat) (v2 : Int32) (v3 : Int32) (v4 : Option (Int32)) (h : Hp) (r : Int32 × Hp), k4 v0 v1 v2 v3 h = some r → Rn d 63 4 [some (va_rf v0), some (va_rf v1), some (.int v2), some (.int v3), v4.map Value.int] [] h (some (.int r.1), r.2)) (v0 : Option Nat) (v1 : Option Nat) (v2 : Int32) (v3 : Int32) (v4 : Option (Int32))  (h : Hp) (r : Int32 × Hp) (hb : b_63_19 k4 v0 v1 v2 v3  h = some r) : Rn d 63 19 [some (va_rf v0), some (va_rf v1), some (.int v2), some (.int v3), v4.map Value.int] [] h (some (.int r.1), r.2) := by
  unfold b_63_19 at hb
  obtain ⟨e, rfl⟩ : ∃ e, d = e + 1 := ⟨d - 1, by omega⟩
  refine rn_aload_n (i := 0) rfl rfl ?_
  refine rn_gQ (c := 5) (k := 1) rfl (by decide) hb (fun x1 hb => ?_)
  refine rn_aload_n (i := 1) rfl rfl ?_
  refine rn_gI (c := 1) (k := 6) rfl (by decide) hb (fun x2 hb => ?_)
  refine rn_aload_n (i := 1) rfl rfl ?_
  refine rn_gI (c := 1) (k := 7) rfl (by decide) hb (fun x3 hb => ?_)
  refine rn_iload_n (i := 3) rfl rfl ?_
  refine rn_iadd rfl ?_
  obtain ⟨hrc, hb⟩ := grd_spec hb
  obtain ⟨p4, hc, hb⟩ := Option.bind_eq_some_iff.mp hb
  refine Rn.call1 (d := e) (As := [va_rf x1, .int x2, .int (x3 + v3)]) (rest := []) rfl rfl rfl (by decide) rfl rfl rfl (bd_rcV hrc rfl) (by decide) (bd_lenC (n := 4) rfl (bd_slR (bd_slI (bd_slI bd_slN))) rfl) (bd_locC (n := 4) rfl (bd_slR (bd_slI (bd_slI bd_slN))) rfl (t_50 e (by omega) x1 x2 (x3 + v3) h _ hc)) ?_
  refine rn_goto rfl rfl ?_
  exact u_63_56 (e + 1) hd k4 K4 v0 v1 v2 v3 v4 p4.1 p4.2 _ hb
def b_63_12 (k4 : Option Nat → Option Nat → Int32 → Int32 → Hp → Option (Int32 × Hp)) (v0 : Option Nat) (v1 : Option Nat) (v2 : Int32) (v3 : Int32)  (h : Hp) : Option (Int32 × Hp) :=
  (gI 1 8 v1 h).bind fun x1 =>
  if x1 = 0 then b_63_39 k4 v0 v1 v2 v3  h else b_63_19 k4 v0 v1 v2 v3  h
theorem u_63_12 (d : Nat) (hd : 1 ≤ d) (k4 : Option Nat → Option Nat → Int32 → Int32 → Hp → Option (Int32 × Hp)) (K4 : ∀ (v0 : Option Nat) (v1 : Option Nat) (v2 : Int32) (v3 : Int32) (v4 : Option (Int32)) (h : Hp) (r : Int32 × Hp), k4 v0 v1 v2 v3 h = some r → Rn d 63 4 [some (va_rf v0), some (va_rf v1), some (.int v2), some (.int v3), v4.map Value.int] [] h (some (.int r.1), r.2)) (v0 : Option Nat) (v1 : Option Nat) (v2 : Int32) (v3 : Int32) (v4 : Option (Int32))  (h : Hp) (r : Int32 × Hp) (hb : b_63_12 k4 v0 v1 v2 v3  h = some r) : Rn d 63 12 [some (va_rf v0), some (va_rf v1), some (.int v2), some (.int v3), v4.map Value.int] [] h (some (.int r.1), r.2) := by
  unfold b_63_12 at hb
  refine rn_aload_n (i := 1) rfl rfl ?_
  refine rn_gI (c := 1) (k := 8) rfl (by decide) hb (fun x1 hb => ?_)
  refine rn_if_eq rfl rfl (fun hc => ?_) (fun hc => ?_)
  · exact u_63_39 d hd k4 K4 v0 v1 v2 v3 v4  h _ (if_t hb hc)
  · exact u_63_19 d hd k4 K4 v0 v1 v2 v3 v4  h _ (if_f hb hc)
def b_63_4 (k4 : Option Nat → Option Nat → Int32 → Int32 → Hp → Option (Int32 × Hp)) (v0 : Option Nat) (v1 : Option Nat) (v2 : Int32) (v3 : Int32)  (h : Hp) : Option (Int32 × Hp) :=
  (gI 1 9 v1 h).bind fun x1 =>
  if x1 ≤ v3 then b_63_96 v2  h else b_63_12 k4 v0 v1 v2 v3  h
theorem u_63_4 (d : Nat) (hd : 1 ≤ d) (k4 : Option Nat → Option Nat → Int32 → Int32 → Hp → Option (Int32 × Hp)) (K4 : ∀ (v0 : Option Nat) (v1 : Option Nat) (v2 : Int32) (v3 : Int32) (v4 : Option (Int32)) (h : Hp) (r : Int32 × Hp), k4 v0 v1 v2 v3 h = some r → Rn d 63 4 [some (va_rf v0), some (va_rf v1), some (.int v2), some (.int v3), v4.map Value.int] [] h (some (.int r.1), r.2)) (v0 : Option Nat) (v1 : Option Nat) (v2 : Int32) (v3 : Int32) (v4 : Option (Int32))  (h : Hp) (r : Int32 × Hp) (hb : b_63_4 k4 v0 v1 v2 v3  h = some r) : Rn d 63 4 [some (va_rf v0), some (va_rf v1), some (.int v2), some (.int v3), v4.map Value.int] [] h (some (.int r.1), r.2) := by
  unfold b_63_4 at hb
  refine rn_iload_n (i := 3) rfl rfl ?_
  refine rn_aload_n (i := 1) rfl rfl ?_
  refine rn_gI (c := 1) (k := 9) rfl (by decide) hb (fun x1 hb => ?_)
  refine rn_icmp_ge rfl rfl (fun hc => ?_) (fun hc => ?_)
  · exact u_63_96 d hd v0 v1 v2 v3 v4  h _ (if_t hb hc)
  · exact u_63_12 d hd k4 K4 v0 v1 v2 v3 v4  h _ (if_f hb hc)
def l_63_4 : Nat → Option Nat → Option Nat → Int32 → Int32 → Hp → Option (Int32 × Hp)
  | 0, _, _, _, _, _ => none
  | n + 1, v0, v1, v2, v3, h => b_63_4 (l_63_4 n) v0 v1 v2 v3 h
theorem w_63_4 (d : Nat) (hd : 1 ≤ d) : ∀ (n : Nat) (v0 : Option Nat) (v1 : Option Nat) (v2 : Int32) (v3 : Int32) (v4 : Option (Int32)) (h : Hp) (r : Int32 × Hp), l_63_4 n v0 v1 v2 v3 h = some r → Rn d 63 4 [some (va_rf v0), some (va_rf v1), some (.int v2), some (.int v3), v4.map Value.int] [] h (some (.int r.1), r.2) := by
  intro n
  induction n with
  | zero => intro v0 v1 v2 v3 v4 h r hb; cases hb
  | succ n ih => intro v0 v1 v2 v3 v4 h r hb; exact u_63_4 d hd (l_63_4 n) ih v0 v1 v2 v3 v4 h r hb
def b_63_0 (v0 : Option Nat) (v1 : Option Nat)  (h : Hp) : Option (Int32 × Hp) :=
  bnd ((nI 0)) fun x1 =>
  bnd ((nI 0)) fun x2 =>
  l_63_4 FU v0 v1 x1 x2 h
theorem u_63_0 (d : Nat) (hd : 1 ≤ d) (v0 : Option Nat) (v1 : Option Nat)  (h : Hp) (r : Int32 × Hp) (hb : b_63_0 v0 v1  h = some r) : Rn d 63 0 [some (va_rf v0), some (va_rf v1), none, none, none] [] h (some (.int r.1), r.2) := by
  unfold b_63_0 at hb
  refine rn_iconst (x := (nI 0)) rfl (by decide) ?_
  obtain ⟨x1, ex1, hb⟩ := bnd_spec hb
  refine rn_istore_n (i := 2) (L1 := [some (va_rf v0), some (va_rf v1), some (.int x1), none, none]) rfl (Nat.le_of_ble_eq_true rfl) (Or.inr (bd_wideR rfl)) (by rw [ex1]; rfl) ?_
  refine rn_iconst (x := (nI 0)) rfl (by decide) ?_
  obtain ⟨x2, ex2, hb⟩ := bnd_spec hb
  refine rn_istore_n (i := 3) (L1 := [some (va_rf v0), some (va_rf v1), some (.int x1), some (.int x2), none]) rfl (Nat.le_of_ble_eq_true rfl) (Or.inr rfl) (by rw [ex2]; rfl) ?_
  exact w_63_4 d hd FU v0 v1 x1 x2 (none : Option (Int32)) h _ hb
/-- BitingDoors$HouseReader.doorwayFault(LBitingDoors$Door;)I -/
def f_63 (v0 : Option Nat) (v1 : Option Nat) (h : Hp) : Option (Int32 × Hp) := b_63_0 v0 v1 h
theorem t_63 (d : Nat) (hd : 1 ≤ d) (v0 : Option Nat) (v1 : Option Nat) (h : Hp) (r : Int32 × Hp) (hb : f_63 v0 v1 h = some r) : Rn d 63 0 [some (va_rf v0), some (va_rf v1), none, none, none] [] h (some (.int r.1), r.2) := by
  unfold f_63 at hb
  exact u_63_0 d hd v0 v1 h r hb
def b_62_120 (v0 : Option Nat)  (h : Hp) : Option (Int32 × Hp) :=
  (gQ 5 0 v0 h).bind fun x1 =>
  (grd (rC 9 x1 h)).bind fun _ =>
  (f_117 x1 h).bind fun p2 =>
  (grd (decide ((nI 1) = 0 ∨ (nI 1) = 1))).bind fun _ => some ((nI 1), p2)
theorem u_62_120 (d : Nat) (hd : 2 ≤ d) (v0 : Option Nat) (v1 : Option Nat) (v2 : Int32) (v3 : Int32) (v4 : Option (Int32))  (h : Hp) (r : Int32 × Hp) (hb : b_62_120 v0  h = some r) : Rn d 62 120 [some (va_rf v0), some (va_rf v1), some (.int v2), some (.int v3), v4.map Value.int] [] h (some (.int r.1), r.2) := by
  unfold b_62_120 at hb
  obtain ⟨e, rfl⟩ : ∃ e, d = e + 1 := ⟨d - 1, by omega⟩
  refine rn_aload_n (i := 0) rfl rfl ?_
  refine rn_gQ (c := 5) (k := 0) rfl (by decide) hb (fun x1 hb => ?_)
  obtain ⟨hrc, hb⟩ := grd_spec hb
  obtain ⟨p2, hc, hb⟩ := Option.bind_eq_some_iff.mp hb
  refine Rn.call0 (d := e) (As := [va_rf x1]) (rest := []) rfl rfl rfl (by decide) rfl rfl rfl (bd_rcV hrc rfl) (by decide) (bd_lenC (n := 3) rfl (bd_slR bd_slN) rfl) (bd_locC (n := 3) rfl (bd_slR bd_slN) rfl (t_117 e (by omega) x1 h _ hc)) ?_
  refine rn_iconst (x := (nI 1)) rfl (by decide) ?_
  obtain ⟨hz, hb⟩ := grd_spec hb
  obtain rfl := Option.some.inj hb
  exact rn_zret rfl rfl (of_decide_eq_true hz)
def b_62_92 (k46 : Option Nat → Option Nat → Int32 → Hp → Option (Int32 × Hp)) (v0 : Option Nat) (v1 : Option Nat) (v3 : Int32) (s0 : Int32) (h : Hp) : Option (Int32 × Hp) :=
  (gQ 5 1 v0 h).bind fun x1 =>
  (gQ 4 0 x1 h).bind fun x2 =>
  (gQ 5 1 v0 h).bind fun x3 =>
  (gI 4 5 x3 h).bind fun x4 =>
  (wI x2 s0 ((nI 10) + x4) h).bind fun h5 =>
  bnd (v3 + (nI 1)) fun x6 =>
  k46 v0 v1 x6 h5
theorem u_62_92 (d : Nat) (hd : 2 ≤ d) (k46 : Option Nat → Option Nat → Int32 → Hp → Option (Int32 × Hp)) (K46 : ∀ (v0 : Option Nat) (v1 : Option Nat) (v2 : Int32) (v3 : Int32) (v4 : Option (Int32)) (h : Hp) (r : Int32 × Hp), k46 v0 v1 v3 h = some r → Rn d 62 46 [some (va_rf v0), some (va_rf v1), some (.int v2), some (.int v3), v4.map Value.int] [] h (some (.int r.1), r.2)) (v0 : Option Nat) (v1 : Option Nat) (v2 : Int32) (v3 : Int32) (v4 : Option (Int32)) (s0 : Int32) (h : Hp) (r : Int32 × Hp) (hb : b_62_92 k46 v0 v1 v3 s0 h = some r) : Rn d 62 92 [some (va_rf v0), some (va_rf v1), some (.int v2), some (.int v3), v4.map Value.int] [.int s0] h (some (.int r.1), r.2) := by
  unfold b_62_92 at hb
  refine rn_istore (i := 4) (L1 := [some (va_rf v0), some (va_rf v1), some (.int v2), some (.int v3), some (.int s0)]) rfl (Nat.le_of_ble_eq_true rfl) (Or.inr rfl) rfl ?_
  refine rn_aload_n (i := 0) rfl rfl ?_
  refine rn_gQ (c := 5) (k := 1) rfl (by decide) hb (fun x1 hb => ?_)
  refine rn_gQ (c := 4) (k := 0) rfl (by decide) hb (fun x2 hb => ?_)
  refine rn_iload (i := 4) rfl rfl ?_
  refine rn_bipush (x := (nI 10)) rfl (by decide) ?_
  refine rn_aload_n (i := 0) rfl rfl ?_
  refine rn_gQ (c := 5) (k := 1) rfl (by decide) hb (fun x3 hb => ?_)
  refine rn_gI (c := 4) (k := 5) rfl (by decide) hb (fun x4 hb => ?_)
  refine rn_iadd rfl ?_
  refine rn_wI rfl hb (fun h5 hb => ?_)
  obtain ⟨x6, ex6, hb⟩ := bnd_spec hb
  refine rn_iinc (i := 3) (y := x6) (L1 := [some (va_rf v0), some (va_rf v1), some (.int v2), some (.int x6), some (.int s0)]) rfl rfl (Nat.le_of_ble_eq_true rfl) (Or.inr rfl) (by rw [ex6]; rfl) rfl ?_
  refine rn_goto rfl rfl ?_
  exact K46 v0 v1 v2 x6 (some s0) h5 _ hb
def b_62_78 (k46 : Option Nat → Option Nat → Int32 → Hp → Option (Int32 × Hp)) (v0 : Option Nat) (v1 : Option Nat) (v3 : Int32)  (h : Hp) : Option (Int32 × Hp) :=
  (gI 1 7 v1 h).bind fun x1 =>
  (gI 1 6 v1 h).bind fun x2 =>
  b_62_92 k46 v0 v1 v3 ((((nI 10) * x1) + x2) + v3) h
theorem u_62_78 (d : Nat) (hd : 2 ≤ d) (k46 : Option Nat → Option Nat → Int32 → Hp → Option (Int32 × Hp)) (K46 : ∀ (v0 : Option Nat) (v1 : Option Nat) (v2 : Int32) (v3 : Int32) (v4 : Option (Int32)) (h : Hp) (r : Int32 × Hp), k46 v0 v1 v3 h = some r → Rn d 62 46 [some (va_rf v0), some (va_rf v1), some (.int v2), some (.int v3), v4.map Value.int] [] h (some (.int r.1), r.2)) (v0 : Option Nat) (v1 : Option Nat) (v2 : Int32) (v3 : Int32) (v4 : Option (Int32))  (h : Hp) (r : Int32 × Hp) (hb : b_62_78 k46 v0 v1 v3  h = some r) : Rn d 62 78 [some (va_rf v0), some (va_rf v1), some (.int v2), some (.int v3), v4.map Value.int] [] h (some (.int r.1), r.2) := by
  unfold b_62_78 at hb
  refine rn_bipush (x := (nI 10)) rfl (by decide) ?_
  refine rn_aload_n (i := 1) rfl rfl ?_
  refine rn_gI (c := 1) (k := 7) rfl (by decide) hb (fun x1 hb => ?_)
  refine rn_imul rfl ?_
  refine rn_aload_n (i := 1) rfl rfl ?_
  refine rn_gI (c := 1) (k := 6) rfl (by decide) hb (fun x2 hb => ?_)
  refine rn_iadd rfl ?_
  refine rn_iload_n (i := 3) rfl rfl ?_
  refine rn_iadd rfl ?_
  exact u_62_92 d hd k46 K46 v0 v1 v2 v3 v4 ((((nI 10) * x1) + x2) + v3) h _ hb
def b_62_61 (k46 : Option Nat → Option Nat → Int32 → Hp → Option (Int32 × Hp)) (v0 : Option Nat) (v1 : Option Nat) (v3 : Int32)  (h : Hp) : Option (Int32 × Hp) :=
  (gI 1 7 v1 h).bind fun x1 =>
  (gI 1 6 v1 h).bind fun x2 =>
  b_62_92 k46 v0 v1 v3 (((nI 10) * (x1 + v3)) + x2) h
theorem u_62_61 (d : Nat) (hd : 2 ≤ d) (k46 : Option Nat → Option Nat → Int32 → Hp → Option (Int32 × Hp)) (K46 : ∀ (v0 : Option Nat) (v1 : Option Nat) (v2 : Int32) (v3 : Int32) (v4 : Option (Int32)) (h : Hp) (r : Int32 × Hp), k46 v0 v1 v3 h = some r → Rn d 62 46 [some (va_rf v0), some (va_rf v1), some (.int v2), some (.int v3), v4.map Value.int] [] h (some (.int r.1), r.2)) (v0 : Option Nat) (v1 : Option Nat) (v2 : Int32) (v3 : Int32) (v4 : Option (Int32))  (h : Hp) (r : Int32 × Hp) (hb : b_62_61 k46 v0 v1 v3  h = some r) : Rn d 62 61 [some (va_rf v0), some (va_rf v1), some (.int v2), some (.int v3), v4.map Value.int] [] h (some (.int r.1), r.2) := by
  unfold b_62_61 at hb
  refine rn_bipush (x := (nI 10)) rfl (by decide) ?_
  refine rn_aload_n (i := 1) rfl rfl ?_
  refine rn_gI (c := 1) (k := 7) rfl (by decide) hb (fun x1 hb => ?_)
  refine rn_iload_n (i := 3) rfl rfl ?_
  refine rn_iadd rfl ?_
  refine rn_imul rfl ?_
  refine rn_aload_n (i := 1) rfl rfl ?_
  refine rn_gI (c := 1) (k := 6) rfl (by decide) hb (fun x2 hb => ?_)
  refine rn_iadd rfl ?_
  refine rn_goto rfl rfl ?_
  exact u_62_92 d hd k46 K46 v0 v1 v2 v3 v4 (((nI 10) * (x1 + v3)) + x2) h _ hb
def b_62_54 (k46 : Option Nat → Option Nat → Int32 → Hp → Option (Int32 × Hp)) (v0 : Option Nat) (v1 : Option Nat) (v3 : Int32)  (h : Hp) : Option (Int32 × Hp) :=
  (gI 1 8 v1 h).bind fun x1 =>
  if x1 = 0 then b_62_78 k46 v0 v1 v3  h else b_62_61 k46 v0 v1 v3  h
theorem u_62_54 (d : Nat) (hd : 2 ≤ d) (k46 : Option Nat → Option Nat → Int32 → Hp → Option (Int32 × Hp)) (K46 : ∀ (v0 : Option Nat) (v1 : Option Nat) (v2 : Int32) (v3 : Int32) (v4 : Option (Int32)) (h : Hp) (r : Int32 × Hp), k46 v0 v1 v3 h = some r → Rn d 62 46 [some (va_rf v0), some (va_rf v1), some (.int v2), some (.int v3), v4.map Value.int] [] h (some (.int r.1), r.2)) (v0 : Option Nat) (v1 : Option Nat) (v2 : Int32) (v3 : Int32) (v4 : Option (Int32))  (h : Hp) (r : Int32 × Hp) (hb : b_62_54 k46 v0 v1 v3  h = some r) : Rn d 62 54 [some (va_rf v0), some (va_rf v1), some (.int v2), some (.int v3), v4.map Value.int] [] h (some (.int r.1), r.2) := by
  unfold b_62_54 at hb
  refine rn_aload_n (i := 1) rfl rfl ?_
  refine rn_gI (c := 1) (k := 8) rfl (by decide) hb (fun x1 hb => ?_)
  refine rn_if_eq rfl rfl (fun hc => ?_) (fun hc => ?_)
  · exact u_62_78 d hd k46 K46 v0 v1 v2 v3 v4  h _ (if_t hb hc)
  · exact u_62_61 d hd k46 K46 v0 v1 v2 v3 v4  h _ (if_f hb hc)
def b_62_46 (k46 : Option Nat → Option Nat → Int32 → Hp → Option (Int32 × Hp)) (v0 : Option Nat) (v1 : Option Nat) (v3 : Int32)  (h : Hp) : Option (Int32 × Hp) :=
  (gI 1 9 v1 h).bind fun x1 =>
  if x1 ≤ v3 then b_62_120 v0  h else b_62_54 k46 v0 v1 v3  h
theorem u_62_46 (d : Nat) (hd : 2 ≤ d) (k46 : Option Nat → Option Nat → Int32 → Hp → Option (Int32 × Hp)) (K46 : ∀ (v0 : Option Nat) (v1 : Option Nat) (v2 : Int32) (v3 : Int32) (v4 : Option (Int32)) (h : Hp) (r : Int32 × Hp), k46 v0 v1 v3 h = some r → Rn d 62 46 [some (va_rf v0), some (va_rf v1), some (.int v2), some (.int v3), v4.map Value.int] [] h (some (.int r.1), r.2)) (v0 : Option Nat) (v1 : Option Nat) (v2 : Int32) (v3 : Int32) (v4 : Option (Int32))  (h : Hp) (r : Int32 × Hp) (hb : b_62_46 k46 v0 v1 v3  h = some r) : Rn d 62 46 [some (va_rf v0), some (va_rf v1), some (.int v2), some (.int v3), v4.map Value.int] [] h (some (.int r.1), r.2) := by
  unfold b_62_46 at hb
  refine rn_iload_n (i := 3) rfl rfl ?_
  refine rn_aload_n (i := 1) rfl rfl ?_
  refine rn_gI (c := 1) (k := 9) rfl (by decide) hb (fun x1 hb => ?_)
  refine rn_icmp_ge rfl rfl (fun hc => ?_) (fun hc => ?_)
  · exact u_62_120 d hd v0 v1 v2 v3 v4  h _ (if_t hb hc)
  · exact u_62_54 d hd k46 K46 v0 v1 v2 v3 v4  h _ (if_f hb hc)
def l_62_46 : Nat → Option Nat → Option Nat → Int32 → Hp → Option (Int32 × Hp)
  | 0, _, _, _, _ => none
  | n + 1, v0, v1, v3, h => b_62_46 (l_62_46 n) v0 v1 v3 h
theorem w_62_46 (d : Nat) (hd : 2 ≤ d) : ∀ (n : Nat) (v0 : Option Nat) (v1 : Option Nat) (v2 : Int32) (v3 : Int32) (v4 : Option (Int32)) (h : Hp) (r : Int32 × Hp), l_62_46 n v0 v1 v3 h = some r → Rn d 62 46 [some (va_rf v0), some (va_rf v1), some (.int v2), some (.int v3), v4.map Value.int] [] h (some (.int r.1), r.2) := by
  intro n
  induction n with
  | zero => intro v0 v1 v2 v3 v4 h r hb; cases hb
  | succ n ih => intro v0 v1 v2 v3 v4 h r hb; exact u_62_46 d hd (l_62_46 n) ih v0 v1 v2 v3 v4 h r hb
def b_62_44 (v0 : Option Nat) (v1 : Option Nat)  (h : Hp) : Option (Int32 × Hp) :=
  bnd ((nI 0)) fun x1 =>
  l_62_46 FU v0 v1 x1 h
theorem u_62_44 (d : Nat) (hd : 2 ≤ d) (v0 : Option Nat) (v1 : Option Nat) (v2 : Int32)  (h : Hp) (r : Int32 × Hp) (hb : b_62_44 v0 v1  h = some r) : Rn d 62 44 [some (va_rf v0), some (va_rf v1), some (.int v2), none, none] [] h (some (.int r.1), r.2) := by
  unfold b_62_44 at hb
  refine rn_iconst (x := (nI 0)) rfl (by decide) ?_
  obtain ⟨x1, ex1, hb⟩ := bnd_spec hb
  refine rn_istore_n (i := 3) (L1 := [some (va_rf v0), some (va_rf v1), some (.int v2), some (.int x1), none]) rfl (Nat.le_of_ble_eq_true rfl) (Or.inr rfl) (by rw [ex1]; rfl) ?_
  exact w_62_46 d hd FU v0 v1 v2 x1 (none : Option (Int32)) h _ hb
def b_62_35 (v0 : Option Nat) (v2 : Int32)  (h : Hp) : Option (Int32 × Hp) :=
  (gQ 5 0 v0 h).bind fun x1 =>
  (grd (rC 9 x1 h)).bind fun _ =>
  (f_119 x1 v2 h).bind fun p2 =>
  (grd (decide (p2.1 = 0 ∨ p2.1 = 1))).bind fun _ => some (p2.1, p2.2)
theorem u_62_35 (d : Nat) (hd : 2 ≤ d) (v0 : Option Nat) (v1 : Option Nat) (v2 : Int32)  (h : Hp) (r : Int32 × Hp) (hb : b_62_35 v0 v2  h = some r) : Rn d 62 35 [some (va_rf v0), some (va_rf v1), some (.int v2), none, none] [] h (some (.int r.1), r.2) := by
  unfold b_62_35 at hb
  obtain ⟨e, rfl⟩ : ∃ e, d = e + 1 := ⟨d - 1, by omega⟩
  refine rn_aload_n (i := 0) rfl rfl ?_
  refine rn_gQ (c := 5) (k := 0) rfl (by decide) hb (fun x1 hb => ?_)
  refine rn_iload_n (i := 2) rfl rfl ?_
  obtain ⟨hrc, hb⟩ := grd_spec hb
  obtain ⟨p2, hc, hb⟩ := Option.bind_eq_some_iff.mp hb
  refine Rn.call1 (d := e) (As := [va_rf x1, .int v2]) (rest := []) rfl rfl rfl (by decide) rfl rfl rfl (bd_rcV hrc rfl) (by decide) (bd_lenC (n := 2) rfl (bd_slR (bd_slI bd_slN)) rfl) (bd_locC (n := 2) rfl (bd_slR (bd_slI bd_slN)) rfl (t_119 e (by omega) x1 v2 h _ hc)) ?_
  obtain ⟨hz, hb⟩ := grd_spec hb
  obtain rfl := Option.some.inj hb
  exact rn_zret rfl rfl (of_decide_eq_true hz)
def b_62_14 (v0 : Option Nat) (v1 : Option Nat)  (h : Hp) : Option (Int32 × Hp) :=
  (gQ 5 0 v0 h).bind fun x1 =>
  (gI 9 4 x1 h).bind fun x2 =>
  (pI 1 9 v1 x2 h).bind fun h3 =>
  (grd (rC 5 v0 h3)).bind fun _ =>
  (f_63 v0 v1 h3).bind fun p4 =>
  bnd (p4.1) fun x5 =>
  if x5 = 0 then b_62_44 v0 v1  p4.2 else b_62_35 v0 x5  p4.2
theorem u_62_14 (d : Nat) (hd : 2 ≤ d) (v0 : Option Nat) (v1 : Option Nat)  (h : Hp) (r : Int32 × Hp) (hb : b_62_14 v0 v1  h = some r) : Rn d 62 14 [some (va_rf v0), some (va_rf v1), none, none, none] [] h (some (.int r.1), r.2) := by
  unfold b_62_14 at hb
  obtain ⟨e, rfl⟩ : ∃ e, d = e + 1 := ⟨d - 1, by omega⟩
  refine rn_aload_n (i := 1) rfl rfl ?_
  refine rn_aload_n (i := 0) rfl rfl ?_
  refine rn_gQ (c := 5) (k := 0) rfl (by decide) hb (fun x1 hb => ?_)
  refine rn_gI (c := 9) (k := 4) rfl (by decide) hb (fun x2 hb => ?_)
  refine rn_pI (c := 1) (k := 9) rfl (by decide) hb (fun h3 hb => ?_)
  refine rn_aload_n (i := 0) rfl rfl ?_
  refine rn_aload_n (i := 1) rfl rfl ?_
  obtain ⟨hrc, hb⟩ := grd_spec hb
  obtain ⟨p4, hc, hb⟩ := Option.bind_eq_some_iff.mp hb
  refine Rn.call1 (d := e) (As := [va_rf v0, va_rf v1]) (rest := []) rfl rfl rfl (by decide) rfl rfl rfl (bd_rcV hrc rfl) (by decide) (bd_lenC (n := 5) rfl (bd_slR (bd_slR bd_slN)) rfl) (bd_locC (n := 5) rfl (bd_slR (bd_slR bd_slN)) rfl (t_63 e (by omega) v0 v1 h3 _ hc)) ?_
  obtain ⟨x5, ex5, hb⟩ := bnd_spec hb
  refine rn_istore_n (i := 2) (L1 := [some (va_rf v0), some (va_rf v1), some (.int x5), none, none]) rfl (Nat.le_of_ble_eq_true rfl) (Or.inr (bd_wideR rfl)) (by rw [ex5]; rfl) ?_
  refine rn_iload_n (i := 2) rfl rfl ?_
  refine rn_if_eq rfl rfl (fun hc => ?_) (fun hc => ?_)
  · exact u_62_44 (e + 1) hd v0 v1 x5  p4.2 _ (if_t hb hc)
  · exact u_62_35 (e + 1) hd v0 v1 x5  p4.2 _ (if_f hb hc)
def b_62_12   (h : Hp) : Option (Int32 × Hp) :=
  (grd (decide ((nI 0) = 0 ∨ (nI 0) = 1))).bind fun _ => some ((nI 0), h)
theorem u_62_12 (d : Nat) (hd : 2 ≤ d) (v0 : Option Nat) (v1 : Option Nat)  (h : Hp) (r : Int32 × Hp) (hb : b_62_12   h = some r) : Rn d 62 12 [some (va_rf v0), some (va_rf v1), none, none, none] [] h (some (.int r.1), r.2) := by
  unfold b_62_12 at hb
  refine rn_iconst (x := (nI 0)) rfl (by decide) ?_
  obtain ⟨hz, hb⟩ := grd_spec hb
  obtain rfl := Option.some.inj hb
  exact rn_zret rfl rfl (of_decide_eq_true hz)
def b_62_0 (v0 : Option Nat) (v1 : Option Nat)  (h : Hp) : Option (Int32 × Hp) :=
  (gQ 5 0 v0 h).bind fun x1 =>
  (grd (rC 9 x1 h)).bind fun _ =>
  (f_124 x1 (nI 1) (nI 3) h).bind fun p2 =>
  if ¬ p2.1 = 0 then b_62_14 v0 v1  p2.2 else b_62_12   p2.2
theorem u_62_0 (d : Nat) (hd : 2 ≤ d) (v0 : Option Nat) (v1 : Option Nat)  (h : Hp) (r : Int32 × Hp) (hb : b_62_0 v0 v1  h = some r) : Rn d 62 0 [some (va_rf v0), some (va_rf v1), none, none, none] [] h (some (.int r.1), r.2) := by
  unfold b_62_0 at hb
  obtain ⟨e, rfl⟩ : ∃ e, d = e + 1 := ⟨d - 1, by omega⟩
  refine rn_aload_n (i := 0) rfl rfl ?_
  refine rn_gQ (c := 5) (k := 0) rfl (by decide) hb (fun x1 hb => ?_)
  refine rn_iconst (x := (nI 1)) rfl (by decide) ?_
  refine rn_iconst (x := (nI 3)) rfl (by decide) ?_
  obtain ⟨hrc, hb⟩ := grd_spec hb
  obtain ⟨p2, hc, hb⟩ := Option.bind_eq_some_iff.mp hb
  refine Rn.call1 (d := e) (As := [va_rf x1, .int (nI 1), .int (nI 3)]) (rest := []) rfl rfl rfl (by decide) rfl rfl rfl (bd_rcV hrc rfl) (by decide) (bd_lenC (n := 3) rfl (bd_slR (bd_slI (bd_slI bd_slN))) rfl) (bd_locC (n := 3) rfl (bd_slR (bd_slI (bd_slI bd_slN))) rfl (t_124 e (by omega) x1 (nI 1) (nI 3) h _ hc)) ?_
  refine rn_if_ne rfl rfl (fun hc => ?_) (fun hc => ?_)
  · exact u_62_14 (e + 1) hd v0 v1  p2.2 _ (if_t hb hc)
  · exact u_62_12 (e + 1) hd v0 v1  p2.2 _ (if_f hb hc)
/-- BitingDoors$HouseReader.readDoorway(LBitingDoors$Door;)Z -/
def f_62 (v0 : Option Nat) (v1 : Option Nat) (h : Hp) : Option (Int32 × Hp) := b_62_0 v0 v1 h
theorem t_62 (d : Nat) (hd : 2 ≤ d) (v0 : Option Nat) (v1 : Option Nat) (h : Hp) (r : Int32 × Hp) (hb : f_62 v0 v1 h = some r) : Rn d 62 0 [some (va_rf v0), some (va_rf v1), none, none, none] [] h (some (.int r.1), r.2) := by
  unfold f_62 at hb
  exact u_62_0 d hd v0 v1 h r hb
def b_59_60   (h : Hp) : Option (Int32 × Hp) :=
  (grd (decide ((nI 0) = 0 ∨ (nI 0) = 1))).bind fun _ => some ((nI 0), h)
theorem u_59_60 (d : Nat) (hd : 4 ≤ d) (v0 : Option Nat) (v1 : Option Nat)  (h : Hp) (r : Int32 × Hp) (hb : b_59_60   h = some r) : Rn d 59 60 [some (va_rf v0), some (va_rf v1)] [] h (some (.int r.1), r.2) := by
  unfold b_59_60 at hb
  refine rn_iconst (x := (nI 0)) rfl (by decide) ?_
  obtain ⟨hz, hb⟩ := grd_spec hb
  obtain rfl := Option.some.inj hb
  exact rn_zret rfl rfl (of_decide_eq_true hz)
def b_59_78   (h : Hp) : Option (Int32 × Hp) :=
  (grd (decide ((nI 0) = 0 ∨ (nI 0) = 1))).bind fun _ => some ((nI 0), h)
theorem u_59_78 (d : Nat) (hd : 4 ≤ d) (v0 : Option Nat) (v1 : Option Nat)  (h : Hp) (r : Int32 × Hp) (hb : b_59_78   h = some r) : Rn d 59 78 [some (va_rf v0), some (va_rf v1)] [] h (some (.int r.1), r.2) := by
  unfold b_59_78 at hb
  refine rn_iconst (x := (nI 0)) rfl (by decide) ?_
  obtain ⟨hz, hb⟩ := grd_spec hb
  obtain rfl := Option.some.inj hb
  exact rn_zret rfl rfl (of_decide_eq_true hz)
def b_59_80 (v0 : Option Nat) (v1 : Option Nat)  (h : Hp) : Option (Int32 × Hp) :=
  (gQ 5 0 v0 h).bind fun x1 =>
  (grd (rC 9 x1 h)).bind fun _ =>
  (f_122 x1 (some 6) h).bind fun p2 =>
  (pZ 1 13 v1 p2.1 p2.2).bind fun h3 =>
  (gQ 5 1 v0 h3).bind fun x4 =>
  (gQ 4 1 x4 h3).bind fun x5 =>
  (gQ 5 1 v0 h3).bind fun x6 =>
  (gI 4 5 x6 h3).bind fun x7 =>
  (wQ x5 x7 v1 h3).bind fun h8 =>
  (gQ 5 1 v0 h8).bind fun x9 =>
  (gI 4 5 x9 h8).bind fun x10 =>
  (pI 4 5 x9 (x10 + (nI 1)) h8).bind fun h11 =>
  (grd (decide ((nI 1) = 0 ∨ (nI 1) = 1))).bind fun _ => some ((nI 1), h11)
theorem u_59_80 (d : Nat) (hd : 4 ≤ d) (v0 : Option Nat) (v1 : Option Nat)  (h : Hp) (r : Int32 × Hp) (hb : b_59_80 v0 v1  h = some r) : Rn d 59 80 [some (va_rf v0), some (va_rf v1)] [] h (some (.int r.1), r.2) := by
  unfold b_59_80 at hb
  obtain ⟨e, rfl⟩ : ∃ e, d = e + 1 := ⟨d - 1, by omega⟩
  refine rn_aload_n (i := 1) rfl rfl ?_
  refine rn_aload_n (i := 0) rfl rfl ?_
  refine rn_gQ (c := 5) (k := 0) rfl (by decide) hb (fun x1 hb => ?_)
  refine rn_getstatic rfl ?_
  obtain ⟨hrc, hb⟩ := grd_spec hb
  obtain ⟨p2, hc, hb⟩ := Option.bind_eq_some_iff.mp hb
  refine Rn.call1 (d := e) (As := [va_rf x1, va_rf (some 6)]) (rest := [va_rf v1]) rfl rfl rfl (by decide) rfl rfl rfl (bd_rcV hrc rfl) (by rw [bd_cR (bd_cN)]; decide) (bd_lenC (n := 2) rfl (bd_slR (bd_slR bd_slN)) rfl) (bd_locC (n := 2) rfl (bd_slR (bd_slR bd_slN)) rfl (t_122 e (by omega) x1 (some 6) h _ hc)) ?_
  refine rn_pZ (c := 1) (k := 13) rfl (by decide) hb (fun h3 hb => ?_)
  refine rn_aload_n (i := 0) rfl rfl ?_
  refine rn_gQ (c := 5) (k := 1) rfl (by decide) hb (fun x4 hb => ?_)
  refine rn_gQ (c := 4) (k := 1) rfl (by decide) hb (fun x5 hb => ?_)
  refine rn_aload_n (i := 0) rfl rfl ?_
  refine rn_gQ (c := 5) (k := 1) rfl (by decide) hb (fun x6 hb => ?_)
  refine rn_gI (c := 4) (k := 5) rfl (by decide) hb (fun x7 hb => ?_)
  refine rn_aload_n (i := 1) rfl rfl ?_
  refine rn_wQ rfl hb (fun h8 hb => ?_)
  refine rn_aload_n (i := 0) rfl rfl ?_
  refine rn_gQ (c := 5) (k := 1) rfl (by decide) hb (fun x9 hb => ?_)
  refine rn_dup rfl (bd_cat_rf _) ?_
  refine rn_gI (c := 4) (k := 5) rfl (by decide) hb (fun x10 hb => ?_)
  refine rn_iconst (x := (nI 1)) rfl (by decide) ?_
  refine rn_iadd rfl ?_
  refine rn_pI (c := 4) (k := 5) rfl (by decide) hb (fun h11 hb => ?_)
  refine rn_iconst (x := (nI 1)) rfl (by decide) ?_
  obtain ⟨hz, hb⟩ := grd_spec hb
  obtain rfl := Option.some.inj hb
  exact rn_zret rfl rfl (of_decide_eq_true hz)
def b_59_70 (v0 : Option Nat) (v1 : Option Nat)  (h : Hp) : Option (Int32 × Hp) :=
  (grd (rC 5 v0 h)).bind fun _ =>
  (f_66 v0 v1 h).bind fun p1 =>
  if ¬ p1.1 = 0 then b_59_80 v0 v1  p1.2 else b_59_78   p1.2
theorem u_59_70 (d : Nat) (hd : 4 ≤ d) (v0 : Option Nat) (v1 : Option Nat)  (h : Hp) (r : Int32 × Hp) (hb : b_59_70 v0 v1  h = some r) : Rn d 59 70 [some (va_rf v0), some (va_rf v1)] [] h (some (.int r.1), r.2) := by
  unfold b_59_70 at hb
  obtain ⟨e, rfl⟩ : ∃ e, d = e + 1 := ⟨d - 1, by omega⟩
  refine rn_aload_n (i := 0) rfl rfl ?_
  refine rn_aload_n (i := 1) rfl rfl ?_
  obtain ⟨hrc, hb⟩ := grd_spec hb
  obtain ⟨p1, hc, hb⟩ := Option.bind_eq_some_iff.mp hb
  refine Rn.call1 (d := e) (As := [va_rf v0, va_rf v1]) (rest := []) rfl rfl rfl (by decide) rfl rfl rfl (bd_rcV hrc rfl) (by decide) (bd_lenC (n := 2) rfl (bd_slR (bd_slR bd_slN)) rfl) (bd_locC (n := 2) rfl (bd_slR (bd_slR bd_slN)) rfl (t_66 e (by omega) v0 v1 h _ hc)) ?_
  refine rn_if_ne rfl rfl (fun hc => ?_) (fun hc => ?_)
  · exact u_59_80 (e + 1) hd v0 v1  p1.2 _ (if_t hb hc)
  · exact u_59_78 (e + 1) hd v0 v1  p1.2 _ (if_f hb hc)
def b_59_62 (v0 : Option Nat) (v1 : Option Nat)  (h : Hp) : Option (Int32 × Hp) :=
  (grd (rC 5 v0 h)).bind fun _ =>
  (f_64 v0 v1 h).bind fun p1 =>
  if p1.1 = 0 then b_59_78   p1.2 else b_59_70 v0 v1  p1.2
theorem u_59_62 (d : Nat) (hd : 4 ≤ d) (v0 : Option Nat) (v1 : Option Nat)  (h : Hp) (r : Int32 × Hp) (hb : b_59_62 v0 v1  h = some r) : Rn d 59 62 [some (va_rf v0), some (va_rf v1)] [] h (some (.int r.1), r.2) := by
  unfold b_59_62 at hb
  obtain ⟨e, rfl⟩ : ∃ e, d = e + 1 := ⟨d - 1, by omega⟩
  refine rn_aload_n (i := 0) rfl rfl ?_
  refine rn_aload_n (i := 1) rfl rfl ?_
  obtain ⟨hrc, hb⟩ := grd_spec hb
  obtain ⟨p1, hc, hb⟩ := Option.bind_eq_some_iff.mp hb
  refine Rn.call1 (d := e) (As := [va_rf v0, va_rf v1]) (rest := []) rfl rfl rfl (by decide) rfl rfl rfl (bd_rcV hrc rfl) (by decide) (bd_lenC (n := 3) rfl (bd_slR (bd_slR bd_slN)) rfl) (bd_locC (n := 3) rfl (bd_slR (bd_slR bd_slN)) rfl (t_64 e (by omega) v0 v1 h _ hc)) ?_
  refine rn_if_eq rfl rfl (fun hc => ?_) (fun hc => ?_)
  · exact u_59_78 (e + 1) hd v0 v1  p1.2 _ (if_t hb hc)
  · exact u_59_70 (e + 1) hd v0 v1  p1.2 _ (if_f hb hc)
def b_59_52 (v0 : Option Nat) (v1 : Option Nat)  (h : Hp) : Option (Int32 × Hp) :=
  (grd (rC 5 v0 h)).bind fun _ =>
  (f_62 v0 v1 h).bind fun p1 =>
  if ¬ p1.1 = 0 then b_59_62 v0 v1  p1.2 else b_59_60   p1.2
theorem u_59_52 (d : Nat) (hd : 4 ≤ d) (v0 : Option Nat) (v1 : Option Nat)  (h : Hp) (r : Int32 × Hp) (hb : b_59_52 v0 v1  h = some r) : Rn d 59 52 [some (va_rf v0), some (va_rf v1)] [] h (some (.int r.1), r.2) := by
  unfold b_59_52 at hb
  obtain ⟨e, rfl⟩ : ∃ e, d = e + 1 := ⟨d - 1, by omega⟩
  refine rn_aload_n (i := 0) rfl rfl ?_
  refine rn_aload_n (i := 1) rfl rfl ?_
  obtain ⟨hrc, hb⟩ := grd_spec hb
  obtain ⟨p1, hc, hb⟩ := Option.bind_eq_some_iff.mp hb
  refine Rn.call1 (d := e) (As := [va_rf v0, va_rf v1]) (rest := []) rfl rfl rfl (by decide) rfl rfl rfl (bd_rcV hrc rfl) (by decide) (bd_lenC (n := 5) rfl (bd_slR (bd_slR bd_slN)) rfl) (bd_locC (n := 5) rfl (bd_slR (bd_slR bd_slN)) rfl (t_62 e (by omega) v0 v1 h _ hc)) ?_
  refine rn_if_ne rfl rfl (fun hc => ?_) (fun hc => ?_)
  · exact u_59_62 (e + 1) hd v0 v1  p1.2 _ (if_t hb hc)
  · exact u_59_60 (e + 1) hd v0 v1  p1.2 _ (if_f hb hc)
def b_59_44 (v0 : Option Nat) (v1 : Option Nat)  (h : Hp) : Option (Int32 × Hp) :=
  (grd (rC 5 v0 h)).bind fun _ =>
  (f_61 v0 v1 h).bind fun p1 =>
  if p1.1 = 0 then b_59_60   p1.2 else b_59_52 v0 v1  p1.2
theorem u_59_44 (d : Nat) (hd : 4 ≤ d) (v0 : Option Nat) (v1 : Option Nat)  (h : Hp) (r : Int32 × Hp) (hb : b_59_44 v0 v1  h = some r) : Rn d 59 44 [some (va_rf v0), some (va_rf v1)] [] h (some (.int r.1), r.2) := by
  unfold b_59_44 at hb
  obtain ⟨e, rfl⟩ : ∃ e, d = e + 1 := ⟨d - 1, by omega⟩
  refine rn_aload_n (i := 0) rfl rfl ?_
  refine rn_aload_n (i := 1) rfl rfl ?_
  obtain ⟨hrc, hb⟩ := grd_spec hb
  obtain ⟨p1, hc, hb⟩ := Option.bind_eq_some_iff.mp hb
  refine Rn.call1 (d := e) (As := [va_rf v0, va_rf v1]) (rest := []) rfl rfl rfl (by decide) rfl rfl rfl (bd_rcV hrc rfl) (by decide) (bd_lenC (n := 2) rfl (bd_slR (bd_slR bd_slN)) rfl) (bd_locC (n := 2) rfl (bd_slR (bd_slR bd_slN)) rfl (t_61 e (by omega) v0 v1 h _ hc)) ?_
  refine rn_if_eq rfl rfl (fun hc => ?_) (fun hc => ?_)
  · exact u_59_60 (e + 1) hd v0 v1  p1.2 _ (if_t hb hc)
  · exact u_59_52 (e + 1) hd v0 v1  p1.2 _ (if_f hb hc)
def b_59_21 (v0 : Option Nat)  (h : Hp) : Option (Int32 × Hp) :=
  (gQ 5 0 v0 h).bind fun x1 =>
  (grd (rC 9 x1 h)).bind fun _ =>
  (f_117 x1 h).bind fun p2 =>
  bnd (hNew p2 1 0 (bd_nf 1)) fun h3 =>
  (grd (some (hN p2)).isSome).bind fun _ =>
  (f_6 (some (hN p2)) h3).bind fun p4 =>
  bnd ((some (hN p2))) fun x5 =>
  (grd (rC 5 v0 p4)).bind fun _ =>
  (f_60 v0 x5 p4).bind fun p6 =>
  if p6.1 = 0 then b_59_60   p6.2 else b_59_44 v0 x5  p6.2
theorem u_59_21 (d : Nat) (hd : 4 ≤ d) (v0 : Option Nat)  (h : Hp) (r : Int32 × Hp) (hb : b_59_21 v0  h = some r) : Rn d 59 21 [some (va_rf v0), none] [] h (some (.int r.1), r.2) := by
  unfold b_59_21 at hb
  obtain ⟨e, rfl⟩ : ∃ e, d = e + 1 := ⟨d - 1, by omega⟩
  refine rn_aload_n (i := 0) rfl rfl ?_
  refine rn_gQ (c := 5) (k := 0) rfl (by decide) hb (fun x1 hb => ?_)
  obtain ⟨hrc, hb⟩ := grd_spec hb
  obtain ⟨p2, hc, hb⟩ := Option.bind_eq_some_iff.mp hb
  refine Rn.call0 (d := e) (As := [va_rf x1]) (rest := []) rfl rfl rfl (by decide) rfl rfl rfl (bd_rcV hrc rfl) (by decide) (bd_lenC (n := 3) rfl (bd_slR bd_slN) rfl) (bd_locC (n := 3) rfl (bd_slR bd_slN) rfl (t_117 e (by omega) x1 h _ hc)) ?_
  obtain ⟨h3, eh3, hb⟩ := bnd_spec hb
  refine rn_new rfl (by decide) ?_
  rw [← eh3]
  refine rn_dup rfl (bd_cat_rf _) ?_
  obtain ⟨hrc, hb⟩ := grd_spec hb
  obtain ⟨p4, hc, hb⟩ := Option.bind_eq_some_iff.mp hb
  refine Rn.call0 (d := e) (As := [va_rf (some (hN p2))]) (rest := [va_rf (some (hN p2))]) rfl rfl rfl (by decide) rfl rfl rfl (bd_rcI hrc) (by rw [bd_cR (bd_cN)]; decide) (bd_lenC (n := 1) rfl (bd_slR bd_slN) rfl) (bd_locC (n := 1) rfl (bd_slR bd_slN) rfl (t_6 e (by omega) (some (hN p2)) h3 _ hc)) ?_
  obtain ⟨x5, ex5, hb⟩ := bnd_spec hb
  refine rn_astore_n (i := 1) (L1 := [some (va_rf v0), some (va_rf x5)]) rfl (Nat.le_of_ble_eq_true rfl) (Or.inr (bd_wideR rfl)) (by rw [ex5]; rfl) ?_
  refine rn_aload_n (i := 0) rfl rfl ?_
  refine rn_aload_n (i := 1) rfl rfl ?_
  obtain ⟨hrc, hb⟩ := grd_spec hb
  obtain ⟨p6, hc, hb⟩ := Option.bind_eq_some_iff.mp hb
  refine Rn.call1 (d := e) (As := [va_rf v0, va_rf x5]) (rest := []) rfl rfl rfl (by decide) rfl rfl rfl (bd_rcV hrc rfl) (by decide) (bd_lenC (n := 2) rfl (bd_slR (bd_slR bd_slN)) rfl) (bd_locC (n := 2) rfl (bd_slR (bd_slR bd_slN)) rfl (t_60 e (by omega) v0 x5 p4 _ hc)) ?_
  refine rn_if_eq rfl rfl (fun hc => ?_) (fun hc => ?_)
  · exact u_59_60 (e + 1) hd v0 x5  p6.2 _ (if_t hb hc)
  · exact u_59_44 (e + 1) hd v0 x5  p6.2 _ (if_f hb hc)
def b_59_12 (v0 : Option Nat)  (h : Hp) : Option (Int32 × Hp) :=
  (gQ 5 0 v0 h).bind fun x1 =>
  (grd (rC 9 x1 h)).bind fun _ =>
  (f_119 x1 (nI 4) h).bind fun p2 =>
  (grd (decide (p2.1 = 0 ∨ p2.1 = 1))).bind fun _ => some (p2.1, p2.2)
theorem u_59_12 (d : Nat) (hd : 4 ≤ d) (v0 : Option Nat)  (h : Hp) (r : Int32 × Hp) (hb : b_59_12 v0  h = some r) : Rn d 59 12 [some (va_rf v0), none] [] h (some (.int r.1), r.2) := by
  unfold b_59_12 at hb
  obtain ⟨e, rfl⟩ : ∃ e, d = e + 1 := ⟨d - 1, by omega⟩
  refine rn_aload_n (i := 0) rfl rfl ?_
  refine rn_gQ (c := 5) (k := 0) rfl (by decide) hb (fun x1 hb => ?_)
  refine rn_iconst (x := (nI 4)) rfl (by decide) ?_
  obtain ⟨hrc, hb⟩ := grd_spec hb
  obtain ⟨p2, hc, hb⟩ := Option.bind_eq_some_iff.mp hb
  refine Rn.call1 (d := e) (As := [va_rf x1, .int (nI 4)]) (rest := []) rfl rfl rfl (by decide) rfl rfl rfl (bd_rcV hrc rfl) (by decide) (bd_lenC (n := 2) rfl (bd_slR (bd_slI bd_slN)) rfl) (bd_locC (n := 2) rfl (bd_slR (bd_slI bd_slN)) rfl (t_119 e (by omega) x1 (nI 4) h _ hc)) ?_
  obtain ⟨hz, hb⟩ := grd_spec hb
  obtain rfl := Option.some.inj hb
  exact rn_zret rfl rfl (of_decide_eq_true hz)
def b_59_0 (v0 : Option Nat)  (h : Hp) : Option (Int32 × Hp) :=
  (gQ 5 1 v0 h).bind fun x1 =>
  (gI 4 5 x1 h).bind fun x2 =>
  if ¬ x2 = (nI 10) then b_59_21 v0  h else b_59_12 v0  h
theorem u_59_0 (d : Nat) (hd : 4 ≤ d) (v0 : Option Nat)  (h : Hp) (r : Int32 × Hp) (hb : b_59_0 v0  h = some r) : Rn d 59 0 [some (va_rf v0), none] [] h (some (.int r.1), r.2) := by
  unfold b_59_0 at hb
  refine rn_aload_n (i := 0) rfl rfl ?_
  refine rn_gQ (c := 5) (k := 1) rfl (by decide) hb (fun x1 hb => ?_)
  refine rn_gI (c := 4) (k := 5) rfl (by decide) hb (fun x2 hb => ?_)
  refine rn_bipush (x := (nI 10)) rfl (by decide) ?_
  refine rn_icmp_ne rfl rfl (fun hc => ?_) (fun hc => ?_)
  · exact u_59_21 d hd v0  h _ (if_t hb hc)
  · exact u_59_12 d hd v0  h _ (if_f hb hc)
/-- BitingDoors$HouseReader.readDoor()Z -/
def f_59 (v0 : Option Nat) (h : Hp) : Option (Int32 × Hp) := b_59_0 v0 h
theorem t_59 (d : Nat) (hd : 4 ≤ d) (v0 : Option Nat) (h : Hp) (r : Int32 × Hp) (hb : f_59 v0 h = some r) : Rn d 59 0 [some (va_rf v0), none] [] h (some (.int r.1), r.2) := by
  unfold f_59 at hb
  exact u_59_0 d hd v0 h r hb
def b_57_82  (s0 : Int32) (h : Hp) : Option (Int32 × Hp) :=
  (grd (decide (s0 = 0 ∨ s0 = 1))).bind fun _ => some (s0, h)
theorem u_57_82 (d : Nat) (hd : 5 ≤ d) (v0 : Option Nat) (s0 : Int32) (h : Hp) (r : Int32 × Hp) (hb : b_57_82  s0 h = some r) : Rn d 57 82 [some (va_rf v0)] [.int s0] h (some (.int r.1), r.2) := by
  unfold b_57_82 at hb
  obtain ⟨hz, hb⟩ := grd_spec hb
  obtain rfl := Option.some.inj hb
  exact rn_zret rfl rfl (of_decide_eq_true hz)
def b_57_74 (v0 : Option Nat)  (h : Hp) : Option (Int32 × Hp) :=
  (gQ 5 0 v0 h).bind fun x1 =>
  (grd (rC 9 x1 h)).bind fun _ =>
  (f_119 x1 (nI 1) h).bind fun p2 =>
  b_57_82  p2.1 p2.2
theorem u_57_74 (d : Nat) (hd : 5 ≤ d) (v0 : Option Nat)  (h : Hp) (r : Int32 × Hp) (hb : b_57_74 v0  h = some r) : Rn d 57 74 [some (va_rf v0)] [] h (some (.int r.1), r.2) := by
  unfold b_57_74 at hb
  obtain ⟨e, rfl⟩ : ∃ e, d = e + 1 := ⟨d - 1, by omega⟩
  refine rn_aload_n (i := 0) rfl rfl ?_
  refine rn_gQ (c := 5) (k := 0) rfl (by decide) hb (fun x1 hb => ?_)
  refine rn_iconst (x := (nI 1)) rfl (by decide) ?_
  obtain ⟨hrc, hb⟩ := grd_spec hb
  obtain ⟨p2, hc, hb⟩ := Option.bind_eq_some_iff.mp hb
  refine Rn.call1 (d := e) (As := [va_rf x1, .int (nI 1)]) (rest := []) rfl rfl rfl (by decide) rfl rfl rfl (bd_rcV hrc rfl) (by decide) (bd_lenC (n := 2) rfl (bd_slR (bd_slI bd_slN)) rfl) (bd_locC (n := 2) rfl (bd_slR (bd_slI bd_slN)) rfl (t_119 e (by omega) x1 (nI 1) h _ hc)) ?_
  exact u_57_82 (e + 1) hd v0 p2.1 p2.2 _ hb
def b_57_67 (v0 : Option Nat)  (h : Hp) : Option (Int32 × Hp) :=
  (grd (rC 5 v0 h)).bind fun _ =>
  (f_68 v0 h).bind fun p1 =>
  b_57_82  p1.1 p1.2
theorem u_57_67 (d : Nat) (hd : 5 ≤ d) (v0 : Option Nat)  (h : Hp) (r : Int32 × Hp) (hb : b_57_67 v0  h = some r) : Rn d 57 67 [some (va_rf v0)] [] h (some (.int r.1), r.2) := by
  unfold b_57_67 at hb
  obtain ⟨e, rfl⟩ : ∃ e, d = e + 1 := ⟨d - 1, by omega⟩
  refine rn_aload_n (i := 0) rfl rfl ?_
  obtain ⟨hrc, hb⟩ := grd_spec hb
  obtain ⟨p1, hc, hb⟩ := Option.bind_eq_some_iff.mp hb
  refine Rn.call1 (d := e) (As := [va_rf v0]) (rest := []) rfl rfl rfl (by decide) rfl rfl rfl (bd_rcV hrc rfl) (by decide) (bd_lenC (n := 2) rfl (bd_slR bd_slN) rfl) (bd_locC (n := 2) rfl (bd_slR bd_slN) rfl (t_68 e (by omega) v0 h _ hc)) ?_
  refine rn_goto rfl rfl ?_
  exact u_57_82 (e + 1) hd v0 p1.1 p1.2 _ hb
def b_57_54 (v0 : Option Nat)  (h : Hp) : Option (Int32 × Hp) :=
  (gQ 5 0 v0 h).bind fun x1 =>
  (grd (rC 9 x1 h)).bind fun _ =>
  (f_120 x1 (some 8) h).bind fun p2 =>
  if p2.1 = 0 then b_57_74 v0  p2.2 else b_57_67 v0  p2.2
theorem u_57_54 (d : Nat) (hd : 5 ≤ d) (v0 : Option Nat)  (h : Hp) (r : Int32 × Hp) (hb : b_57_54 v0  h = some r) : Rn d 57 54 [some (va_rf v0)] [] h (some (.int r.1), r.2) := by
  unfold b_57_54 at hb
  obtain ⟨e, rfl⟩ : ∃ e, d = e + 1 := ⟨d - 1, by omega⟩
  refine rn_aload_n (i := 0) rfl rfl ?_
  refine rn_gQ (c := 5) (k := 0) rfl (by decide) hb (fun x1 hb => ?_)
  refine rn_getstatic rfl ?_
  obtain ⟨hrc, hb⟩ := grd_spec hb
  obtain ⟨p2, hc, hb⟩ := Option.bind_eq_some_iff.mp hb
  refine Rn.call1 (d := e) (As := [va_rf x1, va_rf (some 8)]) (rest := []) rfl rfl rfl (by decide) rfl rfl rfl (bd_rcV hrc rfl) (by decide) (bd_lenC (n := 2) rfl (bd_slR (bd_slR bd_slN)) rfl) (bd_locC (n := 2) rfl (bd_slR (bd_slR bd_slN)) rfl (t_120 e (by omega) x1 (some 8) h _ hc)) ?_
  refine rn_if_eq rfl rfl (fun hc => ?_) (fun hc => ?_)
  · exact u_57_74 (e + 1) hd v0  p2.2 _ (if_t hb hc)
  · exact u_57_67 (e + 1) hd v0  p2.2 _ (if_f hb hc)
def b_57_49 (v0 : Option Nat)  (h : Hp) : Option (Int32 × Hp) :=
  (grd (rC 5 v0 h)).bind fun _ =>
  (f_67 v0 h).bind fun p1 =>
  (grd (decide (p1.1 = 0 ∨ p1.1 = 1))).bind fun _ => some (p1.1, p1.2)
theorem u_57_49 (d : Nat) (hd : 5 ≤ d) (v0 : Option Nat)  (h : Hp) (r : Int32 × Hp) (hb : b_57_49 v0  h = some r) : Rn d 57 49 [some (va_rf v0)] [] h (some (.int r.1), r.2) := by
  unfold b_57_49 at hb
  obtain ⟨e, rfl⟩ : ∃ e, d = e + 1 := ⟨d - 1, by omega⟩
  refine rn_aload_n (i := 0) rfl rfl ?_
  obtain ⟨hrc, hb⟩ := grd_spec hb
  obtain ⟨p1, hc, hb⟩ := Option.bind_eq_some_iff.mp hb
  refine Rn.call1 (d := e) (As := [va_rf v0]) (rest := []) rfl rfl rfl (by decide) rfl rfl rfl (bd_rcV hrc rfl) (by decide) (bd_lenC (n := 4) rfl (bd_slR bd_slN) rfl) (bd_locC (n := 4) rfl (bd_slR bd_slN) rfl (t_67 e (by omega) v0 h _ hc)) ?_
  obtain ⟨hz, hb⟩ := grd_spec hb
  obtain rfl := Option.some.inj hb
  exact rn_zret rfl rfl (of_decide_eq_true hz)
def b_57_36 (v0 : Option Nat)  (h : Hp) : Option (Int32 × Hp) :=
  (gQ 5 0 v0 h).bind fun x1 =>
  (grd (rC 9 x1 h)).bind fun _ =>
  (f_120 x1 (some 7) h).bind fun p2 =>
  if p2.1 = 0 then b_57_54 v0  p2.2 else b_57_49 v0  p2.2
theorem u_57_36 (d : Nat) (hd : 5 ≤ d) (v0 : Option Nat)  (h : Hp) (r : Int32 × Hp) (hb : b_57_36 v0  h = some r) : Rn d 57 36 [some (va_rf v0)] [] h (some (.int r.1), r.2) := by
  unfold b_57_36 at hb
  obtain ⟨e, rfl⟩ : ∃ e, d = e + 1 := ⟨d - 1, by omega⟩
  refine rn_aload_n (i := 0) rfl rfl ?_
  refine rn_gQ (c := 5) (k := 0) rfl (by decide) hb (fun x1 hb => ?_)
  refine rn_getstatic rfl ?_
  obtain ⟨hrc, hb⟩ := grd_spec hb
  obtain ⟨p2, hc, hb⟩ := Option.bind_eq_some_iff.mp hb
  refine Rn.call1 (d := e) (As := [va_rf x1, va_rf (some 7)]) (rest := []) rfl rfl rfl (by decide) rfl rfl rfl (bd_rcV hrc rfl) (by decide) (bd_lenC (n := 2) rfl (bd_slR (bd_slR bd_slN)) rfl) (bd_locC (n := 2) rfl (bd_slR (bd_slR bd_slN)) rfl (t_120 e (by omega) x1 (some 7) h _ hc)) ?_
  refine rn_if_eq rfl rfl (fun hc => ?_) (fun hc => ?_)
  · exact u_57_54 (e + 1) hd v0  p2.2 _ (if_t hb hc)
  · exact u_57_49 (e + 1) hd v0  p2.2 _ (if_f hb hc)
def b_57_31 (v0 : Option Nat)  (h : Hp) : Option (Int32 × Hp) :=
  (grd (rC 5 v0 h)).bind fun _ =>
  (f_59 v0 h).bind fun p1 =>
  (grd (decide (p1.1 = 0 ∨ p1.1 = 1))).bind fun _ => some (p1.1, p1.2)
theorem u_57_31 (d : Nat) (hd : 5 ≤ d) (v0 : Option Nat)  (h : Hp) (r : Int32 × Hp) (hb : b_57_31 v0  h = some r) : Rn d 57 31 [some (va_rf v0)] [] h (some (.int r.1), r.2) := by
  unfold b_57_31 at hb
  obtain ⟨e, rfl⟩ : ∃ e, d = e + 1 := ⟨d - 1, by omega⟩
  refine rn_aload_n (i := 0) rfl rfl ?_
  obtain ⟨hrc, hb⟩ := grd_spec hb
  obtain ⟨p1, hc, hb⟩ := Option.bind_eq_some_iff.mp hb
  refine Rn.call1 (d := e) (As := [va_rf v0]) (rest := []) rfl rfl rfl (by decide) rfl rfl rfl (bd_rcV hrc rfl) (by decide) (bd_lenC (n := 2) rfl (bd_slR bd_slN) rfl) (bd_locC (n := 2) rfl (bd_slR bd_slN) rfl (t_59 e (by omega) v0 h _ hc)) ?_
  obtain ⟨hz, hb⟩ := grd_spec hb
  obtain rfl := Option.some.inj hb
  exact rn_zret rfl rfl (of_decide_eq_true hz)
def b_57_18 (v0 : Option Nat)  (h : Hp) : Option (Int32 × Hp) :=
  (gQ 5 0 v0 h).bind fun x1 =>
  (grd (rC 9 x1 h)).bind fun _ =>
  (f_120 x1 (some 1) h).bind fun p2 =>
  if p2.1 = 0 then b_57_36 v0  p2.2 else b_57_31 v0  p2.2
theorem u_57_18 (d : Nat) (hd : 5 ≤ d) (v0 : Option Nat)  (h : Hp) (r : Int32 × Hp) (hb : b_57_18 v0  h = some r) : Rn d 57 18 [some (va_rf v0)] [] h (some (.int r.1), r.2) := by
  unfold b_57_18 at hb
  obtain ⟨e, rfl⟩ : ∃ e, d = e + 1 := ⟨d - 1, by omega⟩
  refine rn_aload_n (i := 0) rfl rfl ?_
  refine rn_gQ (c := 5) (k := 0) rfl (by decide) hb (fun x1 hb => ?_)
  refine rn_getstatic rfl ?_
  obtain ⟨hrc, hb⟩ := grd_spec hb
  obtain ⟨p2, hc, hb⟩ := Option.bind_eq_some_iff.mp hb
  refine Rn.call1 (d := e) (As := [va_rf x1, va_rf (some 1)]) (rest := []) rfl rfl rfl (by decide) rfl rfl rfl (bd_rcV hrc rfl) (by decide) (bd_lenC (n := 2) rfl (bd_slR (bd_slR bd_slN)) rfl) (bd_locC (n := 2) rfl (bd_slR (bd_slR bd_slN)) rfl (t_120 e (by omega) x1 (some 1) h _ hc)) ?_
  refine rn_if_eq rfl rfl (fun hc => ?_) (fun hc => ?_)
  · exact u_57_36 (e + 1) hd v0  p2.2 _ (if_t hb hc)
  · exact u_57_31 (e + 1) hd v0  p2.2 _ (if_f hb hc)
def b_57_13 (v0 : Option Nat)  (h : Hp) : Option (Int32 × Hp) :=
  (grd (rC 5 v0 h)).bind fun _ =>
  (f_58 v0 h).bind fun p1 =>
  (grd (decide (p1.1 = 0 ∨ p1.1 = 1))).bind fun _ => some (p1.1, p1.2)
theorem u_57_13 (d : Nat) (hd : 5 ≤ d) (v0 : Option Nat)  (h : Hp) (r : Int32 × Hp) (hb : b_57_13 v0  h = some r) : Rn d 57 13 [some (va_rf v0)] [] h (some (.int r.1), r.2) := by
  unfold b_57_13 at hb
  obtain ⟨e, rfl⟩ : ∃ e, d = e + 1 := ⟨d - 1, by omega⟩
  refine rn_aload_n (i := 0) rfl rfl ?_
  obtain ⟨hrc, hb⟩ := grd_spec hb
  obtain ⟨p1, hc, hb⟩ := Option.bind_eq_some_iff.mp hb
  refine Rn.call1 (d := e) (As := [va_rf v0]) (rest := []) rfl rfl rfl (by decide) rfl rfl rfl (bd_rcV hrc rfl) (by decide) (bd_lenC (n := 4) rfl (bd_slR bd_slN) rfl) (bd_locC (n := 4) rfl (bd_slR bd_slN) rfl (t_58 e (by omega) v0 h _ hc)) ?_
  obtain ⟨hz, hb⟩ := grd_spec hb
  obtain rfl := Option.some.inj hb
  exact rn_zret rfl rfl (of_decide_eq_true hz)
def b_57_0 (v0 : Option Nat)  (h : Hp) : Option (Int32 × Hp) :=
  (gQ 5 0 v0 h).bind fun x1 =>
  (grd (rC 9 x1 h)).bind fun _ =>
  (f_120 x1 (some 0) h).bind fun p2 =>
  if p2.1 = 0 then b_57_18 v0  p2.2 else b_57_13 v0  p2.2
theorem u_57_0 (d : Nat) (hd : 5 ≤ d) (v0 : Option Nat)  (h : Hp) (r : Int32 × Hp) (hb : b_57_0 v0  h = some r) : Rn d 57 0 [some (va_rf v0)] [] h (some (.int r.1), r.2) := by
  unfold b_57_0 at hb
  obtain ⟨e, rfl⟩ : ∃ e, d = e + 1 := ⟨d - 1, by omega⟩
  refine rn_aload_n (i := 0) rfl rfl ?_
  refine rn_gQ (c := 5) (k := 0) rfl (by decide) hb (fun x1 hb => ?_)
  refine rn_getstatic rfl ?_
  obtain ⟨hrc, hb⟩ := grd_spec hb
  obtain ⟨p2, hc, hb⟩ := Option.bind_eq_some_iff.mp hb
  refine Rn.call1 (d := e) (As := [va_rf x1, va_rf (some 0)]) (rest := []) rfl rfl rfl (by decide) rfl rfl rfl (bd_rcV hrc rfl) (by decide) (bd_lenC (n := 2) rfl (bd_slR (bd_slR bd_slN)) rfl) (bd_locC (n := 2) rfl (bd_slR (bd_slR bd_slN)) rfl (t_120 e (by omega) x1 (some 0) h _ hc)) ?_
  refine rn_if_eq rfl rfl (fun hc => ?_) (fun hc => ?_)
  · exact u_57_18 (e + 1) hd v0  p2.2 _ (if_t hb hc)
  · exact u_57_13 (e + 1) hd v0  p2.2 _ (if_f hb hc)
/-- BitingDoors$HouseReader.readLine()Z -/
def f_57 (v0 : Option Nat) (h : Hp) : Option (Int32 × Hp) := b_57_0 v0 h
theorem t_57 (d : Nat) (hd : 5 ≤ d) (v0 : Option Nat) (h : Hp) (r : Int32 × Hp) (hb : f_57 v0 h = some r) : Rn d 57 0 [some (va_rf v0)] [] h (some (.int r.1), r.2) := by
  unfold f_57 at hb
  exact u_57_0 d hd v0 h r hb
def b_56_105 (v0 : Option Nat)  (h : Hp) : Option (Option Nat × Hp) :=
  (gQ 5 1 v0 h).bind fun x1 =>
  some (x1, h)
theorem u_56_105 (d : Nat) (hd : 6 ≤ d) (v0 : Option Nat) (v1 : Int32)  (h : Hp) (r : Option Nat × Hp) (hb : b_56_105 v0  h = some r) : Rn d 56 105 [some (va_rf v0), some (.int v1)] [] h (some (va_rf r.1), r.2) := by
  unfold b_56_105 at hb
  refine rn_aload_n (i := 0) rfl rfl ?_
  refine rn_gQ (c := 5) (k := 1) rfl (by decide) hb (fun x1 hb => ?_)
  obtain rfl := Option.some.inj hb
  exact rn_aret rfl rfl
def b_56_83 (k72 : Option Nat → Int32 → Hp → Option (Option Nat × Hp)) (v0 : Option Nat) (v1 : Int32)  (h : Hp) : Option (Option Nat × Hp) :=
  (gQ 5 1 v0 h).bind fun x1 =>
  (gQ 4 1 x1 h).bind fun x2 =>
  (aQ x2 v1 h).bind fun x3 =>
  (gQ 5 1 v0 h).bind fun x4 =>
  (grd (rC 1 x3 h)).bind fun _ =>
  (f_17 x3 x4 h).bind fun p5 =>
  bnd (v1 + (nI 1)) fun x6 =>
  k72 v0 x6 p5
theorem u_56_83 (d : Nat) (hd : 6 ≤ d) (k72 : Option Nat → Int32 → Hp → Option (Option Nat × Hp)) (K72 : ∀ (v0 : Option Nat) (v1 : Int32) (h : Hp) (r : Option Nat × Hp), k72 v0 v1 h = some r → Rn d 56 72 [some (va_rf v0), some (.int v1)] [] h (some (va_rf r.1), r.2)) (v0 : Option Nat) (v1 : Int32)  (h : Hp) (r : Option Nat × Hp) (hb : b_56_83 k72 v0 v1  h = some r) : Rn d 56 83 [some (va_rf v0), some (.int v1)] [] h (some (va_rf r.1), r.2) := by
  unfold b_56_83 at hb
  obtain ⟨e, rfl⟩ : ∃ e, d = e + 1 := ⟨d - 1, by omega⟩
  refine rn_aload_n (i := 0) rfl rfl ?_
  refine rn_gQ (c := 5) (k := 1) rfl (by decide) hb (fun x1 hb => ?_)
  refine rn_gQ (c := 4) (k := 1) rfl (by decide) hb (fun x2 hb => ?_)
  refine rn_iload_n (i := 1) rfl rfl ?_
  refine rn_aQ rfl hb (fun x3 hb => ?_)
  refine rn_aload_n (i := 0) rfl rfl ?_
  refine rn_gQ (c := 5) (k := 1) rfl (by decide) hb (fun x4 hb => ?_)
  obtain ⟨hrc, hb⟩ := grd_spec hb
  obtain ⟨p5, hc, hb⟩ := Option.bind_eq_some_iff.mp hb
  refine Rn.call0 (d := e) (As := [va_rf x3, va_rf x4]) (rest := []) rfl rfl rfl (by decide) rfl rfl rfl (bd_rcV hrc rfl) (by decide) (bd_lenC (n := 4) rfl (bd_slR (bd_slR bd_slN)) rfl) (bd_locC (n := 4) rfl (bd_slR (bd_slR bd_slN)) rfl (t_17 e (by omega) x3 x4 h _ hc)) ?_
  obtain ⟨x6, ex6, hb⟩ := bnd_spec hb
  refine rn_iinc (i := 1) (y := x6) (L1 := [some (va_rf v0), some (.int x6)]) rfl rfl (Nat.le_of_ble_eq_true rfl) (Or.inr (bd_wideR rfl)) (by rw [ex6]; rfl) rfl ?_
  refine rn_goto rfl rfl ?_
  exact K72 v0 x6 p5 _ hb
def b_56_72 (k72 : Option Nat → Int32 → Hp → Option (Option Nat × Hp)) (v0 : Option Nat) (v1 : Int32)  (h : Hp) : Option (Option Nat × Hp) :=
  (gQ 5 1 v0 h).bind fun x1 =>
  (gI 4 5 x1 h).bind fun x2 =>
  if x2 ≤ v1 then b_56_105 v0  h else b_56_83 k72 v0 v1  h
theorem u_56_72 (d : Nat) (hd : 6 ≤ d) (k72 : Option Nat → Int32 → Hp → Option (Option Nat × Hp)) (K72 : ∀ (v0 : Option Nat) (v1 : Int32) (h : Hp) (r : Option Nat × Hp), k72 v0 v1 h = some r → Rn d 56 72 [some (va_rf v0), some (.int v1)] [] h (some (va_rf r.1), r.2)) (v0 : Option Nat) (v1 : Int32)  (h : Hp) (r : Option Nat × Hp) (hb : b_56_72 k72 v0 v1  h = some r) : Rn d 56 72 [some (va_rf v0), some (.int v1)] [] h (some (va_rf r.1), r.2) := by
  unfold b_56_72 at hb
  refine rn_iload_n (i := 1) rfl rfl ?_
  refine rn_aload_n (i := 0) rfl rfl ?_
  refine rn_gQ (c := 5) (k := 1) rfl (by decide) hb (fun x1 hb => ?_)
  refine rn_gI (c := 4) (k := 5) rfl (by decide) hb (fun x2 hb => ?_)
  refine rn_icmp_ge rfl rfl (fun hc => ?_) (fun hc => ?_)
  · exact u_56_105 d hd v0 v1  h _ (if_t hb hc)
  · exact u_56_83 d hd k72 K72 v0 v1  h _ (if_f hb hc)
def l_56_72 : Nat → Option Nat → Int32 → Hp → Option (Option Nat × Hp)
  | 0, _, _, _ => none
  | n + 1, v0, v1, h => b_56_72 (l_56_72 n) v0 v1 h
theorem w_56_72 (d : Nat) (hd : 6 ≤ d) : ∀ (n : Nat) (v0 : Option Nat) (v1 : Int32) (h : Hp) (r : Option Nat × Hp), l_56_72 n v0 v1 h = some r → Rn d 56 72 [some (va_rf v0), some (.int v1)] [] h (some (va_rf r.1), r.2) := by
  intro n
  induction n with
  | zero => intro v0 v1 h r hb; cases hb
  | succ n ih => intro v0 v1 h r hb; exact u_56_72 d hd (l_56_72 n) ih v0 v1 h r hb
def b_56_70 (v0 : Option Nat)  (h : Hp) : Option (Option Nat × Hp) :=
  bnd ((nI 0)) fun x1 =>
  l_56_72 FU v0 x1 h
theorem u_56_70 (d : Nat) (hd : 6 ≤ d) (v0 : Option Nat)  (h : Hp) (r : Option Nat × Hp) (hb : b_56_70 v0  h = some r) : Rn d 56 70 [some (va_rf v0), none] [] h (some (va_rf r.1), r.2) := by
  unfold b_56_70 at hb
  refine rn_iconst (x := (nI 0)) rfl (by decide) ?_
  obtain ⟨x1, ex1, hb⟩ := bnd_spec hb
  refine rn_istore_n (i := 1) (L1 := [some (va_rf v0), some (.int x1)]) rfl (Nat.le_of_ble_eq_true rfl) (Or.inr (bd_wideR rfl)) (by rw [ex1]; rfl) ?_
  exact w_56_72 d hd FU v0 x1 h _ hb
def b_56_52   (h : Hp) : Option (Option Nat × Hp) :=
  some (none, h)
theorem u_56_52 (d : Nat) (hd : 6 ≤ d) (v0 : Option Nat)  (h : Hp) (r : Option Nat × Hp) (hb : b_56_52   h = some r) : Rn d 56 52 [some (va_rf v0), none] [] h (some (va_rf r.1), r.2) := by
  unfold b_56_52 at hb
  refine rn_null rfl ?_
  obtain rfl := Option.some.inj hb
  exact rn_aret rfl rfl
def b_56_54 (k10 : Option Nat → Hp → Option (Option Nat × Hp)) (v0 : Option Nat)  (h : Hp) : Option (Option Nat × Hp) :=
  (gQ 5 1 v0 h).bind fun x1 =>
  (gI 4 8 x1 h).bind fun x2 =>
  (pI 4 8 x1 (x2 + (nI 1)) h).bind fun h3 =>
  k10 v0 h3
theorem u_56_54 (d : Nat) (hd : 6 ≤ d) (k10 : Option Nat → Hp → Option (Option Nat × Hp)) (K10 : ∀ (v0 : Option Nat) (h : Hp) (r : Option Nat × Hp), k10 v0 h = some r → Rn d 56 10 [some (va_rf v0), none] [] h (some (va_rf r.1), r.2)) (v0 : Option Nat)  (h : Hp) (r : Option Nat × Hp) (hb : b_56_54 k10 v0  h = some r) : Rn d 56 54 [some (va_rf v0), none] [] h (some (va_rf r.1), r.2) := by
  unfold b_56_54 at hb
  refine rn_aload_n (i := 0) rfl rfl ?_
  refine rn_gQ (c := 5) (k := 1) rfl (by decide) hb (fun x1 hb => ?_)
  refine rn_dup rfl (bd_cat_rf _) ?_
  refine rn_gI (c := 4) (k := 8) rfl (by decide) hb (fun x2 hb => ?_)
  refine rn_iconst (x := (nI 1)) rfl (by decide) ?_
  refine rn_iadd rfl ?_
  refine rn_pI (c := 4) (k := 8) rfl (by decide) hb (fun h3 hb => ?_)
  refine rn_goto rfl rfl ?_
  exact K10 v0 h3 _ hb
def b_56_40 (k10 : Option Nat → Hp → Option (Option Nat × Hp)) (v0 : Option Nat)  (h : Hp) : Option (Option Nat × Hp) :=
  (gQ 5 0 v0 h).bind fun x1 =>
  (grd (rC 9 x1 h)).bind fun _ =>
  (f_123 x1 (nI 59) h).bind fun p2 =>
  if ¬ p2.1 = 0 then b_56_54 k10 v0  p2.2 else b_56_52   p2.2
theorem u_56_40 (d : Nat) (hd : 6 ≤ d) (k10 : Option Nat → Hp → Option (Option Nat × Hp)) (K10 : ∀ (v0 : Option Nat) (h : Hp) (r : Option Nat × Hp), k10 v0 h = some r → Rn d 56 10 [some (va_rf v0), none] [] h (some (va_rf r.1), r.2)) (v0 : Option Nat)  (h : Hp) (r : Option Nat × Hp) (hb : b_56_40 k10 v0  h = some r) : Rn d 56 40 [some (va_rf v0), none] [] h (some (va_rf r.1), r.2) := by
  unfold b_56_40 at hb
  obtain ⟨e, rfl⟩ : ∃ e, d = e + 1 := ⟨d - 1, by omega⟩
  refine rn_aload_n (i := 0) rfl rfl ?_
  refine rn_gQ (c := 5) (k := 0) rfl (by decide) hb (fun x1 hb => ?_)
  refine rn_bipush (x := (nI 59)) rfl (by decide) ?_
  obtain ⟨hrc, hb⟩ := grd_spec hb
  obtain ⟨p2, hc, hb⟩ := Option.bind_eq_some_iff.mp hb
  refine Rn.call1 (d := e) (As := [va_rf x1, .int (nI 59)]) (rest := []) rfl rfl rfl (by decide) rfl rfl rfl (bd_rcV hrc rfl) (by decide) (bd_lenC (n := 2) rfl (bd_slR (bd_slI bd_slN)) rfl) (bd_locC (n := 2) rfl (bd_slR (bd_slI bd_slN)) rfl (t_123 e (by omega) x1 (nI 59) h _ hc)) ?_
  refine rn_if_ne rfl rfl (fun hc => ?_) (fun hc => ?_)
  · exact u_56_54 (e + 1) hd k10 K10 v0  p2.2 _ (if_t hb hc)
  · exact u_56_52 (e + 1) hd v0  p2.2 _ (if_f hb hc)
def b_56_33 (k10 : Option Nat → Hp → Option (Option Nat × Hp)) (v0 : Option Nat)  (h : Hp) : Option (Option Nat × Hp) :=
  (grd (rC 5 v0 h)).bind fun _ =>
  (f_57 v0 h).bind fun p1 =>
  if p1.1 = 0 then b_56_52   p1.2 else b_56_40 k10 v0  p1.2
theorem u_56_33 (d : Nat) (hd : 6 ≤ d) (k10 : Option Nat → Hp → Option (Option Nat × Hp)) (K10 : ∀ (v0 : Option Nat) (h : Hp) (r : Option Nat × Hp), k10 v0 h = some r → Rn d 56 10 [some (va_rf v0), none] [] h (some (va_rf r.1), r.2)) (v0 : Option Nat)  (h : Hp) (r : Option Nat × Hp) (hb : b_56_33 k10 v0  h = some r) : Rn d 56 33 [some (va_rf v0), none] [] h (some (va_rf r.1), r.2) := by
  unfold b_56_33 at hb
  obtain ⟨e, rfl⟩ : ∃ e, d = e + 1 := ⟨d - 1, by omega⟩
  refine rn_aload_n (i := 0) rfl rfl ?_
  obtain ⟨hrc, hb⟩ := grd_spec hb
  obtain ⟨p1, hc, hb⟩ := Option.bind_eq_some_iff.mp hb
  refine Rn.call1 (d := e) (As := [va_rf v0]) (rest := []) rfl rfl rfl (by decide) rfl rfl rfl (bd_rcV hrc rfl) (by decide) (bd_lenC (n := 1) rfl (bd_slR bd_slN) rfl) (bd_locC (n := 1) rfl (bd_slR bd_slN) rfl (t_57 e (by omega) v0 h _ hc)) ?_
  refine rn_if_eq rfl rfl (fun hc => ?_) (fun hc => ?_)
  · exact u_56_52 (e + 1) hd v0  p1.2 _ (if_t hb hc)
  · exact u_56_40 (e + 1) hd k10 K10 v0  p1.2 _ (if_f hb hc)
def b_56_23 (k10 : Option Nat → Hp → Option (Option Nat × Hp)) (v0 : Option Nat)  (h : Hp) : Option (Option Nat × Hp) :=
  (gQ 5 0 v0 h).bind fun x1 =>
  (gI 9 2 x1 h).bind fun x2 =>
  if x2 = 0 then b_56_70 v0  h else b_56_33 k10 v0  h
theorem u_56_23 (d : Nat) (hd : 6 ≤ d) (k10 : Option Nat → Hp → Option (Option Nat × Hp)) (K10 : ∀ (v0 : Option Nat) (h : Hp) (r : Option Nat × Hp), k10 v0 h = some r → Rn d 56 10 [some (va_rf v0), none] [] h (some (va_rf r.1), r.2)) (v0 : Option Nat)  (h : Hp) (r : Option Nat × Hp) (hb : b_56_23 k10 v0  h = some r) : Rn d 56 23 [some (va_rf v0), none] [] h (some (va_rf r.1), r.2) := by
  unfold b_56_23 at hb
  refine rn_aload_n (i := 0) rfl rfl ?_
  refine rn_gQ (c := 5) (k := 0) rfl (by decide) hb (fun x1 hb => ?_)
  refine rn_gI (c := 9) (k := 2) rfl (by decide) hb (fun x2 hb => ?_)
  refine rn_if_eq rfl rfl (fun hc => ?_) (fun hc => ?_)
  · exact u_56_70 d hd v0  h _ (if_t hb hc)
  · exact u_56_33 d hd k10 K10 v0  h _ (if_f hb hc)
def b_56_10 (k10 : Option Nat → Hp → Option (Option Nat × Hp)) (v0 : Option Nat)  (h : Hp) : Option (Option Nat × Hp) :=
  (gQ 5 1 v0 h).bind fun x1 =>
  (gI 4 8 x1 h).bind fun x2 =>
  if (nI 900) < x2 then b_56_70 v0  h else b_56_23 k10 v0  h
theorem u_56_10 (d : Nat) (hd : 6 ≤ d) (k10 : Option Nat → Hp → Option (Option Nat × Hp)) (K10 : ∀ (v0 : Option Nat) (h : Hp) (r : Option Nat × Hp), k10 v0 h = some r → Rn d 56 10 [some (va_rf v0), none] [] h (some (va_rf r.1), r.2)) (v0 : Option Nat)  (h : Hp) (r : Option Nat × Hp) (hb : b_56_10 k10 v0  h = some r) : Rn d 56 10 [some (va_rf v0), none] [] h (some (va_rf r.1), r.2) := by
  unfold b_56_10 at hb
  refine rn_aload_n (i := 0) rfl rfl ?_
  refine rn_gQ (c := 5) (k := 1) rfl (by decide) hb (fun x1 hb => ?_)
  refine rn_gI (c := 4) (k := 8) rfl (by decide) hb (fun x2 hb => ?_)
  refine rn_sipush (x := (nI 900)) rfl (by decide) ?_
  refine rn_icmp_gt rfl rfl (fun hc => ?_) (fun hc => ?_)
  · exact u_56_70 d hd v0  h _ (if_t hb hc)
  · exact u_56_23 d hd k10 K10 v0  h _ (if_f hb hc)
def l_56_10 : Nat → Option Nat → Hp → Option (Option Nat × Hp)
  | 0, _, _ => none
  | n + 1, v0, h => b_56_10 (l_56_10 n) v0 h
theorem w_56_10 (d : Nat) (hd : 6 ≤ d) : ∀ (n : Nat) (v0 : Option Nat) (h : Hp) (r : Option Nat × Hp), l_56_10 n v0 h = some r → Rn d 56 10 [some (va_rf v0), none] [] h (some (va_rf r.1), r.2) := by
  intro n
  induction n with
  | zero => intro v0 h r hb; cases hb
  | succ n ih => intro v0 h r hb; exact u_56_10 d hd (l_56_10 n) ih v0 h r hb
def b_56_0 (v0 : Option Nat)  (h : Hp) : Option (Option Nat × Hp) :=
  (gQ 5 0 v0 h).bind fun x1 =>
  (grd (rC 9 x1 h)).bind fun _ =>
  (f_116 x1 (nI 900) h).bind fun p2 =>
  l_56_10 FU v0 p2
theorem u_56_0 (d : Nat) (hd : 6 ≤ d) (v0 : Option Nat)  (h : Hp) (r : Option Nat × Hp) (hb : b_56_0 v0  h = some r) : Rn d 56 0 [some (va_rf v0), none] [] h (some (va_rf r.1), r.2) := by
  unfold b_56_0 at hb
  obtain ⟨e, rfl⟩ : ∃ e, d = e + 1 := ⟨d - 1, by omega⟩
  refine rn_aload_n (i := 0) rfl rfl ?_
  refine rn_gQ (c := 5) (k := 0) rfl (by decide) hb (fun x1 hb => ?_)
  refine rn_sipush (x := (nI 900)) rfl (by decide) ?_
  obtain ⟨hrc, hb⟩ := grd_spec hb
  obtain ⟨p2, hc, hb⟩ := Option.bind_eq_some_iff.mp hb
  refine Rn.call0 (d := e) (As := [va_rf x1, .int (nI 900)]) (rest := []) rfl rfl rfl (by decide) rfl rfl rfl (bd_rcV hrc rfl) (by decide) (bd_lenC (n := 2) rfl (bd_slR (bd_slI bd_slN)) rfl) (bd_locC (n := 2) rfl (bd_slR (bd_slI bd_slN)) rfl (t_116 e (by omega) x1 (nI 900) h _ hc)) ?_
  exact w_56_10 (e + 1) hd FU v0 p2 _ hb
/-- BitingDoors$HouseReader.read()LBitingDoors$House; -/
def f_56 (v0 : Option Nat) (h : Hp) : Option (Option Nat × Hp) := b_56_0 v0 h
theorem t_56 (d : Nat) (hd : 6 ≤ d) (v0 : Option Nat) (h : Hp) (r : Option Nat × Hp) (hb : f_56 v0 h = some r) : Rn d 56 0 [some (va_rf v0), none] [] h (some (va_rf r.1), r.2) := by
  unfold f_56 at hb
  exact u_56_0 d hd v0 h r hb
def b_82_0 (v0 : Option Nat)  (h : Hp) : Option (Hp) :=
  (grd v0.isSome).bind fun _ =>
  (nA 12 (nI 10) h).bind fun h1 =>
  (pQ 7 0 v0 (some (hN h)) h1).bind fun h2 =>
  (nA 12 (nI 10) h2).bind fun h3 =>
  (pQ 7 1 v0 (some (hN h2)) h3).bind fun h4 =>
  (pI 7 3 v0 (-1 : Int32) h4).bind fun h5 =>
  some h5
theorem u_82_0 (d : Nat) (hd : 0 ≤ d) (v0 : Option Nat)  (h : Hp) (r : Hp) (hb : b_82_0 v0  h = some r) : Rn d 82 0 [some (va_rf v0)] [] h (none, r) := by
  unfold b_82_0 at hb
  refine rn_aload_n (i := 0) rfl rfl ?_
  obtain ⟨hq, hb⟩ := grd_spec hb
  refine rn_oinit rfl hq (by decide) ?_
  refine rn_aload_n (i := 0) rfl rfl ?_
  refine rn_bipush (x := (nI 10)) rfl (by decide) ?_
  refine rn_newarray rfl hb (fun h1 hb => ?_)
  refine rn_pQ (c := 7) (k := 0) rfl (by decide) hb (fun h2 hb => ?_)
  refine rn_aload_n (i := 0) rfl rfl ?_
  refine rn_bipush (x := (nI 10)) rfl (by decide) ?_
  refine rn_newarray rfl hb (fun h3 hb => ?_)
  refine rn_pQ (c := 7) (k := 1) rfl (by decide) hb (fun h4 hb => ?_)
  refine rn_aload_n (i := 0) rfl rfl ?_
  refine rn_iconst (x := (-1 : Int32)) rfl (by decide) ?_
  refine rn_pI (c := 7) (k := 3) rfl (by decide) hb (fun h5 hb => ?_)
  obtain rfl := Option.some.inj hb
  exact rn_vret rfl rfl
/-- BitingDoors$Scene.<init>()V -/
def f_82 (v0 : Option Nat) (h : Hp) : Option (Hp) := b_82_0 v0 h
theorem t_82 (d : Nat) (hd : 0 ≤ d) (v0 : Option Nat) (h : Hp) (r : Hp) (hb : f_82 v0 h = some r) : Rn d 82 0 [some (va_rf v0)] [] h (none, r) := by
  unfold f_82 at hb
  exact u_82_0 d hd v0 h r hb
def b_69_0 (v0 : Option Nat)  (h : Hp) : Option (Hp) :=
  (grd v0.isSome).bind fun _ =>
  (nA 12 (nI 32) h).bind fun h1 =>
  (pQ 6 0 v0 (some (hN h)) h1).bind fun h2 =>
  bnd (hNew h2 7 0 (bd_nf 7)) fun h3 =>
  (grd (some (hN h2)).isSome).bind fun _ =>
  (f_82 (some (hN h2)) h3).bind fun p4 =>
  (pQ 6 2 v0 (some (hN h2)) p4).bind fun h5 =>
  some h5
theorem u_69_0 (d : Nat) (hd : 1 ≤ d) (v0 : Option Nat)  (h : Hp) (r : Hp) (hb : b_69_0 v0  h = some r) : Rn d 69 0 [some (va_rf v0)] [] h (none, r) := by
  unfold b_69_0 at hb
  obtain ⟨e, rfl⟩ : ∃ e, d = e + 1 := ⟨d - 1, by omega⟩
  refine rn_aload_n (i := 0) rfl rfl ?_
  obtain ⟨hq, hb⟩ := grd_spec hb
  refine rn_oinit rfl hq (by decide) ?_
  refine rn_aload_n (i := 0) rfl rfl ?_
  refine rn_bipush (x := (nI 32)) rfl (by decide) ?_
  refine rn_newarray rfl hb (fun h1 hb => ?_)
  refine rn_pQ (c := 6) (k := 0) rfl (by decide) hb (fun h2 hb => ?_)
  refine rn_aload_n (i := 0) rfl rfl ?_
  obtain ⟨h3, eh3, hb⟩ := bnd_spec hb
  refine rn_new rfl (by decide) ?_
  rw [← eh3]
  refine rn_dup rfl (bd_cat_rf _) ?_
  obtain ⟨hrc, hb⟩ := grd_spec hb
  obtain ⟨p4, hc, hb⟩ := Option.bind_eq_some_iff.mp hb
  refine Rn.call0 (d := e) (As := [va_rf (some (hN h2))]) (rest := [va_rf (some (hN h2)), va_rf v0]) rfl rfl rfl (by decide) rfl rfl rfl (bd_rcI hrc) (by rw [bd_cR (bd_cR (bd_cN))]; decide) (bd_lenC (n := 1) rfl (bd_slR bd_slN) rfl) (bd_locC (n := 1) rfl (bd_slR bd_slN) rfl (t_82 e (by omega) (some (hN h2)) h3 _ hc)) ?_
  refine rn_pQ (c := 6) (k := 2) rfl (by decide) hb (fun h5 hb => ?_)
  obtain rfl := Option.some.inj hb
  exact rn_vret rfl rfl
/-- BitingDoors$Paths.<init>()V -/
def f_69 (v0 : Option Nat) (h : Hp) : Option (Hp) := b_69_0 v0 h
theorem t_69 (d : Nat) (hd : 1 ≤ d) (v0 : Option Nat) (h : Hp) (r : Hp) (hb : f_69 v0 h = some r) : Rn d 69 0 [some (va_rf v0)] [] h (none, r) := by
  unfold f_69 at hb
  exact u_69_0 d hd v0 h r hb
def b_70_23  (s0 : Int32) (h : Hp) : Option (Int32 × Hp) :=
  (grd (decide (s0 = 0 ∨ s0 = 1))).bind fun _ => some (s0, h)
theorem u_70_23 (d : Nat) (hd : 0 ≤ d) (v0 : Option Nat) (v1 : Option Nat) (s0 : Int32) (h : Hp) (r : Int32 × Hp) (hb : b_70_23  s0 h = some r) : Rn d 70 23 [some (va_rf v0), some (va_rf v1)] [.int s0] h (some (.int r.1), r.2) := by
  unfold b_70_23 at hb
  obtain ⟨hz, hb⟩ := grd_spec hb
  obtain rfl := Option.some.inj hb
  exact rn_zret rfl rfl (of_decide_eq_true hz)
def b_70_22   (h : Hp) : Option (Int32 × Hp) :=
  b_70_23  (nI 0) h
theorem u_70_22 (d : Nat) (hd : 0 ≤ d) (v0 : Option Nat) (v1 : Option Nat)  (h : Hp) (r : Int32 × Hp) (hb : b_70_22   h = some r) : Rn d 70 22 [some (va_rf v0), some (va_rf v1)] [] h (some (.int r.1), r.2) := by
  unfold b_70_22 at hb
  refine rn_iconst (x := (nI 0)) rfl (by decide) ?_
  exact u_70_23 d hd v0 v1 (nI 0) h _ hb
def b_70_18   (h : Hp) : Option (Int32 × Hp) :=
  b_70_23  (nI 1) h
theorem u_70_18 (d : Nat) (hd : 0 ≤ d) (v0 : Option Nat) (v1 : Option Nat)  (h : Hp) (r : Int32 × Hp) (hb : b_70_18   h = some r) : Rn d 70 18 [some (va_rf v0), some (va_rf v1)] [] h (some (.int r.1), r.2) := by
  unfold b_70_18 at hb
  refine rn_iconst (x := (nI 1)) rfl (by decide) ?_
  refine rn_goto rfl rfl ?_
  exact u_70_23 d hd v0 v1 (nI 1) h _ hb
def b_70_7 (v1 : Option Nat)  (h : Hp) : Option (Int32 × Hp) :=
  (gQ 7 2 v1 h).bind fun x1 =>
  (gI 4 5 x1 h).bind fun x2 =>
  if (nI 5) < x2 then b_70_22   h else b_70_18   h
theorem u_70_7 (d : Nat) (hd : 0 ≤ d) (v0 : Option Nat) (v1 : Option Nat)  (h : Hp) (r : Int32 × Hp) (hb : b_70_7 v1  h = some r) : Rn d 70 7 [some (va_rf v0), some (va_rf v1)] [] h (some (.int r.1), r.2) := by
  unfold b_70_7 at hb
  refine rn_aload_n (i := 1) rfl rfl ?_
  refine rn_gQ (c := 7) (k := 2) rfl (by decide) hb (fun x1 hb => ?_)
  refine rn_gI (c := 4) (k := 5) rfl (by decide) hb (fun x2 hb => ?_)
  refine rn_iconst (x := (nI 5)) rfl (by decide) ?_
  refine rn_icmp_gt rfl rfl (fun hc => ?_) (fun hc => ?_)
  · exact u_70_22 d hd v0 v1  h _ (if_t hb hc)
  · exact u_70_18 d hd v0 v1  h _ (if_f hb hc)
def b_70_0 (v1 : Option Nat)  (h : Hp) : Option (Int32 × Hp) :=
  (gI 7 3 v1 h).bind fun x1 =>
  if x1 < 0 then b_70_22   h else b_70_7 v1  h
theorem u_70_0 (d : Nat) (hd : 0 ≤ d) (v0 : Option Nat) (v1 : Option Nat)  (h : Hp) (r : Int32 × Hp) (hb : b_70_0 v1  h = some r) : Rn d 70 0 [some (va_rf v0), some (va_rf v1)] [] h (some (.int r.1), r.2) := by
  unfold b_70_0 at hb
  refine rn_aload_n (i := 1) rfl rfl ?_
  refine rn_gI (c := 7) (k := 3) rfl (by decide) hb (fun x1 hb => ?_)
  refine rn_if_lt rfl rfl (fun hc => ?_) (fun hc => ?_)
  · exact u_70_22 d hd v0 v1  h _ (if_t hb hc)
  · exact u_70_7 d hd v0 v1  h _ (if_f hb hc)
/-- BitingDoors$Paths.canSearch(LBitingDoors$Scene;)Z -/
def f_70 (v0 : Option Nat) (v1 : Option Nat) (h : Hp) : Option (Int32 × Hp) := b_70_0 v1 h
theorem t_70 (d : Nat) (hd : 0 ≤ d) (v0 : Option Nat) (v1 : Option Nat) (h : Hp) (r : Int32 × Hp) (hb : f_70 v0 v1 h = some r) : Rn d 70 0 [some (va_rf v0), some (va_rf v1)] [] h (some (.int r.1), r.2) := by
  unfold f_70 at hb
  exact u_70_0 d hd v0 v1 h r hb
def b_72_32   (h : Hp) : Option (Hp) :=
  some h
theorem u_72_32 (d : Nat) (hd : 0 ≤ d) (v0 : Option Nat)  (h : Hp) (r : Hp) (hb : b_72_32   h = some r) : Rn d 72 32 [some (va_rf v0)] [] h (none, r) := by
  unfold b_72_32 at hb
  obtain rfl := Option.some.inj hb
  exact rn_vret rfl rfl
def b_72_14 (v0 : Option Nat)  (h : Hp) : Option (Hp) :=
  (nA 12 (nI 24300) h).bind fun h1 =>
  (pQ 6 3 v0 (some (hN h)) h1).bind fun h2 =>
  (nA 12 (nI 24300) h2).bind fun h3 =>
  (pQ 6 4 v0 (some (hN h2)) h3).bind fun h4 =>
  b_72_32   h4
theorem u_72_14 (d : Nat) (hd : 0 ≤ d) (v0 : Option Nat)  (h : Hp) (r : Hp) (hb : b_72_14 v0  h = some r) : Rn d 72 14 [some (va_rf v0)] [] h (none, r) := by
  unfold b_72_14 at hb
  refine rn_aload_n (i := 0) rfl rfl ?_
  refine rn_sipush (x := (nI 24300)) rfl (by decide) ?_
  refine rn_newarray rfl hb (fun h1 hb => ?_)
  refine rn_pQ (c := 6) (k := 3) rfl (by decide) hb (fun h2 hb => ?_)
  refine rn_aload_n (i := 0) rfl rfl ?_
  refine rn_sipush (x := (nI 24300)) rfl (by decide) ?_
  refine rn_newarray rfl hb (fun h3 hb => ?_)
  refine rn_pQ (c := 6) (k := 4) rfl (by decide) hb (fun h4 hb => ?_)
  exact u_72_32 d hd v0  h4 _ hb
def b_72_7 (v0 : Option Nat)  (h : Hp) : Option (Hp) :=
  (gQ 6 4 v0 h).bind fun x1 =>
  if ¬ x1 = none then b_72_32   h else b_72_14 v0  h
theorem u_72_7 (d : Nat) (hd : 0 ≤ d) (v0 : Option Nat)  (h : Hp) (r : Hp) (hb : b_72_7 v0  h = some r) : Rn d 72 7 [some (va_rf v0)] [] h (none, r) := by
  unfold b_72_7 at hb
  refine rn_aload_n (i := 0) rfl rfl ?_
  refine rn_gQ (c := 6) (k := 4) rfl (by decide) hb (fun x1 hb => ?_)
  refine rn_ifnonnull rfl rfl (fun hc => ?_) (fun hc => ?_)
  · exact u_72_32 d hd v0  h _ (if_t hb hc)
  · exact u_72_14 d hd v0  h _ (if_f hb (fun z => z hc))
def b_72_0 (v0 : Option Nat)  (h : Hp) : Option (Hp) :=
  (gQ 6 3 v0 h).bind fun x1 =>
  if x1 = none then b_72_14 v0  h else b_72_7 v0  h
theorem u_72_0 (d : Nat) (hd : 0 ≤ d) (v0 : Option Nat)  (h : Hp) (r : Hp) (hb : b_72_0 v0  h = some r) : Rn d 72 0 [some (va_rf v0)] [] h (none, r) := by
  unfold b_72_0 at hb
  refine rn_aload_n (i := 0) rfl rfl ?_
  refine rn_gQ (c := 6) (k := 3) rfl (by decide) hb (fun x1 hb => ?_)
  refine rn_ifnull rfl rfl (fun hc => ?_) (fun hc => ?_)
  · exact u_72_14 d hd v0  h _ (if_t hb hc)
  · exact u_72_7 d hd v0  h _ (if_f hb hc)
/-- BitingDoors$Paths.makeRows()V -/
def f_72 (v0 : Option Nat) (h : Hp) : Option (Hp) := b_72_0 v0 h
theorem t_72 (d : Nat) (hd : 0 ≤ d) (v0 : Option Nat) (h : Hp) (r : Hp) (hb : f_72 v0 h = some r) : Rn d 72 0 [some (va_rf v0)] [] h (none, r) := by
  unfold f_72 at hb
  exact u_72_0 d hd v0 h r hb
def b_74_46   (h : Hp) : Option (Hp) :=
  some h
theorem u_74_46 (d : Nat) (hd : 0 ≤ d) (v0 : Option Nat) (v1 : Int32) (v2 : Int32)  (h : Hp) (r : Hp) (hb : b_74_46   h = some r) : Rn d 74 46 [some (va_rf v0), some (.int v1), some (.int v2)] [] h (none, r) := by
  unfold b_74_46 at hb
  obtain rfl := Option.some.inj hb
  exact rn_vret rfl rfl
def b_74_19 (v0 : Option Nat) (v1 : Int32) (v2 : Int32)  (h : Hp) : Option (Hp) :=
  (gQ 6 3 v0 h).bind fun x1 =>
  (wI x1 v1 v2 h).bind fun h2 =>
  (gQ 6 4 v0 h2).bind fun x3 =>
  (gI 6 5 v0 h2).bind fun x4 =>
  (wI x3 x4 v1 h2).bind fun h5 =>
  (gI 6 5 v0 h5).bind fun x6 =>
  (pI 6 5 v0 (x6 + (nI 1)) h5).bind fun h7 =>
  b_74_46   h7
theorem u_74_19 (d : Nat) (hd : 0 ≤ d) (v0 : Option Nat) (v1 : Int32) (v2 : Int32)  (h : Hp) (r : Hp) (hb : b_74_19 v0 v1 v2  h = some r) : Rn d 74 19 [some (va_rf v0), some (.int v1), some (.int v2)] [] h (none, r) := by
  unfold b_74_19 at hb
  refine rn_aload_n (i := 0) rfl rfl ?_
  refine rn_gQ (c := 6) (k := 3) rfl (by decide) hb (fun x1 hb => ?_)
  refine rn_iload_n (i := 1) rfl rfl ?_
  refine rn_iload_n (i := 2) rfl rfl ?_
  refine rn_wI rfl hb (fun h2 hb => ?_)
  refine rn_aload_n (i := 0) rfl rfl ?_
  refine rn_gQ (c := 6) (k := 4) rfl (by decide) hb (fun x3 hb => ?_)
  refine rn_aload_n (i := 0) rfl rfl ?_
  refine rn_gI (c := 6) (k := 5) rfl (by decide) hb (fun x4 hb => ?_)
  refine rn_iload_n (i := 1) rfl rfl ?_
  refine rn_wI rfl hb (fun h5 hb => ?_)
  refine rn_aload_n (i := 0) rfl rfl ?_
  refine rn_dup rfl (bd_cat_rf _) ?_
  refine rn_gI (c := 6) (k := 5) rfl (by decide) hb (fun x6 hb => ?_)
  refine rn_iconst (x := (nI 1)) rfl (by decide) ?_
  refine rn_iadd rfl ?_
  refine rn_pI (c := 6) (k := 5) rfl (by decide) hb (fun h7 hb => ?_)
  exact u_74_46 d hd v0 v1 v2  h7 _ hb
def b_74_9 (v0 : Option Nat) (v1 : Int32) (v2 : Int32)  (h : Hp) : Option (Hp) :=
  (gI 6 5 v0 h).bind fun x1 =>
  if (nI 24300) ≤ x1 then b_74_46   h else b_74_19 v0 v1 v2  h
theorem u_74_9 (d : Nat) (hd : 0 ≤ d) (v0 : Option Nat) (v1 : Int32) (v2 : Int32)  (h : Hp) (r : Hp) (hb : b_74_9 v0 v1 v2  h = some r) : Rn d 74 9 [some (va_rf v0), some (.int v1), some (.int v2)] [] h (none, r) := by
  unfold b_74_9 at hb
  refine rn_aload_n (i := 0) rfl rfl ?_
  refine rn_gI (c := 6) (k := 5) rfl (by decide) hb (fun x1 hb => ?_)
  refine rn_sipush (x := (nI 24300)) rfl (by decide) ?_
  refine rn_icmp_ge rfl rfl (fun hc => ?_) (fun hc => ?_)
  · exact u_74_46 d hd v0 v1 v2  h _ (if_t hb hc)
  · exact u_74_19 d hd v0 v1 v2  h _ (if_f hb hc)
def b_74_0 (v0 : Option Nat) (v1 : Int32) (v2 : Int32)  (h : Hp) : Option (Hp) :=
  (gQ 6 3 v0 h).bind fun x1 =>
  (aI 12 x1 v1 h).bind fun x2 =>
  if ¬ x2 = 0 then b_74_46   h else b_74_9 v0 v1 v2  h
theorem u_74_0 (d : Nat) (hd : 0 ≤ d) (v0 : Option Nat) (v1 : Int32) (v2 : Int32)  (h : Hp) (r : Hp) (hb : b_74_0 v0 v1 v2  h = some r) : Rn d 74 0 [some (va_rf v0), some (.int v1), some (.int v2)] [] h (none, r) := by
  unfold b_74_0 at hb
  refine rn_aload_n (i := 0) rfl rfl ?_
  refine rn_gQ (c := 6) (k := 3) rfl (by decide) hb (fun x1 hb => ?_)
  refine rn_iload_n (i := 1) rfl rfl ?_
  refine rn_aI rfl hb (fun x2 hb => ?_)
  refine rn_if_ne rfl rfl (fun hc => ?_) (fun hc => ?_)
  · exact u_74_46 d hd v0 v1 v2  h _ (if_t hb hc)
  · exact u_74_9 d hd v0 v1 v2  h _ (if_f hb hc)
/-- BitingDoors$Paths.see(II)V -/
def f_74 (v0 : Option Nat) (v1 : Int32) (v2 : Int32) (h : Hp) : Option (Hp) := b_74_0 v0 v1 v2 h
theorem t_74 (d : Nat) (hd : 0 ≤ d) (v0 : Option Nat) (v1 : Int32) (v2 : Int32) (h : Hp) (r : Hp) (hb : f_74 v0 v1 v2 h = some r) : Rn d 74 0 [some (va_rf v0), some (.int v1), some (.int v2)] [] h (none, r) := by
  unfold f_74 at hb
  exact u_74_0 d hd v0 v1 v2 h r hb
def b_75_39 (v0 : Option Nat) (v1 : Int32)  (h : Hp) : Option (Int32 × Hp) :=
  (gQ 6 2 v0 h).bind fun x1 =>
  (gI 7 3 x1 h).bind fun x2 =>
  some ((((nI 100) * v1) + x2), h)
theorem u_75_39 (d : Nat) (hd : 0 ≤ d) (v0 : Option Nat) (v1 : Int32) (v2 : Int32)  (h : Hp) (r : Int32 × Hp) (hb : b_75_39 v0 v1  h = some r) : Rn d 75 39 [some (va_rf v0), some (.int v1), some (.int v2)] [] h (some (.int r.1), r.2) := by
  unfold b_75_39 at hb
  refine rn_bipush (x := (nI 100)) rfl (by decide) ?_
  refine rn_iload_n (i := 1) rfl rfl ?_
  refine rn_imul rfl ?_
  refine rn_aload_n (i := 0) rfl rfl ?_
  refine rn_gQ (c := 6) (k := 2) rfl (by decide) hb (fun x1 hb => ?_)
  refine rn_gI (c := 7) (k := 3) rfl (by decide) hb (fun x2 hb => ?_)
  refine rn_iadd rfl ?_
  obtain rfl := Option.some.inj hb
  exact rn_iret rfl rfl
def b_75_19 (k15 : Option Nat → Int32 → Int32 → Hp → Option (Int32 × Hp)) (v0 : Option Nat) (v1 : Int32) (v2 : Int32)  (h : Hp) : Option (Int32 × Hp) :=
  (gQ 6 2 v0 h).bind fun x1 =>
  (gQ 7 1 x1 h).bind fun x2 =>
  (aI 12 x2 v2 h).bind fun x3 =>
  bnd ((((nI 3) * v1) + x3)) fun x4 =>
  bnd (v2 + (-1 : Int32)) fun x5 =>
  k15 v0 x4 x5 h
theorem u_75_19 (d : Nat) (hd : 0 ≤ d) (k15 : Option Nat → Int32 → Int32 → Hp → Option (Int32 × Hp)) (K15 : ∀ (v0 : Option Nat) (v1 : Int32) (v2 : Int32) (h : Hp) (r : Int32 × Hp), k15 v0 v1 v2 h = some r → Rn d 75 15 [some (va_rf v0), some (.int v1), some (.int v2)] [] h (some (.int r.1), r.2)) (v0 : Option Nat) (v1 : Int32) (v2 : Int32)  (h : Hp) (r : Int32 × Hp) (hb : b_75_19 k15 v0 v1 v2  h = some r) : Rn d 75 19 [some (va_rf v0), some (.int v1), some (.int v2)] [] h (some (.int r.1), r.2) := by
  unfold b_75_19 at hb
  refine rn_iconst (x := (nI 3)) rfl (by decide) ?_
  refine rn_iload_n (i := 1) rfl rfl ?_
  refine rn_imul rfl ?_
  refine rn_aload_n (i := 0) rfl rfl ?_
  refine rn_gQ (c := 6) (k := 2) rfl (by decide) hb (fun x1 hb => ?_)
  refine rn_gQ (c := 7) (k := 1) rfl (by decide) hb (fun x2 hb => ?_)
  refine rn_iload_n (i := 2) rfl rfl ?_
  refine rn_aI rfl hb (fun x3 hb => ?_)
  refine rn_iadd rfl ?_
  obtain ⟨x4, ex4, hb⟩ := bnd_spec hb
  refine rn_istore_n (i := 1) (L1 := [some (va_rf v0), some (.int x4), some (.int v2)]) rfl (Nat.le_of_ble_eq_true rfl) (Or.inr (bd_wideR rfl)) (by rw [ex4]; rfl) ?_
  obtain ⟨x5, ex5, hb⟩ := bnd_spec hb
  refine rn_iinc (i := 2) (y := x5) (L1 := [some (va_rf v0), some (.int x4), some (.int x5)]) rfl rfl (Nat.le_of_ble_eq_true rfl) (Or.inr rfl) (by rw [ex5]; rfl) rfl ?_
  refine rn_goto rfl rfl ?_
  exact K15 v0 x4 x5 h _ hb
def b_75_15 (k15 : Option Nat → Int32 → Int32 → Hp → Option (Int32 × Hp)) (v0 : Option Nat) (v1 : Int32) (v2 : Int32)  (h : Hp) : Option (Int32 × Hp) :=
  if v2 < 0 then b_75_39 v0 v1  h else b_75_19 k15 v0 v1 v2  h
theorem u_75_15 (d : Nat) (hd : 0 ≤ d) (k15 : Option Nat → Int32 → Int32 → Hp → Option (Int32 × Hp)) (K15 : ∀ (v0 : Option Nat) (v1 : Int32) (v2 : Int32) (h : Hp) (r : Int32 × Hp), k15 v0 v1 v2 h = some r → Rn d 75 15 [some (va_rf v0), some (.int v1), some (.int v2)] [] h (some (.int r.1), r.2)) (v0 : Option Nat) (v1 : Int32) (v2 : Int32)  (h : Hp) (r : Int32 × Hp) (hb : b_75_15 k15 v0 v1 v2  h = some r) : Rn d 75 15 [some (va_rf v0), some (.int v1), some (.int v2)] [] h (some (.int r.1), r.2) := by
  unfold b_75_15 at hb
  refine rn_iload_n (i := 2) rfl rfl ?_
  refine rn_if_lt rfl rfl (fun hc => ?_) (fun hc => ?_)
  · exact u_75_39 d hd v0 v1 v2  h _ (if_t hb hc)
  · exact u_75_19 d hd k15 K15 v0 v1 v2  h _ (if_f hb hc)
def l_75_15 : Nat → Option Nat → Int32 → Int32 → Hp → Option (Int32 × Hp)
  | 0, _, _, _, _ => none
  | n + 1, v0, v1, v2, h => b_75_15 (l_75_15 n) v0 v1 v2 h
theorem w_75_15 (d : Nat) (hd : 0 ≤ d) : ∀ (n : Nat) (v0 : Option Nat) (v1 : Int32) (v2 : Int32) (h : Hp) (r : Int32 × Hp), l_75_15 n v0 v1 v2 h = some r → Rn d 75 15 [some (va_rf v0), some (.int v1), some (.int v2)] [] h (some (.int r.1), r.2) := by
  intro n
  induction n with
  | zero => intro v0 v1 v2 h r hb; cases hb
  | succ n ih => intro v0 v1 v2 h r hb; exact u_75_15 d hd (l_75_15 n) ih v0 v1 v2 h r hb
def b_75_0 (v0 : Option Nat)  (h : Hp) : Option (Int32 × Hp) :=
  bnd ((nI 0)) fun x1 =>
  (gQ 6 2 v0 h).bind fun x2 =>
  (gQ 7 2 x2 h).bind fun x3 =>
  (gI 4 5 x3 h).bind fun x4 =>
  bnd ((x4 - (nI 1))) fun x5 =>
  l_75_15 FU v0 x1 x5 h
theorem u_75_0 (d : Nat) (hd : 0 ≤ d) (v0 : Option Nat)  (h : Hp) (r : Int32 × Hp) (hb : b_75_0 v0  h = some r) : Rn d 75 0 [some (va_rf v0), none, none] [] h (some (.int r.1), r.2) := by
  unfold b_75_0 at hb
  refine rn_iconst (x := (nI 0)) rfl (by decide) ?_
  obtain ⟨x1, ex1, hb⟩ := bnd_spec hb
  refine rn_istore_n (i := 1) (L1 := [some (va_rf v0), some (.int x1), none]) rfl (Nat.le_of_ble_eq_true rfl) (Or.inr (bd_wideR rfl)) (by rw [ex1]; rfl) ?_
  refine rn_aload_n (i := 0) rfl rfl ?_
  refine rn_gQ (c := 6) (k := 2) rfl (by decide) hb (fun x2 hb => ?_)
  refine rn_gQ (c := 7) (k := 2) rfl (by decide) hb (fun x3 hb => ?_)
  refine rn_gI (c := 4) (k := 5) rfl (by decide) hb (fun x4 hb => ?_)
  refine rn_iconst (x := (nI 1)) rfl (by decide) ?_
  refine rn_isub rfl ?_
  obtain ⟨x5, ex5, hb⟩ := bnd_spec hb
  refine rn_istore_n (i := 2) (L1 := [some (va_rf v0), some (.int x1), some (.int x5)]) rfl (Nat.le_of_ble_eq_true rfl) (Or.inr rfl) (by rw [ex5]; rfl) ?_
  exact w_75_15 d hd FU v0 x1 x5 h _ hb
/-- BitingDoors$Paths.stateNow()I -/
def f_75 (v0 : Option Nat) (h : Hp) : Option (Int32 × Hp) := b_75_0 v0 h
theorem t_75 (d : Nat) (hd : 0 ≤ d) (v0 : Option Nat) (h : Hp) (r : Int32 × Hp) (hb : f_75 v0 h = some r) : Rn d 75 0 [some (va_rf v0), none, none] [] h (some (.int r.1), r.2) := by
  unfold f_75 at hb
  exact u_75_0 d hd v0 h r hb
def b_76_54   (h : Hp) : Option (Hp) :=
  some h
theorem u_76_54 (d : Nat) (hd : 0 ≤ d) (v0 : Option Nat) (v1 : Int32) (v2 : Int32) (v3 : Int32)  (h : Hp) (r : Hp) (hb : b_76_54   h = some r) : Rn d 76 54 [some (va_rf v0), some (.int v1), some (.int v2), some (.int v3)] [] h (none, r) := by
  unfold b_76_54 at hb
  obtain rfl := Option.some.inj hb
  exact rn_vret rfl rfl
def b_76_32 (k18 : Option Nat → Int32 → Int32 → Hp → Option (Hp)) (v0 : Option Nat) (v2 : Int32) (v3 : Int32)  (h : Hp) : Option (Hp) :=
  (gQ 6 2 v0 h).bind fun x1 =>
  (gQ 7 1 x1 h).bind fun x2 =>
  (grd (decide (¬ ((nI 3) : Int32) = 0))).bind fun _ =>
  (wI x2 v3 (v2 - v2 / (nI 3) * (nI 3)) h).bind fun h3 =>
  (grd (decide (¬ ((nI 3) : Int32) = 0))).bind fun _ =>
  bnd ((v2 / (nI 3))) fun x4 =>
  bnd (v3 + (nI 1)) fun x5 =>
  k18 v0 x4 x5 h3
theorem u_76_32 (d : Nat) (hd : 0 ≤ d) (k18 : Option Nat → Int32 → Int32 → Hp → Option (Hp)) (K18 : ∀ (v0 : Option Nat) (v1 : Int32) (v2 : Int32) (v3 : Int32) (h : Hp) (r : Hp), k18 v0 v2 v3 h = some r → Rn d 76 18 [some (va_rf v0), some (.int v1), some (.int v2), some (.int v3)] [] h (none, r)) (v0 : Option Nat) (v1 : Int32) (v2 : Int32) (v3 : Int32)  (h : Hp) (r : Hp) (hb : b_76_32 k18 v0 v2 v3  h = some r) : Rn d 76 32 [some (va_rf v0), some (.int v1), some (.int v2), some (.int v3)] [] h (none, r) := by
  unfold b_76_32 at hb
  refine rn_aload_n (i := 0) rfl rfl ?_
  refine rn_gQ (c := 6) (k := 2) rfl (by decide) hb (fun x1 hb => ?_)
  refine rn_gQ (c := 7) (k := 1) rfl (by decide) hb (fun x2 hb => ?_)
  refine rn_iload_n (i := 3) rfl rfl ?_
  refine rn_iload_n (i := 2) rfl rfl ?_
  refine rn_iconst (x := (nI 3)) rfl (by decide) ?_
  obtain ⟨hy, hb⟩ := grd_spec hb
  refine rn_irem rfl (of_decide_eq_true hy) ?_
  refine rn_wI rfl hb (fun h3 hb => ?_)
  refine rn_iload_n (i := 2) rfl rfl ?_
  refine rn_iconst (x := (nI 3)) rfl (by decide) ?_
  obtain ⟨hy, hb⟩ := grd_spec hb
  refine rn_idiv rfl (of_decide_eq_true hy) ?_
  obtain ⟨x4, ex4, hb⟩ := bnd_spec hb
  refine rn_istore_n (i := 2) (L1 := [some (va_rf v0), some (.int v1), some (.int x4), some (.int v3)]) rfl (Nat.le_of_ble_eq_true rfl) (Or.inr rfl) (by rw [ex4]; rfl) ?_
  obtain ⟨x5, ex5, hb⟩ := bnd_spec hb
  refine rn_iinc (i := 3) (y := x5) (L1 := [some (va_rf v0), some (.int v1), some (.int x4), some (.int x5)]) rfl rfl (Nat.le_of_ble_eq_true rfl) (Or.inr rfl) (by rw [ex5]; rfl) rfl ?_
  refine rn_goto rfl rfl ?_
  exact K18 v0 v1 x4 x5 h3 _ hb
def b_76_18 (k18 : Option Nat → Int32 → Int32 → Hp → Option (Hp)) (v0 : Option Nat) (v2 : Int32) (v3 : Int32)  (h : Hp) : Option (Hp) :=
  (gQ 6 2 v0 h).bind fun x1 =>
  (gQ 7 2 x1 h).bind fun x2 =>
  (gI 4 5 x2 h).bind fun x3 =>
  if x3 ≤ v3 then b_76_54   h else b_76_32 k18 v0 v2 v3  h
theorem u_76_18 (d : Nat) (hd : 0 ≤ d) (k18 : Option Nat → Int32 → Int32 → Hp → Option (Hp)) (K18 : ∀ (v0 : Option Nat) (v1 : Int32) (v2 : Int32) (v3 : Int32) (h : Hp) (r : Hp), k18 v0 v2 v3 h = some r → Rn d 76 18 [some (va_rf v0), some (.int v1), some (.int v2), some (.int v3)] [] h (none, r)) (v0 : Option Nat) (v1 : Int32) (v2 : Int32) (v3 : Int32)  (h : Hp) (r : Hp) (hb : b_76_18 k18 v0 v2 v3  h = some r) : Rn d 76 18 [some (va_rf v0), some (.int v1), some (.int v2), some (.int v3)] [] h (none, r) := by
  unfold b_76_18 at hb
  refine rn_iload_n (i := 3) rfl rfl ?_
  refine rn_aload_n (i := 0) rfl rfl ?_
  refine rn_gQ (c := 6) (k := 2) rfl (by decide) hb (fun x1 hb => ?_)
  refine rn_gQ (c := 7) (k := 2) rfl (by decide) hb (fun x2 hb => ?_)
  refine rn_gI (c := 4) (k := 5) rfl (by decide) hb (fun x3 hb => ?_)
  refine rn_icmp_ge rfl rfl (fun hc => ?_) (fun hc => ?_)
  · exact u_76_54 d hd v0 v1 v2 v3  h _ (if_t hb hc)
  · exact u_76_32 d hd k18 K18 v0 v1 v2 v3  h _ (if_f hb hc)
def l_76_18 : Nat → Option Nat → Int32 → Int32 → Hp → Option (Hp)
  | 0, _, _, _, _ => none
  | n + 1, v0, v2, v3, h => b_76_18 (l_76_18 n) v0 v2 v3 h
theorem w_76_18 (d : Nat) (hd : 0 ≤ d) : ∀ (n : Nat) (v0 : Option Nat) (v1 : Int32) (v2 : Int32) (v3 : Int32) (h : Hp) (r : Hp), l_76_18 n v0 v2 v3 h = some r → Rn d 76 18 [some (va_rf v0), some (.int v1), some (.int v2), some (.int v3)] [] h (none, r) := by
  intro n
  induction n with
  | zero => intro v0 v1 v2 v3 h r hb; cases hb
  | succ n ih => intro v0 v1 v2 v3 h r hb; exact u_76_18 d hd (l_76_18 n) ih v0 v1 v2 v3 h r hb
def b_76_0 (v0 : Option Nat) (v1 : Int32)  (h : Hp) : Option (Hp) :=
  (gQ 6 2 v0 h).bind fun x1 =>
  (grd (decide (¬ ((nI 100) : Int32) = 0))).bind fun _ =>
  (pI 7 3 x1 (v1 - v1 / (nI 100) * (nI 100)) h).bind fun h2 =>
  (grd (decide (¬ ((nI 100) : Int32) = 0))).bind fun _ =>
  bnd ((v1 / (nI 100))) fun x3 =>
  bnd ((nI 0)) fun x4 =>
  l_76_18 FU v0 x3 x4 h2
theorem u_76_0 (d : Nat) (hd : 0 ≤ d) (v0 : Option Nat) (v1 : Int32)  (h : Hp) (r : Hp) (hb : b_76_0 v0 v1  h = some r) : Rn d 76 0 [some (va_rf v0), some (.int v1), none, none] [] h (none, r) := by
  unfold b_76_0 at hb
  refine rn_aload_n (i := 0) rfl rfl ?_
  refine rn_gQ (c := 6) (k := 2) rfl (by decide) hb (fun x1 hb => ?_)
  refine rn_iload_n (i := 1) rfl rfl ?_
  refine rn_bipush (x := (nI 100)) rfl (by decide) ?_
  obtain ⟨hy, hb⟩ := grd_spec hb
  refine rn_irem rfl (of_decide_eq_true hy) ?_
  refine rn_pI (c := 7) (k := 3) rfl (by decide) hb (fun h2 hb => ?_)
  refine rn_iload_n (i := 1) rfl rfl ?_
  refine rn_bipush (x := (nI 100)) rfl (by decide) ?_
  obtain ⟨hy, hb⟩ := grd_spec hb
  refine rn_idiv rfl (of_decide_eq_true hy) ?_
  obtain ⟨x3, ex3, hb⟩ := bnd_spec hb
  refine rn_istore_n (i := 2) (L1 := [some (va_rf v0), some (.int v1), some (.int x3), none]) rfl (Nat.le_of_ble_eq_true rfl) (Or.inr rfl) (by rw [ex3]; rfl) ?_
  refine rn_iconst (x := (nI 0)) rfl (by decide) ?_
  obtain ⟨x4, ex4, hb⟩ := bnd_spec hb
  refine rn_istore_n (i := 3) (L1 := [some (va_rf v0), some (.int v1), some (.int x3), some (.int x4)]) rfl (Nat.le_of_ble_eq_true rfl) (Or.inr rfl) (by rw [ex4]; rfl) ?_
  exact w_76_18 d hd FU v0 v1 x3 x4 h2 _ hb
/-- BitingDoors$Paths.load(I)V -/
def f_76 (v0 : Option Nat) (v1 : Int32) (h : Hp) : Option (Hp) := b_76_0 v0 v1 h
theorem t_76 (d : Nat) (hd : 0 ≤ d) (v0 : Option Nat) (v1 : Int32) (h : Hp) (r : Hp) (hb : f_76 v0 v1 h = some r) : Rn d 76 0 [some (va_rf v0), some (.int v1), none, none] [] h (none, r) := by
  unfold f_76 at hb
  exact u_76_0 d hd v0 v1 h r hb
def b_99_0 (v0 : Int32)  (h : Hp) : Option (Int32 × Hp) :=
  (grd (decide (¬ ((nI 2) : Int32) = 0))).bind fun _ =>
  some (((v0 - (nI 4)) / (nI 2)), h)
theorem u_99_0 (d : Nat) (hd : 0 ≤ d) (v0 : Int32)  (h : Hp) (r : Int32 × Hp) (hb : b_99_0 v0  h = some r) : Rn d 99 0 [some (.int v0)] [] h (some (.int r.1), r.2) := by
  unfold b_99_0 at hb
  refine rn_iload_n (i := 0) rfl rfl ?_
  refine rn_iconst (x := (nI 4)) rfl (by decide) ?_
  refine rn_isub rfl ?_
  refine rn_iconst (x := (nI 2)) rfl (by decide) ?_
  obtain ⟨hy, hb⟩ := grd_spec hb
  refine rn_idiv rfl (of_decide_eq_true hy) ?_
  obtain rfl := Option.some.inj hb
  exact rn_iret rfl rfl
/-- BitingDoors$Scene.doorOf(I)I -/
def f_99 (v0 : Int32) (h : Hp) : Option (Int32 × Hp) := b_99_0 v0 h
theorem t_99 (d : Nat) (hd : 0 ≤ d) (v0 : Int32) (h : Hp) (r : Int32 × Hp) (hb : f_99 v0 h = some r) : Rn d 99 0 [some (.int v0)] [] h (some (.int r.1), r.2) := by
  unfold f_99 at hb
  exact u_99_0 d hd v0 h r hb
def b_98_20  (s0 : Int32) (s1 : Int32) (h : Hp) : Option (Int32 × Hp) :=
  some ((s0 + s1), h)
theorem u_98_20 (d : Nat) (hd : 1 ≤ d) (v0 : Option Nat) (v1 : Int32) (s0 : Int32) (s1 : Int32) (h : Hp) (r : Int32 × Hp) (hb : b_98_20  s0 s1 h = some r) : Rn d 98 20 [some (va_rf v0), some (.int v1)] [.int s1, .int s0] h (some (.int r.1), r.2) := by
  unfold b_98_20 at hb
  refine rn_iadd rfl ?_
  obtain rfl := Option.some.inj hb
  exact rn_iret rfl rfl
def b_98_19  (s0 : Int32) (h : Hp) : Option (Int32 × Hp) :=
  b_98_20  s0 (-1 : Int32) h
theorem u_98_19 (d : Nat) (hd : 1 ≤ d) (v0 : Option Nat) (v1 : Int32) (s0 : Int32) (h : Hp) (r : Int32 × Hp) (hb : b_98_19  s0 h = some r) : Rn d 98 19 [some (va_rf v0), some (.int v1)] [.int s0] h (some (.int r.1), r.2) := by
  unfold b_98_19 at hb
  refine rn_iconst (x := (-1 : Int32)) rfl (by decide) ?_
  exact u_98_20 d hd v0 v1 s0 (-1 : Int32) h _ hb
def b_98_15  (s0 : Int32) (h : Hp) : Option (Int32 × Hp) :=
  b_98_20  s0 (nI 1) h
theorem u_98_15 (d : Nat) (hd : 1 ≤ d) (v0 : Option Nat) (v1 : Int32) (s0 : Int32) (h : Hp) (r : Int32 × Hp) (hb : b_98_15  s0 h = some r) : Rn d 98 15 [some (va_rf v0), some (.int v1)] [.int s0] h (some (.int r.1), r.2) := by
  unfold b_98_15 at hb
  refine rn_iconst (x := (nI 1)) rfl (by decide) ?_
  refine rn_goto rfl rfl ?_
  exact u_98_20 d hd v0 v1 s0 (nI 1) h _ hb
def b_98_0 (v0 : Option Nat) (v1 : Int32)  (h : Hp) : Option (Int32 × Hp) :=
  (gQ 7 1 v0 h).bind fun x1 =>
  (f_99 v1 h).bind fun p2 =>
  (aI 12 x1 p2.1 p2.2).bind fun x3 =>
  (grd (decide (¬ ((nI 2) : Int32) = 0))).bind fun _ =>
  if ¬ (v1 - v1 / (nI 2) * (nI 2)) = 0 then b_98_19  x3 p2.2 else b_98_15  x3 p2.2
theorem u_98_0 (d : Nat) (hd : 1 ≤ d) (v0 : Option Nat) (v1 : Int32)  (h : Hp) (r : Int32 × Hp) (hb : b_98_0 v0 v1  h = some r) : Rn d 98 0 [some (va_rf v0), some (.int v1)] [] h (some (.int r.1), r.2) := by
  unfold b_98_0 at hb
  obtain ⟨e, rfl⟩ : ∃ e, d = e + 1 := ⟨d - 1, by omega⟩
  refine rn_aload_n (i := 0) rfl rfl ?_
  refine rn_gQ (c := 7) (k := 1) rfl (by decide) hb (fun x1 hb => ?_)
  refine rn_iload_n (i := 1) rfl rfl ?_
  obtain ⟨p2, hc, hb⟩ := Option.bind_eq_some_iff.mp hb
  refine Rn.call1 (d := e) (As := [.int v1]) (rest := [va_rf x1]) rfl rfl rfl (by decide) rfl rfl rfl rfl (by rw [bd_cR (bd_cN)]; decide) (bd_lenC (n := 1) rfl (bd_slI bd_slN) rfl) (bd_locC (n := 1) rfl (bd_slI bd_slN) rfl (t_99 e (by omega) v1 h _ hc)) ?_
  refine rn_aI rfl hb (fun x3 hb => ?_)
  refine rn_iload_n (i := 1) rfl rfl ?_
  refine rn_iconst (x := (nI 2)) rfl (by decide) ?_
  obtain ⟨hy, hb⟩ := grd_spec hb
  refine rn_irem rfl (of_decide_eq_true hy) ?_
  refine rn_if_ne rfl rfl (fun hc => ?_) (fun hc => ?_)
  · exact u_98_19 (e + 1) hd v0 v1 x3 p2.2 _ (if_t hb hc)
  · exact u_98_15 (e + 1) hd v0 v1 x3 p2.2 _ (if_f hb hc)
/-- BitingDoors$Scene.angleAfter(I)I -/
def f_98 (v0 : Option Nat) (v1 : Int32) (h : Hp) : Option (Int32 × Hp) := b_98_0 v0 v1 h
theorem t_98 (d : Nat) (hd : 1 ≤ d) (v0 : Option Nat) (v1 : Int32) (h : Hp) (r : Int32 × Hp) (hb : f_98 v0 v1 h = some r) : Rn d 98 0 [some (va_rf v0), some (.int v1)] [] h (some (.int r.1), r.2) := by
  unfold f_98 at hb
  exact u_98_0 d hd v0 v1 h r hb
def b_88_89 (v5 : Int64)  (h : Hp) : Option (Int64 × Hp) :=
  some (v5, h)
theorem u_88_89 (d : Nat) (hd : 0 ≤ d) (v0 : Int32) (v1 : Int32) (v2 : Int32) (v3 : Int64) (v5 : Int64) (v7 : Int32)  (h : Hp) (r : Int64 × Hp) (hb : b_88_89 v5  h = some r) : Rn d 88 89 [some (.int v0), some (.int v1), some (.int v2), some (.long v3), none, some (.long v5), none, some (.int v7)] [] h (some (.long r.1), r.2) := by
  unfold b_88_89 at hb
  refine rn_lload (i := 5) rfl rfl ?_
  obtain rfl := Option.some.inj hb
  exact rn_lret rfl rfl
def b_88_72 (k32 : Int32 → Int32 → Int32 → Int64 → Int64 → Int32 → Hp → Option (Int64 × Hp)) (v0 : Int32) (v1 : Int32) (v2 : Int32) (v3 : Int64) (v7 : Int32) (s0 : Int64) (s1 : Int64) (h : Hp) : Option (Int64 × Hp) :=
  bnd ((s0 ||| (s1 <<< (((nI 10) * (v7 - v1)).toInt64 &&& 63)))) fun x1 =>
  bnd (v7 + (nI 1)) fun x2 =>
  k32 v0 v1 v2 v3 x1 x2 h
theorem u_88_72 (d : Nat) (hd : 0 ≤ d) (k32 : Int32 → Int32 → Int32 → Int64 → Int64 → Int32 → Hp → Option (Int64 × Hp)) (K32 : ∀ (v0 : Int32) (v1 : Int32) (v2 : Int32) (v3 : Int64) (v5 : Int64) (v7 : Int32) (h : Hp) (r : Int64 × Hp), k32 v0 v1 v2 v3 v5 v7 h = some r → Rn d 88 32 [some (.int v0), some (.int v1), some (.int v2), some (.long v3), none, some (.long v5), none, some (.int v7)] [] h (some (.long r.1), r.2)) (v0 : Int32) (v1 : Int32) (v2 : Int32) (v3 : Int64) (v5 : Int64) (v7 : Int32) (s0 : Int64) (s1 : Int64) (h : Hp) (r : Int64 × Hp) (hb : b_88_72 k32 v0 v1 v2 v3 v7 s0 s1 h = some r) : Rn d 88 72 [some (.int v0), some (.int v1), some (.int v2), some (.long v3), none, some (.long v5), none, some (.int v7)] [.long s1, .long s0] h (some (.long r.1), r.2) := by
  unfold b_88_72 at hb
  refine rn_bipush (x := (nI 10)) rfl (by decide) ?_
  refine rn_iload (i := 7) rfl rfl ?_
  refine rn_iload_n (i := 1) rfl rfl ?_
  refine rn_isub rfl ?_
  refine rn_imul rfl ?_
  refine rn_lshl rfl ?_
  refine rn_lor rfl ?_
  obtain ⟨x1, ex1, hb⟩ := bnd_spec hb
  refine rn_lstore (i := 5) (L1 := [some (.int v0), some (.int v1), some (.int v2), some (.long v3), none, some (.long x1), none, some (.int v7)]) rfl (Nat.le_of_ble_eq_true rfl) (Or.inr rfl) (by rw [ex1]; rfl) ?_
  obtain ⟨x2, ex2, hb⟩ := bnd_spec hb
  refine rn_iinc (i := 7) (y := x2) (L1 := [some (.int v0), some (.int v1), some (.int v2), some (.long v3), none, some (.long x1), none, some (.int x2)]) rfl rfl (Nat.le_of_ble_eq_true rfl) (Or.inr rfl) (by rw [ex2]; rfl) rfl ?_
  refine rn_goto rfl rfl ?_
  exact K32 v0 v1 v2 v3 x1 x2 h _ hb
def b_88_71 (k32 : Int32 → Int32 → Int32 → Int64 → Int64 → Int32 → Hp → Option (Int64 × Hp)) (v0 : Int32) (v1 : Int32) (v2 : Int32) (v3 : Int64) (v7 : Int32) (s0 : Int64) (h : Hp) : Option (Int64 × Hp) :=
  b_88_72 k32 v0 v1 v2 v3 v7 s0 v3 h
theorem u_88_71 (d : Nat) (hd : 0 ≤ d) (k32 : Int32 → Int32 → Int32 → Int64 → Int64 → Int32 → Hp → Option (Int64 × Hp)) (K32 : ∀ (v0 : Int32) (v1 : Int32) (v2 : Int32) (v3 : Int64) (v5 : Int64) (v7 : Int32) (h : Hp) (r : Int64 × Hp), k32 v0 v1 v2 v3 v5 v7 h = some r → Rn d 88 32 [some (.int v0), some (.int v1), some (.int v2), some (.long v3), none, some (.long v5), none, some (.int v7)] [] h (some (.long r.1), r.2)) (v0 : Int32) (v1 : Int32) (v2 : Int32) (v3 : Int64) (v5 : Int64) (v7 : Int32) (s0 : Int64) (h : Hp) (r : Int64 × Hp) (hb : b_88_71 k32 v0 v1 v2 v3 v7 s0 h = some r) : Rn d 88 71 [some (.int v0), some (.int v1), some (.int v2), some (.long v3), none, some (.long v5), none, some (.int v7)] [.long s0] h (some (.long r.1), r.2) := by
  unfold b_88_71 at hb
  refine rn_lload_n (i := 3) rfl rfl ?_
  exact u_88_72 d hd k32 K32 v0 v1 v2 v3 v5 v7 s0 v3 h _ hb
def b_88_56 (k32 : Int32 → Int32 → Int32 → Int64 → Int64 → Int32 → Hp → Option (Int64 × Hp)) (v0 : Int32) (v1 : Int32) (v2 : Int32) (v3 : Int64) (v7 : Int32) (s0 : Int64) (h : Hp) : Option (Int64 × Hp) :=
  (grd (decide (¬ ((nI 10) : Int32) = 0))).bind fun _ =>
  b_88_72 k32 v0 v1 v2 v3 v7 s0 (v3 &&& (((lN 1) <<< ((v0 - v0 / (nI 10) * (nI 10)).toInt64 &&& 63)) ^^^ (-1 : Int64))) h
theorem u_88_56 (d : Nat) (hd : 0 ≤ d) (k32 : Int32 → Int32 → Int32 → Int64 → Int64 → Int32 → Hp → Option (Int64 × Hp)) (K32 : ∀ (v0 : Int32) (v1 : Int32) (v2 : Int32) (v3 : Int64) (v5 : Int64) (v7 : Int32) (h : Hp) (r : Int64 × Hp), k32 v0 v1 v2 v3 v5 v7 h = some r → Rn d 88 32 [some (.int v0), some (.int v1), some (.int v2), some (.long v3), none, some (.long v5), none, some (.int v7)] [] h (some (.long r.1), r.2)) (v0 : Int32) (v1 : Int32) (v2 : Int32) (v3 : Int64) (v5 : Int64) (v7 : Int32) (s0 : Int64) (h : Hp) (r : Int64 × Hp) (hb : b_88_56 k32 v0 v1 v2 v3 v7 s0 h = some r) : Rn d 88 56 [some (.int v0), some (.int v1), some (.int v2), some (.long v3), none, some (.long v5), none, some (.int v7)] [.long s0] h (some (.long r.1), r.2) := by
  unfold b_88_56 at hb
  refine rn_lload_n (i := 3) rfl rfl ?_
  refine rn_lconst (x := (lN 1)) rfl (by decide) ?_
  refine rn_iload_n (i := 0) rfl rfl ?_
  refine rn_bipush (x := (nI 10)) rfl (by decide) ?_
  obtain ⟨hy, hb⟩ := grd_spec hb
  refine rn_irem rfl (of_decide_eq_true hy) ?_
  refine rn_lshl rfl ?_
  refine rn_ldc2_w (x := (-1 : Int64)) rfl (by decide) ?_
  refine rn_lxor rfl ?_
  refine rn_land rfl ?_
  refine rn_goto rfl rfl ?_
  exact u_88_72 d hd k32 K32 v0 v1 v2 v3 v5 v7 s0 (v3 &&& (((lN 1) <<< ((v0 - v0 / (nI 10) * (nI 10)).toInt64 &&& 63)) ^^^ (-1 : Int64))) h _ hb
def b_88_48 (k32 : Int32 → Int32 → Int32 → Int64 → Int64 → Int32 → Hp → Option (Int64 × Hp)) (v0 : Int32) (v1 : Int32) (v2 : Int32) (v3 : Int64) (v5 : Int64) (v7 : Int32)  (h : Hp) : Option (Int64 × Hp) :=
  if ¬ v7 = v2 then b_88_71 k32 v0 v1 v2 v3 v7 v5 h else b_88_56 k32 v0 v1 v2 v3 v7 v5 h
theorem u_88_48 (d : Nat) (hd : 0 ≤ d) (k32 : Int32 → Int32 → Int32 → Int64 → Int64 → Int32 → Hp → Option (Int64 × Hp)) (K32 : ∀ (v0 : Int32) (v1 : Int32) (v2 : Int32) (v3 : Int64) (v5 : Int64) (v7 : Int32) (h : Hp) (r : Int64 × Hp), k32 v0 v1 v2 v3 v5 v7 h = some r → Rn d 88 32 [some (.int v0), some (.int v1), some (.int v2), some (.long v3), none, some (.long v5), none, some (.int v7)] [] h (some (.long r.1), r.2)) (v0 : Int32) (v1 : Int32) (v2 : Int32) (v3 : Int64) (v5 : Int64) (v7 : Int32)  (h : Hp) (r : Int64 × Hp) (hb : b_88_48 k32 v0 v1 v2 v3 v5 v7  h = some r) : Rn d 88 48 [some (.int v0), some (.int v1), some (.int v2), some (.long v3), none, some (.long v5), none, some (.int v7)] [] h (some (.long r.1), r.2) := by
  unfold b_88_48 at hb
  refine rn_lload (i := 5) rfl rfl ?_
  refine rn_iload (i := 7) rfl rfl ?_
  refine rn_iload_n (i := 2) rfl rfl ?_
  refine rn_icmp_ne rfl rfl (fun hc => ?_) (fun hc => ?_)
  · exact u_88_71 d hd k32 K32 v0 v1 v2 v3 v5 v7 v5 h _ (if_t hb hc)
  · exact u_88_56 d hd k32 K32 v0 v1 v2 v3 v5 v7 v5 h _ (if_f hb hc)
def b_88_32 (k32 : Int32 → Int32 → Int32 → Int64 → Int64 → Int32 → Hp → Option (Int64 × Hp)) (v0 : Int32) (v1 : Int32) (v2 : Int32) (v3 : Int64) (v5 : Int64) (v7 : Int32)  (h : Hp) : Option (Int64 × Hp) :=
  if (if (v2 + (nI 1)) < ((v1 + (nI 5)) - (nI 1)) then (v2 + (nI 1)) else ((v1 + (nI 5)) - (nI 1))) < v7 then b_88_89 v5  h else b_88_48 k32 v0 v1 v2 v3 v5 v7  h
theorem u_88_32 (d : Nat) (hd : 0 ≤ d) (k32 : Int32 → Int32 → Int32 → Int64 → Int64 → Int32 → Hp → Option (Int64 × Hp)) (K32 : ∀ (v0 : Int32) (v1 : Int32) (v2 : Int32) (v3 : Int64) (v5 : Int64) (v7 : Int32) (h : Hp) (r : Int64 × Hp), k32 v0 v1 v2 v3 v5 v7 h = some r → Rn d 88 32 [some (.int v0), some (.int v1), some (.int v2), some (.long v3), none, some (.long v5), none, some (.int v7)] [] h (some (.long r.1), r.2)) (v0 : Int32) (v1 : Int32) (v2 : Int32) (v3 : Int64) (v5 : Int64) (v7 : Int32)  (h : Hp) (r : Int64 × Hp) (hb : b_88_32 k32 v0 v1 v2 v3 v5 v7  h = some r) : Rn d 88 32 [some (.int v0), some (.int v1), some (.int v2), some (.long v3), none, some (.long v5), none, some (.int v7)] [] h (some (.long r.1), r.2) := by
  unfold b_88_32 at hb
  refine rn_iload (i := 7) rfl rfl ?_
  refine rn_iload_n (i := 1) rfl rfl ?_
  refine rn_iconst (x := (nI 5)) rfl (by decide) ?_
  refine rn_iadd rfl ?_
  refine rn_iconst (x := (nI 1)) rfl (by decide) ?_
  refine rn_isub rfl ?_
  refine rn_iload_n (i := 2) rfl rfl ?_
  refine rn_iconst (x := (nI 1)) rfl (by decide) ?_
  refine rn_iadd rfl ?_
  refine rn_mm (f := fun x y => if y < x then y else x) rfl (Or.inr ⟨rfl, rfl⟩) (by rw [bd_cI (bd_cN)]; decide) ?_
  refine rn_icmp_gt rfl rfl (fun hc => ?_) (fun hc => ?_)
  · exact u_88_89 d hd v0 v1 v2 v3 v5 v7  h _ (if_t hb hc)
  · exact u_88_48 d hd k32 K32 v0 v1 v2 v3 v5 v7  h _ (if_f hb hc)
def l_88_32 : Nat → Int32 → Int32 → Int32 → Int64 → Int64 → Int32 → Hp → Option (Int64 × Hp)
  | 0, _, _, _, _, _, _, _ => none
  | n + 1, v0, v1, v2, v3, v5, v7, h => b_88_32 (l_88_32 n) v0 v1 v2 v3 v5 v7 h
theorem w_88_32 (d : Nat) (hd : 0 ≤ d) : ∀ (n : Nat) (v0 : Int32) (v1 : Int32) (v2 : Int32) (v3 : Int64) (v5 : Int64) (v7 : Int32) (h : Hp) (r : Int64 × Hp), l_88_32 n v0 v1 v2 v3 v5 v7 h = some r → Rn d 88 32 [some (.int v0), some (.int v1), some (.int v2), some (.long v3), none, some (.long v5), none, some (.int v7)] [] h (some (.long r.1), r.2) := by
  intro n
  induction n with
  | zero => intro v0 v1 v2 v3 v5 v7 h r hb; cases hb
  | succ n ih => intro v0 v1 v2 v3 v5 v7 h r hb; exact u_88_32 d hd (l_88_32 n) ih v0 v1 v2 v3 v5 v7 h r hb
def b_88_0 (v0 : Int32) (v1 : Int32)  (h : Hp) : Option (Int64 × Hp) :=
  (grd (decide (¬ ((nI 10) : Int32) = 0))).bind fun _ =>
  bnd ((v0 / (nI 10))) fun x1 =>
  (grd (decide (¬ ((nI 10) : Int32) = 0))).bind fun _ =>
  bnd (((((lN 7) <<< ((v0 - v0 / (nI 10) * (nI 10)).toInt64 &&& 63)) >>> ((nI 1).toInt64 &&& 63)) &&& (lN 1023))) fun x2 =>
  bnd ((lN 0)) fun x3 =>
  bnd ((if v1 < (x1 - (nI 1)) then (x1 - (nI 1)) else v1)) fun x4 =>
  l_88_32 FU v0 v1 x1 x2 x3 x4 h
theorem u_88_0 (d : Nat) (hd : 0 ≤ d) (v0 : Int32) (v1 : Int32)  (h : Hp) (r : Int64 × Hp) (hb : b_88_0 v0 v1  h = some r) : Rn d 88 0 [some (.int v0), some (.int v1), none, none, none, none, none, none] [] h (some (.long r.1), r.2) := by
  unfold b_88_0 at hb
  refine rn_iload_n (i := 0) rfl rfl ?_
  refine rn_bipush (x := (nI 10)) rfl (by decide) ?_
  obtain ⟨hy, hb⟩ := grd_spec hb
  refine rn_idiv rfl (of_decide_eq_true hy) ?_
  obtain ⟨x1, ex1, hb⟩ := bnd_spec hb
  refine rn_istore_n (i := 2) (L1 := [some (.int v0), some (.int v1), some (.int x1), none, none, none, none, none]) rfl (Nat.le_of_ble_eq_true rfl) (Or.inr rfl) (by rw [ex1]; rfl) ?_
  refine rn_ldc2_w (x := (lN 7)) rfl (by decide) ?_
  refine rn_iload_n (i := 0) rfl rfl ?_
  refine rn_bipush (x := (nI 10)) rfl (by decide) ?_
  obtain ⟨hy, hb⟩ := grd_spec hb
  refine rn_irem rfl (of_decide_eq_true hy) ?_
  refine rn_lshl rfl ?_
  refine rn_iconst (x := (nI 1)) rfl (by decide) ?_
  refine rn_lshr rfl ?_
  refine rn_ldc2_w (x := (lN 1023)) rfl (by decide) ?_
  refine rn_land rfl ?_
  obtain ⟨x2, ex2, hb⟩ := bnd_spec hb
  refine rn_lstore_n (i := 3) (L1 := [some (.int v0), some (.int v1), some (.int x1), some (.long x2), none, none, none, none]) rfl (Nat.le_of_ble_eq_true rfl) (Or.inr rfl) (by rw [ex2]; rfl) ?_
  refine rn_lconst (x := (lN 0)) rfl (by decide) ?_
  obtain ⟨x3, ex3, hb⟩ := bnd_spec hb
  refine rn_lstore (i := 5) (L1 := [some (.int v0), some (.int v1), some (.int x1), some (.long x2), none, some (.long x3), none, none]) rfl (Nat.le_of_ble_eq_true rfl) (Or.inr rfl) (by rw [ex3]; rfl) ?_
  refine rn_iload_n (i := 1) rfl rfl ?_
  refine rn_iload_n (i := 2) rfl rfl ?_
  refine rn_iconst (x := (nI 1)) rfl (by decide) ?_
  refine rn_isub rfl ?_
  refine rn_mm (f := fun x y => if x < y then y else x) rfl (Or.inl ⟨rfl, rfl⟩) (by decide) ?_
  obtain ⟨x4, ex4, hb⟩ := bnd_spec hb
  refine rn_istore (i := 7) (L1 := [some (.int v0), some (.int v1), some (.int x1), some (.long x2), none, some (.long x3), none, some (.int x4)]) rfl (Nat.le_of_ble_eq_true rfl) (Or.inr rfl) (by rw [ex4]; rfl) ?_
  exact w_88_32 d hd FU v0 v1 x1 x2 x3 x4 h _ hb
/-- BitingDoors$Scene.cellsAbout(II)J -/
def f_88 (v0 : Int32) (v1 : Int32) (h : Hp) : Option (Int64 × Hp) := b_88_0 v0 v1 h
theorem t_88 (d : Nat) (hd : 0 ≤ d) (v0 : Int32) (v1 : Int32) (h : Hp) (r : Int64 × Hp) (hb : f_88 v0 v1 h = some r) : Rn d 88 0 [some (.int v0), some (.int v1), none, none, none, none, none, none] [] h (some (.long r.1), r.2) := by
  unfold f_88 at hb
  exact u_88_0 d hd v0 v1 h r hb
def b_87_103  (s0 : Int32) (h : Hp) : Option (Int32 × Hp) :=
  (grd (decide (s0 = 0 ∨ s0 = 1))).bind fun _ => some (s0, h)
theorem u_87_103 (d : Nat) (hd : 1 ≤ d) (v0 : Option Nat) (v1 : Int32) (v2 : Option Nat) (v3 : Int32) (v4 : Int32) (v5 : Int64) (v7 : Int64) (s0 : Int32) (h : Hp) (r : Int32 × Hp) (hb : b_87_103  s0 h = some r) : Rn d 87 103 [some (va_rf v0), some (.int v1), some (va_rf v2), some (.int v3), some (.int v4), some (.long v5), none, some (.long v7), none] [.int s0] h (some (.int r.1), r.2) := by
  unfold b_87_103 at hb
  obtain ⟨hz, hb⟩ := grd_spec hb
  obtain rfl := Option.some.inj hb
  exact rn_zret rfl rfl (of_decide_eq_true hz)
def b_87_102   (h : Hp) : Option (Int32 × Hp) :=
  b_87_103  (nI 0) h
theorem u_87_102 (d : Nat) (hd : 1 ≤ d) (v0 : Option Nat) (v1 : Int32) (v2 : Option Nat) (v3 : Int32) (v4 : Int32) (v5 : Int64) (v7 : Int64)  (h : Hp) (r : Int32 × Hp) (hb : b_87_102   h = some r) : Rn d 87 102 [some (va_rf v0), some (.int v1), some (va_rf v2), some (.int v3), some (.int v4), some (.long v5), none, some (.long v7), none] [] h (some (.int r.1), r.2) := by
  unfold b_87_102 at hb
  refine rn_iconst (x := (nI 0)) rfl (by decide) ?_
  exact u_87_103 d hd v0 v1 v2 v3 v4 v5 v7 (nI 0) h _ hb
def b_87_98   (h : Hp) : Option (Int32 × Hp) :=
  b_87_103  (nI 1) h
theorem u_87_98 (d : Nat) (hd : 1 ≤ d) (v0 : Option Nat) (v1 : Int32) (v2 : Option Nat) (v3 : Int32) (v4 : Int32) (v5 : Int64) (v7 : Int64)  (h : Hp) (r : Int32 × Hp) (hb : b_87_98   h = some r) : Rn d 87 98 [some (va_rf v0), some (.int v1), some (va_rf v2), some (.int v3), some (.int v4), some (.long v5), none, some (.long v7), none] [] h (some (.int r.1), r.2) := by
  unfold b_87_98 at hb
  refine rn_iconst (x := (nI 1)) rfl (by decide) ?_
  refine rn_goto rfl rfl ?_
  exact u_87_103 d hd v0 v1 v2 v3 v4 v5 v7 (nI 1) h _ hb
def b_87_9 (v0 : Option Nat) (v1 : Int32)  (h : Hp) : Option (Int32 × Hp) :=
  (gQ 7 2 v0 h).bind fun x1 =>
  (gQ 4 1 x1 h).bind fun x2 =>
  (aQ x2 v1 h).bind fun x3 =>
  (gQ 7 0 v0 h).bind fun x4 =>
  (aI 12 x4 v1 h).bind fun x5 =>
  bnd (((nI 3) * x5)) fun x6 =>
  (gQ 7 1 v0 h).bind fun x7 =>
  (aI 12 x7 v1 h).bind fun x8 =>
  bnd ((x6 + x8)) fun x9 =>
  (gQ 1 0 x3 h).bind fun x10 =>
  (aJ x10 x6 h).bind fun x11 =>
  (gQ 1 0 x3 h).bind fun x12 =>
  (aJ x12 x9 h).bind fun x13 =>
  (gI 7 3 v0 h).bind fun x14 =>
  (f_88 x14 (nI 0) h).bind fun p15 =>
  bnd (((x11 ||| x13) &&& p15.1)) fun x16 =>
  (gQ 1 1 x3 p15.2).bind fun x17 =>
  (aJ x17 x6 p15.2).bind fun x18 =>
  (gQ 1 1 x3 p15.2).bind fun x19 =>
  (aJ x19 x9 p15.2).bind fun x20 =>
  (gI 7 3 v0 p15.2).bind fun x21 =>
  (f_88 x21 (nI 5) p15.2).bind fun p22 =>
  bnd (((x18 ||| x20) &&& p22.1)) fun x23 =>
  if (lg_cmp (x16 ||| x23) (lN 0)) = 0 then b_87_102   p22.2 else b_87_98   p22.2
theorem u_87_9 (d : Nat) (hd : 1 ≤ d) (v0 : Option Nat) (v1 : Int32)  (h : Hp) (r : Int32 × Hp) (hb : b_87_9 v0 v1  h = some r) : Rn d 87 9 [some (va_rf v0), some (.int v1), none, none, none, none, none, none, none] [] h (some (.int r.1), r.2) := by
  unfold b_87_9 at hb
  obtain ⟨e, rfl⟩ : ∃ e, d = e + 1 := ⟨d - 1, by omega⟩
  refine rn_aload_n (i := 0) rfl rfl ?_
  refine rn_gQ (c := 7) (k := 2) rfl (by decide) hb (fun x1 hb => ?_)
  refine rn_gQ (c := 4) (k := 1) rfl (by decide) hb (fun x2 hb => ?_)
  refine rn_iload_n (i := 1) rfl rfl ?_
  refine rn_aQ rfl hb (fun x3 hb => ?_)
  refine rn_astore_n (i := 2) (L1 := [some (va_rf v0), some (.int v1), some (va_rf x3), none, none, none, none, none, none]) rfl (Nat.le_of_ble_eq_true rfl) (Or.inr rfl) rfl ?_
  refine rn_iconst (x := (nI 3)) rfl (by decide) ?_
  refine rn_aload_n (i := 0) rfl rfl ?_
  refine rn_gQ (c := 7) (k := 0) rfl (by decide) hb (fun x4 hb => ?_)
  refine rn_iload_n (i := 1) rfl rfl ?_
  refine rn_aI rfl hb (fun x5 hb => ?_)
  refine rn_imul rfl ?_
  obtain ⟨x6, ex6, hb⟩ := bnd_spec hb
  refine rn_istore_n (i := 3) (L1 := [some (va_rf v0), some (.int v1), some (va_rf x3), some (.int x6), none, none, none, none, none]) rfl (Nat.le_of_ble_eq_true rfl) (Or.inr (bd_wideR rfl)) (by rw [ex6]; rfl) ?_
  refine rn_iload_n (i := 3) rfl rfl ?_
  refine rn_aload_n (i := 0) rfl rfl ?_
  refine rn_gQ (c := 7) (k := 1) rfl (by decide) hb (fun x7 hb => ?_)
  refine rn_iload_n (i := 1) rfl rfl ?_
  refine rn_aI rfl hb (fun x8 hb => ?_)
  refine rn_iadd rfl ?_
  obtain ⟨x9, ex9, hb⟩ := bnd_spec hb
  refine rn_istore (i := 4) (L1 := [some (va_rf v0), some (.int v1), some (va_rf x3), some (.int x6), some (.int x9), none, none, none, none]) rfl (Nat.le_of_ble_eq_true rfl) (Or.inr rfl) (by rw [ex9]; rfl) ?_
  refine rn_aload_n (i := 2) rfl rfl ?_
  refine rn_gQ (c := 1) (k := 0) rfl (by decide) hb (fun x10 hb => ?_)
  refine rn_iload_n (i := 3) rfl rfl ?_
  refine rn_aJ rfl hb (fun x11 hb => ?_)
  refine rn_aload_n (i := 2) rfl rfl ?_
  refine rn_gQ (c := 1) (k := 0) rfl (by decide) hb (fun x12 hb => ?_)
  refine rn_iload (i := 4) rfl rfl ?_
  refine rn_aJ rfl hb (fun x13 hb => ?_)
  refine rn_lor rfl ?_
  refine rn_aload_n (i := 0) rfl rfl ?_
  refine rn_gI (c := 7) (k := 3) rfl (by decide) hb (fun x14 hb => ?_)
  refine rn_iconst (x := (nI 0)) rfl (by decide) ?_
  obtain ⟨p15, hc, hb⟩ := Option.bind_eq_some_iff.mp hb
  refine Rn.call1 (d := e) (As := [.int x14, .int (nI 0)]) (rest := [.long (x11 ||| x13)]) rfl rfl rfl (by decide) rfl rfl rfl rfl (by rw [bd_cJ (bd_cN)]; decide) (bd_lenC (n := 8) rfl (bd_slI (bd_slI bd_slN)) rfl) (bd_locC (n := 8) rfl (bd_slI (bd_slI bd_slN)) rfl (t_88 e (by omega) x14 (nI 0) h _ hc)) ?_
  refine rn_land rfl ?_
  obtain ⟨x16, ex16, hb⟩ := bnd_spec hb
  refine rn_lstore (i := 5) (L1 := [some (va_rf v0), some (.int v1), some (va_rf x3), some (.int x6), some (.int x9), some (.long x16), none, none, none]) rfl (Nat.le_of_ble_eq_true rfl) (Or.inr rfl) (by rw [ex16]; rfl) ?_
  refine rn_aload_n (i := 2) rfl rfl ?_
  refine rn_gQ (c := 1) (k := 1) rfl (by decide) hb (fun x17 hb => ?_)
  refine rn_iload_n (i := 3) rfl rfl ?_
  refine rn_aJ rfl hb (fun x18 hb => ?_)
  refine rn_aload_n (i := 2) rfl rfl ?_
  refine rn_gQ (c := 1) (k := 1) rfl (by decide) hb (fun x19 hb => ?_)
  refine rn_iload (i := 4) rfl rfl ?_
  refine rn_aJ rfl hb (fun x20 hb => ?_)
  refine rn_lor rfl ?_
  refine rn_aload_n (i := 0) rfl rfl ?_
  refine rn_gI (c := 7) (k := 3) rfl (by decide) hb (fun x21 hb => ?_)
  refine rn_iconst (x := (nI 5)) rfl (by decide) ?_
  obtain ⟨p22, hc, hb⟩ := Option.bind_eq_some_iff.mp hb
  refine Rn.call1 (d := e) (As := [.int x21, .int (nI 5)]) (rest := [.long (x18 ||| x20)]) rfl rfl rfl (by decide) rfl rfl rfl rfl (by rw [bd_cJ (bd_cN)]; decide) (bd_lenC (n := 8) rfl (bd_slI (bd_slI bd_slN)) rfl) (bd_locC (n := 8) rfl (bd_slI (bd_slI bd_slN)) rfl (t_88 e (by omega) x21 (nI 5) p15.2 _ hc)) ?_
  refine rn_land rfl ?_
  obtain ⟨x23, ex23, hb⟩ := bnd_spec hb
  refine rn_lstore (i := 7) (L1 := [some (va_rf v0), some (.int v1), some (va_rf x3), some (.int x6), some (.int x9), some (.long x16), none, some (.long x23), none]) rfl (Nat.le_of_ble_eq_true rfl) (Or.inr rfl) (by rw [ex23]; rfl) ?_
  refine rn_lload (i := 5) rfl rfl ?_
  refine rn_lload (i := 7) rfl rfl ?_
  refine rn_lor rfl ?_
  refine rn_lconst (x := (lN 0)) rfl (by decide) ?_
  refine rn_lcmp rfl ?_
  refine rn_if_eq rfl rfl (fun hc => ?_) (fun hc => ?_)
  · exact u_87_102 (e + 1) hd v0 v1 x3 x6 x9 x16 x23  p22.2 _ (if_t hb hc)
  · exact u_87_98 (e + 1) hd v0 v1 x3 x6 x9 x16 x23  p22.2 _ (if_f hb hc)
def b_87_7   (h : Hp) : Option (Int32 × Hp) :=
  (grd (decide ((nI 0) = 0 ∨ (nI 0) = 1))).bind fun _ => some ((nI 0), h)
theorem u_87_7 (d : Nat) (hd : 1 ≤ d) (v0 : Option Nat) (v1 : Int32)  (h : Hp) (r : Int32 × Hp) (hb : b_87_7   h = some r) : Rn d 87 7 [some (va_rf v0), some (.int v1), none, none, none, none, none, none, none] [] h (some (.int r.1), r.2) := by
  unfold b_87_7 at hb
  refine rn_iconst (x := (nI 0)) rfl (by decide) ?_
  obtain ⟨hz, hb⟩ := grd_spec hb
  obtain rfl := Option.some.inj hb
  exact rn_zret rfl rfl (of_decide_eq_true hz)
def b_87_0 (v0 : Option Nat) (v1 : Int32)  (h : Hp) : Option (Int32 × Hp) :=
  (gI 7 3 v0 h).bind fun x1 =>
  if 0 ≤ x1 then b_87_9 v0 v1  h else b_87_7   h
theorem u_87_0 (d : Nat) (hd : 1 ≤ d) (v0 : Option Nat) (v1 : Int32)  (h : Hp) (r : Int32 × Hp) (hb : b_87_0 v0 v1  h = some r) : Rn d 87 0 [some (va_rf v0), some (.int v1), none, none, none, none, none, none, none] [] h (some (.int r.1), r.2) := by
  unfold b_87_0 at hb
  refine rn_aload_n (i := 0) rfl rfl ?_
  refine rn_gI (c := 7) (k := 3) rfl (by decide) hb (fun x1 hb => ?_)
  refine rn_if_ge rfl rfl (fun hc => ?_) (fun hc => ?_)
  · exact u_87_9 d hd v0 v1  h _ (if_t hb hc)
  · exact u_87_7 d hd v0 v1  h _ (if_f hb hc)
/-- BitingDoors$Scene.standsAt(I)Z -/
def f_87 (v0 : Option Nat) (v1 : Int32) (h : Hp) : Option (Int32 × Hp) := b_87_0 v0 v1 h
theorem t_87 (d : Nat) (hd : 1 ≤ d) (v0 : Option Nat) (v1 : Int32) (h : Hp) (r : Int32 × Hp) (hb : f_87 v0 v1 h = some r) : Rn d 87 0 [some (va_rf v0), some (.int v1), none, none, none, none, none, none, none] [] h (some (.int r.1), r.2) := by
  unfold f_87 at hb
  exact u_87_0 d hd v0 v1 h r hb
def b_85_49   (h : Hp) : Option (Int32 × Hp) :=
  (grd (decide ((nI 0) = 0 ∨ (nI 0) = 1))).bind fun _ => some ((nI 0), h)
theorem u_85_49 (d : Nat) (hd : 1 ≤ d) (v0 : Option Nat) (v1 : Int32) (v2 : Int32)  (h : Hp) (r : Int32 × Hp) (hb : b_85_49   h = some r) : Rn d 85 49 [some (va_rf v0), some (.int v1), some (.int v2)] [] h (some (.int r.1), r.2) := by
  unfold b_85_49 at hb
  refine rn_iconst (x := (nI 0)) rfl (by decide) ?_
  obtain ⟨hz, hb⟩ := grd_spec hb
  obtain rfl := Option.some.inj hb
  exact rn_zret rfl rfl (of_decide_eq_true hz)
def b_85_43 (k2 : Option Nat → Int32 → Int32 → Hp → Option (Int32 × Hp)) (v0 : Option Nat) (v1 : Int32) (v2 : Int32)  (h : Hp) : Option (Int32 × Hp) :=
  bnd (v2 + (nI 1)) fun x1 =>
  k2 v0 v1 x1 h
theorem u_85_43 (d : Nat) (hd : 1 ≤ d) (k2 : Option Nat → Int32 → Int32 → Hp → Option (Int32 × Hp)) (K2 : ∀ (v0 : Option Nat) (v1 : Int32) (v2 : Int32) (h : Hp) (r : Int32 × Hp), k2 v0 v1 v2 h = some r → Rn d 85 2 [some (va_rf v0), some (.int v1), some (.int v2)] [] h (some (.int r.1), r.2)) (v0 : Option Nat) (v1 : Int32) (v2 : Int32)  (h : Hp) (r : Int32 × Hp) (hb : b_85_43 k2 v0 v1 v2  h = some r) : Rn d 85 43 [some (va_rf v0), some (.int v1), some (.int v2)] [] h (some (.int r.1), r.2) := by
  unfold b_85_43 at hb
  obtain ⟨x1, ex1, hb⟩ := bnd_spec hb
  refine rn_iinc (i := 2) (y := x1) (L1 := [some (va_rf v0), some (.int v1), some (.int x1)]) rfl rfl (Nat.le_of_ble_eq_true rfl) (Or.inr rfl) (by rw [ex1]; rfl) rfl ?_
  refine rn_goto rfl rfl ?_
  exact K2 v0 v1 x1 h _ hb
def b_85_41   (h : Hp) : Option (Int32 × Hp) :=
  (grd (decide ((nI 1) = 0 ∨ (nI 1) = 1))).bind fun _ => some ((nI 1), h)
theorem u_85_41 (d : Nat) (hd : 1 ≤ d) (v0 : Option Nat) (v1 : Int32) (v2 : Int32)  (h : Hp) (r : Int32 × Hp) (hb : b_85_41   h = some r) : Rn d 85 41 [some (va_rf v0), some (.int v1), some (.int v2)] [] h (some (.int r.1), r.2) := by
  unfold b_85_41 at hb
  refine rn_iconst (x := (nI 1)) rfl (by decide) ?_
  obtain ⟨hz, hb⟩ := grd_spec hb
  obtain rfl := Option.some.inj hb
  exact rn_zret rfl rfl (of_decide_eq_true hz)
def b_85_13 (k2 : Option Nat → Int32 → Int32 → Hp → Option (Int32 × Hp)) (v0 : Option Nat) (v1 : Int32) (v2 : Int32)  (h : Hp) : Option (Int32 × Hp) :=
  (gQ 7 2 v0 h).bind fun x1 =>
  (gQ 4 1 x1 h).bind fun x2 =>
  (aQ x2 v2 h).bind fun x3 =>
  (gQ 7 0 v0 h).bind fun x4 =>
  (aI 12 x4 v2 h).bind fun x5 =>
  (gQ 7 1 v0 h).bind fun x6 =>
  (aI 12 x6 v2 h).bind fun x7 =>
  (grd (rC 1 x3 h)).bind fun _ =>
  (f_15 x3 x5 x7 v1 h).bind fun p8 =>
  if p8.1 = 0 then b_85_43 k2 v0 v1 v2  p8.2 else b_85_41   p8.2
theorem u_85_13 (d : Nat) (hd : 1 ≤ d) (k2 : Option Nat → Int32 → Int32 → Hp → Option (Int32 × Hp)) (K2 : ∀ (v0 : Option Nat) (v1 : Int32) (v2 : Int32) (h : Hp) (r : Int32 × Hp), k2 v0 v1 v2 h = some r → Rn d 85 2 [some (va_rf v0), some (.int v1), some (.int v2)] [] h (some (.int r.1), r.2)) (v0 : Option Nat) (v1 : Int32) (v2 : Int32)  (h : Hp) (r : Int32 × Hp) (hb : b_85_13 k2 v0 v1 v2  h = some r) : Rn d 85 13 [some (va_rf v0), some (.int v1), some (.int v2)] [] h (some (.int r.1), r.2) := by
  unfold b_85_13 at hb
  obtain ⟨e, rfl⟩ : ∃ e, d = e + 1 := ⟨d - 1, by omega⟩
  refine rn_aload_n (i := 0) rfl rfl ?_
  refine rn_gQ (c := 7) (k := 2) rfl (by decide) hb (fun x1 hb => ?_)
  refine rn_gQ (c := 4) (k := 1) rfl (by decide) hb (fun x2 hb => ?_)
  refine rn_iload_n (i := 2) rfl rfl ?_
  refine rn_aQ rfl hb (fun x3 hb => ?_)
  refine rn_aload_n (i := 0) rfl rfl ?_
  refine rn_gQ (c := 7) (k := 0) rfl (by decide) hb (fun x4 hb => ?_)
  refine rn_iload_n (i := 2) rfl rfl ?_
  refine rn_aI rfl hb (fun x5 hb => ?_)
  refine rn_aload_n (i := 0) rfl rfl ?_
  refine rn_gQ (c := 7) (k := 1) rfl (by decide) hb (fun x6 hb => ?_)
  refine rn_iload_n (i := 2) rfl rfl ?_
  refine rn_aI rfl hb (fun x7 hb => ?_)
  refine rn_iload_n (i := 1) rfl rfl ?_
  obtain ⟨hrc, hb⟩ := grd_spec hb
  obtain ⟨p8, hc, hb⟩ := Option.bind_eq_some_iff.mp hb
  refine Rn.call1 (d := e) (As := [va_rf x3, .int x5, .int x7, .int v1]) (rest := []) rfl rfl rfl (by decide) rfl rfl rfl (bd_rcV hrc rfl) (by decide) (bd_lenC (n := 6) rfl (bd_slR (bd_slI (bd_slI (bd_slI bd_slN)))) rfl) (bd_locC (n := 6) rfl (bd_slR (bd_slI (bd_slI (bd_slI bd_slN)))) rfl (t_15 e (by omega) x3 x5 x7 v1 h _ hc)) ?_
  refine rn_if_eq rfl rfl (fun hc => ?_) (fun hc => ?_)
  · exact u_85_43 (e + 1) hd k2 K2 v0 v1 v2  p8.2 _ (if_t hb hc)
  · exact u_85_41 (e + 1) hd v0 v1 v2  p8.2 _ (if_f hb hc)
def b_85_2 (k2 : Option Nat → Int32 → Int32 → Hp → Option (Int32 × Hp)) (v0 : Option Nat) (v1 : Int32) (v2 : Int32)  (h : Hp) : Option (Int32 × Hp) :=
  (gQ 7 2 v0 h).bind fun x1 =>
  (gI 4 5 x1 h).bind fun x2 =>
  if x2 ≤ v2 then b_85_49   h else b_85_13 k2 v0 v1 v2  h
theorem u_85_2 (d : Nat) (hd : 1 ≤ d) (k2 : Option Nat → Int32 → Int32 → Hp → Option (Int32 × Hp)) (K2 : ∀ (v0 : Option Nat) (v1 : Int32) (v2 : Int32) (h : Hp) (r : Int32 × Hp), k2 v0 v1 v2 h = some r → Rn d 85 2 [some (va_rf v0), some (.int v1), some (.int v2)] [] h (some (.int r.1), r.2)) (v0 : Option Nat) (v1 : Int32) (v2 : Int32)  (h : Hp) (r : Int32 × Hp) (hb : b_85_2 k2 v0 v1 v2  h = some r) : Rn d 85 2 [some (va_rf v0), some (.int v1), some (.int v2)] [] h (some (.int r.1), r.2) := by
  unfold b_85_2 at hb
  refine rn_iload_n (i := 2) rfl rfl ?_
  refine rn_aload_n (i := 0) rfl rfl ?_
  refine rn_gQ (c := 7) (k := 2) rfl (by decide) hb (fun x1 hb => ?_)
  refine rn_gI (c := 4) (k := 5) rfl (by decide) hb (fun x2 hb => ?_)
  refine rn_icmp_ge rfl rfl (fun hc => ?_) (fun hc => ?_)
  · exact u_85_49 d hd v0 v1 v2  h _ (if_t hb hc)
  · exact u_85_13 d hd k2 K2 v0 v1 v2  h _ (if_f hb hc)
def l_85_2 : Nat → Option Nat → Int32 → Int32 → Hp → Option (Int32 × Hp)
  | 0, _, _, _, _ => none
  | n + 1, v0, v1, v2, h => b_85_2 (l_85_2 n) v0 v1 v2 h
theorem w_85_2 (d : Nat) (hd : 1 ≤ d) : ∀ (n : Nat) (v0 : Option Nat) (v1 : Int32) (v2 : Int32) (h : Hp) (r : Int32 × Hp), l_85_2 n v0 v1 v2 h = some r → Rn d 85 2 [some (va_rf v0), some (.int v1), some (.int v2)] [] h (some (.int r.1), r.2) := by
  intro n
  induction n with
  | zero => intro v0 v1 v2 h r hb; cases hb
  | succ n ih => intro v0 v1 v2 h r hb; exact u_85_2 d hd (l_85_2 n) ih v0 v1 v2 h r hb
def b_85_0 (v0 : Option Nat) (v1 : Int32)  (h : Hp) : Option (Int32 × Hp) :=
  bnd ((nI 0)) fun x1 =>
  l_85_2 FU v0 v1 x1 h
theorem u_85_0 (d : Nat) (hd : 1 ≤ d) (v0 : Option Nat) (v1 : Int32)  (h : Hp) (r : Int32 × Hp) (hb : b_85_0 v0 v1  h = some r) : Rn d 85 0 [some (va_rf v0), some (.int v1), none] [] h (some (.int r.1), r.2) := by
  unfold b_85_0 at hb
  refine rn_iconst (x := (nI 0)) rfl (by decide) ?_
  obtain ⟨x1, ex1, hb⟩ := bnd_spec hb
  refine rn_istore_n (i := 2) (L1 := [some (va_rf v0), some (.int v1), some (.int x1)]) rfl (Nat.le_of_ble_eq_true rfl) (Or.inr rfl) (by rw [ex1]; rfl) ?_
  exact w_85_2 d hd FU v0 v1 x1 h _ hb
/-- BitingDoors$Scene.hasLeafOn(I)Z -/
def f_85 (v0 : Option Nat) (v1 : Int32) (h : Hp) : Option (Int32 × Hp) := b_85_0 v0 v1 h
theorem t_85 (d : Nat) (hd : 1 ≤ d) (v0 : Option Nat) (v1 : Int32) (h : Hp) (r : Int32 × Hp) (hb : f_85 v0 v1 h = some r) : Rn d 85 0 [some (va_rf v0), some (.int v1), none] [] h (some (.int r.1), r.2) := by
  unfold f_85 at hb
  exact u_85_0 d hd v0 v1 h r hb
def b_91_60  (s0 : Int32) (h : Hp) : Option (Int32 × Hp) :=
  some (s0, h)
theorem u_91_60 (d : Nat) (hd : 2 ≤ d) (v0 : Option Nat) (v1 : Int32) (v2 : Int32) (v3 : Int32) (s0 : Int32) (h : Hp) (r : Int32 × Hp) (hb : b_91_60  s0 h = some r) : Rn d 91 60 [some (va_rf v0), some (.int v1), some (.int v2), some (.int v3)] [.int s0] h (some (.int r.1), r.2) := by
  unfold b_91_60 at hb
  obtain rfl := Option.some.inj hb
  exact rn_iret rfl rfl
def b_91_59   (h : Hp) : Option (Int32 × Hp) :=
  b_91_60  (nI 0) h
theorem u_91_59 (d : Nat) (hd : 2 ≤ d) (v0 : Option Nat) (v1 : Int32) (v2 : Int32) (v3 : Int32)  (h : Hp) (r : Int32 × Hp) (hb : b_91_59   h = some r) : Rn d 91 59 [some (va_rf v0), some (.int v1), some (.int v2), some (.int v3)] [] h (some (.int r.1), r.2) := by
  unfold b_91_59 at hb
  refine rn_iconst (x := (nI 0)) rfl (by decide) ?_
  exact u_91_60 d hd v0 v1 v2 v3 (nI 0) h _ hb
def b_91_55   (h : Hp) : Option (Int32 × Hp) :=
  b_91_60  (nI 3) h
theorem u_91_55 (d : Nat) (hd : 2 ≤ d) (v0 : Option Nat) (v1 : Int32) (v2 : Int32) (v3 : Int32)  (h : Hp) (r : Int32 × Hp) (hb : b_91_55   h = some r) : Rn d 91 55 [some (va_rf v0), some (.int v1), some (.int v2), some (.int v3)] [] h (some (.int r.1), r.2) := by
  unfold b_91_55 at hb
  refine rn_iconst (x := (nI 3)) rfl (by decide) ?_
  refine rn_goto rfl rfl ?_
  exact u_91_60 d hd v0 v1 v2 v3 (nI 3) h _ hb
def b_91_42 (v0 : Option Nat) (v2 : Int32) (v3 : Int32)  (h : Hp) : Option (Int32 × Hp) :=
  (grd (rC 7 v0 h)).bind fun _ =>
  (f_85 v0 (((nI 10) * v3) + v2) h).bind fun p1 =>
  if p1.1 = 0 then b_91_59   p1.2 else b_91_55   p1.2
theorem u_91_42 (d : Nat) (hd : 2 ≤ d) (v0 : Option Nat) (v1 : Int32) (v2 : Int32) (v3 : Int32)  (h : Hp) (r : Int32 × Hp) (hb : b_91_42 v0 v2 v3  h = some r) : Rn d 91 42 [some (va_rf v0), some (.int v1), some (.int v2), some (.int v3)] [] h (some (.int r.1), r.2) := by
  unfold b_91_42 at hb
  obtain ⟨e, rfl⟩ : ∃ e, d = e + 1 := ⟨d - 1, by omega⟩
  refine rn_aload_n (i := 0) rfl rfl ?_
  refine rn_bipush (x := (nI 10)) rfl (by decide) ?_
  refine rn_iload_n (i := 3) rfl rfl ?_
  refine rn_imul rfl ?_
  refine rn_iload_n (i := 2) rfl rfl ?_
  refine rn_iadd rfl ?_
  obtain ⟨hrc, hb⟩ := grd_spec hb
  obtain ⟨p1, hc, hb⟩ := Option.bind_eq_some_iff.mp hb
  refine Rn.call1 (d := e) (As := [va_rf v0, .int (((nI 10) * v3) + v2)]) (rest := []) rfl rfl rfl (by decide) rfl rfl rfl (bd_rcV hrc rfl) (by decide) (bd_lenC (n := 3) rfl (bd_slR (bd_slI bd_slN)) rfl) (bd_locC (n := 3) rfl (bd_slR (bd_slI bd_slN)) rfl (t_85 e (by omega) v0 (((nI 10) * v3) + v2) h _ hc)) ?_
  refine rn_if_eq rfl rfl (fun hc => ?_) (fun hc => ?_)
  · exact u_91_59 (e + 1) hd v0 v1 v2 v3  p1.2 _ (if_t hb hc)
  · exact u_91_55 (e + 1) hd v0 v1 v2 v3  p1.2 _ (if_f hb hc)
def b_91_40   (h : Hp) : Option (Int32 × Hp) :=
  some ((nI 2), h)
theorem u_91_40 (d : Nat) (hd : 2 ≤ d) (v0 : Option Nat) (v1 : Int32) (v2 : Int32) (v3 : Int32)  (h : Hp) (r : Int32 × Hp) (hb : b_91_40   h = some r) : Rn d 91 40 [some (va_rf v0), some (.int v1), some (.int v2), some (.int v3)] [] h (some (.int r.1), r.2) := by
  unfold b_91_40 at hb
  refine rn_iconst (x := (nI 2)) rfl (by decide) ?_
  obtain rfl := Option.some.inj hb
  exact rn_iret rfl rfl
def b_91_0 (v0 : Option Nat) (v1 : Int32)  (h : Hp) : Option (Int32 × Hp) :=
  (gI 7 3 v0 h).bind fun x1 =>
  (grd (decide (¬ ((nI 10) : Int32) = 0))).bind fun _ =>
  (aI 12 (some 27) v1 h).bind fun x2 =>
  bnd (((x1 - x1 / (nI 10) * (nI 10)) + x2)) fun x3 =>
  (gI 7 3 v0 h).bind fun x4 =>
  (grd (decide (¬ ((nI 10) : Int32) = 0))).bind fun _ =>
  (aI 12 (some 28) v1 h).bind fun x5 =>
  bnd (((x4 / (nI 10)) + x5)) fun x6 =>
  (gQ 7 2 v0 h).bind fun x7 =>
  (grd (rC 4 x7 h)).bind fun _ =>
  (f_51 x7 x3 x6 h).bind fun p8 =>
  if ¬ p8.1 = 0 then b_91_42 v0 x3 x6  p8.2 else b_91_40   p8.2
theorem u_91_0 (d : Nat) (hd : 2 ≤ d) (v0 : Option Nat) (v1 : Int32)  (h : Hp) (r : Int32 × Hp) (hb : b_91_0 v0 v1  h = some r) : Rn d 91 0 [some (va_rf v0), some (.int v1), none, none] [] h (some (.int r.1), r.2) := by
  unfold b_91_0 at hb
  obtain ⟨e, rfl⟩ : ∃ e, d = e + 1 := ⟨d - 1, by omega⟩
  refine rn_aload_n (i := 0) rfl rfl ?_
  refine rn_gI (c := 7) (k := 3) rfl (by decide) hb (fun x1 hb => ?_)
  refine rn_bipush (x := (nI 10)) rfl (by decide) ?_
  obtain ⟨hy, hb⟩ := grd_spec hb
  refine rn_irem rfl (of_decide_eq_true hy) ?_
  refine rn_getstatic rfl ?_
  refine rn_iload_n (i := 1) rfl rfl ?_
  refine rn_aI rfl hb (fun x2 hb => ?_)
  refine rn_iadd rfl ?_
  obtain ⟨x3, ex3, hb⟩ := bnd_spec hb
  refine rn_istore_n (i := 2) (L1 := [some (va_rf v0), some (.int v1), some (.int x3), none]) rfl (Nat.le_of_ble_eq_true rfl) (Or.inr rfl) (by rw [ex3]; rfl) ?_
  refine rn_aload_n (i := 0) rfl rfl ?_
  refine rn_gI (c := 7) (k := 3) rfl (by decide) hb (fun x4 hb => ?_)
  refine rn_bipush (x := (nI 10)) rfl (by decide) ?_
  obtain ⟨hy, hb⟩ := grd_spec hb
  refine rn_idiv rfl (of_decide_eq_true hy) ?_
  refine rn_getstatic rfl ?_
  refine rn_iload_n (i := 1) rfl rfl ?_
  refine rn_aI rfl hb (fun x5 hb => ?_)
  refine rn_iadd rfl ?_
  obtain ⟨x6, ex6, hb⟩ := bnd_spec hb
  refine rn_istore_n (i := 3) (L1 := [some (va_rf v0), some (.int v1), some (.int x3), some (.int x6)]) rfl (Nat.le_of_ble_eq_true rfl) (Or.inr rfl) (by rw [ex6]; rfl) ?_
  refine rn_aload_n (i := 0) rfl rfl ?_
  refine rn_gQ (c := 7) (k := 2) rfl (by decide) hb (fun x7 hb => ?_)
  refine rn_iload_n (i := 2) rfl rfl ?_
  refine rn_iload_n (i := 3) rfl rfl ?_
  obtain ⟨hrc, hb⟩ := grd_spec hb
  obtain ⟨p8, hc, hb⟩ := Option.bind_eq_some_iff.mp hb
  refine Rn.call1 (d := e) (As := [va_rf x7, .int x3, .int x6]) (rest := []) rfl rfl rfl (by decide) rfl rfl rfl (bd_rcV hrc rfl) (by decide) (bd_lenC (n := 4) rfl (bd_slR (bd_slI (bd_slI bd_slN))) rfl) (bd_locC (n := 4) rfl (bd_slR (bd_slI (bd_slI bd_slN))) rfl (t_51 e (by omega) x7 x3 x6 h _ hc)) ?_
  refine rn_if_ne rfl rfl (fun hc => ?_) (fun hc => ?_)
  · exact u_91_42 (e + 1) hd v0 v1 x3 x6  p8.2 _ (if_t hb hc)
  · exact u_91_40 (e + 1) hd v0 v1 x3 x6  p8.2 _ (if_f hb hc)
/-- BitingDoors$Scene.knockOfStep(I)I -/
def f_91 (v0 : Option Nat) (v1 : Int32) (h : Hp) : Option (Int32 × Hp) := b_91_0 v0 v1 h
theorem t_91 (d : Nat) (hd : 2 ≤ d) (v0 : Option Nat) (v1 : Int32) (h : Hp) (r : Int32 × Hp) (hb : f_91 v0 v1 h = some r) : Rn d 91 0 [some (va_rf v0), some (.int v1), none, none] [] h (some (.int r.1), r.2) := by
  unfold f_91 at hb
  exact u_91_0 d hd v0 v1 h r hb
def b_93_155   (h : Hp) : Option (Int32 × Hp) :=
  (grd (decide ((nI 0) = 0 ∨ (nI 0) = 1))).bind fun _ => some ((nI 0), h)
theorem u_93_155 (d : Nat) (hd : 1 ≤ d) (v0 : Option Nat) (v1 : Int32) (v2 : Int32) (v3 : Option Nat) (v4 : Int32) (v5 : Int32) (v6 : Option (Int32)) (v7 : Option (Int64))  (h : Hp) (r : Int32 × Hp) (hb : b_93_155   h = some r) : Rn d 93 155 [some (va_rf v0), some (.int v1), some (.int v2), some (va_rf v3), some (.int v4), some (.int v5), v6.map Value.int, v7.map Value.long, none] [] h (some (.int r.1), r.2) := by
  unfold b_93_155 at hb
  refine rn_iconst (x := (nI 0)) rfl (by decide) ?_
  obtain ⟨hz, hb⟩ := grd_spec hb
  obtain rfl := Option.some.inj hb
  exact rn_zret rfl rfl (of_decide_eq_true hz)
def b_93_149 (k52 : Option Nat → Int32 → Option Nat → Int32 → Int32 → Hp → Option (Int32 × Hp)) (v0 : Option Nat) (v1 : Int32) (v3 : Option Nat) (v4 : Int32) (v5 : Int32)  (h : Hp) : Option (Int32 × Hp) :=
  bnd (v5 + (nI 1)) fun x1 =>
  k52 v0 v1 v3 v4 x1 h
theorem u_93_149 (d : Nat) (hd : 1 ≤ d) (k52 : Option Nat → Int32 → Option Nat → Int32 → Int32 → Hp → Option (Int32 × Hp)) (K52 : ∀ (v0 : Option Nat) (v1 : Int32) (v2 : Int32) (v3 : Option Nat) (v4 : Int32) (v5 : Int32) (v6 : Option (Int32)) (v7 : Option (Int64)) (h : Hp) (r : Int32 × Hp), k52 v0 v1 v3 v4 v5 h = some r → Rn d 93 52 [some (va_rf v0), some (.int v1), some (.int v2), some (va_rf v3), some (.int v4), some (.int v5), v6.map Value.int, v7.map Value.long, none] [] h (some (.int r.1), r.2)) (v0 : Option Nat) (v1 : Int32) (v2 : Int32) (v3 : Option Nat) (v4 : Int32) (v5 : Int32) (v6 : Int32) (v7 : Int64)  (h : Hp) (r : Int32 × Hp) (hb : b_93_149 k52 v0 v1 v3 v4 v5  h = some r) : Rn d 93 149 [some (va_rf v0), some (.int v1), some (.int v2), some (va_rf v3), some (.int v4), some (.int v5), some (.int v6), some (.long v7), none] [] h (some (.int r.1), r.2) := by
  unfold b_93_149 at hb
  obtain ⟨x1, ex1, hb⟩ := bnd_spec hb
  refine rn_iinc (i := 5) (y := x1) (L1 := [some (va_rf v0), some (.int v1), some (.int v2), some (va_rf v3), some (.int v4), some (.int x1), some (.int v6), some (.long v7), none]) rfl rfl (Nat.le_of_ble_eq_true rfl) (Or.inr rfl) (by rw [ex1]; rfl) rfl ?_
  refine rn_goto rfl rfl ?_
  exact K52 v0 v1 v2 v3 v4 x1 (some v6) (some v7) h _ hb
def b_93_147   (h : Hp) : Option (Int32 × Hp) :=
  (grd (decide ((nI 1) = 0 ∨ (nI 1) = 1))).bind fun _ => some ((nI 1), h)
theorem u_93_147 (d : Nat) (hd : 1 ≤ d) (v0 : Option Nat) (v1 : Int32) (v2 : Int32) (v3 : Option Nat) (v4 : Int32) (v5 : Int32) (v6 : Int32) (v7 : Int64)  (h : Hp) (r : Int32 × Hp) (hb : b_93_147   h = some r) : Rn d 93 147 [some (va_rf v0), some (.int v1), some (.int v2), some (va_rf v3), some (.int v4), some (.int v5), some (.int v6), some (.long v7), none] [] h (some (.int r.1), r.2) := by
  unfold b_93_147 at hb
  refine rn_iconst (x := (nI 1)) rfl (by decide) ?_
  obtain ⟨hz, hb⟩ := grd_spec hb
  obtain rfl := Option.some.inj hb
  exact rn_zret rfl rfl (of_decide_eq_true hz)
def b_93_140 (k52 : Option Nat → Int32 → Option Nat → Int32 → Int32 → Hp → Option (Int32 × Hp)) (v0 : Option Nat) (v1 : Int32) (v3 : Option Nat) (v4 : Int32) (v5 : Int32) (v7 : Int64)  (h : Hp) : Option (Int32 × Hp) :=
  if (lg_cmp v7 (lN 0)) = 0 then b_93_149 k52 v0 v1 v3 v4 v5  h else b_93_147   h
theorem u_93_140 (d : Nat) (hd : 1 ≤ d) (k52 : Option Nat → Int32 → Option Nat → Int32 → Int32 → Hp → Option (Int32 × Hp)) (K52 : ∀ (v0 : Option Nat) (v1 : Int32) (v2 : Int32) (v3 : Option Nat) (v4 : Int32) (v5 : Int32) (v6 : Option (Int32)) (v7 : Option (Int64)) (h : Hp) (r : Int32 × Hp), k52 v0 v1 v3 v4 v5 h = some r → Rn d 93 52 [some (va_rf v0), some (.int v1), some (.int v2), some (va_rf v3), some (.int v4), some (.int v5), v6.map Value.int, v7.map Value.long, none] [] h (some (.int r.1), r.2)) (v0 : Option Nat) (v1 : Int32) (v2 : Int32) (v3 : Option Nat) (v4 : Int32) (v5 : Int32) (v6 : Int32) (v7 : Int64)  (h : Hp) (r : Int32 × Hp) (hb : b_93_140 k52 v0 v1 v3 v4 v5 v7  h = some r) : Rn d 93 140 [some (va_rf v0), some (.int v1), some (.int v2), some (va_rf v3), some (.int v4), some (.int v5), some (.int v6), some (.long v7), none] [] h (some (.int r.1), r.2) := by
  unfold b_93_140 at hb
  refine rn_lload (i := 7) rfl rfl ?_
  refine rn_lconst (x := (lN 0)) rfl (by decide) ?_
  refine rn_lcmp rfl ?_
  refine rn_if_eq rfl rfl (fun hc => ?_) (fun hc => ?_)
  · exact u_93_149 d hd k52 K52 v0 v1 v2 v3 v4 v5 v6 v7  h _ (if_t hb hc)
  · exact u_93_147 d hd v0 v1 v2 v3 v4 v5 v6 v7  h _ (if_f hb hc)
def b_93_64 (k52 : Option Nat → Int32 → Option Nat → Int32 → Int32 → Hp → Option (Int32 × Hp)) (v0 : Option Nat) (v1 : Int32) (v3 : Option Nat) (v4 : Int32) (v5 : Int32)  (h : Hp) : Option (Int32 × Hp) :=
  (gQ 7 0 v0 h).bind fun x1 =>
  (aI 12 x1 v5 h).bind fun x2 =>
  (gQ 7 1 v0 h).bind fun x3 =>
  (aI 12 x3 v5 h).bind fun x4 =>
  bnd ((((nI 3) * x2) + x4)) fun x5 =>
  (gQ 1 0 v3 h).bind fun x6 =>
  (aJ x6 v4 h).bind fun x7 =>
  (gQ 7 2 v0 h).bind fun x8 =>
  (gQ 4 1 x8 h).bind fun x9 =>
  (aQ x9 v5 h).bind fun x10 =>
  (gQ 1 0 x10 h).bind fun x11 =>
  (aJ x11 x5 h).bind fun x12 =>
  (gQ 1 1 v3 h).bind fun x13 =>
  (aJ x13 v4 h).bind fun x14 =>
  (gQ 7 2 v0 h).bind fun x15 =>
  (gQ 4 1 x15 h).bind fun x16 =>
  (aQ x16 v5 h).bind fun x17 =>
  (gQ 1 1 x17 h).bind fun x18 =>
  (aJ x18 x5 h).bind fun x19 =>
  bnd (((x7 &&& x12) ||| (x14 &&& x19))) fun x20 =>
  if v5 = v1 then b_93_149 k52 v0 v1 v3 v4 v5  h else b_93_140 k52 v0 v1 v3 v4 v5 x20  h
theorem u_93_64 (d : Nat) (hd : 1 ≤ d) (k52 : Option Nat → Int32 → Option Nat → Int32 → Int32 → Hp → Option (Int32 × Hp)) (K52 : ∀ (v0 : Option Nat) (v1 : Int32) (v2 : Int32) (v3 : Option Nat) (v4 : Int32) (v5 : Int32) (v6 : Option (Int32)) (v7 : Option (Int64)) (h : Hp) (r : Int32 × Hp), k52 v0 v1 v3 v4 v5 h = some r → Rn d 93 52 [some (va_rf v0), some (.int v1), some (.int v2), some (va_rf v3), some (.int v4), some (.int v5), v6.map Value.int, v7.map Value.long, none] [] h (some (.int r.1), r.2)) (v0 : Option Nat) (v1 : Int32) (v2 : Int32) (v3 : Option Nat) (v4 : Int32) (v5 : Int32) (v6 : Option (Int32)) (v7 : Option (Int64))  (h : Hp) (r : Int32 × Hp) (hb : b_93_64 k52 v0 v1 v3 v4 v5  h = some r) : Rn d 93 64 [some (va_rf v0), some (.int v1), some (.int v2), some (va_rf v3), some (.int v4), some (.int v5), v6.map Value.int, v7.map Value.long, none] [] h (some (.int r.1), r.2) := by
  unfold b_93_64 at hb
  refine rn_iconst (x := (nI 3)) rfl (by decide) ?_
  refine rn_aload_n (i := 0) rfl rfl ?_
  refine rn_gQ (c := 7) (k := 0) rfl (by decide) hb (fun x1 hb => ?_)
  refine rn_iload (i := 5) rfl rfl ?_
  refine rn_aI rfl hb (fun x2 hb => ?_)
  refine rn_imul rfl ?_
  refine rn_aload_n (i := 0) rfl rfl ?_
  refine rn_gQ (c := 7) (k := 1) rfl (by decide) hb (fun x3 hb => ?_)
  refine rn_iload (i := 5) rfl rfl ?_
  refine rn_aI rfl hb (fun x4 hb => ?_)
  refine rn_iadd rfl ?_
  obtain ⟨x5, ex5, hb⟩ := bnd_spec hb
  refine rn_istore (i := 6) (L1 := [some (va_rf v0), some (.int v1), some (.int v2), some (va_rf v3), some (.int v4), some (.int v5), some (.int x5), v7.map Value.long, none]) rfl (Nat.le_of_ble_eq_true rfl) (Or.inr rfl) (by rw [ex5]; rfl) ?_
  refine rn_aload_n (i := 3) rfl rfl ?_
  refine rn_gQ (c := 1) (k := 0) rfl (by decide) hb (fun x6 hb => ?_)
  refine rn_iload (i := 4) rfl rfl ?_
  refine rn_aJ rfl hb (fun x7 hb => ?_)
  refine rn_aload_n (i := 0) rfl rfl ?_
  refine rn_gQ (c := 7) (k := 2) rfl (by decide) hb (fun x8 hb => ?_)
  refine rn_gQ (c := 4) (k := 1) rfl (by decide) hb (fun x9 hb => ?_)
  refine rn_iload (i := 5) rfl rfl ?_
  refine rn_aQ rfl hb (fun x10 hb => ?_)
  refine rn_gQ (c := 1) (k := 0) rfl (by decide) hb (fun x11 hb => ?_)
  refine rn_iload (i := 6) rfl rfl ?_
  refine rn_aJ rfl hb (fun x12 hb => ?_)
  refine rn_land rfl ?_
  refine rn_aload_n (i := 3) rfl rfl ?_
  refine rn_gQ (c := 1) (k := 1) rfl (by decide) hb (fun x13 hb => ?_)
  refine rn_iload (i := 4) rfl rfl ?_
  refine rn_aJ rfl hb (fun x14 hb => ?_)
  refine rn_aload_n (i := 0) rfl rfl ?_
  refine rn_gQ (c := 7) (k := 2) rfl (by decide) hb (fun x15 hb => ?_)
  refine rn_gQ (c := 4) (k := 1) rfl (by decide) hb (fun x16 hb => ?_)
  refine rn_iload (i := 5) rfl rfl ?_
  refine rn_aQ rfl hb (fun x17 hb => ?_)
  refine rn_gQ (c := 1) (k := 1) rfl (by decide) hb (fun x18 hb => ?_)
  refine rn_iload (i := 6) rfl rfl ?_
  refine rn_aJ rfl hb (fun x19 hb => ?_)
  refine rn_land rfl ?_
  refine rn_lor rfl ?_
  obtain ⟨x20, ex20, hb⟩ := bnd_spec hb
  refine rn_lstore (i := 7) (L1 := [some (va_rf v0), some (.int v1), some (.int v2), some (va_rf v3), some (.int v4), some (.int v5), some (.int x5), some (.long x20), none]) rfl (Nat.le_of_ble_eq_true rfl) (Or.inr rfl) (by rw [ex20]; rfl) ?_
  refine rn_iload (i := 5) rfl rfl ?_
  refine rn_iload_n (i := 1) rfl rfl ?_
  refine rn_icmp_eq rfl rfl (fun hc => ?_) (fun hc => ?_)
  · exact u_93_149 d hd k52 K52 v0 v1 v2 v3 v4 v5 x5 x20  h _ (if_t hb hc)
  · exact u_93_140 d hd k52 K52 v0 v1 v2 v3 v4 v5 x5 x20  h _ (if_f hb hc)
def b_93_52 (k52 : Option Nat → Int32 → Option Nat → Int32 → Int32 → Hp → Option (Int32 × Hp)) (v0 : Option Nat) (v1 : Int32) (v3 : Option Nat) (v4 : Int32) (v5 : Int32)  (h : Hp) : Option (Int32 × Hp) :=
  (gQ 7 2 v0 h).bind fun x1 =>
  (gI 4 5 x1 h).bind fun x2 =>
  if x2 ≤ v5 then b_93_155   h else b_93_64 k52 v0 v1 v3 v4 v5  h
theorem u_93_52 (d : Nat) (hd : 1 ≤ d) (k52 : Option Nat → Int32 → Option Nat → Int32 → Int32 → Hp → Option (Int32 × Hp)) (K52 : ∀ (v0 : Option Nat) (v1 : Int32) (v2 : Int32) (v3 : Option Nat) (v4 : Int32) (v5 : Int32) (v6 : Option (Int32)) (v7 : Option (Int64)) (h : Hp) (r : Int32 × Hp), k52 v0 v1 v3 v4 v5 h = some r → Rn d 93 52 [some (va_rf v0), some (.int v1), some (.int v2), some (va_rf v3), some (.int v4), some (.int v5), v6.map Value.int, v7.map Value.long, none] [] h (some (.int r.1), r.2)) (v0 : Option Nat) (v1 : Int32) (v2 : Int32) (v3 : Option Nat) (v4 : Int32) (v5 : Int32) (v6 : Option (Int32)) (v7 : Option (Int64))  (h : Hp) (r : Int32 × Hp) (hb : b_93_52 k52 v0 v1 v3 v4 v5  h = some r) : Rn d 93 52 [some (va_rf v0), some (.int v1), some (.int v2), some (va_rf v3), some (.int v4), some (.int v5), v6.map Value.int, v7.map Value.long, none] [] h (some (.int r.1), r.2) := by
  unfold b_93_52 at hb
  refine rn_iload (i := 5) rfl rfl ?_
  refine rn_aload_n (i := 0) rfl rfl ?_
  refine rn_gQ (c := 7) (k := 2) rfl (by decide) hb (fun x1 hb => ?_)
  refine rn_gI (c := 4) (k := 5) rfl (by decide) hb (fun x2 hb => ?_)
  refine rn_icmp_ge rfl rfl (fun hc => ?_) (fun hc => ?_)
  · exact u_93_155 d hd v0 v1 v2 v3 v4 v5 v6 v7  h _ (if_t hb hc)
  · exact u_93_64 d hd k52 K52 v0 v1 v2 v3 v4 v5 v6 v7  h _ (if_f hb hc)
def l_93_52 : Nat → Option Nat → Int32 → Option Nat → Int32 → Int32 → Hp → Option (Int32 × Hp)
  | 0, _, _, _, _, _, _ => none
  | n + 1, v0, v1, v3, v4, v5, h => b_93_52 (l_93_52 n) v0 v1 v3 v4 v5 h
theorem w_93_52 (d : Nat) (hd : 1 ≤ d) : ∀ (n : Nat) (v0 : Option Nat) (v1 : Int32) (v2 : Int32) (v3 : Option Nat) (v4 : Int32) (v5 : Int32) (v6 : Option (Int32)) (v7 : Option (Int64)) (h : Hp) (r : Int32 × Hp), l_93_52 n v0 v1 v3 v4 v5 h = some r → Rn d 93 52 [some (va_rf v0), some (.int v1), some (.int v2), some (va_rf v3), some (.int v4), some (.int v5), v6.map Value.int, v7.map Value.long, none] [] h (some (.int r.1), r.2) := by
  intro n
  induction n with
  | zero => intro v0 v1 v2 v3 v4 v5 v6 v7 h r hb; cases hb
  | succ n ih => intro v0 v1 v2 v3 v4 v5 v6 v7 h r hb; exact u_93_52 d hd (l_93_52 n) ih v0 v1 v2 v3 v4 v5 v6 v7 h r hb
def b_93_37 (v0 : Option Nat) (v1 : Int32) (v2 : Int32) (v3 : Option Nat)  (h : Hp) : Option (Int32 × Hp) :=
  (gQ 7 0 v0 h).bind fun x1 =>
  (aI 12 x1 v1 h).bind fun x2 =>
  bnd ((((nI 3) * x2) + v2)) fun x3 =>
  bnd ((nI 0)) fun x4 =>
  l_93_52 FU v0 v1 v3 x3 x4 h
theorem u_93_37 (d : Nat) (hd : 1 ≤ d) (v0 : Option Nat) (v1 : Int32) (v2 : Int32) (v3 : Option Nat)  (h : Hp) (r : Int32 × Hp) (hb : b_93_37 v0 v1 v2 v3  h = some r) : Rn d 93 37 [some (va_rf v0), some (.int v1), some (.int v2), some (va_rf v3), none, none, none, none, none] [] h (some (.int r.1), r.2) := by
  unfold b_93_37 at hb
  refine rn_iconst (x := (nI 3)) rfl (by decide) ?_
  refine rn_aload_n (i := 0) rfl rfl ?_
  refine rn_gQ (c := 7) (k := 0) rfl (by decide) hb (fun x1 hb => ?_)
  refine rn_iload_n (i := 1) rfl rfl ?_
  refine rn_aI rfl hb (fun x2 hb => ?_)
  refine rn_imul rfl ?_
  refine rn_iload_n (i := 2) rfl rfl ?_
  refine rn_iadd rfl ?_
  obtain ⟨x3, ex3, hb⟩ := bnd_spec hb
  refine rn_istore (i := 4) (L1 := [some (va_rf v0), some (.int v1), some (.int v2), some (va_rf v3), some (.int x3), none, none, none, none]) rfl (Nat.le_of_ble_eq_true rfl) (Or.inr (bd_wideR rfl)) (by rw [ex3]; rfl) ?_
  refine rn_iconst (x := (nI 0)) rfl (by decide) ?_
  obtain ⟨x4, ex4, hb⟩ := bnd_spec hb
  refine rn_istore (i := 5) (L1 := [some (va_rf v0), some (.int v1), some (.int v2), some (va_rf v3), some (.int x3), some (.int x4), none, none, none]) rfl (Nat.le_of_ble_eq_true rfl) (Or.inr rfl) (by rw [ex4]; rfl) ?_
  exact w_93_52 d hd FU v0 v1 v2 v3 x3 x4 (none : Option (Int32)) (none : Option (Int64)) h _ hb
def b_93_35   (h : Hp) : Option (Int32 × Hp) :=
  (grd (decide ((nI 1) = 0 ∨ (nI 1) = 1))).bind fun _ => some ((nI 1), h)
theorem u_93_35 (d : Nat) (hd : 1 ≤ d) (v0 : Option Nat) (v1 : Int32) (v2 : Int32) (v3 : Option Nat)  (h : Hp) (r : Int32 × Hp) (hb : b_93_35   h = some r) : Rn d 93 35 [some (va_rf v0), some (.int v1), some (.int v2), some (va_rf v3), none, none, none, none, none] [] h (some (.int r.1), r.2) := by
  unfold b_93_35 at hb
  refine rn_iconst (x := (nI 1)) rfl (by decide) ?_
  obtain ⟨hz, hb⟩ := grd_spec hb
  obtain rfl := Option.some.inj hb
  exact rn_zret rfl rfl (of_decide_eq_true hz)
def b_93_17 (v0 : Option Nat) (v1 : Int32) (v2 : Int32) (v3 : Option Nat)  (h : Hp) : Option (Int32 × Hp) :=
  (gQ 7 0 v0 h).bind fun x1 =>
  (aI 12 x1 v1 h).bind fun x2 =>
  (gI 7 3 v0 h).bind fun x3 =>
  (grd (rC 1 v3 h)).bind fun _ =>
  (f_15 v3 x2 v2 x3 h).bind fun p4 =>
  if p4.1 = 0 then b_93_37 v0 v1 v2 v3  p4.2 else b_93_35   p4.2
theorem u_93_17 (d : Nat) (hd : 1 ≤ d) (v0 : Option Nat) (v1 : Int32) (v2 : Int32) (v3 : Option Nat)  (h : Hp) (r : Int32 × Hp) (hb : b_93_17 v0 v1 v2 v3  h = some r) : Rn d 93 17 [some (va_rf v0), some (.int v1), some (.int v2), some (va_rf v3), none, none, none, none, none] [] h (some (.int r.1), r.2) := by
  unfold b_93_17 at hb
  obtain ⟨e, rfl⟩ : ∃ e, d = e + 1 := ⟨d - 1, by omega⟩
  refine rn_aload_n (i := 3) rfl rfl ?_
  refine rn_aload_n (i := 0) rfl rfl ?_
  refine rn_gQ (c := 7) (k := 0) rfl (by decide) hb (fun x1 hb => ?_)
  refine rn_iload_n (i := 1) rfl rfl ?_
  refine rn_aI rfl hb (fun x2 hb => ?_)
  refine rn_iload_n (i := 2) rfl rfl ?_
  refine rn_aload_n (i := 0) rfl rfl ?_
  refine rn_gI (c := 7) (k := 3) rfl (by decide) hb (fun x3 hb => ?_)
  obtain ⟨hrc, hb⟩ := grd_spec hb
  obtain ⟨p4, hc, hb⟩ := Option.bind_eq_some_iff.mp hb
  refine Rn.call1 (d := e) (As := [va_rf v3, .int x2, .int v2, .int x3]) (rest := []) rfl rfl rfl (by decide) rfl rfl rfl (bd_rcV hrc rfl) (by decide) (bd_lenC (n := 6) rfl (bd_slR (bd_slI (bd_slI (bd_slI bd_slN)))) rfl) (bd_locC (n := 6) rfl (bd_slR (bd_slI (bd_slI (bd_slI bd_slN)))) rfl (t_15 e (by omega) v3 x2 v2 x3 h _ hc)) ?_
  refine rn_if_eq rfl rfl (fun hc => ?_) (fun hc => ?_)
  · exact u_93_37 (e + 1) hd v0 v1 v2 v3  p4.2 _ (if_t hb hc)
  · exact u_93_35 (e + 1) hd v0 v1 v2 v3  p4.2 _ (if_f hb hc)
def b_93_0 (v0 : Option Nat) (v1 : Int32) (v2 : Int32)  (h : Hp) : Option (Int32 × Hp) :=
  (gQ 7 2 v0 h).bind fun x1 =>
  (gQ 4 1 x1 h).bind fun x2 =>
  (aQ x2 v1 h).bind fun x3 =>
  (gI 7 3 v0 h).bind fun x4 =>
  if x4 < 0 then b_93_37 v0 v1 v2 x3  h else b_93_17 v0 v1 v2 x3  h
theorem u_93_0 (d : Nat) (hd : 1 ≤ d) (v0 : Option Nat) (v1 : Int32) (v2 : Int32)  (h : Hp) (r : Int32 × Hp) (hb : b_93_0 v0 v1 v2  h = some r) : Rn d 93 0 [some (va_rf v0), some (.int v1), some (.int v2), none, none, none, none, none, none] [] h (some (.int r.1), r.2) := by
  unfold b_93_0 at hb
  refine rn_aload_n (i := 0) rfl rfl ?_
  refine rn_gQ (c := 7) (k := 2) rfl (by decide) hb (fun x1 hb => ?_)
  refine rn_gQ (c := 4) (k := 1) rfl (by decide) hb (fun x2 hb => ?_)
  refine rn_iload_n (i := 1) rfl rfl ?_
  refine rn_aQ rfl hb (fun x3 hb => ?_)
  refine rn_astore_n (i := 3) (L1 := [some (va_rf v0), some (.int v1), some (.int v2), some (va_rf x3), none, none, none, none, none]) rfl (Nat.le_of_ble_eq_true rfl) (Or.inr rfl) rfl ?_
  refine rn_aload_n (i := 0) rfl rfl ?_
  refine rn_gI (c := 7) (k := 3) rfl (by decide) hb (fun x4 hb => ?_)
  refine rn_if_lt rfl rfl (fun hc => ?_) (fun hc => ?_)
  · exact u_93_37 d hd v0 v1 v2 x3  h _ (if_t hb hc)
  · exact u_93_17 d hd v0 v1 v2 x3  h _ (if_f hb hc)
/-- BitingDoors$Scene.isInTheWay(II)Z -/
def f_93 (v0 : Option Nat) (v1 : Int32) (v2 : Int32) (h : Hp) : Option (Int32 × Hp) := b_93_0 v0 v1 v2 h
theorem t_93 (d : Nat) (hd : 1 ≤ d) (v0 : Option Nat) (v1 : Int32) (v2 : Int32) (h : Hp) (r : Int32 × Hp) (hb : f_93 v0 v1 v2 h = some r) : Rn d 93 0 [some (va_rf v0), some (.int v1), some (.int v2), none, none, none, none, none, none] [] h (some (.int r.1), r.2) := by
  unfold f_93 at hb
  exact u_93_0 d hd v0 v1 v2 h r hb
def b_92_9   (h : Hp) : Option (Int32 × Hp) :=
  some ((nI 5), h)
theorem u_92_9 (d : Nat) (hd : 2 ≤ d) (v0 : Option Nat) (v1 : Int32) (v2 : Int32)  (h : Hp) (r : Int32 × Hp) (hb : b_92_9   h = some r) : Rn d 92 9 [some (va_rf v0), some (.int v1), some (.int v2)] [] h (some (.int r.1), r.2) := by
  unfold b_92_9 at hb
  refine rn_iconst (x := (nI 5)) rfl (by decide) ?_
  obtain rfl := Option.some.inj hb
  exact rn_iret rfl rfl
def b_92_51  (s0 : Int32) (h : Hp) : Option (Int32 × Hp) :=
  some (s0, h)
theorem u_92_51 (d : Nat) (hd : 2 ≤ d) (v0 : Option Nat) (v1 : Int32) (v2 : Int32) (s0 : Int32) (h : Hp) (r : Int32 × Hp) (hb : b_92_51  s0 h = some r) : Rn d 92 51 [some (va_rf v0), some (.int v1), some (.int v2)] [.int s0] h (some (.int r.1), r.2) := by
  unfold b_92_51 at hb
  obtain rfl := Option.some.inj hb
  exact rn_iret rfl rfl
def b_92_50   (h : Hp) : Option (Int32 × Hp) :=
  b_92_51  (nI 0) h
theorem u_92_50 (d : Nat) (hd : 2 ≤ d) (v0 : Option Nat) (v1 : Int32) (v2 : Int32)  (h : Hp) (r : Int32 × Hp) (hb : b_92_50   h = some r) : Rn d 92 50 [some (va_rf v0), some (.int v1), some (.int v2)] [] h (some (.int r.1), r.2) := by
  unfold b_92_50 at hb
  refine rn_iconst (x := (nI 0)) rfl (by decide) ?_
  exact u_92_51 d hd v0 v1 v2 (nI 0) h _ hb
def b_92_45   (h : Hp) : Option (Int32 × Hp) :=
  b_92_51  (nI 7) h
theorem u_92_45 (d : Nat) (hd : 2 ≤ d) (v0 : Option Nat) (v1 : Int32) (v2 : Int32)  (h : Hp) (r : Int32 × Hp) (hb : b_92_45   h = some r) : Rn d 92 45 [some (va_rf v0), some (.int v1), some (.int v2)] [] h (some (.int r.1), r.2) := by
  unfold b_92_45 at hb
  refine rn_bipush (x := (nI 7)) rfl (by decide) ?_
  refine rn_goto rfl rfl ?_
  exact u_92_51 d hd v0 v1 v2 (nI 7) h _ hb
def b_92_36 (v0 : Option Nat) (v1 : Int32) (v2 : Int32)  (h : Hp) : Option (Int32 × Hp) :=
  (grd (rC 7 v0 h)).bind fun _ =>
  (f_93 v0 v1 v2 h).bind fun p1 =>
  if p1.1 = 0 then b_92_50   p1.2 else b_92_45   p1.2
theorem u_92_36 (d : Nat) (hd : 2 ≤ d) (v0 : Option Nat) (v1 : Int32) (v2 : Int32)  (h : Hp) (r : Int32 × Hp) (hb : b_92_36 v0 v1 v2  h = some r) : Rn d 92 36 [some (va_rf v0), some (.int v1), some (.int v2)] [] h (some (.int r.1), r.2) := by
  unfold b_92_36 at hb
  obtain ⟨e, rfl⟩ : ∃ e, d = e + 1 := ⟨d - 1, by omega⟩
  refine rn_aload_n (i := 0) rfl rfl ?_
  refine rn_iload_n (i := 1) rfl rfl ?_
  refine rn_iload_n (i := 2) rfl rfl ?_
  obtain ⟨hrc, hb⟩ := grd_spec hb
  obtain ⟨p1, hc, hb⟩ := Option.bind_eq_some_iff.mp hb
  refine Rn.call1 (d := e) (As := [va_rf v0, .int v1, .int v2]) (rest := []) rfl rfl rfl (by decide) rfl rfl rfl (bd_rcV hrc rfl) (by decide) (bd_lenC (n := 9) rfl (bd_slR (bd_slI (bd_slI bd_slN))) rfl) (bd_locC (n := 9) rfl (bd_slR (bd_slI (bd_slI bd_slN))) rfl (t_93 e (by omega) v0 v1 v2 h _ hc)) ?_
  refine rn_if_eq rfl rfl (fun hc => ?_) (fun hc => ?_)
  · exact u_92_50 (e + 1) hd v0 v1 v2  p1.2 _ (if_t hb hc)
  · exact u_92_45 (e + 1) hd v0 v1 v2  p1.2 _ (if_f hb hc)
def b_92_33   (h : Hp) : Option (Int32 × Hp) :=
  some ((nI 6), h)
theorem u_92_33 (d : Nat) (hd : 2 ≤ d) (v0 : Option Nat) (v1 : Int32) (v2 : Int32)  (h : Hp) (r : Int32 × Hp) (hb : b_92_33   h = some r) : Rn d 92 33 [some (va_rf v0), some (.int v1), some (.int v2)] [] h (some (.int r.1), r.2) := by
  unfold b_92_33 at hb
  refine rn_bipush (x := (nI 6)) rfl (by decide) ?_
  obtain rfl := Option.some.inj hb
  exact rn_iret rfl rfl
def b_92_11 (v0 : Option Nat) (v1 : Int32) (v2 : Int32)  (h : Hp) : Option (Int32 × Hp) :=
  (gQ 7 2 v0 h).bind fun x1 =>
  (gQ 4 1 x1 h).bind fun x2 =>
  (aQ x2 v1 h).bind fun x3 =>
  (gQ 7 0 v0 h).bind fun x4 =>
  (aI 12 x4 v1 h).bind fun x5 =>
  (grd (rC 1 x3 h)).bind fun _ =>
  (f_12 x3 x5 v2 h).bind fun p6 =>
  if ¬ p6.1 = 0 then b_92_36 v0 v1 v2  p6.2 else b_92_33   p6.2
theorem u_92_11 (d : Nat) (hd : 2 ≤ d) (v0 : Option Nat) (v1 : Int32) (v2 : Int32)  (h : Hp) (r : Int32 × Hp) (hb : b_92_11 v0 v1 v2  h = some r) : Rn d 92 11 [some (va_rf v0), some (.int v1), some (.int v2)] [] h (some (.int r.1), r.2) := by
  unfold b_92_11 at hb
  obtain ⟨e, rfl⟩ : ∃ e, d = e + 1 := ⟨d - 1, by omega⟩
  refine rn_aload_n (i := 0) rfl rfl ?_
  refine rn_gQ (c := 7) (k := 2) rfl (by decide) hb (fun x1 hb => ?_)
  refine rn_gQ (c := 4) (k := 1) rfl (by decide) hb (fun x2 hb => ?_)
  refine rn_iload_n (i := 1) rfl rfl ?_
  refine rn_aQ rfl hb (fun x3 hb => ?_)
  refine rn_aload_n (i := 0) rfl rfl ?_
  refine rn_gQ (c := 7) (k := 0) rfl (by decide) hb (fun x4 hb => ?_)
  refine rn_iload_n (i := 1) rfl rfl ?_
  refine rn_aI rfl hb (fun x5 hb => ?_)
  refine rn_iload_n (i := 2) rfl rfl ?_
  obtain ⟨hrc, hb⟩ := grd_spec hb
  obtain ⟨p6, hc, hb⟩ := Option.bind_eq_some_iff.mp hb
  refine Rn.call1 (d := e) (As := [va_rf x3, .int x5, .int v2]) (rest := []) rfl rfl rfl (by decide) rfl rfl rfl (bd_rcV hrc rfl) (by decide) (bd_lenC (n := 3) rfl (bd_slR (bd_slI (bd_slI bd_slN))) rfl) (bd_locC (n := 3) rfl (bd_slR (bd_slI (bd_slI bd_slN))) rfl (t_12 e (by omega) x3 x5 v2 h _ hc)) ?_
  refine rn_if_ne rfl rfl (fun hc => ?_) (fun hc => ?_)
  · exact u_92_36 (e + 1) hd v0 v1 v2  p6.2 _ (if_t hb hc)
  · exact u_92_33 (e + 1) hd v0 v1 v2  p6.2 _ (if_f hb hc)
def b_92_4 (v0 : Option Nat) (v1 : Int32) (v2 : Int32)  (h : Hp) : Option (Int32 × Hp) :=
  if v2 < (nI 3) then b_92_11 v0 v1 v2  h else b_92_9   h
theorem u_92_4 (d : Nat) (hd : 2 ≤ d) (v0 : Option Nat) (v1 : Int32) (v2 : Int32)  (h : Hp) (r : Int32 × Hp) (hb : b_92_4 v0 v1 v2  h = some r) : Rn d 92 4 [some (va_rf v0), some (.int v1), some (.int v2)] [] h (some (.int r.1), r.2) := by
  unfold b_92_4 at hb
  refine rn_iload_n (i := 2) rfl rfl ?_
  refine rn_iconst (x := (nI 3)) rfl (by decide) ?_
  refine rn_icmp_lt rfl rfl (fun hc => ?_) (fun hc => ?_)
  · exact u_92_11 d hd v0 v1 v2  h _ (if_t hb hc)
  · exact u_92_9 d hd v0 v1 v2  h _ (if_f hb hc)
def b_92_0 (v0 : Option Nat) (v1 : Int32) (v2 : Int32)  (h : Hp) : Option (Int32 × Hp) :=
  if v2 < 0 then b_92_9   h else b_92_4 v0 v1 v2  h
theorem u_92_0 (d : Nat) (hd : 2 ≤ d) (v0 : Option Nat) (v1 : Int32) (v2 : Int32)  (h : Hp) (r : Int32 × Hp) (hb : b_92_0 v0 v1 v2  h = some r) : Rn d 92 0 [some (va_rf v0), some (.int v1), some (.int v2)] [] h (some (.int r.1), r.2) := by
  unfold b_92_0 at hb
  refine rn_iload_n (i := 2) rfl rfl ?_
  refine rn_if_lt rfl rfl (fun hc => ?_) (fun hc => ?_)
  · exact u_92_9 d hd v0 v1 v2  h _ (if_t hb hc)
  · exact u_92_4 d hd v0 v1 v2  h _ (if_f hb hc)
/-- BitingDoors$Scene.knockOfSwing(II)I -/
def f_92 (v0 : Option Nat) (v1 : Int32) (v2 : Int32) (h : Hp) : Option (Int32 × Hp) := b_92_0 v0 v1 v2 h
theorem t_92 (d : Nat) (hd : 2 ≤ d) (v0 : Option Nat) (v1 : Int32) (v2 : Int32) (h : Hp) (r : Int32 × Hp) (hb : f_92 v0 v1 v2 h = some r) : Rn d 92 0 [some (va_rf v0), some (.int v1), some (.int v2)] [] h (some (.int r.1), r.2) := by
  unfold f_92 at hb
  exact u_92_0 d hd v0 v1 v2 h r hb
def b_90_55  (s0 : Int32) (h : Hp) : Option (Int32 × Hp) :=
  some (s0, h)
theorem u_90_55 (d : Nat) (hd : 3 ≤ d) (v0 : Option Nat) (v1 : Int32) (s0 : Int32) (h : Hp) (r : Int32 × Hp) (hb : b_90_55  s0 h = some r) : Rn d 90 55 [some (va_rf v0), some (.int v1)] [.int s0] h (some (.int r.1), r.2) := by
  unfold b_90_55 at hb
  obtain rfl := Option.some.inj hb
  exact rn_iret rfl rfl
def b_90_54   (h : Hp) : Option (Int32 × Hp) :=
  b_90_55  (nI 4) h
theorem u_90_54 (d : Nat) (hd : 3 ≤ d) (v0 : Option Nat) (v1 : Int32)  (h : Hp) (r : Int32 × Hp) (hb : b_90_54   h = some r) : Rn d 90 54 [some (va_rf v0), some (.int v1)] [] h (some (.int r.1), r.2) := by
  unfold b_90_54 at hb
  refine rn_iconst (x := (nI 4)) rfl (by decide) ?_
  exact u_90_55 d hd v0 v1 (nI 4) h _ hb
def b_90_38 (v0 : Option Nat) (v1 : Int32)  (h : Hp) : Option (Int32 × Hp) :=
  (f_99 v1 h).bind fun p1 =>
  (grd (rC 7 v0 p1.2)).bind fun _ =>
  (f_98 v0 v1 p1.2).bind fun p2 =>
  (grd (rC 7 v0 p2.2)).bind fun _ =>
  (f_92 v0 p1.1 p2.1 p2.2).bind fun p3 =>
  b_90_55  p3.1 p3.2
theorem u_90_38 (d : Nat) (hd : 3 ≤ d) (v0 : Option Nat) (v1 : Int32)  (h : Hp) (r : Int32 × Hp) (hb : b_90_38 v0 v1  h = some r) : Rn d 90 38 [some (va_rf v0), some (.int v1)] [] h (some (.int r.1), r.2) := by
  unfold b_90_38 at hb
  obtain ⟨e, rfl⟩ : ∃ e, d = e + 1 := ⟨d - 1, by omega⟩
  refine rn_aload_n (i := 0) rfl rfl ?_
  refine rn_iload_n (i := 1) rfl rfl ?_
  obtain ⟨p1, hc, hb⟩ := Option.bind_eq_some_iff.mp hb
  refine Rn.call1 (d := e) (As := [.int v1]) (rest := [va_rf v0]) rfl rfl rfl (by decide) rfl rfl rfl rfl (by rw [bd_cR (bd_cN)]; decide) (bd_lenC (n := 1) rfl (bd_slI bd_slN) rfl) (bd_locC (n := 1) rfl (bd_slI bd_slN) rfl (t_99 e (by omega) v1 h _ hc)) ?_
  refine rn_aload_n (i := 0) rfl rfl ?_
  refine rn_iload_n (i := 1) rfl rfl ?_
  obtain ⟨hrc, hb⟩ := grd_spec hb
  obtain ⟨p2, hc, hb⟩ := Option.bind_eq_some_iff.mp hb
  refine Rn.call1 (d := e) (As := [va_rf v0, .int v1]) (rest := [.int p1.1, va_rf v0]) rfl rfl rfl (by decide) rfl rfl rfl (bd_rcV hrc rfl) (by rw [bd_cI (bd_cR (bd_cN))]; decide) (bd_lenC (n := 2) rfl (bd_slR (bd_slI bd_slN)) rfl) (bd_locC (n := 2) rfl (bd_slR (bd_slI bd_slN)) rfl (t_98 e (by omega) v0 v1 p1.2 _ hc)) ?_
  obtain ⟨hrc, hb⟩ := grd_spec hb
  obtain ⟨p3, hc, hb⟩ := Option.bind_eq_some_iff.mp hb
  refine Rn.call1 (d := e) (As := [va_rf v0, .int p1.1, .int p2.1]) (rest := []) rfl rfl rfl (by decide) rfl rfl rfl (bd_rcV hrc rfl) (by decide) (bd_lenC (n := 3) rfl (bd_slR (bd_slI (bd_slI bd_slN))) rfl) (bd_locC (n := 3) rfl (bd_slR (bd_slI (bd_slI bd_slN))) rfl (t_92 e (by omega) v0 p1.1 p2.1 p2.2 _ hc)) ?_
  refine rn_goto rfl rfl ?_
  exact u_90_55 (e + 1) hd v0 v1 p3.1 p3.2 _ hb
def b_90_27 (v0 : Option Nat) (v1 : Int32)  (h : Hp) : Option (Int32 × Hp) :=
  (f_99 v1 h).bind fun p1 =>
  (grd (rC 7 v0 p1.2)).bind fun _ =>
  (f_87 v0 p1.1 p1.2).bind fun p2 =>
  if p2.1 = 0 then b_90_54   p2.2 else b_90_38 v0 v1  p2.2
theorem u_90_27 (d : Nat) (hd : 3 ≤ d) (v0 : Option Nat) (v1 : Int32)  (h : Hp) (r : Int32 × Hp) (hb : b_90_27 v0 v1  h = some r) : Rn d 90 27 [some (va_rf v0), some (.int v1)] [] h (some (.int r.1), r.2) := by
  unfold b_90_27 at hb
  obtain ⟨e, rfl⟩ : ∃ e, d = e + 1 := ⟨d - 1, by omega⟩
  refine rn_aload_n (i := 0) rfl rfl ?_
  refine rn_iload_n (i := 1) rfl rfl ?_
  obtain ⟨p1, hc, hb⟩ := Option.bind_eq_some_iff.mp hb
  refine Rn.call1 (d := e) (As := [.int v1]) (rest := [va_rf v0]) rfl rfl rfl (by decide) rfl rfl rfl rfl (by rw [bd_cR (bd_cN)]; decide) (bd_lenC (n := 1) rfl (bd_slI bd_slN) rfl) (bd_locC (n := 1) rfl (bd_slI bd_slN) rfl (t_99 e (by omega) v1 h _ hc)) ?_
  obtain ⟨hrc, hb⟩ := grd_spec hb
  obtain ⟨p2, hc, hb⟩ := Option.bind_eq_some_iff.mp hb
  refine Rn.call1 (d := e) (As := [va_rf v0, .int p1.1]) (rest := []) rfl rfl rfl (by decide) rfl rfl rfl (bd_rcV hrc rfl) (by decide) (bd_lenC (n := 9) rfl (bd_slR (bd_slI bd_slN)) rfl) (bd_locC (n := 9) rfl (bd_slR (bd_slI bd_slN)) rfl (t_87 e (by omega) v0 p1.1 p1.2 _ hc)) ?_
  refine rn_if_eq rfl rfl (fun hc => ?_) (fun hc => ?_)
  · exact u_90_54 (e + 1) hd v0 v1  p2.2 _ (if_t hb hc)
  · exact u_90_38 (e + 1) hd v0 v1  p2.2 _ (if_f hb hc)
def b_90_21 (v0 : Option Nat) (v1 : Int32)  (h : Hp) : Option (Int32 × Hp) :=
  (grd (rC 7 v0 h)).bind fun _ =>
  (f_91 v0 v1 h).bind fun p1 =>
  some (p1.1, p1.2)
theorem u_90_21 (d : Nat) (hd : 3 ≤ d) (v0 : Option Nat) (v1 : Int32)  (h : Hp) (r : Int32 × Hp) (hb : b_90_21 v0 v1  h = some r) : Rn d 90 21 [some (va_rf v0), some (.int v1)] [] h (some (.int r.1), r.2) := by
  unfold b_90_21 at hb
  obtain ⟨e, rfl⟩ : ∃ e, d = e + 1 := ⟨d - 1, by omega⟩
  refine rn_aload_n (i := 0) rfl rfl ?_
  refine rn_iload_n (i := 1) rfl rfl ?_
  obtain ⟨hrc, hb⟩ := grd_spec hb
  obtain ⟨p1, hc, hb⟩ := Option.bind_eq_some_iff.mp hb
  refine Rn.call1 (d := e) (As := [va_rf v0, .int v1]) (rest := []) rfl rfl rfl (by decide) rfl rfl rfl (bd_rcV hrc rfl) (by decide) (bd_lenC (n := 4) rfl (bd_slR (bd_slI bd_slN)) rfl) (bd_locC (n := 4) rfl (bd_slR (bd_slI bd_slN)) rfl (t_91 e (by omega) v0 v1 h _ hc)) ?_
  obtain rfl := Option.some.inj hb
  exact rn_iret rfl rfl
def b_90_16 (v0 : Option Nat) (v1 : Int32)  (h : Hp) : Option (Int32 × Hp) :=
  if (nI 4) ≤ v1 then b_90_27 v0 v1  h else b_90_21 v0 v1  h
theorem u_90_16 (d : Nat) (hd : 3 ≤ d) (v0 : Option Nat) (v1 : Int32)  (h : Hp) (r : Int32 × Hp) (hb : b_90_16 v0 v1  h = some r) : Rn d 90 16 [some (va_rf v0), some (.int v1)] [] h (some (.int r.1), r.2) := by
  unfold b_90_16 at hb
  refine rn_iload_n (i := 1) rfl rfl ?_
  refine rn_iconst (x := (nI 4)) rfl (by decide) ?_
  refine rn_icmp_ge rfl rfl (fun hc => ?_) (fun hc => ?_)
  · exact u_90_27 d hd v0 v1  h _ (if_t hb hc)
  · exact u_90_21 d hd v0 v1  h _ (if_f hb hc)
def b_90_14   (h : Hp) : Option (Int32 × Hp) :=
  some ((nI 1), h)
theorem u_90_14 (d : Nat) (hd : 3 ≤ d) (v0 : Option Nat) (v1 : Int32)  (h : Hp) (r : Int32 × Hp) (hb : b_90_14   h = some r) : Rn d 90 14 [some (va_rf v0), some (.int v1)] [] h (some (.int r.1), r.2) := by
  unfold b_90_14 at hb
  refine rn_iconst (x := (nI 1)) rfl (by decide) ?_
  obtain rfl := Option.some.inj hb
  exact rn_iret rfl rfl
def b_90_7 (v0 : Option Nat) (v1 : Int32)  (h : Hp) : Option (Int32 × Hp) :=
  (gI 7 3 v0 h).bind fun x1 =>
  if 0 ≤ x1 then b_90_16 v0 v1  h else b_90_14   h
theorem u_90_7 (d : Nat) (hd : 3 ≤ d) (v0 : Option Nat) (v1 : Int32)  (h : Hp) (r : Int32 × Hp) (hb : b_90_7 v0 v1  h = some r) : Rn d 90 7 [some (va_rf v0), some (.int v1)] [] h (some (.int r.1), r.2) := by
  unfold b_90_7 at hb
  refine rn_aload_n (i := 0) rfl rfl ?_
  refine rn_gI (c := 7) (k := 3) rfl (by decide) hb (fun x1 hb => ?_)
  refine rn_if_ge rfl rfl (fun hc => ?_) (fun hc => ?_)
  · exact u_90_16 d hd v0 v1  h _ (if_t hb hc)
  · exact u_90_14 d hd v0 v1  h _ (if_f hb hc)
def b_90_5   (h : Hp) : Option (Int32 × Hp) :=
  some ((nI 0), h)
theorem u_90_5 (d : Nat) (hd : 3 ≤ d) (v0 : Option Nat) (v1 : Int32)  (h : Hp) (r : Int32 × Hp) (hb : b_90_5   h = some r) : Rn d 90 5 [some (va_rf v0), some (.int v1)] [] h (some (.int r.1), r.2) := by
  unfold b_90_5 at hb
  refine rn_iconst (x := (nI 0)) rfl (by decide) ?_
  obtain rfl := Option.some.inj hb
  exact rn_iret rfl rfl
def b_90_0 (v0 : Option Nat) (v1 : Int32)  (h : Hp) : Option (Int32 × Hp) :=
  if ¬ v1 = (-1 : Int32) then b_90_7 v0 v1  h else b_90_5   h
theorem u_90_0 (d : Nat) (hd : 3 ≤ d) (v0 : Option Nat) (v1 : Int32)  (h : Hp) (r : Int32 × Hp) (hb : b_90_0 v0 v1  h = some r) : Rn d 90 0 [some (va_rf v0), some (.int v1)] [] h (some (.int r.1), r.2) := by
  unfold b_90_0 at hb
  refine rn_iload_n (i := 1) rfl rfl ?_
  refine rn_iconst (x := (-1 : Int32)) rfl (by decide) ?_
  refine rn_icmp_ne rfl rfl (fun hc => ?_) (fun hc => ?_)
  · exact u_90_7 d hd v0 v1  h _ (if_t hb hc)
  · exact u_90_5 d hd v0 v1  h _ (if_f hb hc)
/-- BitingDoors$Scene.knockOf(I)I -/
def f_90 (v0 : Option Nat) (v1 : Int32) (h : Hp) : Option (Int32 × Hp) := b_90_0 v0 v1 h
theorem t_90 (d : Nat) (hd : 3 ≤ d) (v0 : Option Nat) (v1 : Int32) (h : Hp) (r : Int32 × Hp) (hb : f_90 v0 v1 h = some r) : Rn d 90 0 [some (va_rf v0), some (.int v1)] [] h (some (.int r.1), r.2) := by
  unfold f_90 at hb
  exact u_90_0 d hd v0 v1 h r hb
def b_94_49   (h : Hp) : Option (Hp) :=
  some h
theorem u_94_49 (d : Nat) (hd : 2 ≤ d) (v0 : Option Nat) (v1 : Int32)  (h : Hp) (r : Hp) (hb : b_94_49   h = some r) : Rn d 94 49 [some (va_rf v0), some (.int v1)] [] h (none, r) := by
  unfold b_94_49 at hb
  obtain rfl := Option.some.inj hb
  exact rn_vret rfl rfl
def b_94_26 (v0 : Option Nat) (v1 : Int32)  (h : Hp) : Option (Hp) :=
  (gI 7 3 v0 h).bind fun x1 =>
  (aI 12 (some 28) v1 h).bind fun x2 =>
  (aI 12 (some 27) v1 h).bind fun x3 =>
  (pI 7 3 v0 (x1 + (((nI 10) * x2) + x3)) h).bind fun h4 =>
  b_94_49   h4
theorem u_94_26 (d : Nat) (hd : 2 ≤ d) (v0 : Option Nat) (v1 : Int32)  (h : Hp) (r : Hp) (hb : b_94_26 v0 v1  h = some r) : Rn d 94 26 [some (va_rf v0), some (.int v1)] [] h (none, r) := by
  unfold b_94_26 at hb
  refine rn_aload_n (i := 0) rfl rfl ?_
  refine rn_dup rfl (bd_cat_rf _) ?_
  refine rn_gI (c := 7) (k := 3) rfl (by decide) hb (fun x1 hb => ?_)
  refine rn_bipush (x := (nI 10)) rfl (by decide) ?_
  refine rn_getstatic rfl ?_
  refine rn_iload_n (i := 1) rfl rfl ?_
  refine rn_aI rfl hb (fun x2 hb => ?_)
  refine rn_imul rfl ?_
  refine rn_getstatic rfl ?_
  refine rn_iload_n (i := 1) rfl rfl ?_
  refine rn_aI rfl hb (fun x3 hb => ?_)
  refine rn_iadd rfl ?_
  refine rn_iadd rfl ?_
  refine rn_pI (c := 7) (k := 3) rfl (by decide) hb (fun h4 hb => ?_)
  exact u_94_49 d hd v0 v1  h4 _ hb
def b_94_22 (v0 : Option Nat) (v1 : Int32)  (h : Hp) : Option (Hp) :=
  if v1 < 0 then b_94_49   h else b_94_26 v0 v1  h
theorem u_94_22 (d : Nat) (hd : 2 ≤ d) (v0 : Option Nat) (v1 : Int32)  (h : Hp) (r : Hp) (hb : b_94_22 v0 v1  h = some r) : Rn d 94 22 [some (va_rf v0), some (.int v1)] [] h (none, r) := by
  unfold b_94_22 at hb
  refine rn_iload_n (i := 1) rfl rfl ?_
  refine rn_if_lt rfl rfl (fun hc => ?_) (fun hc => ?_)
  · exact u_94_49 d hd v0 v1  h _ (if_t hb hc)
  · exact u_94_26 d hd v0 v1  h _ (if_f hb hc)
def b_94_5 (v0 : Option Nat) (v1 : Int32)  (h : Hp) : Option (Hp) :=
  (gQ 7 1 v0 h).bind fun x1 =>
  (f_99 v1 h).bind fun p2 =>
  (grd (rC 7 v0 p2.2)).bind fun _ =>
  (f_98 v0 v1 p2.2).bind fun p3 =>
  (wI x1 p2.1 p3.1 p3.2).bind fun h4 =>
  b_94_49   h4
theorem u_94_5 (d : Nat) (hd : 2 ≤ d) (v0 : Option Nat) (v1 : Int32)  (h : Hp) (r : Hp) (hb : b_94_5 v0 v1  h = some r) : Rn d 94 5 [some (va_rf v0), some (.int v1)] [] h (none, r) := by
  unfold b_94_5 at hb
  obtain ⟨e, rfl⟩ : ∃ e, d = e + 1 := ⟨d - 1, by omega⟩
  refine rn_aload_n (i := 0) rfl rfl ?_
  refine rn_gQ (c := 7) (k := 1) rfl (by decide) hb (fun x1 hb => ?_)
  refine rn_iload_n (i := 1) rfl rfl ?_
  obtain ⟨p2, hc, hb⟩ := Option.bind_eq_some_iff.mp hb
  refine Rn.call1 (d := e) (As := [.int v1]) (rest := [va_rf x1]) rfl rfl rfl (by decide) rfl rfl rfl rfl (by rw [bd_cR (bd_cN)]; decide) (bd_lenC (n := 1) rfl (bd_slI bd_slN) rfl) (bd_locC (n := 1) rfl (bd_slI bd_slN) rfl (t_99 e (by omega) v1 h _ hc)) ?_
  refine rn_aload_n (i := 0) rfl rfl ?_
  refine rn_iload_n (i := 1) rfl rfl ?_
  obtain ⟨hrc, hb⟩ := grd_spec hb
  obtain ⟨p3, hc, hb⟩ := Option.bind_eq_some_iff.mp hb
  refine Rn.call1 (d := e) (As := [va_rf v0, .int v1]) (rest := [.int p2.1, va_rf x1]) rfl rfl rfl (by decide) rfl rfl rfl (bd_rcV hrc rfl) (by rw [bd_cI (bd_cR (bd_cN))]; decide) (bd_lenC (n := 2) rfl (bd_slR (bd_slI bd_slN)) rfl) (bd_locC (n := 2) rfl (bd_slR (bd_slI bd_slN)) rfl (t_98 e (by omega) v0 v1 p2.2 _ hc)) ?_
  refine rn_wI rfl hb (fun h4 hb => ?_)
  refine rn_goto rfl rfl ?_
  exact u_94_49 (e + 1) hd v0 v1  h4 _ hb
def b_94_0 (v0 : Option Nat) (v1 : Int32)  (h : Hp) : Option (Hp) :=
  if v1 < (nI 4) then b_94_22 v0 v1  h else b_94_5 v0 v1  h
theorem u_94_0 (d : Nat) (hd : 2 ≤ d) (v0 : Option Nat) (v1 : Int32)  (h : Hp) (r : Hp) (hb : b_94_0 v0 v1  h = some r) : Rn d 94 0 [some (va_rf v0), some (.int v1)] [] h (none, r) := by
  unfold b_94_0 at hb
  refine rn_iload_n (i := 1) rfl rfl ?_
  refine rn_iconst (x := (nI 4)) rfl (by decide) ?_
  refine rn_icmp_lt rfl rfl (fun hc => ?_) (fun hc => ?_)
  · exact u_94_22 d hd v0 v1  h _ (if_t hb hc)
  · exact u_94_5 d hd v0 v1  h _ (if_f hb hc)
/-- BitingDoors$Scene.perform(I)V -/
def f_94 (v0 : Option Nat) (v1 : Int32) (h : Hp) : Option (Hp) := b_94_0 v0 v1 h
theorem t_94 (d : Nat) (hd : 2 ≤ d) (v0 : Option Nat) (v1 : Int32) (h : Hp) (r : Hp) (hb : f_94 v0 v1 h = some r) : Rn d 94 0 [some (va_rf v0), some (.int v1)] [] h (none, r) := by
  unfold f_94 at hb
  exact u_94_0 d hd v0 v1 h r hb
def b_95_128 (v1 : Int32)  (h : Hp) : Option (Int32 × Hp) :=
  some (v1, h)
theorem u_95_128 (d : Nat) (hd : 3 ≤ d) (v0 : Option Nat) (v1 : Int32) (v2 : Int32) (v3 : Option (Int32)) (v4 : Option (Int32)) (v5 : Option (Int32))  (h : Hp) (r : Int32 × Hp) (hb : b_95_128 v1  h = some r) : Rn d 95 128 [some (va_rf v0), some (.int v1), some (.int v2), v3.map Value.int, v4.map Value.int, v5.map Value.int] [] h (some (.int r.1), r.2) := by
  unfold b_95_128 at hb
  refine rn_iload_n (i := 1) rfl rfl ?_
  obtain rfl := Option.some.inj hb
  exact rn_iret rfl rfl
def b_95_122 (k4 : Option Nat → Int32 → Int32 → Hp → Option (Int32 × Hp)) (v0 : Option Nat) (v1 : Int32) (v2 : Int32)  (h : Hp) : Option (Int32 × Hp) :=
  bnd (v2 + (nI 1)) fun x1 =>
  k4 v0 v1 x1 h
theorem u_95_122 (d : Nat) (hd : 3 ≤ d) (k4 : Option Nat → Int32 → Int32 → Hp → Option (Int32 × Hp)) (K4 : ∀ (v0 : Option Nat) (v1 : Int32) (v2 : Int32) (v3 : Option (Int32)) (v4 : Option (Int32)) (v5 : Option (Int32)) (h : Hp) (r : Int32 × Hp), k4 v0 v1 v2 h = some r → Rn d 95 4 [some (va_rf v0), some (.int v1), some (.int v2), v3.map Value.int, v4.map Value.int, v5.map Value.int] [] h (some (.int r.1), r.2)) (v0 : Option Nat) (v1 : Int32) (v2 : Int32) (v3 : Int32) (v4 : Int32) (v5 : Int32)  (h : Hp) (r : Int32 × Hp) (hb : b_95_122 k4 v0 v1 v2  h = some r) : Rn d 95 122 [some (va_rf v0), some (.int v1), some (.int v2), some (.int v3), some (.int v4), some (.int v5)] [] h (some (.int r.1), r.2) := by
  unfold b_95_122 at hb
  obtain ⟨x1, ex1, hb⟩ := bnd_spec hb
  refine rn_iinc (i := 2) (y := x1) (L1 := [some (va_rf v0), some (.int v1), some (.int x1), some (.int v3), some (.int v4), some (.int v5)]) rfl rfl (Nat.le_of_ble_eq_true rfl) (Or.inr rfl) (by rw [ex1]; rfl) rfl ?_
  refine rn_goto rfl rfl ?_
  exact K4 v0 v1 x1 (some v3) (some v4) (some v5) h _ hb
def b_95_108 (k4 : Option Nat → Int32 → Int32 → Hp → Option (Int32 × Hp)) (v0 : Option Nat) (v1 : Int32) (v2 : Int32) (v4 : Int32)  (h : Hp) : Option (Int32 × Hp) :=
  (gQ 7 1 v0 h).bind fun x1 =>
  (aI 12 x1 v4 h).bind fun x2 =>
  (wI x1 v4 (x2 - (nI 1)) h).bind fun h3 =>
  bnd (v1 + (nI 1)) fun x4 =>
  b_95_122 k4 v0 x4 v2  h3
theorem u_95_108 (d : Nat) (hd : 3 ≤ d) (k4 : Option Nat → Int32 → Int32 → Hp → Option (Int32 × Hp)) (K4 : ∀ (v0 : Option Nat) (v1 : Int32) (v2 : Int32) (v3 : Option (Int32)) (v4 : Option (Int32)) (v5 : Option (Int32)) (h : Hp) (r : Int32 × Hp), k4 v0 v1 v2 h = some r → Rn d 95 4 [some (va_rf v0), some (.int v1), some (.int v2), v3.map Value.int, v4.map Value.int, v5.map Value.int] [] h (some (.int r.1), r.2)) (v0 : Option Nat) (v1 : Int32) (v2 : Int32) (v3 : Int32) (v4 : Int32) (v5 : Int32)  (h : Hp) (r : Int32 × Hp) (hb : b_95_108 k4 v0 v1 v2 v4  h = some r) : Rn d 95 108 [some (va_rf v0), some (.int v1), some (.int v2), some (.int v3), some (.int v4), some (.int v5)] [] h (some (.int r.1), r.2) := by
  unfold b_95_108 at hb
  refine rn_aload_n (i := 0) rfl rfl ?_
  refine rn_gQ (c := 7) (k := 1) rfl (by decide) hb (fun x1 hb => ?_)
  refine rn_iload (i := 4) rfl rfl ?_
  refine rn_dup2 rfl rfl (bd_cat_rf _) ?_
  refine rn_aI rfl hb (fun x2 hb => ?_)
  refine rn_iconst (x := (nI 1)) rfl (by decide) ?_
  refine rn_isub rfl ?_
  refine rn_wI rfl hb (fun h3 hb => ?_)
  obtain ⟨x4, ex4, hb⟩ := bnd_spec hb
  refine rn_iinc (i := 1) (y := x4) (L1 := [some (va_rf v0), some (.int x4), some (.int v2), some (.int v3), some (.int v4), some (.int v5)]) rfl rfl (Nat.le_of_ble_eq_true rfl) (Or.inr (bd_wideR rfl)) (by rw [ex4]; rfl) rfl ?_
  exact u_95_122 d hd k4 K4 v0 x4 v2 v3 v4 v5  h3 _ hb
def b_95_90 (k4 : Option Nat → Int32 → Int32 → Hp → Option (Int32 × Hp)) (v0 : Option Nat) (v1 : Int32) (v2 : Int32) (v4 : Int32)  (h : Hp) : Option (Int32 × Hp) :=
  (gQ 7 1 v0 h).bind fun x1 =>
  (aI 12 x1 v4 h).bind fun x2 =>
  (grd (rC 7 v0 h)).bind fun _ =>
  (f_92 v0 v4 (x2 - (nI 1)) h).bind fun p3 =>
  if ¬ p3.1 = 0 then b_95_122 k4 v0 v1 v2  p3.2 else b_95_108 k4 v0 v1 v2 v4  p3.2
theorem u_95_90 (d : Nat) (hd : 3 ≤ d) (k4 : Option Nat → Int32 → Int32 → Hp → Option (Int32 × Hp)) (K4 : ∀ (v0 : Option Nat) (v1 : Int32) (v2 : Int32) (v3 : Option (Int32)) (v4 : Option (Int32)) (v5 : Option (Int32)) (h : Hp) (r : Int32 × Hp), k4 v0 v1 v2 h = some r → Rn d 95 4 [some (va_rf v0), some (.int v1), some (.int v2), v3.map Value.int, v4.map Value.int, v5.map Value.int] [] h (some (.int r.1), r.2)) (v0 : Option Nat) (v1 : Int32) (v2 : Int32) (v3 : Int32) (v4 : Int32) (v5 : Int32)  (h : Hp) (r : Int32 × Hp) (hb : b_95_90 k4 v0 v1 v2 v4  h = some r) : Rn d 95 90 [some (va_rf v0), some (.int v1), some (.int v2), some (.int v3), some (.int v4), some (.int v5)] [] h (some (.int r.1), r.2) := by
  unfold b_95_90 at hb
  obtain ⟨e, rfl⟩ : ∃ e, d = e + 1 := ⟨d - 1, by omega⟩
  refine rn_aload_n (i := 0) rfl rfl ?_
  refine rn_iload (i := 4) rfl rfl ?_
  refine rn_aload_n (i := 0) rfl rfl ?_
  refine rn_gQ (c := 7) (k := 1) rfl (by decide) hb (fun x1 hb => ?_)
  refine rn_iload (i := 4) rfl rfl ?_
  refine rn_aI rfl hb (fun x2 hb => ?_)
  refine rn_iconst (x := (nI 1)) rfl (by decide) ?_
  refine rn_isub rfl ?_
  obtain ⟨hrc, hb⟩ := grd_spec hb
  obtain ⟨p3, hc, hb⟩ := Option.bind_eq_some_iff.mp hb
  refine Rn.call1 (d := e) (As := [va_rf v0, .int v4, .int (x2 - (nI 1))]) (rest := []) rfl rfl rfl (by decide) rfl rfl rfl (bd_rcV hrc rfl) (by decide) (bd_lenC (n := 3) rfl (bd_slR (bd_slI (bd_slI bd_slN))) rfl) (bd_locC (n := 3) rfl (bd_slR (bd_slI (bd_slI bd_slN))) rfl (t_92 e (by omega) v0 v4 (x2 - (nI 1)) h _ hc)) ?_
  refine rn_if_ne rfl rfl (fun hc => ?_) (fun hc => ?_)
  · exact u_95_122 (e + 1) hd k4 K4 v0 v1 v2 v3 v4 v5  p3.2 _ (if_t hb hc)
  · exact u_95_108 (e + 1) hd k4 K4 v0 v1 v2 v3 v4 v5  p3.2 _ (if_f hb hc)
def b_95_80 (k4 : Option Nat → Int32 → Int32 → Hp → Option (Int32 × Hp)) (v0 : Option Nat) (v1 : Int32) (v2 : Int32) (v4 : Int32)  (h : Hp) : Option (Int32 × Hp) :=
  (gQ 7 1 v0 h).bind fun x1 =>
  (aI 12 x1 v4 h).bind fun x2 =>
  if x2 ≤ 0 then b_95_122 k4 v0 v1 v2  h else b_95_90 k4 v0 v1 v2 v4  h
theorem u_95_80 (d : Nat) (hd : 3 ≤ d) (k4 : Option Nat → Int32 → Int32 → Hp → Option (Int32 × Hp)) (K4 : ∀ (v0 : Option Nat) (v1 : Int32) (v2 : Int32) (v3 : Option (Int32)) (v4 : Option (Int32)) (v5 : Option (Int32)) (h : Hp) (r : Int32 × Hp), k4 v0 v1 v2 h = some r → Rn d 95 4 [some (va_rf v0), some (.int v1), some (.int v2), v3.map Value.int, v4.map Value.int, v5.map Value.int] [] h (some (.int r.1), r.2)) (v0 : Option Nat) (v1 : Int32) (v2 : Int32) (v3 : Int32) (v4 : Int32) (v5 : Int32)  (h : Hp) (r : Int32 × Hp) (hb : b_95_80 k4 v0 v1 v2 v4  h = some r) : Rn d 95 80 [some (va_rf v0), some (.int v1), some (.int v2), some (.int v3), some (.int v4), some (.int v5)] [] h (some (.int r.1), r.2) := by
  unfold b_95_80 at hb
  refine rn_aload_n (i := 0) rfl rfl ?_
  refine rn_gQ (c := 7) (k := 1) rfl (by decide) hb (fun x1 hb => ?_)
  refine rn_iload (i := 4) rfl rfl ?_
  refine rn_aI rfl hb (fun x2 hb => ?_)
  refine rn_if_le rfl rfl (fun hc => ?_) (fun hc => ?_)
  · exact u_95_122 d hd k4 K4 v0 v1 v2 v3 v4 v5  h _ (if_t hb hc)
  · exact u_95_90 d hd k4 K4 v0 v1 v2 v3 v4 v5  h _ (if_f hb hc)
def b_95_73 (k4 : Option Nat → Int32 → Int32 → Hp → Option (Int32 × Hp)) (v0 : Option Nat) (v1 : Int32) (v2 : Int32) (v4 : Int32) (s0 : Int32) (h : Hp) : Option (Int32 × Hp) :=
  if s0 = 0 then b_95_122 k4 v0 v1 v2  h else b_95_80 k4 v0 v1 v2 v4  h
theorem u_95_73 (d : Nat) (hd : 3 ≤ d) (k4 : Option Nat → Int32 → Int32 → Hp → Option (Int32 × Hp)) (K4 : ∀ (v0 : Option Nat) (v1 : Int32) (v2 : Int32) (v3 : Option (Int32)) (v4 : Option (Int32)) (v5 : Option (Int32)) (h : Hp) (r : Int32 × Hp), k4 v0 v1 v2 h = some r → Rn d 95 4 [some (va_rf v0), some (.int v1), some (.int v2), v3.map Value.int, v4.map Value.int, v5.map Value.int] [] h (some (.int r.1), r.2)) (v0 : Option Nat) (v1 : Int32) (v2 : Int32) (v3 : Int32) (v4 : Int32) (v5 : Option (Int32)) (s0 : Int32) (h : Hp) (r : Int32 × Hp) (hb : b_95_73 k4 v0 v1 v2 v4 s0 h = some r) : Rn d 95 73 [some (va_rf v0), some (.int v1), some (.int v2), some (.int v3), some (.int v4), v5.map Value.int] [.int s0] h (some (.int r.1), r.2) := by
  unfold b_95_73 at hb
  refine rn_istore (i := 5) (L1 := [some (va_rf v0), some (.int v1), some (.int v2), some (.int v3), some (.int v4), some (.int s0)]) rfl (Nat.le_of_ble_eq_true rfl) (Or.inr rfl) rfl ?_
  refine rn_iload (i := 5) rfl rfl ?_
  refine rn_if_eq rfl rfl (fun hc => ?_) (fun hc => ?_)
  · exact u_95_122 d hd k4 K4 v0 v1 v2 v3 v4 s0  h _ (if_t hb hc)
  · exact u_95_80 d hd k4 K4 v0 v1 v2 v3 v4 s0  h _ (if_f hb hc)
def b_95_72 (k4 : Option Nat → Int32 → Int32 → Hp → Option (Int32 × Hp)) (v0 : Option Nat) (v1 : Int32) (v2 : Int32) (v4 : Int32)  (h : Hp) : Option (Int32 × Hp) :=
  b_95_73 k4 v0 v1 v2 v4 (nI 0) h
theorem u_95_72 (d : Nat) (hd : 3 ≤ d) (k4 : Option Nat → Int32 → Int32 → Hp → Option (Int32 × Hp)) (K4 : ∀ (v0 : Option Nat) (v1 : Int32) (v2 : Int32) (v3 : Option (Int32)) (v4 : Option (Int32)) (v5 : Option (Int32)) (h : Hp) (r : Int32 × Hp), k4 v0 v1 v2 h = some r → Rn d 95 4 [some (va_rf v0), some (.int v1), some (.int v2), v3.map Value.int, v4.map Value.int, v5.map Value.int] [] h (some (.int r.1), r.2)) (v0 : Option Nat) (v1 : Int32) (v2 : Int32) (v3 : Int32) (v4 : Int32) (v5 : Option (Int32))  (h : Hp) (r : Int32 × Hp) (hb : b_95_72 k4 v0 v1 v2 v4  h = some r) : Rn d 95 72 [some (va_rf v0), some (.int v1), some (.int v2), some (.int v3), some (.int v4), v5.map Value.int] [] h (some (.int r.1), r.2) := by
  unfold b_95_72 at hb
  refine rn_iconst (x := (nI 0)) rfl (by decide) ?_
  exact u_95_73 d hd k4 K4 v0 v1 v2 v3 v4 v5 (nI 0) h _ hb
def b_95_68 (k4 : Option Nat → Int32 → Int32 → Hp → Option (Int32 × Hp)) (v0 : Option Nat) (v1 : Int32) (v2 : Int32) (v4 : Int32)  (h : Hp) : Option (Int32 × Hp) :=
  b_95_73 k4 v0 v1 v2 v4 (nI 1) h
theorem u_95_68 (d : Nat) (hd : 3 ≤ d) (k4 : Option Nat → Int32 → Int32 → Hp → Option (Int32 × Hp)) (K4 : ∀ (v0 : Option Nat) (v1 : Int32) (v2 : Int32) (v3 : Option (Int32)) (v4 : Option (Int32)) (v5 : Option (Int32)) (h : Hp) (r : Int32 × Hp), k4 v0 v1 v2 h = some r → Rn d 95 4 [some (va_rf v0), some (.int v1), some (.int v2), v3.map Value.int, v4.map Value.int, v5.map Value.int] [] h (some (.int r.1), r.2)) (v0 : Option Nat) (v1 : Int32) (v2 : Int32) (v3 : Int32) (v4 : Int32) (v5 : Option (Int32))  (h : Hp) (r : Int32 × Hp) (hb : b_95_68 k4 v0 v1 v2 v4  h = some r) : Rn d 95 68 [some (va_rf v0), some (.int v1), some (.int v2), some (.int v3), some (.int v4), v5.map Value.int] [] h (some (.int r.1), r.2) := by
  unfold b_95_68 at hb
  refine rn_iconst (x := (nI 1)) rfl (by decide) ?_
  refine rn_goto rfl rfl ?_
  exact u_95_73 d hd k4 K4 v0 v1 v2 v3 v4 v5 (nI 1) h _ hb
def b_95_49 (k4 : Option Nat → Int32 → Int32 → Hp → Option (Int32 × Hp)) (v0 : Option Nat) (v1 : Int32) (v2 : Int32) (v3 : Int32) (v4 : Int32)  (h : Hp) : Option (Int32 × Hp) :=
  (gQ 7 1 v0 h).bind fun x1 =>
  (gQ 7 2 v0 h).bind fun x2 =>
  (gQ 4 2 x2 h).bind fun x3 =>
  (aI 12 x3 (v3 + (nI 1)) h).bind fun x4 =>
  (aI 12 x1 x4 h).bind fun x5 =>
  if x5 ≤ 0 then b_95_72 k4 v0 v1 v2 v4  h else b_95_68 k4 v0 v1 v2 v4  h
theorem u_95_49 (d : Nat) (hd : 3 ≤ d) (k4 : Option Nat → Int32 → Int32 → Hp → Option (Int32 × Hp)) (K4 : ∀ (v0 : Option Nat) (v1 : Int32) (v2 : Int32) (v3 : Option (Int32)) (v4 : Option (Int32)) (v5 : Option (Int32)) (h : Hp) (r : Int32 × Hp), k4 v0 v1 v2 h = some r → Rn d 95 4 [some (va_rf v0), some (.int v1), some (.int v2), v3.map Value.int, v4.map Value.int, v5.map Value.int] [] h (some (.int r.1), r.2)) (v0 : Option Nat) (v1 : Int32) (v2 : Int32) (v3 : Int32) (v4 : Int32) (v5 : Option (Int32))  (h : Hp) (r : Int32 × Hp) (hb : b_95_49 k4 v0 v1 v2 v3 v4  h = some r) : Rn d 95 49 [some (va_rf v0), some (.int v1), some (.int v2), some (.int v3), some (.int v4), v5.map Value.int] [] h (some (.int r.1), r.2) := by
  unfold b_95_49 at hb
  refine rn_aload_n (i := 0) rfl rfl ?_
  refine rn_gQ (c := 7) (k := 1) rfl (by decide) hb (fun x1 hb => ?_)
  refine rn_aload_n (i := 0) rfl rfl ?_
  refine rn_gQ (c := 7) (k := 2) rfl (by decide) hb (fun x2 hb => ?_)
  refine rn_gQ (c := 4) (k := 2) rfl (by decide) hb (fun x3 hb => ?_)
  refine rn_iload_n (i := 3) rfl rfl ?_
  refine rn_iconst (x := (nI 1)) rfl (by decide) ?_
  refine rn_iadd rfl ?_
  refine rn_aI rfl hb (fun x4 hb => ?_)
  refine rn_aI rfl hb (fun x5 hb => ?_)
  refine rn_if_le rfl rfl (fun hc => ?_) (fun hc => ?_)
  · exact u_95_72 d hd k4 K4 v0 v1 v2 v3 v4 v5  h _ (if_t hb hc)
  · exact u_95_68 d hd k4 K4 v0 v1 v2 v3 v4 v5  h _ (if_f hb hc)
def b_95_15 (k4 : Option Nat → Int32 → Int32 → Hp → Option (Int32 × Hp)) (v0 : Option Nat) (v1 : Int32) (v2 : Int32)  (h : Hp) : Option (Int32 × Hp) :=
  bnd (((nI 3) * v2)) fun x1 =>
  (gQ 7 2 v0 h).bind fun x2 =>
  (gQ 4 2 x2 h).bind fun x3 =>
  (aI 12 x3 (x1 + (nI 2)) h).bind fun x4 =>
  (gQ 7 1 v0 h).bind fun x5 =>
  (gQ 7 2 v0 h).bind fun x6 =>
  (gQ 4 2 x6 h).bind fun x7 =>
  (aI 12 x7 x1 h).bind fun x8 =>
  (aI 12 x5 x8 h).bind fun x9 =>
  if x9 ≤ 0 then b_95_72 k4 v0 v1 v2 x4  h else b_95_49 k4 v0 v1 v2 x1 x4  h
theorem u_95_15 (d : Nat) (hd : 3 ≤ d) (k4 : Option Nat → Int32 → Int32 → Hp → Option (Int32 × Hp)) (K4 : ∀ (v0 : Option Nat) (v1 : Int32) (v2 : Int32) (v3 : Option (Int32)) (v4 : Option (Int32)) (v5 : Option (Int32)) (h : Hp) (r : Int32 × Hp), k4 v0 v1 v2 h = some r → Rn d 95 4 [some (va_rf v0), some (.int v1), some (.int v2), v3.map Value.int, v4.map Value.int, v5.map Value.int] [] h (some (.int r.1), r.2)) (v0 : Option Nat) (v1 : Int32) (v2 : Int32) (v3 : Option (Int32)) (v4 : Option (Int32)) (v5 : Option (Int32))  (h : Hp) (r : Int32 × Hp) (hb : b_95_15 k4 v0 v1 v2  h = some r) : Rn d 95 15 [some (va_rf v0), some (.int v1), some (.int v2), v3.map Value.int, v4.map Value.int, v5.map Value.int] [] h (some (.int r.1), r.2) := by
  unfold b_95_15 at hb
  refine rn_iconst (x := (nI 3)) rfl (by decide) ?_
  refine rn_iload_n (i := 2) rfl rfl ?_
  refine rn_imul rfl ?_
  obtain ⟨x1, ex1, hb⟩ := bnd_spec hb
  refine rn_istore_n (i := 3) (L1 := [some (va_rf v0), some (.int v1), some (.int v2), some (.int x1), v4.map Value.int, v5.map Value.int]) rfl (Nat.le_of_ble_eq_true rfl) (Or.inr rfl) (by rw [ex1]; rfl) ?_
  refine rn_aload_n (i := 0) rfl rfl ?_
  refine rn_gQ (c := 7) (k := 2) rfl (by decide) hb (fun x2 hb => ?_)
  refine rn_gQ (c := 4) (k := 2) rfl (by decide) hb (fun x3 hb => ?_)
  refine rn_iload_n (i := 3) rfl rfl ?_
  refine rn_iconst (x := (nI 2)) rfl (by decide) ?_
  refine rn_iadd rfl ?_
  refine rn_aI rfl hb (fun x4 hb => ?_)
  refine rn_istore (i := 4) (L1 := [some (va_rf v0), some (.int v1), some (.int v2), some (.int x1), some (.int x4), v5.map Value.int]) rfl (Nat.le_of_ble_eq_true rfl) (Or.inr rfl) rfl ?_
  refine rn_aload_n (i := 0) rfl rfl ?_
  refine rn_gQ (c := 7) (k := 1) rfl (by decide) hb (fun x5 hb => ?_)
  refine rn_aload_n (i := 0) rfl rfl ?_
  refine rn_gQ (c := 7) (k := 2) rfl (by decide) hb (fun x6 hb => ?_)
  refine rn_gQ (c := 4) (k := 2) rfl (by decide) hb (fun x7 hb => ?_)
  refine rn_iload_n (i := 3) rfl rfl ?_
  refine rn_aI rfl hb (fun x8 hb => ?_)
  refine rn_aI rfl hb (fun x9 hb => ?_)
  refine rn_if_le rfl rfl (fun hc => ?_) (fun hc => ?_)
  · exact u_95_72 d hd k4 K4 v0 v1 v2 x1 x4 v5  h _ (if_t hb hc)
  · exact u_95_49 d hd k4 K4 v0 v1 v2 x1 x4 v5  h _ (if_f hb hc)
def b_95_4 (k4 : Option Nat → Int32 → Int32 → Hp → Option (Int32 × Hp)) (v0 : Option Nat) (v1 : Int32) (v2 : Int32)  (h : Hp) : Option (Int32 × Hp) :=
  (gQ 7 2 v0 h).bind fun x1 =>
  (gI 4 6 x1 h).bind fun x2 =>
  if x2 ≤ v2 then b_95_128 v1  h else b_95_15 k4 v0 v1 v2  h
theorem u_95_4 (d : Nat) (hd : 3 ≤ d) (k4 : Option Nat → Int32 → Int32 → Hp → Option (Int32 × Hp)) (K4 : ∀ (v0 : Option Nat) (v1 : Int32) (v2 : Int32) (v3 : Option (Int32)) (v4 : Option (Int32)) (v5 : Option (Int32)) (h : Hp) (r : Int32 × Hp), k4 v0 v1 v2 h = some r → Rn d 95 4 [some (va_rf v0), some (.int v1), some (.int v2), v3.map Value.int, v4.map Value.int, v5.map Value.int] [] h (some (.int r.1), r.2)) (v0 : Option Nat) (v1 : Int32) (v2 : Int32) (v3 : Option (Int32)) (v4 : Option (Int32)) (v5 : Option (Int32))  (h : Hp) (r : Int32 × Hp) (hb : b_95_4 k4 v0 v1 v2  h = some r) : Rn d 95 4 [some (va_rf v0), some (.int v1), some (.int v2), v3.map Value.int, v4.map Value.int, v5.map Value.int] [] h (some (.int r.1), r.2) := by
  unfold b_95_4 at hb
  refine rn_iload_n (i := 2) rfl rfl ?_
  refine rn_aload_n (i := 0) rfl rfl ?_
  refine rn_gQ (c := 7) (k := 2) rfl (by decide) hb (fun x1 hb => ?_)
  refine rn_gI (c := 4) (k := 6) rfl (by decide) hb (fun x2 hb => ?_)
  refine rn_icmp_ge rfl rfl (fun hc => ?_) (fun hc => ?_)
  · exact u_95_128 d hd v0 v1 v2 v3 v4 v5  h _ (if_t hb hc)
  · exact u_95_15 d hd k4 K4 v0 v1 v2 v3 v4 v5  h _ (if_f hb hc)
def l_95_4 : Nat → Option Nat → Int32 → Int32 → Hp → Option (Int32 × Hp)
  | 0, _, _, _, _ => none
  | n + 1, v0, v1, v2, h => b_95_4 (l_95_4 n) v0 v1 v2 h
theorem w_95_4 (d : Nat) (hd : 3 ≤ d) : ∀ (n : Nat) (v0 : Option Nat) (v1 : Int32) (v2 : Int32) (v3 : Option (Int32)) (v4 : Option (Int32)) (v5 : Option (Int32)) (h : Hp) (r : Int32 × Hp), l_95_4 n v0 v1 v2 h = some r → Rn d 95 4 [some (va_rf v0), some (.int v1), some (.int v2), v3.map Value.int, v4.map Value.int, v5.map Value.int] [] h (some (.int r.1), r.2) := by
  intro n
  induction n with
  | zero => intro v0 v1 v2 v3 v4 v5 h r hb; cases hb
  | succ n ih => intro v0 v1 v2 v3 v4 v5 h r hb; exact u_95_4 d hd (l_95_4 n) ih v0 v1 v2 v3 v4 v5 h r hb
def b_95_0 (v0 : Option Nat)  (h : Hp) : Option (Int32 × Hp) :=
  bnd ((nI 0)) fun x1 =>
  bnd ((nI 0)) fun x2 =>
  l_95_4 FU v0 x1 x2 h
theorem u_95_0 (d : Nat) (hd : 3 ≤ d) (v0 : Option Nat)  (h : Hp) (r : Int32 × Hp) (hb : b_95_0 v0  h = some r) : Rn d 95 0 [some (va_rf v0), none, none, none, none, none] [] h (some (.int r.1), r.2) := by
  unfold b_95_0 at hb
  refine rn_iconst (x := (nI 0)) rfl (by decide) ?_
  obtain ⟨x1, ex1, hb⟩ := bnd_spec hb
  refine rn_istore_n (i := 1) (L1 := [some (va_rf v0), some (.int x1), none, none, none, none]) rfl (Nat.le_of_ble_eq_true rfl) (Or.inr (bd_wideR rfl)) (by rw [ex1]; rfl) ?_
  refine rn_iconst (x := (nI 0)) rfl (by decide) ?_
  obtain ⟨x2, ex2, hb⟩ := bnd_spec hb
  refine rn_istore_n (i := 2) (L1 := [some (va_rf v0), some (.int x1), some (.int x2), none, none, none]) rfl (Nat.le_of_ble_eq_true rfl) (Or.inr rfl) (by rw [ex2]; rfl) ?_
  exact w_95_4 d hd FU v0 x1 x2 (none : Option (Int32)) (none : Option (Int32)) (none : Option (Int32)) h _ hb
/-- BitingDoors$Scene.endMinute()I -/
def f_95 (v0 : Option Nat) (h : Hp) : Option (Int32 × Hp) := b_95_0 v0 h
theorem t_95 (d : Nat) (hd : 3 ≤ d) (v0 : Option Nat) (h : Hp) (r : Int32 × Hp) (hb : f_95 v0 h = some r) : Rn d 95 0 [some (va_rf v0), none, none, none, none, none] [] h (some (.int r.1), r.2) := by
  unfold f_95 at hb
  exact u_95_0 d hd v0 h r hb
def b_73_81   (h : Hp) : Option (Hp) :=
  some h
theorem u_73_81 (d : Nat) (hd : 4 ≤ d) (v0 : Option Nat) (v1 : Int32) (v2 : Int32) (v3 : Int32)  (h : Hp) (r : Hp) (hb : b_73_81   h = some r) : Rn d 73 81 [some (va_rf v0), some (.int v1), some (.int v2), some (.int v3)] [] h (none, r) := by
  unfold b_73_81 at hb
  obtain rfl := Option.some.inj hb
  exact rn_vret rfl rfl
def b_73_75 (k22 : Option Nat → Int32 → Int32 → Int32 → Hp → Option (Hp)) (v0 : Option Nat) (v1 : Int32) (v2 : Int32) (v3 : Int32)  (h : Hp) : Option (Hp) :=
  bnd (v3 + (nI 1)) fun x1 =>
  k22 v0 v1 v2 x1 h
theorem u_73_75 (d : Nat) (hd : 4 ≤ d) (k22 : Option Nat → Int32 → Int32 → Int32 → Hp → Option (Hp)) (K22 : ∀ (v0 : Option Nat) (v1 : Int32) (v2 : Int32) (v3 : Int32) (h : Hp) (r : Hp), k22 v0 v1 v2 v3 h = some r → Rn d 73 22 [some (va_rf v0), some (.int v1), some (.int v2), some (.int v3)] [] h (none, r)) (v0 : Option Nat) (v1 : Int32) (v2 : Int32) (v3 : Int32)  (h : Hp) (r : Hp) (hb : b_73_75 k22 v0 v1 v2 v3  h = some r) : Rn d 73 75 [some (va_rf v0), some (.int v1), some (.int v2), some (.int v3)] [] h (none, r) := by
  unfold b_73_75 at hb
  obtain ⟨x1, ex1, hb⟩ := bnd_spec hb
  refine rn_iinc (i := 3) (y := x1) (L1 := [some (va_rf v0), some (.int v1), some (.int v2), some (.int x1)]) rfl rfl (Nat.le_of_ble_eq_true rfl) (Or.inr rfl) (by rw [ex1]; rfl) rfl ?_
  refine rn_goto rfl rfl ?_
  exact K22 v0 v1 v2 x1 h _ hb
def b_73_38 (k22 : Option Nat → Int32 → Int32 → Int32 → Hp → Option (Hp)) (v0 : Option Nat) (v1 : Int32) (v2 : Int32) (v3 : Int32)  (h : Hp) : Option (Hp) :=
  (gQ 6 2 v0 h).bind fun x1 =>
  (grd (rC 7 x1 h)).bind fun _ =>
  (f_94 x1 v3 h).bind fun p2 =>
  (gQ 6 2 v0 p2).bind fun x3 =>
  (grd (rC 7 x3 p2)).bind fun _ =>
  (f_95 x3 p2).bind fun p4 =>
  (grd (rC 6 v0 p4.2)).bind fun _ =>
  (f_75 v0 p4.2).bind fun p5 =>
  (grd (rC 6 v0 p5.2)).bind fun _ =>
  (f_74 v0 p5.1 (((nI 2) + ((nI 16) * v1)) + v3) p5.2).bind fun p6 =>
  (grd (rC 6 v0 p6)).bind fun _ =>
  (f_76 v0 v1 p6).bind fun p7 =>
  b_73_75 k22 v0 v1 v2 v3  p7
theorem u_73_38 (d : Nat) (hd : 4 ≤ d) (k22 : Option Nat → Int32 → Int32 → Int32 → Hp → Option (Hp)) (K22 : ∀ (v0 : Option Nat) (v1 : Int32) (v2 : Int32) (v3 : Int32) (h : Hp) (r : Hp), k22 v0 v1 v2 v3 h = some r → Rn d 73 22 [some (va_rf v0), some (.int v1), some (.int v2), some (.int v3)] [] h (none, r)) (v0 : Option Nat) (v1 : Int32) (v2 : Int32) (v3 : Int32)  (h : Hp) (r : Hp) (hb : b_73_38 k22 v0 v1 v2 v3  h = some r) : Rn d 73 38 [some (va_rf v0), some (.int v1), some (.int v2), some (.int v3)] [] h (none, r) := by
  unfold b_73_38 at hb
  obtain ⟨e, rfl⟩ : ∃ e, d = e + 1 := ⟨d - 1, by omega⟩
  refine rn_aload_n (i := 0) rfl rfl ?_
  refine rn_gQ (c := 6) (k := 2) rfl (by decide) hb (fun x1 hb => ?_)
  refine rn_iload_n (i := 3) rfl rfl ?_
  obtain ⟨hrc, hb⟩ := grd_spec hb
  obtain ⟨p2, hc, hb⟩ := Option.bind_eq_some_iff.mp hb
  refine Rn.call0 (d := e) (As := [va_rf x1, .int v3]) (rest := []) rfl rfl rfl (by decide) rfl rfl rfl (bd_rcV hrc rfl) (by decide) (bd_lenC (n := 2) rfl (bd_slR (bd_slI bd_slN)) rfl) (bd_locC (n := 2) rfl (bd_slR (bd_slI bd_slN)) rfl (t_94 e (by omega) x1 v3 h _ hc)) ?_
  refine rn_aload_n (i := 0) rfl rfl ?_
  refine rn_gQ (c := 6) (k := 2) rfl (by decide) hb (fun x3 hb => ?_)
  obtain ⟨hrc, hb⟩ := grd_spec hb
  obtain ⟨p4, hc, hb⟩ := Option.bind_eq_some_iff.mp hb
  refine Rn.call1 (d := e) (As := [va_rf x3]) (rest := []) rfl rfl rfl (by decide) rfl rfl rfl (bd_rcV hrc rfl) (by decide) (bd_lenC (n := 6) rfl (bd_slR bd_slN) rfl) (bd_locC (n := 6) rfl (bd_slR bd_slN) rfl (t_95 e (by omega) x3 p2 _ hc)) ?_
  refine rn_pop rfl rfl ?_
  refine rn_aload_n (i := 0) rfl rfl ?_
  refine rn_aload_n (i := 0) rfl rfl ?_
  obtain ⟨hrc, hb⟩ := grd_spec hb
  obtain ⟨p5, hc, hb⟩ := Option.bind_eq_some_iff.mp hb
  refine Rn.call1 (d := e) (As := [va_rf v0]) (rest := [va_rf v0]) rfl rfl rfl (by decide) rfl rfl rfl (bd_rcV hrc rfl) (by rw [bd_cR (bd_cN)]; decide) (bd_lenC (n := 3) rfl (bd_slR bd_slN) rfl) (bd_locC (n := 3) rfl (bd_slR bd_slN) rfl (t_75 e (by omega) v0 p4.2 _ hc)) ?_
  refine rn_iconst (x := (nI 2)) rfl (by decide) ?_
  refine rn_bipush (x := (nI 16)) rfl (by decide) ?_
  refine rn_iload_n (i := 1) rfl rfl ?_
  refine rn_imul rfl ?_
  refine rn_iadd rfl ?_
  refine rn_iload_n (i := 3) rfl rfl ?_
  refine rn_iadd rfl ?_
  obtain ⟨hrc, hb⟩ := grd_spec hb
  obtain ⟨p6, hc, hb⟩ := Option.bind_eq_some_iff.mp hb
  refine Rn.call0 (d := e) (As := [va_rf v0, .int p5.1, .int (((nI 2) + ((nI 16) * v1)) + v3)]) (rest := []) rfl rfl rfl (by decide) rfl rfl rfl (bd_rcV hrc rfl) (by decide) (bd_lenC (n := 3) rfl (bd_slR (bd_slI (bd_slI bd_slN))) rfl) (bd_locC (n := 3) rfl (bd_slR (bd_slI (bd_slI bd_slN))) rfl (t_74 e (by omega) v0 p5.1 (((nI 2) + ((nI 16) * v1)) + v3) p5.2 _ hc)) ?_
  refine rn_aload_n (i := 0) rfl rfl ?_
  refine rn_iload_n (i := 1) rfl rfl ?_
  obtain ⟨hrc, hb⟩ := grd_spec hb
  obtain ⟨p7, hc, hb⟩ := Option.bind_eq_some_iff.mp hb
  refine Rn.call0 (d := e) (As := [va_rf v0, .int v1]) (rest := []) rfl rfl rfl (by decide) rfl rfl rfl (bd_rcV hrc rfl) (by decide) (bd_lenC (n := 4) rfl (bd_slR (bd_slI bd_slN)) rfl) (bd_locC (n := 4) rfl (bd_slR (bd_slI bd_slN)) rfl (t_76 e (by omega) v0 v1 p6 _ hc)) ?_
  exact u_73_75 (e + 1) hd k22 K22 v0 v1 v2 v3  p7 _ hb
def b_73_27 (k22 : Option Nat → Int32 → Int32 → Int32 → Hp → Option (Hp)) (v0 : Option Nat) (v1 : Int32) (v2 : Int32) (v3 : Int32)  (h : Hp) : Option (Hp) :=
  (gQ 6 2 v0 h).bind fun x1 =>
  (grd (rC 7 x1 h)).bind fun _ =>
  (f_90 x1 v3 h).bind fun p2 =>
  if ¬ p2.1 = 0 then b_73_75 k22 v0 v1 v2 v3  p2.2 else b_73_38 k22 v0 v1 v2 v3  p2.2
theorem u_73_27 (d : Nat) (hd : 4 ≤ d) (k22 : Option Nat → Int32 → Int32 → Int32 → Hp → Option (Hp)) (K22 : ∀ (v0 : Option Nat) (v1 : Int32) (v2 : Int32) (v3 : Int32) (h : Hp) (r : Hp), k22 v0 v1 v2 v3 h = some r → Rn d 73 22 [some (va_rf v0), some (.int v1), some (.int v2), some (.int v3)] [] h (none, r)) (v0 : Option Nat) (v1 : Int32) (v2 : Int32) (v3 : Int32)  (h : Hp) (r : Hp) (hb : b_73_27 k22 v0 v1 v2 v3  h = some r) : Rn d 73 27 [some (va_rf v0), some (.int v1), some (.int v2), some (.int v3)] [] h (none, r) := by
  unfold b_73_27 at hb
  obtain ⟨e, rfl⟩ : ∃ e, d = e + 1 := ⟨d - 1, by omega⟩
  refine rn_aload_n (i := 0) rfl rfl ?_
  refine rn_gQ (c := 6) (k := 2) rfl (by decide) hb (fun x1 hb => ?_)
  refine rn_iload_n (i := 3) rfl rfl ?_
  obtain ⟨hrc, hb⟩ := grd_spec hb
  obtain ⟨p2, hc, hb⟩ := Option.bind_eq_some_iff.mp hb
  refine Rn.call1 (d := e) (As := [va_rf x1, .int v3]) (rest := []) rfl rfl rfl (by decide) rfl rfl rfl (bd_rcV hrc rfl) (by decide) (bd_lenC (n := 2) rfl (bd_slR (bd_slI bd_slN)) rfl) (bd_locC (n := 2) rfl (bd_slR (bd_slI bd_slN)) rfl (t_90 e (by omega) x1 v3 h _ hc)) ?_
  refine rn_if_ne rfl rfl (fun hc => ?_) (fun hc => ?_)
  · exact u_73_75 (e + 1) hd k22 K22 v0 v1 v2 v3  p2.2 _ (if_t hb hc)
  · exact u_73_38 (e + 1) hd k22 K22 v0 v1 v2 v3  p2.2 _ (if_f hb hc)
def b_73_22 (k22 : Option Nat → Int32 → Int32 → Int32 → Hp → Option (Hp)) (v0 : Option Nat) (v1 : Int32) (v2 : Int32) (v3 : Int32)  (h : Hp) : Option (Hp) :=
  if v2 ≤ v3 then b_73_81   h else b_73_27 k22 v0 v1 v2 v3  h
theorem u_73_22 (d : Nat) (hd : 4 ≤ d) (k22 : Option Nat → Int32 → Int32 → Int32 → Hp → Option (Hp)) (K22 : ∀ (v0 : Option Nat) (v1 : Int32) (v2 : Int32) (v3 : Int32) (h : Hp) (r : Hp), k22 v0 v1 v2 v3 h = some r → Rn d 73 22 [some (va_rf v0), some (.int v1), some (.int v2), some (.int v3)] [] h (none, r)) (v0 : Option Nat) (v1 : Int32) (v2 : Int32) (v3 : Int32)  (h : Hp) (r : Hp) (hb : b_73_22 k22 v0 v1 v2 v3  h = some r) : Rn d 73 22 [some (va_rf v0), some (.int v1), some (.int v2), some (.int v3)] [] h (none, r) := by
  unfold b_73_22 at hb
  refine rn_iload_n (i := 3) rfl rfl ?_
  refine rn_iload_n (i := 2) rfl rfl ?_
  refine rn_icmp_ge rfl rfl (fun hc => ?_) (fun hc => ?_)
  · exact u_73_81 d hd v0 v1 v2 v3  h _ (if_t hb hc)
  · exact u_73_27 d hd k22 K22 v0 v1 v2 v3  h _ (if_f hb hc)
def l_73_22 : Nat → Option Nat → Int32 → Int32 → Int32 → Hp → Option (Hp)
  | 0, _, _, _, _, _ => none
  | n + 1, v0, v1, v2, v3, h => b_73_22 (l_73_22 n) v0 v1 v2 v3 h
theorem w_73_22 (d : Nat) (hd : 4 ≤ d) : ∀ (n : Nat) (v0 : Option Nat) (v1 : Int32) (v2 : Int32) (v3 : Int32) (h : Hp) (r : Hp), l_73_22 n v0 v1 v2 v3 h = some r → Rn d 73 22 [some (va_rf v0), some (.int v1), some (.int v2), some (.int v3)] [] h (none, r) := by
  intro n
  induction n with
  | zero => intro v0 v1 v2 v3 h r hb; cases hb
  | succ n ih => intro v0 v1 v2 v3 h r hb; exact u_73_22 d hd (l_73_22 n) ih v0 v1 v2 v3 h r hb
def b_73_0 (v0 : Option Nat) (v1 : Int32)  (h : Hp) : Option (Hp) :=
  (gQ 6 2 v0 h).bind fun x1 =>
  (gQ 7 2 x1 h).bind fun x2 =>
  (gI 4 5 x2 h).bind fun x3 =>
  bnd (((nI 4) + ((nI 2) * x3))) fun x4 =>
  (grd (rC 6 v0 h)).bind fun _ =>
  (f_76 v0 v1 h).bind fun p5 =>
  bnd ((nI 0)) fun x6 =>
  l_73_22 FU v0 v1 x4 x6 p5
theorem u_73_0 (d : Nat) (hd : 4 ≤ d) (v0 : Option Nat) (v1 : Int32)  (h : Hp) (r : Hp) (hb : b_73_0 v0 v1  h = some r) : Rn d 73 0 [some (va_rf v0), some (.int v1), none, none] [] h (none, r) := by
  unfold b_73_0 at hb
  obtain ⟨e, rfl⟩ : ∃ e, d = e + 1 := ⟨d - 1, by omega⟩
  refine rn_iconst (x := (nI 4)) rfl (by decide) ?_
  refine rn_iconst (x := (nI 2)) rfl (by decide) ?_
  refine rn_aload_n (i := 0) rfl rfl ?_
  refine rn_gQ (c := 6) (k := 2) rfl (by decide) hb (fun x1 hb => ?_)
  refine rn_gQ (c := 7) (k := 2) rfl (by decide) hb (fun x2 hb => ?_)
  refine rn_gI (c := 4) (k := 5) rfl (by decide) hb (fun x3 hb => ?_)
  refine rn_imul rfl ?_
  refine rn_iadd rfl ?_
  obtain ⟨x4, ex4, hb⟩ := bnd_spec hb
  refine rn_istore_n (i := 2) (L1 := [some (va_rf v0), some (.int v1), some (.int x4), none]) rfl (Nat.le_of_ble_eq_true rfl) (Or.inr rfl) (by rw [ex4]; rfl) ?_
  refine rn_aload_n (i := 0) rfl rfl ?_
  refine rn_iload_n (i := 1) rfl rfl ?_
  obtain ⟨hrc, hb⟩ := grd_spec hb
  obtain ⟨p5, hc, hb⟩ := Option.bind_eq_some_iff.mp hb
  refine Rn.call0 (d := e) (As := [va_rf v0, .int v1]) (rest := []) rfl rfl rfl (by decide) rfl rfl rfl (bd_rcV hrc rfl) (by decide) (bd_lenC (n := 4) rfl (bd_slR (bd_slI bd_slN)) rfl) (bd_locC (n := 4) rfl (bd_slR (bd_slI bd_slN)) rfl (t_76 e (by omega) v0 v1 h _ hc)) ?_
  refine rn_iconst (x := (nI 0)) rfl (by decide) ?_
  obtain ⟨x6, ex6, hb⟩ := bnd_spec hb
  refine rn_istore_n (i := 3) (L1 := [some (va_rf v0), some (.int v1), some (.int x4), some (.int x6)]) rfl (Nat.le_of_ble_eq_true rfl) (Or.inr rfl) (by rw [ex6]; rfl) ?_
  exact w_73_22 (e + 1) hd FU v0 v1 x4 x6 p5 _ hb
/-- BitingDoors$Paths.expand(I)V -/
def f_73 (v0 : Option Nat) (v1 : Int32) (h : Hp) : Option (Hp) := b_73_0 v0 v1 h
theorem t_73 (d : Nat) (hd : 4 ≤ d) (v0 : Option Nat) (v1 : Int32) (h : Hp) (r : Hp) (hb : f_73 v0 v1 h = some r) : Rn d 73 0 [some (va_rf v0), some (.int v1), none, none] [] h (none, r) := by
  unfold f_73 at hb
  exact u_73_0 d hd v0 v1 h r hb
def b_84_0 (v0 : Option Nat) (v1 : Option Nat)  (h : Hp) : Option (Hp) :=
  (gQ 7 2 v1 h).bind fun x1 =>
  (pQ 7 2 v0 x1 h).bind fun h2 =>
  (gI 7 3 v1 h2).bind fun x3 =>
  (pI 7 3 v0 x3 h2).bind fun h4 =>
  (gQ 7 0 v1 h4).bind fun x5 =>
  (gQ 7 0 v0 h4).bind fun x6 =>
  (cP x5 (nI 0) x6 (nI 0) (nI 10) h4).bind fun h7 =>
  (gQ 7 1 v1 h7).bind fun x8 =>
  (gQ 7 1 v0 h7).bind fun x9 =>
  (cP x8 (nI 0) x9 (nI 0) (nI 10) h7).bind fun h10 =>
  some h10
theorem u_84_0 (d : Nat) (hd : 0 ≤ d) (v0 : Option Nat) (v1 : Option Nat)  (h : Hp) (r : Hp) (hb : b_84_0 v0 v1  h = some r) : Rn d 84 0 [some (va_rf v0), some (va_rf v1)] [] h (none, r) := by
  unfold b_84_0 at hb
  refine rn_aload_n (i := 0) rfl rfl ?_
  refine rn_aload_n (i := 1) rfl rfl ?_
  refine rn_gQ (c := 7) (k := 2) rfl (by decide) hb (fun x1 hb => ?_)
  refine rn_pQ (c := 7) (k := 2) rfl (by decide) hb (fun h2 hb => ?_)
  refine rn_aload_n (i := 0) rfl rfl ?_
  refine rn_aload_n (i := 1) rfl rfl ?_
  refine rn_gI (c := 7) (k := 3) rfl (by decide) hb (fun x3 hb => ?_)
  refine rn_pI (c := 7) (k := 3) rfl (by decide) hb (fun h4 hb => ?_)
  refine rn_aload_n (i := 1) rfl rfl ?_
  refine rn_gQ (c := 7) (k := 0) rfl (by decide) hb (fun x5 hb => ?_)
  refine rn_iconst (x := (nI 0)) rfl (by decide) ?_
  refine rn_aload_n (i := 0) rfl rfl ?_
  refine rn_gQ (c := 7) (k := 0) rfl (by decide) hb (fun x6 hb => ?_)
  refine rn_iconst (x := (nI 0)) rfl (by decide) ?_
  refine rn_bipush (x := (nI 10)) rfl (by decide) ?_
  refine rn_copy rfl (by decide) hb (fun h7 hb => ?_)
  refine rn_aload_n (i := 1) rfl rfl ?_
  refine rn_gQ (c := 7) (k := 1) rfl (by decide) hb (fun x8 hb => ?_)
  refine rn_iconst (x := (nI 0)) rfl (by decide) ?_
  refine rn_aload_n (i := 0) rfl rfl ?_
  refine rn_gQ (c := 7) (k := 1) rfl (by decide) hb (fun x9 hb => ?_)
  refine rn_iconst (x := (nI 0)) rfl (by decide) ?_
  refine rn_bipush (x := (nI 10)) rfl (by decide) ?_
  refine rn_copy rfl (by decide) hb (fun h10 hb => ?_)
  obtain rfl := Option.some.inj hb
  exact rn_vret rfl rfl
/-- BitingDoors$Scene.copy(LBitingDoors$Scene;)V -/
def f_84 (v0 : Option Nat) (v1 : Option Nat) (h : Hp) : Option (Hp) := b_84_0 v0 v1 h
theorem t_84 (d : Nat) (hd : 0 ≤ d) (v0 : Option Nat) (v1 : Option Nat) (h : Hp) (r : Hp) (hb : f_84 v0 v1 h = some r) : Rn d 84 0 [some (va_rf v0), some (va_rf v1)] [] h (none, r) := by
  unfold f_84 at hb
  exact u_84_0 d hd v0 v1 h r hb
def b_71_87   (h : Hp) : Option (Int32 × Hp) :=
  some ((-1 : Int32), h)
theorem u_71_87 (d : Nat) (hd : 5 ≤ d) (v0 : Option Nat) (v1 : Option Nat) (v2 : Int32) (v3 : Int32)  (h : Hp) (r : Int32 × Hp) (hb : b_71_87   h = some r) : Rn d 71 87 [some (va_rf v0), some (va_rf v1), some (.int v2), some (.int v3)] [] h (some (.int r.1), r.2) := by
  unfold b_71_87 at hb
  refine rn_iconst (x := (-1 : Int32)) rfl (by decide) ?_
  obtain rfl := Option.some.inj hb
  exact rn_iret rfl rfl
def b_71_71 (k36 : Option Nat → Int32 → Int32 → Hp → Option (Int32 × Hp)) (v0 : Option Nat) (v2 : Int32) (v3 : Int32)  (h : Hp) : Option (Int32 × Hp) :=
  (gQ 6 4 v0 h).bind fun x1 =>
  (aI 12 x1 v3 h).bind fun x2 =>
  (grd (rC 6 v0 h)).bind fun _ =>
  (f_73 v0 x2 h).bind fun p3 =>
  bnd (v3 + (nI 1)) fun x4 =>
  k36 v0 v2 x4 p3
theorem u_71_71 (d : Nat) (hd : 5 ≤ d) (k36 : Option Nat → Int32 → Int32 → Hp → Option (Int32 × Hp)) (K36 : ∀ (v0 : Option Nat) (v1 : Option Nat) (v2 : Int32) (v3 : Int32) (h : Hp) (r : Int32 × Hp), k36 v0 v2 v3 h = some r → Rn d 71 36 [some (va_rf v0), some (va_rf v1), some (.int v2), some (.int v3)] [] h (some (.int r.1), r.2)) (v0 : Option Nat) (v1 : Option Nat) (v2 : Int32) (v3 : Int32)  (h : Hp) (r : Int32 × Hp) (hb : b_71_71 k36 v0 v2 v3  h = some r) : Rn d 71 71 [some (va_rf v0), some (va_rf v1), some (.int v2), some (.int v3)] [] h (some (.int r.1), r.2) := by
  unfold b_71_71 at hb
  obtain ⟨e, rfl⟩ : ∃ e, d = e + 1 := ⟨d - 1, by omega⟩
  refine rn_aload_n (i := 0) rfl rfl ?_
  refine rn_aload_n (i := 0) rfl rfl ?_
  refine rn_gQ (c := 6) (k := 4) rfl (by decide) hb (fun x1 hb => ?_)
  refine rn_iload_n (i := 3) rfl rfl ?_
  refine rn_aI rfl hb (fun x2 hb => ?_)
  obtain ⟨hrc, hb⟩ := grd_spec hb
  obtain ⟨p3, hc, hb⟩ := Option.bind_eq_some_iff.mp hb
  refine Rn.call0 (d := e) (As := [va_rf v0, .int x2]) (rest := []) rfl rfl rfl (by decide) rfl rfl rfl (bd_rcV hrc rfl) (by decide) (bd_lenC (n := 4) rfl (bd_slR (bd_slI bd_slN)) rfl) (bd_locC (n := 4) rfl (bd_slR (bd_slI bd_slN)) rfl (t_73 e (by omega) v0 x2 h _ hc)) ?_
  obtain ⟨x4, ex4, hb⟩ := bnd_spec hb
  refine rn_iinc (i := 3) (y := x4) (L1 := [some (va_rf v0), some (va_rf v1), some (.int v2), some (.int x4)]) rfl rfl (Nat.le_of_ble_eq_true rfl) (Or.inr rfl) (by rw [ex4]; rfl) rfl ?_
  refine rn_goto rfl rfl ?_
  exact K36 v0 v1 v2 x4 p3 _ hb
def b_71_64 (v0 : Option Nat) (v3 : Int32)  (h : Hp) : Option (Int32 × Hp) :=
  (gQ 6 4 v0 h).bind fun x1 =>
  (aI 12 x1 v3 h).bind fun x2 =>
  some (x2, h)
theorem u_71_64 (d : Nat) (hd : 5 ≤ d) (v0 : Option Nat) (v1 : Option Nat) (v2 : Int32) (v3 : Int32)  (h : Hp) (r : Int32 × Hp) (hb : b_71_64 v0 v3  h = some r) : Rn d 71 64 [some (va_rf v0), some (va_rf v1), some (.int v2), some (.int v3)] [] h (some (.int r.1), r.2) := by
  unfold b_71_64 at hb
  refine rn_aload_n (i := 0) rfl rfl ?_
  refine rn_gQ (c := 6) (k := 4) rfl (by decide) hb (fun x1 hb => ?_)
  refine rn_iload_n (i := 3) rfl rfl ?_
  refine rn_aI rfl hb (fun x2 hb => ?_)
  obtain rfl := Option.some.inj hb
  exact rn_iret rfl rfl
def b_71_51 (k36 : Option Nat → Int32 → Int32 → Hp → Option (Int32 × Hp)) (v0 : Option Nat) (v2 : Int32) (v3 : Int32)  (h : Hp) : Option (Int32 × Hp) :=
  (gQ 6 4 v0 h).bind fun x1 =>
  (aI 12 x1 v3 h).bind fun x2 =>
  (grd (decide (¬ ((nI 100) : Int32) = 0))).bind fun _ =>
  if ¬ (x2 - x2 / (nI 100) * (nI 100)) = v2 then b_71_71 k36 v0 v2 v3  h else b_71_64 v0 v3  h
theorem u_71_51 (d : Nat) (hd : 5 ≤ d) (k36 : Option Nat → Int32 → Int32 → Hp → Option (Int32 × Hp)) (K36 : ∀ (v0 : Option Nat) (v1 : Option Nat) (v2 : Int32) (v3 : Int32) (h : Hp) (r : Int32 × Hp), k36 v0 v2 v3 h = some r → Rn d 71 36 [some (va_rf v0), some (va_rf v1), some (.int v2), some (.int v3)] [] h (some (.int r.1), r.2)) (v0 : Option Nat) (v1 : Option Nat) (v2 : Int32) (v3 : Int32)  (h : Hp) (r : Int32 × Hp) (hb : b_71_51 k36 v0 v2 v3  h = some r) : Rn d 71 51 [some (va_rf v0), some (va_rf v1), some (.int v2), some (.int v3)] [] h (some (.int r.1), r.2) := by
  unfold b_71_51 at hb
  refine rn_aload_n (i := 0) rfl rfl ?_
  refine rn_gQ (c := 6) (k := 4) rfl (by decide) hb (fun x1 hb => ?_)
  refine rn_iload_n (i := 3) rfl rfl ?_
  refine rn_aI rfl hb (fun x2 hb => ?_)
  refine rn_bipush (x := (nI 100)) rfl (by decide) ?_
  obtain ⟨hy, hb⟩ := grd_spec hb
  refine rn_irem rfl (of_decide_eq_true hy) ?_
  refine rn_iload_n (i := 2) rfl rfl ?_
  refine rn_icmp_ne rfl rfl (fun hc => ?_) (fun hc => ?_)
  · exact u_71_71 d hd k36 K36 v0 v1 v2 v3  h _ (if_t hb hc)
  · exact u_71_64 d hd v0 v1 v2 v3  h _ (if_f hb hc)
def b_71_44 (k36 : Option Nat → Int32 → Int32 → Hp → Option (Int32 × Hp)) (v0 : Option Nat) (v2 : Int32) (v3 : Int32)  (h : Hp) : Option (Int32 × Hp) :=
  if (nI 24300) ≤ v3 then b_71_87   h else b_71_51 k36 v0 v2 v3  h
theorem u_71_44 (d : Nat) (hd : 5 ≤ d) (k36 : Option Nat → Int32 → Int32 → Hp → Option (Int32 × Hp)) (K36 : ∀ (v0 : Option Nat) (v1 : Option Nat) (v2 : Int32) (v3 : Int32) (h : Hp) (r : Int32 × Hp), k36 v0 v2 v3 h = some r → Rn d 71 36 [some (va_rf v0), some (va_rf v1), some (.int v2), some (.int v3)] [] h (some (.int r.1), r.2)) (v0 : Option Nat) (v1 : Option Nat) (v2 : Int32) (v3 : Int32)  (h : Hp) (r : Int32 × Hp) (hb : b_71_44 k36 v0 v2 v3  h = some r) : Rn d 71 44 [some (va_rf v0), some (va_rf v1), some (.int v2), some (.int v3)] [] h (some (.int r.1), r.2) := by
  unfold b_71_44 at hb
  refine rn_iload_n (i := 3) rfl rfl ?_
  refine rn_sipush (x := (nI 24300)) rfl (by decide) ?_
  refine rn_icmp_ge rfl rfl (fun hc => ?_) (fun hc => ?_)
  · exact u_71_87 d hd v0 v1 v2 v3  h _ (if_t hb hc)
  · exact u_71_51 d hd k36 K36 v0 v1 v2 v3  h _ (if_f hb hc)
def b_71_36 (k36 : Option Nat → Int32 → Int32 → Hp → Option (Int32 × Hp)) (v0 : Option Nat) (v2 : Int32) (v3 : Int32)  (h : Hp) : Option (Int32 × Hp) :=
  (gI 6 5 v0 h).bind fun x1 =>
  if x1 ≤ v3 then b_71_87   h else b_71_44 k36 v0 v2 v3  h
theorem u_71_36 (d : Nat) (hd : 5 ≤ d) (k36 : Option Nat → Int32 → Int32 → Hp → Option (Int32 × Hp)) (K36 : ∀ (v0 : Option Nat) (v1 : Option Nat) (v2 : Int32) (v3 : Int32) (h : Hp) (r : Int32 × Hp), k36 v0 v2 v3 h = some r → Rn d 71 36 [some (va_rf v0), some (va_rf v1), some (.int v2), some (.int v3)] [] h (some (.int r.1), r.2)) (v0 : Option Nat) (v1 : Option Nat) (v2 : Int32) (v3 : Int32)  (h : Hp) (r : Int32 × Hp) (hb : b_71_36 k36 v0 v2 v3  h = some r) : Rn d 71 36 [some (va_rf v0), some (va_rf v1), some (.int v2), some (.int v3)] [] h (some (.int r.1), r.2) := by
  unfold b_71_36 at hb
  refine rn_iload_n (i := 3) rfl rfl ?_
  refine rn_aload_n (i := 0) rfl rfl ?_
  refine rn_gI (c := 6) (k := 5) rfl (by decide) hb (fun x1 hb => ?_)
  refine rn_icmp_ge rfl rfl (fun hc => ?_) (fun hc => ?_)
  · exact u_71_87 d hd v0 v1 v2 v3  h _ (if_t hb hc)
  · exact u_71_44 d hd k36 K36 v0 v1 v2 v3  h _ (if_f hb hc)
def l_71_36 : Nat → Option Nat → Int32 → Int32 → Hp → Option (Int32 × Hp)
  | 0, _, _, _, _ => none
  | n + 1, v0, v2, v3, h => b_71_36 (l_71_36 n) v0 v2 v3 h
theorem w_71_36 (d : Nat) (hd : 5 ≤ d) : ∀ (n : Nat) (v0 : Option Nat) (v1 : Option Nat) (v2 : Int32) (v3 : Int32) (h : Hp) (r : Int32 × Hp), l_71_36 n v0 v2 v3 h = some r → Rn d 71 36 [some (va_rf v0), some (va_rf v1), some (.int v2), some (.int v3)] [] h (some (.int r.1), r.2) := by
  intro n
  induction n with
  | zero => intro v0 v1 v2 v3 h r hb; cases hb
  | succ n ih => intro v0 v1 v2 v3 h r hb; exact u_71_36 d hd (l_71_36 n) ih v0 v1 v2 v3 h r hb
def b_71_0 (v0 : Option Nat) (v1 : Option Nat) (v2 : Int32)  (h : Hp) : Option (Int32 × Hp) :=
  (grd (rC 6 v0 h)).bind fun _ =>
  (f_72 v0 h).bind fun p1 =>
  (gQ 6 3 v0 p1).bind fun x2 =>
  (f_306 x2 (nI 0) p1).bind fun p3 =>
  (gQ 6 2 v0 p3).bind fun x4 =>
  (grd (rC 7 x4 p3)).bind fun _ =>
  (f_84 x4 v1 p3).bind fun p5 =>
  (pI 6 5 v0 (nI 0) p5).bind fun h6 =>
  (grd (rC 6 v0 h6)).bind fun _ =>
  (f_75 v0 h6).bind fun p7 =>
  (grd (rC 6 v0 p7.2)).bind fun _ =>
  (f_74 v0 p7.1 (nI 1) p7.2).bind fun p8 =>
  bnd ((nI 0)) fun x9 =>
  l_71_36 FU v0 v2 x9 p8
theorem u_71_0 (d : Nat) (hd : 5 ≤ d) (v0 : Option Nat) (v1 : Option Nat) (v2 : Int32)  (h : Hp) (r : Int32 × Hp) (hb : b_71_0 v0 v1 v2  h = some r) : Rn d 71 0 [some (va_rf v0), some (va_rf v1), some (.int v2), none] [] h (some (.int r.1), r.2) := by
  unfold b_71_0 at hb
  obtain ⟨e, rfl⟩ : ∃ e, d = e + 1 := ⟨d - 1, by omega⟩
  refine rn_aload_n (i := 0) rfl rfl ?_
  obtain ⟨hrc, hb⟩ := grd_spec hb
  obtain ⟨p1, hc, hb⟩ := Option.bind_eq_some_iff.mp hb
  refine Rn.call0 (d := e) (As := [va_rf v0]) (rest := []) rfl rfl rfl (by decide) rfl rfl rfl (bd_rcV hrc rfl) (by decide) (bd_lenC (n := 1) rfl (bd_slR bd_slN) rfl) (bd_locC (n := 1) rfl (bd_slR bd_slN) rfl (t_72 e (by omega) v0 h _ hc)) ?_
  refine rn_aload_n (i := 0) rfl rfl ?_
  refine rn_gQ (c := 6) (k := 3) rfl (by decide) hb (fun x2 hb => ?_)
  refine rn_iconst (x := (nI 0)) rfl (by decide) ?_
  obtain ⟨p3, hc, hb⟩ := Option.bind_eq_some_iff.mp hb
  refine Rn.call0 (d := e) (As := [va_rf x2, .int (nI 0)]) (rest := []) rfl rfl rfl (by decide) rfl rfl rfl rfl (by decide) (bd_lenC (n := 4) rfl (bd_slR (bd_slI bd_slN)) rfl) (bd_locC (n := 4) rfl (bd_slR (bd_slI bd_slN)) rfl (t_306 e (by omega) x2 (nI 0) p1 _ hc)) ?_
  refine rn_aload_n (i := 0) rfl rfl ?_
  refine rn_gQ (c := 6) (k := 2) rfl (by decide) hb (fun x4 hb => ?_)
  refine rn_aload_n (i := 1) rfl rfl ?_
  obtain ⟨hrc, hb⟩ := grd_spec hb
  obtain ⟨p5, hc, hb⟩ := Option.bind_eq_some_iff.mp hb
  refine Rn.call0 (d := e) (As := [va_rf x4, va_rf v1]) (rest := []) rfl rfl rfl (by decide) rfl rfl rfl (bd_rcV hrc rfl) (by decide) (bd_lenC (n := 2) rfl (bd_slR (bd_slR bd_slN)) rfl) (bd_locC (n := 2) rfl (bd_slR (bd_slR bd_slN)) rfl (t_84 e (by omega) x4 v1 p3 _ hc)) ?_
  refine rn_aload_n (i := 0) rfl rfl ?_
  refine rn_iconst (x := (nI 0)) rfl (by decide) ?_
  refine rn_pI (c := 6) (k := 5) rfl (by decide) hb (fun h6 hb => ?_)
  refine rn_aload_n (i := 0) rfl rfl ?_
  refine rn_aload_n (i := 0) rfl rfl ?_
  obtain ⟨hrc, hb⟩ := grd_spec hb
  obtain ⟨p7, hc, hb⟩ := Option.bind_eq_some_iff.mp hb
  refine Rn.call1 (d := e) (As := [va_rf v0]) (rest := [va_rf v0]) rfl rfl rfl (by decide) rfl rfl rfl (bd_rcV hrc rfl) (by rw [bd_cR (bd_cN)]; decide) (bd_lenC (n := 3) rfl (bd_slR bd_slN) rfl) (bd_locC (n := 3) rfl (bd_slR bd_slN) rfl (t_75 e (by omega) v0 h6 _ hc)) ?_
  refine rn_iconst (x := (nI 1)) rfl (by decide) ?_
  obtain ⟨hrc, hb⟩ := grd_spec hb
  obtain ⟨p8, hc, hb⟩ := Option.bind_eq_some_iff.mp hb
  refine Rn.call0 (d := e) (As := [va_rf v0, .int p7.1, .int (nI 1)]) (rest := []) rfl rfl rfl (by decide) rfl rfl rfl (bd_rcV hrc rfl) (by decide) (bd_lenC (n := 3) rfl (bd_slR (bd_slI (bd_slI bd_slN))) rfl) (bd_locC (n := 3) rfl (bd_slR (bd_slI (bd_slI bd_slN))) rfl (t_74 e (by omega) v0 p7.1 (nI 1) p7.2 _ hc)) ?_
  refine rn_iconst (x := (nI 0)) rfl (by decide) ?_
  obtain ⟨x9, ex9, hb⟩ := bnd_spec hb
  refine rn_istore_n (i := 3) (L1 := [some (va_rf v0), some (va_rf v1), some (.int v2), some (.int x9)]) rfl (Nat.le_of_ble_eq_true rfl) (Or.inr rfl) (by rw [ex9]; rfl) ?_
  exact w_71_36 (e + 1) hd FU v0 v1 v2 x9 p8 _ hb
/-- BitingDoors$Paths.find(LBitingDoors$Scene;I)I -/
def f_71 (v0 : Option Nat) (v1 : Option Nat) (v2 : Int32) (h : Hp) : Option (Int32 × Hp) := b_71_0 v0 v1 v2 h
theorem t_71 (d : Nat) (hd : 5 ≤ d) (v0 : Option Nat) (v1 : Option Nat) (v2 : Int32) (h : Hp) (r : Int32 × Hp) (hb : f_71 v0 v1 v2 h = some r) : Rn d 71 0 [some (va_rf v0), some (va_rf v1), some (.int v2), none] [] h (some (.int r.1), r.2) := by
  unfold f_71 at hb
  exact u_71_0 d hd v0 v1 v2 h r hb
def b_77_0 (v0 : Option Nat) (v1 : Int32)  (h : Hp) : Option (Int32 × Hp) :=
  (gQ 6 3 v0 h).bind fun x1 =>
  (aI 12 x1 v1 h).bind fun x2 =>
  (grd (decide (¬ ((nI 16) : Int32) = 0))).bind fun _ =>
  some ((((x2 - (nI 1)) - (nI 1)) / (nI 16)), h)
theorem u_77_0 (d : Nat) (hd : 0 ≤ d) (v0 : Option Nat) (v1 : Int32)  (h : Hp) (r : Int32 × Hp) (hb : b_77_0 v0 v1  h = some r) : Rn d 77 0 [some (va_rf v0), some (.int v1)] [] h (some (.int r.1), r.2) := by
  unfold b_77_0 at hb
  refine rn_aload_n (i := 0) rfl rfl ?_
  refine rn_gQ (c := 6) (k := 3) rfl (by decide) hb (fun x1 hb => ?_)
  refine rn_iload_n (i := 1) rfl rfl ?_
  refine rn_aI rfl hb (fun x2 hb => ?_)
  refine rn_iconst (x := (nI 1)) rfl (by decide) ?_
  refine rn_isub rfl ?_
  refine rn_iconst (x := (nI 1)) rfl (by decide) ?_
  refine rn_isub rfl ?_
  refine rn_bipush (x := (nI 16)) rfl (by decide) ?_
  obtain ⟨hy, hb⟩ := grd_spec hb
  refine rn_idiv rfl (of_decide_eq_true hy) ?_
  obtain rfl := Option.some.inj hb
  exact rn_iret rfl rfl
/-- BitingDoors$Paths.forerunner(I)I -/
def f_77 (v0 : Option Nat) (v1 : Int32) (h : Hp) : Option (Int32 × Hp) := b_77_0 v0 v1 h
theorem t_77 (d : Nat) (hd : 0 ≤ d) (v0 : Option Nat) (v1 : Int32) (h : Hp) (r : Int32 × Hp) (hb : f_77 v0 v1 h = some r) : Rn d 77 0 [some (va_rf v0), some (.int v1)] [] h (some (.int r.1), r.2) := by
  unfold f_77 at hb
  exact u_77_0 d hd v0 v1 h r hb
def b_78_33 (v2 : Int32)  (h : Hp) : Option (Int32 × Hp) :=
  some (v2, h)
theorem u_78_33 (d : Nat) (hd : 1 ≤ d) (v0 : Option Nat) (v1 : Int32) (v2 : Int32) (v3 : Int32)  (h : Hp) (r : Int32 × Hp) (hb : b_78_33 v2  h = some r) : Rn d 78 33 [some (va_rf v0), some (.int v1), some (.int v2), some (.int v3)] [] h (some (.int r.1), r.2) := by
  unfold b_78_33 at hb
  refine rn_iload_n (i := 2) rfl rfl ?_
  obtain rfl := Option.some.inj hb
  exact rn_iret rfl rfl
def b_78_21 (k4 : Option Nat → Int32 → Int32 → Hp → Option (Int32 × Hp)) (v0 : Option Nat) (v2 : Int32) (v3 : Int32)  (h : Hp) : Option (Int32 × Hp) :=
  (grd (rC 6 v0 h)).bind fun _ =>
  (f_77 v0 v3 h).bind fun p1 =>
  bnd (p1.1) fun x2 =>
  bnd (v2 + (nI 1)) fun x3 =>
  k4 v0 x3 x2 p1.2
theorem u_78_21 (d : Nat) (hd : 1 ≤ d) (k4 : Option Nat → Int32 → Int32 → Hp → Option (Int32 × Hp)) (K4 : ∀ (v0 : Option Nat) (v1 : Int32) (v2 : Int32) (v3 : Int32) (h : Hp) (r : Int32 × Hp), k4 v0 v2 v3 h = some r → Rn d 78 4 [some (va_rf v0), some (.int v1), some (.int v2), some (.int v3)] [] h (some (.int r.1), r.2)) (v0 : Option Nat) (v1 : Int32) (v2 : Int32) (v3 : Int32)  (h : Hp) (r : Int32 × Hp) (hb : b_78_21 k4 v0 v2 v3  h = some r) : Rn d 78 21 [some (va_rf v0), some (.int v1), some (.int v2), some (.int v3)] [] h (some (.int r.1), r.2) := by
  unfold b_78_21 at hb
  obtain ⟨e, rfl⟩ : ∃ e, d = e + 1 := ⟨d - 1, by omega⟩
  refine rn_aload_n (i := 0) rfl rfl ?_
  refine rn_iload_n (i := 3) rfl rfl ?_
  obtain ⟨hrc, hb⟩ := grd_spec hb
  obtain ⟨p1, hc, hb⟩ := Option.bind_eq_some_iff.mp hb
  refine Rn.call1 (d := e) (As := [va_rf v0, .int v3]) (rest := []) rfl rfl rfl (by decide) rfl rfl rfl (bd_rcV hrc rfl) (by decide) (bd_lenC (n := 2) rfl (bd_slR (bd_slI bd_slN)) rfl) (bd_locC (n := 2) rfl (bd_slR (bd_slI bd_slN)) rfl (t_77 e (by omega) v0 v3 h _ hc)) ?_
  obtain ⟨x2, ex2, hb⟩ := bnd_spec hb
  refine rn_istore_n (i := 3) (L1 := [some (va_rf v0), some (.int v1), some (.int v2), some (.int x2)]) rfl (Nat.le_of_ble_eq_true rfl) (Or.inr rfl) (by rw [ex2]; rfl) ?_
  obtain ⟨x3, ex3, hb⟩ := bnd_spec hb
  refine rn_iinc (i := 2) (y := x3) (L1 := [some (va_rf v0), some (.int v1), some (.int x3), some (.int x2)]) rfl rfl (Nat.le_of_ble_eq_true rfl) (Or.inr rfl) (by rw [ex3]; rfl) rfl ?_
  refine rn_goto rfl rfl ?_
  exact K4 v0 v1 x3 x2 p1.2 _ hb
def b_78_11 (k4 : Option Nat → Int32 → Int32 → Hp → Option (Int32 × Hp)) (v0 : Option Nat) (v2 : Int32) (v3 : Int32)  (h : Hp) : Option (Int32 × Hp) :=
  (gQ 6 3 v0 h).bind fun x1 =>
  (aI 12 x1 v3 h).bind fun x2 =>
  if x2 = (nI 1) then b_78_33 v2  h else b_78_21 k4 v0 v2 v3  h
theorem u_78_11 (d : Nat) (hd : 1 ≤ d) (k4 : Option Nat → Int32 → Int32 → Hp → Option (Int32 × Hp)) (K4 : ∀ (v0 : Option Nat) (v1 : Int32) (v2 : Int32) (v3 : Int32) (h : Hp) (r : Int32 × Hp), k4 v0 v2 v3 h = some r → Rn d 78 4 [some (va_rf v0), some (.int v1), some (.int v2), some (.int v3)] [] h (some (.int r.1), r.2)) (v0 : Option Nat) (v1 : Int32) (v2 : Int32) (v3 : Int32)  (h : Hp) (r : Int32 × Hp) (hb : b_78_11 k4 v0 v2 v3  h = some r) : Rn d 78 11 [some (va_rf v0), some (.int v1), some (.int v2), some (.int v3)] [] h (some (.int r.1), r.2) := by
  unfold b_78_11 at hb
  refine rn_aload_n (i := 0) rfl rfl ?_
  refine rn_gQ (c := 6) (k := 3) rfl (by decide) hb (fun x1 hb => ?_)
  refine rn_iload_n (i := 3) rfl rfl ?_
  refine rn_aI rfl hb (fun x2 hb => ?_)
  refine rn_iconst (x := (nI 1)) rfl (by decide) ?_
  refine rn_icmp_eq rfl rfl (fun hc => ?_) (fun hc => ?_)
  · exact u_78_33 d hd v0 v1 v2 v3  h _ (if_t hb hc)
  · exact u_78_21 d hd k4 K4 v0 v1 v2 v3  h _ (if_f hb hc)
def b_78_4 (k4 : Option Nat → Int32 → Int32 → Hp → Option (Int32 × Hp)) (v0 : Option Nat) (v2 : Int32) (v3 : Int32)  (h : Hp) : Option (Int32 × Hp) :=
  if (nI 24300) ≤ v2 then b_78_33 v2  h else b_78_11 k4 v0 v2 v3  h
theorem u_78_4 (d : Nat) (hd : 1 ≤ d) (k4 : Option Nat → Int32 → Int32 → Hp → Option (Int32 × Hp)) (K4 : ∀ (v0 : Option Nat) (v1 : Int32) (v2 : Int32) (v3 : Int32) (h : Hp) (r : Int32 × Hp), k4 v0 v2 v3 h = some r → Rn d 78 4 [some (va_rf v0), some (.int v1), some (.int v2), some (.int v3)] [] h (some (.int r.1), r.2)) (v0 : Option Nat) (v1 : Int32) (v2 : Int32) (v3 : Int32)  (h : Hp) (r : Int32 × Hp) (hb : b_78_4 k4 v0 v2 v3  h = some r) : Rn d 78 4 [some (va_rf v0), some (.int v1), some (.int v2), some (.int v3)] [] h (some (.int r.1), r.2) := by
  unfold b_78_4 at hb
  refine rn_iload_n (i := 2) rfl rfl ?_
  refine rn_sipush (x := (nI 24300)) rfl (by decide) ?_
  refine rn_icmp_ge rfl rfl (fun hc => ?_) (fun hc => ?_)
  · exact u_78_33 d hd v0 v1 v2 v3  h _ (if_t hb hc)
  · exact u_78_11 d hd k4 K4 v0 v1 v2 v3  h _ (if_f hb hc)
def l_78_4 : Nat → Option Nat → Int32 → Int32 → Hp → Option (Int32 × Hp)
  | 0, _, _, _, _ => none
  | n + 1, v0, v2, v3, h => b_78_4 (l_78_4 n) v0 v2 v3 h
theorem w_78_4 (d : Nat) (hd : 1 ≤ d) : ∀ (n : Nat) (v0 : Option Nat) (v1 : Int32) (v2 : Int32) (v3 : Int32) (h : Hp) (r : Int32 × Hp), l_78_4 n v0 v2 v3 h = some r → Rn d 78 4 [some (va_rf v0), some (.int v1), some (.int v2), some (.int v3)] [] h (some (.int r.1), r.2) := by
  intro n
  induction n with
  | zero => intro v0 v1 v2 v3 h r hb; cases hb
  | succ n ih => intro v0 v1 v2 v3 h r hb; exact u_78_4 d hd (l_78_4 n) ih v0 v1 v2 v3 h r hb
def b_78_0 (v0 : Option Nat) (v1 : Int32)  (h : Hp) : Option (Int32 × Hp) :=
  bnd ((nI 0)) fun x1 =>
  l_78_4 FU v0 x1 v1 h
theorem u_78_0 (d : Nat) (hd : 1 ≤ d) (v0 : Option Nat) (v1 : Int32)  (h : Hp) (r : Int32 × Hp) (hb : b_78_0 v0 v1  h = some r) : Rn d 78 0 [some (va_rf v0), some (.int v1), none, none] [] h (some (.int r.1), r.2) := by
  unfold b_78_0 at hb
  refine rn_iconst (x := (nI 0)) rfl (by decide) ?_
  obtain ⟨x1, ex1, hb⟩ := bnd_spec hb
  refine rn_istore_n (i := 2) (L1 := [some (va_rf v0), some (.int v1), some (.int x1), none]) rfl (Nat.le_of_ble_eq_true rfl) (Or.inr rfl) (by rw [ex1]; rfl) ?_
  refine rn_iload_n (i := 1) rfl rfl ?_
  refine rn_istore_n (i := 3) (L1 := [some (va_rf v0), some (.int v1), some (.int x1), some (.int v1)]) rfl (Nat.le_of_ble_eq_true rfl) (Or.inr rfl) rfl ?_
  exact w_78_4 d hd FU v0 v1 x1 v1 h _ hb
/-- BitingDoors$Paths.minutesTo(I)I -/
def f_78 (v0 : Option Nat) (v1 : Int32) (h : Hp) : Option (Int32 × Hp) := b_78_0 v0 v1 h
theorem t_78 (d : Nat) (hd : 1 ≤ d) (v0 : Option Nat) (v1 : Int32) (h : Hp) (r : Int32 × Hp) (hb : f_78 v0 v1 h = some r) : Rn d 78 0 [some (va_rf v0), some (.int v1), none, none] [] h (some (.int r.1), r.2) := by
  unfold f_78 at hb
  exact u_78_0 d hd v0 v1 h r hb
def b_79_75   (h : Hp) : Option (Hp) :=
  some h
theorem u_79_75 (d : Nat) (hd : 2 ≤ d) (v0 : Option Nat) (v1 : Int32) (v2 : Int32) (v3 : Int32)  (h : Hp) (r : Hp) (hb : b_79_75   h = some r) : Rn d 79 75 [some (va_rf v0), some (.int v1), some (.int v2), some (.int v3)] [] h (none, r) := by
  unfold b_79_75 at hb
  obtain rfl := Option.some.inj hb
  exact rn_vret rfl rfl
def b_79_44 (k40 : Option Nat → Int32 → Int32 → Hp → Option (Hp)) (v0 : Option Nat) (v2 : Int32) (v3 : Int32)  (h : Hp) : Option (Hp) :=
  (gQ 6 0 v0 h).bind fun x1 =>
  (gQ 6 3 v0 h).bind fun x2 =>
  (aI 12 x2 v2 h).bind fun x3 =>
  (grd (decide (¬ ((nI 16) : Int32) = 0))).bind fun _ =>
  (wI x1 v3 (((x3 - (nI 1)) - (nI 1)) - ((x3 - (nI 1)) - (nI 1)) / (nI 16) * (nI 16)) h).bind fun h4 =>
  (grd (rC 6 v0 h4)).bind fun _ =>
  (f_77 v0 v2 h4).bind fun p5 =>
  bnd (p5.1) fun x6 =>
  bnd (v3 + (-1 : Int32)) fun x7 =>
  k40 v0 x6 x7 p5.2
theorem u_79_44 (d : Nat) (hd : 2 ≤ d) (k40 : Option Nat → Int32 → Int32 → Hp → Option (Hp)) (K40 : ∀ (v0 : Option Nat) (v1 : Int32) (v2 : Int32) (v3 : Int32) (h : Hp) (r : Hp), k40 v0 v2 v3 h = some r → Rn d 79 40 [some (va_rf v0), some (.int v1), some (.int v2), some (.int v3)] [] h (none, r)) (v0 : Option Nat) (v1 : Int32) (v2 : Int32) (v3 : Int32)  (h : Hp) (r : Hp) (hb : b_79_44 k40 v0 v2 v3  h = some r) : Rn d 79 44 [some (va_rf v0), some (.int v1), some (.int v2), some (.int v3)] [] h (none, r) := by
  unfold b_79_44 at hb
  obtain ⟨e, rfl⟩ : ∃ e, d = e + 1 := ⟨d - 1, by omega⟩
  refine rn_aload_n (i := 0) rfl rfl ?_
  refine rn_gQ (c := 6) (k := 0) rfl (by decide) hb (fun x1 hb => ?_)
  refine rn_iload_n (i := 3) rfl rfl ?_
  refine rn_aload_n (i := 0) rfl rfl ?_
  refine rn_gQ (c := 6) (k := 3) rfl (by decide) hb (fun x2 hb => ?_)
  refine rn_iload_n (i := 2) rfl rfl ?_
  refine rn_aI rfl hb (fun x3 hb => ?_)
  refine rn_iconst (x := (nI 1)) rfl (by decide) ?_
  refine rn_isub rfl ?_
  refine rn_iconst (x := (nI 1)) rfl (by decide) ?_
  refine rn_isub rfl ?_
  refine rn_bipush (x := (nI 16)) rfl (by decide) ?_
  obtain ⟨hy, hb⟩ := grd_spec hb
  refine rn_irem rfl (of_decide_eq_true hy) ?_
  refine rn_wI rfl hb (fun h4 hb => ?_)
  refine rn_aload_n (i := 0) rfl rfl ?_
  refine rn_iload_n (i := 2) rfl rfl ?_
  obtain ⟨hrc, hb⟩ := grd_spec hb
  obtain ⟨p5, hc, hb⟩ := Option.bind_eq_some_iff.mp hb
  refine Rn.call1 (d := e) (As := [va_rf v0, .int v2]) (rest := []) rfl rfl rfl (by decide) rfl rfl rfl (bd_rcV hrc rfl) (by decide) (bd_lenC (n := 2) rfl (bd_slR (bd_slI bd_slN)) rfl) (bd_locC (n := 2) rfl (bd_slR (bd_slI bd_slN)) rfl (t_77 e (by omega) v0 v2 h4 _ hc)) ?_
  obtain ⟨x6, ex6, hb⟩ := bnd_spec hb
  refine rn_istore_n (i := 2) (L1 := [some (va_rf v0), some (.int v1), some (.int x6), some (.int v3)]) rfl (Nat.le_of_ble_eq_true rfl) (Or.inr rfl) (by rw [ex6]; rfl) ?_
  obtain ⟨x7, ex7, hb⟩ := bnd_spec hb
  refine rn_iinc (i := 3) (y := x7) (L1 := [some (va_rf v0), some (.int v1), some (.int x6), some (.int x7)]) rfl rfl (Nat.le_of_ble_eq_true rfl) (Or.inr rfl) (by rw [ex7]; rfl) rfl ?_
  refine rn_goto rfl rfl ?_
  exact K40 v0 v1 x6 x7 p5.2 _ hb
def b_79_40 (k40 : Option Nat → Int32 → Int32 → Hp → Option (Hp)) (v0 : Option Nat) (v2 : Int32) (v3 : Int32)  (h : Hp) : Option (Hp) :=
  if v3 < 0 then b_79_75   h else b_79_44 k40 v0 v2 v3  h
theorem u_79_40 (d : Nat) (hd : 2 ≤ d) (k40 : Option Nat → Int32 → Int32 → Hp → Option (Hp)) (K40 : ∀ (v0 : Option Nat) (v1 : Int32) (v2 : Int32) (v3 : Int32) (h : Hp) (r : Hp), k40 v0 v2 v3 h = some r → Rn d 79 40 [some (va_rf v0), some (.int v1), some (.int v2), some (.int v3)] [] h (none, r)) (v0 : Option Nat) (v1 : Int32) (v2 : Int32) (v3 : Int32)  (h : Hp) (r : Hp) (hb : b_79_40 k40 v0 v2 v3  h = some r) : Rn d 79 40 [some (va_rf v0), some (.int v1), some (.int v2), some (.int v3)] [] h (none, r) := by
  unfold b_79_40 at hb
  refine rn_iload_n (i := 3) rfl rfl ?_
  refine rn_if_lt rfl rfl (fun hc => ?_) (fun hc => ?_)
  · exact u_79_75 d hd v0 v1 v2 v3  h _ (if_t hb hc)
  · exact u_79_44 d hd k40 K40 v0 v1 v2 v3  h _ (if_f hb hc)
def l_79_40 : Nat → Option Nat → Int32 → Int32 → Hp → Option (Hp)
  | 0, _, _, _, _ => none
  | n + 1, v0, v2, v3, h => b_79_40 (l_79_40 n) v0 v2 v3 h
theorem w_79_40 (d : Nat) (hd : 2 ≤ d) : ∀ (n : Nat) (v0 : Option Nat) (v1 : Int32) (v2 : Int32) (v3 : Int32) (h : Hp) (r : Hp), l_79_40 n v0 v2 v3 h = some r → Rn d 79 40 [some (va_rf v0), some (.int v1), some (.int v2), some (.int v3)] [] h (none, r) := by
  intro n
  induction n with
  | zero => intro v0 v1 v2 v3 h r hb; cases hb
  | succ n ih => intro v0 v1 v2 v3 h r hb; exact u_79_40 d hd (l_79_40 n) ih v0 v1 v2 v3 h r hb
def b_79_31 (v0 : Option Nat) (v1 : Int32)  (h : Hp) : Option (Hp) :=
  (gI 6 1 v0 h).bind fun x1 =>
  bnd ((x1 - (nI 1))) fun x2 =>
  l_79_40 FU v0 v1 x2 h
theorem u_79_31 (d : Nat) (hd : 2 ≤ d) (v0 : Option Nat) (v1 : Int32)  (h : Hp) (r : Hp) (hb : b_79_31 v0 v1  h = some r) : Rn d 79 31 [some (va_rf v0), some (.int v1), none, none] [] h (none, r) := by
  unfold b_79_31 at hb
  refine rn_iload_n (i := 1) rfl rfl ?_
  refine rn_istore_n (i := 2) (L1 := [some (va_rf v0), some (.int v1), some (.int v1), none]) rfl (Nat.le_of_ble_eq_true rfl) (Or.inr rfl) rfl ?_
  refine rn_aload_n (i := 0) rfl rfl ?_
  refine rn_gI (c := 6) (k := 1) rfl (by decide) hb (fun x1 hb => ?_)
  refine rn_iconst (x := (nI 1)) rfl (by decide) ?_
  refine rn_isub rfl ?_
  obtain ⟨x2, ex2, hb⟩ := bnd_spec hb
  refine rn_istore_n (i := 3) (L1 := [some (va_rf v0), some (.int v1), some (.int v1), some (.int x2)]) rfl (Nat.le_of_ble_eq_true rfl) (Or.inr rfl) (by rw [ex2]; rfl) ?_
  exact w_79_40 d hd FU v0 v1 v1 x2 h _ hb
def b_79_21 (v0 : Option Nat) (v1 : Int32)  (h : Hp) : Option (Hp) :=
  (gI 6 1 v0 h).bind fun x1 =>
  (nA 12 x1 h).bind fun h2 =>
  (pQ 6 0 v0 (some (hN h)) h2).bind fun h3 =>
  b_79_31 v0 v1  h3
theorem u_79_21 (d : Nat) (hd : 2 ≤ d) (v0 : Option Nat) (v1 : Int32)  (h : Hp) (r : Hp) (hb : b_79_21 v0 v1  h = some r) : Rn d 79 21 [some (va_rf v0), some (.int v1), none, none] [] h (none, r) := by
  unfold b_79_21 at hb
  refine rn_aload_n (i := 0) rfl rfl ?_
  refine rn_aload_n (i := 0) rfl rfl ?_
  refine rn_gI (c := 6) (k := 1) rfl (by decide) hb (fun x1 hb => ?_)
  refine rn_newarray rfl hb (fun h2 hb => ?_)
  refine rn_pQ (c := 6) (k := 0) rfl (by decide) hb (fun h3 hb => ?_)
  exact u_79_31 d hd v0 v1  h3 _ hb
def b_79_0 (v0 : Option Nat) (v1 : Int32)  (h : Hp) : Option (Hp) :=
  (grd (rC 6 v0 h)).bind fun _ =>
  (f_78 v0 v1 h).bind fun p1 =>
  (pI 6 1 v0 p1.1 p1.2).bind fun h2 =>
  (gI 6 1 v0 h2).bind fun x3 =>
  (gQ 6 0 v0 h2).bind fun x4 =>
  (aL x4 h2).bind fun x5 =>
  if x3 ≤ x5 then b_79_31 v0 v1  h2 else b_79_21 v0 v1  h2
theorem u_79_0 (d : Nat) (hd : 2 ≤ d) (v0 : Option Nat) (v1 : Int32)  (h : Hp) (r : Hp) (hb : b_79_0 v0 v1  h = some r) : Rn d 79 0 [some (va_rf v0), some (.int v1), none, none] [] h (none, r) := by
  unfold b_79_0 at hb
  obtain ⟨e, rfl⟩ : ∃ e, d = e + 1 := ⟨d - 1, by omega⟩
  refine rn_aload_n (i := 0) rfl rfl ?_
  refine rn_aload_n (i := 0) rfl rfl ?_
  refine rn_iload_n (i := 1) rfl rfl ?_
  obtain ⟨hrc, hb⟩ := grd_spec hb
  obtain ⟨p1, hc, hb⟩ := Option.bind_eq_some_iff.mp hb
  refine Rn.call1 (d := e) (As := [va_rf v0, .int v1]) (rest := [va_rf v0]) rfl rfl rfl (by decide) rfl rfl rfl (bd_rcV hrc rfl) (by rw [bd_cR (bd_cN)]; decide) (bd_lenC (n := 4) rfl (bd_slR (bd_slI bd_slN)) rfl) (bd_locC (n := 4) rfl (bd_slR (bd_slI bd_slN)) rfl (t_78 e (by omega) v0 v1 h _ hc)) ?_
  refine rn_pI (c := 6) (k := 1) rfl (by decide) hb (fun h2 hb => ?_)
  refine rn_aload_n (i := 0) rfl rfl ?_
  refine rn_gI (c := 6) (k := 1) rfl (by decide) hb (fun x3 hb => ?_)
  refine rn_aload_n (i := 0) rfl rfl ?_
  refine rn_gQ (c := 6) (k := 0) rfl (by decide) hb (fun x4 hb => ?_)
  refine rn_aL rfl hb (fun x5 hb => ?_)
  refine rn_icmp_le rfl rfl (fun hc => ?_) (fun hc => ?_)
  · exact u_79_31 (e + 1) hd v0 v1  h2 _ (if_t hb hc)
  · exact u_79_21 (e + 1) hd v0 v1  h2 _ (if_f hb hc)
/-- BitingDoors$Paths.keep(I)V -/
def f_79 (v0 : Option Nat) (v1 : Int32) (h : Hp) : Option (Hp) := b_79_0 v0 v1 h
theorem t_79 (d : Nat) (hd : 2 ≤ d) (v0 : Option Nat) (v1 : Int32) (h : Hp) (r : Hp) (hb : f_79 v0 v1 h = some r) : Rn d 79 0 [some (va_rf v0), some (.int v1), none, none] [] h (none, r) := by
  unfold f_79 at hb
  exact u_79_0 d hd v0 v1 h r hb
def b_80_67 (v1 : Int32)  (h : Hp) : Option (Int32 × Hp) :=
  some (v1, h)
theorem u_80_67 (d : Nat) (hd : 0 ≤ d) (v0 : Option Nat) (v1 : Int32) (v2 : Int32) (v3 : Option (Int32)) (v4 : Option (Int32))  (h : Hp) (r : Int32 × Hp) (hb : b_80_67 v1  h = some r) : Rn d 80 67 [some (va_rf v0), some (.int v1), some (.int v2), v3.map Value.int, v4.map Value.int] [] h (some (.int r.1), r.2) := by
  unfold b_80_67 at hb
  refine rn_iload_n (i := 1) rfl rfl ?_
  obtain rfl := Option.some.inj hb
  exact rn_iret rfl rfl
def b_80_59 (k4 : Option Nat → Int32 → Int32 → Hp → Option (Int32 × Hp)) (v0 : Option Nat) (v2 : Int32) (s0 : Int32) (s1 : Int32) (h : Hp) : Option (Int32 × Hp) :=
  bnd ((s0 + s1)) fun x1 =>
  bnd (v2 + (nI 1)) fun x2 =>
  k4 v0 x1 x2 h
theorem u_80_59 (d : Nat) (hd : 0 ≤ d) (k4 : Option Nat → Int32 → Int32 → Hp → Option (Int32 × Hp)) (K4 : ∀ (v0 : Option Nat) (v1 : Int32) (v2 : Int32) (v3 : Option (Int32)) (v4 : Option (Int32)) (h : Hp) (r : Int32 × Hp), k4 v0 v1 v2 h = some r → Rn d 80 4 [some (va_rf v0), some (.int v1), some (.int v2), v3.map Value.int, v4.map Value.int] [] h (some (.int r.1), r.2)) (v0 : Option Nat) (v1 : Int32) (v2 : Int32) (v3 : Int32) (v4 : Int32) (s0 : Int32) (s1 : Int32) (h : Hp) (r : Int32 × Hp) (hb : b_80_59 k4 v0 v2 s0 s1 h = some r) : Rn d 80 59 [some (va_rf v0), some (.int v1), some (.int v2), some (.int v3), some (.int v4)] [.int s1, .int s0] h (some (.int r.1), r.2) := by
  unfold b_80_59 at hb
  refine rn_iadd rfl ?_
  obtain ⟨x1, ex1, hb⟩ := bnd_spec hb
  refine rn_istore_n (i := 1) (L1 := [some (va_rf v0), some (.int x1), some (.int v2), some (.int v3), some (.int v4)]) rfl (Nat.le_of_ble_eq_true rfl) (Or.inr (bd_wideR rfl)) (by rw [ex1]; rfl) ?_
  obtain ⟨x2, ex2, hb⟩ := bnd_spec hb
  refine rn_iinc (i := 2) (y := x2) (L1 := [some (va_rf v0), some (.int x1), some (.int x2), some (.int v3), some (.int v4)]) rfl rfl (Nat.le_of_ble_eq_true rfl) (Or.inr rfl) (by rw [ex2]; rfl) rfl ?_
  refine rn_goto rfl rfl ?_
  exact K4 v0 x1 x2 (some v3) (some v4) h _ hb
def b_80_58 (k4 : Option Nat → Int32 → Int32 → Hp → Option (Int32 × Hp)) (v0 : Option Nat) (v2 : Int32) (s0 : Int32) (h : Hp) : Option (Int32 × Hp) :=
  b_80_59 k4 v0 v2 s0 (nI 0) h
theorem u_80_58 (d : Nat) (hd : 0 ≤ d) (k4 : Option Nat → Int32 → Int32 → Hp → Option (Int32 × Hp)) (K4 : ∀ (v0 : Option Nat) (v1 : Int32) (v2 : Int32) (v3 : Option (Int32)) (v4 : Option (Int32)) (h : Hp) (r : Int32 × Hp), k4 v0 v1 v2 h = some r → Rn d 80 4 [some (va_rf v0), some (.int v1), some (.int v2), v3.map Value.int, v4.map Value.int] [] h (some (.int r.1), r.2)) (v0 : Option Nat) (v1 : Int32) (v2 : Int32) (v3 : Int32) (v4 : Int32) (s0 : Int32) (h : Hp) (r : Int32 × Hp) (hb : b_80_58 k4 v0 v2 s0 h = some r) : Rn d 80 58 [some (va_rf v0), some (.int v1), some (.int v2), some (.int v3), some (.int v4)] [.int s0] h (some (.int r.1), r.2) := by
  unfold b_80_58 at hb
  refine rn_iconst (x := (nI 0)) rfl (by decide) ?_
  exact u_80_59 d hd k4 K4 v0 v1 v2 v3 v4 s0 (nI 0) h _ hb
def b_80_54 (k4 : Option Nat → Int32 → Int32 → Hp → Option (Int32 × Hp)) (v0 : Option Nat) (v2 : Int32) (s0 : Int32) (h : Hp) : Option (Int32 × Hp) :=
  b_80_59 k4 v0 v2 s0 (nI 1) h
theorem u_80_54 (d : Nat) (hd : 0 ≤ d) (k4 : Option Nat → Int32 → Int32 → Hp → Option (Int32 × Hp)) (K4 : ∀ (v0 : Option Nat) (v1 : Int32) (v2 : Int32) (v3 : Option (Int32)) (v4 : Option (Int32)) (h : Hp) (r : Int32 × Hp), k4 v0 v1 v2 h = some r → Rn d 80 4 [some (va_rf v0), some (.int v1), some (.int v2), v3.map Value.int, v4.map Value.int] [] h (some (.int r.1), r.2)) (v0 : Option Nat) (v1 : Int32) (v2 : Int32) (v3 : Int32) (v4 : Int32) (s0 : Int32) (h : Hp) (r : Int32 × Hp) (hb : b_80_54 k4 v0 v2 s0 h = some r) : Rn d 80 54 [some (va_rf v0), some (.int v1), some (.int v2), some (.int v3), some (.int v4)] [.int s0] h (some (.int r.1), r.2) := by
  unfold b_80_54 at hb
  refine rn_iconst (x := (nI 1)) rfl (by decide) ?_
  refine rn_goto rfl rfl ?_
  exact u_80_59 d hd k4 K4 v0 v1 v2 v3 v4 s0 (nI 1) h _ hb
def b_80_49 (k4 : Option Nat → Int32 → Int32 → Hp → Option (Int32 × Hp)) (v0 : Option Nat) (v1 : Int32) (v2 : Int32) (v3 : Int32)  (h : Hp) : Option (Int32 × Hp) :=
  if v3 = 0 then b_80_58 k4 v0 v2 v1 h else b_80_54 k4 v0 v2 v1 h
theorem u_80_49 (d : Nat) (hd : 0 ≤ d) (k4 : Option Nat → Int32 → Int32 → Hp → Option (Int32 × Hp)) (K4 : ∀ (v0 : Option Nat) (v1 : Int32) (v2 : Int32) (v3 : Option (Int32)) (v4 : Option (Int32)) (h : Hp) (r : Int32 × Hp), k4 v0 v1 v2 h = some r → Rn d 80 4 [some (va_rf v0), some (.int v1), some (.int v2), v3.map Value.int, v4.map Value.int] [] h (some (.int r.1), r.2)) (v0 : Option Nat) (v1 : Int32) (v2 : Int32) (v3 : Int32) (v4 : Int32)  (h : Hp) (r : Int32 × Hp) (hb : b_80_49 k4 v0 v1 v2 v3  h = some r) : Rn d 80 49 [some (va_rf v0), some (.int v1), some (.int v2), some (.int v3), some (.int v4)] [] h (some (.int r.1), r.2) := by
  unfold b_80_49 at hb
  refine rn_iload_n (i := 1) rfl rfl ?_
  refine rn_iload_n (i := 3) rfl rfl ?_
  refine rn_if_eq rfl rfl (fun hc => ?_) (fun hc => ?_)
  · exact u_80_58 d hd k4 K4 v0 v1 v2 v3 v4 v1 h _ (if_t hb hc)
  · exact u_80_54 d hd k4 K4 v0 v1 v2 v3 v4 v1 h _ (if_f hb hc)
def b_80_42 (k4 : Option Nat → Int32 → Int32 → Hp → Option (Int32 × Hp)) (k15 : Option Nat → Int32 → Int32 → Int32 → Int32 → Hp → Option (Int32 × Hp)) (v0 : Option Nat) (v1 : Int32) (v2 : Int32) (v4 : Int32) (s0 : Int32) (h : Hp) : Option (Int32 × Hp) :=
  bnd (v4 + (nI 100)) fun x1 =>
  k15 v0 v1 v2 s0 x1 h
theorem u_80_42 (d : Nat) (hd : 0 ≤ d) (k4 : Option Nat → Int32 → Int32 → Hp → Option (Int32 × Hp)) (K4 : ∀ (v0 : Option Nat) (v1 : Int32) (v2 : Int32) (v3 : Option (Int32)) (v4 : Option (Int32)) (h : Hp) (r : Int32 × Hp), k4 v0 v1 v2 h = some r → Rn d 80 4 [some (va_rf v0), some (.int v1), some (.int v2), v3.map Value.int, v4.map Value.int] [] h (some (.int r.1), r.2)) (k15 : Option Nat → Int32 → Int32 → Int32 → Int32 → Hp → Option (Int32 × Hp)) (K15 : ∀ (v0 : Option Nat) (v1 : Int32) (v2 : Int32) (v3 : Int32) (v4 : Int32) (h : Hp) (r : Int32 × Hp), k15 v0 v1 v2 v3 v4 h = some r → Rn d 80 15 [some (va_rf v0), some (.int v1), some (.int v2), some (.int v3), some (.int v4)] [] h (some (.int r.1), r.2)) (v0 : Option Nat) (v1 : Int32) (v2 : Int32) (v3 : Int32) (v4 : Int32) (s0 : Int32) (h : Hp) (r : Int32 × Hp) (hb : b_80_42 k4 k15 v0 v1 v2 v4 s0 h = some r) : Rn d 80 42 [some (va_rf v0), some (.int v1), some (.int v2), some (.int v3), some (.int v4)] [.int s0] h (some (.int r.1), r.2) := by
  unfold b_80_42 at hb
  refine rn_istore_n (i := 3) (L1 := [some (va_rf v0), some (.int v1), some (.int v2), some (.int s0), some (.int v4)]) rfl (Nat.le_of_ble_eq_true rfl) (Or.inr rfl) rfl ?_
  obtain ⟨x1, ex1, hb⟩ := bnd_spec hb
  refine rn_iinc (i := 4) (y := x1) (L1 := [some (va_rf v0), some (.int v1), some (.int v2), some (.int s0), some (.int x1)]) rfl rfl (Nat.le_of_ble_eq_true rfl) (Or.inr rfl) (by rw [ex1]; rfl) rfl ?_
  refine rn_goto rfl rfl ?_
  exact K15 v0 v1 v2 s0 x1 h _ hb
def b_80_41 (k4 : Option Nat → Int32 → Int32 → Hp → Option (Int32 × Hp)) (k15 : Option Nat → Int32 → Int32 → Int32 → Int32 → Hp → Option (Int32 × Hp)) (v0 : Option Nat) (v1 : Int32) (v2 : Int32) (v4 : Int32)  (h : Hp) : Option (Int32 × Hp) :=
  b_80_42 k4 k15 v0 v1 v2 v4 (nI 0) h
theorem u_80_41 (d : Nat) (hd : 0 ≤ d) (k4 : Option Nat → Int32 → Int32 → Hp → Option (Int32 × Hp)) (K4 : ∀ (v0 : Option Nat) (v1 : Int32) (v2 : Int32) (v3 : Option (Int32)) (v4 : Option (Int32)) (h : Hp) (r : Int32 × Hp), k4 v0 v1 v2 h = some r → Rn d 80 4 [some (va_rf v0), some (.int v1), some (.int v2), v3.map Value.int, v4.map Value.int] [] h (some (.int r.1), r.2)) (k15 : Option Nat → Int32 → Int32 → Int32 → Int32 → Hp → Option (Int32 × Hp)) (K15 : ∀ (v0 : Option Nat) (v1 : Int32) (v2 : Int32) (v3 : Int32) (v4 : Int32) (h : Hp) (r : Int32 × Hp), k15 v0 v1 v2 v3 v4 h = some r → Rn d 80 15 [some (va_rf v0), some (.int v1), some (.int v2), some (.int v3), some (.int v4)] [] h (some (.int r.1), r.2)) (v0 : Option Nat) (v1 : Int32) (v2 : Int32) (v3 : Int32) (v4 : Int32)  (h : Hp) (r : Int32 × Hp) (hb : b_80_41 k4 k15 v0 v1 v2 v4  h = some r) : Rn d 80 41 [some (va_rf v0), some (.int v1), some (.int v2), some (.int v3), some (.int v4)] [] h (some (.int r.1), r.2) := by
  unfold b_80_41 at hb
  refine rn_iconst (x := (nI 0)) rfl (by decide) ?_
  exact u_80_42 d hd k4 K4 k15 K15 v0 v1 v2 v3 v4 (nI 0) h _ hb
def b_80_37 (k4 : Option Nat → Int32 → Int32 → Hp → Option (Int32 × Hp)) (k15 : Option Nat → Int32 → Int32 → Int32 → Int32 → Hp → Option (Int32 × Hp)) (v0 : Option Nat) (v1 : Int32) (v2 : Int32) (v4 : Int32)  (h : Hp) : Option (Int32 × Hp) :=
  b_80_42 k4 k15 v0 v1 v2 v4 (nI 1) h
theorem u_80_37 (d : Nat) (hd : 0 ≤ d) (k4 : Option Nat → Int32 → Int32 → Hp → Option (Int32 × Hp)) (K4 : ∀ (v0 : Option Nat) (v1 : Int32) (v2 : Int32) (v3 : Option (Int32)) (v4 : Option (Int32)) (h : Hp) (r : Int32 × Hp), k4 v0 v1 v2 h = some r → Rn d 80 4 [some (va_rf v0), some (.int v1), some (.int v2), v3.map Value.int, v4.map Value.int] [] h (some (.int r.1), r.2)) (k15 : Option Nat → Int32 → Int32 → Int32 → Int32 → Hp → Option (Int32 × Hp)) (K15 : ∀ (v0 : Option Nat) (v1 : Int32) (v2 : Int32) (v3 : Int32) (v4 : Int32) (h : Hp) (r : Int32 × Hp), k15 v0 v1 v2 v3 v4 h = some r → Rn d 80 15 [some (va_rf v0), some (.int v1), some (.int v2), some (.int v3), some (.int v4)] [] h (some (.int r.1), r.2)) (v0 : Option Nat) (v1 : Int32) (v2 : Int32) (v3 : Int32) (v4 : Int32)  (h : Hp) (r : Int32 × Hp) (hb : b_80_37 k4 k15 v0 v1 v2 v4  h = some r) : Rn d 80 37 [some (va_rf v0), some (.int v1), some (.int v2), some (.int v3), some (.int v4)] [] h (some (.int r.1), r.2) := by
  unfold b_80_37 at hb
  refine rn_iconst (x := (nI 1)) rfl (by decide) ?_
  refine rn_goto rfl rfl ?_
  exact u_80_42 d hd k4 K4 k15 K15 v0 v1 v2 v3 v4 (nI 1) h _ hb
def b_80_27 (k4 : Option Nat → Int32 → Int32 → Hp → Option (Int32 × Hp)) (k15 : Option Nat → Int32 → Int32 → Int32 → Int32 → Hp → Option (Int32 × Hp)) (v0 : Option Nat) (v1 : Int32) (v2 : Int32) (v4 : Int32)  (h : Hp) : Option (Int32 × Hp) :=
  (gQ 6 3 v0 h).bind fun x1 =>
  (aI 12 x1 v4 h).bind fun x2 =>
  if x2 = 0 then b_80_41 k4 k15 v0 v1 v2 v4  h else b_80_37 k4 k15 v0 v1 v2 v4  h
theorem u_80_27 (d : Nat) (hd : 0 ≤ d) (k4 : Option Nat → Int32 → Int32 → Hp → Option (Int32 × Hp)) (K4 : ∀ (v0 : Option Nat) (v1 : Int32) (v2 : Int32) (v3 : Option (Int32)) (v4 : Option (Int32)) (h : Hp) (r : Int32 × Hp), k4 v0 v1 v2 h = some r → Rn d 80 4 [some (va_rf v0), some (.int v1), some (.int v2), v3.map Value.int, v4.map Value.int] [] h (some (.int r.1), r.2)) (k15 : Option Nat → Int32 → Int32 → Int32 → Int32 → Hp → Option (Int32 × Hp)) (K15 : ∀ (v0 : Option Nat) (v1 : Int32) (v2 : Int32) (v3 : Int32) (v4 : Int32) (h : Hp) (r : Int32 × Hp), k15 v0 v1 v2 v3 v4 h = some r → Rn d 80 15 [some (va_rf v0), some (.int v1), some (.int v2), some (.int v3), some (.int v4)] [] h (some (.int r.1), r.2)) (v0 : Option Nat) (v1 : Int32) (v2 : Int32) (v3 : Int32) (v4 : Int32)  (h : Hp) (r : Int32 × Hp) (hb : b_80_27 k4 k15 v0 v1 v2 v4  h = some r) : Rn d 80 27 [some (va_rf v0), some (.int v1), some (.int v2), some (.int v3), some (.int v4)] [] h (some (.int r.1), r.2) := by
  unfold b_80_27 at hb
  refine rn_aload_n (i := 0) rfl rfl ?_
  refine rn_gQ (c := 6) (k := 3) rfl (by decide) hb (fun x1 hb => ?_)
  refine rn_iload (i := 4) rfl rfl ?_
  refine rn_aI rfl hb (fun x2 hb => ?_)
  refine rn_if_eq rfl rfl (fun hc => ?_) (fun hc => ?_)
  · exact u_80_41 d hd k4 K4 k15 K15 v0 v1 v2 v3 v4  h _ (if_t hb hc)
  · exact u_80_37 d hd k4 K4 k15 K15 v0 v1 v2 v3 v4  h _ (if_f hb hc)
def b_80_23 (k4 : Option Nat → Int32 → Int32 → Hp → Option (Int32 × Hp)) (k15 : Option Nat → Int32 → Int32 → Int32 → Int32 → Hp → Option (Int32 × Hp)) (v0 : Option Nat) (v1 : Int32) (v2 : Int32) (v3 : Int32) (v4 : Int32)  (h : Hp) : Option (Int32 × Hp) :=
  if ¬ v3 = 0 then b_80_49 k4 v0 v1 v2 v3  h else b_80_27 k4 k15 v0 v1 v2 v4  h
theorem u_80_23 (d : Nat) (hd : 0 ≤ d) (k4 : Option Nat → Int32 → Int32 → Hp → Option (Int32 × Hp)) (K4 : ∀ (v0 : Option Nat) (v1 : Int32) (v2 : Int32) (v3 : Option (Int32)) (v4 : Option (Int32)) (h : Hp) (r : Int32 × Hp), k4 v0 v1 v2 h = some r → Rn d 80 4 [some (va_rf v0), some (.int v1), some (.int v2), v3.map Value.int, v4.map Value.int] [] h (some (.int r.1), r.2)) (k15 : Option Nat → Int32 → Int32 → Int32 → Int32 → Hp → Option (Int32 × Hp)) (K15 : ∀ (v0 : Option Nat) (v1 : Int32) (v2 : Int32) (v3 : Int32) (v4 : Int32) (h : Hp) (r : Int32 × Hp), k15 v0 v1 v2 v3 v4 h = some r → Rn d 80 15 [some (va_rf v0), some (.int v1), some (.int v2), some (.int v3), some (.int v4)] [] h (some (.int r.1), r.2)) (v0 : Option Nat) (v1 : Int32) (v2 : Int32) (v3 : Int32) (v4 : Int32)  (h : Hp) (r : Int32 × Hp) (hb : b_80_23 k4 k15 v0 v1 v2 v3 v4  h = some r) : Rn d 80 23 [some (va_rf v0), some (.int v1), some (.int v2), some (.int v3), some (.int v4)] [] h (some (.int r.1), r.2) := by
  unfold b_80_23 at hb
  refine rn_iload_n (i := 3) rfl rfl ?_
  refine rn_if_ne rfl rfl (fun hc => ?_) (fun hc => ?_)
  · exact u_80_49 d hd k4 K4 v0 v1 v2 v3 v4  h _ (if_t hb hc)
  · exact u_80_27 d hd k4 K4 k15 K15 v0 v1 v2 v3 v4  h _ (if_f hb hc)
def b_80_15 (k4 : Option Nat → Int32 → Int32 → Hp → Option (Int32 × Hp)) (k15 : Option Nat → Int32 → Int32 → Int32 → Int32 → Hp → Option (Int32 × Hp)) (v0 : Option Nat) (v1 : Int32) (v2 : Int32) (v3 : Int32) (v4 : Int32)  (h : Hp) : Option (Int32 × Hp) :=
  if (nI 24300) ≤ v4 then b_80_49 k4 v0 v1 v2 v3  h else b_80_23 k4 k15 v0 v1 v2 v3 v4  h
theorem u_80_15 (d : Nat) (hd : 0 ≤ d) (k4 : Option Nat → Int32 → Int32 → Hp → Option (Int32 × Hp)) (K4 : ∀ (v0 : Option Nat) (v1 : Int32) (v2 : Int32) (v3 : Option (Int32)) (v4 : Option (Int32)) (h : Hp) (r : Int32 × Hp), k4 v0 v1 v2 h = some r → Rn d 80 4 [some (va_rf v0), some (.int v1), some (.int v2), v3.map Value.int, v4.map Value.int] [] h (some (.int r.1), r.2)) (k15 : Option Nat → Int32 → Int32 → Int32 → Int32 → Hp → Option (Int32 × Hp)) (K15 : ∀ (v0 : Option Nat) (v1 : Int32) (v2 : Int32) (v3 : Int32) (v4 : Int32) (h : Hp) (r : Int32 × Hp), k15 v0 v1 v2 v3 v4 h = some r → Rn d 80 15 [some (va_rf v0), some (.int v1), some (.int v2), some (.int v3), some (.int v4)] [] h (some (.int r.1), r.2)) (v0 : Option Nat) (v1 : Int32) (v2 : Int32) (v3 : Int32) (v4 : Int32)  (h : Hp) (r : Int32 × Hp) (hb : b_80_15 k4 k15 v0 v1 v2 v3 v4  h = some r) : Rn d 80 15 [some (va_rf v0), some (.int v1), some (.int v2), some (.int v3), some (.int v4)] [] h (some (.int r.1), r.2) := by
  unfold b_80_15 at hb
  refine rn_iload (i := 4) rfl rfl ?_
  refine rn_sipush (x := (nI 24300)) rfl (by decide) ?_
  refine rn_icmp_ge rfl rfl (fun hc => ?_) (fun hc => ?_)
  · exact u_80_49 d hd k4 K4 v0 v1 v2 v3 v4  h _ (if_t hb hc)
  · exact u_80_23 d hd k4 K4 k15 K15 v0 v1 v2 v3 v4  h _ (if_f hb hc)
def l_80_15 (k4 : Option Nat → Int32 → Int32 → Hp → Option (Int32 × Hp)) : Nat → Option Nat → Int32 → Int32 → Int32 → Int32 → Hp → Option (Int32 × Hp)
  | 0, _, _, _, _, _, _ => none
  | n + 1, v0, v1, v2, v3, v4, h => b_80_15 k4 (l_80_15 k4 n) v0 v1 v2 v3 v4 h
theorem w_80_15 (d : Nat) (hd : 0 ≤ d) (k4 : Option Nat → Int32 → Int32 → Hp → Option (Int32 × Hp)) (K4 : ∀ (v0 : Option Nat) (v1 : Int32) (v2 : Int32) (v3 : Option (Int32)) (v4 : Option (Int32)) (h : Hp) (r : Int32 × Hp), k4 v0 v1 v2 h = some r → Rn d 80 4 [some (va_rf v0), some (.int v1), some (.int v2), v3.map Value.int, v4.map Value.int] [] h (some (.int r.1), r.2)) : ∀ (n : Nat) (v0 : Option Nat) (v1 : Int32) (v2 : Int32) (v3 : Int32) (v4 : Int32) (h : Hp) (r : Int32 × Hp), l_80_15 k4 n v0 v1 v2 v3 v4 h = some r → Rn d 80 15 [some (va_rf v0), some (.int v1), some (.int v2), some (.int v3), some (.int v4)] [] h (some (.int r.1), r.2) := by
  intro n
  induction n with
  | zero => intro v0 v1 v2 v3 v4 h r hb; cases hb
  | succ n ih => intro v0 v1 v2 v3 v4 h r hb; exact u_80_15 d hd k4 K4 (l_80_15 k4 n) ih v0 v1 v2 v3 v4 h r hb
def b_80_10 (k4 : Option Nat → Int32 → Int32 → Hp → Option (Int32 × Hp)) (v0 : Option Nat) (v1 : Int32) (v2 : Int32)  (h : Hp) : Option (Int32 × Hp) :=
  bnd ((nI 0)) fun x1 =>
  l_80_15 k4 FU v0 v1 v2 x1 v2 h
theorem u_80_10 (d : Nat) (hd : 0 ≤ d) (k4 : Option Nat → Int32 → Int32 → Hp → Option (Int32 × Hp)) (K4 : ∀ (v0 : Option Nat) (v1 : Int32) (v2 : Int32) (v3 : Option (Int32)) (v4 : Option (Int32)) (h : Hp) (r : Int32 × Hp), k4 v0 v1 v2 h = some r → Rn d 80 4 [some (va_rf v0), some (.int v1), some (.int v2), v3.map Value.int, v4.map Value.int] [] h (some (.int r.1), r.2)) (v0 : Option Nat) (v1 : Int32) (v2 : Int32) (v3 : Option (Int32)) (v4 : Option (Int32))  (h : Hp) (r : Int32 × Hp) (hb : b_80_10 k4 v0 v1 v2  h = some r) : Rn d 80 10 [some (va_rf v0), some (.int v1), some (.int v2), v3.map Value.int, v4.map Value.int] [] h (some (.int r.1), r.2) := by
  unfold b_80_10 at hb
  refine rn_iconst (x := (nI 0)) rfl (by decide) ?_
  obtain ⟨x1, ex1, hb⟩ := bnd_spec hb
  refine rn_istore_n (i := 3) (L1 := [some (va_rf v0), some (.int v1), some (.int v2), some (.int x1), v4.map Value.int]) rfl (Nat.le_of_ble_eq_true rfl) (Or.inr rfl) (by rw [ex1]; rfl) ?_
  refine rn_iload_n (i := 2) rfl rfl ?_
  refine rn_istore (i := 4) (L1 := [some (va_rf v0), some (.int v1), some (.int v2), some (.int x1), some (.int v2)]) rfl (Nat.le_of_ble_eq_true rfl) (Or.inr rfl) rfl ?_
  exact w_80_15 d hd k4 K4 FU v0 v1 v2 x1 v2 h _ hb
def b_80_4 (k4 : Option Nat → Int32 → Int32 → Hp → Option (Int32 × Hp)) (v0 : Option Nat) (v1 : Int32) (v2 : Int32)  (h : Hp) : Option (Int32 × Hp) :=
  if (nI 100) ≤ v2 then b_80_67 v1  h else b_80_10 k4 v0 v1 v2  h
theorem u_80_4 (d : Nat) (hd : 0 ≤ d) (k4 : Option Nat → Int32 → Int32 → Hp → Option (Int32 × Hp)) (K4 : ∀ (v0 : Option Nat) (v1 : Int32) (v2 : Int32) (v3 : Option (Int32)) (v4 : Option (Int32)) (h : Hp) (r : Int32 × Hp), k4 v0 v1 v2 h = some r → Rn d 80 4 [some (va_rf v0), some (.int v1), some (.int v2), v3.map Value.int, v4.map Value.int] [] h (some (.int r.1), r.2)) (v0 : Option Nat) (v1 : Int32) (v2 : Int32) (v3 : Option (Int32)) (v4 : Option (Int32))  (h : Hp) (r : Int32 × Hp) (hb : b_80_4 k4 v0 v1 v2  h = some r) : Rn d 80 4 [some (va_rf v0), some (.int v1), some (.int v2), v3.map Value.int, v4.map Value.int] [] h (some (.int r.1), r.2) := by
  unfold b_80_4 at hb
  refine rn_iload_n (i := 2) rfl rfl ?_
  refine rn_bipush (x := (nI 100)) rfl (by decide) ?_
  refine rn_icmp_ge rfl rfl (fun hc => ?_) (fun hc => ?_)
  · exact u_80_67 d hd v0 v1 v2 v3 v4  h _ (if_t hb hc)
  · exact u_80_10 d hd k4 K4 v0 v1 v2 v3 v4  h _ (if_f hb hc)
def l_80_4 : Nat → Option Nat → Int32 → Int32 → Hp → Option (Int32 × Hp)
  | 0, _, _, _, _ => none
  | n + 1, v0, v1, v2, h => b_80_4 (l_80_4 n) v0 v1 v2 h
theorem w_80_4 (d : Nat) (hd : 0 ≤ d) : ∀ (n : Nat) (v0 : Option Nat) (v1 : Int32) (v2 : Int32) (v3 : Option (Int32)) (v4 : Option (Int32)) (h : Hp) (r : Int32 × Hp), l_80_4 n v0 v1 v2 h = some r → Rn d 80 4 [some (va_rf v0), some (.int v1), some (.int v2), v3.map Value.int, v4.map Value.int] [] h (some (.int r.1), r.2) := by
  intro n
  induction n with
  | zero => intro v0 v1 v2 v3 v4 h r hb; cases hb
  | succ n ih => intro v0 v1 v2 v3 v4 h r hb; exact u_80_4 d hd (l_80_4 n) ih v0 v1 v2 v3 v4 h r hb
def b_80_0 (v0 : Option Nat)  (h : Hp) : Option (Int32 × Hp) :=
  bnd ((nI 0)) fun x1 =>
  bnd ((nI 0)) fun x2 =>
  l_80_4 FU v0 x1 x2 h
theorem u_80_0 (d : Nat) (hd : 0 ≤ d) (v0 : Option Nat)  (h : Hp) (r : Int32 × Hp) (hb : b_80_0 v0  h = some r) : Rn d 80 0 [some (va_rf v0), none, none, none, none] [] h (some (.int r.1), r.2) := by
  unfold b_80_0 at hb
  refine rn_iconst (x := (nI 0)) rfl (by decide) ?_
  obtain ⟨x1, ex1, hb⟩ := bnd_spec hb
  refine rn_istore_n (i := 1) (L1 := [some (va_rf v0), some (.int x1), none, none, none]) rfl (Nat.le_of_ble_eq_true rfl) (Or.inr (bd_wideR rfl)) (by rw [ex1]; rfl) ?_
  refine rn_iconst (x := (nI 0)) rfl (by decide) ?_
  obtain ⟨x2, ex2, hb⟩ := bnd_spec hb
  refine rn_istore_n (i := 2) (L1 := [some (va_rf v0), some (.int x1), some (.int x2), none, none]) rfl (Nat.le_of_ble_eq_true rfl) (Or.inr rfl) (by rw [ex2]; rfl) ?_
  exact w_80_4 d hd FU v0 x1 x2 (none : Option (Int32)) (none : Option (Int32)) h _ hb
/-- BitingDoors$Paths.countSeen()I -/
def f_80 (v0 : Option Nat) (h : Hp) : Option (Int32 × Hp) := b_80_0 v0 h
theorem t_80 (d : Nat) (hd : 0 ≤ d) (v0 : Option Nat) (h : Hp) (r : Int32 × Hp) (hb : f_80 v0 h = some r) : Rn d 80 0 [some (va_rf v0), none, none, none, none] [] h (some (.int r.1), r.2) := by
  unfold f_80 at hb
  exact u_80_0 d hd v0 h r hb
def b_81_113 (v0 : Option Nat)  (h : Hp) : Option (Int32 × Hp) :=
  (gI 6 5 v0 h).bind fun x1 =>
  some (x1, h)
theorem u_81_113 (d : Nat) (hd : 4 ≤ d) (v0 : Option Nat) (v1 : Option Nat) (v2 : Int32) (v3 : Option (Int32))  (h : Hp) (r : Int32 × Hp) (hb : b_81_113 v0  h = some r) : Rn d 81 113 [some (va_rf v0), some (va_rf v1), some (.int v2), v3.map Value.int] [] h (some (.int r.1), r.2) := by
  unfold b_81_113 at hb
  refine rn_aload_n (i := 0) rfl rfl ?_
  refine rn_gI (c := 6) (k := 5) rfl (by decide) hb (fun x1 hb => ?_)
  obtain rfl := Option.some.inj hb
  exact rn_iret rfl rfl
def b_81_107 (k36 : Option Nat → Int32 → Hp → Option (Int32 × Hp)) (v0 : Option Nat) (v2 : Int32)  (h : Hp) : Option (Int32 × Hp) :=
  bnd (v2 + (nI 1)) fun x1 =>
  k36 v0 x1 h
theorem u_81_107 (d : Nat) (hd : 4 ≤ d) (k36 : Option Nat → Int32 → Hp → Option (Int32 × Hp)) (K36 : ∀ (v0 : Option Nat) (v1 : Option Nat) (v2 : Int32) (v3 : Option (Int32)) (h : Hp) (r : Int32 × Hp), k36 v0 v2 h = some r → Rn d 81 36 [some (va_rf v0), some (va_rf v1), some (.int v2), v3.map Value.int] [] h (some (.int r.1), r.2)) (v0 : Option Nat) (v1 : Option Nat) (v2 : Int32) (v3 : Int32)  (h : Hp) (r : Int32 × Hp) (hb : b_81_107 k36 v0 v2  h = some r) : Rn d 81 107 [some (va_rf v0), some (va_rf v1), some (.int v2), some (.int v3)] [] h (some (.int r.1), r.2) := by
  unfold b_81_107 at hb
  obtain ⟨x1, ex1, hb⟩ := bnd_spec hb
  refine rn_iinc (i := 2) (y := x1) (L1 := [some (va_rf v0), some (va_rf v1), some (.int x1), some (.int v3)]) rfl rfl (Nat.le_of_ble_eq_true rfl) (Or.inr (bd_wideR rfl)) (by rw [ex1]; rfl) rfl ?_
  refine rn_goto rfl rfl ?_
  exact K36 v0 v1 x1 (some v3) h _ hb
def b_81_101 (k36 : Option Nat → Int32 → Hp → Option (Int32 × Hp)) (k52 : Option Nat → Int32 → Int32 → Hp → Option (Int32 × Hp)) (v0 : Option Nat) (v2 : Int32) (v3 : Int32)  (h : Hp) : Option (Int32 × Hp) :=
  bnd (v3 + (nI 1)) fun x1 =>
  k52 v0 v2 x1 h
theorem u_81_101 (d : Nat) (hd : 4 ≤ d) (k36 : Option Nat → Int32 → Hp → Option (Int32 × Hp)) (K36 : ∀ (v0 : Option Nat) (v1 : Option Nat) (v2 : Int32) (v3 : Option (Int32)) (h : Hp) (r : Int32 × Hp), k36 v0 v2 h = some r → Rn d 81 36 [some (va_rf v0), some (va_rf v1), some (.int v2), v3.map Value.int] [] h (some (.int r.1), r.2)) (k52 : Option Nat → Int32 → Int32 → Hp → Option (Int32 × Hp)) (K52 : ∀ (v0 : Option Nat) (v1 : Option Nat) (v2 : Int32) (v3 : Int32) (h : Hp) (r : Int32 × Hp), k52 v0 v2 v3 h = some r → Rn d 81 52 [some (va_rf v0), some (va_rf v1), some (.int v2), some (.int v3)] [] h (some (.int r.1), r.2)) (v0 : Option Nat) (v1 : Option Nat) (v2 : Int32) (v3 : Int32)  (h : Hp) (r : Int32 × Hp) (hb : b_81_101 k36 k52 v0 v2 v3  h = some r) : Rn d 81 101 [some (va_rf v0), some (va_rf v1), some (.int v2), some (.int v3)] [] h (some (.int r.1), r.2) := by
  unfold b_81_101 at hb
  obtain ⟨x1, ex1, hb⟩ := bnd_spec hb
  refine rn_iinc (i := 3) (y := x1) (L1 := [some (va_rf v0), some (va_rf v1), some (.int v2), some (.int x1)]) rfl rfl (Nat.le_of_ble_eq_true rfl) (Or.inr rfl) (by rw [ex1]; rfl) rfl ?_
  refine rn_goto rfl rfl ?_
  exact K52 v0 v1 v2 x1 h _ hb
def b_81_81 (k36 : Option Nat → Int32 → Hp → Option (Int32 × Hp)) (k52 : Option Nat → Int32 → Int32 → Hp → Option (Int32 × Hp)) (v0 : Option Nat) (v2 : Int32) (v3 : Int32)  (h : Hp) : Option (Int32 × Hp) :=
  (gQ 6 2 v0 h).bind fun x1 =>
  (grd (rC 7 x1 h)).bind fun _ =>
  (f_94 x1 v3 h).bind fun p2 =>
  (gQ 6 2 v0 p2).bind fun x3 =>
  (gI 7 3 x3 p2).bind fun x4 =>
  (grd (rC 6 v0 p2)).bind fun _ =>
  (f_74 v0 x4 (nI 1) p2).bind fun p5 =>
  b_81_101 k36 k52 v0 v2 v3  p5
theorem u_81_81 (d : Nat) (hd : 4 ≤ d) (k36 : Option Nat → Int32 → Hp → Option (Int32 × Hp)) (K36 : ∀ (v0 : Option Nat) (v1 : Option Nat) (v2 : Int32) (v3 : Option (Int32)) (h : Hp) (r : Int32 × Hp), k36 v0 v2 h = some r → Rn d 81 36 [some (va_rf v0), some (va_rf v1), some (.int v2), v3.map Value.int] [] h (some (.int r.1), r.2)) (k52 : Option Nat → Int32 → Int32 → Hp → Option (Int32 × Hp)) (K52 : ∀ (v0 : Option Nat) (v1 : Option Nat) (v2 : Int32) (v3 : Int32) (h : Hp) (r : Int32 × Hp), k52 v0 v2 v3 h = some r → Rn d 81 52 [some (va_rf v0), some (va_rf v1), some (.int v2), some (.int v3)] [] h (some (.int r.1), r.2)) (v0 : Option Nat) (v1 : Option Nat) (v2 : Int32) (v3 : Int32)  (h : Hp) (r : Int32 × Hp) (hb : b_81_81 k36 k52 v0 v2 v3  h = some r) : Rn d 81 81 [some (va_rf v0), some (va_rf v1), some (.int v2), some (.int v3)] [] h (some (.int r.1), r.2) := by
  unfold b_81_81 at hb
  obtain ⟨e, rfl⟩ : ∃ e, d = e + 1 := ⟨d - 1, by omega⟩
  refine rn_aload_n (i := 0) rfl rfl ?_
  refine rn_gQ (c := 6) (k := 2) rfl (by decide) hb (fun x1 hb => ?_)
  refine rn_iload_n (i := 3) rfl rfl ?_
  obtain ⟨hrc, hb⟩ := grd_spec hb
  obtain ⟨p2, hc, hb⟩ := Option.bind_eq_some_iff.mp hb
  refine Rn.call0 (d := e) (As := [va_rf x1, .int v3]) (rest := []) rfl rfl rfl (by decide) rfl rfl rfl (bd_rcV hrc rfl) (by decide) (bd_lenC (n := 2) rfl (bd_slR (bd_slI bd_slN)) rfl) (bd_locC (n := 2) rfl (bd_slR (bd_slI bd_slN)) rfl (t_94 e (by omega) x1 v3 h _ hc)) ?_
  refine rn_aload_n (i := 0) rfl rfl ?_
  refine rn_aload_n (i := 0) rfl rfl ?_
  refine rn_gQ (c := 6) (k := 2) rfl (by decide) hb (fun x3 hb => ?_)
  refine rn_gI (c := 7) (k := 3) rfl (by decide) hb (fun x4 hb => ?_)
  refine rn_iconst (x := (nI 1)) rfl (by decide) ?_
  obtain ⟨hrc, hb⟩ := grd_spec hb
  obtain ⟨p5, hc, hb⟩ := Option.bind_eq_some_iff.mp hb
  refine Rn.call0 (d := e) (As := [va_rf v0, .int x4, .int (nI 1)]) (rest := []) rfl rfl rfl (by decide) rfl rfl rfl (bd_rcV hrc rfl) (by decide) (bd_lenC (n := 3) rfl (bd_slR (bd_slI (bd_slI bd_slN))) rfl) (bd_locC (n := 3) rfl (bd_slR (bd_slI (bd_slI bd_slN))) rfl (t_74 e (by omega) v0 x4 (nI 1) p2 _ hc)) ?_
  exact u_81_101 (e + 1) hd k36 K36 k52 K52 v0 v1 v2 v3  p5 _ hb
def b_81_57 (k36 : Option Nat → Int32 → Hp → Option (Int32 × Hp)) (k52 : Option Nat → Int32 → Int32 → Hp → Option (Int32 × Hp)) (v0 : Option Nat) (v2 : Int32) (v3 : Int32)  (h : Hp) : Option (Int32 × Hp) :=
  (gQ 6 2 v0 h).bind fun x1 =>
  (gQ 6 4 v0 h).bind fun x2 =>
  (aI 12 x2 v2 h).bind fun x3 =>
  (pI 7 3 x1 x3 h).bind fun h4 =>
  (gQ 6 2 v0 h4).bind fun x5 =>
  (grd (rC 7 x5 h4)).bind fun _ =>
  (f_90 x5 v3 h4).bind fun p6 =>
  if ¬ p6.1 = 0 then b_81_101 k36 k52 v0 v2 v3  p6.2 else b_81_81 k36 k52 v0 v2 v3  p6.2
theorem u_81_57 (d : Nat) (hd : 4 ≤ d) (k36 : Option Nat → Int32 → Hp → Option (Int32 × Hp)) (K36 : ∀ (v0 : Option Nat) (v1 : Option Nat) (v2 : Int32) (v3 : Option (Int32)) (h : Hp) (r : Int32 × Hp), k36 v0 v2 h = some r → Rn d 81 36 [some (va_rf v0), some (va_rf v1), some (.int v2), v3.map Value.int] [] h (some (.int r.1), r.2)) (k52 : Option Nat → Int32 → Int32 → Hp → Option (Int32 × Hp)) (K52 : ∀ (v0 : Option Nat) (v1 : Option Nat) (v2 : Int32) (v3 : Int32) (h : Hp) (r : Int32 × Hp), k52 v0 v2 v3 h = some r → Rn d 81 52 [some (va_rf v0), some (va_rf v1), some (.int v2), some (.int v3)] [] h (some (.int r.1), r.2)) (v0 : Option Nat) (v1 : Option Nat) (v2 : Int32) (v3 : Int32)  (h : Hp) (r : Int32 × Hp) (hb : b_81_57 k36 k52 v0 v2 v3  h = some r) : Rn d 81 57 [some (va_rf v0), some (va_rf v1), some (.int v2), some (.int v3)] [] h (some (.int r.1), r.2) := by
  unfold b_81_57 at hb
  obtain ⟨e, rfl⟩ : ∃ e, d = e + 1 := ⟨d - 1, by omega⟩
  refine rn_aload_n (i := 0) rfl rfl ?_
  refine rn_gQ (c := 6) (k := 2) rfl (by decide) hb (fun x1 hb => ?_)
  refine rn_aload_n (i := 0) rfl rfl ?_
  refine rn_gQ (c := 6) (k := 4) rfl (by decide) hb (fun x2 hb => ?_)
  refine rn_iload_n (i := 2) rfl rfl ?_
  refine rn_aI rfl hb (fun x3 hb => ?_)
  refine rn_pI (c := 7) (k := 3) rfl (by decide) hb (fun h4 hb => ?_)
  refine rn_aload_n (i := 0) rfl rfl ?_
  refine rn_gQ (c := 6) (k := 2) rfl (by decide) hb (fun x5 hb => ?_)
  refine rn_iload_n (i := 3) rfl rfl ?_
  obtain ⟨hrc, hb⟩ := grd_spec hb
  obtain ⟨p6, hc, hb⟩ := Option.bind_eq_some_iff.mp hb
  refine Rn.call1 (d := e) (As := [va_rf x5, .int v3]) (rest := []) rfl rfl rfl (by decide) rfl rfl rfl (bd_rcV hrc rfl) (by decide) (bd_lenC (n := 2) rfl (bd_slR (bd_slI bd_slN)) rfl) (bd_locC (n := 2) rfl (bd_slR (bd_slI bd_slN)) rfl (t_90 e (by omega) x5 v3 h4 _ hc)) ?_
  refine rn_if_ne rfl rfl (fun hc => ?_) (fun hc => ?_)
  · exact u_81_101 (e + 1) hd k36 K36 k52 K52 v0 v1 v2 v3  p6.2 _ (if_t hb hc)
  · exact u_81_81 (e + 1) hd k36 K36 k52 K52 v0 v1 v2 v3  p6.2 _ (if_f hb hc)
def b_81_52 (k36 : Option Nat → Int32 → Hp → Option (Int32 × Hp)) (k52 : Option Nat → Int32 → Int32 → Hp → Option (Int32 × Hp)) (v0 : Option Nat) (v2 : Int32) (v3 : Int32)  (h : Hp) : Option (Int32 × Hp) :=
  if (nI 4) ≤ v3 then b_81_107 k36 v0 v2  h else b_81_57 k36 k52 v0 v2 v3  h
theorem u_81_52 (d : Nat) (hd : 4 ≤ d) (k36 : Option Nat → Int32 → Hp → Option (Int32 × Hp)) (K36 : ∀ (v0 : Option Nat) (v1 : Option Nat) (v2 : Int32) (v3 : Option (Int32)) (h : Hp) (r : Int32 × Hp), k36 v0 v2 h = some r → Rn d 81 36 [some (va_rf v0), some (va_rf v1), some (.int v2), v3.map Value.int] [] h (some (.int r.1), r.2)) (k52 : Option Nat → Int32 → Int32 → Hp → Option (Int32 × Hp)) (K52 : ∀ (v0 : Option Nat) (v1 : Option Nat) (v2 : Int32) (v3 : Int32) (h : Hp) (r : Int32 × Hp), k52 v0 v2 v3 h = some r → Rn d 81 52 [some (va_rf v0), some (va_rf v1), some (.int v2), some (.int v3)] [] h (some (.int r.1), r.2)) (v0 : Option Nat) (v1 : Option Nat) (v2 : Int32) (v3 : Int32)  (h : Hp) (r : Int32 × Hp) (hb : b_81_52 k36 k52 v0 v2 v3  h = some r) : Rn d 81 52 [some (va_rf v0), some (va_rf v1), some (.int v2), some (.int v3)] [] h (some (.int r.1), r.2) := by
  unfold b_81_52 at hb
  refine rn_iload_n (i := 3) rfl rfl ?_
  refine rn_iconst (x := (nI 4)) rfl (by decide) ?_
  refine rn_icmp_ge rfl rfl (fun hc => ?_) (fun hc => ?_)
  · exact u_81_107 d hd k36 K36 v0 v1 v2 v3  h _ (if_t hb hc)
  · exact u_81_57 d hd k36 K36 k52 K52 v0 v1 v2 v3  h _ (if_f hb hc)
def l_81_52 (k36 : Option Nat → Int32 → Hp → Option (Int32 × Hp)) : Nat → Option Nat → Int32 → Int32 → Hp → Option (Int32 × Hp)
  | 0, _, _, _, _ => none
  | n + 1, v0, v2, v3, h => b_81_52 k36 (l_81_52 k36 n) v0 v2 v3 h
theorem w_81_52 (d : Nat) (hd : 4 ≤ d) (k36 : Option Nat → Int32 → Hp → Option (Int32 × Hp)) (K36 : ∀ (v0 : Option Nat) (v1 : Option Nat) (v2 : Int32) (v3 : Option (Int32)) (h : Hp) (r : Int32 × Hp), k36 v0 v2 h = some r → Rn d 81 36 [some (va_rf v0), some (va_rf v1), some (.int v2), v3.map Value.int] [] h (some (.int r.1), r.2)) : ∀ (n : Nat) (v0 : Option Nat) (v1 : Option Nat) (v2 : Int32) (v3 : Int32) (h : Hp) (r : Int32 × Hp), l_81_52 k36 n v0 v2 v3 h = some r → Rn d 81 52 [some (va_rf v0), some (va_rf v1), some (.int v2), some (.int v3)] [] h (some (.int r.1), r.2) := by
  intro n
  induction n with
  | zero => intro v0 v1 v2 v3 h r hb; cases hb
  | succ n ih => intro v0 v1 v2 v3 h r hb; exact u_81_52 d hd k36 K36 (l_81_52 k36 n) ih v0 v1 v2 v3 h r hb
def b_81_50 (k36 : Option Nat → Int32 → Hp → Option (Int32 × Hp)) (v0 : Option Nat) (v2 : Int32)  (h : Hp) : Option (Int32 × Hp) :=
  bnd ((nI 0)) fun x1 =>
  l_81_52 k36 FU v0 v2 x1 h
theorem u_81_50 (d : Nat) (hd : 4 ≤ d) (k36 : Option Nat → Int32 → Hp → Option (Int32 × Hp)) (K36 : ∀ (v0 : Option Nat) (v1 : Option Nat) (v2 : Int32) (v3 : Option (Int32)) (h : Hp) (r : Int32 × Hp), k36 v0 v2 h = some r → Rn d 81 36 [some (va_rf v0), some (va_rf v1), some (.int v2), v3.map Value.int] [] h (some (.int r.1), r.2)) (v0 : Option Nat) (v1 : Option Nat) (v2 : Int32) (v3 : Option (Int32))  (h : Hp) (r : Int32 × Hp) (hb : b_81_50 k36 v0 v2  h = some r) : Rn d 81 50 [some (va_rf v0), some (va_rf v1), some (.int v2), v3.map Value.int] [] h (some (.int r.1), r.2) := by
  unfold b_81_50 at hb
  refine rn_iconst (x := (nI 0)) rfl (by decide) ?_
  obtain ⟨x1, ex1, hb⟩ := bnd_spec hb
  refine rn_istore_n (i := 3) (L1 := [some (va_rf v0), some (va_rf v1), some (.int v2), some (.int x1)]) rfl (Nat.le_of_ble_eq_true rfl) (Or.inr rfl) (by rw [ex1]; rfl) ?_
  exact w_81_52 d hd k36 K36 FU v0 v1 v2 x1 h _ hb
def b_81_44 (k36 : Option Nat → Int32 → Hp → Option (Int32 × Hp)) (v0 : Option Nat) (v2 : Int32)  (h : Hp) : Option (Int32 × Hp) :=
  if (nI 100) ≤ v2 then b_81_113 v0  h else b_81_50 k36 v0 v2  h
theorem u_81_44 (d : Nat) (hd : 4 ≤ d) (k36 : Option Nat → Int32 → Hp → Option (Int32 × Hp)) (K36 : ∀ (v0 : Option Nat) (v1 : Option Nat) (v2 : Int32) (v3 : Option (Int32)) (h : Hp) (r : Int32 × Hp), k36 v0 v2 h = some r → Rn d 81 36 [some (va_rf v0), some (va_rf v1), some (.int v2), v3.map Value.int] [] h (some (.int r.1), r.2)) (v0 : Option Nat) (v1 : Option Nat) (v2 : Int32) (v3 : Option (Int32))  (h : Hp) (r : Int32 × Hp) (hb : b_81_44 k36 v0 v2  h = some r) : Rn d 81 44 [some (va_rf v0), some (va_rf v1), some (.int v2), v3.map Value.int] [] h (some (.int r.1), r.2) := by
  unfold b_81_44 at hb
  refine rn_iload_n (i := 2) rfl rfl ?_
  refine rn_bipush (x := (nI 100)) rfl (by decide) ?_
  refine rn_icmp_ge rfl rfl (fun hc => ?_) (fun hc => ?_)
  · exact u_81_113 d hd v0 v1 v2 v3  h _ (if_t hb hc)
  · exact u_81_50 d hd k36 K36 v0 v1 v2 v3  h _ (if_f hb hc)
def b_81_36 (k36 : Option Nat → Int32 → Hp → Option (Int32 × Hp)) (v0 : Option Nat) (v2 : Int32)  (h : Hp) : Option (Int32 × Hp) :=
  (gI 6 5 v0 h).bind fun x1 =>
  if x1 ≤ v2 then b_81_113 v0  h else b_81_44 k36 v0 v2  h
theorem u_81_36 (d : Nat) (hd : 4 ≤ d) (k36 : Option Nat → Int32 → Hp → Option (Int32 × Hp)) (K36 : ∀ (v0 : Option Nat) (v1 : Option Nat) (v2 : Int32) (v3 : Option (Int32)) (h : Hp) (r : Int32 × Hp), k36 v0 v2 h = some r → Rn d 81 36 [some (va_rf v0), some (va_rf v1), some (.int v2), v3.map Value.int] [] h (some (.int r.1), r.2)) (v0 : Option Nat) (v1 : Option Nat) (v2 : Int32) (v3 : Option (Int32))  (h : Hp) (r : Int32 × Hp) (hb : b_81_36 k36 v0 v2  h = some r) : Rn d 81 36 [some (va_rf v0), some (va_rf v1), some (.int v2), v3.map Value.int] [] h (some (.int r.1), r.2) := by
  unfold b_81_36 at hb
  refine rn_iload_n (i := 2) rfl rfl ?_
  refine rn_aload_n (i := 0) rfl rfl ?_
  refine rn_gI (c := 6) (k := 5) rfl (by decide) hb (fun x1 hb => ?_)
  refine rn_icmp_ge rfl rfl (fun hc => ?_) (fun hc => ?_)
  · exact u_81_113 d hd v0 v1 v2 v3  h _ (if_t hb hc)
  · exact u_81_44 d hd k36 K36 v0 v1 v2 v3  h _ (if_f hb hc)
def l_81_36 : Nat → Option Nat → Int32 → Hp → Option (Int32 × Hp)
  | 0, _, _, _ => none
  | n + 1, v0, v2, h => b_81_36 (l_81_36 n) v0 v2 h
theorem w_81_36 (d : Nat) (hd : 4 ≤ d) : ∀ (n : Nat) (v0 : Option Nat) (v1 : Option Nat) (v2 : Int32) (v3 : Option (Int32)) (h : Hp) (r : Int32 × Hp), l_81_36 n v0 v2 h = some r → Rn d 81 36 [some (va_rf v0), some (va_rf v1), some (.int v2), v3.map Value.int] [] h (some (.int r.1), r.2) := by
  intro n
  induction n with
  | zero => intro v0 v1 v2 v3 h r hb; cases hb
  | succ n ih => intro v0 v1 v2 v3 h r hb; exact u_81_36 d hd (l_81_36 n) ih v0 v1 v2 v3 h r hb
def b_81_0 (v0 : Option Nat) (v1 : Option Nat)  (h : Hp) : Option (Int32 × Hp) :=
  (grd (rC 6 v0 h)).bind fun _ =>
  (f_72 v0 h).bind fun p1 =>
  (gQ 6 3 v0 p1).bind fun x2 =>
  (f_306 x2 (nI 0) p1).bind fun p3 =>
  (gQ 6 2 v0 p3).bind fun x4 =>
  (grd (rC 7 x4 p3)).bind fun _ =>
  (f_84 x4 v1 p3).bind fun p5 =>
  (pI 6 5 v0 (nI 0) p5).bind fun h6 =>
  (gI 7 3 v1 h6).bind fun x7 =>
  (grd (rC 6 v0 h6)).bind fun _ =>
  (f_74 v0 x7 (nI 1) h6).bind fun p8 =>
  bnd ((nI 0)) fun x9 =>
  l_81_36 FU v0 x9 p8
theorem u_81_0 (d : Nat) (hd : 4 ≤ d) (v0 : Option Nat) (v1 : Option Nat)  (h : Hp) (r : Int32 × Hp) (hb : b_81_0 v0 v1  h = some r) : Rn d 81 0 [some (va_rf v0), some (va_rf v1), none, none] [] h (some (.int r.1), r.2) := by
  unfold b_81_0 at hb
  obtain ⟨e, rfl⟩ : ∃ e, d = e + 1 := ⟨d - 1, by omega⟩
  refine rn_aload_n (i := 0) rfl rfl ?_
  obtain ⟨hrc, hb⟩ := grd_spec hb
  obtain ⟨p1, hc, hb⟩ := Option.bind_eq_some_iff.mp hb
  refine Rn.call0 (d := e) (As := [va_rf v0]) (rest := []) rfl rfl rfl (by decide) rfl rfl rfl (bd_rcV hrc rfl) (by decide) (bd_lenC (n := 1) rfl (bd_slR bd_slN) rfl) (bd_locC (n := 1) rfl (bd_slR bd_slN) rfl (t_72 e (by omega) v0 h _ hc)) ?_
  refine rn_aload_n (i := 0) rfl rfl ?_
  refine rn_gQ (c := 6) (k := 3) rfl (by decide) hb (fun x2 hb => ?_)
  refine rn_iconst (x := (nI 0)) rfl (by decide) ?_
  obtain ⟨p3, hc, hb⟩ := Option.bind_eq_some_iff.mp hb
  refine Rn.call0 (d := e) (As := [va_rf x2, .int (nI 0)]) (rest := []) rfl rfl rfl (by decide) rfl rfl rfl rfl (by decide) (bd_lenC (n := 4) rfl (bd_slR (bd_slI bd_slN)) rfl) (bd_locC (n := 4) rfl (bd_slR (bd_slI bd_slN)) rfl (t_306 e (by omega) x2 (nI 0) p1 _ hc)) ?_
  refine rn_aload_n (i := 0) rfl rfl ?_
  refine rn_gQ (c := 6) (k := 2) rfl (by decide) hb (fun x4 hb => ?_)
  refine rn_aload_n (i := 1) rfl rfl ?_
  obtain ⟨hrc, hb⟩ := grd_spec hb
  obtain ⟨p5, hc, hb⟩ := Option.bind_eq_some_iff.mp hb
  refine Rn.call0 (d := e) (As := [va_rf x4, va_rf v1]) (rest := []) rfl rfl rfl (by decide) rfl rfl rfl (bd_rcV hrc rfl) (by decide) (bd_lenC (n := 2) rfl (bd_slR (bd_slR bd_slN)) rfl) (bd_locC (n := 2) rfl (bd_slR (bd_slR bd_slN)) rfl (t_84 e (by omega) x4 v1 p3 _ hc)) ?_
  refine rn_aload_n (i := 0) rfl rfl ?_
  refine rn_iconst (x := (nI 0)) rfl (by decide) ?_
  refine rn_pI (c := 6) (k := 5) rfl (by decide) hb (fun h6 hb => ?_)
  refine rn_aload_n (i := 0) rfl rfl ?_
  refine rn_aload_n (i := 1) rfl rfl ?_
  refine rn_gI (c := 7) (k := 3) rfl (by decide) hb (fun x7 hb => ?_)
  refine rn_iconst (x := (nI 1)) rfl (by decide) ?_
  obtain ⟨hrc, hb⟩ := grd_spec hb
  obtain ⟨p8, hc, hb⟩ := Option.bind_eq_some_iff.mp hb
  refine Rn.call0 (d := e) (As := [va_rf v0, .int x7, .int (nI 1)]) (rest := []) rfl rfl rfl (by decide) rfl rfl rfl (bd_rcV hrc rfl) (by decide) (bd_lenC (n := 3) rfl (bd_slR (bd_slI (bd_slI bd_slN))) rfl) (bd_locC (n := 3) rfl (bd_slR (bd_slI (bd_slI bd_slN))) rfl (t_74 e (by omega) v0 x7 (nI 1) h6 _ hc)) ?_
  refine rn_iconst (x := (nI 0)) rfl (by decide) ?_
  obtain ⟨x9, ex9, hb⟩ := bnd_spec hb
  refine rn_istore_n (i := 2) (L1 := [some (va_rf v0), some (va_rf v1), some (.int x9), none]) rfl (Nat.le_of_ble_eq_true rfl) (Or.inr (bd_wideR rfl)) (by rw [ex9]; rfl) ?_
  exact w_81_36 (e + 1) hd FU v0 v1 x9 (none : Option (Int32)) p8 _ hb
/-- BitingDoors$Paths.countSteps(LBitingDoors$Scene;)I -/
def f_81 (v0 : Option Nat) (v1 : Option Nat) (h : Hp) : Option (Int32 × Hp) := b_81_0 v0 v1 h
theorem t_81 (d : Nat) (hd : 4 ≤ d) (v0 : Option Nat) (v1 : Option Nat) (h : Hp) (r : Int32 × Hp) (hb : f_81 v0 v1 h = some r) : Rn d 81 0 [some (va_rf v0), some (va_rf v1), none, none] [] h (some (.int r.1), r.2) := by
  unfold f_81 at hb
  exact u_81_0 d hd v0 v1 h r hb
def b_83_52   (h : Hp) : Option (Hp) :=
  some h
theorem u_83_52 (d : Nat) (hd : 1 ≤ d) (v0 : Option Nat) (v1 : Option Nat) (v2 : Int32)  (h : Hp) (r : Hp) (hb : b_83_52   h = some r) : Rn d 83 52 [some (va_rf v0), some (va_rf v1), some (.int v2)] [] h (none, r) := by
  unfold b_83_52 at hb
  obtain rfl := Option.some.inj hb
  exact rn_vret rfl rfl
def b_83_31 (k23 : Option Nat → Option Nat → Int32 → Hp → Option (Hp)) (v0 : Option Nat) (v1 : Option Nat) (v2 : Int32)  (h : Hp) : Option (Hp) :=
  (gQ 7 0 v0 h).bind fun x1 =>
  (gQ 4 1 v1 h).bind fun x2 =>
  (aQ x2 v2 h).bind fun x3 =>
  (gI 1 10 x3 h).bind fun x4 =>
  (wI x1 v2 x4 h).bind fun h5 =>
  bnd (v2 + (nI 1)) fun x6 =>
  k23 v0 v1 x6 h5
theorem u_83_31 (d : Nat) (hd : 1 ≤ d) (k23 : Option Nat → Option Nat → Int32 → Hp → Option (Hp)) (K23 : ∀ (v0 : Option Nat) (v1 : Option Nat) (v2 : Int32) (h : Hp) (r : Hp), k23 v0 v1 v2 h = some r → Rn d 83 23 [some (va_rf v0), some (va_rf v1), some (.int v2)] [] h (none, r)) (v0 : Option Nat) (v1 : Option Nat) (v2 : Int32)  (h : Hp) (r : Hp) (hb : b_83_31 k23 v0 v1 v2  h = some r) : Rn d 83 31 [some (va_rf v0), some (va_rf v1), some (.int v2)] [] h (none, r) := by
  unfold b_83_31 at hb
  refine rn_aload_n (i := 0) rfl rfl ?_
  refine rn_gQ (c := 7) (k := 0) rfl (by decide) hb (fun x1 hb => ?_)
  refine rn_iload_n (i := 2) rfl rfl ?_
  refine rn_aload_n (i := 1) rfl rfl ?_
  refine rn_gQ (c := 4) (k := 1) rfl (by decide) hb (fun x2 hb => ?_)
  refine rn_iload_n (i := 2) rfl rfl ?_
  refine rn_aQ rfl hb (fun x3 hb => ?_)
  refine rn_gI (c := 1) (k := 10) rfl (by decide) hb (fun x4 hb => ?_)
  refine rn_wI rfl hb (fun h5 hb => ?_)
  obtain ⟨x6, ex6, hb⟩ := bnd_spec hb
  refine rn_iinc (i := 2) (y := x6) (L1 := [some (va_rf v0), some (va_rf v1), some (.int x6)]) rfl rfl (Nat.le_of_ble_eq_true rfl) (Or.inr (bd_wideR rfl)) (by rw [ex6]; rfl) rfl ?_
  refine rn_goto rfl rfl ?_
  exact K23 v0 v1 x6 h5 _ hb
def b_83_23 (k23 : Option Nat → Option Nat → Int32 → Hp → Option (Hp)) (v0 : Option Nat) (v1 : Option Nat) (v2 : Int32)  (h : Hp) : Option (Hp) :=
  (gI 4 5 v1 h).bind fun x1 =>
  if x1 ≤ v2 then b_83_52   h else b_83_31 k23 v0 v1 v2  h
theorem u_83_23 (d : Nat) (hd : 1 ≤ d) (k23 : Option Nat → Option Nat → Int32 → Hp → Option (Hp)) (K23 : ∀ (v0 : Option Nat) (v1 : Option Nat) (v2 : Int32) (h : Hp) (r : Hp), k23 v0 v1 v2 h = some r → Rn d 83 23 [some (va_rf v0), some (va_rf v1), some (.int v2)] [] h (none, r)) (v0 : Option Nat) (v1 : Option Nat) (v2 : Int32)  (h : Hp) (r : Hp) (hb : b_83_23 k23 v0 v1 v2  h = some r) : Rn d 83 23 [some (va_rf v0), some (va_rf v1), some (.int v2)] [] h (none, r) := by
  unfold b_83_23 at hb
  refine rn_iload_n (i := 2) rfl rfl ?_
  refine rn_aload_n (i := 1) rfl rfl ?_
  refine rn_gI (c := 4) (k := 5) rfl (by decide) hb (fun x1 hb => ?_)
  refine rn_icmp_ge rfl rfl (fun hc => ?_) (fun hc => ?_)
  · exact u_83_52 d hd v0 v1 v2  h _ (if_t hb hc)
  · exact u_83_31 d hd k23 K23 v0 v1 v2  h _ (if_f hb hc)
def l_83_23 : Nat → Option Nat → Option Nat → Int32 → Hp → Option (Hp)
  | 0, _, _, _, _ => none
  | n + 1, v0, v1, v2, h => b_83_23 (l_83_23 n) v0 v1 v2 h
theorem w_83_23 (d : Nat) (hd : 1 ≤ d) : ∀ (n : Nat) (v0 : Option Nat) (v1 : Option Nat) (v2 : Int32) (h : Hp) (r : Hp), l_83_23 n v0 v1 v2 h = some r → Rn d 83 23 [some (va_rf v0), some (va_rf v1), some (.int v2)] [] h (none, r) := by
  intro n
  induction n with
  | zero => intro v0 v1 v2 h r hb; cases hb
  | succ n ih => intro v0 v1 v2 h r hb; exact u_83_23 d hd (l_83_23 n) ih v0 v1 v2 h r hb
def b_83_0 (v0 : Option Nat) (v1 : Option Nat)  (h : Hp) : Option (Hp) :=
  (pQ 7 2 v0 v1 h).bind fun h1 =>
  (gI 4 7 v1 h1).bind fun x2 =>
  (pI 7 3 v0 x2 h1).bind fun h3 =>
  (gQ 7 1 v0 h3).bind fun x4 =>
  (f_306 x4 (nI 0) h3).bind fun p5 =>
  bnd ((nI 0)) fun x6 =>
  l_83_23 FU v0 v1 x6 p5
theorem u_83_0 (d : Nat) (hd : 1 ≤ d) (v0 : Option Nat) (v1 : Option Nat)  (h : Hp) (r : Hp) (hb : b_83_0 v0 v1  h = some r) : Rn d 83 0 [some (va_rf v0), some (va_rf v1), none] [] h (none, r) := by
  unfold b_83_0 at hb
  obtain ⟨e, rfl⟩ : ∃ e, d = e + 1 := ⟨d - 1, by omega⟩
  refine rn_aload_n (i := 0) rfl rfl ?_
  refine rn_aload_n (i := 1) rfl rfl ?_
  refine rn_pQ (c := 7) (k := 2) rfl (by decide) hb (fun h1 hb => ?_)
  refine rn_aload_n (i := 0) rfl rfl ?_
  refine rn_aload_n (i := 1) rfl rfl ?_
  refine rn_gI (c := 4) (k := 7) rfl (by decide) hb (fun x2 hb => ?_)
  refine rn_pI (c := 7) (k := 3) rfl (by decide) hb (fun h3 hb => ?_)
  refine rn_aload_n (i := 0) rfl rfl ?_
  refine rn_gQ (c := 7) (k := 1) rfl (by decide) hb (fun x4 hb => ?_)
  refine rn_iconst (x := (nI 0)) rfl (by decide) ?_
  obtain ⟨p5, hc, hb⟩ := Option.bind_eq_some_iff.mp hb
  refine Rn.call0 (d := e) (As := [va_rf x4, .int (nI 0)]) (rest := []) rfl rfl rfl (by decide) rfl rfl rfl rfl (by decide) (bd_lenC (n := 4) rfl (bd_slR (bd_slI bd_slN)) rfl) (bd_locC (n := 4) rfl (bd_slR (bd_slI bd_slN)) rfl (t_306 e (by omega) x4 (nI 0) h3 _ hc)) ?_
  refine rn_iconst (x := (nI 0)) rfl (by decide) ?_
  obtain ⟨x6, ex6, hb⟩ := bnd_spec hb
  refine rn_istore_n (i := 2) (L1 := [some (va_rf v0), some (va_rf v1), some (.int x6)]) rfl (Nat.le_of_ble_eq_true rfl) (Or.inr (bd_wideR rfl)) (by rw [ex6]; rfl) ?_
  exact w_83_23 (e + 1) hd FU v0 v1 x6 p5 _ hb
/-- BitingDoors$Scene.enter(LBitingDoors$House;)V -/
def f_83 (v0 : Option Nat) (v1 : Option Nat) (h : Hp) : Option (Hp) := b_83_0 v0 v1 h
theorem t_83 (d : Nat) (hd : 1 ≤ d) (v0 : Option Nat) (v1 : Option Nat) (h : Hp) (r : Hp) (hb : f_83 v0 v1 h = some r) : Rn d 83 0 [some (va_rf v0), some (va_rf v1), none] [] h (none, r) := by
  unfold f_83 at hb
  exact u_83_0 d hd v0 v1 h r hb
def b_86_40 (v1 : Int32)  (h : Hp) : Option (Int32 × Hp) :=
  some (v1, h)
theorem u_86_40 (d : Nat) (hd : 0 ≤ d) (v0 : Option Nat) (v1 : Int32) (v2 : Int32)  (h : Hp) (r : Int32 × Hp) (hb : b_86_40 v1  h = some r) : Rn d 86 40 [some (va_rf v0), some (.int v1), some (.int v2)] [] h (some (.int r.1), r.2) := by
  unfold b_86_40 at hb
  refine rn_iload_n (i := 1) rfl rfl ?_
  obtain rfl := Option.some.inj hb
  exact rn_iret rfl rfl
def b_86_32 (k4 : Option Nat → Int32 → Int32 → Hp → Option (Int32 × Hp)) (v0 : Option Nat) (v2 : Int32) (s0 : Int32) (s1 : Int32) (h : Hp) : Option (Int32 × Hp) :=
  bnd ((s0 ||| s1)) fun x1 =>
  bnd (v2 + (nI 1)) fun x2 =>
  k4 v0 x1 x2 h
theorem u_86_32 (d : Nat) (hd : 0 ≤ d) (k4 : Option Nat → Int32 → Int32 → Hp → Option (Int32 × Hp)) (K4 : ∀ (v0 : Option Nat) (v1 : Int32) (v2 : Int32) (h : Hp) (r : Int32 × Hp), k4 v0 v1 v2 h = some r → Rn d 86 4 [some (va_rf v0), some (.int v1), some (.int v2)] [] h (some (.int r.1), r.2)) (v0 : Option Nat) (v1 : Int32) (v2 : Int32) (s0 : Int32) (s1 : Int32) (h : Hp) (r : Int32 × Hp) (hb : b_86_32 k4 v0 v2 s0 s1 h = some r) : Rn d 86 32 [some (va_rf v0), some (.int v1), some (.int v2)] [.int s1, .int s0] h (some (.int r.1), r.2) := by
  unfold b_86_32 at hb
  refine rn_ior rfl ?_
  obtain ⟨x1, ex1, hb⟩ := bnd_spec hb
  refine rn_istore_n (i := 1) (L1 := [some (va_rf v0), some (.int x1), some (.int v2)]) rfl (Nat.le_of_ble_eq_true rfl) (Or.inr (bd_wideR rfl)) (by rw [ex1]; rfl) ?_
  obtain ⟨x2, ex2, hb⟩ := bnd_spec hb
  refine rn_iinc (i := 2) (y := x2) (L1 := [some (va_rf v0), some (.int x1), some (.int x2)]) rfl rfl (Nat.le_of_ble_eq_true rfl) (Or.inr rfl) (by rw [ex2]; rfl) rfl ?_
  refine rn_goto rfl rfl ?_
  exact K4 v0 x1 x2 h _ hb
def b_86_29 (k4 : Option Nat → Int32 → Int32 → Hp → Option (Int32 × Hp)) (v0 : Option Nat) (v2 : Int32) (s0 : Int32) (h : Hp) : Option (Int32 × Hp) :=
  b_86_32 k4 v0 v2 s0 ((nI 1) <<< (v2 &&& 31)) h
theorem u_86_29 (d : Nat) (hd : 0 ≤ d) (k4 : Option Nat → Int32 → Int32 → Hp → Option (Int32 × Hp)) (K4 : ∀ (v0 : Option Nat) (v1 : Int32) (v2 : Int32) (h : Hp) (r : Int32 × Hp), k4 v0 v1 v2 h = some r → Rn d 86 4 [some (va_rf v0), some (.int v1), some (.int v2)] [] h (some (.int r.1), r.2)) (v0 : Option Nat) (v1 : Int32) (v2 : Int32) (s0 : Int32) (h : Hp) (r : Int32 × Hp) (hb : b_86_29 k4 v0 v2 s0 h = some r) : Rn d 86 29 [some (va_rf v0), some (.int v1), some (.int v2)] [.int s0] h (some (.int r.1), r.2) := by
  unfold b_86_29 at hb
  refine rn_iconst (x := (nI 1)) rfl (by decide) ?_
  refine rn_iload_n (i := 2) rfl rfl ?_
  refine rn_ishl rfl ?_
  exact u_86_32 d hd k4 K4 v0 v1 v2 s0 ((nI 1) <<< (v2 &&& 31)) h _ hb
def b_86_25 (k4 : Option Nat → Int32 → Int32 → Hp → Option (Int32 × Hp)) (v0 : Option Nat) (v2 : Int32) (s0 : Int32) (h : Hp) : Option (Int32 × Hp) :=
  b_86_32 k4 v0 v2 s0 (nI 0) h
theorem u_86_25 (d : Nat) (hd : 0 ≤ d) (k4 : Option Nat → Int32 → Int32 → Hp → Option (Int32 × Hp)) (K4 : ∀ (v0 : Option Nat) (v1 : Int32) (v2 : Int32) (h : Hp) (r : Int32 × Hp), k4 v0 v1 v2 h = some r → Rn d 86 4 [some (va_rf v0), some (.int v1), some (.int v2)] [] h (some (.int r.1), r.2)) (v0 : Option Nat) (v1 : Int32) (v2 : Int32) (s0 : Int32) (h : Hp) (r : Int32 × Hp) (hb : b_86_25 k4 v0 v2 s0 h = some r) : Rn d 86 25 [some (va_rf v0), some (.int v1), some (.int v2)] [.int s0] h (some (.int r.1), r.2) := by
  unfold b_86_25 at hb
  refine rn_iconst (x := (nI 0)) rfl (by decide) ?_
  refine rn_goto rfl rfl ?_
  exact u_86_32 d hd k4 K4 v0 v1 v2 s0 (nI 0) h _ hb
def b_86_15 (k4 : Option Nat → Int32 → Int32 → Hp → Option (Int32 × Hp)) (v0 : Option Nat) (v1 : Int32) (v2 : Int32)  (h : Hp) : Option (Int32 × Hp) :=
  (gQ 7 1 v0 h).bind fun x1 =>
  (aI 12 x1 v2 h).bind fun x2 =>
  if ¬ x2 = 0 then b_86_29 k4 v0 v2 v1 h else b_86_25 k4 v0 v2 v1 h
theorem u_86_15 (d : Nat) (hd : 0 ≤ d) (k4 : Option Nat → Int32 → Int32 → Hp → Option (Int32 × Hp)) (K4 : ∀ (v0 : Option Nat) (v1 : Int32) (v2 : Int32) (h : Hp) (r : Int32 × Hp), k4 v0 v1 v2 h = some r → Rn d 86 4 [some (va_rf v0), some (.int v1), some (.int v2)] [] h (some (.int r.1), r.2)) (v0 : Option Nat) (v1 : Int32) (v2 : Int32)  (h : Hp) (r : Int32 × Hp) (hb : b_86_15 k4 v0 v1 v2  h = some r) : Rn d 86 15 [some (va_rf v0), some (.int v1), some (.int v2)] [] h (some (.int r.1), r.2) := by
  unfold b_86_15 at hb
  refine rn_iload_n (i := 1) rfl rfl ?_
  refine rn_aload_n (i := 0) rfl rfl ?_
  refine rn_gQ (c := 7) (k := 1) rfl (by decide) hb (fun x1 hb => ?_)
  refine rn_iload_n (i := 2) rfl rfl ?_
  refine rn_aI rfl hb (fun x2 hb => ?_)
  refine rn_if_ne rfl rfl (fun hc => ?_) (fun hc => ?_)
  · exact u_86_29 d hd k4 K4 v0 v1 v2 v1 h _ (if_t hb hc)
  · exact u_86_25 d hd k4 K4 v0 v1 v2 v1 h _ (if_f hb hc)
def b_86_4 (k4 : Option Nat → Int32 → Int32 → Hp → Option (Int32 × Hp)) (v0 : Option Nat) (v1 : Int32) (v2 : Int32)  (h : Hp) : Option (Int32 × Hp) :=
  (gQ 7 2 v0 h).bind fun x1 =>
  (gI 4 5 x1 h).bind fun x2 =>
  if x2 ≤ v2 then b_86_40 v1  h else b_86_15 k4 v0 v1 v2  h
theorem u_86_4 (d : Nat) (hd : 0 ≤ d) (k4 : Option Nat → Int32 → Int32 → Hp → Option (Int32 × Hp)) (K4 : ∀ (v0 : Option Nat) (v1 : Int32) (v2 : Int32) (h : Hp) (r : Int32 × Hp), k4 v0 v1 v2 h = some r → Rn d 86 4 [some (va_rf v0), some (.int v1), some (.int v2)] [] h (some (.int r.1), r.2)) (v0 : Option Nat) (v1 : Int32) (v2 : Int32)  (h : Hp) (r : Int32 × Hp) (hb : b_86_4 k4 v0 v1 v2  h = some r) : Rn d 86 4 [some (va_rf v0), some (.int v1), some (.int v2)] [] h (some (.int r.1), r.2) := by
  unfold b_86_4 at hb
  refine rn_iload_n (i := 2) rfl rfl ?_
  refine rn_aload_n (i := 0) rfl rfl ?_
  refine rn_gQ (c := 7) (k := 2) rfl (by decide) hb (fun x1 hb => ?_)
  refine rn_gI (c := 4) (k := 5) rfl (by decide) hb (fun x2 hb => ?_)
  refine rn_icmp_ge rfl rfl (fun hc => ?_) (fun hc => ?_)
  · exact u_86_40 d hd v0 v1 v2  h _ (if_t hb hc)
  · exact u_86_15 d hd k4 K4 v0 v1 v2  h _ (if_f hb hc)
def l_86_4 : Nat → Option Nat → Int32 → Int32 → Hp → Option (Int32 × Hp)
  | 0, _, _, _, _ => none
  | n + 1, v0, v1, v2, h => b_86_4 (l_86_4 n) v0 v1 v2 h
theorem w_86_4 (d : Nat) (hd : 0 ≤ d) : ∀ (n : Nat) (v0 : Option Nat) (v1 : Int32) (v2 : Int32) (h : Hp) (r : Int32 × Hp), l_86_4 n v0 v1 v2 h = some r → Rn d 86 4 [some (va_rf v0), some (.int v1), some (.int v2)] [] h (some (.int r.1), r.2) := by
  intro n
  induction n with
  | zero => intro v0 v1 v2 h r hb; cases hb
  | succ n ih => intro v0 v1 v2 h r hb; exact u_86_4 d hd (l_86_4 n) ih v0 v1 v2 h r hb
def b_86_0 (v0 : Option Nat)  (h : Hp) : Option (Int32 × Hp) :=
  bnd ((nI 0)) fun x1 =>
  bnd ((nI 0)) fun x2 =>
  l_86_4 FU v0 x1 x2 h
theorem u_86_0 (d : Nat) (hd : 0 ≤ d) (v0 : Option Nat)  (h : Hp) (r : Int32 × Hp) (hb : b_86_0 v0  h = some r) : Rn d 86 0 [some (va_rf v0), none, none] [] h (some (.int r.1), r.2) := by
  unfold b_86_0 at hb
  refine rn_iconst (x := (nI 0)) rfl (by decide) ?_
  obtain ⟨x1, ex1, hb⟩ := bnd_spec hb
  refine rn_istore_n (i := 1) (L1 := [some (va_rf v0), some (.int x1), none]) rfl (Nat.le_of_ble_eq_true rfl) (Or.inr (bd_wideR rfl)) (by rw [ex1]; rfl) ?_
  refine rn_iconst (x := (nI 0)) rfl (by decide) ?_
  obtain ⟨x2, ex2, hb⟩ := bnd_spec hb
  refine rn_istore_n (i := 2) (L1 := [some (va_rf v0), some (.int x1), some (.int x2)]) rfl (Nat.le_of_ble_eq_true rfl) (Or.inr rfl) (by rw [ex2]; rfl) ?_
  exact w_86_4 d hd FU v0 x1 x2 h _ hb
/-- BitingDoors$Scene.openDoors()I -/
def f_86 (v0 : Option Nat) (h : Hp) : Option (Int32 × Hp) := b_86_0 v0 h
theorem t_86 (d : Nat) (hd : 0 ≤ d) (v0 : Option Nat) (h : Hp) (r : Int32 × Hp) (hb : f_86 v0 h = some r) : Rn d 86 0 [some (va_rf v0), none, none] [] h (some (.int r.1), r.2) := by
  unfold f_86 at hb
  exact u_86_0 d hd v0 h r hb
def b_89_25  (s0 : Int32) (h : Hp) : Option (Int32 × Hp) :=
  (grd (decide (s0 = 0 ∨ s0 = 1))).bind fun _ => some (s0, h)
theorem u_89_25 (d : Nat) (hd : 0 ≤ d) (v0 : Option Nat) (v1 : Int32) (s0 : Int32) (h : Hp) (r : Int32 × Hp) (hb : b_89_25  s0 h = some r) : Rn d 89 25 [some (va_rf v0), some (.int v1)] [.int s0] h (some (.int r.1), r.2) := by
  unfold b_89_25 at hb
  obtain ⟨hz, hb⟩ := grd_spec hb
  obtain rfl := Option.some.inj hb
  exact rn_zret rfl rfl (of_decide_eq_true hz)
def b_89_24   (h : Hp) : Option (Int32 × Hp) :=
  b_89_25  (nI 0) h
theorem u_89_24 (d : Nat) (hd : 0 ≤ d) (v0 : Option Nat) (v1 : Int32)  (h : Hp) (r : Int32 × Hp) (hb : b_89_24   h = some r) : Rn d 89 24 [some (va_rf v0), some (.int v1)] [] h (some (.int r.1), r.2) := by
  unfold b_89_24 at hb
  refine rn_iconst (x := (nI 0)) rfl (by decide) ?_
  exact u_89_25 d hd v0 v1 (nI 0) h _ hb
def b_89_20   (h : Hp) : Option (Int32 × Hp) :=
  b_89_25  (nI 1) h
theorem u_89_20 (d : Nat) (hd : 0 ≤ d) (v0 : Option Nat) (v1 : Int32)  (h : Hp) (r : Int32 × Hp) (hb : b_89_20   h = some r) : Rn d 89 20 [some (va_rf v0), some (.int v1)] [] h (some (.int r.1), r.2) := by
  unfold b_89_20 at hb
  refine rn_iconst (x := (nI 1)) rfl (by decide) ?_
  refine rn_goto rfl rfl ?_
  exact u_89_25 d hd v0 v1 (nI 1) h _ hb
def b_89_5 (v0 : Option Nat) (v1 : Int32)  (h : Hp) : Option (Int32 × Hp) :=
  (gQ 7 2 v0 h).bind fun x1 =>
  (gI 4 5 x1 h).bind fun x2 =>
  if ((nI 4) + ((nI 2) * x2)) ≤ v1 then b_89_24   h else b_89_20   h
theorem u_89_5 (d : Nat) (hd : 0 ≤ d) (v0 : Option Nat) (v1 : Int32)  (h : Hp) (r : Int32 × Hp) (hb : b_89_5 v0 v1  h = some r) : Rn d 89 5 [some (va_rf v0), some (.int v1)] [] h (some (.int r.1), r.2) := by
  unfold b_89_5 at hb
  refine rn_iload_n (i := 1) rfl rfl ?_
  refine rn_iconst (x := (nI 4)) rfl (by decide) ?_
  refine rn_iconst (x := (nI 2)) rfl (by decide) ?_
  refine rn_aload_n (i := 0) rfl rfl ?_
  refine rn_gQ (c := 7) (k := 2) rfl (by decide) hb (fun x1 hb => ?_)
  refine rn_gI (c := 4) (k := 5) rfl (by decide) hb (fun x2 hb => ?_)
  refine rn_imul rfl ?_
  refine rn_iadd rfl ?_
  refine rn_icmp_ge rfl rfl (fun hc => ?_) (fun hc => ?_)
  · exact u_89_24 d hd v0 v1  h _ (if_t hb hc)
  · exact u_89_20 d hd v0 v1  h _ (if_f hb hc)
def b_89_0 (v0 : Option Nat) (v1 : Int32)  (h : Hp) : Option (Int32 × Hp) :=
  if v1 < (-1 : Int32) then b_89_24   h else b_89_5 v0 v1  h
theorem u_89_0 (d : Nat) (hd : 0 ≤ d) (v0 : Option Nat) (v1 : Int32)  (h : Hp) (r : Int32 × Hp) (hb : b_89_0 v0 v1  h = some r) : Rn d 89 0 [some (va_rf v0), some (.int v1)] [] h (some (.int r.1), r.2) := by
  unfold b_89_0 at hb
  refine rn_iload_n (i := 1) rfl rfl ?_
  refine rn_iconst (x := (-1 : Int32)) rfl (by decide) ?_
  refine rn_icmp_lt rfl rfl (fun hc => ?_) (fun hc => ?_)
  · exact u_89_24 d hd v0 v1  h _ (if_t hb hc)
  · exact u_89_5 d hd v0 v1  h _ (if_f hb hc)
/-- BitingDoors$Scene.isAct(I)Z -/
def f_89 (v0 : Option Nat) (v1 : Int32) (h : Hp) : Option (Int32 × Hp) := b_89_0 v0 v1 h
theorem t_89 (d : Nat) (hd : 0 ≤ d) (v0 : Option Nat) (v1 : Int32) (h : Hp) (r : Int32 × Hp) (hb : f_89 v0 v1 h = some r) : Rn d 89 0 [some (va_rf v0), some (.int v1)] [] h (some (.int r.1), r.2) := by
  unfold f_89 at hb
  exact u_89_0 d hd v0 v1 h r hb
def b_97_46 (v0 : Option Nat) (v2 : Int32) (s0 : Int32) (h : Hp) : Option (Int32 × Hp) :=
  (gQ 7 1 v0 h).bind fun x1 =>
  (aI 12 x1 v2 h).bind fun x2 =>
  some ((s0 - x2), h)
theorem u_97_46 (d : Nat) (hd : 1 ≤ d) (v0 : Option Nat) (v1 : Int32) (v2 : Int32) (s0 : Int32) (h : Hp) (r : Int32 × Hp) (hb : b_97_46 v0 v2 s0 h = some r) : Rn d 97 46 [some (va_rf v0), some (.int v1), some (.int v2)] [.int s0] h (some (.int r.1), r.2) := by
  unfold b_97_46 at hb
  refine rn_aload_n (i := 0) rfl rfl ?_
  refine rn_gQ (c := 7) (k := 1) rfl (by decide) hb (fun x1 hb => ?_)
  refine rn_iload_n (i := 2) rfl rfl ?_
  refine rn_aI rfl hb (fun x2 hb => ?_)
  refine rn_isub rfl ?_
  obtain rfl := Option.some.inj hb
  exact rn_iret rfl rfl
def b_97_45 (v0 : Option Nat) (v2 : Int32)  (h : Hp) : Option (Int32 × Hp) :=
  b_97_46 v0 v2 (nI 1) h
theorem u_97_45 (d : Nat) (hd : 1 ≤ d) (v0 : Option Nat) (v1 : Int32) (v2 : Int32)  (h : Hp) (r : Int32 × Hp) (hb : b_97_45 v0 v2  h = some r) : Rn d 97 45 [some (va_rf v0), some (.int v1), some (.int v2)] [] h (some (.int r.1), r.2) := by
  unfold b_97_45 at hb
  refine rn_iconst (x := (nI 1)) rfl (by decide) ?_
  exact u_97_46 d hd v0 v1 v2 (nI 1) h _ hb
def b_97_41 (v0 : Option Nat) (v2 : Int32)  (h : Hp) : Option (Int32 × Hp) :=
  b_97_46 v0 v2 (nI 2) h
theorem u_97_41 (d : Nat) (hd : 1 ≤ d) (v0 : Option Nat) (v1 : Int32) (v2 : Int32)  (h : Hp) (r : Int32 × Hp) (hb : b_97_41 v0 v2  h = some r) : Rn d 97 41 [some (va_rf v0), some (.int v1), some (.int v2)] [] h (some (.int r.1), r.2) := by
  unfold b_97_41 at hb
  refine rn_iconst (x := (nI 2)) rfl (by decide) ?_
  refine rn_goto rfl rfl ?_
  exact u_97_46 d hd v0 v1 v2 (nI 2) h _ hb
def b_97_19 (v0 : Option Nat) (v2 : Int32)  (h : Hp) : Option (Int32 × Hp) :=
  (gQ 7 2 v0 h).bind fun x1 =>
  (gQ 4 1 x1 h).bind fun x2 =>
  (aQ x2 v2 h).bind fun x3 =>
  (gQ 7 0 v0 h).bind fun x4 =>
  (aI 12 x4 v2 h).bind fun x5 =>
  (grd (rC 1 x3 h)).bind fun _ =>
  (f_12 x3 x5 (nI 2) h).bind fun p6 =>
  if p6.1 = 0 then b_97_45 v0 v2  p6.2 else b_97_41 v0 v2  p6.2
theorem u_97_19 (d : Nat) (hd : 1 ≤ d) (v0 : Option Nat) (v1 : Int32) (v2 : Int32)  (h : Hp) (r : Int32 × Hp) (hb : b_97_19 v0 v2  h = some r) : Rn d 97 19 [some (va_rf v0), some (.int v1), some (.int v2)] [] h (some (.int r.1), r.2) := by
  unfold b_97_19 at hb
  obtain ⟨e, rfl⟩ : ∃ e, d = e + 1 := ⟨d - 1, by omega⟩
  refine rn_aload_n (i := 0) rfl rfl ?_
  refine rn_gQ (c := 7) (k := 2) rfl (by decide) hb (fun x1 hb => ?_)
  refine rn_gQ (c := 4) (k := 1) rfl (by decide) hb (fun x2 hb => ?_)
  refine rn_iload_n (i := 2) rfl rfl ?_
  refine rn_aQ rfl hb (fun x3 hb => ?_)
  refine rn_aload_n (i := 0) rfl rfl ?_
  refine rn_gQ (c := 7) (k := 0) rfl (by decide) hb (fun x4 hb => ?_)
  refine rn_iload_n (i := 2) rfl rfl ?_
  refine rn_aI rfl hb (fun x5 hb => ?_)
  refine rn_iconst (x := (nI 2)) rfl (by decide) ?_
  obtain ⟨hrc, hb⟩ := grd_spec hb
  obtain ⟨p6, hc, hb⟩ := Option.bind_eq_some_iff.mp hb
  refine Rn.call1 (d := e) (As := [va_rf x3, .int x5, .int (nI 2)]) (rest := []) rfl rfl rfl (by decide) rfl rfl rfl (bd_rcV hrc rfl) (by decide) (bd_lenC (n := 3) rfl (bd_slR (bd_slI (bd_slI bd_slN))) rfl) (bd_locC (n := 3) rfl (bd_slR (bd_slI (bd_slI bd_slN))) rfl (t_12 e (by omega) x3 x5 (nI 2) h _ hc)) ?_
  refine rn_if_eq rfl rfl (fun hc => ?_) (fun hc => ?_)
  · exact u_97_45 (e + 1) hd v0 v1 v2  p6.2 _ (if_t hb hc)
  · exact u_97_41 (e + 1) hd v0 v1 v2  p6.2 _ (if_f hb hc)
def b_97_12 (v0 : Option Nat) (v2 : Int32)  (h : Hp) : Option (Int32 × Hp) :=
  (gQ 7 1 v0 h).bind fun x1 =>
  (aI 12 x1 v2 h).bind fun x2 =>
  some (x2, h)
theorem u_97_12 (d : Nat) (hd : 1 ≤ d) (v0 : Option Nat) (v1 : Int32) (v2 : Int32)  (h : Hp) (r : Int32 × Hp) (hb : b_97_12 v0 v2  h = some r) : Rn d 97 12 [some (va_rf v0), some (.int v1), some (.int v2)] [] h (some (.int r.1), r.2) := by
  unfold b_97_12 at hb
  refine rn_aload_n (i := 0) rfl rfl ?_
  refine rn_gQ (c := 7) (k := 1) rfl (by decide) hb (fun x1 hb => ?_)
  refine rn_iload_n (i := 2) rfl rfl ?_
  refine rn_aI rfl hb (fun x2 hb => ?_)
  obtain rfl := Option.some.inj hb
  exact rn_iret rfl rfl
def b_97_0 (v0 : Option Nat) (v1 : Int32)  (h : Hp) : Option (Int32 × Hp) :=
  (f_99 v1 h).bind fun p1 =>
  bnd (p1.1) fun x2 =>
  (grd (decide (¬ ((nI 2) : Int32) = 0))).bind fun _ =>
  if ¬ (v1 - v1 / (nI 2) * (nI 2)) = (nI 1) then b_97_19 v0 x2  p1.2 else b_97_12 v0 x2  p1.2
theorem u_97_0 (d : Nat) (hd : 1 ≤ d) (v0 : Option Nat) (v1 : Int32)  (h : Hp) (r : Int32 × Hp) (hb : b_97_0 v0 v1  h = some r) : Rn d 97 0 [some (va_rf v0), some (.int v1), none] [] h (some (.int r.1), r.2) := by
  unfold b_97_0 at hb
  obtain ⟨e, rfl⟩ : ∃ e, d = e + 1 := ⟨d - 1, by omega⟩
  refine rn_iload_n (i := 1) rfl rfl ?_
  obtain ⟨p1, hc, hb⟩ := Option.bind_eq_some_iff.mp hb
  refine Rn.call1 (d := e) (As := [.int v1]) (rest := []) rfl rfl rfl (by decide) rfl rfl rfl rfl (by decide) (bd_lenC (n := 1) rfl (bd_slI bd_slN) rfl) (bd_locC (n := 1) rfl (bd_slI bd_slN) rfl (t_99 e (by omega) v1 h _ hc)) ?_
  obtain ⟨x2, ex2, hb⟩ := bnd_spec hb
  refine rn_istore_n (i := 2) (L1 := [some (va_rf v0), some (.int v1), some (.int x2)]) rfl (Nat.le_of_ble_eq_true rfl) (Or.inr rfl) (by rw [ex2]; rfl) ?_
  refine rn_iload_n (i := 1) rfl rfl ?_
  refine rn_iconst (x := (nI 2)) rfl (by decide) ?_
  obtain ⟨hy, hb⟩ := grd_spec hb
  refine rn_irem rfl (of_decide_eq_true hy) ?_
  refine rn_iconst (x := (nI 1)) rfl (by decide) ?_
  refine rn_icmp_ne rfl rfl (fun hc => ?_) (fun hc => ?_)
  · exact u_97_19 (e + 1) hd v0 v1 x2  p1.2 _ (if_t hb hc)
  · exact u_97_12 (e + 1) hd v0 v1 x2  p1.2 _ (if_f hb hc)
/-- BitingDoors$Scene.lackOf(I)I -/
def f_97 (v0 : Option Nat) (v1 : Int32) (h : Hp) : Option (Int32 × Hp) := b_97_0 v0 v1 h
theorem t_97 (d : Nat) (hd : 1 ≤ d) (v0 : Option Nat) (v1 : Int32) (h : Hp) (r : Int32 × Hp) (hb : f_97 v0 v1 h = some r) : Rn d 97 0 [some (va_rf v0), some (.int v1), none] [] h (some (.int r.1), r.2) := by
  unfold f_97 at hb
  exact u_97_0 d hd v0 v1 h r hb
