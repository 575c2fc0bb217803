def b_308_1323   (h : Hp) : Option (Int32 × Hp) :=
  (grd (decide ((nI 1) = 0 ∨ (nI 1) = 1))).bind fun _ => some ((nI 1), h)
set_option maxRecDepth 100000 in
theorem u_308_1323 (d : Nat) (hd : 264 ≤ d) (v0 : Option Nat) (v1 : Option Nat) (v2 : Option Nat) (v3 : Option Nat) (v4 : Int32) (v5 : Option (Int32)) (v6 : Option (Int32))  (h : Hp) (r : Int32 × Hp) (hb : b_308_1323   h = some r) : Rn d 308 1323 [some (va_rf v0), some (va_rf v1), some (va_rf v2), some (va_rf v3), some (.int v4), v5.map Value.int, v6.map Value.int] [] h (some (.int r.1), r.2) := by
  unfold b_308_1323 at hb
  refine rn_iconst (x := (nI 1)) rfl (by decide) ?_
  obtain ⟨hz, hb⟩ := grd_spec hb
  obtain rfl := Option.some.inj hb
  exact rn_zret rfl rfl (of_decide_eq_true hz)
def b_308_1317 (k23 : Option Nat → Option Nat → Option Nat → Option Nat → Int32 → Hp → Option (Int32 × Hp)) (v0 : Option Nat) (v1 : Option Nat) (v2 : Option Nat) (v3 : Option Nat) (v4 : Int32)  (h : Hp) : Option (Int32 × Hp) :=
  bnd (v4 + (nI 6)) fun x1 =>
  k23 v0 v1 v2 v3 x1 h
set_option maxRecDepth 100000 in
theorem u_308_1317 (d : Nat) (hd : 264 ≤ d) (k23 : Option Nat → Option Nat → Option Nat → Option Nat → Int32 → Hp → Option (Int32 × Hp)) (K23 : ∀ (v0 : Option Nat) (v1 : Option Nat) (v2 : Option Nat) (v3 : Option Nat) (v4 : Int32) (v5 : Option (Int32)) (v6 : Option (Int32)) (h : Hp) (r : Int32 × Hp), k23 v0 v1 v2 v3 v4 h = some r → Rn d 308 23 [some (va_rf v0), some (va_rf v1), some (va_rf v2), some (va_rf v3), some (.int v4), v5.map Value.int, v6.map Value.int] [] h (some (.int r.1), r.2)) (v0 : Option Nat) (v1 : Option Nat) (v2 : Option Nat) (v3 : Option Nat) (v4 : Int32) (v5 : Option (Int32)) (v6 : Option (Int32))  (h : Hp) (r : Int32 × Hp) (hb : b_308_1317 k23 v0 v1 v2 v3 v4  h = some r) : Rn d 308 1317 [some (va_rf v0), some (va_rf v1), some (va_rf v2), some (va_rf v3), some (.int v4), v5.map Value.int, v6.map Value.int] [] h (some (.int r.1), r.2) := by
  unfold b_308_1317 at hb
  obtain ⟨x1, ex1, hb⟩ := bnd_spec hb
  refine rn_iinc (i := 4) (y := x1) (L1 := [some (va_rf v0), some (va_rf v1), some (va_rf v2), some (va_rf v3), some (.int x1), v5.map Value.int, v6.map Value.int]) rfl rfl (Nat.le_of_ble_eq_true rfl) (Or.inr (bd_wideR rfl)) (by rw [ex1]; rfl) rfl ?_
  refine rn_goto rfl rfl ?_
  exact K23 v0 v1 v2 v3 x1 v5 v6 h _ hb
def b_308_295   (h : Hp) : Option (Int32 × Hp) :=
  (grd (decide ((nI 0) = 0 ∨ (nI 0) = 1))).bind fun _ => some ((nI 0), h)
set_option maxRecDepth 100000 in
theorem u_308_295 (d : Nat) (hd : 264 ≤ d) (v0 : Option Nat) (v1 : Option Nat) (v2 : Option Nat) (v3 : Option Nat) (v4 : Int32) (v5 : Option (Int32)) (v6 : Option (Int32))  (h : Hp) (r : Int32 × Hp) (hb : b_308_295   h = some r) : Rn d 308 295 [some (va_rf v0), some (va_rf v1), some (va_rf v2), some (va_rf v3), some (.int v4), v5.map Value.int, v6.map Value.int] [] h (some (.int r.1), r.2) := by
  unfold b_308_295 at hb
  refine rn_iconst (x := (nI 0)) rfl (by decide) ?_
  obtain ⟨hz, hb⟩ := grd_spec hb
  obtain rfl := Option.some.inj hb
  exact rn_zret rfl rfl (of_decide_eq_true hz)
def b_308_224 (k23 : Option Nat → Option Nat → Option Nat → Option Nat → Int32 → Hp → Option (Int32 × Hp)) (v0 : Option Nat) (v1 : Option Nat) (v2 : Option Nat) (v3 : Option Nat) (v4 : Int32)  (h : Hp) : Option (Int32 × Hp) :=
  (aI 12 v0 (v4 + (nI 1)) h).bind fun x1 =>
  (aI 12 v0 (v4 + (nI 2)) h).bind fun x2 =>
  (aI 12 v0 (v4 + (nI 3)) h).bind fun x3 =>
  (aI 12 v0 (v4 + (nI 4)) h).bind fun x4 =>
  (aI 12 v0 (v4 + (nI 5)) h).bind fun x5 =>
  (grd (rC 10 v1 h)).bind fun _ =>
  (f_130 v1 x1 x2 x3 x4 x5 h).bind fun p6 =>
  (aI 12 v0 (v4 + (nI 1)) p6.2).bind fun x7 =>
  (aI 12 v0 (v4 + (nI 2)) p6.2).bind fun x8 =>
  (aI 12 v0 (v4 + (nI 3)) p6.2).bind fun x9 =>
  (aI 12 v0 (v4 + (nI 4)) p6.2).bind fun x10 =>
  (aI 12 v0 (v4 + (nI 5)) p6.2).bind fun x11 =>
  (grd (rC 11 v2 p6.2)).bind fun _ =>
  (f_179 v2 x7 x8 x9 x10 x11 p6.2).bind fun p12 =>
  if p6.1 = p12.1 then b_308_1317 k23 v0 v1 v2 v3 v4  p12.2 else b_308_295   p12.2
set_option maxRecDepth 100000 in
theorem u_308_224 (d : Nat) (hd : 264 ≤ d) (k23 : Option Nat → Option Nat → Option Nat → Option Nat → Int32 → Hp → Option (Int32 × Hp)) (K23 : ∀ (v0 : Option Nat) (v1 : Option Nat) (v2 : Option Nat) (v3 : Option Nat) (v4 : Int32) (v5 : Option (Int32)) (v6 : Option (Int32)) (h : Hp) (r : Int32 × Hp), k23 v0 v1 v2 v3 v4 h = some r → Rn d 308 23 [some (va_rf v0), some (va_rf v1), some (va_rf v2), some (va_rf v3), some (.int v4), v5.map Value.int, v6.map Value.int] [] h (some (.int r.1), r.2)) (v0 : Option Nat) (v1 : Option Nat) (v2 : Option Nat) (v3 : Option Nat) (v4 : Int32) (v5 : Option (Int32)) (v6 : Option (Int32))  (h : Hp) (r : Int32 × Hp) (hb : b_308_224 k23 v0 v1 v2 v3 v4  h = some r) : Rn d 308 224 [some (va_rf v0), some (va_rf v1), some (va_rf v2), some (va_rf v3), some (.int v4), v5.map Value.int, v6.map Value.int] [] h (some (.int r.1), r.2) := by
  unfold b_308_224 at hb
  obtain ⟨e, rfl⟩ : ∃ e, d = e + 8 := ⟨d - 8, by omega⟩
  refine rn_aload_n (i := 1) rfl rfl ?_
  refine rn_aload_n (i := 0) rfl rfl ?_
  refine rn_iload (i := 4) rfl rfl ?_
  refine rn_iconst (x := (nI 1)) rfl (by decide) ?_
  refine rn_iadd rfl ?_
  refine rn_aI rfl hb (fun x1 hb => ?_)
  refine rn_aload_n (i := 0) rfl rfl ?_
  refine rn_iload (i := 4) rfl rfl ?_
  refine rn_iconst (x := (nI 2)) rfl (by decide) ?_
  refine rn_iadd rfl ?_
  refine rn_aI rfl hb (fun x2 hb => ?_)
  refine rn_aload_n (i := 0) rfl rfl ?_
  refine rn_iload (i := 4) rfl rfl ?_
  refine rn_iconst (x := (nI 3)) rfl (by decide) ?_
  refine rn_iadd rfl ?_
  refine rn_aI rfl hb (fun x3 hb => ?_)
  refine rn_aload_n (i := 0) rfl rfl ?_
  refine rn_iload (i := 4) rfl rfl ?_
  refine rn_iconst (x := (nI 4)) rfl (by decide) ?_
  refine rn_iadd rfl ?_
  refine rn_aI rfl hb (fun x4 hb => ?_)
  refine rn_aload_n (i := 0) rfl rfl ?_
  refine rn_iload (i := 4) rfl rfl ?_
  refine rn_iconst (x := (nI 5)) rfl (by decide) ?_
  refine rn_iadd rfl ?_
  refine rn_aI rfl hb (fun x5 hb => ?_)
  obtain ⟨hrc, hb⟩ := grd_spec hb
  obtain ⟨p6, hc, hb⟩ := Option.bind_eq_some_iff.mp hb
  refine Rn.call1 (d := (e + 7)) (As := [va_rf v1, .int x1, .int x2, .int x3, .int x4, .int x5]) (rest := []) rfl rfl rfl (by decide) rfl rfl rfl (bd_rcV hrc rfl) (by decide) (bd_lenC (n := 6) rfl (bd_slR (bd_slI (bd_slI (bd_slI (bd_slI (bd_slI bd_slN)))))) rfl) (bd_locC (n := 6) rfl (bd_slR (bd_slI (bd_slI (bd_slI (bd_slI (bd_slI bd_slN)))))) rfl (t_130 (e + 7) (by omega) v1 x1 x2 x3 x4 x5 h _ hc)) ?_
  refine rn_aload_n (i := 2) rfl rfl ?_
  refine rn_aload_n (i := 0) rfl rfl ?_
  refine rn_iload (i := 4) rfl rfl ?_
  refine rn_iconst (x := (nI 1)) rfl (by decide) ?_
  refine rn_iadd rfl ?_
  refine rn_aI rfl hb (fun x7 hb => ?_)
  refine rn_aload_n (i := 0) rfl rfl ?_
  refine rn_iload (i := 4) rfl rfl ?_
  refine rn_iconst (x := (nI 2)) rfl (by decide) ?_
  refine rn_iadd rfl ?_
  refine rn_aI rfl hb (fun x8 hb => ?_)
  refine rn_aload_n (i := 0) rfl rfl ?_
  refine rn_iload (i := 4) rfl rfl ?_
  refine rn_iconst (x := (nI 3)) rfl (by decide) ?_
  refine rn_iadd rfl ?_
  refine rn_aI rfl hb (fun x9 hb => ?_)
  refine rn_aload_n (i := 0) rfl rfl ?_
  refine rn_iload (i := 4) rfl rfl ?_
  refine rn_iconst (x := (nI 4)) rfl (by decide) ?_
  refine rn_iadd rfl ?_
  refine rn_aI rfl hb (fun x10 hb => ?_)
  refine rn_aload_n (i := 0) rfl rfl ?_
  refine rn_iload (i := 4) rfl rfl ?_
  refine rn_iconst (x := (nI 5)) rfl (by decide) ?_
  refine rn_iadd rfl ?_
  refine rn_aI rfl hb (fun x11 hb => ?_)
  obtain ⟨hrc, hb⟩ := grd_spec hb
  obtain ⟨p12, hc, hb⟩ := Option.bind_eq_some_iff.mp hb
  refine Rn.call1 (d := (e + 7)) (As := [va_rf v2, .int x7, .int x8, .int x9, .int x10, .int x11]) (rest := [.int p6.1]) rfl rfl rfl (by decide) rfl rfl rfl (bd_rcV hrc rfl) (by rw [bd_cI (bd_cN)]; decide) (bd_lenC (n := 6) rfl (bd_slR (bd_slI (bd_slI (bd_slI (bd_slI (bd_slI bd_slN)))))) rfl) (bd_locC (n := 6) rfl (bd_slR (bd_slI (bd_slI (bd_slI (bd_slI (bd_slI bd_slN)))))) rfl (t_179 (e + 7) (by omega) v2 x7 x8 x9 x10 x11 p6.2 _ hc)) ?_
  refine rn_icmp_eq rfl rfl (fun hc => ?_) (fun hc => ?_)
  · exact u_308_1317 (e + 8) hd k23 K23 v0 v1 v2 v3 v4 v5 v6  p12.2 _ (if_t hb hc)
  · exact u_308_295 (e + 8) hd v0 v1 v2 v3 v4 v5 v6  p12.2 _ (if_f hb hc)
def b_308_320   (h : Hp) : Option (Int32 × Hp) :=
  (grd (decide ((nI 0) = 0 ∨ (nI 0) = 1))).bind fun _ => some ((nI 0), h)
set_option maxRecDepth 100000 in
theorem u_308_320 (d : Nat) (hd : 264 ≤ d) (v0 : Option Nat) (v1 : Option Nat) (v2 : Option Nat) (v3 : Option Nat) (v4 : Int32) (v5 : Option (Int32)) (v6 : Option (Int32))  (h : Hp) (r : Int32 × Hp) (hb : b_308_320   h = some r) : Rn d 308 320 [some (va_rf v0), some (va_rf v1), some (va_rf v2), some (va_rf v3), some (.int v4), v5.map Value.int, v6.map Value.int] [] h (some (.int r.1), r.2) := by
  unfold b_308_320 at hb
  refine rn_iconst (x := (nI 0)) rfl (by decide) ?_
  obtain ⟨hz, hb⟩ := grd_spec hb
  obtain rfl := Option.some.inj hb
  exact rn_zret rfl rfl (of_decide_eq_true hz)
def b_308_297 (k23 : Option Nat → Option Nat → Option Nat → Option Nat → Int32 → Hp → Option (Int32 × Hp)) (v0 : Option Nat) (v1 : Option Nat) (v2 : Option Nat) (v3 : Option Nat) (v4 : Int32)  (h : Hp) : Option (Int32 × Hp) :=
  (aI 12 v0 (v4 + (nI 1)) h).bind fun x1 =>
  (grd (rC 10 v1 h)).bind fun _ =>
  (f_131 v1 x1 h).bind fun p2 =>
  (aI 12 v0 (v4 + (nI 1)) p2.2).bind fun x3 =>
  (grd (rC 11 v2 p2.2)).bind fun _ =>
  (f_180 v2 x3 p2.2).bind fun p4 =>
  if p2.1 = p4.1 then b_308_1317 k23 v0 v1 v2 v3 v4  p4.2 else b_308_320   p4.2
set_option maxRecDepth 100000 in
theorem u_308_297 (d : Nat) (hd : 264 ≤ d) (k23 : Option Nat → Option Nat → Option Nat → Option Nat → Int32 → Hp → Option (Int32 × Hp)) (K23 : ∀ (v0 : Option Nat) (v1 : Option Nat) (v2 : Option Nat) (v3 : Option Nat) (v4 : Int32) (v5 : Option (Int32)) (v6 : Option (Int32)) (h : Hp) (r : Int32 × Hp), k23 v0 v1 v2 v3 v4 h = some r → Rn d 308 23 [some (va_rf v0), some (va_rf v1), some (va_rf v2), some (va_rf v3), some (.int v4), v5.map Value.int, v6.map Value.int] [] h (some (.int r.1), r.2)) (v0 : Option Nat) (v1 : Option Nat) (v2 : Option Nat) (v3 : Option Nat) (v4 : Int32) (v5 : Option (Int32)) (v6 : Option (Int32))  (h : Hp) (r : Int32 × Hp) (hb : b_308_297 k23 v0 v1 v2 v3 v4  h = some r) : Rn d 308 297 [some (va_rf v0), some (va_rf v1), some (va_rf v2), some (va_rf v3), some (.int v4), v5.map Value.int, v6.map Value.int] [] h (some (.int r.1), r.2) := by
  unfold b_308_297 at hb
  obtain ⟨e, rfl⟩ : ∃ e, d = e + 8 := ⟨d - 8, by omega⟩
  refine rn_aload_n (i := 1) rfl rfl ?_
  refine rn_aload_n (i := 0) rfl rfl ?_
  refine rn_iload (i := 4) rfl rfl ?_
  refine rn_iconst (x := (nI 1)) rfl (by decide) ?_
  refine rn_iadd rfl ?_
  refine rn_aI rfl hb (fun x1 hb => ?_)
  obtain ⟨hrc, hb⟩ := grd_spec hb
  obtain ⟨p2, hc, hb⟩ := Option.bind_eq_some_iff.mp hb
  refine Rn.call1 (d := (e + 7)) (As := [va_rf v1, .int x1]) (rest := []) rfl rfl rfl (by decide) rfl rfl rfl (bd_rcV hrc rfl) (by decide) (bd_lenC (n := 2) rfl (bd_slR (bd_slI bd_slN)) rfl) (bd_locC (n := 2) rfl (bd_slR (bd_slI bd_slN)) rfl (t_131 (e + 7) (by omega) v1 x1 h _ hc)) ?_
  refine rn_aload_n (i := 2) rfl rfl ?_
  refine rn_aload_n (i := 0) rfl rfl ?_
  refine rn_iload (i := 4) rfl rfl ?_
  refine rn_iconst (x := (nI 1)) rfl (by decide) ?_
  refine rn_iadd rfl ?_
  refine rn_aI rfl hb (fun x3 hb => ?_)
  obtain ⟨hrc, hb⟩ := grd_spec hb
  obtain ⟨p4, hc, hb⟩ := Option.bind_eq_some_iff.mp hb
  refine Rn.call1 (d := (e + 7)) (As := [va_rf v2, .int x3]) (rest := [.int p2.1]) rfl rfl rfl (by decide) rfl rfl rfl (bd_rcV hrc rfl) (by rw [bd_cI (bd_cN)]; decide) (bd_lenC (n := 2) rfl (bd_slR (bd_slI bd_slN)) rfl) (bd_locC (n := 2) rfl (bd_slR (bd_slI bd_slN)) rfl (t_180 (e + 7) (by omega) v2 x3 p2.2 _ hc)) ?_
  refine rn_icmp_eq rfl rfl (fun hc => ?_) (fun hc => ?_)
  · exact u_308_1317 (e + 8) hd k23 K23 v0 v1 v2 v3 v4 v5 v6  p4.2 _ (if_t hb hc)
  · exact u_308_320 (e + 8) hd v0 v1 v2 v3 v4 v5 v6  p4.2 _ (if_f hb hc)
def b_308_333   (h : Hp) : Option (Int32 × Hp) :=
  (grd (decide ((nI 0) = 0 ∨ (nI 0) = 1))).bind fun _ => some ((nI 0), h)
set_option maxRecDepth 100000 in
theorem u_308_333 (d : Nat) (hd : 264 ≤ d) (v0 : Option Nat) (v1 : Option Nat) (v2 : Option Nat) (v3 : Option Nat) (v4 : Int32) (v5 : Option (Int32)) (v6 : Option (Int32))  (h : Hp) (r : Int32 × Hp) (hb : b_308_333   h = some r) : Rn d 308 333 [some (va_rf v0), some (va_rf v1), some (va_rf v2), some (va_rf v3), some (.int v4), v5.map Value.int, v6.map Value.int] [] h (some (.int r.1), r.2) := by
  unfold b_308_333 at hb
  refine rn_iconst (x := (nI 0)) rfl (by decide) ?_
  obtain ⟨hz, hb⟩ := grd_spec hb
  obtain rfl := Option.some.inj hb
  exact rn_zret rfl rfl (of_decide_eq_true hz)
def b_308_322 (k23 : Option Nat → Option Nat → Option Nat → Option Nat → Int32 → Hp → Option (Int32 × Hp)) (v0 : Option Nat) (v1 : Option Nat) (v2 : Option Nat) (v3 : Option Nat) (v4 : Int32)  (h : Hp) : Option (Int32 × Hp) :=
  (grd (rC 10 v1 h)).bind fun _ =>
  (f_132 v1 h).bind fun p1 =>
  (grd (rC 11 v2 p1.2)).bind fun _ =>
  (f_214 v2 p1.2).bind fun p2 =>
  if p1.1 = p2.1 then b_308_1317 k23 v0 v1 v2 v3 v4  p2.2 else b_308_333   p2.2
set_option maxRecDepth 100000 in
theorem u_308_322 (d : Nat) (hd : 264 ≤ d) (k23 : Option Nat → Option Nat → Option Nat → Option Nat → Int32 → Hp → Option (Int32 × Hp)) (K23 : ∀ (v0 : Option Nat) (v1 : Option Nat) (v2 : Option Nat) (v3 : Option Nat) (v4 : Int32) (v5 : Option (Int32)) (v6 : Option (Int32)) (h : Hp) (r : Int32 × Hp), k23 v0 v1 v2 v3 v4 h = some r → Rn d 308 23 [some (va_rf v0), some (va_rf v1), some (va_rf v2), some (va_rf v3), some (.int v4), v5.map Value.int, v6.map Value.int] [] h (some (.int r.1), r.2)) (v0 : Option Nat) (v1 : Option Nat) (v2 : Option Nat) (v3 : Option Nat) (v4 : Int32) (v5 : Option (Int32)) (v6 : Option (Int32))  (h : Hp) (r : Int32 × Hp) (hb : b_308_322 k23 v0 v1 v2 v3 v4  h = some r) : Rn d 308 322 [some (va_rf v0), some (va_rf v1), some (va_rf v2), some (va_rf v3), some (.int v4), v5.map Value.int, v6.map Value.int] [] h (some (.int r.1), r.2) := by
  unfold b_308_322 at hb
  obtain ⟨e, rfl⟩ : ∃ e, d = e + 8 := ⟨d - 8, by omega⟩
  refine rn_aload_n (i := 1) rfl rfl ?_
  obtain ⟨hrc, hb⟩ := grd_spec hb
  obtain ⟨p1, hc, hb⟩ := Option.bind_eq_some_iff.mp hb
  refine Rn.call1 (d := (e + 7)) (As := [va_rf v1]) (rest := []) rfl rfl rfl (by decide) rfl rfl rfl (bd_rcV hrc rfl) (by decide) (bd_lenC (n := 2) rfl (bd_slR bd_slN) rfl) (bd_locC (n := 2) rfl (bd_slR bd_slN) rfl (t_132 (e + 7) (by omega) v1 h _ hc)) ?_
  refine rn_aload_n (i := 2) rfl rfl ?_
  obtain ⟨hrc, hb⟩ := grd_spec hb
  obtain ⟨p2, hc, hb⟩ := Option.bind_eq_some_iff.mp hb
  refine Rn.call1 (d := (e + 7)) (As := [va_rf v2]) (rest := [.int p1.1]) rfl rfl rfl (by decide) rfl rfl rfl (bd_rcV hrc rfl) (by rw [bd_cI (bd_cN)]; decide) (bd_lenC (n := 3) rfl (bd_slR bd_slN) rfl) (bd_locC (n := 3) rfl (bd_slR bd_slN) rfl (t_214 (e + 7) (by omega) v2 p1.2 _ hc)) ?_
  refine rn_icmp_eq rfl rfl (fun hc => ?_) (fun hc => ?_)
  · exact u_308_1317 (e + 8) hd k23 K23 v0 v1 v2 v3 v4 v5 v6  p2.2 _ (if_t hb hc)
  · exact u_308_333 (e + 8) hd v0 v1 v2 v3 v4 v5 v6  p2.2 _ (if_f hb hc)
def b_308_346   (h : Hp) : Option (Int32 × Hp) :=
  (grd (decide ((nI 0) = 0 ∨ (nI 0) = 1))).bind fun _ => some ((nI 0), h)
set_option maxRecDepth 100000 in
theorem u_308_346 (d : Nat) (hd : 264 ≤ d) (v0 : Option Nat) (v1 : Option Nat) (v2 : Option Nat) (v3 : Option Nat) (v4 : Int32) (v5 : Option (Int32)) (v6 : Option (Int32))  (h : Hp) (r : Int32 × Hp) (hb : b_308_346   h = some r) : Rn d 308 346 [some (va_rf v0), some (va_rf v1), some (va_rf v2), some (va_rf v3), some (.int v4), v5.map Value.int, v6.map Value.int] [] h (some (.int r.1), r.2) := by
  unfold b_308_346 at hb
  refine rn_iconst (x := (nI 0)) rfl (by decide) ?_
  obtain ⟨hz, hb⟩ := grd_spec hb
  obtain rfl := Option.some.inj hb
  exact rn_zret rfl rfl (of_decide_eq_true hz)
def b_308_335 (k23 : Option Nat → Option Nat → Option Nat → Option Nat → Int32 → Hp → Option (Int32 × Hp)) (v0 : Option Nat) (v1 : Option Nat) (v2 : Option Nat) (v3 : Option Nat) (v4 : Int32)  (h : Hp) : Option (Int32 × Hp) :=
  (grd (rC 10 v1 h)).bind fun _ =>
  (f_133 v1 h).bind fun p1 =>
  (grd (rC 11 v2 p1.2)).bind fun _ =>
  (f_215 v2 p1.2).bind fun p2 =>
  if p1.1 = p2.1 then b_308_1317 k23 v0 v1 v2 v3 v4  p2.2 else b_308_346   p2.2
set_option maxRecDepth 100000 in
theorem u_308_335 (d : Nat) (hd : 264 ≤ d) (k23 : Option Nat → Option Nat → Option Nat → Option Nat → Int32 → Hp → Option (Int32 × Hp)) (K23 : ∀ (v0 : Option Nat) (v1 : Option Nat) (v2 : Option Nat) (v3 : Option Nat) (v4 : Int32) (v5 : Option (Int32)) (v6 : Option (Int32)) (h : Hp) (r : Int32 × Hp), k23 v0 v1 v2 v3 v4 h = some r → Rn d 308 23 [some (va_rf v0), some (va_rf v1), some (va_rf v2), some (va_rf v3), some (.int v4), v5.map Value.int, v6.map Value.int] [] h (some (.int r.1), r.2)) (v0 : Option Nat) (v1 : Option Nat) (v2 : Option Nat) (v3 : Option Nat) (v4 : Int32) (v5 : Option (Int32)) (v6 : Option (Int32))  (h : Hp) (r : Int32 × Hp) (hb : b_308_335 k23 v0 v1 v2 v3 v4  h = some r) : Rn d 308 335 [some (va_rf v0), some (va_rf v1), some (va_rf v2), some (va_rf v3), some (.int v4), v5.map Value.int, v6.map Value.int] [] h (some (.int r.1), r.2) := by
  unfold b_308_335 at hb
  obtain ⟨e, rfl⟩ : ∃ e, d = e + 8 := ⟨d - 8, by omega⟩
  refine rn_aload_n (i := 1) rfl rfl ?_
  obtain ⟨hrc, hb⟩ := grd_spec hb
  obtain ⟨p1, hc, hb⟩ := Option.bind_eq_some_iff.mp hb
  refine Rn.call1 (d := (e + 7)) (As := [va_rf v1]) (rest := []) rfl rfl rfl (by decide) rfl rfl rfl (bd_rcV hrc rfl) (by decide) (bd_lenC (n := 1) rfl (bd_slR bd_slN) rfl) (bd_locC (n := 1) rfl (bd_slR bd_slN) rfl (t_133 (e + 7) (by omega) v1 h _ hc)) ?_
  refine rn_aload_n (i := 2) rfl rfl ?_
  obtain ⟨hrc, hb⟩ := grd_spec hb
  obtain ⟨p2, hc, hb⟩ := Option.bind_eq_some_iff.mp hb
  refine Rn.call1 (d := (e + 7)) (As := [va_rf v2]) (rest := [.int p1.1]) rfl rfl rfl (by decide) rfl rfl rfl (bd_rcV hrc rfl) (by rw [bd_cI (bd_cN)]; decide) (bd_lenC (n := 1) rfl (bd_slR bd_slN) rfl) (bd_locC (n := 1) rfl (bd_slR bd_slN) rfl (t_215 (e + 7) (by omega) v2 p1.2 _ hc)) ?_
  refine rn_icmp_eq rfl rfl (fun hc => ?_) (fun hc => ?_)
  · exact u_308_1317 (e + 8) hd k23 K23 v0 v1 v2 v3 v4 v5 v6  p2.2 _ (if_t hb hc)
  · exact u_308_346 (e + 8) hd v0 v1 v2 v3 v4 v5 v6  p2.2 _ (if_f hb hc)
def b_308_383   (h : Hp) : Option (Int32 × Hp) :=
  (grd (decide ((nI 0) = 0 ∨ (nI 0) = 1))).bind fun _ => some ((nI 0), h)
set_option maxRecDepth 100000 in
theorem u_308_383 (d : Nat) (hd : 264 ≤ d) (v0 : Option Nat) (v1 : Option Nat) (v2 : Option Nat) (v3 : Option Nat) (v4 : Int32) (v5 : Option (Int32)) (v6 : Option (Int32))  (h : Hp) (r : Int32 × Hp) (hb : b_308_383   h = some r) : Rn d 308 383 [some (va_rf v0), some (va_rf v1), some (va_rf v2), some (va_rf v3), some (.int v4), v5.map Value.int, v6.map Value.int] [] h (some (.int r.1), r.2) := by
  unfold b_308_383 at hb
  refine rn_iconst (x := (nI 0)) rfl (by decide) ?_
  obtain ⟨hz, hb⟩ := grd_spec hb
  obtain rfl := Option.some.inj hb
  exact rn_zret rfl rfl (of_decide_eq_true hz)
def b_308_348 (k23 : Option Nat → Option Nat → Option Nat → Option Nat → Int32 → Hp → Option (Int32 × Hp)) (v0 : Option Nat) (v1 : Option Nat) (v2 : Option Nat) (v3 : Option Nat) (v4 : Int32)  (h : Hp) : Option (Int32 × Hp) :=
  (aI 12 v0 (v4 + (nI 1)) h).bind fun x1 =>
  (aI 12 v0 (v4 + (nI 2)) h).bind fun x2 =>
  (grd (rC 10 v1 h)).bind fun _ =>
  (f_134 v1 x1 x2 h).bind fun p3 =>
  (aI 12 v0 (v4 + (nI 1)) p3.2).bind fun x4 =>
  (aI 12 v0 (v4 + (nI 2)) p3.2).bind fun x5 =>
  (grd (rC 11 v2 p3.2)).bind fun _ =>
  (f_216 v2 x4 x5 p3.2).bind fun p6 =>
  if p3.1 = p6.1 then b_308_1317 k23 v0 v1 v2 v3 v4  p6.2 else b_308_383   p6.2
set_option maxRecDepth 100000 in
theorem u_308_348 (d : Nat) (hd : 264 ≤ d) (k23 : Option Nat → Option Nat → Option Nat → Option Nat → Int32 → Hp → Option (Int32 × Hp)) (K23 : ∀ (v0 : Option Nat) (v1 : Option Nat) (v2 : Option Nat) (v3 : Option Nat) (v4 : Int32) (v5 : Option (Int32)) (v6 : Option (Int32)) (h : Hp) (r : Int32 × Hp), k23 v0 v1 v2 v3 v4 h = some r → Rn d 308 23 [some (va_rf v0), some (va_rf v1), some (va_rf v2), some (va_rf v3), some (.int v4), v5.map Value.int, v6.map Value.int] [] h (some (.int r.1), r.2)) (v0 : Option Nat) (v1 : Option Nat) (v2 : Option Nat) (v3 : Option Nat) (v4 : Int32) (v5 : Option (Int32)) (v6 : Option (Int32))  (h : Hp) (r : Int32 × Hp) (hb : b_308_348 k23 v0 v1 v2 v3 v4  h = some r) : Rn d 308 348 [some (va_rf v0), some (va_rf v1), some (va_rf v2), some (va_rf v3), some (.int v4), v5.map Value.int, v6.map Value.int] [] h (some (.int r.1), r.2) := by
  unfold b_308_348 at hb
  obtain ⟨e, rfl⟩ : ∃ e, d = e + 8 := ⟨d - 8, by omega⟩
  refine rn_aload_n (i := 1) rfl rfl ?_
  refine rn_aload_n (i := 0) rfl rfl ?_
  refine rn_iload (i := 4) rfl rfl ?_
  refine rn_iconst (x := (nI 1)) rfl (by decide) ?_
  refine rn_iadd rfl ?_
  refine rn_aI rfl hb (fun x1 hb => ?_)
  refine rn_aload_n (i := 0) rfl rfl ?_
  refine rn_iload (i := 4) rfl rfl ?_
  refine rn_iconst (x := (nI 2)) rfl (by decide) ?_
  refine rn_iadd rfl ?_
  refine rn_aI rfl hb (fun x2 hb => ?_)
  obtain ⟨hrc, hb⟩ := grd_spec hb
  obtain ⟨p3, hc, hb⟩ := Option.bind_eq_some_iff.mp hb
  refine Rn.call1 (d := (e + 7)) (As := [va_rf v1, .int x1, .int x2]) (rest := []) rfl rfl rfl (by decide) rfl rfl rfl (bd_rcV hrc rfl) (by decide) (bd_lenC (n := 3) rfl (bd_slR (bd_slI (bd_slI bd_slN))) rfl) (bd_locC (n := 3) rfl (bd_slR (bd_slI (bd_slI bd_slN))) rfl (t_134 (e + 7) (by omega) v1 x1 x2 h _ hc)) ?_
  refine rn_aload_n (i := 2) rfl rfl ?_
  refine rn_aload_n (i := 0) rfl rfl ?_
  refine rn_iload (i := 4) rfl rfl ?_
  refine rn_iconst (x := (nI 1)) rfl (by decide) ?_
  refine rn_iadd rfl ?_
  refine rn_aI rfl hb (fun x4 hb => ?_)
  refine rn_aload_n (i := 0) rfl rfl ?_
  refine rn_iload (i := 4) rfl rfl ?_
  refine rn_iconst (x := (nI 2)) rfl (by decide) ?_
  refine rn_iadd rfl ?_
  refine rn_aI rfl hb (fun x5 hb => ?_)
  obtain ⟨hrc, hb⟩ := grd_spec hb
  obtain ⟨p6, hc, hb⟩ := Option.bind_eq_some_iff.mp hb
  refine Rn.call1 (d := (e + 7)) (As := [va_rf v2, .int x4, .int x5]) (rest := [.int p3.1]) rfl rfl rfl (by decide) rfl rfl rfl (bd_rcV hrc rfl) (by rw [bd_cI (bd_cN)]; decide) (bd_lenC (n := 4) rfl (bd_slR (bd_slI (bd_slI bd_slN))) rfl) (bd_locC (n := 4) rfl (bd_slR (bd_slI (bd_slI bd_slN))) rfl (t_216 (e + 7) (by omega) v2 x4 x5 p3.2 _ hc)) ?_
  refine rn_icmp_eq rfl rfl (fun hc => ?_) (fun hc => ?_)
  · exact u_308_1317 (e + 8) hd k23 K23 v0 v1 v2 v3 v4 v5 v6  p6.2 _ (if_t hb hc)
  · exact u_308_383 (e + 8) hd v0 v1 v2 v3 v4 v5 v6  p6.2 _ (if_f hb hc)
def b_308_450 (k23 : Option Nat → Option Nat → Option Nat → Option Nat → Int32 → Hp → Option (Int32 × Hp)) (v0 : Option Nat) (v1 : Option Nat) (v2 : Option Nat) (v3 : Option Nat) (v4 : Int32)  (h : Hp) : Option (Int32 × Hp) :=
  b_308_1317 k23 v0 v1 v2 v3 v4  h
set_option maxRecDepth 100000 in
theorem u_308_450 (d : Nat) (hd : 264 ≤ d) (k23 : Option Nat → Option Nat → Option Nat → Option Nat → Int32 → Hp → Option (Int32 × Hp)) (K23 : ∀ (v0 : Option Nat) (v1 : Option Nat) (v2 : Option Nat) (v3 : Option Nat) (v4 : Int32) (v5 : Option (Int32)) (v6 : Option (Int32)) (h : Hp) (r : Int32 × Hp), k23 v0 v1 v2 v3 v4 h = some r → Rn d 308 23 [some (va_rf v0), some (va_rf v1), some (va_rf v2), some (va_rf v3), some (.int v4), v5.map Value.int, v6.map Value.int] [] h (some (.int r.1), r.2)) (v0 : Option Nat) (v1 : Option Nat) (v2 : Option Nat) (v3 : Option Nat) (v4 : Int32) (v5 : Int32) (v6 : Int32)  (h : Hp) (r : Int32 × Hp) (hb : b_308_450 k23 v0 v1 v2 v3 v4  h = some r) : Rn d 308 450 [some (va_rf v0), some (va_rf v1), some (va_rf v2), some (va_rf v3), some (.int v4), some (.int v5), some (.int v6)] [] h (some (.int r.1), r.2) := by
  unfold b_308_450 at hb
  refine rn_goto rfl rfl ?_
  exact u_308_1317 d hd k23 K23 v0 v1 v2 v3 v4 (some v5) (some v6)  h _ hb
def b_308_448   (h : Hp) : Option (Int32 × Hp) :=
  (grd (decide ((nI 0) = 0 ∨ (nI 0) = 1))).bind fun _ => some ((nI 0), h)
set_option maxRecDepth 100000 in
theorem u_308_448 (d : Nat) (hd : 264 ≤ d) (v0 : Option Nat) (v1 : Option Nat) (v2 : Option Nat) (v3 : Option Nat) (v4 : Int32) (v5 : Int32) (v6 : Int32)  (h : Hp) (r : Int32 × Hp) (hb : b_308_448   h = some r) : Rn d 308 448 [some (va_rf v0), some (va_rf v1), some (va_rf v2), some (va_rf v3), some (.int v4), some (.int v5), some (.int v6)] [] h (some (.int r.1), r.2) := by
  unfold b_308_448 at hb
  refine rn_iconst (x := (nI 0)) rfl (by decide) ?_
  obtain ⟨hz, hb⟩ := grd_spec hb
  obtain rfl := Option.some.inj hb
  exact rn_zret rfl rfl (of_decide_eq_true hz)
def b_308_438 (k23 : Option Nat → Option Nat → Option Nat → Option Nat → Int32 → Hp → Option (Int32 × Hp)) (v0 : Option Nat) (v1 : Option Nat) (v2 : Option Nat) (v3 : Option Nat) (v4 : Int32) (v6 : Int32)  (h : Hp) : Option (Int32 × Hp) :=
  (aJ v3 (nI 0) h).bind fun x1 =>
  if (lg_cmp x1 v6.toInt64) = 0 then b_308_450 k23 v0 v1 v2 v3 v4  h else b_308_448   h
set_option maxRecDepth 100000 in
theorem u_308_438 (d : Nat) (hd : 264 ≤ d) (k23 : Option Nat → Option Nat → Option Nat → Option Nat → Int32 → Hp → Option (Int32 × Hp)) (K23 : ∀ (v0 : Option Nat) (v1 : Option Nat) (v2 : Option Nat) (v3 : Option Nat) (v4 : Int32) (v5 : Option (Int32)) (v6 : Option (Int32)) (h : Hp) (r : Int32 × Hp), k23 v0 v1 v2 v3 v4 h = some r → Rn d 308 23 [some (va_rf v0), some (va_rf v1), some (va_rf v2), some (va_rf v3), some (.int v4), v5.map Value.int, v6.map Value.int] [] h (some (.int r.1), r.2)) (v0 : Option Nat) (v1 : Option Nat) (v2 : Option Nat) (v3 : Option Nat) (v4 : Int32) (v5 : Int32) (v6 : Int32)  (h : Hp) (r : Int32 × Hp) (hb : b_308_438 k23 v0 v1 v2 v3 v4 v6  h = some r) : Rn d 308 438 [some (va_rf v0), some (va_rf v1), some (va_rf v2), some (va_rf v3), some (.int v4), some (.int v5), some (.int v6)] [] h (some (.int r.1), r.2) := by
  unfold b_308_438 at hb
  refine rn_aload_n (i := 3) rfl rfl ?_
  refine rn_iconst (x := (nI 0)) rfl (by decide) ?_
  refine rn_aJ rfl hb (fun x1 hb => ?_)
  refine rn_iload (i := 6) rfl rfl ?_
  refine rn_i2l rfl ?_
  refine rn_lcmp rfl ?_
  refine rn_if_eq rfl rfl (fun hc => ?_) (fun hc => ?_)
  · exact u_308_450 d hd k23 K23 v0 v1 v2 v3 v4 v5 v6  h _ (if_t hb hc)
  · exact u_308_448 d hd v0 v1 v2 v3 v4 v5 v6  h _ (if_f hb hc)
def b_308_433 (k23 : Option Nat → Option Nat → Option Nat → Option Nat → Int32 → Hp → Option (Int32 × Hp)) (v0 : Option Nat) (v1 : Option Nat) (v2 : Option Nat) (v3 : Option Nat) (v4 : Int32) (v5 : Int32) (v6 : Int32)  (h : Hp) : Option (Int32 × Hp) :=
  if ¬ v5 = 0 then b_308_450 k23 v0 v1 v2 v3 v4  h else b_308_438 k23 v0 v1 v2 v3 v4 v6  h
set_option maxRecDepth 100000 in
theorem u_308_433 (d : Nat) (hd : 264 ≤ d) (k23 : Option Nat → Option Nat → Option Nat → Option Nat → Int32 → Hp → Option (Int32 × Hp)) (K23 : ∀ (v0 : Option Nat) (v1 : Option Nat) (v2 : Option Nat) (v3 : Option Nat) (v4 : Int32) (v5 : Option (Int32)) (v6 : Option (Int32)) (h : Hp) (r : Int32 × Hp), k23 v0 v1 v2 v3 v4 h = some r → Rn d 308 23 [some (va_rf v0), some (va_rf v1), some (va_rf v2), some (va_rf v3), some (.int v4), v5.map Value.int, v6.map Value.int] [] h (some (.int r.1), r.2)) (v0 : Option Nat) (v1 : Option Nat) (v2 : Option Nat) (v3 : Option Nat) (v4 : Int32) (v5 : Int32) (v6 : Int32)  (h : Hp) (r : Int32 × Hp) (hb : b_308_433 k23 v0 v1 v2 v3 v4 v5 v6  h = some r) : Rn d 308 433 [some (va_rf v0), some (va_rf v1), some (va_rf v2), some (va_rf v3), some (.int v4), some (.int v5), some (.int v6)] [] h (some (.int r.1), r.2) := by
  unfold b_308_433 at hb
  refine rn_iload (i := 5) rfl rfl ?_
  refine rn_if_ne rfl rfl (fun hc => ?_) (fun hc => ?_)
  · exact u_308_450 d hd k23 K23 v0 v1 v2 v3 v4 v5 v6  h _ (if_t hb hc)
  · exact u_308_438 d hd k23 K23 v0 v1 v2 v3 v4 v5 v6  h _ (if_f hb hc)
def b_308_431   (h : Hp) : Option (Int32 × Hp) :=
  (grd (decide ((nI 0) = 0 ∨ (nI 0) = 1))).bind fun _ => some ((nI 0), h)
set_option maxRecDepth 100000 in
theorem u_308_431 (d : Nat) (hd : 264 ≤ d) (v0 : Option Nat) (v1 : Option Nat) (v2 : Option Nat) (v3 : Option Nat) (v4 : Int32) (v5 : Int32) (v6 : Int32)  (h : Hp) (r : Int32 × Hp) (hb : b_308_431   h = some r) : Rn d 308 431 [some (va_rf v0), some (va_rf v1), some (va_rf v2), some (va_rf v3), some (.int v4), some (.int v5), some (.int v6)] [] h (some (.int r.1), r.2) := by
  unfold b_308_431 at hb
  refine rn_iconst (x := (nI 0)) rfl (by decide) ?_
  obtain ⟨hz, hb⟩ := grd_spec hb
  obtain rfl := Option.some.inj hb
  exact rn_zret rfl rfl (of_decide_eq_true hz)
def b_308_385 (k23 : Option Nat → Option Nat → Option Nat → Option Nat → Int32 → Hp → Option (Int32 × Hp)) (v0 : Option Nat) (v1 : Option Nat) (v2 : Option Nat) (v3 : Option Nat) (v4 : Int32)  (h : Hp) : Option (Int32 × Hp) :=
  (aI 12 v0 (v4 + (nI 1)) h).bind fun x1 =>
  (aI 12 v0 (v4 + (nI 2)) h).bind fun x2 =>
  (grd (rC 10 v1 h)).bind fun _ =>
  (f_135 v1 x1 x2 h).bind fun p3 =>
  (dR v3 p3).bind fun p4 =>
  bnd (p4.1) fun x5 =>
  (aI 12 v0 (v4 + (nI 1)) p4.2).bind fun x6 =>
  (aI 12 v0 (v4 + (nI 2)) p4.2).bind fun x7 =>
  (grd (rC 11 v2 p4.2)).bind fun _ =>
  (f_217 v2 x6 x7 p4.2).bind fun p8 =>
  bnd (p8.1) fun x9 =>
  (grd (rC 11 v2 p8.2)).bind fun _ =>
  (f_176 v2 p8.2).bind fun p10 =>
  if p10.1 = x5 then b_308_433 k23 v0 v1 v2 v3 v4 x5 x9  p10.2 else b_308_431   p10.2
set_option maxRecDepth 100000 in
theorem u_308_385 (d : Nat) (hd : 264 ≤ d) (k23 : Option Nat → Option Nat → Option Nat → Option Nat → Int32 → Hp → Option (Int32 × Hp)) (K23 : ∀ (v0 : Option Nat) (v1 : Option Nat) (v2 : Option Nat) (v3 : Option Nat) (v4 : Int32) (v5 : Option (Int32)) (v6 : Option (Int32)) (h : Hp) (r : Int32 × Hp), k23 v0 v1 v2 v3 v4 h = some r → Rn d 308 23 [some (va_rf v0), some (va_rf v1), some (va_rf v2), some (va_rf v3), some (.int v4), v5.map Value.int, v6.map Value.int] [] h (some (.int r.1), r.2)) (v0 : Option Nat) (v1 : Option Nat) (v2 : Option Nat) (v3 : Option Nat) (v4 : Int32) (v5 : Option (Int32)) (v6 : Option (Int32))  (h : Hp) (r : Int32 × Hp) (hb : b_308_385 k23 v0 v1 v2 v3 v4  h = some r) : Rn d 308 385 [some (va_rf v0), some (va_rf v1), some (va_rf v2), some (va_rf v3), some (.int v4), v5.map Value.int, v6.map Value.int] [] h (some (.int r.1), r.2) := by
  unfold b_308_385 at hb
  obtain ⟨e, rfl⟩ : ∃ e, d = e + 8 := ⟨d - 8, by omega⟩
  refine rn_aload_n (i := 1) rfl rfl ?_
  refine rn_aload_n (i := 0) rfl rfl ?_
  refine rn_iload (i := 4) rfl rfl ?_
  refine rn_iconst (x := (nI 1)) rfl (by decide) ?_
  refine rn_iadd rfl ?_
  refine rn_aI rfl hb (fun x1 hb => ?_)
  refine rn_aload_n (i := 0) rfl rfl ?_
  refine rn_iload (i := 4) rfl rfl ?_
  refine rn_iconst (x := (nI 2)) rfl (by decide) ?_
  refine rn_iadd rfl ?_
  refine rn_aI rfl hb (fun x2 hb => ?_)
  refine rn_aload_n (i := 3) rfl rfl ?_
  obtain ⟨hrc, hb⟩ := grd_spec hb
  obtain ⟨p3, hc, hb⟩ := Option.bind_eq_some_iff.mp hb
  obtain ⟨p4, hdr, hb⟩ := Option.bind_eq_some_iff.mp hb
  refine Rn.call307 (d := e) rfl hrc (by decide) (t_135 e (by omega) v1 x1 x2 h _ hc) hdr ?_
  obtain ⟨x5, ex5, hb⟩ := bnd_spec hb
  refine rn_istore (i := 5) (L1 := [some (va_rf v0), some (va_rf v1), some (va_rf v2), some (va_rf v3), some (.int v4), some (.int x5), v6.map Value.int]) rfl (Nat.le_of_ble_eq_true rfl) (Or.inr rfl) (by rw [ex5]; rfl) ?_
  refine rn_aload_n (i := 2) rfl rfl ?_
  refine rn_aload_n (i := 0) rfl rfl ?_
  refine rn_iload (i := 4) rfl rfl ?_
  refine rn_iconst (x := (nI 1)) rfl (by decide) ?_
  refine rn_iadd rfl ?_
  refine rn_aI rfl hb (fun x6 hb => ?_)
  refine rn_aload_n (i := 0) rfl rfl ?_
  refine rn_iload (i := 4) rfl rfl ?_
  refine rn_iconst (x := (nI 2)) rfl (by decide) ?_
  refine rn_iadd rfl ?_
  refine rn_aI rfl hb (fun x7 hb => ?_)
  obtain ⟨hrc, hb⟩ := grd_spec hb
  obtain ⟨p8, hc, hb⟩ := Option.bind_eq_some_iff.mp hb
  refine Rn.call1 (d := (e + 7)) (As := [va_rf v2, .int x6, .int x7]) (rest := []) rfl rfl rfl (by decide) rfl rfl rfl (bd_rcV hrc rfl) (by decide) (bd_lenC (n := 3) rfl (bd_slR (bd_slI (bd_slI bd_slN))) rfl) (bd_locC (n := 3) rfl (bd_slR (bd_slI (bd_slI bd_slN))) rfl (t_217 (e + 7) (by omega) v2 x6 x7 p4.2 _ hc)) ?_
  obtain ⟨x9, ex9, hb⟩ := bnd_spec hb
  refine rn_istore (i := 6) (L1 := [some (va_rf v0), some (va_rf v1), some (va_rf v2), some (va_rf v3), some (.int v4), some (.int x5), some (.int x9)]) rfl (Nat.le_of_ble_eq_true rfl) (Or.inr rfl) (by rw [ex9]; rfl) ?_
  refine rn_aload_n (i := 2) rfl rfl ?_
  obtain ⟨hrc, hb⟩ := grd_spec hb
  obtain ⟨p10, hc, hb⟩ := Option.bind_eq_some_iff.mp hb
  refine Rn.call1 (d := (e + 7)) (As := [va_rf v2]) (rest := []) rfl rfl rfl (by decide) rfl rfl rfl (bd_rcV hrc rfl) (by decide) (bd_lenC (n := 1) rfl (bd_slR bd_slN) rfl) (bd_locC (n := 1) rfl (bd_slR bd_slN) rfl (t_176 (e + 7) (by omega) v2 p8.2 _ hc)) ?_
  refine rn_iload (i := 5) rfl rfl ?_
  refine rn_icmp_eq rfl rfl (fun hc => ?_) (fun hc => ?_)
  · exact u_308_433 (e + 8) hd k23 K23 v0 v1 v2 v3 v4 x5 x9  p10.2 _ (if_t hb hc)
  · exact u_308_431 (e + 8) hd v0 v1 v2 v3 v4 x5 x9  p10.2 _ (if_f hb hc)
def b_308_512   (h : Hp) : Option (Int32 × Hp) :=
  (grd (decide ((nI 0) = 0 ∨ (nI 0) = 1))).bind fun _ => some ((nI 0), h)
set_option maxRecDepth 100000 in
theorem u_308_512 (d : Nat) (hd : 264 ≤ d) (v0 : Option Nat) (v1 : Option Nat) (v2 : Option Nat) (v3 : Option Nat) (v4 : Int32) (v5 : Option (Int32)) (v6 : Option (Int32))  (h : Hp) (r : Int32 × Hp) (hb : b_308_512   h = some r) : Rn d 308 512 [some (va_rf v0), some (va_rf v1), some (va_rf v2), some (va_rf v3), some (.int v4), v5.map Value.int, v6.map Value.int] [] h (some (.int r.1), r.2) := by
  unfold b_308_512 at hb
  refine rn_iconst (x := (nI 0)) rfl (by decide) ?_
  obtain ⟨hz, hb⟩ := grd_spec hb
  obtain rfl := Option.some.inj hb
  exact rn_zret rfl rfl (of_decide_eq_true hz)
def b_308_453 (k23 : Option Nat → Option Nat → Option Nat → Option Nat → Int32 → Hp → Option (Int32 × Hp)) (v0 : Option Nat) (v1 : Option Nat) (v2 : Option Nat) (v3 : Option Nat) (v4 : Int32)  (h : Hp) : Option (Int32 × Hp) :=
  (aI 12 v0 (v4 + (nI 1)) h).bind fun x1 =>
  (aI 12 v0 (v4 + (nI 2)) h).bind fun x2 =>
  (aI 12 v0 (v4 + (nI 3)) h).bind fun x3 =>
  (aI 12 v0 (v4 + (nI 4)) h).bind fun x4 =>
  (grd (rC 10 v1 h)).bind fun _ =>
  (f_136 v1 x1 x2 x3 x4 h).bind fun p5 =>
  (aI 12 v0 (v4 + (nI 1)) p5.2).bind fun x6 =>
  (aI 12 v0 (v4 + (nI 2)) p5.2).bind fun x7 =>
  (aI 12 v0 (v4 + (nI 3)) p5.2).bind fun x8 =>
  (aI 12 v0 (v4 + (nI 4)) p5.2).bind fun x9 =>
  (grd (rC 11 v2 p5.2)).bind fun _ =>
  (f_220 v2 x6 x7 x8 x9 p5.2).bind fun p10 =>
  if p5.1 = p10.1 then b_308_1317 k23 v0 v1 v2 v3 v4  p10.2 else b_308_512   p10.2
set_option maxRecDepth 100000 in
theorem u_308_453 (d : Nat) (hd : 264 ≤ d) (k23 : Option Nat → Option Nat → Option Nat → Option Nat → Int32 → Hp → Option (Int32 × Hp)) (K23 : ∀ (v0 : Option Nat) (v1 : Option Nat) (v2 : Option Nat) (v3 : Option Nat) (v4 : Int32) (v5 : Option (Int32)) (v6 : Option (Int32)) (h : Hp) (r : Int32 × Hp), k23 v0 v1 v2 v3 v4 h = some r → Rn d 308 23 [some (va_rf v0), some (va_rf v1), some (va_rf v2), some (va_rf v3), some (.int v4), v5.map Value.int, v6.map Value.int] [] h (some (.int r.1), r.2)) (v0 : Option Nat) (v1 : Option Nat) (v2 : Option Nat) (v3 : Option Nat) (v4 : Int32) (v5 : Option (Int32)) (v6 : Option (Int32))  (h : Hp) (r : Int32 × Hp) (hb : b_308_453 k23 v0 v1 v2 v3 v4  h = some r) : Rn d 308 453 [some (va_rf v0), some (va_rf v1), some (va_rf v2), some (va_rf v3), some (.int v4), v5.map Value.int, v6.map Value.int] [] h (some (.int r.1), r.2) := by
  unfold b_308_453 at hb
  obtain ⟨e, rfl⟩ : ∃ e, d = e + 8 := ⟨d - 8, by omega⟩
  refine rn_aload_n (i := 1) rfl rfl ?_
  refine rn_aload_n (i := 0) rfl rfl ?_
  refine rn_iload (i := 4) rfl rfl ?_
  refine rn_iconst (x := (nI 1)) rfl (by decide) ?_
  refine rn_iadd rfl ?_
  refine rn_aI rfl hb (fun x1 hb => ?_)
  refine rn_aload_n (i := 0) rfl rfl ?_
  refine rn_iload (i := 4) rfl rfl ?_
  refine rn_iconst (x := (nI 2)) rfl (by decide) ?_
  refine rn_iadd rfl ?_
  refine rn_aI rfl hb (fun x2 hb => ?_)
  refine rn_aload_n (i := 0) rfl rfl ?_
  refine rn_iload (i := 4) rfl rfl ?_
  refine rn_iconst (x := (nI 3)) rfl (by decide) ?_
  refine rn_iadd rfl ?_
  refine rn_aI rfl hb (fun x3 hb => ?_)
  refine rn_aload_n (i := 0) rfl rfl ?_
  refine rn_iload (i := 4) rfl rfl ?_
  refine rn_iconst (x := (nI 4)) rfl (by decide) ?_
  refine rn_iadd rfl ?_
  refine rn_aI rfl hb (fun x4 hb => ?_)
  obtain ⟨hrc, hb⟩ := grd_spec hb
  obtain ⟨p5, hc, hb⟩ := Option.bind_eq_some_iff.mp hb
  refine Rn.call1 (d := (e + 7)) (As := [va_rf v1, .int x1, .int x2, .int x3, .int x4]) (rest := []) rfl rfl rfl (by decide) rfl rfl rfl (bd_rcV hrc rfl) (by decide) (bd_lenC (n := 5) rfl (bd_slR (bd_slI (bd_slI (bd_slI (bd_slI bd_slN))))) rfl) (bd_locC (n := 5) rfl (bd_slR (bd_slI (bd_slI (bd_slI (bd_slI bd_slN))))) rfl (t_136 (e + 7) (by omega) v1 x1 x2 x3 x4 h _ hc)) ?_
  refine rn_aload_n (i := 2) rfl rfl ?_
  refine rn_aload_n (i := 0) rfl rfl ?_
  refine rn_iload (i := 4) rfl rfl ?_
  refine rn_iconst (x := (nI 1)) rfl (by decide) ?_
  refine rn_iadd rfl ?_
  refine rn_aI rfl hb (fun x6 hb => ?_)
  refine rn_aload_n (i := 0) rfl rfl ?_
  refine rn_iload (i := 4) rfl rfl ?_
  refine rn_iconst (x := (nI 2)) rfl (by decide) ?_
  refine rn_iadd rfl ?_
  refine rn_aI rfl hb (fun x7 hb => ?_)
  refine rn_aload_n (i := 0) rfl rfl ?_
  refine rn_iload (i := 4) rfl rfl ?_
  refine rn_iconst (x := (nI 3)) rfl (by decide) ?_
  refine rn_iadd rfl ?_
  refine rn_aI rfl hb (fun x8 hb => ?_)
  refine rn_aload_n (i := 0) rfl rfl ?_
  refine rn_iload (i := 4) rfl rfl ?_
  refine rn_iconst (x := (nI 4)) rfl (by decide) ?_
  refine rn_iadd rfl ?_
  refine rn_aI rfl hb (fun x9 hb => ?_)
  obtain ⟨hrc, hb⟩ := grd_spec hb
  obtain ⟨p10, hc, hb⟩ := Option.bind_eq_some_iff.mp hb
  refine Rn.call1 (d := (e + 7)) (As := [va_rf v2, .int x6, .int x7, .int x8, .int x9]) (rest := [.int p5.1]) rfl rfl rfl (by decide) rfl rfl rfl (bd_rcV hrc rfl) (by rw [bd_cI (bd_cN)]; decide) (bd_lenC (n := 8) rfl (bd_slR (bd_slI (bd_slI (bd_slI (bd_slI bd_slN))))) rfl) (bd_locC (n := 8) rfl (bd_slR (bd_slI (bd_slI (bd_slI (bd_slI bd_slN))))) rfl (t_220 (e + 7) (by omega) v2 x6 x7 x8 x9 p5.2 _ hc)) ?_
  refine rn_icmp_eq rfl rfl (fun hc => ?_) (fun hc => ?_)
  · exact u_308_1317 (e + 8) hd k23 K23 v0 v1 v2 v3 v4 v5 v6  p10.2 _ (if_t hb hc)
  · exact u_308_512 (e + 8) hd v0 v1 v2 v3 v4 v5 v6  p10.2 _ (if_f hb hc)
def b_308_549   (h : Hp) : Option (Int32 × Hp) :=
  (grd (decide ((nI 0) = 0 ∨ (nI 0) = 1))).bind fun _ => some ((nI 0), h)
set_option maxRecDepth 100000 in
theorem u_308_549 (d : Nat) (hd : 264 ≤ d) (v0 : Option Nat) (v1 : Option Nat) (v2 : Option Nat) (v3 : Option Nat) (v4 : Int32) (v5 : Option (Int32)) (v6 : Option (Int32))  (h : Hp) (r : Int32 × Hp) (hb : b_308_549   h = some r) : Rn d 308 549 [some (va_rf v0), some (va_rf v1), some (va_rf v2), some (va_rf v3), some (.int v4), v5.map Value.int, v6.map Value.int] [] h (some (.int r.1), r.2) := by
  unfold b_308_549 at hb
  refine rn_iconst (x := (nI 0)) rfl (by decide) ?_
  obtain ⟨hz, hb⟩ := grd_spec hb
  obtain rfl := Option.some.inj hb
  exact rn_zret rfl rfl (of_decide_eq_true hz)
def b_308_514 (k23 : Option Nat → Option Nat → Option Nat → Option Nat → Int32 → Hp → Option (Int32 × Hp)) (v0 : Option Nat) (v1 : Option Nat) (v2 : Option Nat) (v3 : Option Nat) (v4 : Int32)  (h : Hp) : Option (Int32 × Hp) :=
  (aI 12 v0 (v4 + (nI 1)) h).bind fun x1 =>
  (aI 12 v0 (v4 + (nI 2)) h).bind fun x2 =>
  (grd (rC 10 v1 h)).bind fun _ =>
  (f_137 v1 x1 x2 h).bind fun p3 =>
  (aI 12 v0 (v4 + (nI 1)) p3.2).bind fun x4 =>
  (aI 12 v0 (v4 + (nI 2)) p3.2).bind fun x5 =>
  (grd (rC 11 v2 p3.2)).bind fun _ =>
  (f_222 v2 x4 x5 p3.2).bind fun p6 =>
  if p3.1 = p6.1 then b_308_1317 k23 v0 v1 v2 v3 v4  p6.2 else b_308_549   p6.2
set_option maxRecDepth 100000 in
theorem u_308_514 (d : Nat) (hd : 264 ≤ d) (k23 : Option Nat → Option Nat → Option Nat → Option Nat → Int32 → Hp → Option (Int32 × Hp)) (K23 : ∀ (v0 : Option Nat) (v1 : Option Nat) (v2 : Option Nat) (v3 : Option Nat) (v4 : Int32) (v5 : Option (Int32)) (v6 : Option (Int32)) (h : Hp) (r : Int32 × Hp), k23 v0 v1 v2 v3 v4 h = some r → Rn d 308 23 [some (va_rf v0), some (va_rf v1), some (va_rf v2), some (va_rf v3), some (.int v4), v5.map Value.int, v6.map Value.int] [] h (some (.int r.1), r.2)) (v0 : Option Nat) (v1 : Option Nat) (v2 : Option Nat) (v3 : Option Nat) (v4 : Int32) (v5 : Option (Int32)) (v6 : Option (Int32))  (h : Hp) (r : Int32 × Hp) (hb : b_308_514 k23 v0 v1 v2 v3 v4  h = some r) : Rn d 308 514 [some (va_rf v0), some (va_rf v1), some (va_rf v2), some (va_rf v3), some (.int v4), v5.map Value.int, v6.map Value.int] [] h (some (.int r.1), r.2) := by
  unfold b_308_514 at hb
  obtain ⟨e, rfl⟩ : ∃ e, d = e + 8 := ⟨d - 8, by omega⟩
  refine rn_aload_n (i := 1) rfl rfl ?_
  refine rn_aload_n (i := 0) rfl rfl ?_
  refine rn_iload (i := 4) rfl rfl ?_
  refine rn_iconst (x := (nI 1)) rfl (by decide) ?_
  refine rn_iadd rfl ?_
  refine rn_aI rfl hb (fun x1 hb => ?_)
  refine rn_aload_n (i := 0) rfl rfl ?_
  refine rn_iload (i := 4) rfl rfl ?_
  refine rn_iconst (x := (nI 2)) rfl (by decide) ?_
  refine rn_iadd rfl ?_
  refine rn_aI rfl hb (fun x2 hb => ?_)
  obtain ⟨hrc, hb⟩ := grd_spec hb
  obtain ⟨p3, hc, hb⟩ := Option.bind_eq_some_iff.mp hb
  refine Rn.call1 (d := (e + 7)) (As := [va_rf v1, .int x1, .int x2]) (rest := []) rfl rfl rfl (by decide) rfl rfl rfl (bd_rcV hrc rfl) (by decide) (bd_lenC (n := 3) rfl (bd_slR (bd_slI (bd_slI bd_slN))) rfl) (bd_locC (n := 3) rfl (bd_slR (bd_slI (bd_slI bd_slN))) rfl (t_137 (e + 7) (by omega) v1 x1 x2 h _ hc)) ?_
  refine rn_aload_n (i := 2) rfl rfl ?_
  refine rn_aload_n (i := 0) rfl rfl ?_
  refine rn_iload (i := 4) rfl rfl ?_
  refine rn_iconst (x := (nI 1)) rfl (by decide) ?_
  refine rn_iadd rfl ?_
  refine rn_aI rfl hb (fun x4 hb => ?_)
  refine rn_aload_n (i := 0) rfl rfl ?_
  refine rn_iload (i := 4) rfl rfl ?_
  refine rn_iconst (x := (nI 2)) rfl (by decide) ?_
  refine rn_iadd rfl ?_
  refine rn_aI rfl hb (fun x5 hb => ?_)
  obtain ⟨hrc, hb⟩ := grd_spec hb
  obtain ⟨p6, hc, hb⟩ := Option.bind_eq_some_iff.mp hb
  refine Rn.call1 (d := (e + 7)) (As := [va_rf v2, .int x4, .int x5]) (rest := [.int p3.1]) rfl rfl rfl (by decide) rfl rfl rfl (bd_rcV hrc rfl) (by rw [bd_cI (bd_cN)]; decide) (bd_lenC (n := 3) rfl (bd_slR (bd_slI (bd_slI bd_slN))) rfl) (bd_locC (n := 3) rfl (bd_slR (bd_slI (bd_slI bd_slN))) rfl (t_222 (e + 7) (by omega) v2 x4 x5 p3.2 _ hc)) ?_
  refine rn_icmp_eq rfl rfl (fun hc => ?_) (fun hc => ?_)
  · exact u_308_1317 (e + 8) hd k23 K23 v0 v1 v2 v3 v4 v5 v6  p6.2 _ (if_t hb hc)
  · exact u_308_549 (e + 8) hd v0 v1 v2 v3 v4 v5 v6  p6.2 _ (if_f hb hc)
def b_308_586   (h : Hp) : Option (Int32 × Hp) :=
  (grd (decide ((nI 0) = 0 ∨ (nI 0) = 1))).bind fun _ => some ((nI 0), h)
set_option maxRecDepth 100000 in
theorem u_308_586 (d : Nat) (hd : 264 ≤ d) (v0 : Option Nat) (v1 : Option Nat) (v2 : Option Nat) (v3 : Option Nat) (v4 : Int32) (v5 : Option (Int32)) (v6 : Option (Int32))  (h : Hp) (r : Int32 × Hp) (hb : b_308_586   h = some r) : Rn d 308 586 [some (va_rf v0), some (va_rf v1), some (va_rf v2), some (va_rf v3), some (.int v4), v5.map Value.int, v6.map Value.int] [] h (some (.int r.1), r.2) := by
  unfold b_308_586 at hb
  refine rn_iconst (x := (nI 0)) rfl (by decide) ?_
  obtain ⟨hz, hb⟩ := grd_spec hb
  obtain rfl := Option.some.inj hb
  exact rn_zret rfl rfl (of_decide_eq_true hz)
def b_308_551 (k23 : Option Nat → Option Nat → Option Nat → Option Nat → Int32 → Hp → Option (Int32 × Hp)) (v0 : Option Nat) (v1 : Option Nat) (v2 : Option Nat) (v3 : Option Nat) (v4 : Int32)  (h : Hp) : Option (Int32 × Hp) :=
  (aI 12 v0 (v4 + (nI 1)) h).bind fun x1 =>
  (aI 12 v0 (v4 + (nI 2)) h).bind fun x2 =>
  (grd (rC 10 v1 h)).bind fun _ =>
  (f_138 v1 x1 x2 h).bind fun p3 =>
  (aI 12 v0 (v4 + (nI 1)) p3.2).bind fun x4 =>
  (aI 12 v0 (v4 + (nI 2)) p3.2).bind fun x5 =>
  (grd (rC 11 v2 p3.2)).bind fun _ =>
  (f_224 v2 x4 x5 p3.2).bind fun p6 =>
  if p3.1 = p6.1 then b_308_1317 k23 v0 v1 v2 v3 v4  p6.2 else b_308_586   p6.2
set_option maxRecDepth 100000 in
theorem u_308_551 (d : Nat) (hd : 264 ≤ d) (k23 : Option Nat → Option Nat → Option Nat → Option Nat → Int32 → Hp → Option (Int32 × Hp)) (K23 : ∀ (v0 : Option Nat) (v1 : Option Nat) (v2 : Option Nat) (v3 : Option Nat) (v4 : Int32) (v5 : Option (Int32)) (v6 : Option (Int32)) (h : Hp) (r : Int32 × Hp), k23 v0 v1 v2 v3 v4 h = some r → Rn d 308 23 [some (va_rf v0), some (va_rf v1), some (va_rf v2), some (va_rf v3), some (.int v4), v5.map Value.int, v6.map Value.int] [] h (some (.int r.1), r.2)) (v0 : Option Nat) (v1 : Option Nat) (v2 : Option Nat) (v3 : Option Nat) (v4 : Int32) (v5 : Option (Int32)) (v6 : Option (Int32))  (h : Hp) (r : Int32 × Hp) (hb : b_308_551 k23 v0 v1 v2 v3 v4  h = some r) : Rn d 308 551 [some (va_rf v0), some (va_rf v1), some (va_rf v2), some (va_rf v3), some (.int v4), v5.map Value.int, v6.map Value.int] [] h (some (.int r.1), r.2) := by
  unfold b_308_551 at hb
  obtain ⟨e, rfl⟩ : ∃ e, d = e + 8 := ⟨d - 8, by omega⟩
  refine rn_aload_n (i := 1) rfl rfl ?_
  refine rn_aload_n (i := 0) rfl rfl ?_
  refine rn_iload (i := 4) rfl rfl ?_
  refine rn_iconst (x := (nI 1)) rfl (by decide) ?_
  refine rn_iadd rfl ?_
  refine rn_aI rfl hb (fun x1 hb => ?_)
  refine rn_aload_n (i := 0) rfl rfl ?_
  refine rn_iload (i := 4) rfl rfl ?_
  refine rn_iconst (x := (nI 2)) rfl (by decide) ?_
  refine rn_iadd rfl ?_
  refine rn_aI rfl hb (fun x2 hb => ?_)
  obtain ⟨hrc, hb⟩ := grd_spec hb
  obtain ⟨p3, hc, hb⟩ := Option.bind_eq_some_iff.mp hb
  refine Rn.call1 (d := (e + 7)) (As := [va_rf v1, .int x1, .int x2]) (rest := []) rfl rfl rfl (by decide) rfl rfl rfl (bd_rcV hrc rfl) (by decide) (bd_lenC (n := 3) rfl (bd_slR (bd_slI (bd_slI bd_slN))) rfl) (bd_locC (n := 3) rfl (bd_slR (bd_slI (bd_slI bd_slN))) rfl (t_138 (e + 7) (by omega) v1 x1 x2 h _ hc)) ?_
  refine rn_aload_n (i := 2) rfl rfl ?_
  refine rn_aload_n (i := 0) rfl rfl ?_
  refine rn_iload (i := 4) rfl rfl ?_
  refine rn_iconst (x := (nI 1)) rfl (by decide) ?_
  refine rn_iadd rfl ?_
  refine rn_aI rfl hb (fun x4 hb => ?_)
  refine rn_aload_n (i := 0) rfl rfl ?_
  refine rn_iload (i := 4) rfl rfl ?_
  refine rn_iconst (x := (nI 2)) rfl (by decide) ?_
  refine rn_iadd rfl ?_
  refine rn_aI rfl hb (fun x5 hb => ?_)
  obtain ⟨hrc, hb⟩ := grd_spec hb
  obtain ⟨p6, hc, hb⟩ := Option.bind_eq_some_iff.mp hb
  refine Rn.call1 (d := (e + 7)) (As := [va_rf v2, .int x4, .int x5]) (rest := [.int p3.1]) rfl rfl rfl (by decide) rfl rfl rfl (bd_rcV hrc rfl) (by rw [bd_cI (bd_cN)]; decide) (bd_lenC (n := 3) rfl (bd_slR (bd_slI (bd_slI bd_slN))) rfl) (bd_locC (n := 3) rfl (bd_slR (bd_slI (bd_slI bd_slN))) rfl (t_224 (e + 7) (by omega) v2 x4 x5 p3.2 _ hc)) ?_
  refine rn_icmp_eq rfl rfl (fun hc => ?_) (fun hc => ?_)
  · exact u_308_1317 (e + 8) hd k23 K23 v0 v1 v2 v3 v4 v5 v6  p6.2 _ (if_t hb hc)
  · exact u_308_586 (e + 8) hd v0 v1 v2 v3 v4 v5 v6  p6.2 _ (if_f hb hc)
def b_308_647   (h : Hp) : Option (Int32 × Hp) :=
  (grd (decide ((nI 0) = 0 ∨ (nI 0) = 1))).bind fun _ => some ((nI 0), h)
set_option maxRecDepth 100000 in
theorem u_308_647 (d : Nat) (hd : 264 ≤ d) (v0 : Option Nat) (v1 : Option Nat) (v2 : Option Nat) (v3 : Option Nat) (v4 : Int32) (v5 : Option (Int32)) (v6 : Option (Int32))  (h : Hp) (r : Int32 × Hp) (hb : b_308_647   h = some r) : Rn d 308 647 [some (va_rf v0), some (va_rf v1), some (va_rf v2), some (va_rf v3), some (.int v4), v5.map Value.int, v6.map Value.int] [] h (some (.int r.1), r.2) := by
  unfold b_308_647 at hb
  refine rn_iconst (x := (nI 0)) rfl (by decide) ?_
  obtain ⟨hz, hb⟩ := grd_spec hb
  obtain rfl := Option.some.inj hb
  exact rn_zret rfl rfl (of_decide_eq_true hz)
def b_308_588 (k23 : Option Nat → Option Nat → Option Nat → Option Nat → Int32 → Hp → Option (Int32 × Hp)) (v0 : Option Nat) (v1 : Option Nat) (v2 : Option Nat) (v3 : Option Nat) (v4 : Int32)  (h : Hp) : Option (Int32 × Hp) :=
  (aI 12 v0 (v4 + (nI 1)) h).bind fun x1 =>
  (aI 12 v0 (v4 + (nI 2)) h).bind fun x2 =>
  (aI 12 v0 (v4 + (nI 3)) h).bind fun x3 =>
  (aI 12 v0 (v4 + (nI 4)) h).bind fun x4 =>
  (grd (rC 10 v1 h)).bind fun _ =>
  (f_139 v1 x1 x2 x3 x4 h).bind fun p5 =>
  (aI 12 v0 (v4 + (nI 1)) p5.2).bind fun x6 =>
  (aI 12 v0 (v4 + (nI 2)) p5.2).bind fun x7 =>
  (aI 12 v0 (v4 + (nI 3)) p5.2).bind fun x8 =>
  (aI 12 v0 (v4 + (nI 4)) p5.2).bind fun x9 =>
  (grd (rC 11 v2 p5.2)).bind fun _ =>
  (f_228 v2 x6 x7 x8 x9 p5.2).bind fun p10 =>
  if p5.1 = p10.1 then b_308_1317 k23 v0 v1 v2 v3 v4  p10.2 else b_308_647   p10.2
set_option maxRecDepth 100000 in
theorem u_308_588 (d : Nat) (hd : 264 ≤ d) (k23 : Option Nat → Option Nat → Option Nat → Option Nat → Int32 → Hp → Option (Int32 × Hp)) (K23 : ∀ (v0 : Option Nat) (v1 : Option Nat) (v2 : Option Nat) (v3 : Option Nat) (v4 : Int32) (v5 : Option (Int32)) (v6 : Option (Int32)) (h : Hp) (r : Int32 × Hp), k23 v0 v1 v2 v3 v4 h = some r → Rn d 308 23 [some (va_rf v0), some (va_rf v1), some (va_rf v2), some (va_rf v3), some (.int v4), v5.map Value.int, v6.map Value.int] [] h (some (.int r.1), r.2)) (v0 : Option Nat) (v1 : Option Nat) (v2 : Option Nat) (v3 : Option Nat) (v4 : Int32) (v5 : Option (Int32)) (v6 : Option (Int32))  (h : Hp) (r : Int32 × Hp) (hb : b_308_588 k23 v0 v1 v2 v3 v4  h = some r) : Rn d 308 588 [some (va_rf v0), some (va_rf v1), some (va_rf v2), some (va_rf v3), some (.int v4), v5.map Value.int, v6.map Value.int] [] h (some (.int r.1), r.2) := by
  unfold b_308_588 at hb
  obtain ⟨e, rfl⟩ : ∃ e, d = e + 8 := ⟨d - 8, by omega⟩
  refine rn_aload_n (i := 1) rfl rfl ?_
  refine rn_aload_n (i := 0) rfl rfl ?_
  refine rn_iload (i := 4) rfl rfl ?_
  refine rn_iconst (x := (nI 1)) rfl (by decide) ?_
  refine rn_iadd rfl ?_
  refine rn_aI rfl hb (fun x1 hb => ?_)
  refine rn_aload_n (i := 0) rfl rfl ?_
  refine rn_iload (i := 4) rfl rfl ?_
  refine rn_iconst (x := (nI 2)) rfl (by decide) ?_
  refine rn_iadd rfl ?_
  refine rn_aI rfl hb (fun x2 hb => ?_)
  refine rn_aload_n (i := 0) rfl rfl ?_
  refine rn_iload (i := 4) rfl rfl ?_
  refine rn_iconst (x := (nI 3)) rfl (by decide) ?_
  refine rn_iadd rfl ?_
  refine rn_aI rfl hb (fun x3 hb => ?_)
  refine rn_aload_n (i := 0) rfl rfl ?_
  refine rn_iload (i := 4) rfl rfl ?_
  refine rn_iconst (x := (nI 4)) rfl (by decide) ?_
  refine rn_iadd rfl ?_
  refine rn_aI rfl hb (fun x4 hb => ?_)
  obtain ⟨hrc, hb⟩ := grd_spec hb
  obtain ⟨p5, hc, hb⟩ := Option.bind_eq_some_iff.mp hb
  refine Rn.call1 (d := (e + 7)) (As := [va_rf v1, .int x1, .int x2, .int x3, .int x4]) (rest := []) rfl rfl rfl (by decide) rfl rfl rfl (bd_rcV hrc rfl) (by decide) (bd_lenC (n := 5) rfl (bd_slR (bd_slI (bd_slI (bd_slI (bd_slI bd_slN))))) rfl) (bd_locC (n := 5) rfl (bd_slR (bd_slI (bd_slI (bd_slI (bd_slI bd_slN))))) rfl (t_139 (e + 7) (by omega) v1 x1 x2 x3 x4 h _ hc)) ?_
  refine rn_aload_n (i := 2) rfl rfl ?_
  refine rn_aload_n (i := 0) rfl rfl ?_
  refine rn_iload (i := 4) rfl rfl ?_
  refine rn_iconst (x := (nI 1)) rfl (by decide) ?_
  refine rn_iadd rfl ?_
  refine rn_aI rfl hb (fun x6 hb => ?_)
  refine rn_aload_n (i := 0) rfl rfl ?_
  refine rn_iload (i := 4) rfl rfl ?_
  refine rn_iconst (x := (nI 2)) rfl (by decide) ?_
  refine rn_iadd rfl ?_
  refine rn_aI rfl hb (fun x7 hb => ?_)
  refine rn_aload_n (i := 0) rfl rfl ?_
  refine rn_iload (i := 4) rfl rfl ?_
  refine rn_iconst (x := (nI 3)) rfl (by decide) ?_
  refine rn_iadd rfl ?_
  refine rn_aI rfl hb (fun x8 hb => ?_)
  refine rn_aload_n (i := 0) rfl rfl ?_
  refine rn_iload (i := 4) rfl rfl ?_
  refine rn_iconst (x := (nI 4)) rfl (by decide) ?_
  refine rn_iadd rfl ?_
  refine rn_aI rfl hb (fun x9 hb => ?_)
  obtain ⟨hrc, hb⟩ := grd_spec hb
  obtain ⟨p10, hc, hb⟩ := Option.bind_eq_some_iff.mp hb
  refine Rn.call1 (d := (e + 7)) (As := [va_rf v2, .int x6, .int x7, .int x8, .int x9]) (rest := [.int p5.1]) rfl rfl rfl (by decide) rfl rfl rfl (bd_rcV hrc rfl) (by rw [bd_cI (bd_cN)]; decide) (bd_lenC (n := 5) rfl (bd_slR (bd_slI (bd_slI (bd_slI (bd_slI bd_slN))))) rfl) (bd_locC (n := 5) rfl (bd_slR (bd_slI (bd_slI (bd_slI (bd_slI bd_slN))))) rfl (t_228 (e + 7) (by omega) v2 x6 x7 x8 x9 p5.2 _ hc)) ?_
  refine rn_icmp_eq rfl rfl (fun hc => ?_) (fun hc => ?_)
  · exact u_308_1317 (e + 8) hd k23 K23 v0 v1 v2 v3 v4 v5 v6  p10.2 _ (if_t hb hc)
  · exact u_308_647 (e + 8) hd v0 v1 v2 v3 v4 v5 v6  p10.2 _ (if_f hb hc)
def b_308_660   (h : Hp) : Option (Int32 × Hp) :=
  (grd (decide ((nI 0) = 0 ∨ (nI 0) = 1))).bind fun _ => some ((nI 0), h)
set_option maxRecDepth 100000 in
theorem u_308_660 (d : Nat) (hd : 264 ≤ d) (v0 : Option Nat) (v1 : Option Nat) (v2 : Option Nat) (v3 : Option Nat) (v4 : Int32) (v5 : Option (Int32)) (v6 : Option (Int32))  (h : Hp) (r : Int32 × Hp) (hb : b_308_660   h = some r) : Rn d 308 660 [some (va_rf v0), some (va_rf v1), some (va_rf v2), some (va_rf v3), some (.int v4), v5.map Value.int, v6.map Value.int] [] h (some (.int r.1), r.2) := by
  unfold b_308_660 at hb
  refine rn_iconst (x := (nI 0)) rfl (by decide) ?_
  obtain ⟨hz, hb⟩ := grd_spec hb
  obtain rfl := Option.some.inj hb
  exact rn_zret rfl rfl (of_decide_eq_true hz)
def b_308_649 (k23 : Option Nat → Option Nat → Option Nat → Option Nat → Int32 → Hp → Option (Int32 × Hp)) (v0 : Option Nat) (v1 : Option Nat) (v2 : Option Nat) (v3 : Option Nat) (v4 : Int32)  (h : Hp) : Option (Int32 × Hp) :=
  (grd (rC 10 v1 h)).bind fun _ =>
  (f_140 v1 h).bind fun p1 =>
  (grd (rC 11 v2 p1.2)).bind fun _ =>
  (f_230 v2 p1.2).bind fun p2 =>
  if p1.1 = p2.1 then b_308_1317 k23 v0 v1 v2 v3 v4  p2.2 else b_308_660   p2.2
set_option maxRecDepth 100000 in
theorem u_308_649 (d : Nat) (hd : 264 ≤ d) (k23 : Option Nat → Option Nat → Option Nat → Option Nat → Int32 → Hp → Option (Int32 × Hp)) (K23 : ∀ (v0 : Option Nat) (v1 : Option Nat) (v2 : Option Nat) (v3 : Option Nat) (v4 : Int32) (v5 : Option (Int32)) (v6 : Option (Int32)) (h : Hp) (r : Int32 × Hp), k23 v0 v1 v2 v3 v4 h = some r → Rn d 308 23 [some (va_rf v0), some (va_rf v1), some (va_rf v2), some (va_rf v3), some (.int v4), v5.map Value.int, v6.map Value.int] [] h (some (.int r.1), r.2)) (v0 : Option Nat) (v1 : Option Nat) (v2 : Option Nat) (v3 : Option Nat) (v4 : Int32) (v5 : Option (Int32)) (v6 : Option (Int32))  (h : Hp) (r : Int32 × Hp) (hb : b_308_649 k23 v0 v1 v2 v3 v4  h = some r) : Rn d 308 649 [some (va_rf v0), some (va_rf v1), some (va_rf v2), some (va_rf v3), some (.int v4), v5.map Value.int, v6.map Value.int] [] h (some (.int r.1), r.2) := by
  unfold b_308_649 at hb
  obtain ⟨e, rfl⟩ : ∃ e, d = e + 8 := ⟨d - 8, by omega⟩
  refine rn_aload_n (i := 1) rfl rfl ?_
  obtain ⟨hrc, hb⟩ := grd_spec hb
  obtain ⟨p1, hc, hb⟩ := Option.bind_eq_some_iff.mp hb
  refine Rn.call1 (d := (e + 7)) (As := [va_rf v1]) (rest := []) rfl rfl rfl (by decide) rfl rfl rfl (bd_rcV hrc rfl) (by decide) (bd_lenC (n := 1) rfl (bd_slR bd_slN) rfl) (bd_locC (n := 1) rfl (bd_slR bd_slN) rfl (t_140 (e + 7) (by omega) v1 h _ hc)) ?_
  refine rn_aload_n (i := 2) rfl rfl ?_
  obtain ⟨hrc, hb⟩ := grd_spec hb
  obtain ⟨p2, hc, hb⟩ := Option.bind_eq_some_iff.mp hb
  refine Rn.call1 (d := (e + 7)) (As := [va_rf v2]) (rest := [.int p1.1]) rfl rfl rfl (by decide) rfl rfl rfl (bd_rcV hrc rfl) (by rw [bd_cI (bd_cN)]; decide) (bd_lenC (n := 2) rfl (bd_slR bd_slN) rfl) (bd_locC (n := 2) rfl (bd_slR bd_slN) rfl (t_230 (e + 7) (by omega) v2 p1.2 _ hc)) ?_
  refine rn_icmp_eq rfl rfl (fun hc => ?_) (fun hc => ?_)
  · exact u_308_1317 (e + 8) hd k23 K23 v0 v1 v2 v3 v4 v5 v6  p2.2 _ (if_t hb hc)
  · exact u_308_660 (e + 8) hd v0 v1 v2 v3 v4 v5 v6  p2.2 _ (if_f hb hc)
def b_308_673   (h : Hp) : Option (Int32 × Hp) :=
  (grd (decide ((nI 0) = 0 ∨ (nI 0) = 1))).bind fun _ => some ((nI 0), h)
set_option maxRecDepth 100000 in
theorem u_308_673 (d : Nat) (hd : 264 ≤ d) (v0 : Option Nat) (v1 : Option Nat) (v2 : Option Nat) (v3 : Option Nat) (v4 : Int32) (v5 : Option (Int32)) (v6 : Option (Int32))  (h : Hp) (r : Int32 × Hp) (hb : b_308_673   h = some r) : Rn d 308 673 [some (va_rf v0), some (va_rf v1), some (va_rf v2), some (va_rf v3), some (.int v4), v5.map Value.int, v6.map Value.int] [] h (some (.int r.1), r.2) := by
  unfold b_308_673 at hb
  refine rn_iconst (x := (nI 0)) rfl (by decide) ?_
  obtain ⟨hz, hb⟩ := grd_spec hb
  obtain rfl := Option.some.inj hb
  exact rn_zret rfl rfl (of_decide_eq_true hz)
def b_308_662 (k23 : Option Nat → Option Nat → Option Nat → Option Nat → Int32 → Hp → Option (Int32 × Hp)) (v0 : Option Nat) (v1 : Option Nat) (v2 : Option Nat) (v3 : Option Nat) (v4 : Int32)  (h : Hp) : Option (Int32 × Hp) :=
  (grd (rC 10 v1 h)).bind fun _ =>
  (f_141 v1 h).bind fun p1 =>
  (grd (rC 11 v2 p1.2)).bind fun _ =>
  (f_235 v2 p1.2).bind fun p2 =>
  if p1.1 = p2.1 then b_308_1317 k23 v0 v1 v2 v3 v4  p2.2 else b_308_673   p2.2
set_option maxRecDepth 100000 in
theorem u_308_662 (d : Nat) (hd : 264 ≤ d) (k23 : Option Nat → Option Nat → Option Nat → Option Nat → Int32 → Hp → Option (Int32 × Hp)) (K23 : ∀ (v0 : Option Nat) (v1 : Option Nat) (v2 : Option Nat) (v3 : Option Nat) (v4 : Int32) (v5 : Option (Int32)) (v6 : Option (Int32)) (h : Hp) (r : Int32 × Hp), k23 v0 v1 v2 v3 v4 h = some r → Rn d 308 23 [some (va_rf v0), some (va_rf v1), some (va_rf v2), some (va_rf v3), some (.int v4), v5.map Value.int, v6.map Value.int] [] h (some (.int r.1), r.2)) (v0 : Option Nat) (v1 : Option Nat) (v2 : Option Nat) (v3 : Option Nat) (v4 : Int32) (v5 : Option (Int32)) (v6 : Option (Int32))  (h : Hp) (r : Int32 × Hp) (hb : b_308_662 k23 v0 v1 v2 v3 v4  h = some r) : Rn d 308 662 [some (va_rf v0), some (va_rf v1), some (va_rf v2), some (va_rf v3), some (.int v4), v5.map Value.int, v6.map Value.int] [] h (some (.int r.1), r.2) := by
  unfold b_308_662 at hb
  obtain ⟨e, rfl⟩ : ∃ e, d = e + 8 := ⟨d - 8, by omega⟩
  refine rn_aload_n (i := 1) rfl rfl ?_
  obtain ⟨hrc, hb⟩ := grd_spec hb
  obtain ⟨p1, hc, hb⟩ := Option.bind_eq_some_iff.mp hb
  refine Rn.call1 (d := (e + 7)) (As := [va_rf v1]) (rest := []) rfl rfl rfl (by decide) rfl rfl rfl (bd_rcV hrc rfl) (by decide) (bd_lenC (n := 1) rfl (bd_slR bd_slN) rfl) (bd_locC (n := 1) rfl (bd_slR bd_slN) rfl (t_141 (e + 7) (by omega) v1 h _ hc)) ?_
  refine rn_aload_n (i := 2) rfl rfl ?_
  obtain ⟨hrc, hb⟩ := grd_spec hb
  obtain ⟨p2, hc, hb⟩ := Option.bind_eq_some_iff.mp hb
  refine Rn.call1 (d := (e + 7)) (As := [va_rf v2]) (rest := [.int p1.1]) rfl rfl rfl (by decide) rfl rfl rfl (bd_rcV hrc rfl) (by rw [bd_cI (bd_cN)]; decide) (bd_lenC (n := 2) rfl (bd_slR bd_slN) rfl) (bd_locC (n := 2) rfl (bd_slR bd_slN) rfl (t_235 (e + 7) (by omega) v2 p1.2 _ hc)) ?_
  refine rn_icmp_eq rfl rfl (fun hc => ?_) (fun hc => ?_)
  · exact u_308_1317 (e + 8) hd k23 K23 v0 v1 v2 v3 v4 v5 v6  p2.2 _ (if_t hb hc)
  · exact u_308_673 (e + 8) hd v0 v1 v2 v3 v4 v5 v6  p2.2 _ (if_f hb hc)
def b_308_698   (h : Hp) : Option (Int32 × Hp) :=
  (grd (decide ((nI 0) = 0 ∨ (nI 0) = 1))).bind fun _ => some ((nI 0), h)
set_option maxRecDepth 100000 in
theorem u_308_698 (d : Nat) (hd : 264 ≤ d) (v0 : Option Nat) (v1 : Option Nat) (v2 : Option Nat) (v3 : Option Nat) (v4 : Int32) (v5 : Option (Int32)) (v6 : Option (Int32))  (h : Hp) (r : Int32 × Hp) (hb : b_308_698   h = some r) : Rn d 308 698 [some (va_rf v0), some (va_rf v1), some (va_rf v2), some (va_rf v3), some (.int v4), v5.map Value.int, v6.map Value.int] [] h (some (.int r.1), r.2) := by
  unfold b_308_698 at hb
  refine rn_iconst (x := (nI 0)) rfl (by decide) ?_
  obtain ⟨hz, hb⟩ := grd_spec hb
  obtain rfl := Option.some.inj hb
  exact rn_zret rfl rfl (of_decide_eq_true hz)
def b_308_675 (k23 : Option Nat → Option Nat → Option Nat → Option Nat → Int32 → Hp → Option (Int32 × Hp)) (v0 : Option Nat) (v1 : Option Nat) (v2 : Option Nat) (v3 : Option Nat) (v4 : Int32)  (h : Hp) : Option (Int32 × Hp) :=
  (aI 12 v0 (v4 + (nI 1)) h).bind fun x1 =>
  (grd (rC 10 v1 h)).bind fun _ =>
  (f_142 v1 x1 h).bind fun p2 =>
  (aI 12 v0 (v4 + (nI 1)) p2.2).bind fun x3 =>
  (grd (rC 11 v2 p2.2)).bind fun _ =>
  (f_236 v2 x3 p2.2).bind fun p4 =>
  if p2.1 = p4.1 then b_308_1317 k23 v0 v1 v2 v3 v4  p4.2 else b_308_698   p4.2
set_option maxRecDepth 100000 in
theorem u_308_675 (d : Nat) (hd : 264 ≤ d) (k23 : Option Nat → Option Nat → Option Nat → Option Nat → Int32 → Hp → Option (Int32 × Hp)) (K23 : ∀ (v0 : Option Nat) (v1 : Option Nat) (v2 : Option Nat) (v3 : Option Nat) (v4 : Int32) (v5 : Option (Int32)) (v6 : Option (Int32)) (h : Hp) (r : Int32 × Hp), k23 v0 v1 v2 v3 v4 h = some r → Rn d 308 23 [some (va_rf v0), some (va_rf v1), some (va_rf v2), some (va_rf v3), some (.int v4), v5.map Value.int, v6.map Value.int] [] h (some (.int r.1), r.2)) (v0 : Option Nat) (v1 : Option Nat) (v2 : Option Nat) (v3 : Option Nat) (v4 : Int32) (v5 : Option (Int32)) (v6 : Option (Int32))  (h : Hp) (r : Int32 × Hp) (hb : b_308_675 k23 v0 v1 v2 v3 v4  h = some r) : Rn d 308 675 [some (va_rf v0), some (va_rf v1), some (va_rf v2), some (va_rf v3), some (.int v4), v5.map Value.int, v6.map Value.int] [] h (some (.int r.1), r.2) := by
  unfold b_308_675 at hb
  obtain ⟨e, rfl⟩ : ∃ e, d = e + 8 := ⟨d - 8, by omega⟩
  refine rn_aload_n (i := 1) rfl rfl ?_
  refine rn_aload_n (i := 0) rfl rfl ?_
  refine rn_iload (i := 4) rfl rfl ?_
  refine rn_iconst (x := (nI 1)) rfl (by decide) ?_
  refine rn_iadd rfl ?_
  refine rn_aI rfl hb (fun x1 hb => ?_)
  obtain ⟨hrc, hb⟩ := grd_spec hb
  obtain ⟨p2, hc, hb⟩ := Option.bind_eq_some_iff.mp hb
  refine Rn.call1 (d := (e + 7)) (As := [va_rf v1, .int x1]) (rest := []) rfl rfl rfl (by decide) rfl rfl rfl (bd_rcV hrc rfl) (by decide) (bd_lenC (n := 2) rfl (bd_slR (bd_slI bd_slN)) rfl) (bd_locC (n := 2) rfl (bd_slR (bd_slI bd_slN)) rfl (t_142 (e + 7) (by omega) v1 x1 h _ hc)) ?_
  refine rn_aload_n (i := 2) rfl rfl ?_
  refine rn_aload_n (i := 0) rfl rfl ?_
  refine rn_iload (i := 4) rfl rfl ?_
  refine rn_iconst (x := (nI 1)) rfl (by decide) ?_
  refine rn_iadd rfl ?_
  refine rn_aI rfl hb (fun x3 hb => ?_)
  obtain ⟨hrc, hb⟩ := grd_spec hb
  obtain ⟨p4, hc, hb⟩ := Option.bind_eq_some_iff.mp hb
  refine Rn.call1 (d := (e + 7)) (As := [va_rf v2, .int x3]) (rest := [.int p2.1]) rfl rfl rfl (by decide) rfl rfl rfl (bd_rcV hrc rfl) (by rw [bd_cI (bd_cN)]; decide) (bd_lenC (n := 2) rfl (bd_slR (bd_slI bd_slN)) rfl) (bd_locC (n := 2) rfl (bd_slR (bd_slI bd_slN)) rfl (t_236 (e + 7) (by omega) v2 x3 p2.2 _ hc)) ?_
  refine rn_icmp_eq rfl rfl (fun hc => ?_) (fun hc => ?_)
  · exact u_308_1317 (e + 8) hd k23 K23 v0 v1 v2 v3 v4 v5 v6  p4.2 _ (if_t hb hc)
  · exact u_308_698 (e + 8) hd v0 v1 v2 v3 v4 v5 v6  p4.2 _ (if_f hb hc)
def b_308_711   (h : Hp) : Option (Int32 × Hp) :=
  (grd (decide ((nI 0) = 0 ∨ (nI 0) = 1))).bind fun _ => some ((nI 0), h)
set_option maxRecDepth 100000 in
theorem u_308_711 (d : Nat) (hd : 264 ≤ d) (v0 : Option Nat) (v1 : Option Nat) (v2 : Option Nat) (v3 : Option Nat) (v4 : Int32) (v5 : Option (Int32)) (v6 : Option (Int32))  (h : Hp) (r : Int32 × Hp) (hb : b_308_711   h = some r) : Rn d 308 711 [some (va_rf v0), some (va_rf v1), some (va_rf v2), some (va_rf v3), some (.int v4), v5.map Value.int, v6.map Value.int] [] h (some (.int r.1), r.2) := by
  unfold b_308_711 at hb
  refine rn_iconst (x := (nI 0)) rfl (by decide) ?_
  obtain ⟨hz, hb⟩ := grd_spec hb
  obtain rfl := Option.some.inj hb
  exact rn_zret rfl rfl (of_decide_eq_true hz)
def b_308_700 (k23 : Option Nat → Option Nat → Option Nat → Option Nat → Int32 → Hp → Option (Int32 × Hp)) (v0 : Option Nat) (v1 : Option Nat) (v2 : Option Nat) (v3 : Option Nat) (v4 : Int32)  (h : Hp) : Option (Int32 × Hp) :=
  (grd (rC 10 v1 h)).bind fun _ =>
  (f_143 v1 h).bind fun p1 =>
  (grd (rC 11 v2 p1.2)).bind fun _ =>
  (f_237 v2 p1.2).bind fun p2 =>
  if p1.1 = p2.1 then b_308_1317 k23 v0 v1 v2 v3 v4  p2.2 else b_308_711   p2.2
set_option maxRecDepth 100000 in
theorem u_308_700 (d : Nat) (hd : 264 ≤ d) (k23 : Option Nat → Option Nat → Option Nat → Option Nat → Int32 → Hp → Option (Int32 × Hp)) (K23 : ∀ (v0 : Option Nat) (v1 : Option Nat) (v2 : Option Nat) (v3 : Option Nat) (v4 : Int32) (v5 : Option (Int32)) (v6 : Option (Int32)) (h : Hp) (r : Int32 × Hp), k23 v0 v1 v2 v3 v4 h = some r → Rn d 308 23 [some (va_rf v0), some (va_rf v1), some (va_rf v2), some (va_rf v3), some (.int v4), v5.map Value.int, v6.map Value.int] [] h (some (.int r.1), r.2)) (v0 : Option Nat) (v1 : Option Nat) (v2 : Option Nat) (v3 : Option Nat) (v4 : Int32) (v5 : Option (Int32)) (v6 : Option (Int32))  (h : Hp) (r : Int32 × Hp) (hb : b_308_700 k23 v0 v1 v2 v3 v4  h = some r) : Rn d 308 700 [some (va_rf v0), some (va_rf v1), some (va_rf v2), some (va_rf v3), some (.int v4), v5.map Value.int, v6.map Value.int] [] h (some (.int r.1), r.2) := by
  unfold b_308_700 at hb
  obtain ⟨e, rfl⟩ : ∃ e, d = e + 8 := ⟨d - 8, by omega⟩
  refine rn_aload_n (i := 1) rfl rfl ?_
  obtain ⟨hrc, hb⟩ := grd_spec hb
  obtain ⟨p1, hc, hb⟩ := Option.bind_eq_some_iff.mp hb
  refine Rn.call1 (d := (e + 7)) (As := [va_rf v1]) (rest := []) rfl rfl rfl (by decide) rfl rfl rfl (bd_rcV hrc rfl) (by decide) (bd_lenC (n := 1) rfl (bd_slR bd_slN) rfl) (bd_locC (n := 1) rfl (bd_slR bd_slN) rfl (t_143 (e + 7) (by omega) v1 h _ hc)) ?_
  refine rn_aload_n (i := 2) rfl rfl ?_
  obtain ⟨hrc, hb⟩ := grd_spec hb
  obtain ⟨p2, hc, hb⟩ := Option.bind_eq_some_iff.mp hb
  refine Rn.call1 (d := (e + 7)) (As := [va_rf v2]) (rest := [.int p1.1]) rfl rfl rfl (by decide) rfl rfl rfl (bd_rcV hrc rfl) (by rw [bd_cI (bd_cN)]; decide) (bd_lenC (n := 2) rfl (bd_slR bd_slN) rfl) (bd_locC (n := 2) rfl (bd_slR bd_slN) rfl (t_237 (e + 7) (by omega) v2 p1.2 _ hc)) ?_
  refine rn_icmp_eq rfl rfl (fun hc => ?_) (fun hc => ?_)
  · exact u_308_1317 (e + 8) hd k23 K23 v0 v1 v2 v3 v4 v5 v6  p2.2 _ (if_t hb hc)
  · exact u_308_711 (e + 8) hd v0 v1 v2 v3 v4 v5 v6  p2.2 _ (if_f hb hc)
def b_308_736   (h : Hp) : Option (Int32 × Hp) :=
  (grd (decide ((nI 0) = 0 ∨ (nI 0) = 1))).bind fun _ => some ((nI 0), h)
set_option maxRecDepth 100000 in
theorem u_308_736 (d : Nat) (hd : 264 ≤ d) (v0 : Option Nat) (v1 : Option Nat) (v2 : Option Nat) (v3 : Option Nat) (v4 : Int32) (v5 : Option (Int32)) (v6 : Option (Int32))  (h : Hp) (r : Int32 × Hp) (hb : b_308_736   h = some r) : Rn d 308 736 [some (va_rf v0), some (va_rf v1), some (va_rf v2), some (va_rf v3), some (.int v4), v5.map Value.int, v6.map Value.int] [] h (some (.int r.1), r.2) := by
  unfold b_308_736 at hb
  refine rn_iconst (x := (nI 0)) rfl (by decide) ?_
  obtain ⟨hz, hb⟩ := grd_spec hb
  obtain rfl := Option.some.inj hb
  exact rn_zret rfl rfl (of_decide_eq_true hz)
def b_308_713 (k23 : Option Nat → Option Nat → Option Nat → Option Nat → Int32 → Hp → Option (Int32 × Hp)) (v0 : Option Nat) (v1 : Option Nat) (v2 : Option Nat) (v3 : Option Nat) (v4 : Int32)  (h : Hp) : Option (Int32 × Hp) :=
  (aI 12 v0 (v4 + (nI 1)) h).bind fun x1 =>
  (grd (rC 10 v1 h)).bind fun _ =>
  (f_144 v1 x1 h).bind fun p2 =>
  (aI 12 v0 (v4 + (nI 1)) p2.2).bind fun x3 =>
  (grd (rC 11 v2 p2.2)).bind fun _ =>
  (f_238 v2 x3 p2.2).bind fun p4 =>
  if p2.1 = p4.1 then b_308_1317 k23 v0 v1 v2 v3 v4  p4.2 else b_308_736   p4.2
set_option maxRecDepth 100000 in
theorem u_308_713 (d : Nat) (hd : 264 ≤ d) (k23 : Option Nat → Option Nat → Option Nat → Option Nat → Int32 → Hp → Option (Int32 × Hp)) (K23 : ∀ (v0 : Option Nat) (v1 : Option Nat) (v2 : Option Nat) (v3 : Option Nat) (v4 : Int32) (v5 : Option (Int32)) (v6 : Option (Int32)) (h : Hp) (r : Int32 × Hp), k23 v0 v1 v2 v3 v4 h = some r → Rn d 308 23 [some (va_rf v0), some (va_rf v1), some (va_rf v2), some (va_rf v3), some (.int v4), v5.map Value.int, v6.map Value.int] [] h (some (.int r.1), r.2)) (v0 : Option Nat) (v1 : Option Nat) (v2 : Option Nat) (v3 : Option Nat) (v4 : Int32) (v5 : Option (Int32)) (v6 : Option (Int32))  (h : Hp) (r : Int32 × Hp) (hb : b_308_713 k23 v0 v1 v2 v3 v4  h = some r) : Rn d 308 713 [some (va_rf v0), some (va_rf v1), some (va_rf v2), some (va_rf v3), some (.int v4), v5.map Value.int, v6.map Value.int] [] h (some (.int r.1), r.2) := by
  unfold b_308_713 at hb
  obtain ⟨e, rfl⟩ : ∃ e, d = e + 8 := ⟨d - 8, by omega⟩
  refine rn_aload_n (i := 1) rfl rfl ?_
  refine rn_aload_n (i := 0) rfl rfl ?_
  refine rn_iload (i := 4) rfl rfl ?_
  refine rn_iconst (x := (nI 1)) rfl (by decide) ?_
  refine rn_iadd rfl ?_
  refine rn_aI rfl hb (fun x1 hb => ?_)
  obtain ⟨hrc, hb⟩ := grd_spec hb
  obtain ⟨p2, hc, hb⟩ := Option.bind_eq_some_iff.mp hb
  refine Rn.call1 (d := (e + 7)) (As := [va_rf v1, .int x1]) (rest := []) rfl rfl rfl (by decide) rfl rfl rfl (bd_rcV hrc rfl) (by decide) (bd_lenC (n := 2) rfl (bd_slR (bd_slI bd_slN)) rfl) (bd_locC (n := 2) rfl (bd_slR (bd_slI bd_slN)) rfl (t_144 (e + 7) (by omega) v1 x1 h _ hc)) ?_
  refine rn_aload_n (i := 2) rfl rfl ?_
  refine rn_aload_n (i := 0) rfl rfl ?_
  refine rn_iload (i := 4) rfl rfl ?_
  refine rn_iconst (x := (nI 1)) rfl (by decide) ?_
  refine rn_iadd rfl ?_
  refine rn_aI rfl hb (fun x3 hb => ?_)
  obtain ⟨hrc, hb⟩ := grd_spec hb
  obtain ⟨p4, hc, hb⟩ := Option.bind_eq_some_iff.mp hb
  refine Rn.call1 (d := (e + 7)) (As := [va_rf v2, .int x3]) (rest := [.int p2.1]) rfl rfl rfl (by decide) rfl rfl rfl (bd_rcV hrc rfl) (by rw [bd_cI (bd_cN)]; decide) (bd_lenC (n := 2) rfl (bd_slR (bd_slI bd_slN)) rfl) (bd_locC (n := 2) rfl (bd_slR (bd_slI bd_slN)) rfl (t_238 (e + 7) (by omega) v2 x3 p2.2 _ hc)) ?_
  refine rn_icmp_eq rfl rfl (fun hc => ?_) (fun hc => ?_)
  · exact u_308_1317 (e + 8) hd k23 K23 v0 v1 v2 v3 v4 v5 v6  p4.2 _ (if_t hb hc)
  · exact u_308_736 (e + 8) hd v0 v1 v2 v3 v4 v5 v6  p4.2 _ (if_f hb hc)
def b_308_749   (h : Hp) : Option (Int32 × Hp) :=
  (grd (decide ((nI 0) = 0 ∨ (nI 0) = 1))).bind fun _ => some ((nI 0), h)
set_option maxRecDepth 100000 in
theorem u_308_749 (d : Nat) (hd : 264 ≤ d) (v0 : Option Nat) (v1 : Option Nat) (v2 : Option Nat) (v3 : Option Nat) (v4 : Int32) (v5 : Option (Int32)) (v6 : Option (Int32))  (h : Hp) (r : Int32 × Hp) (hb : b_308_749   h = some r) : Rn d 308 749 [some (va_rf v0), some (va_rf v1), some (va_rf v2), some (va_rf v3), some (.int v4), v5.map Value.int, v6.map Value.int] [] h (some (.int r.1), r.2) := by
  unfold b_308_749 at hb
  refine rn_iconst (x := (nI 0)) rfl (by decide) ?_
  obtain ⟨hz, hb⟩ := grd_spec hb
  obtain rfl := Option.some.inj hb
  exact rn_zret rfl rfl (of_decide_eq_true hz)
def b_308_738 (k23 : Option Nat → Option Nat → Option Nat → Option Nat → Int32 → Hp → Option (Int32 × Hp)) (v0 : Option Nat) (v1 : Option Nat) (v2 : Option Nat) (v3 : Option Nat) (v4 : Int32)  (h : Hp) : Option (Int32 × Hp) :=
  (grd (rC 10 v1 h)).bind fun _ =>
  (f_145 v1 h).bind fun p1 =>
  (grd (rC 11 v2 p1.2)).bind fun _ =>
  (f_240 v2 p1.2).bind fun p2 =>
  if p1.1 = p2.1 then b_308_1317 k23 v0 v1 v2 v3 v4  p2.2 else b_308_749   p2.2
set_option maxRecDepth 100000 in
theorem u_308_738 (d : Nat) (hd : 264 ≤ d) (k23 : Option Nat → Option Nat → Option Nat → Option Nat → Int32 → Hp → Option (Int32 × Hp)) (K23 : ∀ (v0 : Option Nat) (v1 : Option Nat) (v2 : Option Nat) (v3 : Option Nat) (v4 : Int32) (v5 : Option (Int32)) (v6 : Option (Int32)) (h : Hp) (r : Int32 × Hp), k23 v0 v1 v2 v3 v4 h = some r → Rn d 308 23 [some (va_rf v0), some (va_rf v1), some (va_rf v2), some (va_rf v3), some (.int v4), v5.map Value.int, v6.map Value.int] [] h (some (.int r.1), r.2)) (v0 : Option Nat) (v1 : Option Nat) (v2 : Option Nat) (v3 : Option Nat) (v4 : Int32) (v5 : Option (Int32)) (v6 : Option (Int32))  (h : Hp) (r : Int32 × Hp) (hb : b_308_738 k23 v0 v1 v2 v3 v4  h = some r) : Rn d 308 738 [some (va_rf v0), some (va_rf v1), some (va_rf v2), some (va_rf v3), some (.int v4), v5.map Value.int, v6.map Value.int] [] h (some (.int r.1), r.2) := by
  unfold b_308_738 at hb
  obtain ⟨e, rfl⟩ : ∃ e, d = e + 8 := ⟨d - 8, by omega⟩
  refine rn_aload_n (i := 1) rfl rfl ?_
  obtain ⟨hrc, hb⟩ := grd_spec hb
  obtain ⟨p1, hc, hb⟩ := Option.bind_eq_some_iff.mp hb
  refine Rn.call1 (d := (e + 7)) (As := [va_rf v1]) (rest := []) rfl rfl rfl (by decide) rfl rfl rfl (bd_rcV hrc rfl) (by decide) (bd_lenC (n := 1) rfl (bd_slR bd_slN) rfl) (bd_locC (n := 1) rfl (bd_slR bd_slN) rfl (t_145 (e + 7) (by omega) v1 h _ hc)) ?_
  refine rn_aload_n (i := 2) rfl rfl ?_
  obtain ⟨hrc, hb⟩ := grd_spec hb
  obtain ⟨p2, hc, hb⟩ := Option.bind_eq_some_iff.mp hb
  refine Rn.call1 (d := (e + 7)) (As := [va_rf v2]) (rest := [.int p1.1]) rfl rfl rfl (by decide) rfl rfl rfl (bd_rcV hrc rfl) (by rw [bd_cI (bd_cN)]; decide) (bd_lenC (n := 1) rfl (bd_slR bd_slN) rfl) (bd_locC (n := 1) rfl (bd_slR bd_slN) rfl (t_240 (e + 7) (by omega) v2 p1.2 _ hc)) ?_
  refine rn_icmp_eq rfl rfl (fun hc => ?_) (fun hc => ?_)
  · exact u_308_1317 (e + 8) hd k23 K23 v0 v1 v2 v3 v4 v5 v6  p2.2 _ (if_t hb hc)
  · exact u_308_749 (e + 8) hd v0 v1 v2 v3 v4 v5 v6  p2.2 _ (if_f hb hc)
def b_308_798   (h : Hp) : Option (Int32 × Hp) :=
  (grd (decide ((nI 0) = 0 ∨ (nI 0) = 1))).bind fun _ => some ((nI 0), h)
set_option maxRecDepth 100000 in
theorem u_308_798 (d : Nat) (hd : 264 ≤ d) (v0 : Option Nat) (v1 : Option Nat) (v2 : Option Nat) (v3 : Option Nat) (v4 : Int32) (v5 : Option (Int32)) (v6 : Option (Int32))  (h : Hp) (r : Int32 × Hp) (hb : b_308_798   h = some r) : Rn d 308 798 [some (va_rf v0), some (va_rf v1), some (va_rf v2), some (va_rf v3), some (.int v4), v5.map Value.int, v6.map Value.int] [] h (some (.int r.1), r.2) := by
  unfold b_308_798 at hb
  refine rn_iconst (x := (nI 0)) rfl (by decide) ?_
  obtain ⟨hz, hb⟩ := grd_spec hb
  obtain rfl := Option.some.inj hb
  exact rn_zret rfl rfl (of_decide_eq_true hz)
def b_308_751 (k23 : Option Nat → Option Nat → Option Nat → Option Nat → Int32 → Hp → Option (Int32 × Hp)) (v0 : Option Nat) (v1 : Option Nat) (v2 : Option Nat) (v3 : Option Nat) (v4 : Int32)  (h : Hp) : Option (Int32 × Hp) :=
  (aI 12 v0 (v4 + (nI 1)) h).bind fun x1 =>
  (aI 12 v0 (v4 + (nI 2)) h).bind fun x2 =>
  (aI 12 v0 (v4 + (nI 3)) h).bind fun x3 =>
  (grd (rC 10 v1 h)).bind fun _ =>
  (f_146 v1 x1 x2 x3 h).bind fun p4 =>
  (aI 12 v0 (v4 + (nI 1)) p4.2).bind fun x5 =>
  (aI 12 v0 (v4 + (nI 2)) p4.2).bind fun x6 =>
  (aI 12 v0 (v4 + (nI 3)) p4.2).bind fun x7 =>
  (grd (rC 11 v2 p4.2)).bind fun _ =>
  (f_244 v2 x5 x6 x7 p4.2).bind fun p8 =>
  if p4.1 = p8.1 then b_308_1317 k23 v0 v1 v2 v3 v4  p8.2 else b_308_798   p8.2
set_option maxRecDepth 100000 in
theorem u_308_751 (d : Nat) (hd : 264 ≤ d) (k23 : Option Nat → Option Nat → Option Nat → Option Nat → Int32 → Hp → Option (Int32 × Hp)) (K23 : ∀ (v0 : Option Nat) (v1 : Option Nat) (v2 : Option Nat) (v3 : Option Nat) (v4 : Int32) (v5 : Option (Int32)) (v6 : Option (Int32)) (h : Hp) (r : Int32 × Hp), k23 v0 v1 v2 v3 v4 h = some r → Rn d 308 23 [some (va_rf v0), some (va_rf v1), some (va_rf v2), some (va_rf v3), some (.int v4), v5.map Value.int, v6.map Value.int] [] h (some (.int r.1), r.2)) (v0 : Option Nat) (v1 : Option Nat) (v2 : Option Nat) (v3 : Option Nat) (v4 : Int32) (v5 : Option (Int32)) (v6 : Option (Int32))  (h : Hp) (r : Int32 × Hp) (hb : b_308_751 k23 v0 v1 v2 v3 v4  h = some r) : Rn d 308 751 [some (va_rf v0), some (va_rf v1), some (va_rf v2), some (va_rf v3), some (.int v4), v5.map Value.int, v6.map Value.int] [] h (some (.int r.1), r.2) := by
  unfold b_308_751 at hb
  obtain ⟨e, rfl⟩ : ∃ e, d = e + 8 := ⟨d - 8, by omega⟩
  refine rn_aload_n (i := 1) rfl rfl ?_
  refine rn_aload_n (i := 0) rfl rfl ?_
  refine rn_iload (i := 4) rfl rfl ?_
  refine rn_iconst (x := (nI 1)) rfl (by decide) ?_
  refine rn_iadd rfl ?_
  refine rn_aI rfl hb (fun x1 hb => ?_)
  refine rn_aload_n (i := 0) rfl rfl ?_
  refine rn_iload (i := 4) rfl rfl ?_
  refine rn_iconst (x := (nI 2)) rfl (by decide) ?_
  refine rn_iadd rfl ?_
  refine rn_aI rfl hb (fun x2 hb => ?_)
  refine rn_aload_n (i := 0) rfl rfl ?_
  refine rn_iload (i := 4) rfl rfl ?_
  refine rn_iconst (x := (nI 3)) rfl (by decide) ?_
  refine rn_iadd rfl ?_
  refine rn_aI rfl hb (fun x3 hb => ?_)
  obtain ⟨hrc, hb⟩ := grd_spec hb
  obtain ⟨p4, hc, hb⟩ := Option.bind_eq_some_iff.mp hb
  refine Rn.call1 (d := (e + 7)) (As := [va_rf v1, .int x1, .int x2, .int x3]) (rest := []) rfl rfl rfl (by decide) rfl rfl rfl (bd_rcV hrc rfl) (by decide) (bd_lenC (n := 4) rfl (bd_slR (bd_slI (bd_slI (bd_slI bd_slN)))) rfl) (bd_locC (n := 4) rfl (bd_slR (bd_slI (bd_slI (bd_slI bd_slN)))) rfl (t_146 (e + 7) (by omega) v1 x1 x2 x3 h _ hc)) ?_
  refine rn_aload_n (i := 2) rfl rfl ?_
  refine rn_aload_n (i := 0) rfl rfl ?_
  refine rn_iload (i := 4) rfl rfl ?_
  refine rn_iconst (x := (nI 1)) rfl (by decide) ?_
  refine rn_iadd rfl ?_
  refine rn_aI rfl hb (fun x5 hb => ?_)
  refine rn_aload_n (i := 0) rfl rfl ?_
  refine rn_iload (i := 4) rfl rfl ?_
  refine rn_iconst (x := (nI 2)) rfl (by decide) ?_
  refine rn_iadd rfl ?_
  refine rn_aI rfl hb (fun x6 hb => ?_)
  refine rn_aload_n (i := 0) rfl rfl ?_
  refine rn_iload (i := 4) rfl rfl ?_
  refine rn_iconst (x := (nI 3)) rfl (by decide) ?_
  refine rn_iadd rfl ?_
  refine rn_aI rfl hb (fun x7 hb => ?_)
  obtain ⟨hrc, hb⟩ := grd_spec hb
  obtain ⟨p8, hc, hb⟩ := Option.bind_eq_some_iff.mp hb
  refine Rn.call1 (d := (e + 7)) (As := [va_rf v2, .int x5, .int x6, .int x7]) (rest := [.int p4.1]) rfl rfl rfl (by decide) rfl rfl rfl (bd_rcV hrc rfl) (by rw [bd_cI (bd_cN)]; decide) (bd_lenC (n := 7) rfl (bd_slR (bd_slI (bd_slI (bd_slI bd_slN)))) rfl) (bd_locC (n := 7) rfl (bd_slR (bd_slI (bd_slI (bd_slI bd_slN)))) rfl (t_244 (e + 7) (by omega) v2 x5 x6 x7 p4.2 _ hc)) ?_
  refine rn_icmp_eq rfl rfl (fun hc => ?_) (fun hc => ?_)
  · exact u_308_1317 (e + 8) hd k23 K23 v0 v1 v2 v3 v4 v5 v6  p8.2 _ (if_t hb hc)
  · exact u_308_798 (e + 8) hd v0 v1 v2 v3 v4 v5 v6  p8.2 _ (if_f hb hc)
def b_308_823   (h : Hp) : Option (Int32 × Hp) :=
  (grd (decide ((nI 0) = 0 ∨ (nI 0) = 1))).bind fun _ => some ((nI 0), h)
set_option maxRecDepth 100000 in
theorem u_308_823 (d : Nat) (hd : 264 ≤ d) (v0 : Option Nat) (v1 : Option Nat) (v2 : Option Nat) (v3 : Option Nat) (v4 : Int32) (v5 : Option (Int32)) (v6 : Option (Int32))  (h : Hp) (r : Int32 × Hp) (hb : b_308_823   h = some r) : Rn d 308 823 [some (va_rf v0), some (va_rf v1), some (va_rf v2), some (va_rf v3), some (.int v4), v5.map Value.int, v6.map Value.int] [] h (some (.int r.1), r.2) := by
  unfold b_308_823 at hb
  refine rn_iconst (x := (nI 0)) rfl (by decide) ?_
  obtain ⟨hz, hb⟩ := grd_spec hb
  obtain rfl := Option.some.inj hb
  exact rn_zret rfl rfl (of_decide_eq_true hz)
def b_308_800 (k23 : Option Nat → Option Nat → Option Nat → Option Nat → Int32 → Hp → Option (Int32 × Hp)) (v0 : Option Nat) (v1 : Option Nat) (v2 : Option Nat) (v3 : Option Nat) (v4 : Int32)  (h : Hp) : Option (Int32 × Hp) :=
  (aI 12 v0 (v4 + (nI 1)) h).bind fun x1 =>
  (grd (rC 10 v1 h)).bind fun _ =>
  (f_147 v1 x1 h).bind fun p2 =>
  (aI 12 v0 (v4 + (nI 1)) p2.2).bind fun x3 =>
  (grd (rC 11 v2 p2.2)).bind fun _ =>
  (f_245 v2 x3 p2.2).bind fun p4 =>
  if p2.1 = p4.1 then b_308_1317 k23 v0 v1 v2 v3 v4  p4.2 else b_308_823   p4.2
set_option maxRecDepth 100000 in
theorem u_308_800 (d : Nat) (hd : 264 ≤ d) (k23 : Option Nat → Option Nat → Option Nat → Option Nat → Int32 → Hp → Option (Int32 × Hp)) (K23 : ∀ (v0 : Option Nat) (v1 : Option Nat) (v2 : Option Nat) (v3 : Option Nat) (v4 : Int32) (v5 : Option (Int32)) (v6 : Option (Int32)) (h : Hp) (r : Int32 × Hp), k23 v0 v1 v2 v3 v4 h = some r → Rn d 308 23 [some (va_rf v0), some (va_rf v1), some (va_rf v2), some (va_rf v3), some (.int v4), v5.map Value.int, v6.map Value.int] [] h (some (.int r.1), r.2)) (v0 : Option Nat) (v1 : Option Nat) (v2 : Option Nat) (v3 : Option Nat) (v4 : Int32) (v5 : Option (Int32)) (v6 : Option (Int32))  (h : Hp) (r : Int32 × Hp) (hb : b_308_800 k23 v0 v1 v2 v3 v4  h = some r) : Rn d 308 800 [some (va_rf v0), some (va_rf v1), some (va_rf v2), some (va_rf v3), some (.int v4), v5.map Value.int, v6.map Value.int] [] h (some (.int r.1), r.2) := by
  unfold b_308_800 at hb
  obtain ⟨e, rfl⟩ : ∃ e, d = e + 8 := ⟨d - 8, by omega⟩
  refine rn_aload_n (i := 1) rfl rfl ?_
  refine rn_aload_n (i := 0) rfl rfl ?_
  refine rn_iload (i := 4) rfl rfl ?_
  refine rn_iconst (x := (nI 1)) rfl (by decide) ?_
  refine rn_iadd rfl ?_
  refine rn_aI rfl hb (fun x1 hb => ?_)
  obtain ⟨hrc, hb⟩ := grd_spec hb
  obtain ⟨p2, hc, hb⟩ := Option.bind_eq_some_iff.mp hb
  refine Rn.call1 (d := (e + 7)) (As := [va_rf v1, .int x1]) (rest := []) rfl rfl rfl (by decide) rfl rfl rfl (bd_rcV hrc rfl) (by decide) (bd_lenC (n := 2) rfl (bd_slR (bd_slI bd_slN)) rfl) (bd_locC (n := 2) rfl (bd_slR (bd_slI bd_slN)) rfl (t_147 (e + 7) (by omega) v1 x1 h _ hc)) ?_
  refine rn_aload_n (i := 2) rfl rfl ?_
  refine rn_aload_n (i := 0) rfl rfl ?_
  refine rn_iload (i := 4) rfl rfl ?_
  refine rn_iconst (x := (nI 1)) rfl (by decide) ?_
  refine rn_iadd rfl ?_
  refine rn_aI rfl hb (fun x3 hb => ?_)
  obtain ⟨hrc, hb⟩ := grd_spec hb
  obtain ⟨p4, hc, hb⟩ := Option.bind_eq_some_iff.mp hb
  refine Rn.call1 (d := (e + 7)) (As := [va_rf v2, .int x3]) (rest := [.int p2.1]) rfl rfl rfl (by decide) rfl rfl rfl (bd_rcV hrc rfl) (by rw [bd_cI (bd_cN)]; decide) (bd_lenC (n := 2) rfl (bd_slR (bd_slI bd_slN)) rfl) (bd_locC (n := 2) rfl (bd_slR (bd_slI bd_slN)) rfl (t_245 (e + 7) (by omega) v2 x3 p2.2 _ hc)) ?_
  refine rn_icmp_eq rfl rfl (fun hc => ?_) (fun hc => ?_)
  · exact u_308_1317 (e + 8) hd k23 K23 v0 v1 v2 v3 v4 v5 v6  p4.2 _ (if_t hb hc)
  · exact u_308_823 (e + 8) hd v0 v1 v2 v3 v4 v5 v6  p4.2 _ (if_f hb hc)
def b_308_848   (h : Hp) : Option (Int32 × Hp) :=
  (grd (decide ((nI 0) = 0 ∨ (nI 0) = 1))).bind fun _ => some ((nI 0), h)
set_option maxRecDepth 100000 in
theorem u_308_848 (d : Nat) (hd : 264 ≤ d) (v0 : Option Nat) (v1 : Option Nat) (v2 : Option Nat) (v3 : Option Nat) (v4 : Int32) (v5 : Option (Int32)) (v6 : Option (Int32))  (h : Hp) (r : Int32 × Hp) (hb : b_308_848   h = some r) : Rn d 308 848 [some (va_rf v0), some (va_rf v1), some (va_rf v2), some (va_rf v3), some (.int v4), v5.map Value.int, v6.map Value.int] [] h (some (.int r.1), r.2) := by
  unfold b_308_848 at hb
  refine rn_iconst (x := (nI 0)) rfl (by decide) ?_
  obtain ⟨hz, hb⟩ := grd_spec hb
  obtain rfl := Option.some.inj hb
  exact rn_zret rfl rfl (of_decide_eq_true hz)
def b_308_825 (k23 : Option Nat → Option Nat → Option Nat → Option Nat → Int32 → Hp → Option (Int32 × Hp)) (v0 : Option Nat) (v1 : Option Nat) (v2 : Option Nat) (v3 : Option Nat) (v4 : Int32)  (h : Hp) : Option (Int32 × Hp) :=
  (aI 12 v0 (v4 + (nI 1)) h).bind fun x1 =>
  (grd (rC 10 v1 h)).bind fun _ =>
  (f_148 v1 x1 h).bind fun p2 =>
  (aI 12 v0 (v4 + (nI 1)) p2.2).bind fun x3 =>
  (grd (rC 11 v2 p2.2)).bind fun _ =>
  (f_246 v2 x3 p2.2).bind fun p4 =>
  if p2.1 = p4.1 then b_308_1317 k23 v0 v1 v2 v3 v4  p4.2 else b_308_848   p4.2
set_option maxRecDepth 100000 in
theorem u_308_825 (d : Nat) (hd : 264 ≤ d) (k23 : Option Nat → Option Nat → Option Nat → Option Nat → Int32 → Hp → Option (Int32 × Hp)) (K23 : ∀ (v0 : Option Nat) (v1 : Option Nat) (v2 : Option Nat) (v3 : Option Nat) (v4 : Int32) (v5 : Option (Int32)) (v6 : Option (Int32)) (h : Hp) (r : Int32 × Hp), k23 v0 v1 v2 v3 v4 h = some r → Rn d 308 23 [some (va_rf v0), some (va_rf v1), some (va_rf v2), some (va_rf v3), some (.int v4), v5.map Value.int, v6.map Value.int] [] h (some (.int r.1), r.2)) (v0 : Option Nat) (v1 : Option Nat) (v2 : Option Nat) (v3 : Option Nat) (v4 : Int32) (v5 : Option (Int32)) (v6 : Option (Int32))  (h : Hp) (r : Int32 × Hp) (hb : b_308_825 k23 v0 v1 v2 v3 v4  h = some r) : Rn d 308 825 [some (va_rf v0), some (va_rf v1), some (va_rf v2), some (va_rf v3), some (.int v4), v5.map Value.int, v6.map Value.int] [] h (some (.int r.1), r.2) := by
  unfold b_308_825 at hb
  obtain ⟨e, rfl⟩ : ∃ e, d = e + 8 := ⟨d - 8, by omega⟩
  refine rn_aload_n (i := 1) rfl rfl ?_
  refine rn_aload_n (i := 0) rfl rfl ?_
  refine rn_iload (i := 4) rfl rfl ?_
  refine rn_iconst (x := (nI 1)) rfl (by decide) ?_
  refine rn_iadd rfl ?_
  refine rn_aI rfl hb (fun x1 hb => ?_)
  obtain ⟨hrc, hb⟩ := grd_spec hb
  obtain ⟨p2, hc, hb⟩ := Option.bind_eq_some_iff.mp hb
  refine Rn.call1 (d := (e + 7)) (As := [va_rf v1, .int x1]) (rest := []) rfl rfl rfl (by decide) rfl rfl rfl (bd_rcV hrc rfl) (by decide) (bd_lenC (n := 2) rfl (bd_slR (bd_slI bd_slN)) rfl) (bd_locC (n := 2) rfl (bd_slR (bd_slI bd_slN)) rfl (t_148 (e + 7) (by omega) v1 x1 h _ hc)) ?_
  refine rn_aload_n (i := 2) rfl rfl ?_
  refine rn_aload_n (i := 0) rfl rfl ?_
  refine rn_iload (i := 4) rfl rfl ?_
  refine rn_iconst (x := (nI 1)) rfl (by decide) ?_
  refine rn_iadd rfl ?_
  refine rn_aI rfl hb (fun x3 hb => ?_)
  obtain ⟨hrc, hb⟩ := grd_spec hb
  obtain ⟨p4, hc, hb⟩ := Option.bind_eq_some_iff.mp hb
  refine Rn.call1 (d := (e + 7)) (As := [va_rf v2, .int x3]) (rest := [.int p2.1]) rfl rfl rfl (by decide) rfl rfl rfl (bd_rcV hrc rfl) (by rw [bd_cI (bd_cN)]; decide) (bd_lenC (n := 2) rfl (bd_slR (bd_slI bd_slN)) rfl) (bd_locC (n := 2) rfl (bd_slR (bd_slI bd_slN)) rfl (t_246 (e + 7) (by omega) v2 x3 p2.2 _ hc)) ?_
  refine rn_icmp_eq rfl rfl (fun hc => ?_) (fun hc => ?_)
  · exact u_308_1317 (e + 8) hd k23 K23 v0 v1 v2 v3 v4 v5 v6  p4.2 _ (if_t hb hc)
  · exact u_308_848 (e + 8) hd v0 v1 v2 v3 v4 v5 v6  p4.2 _ (if_f hb hc)
def b_308_861   (h : Hp) : Option (Int32 × Hp) :=
  (grd (decide ((nI 0) = 0 ∨ (nI 0) = 1))).bind fun _ => some ((nI 0), h)
set_option maxRecDepth 100000 in
theorem u_308_861 (d : Nat) (hd : 264 ≤ d) (v0 : Option Nat) (v1 : Option Nat) (v2 : Option Nat) (v3 : Option Nat) (v4 : Int32) (v5 : Option (Int32)) (v6 : Option (Int32))  (h : Hp) (r : Int32 × Hp) (hb : b_308_861   h = some r) : Rn d 308 861 [some (va_rf v0), some (va_rf v1), some (va_rf v2), some (va_rf v3), some (.int v4), v5.map Value.int, v6.map Value.int] [] h (some (.int r.1), r.2) := by
  unfold b_308_861 at hb
  refine rn_iconst (x := (nI 0)) rfl (by decide) ?_
  obtain ⟨hz, hb⟩ := grd_spec hb
  obtain rfl := Option.some.inj hb
  exact rn_zret rfl rfl (of_decide_eq_true hz)
def b_308_850 (k23 : Option Nat → Option Nat → Option Nat → Option Nat → Int32 → Hp → Option (Int32 × Hp)) (v0 : Option Nat) (v1 : Option Nat) (v2 : Option Nat) (v3 : Option Nat) (v4 : Int32)  (h : Hp) : Option (Int32 × Hp) :=
  (grd (rC 10 v1 h)).bind fun _ =>
  (f_149 v1 h).bind fun p1 =>
  (grd (rC 11 v2 p1.2)).bind fun _ =>
  (f_248 v2 p1.2).bind fun p2 =>
  if p1.1 = p2.1 then b_308_1317 k23 v0 v1 v2 v3 v4  p2.2 else b_308_861   p2.2
set_option maxRecDepth 100000 in
theorem u_308_850 (d : Nat) (hd : 264 ≤ d) (k23 : Option Nat → Option Nat → Option Nat → Option Nat → Int32 → Hp → Option (Int32 × Hp)) (K23 : ∀ (v0 : Option Nat) (v1 : Option Nat) (v2 : Option Nat) (v3 : Option Nat) (v4 : Int32) (v5 : Option (Int32)) (v6 : Option (Int32)) (h : Hp) (r : Int32 × Hp), k23 v0 v1 v2 v3 v4 h = some r → Rn d 308 23 [some (va_rf v0), some (va_rf v1), some (va_rf v2), some (va_rf v3), some (.int v4), v5.map Value.int, v6.map Value.int] [] h (some (.int r.1), r.2)) (v0 : Option Nat) (v1 : Option Nat) (v2 : Option Nat) (v3 : Option Nat) (v4 : Int32) (v5 : Option (Int32)) (v6 : Option (Int32))  (h : Hp) (r : Int32 × Hp) (hb : b_308_850 k23 v0 v1 v2 v3 v4  h = some r) : Rn d 308 850 [some (va_rf v0), some (va_rf v1), some (va_rf v2), some (va_rf v3), some (.int v4), v5.map Value.int, v6.map Value.int] [] h (some (.int r.1), r.2) := by
  unfold b_308_850 at hb
  obtain ⟨e, rfl⟩ : ∃ e, d = e + 8 := ⟨d - 8, by omega⟩
  refine rn_aload_n (i := 1) rfl rfl ?_
  obtain ⟨hrc, hb⟩ := grd_spec hb
  obtain ⟨p1, hc, hb⟩ := Option.bind_eq_some_iff.mp hb
  refine Rn.call1 (d := (e + 7)) (As := [va_rf v1]) (rest := []) rfl rfl rfl (by decide) rfl rfl rfl (bd_rcV hrc rfl) (by decide) (bd_lenC (n := 1) rfl (bd_slR bd_slN) rfl) (bd_locC (n := 1) rfl (bd_slR bd_slN) rfl (t_149 (e + 7) (by omega) v1 h _ hc)) ?_
  refine rn_aload_n (i := 2) rfl rfl ?_
  obtain ⟨hrc, hb⟩ := grd_spec hb
  obtain ⟨p2, hc, hb⟩ := Option.bind_eq_some_iff.mp hb
  refine Rn.call1 (d := (e + 7)) (As := [va_rf v2]) (rest := [.int p1.1]) rfl rfl rfl (by decide) rfl rfl rfl (bd_rcV hrc rfl) (by rw [bd_cI (bd_cN)]; decide) (bd_lenC (n := 3) rfl (bd_slR bd_slN) rfl) (bd_locC (n := 3) rfl (bd_slR bd_slN) rfl (t_248 (e + 7) (by omega) v2 p1.2 _ hc)) ?_
  refine rn_icmp_eq rfl rfl (fun hc => ?_) (fun hc => ?_)
  · exact u_308_1317 (e + 8) hd k23 K23 v0 v1 v2 v3 v4 v5 v6  p2.2 _ (if_t hb hc)
  · exact u_308_861 (e + 8) hd v0 v1 v2 v3 v4 v5 v6  p2.2 _ (if_f hb hc)
def b_308_874   (h : Hp) : Option (Int32 × Hp) :=
  (grd (decide ((nI 0) = 0 ∨ (nI 0) = 1))).bind fun _ => some ((nI 0), h)
set_option maxRecDepth 100000 in
theorem u_308_874 (d : Nat) (hd : 264 ≤ d) (v0 : Option Nat) (v1 : Option Nat) (v2 : Option Nat) (v3 : Option Nat) (v4 : Int32) (v5 : Option (Int32)) (v6 : Option (Int32))  (h : Hp) (r : Int32 × Hp) (hb : b_308_874   h = some r) : Rn d 308 874 [some (va_rf v0), some (va_rf v1), some (va_rf v2), some (va_rf v3), some (.int v4), v5.map Value.int, v6.map Value.int] [] h (some (.int r.1), r.2) := by
  unfold b_308_874 at hb
  refine rn_iconst (x := (nI 0)) rfl (by decide) ?_
  obtain ⟨hz, hb⟩ := grd_spec hb
  obtain rfl := Option.some.inj hb
  exact rn_zret rfl rfl (of_decide_eq_true hz)
def b_308_863 (k23 : Option Nat → Option Nat → Option Nat → Option Nat → Int32 → Hp → Option (Int32 × Hp)) (v0 : Option Nat) (v1 : Option Nat) (v2 : Option Nat) (v3 : Option Nat) (v4 : Int32)  (h : Hp) : Option (Int32 × Hp) :=
  (grd (rC 10 v1 h)).bind fun _ =>
  (f_150 v1 h).bind fun p1 =>
  (grd (rC 11 v2 p1.2)).bind fun _ =>
  (f_249 v2 p1.2).bind fun p2 =>
  if p1.1 = p2.1 then b_308_1317 k23 v0 v1 v2 v3 v4  p2.2 else b_308_874   p2.2
set_option maxRecDepth 100000 in
theorem u_308_863 (d : Nat) (hd : 264 ≤ d) (k23 : Option Nat → Option Nat → Option Nat → Option Nat → Int32 → Hp → Option (Int32 × Hp)) (K23 : ∀ (v0 : Option Nat) (v1 : Option Nat) (v2 : Option Nat) (v3 : Option Nat) (v4 : Int32) (v5 : Option (Int32)) (v6 : Option (Int32)) (h : Hp) (r : Int32 × Hp), k23 v0 v1 v2 v3 v4 h = some r → Rn d 308 23 [some (va_rf v0), some (va_rf v1), some (va_rf v2), some (va_rf v3), some (.int v4), v5.map Value.int, v6.map Value.int] [] h (some (.int r.1), r.2)) (v0 : Option Nat) (v1 : Option Nat) (v2 : Option Nat) (v3 : Option Nat) (v4 : Int32) (v5 : Option (Int32)) (v6 : Option (Int32))  (h : Hp) (r : Int32 × Hp) (hb : b_308_863 k23 v0 v1 v2 v3 v4  h = some r) : Rn d 308 863 [some (va_rf v0), some (va_rf v1), some (va_rf v2), some (va_rf v3), some (.int v4), v5.map Value.int, v6.map Value.int] [] h (some (.int r.1), r.2) := by
  unfold b_308_863 at hb
  obtain ⟨e, rfl⟩ : ∃ e, d = e + 8 := ⟨d - 8, by omega⟩
  refine rn_aload_n (i := 1) rfl rfl ?_
  obtain ⟨hrc, hb⟩ := grd_spec hb
  obtain ⟨p1, hc, hb⟩ := Option.bind_eq_some_iff.mp hb
  refine Rn.call1 (d := (e + 7)) (As := [va_rf v1]) (rest := []) rfl rfl rfl (by decide) rfl rfl rfl (bd_rcV hrc rfl) (by decide) (bd_lenC (n := 1) rfl (bd_slR bd_slN) rfl) (bd_locC (n := 1) rfl (bd_slR bd_slN) rfl (t_150 (e + 7) (by omega) v1 h _ hc)) ?_
  refine rn_aload_n (i := 2) rfl rfl ?_
  obtain ⟨hrc, hb⟩ := grd_spec hb
  obtain ⟨p2, hc, hb⟩ := Option.bind_eq_some_iff.mp hb
  refine Rn.call1 (d := (e + 7)) (As := [va_rf v2]) (rest := [.int p1.1]) rfl rfl rfl (by decide) rfl rfl rfl (bd_rcV hrc rfl) (by rw [bd_cI (bd_cN)]; decide) (bd_lenC (n := 5) rfl (bd_slR bd_slN) rfl) (bd_locC (n := 5) rfl (bd_slR bd_slN) rfl (t_249 (e + 7) (by omega) v2 p1.2 _ hc)) ?_
  refine rn_icmp_eq rfl rfl (fun hc => ?_) (fun hc => ?_)
  · exact u_308_1317 (e + 8) hd k23 K23 v0 v1 v2 v3 v4 v5 v6  p2.2 _ (if_t hb hc)
  · exact u_308_874 (e + 8) hd v0 v1 v2 v3 v4 v5 v6  p2.2 _ (if_f hb hc)
def b_308_899   (h : Hp) : Option (Int32 × Hp) :=
  (grd (decide ((nI 0) = 0 ∨ (nI 0) = 1))).bind fun _ => some ((nI 0), h)
set_option maxRecDepth 100000 in
theorem u_308_899 (d : Nat) (hd : 264 ≤ d) (v0 : Option Nat) (v1 : Option Nat) (v2 : Option Nat) (v3 : Option Nat) (v4 : Int32) (v5 : Option (Int32)) (v6 : Option (Int32))  (h : Hp) (r : Int32 × Hp) (hb : b_308_899   h = some r) : Rn d 308 899 [some (va_rf v0), some (va_rf v1), some (va_rf v2), some (va_rf v3), some (.int v4), v5.map Value.int, v6.map Value.int] [] h (some (.int r.1), r.2) := by
  unfold b_308_899 at hb
  refine rn_iconst (x := (nI 0)) rfl (by decide) ?_
  obtain ⟨hz, hb⟩ := grd_spec hb
  obtain rfl := Option.some.inj hb
  exact rn_zret rfl rfl (of_decide_eq_true hz)
def b_308_876 (k23 : Option Nat → Option Nat → Option Nat → Option Nat → Int32 → Hp → Option (Int32 × Hp)) (v0 : Option Nat) (v1 : Option Nat) (v2 : Option Nat) (v3 : Option Nat) (v4 : Int32)  (h : Hp) : Option (Int32 × Hp) :=
  (aI 12 v0 (v4 + (nI 1)) h).bind fun x1 =>
  (grd (rC 10 v1 h)).bind fun _ =>
  (f_151 v1 x1 h).bind fun p2 =>
  (aI 12 v0 (v4 + (nI 1)) p2.2).bind fun x3 =>
  (grd (rC 11 v2 p2.2)).bind fun _ =>
  (f_250 v2 x3 p2.2).bind fun p4 =>
  if p2.1 = p4.1 then b_308_1317 k23 v0 v1 v2 v3 v4  p4.2 else b_308_899   p4.2
set_option maxRecDepth 100000 in
theorem u_308_876 (d : Nat) (hd : 264 ≤ d) (k23 : Option Nat → Option Nat → Option Nat → Option Nat → Int32 → Hp → Option (Int32 × Hp)) (K23 : ∀ (v0 : Option Nat) (v1 : Option Nat) (v2 : Option Nat) (v3 : Option Nat) (v4 : Int32) (v5 : Option (Int32)) (v6 : Option (Int32)) (h : Hp) (r : Int32 × Hp), k23 v0 v1 v2 v3 v4 h = some r → Rn d 308 23 [some (va_rf v0), some (va_rf v1), some (va_rf v2), some (va_rf v3), some (.int v4), v5.map Value.int, v6.map Value.int] [] h (some (.int r.1), r.2)) (v0 : Option Nat) (v1 : Option Nat) (v2 : Option Nat) (v3 : Option Nat) (v4 : Int32) (v5 : Option (Int32)) (v6 : Option (Int32))  (h : Hp) (r : Int32 × Hp) (hb : b_308_876 k23 v0 v1 v2 v3 v4  h = some r) : Rn d 308 876 [some (va_rf v0), some (va_rf v1), some (va_rf v2), some (va_rf v3), some (.int v4), v5.map Value.int, v6.map Value.int] [] h (some (.int r.1), r.2) := by
  unfold b_308_876 at hb
  obtain ⟨e, rfl⟩ : ∃ e, d = e + 8 := ⟨d - 8, by omega⟩
  refine rn_aload_n (i := 1) rfl rfl ?_
  refine rn_aload_n (i := 0) rfl rfl ?_
  refine rn_iload (i := 4) rfl rfl ?_
  refine rn_iconst (x := (nI 1)) rfl (by decide) ?_
  refine rn_iadd rfl ?_
  refine rn_aI rfl hb (fun x1 hb => ?_)
  obtain ⟨hrc, hb⟩ := grd_spec hb
  obtain ⟨p2, hc, hb⟩ := Option.bind_eq_some_iff.mp hb
  refine Rn.call1 (d := (e + 7)) (As := [va_rf v1, .int x1]) (rest := []) rfl rfl rfl (by decide) rfl rfl rfl (bd_rcV hrc rfl) (by decide) (bd_lenC (n := 2) rfl (bd_slR (bd_slI bd_slN)) rfl) (bd_locC (n := 2) rfl (bd_slR (bd_slI bd_slN)) rfl (t_151 (e + 7) (by omega) v1 x1 h _ hc)) ?_
  refine rn_aload_n (i := 2) rfl rfl ?_
  refine rn_aload_n (i := 0) rfl rfl ?_
  refine rn_iload (i := 4) rfl rfl ?_
  refine rn_iconst (x := (nI 1)) rfl (by decide) ?_
  refine rn_iadd rfl ?_
  refine rn_aI rfl hb (fun x3 hb => ?_)
  obtain ⟨hrc, hb⟩ := grd_spec hb
  obtain ⟨p4, hc, hb⟩ := Option.bind_eq_some_iff.mp hb
  refine Rn.call1 (d := (e + 7)) (As := [va_rf v2, .int x3]) (rest := [.int p2.1]) rfl rfl rfl (by decide) rfl rfl rfl (bd_rcV hrc rfl) (by rw [bd_cI (bd_cN)]; decide) (bd_lenC (n := 2) rfl (bd_slR (bd_slI bd_slN)) rfl) (bd_locC (n := 2) rfl (bd_slR (bd_slI bd_slN)) rfl (t_250 (e + 7) (by omega) v2 x3 p2.2 _ hc)) ?_
  refine rn_icmp_eq rfl rfl (fun hc => ?_) (fun hc => ?_)
  · exact u_308_1317 (e + 8) hd k23 K23 v0 v1 v2 v3 v4 v5 v6  p4.2 _ (if_t hb hc)
  · exact u_308_899 (e + 8) hd v0 v1 v2 v3 v4 v5 v6  p4.2 _ (if_f hb hc)
def b_308_936   (h : Hp) : Option (Int32 × Hp) :=
  (grd (decide ((nI 0) = 0 ∨ (nI 0) = 1))).bind fun _ => some ((nI 0), h)
set_option maxRecDepth 100000 in
theorem u_308_936 (d : Nat) (hd : 264 ≤ d) (v0 : Option Nat) (v1 : Option Nat) (v2 : Option Nat) (v3 : Option Nat) (v4 : Int32) (v5 : Option (Int32)) (v6 : Option (Int32))  (h : Hp) (r : Int32 × Hp) (hb : b_308_936   h = some r) : Rn d 308 936 [some (va_rf v0), some (va_rf v1), some (va_rf v2), some (va_rf v3), some (.int v4), v5.map Value.int, v6.map Value.int] [] h (some (.int r.1), r.2) := by
  unfold b_308_936 at hb
  refine rn_iconst (x := (nI 0)) rfl (by decide) ?_
  obtain ⟨hz, hb⟩ := grd_spec hb
  obtain rfl := Option.some.inj hb
  exact rn_zret rfl rfl (of_decide_eq_true hz)
def b_308_901 (k23 : Option Nat → Option Nat → Option Nat → Option Nat → Int32 → Hp → Option (Int32 × Hp)) (v0 : Option Nat) (v1 : Option Nat) (v2 : Option Nat) (v3 : Option Nat) (v4 : Int32)  (h : Hp) : Option (Int32 × Hp) :=
  (aI 12 v0 (v4 + (nI 1)) h).bind fun x1 =>
  (aI 12 v0 (v4 + (nI 2)) h).bind fun x2 =>
  (grd (rC 10 v1 h)).bind fun _ =>
  (f_152 v1 x1 x2 h).bind fun p3 =>
  (aI 12 v0 (v4 + (nI 1)) p3.2).bind fun x4 =>
  (aI 12 v0 (v4 + (nI 2)) p3.2).bind fun x5 =>
  (grd (rC 11 v2 p3.2)).bind fun _ =>
  (f_251 v2 x4 x5 p3.2).bind fun p6 =>
  if p3.1 = p6.1 then b_308_1317 k23 v0 v1 v2 v3 v4  p6.2 else b_308_936   p6.2
set_option maxRecDepth 100000 in
theorem u_308_901 (d : Nat) (hd : 264 ≤ d) (k23 : Option Nat → Option Nat → Option Nat → Option Nat → Int32 → Hp → Option (Int32 × Hp)) (K23 : ∀ (v0 : Option Nat) (v1 : Option Nat) (v2 : Option Nat) (v3 : Option Nat) (v4 : Int32) (v5 : Option (Int32)) (v6 : Option (Int32)) (h : Hp) (r : Int32 × Hp), k23 v0 v1 v2 v3 v4 h = some r → Rn d 308 23 [some (va_rf v0), some (va_rf v1), some (va_rf v2), some (va_rf v3), some (.int v4), v5.map Value.int, v6.map Value.int] [] h (some (.int r.1), r.2)) (v0 : Option Nat) (v1 : Option Nat) (v2 : Option Nat) (v3 : Option Nat) (v4 : Int32) (v5 : Option (Int32)) (v6 : Option (Int32))  (h : Hp) (r : Int32 × Hp) (hb : b_308_901 k23 v0 v1 v2 v3 v4  h = some r) : Rn d 308 901 [some (va_rf v0), some (va_rf v1), some (va_rf v2), some (va_rf v3), some (.int v4), v5.map Value.int, v6.map Value.int] [] h (some (.int r.1), r.2) := by
  unfold b_308_901 at hb
  obtain ⟨e, rfl⟩ : ∃ e, d = e + 8 := ⟨d - 8, by omega⟩
  refine rn_aload_n (i := 1) rfl rfl ?_
  refine rn_aload_n (i := 0) rfl rfl ?_
  refine rn_iload (i := 4) rfl rfl ?_
  refine rn_iconst (x := (nI 1)) rfl (by decide) ?_
  refine rn_iadd rfl ?_
  refine rn_aI rfl hb (fun x1 hb => ?_)
  refine rn_aload_n (i := 0) rfl rfl ?_
  refine rn_iload (i := 4) rfl rfl ?_
  refine rn_iconst (x := (nI 2)) rfl (by decide) ?_
  refine rn_iadd rfl ?_
  refine rn_aI rfl hb (fun x2 hb => ?_)
  obtain ⟨hrc, hb⟩ := grd_spec hb
  obtain ⟨p3, hc, hb⟩ := Option.bind_eq_some_iff.mp hb
  refine Rn.call1 (d := (e + 7)) (As := [va_rf v1, .int x1, .int x2]) (rest := []) rfl rfl rfl (by decide) rfl rfl rfl (bd_rcV hrc rfl) (by decide) (bd_lenC (n := 3) rfl (bd_slR (bd_slI (bd_slI bd_slN))) rfl) (bd_locC (n := 3) rfl (bd_slR (bd_slI (bd_slI bd_slN))) rfl (t_152 (e + 7) (by omega) v1 x1 x2 h _ hc)) ?_
  refine rn_aload_n (i := 2) rfl rfl ?_
  refine rn_aload_n (i := 0) rfl rfl ?_
  refine rn_iload (i := 4) rfl rfl ?_
  refine rn_iconst (x := (nI 1)) rfl (by decide) ?_
  refine rn_iadd rfl ?_
  refine rn_aI rfl hb (fun x4 hb => ?_)
  refine rn_aload_n (i := 0) rfl rfl ?_
  refine rn_iload (i := 4) rfl rfl ?_
  refine rn_iconst (x := (nI 2)) rfl (by decide) ?_
  refine rn_iadd rfl ?_
  refine rn_aI rfl hb (fun x5 hb => ?_)
  obtain ⟨hrc, hb⟩ := grd_spec hb
  obtain ⟨p6, hc, hb⟩ := Option.bind_eq_some_iff.mp hb
  refine Rn.call1 (d := (e + 7)) (As := [va_rf v2, .int x4, .int x5]) (rest := [.int p3.1]) rfl rfl rfl (by decide) rfl rfl rfl (bd_rcV hrc rfl) (by rw [bd_cI (bd_cN)]; decide) (bd_lenC (n := 3) rfl (bd_slR (bd_slI (bd_slI bd_slN))) rfl) (bd_locC (n := 3) rfl (bd_slR (bd_slI (bd_slI bd_slN))) rfl (t_251 (e + 7) (by omega) v2 x4 x5 p3.2 _ hc)) ?_
  refine rn_icmp_eq rfl rfl (fun hc => ?_) (fun hc => ?_)
  · exact u_308_1317 (e + 8) hd k23 K23 v0 v1 v2 v3 v4 v5 v6  p6.2 _ (if_t hb hc)
  · exact u_308_936 (e + 8) hd v0 v1 v2 v3 v4 v5 v6  p6.2 _ (if_f hb hc)
def b_308_973   (h : Hp) : Option (Int32 × Hp) :=
  (grd (decide ((nI 0) = 0 ∨ (nI 0) = 1))).bind fun _ => some ((nI 0), h)
set_option maxRecDepth 100000 in
theorem u_308_973 (d : Nat) (hd : 264 ≤ d) (v0 : Option Nat) (v1 : Option Nat) (v2 : Option Nat) (v3 : Option Nat) (v4 : Int32) (v5 : Option (Int32)) (v6 : Option (Int32))  (h : Hp) (r : Int32 × Hp) (hb : b_308_973   h = some r) : Rn d 308 973 [some (va_rf v0), some (va_rf v1), some (va_rf v2), some (va_rf v3), some (.int v4), v5.map Value.int, v6.map Value.int] [] h (some (.int r.1), r.2) := by
  unfold b_308_973 at hb
  refine rn_iconst (x := (nI 0)) rfl (by decide) ?_
  obtain ⟨hz, hb⟩ := grd_spec hb
  obtain rfl := Option.some.inj hb
  exact rn_zret rfl rfl (of_decide_eq_true hz)
def b_308_938 (k23 : Option Nat → Option Nat → Option Nat → Option Nat → Int32 → Hp → Option (Int32 × Hp)) (v0 : Option Nat) (v1 : Option Nat) (v2 : Option Nat) (v3 : Option Nat) (v4 : Int32)  (h : Hp) : Option (Int32 × Hp) :=
  (aI 12 v0 (v4 + (nI 1)) h).bind fun x1 =>
  (aI 12 v0 (v4 + (nI 2)) h).bind fun x2 =>
  (grd (rC 10 v1 h)).bind fun _ =>
  (f_153 v1 x1 x2 h).bind fun p3 =>
  (aI 12 v0 (v4 + (nI 1)) p3.2).bind fun x4 =>
  (aI 12 v0 (v4 + (nI 2)) p3.2).bind fun x5 =>
  (grd (rC 11 v2 p3.2)).bind fun _ =>
  (f_262 v2 x4 x5 p3.2).bind fun p6 =>
  if p3.1 = p6.1 then b_308_1317 k23 v0 v1 v2 v3 v4  p6.2 else b_308_973   p6.2
set_option maxRecDepth 100000 in
theorem u_308_938 (d : Nat) (hd : 264 ≤ d) (k23 : Option Nat → Option Nat → Option Nat → Option Nat → Int32 → Hp → Option (Int32 × Hp)) (K23 : ∀ (v0 : Option Nat) (v1 : Option Nat) (v2 : Option Nat) (v3 : Option Nat) (v4 : Int32) (v5 : Option (Int32)) (v6 : Option (Int32)) (h : Hp) (r : Int32 × Hp), k23 v0 v1 v2 v3 v4 h = some r → Rn d 308 23 [some (va_rf v0), some (va_rf v1), some (va_rf v2), some (va_rf v3), some (.int v4), v5.map Value.int, v6.map Value.int] [] h (some (.int r.1), r.2)) (v0 : Option Nat) (v1 : Option Nat) (v2 : Option Nat) (v3 : Option Nat) (v4 : Int32) (v5 : Option (Int32)) (v6 : Option (Int32))  (h : Hp) (r : Int32 × Hp) (hb : b_308_938 k23 v0 v1 v2 v3 v4  h = some r) : Rn d 308 938 [some (va_rf v0), some (va_rf v1), some (va_rf v2), some (va_rf v3), some (.int v4), v5.map Value.int, v6.map Value.int] [] h (some (.int r.1), r.2) := by
  unfold b_308_938 at hb
  obtain ⟨e, rfl⟩ : ∃ e, d = e + 8 := ⟨d - 8, by omega⟩
  refine rn_aload_n (i := 1) rfl rfl ?_
  refine rn_aload_n (i := 0) rfl rfl ?_
  refine rn_iload (i := 4) rfl rfl ?_
  refine rn_iconst (x := (nI 1)) rfl (by decide) ?_
  refine rn_iadd rfl ?_
  refine rn_aI rfl hb (fun x1 hb => ?_)
  refine rn_aload_n (i := 0) rfl rfl ?_
  refine rn_iload (i := 4) rfl rfl ?_
  refine rn_iconst (x := (nI 2)) rfl (by decide) ?_
  refine rn_iadd rfl ?_
  refine rn_aI rfl hb (fun x2 hb => ?_)
  obtain ⟨hrc, hb⟩ := grd_spec hb
  obtain ⟨p3, hc, hb⟩ := Option.bind_eq_some_iff.mp hb
  refine Rn.call1 (d := (e + 7)) (As := [va_rf v1, .int x1, .int x2]) (rest := []) rfl rfl rfl (by decide) rfl rfl rfl (bd_rcV hrc rfl) (by decide) (bd_lenC (n := 3) rfl (bd_slR (bd_slI (bd_slI bd_slN))) rfl) (bd_locC (n := 3) rfl (bd_slR (bd_slI (bd_slI bd_slN))) rfl (t_153 (e + 7) (by omega) v1 x1 x2 h _ hc)) ?_
  refine rn_aload_n (i := 2) rfl rfl ?_
  refine rn_aload_n (i := 0) rfl rfl ?_
  refine rn_iload (i := 4) rfl rfl ?_
  refine rn_iconst (x := (nI 1)) rfl (by decide) ?_
  refine rn_iadd rfl ?_
  refine rn_aI rfl hb (fun x4 hb => ?_)
  refine rn_aload_n (i := 0) rfl rfl ?_
  refine rn_iload (i := 4) rfl rfl ?_
  refine rn_iconst (x := (nI 2)) rfl (by decide) ?_
  refine rn_iadd rfl ?_
  refine rn_aI rfl hb (fun x5 hb => ?_)
  obtain ⟨hrc, hb⟩ := grd_spec hb
  obtain ⟨p6, hc, hb⟩ := Option.bind_eq_some_iff.mp hb
  refine Rn.call1 (d := (e + 7)) (As := [va_rf v2, .int x4, .int x5]) (rest := [.int p3.1]) rfl rfl rfl (by decide) rfl rfl rfl (bd_rcV hrc rfl) (by rw [bd_cI (bd_cN)]; decide) (bd_lenC (n := 3) rfl (bd_slR (bd_slI (bd_slI bd_slN))) rfl) (bd_locC (n := 3) rfl (bd_slR (bd_slI (bd_slI bd_slN))) rfl (t_262 (e + 7) (by omega) v2 x4 x5 p3.2 _ hc)) ?_
  refine rn_icmp_eq rfl rfl (fun hc => ?_) (fun hc => ?_)
  · exact u_308_1317 (e + 8) hd k23 K23 v0 v1 v2 v3 v4 v5 v6  p6.2 _ (if_t hb hc)
  · exact u_308_973 (e + 8) hd v0 v1 v2 v3 v4 v5 v6  p6.2 _ (if_f hb hc)
def b_308_986   (h : Hp) : Option (Int32 × Hp) :=
  (grd (decide ((nI 0) = 0 ∨ (nI 0) = 1))).bind fun _ => some ((nI 0), h)
set_option maxRecDepth 100000 in
theorem u_308_986 (d : Nat) (hd : 264 ≤ d) (v0 : Option Nat) (v1 : Option Nat) (v2 : Option Nat) (v3 : Option Nat) (v4 : Int32) (v5 : Option (Int32)) (v6 : Option (Int32))  (h : Hp) (r : Int32 × Hp) (hb : b_308_986   h = some r) : Rn d 308 986 [some (va_rf v0), some (va_rf v1), some (va_rf v2), some (va_rf v3), some (.int v4), v5.map Value.int, v6.map Value.int] [] h (some (.int r.1), r.2) := by
  unfold b_308_986 at hb
  refine rn_iconst (x := (nI 0)) rfl (by decide) ?_
  obtain ⟨hz, hb⟩ := grd_spec hb
  obtain rfl := Option.some.inj hb
  exact rn_zret rfl rfl (of_decide_eq_true hz)
def b_308_975 (k23 : Option Nat → Option Nat → Option Nat → Option Nat → Int32 → Hp → Option (Int32 × Hp)) (v0 : Option Nat) (v1 : Option Nat) (v2 : Option Nat) (v3 : Option Nat) (v4 : Int32)  (h : Hp) : Option (Int32 × Hp) :=
  (grd (rC 10 v1 h)).bind fun _ =>
  (f_154 v1 h).bind fun p1 =>
  (grd (rC 11 v2 p1.2)).bind fun _ =>
  (f_263 v2 p1.2).bind fun p2 =>
  if p1.1 = p2.1 then b_308_1317 k23 v0 v1 v2 v3 v4  p2.2 else b_308_986   p2.2
set_option maxRecDepth 100000 in
theorem u_308_975 (d : Nat) (hd : 264 ≤ d) (k23 : Option Nat → Option Nat → Option Nat → Option Nat → Int32 → Hp → Option (Int32 × Hp)) (K23 : ∀ (v0 : Option Nat) (v1 : Option Nat) (v2 : Option Nat) (v3 : Option Nat) (v4 : Int32) (v5 : Option (Int32)) (v6 : Option (Int32)) (h : Hp) (r : Int32 × Hp), k23 v0 v1 v2 v3 v4 h = some r → Rn d 308 23 [some (va_rf v0), some (va_rf v1), some (va_rf v2), some (va_rf v3), some (.int v4), v5.map Value.int, v6.map Value.int] [] h (some (.int r.1), r.2)) (v0 : Option Nat) (v1 : Option Nat) (v2 : Option Nat) (v3 : Option Nat) (v4 : Int32) (v5 : Option (Int32)) (v6 : Option (Int32))  (h : Hp) (r : Int32 × Hp) (hb : b_308_975 k23 v0 v1 v2 v3 v4  h = some r) : Rn d 308 975 [some (va_rf v0), some (va_rf v1), some (va_rf v2), some (va_rf v3), some (.int v4), v5.map Value.int, v6.map Value.int] [] h (some (.int r.1), r.2) := by
  unfold b_308_975 at hb
  obtain ⟨e, rfl⟩ : ∃ e, d = e + 8 := ⟨d - 8, by omega⟩
  refine rn_aload_n (i := 1) rfl rfl ?_
  obtain ⟨hrc, hb⟩ := grd_spec hb
  obtain ⟨p1, hc, hb⟩ := Option.bind_eq_some_iff.mp hb
  refine Rn.call1 (d := (e + 7)) (As := [va_rf v1]) (rest := []) rfl rfl rfl (by decide) rfl rfl rfl (bd_rcV hrc rfl) (by decide) (bd_lenC (n := 1) rfl (bd_slR bd_slN) rfl) (bd_locC (n := 1) rfl (bd_slR bd_slN) rfl (t_154 (e + 7) (by omega) v1 h _ hc)) ?_
  refine rn_aload_n (i := 2) rfl rfl ?_
  obtain ⟨hrc, hb⟩ := grd_spec hb
  obtain ⟨p2, hc, hb⟩ := Option.bind_eq_some_iff.mp hb
  refine Rn.call1 (d := (e + 7)) (As := [va_rf v2]) (rest := [.int p1.1]) rfl rfl rfl (by decide) rfl rfl rfl (bd_rcV hrc rfl) (by rw [bd_cI (bd_cN)]; decide) (bd_lenC (n := 1) rfl (bd_slR bd_slN) rfl) (bd_locC (n := 1) rfl (bd_slR bd_slN) rfl (t_263 (e + 7) (by omega) v2 p1.2 _ hc)) ?_
  refine rn_icmp_eq rfl rfl (fun hc => ?_) (fun hc => ?_)
  · exact u_308_1317 (e + 8) hd k23 K23 v0 v1 v2 v3 v4 v5 v6  p2.2 _ (if_t hb hc)
  · exact u_308_986 (e + 8) hd v0 v1 v2 v3 v4 v5 v6  p2.2 _ (if_f hb hc)
def b_308_1011   (h : Hp) : Option (Int32 × Hp) :=
  (grd (decide ((nI 0) = 0 ∨ (nI 0) = 1))).bind fun _ => some ((nI 0), h)
set_option maxRecDepth 100000 in
theorem u_308_1011 (d : Nat) (hd : 264 ≤ d) (v0 : Option Nat) (v1 : Option Nat) (v2 : Option Nat) (v3 : Option Nat) (v4 : Int32) (v5 : Option (Int32)) (v6 : Option (Int32))  (h : Hp) (r : Int32 × Hp) (hb : b_308_1011   h = some r) : Rn d 308 1011 [some (va_rf v0), some (va_rf v1), some (va_rf v2), some (va_rf v3), some (.int v4), v5.map Value.int, v6.map Value.int] [] h (some (.int r.1), r.2) := by
  unfold b_308_1011 at hb
  refine rn_iconst (x := (nI 0)) rfl (by decide) ?_
  obtain ⟨hz, hb⟩ := grd_spec hb
  obtain rfl := Option.some.inj hb
  exact rn_zret rfl rfl (of_decide_eq_true hz)
def b_308_988 (k23 : Option Nat → Option Nat → Option Nat → Option Nat → Int32 → Hp → Option (Int32 × Hp)) (v0 : Option Nat) (v1 : Option Nat) (v2 : Option Nat) (v3 : Option Nat) (v4 : Int32)  (h : Hp) : Option (Int32 × Hp) :=
  (aI 12 v0 (v4 + (nI 1)) h).bind fun x1 =>
  (grd (rC 10 v1 h)).bind fun _ =>
  (f_155 v1 x1 h).bind fun p2 =>
  (aI 12 v0 (v4 + (nI 1)) p2.2).bind fun x3 =>
  (grd (rC 11 v2 p2.2)).bind fun _ =>
  (f_265 v2 x3 p2.2).bind fun p4 =>
  if p2.1 = p4.1 then b_308_1317 k23 v0 v1 v2 v3 v4  p4.2 else b_308_1011   p4.2
set_option maxRecDepth 100000 in
theorem u_308_988 (d : Nat) (hd : 264 ≤ d) (k23 : Option Nat → Option Nat → Option Nat → Option Nat → Int32 → Hp → Option (Int32 × Hp)) (K23 : ∀ (v0 : Option Nat) (v1 : Option Nat) (v2 : Option Nat) (v3 : Option Nat) (v4 : Int32) (v5 : Option (Int32)) (v6 : Option (Int32)) (h : Hp) (r : Int32 × Hp), k23 v0 v1 v2 v3 v4 h = some r → Rn d 308 23 [some (va_rf v0), some (va_rf v1), some (va_rf v2), some (va_rf v3), some (.int v4), v5.map Value.int, v6.map Value.int] [] h (some (.int r.1), r.2)) (v0 : Option Nat) (v1 : Option Nat) (v2 : Option Nat) (v3 : Option Nat) (v4 : Int32) (v5 : Option (Int32)) (v6 : Option (Int32))  (h : Hp) (r : Int32 × Hp) (hb : b_308_988 k23 v0 v1 v2 v3 v4  h = some r) : Rn d 308 988 [some (va_rf v0), some (va_rf v1), some (va_rf v2), some (va_rf v3), some (.int v4), v5.map Value.int, v6.map Value.int] [] h (some (.int r.1), r.2) := by
  unfold b_308_988 at hb
  obtain ⟨e, rfl⟩ : ∃ e, d = e + 8 := ⟨d - 8, by omega⟩
  refine rn_aload_n (i := 1) rfl rfl ?_
  refine rn_aload_n (i := 0) rfl rfl ?_
  refine rn_iload (i := 4) rfl rfl ?_
  refine rn_iconst (x := (nI 1)) rfl (by decide) ?_
  refine rn_iadd rfl ?_
  refine rn_aI rfl hb (fun x1 hb => ?_)
  obtain ⟨hrc, hb⟩ := grd_spec hb
  obtain ⟨p2, hc, hb⟩ := Option.bind_eq_some_iff.mp hb
  refine Rn.call1 (d := (e + 7)) (As := [va_rf v1, .int x1]) (rest := []) rfl rfl rfl (by decide) rfl rfl rfl (bd_rcV hrc rfl) (by decide) (bd_lenC (n := 3) rfl (bd_slR (bd_slI bd_slN)) rfl) (bd_locC (n := 3) rfl (bd_slR (bd_slI bd_slN)) rfl (t_155 (e + 7) (by omega) v1 x1 h _ hc)) ?_
  refine rn_aload_n (i := 2) rfl rfl ?_
  refine rn_aload_n (i := 0) rfl rfl ?_
  refine rn_iload (i := 4) rfl rfl ?_
  refine rn_iconst (x := (nI 1)) rfl (by decide) ?_
  refine rn_iadd rfl ?_
  refine rn_aI rfl hb (fun x3 hb => ?_)
  obtain ⟨hrc, hb⟩ := grd_spec hb
  obtain ⟨p4, hc, hb⟩ := Option.bind_eq_some_iff.mp hb
  refine Rn.call1 (d := (e + 7)) (As := [va_rf v2, .int x3]) (rest := [.int p2.1]) rfl rfl rfl (by decide) rfl rfl rfl (bd_rcV hrc rfl) (by rw [bd_cI (bd_cN)]; decide) (bd_lenC (n := 3) rfl (bd_slR (bd_slI bd_slN)) rfl) (bd_locC (n := 3) rfl (bd_slR (bd_slI bd_slN)) rfl (t_265 (e + 7) (by omega) v2 x3 p2.2 _ hc)) ?_
  refine rn_icmp_eq rfl rfl (fun hc => ?_) (fun hc => ?_)
  · exact u_308_1317 (e + 8) hd k23 K23 v0 v1 v2 v3 v4 v5 v6  p4.2 _ (if_t hb hc)
  · exact u_308_1011 (e + 8) hd v0 v1 v2 v3 v4 v5 v6  p4.2 _ (if_f hb hc)
def b_308_1024   (h : Hp) : Option (Int32 × Hp) :=
  (grd (decide ((nI 0) = 0 ∨ (nI 0) = 1))).bind fun _ => some ((nI 0), h)
set_option maxRecDepth 100000 in
theorem u_308_1024 (d : Nat) (hd : 264 ≤ d) (v0 : Option Nat) (v1 : Option Nat) (v2 : Option Nat) (v3 : Option Nat) (v4 : Int32) (v5 : Option (Int32)) (v6 : Option (Int32))  (h : Hp) (r : Int32 × Hp) (hb : b_308_1024   h = some r) : Rn d 308 1024 [some (va_rf v0), some (va_rf v1), some (va_rf v2), some (va_rf v3), some (.int v4), v5.map Value.int, v6.map Value.int] [] h (some (.int r.1), r.2) := by
  unfold b_308_1024 at hb
  refine rn_iconst (x := (nI 0)) rfl (by decide) ?_
  obtain ⟨hz, hb⟩ := grd_spec hb
  obtain rfl := Option.some.inj hb
  exact rn_zret rfl rfl (of_decide_eq_true hz)
def b_308_1013 (k23 : Option Nat → Option Nat → Option Nat → Option Nat → Int32 → Hp → Option (Int32 × Hp)) (v0 : Option Nat) (v1 : Option Nat) (v2 : Option Nat) (v3 : Option Nat) (v4 : Int32)  (h : Hp) : Option (Int32 × Hp) :=
  (grd (rC 10 v1 h)).bind fun _ =>
  (f_156 v1 h).bind fun p1 =>
  (grd (rC 11 v2 p1.2)).bind fun _ =>
  (f_266 v2 p1.2).bind fun p2 =>
  if p1.1 = p2.1 then b_308_1317 k23 v0 v1 v2 v3 v4  p2.2 else b_308_1024   p2.2
set_option maxRecDepth 100000 in
theorem u_308_1013 (d : Nat) (hd : 264 ≤ d) (k23 : Option Nat → Option Nat → Option Nat → Option Nat → Int32 → Hp → Option (Int32 × Hp)) (K23 : ∀ (v0 : Option Nat) (v1 : Option Nat) (v2 : Option Nat) (v3 : Option Nat) (v4 : Int32) (v5 : Option (Int32)) (v6 : Option (Int32)) (h : Hp) (r : Int32 × Hp), k23 v0 v1 v2 v3 v4 h = some r → Rn d 308 23 [some (va_rf v0), some (va_rf v1), some (va_rf v2), some (va_rf v3), some (.int v4), v5.map Value.int, v6.map Value.int] [] h (some (.int r.1), r.2)) (v0 : Option Nat) (v1 : Option Nat) (v2 : Option Nat) (v3 : Option Nat) (v4 : Int32) (v5 : Option (Int32)) (v6 : Option (Int32))  (h : Hp) (r : Int32 × Hp) (hb : b_308_1013 k23 v0 v1 v2 v3 v4  h = some r) : Rn d 308 1013 [some (va_rf v0), some (va_rf v1), some (va_rf v2), some (va_rf v3), some (.int v4), v5.map Value.int, v6.map Value.int] [] h (some (.int r.1), r.2) := by
  unfold b_308_1013 at hb
  obtain ⟨e, rfl⟩ : ∃ e, d = e + 8 := ⟨d - 8, by omega⟩
  refine rn_aload_n (i := 1) rfl rfl ?_
  obtain ⟨hrc, hb⟩ := grd_spec hb
  obtain ⟨p1, hc, hb⟩ := Option.bind_eq_some_iff.mp hb
  refine Rn.call1 (d := (e + 7)) (As := [va_rf v1]) (rest := []) rfl rfl rfl (by decide) rfl rfl rfl (bd_rcV hrc rfl) (by decide) (bd_lenC (n := 1) rfl (bd_slR bd_slN) rfl) (bd_locC (n := 1) rfl (bd_slR bd_slN) rfl (t_156 (e + 7) (by omega) v1 h _ hc)) ?_
  refine rn_aload_n (i := 2) rfl rfl ?_
  obtain ⟨hrc, hb⟩ := grd_spec hb
  obtain ⟨p2, hc, hb⟩ := Option.bind_eq_some_iff.mp hb
  refine Rn.call1 (d := (e + 7)) (As := [va_rf v2]) (rest := [.int p1.1]) rfl rfl rfl (by decide) rfl rfl rfl (bd_rcV hrc rfl) (by rw [bd_cI (bd_cN)]; decide) (bd_lenC (n := 1) rfl (bd_slR bd_slN) rfl) (bd_locC (n := 1) rfl (bd_slR bd_slN) rfl (t_266 (e + 7) (by omega) v2 p1.2 _ hc)) ?_
  refine rn_icmp_eq rfl rfl (fun hc => ?_) (fun hc => ?_)
  · exact u_308_1317 (e + 8) hd k23 K23 v0 v1 v2 v3 v4 v5 v6  p2.2 _ (if_t hb hc)
  · exact u_308_1024 (e + 8) hd v0 v1 v2 v3 v4 v5 v6  p2.2 _ (if_f hb hc)
def b_308_1037   (h : Hp) : Option (Int32 × Hp) :=
  (grd (decide ((nI 0) = 0 ∨ (nI 0) = 1))).bind fun _ => some ((nI 0), h)
set_option maxRecDepth 100000 in
theorem u_308_1037 (d : Nat) (hd : 264 ≤ d) (v0 : Option Nat) (v1 : Option Nat) (v2 : Option Nat) (v3 : Option Nat) (v4 : Int32) (v5 : Option (Int32)) (v6 : Option (Int32))  (h : Hp) (r : Int32 × Hp) (hb : b_308_1037   h = some r) : Rn d 308 1037 [some (va_rf v0), some (va_rf v1), some (va_rf v2), some (va_rf v3), some (.int v4), v5.map Value.int, v6.map Value.int] [] h (some (.int r.1), r.2) := by
  unfold b_308_1037 at hb
  refine rn_iconst (x := (nI 0)) rfl (by decide) ?_
  obtain ⟨hz, hb⟩ := grd_spec hb
  obtain rfl := Option.some.inj hb
  exact rn_zret rfl rfl (of_decide_eq_true hz)
def b_308_1026 (k23 : Option Nat → Option Nat → Option Nat → Option Nat → Int32 → Hp → Option (Int32 × Hp)) (v0 : Option Nat) (v1 : Option Nat) (v2 : Option Nat) (v3 : Option Nat) (v4 : Int32)  (h : Hp) : Option (Int32 × Hp) :=
  (grd (rC 10 v1 h)).bind fun _ =>
  (f_157 v1 h).bind fun p1 =>
  (grd (rC 11 v2 p1.2)).bind fun _ =>
  (f_268 v2 p1.2).bind fun p2 =>
  if p1.1 = p2.1 then b_308_1317 k23 v0 v1 v2 v3 v4  p2.2 else b_308_1037   p2.2
set_option maxRecDepth 100000 in
theorem u_308_1026 (d : Nat) (hd : 264 ≤ d) (k23 : Option Nat → Option Nat → Option Nat → Option Nat → Int32 → Hp → Option (Int32 × Hp)) (K23 : ∀ (v0 : Option Nat) (v1 : Option Nat) (v2 : Option Nat) (v3 : Option Nat) (v4 : Int32) (v5 : Option (Int32)) (v6 : Option (Int32)) (h : Hp) (r : Int32 × Hp), k23 v0 v1 v2 v3 v4 h = some r → Rn d 308 23 [some (va_rf v0), some (va_rf v1), some (va_rf v2), some (va_rf v3), some (.int v4), v5.map Value.int, v6.map Value.int] [] h (some (.int r.1), r.2)) (v0 : Option Nat) (v1 : Option Nat) (v2 : Option Nat) (v3 : Option Nat) (v4 : Int32) (v5 : Option (Int32)) (v6 : Option (Int32))  (h : Hp) (r : Int32 × Hp) (hb : b_308_1026 k23 v0 v1 v2 v3 v4  h = some r) : Rn d 308 1026 [some (va_rf v0), some (va_rf v1), some (va_rf v2), some (va_rf v3), some (.int v4), v5.map Value.int, v6.map Value.int] [] h (some (.int r.1), r.2) := by
  unfold b_308_1026 at hb
  obtain ⟨e, rfl⟩ : ∃ e, d = e + 8 := ⟨d - 8, by omega⟩
  refine rn_aload_n (i := 1) rfl rfl ?_
  obtain ⟨hrc, hb⟩ := grd_spec hb
  obtain ⟨p1, hc, hb⟩ := Option.bind_eq_some_iff.mp hb
  refine Rn.call1 (d := (e + 7)) (As := [va_rf v1]) (rest := []) rfl rfl rfl (by decide) rfl rfl rfl (bd_rcV hrc rfl) (by decide) (bd_lenC (n := 2) rfl (bd_slR bd_slN) rfl) (bd_locC (n := 2) rfl (bd_slR bd_slN) rfl (t_157 (e + 7) (by omega) v1 h _ hc)) ?_
  refine rn_aload_n (i := 2) rfl rfl ?_
  obtain ⟨hrc, hb⟩ := grd_spec hb
  obtain ⟨p2, hc, hb⟩ := Option.bind_eq_some_iff.mp hb
  refine Rn.call1 (d := (e + 7)) (As := [va_rf v2]) (rest := [.int p1.1]) rfl rfl rfl (by decide) rfl rfl rfl (bd_rcV hrc rfl) (by rw [bd_cI (bd_cN)]; decide) (bd_lenC (n := 2) rfl (bd_slR bd_slN) rfl) (bd_locC (n := 2) rfl (bd_slR bd_slN) rfl (t_268 (e + 7) (by omega) v2 p1.2 _ hc)) ?_
  refine rn_icmp_eq rfl rfl (fun hc => ?_) (fun hc => ?_)
  · exact u_308_1317 (e + 8) hd k23 K23 v0 v1 v2 v3 v4 v5 v6  p2.2 _ (if_t hb hc)
  · exact u_308_1037 (e + 8) hd v0 v1 v2 v3 v4 v5 v6  p2.2 _ (if_f hb hc)
def b_308_1050   (h : Hp) : Option (Int32 × Hp) :=
  (grd (decide ((nI 0) = 0 ∨ (nI 0) = 1))).bind fun _ => some ((nI 0), h)
set_option maxRecDepth 100000 in
theorem u_308_1050 (d : Nat) (hd : 264 ≤ d) (v0 : Option Nat) (v1 : Option Nat) (v2 : Option Nat) (v3 : Option Nat) (v4 : Int32) (v5 : Option (Int32)) (v6 : Option (Int32))  (h : Hp) (r : Int32 × Hp) (hb : b_308_1050   h = some r) : Rn d 308 1050 [some (va_rf v0), some (va_rf v1), some (va_rf v2), some (va_rf v3), some (.int v4), v5.map Value.int, v6.map Value.int] [] h (some (.int r.1), r.2) := by
  unfold b_308_1050 at hb
  refine rn_iconst (x := (nI 0)) rfl (by decide) ?_
  obtain ⟨hz, hb⟩ := grd_spec hb
  obtain rfl := Option.some.inj hb
  exact rn_zret rfl rfl (of_decide_eq_true hz)
def b_308_1039 (k23 : Option Nat → Option Nat → Option Nat → Option Nat → Int32 → Hp → Option (Int32 × Hp)) (v0 : Option Nat) (v1 : Option Nat) (v2 : Option Nat) (v3 : Option Nat) (v4 : Int32)  (h : Hp) : Option (Int32 × Hp) :=
  (grd (rC 10 v1 h)).bind fun _ =>
  (f_158 v1 h).bind fun p1 =>
  (grd (rC 11 v2 p1.2)).bind fun _ =>
  (f_272 v2 p1.2).bind fun p2 =>
  if p1.1 = p2.1 then b_308_1317 k23 v0 v1 v2 v3 v4  p2.2 else b_308_1050   p2.2
set_option maxRecDepth 100000 in
theorem u_308_1039 (d : Nat) (hd : 264 ≤ d) (k23 : Option Nat → Option Nat → Option Nat → Option Nat → Int32 → Hp → Option (Int32 × Hp)) (K23 : ∀ (v0 : Option Nat) (v1 : Option Nat) (v2 : Option Nat) (v3 : Option Nat) (v4 : Int32) (v5 : Option (Int32)) (v6 : Option (Int32)) (h : Hp) (r : Int32 × Hp), k23 v0 v1 v2 v3 v4 h = some r → Rn d 308 23 [some (va_rf v0), some (va_rf v1), some (va_rf v2), some (va_rf v3), some (.int v4), v5.map Value.int, v6.map Value.int] [] h (some (.int r.1), r.2)) (v0 : Option Nat) (v1 : Option Nat) (v2 : Option Nat) (v3 : Option Nat) (v4 : Int32) (v5 : Option (Int32)) (v6 : Option (Int32))  (h : Hp) (r : Int32 × Hp) (hb : b_308_1039 k23 v0 v1 v2 v3 v4  h = some r) : Rn d 308 1039 [some (va_rf v0), some (va_rf v1), some (va_rf v2), some (va_rf v3), some (.int v4), v5.map Value.int, v6.map Value.int] [] h (some (.int r.1), r.2) := by
  unfold b_308_1039 at hb
  obtain ⟨e, rfl⟩ : ∃ e, d = e + 8 := ⟨d - 8, by omega⟩
  refine rn_aload_n (i := 1) rfl rfl ?_
  obtain ⟨hrc, hb⟩ := grd_spec hb
  obtain ⟨p1, hc, hb⟩ := Option.bind_eq_some_iff.mp hb
  refine Rn.call1 (d := (e + 7)) (As := [va_rf v1]) (rest := []) rfl rfl rfl (by decide) rfl rfl rfl (bd_rcV hrc rfl) (by decide) (bd_lenC (n := 1) rfl (bd_slR bd_slN) rfl) (bd_locC (n := 1) rfl (bd_slR bd_slN) rfl (t_158 (e + 7) (by omega) v1 h _ hc)) ?_
  refine rn_aload_n (i := 2) rfl rfl ?_
  obtain ⟨hrc, hb⟩ := grd_spec hb
  obtain ⟨p2, hc, hb⟩ := Option.bind_eq_some_iff.mp hb
  refine Rn.call1 (d := (e + 7)) (As := [va_rf v2]) (rest := [.int p1.1]) rfl rfl rfl (by decide) rfl rfl rfl (bd_rcV hrc rfl) (by rw [bd_cI (bd_cN)]; decide) (bd_lenC (n := 1) rfl (bd_slR bd_slN) rfl) (bd_locC (n := 1) rfl (bd_slR bd_slN) rfl (t_272 (e + 7) (by omega) v2 p1.2 _ hc)) ?_
  refine rn_icmp_eq rfl rfl (fun hc => ?_) (fun hc => ?_)
  · exact u_308_1317 (e + 8) hd k23 K23 v0 v1 v2 v3 v4 v5 v6  p2.2 _ (if_t hb hc)
  · exact u_308_1050 (e + 8) hd v0 v1 v2 v3 v4 v5 v6  p2.2 _ (if_f hb hc)
def b_308_1075   (h : Hp) : Option (Int32 × Hp) :=
  (grd (decide ((nI 0) = 0 ∨ (nI 0) = 1))).bind fun _ => some ((nI 0), h)
set_option maxRecDepth 100000 in
theorem u_308_1075 (d : Nat) (hd : 264 ≤ d) (v0 : Option Nat) (v1 : Option Nat) (v2 : Option Nat) (v3 : Option Nat) (v4 : Int32) (v5 : Option (Int32)) (v6 : Option (Int32))  (h : Hp) (r : Int32 × Hp) (hb : b_308_1075   h = some r) : Rn d 308 1075 [some (va_rf v0), some (va_rf v1), some (va_rf v2), some (va_rf v3), some (.int v4), v5.map Value.int, v6.map Value.int] [] h (some (.int r.1), r.2) := by
  unfold b_308_1075 at hb
  refine rn_iconst (x := (nI 0)) rfl (by decide) ?_
  obtain ⟨hz, hb⟩ := grd_spec hb
  obtain rfl := Option.some.inj hb
  exact rn_zret rfl rfl (of_decide_eq_true hz)
def b_308_1052 (k23 : Option Nat → Option Nat → Option Nat → Option Nat → Int32 → Hp → Option (Int32 × Hp)) (v0 : Option Nat) (v1 : Option Nat) (v2 : Option Nat) (v3 : Option Nat) (v4 : Int32)  (h : Hp) : Option (Int32 × Hp) :=
  (aI 12 v0 (v4 + (nI 1)) h).bind fun x1 =>
  (grd (rC 10 v1 h)).bind fun _ =>
  (f_159 v1 x1 h).bind fun p2 =>
  (aI 12 v0 (v4 + (nI 1)) p2.2).bind fun x3 =>
  (grd (rC 11 v2 p2.2)).bind fun _ =>
  (f_273 v2 x3 p2.2).bind fun p4 =>
  if p2.1 = p4.1 then b_308_1317 k23 v0 v1 v2 v3 v4  p4.2 else b_308_1075   p4.2
set_option maxRecDepth 100000 in
theorem u_308_1052 (d : Nat) (hd : 264 ≤ d) (k23 : Option Nat → Option Nat → Option Nat → Option Nat → Int32 → Hp → Option (Int32 × Hp)) (K23 : ∀ (v0 : Option Nat) (v1 : Option Nat) (v2 : Option Nat) (v3 : Option Nat) (v4 : Int32) (v5 : Option (Int32)) (v6 : Option (Int32)) (h : Hp) (r : Int32 × Hp), k23 v0 v1 v2 v3 v4 h = some r → Rn d 308 23 [some (va_rf v0), some (va_rf v1), some (va_rf v2), some (va_rf v3), some (.int v4), v5.map Value.int, v6.map Value.int] [] h (some (.int r.1), r.2)) (v0 : Option Nat) (v1 : Option Nat) (v2 : Option Nat) (v3 : Option Nat) (v4 : Int32) (v5 : Option (Int32)) (v6 : Option (Int32))  (h : Hp) (r : Int32 × Hp) (hb : b_308_1052 k23 v0 v1 v2 v3 v4  h = some r) : Rn d 308 1052 [some (va_rf v0), some (va_rf v1), some (va_rf v2), some (va_rf v3), some (.int v4), v5.map Value.int, v6.map Value.int] [] h (some (.int r.1), r.2) := by
  unfold b_308_1052 at hb
  obtain ⟨e, rfl⟩ : ∃ e, d = e + 8 := ⟨d - 8, by omega⟩
  refine rn_aload_n (i := 1) rfl rfl ?_
  refine rn_aload_n (i := 0) rfl rfl ?_
  refine rn_iload (i := 4) rfl rfl ?_
  refine rn_iconst (x := (nI 1)) rfl (by decide) ?_
  refine rn_iadd rfl ?_
  refine rn_aI rfl hb (fun x1 hb => ?_)
  obtain ⟨hrc, hb⟩ := grd_spec hb
  obtain ⟨p2, hc, hb⟩ := Option.bind_eq_some_iff.mp hb
  refine Rn.call1 (d := (e + 7)) (As := [va_rf v1, .int x1]) (rest := []) rfl rfl rfl (by decide) rfl rfl rfl (bd_rcV hrc rfl) (by decide) (bd_lenC (n := 2) rfl (bd_slR (bd_slI bd_slN)) rfl) (bd_locC (n := 2) rfl (bd_slR (bd_slI bd_slN)) rfl (t_159 (e + 7) (by omega) v1 x1 h _ hc)) ?_
  refine rn_aload_n (i := 2) rfl rfl ?_
  refine rn_aload_n (i := 0) rfl rfl ?_
  refine rn_iload (i := 4) rfl rfl ?_
  refine rn_iconst (x := (nI 1)) rfl (by decide) ?_
  refine rn_iadd rfl ?_
  refine rn_aI rfl hb (fun x3 hb => ?_)
  obtain ⟨hrc, hb⟩ := grd_spec hb
  obtain ⟨p4, hc, hb⟩ := Option.bind_eq_some_iff.mp hb
  refine Rn.call1 (d := (e + 7)) (As := [va_rf v2, .int x3]) (rest := [.int p2.1]) rfl rfl rfl (by decide) rfl rfl rfl (bd_rcV hrc rfl) (by rw [bd_cI (bd_cN)]; decide) (bd_lenC (n := 2) rfl (bd_slR (bd_slI bd_slN)) rfl) (bd_locC (n := 2) rfl (bd_slR (bd_slI bd_slN)) rfl (t_273 (e + 7) (by omega) v2 x3 p2.2 _ hc)) ?_
  refine rn_icmp_eq rfl rfl (fun hc => ?_) (fun hc => ?_)
  · exact u_308_1317 (e + 8) hd k23 K23 v0 v1 v2 v3 v4 v5 v6  p4.2 _ (if_t hb hc)
  · exact u_308_1075 (e + 8) hd v0 v1 v2 v3 v4 v5 v6  p4.2 _ (if_f hb hc)
def b_308_1088   (h : Hp) : Option (Int32 × Hp) :=
  (grd (decide ((nI 0) = 0 ∨ (nI 0) = 1))).bind fun _ => some ((nI 0), h)
set_option maxRecDepth 100000 in
theorem u_308_1088 (d : Nat) (hd : 264 ≤ d) (v0 : Option Nat) (v1 : Option Nat) (v2 : Option Nat) (v3 : Option Nat) (v4 : Int32) (v5 : Option (Int32)) (v6 : Option (Int32))  (h : Hp) (r : Int32 × Hp) (hb : b_308_1088   h = some r) : Rn d 308 1088 [some (va_rf v0), some (va_rf v1), some (va_rf v2), some (va_rf v3), some (.int v4), v5.map Value.int, v6.map Value.int] [] h (some (.int r.1), r.2) := by
  unfold b_308_1088 at hb
  refine rn_iconst (x := (nI 0)) rfl (by decide) ?_
  obtain ⟨hz, hb⟩ := grd_spec hb
  obtain rfl := Option.some.inj hb
  exact rn_zret rfl rfl (of_decide_eq_true hz)
def b_308_1077 (k23 : Option Nat → Option Nat → Option Nat → Option Nat → Int32 → Hp → Option (Int32 × Hp)) (v0 : Option Nat) (v1 : Option Nat) (v2 : Option Nat) (v3 : Option Nat) (v4 : Int32)  (h : Hp) : Option (Int32 × Hp) :=
  (grd (rC 10 v1 h)).bind fun _ =>
  (f_160 v1 h).bind fun p1 =>
  (grd (rC 11 v2 p1.2)).bind fun _ =>
  (f_274 v2 p1.2).bind fun p2 =>
  if p1.1 = p2.1 then b_308_1317 k23 v0 v1 v2 v3 v4  p2.2 else b_308_1088   p2.2
set_option maxRecDepth 100000 in
theorem u_308_1077 (d : Nat) (hd : 264 ≤ d) (k23 : Option Nat → Option Nat → Option Nat → Option Nat → Int32 → Hp → Option (Int32 × Hp)) (K23 : ∀ (v0 : Option Nat) (v1 : Option Nat) (v2 : Option Nat) (v3 : Option Nat) (v4 : Int32) (v5 : Option (Int32)) (v6 : Option (Int32)) (h : Hp) (r : Int32 × Hp), k23 v0 v1 v2 v3 v4 h = some r → Rn d 308 23 [some (va_rf v0), some (va_rf v1), some (va_rf v2), some (va_rf v3), some (.int v4), v5.map Value.int, v6.map Value.int] [] h (some (.int r.1), r.2)) (v0 : Option Nat) (v1 : Option Nat) (v2 : Option Nat) (v3 : Option Nat) (v4 : Int32) (v5 : Option (Int32)) (v6 : Option (Int32))  (h : Hp) (r : Int32 × Hp) (hb : b_308_1077 k23 v0 v1 v2 v3 v4  h = some r) : Rn d 308 1077 [some (va_rf v0), some (va_rf v1), some (va_rf v2), some (va_rf v3), some (.int v4), v5.map Value.int, v6.map Value.int] [] h (some (.int r.1), r.2) := by
  unfold b_308_1077 at hb
  obtain ⟨e, rfl⟩ : ∃ e, d = e + 8 := ⟨d - 8, by omega⟩
  refine rn_aload_n (i := 1) rfl rfl ?_
  obtain ⟨hrc, hb⟩ := grd_spec hb
  obtain ⟨p1, hc, hb⟩ := Option.bind_eq_some_iff.mp hb
  refine Rn.call1 (d := (e + 7)) (As := [va_rf v1]) (rest := []) rfl rfl rfl (by decide) rfl rfl rfl (bd_rcV hrc rfl) (by decide) (bd_lenC (n := 2) rfl (bd_slR bd_slN) rfl) (bd_locC (n := 2) rfl (bd_slR bd_slN) rfl (t_160 (e + 7) (by omega) v1 h _ hc)) ?_
  refine rn_aload_n (i := 2) rfl rfl ?_
  obtain ⟨hrc, hb⟩ := grd_spec hb
  obtain ⟨p2, hc, hb⟩ := Option.bind_eq_some_iff.mp hb
  refine Rn.call1 (d := (e + 7)) (As := [va_rf v2]) (rest := [.int p1.1]) rfl rfl rfl (by decide) rfl rfl rfl (bd_rcV hrc rfl) (by rw [bd_cI (bd_cN)]; decide) (bd_lenC (n := 2) rfl (bd_slR bd_slN) rfl) (bd_locC (n := 2) rfl (bd_slR bd_slN) rfl (t_274 (e + 7) (by omega) v2 p1.2 _ hc)) ?_
  refine rn_icmp_eq rfl rfl (fun hc => ?_) (fun hc => ?_)
  · exact u_308_1317 (e + 8) hd k23 K23 v0 v1 v2 v3 v4 v5 v6  p2.2 _ (if_t hb hc)
  · exact u_308_1088 (e + 8) hd v0 v1 v2 v3 v4 v5 v6  p2.2 _ (if_f hb hc)
def b_308_1125   (h : Hp) : Option (Int32 × Hp) :=
  (grd (decide ((nI 0) = 0 ∨ (nI 0) = 1))).bind fun _ => some ((nI 0), h)
set_option maxRecDepth 100000 in
theorem u_308_1125 (d : Nat) (hd : 264 ≤ d) (v0 : Option Nat) (v1 : Option Nat) (v2 : Option Nat) (v3 : Option Nat) (v4 : Int32) (v5 : Option (Int32)) (v6 : Option (Int32))  (h : Hp) (r : Int32 × Hp) (hb : b_308_1125   h = some r) : Rn d 308 1125 [some (va_rf v0), some (va_rf v1), some (va_rf v2), some (va_rf v3), some (.int v4), v5.map Value.int, v6.map Value.int] [] h (some (.int r.1), r.2) := by
  unfold b_308_1125 at hb
  refine rn_iconst (x := (nI 0)) rfl (by decide) ?_
  obtain ⟨hz, hb⟩ := grd_spec hb
  obtain rfl := Option.some.inj hb
  exact rn_zret rfl rfl (of_decide_eq_true hz)
def b_308_1090 (k23 : Option Nat → Option Nat → Option Nat → Option Nat → Int32 → Hp → Option (Int32 × Hp)) (v0 : Option Nat) (v1 : Option Nat) (v2 : Option Nat) (v3 : Option Nat) (v4 : Int32)  (h : Hp) : Option (Int32 × Hp) :=
  (aI 12 v0 (v4 + (nI 1)) h).bind fun x1 =>
  (aI 12 v0 (v4 + (nI 2)) h).bind fun x2 =>
  (grd (rC 10 v1 h)).bind fun _ =>
  (f_161 v1 x1 x2 h).bind fun p3 =>
  (aI 12 v0 (v4 + (nI 1)) p3.2).bind fun x4 =>
  (aI 12 v0 (v4 + (nI 2)) p3.2).bind fun x5 =>
  (grd (rC 11 v2 p3.2)).bind fun _ =>
  (f_279 v2 x4 x5 p3.2).bind fun p6 =>
  if p3.1 = p6.1 then b_308_1317 k23 v0 v1 v2 v3 v4  p6.2 else b_308_1125   p6.2
set_option maxRecDepth 100000 in
theorem u_308_1090 (d : Nat) (hd : 264 ≤ d) (k23 : Option Nat → Option Nat → Option Nat → Option Nat → Int32 → Hp → Option (Int32 × Hp)) (K23 : ∀ (v0 : Option Nat) (v1 : Option Nat) (v2 : Option Nat) (v3 : Option Nat) (v4 : Int32) (v5 : Option (Int32)) (v6 : Option (Int32)) (h : Hp) (r : Int32 × Hp), k23 v0 v1 v2 v3 v4 h = some r → Rn d 308 23 [some (va_rf v0), some (va_rf v1), some (va_rf v2), some (va_rf v3), some (.int v4), v5.map Value.int, v6.map Value.int] [] h (some (.int r.1), r.2)) (v0 : Option Nat) (v1 : Option Nat) (v2 : Option Nat) (v3 : Option Nat) (v4 : Int32) (v5 : Option (Int32)) (v6 : Option (Int32))  (h : Hp) (r : Int32 × Hp) (hb : b_308_1090 k23 v0 v1 v2 v3 v4  h = some r) : Rn d 308 1090 [some (va_rf v0), some (va_rf v1), some (va_rf v2), some (va_rf v3), some (.int v4), v5.map Value.int, v6.map Value.int] [] h (some (.int r.1), r.2) := by
  unfold b_308_1090 at hb
  obtain ⟨e, rfl⟩ : ∃ e, d = e + 8 := ⟨d - 8, by omega⟩
  refine rn_aload_n (i := 1) rfl rfl ?_
  refine rn_aload_n (i := 0) rfl rfl ?_
  refine rn_iload (i := 4) rfl rfl ?_
  refine rn_iconst (x := (nI 1)) rfl (by decide) ?_
  refine rn_iadd rfl ?_
  refine rn_aI rfl hb (fun x1 hb => ?_)
  refine rn_aload_n (i := 0) rfl rfl ?_
  refine rn_iload (i := 4) rfl rfl ?_
  refine rn_iconst (x := (nI 2)) rfl (by decide) ?_
  refine rn_iadd rfl ?_
  refine rn_aI rfl hb (fun x2 hb => ?_)
  obtain ⟨hrc, hb⟩ := grd_spec hb
  obtain ⟨p3, hc, hb⟩ := Option.bind_eq_some_iff.mp hb
  refine Rn.call1 (d := (e + 7)) (As := [va_rf v1, .int x1, .int x2]) (rest := []) rfl rfl rfl (by decide) rfl rfl rfl (bd_rcV hrc rfl) (by decide) (bd_lenC (n := 4) rfl (bd_slR (bd_slI (bd_slI bd_slN))) rfl) (bd_locC (n := 4) rfl (bd_slR (bd_slI (bd_slI bd_slN))) rfl (t_161 (e + 7) (by omega) v1 x1 x2 h _ hc)) ?_
  refine rn_aload_n (i := 2) rfl rfl ?_
  refine rn_aload_n (i := 0) rfl rfl ?_
  refine rn_iload (i := 4) rfl rfl ?_
  refine rn_iconst (x := (nI 1)) rfl (by decide) ?_
  refine rn_iadd rfl ?_
  refine rn_aI rfl hb (fun x4 hb => ?_)
  refine rn_aload_n (i := 0) rfl rfl ?_
  refine rn_iload (i := 4) rfl rfl ?_
  refine rn_iconst (x := (nI 2)) rfl (by decide) ?_
  refine rn_iadd rfl ?_
  refine rn_aI rfl hb (fun x5 hb => ?_)
  obtain ⟨hrc, hb⟩ := grd_spec hb
  obtain ⟨p6, hc, hb⟩ := Option.bind_eq_some_iff.mp hb
  refine Rn.call1 (d := (e + 7)) (As := [va_rf v2, .int x4, .int x5]) (rest := [.int p3.1]) rfl rfl rfl (by decide) rfl rfl rfl (bd_rcV hrc rfl) (by rw [bd_cI (bd_cN)]; decide) (bd_lenC (n := 5) rfl (bd_slR (bd_slI (bd_slI bd_slN))) rfl) (bd_locC (n := 5) rfl (bd_slR (bd_slI (bd_slI bd_slN))) rfl (t_279 (e + 7) (by omega) v2 x4 x5 p3.2 _ hc)) ?_
  refine rn_icmp_eq rfl rfl (fun hc => ?_) (fun hc => ?_)
  · exact u_308_1317 (e + 8) hd k23 K23 v0 v1 v2 v3 v4 v5 v6  p6.2 _ (if_t hb hc)
  · exact u_308_1125 (e + 8) hd v0 v1 v2 v3 v4 v5 v6  p6.2 _ (if_f hb hc)
def b_308_1150   (h : Hp) : Option (Int32 × Hp) :=
  (grd (decide ((nI 0) = 0 ∨ (nI 0) = 1))).bind fun _ => some ((nI 0), h)
set_option maxRecDepth 100000 in
theorem u_308_1150 (d : Nat) (hd : 264 ≤ d) (v0 : Option Nat) (v1 : Option Nat) (v2 : Option Nat) (v3 : Option Nat) (v4 : Int32) (v5 : Option (Int32)) (v6 : Option (Int32))  (h : Hp) (r : Int32 × Hp) (hb : b_308_1150   h = some r) : Rn d 308 1150 [some (va_rf v0), some (va_rf v1), some (va_rf v2), some (va_rf v3), some (.int v4), v5.map Value.int, v6.map Value.int] [] h (some (.int r.1), r.2) := by
  unfold b_308_1150 at hb
  refine rn_iconst (x := (nI 0)) rfl (by decide) ?_
  obtain ⟨hz, hb⟩ := grd_spec hb
  obtain rfl := Option.some.inj hb
  exact rn_zret rfl rfl (of_decide_eq_true hz)
def b_308_1127 (k23 : Option Nat → Option Nat → Option Nat → Option Nat → Int32 → Hp → Option (Int32 × Hp)) (v0 : Option Nat) (v1 : Option Nat) (v2 : Option Nat) (v3 : Option Nat) (v4 : Int32)  (h : Hp) : Option (Int32 × Hp) :=
  (aI 12 v0 (v4 + (nI 1)) h).bind fun x1 =>
  (grd (rC 10 v1 h)).bind fun _ =>
  (f_162 v1 x1 h).bind fun p2 =>
  (aI 12 v0 (v4 + (nI 1)) p2.2).bind fun x3 =>
  (grd (rC 11 v2 p2.2)).bind fun _ =>
  (f_280 v2 x3 p2.2).bind fun p4 =>
  if p2.1 = p4.1 then b_308_1317 k23 v0 v1 v2 v3 v4  p4.2 else b_308_1150   p4.2
set_option maxRecDepth 100000 in
theorem u_308_1127 (d : Nat) (hd : 264 ≤ d) (k23 : Option Nat → Option Nat → Option Nat → Option Nat → Int32 → Hp → Option (Int32 × Hp)) (K23 : ∀ (v0 : Option Nat) (v1 : Option Nat) (v2 : Option Nat) (v3 : Option Nat) (v4 : Int32) (v5 : Option (Int32)) (v6 : Option (Int32)) (h : Hp) (r : Int32 × Hp), k23 v0 v1 v2 v3 v4 h = some r → Rn d 308 23 [some (va_rf v0), some (va_rf v1), some (va_rf v2), some (va_rf v3), some (.int v4), v5.map Value.int, v6.map Value.int] [] h (some (.int r.1), r.2)) (v0 : Option Nat) (v1 : Option Nat) (v2 : Option Nat) (v3 : Option Nat) (v4 : Int32) (v5 : Option (Int32)) (v6 : Option (Int32))  (h : Hp) (r : Int32 × Hp) (hb : b_308_1127 k23 v0 v1 v2 v3 v4  h = some r) : Rn d 308 1127 [some (va_rf v0), some (va_rf v1), some (va_rf v2), some (va_rf v3), some (.int v4), v5.map Value.int, v6.map Value.int] [] h (some (.int r.1), r.2) := by
  unfold b_308_1127 at hb
  obtain ⟨e, rfl⟩ : ∃ e, d = e + 8 := ⟨d - 8, by omega⟩
  refine rn_aload_n (i := 1) rfl rfl ?_
  refine rn_aload_n (i := 0) rfl rfl ?_
  refine rn_iload (i := 4) rfl rfl ?_
  refine rn_iconst (x := (nI 1)) rfl (by decide) ?_
  refine rn_iadd rfl ?_
  refine rn_aI rfl hb (fun x1 hb => ?_)
  obtain ⟨hrc, hb⟩ := grd_spec hb
  obtain ⟨p2, hc, hb⟩ := Option.bind_eq_some_iff.mp hb
  refine Rn.call1 (d := (e + 7)) (As := [va_rf v1, .int x1]) (rest := []) rfl rfl rfl (by decide) rfl rfl rfl (bd_rcV hrc rfl) (by decide) (bd_lenC (n := 2) rfl (bd_slR (bd_slI bd_slN)) rfl) (bd_locC (n := 2) rfl (bd_slR (bd_slI bd_slN)) rfl (t_162 (e + 7) (by omega) v1 x1 h _ hc)) ?_
  refine rn_aload_n (i := 2) rfl rfl ?_
  refine rn_aload_n (i := 0) rfl rfl ?_
  refine rn_iload (i := 4) rfl rfl ?_
  refine rn_iconst (x := (nI 1)) rfl (by decide) ?_
  refine rn_iadd rfl ?_
  refine rn_aI rfl hb (fun x3 hb => ?_)
  obtain ⟨hrc, hb⟩ := grd_spec hb
  obtain ⟨p4, hc, hb⟩ := Option.bind_eq_some_iff.mp hb
  refine Rn.call1 (d := (e + 7)) (As := [va_rf v2, .int x3]) (rest := [.int p2.1]) rfl rfl rfl (by decide) rfl rfl rfl (bd_rcV hrc rfl) (by rw [bd_cI (bd_cN)]; decide) (bd_lenC (n := 2) rfl (bd_slR (bd_slI bd_slN)) rfl) (bd_locC (n := 2) rfl (bd_slR (bd_slI bd_slN)) rfl (t_280 (e + 7) (by omega) v2 x3 p2.2 _ hc)) ?_
  refine rn_icmp_eq rfl rfl (fun hc => ?_) (fun hc => ?_)
  · exact u_308_1317 (e + 8) hd k23 K23 v0 v1 v2 v3 v4 v5 v6  p4.2 _ (if_t hb hc)
  · exact u_308_1150 (e + 8) hd v0 v1 v2 v3 v4 v5 v6  p4.2 _ (if_f hb hc)
def b_308_1163   (h : Hp) : Option (Int32 × Hp) :=
  (grd (decide ((nI 0) = 0 ∨ (nI 0) = 1))).bind fun _ => some ((nI 0), h)
set_option maxRecDepth 100000 in
theorem u_308_1163 (d : Nat) (hd : 264 ≤ d) (v0 : Option Nat) (v1 : Option Nat) (v2 : Option Nat) (v3 : Option Nat) (v4 : Int32) (v5 : Option (Int32)) (v6 : Option (Int32))  (h : Hp) (r : Int32 × Hp) (hb : b_308_1163   h = some r) : Rn d 308 1163 [some (va_rf v0), some (va_rf v1), some (va_rf v2), some (va_rf v3), some (.int v4), v5.map Value.int, v6.map Value.int] [] h (some (.int r.1), r.2) := by
  unfold b_308_1163 at hb
  refine rn_iconst (x := (nI 0)) rfl (by decide) ?_
  obtain ⟨hz, hb⟩ := grd_spec hb
  obtain rfl := Option.some.inj hb
  exact rn_zret rfl rfl (of_decide_eq_true hz)
def b_308_1152 (k23 : Option Nat → Option Nat → Option Nat → Option Nat → Int32 → Hp → Option (Int32 × Hp)) (v0 : Option Nat) (v1 : Option Nat) (v2 : Option Nat) (v3 : Option Nat) (v4 : Int32)  (h : Hp) : Option (Int32 × Hp) :=
  (grd (rC 10 v1 h)).bind fun _ =>
  (f_163 v1 h).bind fun p1 =>
  (grd (rC 11 v2 p1.2)).bind fun _ =>
  (f_281 v2 p1.2).bind fun p2 =>
  if p1.1 = p2.1 then b_308_1317 k23 v0 v1 v2 v3 v4  p2.2 else b_308_1163   p2.2
set_option maxRecDepth 100000 in
theorem u_308_1152 (d : Nat) (hd : 264 ≤ d) (k23 : Option Nat → Option Nat → Option Nat → Option Nat → Int32 → Hp → Option (Int32 × Hp)) (K23 : ∀ (v0 : Option Nat) (v1 : Option Nat) (v2 : Option Nat) (v3 : Option Nat) (v4 : Int32) (v5 : Option (Int32)) (v6 : Option (Int32)) (h : Hp) (r : Int32 × Hp), k23 v0 v1 v2 v3 v4 h = some r → Rn d 308 23 [some (va_rf v0), some (va_rf v1), some (va_rf v2), some (va_rf v3), some (.int v4), v5.map Value.int, v6.map Value.int] [] h (some (.int r.1), r.2)) (v0 : Option Nat) (v1 : Option Nat) (v2 : Option Nat) (v3 : Option Nat) (v4 : Int32) (v5 : Option (Int32)) (v6 : Option (Int32))  (h : Hp) (r : Int32 × Hp) (hb : b_308_1152 k23 v0 v1 v2 v3 v4  h = some r) : Rn d 308 1152 [some (va_rf v0), some (va_rf v1), some (va_rf v2), some (va_rf v3), some (.int v4), v5.map Value.int, v6.map Value.int] [] h (some (.int r.1), r.2) := by
  unfold b_308_1152 at hb
  obtain ⟨e, rfl⟩ : ∃ e, d = e + 8 := ⟨d - 8, by omega⟩
  refine rn_aload_n (i := 1) rfl rfl ?_
  obtain ⟨hrc, hb⟩ := grd_spec hb
  obtain ⟨p1, hc, hb⟩ := Option.bind_eq_some_iff.mp hb
  refine Rn.call1 (d := (e + 7)) (As := [va_rf v1]) (rest := []) rfl rfl rfl (by decide) rfl rfl rfl (bd_rcV hrc rfl) (by decide) (bd_lenC (n := 2) rfl (bd_slR bd_slN) rfl) (bd_locC (n := 2) rfl (bd_slR bd_slN) rfl (t_163 (e + 7) (by omega) v1 h _ hc)) ?_
  refine rn_aload_n (i := 2) rfl rfl ?_
  obtain ⟨hrc, hb⟩ := grd_spec hb
  obtain ⟨p2, hc, hb⟩ := Option.bind_eq_some_iff.mp hb
  refine Rn.call1 (d := (e + 7)) (As := [va_rf v2]) (rest := [.int p1.1]) rfl rfl rfl (by decide) rfl rfl rfl (bd_rcV hrc rfl) (by rw [bd_cI (bd_cN)]; decide) (bd_lenC (n := 2) rfl (bd_slR bd_slN) rfl) (bd_locC (n := 2) rfl (bd_slR bd_slN) rfl (t_281 (e + 7) (by omega) v2 p1.2 _ hc)) ?_
  refine rn_icmp_eq rfl rfl (fun hc => ?_) (fun hc => ?_)
  · exact u_308_1317 (e + 8) hd k23 K23 v0 v1 v2 v3 v4 v5 v6  p2.2 _ (if_t hb hc)
  · exact u_308_1163 (e + 8) hd v0 v1 v2 v3 v4 v5 v6  p2.2 _ (if_f hb hc)
def b_308_1188   (h : Hp) : Option (Int32 × Hp) :=
  (grd (decide ((nI 0) = 0 ∨ (nI 0) = 1))).bind fun _ => some ((nI 0), h)
set_option maxRecDepth 100000 in
theorem u_308_1188 (d : Nat) (hd : 264 ≤ d) (v0 : Option Nat) (v1 : Option Nat) (v2 : Option Nat) (v3 : Option Nat) (v4 : Int32) (v5 : Option (Int32)) (v6 : Option (Int32))  (h : Hp) (r : Int32 × Hp) (hb : b_308_1188   h = some r) : Rn d 308 1188 [some (va_rf v0), some (va_rf v1), some (va_rf v2), some (va_rf v3), some (.int v4), v5.map Value.int, v6.map Value.int] [] h (some (.int r.1), r.2) := by
  unfold b_308_1188 at hb
  refine rn_iconst (x := (nI 0)) rfl (by decide) ?_
  obtain ⟨hz, hb⟩ := grd_spec hb
  obtain rfl := Option.some.inj hb
  exact rn_zret rfl rfl (of_decide_eq_true hz)
def b_308_1165 (k23 : Option Nat → Option Nat → Option Nat → Option Nat → Int32 → Hp → Option (Int32 × Hp)) (v0 : Option Nat) (v1 : Option Nat) (v2 : Option Nat) (v3 : Option Nat) (v4 : Int32)  (h : Hp) : Option (Int32 × Hp) :=
  (aI 12 v0 (v4 + (nI 1)) h).bind fun x1 =>
  (grd (rC 10 v1 h)).bind fun _ =>
  (f_164 v1 x1 h).bind fun p2 =>
  (aI 12 v0 (v4 + (nI 1)) p2.2).bind fun x3 =>
  (grd (rC 11 v2 p2.2)).bind fun _ =>
  (f_282 v2 x3 p2.2).bind fun p4 =>
  if p2.1 = p4.1 then b_308_1317 k23 v0 v1 v2 v3 v4  p4.2 else b_308_1188   p4.2
set_option maxRecDepth 100000 in
theorem u_308_1165 (d : Nat) (hd : 264 ≤ d) (k23 : Option Nat → Option Nat → Option Nat → Option Nat → Int32 → Hp → Option (Int32 × Hp)) (K23 : ∀ (v0 : Option Nat) (v1 : Option Nat) (v2 : Option Nat) (v3 : Option Nat) (v4 : Int32) (v5 : Option (Int32)) (v6 : Option (Int32)) (h : Hp) (r : Int32 × Hp), k23 v0 v1 v2 v3 v4 h = some r → Rn d 308 23 [some (va_rf v0), some (va_rf v1), some (va_rf v2), some (va_rf v3), some (.int v4), v5.map Value.int, v6.map Value.int] [] h (some (.int r.1), r.2)) (v0 : Option Nat) (v1 : Option Nat) (v2 : Option Nat) (v3 : Option Nat) (v4 : Int32) (v5 : Option (Int32)) (v6 : Option (Int32))  (h : Hp) (r : Int32 × Hp) (hb : b_308_1165 k23 v0 v1 v2 v3 v4  h = some r) : Rn d 308 1165 [some (va_rf v0), some (va_rf v1), some (va_rf v2), some (va_rf v3), some (.int v4), v5.map Value.int, v6.map Value.int] [] h (some (.int r.1), r.2) := by
  unfold b_308_1165 at hb
  obtain ⟨e, rfl⟩ : ∃ e, d = e + 8 := ⟨d - 8, by omega⟩
  refine rn_aload_n (i := 1) rfl rfl ?_
  refine rn_aload_n (i := 0) rfl rfl ?_
  refine rn_iload (i := 4) rfl rfl ?_
  refine rn_iconst (x := (nI 1)) rfl (by decide) ?_
  refine rn_iadd rfl ?_
  refine rn_aI rfl hb (fun x1 hb => ?_)
  obtain ⟨hrc, hb⟩ := grd_spec hb
  obtain ⟨p2, hc, hb⟩ := Option.bind_eq_some_iff.mp hb
  refine Rn.call1 (d := (e + 7)) (As := [va_rf v1, .int x1]) (rest := []) rfl rfl rfl (by decide) rfl rfl rfl (bd_rcV hrc rfl) (by decide) (bd_lenC (n := 2) rfl (bd_slR (bd_slI bd_slN)) rfl) (bd_locC (n := 2) rfl (bd_slR (bd_slI bd_slN)) rfl (t_164 (e + 7) (by omega) v1 x1 h _ hc)) ?_
  refine rn_aload_n (i := 2) rfl rfl ?_
  refine rn_aload_n (i := 0) rfl rfl ?_
  refine rn_iload (i := 4) rfl rfl ?_
  refine rn_iconst (x := (nI 1)) rfl (by decide) ?_
  refine rn_iadd rfl ?_
  refine rn_aI rfl hb (fun x3 hb => ?_)
  obtain ⟨hrc, hb⟩ := grd_spec hb
  obtain ⟨p4, hc, hb⟩ := Option.bind_eq_some_iff.mp hb
  refine Rn.call1 (d := (e + 7)) (As := [va_rf v2, .int x3]) (rest := [.int p2.1]) rfl rfl rfl (by decide) rfl rfl rfl (bd_rcV hrc rfl) (by rw [bd_cI (bd_cN)]; decide) (bd_lenC (n := 4) rfl (bd_slR (bd_slI bd_slN)) rfl) (bd_locC (n := 4) rfl (bd_slR (bd_slI bd_slN)) rfl (t_282 (e + 7) (by omega) v2 x3 p2.2 _ hc)) ?_
  refine rn_icmp_eq rfl rfl (fun hc => ?_) (fun hc => ?_)
  · exact u_308_1317 (e + 8) hd k23 K23 v0 v1 v2 v3 v4 v5 v6  p4.2 _ (if_t hb hc)
  · exact u_308_1188 (e + 8) hd v0 v1 v2 v3 v4 v5 v6  p4.2 _ (if_f hb hc)
def b_308_1201   (h : Hp) : Option (Int32 × Hp) :=
  (grd (decide ((nI 0) = 0 ∨ (nI 0) = 1))).bind fun _ => some ((nI 0), h)
set_option maxRecDepth 100000 in
theorem u_308_1201 (d : Nat) (hd : 264 ≤ d) (v0 : Option Nat) (v1 : Option Nat) (v2 : Option Nat) (v3 : Option Nat) (v4 : Int32) (v5 : Option (Int32)) (v6 : Option (Int32))  (h : Hp) (r : Int32 × Hp) (hb : b_308_1201   h = some r) : Rn d 308 1201 [some (va_rf v0), some (va_rf v1), some (va_rf v2), some (va_rf v3), some (.int v4), v5.map Value.int, v6.map Value.int] [] h (some (.int r.1), r.2) := by
  unfold b_308_1201 at hb
  refine rn_iconst (x := (nI 0)) rfl (by decide) ?_
  obtain ⟨hz, hb⟩ := grd_spec hb
  obtain rfl := Option.some.inj hb
  exact rn_zret rfl rfl (of_decide_eq_true hz)
def b_308_1190 (k23 : Option Nat → Option Nat → Option Nat → Option Nat → Int32 → Hp → Option (Int32 × Hp)) (v0 : Option Nat) (v1 : Option Nat) (v2 : Option Nat) (v3 : Option Nat) (v4 : Int32)  (h : Hp) : Option (Int32 × Hp) :=
  (grd (rC 10 v1 h)).bind fun _ =>
  (f_165 v1 h).bind fun p1 =>
  (grd (rC 11 v2 p1.2)).bind fun _ =>
  (f_284 v2 p1.2).bind fun p2 =>
  if p1.1 = p2.1 then b_308_1317 k23 v0 v1 v2 v3 v4  p2.2 else b_308_1201   p2.2
set_option maxRecDepth 100000 in
theorem u_308_1190 (d : Nat) (hd : 264 ≤ d) (k23 : Option Nat → Option Nat → Option Nat → Option Nat → Int32 → Hp → Option (Int32 × Hp)) (K23 : ∀ (v0 : Option Nat) (v1 : Option Nat) (v2 : Option Nat) (v3 : Option Nat) (v4 : Int32) (v5 : Option (Int32)) (v6 : Option (Int32)) (h : Hp) (r : Int32 × Hp), k23 v0 v1 v2 v3 v4 h = some r → Rn d 308 23 [some (va_rf v0), some (va_rf v1), some (va_rf v2), some (va_rf v3), some (.int v4), v5.map Value.int, v6.map Value.int] [] h (some (.int r.1), r.2)) (v0 : Option Nat) (v1 : Option Nat) (v2 : Option Nat) (v3 : Option Nat) (v4 : Int32) (v5 : Option (Int32)) (v6 : Option (Int32))  (h : Hp) (r : Int32 × Hp) (hb : b_308_1190 k23 v0 v1 v2 v3 v4  h = some r) : Rn d 308 1190 [some (va_rf v0), some (va_rf v1), some (va_rf v2), some (va_rf v3), some (.int v4), v5.map Value.int, v6.map Value.int] [] h (some (.int r.1), r.2) := by
  unfold b_308_1190 at hb
  obtain ⟨e, rfl⟩ : ∃ e, d = e + 8 := ⟨d - 8, by omega⟩
  refine rn_aload_n (i := 1) rfl rfl ?_
  obtain ⟨hrc, hb⟩ := grd_spec hb
  obtain ⟨p1, hc, hb⟩ := Option.bind_eq_some_iff.mp hb
  refine Rn.call1 (d := (e + 7)) (As := [va_rf v1]) (rest := []) rfl rfl rfl (by decide) rfl rfl rfl (bd_rcV hrc rfl) (by decide) (bd_lenC (n := 2) rfl (bd_slR bd_slN) rfl) (bd_locC (n := 2) rfl (bd_slR bd_slN) rfl (t_165 (e + 7) (by omega) v1 h _ hc)) ?_
  refine rn_aload_n (i := 2) rfl rfl ?_
  obtain ⟨hrc, hb⟩ := grd_spec hb
  obtain ⟨p2, hc, hb⟩ := Option.bind_eq_some_iff.mp hb
  refine Rn.call1 (d := (e + 7)) (As := [va_rf v2]) (rest := [.int p1.1]) rfl rfl rfl (by decide) rfl rfl rfl (bd_rcV hrc rfl) (by rw [bd_cI (bd_cN)]; decide) (bd_lenC (n := 2) rfl (bd_slR bd_slN) rfl) (bd_locC (n := 2) rfl (bd_slR bd_slN) rfl (t_284 (e + 7) (by omega) v2 p1.2 _ hc)) ?_
  refine rn_icmp_eq rfl rfl (fun hc => ?_) (fun hc => ?_)
  · exact u_308_1317 (e + 8) hd k23 K23 v0 v1 v2 v3 v4 v5 v6  p2.2 _ (if_t hb hc)
  · exact u_308_1201 (e + 8) hd v0 v1 v2 v3 v4 v5 v6  p2.2 _ (if_f hb hc)
def b_308_1214   (h : Hp) : Option (Int32 × Hp) :=
  (grd (decide ((nI 0) = 0 ∨ (nI 0) = 1))).bind fun _ => some ((nI 0), h)
set_option maxRecDepth 100000 in
theorem u_308_1214 (d : Nat) (hd : 264 ≤ d) (v0 : Option Nat) (v1 : Option Nat) (v2 : Option Nat) (v3 : Option Nat) (v4 : Int32) (v5 : Option (Int32)) (v6 : Option (Int32))  (h : Hp) (r : Int32 × Hp) (hb : b_308_1214   h = some r) : Rn d 308 1214 [some (va_rf v0), some (va_rf v1), some (va_rf v2), some (va_rf v3), some (.int v4), v5.map Value.int, v6.map Value.int] [] h (some (.int r.1), r.2) := by
  unfold b_308_1214 at hb
  refine rn_iconst (x := (nI 0)) rfl (by decide) ?_
  obtain ⟨hz, hb⟩ := grd_spec hb
  obtain rfl := Option.some.inj hb
  exact rn_zret rfl rfl (of_decide_eq_true hz)
def b_308_1203 (k23 : Option Nat → Option Nat → Option Nat → Option Nat → Int32 → Hp → Option (Int32 × Hp)) (v0 : Option Nat) (v1 : Option Nat) (v2 : Option Nat) (v3 : Option Nat) (v4 : Int32)  (h : Hp) : Option (Int32 × Hp) :=
  (grd (rC 10 v1 h)).bind fun _ =>
  (f_166 v1 h).bind fun p1 =>
  (grd (rC 11 v2 p1.2)).bind fun _ =>
  (f_285 v2 p1.2).bind fun p2 =>
  if p1.1 = p2.1 then b_308_1317 k23 v0 v1 v2 v3 v4  p2.2 else b_308_1214   p2.2
set_option maxRecDepth 100000 in
theorem u_308_1203 (d : Nat) (hd : 264 ≤ d) (k23 : Option Nat → Option Nat → Option Nat → Option Nat → Int32 → Hp → Option (Int32 × Hp)) (K23 : ∀ (v0 : Option Nat) (v1 : Option Nat) (v2 : Option Nat) (v3 : Option Nat) (v4 : Int32) (v5 : Option (Int32)) (v6 : Option (Int32)) (h : Hp) (r : Int32 × Hp), k23 v0 v1 v2 v3 v4 h = some r → Rn d 308 23 [some (va_rf v0), some (va_rf v1), some (va_rf v2), some (va_rf v3), some (.int v4), v5.map Value.int, v6.map Value.int] [] h (some (.int r.1), r.2)) (v0 : Option Nat) (v1 : Option Nat) (v2 : Option Nat) (v3 : Option Nat) (v4 : Int32) (v5 : Option (Int32)) (v6 : Option (Int32))  (h : Hp) (r : Int32 × Hp) (hb : b_308_1203 k23 v0 v1 v2 v3 v4  h = some r) : Rn d 308 1203 [some (va_rf v0), some (va_rf v1), some (va_rf v2), some (va_rf v3), some (.int v4), v5.map Value.int, v6.map Value.int] [] h (some (.int r.1), r.2) := by
  unfold b_308_1203 at hb
  obtain ⟨e, rfl⟩ : ∃ e, d = e + 8 := ⟨d - 8, by omega⟩
  refine rn_aload_n (i := 1) rfl rfl ?_
  obtain ⟨hrc, hb⟩ := grd_spec hb
  obtain ⟨p1, hc, hb⟩ := Option.bind_eq_some_iff.mp hb
  refine Rn.call1 (d := (e + 7)) (As := [va_rf v1]) (rest := []) rfl rfl rfl (by decide) rfl rfl rfl (bd_rcV hrc rfl) (by decide) (bd_lenC (n := 2) rfl (bd_slR bd_slN) rfl) (bd_locC (n := 2) rfl (bd_slR bd_slN) rfl (t_166 (e + 7) (by omega) v1 h _ hc)) ?_
  refine rn_aload_n (i := 2) rfl rfl ?_
  obtain ⟨hrc, hb⟩ := grd_spec hb
  obtain ⟨p2, hc, hb⟩ := Option.bind_eq_some_iff.mp hb
  refine Rn.call1 (d := (e + 7)) (As := [va_rf v2]) (rest := [.int p1.1]) rfl rfl rfl (by decide) rfl rfl rfl (bd_rcV hrc rfl) (by rw [bd_cI (bd_cN)]; decide) (bd_lenC (n := 1) rfl (bd_slR bd_slN) rfl) (bd_locC (n := 1) rfl (bd_slR bd_slN) rfl (t_285 (e + 7) (by omega) v2 p1.2 _ hc)) ?_
  refine rn_icmp_eq rfl rfl (fun hc => ?_) (fun hc => ?_)
  · exact u_308_1317 (e + 8) hd k23 K23 v0 v1 v2 v3 v4 v5 v6  p2.2 _ (if_t hb hc)
  · exact u_308_1214 (e + 8) hd v0 v1 v2 v3 v4 v5 v6  p2.2 _ (if_f hb hc)
def b_308_1227   (h : Hp) : Option (Int32 × Hp) :=
  (grd (decide ((nI 0) = 0 ∨ (nI 0) = 1))).bind fun _ => some ((nI 0), h)
set_option maxRecDepth 100000 in
theorem u_308_1227 (d : Nat) (hd : 264 ≤ d) (v0 : Option Nat) (v1 : Option Nat) (v2 : Option Nat) (v3 : Option Nat) (v4 : Int32) (v5 : Option (Int32)) (v6 : Option (Int32))  (h : Hp) (r : Int32 × Hp) (hb : b_308_1227   h = some r) : Rn d 308 1227 [some (va_rf v0), some (va_rf v1), some (va_rf v2), some (va_rf v3), some (.int v4), v5.map Value.int, v6.map Value.int] [] h (some (.int r.1), r.2) := by
  unfold b_308_1227 at hb
  refine rn_iconst (x := (nI 0)) rfl (by decide) ?_
  obtain ⟨hz, hb⟩ := grd_spec hb
  obtain rfl := Option.some.inj hb
  exact rn_zret rfl rfl (of_decide_eq_true hz)
def b_308_1216 (k23 : Option Nat → Option Nat → Option Nat → Option Nat → Int32 → Hp → Option (Int32 × Hp)) (v0 : Option Nat) (v1 : Option Nat) (v2 : Option Nat) (v3 : Option Nat) (v4 : Int32)  (h : Hp) : Option (Int32 × Hp) :=
  (grd (rC 10 v1 h)).bind fun _ =>
  (f_167 v1 h).bind fun p1 =>
  (grd (rC 11 v2 p1.2)).bind fun _ =>
  (f_295 v2 p1.2).bind fun p2 =>
  if p1.1 = p2.1 then b_308_1317 k23 v0 v1 v2 v3 v4  p2.2 else b_308_1227   p2.2
set_option maxRecDepth 100000 in
theorem u_308_1216 (d : Nat) (hd : 264 ≤ d) (k23 : Option Nat → Option Nat → Option Nat → Option Nat → Int32 → Hp → Option (Int32 × Hp)) (K23 : ∀ (v0 : Option Nat) (v1 : Option Nat) (v2 : Option Nat) (v3 : Option Nat) (v4 : Int32) (v5 : Option (Int32)) (v6 : Option (Int32)) (h : Hp) (r : Int32 × Hp), k23 v0 v1 v2 v3 v4 h = some r → Rn d 308 23 [some (va_rf v0), some (va_rf v1), some (va_rf v2), some (va_rf v3), some (.int v4), v5.map Value.int, v6.map Value.int] [] h (some (.int r.1), r.2)) (v0 : Option Nat) (v1 : Option Nat) (v2 : Option Nat) (v3 : Option Nat) (v4 : Int32) (v5 : Option (Int32)) (v6 : Option (Int32))  (h : Hp) (r : Int32 × Hp) (hb : b_308_1216 k23 v0 v1 v2 v3 v4  h = some r) : Rn d 308 1216 [some (va_rf v0), some (va_rf v1), some (va_rf v2), some (va_rf v3), some (.int v4), v5.map Value.int, v6.map Value.int] [] h (some (.int r.1), r.2) := by
  unfold b_308_1216 at hb
  obtain ⟨e, rfl⟩ : ∃ e, d = e + 8 := ⟨d - 8, by omega⟩
  refine rn_aload_n (i := 1) rfl rfl ?_
  obtain ⟨hrc, hb⟩ := grd_spec hb
  obtain ⟨p1, hc, hb⟩ := Option.bind_eq_some_iff.mp hb
  refine Rn.call1 (d := (e + 7)) (As := [va_rf v1]) (rest := []) rfl rfl rfl (by decide) rfl rfl rfl (bd_rcV hrc rfl) (by decide) (bd_lenC (n := 2) rfl (bd_slR bd_slN) rfl) (bd_locC (n := 2) rfl (bd_slR bd_slN) rfl (t_167 (e + 7) (by omega) v1 h _ hc)) ?_
  refine rn_aload_n (i := 2) rfl rfl ?_
  obtain ⟨hrc, hb⟩ := grd_spec hb
  obtain ⟨p2, hc, hb⟩ := Option.bind_eq_some_iff.mp hb
  refine Rn.call1 (d := (e + 7)) (As := [va_rf v2]) (rest := [.int p1.1]) rfl rfl rfl (by decide) rfl rfl rfl (bd_rcV hrc rfl) (by rw [bd_cI (bd_cN)]; decide) (bd_lenC (n := 2) rfl (bd_slR bd_slN) rfl) (bd_locC (n := 2) rfl (bd_slR bd_slN) rfl (t_295 (e + 7) (by omega) v2 p1.2 _ hc)) ?_
  refine rn_icmp_eq rfl rfl (fun hc => ?_) (fun hc => ?_)
  · exact u_308_1317 (e + 8) hd k23 K23 v0 v1 v2 v3 v4 v5 v6  p2.2 _ (if_t hb hc)
  · exact u_308_1227 (e + 8) hd v0 v1 v2 v3 v4 v5 v6  p2.2 _ (if_f hb hc)
def b_308_1240   (h : Hp) : Option (Int32 × Hp) :=
  (grd (decide ((nI 0) = 0 ∨ (nI 0) = 1))).bind fun _ => some ((nI 0), h)
set_option maxRecDepth 100000 in
theorem u_308_1240 (d : Nat) (hd : 264 ≤ d) (v0 : Option Nat) (v1 : Option Nat) (v2 : Option Nat) (v3 : Option Nat) (v4 : Int32) (v5 : Option (Int32)) (v6 : Option (Int32))  (h : Hp) (r : Int32 × Hp) (hb : b_308_1240   h = some r) : Rn d 308 1240 [some (va_rf v0), some (va_rf v1), some (va_rf v2), some (va_rf v3), some (.int v4), v5.map Value.int, v6.map Value.int] [] h (some (.int r.1), r.2) := by
  unfold b_308_1240 at hb
  refine rn_iconst (x := (nI 0)) rfl (by decide) ?_
  obtain ⟨hz, hb⟩ := grd_spec hb
  obtain rfl := Option.some.inj hb
  exact rn_zret rfl rfl (of_decide_eq_true hz)
def b_308_1229 (k23 : Option Nat → Option Nat → Option Nat → Option Nat → Int32 → Hp → Option (Int32 × Hp)) (v0 : Option Nat) (v1 : Option Nat) (v2 : Option Nat) (v3 : Option Nat) (v4 : Int32)  (h : Hp) : Option (Int32 × Hp) :=
  (grd (rC 10 v1 h)).bind fun _ =>
  (f_168 v1 h).bind fun p1 =>
  (grd (rC 11 v2 p1.2)).bind fun _ =>
  (f_298 v2 p1.2).bind fun p2 =>
  if p1.1 = p2.1 then b_308_1317 k23 v0 v1 v2 v3 v4  p2.2 else b_308_1240   p2.2
set_option maxRecDepth 100000 in
theorem u_308_1229 (d : Nat) (hd : 264 ≤ d) (k23 : Option Nat → Option Nat → Option Nat → Option Nat → Int32 → Hp → Option (Int32 × Hp)) (K23 : ∀ (v0 : Option Nat) (v1 : Option Nat) (v2 : Option Nat) (v3 : Option Nat) (v4 : Int32) (v5 : Option (Int32)) (v6 : Option (Int32)) (h : Hp) (r : Int32 × Hp), k23 v0 v1 v2 v3 v4 h = some r → Rn d 308 23 [some (va_rf v0), some (va_rf v1), some (va_rf v2), some (va_rf v3), some (.int v4), v5.map Value.int, v6.map Value.int] [] h (some (.int r.1), r.2)) (v0 : Option Nat) (v1 : Option Nat) (v2 : Option Nat) (v3 : Option Nat) (v4 : Int32) (v5 : Option (Int32)) (v6 : Option (Int32))  (h : Hp) (r : Int32 × Hp) (hb : b_308_1229 k23 v0 v1 v2 v3 v4  h = some r) : Rn d 308 1229 [some (va_rf v0), some (va_rf v1), some (va_rf v2), some (va_rf v3), some (.int v4), v5.map Value.int, v6.map Value.int] [] h (some (.int r.1), r.2) := by
  unfold b_308_1229 at hb
  obtain ⟨e, rfl⟩ : ∃ e, d = e + 8 := ⟨d - 8, by omega⟩
  refine rn_aload_n (i := 1) rfl rfl ?_
  obtain ⟨hrc, hb⟩ := grd_spec hb
  obtain ⟨p1, hc, hb⟩ := Option.bind_eq_some_iff.mp hb
  refine Rn.call1 (d := (e + 7)) (As := [va_rf v1]) (rest := []) rfl rfl rfl (by decide) rfl rfl rfl (bd_rcV hrc rfl) (by decide) (bd_lenC (n := 1) rfl (bd_slR bd_slN) rfl) (bd_locC (n := 1) rfl (bd_slR bd_slN) rfl (t_168 (e + 7) (by omega) v1 h _ hc)) ?_
  refine rn_aload_n (i := 2) rfl rfl ?_
  obtain ⟨hrc, hb⟩ := grd_spec hb
  obtain ⟨p2, hc, hb⟩ := Option.bind_eq_some_iff.mp hb
  refine Rn.call1 (d := (e + 7)) (As := [va_rf v2]) (rest := [.int p1.1]) rfl rfl rfl (by decide) rfl rfl rfl (bd_rcV hrc rfl) (by rw [bd_cI (bd_cN)]; decide) (bd_lenC (n := 3) rfl (bd_slR bd_slN) rfl) (bd_locC (n := 3) rfl (bd_slR bd_slN) rfl (t_298 (e + 7) (by omega) v2 p1.2 _ hc)) ?_
  refine rn_icmp_eq rfl rfl (fun hc => ?_) (fun hc => ?_)
  · exact u_308_1317 (e + 8) hd k23 K23 v0 v1 v2 v3 v4 v5 v6  p2.2 _ (if_t hb hc)
  · exact u_308_1240 (e + 8) hd v0 v1 v2 v3 v4 v5 v6  p2.2 _ (if_f hb hc)
def b_308_1265   (h : Hp) : Option (Int32 × Hp) :=
  (grd (decide ((nI 0) = 0 ∨ (nI 0) = 1))).bind fun _ => some ((nI 0), h)
set_option maxRecDepth 100000 in
theorem u_308_1265 (d : Nat) (hd : 264 ≤ d) (v0 : Option Nat) (v1 : Option Nat) (v2 : Option Nat) (v3 : Option Nat) (v4 : Int32) (v5 : Option (Int32)) (v6 : Option (Int32))  (h : Hp) (r : Int32 × Hp) (hb : b_308_1265   h = some r) : Rn d 308 1265 [some (va_rf v0), some (va_rf v1), some (va_rf v2), some (va_rf v3), some (.int v4), v5.map Value.int, v6.map Value.int] [] h (some (.int r.1), r.2) := by
  unfold b_308_1265 at hb
  refine rn_iconst (x := (nI 0)) rfl (by decide) ?_
  obtain ⟨hz, hb⟩ := grd_spec hb
  obtain rfl := Option.some.inj hb
  exact rn_zret rfl rfl (of_decide_eq_true hz)
def b_308_1242 (k23 : Option Nat → Option Nat → Option Nat → Option Nat → Int32 → Hp → Option (Int32 × Hp)) (v0 : Option Nat) (v1 : Option Nat) (v2 : Option Nat) (v3 : Option Nat) (v4 : Int32)  (h : Hp) : Option (Int32 × Hp) :=
  (aI 12 v0 (v4 + (nI 1)) h).bind fun x1 =>
  (grd (rC 10 v1 h)).bind fun _ =>
  (f_169 v1 x1 h).bind fun p2 =>
  (aI 12 v0 (v4 + (nI 1)) p2.2).bind fun x3 =>
  (grd (rC 11 v2 p2.2)).bind fun _ =>
  (f_299 v2 x3 p2.2).bind fun p4 =>
  if p2.1 = p4.1 then b_308_1317 k23 v0 v1 v2 v3 v4  p4.2 else b_308_1265   p4.2
set_option maxRecDepth 100000 in
theorem u_308_1242 (d : Nat) (hd : 264 ≤ d) (k23 : Option Nat → Option Nat → Option Nat → Option Nat → Int32 → Hp → Option (Int32 × Hp)) (K23 : ∀ (v0 : Option Nat) (v1 : Option Nat) (v2 : Option Nat) (v3 : Option Nat) (v4 : Int32) (v5 : Option (Int32)) (v6 : Option (Int32)) (h : Hp) (r : Int32 × Hp), k23 v0 v1 v2 v3 v4 h = some r → Rn d 308 23 [some (va_rf v0), some (va_rf v1), some (va_rf v2), some (va_rf v3), some (.int v4), v5.map Value.int, v6.map Value.int] [] h (some (.int r.1), r.2)) (v0 : Option Nat) (v1 : Option Nat) (v2 : Option Nat) (v3 : Option Nat) (v4 : Int32) (v5 : Option (Int32)) (v6 : Option (Int32))  (h : Hp) (r : Int32 × Hp) (hb : b_308_1242 k23 v0 v1 v2 v3 v4  h = some r) : Rn d 308 1242 [some (va_rf v0), some (va_rf v1), some (va_rf v2), some (va_rf v3), some (.int v4), v5.map Value.int, v6.map Value.int] [] h (some (.int r.1), r.2) := by
  unfold b_308_1242 at hb
  obtain ⟨e, rfl⟩ : ∃ e, d = e + 8 := ⟨d - 8, by omega⟩
  refine rn_aload_n (i := 1) rfl rfl ?_
  refine rn_aload_n (i := 0) rfl rfl ?_
  refine rn_iload (i := 4) rfl rfl ?_
  refine rn_iconst (x := (nI 1)) rfl (by decide) ?_
  refine rn_iadd rfl ?_
  refine rn_aI rfl hb (fun x1 hb => ?_)
  obtain ⟨hrc, hb⟩ := grd_spec hb
  obtain ⟨p2, hc, hb⟩ := Option.bind_eq_some_iff.mp hb
  refine Rn.call1 (d := (e + 7)) (As := [va_rf v1, .int x1]) (rest := []) rfl rfl rfl (by decide) rfl rfl rfl (bd_rcV hrc rfl) (by decide) (bd_lenC (n := 2) rfl (bd_slR (bd_slI bd_slN)) rfl) (bd_locC (n := 2) rfl (bd_slR (bd_slI bd_slN)) rfl (t_169 (e + 7) (by omega) v1 x1 h _ hc)) ?_
  refine rn_aload_n (i := 2) rfl rfl ?_
  refine rn_aload_n (i := 0) rfl rfl ?_
  refine rn_iload (i := 4) rfl rfl ?_
  refine rn_iconst (x := (nI 1)) rfl (by decide) ?_
  refine rn_iadd rfl ?_
  refine rn_aI rfl hb (fun x3 hb => ?_)
  obtain ⟨hrc, hb⟩ := grd_spec hb
  obtain ⟨p4, hc, hb⟩ := Option.bind_eq_some_iff.mp hb
  refine Rn.call1 (d := (e + 7)) (As := [va_rf v2, .int x3]) (rest := [.int p2.1]) rfl rfl rfl (by decide) rfl rfl rfl (bd_rcV hrc rfl) (by rw [bd_cI (bd_cN)]; decide) (bd_lenC (n := 3) rfl (bd_slR (bd_slI bd_slN)) rfl) (bd_locC (n := 3) rfl (bd_slR (bd_slI bd_slN)) rfl (t_299 (e + 7) (by omega) v2 x3 p2.2 _ hc)) ?_
  refine rn_icmp_eq rfl rfl (fun hc => ?_) (fun hc => ?_)
  · exact u_308_1317 (e + 8) hd k23 K23 v0 v1 v2 v3 v4 v5 v6  p4.2 _ (if_t hb hc)
  · exact u_308_1265 (e + 8) hd v0 v1 v2 v3 v4 v5 v6  p4.2 _ (if_f hb hc)
def b_308_1290   (h : Hp) : Option (Int32 × Hp) :=
  (grd (decide ((nI 0) = 0 ∨ (nI 0) = 1))).bind fun _ => some ((nI 0), h)
set_option maxRecDepth 100000 in
theorem u_308_1290 (d : Nat) (hd : 264 ≤ d) (v0 : Option Nat) (v1 : Option Nat) (v2 : Option Nat) (v3 : Option Nat) (v4 : Int32) (v5 : Option (Int32)) (v6 : Option (Int32))  (h : Hp) (r : Int32 × Hp) (hb : b_308_1290   h = some r) : Rn d 308 1290 [some (va_rf v0), some (va_rf v1), some (va_rf v2), some (va_rf v3), some (.int v4), v5.map Value.int, v6.map Value.int] [] h (some (.int r.1), r.2) := by
  unfold b_308_1290 at hb
  refine rn_iconst (x := (nI 0)) rfl (by decide) ?_
  obtain ⟨hz, hb⟩ := grd_spec hb
  obtain rfl := Option.some.inj hb
  exact rn_zret rfl rfl (of_decide_eq_true hz)
def b_308_1267 (k23 : Option Nat → Option Nat → Option Nat → Option Nat → Int32 → Hp → Option (Int32 × Hp)) (v0 : Option Nat) (v1 : Option Nat) (v2 : Option Nat) (v3 : Option Nat) (v4 : Int32)  (h : Hp) : Option (Int32 × Hp) :=
  (aI 12 v0 (v4 + (nI 1)) h).bind fun x1 =>
  (grd (rC 10 v1 h)).bind fun _ =>
  (f_170 v1 x1 h).bind fun p2 =>
  (aI 12 v0 (v4 + (nI 1)) p2.2).bind fun x3 =>
  (grd (rC 11 v2 p2.2)).bind fun _ =>
  (f_300 v2 x3 p2.2).bind fun p4 =>
  if p2.1 = p4.1 then b_308_1317 k23 v0 v1 v2 v3 v4  p4.2 else b_308_1290   p4.2
set_option maxRecDepth 100000 in
theorem u_308_1267 (d : Nat) (hd : 264 ≤ d) (k23 : Option Nat → Option Nat → Option Nat → Option Nat → Int32 → Hp → Option (Int32 × Hp)) (K23 : ∀ (v0 : Option Nat) (v1 : Option Nat) (v2 : Option Nat) (v3 : Option Nat) (v4 : Int32) (v5 : Option (Int32)) (v6 : Option (Int32)) (h : Hp) (r : Int32 × Hp), k23 v0 v1 v2 v3 v4 h = some r → Rn d 308 23 [some (va_rf v0), some (va_rf v1), some (va_rf v2), some (va_rf v3), some (.int v4), v5.map Value.int, v6.map Value.int] [] h (some (.int r.1), r.2)) (v0 : Option Nat) (v1 : Option Nat) (v2 : Option Nat) (v3 : Option Nat) (v4 : Int32) (v5 : Option (Int32)) (v6 : Option (Int32))  (h : Hp) (r : Int32 × Hp) (hb : b_308_1267 k23 v0 v1 v2 v3 v4  h = some r) : Rn d 308 1267 [some (va_rf v0), some (va_rf v1), some (va_rf v2), some (va_rf v3), some (.int v4), v5.map Value.int, v6.map Value.int] [] h (some (.int r.1), r.2) := by
  unfold b_308_1267 at hb
  obtain ⟨e, rfl⟩ : ∃ e, d = e + 8 := ⟨d - 8, by omega⟩
  refine rn_aload_n (i := 1) rfl rfl ?_
  refine rn_aload_n (i := 0) rfl rfl ?_
  refine rn_iload (i := 4) rfl rfl ?_
  refine rn_iconst (x := (nI 1)) rfl (by decide) ?_
  refine rn_iadd rfl ?_
  refine rn_aI rfl hb (fun x1 hb => ?_)
  obtain ⟨hrc, hb⟩ := grd_spec hb
  obtain ⟨p2, hc, hb⟩ := Option.bind_eq_some_iff.mp hb
  refine Rn.call1 (d := (e + 7)) (As := [va_rf v1, .int x1]) (rest := []) rfl rfl rfl (by decide) rfl rfl rfl (bd_rcV hrc rfl) (by decide) (bd_lenC (n := 2) rfl (bd_slR (bd_slI bd_slN)) rfl) (bd_locC (n := 2) rfl (bd_slR (bd_slI bd_slN)) rfl (t_170 (e + 7) (by omega) v1 x1 h _ hc)) ?_
  refine rn_aload_n (i := 2) rfl rfl ?_
  refine rn_aload_n (i := 0) rfl rfl ?_
  refine rn_iload (i := 4) rfl rfl ?_
  refine rn_iconst (x := (nI 1)) rfl (by decide) ?_
  refine rn_iadd rfl ?_
  refine rn_aI rfl hb (fun x3 hb => ?_)
  obtain ⟨hrc, hb⟩ := grd_spec hb
  obtain ⟨p4, hc, hb⟩ := Option.bind_eq_some_iff.mp hb
  refine Rn.call1 (d := (e + 7)) (As := [va_rf v2, .int x3]) (rest := [.int p2.1]) rfl rfl rfl (by decide) rfl rfl rfl (bd_rcV hrc rfl) (by rw [bd_cI (bd_cN)]; decide) (bd_lenC (n := 3) rfl (bd_slR (bd_slI bd_slN)) rfl) (bd_locC (n := 3) rfl (bd_slR (bd_slI bd_slN)) rfl (t_300 (e + 7) (by omega) v2 x3 p2.2 _ hc)) ?_
  refine rn_icmp_eq rfl rfl (fun hc => ?_) (fun hc => ?_)
  · exact u_308_1317 (e + 8) hd k23 K23 v0 v1 v2 v3 v4 v5 v6  p4.2 _ (if_t hb hc)
  · exact u_308_1290 (e + 8) hd v0 v1 v2 v3 v4 v5 v6  p4.2 _ (if_f hb hc)
def b_308_1315   (h : Hp) : Option (Int32 × Hp) :=
  (grd (decide ((nI 0) = 0 ∨ (nI 0) = 1))).bind fun _ => some ((nI 0), h)
set_option maxRecDepth 100000 in
theorem u_308_1315 (d : Nat) (hd : 264 ≤ d) (v0 : Option Nat) (v1 : Option Nat) (v2 : Option Nat) (v3 : Option Nat) (v4 : Int32) (v5 : Option (Int32)) (v6 : Option (Int32))  (h : Hp) (r : Int32 × Hp) (hb : b_308_1315   h = some r) : Rn d 308 1315 [some (va_rf v0), some (va_rf v1), some (va_rf v2), some (va_rf v3), some (.int v4), v5.map Value.int, v6.map Value.int] [] h (some (.int r.1), r.2) := by
  unfold b_308_1315 at hb
  refine rn_iconst (x := (nI 0)) rfl (by decide) ?_
  obtain ⟨hz, hb⟩ := grd_spec hb
  obtain rfl := Option.some.inj hb
  exact rn_zret rfl rfl (of_decide_eq_true hz)
def b_308_1292 (k23 : Option Nat → Option Nat → Option Nat → Option Nat → Int32 → Hp → Option (Int32 × Hp)) (v0 : Option Nat) (v1 : Option Nat) (v2 : Option Nat) (v3 : Option Nat) (v4 : Int32)  (h : Hp) : Option (Int32 × Hp) :=
  (aI 12 v0 (v4 + (nI 1)) h).bind fun x1 =>
  (grd (rC 10 v1 h)).bind fun _ =>
  (f_171 v1 x1 h).bind fun p2 =>
  (aI 12 v0 (v4 + (nI 1)) p2.2).bind fun x3 =>
  (grd (rC 11 v2 p2.2)).bind fun _ =>
  (f_301 v2 x3 p2.2).bind fun p4 =>
  if p2.1 = p4.1 then b_308_1317 k23 v0 v1 v2 v3 v4  p4.2 else b_308_1315   p4.2
set_option maxRecDepth 100000 in
theorem u_308_1292 (d : Nat) (hd : 264 ≤ d) (k23 : Option Nat → Option Nat → Option Nat → Option Nat → Int32 → Hp → Option (Int32 × Hp)) (K23 : ∀ (v0 : Option Nat) (v1 : Option Nat) (v2 : Option Nat) (v3 : Option Nat) (v4 : Int32) (v5 : Option (Int32)) (v6 : Option (Int32)) (h : Hp) (r : Int32 × Hp), k23 v0 v1 v2 v3 v4 h = some r → Rn d 308 23 [some (va_rf v0), some (va_rf v1), some (va_rf v2), some (va_rf v3), some (.int v4), v5.map Value.int, v6.map Value.int] [] h (some (.int r.1), r.2)) (v0 : Option Nat) (v1 : Option Nat) (v2 : Option Nat) (v3 : Option Nat) (v4 : Int32) (v5 : Option (Int32)) (v6 : Option (Int32))  (h : Hp) (r : Int32 × Hp) (hb : b_308_1292 k23 v0 v1 v2 v3 v4  h = some r) : Rn d 308 1292 [some (va_rf v0), some (va_rf v1), some (va_rf v2), some (va_rf v3), some (.int v4), v5.map Value.int, v6.map Value.int] [] h (some (.int r.1), r.2) := by
  unfold b_308_1292 at hb
  obtain ⟨e, rfl⟩ : ∃ e, d = e + 8 := ⟨d - 8, by omega⟩
  refine rn_aload_n (i := 1) rfl rfl ?_
  refine rn_aload_n (i := 0) rfl rfl ?_
  refine rn_iload (i := 4) rfl rfl ?_
  refine rn_iconst (x := (nI 1)) rfl (by decide) ?_
  refine rn_iadd rfl ?_
  refine rn_aI rfl hb (fun x1 hb => ?_)
  obtain ⟨hrc, hb⟩ := grd_spec hb
  obtain ⟨p2, hc, hb⟩ := Option.bind_eq_some_iff.mp hb
  refine Rn.call1 (d := (e + 7)) (As := [va_rf v1, .int x1]) (rest := []) rfl rfl rfl (by decide) rfl rfl rfl (bd_rcV hrc rfl) (by decide) (bd_lenC (n := 2) rfl (bd_slR (bd_slI bd_slN)) rfl) (bd_locC (n := 2) rfl (bd_slR (bd_slI bd_slN)) rfl (t_171 (e + 7) (by omega) v1 x1 h _ hc)) ?_
  refine rn_aload_n (i := 2) rfl rfl ?_
  refine rn_aload_n (i := 0) rfl rfl ?_
  refine rn_iload (i := 4) rfl rfl ?_
  refine rn_iconst (x := (nI 1)) rfl (by decide) ?_
  refine rn_iadd rfl ?_
  refine rn_aI rfl hb (fun x3 hb => ?_)
  obtain ⟨hrc, hb⟩ := grd_spec hb
  obtain ⟨p4, hc, hb⟩ := Option.bind_eq_some_iff.mp hb
  refine Rn.call1 (d := (e + 7)) (As := [va_rf v2, .int x3]) (rest := [.int p2.1]) rfl rfl rfl (by decide) rfl rfl rfl (bd_rcV hrc rfl) (by rw [bd_cI (bd_cN)]; decide) (bd_lenC (n := 2) rfl (bd_slR (bd_slI bd_slN)) rfl) (bd_locC (n := 2) rfl (bd_slR (bd_slI bd_slN)) rfl (t_301 (e + 7) (by omega) v2 x3 p2.2 _ hc)) ?_
  refine rn_icmp_eq rfl rfl (fun hc => ?_) (fun hc => ?_)
  · exact u_308_1317 (e + 8) hd k23 K23 v0 v1 v2 v3 v4 v5 v6  p4.2 _ (if_t hb hc)
  · exact u_308_1315 (e + 8) hd v0 v1 v2 v3 v4 v5 v6  p4.2 _ (if_f hb hc)
def b_308_33 (k23 : Option Nat → Option Nat → Option Nat → Option Nat → Int32 → Hp → Option (Int32 × Hp)) (v0 : Option Nat) (v1 : Option Nat) (v2 : Option Nat) (v3 : Option Nat) (v4 : Int32)  (h : Hp) : Option (Int32 × Hp) :=
  (aI 12 v0 v4 h).bind fun x1 =>
  bnd (x1 &&& (nI 63)) fun x2 =>
  if x2 = nI 0 then b_308_224 k23 v0 v1 v2 v3 v4  h else if x2 = nI 1 then b_308_297 k23 v0 v1 v2 v3 v4  h else if x2 = nI 2 then b_308_322 k23 v0 v1 v2 v3 v4  h else if x2 = nI 3 then b_308_335 k23 v0 v1 v2 v3 v4  h else if x2 = nI 4 then b_308_348 k23 v0 v1 v2 v3 v4  h else if x2 = nI 5 then b_308_385 k23 v0 v1 v2 v3 v4  h else if x2 = nI 6 then b_308_453 k23 v0 v1 v2 v3 v4  h else if x2 = nI 7 then b_308_514 k23 v0 v1 v2 v3 v4  h else if x2 = nI 8 then b_308_551 k23 v0 v1 v2 v3 v4  h else if x2 = nI 9 then b_308_588 k23 v0 v1 v2 v3 v4  h else if x2 = nI 10 then b_308_649 k23 v0 v1 v2 v3 v4  h else if x2 = nI 11 then b_308_662 k23 v0 v1 v2 v3 v4  h else if x2 = nI 12 then b_308_675 k23 v0 v1 v2 v3 v4  h else if x2 = nI 13 then b_308_700 k23 v0 v1 v2 v3 v4  h else if x2 = nI 14 then b_308_713 k23 v0 v1 v2 v3 v4  h else if x2 = nI 15 then b_308_738 k23 v0 v1 v2 v3 v4  h else if x2 = nI 16 then b_308_751 k23 v0 v1 v2 v3 v4  h else if x2 = nI 17 then b_308_800 k23 v0 v1 v2 v3 v4  h else if x2 = nI 18 then b_308_825 k23 v0 v1 v2 v3 v4  h else if x2 = nI 19 then b_308_850 k23 v0 v1 v2 v3 v4  h else if x2 = nI 20 then b_308_863 k23 v0 v1 v2 v3 v4  h else if x2 = nI 21 then b_308_876 k23 v0 v1 v2 v3 v4  h else if x2 = nI 22 then b_308_901 k23 v0 v1 v2 v3 v4  h else if x2 = nI 23 then b_308_938 k23 v0 v1 v2 v3 v4  h else if x2 = nI 24 then b_308_975 k23 v0 v1 v2 v3 v4  h else if x2 = nI 25 then b_308_988 k23 v0 v1 v2 v3 v4  h else if x2 = nI 26 then b_308_1013 k23 v0 v1 v2 v3 v4  h else if x2 = nI 27 then b_308_1026 k23 v0 v1 v2 v3 v4  h else if x2 = nI 28 then b_308_1039 k23 v0 v1 v2 v3 v4  h else if x2 = nI 29 then b_308_1052 k23 v0 v1 v2 v3 v4  h else if x2 = nI 30 then b_308_1077 k23 v0 v1 v2 v3 v4  h else if x2 = nI 31 then b_308_1090 k23 v0 v1 v2 v3 v4  h else if x2 = nI 32 then b_308_1127 k23 v0 v1 v2 v3 v4  h else if x2 = nI 33 then b_308_1152 k23 v0 v1 v2 v3 v4  h else if x2 = nI 34 then b_308_1165 k23 v0 v1 v2 v3 v4  h else if x2 = nI 35 then b_308_1190 k23 v0 v1 v2 v3 v4  h else if x2 = nI 36 then b_308_1203 k23 v0 v1 v2 v3 v4  h else if x2 = nI 37 then b_308_1216 k23 v0 v1 v2 v3 v4  h else if x2 = nI 38 then b_308_1229 k23 v0 v1 v2 v3 v4  h else if x2 = nI 39 then b_308_1242 k23 v0 v1 v2 v3 v4  h else if x2 = nI 40 then b_308_1267 k23 v0 v1 v2 v3 v4  h else if x2 = nI 41 then b_308_1292 k23 v0 v1 v2 v3 v4  h else b_308_1317 k23 v0 v1 v2 v3 v4  h
set_option maxRecDepth 100000 in
theorem u_308_33 (d : Nat) (hd : 264 ≤ d) (k23 : Option Nat → Option Nat → Option Nat → Option Nat → Int32 → Hp → Option (Int32 × Hp)) (K23 : ∀ (v0 : Option Nat) (v1 : Option Nat) (v2 : Option Nat) (v3 : Option Nat) (v4 : Int32) (v5 : Option (Int32)) (v6 : Option (Int32)) (h : Hp) (r : Int32 × Hp), k23 v0 v1 v2 v3 v4 h = some r → Rn d 308 23 [some (va_rf v0), some (va_rf v1), some (va_rf v2), some (va_rf v3), some (.int v4), v5.map Value.int, v6.map Value.int] [] h (some (.int r.1), r.2)) (v0 : Option Nat) (v1 : Option Nat) (v2 : Option Nat) (v3 : Option Nat) (v4 : Int32) (v5 : Option (Int32)) (v6 : Option (Int32))  (h : Hp) (r : Int32 × Hp) (hb : b_308_33 k23 v0 v1 v2 v3 v4  h = some r) : Rn d 308 33 [some (va_rf v0), some (va_rf v1), some (va_rf v2), some (va_rf v3), some (.int v4), v5.map Value.int, v6.map Value.int] [] h (some (.int r.1), r.2) := by
  unfold b_308_33 at hb
  refine rn_aload_n (i := 0) rfl rfl ?_
  refine rn_iload (i := 4) rfl rfl ?_
  refine rn_aI rfl hb (fun x1 hb => ?_)
  refine rn_bipush (x := (nI 63)) rfl (by decide) ?_
  refine rn_iand rfl ?_
  obtain ⟨x2, ex2, hb⟩ := bnd_spec hb
  rw [← ex2]
  by_cases hc0 : x2 = nI 0
  · rw [if_pos hc0] at hb; refine rn_tsw (t := 224) rfl (by rw [hc0]; decide) ?_; exact u_308_224 d hd k23 K23 v0 v1 v2 v3 v4 v5 v6  h _ hb
  rw [if_neg hc0] at hb
  by_cases hc1 : x2 = nI 1
  · rw [if_pos hc1] at hb; refine rn_tsw (t := 297) rfl (by rw [hc1]; decide) ?_; exact u_308_297 d hd k23 K23 v0 v1 v2 v3 v4 v5 v6  h _ hb
  rw [if_neg hc1] at hb
  by_cases hc2 : x2 = nI 2
  · rw [if_pos hc2] at hb; refine rn_tsw (t := 322) rfl (by rw [hc2]; decide) ?_; exact u_308_322 d hd k23 K23 v0 v1 v2 v3 v4 v5 v6  h _ hb
  rw [if_neg hc2] at hb
  by_cases hc3 : x2 = nI 3
  · rw [if_pos hc3] at hb; refine rn_tsw (t := 335) rfl (by rw [hc3]; decide) ?_; exact u_308_335 d hd k23 K23 v0 v1 v2 v3 v4 v5 v6  h _ hb
  rw [if_neg hc3] at hb
  by_cases hc4 : x2 = nI 4
  · rw [if_pos hc4] at hb; refine rn_tsw (t := 348) rfl (by rw [hc4]; decide) ?_; exact u_308_348 d hd k23 K23 v0 v1 v2 v3 v4 v5 v6  h _ hb
  rw [if_neg hc4] at hb
  by_cases hc5 : x2 = nI 5
  · rw [if_pos hc5] at hb; refine rn_tsw (t := 385) rfl (by rw [hc5]; decide) ?_; exact u_308_385 d hd k23 K23 v0 v1 v2 v3 v4 v5 v6  h _ hb
  rw [if_neg hc5] at hb
  by_cases hc6 : x2 = nI 6
  · rw [if_pos hc6] at hb; refine rn_tsw (t := 453) rfl (by rw [hc6]; decide) ?_; exact u_308_453 d hd k23 K23 v0 v1 v2 v3 v4 v5 v6  h _ hb
  rw [if_neg hc6] at hb
  by_cases hc7 : x2 = nI 7
  · rw [if_pos hc7] at hb; refine rn_tsw (t := 514) rfl (by rw [hc7]; decide) ?_; exact u_308_514 d hd k23 K23 v0 v1 v2 v3 v4 v5 v6  h _ hb
  rw [if_neg hc7] at hb
  by_cases hc8 : x2 = nI 8
  · rw [if_pos hc8] at hb; refine rn_tsw (t := 551) rfl (by rw [hc8]; decide) ?_; exact u_308_551 d hd k23 K23 v0 v1 v2 v3 v4 v5 v6  h _ hb
  rw [if_neg hc8] at hb
  by_cases hc9 : x2 = nI 9
  · rw [if_pos hc9] at hb; refine rn_tsw (t := 588) rfl (by rw [hc9]; decide) ?_; exact u_308_588 d hd k23 K23 v0 v1 v2 v3 v4 v5 v6  h _ hb
  rw [if_neg hc9] at hb
  by_cases hc10 : x2 = nI 10
  · rw [if_pos hc10] at hb; refine rn_tsw (t := 649) rfl (by rw [hc10]; decide) ?_; exact u_308_649 d hd k23 K23 v0 v1 v2 v3 v4 v5 v6  h _ hb
  rw [if_neg hc10] at hb
  by_cases hc11 : x2 = nI 11
  · rw [if_pos hc11] at hb; refine rn_tsw (t := 662) rfl (by rw [hc11]; decide) ?_; exact u_308_662 d hd k23 K23 v0 v1 v2 v3 v4 v5 v6  h _ hb
  rw [if_neg hc11] at hb
  by_cases hc12 : x2 = nI 12
  · rw [if_pos hc12] at hb; refine rn_tsw (t := 675) rfl (by rw [hc12]; decide) ?_; exact u_308_675 d hd k23 K23 v0 v1 v2 v3 v4 v5 v6  h _ hb
  rw [if_neg hc12] at hb
  by_cases hc13 : x2 = nI 13
  · rw [if_pos hc13] at hb; refine rn_tsw (t := 700) rfl (by rw [hc13]; decide) ?_; exact u_308_700 d hd k23 K23 v0 v1 v2 v3 v4 v5 v6  h _ hb
  rw [if_neg hc13] at hb
  by_cases hc14 : x2 = nI 14
  · rw [if_pos hc14] at hb; refine rn_tsw (t := 713) rfl (by rw [hc14]; decide) ?_; exact u_308_713 d hd k23 K23 v0 v1 v2 v3 v4 v5 v6  h _ hb
  rw [if_neg hc14] at hb
  by_cases hc15 : x2 = nI 15
  · rw [if_pos hc15] at hb; refine rn_tsw (t := 738) rfl (by rw [hc15]; decide) ?_; exact u_308_738 d hd k23 K23 v0 v1 v2 v3 v4 v5 v6  h _ hb
  rw [if_neg hc15] at hb
  by_cases hc16 : x2 = nI 16
  · rw [if_pos hc16] at hb; refine rn_tsw (t := 751) rfl (by rw [hc16]; decide) ?_; exact u_308_751 d hd k23 K23 v0 v1 v2 v3 v4 v5 v6  h _ hb
  rw [if_neg hc16] at hb
  by_cases hc17 : x2 = nI 17
  · rw [if_pos hc17] at hb; refine rn_tsw (t := 800) rfl (by rw [hc17]; decide) ?_; exact u_308_800 d hd k23 K23 v0 v1 v2 v3 v4 v5 v6  h _ hb
  rw [if_neg hc17] at hb
  by_cases hc18 : x2 = nI 18
  · rw [if_pos hc18] at hb; refine rn_tsw (t := 825) rfl (by rw [hc18]; decide) ?_; exact u_308_825 d hd k23 K23 v0 v1 v2 v3 v4 v5 v6  h _ hb
  rw [if_neg hc18] at hb
  by_cases hc19 : x2 = nI 19
  · rw [if_pos hc19] at hb; refine rn_tsw (t := 850) rfl (by rw [hc19]; decide) ?_; exact u_308_850 d hd k23 K23 v0 v1 v2 v3 v4 v5 v6  h _ hb
  rw [if_neg hc19] at hb
  by_cases hc20 : x2 = nI 20
  · rw [if_pos hc20] at hb; refine rn_tsw (t := 863) rfl (by rw [hc20]; decide) ?_; exact u_308_863 d hd k23 K23 v0 v1 v2 v3 v4 v5 v6  h _ hb
  rw [if_neg hc20] at hb
  by_cases hc21 : x2 = nI 21
  · rw [if_pos hc21] at hb; refine rn_tsw (t := 876) rfl (by rw [hc21]; decide) ?_; exact u_308_876 d hd k23 K23 v0 v1 v2 v3 v4 v5 v6  h _ hb
  rw [if_neg hc21] at hb
  by_cases hc22 : x2 = nI 22
  · rw [if_pos hc22] at hb; refine rn_tsw (t := 901) rfl (by rw [hc22]; decide) ?_; exact u_308_901 d hd k23 K23 v0 v1 v2 v3 v4 v5 v6  h _ hb
  rw [if_neg hc22] at hb
  by_cases hc23 : x2 = nI 23
  · rw [if_pos hc23] at hb; refine rn_tsw (t := 938) rfl (by rw [hc23]; decide) ?_; exact u_308_938 d hd k23 K23 v0 v1 v2 v3 v4 v5 v6  h _ hb
  rw [if_neg hc23] at hb
  by_cases hc24 : x2 = nI 24
  · rw [if_pos hc24] at hb; refine rn_tsw (t := 975) rfl (by rw [hc24]; decide) ?_; exact u_308_975 d hd k23 K23 v0 v1 v2 v3 v4 v5 v6  h _ hb
  rw [if_neg hc24] at hb
  by_cases hc25 : x2 = nI 25
  · rw [if_pos hc25] at hb; refine rn_tsw (t := 988) rfl (by rw [hc25]; decide) ?_; exact u_308_988 d hd k23 K23 v0 v1 v2 v3 v4 v5 v6  h _ hb
  rw [if_neg hc25] at hb
  by_cases hc26 : x2 = nI 26
  · rw [if_pos hc26] at hb; refine rn_tsw (t := 1013) rfl (by rw [hc26]; decide) ?_; exact u_308_1013 d hd k23 K23 v0 v1 v2 v3 v4 v5 v6  h _ hb
  rw [if_neg hc26] at hb
  by_cases hc27 : x2 = nI 27
  · rw [if_pos hc27] at hb; refine rn_tsw (t := 1026) rfl (by rw [hc27]; decide) ?_; exact u_308_1026 d hd k23 K23 v0 v1 v2 v3 v4 v5 v6  h _ hb
  rw [if_neg hc27] at hb
  by_cases hc28 : x2 = nI 28
  · rw [if_pos hc28] at hb; refine rn_tsw (t := 1039) rfl (by rw [hc28]; decide) ?_; exact u_308_1039 d hd k23 K23 v0 v1 v2 v3 v4 v5 v6  h _ hb
  rw [if_neg hc28] at hb
  by_cases hc29 : x2 = nI 29
  · rw [if_pos hc29] at hb; refine rn_tsw (t := 1052) rfl (by rw [hc29]; decide) ?_; exact u_308_1052 d hd k23 K23 v0 v1 v2 v3 v4 v5 v6  h _ hb
  rw [if_neg hc29] at hb
  by_cases hc30 : x2 = nI 30
  · rw [if_pos hc30] at hb; refine rn_tsw (t := 1077) rfl (by rw [hc30]; decide) ?_; exact u_308_1077 d hd k23 K23 v0 v1 v2 v3 v4 v5 v6  h _ hb
  rw [if_neg hc30] at hb
  by_cases hc31 : x2 = nI 31
  · rw [if_pos hc31] at hb; refine rn_tsw (t := 1090) rfl (by rw [hc31]; decide) ?_; exact u_308_1090 d hd k23 K23 v0 v1 v2 v3 v4 v5 v6  h _ hb
  rw [if_neg hc31] at hb
  by_cases hc32 : x2 = nI 32
  · rw [if_pos hc32] at hb; refine rn_tsw (t := 1127) rfl (by rw [hc32]; decide) ?_; exact u_308_1127 d hd k23 K23 v0 v1 v2 v3 v4 v5 v6  h _ hb
  rw [if_neg hc32] at hb
  by_cases hc33 : x2 = nI 33
  · rw [if_pos hc33] at hb; refine rn_tsw (t := 1152) rfl (by rw [hc33]; decide) ?_; exact u_308_1152 d hd k23 K23 v0 v1 v2 v3 v4 v5 v6  h _ hb
  rw [if_neg hc33] at hb
  by_cases hc34 : x2 = nI 34
  · rw [if_pos hc34] at hb; refine rn_tsw (t := 1165) rfl (by rw [hc34]; decide) ?_; exact u_308_1165 d hd k23 K23 v0 v1 v2 v3 v4 v5 v6  h _ hb
  rw [if_neg hc34] at hb
  by_cases hc35 : x2 = nI 35
  · rw [if_pos hc35] at hb; refine rn_tsw (t := 1190) rfl (by rw [hc35]; decide) ?_; exact u_308_1190 d hd k23 K23 v0 v1 v2 v3 v4 v5 v6  h _ hb
  rw [if_neg hc35] at hb
  by_cases hc36 : x2 = nI 36
  · rw [if_pos hc36] at hb; refine rn_tsw (t := 1203) rfl (by rw [hc36]; decide) ?_; exact u_308_1203 d hd k23 K23 v0 v1 v2 v3 v4 v5 v6  h _ hb
  rw [if_neg hc36] at hb
  by_cases hc37 : x2 = nI 37
  · rw [if_pos hc37] at hb; refine rn_tsw (t := 1216) rfl (by rw [hc37]; decide) ?_; exact u_308_1216 d hd k23 K23 v0 v1 v2 v3 v4 v5 v6  h _ hb
  rw [if_neg hc37] at hb
  by_cases hc38 : x2 = nI 38
  · rw [if_pos hc38] at hb; refine rn_tsw (t := 1229) rfl (by rw [hc38]; decide) ?_; exact u_308_1229 d hd k23 K23 v0 v1 v2 v3 v4 v5 v6  h _ hb
  rw [if_neg hc38] at hb
  by_cases hc39 : x2 = nI 39
  · rw [if_pos hc39] at hb; refine rn_tsw (t := 1242) rfl (by rw [hc39]; decide) ?_; exact u_308_1242 d hd k23 K23 v0 v1 v2 v3 v4 v5 v6  h _ hb
  rw [if_neg hc39] at hb
  by_cases hc40 : x2 = nI 40
  · rw [if_pos hc40] at hb; refine rn_tsw (t := 1267) rfl (by rw [hc40]; decide) ?_; exact u_308_1267 d hd k23 K23 v0 v1 v2 v3 v4 v5 v6  h _ hb
  rw [if_neg hc40] at hb
  by_cases hc41 : x2 = nI 41
  · rw [if_pos hc41] at hb; refine rn_tsw (t := 1292) rfl (by rw [hc41]; decide) ?_; exact u_308_1292 d hd k23 K23 v0 v1 v2 v3 v4 v5 v6  h _ hb
  rw [if_neg hc41] at hb
  have z0 := sw_ne hc0 (by decide)
  have z1 := sw_ne hc1 (by decide)
  have z2 := sw_ne hc2 (by decide)
  have z3 := sw_ne hc3 (by decide)
  have z4 := sw_ne hc4 (by decide)
  have z5 := sw_ne hc5 (by decide)
  have z6 := sw_ne hc6 (by decide)
  have z7 := sw_ne hc7 (by decide)
  have z8 := sw_ne hc8 (by decide)
  have z9 := sw_ne hc9 (by decide)
  have z10 := sw_ne hc10 (by decide)
  have z11 := sw_ne hc11 (by decide)
  have z12 := sw_ne hc12 (by decide)
  have z13 := sw_ne hc13 (by decide)
  have z14 := sw_ne hc14 (by decide)
  have z15 := sw_ne hc15 (by decide)
  have z16 := sw_ne hc16 (by decide)
  have z17 := sw_ne hc17 (by decide)
  have z18 := sw_ne hc18 (by decide)
  have z19 := sw_ne hc19 (by decide)
  have z20 := sw_ne hc20 (by decide)
  have z21 := sw_ne hc21 (by decide)
  have z22 := sw_ne hc22 (by decide)
  have z23 := sw_ne hc23 (by decide)
  have z24 := sw_ne hc24 (by decide)
  have z25 := sw_ne hc25 (by decide)
  have z26 := sw_ne hc26 (by decide)
  have z27 := sw_ne hc27 (by decide)
  have z28 := sw_ne hc28 (by decide)
  have z29 := sw_ne hc29 (by decide)
  have z30 := sw_ne hc30 (by decide)
  have z31 := sw_ne hc31 (by decide)
  have z32 := sw_ne hc32 (by decide)
  have z33 := sw_ne hc33 (by decide)
  have z34 := sw_ne hc34 (by decide)
  have z35 := sw_ne hc35 (by decide)
  have z36 := sw_ne hc36 (by decide)
  have z37 := sw_ne hc37 (by decide)
  have z38 := sw_ne hc38 (by decide)
  have z39 := sw_ne hc39 (by decide)
  have z40 := sw_ne hc40 (by decide)
  have z41 := sw_ne hc41 (by decide)
  refine rn_tsw (t := 1317) rfl (swT_d (by omega) rfl) ?_
  exact u_308_1317 d hd k23 K23 v0 v1 v2 v3 v4 v5 v6  h _ hb
def b_308_23 (k23 : Option Nat → Option Nat → Option Nat → Option Nat → Int32 → Hp → Option (Int32 × Hp)) (v0 : Option Nat) (v1 : Option Nat) (v2 : Option Nat) (v3 : Option Nat) (v4 : Int32)  (h : Hp) : Option (Int32 × Hp) :=
  (aL v0 h).bind fun x1 =>
  if (x1 - (nI 6)) < v4 then b_308_1323   h else b_308_33 k23 v0 v1 v2 v3 v4  h
set_option maxRecDepth 100000 in
theorem u_308_23 (d : Nat) (hd : 264 ≤ d) (k23 : Option Nat → Option Nat → Option Nat → Option Nat → Int32 → Hp → Option (Int32 × Hp)) (K23 : ∀ (v0 : Option Nat) (v1 : Option Nat) (v2 : Option Nat) (v3 : Option Nat) (v4 : Int32) (v5 : Option (Int32)) (v6 : Option (Int32)) (h : Hp) (r : Int32 × Hp), k23 v0 v1 v2 v3 v4 h = some r → Rn d 308 23 [some (va_rf v0), some (va_rf v1), some (va_rf v2), some (va_rf v3), some (.int v4), v5.map Value.int, v6.map Value.int] [] h (some (.int r.1), r.2)) (v0 : Option Nat) (v1 : Option Nat) (v2 : Option Nat) (v3 : Option Nat) (v4 : Int32) (v5 : Option (Int32)) (v6 : Option (Int32))  (h : Hp) (r : Int32 × Hp) (hb : b_308_23 k23 v0 v1 v2 v3 v4  h = some r) : Rn d 308 23 [some (va_rf v0), some (va_rf v1), some (va_rf v2), some (va_rf v3), some (.int v4), v5.map Value.int, v6.map Value.int] [] h (some (.int r.1), r.2) := by
  unfold b_308_23 at hb
  refine rn_iload (i := 4) rfl rfl ?_
  refine rn_aload_n (i := 0) rfl rfl ?_
  refine rn_aL rfl hb (fun x1 hb => ?_)
  refine rn_bipush (x := (nI 6)) rfl (by decide) ?_
  refine rn_isub rfl ?_
  refine rn_icmp_gt rfl rfl (fun hc => ?_) (fun hc => ?_)
  · exact u_308_1323 d hd v0 v1 v2 v3 v4 v5 v6  h _ (if_t hb hc)
  · exact u_308_33 d hd k23 K23 v0 v1 v2 v3 v4 v5 v6  h _ (if_f hb hc)
def l_308_23 : Nat → Option Nat → Option Nat → Option Nat → Option Nat → Int32 → Hp → Option (Int32 × Hp)
  | 0, _, _, _, _, _, _ => none
  | n + 1, v0, v1, v2, v3, v4, h => b_308_23 (l_308_23 n) v0 v1 v2 v3 v4 h
set_option maxRecDepth 100000 in
theorem w_308_23 (d : Nat) (hd : 264 ≤ d) : ∀ (n : Nat) (v0 : Option Nat) (v1 : Option Nat) (v2 : Option Nat) (v3 : Option Nat) (v4 : Int32) (v5 : Option (Int32)) (v6 : Option (Int32)) (h : Hp) (r : Int32 × Hp), l_308_23 n v0 v1 v2 v3 v4 h = some r → Rn d 308 23 [some (va_rf v0), some (va_rf v1), some (va_rf v2), some (va_rf v3), some (.int v4), v5.map Value.int, v6.map Value.int] [] h (some (.int r.1), r.2) := by
  intro n
  induction n with
  | zero => intro v0 v1 v2 v3 v4 v5 v6 h r hb; cases hb
  | succ n ih => intro v0 v1 v2 v3 v4 v5 v6 h r hb; exact u_308_23 d hd (l_308_23 n) ih v0 v1 v2 v3 v4 v5 v6 h r hb
def b_308_0 (v0 : Option Nat)  (h : Hp) : Option (Int32 × Hp) :=
  bnd (hNew h 10 0 (bd_nf 10)) fun h1 =>
  (grd (some (hN h)).isSome).bind fun _ =>
  (f_129 (some (hN h)) h1).bind fun p2 =>
  bnd ((some (hN h))) fun x3 =>
  bnd (hNew p2 11 0 (bd_nf 11)) fun h4 =>
  (grd (some (hN p2)).isSome).bind fun _ =>
  (f_175 (some (hN p2)) h4).bind fun p5 =>
  bnd ((some (hN p2))) fun x6 =>
  (nA 13 (nI 1) p5).bind fun h7 =>
  bnd ((some (hN p5))) fun x8 =>
  bnd ((nI 0)) fun x9 =>
  l_308_23 FU v0 x3 x6 x8 x9 h7
set_option maxRecDepth 100000 in
theorem u_308_0 (d : Nat) (hd : 264 ≤ d) (v0 : Option Nat)  (h : Hp) (r : Int32 × Hp) (hb : b_308_0 v0  h = some r) : Rn d 308 0 [some (va_rf v0), none, none, none, none, none, none] [] h (some (.int r.1), r.2) := by
  unfold b_308_0 at hb
  obtain ⟨e, rfl⟩ : ∃ e, d = e + 8 := ⟨d - 8, by omega⟩
  obtain ⟨h1, eh1, hb⟩ := bnd_spec hb
  refine rn_new rfl (by decide) ?_
  rw [← eh1]
  refine rn_dup rfl (bd_cat_rf _) ?_
  obtain ⟨hrc, hb⟩ := grd_spec hb
  obtain ⟨p2, hc, hb⟩ := Option.bind_eq_some_iff.mp hb
  refine Rn.call0 (d := (e + 7)) (As := [va_rf (some (hN h))]) (rest := [va_rf (some (hN h))]) rfl rfl rfl (by decide) rfl rfl rfl (bd_rcI hrc) (by rw [bd_cR (bd_cN)]; decide) (bd_lenC (n := 1) rfl (bd_slR bd_slN) rfl) (bd_locC (n := 1) rfl (bd_slR bd_slN) rfl (t_129 (e + 7) (by omega) (some (hN h)) h1 _ hc)) ?_
  obtain ⟨x3, ex3, hb⟩ := bnd_spec hb
  refine rn_astore_n (i := 1) (L1 := [some (va_rf v0), some (va_rf x3), none, none, none, none, none]) rfl (Nat.le_of_ble_eq_true rfl) (Or.inr (bd_wideR rfl)) (by rw [ex3]; rfl) ?_
  obtain ⟨h4, eh4, hb⟩ := bnd_spec hb
  refine rn_new rfl (by decide) ?_
  rw [← eh4]
  refine rn_dup rfl (bd_cat_rf _) ?_
  obtain ⟨hrc, hb⟩ := grd_spec hb
  obtain ⟨p5, hc, hb⟩ := Option.bind_eq_some_iff.mp hb
  refine Rn.call0 (d := (e + 7)) (As := [va_rf (some (hN p2))]) (rest := [va_rf (some (hN p2))]) rfl rfl rfl (by decide) rfl rfl rfl (bd_rcI hrc) (by rw [bd_cR (bd_cN)]; decide) (bd_lenC (n := 1) rfl (bd_slR bd_slN) rfl) (bd_locC (n := 1) rfl (bd_slR bd_slN) rfl (t_175 (e + 7) (by omega) (some (hN p2)) h4 _ hc)) ?_
  obtain ⟨x6, ex6, hb⟩ := bnd_spec hb
  refine rn_astore_n (i := 2) (L1 := [some (va_rf v0), some (va_rf x3), some (va_rf x6), none, none, none, none]) rfl (Nat.le_of_ble_eq_true rfl) (Or.inr (bd_wideR rfl)) (by rw [ex6]; rfl) ?_
  refine rn_iconst (x := (nI 1)) rfl (by decide) ?_
  refine rn_newarray rfl hb (fun h7 hb => ?_)
  obtain ⟨x8, ex8, hb⟩ := bnd_spec hb
  refine rn_astore_n (i := 3) (L1 := [some (va_rf v0), some (va_rf x3), some (va_rf x6), some (va_rf x8), none, none, none]) rfl (Nat.le_of_ble_eq_true rfl) (Or.inr (bd_wideR rfl)) (by rw [ex8]; rfl) ?_
  refine rn_iconst (x := (nI 0)) rfl (by decide) ?_
  obtain ⟨x9, ex9, hb⟩ := bnd_spec hb
  refine rn_istore (i := 4) (L1 := [some (va_rf v0), some (va_rf x3), some (va_rf x6), some (va_rf x8), some (.int x9), none, none]) rfl (Nat.le_of_ble_eq_true rfl) (Or.inr (bd_wideR rfl)) (by rw [ex9]; rfl) ?_
  exact w_308_23 (e + 8) hd FU v0 x3 x6 x8 x9 (none : Option (Int32)) (none : Option (Int32)) h7 _ hb
/-- BitingDoorsLaw.law([I)Z -/
def f_308 (v0 : Option Nat) (h : Hp) : Option (Int32 × Hp) := b_308_0 v0 h
set_option maxRecDepth 100000 in
theorem t_308 (d : Nat) (hd : 264 ≤ d) (v0 : Option Nat) (h : Hp) (r : Int32 × Hp) (hb : f_308 v0 h = some r) : Rn d 308 0 [some (va_rf v0), none, none, none, none, none, none] [] h (some (.int r.1), r.2) := by
  unfold f_308 at hb
  exact u_308_0 d hd v0 h r hb
