def b_282_30   (h : Hp) : Option (Int32 × Hp) :=
  some ((-1 : Int32), h)
theorem u_282_30 (d : Nat) (hd : 7 ≤ d) (v0 : Option Nat) (v1 : Int32)  (h : Hp) (r : Int32 × Hp) (hb : b_282_30   h = some r) : Rn d 282 30 [some (va_rf v0), some (.int v1), none, none] [] h (some (.int r.1), r.2) := by
  unfold b_282_30 at hb
  refine rn_iconst (x := (-1 : Int32)) rfl (by decide) ?_
  obtain rfl := Option.some.inj hb
  exact rn_iret rfl rfl
def b_282_150 (v2 : Int32)  (h : Hp) : Option (Int32 × Hp) :=
  some (v2, h)
theorem u_282_150 (d : Nat) (hd : 7 ≤ d) (v0 : Option Nat) (v1 : Int32) (v2 : Int32) (v3 : Int32)  (h : Hp) (r : Int32 × Hp) (hb : b_282_150 v2  h = some r) : Rn d 282 150 [some (va_rf v0), some (.int v1), some (.int v2), some (.int v3)] [] h (some (.int r.1), r.2) := by
  unfold b_282_150 at hb
  refine rn_iload_n (i := 2) rfl rfl ?_
  obtain rfl := Option.some.inj hb
  exact rn_iret rfl rfl
def b_282_144 (k126 : Option Nat → Int32 → Int32 → Hp → Option (Int32 × Hp)) (v0 : Option Nat) (v2 : Int32) (v3 : Int32)  (h : Hp) : Option (Int32 × Hp) :=
  bnd (v3 + (nI 1)) fun x1 =>
  k126 v0 v2 x1 h
theorem u_282_144 (d : Nat) (hd : 7 ≤ d) (k126 : Option Nat → Int32 → Int32 → Hp → Option (Int32 × Hp)) (K126 : ∀ (v0 : Option Nat) (v1 : Int32) (v2 : Int32) (v3 : Int32) (h : Hp) (r : Int32 × Hp), k126 v0 v2 v3 h = some r → Rn d 282 126 [some (va_rf v0), some (.int v1), some (.int v2), some (.int v3)] [] h (some (.int r.1), r.2)) (v0 : Option Nat) (v1 : Int32) (v2 : Int32) (v3 : Int32)  (h : Hp) (r : Int32 × Hp) (hb : b_282_144 k126 v0 v2 v3  h = some r) : Rn d 282 144 [some (va_rf v0), some (.int v1), some (.int v2), some (.int v3)] [] h (some (.int r.1), r.2) := by
  unfold b_282_144 at hb
  obtain ⟨x1, ex1, hb⟩ := bnd_spec hb
  refine rn_iinc (i := 3) (y := x1) (L1 := [some (va_rf v0), some (.int v1), some (.int v2), some (.int x1)]) rfl rfl (Nat.le_of_ble_eq_true rfl) (Or.inr rfl) (by rw [ex1]; rfl) rfl ?_
  refine rn_goto rfl rfl ?_
  exact K126 v0 v1 v2 x1 h _ hb
def b_282_141 (k126 : Option Nat → Int32 → Int32 → Hp → Option (Int32 × Hp)) (v0 : Option Nat) (v2 : Int32) (v3 : Int32)  (h : Hp) : Option (Int32 × Hp) :=
  bnd (v2 + (nI 1)) fun x1 =>
  b_282_144 k126 v0 x1 v3  h
theorem u_282_141 (d : Nat) (hd : 7 ≤ d) (k126 : Option Nat → Int32 → Int32 → Hp → Option (Int32 × Hp)) (K126 : ∀ (v0 : Option Nat) (v1 : Int32) (v2 : Int32) (v3 : Int32) (h : Hp) (r : Int32 × Hp), k126 v0 v2 v3 h = some r → Rn d 282 126 [some (va_rf v0), some (.int v1), some (.int v2), some (.int v3)] [] h (some (.int r.1), r.2)) (v0 : Option Nat) (v1 : Int32) (v2 : Int32) (v3 : Int32)  (h : Hp) (r : Int32 × Hp) (hb : b_282_141 k126 v0 v2 v3  h = some r) : Rn d 282 141 [some (va_rf v0), some (.int v1), some (.int v2), some (.int v3)] [] h (some (.int r.1), r.2) := by
  unfold b_282_141 at hb
  obtain ⟨x1, ex1, hb⟩ := bnd_spec hb
  refine rn_iinc (i := 2) (y := x1) (L1 := [some (va_rf v0), some (.int v1), some (.int x1), some (.int v3)]) rfl rfl (Nat.le_of_ble_eq_true rfl) (Or.inr rfl) (by rw [ex1]; rfl) rfl ?_
  exact u_282_144 d hd k126 K126 v0 v1 x1 v3  h _ hb
def b_282_132 (k126 : Option Nat → Int32 → Int32 → Hp → Option (Int32 × Hp)) (v0 : Option Nat) (v2 : Int32) (v3 : Int32)  (h : Hp) : Option (Int32 × Hp) :=
  (gQ 11 58 v0 h).bind fun x1 =>
  (aI 14 x1 v3 h).bind fun x2 =>
  if x2 = 0 then b_282_144 k126 v0 v2 v3  h else b_282_141 k126 v0 v2 v3  h
theorem u_282_132 (d : Nat) (hd : 7 ≤ d) (k126 : Option Nat → Int32 → Int32 → Hp → Option (Int32 × Hp)) (K126 : ∀ (v0 : Option Nat) (v1 : Int32) (v2 : Int32) (v3 : Int32) (h : Hp) (r : Int32 × Hp), k126 v0 v2 v3 h = some r → Rn d 282 126 [some (va_rf v0), some (.int v1), some (.int v2), some (.int v3)] [] h (some (.int r.1), r.2)) (v0 : Option Nat) (v1 : Int32) (v2 : Int32) (v3 : Int32)  (h : Hp) (r : Int32 × Hp) (hb : b_282_132 k126 v0 v2 v3  h = some r) : Rn d 282 132 [some (va_rf v0), some (.int v1), some (.int v2), some (.int v3)] [] h (some (.int r.1), r.2) := by
  unfold b_282_132 at hb
  refine rn_aload_n (i := 0) rfl rfl ?_
  refine rn_gQ (c := 11) (k := 58) rfl (by decide) hb (fun x1 hb => ?_)
  refine rn_iload_n (i := 3) rfl rfl ?_
  refine rn_aZ rfl hb (fun x2 hb => ?_)
  refine rn_if_eq rfl rfl (fun hc => ?_) (fun hc => ?_)
  · exact u_282_144 d hd k126 K126 v0 v1 v2 v3  h _ (if_t hb hc)
  · exact u_282_141 d hd k126 K126 v0 v1 v2 v3  h _ (if_f hb hc)
def b_282_126 (k126 : Option Nat → Int32 → Int32 → Hp → Option (Int32 × Hp)) (v0 : Option Nat) (v2 : Int32) (v3 : Int32)  (h : Hp) : Option (Int32 × Hp) :=
  if (nI 100) ≤ v3 then b_282_150 v2  h else b_282_132 k126 v0 v2 v3  h
theorem u_282_126 (d : Nat) (hd : 7 ≤ d) (k126 : Option Nat → Int32 → Int32 → Hp → Option (Int32 × Hp)) (K126 : ∀ (v0 : Option Nat) (v1 : Int32) (v2 : Int32) (v3 : Int32) (h : Hp) (r : Int32 × Hp), k126 v0 v2 v3 h = some r → Rn d 282 126 [some (va_rf v0), some (.int v1), some (.int v2), some (.int v3)] [] h (some (.int r.1), r.2)) (v0 : Option Nat) (v1 : Int32) (v2 : Int32) (v3 : Int32)  (h : Hp) (r : Int32 × Hp) (hb : b_282_126 k126 v0 v2 v3  h = some r) : Rn d 282 126 [some (va_rf v0), some (.int v1), some (.int v2), some (.int v3)] [] h (some (.int r.1), r.2) := by
  unfold b_282_126 at hb
  refine rn_iload_n (i := 3) rfl rfl ?_
  refine rn_bipush (x := (nI 100)) rfl (by decide) ?_
  refine rn_icmp_ge rfl rfl (fun hc => ?_) (fun hc => ?_)
  · exact u_282_150 d hd v0 v1 v2 v3  h _ (if_t hb hc)
  · exact u_282_132 d hd k126 K126 v0 v1 v2 v3  h _ (if_f hb hc)
def l_282_126 : Nat → Option Nat → Int32 → Int32 → Hp → Option (Int32 × Hp)
  | 0, _, _, _, _ => none
  | n + 1, v0, v2, v3, h => b_282_126 (l_282_126 n) v0 v2 v3 h
theorem w_282_126 (d : Nat) (hd : 7 ≤ d) : ∀ (n : Nat) (v0 : Option Nat) (v1 : Int32) (v2 : Int32) (v3 : Int32) (h : Hp) (r : Int32 × Hp), l_282_126 n v0 v2 v3 h = some r → Rn d 282 126 [some (va_rf v0), some (.int v1), some (.int v2), some (.int v3)] [] h (some (.int r.1), r.2) := by
  intro n
  induction n with
  | zero => intro v0 v1 v2 v3 h r hb; cases hb
  | succ n ih => intro v0 v1 v2 v3 h r hb; exact u_282_126 d hd (l_282_126 n) ih v0 v1 v2 v3 h r hb
def b_282_124 (v0 : Option Nat) (v2 : Int32)  (h : Hp) : Option (Int32 × Hp) :=
  bnd ((nI 0)) fun x1 =>
  l_282_126 FU v0 v2 x1 h
theorem u_282_124 (d : Nat) (hd : 7 ≤ d) (v0 : Option Nat) (v1 : Int32) (v2 : Int32) (v3 : Option (Int32))  (h : Hp) (r : Int32 × Hp) (hb : b_282_124 v0 v2  h = some r) : Rn d 282 124 [some (va_rf v0), some (.int v1), some (.int v2), v3.map Value.int] [] h (some (.int r.1), r.2) := by
  unfold b_282_124 at hb
  refine rn_iconst (x := (nI 0)) rfl (by decide) ?_
  obtain ⟨x1, ex1, hb⟩ := bnd_spec hb
  refine rn_istore_n (i := 3) (L1 := [some (va_rf v0), some (.int v1), some (.int v2), some (.int x1)]) rfl (Nat.le_of_ble_eq_true rfl) (Or.inr rfl) (by rw [ex1]; rfl) ?_
  exact w_282_126 d hd FU v0 v1 v2 x1 h _ hb
def b_282_120 (v0 : Option Nat) (v2 : Int32)  (h : Hp) : Option (Int32 × Hp) :=
  (grd (rC 11 v0 h)).bind fun _ =>
  (f_283 v0 h).bind fun p1 =>
  b_282_124 v0 v2  p1
theorem u_282_120 (d : Nat) (hd : 7 ≤ d) (v0 : Option Nat) (v1 : Int32) (v2 : Int32)  (h : Hp) (r : Int32 × Hp) (hb : b_282_120 v0 v2  h = some r) : Rn d 282 120 [some (va_rf v0), some (.int v1), some (.int v2), none] [] h (some (.int r.1), r.2) := by
  unfold b_282_120 at hb
  obtain ⟨e, rfl⟩ : ∃ e, d = e + 1 := ⟨d - 1, by omega⟩
  refine rn_aload_n (i := 0) rfl rfl ?_
  obtain ⟨hrc, hb⟩ := grd_spec hb
  obtain ⟨p1, hc, hb⟩ := Option.bind_eq_some_iff.mp hb
  refine Rn.call0 (d := e) (As := [va_rf v0]) (rest := []) rfl rfl rfl (by decide) rfl rfl rfl (bd_rcV hrc rfl) (by decide) (bd_lenC (n := 5) rfl (bd_slR bd_slN) rfl) (bd_locC (n := 5) rfl (bd_slR bd_slN) rfl (t_283 e (by omega) v0 h _ hc)) ?_
  exact u_282_124 (e + 1) hd v0 v1 v2 (none : Option (Int32))  p1 _ hb
def b_282_117 (v0 : Option Nat) (v2 : Int32)  (h : Hp) : Option (Int32 × Hp) :=
  b_282_124 v0 v2  h
theorem u_282_117 (d : Nat) (hd : 7 ≤ d) (v0 : Option Nat) (v1 : Int32) (v2 : Int32) (v3 : Int32)  (h : Hp) (r : Int32 × Hp) (hb : b_282_117 v0 v2  h = some r) : Rn d 282 117 [some (va_rf v0), some (.int v1), some (.int v2), some (.int v3)] [] h (some (.int r.1), r.2) := by
  unfold b_282_117 at hb
  refine rn_goto rfl rfl ?_
  exact u_282_124 d hd v0 v1 v2 (some v3)  h _ hb
def b_282_96 (k88 : Option Nat → Int32 → Int32 → Hp → Option (Int32 × Hp)) (v0 : Option Nat) (v2 : Int32) (v3 : Int32)  (h : Hp) : Option (Int32 × Hp) :=
  (gQ 11 58 v0 h).bind fun x1 =>
  (gQ 11 50 v0 h).bind fun x2 =>
  (aI 12 x2 v3 h).bind fun x3 =>
  (grd (decide (¬ ((nI 100) : Int32) = 0))).bind fun _ =>
  (wZ x1 (x3 - x3 / (nI 100) * (nI 100)) (nI 1) h).bind fun h4 =>
  bnd (v3 + (nI 1)) fun x5 =>
  k88 v0 v2 x5 h4
theorem u_282_96 (d : Nat) (hd : 7 ≤ d) (k88 : Option Nat → Int32 → Int32 → Hp → Option (Int32 × Hp)) (K88 : ∀ (v0 : Option Nat) (v1 : Int32) (v2 : Int32) (v3 : Int32) (h : Hp) (r : Int32 × Hp), k88 v0 v2 v3 h = some r → Rn d 282 88 [some (va_rf v0), some (.int v1), some (.int v2), some (.int v3)] [] h (some (.int r.1), r.2)) (v0 : Option Nat) (v1 : Int32) (v2 : Int32) (v3 : Int32)  (h : Hp) (r : Int32 × Hp) (hb : b_282_96 k88 v0 v2 v3  h = some r) : Rn d 282 96 [some (va_rf v0), some (.int v1), some (.int v2), some (.int v3)] [] h (some (.int r.1), r.2) := by
  unfold b_282_96 at hb
  refine rn_aload_n (i := 0) rfl rfl ?_
  refine rn_gQ (c := 11) (k := 58) rfl (by decide) hb (fun x1 hb => ?_)
  refine rn_aload_n (i := 0) rfl rfl ?_
  refine rn_gQ (c := 11) (k := 50) rfl (by decide) hb (fun x2 hb => ?_)
  refine rn_iload_n (i := 3) rfl rfl ?_
  refine rn_aI rfl hb (fun x3 hb => ?_)
  refine rn_bipush (x := (nI 100)) rfl (by decide) ?_
  obtain ⟨hy, hb⟩ := grd_spec hb
  refine rn_irem rfl (of_decide_eq_true hy) ?_
  refine rn_iconst (x := (nI 1)) rfl (by decide) ?_
  refine rn_wZ rfl hb (fun h4 hb => ?_)
  obtain ⟨x5, ex5, hb⟩ := bnd_spec hb
  refine rn_iinc (i := 3) (y := x5) (L1 := [some (va_rf v0), some (.int v1), some (.int v2), some (.int x5)]) rfl rfl (Nat.le_of_ble_eq_true rfl) (Or.inr rfl) (by rw [ex5]; rfl) rfl ?_
  refine rn_goto rfl rfl ?_
  exact K88 v0 v1 v2 x5 h4 _ hb
def b_282_88 (k88 : Option Nat → Int32 → Int32 → Hp → Option (Int32 × Hp)) (v0 : Option Nat) (v2 : Int32) (v3 : Int32)  (h : Hp) : Option (Int32 × Hp) :=
  (gI 11 55 v0 h).bind fun x1 =>
  if x1 ≤ v3 then b_282_117 v0 v2  h else b_282_96 k88 v0 v2 v3  h
theorem u_282_88 (d : Nat) (hd : 7 ≤ d) (k88 : Option Nat → Int32 → Int32 → Hp → Option (Int32 × Hp)) (K88 : ∀ (v0 : Option Nat) (v1 : Int32) (v2 : Int32) (v3 : Int32) (h : Hp) (r : Int32 × Hp), k88 v0 v2 v3 h = some r → Rn d 282 88 [some (va_rf v0), some (.int v1), some (.int v2), some (.int v3)] [] h (some (.int r.1), r.2)) (v0 : Option Nat) (v1 : Int32) (v2 : Int32) (v3 : Int32)  (h : Hp) (r : Int32 × Hp) (hb : b_282_88 k88 v0 v2 v3  h = some r) : Rn d 282 88 [some (va_rf v0), some (.int v1), some (.int v2), some (.int v3)] [] h (some (.int r.1), r.2) := by
  unfold b_282_88 at hb
  refine rn_iload_n (i := 3) rfl rfl ?_
  refine rn_aload_n (i := 0) rfl rfl ?_
  refine rn_gI (c := 11) (k := 55) rfl (by decide) hb (fun x1 hb => ?_)
  refine rn_icmp_ge rfl rfl (fun hc => ?_) (fun hc => ?_)
  · exact u_282_117 d hd v0 v1 v2 v3  h _ (if_t hb hc)
  · exact u_282_96 d hd k88 K88 v0 v1 v2 v3  h _ (if_f hb hc)
def l_282_88 : Nat → Option Nat → Int32 → Int32 → Hp → Option (Int32 × Hp)
  | 0, _, _, _, _ => none
  | n + 1, v0, v2, v3, h => b_282_88 (l_282_88 n) v0 v2 v3 h
theorem w_282_88 (d : Nat) (hd : 7 ≤ d) : ∀ (n : Nat) (v0 : Option Nat) (v1 : Int32) (v2 : Int32) (v3 : Int32) (h : Hp) (r : Int32 × Hp), l_282_88 n v0 v2 v3 h = some r → Rn d 282 88 [some (va_rf v0), some (.int v1), some (.int v2), some (.int v3)] [] h (some (.int r.1), r.2) := by
  intro n
  induction n with
  | zero => intro v0 v1 v2 v3 h r hb; cases hb
  | succ n ih => intro v0 v1 v2 v3 h r hb; exact u_282_88 d hd (l_282_88 n) ih v0 v1 v2 v3 h r hb
def b_282_80 (v0 : Option Nat) (v2 : Int32)  (h : Hp) : Option (Int32 × Hp) :=
  (grd (rC 11 v0 h)).bind fun _ =>
  (f_277 v0 (-1 : Int32) h).bind fun p1 =>
  bnd ((nI 0)) fun x2 =>
  l_282_88 FU v0 v2 x2 p1.2
theorem u_282_80 (d : Nat) (hd : 7 ≤ d) (v0 : Option Nat) (v1 : Int32) (v2 : Int32)  (h : Hp) (r : Int32 × Hp) (hb : b_282_80 v0 v2  h = some r) : Rn d 282 80 [some (va_rf v0), some (.int v1), some (.int v2), none] [] h (some (.int r.1), r.2) := by
  unfold b_282_80 at hb
  obtain ⟨e, rfl⟩ : ∃ e, d = e + 1 := ⟨d - 1, by omega⟩
  refine rn_aload_n (i := 0) rfl rfl ?_
  refine rn_iconst (x := (-1 : Int32)) rfl (by decide) ?_
  obtain ⟨hrc, hb⟩ := grd_spec hb
  obtain ⟨p1, hc, hb⟩ := Option.bind_eq_some_iff.mp hb
  refine Rn.call1 (d := e) (As := [va_rf v0, .int (-1 : Int32)]) (rest := []) rfl rfl rfl (by decide) rfl rfl rfl (bd_rcV hrc rfl) (by decide) (bd_lenC (n := 7) rfl (bd_slR (bd_slI bd_slN)) rfl) (bd_locC (n := 7) rfl (bd_slR (bd_slI bd_slN)) rfl (t_277 e (by omega) v0 (-1 : Int32) h _ hc)) ?_
  refine rn_pop rfl rfl ?_
  refine rn_iconst (x := (nI 0)) rfl (by decide) ?_
  obtain ⟨x2, ex2, hb⟩ := bnd_spec hb
  refine rn_istore_n (i := 3) (L1 := [some (va_rf v0), some (.int v1), some (.int v2), some (.int x2)]) rfl (Nat.le_of_ble_eq_true rfl) (Or.inr rfl) (by rw [ex2]; rfl) ?_
  exact w_282_88 (e + 1) hd FU v0 v1 v2 x2 p1.2 _ hb
def b_282_73 (v0 : Option Nat) (v1 : Int32)  (h : Hp) : Option (Int32 × Hp) :=
  bnd ((nI 0)) fun x1 =>
  if ¬ v1 = (nI 1) then b_282_120 v0 x1  h else b_282_80 v0 x1  h
theorem u_282_73 (d : Nat) (hd : 7 ≤ d) (v0 : Option Nat) (v1 : Int32) (v2 : Int32)  (h : Hp) (r : Int32 × Hp) (hb : b_282_73 v0 v1  h = some r) : Rn d 282 73 [some (va_rf v0), some (.int v1), some (.int v2), none] [] h (some (.int r.1), r.2) := by
  unfold b_282_73 at hb
  refine rn_iconst (x := (nI 0)) rfl (by decide) ?_
  obtain ⟨x1, ex1, hb⟩ := bnd_spec hb
  refine rn_istore_n (i := 2) (L1 := [some (va_rf v0), some (.int v1), some (.int x1), none]) rfl (Nat.le_of_ble_eq_true rfl) (Or.inr rfl) (by rw [ex1]; rfl) ?_
  refine rn_iload_n (i := 1) rfl rfl ?_
  refine rn_iconst (x := (nI 1)) rfl (by decide) ?_
  refine rn_icmp_ne rfl rfl (fun hc => ?_) (fun hc => ?_)
  · exact u_282_120 d hd v0 v1 x1  h _ (if_t hb hc)
  · exact u_282_80 d hd v0 v1 x1  h _ (if_f hb hc)
def b_282_60 (k54 : Option Nat → Int32 → Int32 → Hp → Option (Int32 × Hp)) (v0 : Option Nat) (v1 : Int32) (v2 : Int32)  (h : Hp) : Option (Int32 × Hp) :=
  (gQ 11 58 v0 h).bind fun x1 =>
  (wZ x1 v2 (nI 0) h).bind fun h2 =>
  bnd (v2 + (nI 1)) fun x3 =>
  k54 v0 v1 x3 h2
theorem u_282_60 (d : Nat) (hd : 7 ≤ d) (k54 : Option Nat → Int32 → Int32 → Hp → Option (Int32 × Hp)) (K54 : ∀ (v0 : Option Nat) (v1 : Int32) (v2 : Int32) (h : Hp) (r : Int32 × Hp), k54 v0 v1 v2 h = some r → Rn d 282 54 [some (va_rf v0), some (.int v1), some (.int v2), none] [] h (some (.int r.1), r.2)) (v0 : Option Nat) (v1 : Int32) (v2 : Int32)  (h : Hp) (r : Int32 × Hp) (hb : b_282_60 k54 v0 v1 v2  h = some r) : Rn d 282 60 [some (va_rf v0), some (.int v1), some (.int v2), none] [] h (some (.int r.1), r.2) := by
  unfold b_282_60 at hb
  refine rn_aload_n (i := 0) rfl rfl ?_
  refine rn_gQ (c := 11) (k := 58) rfl (by decide) hb (fun x1 hb => ?_)
  refine rn_iload_n (i := 2) rfl rfl ?_
  refine rn_iconst (x := (nI 0)) rfl (by decide) ?_
  refine rn_wZ rfl hb (fun h2 hb => ?_)
  obtain ⟨x3, ex3, hb⟩ := bnd_spec hb
  refine rn_iinc (i := 2) (y := x3) (L1 := [some (va_rf v0), some (.int v1), some (.int x3), none]) rfl rfl (Nat.le_of_ble_eq_true rfl) (Or.inr rfl) (by rw [ex3]; rfl) rfl ?_
  refine rn_goto rfl rfl ?_
  exact K54 v0 v1 x3 h2 _ hb
def b_282_54 (k54 : Option Nat → Int32 → Int32 → Hp → Option (Int32 × Hp)) (v0 : Option Nat) (v1 : Int32) (v2 : Int32)  (h : Hp) : Option (Int32 × Hp) :=
  if (nI 100) ≤ v2 then b_282_73 v0 v1  h else b_282_60 k54 v0 v1 v2  h
theorem u_282_54 (d : Nat) (hd : 7 ≤ d) (k54 : Option Nat → Int32 → Int32 → Hp → Option (Int32 × Hp)) (K54 : ∀ (v0 : Option Nat) (v1 : Int32) (v2 : Int32) (h : Hp) (r : Int32 × Hp), k54 v0 v1 v2 h = some r → Rn d 282 54 [some (va_rf v0), some (.int v1), some (.int v2), none] [] h (some (.int r.1), r.2)) (v0 : Option Nat) (v1 : Int32) (v2 : Int32)  (h : Hp) (r : Int32 × Hp) (hb : b_282_54 k54 v0 v1 v2  h = some r) : Rn d 282 54 [some (va_rf v0), some (.int v1), some (.int v2), none] [] h (some (.int r.1), r.2) := by
  unfold b_282_54 at hb
  refine rn_iload_n (i := 2) rfl rfl ?_
  refine rn_bipush (x := (nI 100)) rfl (by decide) ?_
  refine rn_icmp_ge rfl rfl (fun hc => ?_) (fun hc => ?_)
  · exact u_282_73 d hd v0 v1 v2  h _ (if_t hb hc)
  · exact u_282_60 d hd k54 K54 v0 v1 v2  h _ (if_f hb hc)
def l_282_54 : Nat → Option Nat → Int32 → Int32 → Hp → Option (Int32 × Hp)
  | 0, _, _, _, _ => none
  | n + 1, v0, v1, v2, h => b_282_54 (l_282_54 n) v0 v1 v2 h
theorem w_282_54 (d : Nat) (hd : 7 ≤ d) : ∀ (n : Nat) (v0 : Option Nat) (v1 : Int32) (v2 : Int32) (h : Hp) (r : Int32 × Hp), l_282_54 n v0 v1 v2 h = some r → Rn d 282 54 [some (va_rf v0), some (.int v1), some (.int v2), none] [] h (some (.int r.1), r.2) := by
  intro n
  induction n with
  | zero => intro v0 v1 v2 h r hb; cases hb
  | succ n ih => intro v0 v1 v2 h r hb; exact u_282_54 d hd (l_282_54 n) ih v0 v1 v2 h r hb
def b_282_48 (v0 : Option Nat) (v1 : Int32)  (h : Hp) : Option (Int32 × Hp) :=
  (grd (rC 11 v0 h)).bind fun _ =>
  (f_253 v0 h).bind fun p1 =>
  bnd ((nI 0)) fun x2 =>
  l_282_54 FU v0 v1 x2 p1
theorem u_282_48 (d : Nat) (hd : 7 ≤ d) (v0 : Option Nat) (v1 : Int32)  (h : Hp) (r : Int32 × Hp) (hb : b_282_48 v0 v1  h = some r) : Rn d 282 48 [some (va_rf v0), some (.int v1), none, none] [] h (some (.int r.1), r.2) := by
  unfold b_282_48 at hb
  obtain ⟨e, rfl⟩ : ∃ e, d = e + 1 := ⟨d - 1, by omega⟩
  refine rn_aload_n (i := 0) rfl rfl ?_
  obtain ⟨hrc, hb⟩ := grd_spec hb
  obtain ⟨p1, hc, hb⟩ := Option.bind_eq_some_iff.mp hb
  refine Rn.call0 (d := e) (As := [va_rf v0]) (rest := []) rfl rfl rfl (by decide) rfl rfl rfl (bd_rcV hrc rfl) (by decide) (bd_lenC (n := 2) rfl (bd_slR bd_slN) rfl) (bd_locC (n := 2) rfl (bd_slR bd_slN) rfl (t_253 e (by omega) v0 h _ hc)) ?_
  refine rn_iconst (x := (nI 0)) rfl (by decide) ?_
  obtain ⟨x2, ex2, hb⟩ := bnd_spec hb
  refine rn_istore_n (i := 2) (L1 := [some (va_rf v0), some (.int v1), some (.int x2), none]) rfl (Nat.le_of_ble_eq_true rfl) (Or.inr rfl) (by rw [ex2]; rfl) ?_
  exact w_282_54 (e + 1) hd FU v0 v1 x2 p1 _ hb
def b_282_45   (h : Hp) : Option (Int32 × Hp) :=
  some ((-2 : Int32), h)
theorem u_282_45 (d : Nat) (hd : 7 ≤ d) (v0 : Option Nat) (v1 : Int32)  (h : Hp) (r : Int32 × Hp) (hb : b_282_45   h = some r) : Rn d 282 45 [some (va_rf v0), some (.int v1), none, none] [] h (some (.int r.1), r.2) := by
  unfold b_282_45 at hb
  refine rn_bipush (x := (-2 : Int32)) rfl (by decide) ?_
  obtain rfl := Option.some.inj hb
  exact rn_iret rfl rfl
def b_282_37 (v0 : Option Nat) (v1 : Int32)  (h : Hp) : Option (Int32 × Hp) :=
  (grd (rC 11 v0 h)).bind fun _ =>
  (f_203 v0 h).bind fun p1 =>
  if p1.1 ≤ (nI 5) then b_282_48 v0 v1  p1.2 else b_282_45   p1.2
theorem u_282_37 (d : Nat) (hd : 7 ≤ d) (v0 : Option Nat) (v1 : Int32)  (h : Hp) (r : Int32 × Hp) (hb : b_282_37 v0 v1  h = some r) : Rn d 282 37 [some (va_rf v0), some (.int v1), none, none] [] h (some (.int r.1), r.2) := by
  unfold b_282_37 at hb
  obtain ⟨e, rfl⟩ : ∃ e, d = e + 1 := ⟨d - 1, by omega⟩
  refine rn_aload_n (i := 0) rfl rfl ?_
  obtain ⟨hrc, hb⟩ := grd_spec hb
  obtain ⟨p1, hc, hb⟩ := Option.bind_eq_some_iff.mp hb
  refine Rn.call1 (d := e) (As := [va_rf v0]) (rest := []) rfl rfl rfl (by decide) rfl rfl rfl (bd_rcV hrc rfl) (by decide) (bd_lenC (n := 1) rfl (bd_slR bd_slN) rfl) (bd_locC (n := 1) rfl (bd_slR bd_slN) rfl (t_203 e (by omega) v0 h _ hc)) ?_
  refine rn_iconst (x := (nI 5)) rfl (by decide) ?_
  refine rn_icmp_le rfl rfl (fun hc => ?_) (fun hc => ?_)
  · exact u_282_48 (e + 1) hd v0 v1  p1.2 _ (if_t hb hc)
  · exact u_282_45 (e + 1) hd v0 v1  p1.2 _ (if_f hb hc)
def b_282_32 (v0 : Option Nat) (v1 : Int32)  (h : Hp) : Option (Int32 × Hp) :=
  if ¬ v1 = (nI 1) then b_282_48 v0 v1  h else b_282_37 v0 v1  h
theorem u_282_32 (d : Nat) (hd : 7 ≤ d) (v0 : Option Nat) (v1 : Int32)  (h : Hp) (r : Int32 × Hp) (hb : b_282_32 v0 v1  h = some r) : Rn d 282 32 [some (va_rf v0), some (.int v1), none, none] [] h (some (.int r.1), r.2) := by
  unfold b_282_32 at hb
  refine rn_iload_n (i := 1) rfl rfl ?_
  refine rn_iconst (x := (nI 1)) rfl (by decide) ?_
  refine rn_icmp_ne rfl rfl (fun hc => ?_) (fun hc => ?_)
  · exact u_282_48 d hd v0 v1  h _ (if_t hb hc)
  · exact u_282_37 d hd v0 v1  h _ (if_f hb hc)
def b_282_18 (v0 : Option Nat) (v1 : Int32)  (h : Hp) : Option (Int32 × Hp) :=
  (gQ 11 14 v0 h).bind fun x1 =>
  (aI 12 x1 (nI 340) h).bind fun x2 =>
  if ¬ x2 = (-1 : Int32) then b_282_32 v0 v1  h else b_282_30   h
theorem u_282_18 (d : Nat) (hd : 7 ≤ d) (v0 : Option Nat) (v1 : Int32)  (h : Hp) (r : Int32 × Hp) (hb : b_282_18 v0 v1  h = some r) : Rn d 282 18 [some (va_rf v0), some (.int v1), none, none] [] h (some (.int r.1), r.2) := by
  unfold b_282_18 at hb
  refine rn_aload_n (i := 0) rfl rfl ?_
  refine rn_gQ (c := 11) (k := 14) rfl (by decide) hb (fun x1 hb => ?_)
  refine rn_sipush (x := (nI 340)) rfl (by decide) ?_
  refine rn_aI rfl hb (fun x2 hb => ?_)
  refine rn_iconst (x := (-1 : Int32)) rfl (by decide) ?_
  refine rn_icmp_ne rfl rfl (fun hc => ?_) (fun hc => ?_)
  · exact u_282_32 d hd v0 v1  h _ (if_t hb hc)
  · exact u_282_30 d hd v0 v1  h _ (if_f hb hc)
def b_282_0 (v0 : Option Nat) (v1 : Int32)  (h : Hp) : Option (Int32 × Hp) :=
  (pI 11 0 v0 (nI 0) h).bind fun h1 =>
  (grd (rC 11 v0 h1)).bind fun _ =>
  (f_202 v0 h1).bind fun p2 =>
  (f_182 v1 (nI 0) (nI 1) p2).bind fun p3 =>
  if p3.1 = 0 then b_282_30   p3.2 else b_282_18 v0 v1  p3.2
theorem u_282_0 (d : Nat) (hd : 7 ≤ d) (v0 : Option Nat) (v1 : Int32)  (h : Hp) (r : Int32 × Hp) (hb : b_282_0 v0 v1  h = some r) : Rn d 282 0 [some (va_rf v0), some (.int v1), none, none] [] h (some (.int r.1), r.2) := by
  unfold b_282_0 at hb
  obtain ⟨e, rfl⟩ : ∃ e, d = e + 1 := ⟨d - 1, by omega⟩
  refine rn_aload_n (i := 0) rfl rfl ?_
  refine rn_iconst (x := (nI 0)) rfl (by decide) ?_
  refine rn_pI (c := 11) (k := 0) rfl (by decide) hb (fun h1 hb => ?_)
  refine rn_aload_n (i := 0) rfl rfl ?_
  obtain ⟨hrc, hb⟩ := grd_spec hb
  obtain ⟨p2, hc, hb⟩ := Option.bind_eq_some_iff.mp hb
  refine Rn.call0 (d := e) (As := [va_rf v0]) (rest := []) rfl rfl rfl (by decide) rfl rfl rfl (bd_rcV hrc rfl) (by decide) (bd_lenC (n := 1) rfl (bd_slR bd_slN) rfl) (bd_locC (n := 1) rfl (bd_slR bd_slN) rfl (t_202 e (by omega) v0 h1 _ hc)) ?_
  refine rn_iload_n (i := 1) rfl rfl ?_
  refine rn_iconst (x := (nI 0)) rfl (by decide) ?_
  refine rn_iconst (x := (nI 1)) rfl (by decide) ?_
  obtain ⟨p3, hc, hb⟩ := Option.bind_eq_some_iff.mp hb
  refine Rn.call1 (d := e) (As := [.int v1, .int (nI 0), .int (nI 1)]) (rest := []) rfl rfl rfl (by decide) rfl rfl rfl rfl (by decide) (bd_lenC (n := 3) rfl (bd_slI (bd_slI (bd_slI bd_slN))) rfl) (bd_locC (n := 3) rfl (bd_slI (bd_slI (bd_slI bd_slN))) rfl (t_182 e (by omega) v1 (nI 0) (nI 1) p2 _ hc)) ?_
  refine rn_if_eq rfl rfl (fun hc => ?_) (fun hc => ?_)
  · exact u_282_30 (e + 1) hd v0 v1  p3.2 _ (if_t hb hc)
  · exact u_282_18 (e + 1) hd v0 v1  p3.2 _ (if_f hb hc)
/-- BitingDoorsModel.reach(I)I -/
def f_282 (v0 : Option Nat) (v1 : Int32) (h : Hp) : Option (Int32 × Hp) := b_282_0 v0 v1 h
theorem t_282 (d : Nat) (hd : 7 ≤ d) (v0 : Option Nat) (v1 : Int32) (h : Hp) (r : Int32 × Hp) (hb : f_282 v0 v1 h = some r) : Rn d 282 0 [some (va_rf v0), some (.int v1), none, none] [] h (some (.int r.1), r.2) := by
  unfold f_282 at hb
  exact u_282_0 d hd v0 v1 h r hb
def b_284_24 (v1 : Int32)  (h : Hp) : Option (Int32 × Hp) :=
  some (v1, h)
theorem u_284_24 (d : Nat) (hd : 5 ≤ d) (v0 : Option Nat) (v1 : Int32)  (h : Hp) (r : Int32 × Hp) (hb : b_284_24 v1  h = some r) : Rn d 284 24 [some (va_rf v0), some (.int v1)] [] h (some (.int r.1), r.2) := by
  unfold b_284_24 at hb
  refine rn_iload_n (i := 1) rfl rfl ?_
  obtain rfl := Option.some.inj hb
  exact rn_iret rfl rfl
def b_284_18 (k11 : Option Nat → Int32 → Hp → Option (Int32 × Hp)) (v0 : Option Nat) (v1 : Int32)  (h : Hp) : Option (Int32 × Hp) :=
  bnd (v1 + (nI 1)) fun x1 =>
  k11 v0 x1 h
theorem u_284_18 (d : Nat) (hd : 5 ≤ d) (k11 : Option Nat → Int32 → Hp → Option (Int32 × Hp)) (K11 : ∀ (v0 : Option Nat) (v1 : Int32) (h : Hp) (r : Int32 × Hp), k11 v0 v1 h = some r → Rn d 284 11 [some (va_rf v0), some (.int v1)] [] h (some (.int r.1), r.2)) (v0 : Option Nat) (v1 : Int32)  (h : Hp) (r : Int32 × Hp) (hb : b_284_18 k11 v0 v1  h = some r) : Rn d 284 18 [some (va_rf v0), some (.int v1)] [] h (some (.int r.1), r.2) := by
  unfold b_284_18 at hb
  obtain ⟨x1, ex1, hb⟩ := bnd_spec hb
  refine rn_iinc (i := 1) (y := x1) (L1 := [some (va_rf v0), some (.int x1)]) rfl rfl (Nat.le_of_ble_eq_true rfl) (Or.inr (bd_wideR rfl)) (by rw [ex1]; rfl) rfl ?_
  refine rn_goto rfl rfl ?_
  exact K11 v0 x1 h _ hb
def b_284_11 (k11 : Option Nat → Int32 → Hp → Option (Int32 × Hp)) (v0 : Option Nat) (v1 : Int32)  (h : Hp) : Option (Int32 × Hp) :=
  (grd (rC 11 v0 h)).bind fun _ =>
  (f_260 v0 h).bind fun p1 =>
  if p1.1 ≤ 0 then b_284_24 v1  p1.2 else b_284_18 k11 v0 v1  p1.2
theorem u_284_11 (d : Nat) (hd : 5 ≤ d) (k11 : Option Nat → Int32 → Hp → Option (Int32 × Hp)) (K11 : ∀ (v0 : Option Nat) (v1 : Int32) (h : Hp) (r : Int32 × Hp), k11 v0 v1 h = some r → Rn d 284 11 [some (va_rf v0), some (.int v1)] [] h (some (.int r.1), r.2)) (v0 : Option Nat) (v1 : Int32)  (h : Hp) (r : Int32 × Hp) (hb : b_284_11 k11 v0 v1  h = some r) : Rn d 284 11 [some (va_rf v0), some (.int v1)] [] h (some (.int r.1), r.2) := by
  unfold b_284_11 at hb
  obtain ⟨e, rfl⟩ : ∃ e, d = e + 1 := ⟨d - 1, by omega⟩
  refine rn_aload_n (i := 0) rfl rfl ?_
  obtain ⟨hrc, hb⟩ := grd_spec hb
  obtain ⟨p1, hc, hb⟩ := Option.bind_eq_some_iff.mp hb
  refine Rn.call1 (d := e) (As := [va_rf v0]) (rest := []) rfl rfl rfl (by decide) rfl rfl rfl (bd_rcV hrc rfl) (by decide) (bd_lenC (n := 6) rfl (bd_slR bd_slN) rfl) (bd_locC (n := 6) rfl (bd_slR bd_slN) rfl (t_260 e (by omega) v0 h _ hc)) ?_
  refine rn_if_le rfl rfl (fun hc => ?_) (fun hc => ?_)
  · exact u_284_24 (e + 1) hd v0 v1  p1.2 _ (if_t hb hc)
  · exact u_284_18 (e + 1) hd k11 K11 v0 v1  p1.2 _ (if_f hb hc)
def l_284_11 : Nat → Option Nat → Int32 → Hp → Option (Int32 × Hp)
  | 0, _, _, _ => none
  | n + 1, v0, v1, h => b_284_11 (l_284_11 n) v0 v1 h
theorem w_284_11 (d : Nat) (hd : 5 ≤ d) : ∀ (n : Nat) (v0 : Option Nat) (v1 : Int32) (h : Hp) (r : Int32 × Hp), l_284_11 n v0 v1 h = some r → Rn d 284 11 [some (va_rf v0), some (.int v1)] [] h (some (.int r.1), r.2) := by
  intro n
  induction n with
  | zero => intro v0 v1 h r hb; cases hb
  | succ n ih => intro v0 v1 h r hb; exact u_284_11 d hd (l_284_11 n) ih v0 v1 h r hb
def b_284_0 (v0 : Option Nat)  (h : Hp) : Option (Int32 × Hp) :=
  (pI 11 0 v0 (nI 0) h).bind fun h1 =>
  (grd (rC 11 v0 h1)).bind fun _ =>
  (f_253 v0 h1).bind fun p2 =>
  bnd ((nI 1)) fun x3 =>
  l_284_11 FU v0 x3 p2
theorem u_284_0 (d : Nat) (hd : 5 ≤ d) (v0 : Option Nat)  (h : Hp) (r : Int32 × Hp) (hb : b_284_0 v0  h = some r) : Rn d 284 0 [some (va_rf v0), none] [] h (some (.int r.1), r.2) := by
  unfold b_284_0 at hb
  obtain ⟨e, rfl⟩ : ∃ e, d = e + 1 := ⟨d - 1, by omega⟩
  refine rn_aload_n (i := 0) rfl rfl ?_
  refine rn_iconst (x := (nI 0)) rfl (by decide) ?_
  refine rn_pI (c := 11) (k := 0) rfl (by decide) hb (fun h1 hb => ?_)
  refine rn_aload_n (i := 0) rfl rfl ?_
  obtain ⟨hrc, hb⟩ := grd_spec hb
  obtain ⟨p2, hc, hb⟩ := Option.bind_eq_some_iff.mp hb
  refine Rn.call0 (d := e) (As := [va_rf v0]) (rest := []) rfl rfl rfl (by decide) rfl rfl rfl (bd_rcV hrc rfl) (by decide) (bd_lenC (n := 2) rfl (bd_slR bd_slN) rfl) (bd_locC (n := 2) rfl (bd_slR bd_slN) rfl (t_253 e (by omega) v0 h1 _ hc)) ?_
  refine rn_iconst (x := (nI 1)) rfl (by decide) ?_
  obtain ⟨x3, ex3, hb⟩ := bnd_spec hb
  refine rn_istore_n (i := 1) (L1 := [some (va_rf v0), some (.int x3)]) rfl (Nat.le_of_ble_eq_true rfl) (Or.inr (bd_wideR rfl)) (by rw [ex3]; rfl) ?_
  exact w_284_11 (e + 1) hd FU v0 x3 p2 _ hb
/-- BitingDoorsModel.quiet()I -/
def f_284 (v0 : Option Nat) (h : Hp) : Option (Int32 × Hp) := b_284_0 v0 h
theorem t_284 (d : Nat) (hd : 5 ≤ d) (v0 : Option Nat) (h : Hp) (r : Int32 × Hp) (hb : f_284 v0 h = some r) : Rn d 284 0 [some (va_rf v0), none] [] h (some (.int r.1), r.2) := by
  unfold f_284 at hb
  exact u_284_0 d hd v0 h r hb
def b_285_39   (h : Hp) : Option (Int32 × Hp) :=
  some ((-2 : Int32), h)
theorem u_285_39 (d : Nat) (hd : 8 ≤ d) (v0 : Option Nat)  (h : Hp) (r : Int32 × Hp) (hb : b_285_39   h = some r) : Rn d 285 39 [some (va_rf v0)] [] h (some (.int r.1), r.2) := by
  unfold b_285_39 at hb
  refine rn_bipush (x := (-2 : Int32)) rfl (by decide) ?_
  obtain rfl := Option.some.inj hb
  exact rn_iret rfl rfl
def b_285_42 (v0 : Option Nat)  (h : Hp) : Option (Int32 × Hp) :=
  (gQ 11 14 v0 h).bind fun x1 =>
  (aI 12 x1 (nI 4) h).bind fun x2 =>
  (grd (rC 11 v0 h)).bind fun _ =>
  (f_278 v0 x2 h).bind fun p3 =>
  some (p3.1, p3.2)
theorem u_285_42 (d : Nat) (hd : 8 ≤ d) (v0 : Option Nat)  (h : Hp) (r : Int32 × Hp) (hb : b_285_42 v0  h = some r) : Rn d 285 42 [some (va_rf v0)] [] h (some (.int r.1), r.2) := by
  unfold b_285_42 at hb
  obtain ⟨e, rfl⟩ : ∃ e, d = e + 1 := ⟨d - 1, by omega⟩
  refine rn_aload_n (i := 0) rfl rfl ?_
  refine rn_aload_n (i := 0) rfl rfl ?_
  refine rn_gQ (c := 11) (k := 14) rfl (by decide) hb (fun x1 hb => ?_)
  refine rn_iconst (x := (nI 4)) rfl (by decide) ?_
  refine rn_aI rfl hb (fun x2 hb => ?_)
  obtain ⟨hrc, hb⟩ := grd_spec hb
  obtain ⟨p3, hc, hb⟩ := Option.bind_eq_some_iff.mp hb
  refine Rn.call1 (d := e) (As := [va_rf v0, .int x2]) (rest := []) rfl rfl rfl (by decide) rfl rfl rfl (bd_rcV hrc rfl) (by decide) (bd_lenC (n := 6) rfl (bd_slR (bd_slI bd_slN)) rfl) (bd_locC (n := 6) rfl (bd_slR (bd_slI bd_slN)) rfl (t_278 e (by omega) v0 x2 h _ hc)) ?_
  obtain rfl := Option.some.inj hb
  exact rn_iret rfl rfl
def b_285_31 (v0 : Option Nat)  (h : Hp) : Option (Int32 × Hp) :=
  (grd (rC 11 v0 h)).bind fun _ =>
  (f_203 v0 h).bind fun p1 =>
  if p1.1 ≤ (nI 5) then b_285_42 v0  p1.2 else b_285_39   p1.2
theorem u_285_31 (d : Nat) (hd : 8 ≤ d) (v0 : Option Nat)  (h : Hp) (r : Int32 × Hp) (hb : b_285_31 v0  h = some r) : Rn d 285 31 [some (va_rf v0)] [] h (some (.int r.1), r.2) := by
  unfold b_285_31 at hb
  obtain ⟨e, rfl⟩ : ∃ e, d = e + 1 := ⟨d - 1, by omega⟩
  refine rn_aload_n (i := 0) rfl rfl ?_
  obtain ⟨hrc, hb⟩ := grd_spec hb
  obtain ⟨p1, hc, hb⟩ := Option.bind_eq_some_iff.mp hb
  refine Rn.call1 (d := e) (As := [va_rf v0]) (rest := []) rfl rfl rfl (by decide) rfl rfl rfl (bd_rcV hrc rfl) (by decide) (bd_lenC (n := 1) rfl (bd_slR bd_slN) rfl) (bd_locC (n := 1) rfl (bd_slR bd_slN) rfl (t_203 e (by omega) v0 h _ hc)) ?_
  refine rn_iconst (x := (nI 5)) rfl (by decide) ?_
  refine rn_icmp_le rfl rfl (fun hc => ?_) (fun hc => ?_)
  · exact u_285_42 (e + 1) hd v0  p1.2 _ (if_t hb hc)
  · exact u_285_39 (e + 1) hd v0  p1.2 _ (if_f hb hc)
def b_285_19 (v0 : Option Nat)  (h : Hp) : Option (Int32 × Hp) :=
  (gQ 11 14 v0 h).bind fun x1 =>
  (aI 12 x1 (nI 340) h).bind fun x2 =>
  if x2 = (-1 : Int32) then b_285_39   h else b_285_31 v0  h
theorem u_285_19 (d : Nat) (hd : 8 ≤ d) (v0 : Option Nat)  (h : Hp) (r : Int32 × Hp) (hb : b_285_19 v0  h = some r) : Rn d 285 19 [some (va_rf v0)] [] h (some (.int r.1), r.2) := by
  unfold b_285_19 at hb
  refine rn_aload_n (i := 0) rfl rfl ?_
  refine rn_gQ (c := 11) (k := 14) rfl (by decide) hb (fun x1 hb => ?_)
  refine rn_sipush (x := (nI 340)) rfl (by decide) ?_
  refine rn_aI rfl hb (fun x2 hb => ?_)
  refine rn_iconst (x := (-1 : Int32)) rfl (by decide) ?_
  refine rn_icmp_eq rfl rfl (fun hc => ?_) (fun hc => ?_)
  · exact u_285_39 d hd v0  h _ (if_t hb hc)
  · exact u_285_31 d hd v0  h _ (if_f hb hc)
def b_285_0 (v0 : Option Nat)  (h : Hp) : Option (Int32 × Hp) :=
  (pI 11 0 v0 (nI 0) h).bind fun h1 =>
  (grd (rC 11 v0 h1)).bind fun _ =>
  (f_202 v0 h1).bind fun p2 =>
  (gQ 11 14 v0 p2).bind fun x3 =>
  (aI 12 x3 (nI 4) p2).bind fun x4 =>
  if x4 = (-1 : Int32) then b_285_39   p2 else b_285_19 v0  p2
theorem u_285_0 (d : Nat) (hd : 8 ≤ d) (v0 : Option Nat)  (h : Hp) (r : Int32 × Hp) (hb : b_285_0 v0  h = some r) : Rn d 285 0 [some (va_rf v0)] [] h (some (.int r.1), r.2) := by
  unfold b_285_0 at hb
  obtain ⟨e, rfl⟩ : ∃ e, d = e + 1 := ⟨d - 1, by omega⟩
  refine rn_aload_n (i := 0) rfl rfl ?_
  refine rn_iconst (x := (nI 0)) rfl (by decide) ?_
  refine rn_pI (c := 11) (k := 0) rfl (by decide) hb (fun h1 hb => ?_)
  refine rn_aload_n (i := 0) rfl rfl ?_
  obtain ⟨hrc, hb⟩ := grd_spec hb
  obtain ⟨p2, hc, hb⟩ := Option.bind_eq_some_iff.mp hb
  refine Rn.call0 (d := e) (As := [va_rf v0]) (rest := []) rfl rfl rfl (by decide) rfl rfl rfl (bd_rcV hrc rfl) (by decide) (bd_lenC (n := 1) rfl (bd_slR bd_slN) rfl) (bd_locC (n := 1) rfl (bd_slR bd_slN) rfl (t_202 e (by omega) v0 h1 _ hc)) ?_
  refine rn_aload_n (i := 0) rfl rfl ?_
  refine rn_gQ (c := 11) (k := 14) rfl (by decide) hb (fun x3 hb => ?_)
  refine rn_iconst (x := (nI 4)) rfl (by decide) ?_
  refine rn_aI rfl hb (fun x4 hb => ?_)
  refine rn_iconst (x := (-1 : Int32)) rfl (by decide) ?_
  refine rn_icmp_eq rfl rfl (fun hc => ?_) (fun hc => ?_)
  · exact u_285_39 (e + 1) hd v0  p2 _ (if_t hb hc)
  · exact u_285_19 (e + 1) hd v0  p2 _ (if_f hb hc)
/-- BitingDoorsModel.stride()I -/
def f_285 (v0 : Option Nat) (h : Hp) : Option (Int32 × Hp) := b_285_0 v0 h
theorem t_285 (d : Nat) (hd : 8 ≤ d) (v0 : Option Nat) (h : Hp) (r : Int32 × Hp) (hb : f_285 v0 h = some r) : Rn d 285 0 [some (va_rf v0)] [] h (some (.int r.1), r.2) := by
  unfold f_285 at hb
  exact u_285_0 d hd v0 h r hb
def b_286_0 (v0 : Option Nat) (v1 : Int32) (v2 : Int32) (v3 : Int32) (v4 : Int32)  (h : Hp) : Option (Int32 × Hp) :=
  (gI 11 60 v0 h).bind fun x1 =>
  bnd (((nI 4) * x1)) fun x2 =>
  (gQ 11 59 v0 h).bind fun x3 =>
  (wI x3 x2 v1 h).bind fun h4 =>
  (gQ 11 59 v0 h4).bind fun x5 =>
  (wI x5 (x2 + (nI 1)) v2 h4).bind fun h6 =>
  (gQ 11 59 v0 h6).bind fun x7 =>
  (wI x7 (x2 + (nI 2)) v3 h6).bind fun h8 =>
  (gQ 11 59 v0 h8).bind fun x9 =>
  (wI x9 (x2 + (nI 3)) v4 h8).bind fun h10 =>
  (gI 11 60 v0 h10).bind fun x11 =>
  (pI 11 60 v0 (x11 + (nI 1)) h10).bind fun h12 =>
  (gI 11 60 v0 h12).bind fun x13 =>
  some ((x13 - (nI 1)), h12)
theorem u_286_0 (d : Nat) (hd : 0 ≤ d) (v0 : Option Nat) (v1 : Int32) (v2 : Int32) (v3 : Int32) (v4 : Int32)  (h : Hp) (r : Int32 × Hp) (hb : b_286_0 v0 v1 v2 v3 v4  h = some r) : Rn d 286 0 [some (va_rf v0), some (.int v1), some (.int v2), some (.int v3), some (.int v4), none] [] h (some (.int r.1), r.2) := by
  unfold b_286_0 at hb
  refine rn_iconst (x := (nI 4)) rfl (by decide) ?_
  refine rn_aload_n (i := 0) rfl rfl ?_
  refine rn_gI (c := 11) (k := 60) rfl (by decide) hb (fun x1 hb => ?_)
  refine rn_imul rfl ?_
  obtain ⟨x2, ex2, hb⟩ := bnd_spec hb
  refine rn_istore (i := 5) (L1 := [some (va_rf v0), some (.int v1), some (.int v2), some (.int v3), some (.int v4), some (.int x2)]) rfl (Nat.le_of_ble_eq_true rfl) (Or.inr rfl) (by rw [ex2]; rfl) ?_
  refine rn_aload_n (i := 0) rfl rfl ?_
  refine rn_gQ (c := 11) (k := 59) rfl (by decide) hb (fun x3 hb => ?_)
  refine rn_iload (i := 5) rfl rfl ?_
  refine rn_iload_n (i := 1) rfl rfl ?_
  refine rn_wI rfl hb (fun h4 hb => ?_)
  refine rn_aload_n (i := 0) rfl rfl ?_
  refine rn_gQ (c := 11) (k := 59) rfl (by decide) hb (fun x5 hb => ?_)
  refine rn_iload (i := 5) rfl rfl ?_
  refine rn_iconst (x := (nI 1)) rfl (by decide) ?_
  refine rn_iadd rfl ?_
  refine rn_iload_n (i := 2) rfl rfl ?_
  refine rn_wI rfl hb (fun h6 hb => ?_)
  refine rn_aload_n (i := 0) rfl rfl ?_
  refine rn_gQ (c := 11) (k := 59) rfl (by decide) hb (fun x7 hb => ?_)
  refine rn_iload (i := 5) rfl rfl ?_
  refine rn_iconst (x := (nI 2)) rfl (by decide) ?_
  refine rn_iadd rfl ?_
  refine rn_iload_n (i := 3) rfl rfl ?_
  refine rn_wI rfl hb (fun h8 hb => ?_)
  refine rn_aload_n (i := 0) rfl rfl ?_
  refine rn_gQ (c := 11) (k := 59) rfl (by decide) hb (fun x9 hb => ?_)
  refine rn_iload (i := 5) rfl rfl ?_
  refine rn_iconst (x := (nI 3)) rfl (by decide) ?_
  refine rn_iadd rfl ?_
  refine rn_iload (i := 4) rfl rfl ?_
  refine rn_wI rfl hb (fun h10 hb => ?_)
  refine rn_aload_n (i := 0) rfl rfl ?_
  refine rn_dup rfl (bd_cat_rf _) ?_
  refine rn_gI (c := 11) (k := 60) rfl (by decide) hb (fun x11 hb => ?_)
  refine rn_iconst (x := (nI 1)) rfl (by decide) ?_
  refine rn_iadd rfl ?_
  refine rn_pI (c := 11) (k := 60) rfl (by decide) hb (fun h12 hb => ?_)
  refine rn_aload_n (i := 0) rfl rfl ?_
  refine rn_gI (c := 11) (k := 60) rfl (by decide) hb (fun x13 hb => ?_)
  refine rn_iconst (x := (nI 1)) rfl (by decide) ?_
  refine rn_isub rfl ?_
  obtain rfl := Option.some.inj hb
  exact rn_iret rfl rfl
/-- BitingDoorsModel.lays(IIII)I -/
def f_286 (v0 : Option Nat) (v1 : Int32) (v2 : Int32) (v3 : Int32) (v4 : Int32) (h : Hp) : Option (Int32 × Hp) := b_286_0 v0 v1 v2 v3 v4 h
theorem t_286 (d : Nat) (hd : 0 ≤ d) (v0 : Option Nat) (v1 : Int32) (v2 : Int32) (v3 : Int32) (v4 : Int32) (h : Hp) (r : Int32 × Hp) (hb : f_286 v0 v1 v2 v3 v4 h = some r) : Rn d 286 0 [some (va_rf v0), some (.int v1), some (.int v2), some (.int v3), some (.int v4), none] [] h (some (.int r.1), r.2) := by
  unfold f_286 at hb
  exact u_286_0 d hd v0 v1 v2 v3 v4 h r hb
def b_289_68  (s0 : Int32) (h : Hp) : Option (Int32 × Hp) :=
  some (s0, h)
theorem u_289_68 (d : Nat) (hd : 3 ≤ d) (v0 : Option Nat) (v1 : Int32) (s0 : Int32) (h : Hp) (r : Int32 × Hp) (hb : b_289_68  s0 h = some r) : Rn d 289 68 [some (va_rf v0), some (.int v1)] [.int s0] h (some (.int r.1), r.2) := by
  unfold b_289_68 at hb
  obtain rfl := Option.some.inj hb
  exact rn_iret rfl rfl
def b_289_67   (h : Hp) : Option (Int32 × Hp) :=
  b_289_68  (-1 : Int32) h
theorem u_289_67 (d : Nat) (hd : 3 ≤ d) (v0 : Option Nat) (v1 : Int32)  (h : Hp) (r : Int32 × Hp) (hb : b_289_67   h = some r) : Rn d 289 67 [some (va_rf v0), some (.int v1)] [] h (some (.int r.1), r.2) := by
  unfold b_289_67 at hb
  refine rn_iconst (x := (-1 : Int32)) rfl (by decide) ?_
  exact u_289_68 d hd v0 v1 (-1 : Int32) h _ hb
def b_289_62   (h : Hp) : Option (Int32 × Hp) :=
  b_289_68  (nI 7) h
theorem u_289_62 (d : Nat) (hd : 3 ≤ d) (v0 : Option Nat) (v1 : Int32)  (h : Hp) (r : Int32 × Hp) (hb : b_289_62   h = some r) : Rn d 289 62 [some (va_rf v0), some (.int v1)] [] h (some (.int r.1), r.2) := by
  unfold b_289_62 at hb
  refine rn_bipush (x := (nI 7)) rfl (by decide) ?_
  refine rn_goto rfl rfl ?_
  exact u_289_68 d hd v0 v1 (nI 7) h _ hb
def b_289_53 (v0 : Option Nat)  (h : Hp) : Option (Int32 × Hp) :=
  (grd (rC 11 v0 h)).bind fun _ =>
  (f_193 v0 (nI 7) h).bind fun p1 =>
  if p1.1 = 0 then b_289_67   p1.2 else b_289_62   p1.2
theorem u_289_53 (d : Nat) (hd : 3 ≤ d) (v0 : Option Nat) (v1 : Int32)  (h : Hp) (r : Int32 × Hp) (hb : b_289_53 v0  h = some r) : Rn d 289 53 [some (va_rf v0), some (.int v1)] [] h (some (.int r.1), r.2) := by
  unfold b_289_53 at hb
  obtain ⟨e, rfl⟩ : ∃ e, d = e + 1 := ⟨d - 1, by omega⟩
  refine rn_aload_n (i := 0) rfl rfl ?_
  refine rn_bipush (x := (nI 7)) rfl (by decide) ?_
  obtain ⟨hrc, hb⟩ := grd_spec hb
  obtain ⟨p1, hc, hb⟩ := Option.bind_eq_some_iff.mp hb
  refine Rn.call1 (d := e) (As := [va_rf v0, .int (nI 7)]) (rest := []) rfl rfl rfl (by decide) rfl rfl rfl (bd_rcV hrc rfl) (by decide) (bd_lenC (n := 2) rfl (bd_slR (bd_slI bd_slN)) rfl) (bd_locC (n := 2) rfl (bd_slR (bd_slI bd_slN)) rfl (t_193 e (by omega) v0 (nI 7) h _ hc)) ?_
  refine rn_if_eq rfl rfl (fun hc => ?_) (fun hc => ?_)
  · exact u_289_67 (e + 1) hd v0 v1  p1.2 _ (if_t hb hc)
  · exact u_289_62 (e + 1) hd v0 v1  p1.2 _ (if_f hb hc)
def b_289_48   (h : Hp) : Option (Int32 × Hp) :=
  b_289_68  (nI 6) h
theorem u_289_48 (d : Nat) (hd : 3 ≤ d) (v0 : Option Nat) (v1 : Int32)  (h : Hp) (r : Int32 × Hp) (hb : b_289_48   h = some r) : Rn d 289 48 [some (va_rf v0), some (.int v1)] [] h (some (.int r.1), r.2) := by
  unfold b_289_48 at hb
  refine rn_bipush (x := (nI 6)) rfl (by decide) ?_
  refine rn_goto rfl rfl ?_
  exact u_289_68 d hd v0 v1 (nI 6) h _ hb
def b_289_39 (v0 : Option Nat)  (h : Hp) : Option (Int32 × Hp) :=
  (grd (rC 11 v0 h)).bind fun _ =>
  (f_193 v0 (nI 6) h).bind fun p1 =>
  if p1.1 = 0 then b_289_53 v0  p1.2 else b_289_48   p1.2
theorem u_289_39 (d : Nat) (hd : 3 ≤ d) (v0 : Option Nat) (v1 : Int32)  (h : Hp) (r : Int32 × Hp) (hb : b_289_39 v0  h = some r) : Rn d 289 39 [some (va_rf v0), some (.int v1)] [] h (some (.int r.1), r.2) := by
  unfold b_289_39 at hb
  obtain ⟨e, rfl⟩ : ∃ e, d = e + 1 := ⟨d - 1, by omega⟩
  refine rn_aload_n (i := 0) rfl rfl ?_
  refine rn_bipush (x := (nI 6)) rfl (by decide) ?_
  obtain ⟨hrc, hb⟩ := grd_spec hb
  obtain ⟨p1, hc, hb⟩ := Option.bind_eq_some_iff.mp hb
  refine Rn.call1 (d := e) (As := [va_rf v0, .int (nI 6)]) (rest := []) rfl rfl rfl (by decide) rfl rfl rfl (bd_rcV hrc rfl) (by decide) (bd_lenC (n := 2) rfl (bd_slR (bd_slI bd_slN)) rfl) (bd_locC (n := 2) rfl (bd_slR (bd_slI bd_slN)) rfl (t_193 e (by omega) v0 (nI 6) h _ hc)) ?_
  refine rn_if_eq rfl rfl (fun hc => ?_) (fun hc => ?_)
  · exact u_289_53 (e + 1) hd v0 v1  p1.2 _ (if_t hb hc)
  · exact u_289_48 (e + 1) hd v0 v1  p1.2 _ (if_f hb hc)
def b_289_34   (h : Hp) : Option (Int32 × Hp) :=
  b_289_68  (nI 10) h
theorem u_289_34 (d : Nat) (hd : 3 ≤ d) (v0 : Option Nat) (v1 : Int32)  (h : Hp) (r : Int32 × Hp) (hb : b_289_34   h = some r) : Rn d 289 34 [some (va_rf v0), some (.int v1)] [] h (some (.int r.1), r.2) := by
  unfold b_289_34 at hb
  refine rn_bipush (x := (nI 10)) rfl (by decide) ?_
  refine rn_goto rfl rfl ?_
  exact u_289_68 d hd v0 v1 (nI 10) h _ hb
def b_289_25 (v0 : Option Nat)  (h : Hp) : Option (Int32 × Hp) :=
  (grd (rC 11 v0 h)).bind fun _ =>
  (f_193 v0 (nI 10) h).bind fun p1 =>
  if p1.1 = 0 then b_289_39 v0  p1.2 else b_289_34   p1.2
theorem u_289_25 (d : Nat) (hd : 3 ≤ d) (v0 : Option Nat) (v1 : Int32)  (h : Hp) (r : Int32 × Hp) (hb : b_289_25 v0  h = some r) : Rn d 289 25 [some (va_rf v0), some (.int v1)] [] h (some (.int r.1), r.2) := by
  unfold b_289_25 at hb
  obtain ⟨e, rfl⟩ : ∃ e, d = e + 1 := ⟨d - 1, by omega⟩
  refine rn_aload_n (i := 0) rfl rfl ?_
  refine rn_bipush (x := (nI 10)) rfl (by decide) ?_
  obtain ⟨hrc, hb⟩ := grd_spec hb
  obtain ⟨p1, hc, hb⟩ := Option.bind_eq_some_iff.mp hb
  refine Rn.call1 (d := e) (As := [va_rf v0, .int (nI 10)]) (rest := []) rfl rfl rfl (by decide) rfl rfl rfl (bd_rcV hrc rfl) (by decide) (bd_lenC (n := 2) rfl (bd_slR (bd_slI bd_slN)) rfl) (bd_locC (n := 2) rfl (bd_slR (bd_slI bd_slN)) rfl (t_193 e (by omega) v0 (nI 10) h _ hc)) ?_
  refine rn_if_eq rfl rfl (fun hc => ?_) (fun hc => ?_)
  · exact u_289_39 (e + 1) hd v0 v1  p1.2 _ (if_t hb hc)
  · exact u_289_34 (e + 1) hd v0 v1  p1.2 _ (if_f hb hc)
def b_289_19 (k3 : Option Nat → Int32 → Hp → Option (Int32 × Hp)) (v0 : Option Nat) (v1 : Int32)  (h : Hp) : Option (Int32 × Hp) :=
  bnd (v1 + (nI 1)) fun x1 =>
  k3 v0 x1 h
theorem u_289_19 (d : Nat) (hd : 3 ≤ d) (k3 : Option Nat → Int32 → Hp → Option (Int32 × Hp)) (K3 : ∀ (v0 : Option Nat) (v1 : Int32) (h : Hp) (r : Int32 × Hp), k3 v0 v1 h = some r → Rn d 289 3 [some (va_rf v0), some (.int v1)] [] h (some (.int r.1), r.2)) (v0 : Option Nat) (v1 : Int32)  (h : Hp) (r : Int32 × Hp) (hb : b_289_19 k3 v0 v1  h = some r) : Rn d 289 19 [some (va_rf v0), some (.int v1)] [] h (some (.int r.1), r.2) := by
  unfold b_289_19 at hb
  obtain ⟨x1, ex1, hb⟩ := bnd_spec hb
  refine rn_iinc (i := 1) (y := x1) (L1 := [some (va_rf v0), some (.int x1)]) rfl rfl (Nat.le_of_ble_eq_true rfl) (Or.inr (bd_wideR rfl)) (by rw [ex1]; rfl) rfl ?_
  refine rn_goto rfl rfl ?_
  exact K3 v0 x1 h _ hb
def b_289_17 (v1 : Int32)  (h : Hp) : Option (Int32 × Hp) :=
  some (v1, h)
theorem u_289_17 (d : Nat) (hd : 3 ≤ d) (v0 : Option Nat) (v1 : Int32)  (h : Hp) (r : Int32 × Hp) (hb : b_289_17 v1  h = some r) : Rn d 289 17 [some (va_rf v0), some (.int v1)] [] h (some (.int r.1), r.2) := by
  unfold b_289_17 at hb
  refine rn_iload_n (i := 1) rfl rfl ?_
  obtain rfl := Option.some.inj hb
  exact rn_iret rfl rfl
def b_289_9 (k3 : Option Nat → Int32 → Hp → Option (Int32 × Hp)) (v0 : Option Nat) (v1 : Int32)  (h : Hp) : Option (Int32 × Hp) :=
  (grd (rC 11 v0 h)).bind fun _ =>
  (f_193 v0 v1 h).bind fun p1 =>
  if p1.1 = 0 then b_289_19 k3 v0 v1  p1.2 else b_289_17 v1  p1.2
theorem u_289_9 (d : Nat) (hd : 3 ≤ d) (k3 : Option Nat → Int32 → Hp → Option (Int32 × Hp)) (K3 : ∀ (v0 : Option Nat) (v1 : Int32) (h : Hp) (r : Int32 × Hp), k3 v0 v1 h = some r → Rn d 289 3 [some (va_rf v0), some (.int v1)] [] h (some (.int r.1), r.2)) (v0 : Option Nat) (v1 : Int32)  (h : Hp) (r : Int32 × Hp) (hb : b_289_9 k3 v0 v1  h = some r) : Rn d 289 9 [some (va_rf v0), some (.int v1)] [] h (some (.int r.1), r.2) := by
  unfold b_289_9 at hb
  obtain ⟨e, rfl⟩ : ∃ e, d = e + 1 := ⟨d - 1, by omega⟩
  refine rn_aload_n (i := 0) rfl rfl ?_
  refine rn_iload_n (i := 1) rfl rfl ?_
  obtain ⟨hrc, hb⟩ := grd_spec hb
  obtain ⟨p1, hc, hb⟩ := Option.bind_eq_some_iff.mp hb
  refine Rn.call1 (d := e) (As := [va_rf v0, .int v1]) (rest := []) rfl rfl rfl (by decide) rfl rfl rfl (bd_rcV hrc rfl) (by decide) (bd_lenC (n := 2) rfl (bd_slR (bd_slI bd_slN)) rfl) (bd_locC (n := 2) rfl (bd_slR (bd_slI bd_slN)) rfl (t_193 e (by omega) v0 v1 h _ hc)) ?_
  refine rn_if_eq rfl rfl (fun hc => ?_) (fun hc => ?_)
  · exact u_289_19 (e + 1) hd k3 K3 v0 v1  p1.2 _ (if_t hb hc)
  · exact u_289_17 (e + 1) hd v0 v1  p1.2 _ (if_f hb hc)
def b_289_3 (k3 : Option Nat → Int32 → Hp → Option (Int32 × Hp)) (v0 : Option Nat) (v1 : Int32)  (h : Hp) : Option (Int32 × Hp) :=
  if (nI 25) < v1 then b_289_25 v0  h else b_289_9 k3 v0 v1  h
theorem u_289_3 (d : Nat) (hd : 3 ≤ d) (k3 : Option Nat → Int32 → Hp → Option (Int32 × Hp)) (K3 : ∀ (v0 : Option Nat) (v1 : Int32) (h : Hp) (r : Int32 × Hp), k3 v0 v1 h = some r → Rn d 289 3 [some (va_rf v0), some (.int v1)] [] h (some (.int r.1), r.2)) (v0 : Option Nat) (v1 : Int32)  (h : Hp) (r : Int32 × Hp) (hb : b_289_3 k3 v0 v1  h = some r) : Rn d 289 3 [some (va_rf v0), some (.int v1)] [] h (some (.int r.1), r.2) := by
  unfold b_289_3 at hb
  refine rn_iload_n (i := 1) rfl rfl ?_
  refine rn_bipush (x := (nI 25)) rfl (by decide) ?_
  refine rn_icmp_gt rfl rfl (fun hc => ?_) (fun hc => ?_)
  · exact u_289_25 d hd v0 v1  h _ (if_t hb hc)
  · exact u_289_9 d hd k3 K3 v0 v1  h _ (if_f hb hc)
def l_289_3 : Nat → Option Nat → Int32 → Hp → Option (Int32 × Hp)
  | 0, _, _, _ => none
  | n + 1, v0, v1, h => b_289_3 (l_289_3 n) v0 v1 h
theorem w_289_3 (d : Nat) (hd : 3 ≤ d) : ∀ (n : Nat) (v0 : Option Nat) (v1 : Int32) (h : Hp) (r : Int32 × Hp), l_289_3 n v0 v1 h = some r → Rn d 289 3 [some (va_rf v0), some (.int v1)] [] h (some (.int r.1), r.2) := by
  intro n
  induction n with
  | zero => intro v0 v1 h r hb; cases hb
  | succ n ih => intro v0 v1 h r hb; exact u_289_3 d hd (l_289_3 n) ih v0 v1 h r hb
def b_289_0 (v0 : Option Nat)  (h : Hp) : Option (Int32 × Hp) :=
  bnd ((nI 19)) fun x1 =>
  l_289_3 FU v0 x1 h
theorem u_289_0 (d : Nat) (hd : 3 ≤ d) (v0 : Option Nat)  (h : Hp) (r : Int32 × Hp) (hb : b_289_0 v0  h = some r) : Rn d 289 0 [some (va_rf v0), none] [] h (some (.int r.1), r.2) := by
  unfold b_289_0 at hb
  refine rn_bipush (x := (nI 19)) rfl (by decide) ?_
  obtain ⟨x1, ex1, hb⟩ := bnd_spec hb
  refine rn_istore_n (i := 1) (L1 := [some (va_rf v0), some (.int x1)]) rfl (Nat.le_of_ble_eq_true rfl) (Or.inr (bd_wideR rfl)) (by rw [ex1]; rfl) ?_
  exact w_289_3 d hd FU v0 x1 h _ hb
/-- BitingDoorsModel.oneAtHand()I -/
def f_289 (v0 : Option Nat) (h : Hp) : Option (Int32 × Hp) := b_289_0 v0 h
theorem t_289 (d : Nat) (hd : 3 ≤ d) (v0 : Option Nat) (h : Hp) (r : Int32 × Hp) (hb : f_289 v0 h = some r) : Rn d 289 0 [some (va_rf v0), none] [] h (some (.int r.1), r.2) := by
  unfold f_289 at hb
  exact u_289_0 d hd v0 h r hb
def b_293_57 (v0 : Option Nat) (v1 : Int32)  (h : Hp) : Option (Int32 × Hp) :=
  (grd (rC 11 v0 h)).bind fun _ =>
  (f_286 v0 (nI 7) v1 (nI 0) (nI 0) h).bind fun p1 =>
  (pI 11 63 v0 p1.1 p1.2).bind fun h2 =>
  (grd (rC 11 v0 h2)).bind fun _ =>
  (f_189 v0 h2).bind fun p3 =>
  (grd (decide ((nI 1) = 0 ∨ (nI 1) = 1))).bind fun _ => some ((nI 1), p3)
theorem u_293_57 (d : Nat) (hd : 3 ≤ d) (v0 : Option Nat) (v1 : Int32)  (h : Hp) (r : Int32 × Hp) (hb : b_293_57 v0 v1  h = some r) : Rn d 293 57 [some (va_rf v0), some (.int v1)] [] h (some (.int r.1), r.2) := by
  unfold b_293_57 at hb
  obtain ⟨e, rfl⟩ : ∃ e, d = e + 1 := ⟨d - 1, by omega⟩
  refine rn_aload_n (i := 0) rfl rfl ?_
  refine rn_aload_n (i := 0) rfl rfl ?_
  refine rn_bipush (x := (nI 7)) rfl (by decide) ?_
  refine rn_iload_n (i := 1) rfl rfl ?_
  refine rn_iconst (x := (nI 0)) rfl (by decide) ?_
  refine rn_iconst (x := (nI 0)) rfl (by decide) ?_
  obtain ⟨hrc, hb⟩ := grd_spec hb
  obtain ⟨p1, hc, hb⟩ := Option.bind_eq_some_iff.mp hb
  refine Rn.call1 (d := e) (As := [va_rf v0, .int (nI 7), .int v1, .int (nI 0), .int (nI 0)]) (rest := [va_rf v0]) rfl rfl rfl (by decide) rfl rfl rfl (bd_rcV hrc rfl) (by rw [bd_cR (bd_cN)]; decide) (bd_lenC (n := 6) rfl (bd_slR (bd_slI (bd_slI (bd_slI (bd_slI bd_slN))))) rfl) (bd_locC (n := 6) rfl (bd_slR (bd_slI (bd_slI (bd_slI (bd_slI bd_slN))))) rfl (t_286 e (by omega) v0 (nI 7) v1 (nI 0) (nI 0) h _ hc)) ?_
  refine rn_pI (c := 11) (k := 63) rfl (by decide) hb (fun h2 hb => ?_)
  refine rn_aload_n (i := 0) rfl rfl ?_
  obtain ⟨hrc, hb⟩ := grd_spec hb
  obtain ⟨p3, hc, hb⟩ := Option.bind_eq_some_iff.mp hb
  refine Rn.call0 (d := e) (As := [va_rf v0]) (rest := []) rfl rfl rfl (by decide) rfl rfl rfl (bd_rcV hrc rfl) (by decide) (bd_lenC (n := 5) rfl (bd_slR bd_slN) rfl) (bd_locC (n := 5) rfl (bd_slR bd_slN) rfl (t_189 e (by omega) v0 h2 _ hc)) ?_
  refine rn_iconst (x := (nI 1)) rfl (by decide) ?_
  obtain ⟨hz, hb⟩ := grd_spec hb
  obtain rfl := Option.some.inj hb
  exact rn_zret rfl rfl (of_decide_eq_true hz)
def b_293_51 (v0 : Option Nat)  (h : Hp) : Option (Int32 × Hp) :=
  (grd (rC 11 v0 h)).bind fun _ =>
  (f_198 v0 (nI 3) h).bind fun p1 =>
  (grd (decide (p1.1 = 0 ∨ p1.1 = 1))).bind fun _ => some (p1.1, p1.2)
theorem u_293_51 (d : Nat) (hd : 3 ≤ d) (v0 : Option Nat) (v1 : Int32)  (h : Hp) (r : Int32 × Hp) (hb : b_293_51 v0  h = some r) : Rn d 293 51 [some (va_rf v0), some (.int v1)] [] h (some (.int r.1), r.2) := by
  unfold b_293_51 at hb
  obtain ⟨e, rfl⟩ : ∃ e, d = e + 1 := ⟨d - 1, by omega⟩
  refine rn_aload_n (i := 0) rfl rfl ?_
  refine rn_iconst (x := (nI 3)) rfl (by decide) ?_
  obtain ⟨hrc, hb⟩ := grd_spec hb
  obtain ⟨p1, hc, hb⟩ := Option.bind_eq_some_iff.mp hb
  refine Rn.call1 (d := e) (As := [va_rf v0, .int (nI 3)]) (rest := []) rfl rfl rfl (by decide) rfl rfl rfl (bd_rcV hrc rfl) (by decide) (bd_lenC (n := 2) rfl (bd_slR (bd_slI bd_slN)) rfl) (bd_locC (n := 2) rfl (bd_slR (bd_slI bd_slN)) rfl (t_198 e (by omega) v0 (nI 3) h _ hc)) ?_
  obtain ⟨hz, hb⟩ := grd_spec hb
  obtain rfl := Option.some.inj hb
  exact rn_zret rfl rfl (of_decide_eq_true hz)
def b_293_43 (v0 : Option Nat) (v1 : Int32)  (h : Hp) : Option (Int32 × Hp) :=
  (grd (rC 11 v0 h)).bind fun _ =>
  (f_203 v0 h).bind fun p1 =>
  if ¬ v1 = p1.1 then b_293_57 v0 v1  p1.2 else b_293_51 v0  p1.2
theorem u_293_43 (d : Nat) (hd : 3 ≤ d) (v0 : Option Nat) (v1 : Int32)  (h : Hp) (r : Int32 × Hp) (hb : b_293_43 v0 v1  h = some r) : Rn d 293 43 [some (va_rf v0), some (.int v1)] [] h (some (.int r.1), r.2) := by
  unfold b_293_43 at hb
  obtain ⟨e, rfl⟩ : ∃ e, d = e + 1 := ⟨d - 1, by omega⟩
  refine rn_iload_n (i := 1) rfl rfl ?_
  refine rn_aload_n (i := 0) rfl rfl ?_
  obtain ⟨hrc, hb⟩ := grd_spec hb
  obtain ⟨p1, hc, hb⟩ := Option.bind_eq_some_iff.mp hb
  refine Rn.call1 (d := e) (As := [va_rf v0]) (rest := [.int v1]) rfl rfl rfl (by decide) rfl rfl rfl (bd_rcV hrc rfl) (by rw [bd_cI (bd_cN)]; decide) (bd_lenC (n := 1) rfl (bd_slR bd_slN) rfl) (bd_locC (n := 1) rfl (bd_slR bd_slN) rfl (t_203 e (by omega) v0 h _ hc)) ?_
  refine rn_icmp_ne rfl rfl (fun hc => ?_) (fun hc => ?_)
  · exact u_293_57 (e + 1) hd v0 v1  p1.2 _ (if_t hb hc)
  · exact u_293_51 (e + 1) hd v0 v1  p1.2 _ (if_f hb hc)
def b_293_37 (k15 : Option Nat → Int32 → Hp → Option (Int32 × Hp)) (v0 : Option Nat) (v1 : Int32)  (h : Hp) : Option (Int32 × Hp) :=
  bnd (v1 + (nI 1)) fun x1 =>
  k15 v0 x1 h
theorem u_293_37 (d : Nat) (hd : 3 ≤ d) (k15 : Option Nat → Int32 → Hp → Option (Int32 × Hp)) (K15 : ∀ (v0 : Option Nat) (v1 : Int32) (h : Hp) (r : Int32 × Hp), k15 v0 v1 h = some r → Rn d 293 15 [some (va_rf v0), some (.int v1)] [] h (some (.int r.1), r.2)) (v0 : Option Nat) (v1 : Int32)  (h : Hp) (r : Int32 × Hp) (hb : b_293_37 k15 v0 v1  h = some r) : Rn d 293 37 [some (va_rf v0), some (.int v1)] [] h (some (.int r.1), r.2) := by
  unfold b_293_37 at hb
  obtain ⟨x1, ex1, hb⟩ := bnd_spec hb
  refine rn_iinc (i := 1) (y := x1) (L1 := [some (va_rf v0), some (.int x1)]) rfl rfl (Nat.le_of_ble_eq_true rfl) (Or.inr (bd_wideR rfl)) (by rw [ex1]; rfl) rfl ?_
  refine rn_goto rfl rfl ?_
  exact K15 v0 x1 h _ hb
def b_293_23 (k15 : Option Nat → Int32 → Hp → Option (Int32 × Hp)) (v0 : Option Nat) (v1 : Int32)  (h : Hp) : Option (Int32 × Hp) :=
  (gQ 11 18 v0 h).bind fun x1 =>
  (aJ x1 v1 h).bind fun x2 =>
  (gJ 11 12 v0 h).bind fun x3 =>
  if (lg_cmp x2 x3) = 0 then b_293_43 v0 v1  h else b_293_37 k15 v0 v1  h
theorem u_293_23 (d : Nat) (hd : 3 ≤ d) (k15 : Option Nat → Int32 → Hp → Option (Int32 × Hp)) (K15 : ∀ (v0 : Option Nat) (v1 : Int32) (h : Hp) (r : Int32 × Hp), k15 v0 v1 h = some r → Rn d 293 15 [some (va_rf v0), some (.int v1)] [] h (some (.int r.1), r.2)) (v0 : Option Nat) (v1 : Int32)  (h : Hp) (r : Int32 × Hp) (hb : b_293_23 k15 v0 v1  h = some r) : Rn d 293 23 [some (va_rf v0), some (.int v1)] [] h (some (.int r.1), r.2) := by
  unfold b_293_23 at hb
  refine rn_aload_n (i := 0) rfl rfl ?_
  refine rn_gQ (c := 11) (k := 18) rfl (by decide) hb (fun x1 hb => ?_)
  refine rn_iload_n (i := 1) rfl rfl ?_
  refine rn_aJ rfl hb (fun x2 hb => ?_)
  refine rn_aload_n (i := 0) rfl rfl ?_
  refine rn_gJ (c := 11) (k := 12) rfl (by decide) hb (fun x3 hb => ?_)
  refine rn_lcmp rfl ?_
  refine rn_if_eq rfl rfl (fun hc => ?_) (fun hc => ?_)
  · exact u_293_43 d hd v0 v1  h _ (if_t hb hc)
  · exact u_293_37 d hd k15 K15 v0 v1  h _ (if_f hb hc)
def b_293_15 (k15 : Option Nat → Int32 → Hp → Option (Int32 × Hp)) (v0 : Option Nat) (v1 : Int32)  (h : Hp) : Option (Int32 × Hp) :=
  (grd (rC 11 v0 h)).bind fun _ =>
  (f_203 v0 h).bind fun p1 =>
  if p1.1 ≤ v1 then b_293_43 v0 v1  p1.2 else b_293_23 k15 v0 v1  p1.2
theorem u_293_15 (d : Nat) (hd : 3 ≤ d) (k15 : Option Nat → Int32 → Hp → Option (Int32 × Hp)) (K15 : ∀ (v0 : Option Nat) (v1 : Int32) (h : Hp) (r : Int32 × Hp), k15 v0 v1 h = some r → Rn d 293 15 [some (va_rf v0), some (.int v1)] [] h (some (.int r.1), r.2)) (v0 : Option Nat) (v1 : Int32)  (h : Hp) (r : Int32 × Hp) (hb : b_293_15 k15 v0 v1  h = some r) : Rn d 293 15 [some (va_rf v0), some (.int v1)] [] h (some (.int r.1), r.2) := by
  unfold b_293_15 at hb
  obtain ⟨e, rfl⟩ : ∃ e, d = e + 1 := ⟨d - 1, by omega⟩
  refine rn_iload_n (i := 1) rfl rfl ?_
  refine rn_aload_n (i := 0) rfl rfl ?_
  obtain ⟨hrc, hb⟩ := grd_spec hb
  obtain ⟨p1, hc, hb⟩ := Option.bind_eq_some_iff.mp hb
  refine Rn.call1 (d := e) (As := [va_rf v0]) (rest := [.int v1]) rfl rfl rfl (by decide) rfl rfl rfl (bd_rcV hrc rfl) (by rw [bd_cI (bd_cN)]; decide) (bd_lenC (n := 1) rfl (bd_slR bd_slN) rfl) (bd_locC (n := 1) rfl (bd_slR bd_slN) rfl (t_203 e (by omega) v0 h _ hc)) ?_
  refine rn_icmp_ge rfl rfl (fun hc => ?_) (fun hc => ?_)
  · exact u_293_43 (e + 1) hd v0 v1  p1.2 _ (if_t hb hc)
  · exact u_293_23 (e + 1) hd k15 K15 v0 v1  p1.2 _ (if_f hb hc)
def l_293_15 : Nat → Option Nat → Int32 → Hp → Option (Int32 × Hp)
  | 0, _, _, _ => none
  | n + 1, v0, v1, h => b_293_15 (l_293_15 n) v0 v1 h
theorem w_293_15 (d : Nat) (hd : 3 ≤ d) : ∀ (n : Nat) (v0 : Option Nat) (v1 : Int32) (h : Hp) (r : Int32 × Hp), l_293_15 n v0 v1 h = some r → Rn d 293 15 [some (va_rf v0), some (.int v1)] [] h (some (.int r.1), r.2) := by
  intro n
  induction n with
  | zero => intro v0 v1 h r hb; cases hb
  | succ n ih => intro v0 v1 h r hb; exact u_293_15 d hd (l_293_15 n) ih v0 v1 h r hb
def b_293_13 (v0 : Option Nat)  (h : Hp) : Option (Int32 × Hp) :=
  bnd ((nI 0)) fun x1 =>
  l_293_15 FU v0 x1 h
theorem u_293_13 (d : Nat) (hd : 3 ≤ d) (v0 : Option Nat)  (h : Hp) (r : Int32 × Hp) (hb : b_293_13 v0  h = some r) : Rn d 293 13 [some (va_rf v0), none] [] h (some (.int r.1), r.2) := by
  unfold b_293_13 at hb
  refine rn_iconst (x := (nI 0)) rfl (by decide) ?_
  obtain ⟨x1, ex1, hb⟩ := bnd_spec hb
  refine rn_istore_n (i := 1) (L1 := [some (va_rf v0), some (.int x1)]) rfl (Nat.le_of_ble_eq_true rfl) (Or.inr (bd_wideR rfl)) (by rw [ex1]; rfl) ?_
  exact w_293_15 d hd FU v0 x1 h _ hb
def b_293_7 (v0 : Option Nat)  (h : Hp) : Option (Int32 × Hp) :=
  (grd (rC 11 v0 h)).bind fun _ =>
  (f_198 v0 (nI 1) h).bind fun p1 =>
  (grd (decide (p1.1 = 0 ∨ p1.1 = 1))).bind fun _ => some (p1.1, p1.2)
theorem u_293_7 (d : Nat) (hd : 3 ≤ d) (v0 : Option Nat)  (h : Hp) (r : Int32 × Hp) (hb : b_293_7 v0  h = some r) : Rn d 293 7 [some (va_rf v0), none] [] h (some (.int r.1), r.2) := by
  unfold b_293_7 at hb
  obtain ⟨e, rfl⟩ : ∃ e, d = e + 1 := ⟨d - 1, by omega⟩
  refine rn_aload_n (i := 0) rfl rfl ?_
  refine rn_iconst (x := (nI 1)) rfl (by decide) ?_
  obtain ⟨hrc, hb⟩ := grd_spec hb
  obtain ⟨p1, hc, hb⟩ := Option.bind_eq_some_iff.mp hb
  refine Rn.call1 (d := e) (As := [va_rf v0, .int (nI 1)]) (rest := []) rfl rfl rfl (by decide) rfl rfl rfl (bd_rcV hrc rfl) (by decide) (bd_lenC (n := 2) rfl (bd_slR (bd_slI bd_slN)) rfl) (bd_locC (n := 2) rfl (bd_slR (bd_slI bd_slN)) rfl (t_198 e (by omega) v0 (nI 1) h _ hc)) ?_
  obtain ⟨hz, hb⟩ := grd_spec hb
  obtain rfl := Option.some.inj hb
  exact rn_zret rfl rfl (of_decide_eq_true hz)
def b_293_0 (v0 : Option Nat)  (h : Hp) : Option (Int32 × Hp) :=
  (grd (rC 11 v0 h)).bind fun _ =>
  (f_197 v0 h).bind fun p1 =>
  if ¬ p1.1 = 0 then b_293_13 v0  p1.2 else b_293_7 v0  p1.2
theorem u_293_0 (d : Nat) (hd : 3 ≤ d) (v0 : Option Nat)  (h : Hp) (r : Int32 × Hp) (hb : b_293_0 v0  h = some r) : Rn d 293 0 [some (va_rf v0), none] [] h (some (.int r.1), r.2) := by
  unfold b_293_0 at hb
  obtain ⟨e, rfl⟩ : ∃ e, d = e + 1 := ⟨d - 1, by omega⟩
  refine rn_aload_n (i := 0) rfl rfl ?_
  obtain ⟨hrc, hb⟩ := grd_spec hb
  obtain ⟨p1, hc, hb⟩ := Option.bind_eq_some_iff.mp hb
  refine Rn.call1 (d := e) (As := [va_rf v0]) (rest := []) rfl rfl rfl (by decide) rfl rfl rfl (bd_rcV hrc rfl) (by decide) (bd_lenC (n := 2) rfl (bd_slR bd_slN) rfl) (bd_locC (n := 2) rfl (bd_slR bd_slN) rfl (t_197 e (by omega) v0 h _ hc)) ?_
  refine rn_if_ne rfl rfl (fun hc => ?_) (fun hc => ?_)
  · exact u_293_13 (e + 1) hd v0  p1.2 _ (if_t hb hc)
  · exact u_293_7 (e + 1) hd v0  p1.2 _ (if_f hb hc)
/-- BitingDoorsModel.readBites()Z -/
def f_293 (v0 : Option Nat) (h : Hp) : Option (Int32 × Hp) := b_293_0 v0 h
theorem t_293 (d : Nat) (hd : 3 ≤ d) (v0 : Option Nat) (h : Hp) (r : Int32 × Hp) (hb : f_293 v0 h = some r) : Rn d 293 0 [some (va_rf v0), none] [] h (some (.int r.1), r.2) := by
  unfold f_293 at hb
  exact u_293_0 d hd v0 h r hb
def b_294_54 (v0 : Option Nat) (v1 : Int32) (v2 : Int32)  (h : Hp) : Option (Int32 × Hp) :=
  (gI 11 13 v0 h).bind fun x1 =>
  (grd (rC 11 v0 h)).bind fun _ =>
  (f_286 v0 ((nI 50) + v1) (nI 0) x1 v2 h).bind fun p2 =>
  (pI 11 63 v0 p2.1 p2.2).bind fun h3 =>
  (grd (decide ((nI 1) = 0 ∨ (nI 1) = 1))).bind fun _ => some ((nI 1), h3)
theorem u_294_54 (d : Nat) (hd : 3 ≤ d) (v0 : Option Nat) (v1 : Int32) (v2 : Int32)  (h : Hp) (r : Int32 × Hp) (hb : b_294_54 v0 v1 v2  h = some r) : Rn d 294 54 [some (va_rf v0), some (.int v1), some (.int v2)] [] h (some (.int r.1), r.2) := by
  unfold b_294_54 at hb
  obtain ⟨e, rfl⟩ : ∃ e, d = e + 1 := ⟨d - 1, by omega⟩
  refine rn_aload_n (i := 0) rfl rfl ?_
  refine rn_aload_n (i := 0) rfl rfl ?_
  refine rn_bipush (x := (nI 50)) rfl (by decide) ?_
  refine rn_iload_n (i := 1) rfl rfl ?_
  refine rn_iadd rfl ?_
  refine rn_iconst (x := (nI 0)) rfl (by decide) ?_
  refine rn_aload_n (i := 0) rfl rfl ?_
  refine rn_gI (c := 11) (k := 13) rfl (by decide) hb (fun x1 hb => ?_)
  refine rn_iload_n (i := 2) rfl rfl ?_
  obtain ⟨hrc, hb⟩ := grd_spec hb
  obtain ⟨p2, hc, hb⟩ := Option.bind_eq_some_iff.mp hb
  refine Rn.call1 (d := e) (As := [va_rf v0, .int ((nI 50) + v1), .int (nI 0), .int x1, .int v2]) (rest := [va_rf v0]) rfl rfl rfl (by decide) rfl rfl rfl (bd_rcV hrc rfl) (by rw [bd_cR (bd_cN)]; decide) (bd_lenC (n := 6) rfl (bd_slR (bd_slI (bd_slI (bd_slI (bd_slI bd_slN))))) rfl) (bd_locC (n := 6) rfl (bd_slR (bd_slI (bd_slI (bd_slI (bd_slI bd_slN))))) rfl (t_286 e (by omega) v0 ((nI 50) + v1) (nI 0) x1 v2 h _ hc)) ?_
  refine rn_pI (c := 11) (k := 63) rfl (by decide) hb (fun h3 hb => ?_)
  refine rn_iconst (x := (nI 1)) rfl (by decide) ?_
  obtain ⟨hz, hb⟩ := grd_spec hb
  obtain rfl := Option.some.inj hb
  exact rn_zret rfl rfl (of_decide_eq_true hz)
def b_294_52   (h : Hp) : Option (Int32 × Hp) :=
  (grd (decide ((nI 0) = 0 ∨ (nI 0) = 1))).bind fun _ => some ((nI 0), h)
theorem u_294_52 (d : Nat) (hd : 3 ≤ d) (v0 : Option Nat) (v1 : Int32) (v2 : Int32)  (h : Hp) (r : Int32 × Hp) (hb : b_294_52   h = some r) : Rn d 294 52 [some (va_rf v0), some (.int v1), some (.int v2)] [] h (some (.int r.1), r.2) := by
  unfold b_294_52 at hb
  refine rn_iconst (x := (nI 0)) rfl (by decide) ?_
  obtain ⟨hz, hb⟩ := grd_spec hb
  obtain rfl := Option.some.inj hb
  exact rn_zret rfl rfl (of_decide_eq_true hz)
def b_294_33 (v0 : Option Nat) (v1 : Int32)  (h : Hp) : Option (Int32 × Hp) :=
  (gI 11 9 v0 h).bind fun x1 =>
  (grd (rC 11 v0 h)).bind fun _ =>
  (f_189 v0 h).bind fun p2 =>
  (grd (rC 11 v0 p2)).bind fun _ =>
  (f_199 v0 (nI 0) (nI 99) p2).bind fun p3 =>
  if ¬ p3.1 = 0 then b_294_54 v0 v1 x1  p3.2 else b_294_52   p3.2
theorem u_294_33 (d : Nat) (hd : 3 ≤ d) (v0 : Option Nat) (v1 : Int32)  (h : Hp) (r : Int32 × Hp) (hb : b_294_33 v0 v1  h = some r) : Rn d 294 33 [some (va_rf v0), some (.int v1), none] [] h (some (.int r.1), r.2) := by
  unfold b_294_33 at hb
  obtain ⟨e, rfl⟩ : ∃ e, d = e + 1 := ⟨d - 1, by omega⟩
  refine rn_aload_n (i := 0) rfl rfl ?_
  refine rn_gI (c := 11) (k := 9) rfl (by decide) hb (fun x1 hb => ?_)
  refine rn_istore_n (i := 2) (L1 := [some (va_rf v0), some (.int v1), some (.int x1)]) rfl (Nat.le_of_ble_eq_true rfl) (Or.inr rfl) rfl ?_
  refine rn_aload_n (i := 0) rfl rfl ?_
  obtain ⟨hrc, hb⟩ := grd_spec hb
  obtain ⟨p2, hc, hb⟩ := Option.bind_eq_some_iff.mp hb
  refine Rn.call0 (d := e) (As := [va_rf v0]) (rest := []) rfl rfl rfl (by decide) rfl rfl rfl (bd_rcV hrc rfl) (by decide) (bd_lenC (n := 5) rfl (bd_slR bd_slN) rfl) (bd_locC (n := 5) rfl (bd_slR bd_slN) rfl (t_189 e (by omega) v0 h _ hc)) ?_
  refine rn_aload_n (i := 0) rfl rfl ?_
  refine rn_iconst (x := (nI 0)) rfl (by decide) ?_
  refine rn_bipush (x := (nI 99)) rfl (by decide) ?_
  obtain ⟨hrc, hb⟩ := grd_spec hb
  obtain ⟨p3, hc, hb⟩ := Option.bind_eq_some_iff.mp hb
  refine Rn.call1 (d := e) (As := [va_rf v0, .int (nI 0), .int (nI 99)]) (rest := []) rfl rfl rfl (by decide) rfl rfl rfl (bd_rcV hrc rfl) (by decide) (bd_lenC (n := 3) rfl (bd_slR (bd_slI (bd_slI bd_slN))) rfl) (bd_locC (n := 3) rfl (bd_slR (bd_slI (bd_slI bd_slN))) rfl (t_199 e (by omega) v0 (nI 0) (nI 99) p2 _ hc)) ?_
  refine rn_if_ne rfl rfl (fun hc => ?_) (fun hc => ?_)
  · exact u_294_54 (e + 1) hd v0 v1 x1  p3.2 _ (if_t hb hc)
  · exact u_294_52 (e + 1) hd v0 v1 x1  p3.2 _ (if_f hb hc)
def b_294_27 (v0 : Option Nat)  (h : Hp) : Option (Int32 × Hp) :=
  (grd (rC 11 v0 h)).bind fun _ =>
  (f_198 v0 (nI 1) h).bind fun p1 =>
  (grd (decide (p1.1 = 0 ∨ p1.1 = 1))).bind fun _ => some (p1.1, p1.2)
theorem u_294_27 (d : Nat) (hd : 3 ≤ d) (v0 : Option Nat) (v1 : Int32)  (h : Hp) (r : Int32 × Hp) (hb : b_294_27 v0  h = some r) : Rn d 294 27 [some (va_rf v0), some (.int v1), none] [] h (some (.int r.1), r.2) := by
  unfold b_294_27 at hb
  obtain ⟨e, rfl⟩ : ∃ e, d = e + 1 := ⟨d - 1, by omega⟩
  refine rn_aload_n (i := 0) rfl rfl ?_
  refine rn_iconst (x := (nI 1)) rfl (by decide) ?_
  obtain ⟨hrc, hb⟩ := grd_spec hb
  obtain ⟨p1, hc, hb⟩ := Option.bind_eq_some_iff.mp hb
  refine Rn.call1 (d := e) (As := [va_rf v0, .int (nI 1)]) (rest := []) rfl rfl rfl (by decide) rfl rfl rfl (bd_rcV hrc rfl) (by decide) (bd_lenC (n := 2) rfl (bd_slR (bd_slI bd_slN)) rfl) (bd_locC (n := 2) rfl (bd_slR (bd_slI bd_slN)) rfl (t_198 e (by omega) v0 (nI 1) h _ hc)) ?_
  obtain ⟨hz, hb⟩ := grd_spec hb
  obtain rfl := Option.some.inj hb
  exact rn_zret rfl rfl (of_decide_eq_true hz)
def b_294_18 (v0 : Option Nat) (v1 : Int32)  (h : Hp) : Option (Int32 × Hp) :=
  (grd (rC 11 v0 h)).bind fun _ =>
  (f_194 v0 (nI 62) h).bind fun p1 =>
  if ¬ p1.1 = 0 then b_294_33 v0 v1  p1.2 else b_294_27 v0  p1.2
theorem u_294_18 (d : Nat) (hd : 3 ≤ d) (v0 : Option Nat) (v1 : Int32)  (h : Hp) (r : Int32 × Hp) (hb : b_294_18 v0 v1  h = some r) : Rn d 294 18 [some (va_rf v0), some (.int v1), none] [] h (some (.int r.1), r.2) := by
  unfold b_294_18 at hb
  obtain ⟨e, rfl⟩ : ∃ e, d = e + 1 := ⟨d - 1, by omega⟩
  refine rn_aload_n (i := 0) rfl rfl ?_
  refine rn_bipush (x := (nI 62)) rfl (by decide) ?_
  obtain ⟨hrc, hb⟩ := grd_spec hb
  obtain ⟨p1, hc, hb⟩ := Option.bind_eq_some_iff.mp hb
  refine Rn.call1 (d := e) (As := [va_rf v0, .int (nI 62)]) (rest := []) rfl rfl rfl (by decide) rfl rfl rfl (bd_rcV hrc rfl) (by decide) (bd_lenC (n := 2) rfl (bd_slR (bd_slI bd_slN)) rfl) (bd_locC (n := 2) rfl (bd_slR (bd_slI bd_slN)) rfl (t_194 e (by omega) v0 (nI 62) h _ hc)) ?_
  refine rn_if_ne rfl rfl (fun hc => ?_) (fun hc => ?_)
  · exact u_294_33 (e + 1) hd v0 v1  p1.2 _ (if_t hb hc)
  · exact u_294_27 (e + 1) hd v0 v1  p1.2 _ (if_f hb hc)
def b_294_9 (v0 : Option Nat) (v1 : Int32)  (h : Hp) : Option (Int32 × Hp) :=
  (grd (rC 11 v0 h)).bind fun _ =>
  (f_194 v0 (nI 61) h).bind fun p1 =>
  if ¬ p1.1 = 0 then b_294_33 v0 v1  p1.2 else b_294_18 v0 v1  p1.2
theorem u_294_9 (d : Nat) (hd : 3 ≤ d) (v0 : Option Nat) (v1 : Int32)  (h : Hp) (r : Int32 × Hp) (hb : b_294_9 v0 v1  h = some r) : Rn d 294 9 [some (va_rf v0), some (.int v1), none] [] h (some (.int r.1), r.2) := by
  unfold b_294_9 at hb
  obtain ⟨e, rfl⟩ : ∃ e, d = e + 1 := ⟨d - 1, by omega⟩
  refine rn_aload_n (i := 0) rfl rfl ?_
  refine rn_bipush (x := (nI 61)) rfl (by decide) ?_
  obtain ⟨hrc, hb⟩ := grd_spec hb
  obtain ⟨p1, hc, hb⟩ := Option.bind_eq_some_iff.mp hb
  refine Rn.call1 (d := e) (As := [va_rf v0, .int (nI 61)]) (rest := []) rfl rfl rfl (by decide) rfl rfl rfl (bd_rcV hrc rfl) (by decide) (bd_lenC (n := 2) rfl (bd_slR (bd_slI bd_slN)) rfl) (bd_locC (n := 2) rfl (bd_slR (bd_slI bd_slN)) rfl (t_194 e (by omega) v0 (nI 61) h _ hc)) ?_
  refine rn_if_ne rfl rfl (fun hc => ?_) (fun hc => ?_)
  · exact u_294_33 (e + 1) hd v0 v1  p1.2 _ (if_t hb hc)
  · exact u_294_18 (e + 1) hd v0 v1  p1.2 _ (if_f hb hc)
def b_294_0 (v0 : Option Nat) (v1 : Int32)  (h : Hp) : Option (Int32 × Hp) :=
  (grd (rC 11 v0 h)).bind fun _ =>
  (f_194 v0 (nI 60) h).bind fun p1 =>
  if ¬ p1.1 = 0 then b_294_33 v0 v1  p1.2 else b_294_9 v0 v1  p1.2
theorem u_294_0 (d : Nat) (hd : 3 ≤ d) (v0 : Option Nat) (v1 : Int32)  (h : Hp) (r : Int32 × Hp) (hb : b_294_0 v0 v1  h = some r) : Rn d 294 0 [some (va_rf v0), some (.int v1), none] [] h (some (.int r.1), r.2) := by
  unfold b_294_0 at hb
  obtain ⟨e, rfl⟩ : ∃ e, d = e + 1 := ⟨d - 1, by omega⟩
  refine rn_aload_n (i := 0) rfl rfl ?_
  refine rn_bipush (x := (nI 60)) rfl (by decide) ?_
  obtain ⟨hrc, hb⟩ := grd_spec hb
  obtain ⟨p1, hc, hb⟩ := Option.bind_eq_some_iff.mp hb
  refine Rn.call1 (d := e) (As := [va_rf v0, .int (nI 60)]) (rest := []) rfl rfl rfl (by decide) rfl rfl rfl (bd_rcV hrc rfl) (by decide) (bd_lenC (n := 2) rfl (bd_slR (bd_slI bd_slN)) rfl) (bd_locC (n := 2) rfl (bd_slR (bd_slI bd_slN)) rfl (t_194 e (by omega) v0 (nI 60) h _ hc)) ?_
  refine rn_if_ne rfl rfl (fun hc => ?_) (fun hc => ?_)
  · exact u_294_33 (e + 1) hd v0 v1  p1.2 _ (if_t hb hc)
  · exact u_294_9 (e + 1) hd v0 v1  p1.2 _ (if_f hb hc)
/-- BitingDoorsModel.readCompare(I)Z -/
def f_294 (v0 : Option Nat) (v1 : Int32) (h : Hp) : Option (Int32 × Hp) := b_294_0 v0 v1 h
theorem t_294 (d : Nat) (hd : 3 ≤ d) (v0 : Option Nat) (v1 : Int32) (h : Hp) (r : Int32 × Hp) (hb : f_294 v0 v1 h = some r) : Rn d 294 0 [some (va_rf v0), some (.int v1), none] [] h (some (.int r.1), r.2) := by
  unfold f_294 at hb
  exact u_294_0 d hd v0 v1 h r hb
def b_291_9 (R : Option Nat → Hp → Option (Int32 × Hp)) (v0 : Option Nat)  (h : Hp) : Option (Int32 × Hp) :=
  (gI 11 63 v0 h).bind fun x1 =>
  (grd (rC 11 v0 h)).bind fun _ =>
  (f_286 v0 (nI 1) x1 (nI 0) (nI 0) h).bind fun p2 =>
  (pI 11 63 v0 p2.1 p2.2).bind fun h3 =>
  (grd (decide ((nI 1) = 0 ∨ (nI 1) = 1))).bind fun _ => some ((nI 1), h3)
theorem u_291_9 (E : Nat) (hE : 3 ≤ E) (d : Nat) (hd : E + 1 ≤ d) (R : Option Nat → Hp → Option (Int32 × Hp)) (HR : ∀ (d : Nat) (a0 : Option Nat) (h : Hp) (r : Int32 × Hp), E ≤ d → R a0 h = some r → Rn d 290 0 [some (va_rf a0), none, none, none] [] h (some (.int r.1), r.2)) (v0 : Option Nat)  (h : Hp) (r : Int32 × Hp) (hb : b_291_9 R v0  h = some r) : Rn d 291 9 [some (va_rf v0)] [] h (some (.int r.1), r.2) := by
  unfold b_291_9 at hb
  obtain ⟨e, rfl⟩ : ∃ e, d = e + 1 := ⟨d - 1, by omega⟩
  refine rn_aload_n (i := 0) rfl rfl ?_
  refine rn_aload_n (i := 0) rfl rfl ?_
  refine rn_iconst (x := (nI 1)) rfl (by decide) ?_
  refine rn_aload_n (i := 0) rfl rfl ?_
  refine rn_gI (c := 11) (k := 63) rfl (by decide) hb (fun x1 hb => ?_)
  refine rn_iconst (x := (nI 0)) rfl (by decide) ?_
  refine rn_iconst (x := (nI 0)) rfl (by decide) ?_
  obtain ⟨hrc, hb⟩ := grd_spec hb
  obtain ⟨p2, hc, hb⟩ := Option.bind_eq_some_iff.mp hb
  refine Rn.call1 (d := e) (As := [va_rf v0, .int (nI 1), .int x1, .int (nI 0), .int (nI 0)]) (rest := [va_rf v0]) rfl rfl rfl (by decide) rfl rfl rfl (bd_rcV hrc rfl) (by rw [bd_cR (bd_cN)]; decide) (bd_lenC (n := 6) rfl (bd_slR (bd_slI (bd_slI (bd_slI (bd_slI bd_slN))))) rfl) (bd_locC (n := 6) rfl (bd_slR (bd_slI (bd_slI (bd_slI (bd_slI bd_slN))))) rfl (t_286 e (by omega) v0 (nI 1) x1 (nI 0) (nI 0) h _ hc)) ?_
  refine rn_pI (c := 11) (k := 63) rfl (by decide) hb (fun h3 hb => ?_)
  refine rn_iconst (x := (nI 1)) rfl (by decide) ?_
  obtain ⟨hz, hb⟩ := grd_spec hb
  obtain rfl := Option.some.inj hb
  exact rn_zret rfl rfl (of_decide_eq_true hz)
def b_291_7 (R : Option Nat → Hp → Option (Int32 × Hp))   (h : Hp) : Option (Int32 × Hp) :=
  (grd (decide ((nI 0) = 0 ∨ (nI 0) = 1))).bind fun _ => some ((nI 0), h)
theorem u_291_7 (E : Nat) (hE : 3 ≤ E) (d : Nat) (hd : E + 1 ≤ d) (R : Option Nat → Hp → Option (Int32 × Hp)) (HR : ∀ (d : Nat) (a0 : Option Nat) (h : Hp) (r : Int32 × Hp), E ≤ d → R a0 h = some r → Rn d 290 0 [some (va_rf a0), none, none, none] [] h (some (.int r.1), r.2)) (v0 : Option Nat)  (h : Hp) (r : Int32 × Hp) (hb : b_291_7 R   h = some r) : Rn d 291 7 [some (va_rf v0)] [] h (some (.int r.1), r.2) := by
  unfold b_291_7 at hb
  refine rn_iconst (x := (nI 0)) rfl (by decide) ?_
  obtain ⟨hz, hb⟩ := grd_spec hb
  obtain rfl := Option.some.inj hb
  exact rn_zret rfl rfl (of_decide_eq_true hz)
def b_291_0 (R : Option Nat → Hp → Option (Int32 × Hp)) (v0 : Option Nat)  (h : Hp) : Option (Int32 × Hp) :=
  (grd (rC 11 v0 h)).bind fun _ =>
  (R v0 h).bind fun p1 =>
  if ¬ p1.1 = 0 then b_291_9 R v0  p1.2 else b_291_7 R   p1.2
theorem u_291_0 (E : Nat) (hE : 3 ≤ E) (d : Nat) (hd : E + 1 ≤ d) (R : Option Nat → Hp → Option (Int32 × Hp)) (HR : ∀ (d : Nat) (a0 : Option Nat) (h : Hp) (r : Int32 × Hp), E ≤ d → R a0 h = some r → Rn d 290 0 [some (va_rf a0), none, none, none] [] h (some (.int r.1), r.2)) (v0 : Option Nat)  (h : Hp) (r : Int32 × Hp) (hb : b_291_0 R v0  h = some r) : Rn d 291 0 [some (va_rf v0)] [] h (some (.int r.1), r.2) := by
  unfold b_291_0 at hb
  obtain ⟨e, rfl⟩ : ∃ e, d = e + 1 := ⟨d - 1, by omega⟩
  refine rn_aload_n (i := 0) rfl rfl ?_
  obtain ⟨hrc, hb⟩ := grd_spec hb
  obtain ⟨p1, hc, hb⟩ := Option.bind_eq_some_iff.mp hb
  refine Rn.call1 (d := e) (As := [va_rf v0]) (rest := []) rfl rfl rfl (by decide) rfl rfl rfl (bd_rcV hrc rfl) (by decide) (bd_lenC (n := 4) rfl (bd_slR bd_slN) rfl) (bd_locC (n := 4) rfl (bd_slR bd_slN) rfl (HR e v0 h _ (by omega) hc)) ?_
  refine rn_if_ne rfl rfl (fun hc => ?_) (fun hc => ?_)
  · exact u_291_9 E hE (e + 1) hd R HR v0  p1.2 _ (if_t hb hc)
  · exact u_291_7 E hE (e + 1) hd R HR v0  p1.2 _ (if_f hb hc)
/-- BitingDoorsModel.readNot()Z -/
def F_291 (R : Option Nat → Hp → Option (Int32 × Hp)) (v0 : Option Nat) (h : Hp) : Option (Int32 × Hp) := b_291_0 R v0 h
theorem t_291 (E : Nat) (hE : 3 ≤ E) (d : Nat) (hd : E + 1 ≤ d) (R : Option Nat → Hp → Option (Int32 × Hp)) (HR : ∀ (d : Nat) (a0 : Option Nat) (h : Hp) (r : Int32 × Hp), E ≤ d → R a0 h = some r → Rn d 290 0 [some (va_rf a0), none, none, none] [] h (some (.int r.1), r.2)) (v0 : Option Nat) (h : Hp) (r : Int32 × Hp) (hb : F_291 R v0 h = some r) : Rn d 291 0 [some (va_rf v0)] [] h (some (.int r.1), r.2) := by
  unfold F_291 at hb
  exact u_291_0 E hE d hd R HR v0 h r hb
def b_288_51 (R : Option Nat → Hp → Option (Int32 × Hp)) (v0 : Option Nat) (v1 : Int32)  (h : Hp) : Option (Int32 × Hp) :=
  (pI 11 63 v0 v1 h).bind fun h1 =>
  (grd (decide ((nI 1) = 0 ∨ (nI 1) = 1))).bind fun _ => some ((nI 1), h1)
theorem u_288_51 (E : Nat) (hE : 3 ≤ E) (d : Nat) (hd : E + 1 ≤ d) (R : Option Nat → Hp → Option (Int32 × Hp)) (HR : ∀ (d : Nat) (a0 : Option Nat) (h : Hp) (r : Int32 × Hp), E ≤ d → R a0 h = some r → Rn d 290 0 [some (va_rf a0), none, none, none] [] h (some (.int r.1), r.2)) (v0 : Option Nat) (v1 : Int32)  (h : Hp) (r : Int32 × Hp) (hb : b_288_51 R v0 v1  h = some r) : Rn d 288 51 [some (va_rf v0), some (.int v1)] [] h (some (.int r.1), r.2) := by
  unfold b_288_51 at hb
  refine rn_aload_n (i := 0) rfl rfl ?_
  refine rn_iload_n (i := 1) rfl rfl ?_
  refine rn_pI (c := 11) (k := 63) rfl (by decide) hb (fun h1 hb => ?_)
  refine rn_iconst (x := (nI 1)) rfl (by decide) ?_
  obtain ⟨hz, hb⟩ := grd_spec hb
  obtain rfl := Option.some.inj hb
  exact rn_zret rfl rfl (of_decide_eq_true hz)
def b_288_36 (R : Option Nat → Hp → Option (Int32 × Hp)) (k14 : Option Nat → Int32 → Hp → Option (Int32 × Hp)) (v0 : Option Nat) (v1 : Int32)  (h : Hp) : Option (Int32 × Hp) :=
  (gI 11 63 v0 h).bind fun x1 =>
  (grd (rC 11 v0 h)).bind fun _ =>
  (f_286 v0 (nI 2) v1 x1 (nI 0) h).bind fun p2 =>
  bnd (p2.1) fun x3 =>
  k14 v0 x3 p2.2
theorem u_288_36 (E : Nat) (hE : 3 ≤ E) (d : Nat) (hd : E + 1 ≤ d) (R : Option Nat → Hp → Option (Int32 × Hp)) (HR : ∀ (d : Nat) (a0 : Option Nat) (h : Hp) (r : Int32 × Hp), E ≤ d → R a0 h = some r → Rn d 290 0 [some (va_rf a0), none, none, none] [] h (some (.int r.1), r.2)) (k14 : Option Nat → Int32 → Hp → Option (Int32 × Hp)) (K14 : ∀ (v0 : Option Nat) (v1 : Int32) (h : Hp) (r : Int32 × Hp), k14 v0 v1 h = some r → Rn d 288 14 [some (va_rf v0), some (.int v1)] [] h (some (.int r.1), r.2)) (v0 : Option Nat) (v1 : Int32)  (h : Hp) (r : Int32 × Hp) (hb : b_288_36 R k14 v0 v1  h = some r) : Rn d 288 36 [some (va_rf v0), some (.int v1)] [] h (some (.int r.1), r.2) := by
  unfold b_288_36 at hb
  obtain ⟨e, rfl⟩ : ∃ e, d = e + 1 := ⟨d - 1, by omega⟩
  refine rn_aload_n (i := 0) rfl rfl ?_
  refine rn_iconst (x := (nI 2)) rfl (by decide) ?_
  refine rn_iload_n (i := 1) rfl rfl ?_
  refine rn_aload_n (i := 0) rfl rfl ?_
  refine rn_gI (c := 11) (k := 63) rfl (by decide) hb (fun x1 hb => ?_)
  refine rn_iconst (x := (nI 0)) rfl (by decide) ?_
  obtain ⟨hrc, hb⟩ := grd_spec hb
  obtain ⟨p2, hc, hb⟩ := Option.bind_eq_some_iff.mp hb
  refine Rn.call1 (d := e) (As := [va_rf v0, .int (nI 2), .int v1, .int x1, .int (nI 0)]) (rest := []) rfl rfl rfl (by decide) rfl rfl rfl (bd_rcV hrc rfl) (by decide) (bd_lenC (n := 6) rfl (bd_slR (bd_slI (bd_slI (bd_slI (bd_slI bd_slN))))) rfl) (bd_locC (n := 6) rfl (bd_slR (bd_slI (bd_slI (bd_slI (bd_slI bd_slN))))) rfl (t_286 e (by omega) v0 (nI 2) v1 x1 (nI 0) h _ hc)) ?_
  obtain ⟨x3, ex3, hb⟩ := bnd_spec hb
  refine rn_istore_n (i := 1) (L1 := [some (va_rf v0), some (.int x3)]) rfl (Nat.le_of_ble_eq_true rfl) (Or.inr (bd_wideR rfl)) (by rw [ex3]; rfl) ?_
  refine rn_goto rfl rfl ?_
  exact K14 v0 x3 p2.2 _ hb
def b_288_34 (R : Option Nat → Hp → Option (Int32 × Hp))   (h : Hp) : Option (Int32 × Hp) :=
  (grd (decide ((nI 0) = 0 ∨ (nI 0) = 1))).bind fun _ => some ((nI 0), h)
theorem u_288_34 (E : Nat) (hE : 3 ≤ E) (d : Nat) (hd : E + 1 ≤ d) (R : Option Nat → Hp → Option (Int32 × Hp)) (HR : ∀ (d : Nat) (a0 : Option Nat) (h : Hp) (r : Int32 × Hp), E ≤ d → R a0 h = some r → Rn d 290 0 [some (va_rf a0), none, none, none] [] h (some (.int r.1), r.2)) (v0 : Option Nat) (v1 : Int32)  (h : Hp) (r : Int32 × Hp) (hb : b_288_34 R   h = some r) : Rn d 288 34 [some (va_rf v0), some (.int v1)] [] h (some (.int r.1), r.2) := by
  unfold b_288_34 at hb
  refine rn_iconst (x := (nI 0)) rfl (by decide) ?_
  obtain ⟨hz, hb⟩ := grd_spec hb
  obtain rfl := Option.some.inj hb
  exact rn_zret rfl rfl (of_decide_eq_true hz)
def b_288_23 (R : Option Nat → Hp → Option (Int32 × Hp)) (k14 : Option Nat → Int32 → Hp → Option (Int32 × Hp)) (v0 : Option Nat) (v1 : Int32)  (h : Hp) : Option (Int32 × Hp) :=
  (grd (rC 11 v0 h)).bind fun _ =>
  (f_189 v0 h).bind fun p1 =>
  (grd (rC 11 v0 p1)).bind fun _ =>
  (R v0 p1).bind fun p2 =>
  if ¬ p2.1 = 0 then b_288_36 R k14 v0 v1  p2.2 else b_288_34 R   p2.2
theorem u_288_23 (E : Nat) (hE : 3 ≤ E) (d : Nat) (hd : E + 1 ≤ d) (R : Option Nat → Hp → Option (Int32 × Hp)) (HR : ∀ (d : Nat) (a0 : Option Nat) (h : Hp) (r : Int32 × Hp), E ≤ d → R a0 h = some r → Rn d 290 0 [some (va_rf a0), none, none, none] [] h (some (.int r.1), r.2)) (k14 : Option Nat → Int32 → Hp → Option (Int32 × Hp)) (K14 : ∀ (v0 : Option Nat) (v1 : Int32) (h : Hp) (r : Int32 × Hp), k14 v0 v1 h = some r → Rn d 288 14 [some (va_rf v0), some (.int v1)] [] h (some (.int r.1), r.2)) (v0 : Option Nat) (v1 : Int32)  (h : Hp) (r : Int32 × Hp) (hb : b_288_23 R k14 v0 v1  h = some r) : Rn d 288 23 [some (va_rf v0), some (.int v1)] [] h (some (.int r.1), r.2) := by
  unfold b_288_23 at hb
  obtain ⟨e, rfl⟩ : ∃ e, d = e + 1 := ⟨d - 1, by omega⟩
  refine rn_aload_n (i := 0) rfl rfl ?_
  obtain ⟨hrc, hb⟩ := grd_spec hb
  obtain ⟨p1, hc, hb⟩ := Option.bind_eq_some_iff.mp hb
  refine Rn.call0 (d := e) (As := [va_rf v0]) (rest := []) rfl rfl rfl (by decide) rfl rfl rfl (bd_rcV hrc rfl) (by decide) (bd_lenC (n := 5) rfl (bd_slR bd_slN) rfl) (bd_locC (n := 5) rfl (bd_slR bd_slN) rfl (t_189 e (by omega) v0 h _ hc)) ?_
  refine rn_aload_n (i := 0) rfl rfl ?_
  obtain ⟨hrc, hb⟩ := grd_spec hb
  obtain ⟨p2, hc, hb⟩ := Option.bind_eq_some_iff.mp hb
  refine Rn.call1 (d := e) (As := [va_rf v0]) (rest := []) rfl rfl rfl (by decide) rfl rfl rfl (bd_rcV hrc rfl) (by decide) (bd_lenC (n := 4) rfl (bd_slR bd_slN) rfl) (bd_locC (n := 4) rfl (bd_slR bd_slN) rfl (HR e v0 p1 _ (by omega) hc)) ?_
  refine rn_if_ne rfl rfl (fun hc => ?_) (fun hc => ?_)
  · exact u_288_36 E hE (e + 1) hd R HR k14 K14 v0 v1  p2.2 _ (if_t hb hc)
  · exact u_288_34 E hE (e + 1) hd R HR v0 v1  p2.2 _ (if_f hb hc)
def b_288_14 (R : Option Nat → Hp → Option (Int32 × Hp)) (k14 : Option Nat → Int32 → Hp → Option (Int32 × Hp)) (v0 : Option Nat) (v1 : Int32)  (h : Hp) : Option (Int32 × Hp) :=
  (grd (rC 11 v0 h)).bind fun _ =>
  (f_193 v0 (nI 18) h).bind fun p1 =>
  if p1.1 = 0 then b_288_51 R v0 v1  p1.2 else b_288_23 R k14 v0 v1  p1.2
theorem u_288_14 (E : Nat) (hE : 3 ≤ E) (d : Nat) (hd : E + 1 ≤ d) (R : Option Nat → Hp → Option (Int32 × Hp)) (HR : ∀ (d : Nat) (a0 : Option Nat) (h : Hp) (r : Int32 × Hp), E ≤ d → R a0 h = some r → Rn d 290 0 [some (va_rf a0), none, none, none] [] h (some (.int r.1), r.2)) (k14 : Option Nat → Int32 → Hp → Option (Int32 × Hp)) (K14 : ∀ (v0 : Option Nat) (v1 : Int32) (h : Hp) (r : Int32 × Hp), k14 v0 v1 h = some r → Rn d 288 14 [some (va_rf v0), some (.int v1)] [] h (some (.int r.1), r.2)) (v0 : Option Nat) (v1 : Int32)  (h : Hp) (r : Int32 × Hp) (hb : b_288_14 R k14 v0 v1  h = some r) : Rn d 288 14 [some (va_rf v0), some (.int v1)] [] h (some (.int r.1), r.2) := by
  unfold b_288_14 at hb
  obtain ⟨e, rfl⟩ : ∃ e, d = e + 1 := ⟨d - 1, by omega⟩
  refine rn_aload_n (i := 0) rfl rfl ?_
  refine rn_bipush (x := (nI 18)) rfl (by decide) ?_
  obtain ⟨hrc, hb⟩ := grd_spec hb
  obtain ⟨p1, hc, hb⟩ := Option.bind_eq_some_iff.mp hb
  refine Rn.call1 (d := e) (As := [va_rf v0, .int (nI 18)]) (rest := []) rfl rfl rfl (by decide) rfl rfl rfl (bd_rcV hrc rfl) (by decide) (bd_lenC (n := 2) rfl (bd_slR (bd_slI bd_slN)) rfl) (bd_locC (n := 2) rfl (bd_slR (bd_slI bd_slN)) rfl (t_193 e (by omega) v0 (nI 18) h _ hc)) ?_
  refine rn_if_eq rfl rfl (fun hc => ?_) (fun hc => ?_)
  · exact u_288_51 E hE (e + 1) hd R HR v0 v1  p1.2 _ (if_t hb hc)
  · exact u_288_23 E hE (e + 1) hd R HR k14 K14 v0 v1  p1.2 _ (if_f hb hc)
def l_288_14 (R : Option Nat → Hp → Option (Int32 × Hp)) : Nat → Option Nat → Int32 → Hp → Option (Int32 × Hp)
  | 0, _, _, _ => none
  | n + 1, v0, v1, h => b_288_14 R (l_288_14 R n) v0 v1 h
theorem w_288_14 (E : Nat) (hE : 3 ≤ E) (d : Nat) (hd : E + 1 ≤ d) (R : Option Nat → Hp → Option (Int32 × Hp)) (HR : ∀ (d : Nat) (a0 : Option Nat) (h : Hp) (r : Int32 × Hp), E ≤ d → R a0 h = some r → Rn d 290 0 [some (va_rf a0), none, none, none] [] h (some (.int r.1), r.2)) : ∀ (n : Nat) (v0 : Option Nat) (v1 : Int32) (h : Hp) (r : Int32 × Hp), l_288_14 R n v0 v1 h = some r → Rn d 288 14 [some (va_rf v0), some (.int v1)] [] h (some (.int r.1), r.2) := by
  intro n
  induction n with
  | zero => intro v0 v1 h r hb; cases hb
  | succ n ih => intro v0 v1 h r hb; exact u_288_14 E hE d hd R HR (l_288_14 R n) ih v0 v1 h r hb
def b_288_9 (R : Option Nat → Hp → Option (Int32 × Hp)) (v0 : Option Nat)  (h : Hp) : Option (Int32 × Hp) :=
  (gI 11 63 v0 h).bind fun x1 =>
  l_288_14 R FU v0 x1 h
theorem u_288_9 (E : Nat) (hE : 3 ≤ E) (d : Nat) (hd : E + 1 ≤ d) (R : Option Nat → Hp → Option (Int32 × Hp)) (HR : ∀ (d : Nat) (a0 : Option Nat) (h : Hp) (r : Int32 × Hp), E ≤ d → R a0 h = some r → Rn d 290 0 [some (va_rf a0), none, none, none] [] h (some (.int r.1), r.2)) (v0 : Option Nat)  (h : Hp) (r : Int32 × Hp) (hb : b_288_9 R v0  h = some r) : Rn d 288 9 [some (va_rf v0), none] [] h (some (.int r.1), r.2) := by
  unfold b_288_9 at hb
  refine rn_aload_n (i := 0) rfl rfl ?_
  refine rn_gI (c := 11) (k := 63) rfl (by decide) hb (fun x1 hb => ?_)
  refine rn_istore_n (i := 1) (L1 := [some (va_rf v0), some (.int x1)]) rfl (Nat.le_of_ble_eq_true rfl) (Or.inr (bd_wideR rfl)) rfl ?_
  exact w_288_14 E hE d hd R HR FU v0 x1 h _ hb
def b_288_7 (R : Option Nat → Hp → Option (Int32 × Hp))   (h : Hp) : Option (Int32 × Hp) :=
  (grd (decide ((nI 0) = 0 ∨ (nI 0) = 1))).bind fun _ => some ((nI 0), h)
theorem u_288_7 (E : Nat) (hE : 3 ≤ E) (d : Nat) (hd : E + 1 ≤ d) (R : Option Nat → Hp → Option (Int32 × Hp)) (HR : ∀ (d : Nat) (a0 : Option Nat) (h : Hp) (r : Int32 × Hp), E ≤ d → R a0 h = some r → Rn d 290 0 [some (va_rf a0), none, none, none] [] h (some (.int r.1), r.2)) (v0 : Option Nat)  (h : Hp) (r : Int32 × Hp) (hb : b_288_7 R   h = some r) : Rn d 288 7 [some (va_rf v0), none] [] h (some (.int r.1), r.2) := by
  unfold b_288_7 at hb
  refine rn_iconst (x := (nI 0)) rfl (by decide) ?_
  obtain ⟨hz, hb⟩ := grd_spec hb
  obtain rfl := Option.some.inj hb
  exact rn_zret rfl rfl (of_decide_eq_true hz)
def b_288_0 (R : Option Nat → Hp → Option (Int32 × Hp)) (v0 : Option Nat)  (h : Hp) : Option (Int32 × Hp) :=
  (grd (rC 11 v0 h)).bind fun _ =>
  (R v0 h).bind fun p1 =>
  if ¬ p1.1 = 0 then b_288_9 R v0  p1.2 else b_288_7 R   p1.2
theorem u_288_0 (E : Nat) (hE : 3 ≤ E) (d : Nat) (hd : E + 1 ≤ d) (R : Option Nat → Hp → Option (Int32 × Hp)) (HR : ∀ (d : Nat) (a0 : Option Nat) (h : Hp) (r : Int32 × Hp), E ≤ d → R a0 h = some r → Rn d 290 0 [some (va_rf a0), none, none, none] [] h (some (.int r.1), r.2)) (v0 : Option Nat)  (h : Hp) (r : Int32 × Hp) (hb : b_288_0 R v0  h = some r) : Rn d 288 0 [some (va_rf v0), none] [] h (some (.int r.1), r.2) := by
  unfold b_288_0 at hb
  obtain ⟨e, rfl⟩ : ∃ e, d = e + 1 := ⟨d - 1, by omega⟩
  refine rn_aload_n (i := 0) rfl rfl ?_
  obtain ⟨hrc, hb⟩ := grd_spec hb
  obtain ⟨p1, hc, hb⟩ := Option.bind_eq_some_iff.mp hb
  refine Rn.call1 (d := e) (As := [va_rf v0]) (rest := []) rfl rfl rfl (by decide) rfl rfl rfl (bd_rcV hrc rfl) (by decide) (bd_lenC (n := 4) rfl (bd_slR bd_slN) rfl) (bd_locC (n := 4) rfl (bd_slR bd_slN) rfl (HR e v0 h _ (by omega) hc)) ?_
  refine rn_if_ne rfl rfl (fun hc => ?_) (fun hc => ?_)
  · exact u_288_9 E hE (e + 1) hd R HR v0  p1.2 _ (if_t hb hc)
  · exact u_288_7 E hE (e + 1) hd R HR v0  p1.2 _ (if_f hb hc)
/-- BitingDoorsModel.readAnd()Z -/
def F_288 (R : Option Nat → Hp → Option (Int32 × Hp)) (v0 : Option Nat) (h : Hp) : Option (Int32 × Hp) := b_288_0 R v0 h
theorem t_288 (E : Nat) (hE : 3 ≤ E) (d : Nat) (hd : E + 1 ≤ d) (R : Option Nat → Hp → Option (Int32 × Hp)) (HR : ∀ (d : Nat) (a0 : Option Nat) (h : Hp) (r : Int32 × Hp), E ≤ d → R a0 h = some r → Rn d 290 0 [some (va_rf a0), none, none, none] [] h (some (.int r.1), r.2)) (v0 : Option Nat) (h : Hp) (r : Int32 × Hp) (hb : F_288 R v0 h = some r) : Rn d 288 0 [some (va_rf v0), none] [] h (some (.int r.1), r.2) := by
  unfold F_288 at hb
  exact u_288_0 E hE d hd R HR v0 h r hb
def b_287_51 (R : Option Nat → Hp → Option (Int32 × Hp)) (v0 : Option Nat) (v1 : Int32)  (h : Hp) : Option (Int32 × Hp) :=
  (pI 11 63 v0 v1 h).bind fun h1 =>
  (grd (decide ((nI 1) = 0 ∨ (nI 1) = 1))).bind fun _ => some ((nI 1), h1)
theorem u_287_51 (E : Nat) (hE : 3 ≤ E) (d : Nat) (hd : E + 2 ≤ d) (R : Option Nat → Hp → Option (Int32 × Hp)) (HR : ∀ (d : Nat) (a0 : Option Nat) (h : Hp) (r : Int32 × Hp), E ≤ d → R a0 h = some r → Rn d 290 0 [some (va_rf a0), none, none, none] [] h (some (.int r.1), r.2)) (v0 : Option Nat) (v1 : Int32)  (h : Hp) (r : Int32 × Hp) (hb : b_287_51 R v0 v1  h = some r) : Rn d 287 51 [some (va_rf v0), some (.int v1)] [] h (some (.int r.1), r.2) := by
  unfold b_287_51 at hb
  refine rn_aload_n (i := 0) rfl rfl ?_
  refine rn_iload_n (i := 1) rfl rfl ?_
  refine rn_pI (c := 11) (k := 63) rfl (by decide) hb (fun h1 hb => ?_)
  refine rn_iconst (x := (nI 1)) rfl (by decide) ?_
  obtain ⟨hz, hb⟩ := grd_spec hb
  obtain rfl := Option.some.inj hb
  exact rn_zret rfl rfl (of_decide_eq_true hz)
def b_287_36 (R : Option Nat → Hp → Option (Int32 × Hp)) (k14 : Option Nat → Int32 → Hp → Option (Int32 × Hp)) (v0 : Option Nat) (v1 : Int32)  (h : Hp) : Option (Int32 × Hp) :=
  (gI 11 63 v0 h).bind fun x1 =>
  (grd (rC 11 v0 h)).bind fun _ =>
  (f_286 v0 (nI 3) v1 x1 (nI 0) h).bind fun p2 =>
  bnd (p2.1) fun x3 =>
  k14 v0 x3 p2.2
theorem u_287_36 (E : Nat) (hE : 3 ≤ E) (d : Nat) (hd : E + 2 ≤ d) (R : Option Nat → Hp → Option (Int32 × Hp)) (HR : ∀ (d : Nat) (a0 : Option Nat) (h : Hp) (r : Int32 × Hp), E ≤ d → R a0 h = some r → Rn d 290 0 [some (va_rf a0), none, none, none] [] h (some (.int r.1), r.2)) (k14 : Option Nat → Int32 → Hp → Option (Int32 × Hp)) (K14 : ∀ (v0 : Option Nat) (v1 : Int32) (h : Hp) (r : Int32 × Hp), k14 v0 v1 h = some r → Rn d 287 14 [some (va_rf v0), some (.int v1)] [] h (some (.int r.1), r.2)) (v0 : Option Nat) (v1 : Int32)  (h : Hp) (r : Int32 × Hp) (hb : b_287_36 R k14 v0 v1  h = some r) : Rn d 287 36 [some (va_rf v0), some (.int v1)] [] h (some (.int r.1), r.2) := by
  unfold b_287_36 at hb
  obtain ⟨e, rfl⟩ : ∃ e, d = e + 1 := ⟨d - 1, by omega⟩
  refine rn_aload_n (i := 0) rfl rfl ?_
  refine rn_iconst (x := (nI 3)) rfl (by decide) ?_
  refine rn_iload_n (i := 1) rfl rfl ?_
  refine rn_aload_n (i := 0) rfl rfl ?_
  refine rn_gI (c := 11) (k := 63) rfl (by decide) hb (fun x1 hb => ?_)
  refine rn_iconst (x := (nI 0)) rfl (by decide) ?_
  obtain ⟨hrc, hb⟩ := grd_spec hb
  obtain ⟨p2, hc, hb⟩ := Option.bind_eq_some_iff.mp hb
  refine Rn.call1 (d := e) (As := [va_rf v0, .int (nI 3), .int v1, .int x1, .int (nI 0)]) (rest := []) rfl rfl rfl (by decide) rfl rfl rfl (bd_rcV hrc rfl) (by decide) (bd_lenC (n := 6) rfl (bd_slR (bd_slI (bd_slI (bd_slI (bd_slI bd_slN))))) rfl) (bd_locC (n := 6) rfl (bd_slR (bd_slI (bd_slI (bd_slI (bd_slI bd_slN))))) rfl (t_286 e (by omega) v0 (nI 3) v1 x1 (nI 0) h _ hc)) ?_
  obtain ⟨x3, ex3, hb⟩ := bnd_spec hb
  refine rn_istore_n (i := 1) (L1 := [some (va_rf v0), some (.int x3)]) rfl (Nat.le_of_ble_eq_true rfl) (Or.inr (bd_wideR rfl)) (by rw [ex3]; rfl) ?_
  refine rn_goto rfl rfl ?_
  exact K14 v0 x3 p2.2 _ hb
def b_287_34 (R : Option Nat → Hp → Option (Int32 × Hp))   (h : Hp) : Option (Int32 × Hp) :=
  (grd (decide ((nI 0) = 0 ∨ (nI 0) = 1))).bind fun _ => some ((nI 0), h)
theorem u_287_34 (E : Nat) (hE : 3 ≤ E) (d : Nat) (hd : E + 2 ≤ d) (R : Option Nat → Hp → Option (Int32 × Hp)) (HR : ∀ (d : Nat) (a0 : Option Nat) (h : Hp) (r : Int32 × Hp), E ≤ d → R a0 h = some r → Rn d 290 0 [some (va_rf a0), none, none, none] [] h (some (.int r.1), r.2)) (v0 : Option Nat) (v1 : Int32)  (h : Hp) (r : Int32 × Hp) (hb : b_287_34 R   h = some r) : Rn d 287 34 [some (va_rf v0), some (.int v1)] [] h (some (.int r.1), r.2) := by
  unfold b_287_34 at hb
  refine rn_iconst (x := (nI 0)) rfl (by decide) ?_
  obtain ⟨hz, hb⟩ := grd_spec hb
  obtain rfl := Option.some.inj hb
  exact rn_zret rfl rfl (of_decide_eq_true hz)
def b_287_23 (R : Option Nat → Hp → Option (Int32 × Hp)) (k14 : Option Nat → Int32 → Hp → Option (Int32 × Hp)) (v0 : Option Nat) (v1 : Int32)  (h : Hp) : Option (Int32 × Hp) :=
  (grd (rC 11 v0 h)).bind fun _ =>
  (f_189 v0 h).bind fun p1 =>
  (grd (rC 11 v0 p1)).bind fun _ =>
  (F_288 R v0 p1).bind fun p2 =>
  if ¬ p2.1 = 0 then b_287_36 R k14 v0 v1  p2.2 else b_287_34 R   p2.2
theorem u_287_23 (E : Nat) (hE : 3 ≤ E) (d : Nat) (hd : E + 2 ≤ d) (R : Option Nat → Hp → Option (Int32 × Hp)) (HR : ∀ (d : Nat) (a0 : Option Nat) (h : Hp) (r : Int32 × Hp), E ≤ d → R a0 h = some r → Rn d 290 0 [some (va_rf a0), none, none, none] [] h (some (.int r.1), r.2)) (k14 : Option Nat → Int32 → Hp → Option (Int32 × Hp)) (K14 : ∀ (v0 : Option Nat) (v1 : Int32) (h : Hp) (r : Int32 × Hp), k14 v0 v1 h = some r → Rn d 287 14 [some (va_rf v0), some (.int v1)] [] h (some (.int r.1), r.2)) (v0 : Option Nat) (v1 : Int32)  (h : Hp) (r : Int32 × Hp) (hb : b_287_23 R k14 v0 v1  h = some r) : Rn d 287 23 [some (va_rf v0), some (.int v1)] [] h (some (.int r.1), r.2) := by
  unfold b_287_23 at hb
  obtain ⟨e, rfl⟩ : ∃ e, d = e + 1 := ⟨d - 1, by omega⟩
  refine rn_aload_n (i := 0) rfl rfl ?_
  obtain ⟨hrc, hb⟩ := grd_spec hb
  obtain ⟨p1, hc, hb⟩ := Option.bind_eq_some_iff.mp hb
  refine Rn.call0 (d := e) (As := [va_rf v0]) (rest := []) rfl rfl rfl (by decide) rfl rfl rfl (bd_rcV hrc rfl) (by decide) (bd_lenC (n := 5) rfl (bd_slR bd_slN) rfl) (bd_locC (n := 5) rfl (bd_slR bd_slN) rfl (t_189 e (by omega) v0 h _ hc)) ?_
  refine rn_aload_n (i := 0) rfl rfl ?_
  obtain ⟨hrc, hb⟩ := grd_spec hb
  obtain ⟨p2, hc, hb⟩ := Option.bind_eq_some_iff.mp hb
  refine Rn.call1 (d := e) (As := [va_rf v0]) (rest := []) rfl rfl rfl (by decide) rfl rfl rfl (bd_rcV hrc rfl) (by decide) (bd_lenC (n := 2) rfl (bd_slR bd_slN) rfl) (bd_locC (n := 2) rfl (bd_slR bd_slN) rfl (t_288 E hE e (by omega) R HR v0 p1 _ hc)) ?_
  refine rn_if_ne rfl rfl (fun hc => ?_) (fun hc => ?_)
  · exact u_287_36 E hE (e + 1) hd R HR k14 K14 v0 v1  p2.2 _ (if_t hb hc)
  · exact u_287_34 E hE (e + 1) hd R HR v0 v1  p2.2 _ (if_f hb hc)
def b_287_14 (R : Option Nat → Hp → Option (Int32 × Hp)) (k14 : Option Nat → Int32 → Hp → Option (Int32 × Hp)) (v0 : Option Nat) (v1 : Int32)  (h : Hp) : Option (Int32 × Hp) :=
  (grd (rC 11 v0 h)).bind fun _ =>
  (f_193 v0 (nI 17) h).bind fun p1 =>
  if p1.1 = 0 then b_287_51 R v0 v1  p1.2 else b_287_23 R k14 v0 v1  p1.2
theorem u_287_14 (E : Nat) (hE : 3 ≤ E) (d : Nat) (hd : E + 2 ≤ d) (R : Option Nat → Hp → Option (Int32 × Hp)) (HR : ∀ (d : Nat) (a0 : Option Nat) (h : Hp) (r : Int32 × Hp), E ≤ d → R a0 h = some r → Rn d 290 0 [some (va_rf a0), none, none, none] [] h (some (.int r.1), r.2)) (k14 : Option Nat → Int32 → Hp → Option (Int32 × Hp)) (K14 : ∀ (v0 : Option Nat) (v1 : Int32) (h : Hp) (r : Int32 × Hp), k14 v0 v1 h = some r → Rn d 287 14 [some (va_rf v0), some (.int v1)] [] h (some (.int r.1), r.2)) (v0 : Option Nat) (v1 : Int32)  (h : Hp) (r : Int32 × Hp) (hb : b_287_14 R k14 v0 v1  h = some r) : Rn d 287 14 [some (va_rf v0), some (.int v1)] [] h (some (.int r.1), r.2) := by
  unfold b_287_14 at hb
  obtain ⟨e, rfl⟩ : ∃ e, d = e + 1 := ⟨d - 1, by omega⟩
  refine rn_aload_n (i := 0) rfl rfl ?_
  refine rn_bipush (x := (nI 17)) rfl (by decide) ?_
  obtain ⟨hrc, hb⟩ := grd_spec hb
  obtain ⟨p1, hc, hb⟩ := Option.bind_eq_some_iff.mp hb
  refine Rn.call1 (d := e) (As := [va_rf v0, .int (nI 17)]) (rest := []) rfl rfl rfl (by decide) rfl rfl rfl (bd_rcV hrc rfl) (by decide) (bd_lenC (n := 2) rfl (bd_slR (bd_slI bd_slN)) rfl) (bd_locC (n := 2) rfl (bd_slR (bd_slI bd_slN)) rfl (t_193 e (by omega) v0 (nI 17) h _ hc)) ?_
  refine rn_if_eq rfl rfl (fun hc => ?_) (fun hc => ?_)
  · exact u_287_51 E hE (e + 1) hd R HR v0 v1  p1.2 _ (if_t hb hc)
  · exact u_287_23 E hE (e + 1) hd R HR k14 K14 v0 v1  p1.2 _ (if_f hb hc)
def l_287_14 (R : Option Nat → Hp → Option (Int32 × Hp)) : Nat → Option Nat → Int32 → Hp → Option (Int32 × Hp)
  | 0, _, _, _ => none
  | n + 1, v0, v1, h => b_287_14 R (l_287_14 R n) v0 v1 h
theorem w_287_14 (E : Nat) (hE : 3 ≤ E) (d : Nat) (hd : E + 2 ≤ d) (R : Option Nat → Hp → Option (Int32 × Hp)) (HR : ∀ (d : Nat) (a0 : Option Nat) (h : Hp) (r : Int32 × Hp), E ≤ d → R a0 h = some r → Rn d 290 0 [some (va_rf a0), none, none, none] [] h (some (.int r.1), r.2)) : ∀ (n : Nat) (v0 : Option Nat) (v1 : Int32) (h : Hp) (r : Int32 × Hp), l_287_14 R n v0 v1 h = some r → Rn d 287 14 [some (va_rf v0), some (.int v1)] [] h (some (.int r.1), r.2) := by
  intro n
  induction n with
  | zero => intro v0 v1 h r hb; cases hb
  | succ n ih => intro v0 v1 h r hb; exact u_287_14 E hE d hd R HR (l_287_14 R n) ih v0 v1 h r hb
def b_287_9 (R : Option Nat → Hp → Option (Int32 × Hp)) (v0 : Option Nat)  (h : Hp) : Option (Int32 × Hp) :=
  (gI 11 63 v0 h).bind fun x1 =>
  l_287_14 R FU v0 x1 h
theorem u_287_9 (E : Nat) (hE : 3 ≤ E) (d : Nat) (hd : E + 2 ≤ d) (R : Option Nat → Hp → Option (Int32 × Hp)) (HR : ∀ (d : Nat) (a0 : Option Nat) (h : Hp) (r : Int32 × Hp), E ≤ d → R a0 h = some r → Rn d 290 0 [some (va_rf a0), none, none, none] [] h (some (.int r.1), r.2)) (v0 : Option Nat)  (h : Hp) (r : Int32 × Hp) (hb : b_287_9 R v0  h = some r) : Rn d 287 9 [some (va_rf v0), none] [] h (some (.int r.1), r.2) := by
  unfold b_287_9 at hb
  refine rn_aload_n (i := 0) rfl rfl ?_
  refine rn_gI (c := 11) (k := 63) rfl (by decide) hb (fun x1 hb => ?_)
  refine rn_istore_n (i := 1) (L1 := [some (va_rf v0), some (.int x1)]) rfl (Nat.le_of_ble_eq_true rfl) (Or.inr (bd_wideR rfl)) rfl ?_
  exact w_287_14 E hE d hd R HR FU v0 x1 h _ hb
def b_287_7 (R : Option Nat → Hp → Option (Int32 × Hp))   (h : Hp) : Option (Int32 × Hp) :=
  (grd (decide ((nI 0) = 0 ∨ (nI 0) = 1))).bind fun _ => some ((nI 0), h)
theorem u_287_7 (E : Nat) (hE : 3 ≤ E) (d : Nat) (hd : E + 2 ≤ d) (R : Option Nat → Hp → Option (Int32 × Hp)) (HR : ∀ (d : Nat) (a0 : Option Nat) (h : Hp) (r : Int32 × Hp), E ≤ d → R a0 h = some r → Rn d 290 0 [some (va_rf a0), none, none, none] [] h (some (.int r.1), r.2)) (v0 : Option Nat)  (h : Hp) (r : Int32 × Hp) (hb : b_287_7 R   h = some r) : Rn d 287 7 [some (va_rf v0), none] [] h (some (.int r.1), r.2) := by
  unfold b_287_7 at hb
  refine rn_iconst (x := (nI 0)) rfl (by decide) ?_
  obtain ⟨hz, hb⟩ := grd_spec hb
  obtain rfl := Option.some.inj hb
  exact rn_zret rfl rfl (of_decide_eq_true hz)
def b_287_0 (R : Option Nat → Hp → Option (Int32 × Hp)) (v0 : Option Nat)  (h : Hp) : Option (Int32 × Hp) :=
  (grd (rC 11 v0 h)).bind fun _ =>
  (F_288 R v0 h).bind fun p1 =>
  if ¬ p1.1 = 0 then b_287_9 R v0  p1.2 else b_287_7 R   p1.2
theorem u_287_0 (E : Nat) (hE : 3 ≤ E) (d : Nat) (hd : E + 2 ≤ d) (R : Option Nat → Hp → Option (Int32 × Hp)) (HR : ∀ (d : Nat) (a0 : Option Nat) (h : Hp) (r : Int32 × Hp), E ≤ d → R a0 h = some r → Rn d 290 0 [some (va_rf a0), none, none, none] [] h (some (.int r.1), r.2)) (v0 : Option Nat)  (h : Hp) (r : Int32 × Hp) (hb : b_287_0 R v0  h = some r) : Rn d 287 0 [some (va_rf v0), none] [] h (some (.int r.1), r.2) := by
  unfold b_287_0 at hb
  obtain ⟨e, rfl⟩ : ∃ e, d = e + 1 := ⟨d - 1, by omega⟩
  refine rn_aload_n (i := 0) rfl rfl ?_
  obtain ⟨hrc, hb⟩ := grd_spec hb
  obtain ⟨p1, hc, hb⟩ := Option.bind_eq_some_iff.mp hb
  refine Rn.call1 (d := e) (As := [va_rf v0]) (rest := []) rfl rfl rfl (by decide) rfl rfl rfl (bd_rcV hrc rfl) (by decide) (bd_lenC (n := 2) rfl (bd_slR bd_slN) rfl) (bd_locC (n := 2) rfl (bd_slR bd_slN) rfl (t_288 E hE e (by omega) R HR v0 h _ hc)) ?_
  refine rn_if_ne rfl rfl (fun hc => ?_) (fun hc => ?_)
  · exact u_287_9 E hE (e + 1) hd R HR v0  p1.2 _ (if_t hb hc)
  · exact u_287_7 E hE (e + 1) hd R HR v0  p1.2 _ (if_f hb hc)
/-- BitingDoorsModel.readOr()Z -/
def F_287 (R : Option Nat → Hp → Option (Int32 × Hp)) (v0 : Option Nat) (h : Hp) : Option (Int32 × Hp) := b_287_0 R v0 h
theorem t_287 (E : Nat) (hE : 3 ≤ E) (d : Nat) (hd : E + 2 ≤ d) (R : Option Nat → Hp → Option (Int32 × Hp)) (HR : ∀ (d : Nat) (a0 : Option Nat) (h : Hp) (r : Int32 × Hp), E ≤ d → R a0 h = some r → Rn d 290 0 [some (va_rf a0), none, none, none] [] h (some (.int r.1), r.2)) (v0 : Option Nat) (h : Hp) (r : Int32 × Hp) (hb : F_287 R v0 h = some r) : Rn d 287 0 [some (va_rf v0), none] [] h (some (.int r.1), r.2) := by
  unfold F_287 at hb
  exact u_287_0 E hE d hd R HR v0 h r hb
def b_292_24 (R : Option Nat → Hp → Option (Int32 × Hp)) (v0 : Option Nat)  (h : Hp) : Option (Int32 × Hp) :=
  (grd (rC 11 v0 h)).bind fun _ =>
  (f_189 v0 h).bind fun p1 =>
  (grd (decide ((nI 1) = 0 ∨ (nI 1) = 1))).bind fun _ => some ((nI 1), p1)
theorem u_292_24 (E : Nat) (hE : 3 ≤ E) (d : Nat) (hd : E + 3 ≤ d) (R : Option Nat → Hp → Option (Int32 × Hp)) (HR : ∀ (d : Nat) (a0 : Option Nat) (h : Hp) (r : Int32 × Hp), E ≤ d → R a0 h = some r → Rn d 290 0 [some (va_rf a0), none, none, none] [] h (some (.int r.1), r.2)) (v0 : Option Nat)  (h : Hp) (r : Int32 × Hp) (hb : b_292_24 R v0  h = some r) : Rn d 292 24 [some (va_rf v0)] [] h (some (.int r.1), r.2) := by
  unfold b_292_24 at hb
  obtain ⟨e, rfl⟩ : ∃ e, d = e + 1 := ⟨d - 1, by omega⟩
  refine rn_aload_n (i := 0) rfl rfl ?_
  obtain ⟨hrc, hb⟩ := grd_spec hb
  obtain ⟨p1, hc, hb⟩ := Option.bind_eq_some_iff.mp hb
  refine Rn.call0 (d := e) (As := [va_rf v0]) (rest := []) rfl rfl rfl (by decide) rfl rfl rfl (bd_rcV hrc rfl) (by decide) (bd_lenC (n := 5) rfl (bd_slR bd_slN) rfl) (bd_locC (n := 5) rfl (bd_slR bd_slN) rfl (t_189 e (by omega) v0 h _ hc)) ?_
  refine rn_iconst (x := (nI 1)) rfl (by decide) ?_
  obtain ⟨hz, hb⟩ := grd_spec hb
  obtain rfl := Option.some.inj hb
  exact rn_zret rfl rfl (of_decide_eq_true hz)
def b_292_18 (R : Option Nat → Hp → Option (Int32 × Hp)) (v0 : Option Nat)  (h : Hp) : Option (Int32 × Hp) :=
  (grd (rC 11 v0 h)).bind fun _ =>
  (f_198 v0 (nI 1) h).bind fun p1 =>
  (grd (decide (p1.1 = 0 ∨ p1.1 = 1))).bind fun _ => some (p1.1, p1.2)
theorem u_292_18 (E : Nat) (hE : 3 ≤ E) (d : Nat) (hd : E + 3 ≤ d) (R : Option Nat → Hp → Option (Int32 × Hp)) (HR : ∀ (d : Nat) (a0 : Option Nat) (h : Hp) (r : Int32 × Hp), E ≤ d → R a0 h = some r → Rn d 290 0 [some (va_rf a0), none, none, none] [] h (some (.int r.1), r.2)) (v0 : Option Nat)  (h : Hp) (r : Int32 × Hp) (hb : b_292_18 R v0  h = some r) : Rn d 292 18 [some (va_rf v0)] [] h (some (.int r.1), r.2) := by
  unfold b_292_18 at hb
  obtain ⟨e, rfl⟩ : ∃ e, d = e + 1 := ⟨d - 1, by omega⟩
  refine rn_aload_n (i := 0) rfl rfl ?_
  refine rn_iconst (x := (nI 1)) rfl (by decide) ?_
  obtain ⟨hrc, hb⟩ := grd_spec hb
  obtain ⟨p1, hc, hb⟩ := Option.bind_eq_some_iff.mp hb
  refine Rn.call1 (d := e) (As := [va_rf v0, .int (nI 1)]) (rest := []) rfl rfl rfl (by decide) rfl rfl rfl (bd_rcV hrc rfl) (by decide) (bd_lenC (n := 2) rfl (bd_slR (bd_slI bd_slN)) rfl) (bd_locC (n := 2) rfl (bd_slR (bd_slI bd_slN)) rfl (t_198 e (by omega) v0 (nI 1) h _ hc)) ?_
  obtain ⟨hz, hb⟩ := grd_spec hb
  obtain rfl := Option.some.inj hb
  exact rn_zret rfl rfl (of_decide_eq_true hz)
def b_292_9 (R : Option Nat → Hp → Option (Int32 × Hp)) (v0 : Option Nat)  (h : Hp) : Option (Int32 × Hp) :=
  (grd (rC 11 v0 h)).bind fun _ =>
  (f_194 v0 (nI 41) h).bind fun p1 =>
  if ¬ p1.1 = 0 then b_292_24 R v0  p1.2 else b_292_18 R v0  p1.2
theorem u_292_9 (E : Nat) (hE : 3 ≤ E) (d : Nat) (hd : E + 3 ≤ d) (R : Option Nat → Hp → Option (Int32 × Hp)) (HR : ∀ (d : Nat) (a0 : Option Nat) (h : Hp) (r : Int32 × Hp), E ≤ d → R a0 h = some r → Rn d 290 0 [some (va_rf a0), none, none, none] [] h (some (.int r.1), r.2)) (v0 : Option Nat)  (h : Hp) (r : Int32 × Hp) (hb : b_292_9 R v0  h = some r) : Rn d 292 9 [some (va_rf v0)] [] h (some (.int r.1), r.2) := by
  unfold b_292_9 at hb
  obtain ⟨e, rfl⟩ : ∃ e, d = e + 1 := ⟨d - 1, by omega⟩
  refine rn_aload_n (i := 0) rfl rfl ?_
  refine rn_bipush (x := (nI 41)) rfl (by decide) ?_
  obtain ⟨hrc, hb⟩ := grd_spec hb
  obtain ⟨p1, hc, hb⟩ := Option.bind_eq_some_iff.mp hb
  refine Rn.call1 (d := e) (As := [va_rf v0, .int (nI 41)]) (rest := []) rfl rfl rfl (by decide) rfl rfl rfl (bd_rcV hrc rfl) (by decide) (bd_lenC (n := 2) rfl (bd_slR (bd_slI bd_slN)) rfl) (bd_locC (n := 2) rfl (bd_slR (bd_slI bd_slN)) rfl (t_194 e (by omega) v0 (nI 41) h _ hc)) ?_
  refine rn_if_ne rfl rfl (fun hc => ?_) (fun hc => ?_)
  · exact u_292_24 E hE (e + 1) hd R HR v0  p1.2 _ (if_t hb hc)
  · exact u_292_18 E hE (e + 1) hd R HR v0  p1.2 _ (if_f hb hc)
def b_292_7 (R : Option Nat → Hp → Option (Int32 × Hp))   (h : Hp) : Option (Int32 × Hp) :=
  (grd (decide ((nI 0) = 0 ∨ (nI 0) = 1))).bind fun _ => some ((nI 0), h)
theorem u_292_7 (E : Nat) (hE : 3 ≤ E) (d : Nat) (hd : E + 3 ≤ d) (R : Option Nat → Hp → Option (Int32 × Hp)) (HR : ∀ (d : Nat) (a0 : Option Nat) (h : Hp) (r : Int32 × Hp), E ≤ d → R a0 h = some r → Rn d 290 0 [some (va_rf a0), none, none, none] [] h (some (.int r.1), r.2)) (v0 : Option Nat)  (h : Hp) (r : Int32 × Hp) (hb : b_292_7 R   h = some r) : Rn d 292 7 [some (va_rf v0)] [] h (some (.int r.1), r.2) := by
  unfold b_292_7 at hb
  refine rn_iconst (x := (nI 0)) rfl (by decide) ?_
  obtain ⟨hz, hb⟩ := grd_spec hb
  obtain rfl := Option.some.inj hb
  exact rn_zret rfl rfl (of_decide_eq_true hz)
def b_292_0 (R : Option Nat → Hp → Option (Int32 × Hp)) (v0 : Option Nat)  (h : Hp) : Option (Int32 × Hp) :=
  (grd (rC 11 v0 h)).bind fun _ =>
  (F_287 R v0 h).bind fun p1 =>
  if ¬ p1.1 = 0 then b_292_9 R v0  p1.2 else b_292_7 R   p1.2
theorem u_292_0 (E : Nat) (hE : 3 ≤ E) (d : Nat) (hd : E + 3 ≤ d) (R : Option Nat → Hp → Option (Int32 × Hp)) (HR : ∀ (d : Nat) (a0 : Option Nat) (h : Hp) (r : Int32 × Hp), E ≤ d → R a0 h = some r → Rn d 290 0 [some (va_rf a0), none, none, none] [] h (some (.int r.1), r.2)) (v0 : Option Nat)  (h : Hp) (r : Int32 × Hp) (hb : b_292_0 R v0  h = some r) : Rn d 292 0 [some (va_rf v0)] [] h (some (.int r.1), r.2) := by
  unfold b_292_0 at hb
  obtain ⟨e, rfl⟩ : ∃ e, d = e + 1 := ⟨d - 1, by omega⟩
  refine rn_aload_n (i := 0) rfl rfl ?_
  obtain ⟨hrc, hb⟩ := grd_spec hb
  obtain ⟨p1, hc, hb⟩ := Option.bind_eq_some_iff.mp hb
  refine Rn.call1 (d := e) (As := [va_rf v0]) (rest := []) rfl rfl rfl (by decide) rfl rfl rfl (bd_rcV hrc rfl) (by decide) (bd_lenC (n := 2) rfl (bd_slR bd_slN) rfl) (bd_locC (n := 2) rfl (bd_slR bd_slN) rfl (t_287 E hE e (by omega) R HR v0 h _ hc)) ?_
  refine rn_if_ne rfl rfl (fun hc => ?_) (fun hc => ?_)
  · exact u_292_9 E hE (e + 1) hd R HR v0  p1.2 _ (if_t hb hc)
  · exact u_292_7 E hE (e + 1) hd R HR v0  p1.2 _ (if_f hb hc)
/-- BitingDoorsModel.readBracket()Z -/
def F_292 (R : Option Nat → Hp → Option (Int32 × Hp)) (v0 : Option Nat) (h : Hp) : Option (Int32 × Hp) := b_292_0 R v0 h
theorem t_292 (E : Nat) (hE : 3 ≤ E) (d : Nat) (hd : E + 3 ≤ d) (R : Option Nat → Hp → Option (Int32 × Hp)) (HR : ∀ (d : Nat) (a0 : Option Nat) (h : Hp) (r : Int32 × Hp), E ≤ d → R a0 h = some r → Rn d 290 0 [some (va_rf a0), none, none, none] [] h (some (.int r.1), r.2)) (v0 : Option Nat) (h : Hp) (r : Int32 × Hp) (hb : F_292 R v0 h = some r) : Rn d 292 0 [some (va_rf v0)] [] h (some (.int r.1), r.2) := by
  unfold F_292 at hb
  exact u_292_0 E hE d hd R HR v0 h r hb
def b_290_45 (R : Option Nat → Hp → Option (Int32 × Hp)) (v0 : Option Nat)  (h : Hp) : Option (Int32 × Hp) :=
  (grd (rC 11 v0 h)).bind fun _ =>
  (f_198 v0 (nI 4) h).bind fun p1 =>
  (grd (decide (p1.1 = 0 ∨ p1.1 = 1))).bind fun _ => some (p1.1, p1.2)
theorem u_290_45 (E : Nat) (hE : 3 ≤ E) (d : Nat) (hd : E + 4 ≤ d) (R : Option Nat → Hp → Option (Int32 × Hp)) (HR : ∀ (d : Nat) (a0 : Option Nat) (h : Hp) (r : Int32 × Hp), E ≤ d → R a0 h = some r → Rn d 290 0 [some (va_rf a0), none, none, none] [] h (some (.int r.1), r.2)) (v0 : Option Nat) (v1 : Int32) (v2 : Int32)  (h : Hp) (r : Int32 × Hp) (hb : b_290_45 R v0  h = some r) : Rn d 290 45 [some (va_rf v0), some (.int v1), some (.int v2), none] [] h (some (.int r.1), r.2) := by
  unfold b_290_45 at hb
  obtain ⟨e, rfl⟩ : ∃ e, d = e + 1 := ⟨d - 1, by omega⟩
  refine rn_aload_n (i := 0) rfl rfl ?_
  refine rn_iconst (x := (nI 4)) rfl (by decide) ?_
  obtain ⟨hrc, hb⟩ := grd_spec hb
  obtain ⟨p1, hc, hb⟩ := Option.bind_eq_some_iff.mp hb
  refine Rn.call1 (d := e) (As := [va_rf v0, .int (nI 4)]) (rest := []) rfl rfl rfl (by decide) rfl rfl rfl (bd_rcV hrc rfl) (by decide) (bd_lenC (n := 2) rfl (bd_slR (bd_slI bd_slN)) rfl) (bd_locC (n := 2) rfl (bd_slR (bd_slI bd_slN)) rfl (t_198 e (by omega) v0 (nI 4) h _ hc)) ?_
  obtain ⟨hz, hb⟩ := grd_spec hb
  obtain rfl := Option.some.inj hb
  exact rn_zret rfl rfl (of_decide_eq_true hz)
def b_290_176 (R : Option Nat → Hp → Option (Int32 × Hp)) (v0 : Option Nat) (v3 : Int32)  (h : Hp) : Option (Int32 × Hp) :=
  (gI 11 62 v0 h).bind fun x1 =>
  (pI 11 62 v0 (x1 - (nI 1)) h).bind fun h2 =>
  (grd (decide (v3 = 0 ∨ v3 = 1))).bind fun _ => some (v3, h2)
theorem u_290_176 (E : Nat) (hE : 3 ≤ E) (d : Nat) (hd : E + 4 ≤ d) (R : Option Nat → Hp → Option (Int32 × Hp)) (HR : ∀ (d : Nat) (a0 : Option Nat) (h : Hp) (r : Int32 × Hp), E ≤ d → R a0 h = some r → Rn d 290 0 [some (va_rf a0), none, none, none] [] h (some (.int r.1), r.2)) (v0 : Option Nat) (v1 : Int32) (v2 : Int32) (v3 : Int32)  (h : Hp) (r : Int32 × Hp) (hb : b_290_176 R v0 v3  h = some r) : Rn d 290 176 [some (va_rf v0), some (.int v1), some (.int v2), some (.int v3)] [] h (some (.int r.1), r.2) := by
  unfold b_290_176 at hb
  refine rn_aload_n (i := 0) rfl rfl ?_
  refine rn_dup rfl (bd_cat_rf _) ?_
  refine rn_gI (c := 11) (k := 62) rfl (by decide) hb (fun x1 hb => ?_)
  refine rn_iconst (x := (nI 1)) rfl (by decide) ?_
  refine rn_isub rfl ?_
  refine rn_pI (c := 11) (k := 62) rfl (by decide) hb (fun h2 hb => ?_)
  refine rn_iload_n (i := 3) rfl rfl ?_
  obtain ⟨hz, hb⟩ := grd_spec hb
  obtain rfl := Option.some.inj hb
  exact rn_zret rfl rfl (of_decide_eq_true hz)
def b_290_145 (R : Option Nat → Hp → Option (Int32 × Hp)) (v0 : Option Nat) (v3 : Int32) (s0 : Option Nat) (s1 : Option Nat) (s2 : Int32) (h : Hp) : Option (Int32 × Hp) :=
  (grd (rC 11 s1 h)).bind fun _ =>
  (f_286 s1 s2 (nI 0) (nI 0) (nI 0) h).bind fun p1 =>
  (pI 11 63 s0 p1.1 p1.2).bind fun h2 =>
  b_290_176 R v0 v3  h2
theorem u_290_145 (E : Nat) (hE : 3 ≤ E) (d : Nat) (hd : E + 4 ≤ d) (R : Option Nat → Hp → Option (Int32 × Hp)) (HR : ∀ (d : Nat) (a0 : Option Nat) (h : Hp) (r : Int32 × Hp), E ≤ d → R a0 h = some r → Rn d 290 0 [some (va_rf a0), none, none, none] [] h (some (.int r.1), r.2)) (v0 : Option Nat) (v1 : Int32) (v2 : Int32) (v3 : Int32) (s0 : Option Nat) (s1 : Option Nat) (s2 : Int32) (h : Hp) (r : Int32 × Hp) (hb : b_290_145 R v0 v3 s0 s1 s2 h = some r) : Rn d 290 145 [some (va_rf v0), some (.int v1), some (.int v2), some (.int v3)] [.int s2, va_rf s1, va_rf s0] h (some (.int r.1), r.2) := by
  unfold b_290_145 at hb
  obtain ⟨e, rfl⟩ : ∃ e, d = e + 1 := ⟨d - 1, by omega⟩
  refine rn_iconst (x := (nI 0)) rfl (by decide) ?_
  refine rn_iconst (x := (nI 0)) rfl (by decide) ?_
  refine rn_iconst (x := (nI 0)) rfl (by decide) ?_
  obtain ⟨hrc, hb⟩ := grd_spec hb
  obtain ⟨p1, hc, hb⟩ := Option.bind_eq_some_iff.mp hb
  refine Rn.call1 (d := e) (As := [va_rf s1, .int s2, .int (nI 0), .int (nI 0), .int (nI 0)]) (rest := [va_rf s0]) rfl rfl rfl (by decide) rfl rfl rfl (bd_rcV hrc rfl) (by rw [bd_cR (bd_cN)]; decide) (bd_lenC (n := 6) rfl (bd_slR (bd_slI (bd_slI (bd_slI (bd_slI bd_slN))))) rfl) (bd_locC (n := 6) rfl (bd_slR (bd_slI (bd_slI (bd_slI (bd_slI bd_slN))))) rfl (t_286 e (by omega) s1 s2 (nI 0) (nI 0) (nI 0) h _ hc)) ?_
  refine rn_pI (c := 11) (k := 63) rfl (by decide) hb (fun h2 hb => ?_)
  refine rn_goto rfl rfl ?_
  exact u_290_176 E hE (e + 1) hd R HR v0 v1 v2 v3  h2 _ hb
def b_290_143 (R : Option Nat → Hp → Option (Int32 × Hp)) (v0 : Option Nat) (v3 : Int32) (s0 : Option Nat) (s1 : Option Nat) (h : Hp) : Option (Int32 × Hp) :=
  b_290_145 R v0 v3 s0 s1 (nI 6) h
theorem u_290_143 (E : Nat) (hE : 3 ≤ E) (d : Nat) (hd : E + 4 ≤ d) (R : Option Nat → Hp → Option (Int32 × Hp)) (HR : ∀ (d : Nat) (a0 : Option Nat) (h : Hp) (r : Int32 × Hp), E ≤ d → R a0 h = some r → Rn d 290 0 [some (va_rf a0), none, none, none] [] h (some (.int r.1), r.2)) (v0 : Option Nat) (v1 : Int32) (v2 : Int32) (v3 : Int32) (s0 : Option Nat) (s1 : Option Nat) (h : Hp) (r : Int32 × Hp) (hb : b_290_143 R v0 v3 s0 s1 h = some r) : Rn d 290 143 [some (va_rf v0), some (.int v1), some (.int v2), some (.int v3)] [va_rf s1, va_rf s0] h (some (.int r.1), r.2) := by
  unfold b_290_143 at hb
  refine rn_bipush (x := (nI 6)) rfl (by decide) ?_
  exact u_290_145 E hE d hd R HR v0 v1 v2 v3 s0 s1 (nI 6) h _ hb
def b_290_139 (R : Option Nat → Hp → Option (Int32 × Hp)) (v0 : Option Nat) (v3 : Int32) (s0 : Option Nat) (s1 : Option Nat) (h : Hp) : Option (Int32 × Hp) :=
  b_290_145 R v0 v3 s0 s1 (nI 5) h
theorem u_290_139 (E : Nat) (hE : 3 ≤ E) (d : Nat) (hd : E + 4 ≤ d) (R : Option Nat → Hp → Option (Int32 × Hp)) (HR : ∀ (d : Nat) (a0 : Option Nat) (h : Hp) (r : Int32 × Hp), E ≤ d → R a0 h = some r → Rn d 290 0 [some (va_rf a0), none, none, none] [] h (some (.int r.1), r.2)) (v0 : Option Nat) (v1 : Int32) (v2 : Int32) (v3 : Int32) (s0 : Option Nat) (s1 : Option Nat) (h : Hp) (r : Int32 × Hp) (hb : b_290_139 R v0 v3 s0 s1 h = some r) : Rn d 290 139 [some (va_rf v0), some (.int v1), some (.int v2), some (.int v3)] [va_rf s1, va_rf s0] h (some (.int r.1), r.2) := by
  unfold b_290_139 at hb
  refine rn_iconst (x := (nI 5)) rfl (by decide) ?_
  refine rn_goto rfl rfl ?_
  exact u_290_145 E hE d hd R HR v0 v1 v2 v3 s0 s1 (nI 5) h _ hb
def b_290_133 (R : Option Nat → Hp → Option (Int32 × Hp)) (v0 : Option Nat) (v2 : Int32) (v3 : Int32) (s0 : Option Nat) (s1 : Option Nat) (h : Hp) : Option (Int32 × Hp) :=
  if ¬ v2 = (nI 20) then b_290_143 R v0 v3 s0 s1 h else b_290_139 R v0 v3 s0 s1 h
theorem u_290_133 (E : Nat) (hE : 3 ≤ E) (d : Nat) (hd : E + 4 ≤ d) (R : Option Nat → Hp → Option (Int32 × Hp)) (HR : ∀ (d : Nat) (a0 : Option Nat) (h : Hp) (r : Int32 × Hp), E ≤ d → R a0 h = some r → Rn d 290 0 [some (va_rf a0), none, none, none] [] h (some (.int r.1), r.2)) (v0 : Option Nat) (v1 : Int32) (v2 : Int32) (v3 : Int32) (s0 : Option Nat) (s1 : Option Nat) (h : Hp) (r : Int32 × Hp) (hb : b_290_133 R v0 v2 v3 s0 s1 h = some r) : Rn d 290 133 [some (va_rf v0), some (.int v1), some (.int v2), some (.int v3)] [va_rf s1, va_rf s0] h (some (.int r.1), r.2) := by
  unfold b_290_133 at hb
  refine rn_iload_n (i := 2) rfl rfl ?_
  refine rn_bipush (x := (nI 20)) rfl (by decide) ?_
  refine rn_icmp_ne rfl rfl (fun hc => ?_) (fun hc => ?_)
  · exact u_290_143 E hE d hd R HR v0 v1 v2 v3 s0 s1 h _ (if_t hb hc)
  · exact u_290_139 E hE d hd R HR v0 v1 v2 v3 s0 s1 h _ (if_f hb hc)
def b_290_129 (R : Option Nat → Hp → Option (Int32 × Hp)) (v0 : Option Nat) (v3 : Int32) (s0 : Option Nat) (s1 : Option Nat) (h : Hp) : Option (Int32 × Hp) :=
  b_290_145 R v0 v3 s0 s1 (nI 4) h
theorem u_290_129 (E : Nat) (hE : 3 ≤ E) (d : Nat) (hd : E + 4 ≤ d) (R : Option Nat → Hp → Option (Int32 × Hp)) (HR : ∀ (d : Nat) (a0 : Option Nat) (h : Hp) (r : Int32 × Hp), E ≤ d → R a0 h = some r → Rn d 290 0 [some (va_rf a0), none, none, none] [] h (some (.int r.1), r.2)) (v0 : Option Nat) (v1 : Int32) (v2 : Int32) (v3 : Int32) (s0 : Option Nat) (s1 : Option Nat) (h : Hp) (r : Int32 × Hp) (hb : b_290_129 R v0 v3 s0 s1 h = some r) : Rn d 290 129 [some (va_rf v0), some (.int v1), some (.int v2), some (.int v3)] [va_rf s1, va_rf s0] h (some (.int r.1), r.2) := by
  unfold b_290_129 at hb
  refine rn_iconst (x := (nI 4)) rfl (by decide) ?_
  refine rn_goto rfl rfl ?_
  exact u_290_145 E hE d hd R HR v0 v1 v2 v3 s0 s1 (nI 4) h _ hb
def b_290_121 (R : Option Nat → Hp → Option (Int32 × Hp)) (v0 : Option Nat) (v2 : Int32) (v3 : Int32)  (h : Hp) : Option (Int32 × Hp) :=
  if ¬ v2 = (nI 10) then b_290_133 R v0 v2 v3 v0 v0 h else b_290_129 R v0 v3 v0 v0 h
theorem u_290_121 (E : Nat) (hE : 3 ≤ E) (d : Nat) (hd : E + 4 ≤ d) (R : Option Nat → Hp → Option (Int32 × Hp)) (HR : ∀ (d : Nat) (a0 : Option Nat) (h : Hp) (r : Int32 × Hp), E ≤ d → R a0 h = some r → Rn d 290 0 [some (va_rf a0), none, none, none] [] h (some (.int r.1), r.2)) (v0 : Option Nat) (v1 : Int32) (v2 : Int32) (v3 : Int32)  (h : Hp) (r : Int32 × Hp) (hb : b_290_121 R v0 v2 v3  h = some r) : Rn d 290 121 [some (va_rf v0), some (.int v1), some (.int v2), some (.int v3)] [] h (some (.int r.1), r.2) := by
  unfold b_290_121 at hb
  refine rn_aload_n (i := 0) rfl rfl ?_
  refine rn_aload_n (i := 0) rfl rfl ?_
  refine rn_iload_n (i := 2) rfl rfl ?_
  refine rn_bipush (x := (nI 10)) rfl (by decide) ?_
  refine rn_icmp_ne rfl rfl (fun hc => ?_) (fun hc => ?_)
  · exact u_290_133 E hE d hd R HR v0 v1 v2 v3 v0 v0 h _ (if_t hb hc)
  · exact u_290_129 E hE d hd R HR v0 v1 v2 v3 v0 v0 h _ (if_f hb hc)
def b_290_175 (R : Option Nat → Hp → Option (Int32 × Hp)) (v0 : Option Nat) (s0 : Int32) (h : Hp) : Option (Int32 × Hp) :=
  b_290_176 R v0 s0  h
theorem u_290_175 (E : Nat) (hE : 3 ≤ E) (d : Nat) (hd : E + 4 ≤ d) (R : Option Nat → Hp → Option (Int32 × Hp)) (HR : ∀ (d : Nat) (a0 : Option Nat) (h : Hp) (r : Int32 × Hp), E ≤ d → R a0 h = some r → Rn d 290 0 [some (va_rf a0), none, none, none] [] h (some (.int r.1), r.2)) (v0 : Option Nat) (v1 : Int32) (v2 : Int32) (v3 : Int32) (s0 : Int32) (h : Hp) (r : Int32 × Hp) (hb : b_290_175 R v0 s0 h = some r) : Rn d 290 175 [some (va_rf v0), some (.int v1), some (.int v2), some (.int v3)] [.int s0] h (some (.int r.1), r.2) := by
  unfold b_290_175 at hb
  refine rn_istore_n (i := 3) (L1 := [some (va_rf v0), some (.int v1), some (.int v2), some (.int s0)]) rfl (Nat.le_of_ble_eq_true rfl) (Or.inr rfl) rfl ?_
  exact u_290_176 E hE d hd R HR v0 v1 v2 s0  h _ hb
def b_290_170 (R : Option Nat → Hp → Option (Int32 × Hp)) (v0 : Option Nat) (v2 : Int32)  (h : Hp) : Option (Int32 × Hp) :=
  (grd (rC 11 v0 h)).bind fun _ =>
  (f_294 v0 v2 h).bind fun p1 =>
  b_290_175 R v0 p1.1 p1.2
theorem u_290_170 (E : Nat) (hE : 3 ≤ E) (d : Nat) (hd : E + 4 ≤ d) (R : Option Nat → Hp → Option (Int32 × Hp)) (HR : ∀ (d : Nat) (a0 : Option Nat) (h : Hp) (r : Int32 × Hp), E ≤ d → R a0 h = some r → Rn d 290 0 [some (va_rf a0), none, none, none] [] h (some (.int r.1), r.2)) (v0 : Option Nat) (v1 : Int32) (v2 : Int32) (v3 : Int32)  (h : Hp) (r : Int32 × Hp) (hb : b_290_170 R v0 v2  h = some r) : Rn d 290 170 [some (va_rf v0), some (.int v1), some (.int v2), some (.int v3)] [] h (some (.int r.1), r.2) := by
  unfold b_290_170 at hb
  obtain ⟨e, rfl⟩ : ∃ e, d = e + 1 := ⟨d - 1, by omega⟩
  refine rn_aload_n (i := 0) rfl rfl ?_
  refine rn_iload_n (i := 2) rfl rfl ?_
  obtain ⟨hrc, hb⟩ := grd_spec hb
  obtain ⟨p1, hc, hb⟩ := Option.bind_eq_some_iff.mp hb
  refine Rn.call1 (d := e) (As := [va_rf v0, .int v2]) (rest := []) rfl rfl rfl (by decide) rfl rfl rfl (bd_rcV hrc rfl) (by decide) (bd_lenC (n := 3) rfl (bd_slR (bd_slI bd_slN)) rfl) (bd_locC (n := 3) rfl (bd_slR (bd_slI bd_slN)) rfl (t_294 e (by omega) v0 v2 h _ hc)) ?_
  exact u_290_175 E hE (e + 1) hd R HR v0 v1 v2 v3 p1.1 p1.2 _ hb
def b_290_163 (R : Option Nat → Hp → Option (Int32 × Hp)) (v0 : Option Nat)  (h : Hp) : Option (Int32 × Hp) :=
  (grd (rC 11 v0 h)).bind fun _ =>
  (f_293 v0 h).bind fun p1 =>
  b_290_175 R v0 p1.1 p1.2
theorem u_290_163 (E : Nat) (hE : 3 ≤ E) (d : Nat) (hd : E + 4 ≤ d) (R : Option Nat → Hp → Option (Int32 × Hp)) (HR : ∀ (d : Nat) (a0 : Option Nat) (h : Hp) (r : Int32 × Hp), E ≤ d → R a0 h = some r → Rn d 290 0 [some (va_rf a0), none, none, none] [] h (some (.int r.1), r.2)) (v0 : Option Nat) (v1 : Int32) (v2 : Int32) (v3 : Int32)  (h : Hp) (r : Int32 × Hp) (hb : b_290_163 R v0  h = some r) : Rn d 290 163 [some (va_rf v0), some (.int v1), some (.int v2), some (.int v3)] [] h (some (.int r.1), r.2) := by
  unfold b_290_163 at hb
  obtain ⟨e, rfl⟩ : ∃ e, d = e + 1 := ⟨d - 1, by omega⟩
  refine rn_aload_n (i := 0) rfl rfl ?_
  obtain ⟨hrc, hb⟩ := grd_spec hb
  obtain ⟨p1, hc, hb⟩ := Option.bind_eq_some_iff.mp hb
  refine Rn.call1 (d := e) (As := [va_rf v0]) (rest := []) rfl rfl rfl (by decide) rfl rfl rfl (bd_rcV hrc rfl) (by decide) (bd_lenC (n := 2) rfl (bd_slR bd_slN) rfl) (bd_locC (n := 2) rfl (bd_slR bd_slN) rfl (t_293 e (by omega) v0 h _ hc)) ?_
  refine rn_goto rfl rfl ?_
  exact u_290_175 E hE (e + 1) hd R HR v0 v1 v2 v3 p1.1 p1.2 _ hb
def b_290_157 (R : Option Nat → Hp → Option (Int32 × Hp)) (v0 : Option Nat) (v2 : Int32)  (h : Hp) : Option (Int32 × Hp) :=
  if ¬ v2 = (nI 22) then b_290_170 R v0 v2  h else b_290_163 R v0  h
theorem u_290_157 (E : Nat) (hE : 3 ≤ E) (d : Nat) (hd : E + 4 ≤ d) (R : Option Nat → Hp → Option (Int32 × Hp)) (HR : ∀ (d : Nat) (a0 : Option Nat) (h : Hp) (r : Int32 × Hp), E ≤ d → R a0 h = some r → Rn d 290 0 [some (va_rf a0), none, none, none] [] h (some (.int r.1), r.2)) (v0 : Option Nat) (v1 : Int32) (v2 : Int32) (v3 : Int32)  (h : Hp) (r : Int32 × Hp) (hb : b_290_157 R v0 v2  h = some r) : Rn d 290 157 [some (va_rf v0), some (.int v1), some (.int v2), some (.int v3)] [] h (some (.int r.1), r.2) := by
  unfold b_290_157 at hb
  refine rn_iload_n (i := 2) rfl rfl ?_
  refine rn_bipush (x := (nI 22)) rfl (by decide) ?_
  refine rn_icmp_ne rfl rfl (fun hc => ?_) (fun hc => ?_)
  · exact u_290_170 E hE d hd R HR v0 v1 v2 v3  h _ (if_t hb hc)
  · exact u_290_163 E hE d hd R HR v0 v1 v2 v3  h _ (if_f hb hc)
def b_290_115 (R : Option Nat → Hp → Option (Int32 × Hp)) (v0 : Option Nat) (v2 : Int32) (v3 : Int32)  (h : Hp) : Option (Int32 × Hp) :=
  if ¬ v2 = (nI 21) then b_290_157 R v0 v2  h else b_290_121 R v0 v2 v3  h
theorem u_290_115 (E : Nat) (hE : 3 ≤ E) (d : Nat) (hd : E + 4 ≤ d) (R : Option Nat → Hp → Option (Int32 × Hp)) (HR : ∀ (d : Nat) (a0 : Option Nat) (h : Hp) (r : Int32 × Hp), E ≤ d → R a0 h = some r → Rn d 290 0 [some (va_rf a0), none, none, none] [] h (some (.int r.1), r.2)) (v0 : Option Nat) (v1 : Int32) (v2 : Int32) (v3 : Int32)  (h : Hp) (r : Int32 × Hp) (hb : b_290_115 R v0 v2 v3  h = some r) : Rn d 290 115 [some (va_rf v0), some (.int v1), some (.int v2), some (.int v3)] [] h (some (.int r.1), r.2) := by
  unfold b_290_115 at hb
  refine rn_iload_n (i := 2) rfl rfl ?_
  refine rn_bipush (x := (nI 21)) rfl (by decide) ?_
  refine rn_icmp_ne rfl rfl (fun hc => ?_) (fun hc => ?_)
  · exact u_290_157 E hE d hd R HR v0 v1 v2 v3  h _ (if_t hb hc)
  · exact u_290_121 E hE d hd R HR v0 v1 v2 v3  h _ (if_f hb hc)
def b_290_109 (R : Option Nat → Hp → Option (Int32 × Hp)) (v0 : Option Nat) (v2 : Int32) (v3 : Int32)  (h : Hp) : Option (Int32 × Hp) :=
  if v2 = (nI 20) then b_290_121 R v0 v2 v3  h else b_290_115 R v0 v2 v3  h
theorem u_290_109 (E : Nat) (hE : 3 ≤ E) (d : Nat) (hd : E + 4 ≤ d) (R : Option Nat → Hp → Option (Int32 × Hp)) (HR : ∀ (d : Nat) (a0 : Option Nat) (h : Hp) (r : Int32 × Hp), E ≤ d → R a0 h = some r → Rn d 290 0 [some (va_rf a0), none, none, none] [] h (some (.int r.1), r.2)) (v0 : Option Nat) (v1 : Int32) (v2 : Int32) (v3 : Int32)  (h : Hp) (r : Int32 × Hp) (hb : b_290_109 R v0 v2 v3  h = some r) : Rn d 290 109 [some (va_rf v0), some (.int v1), some (.int v2), some (.int v3)] [] h (some (.int r.1), r.2) := by
  unfold b_290_109 at hb
  refine rn_iload_n (i := 2) rfl rfl ?_
  refine rn_bipush (x := (nI 20)) rfl (by decide) ?_
  refine rn_icmp_eq rfl rfl (fun hc => ?_) (fun hc => ?_)
  · exact u_290_121 E hE d hd R HR v0 v1 v2 v3  h _ (if_t hb hc)
  · exact u_290_115 E hE d hd R HR v0 v1 v2 v3  h _ (if_f hb hc)
def b_290_103 (R : Option Nat → Hp → Option (Int32 × Hp)) (v0 : Option Nat) (v2 : Int32) (v3 : Int32)  (h : Hp) : Option (Int32 × Hp) :=
  if v2 = (nI 10) then b_290_121 R v0 v2 v3  h else b_290_109 R v0 v2 v3  h
theorem u_290_103 (E : Nat) (hE : 3 ≤ E) (d : Nat) (hd : E + 4 ≤ d) (R : Option Nat → Hp → Option (Int32 × Hp)) (HR : ∀ (d : Nat) (a0 : Option Nat) (h : Hp) (r : Int32 × Hp), E ≤ d → R a0 h = some r → Rn d 290 0 [some (va_rf a0), none, none, none] [] h (some (.int r.1), r.2)) (v0 : Option Nat) (v1 : Int32) (v2 : Int32) (v3 : Int32)  (h : Hp) (r : Int32 × Hp) (hb : b_290_103 R v0 v2 v3  h = some r) : Rn d 290 103 [some (va_rf v0), some (.int v1), some (.int v2), some (.int v3)] [] h (some (.int r.1), r.2) := by
  unfold b_290_103 at hb
  refine rn_iload_n (i := 2) rfl rfl ?_
  refine rn_bipush (x := (nI 10)) rfl (by decide) ?_
  refine rn_icmp_eq rfl rfl (fun hc => ?_) (fun hc => ?_)
  · exact u_290_121 E hE d hd R HR v0 v1 v2 v3  h _ (if_t hb hc)
  · exact u_290_109 E hE d hd R HR v0 v1 v2 v3  h _ (if_f hb hc)
def b_290_95 (R : Option Nat → Hp → Option (Int32 × Hp)) (v0 : Option Nat)  (h : Hp) : Option (Int32 × Hp) :=
  (grd (rC 11 v0 h)).bind fun _ =>
  (F_291 R v0 h).bind fun p1 =>
  bnd (p1.1) fun x2 =>
  b_290_176 R v0 x2  p1.2
theorem u_290_95 (E : Nat) (hE : 3 ≤ E) (d : Nat) (hd : E + 4 ≤ d) (R : Option Nat → Hp → Option (Int32 × Hp)) (HR : ∀ (d : Nat) (a0 : Option Nat) (h : Hp) (r : Int32 × Hp), E ≤ d → R a0 h = some r → Rn d 290 0 [some (va_rf a0), none, none, none] [] h (some (.int r.1), r.2)) (v0 : Option Nat) (v1 : Int32) (v2 : Int32) (v3 : Int32)  (h : Hp) (r : Int32 × Hp) (hb : b_290_95 R v0  h = some r) : Rn d 290 95 [some (va_rf v0), some (.int v1), some (.int v2), some (.int v3)] [] h (some (.int r.1), r.2) := by
  unfold b_290_95 at hb
  obtain ⟨e, rfl⟩ : ∃ e, d = e + 1 := ⟨d - 1, by omega⟩
  refine rn_aload_n (i := 0) rfl rfl ?_
  obtain ⟨hrc, hb⟩ := grd_spec hb
  obtain ⟨p1, hc, hb⟩ := Option.bind_eq_some_iff.mp hb
  refine Rn.call1 (d := e) (As := [va_rf v0]) (rest := []) rfl rfl rfl (by decide) rfl rfl rfl (bd_rcV hrc rfl) (by decide) (bd_lenC (n := 1) rfl (bd_slR bd_slN) rfl) (bd_locC (n := 1) rfl (bd_slR bd_slN) rfl (t_291 E hE e (by omega) R HR v0 h _ hc)) ?_
  obtain ⟨x2, ex2, hb⟩ := bnd_spec hb
  refine rn_istore_n (i := 3) (L1 := [some (va_rf v0), some (.int v1), some (.int v2), some (.int x2)]) rfl (Nat.le_of_ble_eq_true rfl) (Or.inr rfl) (by rw [ex2]; rfl) ?_
  refine rn_goto rfl rfl ?_
  exact u_290_176 E hE (e + 1) hd R HR v0 v1 v2 x2  p1.2 _ hb
def b_290_89 (R : Option Nat → Hp → Option (Int32 × Hp)) (v0 : Option Nat) (v2 : Int32) (v3 : Int32)  (h : Hp) : Option (Int32 × Hp) :=
  if ¬ v2 = (nI 19) then b_290_103 R v0 v2 v3  h else b_290_95 R v0  h
theorem u_290_89 (E : Nat) (hE : 3 ≤ E) (d : Nat) (hd : E + 4 ≤ d) (R : Option Nat → Hp → Option (Int32 × Hp)) (HR : ∀ (d : Nat) (a0 : Option Nat) (h : Hp) (r : Int32 × Hp), E ≤ d → R a0 h = some r → Rn d 290 0 [some (va_rf a0), none, none, none] [] h (some (.int r.1), r.2)) (v0 : Option Nat) (v1 : Int32) (v2 : Int32) (v3 : Int32)  (h : Hp) (r : Int32 × Hp) (hb : b_290_89 R v0 v2 v3  h = some r) : Rn d 290 89 [some (va_rf v0), some (.int v1), some (.int v2), some (.int v3)] [] h (some (.int r.1), r.2) := by
  unfold b_290_89 at hb
  refine rn_iload_n (i := 2) rfl rfl ?_
  refine rn_bipush (x := (nI 19)) rfl (by decide) ?_
  refine rn_icmp_ne rfl rfl (fun hc => ?_) (fun hc => ?_)
  · exact u_290_103 E hE d hd R HR v0 v1 v2 v3  h _ (if_t hb hc)
  · exact u_290_95 E hE d hd R HR v0 v1 v2 v3  h _ (if_f hb hc)
def b_290_81 (R : Option Nat → Hp → Option (Int32 × Hp)) (v0 : Option Nat)  (h : Hp) : Option (Int32 × Hp) :=
  (grd (rC 11 v0 h)).bind fun _ =>
  (F_292 R v0 h).bind fun p1 =>
  bnd (p1.1) fun x2 =>
  b_290_176 R v0 x2  p1.2
theorem u_290_81 (E : Nat) (hE : 3 ≤ E) (d : Nat) (hd : E + 4 ≤ d) (R : Option Nat → Hp → Option (Int32 × Hp)) (HR : ∀ (d : Nat) (a0 : Option Nat) (h : Hp) (r : Int32 × Hp), E ≤ d → R a0 h = some r → Rn d 290 0 [some (va_rf a0), none, none, none] [] h (some (.int r.1), r.2)) (v0 : Option Nat) (v1 : Int32) (v2 : Int32) (v3 : Int32)  (h : Hp) (r : Int32 × Hp) (hb : b_290_81 R v0  h = some r) : Rn d 290 81 [some (va_rf v0), some (.int v1), some (.int v2), some (.int v3)] [] h (some (.int r.1), r.2) := by
  unfold b_290_81 at hb
  obtain ⟨e, rfl⟩ : ∃ e, d = e + 1 := ⟨d - 1, by omega⟩
  refine rn_aload_n (i := 0) rfl rfl ?_
  obtain ⟨hrc, hb⟩ := grd_spec hb
  obtain ⟨p1, hc, hb⟩ := Option.bind_eq_some_iff.mp hb
  refine Rn.call1 (d := e) (As := [va_rf v0]) (rest := []) rfl rfl rfl (by decide) rfl rfl rfl (bd_rcV hrc rfl) (by decide) (bd_lenC (n := 1) rfl (bd_slR bd_slN) rfl) (bd_locC (n := 1) rfl (bd_slR bd_slN) rfl (t_292 E hE e (by omega) R HR v0 h _ hc)) ?_
  obtain ⟨x2, ex2, hb⟩ := bnd_spec hb
  refine rn_istore_n (i := 3) (L1 := [some (va_rf v0), some (.int v1), some (.int v2), some (.int x2)]) rfl (Nat.le_of_ble_eq_true rfl) (Or.inr rfl) (by rw [ex2]; rfl) ?_
  refine rn_goto rfl rfl ?_
  exact u_290_176 E hE (e + 1) hd R HR v0 v1 v2 x2  p1.2 _ hb
def b_290_51 (R : Option Nat → Hp → Option (Int32 × Hp)) (v0 : Option Nat) (v1 : Int32) (v2 : Int32)  (h : Hp) : Option (Int32 × Hp) :=
  (gI 11 61 v0 h).bind fun x1 =>
  (pI 11 61 v0 (x1 + (nI 1)) h).bind fun h2 =>
  (gI 11 62 v0 h2).bind fun x3 =>
  (pI 11 62 v0 (x3 + (nI 1)) h2).bind fun h4 =>
  (grd (rC 11 v0 h4)).bind fun _ =>
  (f_189 v0 h4).bind fun p5 =>
  bnd ((nI 1)) fun x6 =>
  if v1 = 0 then b_290_89 R v0 v2 x6  p5 else b_290_81 R v0  p5
theorem u_290_51 (E : Nat) (hE : 3 ≤ E) (d : Nat) (hd : E + 4 ≤ d) (R : Option Nat → Hp → Option (Int32 × Hp)) (HR : ∀ (d : Nat) (a0 : Option Nat) (h : Hp) (r : Int32 × Hp), E ≤ d → R a0 h = some r → Rn d 290 0 [some (va_rf a0), none, none, none] [] h (some (.int r.1), r.2)) (v0 : Option Nat) (v1 : Int32) (v2 : Int32)  (h : Hp) (r : Int32 × Hp) (hb : b_290_51 R v0 v1 v2  h = some r) : Rn d 290 51 [some (va_rf v0), some (.int v1), some (.int v2), none] [] h (some (.int r.1), r.2) := by
  unfold b_290_51 at hb
  obtain ⟨e, rfl⟩ : ∃ e, d = e + 1 := ⟨d - 1, by omega⟩
  refine rn_aload_n (i := 0) rfl rfl ?_
  refine rn_dup rfl (bd_cat_rf _) ?_
  refine rn_gI (c := 11) (k := 61) rfl (by decide) hb (fun x1 hb => ?_)
  refine rn_iconst (x := (nI 1)) rfl (by decide) ?_
  refine rn_iadd rfl ?_
  refine rn_pI (c := 11) (k := 61) rfl (by decide) hb (fun h2 hb => ?_)
  refine rn_aload_n (i := 0) rfl rfl ?_
  refine rn_dup rfl (bd_cat_rf _) ?_
  refine rn_gI (c := 11) (k := 62) rfl (by decide) hb (fun x3 hb => ?_)
  refine rn_iconst (x := (nI 1)) rfl (by decide) ?_
  refine rn_iadd rfl ?_
  refine rn_pI (c := 11) (k := 62) rfl (by decide) hb (fun h4 hb => ?_)
  refine rn_aload_n (i := 0) rfl rfl ?_
  obtain ⟨hrc, hb⟩ := grd_spec hb
  obtain ⟨p5, hc, hb⟩ := Option.bind_eq_some_iff.mp hb
  refine Rn.call0 (d := e) (As := [va_rf v0]) (rest := []) rfl rfl rfl (by decide) rfl rfl rfl (bd_rcV hrc rfl) (by decide) (bd_lenC (n := 5) rfl (bd_slR bd_slN) rfl) (bd_locC (n := 5) rfl (bd_slR bd_slN) rfl (t_189 e (by omega) v0 h4 _ hc)) ?_
  refine rn_iconst (x := (nI 1)) rfl (by decide) ?_
  obtain ⟨x6, ex6, hb⟩ := bnd_spec hb
  refine rn_istore_n (i := 3) (L1 := [some (va_rf v0), some (.int v1), some (.int v2), some (.int x6)]) rfl (Nat.le_of_ble_eq_true rfl) (Or.inr rfl) (by rw [ex6]; rfl) ?_
  refine rn_iload_n (i := 1) rfl rfl ?_
  refine rn_if_eq rfl rfl (fun hc => ?_) (fun hc => ?_)
  · exact u_290_89 E hE (e + 1) hd R HR v0 v1 v2 x6  p5 _ (if_t hb hc)
  · exact u_290_81 E hE (e + 1) hd R HR v0 v1 v2 x6  p5 _ (if_f hb hc)
def b_290_36 (R : Option Nat → Hp → Option (Int32 × Hp)) (v0 : Option Nat) (v1 : Int32) (v2 : Int32)  (h : Hp) : Option (Int32 × Hp) :=
  (gI 11 62 v0 h).bind fun x1 =>
  if ¬ x1 = (nI 8) then b_290_51 R v0 v1 v2  h else b_290_45 R v0  h
theorem u_290_36 (E : Nat) (hE : 3 ≤ E) (d : Nat) (hd : E + 4 ≤ d) (R : Option Nat → Hp → Option (Int32 × Hp)) (HR : ∀ (d : Nat) (a0 : Option Nat) (h : Hp) (r : Int32 × Hp), E ≤ d → R a0 h = some r → Rn d 290 0 [some (va_rf a0), none, none, none] [] h (some (.int r.1), r.2)) (v0 : Option Nat) (v1 : Int32) (v2 : Int32)  (h : Hp) (r : Int32 × Hp) (hb : b_290_36 R v0 v1 v2  h = some r) : Rn d 290 36 [some (va_rf v0), some (.int v1), some (.int v2), none] [] h (some (.int r.1), r.2) := by
  unfold b_290_36 at hb
  refine rn_aload_n (i := 0) rfl rfl ?_
  refine rn_gI (c := 11) (k := 62) rfl (by decide) hb (fun x1 hb => ?_)
  refine rn_bipush (x := (nI 8)) rfl (by decide) ?_
  refine rn_icmp_ne rfl rfl (fun hc => ?_) (fun hc => ?_)
  · exact u_290_51 E hE d hd R HR v0 v1 v2  h _ (if_t hb hc)
  · exact u_290_45 E hE d hd R HR v0 v1 v2  h _ (if_f hb hc)
def b_290_27 (R : Option Nat → Hp → Option (Int32 × Hp)) (v0 : Option Nat) (v1 : Int32) (v2 : Int32)  (h : Hp) : Option (Int32 × Hp) :=
  (gI 11 61 v0 h).bind fun x1 =>
  if x1 = (nI 20) then b_290_45 R v0  h else b_290_36 R v0 v1 v2  h
theorem u_290_27 (E : Nat) (hE : 3 ≤ E) (d : Nat) (hd : E + 4 ≤ d) (R : Option Nat → Hp → Option (Int32 × Hp)) (HR : ∀ (d : Nat) (a0 : Option Nat) (h : Hp) (r : Int32 × Hp), E ≤ d → R a0 h = some r → Rn d 290 0 [some (va_rf a0), none, none, none] [] h (some (.int r.1), r.2)) (v0 : Option Nat) (v1 : Int32) (v2 : Int32)  (h : Hp) (r : Int32 × Hp) (hb : b_290_27 R v0 v1 v2  h = some r) : Rn d 290 27 [some (va_rf v0), some (.int v1), some (.int v2), none] [] h (some (.int r.1), r.2) := by
  unfold b_290_27 at hb
  refine rn_aload_n (i := 0) rfl rfl ?_
  refine rn_gI (c := 11) (k := 61) rfl (by decide) hb (fun x1 hb => ?_)
  refine rn_bipush (x := (nI 20)) rfl (by decide) ?_
  refine rn_icmp_eq rfl rfl (fun hc => ?_) (fun hc => ?_)
  · exact u_290_45 E hE d hd R HR v0 v1 v2  h _ (if_t hb hc)
  · exact u_290_36 E hE d hd R HR v0 v1 v2  h _ (if_f hb hc)
def b_290_21 (R : Option Nat → Hp → Option (Int32 × Hp)) (v0 : Option Nat)  (h : Hp) : Option (Int32 × Hp) :=
  (grd (rC 11 v0 h)).bind fun _ =>
  (f_198 v0 (nI 1) h).bind fun p1 =>
  (grd (decide (p1.1 = 0 ∨ p1.1 = 1))).bind fun _ => some (p1.1, p1.2)
theorem u_290_21 (E : Nat) (hE : 3 ≤ E) (d : Nat) (hd : E + 4 ≤ d) (R : Option Nat → Hp → Option (Int32 × Hp)) (HR : ∀ (d : Nat) (a0 : Option Nat) (h : Hp) (r : Int32 × Hp), E ≤ d → R a0 h = some r → Rn d 290 0 [some (va_rf a0), none, none, none] [] h (some (.int r.1), r.2)) (v0 : Option Nat) (v1 : Int32) (v2 : Int32)  (h : Hp) (r : Int32 × Hp) (hb : b_290_21 R v0  h = some r) : Rn d 290 21 [some (va_rf v0), some (.int v1), some (.int v2), none] [] h (some (.int r.1), r.2) := by
  unfold b_290_21 at hb
  obtain ⟨e, rfl⟩ : ∃ e, d = e + 1 := ⟨d - 1, by omega⟩
  refine rn_aload_n (i := 0) rfl rfl ?_
  refine rn_iconst (x := (nI 1)) rfl (by decide) ?_
  obtain ⟨hrc, hb⟩ := grd_spec hb
  obtain ⟨p1, hc, hb⟩ := Option.bind_eq_some_iff.mp hb
  refine Rn.call1 (d := e) (As := [va_rf v0, .int (nI 1)]) (rest := []) rfl rfl rfl (by decide) rfl rfl rfl (bd_rcV hrc rfl) (by decide) (bd_lenC (n := 2) rfl (bd_slR (bd_slI bd_slN)) rfl) (bd_locC (n := 2) rfl (bd_slR (bd_slI bd_slN)) rfl (t_198 e (by omega) v0 (nI 1) h _ hc)) ?_
  obtain ⟨hz, hb⟩ := grd_spec hb
  obtain rfl := Option.some.inj hb
  exact rn_zret rfl rfl (of_decide_eq_true hz)
def b_290_16 (R : Option Nat → Hp → Option (Int32 × Hp)) (v0 : Option Nat) (v1 : Int32) (v2 : Int32)  (h : Hp) : Option (Int32 × Hp) :=
  if ¬ v2 = (-1 : Int32) then b_290_27 R v0 v1 v2  h else b_290_21 R v0  h
theorem u_290_16 (E : Nat) (hE : 3 ≤ E) (d : Nat) (hd : E + 4 ≤ d) (R : Option Nat → Hp → Option (Int32 × Hp)) (HR : ∀ (d : Nat) (a0 : Option Nat) (h : Hp) (r : Int32 × Hp), E ≤ d → R a0 h = some r → Rn d 290 0 [some (va_rf a0), none, none, none] [] h (some (.int r.1), r.2)) (v0 : Option Nat) (v1 : Int32) (v2 : Int32)  (h : Hp) (r : Int32 × Hp) (hb : b_290_16 R v0 v1 v2  h = some r) : Rn d 290 16 [some (va_rf v0), some (.int v1), some (.int v2), none] [] h (some (.int r.1), r.2) := by
  unfold b_290_16 at hb
  refine rn_iload_n (i := 2) rfl rfl ?_
  refine rn_iconst (x := (-1 : Int32)) rfl (by decide) ?_
  refine rn_icmp_ne rfl rfl (fun hc => ?_) (fun hc => ?_)
  · exact u_290_27 E hE d hd R HR v0 v1 v2  h _ (if_t hb hc)
  · exact u_290_21 E hE d hd R HR v0 v1 v2  h _ (if_f hb hc)
def b_290_0 (R : Option Nat → Hp → Option (Int32 × Hp)) (v0 : Option Nat)  (h : Hp) : Option (Int32 × Hp) :=
  (grd (rC 11 v0 h)).bind fun _ =>
  (f_194 v0 (nI 40) h).bind fun p1 =>
  bnd (p1.1) fun x2 =>
  (grd (rC 11 v0 p1.2)).bind fun _ =>
  (f_289 v0 p1.2).bind fun p3 =>
  bnd (p3.1) fun x4 =>
  if ¬ x2 = 0 then b_290_27 R v0 x2 x4  p3.2 else b_290_16 R v0 x2 x4  p3.2
theorem u_290_0 (E : Nat) (hE : 3 ≤ E) (d : Nat) (hd : E + 4 ≤ d) (R : Option Nat → Hp → Option (Int32 × Hp)) (HR : ∀ (d : Nat) (a0 : Option Nat) (h : Hp) (r : Int32 × Hp), E ≤ d → R a0 h = some r → Rn d 290 0 [some (va_rf a0), none, none, none] [] h (some (.int r.1), r.2)) (v0 : Option Nat)  (h : Hp) (r : Int32 × Hp) (hb : b_290_0 R v0  h = some r) : Rn d 290 0 [some (va_rf v0), none, none, none] [] h (some (.int r.1), r.2) := by
  unfold b_290_0 at hb
  obtain ⟨e, rfl⟩ : ∃ e, d = e + 1 := ⟨d - 1, by omega⟩
  refine rn_aload_n (i := 0) rfl rfl ?_
  refine rn_bipush (x := (nI 40)) rfl (by decide) ?_
  obtain ⟨hrc, hb⟩ := grd_spec hb
  obtain ⟨p1, hc, hb⟩ := Option.bind_eq_some_iff.mp hb
  refine Rn.call1 (d := e) (As := [va_rf v0, .int (nI 40)]) (rest := []) rfl rfl rfl (by decide) rfl rfl rfl (bd_rcV hrc rfl) (by decide) (bd_lenC (n := 2) rfl (bd_slR (bd_slI bd_slN)) rfl) (bd_locC (n := 2) rfl (bd_slR (bd_slI bd_slN)) rfl (t_194 e (by omega) v0 (nI 40) h _ hc)) ?_
  obtain ⟨x2, ex2, hb⟩ := bnd_spec hb
  refine rn_istore_n (i := 1) (L1 := [some (va_rf v0), some (.int x2), none, none]) rfl (Nat.le_of_ble_eq_true rfl) (Or.inr (bd_wideR rfl)) (by rw [ex2]; rfl) ?_
  refine rn_aload_n (i := 0) rfl rfl ?_
  obtain ⟨hrc, hb⟩ := grd_spec hb
  obtain ⟨p3, hc, hb⟩ := Option.bind_eq_some_iff.mp hb
  refine Rn.call1 (d := e) (As := [va_rf v0]) (rest := []) rfl rfl rfl (by decide) rfl rfl rfl (bd_rcV hrc rfl) (by decide) (bd_lenC (n := 2) rfl (bd_slR bd_slN) rfl) (bd_locC (n := 2) rfl (bd_slR bd_slN) rfl (t_289 e (by omega) v0 p1.2 _ hc)) ?_
  obtain ⟨x4, ex4, hb⟩ := bnd_spec hb
  refine rn_istore_n (i := 2) (L1 := [some (va_rf v0), some (.int x2), some (.int x4), none]) rfl (Nat.le_of_ble_eq_true rfl) (Or.inr rfl) (by rw [ex4]; rfl) ?_
  refine rn_iload_n (i := 1) rfl rfl ?_
  refine rn_if_ne rfl rfl (fun hc => ?_) (fun hc => ?_)
  · exact u_290_27 E hE (e + 1) hd R HR v0 x2 x4  p3.2 _ (if_t hb hc)
  · exact u_290_16 E hE (e + 1) hd R HR v0 x2 x4  p3.2 _ (if_f hb hc)
/-- BitingDoorsModel.readOne()Z -/
def F_290 (R : Option Nat → Hp → Option (Int32 × Hp)) (v0 : Option Nat) (h : Hp) : Option (Int32 × Hp) := b_290_0 R v0 h
theorem t0_290 (E : Nat) (hE : 3 ≤ E) (d : Nat) (hd : E + 4 ≤ d) (R : Option Nat → Hp → Option (Int32 × Hp)) (HR : ∀ (d : Nat) (a0 : Option Nat) (h : Hp) (r : Int32 × Hp), E ≤ d → R a0 h = some r → Rn d 290 0 [some (va_rf a0), none, none, none] [] h (some (.int r.1), r.2)) (v0 : Option Nat) (h : Hp) (r : Int32 × Hp) (hb : F_290 R v0 h = some r) : Rn d 290 0 [some (va_rf v0), none, none, none] [] h (some (.int r.1), r.2) := by
  unfold F_290 at hb
  exact u_290_0 E hE d hd R HR v0 h r hb
def f_290 : Nat → Option Nat → Hp → Option (Int32 × Hp)
  | 0, _, _ => none
  | n + 1, v0, h => F_290 (f_290 n) v0 h
theorem t_290 : ∀ (n d : Nat), 4 * n + 3 ≤ d → ∀ (v0 : Option Nat) (h : Hp) (r : Int32 × Hp), f_290 n v0 h = some r → Rn d 290 0 [some (va_rf v0), none, none, none] [] h (some (.int r.1), r.2) := by
  intro n
  induction n with
  | zero => intro d hd v0 h r hb; cases hb
  | succ n ih => intro d hd v0 h r hb; exact t0_290 (4 * n + 3) (by omega) d (by omega) (f_290 n) (fun d v0 h r hd hb => ih d hd v0 h r hb) v0 h r hb
def b_295_108 (v0 : Option Nat)  (h : Hp) : Option (Int32 × Hp) :=
  (gI 11 61 v0 h).bind fun x1 =>
  some (x1, h)
theorem u_295_108 (d : Nat) (hd : 263 ≤ d) (v0 : Option Nat) (v1 : Int32)  (h : Hp) (r : Int32 × Hp) (hb : b_295_108 v0  h = some r) : Rn d 295 108 [some (va_rf v0), some (.int v1)] [] h (some (.int r.1), r.2) := by
  unfold b_295_108 at hb
  refine rn_aload_n (i := 0) rfl rfl ?_
  refine rn_gI (c := 11) (k := 61) rfl (by decide) hb (fun x1 hb => ?_)
  obtain rfl := Option.some.inj hb
  exact rn_iret rfl rfl
def b_295_86 (k79 : Option Nat → Int32 → Hp → Option (Int32 × Hp)) (v0 : Option Nat) (v1 : Int32)  (h : Hp) : Option (Int32 × Hp) :=
  (gQ 11 14 v0 h).bind fun x1 =>
  (gQ 11 59 v0 h).bind fun x2 =>
  (aI 12 x2 v1 h).bind fun x3 =>
  (wI x1 ((nI 464) + v1) x3 h).bind fun h4 =>
  bnd (v1 + (nI 1)) fun x5 =>
  k79 v0 x5 h4
theorem u_295_86 (d : Nat) (hd : 263 ≤ d) (k79 : Option Nat → Int32 → Hp → Option (Int32 × Hp)) (K79 : ∀ (v0 : Option Nat) (v1 : Int32) (h : Hp) (r : Int32 × Hp), k79 v0 v1 h = some r → Rn d 295 79 [some (va_rf v0), some (.int v1)] [] h (some (.int r.1), r.2)) (v0 : Option Nat) (v1 : Int32)  (h : Hp) (r : Int32 × Hp) (hb : b_295_86 k79 v0 v1  h = some r) : Rn d 295 86 [some (va_rf v0), some (.int v1)] [] h (some (.int r.1), r.2) := by
  unfold b_295_86 at hb
  refine rn_aload_n (i := 0) rfl rfl ?_
  refine rn_gQ (c := 11) (k := 14) rfl (by decide) hb (fun x1 hb => ?_)
  refine rn_sipush (x := (nI 464)) rfl (by decide) ?_
  refine rn_iload_n (i := 1) rfl rfl ?_
  refine rn_iadd rfl ?_
  refine rn_aload_n (i := 0) rfl rfl ?_
  refine rn_gQ (c := 11) (k := 59) rfl (by decide) hb (fun x2 hb => ?_)
  refine rn_iload_n (i := 1) rfl rfl ?_
  refine rn_aI rfl hb (fun x3 hb => ?_)
  refine rn_wI rfl hb (fun h4 hb => ?_)
  obtain ⟨x5, ex5, hb⟩ := bnd_spec hb
  refine rn_iinc (i := 1) (y := x5) (L1 := [some (va_rf v0), some (.int x5)]) rfl rfl (Nat.le_of_ble_eq_true rfl) (Or.inr (bd_wideR rfl)) (by rw [ex5]; rfl) rfl ?_
  refine rn_goto rfl rfl ?_
  exact K79 v0 x5 h4 _ hb
def b_295_79 (k79 : Option Nat → Int32 → Hp → Option (Int32 × Hp)) (v0 : Option Nat) (v1 : Int32)  (h : Hp) : Option (Int32 × Hp) :=
  if (nI 240) ≤ v1 then b_295_108 v0  h else b_295_86 k79 v0 v1  h
theorem u_295_79 (d : Nat) (hd : 263 ≤ d) (k79 : Option Nat → Int32 → Hp → Option (Int32 × Hp)) (K79 : ∀ (v0 : Option Nat) (v1 : Int32) (h : Hp) (r : Int32 × Hp), k79 v0 v1 h = some r → Rn d 295 79 [some (va_rf v0), some (.int v1)] [] h (some (.int r.1), r.2)) (v0 : Option Nat) (v1 : Int32)  (h : Hp) (r : Int32 × Hp) (hb : b_295_79 k79 v0 v1  h = some r) : Rn d 295 79 [some (va_rf v0), some (.int v1)] [] h (some (.int r.1), r.2) := by
  unfold b_295_79 at hb
  refine rn_iload_n (i := 1) rfl rfl ?_
  refine rn_sipush (x := (nI 240)) rfl (by decide) ?_
  refine rn_icmp_ge rfl rfl (fun hc => ?_) (fun hc => ?_)
  · exact u_295_108 d hd v0 v1  h _ (if_t hb hc)
  · exact u_295_86 d hd k79 K79 v0 v1  h _ (if_f hb hc)
def l_295_79 : Nat → Option Nat → Int32 → Hp → Option (Int32 × Hp)
  | 0, _, _, _ => none
  | n + 1, v0, v1, h => b_295_79 (l_295_79 n) v0 v1 h
theorem w_295_79 (d : Nat) (hd : 263 ≤ d) : ∀ (n : Nat) (v0 : Option Nat) (v1 : Int32) (h : Hp) (r : Int32 × Hp), l_295_79 n v0 v1 h = some r → Rn d 295 79 [some (va_rf v0), some (.int v1)] [] h (some (.int r.1), r.2) := by
  intro n
  induction n with
  | zero => intro v0 v1 h r hb; cases hb
  | succ n ih => intro v0 v1 h r hb; exact u_295_79 d hd (l_295_79 n) ih v0 v1 h r hb
def b_295_56 (v0 : Option Nat)  (h : Hp) : Option (Int32 × Hp) :=
  (gQ 11 14 v0 h).bind fun x1 =>
  (wI x1 (nI 462) (nI 1) h).bind fun h2 =>
  (gQ 11 14 v0 h2).bind fun x3 =>
  (gI 11 63 v0 h2).bind fun x4 =>
  (wI x3 (nI 463) x4 h2).bind fun h5 =>
  bnd ((nI 0)) fun x6 =>
  l_295_79 FU v0 x6 h5
theorem u_295_56 (d : Nat) (hd : 263 ≤ d) (v0 : Option Nat)  (h : Hp) (r : Int32 × Hp) (hb : b_295_56 v0  h = some r) : Rn d 295 56 [some (va_rf v0), none] [] h (some (.int r.1), r.2) := by
  unfold b_295_56 at hb
  refine rn_aload_n (i := 0) rfl rfl ?_
  refine rn_gQ (c := 11) (k := 14) rfl (by decide) hb (fun x1 hb => ?_)
  refine rn_sipush (x := (nI 462)) rfl (by decide) ?_
  refine rn_iconst (x := (nI 1)) rfl (by decide) ?_
  refine rn_wI rfl hb (fun h2 hb => ?_)
  refine rn_aload_n (i := 0) rfl rfl ?_
  refine rn_gQ (c := 11) (k := 14) rfl (by decide) hb (fun x3 hb => ?_)
  refine rn_sipush (x := (nI 463)) rfl (by decide) ?_
  refine rn_aload_n (i := 0) rfl rfl ?_
  refine rn_gI (c := 11) (k := 63) rfl (by decide) hb (fun x4 hb => ?_)
  refine rn_wI rfl hb (fun h5 hb => ?_)
  refine rn_iconst (x := (nI 0)) rfl (by decide) ?_
  obtain ⟨x6, ex6, hb⟩ := bnd_spec hb
  refine rn_istore_n (i := 1) (L1 := [some (va_rf v0), some (.int x6)]) rfl (Nat.le_of_ble_eq_true rfl) (Or.inr (bd_wideR rfl)) (by rw [ex6]; rfl) ?_
  exact w_295_79 d hd FU v0 x6 h5 _ hb
def b_295_43 (v0 : Option Nat)  (h : Hp) : Option (Int32 × Hp) :=
  (grd (rC 11 v0 h)).bind fun _ =>
  (f_198 v0 (nI 1) h).bind fun p1 =>
  (gI 11 11 v0 p1.2).bind fun x2 =>
  some (((-1 : Int32) - x2), p1.2)
theorem u_295_43 (d : Nat) (hd : 263 ≤ d) (v0 : Option Nat)  (h : Hp) (r : Int32 × Hp) (hb : b_295_43 v0  h = some r) : Rn d 295 43 [some (va_rf v0), none] [] h (some (.int r.1), r.2) := by
  unfold b_295_43 at hb
  obtain ⟨e, rfl⟩ : ∃ e, d = e + 1 := ⟨d - 1, by omega⟩
  refine rn_aload_n (i := 0) rfl rfl ?_
  refine rn_iconst (x := (nI 1)) rfl (by decide) ?_
  obtain ⟨hrc, hb⟩ := grd_spec hb
  obtain ⟨p1, hc, hb⟩ := Option.bind_eq_some_iff.mp hb
  refine Rn.call1 (d := e) (As := [va_rf v0, .int (nI 1)]) (rest := []) rfl rfl rfl (by decide) rfl rfl rfl (bd_rcV hrc rfl) (by decide) (bd_lenC (n := 2) rfl (bd_slR (bd_slI bd_slN)) rfl) (bd_locC (n := 2) rfl (bd_slR (bd_slI bd_slN)) rfl (t_198 e (by omega) v0 (nI 1) h _ hc)) ?_
  refine rn_pop rfl rfl ?_
  refine rn_iconst (x := (-1 : Int32)) rfl (by decide) ?_
  refine rn_aload_n (i := 0) rfl rfl ?_
  refine rn_gI (c := 11) (k := 11) rfl (by decide) hb (fun x2 hb => ?_)
  refine rn_isub rfl ?_
  obtain rfl := Option.some.inj hb
  exact rn_iret rfl rfl
def b_295_36 (v0 : Option Nat)  (h : Hp) : Option (Int32 × Hp) :=
  (gI 11 7 v0 h).bind fun x1 =>
  if x1 = 0 then b_295_56 v0  h else b_295_43 v0  h
theorem u_295_36 (d : Nat) (hd : 263 ≤ d) (v0 : Option Nat)  (h : Hp) (r : Int32 × Hp) (hb : b_295_36 v0  h = some r) : Rn d 295 36 [some (va_rf v0), none] [] h (some (.int r.1), r.2) := by
  unfold b_295_36 at hb
  refine rn_aload_n (i := 0) rfl rfl ?_
  refine rn_gI (c := 11) (k := 7) rfl (by decide) hb (fun x1 hb => ?_)
  refine rn_if_eq rfl rfl (fun hc => ?_) (fun hc => ?_)
  · exact u_295_56 d hd v0  h _ (if_t hb hc)
  · exact u_295_43 d hd v0  h _ (if_f hb hc)
def b_295_29 (v0 : Option Nat)  (h : Hp) : Option (Int32 × Hp) :=
  (gI 11 11 v0 h).bind fun x1 =>
  some (((-1 : Int32) - x1), h)
theorem u_295_29 (d : Nat) (hd : 263 ≤ d) (v0 : Option Nat)  (h : Hp) (r : Int32 × Hp) (hb : b_295_29 v0  h = some r) : Rn d 295 29 [some (va_rf v0), none] [] h (some (.int r.1), r.2) := by
  unfold b_295_29 at hb
  refine rn_iconst (x := (-1 : Int32)) rfl (by decide) ?_
  refine rn_aload_n (i := 0) rfl rfl ?_
  refine rn_gI (c := 11) (k := 11) rfl (by decide) hb (fun x1 hb => ?_)
  refine rn_isub rfl ?_
  obtain rfl := Option.some.inj hb
  exact rn_iret rfl rfl
def b_295_0 (v0 : Option Nat)  (h : Hp) : Option (Int32 × Hp) :=
  (grd (rC 11 v0 h)).bind fun _ =>
  (f_201 v0 (nI 200) h).bind fun p1 =>
  (pI 11 60 v0 (nI 0) p1).bind fun h2 =>
  (pI 11 61 v0 (nI 0) h2).bind fun h3 =>
  (pI 11 62 v0 (nI 0) h3).bind fun h4 =>
  (grd (rC 11 v0 h4)).bind fun _ =>
  (F_287 (f_290 RF) v0 h4).bind fun p5 =>
  if ¬ p5.1 = 0 then b_295_36 v0  p5.2 else b_295_29 v0  p5.2
theorem u_295_0 (d : Nat) (hd : 263 ≤ d) (v0 : Option Nat)  (h : Hp) (r : Int32 × Hp) (hb : b_295_0 v0  h = some r) : Rn d 295 0 [some (va_rf v0), none] [] h (some (.int r.1), r.2) := by
  unfold b_295_0 at hb
  obtain ⟨e, rfl⟩ : ∃ e, d = e + 1 := ⟨d - 1, by omega⟩
  refine rn_aload_n (i := 0) rfl rfl ?_
  refine rn_sipush (x := (nI 200)) rfl (by decide) ?_
  obtain ⟨hrc, hb⟩ := grd_spec hb
  obtain ⟨p1, hc, hb⟩ := Option.bind_eq_some_iff.mp hb
  refine Rn.call0 (d := e) (As := [va_rf v0, .int (nI 200)]) (rest := []) rfl rfl rfl (by decide) rfl rfl rfl (bd_rcV hrc rfl) (by decide) (bd_lenC (n := 2) rfl (bd_slR (bd_slI bd_slN)) rfl) (bd_locC (n := 2) rfl (bd_slR (bd_slI bd_slN)) rfl (t_201 e (by omega) v0 (nI 200) h _ hc)) ?_
  refine rn_aload_n (i := 0) rfl rfl ?_
  refine rn_iconst (x := (nI 0)) rfl (by decide) ?_
  refine rn_pI (c := 11) (k := 60) rfl (by decide) hb (fun h2 hb => ?_)
  refine rn_aload_n (i := 0) rfl rfl ?_
  refine rn_iconst (x := (nI 0)) rfl (by decide) ?_
  refine rn_pI (c := 11) (k := 61) rfl (by decide) hb (fun h3 hb => ?_)
  refine rn_aload_n (i := 0) rfl rfl ?_
  refine rn_iconst (x := (nI 0)) rfl (by decide) ?_
  refine rn_pI (c := 11) (k := 62) rfl (by decide) hb (fun h4 hb => ?_)
  refine rn_aload_n (i := 0) rfl rfl ?_
  obtain ⟨hrc, hb⟩ := grd_spec hb
  obtain ⟨p5, hc, hb⟩ := Option.bind_eq_some_iff.mp hb
  refine Rn.call1 (d := e) (As := [va_rf v0]) (rest := []) rfl rfl rfl (by decide) rfl rfl rfl (bd_rcV hrc rfl) (by decide) (bd_lenC (n := 2) rfl (bd_slR bd_slN) rfl) (bd_locC (n := 2) rfl (bd_slR bd_slN) rfl (t_287 (4 * 64 + 3) (by decide) e (by omega) (f_290 RF) (fun d a0 h r hd hb => t_290 RF d hd a0 h r hb) v0 h4 _ hc)) ?_
  refine rn_if_ne rfl rfl (fun hc => ?_) (fun hc => ?_)
  · exact u_295_36 (e + 1) hd v0  p5.2 _ (if_t hb hc)
  · exact u_295_29 (e + 1) hd v0  p5.2 _ (if_f hb hc)
/-- BitingDoorsModel.sentence()I -/
def f_295 (v0 : Option Nat) (h : Hp) : Option (Int32 × Hp) := b_295_0 v0 h
theorem t_295 (d : Nat) (hd : 263 ≤ d) (v0 : Option Nat) (h : Hp) (r : Int32 × Hp) (hb : f_295 v0 h = some r) : Rn d 295 0 [some (va_rf v0), none] [] h (some (.int r.1), r.2) := by
  unfold f_295 at hb
  exact u_295_0 d hd v0 h r hb
def b_296_94 (v0 : Option Nat) (v2 : Int32)  (h : Hp) : Option (Int32 × Hp) :=
  (gQ 11 29 v0 h).bind fun x1 =>
  (aI 12 x1 v2 h).bind fun x2 =>
  (f_184 x2 h).bind fun p3 =>
  some (p3.1, p3.2)
theorem u_296_94 (d : Nat) (hd : 1 ≤ d) (v0 : Option Nat) (v1 : Int32) (v2 : Int32) (v3 : Int32)  (h : Hp) (r : Int32 × Hp) (hb : b_296_94 v0 v2  h = some r) : Rn d 296 94 [some (va_rf v0), some (.int v1), some (.int v2), some (.int v3)] [] h (some (.int r.1), r.2) := by
  unfold b_296_94 at hb
  obtain ⟨e, rfl⟩ : ∃ e, d = e + 1 := ⟨d - 1, by omega⟩
  refine rn_aload_n (i := 0) rfl rfl ?_
  refine rn_gQ (c := 11) (k := 29) rfl (by decide) hb (fun x1 hb => ?_)
  refine rn_iload_n (i := 2) rfl rfl ?_
  refine rn_aI rfl hb (fun x2 hb => ?_)
  obtain ⟨p3, hc, hb⟩ := Option.bind_eq_some_iff.mp hb
  refine Rn.call1 (d := e) (As := [.int x2]) (rest := []) rfl rfl rfl (by decide) rfl rfl rfl rfl (by decide) (bd_lenC (n := 3) rfl (bd_slI bd_slN) rfl) (bd_locC (n := 3) rfl (bd_slI bd_slN) rfl (t_184 e (by omega) x2 h _ hc)) ?_
  obtain rfl := Option.some.inj hb
  exact rn_iret rfl rfl
def b_296_52 (v0 : Option Nat) (v2 : Int32)  (h : Hp) : Option (Int32 × Hp) :=
  (gQ 11 43 v0 h).bind fun x1 =>
  (aI 12 x1 v2 h).bind fun x2 =>
  some (x2, h)
theorem u_296_52 (d : Nat) (hd : 1 ≤ d) (v0 : Option Nat) (v1 : Int32) (v2 : Int32) (v3 : Int32)  (h : Hp) (r : Int32 × Hp) (hb : b_296_52 v0 v2  h = some r) : Rn d 296 52 [some (va_rf v0), some (.int v1), some (.int v2), some (.int v3)] [] h (some (.int r.1), r.2) := by
  unfold b_296_52 at hb
  refine rn_aload_n (i := 0) rfl rfl ?_
  refine rn_gQ (c := 11) (k := 43) rfl (by decide) hb (fun x1 hb => ?_)
  refine rn_iload_n (i := 2) rfl rfl ?_
  refine rn_aI rfl hb (fun x2 hb => ?_)
  obtain rfl := Option.some.inj hb
  exact rn_iret rfl rfl
def b_296_59 (v0 : Option Nat) (v2 : Int32)  (h : Hp) : Option (Int32 × Hp) :=
  (grd (rC 11 v0 h)).bind fun _ =>
  (f_205 v0 v2 (nI 3) h).bind fun p1 =>
  some (p1.1, p1.2)
theorem u_296_59 (d : Nat) (hd : 1 ≤ d) (v0 : Option Nat) (v1 : Int32) (v2 : Int32) (v3 : Int32)  (h : Hp) (r : Int32 × Hp) (hb : b_296_59 v0 v2  h = some r) : Rn d 296 59 [some (va_rf v0), some (.int v1), some (.int v2), some (.int v3)] [] h (some (.int r.1), r.2) := by
  unfold b_296_59 at hb
  obtain ⟨e, rfl⟩ : ∃ e, d = e + 1 := ⟨d - 1, by omega⟩
  refine rn_aload_n (i := 0) rfl rfl ?_
  refine rn_iload_n (i := 2) rfl rfl ?_
  refine rn_iconst (x := (nI 3)) rfl (by decide) ?_
  obtain ⟨hrc, hb⟩ := grd_spec hb
  obtain ⟨p1, hc, hb⟩ := Option.bind_eq_some_iff.mp hb
  refine Rn.call1 (d := e) (As := [va_rf v0, .int v2, .int (nI 3)]) (rest := []) rfl rfl rfl (by decide) rfl rfl rfl (bd_rcV hrc rfl) (by decide) (bd_lenC (n := 3) rfl (bd_slR (bd_slI (bd_slI bd_slN))) rfl) (bd_locC (n := 3) rfl (bd_slR (bd_slI (bd_slI bd_slN))) rfl (t_205 e (by omega) v0 v2 (nI 3) h _ hc)) ?_
  obtain rfl := Option.some.inj hb
  exact rn_iret rfl rfl
def b_296_66 (v0 : Option Nat) (v2 : Int32) (v3 : Int32)  (h : Hp) : Option (Int32 × Hp) :=
  (gQ 11 27 v0 h).bind fun x1 =>
  (aJ x1 (((nI 4) * v2) + v3) h).bind fun x2 =>
  (f_185 x2 h).bind fun p3 =>
  (gQ 11 28 v0 p3.2).bind fun x4 =>
  (aJ x4 (((nI 4) * v2) + v3) p3.2).bind fun x5 =>
  (f_185 x5 p3.2).bind fun p6 =>
  some ((p3.1 + p6.1), p6.2)
theorem u_296_66 (d : Nat) (hd : 1 ≤ d) (v0 : Option Nat) (v1 : Int32) (v2 : Int32) (v3 : Int32)  (h : Hp) (r : Int32 × Hp) (hb : b_296_66 v0 v2 v3  h = some r) : Rn d 296 66 [some (va_rf v0), some (.int v1), some (.int v2), some (.int v3)] [] h (some (.int r.1), r.2) := by
  unfold b_296_66 at hb
  obtain ⟨e, rfl⟩ : ∃ e, d = e + 1 := ⟨d - 1, by omega⟩
  refine rn_aload_n (i := 0) rfl rfl ?_
  refine rn_gQ (c := 11) (k := 27) rfl (by decide) hb (fun x1 hb => ?_)
  refine rn_iconst (x := (nI 4)) rfl (by decide) ?_
  refine rn_iload_n (i := 2) rfl rfl ?_
  refine rn_imul rfl ?_
  refine rn_iload_n (i := 3) rfl rfl ?_
  refine rn_iadd rfl ?_
  refine rn_aJ rfl hb (fun x2 hb => ?_)
  obtain ⟨p3, hc, hb⟩ := Option.bind_eq_some_iff.mp hb
  refine Rn.call1 (d := e) (As := [.long x2]) (rest := []) rfl rfl rfl (by decide) rfl rfl rfl rfl (by decide) (bd_lenC (n := 5) rfl (bd_slJ bd_slN) rfl) (bd_locC (n := 5) rfl (bd_slJ bd_slN) rfl (t_185 e (by omega) x2 h _ hc)) ?_
  refine rn_aload_n (i := 0) rfl rfl ?_
  refine rn_gQ (c := 11) (k := 28) rfl (by decide) hb (fun x4 hb => ?_)
  refine rn_iconst (x := (nI 4)) rfl (by decide) ?_
  refine rn_iload_n (i := 2) rfl rfl ?_
  refine rn_imul rfl ?_
  refine rn_iload_n (i := 3) rfl rfl ?_
  refine rn_iadd rfl ?_
  refine rn_aJ rfl hb (fun x5 hb => ?_)
  obtain ⟨p6, hc, hb⟩ := Option.bind_eq_some_iff.mp hb
  refine Rn.call1 (d := e) (As := [.long x5]) (rest := [.int p3.1]) rfl rfl rfl (by decide) rfl rfl rfl rfl (by rw [bd_cI (bd_cN)]; decide) (bd_lenC (n := 5) rfl (bd_slJ bd_slN) rfl) (bd_locC (n := 5) rfl (bd_slJ bd_slN) rfl (t_185 e (by omega) x5 p3.2 _ hc)) ?_
  refine rn_iadd rfl ?_
  obtain rfl := Option.some.inj hb
  exact rn_iret rfl rfl
def b_296_104 (v0 : Option Nat) (v2 : Int32)  (h : Hp) : Option (Int32 × Hp) :=
  (grd (rC 11 v0 h)).bind fun _ =>
  (f_205 v0 v2 (nI 6) h).bind fun p1 =>
  some (p1.1, p1.2)
theorem u_296_104 (d : Nat) (hd : 1 ≤ d) (v0 : Option Nat) (v1 : Int32) (v2 : Int32) (v3 : Int32)  (h : Hp) (r : Int32 × Hp) (hb : b_296_104 v0 v2  h = some r) : Rn d 296 104 [some (va_rf v0), some (.int v1), some (.int v2), some (.int v3)] [] h (some (.int r.1), r.2) := by
  unfold b_296_104 at hb
  obtain ⟨e, rfl⟩ : ∃ e, d = e + 1 := ⟨d - 1, by omega⟩
  refine rn_aload_n (i := 0) rfl rfl ?_
  refine rn_iload_n (i := 2) rfl rfl ?_
  refine rn_bipush (x := (nI 6)) rfl (by decide) ?_
  obtain ⟨hrc, hb⟩ := grd_spec hb
  obtain ⟨p1, hc, hb⟩ := Option.bind_eq_some_iff.mp hb
  refine Rn.call1 (d := e) (As := [va_rf v0, .int v2, .int (nI 6)]) (rest := []) rfl rfl rfl (by decide) rfl rfl rfl (bd_rcV hrc rfl) (by decide) (bd_lenC (n := 3) rfl (bd_slR (bd_slI (bd_slI bd_slN))) rfl) (bd_locC (n := 3) rfl (bd_slR (bd_slI (bd_slI bd_slN))) rfl (t_205 e (by omega) v0 v2 (nI 6) h _ hc)) ?_
  obtain rfl := Option.some.inj hb
  exact rn_iret rfl rfl
def b_296_0 (v0 : Option Nat) (v1 : Int32) (v2 : Int32)  (h : Hp) : Option (Int32 × Hp) :=
  (grd (rC 11 v0 h)).bind fun _ =>
  (f_205 v0 v2 (nI 4) h).bind fun p1 =>
  bnd (p1.1) fun x2 =>
  bnd (v1 - (nI 50)) fun x3 =>
  if x3 = nI 6 then b_296_94 v0 v2  p1.2 else if x3 = nI 23 then b_296_52 v0 v2  p1.2 else if x3 = nI 24 then b_296_59 v0 v2  p1.2 else if x3 = nI 25 then b_296_66 v0 v2 x2  p1.2 else b_296_104 v0 v2  p1.2
theorem u_296_0 (d : Nat) (hd : 1 ≤ d) (v0 : Option Nat) (v1 : Int32) (v2 : Int32)  (h : Hp) (r : Int32 × Hp) (hb : b_296_0 v0 v1 v2  h = some r) : Rn d 296 0 [some (va_rf v0), some (.int v1), some (.int v2), none] [] h (some (.int r.1), r.2) := by
  unfold b_296_0 at hb
  obtain ⟨e, rfl⟩ : ∃ e, d = e + 1 := ⟨d - 1, by omega⟩
  refine rn_aload_n (i := 0) rfl rfl ?_
  refine rn_iload_n (i := 2) rfl rfl ?_
  refine rn_iconst (x := (nI 4)) rfl (by decide) ?_
  obtain ⟨hrc, hb⟩ := grd_spec hb
  obtain ⟨p1, hc, hb⟩ := Option.bind_eq_some_iff.mp hb
  refine Rn.call1 (d := e) (As := [va_rf v0, .int v2, .int (nI 4)]) (rest := []) rfl rfl rfl (by decide) rfl rfl rfl (bd_rcV hrc rfl) (by decide) (bd_lenC (n := 3) rfl (bd_slR (bd_slI (bd_slI bd_slN))) rfl) (bd_locC (n := 3) rfl (bd_slR (bd_slI (bd_slI bd_slN))) rfl (t_205 e (by omega) v0 v2 (nI 4) h _ hc)) ?_
  obtain ⟨x2, ex2, hb⟩ := bnd_spec hb
  refine rn_istore_n (i := 3) (L1 := [some (va_rf v0), some (.int v1), some (.int v2), some (.int x2)]) rfl (Nat.le_of_ble_eq_true rfl) (Or.inr rfl) (by rw [ex2]; rfl) ?_
  refine rn_iload_n (i := 1) rfl rfl ?_
  refine rn_bipush (x := (nI 50)) rfl (by decide) ?_
  refine rn_isub rfl ?_
  obtain ⟨x3, ex3, hb⟩ := bnd_spec hb
  rw [← ex3]
  by_cases hc6 : x3 = nI 6
  · rw [if_pos hc6] at hb; refine rn_lsw (t := 94) rfl (by rw [hc6]; decide) ?_; exact u_296_94 (e + 1) hd v0 v1 v2 x2  p1.2 _ hb
  rw [if_neg hc6] at hb
  by_cases hc23 : x3 = nI 23
  · rw [if_pos hc23] at hb; refine rn_lsw (t := 52) rfl (by rw [hc23]; decide) ?_; exact u_296_52 (e + 1) hd v0 v1 v2 x2  p1.2 _ hb
  rw [if_neg hc23] at hb
  by_cases hc24 : x3 = nI 24
  · rw [if_pos hc24] at hb; refine rn_lsw (t := 59) rfl (by rw [hc24]; decide) ?_; exact u_296_59 (e + 1) hd v0 v1 v2 x2  p1.2 _ hb
  rw [if_neg hc24] at hb
  by_cases hc25 : x3 = nI 25
  · rw [if_pos hc25] at hb; refine rn_lsw (t := 66) rfl (by rw [hc25]; decide) ?_; exact u_296_66 (e + 1) hd v0 v1 v2 x2  p1.2 _ hb
  rw [if_neg hc25] at hb
  have z6 := sw_ne hc6 (by decide)
  have z23 := sw_ne hc23 (by decide)
  have z24 := sw_ne hc24 (by decide)
  have z25 := sw_ne hc25 (by decide)
  refine rn_lsw (t := 104) rfl (by show bd_tg 11 (Op.lookupswitch.offset [(6, 83), (23, 41), (24, 48), (25, 55)] (93) x3.toInt) = _; rw [Op.lookupswitch.offset_cons, if_neg (show ¬ (6 : Int) = x3.toInt from fun e => z6 e.symm), Op.lookupswitch.offset_cons, if_neg (show ¬ (23 : Int) = x3.toInt from fun e => z23 e.symm), Op.lookupswitch.offset_cons, if_neg (show ¬ (24 : Int) = x3.toInt from fun e => z24 e.symm), Op.lookupswitch.offset_cons, if_neg (show ¬ (25 : Int) = x3.toInt from fun e => z25 e.symm), Op.lookupswitch.offset_nil]; rfl) ?_
  exact u_296_104 (e + 1) hd v0 v1 v2 x2  p1.2 _ hb
/-- BitingDoorsModel.valueOf(II)I -/
def f_296 (v0 : Option Nat) (v1 : Int32) (v2 : Int32) (h : Hp) : Option (Int32 × Hp) := b_296_0 v0 v1 v2 h
theorem t_296 (d : Nat) (hd : 1 ≤ d) (v0 : Option Nat) (v1 : Int32) (v2 : Int32) (h : Hp) (r : Int32 × Hp) (hb : f_296 v0 v1 v2 h = some r) : Rn d 296 0 [some (va_rf v0), some (.int v1), some (.int v2), none] [] h (some (.int r.1), r.2) := by
  unfold f_296 at hb
  exact u_296_0 d hd v0 v1 v2 h r hb
def b_297_91 (R : Option Nat → Int32 → Int32 → Hp → Option (Int32 × Hp))  (s0 : Int32) (h : Hp) : Option (Int32 × Hp) :=
  (grd (decide (s0 = 0 ∨ s0 = 1))).bind fun _ => some (s0, h)
theorem u_297_91 (E : Nat) (hE : 3 ≤ E) (d : Nat) (hd : E + 1 ≤ d) (R : Option Nat → Int32 → Int32 → Hp → Option (Int32 × Hp)) (HR : ∀ (d : Nat) (a0 : Option Nat) (a1 : Int32) (a2 : Int32) (h : Hp) (r : Int32 × Hp), E ≤ d → R a0 a1 a2 h = some r → Rn d 297 0 [some (va_rf a0), some (.int a1), some (.int a2), none, none, none, none] [] h (some (.int r.1), r.2)) (v0 : Option Nat) (v1 : Int32) (v2 : Int32) (v3 : Int32) (v4 : Int32) (v5 : Int32) (s0 : Int32) (h : Hp) (r : Int32 × Hp) (hb : b_297_91 R  s0 h = some r) : Rn d 297 91 [some (va_rf v0), some (.int v1), some (.int v2), some (.int v3), some (.int v4), some (.int v5), none] [.int s0] h (some (.int r.1), r.2) := by
  unfold b_297_91 at hb
  obtain ⟨hz, hb⟩ := grd_spec hb
  obtain rfl := Option.some.inj hb
  exact rn_zret rfl rfl (of_decide_eq_true hz)
def b_297_90 (R : Option Nat → Int32 → Int32 → Hp → Option (Int32 × Hp))   (h : Hp) : Option (Int32 × Hp) :=
  b_297_91 R  (nI 0) h
theorem u_297_90 (E : Nat) (hE : 3 ≤ E) (d : Nat) (hd : E + 1 ≤ d) (R : Option Nat → Int32 → Int32 → Hp → Option (Int32 × Hp)) (HR : ∀ (d : Nat) (a0 : Option Nat) (a1 : Int32) (a2 : Int32) (h : Hp) (r : Int32 × Hp), E ≤ d → R a0 a1 a2 h = some r → Rn d 297 0 [some (va_rf a0), some (.int a1), some (.int a2), none, none, none, none] [] h (some (.int r.1), r.2)) (v0 : Option Nat) (v1 : Int32) (v2 : Int32) (v3 : Int32) (v4 : Int32) (v5 : Int32)  (h : Hp) (r : Int32 × Hp) (hb : b_297_90 R   h = some r) : Rn d 297 90 [some (va_rf v0), some (.int v1), some (.int v2), some (.int v3), some (.int v4), some (.int v5), none] [] h (some (.int r.1), r.2) := by
  unfold b_297_90 at hb
  refine rn_iconst (x := (nI 0)) rfl (by decide) ?_
  exact u_297_91 E hE d hd R HR v0 v1 v2 v3 v4 v5 (nI 0) h _ hb
def b_297_86 (R : Option Nat → Int32 → Int32 → Hp → Option (Int32 × Hp))   (h : Hp) : Option (Int32 × Hp) :=
  b_297_91 R  (nI 1) h
theorem u_297_86 (E : Nat) (hE : 3 ≤ E) (d : Nat) (hd : E + 1 ≤ d) (R : Option Nat → Int32 → Int32 → Hp → Option (Int32 × Hp)) (HR : ∀ (d : Nat) (a0 : Option Nat) (a1 : Int32) (a2 : Int32) (h : Hp) (r : Int32 × Hp), E ≤ d → R a0 a1 a2 h = some r → Rn d 297 0 [some (va_rf a0), some (.int a1), some (.int a2), none, none, none, none] [] h (some (.int r.1), r.2)) (v0 : Option Nat) (v1 : Int32) (v2 : Int32) (v3 : Int32) (v4 : Int32) (v5 : Int32)  (h : Hp) (r : Int32 × Hp) (hb : b_297_86 R   h = some r) : Rn d 297 86 [some (va_rf v0), some (.int v1), some (.int v2), some (.int v3), some (.int v4), some (.int v5), none] [] h (some (.int r.1), r.2) := by
  unfold b_297_86 at hb
  refine rn_iconst (x := (nI 1)) rfl (by decide) ?_
  refine rn_goto rfl rfl ?_
  exact u_297_91 E hE d hd R HR v0 v1 v2 v3 v4 v5 (nI 1) h _ hb
def b_297_76 (R : Option Nat → Int32 → Int32 → Hp → Option (Int32 × Hp)) (v0 : Option Nat) (v2 : Int32) (v4 : Int32)  (h : Hp) : Option (Int32 × Hp) :=
  (grd (rC 11 v0 h)).bind fun _ =>
  (R v0 v4 v2 h).bind fun p1 =>
  if ¬ p1.1 = 0 then b_297_90 R   p1.2 else b_297_86 R   p1.2
theorem u_297_76 (E : Nat) (hE : 3 ≤ E) (d : Nat) (hd : E + 1 ≤ d) (R : Option Nat → Int32 → Int32 → Hp → Option (Int32 × Hp)) (HR : ∀ (d : Nat) (a0 : Option Nat) (a1 : Int32) (a2 : Int32) (h : Hp) (r : Int32 × Hp), E ≤ d → R a0 a1 a2 h = some r → Rn d 297 0 [some (va_rf a0), some (.int a1), some (.int a2), none, none, none, none] [] h (some (.int r.1), r.2)) (v0 : Option Nat) (v1 : Int32) (v2 : Int32) (v3 : Int32) (v4 : Int32) (v5 : Int32)  (h : Hp) (r : Int32 × Hp) (hb : b_297_76 R v0 v2 v4  h = some r) : Rn d 297 76 [some (va_rf v0), some (.int v1), some (.int v2), some (.int v3), some (.int v4), some (.int v5), none] [] h (some (.int r.1), r.2) := by
  unfold b_297_76 at hb
  obtain ⟨e, rfl⟩ : ∃ e, d = e + 1 := ⟨d - 1, by omega⟩
  refine rn_aload_n (i := 0) rfl rfl ?_
  refine rn_iload (i := 4) rfl rfl ?_
  refine rn_iload_n (i := 2) rfl rfl ?_
  obtain ⟨hrc, hb⟩ := grd_spec hb
  obtain ⟨p1, hc, hb⟩ := Option.bind_eq_some_iff.mp hb
  refine Rn.call1 (d := e) (As := [va_rf v0, .int v4, .int v2]) (rest := []) rfl rfl rfl (by decide) rfl rfl rfl (bd_rcV hrc rfl) (by decide) (bd_lenC (n := 7) rfl (bd_slR (bd_slI (bd_slI bd_slN))) rfl) (bd_locC (n := 7) rfl (bd_slR (bd_slI (bd_slI bd_slN))) rfl (HR e v0 v4 v2 h _ (by omega) hc)) ?_
  refine rn_if_ne rfl rfl (fun hc => ?_) (fun hc => ?_)
  · exact u_297_90 E hE (e + 1) hd R HR v0 v1 v2 v3 v4 v5  p1.2 _ (if_t hb hc)
  · exact u_297_86 E hE (e + 1) hd R HR v0 v1 v2 v3 v4 v5  p1.2 _ (if_f hb hc)
def b_297_117 (R : Option Nat → Int32 → Int32 → Hp → Option (Int32 × Hp))  (s0 : Int32) (h : Hp) : Option (Int32 × Hp) :=
  (grd (decide (s0 = 0 ∨ s0 = 1))).bind fun _ => some (s0, h)
theorem u_297_117 (E : Nat) (hE : 3 ≤ E) (d : Nat) (hd : E + 1 ≤ d) (R : Option Nat → Int32 → Int32 → Hp → Option (Int32 × Hp)) (HR : ∀ (d : Nat) (a0 : Option Nat) (a1 : Int32) (a2 : Int32) (h : Hp) (r : Int32 × Hp), E ≤ d → R a0 a1 a2 h = some r → Rn d 297 0 [some (va_rf a0), some (.int a1), some (.int a2), none, none, none, none] [] h (some (.int r.1), r.2)) (v0 : Option Nat) (v1 : Int32) (v2 : Int32) (v3 : Int32) (v4 : Int32) (v5 : Int32) (s0 : Int32) (h : Hp) (r : Int32 × Hp) (hb : b_297_117 R  s0 h = some r) : Rn d 297 117 [some (va_rf v0), some (.int v1), some (.int v2), some (.int v3), some (.int v4), some (.int v5), none] [.int s0] h (some (.int r.1), r.2) := by
  unfold b_297_117 at hb
  obtain ⟨hz, hb⟩ := grd_spec hb
  obtain rfl := Option.some.inj hb
  exact rn_zret rfl rfl (of_decide_eq_true hz)
def b_297_116 (R : Option Nat → Int32 → Int32 → Hp → Option (Int32 × Hp))   (h : Hp) : Option (Int32 × Hp) :=
  b_297_117 R  (nI 0) h
theorem u_297_116 (E : Nat) (hE : 3 ≤ E) (d : Nat) (hd : E + 1 ≤ d) (R : Option Nat → Int32 → Int32 → Hp → Option (Int32 × Hp)) (HR : ∀ (d : Nat) (a0 : Option Nat) (a1 : Int32) (a2 : Int32) (h : Hp) (r : Int32 × Hp), E ≤ d → R a0 a1 a2 h = some r → Rn d 297 0 [some (va_rf a0), some (.int a1), some (.int a2), none, none, none, none] [] h (some (.int r.1), r.2)) (v0 : Option Nat) (v1 : Int32) (v2 : Int32) (v3 : Int32) (v4 : Int32) (v5 : Int32)  (h : Hp) (r : Int32 × Hp) (hb : b_297_116 R   h = some r) : Rn d 297 116 [some (va_rf v0), some (.int v1), some (.int v2), some (.int v3), some (.int v4), some (.int v5), none] [] h (some (.int r.1), r.2) := by
  unfold b_297_116 at hb
  refine rn_iconst (x := (nI 0)) rfl (by decide) ?_
  exact u_297_117 E hE d hd R HR v0 v1 v2 v3 v4 v5 (nI 0) h _ hb
def b_297_112 (R : Option Nat → Int32 → Int32 → Hp → Option (Int32 × Hp))   (h : Hp) : Option (Int32 × Hp) :=
  b_297_117 R  (nI 1) h
theorem u_297_112 (E : Nat) (hE : 3 ≤ E) (d : Nat) (hd : E + 1 ≤ d) (R : Option Nat → Int32 → Int32 → Hp → Option (Int32 × Hp)) (HR : ∀ (d : Nat) (a0 : Option Nat) (a1 : Int32) (a2 : Int32) (h : Hp) (r : Int32 × Hp), E ≤ d → R a0 a1 a2 h = some r → Rn d 297 0 [some (va_rf a0), some (.int a1), some (.int a2), none, none, none, none] [] h (some (.int r.1), r.2)) (v0 : Option Nat) (v1 : Int32) (v2 : Int32) (v3 : Int32) (v4 : Int32) (v5 : Int32)  (h : Hp) (r : Int32 × Hp) (hb : b_297_112 R   h = some r) : Rn d 297 112 [some (va_rf v0), some (.int v1), some (.int v2), some (.int v3), some (.int v4), some (.int v5), none] [] h (some (.int r.1), r.2) := by
  unfold b_297_112 at hb
  refine rn_iconst (x := (nI 1)) rfl (by decide) ?_
  refine rn_goto rfl rfl ?_
  exact u_297_117 E hE d hd R HR v0 v1 v2 v3 v4 v5 (nI 1) h _ hb
def b_297_102 (R : Option Nat → Int32 → Int32 → Hp → Option (Int32 × Hp)) (v0 : Option Nat) (v2 : Int32) (v5 : Int32)  (h : Hp) : Option (Int32 × Hp) :=
  (grd (rC 11 v0 h)).bind fun _ =>
  (R v0 v5 v2 h).bind fun p1 =>
  if p1.1 = 0 then b_297_116 R   p1.2 else b_297_112 R   p1.2
theorem u_297_102 (E : Nat) (hE : 3 ≤ E) (d : Nat) (hd : E + 1 ≤ d) (R : Option Nat → Int32 → Int32 → Hp → Option (Int32 × Hp)) (HR : ∀ (d : Nat) (a0 : Option Nat) (a1 : Int32) (a2 : Int32) (h : Hp) (r : Int32 × Hp), E ≤ d → R a0 a1 a2 h = some r → Rn d 297 0 [some (va_rf a0), some (.int a1), some (.int a2), none, none, none, none] [] h (some (.int r.1), r.2)) (v0 : Option Nat) (v1 : Int32) (v2 : Int32) (v3 : Int32) (v4 : Int32) (v5 : Int32)  (h : Hp) (r : Int32 × Hp) (hb : b_297_102 R v0 v2 v5  h = some r) : Rn d 297 102 [some (va_rf v0), some (.int v1), some (.int v2), some (.int v3), some (.int v4), some (.int v5), none] [] h (some (.int r.1), r.2) := by
  unfold b_297_102 at hb
  obtain ⟨e, rfl⟩ : ∃ e, d = e + 1 := ⟨d - 1, by omega⟩
  refine rn_aload_n (i := 0) rfl rfl ?_
  refine rn_iload (i := 5) rfl rfl ?_
  refine rn_iload_n (i := 2) rfl rfl ?_
  obtain ⟨hrc, hb⟩ := grd_spec hb
  obtain ⟨p1, hc, hb⟩ := Option.bind_eq_some_iff.mp hb
  refine Rn.call1 (d := e) (As := [va_rf v0, .int v5, .int v2]) (rest := []) rfl rfl rfl (by decide) rfl rfl rfl (bd_rcV hrc rfl) (by decide) (bd_lenC (n := 7) rfl (bd_slR (bd_slI (bd_slI bd_slN))) rfl) (bd_locC (n := 7) rfl (bd_slR (bd_slI (bd_slI bd_slN))) rfl (HR e v0 v5 v2 h _ (by omega) hc)) ?_
  refine rn_if_eq rfl rfl (fun hc => ?_) (fun hc => ?_)
  · exact u_297_116 E hE (e + 1) hd R HR v0 v1 v2 v3 v4 v5  p1.2 _ (if_t hb hc)
  · exact u_297_112 E hE (e + 1) hd R HR v0 v1 v2 v3 v4 v5  p1.2 _ (if_f hb hc)
def b_297_92 (R : Option Nat → Int32 → Int32 → Hp → Option (Int32 × Hp)) (v0 : Option Nat) (v2 : Int32) (v4 : Int32) (v5 : Int32)  (h : Hp) : Option (Int32 × Hp) :=
  (grd (rC 11 v0 h)).bind fun _ =>
  (R v0 v4 v2 h).bind fun p1 =>
  if p1.1 = 0 then b_297_116 R   p1.2 else b_297_102 R v0 v2 v5  p1.2
theorem u_297_92 (E : Nat) (hE : 3 ≤ E) (d : Nat) (hd : E + 1 ≤ d) (R : Option Nat → Int32 → Int32 → Hp → Option (Int32 × Hp)) (HR : ∀ (d : Nat) (a0 : Option Nat) (a1 : Int32) (a2 : Int32) (h : Hp) (r : Int32 × Hp), E ≤ d → R a0 a1 a2 h = some r → Rn d 297 0 [some (va_rf a0), some (.int a1), some (.int a2), none, none, none, none] [] h (some (.int r.1), r.2)) (v0 : Option Nat) (v1 : Int32) (v2 : Int32) (v3 : Int32) (v4 : Int32) (v5 : Int32)  (h : Hp) (r : Int32 × Hp) (hb : b_297_92 R v0 v2 v4 v5  h = some r) : Rn d 297 92 [some (va_rf v0), some (.int v1), some (.int v2), some (.int v3), some (.int v4), some (.int v5), none] [] h (some (.int r.1), r.2) := by
  unfold b_297_92 at hb
  obtain ⟨e, rfl⟩ : ∃ e, d = e + 1 := ⟨d - 1, by omega⟩
  refine rn_aload_n (i := 0) rfl rfl ?_
  refine rn_iload (i := 4) rfl rfl ?_
  refine rn_iload_n (i := 2) rfl rfl ?_
  obtain ⟨hrc, hb⟩ := grd_spec hb
  obtain ⟨p1, hc, hb⟩ := Option.bind_eq_some_iff.mp hb
  refine Rn.call1 (d := e) (As := [va_rf v0, .int v4, .int v2]) (rest := []) rfl rfl rfl (by decide) rfl rfl rfl (bd_rcV hrc rfl) (by decide) (bd_lenC (n := 7) rfl (bd_slR (bd_slI (bd_slI bd_slN))) rfl) (bd_locC (n := 7) rfl (bd_slR (bd_slI (bd_slI bd_slN))) rfl (HR e v0 v4 v2 h _ (by omega) hc)) ?_
  refine rn_if_eq rfl rfl (fun hc => ?_) (fun hc => ?_)
  · exact u_297_116 E hE (e + 1) hd R HR v0 v1 v2 v3 v4 v5  p1.2 _ (if_t hb hc)
  · exact u_297_102 E hE (e + 1) hd R HR v0 v1 v2 v3 v4 v5  p1.2 _ (if_f hb hc)
def b_297_143 (R : Option Nat → Int32 → Int32 → Hp → Option (Int32 × Hp))  (s0 : Int32) (h : Hp) : Option (Int32 × Hp) :=
  (grd (decide (s0 = 0 ∨ s0 = 1))).bind fun _ => some (s0, h)
theorem u_297_143 (E : Nat) (hE : 3 ≤ E) (d : Nat) (hd : E + 1 ≤ d) (R : Option Nat → Int32 → Int32 → Hp → Option (Int32 × Hp)) (HR : ∀ (d : Nat) (a0 : Option Nat) (a1 : Int32) (a2 : Int32) (h : Hp) (r : Int32 × Hp), E ≤ d → R a0 a1 a2 h = some r → Rn d 297 0 [some (va_rf a0), some (.int a1), some (.int a2), none, none, none, none] [] h (some (.int r.1), r.2)) (v0 : Option Nat) (v1 : Int32) (v2 : Int32) (v3 : Int32) (v4 : Int32) (v5 : Int32) (s0 : Int32) (h : Hp) (r : Int32 × Hp) (hb : b_297_143 R  s0 h = some r) : Rn d 297 143 [some (va_rf v0), some (.int v1), some (.int v2), some (.int v3), some (.int v4), some (.int v5), none] [.int s0] h (some (.int r.1), r.2) := by
  unfold b_297_143 at hb
  obtain ⟨hz, hb⟩ := grd_spec hb
  obtain rfl := Option.some.inj hb
  exact rn_zret rfl rfl (of_decide_eq_true hz)
def b_297_138 (R : Option Nat → Int32 → Int32 → Hp → Option (Int32 × Hp))   (h : Hp) : Option (Int32 × Hp) :=
  b_297_143 R  (nI 1) h
theorem u_297_138 (E : Nat) (hE : 3 ≤ E) (d : Nat) (hd : E + 1 ≤ d) (R : Option Nat → Int32 → Int32 → Hp → Option (Int32 × Hp)) (HR : ∀ (d : Nat) (a0 : Option Nat) (a1 : Int32) (a2 : Int32) (h : Hp) (r : Int32 × Hp), E ≤ d → R a0 a1 a2 h = some r → Rn d 297 0 [some (va_rf a0), some (.int a1), some (.int a2), none, none, none, none] [] h (some (.int r.1), r.2)) (v0 : Option Nat) (v1 : Int32) (v2 : Int32) (v3 : Int32) (v4 : Int32) (v5 : Int32)  (h : Hp) (r : Int32 × Hp) (hb : b_297_138 R   h = some r) : Rn d 297 138 [some (va_rf v0), some (.int v1), some (.int v2), some (.int v3), some (.int v4), some (.int v5), none] [] h (some (.int r.1), r.2) := by
  unfold b_297_138 at hb
  refine rn_iconst (x := (nI 1)) rfl (by decide) ?_
  refine rn_goto rfl rfl ?_
  exact u_297_143 E hE d hd R HR v0 v1 v2 v3 v4 v5 (nI 1) h _ hb
def b_297_142 (R : Option Nat → Int32 → Int32 → Hp → Option (Int32 × Hp))   (h : Hp) : Option (Int32 × Hp) :=
  b_297_143 R  (nI 0) h
theorem u_297_142 (E : Nat) (hE : 3 ≤ E) (d : Nat) (hd : E + 1 ≤ d) (R : Option Nat → Int32 → Int32 → Hp → Option (Int32 × Hp)) (HR : ∀ (d : Nat) (a0 : Option Nat) (a1 : Int32) (a2 : Int32) (h : Hp) (r : Int32 × Hp), E ≤ d → R a0 a1 a2 h = some r → Rn d 297 0 [some (va_rf a0), some (.int a1), some (.int a2), none, none, none, none] [] h (some (.int r.1), r.2)) (v0 : Option Nat) (v1 : Int32) (v2 : Int32) (v3 : Int32) (v4 : Int32) (v5 : Int32)  (h : Hp) (r : Int32 × Hp) (hb : b_297_142 R   h = some r) : Rn d 297 142 [some (va_rf v0), some (.int v1), some (.int v2), some (.int v3), some (.int v4), some (.int v5), none] [] h (some (.int r.1), r.2) := by
  unfold b_297_142 at hb
  refine rn_iconst (x := (nI 0)) rfl (by decide) ?_
  exact u_297_143 E hE d hd R HR v0 v1 v2 v3 v4 v5 (nI 0) h _ hb
def b_297_128 (R : Option Nat → Int32 → Int32 → Hp → Option (Int32 × Hp)) (v0 : Option Nat) (v2 : Int32) (v5 : Int32)  (h : Hp) : Option (Int32 × Hp) :=
  (grd (rC 11 v0 h)).bind fun _ =>
  (R v0 v5 v2 h).bind fun p1 =>
  if p1.1 = 0 then b_297_142 R   p1.2 else b_297_138 R   p1.2
theorem u_297_128 (E : Nat) (hE : 3 ≤ E) (d : Nat) (hd : E + 1 ≤ d) (R : Option Nat → Int32 → Int32 → Hp → Option (Int32 × Hp)) (HR : ∀ (d : Nat) (a0 : Option Nat) (a1 : Int32) (a2 : Int32) (h : Hp) (r : Int32 × Hp), E ≤ d → R a0 a1 a2 h = some r → Rn d 297 0 [some (va_rf a0), some (.int a1), some (.int a2), none, none, none, none] [] h (some (.int r.1), r.2)) (v0 : Option Nat) (v1 : Int32) (v2 : Int32) (v3 : Int32) (v4 : Int32) (v5 : Int32)  (h : Hp) (r : Int32 × Hp) (hb : b_297_128 R v0 v2 v5  h = some r) : Rn d 297 128 [some (va_rf v0), some (.int v1), some (.int v2), some (.int v3), some (.int v4), some (.int v5), none] [] h (some (.int r.1), r.2) := by
  unfold b_297_128 at hb
  obtain ⟨e, rfl⟩ : ∃ e, d = e + 1 := ⟨d - 1, by omega⟩
  refine rn_aload_n (i := 0) rfl rfl ?_
  refine rn_iload (i := 5) rfl rfl ?_
  refine rn_iload_n (i := 2) rfl rfl ?_
  obtain ⟨hrc, hb⟩ := grd_spec hb
  obtain ⟨p1, hc, hb⟩ := Option.bind_eq_some_iff.mp hb
  refine Rn.call1 (d := e) (As := [va_rf v0, .int v5, .int v2]) (rest := []) rfl rfl rfl (by decide) rfl rfl rfl (bd_rcV hrc rfl) (by decide) (bd_lenC (n := 7) rfl (bd_slR (bd_slI (bd_slI bd_slN))) rfl) (bd_locC (n := 7) rfl (bd_slR (bd_slI (bd_slI bd_slN))) rfl (HR e v0 v5 v2 h _ (by omega) hc)) ?_
  refine rn_if_eq rfl rfl (fun hc => ?_) (fun hc => ?_)
  · exact u_297_142 E hE (e + 1) hd R HR v0 v1 v2 v3 v4 v5  p1.2 _ (if_t hb hc)
  · exact u_297_138 E hE (e + 1) hd R HR v0 v1 v2 v3 v4 v5  p1.2 _ (if_f hb hc)
def b_297_118 (R : Option Nat → Int32 → Int32 → Hp → Option (Int32 × Hp)) (v0 : Option Nat) (v2 : Int32) (v4 : Int32) (v5 : Int32)  (h : Hp) : Option (Int32 × Hp) :=
  (grd (rC 11 v0 h)).bind fun _ =>
  (R v0 v4 v2 h).bind fun p1 =>
  if ¬ p1.1 = 0 then b_297_138 R   p1.2 else b_297_128 R v0 v2 v5  p1.2
theorem u_297_118 (E : Nat) (hE : 3 ≤ E) (d : Nat) (hd : E + 1 ≤ d) (R : Option Nat → Int32 → Int32 → Hp → Option (Int32 × Hp)) (HR : ∀ (d : Nat) (a0 : Option Nat) (a1 : Int32) (a2 : Int32) (h : Hp) (r : Int32 × Hp), E ≤ d → R a0 a1 a2 h = some r → Rn d 297 0 [some (va_rf a0), some (.int a1), some (.int a2), none, none, none, none] [] h (some (.int r.1), r.2)) (v0 : Option Nat) (v1 : Int32) (v2 : Int32) (v3 : Int32) (v4 : Int32) (v5 : Int32)  (h : Hp) (r : Int32 × Hp) (hb : b_297_118 R v0 v2 v4 v5  h = some r) : Rn d 297 118 [some (va_rf v0), some (.int v1), some (.int v2), some (.int v3), some (.int v4), some (.int v5), none] [] h (some (.int r.1), r.2) := by
  unfold b_297_118 at hb
  obtain ⟨e, rfl⟩ : ∃ e, d = e + 1 := ⟨d - 1, by omega⟩
  refine rn_aload_n (i := 0) rfl rfl ?_
  refine rn_iload (i := 4) rfl rfl ?_
  refine rn_iload_n (i := 2) rfl rfl ?_
  obtain ⟨hrc, hb⟩ := grd_spec hb
  obtain ⟨p1, hc, hb⟩ := Option.bind_eq_some_iff.mp hb
  refine Rn.call1 (d := e) (As := [va_rf v0, .int v4, .int v2]) (rest := []) rfl rfl rfl (by decide) rfl rfl rfl (bd_rcV hrc rfl) (by decide) (bd_lenC (n := 7) rfl (bd_slR (bd_slI (bd_slI bd_slN))) rfl) (bd_locC (n := 7) rfl (bd_slR (bd_slI (bd_slI bd_slN))) rfl (HR e v0 v4 v2 h _ (by omega) hc)) ?_
  refine rn_if_ne rfl rfl (fun hc => ?_) (fun hc => ?_)
  · exact u_297_138 E hE (e + 1) hd R HR v0 v1 v2 v3 v4 v5  p1.2 _ (if_t hb hc)
  · exact u_297_128 E hE (e + 1) hd R HR v0 v1 v2 v3 v4 v5  p1.2 _ (if_f hb hc)
def b_297_158 (R : Option Nat → Int32 → Int32 → Hp → Option (Int32 × Hp))  (s0 : Int32) (h : Hp) : Option (Int32 × Hp) :=
  (grd (decide (s0 = 0 ∨ s0 = 1))).bind fun _ => some (s0, h)
theorem u_297_158 (E : Nat) (hE : 3 ≤ E) (d : Nat) (hd : E + 1 ≤ d) (R : Option Nat → Int32 → Int32 → Hp → Option (Int32 × Hp)) (HR : ∀ (d : Nat) (a0 : Option Nat) (a1 : Int32) (a2 : Int32) (h : Hp) (r : Int32 × Hp), E ≤ d → R a0 a1 a2 h = some r → Rn d 297 0 [some (va_rf a0), some (.int a1), some (.int a2), none, none, none, none] [] h (some (.int r.1), r.2)) (v0 : Option Nat) (v1 : Int32) (v2 : Int32) (v3 : Int32) (v4 : Int32) (v5 : Int32) (s0 : Int32) (h : Hp) (r : Int32 × Hp) (hb : b_297_158 R  s0 h = some r) : Rn d 297 158 [some (va_rf v0), some (.int v1), some (.int v2), some (.int v3), some (.int v4), some (.int v5), none] [.int s0] h (some (.int r.1), r.2) := by
  unfold b_297_158 at hb
  obtain ⟨hz, hb⟩ := grd_spec hb
  obtain rfl := Option.some.inj hb
  exact rn_zret rfl rfl (of_decide_eq_true hz)
def b_297_157 (R : Option Nat → Int32 → Int32 → Hp → Option (Int32 × Hp))   (h : Hp) : Option (Int32 × Hp) :=
  b_297_158 R  (nI 0) h
theorem u_297_157 (E : Nat) (hE : 3 ≤ E) (d : Nat) (hd : E + 1 ≤ d) (R : Option Nat → Int32 → Int32 → Hp → Option (Int32 × Hp)) (HR : ∀ (d : Nat) (a0 : Option Nat) (a1 : Int32) (a2 : Int32) (h : Hp) (r : Int32 × Hp), E ≤ d → R a0 a1 a2 h = some r → Rn d 297 0 [some (va_rf a0), some (.int a1), some (.int a2), none, none, none, none] [] h (some (.int r.1), r.2)) (v0 : Option Nat) (v1 : Int32) (v2 : Int32) (v3 : Int32) (v4 : Int32) (v5 : Int32)  (h : Hp) (r : Int32 × Hp) (hb : b_297_157 R   h = some r) : Rn d 297 157 [some (va_rf v0), some (.int v1), some (.int v2), some (.int v3), some (.int v4), some (.int v5), none] [] h (some (.int r.1), r.2) := by
  unfold b_297_157 at hb
  refine rn_iconst (x := (nI 0)) rfl (by decide) ?_
  exact u_297_158 E hE d hd R HR v0 v1 v2 v3 v4 v5 (nI 0) h _ hb
def b_297_153 (R : Option Nat → Int32 → Int32 → Hp → Option (Int32 × Hp))   (h : Hp) : Option (Int32 × Hp) :=
  b_297_158 R  (nI 1) h
theorem u_297_153 (E : Nat) (hE : 3 ≤ E) (d : Nat) (hd : E + 1 ≤ d) (R : Option Nat → Int32 → Int32 → Hp → Option (Int32 × Hp)) (HR : ∀ (d : Nat) (a0 : Option Nat) (a1 : Int32) (a2 : Int32) (h : Hp) (r : Int32 × Hp), E ≤ d → R a0 a1 a2 h = some r → Rn d 297 0 [some (va_rf a0), some (.int a1), some (.int a2), none, none, none, none] [] h (some (.int r.1), r.2)) (v0 : Option Nat) (v1 : Int32) (v2 : Int32) (v3 : Int32) (v4 : Int32) (v5 : Int32)  (h : Hp) (r : Int32 × Hp) (hb : b_297_153 R   h = some r) : Rn d 297 153 [some (va_rf v0), some (.int v1), some (.int v2), some (.int v3), some (.int v4), some (.int v5), none] [] h (some (.int r.1), r.2) := by
  unfold b_297_153 at hb
  refine rn_iconst (x := (nI 1)) rfl (by decide) ?_
  refine rn_goto rfl rfl ?_
  exact u_297_158 E hE d hd R HR v0 v1 v2 v3 v4 v5 (nI 1) h _ hb
def b_297_144 (R : Option Nat → Int32 → Int32 → Hp → Option (Int32 × Hp)) (v0 : Option Nat) (v2 : Int32)  (h : Hp) : Option (Int32 × Hp) :=
  (gQ 11 43 v0 h).bind fun x1 =>
  (aI 12 x1 v2 h).bind fun x2 =>
  if x2 ≤ 0 then b_297_157 R   h else b_297_153 R   h
theorem u_297_144 (E : Nat) (hE : 3 ≤ E) (d : Nat) (hd : E + 1 ≤ d) (R : Option Nat → Int32 → Int32 → Hp → Option (Int32 × Hp)) (HR : ∀ (d : Nat) (a0 : Option Nat) (a1 : Int32) (a2 : Int32) (h : Hp) (r : Int32 × Hp), E ≤ d → R a0 a1 a2 h = some r → Rn d 297 0 [some (va_rf a0), some (.int a1), some (.int a2), none, none, none, none] [] h (some (.int r.1), r.2)) (v0 : Option Nat) (v1 : Int32) (v2 : Int32) (v3 : Int32) (v4 : Int32) (v5 : Int32)  (h : Hp) (r : Int32 × Hp) (hb : b_297_144 R v0 v2  h = some r) : Rn d 297 144 [some (va_rf v0), some (.int v1), some (.int v2), some (.int v3), some (.int v4), some (.int v5), none] [] h (some (.int r.1), r.2) := by
  unfold b_297_144 at hb
  refine rn_aload_n (i := 0) rfl rfl ?_
  refine rn_gQ (c := 11) (k := 43) rfl (by decide) hb (fun x1 hb => ?_)
  refine rn_iload_n (i := 2) rfl rfl ?_
  refine rn_aI rfl hb (fun x2 hb => ?_)
  refine rn_if_le rfl rfl (fun hc => ?_) (fun hc => ?_)
  · exact u_297_157 E hE d hd R HR v0 v1 v2 v3 v4 v5  h _ (if_t hb hc)
  · exact u_297_153 E hE d hd R HR v0 v1 v2 v3 v4 v5  h _ (if_f hb hc)
def b_297_159 (R : Option Nat → Int32 → Int32 → Hp → Option (Int32 × Hp)) (v0 : Option Nat) (v2 : Int32)  (h : Hp) : Option (Int32 × Hp) :=
  (grd (rC 11 v0 h)).bind fun _ =>
  (f_205 v0 v2 (nI 4) h).bind fun p1 =>
  (grd (rC 11 v0 p1.2)).bind fun _ =>
  (f_223 v0 v2 p1.1 p1.2).bind fun p2 =>
  (grd (decide (p2.1 = 0 ∨ p2.1 = 1))).bind fun _ => some (p2.1, p2.2)
theorem u_297_159 (E : Nat) (hE : 3 ≤ E) (d : Nat) (hd : E + 1 ≤ d) (R : Option Nat → Int32 → Int32 → Hp → Option (Int32 × Hp)) (HR : ∀ (d : Nat) (a0 : Option Nat) (a1 : Int32) (a2 : Int32) (h : Hp) (r : Int32 × Hp), E ≤ d → R a0 a1 a2 h = some r → Rn d 297 0 [some (va_rf a0), some (.int a1), some (.int a2), none, none, none, none] [] h (some (.int r.1), r.2)) (v0 : Option Nat) (v1 : Int32) (v2 : Int32) (v3 : Int32) (v4 : Int32) (v5 : Int32)  (h : Hp) (r : Int32 × Hp) (hb : b_297_159 R v0 v2  h = some r) : Rn d 297 159 [some (va_rf v0), some (.int v1), some (.int v2), some (.int v3), some (.int v4), some (.int v5), none] [] h (some (.int r.1), r.2) := by
  unfold b_297_159 at hb
  obtain ⟨e, rfl⟩ : ∃ e, d = e + 1 := ⟨d - 1, by omega⟩
  refine rn_aload_n (i := 0) rfl rfl ?_
  refine rn_iload_n (i := 2) rfl rfl ?_
  refine rn_aload_n (i := 0) rfl rfl ?_
  refine rn_iload_n (i := 2) rfl rfl ?_
  refine rn_iconst (x := (nI 4)) rfl (by decide) ?_
  obtain ⟨hrc, hb⟩ := grd_spec hb
  obtain ⟨p1, hc, hb⟩ := Option.bind_eq_some_iff.mp hb
  refine Rn.call1 (d := e) (As := [va_rf v0, .int v2, .int (nI 4)]) (rest := [.int v2, va_rf v0]) rfl rfl rfl (by decide) rfl rfl rfl (bd_rcV hrc rfl) (by rw [bd_cI (bd_cR (bd_cN))]; decide) (bd_lenC (n := 3) rfl (bd_slR (bd_slI (bd_slI bd_slN))) rfl) (bd_locC (n := 3) rfl (bd_slR (bd_slI (bd_slI bd_slN))) rfl (t_205 e (by omega) v0 v2 (nI 4) h _ hc)) ?_
  obtain ⟨hrc, hb⟩ := grd_spec hb
  obtain ⟨p2, hc, hb⟩ := Option.bind_eq_some_iff.mp hb
  refine Rn.call1 (d := e) (As := [va_rf v0, .int v2, .int p1.1]) (rest := []) rfl rfl rfl (by decide) rfl rfl rfl (bd_rcV hrc rfl) (by decide) (bd_lenC (n := 3) rfl (bd_slR (bd_slI (bd_slI bd_slN))) rfl) (bd_locC (n := 3) rfl (bd_slR (bd_slI (bd_slI bd_slN))) rfl (t_223 e (by omega) v0 v2 p1.1 p1.2 _ hc)) ?_
  obtain ⟨hz, hb⟩ := grd_spec hb
  obtain rfl := Option.some.inj hb
  exact rn_zret rfl rfl (of_decide_eq_true hz)
def b_297_171 (R : Option Nat → Int32 → Int32 → Hp → Option (Int32 × Hp)) (v0 : Option Nat) (v2 : Int32)  (h : Hp) : Option (Int32 × Hp) :=
  (grd (rC 11 v0 h)).bind fun _ =>
  (f_256 v0 v2 h).bind fun p1 =>
  (grd (decide (p1.1 = 0 ∨ p1.1 = 1))).bind fun _ => some (p1.1, p1.2)
theorem u_297_171 (E : Nat) (hE : 3 ≤ E) (d : Nat) (hd : E + 1 ≤ d) (R : Option Nat → Int32 → Int32 → Hp → Option (Int32 × Hp)) (HR : ∀ (d : Nat) (a0 : Option Nat) (a1 : Int32) (a2 : Int32) (h : Hp) (r : Int32 × Hp), E ≤ d → R a0 a1 a2 h = some r → Rn d 297 0 [some (va_rf a0), some (.int a1), some (.int a2), none, none, none, none] [] h (some (.int r.1), r.2)) (v0 : Option Nat) (v1 : Int32) (v2 : Int32) (v3 : Int32) (v4 : Int32) (v5 : Int32)  (h : Hp) (r : Int32 × Hp) (hb : b_297_171 R v0 v2  h = some r) : Rn d 297 171 [some (va_rf v0), some (.int v1), some (.int v2), some (.int v3), some (.int v4), some (.int v5), none] [] h (some (.int r.1), r.2) := by
  unfold b_297_171 at hb
  obtain ⟨e, rfl⟩ : ∃ e, d = e + 1 := ⟨d - 1, by omega⟩
  refine rn_aload_n (i := 0) rfl rfl ?_
  refine rn_iload_n (i := 2) rfl rfl ?_
  obtain ⟨hrc, hb⟩ := grd_spec hb
  obtain ⟨p1, hc, hb⟩ := Option.bind_eq_some_iff.mp hb
  refine Rn.call1 (d := e) (As := [va_rf v0, .int v2]) (rest := []) rfl rfl rfl (by decide) rfl rfl rfl (bd_rcV hrc rfl) (by decide) (bd_lenC (n := 6) rfl (bd_slR (bd_slI bd_slN)) rfl) (bd_locC (n := 6) rfl (bd_slR (bd_slI bd_slN)) rfl (t_256 e (by omega) v0 v2 h _ hc)) ?_
  obtain ⟨hz, hb⟩ := grd_spec hb
  obtain rfl := Option.some.inj hb
  exact rn_zret rfl rfl (of_decide_eq_true hz)
def b_297_211 (R : Option Nat → Int32 → Int32 → Hp → Option (Int32 × Hp))  (s0 : Int32) (h : Hp) : Option (Int32 × Hp) :=
  (grd (decide (s0 = 0 ∨ s0 = 1))).bind fun _ => some (s0, h)
theorem u_297_211 (E : Nat) (hE : 3 ≤ E) (d : Nat) (hd : E + 1 ≤ d) (R : Option Nat → Int32 → Int32 → Hp → Option (Int32 × Hp)) (HR : ∀ (d : Nat) (a0 : Option Nat) (a1 : Int32) (a2 : Int32) (h : Hp) (r : Int32 × Hp), E ≤ d → R a0 a1 a2 h = some r → Rn d 297 0 [some (va_rf a0), some (.int a1), some (.int a2), none, none, none, none] [] h (some (.int r.1), r.2)) (v0 : Option Nat) (v1 : Int32) (v2 : Int32) (v3 : Int32) (v4 : Int32) (v5 : Int32) (s0 : Int32) (h : Hp) (r : Int32 × Hp) (hb : b_297_211 R  s0 h = some r) : Rn d 297 211 [some (va_rf v0), some (.int v1), some (.int v2), some (.int v3), some (.int v4), some (.int v5), none] [.int s0] h (some (.int r.1), r.2) := by
  unfold b_297_211 at hb
  obtain ⟨hz, hb⟩ := grd_spec hb
  obtain rfl := Option.some.inj hb
  exact rn_zret rfl rfl (of_decide_eq_true hz)
def b_297_210 (R : Option Nat → Int32 → Int32 → Hp → Option (Int32 × Hp))   (h : Hp) : Option (Int32 × Hp) :=
  b_297_211 R  (nI 0) h
theorem u_297_210 (E : Nat) (hE : 3 ≤ E) (d : Nat) (hd : E + 1 ≤ d) (R : Option Nat → Int32 → Int32 → Hp → Option (Int32 × Hp)) (HR : ∀ (d : Nat) (a0 : Option Nat) (a1 : Int32) (a2 : Int32) (h : Hp) (r : Int32 × Hp), E ≤ d → R a0 a1 a2 h = some r → Rn d 297 0 [some (va_rf a0), some (.int a1), some (.int a2), none, none, none, none] [] h (some (.int r.1), r.2)) (v0 : Option Nat) (v1 : Int32) (v2 : Int32) (v3 : Int32) (v4 : Int32) (v5 : Int32)  (h : Hp) (r : Int32 × Hp) (hb : b_297_210 R   h = some r) : Rn d 297 210 [some (va_rf v0), some (.int v1), some (.int v2), some (.int v3), some (.int v4), some (.int v5), none] [] h (some (.int r.1), r.2) := by
  unfold b_297_210 at hb
  refine rn_iconst (x := (nI 0)) rfl (by decide) ?_
  exact u_297_211 E hE d hd R HR v0 v1 v2 v3 v4 v5 (nI 0) h _ hb
def b_297_206 (R : Option Nat → Int32 → Int32 → Hp → Option (Int32 × Hp))   (h : Hp) : Option (Int32 × Hp) :=
  b_297_211 R  (nI 1) h
theorem u_297_206 (E : Nat) (hE : 3 ≤ E) (d : Nat) (hd : E + 1 ≤ d) (R : Option Nat → Int32 → Int32 → Hp → Option (Int32 × Hp)) (HR : ∀ (d : Nat) (a0 : Option Nat) (a1 : Int32) (a2 : Int32) (h : Hp) (r : Int32 × Hp), E ≤ d → R a0 a1 a2 h = some r → Rn d 297 0 [some (va_rf a0), some (.int a1), some (.int a2), none, none, none, none] [] h (some (.int r.1), r.2)) (v0 : Option Nat) (v1 : Int32) (v2 : Int32) (v3 : Int32) (v4 : Int32) (v5 : Int32)  (h : Hp) (r : Int32 × Hp) (hb : b_297_206 R   h = some r) : Rn d 297 206 [some (va_rf v0), some (.int v1), some (.int v2), some (.int v3), some (.int v4), some (.int v5), none] [] h (some (.int r.1), r.2) := by
  unfold b_297_206 at hb
  refine rn_iconst (x := (nI 1)) rfl (by decide) ?_
  refine rn_goto rfl rfl ?_
  exact u_297_211 E hE d hd R HR v0 v1 v2 v3 v4 v5 (nI 1) h _ hb
def b_297_183 (R : Option Nat → Int32 → Int32 → Hp → Option (Int32 × Hp)) (v0 : Option Nat) (v2 : Int32) (v4 : Int32)  (h : Hp) : Option (Int32 × Hp) :=
  (grd (rC 11 v0 h)).bind fun _ =>
  (f_205 v0 v2 (nI 4) h).bind fun p1 =>
  (grd (rC 11 v0 p1.2)).bind fun _ =>
  (f_205 v0 v4 (nI 4) p1.2).bind fun p2 =>
  (grd (rC 11 v0 p2.2)).bind fun _ =>
  (f_227 v0 v2 p1.1 v4 p2.1 p2.2).bind fun p3 =>
  if p3.1 = 0 then b_297_210 R   p3.2 else b_297_206 R   p3.2
theorem u_297_183 (E : Nat) (hE : 3 ≤ E) (d : Nat) (hd : E + 1 ≤ d) (R : Option Nat → Int32 → Int32 → Hp → Option (Int32 × Hp)) (HR : ∀ (d : Nat) (a0 : Option Nat) (a1 : Int32) (a2 : Int32) (h : Hp) (r : Int32 × Hp), E ≤ d → R a0 a1 a2 h = some r → Rn d 297 0 [some (va_rf a0), some (.int a1), some (.int a2), none, none, none, none] [] h (some (.int r.1), r.2)) (v0 : Option Nat) (v1 : Int32) (v2 : Int32) (v3 : Int32) (v4 : Int32) (v5 : Int32)  (h : Hp) (r : Int32 × Hp) (hb : b_297_183 R v0 v2 v4  h = some r) : Rn d 297 183 [some (va_rf v0), some (.int v1), some (.int v2), some (.int v3), some (.int v4), some (.int v5), none] [] h (some (.int r.1), r.2) := by
  unfold b_297_183 at hb
  obtain ⟨e, rfl⟩ : ∃ e, d = e + 1 := ⟨d - 1, by omega⟩
  refine rn_aload_n (i := 0) rfl rfl ?_
  refine rn_iload_n (i := 2) rfl rfl ?_
  refine rn_aload_n (i := 0) rfl rfl ?_
  refine rn_iload_n (i := 2) rfl rfl ?_
  refine rn_iconst (x := (nI 4)) rfl (by decide) ?_
  obtain ⟨hrc, hb⟩ := grd_spec hb
  obtain ⟨p1, hc, hb⟩ := Option.bind_eq_some_iff.mp hb
  refine Rn.call1 (d := e) (As := [va_rf v0, .int v2, .int (nI 4)]) (rest := [.int v2, va_rf v0]) rfl rfl rfl (by decide) rfl rfl rfl (bd_rcV hrc rfl) (by rw [bd_cI (bd_cR (bd_cN))]; decide) (bd_lenC (n := 3) rfl (bd_slR (bd_slI (bd_slI bd_slN))) rfl) (bd_locC (n := 3) rfl (bd_slR (bd_slI (bd_slI bd_slN))) rfl (t_205 e (by omega) v0 v2 (nI 4) h _ hc)) ?_
  refine rn_iload (i := 4) rfl rfl ?_
  refine rn_aload_n (i := 0) rfl rfl ?_
  refine rn_iload (i := 4) rfl rfl ?_
  refine rn_iconst (x := (nI 4)) rfl (by decide) ?_
  obtain ⟨hrc, hb⟩ := grd_spec hb
  obtain ⟨p2, hc, hb⟩ := Option.bind_eq_some_iff.mp hb
  refine Rn.call1 (d := e) (As := [va_rf v0, .int v4, .int (nI 4)]) (rest := [.int v4, .int p1.1, .int v2, va_rf v0]) rfl rfl rfl (by decide) rfl rfl rfl (bd_rcV hrc rfl) (by rw [bd_cI (bd_cI (bd_cI (bd_cR (bd_cN))))]; decide) (bd_lenC (n := 3) rfl (bd_slR (bd_slI (bd_slI bd_slN))) rfl) (bd_locC (n := 3) rfl (bd_slR (bd_slI (bd_slI bd_slN))) rfl (t_205 e (by omega) v0 v4 (nI 4) p1.2 _ hc)) ?_
  obtain ⟨hrc, hb⟩ := grd_spec hb
  obtain ⟨p3, hc, hb⟩ := Option.bind_eq_some_iff.mp hb
  refine Rn.call1 (d := e) (As := [va_rf v0, .int v2, .int p1.1, .int v4, .int p2.1]) (rest := []) rfl rfl rfl (by decide) rfl rfl rfl (bd_rcV hrc rfl) (by decide) (bd_lenC (n := 5) rfl (bd_slR (bd_slI (bd_slI (bd_slI (bd_slI bd_slN))))) rfl) (bd_locC (n := 5) rfl (bd_slR (bd_slI (bd_slI (bd_slI (bd_slI bd_slN))))) rfl (t_227 e (by omega) v0 v2 p1.1 v4 p2.1 p2.2 _ hc)) ?_
  refine rn_if_eq rfl rfl (fun hc => ?_) (fun hc => ?_)
  · exact u_297_210 E hE (e + 1) hd R HR v0 v1 v2 v3 v4 v5  p3.2 _ (if_t hb hc)
  · exact u_297_206 E hE (e + 1) hd R HR v0 v1 v2 v3 v4 v5  p3.2 _ (if_f hb hc)
def b_297_177 (R : Option Nat → Int32 → Int32 → Hp → Option (Int32 × Hp)) (v0 : Option Nat) (v2 : Int32) (v4 : Int32)  (h : Hp) : Option (Int32 × Hp) :=
  if v4 = v2 then b_297_210 R   h else b_297_183 R v0 v2 v4  h
theorem u_297_177 (E : Nat) (hE : 3 ≤ E) (d : Nat) (hd : E + 1 ≤ d) (R : Option Nat → Int32 → Int32 → Hp → Option (Int32 × Hp)) (HR : ∀ (d : Nat) (a0 : Option Nat) (a1 : Int32) (a2 : Int32) (h : Hp) (r : Int32 × Hp), E ≤ d → R a0 a1 a2 h = some r → Rn d 297 0 [some (va_rf a0), some (.int a1), some (.int a2), none, none, none, none] [] h (some (.int r.1), r.2)) (v0 : Option Nat) (v1 : Int32) (v2 : Int32) (v3 : Int32) (v4 : Int32) (v5 : Int32)  (h : Hp) (r : Int32 × Hp) (hb : b_297_177 R v0 v2 v4  h = some r) : Rn d 297 177 [some (va_rf v0), some (.int v1), some (.int v2), some (.int v3), some (.int v4), some (.int v5), none] [] h (some (.int r.1), r.2) := by
  unfold b_297_177 at hb
  refine rn_iload (i := 4) rfl rfl ?_
  refine rn_iload_n (i := 2) rfl rfl ?_
  refine rn_icmp_eq rfl rfl (fun hc => ?_) (fun hc => ?_)
  · exact u_297_210 E hE d hd R HR v0 v1 v2 v3 v4 v5  h _ (if_t hb hc)
  · exact u_297_183 E hE d hd R HR v0 v1 v2 v3 v4 v5  h _ (if_f hb hc)
def b_297_293 (R : Option Nat → Int32 → Int32 → Hp → Option (Int32 × Hp))  (s0 : Int32) (h : Hp) : Option (Int32 × Hp) :=
  (grd (decide (s0 = 0 ∨ s0 = 1))).bind fun _ => some (s0, h)
theorem u_297_293 (E : Nat) (hE : 3 ≤ E) (d : Nat) (hd : E + 1 ≤ d) (R : Option Nat → Int32 → Int32 → Hp → Option (Int32 × Hp)) (HR : ∀ (d : Nat) (a0 : Option Nat) (a1 : Int32) (a2 : Int32) (h : Hp) (r : Int32 × Hp), E ≤ d → R a0 a1 a2 h = some r → Rn d 297 0 [some (va_rf a0), some (.int a1), some (.int a2), none, none, none, none] [] h (some (.int r.1), r.2)) (v0 : Option Nat) (v1 : Int32) (v2 : Int32) (v3 : Int32) (v4 : Int32) (v5 : Int32) (v6 : Int32) (s0 : Int32) (h : Hp) (r : Int32 × Hp) (hb : b_297_293 R  s0 h = some r) : Rn d 297 293 [some (va_rf v0), some (.int v1), some (.int v2), some (.int v3), some (.int v4), some (.int v5), some (.int v6)] [.int s0] h (some (.int r.1), r.2) := by
  unfold b_297_293 at hb
  obtain ⟨hz, hb⟩ := grd_spec hb
  obtain rfl := Option.some.inj hb
  exact rn_zret rfl rfl (of_decide_eq_true hz)
def b_297_292 (R : Option Nat → Int32 → Int32 → Hp → Option (Int32 × Hp))   (h : Hp) : Option (Int32 × Hp) :=
  b_297_293 R  (nI 0) h
theorem u_297_292 (E : Nat) (hE : 3 ≤ E) (d : Nat) (hd : E + 1 ≤ d) (R : Option Nat → Int32 → Int32 → Hp → Option (Int32 × Hp)) (HR : ∀ (d : Nat) (a0 : Option Nat) (a1 : Int32) (a2 : Int32) (h : Hp) (r : Int32 × Hp), E ≤ d → R a0 a1 a2 h = some r → Rn d 297 0 [some (va_rf a0), some (.int a1), some (.int a2), none, none, none, none] [] h (some (.int r.1), r.2)) (v0 : Option Nat) (v1 : Int32) (v2 : Int32) (v3 : Int32) (v4 : Int32) (v5 : Int32) (v6 : Int32)  (h : Hp) (r : Int32 × Hp) (hb : b_297_292 R   h = some r) : Rn d 297 292 [some (va_rf v0), some (.int v1), some (.int v2), some (.int v3), some (.int v4), some (.int v5), some (.int v6)] [] h (some (.int r.1), r.2) := by
  unfold b_297_292 at hb
  refine rn_iconst (x := (nI 0)) rfl (by decide) ?_
  exact u_297_293 E hE d hd R HR v0 v1 v2 v3 v4 v5 v6 (nI 0) h _ hb
def b_297_288 (R : Option Nat → Int32 → Int32 → Hp → Option (Int32 × Hp))   (h : Hp) : Option (Int32 × Hp) :=
  b_297_293 R  (nI 1) h
theorem u_297_288 (E : Nat) (hE : 3 ≤ E) (d : Nat) (hd : E + 1 ≤ d) (R : Option Nat → Int32 → Int32 → Hp → Option (Int32 × Hp)) (HR : ∀ (d : Nat) (a0 : Option Nat) (a1 : Int32) (a2 : Int32) (h : Hp) (r : Int32 × Hp), E ≤ d → R a0 a1 a2 h = some r → Rn d 297 0 [some (va_rf a0), some (.int a1), some (.int a2), none, none, none, none] [] h (some (.int r.1), r.2)) (v0 : Option Nat) (v1 : Int32) (v2 : Int32) (v3 : Int32) (v4 : Int32) (v5 : Int32) (v6 : Int32)  (h : Hp) (r : Int32 × Hp) (hb : b_297_288 R   h = some r) : Rn d 297 288 [some (va_rf v0), some (.int v1), some (.int v2), some (.int v3), some (.int v4), some (.int v5), some (.int v6)] [] h (some (.int r.1), r.2) := by
  unfold b_297_288 at hb
  refine rn_iconst (x := (nI 1)) rfl (by decide) ?_
  refine rn_goto rfl rfl ?_
  exact u_297_293 E hE d hd R HR v0 v1 v2 v3 v4 v5 v6 (nI 1) h _ hb
def b_297_281 (R : Option Nat → Int32 → Int32 → Hp → Option (Int32 × Hp)) (v5 : Int32) (v6 : Int32)  (h : Hp) : Option (Int32 × Hp) :=
  if v6 ≤ v5 then b_297_292 R   h else b_297_288 R   h
theorem u_297_281 (E : Nat) (hE : 3 ≤ E) (d : Nat) (hd : E + 1 ≤ d) (R : Option Nat → Int32 → Int32 → Hp → Option (Int32 × Hp)) (HR : ∀ (d : Nat) (a0 : Option Nat) (a1 : Int32) (a2 : Int32) (h : Hp) (r : Int32 × Hp), E ≤ d → R a0 a1 a2 h = some r → Rn d 297 0 [some (va_rf a0), some (.int a1), some (.int a2), none, none, none, none] [] h (some (.int r.1), r.2)) (v0 : Option Nat) (v1 : Int32) (v2 : Int32) (v3 : Int32) (v4 : Int32) (v5 : Int32) (v6 : Int32)  (h : Hp) (r : Int32 × Hp) (hb : b_297_281 R v5 v6  h = some r) : Rn d 297 281 [some (va_rf v0), some (.int v1), some (.int v2), some (.int v3), some (.int v4), some (.int v5), some (.int v6)] [] h (some (.int r.1), r.2) := by
  unfold b_297_281 at hb
  refine rn_iload (i := 6) rfl rfl ?_
  refine rn_iload (i := 5) rfl rfl ?_
  refine rn_icmp_le rfl rfl (fun hc => ?_) (fun hc => ?_)
  · exact u_297_292 E hE d hd R HR v0 v1 v2 v3 v4 v5 v6  h _ (if_t hb hc)
  · exact u_297_288 E hE d hd R HR v0 v1 v2 v3 v4 v5 v6  h _ (if_f hb hc)
def b_297_277 (R : Option Nat → Int32 → Int32 → Hp → Option (Int32 × Hp))   (h : Hp) : Option (Int32 × Hp) :=
  b_297_293 R  (nI 0) h
theorem u_297_277 (E : Nat) (hE : 3 ≤ E) (d : Nat) (hd : E + 1 ≤ d) (R : Option Nat → Int32 → Int32 → Hp → Option (Int32 × Hp)) (HR : ∀ (d : Nat) (a0 : Option Nat) (a1 : Int32) (a2 : Int32) (h : Hp) (r : Int32 × Hp), E ≤ d → R a0 a1 a2 h = some r → Rn d 297 0 [some (va_rf a0), some (.int a1), some (.int a2), none, none, none, none] [] h (some (.int r.1), r.2)) (v0 : Option Nat) (v1 : Int32) (v2 : Int32) (v3 : Int32) (v4 : Int32) (v5 : Int32) (v6 : Int32)  (h : Hp) (r : Int32 × Hp) (hb : b_297_277 R   h = some r) : Rn d 297 277 [some (va_rf v0), some (.int v1), some (.int v2), some (.int v3), some (.int v4), some (.int v5), some (.int v6)] [] h (some (.int r.1), r.2) := by
  unfold b_297_277 at hb
  refine rn_iconst (x := (nI 0)) rfl (by decide) ?_
  refine rn_goto rfl rfl ?_
  exact u_297_293 E hE d hd R HR v0 v1 v2 v3 v4 v5 v6 (nI 0) h _ hb
def b_297_273 (R : Option Nat → Int32 → Int32 → Hp → Option (Int32 × Hp))   (h : Hp) : Option (Int32 × Hp) :=
  b_297_293 R  (nI 1) h
theorem u_297_273 (E : Nat) (hE : 3 ≤ E) (d : Nat) (hd : E + 1 ≤ d) (R : Option Nat → Int32 → Int32 → Hp → Option (Int32 × Hp)) (HR : ∀ (d : Nat) (a0 : Option Nat) (a1 : Int32) (a2 : Int32) (h : Hp) (r : Int32 × Hp), E ≤ d → R a0 a1 a2 h = some r → Rn d 297 0 [some (va_rf a0), some (.int a1), some (.int a2), none, none, none, none] [] h (some (.int r.1), r.2)) (v0 : Option Nat) (v1 : Int32) (v2 : Int32) (v3 : Int32) (v4 : Int32) (v5 : Int32) (v6 : Int32)  (h : Hp) (r : Int32 × Hp) (hb : b_297_273 R   h = some r) : Rn d 297 273 [some (va_rf v0), some (.int v1), some (.int v2), some (.int v3), some (.int v4), some (.int v5), some (.int v6)] [] h (some (.int r.1), r.2) := by
  unfold b_297_273 at hb
  refine rn_iconst (x := (nI 1)) rfl (by decide) ?_
  refine rn_goto rfl rfl ?_
  exact u_297_293 E hE d hd R HR v0 v1 v2 v3 v4 v5 v6 (nI 1) h _ hb
def b_297_266 (R : Option Nat → Int32 → Int32 → Hp → Option (Int32 × Hp)) (v5 : Int32) (v6 : Int32)  (h : Hp) : Option (Int32 × Hp) :=
  if ¬ v6 = v5 then b_297_277 R   h else b_297_273 R   h
theorem u_297_266 (E : Nat) (hE : 3 ≤ E) (d : Nat) (hd : E + 1 ≤ d) (R : Option Nat → Int32 → Int32 → Hp → Option (Int32 × Hp)) (HR : ∀ (d : Nat) (a0 : Option Nat) (a1 : Int32) (a2 : Int32) (h : Hp) (r : Int32 × Hp), E ≤ d → R a0 a1 a2 h = some r → Rn d 297 0 [some (va_rf a0), some (.int a1), some (.int a2), none, none, none, none] [] h (some (.int r.1), r.2)) (v0 : Option Nat) (v1 : Int32) (v2 : Int32) (v3 : Int32) (v4 : Int32) (v5 : Int32) (v6 : Int32)  (h : Hp) (r : Int32 × Hp) (hb : b_297_266 R v5 v6  h = some r) : Rn d 297 266 [some (va_rf v0), some (.int v1), some (.int v2), some (.int v3), some (.int v4), some (.int v5), some (.int v6)] [] h (some (.int r.1), r.2) := by
  unfold b_297_266 at hb
  refine rn_iload (i := 6) rfl rfl ?_
  refine rn_iload (i := 5) rfl rfl ?_
  refine rn_icmp_ne rfl rfl (fun hc => ?_) (fun hc => ?_)
  · exact u_297_277 E hE d hd R HR v0 v1 v2 v3 v4 v5 v6  h _ (if_t hb hc)
  · exact u_297_273 E hE d hd R HR v0 v1 v2 v3 v4 v5 v6  h _ (if_f hb hc)
def b_297_253 (R : Option Nat → Int32 → Int32 → Hp → Option (Int32 × Hp)) (v0 : Option Nat) (v3 : Int32) (v5 : Int32) (v6 : Int32)  (h : Hp) : Option (Int32 × Hp) :=
  (gQ 11 14 v0 h).bind fun x1 =>
  (aI 12 x1 (v3 + (nI 3)) h).bind fun x2 =>
  if ¬ x2 = (nI 61) then b_297_281 R v5 v6  h else b_297_266 R v5 v6  h
theorem u_297_253 (E : Nat) (hE : 3 ≤ E) (d : Nat) (hd : E + 1 ≤ d) (R : Option Nat → Int32 → Int32 → Hp → Option (Int32 × Hp)) (HR : ∀ (d : Nat) (a0 : Option Nat) (a1 : Int32) (a2 : Int32) (h : Hp) (r : Int32 × Hp), E ≤ d → R a0 a1 a2 h = some r → Rn d 297 0 [some (va_rf a0), some (.int a1), some (.int a2), none, none, none, none] [] h (some (.int r.1), r.2)) (v0 : Option Nat) (v1 : Int32) (v2 : Int32) (v3 : Int32) (v4 : Int32) (v5 : Int32) (v6 : Int32)  (h : Hp) (r : Int32 × Hp) (hb : b_297_253 R v0 v3 v5 v6  h = some r) : Rn d 297 253 [some (va_rf v0), some (.int v1), some (.int v2), some (.int v3), some (.int v4), some (.int v5), some (.int v6)] [] h (some (.int r.1), r.2) := by
  unfold b_297_253 at hb
  refine rn_aload_n (i := 0) rfl rfl ?_
  refine rn_gQ (c := 11) (k := 14) rfl (by decide) hb (fun x1 hb => ?_)
  refine rn_iload_n (i := 3) rfl rfl ?_
  refine rn_iconst (x := (nI 3)) rfl (by decide) ?_
  refine rn_iadd rfl ?_
  refine rn_aI rfl hb (fun x2 hb => ?_)
  refine rn_bipush (x := (nI 61)) rfl (by decide) ?_
  refine rn_icmp_ne rfl rfl (fun hc => ?_) (fun hc => ?_)
  · exact u_297_281 E hE d hd R HR v0 v1 v2 v3 v4 v5 v6  h _ (if_t hb hc)
  · exact u_297_266 E hE d hd R HR v0 v1 v2 v3 v4 v5 v6  h _ (if_f hb hc)
def b_297_249 (R : Option Nat → Int32 → Int32 → Hp → Option (Int32 × Hp))   (h : Hp) : Option (Int32 × Hp) :=
  b_297_293 R  (nI 0) h
theorem u_297_249 (E : Nat) (hE : 3 ≤ E) (d : Nat) (hd : E + 1 ≤ d) (R : Option Nat → Int32 → Int32 → Hp → Option (Int32 × Hp)) (HR : ∀ (d : Nat) (a0 : Option Nat) (a1 : Int32) (a2 : Int32) (h : Hp) (r : Int32 × Hp), E ≤ d → R a0 a1 a2 h = some r → Rn d 297 0 [some (va_rf a0), some (.int a1), some (.int a2), none, none, none, none] [] h (some (.int r.1), r.2)) (v0 : Option Nat) (v1 : Int32) (v2 : Int32) (v3 : Int32) (v4 : Int32) (v5 : Int32) (v6 : Int32)  (h : Hp) (r : Int32 × Hp) (hb : b_297_249 R   h = some r) : Rn d 297 249 [some (va_rf v0), some (.int v1), some (.int v2), some (.int v3), some (.int v4), some (.int v5), some (.int v6)] [] h (some (.int r.1), r.2) := by
  unfold b_297_249 at hb
  refine rn_iconst (x := (nI 0)) rfl (by decide) ?_
  refine rn_goto rfl rfl ?_
  exact u_297_293 E hE d hd R HR v0 v1 v2 v3 v4 v5 v6 (nI 0) h _ hb
def b_297_245 (R : Option Nat → Int32 → Int32 → Hp → Option (Int32 × Hp))   (h : Hp) : Option (Int32 × Hp) :=
  b_297_293 R  (nI 1) h
theorem u_297_245 (E : Nat) (hE : 3 ≤ E) (d : Nat) (hd : E + 1 ≤ d) (R : Option Nat → Int32 → Int32 → Hp → Option (Int32 × Hp)) (HR : ∀ (d : Nat) (a0 : Option Nat) (a1 : Int32) (a2 : Int32) (h : Hp) (r : Int32 × Hp), E ≤ d → R a0 a1 a2 h = some r → Rn d 297 0 [some (va_rf a0), some (.int a1), some (.int a2), none, none, none, none] [] h (some (.int r.1), r.2)) (v0 : Option Nat) (v1 : Int32) (v2 : Int32) (v3 : Int32) (v4 : Int32) (v5 : Int32) (v6 : Int32)  (h : Hp) (r : Int32 × Hp) (hb : b_297_245 R   h = some r) : Rn d 297 245 [some (va_rf v0), some (.int v1), some (.int v2), some (.int v3), some (.int v4), some (.int v5), some (.int v6)] [] h (some (.int r.1), r.2) := by
  unfold b_297_245 at hb
  refine rn_iconst (x := (nI 1)) rfl (by decide) ?_
  refine rn_goto rfl rfl ?_
  exact u_297_293 E hE d hd R HR v0 v1 v2 v3 v4 v5 v6 (nI 1) h _ hb
def b_297_238 (R : Option Nat → Int32 → Int32 → Hp → Option (Int32 × Hp)) (v5 : Int32) (v6 : Int32)  (h : Hp) : Option (Int32 × Hp) :=
  if v5 ≤ v6 then b_297_249 R   h else b_297_245 R   h
theorem u_297_238 (E : Nat) (hE : 3 ≤ E) (d : Nat) (hd : E + 1 ≤ d) (R : Option Nat → Int32 → Int32 → Hp → Option (Int32 × Hp)) (HR : ∀ (d : Nat) (a0 : Option Nat) (a1 : Int32) (a2 : Int32) (h : Hp) (r : Int32 × Hp), E ≤ d → R a0 a1 a2 h = some r → Rn d 297 0 [some (va_rf a0), some (.int a1), some (.int a2), none, none, none, none] [] h (some (.int r.1), r.2)) (v0 : Option Nat) (v1 : Int32) (v2 : Int32) (v3 : Int32) (v4 : Int32) (v5 : Int32) (v6 : Int32)  (h : Hp) (r : Int32 × Hp) (hb : b_297_238 R v5 v6  h = some r) : Rn d 297 238 [some (va_rf v0), some (.int v1), some (.int v2), some (.int v3), some (.int v4), some (.int v5), some (.int v6)] [] h (some (.int r.1), r.2) := by
  unfold b_297_238 at hb
  refine rn_iload (i := 6) rfl rfl ?_
  refine rn_iload (i := 5) rfl rfl ?_
  refine rn_icmp_ge rfl rfl (fun hc => ?_) (fun hc => ?_)
  · exact u_297_249 E hE d hd R HR v0 v1 v2 v3 v4 v5 v6  h _ (if_t hb hc)
  · exact u_297_245 E hE d hd R HR v0 v1 v2 v3 v4 v5 v6  h _ (if_f hb hc)
def b_297_212 (R : Option Nat → Int32 → Int32 → Hp → Option (Int32 × Hp)) (v0 : Option Nat) (v2 : Int32) (v3 : Int32) (v5 : Int32)  (h : Hp) : Option (Int32 × Hp) :=
  (gQ 11 14 v0 h).bind fun x1 =>
  (aI 12 x1 v3 h).bind fun x2 =>
  (grd (rC 11 v0 h)).bind fun _ =>
  (f_296 v0 x2 v2 h).bind fun p3 =>
  bnd (p3.1) fun x4 =>
  (gQ 11 14 v0 p3.2).bind fun x5 =>
  (aI 12 x5 (v3 + (nI 3)) p3.2).bind fun x6 =>
  if ¬ x6 = (nI 60) then b_297_253 R v0 v3 v5 x4  p3.2 else b_297_238 R v5 x4  p3.2
theorem u_297_212 (E : Nat) (hE : 3 ≤ E) (d : Nat) (hd : E + 1 ≤ d) (R : Option Nat → Int32 → Int32 → Hp → Option (Int32 × Hp)) (HR : ∀ (d : Nat) (a0 : Option Nat) (a1 : Int32) (a2 : Int32) (h : Hp) (r : Int32 × Hp), E ≤ d → R a0 a1 a2 h = some r → Rn d 297 0 [some (va_rf a0), some (.int a1), some (.int a2), none, none, none, none] [] h (some (.int r.1), r.2)) (v0 : Option Nat) (v1 : Int32) (v2 : Int32) (v3 : Int32) (v4 : Int32) (v5 : Int32)  (h : Hp) (r : Int32 × Hp) (hb : b_297_212 R v0 v2 v3 v5  h = some r) : Rn d 297 212 [some (va_rf v0), some (.int v1), some (.int v2), some (.int v3), some (.int v4), some (.int v5), none] [] h (some (.int r.1), r.2) := by
  unfold b_297_212 at hb
  obtain ⟨e, rfl⟩ : ∃ e, d = e + 1 := ⟨d - 1, by omega⟩
  refine rn_aload_n (i := 0) rfl rfl ?_
  refine rn_aload_n (i := 0) rfl rfl ?_
  refine rn_gQ (c := 11) (k := 14) rfl (by decide) hb (fun x1 hb => ?_)
  refine rn_iload_n (i := 3) rfl rfl ?_
  refine rn_aI rfl hb (fun x2 hb => ?_)
  refine rn_iload_n (i := 2) rfl rfl ?_
  obtain ⟨hrc, hb⟩ := grd_spec hb
  obtain ⟨p3, hc, hb⟩ := Option.bind_eq_some_iff.mp hb
  refine Rn.call1 (d := e) (As := [va_rf v0, .int x2, .int v2]) (rest := []) rfl rfl rfl (by decide) rfl rfl rfl (bd_rcV hrc rfl) (by decide) (bd_lenC (n := 4) rfl (bd_slR (bd_slI (bd_slI bd_slN))) rfl) (bd_locC (n := 4) rfl (bd_slR (bd_slI (bd_slI bd_slN))) rfl (t_296 e (by omega) v0 x2 v2 h _ hc)) ?_
  obtain ⟨x4, ex4, hb⟩ := bnd_spec hb
  refine rn_istore (i := 6) (L1 := [some (va_rf v0), some (.int v1), some (.int v2), some (.int v3), some (.int v4), some (.int v5), some (.int x4)]) rfl (Nat.le_of_ble_eq_true rfl) (Or.inr rfl) (by rw [ex4]; rfl) ?_
  refine rn_aload_n (i := 0) rfl rfl ?_
  refine rn_gQ (c := 11) (k := 14) rfl (by decide) hb (fun x5 hb => ?_)
  refine rn_iload_n (i := 3) rfl rfl ?_
  refine rn_iconst (x := (nI 3)) rfl (by decide) ?_
  refine rn_iadd rfl ?_
  refine rn_aI rfl hb (fun x6 hb => ?_)
  refine rn_bipush (x := (nI 60)) rfl (by decide) ?_
  refine rn_icmp_ne rfl rfl (fun hc => ?_) (fun hc => ?_)
  · exact u_297_253 E hE (e + 1) hd R HR v0 v1 v2 v3 v4 v5 x4  p3.2 _ (if_t hb hc)
  · exact u_297_238 E hE (e + 1) hd R HR v0 v1 v2 v3 v4 v5 x4  p3.2 _ (if_f hb hc)
def b_297_0 (R : Option Nat → Int32 → Int32 → Hp → Option (Int32 × Hp)) (v0 : Option Nat) (v1 : Int32) (v2 : Int32)  (h : Hp) : Option (Int32 × Hp) :=
  bnd (((nI 464) + ((nI 4) * v1))) fun x1 =>
  (gQ 11 14 v0 h).bind fun x2 =>
  (aI 12 x2 (x1 + (nI 1)) h).bind fun x3 =>
  (gQ 11 14 v0 h).bind fun x4 =>
  (aI 12 x4 (x1 + (nI 2)) h).bind fun x5 =>
  (gQ 11 14 v0 h).bind fun x6 =>
  (aI 12 x6 x1 h).bind fun x7 =>
  if x7 = nI 1 then b_297_76 R v0 v2 x3  h else if x7 = nI 2 then b_297_92 R v0 v2 x3 x5  h else if x7 = nI 3 then b_297_118 R v0 v2 x3 x5  h else if x7 = nI 4 then b_297_144 R v0 v2  h else if x7 = nI 5 then b_297_159 R v0 v2  h else if x7 = nI 6 then b_297_171 R v0 v2  h else if x7 = nI 7 then b_297_177 R v0 v2 x3  h else b_297_212 R v0 v2 x1 x5  h
theorem u_297_0 (E : Nat) (hE : 3 ≤ E) (d : Nat) (hd : E + 1 ≤ d) (R : Option Nat → Int32 → Int32 → Hp → Option (Int32 × Hp)) (HR : ∀ (d : Nat) (a0 : Option Nat) (a1 : Int32) (a2 : Int32) (h : Hp) (r : Int32 × Hp), E ≤ d → R a0 a1 a2 h = some r → Rn d 297 0 [some (va_rf a0), some (.int a1), some (.int a2), none, none, none, none] [] h (some (.int r.1), r.2)) (v0 : Option Nat) (v1 : Int32) (v2 : Int32)  (h : Hp) (r : Int32 × Hp) (hb : b_297_0 R v0 v1 v2  h = some r) : Rn d 297 0 [some (va_rf v0), some (.int v1), some (.int v2), none, none, none, none] [] h (some (.int r.1), r.2) := by
  unfold b_297_0 at hb
  refine rn_sipush (x := (nI 464)) rfl (by decide) ?_
  refine rn_iconst (x := (nI 4)) rfl (by decide) ?_
  refine rn_iload_n (i := 1) rfl rfl ?_
  refine rn_imul rfl ?_
  refine rn_iadd rfl ?_
  obtain ⟨x1, ex1, hb⟩ := bnd_spec hb
  refine rn_istore_n (i := 3) (L1 := [some (va_rf v0), some (.int v1), some (.int v2), some (.int x1), none, none, none]) rfl (Nat.le_of_ble_eq_true rfl) (Or.inr rfl) (by rw [ex1]; rfl) ?_
  refine rn_aload_n (i := 0) rfl rfl ?_
  refine rn_gQ (c := 11) (k := 14) rfl (by decide) hb (fun x2 hb => ?_)
  refine rn_iload_n (i := 3) rfl rfl ?_
  refine rn_iconst (x := (nI 1)) rfl (by decide) ?_
  refine rn_iadd rfl ?_
  refine rn_aI rfl hb (fun x3 hb => ?_)
  refine rn_istore (i := 4) (L1 := [some (va_rf v0), some (.int v1), some (.int v2), some (.int x1), some (.int x3), none, none]) rfl (Nat.le_of_ble_eq_true rfl) (Or.inr rfl) rfl ?_
  refine rn_aload_n (i := 0) rfl rfl ?_
  refine rn_gQ (c := 11) (k := 14) rfl (by decide) hb (fun x4 hb => ?_)
  refine rn_iload_n (i := 3) rfl rfl ?_
  refine rn_iconst (x := (nI 2)) rfl (by decide) ?_
  refine rn_iadd rfl ?_
  refine rn_aI rfl hb (fun x5 hb => ?_)
  refine rn_istore (i := 5) (L1 := [some (va_rf v0), some (.int v1), some (.int v2), some (.int x1), some (.int x3), some (.int x5), none]) rfl (Nat.le_of_ble_eq_true rfl) (Or.inr rfl) rfl ?_
  refine rn_aload_n (i := 0) rfl rfl ?_
  refine rn_gQ (c := 11) (k := 14) rfl (by decide) hb (fun x6 hb => ?_)
  refine rn_iload_n (i := 3) rfl rfl ?_
  refine rn_aI rfl hb (fun x7 hb => ?_)
  by_cases hc1 : x7 = nI 1
  · rw [if_pos hc1] at hb; refine rn_tsw (t := 76) rfl (by rw [hc1]; decide) ?_; exact u_297_76 E hE d hd R HR v0 v1 v2 x1 x3 x5  h _ hb
  rw [if_neg hc1] at hb
  by_cases hc2 : x7 = nI 2
  · rw [if_pos hc2] at hb; refine rn_tsw (t := 92) rfl (by rw [hc2]; decide) ?_; exact u_297_92 E hE d hd R HR v0 v1 v2 x1 x3 x5  h _ hb
  rw [if_neg hc2] at hb
  by_cases hc3 : x7 = nI 3
  · rw [if_pos hc3] at hb; refine rn_tsw (t := 118) rfl (by rw [hc3]; decide) ?_; exact u_297_118 E hE d hd R HR v0 v1 v2 x1 x3 x5  h _ hb
  rw [if_neg hc3] at hb
  by_cases hc4 : x7 = nI 4
  · rw [if_pos hc4] at hb; refine rn_tsw (t := 144) rfl (by rw [hc4]; decide) ?_; exact u_297_144 E hE d hd R HR v0 v1 v2 x1 x3 x5  h _ hb
  rw [if_neg hc4] at hb
  by_cases hc5 : x7 = nI 5
  · rw [if_pos hc5] at hb; refine rn_tsw (t := 159) rfl (by rw [hc5]; decide) ?_; exact u_297_159 E hE d hd R HR v0 v1 v2 x1 x3 x5  h _ hb
  rw [if_neg hc5] at hb
  by_cases hc6 : x7 = nI 6
  · rw [if_pos hc6] at hb; refine rn_tsw (t := 171) rfl (by rw [hc6]; decide) ?_; exact u_297_171 E hE d hd R HR v0 v1 v2 x1 x3 x5  h _ hb
  rw [if_neg hc6] at hb
  by_cases hc7 : x7 = nI 7
  · rw [if_pos hc7] at hb; refine rn_tsw (t := 177) rfl (by rw [hc7]; decide) ?_; exact u_297_177 E hE d hd R HR v0 v1 v2 x1 x3 x5  h _ hb
  rw [if_neg hc7] at hb
  have z1 := sw_ne hc1 (by decide)
  have z2 := sw_ne hc2 (by decide)
  have z3 := sw_ne hc3 (by decide)
  have z4 := sw_ne hc4 (by decide)
  have z5 := sw_ne hc5 (by decide)
  have z6 := sw_ne hc6 (by decide)
  have z7 := sw_ne hc7 (by decide)
  refine rn_tsw (t := 212) rfl (swT_d (by omega) rfl) ?_
  exact u_297_212 E hE d hd R HR v0 v1 v2 x1 x3 x5  h _ hb
/-- BitingDoorsModel.isSo(II)Z -/
def F_297 (R : Option Nat → Int32 → Int32 → Hp → Option (Int32 × Hp)) (v0 : Option Nat) (v1 : Int32) (v2 : Int32) (h : Hp) : Option (Int32 × Hp) := b_297_0 R v0 v1 v2 h
theorem t0_297 (E : Nat) (hE : 3 ≤ E) (d : Nat) (hd : E + 1 ≤ d) (R : Option Nat → Int32 → Int32 → Hp → Option (Int32 × Hp)) (HR : ∀ (d : Nat) (a0 : Option Nat) (a1 : Int32) (a2 : Int32) (h : Hp) (r : Int32 × Hp), E ≤ d → R a0 a1 a2 h = some r → Rn d 297 0 [some (va_rf a0), some (.int a1), some (.int a2), none, none, none, none] [] h (some (.int r.1), r.2)) (v0 : Option Nat) (v1 : Int32) (v2 : Int32) (h : Hp) (r : Int32 × Hp) (hb : F_297 R v0 v1 v2 h = some r) : Rn d 297 0 [some (va_rf v0), some (.int v1), some (.int v2), none, none, none, none] [] h (some (.int r.1), r.2) := by
  unfold F_297 at hb
  exact u_297_0 E hE d hd R HR v0 v1 v2 h r hb
def f_297 : Nat → Option Nat → Int32 → Int32 → Hp → Option (Int32 × Hp)
  | 0, _, _, _, _ => none
  | n + 1, v0, v1, v2, h => F_297 (f_297 n) v0 v1 v2 h
theorem t_297 : ∀ (n d : Nat), 1 * n + 3 ≤ d → ∀ (v0 : Option Nat) (v1 : Int32) (v2 : Int32) (h : Hp) (r : Int32 × Hp), f_297 n v0 v1 v2 h = some r → Rn d 297 0 [some (va_rf v0), some (.int v1), some (.int v2), none, none, none, none] [] h (some (.int r.1), r.2) := by
  intro n
  induction n with
  | zero => intro d hd v0 v1 v2 h r hb; cases hb
  | succ n ih => intro d hd v0 v1 v2 h r hb; exact t0_297 (1 * n + 3) (by omega) d (by omega) (f_297 n) (fun d v0 v1 v2 h r hd hb => ih d hd v0 v1 v2 h r hb) v0 v1 v2 h r hb
def b_298_70 (v1 : Int32)  (h : Hp) : Option (Int32 × Hp) :=
  some (v1, h)
theorem u_298_70 (d : Nat) (hd : 70 ≤ d) (v0 : Option Nat) (v1 : Int32) (v2 : Int32)  (h : Hp) (r : Int32 × Hp) (hb : b_298_70 v1  h = some r) : Rn d 298 70 [some (va_rf v0), some (.int v1), some (.int v2)] [] h (some (.int r.1), r.2) := by
  unfold b_298_70 at hb
  refine rn_iload_n (i := 1) rfl rfl ?_
  obtain rfl := Option.some.inj hb
  exact rn_iret rfl rfl
def b_298_64 (k34 : Option Nat → Int32 → Int32 → Hp → Option (Int32 × Hp)) (v0 : Option Nat) (v1 : Int32) (v2 : Int32)  (h : Hp) : Option (Int32 × Hp) :=
  bnd (v2 + (nI 1)) fun x1 =>
  k34 v0 v1 x1 h
theorem u_298_64 (d : Nat) (hd : 70 ≤ d) (k34 : Option Nat → Int32 → Int32 → Hp → Option (Int32 × Hp)) (K34 : ∀ (v0 : Option Nat) (v1 : Int32) (v2 : Int32) (h : Hp) (r : Int32 × Hp), k34 v0 v1 v2 h = some r → Rn d 298 34 [some (va_rf v0), some (.int v1), some (.int v2)] [] h (some (.int r.1), r.2)) (v0 : Option Nat) (v1 : Int32) (v2 : Int32)  (h : Hp) (r : Int32 × Hp) (hb : b_298_64 k34 v0 v1 v2  h = some r) : Rn d 298 64 [some (va_rf v0), some (.int v1), some (.int v2)] [] h (some (.int r.1), r.2) := by
  unfold b_298_64 at hb
  obtain ⟨x1, ex1, hb⟩ := bnd_spec hb
  refine rn_iinc (i := 2) (y := x1) (L1 := [some (va_rf v0), some (.int v1), some (.int x1)]) rfl rfl (Nat.le_of_ble_eq_true rfl) (Or.inr rfl) (by rw [ex1]; rfl) rfl ?_
  refine rn_goto rfl rfl ?_
  exact K34 v0 v1 x1 h _ hb
def b_298_58 (k34 : Option Nat → Int32 → Int32 → Hp → Option (Int32 × Hp)) (v0 : Option Nat) (v1 : Int32) (v2 : Int32)  (h : Hp) : Option (Int32 × Hp) :=
  bnd ((v1 ||| ((nI 1) <<< (v2 &&& 31)))) fun x1 =>
  b_298_64 k34 v0 x1 v2  h
theorem u_298_58 (d : Nat) (hd : 70 ≤ d) (k34 : Option Nat → Int32 → Int32 → Hp → Option (Int32 × Hp)) (K34 : ∀ (v0 : Option Nat) (v1 : Int32) (v2 : Int32) (h : Hp) (r : Int32 × Hp), k34 v0 v1 v2 h = some r → Rn d 298 34 [some (va_rf v0), some (.int v1), some (.int v2)] [] h (some (.int r.1), r.2)) (v0 : Option Nat) (v1 : Int32) (v2 : Int32)  (h : Hp) (r : Int32 × Hp) (hb : b_298_58 k34 v0 v1 v2  h = some r) : Rn d 298 58 [some (va_rf v0), some (.int v1), some (.int v2)] [] h (some (.int r.1), r.2) := by
  unfold b_298_58 at hb
  refine rn_iload_n (i := 1) rfl rfl ?_
  refine rn_iconst (x := (nI 1)) rfl (by decide) ?_
  refine rn_iload_n (i := 2) rfl rfl ?_
  refine rn_ishl rfl ?_
  refine rn_ior rfl ?_
  obtain ⟨x1, ex1, hb⟩ := bnd_spec hb
  refine rn_istore_n (i := 1) (L1 := [some (va_rf v0), some (.int x1), some (.int v2)]) rfl (Nat.le_of_ble_eq_true rfl) (Or.inr (bd_wideR rfl)) (by rw [ex1]; rfl) ?_
  exact u_298_64 d hd k34 K34 v0 x1 v2  h _ hb
def b_298_42 (k34 : Option Nat → Int32 → Int32 → Hp → Option (Int32 × Hp)) (v0 : Option Nat) (v1 : Int32) (v2 : Int32)  (h : Hp) : Option (Int32 × Hp) :=
  (gQ 11 14 v0 h).bind fun x1 =>
  (aI 12 x1 (nI 463) h).bind fun x2 =>
  (grd (rC 11 v0 h)).bind fun _ =>
  (f_297 RF v0 x2 v2 h).bind fun p3 =>
  if p3.1 = 0 then b_298_64 k34 v0 v1 v2  p3.2 else b_298_58 k34 v0 v1 v2  p3.2
theorem u_298_42 (d : Nat) (hd : 70 ≤ d) (k34 : Option Nat → Int32 → Int32 → Hp → Option (Int32 × Hp)) (K34 : ∀ (v0 : Option Nat) (v1 : Int32) (v2 : Int32) (h : Hp) (r : Int32 × Hp), k34 v0 v1 v2 h = some r → Rn d 298 34 [some (va_rf v0), some (.int v1), some (.int v2)] [] h (some (.int r.1), r.2)) (v0 : Option Nat) (v1 : Int32) (v2 : Int32)  (h : Hp) (r : Int32 × Hp) (hb : b_298_42 k34 v0 v1 v2  h = some r) : Rn d 298 42 [some (va_rf v0), some (.int v1), some (.int v2)] [] h (some (.int r.1), r.2) := by
  unfold b_298_42 at hb
  obtain ⟨e, rfl⟩ : ∃ e, d = e + 1 := ⟨d - 1, by omega⟩
  refine rn_aload_n (i := 0) rfl rfl ?_
  refine rn_aload_n (i := 0) rfl rfl ?_
  refine rn_gQ (c := 11) (k := 14) rfl (by decide) hb (fun x1 hb => ?_)
  refine rn_sipush (x := (nI 463)) rfl (by decide) ?_
  refine rn_aI rfl hb (fun x2 hb => ?_)
  refine rn_iload_n (i := 2) rfl rfl ?_
  obtain ⟨hrc, hb⟩ := grd_spec hb
  obtain ⟨p3, hc, hb⟩ := Option.bind_eq_some_iff.mp hb
  refine Rn.call1 (d := e) (As := [va_rf v0, .int x2, .int v2]) (rest := []) rfl rfl rfl (by decide) rfl rfl rfl (bd_rcV hrc rfl) (by decide) (bd_lenC (n := 7) rfl (bd_slR (bd_slI (bd_slI bd_slN))) rfl) (bd_locC (n := 7) rfl (bd_slR (bd_slI (bd_slI bd_slN))) rfl (t_297 RF e (by show 1 * 64 + 3 ≤ _; omega) v0 x2 v2 h _ hc)) ?_
  refine rn_if_eq rfl rfl (fun hc => ?_) (fun hc => ?_)
  · exact u_298_64 (e + 1) hd k34 K34 v0 v1 v2  p3.2 _ (if_t hb hc)
  · exact u_298_58 (e + 1) hd k34 K34 v0 v1 v2  p3.2 _ (if_f hb hc)
def b_298_34 (k34 : Option Nat → Int32 → Int32 → Hp → Option (Int32 × Hp)) (v0 : Option Nat) (v1 : Int32) (v2 : Int32)  (h : Hp) : Option (Int32 × Hp) :=
  (grd (rC 11 v0 h)).bind fun _ =>
  (f_203 v0 h).bind fun p1 =>
  if p1.1 ≤ v2 then b_298_70 v1  p1.2 else b_298_42 k34 v0 v1 v2  p1.2
theorem u_298_34 (d : Nat) (hd : 70 ≤ d) (k34 : Option Nat → Int32 → Int32 → Hp → Option (Int32 × Hp)) (K34 : ∀ (v0 : Option Nat) (v1 : Int32) (v2 : Int32) (h : Hp) (r : Int32 × Hp), k34 v0 v1 v2 h = some r → Rn d 298 34 [some (va_rf v0), some (.int v1), some (.int v2)] [] h (some (.int r.1), r.2)) (v0 : Option Nat) (v1 : Int32) (v2 : Int32)  (h : Hp) (r : Int32 × Hp) (hb : b_298_34 k34 v0 v1 v2  h = some r) : Rn d 298 34 [some (va_rf v0), some (.int v1), some (.int v2)] [] h (some (.int r.1), r.2) := by
  unfold b_298_34 at hb
  obtain ⟨e, rfl⟩ : ∃ e, d = e + 1 := ⟨d - 1, by omega⟩
  refine rn_iload_n (i := 2) rfl rfl ?_
  refine rn_aload_n (i := 0) rfl rfl ?_
  obtain ⟨hrc, hb⟩ := grd_spec hb
  obtain ⟨p1, hc, hb⟩ := Option.bind_eq_some_iff.mp hb
  refine Rn.call1 (d := e) (As := [va_rf v0]) (rest := [.int v2]) rfl rfl rfl (by decide) rfl rfl rfl (bd_rcV hrc rfl) (by rw [bd_cI (bd_cN)]; decide) (bd_lenC (n := 1) rfl (bd_slR bd_slN) rfl) (bd_locC (n := 1) rfl (bd_slR bd_slN) rfl (t_203 e (by omega) v0 h _ hc)) ?_
  refine rn_icmp_ge rfl rfl (fun hc => ?_) (fun hc => ?_)
  · exact u_298_70 (e + 1) hd v0 v1 v2  p1.2 _ (if_t hb hc)
  · exact u_298_42 (e + 1) hd k34 K34 v0 v1 v2  p1.2 _ (if_f hb hc)
def l_298_34 : Nat → Option Nat → Int32 → Int32 → Hp → Option (Int32 × Hp)
  | 0, _, _, _, _ => none
  | n + 1, v0, v1, v2, h => b_298_34 (l_298_34 n) v0 v1 v2 h
theorem w_298_34 (d : Nat) (hd : 70 ≤ d) : ∀ (n : Nat) (v0 : Option Nat) (v1 : Int32) (v2 : Int32) (h : Hp) (r : Int32 × Hp), l_298_34 n v0 v1 v2 h = some r → Rn d 298 34 [some (va_rf v0), some (.int v1), some (.int v2)] [] h (some (.int r.1), r.2) := by
  intro n
  induction n with
  | zero => intro v0 v1 v2 h r hb; cases hb
  | succ n ih => intro v0 v1 v2 h r hb; exact u_298_34 d hd (l_298_34 n) ih v0 v1 v2 h r hb
def b_298_22 (v0 : Option Nat)  (h : Hp) : Option (Int32 × Hp) :=
  (grd (rC 11 v0 h)).bind fun _ =>
  (f_225 v0 h).bind fun p1 =>
  (grd (rC 11 v0 p1)).bind fun _ =>
  (f_253 v0 p1).bind fun p2 =>
  bnd ((nI 0)) fun x3 =>
  bnd ((nI 0)) fun x4 =>
  l_298_34 FU v0 x3 x4 p2
theorem u_298_22 (d : Nat) (hd : 70 ≤ d) (v0 : Option Nat)  (h : Hp) (r : Int32 × Hp) (hb : b_298_22 v0  h = some r) : Rn d 298 22 [some (va_rf v0), none, none] [] h (some (.int r.1), r.2) := by
  unfold b_298_22 at hb
  obtain ⟨e, rfl⟩ : ∃ e, d = e + 1 := ⟨d - 1, by omega⟩
  refine rn_aload_n (i := 0) rfl rfl ?_
  obtain ⟨hrc, hb⟩ := grd_spec hb
  obtain ⟨p1, hc, hb⟩ := Option.bind_eq_some_iff.mp hb
  refine Rn.call0 (d := e) (As := [va_rf v0]) (rest := []) rfl rfl rfl (by decide) rfl rfl rfl (bd_rcV hrc rfl) (by decide) (bd_lenC (n := 7) rfl (bd_slR bd_slN) rfl) (bd_locC (n := 7) rfl (bd_slR bd_slN) rfl (t_225 e (by omega) v0 h _ hc)) ?_
  refine rn_aload_n (i := 0) rfl rfl ?_
  obtain ⟨hrc, hb⟩ := grd_spec hb
  obtain ⟨p2, hc, hb⟩ := Option.bind_eq_some_iff.mp hb
  refine Rn.call0 (d := e) (As := [va_rf v0]) (rest := []) rfl rfl rfl (by decide) rfl rfl rfl (bd_rcV hrc rfl) (by decide) (bd_lenC (n := 2) rfl (bd_slR bd_slN) rfl) (bd_locC (n := 2) rfl (bd_slR bd_slN) rfl (t_253 e (by omega) v0 p1 _ hc)) ?_
  refine rn_iconst (x := (nI 0)) rfl (by decide) ?_
  obtain ⟨x3, ex3, hb⟩ := bnd_spec hb
  refine rn_istore_n (i := 1) (L1 := [some (va_rf v0), some (.int x3), none]) rfl (Nat.le_of_ble_eq_true rfl) (Or.inr (bd_wideR rfl)) (by rw [ex3]; rfl) ?_
  refine rn_iconst (x := (nI 0)) rfl (by decide) ?_
  obtain ⟨x4, ex4, hb⟩ := bnd_spec hb
  refine rn_istore_n (i := 2) (L1 := [some (va_rf v0), some (.int x3), some (.int x4)]) rfl (Nat.le_of_ble_eq_true rfl) (Or.inr rfl) (by rw [ex4]; rfl) ?_
  exact w_298_34 (e + 1) hd FU v0 x3 x4 p2 _ hb
def b_298_20   (h : Hp) : Option (Int32 × Hp) :=
  some ((-1 : Int32), h)
theorem u_298_20 (d : Nat) (hd : 70 ≤ d) (v0 : Option Nat)  (h : Hp) (r : Int32 × Hp) (hb : b_298_20   h = some r) : Rn d 298 20 [some (va_rf v0), none, none] [] h (some (.int r.1), r.2) := by
  unfold b_298_20 at hb
  refine rn_iconst (x := (-1 : Int32)) rfl (by decide) ?_
  obtain rfl := Option.some.inj hb
  exact rn_iret rfl rfl
def b_298_0 (v0 : Option Nat)  (h : Hp) : Option (Int32 × Hp) :=
  (pI 11 0 v0 (nI 0) h).bind fun h1 =>
  (grd (rC 11 v0 h1)).bind fun _ =>
  (f_202 v0 h1).bind fun p2 =>
  (gQ 11 14 v0 p2).bind fun x3 =>
  (aI 12 x3 (nI 462) p2).bind fun x4 =>
  if ¬ x4 = 0 then b_298_22 v0  p2 else b_298_20   p2
theorem u_298_0 (d : Nat) (hd : 70 ≤ d) (v0 : Option Nat)  (h : Hp) (r : Int32 × Hp) (hb : b_298_0 v0  h = some r) : Rn d 298 0 [some (va_rf v0), none, none] [] h (some (.int r.1), r.2) := by
  unfold b_298_0 at hb
  obtain ⟨e, rfl⟩ : ∃ e, d = e + 1 := ⟨d - 1, by omega⟩
  refine rn_aload_n (i := 0) rfl rfl ?_
  refine rn_iconst (x := (nI 0)) rfl (by decide) ?_
  refine rn_pI (c := 11) (k := 0) rfl (by decide) hb (fun h1 hb => ?_)
  refine rn_aload_n (i := 0) rfl rfl ?_
  obtain ⟨hrc, hb⟩ := grd_spec hb
  obtain ⟨p2, hc, hb⟩ := Option.bind_eq_some_iff.mp hb
  refine Rn.call0 (d := e) (As := [va_rf v0]) (rest := []) rfl rfl rfl (by decide) rfl rfl rfl (bd_rcV hrc rfl) (by decide) (bd_lenC (n := 1) rfl (bd_slR bd_slN) rfl) (bd_locC (n := 1) rfl (bd_slR bd_slN) rfl (t_202 e (by omega) v0 h1 _ hc)) ?_
  refine rn_aload_n (i := 0) rfl rfl ?_
  refine rn_gQ (c := 11) (k := 14) rfl (by decide) hb (fun x3 hb => ?_)
  refine rn_sipush (x := (nI 462)) rfl (by decide) ?_
  refine rn_aI rfl hb (fun x4 hb => ?_)
  refine rn_if_ne rfl rfl (fun hc => ?_) (fun hc => ?_)
  · exact u_298_22 (e + 1) hd v0  p2 _ (if_t hb hc)
  · exact u_298_20 (e + 1) hd v0  p2 _ (if_f hb hc)
/-- BitingDoorsModel.said()I -/
def f_298 (v0 : Option Nat) (h : Hp) : Option (Int32 × Hp) := b_298_0 v0 h
theorem t_298 (d : Nat) (hd : 70 ≤ d) (v0 : Option Nat) (h : Hp) (r : Int32 × Hp) (hb : f_298 v0 h = some r) : Rn d 298 0 [some (va_rf v0), none, none] [] h (some (.int r.1), r.2) := by
  unfold f_298 at hb
  exact u_298_0 d hd v0 h r hb
def b_299_84 (v0 : Option Nat) (v1 : Int32)  (h : Hp) : Option (Int32 × Hp) :=
  (gQ 11 21 v0 h).bind fun x1 =>
  (wZ x1 v1 (nI 1) h).bind fun h2 =>
  (grd (decide ((nI 1) = 0 ∨ (nI 1) = 1))).bind fun _ => some ((nI 1), h2)
theorem u_299_84 (d : Nat) (hd : 1 ≤ d) (v0 : Option Nat) (v1 : Int32) (v2 : Int32)  (h : Hp) (r : Int32 × Hp) (hb : b_299_84 v0 v1  h = some r) : Rn d 299 84 [some (va_rf v0), some (.int v1), some (.int v2)] [] h (some (.int r.1), r.2) := by
  unfold b_299_84 at hb
  refine rn_aload_n (i := 0) rfl rfl ?_
  refine rn_gQ (c := 11) (k := 21) rfl (by decide) hb (fun x1 hb => ?_)
  refine rn_iload_n (i := 1) rfl rfl ?_
  refine rn_iconst (x := (nI 1)) rfl (by decide) ?_
  refine rn_wZ rfl hb (fun h2 hb => ?_)
  refine rn_iconst (x := (nI 1)) rfl (by decide) ?_
  obtain ⟨hz, hb⟩ := grd_spec hb
  obtain rfl := Option.some.inj hb
  exact rn_zret rfl rfl (of_decide_eq_true hz)
def b_299_61 (k55 : Option Nat → Int32 → Int32 → Hp → Option (Int32 × Hp)) (v0 : Option Nat) (v1 : Int32) (v2 : Int32)  (h : Hp) : Option (Int32 × Hp) :=
  (gQ 11 20 v0 h).bind fun x1 =>
  (gQ 11 18 v0 h).bind fun x2 =>
  (aJ x2 v2 h).bind fun x3 =>
  (wJ x1 (((nI 10) * v1) + v2) x3 h).bind fun h4 =>
  bnd (v2 + (nI 1)) fun x5 =>
  k55 v0 v1 x5 h4
theorem u_299_61 (d : Nat) (hd : 1 ≤ d) (k55 : Option Nat → Int32 → Int32 → Hp → Option (Int32 × Hp)) (K55 : ∀ (v0 : Option Nat) (v1 : Int32) (v2 : Int32) (h : Hp) (r : Int32 × Hp), k55 v0 v1 v2 h = some r → Rn d 299 55 [some (va_rf v0), some (.int v1), some (.int v2)] [] h (some (.int r.1), r.2)) (v0 : Option Nat) (v1 : Int32) (v2 : Int32)  (h : Hp) (r : Int32 × Hp) (hb : b_299_61 k55 v0 v1 v2  h = some r) : Rn d 299 61 [some (va_rf v0), some (.int v1), some (.int v2)] [] h (some (.int r.1), r.2) := by
  unfold b_299_61 at hb
  refine rn_aload_n (i := 0) rfl rfl ?_
  refine rn_gQ (c := 11) (k := 20) rfl (by decide) hb (fun x1 hb => ?_)
  refine rn_bipush (x := (nI 10)) rfl (by decide) ?_
  refine rn_iload_n (i := 1) rfl rfl ?_
  refine rn_imul rfl ?_
  refine rn_iload_n (i := 2) rfl rfl ?_
  refine rn_iadd rfl ?_
  refine rn_aload_n (i := 0) rfl rfl ?_
  refine rn_gQ (c := 11) (k := 18) rfl (by decide) hb (fun x2 hb => ?_)
  refine rn_iload_n (i := 2) rfl rfl ?_
  refine rn_aJ rfl hb (fun x3 hb => ?_)
  refine rn_wJ rfl hb (fun h4 hb => ?_)
  obtain ⟨x5, ex5, hb⟩ := bnd_spec hb
  refine rn_iinc (i := 2) (y := x5) (L1 := [some (va_rf v0), some (.int v1), some (.int x5)]) rfl rfl (Nat.le_of_ble_eq_true rfl) (Or.inr rfl) (by rw [ex5]; rfl) rfl ?_
  refine rn_goto rfl rfl ?_
  exact K55 v0 v1 x5 h4 _ hb
def b_299_55 (k55 : Option Nat → Int32 → Int32 → Hp → Option (Int32 × Hp)) (v0 : Option Nat) (v1 : Int32) (v2 : Int32)  (h : Hp) : Option (Int32 × Hp) :=
  if (nI 10) ≤ v2 then b_299_84 v0 v1  h else b_299_61 k55 v0 v1 v2  h
theorem u_299_55 (d : Nat) (hd : 1 ≤ d) (k55 : Option Nat → Int32 → Int32 → Hp → Option (Int32 × Hp)) (K55 : ∀ (v0 : Option Nat) (v1 : Int32) (v2 : Int32) (h : Hp) (r : Int32 × Hp), k55 v0 v1 v2 h = some r → Rn d 299 55 [some (va_rf v0), some (.int v1), some (.int v2)] [] h (some (.int r.1), r.2)) (v0 : Option Nat) (v1 : Int32) (v2 : Int32)  (h : Hp) (r : Int32 × Hp) (hb : b_299_55 k55 v0 v1 v2  h = some r) : Rn d 299 55 [some (va_rf v0), some (.int v1), some (.int v2)] [] h (some (.int r.1), r.2) := by
  unfold b_299_55 at hb
  refine rn_iload_n (i := 2) rfl rfl ?_
  refine rn_bipush (x := (nI 10)) rfl (by decide) ?_
  refine rn_icmp_ge rfl rfl (fun hc => ?_) (fun hc => ?_)
  · exact u_299_84 d hd v0 v1 v2  h _ (if_t hb hc)
  · exact u_299_61 d hd k55 K55 v0 v1 v2  h _ (if_f hb hc)
def l_299_55 : Nat → Option Nat → Int32 → Int32 → Hp → Option (Int32 × Hp)
  | 0, _, _, _, _ => none
  | n + 1, v0, v1, v2, h => b_299_55 (l_299_55 n) v0 v1 v2 h
theorem w_299_55 (d : Nat) (hd : 1 ≤ d) : ∀ (n : Nat) (v0 : Option Nat) (v1 : Int32) (v2 : Int32) (h : Hp) (r : Int32 × Hp), l_299_55 n v0 v1 v2 h = some r → Rn d 299 55 [some (va_rf v0), some (.int v1), some (.int v2)] [] h (some (.int r.1), r.2) := by
  intro n
  induction n with
  | zero => intro v0 v1 v2 h r hb; cases hb
  | succ n ih => intro v0 v1 v2 h r hb; exact u_299_55 d hd (l_299_55 n) ih v0 v1 v2 h r hb
def b_299_53 (v0 : Option Nat) (v1 : Int32)  (h : Hp) : Option (Int32 × Hp) :=
  bnd ((nI 0)) fun x1 =>
  l_299_55 FU v0 v1 x1 h
theorem u_299_53 (d : Nat) (hd : 1 ≤ d) (v0 : Option Nat) (v1 : Int32) (v2 : Int32)  (h : Hp) (r : Int32 × Hp) (hb : b_299_53 v0 v1  h = some r) : Rn d 299 53 [some (va_rf v0), some (.int v1), some (.int v2)] [] h (some (.int r.1), r.2) := by
  unfold b_299_53 at hb
  refine rn_iconst (x := (nI 0)) rfl (by decide) ?_
  obtain ⟨x1, ex1, hb⟩ := bnd_spec hb
  refine rn_istore_n (i := 2) (L1 := [some (va_rf v0), some (.int v1), some (.int x1)]) rfl (Nat.le_of_ble_eq_true rfl) (Or.inr rfl) (by rw [ex1]; rfl) ?_
  exact w_299_55 d hd FU v0 v1 x1 h _ hb
def b_299_29 (k22 : Option Nat → Int32 → Int32 → Hp → Option (Int32 × Hp)) (v0 : Option Nat) (v1 : Int32) (v2 : Int32)  (h : Hp) : Option (Int32 × Hp) :=
  (gQ 11 17 v0 h).bind fun x1 =>
  (gQ 11 14 v0 h).bind fun x2 =>
  (aI 12 x2 v2 h).bind fun x3 =>
  (wI x1 (((nI 704) * v1) + v2) x3 h).bind fun h4 =>
  bnd (v2 + (nI 1)) fun x5 =>
  k22 v0 v1 x5 h4
theorem u_299_29 (d : Nat) (hd : 1 ≤ d) (k22 : Option Nat → Int32 → Int32 → Hp → Option (Int32 × Hp)) (K22 : ∀ (v0 : Option Nat) (v1 : Int32) (v2 : Int32) (h : Hp) (r : Int32 × Hp), k22 v0 v1 v2 h = some r → Rn d 299 22 [some (va_rf v0), some (.int v1), some (.int v2)] [] h (some (.int r.1), r.2)) (v0 : Option Nat) (v1 : Int32) (v2 : Int32)  (h : Hp) (r : Int32 × Hp) (hb : b_299_29 k22 v0 v1 v2  h = some r) : Rn d 299 29 [some (va_rf v0), some (.int v1), some (.int v2)] [] h (some (.int r.1), r.2) := by
  unfold b_299_29 at hb
  refine rn_aload_n (i := 0) rfl rfl ?_
  refine rn_gQ (c := 11) (k := 17) rfl (by decide) hb (fun x1 hb => ?_)
  refine rn_sipush (x := (nI 704)) rfl (by decide) ?_
  refine rn_iload_n (i := 1) rfl rfl ?_
  refine rn_imul rfl ?_
  refine rn_iload_n (i := 2) rfl rfl ?_
  refine rn_iadd rfl ?_
  refine rn_aload_n (i := 0) rfl rfl ?_
  refine rn_gQ (c := 11) (k := 14) rfl (by decide) hb (fun x2 hb => ?_)
  refine rn_iload_n (i := 2) rfl rfl ?_
  refine rn_aI rfl hb (fun x3 hb => ?_)
  refine rn_wI rfl hb (fun h4 hb => ?_)
  obtain ⟨x5, ex5, hb⟩ := bnd_spec hb
  refine rn_iinc (i := 2) (y := x5) (L1 := [some (va_rf v0), some (.int v1), some (.int x5)]) rfl rfl (Nat.le_of_ble_eq_true rfl) (Or.inr rfl) (by rw [ex5]; rfl) rfl ?_
  refine rn_goto rfl rfl ?_
  exact K22 v0 v1 x5 h4 _ hb
def b_299_22 (k22 : Option Nat → Int32 → Int32 → Hp → Option (Int32 × Hp)) (v0 : Option Nat) (v1 : Int32) (v2 : Int32)  (h : Hp) : Option (Int32 × Hp) :=
  if (nI 704) ≤ v2 then b_299_53 v0 v1  h else b_299_29 k22 v0 v1 v2  h
theorem u_299_22 (d : Nat) (hd : 1 ≤ d) (k22 : Option Nat → Int32 → Int32 → Hp → Option (Int32 × Hp)) (K22 : ∀ (v0 : Option Nat) (v1 : Int32) (v2 : Int32) (h : Hp) (r : Int32 × Hp), k22 v0 v1 v2 h = some r → Rn d 299 22 [some (va_rf v0), some (.int v1), some (.int v2)] [] h (some (.int r.1), r.2)) (v0 : Option Nat) (v1 : Int32) (v2 : Int32)  (h : Hp) (r : Int32 × Hp) (hb : b_299_22 k22 v0 v1 v2  h = some r) : Rn d 299 22 [some (va_rf v0), some (.int v1), some (.int v2)] [] h (some (.int r.1), r.2) := by
  unfold b_299_22 at hb
  refine rn_iload_n (i := 2) rfl rfl ?_
  refine rn_sipush (x := (nI 704)) rfl (by decide) ?_
  refine rn_icmp_ge rfl rfl (fun hc => ?_) (fun hc => ?_)
  · exact u_299_53 d hd v0 v1 v2  h _ (if_t hb hc)
  · exact u_299_29 d hd k22 K22 v0 v1 v2  h _ (if_f hb hc)
def l_299_22 : Nat → Option Nat → Int32 → Int32 → Hp → Option (Int32 × Hp)
  | 0, _, _, _, _ => none
  | n + 1, v0, v1, v2, h => b_299_22 (l_299_22 n) v0 v1 v2 h
theorem w_299_22 (d : Nat) (hd : 1 ≤ d) : ∀ (n : Nat) (v0 : Option Nat) (v1 : Int32) (v2 : Int32) (h : Hp) (r : Int32 × Hp), l_299_22 n v0 v1 v2 h = some r → Rn d 299 22 [some (va_rf v0), some (.int v1), some (.int v2)] [] h (some (.int r.1), r.2) := by
  intro n
  induction n with
  | zero => intro v0 v1 v2 h r hb; cases hb
  | succ n ih => intro v0 v1 v2 h r hb; exact u_299_22 d hd (l_299_22 n) ih v0 v1 v2 h r hb
def b_299_20 (v0 : Option Nat) (v1 : Int32)  (h : Hp) : Option (Int32 × Hp) :=
  bnd ((nI 0)) fun x1 =>
  l_299_22 FU v0 v1 x1 h
theorem u_299_20 (d : Nat) (hd : 1 ≤ d) (v0 : Option Nat) (v1 : Int32)  (h : Hp) (r : Int32 × Hp) (hb : b_299_20 v0 v1  h = some r) : Rn d 299 20 [some (va_rf v0), some (.int v1), none] [] h (some (.int r.1), r.2) := by
  unfold b_299_20 at hb
  refine rn_iconst (x := (nI 0)) rfl (by decide) ?_
  obtain ⟨x1, ex1, hb⟩ := bnd_spec hb
  refine rn_istore_n (i := 2) (L1 := [some (va_rf v0), some (.int v1), some (.int x1)]) rfl (Nat.le_of_ble_eq_true rfl) (Or.inr rfl) (by rw [ex1]; rfl) ?_
  exact w_299_22 d hd FU v0 v1 x1 h _ hb
def b_299_18   (h : Hp) : Option (Int32 × Hp) :=
  (grd (decide ((nI 0) = 0 ∨ (nI 0) = 1))).bind fun _ => some ((nI 0), h)
theorem u_299_18 (d : Nat) (hd : 1 ≤ d) (v0 : Option Nat) (v1 : Int32)  (h : Hp) (r : Int32 × Hp) (hb : b_299_18   h = some r) : Rn d 299 18 [some (va_rf v0), some (.int v1), none] [] h (some (.int r.1), r.2) := by
  unfold b_299_18 at hb
  refine rn_iconst (x := (nI 0)) rfl (by decide) ?_
  obtain ⟨hz, hb⟩ := grd_spec hb
  obtain rfl := Option.some.inj hb
  exact rn_zret rfl rfl (of_decide_eq_true hz)
def b_299_0 (v0 : Option Nat) (v1 : Int32)  (h : Hp) : Option (Int32 × Hp) :=
  (pI 11 0 v0 (nI 0) h).bind fun h1 =>
  (grd (rC 11 v0 h1)).bind fun _ =>
  (f_202 v0 h1).bind fun p2 =>
  (f_182 v1 (nI 0) (nI 1) p2).bind fun p3 =>
  if ¬ p3.1 = 0 then b_299_20 v0 v1  p3.2 else b_299_18   p3.2
theorem u_299_0 (d : Nat) (hd : 1 ≤ d) (v0 : Option Nat) (v1 : Int32)  (h : Hp) (r : Int32 × Hp) (hb : b_299_0 v0 v1  h = some r) : Rn d 299 0 [some (va_rf v0), some (.int v1), none] [] h (some (.int r.1), r.2) := by
  unfold b_299_0 at hb
  obtain ⟨e, rfl⟩ : ∃ e, d = e + 1 := ⟨d - 1, by omega⟩
  refine rn_aload_n (i := 0) rfl rfl ?_
  refine rn_iconst (x := (nI 0)) rfl (by decide) ?_
  refine rn_pI (c := 11) (k := 0) rfl (by decide) hb (fun h1 hb => ?_)
  refine rn_aload_n (i := 0) rfl rfl ?_
  obtain ⟨hrc, hb⟩ := grd_spec hb
  obtain ⟨p2, hc, hb⟩ := Option.bind_eq_some_iff.mp hb
  refine Rn.call0 (d := e) (As := [va_rf v0]) (rest := []) rfl rfl rfl (by decide) rfl rfl rfl (bd_rcV hrc rfl) (by decide) (bd_lenC (n := 1) rfl (bd_slR bd_slN) rfl) (bd_locC (n := 1) rfl (bd_slR bd_slN) rfl (t_202 e (by omega) v0 h1 _ hc)) ?_
  refine rn_iload_n (i := 1) rfl rfl ?_
  refine rn_iconst (x := (nI 0)) rfl (by decide) ?_
  refine rn_iconst (x := (nI 1)) rfl (by decide) ?_
  obtain ⟨p3, hc, hb⟩ := Option.bind_eq_some_iff.mp hb
  refine Rn.call1 (d := e) (As := [.int v1, .int (nI 0), .int (nI 1)]) (rest := []) rfl rfl rfl (by decide) rfl rfl rfl rfl (by decide) (bd_lenC (n := 3) rfl (bd_slI (bd_slI (bd_slI bd_slN))) rfl) (bd_locC (n := 3) rfl (bd_slI (bd_slI (bd_slI bd_slN))) rfl (t_182 e (by omega) v1 (nI 0) (nI 1) p2 _ hc)) ?_
  refine rn_if_ne rfl rfl (fun hc => ?_) (fun hc => ?_)
  · exact u_299_20 (e + 1) hd v0 v1  p3.2 _ (if_t hb hc)
  · exact u_299_18 (e + 1) hd v0 v1  p3.2 _ (if_f hb hc)
/-- BitingDoorsModel.image(I)Z -/
def f_299 (v0 : Option Nat) (v1 : Int32) (h : Hp) : Option (Int32 × Hp) := b_299_0 v0 v1 h
theorem t_299 (d : Nat) (hd : 1 ≤ d) (v0 : Option Nat) (v1 : Int32) (h : Hp) (r : Int32 × Hp) (hb : f_299 v0 v1 h = some r) : Rn d 299 0 [some (va_rf v0), some (.int v1), none] [] h (some (.int r.1), r.2) := by
  unfold f_299 at hb
  exact u_299_0 d hd v0 v1 h r hb
def b_300_27   (h : Hp) : Option (Int32 × Hp) :=
  (grd (decide ((nI 0) = 0 ∨ (nI 0) = 1))).bind fun _ => some ((nI 0), h)
theorem u_300_27 (d : Nat) (hd : 1 ≤ d) (v0 : Option Nat) (v1 : Int32)  (h : Hp) (r : Int32 × Hp) (hb : b_300_27   h = some r) : Rn d 300 27 [some (va_rf v0), some (.int v1), none] [] h (some (.int r.1), r.2) := by
  unfold b_300_27 at hb
  refine rn_iconst (x := (nI 0)) rfl (by decide) ?_
  obtain ⟨hz, hb⟩ := grd_spec hb
  obtain rfl := Option.some.inj hb
  exact rn_zret rfl rfl (of_decide_eq_true hz)
def b_300_93   (h : Hp) : Option (Int32 × Hp) :=
  (grd (decide ((nI 1) = 0 ∨ (nI 1) = 1))).bind fun _ => some ((nI 1), h)
theorem u_300_93 (d : Nat) (hd : 1 ≤ d) (v0 : Option Nat) (v1 : Int32) (v2 : Int32)  (h : Hp) (r : Int32 × Hp) (hb : b_300_93   h = some r) : Rn d 300 93 [some (va_rf v0), some (.int v1), some (.int v2)] [] h (some (.int r.1), r.2) := by
  unfold b_300_93 at hb
  refine rn_iconst (x := (nI 1)) rfl (by decide) ?_
  obtain ⟨hz, hb⟩ := grd_spec hb
  obtain rfl := Option.some.inj hb
  exact rn_zret rfl rfl (of_decide_eq_true hz)
def b_300_70 (k64 : Option Nat → Int32 → Int32 → Hp → Option (Int32 × Hp)) (v0 : Option Nat) (v1 : Int32) (v2 : Int32)  (h : Hp) : Option (Int32 × Hp) :=
  (gQ 11 18 v0 h).bind fun x1 =>
  (gQ 11 20 v0 h).bind fun x2 =>
  (aJ x2 (((nI 10) * v1) + v2) h).bind fun x3 =>
  (wJ x1 v2 x3 h).bind fun h4 =>
  bnd (v2 + (nI 1)) fun x5 =>
  k64 v0 v1 x5 h4
theorem u_300_70 (d : Nat) (hd : 1 ≤ d) (k64 : Option Nat → Int32 → Int32 → Hp → Option (Int32 × Hp)) (K64 : ∀ (v0 : Option Nat) (v1 : Int32) (v2 : Int32) (h : Hp) (r : Int32 × Hp), k64 v0 v1 v2 h = some r → Rn d 300 64 [some (va_rf v0), some (.int v1), some (.int v2)] [] h (some (.int r.1), r.2)) (v0 : Option Nat) (v1 : Int32) (v2 : Int32)  (h : Hp) (r : Int32 × Hp) (hb : b_300_70 k64 v0 v1 v2  h = some r) : Rn d 300 70 [some (va_rf v0), some (.int v1), some (.int v2)] [] h (some (.int r.1), r.2) := by
  unfold b_300_70 at hb
  refine rn_aload_n (i := 0) rfl rfl ?_
  refine rn_gQ (c := 11) (k := 18) rfl (by decide) hb (fun x1 hb => ?_)
  refine rn_iload_n (i := 2) rfl rfl ?_
  refine rn_aload_n (i := 0) rfl rfl ?_
  refine rn_gQ (c := 11) (k := 20) rfl (by decide) hb (fun x2 hb => ?_)
  refine rn_bipush (x := (nI 10)) rfl (by decide) ?_
  refine rn_iload_n (i := 1) rfl rfl ?_
  refine rn_imul rfl ?_
  refine rn_iload_n (i := 2) rfl rfl ?_
  refine rn_iadd rfl ?_
  refine rn_aJ rfl hb (fun x3 hb => ?_)
  refine rn_wJ rfl hb (fun h4 hb => ?_)
  obtain ⟨x5, ex5, hb⟩ := bnd_spec hb
  refine rn_iinc (i := 2) (y := x5) (L1 := [some (va_rf v0), some (.int v1), some (.int x5)]) rfl rfl (Nat.le_of_ble_eq_true rfl) (Or.inr rfl) (by rw [ex5]; rfl) rfl ?_
  refine rn_goto rfl rfl ?_
  exact K64 v0 v1 x5 h4 _ hb
def b_300_64 (k64 : Option Nat → Int32 → Int32 → Hp → Option (Int32 × Hp)) (v0 : Option Nat) (v1 : Int32) (v2 : Int32)  (h : Hp) : Option (Int32 × Hp) :=
  if (nI 10) ≤ v2 then b_300_93   h else b_300_70 k64 v0 v1 v2  h
theorem u_300_64 (d : Nat) (hd : 1 ≤ d) (k64 : Option Nat → Int32 → Int32 → Hp → Option (Int32 × Hp)) (K64 : ∀ (v0 : Option Nat) (v1 : Int32) (v2 : Int32) (h : Hp) (r : Int32 × Hp), k64 v0 v1 v2 h = some r → Rn d 300 64 [some (va_rf v0), some (.int v1), some (.int v2)] [] h (some (.int r.1), r.2)) (v0 : Option Nat) (v1 : Int32) (v2 : Int32)  (h : Hp) (r : Int32 × Hp) (hb : b_300_64 k64 v0 v1 v2  h = some r) : Rn d 300 64 [some (va_rf v0), some (.int v1), some (.int v2)] [] h (some (.int r.1), r.2) := by
  unfold b_300_64 at hb
  refine rn_iload_n (i := 2) rfl rfl ?_
  refine rn_bipush (x := (nI 10)) rfl (by decide) ?_
  refine rn_icmp_ge rfl rfl (fun hc => ?_) (fun hc => ?_)
  · exact u_300_93 d hd v0 v1 v2  h _ (if_t hb hc)
  · exact u_300_70 d hd k64 K64 v0 v1 v2  h _ (if_f hb hc)
def l_300_64 : Nat → Option Nat → Int32 → Int32 → Hp → Option (Int32 × Hp)
  | 0, _, _, _, _ => none
  | n + 1, v0, v1, v2, h => b_300_64 (l_300_64 n) v0 v1 v2 h
theorem w_300_64 (d : Nat) (hd : 1 ≤ d) : ∀ (n : Nat) (v0 : Option Nat) (v1 : Int32) (v2 : Int32) (h : Hp) (r : Int32 × Hp), l_300_64 n v0 v1 v2 h = some r → Rn d 300 64 [some (va_rf v0), some (.int v1), some (.int v2)] [] h (some (.int r.1), r.2) := by
  intro n
  induction n with
  | zero => intro v0 v1 v2 h r hb; cases hb
  | succ n ih => intro v0 v1 v2 h r hb; exact u_300_64 d hd (l_300_64 n) ih v0 v1 v2 h r hb
def b_300_62 (v0 : Option Nat) (v1 : Int32)  (h : Hp) : Option (Int32 × Hp) :=
  bnd ((nI 0)) fun x1 =>
  l_300_64 FU v0 v1 x1 h
theorem u_300_62 (d : Nat) (hd : 1 ≤ d) (v0 : Option Nat) (v1 : Int32) (v2 : Int32)  (h : Hp) (r : Int32 × Hp) (hb : b_300_62 v0 v1  h = some r) : Rn d 300 62 [some (va_rf v0), some (.int v1), some (.int v2)] [] h (some (.int r.1), r.2) := by
  unfold b_300_62 at hb
  refine rn_iconst (x := (nI 0)) rfl (by decide) ?_
  obtain ⟨x1, ex1, hb⟩ := bnd_spec hb
  refine rn_istore_n (i := 2) (L1 := [some (va_rf v0), some (.int v1), some (.int x1)]) rfl (Nat.le_of_ble_eq_true rfl) (Or.inr rfl) (by rw [ex1]; rfl) ?_
  exact w_300_64 d hd FU v0 v1 x1 h _ hb
def b_300_38 (k31 : Option Nat → Int32 → Int32 → Hp → Option (Int32 × Hp)) (v0 : Option Nat) (v1 : Int32) (v2 : Int32)  (h : Hp) : Option (Int32 × Hp) :=
  (gQ 11 14 v0 h).bind fun x1 =>
  (gQ 11 17 v0 h).bind fun x2 =>
  (aI 12 x2 (((nI 704) * v1) + v2) h).bind fun x3 =>
  (wI x1 v2 x3 h).bind fun h4 =>
  bnd (v2 + (nI 1)) fun x5 =>
  k31 v0 v1 x5 h4
theorem u_300_38 (d : Nat) (hd : 1 ≤ d) (k31 : Option Nat → Int32 → Int32 → Hp → Option (Int32 × Hp)) (K31 : ∀ (v0 : Option Nat) (v1 : Int32) (v2 : Int32) (h : Hp) (r : Int32 × Hp), k31 v0 v1 v2 h = some r → Rn d 300 31 [some (va_rf v0), some (.int v1), some (.int v2)] [] h (some (.int r.1), r.2)) (v0 : Option Nat) (v1 : Int32) (v2 : Int32)  (h : Hp) (r : Int32 × Hp) (hb : b_300_38 k31 v0 v1 v2  h = some r) : Rn d 300 38 [some (va_rf v0), some (.int v1), some (.int v2)] [] h (some (.int r.1), r.2) := by
  unfold b_300_38 at hb
  refine rn_aload_n (i := 0) rfl rfl ?_
  refine rn_gQ (c := 11) (k := 14) rfl (by decide) hb (fun x1 hb => ?_)
  refine rn_iload_n (i := 2) rfl rfl ?_
  refine rn_aload_n (i := 0) rfl rfl ?_
  refine rn_gQ (c := 11) (k := 17) rfl (by decide) hb (fun x2 hb => ?_)
  refine rn_sipush (x := (nI 704)) rfl (by decide) ?_
  refine rn_iload_n (i := 1) rfl rfl ?_
  refine rn_imul rfl ?_
  refine rn_iload_n (i := 2) rfl rfl ?_
  refine rn_iadd rfl ?_
  refine rn_aI rfl hb (fun x3 hb => ?_)
  refine rn_wI rfl hb (fun h4 hb => ?_)
  obtain ⟨x5, ex5, hb⟩ := bnd_spec hb
  refine rn_iinc (i := 2) (y := x5) (L1 := [some (va_rf v0), some (.int v1), some (.int x5)]) rfl rfl (Nat.le_of_ble_eq_true rfl) (Or.inr rfl) (by rw [ex5]; rfl) rfl ?_
  refine rn_goto rfl rfl ?_
  exact K31 v0 v1 x5 h4 _ hb
def b_300_31 (k31 : Option Nat → Int32 → Int32 → Hp → Option (Int32 × Hp)) (v0 : Option Nat) (v1 : Int32) (v2 : Int32)  (h : Hp) : Option (Int32 × Hp) :=
  if (nI 704) ≤ v2 then b_300_62 v0 v1  h else b_300_38 k31 v0 v1 v2  h
theorem u_300_31 (d : Nat) (hd : 1 ≤ d) (k31 : Option Nat → Int32 → Int32 → Hp → Option (Int32 × Hp)) (K31 : ∀ (v0 : Option Nat) (v1 : Int32) (v2 : Int32) (h : Hp) (r : Int32 × Hp), k31 v0 v1 v2 h = some r → Rn d 300 31 [some (va_rf v0), some (.int v1), some (.int v2)] [] h (some (.int r.1), r.2)) (v0 : Option Nat) (v1 : Int32) (v2 : Int32)  (h : Hp) (r : Int32 × Hp) (hb : b_300_31 k31 v0 v1 v2  h = some r) : Rn d 300 31 [some (va_rf v0), some (.int v1), some (.int v2)] [] h (some (.int r.1), r.2) := by
  unfold b_300_31 at hb
  refine rn_iload_n (i := 2) rfl rfl ?_
  refine rn_sipush (x := (nI 704)) rfl (by decide) ?_
  refine rn_icmp_ge rfl rfl (fun hc => ?_) (fun hc => ?_)
  · exact u_300_62 d hd v0 v1 v2  h _ (if_t hb hc)
  · exact u_300_38 d hd k31 K31 v0 v1 v2  h _ (if_f hb hc)
def l_300_31 : Nat → Option Nat → Int32 → Int32 → Hp → Option (Int32 × Hp)
  | 0, _, _, _, _ => none
  | n + 1, v0, v1, v2, h => b_300_31 (l_300_31 n) v0 v1 v2 h
theorem w_300_31 (d : Nat) (hd : 1 ≤ d) : ∀ (n : Nat) (v0 : Option Nat) (v1 : Int32) (v2 : Int32) (h : Hp) (r : Int32 × Hp), l_300_31 n v0 v1 v2 h = some r → Rn d 300 31 [some (va_rf v0), some (.int v1), some (.int v2)] [] h (some (.int r.1), r.2) := by
  intro n
  induction n with
  | zero => intro v0 v1 v2 h r hb; cases hb
  | succ n ih => intro v0 v1 v2 h r hb; exact u_300_31 d hd (l_300_31 n) ih v0 v1 v2 h r hb
def b_300_29 (v0 : Option Nat) (v1 : Int32)  (h : Hp) : Option (Int32 × Hp) :=
  bnd ((nI 0)) fun x1 =>
  l_300_31 FU v0 v1 x1 h
theorem u_300_29 (d : Nat) (hd : 1 ≤ d) (v0 : Option Nat) (v1 : Int32)  (h : Hp) (r : Int32 × Hp) (hb : b_300_29 v0 v1  h = some r) : Rn d 300 29 [some (va_rf v0), some (.int v1), none] [] h (some (.int r.1), r.2) := by
  unfold b_300_29 at hb
  refine rn_iconst (x := (nI 0)) rfl (by decide) ?_
  obtain ⟨x1, ex1, hb⟩ := bnd_spec hb
  refine rn_istore_n (i := 2) (L1 := [some (va_rf v0), some (.int v1), some (.int x1)]) rfl (Nat.le_of_ble_eq_true rfl) (Or.inr rfl) (by rw [ex1]; rfl) ?_
  exact w_300_31 d hd FU v0 v1 x1 h _ hb
def b_300_18 (v0 : Option Nat) (v1 : Int32)  (h : Hp) : Option (Int32 × Hp) :=
  (gQ 11 21 v0 h).bind fun x1 =>
  (aI 14 x1 v1 h).bind fun x2 =>
  if ¬ x2 = 0 then b_300_29 v0 v1  h else b_300_27   h
theorem u_300_18 (d : Nat) (hd : 1 ≤ d) (v0 : Option Nat) (v1 : Int32)  (h : Hp) (r : Int32 × Hp) (hb : b_300_18 v0 v1  h = some r) : Rn d 300 18 [some (va_rf v0), some (.int v1), none] [] h (some (.int r.1), r.2) := by
  unfold b_300_18 at hb
  refine rn_aload_n (i := 0) rfl rfl ?_
  refine rn_gQ (c := 11) (k := 21) rfl (by decide) hb (fun x1 hb => ?_)
  refine rn_iload_n (i := 1) rfl rfl ?_
  refine rn_aZ rfl hb (fun x2 hb => ?_)
  refine rn_if_ne rfl rfl (fun hc => ?_) (fun hc => ?_)
  · exact u_300_29 d hd v0 v1  h _ (if_t hb hc)
  · exact u_300_27 d hd v0 v1  h _ (if_f hb hc)
def b_300_0 (v0 : Option Nat) (v1 : Int32)  (h : Hp) : Option (Int32 × Hp) :=
  (pI 11 0 v0 (nI 0) h).bind fun h1 =>
  (grd (rC 11 v0 h1)).bind fun _ =>
  (f_202 v0 h1).bind fun p2 =>
  (f_182 v1 (nI 0) (nI 1) p2).bind fun p3 =>
  if p3.1 = 0 then b_300_27   p3.2 else b_300_18 v0 v1  p3.2
theorem u_300_0 (d : Nat) (hd : 1 ≤ d) (v0 : Option Nat) (v1 : Int32)  (h : Hp) (r : Int32 × Hp) (hb : b_300_0 v0 v1  h = some r) : Rn d 300 0 [some (va_rf v0), some (.int v1), none] [] h (some (.int r.1), r.2) := by
  unfold b_300_0 at hb
  obtain ⟨e, rfl⟩ : ∃ e, d = e + 1 := ⟨d - 1, by omega⟩
  refine rn_aload_n (i := 0) rfl rfl ?_
  refine rn_iconst (x := (nI 0)) rfl (by decide) ?_
  refine rn_pI (c := 11) (k := 0) rfl (by decide) hb (fun h1 hb => ?_)
  refine rn_aload_n (i := 0) rfl rfl ?_
  obtain ⟨hrc, hb⟩ := grd_spec hb
  obtain ⟨p2, hc, hb⟩ := Option.bind_eq_some_iff.mp hb
  refine Rn.call0 (d := e) (As := [va_rf v0]) (rest := []) rfl rfl rfl (by decide) rfl rfl rfl (bd_rcV hrc rfl) (by decide) (bd_lenC (n := 1) rfl (bd_slR bd_slN) rfl) (bd_locC (n := 1) rfl (bd_slR bd_slN) rfl (t_202 e (by omega) v0 h1 _ hc)) ?_
  refine rn_iload_n (i := 1) rfl rfl ?_
  refine rn_iconst (x := (nI 0)) rfl (by decide) ?_
  refine rn_iconst (x := (nI 1)) rfl (by decide) ?_
  obtain ⟨p3, hc, hb⟩ := Option.bind_eq_some_iff.mp hb
  refine Rn.call1 (d := e) (As := [.int v1, .int (nI 0), .int (nI 1)]) (rest := []) rfl rfl rfl (by decide) rfl rfl rfl rfl (by decide) (bd_lenC (n := 3) rfl (bd_slI (bd_slI (bd_slI bd_slN))) rfl) (bd_locC (n := 3) rfl (bd_slI (bd_slI (bd_slI bd_slN))) rfl (t_182 e (by omega) v1 (nI 0) (nI 1) p2 _ hc)) ?_
  refine rn_if_eq rfl rfl (fun hc => ?_) (fun hc => ?_)
  · exact u_300_27 (e + 1) hd v0 v1  p3.2 _ (if_t hb hc)
  · exact u_300_18 (e + 1) hd v0 v1  p3.2 _ (if_f hb hc)
/-- BitingDoorsModel.restore(I)Z -/
def f_300 (v0 : Option Nat) (v1 : Int32) (h : Hp) : Option (Int32 × Hp) := b_300_0 v0 v1 h
theorem t_300 (d : Nat) (hd : 1 ≤ d) (v0 : Option Nat) (v1 : Int32) (h : Hp) (r : Int32 × Hp) (hb : f_300 v0 v1 h = some r) : Rn d 300 0 [some (va_rf v0), some (.int v1), none] [] h (some (.int r.1), r.2) := by
  unfold f_300 at hb
  exact u_300_0 d hd v0 v1 h r hb
def b_301_48 (v0 : Option Nat)  (h : Hp) : Option (Int32 × Hp) :=
  (gQ 11 14 v0 h).bind fun x1 =>
  (aI 12 x1 (nI 0) h).bind fun x2 =>
  some (x2, h)
theorem u_301_48 (d : Nat) (hd : 1 ≤ d) (v0 : Option Nat) (v1 : Int32)  (h : Hp) (r : Int32 × Hp) (hb : b_301_48 v0  h = some r) : Rn d 301 48 [some (va_rf v0), some (.int v1)] [] h (some (.int r.1), r.2) := by
  unfold b_301_48 at hb
  refine rn_aload_n (i := 0) rfl rfl ?_
  refine rn_gQ (c := 11) (k := 14) rfl (by decide) hb (fun x1 hb => ?_)
  refine rn_iconst (x := (nI 0)) rfl (by decide) ?_
  refine rn_aI rfl hb (fun x2 hb => ?_)
  obtain rfl := Option.some.inj hb
  exact rn_iret rfl rfl
def b_301_55 (v0 : Option Nat)  (h : Hp) : Option (Int32 × Hp) :=
  (gQ 11 14 v0 h).bind fun x1 =>
  (aI 12 x1 (nI 1) h).bind fun x2 =>
  some (x2, h)
theorem u_301_55 (d : Nat) (hd : 1 ≤ d) (v0 : Option Nat) (v1 : Int32)  (h : Hp) (r : Int32 × Hp) (hb : b_301_55 v0  h = some r) : Rn d 301 55 [some (va_rf v0), some (.int v1)] [] h (some (.int r.1), r.2) := by
  unfold b_301_55 at hb
  refine rn_aload_n (i := 0) rfl rfl ?_
  refine rn_gQ (c := 11) (k := 14) rfl (by decide) hb (fun x1 hb => ?_)
  refine rn_iconst (x := (nI 1)) rfl (by decide) ?_
  refine rn_aI rfl hb (fun x2 hb => ?_)
  obtain rfl := Option.some.inj hb
  exact rn_iret rfl rfl
def b_301_62 (v0 : Option Nat)  (h : Hp) : Option (Int32 × Hp) :=
  (grd (rC 11 v0 h)).bind fun _ =>
  (f_203 v0 h).bind fun p1 =>
  some (p1.1, p1.2)
theorem u_301_62 (d : Nat) (hd : 1 ≤ d) (v0 : Option Nat) (v1 : Int32)  (h : Hp) (r : Int32 × Hp) (hb : b_301_62 v0  h = some r) : Rn d 301 62 [some (va_rf v0), some (.int v1)] [] h (some (.int r.1), r.2) := by
  unfold b_301_62 at hb
  obtain ⟨e, rfl⟩ : ∃ e, d = e + 1 := ⟨d - 1, by omega⟩
  refine rn_aload_n (i := 0) rfl rfl ?_
  obtain ⟨hrc, hb⟩ := grd_spec hb
  obtain ⟨p1, hc, hb⟩ := Option.bind_eq_some_iff.mp hb
  refine Rn.call1 (d := e) (As := [va_rf v0]) (rest := []) rfl rfl rfl (by decide) rfl rfl rfl (bd_rcV hrc rfl) (by decide) (bd_lenC (n := 1) rfl (bd_slR bd_slN) rfl) (bd_locC (n := 1) rfl (bd_slR bd_slN) rfl (t_203 e (by omega) v0 h _ hc)) ?_
  obtain rfl := Option.some.inj hb
  exact rn_iret rfl rfl
def b_301_67 (v0 : Option Nat)  (h : Hp) : Option (Int32 × Hp) :=
  (gQ 11 14 v0 h).bind fun x1 =>
  (aI 12 x1 (nI 3) h).bind fun x2 =>
  some (x2, h)
theorem u_301_67 (d : Nat) (hd : 1 ≤ d) (v0 : Option Nat) (v1 : Int32)  (h : Hp) (r : Int32 × Hp) (hb : b_301_67 v0  h = some r) : Rn d 301 67 [some (va_rf v0), some (.int v1)] [] h (some (.int r.1), r.2) := by
  unfold b_301_67 at hb
  refine rn_aload_n (i := 0) rfl rfl ?_
  refine rn_gQ (c := 11) (k := 14) rfl (by decide) hb (fun x1 hb => ?_)
  refine rn_iconst (x := (nI 3)) rfl (by decide) ?_
  refine rn_aI rfl hb (fun x2 hb => ?_)
  obtain rfl := Option.some.inj hb
  exact rn_iret rfl rfl
def b_301_74 (v0 : Option Nat)  (h : Hp) : Option (Int32 × Hp) :=
  (gQ 11 14 v0 h).bind fun x1 =>
  (aI 12 x1 (nI 341) h).bind fun x2 =>
  some (x2, h)
theorem u_301_74 (d : Nat) (hd : 1 ≤ d) (v0 : Option Nat) (v1 : Int32)  (h : Hp) (r : Int32 × Hp) (hb : b_301_74 v0  h = some r) : Rn d 301 74 [some (va_rf v0), some (.int v1)] [] h (some (.int r.1), r.2) := by
  unfold b_301_74 at hb
  refine rn_aload_n (i := 0) rfl rfl ?_
  refine rn_gQ (c := 11) (k := 14) rfl (by decide) hb (fun x1 hb => ?_)
  refine rn_sipush (x := (nI 341)) rfl (by decide) ?_
  refine rn_aI rfl hb (fun x2 hb => ?_)
  obtain rfl := Option.some.inj hb
  exact rn_iret rfl rfl
def b_301_83 (v0 : Option Nat)  (h : Hp) : Option (Int32 × Hp) :=
  (gI 11 2 v0 h).bind fun x1 =>
  some (x1, h)
theorem u_301_83 (d : Nat) (hd : 1 ≤ d) (v0 : Option Nat) (v1 : Int32)  (h : Hp) (r : Int32 × Hp) (hb : b_301_83 v0  h = some r) : Rn d 301 83 [some (va_rf v0), some (.int v1)] [] h (some (.int r.1), r.2) := by
  unfold b_301_83 at hb
  refine rn_aload_n (i := 0) rfl rfl ?_
  refine rn_gI (c := 11) (k := 2) rfl (by decide) hb (fun x1 hb => ?_)
  obtain rfl := Option.some.inj hb
  exact rn_iret rfl rfl
def b_301_88   (h : Hp) : Option (Int32 × Hp) :=
  some ((-1 : Int32), h)
theorem u_301_88 (d : Nat) (hd : 1 ≤ d) (v0 : Option Nat) (v1 : Int32)  (h : Hp) (r : Int32 × Hp) (hb : b_301_88   h = some r) : Rn d 301 88 [some (va_rf v0), some (.int v1)] [] h (some (.int r.1), r.2) := by
  unfold b_301_88 at hb
  refine rn_iconst (x := (-1 : Int32)) rfl (by decide) ?_
  obtain rfl := Option.some.inj hb
  exact rn_iret rfl rfl
def b_301_0 (v0 : Option Nat) (v1 : Int32)  (h : Hp) : Option (Int32 × Hp) :=
  (pI 11 0 v0 (nI 0) h).bind fun h1 =>
  (grd (rC 11 v0 h1)).bind fun _ =>
  (f_202 v0 h1).bind fun p2 =>
  if v1 = nI 0 then b_301_48 v0  p2 else if v1 = nI 1 then b_301_55 v0  p2 else if v1 = nI 2 then b_301_62 v0  p2 else if v1 = nI 3 then b_301_67 v0  p2 else if v1 = nI 4 then b_301_74 v0  p2 else if v1 = nI 5 then b_301_83 v0  p2 else b_301_88   p2
theorem u_301_0 (d : Nat) (hd : 1 ≤ d) (v0 : Option Nat) (v1 : Int32)  (h : Hp) (r : Int32 × Hp) (hb : b_301_0 v0 v1  h = some r) : Rn d 301 0 [some (va_rf v0), some (.int v1)] [] h (some (.int r.1), r.2) := by
  unfold b_301_0 at hb
  obtain ⟨e, rfl⟩ : ∃ e, d = e + 1 := ⟨d - 1, by omega⟩
  refine rn_aload_n (i := 0) rfl rfl ?_
  refine rn_iconst (x := (nI 0)) rfl (by decide) ?_
  refine rn_pI (c := 11) (k := 0) rfl (by decide) hb (fun h1 hb => ?_)
  refine rn_aload_n (i := 0) rfl rfl ?_
  obtain ⟨hrc, hb⟩ := grd_spec hb
  obtain ⟨p2, hc, hb⟩ := Option.bind_eq_some_iff.mp hb
  refine Rn.call0 (d := e) (As := [va_rf v0]) (rest := []) rfl rfl rfl (by decide) rfl rfl rfl (bd_rcV hrc rfl) (by decide) (bd_lenC (n := 1) rfl (bd_slR bd_slN) rfl) (bd_locC (n := 1) rfl (bd_slR bd_slN) rfl (t_202 e (by omega) v0 h1 _ hc)) ?_
  refine rn_iload_n (i := 1) rfl rfl ?_
  by_cases hc0 : v1 = nI 0
  · rw [if_pos hc0] at hb; refine rn_tsw (t := 48) rfl (by rw [hc0]; decide) ?_; exact u_301_48 (e + 1) hd v0 v1  p2 _ hb
  rw [if_neg hc0] at hb
  by_cases hc1 : v1 = nI 1
  · rw [if_pos hc1] at hb; refine rn_tsw (t := 55) rfl (by rw [hc1]; decide) ?_; exact u_301_55 (e + 1) hd v0 v1  p2 _ hb
  rw [if_neg hc1] at hb
  by_cases hc2 : v1 = nI 2
  · rw [if_pos hc2] at hb; refine rn_tsw (t := 62) rfl (by rw [hc2]; decide) ?_; exact u_301_62 (e + 1) hd v0 v1  p2 _ hb
  rw [if_neg hc2] at hb
  by_cases hc3 : v1 = nI 3
  · rw [if_pos hc3] at hb; refine rn_tsw (t := 67) rfl (by rw [hc3]; decide) ?_; exact u_301_67 (e + 1) hd v0 v1  p2 _ hb
  rw [if_neg hc3] at hb
  by_cases hc4 : v1 = nI 4
  · rw [if_pos hc4] at hb; refine rn_tsw (t := 74) rfl (by rw [hc4]; decide) ?_; exact u_301_74 (e + 1) hd v0 v1  p2 _ hb
  rw [if_neg hc4] at hb
  by_cases hc5 : v1 = nI 5
  · rw [if_pos hc5] at hb; refine rn_tsw (t := 83) rfl (by rw [hc5]; decide) ?_; exact u_301_83 (e + 1) hd v0 v1  p2 _ hb
  rw [if_neg hc5] at hb
  have z0 := sw_ne hc0 (by decide)
  have z1 := sw_ne hc1 (by decide)
  have z2 := sw_ne hc2 (by decide)
  have z3 := sw_ne hc3 (by decide)
  have z4 := sw_ne hc4 (by decide)
  have z5 := sw_ne hc5 (by decide)
  refine rn_tsw (t := 88) rfl (swT_d (by omega) rfl) ?_
  exact u_301_88 (e + 1) hd v0 v1  p2 _ hb
/-- BitingDoorsModel.count(I)I -/
def f_301 (v0 : Option Nat) (v1 : Int32) (h : Hp) : Option (Int32 × Hp) := b_301_0 v0 v1 h
theorem t_301 (d : Nat) (hd : 1 ≤ d) (v0 : Option Nat) (v1 : Int32) (h : Hp) (r : Int32 × Hp) (hb : f_301 v0 v1 h = some r) : Rn d 301 0 [some (va_rf v0), some (.int v1)] [] h (some (.int r.1), r.2) := by
  unfold f_301 at hb
  exact u_301_0 d hd v0 v1 h r hb
