def b_256_124   (h : Hp) : Option (Int32 × Hp) :=
  (grd (decide ((nI 0) = 0 ∨ (nI 0) = 1))).bind fun _ => some ((nI 0), h)
theorem u_256_124 (d : Nat) (hd : 1 ≤ d) (v0 : Option Nat) (v1 : Int32) (v2 : Int32) (v3 : Option (Int32)) (v4 : Option (Int32)) (v5 : Option (Int32))  (h : Hp) (r : Int32 × Hp) (hb : b_256_124   h = some r) : Rn d 256 124 [some (va_rf v0), some (.int v1), some (.int v2), v3.map Value.int, v4.map Value.int, v5.map Value.int] [] h (some (.int r.1), r.2) := by
  unfold b_256_124 at hb
  refine rn_iconst (x := (nI 0)) rfl (by decide) ?_
  obtain ⟨hz, hb⟩ := grd_spec hb
  obtain rfl := Option.some.inj hb
  exact rn_zret rfl rfl (of_decide_eq_true hz)
def b_256_118 (k12 : Option Nat → Int32 → Int32 → Hp → Option (Int32 × Hp)) (v0 : Option Nat) (v1 : Int32) (v2 : Int32)  (h : Hp) : Option (Int32 × Hp) :=
  bnd (v2 + (nI 1)) fun x1 =>
  k12 v0 v1 x1 h
theorem u_256_118 (d : Nat) (hd : 1 ≤ d) (k12 : Option Nat → Int32 → Int32 → Hp → Option (Int32 × Hp)) (K12 : ∀ (v0 : Option Nat) (v1 : Int32) (v2 : Int32) (v3 : Option (Int32)) (v4 : Option (Int32)) (v5 : Option (Int32)) (h : Hp) (r : Int32 × Hp), k12 v0 v1 v2 h = some r → Rn d 256 12 [some (va_rf v0), some (.int v1), some (.int v2), v3.map Value.int, v4.map Value.int, v5.map Value.int] [] h (some (.int r.1), r.2)) (v0 : Option Nat) (v1 : Int32) (v2 : Int32) (v3 : Int32) (v4 : Option (Int32)) (v5 : Option (Int32))  (h : Hp) (r : Int32 × Hp) (hb : b_256_118 k12 v0 v1 v2  h = some r) : Rn d 256 118 [some (va_rf v0), some (.int v1), some (.int v2), some (.int v3), v4.map Value.int, v5.map Value.int] [] h (some (.int r.1), r.2) := by
  unfold b_256_118 at hb
  obtain ⟨x1, ex1, hb⟩ := bnd_spec hb
  refine rn_iinc (i := 2) (y := x1) (L1 := [some (va_rf v0), some (.int v1), some (.int x1), some (.int v3), v4.map Value.int, v5.map Value.int]) rfl rfl (Nat.le_of_ble_eq_true rfl) (Or.inr rfl) (by rw [ex1]; rfl) rfl ?_
  refine rn_goto rfl rfl ?_
  exact K12 v0 v1 x1 (some v3) v4 v5 h _ hb
def b_256_110   (h : Hp) : Option (Int32 × Hp) :=
  (grd (decide ((nI 1) = 0 ∨ (nI 1) = 1))).bind fun _ => some ((nI 1), h)
theorem u_256_110 (d : Nat) (hd : 1 ≤ d) (v0 : Option Nat) (v1 : Int32) (v2 : Int32) (v3 : Int32) (v4 : Int32) (v5 : Int32)  (h : Hp) (r : Int32 × Hp) (hb : b_256_110   h = some r) : Rn d 256 110 [some (va_rf v0), some (.int v1), some (.int v2), some (.int v3), some (.int v4), some (.int v5)] [] h (some (.int r.1), r.2) := by
  unfold b_256_110 at hb
  refine rn_iconst (x := (nI 1)) rfl (by decide) ?_
  obtain ⟨hz, hb⟩ := grd_spec hb
  obtain rfl := Option.some.inj hb
  exact rn_zret rfl rfl (of_decide_eq_true hz)
def b_256_112 (k12 : Option Nat → Int32 → Int32 → Hp → Option (Int32 × Hp)) (k19 : Option Nat → Int32 → Int32 → Int32 → Hp → Option (Int32 × Hp)) (v0 : Option Nat) (v1 : Int32) (v2 : Int32) (v3 : Int32)  (h : Hp) : Option (Int32 × Hp) :=
  bnd (v3 + (nI 1)) fun x1 =>
  k19 v0 v1 v2 x1 h
theorem u_256_112 (d : Nat) (hd : 1 ≤ d) (k12 : Option Nat → Int32 → Int32 → Hp → Option (Int32 × Hp)) (K12 : ∀ (v0 : Option Nat) (v1 : Int32) (v2 : Int32) (v3 : Option (Int32)) (v4 : Option (Int32)) (v5 : Option (Int32)) (h : Hp) (r : Int32 × Hp), k12 v0 v1 v2 h = some r → Rn d 256 12 [some (va_rf v0), some (.int v1), some (.int v2), v3.map Value.int, v4.map Value.int, v5.map Value.int] [] h (some (.int r.1), r.2)) (k19 : Option Nat → Int32 → Int32 → Int32 → Hp → Option (Int32 × Hp)) (K19 : ∀ (v0 : Option Nat) (v1 : Int32) (v2 : Int32) (v3 : Int32) (v4 : Option (Int32)) (v5 : Option (Int32)) (h : Hp) (r : Int32 × Hp), k19 v0 v1 v2 v3 h = some r → Rn d 256 19 [some (va_rf v0), some (.int v1), some (.int v2), some (.int v3), v4.map Value.int, v5.map Value.int] [] h (some (.int r.1), r.2)) (v0 : Option Nat) (v1 : Int32) (v2 : Int32) (v3 : Int32) (v4 : Int32) (v5 : Int32)  (h : Hp) (r : Int32 × Hp) (hb : b_256_112 k12 k19 v0 v1 v2 v3  h = some r) : Rn d 256 112 [some (va_rf v0), some (.int v1), some (.int v2), some (.int v3), some (.int v4), some (.int v5)] [] h (some (.int r.1), r.2) := by
  unfold b_256_112 at hb
  obtain ⟨x1, ex1, hb⟩ := bnd_spec hb
  refine rn_iinc (i := 3) (y := x1) (L1 := [some (va_rf v0), some (.int v1), some (.int v2), some (.int x1), some (.int v4), some (.int v5)]) rfl rfl (Nat.le_of_ble_eq_true rfl) (Or.inr rfl) (by rw [ex1]; rfl) rfl ?_
  refine rn_goto rfl rfl ?_
  exact K19 v0 v1 v2 x1 (some v4) (some v5) h _ hb
def b_256_87 (k12 : Option Nat → Int32 → Int32 → Hp → Option (Int32 × Hp)) (k19 : Option Nat → Int32 → Int32 → Int32 → Hp → Option (Int32 × Hp)) (v0 : Option Nat) (v1 : Int32) (v2 : Int32) (v3 : Int32) (v4 : Int32) (v5 : Int32)  (h : Hp) : Option (Int32 × Hp) :=
  (gQ 11 14 v0 h).bind fun x1 =>
  (aI 12 x1 (((nI 210) + ((nI 10) * v5)) + v4) h).bind fun x2 =>
  if ¬ x2 = (v1 + (nI 1)) then b_256_112 k12 k19 v0 v1 v2 v3  h else b_256_110   h
theorem u_256_87 (d : Nat) (hd : 1 ≤ d) (k12 : Option Nat → Int32 → Int32 → Hp → Option (Int32 × Hp)) (K12 : ∀ (v0 : Option Nat) (v1 : Int32) (v2 : Int32) (v3 : Option (Int32)) (v4 : Option (Int32)) (v5 : Option (Int32)) (h : Hp) (r : Int32 × Hp), k12 v0 v1 v2 h = some r → Rn d 256 12 [some (va_rf v0), some (.int v1), some (.int v2), v3.map Value.int, v4.map Value.int, v5.map Value.int] [] h (some (.int r.1), r.2)) (k19 : Option Nat → Int32 → Int32 → Int32 → Hp → Option (Int32 × Hp)) (K19 : ∀ (v0 : Option Nat) (v1 : Int32) (v2 : Int32) (v3 : Int32) (v4 : Option (Int32)) (v5 : Option (Int32)) (h : Hp) (r : Int32 × Hp), k19 v0 v1 v2 v3 h = some r → Rn d 256 19 [some (va_rf v0), some (.int v1), some (.int v2), some (.int v3), v4.map Value.int, v5.map Value.int] [] h (some (.int r.1), r.2)) (v0 : Option Nat) (v1 : Int32) (v2 : Int32) (v3 : Int32) (v4 : Int32) (v5 : Int32)  (h : Hp) (r : Int32 × Hp) (hb : b_256_87 k12 k19 v0 v1 v2 v3 v4 v5  h = some r) : Rn d 256 87 [some (va_rf v0), some (.int v1), some (.int v2), some (.int v3), some (.int v4), some (.int v5)] [] h (some (.int r.1), r.2) := by
  unfold b_256_87 at hb
  refine rn_aload_n (i := 0) rfl rfl ?_
  refine rn_gQ (c := 11) (k := 14) rfl (by decide) hb (fun x1 hb => ?_)
  refine rn_sipush (x := (nI 210)) rfl (by decide) ?_
  refine rn_bipush (x := (nI 10)) rfl (by decide) ?_
  refine rn_iload (i := 5) rfl rfl ?_
  refine rn_imul rfl ?_
  refine rn_iadd rfl ?_
  refine rn_iload (i := 4) rfl rfl ?_
  refine rn_iadd rfl ?_
  refine rn_aI rfl hb (fun x2 hb => ?_)
  refine rn_iload_n (i := 1) rfl rfl ?_
  refine rn_iconst (x := (nI 1)) rfl (by decide) ?_
  refine rn_iadd rfl ?_
  refine rn_icmp_ne rfl rfl (fun hc => ?_) (fun hc => ?_)
  · exact u_256_112 d hd k12 K12 k19 K19 v0 v1 v2 v3 v4 v5  h _ (if_t hb hc)
  · exact u_256_110 d hd v0 v1 v2 v3 v4 v5  h _ (if_f hb hc)
def b_256_68 (k12 : Option Nat → Int32 → Int32 → Hp → Option (Int32 × Hp)) (k19 : Option Nat → Int32 → Int32 → Int32 → Hp → Option (Int32 × Hp)) (v0 : Option Nat) (v1 : Int32) (v2 : Int32) (v3 : Int32) (v4 : Int32) (v5 : Int32)  (h : Hp) : Option (Int32 × Hp) :=
  (gQ 11 44 v0 h).bind fun x1 =>
  (aI 12 x1 (((nI 10) * v5) + v4) h).bind fun x2 =>
  if x2 = (v1 + (nI 1)) then b_256_110   h else b_256_87 k12 k19 v0 v1 v2 v3 v4 v5  h
theorem u_256_68 (d : Nat) (hd : 1 ≤ d) (k12 : Option Nat → Int32 → Int32 → Hp → Option (Int32 × Hp)) (K12 : ∀ (v0 : Option Nat) (v1 : Int32) (v2 : Int32) (v3 : Option (Int32)) (v4 : Option (Int32)) (v5 : Option (Int32)) (h : Hp) (r : Int32 × Hp), k12 v0 v1 v2 h = some r → Rn d 256 12 [some (va_rf v0), some (.int v1), some (.int v2), v3.map Value.int, v4.map Value.int, v5.map Value.int] [] h (some (.int r.1), r.2)) (k19 : Option Nat → Int32 → Int32 → Int32 → Hp → Option (Int32 × Hp)) (K19 : ∀ (v0 : Option Nat) (v1 : Int32) (v2 : Int32) (v3 : Int32) (v4 : Option (Int32)) (v5 : Option (Int32)) (h : Hp) (r : Int32 × Hp), k19 v0 v1 v2 v3 h = some r → Rn d 256 19 [some (va_rf v0), some (.int v1), some (.int v2), some (.int v3), v4.map Value.int, v5.map Value.int] [] h (some (.int r.1), r.2)) (v0 : Option Nat) (v1 : Int32) (v2 : Int32) (v3 : Int32) (v4 : Int32) (v5 : Int32)  (h : Hp) (r : Int32 × Hp) (hb : b_256_68 k12 k19 v0 v1 v2 v3 v4 v5  h = some r) : Rn d 256 68 [some (va_rf v0), some (.int v1), some (.int v2), some (.int v3), some (.int v4), some (.int v5)] [] h (some (.int r.1), r.2) := by
  unfold b_256_68 at hb
  refine rn_aload_n (i := 0) rfl rfl ?_
  refine rn_gQ (c := 11) (k := 44) rfl (by decide) hb (fun x1 hb => ?_)
  refine rn_bipush (x := (nI 10)) rfl (by decide) ?_
  refine rn_iload (i := 5) rfl rfl ?_
  refine rn_imul rfl ?_
  refine rn_iload (i := 4) rfl rfl ?_
  refine rn_iadd rfl ?_
  refine rn_aI rfl hb (fun x2 hb => ?_)
  refine rn_iload_n (i := 1) rfl rfl ?_
  refine rn_iconst (x := (nI 1)) rfl (by decide) ?_
  refine rn_iadd rfl ?_
  refine rn_icmp_eq rfl rfl (fun hc => ?_) (fun hc => ?_)
  · exact u_256_110 d hd v0 v1 v2 v3 v4 v5  h _ (if_t hb hc)
  · exact u_256_87 d hd k12 K12 k19 K19 v0 v1 v2 v3 v4 v5  h _ (if_f hb hc)
def b_256_65 (k12 : Option Nat → Int32 → Int32 → Hp → Option (Int32 × Hp)) (k19 : Option Nat → Int32 → Int32 → Int32 → Hp → Option (Int32 × Hp)) (v0 : Option Nat) (v1 : Int32) (v2 : Int32) (v3 : Int32)  (h : Hp) : Option (Int32 × Hp) :=
  b_256_112 k12 k19 v0 v1 v2 v3  h
theorem u_256_65 (d : Nat) (hd : 1 ≤ d) (k12 : Option Nat → Int32 → Int32 → Hp → Option (Int32 × Hp)) (K12 : ∀ (v0 : Option Nat) (v1 : Int32) (v2 : Int32) (v3 : Option (Int32)) (v4 : Option (Int32)) (v5 : Option (Int32)) (h : Hp) (r : Int32 × Hp), k12 v0 v1 v2 h = some r → Rn d 256 12 [some (va_rf v0), some (.int v1), some (.int v2), v3.map Value.int, v4.map Value.int, v5.map Value.int] [] h (some (.int r.1), r.2)) (k19 : Option Nat → Int32 → Int32 → Int32 → Hp → Option (Int32 × Hp)) (K19 : ∀ (v0 : Option Nat) (v1 : Int32) (v2 : Int32) (v3 : Int32) (v4 : Option (Int32)) (v5 : Option (Int32)) (h : Hp) (r : Int32 × Hp), k19 v0 v1 v2 v3 h = some r → Rn d 256 19 [some (va_rf v0), some (.int v1), some (.int v2), some (.int v3), v4.map Value.int, v5.map Value.int] [] h (some (.int r.1), r.2)) (v0 : Option Nat) (v1 : Int32) (v2 : Int32) (v3 : Int32) (v4 : Int32) (v5 : Int32)  (h : Hp) (r : Int32 × Hp) (hb : b_256_65 k12 k19 v0 v1 v2 v3  h = some r) : Rn d 256 65 [some (va_rf v0), some (.int v1), some (.int v2), some (.int v3), some (.int v4), some (.int v5)] [] h (some (.int r.1), r.2) := by
  unfold b_256_65 at hb
  refine rn_goto rfl rfl ?_
  exact u_256_112 d hd k12 K12 k19 K19 v0 v1 v2 v3 v4 v5  h _ hb
def b_256_54 (k12 : Option Nat → Int32 → Int32 → Hp → Option (Int32 × Hp)) (k19 : Option Nat → Int32 → Int32 → Int32 → Hp → Option (Int32 × Hp)) (v0 : Option Nat) (v1 : Int32) (v2 : Int32) (v3 : Int32) (v4 : Int32) (v5 : Int32)  (h : Hp) : Option (Int32 × Hp) :=
  (grd (rC 11 v0 h)).bind fun _ =>
  (f_206 v0 v4 v5 h).bind fun p1 =>
  if ¬ p1.1 = 0 then b_256_68 k12 k19 v0 v1 v2 v3 v4 v5  p1.2 else b_256_65 k12 k19 v0 v1 v2 v3  p1.2
theorem u_256_54 (d : Nat) (hd : 1 ≤ d) (k12 : Option Nat → Int32 → Int32 → Hp → Option (Int32 × Hp)) (K12 : ∀ (v0 : Option Nat) (v1 : Int32) (v2 : Int32) (v3 : Option (Int32)) (v4 : Option (Int32)) (v5 : Option (Int32)) (h : Hp) (r : Int32 × Hp), k12 v0 v1 v2 h = some r → Rn d 256 12 [some (va_rf v0), some (.int v1), some (.int v2), v3.map Value.int, v4.map Value.int, v5.map Value.int] [] h (some (.int r.1), r.2)) (k19 : Option Nat → Int32 → Int32 → Int32 → Hp → Option (Int32 × Hp)) (K19 : ∀ (v0 : Option Nat) (v1 : Int32) (v2 : Int32) (v3 : Int32) (v4 : Option (Int32)) (v5 : Option (Int32)) (h : Hp) (r : Int32 × Hp), k19 v0 v1 v2 v3 h = some r → Rn d 256 19 [some (va_rf v0), some (.int v1), some (.int v2), some (.int v3), v4.map Value.int, v5.map Value.int] [] h (some (.int r.1), r.2)) (v0 : Option Nat) (v1 : Int32) (v2 : Int32) (v3 : Int32) (v4 : Int32) (v5 : Int32)  (h : Hp) (r : Int32 × Hp) (hb : b_256_54 k12 k19 v0 v1 v2 v3 v4 v5  h = some r) : Rn d 256 54 [some (va_rf v0), some (.int v1), some (.int v2), some (.int v3), some (.int v4), some (.int v5)] [] h (some (.int r.1), r.2) := by
  unfold b_256_54 at hb
  obtain ⟨e, rfl⟩ : ∃ e, d = e + 1 := ⟨d - 1, by omega⟩
  refine rn_aload_n (i := 0) rfl rfl ?_
  refine rn_iload (i := 4) rfl rfl ?_
  refine rn_iload (i := 5) rfl rfl ?_
  obtain ⟨hrc, hb⟩ := grd_spec hb
  obtain ⟨p1, hc, hb⟩ := Option.bind_eq_some_iff.mp hb
  refine Rn.call1 (d := e) (As := [va_rf v0, .int v4, .int v5]) (rest := []) rfl rfl rfl (by decide) rfl rfl rfl (bd_rcV hrc rfl) (by decide) (bd_lenC (n := 3) rfl (bd_slR (bd_slI (bd_slI bd_slN))) rfl) (bd_locC (n := 3) rfl (bd_slR (bd_slI (bd_slI bd_slN))) rfl (t_206 e (by omega) v0 v4 v5 h _ hc)) ?_
  refine rn_if_ne rfl rfl (fun hc => ?_) (fun hc => ?_)
  · exact u_256_68 (e + 1) hd k12 K12 k19 K19 v0 v1 v2 v3 v4 v5  p1.2 _ (if_t hb hc)
  · exact u_256_65 (e + 1) hd k12 K12 k19 K19 v0 v1 v2 v3 v4 v5  p1.2 _ (if_f hb hc)
def b_256_50 (k12 : Option Nat → Int32 → Int32 → Hp → Option (Int32 × Hp)) (k19 : Option Nat → Int32 → Int32 → Int32 → Hp → Option (Int32 × Hp)) (v0 : Option Nat) (v1 : Int32) (v2 : Int32) (v3 : Int32) (v4 : Int32) (v5 : Int32)  (h : Hp) : Option (Int32 × Hp) :=
  if v2 = 0 then b_256_112 k12 k19 v0 v1 v2 v3  h else b_256_54 k12 k19 v0 v1 v2 v3 v4 v5  h
theorem u_256_50 (d : Nat) (hd : 1 ≤ d) (k12 : Option Nat → Int32 → Int32 → Hp → Option (Int32 × Hp)) (K12 : ∀ (v0 : Option Nat) (v1 : Int32) (v2 : Int32) (v3 : Option (Int32)) (v4 : Option (Int32)) (v5 : Option (Int32)) (h : Hp) (r : Int32 × Hp), k12 v0 v1 v2 h = some r → Rn d 256 12 [some (va_rf v0), some (.int v1), some (.int v2), v3.map Value.int, v4.map Value.int, v5.map Value.int] [] h (some (.int r.1), r.2)) (k19 : Option Nat → Int32 → Int32 → Int32 → Hp → Option (Int32 × Hp)) (K19 : ∀ (v0 : Option Nat) (v1 : Int32) (v2 : Int32) (v3 : Int32) (v4 : Option (Int32)) (v5 : Option (Int32)) (h : Hp) (r : Int32 × Hp), k19 v0 v1 v2 v3 h = some r → Rn d 256 19 [some (va_rf v0), some (.int v1), some (.int v2), some (.int v3), v4.map Value.int, v5.map Value.int] [] h (some (.int r.1), r.2)) (v0 : Option Nat) (v1 : Int32) (v2 : Int32) (v3 : Int32) (v4 : Int32) (v5 : Int32)  (h : Hp) (r : Int32 × Hp) (hb : b_256_50 k12 k19 v0 v1 v2 v3 v4 v5  h = some r) : Rn d 256 50 [some (va_rf v0), some (.int v1), some (.int v2), some (.int v3), some (.int v4), some (.int v5)] [] h (some (.int r.1), r.2) := by
  unfold b_256_50 at hb
  refine rn_iload_n (i := 2) rfl rfl ?_
  refine rn_if_eq rfl rfl (fun hc => ?_) (fun hc => ?_)
  · exact u_256_112 d hd k12 K12 k19 K19 v0 v1 v2 v3 v4 v5  h _ (if_t hb hc)
  · exact u_256_54 d hd k12 K12 k19 K19 v0 v1 v2 v3 v4 v5  h _ (if_f hb hc)
def b_256_24 (k12 : Option Nat → Int32 → Int32 → Hp → Option (Int32 × Hp)) (k19 : Option Nat → Int32 → Int32 → Int32 → Hp → Option (Int32 × Hp)) (v0 : Option Nat) (v1 : Int32) (v2 : Int32) (v3 : Int32)  (h : Hp) : Option (Int32 × Hp) :=
  (gI 11 45 v0 h).bind fun x1 =>
  (grd (decide (¬ ((nI 10) : Int32) = 0))).bind fun _ =>
  bnd (((x1 - x1 / (nI 10) * (nI 10)) + v3)) fun x2 =>
  (gI 11 45 v0 h).bind fun x3 =>
  (grd (decide (¬ ((nI 10) : Int32) = 0))).bind fun _ =>
  bnd (((x3 / (nI 10)) + v2)) fun x4 =>
  if ¬ v3 = 0 then b_256_54 k12 k19 v0 v1 v2 v3 x2 x4  h else b_256_50 k12 k19 v0 v1 v2 v3 x2 x4  h
theorem u_256_24 (d : Nat) (hd : 1 ≤ d) (k12 : Option Nat → Int32 → Int32 → Hp → Option (Int32 × Hp)) (K12 : ∀ (v0 : Option Nat) (v1 : Int32) (v2 : Int32) (v3 : Option (Int32)) (v4 : Option (Int32)) (v5 : Option (Int32)) (h : Hp) (r : Int32 × Hp), k12 v0 v1 v2 h = some r → Rn d 256 12 [some (va_rf v0), some (.int v1), some (.int v2), v3.map Value.int, v4.map Value.int, v5.map Value.int] [] h (some (.int r.1), r.2)) (k19 : Option Nat → Int32 → Int32 → Int32 → Hp → Option (Int32 × Hp)) (K19 : ∀ (v0 : Option Nat) (v1 : Int32) (v2 : Int32) (v3 : Int32) (v4 : Option (Int32)) (v5 : Option (Int32)) (h : Hp) (r : Int32 × Hp), k19 v0 v1 v2 v3 h = some r → Rn d 256 19 [some (va_rf v0), some (.int v1), some (.int v2), some (.int v3), v4.map Value.int, v5.map Value.int] [] h (some (.int r.1), r.2)) (v0 : Option Nat) (v1 : Int32) (v2 : Int32) (v3 : Int32) (v4 : Option (Int32)) (v5 : Option (Int32))  (h : Hp) (r : Int32 × Hp) (hb : b_256_24 k12 k19 v0 v1 v2 v3  h = some r) : Rn d 256 24 [some (va_rf v0), some (.int v1), some (.int v2), some (.int v3), v4.map Value.int, v5.map Value.int] [] h (some (.int r.1), r.2) := by
  unfold b_256_24 at hb
  refine rn_aload_n (i := 0) rfl rfl ?_
  refine rn_gI (c := 11) (k := 45) rfl (by decide) hb (fun x1 hb => ?_)
  refine rn_bipush (x := (nI 10)) rfl (by decide) ?_
  obtain ⟨hy, hb⟩ := grd_spec hb
  refine rn_irem rfl (of_decide_eq_true hy) ?_
  refine rn_iload_n (i := 3) rfl rfl ?_
  refine rn_iadd rfl ?_
  obtain ⟨x2, ex2, hb⟩ := bnd_spec hb
  refine rn_istore (i := 4) (L1 := [some (va_rf v0), some (.int v1), some (.int v2), some (.int v3), some (.int x2), v5.map Value.int]) rfl (Nat.le_of_ble_eq_true rfl) (Or.inr rfl) (by rw [ex2]; rfl) ?_
  refine rn_aload_n (i := 0) rfl rfl ?_
  refine rn_gI (c := 11) (k := 45) rfl (by decide) hb (fun x3 hb => ?_)
  refine rn_bipush (x := (nI 10)) rfl (by decide) ?_
  obtain ⟨hy, hb⟩ := grd_spec hb
  refine rn_idiv rfl (of_decide_eq_true hy) ?_
  refine rn_iload_n (i := 2) rfl rfl ?_
  refine rn_iadd rfl ?_
  obtain ⟨x4, ex4, hb⟩ := bnd_spec hb
  refine rn_istore (i := 5) (L1 := [some (va_rf v0), some (.int v1), some (.int v2), some (.int v3), some (.int x2), some (.int x4)]) rfl (Nat.le_of_ble_eq_true rfl) (Or.inr rfl) (by rw [ex4]; rfl) ?_
  refine rn_iload_n (i := 3) rfl rfl ?_
  refine rn_if_ne rfl rfl (fun hc => ?_) (fun hc => ?_)
  · exact u_256_54 d hd k12 K12 k19 K19 v0 v1 v2 v3 x2 x4  h _ (if_t hb hc)
  · exact u_256_50 d hd k12 K12 k19 K19 v0 v1 v2 v3 x2 x4  h _ (if_f hb hc)
def b_256_19 (k12 : Option Nat → Int32 → Int32 → Hp → Option (Int32 × Hp)) (k19 : Option Nat → Int32 → Int32 → Int32 → Hp → Option (Int32 × Hp)) (v0 : Option Nat) (v1 : Int32) (v2 : Int32) (v3 : Int32)  (h : Hp) : Option (Int32 × Hp) :=
  if (nI 2) ≤ v3 then b_256_118 k12 v0 v1 v2  h else b_256_24 k12 k19 v0 v1 v2 v3  h
theorem u_256_19 (d : Nat) (hd : 1 ≤ d) (k12 : Option Nat → Int32 → Int32 → Hp → Option (Int32 × Hp)) (K12 : ∀ (v0 : Option Nat) (v1 : Int32) (v2 : Int32) (v3 : Option (Int32)) (v4 : Option (Int32)) (v5 : Option (Int32)) (h : Hp) (r : Int32 × Hp), k12 v0 v1 v2 h = some r → Rn d 256 12 [some (va_rf v0), some (.int v1), some (.int v2), v3.map Value.int, v4.map Value.int, v5.map Value.int] [] h (some (.int r.1), r.2)) (k19 : Option Nat → Int32 → Int32 → Int32 → Hp → Option (Int32 × Hp)) (K19 : ∀ (v0 : Option Nat) (v1 : Int32) (v2 : Int32) (v3 : Int32) (v4 : Option (Int32)) (v5 : Option (Int32)) (h : Hp) (r : Int32 × Hp), k19 v0 v1 v2 v3 h = some r → Rn d 256 19 [some (va_rf v0), some (.int v1), some (.int v2), some (.int v3), v4.map Value.int, v5.map Value.int] [] h (some (.int r.1), r.2)) (v0 : Option Nat) (v1 : Int32) (v2 : Int32) (v3 : Int32) (v4 : Option (Int32)) (v5 : Option (Int32))  (h : Hp) (r : Int32 × Hp) (hb : b_256_19 k12 k19 v0 v1 v2 v3  h = some r) : Rn d 256 19 [some (va_rf v0), some (.int v1), some (.int v2), some (.int v3), v4.map Value.int, v5.map Value.int] [] h (some (.int r.1), r.2) := by
  unfold b_256_19 at hb
  refine rn_iload_n (i := 3) rfl rfl ?_
  refine rn_iconst (x := (nI 2)) rfl (by decide) ?_
  refine rn_icmp_ge rfl rfl (fun hc => ?_) (fun hc => ?_)
  · exact u_256_118 d hd k12 K12 v0 v1 v2 v3 v4 v5  h _ (if_t hb hc)
  · exact u_256_24 d hd k12 K12 k19 K19 v0 v1 v2 v3 v4 v5  h _ (if_f hb hc)
def l_256_19 (k12 : Option Nat → Int32 → Int32 → Hp → Option (Int32 × Hp)) : Nat → Option Nat → Int32 → Int32 → Int32 → Hp → Option (Int32 × Hp)
  | 0, _, _, _, _, _ => none
  | n + 1, v0, v1, v2, v3, h => b_256_19 k12 (l_256_19 k12 n) v0 v1 v2 v3 h
theorem w_256_19 (d : Nat) (hd : 1 ≤ d) (k12 : Option Nat → Int32 → Int32 → Hp → Option (Int32 × Hp)) (K12 : ∀ (v0 : Option Nat) (v1 : Int32) (v2 : Int32) (v3 : Option (Int32)) (v4 : Option (Int32)) (v5 : Option (Int32)) (h : Hp) (r : Int32 × Hp), k12 v0 v1 v2 h = some r → Rn d 256 12 [some (va_rf v0), some (.int v1), some (.int v2), v3.map Value.int, v4.map Value.int, v5.map Value.int] [] h (some (.int r.1), r.2)) : ∀ (n : Nat) (v0 : Option Nat) (v1 : Int32) (v2 : Int32) (v3 : Int32) (v4 : Option (Int32)) (v5 : Option (Int32)) (h : Hp) (r : Int32 × Hp), l_256_19 k12 n v0 v1 v2 v3 h = some r → Rn d 256 19 [some (va_rf v0), some (.int v1), some (.int v2), some (.int v3), v4.map Value.int, v5.map Value.int] [] h (some (.int r.1), r.2) := by
  intro n
  induction n with
  | zero => intro v0 v1 v2 v3 v4 v5 h r hb; cases hb
  | succ n ih => intro v0 v1 v2 v3 v4 v5 h r hb; exact u_256_19 d hd k12 K12 (l_256_19 k12 n) ih v0 v1 v2 v3 v4 v5 h r hb
def b_256_17 (k12 : Option Nat → Int32 → Int32 → Hp → Option (Int32 × Hp)) (v0 : Option Nat) (v1 : Int32) (v2 : Int32)  (h : Hp) : Option (Int32 × Hp) :=
  bnd ((-1 : Int32)) fun x1 =>
  l_256_19 k12 FU v0 v1 v2 x1 h
theorem u_256_17 (d : Nat) (hd : 1 ≤ d) (k12 : Option Nat → Int32 → Int32 → Hp → Option (Int32 × Hp)) (K12 : ∀ (v0 : Option Nat) (v1 : Int32) (v2 : Int32) (v3 : Option (Int32)) (v4 : Option (Int32)) (v5 : Option (Int32)) (h : Hp) (r : Int32 × Hp), k12 v0 v1 v2 h = some r → Rn d 256 12 [some (va_rf v0), some (.int v1), some (.int v2), v3.map Value.int, v4.map Value.int, v5.map Value.int] [] h (some (.int r.1), r.2)) (v0 : Option Nat) (v1 : Int32) (v2 : Int32) (v3 : Option (Int32)) (v4 : Option (Int32)) (v5 : Option (Int32))  (h : Hp) (r : Int32 × Hp) (hb : b_256_17 k12 v0 v1 v2  h = some r) : Rn d 256 17 [some (va_rf v0), some (.int v1), some (.int v2), v3.map Value.int, v4.map Value.int, v5.map Value.int] [] h (some (.int r.1), r.2) := by
  unfold b_256_17 at hb
  refine rn_iconst (x := (-1 : Int32)) rfl (by decide) ?_
  obtain ⟨x1, ex1, hb⟩ := bnd_spec hb
  refine rn_istore_n (i := 3) (L1 := [some (va_rf v0), some (.int v1), some (.int v2), some (.int x1), v4.map Value.int, v5.map Value.int]) rfl (Nat.le_of_ble_eq_true rfl) (Or.inr rfl) (by rw [ex1]; rfl) ?_
  exact w_256_19 d hd k12 K12 FU v0 v1 v2 x1 v4 v5 h _ hb
def b_256_12 (k12 : Option Nat → Int32 → Int32 → Hp → Option (Int32 × Hp)) (v0 : Option Nat) (v1 : Int32) (v2 : Int32)  (h : Hp) : Option (Int32 × Hp) :=
  if (nI 2) ≤ v2 then b_256_124   h else b_256_17 k12 v0 v1 v2  h
theorem u_256_12 (d : Nat) (hd : 1 ≤ d) (k12 : Option Nat → Int32 → Int32 → Hp → Option (Int32 × Hp)) (K12 : ∀ (v0 : Option Nat) (v1 : Int32) (v2 : Int32) (v3 : Option (Int32)) (v4 : Option (Int32)) (v5 : Option (Int32)) (h : Hp) (r : Int32 × Hp), k12 v0 v1 v2 h = some r → Rn d 256 12 [some (va_rf v0), some (.int v1), some (.int v2), v3.map Value.int, v4.map Value.int, v5.map Value.int] [] h (some (.int r.1), r.2)) (v0 : Option Nat) (v1 : Int32) (v2 : Int32) (v3 : Option (Int32)) (v4 : Option (Int32)) (v5 : Option (Int32))  (h : Hp) (r : Int32 × Hp) (hb : b_256_12 k12 v0 v1 v2  h = some r) : Rn d 256 12 [some (va_rf v0), some (.int v1), some (.int v2), v3.map Value.int, v4.map Value.int, v5.map Value.int] [] h (some (.int r.1), r.2) := by
  unfold b_256_12 at hb
  refine rn_iload_n (i := 2) rfl rfl ?_
  refine rn_iconst (x := (nI 2)) rfl (by decide) ?_
  refine rn_icmp_ge rfl rfl (fun hc => ?_) (fun hc => ?_)
  · exact u_256_124 d hd v0 v1 v2 v3 v4 v5  h _ (if_t hb hc)
  · exact u_256_17 d hd k12 K12 v0 v1 v2 v3 v4 v5  h _ (if_f hb hc)
def l_256_12 : Nat → Option Nat → Int32 → Int32 → Hp → Option (Int32 × Hp)
  | 0, _, _, _, _ => none
  | n + 1, v0, v1, v2, h => b_256_12 (l_256_12 n) v0 v1 v2 h
theorem w_256_12 (d : Nat) (hd : 1 ≤ d) : ∀ (n : Nat) (v0 : Option Nat) (v1 : Int32) (v2 : Int32) (v3 : Option (Int32)) (v4 : Option (Int32)) (v5 : Option (Int32)) (h : Hp) (r : Int32 × Hp), l_256_12 n v0 v1 v2 h = some r → Rn d 256 12 [some (va_rf v0), some (.int v1), some (.int v2), v3.map Value.int, v4.map Value.int, v5.map Value.int] [] h (some (.int r.1), r.2) := by
  intro n
  induction n with
  | zero => intro v0 v1 v2 v3 v4 v5 h r hb; cases hb
  | succ n ih => intro v0 v1 v2 v3 v4 v5 h r hb; exact u_256_12 d hd (l_256_12 n) ih v0 v1 v2 v3 v4 v5 h r hb
def b_256_10 (v0 : Option Nat) (v1 : Int32)  (h : Hp) : Option (Int32 × Hp) :=
  bnd ((-1 : Int32)) fun x1 =>
  l_256_12 FU v0 v1 x1 h
theorem u_256_10 (d : Nat) (hd : 1 ≤ d) (v0 : Option Nat) (v1 : Int32)  (h : Hp) (r : Int32 × Hp) (hb : b_256_10 v0 v1  h = some r) : Rn d 256 10 [some (va_rf v0), some (.int v1), none, none, none, none] [] h (some (.int r.1), r.2) := by
  unfold b_256_10 at hb
  refine rn_iconst (x := (-1 : Int32)) rfl (by decide) ?_
  obtain ⟨x1, ex1, hb⟩ := bnd_spec hb
  refine rn_istore_n (i := 2) (L1 := [some (va_rf v0), some (.int v1), some (.int x1), none, none, none]) rfl (Nat.le_of_ble_eq_true rfl) (Or.inr rfl) (by rw [ex1]; rfl) ?_
  exact w_256_12 d hd FU v0 v1 x1 (none : Option (Int32)) (none : Option (Int32)) (none : Option (Int32)) h _ hb
def b_256_8   (h : Hp) : Option (Int32 × Hp) :=
  (grd (decide ((nI 0) = 0 ∨ (nI 0) = 1))).bind fun _ => some ((nI 0), h)
theorem u_256_8 (d : Nat) (hd : 1 ≤ d) (v0 : Option Nat) (v1 : Int32)  (h : Hp) (r : Int32 × Hp) (hb : b_256_8   h = some r) : Rn d 256 8 [some (va_rf v0), some (.int v1), none, none, none, none] [] h (some (.int r.1), r.2) := by
  unfold b_256_8 at hb
  refine rn_iconst (x := (nI 0)) rfl (by decide) ?_
  obtain ⟨hz, hb⟩ := grd_spec hb
  obtain rfl := Option.some.inj hb
  exact rn_zret rfl rfl (of_decide_eq_true hz)
def b_256_0 (v0 : Option Nat) (v1 : Int32)  (h : Hp) : Option (Int32 × Hp) :=
  (gI 11 45 v0 h).bind fun x1 =>
  if ¬ x1 = (-1 : Int32) then b_256_10 v0 v1  h else b_256_8   h
theorem u_256_0 (d : Nat) (hd : 1 ≤ d) (v0 : Option Nat) (v1 : Int32)  (h : Hp) (r : Int32 × Hp) (hb : b_256_0 v0 v1  h = some r) : Rn d 256 0 [some (va_rf v0), some (.int v1), none, none, none, none] [] h (some (.int r.1), r.2) := by
  unfold b_256_0 at hb
  refine rn_aload_n (i := 0) rfl rfl ?_
  refine rn_gI (c := 11) (k := 45) rfl (by decide) hb (fun x1 hb => ?_)
  refine rn_iconst (x := (-1 : Int32)) rfl (by decide) ?_
  refine rn_icmp_ne rfl rfl (fun hc => ?_) (fun hc => ?_)
  · exact u_256_10 d hd v0 v1  h _ (if_t hb hc)
  · exact u_256_8 d hd v0 v1  h _ (if_f hb hc)
/-- BitingDoorsModel.isAt(I)Z -/
def f_256 (v0 : Option Nat) (v1 : Int32) (h : Hp) : Option (Int32 × Hp) := b_256_0 v0 v1 h
theorem t_256 (d : Nat) (hd : 1 ≤ d) (v0 : Option Nat) (v1 : Int32) (h : Hp) (r : Int32 × Hp) (hb : f_256 v0 v1 h = some r) : Rn d 256 0 [some (va_rf v0), some (.int v1), none, none, none, none] [] h (some (.int r.1), r.2) := by
  unfold f_256 at hb
  exact u_256_0 d hd v0 v1 h r hb
def b_257_99   (h : Hp) : Option (Int32 × Hp) :=
  some ((nI 0), h)
theorem u_257_99 (d : Nat) (hd : 3 ≤ d) (v0 : Option Nat) (v1 : Int32) (v2 : Int32) (v3 : Int32) (v4 : Option (Int32))  (h : Hp) (r : Int32 × Hp) (hb : b_257_99   h = some r) : Rn d 257 99 [some (va_rf v0), some (.int v1), some (.int v2), some (.int v3), v4.map Value.int] [] h (some (.int r.1), r.2) := by
  unfold b_257_99 at hb
  refine rn_iconst (x := (nI 0)) rfl (by decide) ?_
  obtain rfl := Option.some.inj hb
  exact rn_iret rfl rfl
def b_257_93 (k32 : Option Nat → Int32 → Int32 → Hp → Option (Int32 × Hp)) (v0 : Option Nat) (v1 : Int32) (v3 : Int32)  (h : Hp) : Option (Int32 × Hp) :=
  bnd (v3 + (nI 1)) fun x1 =>
  k32 v0 v1 x1 h
theorem u_257_93 (d : Nat) (hd : 3 ≤ d) (k32 : Option Nat → Int32 → Int32 → Hp → Option (Int32 × Hp)) (K32 : ∀ (v0 : Option Nat) (v1 : Int32) (v2 : Int32) (v3 : Int32) (v4 : Option (Int32)) (h : Hp) (r : Int32 × Hp), k32 v0 v1 v3 h = some r → Rn d 257 32 [some (va_rf v0), some (.int v1), some (.int v2), some (.int v3), v4.map Value.int] [] h (some (.int r.1), r.2)) (v0 : Option Nat) (v1 : Int32) (v2 : Int32) (v3 : Int32) (v4 : Int32)  (h : Hp) (r : Int32 × Hp) (hb : b_257_93 k32 v0 v1 v3  h = some r) : Rn d 257 93 [some (va_rf v0), some (.int v1), some (.int v2), some (.int v3), some (.int v4)] [] h (some (.int r.1), r.2) := by
  unfold b_257_93 at hb
  obtain ⟨x1, ex1, hb⟩ := bnd_spec hb
  refine rn_iinc (i := 3) (y := x1) (L1 := [some (va_rf v0), some (.int v1), some (.int v2), some (.int x1), some (.int v4)]) rfl rfl (Nat.le_of_ble_eq_true rfl) (Or.inr rfl) (by rw [ex1]; rfl) rfl ?_
  refine rn_goto rfl rfl ?_
  exact K32 v0 v1 v2 x1 (some v4) h _ hb
def b_257_90   (h : Hp) : Option (Int32 × Hp) :=
  some ((nI 7), h)
theorem u_257_90 (d : Nat) (hd : 3 ≤ d) (v0 : Option Nat) (v1 : Int32) (v2 : Int32) (v3 : Int32) (v4 : Int32)  (h : Hp) (r : Int32 × Hp) (hb : b_257_90   h = some r) : Rn d 257 90 [some (va_rf v0), some (.int v1), some (.int v2), some (.int v3), some (.int v4)] [] h (some (.int r.1), r.2) := by
  unfold b_257_90 at hb
  refine rn_bipush (x := (nI 7)) rfl (by decide) ?_
  obtain rfl := Option.some.inj hb
  exact rn_iret rfl rfl
def b_257_81 (k32 : Option Nat → Int32 → Int32 → Hp → Option (Int32 × Hp)) (v0 : Option Nat) (v1 : Int32) (v3 : Int32) (v4 : Int32)  (h : Hp) : Option (Int32 × Hp) :=
  (gI 11 45 v0 h).bind fun x1 =>
  if ¬ v4 = x1 then b_257_93 k32 v0 v1 v3  h else b_257_90   h
theorem u_257_81 (d : Nat) (hd : 3 ≤ d) (k32 : Option Nat → Int32 → Int32 → Hp → Option (Int32 × Hp)) (K32 : ∀ (v0 : Option Nat) (v1 : Int32) (v2 : Int32) (v3 : Int32) (v4 : Option (Int32)) (h : Hp) (r : Int32 × Hp), k32 v0 v1 v3 h = some r → Rn d 257 32 [some (va_rf v0), some (.int v1), some (.int v2), some (.int v3), v4.map Value.int] [] h (some (.int r.1), r.2)) (v0 : Option Nat) (v1 : Int32) (v2 : Int32) (v3 : Int32) (v4 : Int32)  (h : Hp) (r : Int32 × Hp) (hb : b_257_81 k32 v0 v1 v3 v4  h = some r) : Rn d 257 81 [some (va_rf v0), some (.int v1), some (.int v2), some (.int v3), some (.int v4)] [] h (some (.int r.1), r.2) := by
  unfold b_257_81 at hb
  refine rn_iload (i := 4) rfl rfl ?_
  refine rn_aload_n (i := 0) rfl rfl ?_
  refine rn_gI (c := 11) (k := 45) rfl (by decide) hb (fun x1 hb => ?_)
  refine rn_icmp_ne rfl rfl (fun hc => ?_) (fun hc => ?_)
  · exact u_257_93 d hd k32 K32 v0 v1 v2 v3 v4  h _ (if_t hb hc)
  · exact u_257_90 d hd v0 v1 v2 v3 v4  h _ (if_f hb hc)
def b_257_68 (k32 : Option Nat → Int32 → Int32 → Hp → Option (Int32 × Hp)) (v0 : Option Nat) (v1 : Int32) (v3 : Int32) (v4 : Int32)  (h : Hp) : Option (Int32 × Hp) :=
  (gQ 11 44 v0 h).bind fun x1 =>
  (aI 12 x1 v4 h).bind fun x2 =>
  if ¬ x2 = (v1 + (nI 1)) then b_257_90   h else b_257_81 k32 v0 v1 v3 v4  h
theorem u_257_68 (d : Nat) (hd : 3 ≤ d) (k32 : Option Nat → Int32 → Int32 → Hp → Option (Int32 × Hp)) (K32 : ∀ (v0 : Option Nat) (v1 : Int32) (v2 : Int32) (v3 : Int32) (v4 : Option (Int32)) (h : Hp) (r : Int32 × Hp), k32 v0 v1 v3 h = some r → Rn d 257 32 [some (va_rf v0), some (.int v1), some (.int v2), some (.int v3), v4.map Value.int] [] h (some (.int r.1), r.2)) (v0 : Option Nat) (v1 : Int32) (v2 : Int32) (v3 : Int32) (v4 : Int32)  (h : Hp) (r : Int32 × Hp) (hb : b_257_68 k32 v0 v1 v3 v4  h = some r) : Rn d 257 68 [some (va_rf v0), some (.int v1), some (.int v2), some (.int v3), some (.int v4)] [] h (some (.int r.1), r.2) := by
  unfold b_257_68 at hb
  refine rn_aload_n (i := 0) rfl rfl ?_
  refine rn_gQ (c := 11) (k := 44) rfl (by decide) hb (fun x1 hb => ?_)
  refine rn_iload (i := 4) rfl rfl ?_
  refine rn_aI rfl hb (fun x2 hb => ?_)
  refine rn_iload_n (i := 1) rfl rfl ?_
  refine rn_iconst (x := (nI 1)) rfl (by decide) ?_
  refine rn_iadd rfl ?_
  refine rn_icmp_ne rfl rfl (fun hc => ?_) (fun hc => ?_)
  · exact u_257_90 d hd v0 v1 v2 v3 v4  h _ (if_t hb hc)
  · exact u_257_81 d hd k32 K32 v0 v1 v2 v3 v4  h _ (if_f hb hc)
def b_257_40 (k32 : Option Nat → Int32 → Int32 → Hp → Option (Int32 × Hp)) (v0 : Option Nat) (v1 : Int32) (v3 : Int32)  (h : Hp) : Option (Int32 × Hp) :=
  (gQ 11 25 v0 h).bind fun x1 =>
  (aI 12 x1 v3 h).bind fun x2 =>
  (gQ 11 24 v0 h).bind fun x3 =>
  (aI 12 x3 v3 h).bind fun x4 =>
  bnd ((((nI 10) * x2) + x4)) fun x5 =>
  (gQ 11 44 v0 h).bind fun x6 =>
  (aI 12 x6 x5 h).bind fun x7 =>
  if x7 = 0 then b_257_81 k32 v0 v1 v3 x5  h else b_257_68 k32 v0 v1 v3 x5  h
theorem u_257_40 (d : Nat) (hd : 3 ≤ d) (k32 : Option Nat → Int32 → Int32 → Hp → Option (Int32 × Hp)) (K32 : ∀ (v0 : Option Nat) (v1 : Int32) (v2 : Int32) (v3 : Int32) (v4 : Option (Int32)) (h : Hp) (r : Int32 × Hp), k32 v0 v1 v3 h = some r → Rn d 257 32 [some (va_rf v0), some (.int v1), some (.int v2), some (.int v3), v4.map Value.int] [] h (some (.int r.1), r.2)) (v0 : Option Nat) (v1 : Int32) (v2 : Int32) (v3 : Int32) (v4 : Option (Int32))  (h : Hp) (r : Int32 × Hp) (hb : b_257_40 k32 v0 v1 v3  h = some r) : Rn d 257 40 [some (va_rf v0), some (.int v1), some (.int v2), some (.int v3), v4.map Value.int] [] h (some (.int r.1), r.2) := by
  unfold b_257_40 at hb
  refine rn_bipush (x := (nI 10)) rfl (by decide) ?_
  refine rn_aload_n (i := 0) rfl rfl ?_
  refine rn_gQ (c := 11) (k := 25) rfl (by decide) hb (fun x1 hb => ?_)
  refine rn_iload_n (i := 3) rfl rfl ?_
  refine rn_aI rfl hb (fun x2 hb => ?_)
  refine rn_imul rfl ?_
  refine rn_aload_n (i := 0) rfl rfl ?_
  refine rn_gQ (c := 11) (k := 24) rfl (by decide) hb (fun x3 hb => ?_)
  refine rn_iload_n (i := 3) rfl rfl ?_
  refine rn_aI rfl hb (fun x4 hb => ?_)
  refine rn_iadd rfl ?_
  obtain ⟨x5, ex5, hb⟩ := bnd_spec hb
  refine rn_istore (i := 4) (L1 := [some (va_rf v0), some (.int v1), some (.int v2), some (.int v3), some (.int x5)]) rfl (Nat.le_of_ble_eq_true rfl) (Or.inr rfl) (by rw [ex5]; rfl) ?_
  refine rn_aload_n (i := 0) rfl rfl ?_
  refine rn_gQ (c := 11) (k := 44) rfl (by decide) hb (fun x6 hb => ?_)
  refine rn_iload (i := 4) rfl rfl ?_
  refine rn_aI rfl hb (fun x7 hb => ?_)
  refine rn_if_eq rfl rfl (fun hc => ?_) (fun hc => ?_)
  · exact u_257_81 d hd k32 K32 v0 v1 v2 v3 x5  h _ (if_t hb hc)
  · exact u_257_68 d hd k32 K32 v0 v1 v2 v3 x5  h _ (if_f hb hc)
def b_257_32 (k32 : Option Nat → Int32 → Int32 → Hp → Option (Int32 × Hp)) (v0 : Option Nat) (v1 : Int32) (v3 : Int32)  (h : Hp) : Option (Int32 × Hp) :=
  (gI 11 26 v0 h).bind fun x1 =>
  if x1 ≤ v3 then b_257_99   h else b_257_40 k32 v0 v1 v3  h
theorem u_257_32 (d : Nat) (hd : 3 ≤ d) (k32 : Option Nat → Int32 → Int32 → Hp → Option (Int32 × Hp)) (K32 : ∀ (v0 : Option Nat) (v1 : Int32) (v2 : Int32) (v3 : Int32) (v4 : Option (Int32)) (h : Hp) (r : Int32 × Hp), k32 v0 v1 v3 h = some r → Rn d 257 32 [some (va_rf v0), some (.int v1), some (.int v2), some (.int v3), v4.map Value.int] [] h (some (.int r.1), r.2)) (v0 : Option Nat) (v1 : Int32) (v2 : Int32) (v3 : Int32) (v4 : Option (Int32))  (h : Hp) (r : Int32 × Hp) (hb : b_257_32 k32 v0 v1 v3  h = some r) : Rn d 257 32 [some (va_rf v0), some (.int v1), some (.int v2), some (.int v3), v4.map Value.int] [] h (some (.int r.1), r.2) := by
  unfold b_257_32 at hb
  refine rn_iload_n (i := 3) rfl rfl ?_
  refine rn_aload_n (i := 0) rfl rfl ?_
  refine rn_gI (c := 11) (k := 26) rfl (by decide) hb (fun x1 hb => ?_)
  refine rn_icmp_ge rfl rfl (fun hc => ?_) (fun hc => ?_)
  · exact u_257_99 d hd v0 v1 v2 v3 v4  h _ (if_t hb hc)
  · exact u_257_40 d hd k32 K32 v0 v1 v2 v3 v4  h _ (if_f hb hc)
def l_257_32 : Nat → Option Nat → Int32 → Int32 → Hp → Option (Int32 × Hp)
  | 0, _, _, _, _ => none
  | n + 1, v0, v1, v3, h => b_257_32 (l_257_32 n) v0 v1 v3 h
theorem w_257_32 (d : Nat) (hd : 3 ≤ d) : ∀ (n : Nat) (v0 : Option Nat) (v1 : Int32) (v2 : Int32) (v3 : Int32) (v4 : Option (Int32)) (h : Hp) (r : Int32 × Hp), l_257_32 n v0 v1 v3 h = some r → Rn d 257 32 [some (va_rf v0), some (.int v1), some (.int v2), some (.int v3), v4.map Value.int] [] h (some (.int r.1), r.2) := by
  intro n
  induction n with
  | zero => intro v0 v1 v2 v3 v4 h r hb; cases hb
  | succ n ih => intro v0 v1 v2 v3 v4 h r hb; exact u_257_32 d hd (l_257_32 n) ih v0 v1 v2 v3 v4 h r hb
def b_257_18 (v0 : Option Nat) (v1 : Int32) (v2 : Int32)  (h : Hp) : Option (Int32 × Hp) :=
  (grd (rC 11 v0 h)).bind fun _ =>
  (f_205 v0 v1 (nI 4) h).bind fun p1 =>
  (grd (rC 11 v0 p1.2)).bind fun _ =>
  (f_219 v0 v1 p1.1 v2 p1.2).bind fun p2 =>
  bnd ((nI 0)) fun x3 =>
  l_257_32 FU v0 v1 x3 p2
theorem u_257_18 (d : Nat) (hd : 3 ≤ d) (v0 : Option Nat) (v1 : Int32) (v2 : Int32)  (h : Hp) (r : Int32 × Hp) (hb : b_257_18 v0 v1 v2  h = some r) : Rn d 257 18 [some (va_rf v0), some (.int v1), some (.int v2), none, none] [] h (some (.int r.1), r.2) := by
  unfold b_257_18 at hb
  obtain ⟨e, rfl⟩ : ∃ e, d = e + 1 := ⟨d - 1, by omega⟩
  refine rn_aload_n (i := 0) rfl rfl ?_
  refine rn_iload_n (i := 1) rfl rfl ?_
  refine rn_aload_n (i := 0) rfl rfl ?_
  refine rn_iload_n (i := 1) rfl rfl ?_
  refine rn_iconst (x := (nI 4)) rfl (by decide) ?_
  obtain ⟨hrc, hb⟩ := grd_spec hb
  obtain ⟨p1, hc, hb⟩ := Option.bind_eq_some_iff.mp hb
  refine Rn.call1 (d := e) (As := [va_rf v0, .int v1, .int (nI 4)]) (rest := [.int v1, va_rf v0]) rfl rfl rfl (by decide) rfl rfl rfl (bd_rcV hrc rfl) (by rw [bd_cI (bd_cR (bd_cN))]; decide) (bd_lenC (n := 3) rfl (bd_slR (bd_slI (bd_slI bd_slN))) rfl) (bd_locC (n := 3) rfl (bd_slR (bd_slI (bd_slI bd_slN))) rfl (t_205 e (by omega) v0 v1 (nI 4) h _ hc)) ?_
  refine rn_iload_n (i := 2) rfl rfl ?_
  obtain ⟨hrc, hb⟩ := grd_spec hb
  obtain ⟨p2, hc, hb⟩ := Option.bind_eq_some_iff.mp hb
  refine Rn.call0 (d := e) (As := [va_rf v0, .int v1, .int p1.1, .int v2]) (rest := []) rfl rfl rfl (by decide) rfl rfl rfl (bd_rcV hrc rfl) (by decide) (bd_lenC (n := 14) rfl (bd_slR (bd_slI (bd_slI (bd_slI bd_slN)))) rfl) (bd_locC (n := 14) rfl (bd_slR (bd_slI (bd_slI (bd_slI bd_slN)))) rfl (t_219 e (by omega) v0 v1 p1.1 v2 p1.2 _ hc)) ?_
  refine rn_iconst (x := (nI 0)) rfl (by decide) ?_
  obtain ⟨x3, ex3, hb⟩ := bnd_spec hb
  refine rn_istore_n (i := 3) (L1 := [some (va_rf v0), some (.int v1), some (.int v2), some (.int x3), none]) rfl (Nat.le_of_ble_eq_true rfl) (Or.inr rfl) (by rw [ex3]; rfl) ?_
  exact w_257_32 (e + 1) hd FU v0 v1 v2 x3 (none : Option (Int32)) p2 _ hb
def b_257_15   (h : Hp) : Option (Int32 × Hp) :=
  some ((nI 6), h)
theorem u_257_15 (d : Nat) (hd : 3 ≤ d) (v0 : Option Nat) (v1 : Int32) (v2 : Int32)  (h : Hp) (r : Int32 × Hp) (hb : b_257_15   h = some r) : Rn d 257 15 [some (va_rf v0), some (.int v1), some (.int v2), none, none] [] h (some (.int r.1), r.2) := by
  unfold b_257_15 at hb
  refine rn_bipush (x := (nI 6)) rfl (by decide) ?_
  obtain rfl := Option.some.inj hb
  exact rn_iret rfl rfl
def b_257_0 (v0 : Option Nat) (v1 : Int32) (v2 : Int32)  (h : Hp) : Option (Int32 × Hp) :=
  (grd (rC 11 v0 h)).bind fun _ =>
  (f_205 v0 v1 (nI 4) h).bind fun p1 =>
  (grd (rC 11 v0 p1.2)).bind fun _ =>
  (f_221 v0 v1 p1.1 v2 p1.2).bind fun p2 =>
  if ¬ p2.1 = 0 then b_257_18 v0 v1 v2  p2.2 else b_257_15   p2.2
theorem u_257_0 (d : Nat) (hd : 3 ≤ d) (v0 : Option Nat) (v1 : Int32) (v2 : Int32)  (h : Hp) (r : Int32 × Hp) (hb : b_257_0 v0 v1 v2  h = some r) : Rn d 257 0 [some (va_rf v0), some (.int v1), some (.int v2), none, none] [] h (some (.int r.1), r.2) := by
  unfold b_257_0 at hb
  obtain ⟨e, rfl⟩ : ∃ e, d = e + 1 := ⟨d - 1, by omega⟩
  refine rn_aload_n (i := 0) rfl rfl ?_
  refine rn_iload_n (i := 1) rfl rfl ?_
  refine rn_aload_n (i := 0) rfl rfl ?_
  refine rn_iload_n (i := 1) rfl rfl ?_
  refine rn_iconst (x := (nI 4)) rfl (by decide) ?_
  obtain ⟨hrc, hb⟩ := grd_spec hb
  obtain ⟨p1, hc, hb⟩ := Option.bind_eq_some_iff.mp hb
  refine Rn.call1 (d := e) (As := [va_rf v0, .int v1, .int (nI 4)]) (rest := [.int v1, va_rf v0]) rfl rfl rfl (by decide) rfl rfl rfl (bd_rcV hrc rfl) (by rw [bd_cI (bd_cR (bd_cN))]; decide) (bd_lenC (n := 3) rfl (bd_slR (bd_slI (bd_slI bd_slN))) rfl) (bd_locC (n := 3) rfl (bd_slR (bd_slI (bd_slI bd_slN))) rfl (t_205 e (by omega) v0 v1 (nI 4) h _ hc)) ?_
  refine rn_iload_n (i := 2) rfl rfl ?_
  obtain ⟨hrc, hb⟩ := grd_spec hb
  obtain ⟨p2, hc, hb⟩ := Option.bind_eq_some_iff.mp hb
  refine Rn.call1 (d := e) (As := [va_rf v0, .int v1, .int p1.1, .int v2]) (rest := []) rfl rfl rfl (by decide) rfl rfl rfl (bd_rcV hrc rfl) (by decide) (bd_lenC (n := 5) rfl (bd_slR (bd_slI (bd_slI (bd_slI bd_slN)))) rfl) (bd_locC (n := 5) rfl (bd_slR (bd_slI (bd_slI (bd_slI bd_slN)))) rfl (t_221 e (by omega) v0 v1 p1.1 v2 p1.2 _ hc)) ?_
  refine rn_if_ne rfl rfl (fun hc => ?_) (fun hc => ?_)
  · exact u_257_18 (e + 1) hd v0 v1 v2  p2.2 _ (if_t hb hc)
  · exact u_257_15 (e + 1) hd v0 v1 v2  p2.2 _ (if_f hb hc)
/-- BitingDoorsModel.hinders(II)I -/
def f_257 (v0 : Option Nat) (v1 : Int32) (v2 : Int32) (h : Hp) : Option (Int32 × Hp) := b_257_0 v0 v1 v2 h
theorem t_257 (d : Nat) (hd : 3 ≤ d) (v0 : Option Nat) (v1 : Int32) (v2 : Int32) (h : Hp) (r : Int32 × Hp) (hb : f_257 v0 v1 v2 h = some r) : Rn d 257 0 [some (va_rf v0), some (.int v1), some (.int v2), none, none] [] h (some (.int r.1), r.2) := by
  unfold f_257 at hb
  exact u_257_0 d hd v0 v1 v2 h r hb
def b_258_0 (v0 : Option Nat) (v1 : Int32) (v2 : Int32)  (h : Hp) : Option (Hp) :=
  (gQ 11 43 v0 h).bind fun x1 =>
  (wI x1 v1 v2 h).bind fun h2 =>
  (grd (rC 11 v0 h2)).bind fun _ =>
  (f_252 v0 h2).bind fun p3 =>
  some p3
theorem u_258_0 (d : Nat) (hd : 3 ≤ d) (v0 : Option Nat) (v1 : Int32) (v2 : Int32)  (h : Hp) (r : Hp) (hb : b_258_0 v0 v1 v2  h = some r) : Rn d 258 0 [some (va_rf v0), some (.int v1), some (.int v2)] [] h (none, r) := by
  unfold b_258_0 at hb
  obtain ⟨e, rfl⟩ : ∃ e, d = e + 1 := ⟨d - 1, by omega⟩
  refine rn_aload_n (i := 0) rfl rfl ?_
  refine rn_gQ (c := 11) (k := 43) rfl (by decide) hb (fun x1 hb => ?_)
  refine rn_iload_n (i := 1) rfl rfl ?_
  refine rn_iload_n (i := 2) rfl rfl ?_
  refine rn_wI rfl hb (fun h2 hb => ?_)
  refine rn_aload_n (i := 0) rfl rfl ?_
  obtain ⟨hrc, hb⟩ := grd_spec hb
  obtain ⟨p3, hc, hb⟩ := Option.bind_eq_some_iff.mp hb
  refine Rn.call0 (d := e) (As := [va_rf v0]) (rest := []) rfl rfl rfl (by decide) rfl rfl rfl (bd_rcV hrc rfl) (by decide) (bd_lenC (n := 3) rfl (bd_slR bd_slN) rfl) (bd_locC (n := 3) rfl (bd_slR bd_slN) rfl (t_252 e (by omega) v0 h2 _ hc)) ?_
  obtain rfl := Option.some.inj hb
  exact rn_vret rfl rfl
/-- BitingDoorsModel.swing(II)V -/
def f_258 (v0 : Option Nat) (v1 : Int32) (v2 : Int32) (h : Hp) : Option (Hp) := b_258_0 v0 v1 v2 h
theorem t_258 (d : Nat) (hd : 3 ≤ d) (v0 : Option Nat) (v1 : Int32) (v2 : Int32) (h : Hp) (r : Hp) (hb : f_258 v0 v1 v2 h = some r) : Rn d 258 0 [some (va_rf v0), some (.int v1), some (.int v2)] [] h (none, r) := by
  unfold f_258 at hb
  exact u_258_0 d hd v0 v1 v2 h r hb
def b_259_160   (h : Hp) : Option (Int32 × Hp) :=
  some ((nI 5), h)
theorem u_259_160 (d : Nat) (hd : 4 ≤ d) (v0 : Option Nat) (v1 : Int32) (v2 : Int32) (v3 : Int32)  (h : Hp) (r : Int32 × Hp) (hb : b_259_160   h = some r) : Rn d 259 160 [some (va_rf v0), some (.int v1), some (.int v2), some (.int v3), none] [] h (some (.int r.1), r.2) := by
  unfold b_259_160 at hb
  refine rn_iconst (x := (nI 5)) rfl (by decide) ?_
  obtain rfl := Option.some.inj hb
  exact rn_iret rfl rfl
def b_259_181 (v4 : Int32)  (h : Hp) : Option (Int32 × Hp) :=
  some (v4, h)
theorem u_259_181 (d : Nat) (hd : 4 ≤ d) (v0 : Option Nat) (v1 : Int32) (v2 : Int32) (v3 : Int32) (v4 : Int32)  (h : Hp) (r : Int32 × Hp) (hb : b_259_181 v4  h = some r) : Rn d 259 181 [some (va_rf v0), some (.int v1), some (.int v2), some (.int v3), some (.int v4)] [] h (some (.int r.1), r.2) := by
  unfold b_259_181 at hb
  refine rn_iload (i := 4) rfl rfl ?_
  obtain rfl := Option.some.inj hb
  exact rn_iret rfl rfl
def b_259_175 (v0 : Option Nat) (v2 : Int32) (v3 : Int32) (v4 : Int32)  (h : Hp) : Option (Int32 × Hp) :=
  (grd (rC 11 v0 h)).bind fun _ =>
  (f_258 v0 v2 v3 h).bind fun p1 =>
  b_259_181 v4  p1
theorem u_259_175 (d : Nat) (hd : 4 ≤ d) (v0 : Option Nat) (v1 : Int32) (v2 : Int32) (v3 : Int32) (v4 : Int32)  (h : Hp) (r : Int32 × Hp) (hb : b_259_175 v0 v2 v3 v4  h = some r) : Rn d 259 175 [some (va_rf v0), some (.int v1), some (.int v2), some (.int v3), some (.int v4)] [] h (some (.int r.1), r.2) := by
  unfold b_259_175 at hb
  obtain ⟨e, rfl⟩ : ∃ e, d = e + 1 := ⟨d - 1, by omega⟩
  refine rn_aload_n (i := 0) rfl rfl ?_
  refine rn_iload_n (i := 2) rfl rfl ?_
  refine rn_iload_n (i := 3) rfl rfl ?_
  obtain ⟨hrc, hb⟩ := grd_spec hb
  obtain ⟨p1, hc, hb⟩ := Option.bind_eq_some_iff.mp hb
  refine Rn.call0 (d := e) (As := [va_rf v0, .int v2, .int v3]) (rest := []) rfl rfl rfl (by decide) rfl rfl rfl (bd_rcV hrc rfl) (by decide) (bd_lenC (n := 3) rfl (bd_slR (bd_slI (bd_slI bd_slN))) rfl) (bd_locC (n := 3) rfl (bd_slR (bd_slI (bd_slI bd_slN))) rfl (t_258 e (by omega) v0 v2 v3 h _ hc)) ?_
  exact u_259_181 (e + 1) hd v0 v1 v2 v3 v4  p1 _ hb
def b_259_162 (v0 : Option Nat) (v2 : Int32) (v3 : Int32)  (h : Hp) : Option (Int32 × Hp) :=
  (grd (rC 11 v0 h)).bind fun _ =>
  (f_257 v0 v2 v3 h).bind fun p1 =>
  bnd (p1.1) fun x2 =>
  if ¬ x2 = 0 then b_259_181 x2  p1.2 else b_259_175 v0 v2 v3 x2  p1.2
theorem u_259_162 (d : Nat) (hd : 4 ≤ d) (v0 : Option Nat) (v1 : Int32) (v2 : Int32) (v3 : Int32)  (h : Hp) (r : Int32 × Hp) (hb : b_259_162 v0 v2 v3  h = some r) : Rn d 259 162 [some (va_rf v0), some (.int v1), some (.int v2), some (.int v3), none] [] h (some (.int r.1), r.2) := by
  unfold b_259_162 at hb
  obtain ⟨e, rfl⟩ : ∃ e, d = e + 1 := ⟨d - 1, by omega⟩
  refine rn_aload_n (i := 0) rfl rfl ?_
  refine rn_iload_n (i := 2) rfl rfl ?_
  refine rn_iload_n (i := 3) rfl rfl ?_
  obtain ⟨hrc, hb⟩ := grd_spec hb
  obtain ⟨p1, hc, hb⟩ := Option.bind_eq_some_iff.mp hb
  refine Rn.call1 (d := e) (As := [va_rf v0, .int v2, .int v3]) (rest := []) rfl rfl rfl (by decide) rfl rfl rfl (bd_rcV hrc rfl) (by decide) (bd_lenC (n := 5) rfl (bd_slR (bd_slI (bd_slI bd_slN))) rfl) (bd_locC (n := 5) rfl (bd_slR (bd_slI (bd_slI bd_slN))) rfl (t_257 e (by omega) v0 v2 v3 h _ hc)) ?_
  obtain ⟨x2, ex2, hb⟩ := bnd_spec hb
  refine rn_istore (i := 4) (L1 := [some (va_rf v0), some (.int v1), some (.int v2), some (.int v3), some (.int x2)]) rfl (Nat.le_of_ble_eq_true rfl) (Or.inr rfl) (by rw [ex2]; rfl) ?_
  refine rn_iload (i := 4) rfl rfl ?_
  refine rn_if_ne rfl rfl (fun hc => ?_) (fun hc => ?_)
  · exact u_259_181 (e + 1) hd v0 v1 v2 v3 x2  p1.2 _ (if_t hb hc)
  · exact u_259_175 (e + 1) hd v0 v1 v2 v3 x2  p1.2 _ (if_f hb hc)
def b_259_155 (v0 : Option Nat) (v2 : Int32) (v3 : Int32)  (h : Hp) : Option (Int32 × Hp) :=
  if v3 ≤ (nI 2) then b_259_162 v0 v2 v3  h else b_259_160   h
theorem u_259_155 (d : Nat) (hd : 4 ≤ d) (v0 : Option Nat) (v1 : Int32) (v2 : Int32) (v3 : Int32)  (h : Hp) (r : Int32 × Hp) (hb : b_259_155 v0 v2 v3  h = some r) : Rn d 259 155 [some (va_rf v0), some (.int v1), some (.int v2), some (.int v3), none] [] h (some (.int r.1), r.2) := by
  unfold b_259_155 at hb
  refine rn_iload_n (i := 3) rfl rfl ?_
  refine rn_iconst (x := (nI 2)) rfl (by decide) ?_
  refine rn_icmp_le rfl rfl (fun hc => ?_) (fun hc => ?_)
  · exact u_259_162 d hd v0 v1 v2 v3  h _ (if_t hb hc)
  · exact u_259_160 d hd v0 v1 v2 v3  h _ (if_f hb hc)
def b_259_151 (v0 : Option Nat) (v2 : Int32) (v3 : Int32)  (h : Hp) : Option (Int32 × Hp) :=
  if v3 < 0 then b_259_160   h else b_259_155 v0 v2 v3  h
theorem u_259_151 (d : Nat) (hd : 4 ≤ d) (v0 : Option Nat) (v1 : Int32) (v2 : Int32) (v3 : Int32)  (h : Hp) (r : Int32 × Hp) (hb : b_259_151 v0 v2 v3  h = some r) : Rn d 259 151 [some (va_rf v0), some (.int v1), some (.int v2), some (.int v3), none] [] h (some (.int r.1), r.2) := by
  unfold b_259_151 at hb
  refine rn_iload_n (i := 3) rfl rfl ?_
  refine rn_if_lt rfl rfl (fun hc => ?_) (fun hc => ?_)
  · exact u_259_160 d hd v0 v1 v2 v3  h _ (if_t hb hc)
  · exact u_259_155 d hd v0 v1 v2 v3  h _ (if_f hb hc)
def b_259_149   (h : Hp) : Option (Int32 × Hp) :=
  some ((nI 4), h)
theorem u_259_149 (d : Nat) (hd : 4 ≤ d) (v0 : Option Nat) (v1 : Int32) (v2 : Int32) (v3 : Int32)  (h : Hp) (r : Int32 × Hp) (hb : b_259_149   h = some r) : Rn d 259 149 [some (va_rf v0), some (.int v1), some (.int v2), some (.int v3), none] [] h (some (.int r.1), r.2) := by
  unfold b_259_149 at hb
  refine rn_iconst (x := (nI 4)) rfl (by decide) ?_
  obtain rfl := Option.some.inj hb
  exact rn_iret rfl rfl
def b_259_139 (v0 : Option Nat) (v2 : Int32) (s0 : Int32) (s1 : Int32) (h : Hp) : Option (Int32 × Hp) :=
  bnd ((s0 + s1)) fun x1 =>
  (grd (rC 11 v0 h)).bind fun _ =>
  (f_256 v0 v2 h).bind fun p2 =>
  if ¬ p2.1 = 0 then b_259_151 v0 v2 x1  p2.2 else b_259_149   p2.2
theorem u_259_139 (d : Nat) (hd : 4 ≤ d) (v0 : Option Nat) (v1 : Int32) (v2 : Int32) (s0 : Int32) (s1 : Int32) (h : Hp) (r : Int32 × Hp) (hb : b_259_139 v0 v2 s0 s1 h = some r) : Rn d 259 139 [some (va_rf v0), some (.int v1), some (.int v2), none, none] [.int s1, .int s0] h (some (.int r.1), r.2) := by
  unfold b_259_139 at hb
  obtain ⟨e, rfl⟩ : ∃ e, d = e + 1 := ⟨d - 1, by omega⟩
  refine rn_iadd rfl ?_
  obtain ⟨x1, ex1, hb⟩ := bnd_spec hb
  refine rn_istore_n (i := 3) (L1 := [some (va_rf v0), some (.int v1), some (.int v2), some (.int x1), none]) rfl (Nat.le_of_ble_eq_true rfl) (Or.inr rfl) (by rw [ex1]; rfl) ?_
  refine rn_aload_n (i := 0) rfl rfl ?_
  refine rn_iload_n (i := 2) rfl rfl ?_
  obtain ⟨hrc, hb⟩ := grd_spec hb
  obtain ⟨p2, hc, hb⟩ := Option.bind_eq_some_iff.mp hb
  refine Rn.call1 (d := e) (As := [va_rf v0, .int v2]) (rest := []) rfl rfl rfl (by decide) rfl rfl rfl (bd_rcV hrc rfl) (by decide) (bd_lenC (n := 6) rfl (bd_slR (bd_slI bd_slN)) rfl) (bd_locC (n := 6) rfl (bd_slR (bd_slI bd_slN)) rfl (t_256 e (by omega) v0 v2 h _ hc)) ?_
  refine rn_if_ne rfl rfl (fun hc => ?_) (fun hc => ?_)
  · exact u_259_151 (e + 1) hd v0 v1 v2 x1  p2.2 _ (if_t hb hc)
  · exact u_259_149 (e + 1) hd v0 v1 v2 x1  p2.2 _ (if_f hb hc)
def b_259_138 (v0 : Option Nat) (v2 : Int32) (s0 : Int32) (h : Hp) : Option (Int32 × Hp) :=
  b_259_139 v0 v2 s0 (-1 : Int32) h
theorem u_259_138 (d : Nat) (hd : 4 ≤ d) (v0 : Option Nat) (v1 : Int32) (v2 : Int32) (s0 : Int32) (h : Hp) (r : Int32 × Hp) (hb : b_259_138 v0 v2 s0 h = some r) : Rn d 259 138 [some (va_rf v0), some (.int v1), some (.int v2), none, none] [.int s0] h (some (.int r.1), r.2) := by
  unfold b_259_138 at hb
  refine rn_iconst (x := (-1 : Int32)) rfl (by decide) ?_
  exact u_259_139 d hd v0 v1 v2 s0 (-1 : Int32) h _ hb
def b_259_134 (v0 : Option Nat) (v2 : Int32) (s0 : Int32) (h : Hp) : Option (Int32 × Hp) :=
  b_259_139 v0 v2 s0 (nI 1) h
theorem u_259_134 (d : Nat) (hd : 4 ≤ d) (v0 : Option Nat) (v1 : Int32) (v2 : Int32) (s0 : Int32) (h : Hp) (r : Int32 × Hp) (hb : b_259_134 v0 v2 s0 h = some r) : Rn d 259 134 [some (va_rf v0), some (.int v1), some (.int v2), none, none] [.int s0] h (some (.int r.1), r.2) := by
  unfold b_259_134 at hb
  refine rn_iconst (x := (nI 1)) rfl (by decide) ?_
  refine rn_goto rfl rfl ?_
  exact u_259_139 d hd v0 v1 v2 s0 (nI 1) h _ hb
def b_259_116 (v0 : Option Nat) (v1 : Int32)  (h : Hp) : Option (Int32 × Hp) :=
  (grd (decide (¬ ((nI 2) : Int32) = 0))).bind fun _ =>
  bnd (((v1 / (nI 2)) - (nI 2))) fun x1 =>
  (gQ 11 43 v0 h).bind fun x2 =>
  (aI 12 x2 x1 h).bind fun x3 =>
  (grd (decide (¬ ((nI 2) : Int32) = 0))).bind fun _ =>
  if ¬ (v1 - v1 / (nI 2) * (nI 2)) = 0 then b_259_138 v0 x1 x3 h else b_259_134 v0 x1 x3 h
theorem u_259_116 (d : Nat) (hd : 4 ≤ d) (v0 : Option Nat) (v1 : Int32)  (h : Hp) (r : Int32 × Hp) (hb : b_259_116 v0 v1  h = some r) : Rn d 259 116 [some (va_rf v0), some (.int v1), none, none, none] [] h (some (.int r.1), r.2) := by
  unfold b_259_116 at hb
  refine rn_iload_n (i := 1) rfl rfl ?_
  refine rn_iconst (x := (nI 2)) rfl (by decide) ?_
  obtain ⟨hy, hb⟩ := grd_spec hb
  refine rn_idiv rfl (of_decide_eq_true hy) ?_
  refine rn_iconst (x := (nI 2)) rfl (by decide) ?_
  refine rn_isub rfl ?_
  obtain ⟨x1, ex1, hb⟩ := bnd_spec hb
  refine rn_istore_n (i := 2) (L1 := [some (va_rf v0), some (.int v1), some (.int x1), none, none]) rfl (Nat.le_of_ble_eq_true rfl) (Or.inr rfl) (by rw [ex1]; rfl) ?_
  refine rn_aload_n (i := 0) rfl rfl ?_
  refine rn_gQ (c := 11) (k := 43) rfl (by decide) hb (fun x2 hb => ?_)
  refine rn_iload_n (i := 2) rfl rfl ?_
  refine rn_aI rfl hb (fun x3 hb => ?_)
  refine rn_iload_n (i := 1) rfl rfl ?_
  refine rn_iconst (x := (nI 2)) rfl (by decide) ?_
  obtain ⟨hy, hb⟩ := grd_spec hb
  refine rn_irem rfl (of_decide_eq_true hy) ?_
  refine rn_if_ne rfl rfl (fun hc => ?_) (fun hc => ?_)
  · exact u_259_138 d hd v0 v1 x1 x3 h _ (if_t hb hc)
  · exact u_259_134 d hd v0 v1 x1 x3 h _ (if_f hb hc)
def b_259_104 (v0 : Option Nat) (v2 : Int32) (v3 : Int32)  (h : Hp) : Option (Int32 × Hp) :=
  (pI 11 45 v0 (((nI 10) * v3) + v2) h).bind fun h1 =>
  some ((nI 0), h1)
theorem u_259_104 (d : Nat) (hd : 4 ≤ d) (v0 : Option Nat) (v1 : Int32) (v2 : Int32) (v3 : Int32)  (h : Hp) (r : Int32 × Hp) (hb : b_259_104 v0 v2 v3  h = some r) : Rn d 259 104 [some (va_rf v0), some (.int v1), some (.int v2), some (.int v3), none] [] h (some (.int r.1), r.2) := by
  unfold b_259_104 at hb
  refine rn_aload_n (i := 0) rfl rfl ?_
  refine rn_bipush (x := (nI 10)) rfl (by decide) ?_
  refine rn_iload_n (i := 3) rfl rfl ?_
  refine rn_imul rfl ?_
  refine rn_iload_n (i := 2) rfl rfl ?_
  refine rn_iadd rfl ?_
  refine rn_pI (c := 11) (k := 45) rfl (by decide) hb (fun h1 hb => ?_)
  refine rn_iconst (x := (nI 0)) rfl (by decide) ?_
  obtain rfl := Option.some.inj hb
  exact rn_iret rfl rfl
def b_259_102   (h : Hp) : Option (Int32 × Hp) :=
  some ((nI 3), h)
theorem u_259_102 (d : Nat) (hd : 4 ≤ d) (v0 : Option Nat) (v1 : Int32) (v2 : Int32) (v3 : Int32)  (h : Hp) (r : Int32 × Hp) (hb : b_259_102   h = some r) : Rn d 259 102 [some (va_rf v0), some (.int v1), some (.int v2), some (.int v3), none] [] h (some (.int r.1), r.2) := by
  unfold b_259_102 at hb
  refine rn_iconst (x := (nI 3)) rfl (by decide) ?_
  obtain rfl := Option.some.inj hb
  exact rn_iret rfl rfl
def b_259_88 (v0 : Option Nat) (v2 : Int32) (v3 : Int32)  (h : Hp) : Option (Int32 × Hp) :=
  (gQ 11 44 v0 h).bind fun x1 =>
  (aI 12 x1 (((nI 10) * v3) + v2) h).bind fun x2 =>
  if x2 = 0 then b_259_104 v0 v2 v3  h else b_259_102   h
theorem u_259_88 (d : Nat) (hd : 4 ≤ d) (v0 : Option Nat) (v1 : Int32) (v2 : Int32) (v3 : Int32)  (h : Hp) (r : Int32 × Hp) (hb : b_259_88 v0 v2 v3  h = some r) : Rn d 259 88 [some (va_rf v0), some (.int v1), some (.int v2), some (.int v3), none] [] h (some (.int r.1), r.2) := by
  unfold b_259_88 at hb
  refine rn_aload_n (i := 0) rfl rfl ?_
  refine rn_gQ (c := 11) (k := 44) rfl (by decide) hb (fun x1 hb => ?_)
  refine rn_bipush (x := (nI 10)) rfl (by decide) ?_
  refine rn_iload_n (i := 3) rfl rfl ?_
  refine rn_imul rfl ?_
  refine rn_iload_n (i := 2) rfl rfl ?_
  refine rn_iadd rfl ?_
  refine rn_aI rfl hb (fun x2 hb => ?_)
  refine rn_if_eq rfl rfl (fun hc => ?_) (fun hc => ?_)
  · exact u_259_104 d hd v0 v1 v2 v3  h _ (if_t hb hc)
  · exact u_259_102 d hd v0 v1 v2 v3  h _ (if_f hb hc)
def b_259_86   (h : Hp) : Option (Int32 × Hp) :=
  some ((nI 2), h)
theorem u_259_86 (d : Nat) (hd : 4 ≤ d) (v0 : Option Nat) (v1 : Int32) (v2 : Int32) (v3 : Int32)  (h : Hp) (r : Int32 × Hp) (hb : b_259_86   h = some r) : Rn d 259 86 [some (va_rf v0), some (.int v1), some (.int v2), some (.int v3), none] [] h (some (.int r.1), r.2) := by
  unfold b_259_86 at hb
  refine rn_iconst (x := (nI 2)) rfl (by decide) ?_
  obtain rfl := Option.some.inj hb
  exact rn_iret rfl rfl
def b_259_75 (v0 : Option Nat) (v2 : Int32) (s0 : Int32) (s1 : Int32) (h : Hp) : Option (Int32 × Hp) :=
  bnd ((s0 + s1)) fun x1 =>
  (grd (rC 11 v0 h)).bind fun _ =>
  (f_255 v0 v2 x1 h).bind fun p2 =>
  if ¬ p2.1 = 0 then b_259_88 v0 v2 x1  p2.2 else b_259_86   p2.2
theorem u_259_75 (d : Nat) (hd : 4 ≤ d) (v0 : Option Nat) (v1 : Int32) (v2 : Int32) (s0 : Int32) (s1 : Int32) (h : Hp) (r : Int32 × Hp) (hb : b_259_75 v0 v2 s0 s1 h = some r) : Rn d 259 75 [some (va_rf v0), some (.int v1), some (.int v2), none, none] [.int s1, .int s0] h (some (.int r.1), r.2) := by
  unfold b_259_75 at hb
  obtain ⟨e, rfl⟩ : ∃ e, d = e + 1 := ⟨d - 1, by omega⟩
  refine rn_iadd rfl ?_
  obtain ⟨x1, ex1, hb⟩ := bnd_spec hb
  refine rn_istore_n (i := 3) (L1 := [some (va_rf v0), some (.int v1), some (.int v2), some (.int x1), none]) rfl (Nat.le_of_ble_eq_true rfl) (Or.inr rfl) (by rw [ex1]; rfl) ?_
  refine rn_aload_n (i := 0) rfl rfl ?_
  refine rn_iload_n (i := 2) rfl rfl ?_
  refine rn_iload_n (i := 3) rfl rfl ?_
  obtain ⟨hrc, hb⟩ := grd_spec hb
  obtain ⟨p2, hc, hb⟩ := Option.bind_eq_some_iff.mp hb
  refine Rn.call1 (d := e) (As := [va_rf v0, .int v2, .int x1]) (rest := []) rfl rfl rfl (by decide) rfl rfl rfl (bd_rcV hrc rfl) (by decide) (bd_lenC (n := 3) rfl (bd_slR (bd_slI (bd_slI bd_slN))) rfl) (bd_locC (n := 3) rfl (bd_slR (bd_slI (bd_slI bd_slN))) rfl (t_255 e (by omega) v0 v2 x1 h _ hc)) ?_
  refine rn_if_ne rfl rfl (fun hc => ?_) (fun hc => ?_)
  · exact u_259_88 (e + 1) hd v0 v1 v2 x1  p2.2 _ (if_t hb hc)
  · exact u_259_86 (e + 1) hd v0 v1 v2 x1  p2.2 _ (if_f hb hc)
def b_259_74 (v0 : Option Nat) (v2 : Int32) (s0 : Int32) (h : Hp) : Option (Int32 × Hp) :=
  b_259_75 v0 v2 s0 (nI 0) h
theorem u_259_74 (d : Nat) (hd : 4 ≤ d) (v0 : Option Nat) (v1 : Int32) (v2 : Int32) (s0 : Int32) (h : Hp) (r : Int32 × Hp) (hb : b_259_74 v0 v2 s0 h = some r) : Rn d 259 74 [some (va_rf v0), some (.int v1), some (.int v2), none, none] [.int s0] h (some (.int r.1), r.2) := by
  unfold b_259_74 at hb
  refine rn_iconst (x := (nI 0)) rfl (by decide) ?_
  exact u_259_75 d hd v0 v1 v2 s0 (nI 0) h _ hb
def b_259_70 (v0 : Option Nat) (v2 : Int32) (s0 : Int32) (h : Hp) : Option (Int32 × Hp) :=
  b_259_75 v0 v2 s0 (-1 : Int32) h
theorem u_259_70 (d : Nat) (hd : 4 ≤ d) (v0 : Option Nat) (v1 : Int32) (v2 : Int32) (s0 : Int32) (h : Hp) (r : Int32 × Hp) (hb : b_259_70 v0 v2 s0 h = some r) : Rn d 259 70 [some (va_rf v0), some (.int v1), some (.int v2), none, none] [.int s0] h (some (.int r.1), r.2) := by
  unfold b_259_70 at hb
  refine rn_iconst (x := (-1 : Int32)) rfl (by decide) ?_
  refine rn_goto rfl rfl ?_
  exact u_259_75 d hd v0 v1 v2 s0 (-1 : Int32) h _ hb
def b_259_66 (v0 : Option Nat) (v1 : Int32) (v2 : Int32) (s0 : Int32) (h : Hp) : Option (Int32 × Hp) :=
  if ¬ v1 = 0 then b_259_74 v0 v2 s0 h else b_259_70 v0 v2 s0 h
theorem u_259_66 (d : Nat) (hd : 4 ≤ d) (v0 : Option Nat) (v1 : Int32) (v2 : Int32) (s0 : Int32) (h : Hp) (r : Int32 × Hp) (hb : b_259_66 v0 v1 v2 s0 h = some r) : Rn d 259 66 [some (va_rf v0), some (.int v1), some (.int v2), none, none] [.int s0] h (some (.int r.1), r.2) := by
  unfold b_259_66 at hb
  refine rn_iload_n (i := 1) rfl rfl ?_
  refine rn_if_ne rfl rfl (fun hc => ?_) (fun hc => ?_)
  · exact u_259_74 d hd v0 v1 v2 s0 h _ (if_t hb hc)
  · exact u_259_70 d hd v0 v1 v2 s0 h _ (if_f hb hc)
def b_259_62 (v0 : Option Nat) (v2 : Int32) (s0 : Int32) (h : Hp) : Option (Int32 × Hp) :=
  b_259_75 v0 v2 s0 (nI 1) h
theorem u_259_62 (d : Nat) (hd : 4 ≤ d) (v0 : Option Nat) (v1 : Int32) (v2 : Int32) (s0 : Int32) (h : Hp) (r : Int32 × Hp) (hb : b_259_62 v0 v2 s0 h = some r) : Rn d 259 62 [some (va_rf v0), some (.int v1), some (.int v2), none, none] [.int s0] h (some (.int r.1), r.2) := by
  unfold b_259_62 at hb
  refine rn_iconst (x := (nI 1)) rfl (by decide) ?_
  refine rn_goto rfl rfl ?_
  exact u_259_75 d hd v0 v1 v2 s0 (nI 1) h _ hb
def b_259_48 (v0 : Option Nat) (v1 : Int32) (s0 : Int32) (s1 : Int32) (h : Hp) : Option (Int32 × Hp) :=
  bnd ((s0 + s1)) fun x1 =>
  (gI 11 45 v0 h).bind fun x2 =>
  (grd (decide (¬ ((nI 10) : Int32) = 0))).bind fun _ =>
  if ¬ v1 = (nI 2) then b_259_66 v0 v1 x1 (x2 / (nI 10)) h else b_259_62 v0 x1 (x2 / (nI 10)) h
theorem u_259_48 (d : Nat) (hd : 4 ≤ d) (v0 : Option Nat) (v1 : Int32) (s0 : Int32) (s1 : Int32) (h : Hp) (r : Int32 × Hp) (hb : b_259_48 v0 v1 s0 s1 h = some r) : Rn d 259 48 [some (va_rf v0), some (.int v1), none, none, none] [.int s1, .int s0] h (some (.int r.1), r.2) := by
  unfold b_259_48 at hb
  refine rn_iadd rfl ?_
  obtain ⟨x1, ex1, hb⟩ := bnd_spec hb
  refine rn_istore_n (i := 2) (L1 := [some (va_rf v0), some (.int v1), some (.int x1), none, none]) rfl (Nat.le_of_ble_eq_true rfl) (Or.inr rfl) (by rw [ex1]; rfl) ?_
  refine rn_aload_n (i := 0) rfl rfl ?_
  refine rn_gI (c := 11) (k := 45) rfl (by decide) hb (fun x2 hb => ?_)
  refine rn_bipush (x := (nI 10)) rfl (by decide) ?_
  obtain ⟨hy, hb⟩ := grd_spec hb
  refine rn_idiv rfl (of_decide_eq_true hy) ?_
  refine rn_iload_n (i := 1) rfl rfl ?_
  refine rn_iconst (x := (nI 2)) rfl (by decide) ?_
  refine rn_icmp_ne rfl rfl (fun hc => ?_) (fun hc => ?_)
  · exact u_259_66 d hd v0 v1 x1 (x2 / (nI 10)) h _ (if_t hb hc)
  · exact u_259_62 d hd v0 v1 x1 (x2 / (nI 10)) h _ (if_f hb hc)
def b_259_47 (v0 : Option Nat) (v1 : Int32) (s0 : Int32) (h : Hp) : Option (Int32 × Hp) :=
  b_259_48 v0 v1 s0 (nI 0) h
theorem u_259_47 (d : Nat) (hd : 4 ≤ d) (v0 : Option Nat) (v1 : Int32) (s0 : Int32) (h : Hp) (r : Int32 × Hp) (hb : b_259_47 v0 v1 s0 h = some r) : Rn d 259 47 [some (va_rf v0), some (.int v1), none, none, none] [.int s0] h (some (.int r.1), r.2) := by
  unfold b_259_47 at hb
  refine rn_iconst (x := (nI 0)) rfl (by decide) ?_
  exact u_259_48 d hd v0 v1 s0 (nI 0) h _ hb
def b_259_43 (v0 : Option Nat) (v1 : Int32) (s0 : Int32) (h : Hp) : Option (Int32 × Hp) :=
  b_259_48 v0 v1 s0 (-1 : Int32) h
theorem u_259_43 (d : Nat) (hd : 4 ≤ d) (v0 : Option Nat) (v1 : Int32) (s0 : Int32) (h : Hp) (r : Int32 × Hp) (hb : b_259_43 v0 v1 s0 h = some r) : Rn d 259 43 [some (va_rf v0), some (.int v1), none, none, none] [.int s0] h (some (.int r.1), r.2) := by
  unfold b_259_43 at hb
  refine rn_iconst (x := (-1 : Int32)) rfl (by decide) ?_
  refine rn_goto rfl rfl ?_
  exact u_259_48 d hd v0 v1 s0 (-1 : Int32) h _ hb
def b_259_38 (v0 : Option Nat) (v1 : Int32) (s0 : Int32) (h : Hp) : Option (Int32 × Hp) :=
  if ¬ v1 = (nI 3) then b_259_47 v0 v1 s0 h else b_259_43 v0 v1 s0 h
theorem u_259_38 (d : Nat) (hd : 4 ≤ d) (v0 : Option Nat) (v1 : Int32) (s0 : Int32) (h : Hp) (r : Int32 × Hp) (hb : b_259_38 v0 v1 s0 h = some r) : Rn d 259 38 [some (va_rf v0), some (.int v1), none, none, none] [.int s0] h (some (.int r.1), r.2) := by
  unfold b_259_38 at hb
  refine rn_iload_n (i := 1) rfl rfl ?_
  refine rn_iconst (x := (nI 3)) rfl (by decide) ?_
  refine rn_icmp_ne rfl rfl (fun hc => ?_) (fun hc => ?_)
  · exact u_259_47 d hd v0 v1 s0 h _ (if_t hb hc)
  · exact u_259_43 d hd v0 v1 s0 h _ (if_f hb hc)
def b_259_34 (v0 : Option Nat) (v1 : Int32) (s0 : Int32) (h : Hp) : Option (Int32 × Hp) :=
  b_259_48 v0 v1 s0 (nI 1) h
theorem u_259_34 (d : Nat) (hd : 4 ≤ d) (v0 : Option Nat) (v1 : Int32) (s0 : Int32) (h : Hp) (r : Int32 × Hp) (hb : b_259_34 v0 v1 s0 h = some r) : Rn d 259 34 [some (va_rf v0), some (.int v1), none, none, none] [.int s0] h (some (.int r.1), r.2) := by
  unfold b_259_34 at hb
  refine rn_iconst (x := (nI 1)) rfl (by decide) ?_
  refine rn_goto rfl rfl ?_
  exact u_259_48 d hd v0 v1 s0 (nI 1) h _ hb
def b_259_22 (v0 : Option Nat) (v1 : Int32)  (h : Hp) : Option (Int32 × Hp) :=
  (gI 11 45 v0 h).bind fun x1 =>
  (grd (decide (¬ ((nI 10) : Int32) = 0))).bind fun _ =>
  if ¬ v1 = (nI 1) then b_259_38 v0 v1 (x1 - x1 / (nI 10) * (nI 10)) h else b_259_34 v0 v1 (x1 - x1 / (nI 10) * (nI 10)) h
theorem u_259_22 (d : Nat) (hd : 4 ≤ d) (v0 : Option Nat) (v1 : Int32)  (h : Hp) (r : Int32 × Hp) (hb : b_259_22 v0 v1  h = some r) : Rn d 259 22 [some (va_rf v0), some (.int v1), none, none, none] [] h (some (.int r.1), r.2) := by
  unfold b_259_22 at hb
  refine rn_aload_n (i := 0) rfl rfl ?_
  refine rn_gI (c := 11) (k := 45) rfl (by decide) hb (fun x1 hb => ?_)
  refine rn_bipush (x := (nI 10)) rfl (by decide) ?_
  obtain ⟨hy, hb⟩ := grd_spec hb
  refine rn_irem rfl (of_decide_eq_true hy) ?_
  refine rn_iload_n (i := 1) rfl rfl ?_
  refine rn_iconst (x := (nI 1)) rfl (by decide) ?_
  refine rn_icmp_ne rfl rfl (fun hc => ?_) (fun hc => ?_)
  · exact u_259_38 d hd v0 v1 (x1 - x1 / (nI 10) * (nI 10)) h _ (if_t hb hc)
  · exact u_259_34 d hd v0 v1 (x1 - x1 / (nI 10) * (nI 10)) h _ (if_f hb hc)
def b_259_17 (v0 : Option Nat) (v1 : Int32)  (h : Hp) : Option (Int32 × Hp) :=
  if (nI 4) ≤ v1 then b_259_116 v0 v1  h else b_259_22 v0 v1  h
theorem u_259_17 (d : Nat) (hd : 4 ≤ d) (v0 : Option Nat) (v1 : Int32)  (h : Hp) (r : Int32 × Hp) (hb : b_259_17 v0 v1  h = some r) : Rn d 259 17 [some (va_rf v0), some (.int v1), none, none, none] [] h (some (.int r.1), r.2) := by
  unfold b_259_17 at hb
  refine rn_iload_n (i := 1) rfl rfl ?_
  refine rn_iconst (x := (nI 4)) rfl (by decide) ?_
  refine rn_icmp_ge rfl rfl (fun hc => ?_) (fun hc => ?_)
  · exact u_259_116 d hd v0 v1  h _ (if_t hb hc)
  · exact u_259_22 d hd v0 v1  h _ (if_f hb hc)
def b_259_15   (h : Hp) : Option (Int32 × Hp) :=
  some ((nI 1), h)
theorem u_259_15 (d : Nat) (hd : 4 ≤ d) (v0 : Option Nat) (v1 : Int32)  (h : Hp) (r : Int32 × Hp) (hb : b_259_15   h = some r) : Rn d 259 15 [some (va_rf v0), some (.int v1), none, none, none] [] h (some (.int r.1), r.2) := by
  unfold b_259_15 at hb
  refine rn_iconst (x := (nI 1)) rfl (by decide) ?_
  obtain rfl := Option.some.inj hb
  exact rn_iret rfl rfl
def b_259_7 (v0 : Option Nat) (v1 : Int32)  (h : Hp) : Option (Int32 × Hp) :=
  (gI 11 45 v0 h).bind fun x1 =>
  if ¬ x1 = (-1 : Int32) then b_259_17 v0 v1  h else b_259_15   h
theorem u_259_7 (d : Nat) (hd : 4 ≤ d) (v0 : Option Nat) (v1 : Int32)  (h : Hp) (r : Int32 × Hp) (hb : b_259_7 v0 v1  h = some r) : Rn d 259 7 [some (va_rf v0), some (.int v1), none, none, none] [] h (some (.int r.1), r.2) := by
  unfold b_259_7 at hb
  refine rn_aload_n (i := 0) rfl rfl ?_
  refine rn_gI (c := 11) (k := 45) rfl (by decide) hb (fun x1 hb => ?_)
  refine rn_iconst (x := (-1 : Int32)) rfl (by decide) ?_
  refine rn_icmp_ne rfl rfl (fun hc => ?_) (fun hc => ?_)
  · exact u_259_17 d hd v0 v1  h _ (if_t hb hc)
  · exact u_259_15 d hd v0 v1  h _ (if_f hb hc)
def b_259_5   (h : Hp) : Option (Int32 × Hp) :=
  some ((nI 0), h)
theorem u_259_5 (d : Nat) (hd : 4 ≤ d) (v0 : Option Nat) (v1 : Int32)  (h : Hp) (r : Int32 × Hp) (hb : b_259_5   h = some r) : Rn d 259 5 [some (va_rf v0), some (.int v1), none, none, none] [] h (some (.int r.1), r.2) := by
  unfold b_259_5 at hb
  refine rn_iconst (x := (nI 0)) rfl (by decide) ?_
  obtain rfl := Option.some.inj hb
  exact rn_iret rfl rfl
def b_259_0 (v0 : Option Nat) (v1 : Int32)  (h : Hp) : Option (Int32 × Hp) :=
  if ¬ v1 = (-1 : Int32) then b_259_7 v0 v1  h else b_259_5   h
theorem u_259_0 (d : Nat) (hd : 4 ≤ d) (v0 : Option Nat) (v1 : Int32)  (h : Hp) (r : Int32 × Hp) (hb : b_259_0 v0 v1  h = some r) : Rn d 259 0 [some (va_rf v0), some (.int v1), none, none, none] [] h (some (.int r.1), r.2) := by
  unfold b_259_0 at hb
  refine rn_iload_n (i := 1) rfl rfl ?_
  refine rn_iconst (x := (-1 : Int32)) rfl (by decide) ?_
  refine rn_icmp_ne rfl rfl (fun hc => ?_) (fun hc => ?_)
  · exact u_259_7 d hd v0 v1  h _ (if_t hb hc)
  · exact u_259_5 d hd v0 v1  h _ (if_f hb hc)
/-- BitingDoorsModel.tries(I)I -/
def f_259 (v0 : Option Nat) (v1 : Int32) (h : Hp) : Option (Int32 × Hp) := b_259_0 v0 v1 h
theorem t_259 (d : Nat) (hd : 4 ≤ d) (v0 : Option Nat) (v1 : Int32) (h : Hp) (r : Int32 × Hp) (hb : f_259 v0 v1 h = some r) : Rn d 259 0 [some (va_rf v0), some (.int v1), none, none, none] [] h (some (.int r.1), r.2) := by
  unfold f_259 at hb
  exact u_259_0 d hd v0 v1 h r hb
def b_260_133 (v0 : Option Nat) (v1 : Int32)  (h : Hp) : Option (Int32 × Hp) :=
  (gI 11 46 v0 h).bind fun x1 =>
  (pI 11 46 v0 (x1 + v1) h).bind fun h2 =>
  some (v1, h2)
theorem u_260_133 (d : Nat) (hd : 4 ≤ d) (v0 : Option Nat) (v1 : Int32) (v2 : Int32) (v3 : Option (Int32)) (v4 : Option (Int32)) (v5 : Option (Int32))  (h : Hp) (r : Int32 × Hp) (hb : b_260_133 v0 v1  h = some r) : Rn d 260 133 [some (va_rf v0), some (.int v1), some (.int v2), v3.map Value.int, v4.map Value.int, v5.map Value.int] [] h (some (.int r.1), r.2) := by
  unfold b_260_133 at hb
  refine rn_aload_n (i := 0) rfl rfl ?_
  refine rn_dup rfl (bd_cat_rf _) ?_
  refine rn_gI (c := 11) (k := 46) rfl (by decide) hb (fun x1 hb => ?_)
  refine rn_iload_n (i := 1) rfl rfl ?_
  refine rn_iadd rfl ?_
  refine rn_pI (c := 11) (k := 46) rfl (by decide) hb (fun h2 hb => ?_)
  refine rn_iload_n (i := 1) rfl rfl ?_
  obtain rfl := Option.some.inj hb
  exact rn_iret rfl rfl
def b_260_127 (k4 : Option Nat → Int32 → Int32 → Hp → Option (Int32 × Hp)) (v0 : Option Nat) (v1 : Int32) (v2 : Int32)  (h : Hp) : Option (Int32 × Hp) :=
  bnd (v2 + (nI 1)) fun x1 =>
  k4 v0 v1 x1 h
theorem u_260_127 (d : Nat) (hd : 4 ≤ d) (k4 : Option Nat → Int32 → Int32 → Hp → Option (Int32 × Hp)) (K4 : ∀ (v0 : Option Nat) (v1 : Int32) (v2 : Int32) (v3 : Option (Int32)) (v4 : Option (Int32)) (v5 : Option (Int32)) (h : Hp) (r : Int32 × Hp), k4 v0 v1 v2 h = some r → Rn d 260 4 [some (va_rf v0), some (.int v1), some (.int v2), v3.map Value.int, v4.map Value.int, v5.map Value.int] [] h (some (.int r.1), r.2)) (v0 : Option Nat) (v1 : Int32) (v2 : Int32) (v3 : Int32) (v4 : Int32) (v5 : Int32)  (h : Hp) (r : Int32 × Hp) (hb : b_260_127 k4 v0 v1 v2  h = some r) : Rn d 260 127 [some (va_rf v0), some (.int v1), some (.int v2), some (.int v3), some (.int v4), some (.int v5)] [] h (some (.int r.1), r.2) := by
  unfold b_260_127 at hb
  obtain ⟨x1, ex1, hb⟩ := bnd_spec hb
  refine rn_iinc (i := 2) (y := x1) (L1 := [some (va_rf v0), some (.int v1), some (.int x1), some (.int v3), some (.int v4), some (.int v5)]) rfl rfl (Nat.le_of_ble_eq_true rfl) (Or.inr rfl) (by rw [ex1]; rfl) rfl ?_
  refine rn_goto rfl rfl ?_
  exact K4 v0 v1 x1 (some v3) (some v4) (some v5) h _ hb
def b_260_109 (k4 : Option Nat → Int32 → Int32 → Hp → Option (Int32 × Hp)) (v0 : Option Nat) (v1 : Int32) (v2 : Int32) (v5 : Int32)  (h : Hp) : Option (Int32 × Hp) :=
  (gQ 11 43 v0 h).bind fun x1 =>
  (aI 12 x1 v5 h).bind fun x2 =>
  (grd (rC 11 v0 h)).bind fun _ =>
  (f_258 v0 v5 (x2 - (nI 1)) h).bind fun p3 =>
  bnd (v1 + (nI 1)) fun x4 =>
  b_260_127 k4 v0 x4 v2  p3
theorem u_260_109 (d : Nat) (hd : 4 ≤ d) (k4 : Option Nat → Int32 → Int32 → Hp → Option (Int32 × Hp)) (K4 : ∀ (v0 : Option Nat) (v1 : Int32) (v2 : Int32) (v3 : Option (Int32)) (v4 : Option (Int32)) (v5 : Option (Int32)) (h : Hp) (r : Int32 × Hp), k4 v0 v1 v2 h = some r → Rn d 260 4 [some (va_rf v0), some (.int v1), some (.int v2), v3.map Value.int, v4.map Value.int, v5.map Value.int] [] h (some (.int r.1), r.2)) (v0 : Option Nat) (v1 : Int32) (v2 : Int32) (v3 : Int32) (v4 : Int32) (v5 : Int32)  (h : Hp) (r : Int32 × Hp) (hb : b_260_109 k4 v0 v1 v2 v5  h = some r) : Rn d 260 109 [some (va_rf v0), some (.int v1), some (.int v2), some (.int v3), some (.int v4), some (.int v5)] [] h (some (.int r.1), r.2) := by
  unfold b_260_109 at hb
  obtain ⟨e, rfl⟩ : ∃ e, d = e + 1 := ⟨d - 1, by omega⟩
  refine rn_aload_n (i := 0) rfl rfl ?_
  refine rn_iload (i := 5) rfl rfl ?_
  refine rn_aload_n (i := 0) rfl rfl ?_
  refine rn_gQ (c := 11) (k := 43) rfl (by decide) hb (fun x1 hb => ?_)
  refine rn_iload (i := 5) rfl rfl ?_
  refine rn_aI rfl hb (fun x2 hb => ?_)
  refine rn_iconst (x := (nI 1)) rfl (by decide) ?_
  refine rn_isub rfl ?_
  obtain ⟨hrc, hb⟩ := grd_spec hb
  obtain ⟨p3, hc, hb⟩ := Option.bind_eq_some_iff.mp hb
  refine Rn.call0 (d := e) (As := [va_rf v0, .int v5, .int (x2 - (nI 1))]) (rest := []) rfl rfl rfl (by decide) rfl rfl rfl (bd_rcV hrc rfl) (by decide) (bd_lenC (n := 3) rfl (bd_slR (bd_slI (bd_slI bd_slN))) rfl) (bd_locC (n := 3) rfl (bd_slR (bd_slI (bd_slI bd_slN))) rfl (t_258 e (by omega) v0 v5 (x2 - (nI 1)) h _ hc)) ?_
  obtain ⟨x4, ex4, hb⟩ := bnd_spec hb
  refine rn_iinc (i := 1) (y := x4) (L1 := [some (va_rf v0), some (.int x4), some (.int v2), some (.int v3), some (.int v4), some (.int v5)]) rfl rfl (Nat.le_of_ble_eq_true rfl) (Or.inr (bd_wideR rfl)) (by rw [ex4]; rfl) rfl ?_
  exact u_260_127 (e + 1) hd k4 K4 v0 x4 v2 v3 v4 v5  p3 _ hb
def b_260_106 (k4 : Option Nat → Int32 → Int32 → Hp → Option (Int32 × Hp)) (v0 : Option Nat) (v1 : Int32) (v2 : Int32)  (h : Hp) : Option (Int32 × Hp) :=
  b_260_127 k4 v0 v1 v2  h
theorem u_260_106 (d : Nat) (hd : 4 ≤ d) (k4 : Option Nat → Int32 → Int32 → Hp → Option (Int32 × Hp)) (K4 : ∀ (v0 : Option Nat) (v1 : Int32) (v2 : Int32) (v3 : Option (Int32)) (v4 : Option (Int32)) (v5 : Option (Int32)) (h : Hp) (r : Int32 × Hp), k4 v0 v1 v2 h = some r → Rn d 260 4 [some (va_rf v0), some (.int v1), some (.int v2), v3.map Value.int, v4.map Value.int, v5.map Value.int] [] h (some (.int r.1), r.2)) (v0 : Option Nat) (v1 : Int32) (v2 : Int32) (v3 : Int32) (v4 : Int32) (v5 : Int32)  (h : Hp) (r : Int32 × Hp) (hb : b_260_106 k4 v0 v1 v2  h = some r) : Rn d 260 106 [some (va_rf v0), some (.int v1), some (.int v2), some (.int v3), some (.int v4), some (.int v5)] [] h (some (.int r.1), r.2) := by
  unfold b_260_106 at hb
  refine rn_goto rfl rfl ?_
  exact u_260_127 d hd k4 K4 v0 v1 v2 v3 v4 v5  h _ hb
def b_260_88 (k4 : Option Nat → Int32 → Int32 → Hp → Option (Int32 × Hp)) (v0 : Option Nat) (v1 : Int32) (v2 : Int32) (v5 : Int32)  (h : Hp) : Option (Int32 × Hp) :=
  (gQ 11 43 v0 h).bind fun x1 =>
  (aI 12 x1 v5 h).bind fun x2 =>
  (grd (rC 11 v0 h)).bind fun _ =>
  (f_257 v0 v5 (x2 - (nI 1)) h).bind fun p3 =>
  if p3.1 = 0 then b_260_109 k4 v0 v1 v2 v5  p3.2 else b_260_106 k4 v0 v1 v2  p3.2
theorem u_260_88 (d : Nat) (hd : 4 ≤ d) (k4 : Option Nat → Int32 → Int32 → Hp → Option (Int32 × Hp)) (K4 : ∀ (v0 : Option Nat) (v1 : Int32) (v2 : Int32) (v3 : Option (Int32)) (v4 : Option (Int32)) (v5 : Option (Int32)) (h : Hp) (r : Int32 × Hp), k4 v0 v1 v2 h = some r → Rn d 260 4 [some (va_rf v0), some (.int v1), some (.int v2), v3.map Value.int, v4.map Value.int, v5.map Value.int] [] h (some (.int r.1), r.2)) (v0 : Option Nat) (v1 : Int32) (v2 : Int32) (v3 : Int32) (v4 : Int32) (v5 : Int32)  (h : Hp) (r : Int32 × Hp) (hb : b_260_88 k4 v0 v1 v2 v5  h = some r) : Rn d 260 88 [some (va_rf v0), some (.int v1), some (.int v2), some (.int v3), some (.int v4), some (.int v5)] [] h (some (.int r.1), r.2) := by
  unfold b_260_88 at hb
  obtain ⟨e, rfl⟩ : ∃ e, d = e + 1 := ⟨d - 1, by omega⟩
  refine rn_aload_n (i := 0) rfl rfl ?_
  refine rn_iload (i := 5) rfl rfl ?_
  refine rn_aload_n (i := 0) rfl rfl ?_
  refine rn_gQ (c := 11) (k := 43) rfl (by decide) hb (fun x1 hb => ?_)
  refine rn_iload (i := 5) rfl rfl ?_
  refine rn_aI rfl hb (fun x2 hb => ?_)
  refine rn_iconst (x := (nI 1)) rfl (by decide) ?_
  refine rn_isub rfl ?_
  obtain ⟨hrc, hb⟩ := grd_spec hb
  obtain ⟨p3, hc, hb⟩ := Option.bind_eq_some_iff.mp hb
  refine Rn.call1 (d := e) (As := [va_rf v0, .int v5, .int (x2 - (nI 1))]) (rest := []) rfl rfl rfl (by decide) rfl rfl rfl (bd_rcV hrc rfl) (by decide) (bd_lenC (n := 5) rfl (bd_slR (bd_slI (bd_slI bd_slN))) rfl) (bd_locC (n := 5) rfl (bd_slR (bd_slI (bd_slI bd_slN))) rfl (t_257 e (by omega) v0 v5 (x2 - (nI 1)) h _ hc)) ?_
  refine rn_if_eq rfl rfl (fun hc => ?_) (fun hc => ?_)
  · exact u_260_109 (e + 1) hd k4 K4 v0 v1 v2 v3 v4 v5  p3.2 _ (if_t hb hc)
  · exact u_260_106 (e + 1) hd k4 K4 v0 v1 v2 v3 v4 v5  p3.2 _ (if_f hb hc)
def b_260_78 (k4 : Option Nat → Int32 → Int32 → Hp → Option (Int32 × Hp)) (v0 : Option Nat) (v1 : Int32) (v2 : Int32) (v5 : Int32)  (h : Hp) : Option (Int32 × Hp) :=
  (gQ 11 43 v0 h).bind fun x1 =>
  (aI 12 x1 v5 h).bind fun x2 =>
  if x2 = 0 then b_260_127 k4 v0 v1 v2  h else b_260_88 k4 v0 v1 v2 v5  h
theorem u_260_78 (d : Nat) (hd : 4 ≤ d) (k4 : Option Nat → Int32 → Int32 → Hp → Option (Int32 × Hp)) (K4 : ∀ (v0 : Option Nat) (v1 : Int32) (v2 : Int32) (v3 : Option (Int32)) (v4 : Option (Int32)) (v5 : Option (Int32)) (h : Hp) (r : Int32 × Hp), k4 v0 v1 v2 h = some r → Rn d 260 4 [some (va_rf v0), some (.int v1), some (.int v2), v3.map Value.int, v4.map Value.int, v5.map Value.int] [] h (some (.int r.1), r.2)) (v0 : Option Nat) (v1 : Int32) (v2 : Int32) (v3 : Int32) (v4 : Int32) (v5 : Int32)  (h : Hp) (r : Int32 × Hp) (hb : b_260_78 k4 v0 v1 v2 v5  h = some r) : Rn d 260 78 [some (va_rf v0), some (.int v1), some (.int v2), some (.int v3), some (.int v4), some (.int v5)] [] h (some (.int r.1), r.2) := by
  unfold b_260_78 at hb
  refine rn_aload_n (i := 0) rfl rfl ?_
  refine rn_gQ (c := 11) (k := 43) rfl (by decide) hb (fun x1 hb => ?_)
  refine rn_iload (i := 5) rfl rfl ?_
  refine rn_aI rfl hb (fun x2 hb => ?_)
  refine rn_if_eq rfl rfl (fun hc => ?_) (fun hc => ?_)
  · exact u_260_127 d hd k4 K4 v0 v1 v2 v3 v4 v5  h _ (if_t hb hc)
  · exact u_260_88 d hd k4 K4 v0 v1 v2 v3 v4 v5  h _ (if_f hb hc)
def b_260_68 (k4 : Option Nat → Int32 → Int32 → Hp → Option (Int32 × Hp)) (v0 : Option Nat) (v1 : Int32) (v2 : Int32) (v4 : Int32) (v5 : Int32)  (h : Hp) : Option (Int32 × Hp) :=
  (gQ 11 43 v0 h).bind fun x1 =>
  (aI 12 x1 v4 h).bind fun x2 =>
  if x2 = 0 then b_260_127 k4 v0 v1 v2  h else b_260_78 k4 v0 v1 v2 v5  h
theorem u_260_68 (d : Nat) (hd : 4 ≤ d) (k4 : Option Nat → Int32 → Int32 → Hp → Option (Int32 × Hp)) (K4 : ∀ (v0 : Option Nat) (v1 : Int32) (v2 : Int32) (v3 : Option (Int32)) (v4 : Option (Int32)) (v5 : Option (Int32)) (h : Hp) (r : Int32 × Hp), k4 v0 v1 v2 h = some r → Rn d 260 4 [some (va_rf v0), some (.int v1), some (.int v2), v3.map Value.int, v4.map Value.int, v5.map Value.int] [] h (some (.int r.1), r.2)) (v0 : Option Nat) (v1 : Int32) (v2 : Int32) (v3 : Int32) (v4 : Int32) (v5 : Int32)  (h : Hp) (r : Int32 × Hp) (hb : b_260_68 k4 v0 v1 v2 v4 v5  h = some r) : Rn d 260 68 [some (va_rf v0), some (.int v1), some (.int v2), some (.int v3), some (.int v4), some (.int v5)] [] h (some (.int r.1), r.2) := by
  unfold b_260_68 at hb
  refine rn_aload_n (i := 0) rfl rfl ?_
  refine rn_gQ (c := 11) (k := 43) rfl (by decide) hb (fun x1 hb => ?_)
  refine rn_iload (i := 4) rfl rfl ?_
  refine rn_aI rfl hb (fun x2 hb => ?_)
  refine rn_if_eq rfl rfl (fun hc => ?_) (fun hc => ?_)
  · exact u_260_127 d hd k4 K4 v0 v1 v2 v3 v4 v5  h _ (if_t hb hc)
  · exact u_260_78 d hd k4 K4 v0 v1 v2 v3 v4 v5  h _ (if_f hb hc)
def b_260_14 (k4 : Option Nat → Int32 → Int32 → Hp → Option (Int32 × Hp)) (v0 : Option Nat) (v1 : Int32) (v2 : Int32)  (h : Hp) : Option (Int32 × Hp) :=
  (gQ 11 14 v0 h).bind fun x1 =>
  (aI 12 x1 ((nI 310) + ((nI 3) * v2)) h).bind fun x2 =>
  (gQ 11 14 v0 h).bind fun x3 =>
  (aI 12 x3 (((nI 310) + ((nI 3) * v2)) + (nI 1)) h).bind fun x4 =>
  (gQ 11 14 v0 h).bind fun x5 =>
  (aI 12 x5 (((nI 310) + ((nI 3) * v2)) + (nI 2)) h).bind fun x6 =>
  (gQ 11 43 v0 h).bind fun x7 =>
  (aI 12 x7 x2 h).bind fun x8 =>
  if x8 = 0 then b_260_127 k4 v0 v1 v2  h else b_260_68 k4 v0 v1 v2 x4 x6  h
theorem u_260_14 (d : Nat) (hd : 4 ≤ d) (k4 : Option Nat → Int32 → Int32 → Hp → Option (Int32 × Hp)) (K4 : ∀ (v0 : Option Nat) (v1 : Int32) (v2 : Int32) (v3 : Option (Int32)) (v4 : Option (Int32)) (v5 : Option (Int32)) (h : Hp) (r : Int32 × Hp), k4 v0 v1 v2 h = some r → Rn d 260 4 [some (va_rf v0), some (.int v1), some (.int v2), v3.map Value.int, v4.map Value.int, v5.map Value.int] [] h (some (.int r.1), r.2)) (v0 : Option Nat) (v1 : Int32) (v2 : Int32) (v3 : Option (Int32)) (v4 : Option (Int32)) (v5 : Option (Int32))  (h : Hp) (r : Int32 × Hp) (hb : b_260_14 k4 v0 v1 v2  h = some r) : Rn d 260 14 [some (va_rf v0), some (.int v1), some (.int v2), v3.map Value.int, v4.map Value.int, v5.map Value.int] [] h (some (.int r.1), r.2) := by
  unfold b_260_14 at hb
  refine rn_aload_n (i := 0) rfl rfl ?_
  refine rn_gQ (c := 11) (k := 14) rfl (by decide) hb (fun x1 hb => ?_)
  refine rn_sipush (x := (nI 310)) rfl (by decide) ?_
  refine rn_iconst (x := (nI 3)) rfl (by decide) ?_
  refine rn_iload_n (i := 2) rfl rfl ?_
  refine rn_imul rfl ?_
  refine rn_iadd rfl ?_
  refine rn_aI rfl hb (fun x2 hb => ?_)
  refine rn_istore_n (i := 3) (L1 := [some (va_rf v0), some (.int v1), some (.int v2), some (.int x2), v4.map Value.int, v5.map Value.int]) rfl (Nat.le_of_ble_eq_true rfl) (Or.inr rfl) rfl ?_
  refine rn_aload_n (i := 0) rfl rfl ?_
  refine rn_gQ (c := 11) (k := 14) rfl (by decide) hb (fun x3 hb => ?_)
  refine rn_sipush (x := (nI 310)) rfl (by decide) ?_
  refine rn_iconst (x := (nI 3)) rfl (by decide) ?_
  refine rn_iload_n (i := 2) rfl rfl ?_
  refine rn_imul rfl ?_
  refine rn_iadd rfl ?_
  refine rn_iconst (x := (nI 1)) rfl (by decide) ?_
  refine rn_iadd rfl ?_
  refine rn_aI rfl hb (fun x4 hb => ?_)
  refine rn_istore (i := 4) (L1 := [some (va_rf v0), some (.int v1), some (.int v2), some (.int x2), some (.int x4), v5.map Value.int]) rfl (Nat.le_of_ble_eq_true rfl) (Or.inr rfl) rfl ?_
  refine rn_aload_n (i := 0) rfl rfl ?_
  refine rn_gQ (c := 11) (k := 14) rfl (by decide) hb (fun x5 hb => ?_)
  refine rn_sipush (x := (nI 310)) rfl (by decide) ?_
  refine rn_iconst (x := (nI 3)) rfl (by decide) ?_
  refine rn_iload_n (i := 2) rfl rfl ?_
  refine rn_imul rfl ?_
  refine rn_iadd rfl ?_
  refine rn_iconst (x := (nI 2)) rfl (by decide) ?_
  refine rn_iadd rfl ?_
  refine rn_aI rfl hb (fun x6 hb => ?_)
  refine rn_istore (i := 5) (L1 := [some (va_rf v0), some (.int v1), some (.int v2), some (.int x2), some (.int x4), some (.int x6)]) rfl (Nat.le_of_ble_eq_true rfl) (Or.inr rfl) rfl ?_
  refine rn_aload_n (i := 0) rfl rfl ?_
  refine rn_gQ (c := 11) (k := 43) rfl (by decide) hb (fun x7 hb => ?_)
  refine rn_iload_n (i := 3) rfl rfl ?_
  refine rn_aI rfl hb (fun x8 hb => ?_)
  refine rn_if_eq rfl rfl (fun hc => ?_) (fun hc => ?_)
  · exact u_260_127 d hd k4 K4 v0 v1 v2 x2 x4 x6  h _ (if_t hb hc)
  · exact u_260_68 d hd k4 K4 v0 v1 v2 x2 x4 x6  h _ (if_f hb hc)
def b_260_4 (k4 : Option Nat → Int32 → Int32 → Hp → Option (Int32 × Hp)) (v0 : Option Nat) (v1 : Int32) (v2 : Int32)  (h : Hp) : Option (Int32 × Hp) :=
  (gQ 11 14 v0 h).bind fun x1 =>
  (aI 12 x1 (nI 3) h).bind fun x2 =>
  if x2 ≤ v2 then b_260_133 v0 v1  h else b_260_14 k4 v0 v1 v2  h
theorem u_260_4 (d : Nat) (hd : 4 ≤ d) (k4 : Option Nat → Int32 → Int32 → Hp → Option (Int32 × Hp)) (K4 : ∀ (v0 : Option Nat) (v1 : Int32) (v2 : Int32) (v3 : Option (Int32)) (v4 : Option (Int32)) (v5 : Option (Int32)) (h : Hp) (r : Int32 × Hp), k4 v0 v1 v2 h = some r → Rn d 260 4 [some (va_rf v0), some (.int v1), some (.int v2), v3.map Value.int, v4.map Value.int, v5.map Value.int] [] h (some (.int r.1), r.2)) (v0 : Option Nat) (v1 : Int32) (v2 : Int32) (v3 : Option (Int32)) (v4 : Option (Int32)) (v5 : Option (Int32))  (h : Hp) (r : Int32 × Hp) (hb : b_260_4 k4 v0 v1 v2  h = some r) : Rn d 260 4 [some (va_rf v0), some (.int v1), some (.int v2), v3.map Value.int, v4.map Value.int, v5.map Value.int] [] h (some (.int r.1), r.2) := by
  unfold b_260_4 at hb
  refine rn_iload_n (i := 2) rfl rfl ?_
  refine rn_aload_n (i := 0) rfl rfl ?_
  refine rn_gQ (c := 11) (k := 14) rfl (by decide) hb (fun x1 hb => ?_)
  refine rn_iconst (x := (nI 3)) rfl (by decide) ?_
  refine rn_aI rfl hb (fun x2 hb => ?_)
  refine rn_icmp_ge rfl rfl (fun hc => ?_) (fun hc => ?_)
  · exact u_260_133 d hd v0 v1 v2 v3 v4 v5  h _ (if_t hb hc)
  · exact u_260_14 d hd k4 K4 v0 v1 v2 v3 v4 v5  h _ (if_f hb hc)
def l_260_4 : Nat → Option Nat → Int32 → Int32 → Hp → Option (Int32 × Hp)
  | 0, _, _, _, _ => none
  | n + 1, v0, v1, v2, h => b_260_4 (l_260_4 n) v0 v1 v2 h
theorem w_260_4 (d : Nat) (hd : 4 ≤ d) : ∀ (n : Nat) (v0 : Option Nat) (v1 : Int32) (v2 : Int32) (v3 : Option (Int32)) (v4 : Option (Int32)) (v5 : Option (Int32)) (h : Hp) (r : Int32 × Hp), l_260_4 n v0 v1 v2 h = some r → Rn d 260 4 [some (va_rf v0), some (.int v1), some (.int v2), v3.map Value.int, v4.map Value.int, v5.map Value.int] [] h (some (.int r.1), r.2) := by
  intro n
  induction n with
  | zero => intro v0 v1 v2 v3 v4 v5 h r hb; cases hb
  | succ n ih => intro v0 v1 v2 v3 v4 v5 h r hb; exact u_260_4 d hd (l_260_4 n) ih v0 v1 v2 v3 v4 v5 h r hb
def b_260_0 (v0 : Option Nat)  (h : Hp) : Option (Int32 × Hp) :=
  bnd ((nI 0)) fun x1 =>
  bnd ((nI 0)) fun x2 =>
  l_260_4 FU v0 x1 x2 h
theorem u_260_0 (d : Nat) (hd : 4 ≤ d) (v0 : Option Nat)  (h : Hp) (r : Int32 × Hp) (hb : b_260_0 v0  h = some r) : Rn d 260 0 [some (va_rf v0), none, none, none, none, none] [] h (some (.int r.1), r.2) := by
  unfold b_260_0 at hb
  refine rn_iconst (x := (nI 0)) rfl (by decide) ?_
  obtain ⟨x1, ex1, hb⟩ := bnd_spec hb
  refine rn_istore_n (i := 1) (L1 := [some (va_rf v0), some (.int x1), none, none, none, none]) rfl (Nat.le_of_ble_eq_true rfl) (Or.inr (bd_wideR rfl)) (by rw [ex1]; rfl) ?_
  refine rn_iconst (x := (nI 0)) rfl (by decide) ?_
  obtain ⟨x2, ex2, hb⟩ := bnd_spec hb
  refine rn_istore_n (i := 2) (L1 := [some (va_rf v0), some (.int x1), some (.int x2), none, none, none]) rfl (Nat.le_of_ble_eq_true rfl) (Or.inr rfl) (by rw [ex2]; rfl) ?_
  exact w_260_4 d hd FU v0 x1 x2 (none : Option (Int32)) (none : Option (Int32)) (none : Option (Int32)) h _ hb
/-- BitingDoorsModel.blows()I -/
def f_260 (v0 : Option Nat) (h : Hp) : Option (Int32 × Hp) := b_260_0 v0 h
theorem t_260 (d : Nat) (hd : 4 ≤ d) (v0 : Option Nat) (h : Hp) (r : Int32 × Hp) (hb : f_260 v0 h = some r) : Rn d 260 0 [some (va_rf v0), none, none, none, none, none] [] h (some (.int r.1), r.2) := by
  unfold f_260 at hb
  exact u_260_0 d hd v0 h r hb
def b_261_15 (v2 : Int32)  (h : Hp) : Option (Int32 × Hp) :=
  some (v2, h)
theorem u_261_15 (d : Nat) (hd : 5 ≤ d) (v0 : Option Nat) (v1 : Int32) (v2 : Int32)  (h : Hp) (r : Int32 × Hp) (hb : b_261_15 v2  h = some r) : Rn d 261 15 [some (va_rf v0), some (.int v1), some (.int v2)] [] h (some (.int r.1), r.2) := by
  unfold b_261_15 at hb
  refine rn_iload_n (i := 2) rfl rfl ?_
  obtain rfl := Option.some.inj hb
  exact rn_iret rfl rfl
def b_261_10 (v0 : Option Nat) (v2 : Int32)  (h : Hp) : Option (Int32 × Hp) :=
  (grd (rC 11 v0 h)).bind fun _ =>
  (f_260 v0 h).bind fun p1 =>
  b_261_15 v2  p1.2
theorem u_261_10 (d : Nat) (hd : 5 ≤ d) (v0 : Option Nat) (v1 : Int32) (v2 : Int32)  (h : Hp) (r : Int32 × Hp) (hb : b_261_10 v0 v2  h = some r) : Rn d 261 10 [some (va_rf v0), some (.int v1), some (.int v2)] [] h (some (.int r.1), r.2) := by
  unfold b_261_10 at hb
  obtain ⟨e, rfl⟩ : ∃ e, d = e + 1 := ⟨d - 1, by omega⟩
  refine rn_aload_n (i := 0) rfl rfl ?_
  obtain ⟨hrc, hb⟩ := grd_spec hb
  obtain ⟨p1, hc, hb⟩ := Option.bind_eq_some_iff.mp hb
  refine Rn.call1 (d := e) (As := [va_rf v0]) (rest := []) rfl rfl rfl (by decide) rfl rfl rfl (bd_rcV hrc rfl) (by decide) (bd_lenC (n := 6) rfl (bd_slR bd_slN) rfl) (bd_locC (n := 6) rfl (bd_slR bd_slN) rfl (t_260 e (by omega) v0 h _ hc)) ?_
  refine rn_pop rfl rfl ?_
  exact u_261_15 (e + 1) hd v0 v1 v2  p1.2 _ hb
def b_261_0 (v0 : Option Nat) (v1 : Int32)  (h : Hp) : Option (Int32 × Hp) :=
  (grd (rC 11 v0 h)).bind fun _ =>
  (f_259 v0 v1 h).bind fun p1 =>
  bnd (p1.1) fun x2 =>
  if ¬ x2 = 0 then b_261_15 x2  p1.2 else b_261_10 v0 x2  p1.2
theorem u_261_0 (d : Nat) (hd : 5 ≤ d) (v0 : Option Nat) (v1 : Int32)  (h : Hp) (r : Int32 × Hp) (hb : b_261_0 v0 v1  h = some r) : Rn d 261 0 [some (va_rf v0), some (.int v1), none] [] h (some (.int r.1), r.2) := by
  unfold b_261_0 at hb
  obtain ⟨e, rfl⟩ : ∃ e, d = e + 1 := ⟨d - 1, by omega⟩
  refine rn_aload_n (i := 0) rfl rfl ?_
  refine rn_iload_n (i := 1) rfl rfl ?_
  obtain ⟨hrc, hb⟩ := grd_spec hb
  obtain ⟨p1, hc, hb⟩ := Option.bind_eq_some_iff.mp hb
  refine Rn.call1 (d := e) (As := [va_rf v0, .int v1]) (rest := []) rfl rfl rfl (by decide) rfl rfl rfl (bd_rcV hrc rfl) (by decide) (bd_lenC (n := 5) rfl (bd_slR (bd_slI bd_slN)) rfl) (bd_locC (n := 5) rfl (bd_slR (bd_slI bd_slN)) rfl (t_259 e (by omega) v0 v1 h _ hc)) ?_
  obtain ⟨x2, ex2, hb⟩ := bnd_spec hb
  refine rn_istore_n (i := 2) (L1 := [some (va_rf v0), some (.int v1), some (.int x2)]) rfl (Nat.le_of_ble_eq_true rfl) (Or.inr rfl) (by rw [ex2]; rfl) ?_
  refine rn_iload_n (i := 2) rfl rfl ?_
  refine rn_if_ne rfl rfl (fun hc => ?_) (fun hc => ?_)
  · exact u_261_15 (e + 1) hd v0 v1 x2  p1.2 _ (if_t hb hc)
  · exact u_261_10 (e + 1) hd v0 v1 x2  p1.2 _ (if_f hb hc)
/-- BitingDoorsModel.minute(I)I -/
def f_261 (v0 : Option Nat) (v1 : Int32) (h : Hp) : Option (Int32 × Hp) := b_261_0 v0 v1 h
theorem t_261 (d : Nat) (hd : 5 ≤ d) (v0 : Option Nat) (v1 : Int32) (h : Hp) (r : Int32 × Hp) (hb : f_261 v0 v1 h = some r) : Rn d 261 0 [some (va_rf v0), some (.int v1), none] [] h (some (.int r.1), r.2) := by
  unfold f_261 at hb
  exact u_261_0 d hd v0 v1 h r hb
def b_262_32   (h : Hp) : Option (Int32 × Hp) :=
  (grd (decide ((nI 0) = 0 ∨ (nI 0) = 1))).bind fun _ => some ((nI 0), h)
theorem u_262_32 (d : Nat) (hd : 4 ≤ d) (v0 : Option Nat) (v1 : Int32) (v2 : Int32)  (h : Hp) (r : Int32 × Hp) (hb : b_262_32   h = some r) : Rn d 262 32 [some (va_rf v0), some (.int v1), some (.int v2)] [] h (some (.int r.1), r.2) := by
  unfold b_262_32 at hb
  refine rn_iconst (x := (nI 0)) rfl (by decide) ?_
  obtain ⟨hz, hb⟩ := grd_spec hb
  obtain rfl := Option.some.inj hb
  exact rn_zret rfl rfl (of_decide_eq_true hz)
def b_262_34 (v0 : Option Nat) (v1 : Int32) (v2 : Int32)  (h : Hp) : Option (Int32 × Hp) :=
  (gQ 11 14 v0 h).bind fun x1 =>
  (wI x1 (nI 340) (((nI 10) * v2) + v1) h).bind fun h2 =>
  (grd (decide ((nI 1) = 0 ∨ (nI 1) = 1))).bind fun _ => some ((nI 1), h2)
theorem u_262_34 (d : Nat) (hd : 4 ≤ d) (v0 : Option Nat) (v1 : Int32) (v2 : Int32)  (h : Hp) (r : Int32 × Hp) (hb : b_262_34 v0 v1 v2  h = some r) : Rn d 262 34 [some (va_rf v0), some (.int v1), some (.int v2)] [] h (some (.int r.1), r.2) := by
  unfold b_262_34 at hb
  refine rn_aload_n (i := 0) rfl rfl ?_
  refine rn_gQ (c := 11) (k := 14) rfl (by decide) hb (fun x1 hb => ?_)
  refine rn_sipush (x := (nI 340)) rfl (by decide) ?_
  refine rn_bipush (x := (nI 10)) rfl (by decide) ?_
  refine rn_iload_n (i := 2) rfl rfl ?_
  refine rn_imul rfl ?_
  refine rn_iload_n (i := 1) rfl rfl ?_
  refine rn_iadd rfl ?_
  refine rn_wI rfl hb (fun h2 hb => ?_)
  refine rn_iconst (x := (nI 1)) rfl (by decide) ?_
  obtain ⟨hz, hb⟩ := grd_spec hb
  obtain rfl := Option.some.inj hb
  exact rn_zret rfl rfl (of_decide_eq_true hz)
def b_262_18 (v0 : Option Nat) (v1 : Int32) (v2 : Int32)  (h : Hp) : Option (Int32 × Hp) :=
  (gQ 11 44 v0 h).bind fun x1 =>
  (aI 12 x1 (((nI 10) * v2) + v1) h).bind fun x2 =>
  if x2 = 0 then b_262_34 v0 v1 v2  h else b_262_32   h
theorem u_262_18 (d : Nat) (hd : 4 ≤ d) (v0 : Option Nat) (v1 : Int32) (v2 : Int32)  (h : Hp) (r : Int32 × Hp) (hb : b_262_18 v0 v1 v2  h = some r) : Rn d 262 18 [some (va_rf v0), some (.int v1), some (.int v2)] [] h (some (.int r.1), r.2) := by
  unfold b_262_18 at hb
  refine rn_aload_n (i := 0) rfl rfl ?_
  refine rn_gQ (c := 11) (k := 44) rfl (by decide) hb (fun x1 hb => ?_)
  refine rn_bipush (x := (nI 10)) rfl (by decide) ?_
  refine rn_iload_n (i := 2) rfl rfl ?_
  refine rn_imul rfl ?_
  refine rn_iload_n (i := 1) rfl rfl ?_
  refine rn_iadd rfl ?_
  refine rn_aI rfl hb (fun x2 hb => ?_)
  refine rn_if_eq rfl rfl (fun hc => ?_) (fun hc => ?_)
  · exact u_262_34 d hd v0 v1 v2  h _ (if_t hb hc)
  · exact u_262_32 d hd v0 v1 v2  h _ (if_f hb hc)
def b_262_0 (v0 : Option Nat) (v1 : Int32) (v2 : Int32)  (h : Hp) : Option (Int32 × Hp) :=
  (pI 11 0 v0 (nI 0) h).bind fun h1 =>
  (grd (rC 11 v0 h1)).bind fun _ =>
  (f_253 v0 h1).bind fun p2 =>
  (grd (rC 11 v0 p2)).bind fun _ =>
  (f_255 v0 v1 v2 p2).bind fun p3 =>
  if p3.1 = 0 then b_262_32   p3.2 else b_262_18 v0 v1 v2  p3.2
theorem u_262_0 (d : Nat) (hd : 4 ≤ d) (v0 : Option Nat) (v1 : Int32) (v2 : Int32)  (h : Hp) (r : Int32 × Hp) (hb : b_262_0 v0 v1 v2  h = some r) : Rn d 262 0 [some (va_rf v0), some (.int v1), some (.int v2)] [] h (some (.int r.1), r.2) := by
  unfold b_262_0 at hb
  obtain ⟨e, rfl⟩ : ∃ e, d = e + 1 := ⟨d - 1, by omega⟩
  refine rn_aload_n (i := 0) rfl rfl ?_
  refine rn_iconst (x := (nI 0)) rfl (by decide) ?_
  refine rn_pI (c := 11) (k := 0) rfl (by decide) hb (fun h1 hb => ?_)
  refine rn_aload_n (i := 0) rfl rfl ?_
  obtain ⟨hrc, hb⟩ := grd_spec hb
  obtain ⟨p2, hc, hb⟩ := Option.bind_eq_some_iff.mp hb
  refine Rn.call0 (d := e) (As := [va_rf v0]) (rest := []) rfl rfl rfl (by decide) rfl rfl rfl (bd_rcV hrc rfl) (by decide) (bd_lenC (n := 2) rfl (bd_slR bd_slN) rfl) (bd_locC (n := 2) rfl (bd_slR bd_slN) rfl (t_253 e (by omega) v0 h1 _ hc)) ?_
  refine rn_aload_n (i := 0) rfl rfl ?_
  refine rn_iload_n (i := 1) rfl rfl ?_
  refine rn_iload_n (i := 2) rfl rfl ?_
  obtain ⟨hrc, hb⟩ := grd_spec hb
  obtain ⟨p3, hc, hb⟩ := Option.bind_eq_some_iff.mp hb
  refine Rn.call1 (d := e) (As := [va_rf v0, .int v1, .int v2]) (rest := []) rfl rfl rfl (by decide) rfl rfl rfl (bd_rcV hrc rfl) (by decide) (bd_lenC (n := 3) rfl (bd_slR (bd_slI (bd_slI bd_slN))) rfl) (bd_locC (n := 3) rfl (bd_slR (bd_slI (bd_slI bd_slN))) rfl (t_255 e (by omega) v0 v1 v2 p2 _ hc)) ?_
  refine rn_if_eq rfl rfl (fun hc => ?_) (fun hc => ?_)
  · exact u_262_32 (e + 1) hd v0 v1 v2  p3.2 _ (if_t hb hc)
  · exact u_262_18 (e + 1) hd v0 v1 v2  p3.2 _ (if_f hb hc)
/-- BitingDoorsModel.stand(II)Z -/
def f_262 (v0 : Option Nat) (v1 : Int32) (v2 : Int32) (h : Hp) : Option (Int32 × Hp) := b_262_0 v0 v1 v2 h
theorem t_262 (d : Nat) (hd : 4 ≤ d) (v0 : Option Nat) (v1 : Int32) (v2 : Int32) (h : Hp) (r : Int32 × Hp) (hb : f_262 v0 v1 v2 h = some r) : Rn d 262 0 [some (va_rf v0), some (.int v1), some (.int v2)] [] h (some (.int r.1), r.2) := by
  unfold f_262 at hb
  exact u_262_0 d hd v0 v1 v2 h r hb
def b_263_0 (v0 : Option Nat)  (h : Hp) : Option (Int32 × Hp) :=
  (pI 11 0 v0 (nI 0) h).bind fun h1 =>
  (grd (rC 11 v0 h1)).bind fun _ =>
  (f_202 v0 h1).bind fun p2 =>
  (gQ 11 14 v0 p2).bind fun x3 =>
  (aI 12 x3 (nI 340) p2).bind fun x4 =>
  some (x4, p2)
theorem u_263_0 (d : Nat) (hd : 1 ≤ d) (v0 : Option Nat)  (h : Hp) (r : Int32 × Hp) (hb : b_263_0 v0  h = some r) : Rn d 263 0 [some (va_rf v0)] [] h (some (.int r.1), r.2) := by
  unfold b_263_0 at hb
  obtain ⟨e, rfl⟩ : ∃ e, d = e + 1 := ⟨d - 1, by omega⟩
  refine rn_aload_n (i := 0) rfl rfl ?_
  refine rn_iconst (x := (nI 0)) rfl (by decide) ?_
  refine rn_pI (c := 11) (k := 0) rfl (by decide) hb (fun h1 hb => ?_)
  refine rn_aload_n (i := 0) rfl rfl ?_
  obtain ⟨hrc, hb⟩ := grd_spec hb
  obtain ⟨p2, hc, hb⟩ := Option.bind_eq_some_iff.mp hb
  refine Rn.call0 (d := e) (As := [va_rf v0]) (rest := []) rfl rfl rfl (by decide) rfl rfl rfl (bd_rcV hrc rfl) (by decide) (bd_lenC (n := 1) rfl (bd_slR bd_slN) rfl) (bd_locC (n := 1) rfl (bd_slR bd_slN) rfl (t_202 e (by omega) v0 h1 _ hc)) ?_
  refine rn_aload_n (i := 0) rfl rfl ?_
  refine rn_gQ (c := 11) (k := 14) rfl (by decide) hb (fun x3 hb => ?_)
  refine rn_sipush (x := (nI 340)) rfl (by decide) ?_
  refine rn_aI rfl hb (fun x4 hb => ?_)
  obtain rfl := Option.some.inj hb
  exact rn_iret rfl rfl
/-- BitingDoorsModel.place()I -/
def f_263 (v0 : Option Nat) (h : Hp) : Option (Int32 × Hp) := b_263_0 v0 h
theorem t_263 (d : Nat) (hd : 1 ≤ d) (v0 : Option Nat) (h : Hp) (r : Int32 × Hp) (hb : f_263 v0 h = some r) : Rn d 263 0 [some (va_rf v0)] [] h (some (.int r.1), r.2) := by
  unfold f_263 at hb
  exact u_263_0 d hd v0 h r hb
def b_264_26  (s0 : Int32) (h : Hp) : Option (Int32 × Hp) :=
  (grd (decide (s0 = 0 ∨ s0 = 1))).bind fun _ => some (s0, h)
theorem u_264_26 (d : Nat) (hd : 1 ≤ d) (v0 : Option Nat) (v1 : Int32) (s0 : Int32) (h : Hp) (r : Int32 × Hp) (hb : b_264_26  s0 h = some r) : Rn d 264 26 [some (va_rf v0), some (.int v1)] [.int s0] h (some (.int r.1), r.2) := by
  unfold b_264_26 at hb
  obtain ⟨hz, hb⟩ := grd_spec hb
  obtain rfl := Option.some.inj hb
  exact rn_zret rfl rfl (of_decide_eq_true hz)
def b_264_21   (h : Hp) : Option (Int32 × Hp) :=
  b_264_26  (nI 1) h
theorem u_264_21 (d : Nat) (hd : 1 ≤ d) (v0 : Option Nat) (v1 : Int32)  (h : Hp) (r : Int32 × Hp) (hb : b_264_21   h = some r) : Rn d 264 21 [some (va_rf v0), some (.int v1)] [] h (some (.int r.1), r.2) := by
  unfold b_264_21 at hb
  refine rn_iconst (x := (nI 1)) rfl (by decide) ?_
  refine rn_goto rfl rfl ?_
  exact u_264_26 d hd v0 v1 (nI 1) h _ hb
def b_264_25   (h : Hp) : Option (Int32 × Hp) :=
  b_264_26  (nI 0) h
theorem u_264_25 (d : Nat) (hd : 1 ≤ d) (v0 : Option Nat) (v1 : Int32)  (h : Hp) (r : Int32 × Hp) (hb : b_264_25   h = some r) : Rn d 264 25 [some (va_rf v0), some (.int v1)] [] h (some (.int r.1), r.2) := by
  unfold b_264_25 at hb
  refine rn_iconst (x := (nI 0)) rfl (by decide) ?_
  exact u_264_26 d hd v0 v1 (nI 0) h _ hb
def b_264_5 (v0 : Option Nat) (v1 : Int32)  (h : Hp) : Option (Int32 × Hp) :=
  (grd (rC 11 v0 h)).bind fun _ =>
  (f_203 v0 h).bind fun p1 =>
  (f_182 v1 (nI 0) ((nI 3) + ((nI 2) * p1.1)) p1.2).bind fun p2 =>
  if p2.1 = 0 then b_264_25   p2.2 else b_264_21   p2.2
theorem u_264_5 (d : Nat) (hd : 1 ≤ d) (v0 : Option Nat) (v1 : Int32)  (h : Hp) (r : Int32 × Hp) (hb : b_264_5 v0 v1  h = some r) : Rn d 264 5 [some (va_rf v0), some (.int v1)] [] h (some (.int r.1), r.2) := by
  unfold b_264_5 at hb
  obtain ⟨e, rfl⟩ : ∃ e, d = e + 1 := ⟨d - 1, by omega⟩
  refine rn_iload_n (i := 1) rfl rfl ?_
  refine rn_iconst (x := (nI 0)) rfl (by decide) ?_
  refine rn_iconst (x := (nI 3)) rfl (by decide) ?_
  refine rn_iconst (x := (nI 2)) rfl (by decide) ?_
  refine rn_aload_n (i := 0) rfl rfl ?_
  obtain ⟨hrc, hb⟩ := grd_spec hb
  obtain ⟨p1, hc, hb⟩ := Option.bind_eq_some_iff.mp hb
  refine Rn.call1 (d := e) (As := [va_rf v0]) (rest := [.int (nI 2), .int (nI 3), .int (nI 0), .int v1]) rfl rfl rfl (by decide) rfl rfl rfl (bd_rcV hrc rfl) (by rw [bd_cI (bd_cI (bd_cI (bd_cI (bd_cN))))]; decide) (bd_lenC (n := 1) rfl (bd_slR bd_slN) rfl) (bd_locC (n := 1) rfl (bd_slR bd_slN) rfl (t_203 e (by omega) v0 h _ hc)) ?_
  refine rn_imul rfl ?_
  refine rn_iadd rfl ?_
  obtain ⟨p2, hc, hb⟩ := Option.bind_eq_some_iff.mp hb
  refine Rn.call1 (d := e) (As := [.int v1, .int (nI 0), .int ((nI 3) + ((nI 2) * p1.1))]) (rest := []) rfl rfl rfl (by decide) rfl rfl rfl rfl (by decide) (bd_lenC (n := 3) rfl (bd_slI (bd_slI (bd_slI bd_slN))) rfl) (bd_locC (n := 3) rfl (bd_slI (bd_slI (bd_slI bd_slN))) rfl (t_182 e (by omega) v1 (nI 0) ((nI 3) + ((nI 2) * p1.1)) p1.2 _ hc)) ?_
  refine rn_if_eq rfl rfl (fun hc => ?_) (fun hc => ?_)
  · exact u_264_25 (e + 1) hd v0 v1  p2.2 _ (if_t hb hc)
  · exact u_264_21 (e + 1) hd v0 v1  p2.2 _ (if_f hb hc)
def b_264_0 (v0 : Option Nat) (v1 : Int32)  (h : Hp) : Option (Int32 × Hp) :=
  if v1 = (-1 : Int32) then b_264_21   h else b_264_5 v0 v1  h
theorem u_264_0 (d : Nat) (hd : 1 ≤ d) (v0 : Option Nat) (v1 : Int32)  (h : Hp) (r : Int32 × Hp) (hb : b_264_0 v0 v1  h = some r) : Rn d 264 0 [some (va_rf v0), some (.int v1)] [] h (some (.int r.1), r.2) := by
  unfold b_264_0 at hb
  refine rn_iload_n (i := 1) rfl rfl ?_
  refine rn_iconst (x := (-1 : Int32)) rfl (by decide) ?_
  refine rn_icmp_eq rfl rfl (fun hc => ?_) (fun hc => ?_)
  · exact u_264_21 d hd v0 v1  h _ (if_t hb hc)
  · exact u_264_5 d hd v0 v1  h _ (if_f hb hc)
/-- BitingDoorsModel.isAct(I)Z -/
def f_264 (v0 : Option Nat) (v1 : Int32) (h : Hp) : Option (Int32 × Hp) := b_264_0 v0 v1 h
theorem t_264 (d : Nat) (hd : 1 ≤ d) (v0 : Option Nat) (v1 : Int32) (h : Hp) (r : Int32 × Hp) (hb : f_264 v0 v1 h = some r) : Rn d 264 0 [some (va_rf v0), some (.int v1)] [] h (some (.int r.1), r.2) := by
  unfold f_264 at hb
  exact u_264_0 d hd v0 v1 h r hb
def b_265_36 (v0 : Option Nat)  (h : Hp) : Option (Int32 × Hp) :=
  (grd (rC 11 v0 h)).bind fun _ =>
  (f_254 v0 h).bind fun p1 =>
  (gI 11 23 v0 p1).bind fun x2 =>
  (pI 11 23 v0 (x2 + (nI 1)) p1).bind fun h3 =>
  some ((nI 0), h3)
theorem u_265_36 (d : Nat) (hd : 6 ≤ d) (v0 : Option Nat) (v1 : Int32) (v2 : Int32)  (h : Hp) (r : Int32 × Hp) (hb : b_265_36 v0  h = some r) : Rn d 265 36 [some (va_rf v0), some (.int v1), some (.int v2)] [] h (some (.int r.1), r.2) := by
  unfold b_265_36 at hb
  obtain ⟨e, rfl⟩ : ∃ e, d = e + 1 := ⟨d - 1, by omega⟩
  refine rn_aload_n (i := 0) rfl rfl ?_
  obtain ⟨hrc, hb⟩ := grd_spec hb
  obtain ⟨p1, hc, hb⟩ := Option.bind_eq_some_iff.mp hb
  refine Rn.call0 (d := e) (As := [va_rf v0]) (rest := []) rfl rfl rfl (by decide) rfl rfl rfl (bd_rcV hrc rfl) (by decide) (bd_lenC (n := 2) rfl (bd_slR bd_slN) rfl) (bd_locC (n := 2) rfl (bd_slR bd_slN) rfl (t_254 e (by omega) v0 h _ hc)) ?_
  refine rn_aload_n (i := 0) rfl rfl ?_
  refine rn_dup rfl (bd_cat_rf _) ?_
  refine rn_gI (c := 11) (k := 23) rfl (by decide) hb (fun x2 hb => ?_)
  refine rn_iconst (x := (nI 1)) rfl (by decide) ?_
  refine rn_iadd rfl ?_
  refine rn_pI (c := 11) (k := 23) rfl (by decide) hb (fun h3 hb => ?_)
  refine rn_iconst (x := (nI 0)) rfl (by decide) ?_
  obtain rfl := Option.some.inj hb
  exact rn_iret rfl rfl
def b_265_34 (v2 : Int32)  (h : Hp) : Option (Int32 × Hp) :=
  some (v2, h)
theorem u_265_34 (d : Nat) (hd : 6 ≤ d) (v0 : Option Nat) (v1 : Int32) (v2 : Int32)  (h : Hp) (r : Int32 × Hp) (hb : b_265_34 v2  h = some r) : Rn d 265 34 [some (va_rf v0), some (.int v1), some (.int v2)] [] h (some (.int r.1), r.2) := by
  unfold b_265_34 at hb
  refine rn_iload_n (i := 2) rfl rfl ?_
  obtain rfl := Option.some.inj hb
  exact rn_iret rfl rfl
def b_265_20 (v0 : Option Nat) (v1 : Int32)  (h : Hp) : Option (Int32 × Hp) :=
  (grd (rC 11 v0 h)).bind fun _ =>
  (f_253 v0 h).bind fun p1 =>
  (grd (rC 11 v0 p1)).bind fun _ =>
  (f_261 v0 v1 p1).bind fun p2 =>
  bnd (p2.1) fun x3 =>
  if x3 = 0 then b_265_36 v0  p2.2 else b_265_34 x3  p2.2
theorem u_265_20 (d : Nat) (hd : 6 ≤ d) (v0 : Option Nat) (v1 : Int32)  (h : Hp) (r : Int32 × Hp) (hb : b_265_20 v0 v1  h = some r) : Rn d 265 20 [some (va_rf v0), some (.int v1), none] [] h (some (.int r.1), r.2) := by
  unfold b_265_20 at hb
  obtain ⟨e, rfl⟩ : ∃ e, d = e + 1 := ⟨d - 1, by omega⟩
  refine rn_aload_n (i := 0) rfl rfl ?_
  obtain ⟨hrc, hb⟩ := grd_spec hb
  obtain ⟨p1, hc, hb⟩ := Option.bind_eq_some_iff.mp hb
  refine Rn.call0 (d := e) (As := [va_rf v0]) (rest := []) rfl rfl rfl (by decide) rfl rfl rfl (bd_rcV hrc rfl) (by decide) (bd_lenC (n := 2) rfl (bd_slR bd_slN) rfl) (bd_locC (n := 2) rfl (bd_slR bd_slN) rfl (t_253 e (by omega) v0 h _ hc)) ?_
  refine rn_aload_n (i := 0) rfl rfl ?_
  refine rn_iload_n (i := 1) rfl rfl ?_
  obtain ⟨hrc, hb⟩ := grd_spec hb
  obtain ⟨p2, hc, hb⟩ := Option.bind_eq_some_iff.mp hb
  refine Rn.call1 (d := e) (As := [va_rf v0, .int v1]) (rest := []) rfl rfl rfl (by decide) rfl rfl rfl (bd_rcV hrc rfl) (by decide) (bd_lenC (n := 3) rfl (bd_slR (bd_slI bd_slN)) rfl) (bd_locC (n := 3) rfl (bd_slR (bd_slI bd_slN)) rfl (t_261 e (by omega) v0 v1 p1 _ hc)) ?_
  obtain ⟨x3, ex3, hb⟩ := bnd_spec hb
  refine rn_istore_n (i := 2) (L1 := [some (va_rf v0), some (.int v1), some (.int x3)]) rfl (Nat.le_of_ble_eq_true rfl) (Or.inr rfl) (by rw [ex3]; rfl) ?_
  refine rn_iload_n (i := 2) rfl rfl ?_
  refine rn_if_eq rfl rfl (fun hc => ?_) (fun hc => ?_)
  · exact u_265_36 (e + 1) hd v0 v1 x3  p2.2 _ (if_t hb hc)
  · exact u_265_34 (e + 1) hd v0 v1 x3  p2.2 _ (if_f hb hc)
def b_265_17   (h : Hp) : Option (Int32 × Hp) :=
  some ((-2 : Int32), h)
theorem u_265_17 (d : Nat) (hd : 6 ≤ d) (v0 : Option Nat) (v1 : Int32)  (h : Hp) (r : Int32 × Hp) (hb : b_265_17   h = some r) : Rn d 265 17 [some (va_rf v0), some (.int v1), none] [] h (some (.int r.1), r.2) := by
  unfold b_265_17 at hb
  refine rn_bipush (x := (-2 : Int32)) rfl (by decide) ?_
  obtain rfl := Option.some.inj hb
  exact rn_iret rfl rfl
def b_265_0 (v0 : Option Nat) (v1 : Int32)  (h : Hp) : Option (Int32 × Hp) :=
  (pI 11 0 v0 (nI 0) h).bind fun h1 =>
  (grd (rC 11 v0 h1)).bind fun _ =>
  (f_202 v0 h1).bind fun p2 =>
  (grd (rC 11 v0 p2)).bind fun _ =>
  (f_264 v0 v1 p2).bind fun p3 =>
  if ¬ p3.1 = 0 then b_265_20 v0 v1  p3.2 else b_265_17   p3.2
theorem u_265_0 (d : Nat) (hd : 6 ≤ d) (v0 : Option Nat) (v1 : Int32)  (h : Hp) (r : Int32 × Hp) (hb : b_265_0 v0 v1  h = some r) : Rn d 265 0 [some (va_rf v0), some (.int v1), none] [] h (some (.int r.1), r.2) := by
  unfold b_265_0 at hb
  obtain ⟨e, rfl⟩ : ∃ e, d = e + 1 := ⟨d - 1, by omega⟩
  refine rn_aload_n (i := 0) rfl rfl ?_
  refine rn_iconst (x := (nI 0)) rfl (by decide) ?_
  refine rn_pI (c := 11) (k := 0) rfl (by decide) hb (fun h1 hb => ?_)
  refine rn_aload_n (i := 0) rfl rfl ?_
  obtain ⟨hrc, hb⟩ := grd_spec hb
  obtain ⟨p2, hc, hb⟩ := Option.bind_eq_some_iff.mp hb
  refine Rn.call0 (d := e) (As := [va_rf v0]) (rest := []) rfl rfl rfl (by decide) rfl rfl rfl (bd_rcV hrc rfl) (by decide) (bd_lenC (n := 1) rfl (bd_slR bd_slN) rfl) (bd_locC (n := 1) rfl (bd_slR bd_slN) rfl (t_202 e (by omega) v0 h1 _ hc)) ?_
  refine rn_aload_n (i := 0) rfl rfl ?_
  refine rn_iload_n (i := 1) rfl rfl ?_
  obtain ⟨hrc, hb⟩ := grd_spec hb
  obtain ⟨p3, hc, hb⟩ := Option.bind_eq_some_iff.mp hb
  refine Rn.call1 (d := e) (As := [va_rf v0, .int v1]) (rest := []) rfl rfl rfl (by decide) rfl rfl rfl (bd_rcV hrc rfl) (by decide) (bd_lenC (n := 2) rfl (bd_slR (bd_slI bd_slN)) rfl) (bd_locC (n := 2) rfl (bd_slR (bd_slI bd_slN)) rfl (t_264 e (by omega) v0 v1 p2 _ hc)) ?_
  refine rn_if_ne rfl rfl (fun hc => ?_) (fun hc => ?_)
  · exact u_265_20 (e + 1) hd v0 v1  p3.2 _ (if_t hb hc)
  · exact u_265_17 (e + 1) hd v0 v1  p3.2 _ (if_f hb hc)
/-- BitingDoorsModel.does(I)I -/
def f_265 (v0 : Option Nat) (v1 : Int32) (h : Hp) : Option (Int32 × Hp) := b_265_0 v0 v1 h
theorem t_265 (d : Nat) (hd : 6 ≤ d) (v0 : Option Nat) (v1 : Int32) (h : Hp) (r : Int32 × Hp) (hb : f_265 v0 v1 h = some r) : Rn d 265 0 [some (va_rf v0), some (.int v1), none] [] h (some (.int r.1), r.2) := by
  unfold f_265 at hb
  exact u_265_0 d hd v0 v1 h r hb
def b_266_0 (v0 : Option Nat)  (h : Hp) : Option (Int32 × Hp) :=
  (pI 11 0 v0 (nI 0) h).bind fun h1 =>
  (gI 11 23 v0 h1).bind fun x2 =>
  some (x2, h1)
theorem u_266_0 (d : Nat) (hd : 0 ≤ d) (v0 : Option Nat)  (h : Hp) (r : Int32 × Hp) (hb : b_266_0 v0  h = some r) : Rn d 266 0 [some (va_rf v0)] [] h (some (.int r.1), r.2) := by
  unfold b_266_0 at hb
  refine rn_aload_n (i := 0) rfl rfl ?_
  refine rn_iconst (x := (nI 0)) rfl (by decide) ?_
  refine rn_pI (c := 11) (k := 0) rfl (by decide) hb (fun h1 hb => ?_)
  refine rn_aload_n (i := 0) rfl rfl ?_
  refine rn_gI (c := 11) (k := 23) rfl (by decide) hb (fun x2 hb => ?_)
  obtain rfl := Option.some.inj hb
  exact rn_iret rfl rfl
/-- BitingDoorsModel.minutes()I -/
def f_266 (v0 : Option Nat) (h : Hp) : Option (Int32 × Hp) := b_266_0 v0 h
theorem t_266 (d : Nat) (hd : 0 ≤ d) (v0 : Option Nat) (h : Hp) (r : Int32 × Hp) (hb : f_266 v0 h = some r) : Rn d 266 0 [some (va_rf v0)] [] h (some (.int r.1), r.2) := by
  unfold f_266 at hb
  exact u_266_0 d hd v0 h r hb
def b_267_268 (v0 : Option Nat)  (h : Hp) : Option (Int32 × Hp) :=
  (gI 11 47 v0 h).bind fun x1 =>
  (pI 11 47 v0 (x1 + (nI 1)) h).bind fun h2 =>
  (grd (rC 11 v0 h2)).bind fun _ =>
  (f_200 v0 h2).bind fun p3 =>
  (grd (decide (p3.1 = 0 ∨ p3.1 = 1))).bind fun _ => some (p3.1, p3.2)
theorem u_267_268 (d : Nat) (hd : 3 ≤ d) (v0 : Option Nat) (v1 : Int32) (v2 : Int32) (v3 : Int32) (v4 : Int32) (v5 : Option (Int32))  (h : Hp) (r : Int32 × Hp) (hb : b_267_268 v0  h = some r) : Rn d 267 268 [some (va_rf v0), some (.int v1), some (.int v2), some (.int v3), some (.int v4), v5.map Value.int] [] h (some (.int r.1), r.2) := by
  unfold b_267_268 at hb
  obtain ⟨e, rfl⟩ : ∃ e, d = e + 1 := ⟨d - 1, by omega⟩
  refine rn_aload_n (i := 0) rfl rfl ?_
  refine rn_dup rfl (bd_cat_rf _) ?_
  refine rn_gI (c := 11) (k := 47) rfl (by decide) hb (fun x1 hb => ?_)
  refine rn_iconst (x := (nI 1)) rfl (by decide) ?_
  refine rn_iadd rfl ?_
  refine rn_pI (c := 11) (k := 47) rfl (by decide) hb (fun h2 hb => ?_)
  refine rn_aload_n (i := 0) rfl rfl ?_
  obtain ⟨hrc, hb⟩ := grd_spec hb
  obtain ⟨p3, hc, hb⟩ := Option.bind_eq_some_iff.mp hb
  refine Rn.call1 (d := e) (As := [va_rf v0]) (rest := []) rfl rfl rfl (by decide) rfl rfl rfl (bd_rcV hrc rfl) (by decide) (bd_lenC (n := 1) rfl (bd_slR bd_slN) rfl) (bd_locC (n := 1) rfl (bd_slR bd_slN) rfl (t_200 e (by omega) v0 h2 _ hc)) ?_
  obtain ⟨hz, hb⟩ := grd_spec hb
  obtain rfl := Option.some.inj hb
  exact rn_zret rfl rfl (of_decide_eq_true hz)
def b_267_159 (v0 : Option Nat) (v4 : Int32) (v5 : Int32) (s0 : Option Nat) (s1 : Int32) (s2 : Int32) (h : Hp) : Option (Int32 × Hp) :=
  (wI s0 s1 s2 h).bind fun h1 =>
  (gQ 11 16 v0 h1).bind fun x2 =>
  (wI x2 (v4 + (nI 1)) v5 h1).bind fun h3 =>
  (grd (rC 11 v0 h3)).bind fun _ =>
  (f_189 v0 h3).bind fun p4 =>
  b_267_268 v0  p4
theorem u_267_159 (d : Nat) (hd : 3 ≤ d) (v0 : Option Nat) (v1 : Int32) (v2 : Int32) (v3 : Int32) (v4 : Int32) (v5 : Int32) (s0 : Option Nat) (s1 : Int32) (s2 : Int32) (h : Hp) (r : Int32 × Hp) (hb : b_267_159 v0 v4 v5 s0 s1 s2 h = some r) : Rn d 267 159 [some (va_rf v0), some (.int v1), some (.int v2), some (.int v3), some (.int v4), some (.int v5)] [.int s2, .int s1, va_rf s0] h (some (.int r.1), r.2) := by
  unfold b_267_159 at hb
  obtain ⟨e, rfl⟩ : ∃ e, d = e + 1 := ⟨d - 1, by omega⟩
  refine rn_wI rfl hb (fun h1 hb => ?_)
  refine rn_aload_n (i := 0) rfl rfl ?_
  refine rn_gQ (c := 11) (k := 16) rfl (by decide) hb (fun x2 hb => ?_)
  refine rn_iload (i := 4) rfl rfl ?_
  refine rn_iconst (x := (nI 1)) rfl (by decide) ?_
  refine rn_iadd rfl ?_
  refine rn_iload (i := 5) rfl rfl ?_
  refine rn_wI rfl hb (fun h3 hb => ?_)
  refine rn_aload_n (i := 0) rfl rfl ?_
  obtain ⟨hrc, hb⟩ := grd_spec hb
  obtain ⟨p4, hc, hb⟩ := Option.bind_eq_some_iff.mp hb
  refine Rn.call0 (d := e) (As := [va_rf v0]) (rest := []) rfl rfl rfl (by decide) rfl rfl rfl (bd_rcV hrc rfl) (by decide) (bd_lenC (n := 5) rfl (bd_slR bd_slN) rfl) (bd_locC (n := 5) rfl (bd_slR bd_slN) rfl (t_189 e (by omega) v0 h3 _ hc)) ?_
  refine rn_goto rfl rfl ?_
  exact u_267_268 (e + 1) hd v0 v1 v2 v3 v4 (some v5)  p4 _ hb
def b_267_158 (v0 : Option Nat) (v4 : Int32) (v5 : Int32) (s0 : Option Nat) (s1 : Int32) (h : Hp) : Option (Int32 × Hp) :=
  b_267_159 v0 v4 v5 s0 s1 (nI 5) h
theorem u_267_158 (d : Nat) (hd : 3 ≤ d) (v0 : Option Nat) (v1 : Int32) (v2 : Int32) (v3 : Int32) (v4 : Int32) (v5 : Int32) (s0 : Option Nat) (s1 : Int32) (h : Hp) (r : Int32 × Hp) (hb : b_267_158 v0 v4 v5 s0 s1 h = some r) : Rn d 267 158 [some (va_rf v0), some (.int v1), some (.int v2), some (.int v3), some (.int v4), some (.int v5)] [.int s1, va_rf s0] h (some (.int r.1), r.2) := by
  unfold b_267_158 at hb
  refine rn_iconst (x := (nI 5)) rfl (by decide) ?_
  exact u_267_159 d hd v0 v1 v2 v3 v4 v5 s0 s1 (nI 5) h _ hb
def b_267_154 (v0 : Option Nat) (v4 : Int32) (v5 : Int32) (s0 : Option Nat) (s1 : Int32) (h : Hp) : Option (Int32 × Hp) :=
  b_267_159 v0 v4 v5 s0 s1 (nI 4) h
theorem u_267_154 (d : Nat) (hd : 3 ≤ d) (v0 : Option Nat) (v1 : Int32) (v2 : Int32) (v3 : Int32) (v4 : Int32) (v5 : Int32) (s0 : Option Nat) (s1 : Int32) (h : Hp) (r : Int32 × Hp) (hb : b_267_154 v0 v4 v5 s0 s1 h = some r) : Rn d 267 154 [some (va_rf v0), some (.int v1), some (.int v2), some (.int v3), some (.int v4), some (.int v5)] [.int s1, va_rf s0] h (some (.int r.1), r.2) := by
  unfold b_267_154 at hb
  refine rn_iconst (x := (nI 4)) rfl (by decide) ?_
  refine rn_goto rfl rfl ?_
  exact u_267_159 d hd v0 v1 v2 v3 v4 v5 s0 s1 (nI 4) h _ hb
def b_267_144 (v0 : Option Nat) (v2 : Int32) (v4 : Int32) (v5 : Int32)  (h : Hp) : Option (Int32 × Hp) :=
  (gQ 11 16 v0 h).bind fun x1 =>
  if v2 = 0 then b_267_158 v0 v4 v5 x1 v4 h else b_267_154 v0 v4 v5 x1 v4 h
theorem u_267_144 (d : Nat) (hd : 3 ≤ d) (v0 : Option Nat) (v1 : Int32) (v2 : Int32) (v3 : Int32) (v4 : Int32) (v5 : Int32)  (h : Hp) (r : Int32 × Hp) (hb : b_267_144 v0 v2 v4 v5  h = some r) : Rn d 267 144 [some (va_rf v0), some (.int v1), some (.int v2), some (.int v3), some (.int v4), some (.int v5)] [] h (some (.int r.1), r.2) := by
  unfold b_267_144 at hb
  refine rn_aload_n (i := 0) rfl rfl ?_
  refine rn_gQ (c := 11) (k := 16) rfl (by decide) hb (fun x1 hb => ?_)
  refine rn_iload (i := 4) rfl rfl ?_
  refine rn_iload_n (i := 2) rfl rfl ?_
  refine rn_if_eq rfl rfl (fun hc => ?_) (fun hc => ?_)
  · exact u_267_158 d hd v0 v1 v2 v3 v4 v5 x1 v4 h _ (if_t hb hc)
  · exact u_267_154 d hd v0 v1 v2 v3 v4 v5 x1 v4 h _ (if_f hb hc)
def b_267_138 (v0 : Option Nat)  (h : Hp) : Option (Int32 × Hp) :=
  (grd (rC 11 v0 h)).bind fun _ =>
  (f_198 v0 (nI 3) h).bind fun p1 =>
  (grd (decide (p1.1 = 0 ∨ p1.1 = 1))).bind fun _ => some (p1.1, p1.2)
theorem u_267_138 (d : Nat) (hd : 3 ≤ d) (v0 : Option Nat) (v1 : Int32) (v2 : Int32) (v3 : Int32) (v4 : Int32) (v5 : Int32)  (h : Hp) (r : Int32 × Hp) (hb : b_267_138 v0  h = some r) : Rn d 267 138 [some (va_rf v0), some (.int v1), some (.int v2), some (.int v3), some (.int v4), some (.int v5)] [] h (some (.int r.1), r.2) := by
  unfold b_267_138 at hb
  obtain ⟨e, rfl⟩ : ∃ e, d = e + 1 := ⟨d - 1, by omega⟩
  refine rn_aload_n (i := 0) rfl rfl ?_
  refine rn_iconst (x := (nI 3)) rfl (by decide) ?_
  obtain ⟨hrc, hb⟩ := grd_spec hb
  obtain ⟨p1, hc, hb⟩ := Option.bind_eq_some_iff.mp hb
  refine Rn.call1 (d := e) (As := [va_rf v0, .int (nI 3)]) (rest := []) rfl rfl rfl (by decide) rfl rfl rfl (bd_rcV hrc rfl) (by decide) (bd_lenC (n := 2) rfl (bd_slR (bd_slI bd_slN)) rfl) (bd_locC (n := 2) rfl (bd_slR (bd_slI bd_slN)) rfl (t_198 e (by omega) v0 (nI 3) h _ hc)) ?_
  obtain ⟨hz, hb⟩ := grd_spec hb
  obtain rfl := Option.some.inj hb
  exact rn_zret rfl rfl (of_decide_eq_true hz)
def b_267_129 (v0 : Option Nat) (v2 : Int32) (v4 : Int32) (v5 : Int32)  (h : Hp) : Option (Int32 × Hp) :=
  (grd (rC 11 v0 h)).bind fun _ =>
  (f_203 v0 h).bind fun p1 =>
  if ¬ v5 = p1.1 then b_267_144 v0 v2 v4 v5  p1.2 else b_267_138 v0  p1.2
theorem u_267_129 (d : Nat) (hd : 3 ≤ d) (v0 : Option Nat) (v1 : Int32) (v2 : Int32) (v3 : Int32) (v4 : Int32) (v5 : Int32)  (h : Hp) (r : Int32 × Hp) (hb : b_267_129 v0 v2 v4 v5  h = some r) : Rn d 267 129 [some (va_rf v0), some (.int v1), some (.int v2), some (.int v3), some (.int v4), some (.int v5)] [] h (some (.int r.1), r.2) := by
  unfold b_267_129 at hb
  obtain ⟨e, rfl⟩ : ∃ e, d = e + 1 := ⟨d - 1, by omega⟩
  refine rn_iload (i := 5) rfl rfl ?_
  refine rn_aload_n (i := 0) rfl rfl ?_
  obtain ⟨hrc, hb⟩ := grd_spec hb
  obtain ⟨p1, hc, hb⟩ := Option.bind_eq_some_iff.mp hb
  refine Rn.call1 (d := e) (As := [va_rf v0]) (rest := [.int v5]) rfl rfl rfl (by decide) rfl rfl rfl (bd_rcV hrc rfl) (by rw [bd_cI (bd_cN)]; decide) (bd_lenC (n := 1) rfl (bd_slR bd_slN) rfl) (bd_locC (n := 1) rfl (bd_slR bd_slN) rfl (t_203 e (by omega) v0 h _ hc)) ?_
  refine rn_icmp_ne rfl rfl (fun hc => ?_) (fun hc => ?_)
  · exact u_267_144 (e + 1) hd v0 v1 v2 v3 v4 v5  p1.2 _ (if_t hb hc)
  · exact u_267_138 (e + 1) hd v0 v1 v2 v3 v4 v5  p1.2 _ (if_f hb hc)
def b_267_123 (k99 : Option Nat → Int32 → Int32 → Int32 → Hp → Option (Int32 × Hp)) (v0 : Option Nat) (v2 : Int32) (v4 : Int32) (v5 : Int32)  (h : Hp) : Option (Int32 × Hp) :=
  bnd (v5 + (nI 1)) fun x1 =>
  k99 v0 v2 v4 x1 h
theorem u_267_123 (d : Nat) (hd : 3 ≤ d) (k99 : Option Nat → Int32 → Int32 → Int32 → Hp → Option (Int32 × Hp)) (K99 : ∀ (v0 : Option Nat) (v1 : Int32) (v2 : Int32) (v3 : Int32) (v4 : Int32) (v5 : Int32) (h : Hp) (r : Int32 × Hp), k99 v0 v2 v4 v5 h = some r → Rn d 267 99 [some (va_rf v0), some (.int v1), some (.int v2), some (.int v3), some (.int v4), some (.int v5)] [] h (some (.int r.1), r.2)) (v0 : Option Nat) (v1 : Int32) (v2 : Int32) (v3 : Int32) (v4 : Int32) (v5 : Int32)  (h : Hp) (r : Int32 × Hp) (hb : b_267_123 k99 v0 v2 v4 v5  h = some r) : Rn d 267 123 [some (va_rf v0), some (.int v1), some (.int v2), some (.int v3), some (.int v4), some (.int v5)] [] h (some (.int r.1), r.2) := by
  unfold b_267_123 at hb
  obtain ⟨x1, ex1, hb⟩ := bnd_spec hb
  refine rn_iinc (i := 5) (y := x1) (L1 := [some (va_rf v0), some (.int v1), some (.int v2), some (.int v3), some (.int v4), some (.int x1)]) rfl rfl (Nat.le_of_ble_eq_true rfl) (Or.inr rfl) (by rw [ex1]; rfl) rfl ?_
  refine rn_goto rfl rfl ?_
  exact K99 v0 v1 v2 v3 v4 x1 h _ hb
def b_267_108 (k99 : Option Nat → Int32 → Int32 → Int32 → Hp → Option (Int32 × Hp)) (v0 : Option Nat) (v2 : Int32) (v4 : Int32) (v5 : Int32)  (h : Hp) : Option (Int32 × Hp) :=
  (gQ 11 18 v0 h).bind fun x1 =>
  (aJ x1 v5 h).bind fun x2 =>
  (gJ 11 12 v0 h).bind fun x3 =>
  if (lg_cmp x2 x3) = 0 then b_267_129 v0 v2 v4 v5  h else b_267_123 k99 v0 v2 v4 v5  h
theorem u_267_108 (d : Nat) (hd : 3 ≤ d) (k99 : Option Nat → Int32 → Int32 → Int32 → Hp → Option (Int32 × Hp)) (K99 : ∀ (v0 : Option Nat) (v1 : Int32) (v2 : Int32) (v3 : Int32) (v4 : Int32) (v5 : Int32) (h : Hp) (r : Int32 × Hp), k99 v0 v2 v4 v5 h = some r → Rn d 267 99 [some (va_rf v0), some (.int v1), some (.int v2), some (.int v3), some (.int v4), some (.int v5)] [] h (some (.int r.1), r.2)) (v0 : Option Nat) (v1 : Int32) (v2 : Int32) (v3 : Int32) (v4 : Int32) (v5 : Int32)  (h : Hp) (r : Int32 × Hp) (hb : b_267_108 k99 v0 v2 v4 v5  h = some r) : Rn d 267 108 [some (va_rf v0), some (.int v1), some (.int v2), some (.int v3), some (.int v4), some (.int v5)] [] h (some (.int r.1), r.2) := by
  unfold b_267_108 at hb
  refine rn_aload_n (i := 0) rfl rfl ?_
  refine rn_gQ (c := 11) (k := 18) rfl (by decide) hb (fun x1 hb => ?_)
  refine rn_iload (i := 5) rfl rfl ?_
  refine rn_aJ rfl hb (fun x2 hb => ?_)
  refine rn_aload_n (i := 0) rfl rfl ?_
  refine rn_gJ (c := 11) (k := 12) rfl (by decide) hb (fun x3 hb => ?_)
  refine rn_lcmp rfl ?_
  refine rn_if_eq rfl rfl (fun hc => ?_) (fun hc => ?_)
  · exact u_267_129 d hd v0 v1 v2 v3 v4 v5  h _ (if_t hb hc)
  · exact u_267_123 d hd k99 K99 v0 v1 v2 v3 v4 v5  h _ (if_f hb hc)
def b_267_99 (k99 : Option Nat → Int32 → Int32 → Int32 → Hp → Option (Int32 × Hp)) (v0 : Option Nat) (v2 : Int32) (v4 : Int32) (v5 : Int32)  (h : Hp) : Option (Int32 × Hp) :=
  (grd (rC 11 v0 h)).bind fun _ =>
  (f_203 v0 h).bind fun p1 =>
  if p1.1 ≤ v5 then b_267_129 v0 v2 v4 v5  p1.2 else b_267_108 k99 v0 v2 v4 v5  p1.2
theorem u_267_99 (d : Nat) (hd : 3 ≤ d) (k99 : Option Nat → Int32 → Int32 → Int32 → Hp → Option (Int32 × Hp)) (K99 : ∀ (v0 : Option Nat) (v1 : Int32) (v2 : Int32) (v3 : Int32) (v4 : Int32) (v5 : Int32) (h : Hp) (r : Int32 × Hp), k99 v0 v2 v4 v5 h = some r → Rn d 267 99 [some (va_rf v0), some (.int v1), some (.int v2), some (.int v3), some (.int v4), some (.int v5)] [] h (some (.int r.1), r.2)) (v0 : Option Nat) (v1 : Int32) (v2 : Int32) (v3 : Int32) (v4 : Int32) (v5 : Int32)  (h : Hp) (r : Int32 × Hp) (hb : b_267_99 k99 v0 v2 v4 v5  h = some r) : Rn d 267 99 [some (va_rf v0), some (.int v1), some (.int v2), some (.int v3), some (.int v4), some (.int v5)] [] h (some (.int r.1), r.2) := by
  unfold b_267_99 at hb
  obtain ⟨e, rfl⟩ : ∃ e, d = e + 1 := ⟨d - 1, by omega⟩
  refine rn_iload (i := 5) rfl rfl ?_
  refine rn_aload_n (i := 0) rfl rfl ?_
  obtain ⟨hrc, hb⟩ := grd_spec hb
  obtain ⟨p1, hc, hb⟩ := Option.bind_eq_some_iff.mp hb
  refine Rn.call1 (d := e) (As := [va_rf v0]) (rest := [.int v5]) rfl rfl rfl (by decide) rfl rfl rfl (bd_rcV hrc rfl) (by rw [bd_cI (bd_cN)]; decide) (bd_lenC (n := 1) rfl (bd_slR bd_slN) rfl) (bd_locC (n := 1) rfl (bd_slR bd_slN) rfl (t_203 e (by omega) v0 h _ hc)) ?_
  refine rn_icmp_ge rfl rfl (fun hc => ?_) (fun hc => ?_)
  · exact u_267_129 (e + 1) hd v0 v1 v2 v3 v4 v5  p1.2 _ (if_t hb hc)
  · exact u_267_108 (e + 1) hd k99 K99 v0 v1 v2 v3 v4 v5  p1.2 _ (if_f hb hc)
def l_267_99 : Nat → Option Nat → Int32 → Int32 → Int32 → Hp → Option (Int32 × Hp)
  | 0, _, _, _, _, _ => none
  | n + 1, v0, v2, v4, v5, h => b_267_99 (l_267_99 n) v0 v2 v4 v5 h
theorem w_267_99 (d : Nat) (hd : 3 ≤ d) : ∀ (n : Nat) (v0 : Option Nat) (v1 : Int32) (v2 : Int32) (v3 : Int32) (v4 : Int32) (v5 : Int32) (h : Hp) (r : Int32 × Hp), l_267_99 n v0 v2 v4 v5 h = some r → Rn d 267 99 [some (va_rf v0), some (.int v1), some (.int v2), some (.int v3), some (.int v4), some (.int v5)] [] h (some (.int r.1), r.2) := by
  intro n
  induction n with
  | zero => intro v0 v1 v2 v3 v4 v5 h r hb; cases hb
  | succ n ih => intro v0 v1 v2 v3 v4 v5 h r hb; exact u_267_99 d hd (l_267_99 n) ih v0 v1 v2 v3 v4 v5 h r hb
def b_267_96 (v0 : Option Nat) (v2 : Int32) (v4 : Int32)  (h : Hp) : Option (Int32 × Hp) :=
  bnd ((nI 0)) fun x1 =>
  l_267_99 FU v0 v2 v4 x1 h
theorem u_267_96 (d : Nat) (hd : 3 ≤ d) (v0 : Option Nat) (v1 : Int32) (v2 : Int32) (v3 : Int32) (v4 : Int32)  (h : Hp) (r : Int32 × Hp) (hb : b_267_96 v0 v2 v4  h = some r) : Rn d 267 96 [some (va_rf v0), some (.int v1), some (.int v2), some (.int v3), some (.int v4), none] [] h (some (.int r.1), r.2) := by
  unfold b_267_96 at hb
  refine rn_iconst (x := (nI 0)) rfl (by decide) ?_
  obtain ⟨x1, ex1, hb⟩ := bnd_spec hb
  refine rn_istore (i := 5) (L1 := [some (va_rf v0), some (.int v1), some (.int v2), some (.int v3), some (.int v4), some (.int x1)]) rfl (Nat.le_of_ble_eq_true rfl) (Or.inr rfl) (by rw [ex1]; rfl) ?_
  exact w_267_99 d hd FU v0 v1 v2 v3 v4 x1 h _ hb
def b_267_90 (v0 : Option Nat)  (h : Hp) : Option (Int32 × Hp) :=
  (grd (rC 11 v0 h)).bind fun _ =>
  (f_198 v0 (nI 1) h).bind fun p1 =>
  (grd (decide (p1.1 = 0 ∨ p1.1 = 1))).bind fun _ => some (p1.1, p1.2)
theorem u_267_90 (d : Nat) (hd : 3 ≤ d) (v0 : Option Nat) (v1 : Int32) (v2 : Int32) (v3 : Int32) (v4 : Int32)  (h : Hp) (r : Int32 × Hp) (hb : b_267_90 v0  h = some r) : Rn d 267 90 [some (va_rf v0), some (.int v1), some (.int v2), some (.int v3), some (.int v4), none] [] h (some (.int r.1), r.2) := by
  unfold b_267_90 at hb
  obtain ⟨e, rfl⟩ : ∃ e, d = e + 1 := ⟨d - 1, by omega⟩
  refine rn_aload_n (i := 0) rfl rfl ?_
  refine rn_iconst (x := (nI 1)) rfl (by decide) ?_
  obtain ⟨hrc, hb⟩ := grd_spec hb
  obtain ⟨p1, hc, hb⟩ := Option.bind_eq_some_iff.mp hb
  refine Rn.call1 (d := e) (As := [va_rf v0, .int (nI 1)]) (rest := []) rfl rfl rfl (by decide) rfl rfl rfl (bd_rcV hrc rfl) (by decide) (bd_lenC (n := 2) rfl (bd_slR (bd_slI bd_slN)) rfl) (bd_locC (n := 2) rfl (bd_slR (bd_slI bd_slN)) rfl (t_198 e (by omega) v0 (nI 1) h _ hc)) ?_
  obtain ⟨hz, hb⟩ := grd_spec hb
  obtain rfl := Option.some.inj hb
  exact rn_zret rfl rfl (of_decide_eq_true hz)
def b_267_83 (v0 : Option Nat) (v2 : Int32) (v4 : Int32)  (h : Hp) : Option (Int32 × Hp) :=
  (grd (rC 11 v0 h)).bind fun _ =>
  (f_197 v0 h).bind fun p1 =>
  if ¬ p1.1 = 0 then b_267_96 v0 v2 v4  p1.2 else b_267_90 v0  p1.2
theorem u_267_83 (d : Nat) (hd : 3 ≤ d) (v0 : Option Nat) (v1 : Int32) (v2 : Int32) (v3 : Int32) (v4 : Int32)  (h : Hp) (r : Int32 × Hp) (hb : b_267_83 v0 v2 v4  h = some r) : Rn d 267 83 [some (va_rf v0), some (.int v1), some (.int v2), some (.int v3), some (.int v4), none] [] h (some (.int r.1), r.2) := by
  unfold b_267_83 at hb
  obtain ⟨e, rfl⟩ : ∃ e, d = e + 1 := ⟨d - 1, by omega⟩
  refine rn_aload_n (i := 0) rfl rfl ?_
  obtain ⟨hrc, hb⟩ := grd_spec hb
  obtain ⟨p1, hc, hb⟩ := Option.bind_eq_some_iff.mp hb
  refine Rn.call1 (d := e) (As := [va_rf v0]) (rest := []) rfl rfl rfl (by decide) rfl rfl rfl (bd_rcV hrc rfl) (by decide) (bd_lenC (n := 2) rfl (bd_slR bd_slN) rfl) (bd_locC (n := 2) rfl (bd_slR bd_slN) rfl (t_197 e (by omega) v0 h _ hc)) ?_
  refine rn_if_ne rfl rfl (fun hc => ?_) (fun hc => ?_)
  · exact u_267_96 (e + 1) hd v0 v1 v2 v3 v4  p1.2 _ (if_t hb hc)
  · exact u_267_90 (e + 1) hd v0 v1 v2 v3 v4  p1.2 _ (if_f hb hc)
def b_267_255 (v0 : Option Nat) (v4 : Int32)  (h : Hp) : Option (Int32 × Hp) :=
  (gQ 11 16 v0 h).bind fun x1 =>
  (gI 11 13 v0 h).bind fun x2 =>
  (wI x1 (v4 + (nI 1)) x2 h).bind fun h3 =>
  b_267_268 v0  h3
theorem u_267_255 (d : Nat) (hd : 3 ≤ d) (v0 : Option Nat) (v1 : Int32) (v2 : Int32) (v3 : Int32) (v4 : Int32) (v5 : Option (Int32))  (h : Hp) (r : Int32 × Hp) (hb : b_267_255 v0 v4  h = some r) : Rn d 267 255 [some (va_rf v0), some (.int v1), some (.int v2), some (.int v3), some (.int v4), v5.map Value.int] [] h (some (.int r.1), r.2) := by
  unfold b_267_255 at hb
  refine rn_aload_n (i := 0) rfl rfl ?_
  refine rn_gQ (c := 11) (k := 16) rfl (by decide) hb (fun x1 hb => ?_)
  refine rn_iload (i := 4) rfl rfl ?_
  refine rn_iconst (x := (nI 1)) rfl (by decide) ?_
  refine rn_iadd rfl ?_
  refine rn_aload_n (i := 0) rfl rfl ?_
  refine rn_gI (c := 11) (k := 13) rfl (by decide) hb (fun x2 hb => ?_)
  refine rn_wI rfl hb (fun h3 hb => ?_)
  exact u_267_268 d hd v0 v1 v2 v3 v4 v5  h3 _ hb
def b_267_253   (h : Hp) : Option (Int32 × Hp) :=
  (grd (decide ((nI 0) = 0 ∨ (nI 0) = 1))).bind fun _ => some ((nI 0), h)
theorem u_267_253 (d : Nat) (hd : 3 ≤ d) (v0 : Option Nat) (v1 : Int32) (v2 : Int32) (v3 : Int32) (v4 : Int32) (v5 : Option (Int32))  (h : Hp) (r : Int32 × Hp) (hb : b_267_253   h = some r) : Rn d 267 253 [some (va_rf v0), some (.int v1), some (.int v2), some (.int v3), some (.int v4), v5.map Value.int] [] h (some (.int r.1), r.2) := by
  unfold b_267_253 at hb
  refine rn_iconst (x := (nI 0)) rfl (by decide) ?_
  obtain ⟨hz, hb⟩ := grd_spec hb
  obtain rfl := Option.some.inj hb
  exact rn_zret rfl rfl (of_decide_eq_true hz)
def b_267_243 (v0 : Option Nat) (v4 : Int32)  (h : Hp) : Option (Int32 × Hp) :=
  (grd (rC 11 v0 h)).bind fun _ =>
  (f_199 v0 (nI 1) (nI 30) h).bind fun p1 =>
  if ¬ p1.1 = 0 then b_267_255 v0 v4  p1.2 else b_267_253   p1.2
theorem u_267_243 (d : Nat) (hd : 3 ≤ d) (v0 : Option Nat) (v1 : Int32) (v2 : Int32) (v3 : Int32) (v4 : Int32) (v5 : Option (Int32))  (h : Hp) (r : Int32 × Hp) (hb : b_267_243 v0 v4  h = some r) : Rn d 267 243 [some (va_rf v0), some (.int v1), some (.int v2), some (.int v3), some (.int v4), v5.map Value.int] [] h (some (.int r.1), r.2) := by
  unfold b_267_243 at hb
  obtain ⟨e, rfl⟩ : ∃ e, d = e + 1 := ⟨d - 1, by omega⟩
  refine rn_aload_n (i := 0) rfl rfl ?_
  refine rn_iconst (x := (nI 1)) rfl (by decide) ?_
  refine rn_bipush (x := (nI 30)) rfl (by decide) ?_
  obtain ⟨hrc, hb⟩ := grd_spec hb
  obtain ⟨p1, hc, hb⟩ := Option.bind_eq_some_iff.mp hb
  refine Rn.call1 (d := e) (As := [va_rf v0, .int (nI 1), .int (nI 30)]) (rest := []) rfl rfl rfl (by decide) rfl rfl rfl (bd_rcV hrc rfl) (by decide) (bd_lenC (n := 3) rfl (bd_slR (bd_slI (bd_slI bd_slN))) rfl) (bd_locC (n := 3) rfl (bd_slR (bd_slI (bd_slI bd_slN))) rfl (t_199 e (by omega) v0 (nI 1) (nI 30) h _ hc)) ?_
  refine rn_if_ne rfl rfl (fun hc => ?_) (fun hc => ?_)
  · exact u_267_255 (e + 1) hd v0 v1 v2 v3 v4 v5  p1.2 _ (if_t hb hc)
  · exact u_267_253 (e + 1) hd v0 v1 v2 v3 v4 v5  p1.2 _ (if_f hb hc)
def b_267_230 (v0 : Option Nat) (v4 : Int32) (v5 : Int32)  (h : Hp) : Option (Int32 × Hp) :=
  (gQ 11 16 v0 h).bind fun x1 =>
  (wI x1 v4 v5 h).bind fun h2 =>
  (grd (rC 11 v0 h2)).bind fun _ =>
  (f_189 v0 h2).bind fun p3 =>
  b_267_243 v0 v4  p3
theorem u_267_230 (d : Nat) (hd : 3 ≤ d) (v0 : Option Nat) (v1 : Int32) (v2 : Int32) (v3 : Int32) (v4 : Int32) (v5 : Int32)  (h : Hp) (r : Int32 × Hp) (hb : b_267_230 v0 v4 v5  h = some r) : Rn d 267 230 [some (va_rf v0), some (.int v1), some (.int v2), some (.int v3), some (.int v4), some (.int v5)] [] h (some (.int r.1), r.2) := by
  unfold b_267_230 at hb
  obtain ⟨e, rfl⟩ : ∃ e, d = e + 1 := ⟨d - 1, by omega⟩
  refine rn_aload_n (i := 0) rfl rfl ?_
  refine rn_gQ (c := 11) (k := 16) rfl (by decide) hb (fun x1 hb => ?_)
  refine rn_iload (i := 4) rfl rfl ?_
  refine rn_iload (i := 5) rfl rfl ?_
  refine rn_wI rfl hb (fun h2 hb => ?_)
  refine rn_aload_n (i := 0) rfl rfl ?_
  obtain ⟨hrc, hb⟩ := grd_spec hb
  obtain ⟨p3, hc, hb⟩ := Option.bind_eq_some_iff.mp hb
  refine Rn.call0 (d := e) (As := [va_rf v0]) (rest := []) rfl rfl rfl (by decide) rfl rfl rfl (bd_rcV hrc rfl) (by decide) (bd_lenC (n := 5) rfl (bd_slR bd_slN) rfl) (bd_locC (n := 5) rfl (bd_slR bd_slN) rfl (t_189 e (by omega) v0 h2 _ hc)) ?_
  exact u_267_243 (e + 1) hd v0 v1 v2 v3 v4 (some v5)  p3 _ hb
def b_267_224 (v0 : Option Nat)  (h : Hp) : Option (Int32 × Hp) :=
  (grd (rC 11 v0 h)).bind fun _ =>
  (f_198 v0 (nI 1) h).bind fun p1 =>
  (grd (decide (p1.1 = 0 ∨ p1.1 = 1))).bind fun _ => some (p1.1, p1.2)
theorem u_267_224 (d : Nat) (hd : 3 ≤ d) (v0 : Option Nat) (v1 : Int32) (v2 : Int32) (v3 : Int32) (v4 : Int32) (v5 : Int32)  (h : Hp) (r : Int32 × Hp) (hb : b_267_224 v0  h = some r) : Rn d 267 224 [some (va_rf v0), some (.int v1), some (.int v2), some (.int v3), some (.int v4), some (.int v5)] [] h (some (.int r.1), r.2) := by
  unfold b_267_224 at hb
  obtain ⟨e, rfl⟩ : ∃ e, d = e + 1 := ⟨d - 1, by omega⟩
  refine rn_aload_n (i := 0) rfl rfl ?_
  refine rn_iconst (x := (nI 1)) rfl (by decide) ?_
  obtain ⟨hrc, hb⟩ := grd_spec hb
  obtain ⟨p1, hc, hb⟩ := Option.bind_eq_some_iff.mp hb
  refine Rn.call1 (d := e) (As := [va_rf v0, .int (nI 1)]) (rest := []) rfl rfl rfl (by decide) rfl rfl rfl (bd_rcV hrc rfl) (by decide) (bd_lenC (n := 2) rfl (bd_slR (bd_slI bd_slN)) rfl) (bd_locC (n := 2) rfl (bd_slR (bd_slI bd_slN)) rfl (t_198 e (by omega) v0 (nI 1) h _ hc)) ?_
  obtain ⟨hz, hb⟩ := grd_spec hb
  obtain rfl := Option.some.inj hb
  exact rn_zret rfl rfl (of_decide_eq_true hz)
def b_267_218 (v0 : Option Nat) (v4 : Int32) (v5 : Int32)  (h : Hp) : Option (Int32 × Hp) :=
  if ¬ v5 = (nI 4) then b_267_230 v0 v4 v5  h else b_267_224 v0  h
theorem u_267_218 (d : Nat) (hd : 3 ≤ d) (v0 : Option Nat) (v1 : Int32) (v2 : Int32) (v3 : Int32) (v4 : Int32) (v5 : Int32)  (h : Hp) (r : Int32 × Hp) (hb : b_267_218 v0 v4 v5  h = some r) : Rn d 267 218 [some (va_rf v0), some (.int v1), some (.int v2), some (.int v3), some (.int v4), some (.int v5)] [] h (some (.int r.1), r.2) := by
  unfold b_267_218 at hb
  refine rn_iload (i := 5) rfl rfl ?_
  refine rn_iconst (x := (nI 4)) rfl (by decide) ?_
  refine rn_icmp_ne rfl rfl (fun hc => ?_) (fun hc => ?_)
  · exact u_267_230 d hd v0 v1 v2 v3 v4 v5  h _ (if_t hb hc)
  · exact u_267_224 d hd v0 v1 v2 v3 v4 v5  h _ (if_f hb hc)
def b_267_212 (k194 : Option Nat → Int32 → Int32 → Hp → Option (Int32 × Hp)) (v0 : Option Nat) (v4 : Int32) (v5 : Int32)  (h : Hp) : Option (Int32 × Hp) :=
  bnd (v5 + (nI 1)) fun x1 =>
  k194 v0 v4 x1 h
theorem u_267_212 (d : Nat) (hd : 3 ≤ d) (k194 : Option Nat → Int32 → Int32 → Hp → Option (Int32 × Hp)) (K194 : ∀ (v0 : Option Nat) (v1 : Int32) (v2 : Int32) (v3 : Int32) (v4 : Int32) (v5 : Int32) (h : Hp) (r : Int32 × Hp), k194 v0 v4 v5 h = some r → Rn d 267 194 [some (va_rf v0), some (.int v1), some (.int v2), some (.int v3), some (.int v4), some (.int v5)] [] h (some (.int r.1), r.2)) (v0 : Option Nat) (v1 : Int32) (v2 : Int32) (v3 : Int32) (v4 : Int32) (v5 : Int32)  (h : Hp) (r : Int32 × Hp) (hb : b_267_212 k194 v0 v4 v5  h = some r) : Rn d 267 212 [some (va_rf v0), some (.int v1), some (.int v2), some (.int v3), some (.int v4), some (.int v5)] [] h (some (.int r.1), r.2) := by
  unfold b_267_212 at hb
  obtain ⟨x1, ex1, hb⟩ := bnd_spec hb
  refine rn_iinc (i := 5) (y := x1) (L1 := [some (va_rf v0), some (.int v1), some (.int v2), some (.int v3), some (.int v4), some (.int x1)]) rfl rfl (Nat.le_of_ble_eq_true rfl) (Or.inr rfl) (by rw [ex1]; rfl) rfl ?_
  refine rn_goto rfl rfl ?_
  exact K194 v0 v1 v2 v3 v4 x1 h _ hb
def b_267_200 (k194 : Option Nat → Int32 → Int32 → Hp → Option (Int32 × Hp)) (v0 : Option Nat) (v4 : Int32) (v5 : Int32)  (h : Hp) : Option (Int32 × Hp) :=
  (grd (rC 11 v0 h)).bind fun _ =>
  (f_193 v0 ((nI 13) + v5) h).bind fun p1 =>
  if ¬ p1.1 = 0 then b_267_218 v0 v4 v5  p1.2 else b_267_212 k194 v0 v4 v5  p1.2
theorem u_267_200 (d : Nat) (hd : 3 ≤ d) (k194 : Option Nat → Int32 → Int32 → Hp → Option (Int32 × Hp)) (K194 : ∀ (v0 : Option Nat) (v1 : Int32) (v2 : Int32) (v3 : Int32) (v4 : Int32) (v5 : Int32) (h : Hp) (r : Int32 × Hp), k194 v0 v4 v5 h = some r → Rn d 267 194 [some (va_rf v0), some (.int v1), some (.int v2), some (.int v3), some (.int v4), some (.int v5)] [] h (some (.int r.1), r.2)) (v0 : Option Nat) (v1 : Int32) (v2 : Int32) (v3 : Int32) (v4 : Int32) (v5 : Int32)  (h : Hp) (r : Int32 × Hp) (hb : b_267_200 k194 v0 v4 v5  h = some r) : Rn d 267 200 [some (va_rf v0), some (.int v1), some (.int v2), some (.int v3), some (.int v4), some (.int v5)] [] h (some (.int r.1), r.2) := by
  unfold b_267_200 at hb
  obtain ⟨e, rfl⟩ : ∃ e, d = e + 1 := ⟨d - 1, by omega⟩
  refine rn_aload_n (i := 0) rfl rfl ?_
  refine rn_bipush (x := (nI 13)) rfl (by decide) ?_
  refine rn_iload (i := 5) rfl rfl ?_
  refine rn_iadd rfl ?_
  obtain ⟨hrc, hb⟩ := grd_spec hb
  obtain ⟨p1, hc, hb⟩ := Option.bind_eq_some_iff.mp hb
  refine Rn.call1 (d := e) (As := [va_rf v0, .int ((nI 13) + v5)]) (rest := []) rfl rfl rfl (by decide) rfl rfl rfl (bd_rcV hrc rfl) (by decide) (bd_lenC (n := 2) rfl (bd_slR (bd_slI bd_slN)) rfl) (bd_locC (n := 2) rfl (bd_slR (bd_slI bd_slN)) rfl (t_193 e (by omega) v0 ((nI 13) + v5) h _ hc)) ?_
  refine rn_if_ne rfl rfl (fun hc => ?_) (fun hc => ?_)
  · exact u_267_218 (e + 1) hd v0 v1 v2 v3 v4 v5  p1.2 _ (if_t hb hc)
  · exact u_267_212 (e + 1) hd k194 K194 v0 v1 v2 v3 v4 v5  p1.2 _ (if_f hb hc)
def b_267_194 (k194 : Option Nat → Int32 → Int32 → Hp → Option (Int32 × Hp)) (v0 : Option Nat) (v4 : Int32) (v5 : Int32)  (h : Hp) : Option (Int32 × Hp) :=
  if (nI 4) ≤ v5 then b_267_218 v0 v4 v5  h else b_267_200 k194 v0 v4 v5  h
theorem u_267_194 (d : Nat) (hd : 3 ≤ d) (k194 : Option Nat → Int32 → Int32 → Hp → Option (Int32 × Hp)) (K194 : ∀ (v0 : Option Nat) (v1 : Int32) (v2 : Int32) (v3 : Int32) (v4 : Int32) (v5 : Int32) (h : Hp) (r : Int32 × Hp), k194 v0 v4 v5 h = some r → Rn d 267 194 [some (va_rf v0), some (.int v1), some (.int v2), some (.int v3), some (.int v4), some (.int v5)] [] h (some (.int r.1), r.2)) (v0 : Option Nat) (v1 : Int32) (v2 : Int32) (v3 : Int32) (v4 : Int32) (v5 : Int32)  (h : Hp) (r : Int32 × Hp) (hb : b_267_194 k194 v0 v4 v5  h = some r) : Rn d 267 194 [some (va_rf v0), some (.int v1), some (.int v2), some (.int v3), some (.int v4), some (.int v5)] [] h (some (.int r.1), r.2) := by
  unfold b_267_194 at hb
  refine rn_iload (i := 5) rfl rfl ?_
  refine rn_iconst (x := (nI 4)) rfl (by decide) ?_
  refine rn_icmp_ge rfl rfl (fun hc => ?_) (fun hc => ?_)
  · exact u_267_218 d hd v0 v1 v2 v3 v4 v5  h _ (if_t hb hc)
  · exact u_267_200 d hd k194 K194 v0 v1 v2 v3 v4 v5  h _ (if_f hb hc)
def l_267_194 : Nat → Option Nat → Int32 → Int32 → Hp → Option (Int32 × Hp)
  | 0, _, _, _, _ => none
  | n + 1, v0, v4, v5, h => b_267_194 (l_267_194 n) v0 v4 v5 h
theorem w_267_194 (d : Nat) (hd : 3 ≤ d) : ∀ (n : Nat) (v0 : Option Nat) (v1 : Int32) (v2 : Int32) (v3 : Int32) (v4 : Int32) (v5 : Int32) (h : Hp) (r : Int32 × Hp), l_267_194 n v0 v4 v5 h = some r → Rn d 267 194 [some (va_rf v0), some (.int v1), some (.int v2), some (.int v3), some (.int v4), some (.int v5)] [] h (some (.int r.1), r.2) := by
  intro n
  induction n with
  | zero => intro v0 v1 v2 v3 v4 v5 h r hb; cases hb
  | succ n ih => intro v0 v1 v2 v3 v4 v5 h r hb; exact u_267_194 d hd (l_267_194 n) ih v0 v1 v2 v3 v4 v5 h r hb
def b_267_191 (v0 : Option Nat) (v4 : Int32)  (h : Hp) : Option (Int32 × Hp) :=
  bnd ((nI 0)) fun x1 =>
  l_267_194 FU v0 v4 x1 h
theorem u_267_191 (d : Nat) (hd : 3 ≤ d) (v0 : Option Nat) (v1 : Int32) (v2 : Int32) (v3 : Int32) (v4 : Int32)  (h : Hp) (r : Int32 × Hp) (hb : b_267_191 v0 v4  h = some r) : Rn d 267 191 [some (va_rf v0), some (.int v1), some (.int v2), some (.int v3), some (.int v4), none] [] h (some (.int r.1), r.2) := by
  unfold b_267_191 at hb
  refine rn_iconst (x := (nI 0)) rfl (by decide) ?_
  obtain ⟨x1, ex1, hb⟩ := bnd_spec hb
  refine rn_istore (i := 5) (L1 := [some (va_rf v0), some (.int v1), some (.int v2), some (.int v3), some (.int v4), some (.int x1)]) rfl (Nat.le_of_ble_eq_true rfl) (Or.inr rfl) (by rw [ex1]; rfl) ?_
  exact w_267_194 d hd FU v0 v1 v2 v3 v4 x1 h _ hb
def b_267_178 (v0 : Option Nat) (v1 : Int32) (v4 : Int32)  (h : Hp) : Option (Int32 × Hp) :=
  (gQ 11 16 v0 h).bind fun x1 =>
  (wI x1 v4 (nI 6) h).bind fun h2 =>
  if v1 = 0 then b_267_243 v0 v4  h2 else b_267_191 v0 v4  h2
theorem u_267_178 (d : Nat) (hd : 3 ≤ d) (v0 : Option Nat) (v1 : Int32) (v2 : Int32) (v3 : Int32) (v4 : Int32)  (h : Hp) (r : Int32 × Hp) (hb : b_267_178 v0 v1 v4  h = some r) : Rn d 267 178 [some (va_rf v0), some (.int v1), some (.int v2), some (.int v3), some (.int v4), none] [] h (some (.int r.1), r.2) := by
  unfold b_267_178 at hb
  refine rn_aload_n (i := 0) rfl rfl ?_
  refine rn_gQ (c := 11) (k := 16) rfl (by decide) hb (fun x1 hb => ?_)
  refine rn_iload (i := 4) rfl rfl ?_
  refine rn_bipush (x := (nI 6)) rfl (by decide) ?_
  refine rn_wI rfl hb (fun h2 hb => ?_)
  refine rn_iload_n (i := 1) rfl rfl ?_
  refine rn_if_eq rfl rfl (fun hc => ?_) (fun hc => ?_)
  · exact u_267_243 d hd v0 v1 v2 v3 v4 (none : Option (Int32))  h2 _ (if_t hb hc)
  · exact u_267_191 d hd v0 v1 v2 v3 v4  h2 _ (if_f hb hc)
def b_267_79 (v0 : Option Nat) (v1 : Int32) (v2 : Int32) (v3 : Int32) (v4 : Int32)  (h : Hp) : Option (Int32 × Hp) :=
  if v3 = 0 then b_267_178 v0 v1 v4  h else b_267_83 v0 v2 v4  h
theorem u_267_79 (d : Nat) (hd : 3 ≤ d) (v0 : Option Nat) (v1 : Int32) (v2 : Int32) (v3 : Int32) (v4 : Int32)  (h : Hp) (r : Int32 × Hp) (hb : b_267_79 v0 v1 v2 v3 v4  h = some r) : Rn d 267 79 [some (va_rf v0), some (.int v1), some (.int v2), some (.int v3), some (.int v4), none] [] h (some (.int r.1), r.2) := by
  unfold b_267_79 at hb
  refine rn_iload_n (i := 3) rfl rfl ?_
  refine rn_if_eq rfl rfl (fun hc => ?_) (fun hc => ?_)
  · exact u_267_178 d hd v0 v1 v2 v3 v4  h _ (if_t hb hc)
  · exact u_267_83 d hd v0 v1 v2 v3 v4  h _ (if_f hb hc)
def b_267_63 (v0 : Option Nat) (v1 : Int32) (v2 : Int32) (v3 : Int32)  (h : Hp) : Option (Int32 × Hp) :=
  (gI 11 47 v0 h).bind fun x1 =>
  bnd (((nI 2) * x1)) fun x2 =>
  (grd (rC 11 v0 h)).bind fun _ =>
  (f_189 v0 h).bind fun p3 =>
  if ¬ v2 = 0 then b_267_83 v0 v2 x2  p3 else b_267_79 v0 v1 v2 v3 x2  p3
theorem u_267_63 (d : Nat) (hd : 3 ≤ d) (v0 : Option Nat) (v1 : Int32) (v2 : Int32) (v3 : Int32)  (h : Hp) (r : Int32 × Hp) (hb : b_267_63 v0 v1 v2 v3  h = some r) : Rn d 267 63 [some (va_rf v0), some (.int v1), some (.int v2), some (.int v3), none, none] [] h (some (.int r.1), r.2) := by
  unfold b_267_63 at hb
  obtain ⟨e, rfl⟩ : ∃ e, d = e + 1 := ⟨d - 1, by omega⟩
  refine rn_iconst (x := (nI 2)) rfl (by decide) ?_
  refine rn_aload_n (i := 0) rfl rfl ?_
  refine rn_gI (c := 11) (k := 47) rfl (by decide) hb (fun x1 hb => ?_)
  refine rn_imul rfl ?_
  obtain ⟨x2, ex2, hb⟩ := bnd_spec hb
  refine rn_istore (i := 4) (L1 := [some (va_rf v0), some (.int v1), some (.int v2), some (.int v3), some (.int x2), none]) rfl (Nat.le_of_ble_eq_true rfl) (Or.inr rfl) (by rw [ex2]; rfl) ?_
  refine rn_aload_n (i := 0) rfl rfl ?_
  obtain ⟨hrc, hb⟩ := grd_spec hb
  obtain ⟨p3, hc, hb⟩ := Option.bind_eq_some_iff.mp hb
  refine Rn.call0 (d := e) (As := [va_rf v0]) (rest := []) rfl rfl rfl (by decide) rfl rfl rfl (bd_rcV hrc rfl) (by decide) (bd_lenC (n := 5) rfl (bd_slR bd_slN) rfl) (bd_locC (n := 5) rfl (bd_slR bd_slN) rfl (t_189 e (by omega) v0 h _ hc)) ?_
  refine rn_iload_n (i := 2) rfl rfl ?_
  refine rn_if_ne rfl rfl (fun hc => ?_) (fun hc => ?_)
  · exact u_267_83 (e + 1) hd v0 v1 v2 v3 x2  p3 _ (if_t hb hc)
  · exact u_267_79 (e + 1) hd v0 v1 v2 v3 x2  p3 _ (if_f hb hc)
def b_267_57 (v0 : Option Nat)  (h : Hp) : Option (Int32 × Hp) :=
  (grd (rC 11 v0 h)).bind fun _ =>
  (f_198 v0 (nI 4) h).bind fun p1 =>
  (grd (decide (p1.1 = 0 ∨ p1.1 = 1))).bind fun _ => some (p1.1, p1.2)
theorem u_267_57 (d : Nat) (hd : 3 ≤ d) (v0 : Option Nat) (v1 : Int32) (v2 : Int32) (v3 : Int32)  (h : Hp) (r : Int32 × Hp) (hb : b_267_57 v0  h = some r) : Rn d 267 57 [some (va_rf v0), some (.int v1), some (.int v2), some (.int v3), none, none] [] h (some (.int r.1), r.2) := by
  unfold b_267_57 at hb
  obtain ⟨e, rfl⟩ : ∃ e, d = e + 1 := ⟨d - 1, by omega⟩
  refine rn_aload_n (i := 0) rfl rfl ?_
  refine rn_iconst (x := (nI 4)) rfl (by decide) ?_
  obtain ⟨hrc, hb⟩ := grd_spec hb
  obtain ⟨p1, hc, hb⟩ := Option.bind_eq_some_iff.mp hb
  refine Rn.call1 (d := e) (As := [va_rf v0, .int (nI 4)]) (rest := []) rfl rfl rfl (by decide) rfl rfl rfl (bd_rcV hrc rfl) (by decide) (bd_lenC (n := 2) rfl (bd_slR (bd_slI bd_slN)) rfl) (bd_locC (n := 2) rfl (bd_slR (bd_slI bd_slN)) rfl (t_198 e (by omega) v0 (nI 4) h _ hc)) ?_
  obtain ⟨hz, hb⟩ := grd_spec hb
  obtain rfl := Option.some.inj hb
  exact rn_zret rfl rfl (of_decide_eq_true hz)
def b_267_48 (v0 : Option Nat) (v1 : Int32) (v2 : Int32) (v3 : Int32)  (h : Hp) : Option (Int32 × Hp) :=
  (gI 11 47 v0 h).bind fun x1 =>
  if ¬ x1 = (nI 60) then b_267_63 v0 v1 v2 v3  h else b_267_57 v0  h
theorem u_267_48 (d : Nat) (hd : 3 ≤ d) (v0 : Option Nat) (v1 : Int32) (v2 : Int32) (v3 : Int32)  (h : Hp) (r : Int32 × Hp) (hb : b_267_48 v0 v1 v2 v3  h = some r) : Rn d 267 48 [some (va_rf v0), some (.int v1), some (.int v2), some (.int v3), none, none] [] h (some (.int r.1), r.2) := by
  unfold b_267_48 at hb
  refine rn_aload_n (i := 0) rfl rfl ?_
  refine rn_gI (c := 11) (k := 47) rfl (by decide) hb (fun x1 hb => ?_)
  refine rn_bipush (x := (nI 60)) rfl (by decide) ?_
  refine rn_icmp_ne rfl rfl (fun hc => ?_) (fun hc => ?_)
  · exact u_267_63 d hd v0 v1 v2 v3  h _ (if_t hb hc)
  · exact u_267_57 d hd v0 v1 v2 v3  h _ (if_f hb hc)
def b_267_42 (v0 : Option Nat)  (h : Hp) : Option (Int32 × Hp) :=
  (grd (rC 11 v0 h)).bind fun _ =>
  (f_198 v0 (nI 1) h).bind fun p1 =>
  (grd (decide (p1.1 = 0 ∨ p1.1 = 1))).bind fun _ => some (p1.1, p1.2)
theorem u_267_42 (d : Nat) (hd : 3 ≤ d) (v0 : Option Nat) (v1 : Int32) (v2 : Int32) (v3 : Int32)  (h : Hp) (r : Int32 × Hp) (hb : b_267_42 v0  h = some r) : Rn d 267 42 [some (va_rf v0), some (.int v1), some (.int v2), some (.int v3), none, none] [] h (some (.int r.1), r.2) := by
  unfold b_267_42 at hb
  obtain ⟨e, rfl⟩ : ∃ e, d = e + 1 := ⟨d - 1, by omega⟩
  refine rn_aload_n (i := 0) rfl rfl ?_
  refine rn_iconst (x := (nI 1)) rfl (by decide) ?_
  obtain ⟨hrc, hb⟩ := grd_spec hb
  obtain ⟨p1, hc, hb⟩ := Option.bind_eq_some_iff.mp hb
  refine Rn.call1 (d := e) (As := [va_rf v0, .int (nI 1)]) (rest := []) rfl rfl rfl (by decide) rfl rfl rfl (bd_rcV hrc rfl) (by decide) (bd_lenC (n := 2) rfl (bd_slR (bd_slI bd_slN)) rfl) (bd_locC (n := 2) rfl (bd_slR (bd_slI bd_slN)) rfl (t_198 e (by omega) v0 (nI 1) h _ hc)) ?_
  obtain ⟨hz, hb⟩ := grd_spec hb
  obtain rfl := Option.some.inj hb
  exact rn_zret rfl rfl (of_decide_eq_true hz)
def b_267_33 (v0 : Option Nat) (v1 : Int32) (v2 : Int32) (v3 : Int32)  (h : Hp) : Option (Int32 × Hp) :=
  (grd (rC 11 v0 h)).bind fun _ =>
  (f_193 v0 (nI 12) h).bind fun p1 =>
  if ¬ p1.1 = 0 then b_267_48 v0 v1 v2 v3  p1.2 else b_267_42 v0  p1.2
theorem u_267_33 (d : Nat) (hd : 3 ≤ d) (v0 : Option Nat) (v1 : Int32) (v2 : Int32) (v3 : Int32)  (h : Hp) (r : Int32 × Hp) (hb : b_267_33 v0 v1 v2 v3  h = some r) : Rn d 267 33 [some (va_rf v0), some (.int v1), some (.int v2), some (.int v3), none, none] [] h (some (.int r.1), r.2) := by
  unfold b_267_33 at hb
  obtain ⟨e, rfl⟩ : ∃ e, d = e + 1 := ⟨d - 1, by omega⟩
  refine rn_aload_n (i := 0) rfl rfl ?_
  refine rn_bipush (x := (nI 12)) rfl (by decide) ?_
  obtain ⟨hrc, hb⟩ := grd_spec hb
  obtain ⟨p1, hc, hb⟩ := Option.bind_eq_some_iff.mp hb
  refine Rn.call1 (d := e) (As := [va_rf v0, .int (nI 12)]) (rest := []) rfl rfl rfl (by decide) rfl rfl rfl (bd_rcV hrc rfl) (by decide) (bd_lenC (n := 2) rfl (bd_slR (bd_slI bd_slN)) rfl) (bd_locC (n := 2) rfl (bd_slR (bd_slI bd_slN)) rfl (t_193 e (by omega) v0 (nI 12) h _ hc)) ?_
  refine rn_if_ne rfl rfl (fun hc => ?_) (fun hc => ?_)
  · exact u_267_48 (e + 1) hd v0 v1 v2 v3  p1.2 _ (if_t hb hc)
  · exact u_267_42 (e + 1) hd v0 v1 v2 v3  p1.2 _ (if_f hb hc)
def b_267_29 (v0 : Option Nat) (v1 : Int32) (v2 : Int32) (v3 : Int32)  (h : Hp) : Option (Int32 × Hp) :=
  if ¬ v3 = 0 then b_267_48 v0 v1 v2 v3  h else b_267_33 v0 v1 v2 v3  h
theorem u_267_29 (d : Nat) (hd : 3 ≤ d) (v0 : Option Nat) (v1 : Int32) (v2 : Int32) (v3 : Int32)  (h : Hp) (r : Int32 × Hp) (hb : b_267_29 v0 v1 v2 v3  h = some r) : Rn d 267 29 [some (va_rf v0), some (.int v1), some (.int v2), some (.int v3), none, none] [] h (some (.int r.1), r.2) := by
  unfold b_267_29 at hb
  refine rn_iload_n (i := 3) rfl rfl ?_
  refine rn_if_ne rfl rfl (fun hc => ?_) (fun hc => ?_)
  · exact u_267_48 d hd v0 v1 v2 v3  h _ (if_t hb hc)
  · exact u_267_33 d hd v0 v1 v2 v3  h _ (if_f hb hc)
def b_267_25 (v0 : Option Nat) (v1 : Int32) (v2 : Int32) (v3 : Int32)  (h : Hp) : Option (Int32 × Hp) :=
  if ¬ v2 = 0 then b_267_48 v0 v1 v2 v3  h else b_267_29 v0 v1 v2 v3  h
theorem u_267_25 (d : Nat) (hd : 3 ≤ d) (v0 : Option Nat) (v1 : Int32) (v2 : Int32) (v3 : Int32)  (h : Hp) (r : Int32 × Hp) (hb : b_267_25 v0 v1 v2 v3  h = some r) : Rn d 267 25 [some (va_rf v0), some (.int v1), some (.int v2), some (.int v3), none, none] [] h (some (.int r.1), r.2) := by
  unfold b_267_25 at hb
  refine rn_iload_n (i := 2) rfl rfl ?_
  refine rn_if_ne rfl rfl (fun hc => ?_) (fun hc => ?_)
  · exact u_267_48 d hd v0 v1 v2 v3  h _ (if_t hb hc)
  · exact u_267_29 d hd v0 v1 v2 v3  h _ (if_f hb hc)
def b_267_0 (v0 : Option Nat)  (h : Hp) : Option (Int32 × Hp) :=
  (grd (rC 11 v0 h)).bind fun _ =>
  (f_193 v0 (nI 9) h).bind fun p1 =>
  bnd (p1.1) fun x2 =>
  (grd (rC 11 v0 p1.2)).bind fun _ =>
  (f_193 v0 (nI 10) p1.2).bind fun p3 =>
  bnd (p3.1) fun x4 =>
  (grd (rC 11 v0 p3.2)).bind fun _ =>
  (f_193 v0 (nI 11) p3.2).bind fun p5 =>
  bnd (p5.1) fun x6 =>
  if ¬ x2 = 0 then b_267_48 v0 x2 x4 x6  p5.2 else b_267_25 v0 x2 x4 x6  p5.2
theorem u_267_0 (d : Nat) (hd : 3 ≤ d) (v0 : Option Nat)  (h : Hp) (r : Int32 × Hp) (hb : b_267_0 v0  h = some r) : Rn d 267 0 [some (va_rf v0), none, none, none, none, none] [] h (some (.int r.1), r.2) := by
  unfold b_267_0 at hb
  obtain ⟨e, rfl⟩ : ∃ e, d = e + 1 := ⟨d - 1, by omega⟩
  refine rn_aload_n (i := 0) rfl rfl ?_
  refine rn_bipush (x := (nI 9)) rfl (by decide) ?_
  obtain ⟨hrc, hb⟩ := grd_spec hb
  obtain ⟨p1, hc, hb⟩ := Option.bind_eq_some_iff.mp hb
  refine Rn.call1 (d := e) (As := [va_rf v0, .int (nI 9)]) (rest := []) rfl rfl rfl (by decide) rfl rfl rfl (bd_rcV hrc rfl) (by decide) (bd_lenC (n := 2) rfl (bd_slR (bd_slI bd_slN)) rfl) (bd_locC (n := 2) rfl (bd_slR (bd_slI bd_slN)) rfl (t_193 e (by omega) v0 (nI 9) h _ hc)) ?_
  obtain ⟨x2, ex2, hb⟩ := bnd_spec hb
  refine rn_istore_n (i := 1) (L1 := [some (va_rf v0), some (.int x2), none, none, none, none]) rfl (Nat.le_of_ble_eq_true rfl) (Or.inr (bd_wideR rfl)) (by rw [ex2]; rfl) ?_
  refine rn_aload_n (i := 0) rfl rfl ?_
  refine rn_bipush (x := (nI 10)) rfl (by decide) ?_
  obtain ⟨hrc, hb⟩ := grd_spec hb
  obtain ⟨p3, hc, hb⟩ := Option.bind_eq_some_iff.mp hb
  refine Rn.call1 (d := e) (As := [va_rf v0, .int (nI 10)]) (rest := []) rfl rfl rfl (by decide) rfl rfl rfl (bd_rcV hrc rfl) (by decide) (bd_lenC (n := 2) rfl (bd_slR (bd_slI bd_slN)) rfl) (bd_locC (n := 2) rfl (bd_slR (bd_slI bd_slN)) rfl (t_193 e (by omega) v0 (nI 10) p1.2 _ hc)) ?_
  obtain ⟨x4, ex4, hb⟩ := bnd_spec hb
  refine rn_istore_n (i := 2) (L1 := [some (va_rf v0), some (.int x2), some (.int x4), none, none, none]) rfl (Nat.le_of_ble_eq_true rfl) (Or.inr rfl) (by rw [ex4]; rfl) ?_
  refine rn_aload_n (i := 0) rfl rfl ?_
  refine rn_bipush (x := (nI 11)) rfl (by decide) ?_
  obtain ⟨hrc, hb⟩ := grd_spec hb
  obtain ⟨p5, hc, hb⟩ := Option.bind_eq_some_iff.mp hb
  refine Rn.call1 (d := e) (As := [va_rf v0, .int (nI 11)]) (rest := []) rfl rfl rfl (by decide) rfl rfl rfl (bd_rcV hrc rfl) (by decide) (bd_lenC (n := 2) rfl (bd_slR (bd_slI bd_slN)) rfl) (bd_locC (n := 2) rfl (bd_slR (bd_slI bd_slN)) rfl (t_193 e (by omega) v0 (nI 11) p3.2 _ hc)) ?_
  obtain ⟨x6, ex6, hb⟩ := bnd_spec hb
  refine rn_istore_n (i := 3) (L1 := [some (va_rf v0), some (.int x2), some (.int x4), some (.int x6), none, none]) rfl (Nat.le_of_ble_eq_true rfl) (Or.inr rfl) (by rw [ex6]; rfl) ?_
  refine rn_iload_n (i := 1) rfl rfl ?_
  refine rn_if_ne rfl rfl (fun hc => ?_) (fun hc => ?_)
  · exact u_267_48 (e + 1) hd v0 x2 x4 x6  p5.2 _ (if_t hb hc)
  · exact u_267_25 (e + 1) hd v0 x2 x4 x6  p5.2 _ (if_f hb hc)
/-- BitingDoorsModel.readDayLine()Z -/
def f_267 (v0 : Option Nat) (h : Hp) : Option (Int32 × Hp) := b_267_0 v0 h
theorem t_267 (d : Nat) (hd : 3 ≤ d) (v0 : Option Nat) (h : Hp) (r : Int32 × Hp) (hb : f_267 v0 h = some r) : Rn d 267 0 [some (va_rf v0), none, none, none, none, none] [] h (some (.int r.1), r.2) := by
  unfold f_267 at hb
  exact u_267_0 d hd v0 h r hb
def b_268_67 (v0 : Option Nat)  (h : Hp) : Option (Int32 × Hp) :=
  (gQ 11 14 v0 h).bind fun x1 =>
  (gI 11 47 v0 h).bind fun x2 =>
  (wI x1 (nI 341) x2 h).bind fun h3 =>
  (gI 11 47 v0 h3).bind fun x4 =>
  some (x4, h3)
theorem u_268_67 (d : Nat) (hd : 4 ≤ d) (v0 : Option Nat) (v1 : Int32)  (h : Hp) (r : Int32 × Hp) (hb : b_268_67 v0  h = some r) : Rn d 268 67 [some (va_rf v0), some (.int v1)] [] h (some (.int r.1), r.2) := by
  unfold b_268_67 at hb
  refine rn_aload_n (i := 0) rfl rfl ?_
  refine rn_gQ (c := 11) (k := 14) rfl (by decide) hb (fun x1 hb => ?_)
  refine rn_sipush (x := (nI 341)) rfl (by decide) ?_
  refine rn_aload_n (i := 0) rfl rfl ?_
  refine rn_gI (c := 11) (k := 47) rfl (by decide) hb (fun x2 hb => ?_)
  refine rn_wI rfl hb (fun h3 hb => ?_)
  refine rn_aload_n (i := 0) rfl rfl ?_
  refine rn_gI (c := 11) (k := 47) rfl (by decide) hb (fun x4 hb => ?_)
  obtain rfl := Option.some.inj hb
  exact rn_iret rfl rfl
def b_268_45 (k35 : Option Nat → Int32 → Hp → Option (Int32 × Hp)) (v0 : Option Nat) (v1 : Int32)  (h : Hp) : Option (Int32 × Hp) :=
  (gQ 11 14 v0 h).bind fun x1 =>
  (gQ 11 16 v0 h).bind fun x2 =>
  (aI 12 x2 v1 h).bind fun x3 =>
  (wI x1 ((nI 342) + v1) x3 h).bind fun h4 =>
  bnd (v1 + (nI 1)) fun x5 =>
  k35 v0 x5 h4
theorem u_268_45 (d : Nat) (hd : 4 ≤ d) (k35 : Option Nat → Int32 → Hp → Option (Int32 × Hp)) (K35 : ∀ (v0 : Option Nat) (v1 : Int32) (h : Hp) (r : Int32 × Hp), k35 v0 v1 h = some r → Rn d 268 35 [some (va_rf v0), some (.int v1)] [] h (some (.int r.1), r.2)) (v0 : Option Nat) (v1 : Int32)  (h : Hp) (r : Int32 × Hp) (hb : b_268_45 k35 v0 v1  h = some r) : Rn d 268 45 [some (va_rf v0), some (.int v1)] [] h (some (.int r.1), r.2) := by
  unfold b_268_45 at hb
  refine rn_aload_n (i := 0) rfl rfl ?_
  refine rn_gQ (c := 11) (k := 14) rfl (by decide) hb (fun x1 hb => ?_)
  refine rn_sipush (x := (nI 342)) rfl (by decide) ?_
  refine rn_iload_n (i := 1) rfl rfl ?_
  refine rn_iadd rfl ?_
  refine rn_aload_n (i := 0) rfl rfl ?_
  refine rn_gQ (c := 11) (k := 16) rfl (by decide) hb (fun x2 hb => ?_)
  refine rn_iload_n (i := 1) rfl rfl ?_
  refine rn_aI rfl hb (fun x3 hb => ?_)
  refine rn_wI rfl hb (fun h4 hb => ?_)
  obtain ⟨x5, ex5, hb⟩ := bnd_spec hb
  refine rn_iinc (i := 1) (y := x5) (L1 := [some (va_rf v0), some (.int x5)]) rfl rfl (Nat.le_of_ble_eq_true rfl) (Or.inr (bd_wideR rfl)) (by rw [ex5]; rfl) rfl ?_
  refine rn_goto rfl rfl ?_
  exact K35 v0 x5 h4 _ hb
def b_268_35 (k35 : Option Nat → Int32 → Hp → Option (Int32 × Hp)) (v0 : Option Nat) (v1 : Int32)  (h : Hp) : Option (Int32 × Hp) :=
  (gI 11 47 v0 h).bind fun x1 =>
  if ((nI 2) * x1) ≤ v1 then b_268_67 v0  h else b_268_45 k35 v0 v1  h
theorem u_268_35 (d : Nat) (hd : 4 ≤ d) (k35 : Option Nat → Int32 → Hp → Option (Int32 × Hp)) (K35 : ∀ (v0 : Option Nat) (v1 : Int32) (h : Hp) (r : Int32 × Hp), k35 v0 v1 h = some r → Rn d 268 35 [some (va_rf v0), some (.int v1)] [] h (some (.int r.1), r.2)) (v0 : Option Nat) (v1 : Int32)  (h : Hp) (r : Int32 × Hp) (hb : b_268_35 k35 v0 v1  h = some r) : Rn d 268 35 [some (va_rf v0), some (.int v1)] [] h (some (.int r.1), r.2) := by
  unfold b_268_35 at hb
  refine rn_iload_n (i := 1) rfl rfl ?_
  refine rn_iconst (x := (nI 2)) rfl (by decide) ?_
  refine rn_aload_n (i := 0) rfl rfl ?_
  refine rn_gI (c := 11) (k := 47) rfl (by decide) hb (fun x1 hb => ?_)
  refine rn_imul rfl ?_
  refine rn_icmp_ge rfl rfl (fun hc => ?_) (fun hc => ?_)
  · exact u_268_67 d hd v0 v1  h _ (if_t hb hc)
  · exact u_268_45 d hd k35 K35 v0 v1  h _ (if_f hb hc)
def l_268_35 : Nat → Option Nat → Int32 → Hp → Option (Int32 × Hp)
  | 0, _, _, _ => none
  | n + 1, v0, v1, h => b_268_35 (l_268_35 n) v0 v1 h
theorem w_268_35 (d : Nat) (hd : 4 ≤ d) : ∀ (n : Nat) (v0 : Option Nat) (v1 : Int32) (h : Hp) (r : Int32 × Hp), l_268_35 n v0 v1 h = some r → Rn d 268 35 [some (va_rf v0), some (.int v1)] [] h (some (.int r.1), r.2) := by
  intro n
  induction n with
  | zero => intro v0 v1 h r hb; cases hb
  | succ n ih => intro v0 v1 h r hb; exact u_268_35 d hd (l_268_35 n) ih v0 v1 h r hb
def b_268_33 (v0 : Option Nat)  (h : Hp) : Option (Int32 × Hp) :=
  bnd ((nI 0)) fun x1 =>
  l_268_35 FU v0 x1 h
theorem u_268_33 (d : Nat) (hd : 4 ≤ d) (v0 : Option Nat)  (h : Hp) (r : Int32 × Hp) (hb : b_268_33 v0  h = some r) : Rn d 268 33 [some (va_rf v0), none] [] h (some (.int r.1), r.2) := by
  unfold b_268_33 at hb
  refine rn_iconst (x := (nI 0)) rfl (by decide) ?_
  obtain ⟨x1, ex1, hb⟩ := bnd_spec hb
  refine rn_istore_n (i := 1) (L1 := [some (va_rf v0), some (.int x1)]) rfl (Nat.le_of_ble_eq_true rfl) (Or.inr (bd_wideR rfl)) (by rw [ex1]; rfl) ?_
  exact w_268_35 d hd FU v0 x1 h _ hb
def b_268_26 (v0 : Option Nat)  (h : Hp) : Option (Int32 × Hp) :=
  (gI 11 11 v0 h).bind fun x1 =>
  some (((-1 : Int32) - x1), h)
theorem u_268_26 (d : Nat) (hd : 4 ≤ d) (v0 : Option Nat)  (h : Hp) (r : Int32 × Hp) (hb : b_268_26 v0  h = some r) : Rn d 268 26 [some (va_rf v0), none] [] h (some (.int r.1), r.2) := by
  unfold b_268_26 at hb
  refine rn_iconst (x := (-1 : Int32)) rfl (by decide) ?_
  refine rn_aload_n (i := 0) rfl rfl ?_
  refine rn_gI (c := 11) (k := 11) rfl (by decide) hb (fun x1 hb => ?_)
  refine rn_isub rfl ?_
  obtain rfl := Option.some.inj hb
  exact rn_iret rfl rfl
def b_268_19 (k12 : Option Nat → Hp → Option (Int32 × Hp)) (v0 : Option Nat)  (h : Hp) : Option (Int32 × Hp) :=
  (grd (rC 11 v0 h)).bind fun _ =>
  (f_267 v0 h).bind fun p1 =>
  if ¬ p1.1 = 0 then k12 v0 p1.2 else b_268_26 v0  p1.2
theorem u_268_19 (d : Nat) (hd : 4 ≤ d) (k12 : Option Nat → Hp → Option (Int32 × Hp)) (K12 : ∀ (v0 : Option Nat) (h : Hp) (r : Int32 × Hp), k12 v0 h = some r → Rn d 268 12 [some (va_rf v0), none] [] h (some (.int r.1), r.2)) (v0 : Option Nat)  (h : Hp) (r : Int32 × Hp) (hb : b_268_19 k12 v0  h = some r) : Rn d 268 19 [some (va_rf v0), none] [] h (some (.int r.1), r.2) := by
  unfold b_268_19 at hb
  obtain ⟨e, rfl⟩ : ∃ e, d = e + 1 := ⟨d - 1, by omega⟩
  refine rn_aload_n (i := 0) rfl rfl ?_
  obtain ⟨hrc, hb⟩ := grd_spec hb
  obtain ⟨p1, hc, hb⟩ := Option.bind_eq_some_iff.mp hb
  refine Rn.call1 (d := e) (As := [va_rf v0]) (rest := []) rfl rfl rfl (by decide) rfl rfl rfl (bd_rcV hrc rfl) (by decide) (bd_lenC (n := 6) rfl (bd_slR bd_slN) rfl) (bd_locC (n := 6) rfl (bd_slR bd_slN) rfl (t_267 e (by omega) v0 h _ hc)) ?_
  refine rn_if_ne rfl rfl (fun hc => ?_) (fun hc => ?_)
  · exact K12 v0 p1.2 _ (if_t hb hc)
  · exact u_268_26 (e + 1) hd v0  p1.2 _ (if_f hb hc)
def b_268_12 (k12 : Option Nat → Hp → Option (Int32 × Hp)) (v0 : Option Nat)  (h : Hp) : Option (Int32 × Hp) :=
  (gI 11 7 v0 h).bind fun x1 =>
  if x1 = 0 then b_268_33 v0  h else b_268_19 k12 v0  h
theorem u_268_12 (d : Nat) (hd : 4 ≤ d) (k12 : Option Nat → Hp → Option (Int32 × Hp)) (K12 : ∀ (v0 : Option Nat) (h : Hp) (r : Int32 × Hp), k12 v0 h = some r → Rn d 268 12 [some (va_rf v0), none] [] h (some (.int r.1), r.2)) (v0 : Option Nat)  (h : Hp) (r : Int32 × Hp) (hb : b_268_12 k12 v0  h = some r) : Rn d 268 12 [some (va_rf v0), none] [] h (some (.int r.1), r.2) := by
  unfold b_268_12 at hb
  refine rn_aload_n (i := 0) rfl rfl ?_
  refine rn_gI (c := 11) (k := 7) rfl (by decide) hb (fun x1 hb => ?_)
  refine rn_if_eq rfl rfl (fun hc => ?_) (fun hc => ?_)
  · exact u_268_33 d hd v0  h _ (if_t hb hc)
  · exact u_268_19 d hd k12 K12 v0  h _ (if_f hb hc)
def l_268_12 : Nat → Option Nat → Hp → Option (Int32 × Hp)
  | 0, _, _ => none
  | n + 1, v0, h => b_268_12 (l_268_12 n) v0 h
theorem w_268_12 (d : Nat) (hd : 4 ≤ d) : ∀ (n : Nat) (v0 : Option Nat) (h : Hp) (r : Int32 × Hp), l_268_12 n v0 h = some r → Rn d 268 12 [some (va_rf v0), none] [] h (some (.int r.1), r.2) := by
  intro n
  induction n with
  | zero => intro v0 h r hb; cases hb
  | succ n ih => intro v0 h r hb; exact u_268_12 d hd (l_268_12 n) ih v0 h r hb
def b_268_0 (v0 : Option Nat)  (h : Hp) : Option (Int32 × Hp) :=
  (grd (rC 11 v0 h)).bind fun _ =>
  (f_201 v0 (nI 600) h).bind fun p1 =>
  (pI 11 47 v0 (nI 0) p1).bind fun h2 =>
  l_268_12 FU v0 h2
theorem u_268_0 (d : Nat) (hd : 4 ≤ d) (v0 : Option Nat)  (h : Hp) (r : Int32 × Hp) (hb : b_268_0 v0  h = some r) : Rn d 268 0 [some (va_rf v0), none] [] h (some (.int r.1), r.2) := by
  unfold b_268_0 at hb
  obtain ⟨e, rfl⟩ : ∃ e, d = e + 1 := ⟨d - 1, by omega⟩
  refine rn_aload_n (i := 0) rfl rfl ?_
  refine rn_sipush (x := (nI 600)) rfl (by decide) ?_
  obtain ⟨hrc, hb⟩ := grd_spec hb
  obtain ⟨p1, hc, hb⟩ := Option.bind_eq_some_iff.mp hb
  refine Rn.call0 (d := e) (As := [va_rf v0, .int (nI 600)]) (rest := []) rfl rfl rfl (by decide) rfl rfl rfl (bd_rcV hrc rfl) (by decide) (bd_lenC (n := 2) rfl (bd_slR (bd_slI bd_slN)) rfl) (bd_locC (n := 2) rfl (bd_slR (bd_slI bd_slN)) rfl (t_201 e (by omega) v0 (nI 600) h _ hc)) ?_
  refine rn_aload_n (i := 0) rfl rfl ?_
  refine rn_iconst (x := (nI 0)) rfl (by decide) ?_
  refine rn_pI (c := 11) (k := 47) rfl (by decide) hb (fun h2 hb => ?_)
  exact w_268_12 (e + 1) hd FU v0 h2 _ hb
/-- BitingDoorsModel.day()I -/
def f_268 (v0 : Option Nat) (h : Hp) : Option (Int32 × Hp) := b_268_0 v0 h
theorem t_268 (d : Nat) (hd : 4 ≤ d) (v0 : Option Nat) (h : Hp) (r : Int32 × Hp) (hb : f_268 v0 h = some r) : Rn d 268 0 [some (va_rf v0), none] [] h (some (.int r.1), r.2) := by
  unfold f_268 at hb
  exact u_268_0 d hd v0 h r hb
def b_269_29  (s0 : Int32) (h : Hp) : Option (Int32 × Hp) :=
  some (s0, h)
theorem u_269_29 (d : Nat) (hd : 3 ≤ d) (v0 : Option Nat) (v1 : Int32) (v2 : Int32) (s0 : Int32) (h : Hp) (r : Int32 × Hp) (hb : b_269_29  s0 h = some r) : Rn d 269 29 [some (va_rf v0), some (.int v1), some (.int v2)] [.int s0] h (some (.int r.1), r.2) := by
  unfold b_269_29 at hb
  obtain rfl := Option.some.inj hb
  exact rn_iret rfl rfl
def b_269_28   (h : Hp) : Option (Int32 × Hp) :=
  b_269_29  (nI 1) h
theorem u_269_28 (d : Nat) (hd : 3 ≤ d) (v0 : Option Nat) (v1 : Int32) (v2 : Int32)  (h : Hp) (r : Int32 × Hp) (hb : b_269_28   h = some r) : Rn d 269 28 [some (va_rf v0), some (.int v1), some (.int v2)] [] h (some (.int r.1), r.2) := by
  unfold b_269_28 at hb
  refine rn_iconst (x := (nI 1)) rfl (by decide) ?_
  exact u_269_29 d hd v0 v1 v2 (nI 1) h _ hb
def b_269_24   (h : Hp) : Option (Int32 × Hp) :=
  b_269_29  (nI 2) h
theorem u_269_24 (d : Nat) (hd : 3 ≤ d) (v0 : Option Nat) (v1 : Int32) (v2 : Int32)  (h : Hp) (r : Int32 × Hp) (hb : b_269_24   h = some r) : Rn d 269 24 [some (va_rf v0), some (.int v1), some (.int v2)] [] h (some (.int r.1), r.2) := by
  unfold b_269_24 at hb
  refine rn_iconst (x := (nI 2)) rfl (by decide) ?_
  refine rn_goto rfl rfl ?_
  exact u_269_29 d hd v0 v1 v2 (nI 2) h _ hb
def b_269_9 (v0 : Option Nat) (v2 : Int32)  (h : Hp) : Option (Int32 × Hp) :=
  (grd (rC 11 v0 h)).bind fun _ =>
  (f_205 v0 v2 (nI 4) h).bind fun p1 =>
  (grd (rC 11 v0 p1.2)).bind fun _ =>
  (f_221 v0 v2 p1.1 (nI 2) p1.2).bind fun p2 =>
  if p2.1 = 0 then b_269_28   p2.2 else b_269_24   p2.2
theorem u_269_9 (d : Nat) (hd : 3 ≤ d) (v0 : Option Nat) (v1 : Int32) (v2 : Int32)  (h : Hp) (r : Int32 × Hp) (hb : b_269_9 v0 v2  h = some r) : Rn d 269 9 [some (va_rf v0), some (.int v1), some (.int v2)] [] h (some (.int r.1), r.2) := by
  unfold b_269_9 at hb
  obtain ⟨e, rfl⟩ : ∃ e, d = e + 1 := ⟨d - 1, by omega⟩
  refine rn_aload_n (i := 0) rfl rfl ?_
  refine rn_iload_n (i := 2) rfl rfl ?_
  refine rn_aload_n (i := 0) rfl rfl ?_
  refine rn_iload_n (i := 2) rfl rfl ?_
  refine rn_iconst (x := (nI 4)) rfl (by decide) ?_
  obtain ⟨hrc, hb⟩ := grd_spec hb
  obtain ⟨p1, hc, hb⟩ := Option.bind_eq_some_iff.mp hb
  refine Rn.call1 (d := e) (As := [va_rf v0, .int v2, .int (nI 4)]) (rest := [.int v2, va_rf v0]) rfl rfl rfl (by decide) rfl rfl rfl (bd_rcV hrc rfl) (by rw [bd_cI (bd_cR (bd_cN))]; decide) (bd_lenC (n := 3) rfl (bd_slR (bd_slI (bd_slI bd_slN))) rfl) (bd_locC (n := 3) rfl (bd_slR (bd_slI (bd_slI bd_slN))) rfl (t_205 e (by omega) v0 v2 (nI 4) h _ hc)) ?_
  refine rn_iconst (x := (nI 2)) rfl (by decide) ?_
  obtain ⟨hrc, hb⟩ := grd_spec hb
  obtain ⟨p2, hc, hb⟩ := Option.bind_eq_some_iff.mp hb
  refine Rn.call1 (d := e) (As := [va_rf v0, .int v2, .int p1.1, .int (nI 2)]) (rest := []) rfl rfl rfl (by decide) rfl rfl rfl (bd_rcV hrc rfl) (by decide) (bd_lenC (n := 5) rfl (bd_slR (bd_slI (bd_slI (bd_slI bd_slN)))) rfl) (bd_locC (n := 5) rfl (bd_slR (bd_slI (bd_slI (bd_slI bd_slN)))) rfl (t_221 e (by omega) v0 v2 p1.1 (nI 2) p1.2 _ hc)) ?_
  refine rn_if_eq rfl rfl (fun hc => ?_) (fun hc => ?_)
  · exact u_269_28 (e + 1) hd v0 v1 v2  p2.2 _ (if_t hb hc)
  · exact u_269_24 (e + 1) hd v0 v1 v2  p2.2 _ (if_f hb hc)
def b_269_5   (h : Hp) : Option (Int32 × Hp) :=
  b_269_29  (nI 0) h
theorem u_269_5 (d : Nat) (hd : 3 ≤ d) (v0 : Option Nat) (v1 : Int32) (v2 : Int32)  (h : Hp) (r : Int32 × Hp) (hb : b_269_5   h = some r) : Rn d 269 5 [some (va_rf v0), some (.int v1), some (.int v2)] [] h (some (.int r.1), r.2) := by
  unfold b_269_5 at hb
  refine rn_iconst (x := (nI 0)) rfl (by decide) ?_
  refine rn_goto rfl rfl ?_
  exact u_269_29 d hd v0 v1 v2 (nI 0) h _ hb
def b_269_0 (v0 : Option Nat) (v1 : Int32) (v2 : Int32)  (h : Hp) : Option (Int32 × Hp) :=
  if ¬ v1 = (nI 5) then b_269_9 v0 v2  h else b_269_5   h
theorem u_269_0 (d : Nat) (hd : 3 ≤ d) (v0 : Option Nat) (v1 : Int32) (v2 : Int32)  (h : Hp) (r : Int32 × Hp) (hb : b_269_0 v0 v1 v2  h = some r) : Rn d 269 0 [some (va_rf v0), some (.int v1), some (.int v2)] [] h (some (.int r.1), r.2) := by
  unfold b_269_0 at hb
  refine rn_iload_n (i := 1) rfl rfl ?_
  refine rn_iconst (x := (nI 5)) rfl (by decide) ?_
  refine rn_icmp_ne rfl rfl (fun hc => ?_) (fun hc => ?_)
  · exact u_269_9 d hd v0 v1 v2  h _ (if_t hb hc)
  · exact u_269_5 d hd v0 v1 v2  h _ (if_f hb hc)
/-- BitingDoorsModel.goalOf(II)I -/
def f_269 (v0 : Option Nat) (v1 : Int32) (v2 : Int32) (h : Hp) : Option (Int32 × Hp) := b_269_0 v0 v1 v2 h
theorem t_269 (d : Nat) (hd : 3 ≤ d) (v0 : Option Nat) (v1 : Int32) (v2 : Int32) (h : Hp) (r : Int32 × Hp) (hb : f_269 v0 v1 v2 h = some r) : Rn d 269 0 [some (va_rf v0), some (.int v1), some (.int v2)] [] h (some (.int r.1), r.2) := by
  unfold f_269 at hb
  exact u_269_0 d hd v0 v1 v2 h r hb
def b_270_59   (h : Hp) : Option (Int32 × Hp) :=
  some ((nI 0), h)
theorem u_270_59 (d : Nat) (hd : 6 ≤ d) (v0 : Option Nat) (v1 : Int32) (v2 : Int32) (v3 : Int32) (v4 : Option (Int32))  (h : Hp) (r : Int32 × Hp) (hb : b_270_59   h = some r) : Rn d 270 59 [some (va_rf v0), some (.int v1), some (.int v2), some (.int v3), v4.map Value.int, none, none, none] [] h (some (.int r.1), r.2) := by
  unfold b_270_59 at hb
  refine rn_iconst (x := (nI 0)) rfl (by decide) ?_
  obtain rfl := Option.some.inj hb
  exact rn_iret rfl rfl
def b_270_43 (k13 : Option Nat → Int32 → Int32 → Int32 → Hp → Option (Int32 × Hp)) (v0 : Option Nat) (v1 : Int32) (v2 : Int32) (v3 : Int32)  (h : Hp) : Option (Int32 × Hp) :=
  (gI 11 49 v0 h).bind fun x1 =>
  (pI 11 49 v0 (x1 + (nI 1)) h).bind fun h2 =>
  bnd (v3 + (nI 1)) fun x3 =>
  k13 v0 v1 v2 x3 h2
theorem u_270_43 (d : Nat) (hd : 6 ≤ d) (k13 : Option Nat → Int32 → Int32 → Int32 → Hp → Option (Int32 × Hp)) (K13 : ∀ (v0 : Option Nat) (v1 : Int32) (v2 : Int32) (v3 : Int32) (v4 : Option (Int32)) (h : Hp) (r : Int32 × Hp), k13 v0 v1 v2 v3 h = some r → Rn d 270 13 [some (va_rf v0), some (.int v1), some (.int v2), some (.int v3), v4.map Value.int, none, none, none] [] h (some (.int r.1), r.2)) (v0 : Option Nat) (v1 : Int32) (v2 : Int32) (v3 : Int32) (v4 : Int32)  (h : Hp) (r : Int32 × Hp) (hb : b_270_43 k13 v0 v1 v2 v3  h = some r) : Rn d 270 43 [some (va_rf v0), some (.int v1), some (.int v2), some (.int v3), some (.int v4), none, none, none] [] h (some (.int r.1), r.2) := by
  unfold b_270_43 at hb
  refine rn_aload_n (i := 0) rfl rfl ?_
  refine rn_dup rfl (bd_cat_rf _) ?_
  refine rn_gI (c := 11) (k := 49) rfl (by decide) hb (fun x1 hb => ?_)
  refine rn_iconst (x := (nI 1)) rfl (by decide) ?_
  refine rn_iadd rfl ?_
  refine rn_pI (c := 11) (k := 49) rfl (by decide) hb (fun h2 hb => ?_)
  obtain ⟨x3, ex3, hb⟩ := bnd_spec hb
  refine rn_iinc (i := 3) (y := x3) (L1 := [some (va_rf v0), some (.int v1), some (.int v2), some (.int x3), some (.int v4), none, none, none]) rfl rfl (Nat.le_of_ble_eq_true rfl) (Or.inr rfl) (by rw [ex3]; rfl) rfl ?_
  refine rn_goto rfl rfl ?_
  exact K13 v0 v1 v2 x3 (some v4) h2 _ hb
def b_270_40 (v4 : Int32)  (h : Hp) : Option (Int32 × Hp) :=
  some (v4, h)
theorem u_270_40 (d : Nat) (hd : 6 ≤ d) (v0 : Option Nat) (v1 : Int32) (v2 : Int32) (v3 : Int32) (v4 : Int32)  (h : Hp) (r : Int32 × Hp) (hb : b_270_40 v4  h = some r) : Rn d 270 40 [some (va_rf v0), some (.int v1), some (.int v2), some (.int v3), some (.int v4), none, none, none] [] h (some (.int r.1), r.2) := by
  unfold b_270_40 at hb
  refine rn_iload (i := 4) rfl rfl ?_
  obtain rfl := Option.some.inj hb
  exact rn_iret rfl rfl
def b_270_30 (k13 : Option Nat → Int32 → Int32 → Int32 → Hp → Option (Int32 × Hp)) (v0 : Option Nat) (v1 : Int32) (v2 : Int32) (v3 : Int32) (s0 : Option Nat) (s1 : Int32) (h : Hp) : Option (Int32 × Hp) :=
  (grd (rC 11 s0 h)).bind fun _ =>
  (f_261 s0 s1 h).bind fun p1 =>
  bnd (p1.1) fun x2 =>
  if x2 = 0 then b_270_43 k13 v0 v1 v2 v3  p1.2 else b_270_40 x2  p1.2
theorem u_270_30 (d : Nat) (hd : 6 ≤ d) (k13 : Option Nat → Int32 → Int32 → Int32 → Hp → Option (Int32 × Hp)) (K13 : ∀ (v0 : Option Nat) (v1 : Int32) (v2 : Int32) (v3 : Int32) (v4 : Option (Int32)) (h : Hp) (r : Int32 × Hp), k13 v0 v1 v2 v3 h = some r → Rn d 270 13 [some (va_rf v0), some (.int v1), some (.int v2), some (.int v3), v4.map Value.int, none, none, none] [] h (some (.int r.1), r.2)) (v0 : Option Nat) (v1 : Int32) (v2 : Int32) (v3 : Int32) (v4 : Option (Int32)) (s0 : Option Nat) (s1 : Int32) (h : Hp) (r : Int32 × Hp) (hb : b_270_30 k13 v0 v1 v2 v3 s0 s1 h = some r) : Rn d 270 30 [some (va_rf v0), some (.int v1), some (.int v2), some (.int v3), v4.map Value.int, none, none, none] [.int s1, va_rf s0] h (some (.int r.1), r.2) := by
  unfold b_270_30 at hb
  obtain ⟨e, rfl⟩ : ∃ e, d = e + 1 := ⟨d - 1, by omega⟩
  obtain ⟨hrc, hb⟩ := grd_spec hb
  obtain ⟨p1, hc, hb⟩ := Option.bind_eq_some_iff.mp hb
  refine Rn.call1 (d := e) (As := [va_rf s0, .int s1]) (rest := []) rfl rfl rfl (by decide) rfl rfl rfl (bd_rcV hrc rfl) (by decide) (bd_lenC (n := 3) rfl (bd_slR (bd_slI bd_slN)) rfl) (bd_locC (n := 3) rfl (bd_slR (bd_slI bd_slN)) rfl (t_261 e (by omega) s0 s1 h _ hc)) ?_
  obtain ⟨x2, ex2, hb⟩ := bnd_spec hb
  refine rn_istore (i := 4) (L1 := [some (va_rf v0), some (.int v1), some (.int v2), some (.int v3), some (.int x2), none, none, none]) rfl (Nat.le_of_ble_eq_true rfl) (Or.inr rfl) (by rw [ex2]; rfl) ?_
  refine rn_iload (i := 4) rfl rfl ?_
  refine rn_if_eq rfl rfl (fun hc => ?_) (fun hc => ?_)
  · exact u_270_43 (e + 1) hd k13 K13 v0 v1 v2 v3 x2  p1.2 _ (if_t hb hc)
  · exact u_270_40 (e + 1) hd v0 v1 v2 v3 x2  p1.2 _ (if_f hb hc)
def b_270_29 (k13 : Option Nat → Int32 → Int32 → Int32 → Hp → Option (Int32 × Hp)) (v0 : Option Nat) (v1 : Int32) (v2 : Int32) (v3 : Int32) (s0 : Option Nat) (h : Hp) : Option (Int32 × Hp) :=
  b_270_30 k13 v0 v1 v2 v3 s0 v1 h
theorem u_270_29 (d : Nat) (hd : 6 ≤ d) (k13 : Option Nat → Int32 → Int32 → Int32 → Hp → Option (Int32 × Hp)) (K13 : ∀ (v0 : Option Nat) (v1 : Int32) (v2 : Int32) (v3 : Int32) (v4 : Option (Int32)) (h : Hp) (r : Int32 × Hp), k13 v0 v1 v2 v3 h = some r → Rn d 270 13 [some (va_rf v0), some (.int v1), some (.int v2), some (.int v3), v4.map Value.int, none, none, none] [] h (some (.int r.1), r.2)) (v0 : Option Nat) (v1 : Int32) (v2 : Int32) (v3 : Int32) (v4 : Option (Int32)) (s0 : Option Nat) (h : Hp) (r : Int32 × Hp) (hb : b_270_29 k13 v0 v1 v2 v3 s0 h = some r) : Rn d 270 29 [some (va_rf v0), some (.int v1), some (.int v2), some (.int v3), v4.map Value.int, none, none, none] [va_rf s0] h (some (.int r.1), r.2) := by
  unfold b_270_29 at hb
  refine rn_iload_n (i := 1) rfl rfl ?_
  exact u_270_30 d hd k13 K13 v0 v1 v2 v3 v4 s0 v1 h _ hb
def b_270_25 (k13 : Option Nat → Int32 → Int32 → Int32 → Hp → Option (Int32 × Hp)) (v0 : Option Nat) (v1 : Int32) (v2 : Int32) (v3 : Int32) (s0 : Option Nat) (h : Hp) : Option (Int32 × Hp) :=
  b_270_30 k13 v0 v1 v2 v3 s0 (-1 : Int32) h
theorem u_270_25 (d : Nat) (hd : 6 ≤ d) (k13 : Option Nat → Int32 → Int32 → Int32 → Hp → Option (Int32 × Hp)) (K13 : ∀ (v0 : Option Nat) (v1 : Int32) (v2 : Int32) (v3 : Int32) (v4 : Option (Int32)) (h : Hp) (r : Int32 × Hp), k13 v0 v1 v2 v3 h = some r → Rn d 270 13 [some (va_rf v0), some (.int v1), some (.int v2), some (.int v3), v4.map Value.int, none, none, none] [] h (some (.int r.1), r.2)) (v0 : Option Nat) (v1 : Int32) (v2 : Int32) (v3 : Int32) (v4 : Option (Int32)) (s0 : Option Nat) (h : Hp) (r : Int32 × Hp) (hb : b_270_25 k13 v0 v1 v2 v3 s0 h = some r) : Rn d 270 25 [some (va_rf v0), some (.int v1), some (.int v2), some (.int v3), v4.map Value.int, none, none, none] [va_rf s0] h (some (.int r.1), r.2) := by
  unfold b_270_25 at hb
  refine rn_iconst (x := (-1 : Int32)) rfl (by decide) ?_
  refine rn_goto rfl rfl ?_
  exact u_270_30 d hd k13 K13 v0 v1 v2 v3 v4 s0 (-1 : Int32) h _ hb
def b_270_18 (k13 : Option Nat → Int32 → Int32 → Int32 → Hp → Option (Int32 × Hp)) (v0 : Option Nat) (v1 : Int32) (v2 : Int32) (v3 : Int32)  (h : Hp) : Option (Int32 × Hp) :=
  if ¬ v1 = (nI 6) then b_270_29 k13 v0 v1 v2 v3 v0 h else b_270_25 k13 v0 v1 v2 v3 v0 h
theorem u_270_18 (d : Nat) (hd : 6 ≤ d) (k13 : Option Nat → Int32 → Int32 → Int32 → Hp → Option (Int32 × Hp)) (K13 : ∀ (v0 : Option Nat) (v1 : Int32) (v2 : Int32) (v3 : Int32) (v4 : Option (Int32)) (h : Hp) (r : Int32 × Hp), k13 v0 v1 v2 v3 h = some r → Rn d 270 13 [some (va_rf v0), some (.int v1), some (.int v2), some (.int v3), v4.map Value.int, none, none, none] [] h (some (.int r.1), r.2)) (v0 : Option Nat) (v1 : Int32) (v2 : Int32) (v3 : Int32) (v4 : Option (Int32))  (h : Hp) (r : Int32 × Hp) (hb : b_270_18 k13 v0 v1 v2 v3  h = some r) : Rn d 270 18 [some (va_rf v0), some (.int v1), some (.int v2), some (.int v3), v4.map Value.int, none, none, none] [] h (some (.int r.1), r.2) := by
  unfold b_270_18 at hb
  refine rn_aload_n (i := 0) rfl rfl ?_
  refine rn_iload_n (i := 1) rfl rfl ?_
  refine rn_bipush (x := (nI 6)) rfl (by decide) ?_
  refine rn_icmp_ne rfl rfl (fun hc => ?_) (fun hc => ?_)
  · exact u_270_29 d hd k13 K13 v0 v1 v2 v3 v4 v0 h _ (if_t hb hc)
  · exact u_270_25 d hd k13 K13 v0 v1 v2 v3 v4 v0 h _ (if_f hb hc)
def b_270_13 (k13 : Option Nat → Int32 → Int32 → Int32 → Hp → Option (Int32 × Hp)) (v0 : Option Nat) (v1 : Int32) (v2 : Int32) (v3 : Int32)  (h : Hp) : Option (Int32 × Hp) :=
  if v2 ≤ v3 then b_270_59   h else b_270_18 k13 v0 v1 v2 v3  h
theorem u_270_13 (d : Nat) (hd : 6 ≤ d) (k13 : Option Nat → Int32 → Int32 → Int32 → Hp → Option (Int32 × Hp)) (K13 : ∀ (v0 : Option Nat) (v1 : Int32) (v2 : Int32) (v3 : Int32) (v4 : Option (Int32)) (h : Hp) (r : Int32 × Hp), k13 v0 v1 v2 v3 h = some r → Rn d 270 13 [some (va_rf v0), some (.int v1), some (.int v2), some (.int v3), v4.map Value.int, none, none, none] [] h (some (.int r.1), r.2)) (v0 : Option Nat) (v1 : Int32) (v2 : Int32) (v3 : Int32) (v4 : Option (Int32))  (h : Hp) (r : Int32 × Hp) (hb : b_270_13 k13 v0 v1 v2 v3  h = some r) : Rn d 270 13 [some (va_rf v0), some (.int v1), some (.int v2), some (.int v3), v4.map Value.int, none, none, none] [] h (some (.int r.1), r.2) := by
  unfold b_270_13 at hb
  refine rn_iload_n (i := 3) rfl rfl ?_
  refine rn_iload_n (i := 2) rfl rfl ?_
  refine rn_icmp_ge rfl rfl (fun hc => ?_) (fun hc => ?_)
  · exact u_270_59 d hd v0 v1 v2 v3 v4  h _ (if_t hb hc)
  · exact u_270_18 d hd k13 K13 v0 v1 v2 v3 v4  h _ (if_f hb hc)
def l_270_13 : Nat → Option Nat → Int32 → Int32 → Int32 → Hp → Option (Int32 × Hp)
  | 0, _, _, _, _, _ => none
  | n + 1, v0, v1, v2, v3, h => b_270_13 (l_270_13 n) v0 v1 v2 v3 h
theorem w_270_13 (d : Nat) (hd : 6 ≤ d) : ∀ (n : Nat) (v0 : Option Nat) (v1 : Int32) (v2 : Int32) (v3 : Int32) (v4 : Option (Int32)) (h : Hp) (r : Int32 × Hp), l_270_13 n v0 v1 v2 v3 h = some r → Rn d 270 13 [some (va_rf v0), some (.int v1), some (.int v2), some (.int v3), v4.map Value.int, none, none, none] [] h (some (.int r.1), r.2) := by
  intro n
  induction n with
  | zero => intro v0 v1 v2 v3 v4 h r hb; cases hb
  | succ n ih => intro v0 v1 v2 v3 v4 h r hb; exact u_270_13 d hd (l_270_13 n) ih v0 v1 v2 v3 v4 h r hb
def b_270_11 (v0 : Option Nat) (v1 : Int32) (v2 : Int32)  (h : Hp) : Option (Int32 × Hp) :=
  bnd ((nI 0)) fun x1 =>
  l_270_13 FU v0 v1 v2 x1 h
theorem u_270_11 (d : Nat) (hd : 6 ≤ d) (v0 : Option Nat) (v1 : Int32) (v2 : Int32)  (h : Hp) (r : Int32 × Hp) (hb : b_270_11 v0 v1 v2  h = some r) : Rn d 270 11 [some (va_rf v0), some (.int v1), some (.int v2), none, none, none, none, none] [] h (some (.int r.1), r.2) := by
  unfold b_270_11 at hb
  refine rn_iconst (x := (nI 0)) rfl (by decide) ?_
  obtain ⟨x1, ex1, hb⟩ := bnd_spec hb
  refine rn_istore_n (i := 3) (L1 := [some (va_rf v0), some (.int v1), some (.int v2), some (.int x1), none, none, none, none]) rfl (Nat.le_of_ble_eq_true rfl) (Or.inr rfl) (by rw [ex1]; rfl) ?_
  exact w_270_13 d hd FU v0 v1 v2 x1 (none : Option (Int32)) h _ hb
def b_270_216   (h : Hp) : Option (Int32 × Hp) :=
  some ((nI 0), h)
theorem u_270_216 (d : Nat) (hd : 6 ≤ d) (v0 : Option Nat) (v1 : Int32) (v2 : Int32) (v3 : Int32) (v4 : Int32) (v5 : Int32) (v6 : Option (Int32)) (v7 : Option (Int32))  (h : Hp) (r : Int32 × Hp) (hb : b_270_216   h = some r) : Rn d 270 216 [some (va_rf v0), some (.int v1), some (.int v2), some (.int v3), some (.int v4), some (.int v5), v6.map Value.int, v7.map Value.int] [] h (some (.int r.1), r.2) := by
  unfold b_270_216 at hb
  refine rn_iconst (x := (nI 0)) rfl (by decide) ?_
  obtain rfl := Option.some.inj hb
  exact rn_iret rfl rfl
def b_270_200 (k126 : Option Nat → Int32 → Int32 → Int32 → Int32 → Int32 → Hp → Option (Int32 × Hp)) (v0 : Option Nat) (v1 : Int32) (v2 : Int32) (v3 : Int32) (v4 : Int32) (v5 : Int32)  (h : Hp) : Option (Int32 × Hp) :=
  (gI 11 49 v0 h).bind fun x1 =>
  (pI 11 49 v0 (x1 + (nI 1)) h).bind fun h2 =>
  bnd (v5 + (nI 1)) fun x3 =>
  k126 v0 v1 v2 v3 v4 x3 h2
theorem u_270_200 (d : Nat) (hd : 6 ≤ d) (k126 : Option Nat → Int32 → Int32 → Int32 → Int32 → Int32 → Hp → Option (Int32 × Hp)) (K126 : ∀ (v0 : Option Nat) (v1 : Int32) (v2 : Int32) (v3 : Int32) (v4 : Int32) (v5 : Int32) (v6 : Option (Int32)) (v7 : Option (Int32)) (h : Hp) (r : Int32 × Hp), k126 v0 v1 v2 v3 v4 v5 h = some r → Rn d 270 126 [some (va_rf v0), some (.int v1), some (.int v2), some (.int v3), some (.int v4), some (.int v5), v6.map Value.int, v7.map Value.int] [] h (some (.int r.1), r.2)) (v0 : Option Nat) (v1 : Int32) (v2 : Int32) (v3 : Int32) (v4 : Int32) (v5 : Int32) (v6 : Int32) (v7 : Int32)  (h : Hp) (r : Int32 × Hp) (hb : b_270_200 k126 v0 v1 v2 v3 v4 v5  h = some r) : Rn d 270 200 [some (va_rf v0), some (.int v1), some (.int v2), some (.int v3), some (.int v4), some (.int v5), some (.int v6), some (.int v7)] [] h (some (.int r.1), r.2) := by
  unfold b_270_200 at hb
  refine rn_aload_n (i := 0) rfl rfl ?_
  refine rn_dup rfl (bd_cat_rf _) ?_
  refine rn_gI (c := 11) (k := 49) rfl (by decide) hb (fun x1 hb => ?_)
  refine rn_iconst (x := (nI 1)) rfl (by decide) ?_
  refine rn_iadd rfl ?_
  refine rn_pI (c := 11) (k := 49) rfl (by decide) hb (fun h2 hb => ?_)
  obtain ⟨x3, ex3, hb⟩ := bnd_spec hb
  refine rn_iinc (i := 5) (y := x3) (L1 := [some (va_rf v0), some (.int v1), some (.int v2), some (.int v3), some (.int v4), some (.int x3), some (.int v6), some (.int v7)]) rfl rfl (Nat.le_of_ble_eq_true rfl) (Or.inr rfl) (by rw [ex3]; rfl) rfl ?_
  refine rn_goto rfl rfl ?_
  exact K126 v0 v1 v2 v3 v4 x3 (some v6) (some v7) h2 _ hb
def b_270_197 (v7 : Int32)  (h : Hp) : Option (Int32 × Hp) :=
  some (v7, h)
theorem u_270_197 (d : Nat) (hd : 6 ≤ d) (v0 : Option Nat) (v1 : Int32) (v2 : Int32) (v3 : Int32) (v4 : Int32) (v5 : Int32) (v6 : Int32) (v7 : Int32)  (h : Hp) (r : Int32 × Hp) (hb : b_270_197 v7  h = some r) : Rn d 270 197 [some (va_rf v0), some (.int v1), some (.int v2), some (.int v3), some (.int v4), some (.int v5), some (.int v6), some (.int v7)] [] h (some (.int r.1), r.2) := by
  unfold b_270_197 at hb
  refine rn_iload (i := 7) rfl rfl ?_
  obtain rfl := Option.some.inj hb
  exact rn_iret rfl rfl
def b_270_187 (k126 : Option Nat → Int32 → Int32 → Int32 → Int32 → Int32 → Hp → Option (Int32 × Hp)) (v0 : Option Nat) (v1 : Int32) (v2 : Int32) (v3 : Int32) (v4 : Int32) (v5 : Int32) (s0 : Option Nat) (s1 : Int32) (h : Hp) : Option (Int32 × Hp) :=
  (grd (rC 11 s0 h)).bind fun _ =>
  (f_261 s0 s1 h).bind fun p1 =>
  bnd (p1.1) fun x2 =>
  if x2 = 0 then b_270_200 k126 v0 v1 v2 v3 v4 v5  p1.2 else b_270_197 x2  p1.2
theorem u_270_187 (d : Nat) (hd : 6 ≤ d) (k126 : Option Nat → Int32 → Int32 → Int32 → Int32 → Int32 → Hp → Option (Int32 × Hp)) (K126 : ∀ (v0 : Option Nat) (v1 : Int32) (v2 : Int32) (v3 : Int32) (v4 : Int32) (v5 : Int32) (v6 : Option (Int32)) (v7 : Option (Int32)) (h : Hp) (r : Int32 × Hp), k126 v0 v1 v2 v3 v4 v5 h = some r → Rn d 270 126 [some (va_rf v0), some (.int v1), some (.int v2), some (.int v3), some (.int v4), some (.int v5), v6.map Value.int, v7.map Value.int] [] h (some (.int r.1), r.2)) (v0 : Option Nat) (v1 : Int32) (v2 : Int32) (v3 : Int32) (v4 : Int32) (v5 : Int32) (v6 : Int32) (v7 : Option (Int32)) (s0 : Option Nat) (s1 : Int32) (h : Hp) (r : Int32 × Hp) (hb : b_270_187 k126 v0 v1 v2 v3 v4 v5 s0 s1 h = some r) : Rn d 270 187 [some (va_rf v0), some (.int v1), some (.int v2), some (.int v3), some (.int v4), some (.int v5), some (.int v6), v7.map Value.int] [.int s1, va_rf s0] h (some (.int r.1), r.2) := by
  unfold b_270_187 at hb
  obtain ⟨e, rfl⟩ : ∃ e, d = e + 1 := ⟨d - 1, by omega⟩
  obtain ⟨hrc, hb⟩ := grd_spec hb
  obtain ⟨p1, hc, hb⟩ := Option.bind_eq_some_iff.mp hb
  refine Rn.call1 (d := e) (As := [va_rf s0, .int s1]) (rest := []) rfl rfl rfl (by decide) rfl rfl rfl (bd_rcV hrc rfl) (by decide) (bd_lenC (n := 3) rfl (bd_slR (bd_slI bd_slN)) rfl) (bd_locC (n := 3) rfl (bd_slR (bd_slI bd_slN)) rfl (t_261 e (by omega) s0 s1 h _ hc)) ?_
  obtain ⟨x2, ex2, hb⟩ := bnd_spec hb
  refine rn_istore (i := 7) (L1 := [some (va_rf v0), some (.int v1), some (.int v2), some (.int v3), some (.int v4), some (.int v5), some (.int v6), some (.int x2)]) rfl (Nat.le_of_ble_eq_true rfl) (Or.inr rfl) (by rw [ex2]; rfl) ?_
  refine rn_iload (i := 7) rfl rfl ?_
  refine rn_if_eq rfl rfl (fun hc => ?_) (fun hc => ?_)
  · exact u_270_200 (e + 1) hd k126 K126 v0 v1 v2 v3 v4 v5 v6 x2  p1.2 _ (if_t hb hc)
  · exact u_270_197 (e + 1) hd v0 v1 v2 v3 v4 v5 v6 x2  p1.2 _ (if_f hb hc)
def b_270_182 (k126 : Option Nat → Int32 → Int32 → Int32 → Int32 → Int32 → Hp → Option (Int32 × Hp)) (v0 : Option Nat) (v1 : Int32) (v2 : Int32) (v3 : Int32) (v4 : Int32) (v5 : Int32) (s0 : Option Nat) (h : Hp) : Option (Int32 × Hp) :=
  b_270_187 k126 v0 v1 v2 v3 v4 v5 s0 (((nI 2) * v2) + v1) h
theorem u_270_182 (d : Nat) (hd : 6 ≤ d) (k126 : Option Nat → Int32 → Int32 → Int32 → Int32 → Int32 → Hp → Option (Int32 × Hp)) (K126 : ∀ (v0 : Option Nat) (v1 : Int32) (v2 : Int32) (v3 : Int32) (v4 : Int32) (v5 : Int32) (v6 : Option (Int32)) (v7 : Option (Int32)) (h : Hp) (r : Int32 × Hp), k126 v0 v1 v2 v3 v4 v5 h = some r → Rn d 270 126 [some (va_rf v0), some (.int v1), some (.int v2), some (.int v3), some (.int v4), some (.int v5), v6.map Value.int, v7.map Value.int] [] h (some (.int r.1), r.2)) (v0 : Option Nat) (v1 : Int32) (v2 : Int32) (v3 : Int32) (v4 : Int32) (v5 : Int32) (v6 : Int32) (v7 : Option (Int32)) (s0 : Option Nat) (h : Hp) (r : Int32 × Hp) (hb : b_270_182 k126 v0 v1 v2 v3 v4 v5 s0 h = some r) : Rn d 270 182 [some (va_rf v0), some (.int v1), some (.int v2), some (.int v3), some (.int v4), some (.int v5), some (.int v6), v7.map Value.int] [va_rf s0] h (some (.int r.1), r.2) := by
  unfold b_270_182 at hb
  refine rn_iconst (x := (nI 2)) rfl (by decide) ?_
  refine rn_iload_n (i := 2) rfl rfl ?_
  refine rn_imul rfl ?_
  refine rn_iload_n (i := 1) rfl rfl ?_
  refine rn_iadd rfl ?_
  exact u_270_187 d hd k126 K126 v0 v1 v2 v3 v4 v5 v6 v7 s0 (((nI 2) * v2) + v1) h _ hb
def b_270_178 (k126 : Option Nat → Int32 → Int32 → Int32 → Int32 → Int32 → Hp → Option (Int32 × Hp)) (v0 : Option Nat) (v1 : Int32) (v2 : Int32) (v3 : Int32) (v4 : Int32) (v5 : Int32) (s0 : Option Nat) (h : Hp) : Option (Int32 × Hp) :=
  b_270_187 k126 v0 v1 v2 v3 v4 v5 s0 (-1 : Int32) h
theorem u_270_178 (d : Nat) (hd : 6 ≤ d) (k126 : Option Nat → Int32 → Int32 → Int32 → Int32 → Int32 → Hp → Option (Int32 × Hp)) (K126 : ∀ (v0 : Option Nat) (v1 : Int32) (v2 : Int32) (v3 : Int32) (v4 : Int32) (v5 : Int32) (v6 : Option (Int32)) (v7 : Option (Int32)) (h : Hp) (r : Int32 × Hp), k126 v0 v1 v2 v3 v4 v5 h = some r → Rn d 270 126 [some (va_rf v0), some (.int v1), some (.int v2), some (.int v3), some (.int v4), some (.int v5), v6.map Value.int, v7.map Value.int] [] h (some (.int r.1), r.2)) (v0 : Option Nat) (v1 : Int32) (v2 : Int32) (v3 : Int32) (v4 : Int32) (v5 : Int32) (v6 : Int32) (v7 : Option (Int32)) (s0 : Option Nat) (h : Hp) (r : Int32 × Hp) (hb : b_270_178 k126 v0 v1 v2 v3 v4 v5 s0 h = some r) : Rn d 270 178 [some (va_rf v0), some (.int v1), some (.int v2), some (.int v3), some (.int v4), some (.int v5), some (.int v6), v7.map Value.int] [va_rf s0] h (some (.int r.1), r.2) := by
  unfold b_270_178 at hb
  refine rn_iconst (x := (-1 : Int32)) rfl (by decide) ?_
  refine rn_goto rfl rfl ?_
  exact u_270_187 d hd k126 K126 v0 v1 v2 v3 v4 v5 v6 v7 s0 (-1 : Int32) h _ hb
def b_270_170 (k126 : Option Nat → Int32 → Int32 → Int32 → Int32 → Int32 → Hp → Option (Int32 × Hp)) (v0 : Option Nat) (v1 : Int32) (v2 : Int32) (v3 : Int32) (v4 : Int32) (v5 : Int32) (s0 : Int32) (h : Hp) : Option (Int32 × Hp) :=
  if s0 = 0 then b_270_182 k126 v0 v1 v2 v3 v4 v5 v0 h else b_270_178 k126 v0 v1 v2 v3 v4 v5 v0 h
theorem u_270_170 (d : Nat) (hd : 6 ≤ d) (k126 : Option Nat → Int32 → Int32 → Int32 → Int32 → Int32 → Hp → Option (Int32 × Hp)) (K126 : ∀ (v0 : Option Nat) (v1 : Int32) (v2 : Int32) (v3 : Int32) (v4 : Int32) (v5 : Int32) (v6 : Option (Int32)) (v7 : Option (Int32)) (h : Hp) (r : Int32 × Hp), k126 v0 v1 v2 v3 v4 v5 h = some r → Rn d 270 126 [some (va_rf v0), some (.int v1), some (.int v2), some (.int v3), some (.int v4), some (.int v5), v6.map Value.int, v7.map Value.int] [] h (some (.int r.1), r.2)) (v0 : Option Nat) (v1 : Int32) (v2 : Int32) (v3 : Int32) (v4 : Int32) (v5 : Int32) (v6 : Option (Int32)) (v7 : Option (Int32)) (s0 : Int32) (h : Hp) (r : Int32 × Hp) (hb : b_270_170 k126 v0 v1 v2 v3 v4 v5 s0 h = some r) : Rn d 270 170 [some (va_rf v0), some (.int v1), some (.int v2), some (.int v3), some (.int v4), some (.int v5), v6.map Value.int, v7.map Value.int] [.int s0] h (some (.int r.1), r.2) := by
  unfold b_270_170 at hb
  refine rn_istore (i := 6) (L1 := [some (va_rf v0), some (.int v1), some (.int v2), some (.int v3), some (.int v4), some (.int v5), some (.int s0), v7.map Value.int]) rfl (Nat.le_of_ble_eq_true rfl) (Or.inr rfl) rfl ?_
  refine rn_aload_n (i := 0) rfl rfl ?_
  refine rn_iload (i := 6) rfl rfl ?_
  refine rn_if_eq rfl rfl (fun hc => ?_) (fun hc => ?_)
  · exact u_270_182 d hd k126 K126 v0 v1 v2 v3 v4 v5 s0 v7 v0 h _ (if_t hb hc)
  · exact u_270_178 d hd k126 K126 v0 v1 v2 v3 v4 v5 s0 v7 v0 h _ (if_f hb hc)
def b_270_169 (k126 : Option Nat → Int32 → Int32 → Int32 → Int32 → Int32 → Hp → Option (Int32 × Hp)) (v0 : Option Nat) (v1 : Int32) (v2 : Int32) (v3 : Int32) (v4 : Int32) (v5 : Int32)  (h : Hp) : Option (Int32 × Hp) :=
  b_270_170 k126 v0 v1 v2 v3 v4 v5 (nI 0) h
theorem u_270_169 (d : Nat) (hd : 6 ≤ d) (k126 : Option Nat → Int32 → Int32 → Int32 → Int32 → Int32 → Hp → Option (Int32 × Hp)) (K126 : ∀ (v0 : Option Nat) (v1 : Int32) (v2 : Int32) (v3 : Int32) (v4 : Int32) (v5 : Int32) (v6 : Option (Int32)) (v7 : Option (Int32)) (h : Hp) (r : Int32 × Hp), k126 v0 v1 v2 v3 v4 v5 h = some r → Rn d 270 126 [some (va_rf v0), some (.int v1), some (.int v2), some (.int v3), some (.int v4), some (.int v5), v6.map Value.int, v7.map Value.int] [] h (some (.int r.1), r.2)) (v0 : Option Nat) (v1 : Int32) (v2 : Int32) (v3 : Int32) (v4 : Int32) (v5 : Int32) (v6 : Option (Int32)) (v7 : Option (Int32))  (h : Hp) (r : Int32 × Hp) (hb : b_270_169 k126 v0 v1 v2 v3 v4 v5  h = some r) : Rn d 270 169 [some (va_rf v0), some (.int v1), some (.int v2), some (.int v3), some (.int v4), some (.int v5), v6.map Value.int, v7.map Value.int] [] h (some (.int r.1), r.2) := by
  unfold b_270_169 at hb
  refine rn_iconst (x := (nI 0)) rfl (by decide) ?_
  exact u_270_170 d hd k126 K126 v0 v1 v2 v3 v4 v5 v6 v7 (nI 0) h _ hb
def b_270_165 (k126 : Option Nat → Int32 → Int32 → Int32 → Int32 → Int32 → Hp → Option (Int32 × Hp)) (v0 : Option Nat) (v1 : Int32) (v2 : Int32) (v3 : Int32) (v4 : Int32) (v5 : Int32)  (h : Hp) : Option (Int32 × Hp) :=
  b_270_170 k126 v0 v1 v2 v3 v4 v5 (nI 1) h
theorem u_270_165 (d : Nat) (hd : 6 ≤ d) (k126 : Option Nat → Int32 → Int32 → Int32 → Int32 → Int32 → Hp → Option (Int32 × Hp)) (K126 : ∀ (v0 : Option Nat) (v1 : Int32) (v2 : Int32) (v3 : Int32) (v4 : Int32) (v5 : Int32) (v6 : Option (Int32)) (v7 : Option (Int32)) (h : Hp) (r : Int32 × Hp), k126 v0 v1 v2 v3 v4 v5 h = some r → Rn d 270 126 [some (va_rf v0), some (.int v1), some (.int v2), some (.int v3), some (.int v4), some (.int v5), v6.map Value.int, v7.map Value.int] [] h (some (.int r.1), r.2)) (v0 : Option Nat) (v1 : Int32) (v2 : Int32) (v3 : Int32) (v4 : Int32) (v5 : Int32) (v6 : Option (Int32)) (v7 : Option (Int32))  (h : Hp) (r : Int32 × Hp) (hb : b_270_165 k126 v0 v1 v2 v3 v4 v5  h = some r) : Rn d 270 165 [some (va_rf v0), some (.int v1), some (.int v2), some (.int v3), some (.int v4), some (.int v5), v6.map Value.int, v7.map Value.int] [] h (some (.int r.1), r.2) := by
  unfold b_270_165 at hb
  refine rn_iconst (x := (nI 1)) rfl (by decide) ?_
  refine rn_goto rfl rfl ?_
  exact u_270_170 d hd k126 K126 v0 v1 v2 v3 v4 v5 v6 v7 (nI 1) h _ hb
def b_270_155 (k126 : Option Nat → Int32 → Int32 → Int32 → Int32 → Int32 → Hp → Option (Int32 × Hp)) (v0 : Option Nat) (v1 : Int32) (v2 : Int32) (v3 : Int32) (v4 : Int32) (v5 : Int32)  (h : Hp) : Option (Int32 × Hp) :=
  (gQ 11 43 v0 h).bind fun x1 =>
  (aI 12 x1 v2 h).bind fun x2 =>
  if x2 < v3 then b_270_169 k126 v0 v1 v2 v3 v4 v5  h else b_270_165 k126 v0 v1 v2 v3 v4 v5  h
theorem u_270_155 (d : Nat) (hd : 6 ≤ d) (k126 : Option Nat → Int32 → Int32 → Int32 → Int32 → Int32 → Hp → Option (Int32 × Hp)) (K126 : ∀ (v0 : Option Nat) (v1 : Int32) (v2 : Int32) (v3 : Int32) (v4 : Int32) (v5 : Int32) (v6 : Option (Int32)) (v7 : Option (Int32)) (h : Hp) (r : Int32 × Hp), k126 v0 v1 v2 v3 v4 v5 h = some r → Rn d 270 126 [some (va_rf v0), some (.int v1), some (.int v2), some (.int v3), some (.int v4), some (.int v5), v6.map Value.int, v7.map Value.int] [] h (some (.int r.1), r.2)) (v0 : Option Nat) (v1 : Int32) (v2 : Int32) (v3 : Int32) (v4 : Int32) (v5 : Int32) (v6 : Option (Int32)) (v7 : Option (Int32))  (h : Hp) (r : Int32 × Hp) (hb : b_270_155 k126 v0 v1 v2 v3 v4 v5  h = some r) : Rn d 270 155 [some (va_rf v0), some (.int v1), some (.int v2), some (.int v3), some (.int v4), some (.int v5), v6.map Value.int, v7.map Value.int] [] h (some (.int r.1), r.2) := by
  unfold b_270_155 at hb
  refine rn_aload_n (i := 0) rfl rfl ?_
  refine rn_gQ (c := 11) (k := 43) rfl (by decide) hb (fun x1 hb => ?_)
  refine rn_iload_n (i := 2) rfl rfl ?_
  refine rn_aI rfl hb (fun x2 hb => ?_)
  refine rn_iload_n (i := 3) rfl rfl ?_
  refine rn_icmp_lt rfl rfl (fun hc => ?_) (fun hc => ?_)
  · exact u_270_169 d hd k126 K126 v0 v1 v2 v3 v4 v5 v6 v7  h _ (if_t hb hc)
  · exact u_270_165 d hd k126 K126 v0 v1 v2 v3 v4 v5 v6 v7  h _ (if_f hb hc)
def b_270_151 (k126 : Option Nat → Int32 → Int32 → Int32 → Int32 → Int32 → Hp → Option (Int32 × Hp)) (v0 : Option Nat) (v1 : Int32) (v2 : Int32) (v3 : Int32) (v4 : Int32) (v5 : Int32)  (h : Hp) : Option (Int32 × Hp) :=
  b_270_170 k126 v0 v1 v2 v3 v4 v5 (nI 0) h
theorem u_270_151 (d : Nat) (hd : 6 ≤ d) (k126 : Option Nat → Int32 → Int32 → Int32 → Int32 → Int32 → Hp → Option (Int32 × Hp)) (K126 : ∀ (v0 : Option Nat) (v1 : Int32) (v2 : Int32) (v3 : Int32) (v4 : Int32) (v5 : Int32) (v6 : Option (Int32)) (v7 : Option (Int32)) (h : Hp) (r : Int32 × Hp), k126 v0 v1 v2 v3 v4 v5 h = some r → Rn d 270 126 [some (va_rf v0), some (.int v1), some (.int v2), some (.int v3), some (.int v4), some (.int v5), v6.map Value.int, v7.map Value.int] [] h (some (.int r.1), r.2)) (v0 : Option Nat) (v1 : Int32) (v2 : Int32) (v3 : Int32) (v4 : Int32) (v5 : Int32) (v6 : Option (Int32)) (v7 : Option (Int32))  (h : Hp) (r : Int32 × Hp) (hb : b_270_151 k126 v0 v1 v2 v3 v4 v5  h = some r) : Rn d 270 151 [some (va_rf v0), some (.int v1), some (.int v2), some (.int v3), some (.int v4), some (.int v5), v6.map Value.int, v7.map Value.int] [] h (some (.int r.1), r.2) := by
  unfold b_270_151 at hb
  refine rn_iconst (x := (nI 0)) rfl (by decide) ?_
  refine rn_goto rfl rfl ?_
  exact u_270_170 d hd k126 K126 v0 v1 v2 v3 v4 v5 v6 v7 (nI 0) h _ hb
def b_270_147 (k126 : Option Nat → Int32 → Int32 → Int32 → Int32 → Int32 → Hp → Option (Int32 × Hp)) (v0 : Option Nat) (v1 : Int32) (v2 : Int32) (v3 : Int32) (v4 : Int32) (v5 : Int32)  (h : Hp) : Option (Int32 × Hp) :=
  b_270_170 k126 v0 v1 v2 v3 v4 v5 (nI 1) h
theorem u_270_147 (d : Nat) (hd : 6 ≤ d) (k126 : Option Nat → Int32 → Int32 → Int32 → Int32 → Int32 → Hp → Option (Int32 × Hp)) (K126 : ∀ (v0 : Option Nat) (v1 : Int32) (v2 : Int32) (v3 : Int32) (v4 : Int32) (v5 : Int32) (v6 : Option (Int32)) (v7 : Option (Int32)) (h : Hp) (r : Int32 × Hp), k126 v0 v1 v2 v3 v4 v5 h = some r → Rn d 270 126 [some (va_rf v0), some (.int v1), some (.int v2), some (.int v3), some (.int v4), some (.int v5), v6.map Value.int, v7.map Value.int] [] h (some (.int r.1), r.2)) (v0 : Option Nat) (v1 : Int32) (v2 : Int32) (v3 : Int32) (v4 : Int32) (v5 : Int32) (v6 : Option (Int32)) (v7 : Option (Int32))  (h : Hp) (r : Int32 × Hp) (hb : b_270_147 k126 v0 v1 v2 v3 v4 v5  h = some r) : Rn d 270 147 [some (va_rf v0), some (.int v1), some (.int v2), some (.int v3), some (.int v4), some (.int v5), v6.map Value.int, v7.map Value.int] [] h (some (.int r.1), r.2) := by
  unfold b_270_147 at hb
  refine rn_iconst (x := (nI 1)) rfl (by decide) ?_
  refine rn_goto rfl rfl ?_
  exact u_270_170 d hd k126 K126 v0 v1 v2 v3 v4 v5 v6 v7 (nI 1) h _ hb
def b_270_138 (k126 : Option Nat → Int32 → Int32 → Int32 → Int32 → Int32 → Hp → Option (Int32 × Hp)) (v0 : Option Nat) (v1 : Int32) (v2 : Int32) (v3 : Int32) (v4 : Int32) (v5 : Int32)  (h : Hp) : Option (Int32 × Hp) :=
  (gQ 11 43 v0 h).bind fun x1 =>
  (aI 12 x1 v2 h).bind fun x2 =>
  if ¬ x2 = 0 then b_270_151 k126 v0 v1 v2 v3 v4 v5  h else b_270_147 k126 v0 v1 v2 v3 v4 v5  h
theorem u_270_138 (d : Nat) (hd : 6 ≤ d) (k126 : Option Nat → Int32 → Int32 → Int32 → Int32 → Int32 → Hp → Option (Int32 × Hp)) (K126 : ∀ (v0 : Option Nat) (v1 : Int32) (v2 : Int32) (v3 : Int32) (v4 : Int32) (v5 : Int32) (v6 : Option (Int32)) (v7 : Option (Int32)) (h : Hp) (r : Int32 × Hp), k126 v0 v1 v2 v3 v4 v5 h = some r → Rn d 270 126 [some (va_rf v0), some (.int v1), some (.int v2), some (.int v3), some (.int v4), some (.int v5), v6.map Value.int, v7.map Value.int] [] h (some (.int r.1), r.2)) (v0 : Option Nat) (v1 : Int32) (v2 : Int32) (v3 : Int32) (v4 : Int32) (v5 : Int32) (v6 : Option (Int32)) (v7 : Option (Int32))  (h : Hp) (r : Int32 × Hp) (hb : b_270_138 k126 v0 v1 v2 v3 v4 v5  h = some r) : Rn d 270 138 [some (va_rf v0), some (.int v1), some (.int v2), some (.int v3), some (.int v4), some (.int v5), v6.map Value.int, v7.map Value.int] [] h (some (.int r.1), r.2) := by
  unfold b_270_138 at hb
  refine rn_aload_n (i := 0) rfl rfl ?_
  refine rn_gQ (c := 11) (k := 43) rfl (by decide) hb (fun x1 hb => ?_)
  refine rn_iload_n (i := 2) rfl rfl ?_
  refine rn_aI rfl hb (fun x2 hb => ?_)
  refine rn_if_ne rfl rfl (fun hc => ?_) (fun hc => ?_)
  · exact u_270_151 d hd k126 K126 v0 v1 v2 v3 v4 v5 v6 v7  h _ (if_t hb hc)
  · exact u_270_147 d hd k126 K126 v0 v1 v2 v3 v4 v5 v6 v7  h _ (if_f hb hc)
def b_270_133 (k126 : Option Nat → Int32 → Int32 → Int32 → Int32 → Int32 → Hp → Option (Int32 × Hp)) (v0 : Option Nat) (v1 : Int32) (v2 : Int32) (v3 : Int32) (v4 : Int32) (v5 : Int32)  (h : Hp) : Option (Int32 × Hp) :=
  if ¬ v1 = (nI 5) then b_270_155 k126 v0 v1 v2 v3 v4 v5  h else b_270_138 k126 v0 v1 v2 v3 v4 v5  h
theorem u_270_133 (d : Nat) (hd : 6 ≤ d) (k126 : Option Nat → Int32 → Int32 → Int32 → Int32 → Int32 → Hp → Option (Int32 × Hp)) (K126 : ∀ (v0 : Option Nat) (v1 : Int32) (v2 : Int32) (v3 : Int32) (v4 : Int32) (v5 : Int32) (v6 : Option (Int32)) (v7 : Option (Int32)) (h : Hp) (r : Int32 × Hp), k126 v0 v1 v2 v3 v4 v5 h = some r → Rn d 270 126 [some (va_rf v0), some (.int v1), some (.int v2), some (.int v3), some (.int v4), some (.int v5), v6.map Value.int, v7.map Value.int] [] h (some (.int r.1), r.2)) (v0 : Option Nat) (v1 : Int32) (v2 : Int32) (v3 : Int32) (v4 : Int32) (v5 : Int32) (v6 : Option (Int32)) (v7 : Option (Int32))  (h : Hp) (r : Int32 × Hp) (hb : b_270_133 k126 v0 v1 v2 v3 v4 v5  h = some r) : Rn d 270 133 [some (va_rf v0), some (.int v1), some (.int v2), some (.int v3), some (.int v4), some (.int v5), v6.map Value.int, v7.map Value.int] [] h (some (.int r.1), r.2) := by
  unfold b_270_133 at hb
  refine rn_iload_n (i := 1) rfl rfl ?_
  refine rn_iconst (x := (nI 5)) rfl (by decide) ?_
  refine rn_icmp_ne rfl rfl (fun hc => ?_) (fun hc => ?_)
  · exact u_270_155 d hd k126 K126 v0 v1 v2 v3 v4 v5 v6 v7  h _ (if_t hb hc)
  · exact u_270_138 d hd k126 K126 v0 v1 v2 v3 v4 v5 v6 v7  h _ (if_f hb hc)
def b_270_126 (k126 : Option Nat → Int32 → Int32 → Int32 → Int32 → Int32 → Hp → Option (Int32 × Hp)) (v0 : Option Nat) (v1 : Int32) (v2 : Int32) (v3 : Int32) (v4 : Int32) (v5 : Int32)  (h : Hp) : Option (Int32 × Hp) :=
  if v4 ≤ v5 then b_270_216   h else b_270_133 k126 v0 v1 v2 v3 v4 v5  h
theorem u_270_126 (d : Nat) (hd : 6 ≤ d) (k126 : Option Nat → Int32 → Int32 → Int32 → Int32 → Int32 → Hp → Option (Int32 × Hp)) (K126 : ∀ (v0 : Option Nat) (v1 : Int32) (v2 : Int32) (v3 : Int32) (v4 : Int32) (v5 : Int32) (v6 : Option (Int32)) (v7 : Option (Int32)) (h : Hp) (r : Int32 × Hp), k126 v0 v1 v2 v3 v4 v5 h = some r → Rn d 270 126 [some (va_rf v0), some (.int v1), some (.int v2), some (.int v3), some (.int v4), some (.int v5), v6.map Value.int, v7.map Value.int] [] h (some (.int r.1), r.2)) (v0 : Option Nat) (v1 : Int32) (v2 : Int32) (v3 : Int32) (v4 : Int32) (v5 : Int32) (v6 : Option (Int32)) (v7 : Option (Int32))  (h : Hp) (r : Int32 × Hp) (hb : b_270_126 k126 v0 v1 v2 v3 v4 v5  h = some r) : Rn d 270 126 [some (va_rf v0), some (.int v1), some (.int v2), some (.int v3), some (.int v4), some (.int v5), v6.map Value.int, v7.map Value.int] [] h (some (.int r.1), r.2) := by
  unfold b_270_126 at hb
  refine rn_iload (i := 5) rfl rfl ?_
  refine rn_iload (i := 4) rfl rfl ?_
  refine rn_icmp_ge rfl rfl (fun hc => ?_) (fun hc => ?_)
  · exact u_270_216 d hd v0 v1 v2 v3 v4 v5 v6 v7  h _ (if_t hb hc)
  · exact u_270_133 d hd k126 K126 v0 v1 v2 v3 v4 v5 v6 v7  h _ (if_f hb hc)
def l_270_126 : Nat → Option Nat → Int32 → Int32 → Int32 → Int32 → Int32 → Hp → Option (Int32 × Hp)
  | 0, _, _, _, _, _, _, _ => none
  | n + 1, v0, v1, v2, v3, v4, v5, h => b_270_126 (l_270_126 n) v0 v1 v2 v3 v4 v5 h
theorem w_270_126 (d : Nat) (hd : 6 ≤ d) : ∀ (n : Nat) (v0 : Option Nat) (v1 : Int32) (v2 : Int32) (v3 : Int32) (v4 : Int32) (v5 : Int32) (v6 : Option (Int32)) (v7 : Option (Int32)) (h : Hp) (r : Int32 × Hp), l_270_126 n v0 v1 v2 v3 v4 v5 h = some r → Rn d 270 126 [some (va_rf v0), some (.int v1), some (.int v2), some (.int v3), some (.int v4), some (.int v5), v6.map Value.int, v7.map Value.int] [] h (some (.int r.1), r.2) := by
  intro n
  induction n with
  | zero => intro v0 v1 v2 v3 v4 v5 v6 v7 h r hb; cases hb
  | succ n ih => intro v0 v1 v2 v3 v4 v5 v6 v7 h r hb; exact u_270_126 d hd (l_270_126 n) ih v0 v1 v2 v3 v4 v5 v6 v7 h r hb
def b_270_123 (v0 : Option Nat) (v1 : Int32) (v2 : Int32) (v3 : Int32) (v4 : Int32)  (h : Hp) : Option (Int32 × Hp) :=
  bnd ((nI 0)) fun x1 =>
  l_270_126 FU v0 v1 v2 v3 v4 x1 h
theorem u_270_123 (d : Nat) (hd : 6 ≤ d) (v0 : Option Nat) (v1 : Int32) (v2 : Int32) (v3 : Int32) (v4 : Int32)  (h : Hp) (r : Int32 × Hp) (hb : b_270_123 v0 v1 v2 v3 v4  h = some r) : Rn d 270 123 [some (va_rf v0), some (.int v1), some (.int v2), some (.int v3), some (.int v4), none, none, none] [] h (some (.int r.1), r.2) := by
  unfold b_270_123 at hb
  refine rn_iconst (x := (nI 0)) rfl (by decide) ?_
  obtain ⟨x1, ex1, hb⟩ := bnd_spec hb
  refine rn_istore (i := 5) (L1 := [some (va_rf v0), some (.int v1), some (.int v2), some (.int v3), some (.int v4), some (.int x1), none, none]) rfl (Nat.le_of_ble_eq_true rfl) (Or.inr rfl) (by rw [ex1]; rfl) ?_
  exact w_270_126 d hd FU v0 v1 v2 v3 v4 x1 (none : Option (Int32)) (none : Option (Int32)) h _ hb
def b_270_122  (s0 : Int32) (h : Hp) : Option (Int32 × Hp) :=
  some (s0, h)
theorem u_270_122 (d : Nat) (hd : 6 ≤ d) (v0 : Option Nat) (v1 : Int32) (v2 : Int32) (v3 : Int32) (v4 : Int32) (s0 : Int32) (h : Hp) (r : Int32 × Hp) (hb : b_270_122  s0 h = some r) : Rn d 270 122 [some (va_rf v0), some (.int v1), some (.int v2), some (.int v3), some (.int v4), none, none, none] [.int s0] h (some (.int r.1), r.2) := by
  unfold b_270_122 at hb
  obtain rfl := Option.some.inj hb
  exact rn_iret rfl rfl
def b_270_121   (h : Hp) : Option (Int32 × Hp) :=
  b_270_122  (nI 4) h
theorem u_270_121 (d : Nat) (hd : 6 ≤ d) (v0 : Option Nat) (v1 : Int32) (v2 : Int32) (v3 : Int32) (v4 : Int32)  (h : Hp) (r : Int32 × Hp) (hb : b_270_121   h = some r) : Rn d 270 121 [some (va_rf v0), some (.int v1), some (.int v2), some (.int v3), some (.int v4), none, none, none] [] h (some (.int r.1), r.2) := by
  unfold b_270_121 at hb
  refine rn_iconst (x := (nI 4)) rfl (by decide) ?_
  exact u_270_122 d hd v0 v1 v2 v3 v4 (nI 4) h _ hb
def b_270_117   (h : Hp) : Option (Int32 × Hp) :=
  b_270_122  (nI 5) h
theorem u_270_117 (d : Nat) (hd : 6 ≤ d) (v0 : Option Nat) (v1 : Int32) (v2 : Int32) (v3 : Int32) (v4 : Int32)  (h : Hp) (r : Int32 × Hp) (hb : b_270_117   h = some r) : Rn d 270 117 [some (va_rf v0), some (.int v1), some (.int v2), some (.int v3), some (.int v4), none, none, none] [] h (some (.int r.1), r.2) := by
  unfold b_270_117 at hb
  refine rn_iconst (x := (nI 5)) rfl (by decide) ?_
  refine rn_goto rfl rfl ?_
  exact u_270_122 d hd v0 v1 v2 v3 v4 (nI 5) h _ hb
def b_270_109 (v0 : Option Nat) (v2 : Int32)  (h : Hp) : Option (Int32 × Hp) :=
  (grd (rC 11 v0 h)).bind fun _ =>
  (f_256 v0 v2 h).bind fun p1 =>
  if p1.1 = 0 then b_270_121   p1.2 else b_270_117   p1.2
theorem u_270_109 (d : Nat) (hd : 6 ≤ d) (v0 : Option Nat) (v1 : Int32) (v2 : Int32) (v3 : Int32) (v4 : Int32)  (h : Hp) (r : Int32 × Hp) (hb : b_270_109 v0 v2  h = some r) : Rn d 270 109 [some (va_rf v0), some (.int v1), some (.int v2), some (.int v3), some (.int v4), none, none, none] [] h (some (.int r.1), r.2) := by
  unfold b_270_109 at hb
  obtain ⟨e, rfl⟩ : ∃ e, d = e + 1 := ⟨d - 1, by omega⟩
  refine rn_aload_n (i := 0) rfl rfl ?_
  refine rn_iload_n (i := 2) rfl rfl ?_
  obtain ⟨hrc, hb⟩ := grd_spec hb
  obtain ⟨p1, hc, hb⟩ := Option.bind_eq_some_iff.mp hb
  refine Rn.call1 (d := e) (As := [va_rf v0, .int v2]) (rest := []) rfl rfl rfl (by decide) rfl rfl rfl (bd_rcV hrc rfl) (by decide) (bd_lenC (n := 6) rfl (bd_slR (bd_slI bd_slN)) rfl) (bd_locC (n := 6) rfl (bd_slR (bd_slI bd_slN)) rfl (t_256 e (by omega) v0 v2 h _ hc)) ?_
  refine rn_if_eq rfl rfl (fun hc => ?_) (fun hc => ?_)
  · exact u_270_121 (e + 1) hd v0 v1 v2 v3 v4  p1.2 _ (if_t hb hc)
  · exact u_270_117 (e + 1) hd v0 v1 v2 v3 v4  p1.2 _ (if_f hb hc)
def b_270_105   (h : Hp) : Option (Int32 × Hp) :=
  b_270_122  (nI 1) h
theorem u_270_105 (d : Nat) (hd : 6 ≤ d) (v0 : Option Nat) (v1 : Int32) (v2 : Int32) (v3 : Int32) (v4 : Int32)  (h : Hp) (r : Int32 × Hp) (hb : b_270_105   h = some r) : Rn d 270 105 [some (va_rf v0), some (.int v1), some (.int v2), some (.int v3), some (.int v4), none, none, none] [] h (some (.int r.1), r.2) := by
  unfold b_270_105 at hb
  refine rn_iconst (x := (nI 1)) rfl (by decide) ?_
  refine rn_goto rfl rfl ?_
  exact u_270_122 d hd v0 v1 v2 v3 v4 (nI 1) h _ hb
def b_270_97 (v0 : Option Nat) (v2 : Int32)  (h : Hp) : Option (Int32 × Hp) :=
  (gI 11 45 v0 h).bind fun x1 =>
  if ¬ x1 = (-1 : Int32) then b_270_109 v0 v2  h else b_270_105   h
theorem u_270_97 (d : Nat) (hd : 6 ≤ d) (v0 : Option Nat) (v1 : Int32) (v2 : Int32) (v3 : Int32) (v4 : Int32)  (h : Hp) (r : Int32 × Hp) (hb : b_270_97 v0 v2  h = some r) : Rn d 270 97 [some (va_rf v0), some (.int v1), some (.int v2), some (.int v3), some (.int v4), none, none, none] [] h (some (.int r.1), r.2) := by
  unfold b_270_97 at hb
  refine rn_aload_n (i := 0) rfl rfl ?_
  refine rn_gI (c := 11) (k := 45) rfl (by decide) hb (fun x1 hb => ?_)
  refine rn_iconst (x := (-1 : Int32)) rfl (by decide) ?_
  refine rn_icmp_ne rfl rfl (fun hc => ?_) (fun hc => ?_)
  · exact u_270_109 d hd v0 v1 v2 v3 v4  h _ (if_t hb hc)
  · exact u_270_105 d hd v0 v1 v2 v3 v4  h _ (if_f hb hc)
def b_270_90 (v0 : Option Nat) (v1 : Int32) (v2 : Int32) (v3 : Int32) (s0 : Int32) (h : Hp) : Option (Int32 × Hp) :=
  if 0 < s0 then b_270_123 v0 v1 v2 v3 s0  h else b_270_97 v0 v2  h
theorem u_270_90 (d : Nat) (hd : 6 ≤ d) (v0 : Option Nat) (v1 : Int32) (v2 : Int32) (v3 : Int32) (s0 : Int32) (h : Hp) (r : Int32 × Hp) (hb : b_270_90 v0 v1 v2 v3 s0 h = some r) : Rn d 270 90 [some (va_rf v0), some (.int v1), some (.int v2), some (.int v3), none, none, none, none] [.int s0] h (some (.int r.1), r.2) := by
  unfold b_270_90 at hb
  refine rn_istore (i := 4) (L1 := [some (va_rf v0), some (.int v1), some (.int v2), some (.int v3), some (.int s0), none, none, none]) rfl (Nat.le_of_ble_eq_true rfl) (Or.inr rfl) rfl ?_
  refine rn_iload (i := 4) rfl rfl ?_
  refine rn_if_gt rfl rfl (fun hc => ?_) (fun hc => ?_)
  · exact u_270_123 d hd v0 v1 v2 v3 s0  h _ (if_t hb hc)
  · exact u_270_97 d hd v0 v1 v2 v3 s0  h _ (if_f hb hc)
def b_270_82 (v0 : Option Nat) (v1 : Int32) (v2 : Int32) (v3 : Int32)  (h : Hp) : Option (Int32 × Hp) :=
  (gQ 11 43 v0 h).bind fun x1 =>
  (aI 12 x1 v2 h).bind fun x2 =>
  b_270_90 v0 v1 v2 v3 (v3 - x2) h
theorem u_270_82 (d : Nat) (hd : 6 ≤ d) (v0 : Option Nat) (v1 : Int32) (v2 : Int32) (v3 : Int32)  (h : Hp) (r : Int32 × Hp) (hb : b_270_82 v0 v1 v2 v3  h = some r) : Rn d 270 82 [some (va_rf v0), some (.int v1), some (.int v2), some (.int v3), none, none, none, none] [] h (some (.int r.1), r.2) := by
  unfold b_270_82 at hb
  refine rn_iload_n (i := 3) rfl rfl ?_
  refine rn_aload_n (i := 0) rfl rfl ?_
  refine rn_gQ (c := 11) (k := 43) rfl (by decide) hb (fun x1 hb => ?_)
  refine rn_iload_n (i := 2) rfl rfl ?_
  refine rn_aI rfl hb (fun x2 hb => ?_)
  refine rn_isub rfl ?_
  exact u_270_90 d hd v0 v1 v2 v3 (v3 - x2) h _ hb
def b_270_73 (v0 : Option Nat) (v1 : Int32) (v2 : Int32) (v3 : Int32)  (h : Hp) : Option (Int32 × Hp) :=
  (gQ 11 43 v0 h).bind fun x1 =>
  (aI 12 x1 v2 h).bind fun x2 =>
  b_270_90 v0 v1 v2 v3 x2 h
theorem u_270_73 (d : Nat) (hd : 6 ≤ d) (v0 : Option Nat) (v1 : Int32) (v2 : Int32) (v3 : Int32)  (h : Hp) (r : Int32 × Hp) (hb : b_270_73 v0 v1 v2 v3  h = some r) : Rn d 270 73 [some (va_rf v0), some (.int v1), some (.int v2), some (.int v3), none, none, none, none] [] h (some (.int r.1), r.2) := by
  unfold b_270_73 at hb
  refine rn_aload_n (i := 0) rfl rfl ?_
  refine rn_gQ (c := 11) (k := 43) rfl (by decide) hb (fun x1 hb => ?_)
  refine rn_iload_n (i := 2) rfl rfl ?_
  refine rn_aI rfl hb (fun x2 hb => ?_)
  refine rn_goto rfl rfl ?_
  exact u_270_90 d hd v0 v1 v2 v3 x2 h _ hb
def b_270_61 (v0 : Option Nat) (v1 : Int32) (v2 : Int32)  (h : Hp) : Option (Int32 × Hp) :=
  (grd (rC 11 v0 h)).bind fun _ =>
  (f_269 v0 v1 v2 h).bind fun p1 =>
  bnd (p1.1) fun x2 =>
  if ¬ v1 = (nI 5) then b_270_82 v0 v1 v2 x2  p1.2 else b_270_73 v0 v1 v2 x2  p1.2
theorem u_270_61 (d : Nat) (hd : 6 ≤ d) (v0 : Option Nat) (v1 : Int32) (v2 : Int32)  (h : Hp) (r : Int32 × Hp) (hb : b_270_61 v0 v1 v2  h = some r) : Rn d 270 61 [some (va_rf v0), some (.int v1), some (.int v2), none, none, none, none, none] [] h (some (.int r.1), r.2) := by
  unfold b_270_61 at hb
  obtain ⟨e, rfl⟩ : ∃ e, d = e + 1 := ⟨d - 1, by omega⟩
  refine rn_aload_n (i := 0) rfl rfl ?_
  refine rn_iload_n (i := 1) rfl rfl ?_
  refine rn_iload_n (i := 2) rfl rfl ?_
  obtain ⟨hrc, hb⟩ := grd_spec hb
  obtain ⟨p1, hc, hb⟩ := Option.bind_eq_some_iff.mp hb
  refine Rn.call1 (d := e) (As := [va_rf v0, .int v1, .int v2]) (rest := []) rfl rfl rfl (by decide) rfl rfl rfl (bd_rcV hrc rfl) (by decide) (bd_lenC (n := 3) rfl (bd_slR (bd_slI (bd_slI bd_slN))) rfl) (bd_locC (n := 3) rfl (bd_slR (bd_slI (bd_slI bd_slN))) rfl (t_269 e (by omega) v0 v1 v2 h _ hc)) ?_
  obtain ⟨x2, ex2, hb⟩ := bnd_spec hb
  refine rn_istore_n (i := 3) (L1 := [some (va_rf v0), some (.int v1), some (.int v2), some (.int x2), none, none, none, none]) rfl (Nat.le_of_ble_eq_true rfl) (Or.inr rfl) (by rw [ex2]; rfl) ?_
  refine rn_iload_n (i := 1) rfl rfl ?_
  refine rn_iconst (x := (nI 5)) rfl (by decide) ?_
  refine rn_icmp_ne rfl rfl (fun hc => ?_) (fun hc => ?_)
  · exact u_270_82 (e + 1) hd v0 v1 v2 x2  p1.2 _ (if_t hb hc)
  · exact u_270_73 (e + 1) hd v0 v1 v2 x2  p1.2 _ (if_f hb hc)
def b_270_5 (v0 : Option Nat) (v1 : Int32) (v2 : Int32)  (h : Hp) : Option (Int32 × Hp) :=
  if ¬ v1 = (nI 6) then b_270_61 v0 v1 v2  h else b_270_11 v0 v1 v2  h
theorem u_270_5 (d : Nat) (hd : 6 ≤ d) (v0 : Option Nat) (v1 : Int32) (v2 : Int32)  (h : Hp) (r : Int32 × Hp) (hb : b_270_5 v0 v1 v2  h = some r) : Rn d 270 5 [some (va_rf v0), some (.int v1), some (.int v2), none, none, none, none, none] [] h (some (.int r.1), r.2) := by
  unfold b_270_5 at hb
  refine rn_iload_n (i := 1) rfl rfl ?_
  refine rn_bipush (x := (nI 6)) rfl (by decide) ?_
  refine rn_icmp_ne rfl rfl (fun hc => ?_) (fun hc => ?_)
  · exact u_270_61 d hd v0 v1 v2  h _ (if_t hb hc)
  · exact u_270_11 d hd v0 v1 v2  h _ (if_f hb hc)
def b_270_0 (v0 : Option Nat) (v1 : Int32) (v2 : Int32)  (h : Hp) : Option (Int32 × Hp) :=
  if v1 < (nI 4) then b_270_11 v0 v1 v2  h else b_270_5 v0 v1 v2  h
theorem u_270_0 (d : Nat) (hd : 6 ≤ d) (v0 : Option Nat) (v1 : Int32) (v2 : Int32)  (h : Hp) (r : Int32 × Hp) (hb : b_270_0 v0 v1 v2  h = some r) : Rn d 270 0 [some (va_rf v0), some (.int v1), some (.int v2), none, none, none, none, none] [] h (some (.int r.1), r.2) := by
  unfold b_270_0 at hb
  refine rn_iload_n (i := 1) rfl rfl ?_
  refine rn_iconst (x := (nI 4)) rfl (by decide) ?_
  refine rn_icmp_lt rfl rfl (fun hc => ?_) (fun hc => ?_)
  · exact u_270_11 d hd v0 v1 v2  h _ (if_t hb hc)
  · exact u_270_5 d hd v0 v1 v2  h _ (if_f hb hc)
/-- BitingDoorsModel.doAct(II)I -/
def f_270 (v0 : Option Nat) (v1 : Int32) (v2 : Int32) (h : Hp) : Option (Int32 × Hp) := b_270_0 v0 v1 v2 h
theorem t_270 (d : Nat) (hd : 6 ≤ d) (v0 : Option Nat) (v1 : Int32) (v2 : Int32) (h : Hp) (r : Int32 × Hp) (hb : f_270 v0 v1 v2 h = some r) : Rn d 270 0 [some (va_rf v0), some (.int v1), some (.int v2), none, none, none, none, none] [] h (some (.int r.1), r.2) := by
  unfold f_270 at hb
  exact u_270_0 d hd v0 v1 v2 h r hb
def b_271_111 (v0 : Option Nat) (v1 : Int32) (v2 : Int32) (v3 : Int32)  (h : Hp) : Option (Int32 × Hp) :=
  (gQ 11 48 v0 h).bind fun x1 =>
  (wI x1 (nI 0) v1 h).bind fun h2 =>
  (gQ 11 48 v0 h2).bind fun x3 =>
  (gI 11 49 v0 h2).bind fun x4 =>
  (wI x3 (nI 1) x4 h2).bind fun h5 =>
  (gQ 11 48 v0 h5).bind fun x6 =>
  (gI 11 45 v0 h5).bind fun x7 =>
  (wI x6 (nI 2) x7 h5).bind fun h8 =>
  (gQ 11 48 v0 h8).bind fun x9 =>
  (gI 11 46 v0 h8).bind fun x10 =>
  (wI x9 (nI 3) x10 h8).bind fun h11 =>
  (gQ 11 48 v0 h11).bind fun x12 =>
  (wI x12 (nI 4) v3 h11).bind fun h13 =>
  some (v2, h13)
theorem u_271_111 (d : Nat) (hd : 7 ≤ d) (v0 : Option Nat) (v1 : Int32) (v2 : Int32) (v3 : Int32) (v4 : Int32)  (h : Hp) (r : Int32 × Hp) (hb : b_271_111 v0 v1 v2 v3  h = some r) : Rn d 271 111 [some (va_rf v0), some (.int v1), some (.int v2), some (.int v3), some (.int v4)] [] h (some (.int r.1), r.2) := by
  unfold b_271_111 at hb
  refine rn_aload_n (i := 0) rfl rfl ?_
  refine rn_gQ (c := 11) (k := 48) rfl (by decide) hb (fun x1 hb => ?_)
  refine rn_iconst (x := (nI 0)) rfl (by decide) ?_
  refine rn_iload_n (i := 1) rfl rfl ?_
  refine rn_wI rfl hb (fun h2 hb => ?_)
  refine rn_aload_n (i := 0) rfl rfl ?_
  refine rn_gQ (c := 11) (k := 48) rfl (by decide) hb (fun x3 hb => ?_)
  refine rn_iconst (x := (nI 1)) rfl (by decide) ?_
  refine rn_aload_n (i := 0) rfl rfl ?_
  refine rn_gI (c := 11) (k := 49) rfl (by decide) hb (fun x4 hb => ?_)
  refine rn_wI rfl hb (fun h5 hb => ?_)
  refine rn_aload_n (i := 0) rfl rfl ?_
  refine rn_gQ (c := 11) (k := 48) rfl (by decide) hb (fun x6 hb => ?_)
  refine rn_iconst (x := (nI 2)) rfl (by decide) ?_
  refine rn_aload_n (i := 0) rfl rfl ?_
  refine rn_gI (c := 11) (k := 45) rfl (by decide) hb (fun x7 hb => ?_)
  refine rn_wI rfl hb (fun h8 hb => ?_)
  refine rn_aload_n (i := 0) rfl rfl ?_
  refine rn_gQ (c := 11) (k := 48) rfl (by decide) hb (fun x9 hb => ?_)
  refine rn_iconst (x := (nI 3)) rfl (by decide) ?_
  refine rn_aload_n (i := 0) rfl rfl ?_
  refine rn_gI (c := 11) (k := 46) rfl (by decide) hb (fun x10 hb => ?_)
  refine rn_wI rfl hb (fun h11 hb => ?_)
  refine rn_aload_n (i := 0) rfl rfl ?_
  refine rn_gQ (c := 11) (k := 48) rfl (by decide) hb (fun x12 hb => ?_)
  refine rn_iconst (x := (nI 4)) rfl (by decide) ?_
  refine rn_iload_n (i := 3) rfl rfl ?_
  refine rn_wI rfl hb (fun h13 hb => ?_)
  refine rn_iload_n (i := 2) rfl rfl ?_
  obtain rfl := Option.some.inj hb
  exact rn_iret rfl rfl
def b_271_105 (k79 : Option Nat → Int32 → Int32 → Int32 → Int32 → Hp → Option (Int32 × Hp)) (v0 : Option Nat) (v1 : Int32) (v2 : Int32) (v3 : Int32) (v4 : Int32)  (h : Hp) : Option (Int32 × Hp) :=
  bnd (v4 + (nI 1)) fun x1 =>
  k79 v0 v1 v2 v3 x1 h
theorem u_271_105 (d : Nat) (hd : 7 ≤ d) (k79 : Option Nat → Int32 → Int32 → Int32 → Int32 → Hp → Option (Int32 × Hp)) (K79 : ∀ (v0 : Option Nat) (v1 : Int32) (v2 : Int32) (v3 : Int32) (v4 : Int32) (h : Hp) (r : Int32 × Hp), k79 v0 v1 v2 v3 v4 h = some r → Rn d 271 79 [some (va_rf v0), some (.int v1), some (.int v2), some (.int v3), some (.int v4)] [] h (some (.int r.1), r.2)) (v0 : Option Nat) (v1 : Int32) (v2 : Int32) (v3 : Int32) (v4 : Int32)  (h : Hp) (r : Int32 × Hp) (hb : b_271_105 k79 v0 v1 v2 v3 v4  h = some r) : Rn d 271 105 [some (va_rf v0), some (.int v1), some (.int v2), some (.int v3), some (.int v4)] [] h (some (.int r.1), r.2) := by
  unfold b_271_105 at hb
  obtain ⟨x1, ex1, hb⟩ := bnd_spec hb
  refine rn_iinc (i := 4) (y := x1) (L1 := [some (va_rf v0), some (.int v1), some (.int v2), some (.int v3), some (.int x1)]) rfl rfl (Nat.le_of_ble_eq_true rfl) (Or.inr rfl) (by rw [ex1]; rfl) rfl ?_
  refine rn_goto rfl rfl ?_
  exact K79 v0 v1 v2 v3 x1 h _ hb
def b_271_98 (k79 : Option Nat → Int32 → Int32 → Int32 → Int32 → Hp → Option (Int32 × Hp)) (v0 : Option Nat) (v1 : Int32) (v2 : Int32) (v3 : Int32) (v4 : Int32)  (h : Hp) : Option (Int32 × Hp) :=
  bnd ((v3 ||| ((nI 1) <<< (v4 &&& 31)))) fun x1 =>
  b_271_105 k79 v0 v1 v2 x1 v4  h
theorem u_271_98 (d : Nat) (hd : 7 ≤ d) (k79 : Option Nat → Int32 → Int32 → Int32 → Int32 → Hp → Option (Int32 × Hp)) (K79 : ∀ (v0 : Option Nat) (v1 : Int32) (v2 : Int32) (v3 : Int32) (v4 : Int32) (h : Hp) (r : Int32 × Hp), k79 v0 v1 v2 v3 v4 h = some r → Rn d 271 79 [some (va_rf v0), some (.int v1), some (.int v2), some (.int v3), some (.int v4)] [] h (some (.int r.1), r.2)) (v0 : Option Nat) (v1 : Int32) (v2 : Int32) (v3 : Int32) (v4 : Int32)  (h : Hp) (r : Int32 × Hp) (hb : b_271_98 k79 v0 v1 v2 v3 v4  h = some r) : Rn d 271 98 [some (va_rf v0), some (.int v1), some (.int v2), some (.int v3), some (.int v4)] [] h (some (.int r.1), r.2) := by
  unfold b_271_98 at hb
  refine rn_iload_n (i := 3) rfl rfl ?_
  refine rn_iconst (x := (nI 1)) rfl (by decide) ?_
  refine rn_iload (i := 4) rfl rfl ?_
  refine rn_ishl rfl ?_
  refine rn_ior rfl ?_
  obtain ⟨x1, ex1, hb⟩ := bnd_spec hb
  refine rn_istore_n (i := 3) (L1 := [some (va_rf v0), some (.int v1), some (.int v2), some (.int x1), some (.int v4)]) rfl (Nat.le_of_ble_eq_true rfl) (Or.inr rfl) (by rw [ex1]; rfl) ?_
  exact u_271_105 d hd k79 K79 v0 v1 v2 x1 v4  h _ hb
def b_271_88 (k79 : Option Nat → Int32 → Int32 → Int32 → Int32 → Hp → Option (Int32 × Hp)) (v0 : Option Nat) (v1 : Int32) (v2 : Int32) (v3 : Int32) (v4 : Int32)  (h : Hp) : Option (Int32 × Hp) :=
  (gQ 11 43 v0 h).bind fun x1 =>
  (aI 12 x1 v4 h).bind fun x2 =>
  if x2 = 0 then b_271_105 k79 v0 v1 v2 v3 v4  h else b_271_98 k79 v0 v1 v2 v3 v4  h
theorem u_271_88 (d : Nat) (hd : 7 ≤ d) (k79 : Option Nat → Int32 → Int32 → Int32 → Int32 → Hp → Option (Int32 × Hp)) (K79 : ∀ (v0 : Option Nat) (v1 : Int32) (v2 : Int32) (v3 : Int32) (v4 : Int32) (h : Hp) (r : Int32 × Hp), k79 v0 v1 v2 v3 v4 h = some r → Rn d 271 79 [some (va_rf v0), some (.int v1), some (.int v2), some (.int v3), some (.int v4)] [] h (some (.int r.1), r.2)) (v0 : Option Nat) (v1 : Int32) (v2 : Int32) (v3 : Int32) (v4 : Int32)  (h : Hp) (r : Int32 × Hp) (hb : b_271_88 k79 v0 v1 v2 v3 v4  h = some r) : Rn d 271 88 [some (va_rf v0), some (.int v1), some (.int v2), some (.int v3), some (.int v4)] [] h (some (.int r.1), r.2) := by
  unfold b_271_88 at hb
  refine rn_aload_n (i := 0) rfl rfl ?_
  refine rn_gQ (c := 11) (k := 43) rfl (by decide) hb (fun x1 hb => ?_)
  refine rn_iload (i := 4) rfl rfl ?_
  refine rn_aI rfl hb (fun x2 hb => ?_)
  refine rn_if_eq rfl rfl (fun hc => ?_) (fun hc => ?_)
  · exact u_271_105 d hd k79 K79 v0 v1 v2 v3 v4  h _ (if_t hb hc)
  · exact u_271_98 d hd k79 K79 v0 v1 v2 v3 v4  h _ (if_f hb hc)
def b_271_79 (k79 : Option Nat → Int32 → Int32 → Int32 → Int32 → Hp → Option (Int32 × Hp)) (v0 : Option Nat) (v1 : Int32) (v2 : Int32) (v3 : Int32) (v4 : Int32)  (h : Hp) : Option (Int32 × Hp) :=
  (grd (rC 11 v0 h)).bind fun _ =>
  (f_203 v0 h).bind fun p1 =>
  if p1.1 ≤ v4 then b_271_111 v0 v1 v2 v3  p1.2 else b_271_88 k79 v0 v1 v2 v3 v4  p1.2
theorem u_271_79 (d : Nat) (hd : 7 ≤ d) (k79 : Option Nat → Int32 → Int32 → Int32 → Int32 → Hp → Option (Int32 × Hp)) (K79 : ∀ (v0 : Option Nat) (v1 : Int32) (v2 : Int32) (v3 : Int32) (v4 : Int32) (h : Hp) (r : Int32 × Hp), k79 v0 v1 v2 v3 v4 h = some r → Rn d 271 79 [some (va_rf v0), some (.int v1), some (.int v2), some (.int v3), some (.int v4)] [] h (some (.int r.1), r.2)) (v0 : Option Nat) (v1 : Int32) (v2 : Int32) (v3 : Int32) (v4 : Int32)  (h : Hp) (r : Int32 × Hp) (hb : b_271_79 k79 v0 v1 v2 v3 v4  h = some r) : Rn d 271 79 [some (va_rf v0), some (.int v1), some (.int v2), some (.int v3), some (.int v4)] [] h (some (.int r.1), r.2) := by
  unfold b_271_79 at hb
  obtain ⟨e, rfl⟩ : ∃ e, d = e + 1 := ⟨d - 1, by omega⟩
  refine rn_iload (i := 4) rfl rfl ?_
  refine rn_aload_n (i := 0) rfl rfl ?_
  obtain ⟨hrc, hb⟩ := grd_spec hb
  obtain ⟨p1, hc, hb⟩ := Option.bind_eq_some_iff.mp hb
  refine Rn.call1 (d := e) (As := [va_rf v0]) (rest := [.int v4]) rfl rfl rfl (by decide) rfl rfl rfl (bd_rcV hrc rfl) (by rw [bd_cI (bd_cN)]; decide) (bd_lenC (n := 1) rfl (bd_slR bd_slN) rfl) (bd_locC (n := 1) rfl (bd_slR bd_slN) rfl (t_203 e (by omega) v0 h _ hc)) ?_
  refine rn_icmp_ge rfl rfl (fun hc => ?_) (fun hc => ?_)
  · exact u_271_111 (e + 1) hd v0 v1 v2 v3 v4  p1.2 _ (if_t hb hc)
  · exact u_271_88 (e + 1) hd k79 K79 v0 v1 v2 v3 v4  p1.2 _ (if_f hb hc)
def l_271_79 : Nat → Option Nat → Int32 → Int32 → Int32 → Int32 → Hp → Option (Int32 × Hp)
  | 0, _, _, _, _, _, _ => none
  | n + 1, v0, v1, v2, v3, v4, h => b_271_79 (l_271_79 n) v0 v1 v2 v3 v4 h
theorem w_271_79 (d : Nat) (hd : 7 ≤ d) : ∀ (n : Nat) (v0 : Option Nat) (v1 : Int32) (v2 : Int32) (v3 : Int32) (v4 : Int32) (h : Hp) (r : Int32 × Hp), l_271_79 n v0 v1 v2 v3 v4 h = some r → Rn d 271 79 [some (va_rf v0), some (.int v1), some (.int v2), some (.int v3), some (.int v4)] [] h (some (.int r.1), r.2) := by
  intro n
  induction n with
  | zero => intro v0 v1 v2 v3 v4 h r hb; cases hb
  | succ n ih => intro v0 v1 v2 v3 v4 h r hb; exact u_271_79 d hd (l_271_79 n) ih v0 v1 v2 v3 v4 h r hb
def b_271_74 (v0 : Option Nat) (v1 : Int32) (v2 : Int32)  (h : Hp) : Option (Int32 × Hp) :=
  bnd ((nI 0)) fun x1 =>
  bnd ((nI 0)) fun x2 =>
  l_271_79 FU v0 v1 v2 x1 x2 h
theorem u_271_74 (d : Nat) (hd : 7 ≤ d) (v0 : Option Nat) (v1 : Int32) (v2 : Int32) (v3 : Int32)  (h : Hp) (r : Int32 × Hp) (hb : b_271_74 v0 v1 v2  h = some r) : Rn d 271 74 [some (va_rf v0), some (.int v1), some (.int v2), some (.int v3), none] [] h (some (.int r.1), r.2) := by
  unfold b_271_74 at hb
  refine rn_iconst (x := (nI 0)) rfl (by decide) ?_
  obtain ⟨x1, ex1, hb⟩ := bnd_spec hb
  refine rn_istore_n (i := 3) (L1 := [some (va_rf v0), some (.int v1), some (.int v2), some (.int x1), none]) rfl (Nat.le_of_ble_eq_true rfl) (Or.inr rfl) (by rw [ex1]; rfl) ?_
  refine rn_iconst (x := (nI 0)) rfl (by decide) ?_
  obtain ⟨x2, ex2, hb⟩ := bnd_spec hb
  refine rn_istore (i := 4) (L1 := [some (va_rf v0), some (.int v1), some (.int v2), some (.int x1), some (.int x2)]) rfl (Nat.le_of_ble_eq_true rfl) (Or.inr rfl) (by rw [ex2]; rfl) ?_
  exact w_271_79 d hd FU v0 v1 v2 x1 x2 h _ hb
def b_271_68 (k15 : Option Nat → Int32 → Int32 → Int32 → Hp → Option (Int32 × Hp)) (v0 : Option Nat) (v1 : Int32) (v2 : Int32) (v3 : Int32)  (h : Hp) : Option (Int32 × Hp) :=
  bnd (v3 + (nI 1)) fun x1 =>
  k15 v0 v1 v2 x1 h
theorem u_271_68 (d : Nat) (hd : 7 ≤ d) (k15 : Option Nat → Int32 → Int32 → Int32 → Hp → Option (Int32 × Hp)) (K15 : ∀ (v0 : Option Nat) (v1 : Int32) (v2 : Int32) (v3 : Int32) (h : Hp) (r : Int32 × Hp), k15 v0 v1 v2 v3 h = some r → Rn d 271 15 [some (va_rf v0), some (.int v1), some (.int v2), some (.int v3), none] [] h (some (.int r.1), r.2)) (v0 : Option Nat) (v1 : Int32) (v2 : Int32) (v3 : Int32)  (h : Hp) (r : Int32 × Hp) (hb : b_271_68 k15 v0 v1 v2 v3  h = some r) : Rn d 271 68 [some (va_rf v0), some (.int v1), some (.int v2), some (.int v3), none] [] h (some (.int r.1), r.2) := by
  unfold b_271_68 at hb
  obtain ⟨x1, ex1, hb⟩ := bnd_spec hb
  refine rn_iinc (i := 3) (y := x1) (L1 := [some (va_rf v0), some (.int v1), some (.int v2), some (.int x1), none]) rfl rfl (Nat.le_of_ble_eq_true rfl) (Or.inr rfl) (by rw [ex1]; rfl) rfl ?_
  refine rn_goto rfl rfl ?_
  exact K15 v0 v1 v2 x1 h _ hb
def b_271_66 (k15 : Option Nat → Int32 → Int32 → Int32 → Hp → Option (Int32 × Hp)) (v0 : Option Nat) (v1 : Int32) (v3 : Int32)  (h : Hp) : Option (Int32 × Hp) :=
  b_271_68 k15 v0 v1 v3 v3  h
theorem u_271_66 (d : Nat) (hd : 7 ≤ d) (k15 : Option Nat → Int32 → Int32 → Int32 → Hp → Option (Int32 × Hp)) (K15 : ∀ (v0 : Option Nat) (v1 : Int32) (v2 : Int32) (v3 : Int32) (h : Hp) (r : Int32 × Hp), k15 v0 v1 v2 v3 h = some r → Rn d 271 15 [some (va_rf v0), some (.int v1), some (.int v2), some (.int v3), none] [] h (some (.int r.1), r.2)) (v0 : Option Nat) (v1 : Int32) (v2 : Int32) (v3 : Int32)  (h : Hp) (r : Int32 × Hp) (hb : b_271_66 k15 v0 v1 v3  h = some r) : Rn d 271 66 [some (va_rf v0), some (.int v1), some (.int v2), some (.int v3), none] [] h (some (.int r.1), r.2) := by
  unfold b_271_66 at hb
  refine rn_iload_n (i := 3) rfl rfl ?_
  refine rn_istore_n (i := 2) (L1 := [some (va_rf v0), some (.int v1), some (.int v3), some (.int v3), none]) rfl (Nat.le_of_ble_eq_true rfl) (Or.inr rfl) rfl ?_
  exact u_271_68 d hd k15 K15 v0 v1 v3 v3  h _ hb
def b_271_31 (k15 : Option Nat → Int32 → Int32 → Int32 → Hp → Option (Int32 × Hp)) (v0 : Option Nat) (v2 : Int32) (v3 : Int32)  (h : Hp) : Option (Int32 × Hp) :=
  (gQ 11 14 v0 h).bind fun x1 =>
  (aI 12 x1 ((nI 342) + ((nI 2) * v3)) h).bind fun x2 =>
  (gQ 11 14 v0 h).bind fun x3 =>
  (aI 12 x3 (((nI 342) + ((nI 2) * v3)) + (nI 1)) h).bind fun x4 =>
  (grd (rC 11 v0 h)).bind fun _ =>
  (f_270 v0 x2 x4 h).bind fun p5 =>
  bnd (p5.1) fun x6 =>
  if x6 = 0 then b_271_68 k15 v0 x6 v2 v3  p5.2 else b_271_66 k15 v0 x6 v3  p5.2
theorem u_271_31 (d : Nat) (hd : 7 ≤ d) (k15 : Option Nat → Int32 → Int32 → Int32 → Hp → Option (Int32 × Hp)) (K15 : ∀ (v0 : Option Nat) (v1 : Int32) (v2 : Int32) (v3 : Int32) (h : Hp) (r : Int32 × Hp), k15 v0 v1 v2 v3 h = some r → Rn d 271 15 [some (va_rf v0), some (.int v1), some (.int v2), some (.int v3), none] [] h (some (.int r.1), r.2)) (v0 : Option Nat) (v1 : Int32) (v2 : Int32) (v3 : Int32)  (h : Hp) (r : Int32 × Hp) (hb : b_271_31 k15 v0 v2 v3  h = some r) : Rn d 271 31 [some (va_rf v0), some (.int v1), some (.int v2), some (.int v3), none] [] h (some (.int r.1), r.2) := by
  unfold b_271_31 at hb
  obtain ⟨e, rfl⟩ : ∃ e, d = e + 1 := ⟨d - 1, by omega⟩
  refine rn_aload_n (i := 0) rfl rfl ?_
  refine rn_aload_n (i := 0) rfl rfl ?_
  refine rn_gQ (c := 11) (k := 14) rfl (by decide) hb (fun x1 hb => ?_)
  refine rn_sipush (x := (nI 342)) rfl (by decide) ?_
  refine rn_iconst (x := (nI 2)) rfl (by decide) ?_
  refine rn_iload_n (i := 3) rfl rfl ?_
  refine rn_imul rfl ?_
  refine rn_iadd rfl ?_
  refine rn_aI rfl hb (fun x2 hb => ?_)
  refine rn_aload_n (i := 0) rfl rfl ?_
  refine rn_gQ (c := 11) (k := 14) rfl (by decide) hb (fun x3 hb => ?_)
  refine rn_sipush (x := (nI 342)) rfl (by decide) ?_
  refine rn_iconst (x := (nI 2)) rfl (by decide) ?_
  refine rn_iload_n (i := 3) rfl rfl ?_
  refine rn_imul rfl ?_
  refine rn_iadd rfl ?_
  refine rn_iconst (x := (nI 1)) rfl (by decide) ?_
  refine rn_iadd rfl ?_
  refine rn_aI rfl hb (fun x4 hb => ?_)
  obtain ⟨hrc, hb⟩ := grd_spec hb
  obtain ⟨p5, hc, hb⟩ := Option.bind_eq_some_iff.mp hb
  refine Rn.call1 (d := e) (As := [va_rf v0, .int x2, .int x4]) (rest := []) rfl rfl rfl (by decide) rfl rfl rfl (bd_rcV hrc rfl) (by decide) (bd_lenC (n := 8) rfl (bd_slR (bd_slI (bd_slI bd_slN))) rfl) (bd_locC (n := 8) rfl (bd_slR (bd_slI (bd_slI bd_slN))) rfl (t_270 e (by omega) v0 x2 x4 h _ hc)) ?_
  obtain ⟨x6, ex6, hb⟩ := bnd_spec hb
  refine rn_istore_n (i := 1) (L1 := [some (va_rf v0), some (.int x6), some (.int v2), some (.int v3), none]) rfl (Nat.le_of_ble_eq_true rfl) (Or.inr (bd_wideR rfl)) (by rw [ex6]; rfl) ?_
  refine rn_iload_n (i := 1) rfl rfl ?_
  refine rn_if_eq rfl rfl (fun hc => ?_) (fun hc => ?_)
  · exact u_271_68 (e + 1) hd k15 K15 v0 x6 v2 v3  p5.2 _ (if_t hb hc)
  · exact u_271_66 (e + 1) hd k15 K15 v0 x6 v2 v3  p5.2 _ (if_f hb hc)
def b_271_27 (k15 : Option Nat → Int32 → Int32 → Int32 → Hp → Option (Int32 × Hp)) (v0 : Option Nat) (v1 : Int32) (v2 : Int32) (v3 : Int32)  (h : Hp) : Option (Int32 × Hp) :=
  if ¬ v1 = 0 then b_271_74 v0 v1 v2  h else b_271_31 k15 v0 v2 v3  h
theorem u_271_27 (d : Nat) (hd : 7 ≤ d) (k15 : Option Nat → Int32 → Int32 → Int32 → Hp → Option (Int32 × Hp)) (K15 : ∀ (v0 : Option Nat) (v1 : Int32) (v2 : Int32) (v3 : Int32) (h : Hp) (r : Int32 × Hp), k15 v0 v1 v2 v3 h = some r → Rn d 271 15 [some (va_rf v0), some (.int v1), some (.int v2), some (.int v3), none] [] h (some (.int r.1), r.2)) (v0 : Option Nat) (v1 : Int32) (v2 : Int32) (v3 : Int32)  (h : Hp) (r : Int32 × Hp) (hb : b_271_27 k15 v0 v1 v2 v3  h = some r) : Rn d 271 27 [some (va_rf v0), some (.int v1), some (.int v2), some (.int v3), none] [] h (some (.int r.1), r.2) := by
  unfold b_271_27 at hb
  refine rn_iload_n (i := 1) rfl rfl ?_
  refine rn_if_ne rfl rfl (fun hc => ?_) (fun hc => ?_)
  · exact u_271_74 d hd v0 v1 v2 v3  h _ (if_t hb hc)
  · exact u_271_31 d hd k15 K15 v0 v1 v2 v3  h _ (if_f hb hc)
def b_271_15 (k15 : Option Nat → Int32 → Int32 → Int32 → Hp → Option (Int32 × Hp)) (v0 : Option Nat) (v1 : Int32) (v2 : Int32) (v3 : Int32)  (h : Hp) : Option (Int32 × Hp) :=
  (gQ 11 14 v0 h).bind fun x1 =>
  (aI 12 x1 (nI 341) h).bind fun x2 =>
  if x2 ≤ v3 then b_271_74 v0 v1 v2  h else b_271_27 k15 v0 v1 v2 v3  h
theorem u_271_15 (d : Nat) (hd : 7 ≤ d) (k15 : Option Nat → Int32 → Int32 → Int32 → Hp → Option (Int32 × Hp)) (K15 : ∀ (v0 : Option Nat) (v1 : Int32) (v2 : Int32) (v3 : Int32) (h : Hp) (r : Int32 × Hp), k15 v0 v1 v2 v3 h = some r → Rn d 271 15 [some (va_rf v0), some (.int v1), some (.int v2), some (.int v3), none] [] h (some (.int r.1), r.2)) (v0 : Option Nat) (v1 : Int32) (v2 : Int32) (v3 : Int32)  (h : Hp) (r : Int32 × Hp) (hb : b_271_15 k15 v0 v1 v2 v3  h = some r) : Rn d 271 15 [some (va_rf v0), some (.int v1), some (.int v2), some (.int v3), none] [] h (some (.int r.1), r.2) := by
  unfold b_271_15 at hb
  refine rn_iload_n (i := 3) rfl rfl ?_
  refine rn_aload_n (i := 0) rfl rfl ?_
  refine rn_gQ (c := 11) (k := 14) rfl (by decide) hb (fun x1 hb => ?_)
  refine rn_sipush (x := (nI 341)) rfl (by decide) ?_
  refine rn_aI rfl hb (fun x2 hb => ?_)
  refine rn_icmp_ge rfl rfl (fun hc => ?_) (fun hc => ?_)
  · exact u_271_74 d hd v0 v1 v2 v3  h _ (if_t hb hc)
  · exact u_271_27 d hd k15 K15 v0 v1 v2 v3  h _ (if_f hb hc)
def l_271_15 : Nat → Option Nat → Int32 → Int32 → Int32 → Hp → Option (Int32 × Hp)
  | 0, _, _, _, _, _ => none
  | n + 1, v0, v1, v2, v3, h => b_271_15 (l_271_15 n) v0 v1 v2 v3 h
theorem w_271_15 (d : Nat) (hd : 7 ≤ d) : ∀ (n : Nat) (v0 : Option Nat) (v1 : Int32) (v2 : Int32) (v3 : Int32) (h : Hp) (r : Int32 × Hp), l_271_15 n v0 v1 v2 v3 h = some r → Rn d 271 15 [some (va_rf v0), some (.int v1), some (.int v2), some (.int v3), none] [] h (some (.int r.1), r.2) := by
  intro n
  induction n with
  | zero => intro v0 v1 v2 v3 h r hb; cases hb
  | succ n ih => intro v0 v1 v2 v3 h r hb; exact u_271_15 d hd (l_271_15 n) ih v0 v1 v2 v3 h r hb
def b_271_0 (v0 : Option Nat)  (h : Hp) : Option (Int32 × Hp) :=
  (grd (rC 11 v0 h)).bind fun _ =>
  (f_253 v0 h).bind fun p1 =>
  (pI 11 49 v0 (nI 0) p1).bind fun h2 =>
  bnd ((nI 0)) fun x3 =>
  bnd ((-1 : Int32)) fun x4 =>
  bnd ((nI 0)) fun x5 =>
  l_271_15 FU v0 x3 x4 x5 h2
theorem u_271_0 (d : Nat) (hd : 7 ≤ d) (v0 : Option Nat)  (h : Hp) (r : Int32 × Hp) (hb : b_271_0 v0  h = some r) : Rn d 271 0 [some (va_rf v0), none, none, none, none] [] h (some (.int r.1), r.2) := by
  unfold b_271_0 at hb
  obtain ⟨e, rfl⟩ : ∃ e, d = e + 1 := ⟨d - 1, by omega⟩
  refine rn_aload_n (i := 0) rfl rfl ?_
  obtain ⟨hrc, hb⟩ := grd_spec hb
  obtain ⟨p1, hc, hb⟩ := Option.bind_eq_some_iff.mp hb
  refine Rn.call0 (d := e) (As := [va_rf v0]) (rest := []) rfl rfl rfl (by decide) rfl rfl rfl (bd_rcV hrc rfl) (by decide) (bd_lenC (n := 2) rfl (bd_slR bd_slN) rfl) (bd_locC (n := 2) rfl (bd_slR bd_slN) rfl (t_253 e (by omega) v0 h _ hc)) ?_
  refine rn_aload_n (i := 0) rfl rfl ?_
  refine rn_iconst (x := (nI 0)) rfl (by decide) ?_
  refine rn_pI (c := 11) (k := 49) rfl (by decide) hb (fun h2 hb => ?_)
  refine rn_iconst (x := (nI 0)) rfl (by decide) ?_
  obtain ⟨x3, ex3, hb⟩ := bnd_spec hb
  refine rn_istore_n (i := 1) (L1 := [some (va_rf v0), some (.int x3), none, none, none]) rfl (Nat.le_of_ble_eq_true rfl) (Or.inr (bd_wideR rfl)) (by rw [ex3]; rfl) ?_
  refine rn_iconst (x := (-1 : Int32)) rfl (by decide) ?_
  obtain ⟨x4, ex4, hb⟩ := bnd_spec hb
  refine rn_istore_n (i := 2) (L1 := [some (va_rf v0), some (.int x3), some (.int x4), none, none]) rfl (Nat.le_of_ble_eq_true rfl) (Or.inr rfl) (by rw [ex4]; rfl) ?_
  refine rn_iconst (x := (nI 0)) rfl (by decide) ?_
  obtain ⟨x5, ex5, hb⟩ := bnd_spec hb
  refine rn_istore_n (i := 3) (L1 := [some (va_rf v0), some (.int x3), some (.int x4), some (.int x5), none]) rfl (Nat.le_of_ble_eq_true rfl) (Or.inr rfl) (by rw [ex5]; rfl) ?_
  exact w_271_15 (e + 1) hd FU v0 x3 x4 x5 h2 _ hb
/-- BitingDoorsModel.doDay()I -/
def f_271 (v0 : Option Nat) (h : Hp) : Option (Int32 × Hp) := b_271_0 v0 h
theorem t_271 (d : Nat) (hd : 7 ≤ d) (v0 : Option Nat) (h : Hp) (r : Int32 × Hp) (hb : f_271 v0 h = some r) : Rn d 271 0 [some (va_rf v0), none, none, none, none] [] h (some (.int r.1), r.2) := by
  unfold f_271 at hb
  exact u_271_0 d hd v0 h r hb
def b_272_0 (v0 : Option Nat)  (h : Hp) : Option (Int32 × Hp) :=
  (pI 11 0 v0 (nI 0) h).bind fun h1 =>
  (grd (rC 11 v0 h1)).bind fun _ =>
  (f_271 v0 h1).bind fun p2 =>
  some (p2.1, p2.2)
theorem u_272_0 (d : Nat) (hd : 8 ≤ d) (v0 : Option Nat)  (h : Hp) (r : Int32 × Hp) (hb : b_272_0 v0  h = some r) : Rn d 272 0 [some (va_rf v0)] [] h (some (.int r.1), r.2) := by
  unfold b_272_0 at hb
  obtain ⟨e, rfl⟩ : ∃ e, d = e + 1 := ⟨d - 1, by omega⟩
  refine rn_aload_n (i := 0) rfl rfl ?_
  refine rn_iconst (x := (nI 0)) rfl (by decide) ?_
  refine rn_pI (c := 11) (k := 0) rfl (by decide) hb (fun h1 hb => ?_)
  refine rn_aload_n (i := 0) rfl rfl ?_
  obtain ⟨hrc, hb⟩ := grd_spec hb
  obtain ⟨p2, hc, hb⟩ := Option.bind_eq_some_iff.mp hb
  refine Rn.call1 (d := e) (As := [va_rf v0]) (rest := []) rfl rfl rfl (by decide) rfl rfl rfl (bd_rcV hrc rfl) (by decide) (bd_lenC (n := 5) rfl (bd_slR bd_slN) rfl) (bd_locC (n := 5) rfl (bd_slR bd_slN) rfl (t_271 e (by omega) v0 h1 _ hc)) ?_
  obtain rfl := Option.some.inj hb
  exact rn_iret rfl rfl
/-- BitingDoorsModel.judge()I -/
def f_272 (v0 : Option Nat) (h : Hp) : Option (Int32 × Hp) := b_272_0 v0 h
theorem t_272 (d : Nat) (hd : 8 ≤ d) (v0 : Option Nat) (h : Hp) (r : Int32 × Hp) (hb : f_272 v0 h = some r) : Rn d 272 0 [some (va_rf v0)] [] h (some (.int r.1), r.2) := by
  unfold f_272 at hb
  exact u_272_0 d hd v0 h r hb
def b_273_25  (s0 : Int32) (h : Hp) : Option (Int32 × Hp) :=
  some (s0, h)
theorem u_273_25 (d : Nat) (hd : 1 ≤ d) (v0 : Option Nat) (v1 : Int32) (s0 : Int32) (h : Hp) (r : Int32 × Hp) (hb : b_273_25  s0 h = some r) : Rn d 273 25 [some (va_rf v0), some (.int v1)] [.int s0] h (some (.int r.1), r.2) := by
  unfold b_273_25 at hb
  obtain rfl := Option.some.inj hb
  exact rn_iret rfl rfl
def b_273_23   (h : Hp) : Option (Int32 × Hp) :=
  b_273_25  (-2 : Int32) h
theorem u_273_23 (d : Nat) (hd : 1 ≤ d) (v0 : Option Nat) (v1 : Int32)  (h : Hp) (r : Int32 × Hp) (hb : b_273_23   h = some r) : Rn d 273 23 [some (va_rf v0), some (.int v1)] [] h (some (.int r.1), r.2) := by
  unfold b_273_23 at hb
  refine rn_bipush (x := (-2 : Int32)) rfl (by decide) ?_
  exact u_273_25 d hd v0 v1 (-2 : Int32) h _ hb
def b_273_14 (v0 : Option Nat) (v1 : Int32)  (h : Hp) : Option (Int32 × Hp) :=
  (gQ 11 48 v0 h).bind fun x1 =>
  (aI 12 x1 v1 h).bind fun x2 =>
  b_273_25  x2 h
theorem u_273_14 (d : Nat) (hd : 1 ≤ d) (v0 : Option Nat) (v1 : Int32)  (h : Hp) (r : Int32 × Hp) (hb : b_273_14 v0 v1  h = some r) : Rn d 273 14 [some (va_rf v0), some (.int v1)] [] h (some (.int r.1), r.2) := by
  unfold b_273_14 at hb
  refine rn_aload_n (i := 0) rfl rfl ?_
  refine rn_gQ (c := 11) (k := 48) rfl (by decide) hb (fun x1 hb => ?_)
  refine rn_iload_n (i := 1) rfl rfl ?_
  refine rn_aI rfl hb (fun x2 hb => ?_)
  refine rn_goto rfl rfl ?_
  exact u_273_25 d hd v0 v1 x2 h _ hb
def b_273_0 (v0 : Option Nat) (v1 : Int32)  (h : Hp) : Option (Int32 × Hp) :=
  (pI 11 0 v0 (nI 0) h).bind fun h1 =>
  (f_182 v1 (nI 0) (nI 4) h1).bind fun p2 =>
  if p2.1 = 0 then b_273_23   p2.2 else b_273_14 v0 v1  p2.2
theorem u_273_0 (d : Nat) (hd : 1 ≤ d) (v0 : Option Nat) (v1 : Int32)  (h : Hp) (r : Int32 × Hp) (hb : b_273_0 v0 v1  h = some r) : Rn d 273 0 [some (va_rf v0), some (.int v1)] [] h (some (.int r.1), r.2) := by
  unfold b_273_0 at hb
  obtain ⟨e, rfl⟩ : ∃ e, d = e + 1 := ⟨d - 1, by omega⟩
  refine rn_aload_n (i := 0) rfl rfl ?_
  refine rn_iconst (x := (nI 0)) rfl (by decide) ?_
  refine rn_pI (c := 11) (k := 0) rfl (by decide) hb (fun h1 hb => ?_)
  refine rn_iload_n (i := 1) rfl rfl ?_
  refine rn_iconst (x := (nI 0)) rfl (by decide) ?_
  refine rn_iconst (x := (nI 4)) rfl (by decide) ?_
  obtain ⟨p2, hc, hb⟩ := Option.bind_eq_some_iff.mp hb
  refine Rn.call1 (d := e) (As := [.int v1, .int (nI 0), .int (nI 4)]) (rest := []) rfl rfl rfl (by decide) rfl rfl rfl rfl (by decide) (bd_lenC (n := 3) rfl (bd_slI (bd_slI (bd_slI bd_slN))) rfl) (bd_locC (n := 3) rfl (bd_slI (bd_slI (bd_slI bd_slN))) rfl (t_182 e (by omega) v1 (nI 0) (nI 4) h1 _ hc)) ?_
  refine rn_if_eq rfl rfl (fun hc => ?_) (fun hc => ?_)
  · exact u_273_23 (e + 1) hd v0 v1  p2.2 _ (if_t hb hc)
  · exact u_273_14 (e + 1) hd v0 v1  p2.2 _ (if_f hb hc)
/-- BitingDoorsModel.judged(I)I -/
def f_273 (v0 : Option Nat) (v1 : Int32) (h : Hp) : Option (Int32 × Hp) := b_273_0 v0 v1 h
theorem t_273 (d : Nat) (hd : 1 ≤ d) (v0 : Option Nat) (v1 : Int32) (h : Hp) (r : Int32 × Hp) (hb : f_273 v0 v1 h = some r) : Rn d 273 0 [some (va_rf v0), some (.int v1)] [] h (some (.int r.1), r.2) := by
  unfold f_273 at hb
  exact u_273_0 d hd v0 v1 h r hb
def b_274_0 (v0 : Option Nat)  (h : Hp) : Option (Int32 × Hp) :=
  (pI 11 0 v0 (nI 0) h).bind fun h1 =>
  (grd (rC 11 v0 h1)).bind fun _ =>
  (f_271 v0 h1).bind fun p2 =>
  bnd (p2.1) fun x3 =>
  (grd (rC 11 v0 p2.2)).bind fun _ =>
  (f_254 v0 p2.2).bind fun p4 =>
  (gI 11 23 v0 p4).bind fun x5 =>
  (gI 11 49 v0 p4).bind fun x6 =>
  (pI 11 23 v0 (x5 + x6) p4).bind fun h7 =>
  some (x3, h7)
theorem u_274_0 (d : Nat) (hd : 8 ≤ d) (v0 : Option Nat)  (h : Hp) (r : Int32 × Hp) (hb : b_274_0 v0  h = some r) : Rn d 274 0 [some (va_rf v0), none] [] h (some (.int r.1), r.2) := by
  unfold b_274_0 at hb
  obtain ⟨e, rfl⟩ : ∃ e, d = e + 1 := ⟨d - 1, by omega⟩
  refine rn_aload_n (i := 0) rfl rfl ?_
  refine rn_iconst (x := (nI 0)) rfl (by decide) ?_
  refine rn_pI (c := 11) (k := 0) rfl (by decide) hb (fun h1 hb => ?_)
  refine rn_aload_n (i := 0) rfl rfl ?_
  obtain ⟨hrc, hb⟩ := grd_spec hb
  obtain ⟨p2, hc, hb⟩ := Option.bind_eq_some_iff.mp hb
  refine Rn.call1 (d := e) (As := [va_rf v0]) (rest := []) rfl rfl rfl (by decide) rfl rfl rfl (bd_rcV hrc rfl) (by decide) (bd_lenC (n := 5) rfl (bd_slR bd_slN) rfl) (bd_locC (n := 5) rfl (bd_slR bd_slN) rfl (t_271 e (by omega) v0 h1 _ hc)) ?_
  obtain ⟨x3, ex3, hb⟩ := bnd_spec hb
  refine rn_istore_n (i := 1) (L1 := [some (va_rf v0), some (.int x3)]) rfl (Nat.le_of_ble_eq_true rfl) (Or.inr (bd_wideR rfl)) (by rw [ex3]; rfl) ?_
  refine rn_aload_n (i := 0) rfl rfl ?_
  obtain ⟨hrc, hb⟩ := grd_spec hb
  obtain ⟨p4, hc, hb⟩ := Option.bind_eq_some_iff.mp hb
  refine Rn.call0 (d := e) (As := [va_rf v0]) (rest := []) rfl rfl rfl (by decide) rfl rfl rfl (bd_rcV hrc rfl) (by decide) (bd_lenC (n := 2) rfl (bd_slR bd_slN) rfl) (bd_locC (n := 2) rfl (bd_slR bd_slN) rfl (t_254 e (by omega) v0 p2.2 _ hc)) ?_
  refine rn_aload_n (i := 0) rfl rfl ?_
  refine rn_dup rfl (bd_cat_rf _) ?_
  refine rn_gI (c := 11) (k := 23) rfl (by decide) hb (fun x5 hb => ?_)
  refine rn_aload_n (i := 0) rfl rfl ?_
  refine rn_gI (c := 11) (k := 49) rfl (by decide) hb (fun x6 hb => ?_)
  refine rn_iadd rfl ?_
  refine rn_pI (c := 11) (k := 23) rfl (by decide) hb (fun h7 hb => ?_)
  refine rn_iload_n (i := 1) rfl rfl ?_
  obtain rfl := Option.some.inj hb
  exact rn_iret rfl rfl
/-- BitingDoorsModel.live()I -/
def f_274 (v0 : Option Nat) (h : Hp) : Option (Int32 × Hp) := b_274_0 v0 h
theorem t_274 (d : Nat) (hd : 8 ≤ d) (v0 : Option Nat) (h : Hp) (r : Int32 × Hp) (hb : f_274 v0 h = some r) : Rn d 274 0 [some (va_rf v0), none] [] h (some (.int r.1), r.2) := by
  unfold f_274 at hb
  exact u_274_0 d hd v0 h r hb
def b_275_30 (v0 : Option Nat) (v1 : Int32)  (h : Hp) : Option (Int32 × Hp) :=
  (gI 11 45 v0 h).bind fun x1 =>
  some ((((nI 100) * v1) + x1), h)
theorem u_275_30 (d : Nat) (hd : 1 ≤ d) (v0 : Option Nat) (v1 : Int32) (v2 : Int32)  (h : Hp) (r : Int32 × Hp) (hb : b_275_30 v0 v1  h = some r) : Rn d 275 30 [some (va_rf v0), some (.int v1), some (.int v2)] [] h (some (.int r.1), r.2) := by
  unfold b_275_30 at hb
  refine rn_bipush (x := (nI 100)) rfl (by decide) ?_
  refine rn_iload_n (i := 1) rfl rfl ?_
  refine rn_imul rfl ?_
  refine rn_aload_n (i := 0) rfl rfl ?_
  refine rn_gI (c := 11) (k := 45) rfl (by decide) hb (fun x1 hb => ?_)
  refine rn_iadd rfl ?_
  obtain rfl := Option.some.inj hb
  exact rn_iret rfl rfl
def b_275_13 (k9 : Option Nat → Int32 → Int32 → Hp → Option (Int32 × Hp)) (v0 : Option Nat) (v1 : Int32) (v2 : Int32)  (h : Hp) : Option (Int32 × Hp) :=
  (gQ 11 43 v0 h).bind fun x1 =>
  (aI 12 x1 v2 h).bind fun x2 =>
  bnd ((((nI 3) * v1) + x2)) fun x3 =>
  bnd (v2 + (-1 : Int32)) fun x4 =>
  k9 v0 x3 x4 h
theorem u_275_13 (d : Nat) (hd : 1 ≤ d) (k9 : Option Nat → Int32 → Int32 → Hp → Option (Int32 × Hp)) (K9 : ∀ (v0 : Option Nat) (v1 : Int32) (v2 : Int32) (h : Hp) (r : Int32 × Hp), k9 v0 v1 v2 h = some r → Rn d 275 9 [some (va_rf v0), some (.int v1), some (.int v2)] [] h (some (.int r.1), r.2)) (v0 : Option Nat) (v1 : Int32) (v2 : Int32)  (h : Hp) (r : Int32 × Hp) (hb : b_275_13 k9 v0 v1 v2  h = some r) : Rn d 275 13 [some (va_rf v0), some (.int v1), some (.int v2)] [] h (some (.int r.1), r.2) := by
  unfold b_275_13 at hb
  refine rn_iconst (x := (nI 3)) rfl (by decide) ?_
  refine rn_iload_n (i := 1) rfl rfl ?_
  refine rn_imul rfl ?_
  refine rn_aload_n (i := 0) rfl rfl ?_
  refine rn_gQ (c := 11) (k := 43) rfl (by decide) hb (fun x1 hb => ?_)
  refine rn_iload_n (i := 2) rfl rfl ?_
  refine rn_aI rfl hb (fun x2 hb => ?_)
  refine rn_iadd rfl ?_
  obtain ⟨x3, ex3, hb⟩ := bnd_spec hb
  refine rn_istore_n (i := 1) (L1 := [some (va_rf v0), some (.int x3), some (.int v2)]) rfl (Nat.le_of_ble_eq_true rfl) (Or.inr (bd_wideR rfl)) (by rw [ex3]; rfl) ?_
  obtain ⟨x4, ex4, hb⟩ := bnd_spec hb
  refine rn_iinc (i := 2) (y := x4) (L1 := [some (va_rf v0), some (.int x3), some (.int x4)]) rfl rfl (Nat.le_of_ble_eq_true rfl) (Or.inr rfl) (by rw [ex4]; rfl) rfl ?_
  refine rn_goto rfl rfl ?_
  exact K9 v0 x3 x4 h _ hb
def b_275_9 (k9 : Option Nat → Int32 → Int32 → Hp → Option (Int32 × Hp)) (v0 : Option Nat) (v1 : Int32) (v2 : Int32)  (h : Hp) : Option (Int32 × Hp) :=
  if v2 < 0 then b_275_30 v0 v1  h else b_275_13 k9 v0 v1 v2  h
theorem u_275_9 (d : Nat) (hd : 1 ≤ d) (k9 : Option Nat → Int32 → Int32 → Hp → Option (Int32 × Hp)) (K9 : ∀ (v0 : Option Nat) (v1 : Int32) (v2 : Int32) (h : Hp) (r : Int32 × Hp), k9 v0 v1 v2 h = some r → Rn d 275 9 [some (va_rf v0), some (.int v1), some (.int v2)] [] h (some (.int r.1), r.2)) (v0 : Option Nat) (v1 : Int32) (v2 : Int32)  (h : Hp) (r : Int32 × Hp) (hb : b_275_9 k9 v0 v1 v2  h = some r) : Rn d 275 9 [some (va_rf v0), some (.int v1), some (.int v2)] [] h (some (.int r.1), r.2) := by
  unfold b_275_9 at hb
  refine rn_iload_n (i := 2) rfl rfl ?_
  refine rn_if_lt rfl rfl (fun hc => ?_) (fun hc => ?_)
  · exact u_275_30 d hd v0 v1 v2  h _ (if_t hb hc)
  · exact u_275_13 d hd k9 K9 v0 v1 v2  h _ (if_f hb hc)
def l_275_9 : Nat → Option Nat → Int32 → Int32 → Hp → Option (Int32 × Hp)
  | 0, _, _, _, _ => none
  | n + 1, v0, v1, v2, h => b_275_9 (l_275_9 n) v0 v1 v2 h
theorem w_275_9 (d : Nat) (hd : 1 ≤ d) : ∀ (n : Nat) (v0 : Option Nat) (v1 : Int32) (v2 : Int32) (h : Hp) (r : Int32 × Hp), l_275_9 n v0 v1 v2 h = some r → Rn d 275 9 [some (va_rf v0), some (.int v1), some (.int v2)] [] h (some (.int r.1), r.2) := by
  intro n
  induction n with
  | zero => intro v0 v1 v2 h r hb; cases hb
  | succ n ih => intro v0 v1 v2 h r hb; exact u_275_9 d hd (l_275_9 n) ih v0 v1 v2 h r hb
def b_275_0 (v0 : Option Nat)  (h : Hp) : Option (Int32 × Hp) :=
  bnd ((nI 0)) fun x1 =>
  (grd (rC 11 v0 h)).bind fun _ =>
  (f_203 v0 h).bind fun p2 =>
  bnd ((p2.1 - (nI 1))) fun x3 =>
  l_275_9 FU v0 x1 x3 p2.2
theorem u_275_0 (d : Nat) (hd : 1 ≤ d) (v0 : Option Nat)  (h : Hp) (r : Int32 × Hp) (hb : b_275_0 v0  h = some r) : Rn d 275 0 [some (va_rf v0), none, none] [] h (some (.int r.1), r.2) := by
  unfold b_275_0 at hb
  obtain ⟨e, rfl⟩ : ∃ e, d = e + 1 := ⟨d - 1, by omega⟩
  refine rn_iconst (x := (nI 0)) rfl (by decide) ?_
  obtain ⟨x1, ex1, hb⟩ := bnd_spec hb
  refine rn_istore_n (i := 1) (L1 := [some (va_rf v0), some (.int x1), none]) rfl (Nat.le_of_ble_eq_true rfl) (Or.inr (bd_wideR rfl)) (by rw [ex1]; rfl) ?_
  refine rn_aload_n (i := 0) rfl rfl ?_
  obtain ⟨hrc, hb⟩ := grd_spec hb
  obtain ⟨p2, hc, hb⟩ := Option.bind_eq_some_iff.mp hb
  refine Rn.call1 (d := e) (As := [va_rf v0]) (rest := []) rfl rfl rfl (by decide) rfl rfl rfl (bd_rcV hrc rfl) (by decide) (bd_lenC (n := 1) rfl (bd_slR bd_slN) rfl) (bd_locC (n := 1) rfl (bd_slR bd_slN) rfl (t_203 e (by omega) v0 h _ hc)) ?_
  refine rn_iconst (x := (nI 1)) rfl (by decide) ?_
  refine rn_isub rfl ?_
  obtain ⟨x3, ex3, hb⟩ := bnd_spec hb
  refine rn_istore_n (i := 2) (L1 := [some (va_rf v0), some (.int x1), some (.int x3)]) rfl (Nat.le_of_ble_eq_true rfl) (Or.inr rfl) (by rw [ex3]; rfl) ?_
  exact w_275_9 (e + 1) hd FU v0 x1 x3 p2.2 _ hb
/-- BitingDoorsModel.stateAtHand()I -/
def f_275 (v0 : Option Nat) (h : Hp) : Option (Int32 × Hp) := b_275_0 v0 h
theorem t_275 (d : Nat) (hd : 1 ≤ d) (v0 : Option Nat) (h : Hp) (r : Int32 × Hp) (hb : f_275 v0 h = some r) : Rn d 275 0 [some (va_rf v0), none, none] [] h (some (.int r.1), r.2) := by
  unfold f_275 at hb
  exact u_275_0 d hd v0 h r hb
def b_276_42 (v0 : Option Nat)  (h : Hp) : Option (Hp) :=
  (grd (rC 11 v0 h)).bind fun _ =>
  (f_252 v0 h).bind fun p1 =>
  some p1
theorem u_276_42 (d : Nat) (hd : 3 ≤ d) (v0 : Option Nat) (v1 : Int32) (v2 : Int32) (v3 : Int32)  (h : Hp) (r : Hp) (hb : b_276_42 v0  h = some r) : Rn d 276 42 [some (va_rf v0), some (.int v1), some (.int v2), some (.int v3)] [] h (none, r) := by
  unfold b_276_42 at hb
  obtain ⟨e, rfl⟩ : ∃ e, d = e + 1 := ⟨d - 1, by omega⟩
  refine rn_aload_n (i := 0) rfl rfl ?_
  obtain ⟨hrc, hb⟩ := grd_spec hb
  obtain ⟨p1, hc, hb⟩ := Option.bind_eq_some_iff.mp hb
  refine Rn.call0 (d := e) (As := [va_rf v0]) (rest := []) rfl rfl rfl (by decide) rfl rfl rfl (bd_rcV hrc rfl) (by decide) (bd_lenC (n := 3) rfl (bd_slR bd_slN) rfl) (bd_locC (n := 3) rfl (bd_slR bd_slN) rfl (t_252 e (by omega) v0 h _ hc)) ?_
  obtain rfl := Option.some.inj hb
  exact rn_vret rfl rfl
def b_276_23 (k15 : Option Nat → Int32 → Int32 → Hp → Option (Hp)) (v0 : Option Nat) (v2 : Int32) (v3 : Int32)  (h : Hp) : Option (Hp) :=
  (gQ 11 43 v0 h).bind fun x1 =>
  (grd (decide (¬ ((nI 3) : Int32) = 0))).bind fun _ =>
  (wI x1 v3 (v2 - v2 / (nI 3) * (nI 3)) h).bind fun h2 =>
  (grd (decide (¬ ((nI 3) : Int32) = 0))).bind fun _ =>
  bnd ((v2 / (nI 3))) fun x3 =>
  bnd (v3 + (nI 1)) fun x4 =>
  k15 v0 x3 x4 h2
theorem u_276_23 (d : Nat) (hd : 3 ≤ d) (k15 : Option Nat → Int32 → Int32 → Hp → Option (Hp)) (K15 : ∀ (v0 : Option Nat) (v1 : Int32) (v2 : Int32) (v3 : Int32) (h : Hp) (r : Hp), k15 v0 v2 v3 h = some r → Rn d 276 15 [some (va_rf v0), some (.int v1), some (.int v2), some (.int v3)] [] h (none, r)) (v0 : Option Nat) (v1 : Int32) (v2 : Int32) (v3 : Int32)  (h : Hp) (r : Hp) (hb : b_276_23 k15 v0 v2 v3  h = some r) : Rn d 276 23 [some (va_rf v0), some (.int v1), some (.int v2), some (.int v3)] [] h (none, r) := by
  unfold b_276_23 at hb
  refine rn_aload_n (i := 0) rfl rfl ?_
  refine rn_gQ (c := 11) (k := 43) rfl (by decide) hb (fun x1 hb => ?_)
  refine rn_iload_n (i := 3) rfl rfl ?_
  refine rn_iload_n (i := 2) rfl rfl ?_
  refine rn_iconst (x := (nI 3)) rfl (by decide) ?_
  obtain ⟨hy, hb⟩ := grd_spec hb
  refine rn_irem rfl (of_decide_eq_true hy) ?_
  refine rn_wI rfl hb (fun h2 hb => ?_)
  refine rn_iload_n (i := 2) rfl rfl ?_
  refine rn_iconst (x := (nI 3)) rfl (by decide) ?_
  obtain ⟨hy, hb⟩ := grd_spec hb
  refine rn_idiv rfl (of_decide_eq_true hy) ?_
  obtain ⟨x3, ex3, hb⟩ := bnd_spec hb
  refine rn_istore_n (i := 2) (L1 := [some (va_rf v0), some (.int v1), some (.int x3), some (.int v3)]) rfl (Nat.le_of_ble_eq_true rfl) (Or.inr rfl) (by rw [ex3]; rfl) ?_
  obtain ⟨x4, ex4, hb⟩ := bnd_spec hb
  refine rn_iinc (i := 3) (y := x4) (L1 := [some (va_rf v0), some (.int v1), some (.int x3), some (.int x4)]) rfl rfl (Nat.le_of_ble_eq_true rfl) (Or.inr rfl) (by rw [ex4]; rfl) rfl ?_
  refine rn_goto rfl rfl ?_
  exact K15 v0 v1 x3 x4 h2 _ hb
def b_276_15 (k15 : Option Nat → Int32 → Int32 → Hp → Option (Hp)) (v0 : Option Nat) (v2 : Int32) (v3 : Int32)  (h : Hp) : Option (Hp) :=
  (grd (rC 11 v0 h)).bind fun _ =>
  (f_203 v0 h).bind fun p1 =>
  if p1.1 ≤ v3 then b_276_42 v0  p1.2 else b_276_23 k15 v0 v2 v3  p1.2
theorem u_276_15 (d : Nat) (hd : 3 ≤ d) (k15 : Option Nat → Int32 → Int32 → Hp → Option (Hp)) (K15 : ∀ (v0 : Option Nat) (v1 : Int32) (v2 : Int32) (v3 : Int32) (h : Hp) (r : Hp), k15 v0 v2 v3 h = some r → Rn d 276 15 [some (va_rf v0), some (.int v1), some (.int v2), some (.int v3)] [] h (none, r)) (v0 : Option Nat) (v1 : Int32) (v2 : Int32) (v3 : Int32)  (h : Hp) (r : Hp) (hb : b_276_15 k15 v0 v2 v3  h = some r) : Rn d 276 15 [some (va_rf v0), some (.int v1), some (.int v2), some (.int v3)] [] h (none, r) := by
  unfold b_276_15 at hb
  obtain ⟨e, rfl⟩ : ∃ e, d = e + 1 := ⟨d - 1, by omega⟩
  refine rn_iload_n (i := 3) rfl rfl ?_
  refine rn_aload_n (i := 0) rfl rfl ?_
  obtain ⟨hrc, hb⟩ := grd_spec hb
  obtain ⟨p1, hc, hb⟩ := Option.bind_eq_some_iff.mp hb
  refine Rn.call1 (d := e) (As := [va_rf v0]) (rest := [.int v3]) rfl rfl rfl (by decide) rfl rfl rfl (bd_rcV hrc rfl) (by rw [bd_cI (bd_cN)]; decide) (bd_lenC (n := 1) rfl (bd_slR bd_slN) rfl) (bd_locC (n := 1) rfl (bd_slR bd_slN) rfl (t_203 e (by omega) v0 h _ hc)) ?_
  refine rn_icmp_ge rfl rfl (fun hc => ?_) (fun hc => ?_)
  · exact u_276_42 (e + 1) hd v0 v1 v2 v3  p1.2 _ (if_t hb hc)
  · exact u_276_23 (e + 1) hd k15 K15 v0 v1 v2 v3  p1.2 _ (if_f hb hc)
def l_276_15 : Nat → Option Nat → Int32 → Int32 → Hp → Option (Hp)
  | 0, _, _, _, _ => none
  | n + 1, v0, v2, v3, h => b_276_15 (l_276_15 n) v0 v2 v3 h
theorem w_276_15 (d : Nat) (hd : 3 ≤ d) : ∀ (n : Nat) (v0 : Option Nat) (v1 : Int32) (v2 : Int32) (v3 : Int32) (h : Hp) (r : Hp), l_276_15 n v0 v2 v3 h = some r → Rn d 276 15 [some (va_rf v0), some (.int v1), some (.int v2), some (.int v3)] [] h (none, r) := by
  intro n
  induction n with
  | zero => intro v0 v1 v2 v3 h r hb; cases hb
  | succ n ih => intro v0 v1 v2 v3 h r hb; exact u_276_15 d hd (l_276_15 n) ih v0 v1 v2 v3 h r hb
def b_276_0 (v0 : Option Nat) (v1 : Int32)  (h : Hp) : Option (Hp) :=
  (grd (decide (¬ ((nI 100) : Int32) = 0))).bind fun _ =>
  (pI 11 45 v0 (v1 - v1 / (nI 100) * (nI 100)) h).bind fun h1 =>
  (grd (decide (¬ ((nI 100) : Int32) = 0))).bind fun _ =>
  bnd ((v1 / (nI 100))) fun x2 =>
  bnd ((nI 0)) fun x3 =>
  l_276_15 FU v0 x2 x3 h1
theorem u_276_0 (d : Nat) (hd : 3 ≤ d) (v0 : Option Nat) (v1 : Int32)  (h : Hp) (r : Hp) (hb : b_276_0 v0 v1  h = some r) : Rn d 276 0 [some (va_rf v0), some (.int v1), none, none] [] h (none, r) := by
  unfold b_276_0 at hb
  refine rn_aload_n (i := 0) rfl rfl ?_
  refine rn_iload_n (i := 1) rfl rfl ?_
  refine rn_bipush (x := (nI 100)) rfl (by decide) ?_
  obtain ⟨hy, hb⟩ := grd_spec hb
  refine rn_irem rfl (of_decide_eq_true hy) ?_
  refine rn_pI (c := 11) (k := 45) rfl (by decide) hb (fun h1 hb => ?_)
  refine rn_iload_n (i := 1) rfl rfl ?_
  refine rn_bipush (x := (nI 100)) rfl (by decide) ?_
  obtain ⟨hy, hb⟩ := grd_spec hb
  refine rn_idiv rfl (of_decide_eq_true hy) ?_
  obtain ⟨x2, ex2, hb⟩ := bnd_spec hb
  refine rn_istore_n (i := 2) (L1 := [some (va_rf v0), some (.int v1), some (.int x2), none]) rfl (Nat.le_of_ble_eq_true rfl) (Or.inr rfl) (by rw [ex2]; rfl) ?_
  refine rn_iconst (x := (nI 0)) rfl (by decide) ?_
  obtain ⟨x3, ex3, hb⟩ := bnd_spec hb
  refine rn_istore_n (i := 3) (L1 := [some (va_rf v0), some (.int v1), some (.int x2), some (.int x3)]) rfl (Nat.le_of_ble_eq_true rfl) (Or.inr rfl) (by rw [ex3]; rfl) ?_
  exact w_276_15 d hd FU v0 v1 x2 x3 h1 _ hb
/-- BitingDoorsModel.layState(I)V -/
def f_276 (v0 : Option Nat) (v1 : Int32) (h : Hp) : Option (Hp) := b_276_0 v0 v1 h
theorem t_276 (d : Nat) (hd : 3 ≤ d) (v0 : Option Nat) (v1 : Int32) (h : Hp) (r : Hp) (hb : f_276 v0 v1 h = some r) : Rn d 276 0 [some (va_rf v0), some (.int v1), none, none] [] h (none, r) := by
  unfold f_276 at hb
  exact u_276_0 d hd v0 v1 h r hb
def b_277_184   (h : Hp) : Option (Int32 × Hp) :=
  some ((-1 : Int32), h)
theorem u_277_184 (d : Nat) (hd : 6 ≤ d) (v0 : Option Nat) (v1 : Int32) (v2 : Int32) (v3 : Int32) (v4 : Option (Int32)) (v5 : Option (Int32)) (v6 : Option (Int32))  (h : Hp) (r : Int32 × Hp) (hb : b_277_184   h = some r) : Rn d 277 184 [some (va_rf v0), some (.int v1), some (.int v2), some (.int v3), v4.map Value.int, v5.map Value.int, v6.map Value.int] [] h (some (.int r.1), r.2) := by
  unfold b_277_184 at hb
  refine rn_iconst (x := (-1 : Int32)) rfl (by decide) ?_
  obtain rfl := Option.some.inj hb
  exact rn_iret rfl rfl
def b_277_178 (k50 : Option Nat → Int32 → Int32 → Hp → Option (Int32 × Hp)) (v0 : Option Nat) (v1 : Int32) (v3 : Int32)  (h : Hp) : Option (Int32 × Hp) :=
  bnd (v3 + (nI 1)) fun x1 =>
  k50 v0 v1 x1 h
theorem u_277_178 (d : Nat) (hd : 6 ≤ d) (k50 : Option Nat → Int32 → Int32 → Hp → Option (Int32 × Hp)) (K50 : ∀ (v0 : Option Nat) (v1 : Int32) (v2 : Int32) (v3 : Int32) (v4 : Option (Int32)) (v5 : Option (Int32)) (v6 : Option (Int32)) (h : Hp) (r : Int32 × Hp), k50 v0 v1 v3 h = some r → Rn d 277 50 [some (va_rf v0), some (.int v1), some (.int v2), some (.int v3), v4.map Value.int, v5.map Value.int, v6.map Value.int] [] h (some (.int r.1), r.2)) (v0 : Option Nat) (v1 : Int32) (v2 : Int32) (v3 : Int32) (v4 : Int32) (v5 : Int32) (v6 : Option (Int32))  (h : Hp) (r : Int32 × Hp) (hb : b_277_178 k50 v0 v1 v3  h = some r) : Rn d 277 178 [some (va_rf v0), some (.int v1), some (.int v2), some (.int v3), some (.int v4), some (.int v5), v6.map Value.int] [] h (some (.int r.1), r.2) := by
  unfold b_277_178 at hb
  obtain ⟨x1, ex1, hb⟩ := bnd_spec hb
  refine rn_iinc (i := 3) (y := x1) (L1 := [some (va_rf v0), some (.int v1), some (.int v2), some (.int x1), some (.int v4), some (.int v5), v6.map Value.int]) rfl rfl (Nat.le_of_ble_eq_true rfl) (Or.inr rfl) (by rw [ex1]; rfl) rfl ?_
  refine rn_goto rfl rfl ?_
  exact K50 v0 v1 v2 x1 (some v4) (some v5) v6 h _ hb
def b_277_172 (k50 : Option Nat → Int32 → Int32 → Hp → Option (Int32 × Hp)) (k81 : Option Nat → Int32 → Int32 → Int32 → Int32 → Hp → Option (Int32 × Hp)) (v0 : Option Nat) (v1 : Int32) (v3 : Int32) (v4 : Int32) (v5 : Int32)  (h : Hp) : Option (Int32 × Hp) :=
  bnd (v5 + (nI 1)) fun x1 =>
  k81 v0 v1 v3 v4 x1 h
theorem u_277_172 (d : Nat) (hd : 6 ≤ d) (k50 : Option Nat → Int32 → Int32 → Hp → Option (Int32 × Hp)) (K50 : ∀ (v0 : Option Nat) (v1 : Int32) (v2 : Int32) (v3 : Int32) (v4 : Option (Int32)) (v5 : Option (Int32)) (v6 : Option (Int32)) (h : Hp) (r : Int32 × Hp), k50 v0 v1 v3 h = some r → Rn d 277 50 [some (va_rf v0), some (.int v1), some (.int v2), some (.int v3), v4.map Value.int, v5.map Value.int, v6.map Value.int] [] h (some (.int r.1), r.2)) (k81 : Option Nat → Int32 → Int32 → Int32 → Int32 → Hp → Option (Int32 × Hp)) (K81 : ∀ (v0 : Option Nat) (v1 : Int32) (v2 : Int32) (v3 : Int32) (v4 : Int32) (v5 : Int32) (v6 : Option (Int32)) (h : Hp) (r : Int32 × Hp), k81 v0 v1 v3 v4 v5 h = some r → Rn d 277 81 [some (va_rf v0), some (.int v1), some (.int v2), some (.int v3), some (.int v4), some (.int v5), v6.map Value.int] [] h (some (.int r.1), r.2)) (v0 : Option Nat) (v1 : Int32) (v2 : Int32) (v3 : Int32) (v4 : Int32) (v5 : Int32) (v6 : Option (Int32))  (h : Hp) (r : Int32 × Hp) (hb : b_277_172 k50 k81 v0 v1 v3 v4 v5  h = some r) : Rn d 277 172 [some (va_rf v0), some (.int v1), some (.int v2), some (.int v3), some (.int v4), some (.int v5), v6.map Value.int] [] h (some (.int r.1), r.2) := by
  unfold b_277_172 at hb
  obtain ⟨x1, ex1, hb⟩ := bnd_spec hb
  refine rn_iinc (i := 5) (y := x1) (L1 := [some (va_rf v0), some (.int v1), some (.int v2), some (.int v3), some (.int v4), some (.int x1), v6.map Value.int]) rfl rfl (Nat.le_of_ble_eq_true rfl) (Or.inr rfl) (by rw [ex1]; rfl) rfl ?_
  refine rn_goto rfl rfl ?_
  exact K81 v0 v1 v2 v3 v4 x1 v6 h _ hb
def b_277_133 (k50 : Option Nat → Int32 → Int32 → Hp → Option (Int32 × Hp)) (k81 : Option Nat → Int32 → Int32 → Int32 → Int32 → Hp → Option (Int32 × Hp)) (v0 : Option Nat) (v1 : Int32) (v3 : Int32) (v4 : Int32) (v5 : Int32) (v6 : Int32)  (h : Hp) : Option (Int32 × Hp) :=
  (gQ 11 52 v0 h).bind fun x1 =>
  (wI x1 v6 v5 h).bind fun h2 =>
  (gQ 11 51 v0 h2).bind fun x3 =>
  (wI x3 v6 v4 h2).bind fun h4 =>
  (gQ 11 50 v0 h4).bind fun x5 =>
  (gI 11 55 v0 h4).bind fun x6 =>
  (wI x5 x6 v6 h4).bind fun h7 =>
  (gI 11 55 v0 h7).bind fun x8 =>
  (pI 11 55 v0 (x8 + (nI 1)) h7).bind fun h9 =>
  b_277_172 k50 k81 v0 v1 v3 v4 v5  h9
theorem u_277_133 (d : Nat) (hd : 6 ≤ d) (k50 : Option Nat → Int32 → Int32 → Hp → Option (Int32 × Hp)) (K50 : ∀ (v0 : Option Nat) (v1 : Int32) (v2 : Int32) (v3 : Int32) (v4 : Option (Int32)) (v5 : Option (Int32)) (v6 : Option (Int32)) (h : Hp) (r : Int32 × Hp), k50 v0 v1 v3 h = some r → Rn d 277 50 [some (va_rf v0), some (.int v1), some (.int v2), some (.int v3), v4.map Value.int, v5.map Value.int, v6.map Value.int] [] h (some (.int r.1), r.2)) (k81 : Option Nat → Int32 → Int32 → Int32 → Int32 → Hp → Option (Int32 × Hp)) (K81 : ∀ (v0 : Option Nat) (v1 : Int32) (v2 : Int32) (v3 : Int32) (v4 : Int32) (v5 : Int32) (v6 : Option (Int32)) (h : Hp) (r : Int32 × Hp), k81 v0 v1 v3 v4 v5 h = some r → Rn d 277 81 [some (va_rf v0), some (.int v1), some (.int v2), some (.int v3), some (.int v4), some (.int v5), v6.map Value.int] [] h (some (.int r.1), r.2)) (v0 : Option Nat) (v1 : Int32) (v2 : Int32) (v3 : Int32) (v4 : Int32) (v5 : Int32) (v6 : Int32)  (h : Hp) (r : Int32 × Hp) (hb : b_277_133 k50 k81 v0 v1 v3 v4 v5 v6  h = some r) : Rn d 277 133 [some (va_rf v0), some (.int v1), some (.int v2), some (.int v3), some (.int v4), some (.int v5), some (.int v6)] [] h (some (.int r.1), r.2) := by
  unfold b_277_133 at hb
  refine rn_aload_n (i := 0) rfl rfl ?_
  refine rn_gQ (c := 11) (k := 52) rfl (by decide) hb (fun x1 hb => ?_)
  refine rn_iload (i := 6) rfl rfl ?_
  refine rn_iload (i := 5) rfl rfl ?_
  refine rn_wI rfl hb (fun h2 hb => ?_)
  refine rn_aload_n (i := 0) rfl rfl ?_
  refine rn_gQ (c := 11) (k := 51) rfl (by decide) hb (fun x3 hb => ?_)
  refine rn_iload (i := 6) rfl rfl ?_
  refine rn_iload (i := 4) rfl rfl ?_
  refine rn_wI rfl hb (fun h4 hb => ?_)
  refine rn_aload_n (i := 0) rfl rfl ?_
  refine rn_gQ (c := 11) (k := 50) rfl (by decide) hb (fun x5 hb => ?_)
  refine rn_aload_n (i := 0) rfl rfl ?_
  refine rn_gI (c := 11) (k := 55) rfl (by decide) hb (fun x6 hb => ?_)
  refine rn_iload (i := 6) rfl rfl ?_
  refine rn_wI rfl hb (fun h7 hb => ?_)
  refine rn_aload_n (i := 0) rfl rfl ?_
  refine rn_dup rfl (bd_cat_rf _) ?_
  refine rn_gI (c := 11) (k := 55) rfl (by decide) hb (fun x8 hb => ?_)
  refine rn_iconst (x := (nI 1)) rfl (by decide) ?_
  refine rn_iadd rfl ?_
  refine rn_pI (c := 11) (k := 55) rfl (by decide) hb (fun h9 hb => ?_)
  exact u_277_172 d hd k50 K50 k81 K81 v0 v1 v2 v3 v4 v5 (some v6)  h9 _ hb
def b_277_130 (k50 : Option Nat → Int32 → Int32 → Hp → Option (Int32 × Hp)) (k81 : Option Nat → Int32 → Int32 → Int32 → Int32 → Hp → Option (Int32 × Hp)) (v0 : Option Nat) (v1 : Int32) (v3 : Int32) (v4 : Int32) (v5 : Int32)  (h : Hp) : Option (Int32 × Hp) :=
  b_277_172 k50 k81 v0 v1 v3 v4 v5  h
theorem u_277_130 (d : Nat) (hd : 6 ≤ d) (k50 : Option Nat → Int32 → Int32 → Hp → Option (Int32 × Hp)) (K50 : ∀ (v0 : Option Nat) (v1 : Int32) (v2 : Int32) (v3 : Int32) (v4 : Option (Int32)) (v5 : Option (Int32)) (v6 : Option (Int32)) (h : Hp) (r : Int32 × Hp), k50 v0 v1 v3 h = some r → Rn d 277 50 [some (va_rf v0), some (.int v1), some (.int v2), some (.int v3), v4.map Value.int, v5.map Value.int, v6.map Value.int] [] h (some (.int r.1), r.2)) (k81 : Option Nat → Int32 → Int32 → Int32 → Int32 → Hp → Option (Int32 × Hp)) (K81 : ∀ (v0 : Option Nat) (v1 : Int32) (v2 : Int32) (v3 : Int32) (v4 : Int32) (v5 : Int32) (v6 : Option (Int32)) (h : Hp) (r : Int32 × Hp), k81 v0 v1 v3 v4 v5 h = some r → Rn d 277 81 [some (va_rf v0), some (.int v1), some (.int v2), some (.int v3), some (.int v4), some (.int v5), v6.map Value.int] [] h (some (.int r.1), r.2)) (v0 : Option Nat) (v1 : Int32) (v2 : Int32) (v3 : Int32) (v4 : Int32) (v5 : Int32) (v6 : Int32)  (h : Hp) (r : Int32 × Hp) (hb : b_277_130 k50 k81 v0 v1 v3 v4 v5  h = some r) : Rn d 277 130 [some (va_rf v0), some (.int v1), some (.int v2), some (.int v3), some (.int v4), some (.int v5), some (.int v6)] [] h (some (.int r.1), r.2) := by
  unfold b_277_130 at hb
  refine rn_goto rfl rfl ?_
  exact u_277_172 d hd k50 K50 k81 K81 v0 v1 v2 v3 v4 v5 (some v6)  h _ hb
def b_277_112 (k50 : Option Nat → Int32 → Int32 → Hp → Option (Int32 × Hp)) (k81 : Option Nat → Int32 → Int32 → Int32 → Int32 → Hp → Option (Int32 × Hp)) (v0 : Option Nat) (v1 : Int32) (v3 : Int32) (v4 : Int32) (v5 : Int32)  (h : Hp) : Option (Int32 × Hp) :=
  (grd (rC 11 v0 h)).bind fun _ =>
  (f_275 v0 h).bind fun p1 =>
  bnd (p1.1) fun x2 =>
  (gQ 11 52 v0 p1.2).bind fun x3 =>
  (aI 12 x3 x2 p1.2).bind fun x4 =>
  if x4 = (-5 : Int32) then b_277_133 k50 k81 v0 v1 v3 v4 v5 x2  p1.2 else b_277_130 k50 k81 v0 v1 v3 v4 v5  p1.2
theorem u_277_112 (d : Nat) (hd : 6 ≤ d) (k50 : Option Nat → Int32 → Int32 → Hp → Option (Int32 × Hp)) (K50 : ∀ (v0 : Option Nat) (v1 : Int32) (v2 : Int32) (v3 : Int32) (v4 : Option (Int32)) (v5 : Option (Int32)) (v6 : Option (Int32)) (h : Hp) (r : Int32 × Hp), k50 v0 v1 v3 h = some r → Rn d 277 50 [some (va_rf v0), some (.int v1), some (.int v2), some (.int v3), v4.map Value.int, v5.map Value.int, v6.map Value.int] [] h (some (.int r.1), r.2)) (k81 : Option Nat → Int32 → Int32 → Int32 → Int32 → Hp → Option (Int32 × Hp)) (K81 : ∀ (v0 : Option Nat) (v1 : Int32) (v2 : Int32) (v3 : Int32) (v4 : Int32) (v5 : Int32) (v6 : Option (Int32)) (h : Hp) (r : Int32 × Hp), k81 v0 v1 v3 v4 v5 h = some r → Rn d 277 81 [some (va_rf v0), some (.int v1), some (.int v2), some (.int v3), some (.int v4), some (.int v5), v6.map Value.int] [] h (some (.int r.1), r.2)) (v0 : Option Nat) (v1 : Int32) (v2 : Int32) (v3 : Int32) (v4 : Int32) (v5 : Int32) (v6 : Option (Int32))  (h : Hp) (r : Int32 × Hp) (hb : b_277_112 k50 k81 v0 v1 v3 v4 v5  h = some r) : Rn d 277 112 [some (va_rf v0), some (.int v1), some (.int v2), some (.int v3), some (.int v4), some (.int v5), v6.map Value.int] [] h (some (.int r.1), r.2) := by
  unfold b_277_112 at hb
  obtain ⟨e, rfl⟩ : ∃ e, d = e + 1 := ⟨d - 1, by omega⟩
  refine rn_aload_n (i := 0) rfl rfl ?_
  obtain ⟨hrc, hb⟩ := grd_spec hb
  obtain ⟨p1, hc, hb⟩ := Option.bind_eq_some_iff.mp hb
  refine Rn.call1 (d := e) (As := [va_rf v0]) (rest := []) rfl rfl rfl (by decide) rfl rfl rfl (bd_rcV hrc rfl) (by decide) (bd_lenC (n := 3) rfl (bd_slR bd_slN) rfl) (bd_locC (n := 3) rfl (bd_slR bd_slN) rfl (t_275 e (by omega) v0 h _ hc)) ?_
  obtain ⟨x2, ex2, hb⟩ := bnd_spec hb
  refine rn_istore (i := 6) (L1 := [some (va_rf v0), some (.int v1), some (.int v2), some (.int v3), some (.int v4), some (.int v5), some (.int x2)]) rfl (Nat.le_of_ble_eq_true rfl) (Or.inr rfl) (by rw [ex2]; rfl) ?_
  refine rn_aload_n (i := 0) rfl rfl ?_
  refine rn_gQ (c := 11) (k := 52) rfl (by decide) hb (fun x3 hb => ?_)
  refine rn_iload (i := 6) rfl rfl ?_
  refine rn_aI rfl hb (fun x4 hb => ?_)
  refine rn_bipush (x := (-5 : Int32)) rfl (by decide) ?_
  refine rn_icmp_eq rfl rfl (fun hc => ?_) (fun hc => ?_)
  · exact u_277_133 (e + 1) hd k50 K50 k81 K81 v0 v1 v2 v3 v4 v5 x2  p1.2 _ (if_t hb hc)
  · exact u_277_130 (e + 1) hd k50 K50 k81 K81 v0 v1 v2 v3 v4 v5 x2  p1.2 _ (if_f hb hc)
def b_277_109 (k50 : Option Nat → Int32 → Int32 → Hp → Option (Int32 × Hp)) (k81 : Option Nat → Int32 → Int32 → Int32 → Int32 → Hp → Option (Int32 × Hp)) (v0 : Option Nat) (v1 : Int32) (v3 : Int32) (v4 : Int32) (v5 : Int32)  (h : Hp) : Option (Int32 × Hp) :=
  b_277_172 k50 k81 v0 v1 v3 v4 v5  h
theorem u_277_109 (d : Nat) (hd : 6 ≤ d) (k50 : Option Nat → Int32 → Int32 → Hp → Option (Int32 × Hp)) (K50 : ∀ (v0 : Option Nat) (v1 : Int32) (v2 : Int32) (v3 : Int32) (v4 : Option (Int32)) (v5 : Option (Int32)) (v6 : Option (Int32)) (h : Hp) (r : Int32 × Hp), k50 v0 v1 v3 h = some r → Rn d 277 50 [some (va_rf v0), some (.int v1), some (.int v2), some (.int v3), v4.map Value.int, v5.map Value.int, v6.map Value.int] [] h (some (.int r.1), r.2)) (k81 : Option Nat → Int32 → Int32 → Int32 → Int32 → Hp → Option (Int32 × Hp)) (K81 : ∀ (v0 : Option Nat) (v1 : Int32) (v2 : Int32) (v3 : Int32) (v4 : Int32) (v5 : Int32) (v6 : Option (Int32)) (h : Hp) (r : Int32 × Hp), k81 v0 v1 v3 v4 v5 h = some r → Rn d 277 81 [some (va_rf v0), some (.int v1), some (.int v2), some (.int v3), some (.int v4), some (.int v5), v6.map Value.int] [] h (some (.int r.1), r.2)) (v0 : Option Nat) (v1 : Int32) (v2 : Int32) (v3 : Int32) (v4 : Int32) (v5 : Int32) (v6 : Option (Int32))  (h : Hp) (r : Int32 × Hp) (hb : b_277_109 k50 k81 v0 v1 v3 v4 v5  h = some r) : Rn d 277 109 [some (va_rf v0), some (.int v1), some (.int v2), some (.int v3), some (.int v4), some (.int v5), v6.map Value.int] [] h (some (.int r.1), r.2) := by
  unfold b_277_109 at hb
  refine rn_goto rfl rfl ?_
  exact u_277_172 d hd k50 K50 k81 K81 v0 v1 v2 v3 v4 v5 v6  h _ hb
def b_277_94 (k50 : Option Nat → Int32 → Int32 → Hp → Option (Int32 × Hp)) (k81 : Option Nat → Int32 → Int32 → Int32 → Int32 → Hp → Option (Int32 × Hp)) (v0 : Option Nat) (v1 : Int32) (v3 : Int32) (v4 : Int32) (v5 : Int32)  (h : Hp) : Option (Int32 × Hp) :=
  (grd (rC 11 v0 h)).bind fun _ =>
  (f_276 v0 v4 h).bind fun p1 =>
  (grd (rC 11 v0 p1)).bind fun _ =>
  (f_261 v0 v5 p1).bind fun p2 =>
  if p2.1 = 0 then b_277_112 k50 k81 v0 v1 v3 v4 v5  p2.2 else b_277_109 k50 k81 v0 v1 v3 v4 v5  p2.2
theorem u_277_94 (d : Nat) (hd : 6 ≤ d) (k50 : Option Nat → Int32 → Int32 → Hp → Option (Int32 × Hp)) (K50 : ∀ (v0 : Option Nat) (v1 : Int32) (v2 : Int32) (v3 : Int32) (v4 : Option (Int32)) (v5 : Option (Int32)) (v6 : Option (Int32)) (h : Hp) (r : Int32 × Hp), k50 v0 v1 v3 h = some r → Rn d 277 50 [some (va_rf v0), some (.int v1), some (.int v2), some (.int v3), v4.map Value.int, v5.map Value.int, v6.map Value.int] [] h (some (.int r.1), r.2)) (k81 : Option Nat → Int32 → Int32 → Int32 → Int32 → Hp → Option (Int32 × Hp)) (K81 : ∀ (v0 : Option Nat) (v1 : Int32) (v2 : Int32) (v3 : Int32) (v4 : Int32) (v5 : Int32) (v6 : Option (Int32)) (h : Hp) (r : Int32 × Hp), k81 v0 v1 v3 v4 v5 h = some r → Rn d 277 81 [some (va_rf v0), some (.int v1), some (.int v2), some (.int v3), some (.int v4), some (.int v5), v6.map Value.int] [] h (some (.int r.1), r.2)) (v0 : Option Nat) (v1 : Int32) (v2 : Int32) (v3 : Int32) (v4 : Int32) (v5 : Int32) (v6 : Option (Int32))  (h : Hp) (r : Int32 × Hp) (hb : b_277_94 k50 k81 v0 v1 v3 v4 v5  h = some r) : Rn d 277 94 [some (va_rf v0), some (.int v1), some (.int v2), some (.int v3), some (.int v4), some (.int v5), v6.map Value.int] [] h (some (.int r.1), r.2) := by
  unfold b_277_94 at hb
  obtain ⟨e, rfl⟩ : ∃ e, d = e + 1 := ⟨d - 1, by omega⟩
  refine rn_aload_n (i := 0) rfl rfl ?_
  refine rn_iload (i := 4) rfl rfl ?_
  obtain ⟨hrc, hb⟩ := grd_spec hb
  obtain ⟨p1, hc, hb⟩ := Option.bind_eq_some_iff.mp hb
  refine Rn.call0 (d := e) (As := [va_rf v0, .int v4]) (rest := []) rfl rfl rfl (by decide) rfl rfl rfl (bd_rcV hrc rfl) (by decide) (bd_lenC (n := 4) rfl (bd_slR (bd_slI bd_slN)) rfl) (bd_locC (n := 4) rfl (bd_slR (bd_slI bd_slN)) rfl (t_276 e (by omega) v0 v4 h _ hc)) ?_
  refine rn_aload_n (i := 0) rfl rfl ?_
  refine rn_iload (i := 5) rfl rfl ?_
  obtain ⟨hrc, hb⟩ := grd_spec hb
  obtain ⟨p2, hc, hb⟩ := Option.bind_eq_some_iff.mp hb
  refine Rn.call1 (d := e) (As := [va_rf v0, .int v5]) (rest := []) rfl rfl rfl (by decide) rfl rfl rfl (bd_rcV hrc rfl) (by decide) (bd_lenC (n := 3) rfl (bd_slR (bd_slI bd_slN)) rfl) (bd_locC (n := 3) rfl (bd_slR (bd_slI bd_slN)) rfl (t_261 e (by omega) v0 v5 p1 _ hc)) ?_
  refine rn_if_eq rfl rfl (fun hc => ?_) (fun hc => ?_)
  · exact u_277_112 (e + 1) hd k50 K50 k81 K81 v0 v1 v2 v3 v4 v5 v6  p2.2 _ (if_t hb hc)
  · exact u_277_109 (e + 1) hd k50 K50 k81 K81 v0 v1 v2 v3 v4 v5 v6  p2.2 _ (if_f hb hc)
def b_277_81 (k50 : Option Nat → Int32 → Int32 → Hp → Option (Int32 × Hp)) (k81 : Option Nat → Int32 → Int32 → Int32 → Int32 → Hp → Option (Int32 × Hp)) (v0 : Option Nat) (v1 : Int32) (v3 : Int32) (v4 : Int32) (v5 : Int32)  (h : Hp) : Option (Int32 × Hp) :=
  (grd (rC 11 v0 h)).bind fun _ =>
  (f_203 v0 h).bind fun p1 =>
  if ((nI 4) + ((nI 2) * p1.1)) ≤ v5 then b_277_178 k50 v0 v1 v3  p1.2 else b_277_94 k50 k81 v0 v1 v3 v4 v5  p1.2
theorem u_277_81 (d : Nat) (hd : 6 ≤ d) (k50 : Option Nat → Int32 → Int32 → Hp → Option (Int32 × Hp)) (K50 : ∀ (v0 : Option Nat) (v1 : Int32) (v2 : Int32) (v3 : Int32) (v4 : Option (Int32)) (v5 : Option (Int32)) (v6 : Option (Int32)) (h : Hp) (r : Int32 × Hp), k50 v0 v1 v3 h = some r → Rn d 277 50 [some (va_rf v0), some (.int v1), some (.int v2), some (.int v3), v4.map Value.int, v5.map Value.int, v6.map Value.int] [] h (some (.int r.1), r.2)) (k81 : Option Nat → Int32 → Int32 → Int32 → Int32 → Hp → Option (Int32 × Hp)) (K81 : ∀ (v0 : Option Nat) (v1 : Int32) (v2 : Int32) (v3 : Int32) (v4 : Int32) (v5 : Int32) (v6 : Option (Int32)) (h : Hp) (r : Int32 × Hp), k81 v0 v1 v3 v4 v5 h = some r → Rn d 277 81 [some (va_rf v0), some (.int v1), some (.int v2), some (.int v3), some (.int v4), some (.int v5), v6.map Value.int] [] h (some (.int r.1), r.2)) (v0 : Option Nat) (v1 : Int32) (v2 : Int32) (v3 : Int32) (v4 : Int32) (v5 : Int32) (v6 : Option (Int32))  (h : Hp) (r : Int32 × Hp) (hb : b_277_81 k50 k81 v0 v1 v3 v4 v5  h = some r) : Rn d 277 81 [some (va_rf v0), some (.int v1), some (.int v2), some (.int v3), some (.int v4), some (.int v5), v6.map Value.int] [] h (some (.int r.1), r.2) := by
  unfold b_277_81 at hb
  obtain ⟨e, rfl⟩ : ∃ e, d = e + 1 := ⟨d - 1, by omega⟩
  refine rn_iload (i := 5) rfl rfl ?_
  refine rn_iconst (x := (nI 4)) rfl (by decide) ?_
  refine rn_iconst (x := (nI 2)) rfl (by decide) ?_
  refine rn_aload_n (i := 0) rfl rfl ?_
  obtain ⟨hrc, hb⟩ := grd_spec hb
  obtain ⟨p1, hc, hb⟩ := Option.bind_eq_some_iff.mp hb
  refine Rn.call1 (d := e) (As := [va_rf v0]) (rest := [.int (nI 2), .int (nI 4), .int v5]) rfl rfl rfl (by decide) rfl rfl rfl (bd_rcV hrc rfl) (by rw [bd_cI (bd_cI (bd_cI (bd_cN)))]; decide) (bd_lenC (n := 1) rfl (bd_slR bd_slN) rfl) (bd_locC (n := 1) rfl (bd_slR bd_slN) rfl (t_203 e (by omega) v0 h _ hc)) ?_
  refine rn_imul rfl ?_
  refine rn_iadd rfl ?_
  refine rn_icmp_ge rfl rfl (fun hc => ?_) (fun hc => ?_)
  · exact u_277_178 (e + 1) hd k50 K50 v0 v1 v2 v3 v4 v5 v6  p1.2 _ (if_t hb hc)
  · exact u_277_94 (e + 1) hd k50 K50 k81 K81 v0 v1 v2 v3 v4 v5 v6  p1.2 _ (if_f hb hc)
def l_277_81 (k50 : Option Nat → Int32 → Int32 → Hp → Option (Int32 × Hp)) : Nat → Option Nat → Int32 → Int32 → Int32 → Int32 → Hp → Option (Int32 × Hp)
  | 0, _, _, _, _, _, _ => none
  | n + 1, v0, v1, v3, v4, v5, h => b_277_81 k50 (l_277_81 k50 n) v0 v1 v3 v4 v5 h
theorem w_277_81 (d : Nat) (hd : 6 ≤ d) (k50 : Option Nat → Int32 → Int32 → Hp → Option (Int32 × Hp)) (K50 : ∀ (v0 : Option Nat) (v1 : Int32) (v2 : Int32) (v3 : Int32) (v4 : Option (Int32)) (v5 : Option (Int32)) (v6 : Option (Int32)) (h : Hp) (r : Int32 × Hp), k50 v0 v1 v3 h = some r → Rn d 277 50 [some (va_rf v0), some (.int v1), some (.int v2), some (.int v3), v4.map Value.int, v5.map Value.int, v6.map Value.int] [] h (some (.int r.1), r.2)) : ∀ (n : Nat) (v0 : Option Nat) (v1 : Int32) (v2 : Int32) (v3 : Int32) (v4 : Int32) (v5 : Int32) (v6 : Option (Int32)) (h : Hp) (r : Int32 × Hp), l_277_81 k50 n v0 v1 v3 v4 v5 h = some r → Rn d 277 81 [some (va_rf v0), some (.int v1), some (.int v2), some (.int v3), some (.int v4), some (.int v5), v6.map Value.int] [] h (some (.int r.1), r.2) := by
  intro n
  induction n with
  | zero => intro v0 v1 v2 v3 v4 v5 v6 h r hb; cases hb
  | succ n ih => intro v0 v1 v2 v3 v4 v5 v6 h r hb; exact u_277_81 d hd k50 K50 (l_277_81 k50 n) ih v0 v1 v2 v3 v4 v5 v6 h r hb
def b_277_78 (k50 : Option Nat → Int32 → Int32 → Hp → Option (Int32 × Hp)) (v0 : Option Nat) (v1 : Int32) (v3 : Int32) (v4 : Int32)  (h : Hp) : Option (Int32 × Hp) :=
  bnd ((nI 0)) fun x1 =>
  l_277_81 k50 FU v0 v1 v3 v4 x1 h
theorem u_277_78 (d : Nat) (hd : 6 ≤ d) (k50 : Option Nat → Int32 → Int32 → Hp → Option (Int32 × Hp)) (K50 : ∀ (v0 : Option Nat) (v1 : Int32) (v2 : Int32) (v3 : Int32) (v4 : Option (Int32)) (v5 : Option (Int32)) (v6 : Option (Int32)) (h : Hp) (r : Int32 × Hp), k50 v0 v1 v3 h = some r → Rn d 277 50 [some (va_rf v0), some (.int v1), some (.int v2), some (.int v3), v4.map Value.int, v5.map Value.int, v6.map Value.int] [] h (some (.int r.1), r.2)) (v0 : Option Nat) (v1 : Int32) (v2 : Int32) (v3 : Int32) (v4 : Int32) (v5 : Option (Int32)) (v6 : Option (Int32))  (h : Hp) (r : Int32 × Hp) (hb : b_277_78 k50 v0 v1 v3 v4  h = some r) : Rn d 277 78 [some (va_rf v0), some (.int v1), some (.int v2), some (.int v3), some (.int v4), v5.map Value.int, v6.map Value.int] [] h (some (.int r.1), r.2) := by
  unfold b_277_78 at hb
  refine rn_iconst (x := (nI 0)) rfl (by decide) ?_
  obtain ⟨x1, ex1, hb⟩ := bnd_spec hb
  refine rn_istore (i := 5) (L1 := [some (va_rf v0), some (.int v1), some (.int v2), some (.int v3), some (.int v4), some (.int x1), v6.map Value.int]) rfl (Nat.le_of_ble_eq_true rfl) (Or.inr rfl) (by rw [ex1]; rfl) ?_
  exact w_277_81 d hd k50 K50 FU v0 v1 v2 v3 v4 x1 v6 h _ hb
def b_277_75 (v4 : Int32)  (h : Hp) : Option (Int32 × Hp) :=
  some (v4, h)
theorem u_277_75 (d : Nat) (hd : 6 ≤ d) (v0 : Option Nat) (v1 : Int32) (v2 : Int32) (v3 : Int32) (v4 : Int32) (v5 : Option (Int32)) (v6 : Option (Int32))  (h : Hp) (r : Int32 × Hp) (hb : b_277_75 v4  h = some r) : Rn d 277 75 [some (va_rf v0), some (.int v1), some (.int v2), some (.int v3), some (.int v4), v5.map Value.int, v6.map Value.int] [] h (some (.int r.1), r.2) := by
  unfold b_277_75 at hb
  refine rn_iload (i := 4) rfl rfl ?_
  obtain rfl := Option.some.inj hb
  exact rn_iret rfl rfl
def b_277_58 (k50 : Option Nat → Int32 → Int32 → Hp → Option (Int32 × Hp)) (v0 : Option Nat) (v1 : Int32) (v3 : Int32)  (h : Hp) : Option (Int32 × Hp) :=
  (gQ 11 50 v0 h).bind fun x1 =>
  (aI 12 x1 v3 h).bind fun x2 =>
  (grd (decide (¬ ((nI 100) : Int32) = 0))).bind fun _ =>
  if ¬ (x2 - x2 / (nI 100) * (nI 100)) = v1 then b_277_78 k50 v0 v1 v3 x2  h else b_277_75 x2  h
theorem u_277_58 (d : Nat) (hd : 6 ≤ d) (k50 : Option Nat → Int32 → Int32 → Hp → Option (Int32 × Hp)) (K50 : ∀ (v0 : Option Nat) (v1 : Int32) (v2 : Int32) (v3 : Int32) (v4 : Option (Int32)) (v5 : Option (Int32)) (v6 : Option (Int32)) (h : Hp) (r : Int32 × Hp), k50 v0 v1 v3 h = some r → Rn d 277 50 [some (va_rf v0), some (.int v1), some (.int v2), some (.int v3), v4.map Value.int, v5.map Value.int, v6.map Value.int] [] h (some (.int r.1), r.2)) (v0 : Option Nat) (v1 : Int32) (v2 : Int32) (v3 : Int32) (v4 : Option (Int32)) (v5 : Option (Int32)) (v6 : Option (Int32))  (h : Hp) (r : Int32 × Hp) (hb : b_277_58 k50 v0 v1 v3  h = some r) : Rn d 277 58 [some (va_rf v0), some (.int v1), some (.int v2), some (.int v3), v4.map Value.int, v5.map Value.int, v6.map Value.int] [] h (some (.int r.1), r.2) := by
  unfold b_277_58 at hb
  refine rn_aload_n (i := 0) rfl rfl ?_
  refine rn_gQ (c := 11) (k := 50) rfl (by decide) hb (fun x1 hb => ?_)
  refine rn_iload_n (i := 3) rfl rfl ?_
  refine rn_aI rfl hb (fun x2 hb => ?_)
  refine rn_istore (i := 4) (L1 := [some (va_rf v0), some (.int v1), some (.int v2), some (.int v3), some (.int x2), v5.map Value.int, v6.map Value.int]) rfl (Nat.le_of_ble_eq_true rfl) (Or.inr rfl) rfl ?_
  refine rn_iload (i := 4) rfl rfl ?_
  refine rn_bipush (x := (nI 100)) rfl (by decide) ?_
  obtain ⟨hy, hb⟩ := grd_spec hb
  refine rn_irem rfl (of_decide_eq_true hy) ?_
  refine rn_iload_n (i := 1) rfl rfl ?_
  refine rn_icmp_ne rfl rfl (fun hc => ?_) (fun hc => ?_)
  · exact u_277_78 d hd k50 K50 v0 v1 v2 v3 x2 v5 v6  h _ (if_t hb hc)
  · exact u_277_75 d hd v0 v1 v2 v3 x2 v5 v6  h _ (if_f hb hc)
def b_277_50 (k50 : Option Nat → Int32 → Int32 → Hp → Option (Int32 × Hp)) (v0 : Option Nat) (v1 : Int32) (v3 : Int32)  (h : Hp) : Option (Int32 × Hp) :=
  (gI 11 55 v0 h).bind fun x1 =>
  if x1 ≤ v3 then b_277_184   h else b_277_58 k50 v0 v1 v3  h
theorem u_277_50 (d : Nat) (hd : 6 ≤ d) (k50 : Option Nat → Int32 → Int32 → Hp → Option (Int32 × Hp)) (K50 : ∀ (v0 : Option Nat) (v1 : Int32) (v2 : Int32) (v3 : Int32) (v4 : Option (Int32)) (v5 : Option (Int32)) (v6 : Option (Int32)) (h : Hp) (r : Int32 × Hp), k50 v0 v1 v3 h = some r → Rn d 277 50 [some (va_rf v0), some (.int v1), some (.int v2), some (.int v3), v4.map Value.int, v5.map Value.int, v6.map Value.int] [] h (some (.int r.1), r.2)) (v0 : Option Nat) (v1 : Int32) (v2 : Int32) (v3 : Int32) (v4 : Option (Int32)) (v5 : Option (Int32)) (v6 : Option (Int32))  (h : Hp) (r : Int32 × Hp) (hb : b_277_50 k50 v0 v1 v3  h = some r) : Rn d 277 50 [some (va_rf v0), some (.int v1), some (.int v2), some (.int v3), v4.map Value.int, v5.map Value.int, v6.map Value.int] [] h (some (.int r.1), r.2) := by
  unfold b_277_50 at hb
  refine rn_iload_n (i := 3) rfl rfl ?_
  refine rn_aload_n (i := 0) rfl rfl ?_
  refine rn_gI (c := 11) (k := 55) rfl (by decide) hb (fun x1 hb => ?_)
  refine rn_icmp_ge rfl rfl (fun hc => ?_) (fun hc => ?_)
  · exact u_277_184 d hd v0 v1 v2 v3 v4 v5 v6  h _ (if_t hb hc)
  · exact u_277_58 d hd k50 K50 v0 v1 v2 v3 v4 v5 v6  h _ (if_f hb hc)
def l_277_50 : Nat → Option Nat → Int32 → Int32 → Hp → Option (Int32 × Hp)
  | 0, _, _, _, _ => none
  | n + 1, v0, v1, v3, h => b_277_50 (l_277_50 n) v0 v1 v3 h
theorem w_277_50 (d : Nat) (hd : 6 ≤ d) : ∀ (n : Nat) (v0 : Option Nat) (v1 : Int32) (v2 : Int32) (v3 : Int32) (v4 : Option (Int32)) (v5 : Option (Int32)) (v6 : Option (Int32)) (h : Hp) (r : Int32 × Hp), l_277_50 n v0 v1 v3 h = some r → Rn d 277 50 [some (va_rf v0), some (.int v1), some (.int v2), some (.int v3), v4.map Value.int, v5.map Value.int, v6.map Value.int] [] h (some (.int r.1), r.2) := by
  intro n
  induction n with
  | zero => intro v0 v1 v2 v3 v4 v5 v6 h r hb; cases hb
  | succ n ih => intro v0 v1 v2 v3 v4 v5 v6 h r hb; exact u_277_50 d hd (l_277_50 n) ih v0 v1 v2 v3 v4 v5 v6 h r hb
def b_277_23 (v0 : Option Nat) (v1 : Int32)  (h : Hp) : Option (Int32 × Hp) :=
  (grd (rC 11 v0 h)).bind fun _ =>
  (f_275 v0 h).bind fun p1 =>
  bnd (p1.1) fun x2 =>
  (gQ 11 50 v0 p1.2).bind fun x3 =>
  (wI x3 (nI 0) x2 p1.2).bind fun h4 =>
  (pI 11 55 v0 (nI 1) h4).bind fun h5 =>
  (gQ 11 52 v0 h5).bind fun x6 =>
  (wI x6 x2 (-4 : Int32) h5).bind fun h7 =>
  bnd ((nI 0)) fun x8 =>
  l_277_50 FU v0 v1 x8 h7
theorem u_277_23 (d : Nat) (hd : 6 ≤ d) (v0 : Option Nat) (v1 : Int32) (v2 : Int32)  (h : Hp) (r : Int32 × Hp) (hb : b_277_23 v0 v1  h = some r) : Rn d 277 23 [some (va_rf v0), some (.int v1), some (.int v2), none, none, none, none] [] h (some (.int r.1), r.2) := by
  unfold b_277_23 at hb
  obtain ⟨e, rfl⟩ : ∃ e, d = e + 1 := ⟨d - 1, by omega⟩
  refine rn_aload_n (i := 0) rfl rfl ?_
  obtain ⟨hrc, hb⟩ := grd_spec hb
  obtain ⟨p1, hc, hb⟩ := Option.bind_eq_some_iff.mp hb
  refine Rn.call1 (d := e) (As := [va_rf v0]) (rest := []) rfl rfl rfl (by decide) rfl rfl rfl (bd_rcV hrc rfl) (by decide) (bd_lenC (n := 3) rfl (bd_slR bd_slN) rfl) (bd_locC (n := 3) rfl (bd_slR bd_slN) rfl (t_275 e (by omega) v0 h _ hc)) ?_
  obtain ⟨x2, ex2, hb⟩ := bnd_spec hb
  refine rn_istore_n (i := 2) (L1 := [some (va_rf v0), some (.int v1), some (.int x2), none, none, none, none]) rfl (Nat.le_of_ble_eq_true rfl) (Or.inr rfl) (by rw [ex2]; rfl) ?_
  refine rn_aload_n (i := 0) rfl rfl ?_
  refine rn_gQ (c := 11) (k := 50) rfl (by decide) hb (fun x3 hb => ?_)
  refine rn_iconst (x := (nI 0)) rfl (by decide) ?_
  refine rn_iload_n (i := 2) rfl rfl ?_
  refine rn_wI rfl hb (fun h4 hb => ?_)
  refine rn_aload_n (i := 0) rfl rfl ?_
  refine rn_iconst (x := (nI 1)) rfl (by decide) ?_
  refine rn_pI (c := 11) (k := 55) rfl (by decide) hb (fun h5 hb => ?_)
  refine rn_aload_n (i := 0) rfl rfl ?_
  refine rn_gQ (c := 11) (k := 52) rfl (by decide) hb (fun x6 hb => ?_)
  refine rn_iload_n (i := 2) rfl rfl ?_
  refine rn_bipush (x := (-4 : Int32)) rfl (by decide) ?_
  refine rn_wI rfl hb (fun h7 hb => ?_)
  refine rn_iconst (x := (nI 0)) rfl (by decide) ?_
  obtain ⟨x8, ex8, hb⟩ := bnd_spec hb
  refine rn_istore_n (i := 3) (L1 := [some (va_rf v0), some (.int v1), some (.int x2), some (.int x8), none, none, none]) rfl (Nat.le_of_ble_eq_true rfl) (Or.inr rfl) (by rw [ex8]; rfl) ?_
  exact w_277_50 (e + 1) hd FU v0 v1 x2 x8 (none : Option (Int32)) (none : Option (Int32)) (none : Option (Int32)) h7 _ hb
def b_277_9 (k2 : Option Nat → Int32 → Int32 → Hp → Option (Int32 × Hp)) (v0 : Option Nat) (v1 : Int32) (v2 : Int32)  (h : Hp) : Option (Int32 × Hp) :=
  (gQ 11 52 v0 h).bind fun x1 =>
  (wI x1 v2 (-5 : Int32) h).bind fun h2 =>
  bnd (v2 + (nI 1)) fun x3 =>
  k2 v0 v1 x3 h2
theorem u_277_9 (d : Nat) (hd : 6 ≤ d) (k2 : Option Nat → Int32 → Int32 → Hp → Option (Int32 × Hp)) (K2 : ∀ (v0 : Option Nat) (v1 : Int32) (v2 : Int32) (h : Hp) (r : Int32 × Hp), k2 v0 v1 v2 h = some r → Rn d 277 2 [some (va_rf v0), some (.int v1), some (.int v2), none, none, none, none] [] h (some (.int r.1), r.2)) (v0 : Option Nat) (v1 : Int32) (v2 : Int32)  (h : Hp) (r : Int32 × Hp) (hb : b_277_9 k2 v0 v1 v2  h = some r) : Rn d 277 9 [some (va_rf v0), some (.int v1), some (.int v2), none, none, none, none] [] h (some (.int r.1), r.2) := by
  unfold b_277_9 at hb
  refine rn_aload_n (i := 0) rfl rfl ?_
  refine rn_gQ (c := 11) (k := 52) rfl (by decide) hb (fun x1 hb => ?_)
  refine rn_iload_n (i := 2) rfl rfl ?_
  refine rn_bipush (x := (-5 : Int32)) rfl (by decide) ?_
  refine rn_wI rfl hb (fun h2 hb => ?_)
  obtain ⟨x3, ex3, hb⟩ := bnd_spec hb
  refine rn_iinc (i := 2) (y := x3) (L1 := [some (va_rf v0), some (.int v1), some (.int x3), none, none, none, none]) rfl rfl (Nat.le_of_ble_eq_true rfl) (Or.inr rfl) (by rw [ex3]; rfl) rfl ?_
  refine rn_goto rfl rfl ?_
  exact K2 v0 v1 x3 h2 _ hb
def b_277_2 (k2 : Option Nat → Int32 → Int32 → Hp → Option (Int32 × Hp)) (v0 : Option Nat) (v1 : Int32) (v2 : Int32)  (h : Hp) : Option (Int32 × Hp) :=
  if (nI 24300) ≤ v2 then b_277_23 v0 v1  h else b_277_9 k2 v0 v1 v2  h
theorem u_277_2 (d : Nat) (hd : 6 ≤ d) (k2 : Option Nat → Int32 → Int32 → Hp → Option (Int32 × Hp)) (K2 : ∀ (v0 : Option Nat) (v1 : Int32) (v2 : Int32) (h : Hp) (r : Int32 × Hp), k2 v0 v1 v2 h = some r → Rn d 277 2 [some (va_rf v0), some (.int v1), some (.int v2), none, none, none, none] [] h (some (.int r.1), r.2)) (v0 : Option Nat) (v1 : Int32) (v2 : Int32)  (h : Hp) (r : Int32 × Hp) (hb : b_277_2 k2 v0 v1 v2  h = some r) : Rn d 277 2 [some (va_rf v0), some (.int v1), some (.int v2), none, none, none, none] [] h (some (.int r.1), r.2) := by
  unfold b_277_2 at hb
  refine rn_iload_n (i := 2) rfl rfl ?_
  refine rn_sipush (x := (nI 24300)) rfl (by decide) ?_
  refine rn_icmp_ge rfl rfl (fun hc => ?_) (fun hc => ?_)
  · exact u_277_23 d hd v0 v1 v2  h _ (if_t hb hc)
  · exact u_277_9 d hd k2 K2 v0 v1 v2  h _ (if_f hb hc)
def l_277_2 : Nat → Option Nat → Int32 → Int32 → Hp → Option (Int32 × Hp)
  | 0, _, _, _, _ => none
  | n + 1, v0, v1, v2, h => b_277_2 (l_277_2 n) v0 v1 v2 h
theorem w_277_2 (d : Nat) (hd : 6 ≤ d) : ∀ (n : Nat) (v0 : Option Nat) (v1 : Int32) (v2 : Int32) (h : Hp) (r : Int32 × Hp), l_277_2 n v0 v1 v2 h = some r → Rn d 277 2 [some (va_rf v0), some (.int v1), some (.int v2), none, none, none, none] [] h (some (.int r.1), r.2) := by
  intro n
  induction n with
  | zero => intro v0 v1 v2 h r hb; cases hb
  | succ n ih => intro v0 v1 v2 h r hb; exact u_277_2 d hd (l_277_2 n) ih v0 v1 v2 h r hb
def b_277_0 (v0 : Option Nat) (v1 : Int32)  (h : Hp) : Option (Int32 × Hp) :=
  bnd ((nI 0)) fun x1 =>
  l_277_2 FU v0 v1 x1 h
theorem u_277_0 (d : Nat) (hd : 6 ≤ d) (v0 : Option Nat) (v1 : Int32)  (h : Hp) (r : Int32 × Hp) (hb : b_277_0 v0 v1  h = some r) : Rn d 277 0 [some (va_rf v0), some (.int v1), none, none, none, none, none] [] h (some (.int r.1), r.2) := by
  unfold b_277_0 at hb
  refine rn_iconst (x := (nI 0)) rfl (by decide) ?_
  obtain ⟨x1, ex1, hb⟩ := bnd_spec hb
  refine rn_istore_n (i := 2) (L1 := [some (va_rf v0), some (.int v1), some (.int x1), none, none, none, none]) rfl (Nat.le_of_ble_eq_true rfl) (Or.inr rfl) (by rw [ex1]; rfl) ?_
  exact w_277_2 d hd FU v0 v1 x1 h _ hb
/-- BitingDoorsModel.search(I)I -/
def f_277 (v0 : Option Nat) (v1 : Int32) (h : Hp) : Option (Int32 × Hp) := b_277_0 v0 v1 h
theorem t_277 (d : Nat) (hd : 6 ≤ d) (v0 : Option Nat) (v1 : Int32) (h : Hp) (r : Int32 × Hp) (hb : f_277 v0 v1 h = some r) : Rn d 277 0 [some (va_rf v0), some (.int v1), none, none, none, none, none] [] h (some (.int r.1), r.2) := by
  unfold f_277 at hb
  exact u_277_0 d hd v0 v1 h r hb
def b_278_97 (v3 : Int32)  (h : Hp) : Option (Int32 × Hp) :=
  some (v3, h)
theorem u_278_97 (d : Nat) (hd : 7 ≤ d) (v0 : Option Nat) (v1 : Int32) (v2 : Int32) (v3 : Int32) (v4 : Int32) (v5 : Int32)  (h : Hp) (r : Int32 × Hp) (hb : b_278_97 v3  h = some r) : Rn d 278 97 [some (va_rf v0), some (.int v1), some (.int v2), some (.int v3), some (.int v4), some (.int v5)] [] h (some (.int r.1), r.2) := by
  unfold b_278_97 at hb
  refine rn_iload_n (i := 3) rfl rfl ?_
  obtain rfl := Option.some.inj hb
  exact rn_iret rfl rfl
def b_278_68 (k58 : Option Nat → Int32 → Int32 → Int32 → Hp → Option (Int32 × Hp)) (v0 : Option Nat) (v3 : Int32) (v4 : Int32) (v5 : Int32)  (h : Hp) : Option (Int32 × Hp) :=
  bnd (v4 + (-1 : Int32)) fun x1 =>
  (gQ 11 53 v0 h).bind fun x2 =>
  (gQ 11 52 v0 h).bind fun x3 =>
  (aI 12 x3 v5 h).bind fun x4 =>
  (wI x2 x1 x4 h).bind fun h5 =>
  (gQ 11 51 v0 h5).bind fun x6 =>
  (aI 12 x6 v5 h5).bind fun x7 =>
  k58 v0 v3 x1 x7 h5
theorem u_278_68 (d : Nat) (hd : 7 ≤ d) (k58 : Option Nat → Int32 → Int32 → Int32 → Hp → Option (Int32 × Hp)) (K58 : ∀ (v0 : Option Nat) (v1 : Int32) (v2 : Int32) (v3 : Int32) (v4 : Int32) (v5 : Int32) (h : Hp) (r : Int32 × Hp), k58 v0 v3 v4 v5 h = some r → Rn d 278 58 [some (va_rf v0), some (.int v1), some (.int v2), some (.int v3), some (.int v4), some (.int v5)] [] h (some (.int r.1), r.2)) (v0 : Option Nat) (v1 : Int32) (v2 : Int32) (v3 : Int32) (v4 : Int32) (v5 : Int32)  (h : Hp) (r : Int32 × Hp) (hb : b_278_68 k58 v0 v3 v4 v5  h = some r) : Rn d 278 68 [some (va_rf v0), some (.int v1), some (.int v2), some (.int v3), some (.int v4), some (.int v5)] [] h (some (.int r.1), r.2) := by
  unfold b_278_68 at hb
  obtain ⟨x1, ex1, hb⟩ := bnd_spec hb
  refine rn_iinc (i := 4) (y := x1) (L1 := [some (va_rf v0), some (.int v1), some (.int v2), some (.int v3), some (.int x1), some (.int v5)]) rfl rfl (Nat.le_of_ble_eq_true rfl) (Or.inr rfl) (by rw [ex1]; rfl) rfl ?_
  refine rn_aload_n (i := 0) rfl rfl ?_
  refine rn_gQ (c := 11) (k := 53) rfl (by decide) hb (fun x2 hb => ?_)
  refine rn_iload (i := 4) rfl rfl ?_
  refine rn_aload_n (i := 0) rfl rfl ?_
  refine rn_gQ (c := 11) (k := 52) rfl (by decide) hb (fun x3 hb => ?_)
  refine rn_iload (i := 5) rfl rfl ?_
  refine rn_aI rfl hb (fun x4 hb => ?_)
  refine rn_wI rfl hb (fun h5 hb => ?_)
  refine rn_aload_n (i := 0) rfl rfl ?_
  refine rn_gQ (c := 11) (k := 51) rfl (by decide) hb (fun x6 hb => ?_)
  refine rn_iload (i := 5) rfl rfl ?_
  refine rn_aI rfl hb (fun x7 hb => ?_)
  refine rn_istore (i := 5) (L1 := [some (va_rf v0), some (.int v1), some (.int v2), some (.int v3), some (.int x1), some (.int x7)]) rfl (Nat.le_of_ble_eq_true rfl) (Or.inr rfl) rfl ?_
  refine rn_goto rfl rfl ?_
  exact K58 v0 v1 v2 v3 x1 x7 h5 _ hb
def b_278_58 (k58 : Option Nat → Int32 → Int32 → Int32 → Hp → Option (Int32 × Hp)) (v0 : Option Nat) (v3 : Int32) (v4 : Int32) (v5 : Int32)  (h : Hp) : Option (Int32 × Hp) :=
  (gQ 11 52 v0 h).bind fun x1 =>
  (aI 12 x1 v5 h).bind fun x2 =>
  if x2 < 0 then b_278_97 v3  h else b_278_68 k58 v0 v3 v4 v5  h
theorem u_278_58 (d : Nat) (hd : 7 ≤ d) (k58 : Option Nat → Int32 → Int32 → Int32 → Hp → Option (Int32 × Hp)) (K58 : ∀ (v0 : Option Nat) (v1 : Int32) (v2 : Int32) (v3 : Int32) (v4 : Int32) (v5 : Int32) (h : Hp) (r : Int32 × Hp), k58 v0 v3 v4 v5 h = some r → Rn d 278 58 [some (va_rf v0), some (.int v1), some (.int v2), some (.int v3), some (.int v4), some (.int v5)] [] h (some (.int r.1), r.2)) (v0 : Option Nat) (v1 : Int32) (v2 : Int32) (v3 : Int32) (v4 : Int32) (v5 : Int32)  (h : Hp) (r : Int32 × Hp) (hb : b_278_58 k58 v0 v3 v4 v5  h = some r) : Rn d 278 58 [some (va_rf v0), some (.int v1), some (.int v2), some (.int v3), some (.int v4), some (.int v5)] [] h (some (.int r.1), r.2) := by
  unfold b_278_58 at hb
  refine rn_aload_n (i := 0) rfl rfl ?_
  refine rn_gQ (c := 11) (k := 52) rfl (by decide) hb (fun x1 hb => ?_)
  refine rn_iload (i := 5) rfl rfl ?_
  refine rn_aI rfl hb (fun x2 hb => ?_)
  refine rn_if_lt rfl rfl (fun hc => ?_) (fun hc => ?_)
  · exact u_278_97 d hd v0 v1 v2 v3 v4 v5  h _ (if_t hb hc)
  · exact u_278_68 d hd k58 K58 v0 v1 v2 v3 v4 v5  h _ (if_f hb hc)
def l_278_58 : Nat → Option Nat → Int32 → Int32 → Int32 → Hp → Option (Int32 × Hp)
  | 0, _, _, _, _, _ => none
  | n + 1, v0, v3, v4, v5, h => b_278_58 (l_278_58 n) v0 v3 v4 v5 h
theorem w_278_58 (d : Nat) (hd : 7 ≤ d) : ∀ (n : Nat) (v0 : Option Nat) (v1 : Int32) (v2 : Int32) (v3 : Int32) (v4 : Int32) (v5 : Int32) (h : Hp) (r : Int32 × Hp), l_278_58 n v0 v3 v4 v5 h = some r → Rn d 278 58 [some (va_rf v0), some (.int v1), some (.int v2), some (.int v3), some (.int v4), some (.int v5)] [] h (some (.int r.1), r.2) := by
  intro n
  induction n with
  | zero => intro v0 v1 v2 v3 v4 v5 h r hb; cases hb
  | succ n ih => intro v0 v1 v2 v3 v4 v5 h r hb; exact u_278_58 d hd (l_278_58 n) ih v0 v1 v2 v3 v4 v5 h r hb
def b_278_47 (v0 : Option Nat) (v2 : Int32) (v3 : Int32)  (h : Hp) : Option (Int32 × Hp) :=
  (pI 11 56 v0 v3 h).bind fun h1 =>
  l_278_58 FU v0 v3 v3 v2 h1
theorem u_278_47 (d : Nat) (hd : 7 ≤ d) (v0 : Option Nat) (v1 : Int32) (v2 : Int32) (v3 : Int32) (v4 : Int32)  (h : Hp) (r : Int32 × Hp) (hb : b_278_47 v0 v2 v3  h = some r) : Rn d 278 47 [some (va_rf v0), some (.int v1), some (.int v2), some (.int v3), some (.int v4), none] [] h (some (.int r.1), r.2) := by
  unfold b_278_47 at hb
  refine rn_aload_n (i := 0) rfl rfl ?_
  refine rn_iload_n (i := 3) rfl rfl ?_
  refine rn_pI (c := 11) (k := 56) rfl (by decide) hb (fun h1 hb => ?_)
  refine rn_iload_n (i := 3) rfl rfl ?_
  refine rn_istore (i := 4) (L1 := [some (va_rf v0), some (.int v1), some (.int v2), some (.int v3), some (.int v3), none]) rfl (Nat.le_of_ble_eq_true rfl) (Or.inr rfl) rfl ?_
  refine rn_iload_n (i := 2) rfl rfl ?_
  refine rn_istore (i := 5) (L1 := [some (va_rf v0), some (.int v1), some (.int v2), some (.int v3), some (.int v3), some (.int v2)]) rfl (Nat.le_of_ble_eq_true rfl) (Or.inr rfl) rfl ?_
  exact w_278_58 d hd FU v0 v1 v2 v3 v3 v2 h1 _ hb
def b_278_32 (k22 : Option Nat → Int32 → Int32 → Int32 → Hp → Option (Int32 × Hp)) (v0 : Option Nat) (v2 : Int32) (v3 : Int32) (v4 : Int32)  (h : Hp) : Option (Int32 × Hp) :=
  bnd (v3 + (nI 1)) fun x1 =>
  (gQ 11 51 v0 h).bind fun x2 =>
  (aI 12 x2 v4 h).bind fun x3 =>
  k22 v0 v2 x1 x3 h
theorem u_278_32 (d : Nat) (hd : 7 ≤ d) (k22 : Option Nat → Int32 → Int32 → Int32 → Hp → Option (Int32 × Hp)) (K22 : ∀ (v0 : Option Nat) (v1 : Int32) (v2 : Int32) (v3 : Int32) (v4 : Int32) (h : Hp) (r : Int32 × Hp), k22 v0 v2 v3 v4 h = some r → Rn d 278 22 [some (va_rf v0), some (.int v1), some (.int v2), some (.int v3), some (.int v4), none] [] h (some (.int r.1), r.2)) (v0 : Option Nat) (v1 : Int32) (v2 : Int32) (v3 : Int32) (v4 : Int32)  (h : Hp) (r : Int32 × Hp) (hb : b_278_32 k22 v0 v2 v3 v4  h = some r) : Rn d 278 32 [some (va_rf v0), some (.int v1), some (.int v2), some (.int v3), some (.int v4), none] [] h (some (.int r.1), r.2) := by
  unfold b_278_32 at hb
  obtain ⟨x1, ex1, hb⟩ := bnd_spec hb
  refine rn_iinc (i := 3) (y := x1) (L1 := [some (va_rf v0), some (.int v1), some (.int v2), some (.int x1), some (.int v4), none]) rfl rfl (Nat.le_of_ble_eq_true rfl) (Or.inr rfl) (by rw [ex1]; rfl) rfl ?_
  refine rn_aload_n (i := 0) rfl rfl ?_
  refine rn_gQ (c := 11) (k := 51) rfl (by decide) hb (fun x2 hb => ?_)
  refine rn_iload (i := 4) rfl rfl ?_
  refine rn_aI rfl hb (fun x3 hb => ?_)
  refine rn_istore (i := 4) (L1 := [some (va_rf v0), some (.int v1), some (.int v2), some (.int x1), some (.int x3), none]) rfl (Nat.le_of_ble_eq_true rfl) (Or.inr rfl) rfl ?_
  refine rn_goto rfl rfl ?_
  exact K22 v0 v1 v2 x1 x3 h _ hb
def b_278_22 (k22 : Option Nat → Int32 → Int32 → Int32 → Hp → Option (Int32 × Hp)) (v0 : Option Nat) (v2 : Int32) (v3 : Int32) (v4 : Int32)  (h : Hp) : Option (Int32 × Hp) :=
  (gQ 11 52 v0 h).bind fun x1 =>
  (aI 12 x1 v4 h).bind fun x2 =>
  if x2 < 0 then b_278_47 v0 v2 v3  h else b_278_32 k22 v0 v2 v3 v4  h
theorem u_278_22 (d : Nat) (hd : 7 ≤ d) (k22 : Option Nat → Int32 → Int32 → Int32 → Hp → Option (Int32 × Hp)) (K22 : ∀ (v0 : Option Nat) (v1 : Int32) (v2 : Int32) (v3 : Int32) (v4 : Int32) (h : Hp) (r : Int32 × Hp), k22 v0 v2 v3 v4 h = some r → Rn d 278 22 [some (va_rf v0), some (.int v1), some (.int v2), some (.int v3), some (.int v4), none] [] h (some (.int r.1), r.2)) (v0 : Option Nat) (v1 : Int32) (v2 : Int32) (v3 : Int32) (v4 : Int32)  (h : Hp) (r : Int32 × Hp) (hb : b_278_22 k22 v0 v2 v3 v4  h = some r) : Rn d 278 22 [some (va_rf v0), some (.int v1), some (.int v2), some (.int v3), some (.int v4), none] [] h (some (.int r.1), r.2) := by
  unfold b_278_22 at hb
  refine rn_aload_n (i := 0) rfl rfl ?_
  refine rn_gQ (c := 11) (k := 52) rfl (by decide) hb (fun x1 hb => ?_)
  refine rn_iload (i := 4) rfl rfl ?_
  refine rn_aI rfl hb (fun x2 hb => ?_)
  refine rn_if_lt rfl rfl (fun hc => ?_) (fun hc => ?_)
  · exact u_278_47 d hd v0 v1 v2 v3 v4  h _ (if_t hb hc)
  · exact u_278_32 d hd k22 K22 v0 v1 v2 v3 v4  h _ (if_f hb hc)
def l_278_22 : Nat → Option Nat → Int32 → Int32 → Int32 → Hp → Option (Int32 × Hp)
  | 0, _, _, _, _, _ => none
  | n + 1, v0, v2, v3, v4, h => b_278_22 (l_278_22 n) v0 v2 v3 v4 h
theorem w_278_22 (d : Nat) (hd : 7 ≤ d) : ∀ (n : Nat) (v0 : Option Nat) (v1 : Int32) (v2 : Int32) (v3 : Int32) (v4 : Int32) (h : Hp) (r : Int32 × Hp), l_278_22 n v0 v2 v3 v4 h = some r → Rn d 278 22 [some (va_rf v0), some (.int v1), some (.int v2), some (.int v3), some (.int v4), none] [] h (some (.int r.1), r.2) := by
  intro n
  induction n with
  | zero => intro v0 v1 v2 v3 v4 h r hb; cases hb
  | succ n ih => intro v0 v1 v2 v3 v4 h r hb; exact u_278_22 d hd (l_278_22 n) ih v0 v1 v2 v3 v4 h r hb
def b_278_17 (v0 : Option Nat) (v2 : Int32)  (h : Hp) : Option (Int32 × Hp) :=
  bnd ((nI 0)) fun x1 =>
  l_278_22 FU v0 v2 x1 v2 h
theorem u_278_17 (d : Nat) (hd : 7 ≤ d) (v0 : Option Nat) (v1 : Int32) (v2 : Int32)  (h : Hp) (r : Int32 × Hp) (hb : b_278_17 v0 v2  h = some r) : Rn d 278 17 [some (va_rf v0), some (.int v1), some (.int v2), none, none, none] [] h (some (.int r.1), r.2) := by
  unfold b_278_17 at hb
  refine rn_iconst (x := (nI 0)) rfl (by decide) ?_
  obtain ⟨x1, ex1, hb⟩ := bnd_spec hb
  refine rn_istore_n (i := 3) (L1 := [some (va_rf v0), some (.int v1), some (.int v2), some (.int x1), none, none]) rfl (Nat.le_of_ble_eq_true rfl) (Or.inr rfl) (by rw [ex1]; rfl) ?_
  refine rn_iload_n (i := 2) rfl rfl ?_
  refine rn_istore (i := 4) (L1 := [some (va_rf v0), some (.int v1), some (.int v2), some (.int x1), some (.int v2), none]) rfl (Nat.le_of_ble_eq_true rfl) (Or.inr rfl) rfl ?_
  exact w_278_22 d hd FU v0 v1 v2 x1 v2 h _ hb
def b_278_15   (h : Hp) : Option (Int32 × Hp) :=
  some ((-1 : Int32), h)
theorem u_278_15 (d : Nat) (hd : 7 ≤ d) (v0 : Option Nat) (v1 : Int32) (v2 : Int32)  (h : Hp) (r : Int32 × Hp) (hb : b_278_15   h = some r) : Rn d 278 15 [some (va_rf v0), some (.int v1), some (.int v2), none, none, none] [] h (some (.int r.1), r.2) := by
  unfold b_278_15 at hb
  refine rn_iconst (x := (-1 : Int32)) rfl (by decide) ?_
  obtain rfl := Option.some.inj hb
  exact rn_iret rfl rfl
def b_278_0 (v0 : Option Nat) (v1 : Int32)  (h : Hp) : Option (Int32 × Hp) :=
  (grd (rC 11 v0 h)).bind fun _ =>
  (f_253 v0 h).bind fun p1 =>
  (grd (rC 11 v0 p1)).bind fun _ =>
  (f_277 v0 v1 p1).bind fun p2 =>
  bnd (p2.1) fun x3 =>
  if ¬ x3 = (-1 : Int32) then b_278_17 v0 x3  p2.2 else b_278_15   p2.2
theorem u_278_0 (d : Nat) (hd : 7 ≤ d) (v0 : Option Nat) (v1 : Int32)  (h : Hp) (r : Int32 × Hp) (hb : b_278_0 v0 v1  h = some r) : Rn d 278 0 [some (va_rf v0), some (.int v1), none, none, none, none] [] h (some (.int r.1), r.2) := by
  unfold b_278_0 at hb
  obtain ⟨e, rfl⟩ : ∃ e, d = e + 1 := ⟨d - 1, by omega⟩
  refine rn_aload_n (i := 0) rfl rfl ?_
  obtain ⟨hrc, hb⟩ := grd_spec hb
  obtain ⟨p1, hc, hb⟩ := Option.bind_eq_some_iff.mp hb
  refine Rn.call0 (d := e) (As := [va_rf v0]) (rest := []) rfl rfl rfl (by decide) rfl rfl rfl (bd_rcV hrc rfl) (by decide) (bd_lenC (n := 2) rfl (bd_slR bd_slN) rfl) (bd_locC (n := 2) rfl (bd_slR bd_slN) rfl (t_253 e (by omega) v0 h _ hc)) ?_
  refine rn_aload_n (i := 0) rfl rfl ?_
  refine rn_iload_n (i := 1) rfl rfl ?_
  obtain ⟨hrc, hb⟩ := grd_spec hb
  obtain ⟨p2, hc, hb⟩ := Option.bind_eq_some_iff.mp hb
  refine Rn.call1 (d := e) (As := [va_rf v0, .int v1]) (rest := []) rfl rfl rfl (by decide) rfl rfl rfl (bd_rcV hrc rfl) (by decide) (bd_lenC (n := 7) rfl (bd_slR (bd_slI bd_slN)) rfl) (bd_locC (n := 7) rfl (bd_slR (bd_slI bd_slN)) rfl (t_277 e (by omega) v0 v1 p1 _ hc)) ?_
  obtain ⟨x3, ex3, hb⟩ := bnd_spec hb
  refine rn_istore_n (i := 2) (L1 := [some (va_rf v0), some (.int v1), some (.int x3), none, none, none]) rfl (Nat.le_of_ble_eq_true rfl) (Or.inr rfl) (by rw [ex3]; rfl) ?_
  refine rn_iload_n (i := 2) rfl rfl ?_
  refine rn_iconst (x := (-1 : Int32)) rfl (by decide) ?_
  refine rn_icmp_ne rfl rfl (fun hc => ?_) (fun hc => ?_)
  · exact u_278_17 (e + 1) hd v0 v1 x3  p2.2 _ (if_t hb hc)
  · exact u_278_15 (e + 1) hd v0 v1 x3  p2.2 _ (if_f hb hc)
/-- BitingDoorsModel.findWay(I)I -/
def f_278 (v0 : Option Nat) (v1 : Int32) (h : Hp) : Option (Int32 × Hp) := b_278_0 v0 v1 h
theorem t_278 (d : Nat) (hd : 7 ≤ d) (v0 : Option Nat) (v1 : Int32) (h : Hp) (r : Int32 × Hp) (hb : f_278 v0 v1 h = some r) : Rn d 278 0 [some (va_rf v0), some (.int v1), none, none, none, none] [] h (some (.int r.1), r.2) := by
  unfold f_278 at hb
  exact u_278_0 d hd v0 v1 h r hb
def b_279_38   (h : Hp) : Option (Int32 × Hp) :=
  some ((-2 : Int32), h)
theorem u_279_38 (d : Nat) (hd : 8 ≤ d) (v0 : Option Nat) (v1 : Int32) (v2 : Int32)  (h : Hp) (r : Int32 × Hp) (hb : b_279_38   h = some r) : Rn d 279 38 [some (va_rf v0), some (.int v1), some (.int v2), none, none] [] h (some (.int r.1), r.2) := by
  unfold b_279_38 at hb
  refine rn_bipush (x := (-2 : Int32)) rfl (by decide) ?_
  obtain rfl := Option.some.inj hb
  exact rn_iret rfl rfl
def b_279_93 (v3 : Int32)  (h : Hp) : Option (Int32 × Hp) :=
  some (v3, h)
theorem u_279_93 (d : Nat) (hd : 8 ≤ d) (v0 : Option Nat) (v1 : Int32) (v2 : Int32) (v3 : Int32) (v4 : Int32)  (h : Hp) (r : Int32 × Hp) (hb : b_279_93 v3  h = some r) : Rn d 279 93 [some (va_rf v0), some (.int v1), some (.int v2), some (.int v3), some (.int v4)] [] h (some (.int r.1), r.2) := by
  unfold b_279_93 at hb
  refine rn_iload_n (i := 3) rfl rfl ?_
  obtain rfl := Option.some.inj hb
  exact rn_iret rfl rfl
def b_279_73 (k67 : Option Nat → Int32 → Int32 → Hp → Option (Int32 × Hp)) (v0 : Option Nat) (v3 : Int32) (v4 : Int32)  (h : Hp) : Option (Int32 × Hp) :=
  (gQ 11 54 v0 h).bind fun x1 =>
  (gQ 11 53 v0 h).bind fun x2 =>
  (aI 12 x2 v4 h).bind fun x3 =>
  (wI x1 v4 x3 h).bind fun h4 =>
  bnd (v4 + (nI 1)) fun x5 =>
  k67 v0 v3 x5 h4
theorem u_279_73 (d : Nat) (hd : 8 ≤ d) (k67 : Option Nat → Int32 → Int32 → Hp → Option (Int32 × Hp)) (K67 : ∀ (v0 : Option Nat) (v1 : Int32) (v2 : Int32) (v3 : Int32) (v4 : Int32) (h : Hp) (r : Int32 × Hp), k67 v0 v3 v4 h = some r → Rn d 279 67 [some (va_rf v0), some (.int v1), some (.int v2), some (.int v3), some (.int v4)] [] h (some (.int r.1), r.2)) (v0 : Option Nat) (v1 : Int32) (v2 : Int32) (v3 : Int32) (v4 : Int32)  (h : Hp) (r : Int32 × Hp) (hb : b_279_73 k67 v0 v3 v4  h = some r) : Rn d 279 73 [some (va_rf v0), some (.int v1), some (.int v2), some (.int v3), some (.int v4)] [] h (some (.int r.1), r.2) := by
  unfold b_279_73 at hb
  refine rn_aload_n (i := 0) rfl rfl ?_
  refine rn_gQ (c := 11) (k := 54) rfl (by decide) hb (fun x1 hb => ?_)
  refine rn_iload (i := 4) rfl rfl ?_
  refine rn_aload_n (i := 0) rfl rfl ?_
  refine rn_gQ (c := 11) (k := 53) rfl (by decide) hb (fun x2 hb => ?_)
  refine rn_iload (i := 4) rfl rfl ?_
  refine rn_aI rfl hb (fun x3 hb => ?_)
  refine rn_wI rfl hb (fun h4 hb => ?_)
  obtain ⟨x5, ex5, hb⟩ := bnd_spec hb
  refine rn_iinc (i := 4) (y := x5) (L1 := [some (va_rf v0), some (.int v1), some (.int v2), some (.int v3), some (.int x5)]) rfl rfl (Nat.le_of_ble_eq_true rfl) (Or.inr rfl) (by rw [ex5]; rfl) rfl ?_
  refine rn_goto rfl rfl ?_
  exact K67 v0 v1 v2 v3 x5 h4 _ hb
def b_279_67 (k67 : Option Nat → Int32 → Int32 → Hp → Option (Int32 × Hp)) (v0 : Option Nat) (v3 : Int32) (v4 : Int32)  (h : Hp) : Option (Int32 × Hp) :=
  if v3 ≤ v4 then b_279_93 v3  h else b_279_73 k67 v0 v3 v4  h
theorem u_279_67 (d : Nat) (hd : 8 ≤ d) (k67 : Option Nat → Int32 → Int32 → Hp → Option (Int32 × Hp)) (K67 : ∀ (v0 : Option Nat) (v1 : Int32) (v2 : Int32) (v3 : Int32) (v4 : Int32) (h : Hp) (r : Int32 × Hp), k67 v0 v3 v4 h = some r → Rn d 279 67 [some (va_rf v0), some (.int v1), some (.int v2), some (.int v3), some (.int v4)] [] h (some (.int r.1), r.2)) (v0 : Option Nat) (v1 : Int32) (v2 : Int32) (v3 : Int32) (v4 : Int32)  (h : Hp) (r : Int32 × Hp) (hb : b_279_67 k67 v0 v3 v4  h = some r) : Rn d 279 67 [some (va_rf v0), some (.int v1), some (.int v2), some (.int v3), some (.int v4)] [] h (some (.int r.1), r.2) := by
  unfold b_279_67 at hb
  refine rn_iload (i := 4) rfl rfl ?_
  refine rn_iload_n (i := 3) rfl rfl ?_
  refine rn_icmp_ge rfl rfl (fun hc => ?_) (fun hc => ?_)
  · exact u_279_93 d hd v0 v1 v2 v3 v4  h _ (if_t hb hc)
  · exact u_279_73 d hd k67 K67 v0 v1 v2 v3 v4  h _ (if_f hb hc)
def l_279_67 : Nat → Option Nat → Int32 → Int32 → Hp → Option (Int32 × Hp)
  | 0, _, _, _, _ => none
  | n + 1, v0, v3, v4, h => b_279_67 (l_279_67 n) v0 v3 v4 h
theorem w_279_67 (d : Nat) (hd : 8 ≤ d) : ∀ (n : Nat) (v0 : Option Nat) (v1 : Int32) (v2 : Int32) (v3 : Int32) (v4 : Int32) (h : Hp) (r : Int32 × Hp), l_279_67 n v0 v3 v4 h = some r → Rn d 279 67 [some (va_rf v0), some (.int v1), some (.int v2), some (.int v3), some (.int v4)] [] h (some (.int r.1), r.2) := by
  intro n
  induction n with
  | zero => intro v0 v1 v2 v3 v4 h r hb; cases hb
  | succ n ih => intro v0 v1 v2 v3 v4 h r hb; exact u_279_67 d hd (l_279_67 n) ih v0 v1 v2 v3 v4 h r hb
def b_279_59 (v0 : Option Nat) (v3 : Int32)  (h : Hp) : Option (Int32 × Hp) :=
  (pI 11 57 v0 v3 h).bind fun h1 =>
  bnd ((nI 0)) fun x2 =>
  l_279_67 FU v0 v3 x2 h1
theorem u_279_59 (d : Nat) (hd : 8 ≤ d) (v0 : Option Nat) (v1 : Int32) (v2 : Int32) (v3 : Int32)  (h : Hp) (r : Int32 × Hp) (hb : b_279_59 v0 v3  h = some r) : Rn d 279 59 [some (va_rf v0), some (.int v1), some (.int v2), some (.int v3), none] [] h (some (.int r.1), r.2) := by
  unfold b_279_59 at hb
  refine rn_aload_n (i := 0) rfl rfl ?_
  refine rn_iload_n (i := 3) rfl rfl ?_
  refine rn_pI (c := 11) (k := 57) rfl (by decide) hb (fun h1 hb => ?_)
  refine rn_iconst (x := (nI 0)) rfl (by decide) ?_
  obtain ⟨x2, ex2, hb⟩ := bnd_spec hb
  refine rn_istore (i := 4) (L1 := [some (va_rf v0), some (.int v1), some (.int v2), some (.int v3), some (.int x2)]) rfl (Nat.le_of_ble_eq_true rfl) (Or.inr rfl) (by rw [ex2]; rfl) ?_
  exact w_279_67 d hd FU v0 v1 v2 v3 x2 h1 _ hb
def b_279_57   (h : Hp) : Option (Int32 × Hp) :=
  some ((-1 : Int32), h)
theorem u_279_57 (d : Nat) (hd : 8 ≤ d) (v0 : Option Nat) (v1 : Int32) (v2 : Int32) (v3 : Int32)  (h : Hp) (r : Int32 × Hp) (hb : b_279_57   h = some r) : Rn d 279 57 [some (va_rf v0), some (.int v1), some (.int v2), some (.int v3), none] [] h (some (.int r.1), r.2) := by
  unfold b_279_57 at hb
  refine rn_iconst (x := (-1 : Int32)) rfl (by decide) ?_
  obtain rfl := Option.some.inj hb
  exact rn_iret rfl rfl
def b_279_41 (v0 : Option Nat) (v1 : Int32) (v2 : Int32)  (h : Hp) : Option (Int32 × Hp) :=
  (grd (rC 11 v0 h)).bind fun _ =>
  (f_278 v0 (((nI 10) * v2) + v1) h).bind fun p1 =>
  bnd (p1.1) fun x2 =>
  if ¬ x2 = (-1 : Int32) then b_279_59 v0 x2  p1.2 else b_279_57   p1.2
theorem u_279_41 (d : Nat) (hd : 8 ≤ d) (v0 : Option Nat) (v1 : Int32) (v2 : Int32)  (h : Hp) (r : Int32 × Hp) (hb : b_279_41 v0 v1 v2  h = some r) : Rn d 279 41 [some (va_rf v0), some (.int v1), some (.int v2), none, none] [] h (some (.int r.1), r.2) := by
  unfold b_279_41 at hb
  obtain ⟨e, rfl⟩ : ∃ e, d = e + 1 := ⟨d - 1, by omega⟩
  refine rn_aload_n (i := 0) rfl rfl ?_
  refine rn_bipush (x := (nI 10)) rfl (by decide) ?_
  refine rn_iload_n (i := 2) rfl rfl ?_
  refine rn_imul rfl ?_
  refine rn_iload_n (i := 1) rfl rfl ?_
  refine rn_iadd rfl ?_
  obtain ⟨hrc, hb⟩ := grd_spec hb
  obtain ⟨p1, hc, hb⟩ := Option.bind_eq_some_iff.mp hb
  refine Rn.call1 (d := e) (As := [va_rf v0, .int (((nI 10) * v2) + v1)]) (rest := []) rfl rfl rfl (by decide) rfl rfl rfl (bd_rcV hrc rfl) (by decide) (bd_lenC (n := 6) rfl (bd_slR (bd_slI bd_slN)) rfl) (bd_locC (n := 6) rfl (bd_slR (bd_slI bd_slN)) rfl (t_278 e (by omega) v0 (((nI 10) * v2) + v1) h _ hc)) ?_
  obtain ⟨x2, ex2, hb⟩ := bnd_spec hb
  refine rn_istore_n (i := 3) (L1 := [some (va_rf v0), some (.int v1), some (.int v2), some (.int x2), none]) rfl (Nat.le_of_ble_eq_true rfl) (Or.inr rfl) (by rw [ex2]; rfl) ?_
  refine rn_iload_n (i := 3) rfl rfl ?_
  refine rn_iconst (x := (-1 : Int32)) rfl (by decide) ?_
  refine rn_icmp_ne rfl rfl (fun hc => ?_) (fun hc => ?_)
  · exact u_279_59 (e + 1) hd v0 v1 v2 x2  p1.2 _ (if_t hb hc)
  · exact u_279_57 (e + 1) hd v0 v1 v2 x2  p1.2 _ (if_f hb hc)
def b_279_30 (v0 : Option Nat) (v1 : Int32) (v2 : Int32)  (h : Hp) : Option (Int32 × Hp) :=
  (grd (rC 11 v0 h)).bind fun _ =>
  (f_203 v0 h).bind fun p1 =>
  if p1.1 ≤ (nI 5) then b_279_41 v0 v1 v2  p1.2 else b_279_38   p1.2
theorem u_279_30 (d : Nat) (hd : 8 ≤ d) (v0 : Option Nat) (v1 : Int32) (v2 : Int32)  (h : Hp) (r : Int32 × Hp) (hb : b_279_30 v0 v1 v2  h = some r) : Rn d 279 30 [some (va_rf v0), some (.int v1), some (.int v2), none, none] [] h (some (.int r.1), r.2) := by
  unfold b_279_30 at hb
  obtain ⟨e, rfl⟩ : ∃ e, d = e + 1 := ⟨d - 1, by omega⟩
  refine rn_aload_n (i := 0) rfl rfl ?_
  obtain ⟨hrc, hb⟩ := grd_spec hb
  obtain ⟨p1, hc, hb⟩ := Option.bind_eq_some_iff.mp hb
  refine Rn.call1 (d := e) (As := [va_rf v0]) (rest := []) rfl rfl rfl (by decide) rfl rfl rfl (bd_rcV hrc rfl) (by decide) (bd_lenC (n := 1) rfl (bd_slR bd_slN) rfl) (bd_locC (n := 1) rfl (bd_slR bd_slN) rfl (t_203 e (by omega) v0 h _ hc)) ?_
  refine rn_iconst (x := (nI 5)) rfl (by decide) ?_
  refine rn_icmp_le rfl rfl (fun hc => ?_) (fun hc => ?_)
  · exact u_279_41 (e + 1) hd v0 v1 v2  p1.2 _ (if_t hb hc)
  · exact u_279_38 (e + 1) hd v0 v1 v2  p1.2 _ (if_f hb hc)
def b_279_18 (v0 : Option Nat) (v1 : Int32) (v2 : Int32)  (h : Hp) : Option (Int32 × Hp) :=
  (gQ 11 14 v0 h).bind fun x1 =>
  (aI 12 x1 (nI 340) h).bind fun x2 =>
  if x2 = (-1 : Int32) then b_279_38   h else b_279_30 v0 v1 v2  h
theorem u_279_18 (d : Nat) (hd : 8 ≤ d) (v0 : Option Nat) (v1 : Int32) (v2 : Int32)  (h : Hp) (r : Int32 × Hp) (hb : b_279_18 v0 v1 v2  h = some r) : Rn d 279 18 [some (va_rf v0), some (.int v1), some (.int v2), none, none] [] h (some (.int r.1), r.2) := by
  unfold b_279_18 at hb
  refine rn_aload_n (i := 0) rfl rfl ?_
  refine rn_gQ (c := 11) (k := 14) rfl (by decide) hb (fun x1 hb => ?_)
  refine rn_sipush (x := (nI 340)) rfl (by decide) ?_
  refine rn_aI rfl hb (fun x2 hb => ?_)
  refine rn_iconst (x := (-1 : Int32)) rfl (by decide) ?_
  refine rn_icmp_eq rfl rfl (fun hc => ?_) (fun hc => ?_)
  · exact u_279_38 d hd v0 v1 v2  h _ (if_t hb hc)
  · exact u_279_30 d hd v0 v1 v2  h _ (if_f hb hc)
def b_279_0 (v0 : Option Nat) (v1 : Int32) (v2 : Int32)  (h : Hp) : Option (Int32 × Hp) :=
  (pI 11 0 v0 (nI 0) h).bind fun h1 =>
  (grd (rC 11 v0 h1)).bind fun _ =>
  (f_202 v0 h1).bind fun p2 =>
  (grd (rC 11 v0 p2)).bind fun _ =>
  (f_255 v0 v1 v2 p2).bind fun p3 =>
  if p3.1 = 0 then b_279_38   p3.2 else b_279_18 v0 v1 v2  p3.2
theorem u_279_0 (d : Nat) (hd : 8 ≤ d) (v0 : Option Nat) (v1 : Int32) (v2 : Int32)  (h : Hp) (r : Int32 × Hp) (hb : b_279_0 v0 v1 v2  h = some r) : Rn d 279 0 [some (va_rf v0), some (.int v1), some (.int v2), none, none] [] h (some (.int r.1), r.2) := by
  unfold b_279_0 at hb
  obtain ⟨e, rfl⟩ : ∃ e, d = e + 1 := ⟨d - 1, by omega⟩
  refine rn_aload_n (i := 0) rfl rfl ?_
  refine rn_iconst (x := (nI 0)) rfl (by decide) ?_
  refine rn_pI (c := 11) (k := 0) rfl (by decide) hb (fun h1 hb => ?_)
  refine rn_aload_n (i := 0) rfl rfl ?_
  obtain ⟨hrc, hb⟩ := grd_spec hb
  obtain ⟨p2, hc, hb⟩ := Option.bind_eq_some_iff.mp hb
  refine Rn.call0 (d := e) (As := [va_rf v0]) (rest := []) rfl rfl rfl (by decide) rfl rfl rfl (bd_rcV hrc rfl) (by decide) (bd_lenC (n := 1) rfl (bd_slR bd_slN) rfl) (bd_locC (n := 1) rfl (bd_slR bd_slN) rfl (t_202 e (by omega) v0 h1 _ hc)) ?_
  refine rn_aload_n (i := 0) rfl rfl ?_
  refine rn_iload_n (i := 1) rfl rfl ?_
  refine rn_iload_n (i := 2) rfl rfl ?_
  obtain ⟨hrc, hb⟩ := grd_spec hb
  obtain ⟨p3, hc, hb⟩ := Option.bind_eq_some_iff.mp hb
  refine Rn.call1 (d := e) (As := [va_rf v0, .int v1, .int v2]) (rest := []) rfl rfl rfl (by decide) rfl rfl rfl (bd_rcV hrc rfl) (by decide) (bd_lenC (n := 3) rfl (bd_slR (bd_slI (bd_slI bd_slN))) rfl) (bd_locC (n := 3) rfl (bd_slR (bd_slI (bd_slI bd_slN))) rfl (t_255 e (by omega) v0 v1 v2 p2 _ hc)) ?_
  refine rn_if_eq rfl rfl (fun hc => ?_) (fun hc => ?_)
  · exact u_279_38 (e + 1) hd v0 v1 v2  p3.2 _ (if_t hb hc)
  · exact u_279_18 (e + 1) hd v0 v1 v2  p3.2 _ (if_f hb hc)
/-- BitingDoorsModel.way(II)I -/
def f_279 (v0 : Option Nat) (v1 : Int32) (v2 : Int32) (h : Hp) : Option (Int32 × Hp) := b_279_0 v0 v1 v2 h
theorem t_279 (d : Nat) (hd : 8 ≤ d) (v0 : Option Nat) (v1 : Int32) (v2 : Int32) (h : Hp) (r : Int32 × Hp) (hb : f_279 v0 v1 v2 h = some r) : Rn d 279 0 [some (va_rf v0), some (.int v1), some (.int v2), none, none] [] h (some (.int r.1), r.2) := by
  unfold f_279 at hb
  exact u_279_0 d hd v0 v1 v2 h r hb
def b_280_27  (s0 : Int32) (h : Hp) : Option (Int32 × Hp) :=
  some (s0, h)
theorem u_280_27 (d : Nat) (hd : 0 ≤ d) (v0 : Option Nat) (v1 : Int32) (s0 : Int32) (h : Hp) (r : Int32 × Hp) (hb : b_280_27  s0 h = some r) : Rn d 280 27 [some (va_rf v0), some (.int v1)] [.int s0] h (some (.int r.1), r.2) := by
  unfold b_280_27 at hb
  obtain rfl := Option.some.inj hb
  exact rn_iret rfl rfl
def b_280_26   (h : Hp) : Option (Int32 × Hp) :=
  b_280_27  (-1 : Int32) h
theorem u_280_26 (d : Nat) (hd : 0 ≤ d) (v0 : Option Nat) (v1 : Int32)  (h : Hp) (r : Int32 × Hp) (hb : b_280_26   h = some r) : Rn d 280 26 [some (va_rf v0), some (.int v1)] [] h (some (.int r.1), r.2) := by
  unfold b_280_26 at hb
  refine rn_iconst (x := (-1 : Int32)) rfl (by decide) ?_
  exact u_280_27 d hd v0 v1 (-1 : Int32) h _ hb
def b_280_17 (v0 : Option Nat) (v1 : Int32)  (h : Hp) : Option (Int32 × Hp) :=
  (gQ 11 54 v0 h).bind fun x1 =>
  (aI 12 x1 v1 h).bind fun x2 =>
  b_280_27  x2 h
theorem u_280_17 (d : Nat) (hd : 0 ≤ d) (v0 : Option Nat) (v1 : Int32)  (h : Hp) (r : Int32 × Hp) (hb : b_280_17 v0 v1  h = some r) : Rn d 280 17 [some (va_rf v0), some (.int v1)] [] h (some (.int r.1), r.2) := by
  unfold b_280_17 at hb
  refine rn_aload_n (i := 0) rfl rfl ?_
  refine rn_gQ (c := 11) (k := 54) rfl (by decide) hb (fun x1 hb => ?_)
  refine rn_iload_n (i := 1) rfl rfl ?_
  refine rn_aI rfl hb (fun x2 hb => ?_)
  refine rn_goto rfl rfl ?_
  exact u_280_27 d hd v0 v1 x2 h _ hb
def b_280_9 (v0 : Option Nat) (v1 : Int32)  (h : Hp) : Option (Int32 × Hp) :=
  (gI 11 57 v0 h).bind fun x1 =>
  if x1 ≤ v1 then b_280_26   h else b_280_17 v0 v1  h
theorem u_280_9 (d : Nat) (hd : 0 ≤ d) (v0 : Option Nat) (v1 : Int32)  (h : Hp) (r : Int32 × Hp) (hb : b_280_9 v0 v1  h = some r) : Rn d 280 9 [some (va_rf v0), some (.int v1)] [] h (some (.int r.1), r.2) := by
  unfold b_280_9 at hb
  refine rn_iload_n (i := 1) rfl rfl ?_
  refine rn_aload_n (i := 0) rfl rfl ?_
  refine rn_gI (c := 11) (k := 57) rfl (by decide) hb (fun x1 hb => ?_)
  refine rn_icmp_ge rfl rfl (fun hc => ?_) (fun hc => ?_)
  · exact u_280_26 d hd v0 v1  h _ (if_t hb hc)
  · exact u_280_17 d hd v0 v1  h _ (if_f hb hc)
def b_280_0 (v0 : Option Nat) (v1 : Int32)  (h : Hp) : Option (Int32 × Hp) :=
  (pI 11 0 v0 (nI 0) h).bind fun h1 =>
  if v1 < 0 then b_280_26   h1 else b_280_9 v0 v1  h1
theorem u_280_0 (d : Nat) (hd : 0 ≤ d) (v0 : Option Nat) (v1 : Int32)  (h : Hp) (r : Int32 × Hp) (hb : b_280_0 v0 v1  h = some r) : Rn d 280 0 [some (va_rf v0), some (.int v1)] [] h (some (.int r.1), r.2) := by
  unfold b_280_0 at hb
  refine rn_aload_n (i := 0) rfl rfl ?_
  refine rn_iconst (x := (nI 0)) rfl (by decide) ?_
  refine rn_pI (c := 11) (k := 0) rfl (by decide) hb (fun h1 hb => ?_)
  refine rn_iload_n (i := 1) rfl rfl ?_
  refine rn_if_lt rfl rfl (fun hc => ?_) (fun hc => ?_)
  · exact u_280_26 d hd v0 v1  h1 _ (if_t hb hc)
  · exact u_280_9 d hd v0 v1  h1 _ (if_f hb hc)
/-- BitingDoorsModel.wayAt(I)I -/
def f_280 (v0 : Option Nat) (v1 : Int32) (h : Hp) : Option (Int32 × Hp) := b_280_0 v0 v1 h
theorem t_280 (d : Nat) (hd : 0 ≤ d) (v0 : Option Nat) (v1 : Int32) (h : Hp) (r : Int32 × Hp) (hb : f_280 v0 v1 h = some r) : Rn d 280 0 [some (va_rf v0), some (.int v1)] [] h (some (.int r.1), r.2) := by
  unfold f_280 at hb
  exact u_280_0 d hd v0 v1 h r hb
def b_281_51 (v0 : Option Nat) (v1 : Int32)  (h : Hp) : Option (Int32 × Hp) :=
  (grd (rC 11 v0 h)).bind fun _ =>
  (f_254 v0 h).bind fun p1 =>
  (gI 11 23 v0 p1).bind fun x2 =>
  (pI 11 23 v0 (x2 + v1) p1).bind fun h3 =>
  some (v1, h3)
theorem u_281_51 (d : Nat) (hd : 6 ≤ d) (v0 : Option Nat) (v1 : Int32)  (h : Hp) (r : Int32 × Hp) (hb : b_281_51 v0 v1  h = some r) : Rn d 281 51 [some (va_rf v0), some (.int v1)] [] h (some (.int r.1), r.2) := by
  unfold b_281_51 at hb
  obtain ⟨e, rfl⟩ : ∃ e, d = e + 1 := ⟨d - 1, by omega⟩
  refine rn_aload_n (i := 0) rfl rfl ?_
  obtain ⟨hrc, hb⟩ := grd_spec hb
  obtain ⟨p1, hc, hb⟩ := Option.bind_eq_some_iff.mp hb
  refine Rn.call0 (d := e) (As := [va_rf v0]) (rest := []) rfl rfl rfl (by decide) rfl rfl rfl (bd_rcV hrc rfl) (by decide) (bd_lenC (n := 2) rfl (bd_slR bd_slN) rfl) (bd_locC (n := 2) rfl (bd_slR bd_slN) rfl (t_254 e (by omega) v0 h _ hc)) ?_
  refine rn_aload_n (i := 0) rfl rfl ?_
  refine rn_dup rfl (bd_cat_rf _) ?_
  refine rn_gI (c := 11) (k := 23) rfl (by decide) hb (fun x2 hb => ?_)
  refine rn_iload_n (i := 1) rfl rfl ?_
  refine rn_iadd rfl ?_
  refine rn_pI (c := 11) (k := 23) rfl (by decide) hb (fun h3 hb => ?_)
  refine rn_iload_n (i := 1) rfl rfl ?_
  obtain rfl := Option.some.inj hb
  exact rn_iret rfl rfl
def b_281_45 (k11 : Option Nat → Int32 → Hp → Option (Int32 × Hp)) (v0 : Option Nat) (v1 : Int32)  (h : Hp) : Option (Int32 × Hp) :=
  bnd (v1 + (nI 1)) fun x1 =>
  k11 v0 x1 h
theorem u_281_45 (d : Nat) (hd : 6 ≤ d) (k11 : Option Nat → Int32 → Hp → Option (Int32 × Hp)) (K11 : ∀ (v0 : Option Nat) (v1 : Int32) (h : Hp) (r : Int32 × Hp), k11 v0 v1 h = some r → Rn d 281 11 [some (va_rf v0), some (.int v1)] [] h (some (.int r.1), r.2)) (v0 : Option Nat) (v1 : Int32)  (h : Hp) (r : Int32 × Hp) (hb : b_281_45 k11 v0 v1  h = some r) : Rn d 281 45 [some (va_rf v0), some (.int v1)] [] h (some (.int r.1), r.2) := by
  unfold b_281_45 at hb
  obtain ⟨x1, ex1, hb⟩ := bnd_spec hb
  refine rn_iinc (i := 1) (y := x1) (L1 := [some (va_rf v0), some (.int x1)]) rfl rfl (Nat.le_of_ble_eq_true rfl) (Or.inr (bd_wideR rfl)) (by rw [ex1]; rfl) rfl ?_
  refine rn_goto rfl rfl ?_
  exact K11 v0 x1 h _ hb
def b_281_32 (k11 : Option Nat → Int32 → Hp → Option (Int32 × Hp)) (v0 : Option Nat) (v1 : Int32)  (h : Hp) : Option (Int32 × Hp) :=
  (gQ 11 54 v0 h).bind fun x1 =>
  (aI 12 x1 v1 h).bind fun x2 =>
  (grd (rC 11 v0 h)).bind fun _ =>
  (f_261 v0 x2 h).bind fun p3 =>
  if ¬ p3.1 = 0 then b_281_51 v0 v1  p3.2 else b_281_45 k11 v0 v1  p3.2
theorem u_281_32 (d : Nat) (hd : 6 ≤ d) (k11 : Option Nat → Int32 → Hp → Option (Int32 × Hp)) (K11 : ∀ (v0 : Option Nat) (v1 : Int32) (h : Hp) (r : Int32 × Hp), k11 v0 v1 h = some r → Rn d 281 11 [some (va_rf v0), some (.int v1)] [] h (some (.int r.1), r.2)) (v0 : Option Nat) (v1 : Int32)  (h : Hp) (r : Int32 × Hp) (hb : b_281_32 k11 v0 v1  h = some r) : Rn d 281 32 [some (va_rf v0), some (.int v1)] [] h (some (.int r.1), r.2) := by
  unfold b_281_32 at hb
  obtain ⟨e, rfl⟩ : ∃ e, d = e + 1 := ⟨d - 1, by omega⟩
  refine rn_aload_n (i := 0) rfl rfl ?_
  refine rn_aload_n (i := 0) rfl rfl ?_
  refine rn_gQ (c := 11) (k := 54) rfl (by decide) hb (fun x1 hb => ?_)
  refine rn_iload_n (i := 1) rfl rfl ?_
  refine rn_aI rfl hb (fun x2 hb => ?_)
  obtain ⟨hrc, hb⟩ := grd_spec hb
  obtain ⟨p3, hc, hb⟩ := Option.bind_eq_some_iff.mp hb
  refine Rn.call1 (d := e) (As := [va_rf v0, .int x2]) (rest := []) rfl rfl rfl (by decide) rfl rfl rfl (bd_rcV hrc rfl) (by decide) (bd_lenC (n := 3) rfl (bd_slR (bd_slI bd_slN)) rfl) (bd_locC (n := 3) rfl (bd_slR (bd_slI bd_slN)) rfl (t_261 e (by omega) v0 x2 h _ hc)) ?_
  refine rn_if_ne rfl rfl (fun hc => ?_) (fun hc => ?_)
  · exact u_281_51 (e + 1) hd v0 v1  p3.2 _ (if_t hb hc)
  · exact u_281_45 (e + 1) hd k11 K11 v0 v1  p3.2 _ (if_f hb hc)
def b_281_19 (k11 : Option Nat → Int32 → Hp → Option (Int32 × Hp)) (v0 : Option Nat) (v1 : Int32)  (h : Hp) : Option (Int32 × Hp) :=
  (gQ 11 54 v0 h).bind fun x1 =>
  (aI 12 x1 v1 h).bind fun x2 =>
  (grd (rC 11 v0 h)).bind fun _ =>
  (f_264 v0 x2 h).bind fun p3 =>
  if p3.1 = 0 then b_281_51 v0 v1  p3.2 else b_281_32 k11 v0 v1  p3.2
theorem u_281_19 (d : Nat) (hd : 6 ≤ d) (k11 : Option Nat → Int32 → Hp → Option (Int32 × Hp)) (K11 : ∀ (v0 : Option Nat) (v1 : Int32) (h : Hp) (r : Int32 × Hp), k11 v0 v1 h = some r → Rn d 281 11 [some (va_rf v0), some (.int v1)] [] h (some (.int r.1), r.2)) (v0 : Option Nat) (v1 : Int32)  (h : Hp) (r : Int32 × Hp) (hb : b_281_19 k11 v0 v1  h = some r) : Rn d 281 19 [some (va_rf v0), some (.int v1)] [] h (some (.int r.1), r.2) := by
  unfold b_281_19 at hb
  obtain ⟨e, rfl⟩ : ∃ e, d = e + 1 := ⟨d - 1, by omega⟩
  refine rn_aload_n (i := 0) rfl rfl ?_
  refine rn_aload_n (i := 0) rfl rfl ?_
  refine rn_gQ (c := 11) (k := 54) rfl (by decide) hb (fun x1 hb => ?_)
  refine rn_iload_n (i := 1) rfl rfl ?_
  refine rn_aI rfl hb (fun x2 hb => ?_)
  obtain ⟨hrc, hb⟩ := grd_spec hb
  obtain ⟨p3, hc, hb⟩ := Option.bind_eq_some_iff.mp hb
  refine Rn.call1 (d := e) (As := [va_rf v0, .int x2]) (rest := []) rfl rfl rfl (by decide) rfl rfl rfl (bd_rcV hrc rfl) (by decide) (bd_lenC (n := 2) rfl (bd_slR (bd_slI bd_slN)) rfl) (bd_locC (n := 2) rfl (bd_slR (bd_slI bd_slN)) rfl (t_264 e (by omega) v0 x2 h _ hc)) ?_
  refine rn_if_eq rfl rfl (fun hc => ?_) (fun hc => ?_)
  · exact u_281_51 (e + 1) hd v0 v1  p3.2 _ (if_t hb hc)
  · exact u_281_32 (e + 1) hd k11 K11 v0 v1  p3.2 _ (if_f hb hc)
def b_281_11 (k11 : Option Nat → Int32 → Hp → Option (Int32 × Hp)) (v0 : Option Nat) (v1 : Int32)  (h : Hp) : Option (Int32 × Hp) :=
  (gI 11 57 v0 h).bind fun x1 =>
  if x1 ≤ v1 then b_281_51 v0 v1  h else b_281_19 k11 v0 v1  h
theorem u_281_11 (d : Nat) (hd : 6 ≤ d) (k11 : Option Nat → Int32 → Hp → Option (Int32 × Hp)) (K11 : ∀ (v0 : Option Nat) (v1 : Int32) (h : Hp) (r : Int32 × Hp), k11 v0 v1 h = some r → Rn d 281 11 [some (va_rf v0), some (.int v1)] [] h (some (.int r.1), r.2)) (v0 : Option Nat) (v1 : Int32)  (h : Hp) (r : Int32 × Hp) (hb : b_281_11 k11 v0 v1  h = some r) : Rn d 281 11 [some (va_rf v0), some (.int v1)] [] h (some (.int r.1), r.2) := by
  unfold b_281_11 at hb
  refine rn_iload_n (i := 1) rfl rfl ?_
  refine rn_aload_n (i := 0) rfl rfl ?_
  refine rn_gI (c := 11) (k := 57) rfl (by decide) hb (fun x1 hb => ?_)
  refine rn_icmp_ge rfl rfl (fun hc => ?_) (fun hc => ?_)
  · exact u_281_51 d hd v0 v1  h _ (if_t hb hc)
  · exact u_281_19 d hd k11 K11 v0 v1  h _ (if_f hb hc)
def l_281_11 : Nat → Option Nat → Int32 → Hp → Option (Int32 × Hp)
  | 0, _, _, _ => none
  | n + 1, v0, v1, h => b_281_11 (l_281_11 n) v0 v1 h
theorem w_281_11 (d : Nat) (hd : 6 ≤ d) : ∀ (n : Nat) (v0 : Option Nat) (v1 : Int32) (h : Hp) (r : Int32 × Hp), l_281_11 n v0 v1 h = some r → Rn d 281 11 [some (va_rf v0), some (.int v1)] [] h (some (.int r.1), r.2) := by
  intro n
  induction n with
  | zero => intro v0 v1 h r hb; cases hb
  | succ n ih => intro v0 v1 h r hb; exact u_281_11 d hd (l_281_11 n) ih v0 v1 h r hb
def b_281_0 (v0 : Option Nat)  (h : Hp) : Option (Int32 × Hp) :=
  (pI 11 0 v0 (nI 0) h).bind fun h1 =>
  (grd (rC 11 v0 h1)).bind fun _ =>
  (f_253 v0 h1).bind fun p2 =>
  bnd ((nI 0)) fun x3 =>
  l_281_11 FU v0 x3 p2
theorem u_281_0 (d : Nat) (hd : 6 ≤ d) (v0 : Option Nat)  (h : Hp) (r : Int32 × Hp) (hb : b_281_0 v0  h = some r) : Rn d 281 0 [some (va_rf v0), none] [] h (some (.int r.1), r.2) := by
  unfold b_281_0 at hb
  obtain ⟨e, rfl⟩ : ∃ e, d = e + 1 := ⟨d - 1, by omega⟩
  refine rn_aload_n (i := 0) rfl rfl ?_
  refine rn_iconst (x := (nI 0)) rfl (by decide) ?_
  refine rn_pI (c := 11) (k := 0) rfl (by decide) hb (fun h1 hb => ?_)
  refine rn_aload_n (i := 0) rfl rfl ?_
  obtain ⟨hrc, hb⟩ := grd_spec hb
  obtain ⟨p2, hc, hb⟩ := Option.bind_eq_some_iff.mp hb
  refine Rn.call0 (d := e) (As := [va_rf v0]) (rest := []) rfl rfl rfl (by decide) rfl rfl rfl (bd_rcV hrc rfl) (by decide) (bd_lenC (n := 2) rfl (bd_slR bd_slN) rfl) (bd_locC (n := 2) rfl (bd_slR bd_slN) rfl (t_253 e (by omega) v0 h1 _ hc)) ?_
  refine rn_iconst (x := (nI 0)) rfl (by decide) ?_
  obtain ⟨x3, ex3, hb⟩ := bnd_spec hb
  refine rn_istore_n (i := 1) (L1 := [some (va_rf v0), some (.int x3)]) rfl (Nat.le_of_ble_eq_true rfl) (Or.inr (bd_wideR rfl)) (by rw [ex3]; rfl) ?_
  exact w_281_11 (e + 1) hd FU v0 x3 p2 _ hb
/-- BitingDoorsModel.walk()I -/
def f_281 (v0 : Option Nat) (h : Hp) : Option (Int32 × Hp) := b_281_0 v0 h
theorem t_281 (d : Nat) (hd : 6 ≤ d) (v0 : Option Nat) (h : Hp) (r : Int32 × Hp) (hb : f_281 v0 h = some r) : Rn d 281 0 [some (va_rf v0), none] [] h (some (.int r.1), r.2) := by
  unfold f_281 at hb
  exact u_281_0 d hd v0 h r hb
def b_283_196   (h : Hp) : Option (Hp) :=
  some h
theorem u_283_196 (d : Nat) (hd : 2 ≤ d) (v0 : Option Nat) (v1 : Int32) (v2 : Option (Int32)) (v3 : Option (Int32)) (v4 : Option (Int32))  (h : Hp) (r : Hp) (hb : b_283_196   h = some r) : Rn d 283 196 [some (va_rf v0), some (.int v1), v2.map Value.int, v3.map Value.int, v4.map Value.int] [] h (none, r) := by
  unfold b_283_196 at hb
  obtain rfl := Option.some.inj hb
  exact rn_vret rfl rfl
def b_283_190 (k27 : Option Nat → Int32 → Hp → Option (Hp)) (v0 : Option Nat) (v1 : Int32)  (h : Hp) : Option (Hp) :=
  bnd (v1 + (nI 1)) fun x1 =>
  k27 v0 x1 h
theorem u_283_190 (d : Nat) (hd : 2 ≤ d) (k27 : Option Nat → Int32 → Hp → Option (Hp)) (K27 : ∀ (v0 : Option Nat) (v1 : Int32) (v2 : Option (Int32)) (v3 : Option (Int32)) (v4 : Option (Int32)) (h : Hp) (r : Hp), k27 v0 v1 h = some r → Rn d 283 27 [some (va_rf v0), some (.int v1), v2.map Value.int, v3.map Value.int, v4.map Value.int] [] h (none, r)) (v0 : Option Nat) (v1 : Int32) (v2 : Int32) (v3 : Option (Int32)) (v4 : Option (Int32))  (h : Hp) (r : Hp) (hb : b_283_190 k27 v0 v1  h = some r) : Rn d 283 190 [some (va_rf v0), some (.int v1), some (.int v2), v3.map Value.int, v4.map Value.int] [] h (none, r) := by
  unfold b_283_190 at hb
  obtain ⟨x1, ex1, hb⟩ := bnd_spec hb
  refine rn_iinc (i := 1) (y := x1) (L1 := [some (va_rf v0), some (.int x1), some (.int v2), v3.map Value.int, v4.map Value.int]) rfl rfl (Nat.le_of_ble_eq_true rfl) (Or.inr (bd_wideR rfl)) (by rw [ex1]; rfl) rfl ?_
  refine rn_goto rfl rfl ?_
  exact K27 v0 x1 (some v2) v3 v4 h _ hb
def b_283_184 (k27 : Option Nat → Int32 → Hp → Option (Hp)) (k37 : Option Nat → Int32 → Int32 → Hp → Option (Hp)) (v0 : Option Nat) (v1 : Int32) (v2 : Int32)  (h : Hp) : Option (Hp) :=
  bnd (v2 + (nI 1)) fun x1 =>
  k37 v0 v1 x1 h
theorem u_283_184 (d : Nat) (hd : 2 ≤ d) (k27 : Option Nat → Int32 → Hp → Option (Hp)) (K27 : ∀ (v0 : Option Nat) (v1 : Int32) (v2 : Option (Int32)) (v3 : Option (Int32)) (v4 : Option (Int32)) (h : Hp) (r : Hp), k27 v0 v1 h = some r → Rn d 283 27 [some (va_rf v0), some (.int v1), v2.map Value.int, v3.map Value.int, v4.map Value.int] [] h (none, r)) (k37 : Option Nat → Int32 → Int32 → Hp → Option (Hp)) (K37 : ∀ (v0 : Option Nat) (v1 : Int32) (v2 : Int32) (v3 : Option (Int32)) (v4 : Option (Int32)) (h : Hp) (r : Hp), k37 v0 v1 v2 h = some r → Rn d 283 37 [some (va_rf v0), some (.int v1), some (.int v2), v3.map Value.int, v4.map Value.int] [] h (none, r)) (v0 : Option Nat) (v1 : Int32) (v2 : Int32) (v3 : Int32) (v4 : Int32)  (h : Hp) (r : Hp) (hb : b_283_184 k27 k37 v0 v1 v2  h = some r) : Rn d 283 184 [some (va_rf v0), some (.int v1), some (.int v2), some (.int v3), some (.int v4)] [] h (none, r) := by
  unfold b_283_184 at hb
  obtain ⟨x1, ex1, hb⟩ := bnd_spec hb
  refine rn_iinc (i := 2) (y := x1) (L1 := [some (va_rf v0), some (.int v1), some (.int x1), some (.int v3), some (.int v4)]) rfl rfl (Nat.le_of_ble_eq_true rfl) (Or.inr rfl) (by rw [ex1]; rfl) rfl ?_
  refine rn_goto rfl rfl ?_
  exact K37 v0 v1 x1 (some v3) (some v4) h _ hb
def b_283_145 (k27 : Option Nat → Int32 → Hp → Option (Hp)) (k37 : Option Nat → Int32 → Int32 → Hp → Option (Hp)) (v0 : Option Nat) (v1 : Int32) (v2 : Int32) (v3 : Int32) (v4 : Int32)  (h : Hp) : Option (Hp) :=
  (gQ 11 58 v0 h).bind fun x1 =>
  (wZ x1 (((nI 10) * v4) + v3) (nI 1) h).bind fun h2 =>
  (gQ 11 50 v0 h2).bind fun x3 =>
  (gI 11 55 v0 h2).bind fun x4 =>
  (wI x3 x4 (((nI 10) * v4) + v3) h2).bind fun h5 =>
  (gI 11 55 v0 h5).bind fun x6 =>
  (pI 11 55 v0 (x6 + (nI 1)) h5).bind fun h7 =>
  b_283_184 k27 k37 v0 v1 v2  h7
theorem u_283_145 (d : Nat) (hd : 2 ≤ d) (k27 : Option Nat → Int32 → Hp → Option (Hp)) (K27 : ∀ (v0 : Option Nat) (v1 : Int32) (v2 : Option (Int32)) (v3 : Option (Int32)) (v4 : Option (Int32)) (h : Hp) (r : Hp), k27 v0 v1 h = some r → Rn d 283 27 [some (va_rf v0), some (.int v1), v2.map Value.int, v3.map Value.int, v4.map Value.int] [] h (none, r)) (k37 : Option Nat → Int32 → Int32 → Hp → Option (Hp)) (K37 : ∀ (v0 : Option Nat) (v1 : Int32) (v2 : Int32) (v3 : Option (Int32)) (v4 : Option (Int32)) (h : Hp) (r : Hp), k37 v0 v1 v2 h = some r → Rn d 283 37 [some (va_rf v0), some (.int v1), some (.int v2), v3.map Value.int, v4.map Value.int] [] h (none, r)) (v0 : Option Nat) (v1 : Int32) (v2 : Int32) (v3 : Int32) (v4 : Int32)  (h : Hp) (r : Hp) (hb : b_283_145 k27 k37 v0 v1 v2 v3 v4  h = some r) : Rn d 283 145 [some (va_rf v0), some (.int v1), some (.int v2), some (.int v3), some (.int v4)] [] h (none, r) := by
  unfold b_283_145 at hb
  refine rn_aload_n (i := 0) rfl rfl ?_
  refine rn_gQ (c := 11) (k := 58) rfl (by decide) hb (fun x1 hb => ?_)
  refine rn_bipush (x := (nI 10)) rfl (by decide) ?_
  refine rn_iload (i := 4) rfl rfl ?_
  refine rn_imul rfl ?_
  refine rn_iload_n (i := 3) rfl rfl ?_
  refine rn_iadd rfl ?_
  refine rn_iconst (x := (nI 1)) rfl (by decide) ?_
  refine rn_wZ rfl hb (fun h2 hb => ?_)
  refine rn_aload_n (i := 0) rfl rfl ?_
  refine rn_gQ (c := 11) (k := 50) rfl (by decide) hb (fun x3 hb => ?_)
  refine rn_aload_n (i := 0) rfl rfl ?_
  refine rn_gI (c := 11) (k := 55) rfl (by decide) hb (fun x4 hb => ?_)
  refine rn_bipush (x := (nI 10)) rfl (by decide) ?_
  refine rn_iload (i := 4) rfl rfl ?_
  refine rn_imul rfl ?_
  refine rn_iload_n (i := 3) rfl rfl ?_
  refine rn_iadd rfl ?_
  refine rn_wI rfl hb (fun h5 hb => ?_)
  refine rn_aload_n (i := 0) rfl rfl ?_
  refine rn_dup rfl (bd_cat_rf _) ?_
  refine rn_gI (c := 11) (k := 55) rfl (by decide) hb (fun x6 hb => ?_)
  refine rn_iconst (x := (nI 1)) rfl (by decide) ?_
  refine rn_iadd rfl ?_
  refine rn_pI (c := 11) (k := 55) rfl (by decide) hb (fun h7 hb => ?_)
  exact u_283_184 d hd k27 K27 k37 K37 v0 v1 v2 v3 v4  h7 _ hb
def b_283_142 (k27 : Option Nat → Int32 → Hp → Option (Hp)) (k37 : Option Nat → Int32 → Int32 → Hp → Option (Hp)) (v0 : Option Nat) (v1 : Int32) (v2 : Int32)  (h : Hp) : Option (Hp) :=
  b_283_184 k27 k37 v0 v1 v2  h
theorem u_283_142 (d : Nat) (hd : 2 ≤ d) (k27 : Option Nat → Int32 → Hp → Option (Hp)) (K27 : ∀ (v0 : Option Nat) (v1 : Int32) (v2 : Option (Int32)) (v3 : Option (Int32)) (v4 : Option (Int32)) (h : Hp) (r : Hp), k27 v0 v1 h = some r → Rn d 283 27 [some (va_rf v0), some (.int v1), v2.map Value.int, v3.map Value.int, v4.map Value.int] [] h (none, r)) (k37 : Option Nat → Int32 → Int32 → Hp → Option (Hp)) (K37 : ∀ (v0 : Option Nat) (v1 : Int32) (v2 : Int32) (v3 : Option (Int32)) (v4 : Option (Int32)) (h : Hp) (r : Hp), k37 v0 v1 v2 h = some r → Rn d 283 37 [some (va_rf v0), some (.int v1), some (.int v2), v3.map Value.int, v4.map Value.int] [] h (none, r)) (v0 : Option Nat) (v1 : Int32) (v2 : Int32) (v3 : Int32) (v4 : Int32)  (h : Hp) (r : Hp) (hb : b_283_142 k27 k37 v0 v1 v2  h = some r) : Rn d 283 142 [some (va_rf v0), some (.int v1), some (.int v2), some (.int v3), some (.int v4)] [] h (none, r) := by
  unfold b_283_142 at hb
  refine rn_goto rfl rfl ?_
  exact u_283_184 d hd k27 K27 k37 K37 v0 v1 v2 v3 v4  h _ hb
def b_283_127 (k27 : Option Nat → Int32 → Hp → Option (Hp)) (k37 : Option Nat → Int32 → Int32 → Hp → Option (Hp)) (v0 : Option Nat) (v1 : Int32) (v2 : Int32) (v3 : Int32) (v4 : Int32)  (h : Hp) : Option (Hp) :=
  (gQ 11 58 v0 h).bind fun x1 =>
  (aI 14 x1 (((nI 10) * v4) + v3) h).bind fun x2 =>
  if x2 = 0 then b_283_145 k27 k37 v0 v1 v2 v3 v4  h else b_283_142 k27 k37 v0 v1 v2  h
theorem u_283_127 (d : Nat) (hd : 2 ≤ d) (k27 : Option Nat → Int32 → Hp → Option (Hp)) (K27 : ∀ (v0 : Option Nat) (v1 : Int32) (v2 : Option (Int32)) (v3 : Option (Int32)) (v4 : Option (Int32)) (h : Hp) (r : Hp), k27 v0 v1 h = some r → Rn d 283 27 [some (va_rf v0), some (.int v1), v2.map Value.int, v3.map Value.int, v4.map Value.int] [] h (none, r)) (k37 : Option Nat → Int32 → Int32 → Hp → Option (Hp)) (K37 : ∀ (v0 : Option Nat) (v1 : Int32) (v2 : Int32) (v3 : Option (Int32)) (v4 : Option (Int32)) (h : Hp) (r : Hp), k37 v0 v1 v2 h = some r → Rn d 283 37 [some (va_rf v0), some (.int v1), some (.int v2), v3.map Value.int, v4.map Value.int] [] h (none, r)) (v0 : Option Nat) (v1 : Int32) (v2 : Int32) (v3 : Int32) (v4 : Int32)  (h : Hp) (r : Hp) (hb : b_283_127 k27 k37 v0 v1 v2 v3 v4  h = some r) : Rn d 283 127 [some (va_rf v0), some (.int v1), some (.int v2), some (.int v3), some (.int v4)] [] h (none, r) := by
  unfold b_283_127 at hb
  refine rn_aload_n (i := 0) rfl rfl ?_
  refine rn_gQ (c := 11) (k := 58) rfl (by decide) hb (fun x1 hb => ?_)
  refine rn_bipush (x := (nI 10)) rfl (by decide) ?_
  refine rn_iload (i := 4) rfl rfl ?_
  refine rn_imul rfl ?_
  refine rn_iload_n (i := 3) rfl rfl ?_
  refine rn_iadd rfl ?_
  refine rn_aZ rfl hb (fun x2 hb => ?_)
  refine rn_if_eq rfl rfl (fun hc => ?_) (fun hc => ?_)
  · exact u_283_145 d hd k27 K27 k37 K37 v0 v1 v2 v3 v4  h _ (if_t hb hc)
  · exact u_283_142 d hd k27 K27 k37 K37 v0 v1 v2 v3 v4  h _ (if_f hb hc)
def b_283_112 (k27 : Option Nat → Int32 → Hp → Option (Hp)) (k37 : Option Nat → Int32 → Int32 → Hp → Option (Hp)) (v0 : Option Nat) (v1 : Int32) (v2 : Int32) (v3 : Int32) (v4 : Int32)  (h : Hp) : Option (Hp) :=
  (gQ 11 44 v0 h).bind fun x1 =>
  (aI 12 x1 (((nI 10) * v4) + v3) h).bind fun x2 =>
  if ¬ x2 = 0 then b_283_184 k27 k37 v0 v1 v2  h else b_283_127 k27 k37 v0 v1 v2 v3 v4  h
theorem u_283_112 (d : Nat) (hd : 2 ≤ d) (k27 : Option Nat → Int32 → Hp → Option (Hp)) (K27 : ∀ (v0 : Option Nat) (v1 : Int32) (v2 : Option (Int32)) (v3 : Option (Int32)) (v4 : Option (Int32)) (h : Hp) (r : Hp), k27 v0 v1 h = some r → Rn d 283 27 [some (va_rf v0), some (.int v1), v2.map Value.int, v3.map Value.int, v4.map Value.int] [] h (none, r)) (k37 : Option Nat → Int32 → Int32 → Hp → Option (Hp)) (K37 : ∀ (v0 : Option Nat) (v1 : Int32) (v2 : Int32) (v3 : Option (Int32)) (v4 : Option (Int32)) (h : Hp) (r : Hp), k37 v0 v1 v2 h = some r → Rn d 283 37 [some (va_rf v0), some (.int v1), some (.int v2), v3.map Value.int, v4.map Value.int] [] h (none, r)) (v0 : Option Nat) (v1 : Int32) (v2 : Int32) (v3 : Int32) (v4 : Int32)  (h : Hp) (r : Hp) (hb : b_283_112 k27 k37 v0 v1 v2 v3 v4  h = some r) : Rn d 283 112 [some (va_rf v0), some (.int v1), some (.int v2), some (.int v3), some (.int v4)] [] h (none, r) := by
  unfold b_283_112 at hb
  refine rn_aload_n (i := 0) rfl rfl ?_
  refine rn_gQ (c := 11) (k := 44) rfl (by decide) hb (fun x1 hb => ?_)
  refine rn_bipush (x := (nI 10)) rfl (by decide) ?_
  refine rn_iload (i := 4) rfl rfl ?_
  refine rn_imul rfl ?_
  refine rn_iload_n (i := 3) rfl rfl ?_
  refine rn_iadd rfl ?_
  refine rn_aI rfl hb (fun x2 hb => ?_)
  refine rn_if_ne rfl rfl (fun hc => ?_) (fun hc => ?_)
  · exact u_283_184 d hd k27 K27 k37 K37 v0 v1 v2 v3 v4  h _ (if_t hb hc)
  · exact u_283_127 d hd k27 K27 k37 K37 v0 v1 v2 v3 v4  h _ (if_f hb hc)
def b_283_99 (k27 : Option Nat → Int32 → Hp → Option (Hp)) (k37 : Option Nat → Int32 → Int32 → Hp → Option (Hp)) (v0 : Option Nat) (v1 : Int32) (v2 : Int32) (v3 : Int32) (s0 : Int32) (s1 : Int32) (h : Hp) : Option (Hp) :=
  bnd ((s0 + s1)) fun x1 =>
  (grd (rC 11 v0 h)).bind fun _ =>
  (f_255 v0 v3 x1 h).bind fun p2 =>
  if p2.1 = 0 then b_283_184 k27 k37 v0 v1 v2  p2.2 else b_283_112 k27 k37 v0 v1 v2 v3 x1  p2.2
theorem u_283_99 (d : Nat) (hd : 2 ≤ d) (k27 : Option Nat → Int32 → Hp → Option (Hp)) (K27 : ∀ (v0 : Option Nat) (v1 : Int32) (v2 : Option (Int32)) (v3 : Option (Int32)) (v4 : Option (Int32)) (h : Hp) (r : Hp), k27 v0 v1 h = some r → Rn d 283 27 [some (va_rf v0), some (.int v1), v2.map Value.int, v3.map Value.int, v4.map Value.int] [] h (none, r)) (k37 : Option Nat → Int32 → Int32 → Hp → Option (Hp)) (K37 : ∀ (v0 : Option Nat) (v1 : Int32) (v2 : Int32) (v3 : Option (Int32)) (v4 : Option (Int32)) (h : Hp) (r : Hp), k37 v0 v1 v2 h = some r → Rn d 283 37 [some (va_rf v0), some (.int v1), some (.int v2), v3.map Value.int, v4.map Value.int] [] h (none, r)) (v0 : Option Nat) (v1 : Int32) (v2 : Int32) (v3 : Int32) (v4 : Option (Int32)) (s0 : Int32) (s1 : Int32) (h : Hp) (r : Hp) (hb : b_283_99 k27 k37 v0 v1 v2 v3 s0 s1 h = some r) : Rn d 283 99 [some (va_rf v0), some (.int v1), some (.int v2), some (.int v3), v4.map Value.int] [.int s1, .int s0] h (none, r) := by
  unfold b_283_99 at hb
  obtain ⟨e, rfl⟩ : ∃ e, d = e + 1 := ⟨d - 1, by omega⟩
  refine rn_iadd rfl ?_
  obtain ⟨x1, ex1, hb⟩ := bnd_spec hb
  refine rn_istore (i := 4) (L1 := [some (va_rf v0), some (.int v1), some (.int v2), some (.int v3), some (.int x1)]) rfl (Nat.le_of_ble_eq_true rfl) (Or.inr rfl) (by rw [ex1]; rfl) ?_
  refine rn_aload_n (i := 0) rfl rfl ?_
  refine rn_iload_n (i := 3) rfl rfl ?_
  refine rn_iload (i := 4) rfl rfl ?_
  obtain ⟨hrc, hb⟩ := grd_spec hb
  obtain ⟨p2, hc, hb⟩ := Option.bind_eq_some_iff.mp hb
  refine Rn.call1 (d := e) (As := [va_rf v0, .int v3, .int x1]) (rest := []) rfl rfl rfl (by decide) rfl rfl rfl (bd_rcV hrc rfl) (by decide) (bd_lenC (n := 3) rfl (bd_slR (bd_slI (bd_slI bd_slN))) rfl) (bd_locC (n := 3) rfl (bd_slR (bd_slI (bd_slI bd_slN))) rfl (t_255 e (by omega) v0 v3 x1 h _ hc)) ?_
  refine rn_if_eq rfl rfl (fun hc => ?_) (fun hc => ?_)
  · exact u_283_184 (e + 1) hd k27 K27 k37 K37 v0 v1 v2 v3 x1  p2.2 _ (if_t hb hc)
  · exact u_283_112 (e + 1) hd k27 K27 k37 K37 v0 v1 v2 v3 x1  p2.2 _ (if_f hb hc)
def b_283_98 (k27 : Option Nat → Int32 → Hp → Option (Hp)) (k37 : Option Nat → Int32 → Int32 → Hp → Option (Hp)) (v0 : Option Nat) (v1 : Int32) (v2 : Int32) (v3 : Int32) (s0 : Int32) (h : Hp) : Option (Hp) :=
  b_283_99 k27 k37 v0 v1 v2 v3 s0 (nI 0) h
theorem u_283_98 (d : Nat) (hd : 2 ≤ d) (k27 : Option Nat → Int32 → Hp → Option (Hp)) (K27 : ∀ (v0 : Option Nat) (v1 : Int32) (v2 : Option (Int32)) (v3 : Option (Int32)) (v4 : Option (Int32)) (h : Hp) (r : Hp), k27 v0 v1 h = some r → Rn d 283 27 [some (va_rf v0), some (.int v1), v2.map Value.int, v3.map Value.int, v4.map Value.int] [] h (none, r)) (k37 : Option Nat → Int32 → Int32 → Hp → Option (Hp)) (K37 : ∀ (v0 : Option Nat) (v1 : Int32) (v2 : Int32) (v3 : Option (Int32)) (v4 : Option (Int32)) (h : Hp) (r : Hp), k37 v0 v1 v2 h = some r → Rn d 283 37 [some (va_rf v0), some (.int v1), some (.int v2), v3.map Value.int, v4.map Value.int] [] h (none, r)) (v0 : Option Nat) (v1 : Int32) (v2 : Int32) (v3 : Int32) (v4 : Option (Int32)) (s0 : Int32) (h : Hp) (r : Hp) (hb : b_283_98 k27 k37 v0 v1 v2 v3 s0 h = some r) : Rn d 283 98 [some (va_rf v0), some (.int v1), some (.int v2), some (.int v3), v4.map Value.int] [.int s0] h (none, r) := by
  unfold b_283_98 at hb
  refine rn_iconst (x := (nI 0)) rfl (by decide) ?_
  exact u_283_99 d hd k27 K27 k37 K37 v0 v1 v2 v3 v4 s0 (nI 0) h _ hb
def b_283_94 (k27 : Option Nat → Int32 → Hp → Option (Hp)) (k37 : Option Nat → Int32 → Int32 → Hp → Option (Hp)) (v0 : Option Nat) (v1 : Int32) (v2 : Int32) (v3 : Int32) (s0 : Int32) (h : Hp) : Option (Hp) :=
  b_283_99 k27 k37 v0 v1 v2 v3 s0 (-1 : Int32) h
theorem u_283_94 (d : Nat) (hd : 2 ≤ d) (k27 : Option Nat → Int32 → Hp → Option (Hp)) (K27 : ∀ (v0 : Option Nat) (v1 : Int32) (v2 : Option (Int32)) (v3 : Option (Int32)) (v4 : Option (Int32)) (h : Hp) (r : Hp), k27 v0 v1 h = some r → Rn d 283 27 [some (va_rf v0), some (.int v1), v2.map Value.int, v3.map Value.int, v4.map Value.int] [] h (none, r)) (k37 : Option Nat → Int32 → Int32 → Hp → Option (Hp)) (K37 : ∀ (v0 : Option Nat) (v1 : Int32) (v2 : Int32) (v3 : Option (Int32)) (v4 : Option (Int32)) (h : Hp) (r : Hp), k37 v0 v1 v2 h = some r → Rn d 283 37 [some (va_rf v0), some (.int v1), some (.int v2), v3.map Value.int, v4.map Value.int] [] h (none, r)) (v0 : Option Nat) (v1 : Int32) (v2 : Int32) (v3 : Int32) (v4 : Option (Int32)) (s0 : Int32) (h : Hp) (r : Hp) (hb : b_283_94 k27 k37 v0 v1 v2 v3 s0 h = some r) : Rn d 283 94 [some (va_rf v0), some (.int v1), some (.int v2), some (.int v3), v4.map Value.int] [.int s0] h (none, r) := by
  unfold b_283_94 at hb
  refine rn_iconst (x := (-1 : Int32)) rfl (by decide) ?_
  refine rn_goto rfl rfl ?_
  exact u_283_99 d hd k27 K27 k37 K37 v0 v1 v2 v3 v4 s0 (-1 : Int32) h _ hb
def b_283_90 (k27 : Option Nat → Int32 → Hp → Option (Hp)) (k37 : Option Nat → Int32 → Int32 → Hp → Option (Hp)) (v0 : Option Nat) (v1 : Int32) (v2 : Int32) (v3 : Int32) (s0 : Int32) (h : Hp) : Option (Hp) :=
  if ¬ v2 = 0 then b_283_98 k27 k37 v0 v1 v2 v3 s0 h else b_283_94 k27 k37 v0 v1 v2 v3 s0 h
theorem u_283_90 (d : Nat) (hd : 2 ≤ d) (k27 : Option Nat → Int32 → Hp → Option (Hp)) (K27 : ∀ (v0 : Option Nat) (v1 : Int32) (v2 : Option (Int32)) (v3 : Option (Int32)) (v4 : Option (Int32)) (h : Hp) (r : Hp), k27 v0 v1 h = some r → Rn d 283 27 [some (va_rf v0), some (.int v1), v2.map Value.int, v3.map Value.int, v4.map Value.int] [] h (none, r)) (k37 : Option Nat → Int32 → Int32 → Hp → Option (Hp)) (K37 : ∀ (v0 : Option Nat) (v1 : Int32) (v2 : Int32) (v3 : Option (Int32)) (v4 : Option (Int32)) (h : Hp) (r : Hp), k37 v0 v1 v2 h = some r → Rn d 283 37 [some (va_rf v0), some (.int v1), some (.int v2), v3.map Value.int, v4.map Value.int] [] h (none, r)) (v0 : Option Nat) (v1 : Int32) (v2 : Int32) (v3 : Int32) (v4 : Option (Int32)) (s0 : Int32) (h : Hp) (r : Hp) (hb : b_283_90 k27 k37 v0 v1 v2 v3 s0 h = some r) : Rn d 283 90 [some (va_rf v0), some (.int v1), some (.int v2), some (.int v3), v4.map Value.int] [.int s0] h (none, r) := by
  unfold b_283_90 at hb
  refine rn_iload_n (i := 2) rfl rfl ?_
  refine rn_if_ne rfl rfl (fun hc => ?_) (fun hc => ?_)
  · exact u_283_98 d hd k27 K27 k37 K37 v0 v1 v2 v3 v4 s0 h _ (if_t hb hc)
  · exact u_283_94 d hd k27 K27 k37 K37 v0 v1 v2 v3 v4 s0 h _ (if_f hb hc)
def b_283_86 (k27 : Option Nat → Int32 → Hp → Option (Hp)) (k37 : Option Nat → Int32 → Int32 → Hp → Option (Hp)) (v0 : Option Nat) (v1 : Int32) (v2 : Int32) (v3 : Int32) (s0 : Int32) (h : Hp) : Option (Hp) :=
  b_283_99 k27 k37 v0 v1 v2 v3 s0 (nI 1) h
theorem u_283_86 (d : Nat) (hd : 2 ≤ d) (k27 : Option Nat → Int32 → Hp → Option (Hp)) (K27 : ∀ (v0 : Option Nat) (v1 : Int32) (v2 : Option (Int32)) (v3 : Option (Int32)) (v4 : Option (Int32)) (h : Hp) (r : Hp), k27 v0 v1 h = some r → Rn d 283 27 [some (va_rf v0), some (.int v1), v2.map Value.int, v3.map Value.int, v4.map Value.int] [] h (none, r)) (k37 : Option Nat → Int32 → Int32 → Hp → Option (Hp)) (K37 : ∀ (v0 : Option Nat) (v1 : Int32) (v2 : Int32) (v3 : Option (Int32)) (v4 : Option (Int32)) (h : Hp) (r : Hp), k37 v0 v1 v2 h = some r → Rn d 283 37 [some (va_rf v0), some (.int v1), some (.int v2), v3.map Value.int, v4.map Value.int] [] h (none, r)) (v0 : Option Nat) (v1 : Int32) (v2 : Int32) (v3 : Int32) (v4 : Option (Int32)) (s0 : Int32) (h : Hp) (r : Hp) (hb : b_283_86 k27 k37 v0 v1 v2 v3 s0 h = some r) : Rn d 283 86 [some (va_rf v0), some (.int v1), some (.int v2), some (.int v3), v4.map Value.int] [.int s0] h (none, r) := by
  unfold b_283_86 at hb
  refine rn_iconst (x := (nI 1)) rfl (by decide) ?_
  refine rn_goto rfl rfl ?_
  exact u_283_99 d hd k27 K27 k37 K37 v0 v1 v2 v3 v4 s0 (nI 1) h _ hb
def b_283_70 (k27 : Option Nat → Int32 → Hp → Option (Hp)) (k37 : Option Nat → Int32 → Int32 → Hp → Option (Hp)) (v0 : Option Nat) (v1 : Int32) (v2 : Int32) (s0 : Int32) (s1 : Int32) (h : Hp) : Option (Hp) :=
  bnd ((s0 + s1)) fun x1 =>
  (gQ 11 50 v0 h).bind fun x2 =>
  (aI 12 x2 v1 h).bind fun x3 =>
  (grd (decide (¬ ((nI 10) : Int32) = 0))).bind fun _ =>
  if ¬ v2 = (nI 2) then b_283_90 k27 k37 v0 v1 v2 x1 (x3 / (nI 10)) h else b_283_86 k27 k37 v0 v1 v2 x1 (x3 / (nI 10)) h
theorem u_283_70 (d : Nat) (hd : 2 ≤ d) (k27 : Option Nat → Int32 → Hp → Option (Hp)) (K27 : ∀ (v0 : Option Nat) (v1 : Int32) (v2 : Option (Int32)) (v3 : Option (Int32)) (v4 : Option (Int32)) (h : Hp) (r : Hp), k27 v0 v1 h = some r → Rn d 283 27 [some (va_rf v0), some (.int v1), v2.map Value.int, v3.map Value.int, v4.map Value.int] [] h (none, r)) (k37 : Option Nat → Int32 → Int32 → Hp → Option (Hp)) (K37 : ∀ (v0 : Option Nat) (v1 : Int32) (v2 : Int32) (v3 : Option (Int32)) (v4 : Option (Int32)) (h : Hp) (r : Hp), k37 v0 v1 v2 h = some r → Rn d 283 37 [some (va_rf v0), some (.int v1), some (.int v2), v3.map Value.int, v4.map Value.int] [] h (none, r)) (v0 : Option Nat) (v1 : Int32) (v2 : Int32) (v3 : Option (Int32)) (v4 : Option (Int32)) (s0 : Int32) (s1 : Int32) (h : Hp) (r : Hp) (hb : b_283_70 k27 k37 v0 v1 v2 s0 s1 h = some r) : Rn d 283 70 [some (va_rf v0), some (.int v1), some (.int v2), v3.map Value.int, v4.map Value.int] [.int s1, .int s0] h (none, r) := by
  unfold b_283_70 at hb
  refine rn_iadd rfl ?_
  obtain ⟨x1, ex1, hb⟩ := bnd_spec hb
  refine rn_istore_n (i := 3) (L1 := [some (va_rf v0), some (.int v1), some (.int v2), some (.int x1), v4.map Value.int]) rfl (Nat.le_of_ble_eq_true rfl) (Or.inr rfl) (by rw [ex1]; rfl) ?_
  refine rn_aload_n (i := 0) rfl rfl ?_
  refine rn_gQ (c := 11) (k := 50) rfl (by decide) hb (fun x2 hb => ?_)
  refine rn_iload_n (i := 1) rfl rfl ?_
  refine rn_aI rfl hb (fun x3 hb => ?_)
  refine rn_bipush (x := (nI 10)) rfl (by decide) ?_
  obtain ⟨hy, hb⟩ := grd_spec hb
  refine rn_idiv rfl (of_decide_eq_true hy) ?_
  refine rn_iload_n (i := 2) rfl rfl ?_
  refine rn_iconst (x := (nI 2)) rfl (by decide) ?_
  refine rn_icmp_ne rfl rfl (fun hc => ?_) (fun hc => ?_)
  · exact u_283_90 d hd k27 K27 k37 K37 v0 v1 v2 x1 v4 (x3 / (nI 10)) h _ (if_t hb hc)
  · exact u_283_86 d hd k27 K27 k37 K37 v0 v1 v2 x1 v4 (x3 / (nI 10)) h _ (if_f hb hc)
def b_283_69 (k27 : Option Nat → Int32 → Hp → Option (Hp)) (k37 : Option Nat → Int32 → Int32 → Hp → Option (Hp)) (v0 : Option Nat) (v1 : Int32) (v2 : Int32) (s0 : Int32) (h : Hp) : Option (Hp) :=
  b_283_70 k27 k37 v0 v1 v2 s0 (nI 0) h
theorem u_283_69 (d : Nat) (hd : 2 ≤ d) (k27 : Option Nat → Int32 → Hp → Option (Hp)) (K27 : ∀ (v0 : Option Nat) (v1 : Int32) (v2 : Option (Int32)) (v3 : Option (Int32)) (v4 : Option (Int32)) (h : Hp) (r : Hp), k27 v0 v1 h = some r → Rn d 283 27 [some (va_rf v0), some (.int v1), v2.map Value.int, v3.map Value.int, v4.map Value.int] [] h (none, r)) (k37 : Option Nat → Int32 → Int32 → Hp → Option (Hp)) (K37 : ∀ (v0 : Option Nat) (v1 : Int32) (v2 : Int32) (v3 : Option (Int32)) (v4 : Option (Int32)) (h : Hp) (r : Hp), k37 v0 v1 v2 h = some r → Rn d 283 37 [some (va_rf v0), some (.int v1), some (.int v2), v3.map Value.int, v4.map Value.int] [] h (none, r)) (v0 : Option Nat) (v1 : Int32) (v2 : Int32) (v3 : Option (Int32)) (v4 : Option (Int32)) (s0 : Int32) (h : Hp) (r : Hp) (hb : b_283_69 k27 k37 v0 v1 v2 s0 h = some r) : Rn d 283 69 [some (va_rf v0), some (.int v1), some (.int v2), v3.map Value.int, v4.map Value.int] [.int s0] h (none, r) := by
  unfold b_283_69 at hb
  refine rn_iconst (x := (nI 0)) rfl (by decide) ?_
  exact u_283_70 d hd k27 K27 k37 K37 v0 v1 v2 v3 v4 s0 (nI 0) h _ hb
def b_283_65 (k27 : Option Nat → Int32 → Hp → Option (Hp)) (k37 : Option Nat → Int32 → Int32 → Hp → Option (Hp)) (v0 : Option Nat) (v1 : Int32) (v2 : Int32) (s0 : Int32) (h : Hp) : Option (Hp) :=
  b_283_70 k27 k37 v0 v1 v2 s0 (-1 : Int32) h
theorem u_283_65 (d : Nat) (hd : 2 ≤ d) (k27 : Option Nat → Int32 → Hp → Option (Hp)) (K27 : ∀ (v0 : Option Nat) (v1 : Int32) (v2 : Option (Int32)) (v3 : Option (Int32)) (v4 : Option (Int32)) (h : Hp) (r : Hp), k27 v0 v1 h = some r → Rn d 283 27 [some (va_rf v0), some (.int v1), v2.map Value.int, v3.map Value.int, v4.map Value.int] [] h (none, r)) (k37 : Option Nat → Int32 → Int32 → Hp → Option (Hp)) (K37 : ∀ (v0 : Option Nat) (v1 : Int32) (v2 : Int32) (v3 : Option (Int32)) (v4 : Option (Int32)) (h : Hp) (r : Hp), k37 v0 v1 v2 h = some r → Rn d 283 37 [some (va_rf v0), some (.int v1), some (.int v2), v3.map Value.int, v4.map Value.int] [] h (none, r)) (v0 : Option Nat) (v1 : Int32) (v2 : Int32) (v3 : Option (Int32)) (v4 : Option (Int32)) (s0 : Int32) (h : Hp) (r : Hp) (hb : b_283_65 k27 k37 v0 v1 v2 s0 h = some r) : Rn d 283 65 [some (va_rf v0), some (.int v1), some (.int v2), v3.map Value.int, v4.map Value.int] [.int s0] h (none, r) := by
  unfold b_283_65 at hb
  refine rn_iconst (x := (-1 : Int32)) rfl (by decide) ?_
  refine rn_goto rfl rfl ?_
  exact u_283_70 d hd k27 K27 k37 K37 v0 v1 v2 v3 v4 s0 (-1 : Int32) h _ hb
def b_283_60 (k27 : Option Nat → Int32 → Hp → Option (Hp)) (k37 : Option Nat → Int32 → Int32 → Hp → Option (Hp)) (v0 : Option Nat) (v1 : Int32) (v2 : Int32) (s0 : Int32) (h : Hp) : Option (Hp) :=
  if ¬ v2 = (nI 3) then b_283_69 k27 k37 v0 v1 v2 s0 h else b_283_65 k27 k37 v0 v1 v2 s0 h
theorem u_283_60 (d : Nat) (hd : 2 ≤ d) (k27 : Option Nat → Int32 → Hp → Option (Hp)) (K27 : ∀ (v0 : Option Nat) (v1 : Int32) (v2 : Option (Int32)) (v3 : Option (Int32)) (v4 : Option (Int32)) (h : Hp) (r : Hp), k27 v0 v1 h = some r → Rn d 283 27 [some (va_rf v0), some (.int v1), v2.map Value.int, v3.map Value.int, v4.map Value.int] [] h (none, r)) (k37 : Option Nat → Int32 → Int32 → Hp → Option (Hp)) (K37 : ∀ (v0 : Option Nat) (v1 : Int32) (v2 : Int32) (v3 : Option (Int32)) (v4 : Option (Int32)) (h : Hp) (r : Hp), k37 v0 v1 v2 h = some r → Rn d 283 37 [some (va_rf v0), some (.int v1), some (.int v2), v3.map Value.int, v4.map Value.int] [] h (none, r)) (v0 : Option Nat) (v1 : Int32) (v2 : Int32) (v3 : Option (Int32)) (v4 : Option (Int32)) (s0 : Int32) (h : Hp) (r : Hp) (hb : b_283_60 k27 k37 v0 v1 v2 s0 h = some r) : Rn d 283 60 [some (va_rf v0), some (.int v1), some (.int v2), v3.map Value.int, v4.map Value.int] [.int s0] h (none, r) := by
  unfold b_283_60 at hb
  refine rn_iload_n (i := 2) rfl rfl ?_
  refine rn_iconst (x := (nI 3)) rfl (by decide) ?_
  refine rn_icmp_ne rfl rfl (fun hc => ?_) (fun hc => ?_)
  · exact u_283_69 d hd k27 K27 k37 K37 v0 v1 v2 v3 v4 s0 h _ (if_t hb hc)
  · exact u_283_65 d hd k27 K27 k37 K37 v0 v1 v2 v3 v4 s0 h _ (if_f hb hc)
def b_283_56 (k27 : Option Nat → Int32 → Hp → Option (Hp)) (k37 : Option Nat → Int32 → Int32 → Hp → Option (Hp)) (v0 : Option Nat) (v1 : Int32) (v2 : Int32) (s0 : Int32) (h : Hp) : Option (Hp) :=
  b_283_70 k27 k37 v0 v1 v2 s0 (nI 1) h
theorem u_283_56 (d : Nat) (hd : 2 ≤ d) (k27 : Option Nat → Int32 → Hp → Option (Hp)) (K27 : ∀ (v0 : Option Nat) (v1 : Int32) (v2 : Option (Int32)) (v3 : Option (Int32)) (v4 : Option (Int32)) (h : Hp) (r : Hp), k27 v0 v1 h = some r → Rn d 283 27 [some (va_rf v0), some (.int v1), v2.map Value.int, v3.map Value.int, v4.map Value.int] [] h (none, r)) (k37 : Option Nat → Int32 → Int32 → Hp → Option (Hp)) (K37 : ∀ (v0 : Option Nat) (v1 : Int32) (v2 : Int32) (v3 : Option (Int32)) (v4 : Option (Int32)) (h : Hp) (r : Hp), k37 v0 v1 v2 h = some r → Rn d 283 37 [some (va_rf v0), some (.int v1), some (.int v2), v3.map Value.int, v4.map Value.int] [] h (none, r)) (v0 : Option Nat) (v1 : Int32) (v2 : Int32) (v3 : Option (Int32)) (v4 : Option (Int32)) (s0 : Int32) (h : Hp) (r : Hp) (hb : b_283_56 k27 k37 v0 v1 v2 s0 h = some r) : Rn d 283 56 [some (va_rf v0), some (.int v1), some (.int v2), v3.map Value.int, v4.map Value.int] [.int s0] h (none, r) := by
  unfold b_283_56 at hb
  refine rn_iconst (x := (nI 1)) rfl (by decide) ?_
  refine rn_goto rfl rfl ?_
  exact u_283_70 d hd k27 K27 k37 K37 v0 v1 v2 v3 v4 s0 (nI 1) h _ hb
def b_283_42 (k27 : Option Nat → Int32 → Hp → Option (Hp)) (k37 : Option Nat → Int32 → Int32 → Hp → Option (Hp)) (v0 : Option Nat) (v1 : Int32) (v2 : Int32)  (h : Hp) : Option (Hp) :=
  (gQ 11 50 v0 h).bind fun x1 =>
  (aI 12 x1 v1 h).bind fun x2 =>
  (grd (decide (¬ ((nI 10) : Int32) = 0))).bind fun _ =>
  if ¬ v2 = (nI 1) then b_283_60 k27 k37 v0 v1 v2 (x2 - x2 / (nI 10) * (nI 10)) h else b_283_56 k27 k37 v0 v1 v2 (x2 - x2 / (nI 10) * (nI 10)) h
theorem u_283_42 (d : Nat) (hd : 2 ≤ d) (k27 : Option Nat → Int32 → Hp → Option (Hp)) (K27 : ∀ (v0 : Option Nat) (v1 : Int32) (v2 : Option (Int32)) (v3 : Option (Int32)) (v4 : Option (Int32)) (h : Hp) (r : Hp), k27 v0 v1 h = some r → Rn d 283 27 [some (va_rf v0), some (.int v1), v2.map Value.int, v3.map Value.int, v4.map Value.int] [] h (none, r)) (k37 : Option Nat → Int32 → Int32 → Hp → Option (Hp)) (K37 : ∀ (v0 : Option Nat) (v1 : Int32) (v2 : Int32) (v3 : Option (Int32)) (v4 : Option (Int32)) (h : Hp) (r : Hp), k37 v0 v1 v2 h = some r → Rn d 283 37 [some (va_rf v0), some (.int v1), some (.int v2), v3.map Value.int, v4.map Value.int] [] h (none, r)) (v0 : Option Nat) (v1 : Int32) (v2 : Int32) (v3 : Option (Int32)) (v4 : Option (Int32))  (h : Hp) (r : Hp) (hb : b_283_42 k27 k37 v0 v1 v2  h = some r) : Rn d 283 42 [some (va_rf v0), some (.int v1), some (.int v2), v3.map Value.int, v4.map Value.int] [] h (none, r) := by
  unfold b_283_42 at hb
  refine rn_aload_n (i := 0) rfl rfl ?_
  refine rn_gQ (c := 11) (k := 50) rfl (by decide) hb (fun x1 hb => ?_)
  refine rn_iload_n (i := 1) rfl rfl ?_
  refine rn_aI rfl hb (fun x2 hb => ?_)
  refine rn_bipush (x := (nI 10)) rfl (by decide) ?_
  obtain ⟨hy, hb⟩ := grd_spec hb
  refine rn_irem rfl (of_decide_eq_true hy) ?_
  refine rn_iload_n (i := 2) rfl rfl ?_
  refine rn_iconst (x := (nI 1)) rfl (by decide) ?_
  refine rn_icmp_ne rfl rfl (fun hc => ?_) (fun hc => ?_)
  · exact u_283_60 d hd k27 K27 k37 K37 v0 v1 v2 v3 v4 (x2 - x2 / (nI 10) * (nI 10)) h _ (if_t hb hc)
  · exact u_283_56 d hd k27 K27 k37 K37 v0 v1 v2 v3 v4 (x2 - x2 / (nI 10) * (nI 10)) h _ (if_f hb hc)
def b_283_37 (k27 : Option Nat → Int32 → Hp → Option (Hp)) (k37 : Option Nat → Int32 → Int32 → Hp → Option (Hp)) (v0 : Option Nat) (v1 : Int32) (v2 : Int32)  (h : Hp) : Option (Hp) :=
  if (nI 4) ≤ v2 then b_283_190 k27 v0 v1  h else b_283_42 k27 k37 v0 v1 v2  h
theorem u_283_37 (d : Nat) (hd : 2 ≤ d) (k27 : Option Nat → Int32 → Hp → Option (Hp)) (K27 : ∀ (v0 : Option Nat) (v1 : Int32) (v2 : Option (Int32)) (v3 : Option (Int32)) (v4 : Option (Int32)) (h : Hp) (r : Hp), k27 v0 v1 h = some r → Rn d 283 27 [some (va_rf v0), some (.int v1), v2.map Value.int, v3.map Value.int, v4.map Value.int] [] h (none, r)) (k37 : Option Nat → Int32 → Int32 → Hp → Option (Hp)) (K37 : ∀ (v0 : Option Nat) (v1 : Int32) (v2 : Int32) (v3 : Option (Int32)) (v4 : Option (Int32)) (h : Hp) (r : Hp), k37 v0 v1 v2 h = some r → Rn d 283 37 [some (va_rf v0), some (.int v1), some (.int v2), v3.map Value.int, v4.map Value.int] [] h (none, r)) (v0 : Option Nat) (v1 : Int32) (v2 : Int32) (v3 : Option (Int32)) (v4 : Option (Int32))  (h : Hp) (r : Hp) (hb : b_283_37 k27 k37 v0 v1 v2  h = some r) : Rn d 283 37 [some (va_rf v0), some (.int v1), some (.int v2), v3.map Value.int, v4.map Value.int] [] h (none, r) := by
  unfold b_283_37 at hb
  refine rn_iload_n (i := 2) rfl rfl ?_
  refine rn_iconst (x := (nI 4)) rfl (by decide) ?_
  refine rn_icmp_ge rfl rfl (fun hc => ?_) (fun hc => ?_)
  · exact u_283_190 d hd k27 K27 v0 v1 v2 v3 v4  h _ (if_t hb hc)
  · exact u_283_42 d hd k27 K27 k37 K37 v0 v1 v2 v3 v4  h _ (if_f hb hc)
def l_283_37 (k27 : Option Nat → Int32 → Hp → Option (Hp)) : Nat → Option Nat → Int32 → Int32 → Hp → Option (Hp)
  | 0, _, _, _, _ => none
  | n + 1, v0, v1, v2, h => b_283_37 k27 (l_283_37 k27 n) v0 v1 v2 h
theorem w_283_37 (d : Nat) (hd : 2 ≤ d) (k27 : Option Nat → Int32 → Hp → Option (Hp)) (K27 : ∀ (v0 : Option Nat) (v1 : Int32) (v2 : Option (Int32)) (v3 : Option (Int32)) (v4 : Option (Int32)) (h : Hp) (r : Hp), k27 v0 v1 h = some r → Rn d 283 27 [some (va_rf v0), some (.int v1), v2.map Value.int, v3.map Value.int, v4.map Value.int] [] h (none, r)) : ∀ (n : Nat) (v0 : Option Nat) (v1 : Int32) (v2 : Int32) (v3 : Option (Int32)) (v4 : Option (Int32)) (h : Hp) (r : Hp), l_283_37 k27 n v0 v1 v2 h = some r → Rn d 283 37 [some (va_rf v0), some (.int v1), some (.int v2), v3.map Value.int, v4.map Value.int] [] h (none, r) := by
  intro n
  induction n with
  | zero => intro v0 v1 v2 v3 v4 h r hb; cases hb
  | succ n ih => intro v0 v1 v2 v3 v4 h r hb; exact u_283_37 d hd k27 K27 (l_283_37 k27 n) ih v0 v1 v2 v3 v4 h r hb
def b_283_35 (k27 : Option Nat → Int32 → Hp → Option (Hp)) (v0 : Option Nat) (v1 : Int32)  (h : Hp) : Option (Hp) :=
  bnd ((nI 0)) fun x1 =>
  l_283_37 k27 FU v0 v1 x1 h
theorem u_283_35 (d : Nat) (hd : 2 ≤ d) (k27 : Option Nat → Int32 → Hp → Option (Hp)) (K27 : ∀ (v0 : Option Nat) (v1 : Int32) (v2 : Option (Int32)) (v3 : Option (Int32)) (v4 : Option (Int32)) (h : Hp) (r : Hp), k27 v0 v1 h = some r → Rn d 283 27 [some (va_rf v0), some (.int v1), v2.map Value.int, v3.map Value.int, v4.map Value.int] [] h (none, r)) (v0 : Option Nat) (v1 : Int32) (v2 : Option (Int32)) (v3 : Option (Int32)) (v4 : Option (Int32))  (h : Hp) (r : Hp) (hb : b_283_35 k27 v0 v1  h = some r) : Rn d 283 35 [some (va_rf v0), some (.int v1), v2.map Value.int, v3.map Value.int, v4.map Value.int] [] h (none, r) := by
  unfold b_283_35 at hb
  refine rn_iconst (x := (nI 0)) rfl (by decide) ?_
  obtain ⟨x1, ex1, hb⟩ := bnd_spec hb
  refine rn_istore_n (i := 2) (L1 := [some (va_rf v0), some (.int v1), some (.int x1), v3.map Value.int, v4.map Value.int]) rfl (Nat.le_of_ble_eq_true rfl) (Or.inr rfl) (by rw [ex1]; rfl) ?_
  exact w_283_37 d hd k27 K27 FU v0 v1 x1 v3 v4 h _ hb
def b_283_27 (k27 : Option Nat → Int32 → Hp → Option (Hp)) (v0 : Option Nat) (v1 : Int32)  (h : Hp) : Option (Hp) :=
  (gI 11 55 v0 h).bind fun x1 =>
  if x1 ≤ v1 then b_283_196   h else b_283_35 k27 v0 v1  h
theorem u_283_27 (d : Nat) (hd : 2 ≤ d) (k27 : Option Nat → Int32 → Hp → Option (Hp)) (K27 : ∀ (v0 : Option Nat) (v1 : Int32) (v2 : Option (Int32)) (v3 : Option (Int32)) (v4 : Option (Int32)) (h : Hp) (r : Hp), k27 v0 v1 h = some r → Rn d 283 27 [some (va_rf v0), some (.int v1), v2.map Value.int, v3.map Value.int, v4.map Value.int] [] h (none, r)) (v0 : Option Nat) (v1 : Int32) (v2 : Option (Int32)) (v3 : Option (Int32)) (v4 : Option (Int32))  (h : Hp) (r : Hp) (hb : b_283_27 k27 v0 v1  h = some r) : Rn d 283 27 [some (va_rf v0), some (.int v1), v2.map Value.int, v3.map Value.int, v4.map Value.int] [] h (none, r) := by
  unfold b_283_27 at hb
  refine rn_iload_n (i := 1) rfl rfl ?_
  refine rn_aload_n (i := 0) rfl rfl ?_
  refine rn_gI (c := 11) (k := 55) rfl (by decide) hb (fun x1 hb => ?_)
  refine rn_icmp_ge rfl rfl (fun hc => ?_) (fun hc => ?_)
  · exact u_283_196 d hd v0 v1 v2 v3 v4  h _ (if_t hb hc)
  · exact u_283_35 d hd k27 K27 v0 v1 v2 v3 v4  h _ (if_f hb hc)
def l_283_27 : Nat → Option Nat → Int32 → Hp → Option (Hp)
  | 0, _, _, _ => none
  | n + 1, v0, v1, h => b_283_27 (l_283_27 n) v0 v1 h
theorem w_283_27 (d : Nat) (hd : 2 ≤ d) : ∀ (n : Nat) (v0 : Option Nat) (v1 : Int32) (v2 : Option (Int32)) (v3 : Option (Int32)) (v4 : Option (Int32)) (h : Hp) (r : Hp), l_283_27 n v0 v1 h = some r → Rn d 283 27 [some (va_rf v0), some (.int v1), v2.map Value.int, v3.map Value.int, v4.map Value.int] [] h (none, r) := by
  intro n
  induction n with
  | zero => intro v0 v1 v2 v3 v4 h r hb; cases hb
  | succ n ih => intro v0 v1 v2 v3 v4 h r hb; exact u_283_27 d hd (l_283_27 n) ih v0 v1 v2 v3 v4 h r hb
def b_283_0 (v0 : Option Nat)  (h : Hp) : Option (Hp) :=
  (gQ 11 50 v0 h).bind fun x1 =>
  (gI 11 45 v0 h).bind fun x2 =>
  (wI x1 (nI 0) x2 h).bind fun h3 =>
  (pI 11 55 v0 (nI 1) h3).bind fun h4 =>
  (gQ 11 58 v0 h4).bind fun x5 =>
  (gI 11 45 v0 h4).bind fun x6 =>
  (wZ x5 x6 (nI 1) h4).bind fun h7 =>
  bnd ((nI 0)) fun x8 =>
  l_283_27 FU v0 x8 h7
theorem u_283_0 (d : Nat) (hd : 2 ≤ d) (v0 : Option Nat)  (h : Hp) (r : Hp) (hb : b_283_0 v0  h = some r) : Rn d 283 0 [some (va_rf v0), none, none, none, none] [] h (none, r) := by
  unfold b_283_0 at hb
  refine rn_aload_n (i := 0) rfl rfl ?_
  refine rn_gQ (c := 11) (k := 50) rfl (by decide) hb (fun x1 hb => ?_)
  refine rn_iconst (x := (nI 0)) rfl (by decide) ?_
  refine rn_aload_n (i := 0) rfl rfl ?_
  refine rn_gI (c := 11) (k := 45) rfl (by decide) hb (fun x2 hb => ?_)
  refine rn_wI rfl hb (fun h3 hb => ?_)
  refine rn_aload_n (i := 0) rfl rfl ?_
  refine rn_iconst (x := (nI 1)) rfl (by decide) ?_
  refine rn_pI (c := 11) (k := 55) rfl (by decide) hb (fun h4 hb => ?_)
  refine rn_aload_n (i := 0) rfl rfl ?_
  refine rn_gQ (c := 11) (k := 58) rfl (by decide) hb (fun x5 hb => ?_)
  refine rn_aload_n (i := 0) rfl rfl ?_
  refine rn_gI (c := 11) (k := 45) rfl (by decide) hb (fun x6 hb => ?_)
  refine rn_iconst (x := (nI 1)) rfl (by decide) ?_
  refine rn_wZ rfl hb (fun h7 hb => ?_)
  refine rn_iconst (x := (nI 0)) rfl (by decide) ?_
  obtain ⟨x8, ex8, hb⟩ := bnd_spec hb
  refine rn_istore_n (i := 1) (L1 := [some (va_rf v0), some (.int x8), none, none, none]) rfl (Nat.le_of_ble_eq_true rfl) (Or.inr (bd_wideR rfl)) (by rw [ex8]; rfl) ?_
  exact w_283_27 d hd FU v0 x8 (none : Option (Int32)) (none : Option (Int32)) (none : Option (Int32)) h7 _ hb
/-- BitingDoorsModel.walkOn()V -/
def f_283 (v0 : Option Nat) (h : Hp) : Option (Hp) := b_283_0 v0 h
theorem t_283 (d : Nat) (hd : 2 ≤ d) (v0 : Option Nat) (h : Hp) (r : Hp) (hb : f_283 v0 h = some r) : Rn d 283 0 [some (va_rf v0), none, none, none, none] [] h (none, r) := by
  unfold f_283 at hb
  exact u_283_0 d hd v0 h r hb
