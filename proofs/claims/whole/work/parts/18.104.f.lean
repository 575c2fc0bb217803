def b_173_125   (h : Hp) : Option (Int32 × Hp) :=
  (grd (decide ((nI 1) = 0 ∨ (nI 1) = 1))).bind fun _ => some ((nI 1), h)
theorem u_173_125 (d : Nat) (hd : 5 ≤ d) (v0 : Option Nat) (v1 : Option Nat) (v2 : Int32) (v3 : Int32) (v4 : Int32) (v5 : Int32) (v6 : Option (Int32))  (h : Hp) (r : Int32 × Hp) (hb : b_173_125   h = some r) : Rn d 173 125 [some (va_rf v0), some (va_rf v1), some (.int v2), some (.int v3), some (.int v4), some (.int v5), v6.map Value.int] [] h (some (.int r.1), r.2) := by
  unfold b_173_125 at hb
  refine rn_iconst (x := (nI 1)) rfl (by decide) ?_
  obtain ⟨hz, hb⟩ := grd_spec hb
  obtain rfl := Option.some.inj hb
  exact rn_zret rfl rfl (of_decide_eq_true hz)
def b_173_93 (k23 : Option Nat → Option Nat → Int32 → Int32 → Int32 → Hp → Option (Int32 × Hp)) (v0 : Option Nat) (v1 : Option Nat) (v2 : Int32) (v4 : Int32) (v5 : Int32) (s0 : Option Nat) (s1 : Int32) (h : Hp) : Option (Int32 × Hp) :=
  (grd (rC 7 s0 h)).bind fun _ =>
  (f_94 s0 s1 h).bind fun p1 =>
  (gQ 10 9 v0 p1).bind fun x2 =>
  (aI 12 x2 (nI 1) p1).bind fun x3 =>
  (wI x2 (nI 1) (x3 + (nI 1)) p1).bind fun h4 =>
  (gQ 10 9 v0 h4).bind fun x5 =>
  (aI 12 x5 (nI 3) h4).bind fun x6 =>
  (grd (rC 7 v1 h4)).bind fun _ =>
  (f_95 v1 h4).bind fun p7 =>
  (wI x5 (nI 3) (x6 + p7.1) p7.2).bind fun h8 =>
  bnd (v5 + (nI 1)) fun x9 =>
  k23 v0 v1 v2 v4 x9 h8
theorem u_173_93 (d : Nat) (hd : 5 ≤ d) (k23 : Option Nat → Option Nat → Int32 → Int32 → Int32 → Hp → Option (Int32 × Hp)) (K23 : ∀ (v0 : Option Nat) (v1 : Option Nat) (v2 : Int32) (v3 : Int32) (v4 : Int32) (v5 : Int32) (v6 : Option (Int32)) (h : Hp) (r : Int32 × Hp), k23 v0 v1 v2 v4 v5 h = some r → Rn d 173 23 [some (va_rf v0), some (va_rf v1), some (.int v2), some (.int v3), some (.int v4), some (.int v5), v6.map Value.int] [] h (some (.int r.1), r.2)) (v0 : Option Nat) (v1 : Option Nat) (v2 : Int32) (v3 : Int32) (v4 : Int32) (v5 : Int32) (v6 : Int32) (s0 : Option Nat) (s1 : Int32) (h : Hp) (r : Int32 × Hp) (hb : b_173_93 k23 v0 v1 v2 v4 v5 s0 s1 h = some r) : Rn d 173 93 [some (va_rf v0), some (va_rf v1), some (.int v2), some (.int v3), some (.int v4), some (.int v5), some (.int v6)] [.int s1, va_rf s0] h (some (.int r.1), r.2) := by
  unfold b_173_93 at hb
  obtain ⟨e, rfl⟩ : ∃ e, d = e + 1 := ⟨d - 1, by omega⟩
  obtain ⟨hrc, hb⟩ := grd_spec hb
  obtain ⟨p1, hc, hb⟩ := Option.bind_eq_some_iff.mp hb
  refine Rn.call0 (d := e) (As := [va_rf s0, .int s1]) (rest := []) rfl rfl rfl (by decide) rfl rfl rfl (bd_rcV hrc rfl) (by decide) (bd_lenC (n := 2) rfl (bd_slR (bd_slI bd_slN)) rfl) (bd_locC (n := 2) rfl (bd_slR (bd_slI bd_slN)) rfl (t_94 e (by omega) s0 s1 h _ hc)) ?_
  refine rn_aload_n (i := 0) rfl rfl ?_
  refine rn_gQ (c := 10) (k := 9) rfl (by decide) hb (fun x2 hb => ?_)
  refine rn_iconst (x := (nI 1)) rfl (by decide) ?_
  refine rn_dup2 rfl rfl (bd_cat_rf _) ?_
  refine rn_aI rfl hb (fun x3 hb => ?_)
  refine rn_iconst (x := (nI 1)) rfl (by decide) ?_
  refine rn_iadd rfl ?_
  refine rn_wI rfl hb (fun h4 hb => ?_)
  refine rn_aload_n (i := 0) rfl rfl ?_
  refine rn_gQ (c := 10) (k := 9) rfl (by decide) hb (fun x5 hb => ?_)
  refine rn_iconst (x := (nI 3)) rfl (by decide) ?_
  refine rn_dup2 rfl rfl (bd_cat_rf _) ?_
  refine rn_aI rfl hb (fun x6 hb => ?_)
  refine rn_aload_n (i := 1) rfl rfl ?_
  obtain ⟨hrc, hb⟩ := grd_spec hb
  obtain ⟨p7, hc, hb⟩ := Option.bind_eq_some_iff.mp hb
  refine Rn.call1 (d := e) (As := [va_rf v1]) (rest := [.int x6, .int (nI 3), va_rf x5]) rfl rfl rfl (by decide) rfl rfl rfl (bd_rcV hrc rfl) (by rw [bd_cI (bd_cI (bd_cR (bd_cN)))]; decide) (bd_lenC (n := 6) rfl (bd_slR bd_slN) rfl) (bd_locC (n := 6) rfl (bd_slR bd_slN) rfl (t_95 e (by omega) v1 h4 _ hc)) ?_
  refine rn_iadd rfl ?_
  refine rn_wI rfl hb (fun h8 hb => ?_)
  obtain ⟨x9, ex9, hb⟩ := bnd_spec hb
  refine rn_iinc (i := 5) (y := x9) (L1 := [some (va_rf v0), some (va_rf v1), some (.int v2), some (.int v3), some (.int v4), some (.int x9), some (.int v6)]) rfl rfl (Nat.le_of_ble_eq_true rfl) (Or.inr rfl) (by rw [ex9]; rfl) rfl ?_
  refine rn_goto rfl rfl ?_
  exact K23 v0 v1 v2 v3 v4 x9 (some v6) h8 _ hb
def b_173_92 (k23 : Option Nat → Option Nat → Int32 → Int32 → Int32 → Hp → Option (Int32 × Hp)) (v0 : Option Nat) (v1 : Option Nat) (v2 : Int32) (v4 : Int32) (v5 : Int32) (s0 : Option Nat) (h : Hp) : Option (Int32 × Hp) :=
  b_173_93 k23 v0 v1 v2 v4 v5 s0 v2 h
theorem u_173_92 (d : Nat) (hd : 5 ≤ d) (k23 : Option Nat → Option Nat → Int32 → Int32 → Int32 → Hp → Option (Int32 × Hp)) (K23 : ∀ (v0 : Option Nat) (v1 : Option Nat) (v2 : Int32) (v3 : Int32) (v4 : Int32) (v5 : Int32) (v6 : Option (Int32)) (h : Hp) (r : Int32 × Hp), k23 v0 v1 v2 v4 v5 h = some r → Rn d 173 23 [some (va_rf v0), some (va_rf v1), some (.int v2), some (.int v3), some (.int v4), some (.int v5), v6.map Value.int] [] h (some (.int r.1), r.2)) (v0 : Option Nat) (v1 : Option Nat) (v2 : Int32) (v3 : Int32) (v4 : Int32) (v5 : Int32) (v6 : Int32) (s0 : Option Nat) (h : Hp) (r : Int32 × Hp) (hb : b_173_92 k23 v0 v1 v2 v4 v5 s0 h = some r) : Rn d 173 92 [some (va_rf v0), some (va_rf v1), some (.int v2), some (.int v3), some (.int v4), some (.int v5), some (.int v6)] [va_rf s0] h (some (.int r.1), r.2) := by
  unfold b_173_92 at hb
  refine rn_iload_n (i := 2) rfl rfl ?_
  exact u_173_93 d hd k23 K23 v0 v1 v2 v3 v4 v5 v6 s0 v2 h _ hb
def b_173_88 (k23 : Option Nat → Option Nat → Int32 → Int32 → Int32 → Hp → Option (Int32 × Hp)) (v0 : Option Nat) (v1 : Option Nat) (v2 : Int32) (v4 : Int32) (v5 : Int32) (s0 : Option Nat) (h : Hp) : Option (Int32 × Hp) :=
  b_173_93 k23 v0 v1 v2 v4 v5 s0 (-1 : Int32) h
theorem u_173_88 (d : Nat) (hd : 5 ≤ d) (k23 : Option Nat → Option Nat → Int32 → Int32 → Int32 → Hp → Option (Int32 × Hp)) (K23 : ∀ (v0 : Option Nat) (v1 : Option Nat) (v2 : Int32) (v3 : Int32) (v4 : Int32) (v5 : Int32) (v6 : Option (Int32)) (h : Hp) (r : Int32 × Hp), k23 v0 v1 v2 v4 v5 h = some r → Rn d 173 23 [some (va_rf v0), some (va_rf v1), some (.int v2), some (.int v3), some (.int v4), some (.int v5), v6.map Value.int] [] h (some (.int r.1), r.2)) (v0 : Option Nat) (v1 : Option Nat) (v2 : Int32) (v3 : Int32) (v4 : Int32) (v5 : Int32) (v6 : Int32) (s0 : Option Nat) (h : Hp) (r : Int32 × Hp) (hb : b_173_88 k23 v0 v1 v2 v4 v5 s0 h = some r) : Rn d 173 88 [some (va_rf v0), some (va_rf v1), some (.int v2), some (.int v3), some (.int v4), some (.int v5), some (.int v6)] [va_rf s0] h (some (.int r.1), r.2) := by
  unfold b_173_88 at hb
  refine rn_iconst (x := (-1 : Int32)) rfl (by decide) ?_
  refine rn_goto rfl rfl ?_
  exact u_173_93 d hd k23 K23 v0 v1 v2 v3 v4 v5 v6 s0 (-1 : Int32) h _ hb
def b_173_82 (k23 : Option Nat → Option Nat → Int32 → Int32 → Int32 → Hp → Option (Int32 × Hp)) (v0 : Option Nat) (v1 : Option Nat) (v2 : Int32) (v4 : Int32) (v5 : Int32) (v6 : Int32)  (h : Hp) : Option (Int32 × Hp) :=
  if v6 = 0 then b_173_92 k23 v0 v1 v2 v4 v5 v1 h else b_173_88 k23 v0 v1 v2 v4 v5 v1 h
theorem u_173_82 (d : Nat) (hd : 5 ≤ d) (k23 : Option Nat → Option Nat → Int32 → Int32 → Int32 → Hp → Option (Int32 × Hp)) (K23 : ∀ (v0 : Option Nat) (v1 : Option Nat) (v2 : Int32) (v3 : Int32) (v4 : Int32) (v5 : Int32) (v6 : Option (Int32)) (h : Hp) (r : Int32 × Hp), k23 v0 v1 v2 v4 v5 h = some r → Rn d 173 23 [some (va_rf v0), some (va_rf v1), some (.int v2), some (.int v3), some (.int v4), some (.int v5), v6.map Value.int] [] h (some (.int r.1), r.2)) (v0 : Option Nat) (v1 : Option Nat) (v2 : Int32) (v3 : Int32) (v4 : Int32) (v5 : Int32) (v6 : Int32)  (h : Hp) (r : Int32 × Hp) (hb : b_173_82 k23 v0 v1 v2 v4 v5 v6  h = some r) : Rn d 173 82 [some (va_rf v0), some (va_rf v1), some (.int v2), some (.int v3), some (.int v4), some (.int v5), some (.int v6)] [] h (some (.int r.1), r.2) := by
  unfold b_173_82 at hb
  refine rn_aload_n (i := 1) rfl rfl ?_
  refine rn_iload (i := 6) rfl rfl ?_
  refine rn_if_eq rfl rfl (fun hc => ?_) (fun hc => ?_)
  · exact u_173_92 d hd k23 K23 v0 v1 v2 v3 v4 v5 v6 v1 h _ (if_t hb hc)
  · exact u_173_88 d hd k23 K23 v0 v1 v2 v3 v4 v5 v6 v1 h _ (if_f hb hc)
def b_173_80   (h : Hp) : Option (Int32 × Hp) :=
  (grd (decide ((nI 0) = 0 ∨ (nI 0) = 1))).bind fun _ => some ((nI 0), h)
theorem u_173_80 (d : Nat) (hd : 5 ≤ d) (v0 : Option Nat) (v1 : Option Nat) (v2 : Int32) (v3 : Int32) (v4 : Int32) (v5 : Int32) (v6 : Int32)  (h : Hp) (r : Int32 × Hp) (hb : b_173_80   h = some r) : Rn d 173 80 [some (va_rf v0), some (va_rf v1), some (.int v2), some (.int v3), some (.int v4), some (.int v5), some (.int v6)] [] h (some (.int r.1), r.2) := by
  unfold b_173_80 at hb
  refine rn_iconst (x := (nI 0)) rfl (by decide) ?_
  obtain ⟨hz, hb⟩ := grd_spec hb
  obtain rfl := Option.some.inj hb
  exact rn_zret rfl rfl (of_decide_eq_true hz)
def b_173_70 (k23 : Option Nat → Option Nat → Int32 → Int32 → Int32 → Hp → Option (Int32 × Hp)) (v0 : Option Nat) (v1 : Option Nat) (v2 : Int32) (v4 : Int32) (v5 : Int32) (v6 : Int32) (s0 : Option Nat) (s1 : Int32) (s2 : Int32) (h : Hp) : Option (Int32 × Hp) :=
  (wI s0 s1 s2 h).bind fun h1 =>
  (gQ 10 9 v0 h1).bind fun x2 =>
  (aI 12 x2 (nI 0) h1).bind fun x3 =>
  if x3 = 0 then b_173_82 k23 v0 v1 v2 v4 v5 v6  h1 else b_173_80   h1
theorem u_173_70 (d : Nat) (hd : 5 ≤ d) (k23 : Option Nat → Option Nat → Int32 → Int32 → Int32 → Hp → Option (Int32 × Hp)) (K23 : ∀ (v0 : Option Nat) (v1 : Option Nat) (v2 : Int32) (v3 : Int32) (v4 : Int32) (v5 : Int32) (v6 : Option (Int32)) (h : Hp) (r : Int32 × Hp), k23 v0 v1 v2 v4 v5 h = some r → Rn d 173 23 [some (va_rf v0), some (va_rf v1), some (.int v2), some (.int v3), some (.int v4), some (.int v5), v6.map Value.int] [] h (some (.int r.1), r.2)) (v0 : Option Nat) (v1 : Option Nat) (v2 : Int32) (v3 : Int32) (v4 : Int32) (v5 : Int32) (v6 : Int32) (s0 : Option Nat) (s1 : Int32) (s2 : Int32) (h : Hp) (r : Int32 × Hp) (hb : b_173_70 k23 v0 v1 v2 v4 v5 v6 s0 s1 s2 h = some r) : Rn d 173 70 [some (va_rf v0), some (va_rf v1), some (.int v2), some (.int v3), some (.int v4), some (.int v5), some (.int v6)] [.int s2, .int s1, va_rf s0] h (some (.int r.1), r.2) := by
  unfold b_173_70 at hb
  refine rn_wI rfl hb (fun h1 hb => ?_)
  refine rn_aload_n (i := 0) rfl rfl ?_
  refine rn_gQ (c := 10) (k := 9) rfl (by decide) hb (fun x2 hb => ?_)
  refine rn_iconst (x := (nI 0)) rfl (by decide) ?_
  refine rn_aI rfl hb (fun x3 hb => ?_)
  refine rn_if_eq rfl rfl (fun hc => ?_) (fun hc => ?_)
  · exact u_173_82 d hd k23 K23 v0 v1 v2 v3 v4 v5 v6  h1 _ (if_t hb hc)
  · exact u_173_80 d hd v0 v1 v2 v3 v4 v5 v6  h1 _ (if_f hb hc)
def b_173_64 (k23 : Option Nat → Option Nat → Int32 → Int32 → Int32 → Hp → Option (Int32 × Hp)) (v0 : Option Nat) (v1 : Option Nat) (v2 : Int32) (v4 : Int32) (v5 : Int32) (v6 : Int32) (s0 : Option Nat) (s1 : Int32) (h : Hp) : Option (Int32 × Hp) :=
  (grd (rC 10 v0 h)).bind fun _ =>
  (f_174 v0 v1 v2 h).bind fun p1 =>
  b_173_70 k23 v0 v1 v2 v4 v5 v6 s0 s1 p1.1 p1.2
theorem u_173_64 (d : Nat) (hd : 5 ≤ d) (k23 : Option Nat → Option Nat → Int32 → Int32 → Int32 → Hp → Option (Int32 × Hp)) (K23 : ∀ (v0 : Option Nat) (v1 : Option Nat) (v2 : Int32) (v3 : Int32) (v4 : Int32) (v5 : Int32) (v6 : Option (Int32)) (h : Hp) (r : Int32 × Hp), k23 v0 v1 v2 v4 v5 h = some r → Rn d 173 23 [some (va_rf v0), some (va_rf v1), some (.int v2), some (.int v3), some (.int v4), some (.int v5), v6.map Value.int] [] h (some (.int r.1), r.2)) (v0 : Option Nat) (v1 : Option Nat) (v2 : Int32) (v3 : Int32) (v4 : Int32) (v5 : Int32) (v6 : Int32) (s0 : Option Nat) (s1 : Int32) (h : Hp) (r : Int32 × Hp) (hb : b_173_64 k23 v0 v1 v2 v4 v5 v6 s0 s1 h = some r) : Rn d 173 64 [some (va_rf v0), some (va_rf v1), some (.int v2), some (.int v3), some (.int v4), some (.int v5), some (.int v6)] [.int s1, va_rf s0] h (some (.int r.1), r.2) := by
  unfold b_173_64 at hb
  obtain ⟨e, rfl⟩ : ∃ e, d = e + 1 := ⟨d - 1, by omega⟩
  refine rn_aload_n (i := 0) rfl rfl ?_
  refine rn_aload_n (i := 1) rfl rfl ?_
  refine rn_iload_n (i := 2) rfl rfl ?_
  obtain ⟨hrc, hb⟩ := grd_spec hb
  obtain ⟨p1, hc, hb⟩ := Option.bind_eq_some_iff.mp hb
  refine Rn.call1 (d := e) (As := [va_rf v0, va_rf v1, .int v2]) (rest := [.int s1, va_rf s0]) rfl rfl rfl (by decide) rfl rfl rfl (bd_rcV hrc rfl) (by rw [bd_cI (bd_cR (bd_cN))]; decide) (bd_lenC (n := 4) rfl (bd_slR (bd_slR (bd_slI bd_slN))) rfl) (bd_locC (n := 4) rfl (bd_slR (bd_slR (bd_slI bd_slN))) rfl (t_174 e (by omega) v0 v1 v2 h _ hc)) ?_
  exact u_173_70 (e + 1) hd k23 K23 v0 v1 v2 v3 v4 v5 v6 s0 s1 p1.1 p1.2 _ hb
def b_173_60 (k23 : Option Nat → Option Nat → Int32 → Int32 → Int32 → Hp → Option (Int32 × Hp)) (v0 : Option Nat) (v1 : Option Nat) (v2 : Int32) (v4 : Int32) (v5 : Int32) (v6 : Int32) (s0 : Option Nat) (s1 : Int32) (h : Hp) : Option (Int32 × Hp) :=
  b_173_70 k23 v0 v1 v2 v4 v5 v6 s0 s1 (nI 0) h
theorem u_173_60 (d : Nat) (hd : 5 ≤ d) (k23 : Option Nat → Option Nat → Int32 → Int32 → Int32 → Hp → Option (Int32 × Hp)) (K23 : ∀ (v0 : Option Nat) (v1 : Option Nat) (v2 : Int32) (v3 : Int32) (v4 : Int32) (v5 : Int32) (v6 : Option (Int32)) (h : Hp) (r : Int32 × Hp), k23 v0 v1 v2 v4 v5 h = some r → Rn d 173 23 [some (va_rf v0), some (va_rf v1), some (.int v2), some (.int v3), some (.int v4), some (.int v5), v6.map Value.int] [] h (some (.int r.1), r.2)) (v0 : Option Nat) (v1 : Option Nat) (v2 : Int32) (v3 : Int32) (v4 : Int32) (v5 : Int32) (v6 : Int32) (s0 : Option Nat) (s1 : Int32) (h : Hp) (r : Int32 × Hp) (hb : b_173_60 k23 v0 v1 v2 v4 v5 v6 s0 s1 h = some r) : Rn d 173 60 [some (va_rf v0), some (va_rf v1), some (.int v2), some (.int v3), some (.int v4), some (.int v5), some (.int v6)] [.int s1, va_rf s0] h (some (.int r.1), r.2) := by
  unfold b_173_60 at hb
  refine rn_iconst (x := (nI 0)) rfl (by decide) ?_
  refine rn_goto rfl rfl ?_
  exact u_173_70 d hd k23 K23 v0 v1 v2 v3 v4 v5 v6 s0 s1 (nI 0) h _ hb
def b_173_48 (k23 : Option Nat → Option Nat → Int32 → Int32 → Int32 → Hp → Option (Int32 × Hp)) (v0 : Option Nat) (v1 : Option Nat) (v2 : Int32) (v4 : Int32) (v5 : Int32) (s0 : Int32) (h : Hp) : Option (Int32 × Hp) :=
  (gQ 10 9 v0 h).bind fun x1 =>
  if s0 = 0 then b_173_64 k23 v0 v1 v2 v4 v5 s0 x1 (nI 0) h else b_173_60 k23 v0 v1 v2 v4 v5 s0 x1 (nI 0) h
theorem u_173_48 (d : Nat) (hd : 5 ≤ d) (k23 : Option Nat → Option Nat → Int32 → Int32 → Int32 → Hp → Option (Int32 × Hp)) (K23 : ∀ (v0 : Option Nat) (v1 : Option Nat) (v2 : Int32) (v3 : Int32) (v4 : Int32) (v5 : Int32) (v6 : Option (Int32)) (h : Hp) (r : Int32 × Hp), k23 v0 v1 v2 v4 v5 h = some r → Rn d 173 23 [some (va_rf v0), some (va_rf v1), some (.int v2), some (.int v3), some (.int v4), some (.int v5), v6.map Value.int] [] h (some (.int r.1), r.2)) (v0 : Option Nat) (v1 : Option Nat) (v2 : Int32) (v3 : Int32) (v4 : Int32) (v5 : Int32) (v6 : Option (Int32)) (s0 : Int32) (h : Hp) (r : Int32 × Hp) (hb : b_173_48 k23 v0 v1 v2 v4 v5 s0 h = some r) : Rn d 173 48 [some (va_rf v0), some (va_rf v1), some (.int v2), some (.int v3), some (.int v4), some (.int v5), v6.map Value.int] [.int s0] h (some (.int r.1), r.2) := by
  unfold b_173_48 at hb
  refine rn_istore (i := 6) (L1 := [some (va_rf v0), some (va_rf v1), some (.int v2), some (.int v3), some (.int v4), some (.int v5), some (.int s0)]) rfl (Nat.le_of_ble_eq_true rfl) (Or.inr rfl) rfl ?_
  refine rn_aload_n (i := 0) rfl rfl ?_
  refine rn_gQ (c := 10) (k := 9) rfl (by decide) hb (fun x1 hb => ?_)
  refine rn_iconst (x := (nI 0)) rfl (by decide) ?_
  refine rn_iload (i := 6) rfl rfl ?_
  refine rn_if_eq rfl rfl (fun hc => ?_) (fun hc => ?_)
  · exact u_173_64 d hd k23 K23 v0 v1 v2 v3 v4 v5 s0 x1 (nI 0) h _ (if_t hb hc)
  · exact u_173_60 d hd k23 K23 v0 v1 v2 v3 v4 v5 s0 x1 (nI 0) h _ (if_f hb hc)
def b_173_47 (k23 : Option Nat → Option Nat → Int32 → Int32 → Int32 → Hp → Option (Int32 × Hp)) (v0 : Option Nat) (v1 : Option Nat) (v2 : Int32) (v4 : Int32) (v5 : Int32)  (h : Hp) : Option (Int32 × Hp) :=
  b_173_48 k23 v0 v1 v2 v4 v5 (nI 0) h
theorem u_173_47 (d : Nat) (hd : 5 ≤ d) (k23 : Option Nat → Option Nat → Int32 → Int32 → Int32 → Hp → Option (Int32 × Hp)) (K23 : ∀ (v0 : Option Nat) (v1 : Option Nat) (v2 : Int32) (v3 : Int32) (v4 : Int32) (v5 : Int32) (v6 : Option (Int32)) (h : Hp) (r : Int32 × Hp), k23 v0 v1 v2 v4 v5 h = some r → Rn d 173 23 [some (va_rf v0), some (va_rf v1), some (.int v2), some (.int v3), some (.int v4), some (.int v5), v6.map Value.int] [] h (some (.int r.1), r.2)) (v0 : Option Nat) (v1 : Option Nat) (v2 : Int32) (v3 : Int32) (v4 : Int32) (v5 : Int32) (v6 : Option (Int32))  (h : Hp) (r : Int32 × Hp) (hb : b_173_47 k23 v0 v1 v2 v4 v5  h = some r) : Rn d 173 47 [some (va_rf v0), some (va_rf v1), some (.int v2), some (.int v3), some (.int v4), some (.int v5), v6.map Value.int] [] h (some (.int r.1), r.2) := by
  unfold b_173_47 at hb
  refine rn_iconst (x := (nI 0)) rfl (by decide) ?_
  exact u_173_48 d hd k23 K23 v0 v1 v2 v3 v4 v5 v6 (nI 0) h _ hb
def b_173_43 (k23 : Option Nat → Option Nat → Int32 → Int32 → Int32 → Hp → Option (Int32 × Hp)) (v0 : Option Nat) (v1 : Option Nat) (v2 : Int32) (v4 : Int32) (v5 : Int32)  (h : Hp) : Option (Int32 × Hp) :=
  b_173_48 k23 v0 v1 v2 v4 v5 (nI 1) h
theorem u_173_43 (d : Nat) (hd : 5 ≤ d) (k23 : Option Nat → Option Nat → Int32 → Int32 → Int32 → Hp → Option (Int32 × Hp)) (K23 : ∀ (v0 : Option Nat) (v1 : Option Nat) (v2 : Int32) (v3 : Int32) (v4 : Int32) (v5 : Int32) (v6 : Option (Int32)) (h : Hp) (r : Int32 × Hp), k23 v0 v1 v2 v4 v5 h = some r → Rn d 173 23 [some (va_rf v0), some (va_rf v1), some (.int v2), some (.int v3), some (.int v4), some (.int v5), v6.map Value.int] [] h (some (.int r.1), r.2)) (v0 : Option Nat) (v1 : Option Nat) (v2 : Int32) (v3 : Int32) (v4 : Int32) (v5 : Int32) (v6 : Option (Int32))  (h : Hp) (r : Int32 × Hp) (hb : b_173_43 k23 v0 v1 v2 v4 v5  h = some r) : Rn d 173 43 [some (va_rf v0), some (va_rf v1), some (.int v2), some (.int v3), some (.int v4), some (.int v5), v6.map Value.int] [] h (some (.int r.1), r.2) := by
  unfold b_173_43 at hb
  refine rn_iconst (x := (nI 1)) rfl (by decide) ?_
  refine rn_goto rfl rfl ?_
  exact u_173_48 d hd k23 K23 v0 v1 v2 v3 v4 v5 v6 (nI 1) h _ hb
def b_173_35 (k23 : Option Nat → Option Nat → Int32 → Int32 → Int32 → Hp → Option (Int32 × Hp)) (v0 : Option Nat) (v1 : Option Nat) (v2 : Int32) (v4 : Int32) (v5 : Int32)  (h : Hp) : Option (Int32 × Hp) :=
  (grd (rC 7 v1 h)).bind fun _ =>
  (f_96 v1 v2 h).bind fun p1 =>
  if p1.1 = 0 then b_173_47 k23 v0 v1 v2 v4 v5  p1.2 else b_173_43 k23 v0 v1 v2 v4 v5  p1.2
theorem u_173_35 (d : Nat) (hd : 5 ≤ d) (k23 : Option Nat → Option Nat → Int32 → Int32 → Int32 → Hp → Option (Int32 × Hp)) (K23 : ∀ (v0 : Option Nat) (v1 : Option Nat) (v2 : Int32) (v3 : Int32) (v4 : Int32) (v5 : Int32) (v6 : Option (Int32)) (h : Hp) (r : Int32 × Hp), k23 v0 v1 v2 v4 v5 h = some r → Rn d 173 23 [some (va_rf v0), some (va_rf v1), some (.int v2), some (.int v3), some (.int v4), some (.int v5), v6.map Value.int] [] h (some (.int r.1), r.2)) (v0 : Option Nat) (v1 : Option Nat) (v2 : Int32) (v3 : Int32) (v4 : Int32) (v5 : Int32) (v6 : Option (Int32))  (h : Hp) (r : Int32 × Hp) (hb : b_173_35 k23 v0 v1 v2 v4 v5  h = some r) : Rn d 173 35 [some (va_rf v0), some (va_rf v1), some (.int v2), some (.int v3), some (.int v4), some (.int v5), v6.map Value.int] [] h (some (.int r.1), r.2) := by
  unfold b_173_35 at hb
  obtain ⟨e, rfl⟩ : ∃ e, d = e + 1 := ⟨d - 1, by omega⟩
  refine rn_aload_n (i := 1) rfl rfl ?_
  refine rn_iload_n (i := 2) rfl rfl ?_
  obtain ⟨hrc, hb⟩ := grd_spec hb
  obtain ⟨p1, hc, hb⟩ := Option.bind_eq_some_iff.mp hb
  refine Rn.call1 (d := e) (As := [va_rf v1, .int v2]) (rest := []) rfl rfl rfl (by decide) rfl rfl rfl (bd_rcV hrc rfl) (by decide) (bd_lenC (n := 2) rfl (bd_slR (bd_slI bd_slN)) rfl) (bd_locC (n := 2) rfl (bd_slR (bd_slI bd_slN)) rfl (t_96 e (by omega) v1 v2 h _ hc)) ?_
  refine rn_if_eq rfl rfl (fun hc => ?_) (fun hc => ?_)
  · exact u_173_47 (e + 1) hd k23 K23 v0 v1 v2 v3 v4 v5 v6  p1.2 _ (if_t hb hc)
  · exact u_173_43 (e + 1) hd k23 K23 v0 v1 v2 v3 v4 v5 v6  p1.2 _ (if_f hb hc)
def b_173_30 (k23 : Option Nat → Option Nat → Int32 → Int32 → Int32 → Hp → Option (Int32 × Hp)) (v0 : Option Nat) (v1 : Option Nat) (v2 : Int32) (v4 : Int32) (v5 : Int32)  (h : Hp) : Option (Int32 × Hp) :=
  if v5 ≤ 0 then b_173_47 k23 v0 v1 v2 v4 v5  h else b_173_35 k23 v0 v1 v2 v4 v5  h
theorem u_173_30 (d : Nat) (hd : 5 ≤ d) (k23 : Option Nat → Option Nat → Int32 → Int32 → Int32 → Hp → Option (Int32 × Hp)) (K23 : ∀ (v0 : Option Nat) (v1 : Option Nat) (v2 : Int32) (v3 : Int32) (v4 : Int32) (v5 : Int32) (v6 : Option (Int32)) (h : Hp) (r : Int32 × Hp), k23 v0 v1 v2 v4 v5 h = some r → Rn d 173 23 [some (va_rf v0), some (va_rf v1), some (.int v2), some (.int v3), some (.int v4), some (.int v5), v6.map Value.int] [] h (some (.int r.1), r.2)) (v0 : Option Nat) (v1 : Option Nat) (v2 : Int32) (v3 : Int32) (v4 : Int32) (v5 : Int32) (v6 : Option (Int32))  (h : Hp) (r : Int32 × Hp) (hb : b_173_30 k23 v0 v1 v2 v4 v5  h = some r) : Rn d 173 30 [some (va_rf v0), some (va_rf v1), some (.int v2), some (.int v3), some (.int v4), some (.int v5), v6.map Value.int] [] h (some (.int r.1), r.2) := by
  unfold b_173_30 at hb
  refine rn_iload (i := 5) rfl rfl ?_
  refine rn_if_le rfl rfl (fun hc => ?_) (fun hc => ?_)
  · exact u_173_47 d hd k23 K23 v0 v1 v2 v3 v4 v5 v6  h _ (if_t hb hc)
  · exact u_173_35 d hd k23 K23 v0 v1 v2 v3 v4 v5 v6  h _ (if_f hb hc)
def b_173_23 (k23 : Option Nat → Option Nat → Int32 → Int32 → Int32 → Hp → Option (Int32 × Hp)) (v0 : Option Nat) (v1 : Option Nat) (v2 : Int32) (v4 : Int32) (v5 : Int32)  (h : Hp) : Option (Int32 × Hp) :=
  if v4 ≤ v5 then b_173_125   h else b_173_30 k23 v0 v1 v2 v4 v5  h
theorem u_173_23 (d : Nat) (hd : 5 ≤ d) (k23 : Option Nat → Option Nat → Int32 → Int32 → Int32 → Hp → Option (Int32 × Hp)) (K23 : ∀ (v0 : Option Nat) (v1 : Option Nat) (v2 : Int32) (v3 : Int32) (v4 : Int32) (v5 : Int32) (v6 : Option (Int32)) (h : Hp) (r : Int32 × Hp), k23 v0 v1 v2 v4 v5 h = some r → Rn d 173 23 [some (va_rf v0), some (va_rf v1), some (.int v2), some (.int v3), some (.int v4), some (.int v5), v6.map Value.int] [] h (some (.int r.1), r.2)) (v0 : Option Nat) (v1 : Option Nat) (v2 : Int32) (v3 : Int32) (v4 : Int32) (v5 : Int32) (v6 : Option (Int32))  (h : Hp) (r : Int32 × Hp) (hb : b_173_23 k23 v0 v1 v2 v4 v5  h = some r) : Rn d 173 23 [some (va_rf v0), some (va_rf v1), some (.int v2), some (.int v3), some (.int v4), some (.int v5), v6.map Value.int] [] h (some (.int r.1), r.2) := by
  unfold b_173_23 at hb
  refine rn_iload (i := 5) rfl rfl ?_
  refine rn_iload (i := 4) rfl rfl ?_
  refine rn_icmp_ge rfl rfl (fun hc => ?_) (fun hc => ?_)
  · exact u_173_125 d hd v0 v1 v2 v3 v4 v5 v6  h _ (if_t hb hc)
  · exact u_173_30 d hd k23 K23 v0 v1 v2 v3 v4 v5 v6  h _ (if_f hb hc)
def l_173_23 : Nat → Option Nat → Option Nat → Int32 → Int32 → Int32 → Hp → Option (Int32 × Hp)
  | 0, _, _, _, _, _, _ => none
  | n + 1, v0, v1, v2, v4, v5, h => b_173_23 (l_173_23 n) v0 v1 v2 v4 v5 h
theorem w_173_23 (d : Nat) (hd : 5 ≤ d) : ∀ (n : Nat) (v0 : Option Nat) (v1 : Option Nat) (v2 : Int32) (v3 : Int32) (v4 : Int32) (v5 : Int32) (v6 : Option (Int32)) (h : Hp) (r : Int32 × Hp), l_173_23 n v0 v1 v2 v4 v5 h = some r → Rn d 173 23 [some (va_rf v0), some (va_rf v1), some (.int v2), some (.int v3), some (.int v4), some (.int v5), v6.map Value.int] [] h (some (.int r.1), r.2) := by
  intro n
  induction n with
  | zero => intro v0 v1 v2 v3 v4 v5 v6 h r hb; cases hb
  | succ n ih => intro v0 v1 v2 v3 v4 v5 v6 h r hb; exact u_173_23 d hd (l_173_23 n) ih v0 v1 v2 v3 v4 v5 v6 h r hb
def b_173_18 (v0 : Option Nat) (v1 : Option Nat) (v2 : Int32) (s0 : Int32) (h : Hp) : Option (Int32 × Hp) :=
  bnd ((nI 0)) fun x1 =>
  l_173_23 FU v0 v1 v2 s0 x1 h
theorem u_173_18 (d : Nat) (hd : 5 ≤ d) (v0 : Option Nat) (v1 : Option Nat) (v2 : Int32) (v3 : Int32) (s0 : Int32) (h : Hp) (r : Int32 × Hp) (hb : b_173_18 v0 v1 v2 s0 h = some r) : Rn d 173 18 [some (va_rf v0), some (va_rf v1), some (.int v2), some (.int v3), none, none, none] [.int s0] h (some (.int r.1), r.2) := by
  unfold b_173_18 at hb
  refine rn_istore (i := 4) (L1 := [some (va_rf v0), some (va_rf v1), some (.int v2), some (.int v3), some (.int s0), none, none]) rfl (Nat.le_of_ble_eq_true rfl) (Or.inr rfl) rfl ?_
  refine rn_iconst (x := (nI 0)) rfl (by decide) ?_
  obtain ⟨x1, ex1, hb⟩ := bnd_spec hb
  refine rn_istore (i := 5) (L1 := [some (va_rf v0), some (va_rf v1), some (.int v2), some (.int v3), some (.int s0), some (.int x1), none]) rfl (Nat.le_of_ble_eq_true rfl) (Or.inr rfl) (by rw [ex1]; rfl) ?_
  exact w_173_23 d hd FU v0 v1 v2 v3 s0 x1 (none : Option (Int32)) h _ hb
def b_173_9 (v0 : Option Nat) (v1 : Option Nat) (v2 : Int32)  (h : Hp) : Option (Int32 × Hp) :=
  (grd (rC 7 v1 h)).bind fun _ =>
  (f_97 v1 v2 h).bind fun p1 =>
  b_173_18 v0 v1 v2 (if (nI 1) < p1.1 then p1.1 else (nI 1)) p1.2
theorem u_173_9 (d : Nat) (hd : 5 ≤ d) (v0 : Option Nat) (v1 : Option Nat) (v2 : Int32) (v3 : Int32)  (h : Hp) (r : Int32 × Hp) (hb : b_173_9 v0 v1 v2  h = some r) : Rn d 173 9 [some (va_rf v0), some (va_rf v1), some (.int v2), some (.int v3), none, none, none] [] h (some (.int r.1), r.2) := by
  unfold b_173_9 at hb
  obtain ⟨e, rfl⟩ : ∃ e, d = e + 1 := ⟨d - 1, by omega⟩
  refine rn_iconst (x := (nI 1)) rfl (by decide) ?_
  refine rn_aload_n (i := 1) rfl rfl ?_
  refine rn_iload_n (i := 2) rfl rfl ?_
  obtain ⟨hrc, hb⟩ := grd_spec hb
  obtain ⟨p1, hc, hb⟩ := Option.bind_eq_some_iff.mp hb
  refine Rn.call1 (d := e) (As := [va_rf v1, .int v2]) (rest := [.int (nI 1)]) rfl rfl rfl (by decide) rfl rfl rfl (bd_rcV hrc rfl) (by rw [bd_cI (bd_cN)]; decide) (bd_lenC (n := 3) rfl (bd_slR (bd_slI bd_slN)) rfl) (bd_locC (n := 3) rfl (bd_slR (bd_slI bd_slN)) rfl (t_97 e (by omega) v1 v2 h _ hc)) ?_
  refine rn_mm (f := fun x y => if x < y then y else x) rfl (Or.inl ⟨rfl, rfl⟩) (by decide) ?_
  exact u_173_18 (e + 1) hd v0 v1 v2 v3 (if (nI 1) < p1.1 then p1.1 else (nI 1)) p1.2 _ hb
def b_173_5 (v0 : Option Nat) (v1 : Option Nat) (v2 : Int32) (v3 : Int32)  (h : Hp) : Option (Int32 × Hp) :=
  b_173_18 v0 v1 v2 v3 h
theorem u_173_5 (d : Nat) (hd : 5 ≤ d) (v0 : Option Nat) (v1 : Option Nat) (v2 : Int32) (v3 : Int32)  (h : Hp) (r : Int32 × Hp) (hb : b_173_5 v0 v1 v2 v3  h = some r) : Rn d 173 5 [some (va_rf v0), some (va_rf v1), some (.int v2), some (.int v3), none, none, none] [] h (some (.int r.1), r.2) := by
  unfold b_173_5 at hb
  refine rn_iload_n (i := 3) rfl rfl ?_
  refine rn_goto rfl rfl ?_
  exact u_173_18 d hd v0 v1 v2 v3 v3 h _ hb
def b_173_0 (v0 : Option Nat) (v1 : Option Nat) (v2 : Int32) (v3 : Int32)  (h : Hp) : Option (Int32 × Hp) :=
  if (nI 4) ≤ v2 then b_173_9 v0 v1 v2  h else b_173_5 v0 v1 v2 v3  h
theorem u_173_0 (d : Nat) (hd : 5 ≤ d) (v0 : Option Nat) (v1 : Option Nat) (v2 : Int32) (v3 : Int32)  (h : Hp) (r : Int32 × Hp) (hb : b_173_0 v0 v1 v2 v3  h = some r) : Rn d 173 0 [some (va_rf v0), some (va_rf v1), some (.int v2), some (.int v3), none, none, none] [] h (some (.int r.1), r.2) := by
  unfold b_173_0 at hb
  refine rn_iload_n (i := 2) rfl rfl ?_
  refine rn_iconst (x := (nI 4)) rfl (by decide) ?_
  refine rn_icmp_ge rfl rfl (fun hc => ?_) (fun hc => ?_)
  · exact u_173_9 d hd v0 v1 v2 v3  h _ (if_t hb hc)
  · exact u_173_5 d hd v0 v1 v2 v3  h _ (if_f hb hc)
/-- BitingDoors.finishAct(LBitingDoors$Scene;II)Z -/
def f_173 (v0 : Option Nat) (v1 : Option Nat) (v2 : Int32) (v3 : Int32) (h : Hp) : Option (Int32 × Hp) := b_173_0 v0 v1 v2 v3 h
theorem t_173 (d : Nat) (hd : 5 ≤ d) (v0 : Option Nat) (v1 : Option Nat) (v2 : Int32) (v3 : Int32) (h : Hp) (r : Int32 × Hp) (hb : f_173 v0 v1 v2 v3 h = some r) : Rn d 173 0 [some (va_rf v0), some (va_rf v1), some (.int v2), some (.int v3), none, none, none] [] h (some (.int r.1), r.2) := by
  unfold f_173 at hb
  exact u_173_0 d hd v0 v1 v2 v3 h r hb
def b_172_85 (v0 : Option Nat) (v1 : Option Nat) (v2 : Int32)  (h : Hp) : Option (Int32 × Hp) :=
  (gQ 10 9 v0 h).bind fun x1 =>
  (gI 7 3 v1 h).bind fun x2 =>
  (wI x1 (nI 2) x2 h).bind fun h3 =>
  (gQ 10 9 v0 h3).bind fun x4 =>
  (grd (rC 7 v1 h3)).bind fun _ =>
  (f_86 v1 h3).bind fun p5 =>
  (wI x4 (nI 4) p5.1 p5.2).bind fun h6 =>
  some (v2, h6)
theorem u_172_85 (d : Nat) (hd : 6 ≤ d) (v0 : Option Nat) (v1 : Option Nat) (v2 : Int32) (v3 : Int32) (v4 : Int32)  (h : Hp) (r : Int32 × Hp) (hb : b_172_85 v0 v1 v2  h = some r) : Rn d 172 85 [some (va_rf v0), some (va_rf v1), some (.int v2), some (.int v3), some (.int v4)] [] h (some (.int r.1), r.2) := by
  unfold b_172_85 at hb
  obtain ⟨e, rfl⟩ : ∃ e, d = e + 1 := ⟨d - 1, by omega⟩
  refine rn_aload_n (i := 0) rfl rfl ?_
  refine rn_gQ (c := 10) (k := 9) rfl (by decide) hb (fun x1 hb => ?_)
  refine rn_iconst (x := (nI 2)) rfl (by decide) ?_
  refine rn_aload_n (i := 1) rfl rfl ?_
  refine rn_gI (c := 7) (k := 3) rfl (by decide) hb (fun x2 hb => ?_)
  refine rn_wI rfl hb (fun h3 hb => ?_)
  refine rn_aload_n (i := 0) rfl rfl ?_
  refine rn_gQ (c := 10) (k := 9) rfl (by decide) hb (fun x4 hb => ?_)
  refine rn_iconst (x := (nI 4)) rfl (by decide) ?_
  refine rn_aload_n (i := 1) rfl rfl ?_
  obtain ⟨hrc, hb⟩ := grd_spec hb
  obtain ⟨p5, hc, hb⟩ := Option.bind_eq_some_iff.mp hb
  refine Rn.call1 (d := e) (As := [va_rf v1]) (rest := [.int (nI 4), va_rf x4]) rfl rfl rfl (by decide) rfl rfl rfl (bd_rcV hrc rfl) (by rw [bd_cI (bd_cR (bd_cN))]; decide) (bd_lenC (n := 3) rfl (bd_slR bd_slN) rfl) (bd_locC (n := 3) rfl (bd_slR bd_slN) rfl (t_86 e (by omega) v1 h3 _ hc)) ?_
  refine rn_wI rfl hb (fun h6 hb => ?_)
  refine rn_iload_n (i := 2) rfl rfl ?_
  obtain rfl := Option.some.inj hb
  exact rn_iret rfl rfl
def b_172_79 (k37 : Option Nat → Option Nat → Int32 → Int32 → Int32 → Hp → Option (Int32 × Hp)) (v0 : Option Nat) (v1 : Option Nat) (v2 : Int32) (v3 : Int32) (v4 : Int32)  (h : Hp) : Option (Int32 × Hp) :=
  bnd (v4 + (nI 1)) fun x1 =>
  k37 v0 v1 v2 v3 x1 h
theorem u_172_79 (d : Nat) (hd : 6 ≤ d) (k37 : Option Nat → Option Nat → Int32 → Int32 → Int32 → Hp → Option (Int32 × Hp)) (K37 : ∀ (v0 : Option Nat) (v1 : Option Nat) (v2 : Int32) (v3 : Int32) (v4 : Int32) (h : Hp) (r : Int32 × Hp), k37 v0 v1 v2 v3 v4 h = some r → Rn d 172 37 [some (va_rf v0), some (va_rf v1), some (.int v2), some (.int v3), some (.int v4)] [] h (some (.int r.1), r.2)) (v0 : Option Nat) (v1 : Option Nat) (v2 : Int32) (v3 : Int32) (v4 : Int32)  (h : Hp) (r : Int32 × Hp) (hb : b_172_79 k37 v0 v1 v2 v3 v4  h = some r) : Rn d 172 79 [some (va_rf v0), some (va_rf v1), some (.int v2), some (.int v3), some (.int v4)] [] h (some (.int r.1), r.2) := by
  unfold b_172_79 at hb
  obtain ⟨x1, ex1, hb⟩ := bnd_spec hb
  refine rn_iinc (i := 4) (y := x1) (L1 := [some (va_rf v0), some (va_rf v1), some (.int v2), some (.int v3), some (.int x1)]) rfl rfl (Nat.le_of_ble_eq_true rfl) (Or.inr rfl) (by rw [ex1]; rfl) rfl ?_
  refine rn_goto rfl rfl ?_
  exact K37 v0 v1 v2 v3 x1 h _ hb
def b_172_76 (k37 : Option Nat → Option Nat → Int32 → Int32 → Int32 → Hp → Option (Int32 × Hp)) (v0 : Option Nat) (v1 : Option Nat) (v3 : Int32) (v4 : Int32)  (h : Hp) : Option (Int32 × Hp) :=
  b_172_79 k37 v0 v1 v4 v3 v4  h
theorem u_172_76 (d : Nat) (hd : 6 ≤ d) (k37 : Option Nat → Option Nat → Int32 → Int32 → Int32 → Hp → Option (Int32 × Hp)) (K37 : ∀ (v0 : Option Nat) (v1 : Option Nat) (v2 : Int32) (v3 : Int32) (v4 : Int32) (h : Hp) (r : Int32 × Hp), k37 v0 v1 v2 v3 v4 h = some r → Rn d 172 37 [some (va_rf v0), some (va_rf v1), some (.int v2), some (.int v3), some (.int v4)] [] h (some (.int r.1), r.2)) (v0 : Option Nat) (v1 : Option Nat) (v2 : Int32) (v3 : Int32) (v4 : Int32)  (h : Hp) (r : Int32 × Hp) (hb : b_172_76 k37 v0 v1 v3 v4  h = some r) : Rn d 172 76 [some (va_rf v0), some (va_rf v1), some (.int v2), some (.int v3), some (.int v4)] [] h (some (.int r.1), r.2) := by
  unfold b_172_76 at hb
  refine rn_iload (i := 4) rfl rfl ?_
  refine rn_istore_n (i := 2) (L1 := [some (va_rf v0), some (va_rf v1), some (.int v4), some (.int v3), some (.int v4)]) rfl (Nat.le_of_ble_eq_true rfl) (Or.inr (bd_wideR rfl)) rfl ?_
  exact u_172_79 d hd k37 K37 v0 v1 v4 v3 v4  h _ hb
def b_172_48 (k37 : Option Nat → Option Nat → Int32 → Int32 → Int32 → Hp → Option (Int32 × Hp)) (v0 : Option Nat) (v1 : Option Nat) (v2 : Int32) (v3 : Int32) (v4 : Int32)  (h : Hp) : Option (Int32 × Hp) :=
  (gQ 10 11 v0 h).bind fun x1 =>
  (gQ 0 0 x1 h).bind fun x2 =>
  (aI 12 x2 v4 h).bind fun x3 =>
  (gQ 10 11 v0 h).bind fun x4 =>
  (gQ 0 1 x4 h).bind fun x5 =>
  (aI 12 x5 v4 h).bind fun x6 =>
  (grd (rC 10 v0 h)).bind fun _ =>
  (f_173 v0 v1 x3 x6 h).bind fun p7 =>
  if ¬ p7.1 = 0 then b_172_79 k37 v0 v1 v2 v3 v4  p7.2 else b_172_76 k37 v0 v1 v3 v4  p7.2
theorem u_172_48 (d : Nat) (hd : 6 ≤ d) (k37 : Option Nat → Option Nat → Int32 → Int32 → Int32 → Hp → Option (Int32 × Hp)) (K37 : ∀ (v0 : Option Nat) (v1 : Option Nat) (v2 : Int32) (v3 : Int32) (v4 : Int32) (h : Hp) (r : Int32 × Hp), k37 v0 v1 v2 v3 v4 h = some r → Rn d 172 37 [some (va_rf v0), some (va_rf v1), some (.int v2), some (.int v3), some (.int v4)] [] h (some (.int r.1), r.2)) (v0 : Option Nat) (v1 : Option Nat) (v2 : Int32) (v3 : Int32) (v4 : Int32)  (h : Hp) (r : Int32 × Hp) (hb : b_172_48 k37 v0 v1 v2 v3 v4  h = some r) : Rn d 172 48 [some (va_rf v0), some (va_rf v1), some (.int v2), some (.int v3), some (.int v4)] [] h (some (.int r.1), r.2) := by
  unfold b_172_48 at hb
  obtain ⟨e, rfl⟩ : ∃ e, d = e + 1 := ⟨d - 1, by omega⟩
  refine rn_aload_n (i := 0) rfl rfl ?_
  refine rn_aload_n (i := 1) rfl rfl ?_
  refine rn_aload_n (i := 0) rfl rfl ?_
  refine rn_gQ (c := 10) (k := 11) rfl (by decide) hb (fun x1 hb => ?_)
  refine rn_gQ (c := 0) (k := 0) rfl (by decide) hb (fun x2 hb => ?_)
  refine rn_iload (i := 4) rfl rfl ?_
  refine rn_aI rfl hb (fun x3 hb => ?_)
  refine rn_aload_n (i := 0) rfl rfl ?_
  refine rn_gQ (c := 10) (k := 11) rfl (by decide) hb (fun x4 hb => ?_)
  refine rn_gQ (c := 0) (k := 1) rfl (by decide) hb (fun x5 hb => ?_)
  refine rn_iload (i := 4) rfl rfl ?_
  refine rn_aI rfl hb (fun x6 hb => ?_)
  obtain ⟨hrc, hb⟩ := grd_spec hb
  obtain ⟨p7, hc, hb⟩ := Option.bind_eq_some_iff.mp hb
  refine Rn.call1 (d := e) (As := [va_rf v0, va_rf v1, .int x3, .int x6]) (rest := []) rfl rfl rfl (by decide) rfl rfl rfl (bd_rcV hrc rfl) (by decide) (bd_lenC (n := 7) rfl (bd_slR (bd_slR (bd_slI (bd_slI bd_slN)))) rfl) (bd_locC (n := 7) rfl (bd_slR (bd_slR (bd_slI (bd_slI bd_slN)))) rfl (t_173 e (by omega) v0 v1 x3 x6 h _ hc)) ?_
  refine rn_if_ne rfl rfl (fun hc => ?_) (fun hc => ?_)
  · exact u_172_79 (e + 1) hd k37 K37 v0 v1 v2 v3 v4  p7.2 _ (if_t hb hc)
  · exact u_172_76 (e + 1) hd k37 K37 v0 v1 v2 v3 v4  p7.2 _ (if_f hb hc)
def b_172_43 (k37 : Option Nat → Option Nat → Int32 → Int32 → Int32 → Hp → Option (Int32 × Hp)) (v0 : Option Nat) (v1 : Option Nat) (v2 : Int32) (v3 : Int32) (v4 : Int32)  (h : Hp) : Option (Int32 × Hp) :=
  if ¬ v2 = (-1 : Int32) then b_172_85 v0 v1 v2  h else b_172_48 k37 v0 v1 v2 v3 v4  h
theorem u_172_43 (d : Nat) (hd : 6 ≤ d) (k37 : Option Nat → Option Nat → Int32 → Int32 → Int32 → Hp → Option (Int32 × Hp)) (K37 : ∀ (v0 : Option Nat) (v1 : Option Nat) (v2 : Int32) (v3 : Int32) (v4 : Int32) (h : Hp) (r : Int32 × Hp), k37 v0 v1 v2 v3 v4 h = some r → Rn d 172 37 [some (va_rf v0), some (va_rf v1), some (.int v2), some (.int v3), some (.int v4)] [] h (some (.int r.1), r.2)) (v0 : Option Nat) (v1 : Option Nat) (v2 : Int32) (v3 : Int32) (v4 : Int32)  (h : Hp) (r : Int32 × Hp) (hb : b_172_43 k37 v0 v1 v2 v3 v4  h = some r) : Rn d 172 43 [some (va_rf v0), some (va_rf v1), some (.int v2), some (.int v3), some (.int v4)] [] h (some (.int r.1), r.2) := by
  unfold b_172_43 at hb
  refine rn_iload_n (i := 2) rfl rfl ?_
  refine rn_iconst (x := (-1 : Int32)) rfl (by decide) ?_
  refine rn_icmp_ne rfl rfl (fun hc => ?_) (fun hc => ?_)
  · exact u_172_85 d hd v0 v1 v2 v3 v4  h _ (if_t hb hc)
  · exact u_172_48 d hd k37 K37 v0 v1 v2 v3 v4  h _ (if_f hb hc)
def b_172_37 (k37 : Option Nat → Option Nat → Int32 → Int32 → Int32 → Hp → Option (Int32 × Hp)) (v0 : Option Nat) (v1 : Option Nat) (v2 : Int32) (v3 : Int32) (v4 : Int32)  (h : Hp) : Option (Int32 × Hp) :=
  if v3 ≤ v4 then b_172_85 v0 v1 v2  h else b_172_43 k37 v0 v1 v2 v3 v4  h
theorem u_172_37 (d : Nat) (hd : 6 ≤ d) (k37 : Option Nat → Option Nat → Int32 → Int32 → Int32 → Hp → Option (Int32 × Hp)) (K37 : ∀ (v0 : Option Nat) (v1 : Option Nat) (v2 : Int32) (v3 : Int32) (v4 : Int32) (h : Hp) (r : Int32 × Hp), k37 v0 v1 v2 v3 v4 h = some r → Rn d 172 37 [some (va_rf v0), some (va_rf v1), some (.int v2), some (.int v3), some (.int v4)] [] h (some (.int r.1), r.2)) (v0 : Option Nat) (v1 : Option Nat) (v2 : Int32) (v3 : Int32) (v4 : Int32)  (h : Hp) (r : Int32 × Hp) (hb : b_172_37 k37 v0 v1 v2 v3 v4  h = some r) : Rn d 172 37 [some (va_rf v0), some (va_rf v1), some (.int v2), some (.int v3), some (.int v4)] [] h (some (.int r.1), r.2) := by
  unfold b_172_37 at hb
  refine rn_iload (i := 4) rfl rfl ?_
  refine rn_iload_n (i := 3) rfl rfl ?_
  refine rn_icmp_ge rfl rfl (fun hc => ?_) (fun hc => ?_)
  · exact u_172_85 d hd v0 v1 v2 v3 v4  h _ (if_t hb hc)
  · exact u_172_43 d hd k37 K37 v0 v1 v2 v3 v4  h _ (if_f hb hc)
def l_172_37 : Nat → Option Nat → Option Nat → Int32 → Int32 → Int32 → Hp → Option (Int32 × Hp)
  | 0, _, _, _, _, _, _ => none
  | n + 1, v0, v1, v2, v3, v4, h => b_172_37 (l_172_37 n) v0 v1 v2 v3 v4 h
theorem w_172_37 (d : Nat) (hd : 6 ≤ d) : ∀ (n : Nat) (v0 : Option Nat) (v1 : Option Nat) (v2 : Int32) (v3 : Int32) (v4 : Int32) (h : Hp) (r : Int32 × Hp), l_172_37 n v0 v1 v2 v3 v4 h = some r → Rn d 172 37 [some (va_rf v0), some (va_rf v1), some (.int v2), some (.int v3), some (.int v4)] [] h (some (.int r.1), r.2) := by
  intro n
  induction n with
  | zero => intro v0 v1 v2 v3 v4 h r hb; cases hb
  | succ n ih => intro v0 v1 v2 v3 v4 h r hb; exact u_172_37 d hd (l_172_37 n) ih v0 v1 v2 v3 v4 h r hb
def b_172_33 (v0 : Option Nat) (v1 : Option Nat) (v2 : Int32) (s0 : Int32) (h : Hp) : Option (Int32 × Hp) :=
  bnd ((nI 0)) fun x1 =>
  l_172_37 FU v0 v1 v2 s0 x1 h
theorem u_172_33 (d : Nat) (hd : 6 ≤ d) (v0 : Option Nat) (v1 : Option Nat) (v2 : Int32) (s0 : Int32) (h : Hp) (r : Int32 × Hp) (hb : b_172_33 v0 v1 v2 s0 h = some r) : Rn d 172 33 [some (va_rf v0), some (va_rf v1), some (.int v2), none, none] [.int s0] h (some (.int r.1), r.2) := by
  unfold b_172_33 at hb
  refine rn_istore_n (i := 3) (L1 := [some (va_rf v0), some (va_rf v1), some (.int v2), some (.int s0), none]) rfl (Nat.le_of_ble_eq_true rfl) (Or.inr rfl) rfl ?_
  refine rn_iconst (x := (nI 0)) rfl (by decide) ?_
  obtain ⟨x1, ex1, hb⟩ := bnd_spec hb
  refine rn_istore (i := 4) (L1 := [some (va_rf v0), some (va_rf v1), some (.int v2), some (.int s0), some (.int x1)]) rfl (Nat.le_of_ble_eq_true rfl) (Or.inr rfl) (by rw [ex1]; rfl) ?_
  exact w_172_37 d hd FU v0 v1 v2 s0 x1 h _ hb
def b_172_26 (v0 : Option Nat) (v1 : Option Nat) (v2 : Int32)  (h : Hp) : Option (Int32 × Hp) :=
  (gQ 10 11 v0 h).bind fun x1 =>
  (gI 0 2 x1 h).bind fun x2 =>
  b_172_33 v0 v1 v2 x2 h
theorem u_172_26 (d : Nat) (hd : 6 ≤ d) (v0 : Option Nat) (v1 : Option Nat) (v2 : Int32)  (h : Hp) (r : Int32 × Hp) (hb : b_172_26 v0 v1 v2  h = some r) : Rn d 172 26 [some (va_rf v0), some (va_rf v1), some (.int v2), none, none] [] h (some (.int r.1), r.2) := by
  unfold b_172_26 at hb
  refine rn_aload_n (i := 0) rfl rfl ?_
  refine rn_gQ (c := 10) (k := 11) rfl (by decide) hb (fun x1 hb => ?_)
  refine rn_gI (c := 0) (k := 2) rfl (by decide) hb (fun x2 hb => ?_)
  exact u_172_33 d hd v0 v1 v2 x2 h _ hb
def b_172_22 (v0 : Option Nat) (v1 : Option Nat) (v2 : Int32)  (h : Hp) : Option (Int32 × Hp) :=
  b_172_33 v0 v1 v2 (nI 0) h
theorem u_172_22 (d : Nat) (hd : 6 ≤ d) (v0 : Option Nat) (v1 : Option Nat) (v2 : Int32)  (h : Hp) (r : Int32 × Hp) (hb : b_172_22 v0 v1 v2  h = some r) : Rn d 172 22 [some (va_rf v0), some (va_rf v1), some (.int v2), none, none] [] h (some (.int r.1), r.2) := by
  unfold b_172_22 at hb
  refine rn_iconst (x := (nI 0)) rfl (by decide) ?_
  refine rn_goto rfl rfl ?_
  exact u_172_33 d hd v0 v1 v2 (nI 0) h _ hb
def b_172_0 (v0 : Option Nat) (v1 : Option Nat)  (h : Hp) : Option (Int32 × Hp) :=
  (gQ 10 9 v0 h).bind fun x1 =>
  (f_306 x1 (nI 0) h).bind fun p2 =>
  (pZ 10 10 v0 (nI 1) p2).bind fun h3 =>
  bnd ((-1 : Int32)) fun x4 =>
  (gQ 10 11 v0 h3).bind fun x5 =>
  if ¬ x5 = none then b_172_26 v0 v1 x4  h3 else b_172_22 v0 v1 x4  h3
theorem u_172_0 (d : Nat) (hd : 6 ≤ d) (v0 : Option Nat) (v1 : Option Nat)  (h : Hp) (r : Int32 × Hp) (hb : b_172_0 v0 v1  h = some r) : Rn d 172 0 [some (va_rf v0), some (va_rf v1), none, none, none] [] h (some (.int r.1), r.2) := by
  unfold b_172_0 at hb
  obtain ⟨e, rfl⟩ : ∃ e, d = e + 1 := ⟨d - 1, by omega⟩
  refine rn_aload_n (i := 0) rfl rfl ?_
  refine rn_gQ (c := 10) (k := 9) rfl (by decide) hb (fun x1 hb => ?_)
  refine rn_iconst (x := (nI 0)) rfl (by decide) ?_
  obtain ⟨p2, hc, hb⟩ := Option.bind_eq_some_iff.mp hb
  refine Rn.call0 (d := e) (As := [va_rf x1, .int (nI 0)]) (rest := []) rfl rfl rfl (by decide) rfl rfl rfl rfl (by decide) (bd_lenC (n := 4) rfl (bd_slR (bd_slI bd_slN)) rfl) (bd_locC (n := 4) rfl (bd_slR (bd_slI bd_slN)) rfl (t_306 e (by omega) x1 (nI 0) h _ hc)) ?_
  refine rn_aload_n (i := 0) rfl rfl ?_
  refine rn_iconst (x := (nI 1)) rfl (by decide) ?_
  refine rn_pZ (c := 10) (k := 10) rfl (by decide) hb (fun h3 hb => ?_)
  refine rn_iconst (x := (-1 : Int32)) rfl (by decide) ?_
  obtain ⟨x4, ex4, hb⟩ := bnd_spec hb
  refine rn_istore_n (i := 2) (L1 := [some (va_rf v0), some (va_rf v1), some (.int x4), none, none]) rfl (Nat.le_of_ble_eq_true rfl) (Or.inr (bd_wideR rfl)) (by rw [ex4]; rfl) ?_
  refine rn_aload_n (i := 0) rfl rfl ?_
  refine rn_gQ (c := 10) (k := 11) rfl (by decide) hb (fun x5 hb => ?_)
  refine rn_ifnonnull rfl rfl (fun hc => ?_) (fun hc => ?_)
  · exact u_172_26 (e + 1) hd v0 v1 x4  h3 _ (if_t hb hc)
  · exact u_172_22 (e + 1) hd v0 v1 x4  h3 _ (if_f hb (fun z => z hc))
/-- BitingDoors.follow(LBitingDoors$Scene;)I -/
def f_172 (v0 : Option Nat) (v1 : Option Nat) (h : Hp) : Option (Int32 × Hp) := b_172_0 v0 v1 h
theorem t_172 (d : Nat) (hd : 6 ≤ d) (v0 : Option Nat) (v1 : Option Nat) (h : Hp) (r : Int32 × Hp) (hb : f_172 v0 v1 h = some r) : Rn d 172 0 [some (va_rf v0), some (va_rf v1), none, none, none] [] h (some (.int r.1), r.2) := by
  unfold f_172 at hb
  exact u_172_0 d hd v0 v1 h r hb
def b_158_0 (v0 : Option Nat)  (h : Hp) : Option (Int32 × Hp) :=
  (gQ 10 2 v0 h).bind fun x1 =>
  (gQ 10 1 v0 h).bind fun x2 =>
  (grd (rC 7 x1 h)).bind fun _ =>
  (f_84 x1 x2 h).bind fun p3 =>
  (gQ 10 2 v0 p3).bind fun x4 =>
  (grd (rC 10 v0 p3)).bind fun _ =>
  (f_172 v0 x4 p3).bind fun p5 =>
  some (p5.1, p5.2)
theorem u_158_0 (d : Nat) (hd : 7 ≤ d) (v0 : Option Nat)  (h : Hp) (r : Int32 × Hp) (hb : b_158_0 v0  h = some r) : Rn d 158 0 [some (va_rf v0)] [] h (some (.int r.1), r.2) := by
  unfold b_158_0 at hb
  obtain ⟨e, rfl⟩ : ∃ e, d = e + 1 := ⟨d - 1, by omega⟩
  refine rn_aload_n (i := 0) rfl rfl ?_
  refine rn_gQ (c := 10) (k := 2) rfl (by decide) hb (fun x1 hb => ?_)
  refine rn_aload_n (i := 0) rfl rfl ?_
  refine rn_gQ (c := 10) (k := 1) rfl (by decide) hb (fun x2 hb => ?_)
  obtain ⟨hrc, hb⟩ := grd_spec hb
  obtain ⟨p3, hc, hb⟩ := Option.bind_eq_some_iff.mp hb
  refine Rn.call0 (d := e) (As := [va_rf x1, va_rf x2]) (rest := []) rfl rfl rfl (by decide) rfl rfl rfl (bd_rcV hrc rfl) (by decide) (bd_lenC (n := 2) rfl (bd_slR (bd_slR bd_slN)) rfl) (bd_locC (n := 2) rfl (bd_slR (bd_slR bd_slN)) rfl (t_84 e (by omega) x1 x2 h _ hc)) ?_
  refine rn_aload_n (i := 0) rfl rfl ?_
  refine rn_aload_n (i := 0) rfl rfl ?_
  refine rn_gQ (c := 10) (k := 2) rfl (by decide) hb (fun x4 hb => ?_)
  obtain ⟨hrc, hb⟩ := grd_spec hb
  obtain ⟨p5, hc, hb⟩ := Option.bind_eq_some_iff.mp hb
  refine Rn.call1 (d := e) (As := [va_rf v0, va_rf x4]) (rest := []) rfl rfl rfl (by decide) rfl rfl rfl (bd_rcV hrc rfl) (by decide) (bd_lenC (n := 5) rfl (bd_slR (bd_slR bd_slN)) rfl) (bd_locC (n := 5) rfl (bd_slR (bd_slR bd_slN)) rfl (t_172 e (by omega) v0 x4 p3 _ hc)) ?_
  obtain rfl := Option.some.inj hb
  exact rn_iret rfl rfl
/-- BitingDoors.judge()I -/
def f_158 (v0 : Option Nat) (h : Hp) : Option (Int32 × Hp) := b_158_0 v0 h
theorem t_158 (d : Nat) (hd : 7 ≤ d) (v0 : Option Nat) (h : Hp) (r : Int32 × Hp) (hb : f_158 v0 h = some r) : Rn d 158 0 [some (va_rf v0)] [] h (some (.int r.1), r.2) := by
  unfold f_158 at hb
  exact u_158_0 d hd v0 h r hb
def b_159_31  (s0 : Int32) (h : Hp) : Option (Int32 × Hp) :=
  some (s0, h)
theorem u_159_31 (d : Nat) (hd : 0 ≤ d) (v0 : Option Nat) (v1 : Int32) (s0 : Int32) (h : Hp) (r : Int32 × Hp) (hb : b_159_31  s0 h = some r) : Rn d 159 31 [some (va_rf v0), some (.int v1)] [.int s0] h (some (.int r.1), r.2) := by
  unfold b_159_31 at hb
  obtain rfl := Option.some.inj hb
  exact rn_iret rfl rfl
def b_159_29   (h : Hp) : Option (Int32 × Hp) :=
  b_159_31  (-2 : Int32) h
theorem u_159_29 (d : Nat) (hd : 0 ≤ d) (v0 : Option Nat) (v1 : Int32)  (h : Hp) (r : Int32 × Hp) (hb : b_159_29   h = some r) : Rn d 159 29 [some (va_rf v0), some (.int v1)] [] h (some (.int r.1), r.2) := by
  unfold b_159_29 at hb
  refine rn_bipush (x := (-2 : Int32)) rfl (by decide) ?_
  exact u_159_31 d hd v0 v1 (-2 : Int32) h _ hb
def b_159_20 (v0 : Option Nat) (v1 : Int32)  (h : Hp) : Option (Int32 × Hp) :=
  (gQ 10 9 v0 h).bind fun x1 =>
  (aI 12 x1 v1 h).bind fun x2 =>
  b_159_31  x2 h
theorem u_159_20 (d : Nat) (hd : 0 ≤ d) (v0 : Option Nat) (v1 : Int32)  (h : Hp) (r : Int32 × Hp) (hb : b_159_20 v0 v1  h = some r) : Rn d 159 20 [some (va_rf v0), some (.int v1)] [] h (some (.int r.1), r.2) := by
  unfold b_159_20 at hb
  refine rn_aload_n (i := 0) rfl rfl ?_
  refine rn_gQ (c := 10) (k := 9) rfl (by decide) hb (fun x1 hb => ?_)
  refine rn_iload_n (i := 1) rfl rfl ?_
  refine rn_aI rfl hb (fun x2 hb => ?_)
  refine rn_goto rfl rfl ?_
  exact u_159_31 d hd v0 v1 x2 h _ hb
def b_159_11 (v0 : Option Nat) (v1 : Int32)  (h : Hp) : Option (Int32 × Hp) :=
  (gQ 10 9 v0 h).bind fun x1 =>
  (aL x1 h).bind fun x2 =>
  if x2 ≤ v1 then b_159_29   h else b_159_20 v0 v1  h
theorem u_159_11 (d : Nat) (hd : 0 ≤ d) (v0 : Option Nat) (v1 : Int32)  (h : Hp) (r : Int32 × Hp) (hb : b_159_11 v0 v1  h = some r) : Rn d 159 11 [some (va_rf v0), some (.int v1)] [] h (some (.int r.1), r.2) := by
  unfold b_159_11 at hb
  refine rn_iload_n (i := 1) rfl rfl ?_
  refine rn_aload_n (i := 0) rfl rfl ?_
  refine rn_gQ (c := 10) (k := 9) rfl (by decide) hb (fun x1 hb => ?_)
  refine rn_aL rfl hb (fun x2 hb => ?_)
  refine rn_icmp_ge rfl rfl (fun hc => ?_) (fun hc => ?_)
  · exact u_159_29 d hd v0 v1  h _ (if_t hb hc)
  · exact u_159_20 d hd v0 v1  h _ (if_f hb hc)
def b_159_7 (v0 : Option Nat) (v1 : Int32)  (h : Hp) : Option (Int32 × Hp) :=
  if v1 < 0 then b_159_29   h else b_159_11 v0 v1  h
theorem u_159_7 (d : Nat) (hd : 0 ≤ d) (v0 : Option Nat) (v1 : Int32)  (h : Hp) (r : Int32 × Hp) (hb : b_159_7 v0 v1  h = some r) : Rn d 159 7 [some (va_rf v0), some (.int v1)] [] h (some (.int r.1), r.2) := by
  unfold b_159_7 at hb
  refine rn_iload_n (i := 1) rfl rfl ?_
  refine rn_if_lt rfl rfl (fun hc => ?_) (fun hc => ?_)
  · exact u_159_29 d hd v0 v1  h _ (if_t hb hc)
  · exact u_159_11 d hd v0 v1  h _ (if_f hb hc)
def b_159_0 (v0 : Option Nat) (v1 : Int32)  (h : Hp) : Option (Int32 × Hp) :=
  (gI 10 10 v0 h).bind fun x1 =>
  if x1 = 0 then b_159_29   h else b_159_7 v0 v1  h
theorem u_159_0 (d : Nat) (hd : 0 ≤ d) (v0 : Option Nat) (v1 : Int32)  (h : Hp) (r : Int32 × Hp) (hb : b_159_0 v0 v1  h = some r) : Rn d 159 0 [some (va_rf v0), some (.int v1)] [] h (some (.int r.1), r.2) := by
  unfold b_159_0 at hb
  refine rn_aload_n (i := 0) rfl rfl ?_
  refine rn_gI (c := 10) (k := 10) rfl (by decide) hb (fun x1 hb => ?_)
  refine rn_if_eq rfl rfl (fun hc => ?_) (fun hc => ?_)
  · exact u_159_29 d hd v0 v1  h _ (if_t hb hc)
  · exact u_159_7 d hd v0 v1  h _ (if_f hb hc)
/-- BitingDoors.judged(I)I -/
def f_159 (v0 : Option Nat) (v1 : Int32) (h : Hp) : Option (Int32 × Hp) := b_159_0 v0 v1 h
theorem t_159 (d : Nat) (hd : 0 ≤ d) (v0 : Option Nat) (v1 : Int32) (h : Hp) (r : Int32 × Hp) (hb : f_159 v0 v1 h = some r) : Rn d 159 0 [some (va_rf v0), some (.int v1)] [] h (some (.int r.1), r.2) := by
  unfold f_159 at hb
  exact u_159_0 d hd v0 v1 h r hb
def b_160_0 (v0 : Option Nat)  (h : Hp) : Option (Int32 × Hp) :=
  (gQ 10 1 v0 h).bind fun x1 =>
  (grd (rC 10 v0 h)).bind fun _ =>
  (f_172 v0 x1 h).bind fun p2 =>
  bnd (p2.1) fun x3 =>
  (gI 10 13 v0 p2.2).bind fun x4 =>
  (gQ 10 9 v0 p2.2).bind fun x5 =>
  (aI 12 x5 (nI 1) p2.2).bind fun x6 =>
  (pI 10 13 v0 (x4 + x6) p2.2).bind fun h7 =>
  some (x3, h7)
theorem u_160_0 (d : Nat) (hd : 7 ≤ d) (v0 : Option Nat)  (h : Hp) (r : Int32 × Hp) (hb : b_160_0 v0  h = some r) : Rn d 160 0 [some (va_rf v0), none] [] h (some (.int r.1), r.2) := by
  unfold b_160_0 at hb
  obtain ⟨e, rfl⟩ : ∃ e, d = e + 1 := ⟨d - 1, by omega⟩
  refine rn_aload_n (i := 0) rfl rfl ?_
  refine rn_aload_n (i := 0) rfl rfl ?_
  refine rn_gQ (c := 10) (k := 1) rfl (by decide) hb (fun x1 hb => ?_)
  obtain ⟨hrc, hb⟩ := grd_spec hb
  obtain ⟨p2, hc, hb⟩ := Option.bind_eq_some_iff.mp hb
  refine Rn.call1 (d := e) (As := [va_rf v0, va_rf x1]) (rest := []) rfl rfl rfl (by decide) rfl rfl rfl (bd_rcV hrc rfl) (by decide) (bd_lenC (n := 5) rfl (bd_slR (bd_slR bd_slN)) rfl) (bd_locC (n := 5) rfl (bd_slR (bd_slR bd_slN)) rfl (t_172 e (by omega) v0 x1 h _ hc)) ?_
  obtain ⟨x3, ex3, hb⟩ := bnd_spec hb
  refine rn_istore_n (i := 1) (L1 := [some (va_rf v0), some (.int x3)]) rfl (Nat.le_of_ble_eq_true rfl) (Or.inr (bd_wideR rfl)) (by rw [ex3]; rfl) ?_
  refine rn_aload_n (i := 0) rfl rfl ?_
  refine rn_dup rfl (bd_cat_rf _) ?_
  refine rn_gI (c := 10) (k := 13) rfl (by decide) hb (fun x4 hb => ?_)
  refine rn_aload_n (i := 0) rfl rfl ?_
  refine rn_gQ (c := 10) (k := 9) rfl (by decide) hb (fun x5 hb => ?_)
  refine rn_iconst (x := (nI 1)) rfl (by decide) ?_
  refine rn_aI rfl hb (fun x6 hb => ?_)
  refine rn_iadd rfl ?_
  refine rn_pI (c := 10) (k := 13) rfl (by decide) hb (fun h7 hb => ?_)
  refine rn_iload_n (i := 1) rfl rfl ?_
  obtain rfl := Option.some.inj hb
  exact rn_iret rfl rfl
/-- BitingDoors.live()I -/
def f_160 (v0 : Option Nat) (h : Hp) : Option (Int32 × Hp) := b_160_0 v0 h
theorem t_160 (d : Nat) (hd : 7 ≤ d) (v0 : Option Nat) (h : Hp) (r : Int32 × Hp) (hb : f_160 v0 h = some r) : Rn d 160 0 [some (va_rf v0), none] [] h (some (.int r.1), r.2) := by
  unfold f_160 at hb
  exact u_160_0 d hd v0 h r hb
def b_161_29   (h : Hp) : Option (Int32 × Hp) :=
  some ((-2 : Int32), h)
theorem u_161_29 (d : Nat) (hd : 6 ≤ d) (v0 : Option Nat) (v1 : Int32) (v2 : Int32)  (h : Hp) (r : Int32 × Hp) (hb : b_161_29   h = some r) : Rn d 161 29 [some (va_rf v0), some (.int v1), some (.int v2), none] [] h (some (.int r.1), r.2) := by
  unfold b_161_29 at hb
  refine rn_bipush (x := (-2 : Int32)) rfl (by decide) ?_
  obtain rfl := Option.some.inj hb
  exact rn_iret rfl rfl
def b_161_56 (v0 : Option Nat) (v3 : Int32)  (h : Hp) : Option (Int32 × Hp) :=
  (gQ 10 5 v0 h).bind fun x1 =>
  (grd (rC 6 x1 h)).bind fun _ =>
  (f_79 x1 v3 h).bind fun p2 =>
  (gQ 10 5 v0 p2).bind fun x3 =>
  (gI 6 1 x3 p2).bind fun x4 =>
  some (x4, p2)
theorem u_161_56 (d : Nat) (hd : 6 ≤ d) (v0 : Option Nat) (v1 : Int32) (v2 : Int32) (v3 : Int32)  (h : Hp) (r : Int32 × Hp) (hb : b_161_56 v0 v3  h = some r) : Rn d 161 56 [some (va_rf v0), some (.int v1), some (.int v2), some (.int v3)] [] h (some (.int r.1), r.2) := by
  unfold b_161_56 at hb
  obtain ⟨e, rfl⟩ : ∃ e, d = e + 1 := ⟨d - 1, by omega⟩
  refine rn_aload_n (i := 0) rfl rfl ?_
  refine rn_gQ (c := 10) (k := 5) rfl (by decide) hb (fun x1 hb => ?_)
  refine rn_iload_n (i := 3) rfl rfl ?_
  obtain ⟨hrc, hb⟩ := grd_spec hb
  obtain ⟨p2, hc, hb⟩ := Option.bind_eq_some_iff.mp hb
  refine Rn.call0 (d := e) (As := [va_rf x1, .int v3]) (rest := []) rfl rfl rfl (by decide) rfl rfl rfl (bd_rcV hrc rfl) (by decide) (bd_lenC (n := 4) rfl (bd_slR (bd_slI bd_slN)) rfl) (bd_locC (n := 4) rfl (bd_slR (bd_slI bd_slN)) rfl (t_79 e (by omega) x1 v3 h _ hc)) ?_
  refine rn_aload_n (i := 0) rfl rfl ?_
  refine rn_gQ (c := 10) (k := 5) rfl (by decide) hb (fun x3 hb => ?_)
  refine rn_gI (c := 6) (k := 1) rfl (by decide) hb (fun x4 hb => ?_)
  obtain rfl := Option.some.inj hb
  exact rn_iret rfl rfl
def b_161_54   (h : Hp) : Option (Int32 × Hp) :=
  some ((-1 : Int32), h)
theorem u_161_54 (d : Nat) (hd : 6 ≤ d) (v0 : Option Nat) (v1 : Int32) (v2 : Int32) (v3 : Int32)  (h : Hp) (r : Int32 × Hp) (hb : b_161_54   h = some r) : Rn d 161 54 [some (va_rf v0), some (.int v1), some (.int v2), some (.int v3)] [] h (some (.int r.1), r.2) := by
  unfold b_161_54 at hb
  refine rn_iconst (x := (-1 : Int32)) rfl (by decide) ?_
  obtain rfl := Option.some.inj hb
  exact rn_iret rfl rfl
def b_161_32 (v0 : Option Nat) (v1 : Int32) (v2 : Int32)  (h : Hp) : Option (Int32 × Hp) :=
  (gQ 10 5 v0 h).bind fun x1 =>
  (gQ 10 1 v0 h).bind fun x2 =>
  (grd (rC 6 x1 h)).bind fun _ =>
  (f_71 x1 x2 (((nI 10) * v2) + v1) h).bind fun p3 =>
  bnd (p3.1) fun x4 =>
  if 0 ≤ x4 then b_161_56 v0 x4  p3.2 else b_161_54   p3.2
theorem u_161_32 (d : Nat) (hd : 6 ≤ d) (v0 : Option Nat) (v1 : Int32) (v2 : Int32)  (h : Hp) (r : Int32 × Hp) (hb : b_161_32 v0 v1 v2  h = some r) : Rn d 161 32 [some (va_rf v0), some (.int v1), some (.int v2), none] [] h (some (.int r.1), r.2) := by
  unfold b_161_32 at hb
  obtain ⟨e, rfl⟩ : ∃ e, d = e + 1 := ⟨d - 1, by omega⟩
  refine rn_aload_n (i := 0) rfl rfl ?_
  refine rn_gQ (c := 10) (k := 5) rfl (by decide) hb (fun x1 hb => ?_)
  refine rn_aload_n (i := 0) rfl rfl ?_
  refine rn_gQ (c := 10) (k := 1) rfl (by decide) hb (fun x2 hb => ?_)
  refine rn_bipush (x := (nI 10)) rfl (by decide) ?_
  refine rn_iload_n (i := 2) rfl rfl ?_
  refine rn_imul rfl ?_
  refine rn_iload_n (i := 1) rfl rfl ?_
  refine rn_iadd rfl ?_
  obtain ⟨hrc, hb⟩ := grd_spec hb
  obtain ⟨p3, hc, hb⟩ := Option.bind_eq_some_iff.mp hb
  refine Rn.call1 (d := e) (As := [va_rf x1, va_rf x2, .int (((nI 10) * v2) + v1)]) (rest := []) rfl rfl rfl (by decide) rfl rfl rfl (bd_rcV hrc rfl) (by decide) (bd_lenC (n := 4) rfl (bd_slR (bd_slR (bd_slI bd_slN))) rfl) (bd_locC (n := 4) rfl (bd_slR (bd_slR (bd_slI bd_slN))) rfl (t_71 e (by omega) x1 x2 (((nI 10) * v2) + v1) h _ hc)) ?_
  obtain ⟨x4, ex4, hb⟩ := bnd_spec hb
  refine rn_istore_n (i := 3) (L1 := [some (va_rf v0), some (.int v1), some (.int v2), some (.int x4)]) rfl (Nat.le_of_ble_eq_true rfl) (Or.inr rfl) (by rw [ex4]; rfl) ?_
  refine rn_iload_n (i := 3) rfl rfl ?_
  refine rn_if_ge rfl rfl (fun hc => ?_) (fun hc => ?_)
  · exact u_161_56 (e + 1) hd v0 v1 v2 x4  p3.2 _ (if_t hb hc)
  · exact u_161_54 (e + 1) hd v0 v1 v2 x4  p3.2 _ (if_f hb hc)
def b_161_15 (v0 : Option Nat) (v1 : Int32) (v2 : Int32)  (h : Hp) : Option (Int32 × Hp) :=
  (gQ 10 5 v0 h).bind fun x1 =>
  (gQ 10 1 v0 h).bind fun x2 =>
  (grd (rC 6 x1 h)).bind fun _ =>
  (f_70 x1 x2 h).bind fun p3 =>
  if ¬ p3.1 = 0 then b_161_32 v0 v1 v2  p3.2 else b_161_29   p3.2
theorem u_161_15 (d : Nat) (hd : 6 ≤ d) (v0 : Option Nat) (v1 : Int32) (v2 : Int32)  (h : Hp) (r : Int32 × Hp) (hb : b_161_15 v0 v1 v2  h = some r) : Rn d 161 15 [some (va_rf v0), some (.int v1), some (.int v2), none] [] h (some (.int r.1), r.2) := by
  unfold b_161_15 at hb
  obtain ⟨e, rfl⟩ : ∃ e, d = e + 1 := ⟨d - 1, by omega⟩
  refine rn_aload_n (i := 0) rfl rfl ?_
  refine rn_gQ (c := 10) (k := 5) rfl (by decide) hb (fun x1 hb => ?_)
  refine rn_aload_n (i := 0) rfl rfl ?_
  refine rn_gQ (c := 10) (k := 1) rfl (by decide) hb (fun x2 hb => ?_)
  obtain ⟨hrc, hb⟩ := grd_spec hb
  obtain ⟨p3, hc, hb⟩ := Option.bind_eq_some_iff.mp hb
  refine Rn.call1 (d := e) (As := [va_rf x1, va_rf x2]) (rest := []) rfl rfl rfl (by decide) rfl rfl rfl (bd_rcV hrc rfl) (by decide) (bd_lenC (n := 2) rfl (bd_slR (bd_slR bd_slN)) rfl) (bd_locC (n := 2) rfl (bd_slR (bd_slR bd_slN)) rfl (t_70 e (by omega) x1 x2 h _ hc)) ?_
  refine rn_if_ne rfl rfl (fun hc => ?_) (fun hc => ?_)
  · exact u_161_32 (e + 1) hd v0 v1 v2  p3.2 _ (if_t hb hc)
  · exact u_161_29 (e + 1) hd v0 v1 v2  p3.2 _ (if_f hb hc)
def b_161_0 (v0 : Option Nat) (v1 : Int32) (v2 : Int32)  (h : Hp) : Option (Int32 × Hp) :=
  (gQ 10 1 v0 h).bind fun x1 =>
  (gQ 7 2 x1 h).bind fun x2 =>
  (grd (rC 4 x2 h)).bind fun _ =>
  (f_51 x2 v1 v2 h).bind fun p3 =>
  if p3.1 = 0 then b_161_29   p3.2 else b_161_15 v0 v1 v2  p3.2
theorem u_161_0 (d : Nat) (hd : 6 ≤ d) (v0 : Option Nat) (v1 : Int32) (v2 : Int32)  (h : Hp) (r : Int32 × Hp) (hb : b_161_0 v0 v1 v2  h = some r) : Rn d 161 0 [some (va_rf v0), some (.int v1), some (.int v2), none] [] h (some (.int r.1), r.2) := by
  unfold b_161_0 at hb
  obtain ⟨e, rfl⟩ : ∃ e, d = e + 1 := ⟨d - 1, by omega⟩
  refine rn_aload_n (i := 0) rfl rfl ?_
  refine rn_gQ (c := 10) (k := 1) rfl (by decide) hb (fun x1 hb => ?_)
  refine rn_gQ (c := 7) (k := 2) rfl (by decide) hb (fun x2 hb => ?_)
  refine rn_iload_n (i := 1) rfl rfl ?_
  refine rn_iload_n (i := 2) rfl rfl ?_
  obtain ⟨hrc, hb⟩ := grd_spec hb
  obtain ⟨p3, hc, hb⟩ := Option.bind_eq_some_iff.mp hb
  refine Rn.call1 (d := e) (As := [va_rf x2, .int v1, .int v2]) (rest := []) rfl rfl rfl (by decide) rfl rfl rfl (bd_rcV hrc rfl) (by decide) (bd_lenC (n := 4) rfl (bd_slR (bd_slI (bd_slI bd_slN))) rfl) (bd_locC (n := 4) rfl (bd_slR (bd_slI (bd_slI bd_slN))) rfl (t_51 e (by omega) x2 v1 v2 h _ hc)) ?_
  refine rn_if_eq rfl rfl (fun hc => ?_) (fun hc => ?_)
  · exact u_161_29 (e + 1) hd v0 v1 v2  p3.2 _ (if_t hb hc)
  · exact u_161_15 (e + 1) hd v0 v1 v2  p3.2 _ (if_f hb hc)
/-- BitingDoors.way(II)I -/
def f_161 (v0 : Option Nat) (v1 : Int32) (v2 : Int32) (h : Hp) : Option (Int32 × Hp) := b_161_0 v0 v1 v2 h
theorem t_161 (d : Nat) (hd : 6 ≤ d) (v0 : Option Nat) (v1 : Int32) (v2 : Int32) (h : Hp) (r : Int32 × Hp) (hb : f_161 v0 v1 v2 h = some r) : Rn d 161 0 [some (va_rf v0), some (.int v1), some (.int v2), none] [] h (some (.int r.1), r.2) := by
  unfold f_161 at hb
  exact u_161_0 d hd v0 v1 v2 h r hb
def b_162_28  (s0 : Int32) (h : Hp) : Option (Int32 × Hp) :=
  some (s0, h)
theorem u_162_28 (d : Nat) (hd : 0 ≤ d) (v0 : Option Nat) (v1 : Int32) (s0 : Int32) (h : Hp) (r : Int32 × Hp) (hb : b_162_28  s0 h = some r) : Rn d 162 28 [some (va_rf v0), some (.int v1)] [.int s0] h (some (.int r.1), r.2) := by
  unfold b_162_28 at hb
  obtain rfl := Option.some.inj hb
  exact rn_iret rfl rfl
def b_162_27   (h : Hp) : Option (Int32 × Hp) :=
  b_162_28  (-1 : Int32) h
theorem u_162_27 (d : Nat) (hd : 0 ≤ d) (v0 : Option Nat) (v1 : Int32)  (h : Hp) (r : Int32 × Hp) (hb : b_162_27   h = some r) : Rn d 162 27 [some (va_rf v0), some (.int v1)] [] h (some (.int r.1), r.2) := by
  unfold b_162_27 at hb
  refine rn_iconst (x := (-1 : Int32)) rfl (by decide) ?_
  exact u_162_28 d hd v0 v1 (-1 : Int32) h _ hb
def b_162_15 (v0 : Option Nat) (v1 : Int32)  (h : Hp) : Option (Int32 × Hp) :=
  (gQ 10 5 v0 h).bind fun x1 =>
  (gQ 6 0 x1 h).bind fun x2 =>
  (aI 12 x2 v1 h).bind fun x3 =>
  b_162_28  x3 h
theorem u_162_15 (d : Nat) (hd : 0 ≤ d) (v0 : Option Nat) (v1 : Int32)  (h : Hp) (r : Int32 × Hp) (hb : b_162_15 v0 v1  h = some r) : Rn d 162 15 [some (va_rf v0), some (.int v1)] [] h (some (.int r.1), r.2) := by
  unfold b_162_15 at hb
  refine rn_aload_n (i := 0) rfl rfl ?_
  refine rn_gQ (c := 10) (k := 5) rfl (by decide) hb (fun x1 hb => ?_)
  refine rn_gQ (c := 6) (k := 0) rfl (by decide) hb (fun x2 hb => ?_)
  refine rn_iload_n (i := 1) rfl rfl ?_
  refine rn_aI rfl hb (fun x3 hb => ?_)
  refine rn_goto rfl rfl ?_
  exact u_162_28 d hd v0 v1 x3 h _ hb
def b_162_4 (v0 : Option Nat) (v1 : Int32)  (h : Hp) : Option (Int32 × Hp) :=
  (gQ 10 5 v0 h).bind fun x1 =>
  (gI 6 1 x1 h).bind fun x2 =>
  if x2 ≤ v1 then b_162_27   h else b_162_15 v0 v1  h
theorem u_162_4 (d : Nat) (hd : 0 ≤ d) (v0 : Option Nat) (v1 : Int32)  (h : Hp) (r : Int32 × Hp) (hb : b_162_4 v0 v1  h = some r) : Rn d 162 4 [some (va_rf v0), some (.int v1)] [] h (some (.int r.1), r.2) := by
  unfold b_162_4 at hb
  refine rn_iload_n (i := 1) rfl rfl ?_
  refine rn_aload_n (i := 0) rfl rfl ?_
  refine rn_gQ (c := 10) (k := 5) rfl (by decide) hb (fun x1 hb => ?_)
  refine rn_gI (c := 6) (k := 1) rfl (by decide) hb (fun x2 hb => ?_)
  refine rn_icmp_ge rfl rfl (fun hc => ?_) (fun hc => ?_)
  · exact u_162_27 d hd v0 v1  h _ (if_t hb hc)
  · exact u_162_15 d hd v0 v1  h _ (if_f hb hc)
def b_162_0 (v0 : Option Nat) (v1 : Int32)  (h : Hp) : Option (Int32 × Hp) :=
  if v1 < 0 then b_162_27   h else b_162_4 v0 v1  h
theorem u_162_0 (d : Nat) (hd : 0 ≤ d) (v0 : Option Nat) (v1 : Int32)  (h : Hp) (r : Int32 × Hp) (hb : b_162_0 v0 v1  h = some r) : Rn d 162 0 [some (va_rf v0), some (.int v1)] [] h (some (.int r.1), r.2) := by
  unfold b_162_0 at hb
  refine rn_iload_n (i := 1) rfl rfl ?_
  refine rn_if_lt rfl rfl (fun hc => ?_) (fun hc => ?_)
  · exact u_162_27 d hd v0 v1  h _ (if_t hb hc)
  · exact u_162_4 d hd v0 v1  h _ (if_f hb hc)
/-- BitingDoors.wayAt(I)I -/
def f_162 (v0 : Option Nat) (v1 : Int32) (h : Hp) : Option (Int32 × Hp) := b_162_0 v0 v1 h
theorem t_162 (d : Nat) (hd : 0 ≤ d) (v0 : Option Nat) (v1 : Int32) (h : Hp) (r : Int32 × Hp) (hb : f_162 v0 v1 h = some r) : Rn d 162 0 [some (va_rf v0), some (.int v1)] [] h (some (.int r.1), r.2) := by
  unfold f_162 at hb
  exact u_162_0 d hd v0 v1 h r hb
def b_163_35 (v1 : Int32)  (h : Hp) : Option (Int32 × Hp) :=
  some (v1, h)
theorem u_163_35 (d : Nat) (hd : 5 ≤ d) (v0 : Option Nat) (v1 : Int32)  (h : Hp) (r : Int32 × Hp) (hb : b_163_35 v1  h = some r) : Rn d 163 35 [some (va_rf v0), some (.int v1)] [] h (some (.int r.1), r.2) := by
  unfold b_163_35 at hb
  refine rn_iload_n (i := 1) rfl rfl ?_
  obtain rfl := Option.some.inj hb
  exact rn_iret rfl rfl
def b_163_29 (k2 : Option Nat → Int32 → Hp → Option (Int32 × Hp)) (v0 : Option Nat) (v1 : Int32)  (h : Hp) : Option (Int32 × Hp) :=
  bnd (v1 + (nI 1)) fun x1 =>
  k2 v0 x1 h
theorem u_163_29 (d : Nat) (hd : 5 ≤ d) (k2 : Option Nat → Int32 → Hp → Option (Int32 × Hp)) (K2 : ∀ (v0 : Option Nat) (v1 : Int32) (h : Hp) (r : Int32 × Hp), k2 v0 v1 h = some r → Rn d 163 2 [some (va_rf v0), some (.int v1)] [] h (some (.int r.1), r.2)) (v0 : Option Nat) (v1 : Int32)  (h : Hp) (r : Int32 × Hp) (hb : b_163_29 k2 v0 v1  h = some r) : Rn d 163 29 [some (va_rf v0), some (.int v1)] [] h (some (.int r.1), r.2) := by
  unfold b_163_29 at hb
  obtain ⟨x1, ex1, hb⟩ := bnd_spec hb
  refine rn_iinc (i := 1) (y := x1) (L1 := [some (va_rf v0), some (.int x1)]) rfl rfl (Nat.le_of_ble_eq_true rfl) (Or.inr (bd_wideR rfl)) (by rw [ex1]; rfl) rfl ?_
  refine rn_goto rfl rfl ?_
  exact K2 v0 x1 h _ hb
def b_163_13 (k2 : Option Nat → Int32 → Hp → Option (Int32 × Hp)) (v0 : Option Nat) (v1 : Int32)  (h : Hp) : Option (Int32 × Hp) :=
  (gQ 10 5 v0 h).bind fun x1 =>
  (gQ 6 0 x1 h).bind fun x2 =>
  (aI 12 x2 v1 h).bind fun x3 =>
  (grd (rC 10 v0 h)).bind fun _ =>
  (f_155 v0 x3 h).bind fun p4 =>
  if ¬ p4.1 = 0 then b_163_35 v1  p4.2 else b_163_29 k2 v0 v1  p4.2
theorem u_163_13 (d : Nat) (hd : 5 ≤ d) (k2 : Option Nat → Int32 → Hp → Option (Int32 × Hp)) (K2 : ∀ (v0 : Option Nat) (v1 : Int32) (h : Hp) (r : Int32 × Hp), k2 v0 v1 h = some r → Rn d 163 2 [some (va_rf v0), some (.int v1)] [] h (some (.int r.1), r.2)) (v0 : Option Nat) (v1 : Int32)  (h : Hp) (r : Int32 × Hp) (hb : b_163_13 k2 v0 v1  h = some r) : Rn d 163 13 [some (va_rf v0), some (.int v1)] [] h (some (.int r.1), r.2) := by
  unfold b_163_13 at hb
  obtain ⟨e, rfl⟩ : ∃ e, d = e + 1 := ⟨d - 1, by omega⟩
  refine rn_aload_n (i := 0) rfl rfl ?_
  refine rn_aload_n (i := 0) rfl rfl ?_
  refine rn_gQ (c := 10) (k := 5) rfl (by decide) hb (fun x1 hb => ?_)
  refine rn_gQ (c := 6) (k := 0) rfl (by decide) hb (fun x2 hb => ?_)
  refine rn_iload_n (i := 1) rfl rfl ?_
  refine rn_aI rfl hb (fun x3 hb => ?_)
  obtain ⟨hrc, hb⟩ := grd_spec hb
  obtain ⟨p4, hc, hb⟩ := Option.bind_eq_some_iff.mp hb
  refine Rn.call1 (d := e) (As := [va_rf v0, .int x3]) (rest := []) rfl rfl rfl (by decide) rfl rfl rfl (bd_rcV hrc rfl) (by decide) (bd_lenC (n := 3) rfl (bd_slR (bd_slI bd_slN)) rfl) (bd_locC (n := 3) rfl (bd_slR (bd_slI bd_slN)) rfl (t_155 e (by omega) v0 x3 h _ hc)) ?_
  refine rn_if_ne rfl rfl (fun hc => ?_) (fun hc => ?_)
  · exact u_163_35 (e + 1) hd v0 v1  p4.2 _ (if_t hb hc)
  · exact u_163_29 (e + 1) hd k2 K2 v0 v1  p4.2 _ (if_f hb hc)
def b_163_2 (k2 : Option Nat → Int32 → Hp → Option (Int32 × Hp)) (v0 : Option Nat) (v1 : Int32)  (h : Hp) : Option (Int32 × Hp) :=
  (gQ 10 5 v0 h).bind fun x1 =>
  (gI 6 1 x1 h).bind fun x2 =>
  if x2 ≤ v1 then b_163_35 v1  h else b_163_13 k2 v0 v1  h
theorem u_163_2 (d : Nat) (hd : 5 ≤ d) (k2 : Option Nat → Int32 → Hp → Option (Int32 × Hp)) (K2 : ∀ (v0 : Option Nat) (v1 : Int32) (h : Hp) (r : Int32 × Hp), k2 v0 v1 h = some r → Rn d 163 2 [some (va_rf v0), some (.int v1)] [] h (some (.int r.1), r.2)) (v0 : Option Nat) (v1 : Int32)  (h : Hp) (r : Int32 × Hp) (hb : b_163_2 k2 v0 v1  h = some r) : Rn d 163 2 [some (va_rf v0), some (.int v1)] [] h (some (.int r.1), r.2) := by
  unfold b_163_2 at hb
  refine rn_iload_n (i := 1) rfl rfl ?_
  refine rn_aload_n (i := 0) rfl rfl ?_
  refine rn_gQ (c := 10) (k := 5) rfl (by decide) hb (fun x1 hb => ?_)
  refine rn_gI (c := 6) (k := 1) rfl (by decide) hb (fun x2 hb => ?_)
  refine rn_icmp_ge rfl rfl (fun hc => ?_) (fun hc => ?_)
  · exact u_163_35 d hd v0 v1  h _ (if_t hb hc)
  · exact u_163_13 d hd k2 K2 v0 v1  h _ (if_f hb hc)
def l_163_2 : Nat → Option Nat → Int32 → Hp → Option (Int32 × Hp)
  | 0, _, _, _ => none
  | n + 1, v0, v1, h => b_163_2 (l_163_2 n) v0 v1 h
theorem w_163_2 (d : Nat) (hd : 5 ≤ d) : ∀ (n : Nat) (v0 : Option Nat) (v1 : Int32) (h : Hp) (r : Int32 × Hp), l_163_2 n v0 v1 h = some r → Rn d 163 2 [some (va_rf v0), some (.int v1)] [] h (some (.int r.1), r.2) := by
  intro n
  induction n with
  | zero => intro v0 v1 h r hb; cases hb
  | succ n ih => intro v0 v1 h r hb; exact u_163_2 d hd (l_163_2 n) ih v0 v1 h r hb
def b_163_0 (v0 : Option Nat)  (h : Hp) : Option (Int32 × Hp) :=
  bnd ((nI 0)) fun x1 =>
  l_163_2 FU v0 x1 h
theorem u_163_0 (d : Nat) (hd : 5 ≤ d) (v0 : Option Nat)  (h : Hp) (r : Int32 × Hp) (hb : b_163_0 v0  h = some r) : Rn d 163 0 [some (va_rf v0), none] [] h (some (.int r.1), r.2) := by
  unfold b_163_0 at hb
  refine rn_iconst (x := (nI 0)) rfl (by decide) ?_
  obtain ⟨x1, ex1, hb⟩ := bnd_spec hb
  refine rn_istore_n (i := 1) (L1 := [some (va_rf v0), some (.int x1)]) rfl (Nat.le_of_ble_eq_true rfl) (Or.inr (bd_wideR rfl)) (by rw [ex1]; rfl) ?_
  exact w_163_2 d hd FU v0 x1 h _ hb
/-- BitingDoors.walk()I -/
def f_163 (v0 : Option Nat) (h : Hp) : Option (Int32 × Hp) := b_163_0 v0 h
theorem t_163 (d : Nat) (hd : 5 ≤ d) (v0 : Option Nat) (h : Hp) (r : Int32 × Hp) (hb : f_163 v0 h = some r) : Rn d 163 0 [some (va_rf v0), none] [] h (some (.int r.1), r.2) := by
  unfold f_163 at hb
  exact u_163_0 d hd v0 h r hb
def b_164_19   (h : Hp) : Option (Int32 × Hp) :=
  some ((-1 : Int32), h)
theorem u_164_19 (d : Nat) (hd : 6 ≤ d) (v0 : Option Nat) (v1 : Int32)  (h : Hp) (r : Int32 × Hp) (hb : b_164_19   h = some r) : Rn d 164 19 [some (va_rf v0), some (.int v1)] [] h (some (.int r.1), r.2) := by
  unfold b_164_19 at hb
  refine rn_iconst (x := (-1 : Int32)) rfl (by decide) ?_
  obtain rfl := Option.some.inj hb
  exact rn_iret rfl rfl
def b_164_54 (v0 : Option Nat)  (h : Hp) : Option (Int32 × Hp) :=
  (gQ 10 5 v0 h).bind fun x1 =>
  (gQ 10 1 v0 h).bind fun x2 =>
  (grd (rC 6 x1 h)).bind fun _ =>
  (f_71 x1 x2 (-1 : Int32) h).bind fun p3 =>
  (gQ 10 5 v0 p3.2).bind fun x4 =>
  (grd (rC 6 x4 p3.2)).bind fun _ =>
  (f_80 x4 p3.2).bind fun p5 =>
  some (p5.1, p5.2)
theorem u_164_54 (d : Nat) (hd : 6 ≤ d) (v0 : Option Nat) (v1 : Int32)  (h : Hp) (r : Int32 × Hp) (hb : b_164_54 v0  h = some r) : Rn d 164 54 [some (va_rf v0), some (.int v1)] [] h (some (.int r.1), r.2) := by
  unfold b_164_54 at hb
  obtain ⟨e, rfl⟩ : ∃ e, d = e + 1 := ⟨d - 1, by omega⟩
  refine rn_aload_n (i := 0) rfl rfl ?_
  refine rn_gQ (c := 10) (k := 5) rfl (by decide) hb (fun x1 hb => ?_)
  refine rn_aload_n (i := 0) rfl rfl ?_
  refine rn_gQ (c := 10) (k := 1) rfl (by decide) hb (fun x2 hb => ?_)
  refine rn_iconst (x := (-1 : Int32)) rfl (by decide) ?_
  obtain ⟨hrc, hb⟩ := grd_spec hb
  obtain ⟨p3, hc, hb⟩ := Option.bind_eq_some_iff.mp hb
  refine Rn.call1 (d := e) (As := [va_rf x1, va_rf x2, .int (-1 : Int32)]) (rest := []) rfl rfl rfl (by decide) rfl rfl rfl (bd_rcV hrc rfl) (by decide) (bd_lenC (n := 4) rfl (bd_slR (bd_slR (bd_slI bd_slN))) rfl) (bd_locC (n := 4) rfl (bd_slR (bd_slR (bd_slI bd_slN))) rfl (t_71 e (by omega) x1 x2 (-1 : Int32) h _ hc)) ?_
  refine rn_pop rfl rfl ?_
  refine rn_aload_n (i := 0) rfl rfl ?_
  refine rn_gQ (c := 10) (k := 5) rfl (by decide) hb (fun x4 hb => ?_)
  obtain ⟨hrc, hb⟩ := grd_spec hb
  obtain ⟨p5, hc, hb⟩ := Option.bind_eq_some_iff.mp hb
  refine Rn.call1 (d := e) (As := [va_rf x4]) (rest := []) rfl rfl rfl (by decide) rfl rfl rfl (bd_rcV hrc rfl) (by decide) (bd_lenC (n := 5) rfl (bd_slR bd_slN) rfl) (bd_locC (n := 5) rfl (bd_slR bd_slN) rfl (t_80 e (by omega) x4 p3.2 _ hc)) ?_
  obtain rfl := Option.some.inj hb
  exact rn_iret rfl rfl
def b_164_51   (h : Hp) : Option (Int32 × Hp) :=
  some ((-2 : Int32), h)
theorem u_164_51 (d : Nat) (hd : 6 ≤ d) (v0 : Option Nat) (v1 : Int32)  (h : Hp) (r : Int32 × Hp) (hb : b_164_51   h = some r) : Rn d 164 51 [some (va_rf v0), some (.int v1)] [] h (some (.int r.1), r.2) := by
  unfold b_164_51 at hb
  refine rn_bipush (x := (-2 : Int32)) rfl (by decide) ?_
  obtain rfl := Option.some.inj hb
  exact rn_iret rfl rfl
def b_164_37 (v0 : Option Nat)  (h : Hp) : Option (Int32 × Hp) :=
  (gQ 10 5 v0 h).bind fun x1 =>
  (gQ 10 1 v0 h).bind fun x2 =>
  (grd (rC 6 x1 h)).bind fun _ =>
  (f_70 x1 x2 h).bind fun p3 =>
  if ¬ p3.1 = 0 then b_164_54 v0  p3.2 else b_164_51   p3.2
theorem u_164_37 (d : Nat) (hd : 6 ≤ d) (v0 : Option Nat) (v1 : Int32)  (h : Hp) (r : Int32 × Hp) (hb : b_164_37 v0  h = some r) : Rn d 164 37 [some (va_rf v0), some (.int v1)] [] h (some (.int r.1), r.2) := by
  unfold b_164_37 at hb
  obtain ⟨e, rfl⟩ : ∃ e, d = e + 1 := ⟨d - 1, by omega⟩
  refine rn_aload_n (i := 0) rfl rfl ?_
  refine rn_gQ (c := 10) (k := 5) rfl (by decide) hb (fun x1 hb => ?_)
  refine rn_aload_n (i := 0) rfl rfl ?_
  refine rn_gQ (c := 10) (k := 1) rfl (by decide) hb (fun x2 hb => ?_)
  obtain ⟨hrc, hb⟩ := grd_spec hb
  obtain ⟨p3, hc, hb⟩ := Option.bind_eq_some_iff.mp hb
  refine Rn.call1 (d := e) (As := [va_rf x1, va_rf x2]) (rest := []) rfl rfl rfl (by decide) rfl rfl rfl (bd_rcV hrc rfl) (by decide) (bd_lenC (n := 2) rfl (bd_slR (bd_slR bd_slN)) rfl) (bd_locC (n := 2) rfl (bd_slR (bd_slR bd_slN)) rfl (t_70 e (by omega) x1 x2 h _ hc)) ?_
  refine rn_if_ne rfl rfl (fun hc => ?_) (fun hc => ?_)
  · exact u_164_54 (e + 1) hd v0 v1  p3.2 _ (if_t hb hc)
  · exact u_164_51 (e + 1) hd v0 v1  p3.2 _ (if_f hb hc)
def b_164_25 (v0 : Option Nat)  (h : Hp) : Option (Int32 × Hp) :=
  (gQ 10 5 v0 h).bind fun x1 =>
  (gQ 10 1 v0 h).bind fun x2 =>
  (grd (rC 6 x1 h)).bind fun _ =>
  (f_81 x1 x2 h).bind fun p3 =>
  some (p3.1, p3.2)
theorem u_164_25 (d : Nat) (hd : 6 ≤ d) (v0 : Option Nat) (v1 : Int32)  (h : Hp) (r : Int32 × Hp) (hb : b_164_25 v0  h = some r) : Rn d 164 25 [some (va_rf v0), some (.int v1)] [] h (some (.int r.1), r.2) := by
  unfold b_164_25 at hb
  obtain ⟨e, rfl⟩ : ∃ e, d = e + 1 := ⟨d - 1, by omega⟩
  refine rn_aload_n (i := 0) rfl rfl ?_
  refine rn_gQ (c := 10) (k := 5) rfl (by decide) hb (fun x1 hb => ?_)
  refine rn_aload_n (i := 0) rfl rfl ?_
  refine rn_gQ (c := 10) (k := 1) rfl (by decide) hb (fun x2 hb => ?_)
  obtain ⟨hrc, hb⟩ := grd_spec hb
  obtain ⟨p3, hc, hb⟩ := Option.bind_eq_some_iff.mp hb
  refine Rn.call1 (d := e) (As := [va_rf x1, va_rf x2]) (rest := []) rfl rfl rfl (by decide) rfl rfl rfl (bd_rcV hrc rfl) (by decide) (bd_lenC (n := 4) rfl (bd_slR (bd_slR bd_slN)) rfl) (bd_locC (n := 4) rfl (bd_slR (bd_slR bd_slN)) rfl (t_81 e (by omega) x1 x2 h _ hc)) ?_
  obtain rfl := Option.some.inj hb
  exact rn_iret rfl rfl
def b_164_21 (v0 : Option Nat) (v1 : Int32)  (h : Hp) : Option (Int32 × Hp) :=
  if ¬ v1 = 0 then b_164_37 v0  h else b_164_25 v0  h
theorem u_164_21 (d : Nat) (hd : 6 ≤ d) (v0 : Option Nat) (v1 : Int32)  (h : Hp) (r : Int32 × Hp) (hb : b_164_21 v0 v1  h = some r) : Rn d 164 21 [some (va_rf v0), some (.int v1)] [] h (some (.int r.1), r.2) := by
  unfold b_164_21 at hb
  refine rn_iload_n (i := 1) rfl rfl ?_
  refine rn_if_ne rfl rfl (fun hc => ?_) (fun hc => ?_)
  · exact u_164_37 d hd v0 v1  h _ (if_t hb hc)
  · exact u_164_25 d hd v0 v1  h _ (if_f hb hc)
def b_164_9 (v0 : Option Nat) (v1 : Int32)  (h : Hp) : Option (Int32 × Hp) :=
  (gQ 10 1 v0 h).bind fun x1 =>
  (gI 7 3 x1 h).bind fun x2 =>
  if 0 ≤ x2 then b_164_21 v0 v1  h else b_164_19   h
theorem u_164_9 (d : Nat) (hd : 6 ≤ d) (v0 : Option Nat) (v1 : Int32)  (h : Hp) (r : Int32 × Hp) (hb : b_164_9 v0 v1  h = some r) : Rn d 164 9 [some (va_rf v0), some (.int v1)] [] h (some (.int r.1), r.2) := by
  unfold b_164_9 at hb
  refine rn_aload_n (i := 0) rfl rfl ?_
  refine rn_gQ (c := 10) (k := 1) rfl (by decide) hb (fun x1 hb => ?_)
  refine rn_gI (c := 7) (k := 3) rfl (by decide) hb (fun x2 hb => ?_)
  refine rn_if_ge rfl rfl (fun hc => ?_) (fun hc => ?_)
  · exact u_164_21 d hd v0 v1  h _ (if_t hb hc)
  · exact u_164_19 d hd v0 v1  h _ (if_f hb hc)
def b_164_4 (v0 : Option Nat) (v1 : Int32)  (h : Hp) : Option (Int32 × Hp) :=
  if (nI 1) < v1 then b_164_19   h else b_164_9 v0 v1  h
theorem u_164_4 (d : Nat) (hd : 6 ≤ d) (v0 : Option Nat) (v1 : Int32)  (h : Hp) (r : Int32 × Hp) (hb : b_164_4 v0 v1  h = some r) : Rn d 164 4 [some (va_rf v0), some (.int v1)] [] h (some (.int r.1), r.2) := by
  unfold b_164_4 at hb
  refine rn_iload_n (i := 1) rfl rfl ?_
  refine rn_iconst (x := (nI 1)) rfl (by decide) ?_
  refine rn_icmp_gt rfl rfl (fun hc => ?_) (fun hc => ?_)
  · exact u_164_19 d hd v0 v1  h _ (if_t hb hc)
  · exact u_164_9 d hd v0 v1  h _ (if_f hb hc)
def b_164_0 (v0 : Option Nat) (v1 : Int32)  (h : Hp) : Option (Int32 × Hp) :=
  if v1 < 0 then b_164_19   h else b_164_4 v0 v1  h
theorem u_164_0 (d : Nat) (hd : 6 ≤ d) (v0 : Option Nat) (v1 : Int32)  (h : Hp) (r : Int32 × Hp) (hb : b_164_0 v0 v1  h = some r) : Rn d 164 0 [some (va_rf v0), some (.int v1)] [] h (some (.int r.1), r.2) := by
  unfold b_164_0 at hb
  refine rn_iload_n (i := 1) rfl rfl ?_
  refine rn_if_lt rfl rfl (fun hc => ?_) (fun hc => ?_)
  · exact u_164_19 d hd v0 v1  h _ (if_t hb hc)
  · exact u_164_4 d hd v0 v1  h _ (if_f hb hc)
/-- BitingDoors.reach(I)I -/
def f_164 (v0 : Option Nat) (v1 : Int32) (h : Hp) : Option (Int32 × Hp) := b_164_0 v0 v1 h
theorem t_164 (d : Nat) (hd : 6 ≤ d) (v0 : Option Nat) (v1 : Int32) (h : Hp) (r : Int32 × Hp) (hb : f_164 v0 v1 h = some r) : Rn d 164 0 [some (va_rf v0), some (.int v1)] [] h (some (.int r.1), r.2) := by
  unfold f_164 at hb
  exact u_164_0 d hd v0 v1 h r hb
def b_165_35 (v1 : Int32)  (h : Hp) : Option (Int32 × Hp) :=
  some (v1, h)
theorem u_165_35 (d : Nat) (hd : 4 ≤ d) (v0 : Option Nat) (v1 : Int32)  (h : Hp) (r : Int32 × Hp) (hb : b_165_35 v1  h = some r) : Rn d 165 35 [some (va_rf v0), some (.int v1)] [] h (some (.int r.1), r.2) := by
  unfold b_165_35 at hb
  refine rn_iload_n (i := 1) rfl rfl ?_
  obtain rfl := Option.some.inj hb
  exact rn_iret rfl rfl
def b_165_29 (k13 : Option Nat → Int32 → Hp → Option (Int32 × Hp)) (v0 : Option Nat) (v1 : Int32)  (h : Hp) : Option (Int32 × Hp) :=
  bnd (v1 + (nI 1)) fun x1 =>
  k13 v0 x1 h
theorem u_165_29 (d : Nat) (hd : 4 ≤ d) (k13 : Option Nat → Int32 → Hp → Option (Int32 × Hp)) (K13 : ∀ (v0 : Option Nat) (v1 : Int32) (h : Hp) (r : Int32 × Hp), k13 v0 v1 h = some r → Rn d 165 13 [some (va_rf v0), some (.int v1)] [] h (some (.int r.1), r.2)) (v0 : Option Nat) (v1 : Int32)  (h : Hp) (r : Int32 × Hp) (hb : b_165_29 k13 v0 v1  h = some r) : Rn d 165 29 [some (va_rf v0), some (.int v1)] [] h (some (.int r.1), r.2) := by
  unfold b_165_29 at hb
  obtain ⟨x1, ex1, hb⟩ := bnd_spec hb
  refine rn_iinc (i := 1) (y := x1) (L1 := [some (va_rf v0), some (.int x1)]) rfl rfl (Nat.le_of_ble_eq_true rfl) (Or.inr (bd_wideR rfl)) (by rw [ex1]; rfl) rfl ?_
  refine rn_goto rfl rfl ?_
  exact K13 v0 x1 h _ hb
def b_165_19 (k13 : Option Nat → Int32 → Hp → Option (Int32 × Hp)) (v0 : Option Nat) (v1 : Int32)  (h : Hp) : Option (Int32 × Hp) :=
  (gQ 10 2 v0 h).bind fun x1 =>
  (grd (rC 7 x1 h)).bind fun _ =>
  (f_95 x1 h).bind fun p2 =>
  if p2.1 ≤ 0 then b_165_35 v1  p2.2 else b_165_29 k13 v0 v1  p2.2
theorem u_165_19 (d : Nat) (hd : 4 ≤ d) (k13 : Option Nat → Int32 → Hp → Option (Int32 × Hp)) (K13 : ∀ (v0 : Option Nat) (v1 : Int32) (h : Hp) (r : Int32 × Hp), k13 v0 v1 h = some r → Rn d 165 13 [some (va_rf v0), some (.int v1)] [] h (some (.int r.1), r.2)) (v0 : Option Nat) (v1 : Int32)  (h : Hp) (r : Int32 × Hp) (hb : b_165_19 k13 v0 v1  h = some r) : Rn d 165 19 [some (va_rf v0), some (.int v1)] [] h (some (.int r.1), r.2) := by
  unfold b_165_19 at hb
  obtain ⟨e, rfl⟩ : ∃ e, d = e + 1 := ⟨d - 1, by omega⟩
  refine rn_aload_n (i := 0) rfl rfl ?_
  refine rn_gQ (c := 10) (k := 2) rfl (by decide) hb (fun x1 hb => ?_)
  obtain ⟨hrc, hb⟩ := grd_spec hb
  obtain ⟨p2, hc, hb⟩ := Option.bind_eq_some_iff.mp hb
  refine Rn.call1 (d := e) (As := [va_rf x1]) (rest := []) rfl rfl rfl (by decide) rfl rfl rfl (bd_rcV hrc rfl) (by decide) (bd_lenC (n := 6) rfl (bd_slR bd_slN) rfl) (bd_locC (n := 6) rfl (bd_slR bd_slN) rfl (t_95 e (by omega) x1 h _ hc)) ?_
  refine rn_if_le rfl rfl (fun hc => ?_) (fun hc => ?_)
  · exact u_165_35 (e + 1) hd v0 v1  p2.2 _ (if_t hb hc)
  · exact u_165_29 (e + 1) hd k13 K13 v0 v1  p2.2 _ (if_f hb hc)
def b_165_13 (k13 : Option Nat → Int32 → Hp → Option (Int32 × Hp)) (v0 : Option Nat) (v1 : Int32)  (h : Hp) : Option (Int32 × Hp) :=
  if (nI 30) < v1 then b_165_35 v1  h else b_165_19 k13 v0 v1  h
theorem u_165_13 (d : Nat) (hd : 4 ≤ d) (k13 : Option Nat → Int32 → Hp → Option (Int32 × Hp)) (K13 : ∀ (v0 : Option Nat) (v1 : Int32) (h : Hp) (r : Int32 × Hp), k13 v0 v1 h = some r → Rn d 165 13 [some (va_rf v0), some (.int v1)] [] h (some (.int r.1), r.2)) (v0 : Option Nat) (v1 : Int32)  (h : Hp) (r : Int32 × Hp) (hb : b_165_13 k13 v0 v1  h = some r) : Rn d 165 13 [some (va_rf v0), some (.int v1)] [] h (some (.int r.1), r.2) := by
  unfold b_165_13 at hb
  refine rn_iload_n (i := 1) rfl rfl ?_
  refine rn_bipush (x := (nI 30)) rfl (by decide) ?_
  refine rn_icmp_gt rfl rfl (fun hc => ?_) (fun hc => ?_)
  · exact u_165_35 d hd v0 v1  h _ (if_t hb hc)
  · exact u_165_19 d hd k13 K13 v0 v1  h _ (if_f hb hc)
def l_165_13 : Nat → Option Nat → Int32 → Hp → Option (Int32 × Hp)
  | 0, _, _, _ => none
  | n + 1, v0, v1, h => b_165_13 (l_165_13 n) v0 v1 h
theorem w_165_13 (d : Nat) (hd : 4 ≤ d) : ∀ (n : Nat) (v0 : Option Nat) (v1 : Int32) (h : Hp) (r : Int32 × Hp), l_165_13 n v0 v1 h = some r → Rn d 165 13 [some (va_rf v0), some (.int v1)] [] h (some (.int r.1), r.2) := by
  intro n
  induction n with
  | zero => intro v0 v1 h r hb; cases hb
  | succ n ih => intro v0 v1 h r hb; exact u_165_13 d hd (l_165_13 n) ih v0 v1 h r hb
def b_165_0 (v0 : Option Nat)  (h : Hp) : Option (Int32 × Hp) :=
  (gQ 10 2 v0 h).bind fun x1 =>
  (gQ 10 1 v0 h).bind fun x2 =>
  (grd (rC 7 x1 h)).bind fun _ =>
  (f_84 x1 x2 h).bind fun p3 =>
  bnd ((nI 1)) fun x4 =>
  l_165_13 FU v0 x4 p3
theorem u_165_0 (d : Nat) (hd : 4 ≤ d) (v0 : Option Nat)  (h : Hp) (r : Int32 × Hp) (hb : b_165_0 v0  h = some r) : Rn d 165 0 [some (va_rf v0), none] [] h (some (.int r.1), r.2) := by
  unfold b_165_0 at hb
  obtain ⟨e, rfl⟩ : ∃ e, d = e + 1 := ⟨d - 1, by omega⟩
  refine rn_aload_n (i := 0) rfl rfl ?_
  refine rn_gQ (c := 10) (k := 2) rfl (by decide) hb (fun x1 hb => ?_)
  refine rn_aload_n (i := 0) rfl rfl ?_
  refine rn_gQ (c := 10) (k := 1) rfl (by decide) hb (fun x2 hb => ?_)
  obtain ⟨hrc, hb⟩ := grd_spec hb
  obtain ⟨p3, hc, hb⟩ := Option.bind_eq_some_iff.mp hb
  refine Rn.call0 (d := e) (As := [va_rf x1, va_rf x2]) (rest := []) rfl rfl rfl (by decide) rfl rfl rfl (bd_rcV hrc rfl) (by decide) (bd_lenC (n := 2) rfl (bd_slR (bd_slR bd_slN)) rfl) (bd_locC (n := 2) rfl (bd_slR (bd_slR bd_slN)) rfl (t_84 e (by omega) x1 x2 h _ hc)) ?_
  refine rn_iconst (x := (nI 1)) rfl (by decide) ?_
  obtain ⟨x4, ex4, hb⟩ := bnd_spec hb
  refine rn_istore_n (i := 1) (L1 := [some (va_rf v0), some (.int x4)]) rfl (Nat.le_of_ble_eq_true rfl) (Or.inr (bd_wideR rfl)) (by rw [ex4]; rfl) ?_
  exact w_165_13 (e + 1) hd FU v0 x4 p3 _ hb
/-- BitingDoors.quiet()I -/
def f_165 (v0 : Option Nat) (h : Hp) : Option (Int32 × Hp) := b_165_0 v0 h
theorem t_165 (d : Nat) (hd : 4 ≤ d) (v0 : Option Nat) (h : Hp) (r : Int32 × Hp) (hb : f_165 v0 h = some r) : Rn d 165 0 [some (va_rf v0), none] [] h (some (.int r.1), r.2) := by
  unfold f_165 at hb
  exact u_165_0 d hd v0 h r hb
def b_166_27   (h : Hp) : Option (Int32 × Hp) :=
  some ((-2 : Int32), h)
theorem u_166_27 (d : Nat) (hd : 6 ≤ d) (v0 : Option Nat)  (h : Hp) (r : Int32 × Hp) (hb : b_166_27   h = some r) : Rn d 166 27 [some (va_rf v0), none] [] h (some (.int r.1), r.2) := by
  unfold b_166_27 at hb
  refine rn_bipush (x := (-2 : Int32)) rfl (by decide) ?_
  obtain rfl := Option.some.inj hb
  exact rn_iret rfl rfl
def b_166_68  (s0 : Int32) (h : Hp) : Option (Int32 × Hp) :=
  some (s0, h)
theorem u_166_68 (d : Nat) (hd : 6 ≤ d) (v0 : Option Nat) (v1 : Int32) (s0 : Int32) (h : Hp) (r : Int32 × Hp) (hb : b_166_68  s0 h = some r) : Rn d 166 68 [some (va_rf v0), some (.int v1)] [.int s0] h (some (.int r.1), r.2) := by
  unfold b_166_68 at hb
  obtain rfl := Option.some.inj hb
  exact rn_iret rfl rfl
def b_166_60 (v0 : Option Nat) (v1 : Int32)  (h : Hp) : Option (Int32 × Hp) :=
  (gQ 10 5 v0 h).bind fun x1 =>
  (grd (rC 6 x1 h)).bind fun _ =>
  (f_78 x1 v1 h).bind fun p2 =>
  b_166_68  p2.1 p2.2
theorem u_166_60 (d : Nat) (hd : 6 ≤ d) (v0 : Option Nat) (v1 : Int32)  (h : Hp) (r : Int32 × Hp) (hb : b_166_60 v0 v1  h = some r) : Rn d 166 60 [some (va_rf v0), some (.int v1)] [] h (some (.int r.1), r.2) := by
  unfold b_166_60 at hb
  obtain ⟨e, rfl⟩ : ∃ e, d = e + 1 := ⟨d - 1, by omega⟩
  refine rn_aload_n (i := 0) rfl rfl ?_
  refine rn_gQ (c := 10) (k := 5) rfl (by decide) hb (fun x1 hb => ?_)
  refine rn_iload_n (i := 1) rfl rfl ?_
  obtain ⟨hrc, hb⟩ := grd_spec hb
  obtain ⟨p2, hc, hb⟩ := Option.bind_eq_some_iff.mp hb
  refine Rn.call1 (d := e) (As := [va_rf x1, .int v1]) (rest := []) rfl rfl rfl (by decide) rfl rfl rfl (bd_rcV hrc rfl) (by decide) (bd_lenC (n := 4) rfl (bd_slR (bd_slI bd_slN)) rfl) (bd_locC (n := 4) rfl (bd_slR (bd_slI bd_slN)) rfl (t_78 e (by omega) x1 v1 h _ hc)) ?_
  exact u_166_68 (e + 1) hd v0 v1 p2.1 p2.2 _ hb
def b_166_56   (h : Hp) : Option (Int32 × Hp) :=
  b_166_68  (-1 : Int32) h
theorem u_166_56 (d : Nat) (hd : 6 ≤ d) (v0 : Option Nat) (v1 : Int32)  (h : Hp) (r : Int32 × Hp) (hb : b_166_56   h = some r) : Rn d 166 56 [some (va_rf v0), some (.int v1)] [] h (some (.int r.1), r.2) := by
  unfold b_166_56 at hb
  refine rn_iconst (x := (-1 : Int32)) rfl (by decide) ?_
  refine rn_goto rfl rfl ?_
  exact u_166_68 d hd v0 v1 (-1 : Int32) h _ hb
def b_166_30 (v0 : Option Nat)  (h : Hp) : Option (Int32 × Hp) :=
  (gQ 10 5 v0 h).bind fun x1 =>
  (gQ 10 1 v0 h).bind fun x2 =>
  (gQ 10 1 v0 h).bind fun x3 =>
  (gQ 7 2 x3 h).bind fun x4 =>
  (gI 4 7 x4 h).bind fun x5 =>
  (grd (rC 6 x1 h)).bind fun _ =>
  (f_71 x1 x2 x5 h).bind fun p6 =>
  bnd (p6.1) fun x7 =>
  if 0 ≤ x7 then b_166_60 v0 x7  p6.2 else b_166_56   p6.2
theorem u_166_30 (d : Nat) (hd : 6 ≤ d) (v0 : Option Nat)  (h : Hp) (r : Int32 × Hp) (hb : b_166_30 v0  h = some r) : Rn d 166 30 [some (va_rf v0), none] [] h (some (.int r.1), r.2) := by
  unfold b_166_30 at hb
  obtain ⟨e, rfl⟩ : ∃ e, d = e + 1 := ⟨d - 1, by omega⟩
  refine rn_aload_n (i := 0) rfl rfl ?_
  refine rn_gQ (c := 10) (k := 5) rfl (by decide) hb (fun x1 hb => ?_)
  refine rn_aload_n (i := 0) rfl rfl ?_
  refine rn_gQ (c := 10) (k := 1) rfl (by decide) hb (fun x2 hb => ?_)
  refine rn_aload_n (i := 0) rfl rfl ?_
  refine rn_gQ (c := 10) (k := 1) rfl (by decide) hb (fun x3 hb => ?_)
  refine rn_gQ (c := 7) (k := 2) rfl (by decide) hb (fun x4 hb => ?_)
  refine rn_gI (c := 4) (k := 7) rfl (by decide) hb (fun x5 hb => ?_)
  obtain ⟨hrc, hb⟩ := grd_spec hb
  obtain ⟨p6, hc, hb⟩ := Option.bind_eq_some_iff.mp hb
  refine Rn.call1 (d := e) (As := [va_rf x1, va_rf x2, .int x5]) (rest := []) rfl rfl rfl (by decide) rfl rfl rfl (bd_rcV hrc rfl) (by decide) (bd_lenC (n := 4) rfl (bd_slR (bd_slR (bd_slI bd_slN))) rfl) (bd_locC (n := 4) rfl (bd_slR (bd_slR (bd_slI bd_slN))) rfl (t_71 e (by omega) x1 x2 x5 h _ hc)) ?_
  obtain ⟨x7, ex7, hb⟩ := bnd_spec hb
  refine rn_istore_n (i := 1) (L1 := [some (va_rf v0), some (.int x7)]) rfl (Nat.le_of_ble_eq_true rfl) (Or.inr (bd_wideR rfl)) (by rw [ex7]; rfl) ?_
  refine rn_iload_n (i := 1) rfl rfl ?_
  refine rn_if_ge rfl rfl (fun hc => ?_) (fun hc => ?_)
  · exact u_166_60 (e + 1) hd v0 x7  p6.2 _ (if_t hb hc)
  · exact u_166_56 (e + 1) hd v0 x7  p6.2 _ (if_f hb hc)
def b_166_13 (v0 : Option Nat)  (h : Hp) : Option (Int32 × Hp) :=
  (gQ 10 5 v0 h).bind fun x1 =>
  (gQ 10 1 v0 h).bind fun x2 =>
  (grd (rC 6 x1 h)).bind fun _ =>
  (f_70 x1 x2 h).bind fun p3 =>
  if ¬ p3.1 = 0 then b_166_30 v0  p3.2 else b_166_27   p3.2
theorem u_166_13 (d : Nat) (hd : 6 ≤ d) (v0 : Option Nat)  (h : Hp) (r : Int32 × Hp) (hb : b_166_13 v0  h = some r) : Rn d 166 13 [some (va_rf v0), none] [] h (some (.int r.1), r.2) := by
  unfold b_166_13 at hb
  obtain ⟨e, rfl⟩ : ∃ e, d = e + 1 := ⟨d - 1, by omega⟩
  refine rn_aload_n (i := 0) rfl rfl ?_
  refine rn_gQ (c := 10) (k := 5) rfl (by decide) hb (fun x1 hb => ?_)
  refine rn_aload_n (i := 0) rfl rfl ?_
  refine rn_gQ (c := 10) (k := 1) rfl (by decide) hb (fun x2 hb => ?_)
  obtain ⟨hrc, hb⟩ := grd_spec hb
  obtain ⟨p3, hc, hb⟩ := Option.bind_eq_some_iff.mp hb
  refine Rn.call1 (d := e) (As := [va_rf x1, va_rf x2]) (rest := []) rfl rfl rfl (by decide) rfl rfl rfl (bd_rcV hrc rfl) (by decide) (bd_lenC (n := 2) rfl (bd_slR (bd_slR bd_slN)) rfl) (bd_locC (n := 2) rfl (bd_slR (bd_slR bd_slN)) rfl (t_70 e (by omega) x1 x2 h _ hc)) ?_
  refine rn_if_ne rfl rfl (fun hc => ?_) (fun hc => ?_)
  · exact u_166_30 (e + 1) hd v0  p3.2 _ (if_t hb hc)
  · exact u_166_27 (e + 1) hd v0  p3.2 _ (if_f hb hc)
def b_166_0 (v0 : Option Nat)  (h : Hp) : Option (Int32 × Hp) :=
  (gQ 10 1 v0 h).bind fun x1 =>
  (gQ 7 2 x1 h).bind fun x2 =>
  (gI 4 7 x2 h).bind fun x3 =>
  if x3 < 0 then b_166_27   h else b_166_13 v0  h
theorem u_166_0 (d : Nat) (hd : 6 ≤ d) (v0 : Option Nat)  (h : Hp) (r : Int32 × Hp) (hb : b_166_0 v0  h = some r) : Rn d 166 0 [some (va_rf v0), none] [] h (some (.int r.1), r.2) := by
  unfold b_166_0 at hb
  refine rn_aload_n (i := 0) rfl rfl ?_
  refine rn_gQ (c := 10) (k := 1) rfl (by decide) hb (fun x1 hb => ?_)
  refine rn_gQ (c := 7) (k := 2) rfl (by decide) hb (fun x2 hb => ?_)
  refine rn_gI (c := 4) (k := 7) rfl (by decide) hb (fun x3 hb => ?_)
  refine rn_if_lt rfl rfl (fun hc => ?_) (fun hc => ?_)
  · exact u_166_27 d hd v0  h _ (if_t hb hc)
  · exact u_166_13 d hd v0  h _ (if_f hb hc)
/-- BitingDoors.stride()I -/
def f_166 (v0 : Option Nat) (h : Hp) : Option (Int32 × Hp) := b_166_0 v0 h
theorem t_166 (d : Nat) (hd : 6 ≤ d) (v0 : Option Nat) (h : Hp) (r : Int32 × Hp) (hb : f_166 v0 h = some r) : Rn d 166 0 [some (va_rf v0), none] [] h (some (.int r.1), r.2) := by
  unfold f_166 at hb
  exact u_166_0 d hd v0 h r hb
def b_167_44 (v0 : Option Nat) (v1 : Option Nat)  (h : Hp) : Option (Int32 × Hp) :=
  (pQ 10 12 v0 v1 h).bind fun h1 =>
  (gI 8 4 v1 h1).bind fun x2 =>
  some (x2, h1)
theorem u_167_44 (d : Nat) (hd : 199 ≤ d) (v0 : Option Nat) (v1 : Option Nat)  (h : Hp) (r : Int32 × Hp) (hb : b_167_44 v0 v1  h = some r) : Rn d 167 44 [some (va_rf v0), some (va_rf v1)] [] h (some (.int r.1), r.2) := by
  unfold b_167_44 at hb
  refine rn_aload_n (i := 0) rfl rfl ?_
  refine rn_aload_n (i := 1) rfl rfl ?_
  refine rn_pQ (c := 10) (k := 12) rfl (by decide) hb (fun h1 hb => ?_)
  refine rn_aload_n (i := 1) rfl rfl ?_
  refine rn_gI (c := 8) (k := 4) rfl (by decide) hb (fun x2 hb => ?_)
  obtain rfl := Option.some.inj hb
  exact rn_iret rfl rfl
def b_167_34 (v0 : Option Nat)  (h : Hp) : Option (Int32 × Hp) :=
  (gQ 10 0 v0 h).bind fun x1 =>
  (gI 9 7 x1 h).bind fun x2 =>
  some (((-1 : Int32) - x2), h)
theorem u_167_34 (d : Nat) (hd : 199 ≤ d) (v0 : Option Nat) (v1 : Option Nat)  (h : Hp) (r : Int32 × Hp) (hb : b_167_34 v0  h = some r) : Rn d 167 34 [some (va_rf v0), some (va_rf v1)] [] h (some (.int r.1), r.2) := by
  unfold b_167_34 at hb
  refine rn_iconst (x := (-1 : Int32)) rfl (by decide) ?_
  refine rn_aload_n (i := 0) rfl rfl ?_
  refine rn_gQ (c := 10) (k := 0) rfl (by decide) hb (fun x1 hb => ?_)
  refine rn_gI (c := 9) (k := 7) rfl (by decide) hb (fun x2 hb => ?_)
  refine rn_isub rfl ?_
  obtain rfl := Option.some.inj hb
  exact rn_iret rfl rfl
def b_167_0 (v0 : Option Nat)  (h : Hp) : Option (Int32 × Hp) :=
  bnd (hNew h 8 0 (bd_nf 8)) fun h1 =>
  (grd (some (hN h)).isSome).bind fun _ =>
  (f_100 (some (hN h)) h1).bind fun p2 =>
  (gQ 10 0 v0 p2).bind fun x3 =>
  (gQ 10 1 v0 p2).bind fun x4 =>
  (gQ 7 2 x4 p2).bind fun x5 =>
  (grd (rC 8 (some (hN h)) p2)).bind fun _ =>
  (f_101 (some (hN h)) x3 x5 p2).bind fun p6 =>
  bnd (p6.1) fun x7 =>
  (gQ 10 0 v0 p6.2).bind fun x8 =>
  (pI 9 1 x8 (nI 0) p6.2).bind fun h9 =>
  if ¬ x7 = none then b_167_44 v0 x7  h9 else b_167_34 v0  h9
theorem u_167_0 (d : Nat) (hd : 199 ≤ d) (v0 : Option Nat)  (h : Hp) (r : Int32 × Hp) (hb : b_167_0 v0  h = some r) : Rn d 167 0 [some (va_rf v0), none] [] h (some (.int r.1), r.2) := by
  unfold b_167_0 at hb
  obtain ⟨e, rfl⟩ : ∃ e, d = e + 1 := ⟨d - 1, by omega⟩
  obtain ⟨h1, eh1, hb⟩ := bnd_spec hb
  refine rn_new rfl (by decide) ?_
  rw [← eh1]
  refine rn_dup rfl (bd_cat_rf _) ?_
  obtain ⟨hrc, hb⟩ := grd_spec hb
  obtain ⟨p2, hc, hb⟩ := Option.bind_eq_some_iff.mp hb
  refine Rn.call0 (d := e) (As := [va_rf (some (hN h))]) (rest := [va_rf (some (hN h))]) rfl rfl rfl (by decide) rfl rfl rfl (bd_rcI hrc) (by rw [bd_cR (bd_cN)]; decide) (bd_lenC (n := 1) rfl (bd_slR bd_slN) rfl) (bd_locC (n := 1) rfl (bd_slR bd_slN) rfl (t_100 e (by omega) (some (hN h)) h1 _ hc)) ?_
  refine rn_aload_n (i := 0) rfl rfl ?_
  refine rn_gQ (c := 10) (k := 0) rfl (by decide) hb (fun x3 hb => ?_)
  refine rn_aload_n (i := 0) rfl rfl ?_
  refine rn_gQ (c := 10) (k := 1) rfl (by decide) hb (fun x4 hb => ?_)
  refine rn_gQ (c := 7) (k := 2) rfl (by decide) hb (fun x5 hb => ?_)
  obtain ⟨hrc, hb⟩ := grd_spec hb
  obtain ⟨p6, hc, hb⟩ := Option.bind_eq_some_iff.mp hb
  refine Rn.call1 (d := e) (As := [va_rf (some (hN h)), va_rf x3, va_rf x5]) (rest := []) rfl rfl rfl (by decide) rfl rfl rfl (bd_rcV hrc rfl) (by decide) (bd_lenC (n := 4) rfl (bd_slR (bd_slR (bd_slR bd_slN))) rfl) (bd_locC (n := 4) rfl (bd_slR (bd_slR (bd_slR bd_slN))) rfl (t_101 e (by omega) (some (hN h)) x3 x5 p2 _ hc)) ?_
  obtain ⟨x7, ex7, hb⟩ := bnd_spec hb
  refine rn_astore_n (i := 1) (L1 := [some (va_rf v0), some (va_rf x7)]) rfl (Nat.le_of_ble_eq_true rfl) (Or.inr (bd_wideR rfl)) (by rw [ex7]; rfl) ?_
  refine rn_aload_n (i := 0) rfl rfl ?_
  refine rn_gQ (c := 10) (k := 0) rfl (by decide) hb (fun x8 hb => ?_)
  refine rn_iconst (x := (nI 0)) rfl (by decide) ?_
  refine rn_pI (c := 9) (k := 1) rfl (by decide) hb (fun h9 hb => ?_)
  refine rn_aload_n (i := 1) rfl rfl ?_
  refine rn_ifnonnull rfl rfl (fun hc => ?_) (fun hc => ?_)
  · exact u_167_44 (e + 1) hd v0 x7  h9 _ (if_t hb hc)
  · exact u_167_34 (e + 1) hd v0 x7  h9 _ (if_f hb (fun z => z hc))
/-- BitingDoors.sentence()I -/
def f_167 (v0 : Option Nat) (h : Hp) : Option (Int32 × Hp) := b_167_0 v0 h
theorem t_167 (d : Nat) (hd : 199 ≤ d) (v0 : Option Nat) (h : Hp) (r : Int32 × Hp) (hb : f_167 v0 h = some r) : Rn d 167 0 [some (va_rf v0), none] [] h (some (.int r.1), r.2) := by
  unfold f_167 at hb
  exact u_167_0 d hd v0 h r hb
def b_168_22  (s0 : Int32) (h : Hp) : Option (Int32 × Hp) :=
  some (s0, h)
theorem u_168_22 (d : Nat) (hd : 6 ≤ d) (v0 : Option Nat) (s0 : Int32) (h : Hp) (r : Int32 × Hp) (hb : b_168_22  s0 h = some r) : Rn d 168 22 [some (va_rf v0)] [.int s0] h (some (.int r.1), r.2) := by
  unfold b_168_22 at hb
  obtain rfl := Option.some.inj hb
  exact rn_iret rfl rfl
def b_168_11 (v0 : Option Nat)  (h : Hp) : Option (Int32 × Hp) :=
  (gQ 10 12 v0 h).bind fun x1 =>
  (gQ 10 1 v0 h).bind fun x2 =>
  (grd (rC 8 x1 h)).bind fun _ =>
  (f_109 x1 x2 h).bind fun p3 =>
  b_168_22  p3.1 p3.2
theorem u_168_11 (d : Nat) (hd : 6 ≤ d) (v0 : Option Nat)  (h : Hp) (r : Int32 × Hp) (hb : b_168_11 v0  h = some r) : Rn d 168 11 [some (va_rf v0)] [] h (some (.int r.1), r.2) := by
  unfold b_168_11 at hb
  obtain ⟨e, rfl⟩ : ∃ e, d = e + 1 := ⟨d - 1, by omega⟩
  refine rn_aload_n (i := 0) rfl rfl ?_
  refine rn_gQ (c := 10) (k := 12) rfl (by decide) hb (fun x1 hb => ?_)
  refine rn_aload_n (i := 0) rfl rfl ?_
  refine rn_gQ (c := 10) (k := 1) rfl (by decide) hb (fun x2 hb => ?_)
  obtain ⟨hrc, hb⟩ := grd_spec hb
  obtain ⟨p3, hc, hb⟩ := Option.bind_eq_some_iff.mp hb
  refine Rn.call1 (d := e) (As := [va_rf x1, va_rf x2]) (rest := []) rfl rfl rfl (by decide) rfl rfl rfl (bd_rcV hrc rfl) (by decide) (bd_lenC (n := 4) rfl (bd_slR (bd_slR bd_slN)) rfl) (bd_locC (n := 4) rfl (bd_slR (bd_slR bd_slN)) rfl (t_109 e (by omega) x1 x2 h _ hc)) ?_
  exact u_168_22 (e + 1) hd v0 p3.1 p3.2 _ hb
def b_168_7   (h : Hp) : Option (Int32 × Hp) :=
  b_168_22  (-1 : Int32) h
theorem u_168_7 (d : Nat) (hd : 6 ≤ d) (v0 : Option Nat)  (h : Hp) (r : Int32 × Hp) (hb : b_168_7   h = some r) : Rn d 168 7 [some (va_rf v0)] [] h (some (.int r.1), r.2) := by
  unfold b_168_7 at hb
  refine rn_iconst (x := (-1 : Int32)) rfl (by decide) ?_
  refine rn_goto rfl rfl ?_
  exact u_168_22 d hd v0 (-1 : Int32) h _ hb
def b_168_0 (v0 : Option Nat)  (h : Hp) : Option (Int32 × Hp) :=
  (gQ 10 12 v0 h).bind fun x1 =>
  if ¬ x1 = none then b_168_11 v0  h else b_168_7   h
theorem u_168_0 (d : Nat) (hd : 6 ≤ d) (v0 : Option Nat)  (h : Hp) (r : Int32 × Hp) (hb : b_168_0 v0  h = some r) : Rn d 168 0 [some (va_rf v0)] [] h (some (.int r.1), r.2) := by
  unfold b_168_0 at hb
  refine rn_aload_n (i := 0) rfl rfl ?_
  refine rn_gQ (c := 10) (k := 12) rfl (by decide) hb (fun x1 hb => ?_)
  refine rn_ifnonnull rfl rfl (fun hc => ?_) (fun hc => ?_)
  · exact u_168_11 d hd v0  h _ (if_t hb hc)
  · exact u_168_7 d hd v0  h _ (if_f hb (fun z => z hc))
/-- BitingDoors.said()I -/
def f_168 (v0 : Option Nat) (h : Hp) : Option (Int32 × Hp) := b_168_0 v0 h
theorem t_168 (d : Nat) (hd : 6 ≤ d) (v0 : Option Nat) (h : Hp) (r : Int32 × Hp) (hb : f_168 v0 h = some r) : Rn d 168 0 [some (va_rf v0)] [] h (some (.int r.1), r.2) := by
  unfold f_168 at hb
  exact u_168_0 d hd v0 h r hb
def b_169_9   (h : Hp) : Option (Int32 × Hp) :=
  (grd (decide ((nI 0) = 0 ∨ (nI 0) = 1))).bind fun _ => some ((nI 0), h)
theorem u_169_9 (d : Nat) (hd : 1 ≤ d) (v0 : Option Nat) (v1 : Int32)  (h : Hp) (r : Int32 × Hp) (hb : b_169_9   h = some r) : Rn d 169 9 [some (va_rf v0), some (.int v1)] [] h (some (.int r.1), r.2) := by
  unfold b_169_9 at hb
  refine rn_iconst (x := (nI 0)) rfl (by decide) ?_
  obtain ⟨hz, hb⟩ := grd_spec hb
  obtain rfl := Option.some.inj hb
  exact rn_zret rfl rfl (of_decide_eq_true hz)
def b_169_33 (v0 : Option Nat) (v1 : Int32)  (h : Hp) : Option (Int32 × Hp) :=
  (gQ 10 6 v0 h).bind fun x1 =>
  (aQ x1 v1 h).bind fun x2 =>
  (gQ 10 1 v0 h).bind fun x3 =>
  (grd (rC 7 x2 h)).bind fun _ =>
  (f_84 x2 x3 h).bind fun p4 =>
  (gQ 10 7 v0 p4).bind fun x5 =>
  (gQ 10 11 v0 p4).bind fun x6 =>
  (wQ x5 v1 x6 p4).bind fun h7 =>
  (gQ 10 8 v0 h7).bind fun x8 =>
  (gQ 10 12 v0 h7).bind fun x9 =>
  (wQ x8 v1 x9 h7).bind fun h10 =>
  (grd (decide ((nI 1) = 0 ∨ (nI 1) = 1))).bind fun _ => some ((nI 1), h10)
theorem u_169_33 (d : Nat) (hd : 1 ≤ d) (v0 : Option Nat) (v1 : Int32)  (h : Hp) (r : Int32 × Hp) (hb : b_169_33 v0 v1  h = some r) : Rn d 169 33 [some (va_rf v0), some (.int v1)] [] h (some (.int r.1), r.2) := by
  unfold b_169_33 at hb
  obtain ⟨e, rfl⟩ : ∃ e, d = e + 1 := ⟨d - 1, by omega⟩
  refine rn_aload_n (i := 0) rfl rfl ?_
  refine rn_gQ (c := 10) (k := 6) rfl (by decide) hb (fun x1 hb => ?_)
  refine rn_iload_n (i := 1) rfl rfl ?_
  refine rn_aQ rfl hb (fun x2 hb => ?_)
  refine rn_aload_n (i := 0) rfl rfl ?_
  refine rn_gQ (c := 10) (k := 1) rfl (by decide) hb (fun x3 hb => ?_)
  obtain ⟨hrc, hb⟩ := grd_spec hb
  obtain ⟨p4, hc, hb⟩ := Option.bind_eq_some_iff.mp hb
  refine Rn.call0 (d := e) (As := [va_rf x2, va_rf x3]) (rest := []) rfl rfl rfl (by decide) rfl rfl rfl (bd_rcV hrc rfl) (by decide) (bd_lenC (n := 2) rfl (bd_slR (bd_slR bd_slN)) rfl) (bd_locC (n := 2) rfl (bd_slR (bd_slR bd_slN)) rfl (t_84 e (by omega) x2 x3 h _ hc)) ?_
  refine rn_aload_n (i := 0) rfl rfl ?_
  refine rn_gQ (c := 10) (k := 7) rfl (by decide) hb (fun x5 hb => ?_)
  refine rn_iload_n (i := 1) rfl rfl ?_
  refine rn_aload_n (i := 0) rfl rfl ?_
  refine rn_gQ (c := 10) (k := 11) rfl (by decide) hb (fun x6 hb => ?_)
  refine rn_wQ rfl hb (fun h7 hb => ?_)
  refine rn_aload_n (i := 0) rfl rfl ?_
  refine rn_gQ (c := 10) (k := 8) rfl (by decide) hb (fun x8 hb => ?_)
  refine rn_iload_n (i := 1) rfl rfl ?_
  refine rn_aload_n (i := 0) rfl rfl ?_
  refine rn_gQ (c := 10) (k := 12) rfl (by decide) hb (fun x9 hb => ?_)
  refine rn_wQ rfl hb (fun h10 hb => ?_)
  refine rn_iconst (x := (nI 1)) rfl (by decide) ?_
  obtain ⟨hz, hb⟩ := grd_spec hb
  obtain rfl := Option.some.inj hb
  exact rn_zret rfl rfl (of_decide_eq_true hz)
def b_169_20 (v0 : Option Nat) (v1 : Int32)  (h : Hp) : Option (Int32 × Hp) :=
  (gQ 10 6 v0 h).bind fun x1 =>
  bnd (hNew h 7 0 (bd_nf 7)) fun h2 =>
  (grd (some (hN h)).isSome).bind fun _ =>
  (f_82 (some (hN h)) h2).bind fun p3 =>
  (wQ x1 v1 (some (hN h)) p3).bind fun h4 =>
  b_169_33 v0 v1  h4
theorem u_169_20 (d : Nat) (hd : 1 ≤ d) (v0 : Option Nat) (v1 : Int32)  (h : Hp) (r : Int32 × Hp) (hb : b_169_20 v0 v1  h = some r) : Rn d 169 20 [some (va_rf v0), some (.int v1)] [] h (some (.int r.1), r.2) := by
  unfold b_169_20 at hb
  obtain ⟨e, rfl⟩ : ∃ e, d = e + 1 := ⟨d - 1, by omega⟩
  refine rn_aload_n (i := 0) rfl rfl ?_
  refine rn_gQ (c := 10) (k := 6) rfl (by decide) hb (fun x1 hb => ?_)
  refine rn_iload_n (i := 1) rfl rfl ?_
  obtain ⟨h2, eh2, hb⟩ := bnd_spec hb
  refine rn_new rfl (by decide) ?_
  rw [← eh2]
  refine rn_dup rfl (bd_cat_rf _) ?_
  obtain ⟨hrc, hb⟩ := grd_spec hb
  obtain ⟨p3, hc, hb⟩ := Option.bind_eq_some_iff.mp hb
  refine Rn.call0 (d := e) (As := [va_rf (some (hN h))]) (rest := [va_rf (some (hN h)), .int v1, va_rf x1]) rfl rfl rfl (by decide) rfl rfl rfl (bd_rcI hrc) (by rw [bd_cR (bd_cI (bd_cR (bd_cN)))]; decide) (bd_lenC (n := 1) rfl (bd_slR bd_slN) rfl) (bd_locC (n := 1) rfl (bd_slR bd_slN) rfl (t_82 e (by omega) (some (hN h)) h2 _ hc)) ?_
  refine rn_wQ rfl hb (fun h4 hb => ?_)
  exact u_169_33 (e + 1) hd v0 v1  h4 _ hb
def b_169_11 (v0 : Option Nat) (v1 : Int32)  (h : Hp) : Option (Int32 × Hp) :=
  (gQ 10 6 v0 h).bind fun x1 =>
  (aQ x1 v1 h).bind fun x2 =>
  if ¬ x2 = none then b_169_33 v0 v1  h else b_169_20 v0 v1  h
theorem u_169_11 (d : Nat) (hd : 1 ≤ d) (v0 : Option Nat) (v1 : Int32)  (h : Hp) (r : Int32 × Hp) (hb : b_169_11 v0 v1  h = some r) : Rn d 169 11 [some (va_rf v0), some (.int v1)] [] h (some (.int r.1), r.2) := by
  unfold b_169_11 at hb
  refine rn_aload_n (i := 0) rfl rfl ?_
  refine rn_gQ (c := 10) (k := 6) rfl (by decide) hb (fun x1 hb => ?_)
  refine rn_iload_n (i := 1) rfl rfl ?_
  refine rn_aQ rfl hb (fun x2 hb => ?_)
  refine rn_ifnonnull rfl rfl (fun hc => ?_) (fun hc => ?_)
  · exact u_169_33 d hd v0 v1  h _ (if_t hb hc)
  · exact u_169_20 d hd v0 v1  h _ (if_f hb (fun z => z hc))
def b_169_4 (v0 : Option Nat) (v1 : Int32)  (h : Hp) : Option (Int32 × Hp) :=
  if v1 < (nI 2) then b_169_11 v0 v1  h else b_169_9   h
theorem u_169_4 (d : Nat) (hd : 1 ≤ d) (v0 : Option Nat) (v1 : Int32)  (h : Hp) (r : Int32 × Hp) (hb : b_169_4 v0 v1  h = some r) : Rn d 169 4 [some (va_rf v0), some (.int v1)] [] h (some (.int r.1), r.2) := by
  unfold b_169_4 at hb
  refine rn_iload_n (i := 1) rfl rfl ?_
  refine rn_iconst (x := (nI 2)) rfl (by decide) ?_
  refine rn_icmp_lt rfl rfl (fun hc => ?_) (fun hc => ?_)
  · exact u_169_11 d hd v0 v1  h _ (if_t hb hc)
  · exact u_169_9 d hd v0 v1  h _ (if_f hb hc)
def b_169_0 (v0 : Option Nat) (v1 : Int32)  (h : Hp) : Option (Int32 × Hp) :=
  if v1 < 0 then b_169_9   h else b_169_4 v0 v1  h
theorem u_169_0 (d : Nat) (hd : 1 ≤ d) (v0 : Option Nat) (v1 : Int32)  (h : Hp) (r : Int32 × Hp) (hb : b_169_0 v0 v1  h = some r) : Rn d 169 0 [some (va_rf v0), some (.int v1)] [] h (some (.int r.1), r.2) := by
  unfold b_169_0 at hb
  refine rn_iload_n (i := 1) rfl rfl ?_
  refine rn_if_lt rfl rfl (fun hc => ?_) (fun hc => ?_)
  · exact u_169_9 d hd v0 v1  h _ (if_t hb hc)
  · exact u_169_4 d hd v0 v1  h _ (if_f hb hc)
/-- BitingDoors.image(I)Z -/
def f_169 (v0 : Option Nat) (v1 : Int32) (h : Hp) : Option (Int32 × Hp) := b_169_0 v0 v1 h
theorem t_169 (d : Nat) (hd : 1 ≤ d) (v0 : Option Nat) (v1 : Int32) (h : Hp) (r : Int32 × Hp) (hb : f_169 v0 v1 h = some r) : Rn d 169 0 [some (va_rf v0), some (.int v1)] [] h (some (.int r.1), r.2) := by
  unfold f_169 at hb
  exact u_169_0 d hd v0 v1 h r hb
def b_170_18   (h : Hp) : Option (Int32 × Hp) :=
  (grd (decide ((nI 0) = 0 ∨ (nI 0) = 1))).bind fun _ => some ((nI 0), h)
theorem u_170_18 (d : Nat) (hd : 1 ≤ d) (v0 : Option Nat) (v1 : Int32)  (h : Hp) (r : Int32 × Hp) (hb : b_170_18   h = some r) : Rn d 170 18 [some (va_rf v0), some (.int v1)] [] h (some (.int r.1), r.2) := by
  unfold b_170_18 at hb
  refine rn_iconst (x := (nI 0)) rfl (by decide) ?_
  obtain ⟨hz, hb⟩ := grd_spec hb
  obtain rfl := Option.some.inj hb
  exact rn_zret rfl rfl (of_decide_eq_true hz)
def b_170_20 (v0 : Option Nat) (v1 : Int32)  (h : Hp) : Option (Int32 × Hp) :=
  (gQ 10 1 v0 h).bind fun x1 =>
  (gQ 10 6 v0 h).bind fun x2 =>
  (aQ x2 v1 h).bind fun x3 =>
  (grd (rC 7 x1 h)).bind fun _ =>
  (f_84 x1 x3 h).bind fun p4 =>
  (gQ 10 7 v0 p4).bind fun x5 =>
  (aQ x5 v1 p4).bind fun x6 =>
  (pQ 10 11 v0 x6 p4).bind fun h7 =>
  (gQ 10 8 v0 h7).bind fun x8 =>
  (aQ x8 v1 h7).bind fun x9 =>
  (pQ 10 12 v0 x9 h7).bind fun h10 =>
  (grd (decide ((nI 1) = 0 ∨ (nI 1) = 1))).bind fun _ => some ((nI 1), h10)
theorem u_170_20 (d : Nat) (hd : 1 ≤ d) (v0 : Option Nat) (v1 : Int32)  (h : Hp) (r : Int32 × Hp) (hb : b_170_20 v0 v1  h = some r) : Rn d 170 20 [some (va_rf v0), some (.int v1)] [] h (some (.int r.1), r.2) := by
  unfold b_170_20 at hb
  obtain ⟨e, rfl⟩ : ∃ e, d = e + 1 := ⟨d - 1, by omega⟩
  refine rn_aload_n (i := 0) rfl rfl ?_
  refine rn_gQ (c := 10) (k := 1) rfl (by decide) hb (fun x1 hb => ?_)
  refine rn_aload_n (i := 0) rfl rfl ?_
  refine rn_gQ (c := 10) (k := 6) rfl (by decide) hb (fun x2 hb => ?_)
  refine rn_iload_n (i := 1) rfl rfl ?_
  refine rn_aQ rfl hb (fun x3 hb => ?_)
  obtain ⟨hrc, hb⟩ := grd_spec hb
  obtain ⟨p4, hc, hb⟩ := Option.bind_eq_some_iff.mp hb
  refine Rn.call0 (d := e) (As := [va_rf x1, va_rf x3]) (rest := []) rfl rfl rfl (by decide) rfl rfl rfl (bd_rcV hrc rfl) (by decide) (bd_lenC (n := 2) rfl (bd_slR (bd_slR bd_slN)) rfl) (bd_locC (n := 2) rfl (bd_slR (bd_slR bd_slN)) rfl (t_84 e (by omega) x1 x3 h _ hc)) ?_
  refine rn_aload_n (i := 0) rfl rfl ?_
  refine rn_aload_n (i := 0) rfl rfl ?_
  refine rn_gQ (c := 10) (k := 7) rfl (by decide) hb (fun x5 hb => ?_)
  refine rn_iload_n (i := 1) rfl rfl ?_
  refine rn_aQ rfl hb (fun x6 hb => ?_)
  refine rn_pQ (c := 10) (k := 11) rfl (by decide) hb (fun h7 hb => ?_)
  refine rn_aload_n (i := 0) rfl rfl ?_
  refine rn_aload_n (i := 0) rfl rfl ?_
  refine rn_gQ (c := 10) (k := 8) rfl (by decide) hb (fun x8 hb => ?_)
  refine rn_iload_n (i := 1) rfl rfl ?_
  refine rn_aQ rfl hb (fun x9 hb => ?_)
  refine rn_pQ (c := 10) (k := 12) rfl (by decide) hb (fun h10 hb => ?_)
  refine rn_iconst (x := (nI 1)) rfl (by decide) ?_
  obtain ⟨hz, hb⟩ := grd_spec hb
  obtain rfl := Option.some.inj hb
  exact rn_zret rfl rfl (of_decide_eq_true hz)
def b_170_9 (v0 : Option Nat) (v1 : Int32)  (h : Hp) : Option (Int32 × Hp) :=
  (gQ 10 6 v0 h).bind fun x1 =>
  (aQ x1 v1 h).bind fun x2 =>
  if ¬ x2 = none then b_170_20 v0 v1  h else b_170_18   h
theorem u_170_9 (d : Nat) (hd : 1 ≤ d) (v0 : Option Nat) (v1 : Int32)  (h : Hp) (r : Int32 × Hp) (hb : b_170_9 v0 v1  h = some r) : Rn d 170 9 [some (va_rf v0), some (.int v1)] [] h (some (.int r.1), r.2) := by
  unfold b_170_9 at hb
  refine rn_aload_n (i := 0) rfl rfl ?_
  refine rn_gQ (c := 10) (k := 6) rfl (by decide) hb (fun x1 hb => ?_)
  refine rn_iload_n (i := 1) rfl rfl ?_
  refine rn_aQ rfl hb (fun x2 hb => ?_)
  refine rn_ifnonnull rfl rfl (fun hc => ?_) (fun hc => ?_)
  · exact u_170_20 d hd v0 v1  h _ (if_t hb hc)
  · exact u_170_18 d hd v0 v1  h _ (if_f hb (fun z => z hc))
def b_170_4 (v0 : Option Nat) (v1 : Int32)  (h : Hp) : Option (Int32 × Hp) :=
  if (nI 2) ≤ v1 then b_170_18   h else b_170_9 v0 v1  h
theorem u_170_4 (d : Nat) (hd : 1 ≤ d) (v0 : Option Nat) (v1 : Int32)  (h : Hp) (r : Int32 × Hp) (hb : b_170_4 v0 v1  h = some r) : Rn d 170 4 [some (va_rf v0), some (.int v1)] [] h (some (.int r.1), r.2) := by
  unfold b_170_4 at hb
  refine rn_iload_n (i := 1) rfl rfl ?_
  refine rn_iconst (x := (nI 2)) rfl (by decide) ?_
  refine rn_icmp_ge rfl rfl (fun hc => ?_) (fun hc => ?_)
  · exact u_170_18 d hd v0 v1  h _ (if_t hb hc)
  · exact u_170_9 d hd v0 v1  h _ (if_f hb hc)
def b_170_0 (v0 : Option Nat) (v1 : Int32)  (h : Hp) : Option (Int32 × Hp) :=
  if v1 < 0 then b_170_18   h else b_170_4 v0 v1  h
theorem u_170_0 (d : Nat) (hd : 1 ≤ d) (v0 : Option Nat) (v1 : Int32)  (h : Hp) (r : Int32 × Hp) (hb : b_170_0 v0 v1  h = some r) : Rn d 170 0 [some (va_rf v0), some (.int v1)] [] h (some (.int r.1), r.2) := by
  unfold b_170_0 at hb
  refine rn_iload_n (i := 1) rfl rfl ?_
  refine rn_if_lt rfl rfl (fun hc => ?_) (fun hc => ?_)
  · exact u_170_18 d hd v0 v1  h _ (if_t hb hc)
  · exact u_170_4 d hd v0 v1  h _ (if_f hb hc)
/-- BitingDoors.restore(I)Z -/
def f_170 (v0 : Option Nat) (v1 : Int32) (h : Hp) : Option (Int32 × Hp) := b_170_0 v0 v1 h
theorem t_170 (d : Nat) (hd : 1 ≤ d) (v0 : Option Nat) (v1 : Int32) (h : Hp) (r : Int32 × Hp) (hb : f_170 v0 v1 h = some r) : Rn d 170 0 [some (va_rf v0), some (.int v1)] [] h (some (.int r.1), r.2) := by
  unfold f_170 at hb
  exact u_170_0 d hd v0 v1 h r hb
def b_171_40 (v0 : Option Nat)  (h : Hp) : Option (Int32 × Hp) :=
  (gQ 10 1 v0 h).bind fun x1 =>
  (gQ 7 2 x1 h).bind fun x2 =>
  (gI 4 3 x2 h).bind fun x3 =>
  some (x3, h)
theorem u_171_40 (d : Nat) (hd : 0 ≤ d) (v0 : Option Nat) (v1 : Int32)  (h : Hp) (r : Int32 × Hp) (hb : b_171_40 v0  h = some r) : Rn d 171 40 [some (va_rf v0), some (.int v1)] [] h (some (.int r.1), r.2) := by
  unfold b_171_40 at hb
  refine rn_aload_n (i := 0) rfl rfl ?_
  refine rn_gQ (c := 10) (k := 1) rfl (by decide) hb (fun x1 hb => ?_)
  refine rn_gQ (c := 7) (k := 2) rfl (by decide) hb (fun x2 hb => ?_)
  refine rn_gI (c := 4) (k := 3) rfl (by decide) hb (fun x3 hb => ?_)
  obtain rfl := Option.some.inj hb
  exact rn_iret rfl rfl
def b_171_51 (v0 : Option Nat)  (h : Hp) : Option (Int32 × Hp) :=
  (gQ 10 1 v0 h).bind fun x1 =>
  (gQ 7 2 x1 h).bind fun x2 =>
  (gI 4 4 x2 h).bind fun x3 =>
  some (x3, h)
theorem u_171_51 (d : Nat) (hd : 0 ≤ d) (v0 : Option Nat) (v1 : Int32)  (h : Hp) (r : Int32 × Hp) (hb : b_171_51 v0  h = some r) : Rn d 171 51 [some (va_rf v0), some (.int v1)] [] h (some (.int r.1), r.2) := by
  unfold b_171_51 at hb
  refine rn_aload_n (i := 0) rfl rfl ?_
  refine rn_gQ (c := 10) (k := 1) rfl (by decide) hb (fun x1 hb => ?_)
  refine rn_gQ (c := 7) (k := 2) rfl (by decide) hb (fun x2 hb => ?_)
  refine rn_gI (c := 4) (k := 4) rfl (by decide) hb (fun x3 hb => ?_)
  obtain rfl := Option.some.inj hb
  exact rn_iret rfl rfl
def b_171_62 (v0 : Option Nat)  (h : Hp) : Option (Int32 × Hp) :=
  (gQ 10 1 v0 h).bind fun x1 =>
  (gQ 7 2 x1 h).bind fun x2 =>
  (gI 4 5 x2 h).bind fun x3 =>
  some (x3, h)
theorem u_171_62 (d : Nat) (hd : 0 ≤ d) (v0 : Option Nat) (v1 : Int32)  (h : Hp) (r : Int32 × Hp) (hb : b_171_62 v0  h = some r) : Rn d 171 62 [some (va_rf v0), some (.int v1)] [] h (some (.int r.1), r.2) := by
  unfold b_171_62 at hb
  refine rn_aload_n (i := 0) rfl rfl ?_
  refine rn_gQ (c := 10) (k := 1) rfl (by decide) hb (fun x1 hb => ?_)
  refine rn_gQ (c := 7) (k := 2) rfl (by decide) hb (fun x2 hb => ?_)
  refine rn_gI (c := 4) (k := 5) rfl (by decide) hb (fun x3 hb => ?_)
  obtain rfl := Option.some.inj hb
  exact rn_iret rfl rfl
def b_171_73 (v0 : Option Nat)  (h : Hp) : Option (Int32 × Hp) :=
  (gQ 10 1 v0 h).bind fun x1 =>
  (gQ 7 2 x1 h).bind fun x2 =>
  (gI 4 6 x2 h).bind fun x3 =>
  some (x3, h)
theorem u_171_73 (d : Nat) (hd : 0 ≤ d) (v0 : Option Nat) (v1 : Int32)  (h : Hp) (r : Int32 × Hp) (hb : b_171_73 v0  h = some r) : Rn d 171 73 [some (va_rf v0), some (.int v1)] [] h (some (.int r.1), r.2) := by
  unfold b_171_73 at hb
  refine rn_aload_n (i := 0) rfl rfl ?_
  refine rn_gQ (c := 10) (k := 1) rfl (by decide) hb (fun x1 hb => ?_)
  refine rn_gQ (c := 7) (k := 2) rfl (by decide) hb (fun x2 hb => ?_)
  refine rn_gI (c := 4) (k := 6) rfl (by decide) hb (fun x3 hb => ?_)
  obtain rfl := Option.some.inj hb
  exact rn_iret rfl rfl
def b_171_102  (s0 : Int32) (h : Hp) : Option (Int32 × Hp) :=
  some (s0, h)
theorem u_171_102 (d : Nat) (hd : 0 ≤ d) (v0 : Option Nat) (v1 : Int32) (s0 : Int32) (h : Hp) (r : Int32 × Hp) (hb : b_171_102  s0 h = some r) : Rn d 171 102 [some (va_rf v0), some (.int v1)] [.int s0] h (some (.int r.1), r.2) := by
  unfold b_171_102 at hb
  obtain rfl := Option.some.inj hb
  exact rn_iret rfl rfl
def b_171_95 (v0 : Option Nat)  (h : Hp) : Option (Int32 × Hp) :=
  (gQ 10 11 v0 h).bind fun x1 =>
  (gI 0 2 x1 h).bind fun x2 =>
  b_171_102  x2 h
theorem u_171_95 (d : Nat) (hd : 0 ≤ d) (v0 : Option Nat) (v1 : Int32)  (h : Hp) (r : Int32 × Hp) (hb : b_171_95 v0  h = some r) : Rn d 171 95 [some (va_rf v0), some (.int v1)] [] h (some (.int r.1), r.2) := by
  unfold b_171_95 at hb
  refine rn_aload_n (i := 0) rfl rfl ?_
  refine rn_gQ (c := 10) (k := 11) rfl (by decide) hb (fun x1 hb => ?_)
  refine rn_gI (c := 0) (k := 2) rfl (by decide) hb (fun x2 hb => ?_)
  exact u_171_102 d hd v0 v1 x2 h _ hb
def b_171_91   (h : Hp) : Option (Int32 × Hp) :=
  b_171_102  (nI 0) h
theorem u_171_91 (d : Nat) (hd : 0 ≤ d) (v0 : Option Nat) (v1 : Int32)  (h : Hp) (r : Int32 × Hp) (hb : b_171_91   h = some r) : Rn d 171 91 [some (va_rf v0), some (.int v1)] [] h (some (.int r.1), r.2) := by
  unfold b_171_91 at hb
  refine rn_iconst (x := (nI 0)) rfl (by decide) ?_
  refine rn_goto rfl rfl ?_
  exact u_171_102 d hd v0 v1 (nI 0) h _ hb
def b_171_84 (v0 : Option Nat)  (h : Hp) : Option (Int32 × Hp) :=
  (gQ 10 11 v0 h).bind fun x1 =>
  if ¬ x1 = none then b_171_95 v0  h else b_171_91   h
theorem u_171_84 (d : Nat) (hd : 0 ≤ d) (v0 : Option Nat) (v1 : Int32)  (h : Hp) (r : Int32 × Hp) (hb : b_171_84 v0  h = some r) : Rn d 171 84 [some (va_rf v0), some (.int v1)] [] h (some (.int r.1), r.2) := by
  unfold b_171_84 at hb
  refine rn_aload_n (i := 0) rfl rfl ?_
  refine rn_gQ (c := 10) (k := 11) rfl (by decide) hb (fun x1 hb => ?_)
  refine rn_ifnonnull rfl rfl (fun hc => ?_) (fun hc => ?_)
  · exact u_171_95 d hd v0 v1  h _ (if_t hb hc)
  · exact u_171_91 d hd v0 v1  h _ (if_f hb (fun z => z hc))
def b_171_103 (v0 : Option Nat)  (h : Hp) : Option (Int32 × Hp) :=
  (gQ 10 0 v0 h).bind fun x1 =>
  (gI 9 1 x1 h).bind fun x2 =>
  some (x2, h)
theorem u_171_103 (d : Nat) (hd : 0 ≤ d) (v0 : Option Nat) (v1 : Int32)  (h : Hp) (r : Int32 × Hp) (hb : b_171_103 v0  h = some r) : Rn d 171 103 [some (va_rf v0), some (.int v1)] [] h (some (.int r.1), r.2) := by
  unfold b_171_103 at hb
  refine rn_aload_n (i := 0) rfl rfl ?_
  refine rn_gQ (c := 10) (k := 0) rfl (by decide) hb (fun x1 hb => ?_)
  refine rn_gI (c := 9) (k := 1) rfl (by decide) hb (fun x2 hb => ?_)
  obtain rfl := Option.some.inj hb
  exact rn_iret rfl rfl
def b_171_111   (h : Hp) : Option (Int32 × Hp) :=
  some ((-1 : Int32), h)
theorem u_171_111 (d : Nat) (hd : 0 ≤ d) (v0 : Option Nat) (v1 : Int32)  (h : Hp) (r : Int32 × Hp) (hb : b_171_111   h = some r) : Rn d 171 111 [some (va_rf v0), some (.int v1)] [] h (some (.int r.1), r.2) := by
  unfold b_171_111 at hb
  refine rn_iconst (x := (-1 : Int32)) rfl (by decide) ?_
  obtain rfl := Option.some.inj hb
  exact rn_iret rfl rfl
def b_171_0 (v0 : Option Nat) (v1 : Int32)  (h : Hp) : Option (Int32 × Hp) :=
  if v1 = nI 0 then b_171_40 v0  h else if v1 = nI 1 then b_171_51 v0  h else if v1 = nI 2 then b_171_62 v0  h else if v1 = nI 3 then b_171_73 v0  h else if v1 = nI 4 then b_171_84 v0  h else if v1 = nI 5 then b_171_103 v0  h else b_171_111   h
theorem u_171_0 (d : Nat) (hd : 0 ≤ d) (v0 : Option Nat) (v1 : Int32)  (h : Hp) (r : Int32 × Hp) (hb : b_171_0 v0 v1  h = some r) : Rn d 171 0 [some (va_rf v0), some (.int v1)] [] h (some (.int r.1), r.2) := by
  unfold b_171_0 at hb
  refine rn_iload_n (i := 1) rfl rfl ?_
  by_cases hc0 : v1 = nI 0
  · rw [if_pos hc0] at hb; refine rn_tsw (t := 40) rfl (by rw [hc0]; decide) ?_; exact u_171_40 d hd v0 v1  h _ hb
  rw [if_neg hc0] at hb
  by_cases hc1 : v1 = nI 1
  · rw [if_pos hc1] at hb; refine rn_tsw (t := 51) rfl (by rw [hc1]; decide) ?_; exact u_171_51 d hd v0 v1  h _ hb
  rw [if_neg hc1] at hb
  by_cases hc2 : v1 = nI 2
  · rw [if_pos hc2] at hb; refine rn_tsw (t := 62) rfl (by rw [hc2]; decide) ?_; exact u_171_62 d hd v0 v1  h _ hb
  rw [if_neg hc2] at hb
  by_cases hc3 : v1 = nI 3
  · rw [if_pos hc3] at hb; refine rn_tsw (t := 73) rfl (by rw [hc3]; decide) ?_; exact u_171_73 d hd v0 v1  h _ hb
  rw [if_neg hc3] at hb
  by_cases hc4 : v1 = nI 4
  · rw [if_pos hc4] at hb; refine rn_tsw (t := 84) rfl (by rw [hc4]; decide) ?_; exact u_171_84 d hd v0 v1  h _ hb
  rw [if_neg hc4] at hb
  by_cases hc5 : v1 = nI 5
  · rw [if_pos hc5] at hb; refine rn_tsw (t := 103) rfl (by rw [hc5]; decide) ?_; exact u_171_103 d hd v0 v1  h _ hb
  rw [if_neg hc5] at hb
  have z0 := sw_ne hc0 (by decide)
  have z1 := sw_ne hc1 (by decide)
  have z2 := sw_ne hc2 (by decide)
  have z3 := sw_ne hc3 (by decide)
  have z4 := sw_ne hc4 (by decide)
  have z5 := sw_ne hc5 (by decide)
  refine rn_tsw (t := 111) rfl (swT_d (by omega) rfl) ?_
  exact u_171_111 d hd v0 v1  h _ hb
/-- BitingDoors.count(I)I -/
def f_171 (v0 : Option Nat) (v1 : Int32) (h : Hp) : Option (Int32 × Hp) := b_171_0 v0 v1 h
theorem t_171 (d : Nat) (hd : 0 ≤ d) (v0 : Option Nat) (v1 : Int32) (h : Hp) (r : Int32 × Hp) (hb : f_171 v0 v1 h = some r) : Rn d 171 0 [some (va_rf v0), some (.int v1)] [] h (some (.int r.1), r.2) := by
  unfold f_171 at hb
  exact u_171_0 d hd v0 v1 h r hb
def b_175_0 (v0 : Option Nat)  (h : Hp) : Option (Hp) :=
  (grd v0.isSome).bind fun _ =>
  (nA 12 (nI 940) h).bind fun h1 =>
  (pQ 11 1 v0 (some (hN h)) h1).bind fun h2 =>
  (nA 12 (nI 704) h2).bind fun h3 =>
  (pQ 11 14 v0 (some (hN h2)) h3).bind fun h4 =>
  (nA 12 (nI 330) h4).bind fun h5 =>
  (pQ 11 15 v0 (some (hN h4)) h5).bind fun h6 =>
  (nA 12 (nI 120) h6).bind fun h7 =>
  (pQ 11 16 v0 (some (hN h6)) h7).bind fun h8 =>
  (nA 12 (nI 1408) h8).bind fun h9 =>
  (pQ 11 17 v0 (some (hN h8)) h9).bind fun h10 =>
  (nA 13 (nI 10) h10).bind fun h11 =>
  (pQ 11 18 v0 (some (hN h10)) h11).bind fun h12 =>
  (nA 13 (nI 10) h12).bind fun h13 =>
  (pQ 11 19 v0 (some (hN h12)) h13).bind fun h14 =>
  (nA 13 (nI 20) h14).bind fun h15 =>
  (pQ 11 20 v0 (some (hN h14)) h15).bind fun h16 =>
  (nA 14 (nI 2) h16).bind fun h17 =>
  (pQ 11 21 v0 (some (hN h16)) h17).bind fun h18 =>
  (nA 12 (nI 4) h18).bind fun h19 =>
  (pQ 11 24 v0 (some (hN h18)) h19).bind fun h20 =>
  (nA 12 (nI 4) h20).bind fun h21 =>
  (pQ 11 25 v0 (some (hN h20)) h21).bind fun h22 =>
  (nA 13 (nI 40) h22).bind fun h23 =>
  (pQ 11 27 v0 (some (hN h22)) h23).bind fun h24 =>
  (nA 13 (nI 40) h24).bind fun h25 =>
  (pQ 11 28 v0 (some (hN h24)) h25).bind fun h26 =>
  (nA 12 (nI 10) h26).bind fun h27 =>
  (pQ 11 29 v0 (some (hN h26)) h27).bind fun h28 =>
  (nA 12 (nI 10) h28).bind fun h29 =>
  (pQ 11 30 v0 (some (hN h28)) h29).bind fun h30 =>
  (nA 12 (nI 10) h30).bind fun h31 =>
  (pQ 11 31 v0 (some (hN h30)) h31).bind fun h32 =>
  (nA 12 (nI 10) h32).bind fun h33 =>
  (pQ 11 34 v0 (some (hN h32)) h33).bind fun h34 =>
  (nA 12 (nI 10) h34).bind fun h35 =>
  (pQ 11 35 v0 (some (hN h34)) h35).bind fun h36 =>
  (nA 12 (nI 10) h36).bind fun h37 =>
  (pQ 11 36 v0 (some (hN h36)) h37).bind fun h38 =>
  (nA 12 (nI 1024) h38).bind fun h39 =>
  (pQ 11 39 v0 (some (hN h38)) h39).bind fun h40 =>
  (nA 12 (nI 1024) h40).bind fun h41 =>
  (pQ 11 40 v0 (some (hN h40)) h41).bind fun h42 =>
  (nA 12 (nI 10) h42).bind fun h43 =>
  (pQ 11 41 v0 (some (hN h42)) h43).bind fun h44 =>
  (nA 12 (nI 10) h44).bind fun h45 =>
  (pQ 11 43 v0 (some (hN h44)) h45).bind fun h46 =>
  (nA 12 (nI 100) h46).bind fun h47 =>
  (pQ 11 44 v0 (some (hN h46)) h47).bind fun h48 =>
  (nA 12 (nI 5) h48).bind fun h49 =>
  (wI (some (hN h48)) (nI 0) (-2 : Int32) h49).bind fun h50 =>
  (wI (some (hN h48)) (nI 1) (-2 : Int32) h50).bind fun h51 =>
  (wI (some (hN h48)) (nI 2) (-2 : Int32) h51).bind fun h52 =>
  (wI (some (hN h48)) (nI 3) (-2 : Int32) h52).bind fun h53 =>
  (wI (some (hN h48)) (nI 4) (-2 : Int32) h53).bind fun h54 =>
  (pQ 11 48 v0 (some (hN h48)) h54).bind fun h55 =>
  (nA 12 (nI 24300) h55).bind fun h56 =>
  (pQ 11 50 v0 (some (hN h55)) h56).bind fun h57 =>
  (nA 12 (nI 24300) h57).bind fun h58 =>
  (pQ 11 51 v0 (some (hN h57)) h58).bind fun h59 =>
  (nA 12 (nI 24300) h59).bind fun h60 =>
  (pQ 11 52 v0 (some (hN h59)) h60).bind fun h61 =>
  (nA 12 (nI 24300) h61).bind fun h62 =>
  (pQ 11 53 v0 (some (hN h61)) h62).bind fun h63 =>
  (nA 12 (nI 24300) h63).bind fun h64 =>
  (pQ 11 54 v0 (some (hN h63)) h64).bind fun h65 =>
  (nA 14 (nI 100) h65).bind fun h66 =>
  (pQ 11 58 v0 (some (hN h65)) h66).bind fun h67 =>
  (nA 12 (nI 240) h67).bind fun h68 =>
  (pQ 11 59 v0 (some (hN h67)) h68).bind fun h69 =>
  some h69
theorem u_175_0 (d : Nat) (hd : 0 ≤ d) (v0 : Option Nat)  (h : Hp) (r : Hp) (hb : b_175_0 v0  h = some r) : Rn d 175 0 [some (va_rf v0)] [] h (none, r) := by
  unfold b_175_0 at hb
  refine rn_aload_n (i := 0) rfl rfl ?_
  obtain ⟨hq, hb⟩ := grd_spec hb
  refine rn_oinit rfl hq (by decide) ?_
  refine rn_aload_n (i := 0) rfl rfl ?_
  refine rn_sipush (x := (nI 940)) rfl (by decide) ?_
  refine rn_newarray rfl hb (fun h1 hb => ?_)
  refine rn_pQ (c := 11) (k := 1) rfl (by decide) hb (fun h2 hb => ?_)
  refine rn_aload_n (i := 0) rfl rfl ?_
  refine rn_sipush (x := (nI 704)) rfl (by decide) ?_
  refine rn_newarray rfl hb (fun h3 hb => ?_)
  refine rn_pQ (c := 11) (k := 14) rfl (by decide) hb (fun h4 hb => ?_)
  refine rn_aload_n (i := 0) rfl rfl ?_
  refine rn_sipush (x := (nI 330)) rfl (by decide) ?_
  refine rn_newarray rfl hb (fun h5 hb => ?_)
  refine rn_pQ (c := 11) (k := 15) rfl (by decide) hb (fun h6 hb => ?_)
  refine rn_aload_n (i := 0) rfl rfl ?_
  refine rn_bipush (x := (nI 120)) rfl (by decide) ?_
  refine rn_newarray rfl hb (fun h7 hb => ?_)
  refine rn_pQ (c := 11) (k := 16) rfl (by decide) hb (fun h8 hb => ?_)
  refine rn_aload_n (i := 0) rfl rfl ?_
  refine rn_sipush (x := (nI 1408)) rfl (by decide) ?_
  refine rn_newarray rfl hb (fun h9 hb => ?_)
  refine rn_pQ (c := 11) (k := 17) rfl (by decide) hb (fun h10 hb => ?_)
  refine rn_aload_n (i := 0) rfl rfl ?_
  refine rn_bipush (x := (nI 10)) rfl (by decide) ?_
  refine rn_newarray rfl hb (fun h11 hb => ?_)
  refine rn_pQ (c := 11) (k := 18) rfl (by decide) hb (fun h12 hb => ?_)
  refine rn_aload_n (i := 0) rfl rfl ?_
  refine rn_bipush (x := (nI 10)) rfl (by decide) ?_
  refine rn_newarray rfl hb (fun h13 hb => ?_)
  refine rn_pQ (c := 11) (k := 19) rfl (by decide) hb (fun h14 hb => ?_)
  refine rn_aload_n (i := 0) rfl rfl ?_
  refine rn_bipush (x := (nI 20)) rfl (by decide) ?_
  refine rn_newarray rfl hb (fun h15 hb => ?_)
  refine rn_pQ (c := 11) (k := 20) rfl (by decide) hb (fun h16 hb => ?_)
  refine rn_aload_n (i := 0) rfl rfl ?_
  refine rn_iconst (x := (nI 2)) rfl (by decide) ?_
  refine rn_newarray rfl hb (fun h17 hb => ?_)
  refine rn_pQ (c := 11) (k := 21) rfl (by decide) hb (fun h18 hb => ?_)
  refine rn_aload_n (i := 0) rfl rfl ?_
  refine rn_iconst (x := (nI 4)) rfl (by decide) ?_
  refine rn_newarray rfl hb (fun h19 hb => ?_)
  refine rn_pQ (c := 11) (k := 24) rfl (by decide) hb (fun h20 hb => ?_)
  refine rn_aload_n (i := 0) rfl rfl ?_
  refine rn_iconst (x := (nI 4)) rfl (by decide) ?_
  refine rn_newarray rfl hb (fun h21 hb => ?_)
  refine rn_pQ (c := 11) (k := 25) rfl (by decide) hb (fun h22 hb => ?_)
  refine rn_aload_n (i := 0) rfl rfl ?_
  refine rn_bipush (x := (nI 40)) rfl (by decide) ?_
  refine rn_newarray rfl hb (fun h23 hb => ?_)
  refine rn_pQ (c := 11) (k := 27) rfl (by decide) hb (fun h24 hb => ?_)
  refine rn_aload_n (i := 0) rfl rfl ?_
  refine rn_bipush (x := (nI 40)) rfl (by decide) ?_
  refine rn_newarray rfl hb (fun h25 hb => ?_)
  refine rn_pQ (c := 11) (k := 28) rfl (by decide) hb (fun h26 hb => ?_)
  refine rn_aload_n (i := 0) rfl rfl ?_
  refine rn_bipush (x := (nI 10)) rfl (by decide) ?_
  refine rn_newarray rfl hb (fun h27 hb => ?_)
  refine rn_pQ (c := 11) (k := 29) rfl (by decide) hb (fun h28 hb => ?_)
  refine rn_aload_n (i := 0) rfl rfl ?_
  refine rn_bipush (x := (nI 10)) rfl (by decide) ?_
  refine rn_newarray rfl hb (fun h29 hb => ?_)
  refine rn_pQ (c := 11) (k := 30) rfl (by decide) hb (fun h30 hb => ?_)
  refine rn_aload_n (i := 0) rfl rfl ?_
  refine rn_bipush (x := (nI 10)) rfl (by decide) ?_
  refine rn_newarray rfl hb (fun h31 hb => ?_)
  refine rn_pQ (c := 11) (k := 31) rfl (by decide) hb (fun h32 hb => ?_)
  refine rn_aload_n (i := 0) rfl rfl ?_
  refine rn_bipush (x := (nI 10)) rfl (by decide) ?_
  refine rn_newarray rfl hb (fun h33 hb => ?_)
  refine rn_pQ (c := 11) (k := 34) rfl (by decide) hb (fun h34 hb => ?_)
  refine rn_aload_n (i := 0) rfl rfl ?_
  refine rn_bipush (x := (nI 10)) rfl (by decide) ?_
  refine rn_newarray rfl hb (fun h35 hb => ?_)
  refine rn_pQ (c := 11) (k := 35) rfl (by decide) hb (fun h36 hb => ?_)
  refine rn_aload_n (i := 0) rfl rfl ?_
  refine rn_bipush (x := (nI 10)) rfl (by decide) ?_
  refine rn_newarray rfl hb (fun h37 hb => ?_)
  refine rn_pQ (c := 11) (k := 36) rfl (by decide) hb (fun h38 hb => ?_)
  refine rn_aload_n (i := 0) rfl rfl ?_
  refine rn_sipush (x := (nI 1024)) rfl (by decide) ?_
  refine rn_newarray rfl hb (fun h39 hb => ?_)
  refine rn_pQ (c := 11) (k := 39) rfl (by decide) hb (fun h40 hb => ?_)
  refine rn_aload_n (i := 0) rfl rfl ?_
  refine rn_sipush (x := (nI 1024)) rfl (by decide) ?_
  refine rn_newarray rfl hb (fun h41 hb => ?_)
  refine rn_pQ (c := 11) (k := 40) rfl (by decide) hb (fun h42 hb => ?_)
  refine rn_aload_n (i := 0) rfl rfl ?_
  refine rn_bipush (x := (nI 10)) rfl (by decide) ?_
  refine rn_newarray rfl hb (fun h43 hb => ?_)
  refine rn_pQ (c := 11) (k := 41) rfl (by decide) hb (fun h44 hb => ?_)
  refine rn_aload_n (i := 0) rfl rfl ?_
  refine rn_bipush (x := (nI 10)) rfl (by decide) ?_
  refine rn_newarray rfl hb (fun h45 hb => ?_)
  refine rn_pQ (c := 11) (k := 43) rfl (by decide) hb (fun h46 hb => ?_)
  refine rn_aload_n (i := 0) rfl rfl ?_
  refine rn_bipush (x := (nI 100)) rfl (by decide) ?_
  refine rn_newarray rfl hb (fun h47 hb => ?_)
  refine rn_pQ (c := 11) (k := 44) rfl (by decide) hb (fun h48 hb => ?_)
  refine rn_aload_n (i := 0) rfl rfl ?_
  refine rn_iconst (x := (nI 5)) rfl (by decide) ?_
  refine rn_newarray rfl hb (fun h49 hb => ?_)
  refine rn_dup rfl (bd_cat_rf _) ?_
  refine rn_iconst (x := (nI 0)) rfl (by decide) ?_
  refine rn_bipush (x := (-2 : Int32)) rfl (by decide) ?_
  refine rn_wI rfl hb (fun h50 hb => ?_)
  refine rn_dup rfl (bd_cat_rf _) ?_
  refine rn_iconst (x := (nI 1)) rfl (by decide) ?_
  refine rn_bipush (x := (-2 : Int32)) rfl (by decide) ?_
  refine rn_wI rfl hb (fun h51 hb => ?_)
  refine rn_dup rfl (bd_cat_rf _) ?_
  refine rn_iconst (x := (nI 2)) rfl (by decide) ?_
  refine rn_bipush (x := (-2 : Int32)) rfl (by decide) ?_
  refine rn_wI rfl hb (fun h52 hb => ?_)
  refine rn_dup rfl (bd_cat_rf _) ?_
  refine rn_iconst (x := (nI 3)) rfl (by decide) ?_
  refine rn_bipush (x := (-2 : Int32)) rfl (by decide) ?_
  refine rn_wI rfl hb (fun h53 hb => ?_)
  refine rn_dup rfl (bd_cat_rf _) ?_
  refine rn_iconst (x := (nI 4)) rfl (by decide) ?_
  refine rn_bipush (x := (-2 : Int32)) rfl (by decide) ?_
  refine rn_wI rfl hb (fun h54 hb => ?_)
  refine rn_pQ (c := 11) (k := 48) rfl (by decide) hb (fun h55 hb => ?_)
  refine rn_aload_n (i := 0) rfl rfl ?_
  refine rn_sipush (x := (nI 24300)) rfl (by decide) ?_
  refine rn_newarray rfl hb (fun h56 hb => ?_)
  refine rn_pQ (c := 11) (k := 50) rfl (by decide) hb (fun h57 hb => ?_)
  refine rn_aload_n (i := 0) rfl rfl ?_
  refine rn_sipush (x := (nI 24300)) rfl (by decide) ?_
  refine rn_newarray rfl hb (fun h58 hb => ?_)
  refine rn_pQ (c := 11) (k := 51) rfl (by decide) hb (fun h59 hb => ?_)
  refine rn_aload_n (i := 0) rfl rfl ?_
  refine rn_sipush (x := (nI 24300)) rfl (by decide) ?_
  refine rn_newarray rfl hb (fun h60 hb => ?_)
  refine rn_pQ (c := 11) (k := 52) rfl (by decide) hb (fun h61 hb => ?_)
  refine rn_aload_n (i := 0) rfl rfl ?_
  refine rn_sipush (x := (nI 24300)) rfl (by decide) ?_
  refine rn_newarray rfl hb (fun h62 hb => ?_)
  refine rn_pQ (c := 11) (k := 53) rfl (by decide) hb (fun h63 hb => ?_)
  refine rn_aload_n (i := 0) rfl rfl ?_
  refine rn_sipush (x := (nI 24300)) rfl (by decide) ?_
  refine rn_newarray rfl hb (fun h64 hb => ?_)
  refine rn_pQ (c := 11) (k := 54) rfl (by decide) hb (fun h65 hb => ?_)
  refine rn_aload_n (i := 0) rfl rfl ?_
  refine rn_bipush (x := (nI 100)) rfl (by decide) ?_
  refine rn_newarray rfl hb (fun h66 hb => ?_)
  refine rn_pQ (c := 11) (k := 58) rfl (by decide) hb (fun h67 hb => ?_)
  refine rn_aload_n (i := 0) rfl rfl ?_
  refine rn_sipush (x := (nI 240)) rfl (by decide) ?_
  refine rn_newarray rfl hb (fun h68 hb => ?_)
  refine rn_pQ (c := 11) (k := 59) rfl (by decide) hb (fun h69 hb => ?_)
  obtain rfl := Option.some.inj hb
  exact rn_vret rfl rfl
/-- BitingDoorsModel.<init>()V -/
def f_175 (v0 : Option Nat) (h : Hp) : Option (Hp) := b_175_0 v0 h
theorem t_175 (d : Nat) (hd : 0 ≤ d) (v0 : Option Nat) (h : Hp) (r : Hp) (hb : f_175 v0 h = some r) : Rn d 175 0 [some (va_rf v0)] [] h (none, r) := by
  unfold f_175 at hb
  exact u_175_0 d hd v0 h r hb
def b_176_0 (v0 : Option Nat)  (h : Hp) : Option (Int32 × Hp) :=
  (gI 11 0 v0 h).bind fun x1 =>
  some (x1, h)
theorem u_176_0 (d : Nat) (hd : 0 ≤ d) (v0 : Option Nat)  (h : Hp) (r : Int32 × Hp) (hb : b_176_0 v0  h = some r) : Rn d 176 0 [some (va_rf v0)] [] h (some (.int r.1), r.2) := by
  unfold b_176_0 at hb
  refine rn_aload_n (i := 0) rfl rfl ?_
  refine rn_gI (c := 11) (k := 0) rfl (by decide) hb (fun x1 hb => ?_)
  obtain rfl := Option.some.inj hb
  exact rn_iret rfl rfl
/-- BitingDoorsModel.thrown()I -/
def f_176 (v0 : Option Nat) (h : Hp) : Option (Int32 × Hp) := b_176_0 v0 h
theorem t_176 (d : Nat) (hd : 0 ≤ d) (v0 : Option Nat) (h : Hp) (r : Int32 × Hp) (hb : f_176 v0 h = some r) : Rn d 176 0 [some (va_rf v0)] [] h (some (.int r.1), r.2) := by
  unfold f_176 at hb
  exact u_176_0 d hd v0 h r hb
def b_177_0 (v0 : Option Nat)  (h : Hp) : Option (Int32 × Hp) :=
  (pI 11 0 v0 (nI 1) h).bind fun h1 =>
  some ((nI 0), h1)
theorem u_177_0 (d : Nat) (hd : 0 ≤ d) (v0 : Option Nat)  (h : Hp) (r : Int32 × Hp) (hb : b_177_0 v0  h = some r) : Rn d 177 0 [some (va_rf v0)] [] h (some (.int r.1), r.2) := by
  unfold b_177_0 at hb
  refine rn_aload_n (i := 0) rfl rfl ?_
  refine rn_iconst (x := (nI 1)) rfl (by decide) ?_
  refine rn_pI (c := 11) (k := 0) rfl (by decide) hb (fun h1 hb => ?_)
  refine rn_iconst (x := (nI 0)) rfl (by decide) ?_
  obtain rfl := Option.some.inj hb
  exact rn_iret rfl rfl
/-- BitingDoorsModel.refuse()I -/
def f_177 (v0 : Option Nat) (h : Hp) : Option (Int32 × Hp) := b_177_0 v0 h
theorem t_177 (d : Nat) (hd : 0 ≤ d) (v0 : Option Nat) (h : Hp) (r : Int32 × Hp) (hb : f_177 v0 h = some r) : Rn d 177 0 [some (va_rf v0)] [] h (some (.int r.1), r.2) := by
  unfold f_177 at hb
  exact u_177_0 d hd v0 h r hb
def b_178_39   (h : Hp) : Option (Hp) :=
  some h
theorem u_178_39 (d : Nat) (hd : 0 ≤ d) (v0 : Option Nat) (v1 : Int32) (v2 : Int32)  (h : Hp) (r : Hp) (hb : b_178_39   h = some r) : Rn d 178 39 [some (va_rf v0), some (.int v1), some (.int v2)] [] h (none, r) := by
  unfold b_178_39 at hb
  obtain rfl := Option.some.inj hb
  exact rn_vret rfl rfl
def b_178_7 (k3 : Option Nat → Int32 → Int32 → Hp → Option (Hp)) (v0 : Option Nat) (v1 : Int32) (v2 : Int32)  (h : Hp) : Option (Hp) :=
  (gQ 11 1 v0 h).bind fun x1 =>
  (gI 11 2 v0 h).bind fun x2 =>
  (wI x1 x2 (((v1.toUInt32 >>> (v2.toUInt32 &&& Int32.toUInt32 31)).toInt32) &&& (nI 255)) h).bind fun h3 =>
  (gI 11 2 v0 h3).bind fun x4 =>
  (pI 11 2 v0 (x4 + (nI 1)) h3).bind fun h5 =>
  bnd (v2 + (-8 : Int32)) fun x6 =>
  k3 v0 v1 x6 h5
theorem u_178_7 (d : Nat) (hd : 0 ≤ d) (k3 : Option Nat → Int32 → Int32 → Hp → Option (Hp)) (K3 : ∀ (v0 : Option Nat) (v1 : Int32) (v2 : Int32) (h : Hp) (r : Hp), k3 v0 v1 v2 h = some r → Rn d 178 3 [some (va_rf v0), some (.int v1), some (.int v2)] [] h (none, r)) (v0 : Option Nat) (v1 : Int32) (v2 : Int32)  (h : Hp) (r : Hp) (hb : b_178_7 k3 v0 v1 v2  h = some r) : Rn d 178 7 [some (va_rf v0), some (.int v1), some (.int v2)] [] h (none, r) := by
  unfold b_178_7 at hb
  refine rn_aload_n (i := 0) rfl rfl ?_
  refine rn_gQ (c := 11) (k := 1) rfl (by decide) hb (fun x1 hb => ?_)
  refine rn_aload_n (i := 0) rfl rfl ?_
  refine rn_gI (c := 11) (k := 2) rfl (by decide) hb (fun x2 hb => ?_)
  refine rn_iload_n (i := 1) rfl rfl ?_
  refine rn_iload_n (i := 2) rfl rfl ?_
  refine rn_iushr rfl ?_
  refine rn_sipush (x := (nI 255)) rfl (by decide) ?_
  refine rn_iand rfl ?_
  refine rn_wI rfl hb (fun h3 hb => ?_)
  refine rn_aload_n (i := 0) rfl rfl ?_
  refine rn_dup rfl (bd_cat_rf _) ?_
  refine rn_gI (c := 11) (k := 2) rfl (by decide) hb (fun x4 hb => ?_)
  refine rn_iconst (x := (nI 1)) rfl (by decide) ?_
  refine rn_iadd rfl ?_
  refine rn_pI (c := 11) (k := 2) rfl (by decide) hb (fun h5 hb => ?_)
  obtain ⟨x6, ex6, hb⟩ := bnd_spec hb
  refine rn_iinc (i := 2) (y := x6) (L1 := [some (va_rf v0), some (.int v1), some (.int x6)]) rfl rfl (Nat.le_of_ble_eq_true rfl) (Or.inr rfl) (by rw [ex6]; rfl) rfl ?_
  refine rn_goto rfl rfl ?_
  exact K3 v0 v1 x6 h5 _ hb
def b_178_3 (k3 : Option Nat → Int32 → Int32 → Hp → Option (Hp)) (v0 : Option Nat) (v1 : Int32) (v2 : Int32)  (h : Hp) : Option (Hp) :=
  if v2 < 0 then b_178_39   h else b_178_7 k3 v0 v1 v2  h
theorem u_178_3 (d : Nat) (hd : 0 ≤ d) (k3 : Option Nat → Int32 → Int32 → Hp → Option (Hp)) (K3 : ∀ (v0 : Option Nat) (v1 : Int32) (v2 : Int32) (h : Hp) (r : Hp), k3 v0 v1 v2 h = some r → Rn d 178 3 [some (va_rf v0), some (.int v1), some (.int v2)] [] h (none, r)) (v0 : Option Nat) (v1 : Int32) (v2 : Int32)  (h : Hp) (r : Hp) (hb : b_178_3 k3 v0 v1 v2  h = some r) : Rn d 178 3 [some (va_rf v0), some (.int v1), some (.int v2)] [] h (none, r) := by
  unfold b_178_3 at hb
  refine rn_iload_n (i := 2) rfl rfl ?_
  refine rn_if_lt rfl rfl (fun hc => ?_) (fun hc => ?_)
  · exact u_178_39 d hd v0 v1 v2  h _ (if_t hb hc)
  · exact u_178_7 d hd k3 K3 v0 v1 v2  h _ (if_f hb hc)
def l_178_3 : Nat → Option Nat → Int32 → Int32 → Hp → Option (Hp)
  | 0, _, _, _, _ => none
  | n + 1, v0, v1, v2, h => b_178_3 (l_178_3 n) v0 v1 v2 h
theorem w_178_3 (d : Nat) (hd : 0 ≤ d) : ∀ (n : Nat) (v0 : Option Nat) (v1 : Int32) (v2 : Int32) (h : Hp) (r : Hp), l_178_3 n v0 v1 v2 h = some r → Rn d 178 3 [some (va_rf v0), some (.int v1), some (.int v2)] [] h (none, r) := by
  intro n
  induction n with
  | zero => intro v0 v1 v2 h r hb; cases hb
  | succ n ih => intro v0 v1 v2 h r hb; exact u_178_3 d hd (l_178_3 n) ih v0 v1 v2 h r hb
def b_178_0 (v0 : Option Nat) (v1 : Int32)  (h : Hp) : Option (Hp) :=
  bnd ((nI 24)) fun x1 =>
  l_178_3 FU v0 v1 x1 h
theorem u_178_0 (d : Nat) (hd : 0 ≤ d) (v0 : Option Nat) (v1 : Int32)  (h : Hp) (r : Hp) (hb : b_178_0 v0 v1  h = some r) : Rn d 178 0 [some (va_rf v0), some (.int v1), none] [] h (none, r) := by
  unfold b_178_0 at hb
  refine rn_bipush (x := (nI 24)) rfl (by decide) ?_
  obtain ⟨x1, ex1, hb⟩ := bnd_spec hb
  refine rn_istore_n (i := 2) (L1 := [some (va_rf v0), some (.int v1), some (.int x1)]) rfl (Nat.le_of_ble_eq_true rfl) (Or.inr rfl) (by rw [ex1]; rfl) ?_
  exact w_178_3 d hd FU v0 v1 x1 h _ hb
/-- BitingDoorsModel.come(I)V -/
def f_178 (v0 : Option Nat) (v1 : Int32) (h : Hp) : Option (Hp) := b_178_0 v0 v1 h
theorem t_178 (d : Nat) (hd : 0 ≤ d) (v0 : Option Nat) (v1 : Int32) (h : Hp) (r : Hp) (hb : f_178 v0 v1 h = some r) : Rn d 178 0 [some (va_rf v0), some (.int v1), none] [] h (none, r) := by
  unfold f_178 at hb
  exact u_178_0 d hd v0 v1 h r hb
def b_179_20 (v0 : Option Nat) (v1 : Int32) (v2 : Int32) (v3 : Int32) (v4 : Int32) (v5 : Int32)  (h : Hp) : Option (Int32 × Hp) :=
  (grd (rC 11 v0 h)).bind fun _ =>
  (f_178 v0 v1 h).bind fun p1 =>
  (grd (rC 11 v0 p1)).bind fun _ =>
  (f_178 v0 v2 p1).bind fun p2 =>
  (grd (rC 11 v0 p2)).bind fun _ =>
  (f_178 v0 v3 p2).bind fun p3 =>
  (grd (rC 11 v0 p3)).bind fun _ =>
  (f_178 v0 v4 p3).bind fun p4 =>
  (grd (rC 11 v0 p4)).bind fun _ =>
  (f_178 v0 v5 p4).bind fun p5 =>
  (gI 11 2 v0 p5).bind fun x6 =>
  some (x6, p5)
theorem u_179_20 (d : Nat) (hd : 1 ≤ d) (v0 : Option Nat) (v1 : Int32) (v2 : Int32) (v3 : Int32) (v4 : Int32) (v5 : Int32)  (h : Hp) (r : Int32 × Hp) (hb : b_179_20 v0 v1 v2 v3 v4 v5  h = some r) : Rn d 179 20 [some (va_rf v0), some (.int v1), some (.int v2), some (.int v3), some (.int v4), some (.int v5)] [] h (some (.int r.1), r.2) := by
  unfold b_179_20 at hb
  obtain ⟨e, rfl⟩ : ∃ e, d = e + 1 := ⟨d - 1, by omega⟩
  refine rn_aload_n (i := 0) rfl rfl ?_
  refine rn_iload_n (i := 1) rfl rfl ?_
  obtain ⟨hrc, hb⟩ := grd_spec hb
  obtain ⟨p1, hc, hb⟩ := Option.bind_eq_some_iff.mp hb
  refine Rn.call0 (d := e) (As := [va_rf v0, .int v1]) (rest := []) rfl rfl rfl (by decide) rfl rfl rfl (bd_rcV hrc rfl) (by decide) (bd_lenC (n := 3) rfl (bd_slR (bd_slI bd_slN)) rfl) (bd_locC (n := 3) rfl (bd_slR (bd_slI bd_slN)) rfl (t_178 e (by omega) v0 v1 h _ hc)) ?_
  refine rn_aload_n (i := 0) rfl rfl ?_
  refine rn_iload_n (i := 2) rfl rfl ?_
  obtain ⟨hrc, hb⟩ := grd_spec hb
  obtain ⟨p2, hc, hb⟩ := Option.bind_eq_some_iff.mp hb
  refine Rn.call0 (d := e) (As := [va_rf v0, .int v2]) (rest := []) rfl rfl rfl (by decide) rfl rfl rfl (bd_rcV hrc rfl) (by decide) (bd_lenC (n := 3) rfl (bd_slR (bd_slI bd_slN)) rfl) (bd_locC (n := 3) rfl (bd_slR (bd_slI bd_slN)) rfl (t_178 e (by omega) v0 v2 p1 _ hc)) ?_
  refine rn_aload_n (i := 0) rfl rfl ?_
  refine rn_iload_n (i := 3) rfl rfl ?_
  obtain ⟨hrc, hb⟩ := grd_spec hb
  obtain ⟨p3, hc, hb⟩ := Option.bind_eq_some_iff.mp hb
  refine Rn.call0 (d := e) (As := [va_rf v0, .int v3]) (rest := []) rfl rfl rfl (by decide) rfl rfl rfl (bd_rcV hrc rfl) (by decide) (bd_lenC (n := 3) rfl (bd_slR (bd_slI bd_slN)) rfl) (bd_locC (n := 3) rfl (bd_slR (bd_slI bd_slN)) rfl (t_178 e (by omega) v0 v3 p2 _ hc)) ?_
  refine rn_aload_n (i := 0) rfl rfl ?_
  refine rn_iload (i := 4) rfl rfl ?_
  obtain ⟨hrc, hb⟩ := grd_spec hb
  obtain ⟨p4, hc, hb⟩ := Option.bind_eq_some_iff.mp hb
  refine Rn.call0 (d := e) (As := [va_rf v0, .int v4]) (rest := []) rfl rfl rfl (by decide) rfl rfl rfl (bd_rcV hrc rfl) (by decide) (bd_lenC (n := 3) rfl (bd_slR (bd_slI bd_slN)) rfl) (bd_locC (n := 3) rfl (bd_slR (bd_slI bd_slN)) rfl (t_178 e (by omega) v0 v4 p3 _ hc)) ?_
  refine rn_aload_n (i := 0) rfl rfl ?_
  refine rn_iload (i := 5) rfl rfl ?_
  obtain ⟨hrc, hb⟩ := grd_spec hb
  obtain ⟨p5, hc, hb⟩ := Option.bind_eq_some_iff.mp hb
  refine Rn.call0 (d := e) (As := [va_rf v0, .int v5]) (rest := []) rfl rfl rfl (by decide) rfl rfl rfl (bd_rcV hrc rfl) (by decide) (bd_lenC (n := 3) rfl (bd_slR (bd_slI bd_slN)) rfl) (bd_locC (n := 3) rfl (bd_slR (bd_slI bd_slN)) rfl (t_178 e (by omega) v0 v5 p4 _ hc)) ?_
  refine rn_aload_n (i := 0) rfl rfl ?_
  refine rn_gI (c := 11) (k := 2) rfl (by decide) hb (fun x6 hb => ?_)
  obtain rfl := Option.some.inj hb
  exact rn_iret rfl rfl
def b_179_18   (h : Hp) : Option (Int32 × Hp) :=
  some ((-1 : Int32), h)
theorem u_179_18 (d : Nat) (hd : 1 ≤ d) (v0 : Option Nat) (v1 : Int32) (v2 : Int32) (v3 : Int32) (v4 : Int32) (v5 : Int32)  (h : Hp) (r : Int32 × Hp) (hb : b_179_18   h = some r) : Rn d 179 18 [some (va_rf v0), some (.int v1), some (.int v2), some (.int v3), some (.int v4), some (.int v5)] [] h (some (.int r.1), r.2) := by
  unfold b_179_18 at hb
  refine rn_iconst (x := (-1 : Int32)) rfl (by decide) ?_
  obtain rfl := Option.some.inj hb
  exact rn_iret rfl rfl
def b_179_0 (v0 : Option Nat) (v1 : Int32) (v2 : Int32) (v3 : Int32) (v4 : Int32) (v5 : Int32)  (h : Hp) : Option (Int32 × Hp) :=
  (pI 11 0 v0 (nI 0) h).bind fun h1 =>
  (gI 11 2 v0 h1).bind fun x2 =>
  if (x2 + (nI 20)) ≤ (nI 940) then b_179_20 v0 v1 v2 v3 v4 v5  h1 else b_179_18   h1
theorem u_179_0 (d : Nat) (hd : 1 ≤ d) (v0 : Option Nat) (v1 : Int32) (v2 : Int32) (v3 : Int32) (v4 : Int32) (v5 : Int32)  (h : Hp) (r : Int32 × Hp) (hb : b_179_0 v0 v1 v2 v3 v4 v5  h = some r) : Rn d 179 0 [some (va_rf v0), some (.int v1), some (.int v2), some (.int v3), some (.int v4), some (.int v5)] [] h (some (.int r.1), r.2) := by
  unfold b_179_0 at hb
  refine rn_aload_n (i := 0) rfl rfl ?_
  refine rn_iconst (x := (nI 0)) rfl (by decide) ?_
  refine rn_pI (c := 11) (k := 0) rfl (by decide) hb (fun h1 hb => ?_)
  refine rn_aload_n (i := 0) rfl rfl ?_
  refine rn_gI (c := 11) (k := 2) rfl (by decide) hb (fun x2 hb => ?_)
  refine rn_bipush (x := (nI 20)) rfl (by decide) ?_
  refine rn_iadd rfl ?_
  refine rn_sipush (x := (nI 940)) rfl (by decide) ?_
  refine rn_icmp_le rfl rfl (fun hc => ?_) (fun hc => ?_)
  · exact u_179_20 d hd v0 v1 v2 v3 v4 v5  h1 _ (if_t hb hc)
  · exact u_179_18 d hd v0 v1 v2 v3 v4 v5  h1 _ (if_f hb hc)
/-- BitingDoorsModel.feed(IIIII)I -/
def f_179 (v0 : Option Nat) (v1 : Int32) (v2 : Int32) (v3 : Int32) (v4 : Int32) (v5 : Int32) (h : Hp) : Option (Int32 × Hp) := b_179_0 v0 v1 v2 v3 v4 v5 h
theorem t_179 (d : Nat) (hd : 1 ≤ d) (v0 : Option Nat) (v1 : Int32) (v2 : Int32) (v3 : Int32) (v4 : Int32) (v5 : Int32) (h : Hp) (r : Int32 × Hp) (hb : f_179 v0 v1 v2 v3 v4 v5 h = some r) : Rn d 179 0 [some (va_rf v0), some (.int v1), some (.int v2), some (.int v3), some (.int v4), some (.int v5)] [] h (some (.int r.1), r.2) := by
  unfold f_179 at hb
  exact u_179_0 d hd v0 v1 v2 v3 v4 v5 h r hb
def b_180_17   (h : Hp) : Option (Int32 × Hp) :=
  (grd (decide ((nI 0) = 0 ∨ (nI 0) = 1))).bind fun _ => some ((nI 0), h)
theorem u_180_17 (d : Nat) (hd : 0 ≤ d) (v0 : Option Nat) (v1 : Int32)  (h : Hp) (r : Int32 × Hp) (hb : b_180_17   h = some r) : Rn d 180 17 [some (va_rf v0), some (.int v1)] [] h (some (.int r.1), r.2) := by
  unfold b_180_17 at hb
  refine rn_iconst (x := (nI 0)) rfl (by decide) ?_
  obtain ⟨hz, hb⟩ := grd_spec hb
  obtain rfl := Option.some.inj hb
  exact rn_zret rfl rfl (of_decide_eq_true hz)
def b_180_19 (v0 : Option Nat) (v1 : Int32)  (h : Hp) : Option (Int32 × Hp) :=
  (pI 11 2 v0 v1 h).bind fun h1 =>
  (grd (decide ((nI 1) = 0 ∨ (nI 1) = 1))).bind fun _ => some ((nI 1), h1)
theorem u_180_19 (d : Nat) (hd : 0 ≤ d) (v0 : Option Nat) (v1 : Int32)  (h : Hp) (r : Int32 × Hp) (hb : b_180_19 v0 v1  h = some r) : Rn d 180 19 [some (va_rf v0), some (.int v1)] [] h (some (.int r.1), r.2) := by
  unfold b_180_19 at hb
  refine rn_aload_n (i := 0) rfl rfl ?_
  refine rn_iload_n (i := 1) rfl rfl ?_
  refine rn_pI (c := 11) (k := 2) rfl (by decide) hb (fun h1 hb => ?_)
  refine rn_iconst (x := (nI 1)) rfl (by decide) ?_
  obtain ⟨hz, hb⟩ := grd_spec hb
  obtain rfl := Option.some.inj hb
  exact rn_zret rfl rfl (of_decide_eq_true hz)
def b_180_9 (v0 : Option Nat) (v1 : Int32)  (h : Hp) : Option (Int32 × Hp) :=
  (gI 11 2 v0 h).bind fun x1 =>
  if v1 ≤ x1 then b_180_19 v0 v1  h else b_180_17   h
theorem u_180_9 (d : Nat) (hd : 0 ≤ d) (v0 : Option Nat) (v1 : Int32)  (h : Hp) (r : Int32 × Hp) (hb : b_180_9 v0 v1  h = some r) : Rn d 180 9 [some (va_rf v0), some (.int v1)] [] h (some (.int r.1), r.2) := by
  unfold b_180_9 at hb
  refine rn_iload_n (i := 1) rfl rfl ?_
  refine rn_aload_n (i := 0) rfl rfl ?_
  refine rn_gI (c := 11) (k := 2) rfl (by decide) hb (fun x1 hb => ?_)
  refine rn_icmp_le rfl rfl (fun hc => ?_) (fun hc => ?_)
  · exact u_180_19 d hd v0 v1  h _ (if_t hb hc)
  · exact u_180_17 d hd v0 v1  h _ (if_f hb hc)
def b_180_0 (v0 : Option Nat) (v1 : Int32)  (h : Hp) : Option (Int32 × Hp) :=
  (pI 11 0 v0 (nI 0) h).bind fun h1 =>
  if v1 < 0 then b_180_17   h1 else b_180_9 v0 v1  h1
theorem u_180_0 (d : Nat) (hd : 0 ≤ d) (v0 : Option Nat) (v1 : Int32)  (h : Hp) (r : Int32 × Hp) (hb : b_180_0 v0 v1  h = some r) : Rn d 180 0 [some (va_rf v0), some (.int v1)] [] h (some (.int r.1), r.2) := by
  unfold b_180_0 at hb
  refine rn_aload_n (i := 0) rfl rfl ?_
  refine rn_iconst (x := (nI 0)) rfl (by decide) ?_
  refine rn_pI (c := 11) (k := 0) rfl (by decide) hb (fun h1 hb => ?_)
  refine rn_iload_n (i := 1) rfl rfl ?_
  refine rn_if_lt rfl rfl (fun hc => ?_) (fun hc => ?_)
  · exact u_180_17 d hd v0 v1  h1 _ (if_t hb hc)
  · exact u_180_9 d hd v0 v1  h1 _ (if_f hb hc)
/-- BitingDoorsModel.end(I)Z -/
def f_180 (v0 : Option Nat) (v1 : Int32) (h : Hp) : Option (Int32 × Hp) := b_180_0 v0 v1 h
theorem t_180 (d : Nat) (hd : 0 ≤ d) (v0 : Option Nat) (v1 : Int32) (h : Hp) (r : Int32 × Hp) (hb : f_180 v0 v1 h = some r) : Rn d 180 0 [some (va_rf v0), some (.int v1)] [] h (some (.int r.1), r.2) := by
  unfold f_180 at hb
  exact u_180_0 d hd v0 v1 h r hb
def b_181_0 (v0 : Option Nat)  (h : Hp) : Option (Int32 × Hp) :=
  (gI 11 2 v0 h).bind fun x1 =>
  (pI 11 2 v0 (nI 0) h).bind fun h2 =>
  some (x1, h2)
theorem u_181_0 (d : Nat) (hd : 0 ≤ d) (v0 : Option Nat)  (h : Hp) (r : Int32 × Hp) (hb : b_181_0 v0  h = some r) : Rn d 181 0 [some (va_rf v0), none] [] h (some (.int r.1), r.2) := by
  unfold b_181_0 at hb
  refine rn_aload_n (i := 0) rfl rfl ?_
  refine rn_gI (c := 11) (k := 2) rfl (by decide) hb (fun x1 hb => ?_)
  refine rn_istore_n (i := 1) (L1 := [some (va_rf v0), some (.int x1)]) rfl (Nat.le_of_ble_eq_true rfl) (Or.inr (bd_wideR rfl)) rfl ?_
  refine rn_aload_n (i := 0) rfl rfl ?_
  refine rn_iconst (x := (nI 0)) rfl (by decide) ?_
  refine rn_pI (c := 11) (k := 2) rfl (by decide) hb (fun h2 hb => ?_)
  refine rn_iload_n (i := 1) rfl rfl ?_
  obtain rfl := Option.some.inj hb
  exact rn_iret rfl rfl
/-- BitingDoorsModel.take()I -/
def f_181 (v0 : Option Nat) (h : Hp) : Option (Int32 × Hp) := b_181_0 v0 h
theorem t_181 (d : Nat) (hd : 0 ≤ d) (v0 : Option Nat) (h : Hp) (r : Int32 × Hp) (hb : f_181 v0 h = some r) : Rn d 181 0 [some (va_rf v0), none] [] h (some (.int r.1), r.2) := by
  unfold f_181 at hb
  exact u_181_0 d hd v0 h r hb
def b_182_15  (s0 : Int32) (h : Hp) : Option (Int32 × Hp) :=
  (grd (decide (s0 = 0 ∨ s0 = 1))).bind fun _ => some (s0, h)
theorem u_182_15 (d : Nat) (hd : 0 ≤ d) (v0 : Int32) (v1 : Int32) (v2 : Int32) (s0 : Int32) (h : Hp) (r : Int32 × Hp) (hb : b_182_15  s0 h = some r) : Rn d 182 15 [some (.int v0), some (.int v1), some (.int v2)] [.int s0] h (some (.int r.1), r.2) := by
  unfold b_182_15 at hb
  obtain ⟨hz, hb⟩ := grd_spec hb
  obtain rfl := Option.some.inj hb
  exact rn_zret rfl rfl (of_decide_eq_true hz)
def b_182_14   (h : Hp) : Option (Int32 × Hp) :=
  b_182_15  (nI 0) h
theorem u_182_14 (d : Nat) (hd : 0 ≤ d) (v0 : Int32) (v1 : Int32) (v2 : Int32)  (h : Hp) (r : Int32 × Hp) (hb : b_182_14   h = some r) : Rn d 182 14 [some (.int v0), some (.int v1), some (.int v2)] [] h (some (.int r.1), r.2) := by
  unfold b_182_14 at hb
  refine rn_iconst (x := (nI 0)) rfl (by decide) ?_
  exact u_182_15 d hd v0 v1 v2 (nI 0) h _ hb
def b_182_10   (h : Hp) : Option (Int32 × Hp) :=
  b_182_15  (nI 1) h
theorem u_182_10 (d : Nat) (hd : 0 ≤ d) (v0 : Int32) (v1 : Int32) (v2 : Int32)  (h : Hp) (r : Int32 × Hp) (hb : b_182_10   h = some r) : Rn d 182 10 [some (.int v0), some (.int v1), some (.int v2)] [] h (some (.int r.1), r.2) := by
  unfold b_182_10 at hb
  refine rn_iconst (x := (nI 1)) rfl (by decide) ?_
  refine rn_goto rfl rfl ?_
  exact u_182_15 d hd v0 v1 v2 (nI 1) h _ hb
def b_182_5 (v0 : Int32) (v2 : Int32)  (h : Hp) : Option (Int32 × Hp) :=
  if v2 < v0 then b_182_14   h else b_182_10   h
theorem u_182_5 (d : Nat) (hd : 0 ≤ d) (v0 : Int32) (v1 : Int32) (v2 : Int32)  (h : Hp) (r : Int32 × Hp) (hb : b_182_5 v0 v2  h = some r) : Rn d 182 5 [some (.int v0), some (.int v1), some (.int v2)] [] h (some (.int r.1), r.2) := by
  unfold b_182_5 at hb
  refine rn_iload_n (i := 0) rfl rfl ?_
  refine rn_iload_n (i := 2) rfl rfl ?_
  refine rn_icmp_gt rfl rfl (fun hc => ?_) (fun hc => ?_)
  · exact u_182_14 d hd v0 v1 v2  h _ (if_t hb hc)
  · exact u_182_10 d hd v0 v1 v2  h _ (if_f hb hc)
def b_182_0 (v0 : Int32) (v1 : Int32) (v2 : Int32)  (h : Hp) : Option (Int32 × Hp) :=
  if v0 < v1 then b_182_14   h else b_182_5 v0 v2  h
theorem u_182_0 (d : Nat) (hd : 0 ≤ d) (v0 : Int32) (v1 : Int32) (v2 : Int32)  (h : Hp) (r : Int32 × Hp) (hb : b_182_0 v0 v1 v2  h = some r) : Rn d 182 0 [some (.int v0), some (.int v1), some (.int v2)] [] h (some (.int r.1), r.2) := by
  unfold b_182_0 at hb
  refine rn_iload_n (i := 0) rfl rfl ?_
  refine rn_iload_n (i := 1) rfl rfl ?_
  refine rn_icmp_lt rfl rfl (fun hc => ?_) (fun hc => ?_)
  · exact u_182_14 d hd v0 v1 v2  h _ (if_t hb hc)
  · exact u_182_5 d hd v0 v1 v2  h _ (if_f hb hc)
/-- BitingDoorsModel.isIn(III)Z -/
def f_182 (v0 : Int32) (v1 : Int32) (v2 : Int32) (h : Hp) : Option (Int32 × Hp) := b_182_0 v0 v1 v2 h
theorem t_182 (d : Nat) (hd : 0 ≤ d) (v0 : Int32) (v1 : Int32) (v2 : Int32) (h : Hp) (r : Int32 × Hp) (hb : f_182 v0 v1 v2 h = some r) : Rn d 182 0 [some (.int v0), some (.int v1), some (.int v2)] [] h (some (.int r.1), r.2) := by
  unfold f_182 at hb
  exact u_182_0 d hd v0 v1 v2 h r hb
def b_183_14  (s0 : Int32) (h : Hp) : Option (Int32 × Hp) :=
  (grd (decide (s0 = 0 ∨ s0 = 1))).bind fun _ => some (s0, h)
theorem u_183_14 (d : Nat) (hd : 0 ≤ d) (v0 : Int32) (v1 : Int32) (s0 : Int32) (h : Hp) (r : Int32 × Hp) (hb : b_183_14  s0 h = some r) : Rn d 183 14 [some (.int v0), some (.int v1)] [.int s0] h (some (.int r.1), r.2) := by
  unfold b_183_14 at hb
  obtain ⟨hz, hb⟩ := grd_spec hb
  obtain rfl := Option.some.inj hb
  exact rn_zret rfl rfl (of_decide_eq_true hz)
def b_183_13   (h : Hp) : Option (Int32 × Hp) :=
  b_183_14  (nI 0) h
theorem u_183_13 (d : Nat) (hd : 0 ≤ d) (v0 : Int32) (v1 : Int32)  (h : Hp) (r : Int32 × Hp) (hb : b_183_13   h = some r) : Rn d 183 13 [some (.int v0), some (.int v1)] [] h (some (.int r.1), r.2) := by
  unfold b_183_13 at hb
  refine rn_iconst (x := (nI 0)) rfl (by decide) ?_
  exact u_183_14 d hd v0 v1 (nI 0) h _ hb
def b_183_9   (h : Hp) : Option (Int32 × Hp) :=
  b_183_14  (nI 1) h
theorem u_183_9 (d : Nat) (hd : 0 ≤ d) (v0 : Int32) (v1 : Int32)  (h : Hp) (r : Int32 × Hp) (hb : b_183_9   h = some r) : Rn d 183 9 [some (.int v0), some (.int v1)] [] h (some (.int r.1), r.2) := by
  unfold b_183_9 at hb
  refine rn_iconst (x := (nI 1)) rfl (by decide) ?_
  refine rn_goto rfl rfl ?_
  exact u_183_14 d hd v0 v1 (nI 1) h _ hb
def b_183_0 (v0 : Int32) (v1 : Int32)  (h : Hp) : Option (Int32 × Hp) :=
  if ¬ ((v0 >>> (v1 &&& 31)) &&& (nI 1)) = (nI 1) then b_183_13   h else b_183_9   h
theorem u_183_0 (d : Nat) (hd : 0 ≤ d) (v0 : Int32) (v1 : Int32)  (h : Hp) (r : Int32 × Hp) (hb : b_183_0 v0 v1  h = some r) : Rn d 183 0 [some (.int v0), some (.int v1)] [] h (some (.int r.1), r.2) := by
  unfold b_183_0 at hb
  refine rn_iload_n (i := 0) rfl rfl ?_
  refine rn_iload_n (i := 1) rfl rfl ?_
  refine rn_ishr rfl ?_
  refine rn_iconst (x := (nI 1)) rfl (by decide) ?_
  refine rn_iand rfl ?_
  refine rn_iconst (x := (nI 1)) rfl (by decide) ?_
  refine rn_icmp_ne rfl rfl (fun hc => ?_) (fun hc => ?_)
  · exact u_183_13 d hd v0 v1  h _ (if_t hb hc)
  · exact u_183_9 d hd v0 v1  h _ (if_f hb hc)
/-- BitingDoorsModel.has(II)Z -/
def f_183 (v0 : Int32) (v1 : Int32) (h : Hp) : Option (Int32 × Hp) := b_183_0 v0 v1 h
theorem t_183 (d : Nat) (hd : 0 ≤ d) (v0 : Int32) (v1 : Int32) (h : Hp) (r : Int32 × Hp) (hb : f_183 v0 v1 h = some r) : Rn d 183 0 [some (.int v0), some (.int v1)] [] h (some (.int r.1), r.2) := by
  unfold f_183 at hb
  exact u_183_0 d hd v0 v1 h r hb
def b_184_20 (v1 : Int32)  (h : Hp) : Option (Int32 × Hp) :=
  some (v1, h)
theorem u_184_20 (d : Nat) (hd : 0 ≤ d) (v0 : Int32) (v1 : Int32) (v2 : Int32)  (h : Hp) (r : Int32 × Hp) (hb : b_184_20 v1  h = some r) : Rn d 184 20 [some (.int v0), some (.int v1), some (.int v2)] [] h (some (.int r.1), r.2) := by
  unfold b_184_20 at hb
  refine rn_iload_n (i := 1) rfl rfl ?_
  obtain rfl := Option.some.inj hb
  exact rn_iret rfl rfl
def b_184_8 (k4 : Int32 → Int32 → Hp → Option (Int32 × Hp)) (v1 : Int32) (v2 : Int32)  (h : Hp) : Option (Int32 × Hp) :=
  bnd (v1 + (nI 1)) fun x1 =>
  bnd ((v2 &&& (v2 - (nI 1)))) fun x2 =>
  k4 x1 x2 h
theorem u_184_8 (d : Nat) (hd : 0 ≤ d) (k4 : Int32 → Int32 → Hp → Option (Int32 × Hp)) (K4 : ∀ (v0 : Int32) (v1 : Int32) (v2 : Int32) (h : Hp) (r : Int32 × Hp), k4 v1 v2 h = some r → Rn d 184 4 [some (.int v0), some (.int v1), some (.int v2)] [] h (some (.int r.1), r.2)) (v0 : Int32) (v1 : Int32) (v2 : Int32)  (h : Hp) (r : Int32 × Hp) (hb : b_184_8 k4 v1 v2  h = some r) : Rn d 184 8 [some (.int v0), some (.int v1), some (.int v2)] [] h (some (.int r.1), r.2) := by
  unfold b_184_8 at hb
  obtain ⟨x1, ex1, hb⟩ := bnd_spec hb
  refine rn_iinc (i := 1) (y := x1) (L1 := [some (.int v0), some (.int x1), some (.int v2)]) rfl rfl (Nat.le_of_ble_eq_true rfl) (Or.inr rfl) (by rw [ex1]; rfl) rfl ?_
  refine rn_iload_n (i := 2) rfl rfl ?_
  refine rn_iload_n (i := 2) rfl rfl ?_
  refine rn_iconst (x := (nI 1)) rfl (by decide) ?_
  refine rn_isub rfl ?_
  refine rn_iand rfl ?_
  obtain ⟨x2, ex2, hb⟩ := bnd_spec hb
  refine rn_istore_n (i := 2) (L1 := [some (.int v0), some (.int x1), some (.int x2)]) rfl (Nat.le_of_ble_eq_true rfl) (Or.inr rfl) (by rw [ex2]; rfl) ?_
  refine rn_goto rfl rfl ?_
  exact K4 v0 x1 x2 h _ hb
def b_184_4 (k4 : Int32 → Int32 → Hp → Option (Int32 × Hp)) (v1 : Int32) (v2 : Int32)  (h : Hp) : Option (Int32 × Hp) :=
  if v2 = 0 then b_184_20 v1  h else b_184_8 k4 v1 v2  h
theorem u_184_4 (d : Nat) (hd : 0 ≤ d) (k4 : Int32 → Int32 → Hp → Option (Int32 × Hp)) (K4 : ∀ (v0 : Int32) (v1 : Int32) (v2 : Int32) (h : Hp) (r : Int32 × Hp), k4 v1 v2 h = some r → Rn d 184 4 [some (.int v0), some (.int v1), some (.int v2)] [] h (some (.int r.1), r.2)) (v0 : Int32) (v1 : Int32) (v2 : Int32)  (h : Hp) (r : Int32 × Hp) (hb : b_184_4 k4 v1 v2  h = some r) : Rn d 184 4 [some (.int v0), some (.int v1), some (.int v2)] [] h (some (.int r.1), r.2) := by
  unfold b_184_4 at hb
  refine rn_iload_n (i := 2) rfl rfl ?_
  refine rn_if_eq rfl rfl (fun hc => ?_) (fun hc => ?_)
  · exact u_184_20 d hd v0 v1 v2  h _ (if_t hb hc)
  · exact u_184_8 d hd k4 K4 v0 v1 v2  h _ (if_f hb hc)
def l_184_4 : Nat → Int32 → Int32 → Hp → Option (Int32 × Hp)
  | 0, _, _, _ => none
  | n + 1, v1, v2, h => b_184_4 (l_184_4 n) v1 v2 h
theorem w_184_4 (d : Nat) (hd : 0 ≤ d) : ∀ (n : Nat) (v0 : Int32) (v1 : Int32) (v2 : Int32) (h : Hp) (r : Int32 × Hp), l_184_4 n v1 v2 h = some r → Rn d 184 4 [some (.int v0), some (.int v1), some (.int v2)] [] h (some (.int r.1), r.2) := by
  intro n
  induction n with
  | zero => intro v0 v1 v2 h r hb; cases hb
  | succ n ih => intro v0 v1 v2 h r hb; exact u_184_4 d hd (l_184_4 n) ih v0 v1 v2 h r hb
def b_184_0 (v0 : Int32)  (h : Hp) : Option (Int32 × Hp) :=
  bnd ((nI 0)) fun x1 =>
  l_184_4 FU x1 v0 h
theorem u_184_0 (d : Nat) (hd : 0 ≤ d) (v0 : Int32)  (h : Hp) (r : Int32 × Hp) (hb : b_184_0 v0  h = some r) : Rn d 184 0 [some (.int v0), none, none] [] h (some (.int r.1), r.2) := by
  unfold b_184_0 at hb
  refine rn_iconst (x := (nI 0)) rfl (by decide) ?_
  obtain ⟨x1, ex1, hb⟩ := bnd_spec hb
  refine rn_istore_n (i := 1) (L1 := [some (.int v0), some (.int x1), none]) rfl (Nat.le_of_ble_eq_true rfl) (Or.inr rfl) (by rw [ex1]; rfl) ?_
  refine rn_iload_n (i := 0) rfl rfl ?_
  refine rn_istore_n (i := 2) (L1 := [some (.int v0), some (.int x1), some (.int v0)]) rfl (Nat.le_of_ble_eq_true rfl) (Or.inr rfl) rfl ?_
  exact w_184_4 d hd FU v0 x1 v0 h _ hb
/-- BitingDoorsModel.bits(I)I -/
def f_184 (v0 : Int32) (h : Hp) : Option (Int32 × Hp) := b_184_0 v0 h
theorem t_184 (d : Nat) (hd : 0 ≤ d) (v0 : Int32) (h : Hp) (r : Int32 × Hp) (hb : f_184 v0 h = some r) : Rn d 184 0 [some (.int v0), none, none] [] h (some (.int r.1), r.2) := by
  unfold f_184 at hb
  exact u_184_0 d hd v0 h r hb
def b_185_22 (v2 : Int32)  (h : Hp) : Option (Int32 × Hp) :=
  some (v2, h)
theorem u_185_22 (d : Nat) (hd : 0 ≤ d) (v0 : Int64) (v2 : Int32) (v3 : Int64)  (h : Hp) (r : Int32 × Hp) (hb : b_185_22 v2  h = some r) : Rn d 185 22 [some (.long v0), none, some (.int v2), some (.long v3), none] [] h (some (.int r.1), r.2) := by
  unfold b_185_22 at hb
  refine rn_iload_n (i := 2) rfl rfl ?_
  obtain rfl := Option.some.inj hb
  exact rn_iret rfl rfl
def b_185_10 (k4 : Int32 → Int64 → Hp → Option (Int32 × Hp)) (v2 : Int32) (v3 : Int64)  (h : Hp) : Option (Int32 × Hp) :=
  bnd (v2 + (nI 1)) fun x1 =>
  bnd ((v3 &&& (v3 - (lN 1)))) fun x2 =>
  k4 x1 x2 h
theorem u_185_10 (d : Nat) (hd : 0 ≤ d) (k4 : Int32 → Int64 → Hp → Option (Int32 × Hp)) (K4 : ∀ (v0 : Int64) (v2 : Int32) (v3 : Int64) (h : Hp) (r : Int32 × Hp), k4 v2 v3 h = some r → Rn d 185 4 [some (.long v0), none, some (.int v2), some (.long v3), none] [] h (some (.int r.1), r.2)) (v0 : Int64) (v2 : Int32) (v3 : Int64)  (h : Hp) (r : Int32 × Hp) (hb : b_185_10 k4 v2 v3  h = some r) : Rn d 185 10 [some (.long v0), none, some (.int v2), some (.long v3), none] [] h (some (.int r.1), r.2) := by
  unfold b_185_10 at hb
  obtain ⟨x1, ex1, hb⟩ := bnd_spec hb
  refine rn_iinc (i := 2) (y := x1) (L1 := [some (.long v0), none, some (.int x1), some (.long v3), none]) rfl rfl (Nat.le_of_ble_eq_true rfl) (Or.inr rfl) (by rw [ex1]; rfl) rfl ?_
  refine rn_lload_n (i := 3) rfl rfl ?_
  refine rn_lload_n (i := 3) rfl rfl ?_
  refine rn_lconst (x := (lN 1)) rfl (by decide) ?_
  refine rn_lsub rfl ?_
  refine rn_land rfl ?_
  obtain ⟨x2, ex2, hb⟩ := bnd_spec hb
  refine rn_lstore_n (i := 3) (L1 := [some (.long v0), none, some (.int x1), some (.long x2), none]) rfl (Nat.le_of_ble_eq_true rfl) (Or.inr rfl) (by rw [ex2]; rfl) ?_
  refine rn_goto rfl rfl ?_
  exact K4 v0 x1 x2 h _ hb
def b_185_4 (k4 : Int32 → Int64 → Hp → Option (Int32 × Hp)) (v2 : Int32) (v3 : Int64)  (h : Hp) : Option (Int32 × Hp) :=
  if (lg_cmp v3 (lN 0)) = 0 then b_185_22 v2  h else b_185_10 k4 v2 v3  h
theorem u_185_4 (d : Nat) (hd : 0 ≤ d) (k4 : Int32 → Int64 → Hp → Option (Int32 × Hp)) (K4 : ∀ (v0 : Int64) (v2 : Int32) (v3 : Int64) (h : Hp) (r : Int32 × Hp), k4 v2 v3 h = some r → Rn d 185 4 [some (.long v0), none, some (.int v2), some (.long v3), none] [] h (some (.int r.1), r.2)) (v0 : Int64) (v2 : Int32) (v3 : Int64)  (h : Hp) (r : Int32 × Hp) (hb : b_185_4 k4 v2 v3  h = some r) : Rn d 185 4 [some (.long v0), none, some (.int v2), some (.long v3), none] [] h (some (.int r.1), r.2) := by
  unfold b_185_4 at hb
  refine rn_lload_n (i := 3) rfl rfl ?_
  refine rn_lconst (x := (lN 0)) rfl (by decide) ?_
  refine rn_lcmp rfl ?_
  refine rn_if_eq rfl rfl (fun hc => ?_) (fun hc => ?_)
  · exact u_185_22 d hd v0 v2 v3  h _ (if_t hb hc)
  · exact u_185_10 d hd k4 K4 v0 v2 v3  h _ (if_f hb hc)
def l_185_4 : Nat → Int32 → Int64 → Hp → Option (Int32 × Hp)
  | 0, _, _, _ => none
  | n + 1, v2, v3, h => b_185_4 (l_185_4 n) v2 v3 h
theorem w_185_4 (d : Nat) (hd : 0 ≤ d) : ∀ (n : Nat) (v0 : Int64) (v2 : Int32) (v3 : Int64) (h : Hp) (r : Int32 × Hp), l_185_4 n v2 v3 h = some r → Rn d 185 4 [some (.long v0), none, some (.int v2), some (.long v3), none] [] h (some (.int r.1), r.2) := by
  intro n
  induction n with
  | zero => intro v0 v2 v3 h r hb; cases hb
  | succ n ih => intro v0 v2 v3 h r hb; exact u_185_4 d hd (l_185_4 n) ih v0 v2 v3 h r hb
def b_185_0 (v0 : Int64)  (h : Hp) : Option (Int32 × Hp) :=
  bnd ((nI 0)) fun x1 =>
  l_185_4 FU x1 v0 h
theorem u_185_0 (d : Nat) (hd : 0 ≤ d) (v0 : Int64)  (h : Hp) (r : Int32 × Hp) (hb : b_185_0 v0  h = some r) : Rn d 185 0 [some (.long v0), none, none, none, none] [] h (some (.int r.1), r.2) := by
  unfold b_185_0 at hb
  refine rn_iconst (x := (nI 0)) rfl (by decide) ?_
  obtain ⟨x1, ex1, hb⟩ := bnd_spec hb
  refine rn_istore_n (i := 2) (L1 := [some (.long v0), none, some (.int x1), none, none]) rfl (Nat.le_of_ble_eq_true rfl) (Or.inr rfl) (by rw [ex1]; rfl) ?_
  refine rn_lload_n (i := 0) rfl rfl ?_
  refine rn_lstore_n (i := 3) (L1 := [some (.long v0), none, some (.int x1), some (.long v0), none]) rfl (Nat.le_of_ble_eq_true rfl) (Or.inr rfl) rfl ?_
  exact w_185_4 d hd FU v0 x1 v0 h _ hb
/-- BitingDoorsModel.ones(J)I -/
def f_185 (v0 : Int64) (h : Hp) : Option (Int32 × Hp) := b_185_0 v0 h
theorem t_185 (d : Nat) (hd : 0 ≤ d) (v0 : Int64) (h : Hp) (r : Int32 × Hp) (hb : f_185 v0 h = some r) : Rn d 185 0 [some (.long v0), none, none, none, none] [] h (some (.int r.1), r.2) := by
  unfold f_185 at hb
  exact u_185_0 d hd v0 h r hb
def b_186_18  (s0 : Int32) (h : Hp) : Option (Int32 × Hp) :=
  some (s0, h)
theorem u_186_18 (d : Nat) (hd : 0 ≤ d) (v0 : Option Nat) (v1 : Int32) (s0 : Int32) (h : Hp) (r : Int32 × Hp) (hb : b_186_18  s0 h = some r) : Rn d 186 18 [some (va_rf v0), some (.int v1)] [.int s0] h (some (.int r.1), r.2) := by
  unfold b_186_18 at hb
  obtain rfl := Option.some.inj hb
  exact rn_iret rfl rfl
def b_186_17   (h : Hp) : Option (Int32 × Hp) :=
  b_186_18  (nI 0) h
theorem u_186_17 (d : Nat) (hd : 0 ≤ d) (v0 : Option Nat) (v1 : Int32)  (h : Hp) (r : Int32 × Hp) (hb : b_186_17   h = some r) : Rn d 186 17 [some (va_rf v0), some (.int v1)] [] h (some (.int r.1), r.2) := by
  unfold b_186_17 at hb
  refine rn_iconst (x := (nI 0)) rfl (by decide) ?_
  exact u_186_18 d hd v0 v1 (nI 0) h _ hb
def b_186_8 (v0 : Option Nat) (v1 : Int32)  (h : Hp) : Option (Int32 × Hp) :=
  (gQ 11 1 v0 h).bind fun x1 =>
  (aI 12 x1 v1 h).bind fun x2 =>
  b_186_18  x2 h
theorem u_186_8 (d : Nat) (hd : 0 ≤ d) (v0 : Option Nat) (v1 : Int32)  (h : Hp) (r : Int32 × Hp) (hb : b_186_8 v0 v1  h = some r) : Rn d 186 8 [some (va_rf v0), some (.int v1)] [] h (some (.int r.1), r.2) := by
  unfold b_186_8 at hb
  refine rn_aload_n (i := 0) rfl rfl ?_
  refine rn_gQ (c := 11) (k := 1) rfl (by decide) hb (fun x1 hb => ?_)
  refine rn_iload_n (i := 1) rfl rfl ?_
  refine rn_aI rfl hb (fun x2 hb => ?_)
  refine rn_goto rfl rfl ?_
  exact u_186_18 d hd v0 v1 x2 h _ hb
def b_186_0 (v0 : Option Nat) (v1 : Int32)  (h : Hp) : Option (Int32 × Hp) :=
  (gI 11 3 v0 h).bind fun x1 =>
  if x1 ≤ v1 then b_186_17   h else b_186_8 v0 v1  h
theorem u_186_0 (d : Nat) (hd : 0 ≤ d) (v0 : Option Nat) (v1 : Int32)  (h : Hp) (r : Int32 × Hp) (hb : b_186_0 v0 v1  h = some r) : Rn d 186 0 [some (va_rf v0), some (.int v1)] [] h (some (.int r.1), r.2) := by
  unfold b_186_0 at hb
  refine rn_iload_n (i := 1) rfl rfl ?_
  refine rn_aload_n (i := 0) rfl rfl ?_
  refine rn_gI (c := 11) (k := 3) rfl (by decide) hb (fun x1 hb => ?_)
  refine rn_icmp_ge rfl rfl (fun hc => ?_) (fun hc => ?_)
  · exact u_186_17 d hd v0 v1  h _ (if_t hb hc)
  · exact u_186_8 d hd v0 v1  h _ (if_f hb hc)
/-- BitingDoorsModel.byteAt(I)I -/
def f_186 (v0 : Option Nat) (v1 : Int32) (h : Hp) : Option (Int32 × Hp) := b_186_0 v0 v1 h
theorem t_186 (d : Nat) (hd : 0 ≤ d) (v0 : Option Nat) (v1 : Int32) (h : Hp) (r : Int32 × Hp) (hb : f_186 v0 v1 h = some r) : Rn d 186 0 [some (va_rf v0), some (.int v1)] [] h (some (.int r.1), r.2) := by
  unfold f_186 at hb
  exact u_186_0 d hd v0 v1 h r hb
def b_187_17  (s0 : Int32) (h : Hp) : Option (Int32 × Hp) :=
  (grd (decide (s0 = 0 ∨ s0 = 1))).bind fun _ => some (s0, h)
theorem u_187_17 (d : Nat) (hd : 0 ≤ d) (v0 : Int32) (s0 : Int32) (h : Hp) (r : Int32 × Hp) (hb : b_187_17  s0 h = some r) : Rn d 187 17 [some (.int v0)] [.int s0] h (some (.int r.1), r.2) := by
  unfold b_187_17 at hb
  obtain ⟨hz, hb⟩ := grd_spec hb
  obtain rfl := Option.some.inj hb
  exact rn_zret rfl rfl (of_decide_eq_true hz)
def b_187_16   (h : Hp) : Option (Int32 × Hp) :=
  b_187_17  (nI 0) h
theorem u_187_16 (d : Nat) (hd : 0 ≤ d) (v0 : Int32)  (h : Hp) (r : Int32 × Hp) (hb : b_187_16   h = some r) : Rn d 187 16 [some (.int v0)] [] h (some (.int r.1), r.2) := by
  unfold b_187_16 at hb
  refine rn_iconst (x := (nI 0)) rfl (by decide) ?_
  exact u_187_17 d hd v0 (nI 0) h _ hb
def b_187_12   (h : Hp) : Option (Int32 × Hp) :=
  b_187_17  (nI 1) h
theorem u_187_12 (d : Nat) (hd : 0 ≤ d) (v0 : Int32)  (h : Hp) (r : Int32 × Hp) (hb : b_187_12   h = some r) : Rn d 187 12 [some (.int v0)] [] h (some (.int r.1), r.2) := by
  unfold b_187_12 at hb
  refine rn_iconst (x := (nI 1)) rfl (by decide) ?_
  refine rn_goto rfl rfl ?_
  exact u_187_17 d hd v0 (nI 1) h _ hb
def b_187_6 (v0 : Int32)  (h : Hp) : Option (Int32 × Hp) :=
  if (nI 57) < v0 then b_187_16   h else b_187_12   h
theorem u_187_6 (d : Nat) (hd : 0 ≤ d) (v0 : Int32)  (h : Hp) (r : Int32 × Hp) (hb : b_187_6 v0  h = some r) : Rn d 187 6 [some (.int v0)] [] h (some (.int r.1), r.2) := by
  unfold b_187_6 at hb
  refine rn_iload_n (i := 0) rfl rfl ?_
  refine rn_bipush (x := (nI 57)) rfl (by decide) ?_
  refine rn_icmp_gt rfl rfl (fun hc => ?_) (fun hc => ?_)
  · exact u_187_16 d hd v0  h _ (if_t hb hc)
  · exact u_187_12 d hd v0  h _ (if_f hb hc)
def b_187_0 (v0 : Int32)  (h : Hp) : Option (Int32 × Hp) :=
  if v0 < (nI 48) then b_187_16   h else b_187_6 v0  h
theorem u_187_0 (d : Nat) (hd : 0 ≤ d) (v0 : Int32)  (h : Hp) (r : Int32 × Hp) (hb : b_187_0 v0  h = some r) : Rn d 187 0 [some (.int v0)] [] h (some (.int r.1), r.2) := by
  unfold b_187_0 at hb
  refine rn_iload_n (i := 0) rfl rfl ?_
  refine rn_bipush (x := (nI 48)) rfl (by decide) ?_
  refine rn_icmp_lt rfl rfl (fun hc => ?_) (fun hc => ?_)
  · exact u_187_16 d hd v0  h _ (if_t hb hc)
  · exact u_187_6 d hd v0  h _ (if_f hb hc)
/-- BitingDoorsModel.isDigit(I)Z -/
def f_187 (v0 : Int32) (h : Hp) : Option (Int32 × Hp) := b_187_0 v0 h
theorem t_187 (d : Nat) (hd : 0 ≤ d) (v0 : Int32) (h : Hp) (r : Int32 × Hp) (hb : f_187 v0 h = some r) : Rn d 187 0 [some (.int v0)] [] h (some (.int r.1), r.2) := by
  unfold f_187 at hb
  exact u_187_0 d hd v0 h r hb
def b_188_17  (s0 : Int32) (h : Hp) : Option (Int32 × Hp) :=
  (grd (decide (s0 = 0 ∨ s0 = 1))).bind fun _ => some (s0, h)
theorem u_188_17 (d : Nat) (hd : 0 ≤ d) (v0 : Int32) (s0 : Int32) (h : Hp) (r : Int32 × Hp) (hb : b_188_17  s0 h = some r) : Rn d 188 17 [some (.int v0)] [.int s0] h (some (.int r.1), r.2) := by
  unfold b_188_17 at hb
  obtain ⟨hz, hb⟩ := grd_spec hb
  obtain rfl := Option.some.inj hb
  exact rn_zret rfl rfl (of_decide_eq_true hz)
def b_188_16   (h : Hp) : Option (Int32 × Hp) :=
  b_188_17  (nI 0) h
theorem u_188_16 (d : Nat) (hd : 0 ≤ d) (v0 : Int32)  (h : Hp) (r : Int32 × Hp) (hb : b_188_16   h = some r) : Rn d 188 16 [some (.int v0)] [] h (some (.int r.1), r.2) := by
  unfold b_188_16 at hb
  refine rn_iconst (x := (nI 0)) rfl (by decide) ?_
  exact u_188_17 d hd v0 (nI 0) h _ hb
def b_188_12   (h : Hp) : Option (Int32 × Hp) :=
  b_188_17  (nI 1) h
theorem u_188_12 (d : Nat) (hd : 0 ≤ d) (v0 : Int32)  (h : Hp) (r : Int32 × Hp) (hb : b_188_12   h = some r) : Rn d 188 12 [some (.int v0)] [] h (some (.int r.1), r.2) := by
  unfold b_188_12 at hb
  refine rn_iconst (x := (nI 1)) rfl (by decide) ?_
  refine rn_goto rfl rfl ?_
  exact u_188_17 d hd v0 (nI 1) h _ hb
def b_188_6 (v0 : Int32)  (h : Hp) : Option (Int32 × Hp) :=
  if (nI 122) < v0 then b_188_16   h else b_188_12   h
theorem u_188_6 (d : Nat) (hd : 0 ≤ d) (v0 : Int32)  (h : Hp) (r : Int32 × Hp) (hb : b_188_6 v0  h = some r) : Rn d 188 6 [some (.int v0)] [] h (some (.int r.1), r.2) := by
  unfold b_188_6 at hb
  refine rn_iload_n (i := 0) rfl rfl ?_
  refine rn_bipush (x := (nI 122)) rfl (by decide) ?_
  refine rn_icmp_gt rfl rfl (fun hc => ?_) (fun hc => ?_)
  · exact u_188_16 d hd v0  h _ (if_t hb hc)
  · exact u_188_12 d hd v0  h _ (if_f hb hc)
def b_188_0 (v0 : Int32)  (h : Hp) : Option (Int32 × Hp) :=
  if v0 < (nI 97) then b_188_16   h else b_188_6 v0  h
theorem u_188_0 (d : Nat) (hd : 0 ≤ d) (v0 : Int32)  (h : Hp) (r : Int32 × Hp) (hb : b_188_0 v0  h = some r) : Rn d 188 0 [some (.int v0)] [] h (some (.int r.1), r.2) := by
  unfold b_188_0 at hb
  refine rn_iload_n (i := 0) rfl rfl ?_
  refine rn_bipush (x := (nI 97)) rfl (by decide) ?_
  refine rn_icmp_lt rfl rfl (fun hc => ?_) (fun hc => ?_)
  · exact u_188_16 d hd v0  h _ (if_t hb hc)
  · exact u_188_6 d hd v0  h _ (if_f hb hc)
/-- BitingDoorsModel.isLetter(I)Z -/
def f_188 (v0 : Int32) (h : Hp) : Option (Int32 × Hp) := b_188_0 v0 h
theorem t_188 (d : Nat) (hd : 0 ≤ d) (v0 : Int32) (h : Hp) (r : Int32 × Hp) (hb : f_188 v0 h = some r) : Rn d 188 0 [some (.int v0)] [] h (some (.int r.1), r.2) := by
  unfold f_188 at hb
  exact u_188_0 d hd v0 h r hb
def b_189_337 (k215 : Option Nat → Int32 → Int32 → Hp → Option (Hp)) (v0 : Option Nat) (v2 : Int32) (v3 : Int32)  (h : Hp) : Option (Hp) :=
  (gI 11 5 v0 h).bind fun x1 =>
  (pI 11 5 v0 (x1 + (nI 1)) h).bind fun h2 =>
  k215 v0 v2 v3 h2
theorem u_189_337 (d : Nat) (hd : 1 ≤ d) (k215 : Option Nat → Int32 → Int32 → Hp → Option (Hp)) (K215 : ∀ (v0 : Option Nat) (v1 : Int32) (v2 : Int32) (v3 : Int32) (v4 : Option (Int32)) (h : Hp) (r : Hp), k215 v0 v2 v3 h = some r → Rn d 189 215 [some (va_rf v0), some (.int v1), some (.int v2), some (.int v3), v4.map Value.int] [] h (none, r)) (v0 : Option Nat) (v1 : Int32) (v2 : Int32) (v3 : Int32) (v4 : Int32)  (h : Hp) (r : Hp) (hb : b_189_337 k215 v0 v2 v3  h = some r) : Rn d 189 337 [some (va_rf v0), some (.int v1), some (.int v2), some (.int v3), some (.int v4)] [] h (none, r) := by
  unfold b_189_337 at hb
  refine rn_aload_n (i := 0) rfl rfl ?_
  refine rn_dup rfl (bd_cat_rf _) ?_
  refine rn_gI (c := 11) (k := 5) rfl (by decide) hb (fun x1 hb => ?_)
  refine rn_iconst (x := (nI 1)) rfl (by decide) ?_
  refine rn_iadd rfl ?_
  refine rn_pI (c := 11) (k := 5) rfl (by decide) hb (fun h2 hb => ?_)
  refine rn_goto rfl rfl ?_
  exact K215 v0 v1 v2 v3 (some v4) h2 _ hb
def b_189_320 (k215 : Option Nat → Int32 → Int32 → Hp → Option (Hp)) (v0 : Option Nat) (v2 : Int32) (v3 : Int32) (v4 : Int32)  (h : Hp) : Option (Hp) :=
  (gI 11 8 v0 h).bind fun x1 =>
  (pI 11 8 v0 ((((nI 10) * x1) + v4) - (nI 48)) h).bind fun h2 =>
  b_189_337 k215 v0 v2 v3  h2
theorem u_189_320 (d : Nat) (hd : 1 ≤ d) (k215 : Option Nat → Int32 → Int32 → Hp → Option (Hp)) (K215 : ∀ (v0 : Option Nat) (v1 : Int32) (v2 : Int32) (v3 : Int32) (v4 : Option (Int32)) (h : Hp) (r : Hp), k215 v0 v2 v3 h = some r → Rn d 189 215 [some (va_rf v0), some (.int v1), some (.int v2), some (.int v3), v4.map Value.int] [] h (none, r)) (v0 : Option Nat) (v1 : Int32) (v2 : Int32) (v3 : Int32) (v4 : Int32)  (h : Hp) (r : Hp) (hb : b_189_320 k215 v0 v2 v3 v4  h = some r) : Rn d 189 320 [some (va_rf v0), some (.int v1), some (.int v2), some (.int v3), some (.int v4)] [] h (none, r) := by
  unfold b_189_320 at hb
  refine rn_aload_n (i := 0) rfl rfl ?_
  refine rn_bipush (x := (nI 10)) rfl (by decide) ?_
  refine rn_aload_n (i := 0) rfl rfl ?_
  refine rn_gI (c := 11) (k := 8) rfl (by decide) hb (fun x1 hb => ?_)
  refine rn_imul rfl ?_
  refine rn_iload (i := 4) rfl rfl ?_
  refine rn_iadd rfl ?_
  refine rn_bipush (x := (nI 48)) rfl (by decide) ?_
  refine rn_isub rfl ?_
  refine rn_pI (c := 11) (k := 8) rfl (by decide) hb (fun h2 hb => ?_)
  exact u_189_337 d hd k215 K215 v0 v1 v2 v3 v4  h2 _ hb
def b_189_307 (k215 : Option Nat → Int32 → Int32 → Hp → Option (Hp)) (v0 : Option Nat) (v2 : Int32) (v3 : Int32) (v4 : Int32)  (h : Hp) : Option (Hp) :=
  (gI 11 5 v0 h).bind fun x1 =>
  (gI 11 6 v0 h).bind fun x2 =>
  if (nI 2) ≤ (x1 - x2) then b_189_337 k215 v0 v2 v3  h else b_189_320 k215 v0 v2 v3 v4  h
theorem u_189_307 (d : Nat) (hd : 1 ≤ d) (k215 : Option Nat → Int32 → Int32 → Hp → Option (Hp)) (K215 : ∀ (v0 : Option Nat) (v1 : Int32) (v2 : Int32) (v3 : Int32) (v4 : Option (Int32)) (h : Hp) (r : Hp), k215 v0 v2 v3 h = some r → Rn d 189 215 [some (va_rf v0), some (.int v1), some (.int v2), some (.int v3), v4.map Value.int] [] h (none, r)) (v0 : Option Nat) (v1 : Int32) (v2 : Int32) (v3 : Int32) (v4 : Int32)  (h : Hp) (r : Hp) (hb : b_189_307 k215 v0 v2 v3 v4  h = some r) : Rn d 189 307 [some (va_rf v0), some (.int v1), some (.int v2), some (.int v3), some (.int v4)] [] h (none, r) := by
  unfold b_189_307 at hb
  refine rn_aload_n (i := 0) rfl rfl ?_
  refine rn_gI (c := 11) (k := 5) rfl (by decide) hb (fun x1 hb => ?_)
  refine rn_aload_n (i := 0) rfl rfl ?_
  refine rn_gI (c := 11) (k := 6) rfl (by decide) hb (fun x2 hb => ?_)
  refine rn_isub rfl ?_
  refine rn_iconst (x := (nI 2)) rfl (by decide) ?_
  refine rn_icmp_ge rfl rfl (fun hc => ?_) (fun hc => ?_)
  · exact u_189_337 d hd k215 K215 v0 v1 v2 v3 v4  h _ (if_t hb hc)
  · exact u_189_320 d hd k215 K215 v0 v1 v2 v3 v4  h _ (if_f hb hc)
def b_189_287 (k215 : Option Nat → Int32 → Int32 → Hp → Option (Hp)) (v0 : Option Nat) (v2 : Int32) (v3 : Int32) (v4 : Int32)  (h : Hp) : Option (Hp) :=
  (gJ 11 12 v0 h).bind fun x1 =>
  (pJ 11 12 v0 ((((lN 27) * x1) + v4.toInt64) - (lN 96)) h).bind fun h2 =>
  b_189_307 k215 v0 v2 v3 v4  h2
theorem u_189_287 (d : Nat) (hd : 1 ≤ d) (k215 : Option Nat → Int32 → Int32 → Hp → Option (Hp)) (K215 : ∀ (v0 : Option Nat) (v1 : Int32) (v2 : Int32) (v3 : Int32) (v4 : Option (Int32)) (h : Hp) (r : Hp), k215 v0 v2 v3 h = some r → Rn d 189 215 [some (va_rf v0), some (.int v1), some (.int v2), some (.int v3), v4.map Value.int] [] h (none, r)) (v0 : Option Nat) (v1 : Int32) (v2 : Int32) (v3 : Int32) (v4 : Int32)  (h : Hp) (r : Hp) (hb : b_189_287 k215 v0 v2 v3 v4  h = some r) : Rn d 189 287 [some (va_rf v0), some (.int v1), some (.int v2), some (.int v3), some (.int v4)] [] h (none, r) := by
  unfold b_189_287 at hb
  refine rn_aload_n (i := 0) rfl rfl ?_
  refine rn_ldc2_w (x := (lN 27)) rfl (by decide) ?_
  refine rn_aload_n (i := 0) rfl rfl ?_
  refine rn_gJ (c := 11) (k := 12) rfl (by decide) hb (fun x1 hb => ?_)
  refine rn_lmul rfl ?_
  refine rn_iload (i := 4) rfl rfl ?_
  refine rn_i2l rfl ?_
  refine rn_ladd rfl ?_
  refine rn_ldc2_w (x := (lN 96)) rfl (by decide) ?_
  refine rn_lsub rfl ?_
  refine rn_pJ (c := 11) (k := 12) rfl (by decide) hb (fun h2 hb => ?_)
  exact u_189_307 d hd k215 K215 v0 v1 v2 v3 v4  h2 _ hb
def b_189_272 (k215 : Option Nat → Int32 → Int32 → Hp → Option (Hp)) (v0 : Option Nat) (v2 : Int32) (v4 : Int32) (s0 : Int32) (h : Hp) : Option (Hp) :=
  (gI 11 5 v0 h).bind fun x1 =>
  (gI 11 6 v0 h).bind fun x2 =>
  if (nI 10) ≤ (x1 - x2) then b_189_307 k215 v0 v2 s0 v4  h else b_189_287 k215 v0 v2 s0 v4  h
theorem u_189_272 (d : Nat) (hd : 1 ≤ d) (k215 : Option Nat → Int32 → Int32 → Hp → Option (Hp)) (K215 : ∀ (v0 : Option Nat) (v1 : Int32) (v2 : Int32) (v3 : Int32) (v4 : Option (Int32)) (h : Hp) (r : Hp), k215 v0 v2 v3 h = some r → Rn d 189 215 [some (va_rf v0), some (.int v1), some (.int v2), some (.int v3), v4.map Value.int] [] h (none, r)) (v0 : Option Nat) (v1 : Int32) (v2 : Int32) (v3 : Int32) (v4 : Int32) (s0 : Int32) (h : Hp) (r : Hp) (hb : b_189_272 k215 v0 v2 v4 s0 h = some r) : Rn d 189 272 [some (va_rf v0), some (.int v1), some (.int v2), some (.int v3), some (.int v4)] [.int s0] h (none, r) := by
  unfold b_189_272 at hb
  refine rn_istore_n (i := 3) (L1 := [some (va_rf v0), some (.int v1), some (.int v2), some (.int s0), some (.int v4)]) rfl (Nat.le_of_ble_eq_true rfl) (Or.inr rfl) rfl ?_
  refine rn_aload_n (i := 0) rfl rfl ?_
  refine rn_gI (c := 11) (k := 5) rfl (by decide) hb (fun x1 hb => ?_)
  refine rn_aload_n (i := 0) rfl rfl ?_
  refine rn_gI (c := 11) (k := 6) rfl (by decide) hb (fun x2 hb => ?_)
  refine rn_isub rfl ?_
  refine rn_bipush (x := (nI 10)) rfl (by decide) ?_
  refine rn_icmp_ge rfl rfl (fun hc => ?_) (fun hc => ?_)
  · exact u_189_307 d hd k215 K215 v0 v1 v2 s0 v4  h _ (if_t hb hc)
  · exact u_189_287 d hd k215 K215 v0 v1 v2 s0 v4  h _ (if_f hb hc)
def b_189_271 (k215 : Option Nat → Int32 → Int32 → Hp → Option (Hp)) (v0 : Option Nat) (v2 : Int32) (v4 : Int32)  (h : Hp) : Option (Hp) :=
  b_189_272 k215 v0 v2 v4 (nI 0) h
theorem u_189_271 (d : Nat) (hd : 1 ≤ d) (k215 : Option Nat → Int32 → Int32 → Hp → Option (Hp)) (K215 : ∀ (v0 : Option Nat) (v1 : Int32) (v2 : Int32) (v3 : Int32) (v4 : Option (Int32)) (h : Hp) (r : Hp), k215 v0 v2 v3 h = some r → Rn d 189 215 [some (va_rf v0), some (.int v1), some (.int v2), some (.int v3), v4.map Value.int] [] h (none, r)) (v0 : Option Nat) (v1 : Int32) (v2 : Int32) (v3 : Int32) (v4 : Int32)  (h : Hp) (r : Hp) (hb : b_189_271 k215 v0 v2 v4  h = some r) : Rn d 189 271 [some (va_rf v0), some (.int v1), some (.int v2), some (.int v3), some (.int v4)] [] h (none, r) := by
  unfold b_189_271 at hb
  refine rn_iconst (x := (nI 0)) rfl (by decide) ?_
  exact u_189_272 d hd k215 K215 v0 v1 v2 v3 v4 (nI 0) h _ hb
def b_189_267 (k215 : Option Nat → Int32 → Int32 → Hp → Option (Hp)) (v0 : Option Nat) (v2 : Int32) (v4 : Int32)  (h : Hp) : Option (Hp) :=
  b_189_272 k215 v0 v2 v4 (nI 1) h
theorem u_189_267 (d : Nat) (hd : 1 ≤ d) (k215 : Option Nat → Int32 → Int32 → Hp → Option (Hp)) (K215 : ∀ (v0 : Option Nat) (v1 : Int32) (v2 : Int32) (v3 : Int32) (v4 : Option (Int32)) (h : Hp) (r : Hp), k215 v0 v2 v3 h = some r → Rn d 189 215 [some (va_rf v0), some (.int v1), some (.int v2), some (.int v3), v4.map Value.int] [] h (none, r)) (v0 : Option Nat) (v1 : Int32) (v2 : Int32) (v3 : Int32) (v4 : Int32)  (h : Hp) (r : Hp) (hb : b_189_267 k215 v0 v2 v4  h = some r) : Rn d 189 267 [some (va_rf v0), some (.int v1), some (.int v2), some (.int v3), some (.int v4)] [] h (none, r) := by
  unfold b_189_267 at hb
  refine rn_iconst (x := (nI 1)) rfl (by decide) ?_
  refine rn_goto rfl rfl ?_
  exact u_189_272 d hd k215 K215 v0 v1 v2 v3 v4 (nI 1) h _ hb
def b_189_258 (k215 : Option Nat → Int32 → Int32 → Hp → Option (Hp)) (v0 : Option Nat) (v2 : Int32) (v4 : Int32)  (h : Hp) : Option (Hp) :=
  (f_188 v4 h).bind fun p1 =>
  if ¬ p1.1 = v2 then b_189_271 k215 v0 v2 v4  p1.2 else b_189_267 k215 v0 v2 v4  p1.2
theorem u_189_258 (d : Nat) (hd : 1 ≤ d) (k215 : Option Nat → Int32 → Int32 → Hp → Option (Hp)) (K215 : ∀ (v0 : Option Nat) (v1 : Int32) (v2 : Int32) (v3 : Int32) (v4 : Option (Int32)) (h : Hp) (r : Hp), k215 v0 v2 v3 h = some r → Rn d 189 215 [some (va_rf v0), some (.int v1), some (.int v2), some (.int v3), v4.map Value.int] [] h (none, r)) (v0 : Option Nat) (v1 : Int32) (v2 : Int32) (v3 : Int32) (v4 : Int32)  (h : Hp) (r : Hp) (hb : b_189_258 k215 v0 v2 v4  h = some r) : Rn d 189 258 [some (va_rf v0), some (.int v1), some (.int v2), some (.int v3), some (.int v4)] [] h (none, r) := by
  unfold b_189_258 at hb
  obtain ⟨e, rfl⟩ : ∃ e, d = e + 1 := ⟨d - 1, by omega⟩
  refine rn_iload (i := 4) rfl rfl ?_
  obtain ⟨p1, hc, hb⟩ := Option.bind_eq_some_iff.mp hb
  refine Rn.call1 (d := e) (As := [.int v4]) (rest := []) rfl rfl rfl (by decide) rfl rfl rfl rfl (by decide) (bd_lenC (n := 1) rfl (bd_slI bd_slN) rfl) (bd_locC (n := 1) rfl (bd_slI bd_slN) rfl (t_188 e (by omega) v4 h _ hc)) ?_
  refine rn_iload_n (i := 2) rfl rfl ?_
  refine rn_icmp_ne rfl rfl (fun hc => ?_) (fun hc => ?_)
  · exact u_189_271 (e + 1) hd k215 K215 v0 v1 v2 v3 v4  p1.2 _ (if_t hb hc)
  · exact u_189_267 (e + 1) hd k215 K215 v0 v1 v2 v3 v4  p1.2 _ (if_f hb hc)
def b_189_243 (k215 : Option Nat → Int32 → Int32 → Hp → Option (Hp)) (v0 : Option Nat) (v2 : Int32) (v3 : Int32)  (h : Hp) : Option (Hp) :=
  (gQ 11 1 v0 h).bind fun x1 =>
  (gI 11 5 v0 h).bind fun x2 =>
  (aI 12 x1 x2 h).bind fun x3 =>
  if v3 = 0 then b_189_271 k215 v0 v2 x3  h else b_189_258 k215 v0 v2 x3  h
theorem u_189_243 (d : Nat) (hd : 1 ≤ d) (k215 : Option Nat → Int32 → Int32 → Hp → Option (Hp)) (K215 : ∀ (v0 : Option Nat) (v1 : Int32) (v2 : Int32) (v3 : Int32) (v4 : Option (Int32)) (h : Hp) (r : Hp), k215 v0 v2 v3 h = some r → Rn d 189 215 [some (va_rf v0), some (.int v1), some (.int v2), some (.int v3), v4.map Value.int] [] h (none, r)) (v0 : Option Nat) (v1 : Int32) (v2 : Int32) (v3 : Int32) (v4 : Option (Int32))  (h : Hp) (r : Hp) (hb : b_189_243 k215 v0 v2 v3  h = some r) : Rn d 189 243 [some (va_rf v0), some (.int v1), some (.int v2), some (.int v3), v4.map Value.int] [] h (none, r) := by
  unfold b_189_243 at hb
  refine rn_aload_n (i := 0) rfl rfl ?_
  refine rn_gQ (c := 11) (k := 1) rfl (by decide) hb (fun x1 hb => ?_)
  refine rn_aload_n (i := 0) rfl rfl ?_
  refine rn_gI (c := 11) (k := 5) rfl (by decide) hb (fun x2 hb => ?_)
  refine rn_aI rfl hb (fun x3 hb => ?_)
  refine rn_istore (i := 4) (L1 := [some (va_rf v0), some (.int v1), some (.int v2), some (.int v3), some (.int x3)]) rfl (Nat.le_of_ble_eq_true rfl) (Or.inr rfl) rfl ?_
  refine rn_iload_n (i := 3) rfl rfl ?_
  refine rn_if_eq rfl rfl (fun hc => ?_) (fun hc => ?_)
  · exact u_189_271 d hd k215 K215 v0 v1 v2 v3 x3  h _ (if_t hb hc)
  · exact u_189_258 d hd k215 K215 v0 v1 v2 v3 x3  h _ (if_f hb hc)
def b_189_390  (s0 : Option Nat) (s1 : Int32) (h : Hp) : Option (Hp) :=
  (pI 11 7 s0 s1 h).bind fun h1 =>
  some h1
theorem u_189_390 (d : Nat) (hd : 1 ≤ d) (v0 : Option Nat) (v1 : Int32) (v2 : Int32) (v3 : Int32) (v4 : Option (Int32)) (s0 : Option Nat) (s1 : Int32) (h : Hp) (r : Hp) (hb : b_189_390  s0 s1 h = some r) : Rn d 189 390 [some (va_rf v0), some (.int v1), some (.int v2), some (.int v3), v4.map Value.int] [.int s1, va_rf s0] h (none, r) := by
  unfold b_189_390 at hb
  refine rn_pI (c := 11) (k := 7) rfl (by decide) hb (fun h1 hb => ?_)
  obtain rfl := Option.some.inj hb
  exact rn_vret rfl rfl
def b_189_377  (s0 : Option Nat) (h : Hp) : Option (Hp) :=
  b_189_390  s0 (nI 1) h
theorem u_189_377 (d : Nat) (hd : 1 ≤ d) (v0 : Option Nat) (v1 : Int32) (v2 : Int32) (v3 : Int32) (v4 : Option (Int32)) (s0 : Option Nat) (h : Hp) (r : Hp) (hb : b_189_377  s0 h = some r) : Rn d 189 377 [some (va_rf v0), some (.int v1), some (.int v2), some (.int v3), v4.map Value.int] [va_rf s0] h (none, r) := by
  unfold b_189_377 at hb
  refine rn_iconst (x := (nI 1)) rfl (by decide) ?_
  refine rn_goto rfl rfl ?_
  exact u_189_390 d hd v0 v1 v2 v3 v4 s0 (nI 1) h _ hb
def b_189_389  (s0 : Option Nat) (h : Hp) : Option (Hp) :=
  b_189_390  s0 (nI 3) h
theorem u_189_389 (d : Nat) (hd : 1 ≤ d) (v0 : Option Nat) (v1 : Int32) (v2 : Int32) (v3 : Int32) (v4 : Option (Int32)) (s0 : Option Nat) (h : Hp) (r : Hp) (hb : b_189_389  s0 h = some r) : Rn d 189 389 [some (va_rf v0), some (.int v1), some (.int v2), some (.int v3), v4.map Value.int] [va_rf s0] h (none, r) := by
  unfold b_189_389 at hb
  refine rn_iconst (x := (nI 3)) rfl (by decide) ?_
  exact u_189_390 d hd v0 v1 v2 v3 v4 s0 (nI 3) h _ hb
def b_189_385  (s0 : Option Nat) (h : Hp) : Option (Hp) :=
  b_189_390  s0 (nI 2) h
theorem u_189_385 (d : Nat) (hd : 1 ≤ d) (v0 : Option Nat) (v1 : Int32) (v2 : Int32) (v3 : Int32) (v4 : Option (Int32)) (s0 : Option Nat) (h : Hp) (r : Hp) (hb : b_189_385  s0 h = some r) : Rn d 189 385 [some (va_rf v0), some (.int v1), some (.int v2), some (.int v3), v4.map Value.int] [va_rf s0] h (none, r) := by
  unfold b_189_385 at hb
  refine rn_iconst (x := (nI 2)) rfl (by decide) ?_
  refine rn_goto rfl rfl ?_
  exact u_189_390 d hd v0 v1 v2 v3 v4 s0 (nI 2) h _ hb
def b_189_381 (v2 : Int32) (s0 : Option Nat) (h : Hp) : Option (Hp) :=
  if v2 = 0 then b_189_389  s0 h else b_189_385  s0 h
theorem u_189_381 (d : Nat) (hd : 1 ≤ d) (v0 : Option Nat) (v1 : Int32) (v2 : Int32) (v3 : Int32) (v4 : Option (Int32)) (s0 : Option Nat) (h : Hp) (r : Hp) (hb : b_189_381 v2 s0 h = some r) : Rn d 189 381 [some (va_rf v0), some (.int v1), some (.int v2), some (.int v3), v4.map Value.int] [va_rf s0] h (none, r) := by
  unfold b_189_381 at hb
  refine rn_iload_n (i := 2) rfl rfl ?_
  refine rn_if_eq rfl rfl (fun hc => ?_) (fun hc => ?_)
  · exact u_189_389 d hd v0 v1 v2 v3 v4 s0 h _ (if_t hb hc)
  · exact u_189_385 d hd v0 v1 v2 v3 v4 s0 h _ (if_f hb hc)
def b_189_374 (v2 : Int32) (s0 : Option Nat) (s1 : Int32) (s2 : Int32) (h : Hp) : Option (Hp) :=
  if s1 ≤ s2 then b_189_381 v2 s0 h else b_189_377  s0 h
theorem u_189_374 (d : Nat) (hd : 1 ≤ d) (v0 : Option Nat) (v1 : Int32) (v2 : Int32) (v3 : Int32) (v4 : Option (Int32)) (s0 : Option Nat) (s1 : Int32) (s2 : Int32) (h : Hp) (r : Hp) (hb : b_189_374 v2 s0 s1 s2 h = some r) : Rn d 189 374 [some (va_rf v0), some (.int v1), some (.int v2), some (.int v3), v4.map Value.int] [.int s2, .int s1, va_rf s0] h (none, r) := by
  unfold b_189_374 at hb
  refine rn_icmp_le rfl rfl (fun hc => ?_) (fun hc => ?_)
  · exact u_189_381 d hd v0 v1 v2 v3 v4 s0 h _ (if_t hb hc)
  · exact u_189_377 d hd v0 v1 v2 v3 v4 s0 h _ (if_f hb hc)
def b_189_373 (v2 : Int32) (s0 : Option Nat) (s1 : Int32) (h : Hp) : Option (Hp) :=
  b_189_374 v2 s0 s1 (nI 2) h
theorem u_189_373 (d : Nat) (hd : 1 ≤ d) (v0 : Option Nat) (v1 : Int32) (v2 : Int32) (v3 : Int32) (v4 : Option (Int32)) (s0 : Option Nat) (s1 : Int32) (h : Hp) (r : Hp) (hb : b_189_373 v2 s0 s1 h = some r) : Rn d 189 373 [some (va_rf v0), some (.int v1), some (.int v2), some (.int v3), v4.map Value.int] [.int s1, va_rf s0] h (none, r) := by
  unfold b_189_373 at hb
  refine rn_iconst (x := (nI 2)) rfl (by decide) ?_
  exact u_189_374 d hd v0 v1 v2 v3 v4 s0 s1 (nI 2) h _ hb
def b_189_368 (v2 : Int32) (s0 : Option Nat) (s1 : Int32) (h : Hp) : Option (Hp) :=
  b_189_374 v2 s0 s1 (nI 10) h
theorem u_189_368 (d : Nat) (hd : 1 ≤ d) (v0 : Option Nat) (v1 : Int32) (v2 : Int32) (v3 : Int32) (v4 : Option (Int32)) (s0 : Option Nat) (s1 : Int32) (h : Hp) (r : Hp) (hb : b_189_368 v2 s0 s1 h = some r) : Rn d 189 368 [some (va_rf v0), some (.int v1), some (.int v2), some (.int v3), v4.map Value.int] [.int s1, va_rf s0] h (none, r) := by
  unfold b_189_368 at hb
  refine rn_bipush (x := (nI 10)) rfl (by decide) ?_
  refine rn_goto rfl rfl ?_
  exact u_189_374 d hd v0 v1 v2 v3 v4 s0 s1 (nI 10) h _ hb
def b_189_355 (v0 : Option Nat) (v2 : Int32) (s0 : Option Nat) (h : Hp) : Option (Hp) :=
  (gI 11 5 v0 h).bind fun x1 =>
  (gI 11 6 v0 h).bind fun x2 =>
  if v2 = 0 then b_189_373 v2 s0 (x1 - x2) h else b_189_368 v2 s0 (x1 - x2) h
theorem u_189_355 (d : Nat) (hd : 1 ≤ d) (v0 : Option Nat) (v1 : Int32) (v2 : Int32) (v3 : Int32) (v4 : Option (Int32)) (s0 : Option Nat) (h : Hp) (r : Hp) (hb : b_189_355 v0 v2 s0 h = some r) : Rn d 189 355 [some (va_rf v0), some (.int v1), some (.int v2), some (.int v3), v4.map Value.int] [va_rf s0] h (none, r) := by
  unfold b_189_355 at hb
  refine rn_aload_n (i := 0) rfl rfl ?_
  refine rn_gI (c := 11) (k := 5) rfl (by decide) hb (fun x1 hb => ?_)
  refine rn_aload_n (i := 0) rfl rfl ?_
  refine rn_gI (c := 11) (k := 6) rfl (by decide) hb (fun x2 hb => ?_)
  refine rn_isub rfl ?_
  refine rn_iload_n (i := 2) rfl rfl ?_
  refine rn_if_eq rfl rfl (fun hc => ?_) (fun hc => ?_)
  · exact u_189_373 d hd v0 v1 v2 v3 v4 s0 (x1 - x2) h _ (if_t hb hc)
  · exact u_189_368 d hd v0 v1 v2 v3 v4 s0 (x1 - x2) h _ (if_f hb hc)
def b_189_350 (v0 : Option Nat) (v2 : Int32) (v3 : Int32)  (h : Hp) : Option (Hp) :=
  if v3 = 0 then b_189_377  v0 h else b_189_355 v0 v2 v0 h
theorem u_189_350 (d : Nat) (hd : 1 ≤ d) (v0 : Option Nat) (v1 : Int32) (v2 : Int32) (v3 : Int32) (v4 : Option (Int32))  (h : Hp) (r : Hp) (hb : b_189_350 v0 v2 v3  h = some r) : Rn d 189 350 [some (va_rf v0), some (.int v1), some (.int v2), some (.int v3), v4.map Value.int] [] h (none, r) := by
  unfold b_189_350 at hb
  refine rn_aload_n (i := 0) rfl rfl ?_
  refine rn_iload_n (i := 3) rfl rfl ?_
  refine rn_if_eq rfl rfl (fun hc => ?_) (fun hc => ?_)
  · exact u_189_377 d hd v0 v1 v2 v3 v4 v0 h _ (if_t hb hc)
  · exact u_189_355 d hd v0 v1 v2 v3 v4 v0 h _ (if_f hb hc)
def b_189_229 (k215 : Option Nat → Int32 → Int32 → Hp → Option (Hp)) (v0 : Option Nat) (v2 : Int32) (v3 : Int32)  (h : Hp) : Option (Hp) :=
  (gI 11 5 v0 h).bind fun x1 =>
  (grd (rC 11 v0 h)).bind fun _ =>
  (f_186 v0 x1 h).bind fun p2 =>
  (f_187 p2.1 p2.2).bind fun p3 =>
  if p3.1 = 0 then b_189_350 v0 v2 v3  p3.2 else b_189_243 k215 v0 v2 v3  p3.2
theorem u_189_229 (d : Nat) (hd : 1 ≤ d) (k215 : Option Nat → Int32 → Int32 → Hp → Option (Hp)) (K215 : ∀ (v0 : Option Nat) (v1 : Int32) (v2 : Int32) (v3 : Int32) (v4 : Option (Int32)) (h : Hp) (r : Hp), k215 v0 v2 v3 h = some r → Rn d 189 215 [some (va_rf v0), some (.int v1), some (.int v2), some (.int v3), v4.map Value.int] [] h (none, r)) (v0 : Option Nat) (v1 : Int32) (v2 : Int32) (v3 : Int32) (v4 : Option (Int32))  (h : Hp) (r : Hp) (hb : b_189_229 k215 v0 v2 v3  h = some r) : Rn d 189 229 [some (va_rf v0), some (.int v1), some (.int v2), some (.int v3), v4.map Value.int] [] h (none, r) := by
  unfold b_189_229 at hb
  obtain ⟨e, rfl⟩ : ∃ e, d = e + 1 := ⟨d - 1, by omega⟩
  refine rn_aload_n (i := 0) rfl rfl ?_
  refine rn_aload_n (i := 0) rfl rfl ?_
  refine rn_gI (c := 11) (k := 5) rfl (by decide) hb (fun x1 hb => ?_)
  obtain ⟨hrc, hb⟩ := grd_spec hb
  obtain ⟨p2, hc, hb⟩ := Option.bind_eq_some_iff.mp hb
  refine Rn.call1 (d := e) (As := [va_rf v0, .int x1]) (rest := []) rfl rfl rfl (by decide) rfl rfl rfl (bd_rcV hrc rfl) (by decide) (bd_lenC (n := 2) rfl (bd_slR (bd_slI bd_slN)) rfl) (bd_locC (n := 2) rfl (bd_slR (bd_slI bd_slN)) rfl (t_186 e (by omega) v0 x1 h _ hc)) ?_
  obtain ⟨p3, hc, hb⟩ := Option.bind_eq_some_iff.mp hb
  refine Rn.call1 (d := e) (As := [.int p2.1]) (rest := []) rfl rfl rfl (by decide) rfl rfl rfl rfl (by decide) (bd_lenC (n := 1) rfl (bd_slI bd_slN) rfl) (bd_locC (n := 1) rfl (bd_slI bd_slN) rfl (t_187 e (by omega) p2.1 p2.2 _ hc)) ?_
  refine rn_if_eq rfl rfl (fun hc => ?_) (fun hc => ?_)
  · exact u_189_350 (e + 1) hd v0 v1 v2 v3 v4  p3.2 _ (if_t hb hc)
  · exact u_189_243 (e + 1) hd k215 K215 v0 v1 v2 v3 v4  p3.2 _ (if_f hb hc)
def b_189_215 (k215 : Option Nat → Int32 → Int32 → Hp → Option (Hp)) (v0 : Option Nat) (v2 : Int32) (v3 : Int32)  (h : Hp) : Option (Hp) :=
  (gI 11 5 v0 h).bind fun x1 =>
  (grd (rC 11 v0 h)).bind fun _ =>
  (f_186 v0 x1 h).bind fun p2 =>
  (f_188 p2.1 p2.2).bind fun p3 =>
  if ¬ p3.1 = 0 then b_189_243 k215 v0 v2 v3  p3.2 else b_189_229 k215 v0 v2 v3  p3.2
theorem u_189_215 (d : Nat) (hd : 1 ≤ d) (k215 : Option Nat → Int32 → Int32 → Hp → Option (Hp)) (K215 : ∀ (v0 : Option Nat) (v1 : Int32) (v2 : Int32) (v3 : Int32) (v4 : Option (Int32)) (h : Hp) (r : Hp), k215 v0 v2 v3 h = some r → Rn d 189 215 [some (va_rf v0), some (.int v1), some (.int v2), some (.int v3), v4.map Value.int] [] h (none, r)) (v0 : Option Nat) (v1 : Int32) (v2 : Int32) (v3 : Int32) (v4 : Option (Int32))  (h : Hp) (r : Hp) (hb : b_189_215 k215 v0 v2 v3  h = some r) : Rn d 189 215 [some (va_rf v0), some (.int v1), some (.int v2), some (.int v3), v4.map Value.int] [] h (none, r) := by
  unfold b_189_215 at hb
  obtain ⟨e, rfl⟩ : ∃ e, d = e + 1 := ⟨d - 1, by omega⟩
  refine rn_aload_n (i := 0) rfl rfl ?_
  refine rn_aload_n (i := 0) rfl rfl ?_
  refine rn_gI (c := 11) (k := 5) rfl (by decide) hb (fun x1 hb => ?_)
  obtain ⟨hrc, hb⟩ := grd_spec hb
  obtain ⟨p2, hc, hb⟩ := Option.bind_eq_some_iff.mp hb
  refine Rn.call1 (d := e) (As := [va_rf v0, .int x1]) (rest := []) rfl rfl rfl (by decide) rfl rfl rfl (bd_rcV hrc rfl) (by decide) (bd_lenC (n := 2) rfl (bd_slR (bd_slI bd_slN)) rfl) (bd_locC (n := 2) rfl (bd_slR (bd_slI bd_slN)) rfl (t_186 e (by omega) v0 x1 h _ hc)) ?_
  obtain ⟨p3, hc, hb⟩ := Option.bind_eq_some_iff.mp hb
  refine Rn.call1 (d := e) (As := [.int p2.1]) (rest := []) rfl rfl rfl (by decide) rfl rfl rfl rfl (by decide) (bd_lenC (n := 1) rfl (bd_slI bd_slN) rfl) (bd_locC (n := 1) rfl (bd_slI bd_slN) rfl (t_188 e (by omega) p2.1 p2.2 _ hc)) ?_
  refine rn_if_ne rfl rfl (fun hc => ?_) (fun hc => ?_)
  · exact u_189_243 (e + 1) hd k215 K215 v0 v1 v2 v3 v4  p3.2 _ (if_t hb hc)
  · exact u_189_229 (e + 1) hd k215 K215 v0 v1 v2 v3 v4  p3.2 _ (if_f hb hc)
def l_189_215 : Nat → Option Nat → Int32 → Int32 → Hp → Option (Hp)
  | 0, _, _, _, _ => none
  | n + 1, v0, v2, v3, h => b_189_215 (l_189_215 n) v0 v2 v3 h
theorem w_189_215 (d : Nat) (hd : 1 ≤ d) : ∀ (n : Nat) (v0 : Option Nat) (v1 : Int32) (v2 : Int32) (v3 : Int32) (v4 : Option (Int32)) (h : Hp) (r : Hp), l_189_215 n v0 v2 v3 h = some r → Rn d 189 215 [some (va_rf v0), some (.int v1), some (.int v2), some (.int v3), v4.map Value.int] [] h (none, r) := by
  intro n
  induction n with
  | zero => intro v0 v1 v2 v3 v4 h r hb; cases hb
  | succ n ih => intro v0 v1 v2 v3 v4 h r hb; exact u_189_215 d hd (l_189_215 n) ih v0 v1 v2 v3 v4 h r hb
def b_189_198 (v0 : Option Nat) (v1 : Int32)  (h : Hp) : Option (Hp) :=
  (f_188 v1 h).bind fun p1 =>
  bnd (p1.1) fun x2 =>
  bnd ((nI 1)) fun x3 =>
  (pJ 11 12 v0 (lN 0) p1.2).bind fun h4 =>
  (pI 11 8 v0 (nI 0) h4).bind fun h5 =>
  l_189_215 FU v0 x2 x3 h5
theorem u_189_198 (d : Nat) (hd : 1 ≤ d) (v0 : Option Nat) (v1 : Int32)  (h : Hp) (r : Hp) (hb : b_189_198 v0 v1  h = some r) : Rn d 189 198 [some (va_rf v0), some (.int v1), none, none, none] [] h (none, r) := by
  unfold b_189_198 at hb
  obtain ⟨e, rfl⟩ : ∃ e, d = e + 1 := ⟨d - 1, by omega⟩
  refine rn_iload_n (i := 1) rfl rfl ?_
  obtain ⟨p1, hc, hb⟩ := Option.bind_eq_some_iff.mp hb
  refine Rn.call1 (d := e) (As := [.int v1]) (rest := []) rfl rfl rfl (by decide) rfl rfl rfl rfl (by decide) (bd_lenC (n := 1) rfl (bd_slI bd_slN) rfl) (bd_locC (n := 1) rfl (bd_slI bd_slN) rfl (t_188 e (by omega) v1 h _ hc)) ?_
  obtain ⟨x2, ex2, hb⟩ := bnd_spec hb
  refine rn_istore_n (i := 2) (L1 := [some (va_rf v0), some (.int v1), some (.int x2), none, none]) rfl (Nat.le_of_ble_eq_true rfl) (Or.inr rfl) (by rw [ex2]; rfl) ?_
  refine rn_iconst (x := (nI 1)) rfl (by decide) ?_
  obtain ⟨x3, ex3, hb⟩ := bnd_spec hb
  refine rn_istore_n (i := 3) (L1 := [some (va_rf v0), some (.int v1), some (.int x2), some (.int x3), none]) rfl (Nat.le_of_ble_eq_true rfl) (Or.inr rfl) (by rw [ex3]; rfl) ?_
  refine rn_aload_n (i := 0) rfl rfl ?_
  refine rn_lconst (x := (lN 0)) rfl (by decide) ?_
  refine rn_pJ (c := 11) (k := 12) rfl (by decide) hb (fun h4 hb => ?_)
  refine rn_aload_n (i := 0) rfl rfl ?_
  refine rn_iconst (x := (nI 0)) rfl (by decide) ?_
  refine rn_pI (c := 11) (k := 8) rfl (by decide) hb (fun h5 hb => ?_)
  exact w_189_215 (e + 1) hd FU v0 v1 x2 x3 (none : Option (Int32)) h5 _ hb
def b_189_179 (v0 : Option Nat) (v1 : Int32) (s0 : Option Nat) (s1 : Int32) (h : Hp) : Option (Hp) :=
  (pI 11 7 s0 s1 h).bind fun h1 =>
  (pI 11 9 v0 v1 h1).bind fun h2 =>
  (gI 11 5 v0 h2).bind fun x3 =>
  (pI 11 5 v0 (x3 + (nI 1)) h2).bind fun h4 =>
  some h4
theorem u_189_179 (d : Nat) (hd : 1 ≤ d) (v0 : Option Nat) (v1 : Int32) (s0 : Option Nat) (s1 : Int32) (h : Hp) (r : Hp) (hb : b_189_179 v0 v1 s0 s1 h = some r) : Rn d 189 179 [some (va_rf v0), some (.int v1), none, none, none] [.int s1, va_rf s0] h (none, r) := by
  unfold b_189_179 at hb
  refine rn_pI (c := 11) (k := 7) rfl (by decide) hb (fun h1 hb => ?_)
  refine rn_aload_n (i := 0) rfl rfl ?_
  refine rn_iload_n (i := 1) rfl rfl ?_
  refine rn_pI (c := 11) (k := 9) rfl (by decide) hb (fun h2 hb => ?_)
  refine rn_aload_n (i := 0) rfl rfl ?_
  refine rn_dup rfl (bd_cat_rf _) ?_
  refine rn_gI (c := 11) (k := 5) rfl (by decide) hb (fun x3 hb => ?_)
  refine rn_iconst (x := (nI 1)) rfl (by decide) ?_
  refine rn_iadd rfl ?_
  refine rn_pI (c := 11) (k := 5) rfl (by decide) hb (fun h4 hb => ?_)
  obtain rfl := Option.some.inj hb
  exact rn_vret rfl rfl
def b_189_174 (v0 : Option Nat) (v1 : Int32) (s0 : Option Nat) (h : Hp) : Option (Hp) :=
  b_189_179 v0 v1 s0 (nI 4) h
theorem u_189_174 (d : Nat) (hd : 1 ≤ d) (v0 : Option Nat) (v1 : Int32) (s0 : Option Nat) (h : Hp) (r : Hp) (hb : b_189_174 v0 v1 s0 h = some r) : Rn d 189 174 [some (va_rf v0), some (.int v1), none, none, none] [va_rf s0] h (none, r) := by
  unfold b_189_174 at hb
  refine rn_iconst (x := (nI 4)) rfl (by decide) ?_
  refine rn_goto rfl rfl ?_
  exact u_189_179 d hd v0 v1 s0 (nI 4) h _ hb
def b_189_178 (v0 : Option Nat) (v1 : Int32) (s0 : Option Nat) (h : Hp) : Option (Hp) :=
  b_189_179 v0 v1 s0 (nI 1) h
theorem u_189_178 (d : Nat) (hd : 1 ≤ d) (v0 : Option Nat) (v1 : Int32) (s0 : Option Nat) (h : Hp) (r : Hp) (hb : b_189_178 v0 v1 s0 h = some r) : Rn d 189 178 [some (va_rf v0), some (.int v1), none, none, none] [va_rf s0] h (none, r) := by
  unfold b_189_178 at hb
  refine rn_iconst (x := (nI 1)) rfl (by decide) ?_
  exact u_189_179 d hd v0 v1 s0 (nI 1) h _ hb
def b_189_168 (v0 : Option Nat) (v1 : Int32) (s0 : Option Nat) (h : Hp) : Option (Hp) :=
  if ¬ v1 = (nI 41) then b_189_178 v0 v1 s0 h else b_189_174 v0 v1 s0 h
theorem u_189_168 (d : Nat) (hd : 1 ≤ d) (v0 : Option Nat) (v1 : Int32) (s0 : Option Nat) (h : Hp) (r : Hp) (hb : b_189_168 v0 v1 s0 h = some r) : Rn d 189 168 [some (va_rf v0), some (.int v1), none, none, none] [va_rf s0] h (none, r) := by
  unfold b_189_168 at hb
  refine rn_iload_n (i := 1) rfl rfl ?_
  refine rn_bipush (x := (nI 41)) rfl (by decide) ?_
  refine rn_icmp_ne rfl rfl (fun hc => ?_) (fun hc => ?_)
  · exact u_189_178 d hd v0 v1 s0 h _ (if_t hb hc)
  · exact u_189_174 d hd v0 v1 s0 h _ (if_f hb hc)
def b_189_162 (v0 : Option Nat) (v1 : Int32) (s0 : Option Nat) (h : Hp) : Option (Hp) :=
  if v1 = (nI 40) then b_189_174 v0 v1 s0 h else b_189_168 v0 v1 s0 h
theorem u_189_162 (d : Nat) (hd : 1 ≤ d) (v0 : Option Nat) (v1 : Int32) (s0 : Option Nat) (h : Hp) (r : Hp) (hb : b_189_162 v0 v1 s0 h = some r) : Rn d 189 162 [some (va_rf v0), some (.int v1), none, none, none] [va_rf s0] h (none, r) := by
  unfold b_189_162 at hb
  refine rn_iload_n (i := 1) rfl rfl ?_
  refine rn_bipush (x := (nI 40)) rfl (by decide) ?_
  refine rn_icmp_eq rfl rfl (fun hc => ?_) (fun hc => ?_)
  · exact u_189_174 d hd v0 v1 s0 h _ (if_t hb hc)
  · exact u_189_168 d hd v0 v1 s0 h _ (if_f hb hc)
def b_189_156 (v0 : Option Nat) (v1 : Int32) (s0 : Option Nat) (h : Hp) : Option (Hp) :=
  if v1 = (nI 62) then b_189_174 v0 v1 s0 h else b_189_162 v0 v1 s0 h
theorem u_189_156 (d : Nat) (hd : 1 ≤ d) (v0 : Option Nat) (v1 : Int32) (s0 : Option Nat) (h : Hp) (r : Hp) (hb : b_189_156 v0 v1 s0 h = some r) : Rn d 189 156 [some (va_rf v0), some (.int v1), none, none, none] [va_rf s0] h (none, r) := by
  unfold b_189_156 at hb
  refine rn_iload_n (i := 1) rfl rfl ?_
  refine rn_bipush (x := (nI 62)) rfl (by decide) ?_
  refine rn_icmp_eq rfl rfl (fun hc => ?_) (fun hc => ?_)
  · exact u_189_174 d hd v0 v1 s0 h _ (if_t hb hc)
  · exact u_189_162 d hd v0 v1 s0 h _ (if_f hb hc)
def b_189_150 (v0 : Option Nat) (v1 : Int32) (s0 : Option Nat) (h : Hp) : Option (Hp) :=
  if v1 = (nI 61) then b_189_174 v0 v1 s0 h else b_189_156 v0 v1 s0 h
theorem u_189_150 (d : Nat) (hd : 1 ≤ d) (v0 : Option Nat) (v1 : Int32) (s0 : Option Nat) (h : Hp) (r : Hp) (hb : b_189_150 v0 v1 s0 h = some r) : Rn d 189 150 [some (va_rf v0), some (.int v1), none, none, none] [va_rf s0] h (none, r) := by
  unfold b_189_150 at hb
  refine rn_iload_n (i := 1) rfl rfl ?_
  refine rn_bipush (x := (nI 61)) rfl (by decide) ?_
  refine rn_icmp_eq rfl rfl (fun hc => ?_) (fun hc => ?_)
  · exact u_189_174 d hd v0 v1 s0 h _ (if_t hb hc)
  · exact u_189_156 d hd v0 v1 s0 h _ (if_f hb hc)
def b_189_144 (v0 : Option Nat) (v1 : Int32) (s0 : Option Nat) (h : Hp) : Option (Hp) :=
  if v1 = (nI 60) then b_189_174 v0 v1 s0 h else b_189_150 v0 v1 s0 h
theorem u_189_144 (d : Nat) (hd : 1 ≤ d) (v0 : Option Nat) (v1 : Int32) (s0 : Option Nat) (h : Hp) (r : Hp) (hb : b_189_144 v0 v1 s0 h = some r) : Rn d 189 144 [some (va_rf v0), some (.int v1), none, none, none] [va_rf s0] h (none, r) := by
  unfold b_189_144 at hb
  refine rn_iload_n (i := 1) rfl rfl ?_
  refine rn_bipush (x := (nI 60)) rfl (by decide) ?_
  refine rn_icmp_eq rfl rfl (fun hc => ?_) (fun hc => ?_)
  · exact u_189_174 d hd v0 v1 s0 h _ (if_t hb hc)
  · exact u_189_150 d hd v0 v1 s0 h _ (if_f hb hc)
def b_189_137 (v0 : Option Nat) (v1 : Int32)  (h : Hp) : Option (Hp) :=
  if v1 = (nI 59) then b_189_174 v0 v1 v0 h else b_189_144 v0 v1 v0 h
theorem u_189_137 (d : Nat) (hd : 1 ≤ d) (v0 : Option Nat) (v1 : Int32)  (h : Hp) (r : Hp) (hb : b_189_137 v0 v1  h = some r) : Rn d 189 137 [some (va_rf v0), some (.int v1), none, none, none] [] h (none, r) := by
  unfold b_189_137 at hb
  refine rn_aload_n (i := 0) rfl rfl ?_
  refine rn_iload_n (i := 1) rfl rfl ?_
  refine rn_bipush (x := (nI 59)) rfl (by decide) ?_
  refine rn_icmp_eq rfl rfl (fun hc => ?_) (fun hc => ?_)
  · exact u_189_174 d hd v0 v1 v0 h _ (if_t hb hc)
  · exact u_189_144 d hd v0 v1 v0 h _ (if_f hb hc)
def b_189_130 (v0 : Option Nat) (v1 : Int32)  (h : Hp) : Option (Hp) :=
  (f_187 v1 h).bind fun p1 =>
  if ¬ p1.1 = 0 then b_189_198 v0 v1  p1.2 else b_189_137 v0 v1  p1.2
theorem u_189_130 (d : Nat) (hd : 1 ≤ d) (v0 : Option Nat) (v1 : Int32)  (h : Hp) (r : Hp) (hb : b_189_130 v0 v1  h = some r) : Rn d 189 130 [some (va_rf v0), some (.int v1), none, none, none] [] h (none, r) := by
  unfold b_189_130 at hb
  obtain ⟨e, rfl⟩ : ∃ e, d = e + 1 := ⟨d - 1, by omega⟩
  refine rn_iload_n (i := 1) rfl rfl ?_
  obtain ⟨p1, hc, hb⟩ := Option.bind_eq_some_iff.mp hb
  refine Rn.call1 (d := e) (As := [.int v1]) (rest := []) rfl rfl rfl (by decide) rfl rfl rfl rfl (by decide) (bd_lenC (n := 1) rfl (bd_slI bd_slN) rfl) (bd_locC (n := 1) rfl (bd_slI bd_slN) rfl (t_187 e (by omega) v1 h _ hc)) ?_
  refine rn_if_ne rfl rfl (fun hc => ?_) (fun hc => ?_)
  · exact u_189_198 (e + 1) hd v0 v1  p1.2 _ (if_t hb hc)
  · exact u_189_137 (e + 1) hd v0 v1  p1.2 _ (if_f hb hc)
def b_189_113 (v0 : Option Nat)  (h : Hp) : Option (Hp) :=
  (gQ 11 1 v0 h).bind fun x1 =>
  (gI 11 5 v0 h).bind fun x2 =>
  (aI 12 x1 x2 h).bind fun x3 =>
  (f_188 x3 h).bind fun p4 =>
  if ¬ p4.1 = 0 then b_189_198 v0 x3  p4.2 else b_189_130 v0 x3  p4.2
theorem u_189_113 (d : Nat) (hd : 1 ≤ d) (v0 : Option Nat)  (h : Hp) (r : Hp) (hb : b_189_113 v0  h = some r) : Rn d 189 113 [some (va_rf v0), none, none, none, none] [] h (none, r) := by
  unfold b_189_113 at hb
  obtain ⟨e, rfl⟩ : ∃ e, d = e + 1 := ⟨d - 1, by omega⟩
  refine rn_aload_n (i := 0) rfl rfl ?_
  refine rn_gQ (c := 11) (k := 1) rfl (by decide) hb (fun x1 hb => ?_)
  refine rn_aload_n (i := 0) rfl rfl ?_
  refine rn_gI (c := 11) (k := 5) rfl (by decide) hb (fun x2 hb => ?_)
  refine rn_aI rfl hb (fun x3 hb => ?_)
  refine rn_istore_n (i := 1) (L1 := [some (va_rf v0), some (.int x3), none, none, none]) rfl (Nat.le_of_ble_eq_true rfl) (Or.inr (bd_wideR rfl)) rfl ?_
  refine rn_iload_n (i := 1) rfl rfl ?_
  obtain ⟨p4, hc, hb⟩ := Option.bind_eq_some_iff.mp hb
  refine Rn.call1 (d := e) (As := [.int x3]) (rest := []) rfl rfl rfl (by decide) rfl rfl rfl rfl (by decide) (bd_lenC (n := 1) rfl (bd_slI bd_slN) rfl) (bd_locC (n := 1) rfl (bd_slI bd_slN) rfl (t_188 e (by omega) x3 h _ hc)) ?_
  refine rn_if_ne rfl rfl (fun hc => ?_) (fun hc => ?_)
  · exact u_189_198 (e + 1) hd v0 x3  p4.2 _ (if_t hb hc)
  · exact u_189_130 (e + 1) hd v0 x3  p4.2 _ (if_f hb hc)
def b_189_107 (v0 : Option Nat)  (h : Hp) : Option (Hp) :=
  (pI 11 7 v0 (nI 0) h).bind fun h1 =>
  some h1
theorem u_189_107 (d : Nat) (hd : 1 ≤ d) (v0 : Option Nat)  (h : Hp) (r : Hp) (hb : b_189_107 v0  h = some r) : Rn d 189 107 [some (va_rf v0), none, none, none, none] [] h (none, r) := by
  unfold b_189_107 at hb
  refine rn_aload_n (i := 0) rfl rfl ?_
  refine rn_iconst (x := (nI 0)) rfl (by decide) ?_
  refine rn_pI (c := 11) (k := 7) rfl (by decide) hb (fun h1 hb => ?_)
  obtain rfl := Option.some.inj hb
  exact rn_vret rfl rfl
def b_189_96 (v0 : Option Nat)  (h : Hp) : Option (Hp) :=
  (gI 11 5 v0 h).bind fun x1 =>
  (gI 11 3 v0 h).bind fun x2 =>
  if x1 < x2 then b_189_113 v0  h else b_189_107 v0  h
theorem u_189_96 (d : Nat) (hd : 1 ≤ d) (v0 : Option Nat)  (h : Hp) (r : Hp) (hb : b_189_96 v0  h = some r) : Rn d 189 96 [some (va_rf v0), none, none, none, none] [] h (none, r) := by
  unfold b_189_96 at hb
  refine rn_aload_n (i := 0) rfl rfl ?_
  refine rn_gI (c := 11) (k := 5) rfl (by decide) hb (fun x1 hb => ?_)
  refine rn_aload_n (i := 0) rfl rfl ?_
  refine rn_gI (c := 11) (k := 3) rfl (by decide) hb (fun x2 hb => ?_)
  refine rn_icmp_lt rfl rfl (fun hc => ?_) (fun hc => ?_)
  · exact u_189_113 d hd v0  h _ (if_t hb hc)
  · exact u_189_107 d hd v0  h _ (if_f hb hc)
def b_189_82 (v0 : Option Nat)  (h : Hp) : Option (Hp) :=
  (gI 11 4 v0 h).bind fun x1 =>
  (pI 11 6 v0 x1 h).bind fun h2 =>
  (pI 11 7 v0 (nI 1) h2).bind fun h3 =>
  some h3
theorem u_189_82 (d : Nat) (hd : 1 ≤ d) (v0 : Option Nat)  (h : Hp) (r : Hp) (hb : b_189_82 v0  h = some r) : Rn d 189 82 [some (va_rf v0), none, none, none, none] [] h (none, r) := by
  unfold b_189_82 at hb
  refine rn_aload_n (i := 0) rfl rfl ?_
  refine rn_aload_n (i := 0) rfl rfl ?_
  refine rn_gI (c := 11) (k := 4) rfl (by decide) hb (fun x1 hb => ?_)
  refine rn_pI (c := 11) (k := 6) rfl (by decide) hb (fun h2 hb => ?_)
  refine rn_aload_n (i := 0) rfl rfl ?_
  refine rn_iconst (x := (nI 1)) rfl (by decide) ?_
  refine rn_pI (c := 11) (k := 7) rfl (by decide) hb (fun h3 hb => ?_)
  obtain rfl := Option.some.inj hb
  exact rn_vret rfl rfl
def b_189_71 (v0 : Option Nat)  (h : Hp) : Option (Hp) :=
  (gI 11 6 v0 h).bind fun x1 =>
  (gI 11 4 v0 h).bind fun x2 =>
  if x1 < x2 then b_189_96 v0  h else b_189_82 v0  h
theorem u_189_71 (d : Nat) (hd : 1 ≤ d) (v0 : Option Nat)  (h : Hp) (r : Hp) (hb : b_189_71 v0  h = some r) : Rn d 189 71 [some (va_rf v0), none, none, none, none] [] h (none, r) := by
  unfold b_189_71 at hb
  refine rn_aload_n (i := 0) rfl rfl ?_
  refine rn_gI (c := 11) (k := 6) rfl (by decide) hb (fun x1 hb => ?_)
  refine rn_aload_n (i := 0) rfl rfl ?_
  refine rn_gI (c := 11) (k := 4) rfl (by decide) hb (fun x2 hb => ?_)
  refine rn_icmp_lt rfl rfl (fun hc => ?_) (fun hc => ?_)
  · exact u_189_96 d hd v0  h _ (if_t hb hc)
  · exact u_189_82 d hd v0  h _ (if_f hb hc)
def b_189_52 (v0 : Option Nat)  (h : Hp) : Option (Hp) :=
  (gI 11 5 v0 h).bind fun x1 =>
  (pI 11 6 v0 x1 h).bind fun h2 =>
  (gI 11 3 v0 h2).bind fun x3 =>
  (gI 11 4 v0 h2).bind fun x4 =>
  if x3 ≤ x4 then b_189_96 v0  h2 else b_189_71 v0  h2
theorem u_189_52 (d : Nat) (hd : 1 ≤ d) (v0 : Option Nat)  (h : Hp) (r : Hp) (hb : b_189_52 v0  h = some r) : Rn d 189 52 [some (va_rf v0), none, none, none, none] [] h (none, r) := by
  unfold b_189_52 at hb
  refine rn_aload_n (i := 0) rfl rfl ?_
  refine rn_aload_n (i := 0) rfl rfl ?_
  refine rn_gI (c := 11) (k := 5) rfl (by decide) hb (fun x1 hb => ?_)
  refine rn_pI (c := 11) (k := 6) rfl (by decide) hb (fun h2 hb => ?_)
  refine rn_aload_n (i := 0) rfl rfl ?_
  refine rn_gI (c := 11) (k := 3) rfl (by decide) hb (fun x3 hb => ?_)
  refine rn_aload_n (i := 0) rfl rfl ?_
  refine rn_gI (c := 11) (k := 4) rfl (by decide) hb (fun x4 hb => ?_)
  refine rn_icmp_le rfl rfl (fun hc => ?_) (fun hc => ?_)
  · exact u_189_96 d hd v0  h2 _ (if_t hb hc)
  · exact u_189_71 d hd v0  h2 _ (if_f hb hc)
def b_189_39 (k0 : Option Nat → Hp → Option (Hp)) (v0 : Option Nat)  (h : Hp) : Option (Hp) :=
  (gI 11 5 v0 h).bind fun x1 =>
  (pI 11 5 v0 (x1 + (nI 1)) h).bind fun h2 =>
  k0 v0 h2
theorem u_189_39 (d : Nat) (hd : 1 ≤ d) (k0 : Option Nat → Hp → Option (Hp)) (K0 : ∀ (v0 : Option Nat) (h : Hp) (r : Hp), k0 v0 h = some r → Rn d 189 0 [some (va_rf v0), none, none, none, none] [] h (none, r)) (v0 : Option Nat)  (h : Hp) (r : Hp) (hb : b_189_39 k0 v0  h = some r) : Rn d 189 39 [some (va_rf v0), none, none, none, none] [] h (none, r) := by
  unfold b_189_39 at hb
  refine rn_aload_n (i := 0) rfl rfl ?_
  refine rn_dup rfl (bd_cat_rf _) ?_
  refine rn_gI (c := 11) (k := 5) rfl (by decide) hb (fun x1 hb => ?_)
  refine rn_iconst (x := (nI 1)) rfl (by decide) ?_
  refine rn_iadd rfl ?_
  refine rn_pI (c := 11) (k := 5) rfl (by decide) hb (fun h2 hb => ?_)
  refine rn_goto rfl rfl ?_
  exact K0 v0 h2 _ hb
def b_189_25 (k0 : Option Nat → Hp → Option (Hp)) (v0 : Option Nat)  (h : Hp) : Option (Hp) :=
  (gQ 11 1 v0 h).bind fun x1 =>
  (gI 11 5 v0 h).bind fun x2 =>
  (aI 12 x1 x2 h).bind fun x3 =>
  if ¬ x3 = (nI 10) then b_189_52 v0  h else b_189_39 k0 v0  h
theorem u_189_25 (d : Nat) (hd : 1 ≤ d) (k0 : Option Nat → Hp → Option (Hp)) (K0 : ∀ (v0 : Option Nat) (h : Hp) (r : Hp), k0 v0 h = some r → Rn d 189 0 [some (va_rf v0), none, none, none, none] [] h (none, r)) (v0 : Option Nat)  (h : Hp) (r : Hp) (hb : b_189_25 k0 v0  h = some r) : Rn d 189 25 [some (va_rf v0), none, none, none, none] [] h (none, r) := by
  unfold b_189_25 at hb
  refine rn_aload_n (i := 0) rfl rfl ?_
  refine rn_gQ (c := 11) (k := 1) rfl (by decide) hb (fun x1 hb => ?_)
  refine rn_aload_n (i := 0) rfl rfl ?_
  refine rn_gI (c := 11) (k := 5) rfl (by decide) hb (fun x2 hb => ?_)
  refine rn_aI rfl hb (fun x3 hb => ?_)
  refine rn_bipush (x := (nI 10)) rfl (by decide) ?_
  refine rn_icmp_ne rfl rfl (fun hc => ?_) (fun hc => ?_)
  · exact u_189_52 d hd v0  h _ (if_t hb hc)
  · exact u_189_39 d hd k0 K0 v0  h _ (if_f hb hc)
def b_189_11 (k0 : Option Nat → Hp → Option (Hp)) (v0 : Option Nat)  (h : Hp) : Option (Hp) :=
  (gQ 11 1 v0 h).bind fun x1 =>
  (gI 11 5 v0 h).bind fun x2 =>
  (aI 12 x1 x2 h).bind fun x3 =>
  if x3 = (nI 32) then b_189_39 k0 v0  h else b_189_25 k0 v0  h
theorem u_189_11 (d : Nat) (hd : 1 ≤ d) (k0 : Option Nat → Hp → Option (Hp)) (K0 : ∀ (v0 : Option Nat) (h : Hp) (r : Hp), k0 v0 h = some r → Rn d 189 0 [some (va_rf v0), none, none, none, none] [] h (none, r)) (v0 : Option Nat)  (h : Hp) (r : Hp) (hb : b_189_11 k0 v0  h = some r) : Rn d 189 11 [some (va_rf v0), none, none, none, none] [] h (none, r) := by
  unfold b_189_11 at hb
  refine rn_aload_n (i := 0) rfl rfl ?_
  refine rn_gQ (c := 11) (k := 1) rfl (by decide) hb (fun x1 hb => ?_)
  refine rn_aload_n (i := 0) rfl rfl ?_
  refine rn_gI (c := 11) (k := 5) rfl (by decide) hb (fun x2 hb => ?_)
  refine rn_aI rfl hb (fun x3 hb => ?_)
  refine rn_bipush (x := (nI 32)) rfl (by decide) ?_
  refine rn_icmp_eq rfl rfl (fun hc => ?_) (fun hc => ?_)
  · exact u_189_39 d hd k0 K0 v0  h _ (if_t hb hc)
  · exact u_189_25 d hd k0 K0 v0  h _ (if_f hb hc)
def b_189_0 (k0 : Option Nat → Hp → Option (Hp)) (v0 : Option Nat)  (h : Hp) : Option (Hp) :=
  (gI 11 5 v0 h).bind fun x1 =>
  (gI 11 3 v0 h).bind fun x2 =>
  if x2 ≤ x1 then b_189_52 v0  h else b_189_11 k0 v0  h
theorem u_189_0 (d : Nat) (hd : 1 ≤ d) (k0 : Option Nat → Hp → Option (Hp)) (K0 : ∀ (v0 : Option Nat) (h : Hp) (r : Hp), k0 v0 h = some r → Rn d 189 0 [some (va_rf v0), none, none, none, none] [] h (none, r)) (v0 : Option Nat)  (h : Hp) (r : Hp) (hb : b_189_0 k0 v0  h = some r) : Rn d 189 0 [some (va_rf v0), none, none, none, none] [] h (none, r) := by
  unfold b_189_0 at hb
  refine rn_aload_n (i := 0) rfl rfl ?_
  refine rn_gI (c := 11) (k := 5) rfl (by decide) hb (fun x1 hb => ?_)
  refine rn_aload_n (i := 0) rfl rfl ?_
  refine rn_gI (c := 11) (k := 3) rfl (by decide) hb (fun x2 hb => ?_)
  refine rn_icmp_ge rfl rfl (fun hc => ?_) (fun hc => ?_)
  · exact u_189_52 d hd v0  h _ (if_t hb hc)
  · exact u_189_11 d hd k0 K0 v0  h _ (if_f hb hc)
def l_189_0 : Nat → Option Nat → Hp → Option (Hp)
  | 0, _, _ => none
  | n + 1, v0, h => b_189_0 (l_189_0 n) v0 h
theorem w_189_0 (d : Nat) (hd : 1 ≤ d) : ∀ (n : Nat) (v0 : Option Nat) (h : Hp) (r : Hp), l_189_0 n v0 h = some r → Rn d 189 0 [some (va_rf v0), none, none, none, none] [] h (none, r) := by
  intro n
  induction n with
  | zero => intro v0 h r hb; cases hb
  | succ n ih => intro v0 h r hb; exact u_189_0 d hd (l_189_0 n) ih v0 h r hb
/-- BitingDoorsModel.go()V -/
def f_189 (v0 : Option Nat) (h : Hp) : Option (Hp) := l_189_0 FU v0 h
theorem t_189 (d : Nat) (hd : 1 ≤ d) (v0 : Option Nat) (h : Hp) (r : Hp) (hb : f_189 v0 h = some r) : Rn d 189 0 [some (va_rf v0), none, none, none, none] [] h (none, r) := by
  unfold f_189 at hb
  exact w_189_0 d hd FU v0 h r hb
def b_190_60  (s0 : Int64) (h : Hp) : Option (Int64 × Hp) :=
  some (s0, h)
theorem u_190_60 (d : Nat) (hd : 0 ≤ d) (v0 : Int32) (v1 : Int32) (v2 : Int32) (v3 : Int32) (v4 : Int64) (s0 : Int64) (h : Hp) (r : Int64 × Hp) (hb : b_190_60  s0 h = some r) : Rn d 190 60 [some (.int v0), some (.int v1), some (.int v2), some (.int v3), some (.long v4), none] [.long s0] h (some (.long r.1), r.2) := by
  unfold b_190_60 at hb
  obtain rfl := Option.some.inj hb
  exact rn_lret rfl rfl
def b_190_58 (v4 : Int64)  (h : Hp) : Option (Int64 × Hp) :=
  b_190_60  v4 h
theorem u_190_58 (d : Nat) (hd : 0 ≤ d) (v0 : Int32) (v1 : Int32) (v2 : Int32) (v3 : Int32) (v4 : Int64)  (h : Hp) (r : Int64 × Hp) (hb : b_190_58 v4  h = some r) : Rn d 190 58 [some (.int v0), some (.int v1), some (.int v2), some (.int v3), some (.long v4), none] [] h (some (.long r.1), r.2) := by
  unfold b_190_58 at hb
  refine rn_lload (i := 4) rfl rfl ?_
  exact u_190_60 d hd v0 v1 v2 v3 v4 v4 h _ hb
def b_190_42 (v3 : Int32) (v4 : Int64)  (h : Hp) : Option (Int64 × Hp) :=
  b_190_60  ((((lN 27) * v4) + v3.toInt64) - (lN 96)) h
theorem u_190_42 (d : Nat) (hd : 0 ≤ d) (v0 : Int32) (v1 : Int32) (v2 : Int32) (v3 : Int32) (v4 : Int64)  (h : Hp) (r : Int64 × Hp) (hb : b_190_42 v3 v4  h = some r) : Rn d 190 42 [some (.int v0), some (.int v1), some (.int v2), some (.int v3), some (.long v4), none] [] h (some (.long r.1), r.2) := by
  unfold b_190_42 at hb
  refine rn_ldc2_w (x := (lN 27)) rfl (by decide) ?_
  refine rn_lload (i := 4) rfl rfl ?_
  refine rn_lmul rfl ?_
  refine rn_iload_n (i := 3) rfl rfl ?_
  refine rn_i2l rfl ?_
  refine rn_ladd rfl ?_
  refine rn_ldc2_w (x := (lN 96)) rfl (by decide) ?_
  refine rn_lsub rfl ?_
  refine rn_goto rfl rfl ?_
  exact u_190_60 d hd v0 v1 v2 v3 v4 ((((lN 27) * v4) + v3.toInt64) - (lN 96)) h _ hb
def b_190_38 (v3 : Int32) (v4 : Int64)  (h : Hp) : Option (Int64 × Hp) :=
  if v3 ≤ 0 then b_190_58 v4  h else b_190_42 v3 v4  h
theorem u_190_38 (d : Nat) (hd : 0 ≤ d) (v0 : Int32) (v1 : Int32) (v2 : Int32) (v3 : Int32) (v4 : Int64)  (h : Hp) (r : Int64 × Hp) (hb : b_190_38 v3 v4  h = some r) : Rn d 190 38 [some (.int v0), some (.int v1), some (.int v2), some (.int v3), some (.long v4), none] [] h (some (.long r.1), r.2) := by
  unfold b_190_38 at hb
  refine rn_iload_n (i := 3) rfl rfl ?_
  refine rn_if_le rfl rfl (fun hc => ?_) (fun hc => ?_)
  · exact u_190_58 d hd v0 v1 v2 v3 v4  h _ (if_t hb hc)
  · exact u_190_42 d hd v0 v1 v2 v3 v4  h _ (if_f hb hc)
def b_190_23 (v2 : Int32) (v3 : Int32) (v4 : Int64)  (h : Hp) : Option (Int64 × Hp) :=
  bnd (((((lN 27) * v4) + v2.toInt64) - (lN 96))) fun x1 =>
  b_190_38 v3 x1  h
theorem u_190_23 (d : Nat) (hd : 0 ≤ d) (v0 : Int32) (v1 : Int32) (v2 : Int32) (v3 : Int32) (v4 : Int64)  (h : Hp) (r : Int64 × Hp) (hb : b_190_23 v2 v3 v4  h = some r) : Rn d 190 23 [some (.int v0), some (.int v1), some (.int v2), some (.int v3), some (.long v4), none] [] h (some (.long r.1), r.2) := by
  unfold b_190_23 at hb
  refine rn_ldc2_w (x := (lN 27)) rfl (by decide) ?_
  refine rn_lload (i := 4) rfl rfl ?_
  refine rn_lmul rfl ?_
  refine rn_iload_n (i := 2) rfl rfl ?_
  refine rn_i2l rfl ?_
  refine rn_ladd rfl ?_
  refine rn_ldc2_w (x := (lN 96)) rfl (by decide) ?_
  refine rn_lsub rfl ?_
  obtain ⟨x1, ex1, hb⟩ := bnd_spec hb
  refine rn_lstore (i := 4) (L1 := [some (.int v0), some (.int v1), some (.int v2), some (.int v3), some (.long x1), none]) rfl (Nat.le_of_ble_eq_true rfl) (Or.inr rfl) (by rw [ex1]; rfl) ?_
  exact u_190_38 d hd v0 v1 v2 v3 x1  h _ hb
def b_190_0 (v0 : Int32) (v1 : Int32) (v2 : Int32) (v3 : Int32)  (h : Hp) : Option (Int64 × Hp) :=
  bnd (((((lN 27) * (v0.toInt64 - (lN 96))) + v1.toInt64) - (lN 96))) fun x1 =>
  if v2 ≤ 0 then b_190_38 v3 x1  h else b_190_23 v2 v3 x1  h
theorem u_190_0 (d : Nat) (hd : 0 ≤ d) (v0 : Int32) (v1 : Int32) (v2 : Int32) (v3 : Int32)  (h : Hp) (r : Int64 × Hp) (hb : b_190_0 v0 v1 v2 v3  h = some r) : Rn d 190 0 [some (.int v0), some (.int v1), some (.int v2), some (.int v3), none, none] [] h (some (.long r.1), r.2) := by
  unfold b_190_0 at hb
  refine rn_ldc2_w (x := (lN 27)) rfl (by decide) ?_
  refine rn_iload_n (i := 0) rfl rfl ?_
  refine rn_i2l rfl ?_
  refine rn_ldc2_w (x := (lN 96)) rfl (by decide) ?_
  refine rn_lsub rfl ?_
  refine rn_lmul rfl ?_
  refine rn_iload_n (i := 1) rfl rfl ?_
  refine rn_i2l rfl ?_
  refine rn_ladd rfl ?_
  refine rn_ldc2_w (x := (lN 96)) rfl (by decide) ?_
  refine rn_lsub rfl ?_
  obtain ⟨x1, ex1, hb⟩ := bnd_spec hb
  refine rn_lstore (i := 4) (L1 := [some (.int v0), some (.int v1), some (.int v2), some (.int v3), some (.long x1), none]) rfl (Nat.le_of_ble_eq_true rfl) (Or.inr rfl) (by rw [ex1]; rfl) ?_
  refine rn_iload_n (i := 2) rfl rfl ?_
  refine rn_if_le rfl rfl (fun hc => ?_) (fun hc => ?_)
  · exact u_190_38 d hd v0 v1 v2 v3 x1  h _ (if_t hb hc)
  · exact u_190_23 d hd v0 v1 v2 v3 x1  h _ (if_f hb hc)
/-- BitingDoorsModel.spelt(IIII)J -/
def f_190 (v0 : Int32) (v1 : Int32) (v2 : Int32) (v3 : Int32) (h : Hp) : Option (Int64 × Hp) := b_190_0 v0 v1 v2 v3 h
theorem t_190 (d : Nat) (hd : 0 ≤ d) (v0 : Int32) (v1 : Int32) (v2 : Int32) (v3 : Int32) (h : Hp) (r : Int64 × Hp) (hb : f_190 v0 v1 v2 v3 h = some r) : Rn d 190 0 [some (.int v0), some (.int v1), some (.int v2), some (.int v3), none, none] [] h (some (.long r.1), r.2) := by
  unfold f_190 at hb
  exact u_190_0 d hd v0 v1 v2 v3 h r hb
def b_191_57  (s0 : Int64) (h : Hp) : Option (Int64 × Hp) :=
  some (s0, h)
theorem u_191_57 (d : Nat) (hd : 0 ≤ d) (v0 : Int64) (v2 : Int32) (v3 : Int32) (v4 : Int32) (v5 : Int64) (s0 : Int64) (h : Hp) (r : Int64 × Hp) (hb : b_191_57  s0 h = some r) : Rn d 191 57 [some (.long v0), none, some (.int v2), some (.int v3), some (.int v4), some (.long v5), none] [.long s0] h (some (.long r.1), r.2) := by
  unfold b_191_57 at hb
  obtain rfl := Option.some.inj hb
  exact rn_lret rfl rfl
def b_191_55 (v5 : Int64)  (h : Hp) : Option (Int64 × Hp) :=
  b_191_57  v5 h
theorem u_191_55 (d : Nat) (hd : 0 ≤ d) (v0 : Int64) (v2 : Int32) (v3 : Int32) (v4 : Int32) (v5 : Int64)  (h : Hp) (r : Int64 × Hp) (hb : b_191_55 v5  h = some r) : Rn d 191 55 [some (.long v0), none, some (.int v2), some (.int v3), some (.int v4), some (.long v5), none] [] h (some (.long r.1), r.2) := by
  unfold b_191_55 at hb
  refine rn_lload (i := 5) rfl rfl ?_
  exact u_191_57 d hd v0 v2 v3 v4 v5 v5 h _ hb
def b_191_38 (v4 : Int32) (v5 : Int64)  (h : Hp) : Option (Int64 × Hp) :=
  b_191_57  ((((lN 27) * v5) + v4.toInt64) - (lN 96)) h
theorem u_191_38 (d : Nat) (hd : 0 ≤ d) (v0 : Int64) (v2 : Int32) (v3 : Int32) (v4 : Int32) (v5 : Int64)  (h : Hp) (r : Int64 × Hp) (hb : b_191_38 v4 v5  h = some r) : Rn d 191 38 [some (.long v0), none, some (.int v2), some (.int v3), some (.int v4), some (.long v5), none] [] h (some (.long r.1), r.2) := by
  unfold b_191_38 at hb
  refine rn_ldc2_w (x := (lN 27)) rfl (by decide) ?_
  refine rn_lload (i := 5) rfl rfl ?_
  refine rn_lmul rfl ?_
  refine rn_iload (i := 4) rfl rfl ?_
  refine rn_i2l rfl ?_
  refine rn_ladd rfl ?_
  refine rn_ldc2_w (x := (lN 96)) rfl (by decide) ?_
  refine rn_lsub rfl ?_
  refine rn_goto rfl rfl ?_
  exact u_191_57 d hd v0 v2 v3 v4 v5 ((((lN 27) * v5) + v4.toInt64) - (lN 96)) h _ hb
def b_191_33 (v4 : Int32) (v5 : Int64)  (h : Hp) : Option (Int64 × Hp) :=
  if v4 ≤ 0 then b_191_55 v5  h else b_191_38 v4 v5  h
theorem u_191_33 (d : Nat) (hd : 0 ≤ d) (v0 : Int64) (v2 : Int32) (v3 : Int32) (v4 : Int32) (v5 : Int64)  (h : Hp) (r : Int64 × Hp) (hb : b_191_33 v4 v5  h = some r) : Rn d 191 33 [some (.long v0), none, some (.int v2), some (.int v3), some (.int v4), some (.long v5), none] [] h (some (.long r.1), r.2) := by
  unfold b_191_33 at hb
  refine rn_iload (i := 4) rfl rfl ?_
  refine rn_if_le rfl rfl (fun hc => ?_) (fun hc => ?_)
  · exact u_191_55 d hd v0 v2 v3 v4 v5  h _ (if_t hb hc)
  · exact u_191_38 d hd v0 v2 v3 v4 v5  h _ (if_f hb hc)
def b_191_18 (v3 : Int32) (v4 : Int32) (v5 : Int64)  (h : Hp) : Option (Int64 × Hp) :=
  bnd (((((lN 27) * v5) + v3.toInt64) - (lN 96))) fun x1 =>
  b_191_33 v4 x1  h
theorem u_191_18 (d : Nat) (hd : 0 ≤ d) (v0 : Int64) (v2 : Int32) (v3 : Int32) (v4 : Int32) (v5 : Int64)  (h : Hp) (r : Int64 × Hp) (hb : b_191_18 v3 v4 v5  h = some r) : Rn d 191 18 [some (.long v0), none, some (.int v2), some (.int v3), some (.int v4), some (.long v5), none] [] h (some (.long r.1), r.2) := by
  unfold b_191_18 at hb
  refine rn_ldc2_w (x := (lN 27)) rfl (by decide) ?_
  refine rn_lload (i := 5) rfl rfl ?_
  refine rn_lmul rfl ?_
  refine rn_iload_n (i := 3) rfl rfl ?_
  refine rn_i2l rfl ?_
  refine rn_ladd rfl ?_
  refine rn_ldc2_w (x := (lN 96)) rfl (by decide) ?_
  refine rn_lsub rfl ?_
  obtain ⟨x1, ex1, hb⟩ := bnd_spec hb
  refine rn_lstore (i := 5) (L1 := [some (.long v0), none, some (.int v2), some (.int v3), some (.int v4), some (.long x1), none]) rfl (Nat.le_of_ble_eq_true rfl) (Or.inr rfl) (by rw [ex1]; rfl) ?_
  exact u_191_33 d hd v0 v2 v3 v4 x1  h _ hb
def b_191_0 (v0 : Int64) (v2 : Int32) (v3 : Int32) (v4 : Int32)  (h : Hp) : Option (Int64 × Hp) :=
  bnd (((((lN 27) * v0) + v2.toInt64) - (lN 96))) fun x1 =>
  if v3 ≤ 0 then b_191_33 v4 x1  h else b_191_18 v3 v4 x1  h
theorem u_191_0 (d : Nat) (hd : 0 ≤ d) (v0 : Int64) (v2 : Int32) (v3 : Int32) (v4 : Int32)  (h : Hp) (r : Int64 × Hp) (hb : b_191_0 v0 v2 v3 v4  h = some r) : Rn d 191 0 [some (.long v0), none, some (.int v2), some (.int v3), some (.int v4), none, none] [] h (some (.long r.1), r.2) := by
  unfold b_191_0 at hb
  refine rn_ldc2_w (x := (lN 27)) rfl (by decide) ?_
  refine rn_lload_n (i := 0) rfl rfl ?_
  refine rn_lmul rfl ?_
  refine rn_iload_n (i := 2) rfl rfl ?_
  refine rn_i2l rfl ?_
  refine rn_ladd rfl ?_
  refine rn_ldc2_w (x := (lN 96)) rfl (by decide) ?_
  refine rn_lsub rfl ?_
  obtain ⟨x1, ex1, hb⟩ := bnd_spec hb
  refine rn_lstore (i := 5) (L1 := [some (.long v0), none, some (.int v2), some (.int v3), some (.int v4), some (.long x1), none]) rfl (Nat.le_of_ble_eq_true rfl) (Or.inr rfl) (by rw [ex1]; rfl) ?_
  refine rn_iload_n (i := 3) rfl rfl ?_
  refine rn_if_le rfl rfl (fun hc => ?_) (fun hc => ?_)
  · exact u_191_33 d hd v0 v2 v3 v4 x1  h _ (if_t hb hc)
  · exact u_191_18 d hd v0 v2 v3 v4 x1  h _ (if_f hb hc)
/-- BitingDoorsModel.on(JIII)J -/
def f_191 (v0 : Int64) (v2 : Int32) (v3 : Int32) (v4 : Int32) (h : Hp) : Option (Int64 × Hp) := b_191_0 v0 v2 v3 v4 h
theorem t_191 (d : Nat) (hd : 0 ≤ d) (v0 : Int64) (v2 : Int32) (v3 : Int32) (v4 : Int32) (h : Hp) (r : Int64 × Hp) (hb : f_191 v0 v2 v3 v4 h = some r) : Rn d 191 0 [some (.long v0), none, some (.int v2), some (.int v3), some (.int v4), none, none] [] h (some (.long r.1), r.2) := by
  unfold f_191 at hb
  exact u_191_0 d hd v0 v2 v3 v4 h r hb
def b_192_116   (h : Hp) : Option (Int64 × Hp) :=
  (f_190 (nI 114) (nI 111) (nI 119) (nI 0) h).bind fun p1 =>
  some (p1.1, p1.2)
theorem u_192_116 (d : Nat) (hd : 1 ≤ d) (v0 : Int32)  (h : Hp) (r : Int64 × Hp) (hb : b_192_116   h = some r) : Rn d 192 116 [some (.int v0)] [] h (some (.long r.1), r.2) := by
  unfold b_192_116 at hb
  obtain ⟨e, rfl⟩ : ∃ e, d = e + 1 := ⟨d - 1, by omega⟩
  refine rn_bipush (x := (nI 114)) rfl (by decide) ?_
  refine rn_bipush (x := (nI 111)) rfl (by decide) ?_
  refine rn_bipush (x := (nI 119)) rfl (by decide) ?_
  refine rn_iconst (x := (nI 0)) rfl (by decide) ?_
  obtain ⟨p1, hc, hb⟩ := Option.bind_eq_some_iff.mp hb
  refine Rn.call1 (d := e) (As := [.int (nI 114), .int (nI 111), .int (nI 119), .int (nI 0)]) (rest := []) rfl rfl rfl (by decide) rfl rfl rfl rfl (by decide) (bd_lenC (n := 6) rfl (bd_slI (bd_slI (bd_slI (bd_slI bd_slN)))) rfl) (bd_locC (n := 6) rfl (bd_slI (bd_slI (bd_slI (bd_slI bd_slN)))) rfl (t_190 e (by omega) (nI 114) (nI 111) (nI 119) (nI 0) h _ hc)) ?_
  obtain rfl := Option.some.inj hb
  exact rn_lret rfl rfl
def b_192_127   (h : Hp) : Option (Int64 × Hp) :=
  (f_190 (nI 100) (nI 111) (nI 111) (nI 114) h).bind fun p1 =>
  some (p1.1, p1.2)
theorem u_192_127 (d : Nat) (hd : 1 ≤ d) (v0 : Int32)  (h : Hp) (r : Int64 × Hp) (hb : b_192_127   h = some r) : Rn d 192 127 [some (.int v0)] [] h (some (.long r.1), r.2) := by
  unfold b_192_127 at hb
  obtain ⟨e, rfl⟩ : ∃ e, d = e + 1 := ⟨d - 1, by omega⟩
  refine rn_bipush (x := (nI 100)) rfl (by decide) ?_
  refine rn_bipush (x := (nI 111)) rfl (by decide) ?_
  refine rn_bipush (x := (nI 111)) rfl (by decide) ?_
  refine rn_bipush (x := (nI 114)) rfl (by decide) ?_
  obtain ⟨p1, hc, hb⟩ := Option.bind_eq_some_iff.mp hb
  refine Rn.call1 (d := e) (As := [.int (nI 100), .int (nI 111), .int (nI 111), .int (nI 114)]) (rest := []) rfl rfl rfl (by decide) rfl rfl rfl rfl (by decide) (bd_lenC (n := 6) rfl (bd_slI (bd_slI (bd_slI (bd_slI bd_slN)))) rfl) (bd_locC (n := 6) rfl (bd_slI (bd_slI (bd_slI (bd_slI bd_slN)))) rfl (t_190 e (by omega) (nI 100) (nI 111) (nI 111) (nI 114) h _ hc)) ?_
  obtain rfl := Option.some.inj hb
  exact rn_lret rfl rfl
def b_192_139   (h : Hp) : Option (Int64 × Hp) :=
  (f_190 (nI 100) (nI 114) (nI 97) (nI 117) h).bind fun p1 =>
  (f_191 p1.1 (nI 103) (nI 104) (nI 116) p1.2).bind fun p2 =>
  some (p2.1, p2.2)
theorem u_192_139 (d : Nat) (hd : 1 ≤ d) (v0 : Int32)  (h : Hp) (r : Int64 × Hp) (hb : b_192_139   h = some r) : Rn d 192 139 [some (.int v0)] [] h (some (.long r.1), r.2) := by
  unfold b_192_139 at hb
  obtain ⟨e, rfl⟩ : ∃ e, d = e + 1 := ⟨d - 1, by omega⟩
  refine rn_bipush (x := (nI 100)) rfl (by decide) ?_
  refine rn_bipush (x := (nI 114)) rfl (by decide) ?_
  refine rn_bipush (x := (nI 97)) rfl (by decide) ?_
  refine rn_bipush (x := (nI 117)) rfl (by decide) ?_
  obtain ⟨p1, hc, hb⟩ := Option.bind_eq_some_iff.mp hb
  refine Rn.call1 (d := e) (As := [.int (nI 100), .int (nI 114), .int (nI 97), .int (nI 117)]) (rest := []) rfl rfl rfl (by decide) rfl rfl rfl rfl (by decide) (bd_lenC (n := 6) rfl (bd_slI (bd_slI (bd_slI (bd_slI bd_slN)))) rfl) (bd_locC (n := 6) rfl (bd_slI (bd_slI (bd_slI (bd_slI bd_slN)))) rfl (t_190 e (by omega) (nI 100) (nI 114) (nI 97) (nI 117) h _ hc)) ?_
  refine rn_bipush (x := (nI 103)) rfl (by decide) ?_
  refine rn_bipush (x := (nI 104)) rfl (by decide) ?_
  refine rn_bipush (x := (nI 116)) rfl (by decide) ?_
  obtain ⟨p2, hc, hb⟩ := Option.bind_eq_some_iff.mp hb
  refine Rn.call1 (d := e) (As := [.long p1.1, .int (nI 103), .int (nI 104), .int (nI 116)]) (rest := []) rfl rfl rfl (by decide) rfl rfl rfl rfl (by decide) (bd_lenC (n := 7) rfl (bd_slJ (bd_slI (bd_slI (bd_slI bd_slN)))) rfl) (bd_locC (n := 7) rfl (bd_slJ (bd_slI (bd_slI (bd_slI bd_slN)))) rfl (t_191 e (by omega) p1.1 (nI 103) (nI 104) (nI 116) p1.2 _ hc)) ?_
  obtain rfl := Option.some.inj hb
  exact rn_lret rfl rfl
def b_192_160   (h : Hp) : Option (Int64 × Hp) :=
  (f_190 (nI 98) (nI 101) (nI 100) (nI 0) h).bind fun p1 =>
  some (p1.1, p1.2)
theorem u_192_160 (d : Nat) (hd : 1 ≤ d) (v0 : Int32)  (h : Hp) (r : Int64 × Hp) (hb : b_192_160   h = some r) : Rn d 192 160 [some (.int v0)] [] h (some (.long r.1), r.2) := by
  unfold b_192_160 at hb
  obtain ⟨e, rfl⟩ : ∃ e, d = e + 1 := ⟨d - 1, by omega⟩
  refine rn_bipush (x := (nI 98)) rfl (by decide) ?_
  refine rn_bipush (x := (nI 101)) rfl (by decide) ?_
  refine rn_bipush (x := (nI 100)) rfl (by decide) ?_
  refine rn_iconst (x := (nI 0)) rfl (by decide) ?_
  obtain ⟨p1, hc, hb⟩ := Option.bind_eq_some_iff.mp hb
  refine Rn.call1 (d := e) (As := [.int (nI 98), .int (nI 101), .int (nI 100), .int (nI 0)]) (rest := []) rfl rfl rfl (by decide) rfl rfl rfl rfl (by decide) (bd_lenC (n := 6) rfl (bd_slI (bd_slI (bd_slI (bd_slI bd_slN)))) rfl) (bd_locC (n := 6) rfl (bd_slI (bd_slI (bd_slI (bd_slI bd_slN)))) rfl (t_190 e (by omega) (nI 98) (nI 101) (nI 100) (nI 0) h _ hc)) ?_
  obtain rfl := Option.some.inj hb
  exact rn_lret rfl rfl
def b_192_171   (h : Hp) : Option (Int64 × Hp) :=
  (f_190 (nI 97) (nI 108) (nI 111) (nI 110) h).bind fun p1 =>
  (f_191 p1.1 (nI 103) (nI 0) (nI 0) p1.2).bind fun p2 =>
  some (p2.1, p2.2)
theorem u_192_171 (d : Nat) (hd : 1 ≤ d) (v0 : Int32)  (h : Hp) (r : Int64 × Hp) (hb : b_192_171   h = some r) : Rn d 192 171 [some (.int v0)] [] h (some (.long r.1), r.2) := by
  unfold b_192_171 at hb
  obtain ⟨e, rfl⟩ : ∃ e, d = e + 1 := ⟨d - 1, by omega⟩
  refine rn_bipush (x := (nI 97)) rfl (by decide) ?_
  refine rn_bipush (x := (nI 108)) rfl (by decide) ?_
  refine rn_bipush (x := (nI 111)) rfl (by decide) ?_
  refine rn_bipush (x := (nI 110)) rfl (by decide) ?_
  obtain ⟨p1, hc, hb⟩ := Option.bind_eq_some_iff.mp hb
  refine Rn.call1 (d := e) (As := [.int (nI 97), .int (nI 108), .int (nI 111), .int (nI 110)]) (rest := []) rfl rfl rfl (by decide) rfl rfl rfl rfl (by decide) (bd_lenC (n := 6) rfl (bd_slI (bd_slI (bd_slI (bd_slI bd_slN)))) rfl) (bd_locC (n := 6) rfl (bd_slI (bd_slI (bd_slI (bd_slI bd_slN)))) rfl (t_190 e (by omega) (nI 97) (nI 108) (nI 111) (nI 110) h _ hc)) ?_
  refine rn_bipush (x := (nI 103)) rfl (by decide) ?_
  refine rn_iconst (x := (nI 0)) rfl (by decide) ?_
  refine rn_iconst (x := (nI 0)) rfl (by decide) ?_
  obtain ⟨p2, hc, hb⟩ := Option.bind_eq_some_iff.mp hb
  refine Rn.call1 (d := e) (As := [.long p1.1, .int (nI 103), .int (nI 0), .int (nI 0)]) (rest := []) rfl rfl rfl (by decide) rfl rfl rfl rfl (by decide) (bd_lenC (n := 7) rfl (bd_slJ (bd_slI (bd_slI (bd_slI bd_slN)))) rfl) (bd_locC (n := 7) rfl (bd_slJ (bd_slI (bd_slI (bd_slI bd_slN)))) rfl (t_191 e (by omega) p1.1 (nI 103) (nI 0) (nI 0) p1.2 _ hc)) ?_
  obtain rfl := Option.some.inj hb
  exact rn_lret rfl rfl
def b_192_190   (h : Hp) : Option (Int64 × Hp) :=
  (f_190 (nI 97) (nI 99) (nI 114) (nI 111) h).bind fun p1 =>
  (f_191 p1.1 (nI 115) (nI 115) (nI 0) p1.2).bind fun p2 =>
  some (p2.1, p2.2)
theorem u_192_190 (d : Nat) (hd : 1 ≤ d) (v0 : Int32)  (h : Hp) (r : Int64 × Hp) (hb : b_192_190   h = some r) : Rn d 192 190 [some (.int v0)] [] h (some (.long r.1), r.2) := by
  unfold b_192_190 at hb
  obtain ⟨e, rfl⟩ : ∃ e, d = e + 1 := ⟨d - 1, by omega⟩
  refine rn_bipush (x := (nI 97)) rfl (by decide) ?_
  refine rn_bipush (x := (nI 99)) rfl (by decide) ?_
  refine rn_bipush (x := (nI 114)) rfl (by decide) ?_
  refine rn_bipush (x := (nI 111)) rfl (by decide) ?_
  obtain ⟨p1, hc, hb⟩ := Option.bind_eq_some_iff.mp hb
  refine Rn.call1 (d := e) (As := [.int (nI 97), .int (nI 99), .int (nI 114), .int (nI 111)]) (rest := []) rfl rfl rfl (by decide) rfl rfl rfl rfl (by decide) (bd_lenC (n := 6) rfl (bd_slI (bd_slI (bd_slI (bd_slI bd_slN)))) rfl) (bd_locC (n := 6) rfl (bd_slI (bd_slI (bd_slI (bd_slI bd_slN)))) rfl (t_190 e (by omega) (nI 97) (nI 99) (nI 114) (nI 111) h _ hc)) ?_
  refine rn_bipush (x := (nI 115)) rfl (by decide) ?_
  refine rn_bipush (x := (nI 115)) rfl (by decide) ?_
  refine rn_iconst (x := (nI 0)) rfl (by decide) ?_
  obtain ⟨p2, hc, hb⟩ := Option.bind_eq_some_iff.mp hb
  refine Rn.call1 (d := e) (As := [.long p1.1, .int (nI 115), .int (nI 115), .int (nI 0)]) (rest := []) rfl rfl rfl (by decide) rfl rfl rfl rfl (by decide) (bd_lenC (n := 7) rfl (bd_slJ (bd_slI (bd_slI (bd_slI bd_slN)))) rfl) (bd_locC (n := 7) rfl (bd_slJ (bd_slI (bd_slI (bd_slI bd_slN)))) rfl (t_191 e (by omega) p1.1 (nI 115) (nI 115) (nI 0) p1.2 _ hc)) ?_
  obtain rfl := Option.some.inj hb
  exact rn_lret rfl rfl
def b_192_210   (h : Hp) : Option (Int64 × Hp) :=
  (f_190 (nI 109) (nI 97) (nI 121) (nI 0) h).bind fun p1 =>
  some (p1.1, p1.2)
theorem u_192_210 (d : Nat) (hd : 1 ≤ d) (v0 : Int32)  (h : Hp) (r : Int64 × Hp) (hb : b_192_210   h = some r) : Rn d 192 210 [some (.int v0)] [] h (some (.long r.1), r.2) := by
  unfold b_192_210 at hb
  obtain ⟨e, rfl⟩ : ∃ e, d = e + 1 := ⟨d - 1, by omega⟩
  refine rn_bipush (x := (nI 109)) rfl (by decide) ?_
  refine rn_bipush (x := (nI 97)) rfl (by decide) ?_
  refine rn_bipush (x := (nI 121)) rfl (by decide) ?_
  refine rn_iconst (x := (nI 0)) rfl (by decide) ?_
  obtain ⟨p1, hc, hb⟩ := Option.bind_eq_some_iff.mp hb
  refine Rn.call1 (d := e) (As := [.int (nI 109), .int (nI 97), .int (nI 121), .int (nI 0)]) (rest := []) rfl rfl rfl (by decide) rfl rfl rfl rfl (by decide) (bd_lenC (n := 6) rfl (bd_slI (bd_slI (bd_slI (bd_slI bd_slN)))) rfl) (bd_locC (n := 6) rfl (bd_slI (bd_slI (bd_slI (bd_slI bd_slN)))) rfl (t_190 e (by omega) (nI 109) (nI 97) (nI 121) (nI 0) h _ hc)) ?_
  obtain rfl := Option.some.inj hb
  exact rn_lret rfl rfl
def b_192_221   (h : Hp) : Option (Int64 × Hp) :=
  (f_190 (nI 99) (nI 111) (nI 115) (nI 116) h).bind fun p1 =>
  (f_191 p1.1 (nI 115) (nI 0) (nI 0) p1.2).bind fun p2 =>
  some (p2.1, p2.2)
theorem u_192_221 (d : Nat) (hd : 1 ≤ d) (v0 : Int32)  (h : Hp) (r : Int64 × Hp) (hb : b_192_221   h = some r) : Rn d 192 221 [some (.int v0)] [] h (some (.long r.1), r.2) := by
  unfold b_192_221 at hb
  obtain ⟨e, rfl⟩ : ∃ e, d = e + 1 := ⟨d - 1, by omega⟩
  refine rn_bipush (x := (nI 99)) rfl (by decide) ?_
  refine rn_bipush (x := (nI 111)) rfl (by decide) ?_
  refine rn_bipush (x := (nI 115)) rfl (by decide) ?_
  refine rn_bipush (x := (nI 116)) rfl (by decide) ?_
  obtain ⟨p1, hc, hb⟩ := Option.bind_eq_some_iff.mp hb
  refine Rn.call1 (d := e) (As := [.int (nI 99), .int (nI 111), .int (nI 115), .int (nI 116)]) (rest := []) rfl rfl rfl (by decide) rfl rfl rfl rfl (by decide) (bd_lenC (n := 6) rfl (bd_slI (bd_slI (bd_slI (bd_slI bd_slN)))) rfl) (bd_locC (n := 6) rfl (bd_slI (bd_slI (bd_slI (bd_slI bd_slN)))) rfl (t_190 e (by omega) (nI 99) (nI 111) (nI 115) (nI 116) h _ hc)) ?_
  refine rn_bipush (x := (nI 115)) rfl (by decide) ?_
  refine rn_iconst (x := (nI 0)) rfl (by decide) ?_
  refine rn_iconst (x := (nI 0)) rfl (by decide) ?_
  obtain ⟨p2, hc, hb⟩ := Option.bind_eq_some_iff.mp hb
  refine Rn.call1 (d := e) (As := [.long p1.1, .int (nI 115), .int (nI 0), .int (nI 0)]) (rest := []) rfl rfl rfl (by decide) rfl rfl rfl rfl (by decide) (bd_lenC (n := 7) rfl (bd_slJ (bd_slI (bd_slI (bd_slI bd_slN)))) rfl) (bd_locC (n := 7) rfl (bd_slJ (bd_slI (bd_slI (bd_slI bd_slN)))) rfl (t_191 e (by omega) p1.1 (nI 115) (nI 0) (nI 0) p1.2 _ hc)) ?_
  obtain rfl := Option.some.inj hb
  exact rn_lret rfl rfl
def b_192_240   (h : Hp) : Option (Int64 × Hp) :=
  (f_190 (nI 119) (nI 104) (nI 111) (nI 108) h).bind fun p1 =>
  (f_191 p1.1 (nI 101) (nI 0) (nI 0) p1.2).bind fun p2 =>
  some (p2.1, p2.2)
theorem u_192_240 (d : Nat) (hd : 1 ≤ d) (v0 : Int32)  (h : Hp) (r : Int64 × Hp) (hb : b_192_240   h = some r) : Rn d 192 240 [some (.int v0)] [] h (some (.long r.1), r.2) := by
  unfold b_192_240 at hb
  obtain ⟨e, rfl⟩ : ∃ e, d = e + 1 := ⟨d - 1, by omega⟩
  refine rn_bipush (x := (nI 119)) rfl (by decide) ?_
  refine rn_bipush (x := (nI 104)) rfl (by decide) ?_
  refine rn_bipush (x := (nI 111)) rfl (by decide) ?_
  refine rn_bipush (x := (nI 108)) rfl (by decide) ?_
  obtain ⟨p1, hc, hb⟩ := Option.bind_eq_some_iff.mp hb
  refine Rn.call1 (d := e) (As := [.int (nI 119), .int (nI 104), .int (nI 111), .int (nI 108)]) (rest := []) rfl rfl rfl (by decide) rfl rfl rfl rfl (by decide) (bd_lenC (n := 6) rfl (bd_slI (bd_slI (bd_slI (bd_slI bd_slN)))) rfl) (bd_locC (n := 6) rfl (bd_slI (bd_slI (bd_slI (bd_slI bd_slN)))) rfl (t_190 e (by omega) (nI 119) (nI 104) (nI 111) (nI 108) h _ hc)) ?_
  refine rn_bipush (x := (nI 101)) rfl (by decide) ?_
  refine rn_iconst (x := (nI 0)) rfl (by decide) ?_
  refine rn_iconst (x := (nI 0)) rfl (by decide) ?_
  obtain ⟨p2, hc, hb⟩ := Option.bind_eq_some_iff.mp hb
  refine Rn.call1 (d := e) (As := [.long p1.1, .int (nI 101), .int (nI 0), .int (nI 0)]) (rest := []) rfl rfl rfl (by decide) rfl rfl rfl rfl (by decide) (bd_lenC (n := 7) rfl (bd_slJ (bd_slI (bd_slI (bd_slI bd_slN)))) rfl) (bd_locC (n := 7) rfl (bd_slJ (bd_slI (bd_slI (bd_slI bd_slN)))) rfl (t_191 e (by omega) p1.1 (nI 101) (nI 0) (nI 0) p1.2 _ hc)) ?_
  obtain rfl := Option.some.inj hb
  exact rn_lret rfl rfl
def b_192_259   (h : Hp) : Option (Int64 × Hp) :=
  (f_190 (nI 103) (nI 111) (nI 0) (nI 0) h).bind fun p1 =>
  some (p1.1, p1.2)
theorem u_192_259 (d : Nat) (hd : 1 ≤ d) (v0 : Int32)  (h : Hp) (r : Int64 × Hp) (hb : b_192_259   h = some r) : Rn d 192 259 [some (.int v0)] [] h (some (.long r.1), r.2) := by
  unfold b_192_259 at hb
  obtain ⟨e, rfl⟩ : ∃ e, d = e + 1 := ⟨d - 1, by omega⟩
  refine rn_bipush (x := (nI 103)) rfl (by decide) ?_
  refine rn_bipush (x := (nI 111)) rfl (by decide) ?_
  refine rn_iconst (x := (nI 0)) rfl (by decide) ?_
  refine rn_iconst (x := (nI 0)) rfl (by decide) ?_
  obtain ⟨p1, hc, hb⟩ := Option.bind_eq_some_iff.mp hb
  refine Rn.call1 (d := e) (As := [.int (nI 103), .int (nI 111), .int (nI 0), .int (nI 0)]) (rest := []) rfl rfl rfl (by decide) rfl rfl rfl rfl (by decide) (bd_lenC (n := 6) rfl (bd_slI (bd_slI (bd_slI (bd_slI bd_slN)))) rfl) (bd_locC (n := 6) rfl (bd_slI (bd_slI (bd_slI (bd_slI bd_slN)))) rfl (t_190 e (by omega) (nI 103) (nI 111) (nI 0) (nI 0) h _ hc)) ?_
  obtain rfl := Option.some.inj hb
  exact rn_lret rfl rfl
def b_192_269   (h : Hp) : Option (Int64 × Hp) :=
  (f_190 (nI 111) (nI 112) (nI 101) (nI 110) h).bind fun p1 =>
  some (p1.1, p1.2)
theorem u_192_269 (d : Nat) (hd : 1 ≤ d) (v0 : Int32)  (h : Hp) (r : Int64 × Hp) (hb : b_192_269   h = some r) : Rn d 192 269 [some (.int v0)] [] h (some (.long r.1), r.2) := by
  unfold b_192_269 at hb
  obtain ⟨e, rfl⟩ : ∃ e, d = e + 1 := ⟨d - 1, by omega⟩
  refine rn_bipush (x := (nI 111)) rfl (by decide) ?_
  refine rn_bipush (x := (nI 112)) rfl (by decide) ?_
  refine rn_bipush (x := (nI 101)) rfl (by decide) ?_
  refine rn_bipush (x := (nI 110)) rfl (by decide) ?_
  obtain ⟨p1, hc, hb⟩ := Option.bind_eq_some_iff.mp hb
  refine Rn.call1 (d := e) (As := [.int (nI 111), .int (nI 112), .int (nI 101), .int (nI 110)]) (rest := []) rfl rfl rfl (by decide) rfl rfl rfl rfl (by decide) (bd_lenC (n := 6) rfl (bd_slI (bd_slI (bd_slI (bd_slI bd_slN)))) rfl) (bd_locC (n := 6) rfl (bd_slI (bd_slI (bd_slI (bd_slI bd_slN)))) rfl (t_190 e (by omega) (nI 111) (nI 112) (nI 101) (nI 110) h _ hc)) ?_
  obtain rfl := Option.some.inj hb
  exact rn_lret rfl rfl
def b_192_281   (h : Hp) : Option (Int64 × Hp) :=
  (f_190 (nI 115) (nI 104) (nI 117) (nI 116) h).bind fun p1 =>
  some (p1.1, p1.2)
theorem u_192_281 (d : Nat) (hd : 1 ≤ d) (v0 : Int32)  (h : Hp) (r : Int64 × Hp) (hb : b_192_281   h = some r) : Rn d 192 281 [some (.int v0)] [] h (some (.long r.1), r.2) := by
  unfold b_192_281 at hb
  obtain ⟨e, rfl⟩ : ∃ e, d = e + 1 := ⟨d - 1, by omega⟩
  refine rn_bipush (x := (nI 115)) rfl (by decide) ?_
  refine rn_bipush (x := (nI 104)) rfl (by decide) ?_
  refine rn_bipush (x := (nI 117)) rfl (by decide) ?_
  refine rn_bipush (x := (nI 116)) rfl (by decide) ?_
  obtain ⟨p1, hc, hb⟩ := Option.bind_eq_some_iff.mp hb
  refine Rn.call1 (d := e) (As := [.int (nI 115), .int (nI 104), .int (nI 117), .int (nI 116)]) (rest := []) rfl rfl rfl (by decide) rfl rfl rfl rfl (by decide) (bd_lenC (n := 6) rfl (bd_slI (bd_slI (bd_slI (bd_slI bd_slN)))) rfl) (bd_locC (n := 6) rfl (bd_slI (bd_slI (bd_slI (bd_slI bd_slN)))) rfl (t_190 e (by omega) (nI 115) (nI 104) (nI 117) (nI 116) h _ hc)) ?_
  obtain rfl := Option.some.inj hb
  exact rn_lret rfl rfl
def b_192_293   (h : Hp) : Option (Int64 × Hp) :=
  (f_190 (nI 119) (nI 97) (nI 105) (nI 116) h).bind fun p1 =>
  some (p1.1, p1.2)
theorem u_192_293 (d : Nat) (hd : 1 ≤ d) (v0 : Int32)  (h : Hp) (r : Int64 × Hp) (hb : b_192_293   h = some r) : Rn d 192 293 [some (.int v0)] [] h (some (.long r.1), r.2) := by
  unfold b_192_293 at hb
  obtain ⟨e, rfl⟩ : ∃ e, d = e + 1 := ⟨d - 1, by omega⟩
  refine rn_bipush (x := (nI 119)) rfl (by decide) ?_
  refine rn_bipush (x := (nI 97)) rfl (by decide) ?_
  refine rn_bipush (x := (nI 105)) rfl (by decide) ?_
  refine rn_bipush (x := (nI 116)) rfl (by decide) ?_
  obtain ⟨p1, hc, hb⟩ := Option.bind_eq_some_iff.mp hb
  refine Rn.call1 (d := e) (As := [.int (nI 119), .int (nI 97), .int (nI 105), .int (nI 116)]) (rest := []) rfl rfl rfl (by decide) rfl rfl rfl rfl (by decide) (bd_lenC (n := 6) rfl (bd_slI (bd_slI (bd_slI (bd_slI bd_slN)))) rfl) (bd_locC (n := 6) rfl (bd_slI (bd_slI (bd_slI (bd_slI bd_slN)))) rfl (t_190 e (by omega) (nI 119) (nI 97) (nI 105) (nI 116) h _ hc)) ?_
  obtain rfl := Option.some.inj hb
  exact rn_lret rfl rfl
def b_192_305   (h : Hp) : Option (Int64 × Hp) :=
  (f_190 (nI 110) (nI 111) (nI 114) (nI 116) h).bind fun p1 =>
  (f_191 p1.1 (nI 104) (nI 0) (nI 0) p1.2).bind fun p2 =>
  some (p2.1, p2.2)
theorem u_192_305 (d : Nat) (hd : 1 ≤ d) (v0 : Int32)  (h : Hp) (r : Int64 × Hp) (hb : b_192_305   h = some r) : Rn d 192 305 [some (.int v0)] [] h (some (.long r.1), r.2) := by
  unfold b_192_305 at hb
  obtain ⟨e, rfl⟩ : ∃ e, d = e + 1 := ⟨d - 1, by omega⟩
  refine rn_bipush (x := (nI 110)) rfl (by decide) ?_
  refine rn_bipush (x := (nI 111)) rfl (by decide) ?_
  refine rn_bipush (x := (nI 114)) rfl (by decide) ?_
  refine rn_bipush (x := (nI 116)) rfl (by decide) ?_
  obtain ⟨p1, hc, hb⟩ := Option.bind_eq_some_iff.mp hb
  refine Rn.call1 (d := e) (As := [.int (nI 110), .int (nI 111), .int (nI 114), .int (nI 116)]) (rest := []) rfl rfl rfl (by decide) rfl rfl rfl rfl (by decide) (bd_lenC (n := 6) rfl (bd_slI (bd_slI (bd_slI (bd_slI bd_slN)))) rfl) (bd_locC (n := 6) rfl (bd_slI (bd_slI (bd_slI (bd_slI bd_slN)))) rfl (t_190 e (by omega) (nI 110) (nI 111) (nI 114) (nI 116) h _ hc)) ?_
  refine rn_bipush (x := (nI 104)) rfl (by decide) ?_
  refine rn_iconst (x := (nI 0)) rfl (by decide) ?_
  refine rn_iconst (x := (nI 0)) rfl (by decide) ?_
  obtain ⟨p2, hc, hb⟩ := Option.bind_eq_some_iff.mp hb
  refine Rn.call1 (d := e) (As := [.long p1.1, .int (nI 104), .int (nI 0), .int (nI 0)]) (rest := []) rfl rfl rfl (by decide) rfl rfl rfl rfl (by decide) (bd_lenC (n := 7) rfl (bd_slJ (bd_slI (bd_slI (bd_slI bd_slN)))) rfl) (bd_locC (n := 7) rfl (bd_slJ (bd_slI (bd_slI (bd_slI bd_slN)))) rfl (t_191 e (by omega) p1.1 (nI 104) (nI 0) (nI 0) p1.2 _ hc)) ?_
  obtain rfl := Option.some.inj hb
  exact rn_lret rfl rfl
def b_192_324   (h : Hp) : Option (Int64 × Hp) :=
  (f_190 (nI 101) (nI 97) (nI 115) (nI 116) h).bind fun p1 =>
  some (p1.1, p1.2)
theorem u_192_324 (d : Nat) (hd : 1 ≤ d) (v0 : Int32)  (h : Hp) (r : Int64 × Hp) (hb : b_192_324   h = some r) : Rn d 192 324 [some (.int v0)] [] h (some (.long r.1), r.2) := by
  unfold b_192_324 at hb
  obtain ⟨e, rfl⟩ : ∃ e, d = e + 1 := ⟨d - 1, by omega⟩
  refine rn_bipush (x := (nI 101)) rfl (by decide) ?_
  refine rn_bipush (x := (nI 97)) rfl (by decide) ?_
  refine rn_bipush (x := (nI 115)) rfl (by decide) ?_
  refine rn_bipush (x := (nI 116)) rfl (by decide) ?_
  obtain ⟨p1, hc, hb⟩ := Option.bind_eq_some_iff.mp hb
  refine Rn.call1 (d := e) (As := [.int (nI 101), .int (nI 97), .int (nI 115), .int (nI 116)]) (rest := []) rfl rfl rfl (by decide) rfl rfl rfl rfl (by decide) (bd_lenC (n := 6) rfl (bd_slI (bd_slI (bd_slI (bd_slI bd_slN)))) rfl) (bd_locC (n := 6) rfl (bd_slI (bd_slI (bd_slI (bd_slI bd_slN)))) rfl (t_190 e (by omega) (nI 101) (nI 97) (nI 115) (nI 116) h _ hc)) ?_
  obtain rfl := Option.some.inj hb
  exact rn_lret rfl rfl
def b_192_336   (h : Hp) : Option (Int64 × Hp) :=
  (f_190 (nI 115) (nI 111) (nI 117) (nI 116) h).bind fun p1 =>
  (f_191 p1.1 (nI 104) (nI 0) (nI 0) p1.2).bind fun p2 =>
  some (p2.1, p2.2)
theorem u_192_336 (d : Nat) (hd : 1 ≤ d) (v0 : Int32)  (h : Hp) (r : Int64 × Hp) (hb : b_192_336   h = some r) : Rn d 192 336 [some (.int v0)] [] h (some (.long r.1), r.2) := by
  unfold b_192_336 at hb
  obtain ⟨e, rfl⟩ : ∃ e, d = e + 1 := ⟨d - 1, by omega⟩
  refine rn_bipush (x := (nI 115)) rfl (by decide) ?_
  refine rn_bipush (x := (nI 111)) rfl (by decide) ?_
  refine rn_bipush (x := (nI 117)) rfl (by decide) ?_
  refine rn_bipush (x := (nI 116)) rfl (by decide) ?_
  obtain ⟨p1, hc, hb⟩ := Option.bind_eq_some_iff.mp hb
  refine Rn.call1 (d := e) (As := [.int (nI 115), .int (nI 111), .int (nI 117), .int (nI 116)]) (rest := []) rfl rfl rfl (by decide) rfl rfl rfl rfl (by decide) (bd_lenC (n := 6) rfl (bd_slI (bd_slI (bd_slI (bd_slI bd_slN)))) rfl) (bd_locC (n := 6) rfl (bd_slI (bd_slI (bd_slI (bd_slI bd_slN)))) rfl (t_190 e (by omega) (nI 115) (nI 111) (nI 117) (nI 116) h _ hc)) ?_
  refine rn_bipush (x := (nI 104)) rfl (by decide) ?_
  refine rn_iconst (x := (nI 0)) rfl (by decide) ?_
  refine rn_iconst (x := (nI 0)) rfl (by decide) ?_
  obtain ⟨p2, hc, hb⟩ := Option.bind_eq_some_iff.mp hb
  refine Rn.call1 (d := e) (As := [.long p1.1, .int (nI 104), .int (nI 0), .int (nI 0)]) (rest := []) rfl rfl rfl (by decide) rfl rfl rfl rfl (by decide) (bd_lenC (n := 7) rfl (bd_slJ (bd_slI (bd_slI (bd_slI bd_slN)))) rfl) (bd_locC (n := 7) rfl (bd_slJ (bd_slI (bd_slI (bd_slI bd_slN)))) rfl (t_191 e (by omega) p1.1 (nI 104) (nI 0) (nI 0) p1.2 _ hc)) ?_
  obtain rfl := Option.some.inj hb
  exact rn_lret rfl rfl
def b_192_355   (h : Hp) : Option (Int64 × Hp) :=
  (f_190 (nI 119) (nI 101) (nI 115) (nI 116) h).bind fun p1 =>
  some (p1.1, p1.2)
theorem u_192_355 (d : Nat) (hd : 1 ≤ d) (v0 : Int32)  (h : Hp) (r : Int64 × Hp) (hb : b_192_355   h = some r) : Rn d 192 355 [some (.int v0)] [] h (some (.long r.1), r.2) := by
  unfold b_192_355 at hb
  obtain ⟨e, rfl⟩ : ∃ e, d = e + 1 := ⟨d - 1, by omega⟩
  refine rn_bipush (x := (nI 119)) rfl (by decide) ?_
  refine rn_bipush (x := (nI 101)) rfl (by decide) ?_
  refine rn_bipush (x := (nI 115)) rfl (by decide) ?_
  refine rn_bipush (x := (nI 116)) rfl (by decide) ?_
  obtain ⟨p1, hc, hb⟩ := Option.bind_eq_some_iff.mp hb
  refine Rn.call1 (d := e) (As := [.int (nI 119), .int (nI 101), .int (nI 115), .int (nI 116)]) (rest := []) rfl rfl rfl (by decide) rfl rfl rfl rfl (by decide) (bd_lenC (n := 6) rfl (bd_slI (bd_slI (bd_slI (bd_slI bd_slN)))) rfl) (bd_locC (n := 6) rfl (bd_slI (bd_slI (bd_slI (bd_slI bd_slN)))) rfl (t_190 e (by omega) (nI 119) (nI 101) (nI 115) (nI 116) h _ hc)) ?_
  obtain rfl := Option.some.inj hb
  exact rn_lret rfl rfl
def b_192_367   (h : Hp) : Option (Int64 × Hp) :=
  (f_190 (nI 111) (nI 114) (nI 0) (nI 0) h).bind fun p1 =>
  some (p1.1, p1.2)
theorem u_192_367 (d : Nat) (hd : 1 ≤ d) (v0 : Int32)  (h : Hp) (r : Int64 × Hp) (hb : b_192_367   h = some r) : Rn d 192 367 [some (.int v0)] [] h (some (.long r.1), r.2) := by
  unfold b_192_367 at hb
  obtain ⟨e, rfl⟩ : ∃ e, d = e + 1 := ⟨d - 1, by omega⟩
  refine rn_bipush (x := (nI 111)) rfl (by decide) ?_
  refine rn_bipush (x := (nI 114)) rfl (by decide) ?_
  refine rn_iconst (x := (nI 0)) rfl (by decide) ?_
  refine rn_iconst (x := (nI 0)) rfl (by decide) ?_
  obtain ⟨p1, hc, hb⟩ := Option.bind_eq_some_iff.mp hb
  refine Rn.call1 (d := e) (As := [.int (nI 111), .int (nI 114), .int (nI 0), .int (nI 0)]) (rest := []) rfl rfl rfl (by decide) rfl rfl rfl rfl (by decide) (bd_lenC (n := 6) rfl (bd_slI (bd_slI (bd_slI (bd_slI bd_slN)))) rfl) (bd_locC (n := 6) rfl (bd_slI (bd_slI (bd_slI (bd_slI bd_slN)))) rfl (t_190 e (by omega) (nI 111) (nI 114) (nI 0) (nI 0) h _ hc)) ?_
  obtain rfl := Option.some.inj hb
  exact rn_lret rfl rfl
def b_192_377   (h : Hp) : Option (Int64 × Hp) :=
  (f_190 (nI 97) (nI 110) (nI 100) (nI 0) h).bind fun p1 =>
  some (p1.1, p1.2)
theorem u_192_377 (d : Nat) (hd : 1 ≤ d) (v0 : Int32)  (h : Hp) (r : Int64 × Hp) (hb : b_192_377   h = some r) : Rn d 192 377 [some (.int v0)] [] h (some (.long r.1), r.2) := by
  unfold b_192_377 at hb
  obtain ⟨e, rfl⟩ : ∃ e, d = e + 1 := ⟨d - 1, by omega⟩
  refine rn_bipush (x := (nI 97)) rfl (by decide) ?_
  refine rn_bipush (x := (nI 110)) rfl (by decide) ?_
  refine rn_bipush (x := (nI 100)) rfl (by decide) ?_
  refine rn_iconst (x := (nI 0)) rfl (by decide) ?_
  obtain ⟨p1, hc, hb⟩ := Option.bind_eq_some_iff.mp hb
  refine Rn.call1 (d := e) (As := [.int (nI 97), .int (nI 110), .int (nI 100), .int (nI 0)]) (rest := []) rfl rfl rfl (by decide) rfl rfl rfl rfl (by decide) (bd_lenC (n := 6) rfl (bd_slI (bd_slI (bd_slI (bd_slI bd_slN)))) rfl) (bd_locC (n := 6) rfl (bd_slI (bd_slI (bd_slI (bd_slI bd_slN)))) rfl (t_190 e (by omega) (nI 97) (nI 110) (nI 100) (nI 0) h _ hc)) ?_
  obtain rfl := Option.some.inj hb
  exact rn_lret rfl rfl
def b_192_388   (h : Hp) : Option (Int64 × Hp) :=
  (f_190 (nI 110) (nI 111) (nI 116) (nI 0) h).bind fun p1 =>
  some (p1.1, p1.2)
theorem u_192_388 (d : Nat) (hd : 1 ≤ d) (v0 : Int32)  (h : Hp) (r : Int64 × Hp) (hb : b_192_388   h = some r) : Rn d 192 388 [some (.int v0)] [] h (some (.long r.1), r.2) := by
  unfold b_192_388 at hb
  obtain ⟨e, rfl⟩ : ∃ e, d = e + 1 := ⟨d - 1, by omega⟩
  refine rn_bipush (x := (nI 110)) rfl (by decide) ?_
  refine rn_bipush (x := (nI 111)) rfl (by decide) ?_
  refine rn_bipush (x := (nI 116)) rfl (by decide) ?_
  refine rn_iconst (x := (nI 0)) rfl (by decide) ?_
  obtain ⟨p1, hc, hb⟩ := Option.bind_eq_some_iff.mp hb
  refine Rn.call1 (d := e) (As := [.int (nI 110), .int (nI 111), .int (nI 116), .int (nI 0)]) (rest := []) rfl rfl rfl (by decide) rfl rfl rfl rfl (by decide) (bd_lenC (n := 6) rfl (bd_slI (bd_slI (bd_slI (bd_slI bd_slN)))) rfl) (bd_locC (n := 6) rfl (bd_slI (bd_slI (bd_slI (bd_slI bd_slN)))) rfl (t_190 e (by omega) (nI 110) (nI 111) (nI 116) (nI 0) h _ hc)) ?_
  obtain rfl := Option.some.inj hb
  exact rn_lret rfl rfl
def b_192_399   (h : Hp) : Option (Int64 × Hp) :=
  (f_190 (nI 102) (nI 105) (nI 116) (nI 0) h).bind fun p1 =>
  some (p1.1, p1.2)
theorem u_192_399 (d : Nat) (hd : 1 ≤ d) (v0 : Int32)  (h : Hp) (r : Int64 × Hp) (hb : b_192_399   h = some r) : Rn d 192 399 [some (.int v0)] [] h (some (.long r.1), r.2) := by
  unfold b_192_399 at hb
  obtain ⟨e, rfl⟩ : ∃ e, d = e + 1 := ⟨d - 1, by omega⟩
  refine rn_bipush (x := (nI 102)) rfl (by decide) ?_
  refine rn_bipush (x := (nI 105)) rfl (by decide) ?_
  refine rn_bipush (x := (nI 116)) rfl (by decide) ?_
  refine rn_iconst (x := (nI 0)) rfl (by decide) ?_
  obtain ⟨p1, hc, hb⟩ := Option.bind_eq_some_iff.mp hb
  refine Rn.call1 (d := e) (As := [.int (nI 102), .int (nI 105), .int (nI 116), .int (nI 0)]) (rest := []) rfl rfl rfl (by decide) rfl rfl rfl rfl (by decide) (bd_lenC (n := 6) rfl (bd_slI (bd_slI (bd_slI (bd_slI bd_slN)))) rfl) (bd_locC (n := 6) rfl (bd_slI (bd_slI (bd_slI (bd_slI bd_slN)))) rfl (t_190 e (by omega) (nI 102) (nI 105) (nI 116) (nI 0) h _ hc)) ?_
  obtain rfl := Option.some.inj hb
  exact rn_lret rfl rfl
def b_192_410   (h : Hp) : Option (Int64 × Hp) :=
  (f_190 (nI 97) (nI 116) (nI 0) (nI 0) h).bind fun p1 =>
  some (p1.1, p1.2)
theorem u_192_410 (d : Nat) (hd : 1 ≤ d) (v0 : Int32)  (h : Hp) (r : Int64 × Hp) (hb : b_192_410   h = some r) : Rn d 192 410 [some (.int v0)] [] h (some (.long r.1), r.2) := by
  unfold b_192_410 at hb
  obtain ⟨e, rfl⟩ : ∃ e, d = e + 1 := ⟨d - 1, by omega⟩
  refine rn_bipush (x := (nI 97)) rfl (by decide) ?_
  refine rn_bipush (x := (nI 116)) rfl (by decide) ?_
  refine rn_iconst (x := (nI 0)) rfl (by decide) ?_
  refine rn_iconst (x := (nI 0)) rfl (by decide) ?_
  obtain ⟨p1, hc, hb⟩ := Option.bind_eq_some_iff.mp hb
  refine Rn.call1 (d := e) (As := [.int (nI 97), .int (nI 116), .int (nI 0), .int (nI 0)]) (rest := []) rfl rfl rfl (by decide) rfl rfl rfl rfl (by decide) (bd_lenC (n := 6) rfl (bd_slI (bd_slI (bd_slI (bd_slI bd_slN)))) rfl) (bd_locC (n := 6) rfl (bd_slI (bd_slI (bd_slI (bd_slI bd_slN)))) rfl (t_190 e (by omega) (nI 97) (nI 116) (nI 0) (nI 0) h _ hc)) ?_
  obtain rfl := Option.some.inj hb
  exact rn_lret rfl rfl
def b_192_420   (h : Hp) : Option (Int64 × Hp) :=
  (f_190 (nI 98) (nI 105) (nI 116) (nI 101) h).bind fun p1 =>
  (f_191 p1.1 (nI 115) (nI 0) (nI 0) p1.2).bind fun p2 =>
  some (p2.1, p2.2)
theorem u_192_420 (d : Nat) (hd : 1 ≤ d) (v0 : Int32)  (h : Hp) (r : Int64 × Hp) (hb : b_192_420   h = some r) : Rn d 192 420 [some (.int v0)] [] h (some (.long r.1), r.2) := by
  unfold b_192_420 at hb
  obtain ⟨e, rfl⟩ : ∃ e, d = e + 1 := ⟨d - 1, by omega⟩
  refine rn_bipush (x := (nI 98)) rfl (by decide) ?_
  refine rn_bipush (x := (nI 105)) rfl (by decide) ?_
  refine rn_bipush (x := (nI 116)) rfl (by decide) ?_
  refine rn_bipush (x := (nI 101)) rfl (by decide) ?_
  obtain ⟨p1, hc, hb⟩ := Option.bind_eq_some_iff.mp hb
  refine Rn.call1 (d := e) (As := [.int (nI 98), .int (nI 105), .int (nI 116), .int (nI 101)]) (rest := []) rfl rfl rfl (by decide) rfl rfl rfl rfl (by decide) (bd_lenC (n := 6) rfl (bd_slI (bd_slI (bd_slI (bd_slI bd_slN)))) rfl) (bd_locC (n := 6) rfl (bd_slI (bd_slI (bd_slI (bd_slI bd_slN)))) rfl (t_190 e (by omega) (nI 98) (nI 105) (nI 116) (nI 101) h _ hc)) ?_
  refine rn_bipush (x := (nI 115)) rfl (by decide) ?_
  refine rn_iconst (x := (nI 0)) rfl (by decide) ?_
  refine rn_iconst (x := (nI 0)) rfl (by decide) ?_
  obtain ⟨p2, hc, hb⟩ := Option.bind_eq_some_iff.mp hb
  refine Rn.call1 (d := e) (As := [.long p1.1, .int (nI 115), .int (nI 0), .int (nI 0)]) (rest := []) rfl rfl rfl (by decide) rfl rfl rfl rfl (by decide) (bd_lenC (n := 7) rfl (bd_slJ (bd_slI (bd_slI (bd_slI bd_slN)))) rfl) (bd_locC (n := 7) rfl (bd_slJ (bd_slI (bd_slI (bd_slI bd_slN)))) rfl (t_191 e (by omega) p1.1 (nI 115) (nI 0) (nI 0) p1.2 _ hc)) ?_
  obtain rfl := Option.some.inj hb
  exact rn_lret rfl rfl
def b_192_439   (h : Hp) : Option (Int64 × Hp) :=
  (f_190 (nI 97) (nI 110) (nI 103) (nI 108) h).bind fun p1 =>
  (f_191 p1.1 (nI 101) (nI 0) (nI 0) p1.2).bind fun p2 =>
  some (p2.1, p2.2)
theorem u_192_439 (d : Nat) (hd : 1 ≤ d) (v0 : Int32)  (h : Hp) (r : Int64 × Hp) (hb : b_192_439   h = some r) : Rn d 192 439 [some (.int v0)] [] h (some (.long r.1), r.2) := by
  unfold b_192_439 at hb
  obtain ⟨e, rfl⟩ : ∃ e, d = e + 1 := ⟨d - 1, by omega⟩
  refine rn_bipush (x := (nI 97)) rfl (by decide) ?_
  refine rn_bipush (x := (nI 110)) rfl (by decide) ?_
  refine rn_bipush (x := (nI 103)) rfl (by decide) ?_
  refine rn_bipush (x := (nI 108)) rfl (by decide) ?_
  obtain ⟨p1, hc, hb⟩ := Option.bind_eq_some_iff.mp hb
  refine Rn.call1 (d := e) (As := [.int (nI 97), .int (nI 110), .int (nI 103), .int (nI 108)]) (rest := []) rfl rfl rfl (by decide) rfl rfl rfl rfl (by decide) (bd_lenC (n := 6) rfl (bd_slI (bd_slI (bd_slI (bd_slI bd_slN)))) rfl) (bd_locC (n := 6) rfl (bd_slI (bd_slI (bd_slI (bd_slI bd_slN)))) rfl (t_190 e (by omega) (nI 97) (nI 110) (nI 103) (nI 108) h _ hc)) ?_
  refine rn_bipush (x := (nI 101)) rfl (by decide) ?_
  refine rn_iconst (x := (nI 0)) rfl (by decide) ?_
  refine rn_iconst (x := (nI 0)) rfl (by decide) ?_
  obtain ⟨p2, hc, hb⟩ := Option.bind_eq_some_iff.mp hb
  refine Rn.call1 (d := e) (As := [.long p1.1, .int (nI 101), .int (nI 0), .int (nI 0)]) (rest := []) rfl rfl rfl (by decide) rfl rfl rfl rfl (by decide) (bd_lenC (n := 7) rfl (bd_slJ (bd_slI (bd_slI (bd_slI bd_slN)))) rfl) (bd_locC (n := 7) rfl (bd_slJ (bd_slI (bd_slI (bd_slI bd_slN)))) rfl (t_191 e (by omega) p1.1 (nI 101) (nI 0) (nI 0) p1.2 _ hc)) ?_
  obtain rfl := Option.some.inj hb
  exact rn_lret rfl rfl
def b_192_458   (h : Hp) : Option (Int64 × Hp) :=
  (f_190 (nI 108) (nI 101) (nI 110) (nI 103) h).bind fun p1 =>
  (f_191 p1.1 (nI 116) (nI 104) (nI 0) p1.2).bind fun p2 =>
  some (p2.1, p2.2)
theorem u_192_458 (d : Nat) (hd : 1 ≤ d) (v0 : Int32)  (h : Hp) (r : Int64 × Hp) (hb : b_192_458   h = some r) : Rn d 192 458 [some (.int v0)] [] h (some (.long r.1), r.2) := by
  unfold b_192_458 at hb
  obtain ⟨e, rfl⟩ : ∃ e, d = e + 1 := ⟨d - 1, by omega⟩
  refine rn_bipush (x := (nI 108)) rfl (by decide) ?_
  refine rn_bipush (x := (nI 101)) rfl (by decide) ?_
  refine rn_bipush (x := (nI 110)) rfl (by decide) ?_
  refine rn_bipush (x := (nI 103)) rfl (by decide) ?_
  obtain ⟨p1, hc, hb⟩ := Option.bind_eq_some_iff.mp hb
  refine Rn.call1 (d := e) (As := [.int (nI 108), .int (nI 101), .int (nI 110), .int (nI 103)]) (rest := []) rfl rfl rfl (by decide) rfl rfl rfl rfl (by decide) (bd_lenC (n := 6) rfl (bd_slI (bd_slI (bd_slI (bd_slI bd_slN)))) rfl) (bd_locC (n := 6) rfl (bd_slI (bd_slI (bd_slI (bd_slI bd_slN)))) rfl (t_190 e (by omega) (nI 108) (nI 101) (nI 110) (nI 103) h _ hc)) ?_
  refine rn_bipush (x := (nI 116)) rfl (by decide) ?_
  refine rn_bipush (x := (nI 104)) rfl (by decide) ?_
  refine rn_iconst (x := (nI 0)) rfl (by decide) ?_
  obtain ⟨p2, hc, hb⟩ := Option.bind_eq_some_iff.mp hb
  refine Rn.call1 (d := e) (As := [.long p1.1, .int (nI 116), .int (nI 104), .int (nI 0)]) (rest := []) rfl rfl rfl (by decide) rfl rfl rfl rfl (by decide) (bd_lenC (n := 7) rfl (bd_slJ (bd_slI (bd_slI (bd_slI bd_slN)))) rfl) (bd_locC (n := 7) rfl (bd_slJ (bd_slI (bd_slI (bd_slI bd_slN)))) rfl (t_191 e (by omega) p1.1 (nI 116) (nI 104) (nI 0) p1.2 _ hc)) ?_
  obtain rfl := Option.some.inj hb
  exact rn_lret rfl rfl
def b_192_478   (h : Hp) : Option (Int64 × Hp) :=
  (f_190 (nI 115) (nI 119) (nI 101) (nI 101) h).bind fun p1 =>
  (f_191 p1.1 (nI 112) (nI 115) (nI 0) p1.2).bind fun p2 =>
  some (p2.1, p2.2)
theorem u_192_478 (d : Nat) (hd : 1 ≤ d) (v0 : Int32)  (h : Hp) (r : Int64 × Hp) (hb : b_192_478   h = some r) : Rn d 192 478 [some (.int v0)] [] h (some (.long r.1), r.2) := by
  unfold b_192_478 at hb
  obtain ⟨e, rfl⟩ : ∃ e, d = e + 1 := ⟨d - 1, by omega⟩
  refine rn_bipush (x := (nI 115)) rfl (by decide) ?_
  refine rn_bipush (x := (nI 119)) rfl (by decide) ?_
  refine rn_bipush (x := (nI 101)) rfl (by decide) ?_
  refine rn_bipush (x := (nI 101)) rfl (by decide) ?_
  obtain ⟨p1, hc, hb⟩ := Option.bind_eq_some_iff.mp hb
  refine Rn.call1 (d := e) (As := [.int (nI 115), .int (nI 119), .int (nI 101), .int (nI 101)]) (rest := []) rfl rfl rfl (by decide) rfl rfl rfl rfl (by decide) (bd_lenC (n := 6) rfl (bd_slI (bd_slI (bd_slI (bd_slI bd_slN)))) rfl) (bd_locC (n := 6) rfl (bd_slI (bd_slI (bd_slI (bd_slI bd_slN)))) rfl (t_190 e (by omega) (nI 115) (nI 119) (nI 101) (nI 101) h _ hc)) ?_
  refine rn_bipush (x := (nI 112)) rfl (by decide) ?_
  refine rn_bipush (x := (nI 115)) rfl (by decide) ?_
  refine rn_iconst (x := (nI 0)) rfl (by decide) ?_
  obtain ⟨p2, hc, hb⟩ := Option.bind_eq_some_iff.mp hb
  refine Rn.call1 (d := e) (As := [.long p1.1, .int (nI 112), .int (nI 115), .int (nI 0)]) (rest := []) rfl rfl rfl (by decide) rfl rfl rfl rfl (by decide) (bd_lenC (n := 7) rfl (bd_slJ (bd_slI (bd_slI (bd_slI bd_slN)))) rfl) (bd_locC (n := 7) rfl (bd_slJ (bd_slI (bd_slI (bd_slI bd_slN)))) rfl (t_191 e (by omega) p1.1 (nI 112) (nI 115) (nI 0) p1.2 _ hc)) ?_
  obtain rfl := Option.some.inj hb
  exact rn_lret rfl rfl
def b_192_0 (v0 : Int32)  (h : Hp) : Option (Int64 × Hp) :=
  if v0 = nI 0 then b_192_116   h else if v0 = nI 1 then b_192_127   h else if v0 = nI 2 then b_192_139   h else if v0 = nI 3 then b_192_160   h else if v0 = nI 4 then b_192_171   h else if v0 = nI 5 then b_192_190   h else if v0 = nI 6 then b_192_210   h else if v0 = nI 7 then b_192_221   h else if v0 = nI 8 then b_192_240   h else if v0 = nI 9 then b_192_259   h else if v0 = nI 10 then b_192_269   h else if v0 = nI 11 then b_192_281   h else if v0 = nI 12 then b_192_293   h else if v0 = nI 13 then b_192_305   h else if v0 = nI 14 then b_192_324   h else if v0 = nI 15 then b_192_336   h else if v0 = nI 16 then b_192_355   h else if v0 = nI 17 then b_192_367   h else if v0 = nI 18 then b_192_377   h else if v0 = nI 19 then b_192_388   h else if v0 = nI 20 then b_192_399   h else if v0 = nI 21 then b_192_410   h else if v0 = nI 22 then b_192_420   h else if v0 = nI 23 then b_192_439   h else if v0 = nI 24 then b_192_458   h else b_192_478   h
theorem u_192_0 (d : Nat) (hd : 1 ≤ d) (v0 : Int32)  (h : Hp) (r : Int64 × Hp) (hb : b_192_0 v0  h = some r) : Rn d 192 0 [some (.int v0)] [] h (some (.long r.1), r.2) := by
  unfold b_192_0 at hb
  refine rn_iload_n (i := 0) rfl rfl ?_
  by_cases hc0 : v0 = nI 0
  · rw [if_pos hc0] at hb; refine rn_tsw (t := 116) rfl (by rw [hc0]; decide) ?_; exact u_192_116 d hd v0  h _ hb
  rw [if_neg hc0] at hb
  by_cases hc1 : v0 = nI 1
  · rw [if_pos hc1] at hb; refine rn_tsw (t := 127) rfl (by rw [hc1]; decide) ?_; exact u_192_127 d hd v0  h _ hb
  rw [if_neg hc1] at hb
  by_cases hc2 : v0 = nI 2
  · rw [if_pos hc2] at hb; refine rn_tsw (t := 139) rfl (by rw [hc2]; decide) ?_; exact u_192_139 d hd v0  h _ hb
  rw [if_neg hc2] at hb
  by_cases hc3 : v0 = nI 3
  · rw [if_pos hc3] at hb; refine rn_tsw (t := 160) rfl (by rw [hc3]; decide) ?_; exact u_192_160 d hd v0  h _ hb
  rw [if_neg hc3] at hb
  by_cases hc4 : v0 = nI 4
  · rw [if_pos hc4] at hb; refine rn_tsw (t := 171) rfl (by rw [hc4]; decide) ?_; exact u_192_171 d hd v0  h _ hb
  rw [if_neg hc4] at hb
  by_cases hc5 : v0 = nI 5
  · rw [if_pos hc5] at hb; refine rn_tsw (t := 190) rfl (by rw [hc5]; decide) ?_; exact u_192_190 d hd v0  h _ hb
  rw [if_neg hc5] at hb
  by_cases hc6 : v0 = nI 6
  · rw [if_pos hc6] at hb; refine rn_tsw (t := 210) rfl (by rw [hc6]; decide) ?_; exact u_192_210 d hd v0  h _ hb
  rw [if_neg hc6] at hb
  by_cases hc7 : v0 = nI 7
  · rw [if_pos hc7] at hb; refine rn_tsw (t := 221) rfl (by rw [hc7]; decide) ?_; exact u_192_221 d hd v0  h _ hb
  rw [if_neg hc7] at hb
  by_cases hc8 : v0 = nI 8
  · rw [if_pos hc8] at hb; refine rn_tsw (t := 240) rfl (by rw [hc8]; decide) ?_; exact u_192_240 d hd v0  h _ hb
  rw [if_neg hc8] at hb
  by_cases hc9 : v0 = nI 9
  · rw [if_pos hc9] at hb; refine rn_tsw (t := 259) rfl (by rw [hc9]; decide) ?_; exact u_192_259 d hd v0  h _ hb
  rw [if_neg hc9] at hb
  by_cases hc10 : v0 = nI 10
  · rw [if_pos hc10] at hb; refine rn_tsw (t := 269) rfl (by rw [hc10]; decide) ?_; exact u_192_269 d hd v0  h _ hb
  rw [if_neg hc10] at hb
  by_cases hc11 : v0 = nI 11
  · rw [if_pos hc11] at hb; refine rn_tsw (t := 281) rfl (by rw [hc11]; decide) ?_; exact u_192_281 d hd v0  h _ hb
  rw [if_neg hc11] at hb
  by_cases hc12 : v0 = nI 12
  · rw [if_pos hc12] at hb; refine rn_tsw (t := 293) rfl (by rw [hc12]; decide) ?_; exact u_192_293 d hd v0  h _ hb
  rw [if_neg hc12] at hb
  by_cases hc13 : v0 = nI 13
  · rw [if_pos hc13] at hb; refine rn_tsw (t := 305) rfl (by rw [hc13]; decide) ?_; exact u_192_305 d hd v0  h _ hb
  rw [if_neg hc13] at hb
  by_cases hc14 : v0 = nI 14
  · rw [if_pos hc14] at hb; refine rn_tsw (t := 324) rfl (by rw [hc14]; decide) ?_; exact u_192_324 d hd v0  h _ hb
  rw [if_neg hc14] at hb
  by_cases hc15 : v0 = nI 15
  · rw [if_pos hc15] at hb; refine rn_tsw (t := 336) rfl (by rw [hc15]; decide) ?_; exact u_192_336 d hd v0  h _ hb
  rw [if_neg hc15] at hb
  by_cases hc16 : v0 = nI 16
  · rw [if_pos hc16] at hb; refine rn_tsw (t := 355) rfl (by rw [hc16]; decide) ?_; exact u_192_355 d hd v0  h _ hb
  rw [if_neg hc16] at hb
  by_cases hc17 : v0 = nI 17
  · rw [if_pos hc17] at hb; refine rn_tsw (t := 367) rfl (by rw [hc17]; decide) ?_; exact u_192_367 d hd v0  h _ hb
  rw [if_neg hc17] at hb
  by_cases hc18 : v0 = nI 18
  · rw [if_pos hc18] at hb; refine rn_tsw (t := 377) rfl (by rw [hc18]; decide) ?_; exact u_192_377 d hd v0  h _ hb
  rw [if_neg hc18] at hb
  by_cases hc19 : v0 = nI 19
  · rw [if_pos hc19] at hb; refine rn_tsw (t := 388) rfl (by rw [hc19]; decide) ?_; exact u_192_388 d hd v0  h _ hb
  rw [if_neg hc19] at hb
  by_cases hc20 : v0 = nI 20
  · rw [if_pos hc20] at hb; refine rn_tsw (t := 399) rfl (by rw [hc20]; decide) ?_; exact u_192_399 d hd v0  h _ hb
  rw [if_neg hc20] at hb
  by_cases hc21 : v0 = nI 21
  · rw [if_pos hc21] at hb; refine rn_tsw (t := 410) rfl (by rw [hc21]; decide) ?_; exact u_192_410 d hd v0  h _ hb
  rw [if_neg hc21] at hb
  by_cases hc22 : v0 = nI 22
  · rw [if_pos hc22] at hb; refine rn_tsw (t := 420) rfl (by rw [hc22]; decide) ?_; exact u_192_420 d hd v0  h _ hb
  rw [if_neg hc22] at hb
  by_cases hc23 : v0 = nI 23
  · rw [if_pos hc23] at hb; refine rn_tsw (t := 439) rfl (by rw [hc23]; decide) ?_; exact u_192_439 d hd v0  h _ hb
  rw [if_neg hc23] at hb
  by_cases hc24 : v0 = nI 24
  · rw [if_pos hc24] at hb; refine rn_tsw (t := 458) rfl (by rw [hc24]; decide) ?_; exact u_192_458 d hd v0  h _ hb
  rw [if_neg hc24] at hb
  have z0 := sw_ne hc0 (by decide)
  have z1 := sw_ne hc1 (by decide)
  have z2 := sw_ne hc2 (by decide)
  have z3 := sw_ne hc3 (by decide)
  have z4 := sw_ne hc4 (by decide)
  have z5 := sw_ne hc5 (by decide)
  have z6 := sw_ne hc6 (by decide)
  have z7 := sw_ne hc7 (by decide)
  have z8 := sw_ne hc8 (by decide)
  have z9 := sw_ne hc9 (by decide)
  have z10 := sw_ne hc10 (by decide)
  have z11 := sw_ne hc11 (by decide)
  have z12 := sw_ne hc12 (by decide)
  have z13 := sw_ne hc13 (by decide)
  have z14 := sw_ne hc14 (by decide)
  have z15 := sw_ne hc15 (by decide)
  have z16 := sw_ne hc16 (by decide)
  have z17 := sw_ne hc17 (by decide)
  have z18 := sw_ne hc18 (by decide)
  have z19 := sw_ne hc19 (by decide)
  have z20 := sw_ne hc20 (by decide)
  have z21 := sw_ne hc21 (by decide)
  have z22 := sw_ne hc22 (by decide)
  have z23 := sw_ne hc23 (by decide)
  have z24 := sw_ne hc24 (by decide)
  refine rn_tsw (t := 478) rfl (swT_d (by omega) rfl) ?_
  exact u_192_478 d hd v0  h _ hb
/-- BitingDoorsModel.wordOf(I)J -/
def f_192 (v0 : Int32) (h : Hp) : Option (Int64 × Hp) := b_192_0 v0 h
theorem t_192 (d : Nat) (hd : 1 ≤ d) (v0 : Int32) (h : Hp) (r : Int64 × Hp) (hb : f_192 v0 h = some r) : Rn d 192 0 [some (.int v0)] [] h (some (.long r.1), r.2) := by
  unfold f_192 at hb
  exact u_192_0 d hd v0 h r hb
def b_193_25  (s0 : Int32) (h : Hp) : Option (Int32 × Hp) :=
  (grd (decide (s0 = 0 ∨ s0 = 1))).bind fun _ => some (s0, h)
theorem u_193_25 (d : Nat) (hd : 2 ≤ d) (v0 : Option Nat) (v1 : Int32) (s0 : Int32) (h : Hp) (r : Int32 × Hp) (hb : b_193_25  s0 h = some r) : Rn d 193 25 [some (va_rf v0), some (.int v1)] [.int s0] h (some (.int r.1), r.2) := by
  unfold b_193_25 at hb
  obtain ⟨hz, hb⟩ := grd_spec hb
  obtain rfl := Option.some.inj hb
  exact rn_zret rfl rfl (of_decide_eq_true hz)
def b_193_24   (h : Hp) : Option (Int32 × Hp) :=
  b_193_25  (nI 0) h
theorem u_193_24 (d : Nat) (hd : 2 ≤ d) (v0 : Option Nat) (v1 : Int32)  (h : Hp) (r : Int32 × Hp) (hb : b_193_24   h = some r) : Rn d 193 24 [some (va_rf v0), some (.int v1)] [] h (some (.int r.1), r.2) := by
  unfold b_193_24 at hb
  refine rn_iconst (x := (nI 0)) rfl (by decide) ?_
  exact u_193_25 d hd v0 v1 (nI 0) h _ hb
def b_193_20   (h : Hp) : Option (Int32 × Hp) :=
  b_193_25  (nI 1) h
theorem u_193_20 (d : Nat) (hd : 2 ≤ d) (v0 : Option Nat) (v1 : Int32)  (h : Hp) (r : Int32 × Hp) (hb : b_193_20   h = some r) : Rn d 193 20 [some (va_rf v0), some (.int v1)] [] h (some (.int r.1), r.2) := by
  unfold b_193_20 at hb
  refine rn_iconst (x := (nI 1)) rfl (by decide) ?_
  refine rn_goto rfl rfl ?_
  exact u_193_25 d hd v0 v1 (nI 1) h _ hb
def b_193_8 (v0 : Option Nat) (v1 : Int32)  (h : Hp) : Option (Int32 × Hp) :=
  (gJ 11 12 v0 h).bind fun x1 =>
  (f_192 v1 h).bind fun p2 =>
  if ¬ (lg_cmp x1 p2.1) = 0 then b_193_24   p2.2 else b_193_20   p2.2
theorem u_193_8 (d : Nat) (hd : 2 ≤ d) (v0 : Option Nat) (v1 : Int32)  (h : Hp) (r : Int32 × Hp) (hb : b_193_8 v0 v1  h = some r) : Rn d 193 8 [some (va_rf v0), some (.int v1)] [] h (some (.int r.1), r.2) := by
  unfold b_193_8 at hb
  obtain ⟨e, rfl⟩ : ∃ e, d = e + 1 := ⟨d - 1, by omega⟩
  refine rn_aload_n (i := 0) rfl rfl ?_
  refine rn_gJ (c := 11) (k := 12) rfl (by decide) hb (fun x1 hb => ?_)
  refine rn_iload_n (i := 1) rfl rfl ?_
  obtain ⟨p2, hc, hb⟩ := Option.bind_eq_some_iff.mp hb
  refine Rn.call1 (d := e) (As := [.int v1]) (rest := [.long x1]) rfl rfl rfl (by decide) rfl rfl rfl rfl (by rw [bd_cJ (bd_cN)]; decide) (bd_lenC (n := 1) rfl (bd_slI bd_slN) rfl) (bd_locC (n := 1) rfl (bd_slI bd_slN) rfl (t_192 e (by omega) v1 h _ hc)) ?_
  refine rn_lcmp rfl ?_
  refine rn_if_ne rfl rfl (fun hc => ?_) (fun hc => ?_)
  · exact u_193_24 (e + 1) hd v0 v1  p2.2 _ (if_t hb hc)
  · exact u_193_20 (e + 1) hd v0 v1  p2.2 _ (if_f hb hc)
def b_193_0 (v0 : Option Nat) (v1 : Int32)  (h : Hp) : Option (Int32 × Hp) :=
  (gI 11 7 v0 h).bind fun x1 =>
  if ¬ x1 = (nI 2) then b_193_24   h else b_193_8 v0 v1  h
theorem u_193_0 (d : Nat) (hd : 2 ≤ d) (v0 : Option Nat) (v1 : Int32)  (h : Hp) (r : Int32 × Hp) (hb : b_193_0 v0 v1  h = some r) : Rn d 193 0 [some (va_rf v0), some (.int v1)] [] h (some (.int r.1), r.2) := by
  unfold b_193_0 at hb
  refine rn_aload_n (i := 0) rfl rfl ?_
  refine rn_gI (c := 11) (k := 7) rfl (by decide) hb (fun x1 hb => ?_)
  refine rn_iconst (x := (nI 2)) rfl (by decide) ?_
  refine rn_icmp_ne rfl rfl (fun hc => ?_) (fun hc => ?_)
  · exact u_193_24 d hd v0 v1  h _ (if_t hb hc)
  · exact u_193_8 d hd v0 v1  h _ (if_f hb hc)
/-- BitingDoorsModel.isWord(I)Z -/
def f_193 (v0 : Option Nat) (v1 : Int32) (h : Hp) : Option (Int32 × Hp) := b_193_0 v0 v1 h
theorem t_193 (d : Nat) (hd : 2 ≤ d) (v0 : Option Nat) (v1 : Int32) (h : Hp) (r : Int32 × Hp) (hb : f_193 v0 v1 h = some r) : Rn d 193 0 [some (va_rf v0), some (.int v1)] [] h (some (.int r.1), r.2) := by
  unfold f_193 at hb
  exact u_193_0 d hd v0 v1 h r hb
def b_194_21  (s0 : Int32) (h : Hp) : Option (Int32 × Hp) :=
  (grd (decide (s0 = 0 ∨ s0 = 1))).bind fun _ => some (s0, h)
theorem u_194_21 (d : Nat) (hd : 0 ≤ d) (v0 : Option Nat) (v1 : Int32) (s0 : Int32) (h : Hp) (r : Int32 × Hp) (hb : b_194_21  s0 h = some r) : Rn d 194 21 [some (va_rf v0), some (.int v1)] [.int s0] h (some (.int r.1), r.2) := by
  unfold b_194_21 at hb
  obtain ⟨hz, hb⟩ := grd_spec hb
  obtain rfl := Option.some.inj hb
  exact rn_zret rfl rfl (of_decide_eq_true hz)
def b_194_20   (h : Hp) : Option (Int32 × Hp) :=
  b_194_21  (nI 0) h
theorem u_194_20 (d : Nat) (hd : 0 ≤ d) (v0 : Option Nat) (v1 : Int32)  (h : Hp) (r : Int32 × Hp) (hb : b_194_20   h = some r) : Rn d 194 20 [some (va_rf v0), some (.int v1)] [] h (some (.int r.1), r.2) := by
  unfold b_194_20 at hb
  refine rn_iconst (x := (nI 0)) rfl (by decide) ?_
  exact u_194_21 d hd v0 v1 (nI 0) h _ hb
def b_194_16   (h : Hp) : Option (Int32 × Hp) :=
  b_194_21  (nI 1) h
theorem u_194_16 (d : Nat) (hd : 0 ≤ d) (v0 : Option Nat) (v1 : Int32)  (h : Hp) (r : Int32 × Hp) (hb : b_194_16   h = some r) : Rn d 194 16 [some (va_rf v0), some (.int v1)] [] h (some (.int r.1), r.2) := by
  unfold b_194_16 at hb
  refine rn_iconst (x := (nI 1)) rfl (by decide) ?_
  refine rn_goto rfl rfl ?_
  exact u_194_21 d hd v0 v1 (nI 1) h _ hb
def b_194_8 (v0 : Option Nat) (v1 : Int32)  (h : Hp) : Option (Int32 × Hp) :=
  (gI 11 9 v0 h).bind fun x1 =>
  if ¬ x1 = v1 then b_194_20   h else b_194_16   h
theorem u_194_8 (d : Nat) (hd : 0 ≤ d) (v0 : Option Nat) (v1 : Int32)  (h : Hp) (r : Int32 × Hp) (hb : b_194_8 v0 v1  h = some r) : Rn d 194 8 [some (va_rf v0), some (.int v1)] [] h (some (.int r.1), r.2) := by
  unfold b_194_8 at hb
  refine rn_aload_n (i := 0) rfl rfl ?_
  refine rn_gI (c := 11) (k := 9) rfl (by decide) hb (fun x1 hb => ?_)
  refine rn_iload_n (i := 1) rfl rfl ?_
  refine rn_icmp_ne rfl rfl (fun hc => ?_) (fun hc => ?_)
  · exact u_194_20 d hd v0 v1  h _ (if_t hb hc)
  · exact u_194_16 d hd v0 v1  h _ (if_f hb hc)
def b_194_0 (v0 : Option Nat) (v1 : Int32)  (h : Hp) : Option (Int32 × Hp) :=
  (gI 11 7 v0 h).bind fun x1 =>
  if ¬ x1 = (nI 4) then b_194_20   h else b_194_8 v0 v1  h
theorem u_194_0 (d : Nat) (hd : 0 ≤ d) (v0 : Option Nat) (v1 : Int32)  (h : Hp) (r : Int32 × Hp) (hb : b_194_0 v0 v1  h = some r) : Rn d 194 0 [some (va_rf v0), some (.int v1)] [] h (some (.int r.1), r.2) := by
  unfold b_194_0 at hb
  refine rn_aload_n (i := 0) rfl rfl ?_
  refine rn_gI (c := 11) (k := 7) rfl (by decide) hb (fun x1 hb => ?_)
  refine rn_iconst (x := (nI 4)) rfl (by decide) ?_
  refine rn_icmp_ne rfl rfl (fun hc => ?_) (fun hc => ?_)
  · exact u_194_20 d hd v0 v1  h _ (if_t hb hc)
  · exact u_194_8 d hd v0 v1  h _ (if_f hb hc)
/-- BitingDoorsModel.isSign(I)Z -/
def f_194 (v0 : Option Nat) (v1 : Int32) (h : Hp) : Option (Int32 × Hp) := b_194_0 v0 v1 h
theorem t_194 (d : Nat) (hd : 0 ≤ d) (v0 : Option Nat) (v1 : Int32) (h : Hp) (r : Int32 × Hp) (hb : f_194 v0 v1 h = some r) : Rn d 194 0 [some (va_rf v0), some (.int v1)] [] h (some (.int r.1), r.2) := by
  unfold f_194 at hb
  exact u_194_0 d hd v0 v1 h r hb
def b_195_23  (s0 : Int32) (h : Hp) : Option (Int32 × Hp) :=
  (grd (decide (s0 = 0 ∨ s0 = 1))).bind fun _ => some (s0, h)
theorem u_195_23 (d : Nat) (hd : 0 ≤ d) (v0 : Int32) (s0 : Int32) (h : Hp) (r : Int32 × Hp) (hb : b_195_23  s0 h = some r) : Rn d 195 23 [some (.int v0)] [.int s0] h (some (.int r.1), r.2) := by
  unfold b_195_23 at hb
  obtain ⟨hz, hb⟩ := grd_spec hb
  obtain rfl := Option.some.inj hb
  exact rn_zret rfl rfl (of_decide_eq_true hz)
def b_195_18   (h : Hp) : Option (Int32 × Hp) :=
  b_195_23  (nI 1) h
theorem u_195_18 (d : Nat) (hd : 0 ≤ d) (v0 : Int32)  (h : Hp) (r : Int32 × Hp) (hb : b_195_18   h = some r) : Rn d 195 18 [some (.int v0)] [] h (some (.int r.1), r.2) := by
  unfold b_195_18 at hb
  refine rn_iconst (x := (nI 1)) rfl (by decide) ?_
  refine rn_goto rfl rfl ?_
  exact u_195_23 d hd v0 (nI 1) h _ hb
def b_195_22   (h : Hp) : Option (Int32 × Hp) :=
  b_195_23  (nI 0) h
theorem u_195_22 (d : Nat) (hd : 0 ≤ d) (v0 : Int32)  (h : Hp) (r : Int32 × Hp) (hb : b_195_22   h = some r) : Rn d 195 22 [some (.int v0)] [] h (some (.int r.1), r.2) := by
  unfold b_195_22 at hb
  refine rn_iconst (x := (nI 0)) rfl (by decide) ?_
  exact u_195_23 d hd v0 (nI 0) h _ hb
def b_195_12 (v0 : Int32)  (h : Hp) : Option (Int32 × Hp) :=
  if ¬ v0 = (nI 116) then b_195_22   h else b_195_18   h
theorem u_195_12 (d : Nat) (hd : 0 ≤ d) (v0 : Int32)  (h : Hp) (r : Int32 × Hp) (hb : b_195_12 v0  h = some r) : Rn d 195 12 [some (.int v0)] [] h (some (.int r.1), r.2) := by
  unfold b_195_12 at hb
  refine rn_iload_n (i := 0) rfl rfl ?_
  refine rn_bipush (x := (nI 116)) rfl (by decide) ?_
  refine rn_icmp_ne rfl rfl (fun hc => ?_) (fun hc => ?_)
  · exact u_195_22 d hd v0  h _ (if_t hb hc)
  · exact u_195_18 d hd v0  h _ (if_f hb hc)
def b_195_6 (v0 : Int32)  (h : Hp) : Option (Int32 × Hp) :=
  if v0 = (nI 102) then b_195_18   h else b_195_12 v0  h
theorem u_195_6 (d : Nat) (hd : 0 ≤ d) (v0 : Int32)  (h : Hp) (r : Int32 × Hp) (hb : b_195_6 v0  h = some r) : Rn d 195 6 [some (.int v0)] [] h (some (.int r.1), r.2) := by
  unfold b_195_6 at hb
  refine rn_iload_n (i := 0) rfl rfl ?_
  refine rn_bipush (x := (nI 102)) rfl (by decide) ?_
  refine rn_icmp_eq rfl rfl (fun hc => ?_) (fun hc => ?_)
  · exact u_195_18 d hd v0  h _ (if_t hb hc)
  · exact u_195_12 d hd v0  h _ (if_f hb hc)
def b_195_0 (v0 : Int32)  (h : Hp) : Option (Int32 × Hp) :=
  if v0 = (nI 119) then b_195_18   h else b_195_6 v0  h
theorem u_195_0 (d : Nat) (hd : 0 ≤ d) (v0 : Int32)  (h : Hp) (r : Int32 × Hp) (hb : b_195_0 v0  h = some r) : Rn d 195 0 [some (.int v0)] [] h (some (.int r.1), r.2) := by
  unfold b_195_0 at hb
  refine rn_iload_n (i := 0) rfl rfl ?_
  refine rn_bipush (x := (nI 119)) rfl (by decide) ?_
  refine rn_icmp_eq rfl rfl (fun hc => ?_) (fun hc => ?_)
  · exact u_195_18 d hd v0  h _ (if_t hb hc)
  · exact u_195_6 d hd v0  h _ (if_f hb hc)
/-- BitingDoorsModel.isCellLetter(I)Z -/
def f_195 (v0 : Int32) (h : Hp) : Option (Int32 × Hp) := b_195_0 v0 h
theorem t_195 (d : Nat) (hd : 0 ≤ d) (v0 : Int32) (h : Hp) (r : Int32 × Hp) (hb : f_195 v0 h = some r) : Rn d 195 0 [some (.int v0)] [] h (some (.int r.1), r.2) := by
  unfold f_195 at hb
  exact u_195_0 d hd v0 h r hb
def b_196_33   (h : Hp) : Option (Int32 × Hp) :=
  (grd (decide ((nI 1) = 0 ∨ (nI 1) = 1))).bind fun _ => some ((nI 1), h)
theorem u_196_33 (d : Nat) (hd : 1 ≤ d) (v0 : Option Nat) (v1 : Int32)  (h : Hp) (r : Int32 × Hp) (hb : b_196_33   h = some r) : Rn d 196 33 [some (va_rf v0), some (.int v1)] [] h (some (.int r.1), r.2) := by
  unfold b_196_33 at hb
  refine rn_iconst (x := (nI 1)) rfl (by decide) ?_
  obtain ⟨hz, hb⟩ := grd_spec hb
  obtain rfl := Option.some.inj hb
  exact rn_zret rfl rfl (of_decide_eq_true hz)
def b_196_27 (k5 : Option Nat → Int32 → Hp → Option (Int32 × Hp)) (v0 : Option Nat) (v1 : Int32)  (h : Hp) : Option (Int32 × Hp) :=
  bnd (v1 + (nI 1)) fun x1 =>
  k5 v0 x1 h
theorem u_196_27 (d : Nat) (hd : 1 ≤ d) (k5 : Option Nat → Int32 → Hp → Option (Int32 × Hp)) (K5 : ∀ (v0 : Option Nat) (v1 : Int32) (h : Hp) (r : Int32 × Hp), k5 v0 v1 h = some r → Rn d 196 5 [some (va_rf v0), some (.int v1)] [] h (some (.int r.1), r.2)) (v0 : Option Nat) (v1 : Int32)  (h : Hp) (r : Int32 × Hp) (hb : b_196_27 k5 v0 v1  h = some r) : Rn d 196 27 [some (va_rf v0), some (.int v1)] [] h (some (.int r.1), r.2) := by
  unfold b_196_27 at hb
  obtain ⟨x1, ex1, hb⟩ := bnd_spec hb
  refine rn_iinc (i := 1) (y := x1) (L1 := [some (va_rf v0), some (.int x1)]) rfl rfl (Nat.le_of_ble_eq_true rfl) (Or.inr (bd_wideR rfl)) (by rw [ex1]; rfl) rfl ?_
  refine rn_goto rfl rfl ?_
  exact K5 v0 x1 h _ hb
def b_196_25   (h : Hp) : Option (Int32 × Hp) :=
  (grd (decide ((nI 0) = 0 ∨ (nI 0) = 1))).bind fun _ => some ((nI 0), h)
theorem u_196_25 (d : Nat) (hd : 1 ≤ d) (v0 : Option Nat) (v1 : Int32)  (h : Hp) (r : Int32 × Hp) (hb : b_196_25   h = some r) : Rn d 196 25 [some (va_rf v0), some (.int v1)] [] h (some (.int r.1), r.2) := by
  unfold b_196_25 at hb
  refine rn_iconst (x := (nI 0)) rfl (by decide) ?_
  obtain ⟨hz, hb⟩ := grd_spec hb
  obtain rfl := Option.some.inj hb
  exact rn_zret rfl rfl (of_decide_eq_true hz)
def b_196_13 (k5 : Option Nat → Int32 → Hp → Option (Int32 × Hp)) (v0 : Option Nat) (v1 : Int32)  (h : Hp) : Option (Int32 × Hp) :=
  (gQ 11 1 v0 h).bind fun x1 =>
  (aI 12 x1 v1 h).bind fun x2 =>
  (f_195 x2 h).bind fun p3 =>
  if ¬ p3.1 = 0 then b_196_27 k5 v0 v1  p3.2 else b_196_25   p3.2
theorem u_196_13 (d : Nat) (hd : 1 ≤ d) (k5 : Option Nat → Int32 → Hp → Option (Int32 × Hp)) (K5 : ∀ (v0 : Option Nat) (v1 : Int32) (h : Hp) (r : Int32 × Hp), k5 v0 v1 h = some r → Rn d 196 5 [some (va_rf v0), some (.int v1)] [] h (some (.int r.1), r.2)) (v0 : Option Nat) (v1 : Int32)  (h : Hp) (r : Int32 × Hp) (hb : b_196_13 k5 v0 v1  h = some r) : Rn d 196 13 [some (va_rf v0), some (.int v1)] [] h (some (.int r.1), r.2) := by
  unfold b_196_13 at hb
  obtain ⟨e, rfl⟩ : ∃ e, d = e + 1 := ⟨d - 1, by omega⟩
  refine rn_aload_n (i := 0) rfl rfl ?_
  refine rn_gQ (c := 11) (k := 1) rfl (by decide) hb (fun x1 hb => ?_)
  refine rn_iload_n (i := 1) rfl rfl ?_
  refine rn_aI rfl hb (fun x2 hb => ?_)
  obtain ⟨p3, hc, hb⟩ := Option.bind_eq_some_iff.mp hb
  refine Rn.call1 (d := e) (As := [.int x2]) (rest := []) rfl rfl rfl (by decide) rfl rfl rfl rfl (by decide) (bd_lenC (n := 1) rfl (bd_slI bd_slN) rfl) (bd_locC (n := 1) rfl (bd_slI bd_slN) rfl (t_195 e (by omega) x2 h _ hc)) ?_
  refine rn_if_ne rfl rfl (fun hc => ?_) (fun hc => ?_)
  · exact u_196_27 (e + 1) hd k5 K5 v0 v1  p3.2 _ (if_t hb hc)
  · exact u_196_25 (e + 1) hd v0 v1  p3.2 _ (if_f hb hc)
def b_196_5 (k5 : Option Nat → Int32 → Hp → Option (Int32 × Hp)) (v0 : Option Nat) (v1 : Int32)  (h : Hp) : Option (Int32 × Hp) :=
  (gI 11 5 v0 h).bind fun x1 =>
  if x1 ≤ v1 then b_196_33   h else b_196_13 k5 v0 v1  h
theorem u_196_5 (d : Nat) (hd : 1 ≤ d) (k5 : Option Nat → Int32 → Hp → Option (Int32 × Hp)) (K5 : ∀ (v0 : Option Nat) (v1 : Int32) (h : Hp) (r : Int32 × Hp), k5 v0 v1 h = some r → Rn d 196 5 [some (va_rf v0), some (.int v1)] [] h (some (.int r.1), r.2)) (v0 : Option Nat) (v1 : Int32)  (h : Hp) (r : Int32 × Hp) (hb : b_196_5 k5 v0 v1  h = some r) : Rn d 196 5 [some (va_rf v0), some (.int v1)] [] h (some (.int r.1), r.2) := by
  unfold b_196_5 at hb
  refine rn_iload_n (i := 1) rfl rfl ?_
  refine rn_aload_n (i := 0) rfl rfl ?_
  refine rn_gI (c := 11) (k := 5) rfl (by decide) hb (fun x1 hb => ?_)
  refine rn_icmp_ge rfl rfl (fun hc => ?_) (fun hc => ?_)
  · exact u_196_33 d hd v0 v1  h _ (if_t hb hc)
  · exact u_196_13 d hd k5 K5 v0 v1  h _ (if_f hb hc)
def l_196_5 : Nat → Option Nat → Int32 → Hp → Option (Int32 × Hp)
  | 0, _, _, _ => none
  | n + 1, v0, v1, h => b_196_5 (l_196_5 n) v0 v1 h
theorem w_196_5 (d : Nat) (hd : 1 ≤ d) : ∀ (n : Nat) (v0 : Option Nat) (v1 : Int32) (h : Hp) (r : Int32 × Hp), l_196_5 n v0 v1 h = some r → Rn d 196 5 [some (va_rf v0), some (.int v1)] [] h (some (.int r.1), r.2) := by
  intro n
  induction n with
  | zero => intro v0 v1 h r hb; cases hb
  | succ n ih => intro v0 v1 h r hb; exact u_196_5 d hd (l_196_5 n) ih v0 v1 h r hb
def b_196_0 (v0 : Option Nat)  (h : Hp) : Option (Int32 × Hp) :=
  (gI 11 6 v0 h).bind fun x1 =>
  l_196_5 FU v0 x1 h
theorem u_196_0 (d : Nat) (hd : 1 ≤ d) (v0 : Option Nat)  (h : Hp) (r : Int32 × Hp) (hb : b_196_0 v0  h = some r) : Rn d 196 0 [some (va_rf v0), none] [] h (some (.int r.1), r.2) := by
  unfold b_196_0 at hb
  refine rn_aload_n (i := 0) rfl rfl ?_
  refine rn_gI (c := 11) (k := 6) rfl (by decide) hb (fun x1 hb => ?_)
  refine rn_istore_n (i := 1) (L1 := [some (va_rf v0), some (.int x1)]) rfl (Nat.le_of_ble_eq_true rfl) (Or.inr (bd_wideR rfl)) rfl ?_
  exact w_196_5 d hd FU v0 x1 h _ hb
/-- BitingDoorsModel.isCells()Z -/
def f_196 (v0 : Option Nat) (h : Hp) : Option (Int32 × Hp) := b_196_0 v0 h
theorem t_196 (d : Nat) (hd : 1 ≤ d) (v0 : Option Nat) (h : Hp) (r : Int32 × Hp) (hb : f_196 v0 h = some r) : Rn d 196 0 [some (va_rf v0), none] [] h (some (.int r.1), r.2) := by
  unfold f_196 at hb
  exact u_196_0 d hd v0 h r hb
def b_197_15   (h : Hp) : Option (Int32 × Hp) :=
  (grd (decide ((nI 0) = 0 ∨ (nI 0) = 1))).bind fun _ => some ((nI 0), h)
theorem u_197_15 (d : Nat) (hd : 2 ≤ d) (v0 : Option Nat)  (h : Hp) (r : Int32 × Hp) (hb : b_197_15   h = some r) : Rn d 197 15 [some (va_rf v0), none] [] h (some (.int r.1), r.2) := by
  unfold b_197_15 at hb
  refine rn_iconst (x := (nI 0)) rfl (by decide) ?_
  obtain ⟨hz, hb⟩ := grd_spec hb
  obtain rfl := Option.some.inj hb
  exact rn_zret rfl rfl (of_decide_eq_true hz)
def b_197_45   (h : Hp) : Option (Int32 × Hp) :=
  (grd (decide ((nI 1) = 0 ∨ (nI 1) = 1))).bind fun _ => some ((nI 1), h)
theorem u_197_45 (d : Nat) (hd : 2 ≤ d) (v0 : Option Nat) (v1 : Int32)  (h : Hp) (r : Int32 × Hp) (hb : b_197_45   h = some r) : Rn d 197 45 [some (va_rf v0), some (.int v1)] [] h (some (.int r.1), r.2) := by
  unfold b_197_45 at hb
  refine rn_iconst (x := (nI 1)) rfl (by decide) ?_
  obtain ⟨hz, hb⟩ := grd_spec hb
  obtain rfl := Option.some.inj hb
  exact rn_zret rfl rfl (of_decide_eq_true hz)
def b_197_39 (k19 : Option Nat → Int32 → Hp → Option (Int32 × Hp)) (v0 : Option Nat) (v1 : Int32)  (h : Hp) : Option (Int32 × Hp) :=
  bnd (v1 + (nI 1)) fun x1 =>
  k19 v0 x1 h
theorem u_197_39 (d : Nat) (hd : 2 ≤ d) (k19 : Option Nat → Int32 → Hp → Option (Int32 × Hp)) (K19 : ∀ (v0 : Option Nat) (v1 : Int32) (h : Hp) (r : Int32 × Hp), k19 v0 v1 h = some r → Rn d 197 19 [some (va_rf v0), some (.int v1)] [] h (some (.int r.1), r.2)) (v0 : Option Nat) (v1 : Int32)  (h : Hp) (r : Int32 × Hp) (hb : b_197_39 k19 v0 v1  h = some r) : Rn d 197 39 [some (va_rf v0), some (.int v1)] [] h (some (.int r.1), r.2) := by
  unfold b_197_39 at hb
  obtain ⟨x1, ex1, hb⟩ := bnd_spec hb
  refine rn_iinc (i := 1) (y := x1) (L1 := [some (va_rf v0), some (.int x1)]) rfl rfl (Nat.le_of_ble_eq_true rfl) (Or.inr (bd_wideR rfl)) (by rw [ex1]; rfl) rfl ?_
  refine rn_goto rfl rfl ?_
  exact K19 v0 x1 h _ hb
def b_197_37   (h : Hp) : Option (Int32 × Hp) :=
  (grd (decide ((nI 0) = 0 ∨ (nI 0) = 1))).bind fun _ => some ((nI 0), h)
theorem u_197_37 (d : Nat) (hd : 2 ≤ d) (v0 : Option Nat) (v1 : Int32)  (h : Hp) (r : Int32 × Hp) (hb : b_197_37   h = some r) : Rn d 197 37 [some (va_rf v0), some (.int v1)] [] h (some (.int r.1), r.2) := by
  unfold b_197_37 at hb
  refine rn_iconst (x := (nI 0)) rfl (by decide) ?_
  obtain ⟨hz, hb⟩ := grd_spec hb
  obtain rfl := Option.some.inj hb
  exact rn_zret rfl rfl (of_decide_eq_true hz)
def b_197_25 (k19 : Option Nat → Int32 → Hp → Option (Int32 × Hp)) (v0 : Option Nat) (v1 : Int32)  (h : Hp) : Option (Int32 × Hp) :=
  (gJ 11 12 v0 h).bind fun x1 =>
  (f_192 v1 h).bind fun p2 =>
  if ¬ (lg_cmp x1 p2.1) = 0 then b_197_39 k19 v0 v1  p2.2 else b_197_37   p2.2
theorem u_197_25 (d : Nat) (hd : 2 ≤ d) (k19 : Option Nat → Int32 → Hp → Option (Int32 × Hp)) (K19 : ∀ (v0 : Option Nat) (v1 : Int32) (h : Hp) (r : Int32 × Hp), k19 v0 v1 h = some r → Rn d 197 19 [some (va_rf v0), some (.int v1)] [] h (some (.int r.1), r.2)) (v0 : Option Nat) (v1 : Int32)  (h : Hp) (r : Int32 × Hp) (hb : b_197_25 k19 v0 v1  h = some r) : Rn d 197 25 [some (va_rf v0), some (.int v1)] [] h (some (.int r.1), r.2) := by
  unfold b_197_25 at hb
  obtain ⟨e, rfl⟩ : ∃ e, d = e + 1 := ⟨d - 1, by omega⟩
  refine rn_aload_n (i := 0) rfl rfl ?_
  refine rn_gJ (c := 11) (k := 12) rfl (by decide) hb (fun x1 hb => ?_)
  refine rn_iload_n (i := 1) rfl rfl ?_
  obtain ⟨p2, hc, hb⟩ := Option.bind_eq_some_iff.mp hb
  refine Rn.call1 (d := e) (As := [.int v1]) (rest := [.long x1]) rfl rfl rfl (by decide) rfl rfl rfl rfl (by rw [bd_cJ (bd_cN)]; decide) (bd_lenC (n := 1) rfl (bd_slI bd_slN) rfl) (bd_locC (n := 1) rfl (bd_slI bd_slN) rfl (t_192 e (by omega) v1 h _ hc)) ?_
  refine rn_lcmp rfl ?_
  refine rn_if_ne rfl rfl (fun hc => ?_) (fun hc => ?_)
  · exact u_197_39 (e + 1) hd k19 K19 v0 v1  p2.2 _ (if_t hb hc)
  · exact u_197_37 (e + 1) hd v0 v1  p2.2 _ (if_f hb hc)
def b_197_19 (k19 : Option Nat → Int32 → Hp → Option (Int32 × Hp)) (v0 : Option Nat) (v1 : Int32)  (h : Hp) : Option (Int32 × Hp) :=
  if (nI 25) < v1 then b_197_45   h else b_197_25 k19 v0 v1  h
theorem u_197_19 (d : Nat) (hd : 2 ≤ d) (k19 : Option Nat → Int32 → Hp → Option (Int32 × Hp)) (K19 : ∀ (v0 : Option Nat) (v1 : Int32) (h : Hp) (r : Int32 × Hp), k19 v0 v1 h = some r → Rn d 197 19 [some (va_rf v0), some (.int v1)] [] h (some (.int r.1), r.2)) (v0 : Option Nat) (v1 : Int32)  (h : Hp) (r : Int32 × Hp) (hb : b_197_19 k19 v0 v1  h = some r) : Rn d 197 19 [some (va_rf v0), some (.int v1)] [] h (some (.int r.1), r.2) := by
  unfold b_197_19 at hb
  refine rn_iload_n (i := 1) rfl rfl ?_
  refine rn_bipush (x := (nI 25)) rfl (by decide) ?_
  refine rn_icmp_gt rfl rfl (fun hc => ?_) (fun hc => ?_)
  · exact u_197_45 d hd v0 v1  h _ (if_t hb hc)
  · exact u_197_25 d hd k19 K19 v0 v1  h _ (if_f hb hc)
def l_197_19 : Nat → Option Nat → Int32 → Hp → Option (Int32 × Hp)
  | 0, _, _, _ => none
  | n + 1, v0, v1, h => b_197_19 (l_197_19 n) v0 v1 h
theorem w_197_19 (d : Nat) (hd : 2 ≤ d) : ∀ (n : Nat) (v0 : Option Nat) (v1 : Int32) (h : Hp) (r : Int32 × Hp), l_197_19 n v0 v1 h = some r → Rn d 197 19 [some (va_rf v0), some (.int v1)] [] h (some (.int r.1), r.2) := by
  intro n
  induction n with
  | zero => intro v0 v1 h r hb; cases hb
  | succ n ih => intro v0 v1 h r hb; exact u_197_19 d hd (l_197_19 n) ih v0 v1 h r hb
def b_197_17 (v0 : Option Nat)  (h : Hp) : Option (Int32 × Hp) :=
  bnd ((nI 0)) fun x1 =>
  l_197_19 FU v0 x1 h
theorem u_197_17 (d : Nat) (hd : 2 ≤ d) (v0 : Option Nat)  (h : Hp) (r : Int32 × Hp) (hb : b_197_17 v0  h = some r) : Rn d 197 17 [some (va_rf v0), none] [] h (some (.int r.1), r.2) := by
  unfold b_197_17 at hb
  refine rn_iconst (x := (nI 0)) rfl (by decide) ?_
  obtain ⟨x1, ex1, hb⟩ := bnd_spec hb
  refine rn_istore_n (i := 1) (L1 := [some (va_rf v0), some (.int x1)]) rfl (Nat.le_of_ble_eq_true rfl) (Or.inr (bd_wideR rfl)) (by rw [ex1]; rfl) ?_
  exact w_197_19 d hd FU v0 x1 h _ hb
def b_197_8 (v0 : Option Nat)  (h : Hp) : Option (Int32 × Hp) :=
  (grd (rC 11 v0 h)).bind fun _ =>
  (f_196 v0 h).bind fun p1 =>
  if p1.1 = 0 then b_197_17 v0  p1.2 else b_197_15   p1.2
theorem u_197_8 (d : Nat) (hd : 2 ≤ d) (v0 : Option Nat)  (h : Hp) (r : Int32 × Hp) (hb : b_197_8 v0  h = some r) : Rn d 197 8 [some (va_rf v0), none] [] h (some (.int r.1), r.2) := by
  unfold b_197_8 at hb
  obtain ⟨e, rfl⟩ : ∃ e, d = e + 1 := ⟨d - 1, by omega⟩
  refine rn_aload_n (i := 0) rfl rfl ?_
  obtain ⟨hrc, hb⟩ := grd_spec hb
  obtain ⟨p1, hc, hb⟩ := Option.bind_eq_some_iff.mp hb
  refine Rn.call1 (d := e) (As := [va_rf v0]) (rest := []) rfl rfl rfl (by decide) rfl rfl rfl (bd_rcV hrc rfl) (by decide) (bd_lenC (n := 2) rfl (bd_slR bd_slN) rfl) (bd_locC (n := 2) rfl (bd_slR bd_slN) rfl (t_196 e (by omega) v0 h _ hc)) ?_
  refine rn_if_eq rfl rfl (fun hc => ?_) (fun hc => ?_)
  · exact u_197_17 (e + 1) hd v0  p1.2 _ (if_t hb hc)
  · exact u_197_15 (e + 1) hd v0  p1.2 _ (if_f hb hc)
def b_197_0 (v0 : Option Nat)  (h : Hp) : Option (Int32 × Hp) :=
  (gI 11 7 v0 h).bind fun x1 =>
  if ¬ x1 = (nI 2) then b_197_15   h else b_197_8 v0  h
theorem u_197_0 (d : Nat) (hd : 2 ≤ d) (v0 : Option Nat)  (h : Hp) (r : Int32 × Hp) (hb : b_197_0 v0  h = some r) : Rn d 197 0 [some (va_rf v0), none] [] h (some (.int r.1), r.2) := by
  unfold b_197_0 at hb
  refine rn_aload_n (i := 0) rfl rfl ?_
  refine rn_gI (c := 11) (k := 7) rfl (by decide) hb (fun x1 hb => ?_)
  refine rn_iconst (x := (nI 2)) rfl (by decide) ?_
  refine rn_icmp_ne rfl rfl (fun hc => ?_) (fun hc => ?_)
  · exact u_197_15 d hd v0  h _ (if_t hb hc)
  · exact u_197_8 d hd v0  h _ (if_f hb hc)
/-- BitingDoorsModel.isName()Z -/
def f_197 (v0 : Option Nat) (h : Hp) : Option (Int32 × Hp) := b_197_0 v0 h
theorem t_197 (d : Nat) (hd : 2 ≤ d) (v0 : Option Nat) (h : Hp) (r : Int32 × Hp) (hb : f_197 v0 h = some r) : Rn d 197 0 [some (va_rf v0), none] [] h (some (.int r.1), r.2) := by
  unfold f_197 at hb
  exact u_197_0 d hd v0 h r hb
def b_198_14 (v0 : Option Nat) (s0 : Option Nat) (s1 : Int32) (h : Hp) : Option (Int32 × Hp) :=
  (pI 11 10 s0 s1 h).bind fun h1 =>
  (gI 11 6 v0 h1).bind fun x2 =>
  (pI 11 11 v0 x2 h1).bind fun h3 =>
  (grd (decide ((nI 0) = 0 ∨ (nI 0) = 1))).bind fun _ => some ((nI 0), h3)
theorem u_198_14 (d : Nat) (hd : 0 ≤ d) (v0 : Option Nat) (v1 : Int32) (s0 : Option Nat) (s1 : Int32) (h : Hp) (r : Int32 × Hp) (hb : b_198_14 v0 s0 s1 h = some r) : Rn d 198 14 [some (va_rf v0), some (.int v1)] [.int s1, va_rf s0] h (some (.int r.1), r.2) := by
  unfold b_198_14 at hb
  refine rn_pI (c := 11) (k := 10) rfl (by decide) hb (fun h1 hb => ?_)
  refine rn_aload_n (i := 0) rfl rfl ?_
  refine rn_aload_n (i := 0) rfl rfl ?_
  refine rn_gI (c := 11) (k := 6) rfl (by decide) hb (fun x2 hb => ?_)
  refine rn_pI (c := 11) (k := 11) rfl (by decide) hb (fun h3 hb => ?_)
  refine rn_iconst (x := (nI 0)) rfl (by decide) ?_
  obtain ⟨hz, hb⟩ := grd_spec hb
  obtain rfl := Option.some.inj hb
  exact rn_zret rfl rfl (of_decide_eq_true hz)
def b_198_13 (v0 : Option Nat) (v1 : Int32) (s0 : Option Nat) (h : Hp) : Option (Int32 × Hp) :=
  b_198_14 v0 s0 v1 h
theorem u_198_13 (d : Nat) (hd : 0 ≤ d) (v0 : Option Nat) (v1 : Int32) (s0 : Option Nat) (h : Hp) (r : Int32 × Hp) (hb : b_198_13 v0 v1 s0 h = some r) : Rn d 198 13 [some (va_rf v0), some (.int v1)] [va_rf s0] h (some (.int r.1), r.2) := by
  unfold b_198_13 at hb
  refine rn_iload_n (i := 1) rfl rfl ?_
  exact u_198_14 d hd v0 v1 s0 v1 h _ hb
def b_198_9 (v0 : Option Nat) (s0 : Option Nat) (h : Hp) : Option (Int32 × Hp) :=
  b_198_14 v0 s0 (nI 1) h
theorem u_198_9 (d : Nat) (hd : 0 ≤ d) (v0 : Option Nat) (v1 : Int32) (s0 : Option Nat) (h : Hp) (r : Int32 × Hp) (hb : b_198_9 v0 s0 h = some r) : Rn d 198 9 [some (va_rf v0), some (.int v1)] [va_rf s0] h (some (.int r.1), r.2) := by
  unfold b_198_9 at hb
  refine rn_iconst (x := (nI 1)) rfl (by decide) ?_
  refine rn_goto rfl rfl ?_
  exact u_198_14 d hd v0 v1 s0 (nI 1) h _ hb
def b_198_0 (v0 : Option Nat) (v1 : Int32)  (h : Hp) : Option (Int32 × Hp) :=
  (gI 11 7 v0 h).bind fun x1 =>
  if ¬ x1 = (nI 1) then b_198_13 v0 v1 v0 h else b_198_9 v0 v0 h
theorem u_198_0 (d : Nat) (hd : 0 ≤ d) (v0 : Option Nat) (v1 : Int32)  (h : Hp) (r : Int32 × Hp) (hb : b_198_0 v0 v1  h = some r) : Rn d 198 0 [some (va_rf v0), some (.int v1)] [] h (some (.int r.1), r.2) := by
  unfold b_198_0 at hb
  refine rn_aload_n (i := 0) rfl rfl ?_
  refine rn_aload_n (i := 0) rfl rfl ?_
  refine rn_gI (c := 11) (k := 7) rfl (by decide) hb (fun x1 hb => ?_)
  refine rn_iconst (x := (nI 1)) rfl (by decide) ?_
  refine rn_icmp_ne rfl rfl (fun hc => ?_) (fun hc => ?_)
  · exact u_198_13 d hd v0 v1 v0 h _ (if_t hb hc)
  · exact u_198_9 d hd v0 v1 v0 h _ (if_f hb hc)
/-- BitingDoorsModel.bad(I)Z -/
def f_198 (v0 : Option Nat) (v1 : Int32) (h : Hp) : Option (Int32 × Hp) := b_198_0 v0 v1 h
theorem t_198 (d : Nat) (hd : 0 ≤ d) (v0 : Option Nat) (v1 : Int32) (h : Hp) (r : Int32 × Hp) (hb : f_198 v0 v1 h = some r) : Rn d 198 0 [some (va_rf v0), some (.int v1)] [] h (some (.int r.1), r.2) := by
  unfold f_198 at hb
  exact u_198_0 d hd v0 v1 h r hb
def b_199_32 (v0 : Option Nat)  (h : Hp) : Option (Int32 × Hp) :=
  (gI 11 8 v0 h).bind fun x1 =>
  (pI 11 13 v0 x1 h).bind fun h2 =>
  (grd (rC 11 v0 h2)).bind fun _ =>
  (f_189 v0 h2).bind fun p3 =>
  (grd (decide ((nI 1) = 0 ∨ (nI 1) = 1))).bind fun _ => some ((nI 1), p3)
theorem u_199_32 (d : Nat) (hd : 2 ≤ d) (v0 : Option Nat) (v1 : Int32) (v2 : Int32)  (h : Hp) (r : Int32 × Hp) (hb : b_199_32 v0  h = some r) : Rn d 199 32 [some (va_rf v0), some (.int v1), some (.int v2)] [] h (some (.int r.1), r.2) := by
  unfold b_199_32 at hb
  obtain ⟨e, rfl⟩ : ∃ e, d = e + 1 := ⟨d - 1, by omega⟩
  refine rn_aload_n (i := 0) rfl rfl ?_
  refine rn_aload_n (i := 0) rfl rfl ?_
  refine rn_gI (c := 11) (k := 8) rfl (by decide) hb (fun x1 hb => ?_)
  refine rn_pI (c := 11) (k := 13) rfl (by decide) hb (fun h2 hb => ?_)
  refine rn_aload_n (i := 0) rfl rfl ?_
  obtain ⟨hrc, hb⟩ := grd_spec hb
  obtain ⟨p3, hc, hb⟩ := Option.bind_eq_some_iff.mp hb
  refine Rn.call0 (d := e) (As := [va_rf v0]) (rest := []) rfl rfl rfl (by decide) rfl rfl rfl (bd_rcV hrc rfl) (by decide) (bd_lenC (n := 5) rfl (bd_slR bd_slN) rfl) (bd_locC (n := 5) rfl (bd_slR bd_slN) rfl (t_189 e (by omega) v0 h2 _ hc)) ?_
  refine rn_iconst (x := (nI 1)) rfl (by decide) ?_
  obtain ⟨hz, hb⟩ := grd_spec hb
  obtain rfl := Option.some.inj hb
  exact rn_zret rfl rfl (of_decide_eq_true hz)
def b_199_26 (v0 : Option Nat)  (h : Hp) : Option (Int32 × Hp) :=
  (grd (rC 11 v0 h)).bind fun _ =>
  (f_198 v0 (nI 2) h).bind fun p1 =>
  (grd (decide (p1.1 = 0 ∨ p1.1 = 1))).bind fun _ => some (p1.1, p1.2)
theorem u_199_26 (d : Nat) (hd : 2 ≤ d) (v0 : Option Nat) (v1 : Int32) (v2 : Int32)  (h : Hp) (r : Int32 × Hp) (hb : b_199_26 v0  h = some r) : Rn d 199 26 [some (va_rf v0), some (.int v1), some (.int v2)] [] h (some (.int r.1), r.2) := by
  unfold b_199_26 at hb
  obtain ⟨e, rfl⟩ : ∃ e, d = e + 1 := ⟨d - 1, by omega⟩
  refine rn_aload_n (i := 0) rfl rfl ?_
  refine rn_iconst (x := (nI 2)) rfl (by decide) ?_
  obtain ⟨hrc, hb⟩ := grd_spec hb
  obtain ⟨p1, hc, hb⟩ := Option.bind_eq_some_iff.mp hb
  refine Rn.call1 (d := e) (As := [va_rf v0, .int (nI 2)]) (rest := []) rfl rfl rfl (by decide) rfl rfl rfl (bd_rcV hrc rfl) (by decide) (bd_lenC (n := 2) rfl (bd_slR (bd_slI bd_slN)) rfl) (bd_locC (n := 2) rfl (bd_slR (bd_slI bd_slN)) rfl (t_198 e (by omega) v0 (nI 2) h _ hc)) ?_
  obtain ⟨hz, hb⟩ := grd_spec hb
  obtain rfl := Option.some.inj hb
  exact rn_zret rfl rfl (of_decide_eq_true hz)
def b_199_14 (v0 : Option Nat) (v1 : Int32) (v2 : Int32)  (h : Hp) : Option (Int32 × Hp) :=
  (gI 11 8 v0 h).bind fun x1 =>
  (f_182 x1 v1 v2 h).bind fun p2 =>
  if ¬ p2.1 = 0 then b_199_32 v0  p2.2 else b_199_26 v0  p2.2
theorem u_199_14 (d : Nat) (hd : 2 ≤ d) (v0 : Option Nat) (v1 : Int32) (v2 : Int32)  (h : Hp) (r : Int32 × Hp) (hb : b_199_14 v0 v1 v2  h = some r) : Rn d 199 14 [some (va_rf v0), some (.int v1), some (.int v2)] [] h (some (.int r.1), r.2) := by
  unfold b_199_14 at hb
  obtain ⟨e, rfl⟩ : ∃ e, d = e + 1 := ⟨d - 1, by omega⟩
  refine rn_aload_n (i := 0) rfl rfl ?_
  refine rn_gI (c := 11) (k := 8) rfl (by decide) hb (fun x1 hb => ?_)
  refine rn_iload_n (i := 1) rfl rfl ?_
  refine rn_iload_n (i := 2) rfl rfl ?_
  obtain ⟨p2, hc, hb⟩ := Option.bind_eq_some_iff.mp hb
  refine Rn.call1 (d := e) (As := [.int x1, .int v1, .int v2]) (rest := []) rfl rfl rfl (by decide) rfl rfl rfl rfl (by decide) (bd_lenC (n := 3) rfl (bd_slI (bd_slI (bd_slI bd_slN))) rfl) (bd_locC (n := 3) rfl (bd_slI (bd_slI (bd_slI bd_slN))) rfl (t_182 e (by omega) x1 v1 v2 h _ hc)) ?_
  refine rn_if_ne rfl rfl (fun hc => ?_) (fun hc => ?_)
  · exact u_199_32 (e + 1) hd v0 v1 v2  p2.2 _ (if_t hb hc)
  · exact u_199_26 (e + 1) hd v0 v1 v2  p2.2 _ (if_f hb hc)
def b_199_8 (v0 : Option Nat)  (h : Hp) : Option (Int32 × Hp) :=
  (grd (rC 11 v0 h)).bind fun _ =>
  (f_198 v0 (nI 1) h).bind fun p1 =>
  (grd (decide (p1.1 = 0 ∨ p1.1 = 1))).bind fun _ => some (p1.1, p1.2)
theorem u_199_8 (d : Nat) (hd : 2 ≤ d) (v0 : Option Nat) (v1 : Int32) (v2 : Int32)  (h : Hp) (r : Int32 × Hp) (hb : b_199_8 v0  h = some r) : Rn d 199 8 [some (va_rf v0), some (.int v1), some (.int v2)] [] h (some (.int r.1), r.2) := by
  unfold b_199_8 at hb
  obtain ⟨e, rfl⟩ : ∃ e, d = e + 1 := ⟨d - 1, by omega⟩
  refine rn_aload_n (i := 0) rfl rfl ?_
  refine rn_iconst (x := (nI 1)) rfl (by decide) ?_
  obtain ⟨hrc, hb⟩ := grd_spec hb
  obtain ⟨p1, hc, hb⟩ := Option.bind_eq_some_iff.mp hb
  refine Rn.call1 (d := e) (As := [va_rf v0, .int (nI 1)]) (rest := []) rfl rfl rfl (by decide) rfl rfl rfl (bd_rcV hrc rfl) (by decide) (bd_lenC (n := 2) rfl (bd_slR (bd_slI bd_slN)) rfl) (bd_locC (n := 2) rfl (bd_slR (bd_slI bd_slN)) rfl (t_198 e (by omega) v0 (nI 1) h _ hc)) ?_
  obtain ⟨hz, hb⟩ := grd_spec hb
  obtain rfl := Option.some.inj hb
  exact rn_zret rfl rfl (of_decide_eq_true hz)
def b_199_0 (v0 : Option Nat) (v1 : Int32) (v2 : Int32)  (h : Hp) : Option (Int32 × Hp) :=
  (gI 11 7 v0 h).bind fun x1 =>
  if x1 = (nI 3) then b_199_14 v0 v1 v2  h else b_199_8 v0  h
theorem u_199_0 (d : Nat) (hd : 2 ≤ d) (v0 : Option Nat) (v1 : Int32) (v2 : Int32)  (h : Hp) (r : Int32 × Hp) (hb : b_199_0 v0 v1 v2  h = some r) : Rn d 199 0 [some (va_rf v0), some (.int v1), some (.int v2)] [] h (some (.int r.1), r.2) := by
  unfold b_199_0 at hb
  refine rn_aload_n (i := 0) rfl rfl ?_
  refine rn_gI (c := 11) (k := 7) rfl (by decide) hb (fun x1 hb => ?_)
  refine rn_iconst (x := (nI 3)) rfl (by decide) ?_
  refine rn_icmp_eq rfl rfl (fun hc => ?_) (fun hc => ?_)
  · exact u_199_14 d hd v0 v1 v2  h _ (if_t hb hc)
  · exact u_199_8 d hd v0 v1 v2  h _ (if_f hb hc)
/-- BitingDoorsModel.readNumber(II)Z -/
def f_199 (v0 : Option Nat) (v1 : Int32) (v2 : Int32) (h : Hp) : Option (Int32 × Hp) := b_199_0 v0 v1 v2 h
theorem t_199 (d : Nat) (hd : 2 ≤ d) (v0 : Option Nat) (v1 : Int32) (v2 : Int32) (h : Hp) (r : Int32 × Hp) (hb : f_199 v0 v1 v2 h = some r) : Rn d 199 0 [some (va_rf v0), some (.int v1), some (.int v2)] [] h (some (.int r.1), r.2) := by
  unfold f_199 at hb
  exact u_199_0 d hd v0 v1 v2 h r hb
def b_200_15 (v0 : Option Nat)  (h : Hp) : Option (Int32 × Hp) :=
  (grd (rC 11 v0 h)).bind fun _ =>
  (f_189 v0 h).bind fun p1 =>
  (grd (decide ((nI 1) = 0 ∨ (nI 1) = 1))).bind fun _ => some ((nI 1), p1)
theorem u_200_15 (d : Nat) (hd : 2 ≤ d) (v0 : Option Nat)  (h : Hp) (r : Int32 × Hp) (hb : b_200_15 v0  h = some r) : Rn d 200 15 [some (va_rf v0)] [] h (some (.int r.1), r.2) := by
  unfold b_200_15 at hb
  obtain ⟨e, rfl⟩ : ∃ e, d = e + 1 := ⟨d - 1, by omega⟩
  refine rn_aload_n (i := 0) rfl rfl ?_
  obtain ⟨hrc, hb⟩ := grd_spec hb
  obtain ⟨p1, hc, hb⟩ := Option.bind_eq_some_iff.mp hb
  refine Rn.call0 (d := e) (As := [va_rf v0]) (rest := []) rfl rfl rfl (by decide) rfl rfl rfl (bd_rcV hrc rfl) (by decide) (bd_lenC (n := 5) rfl (bd_slR bd_slN) rfl) (bd_locC (n := 5) rfl (bd_slR bd_slN) rfl (t_189 e (by omega) v0 h _ hc)) ?_
  refine rn_iconst (x := (nI 1)) rfl (by decide) ?_
  obtain ⟨hz, hb⟩ := grd_spec hb
  obtain rfl := Option.some.inj hb
  exact rn_zret rfl rfl (of_decide_eq_true hz)
def b_200_9 (v0 : Option Nat)  (h : Hp) : Option (Int32 × Hp) :=
  (grd (rC 11 v0 h)).bind fun _ =>
  (f_198 v0 (nI 1) h).bind fun p1 =>
  (grd (decide (p1.1 = 0 ∨ p1.1 = 1))).bind fun _ => some (p1.1, p1.2)
theorem u_200_9 (d : Nat) (hd : 2 ≤ d) (v0 : Option Nat)  (h : Hp) (r : Int32 × Hp) (hb : b_200_9 v0  h = some r) : Rn d 200 9 [some (va_rf v0)] [] h (some (.int r.1), r.2) := by
  unfold b_200_9 at hb
  obtain ⟨e, rfl⟩ : ∃ e, d = e + 1 := ⟨d - 1, by omega⟩
  refine rn_aload_n (i := 0) rfl rfl ?_
  refine rn_iconst (x := (nI 1)) rfl (by decide) ?_
  obtain ⟨hrc, hb⟩ := grd_spec hb
  obtain ⟨p1, hc, hb⟩ := Option.bind_eq_some_iff.mp hb
  refine Rn.call1 (d := e) (As := [va_rf v0, .int (nI 1)]) (rest := []) rfl rfl rfl (by decide) rfl rfl rfl (bd_rcV hrc rfl) (by decide) (bd_lenC (n := 2) rfl (bd_slR (bd_slI bd_slN)) rfl) (bd_locC (n := 2) rfl (bd_slR (bd_slI bd_slN)) rfl (t_198 e (by omega) v0 (nI 1) h _ hc)) ?_
  obtain ⟨hz, hb⟩ := grd_spec hb
  obtain rfl := Option.some.inj hb
  exact rn_zret rfl rfl (of_decide_eq_true hz)
def b_200_0 (v0 : Option Nat)  (h : Hp) : Option (Int32 × Hp) :=
  (grd (rC 11 v0 h)).bind fun _ =>
  (f_194 v0 (nI 59) h).bind fun p1 =>
  if ¬ p1.1 = 0 then b_200_15 v0  p1.2 else b_200_9 v0  p1.2
theorem u_200_0 (d : Nat) (hd : 2 ≤ d) (v0 : Option Nat)  (h : Hp) (r : Int32 × Hp) (hb : b_200_0 v0  h = some r) : Rn d 200 0 [some (va_rf v0)] [] h (some (.int r.1), r.2) := by
  unfold b_200_0 at hb
  obtain ⟨e, rfl⟩ : ∃ e, d = e + 1 := ⟨d - 1, by omega⟩
  refine rn_aload_n (i := 0) rfl rfl ?_
  refine rn_bipush (x := (nI 59)) rfl (by decide) ?_
  obtain ⟨hrc, hb⟩ := grd_spec hb
  obtain ⟨p1, hc, hb⟩ := Option.bind_eq_some_iff.mp hb
  refine Rn.call1 (d := e) (As := [va_rf v0, .int (nI 59)]) (rest := []) rfl rfl rfl (by decide) rfl rfl rfl (bd_rcV hrc rfl) (by decide) (bd_lenC (n := 2) rfl (bd_slR (bd_slI bd_slN)) rfl) (bd_locC (n := 2) rfl (bd_slR (bd_slI bd_slN)) rfl (t_194 e (by omega) v0 (nI 59) h _ hc)) ?_
  refine rn_if_ne rfl rfl (fun hc => ?_) (fun hc => ?_)
  · exact u_200_15 (e + 1) hd v0  p1.2 _ (if_t hb hc)
  · exact u_200_9 (e + 1) hd v0  p1.2 _ (if_f hb hc)
/-- BitingDoorsModel.readEnd()Z -/
def f_200 (v0 : Option Nat) (h : Hp) : Option (Int32 × Hp) := b_200_0 v0 h
theorem t_200 (d : Nat) (hd : 2 ≤ d) (v0 : Option Nat) (h : Hp) (r : Int32 × Hp) (hb : f_200 v0 h = some r) : Rn d 200 0 [some (va_rf v0)] [] h (some (.int r.1), r.2) := by
  unfold f_200 at hb
  exact u_200_0 d hd v0 h r hb
def b_202_8 (v0 : Option Nat)  (h : Hp) : Option (Hp) :=
  (pZ 11 22 v0 (nI 1) h).bind fun h1 =>
  (gQ 11 14 v0 h1).bind fun x2 =>
  (wI x2 (nI 4) (-1 : Int32) h1).bind fun h3 =>
  (gQ 11 14 v0 h3).bind fun x4 =>
  (wI x4 (nI 340) (-1 : Int32) h3).bind fun h5 =>
  some h5
theorem u_202_8 (d : Nat) (hd : 0 ≤ d) (v0 : Option Nat)  (h : Hp) (r : Hp) (hb : b_202_8 v0  h = some r) : Rn d 202 8 [some (va_rf v0)] [] h (none, r) := by
  unfold b_202_8 at hb
  refine rn_aload_n (i := 0) rfl rfl ?_
  refine rn_iconst (x := (nI 1)) rfl (by decide) ?_
  refine rn_pZ (c := 11) (k := 22) rfl (by decide) hb (fun h1 hb => ?_)
  refine rn_aload_n (i := 0) rfl rfl ?_
  refine rn_gQ (c := 11) (k := 14) rfl (by decide) hb (fun x2 hb => ?_)
  refine rn_iconst (x := (nI 4)) rfl (by decide) ?_
  refine rn_iconst (x := (-1 : Int32)) rfl (by decide) ?_
  refine rn_wI rfl hb (fun h3 hb => ?_)
  refine rn_aload_n (i := 0) rfl rfl ?_
  refine rn_gQ (c := 11) (k := 14) rfl (by decide) hb (fun x4 hb => ?_)
  refine rn_sipush (x := (nI 340)) rfl (by decide) ?_
  refine rn_iconst (x := (-1 : Int32)) rfl (by decide) ?_
  refine rn_wI rfl hb (fun h5 hb => ?_)
  obtain rfl := Option.some.inj hb
  exact rn_vret rfl rfl
def b_202_7   (h : Hp) : Option (Hp) :=
  some h
theorem u_202_7 (d : Nat) (hd : 0 ≤ d) (v0 : Option Nat)  (h : Hp) (r : Hp) (hb : b_202_7   h = some r) : Rn d 202 7 [some (va_rf v0)] [] h (none, r) := by
  unfold b_202_7 at hb
  obtain rfl := Option.some.inj hb
  exact rn_vret rfl rfl
def b_202_0 (v0 : Option Nat)  (h : Hp) : Option (Hp) :=
  (gI 11 22 v0 h).bind fun x1 =>
  if x1 = 0 then b_202_8 v0  h else b_202_7   h
theorem u_202_0 (d : Nat) (hd : 0 ≤ d) (v0 : Option Nat)  (h : Hp) (r : Hp) (hb : b_202_0 v0  h = some r) : Rn d 202 0 [some (va_rf v0)] [] h (none, r) := by
  unfold b_202_0 at hb
  refine rn_aload_n (i := 0) rfl rfl ?_
  refine rn_gI (c := 11) (k := 22) rfl (by decide) hb (fun x1 hb => ?_)
  refine rn_if_eq rfl rfl (fun hc => ?_) (fun hc => ?_)
  · exact u_202_8 d hd v0  h _ (if_t hb hc)
  · exact u_202_7 d hd v0  h _ (if_f hb hc)
/-- BitingDoorsModel.lay()V -/
def f_202 (v0 : Option Nat) (h : Hp) : Option (Hp) := b_202_0 v0 h
theorem t_202 (d : Nat) (hd : 0 ≤ d) (v0 : Option Nat) (h : Hp) (r : Hp) (hb : f_202 v0 h = some r) : Rn d 202 0 [some (va_rf v0)] [] h (none, r) := by
  unfold f_202 at hb
  exact u_202_0 d hd v0 h r hb
