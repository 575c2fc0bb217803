def bd_fx : List Nat := [4, 7, 44, 41, 47, 50, 53, 56, 59, 76, 79, 82, 85, 88, 91, 94, 97, 124, 121, 100, 103, 106, 109, 112, 115, 118]
def bd_fc : List Nat := [6, 9, 46, 43, 49, 52, 55, 58, 61, 78, 81, 84, 87, 90, 93, 96, 99, 126, 123, 102, 105, 108, 111, 114, 117, 120]
def bd_fl : List Nat := [15, 16, 17, 18, 19, 20, 21, 22, 23, 24, 25, 26, 27, 28, 29, 30, 31, 32, 33, 34, 35, 36, 37, 38, 39, 40]
def bd_fz : List Nat := [532, 554, 653, 651, 679, 690, 692, 694, 706, 1084, 1087, 1089, 1091, 1103, 1105, 1107, 1109, 1322, 1319, 1286, 1290, 1292, 1294, 1299, 1301, 1303]
def bd_wt (i : Nat) : Term := .static "BitingDoors$Word" (bd_wn.getD i "") "LBitingDoors$Word;"
def bd_all : Term := .static "BitingDoors$Word" "ALL" "[LBitingDoors$Word;"
set_option maxRecDepth 100000 in
theorem zf_ex : (List.range 26).all (fun i => decide ((flatC (.and given_1 narrow_1))[bd_fx.getD i 0]? = some (.exactly (bd_wt i) "BitingDoors$Word"))) = true := by decide +kernel
set_option maxRecDepth 100000 in
theorem zf_co : (List.range 26).all (fun i => decide ((flatC (.and given_1 narrow_1))[bd_fc.getD i 0]? = some (.eq (.field (bd_wt i) "BitingDoors$Word" "code" "J") (.long (bd_wcode i))))) = true := by decide +kernel
set_option maxRecDepth 100000 in
theorem zf_el : (List.range 26).all (fun i => decide ((flatC (.and given_1 narrow_1))[bd_fl.getD i 0]? = some (.eq (.elem bd_all (.int (Int32.ofNat i))) (bd_wt i)))) = true := by decide +kernel
set_option maxRecDepth 100000 in
theorem zf_ls : (List.range 26).all (fun i => bd_at (bd_fz.getD i 0) (.laysStatic "BitingDoors$Word" (bd_wn.getD i "") "LBitingDoors$Word;")) = true := by decide +kernel
theorem zf_at {P : Nat → Bool} {n i : Nat} (h : (List.range n).all P = true) (hi : i < n) : P i = true := List.all_eq_true.mp h i (List.mem_range.mpr hi)
def bd_lS (n a : Nat) : Nat := if a = 26 then 26 else if a = 27 then 4 else if a = 28 then 4 else if a = 29 then n else 0
def bd_iS (xs : Nat → Int32) (a j : Nat) : Int32 := if a = 27 then bd_stx j else if a = 28 then bd_sty j else if a = 29 then xs j else 0
/-- the heap at the start -/
def bd_h0 (xs : Nat → Int32) (n : Nat) : Hp := (bd_kS, bd_lS n, bd_iS xs, fun a j => if j = 0 then bd_wcode a else 0, fun a j => if a = 26 ∧ j < 26 then some j else none, 30, 0, 0)
theorem bd_h0_stat (xs : Nat → Int32) (n : Nat) : bd_stat xs n (bd_h0 xs n) := by
  refine ⟨fun _ _ => rfl, fun _ _ => rfl, rfl, fun j hj => ?_, rfl, fun _ _ => rfl, rfl, fun _ _ => rfl, rfl, fun _ _ => rfl⟩
  show (if 26 = 26 ∧ j < 26 then some j else none) = some j
  rw [if_pos ⟨rfl, hj⟩]
theorem bd_h0_wf (xs : Nat → Int32) (n : Nat) : bd_wf (bd_h0 xs n) := by
  refine ⟨fun a k b ha hb => ?_, fun a h1 h2 => ?_, Nat.le_refl _⟩
  · have hb' : (if a = 26 ∧ k < 26 then some k else none) = some b := hb
    split at hb'
    · rename_i hc
      cases hb'
      show k < 30
      omega
    · cases hb'
  · have h2' : a < 30 := h2
    omega
section START
variable {p : Program} {e : Env} {s : State} {m : MethodId} {below : List Frame} {meth : Method} {c : Code} {b L : Nat} {xs : Nat → Int32}
theorem bd_tab {t : Nat} {n : Nat} {f : Nat → Int32} {A : Nat → Prop} (hx : va_X t n f s s.heap) (hA : ¬ A t) : va_T .int t n (fun j => .int (f j)) A s s.heap := by
  obtain ⟨scr, g1, g2, g3, g4, g5⟩ := hx
  exact ⟨scr, g1, g2, g3, by omega, by rw [g4], g5, hA⟩
set_option maxRecDepth 100000 in
theorem bd_statics (C0 : lw_At p s m meth c b L xs) : ∃ sad : Nat → Nat, sad 29 = b ∧ bd_ST xs L sad (fun q => s.heap.size ≤ q) s s.heap := by
  obtain ⟨hx, hb, hr, hml, hown, hts, hX, hbl, hlocks, hgv⟩ := C0
  have hfl := flat_of_before _ hgv
  have hin : ∀ {i : Nat} {w : Cond}, (flatC (.and given_1 narrow_1))[i]? = some w → w.before #[Value.ref b] s = true := fun h => hfl _ (List.mem_of_getElem? h)
  have htw : ∀ {i : Nat} {w : Cond}, lw_tbl[i]? = some w → w.before #[Value.ref b] s = true := fun h => hts _ (List.mem_of_getElem? h)
  have hA : ∀ a : Nat, a < s.heap.size → ¬ (fun q : Nat => s.heap.size ≤ q) a := fun a ha => Nat.not_le.mpr ha
  have hiW : (Cond.initialized "BitingDoors$Word").before #[Value.ref b] s = true := htw (i := 141) rfl
  have hiB : (Cond.initialized "BitingDoors").before #[Value.ref b] s = true := htw (i := 129) rfl
  have hiT : (Cond.initialized "java/lang/Throwable").before #[Value.ref b] s = true := htw (i := 143) rfl
  have hw0 : ∀ i : Nat, ∃ t : Nat, i < 26 → (bd_wt i).eval #[Value.ref b] s none [] s = some (.ref t) := by
    intro i
    by_cases hi : i < 26
    · obtain ⟨a, c, cell, k, q1, -⟩ := Cond.exactly_spec (hin (of_decide_eq_true (zf_at zf_ex hi)))
      exact ⟨a, fun _ => q1⟩
    · exact ⟨0, fun h => absurd h hi⟩
  obtain ⟨wad, hwad⟩ := Classical.axiomOfChoice hw0
  have h13 : (Cond.eq (.length bd_all) (.int 26)).before #[Value.ref b] s = true := hin (i := 13) rfl
  have h12 : (Cond.arrayOf bd_all (.object "BitingDoors$Word")).before #[Value.ref b] s = true := hin (i := 12) rfl
  obtain ⟨tA, hevA, hTA⟩ := va_Tof (args := #[Value.ref b]) (s := s) (tm := bd_all) (ty := .object "BitingDoors$Word") (N := 26) (f := fun j => .ref (wad j)) (A := fun q : Nat => s.heap.size ≤ q) (by decide) h12 (va_eqt h13) (fun j hj => va_eqv (hin (of_decide_eq_true (zf_at zf_el hj))) (hwad j hj)) hA
  have hx0 : (Cond.arrayOf (.static "BitingDoors" "STEP_X" "[I") .int).before #[Value.ref b] s = true := hin (i := 63) rfl
  have hx1 : (Cond.eq (.length (.static "BitingDoors" "STEP_X" "[I")) (.int 4)).before #[Value.ref b] s = true := hin (i := 64) rfl
  have hx2 : (Cond.eq (.elem (.static "BitingDoors" "STEP_X" "[I") (.int 0)) (.int 0)).before #[Value.ref b] s = true := hin (i := 65) rfl
  have hx3 : (Cond.eq (.elem (.static "BitingDoors" "STEP_X" "[I") (.int 1)) (.int 1)).before #[Value.ref b] s = true := hin (i := 66) rfl
  have hx4 : (Cond.eq (.elem (.static "BitingDoors" "STEP_X" "[I") (.int 2)) (.int 0)).before #[Value.ref b] s = true := hin (i := 67) rfl
  have hx5 : (Cond.eq (.elem (.static "BitingDoors" "STEP_X" "[I") (.int 3)) (.int (-1))).before #[Value.ref b] s = true := hin (i := 68) rfl
  obtain ⟨tX, hevX, hTX⟩ := va_Tof (args := #[Value.ref b]) (s := s) (tm := .static "BitingDoors" "STEP_X" "[I") (ty := .int) (N := 4) (f := fun j => .int (bd_stx j)) (A := fun q : Nat => s.heap.size ≤ q) (by decide) hx0 (va_eqt hx1) (fun j hj => by
    rcases (show j = 0 ∨ j = 1 ∨ j = 2 ∨ j = 3 by omega) with z | z | z | z <;> subst z
    · exact va_eqt hx2
    · exact va_eqt hx3
    · exact va_eqt hx4
    · exact va_eqt hx5) hA
  have hy0 : (Cond.arrayOf (.static "BitingDoors" "STEP_Y" "[I") .int).before #[Value.ref b] s = true := hin (i := 70) rfl
  have hy1 : (Cond.eq (.length (.static "BitingDoors" "STEP_Y" "[I")) (.int 4)).before #[Value.ref b] s = true := hin (i := 71) rfl
  have hy2 : (Cond.eq (.elem (.static "BitingDoors" "STEP_Y" "[I") (.int 0)) (.int (-1))).before #[Value.ref b] s = true := hin (i := 72) rfl
  have hy3 : (Cond.eq (.elem (.static "BitingDoors" "STEP_Y" "[I") (.int 1)) (.int 0)).before #[Value.ref b] s = true := hin (i := 73) rfl
  have hy4 : (Cond.eq (.elem (.static "BitingDoors" "STEP_Y" "[I") (.int 2)) (.int 1)).before #[Value.ref b] s = true := hin (i := 74) rfl
  have hy5 : (Cond.eq (.elem (.static "BitingDoors" "STEP_Y" "[I") (.int 3)) (.int 0)).before #[Value.ref b] s = true := hin (i := 75) rfl
  obtain ⟨tY, hevY, hTY⟩ := va_Tof (args := #[Value.ref b]) (s := s) (tm := .static "BitingDoors" "STEP_Y" "[I") (ty := .int) (N := 4) (f := fun j => .int (bd_sty j)) (A := fun q : Nat => s.heap.size ≤ q) (by decide) hy0 (va_eqt hy1) (fun j hj => by
    rcases (show j = 0 ∨ j = 1 ∨ j = 2 ∨ j = 3 by omega) with z | z | z | z <;> subst z
    · exact va_eqt hy2
    · exact va_eqt hy3
    · exact va_eqt hy4
    · exact va_eqt hy5) hA
  let sad : Nat → Nat := fun i => if i < 26 then wad i else if i = 26 then tA else if i = 27 then tX else if i = 28 then tY else b
  have hs1 : ∀ i, i < 26 → sad i = wad i := fun i hi => if_pos hi
  have hTA' : va_T (.object "BitingDoors$Word") tA 26 (fun j => .ref (sad j)) (fun q => s.heap.size ≤ q) s s.heap := by
    obtain ⟨cell, g1, g2, g3, g4, g5, g6, g7⟩ := hTA
    exact ⟨cell, g1, g2, g3, g4, g5, fun j hj => by show cell.slots[j]? = some (.ref (sad j)); rw [hs1 j hj]; exact g6 j hj, g7⟩
  refine ⟨sad, rfl, fun i hi => ?_, ?_, va_Zref (htw (i := 636) rfl) hiW hevA hA, hTA', va_Zref (htw (i := 1004) rfl) hiB hevX hA, hTX, va_Zref (htw (i := 1006) rfl) hiB hevY hA, hTY, bd_tab hX (Nat.not_le.mpr hbl), vx_Zqof (htw (i := 1406) rfl) hiT (hin (i := 127) rfl) hA, vx_Zqof (htw (i := 1408) rfl) hiT (hin (i := 128) rfl) hA⟩
  · rw [hs1 i hi]
    exact va_Zref (htw (of_decide_eq_true (zf_at zf_ls hi))) hiW (hwad i hi) hA
  · exact va_Efof (args := #[Value.ref b]) (E := "BitingDoors$Word") (d0 := "LBitingDoors$Word;") (nm := bd_wn) (tm := fun i => .long (bd_wcode i)) (fun i hi => by rw [hs1 i hi]; exact hwad i hi) (fun i hi => hin (of_decide_eq_true (zf_at zf_co hi))) (fun i hi => rfl) hA
set_option maxRecDepth 100000 in
/-- the claim's start out of a run of the abstract machine over the law -/
theorem bd_start (SIM : ∀ n, bd_PW n) (AOK : ∀ mi pc raw res, fe mi pc = some (raw, res) → bd_ok mi pc raw res)
    (LAW : ∀ (xs : Nat → Int32) (n : Nat), n ≤ 384 → ∃ (k d : Nat) (h9 : Hp), d ≤ 1000 ∧ ev k d 308 0 (bd_loc 7 [.ref 29]) [] (bd_h0 xs n) = some (some (.int 1), h9) ∧ hC h9 ≤ 600128 ∧ hS h9 ≤ 7301098)
    (l : Launch) (hl0 : l.stackTraces = false) (hL : L ≤ 384) (C0 : lw_At p s m meth c b L xs) : W p l e room_1 s m #[Value.ref b] below meth c s.heap [] 0 0 (lw_Z below #[Value.ref b] s) (entryFrame m ([Value.ref b] : List Value).toArray 7) := by
  obtain ⟨sad, hsb, hST⟩ := bd_statics C0
  obtain ⟨hx, hb, hr, hml, hown, hts, hX, hbl, hlocks, hgv⟩ := C0
  obtain ⟨k, d, h9, hd, hev, hcells, hslots⟩ := LAW xs L hL
  have htb : ∀ w ∈ tbl, w.before #[Value.ref b] s = true := fun w hw => hts w (List.mem_filter.mp hw).1
  have hkn : ∀ i : Nat, ∃ q : ClassId × (Nat → Nat), i < 12 → u_Kn s (bd_Cn i) (bd_T i) (bd_nf i) q.1 q.2 := by
    intro i
    by_cases hi : i < 12
    · obtain ⟨c0, iS0, h0⟩ := u_known (C := bd_Cn i) (T := bd_T i) (N := bd_nf i) (n := bd_nf i) htb (bd_cw hi) (htb _ (bd_insw hi).1)
      exact ⟨(c0, iS0), fun _ => h0⟩
    · exact ⟨(0, fun _ => 0), fun h => absurd h hi⟩
  obtain ⟨dd, hdd⟩ := Classical.axiomOfChoice hkn
  have hK : va_K (fun i => (dd i).1, fun i => (dd i).2) clA [] s := by
    refine ⟨fun i q hq => ?_, fun j q h => by simp at h⟩
    have hi : i < 12 := (List.getElem?_eq_some_iff.mp hq).1
    rw [bd_cl hi] at hq
    cases hq
    exact hdd i hi
  have hSW : bd_SW s := by
    intro w hw hn
    have h1 := hts w hw
    unfold bd_isN at hn
    split at hn
    · exact va_Nw.of rfl h1
    · exact va_Nw.of rfl h1
    · exact va_AO.of h1
    · exact va_Nw.of rfl h1
    · exact va_Nw.of rfl h1
    · cases hn
  have F : bd_Fix xs L 308 (fun i => (dd i).1, fun i => (dd i).2) (fun q : Nat => s.heap.size ≤ q) p s m #[Value.ref b] meth c sad := ⟨hx, hb, hml, hown, htb, fun _ h => h, hK, hST, hSW, fun h => absurd h (by decide)⟩
  have hR : bd_Rel xs L (fun i => (dd i).1, fun i => (dd i).2) (fun q : Nat => s.heap.size ≤ q) s sad sad (fun _ => 0) (bd_h0 xs L) s.heap [] := by
    have hws : bd_ws sad (fun _ => 0) (bd_h0 xs L) = [] := rfl
    refine ⟨by rw [hws]; exact fun k q h => by simp at h, by rw [hws]; exact ⟨fun i j p q h => by simp at h, fun k q h => by simp at h⟩, va_S.rf, fun a h1 h2 _ => ?_, bd_h0_wf xs L, bd_h0_stat xs L, fun _ _ => rfl⟩
    have h2' : a < 30 := h2
    omega
  have hl := bd_entry (ad := sad) (N := 30) (n := 7) (As := [.ref 29]) (fun v hv => by
    have : v = .ref 29 := by simpa using hv
    subst this
    exact (by decide : (29 : Nat) < 30)) (by decide)
  rw [lg_entry_eq]
  have e29 : ([.ref 29] : List Value).map (bd_cv sad) = [.ref b] := by
    show [Value.ref (sad 29)] = _
    rw [hsb]
  rw [e29] at hl
  have hm := ev_mono _ _ _ _ _ _ _ _ _ hev
  refine SIM k p l e room_1 s m #[Value.ref b] below meth c _ xs L 308 (fun i => (dd i).1, fun i => (dd i).2) (fun q : Nat => s.heap.size ≤ q) sad d 0 (bd_loc 7 [.ref 29]) [] (bd_h0 xs L) (some (.int 1)) h9 sad (fun _ => 0) s.heap [] _ 0 0 hl0 hev F hR hl (fun v hv => by cases hv) rfl (by show d + 1 ≤ 2048; omega) (by show (d + 1) * 64 ≤ 84000; omega) (by show 0 + (hC h9 - 0) ≤ 600128; omega) (by show 0 + (hS h9 - 0) ≤ 7301098; omega) ?_
  intro pc raw res st h1 ad' ca' H' locs' ls' L' hfe hend he hR' hl' hst' hLn hext hN1 hC1 hS1
  have hok := AOK 308 pc raw res hfe
  have hm2 := bd_end_mono he
  have hm0 : hC (bd_h0 xs L) = 0 ∧ hS (bd_h0 xs L) = 0 := ⟨rfl, rfl⟩
  unfold bd_end at he
  split at he
  · split at he
    · rename_i v
      split at he
      · cases he
        refine W.widen (k := 600128) (n := 7301098) (by omega) (by omega) ?_
        exact W.forget (locs := []) hR'.2.2.1.2.2 (lw_ret hx hb hr hlocks (hok.dec rfl))
      · cases he
    · cases he
  · split at he
    · split at he <;> cases he
    · cases he
  · split at he
    · split at he <;> cases he
    · split at he <;> cases he
    · cases he
  · split at he
    · split at he <;> cases he
    · cases he
  · split at he
    · split at he
      · rename_i hc
        exact absurd hc.2 (by decide)
      · cases he
    · cases he
  · cases he
end START
