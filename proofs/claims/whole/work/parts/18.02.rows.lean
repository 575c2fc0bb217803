/-! rows of Rn, one an instruction -/
section RW
variable {d mi pc rs : Nat} {L L1 : Lc} {st : List Value} {h : Hp} {v : Option Value × Hp} {off : Int} {t : Nat}
theorem rn_null (hfe : fe mi pc = some (.aconst_null, rs)) (k : Rn d mi (pc + 1) L (va_rf none :: st) h v) : Rn d mi pc L st h v := Rn.one hfe rfl rfl rfl k
theorem rn_iconst {n : Int} {x : Int32} (hfe : fe mi pc = some (.iconst n, rs)) (hx : Int32.ofInt n = x) (k : Rn d mi (pc + 1) L (.int x :: st) h v) : Rn d mi pc L st h v := by subst hx; exact Rn.one hfe rfl rfl rfl k
theorem rn_bipush {n : Int} {x : Int32} (hfe : fe mi pc = some (.bipush n, rs)) (hx : (Int8.ofInt n).toInt32 = x) (k : Rn d mi (pc + 2) L (.int x :: st) h v) : Rn d mi pc L st h v := by subst hx; exact Rn.one hfe rfl rfl rfl k
theorem rn_sipush {n : Int} {x : Int32} (hfe : fe mi pc = some (.sipush n, rs)) (hx : (Int16.ofInt n).toInt32 = x) (k : Rn d mi (pc + 3) L (.int x :: st) h v) : Rn d mi pc L st h v := by subst hx; exact Rn.one hfe rfl rfl rfl k
theorem rn_lconst {n : Fin 2} {x : Int64} (hfe : fe mi pc = some (.lconst n, rs)) (hx : Int64.ofNat (n : Nat) = x) (k : Rn d mi (pc + 1) L (.long x :: st) h v) : Rn d mi pc L st h v := by subst hx; exact Rn.one hfe rfl rfl rfl k
theorem rn_ldc {ix : Nat} {x : Int32} (hfe : fe mi pc = some (.ldc ix, rs)) (hx : Int32.ofNat rs = x) (k : Rn d mi (pc + 2) L (.int x :: st) h v) : Rn d mi pc L st h v := by subst hx; exact Rn.one hfe rfl rfl rfl k
theorem rn_ldc_w {ix : Nat} {x : Int32} (hfe : fe mi pc = some (.ldc_w ix, rs)) (hx : Int32.ofNat rs = x) (k : Rn d mi (pc + 3) L (.int x :: st) h v) : Rn d mi pc L st h v := by subst hx; exact Rn.one hfe rfl rfl rfl k
theorem rn_ldc2_w {ix : Nat} {x : Int64} (hfe : fe mi pc = some (.ldc2_w ix, rs)) (hx : Int64.ofNat rs = x) (k : Rn d mi (pc + 3) L (.long x :: st) h v) : Rn d mi pc L st h v := by subst hx; exact Rn.one hfe rfl rfl rfl k
theorem rn_getstatic {ix : Nat} (hfe : fe mi pc = some (.getstatic ix, rs)) (k : Rn d mi (pc + 3) L (va_rf (some rs) :: st) h v) : Rn d mi pc L st h v := Rn.one hfe rfl rfl rfl k
theorem rn_iload {i : Nat} {x : Int32} (hfe : fe mi pc = some (.iload i, rs)) (hl : bd_ld L i = some (.int x)) (k : Rn d mi (pc + 2) L (.int x :: st) h v) : Rn d mi pc L st h v := Rn.one hfe rfl rfl (by show bd_loadI _ _ _ _ _ = _; unfold bd_loadI; rw [hl]) k
theorem rn_iload_n {i : Fin 4} {x : Int32} (hfe : fe mi pc = some (.iload_n i, rs)) (hl : bd_ld L i = some (.int x)) (k : Rn d mi (pc + 1) L (.int x :: st) h v) : Rn d mi pc L st h v := Rn.one hfe rfl rfl (by show bd_loadI _ _ _ _ _ = _; unfold bd_loadI; rw [hl]) k
theorem rn_lload {i : Nat} {x : Int64} (hfe : fe mi pc = some (.lload i, rs)) (hl : bd_ld L i = some (.long x)) (k : Rn d mi (pc + 2) L (.long x :: st) h v) : Rn d mi pc L st h v := Rn.one hfe rfl rfl (by show bd_loadL _ _ _ _ _ = _; unfold bd_loadL; rw [hl]) k
theorem rn_lload_n {i : Fin 4} {x : Int64} (hfe : fe mi pc = some (.lload_n i, rs)) (hl : bd_ld L i = some (.long x)) (k : Rn d mi (pc + 1) L (.long x :: st) h v) : Rn d mi pc L st h v := Rn.one hfe rfl rfl (by show bd_loadL _ _ _ _ _ = _; unfold bd_loadL; rw [hl]) k
theorem rn_aload {i : Nat} {x : Option Nat} (hfe : fe mi pc = some (.aload i, rs)) (hl : bd_ld L i = some (va_rf x)) (k : Rn d mi (pc + 2) L (va_rf x :: st) h v) : Rn d mi pc L st h v := Rn.one hfe rfl rfl (by show bd_loadA _ _ _ _ _ = _; unfold bd_loadA; rw [hl]; cases x <;> rfl) k
theorem rn_aload_n {i : Fin 4} {x : Option Nat} (hfe : fe mi pc = some (.aload_n i, rs)) (hl : bd_ld L i = some (va_rf x)) (k : Rn d mi (pc + 1) L (va_rf x :: st) h v) : Rn d mi pc L st h v := Rn.one hfe rfl rfl (by show bd_loadA _ _ _ _ _ = _; unfold bd_loadA; rw [hl]; cases x <;> rfl) k
theorem bd_st1_set {i : Nat} {x : Value} (hw : i = 0 ∨ bd_wide L (i - 1) = false) : bd_st1 L i x = L.set i (some x) := by
  unfold bd_st1 bd_cut
  rw [if_neg]
  rintro ⟨h1, h2⟩
  rcases hw with z | z
  · exact h1 z
  · rw [z] at h2; cases h2
theorem bd_st2_set {i : Nat} {x : Value} (hw : i = 0 ∨ bd_wide L (i - 1) = false) : bd_st2 L i x = (L.set i (some x)).set (i + 1) none := by
  unfold bd_st2 bd_cut
  rw [if_neg]
  rintro ⟨h1, h2⟩
  rcases hw with z | z
  · exact h1 z
  · rw [z] at h2; cases h2
theorem bd_wideR {j : Nat} {q : Option Nat} (hl : bd_ld L j = some (va_rf q)) : bd_wide L j = false := by
  unfold bd_wide
  rw [hl]
  cases q <;> rfl
theorem rn_istore {i : Nat} {x : Int32} (hfe : fe mi pc = some (.istore i, rs)) (hi : (i : Nat) < L.length) (hw : (i : Nat) = 0 ∨ bd_wide L (i - 1) = false) (hL : L.set i (some (.int x)) = L1) (k : Rn d mi (pc + 2) L1 st h v) : Rn d mi pc L (.int x :: st) h v := Rn.one hfe rfl rfl (by unfold bd_one; dsimp only [bd_stI]; rw [if_pos hi, bd_st1_set hw, hL]) k
theorem rn_istore_n {i : Fin 4} {x : Int32} (hfe : fe mi pc = some (.istore_n i, rs)) (hi : (i : Nat) < L.length) (hw : (i : Nat) = 0 ∨ bd_wide L (i - 1) = false) (hL : L.set i (some (.int x)) = L1) (k : Rn d mi (pc + 1) L1 st h v) : Rn d mi pc L (.int x :: st) h v := Rn.one hfe rfl rfl (by unfold bd_one; dsimp only [bd_stI]; rw [if_pos hi, bd_st1_set hw, hL]) k
theorem rn_lstore {i : Nat} {x : Int64} (hfe : fe mi pc = some (.lstore i, rs)) (hi : (i : Nat) + 1 < L.length) (hw : (i : Nat) = 0 ∨ bd_wide L (i - 1) = false) (hL : (L.set i (some (.long x))).set (i + 1) none = L1) (k : Rn d mi (pc + 2) L1 st h v) : Rn d mi pc L (.long x :: st) h v := Rn.one hfe rfl rfl (by unfold bd_one; dsimp only [bd_stL]; rw [if_pos hi, bd_st2_set hw, hL]) k
theorem rn_lstore_n {i : Fin 4} {x : Int64} (hfe : fe mi pc = some (.lstore_n i, rs)) (hi : (i : Nat) + 1 < L.length) (hw : (i : Nat) = 0 ∨ bd_wide L (i - 1) = false) (hL : (L.set i (some (.long x))).set (i + 1) none = L1) (k : Rn d mi (pc + 1) L1 st h v) : Rn d mi pc L (.long x :: st) h v := Rn.one hfe rfl rfl (by unfold bd_one; dsimp only [bd_stL]; rw [if_pos hi, bd_st2_set hw, hL]) k
theorem rn_astore {i : Nat} {x : Option Nat} (hfe : fe mi pc = some (.astore i, rs)) (hi : (i : Nat) < L.length) (hw : (i : Nat) = 0 ∨ bd_wide L (i - 1) = false) (hL : L.set i (some (va_rf x)) = L1) (k : Rn d mi (pc + 2) L1 st h v) : Rn d mi pc L (va_rf x :: st) h v := Rn.one hfe rfl rfl (by show bd_stA _ _ _ _ _ = _; rw [← hL, ← bd_st1_set hw]; cases x <;> (show (if _ then _ else _) = _; rw [if_pos hi]; rfl)) k
theorem rn_astore_n {i : Fin 4} {x : Option Nat} (hfe : fe mi pc = some (.astore_n i, rs)) (hi : (i : Nat) < L.length) (hw : (i : Nat) = 0 ∨ bd_wide L (i - 1) = false) (hL : L.set i (some (va_rf x)) = L1) (k : Rn d mi (pc + 1) L1 st h v) : Rn d mi pc L (va_rf x :: st) h v := Rn.one hfe rfl rfl (by show bd_stA _ _ _ _ _ = _; rw [← hL, ← bd_st1_set hw]; cases x <;> (show (if _ then _ else _) = _; rw [if_pos hi]; rfl)) k
theorem rn_iinc {i : Nat} {n : Int} {x y : Int32} (hfe : fe mi pc = some (.iinc i n, rs)) (hl : bd_ld L i = some (.int x)) (hi : i < L.length) (hw : i = 0 ∨ bd_wide L (i - 1) = false) (hy : x + Int32.ofInt n = y) (hL : L.set i (some (.int y)) = L1) (k : Rn d mi (pc + 3) L1 st h v) : Rn d mi pc L st h v := Rn.one hfe rfl rfl (by show bd_inc _ _ _ _ _ _ = _; unfold bd_inc; rw [hl]; dsimp only; rw [if_pos hi, bd_st1_set hw, hy, hL]) k
theorem rn_iadd {x y : Int32} (hfe : fe mi pc = some (.iadd, rs)) (k : Rn d mi (pc + 1) L (.int (x + y) :: st) h v) : Rn d mi pc L (.int y :: .int x :: st) h v := Rn.one hfe rfl rfl rfl k
theorem rn_isub {x y : Int32} (hfe : fe mi pc = some (.isub, rs)) (k : Rn d mi (pc + 1) L (.int (x - y) :: st) h v) : Rn d mi pc L (.int y :: .int x :: st) h v := Rn.one hfe rfl rfl rfl k
theorem rn_imul {x y : Int32} (hfe : fe mi pc = some (.imul, rs)) (k : Rn d mi (pc + 1) L (.int (x * y) :: st) h v) : Rn d mi pc L (.int y :: .int x :: st) h v := Rn.one hfe rfl rfl rfl k
theorem rn_iand {x y : Int32} (hfe : fe mi pc = some (.iand, rs)) (k : Rn d mi (pc + 1) L (.int (x &&& y) :: st) h v) : Rn d mi pc L (.int y :: .int x :: st) h v := Rn.one hfe rfl rfl rfl k
theorem rn_ior {x y : Int32} (hfe : fe mi pc = some (.ior, rs)) (k : Rn d mi (pc + 1) L (.int (x ||| y) :: st) h v) : Rn d mi pc L (.int y :: .int x :: st) h v := Rn.one hfe rfl rfl rfl k
theorem rn_ixor {x y : Int32} (hfe : fe mi pc = some (.ixor, rs)) (k : Rn d mi (pc + 1) L (.int (x ^^^ y) :: st) h v) : Rn d mi pc L (.int y :: .int x :: st) h v := Rn.one hfe rfl rfl rfl k
theorem rn_ishl {x y : Int32} (hfe : fe mi pc = some (.ishl, rs)) (k : Rn d mi (pc + 1) L (.int (x <<< (y &&& 31)) :: st) h v) : Rn d mi pc L (.int y :: .int x :: st) h v := Rn.one hfe rfl rfl rfl k
theorem rn_ishr {x y : Int32} (hfe : fe mi pc = some (.ishr, rs)) (k : Rn d mi (pc + 1) L (.int (x >>> (y &&& 31)) :: st) h v) : Rn d mi pc L (.int y :: .int x :: st) h v := Rn.one hfe rfl rfl rfl k
theorem rn_iushr {x y : Int32} (hfe : fe mi pc = some (.iushr, rs)) (k : Rn d mi (pc + 1) L (.int ((x.toUInt32 >>> (y.toUInt32 &&& Int32.toUInt32 31)).toInt32) :: st) h v) : Rn d mi pc L (.int y :: .int x :: st) h v := Rn.one hfe rfl rfl rfl k
theorem rn_idiv {x y : Int32} (hfe : fe mi pc = some (.idiv, rs)) (hy : ¬ y = 0) (k : Rn d mi (pc + 1) L (.int (x / y) :: st) h v) : Rn d mi pc L (.int y :: .int x :: st) h v := Rn.one hfe rfl rfl (by unfold bd_one; dsimp only [bd_IId]; rw [if_neg hy]) k
theorem rn_irem {x y : Int32} (hfe : fe mi pc = some (.irem, rs)) (hy : ¬ y = 0) (k : Rn d mi (pc + 1) L (.int (x - x / y * y) :: st) h v) : Rn d mi pc L (.int y :: .int x :: st) h v := Rn.one hfe rfl rfl (by unfold bd_one; dsimp only [bd_IId]; rw [if_neg hy]) k
theorem rn_ladd {x y : Int64} (hfe : fe mi pc = some (.ladd, rs)) (k : Rn d mi (pc + 1) L (.long (x + y) :: st) h v) : Rn d mi pc L (.long y :: .long x :: st) h v := Rn.one hfe rfl rfl rfl k
theorem rn_lsub {x y : Int64} (hfe : fe mi pc = some (.lsub, rs)) (k : Rn d mi (pc + 1) L (.long (x - y) :: st) h v) : Rn d mi pc L (.long y :: .long x :: st) h v := Rn.one hfe rfl rfl rfl k
theorem rn_lmul {x y : Int64} (hfe : fe mi pc = some (.lmul, rs)) (k : Rn d mi (pc + 1) L (.long (x * y) :: st) h v) : Rn d mi pc L (.long y :: .long x :: st) h v := Rn.one hfe rfl rfl rfl k
theorem rn_land {x y : Int64} (hfe : fe mi pc = some (.land, rs)) (k : Rn d mi (pc + 1) L (.long (x &&& y) :: st) h v) : Rn d mi pc L (.long y :: .long x :: st) h v := Rn.one hfe rfl rfl rfl k
theorem rn_lor {x y : Int64} (hfe : fe mi pc = some (.lor, rs)) (k : Rn d mi (pc + 1) L (.long (x ||| y) :: st) h v) : Rn d mi pc L (.long y :: .long x :: st) h v := Rn.one hfe rfl rfl rfl k
theorem rn_lxor {x y : Int64} (hfe : fe mi pc = some (.lxor, rs)) (k : Rn d mi (pc + 1) L (.long (x ^^^ y) :: st) h v) : Rn d mi pc L (.long y :: .long x :: st) h v := Rn.one hfe rfl rfl rfl k
theorem rn_lshl {x : Int64} {y : Int32} (hfe : fe mi pc = some (.lshl, rs)) (k : Rn d mi (pc + 1) L (.long (x <<< (y.toInt64 &&& 63)) :: st) h v) : Rn d mi pc L (.int y :: .long x :: st) h v := Rn.one hfe rfl rfl rfl k
theorem rn_lshr {x : Int64} {y : Int32} (hfe : fe mi pc = some (.lshr, rs)) (k : Rn d mi (pc + 1) L (.long (x >>> (y.toInt64 &&& 63)) :: st) h v) : Rn d mi pc L (.int y :: .long x :: st) h v := Rn.one hfe rfl rfl rfl k
theorem rn_lushr {x : Int64} {y : Int32} (hfe : fe mi pc = some (.lushr, rs)) (k : Rn d mi (pc + 1) L (.long ((x.toUInt64 >>> (y.toInt64.toUInt64 &&& Int64.toUInt64 63)).toInt64) :: st) h v) : Rn d mi pc L (.int y :: .long x :: st) h v := Rn.one hfe rfl rfl rfl k
theorem rn_lcmp {x y : Int64} (hfe : fe mi pc = some (.lcmp, rs)) (k : Rn d mi (pc + 1) L (.int (lg_cmp x y) :: st) h v) : Rn d mi pc L (.long y :: .long x :: st) h v := Rn.one hfe rfl rfl rfl k
theorem rn_i2l {x : Int32} (hfe : fe mi pc = some (.i2l, rs)) (k : Rn d mi (pc + 1) L (.long x.toInt64 :: st) h v) : Rn d mi pc L (.int x :: st) h v := Rn.one hfe rfl rfl rfl k
theorem rn_l2i {x : Int64} (hfe : fe mi pc = some (.l2i, rs)) (k : Rn d mi (pc + 1) L (.int x.toInt32 :: st) h v) : Rn d mi pc L (.long x :: st) h v := Rn.one hfe rfl rfl rfl k
theorem rn_dup {x : Value} (hfe : fe mi pc = some (.dup, rs)) (hx : x.category = 1) (k : Rn d mi (pc + 1) L (x :: x :: st) h v) : Rn d mi pc L (x :: st) h v := Rn.one hfe rfl rfl (by unfold bd_one; dsimp only [bd_dup]; rw [if_pos hx]) k
theorem rn_dup2 {x y : Value} (hfe : fe mi pc = some (.dup2, rs)) (hx : x.category = 1) (hy : y.category = 1) (k : Rn d mi (pc + 1) L (x :: y :: x :: y :: st) h v) : Rn d mi pc L (x :: y :: st) h v := Rn.one hfe rfl rfl (by unfold bd_one; dsimp only [bd_dup2]; rw [if_pos ⟨hx, hy⟩]) k
theorem rn_pop {x : Value} (hfe : fe mi pc = some (.pop, rs)) (hx : x.category = 1) (k : Rn d mi (pc + 1) L st h v) : Rn d mi pc L (x :: st) h v := Rn.one hfe rfl rfl (by unfold bd_one; dsimp only [bd_pop]; rw [if_pos hx]) k
theorem rn_if_eq {x : Int32} (hfe : fe mi pc = some (.ifCond .eq off, rs)) (ht : bd_tg pc off = some t) (kt : x = 0 → Rn d mi t L st h v) (kf : ¬ (x = 0) → Rn d mi (pc + 3) L st h v) : Rn d mi pc L (.int x :: st) h v := by
  by_cases hc : x = 0
  · exact Rn.one hfe rfl rfl (by unfold bd_one; dsimp only [bd_if]; rw [ht]; dsimp only; rw [if_pos (decide_eq_true hc)]) (kt hc)
  · exact Rn.one hfe rfl rfl (by unfold bd_one; dsimp only [bd_if]; rw [ht]; dsimp only; rw [if_neg (fun z => hc (of_decide_eq_true z))]) (kf hc)
theorem rn_if_ne {x : Int32} (hfe : fe mi pc = some (.ifCond .ne off, rs)) (ht : bd_tg pc off = some t) (kt : ¬ x = 0 → Rn d mi t L st h v) (kf : ¬ (¬ x = 0) → Rn d mi (pc + 3) L st h v) : Rn d mi pc L (.int x :: st) h v := by
  by_cases hc : ¬ x = 0
  · exact Rn.one hfe rfl rfl (by unfold bd_one; dsimp only [bd_if]; rw [ht]; dsimp only; rw [if_pos (decide_eq_true hc)]) (kt hc)
  · exact Rn.one hfe rfl rfl (by unfold bd_one; dsimp only [bd_if]; rw [ht]; dsimp only; rw [if_neg (fun z => hc (of_decide_eq_true z))]) (kf hc)
theorem rn_if_lt {x : Int32} (hfe : fe mi pc = some (.ifCond .lt off, rs)) (ht : bd_tg pc off = some t) (kt : x < 0 → Rn d mi t L st h v) (kf : ¬ (x < 0) → Rn d mi (pc + 3) L st h v) : Rn d mi pc L (.int x :: st) h v := by
  by_cases hc : x < 0
  · exact Rn.one hfe rfl rfl (by unfold bd_one; dsimp only [bd_if]; rw [ht]; dsimp only; rw [if_pos (decide_eq_true hc)]) (kt hc)
  · exact Rn.one hfe rfl rfl (by unfold bd_one; dsimp only [bd_if]; rw [ht]; dsimp only; rw [if_neg (fun z => hc (of_decide_eq_true z))]) (kf hc)
theorem rn_if_ge {x : Int32} (hfe : fe mi pc = some (.ifCond .ge off, rs)) (ht : bd_tg pc off = some t) (kt : 0 ≤ x → Rn d mi t L st h v) (kf : ¬ (0 ≤ x) → Rn d mi (pc + 3) L st h v) : Rn d mi pc L (.int x :: st) h v := by
  by_cases hc : 0 ≤ x
  · exact Rn.one hfe rfl rfl (by unfold bd_one; dsimp only [bd_if]; rw [ht]; dsimp only; rw [if_pos (decide_eq_true hc)]) (kt hc)
  · exact Rn.one hfe rfl rfl (by unfold bd_one; dsimp only [bd_if]; rw [ht]; dsimp only; rw [if_neg (fun z => hc (of_decide_eq_true z))]) (kf hc)
theorem rn_if_gt {x : Int32} (hfe : fe mi pc = some (.ifCond .gt off, rs)) (ht : bd_tg pc off = some t) (kt : 0 < x → Rn d mi t L st h v) (kf : ¬ (0 < x) → Rn d mi (pc + 3) L st h v) : Rn d mi pc L (.int x :: st) h v := by
  by_cases hc : 0 < x
  · exact Rn.one hfe rfl rfl (by unfold bd_one; dsimp only [bd_if]; rw [ht]; dsimp only; rw [if_pos (decide_eq_true hc)]) (kt hc)
  · exact Rn.one hfe rfl rfl (by unfold bd_one; dsimp only [bd_if]; rw [ht]; dsimp only; rw [if_neg (fun z => hc (of_decide_eq_true z))]) (kf hc)
theorem rn_if_le {x : Int32} (hfe : fe mi pc = some (.ifCond .le off, rs)) (ht : bd_tg pc off = some t) (kt : x ≤ 0 → Rn d mi t L st h v) (kf : ¬ (x ≤ 0) → Rn d mi (pc + 3) L st h v) : Rn d mi pc L (.int x :: st) h v := by
  by_cases hc : x ≤ 0
  · exact Rn.one hfe rfl rfl (by unfold bd_one; dsimp only [bd_if]; rw [ht]; dsimp only; rw [if_pos (decide_eq_true hc)]) (kt hc)
  · exact Rn.one hfe rfl rfl (by unfold bd_one; dsimp only [bd_if]; rw [ht]; dsimp only; rw [if_neg (fun z => hc (of_decide_eq_true z))]) (kf hc)
theorem rn_icmp_eq {x y : Int32} (hfe : fe mi pc = some (.if_icmp .eq off, rs)) (ht : bd_tg pc off = some t) (kt : x = y → Rn d mi t L st h v) (kf : ¬ (x = y) → Rn d mi (pc + 3) L st h v) : Rn d mi pc L (.int y :: .int x :: st) h v := by
  by_cases hc : x = y
  · exact Rn.one hfe rfl rfl (by unfold bd_one; dsimp only [bd_icmp]; rw [ht]; dsimp only; rw [if_pos (decide_eq_true hc)]) (kt hc)
  · exact Rn.one hfe rfl rfl (by unfold bd_one; dsimp only [bd_icmp]; rw [ht]; dsimp only; rw [if_neg (fun z => hc (of_decide_eq_true z))]) (kf hc)
theorem rn_icmp_ne {x y : Int32} (hfe : fe mi pc = some (.if_icmp .ne off, rs)) (ht : bd_tg pc off = some t) (kt : ¬ x = y → Rn d mi t L st h v) (kf : ¬ (¬ x = y) → Rn d mi (pc + 3) L st h v) : Rn d mi pc L (.int y :: .int x :: st) h v := by
  by_cases hc : ¬ x = y
  · exact Rn.one hfe rfl rfl (by unfold bd_one; dsimp only [bd_icmp]; rw [ht]; dsimp only; rw [if_pos (decide_eq_true hc)]) (kt hc)
  · exact Rn.one hfe rfl rfl (by unfold bd_one; dsimp only [bd_icmp]; rw [ht]; dsimp only; rw [if_neg (fun z => hc (of_decide_eq_true z))]) (kf hc)
theorem rn_icmp_lt {x y : Int32} (hfe : fe mi pc = some (.if_icmp .lt off, rs)) (ht : bd_tg pc off = some t) (kt : x < y → Rn d mi t L st h v) (kf : ¬ (x < y) → Rn d mi (pc + 3) L st h v) : Rn d mi pc L (.int y :: .int x :: st) h v := by
  by_cases hc : x < y
  · exact Rn.one hfe rfl rfl (by unfold bd_one; dsimp only [bd_icmp]; rw [ht]; dsimp only; rw [if_pos (decide_eq_true hc)]) (kt hc)
  · exact Rn.one hfe rfl rfl (by unfold bd_one; dsimp only [bd_icmp]; rw [ht]; dsimp only; rw [if_neg (fun z => hc (of_decide_eq_true z))]) (kf hc)
theorem rn_icmp_ge {x y : Int32} (hfe : fe mi pc = some (.if_icmp .ge off, rs)) (ht : bd_tg pc off = some t) (kt : y ≤ x → Rn d mi t L st h v) (kf : ¬ (y ≤ x) → Rn d mi (pc + 3) L st h v) : Rn d mi pc L (.int y :: .int x :: st) h v := by
  by_cases hc : y ≤ x
  · exact Rn.one hfe rfl rfl (by unfold bd_one; dsimp only [bd_icmp]; rw [ht]; dsimp only; rw [if_pos (decide_eq_true hc)]) (kt hc)
  · exact Rn.one hfe rfl rfl (by unfold bd_one; dsimp only [bd_icmp]; rw [ht]; dsimp only; rw [if_neg (fun z => hc (of_decide_eq_true z))]) (kf hc)
theorem rn_icmp_gt {x y : Int32} (hfe : fe mi pc = some (.if_icmp .gt off, rs)) (ht : bd_tg pc off = some t) (kt : y < x → Rn d mi t L st h v) (kf : ¬ (y < x) → Rn d mi (pc + 3) L st h v) : Rn d mi pc L (.int y :: .int x :: st) h v := by
  by_cases hc : y < x
  · exact Rn.one hfe rfl rfl (by unfold bd_one; dsimp only [bd_icmp]; rw [ht]; dsimp only; rw [if_pos (decide_eq_true hc)]) (kt hc)
  · exact Rn.one hfe rfl rfl (by unfold bd_one; dsimp only [bd_icmp]; rw [ht]; dsimp only; rw [if_neg (fun z => hc (of_decide_eq_true z))]) (kf hc)
theorem rn_icmp_le {x y : Int32} (hfe : fe mi pc = some (.if_icmp .le off, rs)) (ht : bd_tg pc off = some t) (kt : x ≤ y → Rn d mi t L st h v) (kf : ¬ (x ≤ y) → Rn d mi (pc + 3) L st h v) : Rn d mi pc L (.int y :: .int x :: st) h v := by
  by_cases hc : x ≤ y
  · exact Rn.one hfe rfl rfl (by unfold bd_one; dsimp only [bd_icmp]; rw [ht]; dsimp only; rw [if_pos (decide_eq_true hc)]) (kt hc)
  · exact Rn.one hfe rfl rfl (by unfold bd_one; dsimp only [bd_icmp]; rw [ht]; dsimp only; rw [if_neg (fun z => hc (of_decide_eq_true z))]) (kf hc)
def dY (q : Option Nat) : Bool := match q with
  | some a => decide (30 ≤ a)
  | none => true
theorem bd_rd_rf {q : Option Nat} (hq : dY q = true) : bd_rd (va_rf q) = some q := by
  cases q with
  | none => rfl
  | some a => show (if 30 ≤ a then some (some a) else none) = _; rw [if_pos (of_decide_eq_true hq)]
theorem bd_rv_rf {q : Option Nat} : bd_rv (va_rf q) = some q := by cases q <;> rfl
theorem rn_acmp_eq {x y : Option Nat} (hfe : fe mi pc = some (.if_acmp .eq off, rs)) (hx : dY x = true) (hy : dY y = true) (ht : bd_tg pc off = some t) (kt : x = y → Rn d mi t L st h v) (kf : ¬ x = y → Rn d mi (pc + 3) L st h v) : Rn d mi pc L (va_rf y :: va_rf x :: st) h v := by
  by_cases hc : x = y
  · exact Rn.one hfe rfl rfl (by unfold bd_one; dsimp only [bd_acmp]; rw [bd_rd_rf hx, bd_rd_rf hy, ht]; dsimp only; rw [if_pos (decide_eq_true hc)]) (kt hc)
  · exact Rn.one hfe rfl rfl (by unfold bd_one; dsimp only [bd_acmp]; rw [bd_rd_rf hx, bd_rd_rf hy, ht]; dsimp only; rw [if_neg (fun z => hc (of_decide_eq_true z))]) (kf hc)
theorem rn_acmp_ne {x y : Option Nat} (hfe : fe mi pc = some (.if_acmp .ne off, rs)) (hx : dY x = true) (hy : dY y = true) (ht : bd_tg pc off = some t) (kt : ¬ x = y → Rn d mi t L st h v) (kf : x = y → Rn d mi (pc + 3) L st h v) : Rn d mi pc L (va_rf y :: va_rf x :: st) h v := by
  by_cases hc : x = y
  · exact Rn.one hfe rfl rfl (by unfold bd_one; dsimp only [bd_acmp]; rw [bd_rd_rf hx, bd_rd_rf hy, ht]; dsimp only; rw [if_neg (fun z => by rw [decide_eq_true hc] at z; cases z)]) (kf hc)
  · exact Rn.one hfe rfl rfl (by unfold bd_one; dsimp only [bd_acmp]; rw [bd_rd_rf hx, bd_rd_rf hy, ht]; dsimp only; rw [if_pos (decide_eq_false hc)]) (kt hc)
theorem rn_ifnull {x : Option Nat} (hfe : fe mi pc = some (.ifnull off, rs)) (ht : bd_tg pc off = some t) (kt : x = none → Rn d mi t L st h v) (kf : ¬ x = none → Rn d mi (pc + 3) L st h v) : Rn d mi pc L (va_rf x :: st) h v := by
  by_cases hc : x = none
  · exact Rn.one hfe rfl rfl (by unfold bd_one; dsimp only [bd_ifn]; rw [bd_rv_rf, ht]; dsimp only; rw [if_pos (decide_eq_true hc)]) (kt hc)
  · exact Rn.one hfe rfl rfl (by unfold bd_one; dsimp only [bd_ifn]; rw [bd_rv_rf, ht]; dsimp only; rw [if_neg (fun z => hc (of_decide_eq_true z))]) (kf hc)
theorem rn_ifnonnull {x : Option Nat} (hfe : fe mi pc = some (.ifnonnull off, rs)) (ht : bd_tg pc off = some t) (kt : ¬ x = none → Rn d mi t L st h v) (kf : x = none → Rn d mi (pc + 3) L st h v) : Rn d mi pc L (va_rf x :: st) h v := by
  by_cases hc : x = none
  · exact Rn.one hfe rfl rfl (by unfold bd_one; dsimp only [bd_ifn]; rw [bd_rv_rf, ht]; dsimp only; rw [if_neg (fun z => by rw [decide_eq_true hc] at z; cases z)]) (kf hc)
  · exact Rn.one hfe rfl rfl (by unfold bd_one; dsimp only [bd_ifn]; rw [bd_rv_rf, ht]; dsimp only; rw [if_pos (decide_eq_false hc)]) (kt hc)
theorem rn_goto (hfe : fe mi pc = some (.goto off, rs)) (ht : bd_tg pc off = some t) (k : Rn d mi t L st h v) : Rn d mi pc L st h v := Rn.one hfe rfl rfl (by show (bd_tg pc off).map _ = _; rw [ht]; rfl) k
theorem rn_gI {ix c k : Nat} {q : Option Nat} {ρ : Type} {r : ρ} {F : Int32 → Option ρ} (hfe : fe mi pc = some (.getfield ix, rs)) (hc : rs / 64 % 32 = c ∧ rs % 64 = k ∧ rs / 2048 ≠ 1 ∧ rs / 2048 ≠ 2) (hb : (gI c k q h).bind F = some r) (kk : ∀ x, F x = some r → Rn d mi (pc + 3) L (.int x :: st) h v) : Rn d mi pc L (va_rf q :: st) h v := by
  obtain ⟨x, hx, hF⟩ := Option.bind_eq_some_iff.mp hb
  refine Rn.one hfe rfl rfl ?_ (kk x hF)
  show bd_getf _ _ _ _ _ = _
  unfold gI at hx
  cases q with
  | none => cases hx
  | some a =>
    dsimp only at hx
    split at hx
    · rename_i hk
      cases hx
      show (if hK h a = rs / 64 % 32 then some (pc + 3, L, bd_slot h (rs / 2048) a (rs % 64) :: st, h) else none) = _
      rw [hc.1, hc.2.1, if_pos hk]
      unfold bd_slot
      rw [if_neg hc.2.2.1, if_neg hc.2.2.2]
    · cases hx
theorem rn_gJ {ix c k : Nat} {q : Option Nat} {ρ : Type} {r : ρ} {F : Int64 → Option ρ} (hfe : fe mi pc = some (.getfield ix, rs)) (hc : rs / 64 % 32 = c ∧ rs % 64 = k ∧ rs / 2048 = 1) (hb : (gJ c k q h).bind F = some r) (kk : ∀ x, F x = some r → Rn d mi (pc + 3) L (.long x :: st) h v) : Rn d mi pc L (va_rf q :: st) h v := by
  obtain ⟨x, hx, hF⟩ := Option.bind_eq_some_iff.mp hb
  refine Rn.one hfe rfl rfl ?_ (kk x hF)
  show bd_getf _ _ _ _ _ = _
  unfold gJ at hx
  cases q with
  | none => cases hx
  | some a =>
    dsimp only at hx
    split at hx
    · rename_i hk
      cases hx
      show (if hK h a = rs / 64 % 32 then some (pc + 3, L, bd_slot h (rs / 2048) a (rs % 64) :: st, h) else none) = _
      rw [hc.1, hc.2.1, if_pos hk]
      unfold bd_slot
      rw [if_pos hc.2.2]
    · cases hx
theorem rn_gQ {ix c k : Nat} {q : Option Nat} {ρ : Type} {r : ρ} {F : (Option Nat) → Option ρ} (hfe : fe mi pc = some (.getfield ix, rs)) (hc : rs / 64 % 32 = c ∧ rs % 64 = k ∧ rs / 2048 = 2) (hb : (gQ c k q h).bind F = some r) (kk : ∀ x, F x = some r → Rn d mi (pc + 3) L (va_rf x :: st) h v) : Rn d mi pc L (va_rf q :: st) h v := by
  obtain ⟨x, hx, hF⟩ := Option.bind_eq_some_iff.mp hb
  refine Rn.one hfe rfl rfl ?_ (kk x hF)
  show bd_getf _ _ _ _ _ = _
  unfold gQ at hx
  cases q with
  | none => cases hx
  | some a =>
    dsimp only at hx
    split at hx
    · rename_i hk
      cases hx
      show (if hK h a = rs / 64 % 32 then some (pc + 3, L, bd_slot h (rs / 2048) a (rs % 64) :: st, h) else none) = _
      rw [hc.1, hc.2.1, if_pos hk]
      unfold bd_slot
      rw [if_neg (by omega), if_pos hc.2.2]
    · cases hx
theorem rn_pI {ix c k : Nat} {q : Option Nat} {x : Int32} {ρ : Type} {r : ρ} {F : Hp → Option ρ} (hfe : fe mi pc = some (.putfield ix, rs)) (hc : rs / 64 % 32 = c ∧ rs % 64 = k ∧ rs / 2048 = 0) (hb : (pI c k q x h).bind F = some r) (kk : ∀ h1, F h1 = some r → Rn d mi (pc + 3) L st h1 v) : Rn d mi pc L (.int x :: va_rf q :: st) h v := by
  obtain ⟨h1, hx, hF⟩ := Option.bind_eq_some_iff.mp hb
  refine Rn.one hfe rfl rfl ?_ (kk h1 hF)
  show bd_putf _ _ _ _ _ = _
  unfold pI at hx
  obtain ⟨c1, c2, c3⟩ := hc
  cases q with
  | none => cases hx
  | some a =>
    dsimp only at hx
    split at hx
    · rename_i hk
      cases hx
      show (if _ then _ else _) = _
      rw [if_pos ⟨hk.1.trans c1.symm, hk.2, Or.inl c3⟩, c2]
    · cases hx
theorem rn_pZ {ix c k : Nat} {q : Option Nat} {x : Int32} {ρ : Type} {r : ρ} {F : Hp → Option ρ} (hfe : fe mi pc = some (.putfield ix, rs)) (hc : rs / 64 % 32 = c ∧ rs % 64 = k ∧ rs / 2048 = 3) (hb : (pZ c k q x h).bind F = some r) (kk : ∀ h1, F h1 = some r → Rn d mi (pc + 3) L st h1 v) : Rn d mi pc L (.int x :: va_rf q :: st) h v := by
  obtain ⟨h1, hx, hF⟩ := Option.bind_eq_some_iff.mp hb
  refine Rn.one hfe rfl rfl ?_ (kk h1 hF)
  show bd_putf _ _ _ _ _ = _
  unfold pZ at hx
  obtain ⟨c1, c2, c3⟩ := hc
  cases q with
  | none => cases hx
  | some a =>
    dsimp only at hx
    split at hx
    · rename_i hk
      cases hx
      show (if _ then _ else _) = _
      rw [if_pos ⟨hk.1.trans c1.symm, hk.2.1, Or.inr ⟨c3, hk.2.2⟩⟩, c2]
    · cases hx
theorem rn_pJ {ix c k : Nat} {q : Option Nat} {x : Int64} {ρ : Type} {r : ρ} {F : Hp → Option ρ} (hfe : fe mi pc = some (.putfield ix, rs)) (hc : rs / 64 % 32 = c ∧ rs % 64 = k ∧ rs / 2048 = 1) (hb : (pJ c k q x h).bind F = some r) (kk : ∀ h1, F h1 = some r → Rn d mi (pc + 3) L st h1 v) : Rn d mi pc L (.long x :: va_rf q :: st) h v := by
  obtain ⟨h1, hx, hF⟩ := Option.bind_eq_some_iff.mp hb
  refine Rn.one hfe rfl rfl ?_ (kk h1 hF)
  show bd_putf _ _ _ _ _ = _
  unfold pJ at hx
  obtain ⟨c1, c2, c3⟩ := hc
  cases q with
  | none => cases hx
  | some a =>
    dsimp only at hx
    split at hx
    · rename_i hk
      cases hx
      show (if _ then _ else _) = _
      rw [if_pos ⟨hk.1.trans c1.symm, hk.2, c3⟩, c2]
    · cases hx
theorem rn_pQ {ix c k : Nat} {q : Option Nat} {x : (Option Nat)} {ρ : Type} {r : ρ} {F : Hp → Option ρ} (hfe : fe mi pc = some (.putfield ix, rs)) (hc : rs / 64 % 32 = c ∧ rs % 64 = k ∧ rs / 2048 = 2) (hb : (pQ c k q x h).bind F = some r) (kk : ∀ h1, F h1 = some r → Rn d mi (pc + 3) L st h1 v) : Rn d mi pc L (va_rf x :: va_rf q :: st) h v := by
  obtain ⟨h1, hx, hF⟩ := Option.bind_eq_some_iff.mp hb
  refine Rn.one hfe rfl rfl ?_ (kk h1 hF)
  show bd_putf _ _ _ _ _ = _
  unfold pQ at hx
  obtain ⟨c1, c2, c3⟩ := hc
  cases q with
  | none => cases hx
  | some a =>
    dsimp only at hx
    split at hx
    · rename_i hk
      cases hx
      cases x <;> (show (if _ then _ else _) = _; rw [if_pos ⟨hk.1.trans c1.symm, hk.2, c3⟩, c2])
    · cases hx
theorem rn_aI {q : Option Nat} {i : Int32} {ρ : Type} {r : ρ} {F : Int32 → Option ρ} (hfe : fe mi pc = some (.iaload, rs)) (hb : (aI 12 q i h).bind F = some r) (kk : ∀ x, F x = some r → Rn d mi (pc + 1) L (.int x :: st) h v) : Rn d mi pc L (.int i :: va_rf q :: st) h v := by
  obtain ⟨x, hx, hF⟩ := Option.bind_eq_some_iff.mp hb
  refine Rn.one hfe rfl rfl ?_ (kk x hF)
  show bd_ald 12 _ _ _ _ = _
  unfold aI at hx
  cases q with
  | none => cases hx
  | some a =>
    dsimp only at hx
    split at hx
    · rename_i hk
      cases hx
      show (if _ then _ else _) = _
      rw [if_pos hk]
    · cases hx
theorem rn_aZ {q : Option Nat} {i : Int32} {ρ : Type} {r : ρ} {F : Int32 → Option ρ} (hfe : fe mi pc = some (.baload, rs)) (hb : (aI 14 q i h).bind F = some r) (kk : ∀ x, F x = some r → Rn d mi (pc + 1) L (.int x :: st) h v) : Rn d mi pc L (.int i :: va_rf q :: st) h v := by
  obtain ⟨x, hx, hF⟩ := Option.bind_eq_some_iff.mp hb
  refine Rn.one hfe rfl rfl ?_ (kk x hF)
  show bd_ald 14 _ _ _ _ = _
  unfold aI at hx
  cases q with
  | none => cases hx
  | some a =>
    dsimp only at hx
    split at hx
    · rename_i hk
      cases hx
      show (if _ then _ else _) = _
      rw [if_pos hk]
    · cases hx
theorem rn_aJ {q : Option Nat} {i : Int32} {ρ : Type} {r : ρ} {F : Int64 → Option ρ} (hfe : fe mi pc = some (.laload, rs)) (hb : (aJ q i h).bind F = some r) (kk : ∀ x, F x = some r → Rn d mi (pc + 1) L (.long x :: st) h v) : Rn d mi pc L (.int i :: va_rf q :: st) h v := by
  obtain ⟨x, hx, hF⟩ := Option.bind_eq_some_iff.mp hb
  refine Rn.one hfe rfl rfl ?_ (kk x hF)
  show bd_jld _ _ _ _ = _
  unfold aJ at hx
  cases q with
  | none => cases hx
  | some a =>
    dsimp only at hx
    split at hx
    · rename_i hk
      cases hx
      show (if _ then _ else _) = _
      rw [if_pos hk]
    · cases hx
theorem rn_aQ {q : Option Nat} {i : Int32} {ρ : Type} {r : ρ} {F : (Option Nat) → Option ρ} (hfe : fe mi pc = some (.aaload, rs)) (hb : (aQ q i h).bind F = some r) (kk : ∀ x, F x = some r → Rn d mi (pc + 1) L (va_rf x :: st) h v) : Rn d mi pc L (.int i :: va_rf q :: st) h v := by
  obtain ⟨x, hx, hF⟩ := Option.bind_eq_some_iff.mp hb
  refine Rn.one hfe rfl rfl ?_ (kk x hF)
  show bd_qld _ _ _ _ = _
  unfold aQ at hx
  cases q with
  | none => cases hx
  | some a =>
    dsimp only at hx
    split at hx
    · rename_i hk
      cases hx
      show (if _ then _ else _) = _
      rw [if_pos hk]
    · cases hx
theorem rn_aL {q : Option Nat} {ρ : Type} {r : ρ} {F : Int32 → Option ρ} (hfe : fe mi pc = some (.arraylength, rs)) (hb : (aL q h).bind F = some r) (kk : ∀ x, F x = some r → Rn d mi (pc + 1) L (.int x :: st) h v) : Rn d mi pc L (va_rf q :: st) h v := by
  obtain ⟨x, hx, hF⟩ := Option.bind_eq_some_iff.mp hb
  refine Rn.one hfe rfl rfl ?_ (kk x hF)
  show bd_len _ _ _ _ = _
  unfold aL at hx
  cases q with
  | none => cases hx
  | some a =>
    dsimp only at hx
    split at hx
    · rename_i hk
      cases hx
      show (if _ then _ else _) = _
      rw [if_pos hk]
    · cases hx
theorem rn_wI {q : Option Nat} {i : Int32} {x : Int32} {ρ : Type} {r : ρ} {F : Hp → Option ρ} (hfe : fe mi pc = some (.iastore, rs)) (hb : (wI q i x h).bind F = some r) (kk : ∀ h1, F h1 = some r → Rn d mi (pc + 1) L st h1 v) : Rn d mi pc L (.int x :: .int i :: va_rf q :: st) h v := by
  obtain ⟨h1, hx, hF⟩ := Option.bind_eq_some_iff.mp hb
  refine Rn.one hfe rfl rfl ?_ (kk h1 hF)
  show bd_ast _ _ _ _ = _
  unfold wI at hx
  cases q with
  | none => cases hx
  | some a =>
    dsimp only at hx
    split at hx
    · rename_i hk
      cases hx
      show (if _ then _ else _) = _
      rw [if_pos hk]
    · cases hx
theorem rn_wZ {q : Option Nat} {i : Int32} {x : Int32} {ρ : Type} {r : ρ} {F : Hp → Option ρ} (hfe : fe mi pc = some (.bastore, rs)) (hb : (wZ q i x h).bind F = some r) (kk : ∀ h1, F h1 = some r → Rn d mi (pc + 1) L st h1 v) : Rn d mi pc L (.int x :: .int i :: va_rf q :: st) h v := by
  obtain ⟨h1, hx, hF⟩ := Option.bind_eq_some_iff.mp hb
  refine Rn.one hfe rfl rfl ?_ (kk h1 hF)
  show bd_zst _ _ _ _ = _
  unfold wZ at hx
  cases q with
  | none => cases hx
  | some a =>
    dsimp only at hx
    split at hx
    · rename_i hk
      cases hx
      show (if _ then _ else _) = _
      rw [if_pos hk]
    · cases hx
theorem rn_wJ {q : Option Nat} {i : Int32} {x : Int64} {ρ : Type} {r : ρ} {F : Hp → Option ρ} (hfe : fe mi pc = some (.lastore, rs)) (hb : (wJ q i x h).bind F = some r) (kk : ∀ h1, F h1 = some r → Rn d mi (pc + 1) L st h1 v) : Rn d mi pc L (.long x :: .int i :: va_rf q :: st) h v := by
  obtain ⟨h1, hx, hF⟩ := Option.bind_eq_some_iff.mp hb
  refine Rn.one hfe rfl rfl ?_ (kk h1 hF)
  show bd_jst _ _ _ _ = _
  unfold wJ at hx
  cases q with
  | none => cases hx
  | some a =>
    dsimp only at hx
    split at hx
    · rename_i hk
      cases hx
      show (if _ then _ else _) = _
      rw [if_pos hk]
    · cases hx
theorem rn_wQ {q : Option Nat} {i : Int32} {x : (Option Nat)} {ρ : Type} {r : ρ} {F : Hp → Option ρ} (hfe : fe mi pc = some (.aastore, rs)) (hb : (wQ q i x h).bind F = some r) (kk : ∀ h1, F h1 = some r → Rn d mi (pc + 1) L st h1 v) : Rn d mi pc L (va_rf x :: .int i :: va_rf q :: st) h v := by
  obtain ⟨h1, hx, hF⟩ := Option.bind_eq_some_iff.mp hb
  refine Rn.one hfe rfl rfl ?_ (kk h1 hF)
  show bd_qst _ _ _ _ = _
  unfold wQ at hx
  cases q with
  | none => cases hx
  | some a =>
    cases x with
    | none =>
      dsimp only at hx
      split at hx
      · rename_i hk
        cases hx
        show (if _ then _ else _) = _
        rw [if_pos hk]
      · cases hx
    | some b =>
      dsimp only at hx
      split at hx
      · rename_i hk
        cases hx
        show (if _ then _ else _) = _
        rw [if_pos hk]
      · cases hx
theorem rn_new {ix : Nat} (hfe : fe mi pc = some (.new ix, rs)) (hr : rs < 12) (k : Rn d mi (pc + 3) L (va_rf (some (hN h)) :: st) (hNew h rs 0 (bd_nf rs)) v) : Rn d mi pc L st h v := Rn.one hfe (decide_eq_false (by omega)) rfl (by show bd_newc _ _ _ _ _ = _; unfold bd_newc; rw [if_pos hr]; rfl) k
theorem rn_newarray {ix : ArrayType} {n : Int32} {ρ : Type} {r : ρ} {F : Hp → Option ρ} (hfe : fe mi pc = some (.newarray ix, rs)) (hb : (nA rs n h).bind F = some r) (kk : ∀ h1, F h1 = some r → Rn d mi (pc + 2) L (va_rf (some (hN h)) :: st) h1 v) : Rn d mi pc L (.int n :: st) h v := by
  obtain ⟨h1, hx, hF⟩ := Option.bind_eq_some_iff.mp hb
  refine Rn.one hfe rfl rfl ?_ (kk h1 hF)
  unfold bd_one
  dsimp only [bd_newa]
  unfold nA at hx
  split at hx
  · rename_i hk
    cases hx
    rw [if_pos hk]
    rfl
  · cases hx
theorem rn_anewarray {ix : Nat} {n : Int32} {ρ : Type} {r : ρ} {F : Hp → Option ρ} (hfe : fe mi pc = some (.anewarray ix, rs)) (hb : (nA rs n h).bind F = some r) (kk : ∀ h1, F h1 = some r → Rn d mi (pc + 3) L (va_rf (some (hN h)) :: st) h1 v) : Rn d mi pc L (.int n :: st) h v := by
  obtain ⟨h1, hx, hF⟩ := Option.bind_eq_some_iff.mp hb
  refine Rn.one hfe rfl rfl ?_ (kk h1 hF)
  unfold bd_one
  dsimp only [bd_newa]
  unfold nA at hx
  split at hx
  · rename_i hk
    cases hx
    rw [if_pos hk]
    rfl
  · cases hx
theorem rn_oinit {ix : Nat} {q : Option Nat} (hfe : fe mi pc = some (.invokespecial ix, 900)) (hq : q.isSome = true) (h8 : (st.map fun v => v.category).sum ≤ 8) (k : Rn d mi (pc + 3) L st h v) : Rn d mi pc L (va_rf q :: st) h v := by
  cases q with
  | none => cases hq
  | some a => exact Rn.one hfe rfl rfl (by show (if _ then _ else _) = _; rw [if_pos h8]) k
theorem rn_mm {f : Int32 → Int32 → Int32} {ix : Nat} {x y : Int32} (hfe : fe mi pc = some (.invokestatic ix, rs)) (hr : (rs = 304 ∧ f = fun x y => if x < y then y else x) ∨ (rs = 305 ∧ f = fun x y => if y < x then y else x)) (h8 : (st.map fun v => v.category).sum ≤ 8) (k : Rn d mi (pc + 3) L (.int (f x y) :: st) h v) : Rn d mi pc L (.int y :: .int x :: st) h v := by
  rcases hr with ⟨e1, e2⟩ | ⟨e1, e2⟩
  · subst e1; subst e2
    exact Rn.one hfe rfl rfl (by show (if _ then _ else _) = _; rw [if_pos h8]) k
  · subst e1; subst e2
    exact Rn.one hfe rfl rfl (by show (if _ then _ else _) = _; rw [if_pos h8]) k
theorem rn_copy {ix : Nat} {q0 q1 : Option Nat} {sp dp n : Int32} {ρ : Type} {r : ρ} {F : Hp → Option ρ} (hfe : fe mi pc = some (.invokestatic ix, 901)) (h8 : (st.map fun v => v.category).sum ≤ 8) (hb : (cP q0 sp q1 dp n h).bind F = some r) (kk : ∀ h1, F h1 = some r → Rn d mi (pc + 3) L st h1 v) : Rn d mi pc L (.int n :: .int dp :: va_rf q1 :: .int sp :: va_rf q0 :: st) h v := by
  obtain ⟨h1, hx, hF⟩ := Option.bind_eq_some_iff.mp hb
  refine Rn.one hfe rfl rfl ?_ (kk h1 hF)
  unfold cP at hx
  split at hx
  · split at hx
    · rename_i hk
      cases hx
      obtain ⟨g1, g2, g3, g4, g5, g6, g7, g8, g9⟩ := hk
      show (if _ then _ else _) = _
      rw [if_pos ⟨g1, g2, g3, g4, g5, g6, g7, g8, g9, h8⟩]
    · cases hx
  · cases hx
theorem rn_iret {x : Int32} (hfe : fe mi pc = some (.ireturn, rs)) (hr : (mtM mi).2.2.2.1 = some .int) : Rn d mi pc L [.int x] h (some (.int x), h) := Rn.ret hfe rfl (by show (if _ then _ else _) = _; rw [hr]; rfl)
theorem rn_zret {x : Int32} (hfe : fe mi pc = some (.ireturn, rs)) (hr : (mtM mi).2.2.2.1 = some .boolean) (hx : x = 0 ∨ x = 1) : Rn d mi pc L [.int x] h (some (.int x), h) := Rn.ret hfe rfl (by show (if _ then _ else _) = _; rw [hr]; rcases hx with z | z <;> subst z <;> rfl)
theorem rn_lret {x : Int64} (hfe : fe mi pc = some (.lreturn, rs)) (hr : (mtM mi).2.2.2.1 = some .long) : Rn d mi pc L [.long x] h (some (.long x), h) := Rn.ret hfe rfl (by show (if _ then _ else _) = _; rw [if_pos hr])
theorem rn_aret {q : Option Nat} (hfe : fe mi pc = some (.areturn, rs)) (hr : bd_reft (mtM mi).2.2.2.1 = true) : Rn d mi pc L [va_rf q] h (some (va_rf q), h) := Rn.ret hfe rfl (by cases q <;> (show (if _ then _ else _) = _; rw [if_pos hr]; rfl))
theorem rn_vret (hfe : fe mi pc = some (.return_, rs)) (hr : (mtM mi).2.2.2.1 = none) : Rn d mi pc L [] h (none, h) := Rn.ret hfe rfl (by show (if _ then _ else _) = _; rw [if_pos hr])
theorem bd_slN : bd_sl [] = [] := rfl
theorem bd_slR {q : Option Nat} {r : List Value} {l : Lc} (hr : bd_sl r = l) : bd_sl (va_rf q :: r) = some (va_rf q) :: l := by
  show (if (va_rf q).category = 2 then _ else _) = _
  rw [bd_cat_rf, if_neg (by decide), hr]
theorem bd_slI {x : Int32} {r : List Value} {l : Lc} (hr : bd_sl r = l) : bd_sl (.int x :: r) = some (.int x) :: l := by rw [← hr]; rfl
theorem bd_slJ {x : Int64} {r : List Value} {l : Lc} (hr : bd_sl r = l) : bd_sl (.long x :: r) = some (.long x) :: none :: l := by rw [← hr]; rfl
theorem bd_cN : (([] : List Value).map fun v => v.category).sum = 0 := rfl
theorem bd_cR {q : Option Nat} {r : List Value} {n : Nat} (hr : (r.map fun v => v.category).sum = n) : ((va_rf q :: r).map fun v => v.category).sum = 1 + n := by
  rw [List.map_cons, List.sum_cons, hr, bd_cat_rf]
theorem bd_cI {x : Int32} {r : List Value} {n : Nat} (hr : (r.map fun v => v.category).sum = n) : ((.int x :: r).map fun v => v.category).sum = 1 + n := by
  rw [List.map_cons, List.sum_cons, hr]; rfl
theorem bd_cJ {x : Int64} {r : List Value} {n : Nat} (hr : (r.map fun v => v.category).sum = n) : ((.long x :: r).map fun v => v.category).sum = 2 + n := by
  rw [List.map_cons, List.sum_cons, hr]; rfl
theorem bd_rcV {ix c : Nat} {q : Option Nat} {As : List Value} (hq : rC c q h = true) (hc : (mtM rs).2.2.2.2.2.2 = c) : bd_recv (.invokevirtual ix) rs (va_rf q :: As) h = true := by
  cases q with
  | none => cases hq
  | some b => subst hc; exact hq
theorem bd_rcI {ix : Nat} {q : Option Nat} {As : List Value} (hq : q.isSome = true) : bd_recv (.invokespecial ix) rs (va_rf q :: As) h = true := by
  cases q with
  | none => cases hq
  | some b => rfl
end RW
