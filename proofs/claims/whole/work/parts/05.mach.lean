/-! An abstract machine over the code rows: a heap of typed slots by the places of its cells (K kinds, L lengths, I ints, J longs, Q references; N places in use; C cells and S slots made), told to the Statement's machine by one theorem (bd_sim). -/
abbrev Hp : Type := (Nat → Nat) × (Nat → Nat) × (Nat → Nat → Int32) × (Nat → Nat → Int64) × (Nat → Nat → Option Nat) × Nat × Nat × Nat
abbrev Lc : Type := List (Option Value)
def hK (h : Hp) : Nat → Nat := h.1
def hL (h : Hp) : Nat → Nat := h.2.1
def hI (h : Hp) : Nat → Nat → Int32 := h.2.2.1
def hJ (h : Hp) : Nat → Nat → Int64 := h.2.2.2.1
def hQ (h : Hp) : Nat → Nat → Option Nat := h.2.2.2.2.1
def hN (h : Hp) : Nat := h.2.2.2.2.2.1
def hC (h : Hp) : Nat := h.2.2.2.2.2.2.1
def hS (h : Hp) : Nat := h.2.2.2.2.2.2.2
def up1 {α : Type} (f : Nat → α) (a : Nat) (v : α) : Nat → α := fun b => if b = a then v else f b
def up2 {α : Type} (f : Nat → Nat → α) (a k : Nat) (v : α) : Nat → Nat → α := fun b j => if b = a then (if j = k then v else f b j) else f b j
def sI (h : Hp) (a k : Nat) (v : Int32) : Hp := (hK h, hL h, up2 (hI h) a k v, hJ h, hQ h, hN h, hC h, hS h)
def sJ (h : Hp) (a k : Nat) (v : Int64) : Hp := (hK h, hL h, hI h, up2 (hJ h) a k v, hQ h, hN h, hC h, hS h)
def sQ (h : Hp) (a k : Nat) (v : Option Nat) : Hp := (hK h, hL h, hI h, hJ h, up2 (hQ h) a k v, hN h, hC h, hS h)
/-- a new cell: its kind, its length, how many slots -/
def hNew (h : Hp) (c n sl : Nat) : Hp := (up1 (hK h) (hN h) c, up1 (hL h) (hN h) n, up1 (hI h) (hN h) (fun _ => 0), up1 (hJ h) (hN h) (fun _ => 0), up1 (hQ h) (hN h) (fun _ => none), hN h + 1, hC h + 1, hS h + sl)
/-- a cell that nobody holds any more (a thrown exception) -/
def hLost (h : Hp) (sl : Nat) : Hp := (hK h, hL h, hI h, hJ h, hQ h, hN h, hC h + 1, hS h + sl)
def hCopy (h : Hp) (a sp b dp n : Nat) : Hp := (hK h, hL h, up1 (hI h) b (va_cpy (hI h a) (hI h b) sp dp n), hJ h, hQ h, hN h, hC h, hS h)
def bd_in (i : Int32) (n : Nat) : Bool := decide (0 ≤ i.toInt ∧ i.toInt < n)
def bd_ld (L : Lc) (k : Nat) : Option Value := (L[k]?).join
def bd_wide (L : Lc) (k : Nat) : Bool := match bd_ld L k with
  | some v => v.category == 2
  | none => false
def bd_cut (L : Lc) (k : Nat) : Lc := if k ≠ 0 ∧ bd_wide L (k - 1) = true then L.set (k - 1) none else L
def bd_st1 (L : Lc) (k : Nat) (v : Value) : Lc := (bd_cut L k).set k (some v)
def bd_st2 (L : Lc) (k : Nat) (v : Value) : Lc := ((bd_cut L k).set k (some v)).set (k + 1) none
def bd_tg (pc : Nat) (off : Int) : Option Nat := if 0 ≤ (pc : Int) + off then some ((pc : Int) + off).toNat else none
abbrev Nx : Type := Option (Nat × Lc × List Value × Hp)
def bd_loadI (pc : Nat) (L : Lc) (k : Nat) (st : List Value) (h : Hp) : Nx := match bd_ld L k with
  | some (.int x) => some (pc, L, .int x :: st, h)
  | _ => none
def bd_loadL (pc : Nat) (L : Lc) (k : Nat) (st : List Value) (h : Hp) : Nx := match bd_ld L k with
  | some (.long x) => some (pc, L, .long x :: st, h)
  | _ => none
def bd_loadA (pc : Nat) (L : Lc) (k : Nat) (st : List Value) (h : Hp) : Nx := match bd_ld L k with
  | some (.ref x) => some (pc, L, .ref x :: st, h)
  | some .null => some (pc, L, .null :: st, h)
  | _ => none
def bd_stI (pc : Nat) (L : Lc) (k : Nat) (st : List Value) (h : Hp) : Nx := match st with
  | .int x :: r => if k < L.length then some (pc, bd_st1 L k (.int x), r, h) else none
  | _ => none
def bd_stA (pc : Nat) (L : Lc) (k : Nat) (st : List Value) (h : Hp) : Nx := match st with
  | .ref x :: r => if k < L.length then some (pc, bd_st1 L k (.ref x), r, h) else none
  | .null :: r => if k < L.length then some (pc, bd_st1 L k .null, r, h) else none
  | _ => none
def bd_stL (pc : Nat) (L : Lc) (k : Nat) (st : List Value) (h : Hp) : Nx := match st with
  | .long x :: r => if k + 1 < L.length then some (pc, bd_st2 L k (.long x), r, h) else none
  | _ => none
def bd_inc (pc : Nat) (L : Lc) (k : Nat) (n : Int) (st : List Value) (h : Hp) : Nx := match bd_ld L k with
  | some (.int x) => if k < L.length then some (pc, bd_st1 L k (.int (x + Int32.ofInt n)), st, h) else none
  | _ => none
def bd_II (f : Int32 → Int32 → Int32) (pc : Nat) (L : Lc) (st : List Value) (h : Hp) : Nx := match st with
  | .int y :: .int x :: r => some (pc, L, .int (f x y) :: r, h)
  | _ => none
def bd_IId (f : Int32 → Int32 → Int32) (pc : Nat) (L : Lc) (st : List Value) (h : Hp) : Nx := match st with
  | .int y :: .int x :: r => if y = 0 then none else some (pc, L, .int (f x y) :: r, h)
  | _ => none
def bd_JJ (f : Int64 → Int64 → Int64) (pc : Nat) (L : Lc) (st : List Value) (h : Hp) : Nx := match st with
  | .long y :: .long x :: r => some (pc, L, .long (f x y) :: r, h)
  | _ => none
def bd_JI (f : Int64 → Int32 → Int64) (pc : Nat) (L : Lc) (st : List Value) (h : Hp) : Nx := match st with
  | .int y :: .long x :: r => some (pc, L, .long (f x y) :: r, h)
  | _ => none
def bd_lcmp (pc : Nat) (L : Lc) (st : List Value) (h : Hp) : Nx := match st with
  | .long y :: .long x :: r => some (pc, L, .int (lg_cmp x y) :: r, h)
  | _ => none
def bd_i2l (pc : Nat) (L : Lc) (st : List Value) (h : Hp) : Nx := match st with
  | .int x :: r => some (pc, L, .long x.toInt64 :: r, h)
  | _ => none
def bd_l2i (pc : Nat) (L : Lc) (st : List Value) (h : Hp) : Nx := match st with
  | .long x :: r => some (pc, L, .int x.toInt32 :: r, h)
  | _ => none
def bd_dup (pc : Nat) (L : Lc) (st : List Value) (h : Hp) : Nx := match st with
  | v :: r => if v.category = 1 then some (pc, L, v :: v :: r, h) else none
  | _ => none
def bd_pop (pc : Nat) (L : Lc) (st : List Value) (h : Hp) : Nx := match st with
  | v :: r => if v.category = 1 then some (pc, L, r, h) else none
  | _ => none
def bd_dup2 (pc : Nat) (L : Lc) (st : List Value) (h : Hp) : Nx := match st with
  | v :: w :: r => if v.category = 1 ∧ w.category = 1 then some (pc, L, v :: w :: v :: w :: r, h) else none
  | _ => none
def bd_if (p : Int32 → Bool) (pc : Nat) (off : Int) (L : Lc) (st : List Value) (h : Hp) : Nx := match st with
  | .int x :: r => (match bd_tg pc off with
    | some t => if p x = true then some (t, L, r, h) else some (pc + 3, L, r, h)
    | none => none)
  | _ => none
def bd_icmp (p : Int32 → Int32 → Bool) (pc : Nat) (off : Int) (L : Lc) (st : List Value) (h : Hp) : Nx := match st with
  | .int y :: .int x :: r => (match bd_tg pc off with
    | some t => if p x y = true then some (t, L, r, h) else some (pc + 3, L, r, h)
    | none => none)
  | _ => none
def bd_rv (v : Value) : Option (Option Nat) := match v with
  | .ref a => some (some a)
  | .null => some none
  | _ => none
/-- a reference to a cell that was made, or null -/
def bd_rd (v : Value) : Option (Option Nat) := match v with
  | .ref a => if 30 ≤ a then some (some a) else none
  | .null => some none
  | _ => none
def bd_acmp (eq : Bool) (pc : Nat) (off : Int) (L : Lc) (st : List Value) (h : Hp) : Nx := match st with
  | y :: x :: r => (match bd_rd x, bd_rd y, bd_tg pc off with
    | some qx, some qy, some t => if decide (qx = qy) = eq then some (t, L, r, h) else some (pc + 3, L, r, h)
    | _, _, _ => none)
  | _ => none
/-- ifnull (nul = true), ifnonnull (false) -/
def bd_ifn (nul : Bool) (pc : Nat) (off : Int) (L : Lc) (st : List Value) (h : Hp) : Nx := match st with
  | x :: r => (match bd_rv x, bd_tg pc off with
    | some qx, some t => if decide (qx = none) = nul then some (t, L, r, h) else some (pc + 3, L, r, h)
    | _, _ => none)
  | _ => none
def bd_table (pc : Nat) (dflt lo hi : Int) (offs : Array Int) (L : Lc) (st : List Value) (h : Hp) : Nx := match st with
  | .int x :: r => if x.toInt < lo ∨ hi < x.toInt then (bd_tg pc dflt).map (fun t => (t, L, r, h)) else (match offs[(x.toInt - lo).toNat]? with
      | some off => (bd_tg pc off).map (fun t => (t, L, r, h))
      | none => none)
  | _ => none
def bd_look (pc : Nat) (dflt : Int) (ps : Array (Int × Int)) (L : Lc) (st : List Value) (h : Hp) : Nx := match st with
  | .int x :: r => (bd_tg pc (Op.lookupswitch.offset ps.toList dflt x.toInt)).map (fun t => (t, L, r, h))
  | _ => none
/-- a slot by its tag: 0 and 3 an int, 1 a long, 2 a reference -/
def bd_slot (h : Hp) (tag a k : Nat) : Value := if tag = 1 then .long (hJ h a k) else if tag = 2 then va_rf (hQ h a k) else .int (hI h a k)
def bd_getf (res pc : Nat) (L : Lc) (st : List Value) (h : Hp) : Nx := match st with
  | .ref a :: r => if hK h a = res / 64 % 32 then some (pc, L, bd_slot h (res / 2048) a (res % 64) :: r, h) else none
  | _ => none
def bd_putf (res pc : Nat) (L : Lc) (st : List Value) (h : Hp) : Nx := match st with
  | .int x :: .ref a :: r => if hK h a = res / 64 % 32 ∧ 30 ≤ a ∧ (res / 2048 = 0 ∨ (res / 2048 = 3 ∧ (x = 0 ∨ x = 1))) then some (pc, L, r, sI h a (res % 64) x) else none
  | .long x :: .ref a :: r => if hK h a = res / 64 % 32 ∧ 30 ≤ a ∧ res / 2048 = 1 then some (pc, L, r, sJ h a (res % 64) x) else none
  | .ref x :: .ref a :: r => if hK h a = res / 64 % 32 ∧ 30 ≤ a ∧ res / 2048 = 2 then some (pc, L, r, sQ h a (res % 64) (some x)) else none
  | .null :: .ref a :: r => if hK h a = res / 64 % 32 ∧ 30 ≤ a ∧ res / 2048 = 2 then some (pc, L, r, sQ h a (res % 64) none) else none
  | _ => none
def bd_ald (ar : Nat) (pc : Nat) (L : Lc) (st : List Value) (h : Hp) : Nx := match st with
  | .int i :: .ref a :: r => if hK h a = ar ∧ bd_in i (hL h a) = true then some (pc, L, .int (hI h a i.toNatClampNeg) :: r, h) else none
  | _ => none
def bd_jld (pc : Nat) (L : Lc) (st : List Value) (h : Hp) : Nx := match st with
  | .int i :: .ref a :: r => if hK h a = 13 ∧ bd_in i (hL h a) = true then some (pc, L, .long (hJ h a i.toNatClampNeg) :: r, h) else none
  | _ => none
def bd_qld (pc : Nat) (L : Lc) (st : List Value) (h : Hp) : Nx := match st with
  | .int i :: .ref a :: r => if 15 ≤ hK h a ∧ hK h a ≤ 20 ∧ hK h a ≠ 19 ∧ bd_in i (hL h a) = true then some (pc, L, va_rf (hQ h a i.toNatClampNeg) :: r, h) else none
  | _ => none
def bd_ast (pc : Nat) (L : Lc) (st : List Value) (h : Hp) : Nx := match st with
  | .int x :: .int i :: .ref a :: r => if hK h a = 12 ∧ 30 ≤ a ∧ bd_in i (hL h a) = true then some (pc, L, r, sI h a i.toNatClampNeg x) else none
  | _ => none
def bd_zst (pc : Nat) (L : Lc) (st : List Value) (h : Hp) : Nx := match st with
  | .int x :: .int i :: .ref a :: r => if hK h a = 14 ∧ 30 ≤ a ∧ bd_in i (hL h a) = true then some (pc, L, r, sI h a i.toNatClampNeg (x &&& 1)) else none
  | _ => none
def bd_jst (pc : Nat) (L : Lc) (st : List Value) (h : Hp) : Nx := match st with
  | .long x :: .int i :: .ref a :: r => if hK h a = 13 ∧ 30 ≤ a ∧ bd_in i (hL h a) = true then some (pc, L, r, sJ h a i.toNatClampNeg x) else none
  | _ => none
/-- the class of what an array of references holds -/
def bd_comp (k : Nat) : Nat := if k = 15 then 0 else if k = 16 then 1 else if k = 17 then 7 else 8
def bd_qst (pc : Nat) (L : Lc) (st : List Value) (h : Hp) : Nx := match st with
  | .ref x :: .int i :: .ref a :: r => if 15 ≤ hK h a ∧ hK h a ≤ 18 ∧ 30 ≤ a ∧ bd_in i (hL h a) = true ∧ 30 ≤ x ∧ hK h x = bd_comp (hK h a) then some (pc, L, r, sQ h a i.toNatClampNeg (some x)) else none
  | .null :: .int i :: .ref a :: r => if 15 ≤ hK h a ∧ hK h a ≤ 18 ∧ 30 ≤ a ∧ bd_in i (hL h a) = true then some (pc, L, r, sQ h a i.toNatClampNeg none) else none
  | _ => none
def bd_len (pc : Nat) (L : Lc) (st : List Value) (h : Hp) : Nx := match st with
  | .ref a :: r => if 12 ≤ hK h a ∧ hK h a ≤ 20 ∧ hK h a ≠ 19 then some (pc, L, .int (Int32.ofNat (hL h a)) :: r, h) else none
  | _ => none
def bd_newc (res pc : Nat) (L : Lc) (st : List Value) (h : Hp) : Nx := if res < 12 then some (pc, L, .ref (hN h) :: st, hNew h res 0 (bd_nf res)) else none
def bd_newa (ar pc : Nat) (L : Lc) (st : List Value) (h : Hp) : Nx := match st with
  | .int n :: r => if 12 ≤ ar ∧ ar ≤ 18 ∧ bd_in n 100000 = true then some (pc, L, .ref (hN h) :: r, hNew h ar n.toNatClampNeg n.toNatClampNeg) else none
  | _ => none
def bd_oinit (pc : Nat) (L : Lc) (st : List Value) (h : Hp) : Nx := match st with
  | .ref _ :: r => if (r.map fun v => v.category).sum ≤ 8 then some (pc, L, r, h) else none
  | _ => none
def bd_copy (pc : Nat) (L : Lc) (st : List Value) (h : Hp) : Nx := match st with
  | .int n :: .int dp :: .ref b :: .int sp :: .ref a :: r => if hK h a = 12 ∧ hK h b = 12 ∧ 30 ≤ a ∧ 30 ≤ b ∧ 0 ≤ sp.toInt ∧ 0 ≤ dp.toInt ∧ 0 ≤ n.toInt ∧ sp.toNatClampNeg + n.toNatClampNeg ≤ hL h a ∧ dp.toNatClampNeg + n.toNatClampNeg ≤ hL h b ∧ (r.map fun v => v.category).sum ≤ 8 then some (pc, L, r, hCopy h a sp.toNatClampNeg b dp.toNatClampNeg n.toNatClampNeg) else none
  | _ => none
/-- Math.max, Math.min -/
def bd_mm (f : Int32 → Int32 → Int32) (pc : Nat) (L : Lc) (st : List Value) (h : Hp) : Nx := match st with
  | .int y :: .int x :: r => if (r.map fun v => v.category).sum ≤ 8 then some (pc, L, .int (f x y) :: r, h) else none
  | _ => none
/-- one instruction that neither calls nor ends -/
def bd_one (raw : Instr) (res pc : Nat) (L : Lc) (st : List Value) (h : Hp) : Nx := match raw with
  | .aconst_null => some (pc + 1, L, .null :: st, h)
  | .aload k => bd_loadA (pc + 2) L k st h
  | .aload_n k => bd_loadA (pc + 1) L k st h
  | .iload k => bd_loadI (pc + 2) L k st h
  | .iload_n k => bd_loadI (pc + 1) L k st h
  | .lload k => bd_loadL (pc + 2) L k st h
  | .lload_n k => bd_loadL (pc + 1) L k st h
  | .astore k => bd_stA (pc + 2) L k st h
  | .astore_n k => bd_stA (pc + 1) L k st h
  | .istore k => bd_stI (pc + 2) L k st h
  | .istore_n k => bd_stI (pc + 1) L k st h
  | .lstore k => bd_stL (pc + 2) L k st h
  | .lstore_n k => bd_stL (pc + 1) L k st h
  | .iinc k n => bd_inc (pc + 3) L k n st h
  | .iconst n => some (pc + 1, L, .int (Int32.ofInt n) :: st, h)
  | .bipush n => some (pc + 2, L, .int (Int8.ofInt n).toInt32 :: st, h)
  | .sipush n => some (pc + 3, L, .int (Int16.ofInt n).toInt32 :: st, h)
  | .lconst n => some (pc + 1, L, .long (Int64.ofNat (n : Nat)) :: st, h)
  | .ldc _ => some (pc + 2, L, .int (Int32.ofNat res) :: st, h)
  | .ldc_w _ => some (pc + 3, L, .int (Int32.ofNat res) :: st, h)
  | .ldc2_w _ => some (pc + 3, L, .long (Int64.ofNat res) :: st, h)
  | .iadd => bd_II (fun x y => x + y) (pc + 1) L st h
  | .isub => bd_II (fun x y => x - y) (pc + 1) L st h
  | .imul => bd_II (fun x y => x * y) (pc + 1) L st h
  | .iand => bd_II (fun x y => x &&& y) (pc + 1) L st h
  | .ior => bd_II (fun x y => x ||| y) (pc + 1) L st h
  | .ixor => bd_II (fun x y => x ^^^ y) (pc + 1) L st h
  | .ishl => bd_II (fun x y => x <<< (y &&& 31)) (pc + 1) L st h
  | .ishr => bd_II (fun x y => x >>> (y &&& 31)) (pc + 1) L st h
  | .iushr => bd_II (fun x y => (x.toUInt32 >>> (y.toUInt32 &&& Int32.toUInt32 31)).toInt32) (pc + 1) L st h
  | .idiv => bd_IId (fun x y => x / y) (pc + 1) L st h
  | .irem => bd_IId (fun x y => x - x / y * y) (pc + 1) L st h
  | .ladd => bd_JJ (fun x y => x + y) (pc + 1) L st h
  | .lsub => bd_JJ (fun x y => x - y) (pc + 1) L st h
  | .lmul => bd_JJ (fun x y => x * y) (pc + 1) L st h
  | .land => bd_JJ (fun x y => x &&& y) (pc + 1) L st h
  | .lor => bd_JJ (fun x y => x ||| y) (pc + 1) L st h
  | .lxor => bd_JJ (fun x y => x ^^^ y) (pc + 1) L st h
  | .lshl => bd_JI (fun x y => x <<< (y.toInt64 &&& 63)) (pc + 1) L st h
  | .lshr => bd_JI (fun x y => x >>> (y.toInt64 &&& 63)) (pc + 1) L st h
  | .lushr => bd_JI (fun x y => (x.toUInt64 >>> (y.toInt64.toUInt64 &&& Int64.toUInt64 63)).toInt64) (pc + 1) L st h
  | .lcmp => bd_lcmp (pc + 1) L st h
  | .i2l => bd_i2l (pc + 1) L st h
  | .l2i => bd_l2i (pc + 1) L st h
  | .dup => bd_dup (pc + 1) L st h
  | .dup2 => bd_dup2 (pc + 1) L st h
  | .pop => bd_pop (pc + 1) L st h
  | .ifCond .eq off => bd_if (fun x => decide (x = 0)) pc off L st h
  | .ifCond .ne off => bd_if (fun x => decide (¬ x = 0)) pc off L st h
  | .ifCond .lt off => bd_if (fun x => decide (x < 0)) pc off L st h
  | .ifCond .ge off => bd_if (fun x => decide (0 ≤ x)) pc off L st h
  | .ifCond .gt off => bd_if (fun x => decide (0 < x)) pc off L st h
  | .ifCond .le off => bd_if (fun x => decide (x ≤ 0)) pc off L st h
  | .if_icmp .eq off => bd_icmp (fun x y => decide (x = y)) pc off L st h
  | .if_icmp .ne off => bd_icmp (fun x y => decide (¬ x = y)) pc off L st h
  | .if_icmp .lt off => bd_icmp (fun x y => decide (x < y)) pc off L st h
  | .if_icmp .ge off => bd_icmp (fun x y => decide (y ≤ x)) pc off L st h
  | .if_icmp .gt off => bd_icmp (fun x y => decide (y < x)) pc off L st h
  | .if_icmp .le off => bd_icmp (fun x y => decide (x ≤ y)) pc off L st h
  | .if_acmp .eq off => bd_acmp true pc off L st h
  | .if_acmp .ne off => bd_acmp false pc off L st h
  | .ifnull off => bd_ifn true pc off L st h
  | .ifnonnull off => bd_ifn false pc off L st h
  | .goto off => (bd_tg pc off).map (fun t => (t, L, st, h))
  | .tableswitch dflt lo hi offs => bd_table pc dflt lo hi offs L st h
  | .lookupswitch dflt ps => bd_look pc dflt ps L st h
  | .getfield _ => bd_getf res (pc + 3) L st h
  | .putfield _ => bd_putf res (pc + 3) L st h
  | .getstatic _ => some (pc + 3, L, .ref res :: st, h)
  | .iaload => bd_ald 12 (pc + 1) L st h
  | .baload => bd_ald 14 (pc + 1) L st h
  | .laload => bd_jld (pc + 1) L st h
  | .aaload => bd_qld (pc + 1) L st h
  | .iastore => bd_ast (pc + 1) L st h
  | .bastore => bd_zst (pc + 1) L st h
  | .lastore => bd_jst (pc + 1) L st h
  | .aastore => bd_qst (pc + 1) L st h
  | .arraylength => bd_len (pc + 1) L st h
  | .new _ => bd_newc res (pc + 3) L st h
  | .newarray _ => bd_newa res (pc + 2) L st h
  | .anewarray _ => bd_newa res (pc + 3) L st h
  | .invokespecial _ => if res = 900 then bd_oinit (pc + 3) L st h else none
  | .invokestatic _ => if res = 901 then bd_copy (pc + 3) L st h else if res = 304 then bd_mm (fun x y => if x < y then y else x) (pc + 3) L st h else if res = 305 then bd_mm (fun x y => if y < x then y else x) (pc + 3) L st h else none
  | _ => none
/-- a call of a method of the table -/
def bd_callee (raw : Instr) (res : Nat) : Bool := match raw with
  | .invokevirtual _ => decide (res < 900)
  | .invokespecial _ => decide (res < 900)
  | .invokestatic _ => decide (res < 900 ∧ res ≠ 304 ∧ res ≠ 305)
  | _ => false
/-- the receiver of a call on an object is one of the named class -/
def bd_recv (raw : Instr) (res : Nat) (As : List Value) (h : Hp) : Bool := match raw with
  | .invokevirtual _ => (match As with
    | .ref b :: _ => decide (hK h b = (mtM res).2.2.2.2.2.2 ∧ 30 ≤ b)
    | _ => false)
  | .invokespecial _ => (match As with
    | .ref _ :: _ => true
    | _ => false)
  | _ => true
def bd_sl : List Value → Lc
  | [] => []
  | v :: r => if v.category = 2 then some v :: none :: bd_sl r else some v :: bd_sl r
def bd_loc (n : Nat) (As : List Value) : Lc := bd_sl As ++ List.replicate (n - (bd_sl As).length) none
def bd_rok (t : Option FieldType) (v : Int32) : Bool := match t with
  | some .int => true
  | some .boolean => v == 0 || v == 1
  | _ => false
def bd_reft (t : Option FieldType) : Bool := match t with
  | some (.object _) => true
  | some (.array _) => true
  | _ => false
/-- the mark of a thrown NoSuchElementException -/
def bd_thrown : Value := .double 0
/-- the end of a method: its answer; none if the instruction is no end -/
def bd_end (mi : Nat) (raw : Instr) (res : Nat) (st : List Value) (h : Hp) : Option (Option Value × Hp) := match raw with
  | .ireturn => (match st with
    | [.int v] => if bd_rok (mtM mi).2.2.2.1 v = true then some (some (.int v), h) else none
    | _ => none)
  | .lreturn => (match st with
    | [.long v] => if (mtM mi).2.2.2.1 = some .long then some (some (.long v), h) else none
    | _ => none)
  | .areturn => (match st with
    | [.ref a] => if bd_reft (mtM mi).2.2.2.1 = true then some (some (.ref a), h) else none
    | [.null] => if bd_reft (mtM mi).2.2.2.1 = true then some (some .null, h) else none
    | _ => none)
  | .return_ => (match st with
    | [] => if (mtM mi).2.2.2.1 = none then some (none, h) else none
    | _ => none)
  | .new _ => (match st with
    | [] => if res = 99 ∧ mi = 135 then some (some bd_thrown, hLost h 6) else none
    | _ => none)
  | _ => none
def bd_isEnd (raw : Instr) (res : Nat) : Bool := match raw with
  | .ireturn | .lreturn | .areturn | .return_ => true
  | .new _ => decide (res = 99)
  | _ => false
/-- behind BitingDoors.door, called by the law's own door(): what it answers -/
def bd_door (o : Nat) (r : Option Value) (h : Hp) : Option (Int32 × Hp) := match r with
  | some (.int v) => if hK h o = 13 ∧ 30 ≤ o ∧ 0 < hL h o then some (0, sJ h o 0 v.toInt64) else none
  | some (.double w) => if w = 0 then some (1, h) else none
  | _ => none
/-- n steps at most, d calls within one another at most -/
def ev : Nat → Nat → Nat → Nat → Lc → List Value → Hp → Option (Option Value × Hp)
  | 0, _, _, _, _, _, _ => none
  | n + 1, d, mi, pc, L, st, h => match fe mi pc with
    | none => none
    | some (raw, res) =>
      if bd_isEnd raw res = true then bd_end mi raw res st h
      else if bd_callee raw res = true then (match d with
        | 0 => none
        | d + 1 =>
          if (mtM res).2.2.2.2.1 ≤ st.length then
            if res = 307 then (match d, st.take 4 with
              | d + 7, [.ref o, .int p1, .int p0, .ref x] => if hK h x = 10 ∧ 30 ≤ x ∧ ((st.drop 4).map fun v => v.category).sum ≤ 8 then (match ev n d 135 0 (bd_loc 3 [.ref x, .int p0, .int p1]) [] h with
                | none => none
                | some (r, h1) => (match bd_door o r h1 with
                  | none => none
                  | some (v, h2) => ev n (d + 8) mi (pc + 3) L (.int v :: st.drop 4) h2)) else none
              | _, _ => none)
            else if res = 135 ∨ res = 308 then none
            else if bd_recv raw res (st.take (mtM res).2.2.2.2.1).reverse h = true ∧ ((st.drop (mtM res).2.2.2.2.1).map fun v => v.category).sum ≤ 8 ∧ (bd_sl (st.take (mtM res).2.2.2.2.1).reverse).length ≤ (mtM res).2.2.1 then
              (match ev n d res 0 (bd_loc (mtM res).2.2.1 (st.take (mtM res).2.2.2.2.1).reverse) [] h with
              | none => none
              | some (r, h1) => ev n (d + 1) mi (pc + 3) L (r.toList ++ st.drop (mtM res).2.2.2.2.1) h1)
            else none
          else none)
      else (match bd_one raw res pc L st h with
        | none => none
        | some (pc1, L1, st1, h1) => ev n d mi pc1 L1 st1 h1)
