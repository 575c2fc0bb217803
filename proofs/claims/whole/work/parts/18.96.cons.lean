/-! the objects of the start -/
abbrev Op := Nat × Nat × Nat × Nat
def hop (h : Hp) (o : Op) : Hp := if o.1 = 0 then hNew h o.2.1 o.2.2.1 o.2.2.2 else if o.1 = 1 then sQ h o.2.1 o.2.2.1 (some o.2.2.2) else sI h o.2.1 o.2.2.1 (if o.2.2.2 = 0 then -1 else -2)
def hr : List Op → Hp → Hp
  | [], h => h
  | o :: t, h => hr t (hop h o)
def kO : List Op → Nat → Nat → Nat → Nat
  | [], _, _, d => d
  | o :: t, n, a, d => if o.1 = 0 then kO t (n + 1) a (if a = n then o.2.1 else d) else kO t n a d
def lO : List Op → Nat → Nat → Nat → Nat
  | [], _, _, d => d
  | o :: t, n, a, d => if o.1 = 0 then lO t (n + 1) a (if a = n then o.2.2.1 else d) else lO t n a d
def qO : List Op → Nat → Nat → Nat → Option Nat → Option Nat
  | [], _, _, _, d => d
  | o :: t, n, a, k, d => if o.1 = 0 then qO t (n + 1) a k (if a = n then none else d) else if o.1 = 1 then qO t n a k (if a = o.2.1 ∧ k = o.2.2.1 then some o.2.2.2 else d) else qO t n a k d
/-- a number told: 0 as it was, 1 nought, 2 one less than nought, 3 two less -/
def iO : List Op → Nat → Nat → Nat → Nat → Nat
  | [], _, _, _, d => d
  | o :: t, n, a, k, d => if o.1 = 0 then iO t (n + 1) a k (if a = n then 1 else d) else if o.1 = 1 then iO t n a k d else iO t n a k (if a = o.2.1 ∧ k = o.2.2.1 then (if o.2.2.2 = 0 then 2 else 3) else d)
def iV (d : Int32) (c : Nat) : Int32 := if c = 0 then d else if c = 1 then 0 else if c = 2 then -1 else -2
def nO : List Op → Nat → Nat
  | [], n => n
  | o :: t, n => if o.1 = 0 then nO t (n + 1) else nO t n
def sO : List Op → Nat
  | [] => 0
  | o :: t => (if o.1 = 0 then o.2.2.2 else 0) + sO t
section OPS
variable {h : Hp} {o : Op}
theorem hop_0 (c : o.1 = 0) : hop h o = hNew h o.2.1 o.2.2.1 o.2.2.2 := if_pos c
theorem hop_1 (c : ¬ o.1 = 0) (d : o.1 = 1) : hop h o = sQ h o.2.1 o.2.2.1 (some o.2.2.2) := by unfold hop; rw [if_neg c, if_pos d]
theorem hop_2 (c : ¬ o.1 = 0) (d : ¬ o.1 = 1) : hop h o = sI h o.2.1 o.2.2.1 (if o.2.2.2 = 0 then -1 else -2) := by unfold hop; rw [if_neg c, if_neg d]
end OPS
theorem hr_K : ∀ (ops : List Op) (h : Hp) (a : Nat), hK (hr ops h) a = kO ops (hN h) a (hK h a) := by
  intro ops
  induction ops with
  | nil => intro h a; rfl
  | cons o t ih =>
    intro h a
    show hK (hr t (hop h o)) a = if o.1 = 0 then kO t (hN h + 1) a (if a = hN h then o.2.1 else hK h a) else kO t (hN h) a (hK h a)
    rw [ih]
    by_cases c : o.1 = 0
    · rw [if_pos c, hop_0 c, hN_new, hK_new]
    · rw [if_neg c]
      by_cases d : o.1 = 1
      · rw [hop_1 c d, hN_sQ, hK_sQ]
      · rw [hop_2 c d, hN_sI, hK_sI]
theorem hr_L : ∀ (ops : List Op) (h : Hp) (a : Nat), hL (hr ops h) a = lO ops (hN h) a (hL h a) := by
  intro ops
  induction ops with
  | nil => intro h a; rfl
  | cons o t ih =>
    intro h a
    show hL (hr t (hop h o)) a = if o.1 = 0 then lO t (hN h + 1) a (if a = hN h then o.2.2.1 else hL h a) else lO t (hN h) a (hL h a)
    rw [ih]
    by_cases c : o.1 = 0
    · rw [if_pos c, hop_0 c, hN_new, hL_new]
    · rw [if_neg c]
      by_cases d : o.1 = 1
      · rw [hop_1 c d, hN_sQ, hL_sQ]
      · rw [hop_2 c d, hN_sI, hL_sI]
theorem hr_Q : ∀ (ops : List Op) (h : Hp) (a k : Nat), hQ (hr ops h) a k = qO ops (hN h) a k (hQ h a k) := by
  intro ops
  induction ops with
  | nil => intro h a k; rfl
  | cons o t ih =>
    intro h a k
    show hQ (hr t (hop h o)) a k = if o.1 = 0 then qO t (hN h + 1) a k (if a = hN h then none else hQ h a k) else if o.1 = 1 then qO t (hN h) a k (if a = o.2.1 ∧ k = o.2.2.1 then some o.2.2.2 else hQ h a k) else qO t (hN h) a k (hQ h a k)
    rw [ih]
    by_cases c : o.1 = 0
    · rw [if_pos c, hop_0 c, hN_new, hQ_new]
      by_cases e : a = hN h
      · rw [if_pos e, if_pos e]
      · rw [if_neg e, if_neg e]
    · rw [if_neg c]
      by_cases d : o.1 = 1
      · rw [if_pos d, hop_1 c d, hN_sQ, hQ_sQ]
      · rw [if_neg d, hop_2 c d, hN_sI, hQ_sI]
theorem hr_I : ∀ (ops : List Op) (h : Hp) (a k c : Nat) (d : Int32), hI h a k = iV d c → hI (hr ops h) a k = iV d (iO ops (hN h) a k c) := by
  intro ops
  induction ops with
  | nil => intro h a k c d e; exact e
  | cons o t ih =>
    intro h a k c d e
    show hI (hr t (hop h o)) a k = iV d (if o.1 = 0 then iO t (hN h + 1) a k (if a = hN h then 1 else c) else if o.1 = 1 then iO t (hN h) a k c else iO t (hN h) a k (if a = o.2.1 ∧ k = o.2.2.1 then (if o.2.2.2 = 0 then 2 else 3) else c))
    by_cases c0 : o.1 = 0
    · rw [if_pos c0, ← hN_new (h := h) (c := o.2.1) (n := o.2.2.1) (sl := o.2.2.2), ← hop_0 c0]
      apply ih
      rw [hop_0 c0, hI_new]
      by_cases e2 : a = hN h
      · rw [if_pos e2, if_pos e2]; rfl
      · rw [if_neg e2, if_neg e2]; exact e
    · rw [if_neg c0]
      by_cases d1 : o.1 = 1
      · rw [if_pos d1, ← hN_sQ (h := h) (a := o.2.1) (k := o.2.2.1) (some o.2.2.2), ← hop_1 c0 d1]
        apply ih
        rw [hop_1 c0 d1, hI_sQ]; exact e
      · rw [if_neg d1, ← hN_sI (h := h) (a := o.2.1) (k := o.2.2.1) (if o.2.2.2 = 0 then -1 else -2), ← hop_2 c0 d1]
        apply ih
        rw [hop_2 c0 d1, hI_sI]
        by_cases e2 : a = o.2.1 ∧ k = o.2.2.1
        · rw [if_pos e2, if_pos e2]
          split <;> rfl
        · rw [if_neg e2, if_neg e2]; exact e
theorem hr_N : ∀ (ops : List Op) (h : Hp), hN (hr ops h) = nO ops (hN h) := by
  intro ops
  induction ops with
  | nil => intro h; rfl
  | cons o t ih =>
    intro h
    show hN (hr t (hop h o)) = if o.1 = 0 then nO t (hN h + 1) else nO t (hN h)
    rw [ih]
    by_cases c : o.1 = 0
    · rw [if_pos c, hop_0 c, hN_new]
    · rw [if_neg c]
      by_cases d : o.1 = 1
      · rw [hop_1 c d, hN_sQ]
      · rw [hop_2 c d, hN_sI]
theorem hr_CS : ∀ (ops : List Op) (h : Hp), hC (hr ops h) ≤ hC h + ops.length ∧ hS (hr ops h) = hS h + sO ops := by
  intro ops
  induction ops with
  | nil => intro h; exact ⟨Nat.le_refl _, rfl⟩
  | cons o t ih =>
    intro h
    show hC (hr t (hop h o)) ≤ hC h + (t.length + 1) ∧ hS (hr t (hop h o)) = hS h + ((if o.1 = 0 then o.2.2.2 else 0) + sO t)
    have := ih (hop h o)
    by_cases c : o.1 = 0
    · have e1 : hC (hop h o) = hC h + 1 := by rw [hop_0 c, hC_new]
      have e2 : hS (hop h o) = hS h + o.2.2.2 := by rw [hop_0 c, hS_new]
      rw [if_pos c]; omega
    · rw [if_neg c]
      by_cases d : o.1 = 1
      · have e1 : hC (hop h o) = hC h := by rw [hop_1 c d, hC_sQ]
        have e2 : hS (hop h o) = hS h := by rw [hop_1 c d, hS_sQ]
        omega
      · have e1 : hC (hop h o) = hC h := by rw [hop_2 c d, hC_sI]
        have e2 : hS (hop h o) = hS h := by rw [hop_2 c d, hS_sI]
        omega
/-- what was there before, below 30 -/
theorem hr_lo {a : Nat} (ha : a < 30) : ∀ (ops : List Op) (h : Hp), (∀ o, o ∈ ops → o.1 = 0 ∨ 30 ≤ o.2.1) → 30 ≤ hN h → hI (hr ops h) a = hI h a ∧ hJ (hr ops h) a = hJ h a ∧ hQ (hr ops h) a = hQ h a ∧ hK (hr ops h) a = hK h a ∧ hL (hr ops h) a = hL h a := by
  intro ops
  induction ops with
  | nil => intro h _ _; exact ⟨rfl, rfl, rfl, rfl, rfl⟩
  | cons o t ih =>
    intro h ok hn
    have k := ok o List.mem_cons_self
    have s : (hI (hop h o) a = hI h a ∧ hJ (hop h o) a = hJ h a ∧ hQ (hop h o) a = hQ h a ∧ hK (hop h o) a = hK h a ∧ hL (hop h o) a = hL h a) ∧ 30 ≤ hN (hop h o) := by
      by_cases c : o.1 = 0
      · rw [hop_0 c, hI_new, hJ_new, hQ_new, hK_new, hL_new, hN_new, if_neg (by omega), if_neg (by omega), if_neg (by omega), if_neg (by omega), if_neg (by omega)]
        exact ⟨⟨rfl, rfl, rfl, rfl, rfl⟩, by omega⟩
      · have k2 : 30 ≤ o.2.1 := by omega
        by_cases d : o.1 = 1
        · rw [hop_1 c d]
          exact ⟨⟨rfl, rfl, funext fun j => by rw [hQ_sQ, if_neg (by omega)], rfl, rfl⟩, hn⟩
        · rw [hop_2 c d]
          exact ⟨⟨funext fun j => by rw [hI_sI, if_neg (by omega)], rfl, rfl, rfl, rfl⟩, hn⟩
    have q := ih (hop h o) (fun p hp => ok p (List.mem_cons_of_mem _ hp)) s.2
    exact ⟨q.1.trans s.1.1, q.2.1.trans s.1.2.1, q.2.2.1.trans s.1.2.2.1, q.2.2.2.1.trans s.1.2.2.2.1, q.2.2.2.2.trans s.1.2.2.2.2⟩
/-- a place whose numbers are nought -/
theorem hr_z {a : Nat} : ∀ (ops : List Op) (h : Hp), (∀ o, o ∈ ops → o.1 ≤ 1 ∨ o.2.1 ≠ a) → (hN h ≤ a ∨ ∀ j, hI h a j = 0) → (hN (hr ops h) ≤ a ∨ ∀ j, hI (hr ops h) a j = 0) := by
  intro ops
  induction ops with
  | nil => intro h _ z; exact z
  | cons o t ih =>
    intro h ok z
    have k := ok o List.mem_cons_self
    refine ih (hop h o) (fun p hp => ok p (List.mem_cons_of_mem _ hp)) ?_
    by_cases c : o.1 = 0
    · rw [hop_0 c, hN_new, hI_new]
      by_cases e : a = hN h
      · right; intro j; rw [if_pos e]
      · rcases z with q | q
        · left; omega
        · right; intro j; rw [if_neg e]; exact q j
    · by_cases d : o.1 = 1
      · rw [hop_1 c d]; exact z
      · rw [hop_2 c d, hN_sI]
        rcases z with q | q
        · left; exact q
        · right; intro j; rw [hI_sI, if_neg (by omega)]; exact q j
theorem hr_app : ∀ (s t : List Op) (h : Hp), hr (s ++ t) h = hr t (hr s h) := by
  intro s
  induction s with
  | nil => intro t h; rfl
  | cons o s ih => intro t h; exact ih t (hop h o)
section STEPS
variable {ops : List Op} {h : Hp} {i : Nat}
theorem hr_st {o : Op} (e : ops[i]? = some o) : hop (hr (ops.take i) h) o = hr (ops.take (i + 1)) h := by
  rw [List.take_succ, e, hr_app]
  rfl
theorem st_new {c n s : Nat} (e : ops[i]? = some (0, c, n, s)) : hNew (hr (ops.take i) h) c n s = hr (ops.take (i + 1)) h := by
  rw [← hr_st e]
  rfl
theorem st_nA {ar n : Nat} (e : ops[i]? = some (0, ar, n, n)) (har : 12 ≤ ar ∧ ar ≤ 18) (hn : n < 100000) : nA ar (nI n) (hr (ops.take i) h) = some (hr (ops.take (i + 1)) h) := by
  rw [nA_e har hn, st_new e]
theorem st_pQ {c a k b : Nat} (e : ops[i]? = some (1, a, k, b)) (hk : hK (hr (ops.take i) h) a = c) (ha : 30 ≤ a) : pQ c k (some a) (some b) (hr (ops.take i) h) = some (hr (ops.take (i + 1)) h) := by
  rw [pQ_e hk ha, ← hr_st e]
  rfl
theorem st_pI {c a k : Nat} (e : ops[i]? = some (2, a, k, 0)) (hk : hK (hr (ops.take i) h) a = c) (ha : 30 ≤ a) : pI c k (some a) (-1) (hr (ops.take i) h) = some (hr (ops.take (i + 1)) h) := by
  rw [pI_e hk ha, ← hr_st e]
  rfl
theorem st_wI {a k : Nat} (e : ops[i]? = some (2, a, k, 1)) (hk : hK (hr (ops.take i) h) a = 12) (hl : k < hL (hr (ops.take i) h) a ∧ k < 1000) (ha : 30 ≤ a) : wI (some a) (nI k) (-2) (hr (ops.take i) h) = some (hr (ops.take (i + 1)) h) := by
  rw [wI_e hk ha hl.1 (by omega), ← hr_st e]
  rfl
end STEPS
def opsD : List Op := [(0, 10, 0, 14), (0, 9, 0, 10), (0, 12, 940, 940), (1, 31, 0, 32), (1, 30, 0, 31), (0, 7, 0, 4), (0, 12, 10, 10), (1, 33, 0, 34), (0, 12, 10, 10), (1, 33, 1, 35), (2, 33, 3, 0), (1, 30, 1, 33), (0, 7, 0, 4), (0, 12, 10, 10), (1, 36, 0, 37), (0, 12, 10, 10), (1, 36, 1, 38), (2, 36, 3, 0), (1, 30, 2, 36), (0, 3, 0, 16), (0, 13, 40, 40), (1, 39, 0, 40), (0, 12, 10, 10), (1, 39, 3, 41), (0, 12, 10, 10), (1, 39, 4, 42), (0, 12, 10, 10), (1, 39, 6, 43), (0, 12, 10, 10), (1, 39, 8, 44), (0, 12, 10, 10), (1, 39, 10, 45), (0, 12, 10, 10), (1, 39, 11, 46), (0, 12, 10, 10), (1, 39, 12, 47), (1, 30, 3, 39), (0, 2, 0, 5), (0, 12, 10, 10), (1, 48, 0, 49), (0, 12, 10, 10), (1, 48, 1, 50), (2, 48, 4, 0), (1, 30, 4, 48), (0, 6, 0, 6), (0, 12, 32, 32), (1, 51, 0, 52), (0, 7, 0, 4), (0, 12, 10, 10), (1, 53, 0, 54), (0, 12, 10, 10), (1, 53, 1, 55), (2, 53, 3, 0), (1, 51, 2, 53), (1, 30, 5, 51), (0, 17, 2, 2), (1, 30, 6, 56), (0, 15, 2, 2), (1, 30, 7, 57), (0, 18, 2, 2), (1, 30, 8, 58), (0, 12, 5, 5), (1, 30, 9, 59), (0, 4, 0, 9), (0, 12, 100, 100), (1, 60, 0, 61), (0, 16, 10, 10), (1, 60, 1, 62), (0, 12, 18, 18), (1, 60, 2, 63), (2, 60, 7, 0), (1, 33, 2, 60), (2, 33, 3, 0)]
def opsR : List Op := [(0, 11, 0, 64), (0, 12, 940, 940), (1, 64, 1, 65), (0, 12, 704, 704), (1, 64, 14, 66), (0, 12, 330, 330), (1, 64, 15, 67), (0, 12, 120, 120), (1, 64, 16, 68), (0, 12, 1408, 1408), (1, 64, 17, 69), (0, 13, 10, 10), (1, 64, 18, 70), (0, 13, 10, 10), (1, 64, 19, 71), (0, 13, 20, 20), (1, 64, 20, 72), (0, 14, 2, 2), (1, 64, 21, 73), (0, 12, 4, 4), (1, 64, 24, 74), (0, 12, 4, 4), (1, 64, 25, 75), (0, 13, 40, 40), (1, 64, 27, 76), (0, 13, 40, 40), (1, 64, 28, 77), (0, 12, 10, 10), (1, 64, 29, 78), (0, 12, 10, 10), (1, 64, 30, 79), (0, 12, 10, 10), (1, 64, 31, 80), (0, 12, 10, 10), (1, 64, 34, 81), (0, 12, 10, 10), (1, 64, 35, 82), (0, 12, 10, 10), (1, 64, 36, 83), (0, 12, 1024, 1024), (1, 64, 39, 84), (0, 12, 1024, 1024), (1, 64, 40, 85), (0, 12, 10, 10), (1, 64, 41, 86), (0, 12, 10, 10), (1, 64, 43, 87), (0, 12, 100, 100), (1, 64, 44, 88), (0, 12, 5, 5), (2, 89, 0, 1), (2, 89, 1, 1), (2, 89, 2, 1), (2, 89, 3, 1), (2, 89, 4, 1), (1, 64, 48, 89), (0, 12, 24300, 24300), (1, 64, 50, 90), (0, 12, 24300, 24300), (1, 64, 51, 91), (0, 12, 24300, 24300), (1, 64, 52, 92), (0, 12, 24300, 24300), (1, 64, 53, 93), (0, 12, 24300, 24300), (1, 64, 54, 94), (0, 14, 100, 100), (1, 64, 58, 95), (0, 12, 240, 240), (1, 64, 59, 96), (0, 13, 1, 1)]
section CLS
variable {xs : Nat → Int32} {n i : Nat}
theorem kd1 {a c : Nat} (e : kO (opsD.take i) 30 a (bd_kS a) = c) : hK (hr (opsD.take i) (bd_h0 xs n)) a = c := (hr_K _ _ _).trans e
theorem nn1 {m : Nat} (e : nO (opsD.take i) 30 = m) : hN (hr (opsD.take i) (bd_h0 xs n)) = m := (hr_N _ _).trans e
theorem qd1 {a k : Nat} {q : Option Nat} (e : a ≠ 26 ∧ qO (opsD.take i) 30 a k none = q) : hQ (hr (opsD.take i) (bd_h0 xs n)) a k = q := by
  rw [hr_Q, show hQ (bd_h0 xs n) a k = none from if_neg (fun z => e.1 z.1)]
  exact e.2
theorem id1 {a k : Nat} (e : iO (opsD.take i) 30 a k 0 = 2) : hI (hr (opsD.take i) (bd_h0 xs n)) a k = -1 := by
  have q := hr_I (opsD.take i) (bd_h0 xs n) a k 0 (hI (bd_h0 xs n) a k) rfl
  rw [show hN (bd_h0 xs n) = 30 from rfl, e] at q
  exact q
theorem k114_31 : f_114 (some 31) (hr (opsD.take 2) (bd_h0 xs n)) = some (hr (opsD.take 4) (bd_h0 xs n)) := by
  rw [f_114]
  rw [b_114_0]
  rw [Option.isSome_some]
  rw [grd_e]
  rw [Option.bind_some]
  try rw [nn1 (i := 2) (m := 32) (by decide +kernel)]
  rw [st_nA (i := 2) (by decide +kernel) (by omega) (by omega), Option.bind_some]
  rw [st_pQ (i := 3) (by decide +kernel) (kd1 (i := 3) (a := 31) (c := 9) (by decide +kernel)) (by omega), Option.bind_some]
theorem k82_33 : f_82 (some 33) (hr (opsD.take 6) (bd_h0 xs n)) = some (hr (opsD.take 11) (bd_h0 xs n)) := by
  rw [f_82]
  rw [b_82_0]
  rw [Option.isSome_some]
  rw [grd_e]
  rw [Option.bind_some]
  try rw [nn1 (i := 6) (m := 34) (by decide +kernel)]
  rw [st_nA (i := 6) (by decide +kernel) (by omega) (by omega), Option.bind_some]
  rw [st_pQ (i := 7) (by decide +kernel) (kd1 (i := 7) (a := 33) (c := 7) (by decide +kernel)) (by omega), Option.bind_some]
  try rw [nn1 (i := 8) (m := 35) (by decide +kernel)]
  rw [st_nA (i := 8) (by decide +kernel) (by omega) (by omega), Option.bind_some]
  rw [st_pQ (i := 9) (by decide +kernel) (kd1 (i := 9) (a := 33) (c := 7) (by decide +kernel)) (by omega), Option.bind_some]
  rw [st_pI (i := 10) (by decide +kernel) (kd1 (i := 10) (a := 33) (c := 7) (by decide +kernel)) (by omega), Option.bind_some]
theorem k82_36 : f_82 (some 36) (hr (opsD.take 13) (bd_h0 xs n)) = some (hr (opsD.take 18) (bd_h0 xs n)) := by
  rw [f_82]
  rw [b_82_0]
  rw [Option.isSome_some]
  rw [grd_e]
  rw [Option.bind_some]
  try rw [nn1 (i := 13) (m := 37) (by decide +kernel)]
  rw [st_nA (i := 13) (by decide +kernel) (by omega) (by omega), Option.bind_some]
  rw [st_pQ (i := 14) (by decide +kernel) (kd1 (i := 14) (a := 36) (c := 7) (by decide +kernel)) (by omega), Option.bind_some]
  try rw [nn1 (i := 15) (m := 38) (by decide +kernel)]
  rw [st_nA (i := 15) (by decide +kernel) (by omega) (by omega), Option.bind_some]
  rw [st_pQ (i := 16) (by decide +kernel) (kd1 (i := 16) (a := 36) (c := 7) (by decide +kernel)) (by omega), Option.bind_some]
  rw [st_pI (i := 17) (by decide +kernel) (kd1 (i := 17) (a := 36) (c := 7) (by decide +kernel)) (by omega), Option.bind_some]
theorem k26_39 : f_26 (some 39) (hr (opsD.take 20) (bd_h0 xs n)) = some (hr (opsD.take 36) (bd_h0 xs n)) := by
  rw [f_26]
  rw [b_26_0]
  rw [Option.isSome_some]
  rw [grd_e]
  rw [Option.bind_some]
  try rw [nn1 (i := 20) (m := 40) (by decide +kernel)]
  rw [st_nA (i := 20) (by decide +kernel) (by omega) (by omega), Option.bind_some]
  rw [st_pQ (i := 21) (by decide +kernel) (kd1 (i := 21) (a := 39) (c := 3) (by decide +kernel)) (by omega), Option.bind_some]
  try rw [nn1 (i := 22) (m := 41) (by decide +kernel)]
  rw [st_nA (i := 22) (by decide +kernel) (by omega) (by omega), Option.bind_some]
  rw [st_pQ (i := 23) (by decide +kernel) (kd1 (i := 23) (a := 39) (c := 3) (by decide +kernel)) (by omega), Option.bind_some]
  try rw [nn1 (i := 24) (m := 42) (by decide +kernel)]
  rw [st_nA (i := 24) (by decide +kernel) (by omega) (by omega), Option.bind_some]
  rw [st_pQ (i := 25) (by decide +kernel) (kd1 (i := 25) (a := 39) (c := 3) (by decide +kernel)) (by omega), Option.bind_some]
  try rw [nn1 (i := 26) (m := 43) (by decide +kernel)]
  rw [st_nA (i := 26) (by decide +kernel) (by omega) (by omega), Option.bind_some]
  rw [st_pQ (i := 27) (by decide +kernel) (kd1 (i := 27) (a := 39) (c := 3) (by decide +kernel)) (by omega), Option.bind_some]
  try rw [nn1 (i := 28) (m := 44) (by decide +kernel)]
  rw [st_nA (i := 28) (by decide +kernel) (by omega) (by omega), Option.bind_some]
  rw [st_pQ (i := 29) (by decide +kernel) (kd1 (i := 29) (a := 39) (c := 3) (by decide +kernel)) (by omega), Option.bind_some]
  try rw [nn1 (i := 30) (m := 45) (by decide +kernel)]
  rw [st_nA (i := 30) (by decide +kernel) (by omega) (by omega), Option.bind_some]
  rw [st_pQ (i := 31) (by decide +kernel) (kd1 (i := 31) (a := 39) (c := 3) (by decide +kernel)) (by omega), Option.bind_some]
  try rw [nn1 (i := 32) (m := 46) (by decide +kernel)]
  rw [st_nA (i := 32) (by decide +kernel) (by omega) (by omega), Option.bind_some]
  rw [st_pQ (i := 33) (by decide +kernel) (kd1 (i := 33) (a := 39) (c := 3) (by decide +kernel)) (by omega), Option.bind_some]
  try rw [nn1 (i := 34) (m := 47) (by decide +kernel)]
  rw [st_nA (i := 34) (by decide +kernel) (by omega) (by omega), Option.bind_some]
  rw [st_pQ (i := 35) (by decide +kernel) (kd1 (i := 35) (a := 39) (c := 3) (by decide +kernel)) (by omega), Option.bind_some]
theorem k21_48 : f_21 (some 48) (hr (opsD.take 38) (bd_h0 xs n)) = some (hr (opsD.take 43) (bd_h0 xs n)) := by
  rw [f_21]
  rw [b_21_0]
  rw [Option.isSome_some]
  rw [grd_e]
  rw [Option.bind_some]
  try rw [nn1 (i := 38) (m := 49) (by decide +kernel)]
  rw [st_nA (i := 38) (by decide +kernel) (by omega) (by omega), Option.bind_some]
  rw [st_pQ (i := 39) (by decide +kernel) (kd1 (i := 39) (a := 48) (c := 2) (by decide +kernel)) (by omega), Option.bind_some]
  try rw [nn1 (i := 40) (m := 50) (by decide +kernel)]
  rw [st_nA (i := 40) (by decide +kernel) (by omega) (by omega), Option.bind_some]
  rw [st_pQ (i := 41) (by decide +kernel) (kd1 (i := 41) (a := 48) (c := 2) (by decide +kernel)) (by omega), Option.bind_some]
  rw [st_pI (i := 42) (by decide +kernel) (kd1 (i := 42) (a := 48) (c := 2) (by decide +kernel)) (by omega), Option.bind_some]
theorem k82_53 : f_82 (some 53) (hr (opsD.take 48) (bd_h0 xs n)) = some (hr (opsD.take 53) (bd_h0 xs n)) := by
  rw [f_82]
  rw [b_82_0]
  rw [Option.isSome_some]
  rw [grd_e]
  rw [Option.bind_some]
  try rw [nn1 (i := 48) (m := 54) (by decide +kernel)]
  rw [st_nA (i := 48) (by decide +kernel) (by omega) (by omega), Option.bind_some]
  rw [st_pQ (i := 49) (by decide +kernel) (kd1 (i := 49) (a := 53) (c := 7) (by decide +kernel)) (by omega), Option.bind_some]
  try rw [nn1 (i := 50) (m := 55) (by decide +kernel)]
  rw [st_nA (i := 50) (by decide +kernel) (by omega) (by omega), Option.bind_some]
  rw [st_pQ (i := 51) (by decide +kernel) (kd1 (i := 51) (a := 53) (c := 7) (by decide +kernel)) (by omega), Option.bind_some]
  rw [st_pI (i := 52) (by decide +kernel) (kd1 (i := 52) (a := 53) (c := 7) (by decide +kernel)) (by omega), Option.bind_some]
theorem k69_51 : f_69 (some 51) (hr (opsD.take 45) (bd_h0 xs n)) = some (hr (opsD.take 54) (bd_h0 xs n)) := by
  rw [f_69]
  rw [b_69_0]
  rw [Option.isSome_some]
  rw [grd_e]
  rw [Option.bind_some]
  try rw [nn1 (i := 45) (m := 52) (by decide +kernel)]
  rw [st_nA (i := 45) (by decide +kernel) (by omega) (by omega), Option.bind_some]
  rw [st_pQ (i := 46) (by decide +kernel) (kd1 (i := 46) (a := 51) (c := 6) (by decide +kernel)) (by omega), Option.bind_some]
  rw [bnd_e]
  try rw [nn1 (i := 47) (m := 53) (by decide +kernel)]
  rw [st_new (i := 47) (by decide +kernel)]
  rw [Option.isSome_some]
  rw [grd_e]
  rw [Option.bind_some]
  rw [k82_53]
  rw [Option.bind_some]
  rw [st_pQ (i := 53) (by decide +kernel) (kd1 (i := 53) (a := 51) (c := 6) (by decide +kernel)) (by omega), Option.bind_some]
theorem k49_60 : f_49 (some 60) (hr (opsD.take 64) (bd_h0 xs n)) = some (hr (opsD.take 71) (bd_h0 xs n)) := by
  rw [f_49]
  rw [b_49_0]
  rw [Option.isSome_some]
  rw [grd_e]
  rw [Option.bind_some]
  try rw [nn1 (i := 64) (m := 61) (by decide +kernel)]
  rw [st_nA (i := 64) (by decide +kernel) (by omega) (by omega), Option.bind_some]
  rw [st_pQ (i := 65) (by decide +kernel) (kd1 (i := 65) (a := 60) (c := 4) (by decide +kernel)) (by omega), Option.bind_some]
  try rw [nn1 (i := 66) (m := 62) (by decide +kernel)]
  rw [st_nA (i := 66) (by decide +kernel) (by omega) (by omega), Option.bind_some]
  rw [st_pQ (i := 67) (by decide +kernel) (kd1 (i := 67) (a := 60) (c := 4) (by decide +kernel)) (by omega), Option.bind_some]
  try rw [nn1 (i := 68) (m := 63) (by decide +kernel)]
  rw [st_nA (i := 68) (by decide +kernel) (by omega) (by omega), Option.bind_some]
  rw [st_pQ (i := 69) (by decide +kernel) (kd1 (i := 69) (a := 60) (c := 4) (by decide +kernel)) (by omega), Option.bind_some]
  rw [st_pI (i := 70) (by decide +kernel) (kd1 (i := 70) (a := 60) (c := 4) (by decide +kernel)) (by omega), Option.bind_some]

theorem e129 : ∃ g, f_129 (some 30) (hr (opsD.take 1) (bd_h0 xs n)) = some g ∧ Fz [35] (hr (opsD.take 73) (bd_h0 xs n)) g ∧ ∀ j, j < 10 → hI g 35 j = nI 0 := by
  obtain ⟨g, a1, a2, a3⟩ := s_306 (a := 35) (n := 10) (x := nI 0) (h := (hr (opsD.take 73) (bd_h0 xs n))) (by omega) (by omega) (kd1 (i := 73) (a := 35) (c := 12) (by decide +kernel)) ((hr_L _ _ _).trans (by show lO (opsD.take 73) 30 35 0 = 10; decide +kernel))
  refine ⟨g, ?_, a2, a3⟩
  rw [f_129, b_129_0, Option.isSome_some, grd_e, Option.bind_some]
  rw [bnd_e, nn1 (i := 1) (m := 31) (by decide +kernel), st_new (i := 1) (by decide +kernel), Option.isSome_some, grd_e, Option.bind_some]
  rw [k114_31, Option.bind_some]
  rw [st_pQ (i := 4) (by decide +kernel) (kd1 (i := 4) (a := 30) (c := 10) (by decide +kernel)) (by omega), Option.bind_some]
  rw [bnd_e, nn1 (i := 5) (m := 33) (by decide +kernel), st_new (i := 5) (by decide +kernel), Option.isSome_some, grd_e, Option.bind_some]
  rw [k82_33, Option.bind_some]
  rw [st_pQ (i := 11) (by decide +kernel) (kd1 (i := 11) (a := 30) (c := 10) (by decide +kernel)) (by omega), Option.bind_some]
  rw [bnd_e, nn1 (i := 12) (m := 36) (by decide +kernel), st_new (i := 12) (by decide +kernel), Option.isSome_some, grd_e, Option.bind_some]
  rw [k82_36, Option.bind_some]
  rw [st_pQ (i := 18) (by decide +kernel) (kd1 (i := 18) (a := 30) (c := 10) (by decide +kernel)) (by omega), Option.bind_some]
  rw [bnd_e, nn1 (i := 19) (m := 39) (by decide +kernel), st_new (i := 19) (by decide +kernel), Option.isSome_some, grd_e, Option.bind_some]
  rw [k26_39, Option.bind_some]
  rw [st_pQ (i := 36) (by decide +kernel) (kd1 (i := 36) (a := 30) (c := 10) (by decide +kernel)) (by omega), Option.bind_some]
  rw [bnd_e, nn1 (i := 37) (m := 48) (by decide +kernel), st_new (i := 37) (by decide +kernel), Option.isSome_some, grd_e, Option.bind_some]
  rw [k21_48, Option.bind_some]
  rw [st_pQ (i := 43) (by decide +kernel) (kd1 (i := 43) (a := 30) (c := 10) (by decide +kernel)) (by omega), Option.bind_some]
  rw [bnd_e, nn1 (i := 44) (m := 51) (by decide +kernel), st_new (i := 44) (by decide +kernel), Option.isSome_some, grd_e, Option.bind_some]
  rw [k69_51, Option.bind_some]
  rw [st_pQ (i := 54) (by decide +kernel) (kd1 (i := 54) (a := 30) (c := 10) (by decide +kernel)) (by omega), Option.bind_some]
  rw [nn1 (i := 55) (m := 56) (by decide +kernel), st_nA (i := 55) (by decide +kernel) (by omega) (by omega), Option.bind_some, st_pQ (i := 56) (by decide +kernel) (kd1 (i := 56) (a := 30) (c := 10) (by decide +kernel)) (by omega), Option.bind_some]
  rw [nn1 (i := 57) (m := 57) (by decide +kernel), st_nA (i := 57) (by decide +kernel) (by omega) (by omega), Option.bind_some, st_pQ (i := 58) (by decide +kernel) (kd1 (i := 58) (a := 30) (c := 10) (by decide +kernel)) (by omega), Option.bind_some]
  rw [nn1 (i := 59) (m := 58) (by decide +kernel), st_nA (i := 59) (by decide +kernel) (by omega) (by omega), Option.bind_some, st_pQ (i := 60) (by decide +kernel) (kd1 (i := 60) (a := 30) (c := 10) (by decide +kernel)) (by omega), Option.bind_some]
  rw [nn1 (i := 61) (m := 59) (by decide +kernel), st_nA (i := 61) (by decide +kernel) (by omega) (by omega), Option.bind_some, st_pQ (i := 62) (by decide +kernel) (kd1 (i := 62) (a := 30) (c := 10) (by decide +kernel)) (by omega), Option.bind_some]
  rw [gQ_e (kd1 (i := 63) (a := 30) (c := 10) (by decide +kernel)), show hQ (hr (opsD.take 63) (bd_h0 xs n)) 30 1 = some 33 from qd1 (by decide +kernel), Option.bind_some]
  rw [bnd_e, nn1 (i := 63) (m := 60) (by decide +kernel), st_new (i := 63) (by decide +kernel), Option.isSome_some, grd_e, Option.bind_some]
  rw [k49_60, Option.bind_some]
  rw [rC_e (kd1 (i := 71) (a := 33) (c := 7) (by decide +kernel)) (by omega), grd_e, Option.bind_some]
  rw [f_83, b_83_0]
  rw [st_pQ (i := 71) (by decide +kernel) (kd1 (i := 71) (a := 33) (c := 7) (by decide +kernel)) (by omega), Option.bind_some]
  rw [gI_e (kd1 (i := 72) (a := 60) (c := 4) (by decide +kernel)), show hI (hr (opsD.take 72) (bd_h0 xs n)) 60 7 = -1 from id1 (by decide +kernel), Option.bind_some]
  rw [st_pI (i := 72) (by decide +kernel) (kd1 (i := 72) (a := 33) (c := 7) (by decide +kernel)) (by omega), Option.bind_some]
  rw [gQ_e (kd1 (i := 73) (a := 33) (c := 7) (by decide +kernel)), show hQ (hr (opsD.take 73) (bd_h0 xs n)) 33 1 = some 35 from qd1 (by decide +kernel), Option.bind_some]
  rw [a1, Option.bind_some, bnd_e]
  obtain ⟨m, hm⟩ := FU_ge 1 (by omega)
  have i5 : hI g 60 5 = nI 0 := by
    rw [a2.I (by decide)]
    have q := hr_I (opsD.take 73) (bd_h0 xs n) 60 5 0 (hI (bd_h0 xs n) 60 5) rfl
    rw [show hN (bd_h0 xs n) = 30 from rfl, show iO (opsD.take 73) 30 60 5 0 = 1 by decide +kernel] at q
    exact q
  rw [hm, Nat.add_comm 1 m, l_83_23, b_83_23, gI_e (by rw [a2.K]; exact kd1 (i := 73) (a := 60) (c := 4) (by decide +kernel)), Option.bind_some, i5, if_pos (Int32.le_refl _), b_83_52, Option.bind_some]
end CLS
section REF
variable {g : Hp} {i : Nat}
theorem kd2 {a c : Nat} (gN : hN g = 64) (gK : ∀ a, hK g a = kO opsD 30 a (bd_kS a)) (e : kO (opsR.take i) 64 a (kO opsD 30 a (bd_kS a)) = c) : hK (hr (opsR.take i) g) a = c := by rw [hr_K, gN, gK]; exact e
theorem nn2 {m : Nat} (gN : hN g = 64) (e : nO (opsR.take i) 64 = m) : hN (hr (opsR.take i) g) = m := by rw [hr_N, gN]; exact e
theorem ld2 {a c : Nat} (gN : hN g = 64) (gL : ∀ a, 30 ≤ a → hL g a = lO opsD 30 a 0) (ha : 30 ≤ a ∧ lO (opsR.take i) 64 a (lO opsD 30 a 0) = c) : hL (hr (opsR.take i) g) a = c := by rw [hr_L, gN, gL a ha.1]; exact ha.2
theorem e175 (gN : hN g = 64) (gK : ∀ a, hK g a = kO opsD 30 a (bd_kS a)) (gL : ∀ a, 30 ≤ a → hL g a = lO opsD 30 a 0) : f_175 (some 64) (hr (opsR.take 1) g) = some (hr (opsR.take 70) g) := by
  rw [f_175, b_175_0, Option.isSome_some, grd_e, Option.bind_some]
  rw [nn2 gN (i := 1) (m := 65) (by decide +kernel), st_nA (i := 1) (by decide +kernel) (by omega) (by omega), Option.bind_some]
  rw [st_pQ (i := 2) (by decide +kernel) (kd2 gN gK (i := 2) (a := 64) (c := 11) (by decide +kernel)) (by omega), Option.bind_some]
  rw [nn2 gN (i := 3) (m := 66) (by decide +kernel), st_nA (i := 3) (by decide +kernel) (by omega) (by omega), Option.bind_some]
  rw [st_pQ (i := 4) (by decide +kernel) (kd2 gN gK (i := 4) (a := 64) (c := 11) (by decide +kernel)) (by omega), Option.bind_some]
  rw [nn2 gN (i := 5) (m := 67) (by decide +kernel), st_nA (i := 5) (by decide +kernel) (by omega) (by omega), Option.bind_some]
  rw [st_pQ (i := 6) (by decide +kernel) (kd2 gN gK (i := 6) (a := 64) (c := 11) (by decide +kernel)) (by omega), Option.bind_some]
  rw [nn2 gN (i := 7) (m := 68) (by decide +kernel), st_nA (i := 7) (by decide +kernel) (by omega) (by omega), Option.bind_some]
  rw [st_pQ (i := 8) (by decide +kernel) (kd2 gN gK (i := 8) (a := 64) (c := 11) (by decide +kernel)) (by omega), Option.bind_some]
  rw [nn2 gN (i := 9) (m := 69) (by decide +kernel), st_nA (i := 9) (by decide +kernel) (by omega) (by omega), Option.bind_some]
  rw [st_pQ (i := 10) (by decide +kernel) (kd2 gN gK (i := 10) (a := 64) (c := 11) (by decide +kernel)) (by omega), Option.bind_some]
  rw [nn2 gN (i := 11) (m := 70) (by decide +kernel), st_nA (i := 11) (by decide +kernel) (by omega) (by omega), Option.bind_some]
  rw [st_pQ (i := 12) (by decide +kernel) (kd2 gN gK (i := 12) (a := 64) (c := 11) (by decide +kernel)) (by omega), Option.bind_some]
  rw [nn2 gN (i := 13) (m := 71) (by decide +kernel), st_nA (i := 13) (by decide +kernel) (by omega) (by omega), Option.bind_some]
  rw [st_pQ (i := 14) (by decide +kernel) (kd2 gN gK (i := 14) (a := 64) (c := 11) (by decide +kernel)) (by omega), Option.bind_some]
  rw [nn2 gN (i := 15) (m := 72) (by decide +kernel), st_nA (i := 15) (by decide +kernel) (by omega) (by omega), Option.bind_some]
  rw [st_pQ (i := 16) (by decide +kernel) (kd2 gN gK (i := 16) (a := 64) (c := 11) (by decide +kernel)) (by omega), Option.bind_some]
  rw [nn2 gN (i := 17) (m := 73) (by decide +kernel), st_nA (i := 17) (by decide +kernel) (by omega) (by omega), Option.bind_some]
  rw [st_pQ (i := 18) (by decide +kernel) (kd2 gN gK (i := 18) (a := 64) (c := 11) (by decide +kernel)) (by omega), Option.bind_some]
  rw [nn2 gN (i := 19) (m := 74) (by decide +kernel), st_nA (i := 19) (by decide +kernel) (by omega) (by omega), Option.bind_some]
  rw [st_pQ (i := 20) (by decide +kernel) (kd2 gN gK (i := 20) (a := 64) (c := 11) (by decide +kernel)) (by omega), Option.bind_some]
  rw [nn2 gN (i := 21) (m := 75) (by decide +kernel), st_nA (i := 21) (by decide +kernel) (by omega) (by omega), Option.bind_some]
  rw [st_pQ (i := 22) (by decide +kernel) (kd2 gN gK (i := 22) (a := 64) (c := 11) (by decide +kernel)) (by omega), Option.bind_some]
  rw [nn2 gN (i := 23) (m := 76) (by decide +kernel), st_nA (i := 23) (by decide +kernel) (by omega) (by omega), Option.bind_some]
  rw [st_pQ (i := 24) (by decide +kernel) (kd2 gN gK (i := 24) (a := 64) (c := 11) (by decide +kernel)) (by omega), Option.bind_some]
  rw [nn2 gN (i := 25) (m := 77) (by decide +kernel), st_nA (i := 25) (by decide +kernel) (by omega) (by omega), Option.bind_some]
  rw [st_pQ (i := 26) (by decide +kernel) (kd2 gN gK (i := 26) (a := 64) (c := 11) (by decide +kernel)) (by omega), Option.bind_some]
  rw [nn2 gN (i := 27) (m := 78) (by decide +kernel), st_nA (i := 27) (by decide +kernel) (by omega) (by omega), Option.bind_some]
  rw [st_pQ (i := 28) (by decide +kernel) (kd2 gN gK (i := 28) (a := 64) (c := 11) (by decide +kernel)) (by omega), Option.bind_some]
  rw [nn2 gN (i := 29) (m := 79) (by decide +kernel), st_nA (i := 29) (by decide +kernel) (by omega) (by omega), Option.bind_some]
  rw [st_pQ (i := 30) (by decide +kernel) (kd2 gN gK (i := 30) (a := 64) (c := 11) (by decide +kernel)) (by omega), Option.bind_some]
  rw [nn2 gN (i := 31) (m := 80) (by decide +kernel), st_nA (i := 31) (by decide +kernel) (by omega) (by omega), Option.bind_some]
  rw [st_pQ (i := 32) (by decide +kernel) (kd2 gN gK (i := 32) (a := 64) (c := 11) (by decide +kernel)) (by omega), Option.bind_some]
  rw [nn2 gN (i := 33) (m := 81) (by decide +kernel), st_nA (i := 33) (by decide +kernel) (by omega) (by omega), Option.bind_some]
  rw [st_pQ (i := 34) (by decide +kernel) (kd2 gN gK (i := 34) (a := 64) (c := 11) (by decide +kernel)) (by omega), Option.bind_some]
  rw [nn2 gN (i := 35) (m := 82) (by decide +kernel), st_nA (i := 35) (by decide +kernel) (by omega) (by omega), Option.bind_some]
  rw [st_pQ (i := 36) (by decide +kernel) (kd2 gN gK (i := 36) (a := 64) (c := 11) (by decide +kernel)) (by omega), Option.bind_some]
  rw [nn2 gN (i := 37) (m := 83) (by decide +kernel), st_nA (i := 37) (by decide +kernel) (by omega) (by omega), Option.bind_some]
  rw [st_pQ (i := 38) (by decide +kernel) (kd2 gN gK (i := 38) (a := 64) (c := 11) (by decide +kernel)) (by omega), Option.bind_some]
  rw [nn2 gN (i := 39) (m := 84) (by decide +kernel), st_nA (i := 39) (by decide +kernel) (by omega) (by omega), Option.bind_some]
  rw [st_pQ (i := 40) (by decide +kernel) (kd2 gN gK (i := 40) (a := 64) (c := 11) (by decide +kernel)) (by omega), Option.bind_some]
  rw [nn2 gN (i := 41) (m := 85) (by decide +kernel), st_nA (i := 41) (by decide +kernel) (by omega) (by omega), Option.bind_some]
  rw [st_pQ (i := 42) (by decide +kernel) (kd2 gN gK (i := 42) (a := 64) (c := 11) (by decide +kernel)) (by omega), Option.bind_some]
  rw [nn2 gN (i := 43) (m := 86) (by decide +kernel), st_nA (i := 43) (by decide +kernel) (by omega) (by omega), Option.bind_some]
  rw [st_pQ (i := 44) (by decide +kernel) (kd2 gN gK (i := 44) (a := 64) (c := 11) (by decide +kernel)) (by omega), Option.bind_some]
  rw [nn2 gN (i := 45) (m := 87) (by decide +kernel), st_nA (i := 45) (by decide +kernel) (by omega) (by omega), Option.bind_some]
  rw [st_pQ (i := 46) (by decide +kernel) (kd2 gN gK (i := 46) (a := 64) (c := 11) (by decide +kernel)) (by omega), Option.bind_some]
  rw [nn2 gN (i := 47) (m := 88) (by decide +kernel), st_nA (i := 47) (by decide +kernel) (by omega) (by omega), Option.bind_some]
  rw [st_pQ (i := 48) (by decide +kernel) (kd2 gN gK (i := 48) (a := 64) (c := 11) (by decide +kernel)) (by omega), Option.bind_some]
  rw [nn2 gN (i := 49) (m := 89) (by decide +kernel), st_nA (i := 49) (by decide +kernel) (by omega) (by omega), Option.bind_some]
  rw [st_wI (i := 50) (by decide +kernel) (kd2 gN gK (i := 50) (a := 89) (c := 12) (by decide +kernel)) (by rw [ld2 gN gL (i := 50) (a := 89) (c := 5) (by decide +kernel)]; omega) (by omega), Option.bind_some]
  rw [st_wI (i := 51) (by decide +kernel) (kd2 gN gK (i := 51) (a := 89) (c := 12) (by decide +kernel)) (by rw [ld2 gN gL (i := 51) (a := 89) (c := 5) (by decide +kernel)]; omega) (by omega), Option.bind_some]
  rw [st_wI (i := 52) (by decide +kernel) (kd2 gN gK (i := 52) (a := 89) (c := 12) (by decide +kernel)) (by rw [ld2 gN gL (i := 52) (a := 89) (c := 5) (by decide +kernel)]; omega) (by omega), Option.bind_some]
  rw [st_wI (i := 53) (by decide +kernel) (kd2 gN gK (i := 53) (a := 89) (c := 12) (by decide +kernel)) (by rw [ld2 gN gL (i := 53) (a := 89) (c := 5) (by decide +kernel)]; omega) (by omega), Option.bind_some]
  rw [st_wI (i := 54) (by decide +kernel) (kd2 gN gK (i := 54) (a := 89) (c := 12) (by decide +kernel)) (by rw [ld2 gN gL (i := 54) (a := 89) (c := 5) (by decide +kernel)]; omega) (by omega), Option.bind_some]
  rw [st_pQ (i := 55) (by decide +kernel) (kd2 gN gK (i := 55) (a := 64) (c := 11) (by decide +kernel)) (by omega), Option.bind_some]
  rw [nn2 gN (i := 56) (m := 90) (by decide +kernel), st_nA (i := 56) (by decide +kernel) (by omega) (by omega), Option.bind_some]
  rw [st_pQ (i := 57) (by decide +kernel) (kd2 gN gK (i := 57) (a := 64) (c := 11) (by decide +kernel)) (by omega), Option.bind_some]
  rw [nn2 gN (i := 58) (m := 91) (by decide +kernel), st_nA (i := 58) (by decide +kernel) (by omega) (by omega), Option.bind_some]
  rw [st_pQ (i := 59) (by decide +kernel) (kd2 gN gK (i := 59) (a := 64) (c := 11) (by decide +kernel)) (by omega), Option.bind_some]
  rw [nn2 gN (i := 60) (m := 92) (by decide +kernel), st_nA (i := 60) (by decide +kernel) (by omega) (by omega), Option.bind_some]
  rw [st_pQ (i := 61) (by decide +kernel) (kd2 gN gK (i := 61) (a := 64) (c := 11) (by decide +kernel)) (by omega), Option.bind_some]
  rw [nn2 gN (i := 62) (m := 93) (by decide +kernel), st_nA (i := 62) (by decide +kernel) (by omega) (by omega), Option.bind_some]
  rw [st_pQ (i := 63) (by decide +kernel) (kd2 gN gK (i := 63) (a := 64) (c := 11) (by decide +kernel)) (by omega), Option.bind_some]
  rw [nn2 gN (i := 64) (m := 94) (by decide +kernel), st_nA (i := 64) (by decide +kernel) (by omega) (by omega), Option.bind_some]
  rw [st_pQ (i := 65) (by decide +kernel) (kd2 gN gK (i := 65) (a := 64) (c := 11) (by decide +kernel)) (by omega), Option.bind_some]
  rw [nn2 gN (i := 66) (m := 95) (by decide +kernel), st_nA (i := 66) (by decide +kernel) (by omega) (by omega), Option.bind_some]
  rw [st_pQ (i := 67) (by decide +kernel) (kd2 gN gK (i := 67) (a := 64) (c := 11) (by decide +kernel)) (by omega), Option.bind_some]
  rw [nn2 gN (i := 68) (m := 96) (by decide +kernel), st_nA (i := 68) (by decide +kernel) (by omega) (by omega), Option.bind_some]
  rw [st_pQ (i := 69) (by decide +kernel) (kd2 gN gK (i := 69) (a := 64) (c := 11) (by decide +kernel)) (by omega), Option.bind_some]
end REF
