/-! scenes: what is asked of them, over the house, the angles and the place (one more than it is) -/
def exB (p : Nat → Bool) : Nat → Nat → Bool
  | _, 0 => false
  | i, r + 1 => p i || exB p (i + 1) r
theorem exB_iff (p : Nat → Bool) : ∀ r i, exB p i r = true ↔ ∃ j, i ≤ j ∧ j < i + r ∧ p j = true := by
  intro r
  induction r with
  | zero => intro i; constructor
            · intro z; exact Bool.noConfusion z
            · rintro ⟨j, h1, h2, _⟩; omega
  | succ r ih =>
    intro i
    show (p i || exB p (i + 1) r) = true ↔ _
    rw [Bool.or_eq_true, ih]
    constructor
    · rintro (z | ⟨j, h1, h2, h3⟩)
      · exact ⟨i, by omega, by omega, z⟩
      · exact ⟨j, by omega, by omega, h3⟩
    · rintro ⟨j, h1, h2, h3⟩
      by_cases c : j = i
      · subst c; exact Or.inl h3
      · exact Or.inr ⟨j, by omega, by omega, h3⟩
theorem exB_cg {p q : Nat → Bool} : ∀ r i, (∀ j, i ≤ j → j < i + r → p j = q j) → exB p i r = exB q i r := by
  intro r
  induction r with
  | zero => intro i _; rfl
  | succ r ih =>
    intro i hh
    show (p i || _) = (q i || _)
    rw [hh i (by omega) (by omega), ih (i + 1) (fun j h1 h2 => hh j (by omega) (by omega))]
def mkM (q : Nat → Bool) : Nat → Nat
  | 0 => 0
  | n + 1 => mkM q n ||| (if q n = true then 2 ^ n else 0)
theorem mkM_lt (q : Nat → Bool) : ∀ n, mkM q n < 2 ^ n
  | 0 => Nat.zero_lt_one
  | n + 1 => by
    have h1 := mkM_lt q n
    have h2 := pw_lt (show n < n + 1 by omega)
    show mkM q n ||| _ < 2 ^ (n + 1)
    apply or_lt
    · omega
    · split
      · exact h2
      · omega
theorem mkM_tb (q : Nat → Bool) (j : Nat) : ∀ n, (mkM q n).testBit j = (decide (j < n) && q j)
  | 0 => by show (0 : Nat).testBit j = _; simp
  | n + 1 => by
    show (mkM q n ||| _).testBit j = _
    rw [Nat.testBit_or, mkM_tb q j n]
    by_cases c : j = n
    · subst c
      have : decide (j < j) = false := by simp
      rw [this, Bool.false_and, Bool.false_or, decide_eq_true (by omega), Bool.true_and]
      cases hm : q j
      · simp
      · simp [Nat.testBit_two_pow_self]
    · have h2 : (if q n = true then 2 ^ n else 0).testBit j = false := by
        split
        · rw [Nat.testBit_two_pow_of_ne (by omega)]
        · exact Nat.zero_testBit j
      rw [h2, Bool.or_false]
      by_cases e : j < n
      · rw [decide_eq_true e, decide_eq_true (by omega)]
      · rw [decide_eq_false e, decide_eq_false (by omega)]
theorem tb0 {x : Nat} : x = 0 ↔ ∀ i, x.testBit i = false := by
  constructor
  · intro z i; rw [z]; exact Nat.zero_testBit i
  · intro z; apply Nat.eq_of_testBit_eq; intro i; rw [z i, Nat.zero_testBit]
theorem tb_out {x k i : Nat} (h : x < 2 ^ k) (hi : k ≤ i) : x.testBit i = false := Nat.testBit_lt_two_pow (Nat.lt_of_lt_of_le h (Nat.pow_le_pow_right (by decide) hi))
/-- the leaf of a door as it is -/
def lf (E an : Nat → Nat) (d c : Nat) : Bool := lfH E d (dHg E d) (an d) c
def leafB (E an : Nat → Nat) (c : Nat) : Bool := exB (fun d => lf E an d c) 0 (E 2)
def adj (p c : Nat) : Bool := decide (c ≠ p ∧ c / 10 ≤ p / 10 + 1 ∧ p / 10 ≤ c / 10 + 1 ∧ c % 10 ≤ p % 10 + 1 ∧ p % 10 ≤ c % 10 + 1)
def nearB (E an : Nat → Nat) (pl d : Nat) : Bool := decide (pl ≠ 0) && exB (fun c => adj (pl - 1) c && (lfH E d (dHg E d) 0 c || lf E an d c)) 0 100
def stX (s : Nat) : Int := if s = 1 then 1 else if s = 3 then -1 else 0
def stY (s : Nat) : Int := if s = 2 then 1 else if s = 0 then -1 else 0
def tgt (pl s : Nat) : Int × Int := (((pl - 1) % 10 : Nat) + stX s, ((pl - 1) / 10 : Nat) + stY s)
def wkB (E : Nat → Nat) (p : Int × Int) : Bool := inE E p && (E (10 + cN p) == 0 || decide (0 < E (210 + cN p)))
def stepK (E an : Nat → Nat) (pl s : Nat) : Nat := if wkB E (tgt pl s) = false then 2 else if leafB E an (cN (tgt pl s)) = true then 3 else 0
def shrB (E an : Nat → Nat) (d a e : Nat) : Bool := exB (fun c => lfH E d (dHg E d) a c && lf E an e c) 0 100
def blkB (E an : Nat → Nat) (pl d a : Nat) : Bool := (decide (pl ≠ 0) && lfH E d (dHg E d) a (pl - 1)) || exB (fun e => decide (e ≠ d) && shrB E an d a e) 0 (E 2)
def hndK (E an : Nat → Nat) (pl d a : Nat) : Nat := if canB E d (dHg E d) a = false then 6 else if blkB E an pl d a = true then 7 else 0
def swK (E an : Nat → Nat) (pl d : Nat) (z : Int) : Nat := if z < 0 ∨ 3 ≤ z then 5 else hndK E an pl d z.toNat
def dA (A : Nat) : Nat := (A - 4) / 2
def nxA (an : Nat → Nat) (A : Nat) : Int := (an (dA A) : Int) + (if A % 2 = 0 then 1 else -1)
def knkK (E an : Nat → Nat) (pl A : Nat) : Nat := if pl = 0 then 1 else if A < 4 then stepK E an pl A else if nearB E an pl (dA A) = true then swK E an pl (dA A) (nxA an A) else 4
def upn (an : Nat → Nat) (d v : Nat) : Nat → Nat := fun e => if e = d then v else an e
def prA (an : Nat → Nat) (A : Nat) : Nat → Nat := if A < 4 then an else upn an (dA A) (nxA an A).toNat
def prP (pl A : Nat) : Nat := if A < 4 then cN (tgt pl A) + 1 else pl
def bl (E an : Nat → Nat) (pl : Nat) : Nat → (Nat → Nat) × Nat
  | 0 => (an, 0)
  | k + 1 =>
    if 0 < (bl E an pl k).1 (E (310 + 3 * k)) ∧ 0 < (bl E an pl k).1 (E (310 + 3 * k + 1)) ∧ 0 < (bl E an pl k).1 (E (310 + 3 * k + 2)) ∧ hndK E (bl E an pl k).1 pl (E (310 + 3 * k + 2)) ((bl E an pl k).1 (E (310 + 3 * k + 2)) - 1) = 0
    then (upn (bl E an pl k).1 (E (310 + 3 * k + 2)) ((bl E an pl k).1 (E (310 + 3 * k + 2)) - 1), (bl E an pl k).2 + 1) else bl E an pl k
/-- the fixed scenes -/
def SP (s : Nat) : Prop := s = 33 ∨ s = 36 ∨ s = 53
section SC
variable {τ : Nat → Nat} {h : Hp} {s : Nat} {E an : Nat → Nat} {pl : Nat}
theorem spF (hF : Fix h) (hs : SP s) : hK h s = 7 ∧ hQ h s 0 = some (s + 1) ∧ hQ h s 1 = some (s + 2) ∧ hK h (s + 1) = 12 ∧ hL h (s + 1) = 10 ∧ hK h (s + 2) = 12 ∧ hL h (s + 2) = 10 ∧ 30 ≤ s := by
  rcases hs with rfl | rfl | rfl
  · exact ⟨K33 hF, Q33_0 hF, Q33_1 hF, K34 hF, L34 hF, K35 hF, L35 hF, by omega⟩
  · exact ⟨K36 hF, Q36_0 hF, Q36_1 hF, K37 hF, L37 hF, K38 hF, L38 hF, by omega⟩
  · exact ⟨K53 hF, Q53_0 hF, Q53_1 hF, K54 hF, L54 hF, K55 hF, L55 hF, by omega⟩
def ScR (τ : Nat → Nat) (h : Hp) (s : Nat) (E an : Nat → Nat) (pl : Nat) : Prop := hQ h s 2 = some (rq h s 2) ∧ HoR τ h (rq h s 2) E ∧ (∀ d, d < E 2 → hI h (s + 1) d = nI (dHg E d) ∧ hI h (s + 2) d = nI (an d)) ∧ hI h s 3 = mI pl
theorem HoR.dr {a d : Nat} (hH : HoR τ h a E) (hd : d < E 2) : hQ h (rq h a 1) d = some (rq h (rq h a 1) d) ∧ DoR τ h (rq h (rq h a 1) d) E d := hH.2.2.2.2.2.2.2.2.1 d hd
theorem WF.hg {d : Nat} (hW : WF E) (hd : d < E 2) : dHg E d < 4 := (hW.2.2.2.2.2.2.1 d hd).1.2.2.2.2.2.1
theorem l_85 {c : Nat} (hF : Fix h) (hs : SP s) (hS : ScR τ h s E an pl) (hW : WF E) (h3 : ∀ d, d < E 2 → an d < 3) (hc : c < 100) : ∀ r i m, i + r = E 2 → l_85_2 (r + 1 + m) (some s) (nI c) (nI i) h = some (bI (exB (fun d => lf E an d c) i r), h) := by
  obtain ⟨q0, q1, q2, q3, q4, q5, q6, q7⟩ := spF hF hs
  obtain ⟨p0, hH, p1, p2⟩ := hS
  have hH' := hH
  obtain ⟨k, ge, t, a0, a1, a2, ⟨f0, f1, f2, f3, f4⟩, hcl, hd, hw⟩ := hH'
  have w2 := hW.2.2.1
  intro r
  induction r with
  | zero =>
    intro i m hi
    obtain rfl : i = E 2 := by omega
    rw [show 0 + 1 + m = m + 1 by omega]
    simp (disch := first | assumption | (repeat' (first | apply fx_sI | apply fx_sJ | assumption | omega))) only [l_85_2, f_85, b_85_0, b_85_2, b_85_13, b_85_41, b_85_43, b_85_49, ↓reduceIte, gQ_e q0, p0, gI_e k, f2, Option.bind_some, nI_leI, Nat.le_refl, exB]
    rfl
  | succ r ih =>
    intro i m hi
    have hd2 := hH.dr (show i < E 2 by omega)
    have hp := p1 i (by omega)
    have hg := hW.hg (show i < E 2 by omega)
    have ha := h3 i (by omega)
    rw [show r + 1 + 1 + m = (r + 1 + m) + 1 by omega]
    simp (disch := first | assumption | (repeat' (first | apply fx_sI | apply fx_sJ | assumption | omega))) only [l_85_2, f_85, b_85_0, b_85_2, b_85_13, b_85_41, b_85_43, b_85_49, ↓reduceIte, gQ_e q0, gQ_e k, p0, q1, q2, a1.1, gI_e k, f2, Option.bind_some, nI_leI, show ¬ E 2 ≤ i by omega, aQ_n a1.2.1 (show 15 ≤ 16 ∧ 16 ≤ 18 by omega) a1.2.2.1, hd2.1, aI_n q3 q4, aI_n q5 q6, hp.1, hp.2, rC_e hd2.2.1 hd2.2.2.1, grd_e, s_15 hd2.2 hg ha hc, bI_0', bnd_e, nI_add, ih (i + 1) m (by omega), exB]
    show _ = some (bI (lfH E i (dHg E i) (an i) c || _), h)
    cases lfH E i (dHg E i) (an i) c <;> rfl
theorem s_85 {c : Nat} (hF : Fix h) (hs : SP s) (hS : ScR τ h s E an pl) (hW : WF E) (h3 : ∀ d, d < E 2 → an d < 3) (hc : c < 100) : f_85 (some s) (nI c) h = some (bI (leafB E an c), h) := by
  obtain ⟨m, hm⟩ := FU_ge (E 2 + 1) (by have := hW.2.2.1; omega)
  simp only [f_85, b_85_0, b_85_2, b_85_13, b_85_41, b_85_43, b_85_49, ↓reduceIte, bnd_e]
  rw [hm, l_85 hF hs hS hW h3 hc (E 2) 0 m (by omega)]
  rfl
def opP (an : Nat → Nat) (n : Nat) : Nat := mkM (fun d => decide (an d ≠ 0)) n
theorem l_86 (hF : Fix h) (hs : SP s) (hS : ScR τ h s E an pl) (hW : WF E) (h3 : ∀ d, d < E 2 → an d < 3) : ∀ r i m, i + r = E 2 → l_86_4 (r + 1 + m) (some s) (nI (opP an i)) (nI i) h = some (nI (opP an (E 2)), h) := by
  obtain ⟨q0, q1, q2, q3, q4, q5, q6, q7⟩ := spF hF hs
  obtain ⟨p0, hH, p1, p2⟩ := hS
  have hH' := hH
  obtain ⟨k, ge, t, a0, a1, a2, ⟨f0, f1, f2, f3, f4⟩, hcl, hd, hw⟩ := hH'
  have w2 := hW.2.2.1
  intro r
  induction r with
  | zero =>
    intro i m hi
    obtain rfl : i = E 2 := by omega
    rw [show 0 + 1 + m = m + 1 by omega]
    simp (disch := first | assumption | (repeat' (first | apply fx_sI | apply fx_sJ | assumption | omega))) only [l_86_4, f_86, b_86_0, b_86_4, b_86_15, b_86_25, b_86_29, b_86_32, b_86_40, ↓reduceIte, gQ_e q0, p0, gI_e k, f2, Option.bind_some, nI_leI, Nat.le_refl]
  | succ r ih =>
    intro i m hi
    have hp := p1 i (by omega)
    have ha := h3 i (by omega)
    rw [show r + 1 + 1 + m = (r + 1 + m) + 1 by omega]
    simp (disch := first | assumption | (repeat' (first | apply fx_sI | apply fx_sJ | assumption | omega))) only [l_86_4, f_86, b_86_0, b_86_4, b_86_15, b_86_25, b_86_29, b_86_32, b_86_40, ↓reduceIte, gQ_e q0, p0, q2, gI_e k, f2, Option.bind_some, nI_leI, show ¬ E 2 ≤ i by omega, aI_n q5 q6, hp.2, nI_eq0 (show an i < 2147483648 by omega), nI_1shl (show i < 31 by omega), bnd_e, nI_add, fa_or]
    rw [← ih (i + 1) m (by omega)]
    by_cases c : an i = 0
    · rw [if_neg (fun z => z c)]
      have : opP an (i + 1) = opP an i ||| 0 := by
        show opP an i ||| _ = _
        rw [if_neg (by simp [c])]
      rw [this]
    · rw [if_pos c]
      have : opP an (i + 1) = opP an i ||| 2 ^ i := by
        show opP an i ||| _ = _
        rw [if_pos (by simp [c])]
      rw [this]
theorem s_86 (hF : Fix h) (hs : SP s) (hS : ScR τ h s E an pl) (hW : WF E) (h3 : ∀ d, d < E 2 → an d < 3) : f_86 (some s) h = some (nI (opP an (E 2)), h) := by
  obtain ⟨m, hm⟩ := FU_ge (E 2 + 1) (by have := hW.2.2.1; omega)
  simp only [f_86, b_86_0, b_86_4, b_86_15, b_86_25, b_86_29, b_86_32, b_86_40, ↓reduceIte, bnd_e]
  rw [hm]
  exact l_86 hF hs hS hW h3 (E 2) 0 m (by omega)
end SC
theorem d10 : decide (¬ (nI 10 : Int32) = 0) = true := by decide
theorem d2 : decide (¬ (nI 2 : Int32) = 0) = true := by decide
theorem d3 : decide (¬ (nI 3 : Int32) = 0) = true := by decide
theorem l_88 (h h0 : Hp) : ∀ n v0 v1 v2 v3 v5 v7, l_88_32 n v0 v1 v2 v3 v5 v7 h = (l_88_32 n v0 v1 v2 v3 v5 v7 h0).map (fun r => (r.1, h)) := by
  intro n
  induction n with
  | zero => intros; rfl
  | succ n ih =>
    intro v0 v1 v2 v3 v5 v7
    simp only [l_88_32, f_88, b_88_0, b_88_32, b_88_48, b_88_56, b_88_71, b_88_72, b_88_89, ↓reduceIte, d10, grd_e, Option.bind_some, bnd_e, ih]
    repeat' split
    all_goals rfl
def abI (v0 v1 : Int32) : Option Int64 := (f_88 v0 v1 (bd_h0 (fun _ => 0) 0)).map (·.1)
theorem s_88a (v0 v1 : Int32) (h : Hp) : f_88 v0 v1 h = (abI v0 v1).map (fun r => (r, h)) := by
  unfold abI
  simp only [f_88, b_88_0, b_88_32, b_88_48, b_88_56, b_88_71, b_88_72, b_88_89, ↓reduceIte, d10, grd_e, Option.bind_some, bnd_e]
  rw [l_88 h (bd_h0 (fun _ => 0) 0)]
  rw [Option.map_map]
  rfl
theorem abI_L : ∀ p, p < 100 → abI (nI p) (nI 0) = some (lN (mkM (adj p) 50)) := by decide +kernel
theorem abI_H : ∀ p, p < 100 → abI (nI p) (nI 5) = some (lN (mkM (fun c => adj p (c + 50)) 50)) := by decide +kernel
