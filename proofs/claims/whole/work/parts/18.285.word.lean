/-! words -/
def vF (B : Nat) (f : Nat → Nat) : Nat → Nat
  | 0 => 0
  | n + 1 => B * vF B f n + f n
theorem vF_s (B : Nat) (f : Nat → Nat) (n : Nat) : vF B f (n + 1) = B * vF B f n + f n := rfl
theorem vB_F (B : Nat) (T : Nat → Nat) (a : Nat) : ∀ n, vB B T a n = vF B (fun i => T (a + i) - 96) n
  | 0 => rfl
  | n + 1 => by
    show B * vB B T a n + _ = B * vF B _ n + _
    rw [vB_F B T a n]
theorem vF_cg {B : Nat} {f g : Nat → Nat} : ∀ n, (∀ i, i < n → f i = g i) → vF B f n = vF B g n
  | 0, _ => rfl
  | n + 1, h => by rw [vF_s, vF_s, vF_cg n (fun i hi => h i (by omega)), h n (by omega)]
theorem vF_inj {B : Nat} {f g : Nat → Nat} (hB : 27 ≤ B) : ∀ n m, (∀ i, i < n → 1 ≤ f i ∧ f i ≤ 26) → (∀ i, i < m → 1 ≤ g i ∧ g i ≤ 26) → vF B f n = vF B g m → n = m ∧ ∀ i, i < n → f i = g i := by
  intro n
  induction n with
  | zero =>
    intro m _ hg e
    cases m with
    | zero => exact ⟨rfl, fun i hi => absurd hi (Nat.not_lt_zero i)⟩
    | succ m =>
      have := hg m (by omega)
      rw [vF_s] at e
      have e : 0 = B * vF B g m + g m := e
      omega
  | succ n ih =>
    intro m hf hg e
    have fn := hf n (by omega)
    cases m with
    | zero =>
      rw [vF_s] at e
      have e : B * vF B f n + f n = 0 := e
      omega
    | succ m =>
      have gm := hg m (by omega)
      rw [vF_s, vF_s] at e
      have q := (cmpU (U := B) (c := vF B f n) (m := f n) (c' := vF B g m) (m' := g m) (by omega) (by omega))
      have q2 := (cmpU (U := B) (c := vF B g m) (m := g m) (c' := vF B f n) (m' := f n) (by omega) (by omega))
      have ea : vF B f n = vF B g m ∧ f n = g m := by
        have n1 : ¬ (vF B f n < vF B g m ∨ (vF B f n = vF B g m ∧ f n < g m)) := fun z => by have := q.2 z; omega
        have n2 : ¬ (vF B g m < vF B f n ∨ (vF B g m = vF B f n ∧ g m < f n)) := fun z => by have := q2.2 z; omega
        omega
      obtain ⟨e1, e2⟩ := ih m (fun i hi => hf i (by omega)) (fun i hi => hg i (by omega)) ea.1
      refine ⟨by omega, fun i hi => ?_⟩
      by_cases c : i = n
      · rw [c, ea.2, e1]
      · exact e2 i (by omega)
theorem vF_iff {B C : Nat} {f g : Nat → Nat} {n m : Nat} (hB : 27 ≤ B) (hC : 27 ≤ C) (hf : ∀ i, i < n → 1 ≤ f i ∧ f i ≤ 26) (hg : ∀ i, i < m → 1 ≤ g i ∧ g i ≤ 26) : vF B f n = vF B g m ↔ vF C f n = vF C g m := by
  constructor
  · intro z
    obtain ⟨e1, e2⟩ := vF_inj hB n m hf hg z
    rw [← e1]; exact vF_cg n e2
  · intro z
    obtain ⟨e1, e2⟩ := vF_inj hC n m hf hg z
    rw [← e1]; exact vF_cg n e2
theorem vF_lt {B : Nat} {f : Nat → Nat} (hB : 27 ≤ B) : ∀ n, (∀ i, i < n → f i ≤ 26) → vF B f n < B ^ n
  | 0, _ => Nat.one_pos
  | n + 1, h => by
    have h1 := vF_lt hB n (fun i hi => h i (by omega))
    have h2 := h n (by omega)
    rw [vF_s, Nat.pow_succ, Nat.mul_comm (B ^ n)]
    have := Nat.mul_le_mul_left B (show vF B f n + 1 ≤ B ^ n by omega)
    rw [Nat.mul_succ] at this
    omega
/-- the words, by the class's numbers -/
def wlT : List (List Nat) := [[18, 15, 23], [4, 15, 15, 18], [1, 12, 15, 14, 7], [1, 3, 18, 15, 19, 19], [13, 1, 25], [3, 15, 19, 20, 19], [23, 8, 15, 12, 5], [4, 18, 1, 21, 7, 8, 20], [2, 5, 4], [7, 15], [15, 16, 5, 14], [19, 8, 21, 20], [23, 1, 9, 20], [14, 15, 18, 20, 8], [5, 1, 19, 20], [19, 15, 21, 20, 8], [23, 5, 19, 20], [15, 18], [1, 14, 4], [14, 15, 20], [6, 9, 20], [1, 20], [2, 9, 20, 5, 19], [1, 14, 7, 12, 5], [12, 5, 14, 7, 20, 8], [19, 23, 5, 5, 16, 19]]
def wlF (k i : Nat) : Nat := (wlT.getD k []).getD i 0
def wlN (k : Nat) : Nat := (wlT.getD k []).length
theorem wl_ok : ∀ k, k < 26 → wlN k ≤ 7 ∧ ∀ i, i < 7 → i < wlN k → 1 ≤ wlF k i ∧ wlF k i ≤ 26 := by decide
theorem wl_26 {k i : Nat} (hk : k < 26) (hi : i < wlN k) : 1 ≤ wlF k i ∧ wlF k i ≤ 26 := (wl_ok k hk).2 i (by have := (wl_ok k hk).1; omega) hi
theorem wl_32 : ∀ k, k < 26 → bd_wcode k = lN (vF 32 (wlF k) (wlN k)) := by decide
/-- the reference's numbers -/
def mw (k : Nat) : Nat := [0, 1, 7, 8, 2, 3, 4, 5, 6].getD k k
theorem s_190a (a b c d : Int32) (h h0 : Hp) : f_190 a b c d h = (f_190 a b c d h0).map (fun r => (r.1, h)) := by
  simp only [f_190, b_190_0, b_190_23, b_190_38, b_190_42, b_190_58, b_190_60, ↓reduceIte, bnd_e]
  repeat' split
  all_goals rfl
theorem s_191a (a : Int64) (b c d : Int32) (h h0 : Hp) : f_191 a b c d h = (f_191 a b c d h0).map (fun r => (r.1, h)) := by
  simp only [f_191, b_191_0, b_191_18, b_191_33, b_191_38, b_191_55, b_191_57, ↓reduceIte, bnd_e]
  repeat' split
  all_goals rfl
def spI (a b c d : Int32) : Option Int64 := (f_190 a b c d (bd_h0 (fun _ => 0) 0)).map (·.1)
def onI (a : Int64) (b c d : Int32) : Option Int64 := (f_191 a b c d (bd_h0 (fun _ => 0) 0)).map (·.1)
theorem s_190b (a b c d : Int32) (h : Hp) : f_190 a b c d h = (spI a b c d).map (fun r => (r, h)) := by
  unfold spI
  rw [s_190a a b c d h (bd_h0 (fun _ => 0) 0), Option.map_map]
  rfl
theorem s_191b (a : Int64) (b c d : Int32) (h : Hp) : f_191 a b c d h = (onI a b c d).map (fun r => (r, h)) := by
  unfold onI
  rw [s_191a a b c d h (bd_h0 (fun _ => 0) 0), Option.map_map]
  rfl
theorem wA (o : Option Int64) (h : Hp) : ((o.map (fun r => (r, h))).bind fun p1 => some (p1.1, p1.2)) = o.map (fun r => (r, h)) := by cases o <;> rfl
theorem wBb (o : Option Int64) (h : Hp) (b c d : Int32) : ((o.map (fun r => (r, h))).bind fun p1 => (f_191 p1.1 b c d p1.2).bind fun p2 => some (p2.1, p2.2)) = (o.bind fun x => onI x b c d).map (fun r => (r, h)) := by
  cases o with
  | none => rfl
  | some x =>
    show (f_191 x b c d h).bind _ = (onI x b c d).map _
    rw [s_191b, wA]
def woI (v : Int32) : Option Int64 := (f_192 v (bd_h0 (fun _ => 0) 0)).map (·.1)
theorem wMM (o : Option Int64) (h h0 : Hp) : ((o.map (fun r => (r, h0))).map (fun x => x.1)).map (fun r => (r, h)) = o.map (fun r => (r, h)) := by cases o <;> rfl
theorem wIf {α β : Type} {c : Prop} [i : Decidable c] (a b : Option α) (g : α → β) : (if c then a else b).map g = if c then a.map g else b.map g := by split <;> rfl
theorem s_192b (v : Int32) (h : Hp) : f_192 v h = (woI v).map (fun r => (r, h)) := by
  unfold woI
  simp only [f_192, b_192_0, b_192_116, b_192_127, b_192_139, b_192_160, b_192_171, b_192_190, b_192_210, b_192_221, b_192_240, b_192_259, b_192_269, b_192_281, b_192_293, b_192_305, b_192_324, b_192_336, b_192_355, b_192_367, b_192_377, b_192_388, b_192_399, b_192_410, b_192_420, b_192_439, b_192_458, b_192_478, ↓reduceIte, s_190b, wA, wBb, wIf, wMM]
theorem woI_k : ∀ k, k < 26 → woI (nI k) = some (lN (vF 27 (wlF (mw k)) (wlN (mw k)))) := by decide +kernel
theorem s_192 {h : Hp} {k : Nat} (hk : k < 26) : f_192 (nI k) h = some (lN (vF 27 (wlF (mw k)) (wlN (mw k))), h) := by
  rw [s_192b, woI_k k hk]
  rfl
theorem mw_lt {k : Nat} (hk : k < 26) : mw k < 26 := (show ∀ k, k < 26 → mw k < 26 by decide) k hk
/-! a word token is one of them -/
section WORD
variable {T : Nat → Nat} {sz lim p : Nat}
/-- the token is word k (by the class's numbers) -/
def isW (T : Nat → Nat) (sz lim p k : Nat) : Bool := decide (tkK T sz lim p = 2) && decide (vB 27 T (tkA T sz lim p) (tkN T sz lim p - tkA T sz lim p) = vF 27 (wlF k) (wlN k))
theorem nD0 {T : Nat → Nat} {a : Nat} {n i : Nat} (h : nD T a n = 0) (hi : i < n) : isDg (T (a + i)) = false := fb_ct_zero.1 h i hi
/-- letters alone, ten at most -/
theorem tk_word (hp : p ≤ sz) (hK : tkK T sz lim p = 2) : (∀ i, i < tkN T sz lim p - tkA T sz lim p → 1 ≤ T (tkA T sz lim p + i) - 96 ∧ T (tkA T sz lim p + i) - 96 ≤ 26 ∧ isLt (T (tkA T sz lim p + i)) = true) ∧ tkN T sz lim p - tkA T sz lim p ≤ 10 ∧ tkA T sz lim p < tkN T sz lim p ∧ tkN T sz lim p ≤ sz := by
  have nl := tkN_le (T := T) (lim := lim) hp
  have ql := tkQ_le (T := T) hp
  have kk : tkK T sz lim p = if lim < sz ∧ lim ≤ tkQ T sz p then 1 else if sz ≤ tkQ T sz p then 0 else if (isLt (T (tkQ T sz p)) || isDg (T (tkQ T sz p))) = true then rnK T (tkQ T sz p) (tkE T sz p - tkQ T sz p) else if isSg (T (tkQ T sz p)) = true then T (tkQ T sz p) else 1 := rfl
  have ka : tkA T sz lim p = if lim < sz ∧ lim ≤ tkQ T sz p then lim else tkQ T sz p := rfl
  have kn : tkN T sz lim p = if lim < sz ∧ lim ≤ tkQ T sz p then tkQ T sz p else if sz ≤ tkQ T sz p then tkQ T sz p else if (isLt (T (tkQ T sz p)) || isDg (T (tkQ T sz p))) = true then tkE T sz p else tkQ T sz p + 1 := rfl
  rw [kk] at hK
  by_cases c : lim < sz ∧ lim ≤ tkQ T sz p
  · rw [if_pos c] at hK; omega
  · rw [if_neg c] at hK ka kn
    by_cases c2 : sz ≤ tkQ T sz p
    · rw [if_pos c2] at hK; omega
    · rw [if_neg c2] at hK kn
      by_cases c3 : (isLt (T (tkQ T sz p)) || isDg (T (tkQ T sz p))) = true
      · rw [if_pos c3] at hK kn
        unfold rnK at hK
        by_cases c4 : nD T (tkQ T sz p) (tkE T sz p - tkQ T sz p) = 0 ∧ tkE T sz p - tkQ T sz p ≤ 10
        · rw [ka]
          have e1 : tkQ T sz p + 1 ≤ tkE T sz p := by
            unfold tkE
            obtain ⟨r, hr⟩ : ∃ r, sz - tkQ T sz p = r + 1 := ⟨sz - tkQ T sz p - 1, by omega⟩
            rw [hr]
            show _ ≤ if (isLt (T (tkQ T sz p)) || isDg (T (tkQ T sz p))) = true then rne T r (tkQ T sz p + 1) else tkQ T sz p
            rw [if_pos c3]
            exact (rne_le T r (tkQ T sz p + 1)).1
          rw [kn] at nl ⊢
          refine ⟨fun i hi => ?_, c4.2, by omega, nl.2⟩
          have al := rne_al T (sz - tkQ T sz p) (tkQ T sz p) (tkQ T sz p + i) (by omega) (by
            have : tkE T sz p = rne T (sz - tkQ T sz p) (tkQ T sz p) := rfl
            omega)
          rw [nD0 c4.1 hi, Bool.or_false] at al
          have := of_decide_eq_true al
          exact ⟨by omega, by omega, al⟩
        · rw [if_neg c4] at hK
          split at hK <;> omega
      · rw [if_neg c3] at hK
        by_cases sg : isSg (T (tkQ T sz p)) = true
        · rw [if_pos sg] at hK
          have := of_decide_eq_true sg
          omega
        · rw [if_neg sg] at hK; omega
end WORD
