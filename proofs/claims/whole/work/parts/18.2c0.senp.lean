/-! sentences, read: pure. Node i: X (4i) its kind, X (4i+1), X (4i+2), X (4i+3); X 900 nodes, X 901 ones, X 902 the root -/
def bindR (r : RsT) (f : Nat → (Nat → Nat) → RsT) : RsT := match r with
  | .error e => .error e
  | .ok (q, X) => f q X
def layX (X : Nat → Nat) (k a b c : Nat) : Nat → Nat := fun j => if j = 4 * X 900 then k else if j = 4 * X 900 + 1 then a else if j = 4 * X 900 + 2 then b else if j = 4 * X 900 + 3 then c else if j = 902 then X 900 else if j = 900 then X 900 + 1 else X j
section SENP
variable (T : Nat → Nat) (sz lim : Nat) (N : Nat → Nat) (ne : Nat)
def kN (q : Nat) : Nat := if isW T sz lim q 19 = true then 2 else if isW T sz lim q 10 = true then 3 else if isW T sz lim q 20 = true then 4 else if isW T sz lim q 21 = true then 5 else if isW T sz lim q 22 = true then 6 else if isW T sz lim q 23 = true then 7 else if isW T sz lim q 24 = true then 8 else if isW T sz lim q 25 = true then 9 else if isW T sz lim q 4 = true then 10 else if isW T sz lim q 5 = true then 11 else 99
def btP (q : Nat) (X : Nat → Nat) : RsT :=
  if isNm T sz lim q = false then erA T sz lim 1 q
  else if ne ≤ fdD N ne (nV T sz lim q) then erA T sz lim 3 q
  else .ok (tkN T sz lim q, layX X 6 (fdD N ne (nV T sz lim q)) 0 0)
def cmP (q : Nat) (X : Nat → Nat) (k : Nat) : RsT :=
  if tkK T sz lim q = 60 ∨ tkK T sz lim q = 61 ∨ tkK T sz lim q = 62 then
    (if tkK T sz lim (tkN T sz lim q) = 3 then .ok (tkN T sz lim (tkN T sz lim q), layX X k 0 (tkV T sz lim (tkN T sz lim q)) (tkK T sz lim q)) else erA T sz lim 1 (tkN T sz lim q))
  else erA T sz lim 1 q
/-- joined by a word: w the word, k the kind -/
def jnP (w k : Nat) (R : Nat → (Nat → Nat) → RsT) : Nat → Nat → (Nat → Nat) → RsT
  | 0, q, X => .ok (q, X)
  | r + 1, q, X => if isW T sz lim q w = true then bindR (R (tkN T sz lim q) X) (fun q2 Y => jnP w k R r q2 (layX Y k (X 902) (Y 902) 0)) else .ok (q, X)
def anP (R : Nat → (Nat → Nat) → RsT) (q : Nat) (X : Nat → Nat) : RsT := bindR (R q X) (fun q2 Y => jnP T sz lim 18 1 R 21 q2 Y)
def orP (R : Nat → (Nat → Nat) → RsT) (q : Nat) (X : Nat → Nat) : RsT := bindR (anP T sz lim R q X) (fun q2 Y => jnP T sz lim 17 0 (anP T sz lim R) 21 q2 Y)
def onP : Nat → Nat → Nat → (Nat → Nat) → RsT
  | 0, _, q, _ => erA T sz lim 0 q
  | n + 1, d, q, X =>
    if kN T sz lim q = 99 ∧ tkK T sz lim q ≠ 40 then erA T sz lim 1 q
    else if X 901 = 20 then erA T sz lim 4 q
    else if d = 8 then erA T sz lim 4 q
    else if tkK T sz lim q = 40 then bindR (orP T sz lim (onP n (d + 1)) (tkN T sz lim q) (upX X 901 (X 901 + 1))) (fun q2 Y => if tkK T sz lim q2 = 41 then .ok (tkN T sz lim q2, Y) else erA T sz lim 1 q2)
    else if kN T sz lim q = 2 then bindR (onP n (d + 1) (tkN T sz lim q) (upX X 901 (X 901 + 1))) (fun q2 Y => .ok (q2, layX Y 2 (Y 902) 0 0))
    else if kN T sz lim q ≤ 5 then .ok (tkN T sz lim q, layX (upX X 901 (X 901 + 1)) (kN T sz lim q) 0 0 0)
    else if kN T sz lim q = 6 then btP T sz lim N ne (tkN T sz lim q) (upX X 901 (X 901 + 1))
    else cmP T sz lim (tkN T sz lim q) (upX X 901 (X 901 + 1)) (kN T sz lim q)
def snP (q : Nat) (X : Nat → Nat) : RsT := bindR (orP T sz lim (onP T sz lim N ne 10 0) q X) (fun q2 Y => if tkK T sz lim q2 = 0 then .ok (q2, Y) else erA T sz lim 1 q2)
end SENP
def lfK (ne : Nat) (X : Nat → Nat) (lo : Nat) : Prop := (3 ≤ X (4 * lo) ∧ X (4 * lo) ≤ 11) ∧ (X (4 * lo) = 6 → X (4 * lo + 1) < ne) ∧ (7 ≤ X (4 * lo) → X (4 * lo + 2) ≤ 99 ∧ 60 ≤ X (4 * lo + 3) ∧ X (4 * lo + 3) ≤ 62)
def WTn (ne : Nat) (X : Nat → Nat) : Nat → Nat → Nat → Prop
  | 0, _, _ => False
  | n + 1, lo, hi => (hi = lo + 1 ∧ lfK ne X lo) ∨ (∃ k, hi = k + 1 ∧ WTn ne X n lo k ∧ X (4 * k) = 2 ∧ X (4 * k + 1) = k - 1) ∨ ∃ m k, hi = k + 1 ∧ WTn ne X n lo m ∧ WTn ne X n m k ∧ X (4 * k) ≤ 1 ∧ X (4 * k + 1) = m - 1 ∧ X (4 * k + 2) = k - 1
theorem WTn_s {ne : Nat} {X : Nat → Nat} : ∀ n lo hi, WTn ne X n lo hi → WTn ne X (n + 1) lo hi := by
  intro n
  induction n with
  | zero => intro lo hi h; exact absurd h id
  | succ n ih =>
    intro lo hi h
    rcases h with h | ⟨k, h1, h2, h3⟩ | ⟨m, k, h1, h2, h3, h4⟩
    · exact Or.inl h
    · exact Or.inr (Or.inl ⟨k, h1, ih _ _ h2, h3⟩)
    · exact Or.inr (Or.inr ⟨m, k, h1, ih _ _ h2, ih _ _ h3, h4⟩)
theorem WTn_m {ne : Nat} {X : Nat → Nat} {n lo hi : Nat} (h : WTn ne X n lo hi) : ∀ m, WTn ne X (n + m) lo hi := by
  intro m
  induction m with
  | zero => exact h
  | succ m ih => exact WTn_s _ _ _ ih
theorem WTn_lt {ne : Nat} {X : Nat → Nat} : ∀ n lo hi, WTn ne X n lo hi → lo < hi := by
  intro n
  induction n with
  | zero => intro lo hi h; exact absurd h id
  | succ n ih =>
    intro lo hi h
    rcases h with h | ⟨k, h1, h2, h3⟩ | ⟨m, k, h1, h2, h3, h4⟩
    · omega
    · have := ih _ _ h2; omega
    · have := ih _ _ h2; have := ih _ _ h3; omega
theorem WTn_cg {ne : Nat} {X Y : Nat → Nat} : ∀ n lo hi, WTn ne X n lo hi → (∀ j, j < 4 * hi → Y j = X j) → WTn ne Y n lo hi := by
  intro n
  induction n with
  | zero => intro lo hi h; exact absurd h id
  | succ n ih =>
    intro lo hi h e
    rcases h with ⟨h0, h⟩ | ⟨k, h1, h2, h3, h4⟩ | ⟨m, k, h1, h2, h3, h4, h5, h6⟩
    · refine Or.inl ⟨h0, ?_⟩
      unfold lfK
      rw [e _ (by omega), e _ (by omega), e _ (by omega), e _ (by omega)]
      exact h
    · exact Or.inr (Or.inl ⟨k, h1, ih _ _ h2 (fun j hj => e j (by omega)), by rw [e _ (by omega)]; exact h3, by rw [e _ (by omega)]; exact h4⟩)
    · have := WTn_lt _ _ _ h3
      exact Or.inr (Or.inr ⟨m, k, h1, ih _ _ h2 (fun j hj => e j (by omega)), ih _ _ h3 (fun j hj => e j (by omega)), by rw [e _ (by omega)]; exact h4, by rw [e _ (by omega)]; exact h5, by rw [e _ (by omega)]; exact h6⟩)
/-- the nodes from lo on, before hi, are one expression -/
def WT (ne : Nat) (X : Nat → Nat) (lo hi : Nat) : Prop := ∃ n, WTn ne X n lo hi
theorem WT.lt {ne : Nat} {X : Nat → Nat} {lo hi : Nat} (w : WT ne X lo hi) : lo < hi := by
  obtain ⟨n, h⟩ := w
  exact WTn_lt _ _ _ h
theorem WT.cg {ne : Nat} {X Y : Nat → Nat} {lo hi : Nat} (w : WT ne X lo hi) (e : ∀ j, j < 4 * hi → Y j = X j) : WT ne Y lo hi := by
  obtain ⟨n, h⟩ := w
  exact ⟨n, WTn_cg _ _ _ h e⟩
theorem WT.leaf {ne : Nat} {X : Nat → Nat} (lo : Nat) (h1 : 3 ≤ X (4 * lo) ∧ X (4 * lo) ≤ 11) (h2 : X (4 * lo) = 6 → X (4 * lo + 1) < ne) (h3 : 7 ≤ X (4 * lo) → X (4 * lo + 2) ≤ 99 ∧ 60 ≤ X (4 * lo + 3) ∧ X (4 * lo + 3) ≤ 62) : WT ne X lo (lo + 1) := ⟨1, Or.inl ⟨rfl, h1, h2, h3⟩⟩
theorem WT.nt {ne : Nat} {X : Nat → Nat} (lo hi : Nat) (w : WT ne X lo hi) (h1 : X (4 * hi) = 2) (h2 : X (4 * hi + 1) = hi - 1) : WT ne X lo (hi + 1) := by
  obtain ⟨n, h⟩ := w
  exact ⟨n + 1, Or.inr (Or.inl ⟨hi, rfl, h, h1, h2⟩)⟩
theorem WT.bn {ne : Nat} {X : Nat → Nat} (lo mid hi : Nat) (w1 : WT ne X lo mid) (w2 : WT ne X mid hi) (h1 : X (4 * hi) ≤ 1) (h2 : X (4 * hi + 1) = mid - 1) (h3 : X (4 * hi + 2) = hi - 1) : WT ne X lo (hi + 1) := by
  obtain ⟨n, a⟩ := w1
  obtain ⟨m, b⟩ := w2
  exact ⟨n + m + 1, Or.inr (Or.inr ⟨mid, hi, rfl, WTn_m a m, by rw [Nat.add_comm n m]; exact WTn_m b n, h1, h2, h3⟩)⟩
def SX (X : Nat → Nat) : Prop := X 901 ≤ 20 ∧ X 900 ≤ 2 * X 901
/-- an expression was read -/
def PS (ne : Nat) (X Y : Nat → Nat) : Prop := (X 901 < Y 901 ∧ Y 901 ≤ 20 ∧ Y 900 + 2 * X 901 + 1 ≤ 2 * Y 901 + X 900) ∧ (∀ j, j < 4 * X 900 → Y j = X j) ∧ WT ne Y (X 900) (Y 900) ∧ Y 902 + 1 = Y 900
theorem PS.sx {ne : Nat} {X Y : Nat → Nat} (hX : SX X) (p : PS ne X Y) : SX Y := by
  obtain ⟨a, b⟩ := hX
  obtain ⟨⟨c, d, e⟩, _⟩ := p
  exact ⟨d, by omega⟩
theorem layX_v {X : Nat → Nat} {k a b c : Nat} (h : X 900 ≤ 40) : layX X k a b c (4 * X 900) = k ∧ layX X k a b c (4 * X 900 + 1) = a ∧ layX X k a b c (4 * X 900 + 2) = b ∧ layX X k a b c (4 * X 900 + 3) = c ∧ layX X k a b c 902 = X 900 ∧ layX X k a b c 900 = X 900 + 1 ∧ ∀ j, (j < 4 * X 900 ∨ 4 * X 900 + 4 ≤ j) → j ≠ 902 → j ≠ 900 → layX X k a b c j = X j := by
  unfold layX
  refine ⟨if_pos rfl, ?_, ?_, ?_, ?_, ?_, fun j h1 h2 h3 => ?_⟩
  · rw [if_neg (by omega), if_pos rfl]
  · rw [if_neg (by omega), if_neg (by omega), if_pos rfl]
  · rw [if_neg (by omega), if_neg (by omega), if_neg (by omega), if_pos rfl]
  · rw [if_neg (by omega), if_neg (by omega), if_neg (by omega), if_neg (by omega), if_pos rfl]
  · rw [if_neg (by omega), if_neg (by omega), if_neg (by omega), if_neg (by omega), if_neg (by omega), if_pos rfl]
  · rw [if_neg (by omega), if_neg (by omega), if_neg (by omega), if_neg (by omega), if_neg h2, if_neg h3]
theorem bindR_P {sz q0 : Nat} {P Q : (Nat → Nat) → Prop} {r : RsT} {f : Nat → (Nat → Nat) → RsT} (h : Pk sz q0 P r) (hf : ∀ q X, q0 ≤ q → q ≤ sz → P X → Pk sz q0 Q (f q X)) : Pk sz q0 Q (bindR r f) := by
  cases r with
  | error e => trivial
  | ok x =>
    obtain ⟨q, X⟩ := x
    exact hf q X h.1 h.2.1 h.2.2
section SENQ
variable {T : Nat → Nat} {sz lim : Nat} {N : Nat → Nat} {ne : Nat}
theorem PS_leaf {X : Nat → Nat} {k a b c : Nat} (hX : SX X) (h20 : X 901 ≠ 20) (hk : 3 ≤ k ∧ k ≤ 11) (h6 : k = 6 → a < ne) (h7 : 7 ≤ k → b ≤ 99 ∧ 60 ≤ c ∧ c ≤ 62) : PS ne X (layX (upX X 901 (X 901 + 1)) k a b c) := by
  obtain ⟨x1, x2⟩ := hX
  have e9 : upX X 901 (X 901 + 1) 900 = X 900 := upX_n (by omega)
  have v := layX_v (X := upX X 901 (X 901 + 1)) (k := k) (a := a) (b := b) (c := c) (by omega)
  rw [e9] at v
  obtain ⟨v1, v2, v3, v4, v5, v6, v7⟩ := v
  have w1 : layX (upX X 901 (X 901 + 1)) k a b c 901 = X 901 + 1 := by rw [v7 901 (by omega) (by omega) (by omega), upX_i]
  refine ⟨⟨by omega, by omega, by omega⟩, fun j hj => ?_, ?_, by omega⟩
  · rw [v7 j (by omega) (by omega) (by omega), upX_n (by omega)]
  · rw [v6]
    exact .leaf _ (by rw [v1]; exact hk) (by rw [v1, v2]; exact h6) (by rw [v1, v3, v4]; exact h7)
theorem PS_up {X Y : Nat → Nat} (hX : SX X) (h : PS ne (upX X 901 (X 901 + 1)) Y) : PS ne X Y := by
  obtain ⟨⟨c1, c2, c3⟩, c4, c5, c6⟩ := h
  rw [upX_i] at c1 c3
  rw [upX_n (show 900 ≠ 901 by omega)] at c3 c4 c5
  refine ⟨⟨by omega, c2, by omega⟩, fun j hj => ?_, c5, c6⟩
  obtain ⟨x1, x2⟩ := hX
  rw [c4 j hj, upX_n (by omega)]
/-- a join -/
theorem PS_join {X Y Z : Nat → Nat} {k : Nat} (hX : SX X) (p1 : PS ne X Y) (p2 : PS ne Y Z) (hk : k ≤ 1) : PS ne X (layX Z k (Y 902) (Z 902) 0) := by
  have sY := p1.sx hX
  have sZ := p2.sx sY
  obtain ⟨⟨a1, a2, a3⟩, a4, a5, a6⟩ := p1
  obtain ⟨⟨b1, b2, b3⟩, b4, b5, b6⟩ := p2
  obtain ⟨x1, x2⟩ := hX
  obtain ⟨z1, z2⟩ := sZ
  obtain ⟨v1, v2, v3, v4, v5, v6, v7⟩ := layX_v (X := Z) (k := k) (a := Y 902) (b := Z 902) (c := 0) (by omega)
  have w1 : layX Z k (Y 902) (Z 902) 0 901 = Z 901 := v7 901 (by omega) (by omega) (by omega)
  have l1 := a5.lt
  have l2 := b5.lt
  refine ⟨⟨by omega, by omega, by omega⟩, fun j hj => ?_, ?_, by omega⟩
  · rw [v7 j (by omega) (by omega) (by omega), b4 j (by omega), a4 j hj]
  · rw [v6]
    refine .bn (X 900) (Y 900) (Z 900) ((a5.cg b4).cg (fun j hj => v7 j (by omega) (by omega) (by omega))) (b5.cg (fun j hj => v7 j (by omega) (by omega) (by omega))) (by rw [v1]; exact hk) (by rw [v2]; omega) (by rw [v3]; omega)
theorem PS_not {X Y : Nat → Nat} (hX : SX X) (p1 : PS ne (upX X 901 (X 901 + 1)) Y) : PS ne X (layX Y 2 (Y 902) 0 0) := by
  have p := PS_up hX p1
  have sY := p.sx hX
  obtain ⟨⟨a1, a2, a3⟩, a4, a5, a6⟩ := p
  obtain ⟨x1, x2⟩ := hX
  have c3 := p1.1.2.2
  rw [upX_i, upX_n (show 900 ≠ 901 by omega)] at c3
  obtain ⟨v1, v2, v3, v4, v5, v6, v7⟩ := layX_v (X := Y) (k := 2) (a := Y 902) (b := 0) (c := 0) (by omega)
  have w1 : layX Y 2 (Y 902) 0 0 901 = Y 901 := v7 901 (by omega) (by omega) (by omega)
  have l1 := a5.lt
  refine ⟨⟨by omega, by omega, by omega⟩, fun j hj => ?_, ?_, by omega⟩
  · rw [v7 j (by omega) (by omega) (by omega), a4 j hj]
  · rw [v6]
    exact .nt _ _ (a5.cg (fun j hj => v7 j (by omega) (by omega) (by omega))) v1 (by rw [v2]; omega)
/-- what a reader of ones must keep -/
def RP (sz ne : Nat) (R : Nat → (Nat → Nat) → RsT) : Prop := ∀ q X, q ≤ sz → SX X → Pk sz q (PS ne X) (R q X)
theorem jnP_P {R : Nat → (Nat → Nat) → RsT} {w k : Nat} (hR : RP sz ne R) (hk : k ≤ 1) {X0 : Nat → Nat} (h0 : SX X0) : ∀ r q Y, q ≤ sz → PS ne X0 Y → Pk sz q (PS ne X0) (jnP T sz lim w k R r q Y) := by
  intro r
  induction r with
  | zero => intro q Y hq hY; exact ⟨Nat.le_refl _, hq, hY⟩
  | succ r ih =>
    intro q Y hq hY
    have nl := tkN_le (T := T) (lim := lim) hq
    unfold jnP
    split
    · refine Pk.up nl.1 (bindR_P (hR _ _ nl.2 (hY.sx h0)) (fun q2 Z h1 h2 hZ => Pk.up h1 (ih q2 _ h2 (PS_join h0 hY hZ hk))))
    · exact ⟨Nat.le_refl _, hq, hY⟩
theorem anP_P {R : Nat → (Nat → Nat) → RsT} (hR : RP sz ne R) : RP sz ne (anP T sz lim R) := fun q X hq hX =>
  bindR_P (hR q X hq hX) (fun q2 _ h1 h2 hY => Pk.up h1 (jnP_P hR (by omega) hX 21 q2 _ h2 hY))
theorem orP_P {R : Nat → (Nat → Nat) → RsT} (hR : RP sz ne R) : RP sz ne (orP T sz lim R) := fun q X hq hX =>
  bindR_P (anP_P hR q X hq hX) (fun q2 _ h1 h2 hY => Pk.up h1 (jnP_P (anP_P hR) (by omega) hX 21 q2 _ h2 hY))
theorem kN_le (q : Nat) : (2 ≤ kN T sz lim q ∧ kN T sz lim q ≤ 11) ∨ kN T sz lim q = 99 := by
  unfold kN
  by_cases h1 : isW T sz lim q 19 = true
  · rw [if_pos h1]; omega
  · rw [if_neg h1]
    by_cases h1 : isW T sz lim q 10 = true
    · rw [if_pos h1]; omega
    · rw [if_neg h1]
      by_cases h1 : isW T sz lim q 20 = true
      · rw [if_pos h1]; omega
      · rw [if_neg h1]
        by_cases h1 : isW T sz lim q 21 = true
        · rw [if_pos h1]; omega
        · rw [if_neg h1]
          by_cases h1 : isW T sz lim q 22 = true
          · rw [if_pos h1]; omega
          · rw [if_neg h1]
            by_cases h1 : isW T sz lim q 23 = true
            · rw [if_pos h1]; omega
            · rw [if_neg h1]
              by_cases h1 : isW T sz lim q 24 = true
              · rw [if_pos h1]; omega
              · rw [if_neg h1]
                by_cases h1 : isW T sz lim q 25 = true
                · rw [if_pos h1]; omega
                · rw [if_neg h1]
                  by_cases h1 : isW T sz lim q 4 = true
                  · rw [if_pos h1]; omega
                  · rw [if_neg h1]
                    by_cases h1 : isW T sz lim q 5 = true
                    · rw [if_pos h1]; omega
                    · rw [if_neg h1]; omega
theorem onP_P : ∀ n d, RP sz ne (onP T sz lim N ne n d) := by
  intro n
  induction n with
  | zero => intro d q X _ _; trivial
  | succ n ih =>
    intro d q X hq hX
    have nl := tkN_le (T := T) (lim := lim) hq
    have nl2 := tkN_le (T := T) (lim := lim) nl.2
    have nl3 := tkN_le (T := T) (lim := lim) nl2.2
    have kl := kN_le (T := T) (sz := sz) (lim := lim) q
    have sx1 : X 901 ≠ 20 → SX (upX X 901 (X 901 + 1)) := fun h20 => by
      obtain ⟨x1, x2⟩ := hX
      refine ⟨by rw [upX_i]; omega, ?_⟩
      rw [upX_i, upX_n (by omega)]; omega
    unfold onP
    split
    · trivial
    · rename_i cn
      split
      · trivial
      · rename_i h20
        split
        · trivial
        · split
          · refine Pk.up nl.1 (bindR_P (orP_P (ih (d + 1)) _ _ nl.2 (sx1 h20)) (fun q2 Y h1 h2 hY => ?_))
            split
            · have nl4 := tkN_le (T := T) (lim := lim) h2
              exact ⟨by omega, nl4.2, PS_up hX hY⟩
            · trivial
          · rename_i c40
            split
            · exact Pk.up nl.1 (bindR_P (ih (d + 1) _ _ nl.2 (sx1 h20)) (fun q2 Y h1 h2 hY => ⟨h1, h2, PS_not hX hY⟩))
            · split
              · exact ⟨nl.1, nl.2, PS_leaf hX h20 (by omega) (fun z => by omega) (fun z => by omega)⟩
              · split
                · unfold btP
                  split
                  · trivial
                  · split
                    · trivial
                    · exact ⟨by omega, nl2.2, PS_leaf hX h20 (by omega) (fun _ => by omega) (fun z => by omega)⟩
                · unfold cmP
                  split
                  · rename_i cs
                    split
                    · rename_i c3
                      have tv := tk_num (T := T) (lim := lim) nl2.2 c3
                      exact ⟨by omega, nl3.2, PS_leaf hX h20 (by omega) (fun z => by omega) (fun _ => by omega)⟩
                    · trivial
                  · trivial
end SENQ
