/-! the best hangings: what both searches find -/
abbrev HR := Option (Nat × (Nat → Nat))
def mrg (B s : HR) : HR := match B, s with
  | none, s => s
  | some b, none => some b
  | some b, some x => if x.1 < b.1 then some x else some b
theorem mrg_none (B : HR) : mrg B none = B := by cases B <;> rfl
theorem none_mrg (B : HR) : mrg none B = B := by cases B <;> rfl
theorem mrg_some (b x : Nat × (Nat → Nat)) : mrg (some b) (some x) = if x.1 < b.1 then some x else some b := rfl
theorem mrg_assoc (a b c : HR) : mrg (mrg a b) c = mrg a (mrg b c) := by
  cases a with
  | none => rw [none_mrg, none_mrg]
  | some a =>
    cases b with
    | none => rw [mrg_none, none_mrg]
    | some b =>
      cases c with
      | none => rw [mrg_none, mrg_none]
      | some c =>
        rw [mrg_some, mrg_some]
        by_cases h1 : b.1 < a.1 <;> by_cases h2 : c.1 < b.1
        · rw [if_pos h1, if_pos h2, mrg_some, if_pos h2, mrg_some, if_pos (by omega)]
        · rw [if_pos h1, if_neg h2, mrg_some, if_neg h2, mrg_some, if_pos h1]
        · rw [if_neg h1, if_pos h2, mrg_some]
        · rw [if_neg h1, if_neg h2, mrg_some, mrg_some, if_neg h1, if_neg (by omega)]
def fo (f : Nat → HR) (P : Nat → Bool) (B : HR) : Nat → HR
  | 0 => B
  | n + 1 => if P n = true then mrg (fo f P B n) (f n) else fo f P B n
theorem fo_s (f : Nat → HR) (P : Nat → Bool) (B : HR) (n : Nat) : fo f P B (n + 1) = if P n = true then mrg (fo f P B n) (f n) else fo f P B n := rfl
theorem fo_B (f : Nat → HR) (P : Nat → Bool) (B : HR) : ∀ n, fo f P B n = mrg B (fo f P none n)
  | 0 => (mrg_none B).symm
  | n + 1 => by
    rw [fo_s, fo_s, fo_B f P B n]
    split
    · exact mrg_assoc _ _ _
    · rfl
theorem fo_cg {f g : Nat → HR} {P Q : Nat → Bool} {B : HR} : ∀ n, (∀ i, i < n → P i = Q i ∧ (P i = true → f i = g i)) → fo f P B n = fo g Q B n
  | 0, _ => rfl
  | n + 1, h => by
    have h1 := h n (by omega)
    rw [fo_s, fo_s, fo_cg n (fun i hi => h i (by omega)), ← h1.1]
    split
    · rename_i c
      rw [h1.2 c]
    · rfl
def leH (r : HR) (k : Nat) : Prop := ∃ y, r = some y ∧ y.1 ≤ k
theorem leH.m1 {r s : HR} {k : Nat} (h : leH r k) : leH (mrg r s) k := by
  obtain ⟨y, rfl, hy⟩ := h
  cases s with
  | none => exact ⟨y, rfl, hy⟩
  | some x =>
    rw [mrg_some]
    by_cases c : x.1 < y.1
    · rw [if_pos c]; exact ⟨x, rfl, by omega⟩
    · rw [if_neg c]; exact ⟨y, rfl, hy⟩
theorem leH.m2 {r : HR} {x : Nat × (Nat → Nat)} : leH (mrg r (some x)) x.1 := by
  cases r with
  | none => exact ⟨x, rfl, Nat.le_refl _⟩
  | some y =>
    rw [mrg_some]
    by_cases c : x.1 < y.1
    · rw [if_pos c]; exact ⟨x, rfl, Nat.le_refl _⟩
    · rw [if_neg c]; exact ⟨y, rfl, by omega⟩
theorem fo_le {f : Nat → HR} {P : Nat → Bool} {B : HR} {i : Nat} {x : Nat × (Nat → Nat)} (hp : P i = true) (hx : f i = some x) : ∀ n, i < n → leH (fo f P B n) x.1
  | 0, h => absurd h (Nat.not_lt_zero i)
  | n + 1, h => by
    rw [fo_s]
    by_cases e : i = n
    · subst e
      rw [if_pos hp, hx]
      exact leH.m2
    · have := fo_le (B := B) hp hx n (by omega)
      split
      · exact this.m1
      · exact this
/-- what is passed over has a better one that is not -/
theorem fo_tw {f : Nat → HR} {P Q : Nat → Bool} {B : HR} {N : Nat} (hPQ : ∀ i, Q i = true → P i = true)
    (hd : ∀ h, h < N → P h = true → Q h = false → ∀ x, f h = some x → ∃ g y, g < N ∧ Q g = true ∧ f g = some y ∧ (y.1 < x.1 ∨ (g < h ∧ y.1 ≤ x.1))) : fo f P B N = fo f Q B N := by
  have key : ∀ n, n ≤ N → fo f P B n = fo f Q B n ∨ ∃ x g y, fo f P B n = some x ∧ (∀ z, fo f Q B n = some z → x.1 ≤ z.1) ∧ n ≤ g ∧ g < N ∧ Q g = true ∧ f g = some y ∧ y.1 < x.1 := by
    intro n
    induction n with
    | zero => intro _; exact Or.inl rfl
    | succ n ih =>
      intro hn
      have ih := ih (by omega)
      rw [fo_s, fo_s]
      cases hP : P n
      · have hQ : Q n = false := by
          cases hq : Q n
          · rfl
          · rw [hPQ n hq] at hP; cases hP
        rw [hQ, if_neg (by decide), if_neg (by decide)]
        rcases ih with e | ⟨x, g, y, a1, a2, a3, a4, a5, a6, a7⟩
        · exact Or.inl e
        · refine Or.inr ⟨x, g, y, a1, a2, ?_, a4, a5, a6, a7⟩
          have : g ≠ n := fun z => by rw [z, hQ] at a5; cases a5
          omega
      · rw [if_pos rfl]
        cases hQ : Q n
        · rw [if_neg (by decide)]
          cases hx : f n with
          | none =>
            rw [mrg_none]
            rcases ih with e | ⟨x, g, y, a1, a2, a3, a4, a5, a6, a7⟩
            · exact Or.inl e
            · refine Or.inr ⟨x, g, y, a1, a2, ?_, a4, a5, a6, a7⟩
              have : g ≠ n := fun z => by rw [z, hQ] at a5; cases a5
              omega
          | some x0 =>
            obtain ⟨g0, y0, b1, b2, b3, b4⟩ := hd n (by omega) hP hQ x0 hx
            have same : mrg (fo f P B n) (some x0) = fo f P B n → mrg (fo f P B n) (some x0) = fo f Q B n ∨ ∃ x g y, mrg (fo f P B n) (some x0) = some x ∧ (∀ z, fo f Q B n = some z → x.1 ≤ z.1) ∧ n + 1 ≤ g ∧ g < N ∧ Q g = true ∧ f g = some y ∧ y.1 < x.1 := by
              intro e
              rw [e]
              rcases ih with e | ⟨x, g, y, a1, a2, a3, a4, a5, a6, a7⟩
              · exact Or.inl e
              · refine Or.inr ⟨x, g, y, a1, a2, ?_, a4, a5, a6, a7⟩
                have : g ≠ n := fun z => by rw [z, hQ] at a5; cases a5
                omega
            by_cases cg : g0 < n
            · obtain ⟨w, hw, hle⟩ := fo_le (B := B) (hPQ _ b2) b3 n cg
              apply same
              rw [hw, mrg_some, if_neg (by omega)]
            · have ng : g0 ≠ n := fun z => by rw [z, hQ] at b2; cases b2
              have lt : y0.1 < x0.1 := by omega
              cases hr : fo f P B n with
              | none =>
                right
                refine ⟨x0, g0, y0, rfl, fun z hz => ?_, by omega, b1, b2, b3, lt⟩
                rcases ih with e | ⟨x, g, y, a1, _⟩
                · rw [← e, hr] at hz; cases hz
                · rw [hr] at a1; cases a1
              | some w =>
                by_cases cw : x0.1 < w.1
                · right
                  rw [mrg_some, if_pos cw]
                  refine ⟨x0, g0, y0, rfl, fun z hz => ?_, by omega, b1, b2, b3, lt⟩
                  rcases ih with e | ⟨x, g, y, a1, a2, _⟩
                  · rw [← e, hr] at hz
                    cases hz
                    omega
                  · rw [hr] at a1
                    cases a1
                    have := a2 z hz
                    omega
                · rw [hr] at same
                  apply same
                  rw [mrg_some, if_neg cw]
        · rw [if_pos rfl]
          rcases ih with e | ⟨x, g, y, a1, a2, a3, a4, a5, a6, a7⟩
          · rw [e]; exact Or.inl rfl
          · cases hx : f n with
            | none =>
              rw [mrg_none, mrg_none]
              refine Or.inr ⟨x, g, y, a1, a2, ?_, a4, a5, a6, a7⟩
              have : g ≠ n := fun z => by rw [z, hx] at a6; cases a6
              omega
            | some y0 =>
              rw [a1, mrg_some]
              by_cases c : y0.1 < x.1
              · left
                rw [if_pos c]
                cases hq : fo f Q B n with
                | none => rfl
                | some z =>
                  have := a2 z hq
                  rw [mrg_some, if_pos (by omega)]
              · right
                rw [if_neg c]
                refine ⟨x, g, y, rfl, fun z hz => ?_, ?_, a4, a5, a6, a7⟩
                · cases hq : fo f Q B n with
                  | none =>
                    rw [hq, none_mrg] at hz
                    cases hz
                    omega
                  | some w =>
                    have := a2 w hq
                    rw [hq, mrg_some] at hz
                    by_cases cw : y0.1 < w.1
                    · rw [if_pos cw] at hz; cases hz; omega
                    · rw [if_neg cw] at hz; cases hz; omega
                · have : g ≠ n := fun z => by
                    rw [z, hx] at a6
                    cases a6
                    omega
                  omega
  rcases key N (Nat.le_refl _) with e | ⟨x, g, y, _, _, a3, a4, _⟩
  · exact e
  · omega
theorem fo_none {f : Nat → HR} {P : Nat → Bool} : ∀ n, fo f P none n = none ↔ ∀ i, i < n → P i = true → f i = none
  | 0 => ⟨fun _ i hi => absurd hi (Nat.not_lt_zero i), fun _ => rfl⟩
  | n + 1 => by
    rw [fo_s]
    have ih := fo_none (f := f) (P := P) n
    constructor
    · intro z i hi hp
      by_cases e : i = n
      · subst e
        rw [if_pos hp] at z
        cases hr : fo f P none i with
        | none => rw [hr, none_mrg] at z; exact z
        | some r =>
          rw [hr] at z
          have := (leH.m1 (s := f i) ⟨r, rfl, Nat.le_refl _⟩ : leH (mrg (some r) (f i)) r.1)
          obtain ⟨y, hy, _⟩ := this
          rw [z] at hy; cases hy
      · refine ih.1 ?_ i (by omega) hp
        split at z
        · cases hr : fo f P none n with
          | none => rfl
          | some r =>
            rw [hr] at z
            have := (leH.m1 (s := f n) ⟨r, rfl, Nat.le_refl _⟩ : leH (mrg (some r) (f n)) r.1)
            obtain ⟨y, hy, _⟩ := this
            rw [z] at hy; cases hy
        · exact z
    · intro z
      have e := ih.2 (fun i hi hp => z i (by omega) hp)
      rw [e]
      split
      · rename_i c
        rw [z n (by omega) c]
        rfl
      · rfl
/-- keys that are all moved alike -/
theorem mrg_map {φ : Nat × (Nat → Nat) → Nat × (Nat → Nat)} (hφ : ∀ a b, (φ a).1 < (φ b).1 ↔ a.1 < b.1) (a b : HR) : (mrg a b).map φ = mrg (a.map φ) (b.map φ) := by
  cases a with
  | none => rw [none_mrg]; exact (none_mrg _).symm
  | some a =>
    cases b with
    | none => rw [mrg_none]; exact (mrg_none _).symm
    | some b =>
      rw [mrg_some]
      show _ = mrg (some (φ a)) (some (φ b))
      rw [mrg_some]
      by_cases c : b.1 < a.1
      · rw [if_pos c, if_pos ((hφ b a).2 c)]; rfl
      · rw [if_neg c, if_neg (fun z => c ((hφ b a).1 z))]; rfl
theorem fo_map {φ : Nat × (Nat → Nat) → Nat × (Nat → Nat)} (hφ : ∀ a b, (φ a).1 < (φ b).1 ↔ a.1 < b.1) (f : Nat → HR) (P : Nat → Bool) : ∀ n, (fo f P none n).map φ = fo (fun h => (f h).map φ) P none n
  | 0 => rfl
  | n + 1 => by
    rw [fo_s, fo_s, ← fo_map hφ f P n]
    split
    · exact mrg_map hφ _ _
    · rfl
/-! hangings that are left: L door hanging -/
def spr (E : Nat → Nat) (d h e g : Nat) : Bool := decide (d = e) || !bit E d h e g
def nxL (E : Nat → Nat) (L : Nat → Nat → Bool) (d h : Nat) : Nat → Nat → Bool := fun e g => L e g && spr E d h e g
def adH (cur wt : Nat → Nat) (d h : Nat) (x : Nat × (Nat → Nat)) : Nat × (Nat → Nat) := ((if h = cur d then 0 else wt d) + x.1, upn x.2 d h)
def shf (k d : Nat) (t : Nat → Nat) (x : Nat × (Nat → Nat)) : Nat × (Nat → Nat) := (k + x.1, fun i => if i < d then t i else x.2 i)
/-- g leaves the doors behind d what h leaves them -/
def twn (E : Nat → Nat) (n : Nat) (L : Nat → Nat → Bool) (d g h : Nat) : Bool := !exB (fun j => nxL E L d g (j / 4) (j % 4) != nxL E L d h (j / 4) (j % 4)) (4 * (d + 1)) (4 * n - 4 * (d + 1))
def btw (E : Nat → Nat) (n : Nat) (cur : Nat → Nat) (L : Nat → Nat → Bool) (d h : Nat) : Bool := exB (fun g => (decide (g = cur d) || (decide (g < h) && decide (h ≠ cur d))) && (decide (g ≠ h) && (L d g && twn E n L d g h))) 0 4
def br (E : Nat → Nat) (am : Nat → Bool) (cur wt : Nat → Nat) : Nat → Nat → (Nat → Nat → Bool) → HR
  | 0, _, _ => some (0, fun _ => 0)
  | r + 1, d, L => if am d = true then fo (fun h => (br E am cur wt r (d + 1) (nxL E L d h)).map (adH cur wt d h)) (L d) none 4 else br E am cur wt r (d + 1) L
def bq (E : Nat → Nat) (am : Nat → Bool) (cur wt : Nat → Nat) : Nat → Nat → (Nat → Nat → Bool) → HR
  | 0, _, _ => some (0, fun _ => 0)
  | r + 1, d, L => if am d = true then fo (fun h => (bq E am cur wt r (d + 1) (nxL E L d h)).map (adH cur wt d h)) (fun h => L d h && !btw E (d + 1 + r) cur L d h) none 4 else bq E am cur wt r (d + 1) L
section HS
variable {E : Nat → Nat} {am : Nat → Bool} {cur wt : Nat → Nat}
theorem br_s (r d : Nat) (L : Nat → Nat → Bool) : br E am cur wt (r + 1) d L = if am d = true then fo (fun h => (br E am cur wt r (d + 1) (nxL E L d h)).map (adH cur wt d h)) (L d) none 4 else br E am cur wt r (d + 1) L := rfl
theorem bq_s (r d : Nat) (L : Nat → Nat → Bool) : bq E am cur wt (r + 1) d L = if am d = true then fo (fun h => (bq E am cur wt r (d + 1) (nxL E L d h)).map (adH cur wt d h)) (fun h => L d h && !btw E (d + 1 + r) cur L d h) none 4 else bq E am cur wt r (d + 1) L := rfl
theorem br_cg : ∀ r d (L M : Nat → Nat → Bool), (∀ e g, d ≤ e → e < d + r → g < 4 → L e g = M e g) → br E am cur wt r d L = br E am cur wt r d M := by
  intro r
  induction r with
  | zero => intro d L M _; rfl
  | succ r ih =>
    intro d L M h
    rw [br_s, br_s, ih (d + 1) L M (fun e g h1 h2 h3 => h e g (by omega) (by omega) h3)]
    split
    · apply fo_cg
      intro i hi
      refine ⟨h d i (Nat.le_refl _) (by omega) hi, fun _ => ?_⟩
      show Option.map _ _ = Option.map _ _
      rw [ih (d + 1) (nxL E L d i) (nxL E M d i) (fun e g h1 h2 h3 => by unfold nxL; rw [h e g (by omega) (by omega) h3])]
    · rfl
theorem twn_iff {n d g h : Nat} {L : Nat → Nat → Bool} : twn E n L d g h = true ↔ ∀ e j, d < e → e < n → j < 4 → nxL E L d g e j = nxL E L d h e j := by
  unfold twn
  rw [Bool.not_eq_true', ← Bool.not_eq_true, exB_iff]
  constructor
  · intro z e j h1 h2 h3
    apply Classical.byContradiction
    intro c
    apply z
    refine ⟨4 * e + j, by omega, by omega, ?_⟩
    rw [show (4 * e + j) / 4 = e by omega, show (4 * e + j) % 4 = j by omega]
    simpa using c
  · rintro z ⟨j, h1, h2, h3⟩
    rw [z (j / 4) (j % 4) (by omega) (by omega) (by omega)] at h3
    simp at h3
theorem btw_iff {n d h : Nat} {L : Nat → Nat → Bool} : btw E n cur L d h = true ↔ ∃ g, g < 4 ∧ (g = cur d ∨ (g < h ∧ h ≠ cur d)) ∧ g ≠ h ∧ L d g = true ∧ twn E n L d g h = true := by
  unfold btw
  rw [exB_iff]
  simp only [Bool.and_eq_true, Bool.or_eq_true, decide_eq_true_eq]
  constructor
  · rintro ⟨g, _, h2, h3, h4, h5, h6⟩
    exact ⟨g, by omega, h3, h4, h5, h6⟩
  · rintro ⟨g, h2, h3, h4, h5, h6⟩
    exact ⟨g, by omega, by omega, h3, h4, h5, h6⟩
theorem twn_rf {n d g : Nat} {L : Nat → Nat → Bool} : twn E n L d g g = true := twn_iff.2 (fun _ _ _ _ _ => rfl)
theorem twn_tr {n d g h k : Nat} {L : Nat → Nat → Bool} (a : twn E n L d g h = true) (b : twn E n L d h k = true) : twn E n L d g k = true := twn_iff.2 (fun e j h1 h2 h3 => (twn_iff.1 a e j h1 h2 h3).trans (twn_iff.1 b e j h1 h2 h3))
/-- one of those alike that is not passed over -/
theorem tw_rep {n d h : Nat} {L : Nat → Nat → Bool} (hh : h < 4) (hL : L d h = true) : ∃ g, g < 4 ∧ L d g = true ∧ twn E n L d g h = true ∧ btw E n cur L d g = false ∧ (g = cur d ∨ (g ≤ h ∧ h ≠ cur d)) := by
  by_cases c : cur d < 4 ∧ L d (cur d) = true ∧ twn E n L d (cur d) h = true
  · refine ⟨cur d, c.1, c.2.1, c.2.2, ?_, Or.inl rfl⟩
    rw [← Bool.not_eq_true, btw_iff]
    rintro ⟨g, _, h2, h3, _⟩
    rcases h2 with z | z
    · exact h3 z
    · exact z.2 rfl
  · have hc : h ≠ cur d := fun z => c ⟨by omega, by rw [← z]; exact hL, by rw [← z]; exact twn_rf⟩
    have ex : ∀ k, k ≤ h → L d k = true → twn E n L d k h = true → ∃ g, g ≤ k ∧ L d g = true ∧ twn E n L d g h = true ∧ ∀ j, j < g → L d j = true → twn E n L d j h = true → False := by
      intro k
      induction k with
      | zero => intro _ h1 h2; exact ⟨0, Nat.le_refl _, h1, h2, fun j hj => absurd hj (Nat.not_lt_zero j)⟩
      | succ k ih =>
        intro hk h1 h2
        by_cases m : ∃ j, j ≤ k ∧ L d j = true ∧ twn E n L d j h = true
        · obtain ⟨j, j1, j2, j3⟩ := m
          have : ∀ b, b ≤ k → L d b = true → twn E n L d b h = true → ∃ g, g ≤ b ∧ L d g = true ∧ twn E n L d g h = true ∧ ∀ j, j < g → L d j = true → twn E n L d j h = true → False := by
            intro b
            induction b using Nat.strongRecOn with
            | ind b ihb =>
              intro b1 b2 b3
              by_cases mb : ∃ j, j < b ∧ L d j = true ∧ twn E n L d j h = true
              · obtain ⟨j, j1, j2, j3⟩ := mb
                obtain ⟨g, g1, g2⟩ := ihb j j1 (by omega) j2 j3
                exact ⟨g, by omega, g2⟩
              · exact ⟨b, Nat.le_refl _, b2, b3, fun j hj p q => mb ⟨j, hj, p, q⟩⟩
          obtain ⟨g, g1, g2⟩ := this j j1 j2 j3
          exact ⟨g, by omega, g2⟩
        · exact ⟨k + 1, Nat.le_refl _, h1, h2, fun j hj p q => m ⟨j, by omega, p, q⟩⟩
    obtain ⟨g, g1, g2, g3, g4⟩ := ex h (Nat.le_refl _) hL twn_rf
    refine ⟨g, by omega, g2, g3, ?_, Or.inr ⟨g1, hc⟩⟩
    rw [← Bool.not_eq_true, btw_iff]
    rintro ⟨j, j1, j2, j3, j4, j5⟩
    have tj := twn_tr j5 g3
    rcases j2 with z | z
    · exact c ⟨by omega, by rw [← z]; exact j4, by rw [← z]; exact tj⟩
    · exact g4 j z.1 j4 tj
theorem bq_tw {r d g h : Nat} {L : Nat → Nat → Bool} (ht : twn E (d + 1 + r) L d g h = true) : br E am cur wt r (d + 1) (nxL E L d g) = br E am cur wt r (d + 1) (nxL E L d h) :=
  br_cg r (d + 1) _ _ (fun e j h1 h2 h3 => twn_iff.1 ht e j (by omega) (by omega) h3)
/-- with weights, nothing is lost by passing over -/
theorem bq_br (hw : ∀ d, 0 < wt d) : ∀ r d (L : Nat → Nat → Bool), bq E am cur wt r d L = br E am cur wt r d L := by
  intro r
  induction r with
  | zero => intro d L; rfl
  | succ r ih =>
    intro d L
    rw [bq_s, br_s]
    simp only [ih]
    split
    · symm
      apply fo_tw
      · intro i hi
        rw [Bool.and_eq_true] at hi
        exact hi.1
      · intro h hh hP hQ x hx
        obtain ⟨g, g1, g2, g3, g4, g5⟩ := tw_rep (E := E) (n := d + 1 + r) (cur := cur) (L := L) (d := d) hh hP
        have hb : btw E (d + 1 + r) cur L d h = true := by
          cases hb : btw E (d + 1 + r) cur L d h
          · rw [hP, hb] at hQ; cases hQ
          · rfl
        have gh : g ≠ h := fun z => by rw [z, hb] at g4; cases g4
        have hx : (br E am cur wt r (d + 1) (nxL E L d h)).map (adH cur wt d h) = some x := hx
        rw [← bq_tw g3] at hx
        cases hs : br E am cur wt r (d + 1) (nxL E L d g) with
        | none => rw [hs] at hx; cases hx
        | some s =>
          rw [hs] at hx
          have hx : some (adH cur wt d h s) = some x := hx
          cases hx
          refine ⟨g, adH cur wt d g s, g1, by rw [g2, g4]; rfl, by show (br E am cur wt r (d + 1) (nxL E L d g)).map _ = _; rw [hs]; rfl, ?_⟩
          show (if g = cur d then 0 else wt d) + s.1 < (if h = cur d then 0 else wt d) + s.1 ∨ (g < h ∧ (if g = cur d then 0 else wt d) + s.1 ≤ (if h = cur d then 0 else wt d) + s.1)
          have := hw d
          rcases g5 with z | z
          · left
            rw [if_pos z, if_neg (by omega)]
            omega
          · right
            rw [if_neg z.2]
            refine ⟨by omega, ?_⟩
            split <;> omega
    · rfl
/-- whether there is one at all -/
theorem bq_no : ∀ r d (L : Nat → Nat → Bool), bq E am cur wt r d L = none ↔ br E am cur wt r d L = none := by
  intro r
  induction r with
  | zero => intro d L; exact Iff.rfl
  | succ r ih =>
    intro d L
    rw [bq_s, br_s]
    split
    · rw [fo_none, fo_none]
      have mp : ∀ h, ((br E am cur wt r (d + 1) (nxL E L d h)).map (adH cur wt d h) = none) ↔ ((bq E am cur wt r (d + 1) (nxL E L d h)).map (adH cur wt d h) = none) := by
        intro h
        rw [Option.map_eq_none_iff, Option.map_eq_none_iff, ih]
      constructor
      · intro z h hh hL
        obtain ⟨g, g1, g2, g3, g4, _⟩ := tw_rep (E := E) (n := d + 1 + r) (cur := cur) (L := L) (d := d) hh hL
        have := z g g1 (by rw [g2, g4]; rfl)
        rw [← mp g, Option.map_eq_none_iff, bq_tw g3] at this
        show (br E am cur wt r (d + 1) (nxL E L d h)).map _ = none
        rw [this]; rfl
      · intro z h hh hL
        rw [Bool.and_eq_true] at hL
        exact (mp h).1 (z h hh hL.1)
    · exact ih _ _
/-- a door that has none left -/
theorem br_0 : ∀ r d (L : Nat → Nat → Bool) e, d ≤ e → e < d + r → am e = true → (∀ g, g < 4 → L e g = false) → br E am cur wt r d L = none := by
  intro r
  induction r with
  | zero => intro d L e h1 h2; omega
  | succ r ih =>
    intro d L e h1 h2 h3 h4
    rw [br_s]
    by_cases c : e = d
    · subst c
      rw [if_pos h3, fo_none]
      intro i hi hp
      rw [h4 i hi] at hp; cases hp
    · split
      · rw [fo_none]
        intro i hi _
        show (br E am cur wt r (d + 1) (nxL E L d i)).map _ = none
        rw [ih (d + 1) (nxL E L d i) e (by omega) (by omega) h3 (fun g hg => by unfold nxL; rw [h4 g hg]; rfl)]
        rfl
      · exact ih (d + 1) L e (by omega) (by omega) h3 h4
theorem shf_ad {k d h : Nat} {t : Nat → Nat} (x : Nat × (Nat → Nat)) : shf k d t (adH cur wt d h x) = shf (k + (if h = cur d then 0 else wt d)) (d + 1) (upn t d h) x := by
  unfold shf adH
  dsimp only
  congr 1
  · omega
  · funext i
    unfold upn
    by_cases c1 : i < d
    · rw [if_pos c1, if_pos (by omega), if_neg (by omega)]
    · rw [if_neg c1]
      by_cases c2 : i = d
      · rw [if_pos c2, if_pos (by omega), if_pos c2]
      · rw [if_neg c2, if_neg (by omega)]
theorem shf_lt {k d : Nat} {t : Nat → Nat} (a b : Nat × (Nat → Nat)) : (shf k d t a).1 < (shf k d t b).1 ↔ a.1 < b.1 := by
  show k + a.1 < k + b.1 ↔ _
  omega
/-- what is already dearer gives nothing -/
theorem mrg_cut {b : Nat × (Nat → Nat)} {k d : Nat} {t : Nat → Nat} (s : HR) (h : b.1 ≤ k) : mrg (some b) (s.map (shf k d t)) = some b := by
  cases s with
  | none => rfl
  | some x =>
    show mrg (some b) (some (shf k d t x)) = _
    rw [mrg_some, if_neg]
    show ¬ k + x.1 < b.1
    omega
theorem fo_shf {d k : Nat} {t : Nat → Nat} {P : Nat → Bool} (sub : Nat → HR) : (fo (fun h => (sub h).map (adH cur wt d h)) P none 4).map (shf k d t) = fo (fun h => (sub h).map (shf (k + (if h = cur d then 0 else wt d)) (d + 1) (upn t d h))) P none 4 := by
  rw [fo_map shf_lt]
  apply fo_cg
  intro i _
  refine ⟨rfl, fun _ => ?_⟩
  show ((sub i).map _).map _ = _
  rw [Option.map_map]
  congr 1
  funext x
  exact shf_ad x
end HS
