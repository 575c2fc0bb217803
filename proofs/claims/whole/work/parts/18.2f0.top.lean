/-! the top: what a call leaves alone -/
/-- kept: places below 98 outside Z; places from 98 on whose tag is not in W -/
def Fw (τ : Nat → Nat) (Z W : List Nat) (h g : Hp) : Prop := hN h ≤ hN g ∧ (∀ a, a < hN h → hK g a = hK h a ∧ hL g a = hL h a) ∧ (∀ a j, a < 98 → a ∉ Z → 1000000 * (j + 1) + a ∉ Z → hI g a j = hI h a j ∧ hJ g a j = hJ h a j ∧ hQ g a j = hQ h a j) ∧ ∀ a, 98 ≤ a → a < hN h → τ a ∉ W → hI g a = hI h a ∧ hJ g a = hJ h a ∧ hQ g a = hQ h a
/-- the ground: fixed places, tags, room -/
def Ba (τ : Nat → Nat) (h : Hp) : Prop := Fix h ∧ (∀ p, τ p ≠ 0 → p < hN h) ∧ (∀ p, τ p = 1 → 98 ≤ p ∨ (60 ≤ p ∧ p < 64)) ∧ (∀ p, 2 ≤ τ p → 98 ≤ p) ∧ hN h ≤ 900000
section FD
variable {τ : Nat → Nat} {Z W : List Nat} {h g f : Hp}
theorem Ba.F (b : Ba τ h) : Fix h := b.1
theorem Ba.tg (b : Ba τ h) : TG τ := fun p hp => ⟨b.2.2.1 p hp, by have := b.2.1 p (by omega); have := b.2.2.2.2; omega⟩
theorem Ba.tn (b : Ba τ h) : ∀ p, τ p = 1 → p < hN h := fun p hp => b.2.1 p (by omega)
theorem Ba.n1 (b : Ba τ h) : hN h ≤ 900000 := b.2.2.2.2
theorem Ba.lo {a : Nat} (b : Ba τ h) (ha : a < 60 ∨ (64 ≤ a ∧ a < 98)) : τ a ≠ 1 := fun z => by have := b.2.2.1 a z; omega
theorem Fw.rfl' : Fw τ Z W h h := ⟨Nat.le_refl _, fun _ _ => ⟨rfl, rfl⟩, fun _ _ _ _ _ => ⟨rfl, rfl, rfl⟩, fun _ _ _ _ => ⟨rfl, rfl, rfl⟩⟩
theorem Fw.then (a : Fw τ Z W h g) (b : Fw τ Z W g f) (hF : 98 ≤ hN h := by omega) : Fw τ Z W h f := by
  obtain ⟨a1, a2, a3, a4⟩ := a
  obtain ⟨b1, b2, b3, b4⟩ := b
  refine ⟨Nat.le_trans a1 b1, fun p hp => ⟨(b2 p (by omega)).1.trans (a2 p hp).1, (b2 p (by omega)).2.trans (a2 p hp).2⟩, fun p j hp h1 h2 => ?_, fun p hp hn hw => ?_⟩
  · have x := a3 p j hp h1 h2
    have y := b3 p j hp h1 h2
    exact ⟨y.1.trans x.1, y.2.1.trans x.2.1, y.2.2.trans x.2.2⟩
  · have x := a4 p hp hn hw
    have y := b4 p hp (by omega) hw
    exact ⟨y.1.trans x.1, y.2.1.trans x.2.1, y.2.2.trans x.2.2⟩
theorem Fw.wid {Y V : List Nat} (a : Fw τ Y V h g) (hs : ∀ z, z ∈ Y → z ∈ Z ∨ z % 1000000 ∈ Z) (hw : ∀ t, t ∈ V → t ∈ W) : Fw τ Z W h g := by
  obtain ⟨a1, a2, a3, a4⟩ := a
  refine ⟨a1, a2, fun p j hp h1 h2 => a3 p j hp (fun z => ?_) (fun z => ?_), fun p hp hn h1 => a4 p hp hn (fun z => h1 (hw _ z))⟩
  · rcases hs _ z with q | q
    · exact h1 q
    · rw [Nat.mod_eq_of_lt (by omega)] at q; exact h1 q
  · rcases hs _ z with q | q
    · exact h2 q
    · rw [show (1000000 * (j + 1) + p) % 1000000 = p by omega] at q; exact h1 q
theorem Fw.mt {τ' : Nat → Nat} (a : Fw τ Z W h g) (e : ∀ p, p < hN h → τ' p = τ p) : Fw τ' Z W h g := by
  obtain ⟨a1, a2, a3, a4⟩ := a
  exact ⟨a1, a2, a3, fun p hp hn h1 => a4 p hp hn (by rw [← e p hn]; exact h1)⟩
theorem Fz.fw (hz : Fz Z h g) (hl : ∀ z, z ∈ Z → z % 1000000 < 98) (hN1 : hN h ≤ 1000000 := by omega) : Fw τ Z W h g := by
  refine ⟨by rw [hz.N]; omega, fun a _ => ⟨by rw [hz.K], by rw [hz.L]⟩, fun a j ha h1 h2 => ⟨hz.I1 h1 h2, hz.J1 h1 h2, by rw [hz.Q]⟩, fun a ha hn _ => ?_⟩
  have e : ∀ z, z ∈ Z → z % 1000000 ≠ a := fun z hz' => by have := hl z hz'; omega
  exact ⟨hz.I e, hz.J e, by rw [hz.Q]⟩
theorem Fa.fw {L P : List Nat} (hz : Fa (L ++ P) h g) (hN1 : hN h ≤ 900000) (hF : 98 ≤ hN h) (cL : ∀ z, z ∈ L → z ∈ Z ∧ z % 1000000 < 98) (cP : ∀ p, p ∈ P → p < 1000000 ∧ ((p ∈ Z ∧ p < 98) ∨ (98 ≤ p ∧ (hN h ≤ p ∨ τ p ∈ W)))) : Fw τ Z W h g := by
  obtain ⟨a1, a2, a3⟩ := hz
  refine ⟨a1, a2, fun a j ha h1 h2 => a3 a j (by omega) (by omega) (fun z => ?_) (fun z => ?_), fun a ha hn hw => ?_⟩
  · rcases List.mem_append.1 z with q | q
    · exact h1 (cL _ q).1
    · rcases (cP _ q).2 with w | w
      · exact h1 w.1
      · omega
  · rcases List.mem_append.1 z with q | q
    · exact h2 (cL _ q).1
    · have := (cP _ q).1; omega
  · have key : ∀ j, hI g a j = hI h a j ∧ hJ g a j = hJ h a j ∧ hQ g a j = hQ h a j := fun j => a3 a j hn (by omega) (fun z => by
        rcases List.mem_append.1 z with q | q
        · have := (cL _ q).2; omega
        · rcases (cP _ q).2 with w | w
          · omega
          · rcases w.2 with v | v
            · omega
            · exact hw v) (fun z => by
        rcases List.mem_append.1 z with q | q
        · have := (cL _ q).2; omega
        · have := (cP _ q).1; omega)
    exact ⟨funext fun j => (key j).1, funext fun j => (key j).2.1, funext fun j => (key j).2.2⟩
theorem Fa.fw0 {L : List Nat} (hz : Fa L h g) (hN1 : hN h ≤ 900000) (hF : 98 ≤ hN h) (cL : ∀ z, z ∈ L → z ∈ Z ∧ z % 1000000 < 98) : Fw τ Z W h g :=
  Fa.fw (L := L) (P := []) (by rw [List.append_nil]; exact hz) hN1 hF cL (fun p hp => absurd hp List.not_mem_nil)
theorem Fw.I1 {a j : Nat} (hz : Fw τ Z W h g) (h1 : a ∉ Z) (h2 : 1000000 * (j + 1) + a ∉ Z) (ha : a < 98 := by omega) : hI g a j = hI h a j := (hz.2.2.1 a j ha h1 h2).1
theorem Fw.J1 {a j : Nat} (hz : Fw τ Z W h g) (h1 : a ∉ Z) (h2 : 1000000 * (j + 1) + a ∉ Z) (ha : a < 98 := by omega) : hJ g a j = hJ h a j := (hz.2.2.1 a j ha h1 h2).2.1
theorem Fw.Q1 {a j : Nat} (hz : Fw τ Z W h g) (h1 : a ∉ Z) (h2 : 1000000 * (j + 1) + a ∉ Z) (ha : a < 98 := by omega) : hQ g a j = hQ h a j := (hz.2.2.1 a j ha h1 h2).2.2
theorem Fw.I {a : Nat} (hz : Fw τ Z W h g) (hZ : ∀ z, z ∈ Z → z % 1000000 ≠ a) (ha : a < 98 := by omega) : hI g a = hI h a := funext fun j => hz.I1 (fun z => hZ _ z (by omega)) (fun z => hZ _ z (by omega)) ha
theorem Fw.J {a : Nat} (hz : Fw τ Z W h g) (hZ : ∀ z, z ∈ Z → z % 1000000 ≠ a) (ha : a < 98 := by omega) : hJ g a = hJ h a := funext fun j => hz.J1 (fun z => hZ _ z (by omega)) (fun z => hZ _ z (by omega)) ha
theorem Fw.Q {a : Nat} (hz : Fw τ Z W h g) (hZ : ∀ z, z ∈ Z → z % 1000000 ≠ a) (ha : a < 98 := by omega) : hQ g a = hQ h a := funext fun j => hz.Q1 (fun z => hZ _ z (by omega)) (fun z => hZ _ z (by omega)) ha
theorem Fw.ag (hz : Fw τ Z W h g) (b : Ba τ h) (hZ : ∀ z, z ∈ Z → z % 1000000 < 60 ∨ 64 ≤ z % 1000000) (hW : 1 ∉ W) : Ag τ h g := fun p hp => by
  have hn := b.tn p hp
  have kl := hz.2.1 p hn
  rcases b.2.2.1 p hp with q | q
  · have x := hz.2.2.2 p q hn (by rw [hp]; exact hW)
    exact ⟨kl.1, kl.2, x.2.2, x.1, x.2.1⟩
  · have e : ∀ z, z ∈ Z → z % 1000000 ≠ p := fun z hz' => by have := hZ z hz'; omega
    exact ⟨kl.1, kl.2, hz.Q e, hz.I e, hz.J e⟩
theorem Fw.ba (hz : Fw τ Z W h g) (b : Ba τ h) (hF : Fix g) (hn : hN g ≤ 900000) : Ba τ g := ⟨hF, fun p hp => Nat.lt_of_lt_of_le (b.2.1 p hp) hz.1, b.2.2.1, b.2.2.2.1, hn⟩
theorem Fw.K {a : Nat} (hz : Fw τ Z W h g) (ha : a < hN h) : hK g a = hK h a := (hz.2.1 a ha).1
theorem Fw.L {a : Nat} (hz : Fw τ Z W h g) (ha : a < hN h) : hL g a = hL h a := (hz.2.1 a ha).2
/-- a place from 98 on, by its tag -/
theorem Fw.pl {a : Nat} (hz : Fw τ Z W h g) (h98 : 98 ≤ a) (hn : a < hN h) (hw : τ a ∉ W) : hI g a = hI h a ∧ hJ g a = hJ h a ∧ hQ g a = hQ h a := hz.2.2.2 a h98 hn hw
end FD
/-! the parts of the state, class and reference together -/
def Dtx (h : Hp) : Prop := ∃ T sz, TxC h T sz ∧ TxM h T sz
def Dfk (h : Hp) : Prop := hI h 31 6 = hI h 64 10
def Dmn (h : Hp) : Prop := ∃ n, hI h 30 13 = nI n ∧ hI h 64 23 = nI n
def FoC (h : Hp) (z S : Nat) (o hg : Nat → Nat) : Prop := hI h 48 2 = nI z ∧ hI h 48 3 = nI S ∧ (∀ i, i < z → hI h 49 i = nI (o i)) ∧ ∀ e, S.testBit e = true → hI h 50 e = nI (hg e)
def FoM (h : Hp) (z S n : Nat) (o hg : Nat → Nat) : Prop := hI h 64 37 = nI z ∧ hI h 64 38 = nI n ∧ (∀ i, i < z → hI h 83 i = nI (o i)) ∧ ∀ e, e < n → hI h 82 e = if S.testBit e = true then nI (hg e) else -1
def Dfo (h : Hp) : Prop := ∃ z S n o hg, FoC h z S o hg ∧ FoM h z S n o hg ∧ z ≤ 10 ∧ n ≤ 10 ∧ S < 2 ^ n
def Dor (h : Hp) : Prop := ∃ (z : Nat) (o : Nat → Nat), (hI h 39 9 = nI z ∧ ∀ j, j < z → hI h 44 j = nI (o j)) ∧ (hI h 64 42 = nI z ∧ ∀ j, j < z → hI h 86 j = nI (o j)) ∧ z ≤ 10
def WyC (τ : Nat → Nat) (h : Hp) (w : Nat) (a : Nat → Nat) : Prop := hI h 51 1 = nI w ∧ ∃ pw, AR h pw ∧ (pw = 52 ∨ τ pw = 4) ∧ w ≤ hL h pw ∧ ∀ t, t < w → hI h pw t = nI (a t)
def WyM (h : Hp) (w : Nat) (a : Nat → Nat) : Prop := hI h 64 57 = nI w ∧ (∀ t, t < w → hI h 94 t = nI (a t))
def Dwy (τ : Nat → Nat) (h : Hp) : Prop := ∃ w a, WyC τ h w a ∧ WyM h w a ∧ w ≤ 24300
def Dju (h : Hp) : Prop := (hI h 30 10 = 0 ∧ ∀ i, i < 5 → hI h 89 i = -2) ∨ (hI h 30 10 = 1 ∧ ∀ i, i < 5 → hI h 59 i = hI h 89 i)
/-- names of a house's doors, in places that never change -/
def NmT (τ : Nat → Nat) (h : Hp) (a n : Nat) (N : Nat → Nat) : Prop := (τ a = 1 ∧ hK h a = 4 ∧ hI h a 5 = nI n ∧ n ≤ 10) ∧ ∃ r, τ r = 1 ∧ hQ h a 1 = some r ∧ hK h r = 16 ∧ hL h r = 10 ∧ ∀ d, d < n → ∃ p w, τ p = 1 ∧ hQ h r d = some p ∧ hK h p = 1 ∧ hJ h p 5 = lN w ∧ NmR (N d) w
def PlQ (τ : Nat → Nat) (h : Hp) (q : Option Nat) (E : Nat → Nat) : Prop := (q = none ∧ E 341 = 0) ∨ ∃ p, q = some p ∧ DyR τ h p E
def SnT (τ : Nat → Nat) (h : Hp) (p : Nat) (E : Nat → Nat) : Prop := ∃ Y, (τ p = 1 ∧ τ (p + 1) = 1 ∧ τ (p + 2) = 1 ∧ τ (p + 3) = 1) ∧ SnC h p Y ∧ SaR E Y ∧ PS (E 2) X0 Y
def SyQ (τ : Nat → Nat) (h : Hp) (q : Option Nat) (E : Nat → Nat) : Prop := (q = none ∧ E 462 = 0) ∨ ∃ p, q = some p ∧ E 462 ≠ 0 ∧ 30 ≤ p ∧ SnT τ h p E
def VE (E : Nat → Nat) : Prop := WF E ∧ VA E (anE E) (E 340) ∧ DW E
def NwC (τ : Nat → Nat) (h : Hp) (E N : Nat → Nat) : Prop := ScR τ h 33 E (anE E) (E 340) ∧ NmT τ h (rq h 33 2) (E 2) N ∧ PlQ τ h (hQ h 30 11) E ∧ SyQ τ h (hQ h 30 12) E
def NwM (h : Hp) (E N : Nat → Nat) : Prop := Bg h E ∧ (∀ d, d < E 2 → hJ h 70 d = lN (N d) ∧ N d < 1125899906842625) ∧ GB h
def KpC (τ : Nat → Nat) (h : Hp) (k : Nat) (E N : Nat → Nat) : Prop := ∃ p ph pa, hQ h 56 k = some p ∧ ScG τ h p ph pa E (anE E) (E 340) ∧ (τ p = 6 + 3 * k ∧ τ ph = 7 + 3 * k ∧ τ pa = 8 + 3 * k) ∧ NmT τ h (rq h p 2) (E 2) N ∧ PlQ τ h (hQ h 57 k) E ∧ SyQ τ h (hQ h 58 k) E
def vE (E : Nat → Nat) (i : Nat) : Int32 := if i = 4 ∨ i = 340 then mI (E i) else nI (E i)
def KpM (h : Hp) (k : Nat) (E N : Nat → Nat) : Prop := hI h 73 k = 1 ∧ (∀ i, i < 704 → hI h 69 (704 * k + i) = vE E i) ∧ (∀ i, E i < 100000) ∧ ∀ d, d < E 2 → hJ h 72 (10 * k + d) = lN (N d) ∧ N d < 1125899906842625
def Dim (τ : Nat → Nat) (h : Hp) : Prop := ∀ k, k < 2 → (hQ h 56 k = none ∧ hI h 73 k = 0) ∨ ∃ E N, KpC τ h k E N ∧ KpM h k E N ∧ VE E
/-- the class's rows that are made when first wanted -/
def Drw (τ : Nat → Nat) (h : Hp) : Prop := (hQ h 51 3 = none ∨ ∃ po pq, PR h po pq ∧ τ po = 2 ∧ τ pq = 3) ∧ (hQ h 39 15 = none ∨ ∃ pk, PKP h pk ∧ τ pk = 5)
def Good (h : Hp) : Prop := ∃ τ E N, Ba τ h ∧ VE E ∧ NwC τ h E N ∧ NwM h E N ∧ Dtx h ∧ Dfk h ∧ Dmn h ∧ Dfo h ∧ Dor h ∧ Dwy τ h ∧ Dju h ∧ Dim τ h ∧ HGI τ h ∧ Drw τ h
