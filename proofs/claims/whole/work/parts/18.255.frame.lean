/-! frames of runs that make cells or set pointers -/
/-- as Fz, for places that were there; pointers as numbers -/
def Fa (Z : List Nat) (h g : Hp) : Prop := hN h ≤ hN g ∧ (∀ a, a < hN h → hK g a = hK h a ∧ hL g a = hL h a) ∧ ∀ a j, a < hN h → a < 1000000 → a ∉ Z → 1000000 * (j + 1) + a ∉ Z → hI g a j = hI h a j ∧ hJ g a j = hJ h a j ∧ hQ g a j = hQ h a j
theorem Fz.fa {Z : List Nat} {h g : Hp} (h1 : Fz Z h g) : Fa Z h g := by
  refine ⟨by rw [h1.N]; exact Nat.le_refl _, fun a _ => ⟨by rw [h1.K], by rw [h1.L]⟩, fun a j _ hl ha hb => ?_⟩
  have := h1.2.2.2.2.2.2 a j hl ha hb
  exact ⟨this.1, this.2, by rw [h1.Q]⟩
theorem Fa.rfl' {Z : List Nat} {h : Hp} : Fa Z h h := Fz.rfl'.fa
theorem Fa.then {Z : List Nat} {h g f : Hp} (h1 : Fa Z h g) (h2 : Fa Z g f) : Fa Z h f := by
  obtain ⟨a1, a2, a3⟩ := h1
  obtain ⟨b1, b2, b3⟩ := h2
  refine ⟨by omega, fun a ha => ⟨(b2 a (by omega)).1.trans (a2 a ha).1, (b2 a (by omega)).2.trans (a2 a ha).2⟩, fun a j hn hl ha hb => ?_⟩
  have x := a3 a j hn hl ha hb
  have y := b3 a j (by omega) hl ha hb
  exact ⟨y.1.trans x.1, y.2.1.trans x.2.1, y.2.2.trans x.2.2⟩
theorem Fa.wid {Y Z : List Nat} {h g : Hp} (h1 : Fa Y h g) (hs : ∀ z, z ∈ Y → z ∈ Z ∨ z % 1000000 ∈ Z) : Fa Z h g := by
  obtain ⟨a1, a2, a3⟩ := h1
  refine ⟨a1, a2, fun a j hn hl ha hb => a3 a j hn hl (fun z => ?_) (fun z => ?_)⟩
  · rcases hs _ z with q | q
    · exact ha q
    · rw [Nat.mod_eq_of_lt hl] at q; exact ha q
  · rcases hs _ z with q | q
    · exact hb q
    · rw [show (1000000 * (j + 1) + a) % 1000000 = a by omega] at q; exact ha q
theorem Fa.I1 {Z : List Nat} {h g : Hp} (h1 : Fa Z h g) {a j : Nat} (hn : a < hN h) (ha : a ∉ Z) (hb : 1000000 * (j + 1) + a ∉ Z) (hl : a < 1000000 := by omega) : hI g a j = hI h a j := (h1.2.2 a j hn hl ha hb).1
theorem Fa.J1 {Z : List Nat} {h g : Hp} (h1 : Fa Z h g) {a j : Nat} (hn : a < hN h) (ha : a ∉ Z) (hb : 1000000 * (j + 1) + a ∉ Z) (hl : a < 1000000 := by omega) : hJ g a j = hJ h a j := (h1.2.2 a j hn hl ha hb).2.1
theorem Fa.Q1 {Z : List Nat} {h g : Hp} (h1 : Fa Z h g) {a j : Nat} (hn : a < hN h) (ha : a ∉ Z) (hb : 1000000 * (j + 1) + a ∉ Z) (hl : a < 1000000 := by omega) : hQ g a j = hQ h a j := (h1.2.2 a j hn hl ha hb).2.2
theorem Fa.all {Z : List Nat} {h g : Hp} (h1 : Fa Z h g) {a : Nat} (hn : a < hN h) (ha : ∀ z, z ∈ Z → z % 1000000 ≠ a) (hl : a < 1000000 := by omega) : hI g a = hI h a ∧ hJ g a = hJ h a ∧ hQ g a = hQ h a := by
  have q : ∀ j, hI g a j = hI h a j ∧ hJ g a j = hJ h a j ∧ hQ g a j = hQ h a j := fun j => h1.2.2 a j hn hl (fun z => ha _ z (by omega)) (fun z => ha _ z (by omega))
  exact ⟨funext fun j => (q j).1, funext fun j => (q j).2.1, funext fun j => (q j).2.2⟩
theorem Fa.fix {Z : List Nat} {h g : Hp} (h1 : Fa Z h g) (hF : Fix h) (hZ : ∀ z, z ∈ Z → 30 ≤ z % 1000000) (hq : ∀ q, q ∈ fqT → q.1 ∉ Z ∧ 1000000 * (q.2.1 + 1) + q.1 ∉ Z) : Fix g := by
  obtain ⟨b1, b2, b3, b4, b5, b6, b7⟩ := hF
  have z (j : Nat) (hj : j < 30) : ∀ z, z ∈ Z → z % 1000000 ≠ j := fun m hm => by have := hZ m hm; omega
  have fl : ∀ q, q ∈ fqT → q.1 < 98 := by decide
  refine ⟨by have := h1.1; omega, fun a ha => by rw [(h1.2.1 a (by omega)).1]; exact b2 a ha, fun a ha hn => by rw [(h1.2.1 a (by omega)).2]; exact b3 a ha hn, fun q hqm => ?_, fun j hj => ?_, ?_, ?_⟩
  · have := fl q hqm
    rw [h1.Q1 (by omega) (hq q hqm).1 (hq q hqm).2]; exact b4 q hqm
  · rw [(h1.all (a := j) (by omega) (z j (by omega))).2.1, (h1.all (a := 26) (by omega) (z 26 (by omega))).2.2]; exact b5 j hj
  · rw [(h1.all (a := 27) (by omega) (z 27 (by omega))).1]; exact b6
  · rw [(h1.all (a := 28) (by omega) (z 28 (by omega))).1]; exact b7
/-- what is marked is as it was -/
def Ag (τ : Nat → Nat) (h g : Hp) : Prop := ∀ p, τ p = 1 → hK g p = hK h p ∧ hL g p = hL h p ∧ hQ g p = hQ h p ∧ hI g p = hI h p ∧ hJ g p = hJ h p
section AG
variable {τ : Nat → Nat} {h g : Hp} {E : Nat → Nat}
theorem Ag.rfl' : Ag τ h h := fun _ _ => ⟨rfl, rfl, rfl, rfl, rfl⟩
theorem Ag.then {f : Hp} (a : Ag τ h g) (b : Ag τ g f) : Ag τ h f := fun p hp => ⟨(b p hp).1.trans (a p hp).1, (b p hp).2.1.trans (a p hp).2.1, (b p hp).2.2.1.trans (a p hp).2.2.1, (b p hp).2.2.2.1.trans (a p hp).2.2.2.1, (b p hp).2.2.2.2.trans (a p hp).2.2.2.2⟩
theorem Fa.ag {Z : List Nat} (h1 : Fa Z h g) (hT : TG τ) (hN' : ∀ p, τ p = 1 → p < hN h) (hZ : ∀ z, z ∈ Z → τ (z % 1000000) ≠ 1) : Ag τ h g := by
  intro p hp
  have q := h1.all (a := p) (hN' p hp) (fun z hz e => hZ z hz (by rw [e]; exact hp)) (hT p hp).2
  exact ⟨(h1.2.1 p (hN' p hp)).1, (h1.2.1 p (hN' p hp)).2, q.2.2, q.1, q.2.1⟩
theorem rq_e {p : Nat} (e : hQ g p = hQ h p) (k : Nat) : rq g p k = rq h p k := by unfold rq; rw [e]
theorem ArT.ag {p k ar n : Nat} (ha : Ag τ h g) (hp : τ p = 1) (z : ArT τ h p k ar n) : ArT τ g p k ar n ∧ rq g p k = rq h p k := by
  have e : rq g p k = rq h p k := by unfold rq; rw [(ha p hp).2.2.1]
  refine ⟨?_, e⟩
  unfold ArT at z ⊢
  rw [e, (ha p hp).2.2.1, (ha _ z.2.2.2.2).1, (ha _ z.2.2.2.2).2.1]
  exact z
theorem DoR.ag {p d : Nat} (ha : Ag τ h g) (hD : DoR τ h p E d) : DoR τ g p E d := by
  obtain ⟨dk, dge, dt, b0, b1, b2, b3, b4, f', m1, m2⟩ := hD
  have c0 := ArT.ag ha dt b0
  have c1 := ArT.ag ha dt b1
  have c2 := ArT.ag ha dt b2
  have c3 := ArT.ag ha dt b3
  have c4 := ArT.ag ha dt b4
  refine ⟨by rw [(ha p dt).1]; exact dk, dge, dt, c0.1, c1.1, c2.1, c3.1, c4.1, by rw [(ha p dt).2.2.2.1]; exact f', fun g' a' hg ha' => ?_, fun g' hg => ?_⟩
  · rw [c0.2, c1.2, (ha _ b0.2.2.2.2).2.2.2.2, (ha _ b1.2.2.2.2).2.2.2.2]; exact m1 g' a' hg ha'
  · rw [c2.2, c3.2, c4.2, (ha _ b2.2.2.2.2).2.2.2.2, (ha _ b3.2.2.2.2).2.2.2.2, (ha _ b4.2.2.2.2).2.2.2.1]; exact m2 g' hg
theorem HoR.ag {a : Nat} (ha : Ag τ h g) (hH : HoR τ h a E) : HoR τ g a E := by
  obtain ⟨k, ge, t, a0, a1, a2, f, hc, hd, hw⟩ := hH
  have c0 := ArT.ag ha t a0
  have c1 := ArT.ag ha t a1
  have c2 := ArT.ag ha t a2
  have r1 : ∀ d, rq g (rq h a 1) d = rq h (rq h a 1) d := fun d => rq_e (ha _ a1.2.2.2.2).2.2.1 d
  refine ⟨by rw [(ha a t).1]; exact k, ge, t, c0.1, c1.1, c2.1, by rw [(ha a t).2.2.2.1]; exact f, fun c hc' => ?_, fun d hd' => ?_, fun i hi => ?_⟩
  · rw [c0.2, (ha _ a0.2.2.2.2).2.2.2.1]; exact hc c hc'
  · rw [c1.2, r1, (ha _ a1.2.2.2.2).2.2.1]
    exact ⟨(hd d hd').1, (hd d hd').2.ag ha⟩
  · rw [c2.2, (ha _ a2.2.2.2.2).2.2.2.1]; exact hw i hi
theorem DyR.ag {p : Nat} (ha : Ag τ h g) (hD : DyR τ h p E) : DyR τ g p E := by
  obtain ⟨k, ge, t, a0, a1, f, hd⟩ := hD
  have c0 := ArT.ag ha t a0
  have c1 := ArT.ag ha t a1
  refine ⟨by rw [(ha p t).1]; exact k, ge, t, c0.1, c1.1, by rw [(ha p t).2.2.2.1]; exact f, fun i hi => ?_⟩
  rw [c0.2, c1.2, (ha _ a0.2.2.2.2).2.2.2.1, (ha _ a1.2.2.2.2).2.2.2.1]
  exact hd i hi
end AG
section NEW
variable {h : Hp} {c n sl : Nat}
theorem hN_new : hN (hNew h c n sl) = hN h + 1 := rfl
theorem hC_new : hC (hNew h c n sl) = hC h + 1 := rfl
theorem hS_new : hS (hNew h c n sl) = hS h + sl := rfl
theorem up1_e {α : Type} (f : Nat → α) (a : Nat) (x : α) (b : Nat) : up1 f a x b = if b = a then x else f b := by
  unfold up1
  by_cases e : b = a <;> simp [e]
theorem hK_new (a : Nat) : hK (hNew h c n sl) a = if a = hN h then c else hK h a := up1_e _ _ _ _
theorem hL_new (a : Nat) : hL (hNew h c n sl) a = if a = hN h then n else hL h a := up1_e _ _ _ _
theorem hI_new (a : Nat) : hI (hNew h c n sl) a = if a = hN h then (fun _ => 0) else hI h a := up1_e _ _ _ _
theorem hJ_new (a : Nat) : hJ (hNew h c n sl) a = if a = hN h then (fun _ => 0) else hJ h a := up1_e _ _ _ _
theorem hQ_new (a : Nat) : hQ (hNew h c n sl) a = if a = hN h then (fun _ => none) else hQ h a := up1_e _ _ _ _
theorem Fa.new {Z : List Nat} : Fa Z h (hNew h c n sl) := by
  refine ⟨by rw [hN_new]; omega, fun a ha => ⟨by rw [hK_new, if_neg (by omega)], by rw [hL_new, if_neg (by omega)]⟩, fun a j hn _ _ _ => ⟨by rw [hI_new, if_neg (by omega)], by rw [hJ_new, if_neg (by omega)], by rw [hQ_new, if_neg (by omega)]⟩⟩
theorem Fa.sI {Z : List Nat} {g : Hp} (h1 : Fa Z h g) {a k : Nat} {x : Int32} (ha : a ∈ Z ∨ 1000000 * (k + 1) + a ∈ Z ∨ hN h ≤ a) : Fa Z h (sI g a k x) := by
  obtain ⟨a1, a2, a3⟩ := h1
  refine ⟨a1, a2, fun b j hn hl hb hc => ?_⟩
  have q := a3 b j hn hl hb hc
  refine ⟨?_, q.2⟩
  rw [hI_sI, if_neg]
  · exact q.1
  · rintro ⟨e, f⟩
    subst e f
    rcases ha with z | z | z
    · exact hb z
    · exact hc z
    · omega
theorem Fa.sJ {Z : List Nat} {g : Hp} (h1 : Fa Z h g) {a k : Nat} {x : Int64} (ha : a ∈ Z ∨ 1000000 * (k + 1) + a ∈ Z ∨ hN h ≤ a) : Fa Z h (sJ g a k x) := by
  obtain ⟨a1, a2, a3⟩ := h1
  refine ⟨a1, a2, fun b j hn hl hb hc => ?_⟩
  have q := a3 b j hn hl hb hc
  refine ⟨q.1, ?_, q.2.2⟩
  rw [hJ_sJ, if_neg]
  · exact q.2.1
  · rintro ⟨e, f⟩
    subst e f
    rcases ha with z | z | z
    · exact hb z
    · exact hc z
    · omega
theorem Fa.sQ {Z : List Nat} {g : Hp} (h1 : Fa Z h g) {a k : Nat} {x : Option Nat} (ha : a ∈ Z ∨ 1000000 * (k + 1) + a ∈ Z ∨ hN h ≤ a) : Fa Z h (sQ g a k x) := by
  obtain ⟨a1, a2, a3⟩ := h1
  refine ⟨a1, a2, fun b j hn hl hb hc => ?_⟩
  have q := a3 b j hn hl hb hc
  refine ⟨q.1, q.2.1, ?_⟩
  rw [hQ_sQ, if_neg]
  · exact q.2.2
  · rintro ⟨e, f⟩
    subst e f
    rcases ha with z | z | z
    · exact hb z
    · exact hc z
    · omega
theorem hI_copy {a sp b dp m : Nat} (p : Nat) : hI (hCopy h a sp b dp m) p = if p = b then va_cpy (hI h a) (hI h b) sp dp m else hI h p := up1_e _ _ _ _
theorem Fa.copy {Z : List Nat} {g : Hp} (h1 : Fa Z h g) {a sp b dp m : Nat} (hb' : b ∈ Z ∨ hN h ≤ b) : Fa Z h (hCopy g a sp b dp m) := by
  obtain ⟨a1, a2, a3⟩ := h1
  refine ⟨a1, a2, fun p j hn hl hb hc => ?_⟩
  have q := a3 p j hn hl hb hc
  refine ⟨?_, q.2⟩
  rw [hI_copy, if_neg]
  · exact q.1
  · intro e
    subst e
    rcases hb' with z | z
    · exact hb z
    · omega
end NEW
