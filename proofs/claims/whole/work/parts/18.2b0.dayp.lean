/-! a day's lines, read: pure. X (2i), X (2i+1) the act and its number; X 900 how many -/
section DAYP
variable (T : Nat → Nat) (sz lim : Nat) (N : Nat → Nat) (ne : Nat)
def dyS (q : Nat) (X : Nat → Nat) (w : Nat) : RsT :=
  if isNm T sz lim q = false then erA T sz lim 1 q
  else if ne ≤ fdD N ne (nV T sz lim q) then erA T sz lim 3 q
  else .ok (tkN T sz lim q, upX (upX X (2 * X 900) w) (2 * X 900 + 1) (fdD N ne (nV T sz lim q)))
def dyT (q : Nat) (X : Nat → Nat) : RsT := if nmB T sz lim q 1 30 = true then .ok (tkN T sz lim q, upX X (2 * X 900 + 1) (tkV T sz lim q)) else erA T sz lim (nmF T sz lim q) q
def sdN (q : Nat) : Nat := if isW T sz lim q 13 = true then 0 else if isW T sz lim q 14 = true then 1 else if isW T sz lim q 15 = true then 2 else if isW T sz lim q 16 = true then 3 else 4
def dyK (p : Nat) (X : Nat → Nat) : RsT :=
  if (isW T sz lim p 9 || isW T sz lim p 10 || isW T sz lim p 11 || isW T sz lim p 12) = false then erA T sz lim 1 p
  else if X 900 = 60 then erA T sz lim 4 p
  else if (isW T sz lim p 10 || isW T sz lim p 11) = true then dyS T sz lim N ne (tkN T sz lim p) X (if isW T sz lim p 10 = true then 4 else 5)
  else if isW T sz lim p 9 = true then (if sdN T sz lim (tkN T sz lim p) = 4 then erA T sz lim 1 (tkN T sz lim p) else dyT T sz lim (tkN T sz lim (tkN T sz lim p)) (upX X (2 * X 900) (sdN T sz lim (tkN T sz lim p))))
  else dyT T sz lim (tkN T sz lim p) (upX X (2 * X 900) 6)
def dyE : RsT → RsT
  | .error e => .error e
  | .ok (q, X) => if tkK T sz lim q = 59 then .ok (tkN T sz lim q, upX X 900 (X 900 + 1)) else erA T sz lim 1 q
def dyA : Nat → Nat → (Nat → Nat) → RsT
  | 0, p, X => .ok (p, X)
  | r + 1, p, X => if tkK T sz lim p = 0 then .ok (p, X) else match dyE T sz lim (dyK T sz lim N ne p X) with
    | .error e => .error e
    | .ok (q, Y) => dyA r q Y
end DAYP
/-- what a day half read keeps -/
def DX (ne : Nat) (X : Nat → Nat) : Prop := X 900 ≤ 60 ∧ ∀ i, i < X 900 → ((X (2 * i) < 4 ∨ X (2 * i) = 6) ∧ X (2 * i + 1) ≤ 30) ∨ ((X (2 * i) = 4 ∨ X (2 * i) = 5) ∧ X (2 * i + 1) < ne)
section DAYQ
variable {T : Nat → Nat} {sz lim : Nat} {N : Nat → Nat} {ne : Nat}
theorem sdN_le (q : Nat) : sdN T sz lim q ≤ 4 := by
  unfold sdN
  split
  · omega
  · split
    · omega
    · split
      · omega
      · split <;> omega
/-- an act read, its count not yet moved -/
def DX1 (ne c : Nat) (X : Nat → Nat) : Prop := X 900 = c ∧ c < 60 ∧ DX ne X ∧ (((X (2 * c) < 4 ∨ X (2 * c) = 6) ∧ X (2 * c + 1) ≤ 30) ∨ ((X (2 * c) = 4 ∨ X (2 * c) = 5) ∧ X (2 * c + 1) < ne))
theorem DX.up {X : Nat → Nat} {i v : Nat} (hD : DX ne X) (h1 : 2 * X 900 ≤ i) (h2 : i < 900) : DX ne (upX X i v) := by
  refine ⟨by rw [upX_n (by omega)]; exact hD.1, fun j hj => ?_⟩
  rw [upX_n (by omega)] at hj
  rw [upX_n (by omega), upX_n (by omega)]
  exact hD.2 j hj
theorem dyT_P {X : Nat → Nat} {q : Nat} (hq : q ≤ sz) (hD : DX ne X) (hc : X 900 < 60) (hw : X (2 * X 900) < 4 ∨ X (2 * X 900) = 6) : Pk sz q (DX1 ne (X 900)) (dyT T sz lim q X) := by
  have nl := tkN_le (T := T) (lim := lim) hq
  unfold dyT
  split
  · rename_i c
    have nk := nmB_k c
    refine ⟨nl.1, nl.2, upX_n (by omega), hc, hD.up (by omega) (by omega), Or.inl ⟨?_, ?_⟩⟩
    · rw [upX_n (by omega)]; exact hw
    · rw [upX_i]; omega
  · trivial
theorem dyK_P {X : Nat → Nat} {p : Nat} (hp : p ≤ sz) (hD : DX ne X) : Pk sz (p + 1) (DX1 ne (X 900)) (dyK T sz lim N ne p X) := by
  have nl := tkN_le (T := T) (lim := lim) hp
  have nl2 := tkN_le (T := T) (lim := lim) nl.2
  have d1 := hD.1
  unfold dyK
  split
  · trivial
  · rename_i c
    have k2 : tkK T sz lim p = 2 := by
      cases h9 : isW T sz lim p 9
      · cases h10 : isW T sz lim p 10
        · cases h11 : isW T sz lim p 11
          · cases h12 : isW T sz lim p 12
            · rw [h9, h10, h11, h12] at c; exact absurd rfl c
            · exact isW_k h12
          · exact isW_k h11
        · exact isW_k h10
      · exact isW_k h9
    have st := tkN_w k2 hp
    split
    · trivial
    · split
      · unfold dyS
        split
        · trivial
        · split
          · trivial
          · refine ⟨by omega, nl2.2, by rw [upX_n (by omega), upX_n (by omega)], by omega, (hD.up (by omega) (by omega)).up (by rw [upX_n (by omega)]; omega) (by omega), Or.inr ⟨?_, ?_⟩⟩
            · rw [upX_n (by omega), upX_i]; split <;> omega
            · rw [upX_i]; omega
      · split
        · split
          · trivial
          · rename_i c4
            have sl := sdN_le (T := T) (sz := sz) (lim := lim) (tkN T sz lim p)
            have e9 : upX X (2 * X 900) (sdN T sz lim (tkN T sz lim p)) 900 = X 900 := upX_n (by omega)
            have := dyT_P (T := T) (lim := lim) (ne := ne) (X := upX X (2 * X 900) (sdN T sz lim (tkN T sz lim p))) nl2.2 (hD.up (by omega) (by omega)) (by rw [e9]; omega) (by rw [e9, upX_i]; omega)
            rw [e9] at this
            exact this.up (by omega)
        · have e9 : upX X (2 * X 900) 6 900 = X 900 := upX_n (by omega)
          have := dyT_P (T := T) (lim := lim) (ne := ne) (X := upX X (2 * X 900) 6) nl.2 (hD.up (by omega) (by omega)) (by rw [e9]; omega) (by rw [e9, upX_i]; omega)
          rw [e9] at this
          exact this.up (by omega)
theorem dyE_P {X : Nat → Nat} {p : Nat} (hp : p ≤ sz) (hD : DX ne X) : Pk sz (p + 1) (DX ne) (dyE T sz lim (dyK T sz lim N ne p X)) := by
  have := dyK_P (T := T) (lim := lim) (N := N) hp hD
  cases hr : dyK T sz lim N ne p X with
  | error e => trivial
  | ok x =>
    obtain ⟨q, Y⟩ := x
    rw [hr] at this
    obtain ⟨l1, l2, e9, lc, hY, ha⟩ := this
    show Pk sz (p + 1) (DX ne) (if tkK T sz lim q = 59 then .ok (tkN T sz lim q, upX Y 900 (Y 900 + 1)) else erA T sz lim 1 q)
    split
    · have nl := tkN_le (T := T) (lim := lim) l2
      refine ⟨by omega, nl.2, by rw [upX_i]; omega, fun i hi => ?_⟩
      rw [upX_i] at hi
      rw [upX_n (by omega), upX_n (by omega)]
      by_cases c : i < Y 900
      · exact hY.2 i c
      · have : i = X 900 := by omega
        rw [this]; exact ha
    · trivial
end DAYQ
/-! the class reads a day -/
def NmB (h : Hp) (b a n : Nat) (N : Nat → Nat) : Prop := (hK h a = 4 ∧ hI h a 5 = nI n ∧ n ≤ 10) ∧ (30 ≤ a ∧ a < b ∧ a ≠ 31) ∧ ∃ r, (r < b ∧ r ≠ 31) ∧ hQ h a 1 = some r ∧ hK h r = 16 ∧ hL h r = 10 ∧ ∀ d, d < n → ∃ p w, (p < b ∧ p ≠ 31) ∧ hQ h r d = some p ∧ hK h p = 1 ∧ hJ h p 5 = lN w ∧ NmR (N d) w
def FRg (h0 h : Hp) (b k s : Nat) : Prop := Fa Zc h0 h ∧ hN h0 = b ∧ (98 ≤ b ∧ b + 200 ≤ 1000000 ∧ hI h 31 6 = nI 0) ∧ hN h = b + k ∧ hC h + b = hC h0 + hN h ∧ hS h ≤ hS h0 + s
theorem NmB.fa {h0 h : Hp} {b a n : Nat} {N : Nat → Nat} (hB : NmB h0 b a n N) (hf : Fa Zc h0 h) (hb : hN h0 = b) (hb2 : b ≤ 1000000) : NmH h a n N := by
  obtain ⟨⟨k, i5, n10⟩, ⟨a30, ab, a31⟩, r, ⟨rb, r31⟩, q1, k16, l10, hd⟩ := hB
  have al : ∀ x, x < b → x ≠ 31 → hI h x = hI h0 x ∧ hJ h x = hJ h0 x ∧ hQ h x = hQ h0 x := fun x hx h31 => hf.all (by omega) (fun z hz e => h31 (by
    have : ∀ z, z ∈ Zc → z % 1000000 = 31 := by decide
    rw [← this z hz]; exact e.symm)) (by omega)
  have kk : ∀ x, x < b → hK h x = hK h0 x ∧ hL h x = hL h0 x := fun x hx => hf.2.1 x (by omega)
  refine ⟨by rw [(kk a ab).1]; exact k, by rw [(al a ab a31).1]; exact i5, n10, r, by rw [(al a ab a31).2.2]; exact q1, by rw [(kk r rb).1]; exact k16, by rw [(kk r rb).2]; exact l10, fun d hdn => ?_⟩
  obtain ⟨p, w, ⟨pb, p31⟩, p1, p2, p3, p4⟩ := hd d hdn
  exact ⟨p, w, by rw [(al r rb r31).2.2]; exact p1, by rw [(kk p pb).1]; exact p2, by rw [(al p pb p31).2.1]; exact p3, p4⟩
theorem FRg.fz {h0 h g : Hp} {b k s : Nat} {Z : List Nat} (a : FRg h0 h b k s) (hz : Fz Z h g) (hZ : ∀ z, z ∈ Z → z ∈ Zs) : FRg h0 g b k s := by
  obtain ⟨f1, f2, f3, f4, f5, f6⟩ := a
  refine ⟨f1.then (hz.fa.wid (fun z hm => Or.inl (Zs_c z (hZ z hm)))), f2, ⟨f3.1, f3.2.1, ?_⟩, by rw [hz.N]; exact f4, by rw [hz.C, hz.N]; exact f5, by rw [hz.S]; exact f6⟩
  rw [hz.I1 (fun hm => absurd (hZ _ hm) (by decide)) (fun hm => absurd (hZ _ hm) (by decide))]
  exact f3.2.2
theorem FRg.wsI {h0 h : Hp} {b n s a k : Nat} {x : Int32} (f : FRg h0 h b n s) (ha : b ≤ a) : FRg h0 (sI h a k x) b n s := by
  obtain ⟨f1, f2, f3, f4, f5, f6⟩ := f
  exact ⟨f1.sI (Or.inr (Or.inr (by omega))), f2, ⟨f3.1, f3.2.1, by rw [hI_sI, if_neg (by omega)]; exact f3.2.2⟩, f4, f5, f6⟩
theorem FRg.er {h0 h g : Hp} {b n s k a : Nat} (f : FRg h0 h b n s) (hn : n ≤ 100) (hs : s ≤ 1500) (hF : Fix g) (hz : Fz [7000031, 8000031] h g) (h6 : hI g 31 6 = nI k) (h7 : hI g 31 7 = nI a) : ER h0 g b k a := by
  obtain ⟨f1, f2, f3, f4, f5, f6⟩ := f
  exact ⟨hF, f1.then (hz.fa.wid (by decide)), ⟨by rw [hz.C, hz.N]; exact f5, by rw [hz.N]; omega, by rw [hz.S]; omega⟩, h6, h7⟩
