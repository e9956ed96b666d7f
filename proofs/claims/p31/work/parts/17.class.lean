/-! THE CLASS whole: what its objects are -/
def CA (w : Nat) : Nat → Nat := fun k => if k = 0 then w + 1 else if k = 1 then w + 41 else if k = 2 then w + 323 else w + 325
def pos (r : Nat → Nat) (y : Nat) (j : Nat) : Nat := if j < 6 then r j else y
def CR (h : AH) (w : Nat) (S : Sm) (n : Nat) (r A : Nat → Nat) (X : Nat → Sm) (f : Nat → Int32) (m a : Nat) (q : Nat → Int32) (O : Nat → Nat) (B : Bm) : Prop :=
  h.2 w = some (.inr (7, ob7 (CA w) (fun _ => 0))) ∧ StAt h (w + 1) S ∧ h.2 (w + 41) = some (.inr (2, ob2 A (fun _ => nI n))) ∧ h.2 (w + 42) = some (hrow r) ∧ (∀ j, j < 7 → StAt h (pos r (A 1) j) (X j)) ∧ h.2 (w + 323) = some (.inr (3, ob3 O (orF m a q))) ∧ h.2 (w + 324) = some (.inl (0, 100, .inl f)) ∧ RtAt h (w + 325) B
def CW (w n : Nat) (r A : Nat → Nat) (X : Nat → Sm) (m : Nat) (O : Nat → Nat) : Prop :=
  n ≤ 6 ∧ m ≤ 100 ∧ A 0 = w + 42 ∧ O 0 = w + 324 ∧ (∀ j, j < 7 → ∃ k, k < 7 ∧ pos r (A 1) j = w + 43 + 40 * k) ∧ (∀ i j, i < 7 → j < 7 → pos r (A 1) i = pos r (A 1) j → i = j) ∧ (∀ j, j < 7 → sBz (X j))
section CRS
variable {h h1 : AH} {w n m a : Nat} {S S1 : Sm} {r A O : Nat → Nat} {X : Nat → Sm} {f q : Nat → Int32} {B : Bm}
theorem pos_6 (r : Nat → Nat) (y : Nat) : pos r y 6 = y := by simp [pos]
theorem pos_lt {r : Nat → Nat} {y j : Nat} (h : j < 6) : pos r y j = r j := if_pos h
theorem CW.rng (hW : CW w n r A X m O) {j : Nat} (hj : j < 7) : w + 43 ≤ pos r (A 1) j ∧ pos r (A 1) j + 40 ≤ w + 323 := by
  obtain ⟨k, hk, e⟩ := hW.2.2.2.2.1 j hj
  omega
theorem CW.a6 (hW : CW w n r A X m O) : w + 43 ≤ A 1 ∧ A 1 + 40 ≤ w + 323 := pos_6 r (A 1) ▸ hW.rng (show 6 < 7 by decide)
theorem CW.rr (hW : CW w n r A X m O) {j : Nat} (hj : j < 6) : w + 43 ≤ r j ∧ r j + 40 ≤ w + 323 := pos_lt (r := r) (y := A 1) hj ▸ hW.rng (show j < 7 by omega)
theorem CW.dj (hW : CW w n r A X m O) {i j : Nat} (hi : i < 7) (hj : j < 7) (hne : i ≠ j) : pos r (A 1) i + 40 ≤ pos r (A 1) j ∨ pos r (A 1) j + 40 ≤ pos r (A 1) i := by
  obtain ⟨k, hk, e⟩ := hW.2.2.2.2.1 i hi
  obtain ⟨k2, hk2, e2⟩ := hW.2.2.2.2.1 j hj
  have : k ≠ k2 := fun z => hne (hW.2.2.2.2.2.1 i j hi hj (by rw [e, e2, z]))
  omega
theorem CR.hst (hC : CR h w S n r A X f m a q O B) (hW : CW w n r A X m O) : ∀ j, j < 6 → A 0 ≠ r j ∧ ∃ fs, h.2 (r j) = some (.inr (6, fs)) := fun j hj => by
  have h1 := hW.rr hj
  have h2 := hC.2.2.2.2.1 j (by omega)
  rw [pos_lt hj] at h2
  exact ⟨by rw [hW.2.2.1]; omega, _, h2.1⟩
theorem CR.has (hC : CR h w S n r A X f m a q O B) (hW : CW w n r A X m O) : A 1 ≠ A 0 ∧ ∃ fs, h.2 (A 1) = some (.inr (6, fs)) := by
  have h1 := hW.a6
  have h2 := hC.2.2.2.2.1 6 (by decide)
  rw [pos_6] at h2
  exact ⟨by rw [hW.2.2.1]; omega, _, h2.1⟩
theorem CR.st6 (hC : CR h w S n r A X f m a q O B) : StAt h (A 1) (X 6) := pos_6 r (A 1) ▸ hC.2.2.2.2.1 6 (by decide)
theorem CR.hr (hC : CR h w S n r A X f m a q O B) (hW : CW w n r A X m O) : h.2 (A 0) = some (hrow r) := by rw [hW.2.2.1]; exact hC.2.2.2.1
theorem CW.h0 (hW : CW w n r A X m O) : A 0 ≠ w + 41 := by rw [hW.2.2.1]; omega
theorem CR.os (hC : CR h w S n r A X f m a q O B) (hW : CW w n r A X m O) : h.2 (O 0) = some (.inl (0, 100, .inl f)) := by rw [hW.2.2.2.1]; exact hC.2.2.2.2.2.2.1
theorem CW.o0 (hW : CW w n r A X m O) : w + 323 ≠ O 0 := by rw [hW.2.2.2.1]; omega
/-- the state before an action is kept aside -/
theorem CR.aside (hC : CR h w S n r A X f m a q O B) (hW : CW w n r A X m O) (hz : sBz S1) (e : h1 = sput h (A 1) S1) : CR h1 w S n r A (fun j => if j = 6 then S1 else X j) f m a q O B ∧ CW w n r A (fun j => if j = 6 then S1 else X j) m O ∧ Frm h h1 w 329 := by
  have ha := hW.a6
  have ho : ∀ {x : Nat}, x < A 1 ∨ A 1 + 40 ≤ x → h1.2 x = h.2 x := fun hx => by rw [e]; exact sput_out _ _ _ hx
  refine ⟨⟨by rw [ho (by omega)]; exact hC.1, hC.2.1.keep (fun x z1 z2 => ho (by omega)), by rw [ho (by omega)]; exact hC.2.2.1, by rw [ho (by omega)]; exact hC.2.2.2.1, fun j hj => ?_, by rw [ho (by omega)]; exact hC.2.2.2.2.2.1, by rw [ho (by omega)]; exact hC.2.2.2.2.2.2.1, hC.2.2.2.2.2.2.2.keep (fun x z1 z2 => ho (by omega))⟩, ⟨hW.1, hW.2.1, hW.2.2.1, hW.2.2.2.1, hW.2.2.2.2.1, hW.2.2.2.2.2.1, fun j hj => ?_⟩, by rw [e]; rfl, fun x hx => ho (by omega)⟩
  · show StAt h1 (pos r (A 1) j) (if j = 6 then S1 else X j)
    by_cases h6 : j = 6
    · subst h6
      rw [if_pos rfl, pos_6, e]
      exact sput_at _ _ _
    · rw [if_neg h6]
      have := hW.dj hj (show 6 < 7 by decide) h6
      rw [pos_6] at this
      exact (hC.2.2.2.2.1 j hj).keep (fun x z1 z2 => ho (by omega))
  · show sBz (if j = 6 then S1 else X j)
    split
    · exact hz
    · exact hW.2.2.2.2.2.2 j hj
/-- the state has changed -/
theorem CR.state (hC : CR h w S n r A X f m a q O B) (hW : CW w n r A X m O) (hs : StAt h1 (w + 1) S1) (fr : Frm h h1 (w + 1) 40) : CR h1 w S1 n r A X f m a q O B ∧ Frm h h1 w 329 := by
  have ho : ∀ {x : Nat}, x < w + 1 ∨ w + 41 ≤ x → h1.2 x = h.2 x := fun hx => fr.2 _ (by omega)
  refine ⟨⟨by rw [ho (by omega)]; exact hC.1, hs, by rw [ho (by omega)]; exact hC.2.2.1, by rw [ho (by omega)]; exact hC.2.2.2.1, fun j hj => ?_, by rw [ho (by omega)]; exact hC.2.2.2.2.2.1, by rw [ho (by omega)]; exact hC.2.2.2.2.2.2.1, hC.2.2.2.2.2.2.2.keep (fun x z1 z2 => ho (by omega))⟩, fr.up (by omega) (by omega)⟩
  have := hW.rng hj
  exact (hC.2.2.2.2.1 j hj).keep (fun x z1 z2 => ho (by omega))
theorem nI_min {n : Nat} (hn : n ≤ 6) : kmin (nI n + 1) 6 = nI (min (n + 1) 6) := by
  rcases (by omega : n = 0 ∨ n = 1 ∨ n = 2 ∨ n = 3 ∨ n = 4 ∨ n = 5 ∨ n = 6) with z | z | z | z | z | z | z <;> subst z <;> decide
/-- what was kept aside is recorded -/
theorem CR.rec (hC : CR h w S n r A X f m a q O B) (hW : CW w n r A X m O) (e : h1 = hset h (w + 41) A r (kmin (nI n + 1) 6)) : CR h1 w S (min (n + 1) 6) (va_up (rsh r 0) 0 (A 1)) (va_up A 1 (r 5)) (fun j => if j = 0 then X 6 else X (j - 1)) f m a q O B ∧ CW w (min (n + 1) 6) (va_up (rsh r 0) 0 (A 1)) (va_up A 1 (r 5)) (fun j => if j = 0 then X 6 else X (j - 1)) m O ∧ Frm h h1 w 329 := by
  have hA0 := hW.2.2.1
  have ho : ∀ {x : Nat}, x ≠ w + 41 → x ≠ w + 42 → h1.2 x = h.2 x := fun z1 z2 => by rw [e, hset, hput_ne _ _ z1, hput_ne _ _ (by rw [hA0]; exact z2)]
  have hps : ∀ j, j < 7 → ∃ i, i < 7 ∧ i = (if j = 0 then 6 else j - 1) ∧ pos (va_up (rsh r 0) 0 (A 1)) (va_up A 1 (r 5) 1) j = pos r (A 1) i := fun j hj => by
    refine ⟨if j = 0 then 6 else j - 1, by split <;> omega, rfl, ?_⟩
    by_cases h0 : j = 0
    · subst h0; rw [if_pos rfl, pos_6]; simp [pos, va_up]
    · rw [if_neg h0, pos_lt (show j - 1 < 6 by omega)]
      by_cases h6 : j < 6
      · rw [pos_lt h6]; simp [va_up, h0, rsh, h6, Nat.pos_of_ne_zero h0]
      · have : j = 6 := by omega
        subst this
        rw [pos_6]; simp [va_up]
  have hX : ∀ j, (if j = 0 then X 6 else X (j - 1)) = X (if j = 0 then 6 else j - 1) := fun j => by split <;> rfl
  refine ⟨⟨by rw [ho (by omega) (by omega)]; exact hC.1, hC.2.1.keep (fun x z1 z2 => ho (by omega) (by omega)), ?_, ?_, fun j hj => ?_, by rw [ho (by omega) (by omega)]; exact hC.2.2.2.2.2.1, by rw [ho (by omega) (by omega)]; exact hC.2.2.2.2.2.2.1, hC.2.2.2.2.2.2.2.keep (fun x z1 z2 => ho (by omega) (by omega))⟩, ⟨by omega, hW.2.1, by simp [va_up, hA0], hW.2.2.2.1, fun j hj => ?_, fun i j hi hj hp => ?_, fun j hj => ?_⟩, by rw [e]; rfl, fun x hx => ho (by omega) (by omega)⟩
  · rw [e, hset, hput_at, nI_min hW.1]
  · rw [e, hset, hput_ne _ _ (by omega), hA0, hput_at]
  · obtain ⟨i, hi, ei, ep⟩ := hps j hj
    rw [ep]
    show StAt h1 (pos r (A 1) i) (if j = 0 then X 6 else X (j - 1))
    rw [hX, ← ei]
    have := hW.rng hi
    exact (hC.2.2.2.2.1 i hi).keep (fun x z1 z2 => ho (by omega) (by omega))
  · obtain ⟨i, hi, ei, ep⟩ := hps j hj
    rw [ep]
    exact hW.2.2.2.2.1 i hi
  · obtain ⟨i1, hi1, ei1, ep1⟩ := hps i hi
    obtain ⟨i2, hi2, ei2, ep2⟩ := hps j hj
    rw [ep1, ep2] at hp
    have := hW.2.2.2.2.2.1 i1 i2 hi1 hi2 hp
    rw [ei1, ei2] at this
    split at this <;> split at this <;> omega
  · show sBz (if j = 0 then X 6 else X (j - 1))
    rw [hX]
    exact hW.2.2.2.2.2.2 _ (by split <;> omega)
/-- the latest state comes back -/
theorem CR.back (hC : CR h w S n r A X f m a q O B) (hW : CW w n r A X m O) (hn : n ≠ 0) (e : h1 = hback (sput h (w + 1) (X 0)) (w + 41) A r (nI n - 1)) : CR h1 w (X 0) (n - 1) (va_up (lsh r 5) 5 (r 0)) A (fun j => if j < 5 then X (j + 1) else if j = 5 then X 0 else X j) f m a q O B ∧ CW w (n - 1) (va_up (lsh r 5) 5 (r 0)) A (fun j => if j < 5 then X (j + 1) else if j = 5 then X 0 else X j) m O ∧ Frm h h1 w 329 := by
  have hA0 := hW.2.2.1
  have ho : ∀ {x : Nat}, x ≠ w + 41 → x ≠ w + 42 → (x < w + 1 ∨ w + 41 ≤ x) → h1.2 x = h.2 x := fun z1 z2 z3 => by rw [e, hback, hput_ne _ _ z1, hput_ne _ _ (by rw [hA0]; exact z2), sput_out _ _ _ (by omega)]
  have hps : ∀ j, j < 7 → ∃ i, i < 7 ∧ i = (if j < 5 then j + 1 else if j = 5 then 0 else j) ∧ pos (va_up (lsh r 5) 5 (r 0)) (A 1) j = pos r (A 1) i := fun j hj => by
    refine ⟨if j < 5 then j + 1 else if j = 5 then 0 else j, by split <;> (try split) <;> omega, rfl, ?_⟩
    by_cases h0 : j < 5
    · rw [if_pos h0, pos_lt (show j < 6 by omega), pos_lt (show j + 1 < 6 by omega)]
      simp [va_up, lsh, h0, show j ≠ 5 by omega]
    · rw [if_neg h0]
      by_cases h5 : j = 5
      · subst h5; simp [pos, va_up]
      · rw [if_neg h5]
        have : j = 6 := by omega
        subst this
        rw [pos_6, pos_6]
  have hX : ∀ j, (if j < 5 then X (j + 1) else if j = 5 then X 0 else X j) = X (if j < 5 then j + 1 else if j = 5 then 0 else j) := fun j => by split <;> (try split) <;> rfl
  refine ⟨⟨by rw [ho (by omega) (by omega) (by omega)]; exact hC.1, ?_, ?_, ?_, fun j hj => ?_, by rw [ho (by omega) (by omega) (by omega)]; exact hC.2.2.2.2.2.1, by rw [ho (by omega) (by omega) (by omega)]; exact hC.2.2.2.2.2.2.1, hC.2.2.2.2.2.2.2.keep (fun x z1 z2 => ho (by omega) (by omega) (by omega))⟩, ⟨by have := hW.1; omega, hW.2.1, hA0, hW.2.2.2.1, fun j hj => ?_, fun i j hi hj hp => ?_, fun j hj => ?_⟩, by rw [e]; rfl, fun x hx => ho (by omega) (by omega) (by omega)⟩
  · exact (sput_at h (w + 1) (X 0)).keep (fun x z1 z2 => by rw [e, hback, hput_ne _ _ (by omega), hput_ne _ _ (by rw [hA0]; omega)])
  · rw [e, hback, hput_at]
    obtain ⟨k, rfl⟩ : ∃ k, n = k + 1 := ⟨n - 1, by omega⟩
    rw [nI_p]
    rfl
  · rw [e, hback, hput_ne _ _ (by omega), hA0, hput_at]
  · obtain ⟨i, hi, ei, ep⟩ := hps j hj
    rw [ep]
    show StAt h1 (pos r (A 1) i) (if j < 5 then X (j + 1) else if j = 5 then X 0 else X j)
    rw [hX, ← ei]
    have := hW.rng hi
    exact (hC.2.2.2.2.1 i hi).keep (fun x z1 z2 => ho (by omega) (by omega) (by omega))
  · obtain ⟨i, hi, ei, ep⟩ := hps j hj
    rw [ep]
    exact hW.2.2.2.2.1 i hi
  · obtain ⟨i1, hi1, ei1, ep1⟩ := hps i hi
    obtain ⟨i2, hi2, ei2, ep2⟩ := hps j hj
    rw [ep1, ep2] at hp
    have := hW.2.2.2.2.2.1 i1 i2 hi1 hi2 hp
    rw [ei1, ei2] at this
    split at this <;> (try split at this) <;> (try split at this) <;> (try split at this) <;> omega
  · show sBz (if j < 5 then X (j + 1) else if j = 5 then X 0 else X j)
    rw [hX]
    exact hW.2.2.2.2.2.2 _ (by split <;> (try split) <;> omega)
theorem CR.sgn {f1 : Nat → Int32} (hC : CR h w S n r A X f m a q O B) (hW : CW w n r A X m O) (e : h1 = hput h (O 0) (.inl (0, 100, .inl f1))) : CR h1 w S n r A X f1 m a q O B ∧ Frm h h1 w 329 := by
  rw [hW.2.2.2.1] at e
  have ho : ∀ {x : Nat}, x ≠ w + 324 → h1.2 x = h.2 x := fun hx => by rw [e, hput_ne _ _ hx]
  refine ⟨⟨by rw [ho (by omega)]; exact hC.1, hC.2.1.keep (fun x z1 z2 => ho (by omega)), by rw [ho (by omega)]; exact hC.2.2.1, by rw [ho (by omega)]; exact hC.2.2.2.1, fun j hj => ?_, by rw [ho (by omega)]; exact hC.2.2.2.2.2.1, by rw [e]; exact hput_at _ _ _, hC.2.2.2.2.2.2.2.keep (fun x z1 z2 => ho (by omega))⟩, by rw [e]; rfl, fun x hx => ho (by omega)⟩
  have := hW.rng hj
  exact (hC.2.2.2.2.1 j hj).keep (fun x z1 z2 => ho (by omega))
theorem CR.rts {B1 : Bm} (hC : CR h w S n r A X f m a q O B) (hW : CW w n r A X m O) (hs : RtAt h1 (w + 325) B1) (fr : Frm h h1 (w + 325) 4) : CR h1 w S n r A X f m a q O B1 ∧ Frm h h1 w 329 := by
  have ho : ∀ {x : Nat}, x < w + 325 ∨ w + 329 ≤ x → h1.2 x = h.2 x := fun hx => fr.2 _ (by omega)
  refine ⟨⟨by rw [ho (by omega)]; exact hC.1, hC.2.1.keep (fun x z1 z2 => ho (by omega)), by rw [ho (by omega)]; exact hC.2.2.1, by rw [ho (by omega)]; exact hC.2.2.2.1, fun j hj => ?_, by rw [ho (by omega)]; exact hC.2.2.2.2.2.1, by rw [ho (by omega)]; exact hC.2.2.2.2.2.2.1, hs⟩, fr.up (by omega) (by omega)⟩
  have := hW.rng hj
  exact (hC.2.2.2.2.1 j hj).keep (fun x z1 z2 => ho (by omega))
end CRS
/-- state, how many are recorded, the recorded, text, its length -/
abbrev Cm : Type := Sm × Nat × (Nat → Sm) × (Nat → Int32) × Nat
def CAt (h : AH) (w : Nat) (C : Cm) : Prop := ∃ (r A : Nat → Nat) (X : Nat → Sm) (a : Nat) (q : Nat → Int32) (O : Nat → Nat) (B : Bm), CR h w C.1 C.2.1 r A X C.2.2.2.1 C.2.2.2.2 a q O B ∧ CW w C.2.1 r A X C.2.2.2.2 O ∧ ∀ j, j < C.2.1 → X j = C.2.2.1 j
/-- an action has answered v -/
def cact (C : Cm) (v : Int32) (S : Sm) : Cm := if 0 ≤ v then (S, min (C.2.1 + 1) 6, (fun j => if j = 0 then C.1 else C.2.2.1 (j - 1)), C.2.2.2) else (S, C.2)
def cundo (C : Cm) : Int32 × Cm := if C.2.1 = 0 then (-2, C) else (nI (C.2.1 - 1), (C.2.2.1 0, C.2.1 - 1, (fun j => C.2.2.1 (j + 1)), C.2.2.2))
theorem act_fin {h h2 h3 : AH} {w a : Nat} {r A O : Nat → Nat} {X : Nat → Sm} {q : Nat → Int32} {B : Bm} {C : Cm} {S1 : Sm} {f1 : Nat → Int32} {m1 : Nat} {v : Int32} (hC : CR h2 w S1 C.2.1 r A (fun j => if j = 6 then C.1 else X j) f1 m1 a q O B) (hW : CW w C.2.1 r A (fun j => if j = 6 then C.1 else X j) m1 O) (hV : ∀ j, j < C.2.1 → X j = C.2.2.1 j) (e3 : h3 = if 0 ≤ v then hset h2 (w + 41) A r (kmin (nI C.2.1 + 1) 6) else h2) (fr : Frm h h2 w 329) : CAt h3 w (cact (C.1, C.2.1, C.2.2.1, f1, m1) v S1) ∧ Frm h h3 w 329 := by
  have hn := hW.1
  by_cases hv : 0 ≤ v
  · rw [if_pos hv] at e3
    obtain ⟨g1, g2, g3⟩ := hC.rec hW e3
    refine ⟨?_, fr.tr g3⟩
    unfold cact
    rw [if_pos hv]
    refine ⟨_, _, _, _, _, _, _, g1, g2, fun j hj => ?_⟩
    show (if j = 0 then (if (6 : Nat) = 6 then C.1 else X 6) else (if j - 1 = 6 then C.1 else X (j - 1))) = if j = 0 then C.1 else C.2.2.1 (j - 1)
    have hj : j < min (C.2.1 + 1) 6 := hj
    by_cases h0 : j = 0
    · rw [if_pos h0, if_pos h0, if_pos rfl]
    · rw [if_neg h0, if_neg h0, if_neg (by omega), hV _ (by omega)]
  · rw [if_neg hv] at e3
    refine ⟨?_, e3 ▸ fr⟩
    unfold cact
    rw [if_neg hv, e3]
    refine ⟨_, _, _, _, _, _, _, hC, hW, fun j hj => ?_⟩
    show (if j = 6 then C.1 else X j) = C.2.2.1 j
    have hj : j < C.2.1 := hj
    rw [if_neg (by omega), hV _ hj]
section LV17
variable {l : Launch} {D : va_G} {cA : Nat → ClassId} {N0 : Nat} {h : AH} {w : Nat} {C : Cm}
end LV17
