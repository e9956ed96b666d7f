/-! ORDERS of the class: the text and its reader -/
/-- the reader's fields: length n, place a, letter and numbers q -/
def orF (n a : Nat) (q : Nat → Int32) : Nat → Int32 := fun j => if j = 1 then nI n else if j = 2 then nI a else q (j - 3)
theorem ob3_ext {A : Nat → Nat} {F1 F2 : Nat → Int32} (e : ∀ j, 1 ≤ j → j < 7 → F1 j = F2 j) : ob3 A F1 = ob3 A F2 := by
  simp only [ob3, e 1 (by decide) (by decide), e 2 (by decide) (by decide), e 3 (by decide) (by decide), e 4 (by decide) (by decide), e 5 (by decide) (by decide), e 6 (by decide) (by decide)]
theorem or_at {A : Nat → Nat} {n a : Nat} {q : Nat → Int32} (b : Nat) : ob3 A (upd (orF n a q) 2 (nI b)) = ob3 A (orF n b q) := ob3_ext (fun j h1 h2 => by
  rcases (by omega : j = 1 ∨ j = 2 ∨ j = 3 ∨ j = 4 ∨ j = 5 ∨ j = 6) with e | e | e | e | e | e <;> subst e <;> rfl)
theorem or_len {A : Nat → Nat} {n a : Nat} {q : Nat → Int32} (b : Nat) : ob3 A (upd (orF n a q) 1 (nI b)) = ob3 A (orF b a q) := ob3_ext (fun j h1 h2 => by
  rcases (by omega : j = 1 ∨ j = 2 ∨ j = 3 ∨ j = 4 ∨ j = 5 ∨ j = 6) with e | e | e | e | e | e <;> subst e <;> rfl)
theorem or_q {A : Nat → Nat} {n a : Nat} {q : Nat → Int32} (k : Nat) (hk : k < 4) (v : Int32) : ob3 A (upd (orF n a q) (k + 3) v) = ob3 A (orF n a (upd q k v)) := ob3_ext (fun j h1 h2 => by
  rcases (by omega : k = 0 ∨ k = 1 ∨ k = 2 ∨ k = 3) with e | e | e | e <;> subst e <;> rcases (by omega : j = 1 ∨ j = 2 ∨ j = 3 ∨ j = 4 ∨ j = 5 ∨ j = 6) with e | e | e | e | e | e <;> subst e <;> rfl)
section LV13
variable {l : Launch} {D : va_G} {cA : Nat → ClassId} {N0 : Nat} {h : AH} {u : Nat} {A : Nat → Nat} {n a : Nat} {q : Nat → Int32} {f : Nat → Int32}
set_option maxHeartbeats 4000000 in
set_option maxRecDepth 100000 in
theorem c_X4_length (ho : h.2 u = some (.inr (3, ob3 A (orF n a q))))  : Spec l D cA N0 m_X4_length 0 0 0 [.ref u] h (fun r h' => r = some (.int (nI n)) ∧ h' = h) := by
  refine Spec.of (L := [some (.ref u)]) (by decide) rfl (Nat.le_of_ble_eq_true rfl) ?_
  refine R_aload_n0 (pc := 0) dX4_length_0 ?_
  refine G_X4_15 (pc := 1) dX4_length_1 (by assumption) ?_
  refine R_iret (pc := 4) rfl rfl dX4_length_4 ?_
  exact ⟨rfl, rfl⟩

end LV13
