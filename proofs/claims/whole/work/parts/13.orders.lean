/-! ORDERS of the class: the text and its reader -/
/-- the reader's fields: length n, place a, letter and numbers q -/
def orF (n a : Nat) (q : Nat → Int32) : Nat → Int32 := fun j => if j = 1 then nI n else if j = 2 then nI a else q (j - 3)
theorem ob3_ext {A : Nat → Nat} {F1 F2 : Nat → Int32} (e : ∀ j, 1 ≤ j → j < 7 → F1 j = F2 j) : ob3 A F1 = ob3 A F2 := by
  simp only [ob3, e 1 (by decide) (by decide), e 2 (by decide) (by decide), e 3 (by decide) (by decide), e 4 (by decide) (by decide), e 5 (by decide) (by decide), e 6 (by decide) (by decide)]
theorem or_at {A : Nat → Nat} {n a : Nat} {q : Nat → Int32} (b : Nat) : ob3 A (upd (orF n a q) 2 (nI b)) = ob3 A (orF n b q) := ob3_ext (fun j h1 h2 => by
  rcases (by omega : j = 1 ∨ j = 2 ∨ j = 3 ∨ j = 4 ∨ j = 5 ∨ j = 6) with e | e | e | e | e | e <;> subst e <;> rfl)
theorem or_len {A : Nat → Nat} {n a : Nat} {q : Nat → Int32} (b : Nat) : ob3 A (upd (orF n a q) 1 (nI b)) = ob3 A (orF b a q) := ob3_ext (fun j h1 h2 => by
  rcases (by omega : j = 1 ∨ j = 2 ∨ j = 3 ∨ j = 4 ∨ j = 5 ∨ j = 6) with e | e | e | e | e | e <;> subst e <;> rfl)
theorem or_q {A : Nat → Nat} {n a : Nat} {q : Nat → Int32} (k : Nat) (hk : k < 4) (v : Int32) : ob3 A (upd (orF n a q) (k + 3) v) = ob3 A (orF n a (upd q k v)) := ob3_ext (fun j h1 h2 => by
  rcases (by omega : k = 0 ∨ k = 1 ∨ k = 2 ∨ k = 3) with e | e | e | e <;> subst e <;> rcases (by omega : j = 1 ∨ j = 2 ∨ j = 3 ∨ j = 4 ∨ j = 5 ∨ j = 6) with e | e | e | e | e | e <;> subst e <;> rfl)
def sg (f : Nat → Int32) (n a : Nat) : Int32 := if a < n then f a else -1
def pdig (x : Int32) : Bool := decide (48 ≤ x ∧ x ≤ 57)
def pnof (x : Int32) : Int32 := if x = 101 then 0 else if x = 120 then 1 else if x = 116 ∨ x = 115 ∨ x = 103 ∨ x = 114 then 2 else if x = 102 then 3 else -1
def pnum (c : Nat → Int32) : Nat → Int32 → Nat → Int32 × Nat
  | 0, v, a => (v, a)
  | m + 1, v, a => if pdig (c a) = true then pnum c m (v * 10 + c a - 48) (a + 1) else (v, a)
theorem pnum_s (c : Nat → Int32) (m : Nat) (v : Int32) (a : Nat) : pnum c (m + 1) v a = if pdig (c a) = true then pnum c m (v * 10 + c a - 48) (a + 1) else (v, a) := rfl
def pmost (x : Int32) : Nat := if x = 48 then 1 else 6
/-- the numbers of an order from the i-th on; whether they are there, and where it ends -/
def pargs (c : Nat → Int32) : Nat → Nat → Nat → (Nat → Int32) → Bool × Nat × (Nat → Int32)
  | 0, _, a, q => (true, a, q)
  | m + 1, i, a, q =>
    if i = 0 then (if pdig (c a) = true then pargs c m (i + 1) (pnum c (pmost (c a)) 0 a).2 (upd q (i + 1) (pnum c (pmost (c a)) 0 a).1) else (false, a, q))
    else if c a = 44 then (if pdig (c (a + 1)) = true then pargs c m (i + 1) (pnum c (pmost (c (a + 1))) 0 (a + 1)).2 (upd q (i + 1) (pnum c (pmost (c (a + 1))) 0 (a + 1)).1) else (false, a + 1, q))
    else (false, a, q)
theorem pargs_s (c : Nat → Int32) (m i a : Nat) (q : Nat → Int32) : pargs c (m + 1) i a q = if i = 0 then (if pdig (c a) = true then pargs c m (i + 1) (pnum c (pmost (c a)) 0 a).2 (upd q (i + 1) (pnum c (pmost (c a)) 0 a).1) else (false, a, q)) else if c a = 44 then (if pdig (c (a + 1)) = true then pargs c m (i + 1) (pnum c (pmost (c (a + 1))) 0 (a + 1)).2 (upd q (i + 1) (pnum c (pmost (c (a + 1))) 0 (a + 1)).1) else (false, a + 1, q)) else (false, a, q) := rfl
def pcnt (x : Int32) : Nat := (pnof x).toNatClampNeg
def pord (c : Nat → Int32) (a : Nat) (q : Nat → Int32) : Bool × Nat × (Nat → Int32) := if pnof (c a) = -1 then (false, a, upd q 0 (c a)) else pargs c (pcnt (c a)) 0 (a + 1) (upd q 0 (c a))
theorem pnof_n (x : Int32) : pnof x = -1 ∨ (pcnt x ≤ 3 ∧ pnof x = nI (pcnt x)) := by
  unfold pcnt pnof
  repeat' split
  all_goals first | exact Or.inl rfl | exact Or.inr ⟨by decide, rfl⟩
section LV13
variable {l : Launch} {D : va_G} {cA : Nat → ClassId} {N0 : Nat} {h : AH} {u : Nat} {A : Nat → Nat} {n a : Nat} {q : Nat → Int32} {f : Nat → Int32}
set_option maxHeartbeats 4000000 in
set_option maxRecDepth 100000 in
theorem c_X4_length (ho : h.2 u = some (.inr (3, ob3 A (orF n a q))))  : Spec l D cA N0 m_X4_length 0 0 0 [.ref u] h (fun r h' => r = some (.int (nI n)) ∧ h' = h) := by
  refine Spec.of (L := [some (.ref u)]) (by decide) rfl (Nat.le_of_ble_eq_true rfl) ?_
  refine R_aload_n0 (pc := 0) dX4_length_0 ?_
  refine G_X4_15 (pc := 1) dX4_length_1 (by assumption) ?_
  refine R_iret (pc := 4) rfl rfl dX4_length_4 ?_
  exact ⟨rfl, rfl⟩

set_option maxHeartbeats 4000000 in
set_option maxRecDepth 100000 in
theorem c_X4_dropSigns (ho : h.2 u = some (.inr (3, ob3 A (orF n a q))))  : Spec l D cA N0 m_X4_dropSigns 0 0 0 [.ref u] h (fun r h' => r = some (.int (nI n)) ∧ h' = hput h u (.inr (3, ob3 A (orF 0 a q)))) := by
  refine Spec.of (L := [some (.ref u), none]) (by decide) rfl (Nat.le_of_ble_eq_true rfl) ?_
  refine R_aload_n0 (pc := 0) dX4_dropSigns_0 ?_
  refine G_X4_15 (pc := 1) dX4_dropSigns_1 (by assumption) ?_
  refine R_istore_n1 (pc := 4) dX4_dropSigns_4 rfl (by decide) ?_
  refine R_aload_n0 (pc := 5) dX4_dropSigns_5 ?_
  refine R_iconst (pc := 6) (v := 0) dX4_dropSigns_6 (by decide) ?_
  refine P_X4_15 (pc := 7) dX4_dropSigns_7 (by assumption) (fun h1 e1 f1 => ?_)
  refine R_iload_n1 (pc := 10) dX4_dropSigns_10 ?_
  refine R_iret (pc := 11) rfl rfl dX4_dropSigns_11 ?_
  exact ⟨rfl, by rw [e1, ← or_len (n := n)]; rfl⟩

set_option maxHeartbeats 4000000 in
set_option maxRecDepth 100000 in
theorem c_X4_rewind (ho : h.2 u = some (.inr (3, ob3 A (orF n a q))))  : Spec l D cA N0 m_X4_rewind 0 0 0 [.ref u] h (fun r h' => r = none ∧ h' = hput h u (.inr (3, ob3 A (orF n 0 q)))) := by
  refine Spec.of (L := [some (.ref u)]) (by decide) rfl (Nat.le_of_ble_eq_true rfl) ?_
  refine R_aload_n0 (pc := 0) dX4_rewind_0 ?_
  refine R_iconst (pc := 1) (v := 0) dX4_rewind_1 (by decide) ?_
  refine P_X4_19 (pc := 2) dX4_rewind_2 (by assumption) (fun h1 e1 f1 => ?_)
  refine R_vret (pc := 5) rfl dX4_rewind_5 ?_
  exact ⟨rfl, by rw [e1, ← or_at (a := a)]; rfl⟩

set_option maxHeartbeats 4000000 in
set_option maxRecDepth 100000 in
theorem c_X4_atEnd (ho : h.2 u = some (.inr (3, ob3 A (orF n a q)))) (hn : n < 2 ^ 31) (ha : a < 2 ^ 31) : Spec l D cA N0 m_X4_atEnd 0 0 0 [.ref u] h (fun r h' => r = some (.int (bI (n ≤ a))) ∧ h' = h) := by
  refine Spec.of (L := [some (.ref u)]) (by decide) rfl (Nat.le_of_ble_eq_true rfl) ?_
  refine R_aload_n0 (pc := 0) dX4_atEnd_0 ?_
  refine G_X4_19 (pc := 1) dX4_atEnd_1 (by assumption) ?_
  refine R_aload_n0 (pc := 4) dX4_atEnd_4 ?_
  refine G_X4_15 (pc := 5) dX4_atEnd_5 (by assumption) ?_
  refine R_icmp_lt (pc := 8) 15 dX4_atEnd_8 (by decide) (fun c_8 => ?_) (fun c_8 => ?_)
  · skip
    have d_8 := Int32.not_le.mpr c_8
    have c_8x : ¬ nI n ≤ nI a := d_8
    refine R_iconst (pc := 15) (v := 0) dX4_atEnd_15 (by decide) ?_
    refine R_iret (pc := 16) rfl rfl dX4_atEnd_16 ?_
    exact ⟨by rw [bI_f (fun z => c_8x ((nI_leI hn ha).mpr z))], rfl⟩
  · skip
    have d_8 := Int32.not_lt.mp c_8
    refine R_iconst (pc := 11) (v := 1) dX4_atEnd_11 (by decide) ?_
    refine R_goto (pc := 12) 16 dX4_atEnd_12 (by decide) ?_
    refine R_iret (pc := 16) rfl rfl dX4_atEnd_16 ?_
    exact ⟨by rw [bI_t ((nI_leI hn ha).mp d_8)], rfl⟩

set_option maxHeartbeats 4000000 in
set_option maxRecDepth 100000 in
theorem c_X4_isDigit {x : Int32} : Spec l D cA N0 m_X4_isDigit 0 0 0 [.int x] h (fun r h' => r = some (.int (bI (pdig x = true))) ∧ h' = h) := by
  refine Spec.of (L := [some (.int x)]) (by decide) rfl (Nat.le_of_ble_eq_true rfl) ?_
  refine R_iload_n0 (pc := 0) dX4_isDigit_0 ?_
  refine R_bipush (pc := 1) (v := 48) dX4_isDigit_1 (by decide) ?_
  refine R_icmp_lt (pc := 3) 16 dX4_isDigit_3 (by decide) (fun c_3 => ?_) (fun c_3 => ?_)
  · skip
    have d_3 := Int32.not_le.mpr c_3
    refine R_iconst (pc := 16) (v := 0) dX4_isDigit_16 (by decide) ?_
    refine R_iret (pc := 17) rfl rfl dX4_isDigit_17 ?_
    exact ⟨by rw [bI_f (fun z => by have z := of_decide_eq_true z; exact d_3 z.1)], rfl⟩
  · skip
    have d_3 := Int32.not_lt.mp c_3
    refine R_iload_n0 (pc := 6) dX4_isDigit_6 ?_
    refine R_bipush (pc := 7) (v := 57) dX4_isDigit_7 (by decide) ?_
    refine R_icmp_gt (pc := 9) 16 dX4_isDigit_9 (by decide) (fun c_9 => ?_) (fun c_9 => ?_)
    · skip
      have d_9 := Int32.not_le.mpr c_9
      refine R_iconst (pc := 16) (v := 0) dX4_isDigit_16 (by decide) ?_
      refine R_iret (pc := 17) rfl rfl dX4_isDigit_17 ?_
      exact ⟨by rw [bI_f (fun z => by have z := of_decide_eq_true z; exact d_9 z.2)], rfl⟩
    · skip
      have d_9 := Int32.not_lt.mp c_9
      refine R_iconst (pc := 12) (v := 1) dX4_isDigit_12 (by decide) ?_
      refine R_goto (pc := 13) 17 dX4_isDigit_13 (by decide) ?_
      refine R_iret (pc := 17) rfl rfl dX4_isDigit_17 ?_
      exact ⟨by rw [bI_t (show pdig x = true from decide_eq_true ⟨d_3, d_9⟩)], rfl⟩

set_option maxHeartbeats 4000000 in
set_option maxRecDepth 100000 in
theorem c_X4_numbersOf {x : Int32} : Spec l D cA N0 m_X4_numbersOf 0 0 0 [.int x] h (fun r h' => r = some (.int (pnof x)) ∧ h' = h) := by
  refine Spec.of (L := [some (.int x)]) (by decide) rfl (Nat.le_of_ble_eq_true rfl) ?_
  refine R_iload_n0 (pc := 0) dX4_numbersOf_0 ?_
  refine R_swG (pc := 1) (lo := 101) (hi := 120) 104 dX4_numbersOf_1 (by decide) (fun c_1 => ?_) (fun c_1 c_1b => ?_)
  · skip
    refine R_iconst (pc := 104) (v := (-1)) dX4_numbersOf_104 (by decide) ?_
    refine R_iret (pc := 105) rfl rfl dX4_numbersOf_105 ?_
    exact ⟨by simp only [pnof, sw_ne c_1 (v := 101) (by decide), sw_ne c_1 (v := 102) (by decide), sw_ne c_1 (v := 103) (by decide), sw_ne c_1 (v := 114) (by decide), sw_ne c_1 (v := 115) (by decide), sw_ne c_1 (v := 116) (by decide), sw_ne c_1 (v := 120) (by decide), reduceCtorEq, if_true, if_false, reduceIte, and_true, true_and, and_false, false_and, and_self, or_true, true_or, or_false, false_or, or_self, not_true, not_false_iff], rfl⟩
  · skip
    rcases sw_101_120 _ c_1 c_1b with c_1 | c_1 | c_1 | c_1 | c_1 | c_1 | c_1 | c_1 | c_1 | c_1 | c_1 | c_1 | c_1 | c_1 | c_1 | c_1 | c_1 | c_1 | c_1 | c_1
    · skip
      refine R_swE (pc := 1) (v := 101) (off := 95) 96 dX4_numbersOf_1 c_1 (by decide) (by decide) (by decide) (by decide) ?_
      refine R_iconst (pc := 96) (v := 0) dX4_numbersOf_96 (by decide) ?_
      refine R_iret (pc := 97) rfl rfl dX4_numbersOf_97 ?_
      exact ⟨by rw [c_1]; rfl, rfl⟩
    · skip
      refine R_swE (pc := 1) (v := 102) (off := 101) 102 dX4_numbersOf_1 c_1 (by decide) (by decide) (by decide) (by decide) ?_
      refine R_iconst (pc := 102) (v := 3) dX4_numbersOf_102 (by decide) ?_
      refine R_iret (pc := 103) rfl rfl dX4_numbersOf_103 ?_
      exact ⟨by rw [c_1]; rfl, rfl⟩
    · skip
      refine R_swE (pc := 1) (v := 103) (off := 99) 100 dX4_numbersOf_1 c_1 (by decide) (by decide) (by decide) (by decide) ?_
      refine R_iconst (pc := 100) (v := 2) dX4_numbersOf_100 (by decide) ?_
      refine R_iret (pc := 101) rfl rfl dX4_numbersOf_101 ?_
      exact ⟨by rw [c_1]; rfl, rfl⟩
    · skip
      refine R_swE (pc := 1) (v := 104) (off := 103) 104 dX4_numbersOf_1 c_1 (by decide) (by decide) (by decide) (by decide) ?_
      refine R_iconst (pc := 104) (v := (-1)) dX4_numbersOf_104 (by decide) ?_
      refine R_iret (pc := 105) rfl rfl dX4_numbersOf_105 ?_
      exact ⟨by rw [c_1]; rfl, rfl⟩
    · skip
      refine R_swE (pc := 1) (v := 105) (off := 103) 104 dX4_numbersOf_1 c_1 (by decide) (by decide) (by decide) (by decide) ?_
      refine R_iconst (pc := 104) (v := (-1)) dX4_numbersOf_104 (by decide) ?_
      refine R_iret (pc := 105) rfl rfl dX4_numbersOf_105 ?_
      exact ⟨by rw [c_1]; rfl, rfl⟩
    · skip
      refine R_swE (pc := 1) (v := 106) (off := 103) 104 dX4_numbersOf_1 c_1 (by decide) (by decide) (by decide) (by decide) ?_
      refine R_iconst (pc := 104) (v := (-1)) dX4_numbersOf_104 (by decide) ?_
      refine R_iret (pc := 105) rfl rfl dX4_numbersOf_105 ?_
      exact ⟨by rw [c_1]; rfl, rfl⟩
    · skip
      refine R_swE (pc := 1) (v := 107) (off := 103) 104 dX4_numbersOf_1 c_1 (by decide) (by decide) (by decide) (by decide) ?_
      refine R_iconst (pc := 104) (v := (-1)) dX4_numbersOf_104 (by decide) ?_
      refine R_iret (pc := 105) rfl rfl dX4_numbersOf_105 ?_
      exact ⟨by rw [c_1]; rfl, rfl⟩
    · skip
      refine R_swE (pc := 1) (v := 108) (off := 103) 104 dX4_numbersOf_1 c_1 (by decide) (by decide) (by decide) (by decide) ?_
      refine R_iconst (pc := 104) (v := (-1)) dX4_numbersOf_104 (by decide) ?_
      refine R_iret (pc := 105) rfl rfl dX4_numbersOf_105 ?_
      exact ⟨by rw [c_1]; rfl, rfl⟩
    · skip
      refine R_swE (pc := 1) (v := 109) (off := 103) 104 dX4_numbersOf_1 c_1 (by decide) (by decide) (by decide) (by decide) ?_
      refine R_iconst (pc := 104) (v := (-1)) dX4_numbersOf_104 (by decide) ?_
      refine R_iret (pc := 105) rfl rfl dX4_numbersOf_105 ?_
      exact ⟨by rw [c_1]; rfl, rfl⟩
    · skip
      refine R_swE (pc := 1) (v := 110) (off := 103) 104 dX4_numbersOf_1 c_1 (by decide) (by decide) (by decide) (by decide) ?_
      refine R_iconst (pc := 104) (v := (-1)) dX4_numbersOf_104 (by decide) ?_
      refine R_iret (pc := 105) rfl rfl dX4_numbersOf_105 ?_
      exact ⟨by rw [c_1]; rfl, rfl⟩
    · skip
      refine R_swE (pc := 1) (v := 111) (off := 103) 104 dX4_numbersOf_1 c_1 (by decide) (by decide) (by decide) (by decide) ?_
      refine R_iconst (pc := 104) (v := (-1)) dX4_numbersOf_104 (by decide) ?_
      refine R_iret (pc := 105) rfl rfl dX4_numbersOf_105 ?_
      exact ⟨by rw [c_1]; rfl, rfl⟩
    · skip
      refine R_swE (pc := 1) (v := 112) (off := 103) 104 dX4_numbersOf_1 c_1 (by decide) (by decide) (by decide) (by decide) ?_
      refine R_iconst (pc := 104) (v := (-1)) dX4_numbersOf_104 (by decide) ?_
      refine R_iret (pc := 105) rfl rfl dX4_numbersOf_105 ?_
      exact ⟨by rw [c_1]; rfl, rfl⟩
    · skip
      refine R_swE (pc := 1) (v := 113) (off := 103) 104 dX4_numbersOf_1 c_1 (by decide) (by decide) (by decide) (by decide) ?_
      refine R_iconst (pc := 104) (v := (-1)) dX4_numbersOf_104 (by decide) ?_
      refine R_iret (pc := 105) rfl rfl dX4_numbersOf_105 ?_
      exact ⟨by rw [c_1]; rfl, rfl⟩
    · skip
      refine R_swE (pc := 1) (v := 114) (off := 99) 100 dX4_numbersOf_1 c_1 (by decide) (by decide) (by decide) (by decide) ?_
      refine R_iconst (pc := 100) (v := 2) dX4_numbersOf_100 (by decide) ?_
      refine R_iret (pc := 101) rfl rfl dX4_numbersOf_101 ?_
      exact ⟨by rw [c_1]; rfl, rfl⟩
    · skip
      refine R_swE (pc := 1) (v := 115) (off := 99) 100 dX4_numbersOf_1 c_1 (by decide) (by decide) (by decide) (by decide) ?_
      refine R_iconst (pc := 100) (v := 2) dX4_numbersOf_100 (by decide) ?_
      refine R_iret (pc := 101) rfl rfl dX4_numbersOf_101 ?_
      exact ⟨by rw [c_1]; rfl, rfl⟩
    · skip
      refine R_swE (pc := 1) (v := 116) (off := 99) 100 dX4_numbersOf_1 c_1 (by decide) (by decide) (by decide) (by decide) ?_
      refine R_iconst (pc := 100) (v := 2) dX4_numbersOf_100 (by decide) ?_
      refine R_iret (pc := 101) rfl rfl dX4_numbersOf_101 ?_
      exact ⟨by rw [c_1]; rfl, rfl⟩
    · skip
      refine R_swE (pc := 1) (v := 117) (off := 103) 104 dX4_numbersOf_1 c_1 (by decide) (by decide) (by decide) (by decide) ?_
      refine R_iconst (pc := 104) (v := (-1)) dX4_numbersOf_104 (by decide) ?_
      refine R_iret (pc := 105) rfl rfl dX4_numbersOf_105 ?_
      exact ⟨by rw [c_1]; rfl, rfl⟩
    · skip
      refine R_swE (pc := 1) (v := 118) (off := 103) 104 dX4_numbersOf_1 c_1 (by decide) (by decide) (by decide) (by decide) ?_
      refine R_iconst (pc := 104) (v := (-1)) dX4_numbersOf_104 (by decide) ?_
      refine R_iret (pc := 105) rfl rfl dX4_numbersOf_105 ?_
      exact ⟨by rw [c_1]; rfl, rfl⟩
    · skip
      refine R_swE (pc := 1) (v := 119) (off := 103) 104 dX4_numbersOf_1 c_1 (by decide) (by decide) (by decide) (by decide) ?_
      refine R_iconst (pc := 104) (v := (-1)) dX4_numbersOf_104 (by decide) ?_
      refine R_iret (pc := 105) rfl rfl dX4_numbersOf_105 ?_
      exact ⟨by rw [c_1]; rfl, rfl⟩
    · skip
      refine R_swE (pc := 1) (v := 120) (off := 97) 98 dX4_numbersOf_1 c_1 (by decide) (by decide) (by decide) (by decide) ?_
      refine R_iconst (pc := 98) (v := 1) dX4_numbersOf_98 (by decide) ?_
      refine R_iret (pc := 99) rfl rfl dX4_numbersOf_99 ?_
      exact ⟨by rw [c_1]; rfl, rfl⟩

set_option maxHeartbeats 4000000 in
set_option maxRecDepth 100000 in
theorem c_X4_signAt (ho : h.2 u = some (.inr (3, ob3 A (orF n a q)))) (hs : h.2 (A 0) = some (.inl (0, 100, .inl f))) (hn : n ≤ 100) (hne : u ≠ A 0) {b : Nat} (hb : b < 2 ^ 31) : Spec l D cA N0 m_X4_signAt 0 0 0 [.ref u, .int (nI b)] h (fun r h' => r = some (.int (sg f n b)) ∧ h' = h) := by
  refine Spec.of (L := [some (.ref u), some (.int (nI b))]) (by decide) rfl (Nat.le_of_ble_eq_true rfl) ?_
  refine R_iload_n1 (pc := 0) dX4_signAt_0 ?_
  refine R_if_lt (pc := 1) 30 dX4_signAt_1 (by decide) (fun c_1 => ?_) (fun c_1 => ?_)
  · skip
    have d_1 := Int32.not_le.mpr c_1
    have c_1x : False := absurd c_1 (nI_pos hb)
    refine R_iconst (pc := 30) (v := (-1)) dX4_signAt_30 (by decide) ?_
    refine R_iret (pc := 31) rfl rfl dX4_signAt_31 ?_
    exact ⟨by rw [sg, if_neg (fun z => by exact c_1x)], rfl⟩
  · skip
    have d_1 := Int32.not_lt.mp c_1
    refine R_iload_n1 (pc := 4) dX4_signAt_4 ?_
    refine R_aload_n0 (pc := 5) dX4_signAt_5 ?_
    refine G_X4_15 (pc := 6) dX4_signAt_6 (by assumption) ?_
    refine R_icmp_ge (pc := 9) 30 dX4_signAt_9 (by decide) (fun c_9 => ?_) (fun c_9 => ?_)
    · skip
      have d_9 := Int32.not_lt.mpr c_9
      refine R_iconst (pc := 30) (v := (-1)) dX4_signAt_30 (by decide) ?_
      refine R_iret (pc := 31) rfl rfl dX4_signAt_31 ?_
      exact ⟨by rw [sg, if_neg (fun z => by exact d_9 ((nI_ltI hb (by omega)).mpr z))], rfl⟩
    · skip
      have d_9 := Int32.not_le.mp c_9
      refine R_iload_n1 (pc := 12) dX4_signAt_12 ?_
      refine R_aload_n0 (pc := 13) dX4_signAt_13 ?_
      refine G_X4_11 (pc := 14) dX4_signAt_14 (by assumption) ?_
      refine R_alen (pc := 17) (v := 100) dX4_signAt_17 (by assumption) (by decide) rfl ?_
      refine R_icmp_ge (pc := 18) 30 dX4_signAt_18 (by decide) (fun c_18 => ?_) (fun c_18 => ?_)
      · skip
        have d_18 := Int32.not_lt.mpr c_18
        refine R_iconst (pc := 30) (v := (-1)) dX4_signAt_30 (by decide) ?_
        refine R_iret (pc := 31) rfl rfl dX4_signAt_31 ?_
        exact ⟨by rw [sg, if_neg (fun z => by exact d_18 (show nI b < nI 100 from (nI_ltI hb (by decide)).mpr (by omega)))], rfl⟩
      · skip
        have d_18 := Int32.not_le.mp c_18
        refine R_aload_n0 (pc := 21) dX4_signAt_21 ?_
        refine G_X4_11 (pc := 22) dX4_signAt_22 (by assumption) ?_
        have hbn : b < n := (nI_ltI hb (by omega)).mp (show nI b < nI n from d_9)
        refine R_iload_n1 (pc := 25) dX4_signAt_25 ?_
        refine R_iald (pc := 26) dX4_signAt_26 (by assumption) (in_n (show b < 100 by omega) (by decide)) ?_
        rw [nI_clamp hb]
        refine R_goto (pc := 27) 31 dX4_signAt_27 (by decide) ?_
        refine R_iret (pc := 31) rfl rfl dX4_signAt_31 ?_
        exact ⟨by rw [sg, if_pos hbn], rfl⟩

set_option maxHeartbeats 4000000 in
set_option maxRecDepth 100000 in
theorem c_X4_readSign (ho : h.2 u = some (.inr (3, ob3 A (orF n a q)))) (hs : h.2 (A 0) = some (.inl (0, 100, .inl f))) (hn : n ≤ 100) (hne : u ≠ A 0) (ha : a < 2 ^ 20) {w : Int32} : Spec l D cA N0 m_X4_readSign 1 0 0 [.ref u, .int w] h (fun r h' => r = some (.int (bI (sg f n a = w))) ∧ h' = if sg f n a = w then hput h u (.inr (3, ob3 A (orF n (a + 1) q))) else h) := by
  refine Spec.of (L := [some (.ref u), some (.int w)]) (by decide) rfl (Nat.le_of_ble_eq_true rfl) ?_
  refine R_aload_n0 (pc := 0) dX4_readSign_0 ?_
  refine R_aload_n0 (pc := 1) dX4_readSign_1 ?_
  refine G_X4_19 (pc := 2) dX4_readSign_2 (by assumption) ?_
  refine R_callV1 (pc := 5) (T := TX4) cal_X4_signAt kw633 kw635 kw13 dX4_readSign_5 (c_X4_signAt (by assumption) (by assumption) (by assumption) (by assumption) (by omega)) (by decide) (Nat.le_of_ble_eq_true rfl) (ci := 3) rfl (by assumption) ?_
  rintro _ _ ⟨rfl, rfl⟩
  refine R_iload_n1 (pc := 8) dX4_readSign_8 ?_
  refine R_icmp_eq (pc := 9) 14 dX4_readSign_9 (by decide) (fun c_9 => ?_) (fun c_9 => ?_)
  · skip
    refine R_aload_n0 (pc := 14) dX4_readSign_14 ?_
    refine R_dup (pc := 15) dX4_readSign_15 rfl ?_
    refine G_X4_19 (pc := 16) dX4_readSign_16 (by assumption) ?_
    refine R_iconst (pc := 19) (v := 1) dX4_readSign_19 (by decide) ?_
    refine R_iadd (pc := 20) dX4_readSign_20 ?_
    refine P_X4_19 (pc := 21) dX4_readSign_21 (by assumption) (fun h1 e1 f1 => ?_)
    refine R_iconst (pc := 24) (v := 1) dX4_readSign_24 (by decide) ?_
    refine R_iret (pc := 25) rfl rfl dX4_readSign_25 ?_
    exact ⟨by rw [bI_t c_9], by rw [if_pos c_9, e1, ← or_at (a := a), ← nI_1]; rfl⟩
  · skip
    refine R_iconst (pc := 12) (v := 0) dX4_readSign_12 (by decide) ?_
    refine R_iret (pc := 13) rfl rfl dX4_readSign_13 ?_
    exact ⟨by rw [bI_f c_9], by rw [if_neg c_9]⟩

set_option maxHeartbeats 4000000 in
set_option maxRecDepth 100000 in
theorem c_X4_readSeparator (ho : h.2 u = some (.inr (3, ob3 A (orF n a q)))) (hs : h.2 (A 0) = some (.inl (0, 100, .inl f))) (hn : n ≤ 100) (hne : u ≠ A 0) (ha : a < 2 ^ 20)  : Spec l D cA N0 m_X4_readSeparator 2 0 0 [.ref u] h (fun r h' => r = some (.int (bI (sg f n a = 59))) ∧ h' = if sg f n a = 59 then hput h u (.inr (3, ob3 A (orF n (a + 1) q))) else h) := by
  refine Spec.of (L := [some (.ref u)]) (by decide) rfl (Nat.le_of_ble_eq_true rfl) ?_
  refine R_aload_n0 (pc := 0) dX4_readSeparator_0 ?_
  refine R_bipush (pc := 1) (v := 59) dX4_readSeparator_1 (by decide) ?_
  refine R_callV1 (pc := 3) (T := TX4) cal_X4_readSign kw640 kw642 kw14 dX4_readSeparator_3 (c_X4_readSign (by assumption) (by assumption) (by assumption) (by assumption) (by omega)) (by decide) (Nat.le_of_ble_eq_true rfl) (ci := 3) rfl (by assumption) ?_
  rintro _ h61 ⟨rfl, e61⟩
  refine R_iret (pc := 6) rfl (nar_z bI_01) dX4_readSeparator_6 ?_
  exact ⟨rfl, by assumption⟩

set_option maxHeartbeats 4000000 in
set_option maxRecDepth 100000 in
theorem c_X4_keepNumber (ho : h.2 u = some (.inr (3, ob3 A (orF n a q)))) {k : Nat} (hk : k < 3) {v : Int32} : Spec l D cA N0 m_X4_keepNumber 0 0 0 [.ref u, .int (nI k), .int v] h (fun r h' => r = none ∧ h' = hput h u (.inr (3, ob3 A (orF n a (upd q (k + 1) v))))) := by
  refine Spec.of (L := [some (.ref u), some (.int (nI k)), some (.int v)]) (by decide) rfl (Nat.le_of_ble_eq_true rfl) ?_
  refine R_iload_n1 (pc := 0) dX4_keepNumber_0 ?_
  refine R_if_ne (pc := 1) 12 dX4_keepNumber_1 (by decide) (fun c_1 => ?_) (fun c_1 => ?_)
  · skip
    refine R_iload_n1 (pc := 12) dX4_keepNumber_12 ?_
    refine R_iconst (pc := 13) (v := 1) dX4_keepNumber_13 (by decide) ?_
    refine R_icmp_ne (pc := 14) 25 dX4_keepNumber_14 (by decide) (fun c_14 => ?_) (fun c_14 => ?_)
    · skip
      refine R_aload_n0 (pc := 25) dX4_keepNumber_25 ?_
      refine R_iload_n2 (pc := 26) dX4_keepNumber_26 ?_
      refine P_X4_66 (pc := 27) dX4_keepNumber_27 (by assumption) (fun h1 e1 f1 => ?_)
      refine R_vret (pc := 30) rfl dX4_keepNumber_30 ?_
      exact ⟨rfl, by have hk0 : k = 2 := (by have z1 : k ≠ 0 := fun z => c_1 (by rw [z]; rfl); have z2 : k ≠ 1 := fun z => c_14 (by rw [z]; rfl); omega); rw [hk0, e1, ← or_q _ (by decide)]⟩
    · skip
      refine R_aload_n0 (pc := 17) dX4_keepNumber_17 ?_
      refine R_iload_n2 (pc := 18) dX4_keepNumber_18 ?_
      refine P_X4_63 (pc := 19) dX4_keepNumber_19 (by assumption) (fun h2 e2 f2 => ?_)
      refine R_goto (pc := 22) 30 dX4_keepNumber_22 (by decide) ?_
      refine R_vret (pc := 30) rfl dX4_keepNumber_30 ?_
      exact ⟨rfl, by have hk0 : k = 1 := (nI_eq (by omega) (by decide)).mp c_14; rw [hk0, e2, ← or_q _ (by decide)]⟩
  · skip
    refine R_aload_n0 (pc := 4) dX4_keepNumber_4 ?_
    refine R_iload_n2 (pc := 5) dX4_keepNumber_5 ?_
    refine P_X4_60 (pc := 6) dX4_keepNumber_6 (by assumption) (fun h3 e3 f3 => ?_)
    refine R_goto (pc := 9) 30 dX4_keepNumber_9 (by decide) ?_
    refine R_vret (pc := 30) rfl dX4_keepNumber_30 ?_
    exact ⟨rfl, by have hk0 : k = 0 := (nI_eq (by omega) (by decide)).mp c_1; rw [hk0, e3, ← or_q _ (by decide)]⟩

theorem pnum_le (c : Nat → Int32) : ∀ (m : Nat) (v : Int32) (a : Nat), (pnum c m v a).2 ≤ a + m
  | 0, v, a => Nat.le_refl _
  | m + 1, v, a => by
    rw [pnum_s]
    split
    · have := pnum_le c m (v * 10 + c a - 48) (a + 1)
      omega
    · simp
theorem pmost_le (x : Int32) : pmost x ≤ 6 := by
  unfold pmost
  split <;> decide
theorem pargs_le (c : Nat → Int32) : ∀ (m i a : Nat) (q : Nat → Int32), (pargs c m i a q).2.1 ≤ a + 7 * m
  | 0, i, a, q => Nat.le_refl _
  | m + 1, i, a, q => by
    have h1 := pnum_le c (pmost (c a)) 0 a
    have h2 := pnum_le c (pmost (c (a + 1))) 0 (a + 1)
    have h3 := pmost_le (c a)
    have h4 := pmost_le (c (a + 1))
    rw [pargs_s]
    split
    · split
      · have := pargs_le c m (i + 1) (pnum c (pmost (c a)) 0 a).2 (upd q (i + 1) (pnum c (pmost (c a)) 0 a).1)
        omega
      · simp
    · split
      · split
        · have := pargs_le c m (i + 1) (pnum c (pmost (c (a + 1))) 0 (a + 1)).2 (upd q (i + 1) (pnum c (pmost (c (a + 1))) 0 (a + 1)).1)
          omega
        · simp; omega
      · simp
theorem pord_le (c : Nat → Int32) (a : Nat) (q : Nat → Int32) : (pord c a q).2.1 ≤ a + 22 := by
  unfold pord
  split
  · simp
  · have := pargs_le c (pcnt (c a)) 0 (a + 1) (upd q 0 (c a))
    rcases pnof_n (c a) with h | h
    · contradiction
    · omega
def oput (h : AH) (u : Nat) (A : Nat → Nat) (n a : Nat) (q : Nat → Int32) : AH := hput h u (.inr (3, ob3 A (orF n a q)))
theorem oput_o (h : AH) (u : Nat) (A : Nat → Nat) (n a : Nat) (q : Nat → Int32) : (oput h u A n a q).2 u = some (.inr (3, ob3 A (orF n a q))) := hput_at _ _ _
theorem oput_s {h : AH} {u : Nat} {A : Nat → Nat} {n a : Nat} {q : Nat → Int32} {e : AE} (hs : h.2 (A 0) = some e) (hne : u ≠ A 0) : (oput h u A n a q).2 (A 0) = some e := by rw [oput, hput_ne _ _ (Ne.symm hne)]; exact hs
theorem oput_oput (h : AH) (u : Nat) (A B : Nat → Nat) (n a n2 a2 : Nat) (q q2 : Nat → Int32) : oput (oput h u A n a q) u B n2 a2 q2 = oput h u B n2 a2 q2 := hput_hput _ _ _ _
theorem oput_self {h : AH} {u : Nat} {A : Nat → Nat} {n a : Nat} {q : Nat → Int32} (ho : h.2 u = some (.inr (3, ob3 A (orF n a q)))) : oput h u A n a q = h := hput_self ho
theorem oput_at {h h1 h2 : AH} {u : Nat} {A : Nat → Nat} {n a b : Nat} {q : Nat → Int32} (q1 : h1 = oput h u A n a q) (e : h2 = hput h1 u (.inr (3, ob3 A (upd (orF n a q) 2 (nI b))))) : h2 = oput h u A n b q := by rw [e, q1, or_at, oput, hput_hput, oput]
theorem oput_at1 {h h1 h2 : AH} {u : Nat} {A : Nat → Nat} {n a : Nat} {q : Nat → Int32} (q1 : h1 = oput h u A n a q) (e : h2 = hput h1 u (.inr (3, ob3 A (upd (orF n a q) 2 (nI a + 1))))) : h2 = oput h u A n (a + 1) q := by rw [nI_1] at e; exact oput_at q1 e
theorem oput_q {h h1 h2 : AH} {u : Nat} {A : Nat → Nat} {n a : Nat} {q : Nat → Int32} {k : Nat} (hk : k < 4) {v : Int32} (q1 : h1 = oput h u A n a q) (e : h2 = hput h1 u (.inr (3, ob3 A (upd (orF n a q) (k + 3) v)))) : h2 = oput h u A n a (upd q k v) := by rw [e, q1, or_q _ hk, oput, hput_hput, oput]
set_option maxHeartbeats 4000000 in
set_option maxRecDepth 100000 in
theorem L_X4_readNumber (hs : h.2 (A 0) = some (.inl (0, 100, .inl f))) (hn : n ≤ 100) (hne : u ≠ A 0) {M : Nat} (hM : M ≤ 6) : ∀ (m i : Nat) (v : Int32) (a1 : Nat) (h1 : AH), i + m = M → a1 + m < 2 ^ 20 → h1 = oput h u A n a1 q → RunM l D cA N0 m_X4_readNumber 1 0 0 (fun r h' => r = some (.int (pnum (sg f n) m v a1).1) ∧ h' = oput h u A n (pnum (sg f n) m v a1).2 q) h1 0 0 24 [some (.ref u), some (.int v), some (.int (nI M)), some (.int (nI i))] [] := by
  intro m
  induction m with
  | zero =>
    intro i v a1 h1 hi hb q1
    have him : i = M := by omega
    refine R_iload_n3 (pc := 24) dX4_readNumber_24 ?_
    refine R_iload_n2 (pc := 25) dX4_readNumber_25 ?_
    refine R_icmp_ge (pc := 26) 76 dX4_readNumber_26 (by decide) (fun c_26 => ?_) (fun c_26 => absurd (by rw [him]; exact nI_le (Nat.le_refl M) (by omega)) c_26)
    refine R_iload_n1 (pc := 76) dX4_readNumber_76 ?_
    refine R_iret (pc := 77) rfl rfl dX4_readNumber_77 ?_
    exact ⟨rfl, q1⟩
  | succ m ih =>
    intro i v a1 h1 hi hb q1
    have ho1 : h1.2 u = some (.inr (3, ob3 A (orF n (a1) (q)))) := by rw [q1]; exact oput_o _ _ _ _ _ _
    have hs1 : h1.2 (A 0) = some (.inl (0, 100, .inl f)) := by rw [q1]; exact oput_s hs hne
    refine R_iload_n3 (pc := 24) dX4_readNumber_24 ?_
    refine R_iload_n2 (pc := 25) dX4_readNumber_25 ?_
    refine R_icmp_ge (pc := 26) 76 dX4_readNumber_26 (by decide) (fun c_26 => absurd c_26 (nI_ge (show i < M by omega) (by omega))) (fun c_26 => ?_)
    refine R_aload_n0 (pc := 29) dX4_readNumber_29 ?_
    refine R_aload_n0 (pc := 30) dX4_readNumber_30 ?_
    refine G_X4_19 (pc := 31) dX4_readNumber_31 (by assumption) ?_
    refine R_callV1 (pc := 34) (T := TX4) cal_X4_signAt kw633 kw635 kw13 dX4_readNumber_34 (c_X4_signAt (by assumption) (by assumption) (by assumption) (by assumption) (by omega)) (by decide) (Nat.le_of_ble_eq_true rfl) (ci := 3) rfl (by assumption) ?_
    rintro _ _ ⟨rfl, rfl⟩
    refine R_callS1 (pc := 37) cal_X4_isDigit kw644 kw645 dX4_readNumber_37 c_X4_isDigit (by decide) (Nat.le_of_ble_eq_true rfl) ?_
    rintro _ _ ⟨rfl, rfl⟩
    refine R_ifb_eq (pc := 40) 76 dX4_readNumber_40 (by decide) (fun c_40 => ?_) (fun c_40 => ?_)
    · skip
      refine R_iload_n1 (pc := 76) dX4_readNumber_76 ?_
      refine R_iret (pc := 77) rfl rfl dX4_readNumber_77 ?_
      exact ⟨by rw [pnum_s, if_neg c_40], by rw [pnum_s, if_neg c_40]; exact q1⟩
    · skip
      refine R_iload_n1 (pc := 43) dX4_readNumber_43 ?_
      refine R_bipush (pc := 44) (v := 10) dX4_readNumber_44 (by decide) ?_
      refine R_imul (pc := 46) dX4_readNumber_46 ?_
      refine R_aload_n0 (pc := 47) dX4_readNumber_47 ?_
      refine R_aload_n0 (pc := 48) dX4_readNumber_48 ?_
      refine G_X4_19 (pc := 49) dX4_readNumber_49 (by assumption) ?_
      refine R_callV1 (pc := 52) (T := TX4) cal_X4_signAt kw633 kw635 kw13 dX4_readNumber_52 (c_X4_signAt (by assumption) (by assumption) (by assumption) (by assumption) (by omega)) (by decide) (Nat.le_of_ble_eq_true rfl) (ci := 3) rfl (by assumption) ?_
      rintro _ _ ⟨rfl, rfl⟩
      refine R_iadd (pc := 55) dX4_readNumber_55 ?_
      refine R_bipush (pc := 56) (v := 48) dX4_readNumber_56 (by decide) ?_
      refine R_isub (pc := 58) dX4_readNumber_58 ?_
      refine R_istore_n1 (pc := 59) dX4_readNumber_59 rfl (by decide) ?_
      refine R_aload_n0 (pc := 60) dX4_readNumber_60 ?_
      refine R_dup (pc := 61) dX4_readNumber_61 rfl ?_
      refine G_X4_19 (pc := 62) dX4_readNumber_62 (by assumption) ?_
      refine R_iconst (pc := 65) (v := 1) dX4_readNumber_65 (by decide) ?_
      refine R_iadd (pc := 66) dX4_readNumber_66 ?_
      refine P_X4_19 (pc := 67) dX4_readNumber_67 (by assumption) (fun h1 e1 f1 => ?_)
      have q2 := oput_at1 q1 e1
      refine R_iinc3 (pc := 70) dX4_readNumber_70 rfl (by decide) ?_
      refine R_goto (pc := 73) 24 dX4_readNumber_73 (by decide) ?_
      rw [nI_s]
      exact R_post (fun r h9 q9 => by rw [pnum_s, if_pos c_40]; exact q9) (ih (i + 1) _ (a1 + 1) _ (by omega) (by omega) q2)

set_option maxHeartbeats 4000000 in
set_option maxRecDepth 100000 in
theorem c_X4_readNumber (ho : h.2 u = some (.inr (3, ob3 A (orF n a q)))) (hs : h.2 (A 0) = some (.inl (0, 100, .inl f))) (hn : n ≤ 100) (hne : u ≠ A 0) (ha : a < 2 ^ 19) : Spec l D cA N0 m_X4_readNumber 1 0 0 [.ref u] h (fun r h' => r = some (.int (pnum (sg f n) (pmost (sg f n a)) 0 a).1) ∧ h' = oput h u A n (pnum (sg f n) (pmost (sg f n a)) 0 a).2 q) := by
  refine Spec.of (L := [some (.ref u), none, none, none]) (by decide) rfl (Nat.le_of_ble_eq_true rfl) ?_
  refine R_iconst (pc := 0) (v := 0) dX4_readNumber_0 (by decide) ?_
  refine R_istore_n1 (pc := 1) dX4_readNumber_1 rfl (by decide) ?_
  refine R_aload_n0 (pc := 2) dX4_readNumber_2 ?_
  refine R_aload_n0 (pc := 3) dX4_readNumber_3 ?_
  refine G_X4_19 (pc := 4) dX4_readNumber_4 (by assumption) ?_
  refine R_callV1 (pc := 7) (T := TX4) cal_X4_signAt kw633 kw635 kw13 dX4_readNumber_7 (c_X4_signAt (by assumption) (by assumption) (by assumption) (by assumption) (by omega)) (by decide) (Nat.le_of_ble_eq_true rfl) (ci := 3) rfl (by assumption) ?_
  rintro _ _ ⟨rfl, rfl⟩
  refine R_bipush (pc := 10) (v := 48) dX4_readNumber_10 (by decide) ?_
  refine R_icmp_ne (pc := 12) 19 dX4_readNumber_12 (by decide) (fun c_12 => ?_) (fun c_12 => ?_)
  · skip
    refine R_bipush (pc := 19) (v := 6) dX4_readNumber_19 (by decide) ?_
    refine R_istore_n2 (pc := 21) dX4_readNumber_21 rfl (by decide) ?_
    refine R_iconst (pc := 22) (v := 0) dX4_readNumber_22 (by decide) ?_
    refine R_istore_n3 (pc := 23) dX4_readNumber_23 rfl (by decide) ?_
    rw [show pmost (sg f n a) = 6 from if_neg c_12]
    exact L_X4_readNumber hs hn hne (by decide) 6 0 0 a _ rfl (by omega) (oput_self ho).symm
  · skip
    refine R_iconst (pc := 15) (v := 1) dX4_readNumber_15 (by decide) ?_
    refine R_goto (pc := 16) 21 dX4_readNumber_16 (by decide) ?_
    refine R_istore_n2 (pc := 21) dX4_readNumber_21 rfl (by decide) ?_
    refine R_iconst (pc := 22) (v := 0) dX4_readNumber_22 (by decide) ?_
    refine R_istore_n3 (pc := 23) dX4_readNumber_23 rfl (by decide) ?_
    rw [show pmost (sg f n a) = 1 from if_pos c_12]
    exact L_X4_readNumber hs hn hne (by decide) 1 0 0 a _ rfl (by omega) (oput_self ho).symm

set_option maxHeartbeats 4000000 in
set_option maxRecDepth 100000 in
theorem L_X4_readOrder (hs : h.2 (A 0) = some (.inl (0, 100, .inl f))) (hn : n ≤ 100) (hne : u ≠ A 0) {M : Nat} (hM : M ≤ 3) : ∀ (m i : Nat) (a1 : Nat) (qq : Nat → Int32) (h1 : AH), i + m = M → a1 + 7 * m < 2 ^ 18 → h1 = oput h u A n a1 qq → RunM l D cA N0 m_X4_readOrder 2 0 0 (fun r h' => r = some (.int (bI ((pargs (sg f n) m i a1 qq).1 = true))) ∧ h' = oput h u A n (pargs (sg f n) m i a1 qq).2.1 (pargs (sg f n) m i a1 qq).2.2) h1 0 0 39 [some (.ref u), some (.int (nI M)), some (.int (nI i))] [] := by
  intro m
  induction m with
  | zero =>
    intro i a1 qq h1 hi hb q1
    have him : i = M := by omega
    refine R_iload_n2 (pc := 39) dX4_readOrder_39 ?_
    refine R_iload_n1 (pc := 40) dX4_readOrder_40 ?_
    refine R_icmp_ge (pc := 41) 90 dX4_readOrder_41 (by decide) (fun c_41 => ?_) (fun c_41 => absurd (by rw [him]; exact nI_le (Nat.le_refl M) (by omega)) c_41)
    refine R_iconst (pc := 90) (v := 1) dX4_readOrder_90 (by decide) ?_
    refine R_iret (pc := 91) rfl rfl dX4_readOrder_91 ?_
    exact ⟨rfl, q1⟩
  | succ m ih =>
    intro i a1 qq h1 hi hb q1
    have ho1 : h1.2 u = some (.inr (3, ob3 A (orF n (a1) (qq)))) := by rw [q1]; exact oput_o _ _ _ _ _ _
    have hs1 : h1.2 (A 0) = some (.inl (0, 100, .inl f)) := by rw [q1]; exact oput_s hs hne
    refine R_iload_n2 (pc := 39) dX4_readOrder_39 ?_
    refine R_iload_n1 (pc := 40) dX4_readOrder_40 ?_
    refine R_icmp_ge (pc := 41) 90 dX4_readOrder_41 (by decide) (fun c_41 => absurd c_41 (nI_ge (show i < M by omega) (by omega))) (fun c_41 => ?_)
    refine R_iload_n2 (pc := 44) dX4_readOrder_44 ?_
    refine R_if_le (pc := 45) 59 dX4_readOrder_45 (by decide) (fun c_45 => ?_) (fun c_45 => ?_)
    · skip
      have d_45 := Int32.not_lt.mpr c_45
      have hi0 : i = 0 := (nI_le0 (by omega)).mp c_45
      have q59 := q1
      have ho59 := ho1
      refine R_aload_n0 (pc := 59) dX4_readOrder_59 ?_
      refine R_aload_n0 (pc := 60) dX4_readOrder_60 ?_
      refine G_X4_19 (pc := 61) dX4_readOrder_61 (by assumption) ?_
      refine R_callV1 (pc := 64) (T := TX4) cal_X4_signAt kw633 kw635 kw13 dX4_readOrder_64 (c_X4_signAt (by assumption) (by assumption) (by assumption) (by assumption) (by omega)) (by decide) (Nat.le_of_ble_eq_true rfl) (ci := 3) rfl (by assumption) ?_
      rintro _ _ ⟨rfl, rfl⟩
      refine R_callS1 (pc := 67) cal_X4_isDigit kw644 kw645 dX4_readOrder_67 c_X4_isDigit (by decide) (Nat.le_of_ble_eq_true rfl) ?_
      rintro _ _ ⟨rfl, rfl⟩
      refine R_ifb_ne (pc := 70) 75 dX4_readOrder_70 (by decide) (fun c_70 => ?_) (fun c_70 => ?_)
      · skip
        refine R_aload_n0 (pc := 75) dX4_readOrder_75 ?_
        refine R_iload_n2 (pc := 76) dX4_readOrder_76 ?_
        refine R_aload_n0 (pc := 77) dX4_readOrder_77 ?_
        refine R_callV0 (pc := 78) (T := TX4) cal_X4_readNumber kw647 kw649 kw15 dX4_readOrder_78 (c_X4_readNumber (by assumption) (by assumption) (by assumption) (by assumption) (by omega)) (by decide) (Nat.le_of_ble_eq_true rfl) (ci := 3) rfl (by assumption) ?_
        rintro _ h78 ⟨rfl, e78⟩
        have q78 : h78 = oput h u A n (pnum (sg f n) (pmost (sg f n a1)) 0 a1).2 qq := by rw [e78, q59]; exact oput_oput _ _ _ _ _ _ _ _ _ _
        have ho78 : h78.2 u = some (.inr (3, ob3 A (orF n (pnum (sg f n) (pmost (sg f n a1)) 0 a1).2 qq))) := by rw [q78]; exact oput_o _ _ _ _ _ _
        refine R_callV2 (pc := 81) (T := TX4) cal_X4_keepNumber kw651 kw653 kw16 dX4_readOrder_81 (c_X4_keepNumber ho78 (show i < 3 by omega)) (by decide) (Nat.le_of_ble_eq_true rfl) (ci := 3) rfl (by assumption) ?_
        rintro _ h81 ⟨rfl, e81⟩
        have q81 : h81 = oput h u A n (pnum (sg f n) (pmost (sg f n a1)) 0 a1).2 (upd qq (i + 1) (pnum (sg f n) (pmost (sg f n a1)) 0 a1).1) := by rw [e81, q78]; exact oput_oput _ _ _ _ _ _ _ _ _ _
        refine R_iinc2 (pc := 84) dX4_readOrder_84 rfl (by decide) ?_
        refine R_goto (pc := 87) 39 dX4_readOrder_87 (by decide) ?_
        rw [nI_s]
        exact R_post (fun r h9 q9 => by rw [pargs_s, if_pos hi0, if_pos c_70]; exact q9) (ih (i + 1) _ _ _ (by omega) (by have := pnum_le (sg f n) (pmost (sg f n a1)) 0 a1; have := pmost_le (sg f n a1); omega) q81)
      · skip
        refine R_iconst (pc := 73) (v := 0) dX4_readOrder_73 (by decide) ?_
        refine R_iret (pc := 74) rfl rfl dX4_readOrder_74 ?_
        exact ⟨by rw [pargs_s, if_pos hi0, if_neg c_70]; rfl, by rw [pargs_s, if_pos hi0, if_neg c_70]; exact q59⟩
    · skip
      have d_45 := Int32.not_le.mp c_45
      have hi0 : ¬ i = 0 := fun z => c_45 ((nI_le0 (by omega)).mpr z)
      refine R_aload_n0 (pc := 48) dX4_readOrder_48 ?_
      refine R_bipush (pc := 49) (v := 44) dX4_readOrder_49 (by decide) ?_
      refine R_callV1 (pc := 51) (T := TX4) cal_X4_readSign kw640 kw642 kw14 dX4_readOrder_51 (c_X4_readSign (by assumption) (by assumption) (by assumption) (by assumption) (by omega)) (by decide) (Nat.le_of_ble_eq_true rfl) (ci := 3) rfl (by assumption) ?_
      rintro _ h51 ⟨rfl, e51⟩
      refine R_ifb_ne (pc := 54) 59 dX4_readOrder_54 (by decide) (fun c_54 => ?_) (fun c_54 => ?_)
      · skip
        have q59 : h51 = oput h u A n (a1 + 1) qq := by rw [e51, if_pos c_54, q1]; exact oput_oput _ _ _ _ _ _ _ _ _ _
        have ho59 : h51.2 u = some (.inr (3, ob3 A (orF n (a1 + 1) qq))) := by rw [q59]; exact oput_o _ _ _ _ _ _
        have hs59 : h51.2 (A 0) = some (.inl (0, 100, .inl f)) := by rw [q59]; exact oput_s hs hne
        refine R_aload_n0 (pc := 59) dX4_readOrder_59 ?_
        refine R_aload_n0 (pc := 60) dX4_readOrder_60 ?_
        refine G_X4_19 (pc := 61) dX4_readOrder_61 (by assumption) ?_
        refine R_callV1 (pc := 64) (T := TX4) cal_X4_signAt kw633 kw635 kw13 dX4_readOrder_64 (c_X4_signAt (by assumption) (by assumption) (by assumption) (by assumption) (by omega)) (by decide) (Nat.le_of_ble_eq_true rfl) (ci := 3) rfl (by assumption) ?_
        rintro _ _ ⟨rfl, rfl⟩
        refine R_callS1 (pc := 67) cal_X4_isDigit kw644 kw645 dX4_readOrder_67 c_X4_isDigit (by decide) (Nat.le_of_ble_eq_true rfl) ?_
        rintro _ _ ⟨rfl, rfl⟩
        refine R_ifb_ne (pc := 70) 75 dX4_readOrder_70 (by decide) (fun c_70 => ?_) (fun c_70 => ?_)
        · skip
          refine R_aload_n0 (pc := 75) dX4_readOrder_75 ?_
          refine R_iload_n2 (pc := 76) dX4_readOrder_76 ?_
          refine R_aload_n0 (pc := 77) dX4_readOrder_77 ?_
          refine R_callV0 (pc := 78) (T := TX4) cal_X4_readNumber kw647 kw649 kw15 dX4_readOrder_78 (c_X4_readNumber (by assumption) (by assumption) (by assumption) (by assumption) (by omega)) (by decide) (Nat.le_of_ble_eq_true rfl) (ci := 3) rfl (by assumption) ?_
          rintro _ h78 ⟨rfl, e78⟩
          have q78 : h78 = oput h u A n (pnum (sg f n) (pmost (sg f n (a1 + 1))) 0 (a1 + 1)).2 qq := by rw [e78, q59]; exact oput_oput _ _ _ _ _ _ _ _ _ _
          have ho78 : h78.2 u = some (.inr (3, ob3 A (orF n (pnum (sg f n) (pmost (sg f n (a1 + 1))) 0 (a1 + 1)).2 qq))) := by rw [q78]; exact oput_o _ _ _ _ _ _
          refine R_callV2 (pc := 81) (T := TX4) cal_X4_keepNumber kw651 kw653 kw16 dX4_readOrder_81 (c_X4_keepNumber ho78 (show i < 3 by omega)) (by decide) (Nat.le_of_ble_eq_true rfl) (ci := 3) rfl (by assumption) ?_
          rintro _ h81 ⟨rfl, e81⟩
          have q81 : h81 = oput h u A n (pnum (sg f n) (pmost (sg f n (a1 + 1))) 0 (a1 + 1)).2 (upd qq (i + 1) (pnum (sg f n) (pmost (sg f n (a1 + 1))) 0 (a1 + 1)).1) := by rw [e81, q78]; exact oput_oput _ _ _ _ _ _ _ _ _ _
          refine R_iinc2 (pc := 84) dX4_readOrder_84 rfl (by decide) ?_
          refine R_goto (pc := 87) 39 dX4_readOrder_87 (by decide) ?_
          rw [nI_s]
          exact R_post (fun r h9 q9 => by rw [pargs_s, if_neg hi0, if_pos c_54, if_pos c_70]; exact q9) (ih (i + 1) _ _ _ (by omega) (by have := pnum_le (sg f n) (pmost (sg f n (a1 + 1))) 0 (a1 + 1); have := pmost_le (sg f n (a1 + 1)); omega) q81)
        · skip
          refine R_iconst (pc := 73) (v := 0) dX4_readOrder_73 (by decide) ?_
          refine R_iret (pc := 74) rfl rfl dX4_readOrder_74 ?_
          exact ⟨by rw [pargs_s, if_neg hi0, if_pos c_54, if_neg c_70]; rfl, by rw [pargs_s, if_neg hi0, if_pos c_54, if_neg c_70]; exact q59⟩
      · skip
        have q54 : h51 = oput h u A n a1 qq := by rw [e51, if_neg c_54]; exact q1
        refine R_iconst (pc := 57) (v := 0) dX4_readOrder_57 (by decide) ?_
        refine R_iret (pc := 58) rfl rfl dX4_readOrder_58 ?_
        exact ⟨by rw [pargs_s, if_neg hi0, if_neg c_54]; rfl, by rw [pargs_s, if_neg hi0, if_neg c_54]; exact q54⟩

end LV13
