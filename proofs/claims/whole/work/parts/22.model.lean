/-! THE REFERENCE: its object -/
/-- ints; row; rows before; text; numbers; hexes that are come to -/
abbrev Mm : Type := (Nat → Int32) × (Nat → Int32) × (Nat → Int32) × (Nat → Int32) × (Nat → Int32) × (Nat → Int32)
def MA (u : Nat) : Nat → Nat := fun k => if k = 0 then u + 1 else if k = 1 then u + 2 else if k = 2 then u + 3 else if k = 5 then u + 4 else if k = 11 then u + 5 else u + 6
def mcell (u : Nat) (M : Mm) (o : Nat) : AE := if o = 0 then .inr (8, ob8 (MA u) M.1) else if o = 1 then .inl (0, 545, .inl M.2.1) else if o = 2 then .inl (0, 3270, .inl M.2.2.1) else if o = 4 then .inl (0, 100, .inl M.2.2.2.1) else if o = 5 then .inl (0, 3, .inl M.2.2.2.2.1) else .inl (1, 81, .inl M.2.2.2.2.2)
def MAt (h : AH) (u : Nat) (M : Mm) : Prop := ∀ o, o < 7 → o ≠ 3 → h.2 (u + o) = some (mcell u M o)
def mput (h : AH) (u : Nat) (M : Mm) : AH := (h.1, fun q => if u ≤ q ∧ q < u + 7 ∧ q ≠ u + 3 then some (mcell u M (q - u)) else h.2 q)
def fM (M : Mm) (k : Nat) (v : Int32) : Mm := (upd M.1 k v, M.2)
def sM (M : Mm) (s : Nat → Int32) : Mm := (M.1, s, M.2.2)
def bM (M : Mm) (b : Nat → Int32) : Mm := (M.1, M.2.1, b, M.2.2.2)
def tM (M : Mm) (t : Nat → Int32) : Mm := (M.1, M.2.1, M.2.2.1, t, M.2.2.2.2)
def nM (M : Mm) (n : Nat → Int32) : Mm := (M.1, M.2.1, M.2.2.1, M.2.2.2.1, n, M.2.2.2.2.2)
def cM (M : Mm) (c : Nat → Int32) : Mm := (M.1, M.2.1, M.2.2.1, M.2.2.2.1, M.2.2.2.2.1, c)
section MO
variable {h h1 h2 : AH} {u : Nat} {M M2 : Mm}
theorem MAt.o (q : MAt h u M) : h.2 u = some (.inr (8, ob8 (MA u) M.1)) := q 0 (by decide) (by decide)
theorem MAt.s (q : MAt h u M) : h.2 (MA u 0) = some (.inl (0, 545, .inl M.2.1)) := q 1 (by decide) (by decide)
theorem MAt.b (q : MAt h u M) : h.2 (MA u 1) = some (.inl (0, 3270, .inl M.2.2.1)) := q 2 (by decide) (by decide)
theorem MAt.t (q : MAt h u M) : h.2 (MA u 5) = some (.inl (0, 100, .inl M.2.2.2.1)) := q 4 (by decide) (by decide)
theorem MAt.n (q : MAt h u M) : h.2 (MA u 11) = some (.inl (0, 3, .inl M.2.2.2.2.1)) := q 5 (by decide) (by decide)
theorem MAt.c (q : MAt h u M) : h.2 (MA u 12) = some (.inl (1, 81, .inl M.2.2.2.2.2)) := q 6 (by decide) (by decide)
theorem mput_1 : (mput h u M).1 = h.1 := rfl
theorem mput_out {q : Nat} (hq : q < u ∨ u + 7 ≤ q) : (mput h u M).2 q = h.2 q := by
  simp only [mput]
  rw [if_neg (by omega)]
theorem mput_at (h : AH) (u : Nat) (M : Mm) : MAt (mput h u M) u M := fun o h1 h2 => by
  simp only [mput]
  rw [if_pos (by omega), Nat.add_sub_cancel_left]
theorem mAt (q : h1 = mput h u M) : MAt h1 u M := by rw [q]; exact mput_at h u M
theorem mput_mput : mput (mput h u M) u M2 = mput h u M2 := by
  simp only [mput]
  congr 1
  funext q
  by_cases hq : u ≤ q ∧ q < u + 7 ∧ q ≠ u + 3
  · rw [if_pos hq, if_pos hq]
  · rw [if_neg hq, if_neg hq, if_neg hq]
theorem mput_self (q : MAt h u M) : mput h u M = h := by
  refine Prod.ext rfl (funext fun x => ?_)
  simp only [mput]
  by_cases hx : u ≤ x ∧ x < u + 7 ∧ x ≠ u + 3
  · rw [if_pos hx]
    have := q (x - u) (by omega) (by omega)
    rw [show u + (x - u) = x by omega] at this
    exact this.symm
  · rw [if_neg hx]
theorem mstep_M (q : h1 = mput h u M) (e : h2 = mput h1 u M2) : h2 = mput h u M2 := by rw [e, q, mput_mput]
theorem mstep_x {k : Nat} (hk : k < 7) (h3 : k ≠ 3) {e : AE} (q : h1 = mput h u M) (e1 : h2 = hput h1 (u + k) e) (hc : ∀ o, o < 7 → o ≠ 3 → mcell u M2 o = if o = k then e else mcell u M o) : h2 = mput h u M2 := by
  rw [e1, q]
  refine Prod.ext rfl (funext fun x => ?_)
  simp only [hput, mput]
  by_cases hx : u ≤ x ∧ x < u + 7 ∧ x ≠ u + 3
  · rw [if_pos hx, if_pos hx, hc (x - u) (by omega) (by omega)]
    by_cases hk : x = u + k
    · rw [if_pos hk, if_pos (by omega)]
    · rw [if_neg hk, if_neg (by omega)]
  · rw [if_neg hx, if_neg hx, if_neg (by omega)]
theorem mc7 {P : Nat → Prop} (h0 : P 0) (h1 : P 1) (h2 : P 2) (h4 : P 4) (h5 : P 5) (h6 : P 6) : ∀ o, o < 7 → o ≠ 3 → P o := by
  intro o z1 z2
  rcases (by omega : o = 0 ∨ o = 1 ∨ o = 2 ∨ o = 4 ∨ o = 5 ∨ o = 6) with z | z | z | z | z | z <;> subst z <;> assumption
theorem mstep_o {k : Nat} {v : Int32} (q : h1 = mput h u M) (e : h2 = hput h1 u (.inr (8, ob8 (MA u) (upd M.1 k v)))) : h2 = mput h u (fM M k v) := mstep_x (k := 0) (by decide) (by decide) q e (mc7 rfl rfl rfl rfl rfl rfl)
theorem mstep_s {f : Nat → Int32} (q : h1 = mput h u M) (e : h2 = hput h1 (MA u 0) (.inl (0, 545, .inl f))) : h2 = mput h u (sM M f) := mstep_x (k := 1) (by decide) (by decide) q e (mc7 rfl rfl rfl rfl rfl rfl)
theorem mstep_b {f : Nat → Int32} (q : h1 = mput h u M) (e : h2 = hput h1 (MA u 1) (.inl (0, 3270, .inl f))) : h2 = mput h u (bM M f) := mstep_x (k := 2) (by decide) (by decide) q e (mc7 rfl rfl rfl rfl rfl rfl)
theorem mstep_t {f : Nat → Int32} (q : h1 = mput h u M) (e : h2 = hput h1 (MA u 5) (.inl (0, 100, .inl f))) : h2 = mput h u (tM M f) := mstep_x (k := 4) (by decide) (by decide) q e (mc7 rfl rfl rfl rfl rfl rfl)
theorem mstep_n {f : Nat → Int32} (q : h1 = mput h u M) (e : h2 = hput h1 (MA u 11) (.inl (0, 3, .inl f))) : h2 = mput h u (nM M f) := mstep_x (k := 5) (by decide) (by decide) q e (mc7 rfl rfl rfl rfl rfl rfl)
theorem mstep_c {f : Nat → Int32} (q : h1 = mput h u M) (e : h2 = hput h1 (MA u 12) (.inl (1, 81, .inl f))) : h2 = mput h u (cM M f) := mstep_x (k := 6) (by decide) (by decide) q e (mc7 rfl rfl rfl rfl rfl rfl)
end MO
def gx (s : Nat → Int32) (i k : Nat) : Int32 := s (93 + 11 * i + k)
def px (s : Nat → Int32) (i k : Nat) (v : Int32) : Nat → Int32 := upd s (93 + 11 * i + k) v
def z_has (x w : Int32) : Bool := decide (x >>> (w &&& 31) &&& 1 = 1)
def z_rs (d : Int32) : Int32 := if d = 1 ∨ d = 2 then 1 else if 3 < d then -1 else 0
def z_cs (d : Int32) : Int32 := if d = 0 ∨ d = 5 then 1 else if d = 2 ∨ d = 3 then -1 else 0
def z_next (x d : Int32) : Int32 := if (0 ≤ x / 9 + z_rs d ∧ x / 9 + z_rs d ≤ 8) ∧ 0 ≤ x - x / 9 * 9 + z_cs d ∧ x - x / 9 * 9 + z_cs d ≤ 8 then 9 * (x / 9 + z_rs d) + (x - x / 9 * 9 + z_cs d) else -1
def z_bes (x y : Int32) : Nat → Bool
  | 0 => false
  | n + 1 => z_bes x y n || decide (z_next x (nI n) = y)
def z_on (s : Nat → Int32) (n : Nat) (x : Int32) : Option Nat := ff (fun i => decide (gx s i 1 = x)) 0 n
def z_onv : Option Nat → Int32
  | none => -1
  | some i => nI i
def z_free (s : Nat → Int32) (n : Nat) (x : Nat) : Bool := decide (s (12 + x) = 0 ∧ z_onv (z_on s n (nI x)) < 0)
def z_isls (s : Nat → Int32) : Int32 := kf (fun a j => a + s (12 + j)) 0 0 81
theorem hix (i k : Nat) : 93 + 11 * nI i + nI k = nI (93 + 11 * i + k) := by
  rw [show (93 : Int32) = nI 93 from rfl, show (11 : Int32) = nI 11 from rfl, pk_mul, nI_add, nI_add]
theorem h12 (k : Nat) : 12 + nI k = nI (12 + k) := by rw [show (12 : Int32) = nI 12 from rfl, nI_add]
section LV22
variable {l : Launch} {D : va_G} {cA : Nat → ClassId} {N0 : Nat} {h : AH} {u : Nat} {M : Mm}
theorem i64le {x y : Int32} : x.toInt64 ≤ y.toInt64 ↔ x ≤ y := by
  rw [Int64.le_iff_toInt_le, Int32.toInt_toInt64, Int32.toInt_toInt64, Int32.le_iff_toInt_le]
set_option maxHeartbeats 4000000 in
set_option maxRecDepth 100000 in
theorem c_X10_in {x lo hi : Int32} {a b c : Int64} (ea : a = x.toInt64) (eb : b = lo.toInt64) (ec : c = hi.toInt64) : Spec l D cA N0 m_X10_in 0 0 0 [.long a, .long b, .long c] h (fun r h' => r = some (.int (bI (lo ≤ x ∧ x ≤ hi))) ∧ h' = h) := by
  refine Spec.of (L := [some (.long a), none, some (.long b), none, some (.long c), none]) (by decide) rfl (Nat.le_of_ble_eq_true rfl) ?_
  refine R_lload_n0 (pc := 0) dX10_in_0 ?_
  refine R_lload_n2 (pc := 1) dX10_in_1 ?_
  refine R_lcmp (pc := 2) dX10_in_2 ?_
  refine R_if_lt (pc := 3) 17 dX10_in_3 (by decide) (fun c_3 => ?_) (fun c_3 => ?_)
  · skip
    have d_3 := Int32.not_le.mpr c_3
    rw [lg_cmp_lt, ea, eb] at c_3
    have d3 : ¬ lo ≤ x := fun z => Int64.not_le.mpr c_3 (i64le.mpr z)
    refine R_iconst (pc := 17) (v := 0) dX10_in_17 (by decide) ?_
    refine R_iret (pc := 18) rfl rfl dX10_in_18 ?_
    exact ⟨congrArg (fun z => some (Value.int z)) (bI_f (fun z => d3 z.1)).symm, rfl⟩
  · skip
    have d_3 := Int32.not_lt.mp c_3
    rw [lg_cmp_lt, ea, eb] at c_3
    have d3 : lo ≤ x := i64le.mp (Int64.not_lt.mp c_3)
    refine R_lload_n0 (pc := 6) dX10_in_6 ?_
    refine R_lload4 (pc := 7) dX10_in_7 ?_
    refine R_lcmp (pc := 9) dX10_in_9 ?_
    refine R_if_gt (pc := 10) 17 dX10_in_10 (by decide) (fun c_10 => ?_) (fun c_10 => ?_)
    · skip
      have d_10 := Int32.not_le.mpr c_10
      rw [lg_cmp_gt, ea, ec] at c_10
      have d10 : ¬ x ≤ hi := fun z => Int64.not_le.mpr c_10 (i64le.mpr z)
      refine R_iconst (pc := 17) (v := 0) dX10_in_17 (by decide) ?_
      refine R_iret (pc := 18) rfl rfl dX10_in_18 ?_
      exact ⟨congrArg (fun z => some (Value.int z)) (bI_f (fun z => d10 z.2)).symm, rfl⟩
    · skip
      have d_10 := Int32.not_lt.mp c_10
      rw [lg_cmp_gt, ea, ec] at c_10
      have d10 : x ≤ hi := i64le.mp (Int64.not_lt.mp c_10)
      refine R_iconst (pc := 13) (v := 1) dX10_in_13 (by decide) ?_
      refine R_goto (pc := 14) 18 dX10_in_14 (by decide) ?_
      refine R_iret (pc := 18) rfl rfl dX10_in_18 ?_
      exact ⟨congrArg (fun z => some (Value.int z)) (bI_t ⟨d3, d10⟩).symm, rfl⟩

set_option maxHeartbeats 4000000 in
set_option maxRecDepth 100000 in
theorem c_X10_has {x w : Int32} : Spec l D cA N0 m_X10_has 0 0 0 [.int x, .int w] h (fun r h' => r = some (.int (bI (z_has x w = true))) ∧ h' = h) := by
  refine Spec.of (L := [some (.int x), some (.int w)]) (by decide) rfl (Nat.le_of_ble_eq_true rfl) ?_
  refine R_iload_n0 (pc := 0) dX10_has_0 ?_
  refine R_iload_n1 (pc := 1) dX10_has_1 ?_
  refine R_ishr (pc := 2) dX10_has_2 ?_
  refine R_iconst (pc := 3) (v := 1) dX10_has_3 (by decide) ?_
  refine R_iand (pc := 4) dX10_has_4 ?_
  refine R_iconst (pc := 5) (v := 1) dX10_has_5 (by decide) ?_
  refine R_icmp_ne (pc := 6) 13 dX10_has_6 (by decide) (fun c_6 => ?_) (fun c_6 => ?_)
  · skip
    refine R_iconst (pc := 13) (v := 0) dX10_has_13 (by decide) ?_
    refine R_iret (pc := 14) rfl rfl dX10_has_14 ?_
    exact ⟨congrArg (fun z => some (Value.int z)) (by simp (decide := true) only [bI, z_has, decide_eq_true_eq, c_6, reduceCtorEq, if_true, if_false, reduceIte, and_true, true_and, and_false, false_and, and_self, or_true, true_or, or_false, false_or, or_self, not_true, not_false_iff]), rfl⟩
  · skip
    refine R_iconst (pc := 9) (v := 1) dX10_has_9 (by decide) ?_
    refine R_goto (pc := 10) 14 dX10_has_10 (by decide) ?_
    refine R_iret (pc := 14) rfl rfl dX10_has_14 ?_
    exact ⟨congrArg (fun z => some (Value.int z)) (by simp (decide := true) only [bI, z_has, decide_eq_true_eq, c_6, reduceCtorEq, if_true, if_false, reduceIte, and_true, true_and, and_false, false_and, and_self, or_true, true_or, or_false, false_or, or_self, not_true, not_false_iff]), rfl⟩

set_option maxHeartbeats 4000000 in
set_option maxRecDepth 100000 in
theorem c_X10_isHex {x : Int32} : Spec l D cA N0 m_X10_isHex 1 0 0 [.int x] h (fun r h' => r = some (.int (bI (0 ≤ x ∧ x ≤ 80))) ∧ h' = h) := by
  refine Spec.of (L := [some (.int x)]) (by decide) rfl (Nat.le_of_ble_eq_true rfl) ?_
  refine R_iload_n0 (pc := 0) dX10_isHex_0 ?_
  refine R_i2l (pc := 1) dX10_isHex_1 ?_
  refine R_lconst (pc := 2) (v := 0) dX10_isHex_2 (by decide) ?_
  refine R_ldc2 (pc := 3) dX10_isHex_3 kw891 ?_
  refine R_callS3 (pc := 6) cal_X10_in kw892 kw893 dX10_isHex_6 (c_X10_in rfl (lo := 0) (by decide) (hi := 80) (by decide)) (by decide) (Nat.le_of_ble_eq_true rfl) ?_
  rintro _ _ ⟨rfl, rfl⟩
  refine R_iret (pc := 9) rfl (nar_z bI_01) dX10_isHex_9 ?_
  exact ⟨rfl, rfl⟩

set_option maxHeartbeats 4000000 in
set_option maxRecDepth 100000 in
theorem c_X10_isCaptain {x : Int32} : Spec l D cA N0 m_X10_isCaptain 1 0 0 [.int x] h (fun r h' => r = some (.int (bI (0 ≤ x ∧ x ≤ 1))) ∧ h' = h) := by
  refine Spec.of (L := [some (.int x)]) (by decide) rfl (Nat.le_of_ble_eq_true rfl) ?_
  refine R_iload_n0 (pc := 0) dX10_isCaptain_0 ?_
  refine R_i2l (pc := 1) dX10_isCaptain_1 ?_
  refine R_lconst (pc := 2) (v := 0) dX10_isCaptain_2 (by decide) ?_
  refine R_lconst (pc := 3) (v := 1) dX10_isCaptain_3 (by decide) ?_
  refine R_callS3 (pc := 4) cal_X10_in kw892 kw893 dX10_isCaptain_4 (c_X10_in rfl (lo := 0) (by decide) (hi := 1) (by decide)) (by decide) (Nat.le_of_ble_eq_true rfl) ?_
  rintro _ _ ⟨rfl, rfl⟩
  refine R_iret (pc := 7) rfl (nar_z bI_01) dX10_isCaptain_7 ?_
  exact ⟨rfl, rfl⟩

set_option maxHeartbeats 4000000 in
set_option maxRecDepth 100000 in
theorem c_X10_get (hM : MAt h u M) {i k : Nat} (hi : i < 8) (hk : k < 11) : Spec l D cA N0 m_X10_get 0 0 0 [.ref u, .int (nI i), .int (nI k)] h (fun r h' => r = some (.int (gx M.2.1 i k)) ∧ h' = h) := by
  refine Spec.of (L := [some (.ref u), some (.int (nI i)), some (.int (nI k))]) (by decide) rfl (Nat.le_of_ble_eq_true rfl) ?_
  have q0 : h = mput h u M := (mput_self hM).symm
  have mo0 := hM.o
  have ms0 := hM.s
  have mb0 := hM.b
  have mt0 := hM.t
  have mn0 := hM.n
  have mc0 := hM.c
  refine R_aload_n0 (pc := 0) dX10_get_0 ?_
  refine G_X10_7 (pc := 1) dX10_get_1 (by assumption) ?_
  refine R_bipush (pc := 4) (v := 93) dX10_get_4 (by decide) ?_
  refine R_bipush (pc := 6) (v := 11) dX10_get_6 (by decide) ?_
  refine R_iload_n1 (pc := 8) dX10_get_8 ?_
  refine R_imul (pc := 9) dX10_get_9 ?_
  refine R_iadd (pc := 10) dX10_get_10 ?_
  refine R_iload_n2 (pc := 11) dX10_get_11 ?_
  refine R_iadd (pc := 12) dX10_get_12 ?_
  rw [hix]
  refine R_iald (pc := 13) dX10_get_13 (by assumption) (in_n (show 93 + 11 * i + k < 545 by omega) (by decide)) ?_
  refine R_iret (pc := 14) rfl rfl dX10_get_14 ?_
  exact ⟨by rw [nI_clamp (by omega)]; rfl, rfl⟩

set_option maxHeartbeats 4000000 in
set_option maxRecDepth 100000 in
theorem c_X10_put (hM : MAt h u M) {i k : Nat} (hi : i < 8) (hk : k < 11) {v : Int32} : Spec l D cA N0 m_X10_put 0 0 0 [.ref u, .int (nI i), .int (nI k), .int v] h (fun r h' => r = none ∧ h' = mput h u (sM M (px M.2.1 i k v))) := by
  refine Spec.of (L := [some (.ref u), some (.int (nI i)), some (.int (nI k)), some (.int v)]) (by decide) rfl (Nat.le_of_ble_eq_true rfl) ?_
  have q0 : h = mput h u M := (mput_self hM).symm
  have mo0 := hM.o
  have ms0 := hM.s
  have mb0 := hM.b
  have mt0 := hM.t
  have mn0 := hM.n
  have mc0 := hM.c
  refine R_aload_n0 (pc := 0) dX10_put_0 ?_
  refine G_X10_7 (pc := 1) dX10_put_1 (by assumption) ?_
  refine R_bipush (pc := 4) (v := 93) dX10_put_4 (by decide) ?_
  refine R_bipush (pc := 6) (v := 11) dX10_put_6 (by decide) ?_
  refine R_iload_n1 (pc := 8) dX10_put_8 ?_
  refine R_imul (pc := 9) dX10_put_9 ?_
  refine R_iadd (pc := 10) dX10_put_10 ?_
  refine R_iload_n2 (pc := 11) dX10_put_11 ?_
  refine R_iadd (pc := 12) dX10_put_12 ?_
  rw [hix]
  refine R_iload_n3 (pc := 13) dX10_put_13 ?_
  refine R_iastF (pc := 14) dX10_put_14 (by assumption) (in_n (show 93 + 11 * i + k < 545 by omega) (by decide)) (fun h1 e1 f1 => ?_)
  rw [nI_clamp (show 93 + 11 * i + k < 2 ^ 31 by omega)] at e1 f1
  have q1 := mstep_s q0 e1
  have hM1 := mAt q1
  have mo1 := hM1.o
  have ms1 := hM1.s
  have mb1 := hM1.b
  have mt1 := hM1.t
  have mn1 := hM1.n
  have mc1 := hM1.c
  refine R_vret (pc := 15) rfl dX10_put_15 ?_
  exact ⟨rfl, q1⟩

end LV22
