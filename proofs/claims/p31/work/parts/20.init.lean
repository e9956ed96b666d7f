/-! THE CLASS: its constructors -/
theorem hnew_self (h : AH) (e : AE) {a : Nat} (z : h.1 = a) : (hnew h e).2 a = some e := by rw [← z]; exact hnew_at h e
theorem hnew_out (h : AH) (e : AE) {a b : Nat} (z : h.1 = a) (n : b ≠ a) : (hnew h e).2 b = h.2 b := hnew_ne h e (by rw [z]; exact n)
section NW
variable {l : Launch} {D : va_G} {cA : Nat → ClassId} {N0 : Nat} {own : String} {cc : ByteArray} {nL : Nat} {ret : Option FieldType} {nm : String} {R : Room} {X : State → Prop} {F : List Frame → Array Value → State → State → Prop} {h : AH} {k n pc : Nat} {L : List (Option Value)} {st : List Value}
/-- a new heap gets a name -/
theorem R_nmd {a : Nat} {e : AE} (z : h.1 = a) (kk : ∀ h1 : AH, h1 = hnew h e → h1.2 a = some e → h1.1 = a + 1 → (∀ q, q ≠ a → h1.2 q = h.2 q) → Run l D cA N0 own cc nL ret nm R X F h1 k n pc L (.ref a :: st)) : Run l D cA N0 own cc nL ret nm R X F (hnew h e) k n pc L (.ref h.1 :: st) := by
  rw [z]
  exact kk _ rfl (hnew_self h e z) (by rw [hnew_1, z]) (fun q hq => hnew_out h e z hq)
theorem R_nmp {a : Nat} {e : AE} (kk : ∀ h1 : AH, h1 = hput h a e → h1.2 a = some e → Run l D cA N0 own cc nL ret nm R X F h1 k n pc L st) : Run l D cA N0 own cc nL ret nm R X F (hput h a e) k n pc L st := kk _ rfl (hput_at h a e)
theorem q_ext {t N : Nat} {f g : Nat → Option Nat} (e : f = g) : (some (.inl (t, N, .inr (.inr (.inr (.inr f))))) : Option AE) = some (.inl (t, N, .inr (.inr (.inr (.inr g))))) := by rw [e]
end NW
theorem dfl_X0 : ∀ j, j < 3 → defaultValue (tyX0 j) = vp_V [.int 0, .int 0, .int 0] j := by
  intro j hj
  rcases (by omega : j = 0 ∨ j = 1 ∨ j = 2) with z | z | z <;> subst z <;> rfl
theorem dfl_X1 : ∀ j, j < 10 → defaultValue (tyX1 j) = vp_V [.int 0, .int 0, .int 0, .int 0, .int 0, .int 0, .null, .null, .null, .null] j := by
  intro j hj
  rcases (by omega : j = 0 ∨ j = 1 ∨ j = 2 ∨ j = 3 ∨ j = 4 ∨ j = 5 ∨ j = 6 ∨ j = 7 ∨ j = 8 ∨ j = 9) with z | z | z | z | z | z | z | z | z | z <;> subst z <;> rfl
theorem dfl_X3 : ∀ j, j < 3 → defaultValue (tyX3 j) = vp_V [.null, .null, .int 0] j := by
  intro j hj
  rcases (by omega : j = 0 ∨ j = 1 ∨ j = 2) with z | z | z <;> subst z <;> rfl
theorem dfl_X4 : ∀ j, j < 7 → defaultValue (tyX4 j) = vp_V [.null, .int 0, .int 0, .int 0, .int 0, .int 0, .int 0] j := by
  intro j hj
  rcases (by omega : j = 0 ∨ j = 1 ∨ j = 2 ∨ j = 3 ∨ j = 4 ∨ j = 5 ∨ j = 6) with z | z | z | z | z | z | z <;> subst z <;> rfl
theorem dfl_X6 : ∀ j, j < 4 → defaultValue (tyX6 j) = vp_V [.null, .null, .null, .int 0] j := by
  intro j hj
  rcases (by omega : j = 0 ∨ j = 1 ∨ j = 2 ∨ j = 3) with z | z | z | z <;> subst z <;> rfl
theorem dfl_X7 : ∀ j, j < 12 → defaultValue (tyX7 j) = vp_V [.int 0, .int 0, .int 0, .int 0, .int 0, .int 0, .int 0, .int 0, .int 0, .int 0, .int 0, .int 0] j := by
  intro j hj
  rcases (by omega : j = 0 ∨ j = 1 ∨ j = 2 ∨ j = 3 ∨ j = 4 ∨ j = 5 ∨ j = 6 ∨ j = 7 ∨ j = 8 ∨ j = 9 ∨ j = 10 ∨ j = 11) with z | z | z | z | z | z | z | z | z | z | z | z <;> subst z <;> rfl
theorem dfl_X8 : ∀ j, j < 4 → defaultValue (tyX8 j) = vp_V [.null, .null, .null, .int 0] j := by
  intro j hj
  rcases (by omega : j = 0 ∨ j = 1 ∨ j = 2 ∨ j = 3) with z | z | z | z <;> subst z <;> rfl
theorem dfl_X9 : ∀ j, j < 4 → defaultValue (tyX9 j) = vp_V [.null, .null, .null, .null] j := by
  intro j hj
  rcases (by omega : j = 0 ∨ j = 1 ∨ j = 2 ∨ j = 3) with z | z | z | z <;> subst z <;> rfl
def gi0 : Nat → Int32 := fun j => if j = 3 then 2 else if j = 6 ∨ j = 9 then 63 else if j = 7 ∨ j = 10 then -9 else if j = 8 ∨ j = 11 then 10 else 0
/-- a new game -/
def G0 : Gm := (gi0, fun _ => 0, fun _ j => if j = 8 then -9 else 0)
def S0 : Sm := (G0, G0, G0, 0)
section LV20
variable {l : Launch} {D : va_G} {cA : Nat → ClassId} {N0 : Nat} {h : AH}
set_option maxHeartbeats 4000000 in
set_option maxRecDepth 100000 in
theorem c_X0_init {a : Nat} (ha : h.2 a = some (.inr (0, [.int 0, .int 0, .int 0]))) : Spec l D cA N0 m_X0_init 1 0 0 [.ref a] h (fun r h' => r = none ∧ h' = hput h a (.inr (0, [.int 63, .int (-9), .int 10]))) := by
  refine Spec.of (L := [some (.ref a)]) (by decide) rfl (Nat.le_of_ble_eq_true rfl) ?_
  have ha : h.2 a = some (.inr (0, ob0 gz (fun _ => 0))) := ha
  refine R_aload_n0 (pc := 0) dX0_init_0 ?_
  refine R_objInit (pc := 1) dX0_init_1 kw59 kwObjI kwObjC rfl (by decide) (by decide) ?_
  refine R_aload_n0 (pc := 4) dX0_init_4 ?_
  refine R_bipush (pc := 5) (v := 63) dX0_init_5 (by decide) ?_
  refine P_X0_11 (pc := 7) dX0_init_7 (by assumption) (fun h1 e1 f1 => ?_)
  refine R_aload_n0 (pc := 10) dX0_init_10 ?_
  refine R_bipush (pc := 11) (v := (-9)) dX0_init_11 (by decide) ?_
  refine P_X0_15 (pc := 13) dX0_init_13 (by assumption) (fun h2 e2 f2 => ?_)
  refine R_aload_n0 (pc := 16) dX0_init_16 ?_
  refine R_bipush (pc := 17) (v := 10) dX0_init_17 (by decide) ?_
  refine P_X0_18 (pc := 19) dX0_init_19 (by assumption) (fun h3 e3 f3 => ?_)
  refine R_vret (pc := 22) rfl dX0_init_22 ?_
  exact ⟨rfl, by rw [e3, e2, e1, hput_hput, hput_hput]; rfl⟩

set_option maxHeartbeats 4000000 in
set_option maxRecDepth 100000 in
theorem c_X7_init {a i : Nat} (ha : h.2 a = some (.inr (5, [.int 0, .int 0, .int 0, .int 0, .int 0, .int 0, .int 0, .int 0, .int 0, .int 0, .int 0, .int 0]))) : Spec l D cA N0 m_X7_init 1 0 0 [.ref a, .int (nI i)] h (fun r h' => r = none ∧ h' = hput h a (.inr (5, ob5 gz (shF G0 i)))) := by
  refine Spec.of (L := [some (.ref a), some (.int (nI i))]) (by decide) rfl (Nat.le_of_ble_eq_true rfl) ?_
  refine R_aload_n0 (pc := 0) dX7_init_0 ?_
  refine R_objInit (pc := 1) dX7_init_1 kw79 kwObjI kwObjC rfl (by decide) (by decide) ?_
  refine R_aload_n0 (pc := 4) dX7_init_4 ?_
  refine R_bipush (pc := 5) (v := (-9)) dX7_init_5 (by decide) ?_
  refine PN_X7_9 (pc := 7) dX7_init_7 (by simp) ha (fun h1 e1 f1 => ?_)
  refine R_aload_n0 (pc := 10) dX7_init_10 ?_
  refine R_iload_n1 (pc := 11) dX7_init_11 ?_
  refine PN_X7_15 (pc := 12) dX7_init_12 rfl (by simp) f1 (fun h2 e2 f2 => ?_)
  refine R_vret (pc := 15) rfl dX7_init_15 ?_
  exact ⟨rfl, by rw [e2, e1, hput_hput]; rfl⟩

set_option maxHeartbeats 4000000 in
set_option maxRecDepth 100000 in
theorem L_X1_init {g : Nat} {hB : AH} (hB0 : hB.2 g = some (.inr (1, [.int 0, .int 0, .int 0, .int 2, .int 0, .int 0, .ref (g + 1), .ref (g + 2), .ref (g + 3), .ref (g + 4)]))) : ∀ (n i : Nat) (h1 : AH), i + n = 8 → h1.1 = g + 5 + i → (∀ q, q < g + 4 → h1.2 q = hB.2 q) → h1.2 (g + 4) = some (.inl (2, 8, .inr (.inr (.inr (.inr (fun j => if j < i then some (sad g j) else none)))))) → (∀ j, j < i → h1.2 (sad g j) = some (.inr (5, ob5 gz (shF G0 j)))) → RunM l D cA N0 m_X1_init 2 12 191 (fun r h' => r = none ∧ h'.1 = g + 13 ∧ (∀ q, q < g + 4 → h'.2 q = hB.2 q) ∧ h'.2 (g + 4) = some (.inl (2, 8, .inr (.inr (.inr (.inr (fun j => some (sad g j))))))) ∧ ∀ j, j < 8 → h'.2 (sad g j) = some (.inr (5, ob5 gz (shF G0 j)))) h1 (4 + i) (95 + 12 * i) 50 [some (.ref g), some (.int (nI i))] [] := by
  intro n
  induction n with
  | zero =>
    intro i h1 hi hs hq0 ha hsh
    have o0 := (hq0 g (by omega)).trans hB0
    have him : i = 8 := by omega
    refine R_iload_n1 (pc := 50) dX1_init_50 ?_
    refine R_aload_n0 (pc := 51) dX1_init_51 ?_
    refine GN_X1_33 (pc := 52) dX1_init_52 o0 rfl ?_
    refine R_alen (pc := 55) (v := 8) dX1_init_55 ha (by decide) rfl ?_
    refine R_icmp_ge (pc := 56) 79 dX1_init_56 (by decide) (fun c_56 => ?_) (fun c_56 => absurd (by rw [him]; decide) c_56)
    subst him
    refine R_heap (h2 := hput h1 (g + 4) (.inl (2, 8, .inr (.inr (.inr (.inr (fun j => some (sad g j)))))))) (fun H hR => Rh.norm (at_q (fun j hj => if_pos hj)) (by rw [hput_self ha]; exact hR)) ?_
    refine R_vret (pc := 79) rfl dX1_init_79 ?_
    exact ⟨rfl, hs, fun q hq => by rw [hput_ne _ _ (by omega)]; exact hq0 q hq, hput_at _ _ _, fun j hj => by rw [hput_ne _ _ (by unfold sad; omega)]; exact hsh j hj⟩
  | succ n ih =>
    intro i h1 hi hs hq0 ha hsh
    have o0 := (hq0 g (by omega)).trans hB0
    refine R_iload_n1 (pc := 50) dX1_init_50 ?_
    refine R_aload_n0 (pc := 51) dX1_init_51 ?_
    refine GN_X1_33 (pc := 52) dX1_init_52 o0 rfl ?_
    refine R_alen (pc := 55) (v := 8) dX1_init_55 ha (by decide) rfl ?_
    refine R_icmp_ge (pc := 56) 79 dX1_init_56 (by decide) (fun c_56 => absurd c_56 (nI_ge (show i < 8 by omega) (by decide))) (fun c_56 => ?_)
    refine R_aload_n0 (pc := 59) dX1_init_59 ?_
    refine GN_X1_33 (pc := 60) dX1_init_60 o0 rfl ?_
    refine R_iload_n1 (pc := 63) dX1_init_63 ?_
    refine R_new (pc := 64) (C := RX7) (T := TX7) (N := 12) (ci := 5) (fs := [.int 0, .int 0, .int 0, .int 0, .int 0, .int 0, .int 0, .int 0, .int 0, .int 0, .int 0, .int 0]) (ty := tyX7) dX1_init_64 kw73 kw75 kw24 rfl inXW5 tyX7_ok dfl_X7 (by show _ ≤ 12; omega) (by show _ ≤ 191; omega) ?_
    refine R_nmd hs (fun a64 ea64 fa64 za64 ka64 => ?_)
    have o1 : a64.2 (g + 4) = _ := (ka64 (g + 4) (by omega)).trans ha
    refine R_dup (pc := 67) dX1_init_67 rfl ?_
    refine R_iload_n1 (pc := 68) dX1_init_68 ?_
    refine R_callI1 (pc := 69) cal_X7_init kw76 kw77 rfl rfl dX1_init_69 (c_X7_init fa64) ⟨by decide, by show _ ≤ 12; omega, by show _ ≤ 191; omega⟩ (Nat.le_of_ble_eq_true rfl) ?_
    rintro _ h9 ⟨rfl, e9⟩
    have o2 := (show h9.2 (g + 4) = a64.2 (g + 4) by rw [e9, hput_ne _ _ (by omega)]).trans o1
    have o3 : h9.2 (g + 5 + i) = some (.inr (5, ob5 gz (shF G0 i))) := by rw [e9]; exact hput_at _ _ _
    refine R_aast2 (pc := 72) dX1_init_72 o2 (in_n (show i < 8 by omega) (by decide)) o3 ?_
    refine R_nmp (fun h2 e2 f2 => ?_)
    refine R_iinc1 (pc := 73) dX1_init_73 rfl (by decide) ?_
    refine R_goto (pc := 76) 50 dX1_init_76 (by decide) ?_
    rw [nI_s]
    refine Run.cast (ih (i + 1) h2 (by omega) (by rw [e2, hput_1, e9, hput_1, za64]; rfl) (fun q hq => by rw [e2, hput_ne _ _ (by omega), e9, hput_ne _ _ (by omega), ka64 q (by omega)]; exact hq0 q hq) ?_ (fun j hj => ?_)) rfl (by omega) (by omega) rfl rfl rfl
    · rw [f2, nI_clamp (show i < 2 ^ 31 by omega)]
      refine q_ext ?_
      funext j
      by_cases e : j = i
      · subst e; simp [va_up, sad]
      · simp only [va_up, if_neg e]
        by_cases e2 : j < i
        · rw [if_pos e2, if_pos (by omega)]
        · rw [if_neg e2, if_neg (by omega)]
    · rw [e2, hput_ne _ _ (by unfold sad; omega)]
      by_cases e : j = i
      · subst e; exact o3
      · rw [e9, hput_ne _ _ (by unfold sad; omega), ka64 _ (by unfold sad; omega)]
        exact hsh j (by omega)

set_option maxHeartbeats 4000000 in
set_option maxRecDepth 100000 in
theorem c_X1_init {g : Nat} (hs : h.1 = g + 1) (hm0 : h.2 g = some (.inr (1, [.int 0, .int 0, .int 0, .int 0, .int 0, .int 0, .null, .null, .null, .null]))) : Spec l D cA N0 m_X1_init 2 12 191 [.ref g] h (fun r h' => r = none ∧ h'.1 = g + 13 ∧ (∀ q, q < g → h'.2 q = h.2 q) ∧ GmAt h' g G0) := by
  refine Spec.of (L := [some (.ref g), none]) (by decide) rfl (Nat.le_of_ble_eq_true rfl) ?_
  have z0 : h.1 = g + 1 := hs
  have b0 : ∀ q, q < g → h.2 q = h.2 q := fun _ _ => rfl
  have m0_0 := hm0
  refine R_aload_n0 (pc := 0) dX1_init_0 ?_
  refine R_objInit (pc := 1) dX1_init_1 kw53 kwObjI kwObjC rfl (by decide) (by decide) ?_
  refine R_aload_n0 (pc := 4) dX1_init_4 ?_
  refine R_iconst (pc := 5) (v := 2) dX1_init_5 (by decide) ?_
  refine PN_X1_9 (pc := 6) dX1_init_6 (by simp) m0_0 (fun h1 e1 f1 => ?_)
  have m1_0 : h1.2 g = some (.inr (1, [.int 0, .int 0, .int 0, .int 2, .int 0, .int 0, .null, .null, .null, .null])) := by rw [e1]; exact hput_at _ _ _
  have z1 : h1.1 = g + 1 := by rw [e1]; exact z0
  have b1 : ∀ q, q < g → h1.2 q = h.2 q := fun q hq => (show h1.2 q = h.2 q by rw [e1, hput_ne _ _ (by omega)]).trans (b0 q hq)
  refine R_aload_n0 (pc := 9) dX1_init_9 ?_
  refine R_new (pc := 10) (C := RX0) (T := TX0) (N := 3) (ci := 0) (fs := [.int 0, .int 0, .int 0]) (ty := tyX0) dX1_init_10 kw54 kw55 kw23 rfl inXW0 tyX0_ok dfl_X0 (by decide) (by decide) ?_
  refine R_nmd z1 (fun a10 ea10 fa10 za10 ka10 => ?_)
  have m2_0 := (ka10 g (by omega)).trans m1_0
  have m2_1 : a10.2 (g + 1) = some (.inr (0, [.int 0, .int 0, .int 0])) := fa10
  have z2 : a10.1 = g + 2 := za10
  have b2 : ∀ q, q < g → a10.2 q = h.2 q := fun q hq => (ka10 q (by omega)).trans (b1 q hq)
  refine R_dup (pc := 13) dX1_init_13 rfl ?_
  refine R_callN0 (pc := 14) cal_X0_init (nst_X1_17) kw57 rfl rfl dX1_init_14 (c_X0_init m2_1) (by decide) (Nat.le_of_ble_eq_true rfl) ?_
  rintro _ v14 ⟨rfl, w14⟩
  have m3_0 := (show v14.2 g = a10.2 g by rw [w14, hput_ne _ _ (by omega)]).trans m2_0
  have m3_1 : v14.2 (g + 1) = some (.inr (0, [.int 63, .int (-9), .int 10])) := by rw [w14]; exact hput_at _ _ _
  have z3 : v14.1 = g + 2 := by rw [w14]; exact z2
  have b3 : ∀ q, q < g → v14.2 q = h.2 q := fun q hq => (show v14.2 q = a10.2 q by rw [w14, hput_ne _ _ (by omega)]).trans (b2 q hq)
  refine PN_X1_18 (pc := 17) dX1_init_17 rfl (by simp) m3_0 (fun h2 e2 f2 => ?_)
  have m4_1 := (show h2.2 (g + 1) = v14.2 (g + 1) by rw [e2, hput_ne _ _ (by omega)]).trans m3_1
  have m4_0 : h2.2 g = some (.inr (1, [.int 0, .int 0, .int 0, .int 2, .int 0, .int 0, .ref (g + 1), .null, .null, .null])) := by rw [e2]; exact hput_at _ _ _
  have z4 : h2.1 = g + 2 := by rw [e2]; exact z3
  have b4 : ∀ q, q < g → h2.2 q = h.2 q := fun q hq => (show h2.2 q = v14.2 q by rw [e2, hput_ne _ _ (by omega)]).trans (b3 q hq)
  refine R_aload_n0 (pc := 20) dX1_init_20 ?_
  refine R_new (pc := 21) (C := RX0) (T := TX0) (N := 3) (ci := 0) (fs := [.int 0, .int 0, .int 0]) (ty := tyX0) dX1_init_21 kw54 kw55 kw23 rfl inXW0 tyX0_ok dfl_X0 (by decide) (by decide) ?_
  refine R_nmd z4 (fun a21 ea21 fa21 za21 ka21 => ?_)
  have m5_0 := (ka21 g (by omega)).trans m4_0
  have m5_1 := (ka21 (g + 1) (by omega)).trans m4_1
  have m5_2 : a21.2 (g + 2) = some (.inr (0, [.int 0, .int 0, .int 0])) := fa21
  have z5 : a21.1 = g + 3 := za21
  have b5 : ∀ q, q < g → a21.2 q = h.2 q := fun q hq => (ka21 q (by omega)).trans (b4 q hq)
  refine R_dup (pc := 24) dX1_init_24 rfl ?_
  refine R_callN0 (pc := 25) cal_X0_init (nst_X1_17) kw57 rfl rfl dX1_init_25 (c_X0_init m5_2) (by decide) (Nat.le_of_ble_eq_true rfl) ?_
  rintro _ v25 ⟨rfl, w25⟩
  have m6_0 := (show v25.2 g = a21.2 g by rw [w25, hput_ne _ _ (by omega)]).trans m5_0
  have m6_1 := (show v25.2 (g + 1) = a21.2 (g + 1) by rw [w25, hput_ne _ _ (by omega)]).trans m5_1
  have m6_2 : v25.2 (g + 2) = some (.inr (0, [.int 63, .int (-9), .int 10])) := by rw [w25]; exact hput_at _ _ _
  have z6 : v25.1 = g + 3 := by rw [w25]; exact z5
  have b6 : ∀ q, q < g → v25.2 q = h.2 q := fun q hq => (show v25.2 q = a21.2 q by rw [w25, hput_ne _ _ (by omega)]).trans (b5 q hq)
  refine PN_X1_22 (pc := 28) dX1_init_28 rfl (by simp) m6_0 (fun h3 e3 f3 => ?_)
  have m7_1 := (show h3.2 (g + 1) = v25.2 (g + 1) by rw [e3, hput_ne _ _ (by omega)]).trans m6_1
  have m7_2 := (show h3.2 (g + 2) = v25.2 (g + 2) by rw [e3, hput_ne _ _ (by omega)]).trans m6_2
  have m7_0 : h3.2 g = some (.inr (1, [.int 0, .int 0, .int 0, .int 2, .int 0, .int 0, .ref (g + 1), .ref (g + 2), .null, .null])) := by rw [e3]; exact hput_at _ _ _
  have z7 : h3.1 = g + 3 := by rw [e3]; exact z6
  have b7 : ∀ q, q < g → h3.2 q = h.2 q := fun q hq => (show h3.2 q = v25.2 q by rw [e3, hput_ne _ _ (by omega)]).trans (b6 q hq)
  refine R_aload_n0 (pc := 31) dX1_init_31 ?_
  refine R_bipush (pc := 32) (v := 81) dX1_init_32 (by decide) ?_
  refine R_newi (pc := 34) (N := 81) dX1_init_34 kw129 (by decide) rfl (by decide) (by decide) (by decide) ?_
  refine R_nmd z7 (fun a34 ea34 fa34 za34 ka34 => ?_)
  have m8_0 := (ka34 g (by omega)).trans m7_0
  have m8_1 := (ka34 (g + 1) (by omega)).trans m7_1
  have m8_2 := (ka34 (g + 2) (by omega)).trans m7_2
  have m8_3 : a34.2 (g + 3) = some (.inl (0, 81, .inl (fun _ => 0))) := fa34
  have z8 : a34.1 = g + 4 := za34
  have b8 : ∀ q, q < g → a34.2 q = h.2 q := fun q hq => (ka34 q (by omega)).trans (b7 q hq)
  refine PN_X1_27 (pc := 36) dX1_init_36 rfl (by simp) m8_0 (fun h4 e4 f4 => ?_)
  have m9_1 := (show h4.2 (g + 1) = a34.2 (g + 1) by rw [e4, hput_ne _ _ (by omega)]).trans m8_1
  have m9_2 := (show h4.2 (g + 2) = a34.2 (g + 2) by rw [e4, hput_ne _ _ (by omega)]).trans m8_2
  have m9_3 := (show h4.2 (g + 3) = a34.2 (g + 3) by rw [e4, hput_ne _ _ (by omega)]).trans m8_3
  have m9_0 : h4.2 g = some (.inr (1, [.int 0, .int 0, .int 0, .int 2, .int 0, .int 0, .ref (g + 1), .ref (g + 2), .ref (g + 3), .null])) := by rw [e4]; exact hput_at _ _ _
  have z9 : h4.1 = g + 4 := by rw [e4]; exact z8
  have b9 : ∀ q, q < g → h4.2 q = h.2 q := fun q hq => (show h4.2 q = a34.2 q by rw [e4, hput_ne _ _ (by omega)]).trans (b8 q hq)
  refine R_aload_n0 (pc := 39) dX1_init_39 ?_
  refine R_bipush (pc := 40) (v := 8) dX1_init_40 (by decide) ?_
  refine R_newq2 (pc := 42) (N := 8) dX1_init_42 kw73 (by decide) rfl (by decide) (by decide) (by decide) ?_
  refine R_nmd z9 (fun a42 ea42 fa42 za42 ka42 => ?_)
  have m10_0 := (ka42 g (by omega)).trans m9_0
  have m10_1 := (ka42 (g + 1) (by omega)).trans m9_1
  have m10_2 := (ka42 (g + 2) (by omega)).trans m9_2
  have m10_3 := (ka42 (g + 3) (by omega)).trans m9_3
  have m10_4 : a42.2 (g + 4) = some (.inl (2, 8, .inr (.inr (.inr (.inr (fun _ => none)))))) := fa42
  have z10 : a42.1 = g + 5 := za42
  have b10 : ∀ q, q < g → a42.2 q = h.2 q := fun q hq => (ka42 q (by omega)).trans (b9 q hq)
  refine PN_X1_33 (pc := 45) dX1_init_45 rfl (by simp) m10_0 (fun h5 e5 f5 => ?_)
  have m11_1 := (show h5.2 (g + 1) = a42.2 (g + 1) by rw [e5, hput_ne _ _ (by omega)]).trans m10_1
  have m11_2 := (show h5.2 (g + 2) = a42.2 (g + 2) by rw [e5, hput_ne _ _ (by omega)]).trans m10_2
  have m11_3 := (show h5.2 (g + 3) = a42.2 (g + 3) by rw [e5, hput_ne _ _ (by omega)]).trans m10_3
  have m11_4 := (show h5.2 (g + 4) = a42.2 (g + 4) by rw [e5, hput_ne _ _ (by omega)]).trans m10_4
  have m11_0 : h5.2 g = some (.inr (1, [.int 0, .int 0, .int 0, .int 2, .int 0, .int 0, .ref (g + 1), .ref (g + 2), .ref (g + 3), .ref (g + 4)])) := by rw [e5]; exact hput_at _ _ _
  have z11 : h5.1 = g + 5 := by rw [e5]; exact z10
  have b11 : ∀ q, q < g → h5.2 q = h.2 q := fun q hq => (show h5.2 q = a42.2 q by rw [e5, hput_ne _ _ (by omega)]).trans (b10 q hq)
  refine R_iconst (pc := 48) (v := 0) dX1_init_48 (by decide) ?_
  refine R_istore_n1 (pc := 49) dX1_init_49 rfl (by decide) ?_
  refine R_post (fun r h' q => ?_) (L_X1_init (hB := h5) m11_0 8 0 h5 rfl (by rw [z11]) (fun _ _ => rfl) ?_ (fun j hj => absurd hj (Nat.not_lt_zero j)))
  · obtain ⟨q1, q2, q3, q4, q5⟩ := q
    refine ⟨q1, q2, fun q hq => (q3 q (by omega)).trans (b11 q hq), fun o ho => ?_⟩
    rcases (by omega : o = 0 ∨ o = 1 ∨ o = 2 ∨ o = 3 ∨ o = 4 ∨ 5 ≤ o) with z | z | z | z | z | z
    · subst z; exact (q3 g (by omega)).trans m11_0
    · subst z; exact (q3 (g + 1) (by omega)).trans m11_1
    · subst z; exact (q3 (g + 2) (by omega)).trans m11_2
    · subst z; exact (q3 (g + 3) (by omega)).trans m11_3
    · subst z; exact q4
    · obtain ⟨j, rfl⟩ : ∃ j, o = 5 + j := ⟨o - 5, by omega⟩
      rw [gmAt_sh (by omega)]
      have := q5 j (by omega)
      rw [sad] at this
      rw [show g + (5 + j) = g + 5 + j by omega, this, Nat.add_sub_cancel_left]
  · exact m11_4.trans (q_ext (funext fun j => (if_neg (Nat.not_lt_zero j)).symm))

end LV20
