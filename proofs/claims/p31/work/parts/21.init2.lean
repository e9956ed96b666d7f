/-! THE CLASS: its constructors, on -/
section LV21
variable {l : Launch} {D : va_G} {cA : Nat → ClassId} {N0 : Nat} {h : AH}
theorem GmAt.kp {h h1 : AH} {g : Nat} {G : Gm} (hG : GmAt h g G) {a : Nat} (k : ∀ q, q < a → h1.2 q = h.2 q) (hg : g + 13 ≤ a) : GmAt h1 g G := gAt_keep hG (fun q z1 z2 => k q (by omega))
theorem StAt.kp {h h1 : AH} {g : Nat} {S : Sm} (hG : StAt h g S) {a : Nat} (k : ∀ q, q < a → h1.2 q = h.2 q) (hg : g + 40 ≤ a) : StAt h1 g S := hG.keep (fun q z1 z2 => k q (by omega))
set_option maxHeartbeats 4000000 in
set_option maxRecDepth 100000 in
theorem c_X8_init {s : Nat} (hs : h.1 = s + 1) (hm0 : h.2 s = some (.inr (6, [.null, .null, .null, .int 0]))) : Spec l D cA N0 m_X8_init 3 39 603 [.ref s] h (fun r h' => r = none ∧ h'.1 = s + 40 ∧ (∀ q, q < s → h'.2 q = h.2 q) ∧ StAt h' s S0) := by
  refine Spec.of (L := [some (.ref s)]) (by decide) rfl (Nat.le_of_ble_eq_true rfl) ?_
  have y0 : h.2 s = some (.inr (6, [.null, .null, .null, .int 0])) := hm0
  have b0 : ∀ q, q < s → h.2 q = h.2 q := fun _ _ => rfl
  refine R_aload_n0 (pc := 0) dX8_init_0 ?_
  refine R_objInit (pc := 1) dX8_init_1 kw47 kwObjI kwObjC rfl (by decide) (by decide) ?_
  refine R_aload_n0 (pc := 4) dX8_init_4 ?_
  refine R_new (pc := 5) (C := RX1) (T := TX1) (N := 10) (ci := 1) (fs := [.int 0, .int 0, .int 0, .int 0, .int 0, .int 0, .null, .null, .null, .null]) (ty := tyX1) dX8_init_5 kw48 kw49 kw22 rfl inXW1 tyX1_ok dfl_X1 (by decide) (by decide) ?_
  refine R_nmd hs (fun a5 ea5 fa5 za5 ka5 => ?_)
  have y5 := (ka5 s (by omega)).trans y0
  have b5 : ∀ q, q < s → a5.2 q = h.2 q := fun q hq => (ka5 q (by omega)).trans (b0 q hq)
  refine R_dup (pc := 8) dX8_init_8 rfl ?_
  refine R_callI0 (pc := 9) cal_X1_init kw50 kw51 rfl rfl dX8_init_9 (c_X1_init za5 fa5) (by decide) (Nat.le_of_ble_eq_true rfl) ?_
  rintro _ v9 ⟨rfl, z9, w9, G9_0⟩
  have y9 := (w9 s (by omega)).trans y5
  have b9 : ∀ q, q < s → v9.2 q = h.2 q := fun q hq => (w9 q (by omega)).trans (b5 q hq)
  refine PN_X8_12 (pc := 12) dX8_init_12 rfl (by simp) y9 (fun h1 e1 f1 => ?_)
  have y12 : h1.2 s = some (.inr (6, [.ref (s + 1), .null, .null, .int 0])) := f1
  have z12 : h1.1 = s + 1 + 13 := by rw [e1]; exact z9
  have k12 : ∀ q, q ≠ s → h1.2 q = v9.2 q := fun q hq => by rw [e1, hput_ne _ _ hq]
  have b12 : ∀ q, q < s → h1.2 q = h.2 q := fun q hq => (k12 q (by omega)).trans (b9 q hq)
  have G12_0 := gAt_keep G9_0 (h1 := h1) (fun q z1 z2 => k12 q (by omega))
  refine R_aload_n0 (pc := 15) dX8_init_15 ?_
  refine R_new (pc := 16) (C := RX1) (T := TX1) (N := 10) (ci := 1) (fs := [.int 0, .int 0, .int 0, .int 0, .int 0, .int 0, .null, .null, .null, .null]) (ty := tyX1) dX8_init_16 kw48 kw49 kw22 rfl inXW1 tyX1_ok dfl_X1 (by decide) (by decide) ?_
  refine R_nmd z12 (fun a16 ea16 fa16 za16 ka16 => ?_)
  have y16 := (ka16 s (by omega)).trans y12
  have b16 : ∀ q, q < s → a16.2 q = h.2 q := fun q hq => (ka16 q (by omega)).trans (b12 q hq)
  have G16_0 : GmAt a16 (s + 1) G0 := gAt_keep G12_0 (fun q z1 z2 => ka16 q (by omega))
  refine R_dup (pc := 19) dX8_init_19 rfl ?_
  refine R_callI0 (pc := 20) cal_X1_init kw50 kw51 rfl rfl dX8_init_20 (c_X1_init za16 fa16) (by decide) (Nat.le_of_ble_eq_true rfl) ?_
  rintro _ v20 ⟨rfl, z20, w20, G20_1⟩
  have y20 := (w20 s (by omega)).trans y16
  have b20 : ∀ q, q < s → v20.2 q = h.2 q := fun q hq => (w20 q (by omega)).trans (b16 q hq)
  have G20_0 := G16_0.kp w20 (by omega)
  refine PN_X8_18 (pc := 23) dX8_init_23 rfl (by simp) y20 (fun h2 e2 f2 => ?_)
  have y23 : h2.2 s = some (.inr (6, [.ref (s + 1), .ref (s + 1 + 13), .null, .int 0])) := f2
  have z23 : h2.1 = s + 1 + 26 := by rw [e2]; exact z20
  have k23 : ∀ q, q ≠ s → h2.2 q = v20.2 q := fun q hq => by rw [e2, hput_ne _ _ hq]
  have b23 : ∀ q, q < s → h2.2 q = h.2 q := fun q hq => (k23 q (by omega)).trans (b20 q hq)
  have G23_0 := gAt_keep G20_0 (h1 := h2) (fun q z1 z2 => k23 q (by omega))
  have G23_1 := gAt_keep G20_1 (h1 := h2) (fun q z1 z2 => k23 q (by omega))
  refine R_aload_n0 (pc := 26) dX8_init_26 ?_
  refine R_new (pc := 27) (C := RX1) (T := TX1) (N := 10) (ci := 1) (fs := [.int 0, .int 0, .int 0, .int 0, .int 0, .int 0, .null, .null, .null, .null]) (ty := tyX1) dX8_init_27 kw48 kw49 kw22 rfl inXW1 tyX1_ok dfl_X1 (by decide) (by decide) ?_
  refine R_nmd z23 (fun a27 ea27 fa27 za27 ka27 => ?_)
  have y27 := (ka27 s (by omega)).trans y23
  have b27 : ∀ q, q < s → a27.2 q = h.2 q := fun q hq => (ka27 q (by omega)).trans (b23 q hq)
  have G27_0 : GmAt a27 (s + 1) G0 := gAt_keep G23_0 (fun q z1 z2 => ka27 q (by omega))
  have G27_1 : GmAt a27 (s + 1 + 13) G0 := gAt_keep G23_1 (fun q z1 z2 => ka27 q (by omega))
  refine R_dup (pc := 30) dX8_init_30 rfl ?_
  refine R_callI0 (pc := 31) cal_X1_init kw50 kw51 rfl rfl dX8_init_31 (c_X1_init za27 fa27) (by decide) (Nat.le_of_ble_eq_true rfl) ?_
  rintro _ v31 ⟨rfl, z31, w31, G31_2⟩
  have y31 := (w31 s (by omega)).trans y27
  have b31 : ∀ q, q < s → v31.2 q = h.2 q := fun q hq => (w31 q (by omega)).trans (b27 q hq)
  have G31_0 := G27_0.kp w31 (by omega)
  have G31_1 := G27_1.kp w31 (by omega)
  refine PN_X8_21 (pc := 34) dX8_init_34 rfl (by simp) y31 (fun h3 e3 f3 => ?_)
  have y34 : h3.2 s = some (.inr (6, [.ref (s + 1), .ref (s + 1 + 13), .ref (s + 1 + 26), .int 0])) := f3
  have z34 : h3.1 = s + 1 + 39 := by rw [e3]; exact z31
  have k34 : ∀ q, q ≠ s → h3.2 q = v31.2 q := fun q hq => by rw [e3, hput_ne _ _ hq]
  have b34 : ∀ q, q < s → h3.2 q = h.2 q := fun q hq => (k34 q (by omega)).trans (b31 q hq)
  have G34_0 := gAt_keep G31_0 (h1 := h3) (fun q z1 z2 => k34 q (by omega))
  have G34_1 := gAt_keep G31_1 (h1 := h3) (fun q z1 z2 => k34 q (by omega))
  have G34_2 := gAt_keep G31_2 (h1 := h3) (fun q z1 z2 => k34 q (by omega))
  refine R_vret (pc := 37) rfl dX8_init_37 ?_
  exact ⟨rfl, z34, b34, y34, G34_0, G34_1, G34_2⟩

set_option maxHeartbeats 4000000 in
set_option maxRecDepth 100000 in
theorem L_X3_init {b : Nat} {hB : AH} (hB0 : hB.2 b = some (.inr (2, [.ref (b + 1), .ref (b + 2), .int 0]))) : ∀ (n i : Nat) (h1 : AH), i + n = 6 → h1.1 = b + 42 + 40 * i → (∀ q, q < b + 42 → q ≠ b + 1 → h1.2 q = hB.2 q) → h1.2 (b + 1) = some (.inl (3, 6, .inr (.inr (.inr (.inr (fun j => if j < i then some (b + 42 + 40 * j) else none)))))) → (∀ j, j < i → StAt h1 (b + 42 + 40 * j) S0) → RunM l D cA N0 m_X3_init 4 281 4255 (fun r h' => r = none ∧ h'.1 = b + 282 ∧ (∀ q, q < b + 42 → q ≠ b + 1 → h'.2 q = hB.2 q) ∧ h'.2 (b + 1) = some (hrow (fun j => b + 42 + 40 * j)) ∧ ∀ j, j < 6 → StAt h' (b + 42 + 40 * j) S0) h1 (41 + 40 * i) (613 + 607 * i) 26 [some (.ref b), some (.int (nI i))] [] := by
  intro n
  induction n with
  | zero =>
    intro i h1 hi hs hq0 ha hsh
    have o0 := (hq0 b (by omega) (by omega)).trans hB0
    have him : i = 6 := by omega
    refine R_iload_n1 (pc := 26) dX3_init_26 ?_
    refine R_aload_n0 (pc := 27) dX3_init_27 ?_
    refine GN_X3_13 (pc := 28) dX3_init_28 o0 rfl ?_
    refine R_alen (pc := 31) (v := 6) dX3_init_31 ha (by decide) rfl ?_
    refine R_icmp_ge (pc := 32) 54 dX3_init_32 (by decide) (fun c_32 => ?_) (fun c_32 => absurd (by rw [him]; decide) c_32)
    subst him
    refine R_heap (h2 := hput h1 (b + 1) (hrow (fun j => b + 42 + 40 * j))) (fun H hR => Rh.norm (at_q (fun j hj => if_pos hj)) (by rw [hput_self ha]; exact hR)) ?_
    refine R_vret (pc := 54) rfl dX3_init_54 ?_
    exact ⟨rfl, hs, fun q hq hq1 => by rw [hput_ne _ _ hq1]; exact hq0 q hq hq1, hput_at _ _ _, fun j hj => (hsh j hj).keep (fun q z1 z2 => hput_ne _ _ (by omega))⟩
  | succ n ih =>
    intro i h1 hi hs hq0 ha hsh
    have o0 := (hq0 b (by omega) (by omega)).trans hB0
    refine R_iload_n1 (pc := 26) dX3_init_26 ?_
    refine R_aload_n0 (pc := 27) dX3_init_27 ?_
    refine GN_X3_13 (pc := 28) dX3_init_28 o0 rfl ?_
    refine R_alen (pc := 31) (v := 6) dX3_init_31 ha (by decide) rfl ?_
    refine R_icmp_ge (pc := 32) 54 dX3_init_32 (by decide) (fun c_32 => absurd c_32 (nI_ge (show i < 6 by omega) (by decide))) (fun c_32 => ?_)
    refine R_aload_n0 (pc := 35) dX3_init_35 ?_
    refine GN_X3_13 (pc := 36) dX3_init_36 o0 rfl ?_
    refine R_iload_n1 (pc := 39) dX3_init_39 ?_
    refine R_new (pc := 40) (C := RX8) (T := TX8) (N := 4) (ci := 6) (fs := [.null, .null, .null, .int 0]) (ty := tyX8) dX3_init_40 kw182 kw43 kw21 rfl inXW6 tyX8_ok dfl_X8 (by show _ ≤ 281; omega) (by show _ ≤ 4255; omega) ?_
    refine R_nmd hs (fun a40 ea40 fa40 za40 ka40 => ?_)
    have o1 : a40.2 (b + 1) = _ := (ka40 (b + 1) (by omega)).trans ha
    refine R_dup (pc := 43) dX3_init_43 rfl ?_
    refine R_callN0 (pc := 44) cal_X8_init (nst_X3_17) kw45 rfl rfl dX3_init_44 (c_X8_init za40 fa40) ⟨by decide, by show _ ≤ 281; omega, by show _ ≤ 4255; omega⟩ (Nat.le_of_ble_eq_true rfl) ?_
    rintro _ h9 ⟨rfl, z9, k9, o3⟩
    have o2 := (k9 (b + 1) (by omega)).trans o1
    refine R_aast3 (pc := 47) dX3_init_47 o2 (in_n (show i < 6 by omega) (by decide)) o3.1 ?_
    refine R_nmp (fun h2 e2 f2 => ?_)
    refine R_iinc1 (pc := 48) dX3_init_48 rfl (by decide) ?_
    refine R_goto (pc := 51) 26 dX3_init_51 (by decide) ?_
    rw [nI_s]
    refine Run.cast (ih (i + 1) h2 (by omega) (by rw [e2, hput_1, z9]; omega) (fun q hq hq1 => by rw [e2, hput_ne _ _ hq1, k9 q (by omega), ka40 q (by omega)]; exact hq0 q hq hq1) ?_ (fun j hj => ?_)) rfl (by omega) (by omega) rfl rfl rfl
    · rw [f2, nI_clamp (show i < 2 ^ 31 by omega)]
      refine q_ext ?_
      funext j
      by_cases e : j = i
      · subst e; simp [va_up]
      · simp only [va_up, if_neg e]
        by_cases e2 : j < i
        · rw [if_pos e2, if_pos (by omega)]
        · rw [if_neg e2, if_neg (by omega)]
    · refine StAt.keep (h := h9) ?_ (fun q z1 z2 => by rw [e2, hput_ne _ _ (by omega)])
      by_cases e : j = i
      · subst e; exact o3
      · exact ((hsh j (by omega)).keep (fun q z1 z2 => ka40 q (by omega))).kp k9 (by omega)

set_option maxHeartbeats 4000000 in
set_option maxRecDepth 100000 in
theorem c_X3_init {b : Nat} (hs : h.1 = b + 1) (hm0 : h.2 b = some (.inr (2, [.null, .null, .int 0]))) : Spec l D cA N0 m_X3_init 4 281 4255 [.ref b] h (fun r h' => r = none ∧ h'.1 = b + 282 ∧ (∀ q, q < b → h'.2 q = h.2 q) ∧ h'.2 b = some (.inr (2, [.ref (b + 1), .ref (b + 2), .int 0])) ∧ h'.2 (b + 1) = some (hrow (fun j => b + 42 + 40 * j)) ∧ StAt h' (b + 2) S0 ∧ ∀ j, j < 6 → StAt h' (b + 42 + 40 * j) S0) := by
  refine Spec.of (L := [some (.ref b), none]) (by decide) rfl (Nat.le_of_ble_eq_true rfl) ?_
  refine R_aload_n0 (pc := 0) dX3_init_0 ?_
  refine R_objInit (pc := 1) dX3_init_1 kw181 kwObjI kwObjC rfl (by decide) (by decide) ?_
  refine R_aload_n0 (pc := 4) dX3_init_4 ?_
  refine R_bipush (pc := 5) (v := 6) dX3_init_5 (by decide) ?_
  refine R_newq3 (pc := 7) (N := 6) dX3_init_7 kw182 (by decide) rfl (by decide) (by decide) (by decide) ?_
  refine R_nmd hs (fun a7 ea7 fa7 za7 ka7 => ?_)
  have y7 := (ka7 b (by omega)).trans hm0
  refine PN_X3_13 (pc := 10) dX3_init_10 rfl (by simp) y7 (fun h1 e1 f1 => ?_)
  have y10 : h1.2 b = some (.inr (2, [.ref (b + 1), .null, .int 0])) := f1
  have z10 : h1.1 = b + 2 := by rw [e1]; exact za7
  have x10 : h1.2 (b + 1) = some (.inl (3, 6, .inr (.inr (.inr (.inr (fun _ => none)))))) := by rw [e1, hput_ne _ _ (by omega)]; exact fa7
  have b10 : ∀ q, q < b → h1.2 q = h.2 q := fun q hq => by rw [e1, hput_ne _ _ (by omega), ka7 q (by omega)]
  refine R_aload_n0 (pc := 13) dX3_init_13 ?_
  refine R_new (pc := 14) (C := RX8) (T := TX8) (N := 4) (ci := 6) (fs := [.null, .null, .null, .int 0]) (ty := tyX8) dX3_init_14 kw182 kw43 kw21 rfl inXW6 tyX8_ok dfl_X8 (by decide) (by decide) ?_
  refine R_nmd z10 (fun a14 ea14 fa14 za14 ka14 => ?_)
  have y14 := (ka14 b (by omega)).trans y10
  have x14 := (ka14 (b + 1) (by omega)).trans x10
  have b14 : ∀ q, q < b → a14.2 q = h.2 q := fun q hq => (ka14 q (by omega)).trans (b10 q hq)
  refine R_dup (pc := 17) dX3_init_17 rfl ?_
  refine R_callN0 (pc := 18) cal_X8_init (nst_X3_17) kw45 rfl rfl dX3_init_18 (c_X8_init za14 fa14) (by decide) (Nat.le_of_ble_eq_true rfl) ?_
  rintro _ v18 ⟨rfl, z18, k18, S18⟩
  have y18 := (k18 b (by omega)).trans y14
  have x18 := (k18 (b + 1) (by omega)).trans x14
  have b18 : ∀ q, q < b → v18.2 q = h.2 q := fun q hq => (k18 q (by omega)).trans (b14 q hq)
  refine PN_X3_18 (pc := 21) dX3_init_21 (by simp) y18 (fun h2 e2 f2 => ?_)
  have y21 : h2.2 b = some (.inr (2, [.ref (b + 1), .ref (b + 2), .int 0])) := f2
  have x21 := (show h2.2 (b + 1) = v18.2 (b + 1) by rw [e2, hput_ne _ _ (by omega)]).trans x18
  have b21 : ∀ q, q < b → h2.2 q = h.2 q := fun q hq => (show h2.2 q = v18.2 q by rw [e2, hput_ne _ _ (by omega)]).trans (b18 q hq)
  have S21 : StAt h2 (b + 2) S0 := StAt.keep S18 (fun q z1 z2 => by rw [e2, hput_ne _ _ (by omega)])
  have z21 : h2.1 = b + 42 := by rw [e2]; exact z18
  refine R_iconst (pc := 24) (v := 0) dX3_init_24 (by decide) ?_
  refine R_istore_n1 (pc := 25) dX3_init_25 rfl (by decide) ?_
  refine R_post (fun r h' q => ?_) (L_X3_init (hB := h2) y21 6 0 h2 rfl (by rw [z21]) (fun _ _ _ => rfl) ?_ (fun j hj => absurd hj (Nat.not_lt_zero j)))
  · obtain ⟨q1, q2, q3, q4, q5⟩ := q
    exact ⟨q1, q2, fun q hq => (q3 q (by omega) (by omega)).trans (b21 q hq), (q3 b (by omega) (by omega)).trans y21, q4, S21.keep (fun q z1 z2 => q3 q (by omega) (by omega)), q5⟩
  · exact x21.trans (q_ext (funext fun j => (if_neg (Nat.not_lt_zero j)).symm))

set_option maxHeartbeats 4000000 in
set_option maxRecDepth 100000 in
theorem c_X4_init {u : Nat} (hs : h.1 = u + 1) (hm0 : h.2 u = some (.inr (3, [.null, .int 0, .int 0, .int 0, .int 0, .int 0, .int 0]))) : Spec l D cA N0 m_X4_init 1 1 100 [.ref u] h (fun r h' => r = none ∧ h'.1 = u + 2 ∧ (∀ q, q < u → h'.2 q = h.2 q) ∧ h'.2 u = some (.inr (3, [.ref (u + 1), .int 0, .int 0, .int 0, .int 0, .int 0, .int 0])) ∧ h'.2 (u + 1) = some (.inl (0, 100, .inl (fun _ => 0)))) := by
  refine Spec.of (L := [some (.ref u)]) (by decide) rfl (Nat.le_of_ble_eq_true rfl) ?_
  refine R_aload_n0 (pc := 0) dX4_init_0 ?_
  refine R_objInit (pc := 1) dX4_init_1 kw200 kwObjI kwObjC rfl (by decide) (by decide) ?_
  refine R_aload_n0 (pc := 4) dX4_init_4 ?_
  refine R_bipush (pc := 5) (v := 100) dX4_init_5 (by decide) ?_
  refine R_newi (pc := 7) (N := 100) dX4_init_7 kw129 (by decide) rfl (by decide) (by decide) (by decide) ?_
  refine R_nmd hs (fun a7 ea7 fa7 za7 ka7 => ?_)
  have y7 := (ka7 u (by omega)).trans hm0
  refine PN_X4_11 (pc := 9) dX4_init_9 rfl (by simp) y7 (fun h1 e1 f1 => ?_)
  refine R_vret (pc := 12) rfl dX4_init_12 ?_
  exact ⟨rfl, by rw [e1]; exact za7, fun q hq => by rw [e1, hput_ne _ _ (by omega), ka7 q (by omega)], f1, by rw [e1, hput_ne _ _ (by omega)]; exact fa7⟩

set_option maxHeartbeats 4000000 in
set_option maxRecDepth 100000 in
theorem c_X6_init {u : Nat} (hs : h.1 = u + 1) (hm0 : h.2 u = some (.inr (4, [.null, .null, .null, .int 0]))) : Spec l D cA N0 m_X6_init 1 3 1053 [.ref u] h (fun r h' => r = none ∧ h'.1 = u + 4 ∧ (∀ q, q < u → h'.2 q = h.2 q) ∧ RtAt h' u (fun _ => some 0, fun _ => 0, fun _ => some 0, 0)) := by
  refine Spec.of (L := [some (.ref u)]) (by decide) rfl (Nat.le_of_ble_eq_true rfl) ?_
  have z0 : h.1 = u + 1 := hs
  have b0 : ∀ q, q < u → h.2 q = h.2 q := fun _ _ => rfl
  have m0_0 := hm0
  refine R_aload_n0 (pc := 0) dX6_init_0 ?_
  refine R_objInit (pc := 1) dX6_init_1 kw223 kwObjI kwObjC rfl (by decide) (by decide) ?_
  refine R_aload_n0 (pc := 4) dX6_init_4 ?_
  refine R_sipush (pc := 5) (v := 486) dX6_init_5 (by decide) ?_
  refine R_newi (pc := 8) (N := 486) dX6_init_8 kw129 (by decide) rfl (by decide) (by decide) (by decide) ?_
  refine R_nmd z0 (fun a8 ea8 fa8 za8 ka8 => ?_)
  have m1_0 := (ka8 u (by omega)).trans m0_0
  have m1_1 : a8.2 (u + 1) = some (.inl (0, 486, .inl (fun _ => 0))) := fa8
  have z1 : a8.1 = u + 2 := za8
  have b1 : ∀ q, q < u → a8.2 q = h.2 q := fun q hq => (ka8 q (by omega)).trans (b0 q hq)
  refine PN_X6_13 (pc := 10) dX6_init_10 rfl (by simp) m1_0 (fun h1 e1 f1 => ?_)
  have m2_1 := (show h1.2 (u + 1) = a8.2 (u + 1) by rw [e1, hput_ne _ _ (by omega)]).trans m1_1
  have m2_0 : h1.2 u = some (.inr (4, [.ref (u + 1), .null, .null, .int 0])) := by rw [e1]; exact hput_at _ _ _
  have z2 : h1.1 = u + 2 := by rw [e1]; exact z1
  have b2 : ∀ q, q < u → h1.2 q = h.2 q := fun q hq => (show h1.2 q = a8.2 q by rw [e1, hput_ne _ _ (by omega)]).trans (b1 q hq)
  refine R_aload_n0 (pc := 13) dX6_init_13 ?_
  refine R_sipush (pc := 14) (v := 486) dX6_init_14 (by decide) ?_
  refine R_newi (pc := 17) (N := 486) dX6_init_17 kw129 (by decide) rfl (by decide) (by decide) (by decide) ?_
  refine R_nmd z2 (fun a17 ea17 fa17 za17 ka17 => ?_)
  have m3_0 := (ka17 u (by omega)).trans m2_0
  have m3_1 := (ka17 (u + 1) (by omega)).trans m2_1
  have m3_2 : a17.2 (u + 2) = some (.inl (0, 486, .inl (fun _ => 0))) := fa17
  have z3 : a17.1 = u + 3 := za17
  have b3 : ∀ q, q < u → a17.2 q = h.2 q := fun q hq => (ka17 q (by omega)).trans (b2 q hq)
  refine PN_X6_17 (pc := 19) dX6_init_19 rfl (by simp) m3_0 (fun h2 e2 f2 => ?_)
  have m4_1 := (show h2.2 (u + 1) = a17.2 (u + 1) by rw [e2, hput_ne _ _ (by omega)]).trans m3_1
  have m4_2 := (show h2.2 (u + 2) = a17.2 (u + 2) by rw [e2, hput_ne _ _ (by omega)]).trans m3_2
  have m4_0 : h2.2 u = some (.inr (4, [.ref (u + 1), .ref (u + 2), .null, .int 0])) := by rw [e2]; exact hput_at _ _ _
  have z4 : h2.1 = u + 3 := by rw [e2]; exact z3
  have b4 : ∀ q, q < u → h2.2 q = h.2 q := fun q hq => (show h2.2 q = a17.2 q by rw [e2, hput_ne _ _ (by omega)]).trans (b3 q hq)
  refine R_aload_n0 (pc := 22) dX6_init_22 ?_
  refine R_bipush (pc := 23) (v := 81) dX6_init_23 (by decide) ?_
  refine R_newi (pc := 25) (N := 81) dX6_init_25 kw129 (by decide) rfl (by decide) (by decide) (by decide) ?_
  refine R_nmd z4 (fun a25 ea25 fa25 za25 ka25 => ?_)
  have m5_0 := (ka25 u (by omega)).trans m4_0
  have m5_1 := (ka25 (u + 1) (by omega)).trans m4_1
  have m5_2 := (ka25 (u + 2) (by omega)).trans m4_2
  have m5_3 : a25.2 (u + 3) = some (.inl (0, 81, .inl (fun _ => 0))) := fa25
  have z5 : a25.1 = u + 4 := za25
  have b5 : ∀ q, q < u → a25.2 q = h.2 q := fun q hq => (ka25 q (by omega)).trans (b4 q hq)
  refine PN_X6_20 (pc := 27) dX6_init_27 rfl (by simp) m5_0 (fun h3 e3 f3 => ?_)
  have m6_1 := (show h3.2 (u + 1) = a25.2 (u + 1) by rw [e3, hput_ne _ _ (by omega)]).trans m5_1
  have m6_2 := (show h3.2 (u + 2) = a25.2 (u + 2) by rw [e3, hput_ne _ _ (by omega)]).trans m5_2
  have m6_3 := (show h3.2 (u + 3) = a25.2 (u + 3) by rw [e3, hput_ne _ _ (by omega)]).trans m5_3
  have m6_0 : h3.2 u = some (.inr (4, [.ref (u + 1), .ref (u + 2), .ref (u + 3), .int 0])) := by rw [e3]; exact hput_at _ _ _
  have z6 : h3.1 = u + 4 := by rw [e3]; exact z5
  have b6 : ∀ q, q < u → h3.2 q = h.2 q := fun q hq => (show h3.2 q = a25.2 q by rw [e3, hput_ne _ _ (by omega)]).trans (b5 q hq)
  refine R_vret (pc := 30) rfl dX6_init_30 ?_
  exact ⟨rfl, z6, b6, m6_0, m6_1, m6_2, m6_3⟩

def C0 : Cm := (S0, 0, fun _ => S0, fun _ => 0, 0)
theorem S0_bz : sBz S0 := ⟨Or.inl rfl, Or.inl rfl, Or.inl rfl⟩
theorem X9_fin {h h4 v9 v20 v31 v42 : AH} {w : Nat} (y45 : h4.2 w = some (.inr (7, [.ref (w + 1), .ref (w + 41), .ref (w + 323), .ref (w + 325)]))) (k4 : ∀ q, q ≠ w → h4.2 q = v42.2 q) (k3 : ∀ q, q < w + 325 → q ≠ w → v42.2 q = v31.2 q) (k2 : ∀ q, q < w + 323 → q ≠ w → v31.2 q = v20.2 q) (k1 : ∀ q, q < w + 41 → q ≠ w → v20.2 q = v9.2 q) (k0 : ∀ q, q < w → v9.2 q = h.2 q) (S9 : StAt v9 (w + 1) S0) (H1 : v20.2 (w + 41) = some (.inr (2, [.ref (w + 41 + 1), .ref (w + 41 + 2), .int 0]))) (H2 : v20.2 (w + 41 + 1) = some (hrow (fun j => w + 41 + 42 + 40 * j))) (H3 : StAt v20 (w + 41 + 2) S0) (H4 : ∀ j, j < 6 → StAt v20 (w + 41 + 42 + 40 * j) S0) (O1 : v31.2 (w + 323) = some (.inr (3, [.ref (w + 323 + 1), .int 0, .int 0, .int 0, .int 0, .int 0, .int 0]))) (O2 : v31.2 (w + 323 + 1) = some (.inl (0, 100, .inl (fun _ => 0)))) (R1 : RtAt v42 (w + 325) (fun _ => some 0, fun _ => 0, fun _ => some 0, 0)) : (∀ q, q < w → h4.2 q = h.2 q) ∧ CAt h4 w C0 := by
  have kC : ∀ q, w < q → q < w + 325 → h4.2 q = v31.2 q := fun q z1 z2 => (k4 q (by omega)).trans (k3 q (by omega) (by omega))
  have kB : ∀ q, w < q → q < w + 323 → h4.2 q = v20.2 q := fun q z1 z2 => (kC q z1 (by omega)).trans (k2 q (by omega) (by omega))
  have kA : ∀ q, w < q → q < w + 41 → h4.2 q = v9.2 q := fun q z1 z2 => (kB q z1 (by omega)).trans (k1 q (by omega) (by omega))
  have pe : ∀ j, pos (fun j => w + 83 + 40 * j) (w + 43) j = if j < 6 then w + 83 + 40 * j else w + 43 := fun j => rfl
  refine ⟨fun q hq => (k4 q (by omega)).trans ((k3 q (by omega) (by omega)).trans ((k2 q (by omega) (by omega)).trans ((k1 q (by omega) (by omega)).trans (k0 q hq)))), fun j => w + 83 + 40 * j, (fun k => if k = 0 then w + 42 else w + 43), fun _ => S0, 0, fun _ => 0, fun _ => w + 324, (fun _ => some 0, fun _ => 0, fun _ => some 0, 0), ⟨y45, S9.keep (fun q z1 z2 => kA q (by omega) (by omega)), (kB _ (by omega) (by omega)).trans H1, (kB _ (by omega) (by omega)).trans H2, fun j hj => ?_, (kC _ (by omega) (by omega)).trans O1, (kC _ (by omega) (by omega)).trans O2, R1.keep (fun q z1 z2 => k4 q (by omega))⟩, ⟨by decide, by decide, rfl, rfl, fun j hj => ?_, fun i j hi hj hp => ?_, fun j hj => S0_bz⟩, fun j hj => absurd hj (Nat.not_lt_zero j)⟩
  · show StAt h4 (pos (fun j => w + 83 + 40 * j) (w + 43) j) S0
    rw [pe]
    split
    · exact (H4 j (by omega)).keep (fun q z1 z2 => kB q (by omega) (by omega))
    · exact H3.keep (fun q z1 z2 => kB q (by omega) (by omega))
  · show ∃ k, k < 7 ∧ pos (fun j => w + 83 + 40 * j) (w + 43) j = w + 43 + 40 * k
    rw [pe]
    split
    · exact ⟨j + 1, by omega, by omega⟩
    · exact ⟨0, by omega, rfl⟩
  · have hp : pos (fun j => w + 83 + 40 * j) (w + 43) i = pos (fun j => w + 83 + 40 * j) (w + 43) j := hp
    rw [pe i, pe j] at hp
    split at hp <;> split at hp <;> omega

set_option maxHeartbeats 4000000 in
set_option maxRecDepth 100000 in
theorem c_X9_init {w : Nat} (hs : h.1 = w + 1) (hm0 : h.2 w = some (.inr (7, [.null, .null, .null, .null]))) : Spec l D cA N0 m_X9_init 5 328 6029 [.ref w] h (fun r h' => r = none ∧ h'.1 = w + 329 ∧ (∀ q, q < w → h'.2 q = h.2 q) ∧ CAt h' w C0) := by
  refine Spec.of (L := [some (.ref w)]) (by decide) rfl (Nat.le_of_ble_eq_true rfl) ?_
  refine R_aload_n0 (pc := 0) dX9_init_0 ?_
  refine R_objInit (pc := 1) dX9_init_1 kw39 kwObjI kwObjC rfl (by decide) (by decide) ?_
  refine R_aload_n0 (pc := 4) dX9_init_4 ?_
  refine R_new (pc := 5) (C := RX8) (T := TX8) (N := 4) (ci := 6) (fs := [.null, .null, .null, .int 0]) (ty := tyX8) dX9_init_5 kw42 kw43 kw21 rfl inXW6 tyX8_ok dfl_X8 (by decide) (by decide) ?_
  refine R_nmd hs (fun a5 ea5 fa5 za5 ka5 => ?_)
  have y5 := (ka5 w (by omega)).trans hm0
  refine R_dup (pc := 8) dX9_init_8 rfl ?_
  refine R_callN0 (pc := 9) cal_X8_init (nst_X9_9) kw45 rfl rfl dX9_init_9 (c_X8_init za5 fa5) (by decide) (Nat.le_of_ble_eq_true rfl) ?_
  rintro _ v9 ⟨rfl, z9, k9, S9⟩
  have y8 := (k9 w (by omega)).trans y5
  refine PN_X9_10 (pc := 12) dX9_init_12 rfl (by simp) y8 (fun h1 e1 f1 => ?_)
  have y12 : h1.2 w = some (.inr (7, [.ref (w + 1), .null, .null, .null])) := f1
  have z12 : h1.1 = w + 41 := by rw [e1]; exact z9
  have k12 : ∀ q, q ≠ w → h1.2 q = v9.2 q := fun q hq => by rw [e1, hput_ne _ _ hq]
  refine R_aload_n0 (pc := 15) dX9_init_15 ?_
  refine R_new (pc := 16) (C := RX3) (T := TX3) (N := 3) (ci := 2) (fs := [.null, .null, .int 0]) (ty := tyX3) dX9_init_16 kw176 kw177 kw25 rfl inXW2 tyX3_ok dfl_X3 (by decide) (by decide) ?_
  refine R_nmd z12 (fun a16 ea16 fa16 za16 ka16 => ?_)
  have y16 := (ka16 w (by omega)).trans y12
  refine R_dup (pc := 19) dX9_init_19 rfl ?_
  refine R_callI0 (pc := 20) cal_X3_init kw178 kw179 rfl rfl dX9_init_20 (c_X3_init za16 fa16) (by decide) (Nat.le_of_ble_eq_true rfl) ?_
  rintro _ v20 ⟨rfl, z20, k20, H1, H2, H3, H4⟩
  have y19 := (k20 w (by omega)).trans y16
  refine PN_X9_19 (pc := 23) dX9_init_23 rfl (by simp) y19 (fun h2 e2 f2 => ?_)
  have y23 : h2.2 w = some (.inr (7, [.ref (w + 1), .ref (w + 41), .null, .null])) := f2
  have z23 : h2.1 = w + 323 := by rw [e2]; exact z20
  have k23 : ∀ q, q ≠ w → h2.2 q = v20.2 q := fun q hq => by rw [e2, hput_ne _ _ hq]
  refine R_aload_n0 (pc := 26) dX9_init_26 ?_
  refine R_new (pc := 27) (C := RX4) (T := TX4) (N := 7) (ci := 3) (fs := [.null, .int 0, .int 0, .int 0, .int 0, .int 0, .int 0]) (ty := tyX4) dX9_init_27 kw195 kw196 kw26 rfl inXW3 tyX4_ok dfl_X4 (by decide) (by decide) ?_
  refine R_nmd z23 (fun a27 ea27 fa27 za27 ka27 => ?_)
  have y27 := (ka27 w (by omega)).trans y23
  refine R_dup (pc := 30) dX9_init_30 rfl ?_
  refine R_callN0 (pc := 31) cal_X4_init (nst_X9_25) kw198 rfl rfl dX9_init_31 (c_X4_init za27 fa27) (by decide) (Nat.le_of_ble_eq_true rfl) ?_
  rintro _ v31 ⟨rfl, z31, k31, O1, O2⟩
  have y30 := (k31 w (by omega)).trans y27
  refine PN_X9_26 (pc := 34) dX9_init_34 rfl (by simp) y30 (fun h3 e3 f3 => ?_)
  have y34 : h3.2 w = some (.inr (7, [.ref (w + 1), .ref (w + 41), .ref (w + 323), .null])) := f3
  have z34 : h3.1 = w + 325 := by rw [e3]; exact z31
  have k34 : ∀ q, q ≠ w → h3.2 q = v31.2 q := fun q hq => by rw [e3, hput_ne _ _ hq]
  refine R_aload_n0 (pc := 37) dX9_init_37 ?_
  refine R_new (pc := 38) (C := RX6) (T := TX6) (N := 4) (ci := 4) (fs := [.null, .null, .null, .int 0]) (ty := tyX6) dX9_init_38 kw218 kw219 kw27 rfl inXW4 tyX6_ok dfl_X6 (by decide) (by decide) ?_
  refine R_nmd z34 (fun a38 ea38 fa38 za38 ka38 => ?_)
  have y38 := (ka38 w (by omega)).trans y34
  refine R_dup (pc := 41) dX9_init_41 rfl ?_
  refine R_callN0 (pc := 42) cal_X6_init (nst_X9_32) kw221 rfl rfl dX9_init_42 (c_X6_init za38 fa38) (by decide) (Nat.le_of_ble_eq_true rfl) ?_
  rintro _ v42 ⟨rfl, z42, k42, R1⟩
  have y41 := (k42 w (by omega)).trans y38
  refine PN_X9_33 (pc := 45) dX9_init_45 rfl (by simp) y41 (fun h4 e4 f4 => ?_)
  have y45 : h4.2 w = some (.inr (7, [.ref (w + 1), .ref (w + 41), .ref (w + 323), .ref (w + 325)])) := f4
  have z45 : h4.1 = w + 329 := by rw [e4]; exact z42
  have k45 : ∀ q, q ≠ w → h4.2 q = v42.2 q := fun q hq => by rw [e4, hput_ne _ _ hq]
  refine R_vret (pc := 48) rfl dX9_init_48 ?_
  obtain ⟨g1, g2⟩ := X9_fin y45 k45 (fun q z1 z2 => (k42 q (by omega)).trans ((ka38 q (by omega)).trans (k34 q z2))) (fun q z1 z2 => (k31 q (by omega)).trans ((ka27 q (by omega)).trans (k23 q z2))) (fun q z1 z2 => (k20 q (by omega)).trans ((ka16 q (by omega)).trans (k12 q z2))) (fun q z1 => (k9 q (by omega)).trans (ka5 q (by omega))) S9 H1 H2 H3 H4 O1 O2 R1
  exact ⟨rfl, z45, g1, g2⟩

end LV21
