/-! THE REFERENCE: clearText, its constructor -/
def z_in1 (s : Nat → Int32) (i : Nat) : Nat → Int32 := upd (upd (upd s (4 + i) 63) (6 + i) (-1)) (8 + i) 10
def s00 : Nat → Int32 := zk z_in1 (upd (fun _ => 0) 3 2) 0 2
def M0 : Mm := (fun _ => 0, s00, fun _ => 0, fun _ => 0, fun _ => 0, fun _ => 0)
theorem dfl_X10 : ∀ j, j < 13 → defaultValue (tyX10 j) = vp_V [.null, .null, .null, .int 0, .int 0, .null, .int 0, .int 0, .int 0, .int 0, .int 0, .null, .null] j := by
  intro j hj
  rcases (by omega : j = 0 ∨ j = 1 ∨ j = 2 ∨ j = 3 ∨ j = 4 ∨ j = 5 ∨ j = 6 ∨ j = 7 ∨ j = 8 ∨ j = 9 ∨ j = 10 ∨ j = 11 ∨ j = 12) with z | z | z | z | z | z | z | z | z | z | z | z | z <;> subst z <;> rfl
section LV59
variable {l : Launch} {D : va_G} {cA : Nat → ClassId} {N0 : Nat} {h : AH} {u : Nat} {M : Mm}
set_option maxHeartbeats 4000000 in
set_option maxRecDepth 100000 in
theorem c_X10_clearText (hM : MAt h u M) {m : Nat} (hml : M.1 4 = nI m) : Spec l D cA N0 m_X10_clearText 1 0 0 [.ref u] h (fun r h' => r = some (.int ((nI m, fM M 4 0)).1) ∧ ∃ M2, h' = mput h u M2 ∧ Ms ((nI m, fM M 4 0)).2 M2) := by
  refine Spec.of (L := [some (.ref u), none]) (by decide) rfl (Nat.le_of_ble_eq_true rfl) ?_
  have q0 : h = mput h u M := (mput_self hM).symm
  have mo0 := hM.o
  have ms0 := hM.s
  have mb0 := hM.b
  have mt0 := hM.t
  have mn0 := hM.n
  have mc0 := hM.c
  refine R_aload_n0 (pc := 0) dX10_clearText_0 ?_
  refine G_X10_162 (pc := 1) dX10_clearText_1 (by assumption) ?_
  rw [hml]
  refine R_istore_n1 (pc := 4) dX10_clearText_4 rfl (by decide) ?_
  refine R_aload_n0 (pc := 5) dX10_clearText_5 ?_
  refine R_iconst (pc := 6) (v := 0) dX10_clearText_6 (by decide) ?_
  refine P_X10_162 (pc := 7) dX10_clearText_7 (by assumption) (fun h1 e1 f1 => ?_)
  have q1 := mstep_o q0 e1
  have hM1 := mAt q1
  have mo1 := hM1.o
  have ms1 := hM1.s
  have mb1 := hM1.b
  have mt1 := hM1.t
  have mn1 := hM1.n
  have mc1 := hM1.c
  refine R_iload_n1 (pc := 10) dX10_clearText_10 ?_
  refine R_iret (pc := 11) rfl rfl dX10_clearText_11 ?_
  exact ⟨rfl, _, q1, Ms.rf _⟩

set_option maxHeartbeats 4000000 in
set_option maxRecDepth 100000 in
theorem L_X10_init : ∀ (n i : Nat) (s : Nat → Int32) (h1 : AH), i + n = 2 → h1 = mput h u (sM M s) → RunM l D cA N0 m_X10_init 1 6 4544 (fun r h' => r = none ∧ h' = mput h u (sM M (zk z_in1 s i n))) h1 6 4544 63 [some (.ref u), some (.int (nI i))] [] := by
  intro n
  induction n with
  | zero =>
    intro i s h1 hi q1
    have hM1 := mAt q1
    have mo1 := hM1.o
    have ms1 := hM1.s
    have mb1 := hM1.b
    have mt1 := hM1.t
    have mn1 := hM1.n
    have mc1 := hM1.c
    refine R_iload_n1 (pc := 63) dX10_init_63 ?_
    refine R_iconst (pc := 64) (v := 2) dX10_init_64 (by decide) ?_
    refine R_icmp_ge (pc := 65) 105 dX10_init_65 (by decide) (fun c_65 => ?_) (fun c_65 => absurd (by rw [show i = 2 by omega]; exact Int32.le_refl _) c_65)
    refine R_vret (pc := 105) rfl dX10_init_105 ?_
    exact ⟨rfl, q1⟩
  | succ n ih =>
    intro i s h1 hi q1
    have hM1 := mAt q1
    have mo1 := hM1.o
    have ms1 := hM1.s
    have mb1 := hM1.b
    have mt1 := hM1.t
    have mn1 := hM1.n
    have mc1 := hM1.c
    refine R_iload_n1 (pc := 63) dX10_init_63 ?_
    refine R_iconst (pc := 64) (v := 2) dX10_init_64 (by decide) ?_
    refine R_icmp_ge (pc := 65) 105 dX10_init_65 (by decide) (fun c_65 => absurd c_65 (nI_ge (show i < 2 by omega) (by decide))) (fun c_65 => ?_)
    refine R_aload_n0 (pc := 68) dX10_init_68 ?_
    refine G_X10_7 (pc := 69) dX10_init_69 (by assumption) ?_
    refine R_iconst (pc := 72) (v := 4) dX10_init_72 (by decide) ?_
    refine R_iload_n1 (pc := 73) dX10_init_73 ?_
    refine R_iadd (pc := 74) dX10_init_74 ?_
    rw [show (4 : Int32) + nI i = nI (4 + i) from nI_add 4 i]
    refine R_bipush (pc := 75) (v := 63) dX10_init_75 (by decide) ?_
    refine R_iastF (pc := 77) dX10_init_77 (by assumption) (in_n (show 4 + i < 545 by omega) (by decide)) (fun h1 e1 f1 => ?_)
    rw [nI_clamp (show 4 + i < 2 ^ 31 by omega)] at e1 f1
    have q1 := mstep_s q1 e1
    have hM1 := mAt q1
    have mo1 := hM1.o
    have ms1 := hM1.s
    have mb1 := hM1.b
    have mt1 := hM1.t
    have mn1 := hM1.n
    have mc1 := hM1.c
    refine R_aload_n0 (pc := 78) dX10_init_78 ?_
    refine G_X10_7 (pc := 79) dX10_init_79 (by assumption) ?_
    refine R_bipush (pc := 82) (v := 6) dX10_init_82 (by decide) ?_
    refine R_iload_n1 (pc := 84) dX10_init_84 ?_
    refine R_iadd (pc := 85) dX10_init_85 ?_
    rw [show (6 : Int32) + nI i = nI (6 + i) from nI_add 6 i]
    refine R_iconst (pc := 86) (v := (-1)) dX10_init_86 (by decide) ?_
    refine R_iastF (pc := 87) dX10_init_87 (by assumption) (in_n (show 6 + i < 545 by omega) (by decide)) (fun h2 e2 f2 => ?_)
    rw [nI_clamp (show 6 + i < 2 ^ 31 by omega)] at e2 f2
    have q2 := mstep_s q1 e2
    have hM2 := mAt q2
    have mo2 := hM2.o
    have ms2 := hM2.s
    have mb2 := hM2.b
    have mt2 := hM2.t
    have mn2 := hM2.n
    have mc2 := hM2.c
    refine R_aload_n0 (pc := 88) dX10_init_88 ?_
    refine G_X10_7 (pc := 89) dX10_init_89 (by assumption) ?_
    refine R_bipush (pc := 92) (v := 8) dX10_init_92 (by decide) ?_
    refine R_iload_n1 (pc := 94) dX10_init_94 ?_
    refine R_iadd (pc := 95) dX10_init_95 ?_
    rw [show (8 : Int32) + nI i = nI (8 + i) from nI_add 8 i]
    refine R_bipush (pc := 96) (v := 10) dX10_init_96 (by decide) ?_
    refine R_iastF (pc := 98) dX10_init_98 (by assumption) (in_n (show 8 + i < 545 by omega) (by decide)) (fun h3 e3 f3 => ?_)
    rw [nI_clamp (show 8 + i < 2 ^ 31 by omega)] at e3 f3
    have q3 := mstep_s q2 e3
    have hM3 := mAt q3
    have mo3 := hM3.o
    have ms3 := hM3.s
    have mb3 := hM3.b
    have mt3 := hM3.t
    have mn3 := hM3.n
    have mc3 := hM3.c
    refine R_iinc1 (pc := 99) dX10_init_99 rfl (by decide) ?_
    refine R_goto (pc := 102) 63 dX10_init_102 (by decide) ?_
    rw [nI_s, zk_s]
    exact ih (i + 1) _ _ (by omega) (q_cast (M2 := sM M (z_in1 s i)) q3 rfl)

set_option maxHeartbeats 4000000 in
set_option maxRecDepth 100000 in
theorem c_X10_init {u : Nat} (hs : h.1 = u + 1) (hm0 : h.2 u = some (.inr (8, [.null, .null, .null, .int 0, .int 0, .null, .int 0, .int 0, .int 0, .int 0, .int 0, .null, .null]))) : Spec l D cA N0 m_X10_init 1 6 4544 [.ref u] h (fun r h' => r = none ∧ h'.1 = u + 7 ∧ (∀ q, q < u → h'.2 q = h.2 q) ∧ MAt h' u M0) := by
  refine Spec.of (L := [some (.ref u), none]) (by decide) rfl (Nat.le_of_ble_eq_true rfl) ?_
  have z0 : h.1 = u + 1 := hs
  have b0 : ∀ q, q < u → h.2 q = h.2 q := fun _ _ => rfl
  have m0_0 := hm0
  refine R_aload_n0 (pc := 0) dX10_init_0 ?_
  refine R_objInit (pc := 1) dX10_init_1 kw842 kwObjI kwObjC rfl (by decide) (by decide) ?_
  refine R_aload_n0 (pc := 4) dX10_init_4 ?_
  refine R_sipush (pc := 5) (v := 545) dX10_init_5 (by decide) ?_
  refine R_newi (pc := 8) (N := 545) dX10_init_8 kw166 (by decide) rfl (by decide) (by decide) (by decide) ?_
  refine R_nmd z0 (fun a8 ea8 fa8 za8 ka8 => ?_)
  have m1_0 := (ka8 u (by omega)).trans m0_0
  have m1_1 : a8.2 (u + 1) = some (.inl (0, 545, .inl (fun _ => 0))) := fa8
  have z1 : a8.1 = u + 2 := za8
  have b1 : ∀ q, q < u → a8.2 q = h.2 q := fun q hq => (ka8 q (by omega)).trans (b0 q hq)
  refine PN_X10_7 (pc := 10) dX10_init_10 rfl (by simp) m1_0 (fun h1 e1 f1 => ?_)
  have m2_1 := (show h1.2 (u + 1) = a8.2 (u + 1) by rw [e1, hput_ne _ _ (by omega)]).trans m1_1
  have m2_0 : h1.2 u = some (.inr (8, [.ref (u + 1), .null, .null, .int 0, .int 0, .null, .int 0, .int 0, .int 0, .int 0, .int 0, .null, .null])) := by rw [e1]; exact hput_at _ _ _
  have z2 : h1.1 = u + 2 := by rw [e1]; exact z1
  have b2 : ∀ q, q < u → h1.2 q = h.2 q := fun q hq => (show h1.2 q = a8.2 q by rw [e1, hput_ne _ _ (by omega)]).trans (b1 q hq)
  refine R_aload_n0 (pc := 13) dX10_init_13 ?_
  refine R_sipush (pc := 14) (v := 3270) dX10_init_14 (by decide) ?_
  refine R_newi (pc := 17) (N := 3270) dX10_init_17 kw166 (by decide) rfl (by decide) (by decide) (by decide) ?_
  refine R_nmd z2 (fun a17 ea17 fa17 za17 ka17 => ?_)
  have m3_0 := (ka17 u (by omega)).trans m2_0
  have m3_1 := (ka17 (u + 1) (by omega)).trans m2_1
  have m3_2 : a17.2 (u + 2) = some (.inl (0, 3270, .inl (fun _ => 0))) := fa17
  have z3 : a17.1 = u + 3 := za17
  have b3 : ∀ q, q < u → a17.2 q = h.2 q := fun q hq => (ka17 q (by omega)).trans (b2 q hq)
  refine PN_X10_13 (pc := 19) dX10_init_19 rfl (by simp) m3_0 (fun h2 e2 f2 => ?_)
  have m4_1 := (show h2.2 (u + 1) = a17.2 (u + 1) by rw [e2, hput_ne _ _ (by omega)]).trans m3_1
  have m4_2 := (show h2.2 (u + 2) = a17.2 (u + 2) by rw [e2, hput_ne _ _ (by omega)]).trans m3_2
  have m4_0 : h2.2 u = some (.inr (8, [.ref (u + 1), .ref (u + 2), .null, .int 0, .int 0, .null, .int 0, .int 0, .int 0, .int 0, .int 0, .null, .null])) := by rw [e2]; exact hput_at _ _ _
  have z4 : h2.1 = u + 3 := by rw [e2]; exact z3
  have b4 : ∀ q, q < u → h2.2 q = h.2 q := fun q hq => (show h2.2 q = a17.2 q by rw [e2, hput_ne _ _ (by omega)]).trans (b3 q hq)
  refine R_aload_n0 (pc := 22) dX10_init_22 ?_
  refine R_sipush (pc := 23) (v := 545) dX10_init_23 (by decide) ?_
  refine R_newi (pc := 26) (N := 545) dX10_init_26 kw166 (by decide) rfl (by decide) (by decide) (by decide) ?_
  refine R_nmd z4 (fun a26 ea26 fa26 za26 ka26 => ?_)
  have m5_0 := (ka26 u (by omega)).trans m4_0
  have m5_1 := (ka26 (u + 1) (by omega)).trans m4_1
  have m5_2 := (ka26 (u + 2) (by omega)).trans m4_2
  have m5_3 : a26.2 (u + 3) = some (.inl (0, 545, .inl (fun _ => 0))) := fa26
  have z5 : a26.1 = u + 4 := za26
  have b5 : ∀ q, q < u → a26.2 q = h.2 q := fun q hq => (ka26 q (by omega)).trans (b4 q hq)
  refine PN_X10_16 (pc := 28) dX10_init_28 rfl (by simp) m5_0 (fun h3 e3 f3 => ?_)
  have m6_1 := (show h3.2 (u + 1) = a26.2 (u + 1) by rw [e3, hput_ne _ _ (by omega)]).trans m5_1
  have m6_2 := (show h3.2 (u + 2) = a26.2 (u + 2) by rw [e3, hput_ne _ _ (by omega)]).trans m5_2
  have m6_3 := (show h3.2 (u + 3) = a26.2 (u + 3) by rw [e3, hput_ne _ _ (by omega)]).trans m5_3
  have m6_0 : h3.2 u = some (.inr (8, [.ref (u + 1), .ref (u + 2), .ref (u + 3), .int 0, .int 0, .null, .int 0, .int 0, .int 0, .int 0, .int 0, .null, .null])) := by rw [e3]; exact hput_at _ _ _
  have z6 : h3.1 = u + 4 := by rw [e3]; exact z5
  have b6 : ∀ q, q < u → h3.2 q = h.2 q := fun q hq => (show h3.2 q = a26.2 q by rw [e3, hput_ne _ _ (by omega)]).trans (b5 q hq)
  refine R_aload_n0 (pc := 31) dX10_init_31 ?_
  refine R_bipush (pc := 32) (v := 100) dX10_init_32 (by decide) ?_
  refine R_newi (pc := 34) (N := 100) dX10_init_34 kw166 (by decide) rfl (by decide) (by decide) (by decide) ?_
  refine R_nmd z6 (fun a34 ea34 fa34 za34 ka34 => ?_)
  have m7_0 := (ka34 u (by omega)).trans m6_0
  have m7_1 := (ka34 (u + 1) (by omega)).trans m6_1
  have m7_2 := (ka34 (u + 2) (by omega)).trans m6_2
  have m7_3 := (ka34 (u + 3) (by omega)).trans m6_3
  have m7_4 : a34.2 (u + 4) = some (.inl (0, 100, .inl (fun _ => 0))) := fa34
  have z7 : a34.1 = u + 5 := za34
  have b7 : ∀ q, q < u → a34.2 q = h.2 q := fun q hq => (ka34 q (by omega)).trans (b6 q hq)
  refine PN_X10_19 (pc := 36) dX10_init_36 rfl (by simp) m7_0 (fun h4 e4 f4 => ?_)
  have m8_1 := (show h4.2 (u + 1) = a34.2 (u + 1) by rw [e4, hput_ne _ _ (by omega)]).trans m7_1
  have m8_2 := (show h4.2 (u + 2) = a34.2 (u + 2) by rw [e4, hput_ne _ _ (by omega)]).trans m7_2
  have m8_3 := (show h4.2 (u + 3) = a34.2 (u + 3) by rw [e4, hput_ne _ _ (by omega)]).trans m7_3
  have m8_4 := (show h4.2 (u + 4) = a34.2 (u + 4) by rw [e4, hput_ne _ _ (by omega)]).trans m7_4
  have m8_0 : h4.2 u = some (.inr (8, [.ref (u + 1), .ref (u + 2), .ref (u + 3), .int 0, .int 0, .ref (u + 4), .int 0, .int 0, .int 0, .int 0, .int 0, .null, .null])) := by rw [e4]; exact hput_at _ _ _
  have z8 : h4.1 = u + 5 := by rw [e4]; exact z7
  have b8 : ∀ q, q < u → h4.2 q = h.2 q := fun q hq => (show h4.2 q = a34.2 q by rw [e4, hput_ne _ _ (by omega)]).trans (b7 q hq)
  refine R_aload_n0 (pc := 39) dX10_init_39 ?_
  refine R_iconst (pc := 40) (v := 3) dX10_init_40 (by decide) ?_
  refine R_newi (pc := 41) (N := 3) dX10_init_41 kw166 (by decide) rfl (by decide) (by decide) (by decide) ?_
  refine R_nmd z8 (fun a41 ea41 fa41 za41 ka41 => ?_)
  have m9_0 := (ka41 u (by omega)).trans m8_0
  have m9_1 := (ka41 (u + 1) (by omega)).trans m8_1
  have m9_2 := (ka41 (u + 2) (by omega)).trans m8_2
  have m9_3 := (ka41 (u + 3) (by omega)).trans m8_3
  have m9_4 := (ka41 (u + 4) (by omega)).trans m8_4
  have m9_5 : a41.2 (u + 5) = some (.inl (0, 3, .inl (fun _ => 0))) := fa41
  have z9 : a41.1 = u + 6 := za41
  have b9 : ∀ q, q < u → a41.2 q = h.2 q := fun q hq => (ka41 q (by omega)).trans (b8 q hq)
  refine PN_X10_22 (pc := 43) dX10_init_43 rfl (by simp) m9_0 (fun h5 e5 f5 => ?_)
  have m10_1 := (show h5.2 (u + 1) = a41.2 (u + 1) by rw [e5, hput_ne _ _ (by omega)]).trans m9_1
  have m10_2 := (show h5.2 (u + 2) = a41.2 (u + 2) by rw [e5, hput_ne _ _ (by omega)]).trans m9_2
  have m10_3 := (show h5.2 (u + 3) = a41.2 (u + 3) by rw [e5, hput_ne _ _ (by omega)]).trans m9_3
  have m10_4 := (show h5.2 (u + 4) = a41.2 (u + 4) by rw [e5, hput_ne _ _ (by omega)]).trans m9_4
  have m10_5 := (show h5.2 (u + 5) = a41.2 (u + 5) by rw [e5, hput_ne _ _ (by omega)]).trans m9_5
  have m10_0 : h5.2 u = some (.inr (8, [.ref (u + 1), .ref (u + 2), .ref (u + 3), .int 0, .int 0, .ref (u + 4), .int 0, .int 0, .int 0, .int 0, .int 0, .ref (u + 5), .null])) := by rw [e5]; exact hput_at _ _ _
  have z10 : h5.1 = u + 6 := by rw [e5]; exact z9
  have b10 : ∀ q, q < u → h5.2 q = h.2 q := fun q hq => (show h5.2 q = a41.2 q by rw [e5, hput_ne _ _ (by omega)]).trans (b9 q hq)
  refine R_aload_n0 (pc := 46) dX10_init_46 ?_
  refine R_bipush (pc := 47) (v := 81) dX10_init_47 (by decide) ?_
  refine R_newz (pc := 49) (N := 81) dX10_init_49 kw883 (by decide) rfl (by decide) (by decide) (by decide) ?_
  refine R_nmd z10 (fun a49 ea49 fa49 za49 ka49 => ?_)
  have m11_0 := (ka49 u (by omega)).trans m10_0
  have m11_1 := (ka49 (u + 1) (by omega)).trans m10_1
  have m11_2 := (ka49 (u + 2) (by omega)).trans m10_2
  have m11_3 := (ka49 (u + 3) (by omega)).trans m10_3
  have m11_4 := (ka49 (u + 4) (by omega)).trans m10_4
  have m11_5 := (ka49 (u + 5) (by omega)).trans m10_5
  have m11_6 : a49.2 (u + 6) = some (.inl (1, 81, .inl (fun _ => 0))) := fa49
  have z11 : a49.1 = u + 7 := za49
  have b11 : ∀ q, q < u → a49.2 q = h.2 q := fun q hq => (ka49 q (by omega)).trans (b10 q hq)
  refine PN_X10_25 (pc := 51) dX10_init_51 rfl (by simp) m11_0 (fun h6 e6 f6 => ?_)
  have m12_1 := (show h6.2 (u + 1) = a49.2 (u + 1) by rw [e6, hput_ne _ _ (by omega)]).trans m11_1
  have m12_2 := (show h6.2 (u + 2) = a49.2 (u + 2) by rw [e6, hput_ne _ _ (by omega)]).trans m11_2
  have m12_3 := (show h6.2 (u + 3) = a49.2 (u + 3) by rw [e6, hput_ne _ _ (by omega)]).trans m11_3
  have m12_4 := (show h6.2 (u + 4) = a49.2 (u + 4) by rw [e6, hput_ne _ _ (by omega)]).trans m11_4
  have m12_5 := (show h6.2 (u + 5) = a49.2 (u + 5) by rw [e6, hput_ne _ _ (by omega)]).trans m11_5
  have m12_6 := (show h6.2 (u + 6) = a49.2 (u + 6) by rw [e6, hput_ne _ _ (by omega)]).trans m11_6
  have m12_0 : h6.2 u = some (.inr (8, [.ref (u + 1), .ref (u + 2), .ref (u + 3), .int 0, .int 0, .ref (u + 4), .int 0, .int 0, .int 0, .int 0, .int 0, .ref (u + 5), .ref (u + 6)])) := by rw [e6]; exact hput_at _ _ _
  have z12 : h6.1 = u + 7 := by rw [e6]; exact z11
  have b12 : ∀ q, q < u → h6.2 q = h.2 q := fun q hq => (show h6.2 q = a49.2 q by rw [e6, hput_ne _ _ (by omega)]).trans (b11 q hq)
  refine R_aload_n0 (pc := 54) dX10_init_54 ?_
  refine GN_X10_7 (pc := 55) dX10_init_55 m12_0 rfl ?_
  refine R_iconst (pc := 58) (v := 3) dX10_init_58 (by decide) ?_
  refine R_iconst (pc := 59) (v := 2) dX10_init_59 (by decide) ?_
  refine R_iastF (pc := 60) dX10_init_60 m12_1 (in_n (i := 3) (by decide) (by decide)) (fun h7 e7 f7 => ?_)
  have m13_0 := (show h7.2 u = h6.2 u by rw [e7, hput_ne _ _ (by omega)]).trans m12_0
  have m13_2 := (show h7.2 (u + 2) = h6.2 (u + 2) by rw [e7, hput_ne _ _ (by omega)]).trans m12_2
  have m13_3 := (show h7.2 (u + 3) = h6.2 (u + 3) by rw [e7, hput_ne _ _ (by omega)]).trans m12_3
  have m13_4 := (show h7.2 (u + 4) = h6.2 (u + 4) by rw [e7, hput_ne _ _ (by omega)]).trans m12_4
  have m13_5 := (show h7.2 (u + 5) = h6.2 (u + 5) by rw [e7, hput_ne _ _ (by omega)]).trans m12_5
  have m13_6 := (show h7.2 (u + 6) = h6.2 (u + 6) by rw [e7, hput_ne _ _ (by omega)]).trans m12_6
  have m13_1 : h7.2 (u + 1) = some (.inl (0, 545, .inl (upd (fun _ => 0) 3 2))) := by rw [e7]; exact hput_at _ _ _
  have z13 : h7.1 = u + 7 := by rw [e7]; exact z12
  have b13 : ∀ q, q < u → h7.2 q = h.2 q := fun q hq => (show h7.2 q = h6.2 q by rw [e7, hput_ne _ _ (by omega)]).trans (b12 q hq)
  refine R_iconst (pc := 61) (v := 0) dX10_init_61 (by decide) ?_
  refine R_istore_n1 (pc := 62) dX10_init_62 rfl (by decide) ?_
  have hM : MAt h7 u (sM M0 (upd (fun _ => 0) 3 2)) := mc7 m13_0 m13_1 m13_2 m13_4 m13_5 m13_6
  refine R_post (fun r h' q => ?_) (L_X10_init (h := h7) (u := u) (M := sM M0 (upd (fun _ => 0) 3 2)) 2 0 (upd (fun _ => 0) 3 2) h7 rfl (mput_self hM).symm)
  obtain ⟨q1, q2⟩ := q
  refine ⟨q1, by rw [q2, mput_1]; exact z13, fun q hq => by rw [q2, mput_out (Or.inl hq)]; exact b13 q hq, ?_⟩
  rw [q2]
  exact mput_at _ _ _

end LV59
