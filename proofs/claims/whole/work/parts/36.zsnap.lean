/-! THE REFERENCE: snapshots, undo, append, clearText -/
theorem hsl (t i : Nat) : (183 : Int32) + 181 * nI t + nI i = nI (183 + 181 * t + i) := by
  rw [show (183 : Int32) = nI 183 from rfl, show (181 : Int32) = nI 181 from rfl, pk_mul, nI_add, nI_add]
theorem h545 (m i : Nat) : (545 : Int32) * nI m + nI i = nI (545 * m + i) := by
  rw [show (545 : Int32) = nI 545 from rfl, pk_mul, nI_add]
section LV36
variable {l : Launch} {D : va_G} {cA : Nat → ClassId} {N0 : Nat} {h : AH} {u : Nat} {M : Mm}
set_option maxHeartbeats 4000000 in
set_option maxRecDepth 100000 in
theorem L_X10_take {t : Nat} (ht : t < 2) {s : Nat → Int32} : ∀ (n i : Nat) (h1 : AH), i + n = 181 → h1 = mput h u (sM M (z_tk s t i)) → RunM l D cA N0 m_X10_take 2 0 0 (fun r h' => r = some (.int (z_tk s t 181 0)) ∧ h' = mput h u (sM M (z_tk s t 181))) h1 0 0 29 [some (.ref u), some (.int (nI t)), some (.int (nI i))] [] := by
  intro n
  induction n with
  | zero =>
    intro i h1 hi q1
    obtain rfl : i = 181 := by omega
    have hM1 := mAt q1
    have mo1 := hM1.o
    have ms1 := hM1.s
    have mb1 := hM1.b
    have mt1 := hM1.t
    have mn1 := hM1.n
    have mc1 := hM1.c
    refine R_iload_n2 (pc := 29) dX10_take_29 ?_
    refine R_sipush (pc := 30) (v := 181) dX10_take_30 (by decide) ?_
    refine R_icmp_ge (pc := 33) 64 dX10_take_33 (by decide) (fun c_33 => ?_) (fun c_33 => absurd (by decide) c_33)
    refine R_aload_n0 (pc := 64) dX10_take_64 ?_
    refine G_X10_7 (pc := 65) dX10_take_65 (by assumption) ?_
    refine R_iconst (pc := 68) (v := 0) dX10_take_68 (by decide) ?_
    refine R_iald (pc := 69) dX10_take_69 (by assumption) (in_n (i := 0) (by decide) (by decide)) ?_
    rw [show ((0 : Int32)).toNatClampNeg = 0 from rfl]
    refine R_iret (pc := 70) rfl rfl dX10_take_70 ?_
    exact ⟨rfl, q1⟩
  | succ n ih =>
    intro i h1 hi q1
    have hM1 := mAt q1
    have mo1 := hM1.o
    have ms1 := hM1.s
    have mb1 := hM1.b
    have mt1 := hM1.t
    have mn1 := hM1.n
    have mc1 := hM1.c
    refine R_iload_n2 (pc := 29) dX10_take_29 ?_
    refine R_sipush (pc := 30) (v := 181) dX10_take_30 (by decide) ?_
    refine R_icmp_ge (pc := 33) 64 dX10_take_33 (by decide) (fun c_33 => absurd c_33 (nI_ge (show i < 181 by omega) (by decide))) (fun c_33 => ?_)
    refine R_aload_n0 (pc := 36) dX10_take_36 ?_
    refine G_X10_7 (pc := 37) dX10_take_37 (by assumption) ?_
    refine R_sipush (pc := 40) (v := 183) dX10_take_40 (by decide) ?_
    refine R_sipush (pc := 43) (v := 181) dX10_take_43 (by decide) ?_
    refine R_iload_n1 (pc := 46) dX10_take_46 ?_
    refine R_imul (pc := 47) dX10_take_47 ?_
    refine R_iadd (pc := 48) dX10_take_48 ?_
    refine R_iload_n2 (pc := 49) dX10_take_49 ?_
    refine R_iadd (pc := 50) dX10_take_50 ?_
    rw [hsl]
    refine R_aload_n0 (pc := 51) dX10_take_51 ?_
    refine G_X10_7 (pc := 52) dX10_take_52 (by assumption) ?_
    refine R_iload_n2 (pc := 55) dX10_take_55 ?_
    refine R_iald (pc := 56) dX10_take_56 (by assumption) (in_n (show i < 545 by omega) (by decide)) ?_
    rw [nI_clamp (show i < 2 ^ 31 by omega)]
    refine R_iastF (pc := 57) dX10_take_57 (by assumption) (in_n (show 183 + 181 * t + i < 545 by omega) (by decide)) (fun h1 e1 f1 => ?_)
    rw [nI_clamp (show 183 + 181 * t + i < 2 ^ 31 by omega)] at e1 f1
    have q1 := mstep_s q1 e1
    have hM1 := mAt q1
    have mo1 := hM1.o
    have ms1 := hM1.s
    have mb1 := hM1.b
    have mt1 := hM1.t
    have mn1 := hM1.n
    have mc1 := hM1.c
    refine R_iinc2 (pc := 58) dX10_take_58 rfl (by decide) ?_
    refine R_goto (pc := 61) 29 dX10_take_61 (by decide) ?_
    rw [nI_s]
    exact ih (i + 1) _ (by omega) (by rw [q1, sM_sM]; exact congrArg (fun z => mput h u (sM M z)) (z_tk_s s t i (by omega)))

set_option maxHeartbeats 4000000 in
set_option maxRecDepth 100000 in
theorem c_X10_take (hM : MAt h u M) {m : Nat} (hm : m ≤ 6) (hmu : M.1 3 = nI m) {x : Int32} : Spec l D cA N0 m_X10_take 2 0 0 [.ref u, .int x] h (fun r h' => r = some (.int (zw_take M m x).1) ∧ ∃ M2, h' = mput h u M2 ∧ Ms (zw_take M m x).2 M2) := by
  refine Spec.of (L := [some (.ref u), some (.int x), none]) (by decide) rfl (Nat.le_of_ble_eq_true rfl) ?_
  have q0 : h = mput h u M := (mput_self hM).symm
  have mo0 := hM.o
  have ms0 := hM.s
  have mb0 := hM.b
  have mt0 := hM.t
  have mn0 := hM.n
  have mc0 := hM.c
  refine R_iload_n1 (pc := 0) dX10_take_0 ?_
  refine R_i2l (pc := 1) dX10_take_1 ?_
  refine R_lconst (pc := 2) (v := 0) dX10_take_2 (by decide) ?_
  refine R_lconst (pc := 3) (v := 1) dX10_take_3 (by decide) ?_
  refine R_callS3 (pc := 4) cal_X10_in kw892 kw893 dX10_take_4 (c_X10_in rfl (lo := 0) (by decide) (hi := 1) (by decide)) (by decide) (Nat.le_of_ble_eq_true rfl) ?_
  rintro _ _ ⟨rfl, rfl⟩
  refine R_ifb_ne (pc := 7) 12 dX10_take_7 (by decide) (fun c_7 => ?_) (fun c_7 => ?_)
  · skip
    obtain ⟨k, hk, ek⟩ := ge0 (n := 1) c_7.1 (by decide) c_7.2
    have hck : (nI k).toNatClampNeg = k := nI_clamp (by omega)
    subst ek
    refine R_aload_n0 (pc := 12) dX10_take_12 ?_
    refine R_callV0 (pc := 13) (T := TX10) cal_X10_act kw903 kw905 kw26 dX10_take_13 (c_X10_act hM hm hmu) (by decide) (Nat.le_of_ble_eq_true rfl) (ci := 8) rfl (by assumption) ?_
    rintro _ h13 ⟨rfl, e13⟩
    obtain ⟨F2, b2, hact, hF2⟩ := z_act_form (M) m
    rw [hact] at e13
    have q13 : h13 = mput _ u (F2, M.2.1, b2, M.2.2.2) := mstep_M q0 e13
    have hM13 := mAt q13
    have mo13 := hM13.o
    have ms13 := hM13.s
    have mb13 := hM13.b
    have mt13 := hM13.t
    have mn13 := hM13.n
    have mc13 := hM13.c
    refine R_aload_n0 (pc := 16) dX10_take_16 ?_
    refine G_X10_7 (pc := 17) dX10_take_17 (by assumption) ?_
    refine R_sipush (pc := 20) (v := 181) dX10_take_20 (by decide) ?_
    refine R_iload_n1 (pc := 23) dX10_take_23 ?_
    refine R_iadd (pc := 24) dX10_take_24 ?_
    rw [show (181 : Int32) + nI k = nI (181 + k) from nI_add 181 k]
    refine R_iconst (pc := 25) (v := 1) dX10_take_25 (by decide) ?_
    refine R_iastF (pc := 26) dX10_take_26 (by assumption) (in_n (show 181 + k < 545 by omega) (by decide)) (fun h1 e1 f1 => ?_)
    rw [nI_clamp (show 181 + k < 2 ^ 31 by omega)] at e1 f1
    have q1 := mstep_s q13 e1
    have hM1 := mAt q1
    have mo1 := hM1.o
    have ms1 := hM1.s
    have mb1 := hM1.b
    have mt1 := hM1.t
    have mn1 := hM1.n
    have mc1 := hM1.c
    refine R_iconst (pc := 27) (v := 0) dX10_take_27 (by decide) ?_
    refine R_istore_n2 (pc := 28) dX10_take_28 rfl (by decide) ?_
    refine R_post (fun r h9 q9 => ?_) (L_X10_take (M := (F2, M.2.1, b2, M.2.2.2)) (t := k) (by omega) (s := upd M.2.1 (181 + k) 1) 181 0 _ rfl (by rw [z_tk_0]; exact q1))
    rw [zw_take, if_pos c_7, hck]
    exact ⟨q9.1, _, q9.2, Ms.fin (s := M.2.1) (Ms.rf M) hact _⟩
  · skip
    refine R_iconst (pc := 10) (v := (-1)) dX10_take_10 (by decide) ?_
    refine R_iret (pc := 11) rfl rfl dX10_take_11 ?_
    exact ⟨by rw [zw_take, if_neg (fun z => c_7 z)], _, q0, by rw [zw_take, if_neg (fun z => c_7 z)]; exact Ms.rf M⟩

set_option maxHeartbeats 4000000 in
set_option maxRecDepth 100000 in
theorem L_X10_restore {t : Nat} (ht : t < 2) {s : Nat → Int32} : ∀ (n i : Nat) (h1 : AH), i + n = 181 → h1 = mput h u (sM M (z_rs2 s t i)) → RunM l D cA N0 m_X10_restore 2 0 0 (fun r h' => r = some (.int (z_rs2 s t 181 0)) ∧ h' = mput h u (sM M (z_rs2 s t 181))) h1 0 0 34 [some (.ref u), some (.int (nI t)), some (.int (nI i))] [] := by
  intro n
  induction n with
  | zero =>
    intro i h1 hi q1
    obtain rfl : i = 181 := by omega
    have hM1 := mAt q1
    have mo1 := hM1.o
    have ms1 := hM1.s
    have mb1 := hM1.b
    have mt1 := hM1.t
    have mn1 := hM1.n
    have mc1 := hM1.c
    refine R_iload_n2 (pc := 34) dX10_restore_34 ?_
    refine R_sipush (pc := 35) (v := 181) dX10_restore_35 (by decide) ?_
    refine R_icmp_ge (pc := 38) 69 dX10_restore_38 (by decide) (fun c_38 => ?_) (fun c_38 => absurd (by decide) c_38)
    refine R_aload_n0 (pc := 69) dX10_restore_69 ?_
    refine G_X10_7 (pc := 70) dX10_restore_70 (by assumption) ?_
    refine R_iconst (pc := 73) (v := 0) dX10_restore_73 (by decide) ?_
    refine R_iald (pc := 74) dX10_restore_74 (by assumption) (in_n (i := 0) (by decide) (by decide)) ?_
    rw [show ((0 : Int32)).toNatClampNeg = 0 from rfl]
    refine R_iret (pc := 75) rfl rfl dX10_restore_75 ?_
    exact ⟨rfl, q1⟩
  | succ n ih =>
    intro i h1 hi q1
    have hM1 := mAt q1
    have mo1 := hM1.o
    have ms1 := hM1.s
    have mb1 := hM1.b
    have mt1 := hM1.t
    have mn1 := hM1.n
    have mc1 := hM1.c
    refine R_iload_n2 (pc := 34) dX10_restore_34 ?_
    refine R_sipush (pc := 35) (v := 181) dX10_restore_35 (by decide) ?_
    refine R_icmp_ge (pc := 38) 69 dX10_restore_38 (by decide) (fun c_38 => absurd c_38 (nI_ge (show i < 181 by omega) (by decide))) (fun c_38 => ?_)
    refine R_aload_n0 (pc := 41) dX10_restore_41 ?_
    refine G_X10_7 (pc := 42) dX10_restore_42 (by assumption) ?_
    refine R_iload_n2 (pc := 45) dX10_restore_45 ?_
    refine R_aload_n0 (pc := 46) dX10_restore_46 ?_
    refine G_X10_7 (pc := 47) dX10_restore_47 (by assumption) ?_
    refine R_sipush (pc := 50) (v := 183) dX10_restore_50 (by decide) ?_
    refine R_sipush (pc := 53) (v := 181) dX10_restore_53 (by decide) ?_
    refine R_iload_n1 (pc := 56) dX10_restore_56 ?_
    refine R_imul (pc := 57) dX10_restore_57 ?_
    refine R_iadd (pc := 58) dX10_restore_58 ?_
    refine R_iload_n2 (pc := 59) dX10_restore_59 ?_
    refine R_iadd (pc := 60) dX10_restore_60 ?_
    rw [hsl]
    refine R_iald (pc := 61) dX10_restore_61 (by assumption) (in_n (show 183 + 181 * t + i < 545 by omega) (by decide)) ?_
    rw [nI_clamp (show 183 + 181 * t + i < 2 ^ 31 by omega)]
    refine R_iastF (pc := 62) dX10_restore_62 (by assumption) (in_n (show i < 545 by omega) (by decide)) (fun h1 e1 f1 => ?_)
    rw [nI_clamp (show i < 2 ^ 31 by omega)] at e1 f1
    have q1 := mstep_s q1 e1
    have hM1 := mAt q1
    have mo1 := hM1.o
    have ms1 := hM1.s
    have mb1 := hM1.b
    have mt1 := hM1.t
    have mn1 := hM1.n
    have mc1 := hM1.c
    refine R_iinc2 (pc := 63) dX10_restore_63 rfl (by decide) ?_
    refine R_goto (pc := 66) 34 dX10_restore_66 (by decide) ?_
    rw [nI_s]
    exact ih (i + 1) _ (by omega) (by rw [q1, sM_sM]; exact congrArg (fun z => mput h u (sM M z)) (z_rs2_s s t i (by omega)))

set_option maxHeartbeats 4000000 in
set_option maxRecDepth 100000 in
theorem c_X10_restore (hM : MAt h u M) {m : Nat} (hm : m ≤ 6) (hmu : M.1 3 = nI m) {x : Int32} : Spec l D cA N0 m_X10_restore 2 0 0 [.ref u, .int x] h (fun r h' => r = some (.int (zw_rest M m x).1) ∧ ∃ M2, h' = mput h u M2 ∧ Ms (zw_rest M m x).2 M2) := by
  refine Spec.of (L := [some (.ref u), some (.int x), none]) (by decide) rfl (Nat.le_of_ble_eq_true rfl) ?_
  have q0 : h = mput h u M := (mput_self hM).symm
  have mo0 := hM.o
  have ms0 := hM.s
  have mb0 := hM.b
  have mt0 := hM.t
  have mn0 := hM.n
  have mc0 := hM.c
  refine R_iload_n1 (pc := 0) dX10_restore_0 ?_
  refine R_i2l (pc := 1) dX10_restore_1 ?_
  refine R_lconst (pc := 2) (v := 0) dX10_restore_2 (by decide) ?_
  refine R_lconst (pc := 3) (v := 1) dX10_restore_3 (by decide) ?_
  refine R_callS3 (pc := 4) cal_X10_in kw892 kw893 dX10_restore_4 (c_X10_in rfl (lo := 0) (by decide) (hi := 1) (by decide)) (by decide) (Nat.le_of_ble_eq_true rfl) ?_
  rintro _ _ ⟨rfl, rfl⟩
  refine R_ifb_ne (pc := 7) 12 dX10_restore_7 (by decide) (fun c_7 => ?_) (fun c_7 => ?_)
  · skip
    obtain ⟨k, hk, ek⟩ := ge0 (n := 1) c_7.1 (by decide) c_7.2
    have hck : (nI k).toNatClampNeg = k := nI_clamp (by omega)
    subst ek
    refine R_aload_n0 (pc := 12) dX10_restore_12 ?_
    refine G_X10_7 (pc := 13) dX10_restore_13 (by assumption) ?_
    refine R_sipush (pc := 16) (v := 181) dX10_restore_16 (by decide) ?_
    refine R_iload_n1 (pc := 19) dX10_restore_19 ?_
    refine R_iadd (pc := 20) dX10_restore_20 ?_
    rw [show (181 : Int32) + nI k = nI (181 + k) from nI_add 181 k]
    refine R_iald (pc := 21) dX10_restore_21 (by assumption) (in_n (show 181 + k < 545 by omega) (by decide)) ?_
    rw [nI_clamp (show 181 + k < 2 ^ 31 by omega)]
    refine R_if_ne (pc := 22) 28 dX10_restore_22 (by decide) (fun c_22 => ?_) (fun c_22 => ?_)
    · skip
      refine R_aload_n0 (pc := 28) dX10_restore_28 ?_
      refine R_callV0 (pc := 29) (T := TX10) cal_X10_act kw903 kw905 kw26 dX10_restore_29 (c_X10_act hM hm hmu) (by decide) (Nat.le_of_ble_eq_true rfl) (ci := 8) rfl (by assumption) ?_
      rintro _ h29 ⟨rfl, e29⟩
      obtain ⟨F2, b2, hact, hF2⟩ := z_act_form (M) m
      rw [hact] at e29
      have q29 : h29 = mput _ u (F2, M.2.1, b2, M.2.2.2) := mstep_M q0 e29
      have hM29 := mAt q29
      have mo29 := hM29.o
      have ms29 := hM29.s
      have mb29 := hM29.b
      have mt29 := hM29.t
      have mn29 := hM29.n
      have mc29 := hM29.c
      refine R_iconst (pc := 32) (v := 0) dX10_restore_32 (by decide) ?_
      refine R_istore_n2 (pc := 33) dX10_restore_33 rfl (by decide) ?_
      refine R_post (fun r h9 q9 => ?_) (L_X10_restore (M := (F2, M.2.1, b2, M.2.2.2)) (t := k) (by omega) (s := M.2.1) 181 0 _ rfl (by rw [z_rs2_0]; exact q29))
      rw [zw_rest, if_pos c_7, hck, if_neg c_22]
      exact ⟨q9.1, _, q9.2, Ms.fin (s := M.2.1) (Ms.rf M) hact _⟩
    · skip
      refine R_bipush (pc := 25) (v := (-2)) dX10_restore_25 (by decide) ?_
      refine R_iret (pc := 27) rfl rfl dX10_restore_27 ?_
      exact ⟨by rw [zw_rest, if_pos c_7, hck, if_pos c_22], _, q0, by rw [zw_rest, if_pos c_7, hck, if_pos c_22]; exact Ms.rf M⟩
  · skip
    refine R_iconst (pc := 10) (v := (-1)) dX10_restore_10 (by decide) ?_
    refine R_iret (pc := 11) rfl rfl dX10_restore_11 ?_
    exact ⟨by rw [zw_rest, if_neg (fun z => c_7 z)], _, q0, by rw [zw_rest, if_neg (fun z => c_7 z)]; exact Ms.rf M⟩

set_option maxHeartbeats 4000000 in
set_option maxRecDepth 100000 in
theorem L_X10_undo {m : Nat} (hm : m ≤ 5) (hmu : M.1 3 = nI m) {s : Nat → Int32} : ∀ (n i : Nat) (h1 : AH), i + n = 545 → h1 = mput h u (sM M (z_un M.2.2.1 s m i)) → RunM l D cA N0 m_X10_undo 1 0 0 (fun r h' => r = some (.int (nI m)) ∧ h' = mput h u (sM M (z_un M.2.2.1 s m 545))) h1 0 0 22 [some (.ref u), some (.int (nI i))] [] := by
  intro n
  induction n with
  | zero =>
    intro i h1 hi q1
    obtain rfl : i = 545 := by omega
    have hM1 := mAt q1
    have mo1 := hM1.o
    have ms1 := hM1.s
    have mb1 := hM1.b
    have mt1 := hM1.t
    have mn1 := hM1.n
    have mc1 := hM1.c
    refine R_iload_n1 (pc := 22) dX10_undo_22 ?_
    refine R_sipush (pc := 23) (v := 545) dX10_undo_23 (by decide) ?_
    refine R_icmp_ge (pc := 26) 56 dX10_undo_26 (by decide) (fun c_26 => ?_) (fun c_26 => absurd (by decide) c_26)
    refine R_aload_n0 (pc := 56) dX10_undo_56 ?_
    refine G_X10_29 (pc := 57) dX10_undo_57 (by assumption) ?_
    refine R_iret (pc := 60) rfl rfl dX10_undo_60 ?_
    exact ⟨congrArg (fun z => some (Value.int z)) hmu, q1⟩
  | succ n ih =>
    intro i h1 hi q1
    have hM1 := mAt q1
    have mo1 := hM1.o
    have ms1 := hM1.s
    have mb1 := hM1.b
    have mt1 := hM1.t
    have mn1 := hM1.n
    have mc1 := hM1.c
    refine R_iload_n1 (pc := 22) dX10_undo_22 ?_
    refine R_sipush (pc := 23) (v := 545) dX10_undo_23 (by decide) ?_
    refine R_icmp_ge (pc := 26) 56 dX10_undo_26 (by decide) (fun c_26 => absurd c_26 (nI_ge (show i < 545 by omega) (by decide))) (fun c_26 => ?_)
    refine R_aload_n0 (pc := 29) dX10_undo_29 ?_
    refine G_X10_7 (pc := 30) dX10_undo_30 (by assumption) ?_
    refine R_iload_n1 (pc := 33) dX10_undo_33 ?_
    refine R_aload_n0 (pc := 34) dX10_undo_34 ?_
    refine G_X10_13 (pc := 35) dX10_undo_35 (by assumption) ?_
    refine R_sipush (pc := 38) (v := 545) dX10_undo_38 (by decide) ?_
    refine R_aload_n0 (pc := 41) dX10_undo_41 ?_
    refine G_X10_29 (pc := 42) dX10_undo_42 (by assumption) ?_
    rw [show (sM M (z_un M.2.2.1 s m i)).1 3 = nI m from hmu]
    refine R_imul (pc := 45) dX10_undo_45 ?_
    refine R_iload_n1 (pc := 46) dX10_undo_46 ?_
    refine R_iadd (pc := 47) dX10_undo_47 ?_
    rw [h545]
    refine R_iald (pc := 48) dX10_undo_48 (by assumption) (in_n (show 545 * m + i < 3270 by omega) (by decide)) ?_
    rw [nI_clamp (show 545 * m + i < 2 ^ 31 by omega)]
    refine R_iastF (pc := 49) dX10_undo_49 (by assumption) (in_n (show i < 545 by omega) (by decide)) (fun h1 e1 f1 => ?_)
    rw [nI_clamp (show i < 2 ^ 31 by omega)] at e1 f1
    have q1 := mstep_s q1 e1
    have hM1 := mAt q1
    have mo1 := hM1.o
    have ms1 := hM1.s
    have mb1 := hM1.b
    have mt1 := hM1.t
    have mn1 := hM1.n
    have mc1 := hM1.c
    refine R_iinc1 (pc := 50) dX10_undo_50 rfl (by decide) ?_
    refine R_goto (pc := 53) 22 dX10_undo_53 (by decide) ?_
    rw [nI_s]
    exact ih (i + 1) _ (by omega) (by rw [q1, sM_sM]; exact congrArg (fun z => mput h u (sM M z)) (z_un_s M.2.2.1 s m i))

set_option maxHeartbeats 4000000 in
set_option maxRecDepth 100000 in
theorem c_X10_undo (hM : MAt h u M) {m : Nat} (hm : m ≤ 6) (hmu : M.1 3 = nI m)  : Spec l D cA N0 m_X10_undo 1 0 0 [.ref u] h (fun r h' => r = some (.int (zw_undo M m).1) ∧ ∃ M2, h' = mput h u M2 ∧ Ms (zw_undo M m).2 M2) := by
  refine Spec.of (L := [some (.ref u), none]) (by decide) rfl (Nat.le_of_ble_eq_true rfl) ?_
  have q0 : h = mput h u M := (mput_self hM).symm
  have mo0 := hM.o
  have ms0 := hM.s
  have mb0 := hM.b
  have mt0 := hM.t
  have mn0 := hM.n
  have mc0 := hM.c
  refine R_aload_n0 (pc := 0) dX10_undo_0 ?_
  refine G_X10_29 (pc := 1) dX10_undo_1 (by assumption) ?_
  rw [hmu]
  refine R_if_ne (pc := 4) 10 dX10_undo_4 (by decide) (fun c_4 => ?_) (fun c_4 => ?_)
  · skip
    have hm0 : ¬ m = 0 := fun z => c_4 (by rw [z]; rfl)
    refine R_aload_n0 (pc := 10) dX10_undo_10 ?_
    refine R_dup (pc := 11) dX10_undo_11 rfl ?_
    refine G_X10_29 (pc := 12) dX10_undo_12 (by assumption) ?_
    rw [hmu]
    refine R_iconst (pc := 15) (v := 1) dX10_undo_15 (by decide) ?_
    refine R_isub (pc := 16) dX10_undo_16 ?_
    rw [show nI m - 1 = nI (m - 1) from by rw [show m = m - 1 + 1 by omega, nI_pred]; rfl]
    refine P_X10_29 (pc := 17) dX10_undo_17 (by assumption) (fun h1 e1 f1 => ?_)
    have q1 := mstep_o q0 e1
    have hM1 := mAt q1
    have mo1 := hM1.o
    have ms1 := hM1.s
    have mb1 := hM1.b
    have mt1 := hM1.t
    have mn1 := hM1.n
    have mc1 := hM1.c
    refine R_iconst (pc := 20) (v := 0) dX10_undo_20 (by decide) ?_
    refine R_istore_n1 (pc := 21) dX10_undo_21 rfl (by decide) ?_
    refine R_post (fun r h9 q9 => ?_) (L_X10_undo (M := fM M 3 (nI (m - 1))) (m := m - 1) (by omega) rfl (s := M.2.1) 545 0 _ rfl (by rw [z_un_0]; exact q1))
    rw [zw_undo, if_neg hm0]
    exact ⟨q9.1, _, q9.2, Ms.rf _⟩
  · skip
    have hm0 : m = 0 := (nI_eq (b := 0) (by omega) (by decide)).mp c_4
    refine R_bipush (pc := 7) (v := (-2)) dX10_undo_7 (by decide) ?_
    refine R_iret (pc := 9) rfl rfl dX10_undo_9 ?_
    exact ⟨by rw [zw_undo, if_pos hm0], _, q0, by rw [zw_undo, if_pos hm0]; exact Ms.rf M⟩

set_option maxHeartbeats 4000000 in
set_option maxRecDepth 100000 in
theorem c_X10_append (hM : MAt h u M) {m : Nat} (hm : m ≤ 100) (hml : M.1 4 = nI m) {x : Int32} : Spec l D cA N0 m_X10_append 1 0 0 [.ref u, .int x] h (fun r h' => r = some (.int (zw_app M m x).1) ∧ ∃ M2, h' = mput h u M2 ∧ Ms (zw_app M m x).2 M2) := by
  refine Spec.of (L := [some (.ref u), some (.int x)]) (by decide) rfl (Nat.le_of_ble_eq_true rfl) ?_
  have q0 : h = mput h u M := (mput_self hM).symm
  have mo0 := hM.o
  have ms0 := hM.s
  have mb0 := hM.b
  have mt0 := hM.t
  have mn0 := hM.n
  have mc0 := hM.c
  refine R_iload_n1 (pc := 0) dX10_append_0 ?_
  refine R_i2l (pc := 1) dX10_append_1 ?_
  refine R_lconst (pc := 2) (v := 1) dX10_append_2 (by decide) ?_
  refine R_ldc2 (pc := 3) dX10_append_3 kw1057 ?_
  refine R_callS3 (pc := 6) cal_X10_in kw892 kw893 dX10_append_6 (c_X10_in rfl (lo := 1) (by decide) (hi := 255) (by decide)) (by decide) (Nat.le_of_ble_eq_true rfl) ?_
  rintro _ _ ⟨rfl, rfl⟩
  refine R_ifb_ne (pc := 9) 14 dX10_append_9 (by decide) (fun c_9 => ?_) (fun c_9 => ?_)
  · skip
    refine R_aload_n0 (pc := 14) dX10_append_14 ?_
    refine G_X10_162 (pc := 15) dX10_append_15 (by assumption) ?_
    rw [hml]
    refine R_bipush (pc := 18) (v := 100) dX10_append_18 (by decide) ?_
    refine R_icmp_ne (pc := 20) 26 dX10_append_20 (by decide) (fun c_20 => ?_) (fun c_20 => ?_)
    · skip
      have hm1 : ¬ m = 100 := fun z => c_20 (by rw [z]; rfl)
      refine R_aload_n0 (pc := 26) dX10_append_26 ?_
      refine G_X10_19 (pc := 27) dX10_append_27 (by assumption) ?_
      refine R_aload_n0 (pc := 30) dX10_append_30 ?_
      refine G_X10_162 (pc := 31) dX10_append_31 (by assumption) ?_
      rw [hml]
      refine R_iload_n1 (pc := 34) dX10_append_34 ?_
      refine R_iastF (pc := 35) dX10_append_35 (by assumption) (in_n (show m < 100 by omega) (by decide)) (fun h1 e1 f1 => ?_)
      rw [nI_clamp (show m < 2 ^ 31 by omega)] at e1 f1
      have q1 := mstep_t q0 e1
      have hM1 := mAt q1
      have mo1 := hM1.o
      have ms1 := hM1.s
      have mb1 := hM1.b
      have mt1 := hM1.t
      have mn1 := hM1.n
      have mc1 := hM1.c
      refine R_aload_n0 (pc := 36) dX10_append_36 ?_
      refine R_dup (pc := 37) dX10_append_37 rfl ?_
      refine G_X10_162 (pc := 38) dX10_append_38 (by assumption) ?_
      rw [show (tM M (upd M.2.2.2.1 m x)).1 4 = nI m from hml]
      refine R_iconst (pc := 41) (v := 1) dX10_append_41 (by decide) ?_
      refine R_iadd (pc := 42) dX10_append_42 ?_
      rw [nI_1]
      refine P_X10_162 (pc := 43) dX10_append_43 (by assumption) (fun h2 e2 f2 => ?_)
      have q2 := mstep_o q1 e2
      have hM2 := mAt q2
      have mo2 := hM2.o
      have ms2 := hM2.s
      have mb2 := hM2.b
      have mt2 := hM2.t
      have mn2 := hM2.n
      have mc2 := hM2.c
      refine R_aload_n0 (pc := 46) dX10_append_46 ?_
      refine G_X10_162 (pc := 47) dX10_append_47 (by assumption) ?_
      refine R_iret (pc := 50) rfl rfl dX10_append_50 ?_
      refine ⟨?_, _, q2, ?_⟩
      · rw [zw_app, if_pos c_9, if_neg hm1]
        rfl
      · rw [zw_app, if_pos c_9, if_neg hm1]
        exact Ms.rf _
    · skip
      have hm1 : m = 100 := (nI_eq (b := 100) (by omega) (by decide)).mp c_20
      refine R_bipush (pc := 23) (v := (-3)) dX10_append_23 (by decide) ?_
      refine R_iret (pc := 25) rfl rfl dX10_append_25 ?_
      exact ⟨by rw [zw_app, if_pos c_9, if_pos hm1], _, q0, by rw [zw_app, if_pos c_9, if_pos hm1]; exact Ms.rf M⟩
  · skip
    refine R_iconst (pc := 12) (v := (-1)) dX10_append_12 (by decide) ?_
    refine R_iret (pc := 13) rfl rfl dX10_append_13 ?_
    exact ⟨by rw [zw_app, if_neg (fun z => c_9 z)], _, q0, by rw [zw_app, if_neg (fun z => c_9 z)]; exact Ms.rf M⟩

end LV36
