/-! THE REFERENCE: bestCard -/
section LV30
variable {l : Launch} {D : va_G} {cA : Nat → ClassId} {N0 : Nat} {h : AH} {u : Nat} {M : Mm}
set_option maxHeartbeats 4000000 in
set_option maxRecDepth 100000 in
theorem L_X10_cardsFor (hM : MAt h u M) {sn : Nat} (hn : sn ≤ 8) (hsn : M.2.1 10 = nI sn) {e c y card : Nat} (he : e < 8) (hc : c < 2) (hcc : gx M.2.1 e 0 = nI c) : ∀ (n i : Nat) (a x d : Int32) (h1 : AH) (qa qb : Option Value), i + n = 6 → h1 = mput h u (gM M x d) → (qa = none ∧ qb = none) ∨ (∃ z1 z2, qa = some (.int z1) ∧ qb = some (.int z2)) → RunM l D cA N0 m_X10_cardsFor 5 0 0 (fun r h' => r = some (.int (kf (z_cards M.2.1 sn e c y card) a i n)) ∧ ∃ X Y, h' = mput h u (gM M X Y)) h1 0 0 6 [some (.ref u), some (.int (nI e)), some (.int (nI y)), some (.int (nI card)), some (.int a), some (.int (nI i)), qa, qb] [] := by
  intro n
  induction n with
  | zero =>
    intro i a x d h1 qa qb hi q1 hq
    have hM1 := mAt q1
    have mo1 := hM1.o
    have ms1 := hM1.s
    have mb1 := hM1.b
    have mt1 := hM1.t
    have mn1 := hM1.n
    have mc1 := hM1.c
    rcases hq with ⟨rfl, rfl⟩ | ⟨z1, z2, rfl, rfl⟩
    · skip
      refine R_iload5 (pc := 6) dX10_cardsFor_6 ?_
      refine R_bipush (pc := 8) (v := 6) dX10_cardsFor_8 (by decide) ?_
      refine R_icmp_ge (pc := 10) 87 dX10_cardsFor_10 (by decide) (fun c_10 => ?_) (fun c_10 => absurd (by rw [show i = 6 by omega]; decide) c_10)
      refine R_iload4 (pc := 87) dX10_cardsFor_87 ?_
      refine R_iret (pc := 89) rfl rfl dX10_cardsFor_89 ?_
      exact ⟨rfl, _, _, q1⟩
    · skip
      refine R_iload5 (pc := 6) dX10_cardsFor_6 ?_
      refine R_bipush (pc := 8) (v := 6) dX10_cardsFor_8 (by decide) ?_
      refine R_icmp_ge (pc := 10) 87 dX10_cardsFor_10 (by decide) (fun c_10 => ?_) (fun c_10 => absurd (by rw [show i = 6 by omega]; decide) c_10)
      refine R_iload4 (pc := 87) dX10_cardsFor_87 ?_
      refine R_iret (pc := 89) rfl rfl dX10_cardsFor_89 ?_
      exact ⟨rfl, _, _, q1⟩
  | succ n ih =>
    intro i a x d h1 qa qb hi q1 hq
    have hM1 := mAt q1
    have mo1 := hM1.o
    have ms1 := hM1.s
    have mb1 := hM1.b
    have mt1 := hM1.t
    have mn1 := hM1.n
    have mc1 := hM1.c
    rcases hq with ⟨rfl, rfl⟩ | ⟨z1, z2, rfl, rfl⟩
    · skip
      refine R_iload5 (pc := 6) dX10_cardsFor_6 ?_
      refine R_bipush (pc := 8) (v := 6) dX10_cardsFor_8 (by decide) ?_
      refine R_icmp_ge (pc := 10) 87 dX10_cardsFor_10 (by decide) (fun c_10 => absurd c_10 (nI_ge (show i < 6 by omega) (by decide))) (fun c_10 => ?_)
      refine R_aload_n0 (pc := 13) dX10_cardsFor_13 ?_
      refine R_iload_n3 (pc := 14) dX10_cardsFor_14 ?_
      refine R_iload5 (pc := 15) dX10_cardsFor_15 ?_
      refine R_callV2 (pc := 17) (T := TX10) cal_X10_windBy kw1161 kw1150 kw1151 dX10_cardsFor_17 (c_X10_windBy hM1) (by decide) (Nat.le_of_ble_eq_true rfl) (ci := 8) rfl (by assumption) ?_
      rintro _ _ ⟨rfl, rfl⟩
      refine R_istore6 (pc := 20) dX10_cardsFor_20 rfl (by decide) ?_
      refine R_aload_n0 (pc := 22) dX10_cardsFor_22 ?_
      refine G_X10_7 (pc := 23) dX10_cardsFor_23 (by assumption) ?_
      refine R_iconst (pc := 26) (v := 5) dX10_cardsFor_26 (by decide) ?_
      refine R_aload_n0 (pc := 27) dX10_cardsFor_27 ?_
      refine R_iload_n1 (pc := 28) dX10_cardsFor_28 ?_
      refine R_iconst (pc := 29) (v := 0) dX10_cardsFor_29 (by decide) ?_
      refine R_callV2 (pc := 30) (T := TX10) cal_X10_get kw899 kw901 kw25 dX10_cardsFor_30 (c_X10_get hM1 he (k := 0) (by decide)) (by decide) (Nat.le_of_ble_eq_true rfl) (ci := 8) rfl (by assumption) ?_
      rintro _ _ ⟨rfl, rfl⟩
      refine R_isub (pc := 33) dX10_cardsFor_33 ?_
      rw [show gx (gM M x d).2.1 e 0 = nI c from hcc, show (5 : Int32) - nI c = nI (5 - c) from pk_sub (show c ≤ 5 by omega)]
      refine R_iald (pc := 34) dX10_cardsFor_34 (by assumption) (in_n (show 5 - c < 545 by omega) (by decide)) ?_
      rw [nI_clamp (show 5 - c < 2 ^ 31 by omega)]
      refine R_iload5 (pc := 35) dX10_cardsFor_35 ?_
      refine R_callS2 (pc := 37) cal_X10_has kw943 kw944 dX10_cardsFor_37 c_X10_has (by decide) (Nat.le_of_ble_eq_true rfl) ?_
      rintro _ _ ⟨rfl, rfl⟩
      refine R_istore7 (pc := 40) dX10_cardsFor_40 rfl (by decide) ?_
      refine R_iload4 (pc := 42) dX10_cardsFor_42 ?_
      refine R_iload7 (pc := 44) dX10_cardsFor_44 ?_
      refine R_if_eq (pc := 46) 77 dX10_cardsFor_46 (by decide) (fun c_46 => ?_) (fun c_46 => ?_)
      · skip
        have c_46 : ¬ z_has (M.2.1 (5 - c)) (nI i) = true := bI_0.mp c_46
        refine R_iconst (pc := 77) (v := 0) dX10_cardsFor_77 (by decide) ?_
        refine R_iadd (pc := 78) dX10_cardsFor_78 ?_
        refine R_istore4 (pc := 79) dX10_cardsFor_79 rfl (by decide) ?_
        refine R_iinc5 (pc := 81) dX10_cardsFor_81 rfl (by decide) ?_
        refine R_goto (pc := 84) 6 dX10_cardsFor_84 (by decide) ?_
        rw [nI_s, kf_s]
        have hif : z_cards M.2.1 sn e c y card a i = a + 0 := by rw [z_cards, if_neg (fun z => c_46 z.1)]
        rw [hif]
        exact ih (i + 1) _ _ _ _ _ _ (by omega) q1 (Or.inr ⟨_, _, rfl, rfl⟩)
      · skip
        have c_46 : z_has (M.2.1 (5 - c)) (nI i) = true := Classical.not_not.mp (fun z => c_46 (bI_f z))
        refine R_aload_n0 (pc := 49) dX10_cardsFor_49 ?_
        refine R_iload_n1 (pc := 50) dX10_cardsFor_50 ?_
        refine R_iload_n2 (pc := 51) dX10_cardsFor_51 ?_
        refine R_aload_n0 (pc := 52) dX10_cardsFor_52 ?_
        refine R_iload_n1 (pc := 53) dX10_cardsFor_53 ?_
        refine R_iload6 (pc := 54) dX10_cardsFor_54 ?_
        refine R_bipush (pc := 56) (v := 10) dX10_cardsFor_56 (by decide) ?_
        refine R_idiv (pc := 58) dX10_cardsFor_58 (by decide) ?_
        refine R_iload6 (pc := 59) dX10_cardsFor_59 ?_
        refine R_bipush (pc := 61) (v := 10) dX10_cardsFor_61 (by decide) ?_
        refine R_irem (pc := 63) dX10_cardsFor_63 (by decide) ?_
        refine R_callV3 (pc := 64) (T := TX10) cal_X10_stepsBy kw970 kw972 kw35 dX10_cardsFor_64 (c_X10_stepsBy hM1 he) (by decide) (Nat.le_of_ble_eq_true rfl) (ci := 8) rfl (by assumption) ?_
        rintro _ _ ⟨rfl, rfl⟩
        refine R_callV3 (pc := 67) (T := TX10) cal_X10_pathTo kw1138 kw1140 kw53 dX10_cardsFor_67 (c_X10_pathTo hM1 hn hsn he) (by decide) (Nat.le_of_ble_eq_true rfl) (ci := 8) rfl (by assumption) ?_
        rintro _ h67 ⟨X, Y, rfl, hz, e67⟩
        have q67 : h67 = mput h u (gM M X Y) := by rw [mstep_M q1 e67, gM_gM]
        have hM67 := mAt q67
        have mo67 := hM67.o
        have ms67 := hM67.s
        have mb67 := hM67.b
        have mt67 := hM67.t
        have mn67 := hM67.n
        have mc67 := hM67.c
        refine R_if_le (pc := 70) 77 dX10_cardsFor_70 (by decide) (fun c_70 => ?_) (fun c_70 => ?_)
        · skip
          have d_70 := Int32.not_lt.mpr c_70
          have c_70 : (z_path M.2.1 sn e y (z_steps M.2.1 e ((zp_wind M.2.1 (nI card) (nI i)) / 10) ((zp_wind M.2.1 (nI card) (nI i)) - (zp_wind M.2.1 (nI card) (nI i)) / 10 * 10))) = 0 := (bp_le0 (z_path_le _ _ _ _ _)).mp c_70
          refine R_iconst (pc := 77) (v := 0) dX10_cardsFor_77 (by decide) ?_
          refine R_iadd (pc := 78) dX10_cardsFor_78 ?_
          refine R_istore4 (pc := 79) dX10_cardsFor_79 rfl (by decide) ?_
          refine R_iinc5 (pc := 81) dX10_cardsFor_81 rfl (by decide) ?_
          refine R_goto (pc := 84) 6 dX10_cardsFor_84 (by decide) ?_
          rw [nI_s, kf_s]
          have hif : z_cards M.2.1 sn e c y card a i = a + 0 := by rw [z_cards, if_neg (fun z => z.2 c_70)]
          rw [hif]
          exact ih (i + 1) _ _ _ _ _ _ (by omega) q67 (Or.inr ⟨_, _, rfl, rfl⟩)
        · skip
          have d_70 := Int32.not_le.mp c_70
          have c_70 : ¬ (z_path M.2.1 sn e y (z_steps M.2.1 e ((zp_wind M.2.1 (nI card) (nI i)) / 10) ((zp_wind M.2.1 (nI card) (nI i)) - (zp_wind M.2.1 (nI card) (nI i)) / 10 * 10))) = 0 := fun z => c_70 ((bp_le0 (z_path_le _ _ _ _ _)).mpr z)
          refine R_iconst (pc := 73) (v := 1) dX10_cardsFor_73 (by decide) ?_
          refine R_goto (pc := 74) 78 dX10_cardsFor_74 (by decide) ?_
          refine R_iadd (pc := 78) dX10_cardsFor_78 ?_
          refine R_istore4 (pc := 79) dX10_cardsFor_79 rfl (by decide) ?_
          refine R_iinc5 (pc := 81) dX10_cardsFor_81 rfl (by decide) ?_
          refine R_goto (pc := 84) 6 dX10_cardsFor_84 (by decide) ?_
          rw [nI_s, kf_s]
          have hif : z_cards M.2.1 sn e c y card a i = a + 1 := by rw [z_cards, if_pos ⟨c_46, c_70⟩]
          rw [hif]
          exact ih (i + 1) _ _ _ _ _ _ (by omega) q67 (Or.inr ⟨_, _, rfl, rfl⟩)
    · skip
      refine R_iload5 (pc := 6) dX10_cardsFor_6 ?_
      refine R_bipush (pc := 8) (v := 6) dX10_cardsFor_8 (by decide) ?_
      refine R_icmp_ge (pc := 10) 87 dX10_cardsFor_10 (by decide) (fun c_10 => absurd c_10 (nI_ge (show i < 6 by omega) (by decide))) (fun c_10 => ?_)
      refine R_aload_n0 (pc := 13) dX10_cardsFor_13 ?_
      refine R_iload_n3 (pc := 14) dX10_cardsFor_14 ?_
      refine R_iload5 (pc := 15) dX10_cardsFor_15 ?_
      refine R_callV2 (pc := 17) (T := TX10) cal_X10_windBy kw1161 kw1150 kw1151 dX10_cardsFor_17 (c_X10_windBy hM1) (by decide) (Nat.le_of_ble_eq_true rfl) (ci := 8) rfl (by assumption) ?_
      rintro _ _ ⟨rfl, rfl⟩
      refine R_istore6 (pc := 20) dX10_cardsFor_20 rfl (by decide) ?_
      refine R_aload_n0 (pc := 22) dX10_cardsFor_22 ?_
      refine G_X10_7 (pc := 23) dX10_cardsFor_23 (by assumption) ?_
      refine R_iconst (pc := 26) (v := 5) dX10_cardsFor_26 (by decide) ?_
      refine R_aload_n0 (pc := 27) dX10_cardsFor_27 ?_
      refine R_iload_n1 (pc := 28) dX10_cardsFor_28 ?_
      refine R_iconst (pc := 29) (v := 0) dX10_cardsFor_29 (by decide) ?_
      refine R_callV2 (pc := 30) (T := TX10) cal_X10_get kw899 kw901 kw25 dX10_cardsFor_30 (c_X10_get hM1 he (k := 0) (by decide)) (by decide) (Nat.le_of_ble_eq_true rfl) (ci := 8) rfl (by assumption) ?_
      rintro _ _ ⟨rfl, rfl⟩
      refine R_isub (pc := 33) dX10_cardsFor_33 ?_
      rw [show gx (gM M x d).2.1 e 0 = nI c from hcc, show (5 : Int32) - nI c = nI (5 - c) from pk_sub (show c ≤ 5 by omega)]
      refine R_iald (pc := 34) dX10_cardsFor_34 (by assumption) (in_n (show 5 - c < 545 by omega) (by decide)) ?_
      rw [nI_clamp (show 5 - c < 2 ^ 31 by omega)]
      refine R_iload5 (pc := 35) dX10_cardsFor_35 ?_
      refine R_callS2 (pc := 37) cal_X10_has kw943 kw944 dX10_cardsFor_37 c_X10_has (by decide) (Nat.le_of_ble_eq_true rfl) ?_
      rintro _ _ ⟨rfl, rfl⟩
      refine R_istore7 (pc := 40) dX10_cardsFor_40 rfl (by decide) ?_
      refine R_iload4 (pc := 42) dX10_cardsFor_42 ?_
      refine R_iload7 (pc := 44) dX10_cardsFor_44 ?_
      refine R_if_eq (pc := 46) 77 dX10_cardsFor_46 (by decide) (fun c_46 => ?_) (fun c_46 => ?_)
      · skip
        have c_46 : ¬ z_has (M.2.1 (5 - c)) (nI i) = true := bI_0.mp c_46
        refine R_iconst (pc := 77) (v := 0) dX10_cardsFor_77 (by decide) ?_
        refine R_iadd (pc := 78) dX10_cardsFor_78 ?_
        refine R_istore4 (pc := 79) dX10_cardsFor_79 rfl (by decide) ?_
        refine R_iinc5 (pc := 81) dX10_cardsFor_81 rfl (by decide) ?_
        refine R_goto (pc := 84) 6 dX10_cardsFor_84 (by decide) ?_
        rw [nI_s, kf_s]
        have hif : z_cards M.2.1 sn e c y card a i = a + 0 := by rw [z_cards, if_neg (fun z => c_46 z.1)]
        rw [hif]
        exact ih (i + 1) _ _ _ _ _ _ (by omega) q1 (Or.inr ⟨_, _, rfl, rfl⟩)
      · skip
        have c_46 : z_has (M.2.1 (5 - c)) (nI i) = true := Classical.not_not.mp (fun z => c_46 (bI_f z))
        refine R_aload_n0 (pc := 49) dX10_cardsFor_49 ?_
        refine R_iload_n1 (pc := 50) dX10_cardsFor_50 ?_
        refine R_iload_n2 (pc := 51) dX10_cardsFor_51 ?_
        refine R_aload_n0 (pc := 52) dX10_cardsFor_52 ?_
        refine R_iload_n1 (pc := 53) dX10_cardsFor_53 ?_
        refine R_iload6 (pc := 54) dX10_cardsFor_54 ?_
        refine R_bipush (pc := 56) (v := 10) dX10_cardsFor_56 (by decide) ?_
        refine R_idiv (pc := 58) dX10_cardsFor_58 (by decide) ?_
        refine R_iload6 (pc := 59) dX10_cardsFor_59 ?_
        refine R_bipush (pc := 61) (v := 10) dX10_cardsFor_61 (by decide) ?_
        refine R_irem (pc := 63) dX10_cardsFor_63 (by decide) ?_
        refine R_callV3 (pc := 64) (T := TX10) cal_X10_stepsBy kw970 kw972 kw35 dX10_cardsFor_64 (c_X10_stepsBy hM1 he) (by decide) (Nat.le_of_ble_eq_true rfl) (ci := 8) rfl (by assumption) ?_
        rintro _ _ ⟨rfl, rfl⟩
        refine R_callV3 (pc := 67) (T := TX10) cal_X10_pathTo kw1138 kw1140 kw53 dX10_cardsFor_67 (c_X10_pathTo hM1 hn hsn he) (by decide) (Nat.le_of_ble_eq_true rfl) (ci := 8) rfl (by assumption) ?_
        rintro _ h67 ⟨X, Y, rfl, hz, e67⟩
        have q67 : h67 = mput h u (gM M X Y) := by rw [mstep_M q1 e67, gM_gM]
        have hM67 := mAt q67
        have mo67 := hM67.o
        have ms67 := hM67.s
        have mb67 := hM67.b
        have mt67 := hM67.t
        have mn67 := hM67.n
        have mc67 := hM67.c
        refine R_if_le (pc := 70) 77 dX10_cardsFor_70 (by decide) (fun c_70 => ?_) (fun c_70 => ?_)
        · skip
          have d_70 := Int32.not_lt.mpr c_70
          have c_70 : (z_path M.2.1 sn e y (z_steps M.2.1 e ((zp_wind M.2.1 (nI card) (nI i)) / 10) ((zp_wind M.2.1 (nI card) (nI i)) - (zp_wind M.2.1 (nI card) (nI i)) / 10 * 10))) = 0 := (bp_le0 (z_path_le _ _ _ _ _)).mp c_70
          refine R_iconst (pc := 77) (v := 0) dX10_cardsFor_77 (by decide) ?_
          refine R_iadd (pc := 78) dX10_cardsFor_78 ?_
          refine R_istore4 (pc := 79) dX10_cardsFor_79 rfl (by decide) ?_
          refine R_iinc5 (pc := 81) dX10_cardsFor_81 rfl (by decide) ?_
          refine R_goto (pc := 84) 6 dX10_cardsFor_84 (by decide) ?_
          rw [nI_s, kf_s]
          have hif : z_cards M.2.1 sn e c y card a i = a + 0 := by rw [z_cards, if_neg (fun z => z.2 c_70)]
          rw [hif]
          exact ih (i + 1) _ _ _ _ _ _ (by omega) q67 (Or.inr ⟨_, _, rfl, rfl⟩)
        · skip
          have d_70 := Int32.not_le.mp c_70
          have c_70 : ¬ (z_path M.2.1 sn e y (z_steps M.2.1 e ((zp_wind M.2.1 (nI card) (nI i)) / 10) ((zp_wind M.2.1 (nI card) (nI i)) - (zp_wind M.2.1 (nI card) (nI i)) / 10 * 10))) = 0 := fun z => c_70 ((bp_le0 (z_path_le _ _ _ _ _)).mpr z)
          refine R_iconst (pc := 73) (v := 1) dX10_cardsFor_73 (by decide) ?_
          refine R_goto (pc := 74) 78 dX10_cardsFor_74 (by decide) ?_
          refine R_iadd (pc := 78) dX10_cardsFor_78 ?_
          refine R_istore4 (pc := 79) dX10_cardsFor_79 rfl (by decide) ?_
          refine R_iinc5 (pc := 81) dX10_cardsFor_81 rfl (by decide) ?_
          refine R_goto (pc := 84) 6 dX10_cardsFor_84 (by decide) ?_
          rw [nI_s, kf_s]
          have hif : z_cards M.2.1 sn e c y card a i = a + 1 := by rw [z_cards, if_pos ⟨c_46, c_70⟩]
          rw [hif]
          exact ih (i + 1) _ _ _ _ _ _ (by omega) q67 (Or.inr ⟨_, _, rfl, rfl⟩)

set_option maxHeartbeats 4000000 in
set_option maxRecDepth 100000 in
theorem c_X10_cardsFor (hM : MAt h u M) {sn : Nat} (hn : sn ≤ 8) (hsn : M.2.1 10 = nI sn) {e c y card : Nat} (he : e < 8) (hc : c < 2) (hcc : gx M.2.1 e 0 = nI c)  : Spec l D cA N0 m_X10_cardsFor 5 0 0 [.ref u, .int (nI e), .int (nI y), .int (nI card)] h (fun r h' => r = some (.int (kf (z_cards M.2.1 sn e c y card) 0 0 6)) ∧ ∃ X Y, h' = mput h u (gM M X Y)) := by
  refine Spec.of (L := [some (.ref u), some (.int (nI e)), some (.int (nI y)), some (.int (nI card)), none, none, none, none]) (by decide) rfl (Nat.le_of_ble_eq_true rfl) ?_
  have q0 : h = mput h u M := (mput_self hM).symm
  have mo0 := hM.o
  have ms0 := hM.s
  have mb0 := hM.b
  have mt0 := hM.t
  have mn0 := hM.n
  have mc0 := hM.c
  refine R_iconst (pc := 0) (v := 0) dX10_cardsFor_0 (by decide) ?_
  refine R_istore4 (pc := 1) dX10_cardsFor_1 rfl (by decide) ?_
  refine R_iconst (pc := 3) (v := 0) dX10_cardsFor_3 (by decide) ?_
  refine R_istore5 (pc := 4) dX10_cardsFor_4 rfl (by decide) ?_
  exact L_X10_cardsFor hM hn hsn he hc hcc 6 0 0 _ _ _ none none rfl (q_go hM) (Or.inl ⟨rfl, rfl⟩)

set_option maxHeartbeats 4000000 in
set_option maxRecDepth 100000 in
theorem L_X10_bestCard (hM : MAt h u M) {sn : Nat} (hn : sn ≤ 8) (hsn : M.2.1 10 = nI sn) {e c y : Nat} (he : e < 8) (hc : c < 2) (hcc : gx M.2.1 e 0 = nI c) {v : Int32} : ∀ (n i : Nat) (b m x d : Int32) (h1 : AH) (q : Option Value), i + n = 6 → h1 = mput h u (gM M x d) → q = none ∨ (∃ z, q = some (.int z)) → RunM l D cA N0 m_X10_bestCard 6 0 0 (fun r h' => r = some (.int (if (kq (z_bf M.2.1 sn e c y) b m i n).1 = -9 ∨ v = 0 then (kq (z_bf M.2.1 sn e c y) b m i n).1 else (kq (z_bf M.2.1 sn e c y) b m i n).2)) ∧ ∃ M2, h' = mput h u M2 ∧ Ms M M2) h1 0 0 37 [some (.ref u), some (.int (nI e)), some (.int (nI y)), some (.int v), some (.int b), some (.int m), some (.int (nI i)), q] [] := by
  intro n
  induction n with
  | zero =>
    intro i b m x d h1 q hi q1 hq
    have hM1 := mAt q1
    have mo1 := hM1.o
    have ms1 := hM1.s
    have mb1 := hM1.b
    have mt1 := hM1.t
    have mn1 := hM1.n
    have mc1 := hM1.c
    rcases hq with rfl | ⟨z, rfl⟩
    · skip
      refine R_iload6 (pc := 37) dX10_bestCard_37 ?_
      refine R_bipush (pc := 39) (v := 6) dX10_bestCard_39 (by decide) ?_
      refine R_icmp_ge (pc := 41) 117 dX10_bestCard_41 (by decide) (fun c_41 => ?_) (fun c_41 => absurd (by rw [show i = 6 by omega]; decide) c_41)
      refine R_iload4 (pc := 117) dX10_bestCard_117 ?_
      refine R_bipush (pc := 119) (v := (-9)) dX10_bestCard_119 (by decide) ?_
      refine R_icmp_eq (pc := 121) 128 dX10_bestCard_121 (by decide) (fun c_121 => ?_) (fun c_121 => ?_)
      · skip
        refine R_iload4 (pc := 128) dX10_bestCard_128 ?_
        refine R_goto (pc := 130) 135 dX10_bestCard_130 (by decide) ?_
        refine R_iret (pc := 135) rfl rfl dX10_bestCard_135 ?_
        exact ⟨by rw [kq, if_pos (Or.inl c_121)], _, q1, Ms.gM _ _ _⟩
      · skip
        refine R_iload_n3 (pc := 124) dX10_bestCard_124 ?_
        refine R_if_ne (pc := 125) 133 dX10_bestCard_125 (by decide) (fun c_125 => ?_) (fun c_125 => ?_)
        · skip
          refine R_iload5 (pc := 133) dX10_bestCard_133 ?_
          refine R_iret (pc := 135) rfl rfl dX10_bestCard_135 ?_
          exact ⟨by rw [kq, if_neg (fun z => z.elim c_121 c_125)], _, q1, Ms.gM _ _ _⟩
        · skip
          refine R_iload4 (pc := 128) dX10_bestCard_128 ?_
          refine R_goto (pc := 130) 135 dX10_bestCard_130 (by decide) ?_
          refine R_iret (pc := 135) rfl rfl dX10_bestCard_135 ?_
          exact ⟨by rw [kq, if_pos (Or.inr c_125)], _, q1, Ms.gM _ _ _⟩
    · skip
      refine R_iload6 (pc := 37) dX10_bestCard_37 ?_
      refine R_bipush (pc := 39) (v := 6) dX10_bestCard_39 (by decide) ?_
      refine R_icmp_ge (pc := 41) 117 dX10_bestCard_41 (by decide) (fun c_41 => ?_) (fun c_41 => absurd (by rw [show i = 6 by omega]; decide) c_41)
      refine R_iload4 (pc := 117) dX10_bestCard_117 ?_
      refine R_bipush (pc := 119) (v := (-9)) dX10_bestCard_119 (by decide) ?_
      refine R_icmp_eq (pc := 121) 128 dX10_bestCard_121 (by decide) (fun c_121 => ?_) (fun c_121 => ?_)
      · skip
        refine R_iload4 (pc := 128) dX10_bestCard_128 ?_
        refine R_goto (pc := 130) 135 dX10_bestCard_130 (by decide) ?_
        refine R_iret (pc := 135) rfl rfl dX10_bestCard_135 ?_
        exact ⟨by rw [kq, if_pos (Or.inl c_121)], _, q1, Ms.gM _ _ _⟩
      · skip
        refine R_iload_n3 (pc := 124) dX10_bestCard_124 ?_
        refine R_if_ne (pc := 125) 133 dX10_bestCard_125 (by decide) (fun c_125 => ?_) (fun c_125 => ?_)
        · skip
          refine R_iload5 (pc := 133) dX10_bestCard_133 ?_
          refine R_iret (pc := 135) rfl rfl dX10_bestCard_135 ?_
          exact ⟨by rw [kq, if_neg (fun z => z.elim c_121 c_125)], _, q1, Ms.gM _ _ _⟩
        · skip
          refine R_iload4 (pc := 128) dX10_bestCard_128 ?_
          refine R_goto (pc := 130) 135 dX10_bestCard_130 (by decide) ?_
          refine R_iret (pc := 135) rfl rfl dX10_bestCard_135 ?_
          exact ⟨by rw [kq, if_pos (Or.inr c_125)], _, q1, Ms.gM _ _ _⟩
  | succ n ih =>
    intro i b m x d h1 q hi q1 hq
    have hM1 := mAt q1
    have mo1 := hM1.o
    have ms1 := hM1.s
    have mb1 := hM1.b
    have mt1 := hM1.t
    have mn1 := hM1.n
    have mc1 := hM1.c
    rcases hq with rfl | ⟨z, rfl⟩
    · skip
      refine R_iload6 (pc := 37) dX10_bestCard_37 ?_
      refine R_bipush (pc := 39) (v := 6) dX10_bestCard_39 (by decide) ?_
      refine R_icmp_ge (pc := 41) 117 dX10_bestCard_41 (by decide) (fun c_41 => absurd c_41 (nI_ge (show i < 6 by omega) (by decide))) (fun c_41 => ?_)
      refine R_aload_n0 (pc := 44) dX10_bestCard_44 ?_
      refine G_X10_7 (pc := 45) dX10_bestCard_45 (by assumption) ?_
      refine R_iconst (pc := 48) (v := 4) dX10_bestCard_48 (by decide) ?_
      refine R_aload_n0 (pc := 49) dX10_bestCard_49 ?_
      refine R_iload_n1 (pc := 50) dX10_bestCard_50 ?_
      refine R_iconst (pc := 51) (v := 0) dX10_bestCard_51 (by decide) ?_
      refine R_callV2 (pc := 52) (T := TX10) cal_X10_get kw899 kw901 kw25 dX10_bestCard_52 (c_X10_get hM1 he (k := 0) (by decide)) (by decide) (Nat.le_of_ble_eq_true rfl) (ci := 8) rfl (by assumption) ?_
      rintro _ _ ⟨rfl, rfl⟩
      refine R_iadd (pc := 55) dX10_bestCard_55 ?_
      rw [show gx (gM M x d).2.1 e 0 = nI c from hcc, show (4 : Int32) + nI c = nI (4 + c) from nI_add 4 c]
      refine R_iald (pc := 56) dX10_bestCard_56 (by assumption) (in_n (show 4 + c < 545 by omega) (by decide)) ?_
      rw [nI_clamp (show 4 + c < 2 ^ 31 by omega)]
      refine R_iload6 (pc := 57) dX10_bestCard_57 ?_
      refine R_callS2 (pc := 59) cal_X10_has kw943 kw944 dX10_bestCard_59 c_X10_has (by decide) (Nat.le_of_ble_eq_true rfl) ?_
      rintro _ _ ⟨rfl, rfl⟩
      refine R_ifb_eq (pc := 62) 76 dX10_bestCard_62 (by decide) (fun c_62 => ?_) (fun c_62 => ?_)
      · skip
        have c_62 : ¬ z_has (M.2.1 (4 + c)) (nI i) = true := c_62
        refine R_iconst (pc := 76) (v := 0) dX10_bestCard_76 (by decide) ?_
        refine R_istore7 (pc := 77) dX10_bestCard_77 rfl (by decide) ?_
        refine R_iload7 (pc := 79) dX10_bestCard_79 ?_
        refine R_iload5 (pc := 81) dX10_bestCard_81 ?_
        refine R_icmp_le (pc := 83) 91 dX10_bestCard_83 (by decide) (fun c_83 => ?_) (fun c_83 => ?_)
        · skip
          have d_83 := Int32.not_lt.mpr c_83
          refine R_iload4 (pc := 91) dX10_bestCard_91 ?_
          refine R_istore4 (pc := 93) dX10_bestCard_93 rfl (by decide) ?_
          refine R_iload7 (pc := 95) dX10_bestCard_95 ?_
          refine R_iload5 (pc := 97) dX10_bestCard_97 ?_
          refine R_icmp_le (pc := 99) 107 dX10_bestCard_99 (by decide) (fun c_99 => ?_) (fun c_99 => ?_)
          · skip
            have d_99 := Int32.not_lt.mpr c_99
            refine R_iload5 (pc := 107) dX10_bestCard_107 ?_
            refine R_istore5 (pc := 109) dX10_bestCard_109 rfl (by decide) ?_
            refine R_iinc6 (pc := 111) dX10_bestCard_111 rfl (by decide) ?_
            refine R_goto (pc := 114) 37 dX10_bestCard_114 (by decide) ?_
            have hf : z_bf M.2.1 sn e c y i = 0 := by rw [z_bf, if_neg c_62]
            have hkq : kq (z_bf M.2.1 sn e c y) b m i (n + 1) = kq (z_bf M.2.1 sn e c y) b m (i + 1) n := by rw [kq_s, hf]; exact if_pos c_83
            rw [nI_s, hkq]
            exact ih (i + 1) _ _ _ _ _ _ (by omega) q1 (Or.inr ⟨_, rfl⟩)
          · skip
            have d_99 := Int32.not_le.mp c_99
            refine R_iload7 (pc := 102) dX10_bestCard_102 ?_
            refine R_goto (pc := 104) 109 dX10_bestCard_104 (by decide) ?_
            refine R_istore5 (pc := 109) dX10_bestCard_109 rfl (by decide) ?_
            refine R_iinc6 (pc := 111) dX10_bestCard_111 rfl (by decide) ?_
            refine R_goto (pc := 114) 37 dX10_bestCard_114 (by decide) ?_
            exact absurd c_83 c_99
        · skip
          have d_83 := Int32.not_le.mp c_83
          refine R_iload6 (pc := 86) dX10_bestCard_86 ?_
          refine R_goto (pc := 88) 93 dX10_bestCard_88 (by decide) ?_
          refine R_istore4 (pc := 93) dX10_bestCard_93 rfl (by decide) ?_
          refine R_iload7 (pc := 95) dX10_bestCard_95 ?_
          refine R_iload5 (pc := 97) dX10_bestCard_97 ?_
          refine R_icmp_le (pc := 99) 107 dX10_bestCard_99 (by decide) (fun c_99 => ?_) (fun c_99 => ?_)
          · skip
            have d_99 := Int32.not_lt.mpr c_99
            refine R_iload5 (pc := 107) dX10_bestCard_107 ?_
            refine R_istore5 (pc := 109) dX10_bestCard_109 rfl (by decide) ?_
            refine R_iinc6 (pc := 111) dX10_bestCard_111 rfl (by decide) ?_
            refine R_goto (pc := 114) 37 dX10_bestCard_114 (by decide) ?_
            exact absurd c_99 c_83
          · skip
            have d_99 := Int32.not_le.mp c_99
            refine R_iload7 (pc := 102) dX10_bestCard_102 ?_
            refine R_goto (pc := 104) 109 dX10_bestCard_104 (by decide) ?_
            refine R_istore5 (pc := 109) dX10_bestCard_109 rfl (by decide) ?_
            refine R_iinc6 (pc := 111) dX10_bestCard_111 rfl (by decide) ?_
            refine R_goto (pc := 114) 37 dX10_bestCard_114 (by decide) ?_
            have hf : z_bf M.2.1 sn e c y i = 0 := by rw [z_bf, if_neg c_62]
            have hkq : kq (z_bf M.2.1 sn e c y) b m i (n + 1) = kq (z_bf M.2.1 sn e c y) (nI i) 0 (i + 1) n := by rw [kq_s, hf]; exact if_neg c_83
            rw [nI_s, hkq]
            exact ih (i + 1) _ _ _ _ _ _ (by omega) q1 (Or.inr ⟨_, rfl⟩)
      · skip
        have c_62 : z_has (M.2.1 (4 + c)) (nI i) = true := c_62
        refine R_aload_n0 (pc := 65) dX10_bestCard_65 ?_
        refine R_iload_n1 (pc := 66) dX10_bestCard_66 ?_
        refine R_iload_n2 (pc := 67) dX10_bestCard_67 ?_
        refine R_iload6 (pc := 68) dX10_bestCard_68 ?_
        refine R_callV3 (pc := 70) (T := TX10) cal_X10_cardsFor kw1157 kw1159 kw54 dX10_bestCard_70 (c_X10_cardsFor hM1 hn hsn he hc hcc) (by decide) (Nat.le_of_ble_eq_true rfl) (ci := 8) rfl (by assumption) ?_
        rintro _ h70 ⟨rfl, X, Y, e70⟩
        have q70 : h70 = mput h u (gM M X Y) := by rw [mstep_M q1 e70, gM_gM]
        have hM70 := mAt q70
        have mo70 := hM70.o
        have ms70 := hM70.s
        have mb70 := hM70.b
        have mt70 := hM70.t
        have mn70 := hM70.n
        have mc70 := hM70.c
        refine R_goto (pc := 73) 77 dX10_bestCard_73 (by decide) ?_
        refine R_istore7 (pc := 77) dX10_bestCard_77 rfl (by decide) ?_
        refine R_iload7 (pc := 79) dX10_bestCard_79 ?_
        refine R_iload5 (pc := 81) dX10_bestCard_81 ?_
        refine R_icmp_le (pc := 83) 91 dX10_bestCard_83 (by decide) (fun c_83 => ?_) (fun c_83 => ?_)
        · skip
          have d_83 := Int32.not_lt.mpr c_83
          refine R_iload4 (pc := 91) dX10_bestCard_91 ?_
          refine R_istore4 (pc := 93) dX10_bestCard_93 rfl (by decide) ?_
          refine R_iload7 (pc := 95) dX10_bestCard_95 ?_
          refine R_iload5 (pc := 97) dX10_bestCard_97 ?_
          refine R_icmp_le (pc := 99) 107 dX10_bestCard_99 (by decide) (fun c_99 => ?_) (fun c_99 => ?_)
          · skip
            have d_99 := Int32.not_lt.mpr c_99
            refine R_iload5 (pc := 107) dX10_bestCard_107 ?_
            refine R_istore5 (pc := 109) dX10_bestCard_109 rfl (by decide) ?_
            refine R_iinc6 (pc := 111) dX10_bestCard_111 rfl (by decide) ?_
            refine R_goto (pc := 114) 37 dX10_bestCard_114 (by decide) ?_
            have hf : z_bf M.2.1 sn e c y i = kf (z_cards M.2.1 sn e c y i) 0 0 6 := by rw [z_bf, if_pos c_62]
            have hkq : kq (z_bf M.2.1 sn e c y) b m i (n + 1) = kq (z_bf M.2.1 sn e c y) b m (i + 1) n := by rw [kq_s, hf]; exact if_pos c_83
            rw [nI_s, hkq]
            exact ih (i + 1) _ _ _ _ _ _ (by omega) q70 (Or.inr ⟨_, rfl⟩)
          · skip
            have d_99 := Int32.not_le.mp c_99
            refine R_iload7 (pc := 102) dX10_bestCard_102 ?_
            refine R_goto (pc := 104) 109 dX10_bestCard_104 (by decide) ?_
            refine R_istore5 (pc := 109) dX10_bestCard_109 rfl (by decide) ?_
            refine R_iinc6 (pc := 111) dX10_bestCard_111 rfl (by decide) ?_
            refine R_goto (pc := 114) 37 dX10_bestCard_114 (by decide) ?_
            exact absurd c_83 c_99
        · skip
          have d_83 := Int32.not_le.mp c_83
          refine R_iload6 (pc := 86) dX10_bestCard_86 ?_
          refine R_goto (pc := 88) 93 dX10_bestCard_88 (by decide) ?_
          refine R_istore4 (pc := 93) dX10_bestCard_93 rfl (by decide) ?_
          refine R_iload7 (pc := 95) dX10_bestCard_95 ?_
          refine R_iload5 (pc := 97) dX10_bestCard_97 ?_
          refine R_icmp_le (pc := 99) 107 dX10_bestCard_99 (by decide) (fun c_99 => ?_) (fun c_99 => ?_)
          · skip
            have d_99 := Int32.not_lt.mpr c_99
            refine R_iload5 (pc := 107) dX10_bestCard_107 ?_
            refine R_istore5 (pc := 109) dX10_bestCard_109 rfl (by decide) ?_
            refine R_iinc6 (pc := 111) dX10_bestCard_111 rfl (by decide) ?_
            refine R_goto (pc := 114) 37 dX10_bestCard_114 (by decide) ?_
            exact absurd c_99 c_83
          · skip
            have d_99 := Int32.not_le.mp c_99
            refine R_iload7 (pc := 102) dX10_bestCard_102 ?_
            refine R_goto (pc := 104) 109 dX10_bestCard_104 (by decide) ?_
            refine R_istore5 (pc := 109) dX10_bestCard_109 rfl (by decide) ?_
            refine R_iinc6 (pc := 111) dX10_bestCard_111 rfl (by decide) ?_
            refine R_goto (pc := 114) 37 dX10_bestCard_114 (by decide) ?_
            have hf : z_bf M.2.1 sn e c y i = kf (z_cards M.2.1 sn e c y i) 0 0 6 := by rw [z_bf, if_pos c_62]
            have hkq : kq (z_bf M.2.1 sn e c y) b m i (n + 1) = kq (z_bf M.2.1 sn e c y) (nI i) (kf (z_cards M.2.1 sn e c y i) 0 0 6) (i + 1) n := by rw [kq_s, hf]; exact if_neg c_83
            rw [nI_s, hkq]
            exact ih (i + 1) _ _ _ _ _ _ (by omega) q70 (Or.inr ⟨_, rfl⟩)
    · skip
      refine R_iload6 (pc := 37) dX10_bestCard_37 ?_
      refine R_bipush (pc := 39) (v := 6) dX10_bestCard_39 (by decide) ?_
      refine R_icmp_ge (pc := 41) 117 dX10_bestCard_41 (by decide) (fun c_41 => absurd c_41 (nI_ge (show i < 6 by omega) (by decide))) (fun c_41 => ?_)
      refine R_aload_n0 (pc := 44) dX10_bestCard_44 ?_
      refine G_X10_7 (pc := 45) dX10_bestCard_45 (by assumption) ?_
      refine R_iconst (pc := 48) (v := 4) dX10_bestCard_48 (by decide) ?_
      refine R_aload_n0 (pc := 49) dX10_bestCard_49 ?_
      refine R_iload_n1 (pc := 50) dX10_bestCard_50 ?_
      refine R_iconst (pc := 51) (v := 0) dX10_bestCard_51 (by decide) ?_
      refine R_callV2 (pc := 52) (T := TX10) cal_X10_get kw899 kw901 kw25 dX10_bestCard_52 (c_X10_get hM1 he (k := 0) (by decide)) (by decide) (Nat.le_of_ble_eq_true rfl) (ci := 8) rfl (by assumption) ?_
      rintro _ _ ⟨rfl, rfl⟩
      refine R_iadd (pc := 55) dX10_bestCard_55 ?_
      rw [show gx (gM M x d).2.1 e 0 = nI c from hcc, show (4 : Int32) + nI c = nI (4 + c) from nI_add 4 c]
      refine R_iald (pc := 56) dX10_bestCard_56 (by assumption) (in_n (show 4 + c < 545 by omega) (by decide)) ?_
      rw [nI_clamp (show 4 + c < 2 ^ 31 by omega)]
      refine R_iload6 (pc := 57) dX10_bestCard_57 ?_
      refine R_callS2 (pc := 59) cal_X10_has kw943 kw944 dX10_bestCard_59 c_X10_has (by decide) (Nat.le_of_ble_eq_true rfl) ?_
      rintro _ _ ⟨rfl, rfl⟩
      refine R_ifb_eq (pc := 62) 76 dX10_bestCard_62 (by decide) (fun c_62 => ?_) (fun c_62 => ?_)
      · skip
        have c_62 : ¬ z_has (M.2.1 (4 + c)) (nI i) = true := c_62
        refine R_iconst (pc := 76) (v := 0) dX10_bestCard_76 (by decide) ?_
        refine R_istore7 (pc := 77) dX10_bestCard_77 rfl (by decide) ?_
        refine R_iload7 (pc := 79) dX10_bestCard_79 ?_
        refine R_iload5 (pc := 81) dX10_bestCard_81 ?_
        refine R_icmp_le (pc := 83) 91 dX10_bestCard_83 (by decide) (fun c_83 => ?_) (fun c_83 => ?_)
        · skip
          have d_83 := Int32.not_lt.mpr c_83
          refine R_iload4 (pc := 91) dX10_bestCard_91 ?_
          refine R_istore4 (pc := 93) dX10_bestCard_93 rfl (by decide) ?_
          refine R_iload7 (pc := 95) dX10_bestCard_95 ?_
          refine R_iload5 (pc := 97) dX10_bestCard_97 ?_
          refine R_icmp_le (pc := 99) 107 dX10_bestCard_99 (by decide) (fun c_99 => ?_) (fun c_99 => ?_)
          · skip
            have d_99 := Int32.not_lt.mpr c_99
            refine R_iload5 (pc := 107) dX10_bestCard_107 ?_
            refine R_istore5 (pc := 109) dX10_bestCard_109 rfl (by decide) ?_
            refine R_iinc6 (pc := 111) dX10_bestCard_111 rfl (by decide) ?_
            refine R_goto (pc := 114) 37 dX10_bestCard_114 (by decide) ?_
            have hf : z_bf M.2.1 sn e c y i = 0 := by rw [z_bf, if_neg c_62]
            have hkq : kq (z_bf M.2.1 sn e c y) b m i (n + 1) = kq (z_bf M.2.1 sn e c y) b m (i + 1) n := by rw [kq_s, hf]; exact if_pos c_83
            rw [nI_s, hkq]
            exact ih (i + 1) _ _ _ _ _ _ (by omega) q1 (Or.inr ⟨_, rfl⟩)
          · skip
            have d_99 := Int32.not_le.mp c_99
            refine R_iload7 (pc := 102) dX10_bestCard_102 ?_
            refine R_goto (pc := 104) 109 dX10_bestCard_104 (by decide) ?_
            refine R_istore5 (pc := 109) dX10_bestCard_109 rfl (by decide) ?_
            refine R_iinc6 (pc := 111) dX10_bestCard_111 rfl (by decide) ?_
            refine R_goto (pc := 114) 37 dX10_bestCard_114 (by decide) ?_
            exact absurd c_83 c_99
        · skip
          have d_83 := Int32.not_le.mp c_83
          refine R_iload6 (pc := 86) dX10_bestCard_86 ?_
          refine R_goto (pc := 88) 93 dX10_bestCard_88 (by decide) ?_
          refine R_istore4 (pc := 93) dX10_bestCard_93 rfl (by decide) ?_
          refine R_iload7 (pc := 95) dX10_bestCard_95 ?_
          refine R_iload5 (pc := 97) dX10_bestCard_97 ?_
          refine R_icmp_le (pc := 99) 107 dX10_bestCard_99 (by decide) (fun c_99 => ?_) (fun c_99 => ?_)
          · skip
            have d_99 := Int32.not_lt.mpr c_99
            refine R_iload5 (pc := 107) dX10_bestCard_107 ?_
            refine R_istore5 (pc := 109) dX10_bestCard_109 rfl (by decide) ?_
            refine R_iinc6 (pc := 111) dX10_bestCard_111 rfl (by decide) ?_
            refine R_goto (pc := 114) 37 dX10_bestCard_114 (by decide) ?_
            exact absurd c_99 c_83
          · skip
            have d_99 := Int32.not_le.mp c_99
            refine R_iload7 (pc := 102) dX10_bestCard_102 ?_
            refine R_goto (pc := 104) 109 dX10_bestCard_104 (by decide) ?_
            refine R_istore5 (pc := 109) dX10_bestCard_109 rfl (by decide) ?_
            refine R_iinc6 (pc := 111) dX10_bestCard_111 rfl (by decide) ?_
            refine R_goto (pc := 114) 37 dX10_bestCard_114 (by decide) ?_
            have hf : z_bf M.2.1 sn e c y i = 0 := by rw [z_bf, if_neg c_62]
            have hkq : kq (z_bf M.2.1 sn e c y) b m i (n + 1) = kq (z_bf M.2.1 sn e c y) (nI i) 0 (i + 1) n := by rw [kq_s, hf]; exact if_neg c_83
            rw [nI_s, hkq]
            exact ih (i + 1) _ _ _ _ _ _ (by omega) q1 (Or.inr ⟨_, rfl⟩)
      · skip
        have c_62 : z_has (M.2.1 (4 + c)) (nI i) = true := c_62
        refine R_aload_n0 (pc := 65) dX10_bestCard_65 ?_
        refine R_iload_n1 (pc := 66) dX10_bestCard_66 ?_
        refine R_iload_n2 (pc := 67) dX10_bestCard_67 ?_
        refine R_iload6 (pc := 68) dX10_bestCard_68 ?_
        refine R_callV3 (pc := 70) (T := TX10) cal_X10_cardsFor kw1157 kw1159 kw54 dX10_bestCard_70 (c_X10_cardsFor hM1 hn hsn he hc hcc) (by decide) (Nat.le_of_ble_eq_true rfl) (ci := 8) rfl (by assumption) ?_
        rintro _ h70 ⟨rfl, X, Y, e70⟩
        have q70 : h70 = mput h u (gM M X Y) := by rw [mstep_M q1 e70, gM_gM]
        have hM70 := mAt q70
        have mo70 := hM70.o
        have ms70 := hM70.s
        have mb70 := hM70.b
        have mt70 := hM70.t
        have mn70 := hM70.n
        have mc70 := hM70.c
        refine R_goto (pc := 73) 77 dX10_bestCard_73 (by decide) ?_
        refine R_istore7 (pc := 77) dX10_bestCard_77 rfl (by decide) ?_
        refine R_iload7 (pc := 79) dX10_bestCard_79 ?_
        refine R_iload5 (pc := 81) dX10_bestCard_81 ?_
        refine R_icmp_le (pc := 83) 91 dX10_bestCard_83 (by decide) (fun c_83 => ?_) (fun c_83 => ?_)
        · skip
          have d_83 := Int32.not_lt.mpr c_83
          refine R_iload4 (pc := 91) dX10_bestCard_91 ?_
          refine R_istore4 (pc := 93) dX10_bestCard_93 rfl (by decide) ?_
          refine R_iload7 (pc := 95) dX10_bestCard_95 ?_
          refine R_iload5 (pc := 97) dX10_bestCard_97 ?_
          refine R_icmp_le (pc := 99) 107 dX10_bestCard_99 (by decide) (fun c_99 => ?_) (fun c_99 => ?_)
          · skip
            have d_99 := Int32.not_lt.mpr c_99
            refine R_iload5 (pc := 107) dX10_bestCard_107 ?_
            refine R_istore5 (pc := 109) dX10_bestCard_109 rfl (by decide) ?_
            refine R_iinc6 (pc := 111) dX10_bestCard_111 rfl (by decide) ?_
            refine R_goto (pc := 114) 37 dX10_bestCard_114 (by decide) ?_
            have hf : z_bf M.2.1 sn e c y i = kf (z_cards M.2.1 sn e c y i) 0 0 6 := by rw [z_bf, if_pos c_62]
            have hkq : kq (z_bf M.2.1 sn e c y) b m i (n + 1) = kq (z_bf M.2.1 sn e c y) b m (i + 1) n := by rw [kq_s, hf]; exact if_pos c_83
            rw [nI_s, hkq]
            exact ih (i + 1) _ _ _ _ _ _ (by omega) q70 (Or.inr ⟨_, rfl⟩)
          · skip
            have d_99 := Int32.not_le.mp c_99
            refine R_iload7 (pc := 102) dX10_bestCard_102 ?_
            refine R_goto (pc := 104) 109 dX10_bestCard_104 (by decide) ?_
            refine R_istore5 (pc := 109) dX10_bestCard_109 rfl (by decide) ?_
            refine R_iinc6 (pc := 111) dX10_bestCard_111 rfl (by decide) ?_
            refine R_goto (pc := 114) 37 dX10_bestCard_114 (by decide) ?_
            exact absurd c_83 c_99
        · skip
          have d_83 := Int32.not_le.mp c_83
          refine R_iload6 (pc := 86) dX10_bestCard_86 ?_
          refine R_goto (pc := 88) 93 dX10_bestCard_88 (by decide) ?_
          refine R_istore4 (pc := 93) dX10_bestCard_93 rfl (by decide) ?_
          refine R_iload7 (pc := 95) dX10_bestCard_95 ?_
          refine R_iload5 (pc := 97) dX10_bestCard_97 ?_
          refine R_icmp_le (pc := 99) 107 dX10_bestCard_99 (by decide) (fun c_99 => ?_) (fun c_99 => ?_)
          · skip
            have d_99 := Int32.not_lt.mpr c_99
            refine R_iload5 (pc := 107) dX10_bestCard_107 ?_
            refine R_istore5 (pc := 109) dX10_bestCard_109 rfl (by decide) ?_
            refine R_iinc6 (pc := 111) dX10_bestCard_111 rfl (by decide) ?_
            refine R_goto (pc := 114) 37 dX10_bestCard_114 (by decide) ?_
            exact absurd c_99 c_83
          · skip
            have d_99 := Int32.not_le.mp c_99
            refine R_iload7 (pc := 102) dX10_bestCard_102 ?_
            refine R_goto (pc := 104) 109 dX10_bestCard_104 (by decide) ?_
            refine R_istore5 (pc := 109) dX10_bestCard_109 rfl (by decide) ?_
            refine R_iinc6 (pc := 111) dX10_bestCard_111 rfl (by decide) ?_
            refine R_goto (pc := 114) 37 dX10_bestCard_114 (by decide) ?_
            have hf : z_bf M.2.1 sn e c y i = kf (z_cards M.2.1 sn e c y i) 0 0 6 := by rw [z_bf, if_pos c_62]
            have hkq : kq (z_bf M.2.1 sn e c y) b m i (n + 1) = kq (z_bf M.2.1 sn e c y) (nI i) (kf (z_cards M.2.1 sn e c y i) 0 0 6) (i + 1) n := by rw [kq_s, hf]; exact if_neg c_83
            rw [nI_s, hkq]
            exact ih (i + 1) _ _ _ _ _ _ (by omega) q70 (Or.inr ⟨_, rfl⟩)

set_option maxHeartbeats 4000000 in
set_option maxRecDepth 100000 in
theorem c_X10_bestCard (hM : MAt h u M) {sn : Nat} (hn : sn ≤ 8) (hsn : M.2.1 10 = nI sn) {x y v : Int32} (hcp : ∀ e, e < sn → ∃ c, c < 2 ∧ gx M.2.1 e 0 = nI c) : Spec l D cA N0 m_X10_bestCard 6 0 0 [.ref u, .int x, .int y, .int v] h (fun r h' => r = some (.int (zp_best M.2.1 sn x y v)) ∧ ∃ M2, h' = mput h u M2 ∧ Ms M M2) := by
  refine Spec.of (L := [some (.ref u), some (.int x), some (.int y), some (.int v), none, none, none, none]) (by decide) rfl (Nat.le_of_ble_eq_true rfl) ?_
  have q0 : h = mput h u M := (mput_self hM).symm
  have mo0 := hM.o
  have ms0 := hM.s
  have mb0 := hM.b
  have mt0 := hM.t
  have mn0 := hM.n
  have mc0 := hM.c
  refine R_aload_n0 (pc := 0) dX10_bestCard_0 ?_
  refine R_iload_n1 (pc := 1) dX10_bestCard_1 ?_
  refine R_callV1 (pc := 2) (T := TX10) cal_X10_isShip kw958 kw960 kw32 dX10_bestCard_2 (c_X10_isShip hM hn hsn) (by decide) (Nat.le_of_ble_eq_true rfl) (ci := 8) rfl (by assumption) ?_
  rintro _ _ ⟨rfl, rfl⟩
  refine R_ifb_eq (pc := 5) 25 dX10_bestCard_5 (by decide) (fun c_5 => ?_) (fun c_5 => ?_)
  · skip
    refine R_iconst (pc := 25) (v := (-1)) dX10_bestCard_25 (by decide) ?_
    refine R_iret (pc := 26) rfl rfl dX10_bestCard_26 ?_
    exact ⟨by rw [zp_best, if_neg (fun z => c_5 z.1)], _, q0, Ms.rf M⟩
  · skip
    obtain ⟨i, hsi, ei⟩ := i_nI c_5.1 c_5.2 (by omega)
    have hi : i < 8 := by omega
    have hci : (nI i).toNatClampNeg = i := nI_clamp (by omega)
    subst ei
    refine R_iload_n2 (pc := 8) dX10_bestCard_8 ?_
    refine R_callS1 (pc := 9) cal_X10_isHex kw888 kw889 dX10_bestCard_9 c_X10_isHex (by decide) (Nat.le_of_ble_eq_true rfl) ?_
    rintro _ _ ⟨rfl, rfl⟩
    refine R_ifb_eq (pc := 12) 25 dX10_bestCard_12 (by decide) (fun c_12 => ?_) (fun c_12 => ?_)
    · skip
      refine R_iconst (pc := 25) (v := (-1)) dX10_bestCard_25 (by decide) ?_
      refine R_iret (pc := 26) rfl rfl dX10_bestCard_26 ?_
      exact ⟨by rw [zp_best, if_neg (fun z => c_12 z.2.1)], _, q0, Ms.rf M⟩
    · skip
      obtain ⟨y2, hy, ey⟩ := ge0 (n := 80) c_12.1 (by decide) c_12.2
      have hcy : (nI y2).toNatClampNeg = y2 := nI_clamp (by omega)
      subst ey
      refine R_iload_n3 (pc := 15) dX10_bestCard_15 ?_
      refine R_i2l (pc := 16) dX10_bestCard_16 ?_
      refine R_lconst (pc := 17) (v := 0) dX10_bestCard_17 (by decide) ?_
      refine R_lconst (pc := 18) (v := 1) dX10_bestCard_18 (by decide) ?_
      refine R_callS3 (pc := 19) cal_X10_in kw892 kw893 dX10_bestCard_19 (c_X10_in rfl (lo := 0) (by decide) (hi := 1) (by decide)) (by decide) (Nat.le_of_ble_eq_true rfl) ?_
      rintro _ _ ⟨rfl, rfl⟩
      refine R_ifb_ne (pc := 22) 27 dX10_bestCard_22 (by decide) (fun c_22 => ?_) (fun c_22 => ?_)
      · skip
        refine R_bipush (pc := 27) (v := (-9)) dX10_bestCard_27 (by decide) ?_
        refine R_istore4 (pc := 29) dX10_bestCard_29 rfl (by decide) ?_
        refine R_iconst (pc := 31) (v := 0) dX10_bestCard_31 (by decide) ?_
        refine R_istore5 (pc := 32) dX10_bestCard_32 rfl (by decide) ?_
        refine R_iconst (pc := 34) (v := 0) dX10_bestCard_34 (by decide) ?_
        refine R_istore6 (pc := 35) dX10_bestCard_35 rfl (by decide) ?_
        obtain ⟨c, hc, hcc⟩ := hcp i hsi
        refine R_post (fun r h9 q9 => ?_) (L_X10_bestCard hM hn hsn hi hc hcc 6 0 _ _ _ _ _ none rfl (q_go hM) (Or.inl rfl))
        refine ⟨?_, q9.2⟩
        simp only [zp_best]
        rw [if_pos ⟨c_5, c_12, c_22⟩, hci, hcy, hcc, nI_clamp (show c < 2 ^ 31 by omega)]
        exact q9.1
      · skip
        refine R_iconst (pc := 25) (v := (-1)) dX10_bestCard_25 (by decide) ?_
        refine R_iret (pc := 26) rfl rfl dX10_bestCard_26 ?_
        exact ⟨by rw [zp_best, if_neg (fun z => c_22 z.2.2)], _, q0, Ms.rf M⟩

end LV30
